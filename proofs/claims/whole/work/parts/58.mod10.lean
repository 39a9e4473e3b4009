/-! the model: texts -/
section
variable {μ : Mem_} {Q : PV → Mem_ → Prop}
set_option maxRecDepth 10000 in
theorem c_X8_text {r n : Int} (hc : fmOK μ) (h1 : ¬ ((0 ≤ r ∧ r < 4) ∧ n ≤ 120) → Q (I_ (-1)) μ) (h2 : (0 ≤ r ∧ r < 4) → n < 0 → Q (I_ (-3)) (mtC μ 5)) (h3 : (0 ≤ r ∧ r < 4) → (0 ≤ n ∧ n ≤ 120) → Q (I_ n) (mfill (mset μ 55 r.toNat n) 56 (120 * r).toNat 120 32)) : V_ nX8_text 0 [R_ 50, I_ r, I_ n, U_] [] μ Q := by
  have lp : (0 ≤ r ∧ r < 4) → (0 ≤ n ∧ n ≤ 120) → ∀ k : Int, 0 ≤ k → k ≤ 120 → V_ nX8_text 34 [R_ 50, I_ r, I_ n, I_ k] [] (mfill (mset μ 55 r.toNat n) 56 (120 * r).toNat k.toNat 32) Q := by
    intro hr hn
    refine loop_up _ (fun k h0 h1 ih => ?_)
    refine v_iload_n dX8_text_34 rfl rfl ?_
    refine v_bipush dX8_text_35 (by decide) ?_
    refine v_icmp_ge (tgt := 59) dX8_text_37 (by decide) (fun hc_37 => ?_) (fun hc_37 => ?_)
    · refine v_iload_n dX8_text_59 rfl rfl ?_
      refine v_ireturn dX8_text_60 rfl ?_
      have := h3 hr hn
      rwa [show k.toNat = 120 by omega]
    · refine v_aload_n dX8_text_40 rfl rfl ?_
      refine v_getR dX8_text_41 fX8_25 rfl rfl rfl ?_
      refine v_bipush dX8_text_44 (by decide) ?_
      refine v_iload_n dX8_text_46 rfl rfl ?_
      refine v_imul dX8_text_47 (fun ha hb => by omega) ?_
      refine v_iload_n dX8_text_48 rfl rfl ?_
      refine v_iadd dX8_text_49 (fun ha hb => by omega) ?_
      refine v_bipush dX8_text_50 (by decide) ?_
      refine v_bast dX8_text_52 rfl (by omega) (by omega) (by omega) (by omega) ?_
      refine v_iinc (ls' := [_, _, _, _]) dX8_text_53 rfl (fun hi_53 => by omega) rfl rfl ?_
      refine v_goto (tgt := 34) dX8_text_56 (by decide) ?_
      rw [show (120 * r + k).toNat = (120 * r).toNat + k.toNat by omega, mfill_s, show k.toNat + 1 = (k + 1).toNat by omega]
      exact ih (by omega)
  refine v_iload_n dX8_text_0 rfl rfl ?_
  refine v_callSi [_] dX8_text_1 lX8_137 ksX8_isText (plX8 _ _) (Or.inr rfl) rfl rfl rfl rfl rfl rfl (c_X8_isText ?_)
  refine v_ifb_eq (tgt := 13) dX8_text_4 (by decide) (fun hc_4 => ?_) (fun hc_4 => ?_)
  · refine v_iconst dX8_text_13 (by decide) ?_
    refine v_ireturn dX8_text_14 rfl ?_
    exact h1 (by omega)
  · refine v_iload_n dX8_text_7 rfl rfl ?_
    refine v_bipush dX8_text_8 (by decide) ?_
    refine v_icmp_le (tgt := 15) dX8_text_10 (by decide) (fun hc_10 => ?_) (fun hc_10 => ?_)
    · refine v_iload_n dX8_text_15 rfl rfl ?_
      refine v_if_ge (tgt := 25) dX8_text_16 (by decide) (fun hc_16 => ?_) (fun hc_16 => ?_)
      · refine v_aload_n dX8_text_25 rfl rfl ?_
        refine v_getR dX8_text_26 fX8_22 rfl rfl rfl ?_
        refine v_iload_n dX8_text_29 rfl rfl ?_
        refine v_iload_n dX8_text_30 rfl rfl ?_
        refine v_iast dX8_text_31 rfl (by omega) (by omega) ?_
        refine v_iconst dX8_text_32 (by decide) ?_
        refine v_istore_n (ls' := [_, _, _, _]) dX8_text_33 rfl rfl rfl rfl ?_
        have := lp (by omega) (by omega) 0 (by omega) (by omega)
        rwa [show (0 : Int).toNat = 0 from rfl, mfill_0] at this
      · refine v_aload_n dX8_text_19 rfl rfl ?_
        refine v_iconst dX8_text_20 (by decide) ?_
        refine v_callVi [_] dX8_text_21 lX8_126 kvX8_meets (plX8 _ _) (Or.inl rfl) rfl rfl rfl rfl rfl rfl rfl rfl rfl (c_X8_meets (g := 5) rfl (by decide) hc ?_)
        refine v_ireturn dX8_text_24 rfl ?_
        exact h2 (by omega) (by omega)
    · refine v_iconst dX8_text_13 (by decide) ?_
      refine v_ireturn dX8_text_14 rfl ?_
      exact h1 (by omega)
end
