/-! the model: rows and texts -/
abbrev okT_ (μ : Mem_) : Prop := ∀ r : Nat, r < 4 → -1 ≤ μ 55 r ∧ μ 55 r ≤ 120
section
variable {μ : Mem_} {Q : PV → Mem_ → Prop}
set_option maxRecDepth 10000 in
theorem c_X8_lay {r i v : Int} (hc : fmOK μ) (hk : okR_ μ) (h1 : ¬ (0 ≤ r ∧ r < 6) → Q (I_ (-1)) μ) (h2 : (0 ≤ r ∧ r < 6) → μ 52 r.toNat < 0 → Q (I_ (-3)) (mtC μ 1)) (h3 : (0 ≤ r ∧ r < 6) → 0 ≤ μ 52 r.toNat → ¬ (0 ≤ i ∧ i < μ 52 r.toNat) → Q (I_ (-3)) (mtC μ 2)) (h4 : (0 ≤ r ∧ r < 6) → (0 ≤ i ∧ i < μ 52 r.toNat) → Q (I_ 1) (mtT (mset μ 53 (40 * r + i).toNat v) (μ 53 (40 * r + i).toNat))) : V_ nX8_lay 0 [R_ 50, I_ r, I_ i, I_ v, U_] [] μ Q := by
  have hk2 : (0 ≤ r ∧ r < 6) → μ 52 r.toNat ≤ 40 ∧ -1 ≤ μ 52 r.toNat := fun q => ⟨(hk r.toNat (by omega)).2, (hk r.toNat (by omega)).1⟩
  refine v_iload_n dX8_lay_0 rfl rfl ?_
  refine v_callSi [_] dX8_lay_1 lX8_122 ksX8_isRow (plX8 _ _) (Or.inr rfl) rfl rfl rfl rfl rfl rfl (c_X8_isRow ?_)
  refine v_ifb_ne (tgt := 9) dX8_lay_4 (by decide) (fun hc_4 => ?_) (fun hc_4 => ?_)
  · refine v_aload_n dX8_lay_9 rfl rfl ?_
    refine v_getR dX8_lay_10 fX8_13 rfl rfl rfl ?_
    refine v_iload_n dX8_lay_13 rfl rfl ?_
    refine v_iald dX8_lay_14 rfl (by omega) (by omega) ?_
    refine v_if_ge (tgt := 24) dX8_lay_15 (by decide) (fun hc_15 => ?_) (fun hc_15 => ?_)
    · refine v_iload_n dX8_lay_24 rfl rfl ?_
      refine v_iconst dX8_lay_25 (by decide) ?_
      refine v_aload_n dX8_lay_26 rfl rfl ?_
      refine v_getR dX8_lay_27 fX8_13 rfl rfl rfl ?_
      refine v_iload_n dX8_lay_30 rfl rfl ?_
      refine v_iald dX8_lay_31 rfl (by omega) (by omega) ?_
      refine v_iconst dX8_lay_32 (by decide) ?_
      refine v_isub dX8_lay_33 (fun ha hb => by have := hk2 (by omega); omega) ?_
      refine v_callSi [_, _, _] dX8_lay_34 lX8_112 ksX8_in (plX8 _ _) (Or.inr rfl) rfl rfl rfl rfl rfl rfl (c_X8_in ?_)
      refine v_ifb_ne (tgt := 46) dX8_lay_37 (by decide) (fun hc_37 => ?_) (fun hc_37 => ?_)
      · refine v_aload_n dX8_lay_46 rfl rfl ?_
        refine v_iload_n dX8_lay_47 rfl rfl ?_
        refine v_iload_n dX8_lay_48 rfl rfl ?_
        refine v_callVi [_, _] dX8_lay_49 lX8_130 kvX8_rowAt (plX8 _ _) (Or.inl rfl) rfl rfl rfl rfl rfl rfl rfl rfl rfl (c_X8_rowAt (by omega) (by have := hk2 (by omega); omega) ?_)
        refine v_istore (ls' := [_, _, _, _, _]) dX8_lay_52 rfl rfl rfl ?_
        refine v_aload_n dX8_lay_54 rfl rfl ?_
        refine v_getR dX8_lay_55 fX8_16 rfl rfl rfl ?_
        refine v_bipush dX8_lay_58 (by decide) ?_
        refine v_iload_n dX8_lay_60 rfl rfl ?_
        refine v_imul dX8_lay_61 (fun ha hb => by omega) ?_
        refine v_iload_n dX8_lay_62 rfl rfl ?_
        refine v_iadd dX8_lay_63 (fun ha hb => by omega) ?_
        refine v_iload_n dX8_lay_64 rfl rfl ?_
        refine v_iast dX8_lay_65 rfl (by have := hk2 (by omega); omega) (by have := hk2 (by omega); omega) ?_
        refine v_aload_n dX8_lay_66 rfl rfl ?_
        refine v_iload dX8_lay_67 rfl ?_
        refine v_iconst dX8_lay_69 (by decide) ?_
        refine v_callVi [_, _] dX8_lay_70 lX8_134 kvX8_tells (plX8 _ _) (Or.inl rfl) rfl rfl rfl rfl rfl rfl rfl rfl rfl (c_X8_tells ?_)
        refine v_ireturn dX8_lay_73 rfl ?_
        exact h4 (by omega) (by omega)
      · refine v_aload_n dX8_lay_40 rfl rfl ?_
        refine v_iconst dX8_lay_41 (by decide) ?_
        refine v_callVi [_] dX8_lay_42 lX8_126 kvX8_meets (plX8 _ _) (Or.inl rfl) rfl rfl rfl rfl rfl rfl rfl rfl rfl (c_X8_meets (g := 2) rfl (by decide) hc ?_)
        refine v_ireturn dX8_lay_45 rfl ?_
        exact h3 (by omega) (by omega) (by omega)
    · refine v_aload_n dX8_lay_18 rfl rfl ?_
      refine v_iconst dX8_lay_19 (by decide) ?_
      refine v_callVi [_] dX8_lay_20 lX8_126 kvX8_meets (plX8 _ _) (Or.inl rfl) rfl rfl rfl rfl rfl rfl rfl rfl rfl (c_X8_meets (g := 1) rfl (by decide) hc ?_)
      refine v_ireturn dX8_lay_23 rfl ?_
      exact h2 (by omega) (by omega)
  · refine v_iconst dX8_lay_7 (by decide) ?_
    refine v_ireturn dX8_lay_8 rfl ?_
    exact h1 (by omega)
set_option maxRecDepth 10000 in
theorem c_X8_row {r n : Int} (hc : fmOK μ) (h1 : ¬ ((0 ≤ r ∧ r < 6) ∧ n ≤ 40) → Q (I_ (-1)) μ) (h2 : (0 ≤ r ∧ r < 6) → n < 0 → Q (I_ (-3)) (mtC μ 5)) (h3 : (0 ≤ r ∧ r < 6) → (0 ≤ n ∧ n ≤ 40) → Q (I_ n) (mfill (mset μ 52 r.toNat n) 53 (40 * r).toNat 40 0)) : V_ nX8_row 0 [R_ 50, I_ r, I_ n, U_] [] μ Q := by
  have lp : (0 ≤ r ∧ r < 6) → (0 ≤ n ∧ n ≤ 40) → ∀ k : Int, 0 ≤ k → k ≤ 40 → V_ nX8_row 34 [R_ 50, I_ r, I_ n, I_ k] [] (mfill (mset μ 52 r.toNat n) 53 (40 * r).toNat k.toNat 0) Q := by
    intro hr hn
    refine loop_up _ (fun k h0 h1 ih => ?_)
    refine v_iload_n dX8_row_34 rfl rfl ?_
    refine v_bipush dX8_row_35 (by decide) ?_
    refine v_icmp_ge (tgt := 58) dX8_row_37 (by decide) (fun hc_37 => ?_) (fun hc_37 => ?_)
    · refine v_iload_n dX8_row_58 rfl rfl ?_
      refine v_ireturn dX8_row_59 rfl ?_
      have := h3 hr hn
      rwa [show k.toNat = 40 by omega]
    · refine v_aload_n dX8_row_40 rfl rfl ?_
      refine v_getR dX8_row_41 fX8_16 rfl rfl rfl ?_
      refine v_bipush dX8_row_44 (by decide) ?_
      refine v_iload_n dX8_row_46 rfl rfl ?_
      refine v_imul dX8_row_47 (fun ha hb => by omega) ?_
      refine v_iload_n dX8_row_48 rfl rfl ?_
      refine v_iadd dX8_row_49 (fun ha hb => by omega) ?_
      refine v_iconst dX8_row_50 (by decide) ?_
      refine v_iast dX8_row_51 rfl (by omega) (by omega) ?_
      refine v_iinc (ls' := [_, _, _, _]) dX8_row_52 rfl (fun hi_52 => by omega) rfl rfl ?_
      refine v_goto (tgt := 34) dX8_row_55 (by decide) ?_
      rw [show (40 * r + k).toNat = (40 * r).toNat + k.toNat by omega, mfill_s, show k.toNat + 1 = (k + 1).toNat by omega]
      exact ih (by omega)
  refine v_iload_n dX8_row_0 rfl rfl ?_
  refine v_callSi [_] dX8_row_1 lX8_122 ksX8_isRow (plX8 _ _) (Or.inr rfl) rfl rfl rfl rfl rfl rfl (c_X8_isRow ?_)
  refine v_ifb_eq (tgt := 13) dX8_row_4 (by decide) (fun hc_4 => ?_) (fun hc_4 => ?_)
  · refine v_iconst dX8_row_13 (by decide) ?_
    refine v_ireturn dX8_row_14 rfl ?_
    exact h1 (by omega)
  · refine v_iload_n dX8_row_7 rfl rfl ?_
    refine v_bipush dX8_row_8 (by decide) ?_
    refine v_icmp_le (tgt := 15) dX8_row_10 (by decide) (fun hc_10 => ?_) (fun hc_10 => ?_)
    · refine v_iload_n dX8_row_15 rfl rfl ?_
      refine v_if_ge (tgt := 25) dX8_row_16 (by decide) (fun hc_16 => ?_) (fun hc_16 => ?_)
      · refine v_aload_n dX8_row_25 rfl rfl ?_
        refine v_getR dX8_row_26 fX8_13 rfl rfl rfl ?_
        refine v_iload_n dX8_row_29 rfl rfl ?_
        refine v_iload_n dX8_row_30 rfl rfl ?_
        refine v_iast dX8_row_31 rfl (by omega) (by omega) ?_
        refine v_iconst dX8_row_32 (by decide) ?_
        refine v_istore_n (ls' := [_, _, _, _]) dX8_row_33 rfl rfl rfl rfl ?_
        have := lp (by omega) (by omega) 0 (by omega) (by omega)
        rwa [show (0 : Int).toNat = 0 from rfl, mfill_0] at this
      · refine v_aload_n dX8_row_19 rfl rfl ?_
        refine v_iconst dX8_row_20 (by decide) ?_
        refine v_callVi [_] dX8_row_21 lX8_126 kvX8_meets (plX8 _ _) (Or.inl rfl) rfl rfl rfl rfl rfl rfl rfl rfl rfl (c_X8_meets (g := 5) rfl (by decide) hc ?_)
        refine v_ireturn dX8_row_24 rfl ?_
        exact h2 (by omega) (by omega)
    · refine v_iconst dX8_row_13 (by decide) ?_
      refine v_ireturn dX8_row_14 rfl ?_
      exact h1 (by omega)
end
