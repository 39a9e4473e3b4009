/-! the model: dead keys, counts -/
theorem smb {n : Nat} {f : Nat → Int} (h : ∀ k, f k = 0 ∨ f k = 1) : 0 ≤ smR n f ∧ smR n f ≤ n := by
  induction n with
  | zero => exact ⟨Int.le_refl _, Int.le_refl _⟩
  | succ n ih =>
    have := h n
    rw [smR]
    omega
section
variable {μ w : Mem_} {Q : PV → Mem_ → Prop}
set_option maxRecDepth 10000 in
theorem c_X8_dead {h : Int} (hp : PIc w) (hs : StC w (stc w)) (hm : CS μ w) (hk : MK μ w) (h1 : ¬ (0 ≤ h ∧ h < w (stc w) 0) → Q (I_ (-1)) μ) (h2 : (0 ≤ h ∧ h < w (stc w) 0) → Q (I_ (smR (w 17 0).toNat (fun k => b2i (ddC w h k)))) (mtT μ (orR (w 17 0).toNat (dhF w h)))) : V_ nX8_dead 0 [R_ 50, I_ h, U_, U_, U_, U_] [] μ Q := by
  have hs1 := hs.1
  have hm1 := hm.1
  have hp1 := hp.1
  have hk1 := hk.1
  have lp : (0 ≤ h ∧ h < w (stc w) 0) → ∀ k : Int, 0 ≤ k → k ≤ w 17 0 → ∀ a b : Int, a = smR k.toNat (fun k => b2i (ddC w h k)) → b = ((orR k.toNat (dhF w h) : Nat) : Int) → V_ nX8_dead 17 [R_ 50, I_ h, I_ a, I_ b, I_ k, U_] [] μ Q := by
    intro hh
    refine loop_up _ (fun k h0 h1 ih => ?_)
    intro a b ha hb
    have hkk : k < w 17 0 → _ := fun q : k < w 17 0 => hk.2.1 k.toNat (by omega)
    have hbd : 0 ≤ a ∧ a ≤ k := by
      have := smb (n := k.toNat) (f := fun k => b2i (ddC w h k)) (fun k => b2i_01 _)
      omega
    have hp2 : k < w 17 0 → _ := fun q : k < w 17 0 => hp.2 k.toNat (by omega)
    have hf : k < w 17 0 → ∀ j, j ≤ k.toNat → dhF w h j < 2 ^ 31 := by
      intro q j hj
      have := hp.2 j (by omega)
      unfold dhF
      split
      · exact Nat.pow_lt_pow_right (by omega) (by omega)
      · omega
    have hy : k < w 17 0 → ddC w h k.toNat → a + 1 = smR (k + 1).toNat (fun k => b2i (ddC w h k)) := fun _ q => smS h0 ha (b2i_t q)
    have hn : k < w 17 0 → ¬ ddC w h k.toNat → a + 0 = smR (k + 1).toNat (fun k => b2i (ddC w h k)) := fun _ q => smS h0 ha (b2i_f q)
    refine v_iload dX8_dead_17 rfl ?_
    refine v_aload_n dX8_dead_19 rfl rfl ?_
    refine v_getI dX8_dead_20 fX8_189 rfl rfl rfl ?_
    refine v_icmp_ge (tgt := 103) dX8_dead_23 (by decide) (fun hc_23 => ?_) (fun hc_23 => ?_)
    · refine v_aload_n dX8_dead_103 rfl rfl ?_
      refine v_iload_n dX8_dead_104 rfl rfl ?_
      refine v_iload_n dX8_dead_105 rfl rfl ?_
      refine v_callVi [_, _] dX8_dead_106 lX8_134 kvX8_tells (plX8 _ _) (Or.inl rfl) rfl rfl rfl rfl rfl rfl rfl rfl rfl (c_X8_tells ?_)
      refine v_ireturn dX8_dead_109 rfl ?_
      have e : k.toNat = (w 17 0).toNat := by omega
      rw [e] at ha hb
      rw [ha, hb]
      exact h2 hh
    · refine v_aload_n dX8_dead_26 rfl rfl ?_
      refine v_getR dX8_dead_27 fX8_53 rfl rfl rfl ?_
      refine v_iload dX8_dead_30 rfl ?_
      refine v_iald dX8_dead_32 rfl (by omega) (by omega) ?_
      rw [(hkk (by omega)).1]
      refine v_iload_n dX8_dead_33 rfl rfl ?_
      refine v_icmp_ne (tgt := 50) dX8_dead_34 (by decide) (fun hc_34 => ?_) (fun hc_34 => ?_)
      · refine v_iconst dX8_dead_50 (by decide) ?_
        refine v_istore (ls' := [_, _, _, _, _, _]) dX8_dead_51 rfl rfl rfl ?_
        refine v_iload_n dX8_dead_53 rfl rfl ?_
        refine v_iload dX8_dead_54 rfl ?_
        refine v_if_eq (tgt := 63) dX8_dead_56 (by decide) (fun _ => ?_) (fun q => absurd (by decide) q)
        refine v_iconst dX8_dead_63 (by decide) ?_
        refine v_iadd dX8_dead_64 (fun ha hb => by omega) ?_
        refine v_istore_n (ls' := [_, _, _, _, _, _]) dX8_dead_65 rfl rfl rfl rfl ?_
        refine v_iload_n dX8_dead_66 rfl rfl ?_
        refine v_iload dX8_dead_67 rfl ?_
        refine v_if_eq (tgt := 94) dX8_dead_69 (by decide) (fun _ => ?_) (fun q => absurd (by decide) q)
        refine v_iconst dX8_dead_94 (by decide) ?_
        refine v_ior dX8_dead_95 ?_
        refine v_istore_n (ls' := [_, _, _, _, _, _]) dX8_dead_96 rfl rfl rfl rfl ?_
        refine v_iinc (ls' := [_, _, _, _, _, _]) dX8_dead_97 rfl (fun hi_97 => by omega) rfl rfl ?_
        refine v_goto (tgt := 17) dX8_dead_100 (by decide) ?_
        refine v_kill (ls' := [_, _, _, _, _, _]) 5 rfl ?_
        first
          | (exfalso; omega)
          | exact ih (by omega) _ _ (hn (by omega) (fun q => by first | exact q.2 hc_43 | exact hc_34 q.1)) (orS (x := 0) h0 hb rfl (if_neg (fun q => by first | exact q.1.2 hc_43 | exact hc_34 q.1.1)) (hf (by omega)))
          | exact ih (by omega) _ _ (hy (by omega) ⟨by omega, hc_43⟩) (orS (x := 0) h0 hb rfl (if_neg (fun q => by omega)) (hf (by omega)))
          | exact ih (by omega) _ _ (hy (by omega) ⟨by omega, hc_43⟩) (orS h0 hb (bShl_one (by have := hp2 (by omega); omega) (by have := hp2 (by omega); omega)) (if_pos ⟨⟨by omega, hc_43⟩, by omega⟩) (hf (by omega)))
      · refine v_aload_n dX8_dead_37 rfl rfl ?_
        refine v_iload dX8_dead_38 rfl ?_
        refine v_callVi [_] dX8_dead_40 lX8_223 kvX8_isLive (plX8 _ _) (Or.inr rfl) rfl rfl rfl rfl rfl rfl rfl rfl rfl (c_X8_isLive hp hk (by omega) ?_)
        refine v_ifb_ne (tgt := 50) dX8_dead_43 (by decide) (fun hc_43 => ?_) (fun hc_43 => ?_)
        · refine v_iconst dX8_dead_50 (by decide) ?_
          refine v_istore (ls' := [_, _, _, _, _, _]) dX8_dead_51 rfl rfl rfl ?_
          refine v_iload_n dX8_dead_53 rfl rfl ?_
          refine v_iload dX8_dead_54 rfl ?_
          refine v_if_eq (tgt := 63) dX8_dead_56 (by decide) (fun _ => ?_) (fun q => absurd (by decide) q)
          refine v_iconst dX8_dead_63 (by decide) ?_
          refine v_iadd dX8_dead_64 (fun ha hb => by omega) ?_
          refine v_istore_n (ls' := [_, _, _, _, _, _]) dX8_dead_65 rfl rfl rfl rfl ?_
          refine v_iload_n dX8_dead_66 rfl rfl ?_
          refine v_iload dX8_dead_67 rfl ?_
          refine v_if_eq (tgt := 94) dX8_dead_69 (by decide) (fun _ => ?_) (fun q => absurd (by decide) q)
          refine v_iconst dX8_dead_94 (by decide) ?_
          refine v_ior dX8_dead_95 ?_
          refine v_istore_n (ls' := [_, _, _, _, _, _]) dX8_dead_96 rfl rfl rfl rfl ?_
          refine v_iinc (ls' := [_, _, _, _, _, _]) dX8_dead_97 rfl (fun hi_97 => by omega) rfl rfl ?_
          refine v_goto (tgt := 17) dX8_dead_100 (by decide) ?_
          refine v_kill (ls' := [_, _, _, _, _, _]) 5 rfl ?_
          first
            | (exfalso; omega)
            | exact ih (by omega) _ _ (hn (by omega) (fun q => by first | exact q.2 hc_43 | exact hc_34 q.1)) (orS (x := 0) h0 hb rfl (if_neg (fun q => by first | exact q.1.2 hc_43 | exact hc_34 q.1.1)) (hf (by omega)))
            | exact ih (by omega) _ _ (hy (by omega) ⟨by omega, hc_43⟩) (orS (x := 0) h0 hb rfl (if_neg (fun q => by omega)) (hf (by omega)))
            | exact ih (by omega) _ _ (hy (by omega) ⟨by omega, hc_43⟩) (orS h0 hb (bShl_one (by have := hp2 (by omega); omega) (by have := hp2 (by omega); omega)) (if_pos ⟨⟨by omega, hc_43⟩, by omega⟩) (hf (by omega)))
        · refine v_iconst dX8_dead_46 (by decide) ?_
          refine v_goto (tgt := 51) dX8_dead_47 (by decide) ?_
          refine v_istore (ls' := [_, _, _, _, _, _]) dX8_dead_51 rfl rfl rfl ?_
          refine v_iload_n dX8_dead_53 rfl rfl ?_
          refine v_iload dX8_dead_54 rfl ?_
          refine v_if_eq (tgt := 63) dX8_dead_56 (by decide) (fun q => absurd q (by decide)) (fun _ => ?_)
          refine v_iconst dX8_dead_59 (by decide) ?_
          refine v_goto (tgt := 64) dX8_dead_60 (by decide) ?_
          refine v_iadd dX8_dead_64 (fun ha hb => by omega) ?_
          refine v_istore_n (ls' := [_, _, _, _, _, _]) dX8_dead_65 rfl rfl rfl rfl ?_
          refine v_iload_n dX8_dead_66 rfl rfl ?_
          refine v_iload dX8_dead_67 rfl ?_
          refine v_if_eq (tgt := 94) dX8_dead_69 (by decide) (fun q => absurd q (by decide)) (fun _ => ?_)
          refine v_aload_n dX8_dead_72 rfl rfl ?_
          refine v_getR dX8_dead_73 fX8_59 rfl rfl rfl ?_
          refine v_iload dX8_dead_76 rfl ?_
          refine v_iald dX8_dead_78 rfl (by omega) (by omega) ?_
          rw [(hkk (by omega)).2.2.1]
          refine v_if_ne (tgt := 94) dX8_dead_79 (by decide) (fun hc_79 => ?_) (fun hc_79 => ?_)
          · refine v_iconst dX8_dead_94 (by decide) ?_
            refine v_ior dX8_dead_95 ?_
            refine v_istore_n (ls' := [_, _, _, _, _, _]) dX8_dead_96 rfl rfl rfl rfl ?_
            refine v_iinc (ls' := [_, _, _, _, _, _]) dX8_dead_97 rfl (fun hi_97 => by omega) rfl rfl ?_
            refine v_goto (tgt := 17) dX8_dead_100 (by decide) ?_
            refine v_kill (ls' := [_, _, _, _, _, _]) 5 rfl ?_
            first
              | (exfalso; omega)
              | exact ih (by omega) _ _ (hn (by omega) (fun q => by first | exact q.2 hc_43 | exact hc_34 q.1)) (orS (x := 0) h0 hb rfl (if_neg (fun q => by first | exact q.1.2 hc_43 | exact hc_34 q.1.1)) (hf (by omega)))
              | exact ih (by omega) _ _ (hy (by omega) ⟨by omega, hc_43⟩) (orS (x := 0) h0 hb rfl (if_neg (fun q => by omega)) (hf (by omega)))
              | exact ih (by omega) _ _ (hy (by omega) ⟨by omega, hc_43⟩) (orS h0 hb (bShl_one (by have := hp2 (by omega); omega) (by have := hp2 (by omega); omega)) (if_pos ⟨⟨by omega, hc_43⟩, by omega⟩) (hf (by omega)))
          · refine v_iconst dX8_dead_82 (by decide) ?_
            refine v_aload_n dX8_dead_83 rfl rfl ?_
            refine v_getR dX8_dead_84 fX8_62 rfl rfl rfl ?_
            refine v_iload dX8_dead_87 rfl ?_
            refine v_iald dX8_dead_89 rfl (by omega) (by omega) ?_
            rw [(hkk (by omega)).2.2.2.1]
            refine v_ishl dX8_dead_90 ?_
            refine v_goto (tgt := 95) dX8_dead_91 (by decide) ?_
            refine v_ior dX8_dead_95 ?_
            refine v_istore_n (ls' := [_, _, _, _, _, _]) dX8_dead_96 rfl rfl rfl rfl ?_
            refine v_iinc (ls' := [_, _, _, _, _, _]) dX8_dead_97 rfl (fun hi_97 => by omega) rfl rfl ?_
            refine v_goto (tgt := 17) dX8_dead_100 (by decide) ?_
            refine v_kill (ls' := [_, _, _, _, _, _]) 5 rfl ?_
            first
              | (exfalso; omega)
              | exact ih (by omega) _ _ (hn (by omega) (fun q => by first | exact q.2 hc_43 | exact hc_34 q.1)) (orS (x := 0) h0 hb rfl (if_neg (fun q => by first | exact q.1.2 hc_43 | exact hc_34 q.1.1)) (hf (by omega)))
              | exact ih (by omega) _ _ (hy (by omega) ⟨by omega, hc_43⟩) (orS (x := 0) h0 hb rfl (if_neg (fun q => by omega)) (hf (by omega)))
              | exact ih (by omega) _ _ (hy (by omega) ⟨by omega, hc_43⟩) (orS h0 hb (bShl_one (by have := hp2 (by omega); omega) (by have := hp2 (by omega); omega)) (if_pos ⟨⟨by omega, hc_43⟩, by omega⟩) (hf (by omega)))
  refine v_aload_n dX8_dead_0 rfl rfl ?_
  refine v_iload_n dX8_dead_1 rfl rfl ?_
  refine v_callVi [_] dX8_dead_2 lX8_204 kvX8_isHouse (plX8 _ _) (Or.inr rfl) rfl rfl rfl rfl rfl rfl rfl rfl rfl (c_X8_isHouse (by omega) ?_)
  refine v_ifb_ne (tgt := 10) dX8_dead_5 (by decide) (fun hc_5 => ?_) (fun hc_5 => ?_)
  · refine v_iconst dX8_dead_10 (by decide) ?_
    refine v_istore_n (ls' := [_, _, _, _, _, _]) dX8_dead_11 rfl rfl rfl rfl ?_
    refine v_iconst dX8_dead_12 (by decide) ?_
    refine v_istore_n (ls' := [_, _, _, _, _, _]) dX8_dead_13 rfl rfl rfl rfl ?_
    refine v_iconst dX8_dead_14 (by decide) ?_
    refine v_istore (ls' := [_, _, _, _, _, _]) dX8_dead_15 rfl rfl rfl ?_
    exact lp (by omega) 0 (by omega) (by omega) 0 0 rfl rfl
  · refine v_iconst dX8_dead_8 (by decide) ?_
    refine v_ireturn dX8_dead_9 rfl ?_
    exact h1 (by omega)
end
