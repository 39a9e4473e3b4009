/-! the model: bytes, means, copies of rows, small ones -/
theorem b8_in (v : Int) : -128 ≤ b8 v ∧ b8 v < 128 := by
  have h := (Int32.ofInt v).toInt8.toInt32
  unfold b8
  rw [Int8.toInt_toInt32]
  have h1 := Int8.le_toInt (Int32.ofInt v).toInt8
  have h2 := Int8.toInt_lt (Int32.ofInt v).toInt8
  omega
section
variable {μ : Mem_} {Q : PV → Mem_ → Prop}
set_option maxRecDepth 10000 in
theorem c_X8_put {r i v : Int} (hc : fmOK μ) (hk : okT_ μ) (hb : ∀ j : Nat, j < 480 → -128 ≤ μ 56 j ∧ μ 56 j < 128) (h1 : ¬ (0 ≤ r ∧ r < 4) → Q (I_ (-1)) μ) (h2 : (0 ≤ r ∧ r < 4) → μ 55 r.toNat < 0 → Q (I_ (-3)) (mtC μ 1)) (h3 : (0 ≤ r ∧ r < 4) → 0 ≤ μ 55 r.toNat → ¬ (0 ≤ i ∧ i < μ 55 r.toNat) → Q (I_ (-3)) (mtC μ 2)) (h4 : (0 ≤ r ∧ r < 4) → (0 ≤ i ∧ i < μ 55 r.toNat) → Q (I_ (1000 + μ 56 (120 * r + i).toNat)) (mset μ 56 (120 * r + i).toNat (b8 v))) : V_ nX8_put 0 [R_ 50, I_ r, I_ i, I_ v, U_] [] μ Q := by
  have hk2 : (0 ≤ r ∧ r < 4) → μ 55 r.toNat ≤ 120 ∧ -1 ≤ μ 55 r.toNat := fun q => ⟨(hk r.toNat (by omega)).2, (hk r.toNat (by omega)).1⟩
  have hb2 : (0 ≤ r ∧ r < 4) → (0 ≤ i ∧ i < μ 55 r.toNat) → -128 ≤ μ 56 (120 * r + i).toNat ∧ μ 56 (120 * r + i).toNat < 128 := fun q q2 => hb _ (by have := hk2 q; omega)
  refine v_iload_n dX8_put_0 rfl rfl ?_
  refine v_callSi [_] dX8_put_1 lX8_137 ksX8_isText (plX8 _ _) (Or.inr rfl) rfl rfl rfl rfl rfl rfl (c_X8_isText ?_)
  refine v_ifb_ne (tgt := 9) dX8_put_4 (by decide) (fun hc_4 => ?_) (fun hc_4 => ?_)
  · refine v_aload_n dX8_put_9 rfl rfl ?_
    refine v_getR dX8_put_10 fX8_22 rfl rfl rfl ?_
    refine v_iload_n dX8_put_13 rfl rfl ?_
    refine v_iald dX8_put_14 rfl (by omega) (by omega) ?_
    refine v_if_ge (tgt := 24) dX8_put_15 (by decide) (fun hc_15 => ?_) (fun hc_15 => ?_)
    · refine v_iload_n dX8_put_24 rfl rfl ?_
      refine v_iconst dX8_put_25 (by decide) ?_
      refine v_aload_n dX8_put_26 rfl rfl ?_
      refine v_getR dX8_put_27 fX8_22 rfl rfl rfl ?_
      refine v_iload_n dX8_put_30 rfl rfl ?_
      refine v_iald dX8_put_31 rfl (by omega) (by omega) ?_
      refine v_iconst dX8_put_32 (by decide) ?_
      refine v_isub dX8_put_33 (fun ha hb => by have := hk2 (by omega); omega) ?_
      refine v_callSi [_, _, _] dX8_put_34 lX8_112 ksX8_in (plX8 _ _) (Or.inr rfl) rfl rfl rfl rfl rfl rfl (c_X8_in ?_)
      refine v_ifb_ne (tgt := 46) dX8_put_37 (by decide) (fun hc_37 => ?_) (fun hc_37 => ?_)
      · refine v_aload_n dX8_put_46 rfl rfl ?_
        refine v_getR dX8_put_47 fX8_25 rfl rfl rfl ?_
        refine v_bipush dX8_put_50 (by decide) ?_
        refine v_iload_n dX8_put_52 rfl rfl ?_
        refine v_imul dX8_put_53 (fun ha hb => by have := hk2 (by omega); omega) ?_
        refine v_iload_n dX8_put_54 rfl rfl ?_
        refine v_iadd dX8_put_55 (fun ha hb => by have := hk2 (by omega); omega) ?_
        refine v_bald dX8_put_56 rfl (by have := hk2 (by omega); omega) (by have := hk2 (by omega); omega) ?_
        refine v_istore (ls' := [_, _, _, _, _]) dX8_put_57 rfl rfl rfl ?_
        refine v_aload_n dX8_put_59 rfl rfl ?_
        refine v_getR dX8_put_60 fX8_25 rfl rfl rfl ?_
        refine v_bipush dX8_put_63 (by decide) ?_
        refine v_iload_n dX8_put_65 rfl rfl ?_
        refine v_imul dX8_put_66 (fun ha hb => by have := hk2 (by omega); omega) ?_
        refine v_iload_n dX8_put_67 rfl rfl ?_
        refine v_iadd dX8_put_68 (fun ha hb => by have := hk2 (by omega); omega) ?_
        refine v_iload_n dX8_put_69 rfl rfl ?_
        refine v_i2b dX8_put_70 ?_
        refine v_bast dX8_put_71 rfl (by have := hk2 (by omega); omega) (by have := hk2 (by omega); omega) (by exact (b8_in v).1) (by exact (b8_in v).2) ?_
        refine v_sipush dX8_put_72 (by decide) ?_
        refine v_iload dX8_put_75 rfl ?_
        refine v_iadd dX8_put_77 (fun ha hb => by have := hb2 (by omega) (by omega); omega) ?_
        refine v_ireturn dX8_put_78 rfl ?_
        exact h4 (by omega) (by omega)
      · refine v_aload_n dX8_put_40 rfl rfl ?_
        refine v_iconst dX8_put_41 (by decide) ?_
        refine v_callVi [_] dX8_put_42 lX8_126 kvX8_meets (plX8 _ _) (Or.inl rfl) rfl rfl rfl rfl rfl rfl rfl rfl rfl (c_X8_meets (g := 2) rfl (by decide) hc ?_)
        refine v_ireturn dX8_put_45 rfl ?_
        exact h3 (by omega) (by omega) (by omega)
    · refine v_aload_n dX8_put_18 rfl rfl ?_
      refine v_iconst dX8_put_19 (by decide) ?_
      refine v_callVi [_] dX8_put_20 lX8_126 kvX8_meets (plX8 _ _) (Or.inl rfl) rfl rfl rfl rfl rfl rfl rfl rfl rfl (c_X8_meets (g := 1) rfl (by decide) hc ?_)
      refine v_ireturn dX8_put_23 rfl ?_
      exact h2 (by omega) (by omega)
  · refine v_iconst dX8_put_7 (by decide) ?_
    refine v_ireturn dX8_put_8 rfl ?_
    exact h1 (by omega)
set_option maxRecDepth 10000 in
theorem c_X8_findings {f : Int} (h : Q (I_ (if 1 ≤ f ∧ f ≤ 5 then μ 51 f.toNat else -1)) μ) : V_ nX8_findings 0 [R_ 50, I_ f] [] μ Q := by
  refine v_iload_n dX8_findings_0 rfl rfl ?_
  refine v_iconst dX8_findings_1 (by decide) ?_
  refine v_iconst dX8_findings_2 (by decide) ?_
  refine v_callSi [_, _, _] dX8_findings_3 lX8_112 ksX8_in (plX8 _ _) (Or.inr rfl) rfl rfl rfl rfl rfl rfl (c_X8_in ?_)
  refine v_ifb_eq (tgt := 18) dX8_findings_6 (by decide) (fun hc_6 => ?_) (fun hc_6 => ?_)
  · refine v_iconst dX8_findings_18 (by decide) ?_
    refine v_ireturn dX8_findings_19 rfl ?_
    rwa [if_neg (by omega)] at h
  · refine v_aload_n dX8_findings_9 rfl rfl ?_
    refine v_getR dX8_findings_10 fX8_7 rfl rfl rfl ?_
    refine v_iload_n dX8_findings_13 rfl rfl ?_
    refine v_iald dX8_findings_14 rfl (by omega) (by omega) ?_
    refine v_goto (tgt := 19) dX8_findings_15 (by decide) ?_
    refine v_ireturn dX8_findings_19 rfl ?_
    rwa [if_pos (by omega)] at h
set_option maxRecDepth 10000 in
theorem c_X8_upper (h : Q (L_ (μ 50 3)) μ) : V_ nX8_upper 0 [R_ 50] [] μ Q := by
  refine v_aload_n dX8_upper_0 rfl rfl ?_
  refine v_getL dX8_upper_1 fX8_119 rfl rfl rfl ?_
  refine v_lreturn dX8_upper_4 rfl ?_
  exact h
set_option maxRecDepth 10000 in
theorem c_X8_lower (h : Q (L_ (μ 50 4)) μ) : V_ nX8_lower 0 [R_ 50] [] μ Q := by
  refine v_aload_n dX8_lower_0 rfl rfl ?_
  refine v_getL dX8_lower_1 fX8_104 rfl rfl rfl ?_
  refine v_lreturn dX8_lower_4 rfl ?_
  exact h
set_option maxRecDepth 10000 in
theorem c_X8_has {s i : Int} (hs : 0 ≤ s) (h0 : 0 ≤ i) (hi : i < 32) (h : Q (I_ (b2i (s.toNat.testBit i.toNat = true))) μ) : V_ nX8_has 0 [I_ s, I_ i] [] μ Q := by
  refine v_loc (fun hl => ?_)
  have hr : inR s := hl (I_ s) (by simp)
  have e := bit_has hs hr h0 hi
  refine v_iload_n dX8_has_0 rfl rfl ?_
  refine v_iload_n dX8_has_1 rfl rfl ?_
  refine v_ishr dX8_has_2 ?_
  refine v_iconst dX8_has_3 (by decide) ?_
  refine v_iand dX8_has_4 ?_
  rw [e]
  refine v_iconst dX8_has_5 (by decide) ?_
  refine v_icmp_ne (tgt := 13) dX8_has_6 (by decide) (fun hc_6 => ?_) (fun hc_6 => ?_)
  · refine v_iconst dX8_has_13 (by decide) ?_
    refine v_zreturn dX8_has_14 rfl (by first | exact Or.inl rfl | exact Or.inr rfl | exact b2i_01 _ | assumption) ?_
    rcases b2i_01 (s.toNat.testBit i.toNat = true) with q | q
    · rwa [q] at h
    · omega
  · refine v_iconst dX8_has_9 (by decide) ?_
    refine v_goto (tgt := 14) dX8_has_10 (by decide) ?_
    refine v_zreturn dX8_has_14 rfl (by first | exact Or.inl rfl | exact Or.inr rfl | exact b2i_01 _ | assumption) ?_
    rcases b2i_01 (s.toNat.testBit i.toNat = true) with q | q
    · omega
    · rwa [q] at h
set_option maxRecDepth 10000 in
theorem c_X8_mean {r : Int} (hc : fmOK μ) (hk : okR_ μ) (h1 : ¬ (0 ≤ r ∧ r < 6) → Q (I_ (-1)) μ) (h2 : (0 ≤ r ∧ r < 6) → μ 52 r.toNat < 0 → Q (I_ (-3)) (mtC μ 1)) (h3 : (0 ≤ r ∧ r < 6) → μ 52 r.toNat = 0 → Q (I_ (-3)) (mtC μ 4)) (h4 : (0 ≤ r ∧ r < 6) → 0 < μ 52 r.toNat → Q (I_ 1) (mtT μ (w32 ((smR (μ 52 r.toNat).toNat (fun i => μ 53 (r.toNat * 40 + i))).tdiv (μ 52 r.toNat))))) : V_ nX8_mean 0 [R_ 50, I_ r, U_, U_, U_] [] μ Q := by
  refine v_mem (fun hμ => ?_)
  have hin : ∀ j, inR (μ 53 j) := fun j => (hμ 53 j).2 (by rw [fk_arr (o := 53) rfl (by decide) (by decide)]; decide)
  have hk2 : (0 ≤ r ∧ r < 6) → μ 52 r.toNat ≤ 40 ∧ -1 ≤ μ 52 r.toNat := fun q => ⟨(hk r.toNat (by omega)).2, (hk r.toNat (by omega)).1⟩
  have lp : (0 ≤ r ∧ r < 6) → 0 < μ 52 r.toNat → ∀ k : Int, 0 ≤ k → k ≤ μ 52 r.toNat → ∀ a : Int, a = smR k.toNat (fun i => μ 53 (r.toNat * 40 + i)) → -2147483648 * k ≤ a ∧ a ≤ 2147483648 * k → V_ nX8_mean 44 [R_ 50, I_ r, L_ a, U_, I_ k] [] μ Q := by
    intro hr hn
    have hb := hk2 hr
    refine loop_up _ (fun k h0 h1 ih => ?_)
    intro a ha hab
    have hj := hin (r.toNat * 40 + k.toNat)
    refine v_iload dX8_mean_44 rfl ?_
    refine v_aload_n dX8_mean_46 rfl rfl ?_
    refine v_getR dX8_mean_47 fX8_13 rfl rfl rfl ?_
    refine v_iload_n dX8_mean_50 rfl rfl ?_
    refine v_iald dX8_mean_51 rfl (by omega) (by omega) ?_
    refine v_icmp_ge (tgt := 72) dX8_mean_52 (by decide) (fun hc_52 => ?_) (fun hc_52 => ?_)
    · refine v_aload_n dX8_mean_72 rfl rfl ?_
      refine v_lload_n dX8_mean_73 rfl rfl ?_
      refine v_aload_n dX8_mean_74 rfl rfl ?_
      refine v_getR dX8_mean_75 fX8_13 rfl rfl rfl ?_
      refine v_iload_n dX8_mean_78 rfl rfl ?_
      refine v_iald dX8_mean_79 rfl (by omega) (by omega) ?_
      refine v_i2l dX8_mean_80 ?_
      refine v_ldiv dX8_mean_81 (by omega) ?_
      refine v_l2i dX8_mean_82 ?_
      refine v_iconst dX8_mean_83 (by decide) ?_
      refine v_callVi [_, _] dX8_mean_84 lX8_134 kvX8_tells (plX8 _ _) (Or.inl rfl) rfl rfl rfl rfl rfl rfl rfl rfl rfl (c_X8_tells ?_)
      refine v_ireturn dX8_mean_87 rfl ?_
      have := h4 hr hn
      rwa [← show k.toNat = (μ 52 r.toNat).toNat by omega, ← ha] at this
    · refine v_lload_n dX8_mean_55 rfl rfl ?_
      refine v_aload_n dX8_mean_56 rfl rfl ?_
      refine v_iload_n dX8_mean_57 rfl rfl ?_
      refine v_iload dX8_mean_58 rfl ?_
      refine v_callVi [_, _] dX8_mean_60 lX8_130 kvX8_rowAt (plX8 _ _) (Or.inl rfl) rfl rfl rfl rfl rfl rfl rfl rfl rfl (c_X8_rowAt (by omega) (by omega) ?_)
      refine v_i2l dX8_mean_63 ?_
      refine v_ladd dX8_mean_64 ?_
      refine v_lstore_n (ls' := [_, _, _, _, _]) dX8_mean_65 rfl rfl rfl rfl ?_
      refine v_iinc (ls' := [_, _, _, _, _]) dX8_mean_66 rfl (fun hi_66 => by omega) rfl rfl ?_
      refine v_goto (tgt := 44) dX8_mean_69 (by decide) ?_
      rw [show (40 * r + k).toNat = r.toNat * 40 + k.toNat by omega, w64_id (by omega)]
      refine ih (by omega) _ ?_ (by omega)
      rw [show (k + 1).toNat = k.toNat + 1 by omega, smR, ha]
  refine v_iload_n dX8_mean_0 rfl rfl ?_
  refine v_callSi [_] dX8_mean_1 lX8_122 ksX8_isRow (plX8 _ _) (Or.inr rfl) rfl rfl rfl rfl rfl rfl (c_X8_isRow ?_)
  refine v_ifb_ne (tgt := 9) dX8_mean_4 (by decide) (fun hc_4 => ?_) (fun hc_4 => ?_)
  · refine v_aload_n dX8_mean_9 rfl rfl ?_
    refine v_getR dX8_mean_10 fX8_13 rfl rfl rfl ?_
    refine v_iload_n dX8_mean_13 rfl rfl ?_
    refine v_iald dX8_mean_14 rfl (by omega) (by omega) ?_
    refine v_if_ge (tgt := 24) dX8_mean_15 (by decide) (fun hc_15 => ?_) (fun hc_15 => ?_)
    · refine v_aload_n dX8_mean_24 rfl rfl ?_
      refine v_getR dX8_mean_25 fX8_13 rfl rfl rfl ?_
      refine v_iload_n dX8_mean_28 rfl rfl ?_
      refine v_iald dX8_mean_29 rfl (by omega) (by omega) ?_
      refine v_if_ne (tgt := 39) dX8_mean_30 (by decide) (fun hc_30 => ?_) (fun hc_30 => ?_)
      · refine v_lconst (x := 0) dX8_mean_39 (by decide) ?_
        refine v_lstore_n (ls' := [_, _, _, _, _]) dX8_mean_40 rfl rfl rfl rfl ?_
        refine v_iconst dX8_mean_41 (by decide) ?_
        refine v_istore (ls' := [_, _, _, _, _]) dX8_mean_42 rfl rfl rfl ?_
        exact lp (by omega) (by omega) 0 (by omega) (by omega) 0 rfl (by omega)
      · refine v_aload_n dX8_mean_33 rfl rfl ?_
        refine v_iconst dX8_mean_34 (by decide) ?_
        refine v_callVi [_] dX8_mean_35 lX8_126 kvX8_meets (plX8 _ _) (Or.inl rfl) rfl rfl rfl rfl rfl rfl rfl rfl rfl (c_X8_meets (g := 4) rfl (by decide) hc ?_)
        refine v_ireturn dX8_mean_38 rfl ?_
        exact h3 (by omega) (by omega)
    · refine v_aload_n dX8_mean_18 rfl rfl ?_
      refine v_iconst dX8_mean_19 (by decide) ?_
      refine v_callVi [_] dX8_mean_20 lX8_126 kvX8_meets (plX8 _ _) (Or.inl rfl) rfl rfl rfl rfl rfl rfl rfl rfl rfl (c_X8_meets (g := 1) rfl (by decide) hc ?_)
      refine v_ireturn dX8_mean_23 rfl ?_
      exact h2 (by omega) (by omega)
  · refine v_iconst dX8_mean_7 (by decide) ?_
    refine v_ireturn dX8_mean_8 rfl ?_
    exact h1 (by omega)
end
