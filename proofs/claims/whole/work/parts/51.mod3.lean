/-! the model: numbers -/
section
variable {μ : Mem_} {Q : PV → Mem_ → Prop} {tx : Nat → Int} {n i : Nat} {t : Int}
set_option maxRecDepth 10000 in
set_option maxHeartbeats 1000000 in
theorem c_X8_number {B : Int} (hB : B < 1000) (ht : TmC tx n t μ) (hi : μ 50 15 = (i : Int)) (hin : i ≤ 121) (h : ∀ m : Mem_, frR μ m → m 50 15 = ((numP tx n (B + 1) i).1 : Int) → (∀ v, (numP tx n (B + 1) i).2 = some v → m 50 16 = v) → Q (I_ (b2i ((numP tx n (B + 1) i).2 ≠ none))) m) : V_ nX8_number 0 [R_ 50, I_ t, I_ B, U_, U_] [] μ Q := by
  have f65 : ∀ (m : Mem_) (c v : Int), frR μ m → m 50 15 = ((numP tx n (B + 1) i).1 : Int) → (numP tx n (B + 1) i).2 = (if 0 < c ∧ v ≤ B then some v else none) → V_ nX8_number 65 [R_ 50, I_ t, I_ B, I_ c, I_ v] [] m Q := by
    intro m c v a1 a2 a3
    have g : Q (I_ (b2i ((numP tx n (B + 1) i).2 ≠ none))) (mset m 50 16 v) := by
      refine h _ (fun o k q => by rw [mset_off (by omega)]; exact a1 o k q) (by rw [mset_off (by omega)]; exact a2) (fun w hw => ?_)
      rw [mset_same]
      rw [a3] at hw
      split at hw
      · cases hw; rfl
      · cases hw
    rw [a3] at g
    refine v_aload_n dX8_number_65 rfl rfl ?_
    refine v_iload dX8_number_66 rfl ?_
    refine v_putI dX8_number_68 fpX8_146 rfl rfl rfl ?_
    refine v_iload_n dX8_number_71 rfl rfl ?_
    refine v_if_le (tgt := 85) dX8_number_72 (by decide) (fun hc_72 => ?_) (fun hc_72 => ?_)
    · refine v_iconst dX8_number_85 (by decide) ?_
      refine v_zreturn dX8_number_86 rfl (by first | exact Or.inl rfl | exact Or.inr rfl | exact b2i_01 _ | assumption) ?_
      rwa [if_neg (by omega), b2i_f (by simp)] at g
    · refine v_iload dX8_number_75 rfl ?_
      refine v_iload_n dX8_number_77 rfl rfl ?_
      refine v_icmp_gt (tgt := 85) dX8_number_78 (by decide) (fun hc_78 => ?_) (fun hc_78 => ?_)
      · refine v_iconst dX8_number_85 (by decide) ?_
        refine v_zreturn dX8_number_86 rfl (by first | exact Or.inl rfl | exact Or.inr rfl | exact b2i_01 _ | assumption) ?_
        rwa [if_neg (by omega), b2i_f (by simp)] at g
      · refine v_iconst dX8_number_81 (by decide) ?_
        refine v_goto (tgt := 86) dX8_number_82 (by decide) ?_
        refine v_zreturn dX8_number_86 rfl (by first | exact Or.inl rfl | exact Or.inr rfl | exact b2i_01 _ | assumption) ?_
        rwa [if_pos (by omega), b2i_t (by simp)] at g
  obtain ⟨s1, s2⟩ := byt_d ht i
  obtain ⟨s3, s4⟩ := byt_d ht (i + 1)
  have L2 : ∀ (m : Mem_) (v : Int), dgQ tx n i → dgQ tx n (i + 1) → v = 10 * (tx i - 48) + (tx (i + 1) - 48) → frR μ m → m 50 15 = ((i + 2 : Nat) : Int) → V_ nX8_number 5 [R_ 50, I_ t, I_ B, I_ 2, I_ v] [] m Q := by
    intro m v d0 d1 hv a1 a2
    refine v_iload_n dX8_number_5 rfl rfl ?_
    refine v_iconst dX8_number_6 (by decide) ?_
    refine v_icmp_ge (tgt := 65) dX8_number_7 (by decide) (fun hc_7 => ?_) (fun hc_7 => by omega)
    refine f65 m 2 v a1 ?_ ?_
    · rw [a2]; unfold numP; rw [if_pos d0, if_pos d1]; split <;> rfl
    · unfold numP
      rw [if_pos d0, if_pos d1, hv]
      by_cases q : 10 * (tx i - 48) + (tx (i + 1) - 48) < B + 1
      · rw [if_pos q, if_pos (by omega)]
      · rw [if_neg q, if_neg (by omega)]
  have L1 : ∀ (m : Mem_) (v : Int), dgQ tx n i → v = tx i - 48 → frR μ m → m 50 15 = ((i + 1 : Nat) : Int) → V_ nX8_number 5 [R_ 50, I_ t, I_ B, I_ 1, I_ v] [] m Q := by
    intro m v d0 hv a1 a2
    have bad : ¬ dgQ tx n (i + 1) → V_ nX8_number 65 [R_ 50, I_ t, I_ B, I_ 1, I_ v] [] m Q := by
      intro d1
      refine f65 m 1 v a1 ?_ ?_
      · rw [a2]; unfold numP; rw [if_pos d0, if_neg d1]; split <;> rfl
      · unfold numP
        rw [if_pos d0, if_neg d1, hv]
        by_cases q : tx i - 48 < B + 1
        · rw [if_pos q, if_pos (by omega)]
        · rw [if_neg q, if_neg (by omega)]
    have g2 := d0.2
    refine v_iload_n dX8_number_5 rfl rfl ?_
    refine v_iconst dX8_number_6 (by decide) ?_
    refine v_icmp_ge (tgt := 65) dX8_number_7 (by decide) (fun hc_7 => ?_) (fun hc_7 => ?_)
    · omega
    · refine v_aload_n dX8_number_10 rfl rfl ?_
      refine v_iload_n dX8_number_11 rfl rfl ?_
      refine v_aload_n dX8_number_12 rfl rfl ?_
      refine v_getI dX8_number_13 fX8_140 rfl rfl rfl ?_
      rw [a2]
      refine v_callVi [_, _] dX8_number_16 lX8_143 kvX8_byteAt (plX8 _ _) (Or.inl rfl) rfl rfl rfl rfl rfl rfl rfl rfl rfl (c_X8_byteAt (a1.tm ht) ?_)
      refine v_bipush dX8_number_19 (by decide) ?_
      refine v_bipush dX8_number_21 (by decide) ?_
      refine v_callSi [_, _, _] dX8_number_23 lX8_112 ksX8_in (plX8 _ _) (Or.inr rfl) rfl rfl rfl rfl rfl rfl (c_X8_in ?_)
      refine v_ifb_eq (tgt := 65) dX8_number_26 (by decide) (fun hc_26 => ?_) (fun hc_26 => ?_)
      · exact bad (fun q => hc_26 (s4.mpr q))
      · refine v_bipush dX8_number_29 (by decide) ?_
        refine v_iload dX8_number_31 rfl ?_
        refine v_imul dX8_number_33 (fun ha hb => by omega) ?_
        refine v_aload_n dX8_number_34 rfl rfl ?_
        refine v_iload_n dX8_number_35 rfl rfl ?_
        refine v_aload_n dX8_number_36 rfl rfl ?_
        refine v_getI dX8_number_37 fX8_140 rfl rfl rfl ?_
        rw [a2]
        refine v_callVi [_, _] dX8_number_40 lX8_143 kvX8_byteAt (plX8 _ _) (Or.inl rfl) rfl rfl rfl rfl rfl rfl rfl rfl rfl (c_X8_byteAt (a1.tm ht) ?_)
        refine v_iadd dX8_number_43 (fun ha hb => by omega) ?_
        refine v_bipush dX8_number_44 (by decide) ?_
        refine v_isub dX8_number_46 (fun ha hb => by omega) ?_
        refine v_istore (ls' := [_, _, _, _, _]) dX8_number_47 rfl rfl rfl ?_
        refine v_aload_n dX8_number_49 rfl rfl ?_
        refine v_dupR_ dX8_number_50 ?_
        refine v_getI dX8_number_51 fX8_140 rfl rfl rfl ?_
        rw [a2]
        refine v_iconst dX8_number_54 (by decide) ?_
        refine v_iadd dX8_number_55 (fun ha hb => by omega) ?_
        refine v_putI dX8_number_56 fpX8_140 rfl rfl rfl ?_
        refine v_iinc (ls' := [_, _, _, _, _]) dX8_number_59 rfl (fun hi_59 => by omega) rfl rfl ?_
        refine v_goto (tgt := 5) dX8_number_62 (by decide) ?_
        have d1 := s4.mp hc_26
        rw [if_pos d1.1]
        exact L2 _ _ d0 d1 (by omega) (a1.tr (fun o k q => mset_off (by omega))) (by rw [mset_same]; omega)
  have L0 : V_ nX8_number 5 [R_ 50, I_ t, I_ B, I_ 0, I_ 0] [] μ Q := by
    have bad : ¬ dgQ tx n i → V_ nX8_number 65 [R_ 50, I_ t, I_ B, I_ 0, I_ 0] [] μ Q := by
      intro d0
      refine f65 μ 0 0 frR.rf ?_ ?_
      · rw [hi]; unfold numP; rw [if_neg d0]
      · unfold numP
        rw [if_neg d0, if_neg (by omega)]
    refine v_iload_n dX8_number_5 rfl rfl ?_
    refine v_iconst dX8_number_6 (by decide) ?_
    refine v_icmp_ge (tgt := 65) dX8_number_7 (by decide) (fun hc_7 => ?_) (fun hc_7 => ?_)
    · omega
    · refine v_aload_n dX8_number_10 rfl rfl ?_
      refine v_iload_n dX8_number_11 rfl rfl ?_
      refine v_aload_n dX8_number_12 rfl rfl ?_
      refine v_getI dX8_number_13 fX8_140 rfl rfl rfl ?_
      rw [hi]
      refine v_callVi [_, _] dX8_number_16 lX8_143 kvX8_byteAt (plX8 _ _) (Or.inl rfl) rfl rfl rfl rfl rfl rfl rfl rfl rfl (c_X8_byteAt ht ?_)
      refine v_bipush dX8_number_19 (by decide) ?_
      refine v_bipush dX8_number_21 (by decide) ?_
      refine v_callSi [_, _, _] dX8_number_23 lX8_112 ksX8_in (plX8 _ _) (Or.inr rfl) rfl rfl rfl rfl rfl rfl (c_X8_in ?_)
      refine v_ifb_eq (tgt := 65) dX8_number_26 (by decide) (fun hc_26 => ?_) (fun hc_26 => ?_)
      · exact bad (fun q => hc_26 (s2.mpr q))
      · refine v_bipush dX8_number_29 (by decide) ?_
        refine v_iload dX8_number_31 rfl ?_
        refine v_imul dX8_number_33 (fun ha hb => by omega) ?_
        refine v_aload_n dX8_number_34 rfl rfl ?_
        refine v_iload_n dX8_number_35 rfl rfl ?_
        refine v_aload_n dX8_number_36 rfl rfl ?_
        refine v_getI dX8_number_37 fX8_140 rfl rfl rfl ?_
        rw [hi]
        refine v_callVi [_, _] dX8_number_40 lX8_143 kvX8_byteAt (plX8 _ _) (Or.inl rfl) rfl rfl rfl rfl rfl rfl rfl rfl rfl (c_X8_byteAt ht ?_)
        refine v_iadd dX8_number_43 (fun ha hb => by omega) ?_
        refine v_bipush dX8_number_44 (by decide) ?_
        refine v_isub dX8_number_46 (fun ha hb => by omega) ?_
        refine v_istore (ls' := [_, _, _, _, _]) dX8_number_47 rfl rfl rfl ?_
        refine v_aload_n dX8_number_49 rfl rfl ?_
        refine v_dupR_ dX8_number_50 ?_
        refine v_getI dX8_number_51 fX8_140 rfl rfl rfl ?_
        rw [hi]
        refine v_iconst dX8_number_54 (by decide) ?_
        refine v_iadd dX8_number_55 (fun ha hb => by omega) ?_
        refine v_putI dX8_number_56 fpX8_140 rfl rfl rfl ?_
        refine v_iinc (ls' := [_, _, _, _, _]) dX8_number_59 rfl (fun hi_59 => by omega) rfl rfl ?_
        refine v_goto (tgt := 5) dX8_number_62 (by decide) ?_
        have d0 := s2.mp hc_26
        rw [if_pos d0.1]
        exact L1 _ _ d0 (by omega) (fun o k q => mset_off (by omega)) (by rw [mset_same]; omega)
  refine v_iconst dX8_number_0 (by decide) ?_
  refine v_istore_n (ls' := [_, _, _, _, _]) dX8_number_1 rfl rfl rfl rfl ?_
  refine v_iconst dX8_number_2 (by decide) ?_
  refine v_istore (ls' := [_, _, _, _, _]) dX8_number_3 rfl rfl rfl ?_
  exact L0
end
