/-! the model: a person read, whole -/
section
variable {μ : Mem_} {Q : PV → Mem_ → Prop} {tx : Nat → Int} {n i : Nat} {t : Int} {s : List Int × List (Int × Int)}
set_option maxRecDepth 10000 in
set_option maxHeartbeats 1000000 in
theorem c_X8_readsPerson (ht : TmC tx n t μ) (hi : μ 50 15 = (i : Int)) (hin : i < n) (hD : DmC μ s) (hx : tx i = 112) (h : ∀ m : Mem_, imPost μ m s (itS tx n i s) → Q (I_ (b2i ((itS tx n i s).2 ≠ none))) m) : V_ nX8_readsPerson 0 [R_ 50, I_ t] [] μ Q := by
  have d0 := hD.2.1
  have t1 := ht.1
  have dh := hD.1
  by_cases h12 : s.2.length < 12
  · have e : itS tx n i s = andP (hmP tx n s.1.length (i + 1)) (fun h j => andP (expP tx n 58 j) (fun _ k => andP (numP tx n 13 k) (fun a l => (l, some (s.1, s.2 ++ [(h, a)]))))) := by
      unfold itS
      rw [if_neg (by omega), if_pos ⟨hx, h12⟩]
    have f1 : frR μ (mset μ 50 15 ((i : Int) + 1)) := fun o k q => mset_off (by omega)
    rw [e] at h
    by_cases q : i + 1 < n ∧ tx (i + 1) = 45
    · have e1 : expP tx n 45 (i + 1) = (i + 2, some 0) := by unfold expP; rw [if_pos q]
      have e2 : hmP tx n s.1.length (i + 1) = (i + 2, some (-9)) := by unfold hmP; rw [if_pos q]
      rw [e2] at h
      refine v_aload_n dX8_readsPerson_0 rfl rfl ?_
      refine v_getI dX8_readsPerson_1 fX8_156 rfl rfl rfl ?_
      refine v_bipush dX8_readsPerson_4 (by decide) ?_
      refine v_icmp_ne (tgt := 11) dX8_readsPerson_6 (by decide) (fun hc_6 => ?_) (fun hc_6 => ?_)
      · refine v_aload_n dX8_readsPerson_11 rfl rfl ?_
        refine v_dupR_ dX8_readsPerson_12 ?_
        refine v_getI dX8_readsPerson_13 fX8_140 rfl rfl rfl ?_
        rw [hi]
        refine v_iconst dX8_readsPerson_16 (by decide) ?_
        refine v_iadd dX8_readsPerson_17 (fun ha hb => by omega) ?_
        refine v_putI dX8_readsPerson_18 fpX8_140 rfl rfl rfl ?_
        refine v_aload_n dX8_readsPerson_21 rfl rfl ?_
        refine v_iload_n dX8_readsPerson_22 rfl rfl ?_
        refine v_bipush dX8_readsPerson_23 (by decide) ?_
        refine v_callVi [_, _] dX8_readsPerson_25 lX8_159 kvX8_sign (plX8 _ _) (Or.inr rfl) rfl rfl rfl rfl rfl rfl rfl rfl rfl (c_X8_sign (i := i + 1) (by omega) (f1.tm ht) (by rw [mset_same]; omega) (by omega) (fun m a1 a2 => ?_))
        rw [e1] at a2 ⊢
        have g := f1.tr a1
        have d1 := (g.dm hD).2.1.1
        refine v_ifb_eq (tgt := 45) dX8_readsPerson_28 (by decide) (fun hc_28 => ?_) (fun hc_28 => ?_)
        · exact absurd (by simp) hc_28
        · refine v_aload_n dX8_readsPerson_31 rfl rfl ?_
          refine v_getR dX8_readsPerson_32 fX8_41 rfl rfl rfl ?_
          refine v_aload_n dX8_readsPerson_35 rfl rfl ?_
          refine v_getI dX8_readsPerson_36 fX8_156 rfl rfl rfl ?_
          rw [d1]
          refine v_bipush dX8_readsPerson_39 (by decide) ?_
          refine v_iast dX8_readsPerson_41 rfl (by omega) (by omega) ?_
          refine v_goto (tgt := 77) dX8_readsPerson_42 (by decide) ?_
          rw [Int.toNat_natCast]
          refine c_X8_readsPerson77 (v := -9) (j := i + 2) ht hD h12 ⟨fun o k q1 q2 => by rw [mset_off (by omega)]; exact g o k q1, mset_same _ _ _ _⟩ (by rw [mset_off (by omega)]; exact a2) (by omega) h
      · omega
    · have e1 : expP tx n 45 (i + 1) = (i + 1, none) := by unfold expP; rw [if_neg q]
      have e2 : hmP tx n s.1.length (i + 1) = figP tx n s.1.length (i + 1) := by unfold hmP; rw [if_neg q]
      rw [e2] at h
      refine v_aload_n dX8_readsPerson_0 rfl rfl ?_
      refine v_getI dX8_readsPerson_1 fX8_156 rfl rfl rfl ?_
      refine v_bipush dX8_readsPerson_4 (by decide) ?_
      refine v_icmp_ne (tgt := 11) dX8_readsPerson_6 (by decide) (fun hc_6 => ?_) (fun hc_6 => ?_)
      · refine v_aload_n dX8_readsPerson_11 rfl rfl ?_
        refine v_dupR_ dX8_readsPerson_12 ?_
        refine v_getI dX8_readsPerson_13 fX8_140 rfl rfl rfl ?_
        rw [hi]
        refine v_iconst dX8_readsPerson_16 (by decide) ?_
        refine v_iadd dX8_readsPerson_17 (fun ha hb => by omega) ?_
        refine v_putI dX8_readsPerson_18 fpX8_140 rfl rfl rfl ?_
        refine v_aload_n dX8_readsPerson_21 rfl rfl ?_
        refine v_iload_n dX8_readsPerson_22 rfl rfl ?_
        refine v_bipush dX8_readsPerson_23 (by decide) ?_
        refine v_callVi [_, _] dX8_readsPerson_25 lX8_159 kvX8_sign (plX8 _ _) (Or.inr rfl) rfl rfl rfl rfl rfl rfl rfl rfl rfl (c_X8_sign (i := i + 1) (by omega) (f1.tm ht) (by rw [mset_same]; omega) (by omega) (fun m a1 a2 => ?_))
        rw [e1] at a2 ⊢
        have g := f1.tr a1
        have d1 := (g.dm hD).1.1
        refine v_ifb_eq (tgt := 45) dX8_readsPerson_28 (by decide) (fun hc_28 => ?_) (fun hc_28 => ?_)
        · refine v_aload_n dX8_readsPerson_45 rfl rfl ?_
          refine v_iload_n dX8_readsPerson_46 rfl rfl ?_
          refine v_aload_n dX8_readsPerson_47 rfl rfl ?_
          refine v_getI dX8_readsPerson_48 fX8_149 rfl rfl rfl ?_
          rw [d1]
          refine v_iconst dX8_readsPerson_51 (by decide) ?_
          refine v_isub dX8_readsPerson_52 (fun ha hb => by omega) ?_
          refine v_callVi [_, _] dX8_readsPerson_53 lX8_162 kvX8_figure (plX8 _ _) (Or.inr rfl) rfl rfl rfl rfl rfl rfl rfl rfl rfl (c_X8_figure (i := i + 1) (by omega) (a1.tm (f1.tm ht)) a2 (by omega) (fun m2 b1 b2 b3 => ?_))
          rw [show (s.1.length : Int) - 1 + 1 = (s.1.length : Int) by omega] at b2 b3 ⊢
          have g2 := g.tr b1
          have hD2 := g2.dm hD
          have d2 := hD2.2.1.1
          refine v_ifb_eq (tgt := 75) dX8_readsPerson_56 (by decide) (fun hc_56 => ?_) (fun hc_56 => ?_)
          · refine v_iconst dX8_readsPerson_75 (by decide) ?_
            refine v_zreturn dX8_readsPerson_76 rfl (by first | exact Or.inl rfl | exact Or.inr rfl | exact b2i_01 _ | assumption) ?_
            skip
            match e3 : figP tx n s.1.length (i + 1), b2, h, hc_56 with
            | (j, none), b2, h, _ => exact h m2 ⟨g2.M, b2, hD2⟩
            | (j, some v), b2, h, z => exact absurd (by simp) z
          · refine v_aload_n dX8_readsPerson_59 rfl rfl ?_
            refine v_getR dX8_readsPerson_60 fX8_41 rfl rfl rfl ?_
            refine v_aload_n dX8_readsPerson_63 rfl rfl ?_
            refine v_getI dX8_readsPerson_64 fX8_156 rfl rfl rfl ?_
            rw [d2]
            refine v_aload_n dX8_readsPerson_67 rfl rfl ?_
            refine v_getI dX8_readsPerson_68 fX8_146 rfl rfl rfl ?_
            refine v_iast dX8_readsPerson_71 rfl (by omega) (by omega) ?_
            refine v_goto (tgt := 77) dX8_readsPerson_72 (by decide) ?_
            rw [Int.toNat_natCast]
            match e3 : figP tx n s.1.length (i + 1), b2, b3, h, hc_56 with
            | (j, none), b2, b3, h, z => exact absurd rfl z
            | (j, some v), b2, b3, h, _ =>
              rw [b3 v rfl]
              have hj : j ≤ n := hmP_le (tx := tx) (n := n) (B := s.1.length) (i := i + 1) (v := v) (by rw [e2]; exact e3)
              refine c_X8_readsPerson77 (v := v) (j := j) ht hD h12 ⟨fun o k q1 q2 => by rw [mset_off (by omega)]; exact g2 o k q1, mset_same _ _ _ _⟩ (by rw [mset_off (by omega)]; exact b2) hj h
        · exact absurd rfl hc_28
      · omega
  · have e : itS tx n i s = (i, none) := by
      unfold itS
      rw [if_neg (by omega), if_neg (by omega)]
    rw [e] at h
    have g := h μ ⟨fun _ _ _ _ => rfl, hi, hD⟩
    rw [b2i_f (by simp)] at g
    refine v_aload_n dX8_readsPerson_0 rfl rfl ?_
    refine v_getI dX8_readsPerson_1 fX8_156 rfl rfl rfl ?_
    refine v_bipush dX8_readsPerson_4 (by decide) ?_
    refine v_icmp_ne (tgt := 11) dX8_readsPerson_6 (by decide) (fun hc_6 => ?_) (fun hc_6 => ?_)
    · omega
    · refine v_iconst dX8_readsPerson_9 (by decide) ?_
      refine v_zreturn dX8_readsPerson_10 rfl (by first | exact Or.inl rfl | exact Or.inr rfl | exact b2i_01 _ | assumption) ?_
      exact g
end
