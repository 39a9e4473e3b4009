/-! the model: a street read -/
section
variable {μ : Mem_} {Q : PV → Mem_ → Prop} {tx : Nat → Int} {n : Nat} {t : Int}
set_option maxRecDepth 10000 in
set_option maxHeartbeats 1000000 in
theorem c_X8_streetFault (ht : TmC tx n t μ) (h : ∀ m : Mem_, frM μ m → DmC m (gT tx n (itS tx n) 0 ([], [])).2 → Q (I_ (gT tx n (itS tx n) 0 ([], [])).1) m) : V_ nX8_streetFault 0 [R_ 50, I_ t, U_] [] μ Q := by
  have t1 := ht.1
  have t2 := ht.2.1
  have lp : ∀ (d : Nat) (m : Mem_) (i : Nat) (s : List Int × List (Int × Int)), n < d + i → frM μ m → m 50 15 = (i : Int) → DmC m s → gT tx n (itS tx n) i s = gT tx n (itS tx n) 0 ([], []) → V_ nX8_streetFault 15 [R_ 50, I_ t, U_] [] m Q := by
    intro d
    induction d with
    | zero =>
      intro m i s hd a1 a2 a3 a4
      have t3 := (a1.tm ht).2.2.1
      rw [gT_end (by omega)] at a4
      refine v_aload_n dX8_streetFault_15 rfl rfl ?_
      refine v_getI dX8_streetFault_16 fX8_140 rfl rfl rfl ?_
      refine v_aload_n dX8_streetFault_19 rfl rfl ?_
      refine v_getR dX8_streetFault_20 fX8_22 rfl rfl rfl ?_
      refine v_iload_n dX8_streetFault_23 rfl rfl ?_
      refine v_iald dX8_streetFault_24 rfl (by omega) (by omega) ?_
      refine v_icmp_ge (tgt := 96) dX8_streetFault_25 (by decide) (fun hc_25 => ?_) (fun hc_25 => ?_)
      · refine v_bipush dX8_streetFault_96 (by decide) ?_
        refine v_ireturn dX8_streetFault_98 rfl ?_
        have := h m a1 (by rw [← a4]; exact a3)
        rwa [← a4] at this
      · omega
    | succ d ih =>
      intro m i s hd a1 a2 a3 a4
      have t3 := (a1.tm ht).2.2.1
      have fin : i < n → tx i ≠ 32 → ∀ m1 : Mem_, imPost m m1 s (itS tx n i s) → (itS tx n i s).2 = none → Q (I_ (m1 50 15)) m1 := by
        intro hin hb m1 b1 b2
        match e : itS tx n i s, b1, b2 with
        | (j, none), b1, _ =>
          rw [gT_fail hin hb e] at a4
          have := h m1 (a1.tr b1.1) (by rw [← a4]; exact b1.2.2)
          rw [← a4] at this
          rw [b1.2.1]
          exact this
      have nx : i < n → tx i ≠ 32 → ∀ m1 : Mem_, imPost m m1 s (itS tx n i s) → (itS tx n i s).2 ≠ none → V_ nX8_streetFault 15 [R_ 50, I_ t, U_] [] m1 Q := by
        intro hin hb m1 b1 b2
        match e : itS tx n i s, b1, b2 with
        | (j, none), b1, z => exact absurd rfl z
        | (j, some s'), b1, _ =>
          have u := itS_up _ _ _ _ e
          rw [gT_ok itS_up hin hb e] at a4
          exact ih m1 j s' (by omega) (a1.tr b1.1) b1.2.1 b1.2.2 a4
      refine v_aload_n dX8_streetFault_15 rfl rfl ?_
      refine v_getI dX8_streetFault_16 fX8_140 rfl rfl rfl ?_
      refine v_aload_n dX8_streetFault_19 rfl rfl ?_
      refine v_getR dX8_streetFault_20 fX8_22 rfl rfl rfl ?_
      refine v_iload_n dX8_streetFault_23 rfl rfl ?_
      refine v_iald dX8_streetFault_24 rfl (by omega) (by omega) ?_
      refine v_icmp_ge (tgt := 96) dX8_streetFault_25 (by decide) (fun hc_25 => ?_) (fun hc_25 => ?_)
      · refine v_bipush dX8_streetFault_96 (by decide) ?_
        refine v_ireturn dX8_streetFault_98 rfl ?_
        rw [gT_end (by omega)] at a4
        have := h m a1 (by rw [← a4]; exact a3)
        rwa [← a4] at this
      · refine v_aload_n dX8_streetFault_28 rfl rfl ?_
        refine v_iload_n dX8_streetFault_29 rfl rfl ?_
        refine v_aload_n dX8_streetFault_30 rfl rfl ?_
        refine v_getI dX8_streetFault_31 fX8_140 rfl rfl rfl ?_
        rw [a2]
        refine v_callVi [_, _] dX8_streetFault_34 lX8_143 kvX8_byteAt (plX8 _ _) (Or.inl rfl) rfl rfl rfl rfl rfl rfl rfl rfl rfl (c_X8_byteAt (a1.tm ht) ?_)
        have hin : i < n := by omega
        rw [if_pos hin]
        refine v_istore_n (ls' := [_, _, _]) dX8_streetFault_37 rfl rfl rfl rfl ?_
        refine v_iload_n dX8_streetFault_38 rfl rfl ?_
        refine v_bipush dX8_streetFault_39 (by decide) ?_
        refine v_icmp_ne (tgt := 57) dX8_streetFault_41 (by decide) (fun hc_41 => ?_) (fun hc_41 => ?_)
        · refine v_iload_n dX8_streetFault_57 rfl rfl ?_
          refine v_bipush dX8_streetFault_58 (by decide) ?_
          refine v_icmp_ne (tgt := 74) dX8_streetFault_60 (by decide) (fun hc_60 => ?_) (fun hc_60 => ?_)
          · refine v_iload_n dX8_streetFault_74 rfl rfl ?_
            refine v_bipush dX8_streetFault_75 (by decide) ?_
            refine v_icmp_ne (tgt := 88) dX8_streetFault_77 (by decide) (fun hc_77 => ?_) (fun hc_77 => ?_)
            · refine v_aload_n dX8_streetFault_88 rfl rfl ?_
              refine v_getI dX8_streetFault_89 fX8_140 rfl rfl rfl ?_
              refine v_ireturn dX8_streetFault_92 rfl ?_
              have e : itS tx n i s = (i, none) := by
                unfold itS
                rw [if_neg (by omega), if_neg (by omega)]
              exact fin hin (by omega) m (by rw [e]; exact ⟨fun _ _ _ _ => rfl, a2, a3⟩) (by rw [e])
            · refine v_aload_n dX8_streetFault_80 rfl rfl ?_
              refine v_iload_n dX8_streetFault_81 rfl rfl ?_
              refine v_callVi [_] dX8_streetFault_82 lX8_168 kvX8_readsPerson (plX8 _ _) (Or.inr rfl) rfl rfl rfl rfl rfl rfl rfl rfl rfl (c_X8_readsPerson (a1.tm ht) a2 hin a3 (by omega) (fun m1 b1 => ?_))
              refine v_ifb_ne (tgt := 93) dX8_streetFault_85 (by decide) (fun hc_85 => ?_) (fun hc_85 => ?_)
              · refine v_goto (tgt := 15) dX8_streetFault_93 (by decide) ?_
                refine v_kill (ls' := [_, _, _]) 2 rfl ?_
                exact nx hin (by omega) m1 b1 hc_85
              · refine v_aload_n dX8_streetFault_88 rfl rfl ?_
                refine v_getI dX8_streetFault_89 fX8_140 rfl rfl rfl ?_
                refine v_ireturn dX8_streetFault_92 rfl ?_
                exact fin hin (by omega) m1 b1 (Classical.byContradiction hc_85)
          · refine v_aload_n dX8_streetFault_63 rfl rfl ?_
            refine v_iload_n dX8_streetFault_64 rfl rfl ?_
            refine v_callVi [_] dX8_streetFault_65 lX8_165 kvX8_readsHouse (plX8 _ _) (Or.inr rfl) rfl rfl rfl rfl rfl rfl rfl rfl rfl (c_X8_readsHouse (a1.tm ht) a2 hin a3 (by omega) (fun m1 b1 => ?_))
            refine v_ifb_eq (tgt := 88) dX8_streetFault_68 (by decide) (fun hc_68 => ?_) (fun hc_68 => ?_)
            · refine v_aload_n dX8_streetFault_88 rfl rfl ?_
              refine v_getI dX8_streetFault_89 fX8_140 rfl rfl rfl ?_
              refine v_ireturn dX8_streetFault_92 rfl ?_
              exact fin hin (by omega) m1 b1 (Classical.byContradiction hc_68)
            · refine v_goto (tgt := 93) dX8_streetFault_71 (by decide) ?_
              refine v_goto (tgt := 15) dX8_streetFault_93 (by decide) ?_
              refine v_kill (ls' := [_, _, _]) 2 rfl ?_
              exact nx hin (by omega) m1 b1 hc_68
        · refine v_aload_n dX8_streetFault_44 rfl rfl ?_
          refine v_dupR_ dX8_streetFault_45 ?_
          refine v_getI dX8_streetFault_46 fX8_140 rfl rfl rfl ?_
          rw [a2]
          refine v_iconst dX8_streetFault_49 (by decide) ?_
          refine v_iadd dX8_streetFault_50 (fun ha hb => by omega) ?_
          refine v_putI dX8_streetFault_51 fpX8_140 rfl rfl rfl ?_
          refine v_goto (tgt := 93) dX8_streetFault_54 (by decide) ?_
          refine v_goto (tgt := 15) dX8_streetFault_93 (by decide) ?_
          refine v_kill (ls' := [_, _, _]) 2 rfl ?_
          rw [gT_blank itS_up hin (by omega)] at a4
          exact ih _ (i + 1) s (by omega) (a1.tr (fun o k q1 q2 => mset_off (by omega))) (by rw [mset_same]; omega) (frR.dm (fun o k q => mset_off (by omega)) a3) a4
  refine v_aload_n dX8_streetFault_0 rfl rfl ?_
  refine v_iconst dX8_streetFault_1 (by decide) ?_
  refine v_putI dX8_streetFault_2 fpX8_140 rfl rfl rfl ?_
  refine v_aload_n dX8_streetFault_5 rfl rfl ?_
  refine v_iconst dX8_streetFault_6 (by decide) ?_
  refine v_putI dX8_streetFault_7 fpX8_149 rfl rfl rfl ?_
  refine v_aload_n dX8_streetFault_10 rfl rfl ?_
  refine v_iconst dX8_streetFault_11 (by decide) ?_
  refine v_putI dX8_streetFault_12 fpX8_156 rfl rfl rfl ?_
  refine lp (n + 1) _ 0 ([], []) (by omega) (fun o k q1 q2 => by rw [mset_off (by omega), mset_off (by omega), mset_off (by omega)]) (by rw [mset_off (by omega), mset_off (by omega), mset_same]; rfl) ?_ rfl
  exact ⟨⟨by rw [mset_off (by omega), mset_same]; rfl, by simp⟩, ⟨by rw [mset_same]; rfl, by simp⟩, fun k hk => absurd hk (by simp), fun k hk => absurd hk (by simp)⟩
end
