/-! a year read -/
section
variable {μ : Mem_} {Q : PV → Mem_ → Prop} {tx : Nat → Int} {n i d : Nat}
theorem itY_stop {nH nP e0 : Int} {s : EvL × Int} (h : kdN (tx i) = 0 ∨ 40 ≤ e0 + s.1.length ∨ (mkK (kdN (tx i)) ∧ 24 ≤ s.2)) : itY tx n nH nP e0 i s = (i, none) := by
  unfold itY
  rw [if_pos h]
theorem itY_read {nH nP e0 : Int} {s : EvL × Int} {m m2 : Mem_} (h : ¬ (kdN (tx i) = 0 ∨ 40 ≤ e0 + s.1.length ∨ (mkK (kdN (tx i)) ∧ 24 ≤ s.2))) (hp : ivPost m m2 s.1 (evP tx n nH nP s.2 (kdN (tx i)) i)) {mad : Int} (hm : mad = s.2 + b2i (mkK (kdN (tx i)))) : frL m m2 ∧ stS m2 (itY tx n nH nP e0 i s) ∧ LgC m2 ((itY tx n nH nP e0 i s).2.getD s).1 ∧ ∀ s', (itY tx n nH nP e0 i s).2 = some s' → mad = s'.2 := by
  have e : itY tx n nH nP e0 i s = andP (evP tx n nH nP s.2 (kdN (tx i)) i) (fun ev j => (j, some (s.1 ++ [ev], s.2 + b2i (mkK (kdN (tx i)))))) := by
    unfold itY
    rw [if_neg h]
  rw [e]
  obtain ⟨h1, h2, h3⟩ := hp
  match evP tx n nH nP s.2 (kdN (tx i)) i, h2, h3 with
  | (j, none), h2, h3 => exact ⟨h1, h2, h3, fun s' q => by cases q⟩
  | (j, some ev), h2, h3 => exact ⟨h1, h2, h3, fun s' q => by cases q; exact hm⟩
set_option maxRecDepth 10000 in
set_option maxHeartbeats 2000000 in
theorem c_X3_readYear {keys e0 : Int} (hd : isSt d) (ht : TxC tx n μ) (hi : μ 26 2 = 0) (hw : μ 26 3 = -9) (hk : 0 ≤ keys ∧ keys ≤ 24) (he : 0 ≤ e0 ∧ e0 ≤ 40) (h0 : 0 ≤ μ 12 0) (h : ∀ m : Mem_, frL μ m → m 26 3 = (gT tx n (itY tx n (μ d 0) (μ d 1) e0) 0 ([], keys)).1 → LgC m (gT tx n (itY tx n (μ d 0) (μ d 1) e0) 0 ([], keys)).2.1 → Q U_ m) : V_ nX3_readYear 0 [R_ 26, R_ 12, R_ d, I_ keys, I_ e0, U_, U_, U_, U_] [] μ Q := by
  have hst := hd
  have ht1 := ht.1
  have lp : ∀ c : Int, 0 ≤ c → c ≤ n + 1 → ∀ (m : Mem_) (i : Nat) (s : EvL × Int), frL μ m → m 26 2 = (i : Int) → m 26 3 = -9 → LgC m s.1 → (0 ≤ s.2 ∧ s.2 ≤ 24) → c ≤ i → gT tx n (itY tx n (μ d 0) (μ d 1) e0) i s = gT tx n (itY tx n (μ d 0) (μ d 1) e0) 0 ([], keys) → V_ nX3_readYear 11 [R_ 26, R_ 12, R_ d, I_ keys, I_ e0, I_ s.2, I_ c, U_, U_] [] m Q := by
    refine loop_up _ (fun c h0 h1 ih => ?_)
    intro m i s a1 a2 a3 a4 as a5 a6
    have a7 := (a1.tx ht).2.1
    have fl : ∀ (m : Mem_) (i j : Nat) (mad : Int), c ≤ n → frL μ m → m 26 2 = (i : Int) → m 26 3 = (j : Int) → LgC m (gT tx n (itY tx n (μ d 0) (μ d 1) e0) 0 ([], keys)).2.1 → (j : Int) = (gT tx n (itY tx n (μ d 0) (μ d 1) e0) 0 ([], keys)).1 → V_ nX3_readYear 104 [R_ 26, R_ 12, R_ d, I_ keys, I_ e0, I_ mad, I_ c, U_, U_] [] m Q := by
      intro m i j mad hk a1 a2 a3 a4 a5
      have a7 := (a1.tx ht).2.1
      refine v_iinc (ls' := [_, _, _, _, _, _, _, _, _]) dX3_readYear_104 rfl (fun hi_104 => by omega) rfl rfl ?_
      refine v_goto (tgt := 11) dX3_readYear_107 (by decide) ?_
      refine v_iload dX3_readYear_11 rfl ?_
      refine v_aload_n dX3_readYear_13 rfl rfl ?_
      refine v_getI dX3_readYear_14 fX3_34 rfl rfl rfl ?_
      refine v_icmp_gt (tgt := 110) dX3_readYear_17 (by decide) (fun hc_17 => ?_) (fun hc_17 => ?_)
      · refine v_return dX3_readYear_110 rfl ?_
        exact h m a1 (by omega) a4
      · refine v_aload_n dX3_readYear_20 rfl rfl ?_
        refine v_callVi [] dX3_readYear_21 lX3_48 kvX3_skipToItem (plX3 _ _) (Or.inr rfl) rfl rfl rfl rfl rfl rfl rfl rfl rfl (c_X3_skipToItem1 (a1.tx ht) a2 (by omega) (fun m1 b1 b2 => ?_))
        refine v_ifb_eq (tgt := 110) dX3_readYear_24 (by decide) (fun hc_24 => ?_) (fun hc_24 => ?_)
        · refine v_return dX3_readYear_110 rfl ?_
          exact h m1 (a1.tr b1.L) (by omega) (b1.lg a4)
        · exact hc_24.elim
    have nx : ∀ (m1 m2 : Mem_) (i' : Nat) (mad : Int), c ≤ n → frL μ m1 → i' < n → tx i' ≠ 32 → c ≤ i' → gT tx n (itY tx n (μ d 0) (μ d 1) e0) i' s = gT tx n (itY tx n (μ d 0) (μ d 1) e0) 0 ([], keys) → (0 ≤ mad ∧ mad ≤ 24) → (frL m1 m2 ∧ stS m2 (itY tx n (μ d 0) (μ d 1) e0 i' s) ∧ LgC m2 ((itY tx n (μ d 0) (μ d 1) e0 i' s).2.getD s).1 ∧ ∀ s', (itY tx n (μ d 0) (μ d 1) e0 i' s).2 = some s' → mad = s'.2) → V_ nX3_readYear 104 [R_ 26, R_ 12, R_ d, I_ keys, I_ e0, I_ mad, I_ c, U_, U_] [] m2 Q := by
      intro m1 m2 i' mad hk b1 b2 b3 b4 b5 bm b6
      obtain ⟨c1, c2, c3, c4⟩ := b6
      match e : itY tx n (μ d 0) (μ d 1) e0 i' s, c2, c3, c4 with
      | (j, none), c2, c3, c4 =>
        rw [gT_fail b2 b3 e] at b5
        exact fl m2 j j mad hk (b1.tr c1) c2.1 c2.2 (by rw [← b5]; exact c3) (by rw [← b5])
      | (j, some s'), c2, c3, c4 =>
        have u := itY_up _ _ _ _ e
        rw [gT_ok itY_up b2 b3 e] at b5
        have e2 : mad = s'.2 := c4 s' rfl
        rw [e2]
        refine v_iinc (ls' := [_, _, _, _, _, _, _, _, _]) dX3_readYear_104 rfl (fun hi_104 => by omega) rfl rfl ?_
        refine v_goto (tgt := 11) dX3_readYear_107 (by decide) ?_
        exact ih (by omega) m2 j s' (b1.tr c1) c2.1 c2.2 c3 (by omega) (by omega) b5
    refine v_iload dX3_readYear_11 rfl ?_
    refine v_aload_n dX3_readYear_13 rfl rfl ?_
    refine v_getI dX3_readYear_14 fX3_34 rfl rfl rfl ?_
    refine v_icmp_gt (tgt := 110) dX3_readYear_17 (by decide) (fun hc_17 => ?_) (fun hc_17 => ?_)
    · refine v_return dX3_readYear_110 rfl ?_
      rw [gT_end (by omega)] at a6
      exact h m a1 (by rw [← a6]; exact a3) (by rw [← a6]; exact a4)
    · refine v_aload_n dX3_readYear_20 rfl rfl ?_
      refine v_callVi [] dX3_readYear_21 lX3_48 kvX3_skipToItem (plX3 _ _) (Or.inr rfl) rfl rfl rfl rfl rfl rfl rfl rfl rfl (c_X3_skipToItem0 (a1.tx ht) a2 a3 (fun m1 i' b1 b2 b3 b4 b5 b6 => ?_))
      rw [gT_skip itY_up b4 b5] at a6
      have a4 := b1.lg a4
      have a1 := a1.tr b1.L
      have a8 := a4.1.1
      have a9 := a4.1.2
      have g0 : m1 d 0 = μ d 0 := a1 d 0 (by omega) (by omega)
      have g1 : m1 d 1 = μ d 1 := a1 d 1 (by omega) (by omega)
      refine v_ifb_eq (tgt := 110) dX3_readYear_24 (by decide) (fun hc_24 => ?_) (fun hc_24 => ?_)
      · refine v_return dX3_readYear_110 rfl ?_
        rw [gT_end (by omega)] at a6
        exact h m1 a1 (by rw [← a6]; exact b3) (by rw [← a6]; exact a4)
      · refine v_aload_n dX3_readYear_27 rfl rfl ?_
        refine v_callVi [] dX3_readYear_28 lX3_52 kvX3_sign (plX3 _ _) (Or.inl rfl) rfl rfl rfl rfl rfl rfl rfl rfl rfl (c_X3_sign (a1.tx ht) b2 ?_)
        have hin : i' < n := by omega
        rw [if_pos hin]
        refine v_callSi [_] dX3_readYear_31 lX3_94 ksX3_kindOf (plX3 _ _) (Or.inl rfl) rfl rfl rfl rfl rfl rfl (c_X3_kindOf ?_)
        refine v_istore (ls' := [_, _, _, _, _, _, _, _, _]) dX3_readYear_34 rfl rfl rfl ?_
        refine v_iload dX3_readYear_36 rfl ?_
        refine v_callSi [_] dX3_readYear_38 lX3_97 ksX0_makesKey (plX0 _ _) (Or.inr rfl) rfl rfl rfl rfl rfl rfl (c_X0_makesKey ?_)
        refine v_istore (ls' := [_, _, _, _, _, _, _, _, _]) dX3_readYear_41 rfl rfl rfl ?_
        refine v_iload dX3_readYear_43 rfl ?_
        refine v_if_eq (tgt := 72) dX3_readYear_45 (by decide) (fun hc_45 => ?_) (fun hc_45 => ?_)
        · refine v_aload_n dX3_readYear_72 rfl rfl ?_
          refine v_callVv [] dX3_readYear_73 lX3_69 kvX3_stop (plX3 _ _) rfl rfl rfl rfl rfl rfl rfl rfl rfl rfl (c_X3_stop0 b2 b3 (fun m2 c1 c2 c3 => ?_))
          refine v_goto (tgt := 104) dX3_readYear_76 (by decide) ?_
          refine v_kill (ls' := [_, _, _, _, _, _, _, _, _]) 7 rfl ?_
          refine v_kill (ls' := [_, _, _, _, _, _, _, _, _]) 8 rfl ?_
          refine nx m1 m2 i' _ (by omega) a1 hin (b6 hin) (by omega) a6 as ?_
          rw [itY_stop (Or.inl (by omega))]
          exact ⟨c1.L, ⟨c2, c3⟩, c1.lg a4, fun s' q => by cases q⟩
        · refine v_iload dX3_readYear_48 rfl ?_
          refine v_aload_n dX3_readYear_50 rfl rfl ?_
          refine v_getI dX3_readYear_51 fX3_101 rfl rfl rfl ?_
          refine v_iadd dX3_readYear_54 (fun ha hb => by omega) ?_
          refine v_bipush dX3_readYear_55 (by decide) ?_
          refine v_icmp_ge (tgt := 72) dX3_readYear_57 (by decide) (fun hc_57 => ?_) (fun hc_57 => ?_)
          · refine v_aload_n dX3_readYear_72 rfl rfl ?_
            refine v_callVv [] dX3_readYear_73 lX3_69 kvX3_stop (plX3 _ _) rfl rfl rfl rfl rfl rfl rfl rfl rfl rfl (c_X3_stop0 b2 b3 (fun m2 c1 c2 c3 => ?_))
            refine v_goto (tgt := 104) dX3_readYear_76 (by decide) ?_
            refine v_kill (ls' := [_, _, _, _, _, _, _, _, _]) 7 rfl ?_
            refine v_kill (ls' := [_, _, _, _, _, _, _, _, _]) 8 rfl ?_
            refine nx m1 m2 i' _ (by omega) a1 hin (b6 hin) (by omega) a6 as ?_
            rw [itY_stop (Or.inr (Or.inl (by omega)))]
            exact ⟨c1.L, ⟨c2, c3⟩, c1.lg a4, fun s' q => by cases q⟩
          · refine v_iload dX3_readYear_60 rfl ?_
            refine v_ifb_eq (tgt := 79) dX3_readYear_62 (by decide) (fun hc_62 => ?_) (fun hc_62 => ?_)
            · refine v_aload_n dX3_readYear_79 rfl rfl ?_
              refine v_aload_n dX3_readYear_80 rfl rfl ?_
              refine v_iload dX3_readYear_81 rfl ?_
              refine v_aload_n dX3_readYear_83 rfl rfl ?_
              refine v_iload dX3_readYear_84 rfl ?_
              refine v_callVv [_, _, _, _] dX3_readYear_86 lX3_102 kvX3_readEvent (plX3 _ _) rfl rfl rfl rfl rfl rfl rfl rfl rfl rfl (c_X3_readEvent hd (a1.tx ht) b2 hin b3 a4 (by omega) (fun m2 c1 => ?_))
              rw [g0, g1] at c1
              refine v_iload dX3_readYear_89 rfl ?_
              refine v_iload dX3_readYear_91 rfl ?_
              refine v_ifb_eq (tgt := 100) dX3_readYear_93 (by decide) (fun hc_93 => ?_) (fun hc_93 => ?_)
              · refine v_iconst dX3_readYear_100 (by decide) ?_
                refine v_iadd dX3_readYear_101 (fun ha hb => by omega) ?_
                refine v_istore (ls' := [_, _, _, _, _, _, _, _, _]) dX3_readYear_102 rfl rfl rfl ?_
                refine v_kill (ls' := [_, _, _, _, _, _, _, _, _]) 7 rfl ?_
                refine v_kill (ls' := [_, _, _, _, _, _, _, _, _]) 8 rfl ?_
                refine nx m1 m2 i' _ (by omega) a1 hin (b6 hin) (by omega) a6 (by omega) (itY_read (fun q => q.elim (fun q => by omega) (fun q => q.elim (fun q => by omega) (fun q => hc_62 q.1))) c1 (by rw [b2i_f hc_62]))
              · refine v_iconst dX3_readYear_96 (by decide) ?_
                refine v_goto (tgt := 101) dX3_readYear_97 (by decide) ?_
                refine v_iadd dX3_readYear_101 (fun ha hb => by omega) ?_
                refine v_istore (ls' := [_, _, _, _, _, _, _, _, _]) dX3_readYear_102 rfl rfl rfl ?_
                refine v_kill (ls' := [_, _, _, _, _, _, _, _, _]) 7 rfl ?_
                refine v_kill (ls' := [_, _, _, _, _, _, _, _, _]) 8 rfl ?_
                exact absurd hc_93 hc_62
            · refine v_iload dX3_readYear_65 rfl ?_
              refine v_bipush dX3_readYear_67 (by decide) ?_
              refine v_icmp_lt (tgt := 79) dX3_readYear_69 (by decide) (fun hc_69 => ?_) (fun hc_69 => ?_)
              · refine v_aload_n dX3_readYear_79 rfl rfl ?_
                refine v_aload_n dX3_readYear_80 rfl rfl ?_
                refine v_iload dX3_readYear_81 rfl ?_
                refine v_aload_n dX3_readYear_83 rfl rfl ?_
                refine v_iload dX3_readYear_84 rfl ?_
                refine v_callVv [_, _, _, _] dX3_readYear_86 lX3_102 kvX3_readEvent (plX3 _ _) rfl rfl rfl rfl rfl rfl rfl rfl rfl rfl (c_X3_readEvent hd (a1.tx ht) b2 hin b3 a4 (by omega) (fun m2 c1 => ?_))
                rw [g0, g1] at c1
                refine v_iload dX3_readYear_89 rfl ?_
                refine v_iload dX3_readYear_91 rfl ?_
                refine v_ifb_eq (tgt := 100) dX3_readYear_93 (by decide) (fun hc_93 => ?_) (fun hc_93 => ?_)
                · refine v_iconst dX3_readYear_100 (by decide) ?_
                  refine v_iadd dX3_readYear_101 (fun ha hb => by omega) ?_
                  refine v_istore (ls' := [_, _, _, _, _, _, _, _, _]) dX3_readYear_102 rfl rfl rfl ?_
                  refine v_kill (ls' := [_, _, _, _, _, _, _, _, _]) 7 rfl ?_
                  refine v_kill (ls' := [_, _, _, _, _, _, _, _, _]) 8 rfl ?_
                  exact absurd hc_62 hc_93
                · refine v_iconst dX3_readYear_96 (by decide) ?_
                  refine v_goto (tgt := 101) dX3_readYear_97 (by decide) ?_
                  refine v_iadd dX3_readYear_101 (fun ha hb => by omega) ?_
                  refine v_istore (ls' := [_, _, _, _, _, _, _, _, _]) dX3_readYear_102 rfl rfl rfl ?_
                  refine v_kill (ls' := [_, _, _, _, _, _, _, _, _]) 7 rfl ?_
                  refine v_kill (ls' := [_, _, _, _, _, _, _, _, _]) 8 rfl ?_
                  refine nx m1 m2 i' _ (by omega) a1 hin (b6 hin) (by omega) a6 (by omega) (itY_read (fun q => q.elim (fun q => by omega) (fun q => q.elim (fun q => by omega) (fun q => by omega))) c1 (by rw [b2i_t hc_62]))
              · refine v_aload_n dX3_readYear_72 rfl rfl ?_
                refine v_callVv [] dX3_readYear_73 lX3_69 kvX3_stop (plX3 _ _) rfl rfl rfl rfl rfl rfl rfl rfl rfl rfl (c_X3_stop0 b2 b3 (fun m2 c1 c2 c3 => ?_))
                refine v_goto (tgt := 104) dX3_readYear_76 (by decide) ?_
                refine v_kill (ls' := [_, _, _, _, _, _, _, _, _]) 7 rfl ?_
                refine v_kill (ls' := [_, _, _, _, _, _, _, _, _]) 8 rfl ?_
                refine nx m1 m2 i' _ (by omega) a1 hin (b6 hin) (by omega) a6 as ?_
                rw [itY_stop (Or.inr (Or.inr ⟨hc_62, by omega⟩))]
                exact ⟨c1.L, ⟨c2, c3⟩, c1.lg a4, fun s' q => by cases q⟩
  refine v_aload_n dX3_readYear_0 rfl rfl ?_
  refine v_iconst dX3_readYear_1 (by decide) ?_
  refine v_callVv [_] dX3_readYear_2 lX3_89 kvX0_cutTo (plX0 _ _) rfl rfl rfl rfl rfl rfl rfl rfl rfl rfl (c_X0_cutTo_12 ?_)
  refine v_iload_n dX3_readYear_5 rfl rfl ?_
  refine v_istore (ls' := [_, _, _, _, _, _, _, _, _]) dX3_readYear_6 rfl rfl rfl ?_
  refine v_iconst dX3_readYear_8 (by decide) ?_
  refine v_istore (ls' := [_, _, _, _, _, _, _, _, _]) dX3_readYear_9 rfl rfl rfl ?_
  refine lp 0 (by omega) (by omega) _ 0 ([], keys) (fun o k q1 q2 => ?_) ?_ ?_ ?_ hk (by omega) rfl
  · split
    · rw [mset_off (by omega)]
    · rfl
  · split
    · rw [mset_off (by omega)]; exact hi
    · exact hi
  · split
    · rw [mset_off (by omega)]; exact hw
    · exact hw
  · refine ⟨⟨?_, by simp⟩, fun k hk => absurd hk (by simp)⟩
    split
    · rw [mset_same]; rfl
    · show _ = (0 : Int)
      omega
end
