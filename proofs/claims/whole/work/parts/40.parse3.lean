/-! the way to the next item, and a street read -/
section
variable {μ : Mem_} {Q : PV → Mem_ → Prop} {tx : Nat → Int} {n i d : Nat} {s : List Int × List (Int × Int)}
set_option maxRecDepth 10000 in
theorem c_X3_skipToItem0 (ht : TxC tx n μ) (hi : μ 26 2 = (i : Int)) (hw : μ 26 3 = -9) (h : ∀ (m : Mem_) (i' : Nat), frS μ m → m 26 2 = (i' : Int) → m 26 3 = -9 → i ≤ i' → (∀ j, i ≤ j → j < i' → j < n ∧ tx j = 32) → (i' < n → tx i' ≠ 32) → Q (I_ (b2i (i' < n))) m) : V_ nX3_skipToItem 0 [R_ 26, U_] [] μ Q := by
  have ht1 := ht.1
  have fin : ∀ (c : Int) (m : Mem_) (i' : Nat), frS μ m → m 26 2 = (i' : Int) → m 26 3 = -9 → i ≤ i' → (∀ j, i ≤ j → j < i' → j < n ∧ tx j = 32) → (i' < n → tx i' ≠ 32) → V_ nX3_skipToItem 35 [R_ 26, U_] [] m Q := by
    intro c m i' a1 a2 a3 a4 a5 a6
    have a7 := (a1.tx ht).2.1
    refine v_aload_n dX3_skipToItem_35 rfl rfl ?_
    refine v_getI dX3_skipToItem_36 fX3_15 rfl rfl rfl ?_
    refine v_bipush dX3_skipToItem_39 (by decide) ?_
    refine v_icmp_ne (tgt := 59) dX3_skipToItem_41 (by decide) (fun hc_41 => ?_) (fun hc_41 => ?_)
    · refine v_iconst dX3_skipToItem_59 (by decide) ?_
      refine v_zreturn dX3_skipToItem_60 rfl (by first | exact Or.inl rfl | exact Or.inr rfl | exact b2i_01 _ | assumption) ?_
      have := h m i' a1 a2 a3 a4 a5 a6
      rwa [b2i_f (by omega)] at this
    · refine v_aload_n dX3_skipToItem_44 rfl rfl ?_
      refine v_getI dX3_skipToItem_45 fX3_40 rfl rfl rfl ?_
      refine v_aload_n dX3_skipToItem_48 rfl rfl ?_
      refine v_getI dX3_skipToItem_49 fX3_34 rfl rfl rfl ?_
      refine v_icmp_ge (tgt := 59) dX3_skipToItem_52 (by decide) (fun hc_52 => ?_) (fun hc_52 => ?_)
      · refine v_iconst dX3_skipToItem_59 (by decide) ?_
        refine v_zreturn dX3_skipToItem_60 rfl (by first | exact Or.inl rfl | exact Or.inr rfl | exact b2i_01 _ | assumption) ?_
        have := h m i' a1 a2 a3 a4 a5 a6
        rwa [b2i_f (by omega)] at this
      · refine v_iconst dX3_skipToItem_55 (by decide) ?_
        refine v_goto (tgt := 60) dX3_skipToItem_56 (by decide) ?_
        refine v_zreturn dX3_skipToItem_60 rfl (by first | exact Or.inl rfl | exact Or.inr rfl | exact b2i_01 _ | assumption) ?_
        have := h m i' a1 a2 a3 a4 a5 a6
        rwa [b2i_t (by omega)] at this
  have lp : ∀ c : Int, 0 ≤ c → c ≤ n → ∀ (m : Mem_) (i' : Nat), frS μ m → m 26 2 = (i' : Int) → m 26 3 = -9 → (i' : Int) = i + c → (∀ j, i ≤ j → j < i' → j < n ∧ tx j = 32) → V_ nX3_skipToItem 2 [R_ 26, I_ c] [] m Q := by
    refine loop_up _ (fun c h0 h1 ih => ?_)
    intro m i' a1 a2 a3 a4 a5
    have a7 := (a1.tx ht).2.1
    refine v_iload_n dX3_skipToItem_2 rfl rfl ?_
    refine v_aload_n dX3_skipToItem_3 rfl rfl ?_
    refine v_getI dX3_skipToItem_4 fX3_34 rfl rfl rfl ?_
    refine v_icmp_ge (tgt := 35) dX3_skipToItem_7 (by decide) (fun hc_7 => ?_) (fun hc_7 => ?_)
    · refine v_kill (ls' := [_, _]) 1 rfl ?_
      exact fin c m i' a1 a2 a3 (by omega) a5 (by omega)
    · refine v_aload_n dX3_skipToItem_10 rfl rfl ?_
      refine v_callVi [] dX3_skipToItem_11 lX3_52 kvX3_sign (plX3 _ _) (Or.inl rfl) rfl rfl rfl rfl rfl rfl rfl rfl rfl (c_X3_sign (a1.tx ht) a2 ?_)
      refine v_bipush dX3_skipToItem_14 (by decide) ?_
      refine v_icmp_ne (tgt := 35) dX3_skipToItem_16 (by decide) (fun hc_16 => ?_) (fun hc_16 => ?_)
      · refine v_kill (ls' := [_, _]) 1 rfl ?_
        refine fin c m i' a1 a2 a3 (by omega) a5 (fun q => ?_)
        rw [if_pos q] at hc_16
        exact hc_16
      · refine v_aload_n dX3_skipToItem_19 rfl rfl ?_
        refine v_dupR_ dX3_skipToItem_20 ?_
        refine v_getI dX3_skipToItem_21 fX3_40 rfl rfl rfl ?_
        rw [a2]
        refine v_iconst dX3_skipToItem_24 (by decide) ?_
        refine v_iadd dX3_skipToItem_25 (fun ha hb => by omega) ?_
        refine v_putI dX3_skipToItem_26 fpX3_40 rfl rfl rfl ?_
        refine v_iinc (ls' := [_, _]) dX3_skipToItem_29 rfl (fun hi_29 => by omega) rfl rfl ?_
        refine v_goto (tgt := 2) dX3_skipToItem_32 (by decide) ?_
        have q : i' < n := by
          by_cases q : i' < n
          · exact q
          · rw [if_neg q] at hc_16; omega
        rw [if_pos q] at hc_16
        refine ih (by omega) _ (i' + 1) (a1.tr (fun o k q => mset_off (by omega))) (by rw [mset_same]; omega) (by rw [mset_off (by omega)]; exact a3) (by omega) (fun j q1 q2 => ?_)
        by_cases e : j = i'
        · subst e; exact ⟨q, by omega⟩
        · exact a5 j q1 (by omega)
  refine v_iconst dX3_skipToItem_0 (by decide) ?_
  refine v_istore_n (ls' := [_, _]) dX3_skipToItem_1 rfl rfl rfl rfl ?_
  exact lp 0 (by omega) (by omega) μ i frS.rf hi hw (by omega) (fun j q1 q2 => by omega)
set_option maxRecDepth 10000 in
theorem c_X3_skipToItem1 (ht : TxC tx n μ) (hi : μ 26 2 = (i : Int)) (hw : μ 26 3 ≠ -9) (h : ∀ m : Mem_, frS μ m → m 26 3 = μ 26 3 → Q (I_ (b2i False)) m) : V_ nX3_skipToItem 0 [R_ 26, U_] [] μ Q := by
  have ht1 := ht.1
  have fin : ∀ (m : Mem_), frS μ m → m 26 3 = μ 26 3 → V_ nX3_skipToItem 35 [R_ 26, U_] [] m Q := by
    intro m a1 a3
    refine v_aload_n dX3_skipToItem_35 rfl rfl ?_
    refine v_getI dX3_skipToItem_36 fX3_15 rfl rfl rfl ?_
    refine v_bipush dX3_skipToItem_39 (by decide) ?_
    refine v_icmp_ne (tgt := 59) dX3_skipToItem_41 (by decide) (fun hc_41 => ?_) (fun hc_41 => ?_)
    · refine v_iconst dX3_skipToItem_59 (by decide) ?_
      refine v_zreturn dX3_skipToItem_60 rfl (by first | exact Or.inl rfl | exact Or.inr rfl | exact b2i_01 _ | assumption) ?_
      have := h m a1 a3
      rwa [b2i_f id] at this
    · omega
  have lp : ∀ c : Int, 0 ≤ c → c ≤ n → ∀ (m : Mem_) (i' : Nat), frS μ m → m 26 2 = (i' : Int) → m 26 3 = μ 26 3 → V_ nX3_skipToItem 2 [R_ 26, I_ c] [] m Q := by
    refine loop_up _ (fun c h0 h1 ih => ?_)
    intro m i' a1 a2 a3
    have a7 := (a1.tx ht).2.1
    refine v_iload_n dX3_skipToItem_2 rfl rfl ?_
    refine v_aload_n dX3_skipToItem_3 rfl rfl ?_
    refine v_getI dX3_skipToItem_4 fX3_34 rfl rfl rfl ?_
    refine v_icmp_ge (tgt := 35) dX3_skipToItem_7 (by decide) (fun hc_7 => ?_) (fun hc_7 => ?_)
    · refine v_kill (ls' := [_, _]) 1 rfl ?_
      exact fin m a1 a3
    · refine v_aload_n dX3_skipToItem_10 rfl rfl ?_
      refine v_callVi [] dX3_skipToItem_11 lX3_52 kvX3_sign (plX3 _ _) (Or.inl rfl) rfl rfl rfl rfl rfl rfl rfl rfl rfl (c_X3_sign (a1.tx ht) a2 ?_)
      refine v_bipush dX3_skipToItem_14 (by decide) ?_
      refine v_icmp_ne (tgt := 35) dX3_skipToItem_16 (by decide) (fun hc_16 => ?_) (fun hc_16 => ?_)
      · refine v_kill (ls' := [_, _]) 1 rfl ?_
        exact fin m a1 a3
      · refine v_aload_n dX3_skipToItem_19 rfl rfl ?_
        refine v_dupR_ dX3_skipToItem_20 ?_
        refine v_getI dX3_skipToItem_21 fX3_40 rfl rfl rfl ?_
        rw [a2]
        have q : i' < n := by
          by_cases q : i' < n
          · exact q
          · rw [if_neg q] at hc_16; omega
        refine v_iconst dX3_skipToItem_24 (by decide) ?_
        refine v_iadd dX3_skipToItem_25 (fun ha hb => by omega) ?_
        refine v_putI dX3_skipToItem_26 fpX3_40 rfl rfl rfl ?_
        refine v_iinc (ls' := [_, _]) dX3_skipToItem_29 rfl (fun hi_29 => by omega) rfl rfl ?_
        refine v_goto (tgt := 2) dX3_skipToItem_32 (by decide) ?_
        exact ih (by omega) _ (i' + 1) (a1.tr (fun o k q => mset_off (by omega))) (by rw [mset_same]; omega) (by rw [mset_off (by omega)]; exact a3)
  refine v_iconst dX3_skipToItem_0 (by decide) ?_
  refine v_istore_n (ls' := [_, _]) dX3_skipToItem_1 rfl rfl rfl rfl ?_
  exact lp 0 (by omega) (by omega) μ i frS.rf hi rfl
theorem gT_skip {σ : Type} {tx : Nat → Int} {n : Nat} {item : Nat → σ → Nat × Option σ} (hu : gUp item) {i i' : Nat} {s : σ} (h : i ≤ i') (hb : ∀ j, i ≤ j → j < i' → j < n ∧ tx j = 32) : gT tx n item i s = gT tx n item i' s := by
  by_cases e : i = i'
  · rw [e]
  · have := (hb (i' - 1) (by omega) (by omega)).1
    have q := gT_blanks (tx := tx) (n := n) hu (s := s) (i' - i) i (by omega) (fun j q1 q2 => (hb j q1 (by omega)).2)
    rwa [show i + (i' - i) = i' by omega] at q
set_option maxRecDepth 10000 in
set_option maxHeartbeats 1000000 in
theorem c_X3_readStreet (hd : isSt d) (ht : TxC tx n μ) (hi : μ 26 2 = 0) (hw : μ 26 3 = -9) (h : ∀ m : Mem_, frD d μ m → m 26 3 = (gT tx n (itS tx n) 0 ([], [])).1 → DrC m d (gT tx n (itS tx n) 0 ([], [])).2 → Q U_ m) : V_ nX3_readStreet 0 [R_ 26, R_ d, U_, U_] [] μ Q := by
  have hst := hd
  have ht1 := ht.1
  have lp : ∀ k : Int, 0 ≤ k → k ≤ n + 1 → ∀ (m : Mem_) (i : Nat) (s : List Int × List (Int × Int)), frD d μ m → m 26 2 = (i : Int) → m 26 3 = -9 → DrC m d s → k ≤ i → gT tx n (itS tx n) i s = gT tx n (itS tx n) 0 ([], []) → V_ nX3_readStreet 6 [R_ 26, R_ d, I_ k, U_] [] m Q := by
    refine loop_up _ (fun k h0 h1 ih => ?_)
    intro m i s a1 a2 a3 a4 a5 a6
    have a7 := (a1.tx hd ht).2.1
    have fl : ∀ (m : Mem_) (i j : Nat), k ≤ n → frD d μ m → m 26 2 = (i : Int) → m 26 3 = (j : Int) → DrC m d (gT tx n (itS tx n) 0 ([], [])).2 → (j : Int) = (gT tx n (itS tx n) 0 ([], [])).1 → V_ nX3_readStreet 76 [R_ 26, R_ d, I_ k, U_] [] m Q := by
      intro m i j hk a1 a2 a3 a4 a5
      have a7 := (a1.tx hd ht).2.1
      refine v_iinc (ls' := [_, _, _, _]) dX3_readStreet_76 rfl (fun hi_76 => by omega) rfl rfl ?_
      refine v_goto (tgt := 6) dX3_readStreet_79 (by decide) ?_
      refine v_iload_n dX3_readStreet_6 rfl rfl ?_
      refine v_aload_n dX3_readStreet_7 rfl rfl ?_
      refine v_getI dX3_readStreet_8 fX3_34 rfl rfl rfl ?_
      refine v_icmp_gt (tgt := 82) dX3_readStreet_11 (by decide) (fun hc_11 => ?_) (fun hc_11 => ?_)
      · refine v_return dX3_readStreet_82 rfl ?_
        exact h m a1 (by omega) a4
      · refine v_aload_n dX3_readStreet_14 rfl rfl ?_
        refine v_callVi [] dX3_readStreet_15 lX3_48 kvX3_skipToItem (plX3 _ _) (Or.inr rfl) rfl rfl rfl rfl rfl rfl rfl rfl rfl (c_X3_skipToItem1 (a1.tx hd ht) a2 (by omega) (fun m1 b1 b2 => ?_))
        refine v_ifb_eq (tgt := 82) dX3_readStreet_18 (by decide) (fun hc_18 => ?_) (fun hc_18 => ?_)
        · refine v_return dX3_readStreet_82 rfl ?_
          exact h m1 (a1.tr b1.D) (by omega) (b1.dr hd a4)
        · exact hc_18.elim
    have nx : ∀ (m1 m2 : Mem_) (i' : Nat), k ≤ n → frD d μ m1 → i' < n → tx i' ≠ 32 → k ≤ i' → gT tx n (itS tx n) i' s = gT tx n (itS tx n) 0 ([], []) → itPost tx n d m1 m2 s (itS tx n i' s) → V_ nX3_readStreet 76 [R_ 26, R_ d, I_ k, U_] [] m2 Q := by
      intro m1 m2 i' hk b1 b2 b3 b4 b5 b6
      obtain ⟨c1, c2, c3, c4⟩ := b6
      match e : itS tx n i' s, c2, c3, c4 with
      | (j, none), c2, c3, c4 =>
        rw [gT_fail b2 b3 e] at b5
        exact fl m2 j j hk (b1.tr c1) c2 c3 (by rw [← b5]; exact c4) (by rw [← b5])
      | (j, some s'), c2, c3, c4 =>
        have u := itS_up _ _ _ _ e
        rw [gT_ok itS_up b2 b3 e] at b5
        refine v_iinc (ls' := [_, _, _, _]) dX3_readStreet_76 rfl (fun hi_76 => by omega) rfl rfl ?_
        refine v_goto (tgt := 6) dX3_readStreet_79 (by decide) ?_
        exact ih (by omega) m2 j s' (b1.tr c1) c2 c3 c4 (by omega) b5
    refine v_iload_n dX3_readStreet_6 rfl rfl ?_
    refine v_aload_n dX3_readStreet_7 rfl rfl ?_
    refine v_getI dX3_readStreet_8 fX3_34 rfl rfl rfl ?_
    refine v_icmp_gt (tgt := 82) dX3_readStreet_11 (by decide) (fun hc_11 => ?_) (fun hc_11 => ?_)
    · refine v_return dX3_readStreet_82 rfl ?_
      rw [gT_end (by omega)] at a6
      exact h m a1 (by rw [← a6]; exact a3) (by rw [← a6]; exact a4)
    · refine v_aload_n dX3_readStreet_14 rfl rfl ?_
      refine v_callVi [] dX3_readStreet_15 lX3_48 kvX3_skipToItem (plX3 _ _) (Or.inr rfl) rfl rfl rfl rfl rfl rfl rfl rfl rfl (c_X3_skipToItem0 (a1.tx hd ht) a2 a3 (fun m1 i' b1 b2 b3 b4 b5 b6 => ?_))
      rw [gT_skip itS_up b4 b5] at a6
      have a4 := b1.dr hd a4
      have a1 := a1.tr b1.D
      refine v_ifb_eq (tgt := 82) dX3_readStreet_18 (by decide) (fun hc_18 => ?_) (fun hc_18 => ?_)
      · refine v_return dX3_readStreet_82 rfl ?_
        rw [gT_end (by omega)] at a6
        exact h m1 a1 (by rw [← a6]; exact b3) (by rw [← a6]; exact a4)
      · refine v_aload_n dX3_readStreet_21 rfl rfl ?_
        refine v_callVi [] dX3_readStreet_22 lX3_52 kvX3_sign (plX3 _ _) (Or.inl rfl) rfl rfl rfl rfl rfl rfl rfl rfl rfl (c_X3_sign (a1.tx hd ht) b2 ?_)
        have hin : i' < n := by omega
        rw [if_pos hin]
        refine v_istore_n (ls' := [_, _, _, _]) dX3_readStreet_25 rfl rfl rfl rfl ?_
        refine v_iload_n dX3_readStreet_26 rfl rfl ?_
        refine v_bipush dX3_readStreet_27 (by decide) ?_
        refine v_icmp_ne (tgt := 49) dX3_readStreet_29 (by decide) (fun hc_29 => ?_) (fun hc_29 => ?_)
        · refine v_iload_n dX3_readStreet_49 rfl rfl ?_
          refine v_bipush dX3_readStreet_50 (by decide) ?_
          refine v_icmp_ne (tgt := 72) dX3_readStreet_52 (by decide) (fun hc_52 => ?_) (fun hc_52 => ?_)
          · refine v_aload_n dX3_readStreet_72 rfl rfl ?_
            refine v_callVv [] dX3_readStreet_73 lX3_69 kvX3_stop (plX3 _ _) rfl rfl rfl rfl rfl rfl rfl rfl rfl rfl (c_X3_stop0 b2 b3 (fun m2 c1 c2 c3 => ?_))
            refine v_kill (ls' := [_, _, _, _]) 3 rfl ?_
            refine nx m1 m2 i' (by omega) a1 hin (b6 hin) (by omega) a6 ?_
            unfold itS
            rw [if_neg (by omega), if_neg (by omega)]
            exact ⟨c1.D, c2, c3, c1.dr hd a4⟩
          · refine v_aload_n dX3_readStreet_55 rfl rfl ?_
            refine v_getI dX3_readStreet_56 fX3_63 (shp_st hst) (fk_st1 hst) rfl ?_
            rw [a4.2.1.1]
            refine v_bipush dX3_readStreet_59 (by decide) ?_
            refine v_icmp_ge (tgt := 72) dX3_readStreet_61 (by decide) (fun hc_61 => ?_) (fun hc_61 => ?_)
            · refine v_aload_n dX3_readStreet_72 rfl rfl ?_
              refine v_callVv [] dX3_readStreet_73 lX3_69 kvX3_stop (plX3 _ _) rfl rfl rfl rfl rfl rfl rfl rfl rfl rfl (c_X3_stop0 b2 b3 (fun m2 c1 c2 c3 => ?_))
              refine v_kill (ls' := [_, _, _, _]) 3 rfl ?_
              refine nx m1 m2 i' (by omega) a1 hin (b6 hin) (by omega) a6 ?_
              unfold itS
              rw [if_neg (by omega), if_neg (by omega)]
              exact ⟨c1.D, c2, c3, c1.dr hd a4⟩
            · refine v_aload_n dX3_readStreet_64 rfl rfl ?_
              refine v_aload_n dX3_readStreet_65 rfl rfl ?_
              refine v_callVv [_] dX3_readStreet_66 lX3_66 kvX3_readPerson (plX3 _ _) rfl rfl rfl rfl rfl rfl rfl rfl rfl rfl (c_X3_readPerson hd (a1.tx hd ht) b2 hin b3 a4 (by omega) (fun m2 c1 => ?_))
              refine v_goto (tgt := 76) dX3_readStreet_69 (by decide) ?_
              refine v_kill (ls' := [_, _, _, _]) 3 rfl ?_
              refine nx m1 m2 i' (by omega) a1 hin (b6 hin) (by omega) a6 ?_
              unfold itS
              rw [if_neg (by omega), if_pos (by omega)]
              exact c1
        · refine v_aload_n dX3_readStreet_32 rfl rfl ?_
          refine v_getI dX3_readStreet_33 fX3_56 (shp_st hst) (fk_st0 hst) rfl ?_
          rw [a4.1.1]
          refine v_bipush dX3_readStreet_36 (by decide) ?_
          refine v_icmp_ge (tgt := 49) dX3_readStreet_38 (by decide) (fun hc_38 => ?_) (fun hc_38 => ?_)
          · refine v_iload_n dX3_readStreet_49 rfl rfl ?_
            refine v_bipush dX3_readStreet_50 (by decide) ?_
            refine v_icmp_ne (tgt := 72) dX3_readStreet_52 (by decide) (fun hc_52 => ?_) (fun hc_52 => ?_)
            · refine v_aload_n dX3_readStreet_72 rfl rfl ?_
              refine v_callVv [] dX3_readStreet_73 lX3_69 kvX3_stop (plX3 _ _) rfl rfl rfl rfl rfl rfl rfl rfl rfl rfl (c_X3_stop0 b2 b3 (fun m2 c1 c2 c3 => ?_))
              refine v_kill (ls' := [_, _, _, _]) 3 rfl ?_
              refine nx m1 m2 i' (by omega) a1 hin (b6 hin) (by omega) a6 ?_
              unfold itS
              rw [if_neg (by omega), if_neg (by omega)]
              exact ⟨c1.D, c2, c3, c1.dr hd a4⟩
            · refine v_aload_n dX3_readStreet_55 rfl rfl ?_
              refine v_getI dX3_readStreet_56 fX3_63 (shp_st hst) (fk_st1 hst) rfl ?_
              rw [a4.2.1.1]
              refine v_bipush dX3_readStreet_59 (by decide) ?_
              refine v_icmp_ge (tgt := 72) dX3_readStreet_61 (by decide) (fun hc_61 => ?_) (fun hc_61 => ?_)
              · refine v_aload_n dX3_readStreet_72 rfl rfl ?_
                refine v_callVv [] dX3_readStreet_73 lX3_69 kvX3_stop (plX3 _ _) rfl rfl rfl rfl rfl rfl rfl rfl rfl rfl (c_X3_stop0 b2 b3 (fun m2 c1 c2 c3 => ?_))
                refine v_kill (ls' := [_, _, _, _]) 3 rfl ?_
                refine nx m1 m2 i' (by omega) a1 hin (b6 hin) (by omega) a6 ?_
                unfold itS
                rw [if_neg (by omega), if_neg (by omega)]
                exact ⟨c1.D, c2, c3, c1.dr hd a4⟩
              · refine v_aload_n dX3_readStreet_64 rfl rfl ?_
                refine v_aload_n dX3_readStreet_65 rfl rfl ?_
                refine v_callVv [_] dX3_readStreet_66 lX3_66 kvX3_readPerson (plX3 _ _) rfl rfl rfl rfl rfl rfl rfl rfl rfl rfl (c_X3_readPerson hd (a1.tx hd ht) b2 hin b3 a4 (by omega) (fun m2 c1 => ?_))
                refine v_goto (tgt := 76) dX3_readStreet_69 (by decide) ?_
                refine v_kill (ls' := [_, _, _, _]) 3 rfl ?_
                refine nx m1 m2 i' (by omega) a1 hin (b6 hin) (by omega) a6 ?_
                unfold itS
                rw [if_neg (by omega), if_pos (by omega)]
                exact c1
          · refine v_aload_n dX3_readStreet_41 rfl rfl ?_
            refine v_aload_n dX3_readStreet_42 rfl rfl ?_
            refine v_callVv [_] dX3_readStreet_43 lX3_59 kvX3_readHouse (plX3 _ _) rfl rfl rfl rfl rfl rfl rfl rfl rfl rfl (c_X3_readHouse hd (a1.tx hd ht) b2 hin b3 a4 (by omega) (fun m2 c1 => ?_))
            refine v_goto (tgt := 76) dX3_readStreet_46 (by decide) ?_
            refine v_kill (ls' := [_, _, _, _]) 3 rfl ?_
            refine nx m1 m2 i' (by omega) a1 hin (b6 hin) (by omega) a6 ?_
            unfold itS
            rw [if_pos (by omega)]
            exact c1
  refine v_aload_n dX3_readStreet_0 rfl rfl ?_
  refine v_callVv [] dX3_readStreet_1 lX3_43 kvX5_clear (plX5 _ _) rfl (shp_st hst) rfl rfl rfl rfl rfl rfl rfl rfl (c_X5_clear hd ?_)
  refine v_iconst dX3_readStreet_4 (by decide) ?_
  refine v_istore_n (ls' := [_, _, _, _]) dX3_readStreet_5 rfl rfl rfl rfl ?_
  refine lp 0 (by omega) (by omega) _ 0 ([], []) (fun o k q1 q2 => by rw [mset_off (by omega), mset_off (by omega)]) (by rw [mset_off (by omega), mset_off (by omega)]; exact hi) (by rw [mset_off (by omega), mset_off (by omega)]; exact hw) ?_ (by omega) rfl
  exact ⟨⟨by rw [mset_off (by omega), mset_same]; rfl, by simp⟩, ⟨by rw [mset_same]; rfl, by simp⟩, fun k hk => absurd hk (by simp), fun k hk => absurd hk (by simp)⟩
end
