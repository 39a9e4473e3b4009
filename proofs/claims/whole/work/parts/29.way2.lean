/-! the quickest way, the whole search -/
def PSw (st : Int) (step : St3 → St3 → Prop) (s0 : St3) (G : St3 → Prop) (m0 : Mem_) (L0 : Nat) (mn0 : Nat → Nat) (i : Nat) (m : Mem_) (T : St3 → Prop) : Prop :=
  ∃ (L : Nat) (mn : Nat → Nat), L0 ≤ L ∧ WV st m L ∧ BFp step s0 G (fun j => dcd (m 32 j).toNat) mn i L T ∧ (∀ j, j < L0 → mn j = mn0 j) ∧ (∀ j, L0 ≤ j → j < L → mn j = mn0 i + 1) ∧ (∀ o k, o ≠ 31 → o ≠ 32 → ¬ (o = 28 ∧ k = 4) → m o k = m0 o k) ∧ (∀ j, j < L0 → m 32 j = m0 32 j)
theorem PSw_f {st : Int} {step : St3 → St3 → Prop} {s0 : St3} {G : St3 → Prop} {m0 : Mem_} {L0 : Nat} {mn0 : Nat → Nat} {i : Nat} {m : Mem_} {T : St3 → Prop} (h : PSw st step s0 G m0 L0 mn0 i m T) : ∀ o k, o ≠ 31 → o ≠ 32 → ¬ (o = 28 ∧ k = 4) → m o k = m0 o k := by
  obtain ⟨L, mn, -, -, -, -, -, h, -⟩ := h
  exact h
section
variable {m : Mem_} {Q : PV → Mem_ → Prop}
theorem c_reachedPS {st : Int} {step : St3 → St3 → Prop} {s0 : St3} {G : St3 → Prop} {m0 : Mem_} {L0 : Nat} {mn0 : Nat → Nat} {i : Nat} {T : St3 → Prop} {a o b : Nat} (hPS : PSw st step s0 G m0 L0 mn0 i m T) (hi : i < L0) (ht : step (dcd (m0 32 i).toNat) (a, o, b)) (hv : vC (a, o, b)) (hQ : ∀ m' : Mem_, PSw st step s0 G m0 L0 mn0 i m' (fun u => T u ∨ u = (a, o, b)) → Q U_ m') : V_ nX6_reached 0 [R_ 28, I_ (a : Int), I_ (o : Int), I_ (b : Int), U_, U_] [] m Q := by
  obtain ⟨L, mn, hL, hW, hB, hm1, hm2, hf, hq⟩ := hPS
  refine c_X6_reached hv hW (fun q => ?_) (fun q m' hex hc hW' => ?_)
  · obtain ⟨k, k1, k2⟩ := q
    exact hQ m ⟨L, mn, hL, hW, BFp_old hB ⟨k, k1, by rw [k2, Int.toNat_natCast, dcd_cd hv]⟩, hm1, hm2, hf, hq⟩
  · have h32 : ∀ j, j < L → m' 32 j = m 32 j := fun j hj => hex 32 j (by omega) (by omega) (by omega)
    refine hQ m' ⟨L + 1, fun j => if j < L then mn j else mn i + 1, by omega, hW', ?_, fun j hj => ?_, fun j hj1 hj2 => ?_, fun o' k q1 q2 q3 => ?_, fun j hj => ?_⟩
    · refine BFp_new hB (by omega) (t := (a, o, b)) ?_ (fun j hj => by rw [h32 j hj]) (by rw [hc, Int.toNat_natCast, dcd_cd hv]) (fun j hj => if_pos hj) (if_neg (by omega))
      rw [hq i hi]
      exact ht
    · show (if j < L then mn j else mn i + 1) = mn0 j
      rw [if_pos (by omega)]; exact hm1 j hj
    · show (if j < L then mn j else mn i + 1) = mn0 i + 1
      split
      · rename_i q1; exact hm2 j hj1 q1
      · rw [hm1 i hi]
    · rw [hex o' k q1 (by omega) q3]; exact hf o' k q1 q2 q3
    · rw [h32 j (by omega)]; exact hq j hj
set_option maxRecDepth 10000 in
set_option maxHeartbeats 1000000 in
theorem c_X6_goOn {st : Int} {nH goal : Nat} {look ent : Nat → Nat} {s0 : St3} {G : St3 → Prop} {m0 : Mem_} {L0 : Nat} {mn0 : Nat → Nat} {i : Nat} {a o b : Nat} (hPS : PSw st (stC nH look ent goal) s0 G m0 L0 mn0 i m (fun _ => False)) (hi : i < L0) (hq : dcd (m0 32 i).toNat = (a, o, b)) (hv : vC (a, o, b)) (hH : m0 28 0 = (nH : Int) ∧ nH ≤ 6) (hg : m0 28 2 = (goal : Int) ∧ goal < 64) (hlk : ∀ h : Nat, h < 6 → (m0 29 h = (look h : Int) ∧ look h < 64) ∧ (m0 30 h = (ent h : Int) ∧ ent h < 64))
    (hQ : ∀ (m' : Mem_) (T : St3 → Prop), PSw st (stC nH look ent goal) s0 G m0 L0 mn0 i m' T → (∀ t, stC nH look ent goal (a, o, b) t → T t) → Q U_ m') : V_ nX6_goOn 0 [R_ 28, I_ (a : Int), I_ (o : Int), I_ (b : Int)] [] m Q := by
  have hv1 : a < 6 := hv.1
  have hv2 : o < 64 := hv.2.1
  have hv3 : b < 64 := hv.2.2.1
  have hv4 : sb b o := hv.2.2.2
  obtain ⟨⟨l1, l2⟩, e1, e2⟩ := hlk a hv1
  have h2a : 2 ^ a < 2 ^ 6 := Nat.pow_lt_pow_right (by omega) hv1
  have ol : o ||| look a < 2 ^ 6 := Nat.or_lt_two_pow (by omega) (by omega)
  have oe : o ||| ent a < 2 ^ 6 := Nat.or_lt_two_pow (by omega) (by omega)
  have ag : 2 ^ a &&& goal < 2 ^ 6 := Nat.and_lt_two_pow _ (by omega)
  have bg : b ||| (2 ^ a &&& goal) < 2 ^ 6 := Nat.or_lt_two_pow (by omega) ag
  have v1 : 0 < a → vC (a - 1, o, b) := fun q => ⟨by show a - 1 < 6; omega, hv2, hv3, hv4⟩
  have v2 : a + 1 < nH → vC (a + 1, o, b) := fun q => ⟨by show a + 1 < 6; omega, hv2, hv3, hv4⟩
  have v3 : vC (a, o ||| look a, b) := ⟨hv1, ol, hv3, sb_tr hv4 (sb_l _ _)⟩
  have v4 : o.testBit a = true → vC (a, o ||| ent a, b ||| (2 ^ a &&& goal)) := fun q => ⟨hv1, oe, bg, sb_or (sb_tr hv4 (sb_l _ _)) (fun i hi => sb_l _ _ i (by
    rw [Nat.testBit_and, Bool.and_eq_true, Nat.testBit_two_pow] at hi
    have : a = i := by simpa using hi.1
    rw [← this]; exact q))⟩
  have hf := PSw_f hPS
  have stp : ∀ t, stC nH look ent goal (a, o, b) t → stC nH look ent goal (dcd (m0 32 i).toNat) t := fun t ht => by rw [hq]; exact ht
  refine v_iload_n dX6_goOn_0 rfl rfl ?_
  refine v_if_lt (tgt := 10) dX6_goOn_1 (by decide) (fun hc_1 => ?_) (fun hc_1 => ?_)
  · refine v_return dX6_goOn_10 rfl ?_
    first
      | (exfalso; omega)
      | (refine hQ _ _ hPS (fun t ht => ?_)
         rcases ht with ⟨q1, e⟩ | ⟨q1, e⟩ | e | ⟨q1, e⟩ <;>
           first
             | (exfalso; simp only at q1; omega)
             | (exfalso; exact hc_62 (by simpa using q1))
             | (subst e; simp))
  · refine v_iload_n dX6_goOn_4 rfl rfl ?_
    refine v_bipush dX6_goOn_5 (by decide) ?_
    refine v_icmp_lt (tgt := 11) dX6_goOn_7 (by decide) (fun hc_7 => ?_) (fun hc_7 => ?_)
    · refine v_iload_n dX6_goOn_11 rfl rfl ?_
      refine v_if_le (tgt := 24) dX6_goOn_12 (by decide) (fun hc_12 => ?_) (fun hc_12 => ?_)
      · refine v_iload_n dX6_goOn_24 rfl rfl ?_
        refine v_aload_n dX6_goOn_25 rfl rfl ?_
        refine v_getI dX6_goOn_26 fX6_24 rfl rfl rfl ?_
        rw [hf 28 0 (by decide) (by decide) (by decide), hH.1]
        refine v_iconst dX6_goOn_29 (by decide) ?_
        refine v_isub dX6_goOn_30 (fun ha hb => by omega) ?_
        refine v_icmp_ge (tgt := 43) dX6_goOn_31 (by decide) (fun hc_31 => ?_) (fun hc_31 => ?_)
        · refine v_aload_n dX6_goOn_43 rfl rfl ?_
          refine v_iload_n dX6_goOn_44 rfl rfl ?_
          refine v_iload_n dX6_goOn_45 rfl rfl ?_
          refine v_aload_n dX6_goOn_46 rfl rfl ?_
          refine v_getR dX6_goOn_47 fX6_9 rfl rfl rfl ?_
          refine v_iload_n dX6_goOn_50 rfl rfl ?_
          refine v_iald dX6_goOn_51 rfl (by omega) (by omega) ?_
          rw [Int.toNat_natCast, hf 29 a (by decide) (by decide) (by omega), l1]
          refine v_ior dX6_goOn_52 ?_
          rw [bOr_nat (by omega) (by omega)]
          refine v_iload_n dX6_goOn_53 rfl rfl ?_
          refine v_callVv [_, _, _] dX6_goOn_54 lX6_41 kvX6_reached (plX6 _ _) rfl rfl rfl rfl rfl rfl rfl rfl rfl rfl (c_reachedPS hPS hi (stp _ (Or.inr (Or.inr (Or.inl rfl)))) v3 (fun m1 hPS => ?_))
          have hf := PSw_f hPS
          refine v_iload_n dX6_goOn_57 rfl rfl ?_
          refine v_iload_n dX6_goOn_58 rfl rfl ?_
          refine v_callNi [_, _] dX6_goOn_59 lnX6_48 ksX7_has (plX7 _ _) (Or.inr rfl) rfl rfl rfl rfl rfl rfl (c_X7_has (by omega) (by omega) (by omega) ?_)
          refine v_ifb_eq (tgt := 88) dX6_goOn_62 (by decide) (fun hc_62 => ?_) (fun hc_62 => ?_)
          · refine v_return dX6_goOn_88 rfl ?_
            first
              | (exfalso; omega)
              | (refine hQ _ _ hPS (fun t ht => ?_)
                 rcases ht with ⟨q1, e⟩ | ⟨q1, e⟩ | e | ⟨q1, e⟩ <;>
                   first
                     | (exfalso; simp only at q1; omega)
                     | (exfalso; exact hc_62 (by simpa using q1))
                     | (subst e; simp))
          · refine v_aload_n dX6_goOn_65 rfl rfl ?_
            refine v_iload_n dX6_goOn_66 rfl rfl ?_
            refine v_iload_n dX6_goOn_67 rfl rfl ?_
            refine v_aload_n dX6_goOn_68 rfl rfl ?_
            refine v_getR dX6_goOn_69 fX6_15 rfl rfl rfl ?_
            refine v_iload_n dX6_goOn_72 rfl rfl ?_
            refine v_iald dX6_goOn_73 rfl (by omega) (by omega) ?_
            rw [Int.toNat_natCast, hf 30 a (by decide) (by decide) (by omega), e1]
            refine v_ior dX6_goOn_74 ?_
            rw [bOr_nat (by omega) (by omega)]
            refine v_iload_n dX6_goOn_75 rfl rfl ?_
            refine v_iconst dX6_goOn_76 (by decide) ?_
            refine v_iload_n dX6_goOn_77 rfl rfl ?_
            refine v_ishl dX6_goOn_78 ?_
            rw [bShl_one (by omega) (by omega), Int.toNat_natCast]
            refine v_aload_n dX6_goOn_79 rfl rfl ?_
            refine v_getI dX6_goOn_80 fX6_31 rfl rfl rfl ?_
            rw [hf 28 2 (by decide) (by decide) (by decide), hg.1]
            refine v_iand dX6_goOn_83 ?_
            rw [bAnd_nat (by omega) (by omega)]
            refine v_ior dX6_goOn_84 ?_
            rw [bOr_nat (by omega) (by omega)]
            refine v_callVv [_, _, _] dX6_goOn_85 lX6_41 kvX6_reached (plX6 _ _) rfl rfl rfl rfl rfl rfl rfl rfl rfl rfl (c_reachedPS hPS hi (stp _ (Or.inr (Or.inr (Or.inr ⟨by simpa using hc_62, rfl⟩)))) (v4 (by simpa using hc_62)) (fun m1 hPS => ?_))
            refine v_return dX6_goOn_88 rfl ?_
            first
              | (exfalso; omega)
              | (refine hQ _ _ hPS (fun t ht => ?_)
                 rcases ht with ⟨q1, e⟩ | ⟨q1, e⟩ | e | ⟨q1, e⟩ <;>
                   first
                     | (exfalso; simp only at q1; omega)
                     | (exfalso; exact hc_62 (by simpa using q1))
                     | (subst e; simp))
        · refine v_aload_n dX6_goOn_34 rfl rfl ?_
          refine v_iload_n dX6_goOn_35 rfl rfl ?_
          refine v_iconst dX6_goOn_36 (by decide) ?_
          refine v_iadd dX6_goOn_37 (fun ha hb => by omega) ?_
          rw [show (a : Int) + 1 = ((a + 1 : Nat) : Int) by omega]
          refine v_iload_n dX6_goOn_38 rfl rfl ?_
          refine v_iload_n dX6_goOn_39 rfl rfl ?_
          refine v_callVv [_, _, _] dX6_goOn_40 lX6_41 kvX6_reached (plX6 _ _) rfl rfl rfl rfl rfl rfl rfl rfl rfl rfl (c_reachedPS hPS hi (stp _ (Or.inr (Or.inl ⟨by omega, rfl⟩))) (v2 (by omega)) (fun m1 hPS => ?_))
          have hf := PSw_f hPS
          refine v_aload_n dX6_goOn_43 rfl rfl ?_
          refine v_iload_n dX6_goOn_44 rfl rfl ?_
          refine v_iload_n dX6_goOn_45 rfl rfl ?_
          refine v_aload_n dX6_goOn_46 rfl rfl ?_
          refine v_getR dX6_goOn_47 fX6_9 rfl rfl rfl ?_
          refine v_iload_n dX6_goOn_50 rfl rfl ?_
          refine v_iald dX6_goOn_51 rfl (by omega) (by omega) ?_
          rw [Int.toNat_natCast, hf 29 a (by decide) (by decide) (by omega), l1]
          refine v_ior dX6_goOn_52 ?_
          rw [bOr_nat (by omega) (by omega)]
          refine v_iload_n dX6_goOn_53 rfl rfl ?_
          refine v_callVv [_, _, _] dX6_goOn_54 lX6_41 kvX6_reached (plX6 _ _) rfl rfl rfl rfl rfl rfl rfl rfl rfl rfl (c_reachedPS hPS hi (stp _ (Or.inr (Or.inr (Or.inl rfl)))) v3 (fun m1 hPS => ?_))
          have hf := PSw_f hPS
          refine v_iload_n dX6_goOn_57 rfl rfl ?_
          refine v_iload_n dX6_goOn_58 rfl rfl ?_
          refine v_callNi [_, _] dX6_goOn_59 lnX6_48 ksX7_has (plX7 _ _) (Or.inr rfl) rfl rfl rfl rfl rfl rfl (c_X7_has (by omega) (by omega) (by omega) ?_)
          refine v_ifb_eq (tgt := 88) dX6_goOn_62 (by decide) (fun hc_62 => ?_) (fun hc_62 => ?_)
          · refine v_return dX6_goOn_88 rfl ?_
            first
              | (exfalso; omega)
              | (refine hQ _ _ hPS (fun t ht => ?_)
                 rcases ht with ⟨q1, e⟩ | ⟨q1, e⟩ | e | ⟨q1, e⟩ <;>
                   first
                     | (exfalso; simp only at q1; omega)
                     | (exfalso; exact hc_62 (by simpa using q1))
                     | (subst e; simp))
          · refine v_aload_n dX6_goOn_65 rfl rfl ?_
            refine v_iload_n dX6_goOn_66 rfl rfl ?_
            refine v_iload_n dX6_goOn_67 rfl rfl ?_
            refine v_aload_n dX6_goOn_68 rfl rfl ?_
            refine v_getR dX6_goOn_69 fX6_15 rfl rfl rfl ?_
            refine v_iload_n dX6_goOn_72 rfl rfl ?_
            refine v_iald dX6_goOn_73 rfl (by omega) (by omega) ?_
            rw [Int.toNat_natCast, hf 30 a (by decide) (by decide) (by omega), e1]
            refine v_ior dX6_goOn_74 ?_
            rw [bOr_nat (by omega) (by omega)]
            refine v_iload_n dX6_goOn_75 rfl rfl ?_
            refine v_iconst dX6_goOn_76 (by decide) ?_
            refine v_iload_n dX6_goOn_77 rfl rfl ?_
            refine v_ishl dX6_goOn_78 ?_
            rw [bShl_one (by omega) (by omega), Int.toNat_natCast]
            refine v_aload_n dX6_goOn_79 rfl rfl ?_
            refine v_getI dX6_goOn_80 fX6_31 rfl rfl rfl ?_
            rw [hf 28 2 (by decide) (by decide) (by decide), hg.1]
            refine v_iand dX6_goOn_83 ?_
            rw [bAnd_nat (by omega) (by omega)]
            refine v_ior dX6_goOn_84 ?_
            rw [bOr_nat (by omega) (by omega)]
            refine v_callVv [_, _, _] dX6_goOn_85 lX6_41 kvX6_reached (plX6 _ _) rfl rfl rfl rfl rfl rfl rfl rfl rfl rfl (c_reachedPS hPS hi (stp _ (Or.inr (Or.inr (Or.inr ⟨by simpa using hc_62, rfl⟩)))) (v4 (by simpa using hc_62)) (fun m1 hPS => ?_))
            refine v_return dX6_goOn_88 rfl ?_
            first
              | (exfalso; omega)
              | (refine hQ _ _ hPS (fun t ht => ?_)
                 rcases ht with ⟨q1, e⟩ | ⟨q1, e⟩ | e | ⟨q1, e⟩ <;>
                   first
                     | (exfalso; simp only at q1; omega)
                     | (exfalso; exact hc_62 (by simpa using q1))
                     | (subst e; simp))
      · refine v_aload_n dX6_goOn_15 rfl rfl ?_
        refine v_iload_n dX6_goOn_16 rfl rfl ?_
        refine v_iconst dX6_goOn_17 (by decide) ?_
        refine v_isub dX6_goOn_18 (fun ha hb => by omega) ?_
        rw [show (a : Int) - 1 = ((a - 1 : Nat) : Int) by omega]
        refine v_iload_n dX6_goOn_19 rfl rfl ?_
        refine v_iload_n dX6_goOn_20 rfl rfl ?_
        refine v_callVv [_, _, _] dX6_goOn_21 lX6_41 kvX6_reached (plX6 _ _) rfl rfl rfl rfl rfl rfl rfl rfl rfl rfl (c_reachedPS hPS hi (stp _ (Or.inl ⟨by omega, rfl⟩)) (v1 (by omega)) (fun m1 hPS => ?_))
        have hf := PSw_f hPS
        refine v_iload_n dX6_goOn_24 rfl rfl ?_
        refine v_aload_n dX6_goOn_25 rfl rfl ?_
        refine v_getI dX6_goOn_26 fX6_24 rfl rfl rfl ?_
        rw [hf 28 0 (by decide) (by decide) (by decide), hH.1]
        refine v_iconst dX6_goOn_29 (by decide) ?_
        refine v_isub dX6_goOn_30 (fun ha hb => by omega) ?_
        refine v_icmp_ge (tgt := 43) dX6_goOn_31 (by decide) (fun hc_31 => ?_) (fun hc_31 => ?_)
        · refine v_aload_n dX6_goOn_43 rfl rfl ?_
          refine v_iload_n dX6_goOn_44 rfl rfl ?_
          refine v_iload_n dX6_goOn_45 rfl rfl ?_
          refine v_aload_n dX6_goOn_46 rfl rfl ?_
          refine v_getR dX6_goOn_47 fX6_9 rfl rfl rfl ?_
          refine v_iload_n dX6_goOn_50 rfl rfl ?_
          refine v_iald dX6_goOn_51 rfl (by omega) (by omega) ?_
          rw [Int.toNat_natCast, hf 29 a (by decide) (by decide) (by omega), l1]
          refine v_ior dX6_goOn_52 ?_
          rw [bOr_nat (by omega) (by omega)]
          refine v_iload_n dX6_goOn_53 rfl rfl ?_
          refine v_callVv [_, _, _] dX6_goOn_54 lX6_41 kvX6_reached (plX6 _ _) rfl rfl rfl rfl rfl rfl rfl rfl rfl rfl (c_reachedPS hPS hi (stp _ (Or.inr (Or.inr (Or.inl rfl)))) v3 (fun m1 hPS => ?_))
          have hf := PSw_f hPS
          refine v_iload_n dX6_goOn_57 rfl rfl ?_
          refine v_iload_n dX6_goOn_58 rfl rfl ?_
          refine v_callNi [_, _] dX6_goOn_59 lnX6_48 ksX7_has (plX7 _ _) (Or.inr rfl) rfl rfl rfl rfl rfl rfl (c_X7_has (by omega) (by omega) (by omega) ?_)
          refine v_ifb_eq (tgt := 88) dX6_goOn_62 (by decide) (fun hc_62 => ?_) (fun hc_62 => ?_)
          · refine v_return dX6_goOn_88 rfl ?_
            first
              | (exfalso; omega)
              | (refine hQ _ _ hPS (fun t ht => ?_)
                 rcases ht with ⟨q1, e⟩ | ⟨q1, e⟩ | e | ⟨q1, e⟩ <;>
                   first
                     | (exfalso; simp only at q1; omega)
                     | (exfalso; exact hc_62 (by simpa using q1))
                     | (subst e; simp))
          · refine v_aload_n dX6_goOn_65 rfl rfl ?_
            refine v_iload_n dX6_goOn_66 rfl rfl ?_
            refine v_iload_n dX6_goOn_67 rfl rfl ?_
            refine v_aload_n dX6_goOn_68 rfl rfl ?_
            refine v_getR dX6_goOn_69 fX6_15 rfl rfl rfl ?_
            refine v_iload_n dX6_goOn_72 rfl rfl ?_
            refine v_iald dX6_goOn_73 rfl (by omega) (by omega) ?_
            rw [Int.toNat_natCast, hf 30 a (by decide) (by decide) (by omega), e1]
            refine v_ior dX6_goOn_74 ?_
            rw [bOr_nat (by omega) (by omega)]
            refine v_iload_n dX6_goOn_75 rfl rfl ?_
            refine v_iconst dX6_goOn_76 (by decide) ?_
            refine v_iload_n dX6_goOn_77 rfl rfl ?_
            refine v_ishl dX6_goOn_78 ?_
            rw [bShl_one (by omega) (by omega), Int.toNat_natCast]
            refine v_aload_n dX6_goOn_79 rfl rfl ?_
            refine v_getI dX6_goOn_80 fX6_31 rfl rfl rfl ?_
            rw [hf 28 2 (by decide) (by decide) (by decide), hg.1]
            refine v_iand dX6_goOn_83 ?_
            rw [bAnd_nat (by omega) (by omega)]
            refine v_ior dX6_goOn_84 ?_
            rw [bOr_nat (by omega) (by omega)]
            refine v_callVv [_, _, _] dX6_goOn_85 lX6_41 kvX6_reached (plX6 _ _) rfl rfl rfl rfl rfl rfl rfl rfl rfl rfl (c_reachedPS hPS hi (stp _ (Or.inr (Or.inr (Or.inr ⟨by simpa using hc_62, rfl⟩)))) (v4 (by simpa using hc_62)) (fun m1 hPS => ?_))
            refine v_return dX6_goOn_88 rfl ?_
            first
              | (exfalso; omega)
              | (refine hQ _ _ hPS (fun t ht => ?_)
                 rcases ht with ⟨q1, e⟩ | ⟨q1, e⟩ | e | ⟨q1, e⟩ <;>
                   first
                     | (exfalso; simp only at q1; omega)
                     | (exfalso; exact hc_62 (by simpa using q1))
                     | (subst e; simp))
        · refine v_aload_n dX6_goOn_34 rfl rfl ?_
          refine v_iload_n dX6_goOn_35 rfl rfl ?_
          refine v_iconst dX6_goOn_36 (by decide) ?_
          refine v_iadd dX6_goOn_37 (fun ha hb => by omega) ?_
          rw [show (a : Int) + 1 = ((a + 1 : Nat) : Int) by omega]
          refine v_iload_n dX6_goOn_38 rfl rfl ?_
          refine v_iload_n dX6_goOn_39 rfl rfl ?_
          refine v_callVv [_, _, _] dX6_goOn_40 lX6_41 kvX6_reached (plX6 _ _) rfl rfl rfl rfl rfl rfl rfl rfl rfl rfl (c_reachedPS hPS hi (stp _ (Or.inr (Or.inl ⟨by omega, rfl⟩))) (v2 (by omega)) (fun m1 hPS => ?_))
          have hf := PSw_f hPS
          refine v_aload_n dX6_goOn_43 rfl rfl ?_
          refine v_iload_n dX6_goOn_44 rfl rfl ?_
          refine v_iload_n dX6_goOn_45 rfl rfl ?_
          refine v_aload_n dX6_goOn_46 rfl rfl ?_
          refine v_getR dX6_goOn_47 fX6_9 rfl rfl rfl ?_
          refine v_iload_n dX6_goOn_50 rfl rfl ?_
          refine v_iald dX6_goOn_51 rfl (by omega) (by omega) ?_
          rw [Int.toNat_natCast, hf 29 a (by decide) (by decide) (by omega), l1]
          refine v_ior dX6_goOn_52 ?_
          rw [bOr_nat (by omega) (by omega)]
          refine v_iload_n dX6_goOn_53 rfl rfl ?_
          refine v_callVv [_, _, _] dX6_goOn_54 lX6_41 kvX6_reached (plX6 _ _) rfl rfl rfl rfl rfl rfl rfl rfl rfl rfl (c_reachedPS hPS hi (stp _ (Or.inr (Or.inr (Or.inl rfl)))) v3 (fun m1 hPS => ?_))
          have hf := PSw_f hPS
          refine v_iload_n dX6_goOn_57 rfl rfl ?_
          refine v_iload_n dX6_goOn_58 rfl rfl ?_
          refine v_callNi [_, _] dX6_goOn_59 lnX6_48 ksX7_has (plX7 _ _) (Or.inr rfl) rfl rfl rfl rfl rfl rfl (c_X7_has (by omega) (by omega) (by omega) ?_)
          refine v_ifb_eq (tgt := 88) dX6_goOn_62 (by decide) (fun hc_62 => ?_) (fun hc_62 => ?_)
          · refine v_return dX6_goOn_88 rfl ?_
            first
              | (exfalso; omega)
              | (refine hQ _ _ hPS (fun t ht => ?_)
                 rcases ht with ⟨q1, e⟩ | ⟨q1, e⟩ | e | ⟨q1, e⟩ <;>
                   first
                     | (exfalso; simp only at q1; omega)
                     | (exfalso; exact hc_62 (by simpa using q1))
                     | (subst e; simp))
          · refine v_aload_n dX6_goOn_65 rfl rfl ?_
            refine v_iload_n dX6_goOn_66 rfl rfl ?_
            refine v_iload_n dX6_goOn_67 rfl rfl ?_
            refine v_aload_n dX6_goOn_68 rfl rfl ?_
            refine v_getR dX6_goOn_69 fX6_15 rfl rfl rfl ?_
            refine v_iload_n dX6_goOn_72 rfl rfl ?_
            refine v_iald dX6_goOn_73 rfl (by omega) (by omega) ?_
            rw [Int.toNat_natCast, hf 30 a (by decide) (by decide) (by omega), e1]
            refine v_ior dX6_goOn_74 ?_
            rw [bOr_nat (by omega) (by omega)]
            refine v_iload_n dX6_goOn_75 rfl rfl ?_
            refine v_iconst dX6_goOn_76 (by decide) ?_
            refine v_iload_n dX6_goOn_77 rfl rfl ?_
            refine v_ishl dX6_goOn_78 ?_
            rw [bShl_one (by omega) (by omega), Int.toNat_natCast]
            refine v_aload_n dX6_goOn_79 rfl rfl ?_
            refine v_getI dX6_goOn_80 fX6_31 rfl rfl rfl ?_
            rw [hf 28 2 (by decide) (by decide) (by decide), hg.1]
            refine v_iand dX6_goOn_83 ?_
            rw [bAnd_nat (by omega) (by omega)]
            refine v_ior dX6_goOn_84 ?_
            rw [bOr_nat (by omega) (by omega)]
            refine v_callVv [_, _, _] dX6_goOn_85 lX6_41 kvX6_reached (plX6 _ _) rfl rfl rfl rfl rfl rfl rfl rfl rfl rfl (c_reachedPS hPS hi (stp _ (Or.inr (Or.inr (Or.inr ⟨by simpa using hc_62, rfl⟩)))) (v4 (by simpa using hc_62)) (fun m1 hPS => ?_))
            refine v_return dX6_goOn_88 rfl ?_
            first
              | (exfalso; omega)
              | (refine hQ _ _ hPS (fun t ht => ?_)
                 rcases ht with ⟨q1, e⟩ | ⟨q1, e⟩ | e | ⟨q1, e⟩ <;>
                   first
                     | (exfalso; simp only at q1; omega)
                     | (exfalso; exact hc_62 (by simpa using q1))
                     | (subst e; simp))
    · refine v_return dX6_goOn_10 rfl ?_
      first
        | (exfalso; omega)
        | (refine hQ _ _ hPS (fun t ht => ?_)
           rcases ht with ⟨q1, e⟩ | ⟨q1, e⟩ | e | ⟨q1, e⟩ <;>
             first
               | (exfalso; simp only at q1; omega)
               | (exfalso; exact hc_62 (by simpa using q1))
               | (subst e; simp))
end
