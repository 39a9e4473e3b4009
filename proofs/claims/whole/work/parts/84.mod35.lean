/-! the model over the class: soonest, round -/
section
variable {μ w : Mem_} {Q : PV → Mem_ → Prop}
theorem nx_0 {a b : Nat} : a ^^^ (a &&& b) = 0 ↔ sb a b := by
  constructor
  · intro h i hi
    refine Classical.byContradiction (fun q => ?_)
    have := nx_bit.2 ⟨hi, q⟩
    rw [h] at this
    simp at this
  · intro h
    apply Nat.eq_of_testBit_eq
    intro i
    rw [Nat.zero_testBit]
    cases hb : (a ^^^ (a &&& b)).testBit i with
    | false => rfl
    | true => exact absurd (h i (nx_bit.1 hb).1) (nx_bit.1 hb).2
theorem lkN_or {p : Int} {l x k : Nat} : lkN w p (l ||| 2 ^ x) k = lkN w p l k ||| (if k = x then lookN w p x else 0) := by
  unfold lkN
  by_cases h1 : l.testBit k = true <;> by_cases h2 : k = x
  · subst h2; rw [if_pos (or_bit.2 (Or.inl h1)), if_pos h1, if_pos rfl, Nat.or_self]
  · rw [if_pos (or_bit.2 (Or.inl h1)), if_pos h1, if_neg h2, Nat.or_zero]
  · subst h2; rw [if_pos (or_bit.2 (Or.inr (pw_bit.2 rfl))), if_neg h1, if_pos rfl, Nat.zero_or]
  · rw [if_neg (fun q => (or_bit.1 q).elim h1 (fun q => h2 (pw_bit.1 q).symm)), if_neg h1, if_neg h2, Nat.or_zero]
theorem enN_or {l x k : Nat} : enN w (l ||| 2 ^ x) k = enN w l k ||| (if k = x then entN w x else 0) := by
  unfold enN
  by_cases h1 : l.testBit k = true <;> by_cases h2 : k = x
  · subst h2; rw [if_pos (or_bit.2 (Or.inl h1)), if_pos h1, if_pos rfl, Nat.or_self]
  · rw [if_pos (or_bit.2 (Or.inl h1)), if_pos h1, if_neg h2, Nat.or_zero]
  · subst h2; rw [if_pos (or_bit.2 (Or.inr (pw_bit.2 rfl))), if_neg h1, if_pos rfl, Nat.zero_or]
  · rw [if_neg (fun q => (or_bit.1 q).elim h1 (fun q => h2 (pw_bit.1 q).symm)), if_neg h1, if_neg h2, Nat.or_zero]
theorem or_one {n x v : Nat} (h : x < n) : orR n (fun k => if k = x then v else 0) = v := by
  apply bx
  intro i
  rw [orR_bit]
  constructor
  · rintro ⟨k, k1, k2⟩
    by_cases e : k = x
    · rwa [if_pos e] at k2
    · rw [if_neg e] at k2; simp at k2
  · intro hv
    exact ⟨x, h, by rw [if_pos rfl]; exact hv⟩
theorem oN_look {p own : Int} {l b x : Nat} (hx : x < (w (stc w) 0).toNat) : oN w p own (l ||| 2 ^ x) b = oN w p own l b ||| lookN w p x := by
  unfold oN
  rw [show lkN w p (l ||| 2 ^ x) = fun k => lkN w p l k ||| (if k = x then lookN w p x else 0) from funext (fun k => lkN_or), orR_or, or_one hx]
  apply bx
  intro i
  simp only [or_bit]
  constructor
  · rintro ((q | q | q) | q) <;> simp [q]
  · rintro (((q | q) | q) | q) <;> simp [q]
theorem oN_ent {p own : Int} {l b x : Nat} (hx : x < (w (stc w) 0).toNat) : oN w p own l (b ||| 2 ^ x) = oN w p own l b ||| entN w x := by
  unfold oN
  rw [show enN w (b ||| 2 ^ x) = fun k => enN w b k ||| (if k = x then entN w x else 0) from funext (fun k => enN_or), orR_or, or_one hx]
  apply bx
  intro i
  simp only [or_bit]
  constructor
  · rintro ((q | q) | q | q) <;> simp [q]
  · rintro (((q | q) | q) | q) <;> simp [q]
theorem oN_0 {p own : Int} : oN w p own 0 0 = owN w p own := by
  unfold oN
  have e1 : orR (w (stc w) 0).toNat (lkN w p 0) = 0 := by
    apply bx; intro i; rw [orR_bit]
    constructor
    · rintro ⟨k, k1, k2⟩; unfold lkN at k2; simp at k2
    · intro q; simp at q
  have e2 : orR (w (stc w) 0).toNat (enN w 0) = 0 := by
    apply bx; intro i; rw [orR_bit]
    constructor
    · rintro ⟨k, k1, k2⟩; unfold enN at k2; simp at k2
    · intro q; simp at q
  rw [e1, e2, Nat.or_zero, Nat.or_zero]
/-- the two ways, step by step alike -/
theorem way_eq {p own home : Int} {set : Nat} (hw : CW w) (hpp : 0 ≤ p ∧ p < w (stc w) 1) (hset : set < 2 ^ (w (stc w) 0).toNat) (r : Int) : Lst (gRS (stM w p own) (staN w p, 0, 0) (gM set home (staN w p))) r → Lst (wyC w p own set home) r := by
  intro hr
  have s1 := hw.1.2.1
  by_cases h0 : w (stc w) 0 = 0
  · have e : set = 0 := by rw [h0] at hset; simpa using hset
    subst e
    have l1 : Lst (gRS (stM w p own) (staN w p, 0, 0) (gM 0 home (staN w p))) 0 := Or.inl ⟨0, rfl, ⟨_, rfl, by show 0 ^^^ (0 &&& 0) = 0; decide, Or.inr rfl⟩, fun k hk => by omega⟩
    have l2 : Lst (wyC w p own 0 home) 0 := Or.inl ⟨0, rfl, ⟨_, rfl, rfl, Or.inr rfl⟩, fun k hk => by omega⟩
    rw [Lst_u hr l1]
    exact l2
  · refine Lst_congr ?_ hr
    have hst : staN w p < (w (stc w) 0).toNat := by
      have e2 := hw.1.2.2.2.2 p.toNat (by omega)
      unfold staN
      split <;> omega
    refine gRS_bisim (fun a => (a.1, oN w p own a.2.1 a.2.2, a.2.2 &&& set)) (fun a => a.1 < (w (stc w) 0).toNat) ?_ hst ?_ ?_ ?_ ?_
    · show (staN w p, oN w p own 0 0, 0 &&& set) = _
      rw [oN_0, Nat.zero_and]
      rfl
    · rintro ⟨x, l, b⟩ ⟨x', l', b'⟩ hI hs
      simp only [stM, Prod.mk.injEq] at hI hs ⊢
      rcases hs with hs | hs | hs | hs
      · omega
      · omega
      · omega
      · have := hs.2.2; omega
    · rintro ⟨x, l, b⟩ t hI hs
      simp only [stM] at hI hs
      unfold stC
      simp only
      rcases hs with ⟨h1, rfl⟩ | ⟨h1, rfl⟩ | ⟨h1, rfl⟩ | ⟨h1, h2, rfl⟩
      · exact Or.inl ⟨h1, rfl⟩
      · exact Or.inr (Or.inl ⟨h1, rfl⟩)
      · refine Or.inr (Or.inr (Or.inl ?_))
        simp only
        rw [oN_look h1]
      · refine Or.inr (Or.inr (Or.inr ⟨h2, ?_⟩))
        simp only
        rw [oN_ent h1, Nat.and_or_distrib_right]
    · rintro ⟨x, l, b⟩ t hI hs
      simp only [stC] at hI hs
      unfold stM
      simp only
      rcases hs with ⟨h1, rfl⟩ | ⟨h1, rfl⟩ | rfl | ⟨h2, rfl⟩
      · exact ⟨(x - 1, l, b), Or.inl ⟨h1, rfl⟩, rfl⟩
      · exact ⟨(x + 1, l, b), Or.inr (Or.inl ⟨h1, rfl⟩), rfl⟩
      · exact ⟨(x, l ||| 2 ^ x, b), Or.inr (Or.inr (Or.inl ⟨hI, rfl⟩)), by simp only; rw [oN_look hI]⟩
      · exact ⟨(x, l, b ||| 2 ^ x), Or.inr (Or.inr (Or.inr ⟨hI, h2, rfl⟩)), by simp only; rw [oN_ent hI, Nat.and_or_distrib_right]⟩
    · rintro ⟨x, l, b⟩ hI
      unfold gM gC
      simp only
      rw [nx_0]
      have e : sb set b ↔ b &&& set = set := by
        constructor
        · intro h
          exact sb_eq (fun i hi => (and_bit.1 hi).2) (fun i hi => and_bit.2 ⟨h i hi, hi⟩)
        · intro h i hi
          rw [← h] at hi
          exact (and_bit.1 hi).1
      rw [e]
set_option maxRecDepth 10000 in
theorem c_X8_soonest {p h own : Int} (hw : CW w) (hc : CP μ w) (h1 : ¬ ((0 ≤ p ∧ p < w (stc w) 1) ∧ (0 ≤ h ∧ h < w (stc w) 0)) → Q (I_ (-1)) μ)
    (h2 : (0 ≤ p ∧ p < w (stc w) 1) → (0 ≤ h ∧ h < w (stc w) 0) → ∀ (r : Int) (m : Mem_), Lst (wyC w p own (2 ^ h.toNat) 0) r → frY μ m → Q (I_ r) m) : V_ nX8_soonest 0 [R_ 50, I_ p, I_ h, I_ own] [] μ Q := by
  have c1 := hc.1.1
  have s1 := hw.1.2.1
  have s2 := hw.1.2.2.1
  have hpw : (0 ≤ h ∧ h < w (stc w) 0) → 2 ^ h.toNat < 2 ^ 6 := fun q => Nat.pow_lt_pow_right (by omega) (by omega)
  have hpw2 : (0 ≤ h ∧ h < w (stc w) 0) → 2 ^ h.toNat < 2 ^ (w (stc w) 0).toNat := fun q => Nat.pow_lt_pow_right (by omega) (by omega)
  refine v_aload_n dX8_soonest_0 rfl rfl ?_
  refine v_iload_n dX8_soonest_1 rfl rfl ?_
  refine v_callVi [_] dX8_soonest_2 lX8_207 kvX8_isPerson (plX8 _ _) (Or.inr rfl) rfl rfl rfl rfl rfl rfl rfl rfl rfl (c_X8_isPerson (by omega) ?_)
  refine v_ifb_eq (tgt := 29) dX8_soonest_5 (by decide) (fun hc_5 => ?_) (fun hc_5 => ?_)
  · refine v_iconst dX8_soonest_29 (by decide) ?_
    refine v_ireturn dX8_soonest_30 rfl ?_
    first
      | exact h2 (by omega) (by omega) r m (way_eq hw (by omega) (hpw2 (by omega)) r r1) r2
      | exact h1 (by omega)
  · refine v_aload_n dX8_soonest_8 rfl rfl ?_
    refine v_iload_n dX8_soonest_9 rfl rfl ?_
    refine v_callVi [_] dX8_soonest_10 lX8_204 kvX8_isHouse (plX8 _ _) (Or.inr rfl) rfl rfl rfl rfl rfl rfl rfl rfl rfl (c_X8_isHouse (by omega) ?_)
    refine v_ifb_eq (tgt := 29) dX8_soonest_13 (by decide) (fun hc_13 => ?_) (fun hc_13 => ?_)
    · refine v_iconst dX8_soonest_29 (by decide) ?_
      refine v_ireturn dX8_soonest_30 rfl ?_
      first
        | exact h2 (by omega) (by omega) r m (way_eq hw (by omega) (hpw2 (by omega)) r r1) r2
        | exact h1 (by omega)
    · refine v_aload_n dX8_soonest_16 rfl rfl ?_
      refine v_iload_n dX8_soonest_17 rfl rfl ?_
      refine v_iconst dX8_soonest_18 (by decide) ?_
      refine v_iload_n dX8_soonest_19 rfl rfl ?_
      refine v_ishl dX8_soonest_20 ?_
      rw [bShl_one (by omega) (by omega)]
      refine v_iload_n dX8_soonest_21 rfl rfl ?_
      refine v_iconst dX8_soonest_22 (by decide) ?_
      refine v_callVi [_, _, _, _] dX8_soonest_23 lX8_304 kvX8_quickest (plX8 _ _) (Or.inl rfl) rfl rfl rfl rfl rfl rfl rfl rfl rfl (c_X8_quickest hw hc (by omega) (hpw (by omega)) (fun r m r1 r2 => ?_))
      refine v_goto (tgt := 30) dX8_soonest_26 (by decide) ?_
      refine v_ireturn dX8_soonest_30 rfl ?_
      first
        | exact h2 (by omega) (by omega) r m (way_eq hw (by omega) (hpw2 (by omega)) r r1) r2
        | exact h1 (by omega)
set_option maxRecDepth 10000 in
theorem c_X8_round {p own set : Int} (hw : CW w) (hc : CP μ w) (h1 : ¬ ((0 ≤ p ∧ p < w (stc w) 1) ∧ (0 ≤ set ∧ set < ((2 ^ (w (stc w) 0).toNat : Nat) : Int))) → Q (I_ (-1)) μ)
    (h2 : (0 ≤ p ∧ p < w (stc w) 1) → (0 ≤ set ∧ set < ((2 ^ (w (stc w) 0).toNat : Nat) : Int)) → ∀ (r : Int) (m : Mem_), Lst (wyC w p own set.toNat 1) r → frY μ m → Q (I_ r) m) : V_ nX8_round 0 [R_ 50, I_ p, I_ set, I_ own] [] μ Q := by
  have c1 := hc.1.1
  have s1 := hw.1.2.1
  have s2 := hw.1.2.2.1
  have hpw : 2 ^ (w (stc w) 0).toNat ≤ 2 ^ 6 := Nat.pow_le_pow_right (by omega) (by omega)
  have hpos : 0 < 2 ^ (w (stc w) 0).toNat := Nat.two_pow_pos _
  have esh : bShl 1 (w (stc w) 0) = ((2 ^ (w (stc w) 0).toNat : Nat) : Int) := bShl_one (by omega) (by omega)
  have weq := fun (hs : set.toNat < 2 ^ (w (stc w) 0).toNat) (hpp : 0 ≤ p ∧ p < w (stc w) 1) r => way_eq (own := own) (home := 1) (set := set.toNat) hw hpp hs r
  generalize hX : (2 : Nat) ^ (w (stc w) 0).toNat = X at *
  refine v_aload_n dX8_round_0 rfl rfl ?_
  refine v_iload_n dX8_round_1 rfl rfl ?_
  refine v_callVi [_] dX8_round_2 lX8_207 kvX8_isPerson (plX8 _ _) (Or.inr rfl) rfl rfl rfl rfl rfl rfl rfl rfl rfl (c_X8_isPerson (by omega) ?_)
  refine v_ifb_eq (tgt := 35) dX8_round_5 (by decide) (fun hc_5 => ?_) (fun hc_5 => ?_)
  · refine v_iconst dX8_round_35 (by decide) ?_
    refine v_ireturn dX8_round_36 rfl ?_
    first
      | exact h2 (by omega) (by omega) r m (weq (by omega) (by omega) r r1) r2
      | exact h1 (by omega)
  · refine v_iload_n dX8_round_8 rfl rfl ?_
    refine v_iconst dX8_round_9 (by decide) ?_
    refine v_iconst dX8_round_10 (by decide) ?_
    refine v_aload_n dX8_round_11 rfl rfl ?_
    refine v_getI dX8_round_12 fX8_180 rfl rfl rfl ?_
    rw [c1.1]
    refine v_ishl dX8_round_15 ?_
    rw [esh]
    refine v_iconst dX8_round_16 (by decide) ?_
    refine v_isub dX8_round_17 (fun ha hb => by omega) ?_
    refine v_callSi [_, _, _] dX8_round_18 lX8_112 ksX8_in (plX8 _ _) (Or.inr rfl) rfl rfl rfl rfl rfl rfl (c_X8_in ?_)
    refine v_ifb_eq (tgt := 35) dX8_round_21 (by decide) (fun hc_21 => ?_) (fun hc_21 => ?_)
    · refine v_iconst dX8_round_35 (by decide) ?_
      refine v_ireturn dX8_round_36 rfl ?_
      first
        | exact h2 (by omega) (by omega) r m (weq (by omega) (by omega) r r1) r2
        | exact h1 (by omega)
    · refine v_aload_n dX8_round_24 rfl rfl ?_
      refine v_iload_n dX8_round_25 rfl rfl ?_
      refine v_iload_n dX8_round_26 rfl rfl ?_
      refine v_iload_n dX8_round_27 rfl rfl ?_
      refine v_iconst dX8_round_28 (by decide) ?_
      rw [show I_ set = I_ ((set.toNat : Nat) : Int) by rw [show ((set.toNat : Nat) : Int) = set by omega]]
      refine v_callVi [_, _, _, _] dX8_round_29 lX8_304 kvX8_quickest (plX8 _ _) (Or.inl rfl) rfl rfl rfl rfl rfl rfl rfl rfl rfl (c_X8_quickest (set := set.toNat) hw hc (by omega) (by omega) (fun r m r1 r2 => ?_))
      refine v_goto (tgt := 36) dX8_round_32 (by decide) ?_
      refine v_ireturn dX8_round_36 rfl ?_
      first
        | exact h2 (by omega) (by omega) r m (weq (by omega) (by omega) r r1) r2
        | exact h1 (by omega)
end
