/-! the quickest way -/
abbrev St3 : Type := Nat × Nat × Nat
def stC (nH : Nat) (look ent : Nat → Nat) (goal : Nat) : St3 → St3 → Prop := fun a b =>
  (0 < a.1 ∧ b = (a.1 - 1, a.2.1, a.2.2)) ∨ (a.1 + 1 < nH ∧ b = (a.1 + 1, a.2.1, a.2.2)) ∨ b = (a.1, a.2.1 ||| look a.1, a.2.2) ∨ (a.2.1.testBit a.1 = true ∧ b = (a.1, a.2.1 ||| ent a.1, a.2.2 ||| (2 ^ a.1 &&& goal)))
def gC (goal : Nat) (home : Int) (start : Nat) : St3 → Prop := fun a => a.2.2 = goal ∧ (home = 0 ∨ a.1 = start)
def vC (a : St3) : Prop := a.1 < 6 ∧ a.2.1 < 64 ∧ a.2.2 < 64 ∧ sb a.2.2 a.2.1
def cdC (a : St3) : Nat := a.1 * 4096 + (a.2.1 * 64 + a.2.2)
def dcd (c : Nat) : St3 := (c / 4096, c / 64 % 64, c % 64)
theorem dcd_cd {a : St3} (h : vC a) : dcd (cdC a) = a := by
  obtain ⟨h1, h2, h3, -⟩ := h
  unfold dcd cdC
  obtain ⟨x, y, z⟩ := a
  simp only at h1 h2 h3 ⊢
  refine Prod.ext ?_ (Prod.ext ?_ ?_)
  · show (x * 4096 + (y * 64 + z)) / 4096 = x
    omega
  · show (x * 4096 + (y * 64 + z)) / 64 % 64 = y
    omega
  · show (x * 4096 + (y * 64 + z)) % 64 = z
    omega
theorem cd_lt {a : St3} (h : vC a) : cdC a < 24576 := by
  obtain ⟨h1, h2, h3, -⟩ := h
  unfold cdC
  omega
def dig (o b i : Nat) : Nat := if o.testBit i = true then (if b.testBit i = true then 2 else 1) else 0
theorem dig_lt (o b i : Nat) : dig o b i < 3 := by unfold dig; split <;> (try split) <;> omega
def enc (a : St3) : Nat := a.1 * 729 + (dig a.2.1 a.2.2 0 + 3 * dig a.2.1 a.2.2 1 + 9 * dig a.2.1 a.2.2 2 + 27 * dig a.2.1 a.2.2 3 + 81 * dig a.2.1 a.2.2 4 + 243 * dig a.2.1 a.2.2 5)
theorem dig_o {o b o' b' i : Nat} (h : dig o b i = dig o' b' i) : o.testBit i = o'.testBit i := by
  have key : ∀ x y : Nat, dig x y i ≠ 0 ↔ x.testBit i = true := by
    intro x y
    unfold dig
    split
    · rename_i q
      simp only [q, iff_true]
      split <;> omega
    · rename_i q
      simp [q]
  have e1 := key o b
  have e2 := key o' b'
  rw [h] at e1
  cases h1 : o.testBit i <;> cases h2 : o'.testBit i <;> simp_all
theorem dig_b {o b o' b' i : Nat} (h : dig o b i = dig o' b' i) (hs : sb b o) (hs' : sb b' o') : b.testBit i = b'.testBit i := by
  have ho := dig_o h
  unfold dig at h
  rw [ho] at h
  cases e1 : b.testBit i with
  | true =>
    cases e2 : b'.testBit i with
    | true => rfl
    | false =>
      have := hs i e1
      rw [ho] at this
      simp [this, e1, e2] at h
  | false =>
    cases e2 : b'.testBit i with
    | true =>
      have := hs' i e2
      simp [this, e1, e2] at h
    | false => rfl
theorem enc_lt {a : St3} (h : vC a) : enc a < 4374 := by
  unfold enc
  have h1 := h.1
  have := dig_lt a.2.1 a.2.2 0; have := dig_lt a.2.1 a.2.2 1; have := dig_lt a.2.1 a.2.2 2; have := dig_lt a.2.1 a.2.2 3; have := dig_lt a.2.1 a.2.2 4; have := dig_lt a.2.1 a.2.2 5
  omega
theorem enc_inj {a b : St3} (ha : vC a) (hb : vC b) (h : enc a = enc b) : a = b := by
  unfold enc at h
  have := dig_lt a.2.1 a.2.2 0; have := dig_lt a.2.1 a.2.2 1; have := dig_lt a.2.1 a.2.2 2; have := dig_lt a.2.1 a.2.2 3; have := dig_lt a.2.1 a.2.2 4; have := dig_lt a.2.1 a.2.2 5
  have := dig_lt b.2.1 b.2.2 0; have := dig_lt b.2.1 b.2.2 1; have := dig_lt b.2.1 b.2.2 2; have := dig_lt b.2.1 b.2.2 3; have := dig_lt b.2.1 b.2.2 4; have := dig_lt b.2.1 b.2.2 5
  have e : ∀ i, i < 6 → dig a.2.1 a.2.2 i = dig b.2.1 b.2.2 i := by
    intro i hi
    rcases (show i = 0 ∨ i = 1 ∨ i = 2 ∨ i = 3 ∨ i = 4 ∨ i = 5 by omega) with rfl | rfl | rfl | rfl | rfl | rfl <;> omega
  have e0 : a.1 = b.1 := by omega
  have hi : ∀ (x i : Nat), x < 64 → 6 ≤ i → x.testBit i = false := fun x i hx hi => Nat.testBit_lt_two_pow (Nat.lt_of_lt_of_le hx (Nat.pow_le_pow_right (n := 2) (by omega) hi))
  refine Prod.ext e0 (Prod.ext (Nat.eq_of_testBit_eq (fun i => ?_)) (Nat.eq_of_testBit_eq (fun i => ?_)))
  · rcases Nat.lt_or_ge i 6 with q | q
    · exact dig_o (e i q)
    · rw [hi _ i ha.2.1 q, hi _ i hb.2.1 q]
  · rcases Nat.lt_or_ge i 6 with q | q
    · exact dig_b (e i q) ha.2.2.2 hb.2.2.2
    · rw [hi _ i ha.2.2.1 q, hi _ i hb.2.2.1 q]
/-- the rows of the way's search: L in the queue -/
def WV (st : Int) (m : Mem_) (L : Nat) : Prop := m 28 4 = (L : Int) ∧ m 28 3 = st ∧ (0 < st ∧ st ≤ 16777216) ∧ (∀ j, j < L → ∃ t, vC t ∧ m 32 j = (cdC t : Int)) ∧ (∀ i j, i < L → j < L → m 32 i = m 32 j → i = j) ∧ ∀ pl : Nat, pl < 4096 → (0 ≤ m 31 pl ∧ m 31 pl < (st + 1) * 64) ∧ ∀ at_ : Nat, at_ < 6 → ((st * 64 ≤ m 31 pl ∧ (m 31 pl).toNat.testBit at_ = true) ↔ ∃ j, j < L ∧ m 32 j = ((at_ * 4096 + pl : Nat) : Int))
theorem WV_cap {st : Int} {m : Mem_} {L : Nat} (h : WV st m L) {t : St3} (ht : vC t) (hn : ¬ ∃ j, j < L ∧ m 32 j = (cdC t : Int)) : L < 4374 := by
  obtain ⟨-, -, -, h4, h5, -⟩ := h
  have key : ∀ j, j < L → ∃ u, vC u ∧ m 32 j = (cdC u : Int) := h4
  have := pigeon 4374 (L + 1) (fun j => if j < L then enc (dcd (m 32 j).toNat) else enc t) (fun i hi => ?_) (fun i j hi hj he => ?_)
  · omega
  · show (if i < L then enc (dcd (m 32 i).toNat) else enc t) < 4374
    split
    · rename_i q
      obtain ⟨u, u1, u2⟩ := key i q
      rw [u2, Int.toNat_natCast, dcd_cd u1]
      exact enc_lt u1
    · exact enc_lt ht
  · have he : (if i < L then enc (dcd (m 32 i).toNat) else enc t) = (if j < L then enc (dcd (m 32 j).toNat) else enc t) := he
    split at he <;> split at he
    · rename_i q1 q2
      obtain ⟨u, u1, u2⟩ := key i q1
      obtain ⟨w, w1, w2⟩ := key j q2
      rw [u2, w2, Int.toNat_natCast, Int.toNat_natCast, dcd_cd u1, dcd_cd w1] at he
      have := enc_inj u1 w1 he
      exact h5 i j q1 q2 (by rw [u2, w2, this])
    · rename_i q1 q2
      obtain ⟨u, u1, u2⟩ := key i q1
      rw [u2, Int.toNat_natCast, dcd_cd u1] at he
      have := enc_inj u1 ht he
      exact absurd ⟨i, q1, by rw [u2, this]⟩ hn
    · rename_i q1 q2
      obtain ⟨u, u1, u2⟩ := key j q2
      rw [u2, Int.toNat_natCast, dcd_cd u1] at he
      have := enc_inj ht u1 he
      exact absurd ⟨j, q2, by rw [u2, this]⟩ hn
    · omega
theorem bit_hi {s x i : Nat} (hx : x < 64) (hi : i < 6) : (s * 64 + x).testBit i = x.testBit i := by
  have e : s * 64 + x = 2 ^ 6 * s + x := by omega
  rw [e, Nat.testBit_two_pow_mul_add s (by omega), if_pos hi]
theorem or_hi {s x y : Nat} (hx : x < 64) (hy : y < 64) : (s * 64 + x) ||| y = s * 64 + (x ||| y) := by
  have h1 : x ||| y < 2 ^ 6 := Nat.or_lt_two_pow (by omega) (by omega)
  have e1 : s * 64 + x = 2 ^ 6 * s ||| x := by
    rw [← Nat.two_pow_add_eq_or_of_lt (i := 6) (by omega)]
    omega
  have e2 : s * 64 + (x ||| y) = 2 ^ 6 * s ||| (x ||| y) := by
    rw [← Nat.two_pow_add_eq_or_of_lt (i := 6) h1]
    omega
  rw [e1, e2, Nat.or_assoc]
/-- what reached() adds to the rows -/
def wEx (m m' : Mem_) (L : Nat) : Prop := (∀ o i, o ≠ 31 → ¬ (o = 32 ∧ i = L) → ¬ (o = 28 ∧ i = 4) → m' o i = m o i)
section
variable {μ : Mem_} {Q : PV → Mem_ → Prop}
set_option maxRecDepth 10000 in
set_option maxHeartbeats 1000000 in
theorem c_X6_reached {st : Int} {a o b L : Nat} (hv : vC (a, o, b)) (hW : WV st μ L) (h1 : (∃ j, j < L ∧ μ 32 j = (cdC (a, o, b) : Int)) → Q U_ μ) (h2 : (¬ ∃ j, j < L ∧ μ 32 j = (cdC (a, o, b) : Int)) → ∀ m' : Mem_, wEx μ m' L → m' 32 L = (cdC (a, o, b) : Int) → WV st m' (L + 1) → Q U_ m') : V_ nX6_reached 0 [R_ 28, I_ (a : Int), I_ (o : Int), I_ (b : Int), U_, U_] [] μ Q := by
  have hcap := fun hn => WV_cap hW hv hn
  obtain ⟨w1, w2, w3, w4, w5, w6⟩ := hW
  have hv1 : a < 6 := hv.1
  have hv2 : o < 64 := hv.2.1
  have hv3 : b < 64 := hv.2.2.1
  have hpl : (o : Int) * 64 + (b : Int) = ((o * 64 + b : Nat) : Int) := by omega
  obtain ⟨w7, w8⟩ := w6 (o * 64 + b) (by omega)
  have w8 := w8 a hv1
  have hcd : ((a * 4096 + (o * 64 + b) : Nat) : Int) = (cdC (a, o, b) : Int) := rfl
  rw [hcd] at w8
  generalize hz : (μ 31 (o * 64 + b)).toNat = z at w8
  have hz2 : μ 31 (o * 64 + b) = (z : Int) := by rw [← hz]; exact (Int.toNat_of_nonneg w7.1).symm
  have hdiv : (μ 31 (o * 64 + b)).tdiv 64 = st ↔ st * 64 ≤ μ 31 (o * 64 + b) := by
    rw [Int.tdiv_eq_ediv_of_nonneg w7.1]
    omega
  have fin : ∀ x : Nat, x < 64 → (z = st.toNat * 64 + x ∨ (x = 0 ∧ ¬ st * 64 ≤ μ 31 (o * 64 + b))) → ¬ x.testBit a = true → (¬ ∃ j, j < L ∧ μ 32 j = (cdC (a, o, b) : Int)) → V_ nX6_reached 79 [R_ 28, I_ (a : Int), I_ (o : Int), I_ (b : Int), I_ ((o * 64 + b : Nat) : Int), I_ ((st.toNat * 64 + x : Nat) : Int)] [] μ Q := by
    intro x hx hxz hxa hn
    have hL := hcap hn
    have h31 : st.toNat * 64 + x < 2 ^ 31 := by omega
    have h2a : 2 ^ a < 2 ^ 6 := Nat.pow_lt_pow_right (by omega) hv1
    have hxo : x ||| 2 ^ a < 2 ^ 6 := Nat.or_lt_two_pow (by omega) h2a
    refine v_aload_n dX6_reached_79 rfl rfl ?_
    refine v_getR dX6_reached_80 fX6_18 rfl rfl rfl ?_
    refine v_iload dX6_reached_83 rfl ?_
    refine v_iload dX6_reached_85 rfl ?_
    refine v_iconst dX6_reached_87 (by decide) ?_
    refine v_iload_n dX6_reached_88 rfl rfl ?_
    refine v_ishl dX6_reached_89 ?_
    rw [bShl_one (by omega) (by omega), Int.toNat_natCast]
    refine v_ior dX6_reached_90 ?_
    rw [bOr_nat h31 (by omega), or_hi hx (by omega)]
    refine v_iast dX6_reached_91 rfl (by omega) (by omega) ?_
    refine v_aload_n dX6_reached_92 rfl rfl ?_
    refine v_getR dX6_reached_93 fX6_21 rfl rfl rfl ?_
    refine v_aload_n dX6_reached_96 rfl rfl ?_
    refine v_getI dX6_reached_97 fX6_34 rfl rfl rfl ?_
    rw [mset_off (by omega), w1]
    refine v_iload_n dX6_reached_100 rfl rfl ?_
    refine v_bipush dX6_reached_101 (by decide) ?_
    refine v_imul dX6_reached_103 (fun ha hb => by omega) ?_
    refine v_bipush dX6_reached_104 (by decide) ?_
    refine v_imul dX6_reached_106 (fun ha hb => by omega) ?_
    refine v_iload dX6_reached_107 rfl ?_
    refine v_iadd dX6_reached_109 (fun ha hb => by omega) ?_
    refine v_iast dX6_reached_110 rfl (by omega) (by omega) ?_
    refine v_aload_n dX6_reached_111 rfl rfl ?_
    refine v_dupR_ dX6_reached_112 ?_
    refine v_getI dX6_reached_113 fX6_34 rfl rfl rfl ?_
    rw [mset_off (by omega), mset_off (by omega), w1]
    refine v_iconst dX6_reached_116 (by decide) ?_
    refine v_iadd dX6_reached_117 (fun ha hb => by omega) ?_
    refine v_putI dX6_reached_118 fpX6_34 rfl rfl rfl ?_
    refine v_return dX6_reached_121 rfl ?_
    refine h2 hn _ (fun o' i' q1 q2 q3 => ?_) ?_ ⟨?_, ?_, w3, fun j hj => ?_, fun i j hi hj he => ?_, fun pl hpl2 => ?_⟩
    · rw [mset_off (by omega), mset_off (by omega), mset_off (by omega)]
    · rw [mset_off (by omega), show ((L : Int)).toNat = L by omega, mset_same]
      unfold cdC
      simp only
      omega
    · rw [mset_same]; omega
    · rw [mset_off (by omega), mset_off (by omega), mset_off (by omega)]; exact w2
    · by_cases e : j = L
      · subst e
        refine ⟨(a, o, b), hv, ?_⟩
        rw [mset_off (by omega), show ((j : Int)).toNat = j by omega, mset_same]
        unfold cdC
        simp only
        omega
      · rw [mset_off (by omega), mset_off (by omega), mset_off (by omega)]
        exact w4 j (by omega)
    · have e32 : ∀ k, mset (mset (mset μ 31 ((o * 64 + b : Nat) : Int).toNat ((st.toNat * 64 + (x ||| 2 ^ a) : Nat) : Int)) 32 (L : Int).toNat ((a : Int) * 64 * 64 + ((o * 64 + b : Nat) : Int))) 28 4 ((L : Int) + 1) 32 k = if k = L then (cdC (a, o, b) : Int) else μ 32 k := by
        intro k
        rw [mset_off (by omega)]
        split
        · rename_i q
          subst q
          rw [show ((k : Int)).toNat = k by omega, mset_same]
          unfold cdC
          simp only
          omega
        · rw [mset_off (by omega), mset_off (by omega)]
      rw [e32, e32] at he
      split at he <;> split at he
      · omega
      · exact absurd ⟨j, by omega, he.symm⟩ hn
      · exact absurd ⟨i, by omega, he⟩ hn
      · exact w5 i j (by omega) (by omega) he
    · obtain ⟨v1, v2⟩ := w6 pl hpl2
      have e31 : mset (mset (mset μ 31 ((o * 64 + b : Nat) : Int).toNat ((st.toNat * 64 + (x ||| 2 ^ a) : Nat) : Int)) 32 (L : Int).toNat ((a : Int) * 64 * 64 + ((o * 64 + b : Nat) : Int))) 28 4 ((L : Int) + 1) 31 pl = if pl = o * 64 + b then ((st.toNat * 64 + (x ||| 2 ^ a) : Nat) : Int) else μ 31 pl := by
        rw [mset_off (by omega), mset_off (by omega)]
        split
        · rename_i q
          subst q
          rw [Int.toNat_natCast, mset_same]
        · rw [mset_off (by omega)]
      have e32 : ∀ k, mset (mset (mset μ 31 ((o * 64 + b : Nat) : Int).toNat ((st.toNat * 64 + (x ||| 2 ^ a) : Nat) : Int)) 32 (L : Int).toNat ((a : Int) * 64 * 64 + ((o * 64 + b : Nat) : Int))) 28 4 ((L : Int) + 1) 32 k = if k = L then (cdC (a, o, b) : Int) else μ 32 k := by
        intro k
        rw [mset_off (by omega)]
        split
        · rename_i q
          subst q
          rw [show ((k : Int)).toNat = k by omega, mset_same]
          unfold cdC
          simp only
          omega
        · rw [mset_off (by omega), mset_off (by omega)]
      rw [e31]
      have ex : ∀ at_ : Nat, at_ < 6 → ((∃ j, j < L + 1 ∧ (if j = L then (cdC (a, o, b) : Int) else μ 32 j) = ((at_ * 4096 + pl : Nat) : Int)) ↔ ((∃ j, j < L ∧ μ 32 j = ((at_ * 4096 + pl : Nat) : Int)) ∨ (at_ = a ∧ pl = o * 64 + b))) := by
        intro at_ hat
        constructor
        · rintro ⟨j, j1, j2⟩
          split at j2
          · refine Or.inr ?_
            unfold cdC at j2
            simp only at j2
            omega
          · exact Or.inl ⟨j, by omega, j2⟩
        · rintro (⟨j, j1, j2⟩ | ⟨j1, j2⟩)
          · exact ⟨j, by omega, by rw [if_neg (by omega)]; exact j2⟩
          · exact ⟨L, by omega, by rw [if_pos rfl, j1, j2]; rfl⟩
      simp only [e32]
      by_cases q : pl = o * 64 + b
      · subst q
        rw [if_pos rfl]
        refine ⟨by omega, fun at_ hat => ?_⟩
        rw [ex at_ hat, ← v2 at_ hat, hz2, Int.toNat_natCast, Int.toNat_natCast, bit_hi hxo hat, Nat.testBit_or, Nat.testBit_two_pow, Bool.or_eq_true]
        rcases hxz with hxz | ⟨hx0, hxn⟩
        · rw [hxz, bit_hi hx hat]
          constructor
          · rintro ⟨_, q1 | q1⟩
            · exact Or.inl ⟨by omega, q1⟩
            · exact Or.inr ⟨by have := of_decide_eq_true q1; omega, rfl⟩
          · rintro (⟨_, q1⟩ | ⟨q1, _⟩)
            · exact ⟨by omega, Or.inl q1⟩
            · exact ⟨by omega, Or.inr (by simp [q1])⟩
        · subst hx0
          rw [hz2] at hxn
          constructor
          · rintro ⟨_, q1 | q1⟩
            · simp at q1
            · exact Or.inr ⟨by have := of_decide_eq_true q1; omega, rfl⟩
          · rintro (⟨q1, _⟩ | ⟨q1, _⟩)
            · exact absurd q1 hxn
            · exact ⟨by omega, Or.inr (by simp [q1])⟩
      · rw [if_neg q]
        refine ⟨v1, fun at_ hat => ?_⟩
        rw [ex at_ hat, v2 at_ hat]
        constructor
        · exact fun q1 => Or.inl q1
        · rintro (q1 | ⟨_, q1⟩)
          · exact q1
          · exact absurd q1 q
  refine v_iload_n dX6_reached_0 rfl rfl ?_
  refine v_bipush dX6_reached_1 (by decide) ?_
  refine v_imul dX6_reached_3 (fun ha hb => by omega) ?_
  refine v_iload_n dX6_reached_4 rfl rfl ?_
  refine v_iadd dX6_reached_5 (fun ha hb => by omega) ?_
  rw [hpl]
  refine v_istore (ls' := [_, _, _, _, _, _]) dX6_reached_6 rfl rfl rfl ?_
  refine v_iload dX6_reached_8 rfl ?_
  refine v_if_lt (tgt := 33) dX6_reached_10 (by decide) (fun hc_10 => ?_) (fun hc_10 => ?_)
  · refine v_return dX6_reached_33 rfl ?_
    omega
  · refine v_iload dX6_reached_13 rfl ?_
    refine v_aload_n dX6_reached_15 rfl rfl ?_
    refine v_getR dX6_reached_16 fX6_18 rfl rfl rfl ?_
    refine v_alen dX6_reached_19 rfl rfl ?_
    refine v_icmp_ge (tgt := 33) dX6_reached_20 (by decide) (fun hc_20 => ?_) (fun hc_20 => ?_)
    · refine v_return dX6_reached_33 rfl ?_
      have : o * 64 + b < 4096 := by omega
      omega
    · refine v_aload_n dX6_reached_23 rfl rfl ?_
      refine v_getI dX6_reached_24 fX6_34 rfl rfl rfl ?_
      rw [w1]
      refine v_sipush dX6_reached_27 (by decide) ?_
      refine v_icmp_lt (tgt := 34) dX6_reached_30 (by decide) (fun hc_30 => ?_) (fun hc_30 => ?_)
      · refine v_aload_n dX6_reached_34 rfl rfl ?_
        refine v_getR dX6_reached_35 fX6_18 rfl rfl rfl ?_
        refine v_iload dX6_reached_38 rfl ?_
        refine v_iald dX6_reached_40 rfl (by omega) (by omega) ?_
        rw [Int.toNat_natCast]
        refine v_bipush dX6_reached_41 (by decide) ?_
        refine v_idiv dX6_reached_43 (by omega) ?_
        refine v_aload_n dX6_reached_44 rfl rfl ?_
        refine v_getI dX6_reached_45 fX6_37 rfl rfl rfl ?_
        rw [w2]
        refine v_icmp_ne (tgt := 61) dX6_reached_48 (by decide) (fun hc_48 => ?_) (fun hc_48 => ?_)
        · refine v_aload_n dX6_reached_61 rfl rfl ?_
          refine v_getI dX6_reached_62 fX6_37 rfl rfl rfl ?_
          rw [w2]
          refine v_bipush dX6_reached_65 (by decide) ?_
          refine v_imul dX6_reached_67 (fun ha hb => by have := w3.2; have := w3.1; omega) ?_
          refine v_istore (ls' := [_, _, _, _, _, _]) dX6_reached_68 rfl rfl rfl ?_
          refine v_iload dX6_reached_70 rfl ?_
          refine v_iload_n dX6_reached_72 rfl rfl ?_
          refine v_callNi [_, _] dX6_reached_73 lnX6_48 ksX7_has (plX7 _ _) (Or.inr rfl) rfl rfl rfl rfl rfl rfl (c_X7_has (by first | exact w7.1 | (have := w3.1; omega)) (by omega) (by omega) ?_)
          refine v_ifb_ne (tgt := 121) dX6_reached_76 (by decide) (fun hc_76 => ?_) (fun hc_76 => ?_)
          · refine v_return dX6_reached_121 rfl ?_
            exfalso
            have e : (st * 64).toNat = st.toNat * 64 + 0 := by have := w3.1; omega
            rw [e, Int.toNat_natCast, bit_hi (by decide) hv1] at hc_76
            simp at hc_76
          · rw [show st * 64 = ((st.toNat * 64 + 0 : Nat) : Int) by have := w3.1; omega]
            exact fin 0 (by decide) (Or.inr ⟨rfl, fun q => hc_48 (hdiv.mpr q)⟩) (by simp) (fun q => hc_48 (hdiv.mpr (w8.mpr q).1))
        · refine v_aload_n dX6_reached_51 rfl rfl ?_
          refine v_getR dX6_reached_52 fX6_18 rfl rfl rfl ?_
          refine v_iload dX6_reached_55 rfl ?_
          refine v_iald dX6_reached_57 rfl (by omega) (by omega) ?_
          rw [Int.toNat_natCast]
          refine v_goto (tgt := 68) dX6_reached_58 (by decide) ?_
          refine v_istore (ls' := [_, _, _, _, _, _]) dX6_reached_68 rfl rfl rfl ?_
          refine v_iload dX6_reached_70 rfl ?_
          refine v_iload_n dX6_reached_72 rfl rfl ?_
          refine v_callNi [_, _] dX6_reached_73 lnX6_48 ksX7_has (plX7 _ _) (Or.inr rfl) rfl rfl rfl rfl rfl rfl (c_X7_has (by first | exact w7.1 | (have := w3.1; omega)) (by omega) (by omega) ?_)
          refine v_ifb_ne (tgt := 121) dX6_reached_76 (by decide) (fun hc_76 => ?_) (fun hc_76 => ?_)
          · refine v_return dX6_reached_121 rfl ?_
            rw [Int.toNat_natCast, hz] at hc_76
            exact h1 (w8.mp ⟨hdiv.mp (by simpa using hc_48), hc_76⟩)
          · rw [Int.toNat_natCast, hz] at hc_76
            have q1 := hdiv.mp (by simpa using hc_48)
            have e : z = st.toNat * 64 + (z - st.toNat * 64) := by have := w3.1; omega
            have e64 : z - st.toNat * 64 < 64 := by have := w3.1; omega
            rw [hz2, e]
            refine fin _ e64 (Or.inl e) ?_ (fun q => hc_76 (w8.mpr q).2)
            rw [e, bit_hi e64 hv1] at hc_76
            exact hc_76
      · refine v_return dX6_reached_33 rfl ?_
        refine h1 ?_
        rcases Classical.em (∃ j, j < L ∧ μ 32 j = (cdC (a, o, b) : Int)) with q | q
        · exact q
        · have := hcap q
          exact absurd (by omega) hc_30
end
