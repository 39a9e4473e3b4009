/-! as Hall has it: whom to give a key -/
theorem cnt_oa {n a b : Nat} : cntB n (a ||| b) + cntB n (a &&& b) = cntB n a + cntB n b := by
  induction n with
  | zero => rfl
  | succ n ih =>
    simp only [cntB, Nat.testBit_or, Nat.testBit_and]
    cases a.testBit n <;> cases b.testBit n <;> simp <;> omega
theorem cnt_sb {n a b : Nat} (h : sb a b) : cntB n a ≤ cntB n b := by
  induction n with
  | zero => exact Nat.le_refl _
  | succ n ih =>
    simp only [cntB]
    by_cases ha : a.testBit n = true
    · rw [if_pos ha, if_pos (h n ha)]; omega
    · rw [if_neg ha]; omega
theorem and_or_r {c a b : Nat} : c &&& (a ||| b) = (c &&& a) ||| (c &&& b) := bx (fun i => by
  simp only [and_bit, or_bit]
  constructor
  · rintro ⟨h1, h2 | h2⟩
    · exact Or.inl ⟨h1, h2⟩
    · exact Or.inr ⟨h1, h2⟩
  · rintro (⟨h1, h2⟩ | ⟨h1, h2⟩)
    · exact ⟨h1, Or.inl h2⟩
    · exact ⟨h1, Or.inr h2⟩)
theorem and_and_r {c a b : Nat} : c &&& (a &&& b) = (c &&& a) &&& (c &&& b) := bx (fun i => by
  simp only [and_bit]
  constructor
  · rintro ⟨h1, h2, h3⟩; exact ⟨⟨h1, h2⟩, h1, h3⟩
  · rintro ⟨⟨h1, h2⟩, _, h3⟩; exact ⟨h1, h2, h3⟩)
theorem smR_plus {n : Nat} {f g : Nat → Int} : smR n (fun x => f x + g x) = smR n f + smR n g := by
  induction n with
  | zero => rfl
  | succ n ih => rw [smR, smR, smR, ih]; omega
/-- all sets of houses from fr on -/
def upS (fr S : Nat) : Prop := S < 64 ∧ ∀ i, i < fr → ¬ S.testBit i = true
theorem upS_or {fr a b : Nat} (ha : upS fr a) (hb : upS fr b) : upS fr (a ||| b) := ⟨Nat.or_lt_two_pow (n := 6) ha.1 hb.1, fun i hi q => (or_bit.1 q).elim (ha.2 i hi) (hb.2 i hi)⟩
theorem upS_and {fr a b : Nat} (ha : upS fr a) : upS fr (a &&& b) := ⟨Nat.lt_of_le_of_lt Nat.and_le_left ha.1, fun i hi q => ha.2 i hi (and_bit.1 q).1⟩
theorem upS_0 {fr : Nat} : upS fr 0 := ⟨by decide, fun i _ => by simp⟩
theorem HPf_up {D : Nat → Int} {O : Nat → Nat} {r : Nat → Int} {fr : Nat} (hfr : fr ≤ 6) (hr : ∀ x, x < 6 → 0 ≤ r x) : HPf D O r fr ↔ ∀ S, upS fr S → 0 ≤ smR 6 (spF D O r S) := by
  constructor
  · intro h S hS
    have hb : ∀ i, i < fr → S.testBit i = false := fun i hi => by simpa using hS.2 i hi
    have e : S = S / 2 ^ fr * 2 ^ fr := by
      apply Nat.eq_of_testBit_eq
      intro i
      rw [Nat.testBit_mul_two_pow]
      by_cases hi : fr ≤ i
      · rw [Nat.testBit_div_two_pow]
        simp [hi, show i - fr + fr = i by omega]
      · rw [hb i (by omega)]
        simp [hi]
    by_cases h0 : S / 2 ^ fr = 0
    · rw [h0, Nat.zero_mul] at e
      rw [e]
      simp only [smR, spF]
      have r0 := hr 0 (by omega)
      have r1 := hr 1 (by omega)
      have r2 := hr 2 (by omega)
      have r3 := hr 3 (by omega)
      have r4 := hr 4 (by omega)
      have r5 := hr 5 (by omega)
      simp [cnt_z]
      omega
    · rw [e]
      refine h _ (Nat.pos_of_ne_zero h0) ?_
      have h1 : S < 2 ^ (6 - fr) * 2 ^ fr := by
        rw [← Nat.pow_add, show 6 - fr + fr = 6 by omega]
        exact hS.1
      exact (Nat.div_lt_iff_lt_mul (Nat.two_pow_pos _)).2 h1
  · intro h part h1 h2
    refine h _ ⟨?_, fun i hi => ?_⟩
    · have : part * 2 ^ fr < 2 ^ (6 - fr) * 2 ^ fr := Nat.mul_lt_mul_of_pos_right h2 (Nat.two_pow_pos _)
      rw [← Nat.pow_add, show 6 - fr + fr = 6 by omega] at this
      exact this
    · rw [Nat.testBit_mul_two_pow]
      simp
      omega
section
variable {D : Nat → Int} {O : Nat → Nat}
theorem sp_sub {r : Nat → Int} {A B : Nat} : smR 6 (spF D O r (A ||| B)) + smR 6 (spF D O r (A &&& B)) ≤ smR 6 (spF D O r A) + smR 6 (spF D O r B) := by
  rw [← smR_plus, ← smR_plus]
  refine smR_le (fun x hx => ?_)
  unfold spF
  rw [and_or_r, and_and_r]
  have h1 := cnt_oa (n := 32) (a := O x &&& A) (b := O x &&& B)
  have h2 := cnt_sb (n := 32) (a := (O x &&& A) &&& (O x &&& B)) (b := O x &&& A) (fun i hi => (and_bit.1 hi).1)
  have h3 := cnt_sb (n := 32) (a := (O x &&& A) &&& (O x &&& B)) (b := O x &&& B) (fun i hi => (and_bit.1 hi).2)
  rw [Nat.testBit_or, Nat.testBit_and]
  cases A.testBit x <;> cases B.testBit x <;> simp <;> omega
theorem sp_0 {r : Nat → Int} (hr : ∀ x, x < 6 → 0 ≤ r x) : smR 6 (spF D O r 0) = 0 := by
  have e : smR 6 (spF D O r 0) = smR 6 (fun _ => 0) := smR_congr (fun x hx => by
    unfold spF
    have := hr x hx
    simp [cnt_z]
    omega)
  rw [e]
  rfl
/-- one more taker can be found -/
theorem hall_one {r : Nat → Int} {fr av : Nat} {d : Int} (hr : ∀ x, x < 6 → 0 ≤ r x) (h1 : ∀ S, upS (fr + 1) S → 0 ≤ smR 6 (spF D O r S)) (h2 : ∀ S, upS (fr + 1) S → d ≤ smR 6 (fun x => min (r x) ((cntB 32 (O x &&& S) : Int) + (if av.testBit x = true then 1 else 0)) - (if S.testBit x = true then D x else 0))) (hd : 0 < d) :
    ∃ x, x < 6 ∧ av.testBit x = true ∧ ∀ S, upS (fr + 1) S → smR 6 (spF D O r S) = 0 → (cntB 32 (O x &&& S) : Int) < r x := by
  refine Classical.byContradiction (fun hno => ?_)
  have hall : ∀ x, x < 6 → av.testBit x = true → ∃ S, upS (fr + 1) S ∧ smR 6 (spF D O r S) = 0 ∧ r x ≤ (cntB 32 (O x &&& S) : Int) := by
    intro x hx ha
    refine Classical.byContradiction (fun hn => hno ⟨x, hx, ha, fun S s1 s2 => ?_⟩)
    refine Classical.byContradiction (fun hn2 => hn ⟨S, s1, s2, by omega⟩)
  have key : ∀ k, k ≤ 6 → ∃ S, upS (fr + 1) S ∧ smR 6 (spF D O r S) = 0 ∧ ∀ x, x < k → av.testBit x = true → r x ≤ (cntB 32 (O x &&& S) : Int) := by
    intro k
    induction k with
    | zero => exact fun _ => ⟨0, upS_0, sp_0 hr, fun x hx => by omega⟩
    | succ k ih =>
      intro hk
      obtain ⟨S, s1, s2, s3⟩ := ih (by omega)
      by_cases ha : av.testBit k = true
      · obtain ⟨S', t1, t2, t3⟩ := hall k (by omega) ha
        refine ⟨S ||| S', upS_or s1 t1, ?_, fun x hx hax => ?_⟩
        · have q1 := sp_sub (D := D) (O := O) (r := r) (A := S) (B := S')
          have q2 := h1 _ (upS_or s1 t1)
          have q3 := h1 _ (upS_and (b := S') s1)
          omega
        · by_cases e : x = k
          · subst e
            have := cnt_sb (n := 32) (a := O x &&& S') (b := O x &&& (S ||| S')) (fun i hi => and_bit.2 ⟨(and_bit.1 hi).1, or_bit.2 (Or.inr (and_bit.1 hi).2)⟩)
            omega
          · have h5 := s3 x (by omega) hax
            have := cnt_sb (n := 32) (a := O x &&& S) (b := O x &&& (S ||| S')) (fun i hi => and_bit.2 ⟨(and_bit.1 hi).1, or_bit.2 (Or.inl (and_bit.1 hi).2)⟩)
            omega
      · exact ⟨S, s1, s2, fun x hx hax => by
          by_cases e : x = k
          · subst e; exact absurd hax ha
          · exact s3 x (by omega) hax⟩
  obtain ⟨S, s1, s2, s3⟩ := key 6 (Nat.le_refl _)
  have h5 := h2 S s1
  have e : smR 6 (fun x => min (r x) ((cntB 32 (O x &&& S) : Int) + (if av.testBit x = true then 1 else 0)) - (if S.testBit x = true then D x else 0)) = smR 6 (spF D O r S) := smR_congr (fun x hx => by
    unfold spF
    by_cases ha : av.testBit x = true
    · have := s3 x hx ha
      rw [if_pos ha]
      omega
    · rw [if_neg ha, Int.add_zero])
  omega
end
