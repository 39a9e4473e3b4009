/-! the model: who comes in -/
theorem orP_bit {n : Nat} {P : Nat → Prop} [DecidablePred P] {i : Nat} : (orR n (fun k => if P k then 2 ^ k else 0)).testBit i = true ↔ i < n ∧ P i := by
  rw [orR_bit]
  constructor
  · rintro ⟨k, hk, h⟩
    by_cases hp : P k
    · rw [if_pos hp, Nat.testBit_two_pow] at h
      have e : k = i := by simpa using h
      exact ⟨e ▸ hk, e ▸ hp⟩
    · rw [if_neg hp] at h; simp at h
  · rintro ⟨h1, h2⟩
    exact ⟨i, h1, by rw [if_pos h2, Nat.testBit_two_pow]; simp⟩
theorem and_0 {a b : Nat} : a &&& b = 0 ↔ ∀ i, ¬ (a.testBit i = true ∧ b.testBit i = true) := by
  constructor
  · intro h i q
    have := congrArg (fun x => x.testBit i) h
    simp [Nat.testBit_and, q.1, q.2] at this
  · intro h
    apply Nat.eq_of_testBit_eq
    intro i
    rw [Nat.testBit_and, Nat.zero_testBit]
    have := h i
    cases h1 : a.testBit i <;> cases h2 : b.testBit i <;> simp_all
theorem sb_le {a b : Nat} (h : sb a b) : a ≤ b := by
  have e : a ||| b = b := sb_eq (sb_or h (sb_rf b)) (sb_r a b)
  have := Nat.left_le_or (n := a) (m := b)
  omega
/-- the houses that the keys of a set open -/
def ohN (w : Mem_) (ks : Nat) : Nat := orR (w 17 0).toNat (fun k => if ks.testBit k = true ∧ liveC w k then 2 ^ (w 18 k).toNat else 0)
theorem ohN_bit {w : Mem_} {ks i : Nat} : (ohN w ks).testBit i = true ↔ ∃ k, k < (w 17 0).toNat ∧ ks.testBit k = true ∧ liveC w k ∧ (w 18 k).toNat = i := by
  unfold ohN
  rw [orR_bit]
  constructor
  · rintro ⟨k, hk, h⟩
    by_cases hp : ks.testBit k = true ∧ liveC w k
    · rw [if_pos hp, Nat.testBit_two_pow] at h
      exact ⟨k, hk, hp.1, hp.2, by simpa using h⟩
    · rw [if_neg hp] at h; simp at h
  · rintro ⟨k, h1, h2, h3, h4⟩
    exact ⟨k, h1, by rw [if_pos ⟨h2, h3⟩, Nat.testBit_two_pow]; simp [h4]⟩
theorem ins_bit {w : Mem_} {a i : Nat} : (insC w a).testBit i = true ↔ ∃ k, k < (w 17 0).toNat ∧ w 20 k = 2 ∧ w 21 k = (a : Int) ∧ liveC w k ∧ (w 18 k).toNat = i := by
  unfold insC opensC
  rw [orR_bit]
  constructor
  · rintro ⟨k, hk, h⟩
    unfold opF at h
    by_cases hp : w 20 k = 2 ∧ ((a : Int) = -1 ∨ w 21 k = (a : Int)) ∧ liveC w k
    · rw [if_pos hp, Nat.testBit_two_pow] at h
      exact ⟨k, hk, hp.1, by omega, hp.2.2, by simpa using h⟩
    · rw [if_neg hp] at h; simp at h
  · rintro ⟨k, h1, h2, h3, h4, h5⟩
    refine ⟨k, h1, ?_⟩
    unfold opF
    rw [if_pos ⟨h2, Or.inr h3, h4⟩, Nat.testBit_two_pow]; simp [h5]
def SND (w : Mem_) (s0 all have_ : Nat) : Prop := ∀ T, sb s0 T → cld (insC w) T → sb all T ∧ ∀ k, k < (w 17 0).toNat → have_.testBit k = true → liveC w k → T.testBit (w 18 k).toNat = true
def CMP (w : Mem_) (all have_ g : Nat) : Prop := (∀ k, k < (w 17 0).toNat → have_.testBit k = true → liveC w k → w 18 k = (g : Int) → all.testBit g = true) ∧ (all.testBit g = true → ∀ k, k < (w 17 0).toNat → w 20 k = 2 → w 21 k = (g : Int) → have_.testBit k = true)
theorem SND_1 {w : Mem_} {s0 all have_ k : Nat} (h : SND w s0 all have_) {g : Nat} (hk : k < (w 17 0).toNat) (h1 : have_.testBit k = true) (h2 : liveC w k) (h3 : w 18 k = (g : Int)) : SND w s0 (all ||| 2 ^ g) have_ := by
  intro T t1 t2
  have q := h T t1 t2
  refine ⟨sb_or q.1 (sb_pow.2 ?_), q.2⟩
  have := q.2 k hk h1 h2
  rwa [show (w 18 k).toNat = g by omega] at this
theorem SND_2 {w : Mem_} {s0 all have_ : Nat} (h : SND w s0 all have_) {g : Nat} (hg : g < 6) (h1 : all.testBit g = true) : SND w s0 all (have_ ||| orR (w 17 0).toNat (whF w 2 g)) := by
  intro T t1 t2
  have q := h T t1 t2
  refine ⟨q.1, fun k hk hb hl => ?_⟩
  rw [Nat.testBit_or, Bool.or_eq_true] at hb
  rcases hb with hb | hb
  · exact q.2 k hk hb hl
  · have := (orP_bit (P := fun k => w 20 k = 2 ∧ w 21 k = (g : Int))).1 hb
    exact t2 g hg (q.1 g h1) _ (ins_bit.2 ⟨k, hk, this.2.1, this.2.2, hl, rfl⟩)
theorem SND_end {w : Mem_} {nH nP e : Int} (hI : RIc nH nP e w) {ks op all have_ : Nat} (h0 : SND w (op ||| ohN w ks) all have_) (h1 : sb op all) (h2 : sb ks have_) (h3 : ∀ g : Nat, (g : Int) < nH → CMP w all have_ g) : clo (insC w) (op ||| ohN w ks) all := by
  refine ⟨sb_or h1 (fun i hi => ?_), fun a ha hb i hi => ?_, fun T t1 t2 => (h0 T t1 t2).1⟩
  · obtain ⟨k, hk, q1, q2, q3⟩ := ohN_bit.1 hi
    have hr := hI.1.2 k (by omega)
    exact (h3 i (by omega)).1 k hk (h2 k q1) q2 (by omega)
  · obtain ⟨k, hk, q1, q2, q3, q4⟩ := ins_bit.1 hi
    have hr := hI.1.2 k (by omega)
    exact (h3 i (by omega)).1 k hk ((h3 a (by omega)).2 hb k hk q1 q2) q3 (by omega)
