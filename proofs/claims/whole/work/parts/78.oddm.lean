/-! odds: the sum over all who may answer -/
def snR : Nat → (Nat → Nat) → Nat
  | 0, _ => 0
  | n + 1, f => snR n f + f n
theorem snR_congr {n : Nat} {f g : Nat → Nat} (h : ∀ k, k < n → f k = g k) : snR n f = snR n g := by
  induction n with
  | zero => rfl
  | succ n ih => rw [snR, snR, ih (fun k hk => h k (by omega)), h n (by omega)]
theorem snR_add {a b : Nat} {f : Nat → Nat} : snR (a + b) f = snR a f + snR b (fun t => f (a + t)) := by
  induction b with
  | zero => rfl
  | succ b ih => rw [← Nat.add_assoc, snR, ih, snR]; omega
theorem snR_plus {n : Nat} {f g : Nat → Nat} : snR n (fun t => f t + g t) = snR n f + snR n g := by
  induction n with
  | zero => rfl
  | succ n ih => rw [snR, snR, snR, ih]; omega
theorem snR_mul {n c : Nat} {f : Nat → Nat} : snR n (fun t => f t * c) = snR n f * c := by
  induction n with
  | zero => simp [snR]
  | succ n ih => rw [snR, snR, ih, Nat.add_mul]
theorem snR_z {a b : Nat} {f : Nat → Nat} (hab : a ≤ b) (h : ∀ t, a ≤ t → t < b → f t = 0) : snR b f = snR a f := by
  obtain ⟨d, rfl⟩ : ∃ d, b = a + d := ⟨b - a, by omega⟩
  rw [snR_add, snR_congr (n := d) (g := fun _ => 0) (fun k hk => h _ (by omega) (by omega))]
  have : ∀ n, snR n (fun _ => 0) = 0 := fun n => by
    induction n with
    | zero => rfl
    | succ n ih => rw [snR, ih]
  rw [this]; rfl
theorem prR_congr {n : Nat} {f g : Nat → Nat} (h : ∀ k, k < n → f k = g k) : prR n f = prR n g := by
  induction n with
  | zero => rfl
  | succ n ih => rw [prR, prR, ih (fun k hk => h k (by omega)), h n (by omega)]
theorem prR_mul {n : Nat} {f g : Nat → Nat} : prR n (fun k => f k * g k) = prR n f * prR n g := by
  induction n with
  | zero => rfl
  | succ n ih => rw [prR, prR, prR, ih]; simp only [Nat.mul_assoc, Nat.mul_left_comm]
theorem prR_0 {n : Nat} {f : Nat → Nat} {k : Nat} (hk : k < n) (h : f k = 0) : prR n f = 0 := by
  induction n with
  | zero => omega
  | succ n ih =>
    rw [prR]
    rcases Nat.lt_or_ge k n with q | q
    · rw [ih q, Nat.zero_mul]
    · rw [show n = k by omega, h, Nat.mul_zero]
theorem sub_iff {t C : Nat} : t &&& C = t ↔ sb t C := by
  constructor
  · intro h i hi
    rw [← h] at hi
    exact (and_bit.1 hi).2
  · intro h
    exact sb_eq (fun i hi => (and_bit.1 hi).1) (fun i hi => and_bit.2 ⟨hi, h i hi⟩)
def pT (C : Nat) (x y : Nat → Nat) (t q : Nat) : Nat := if C.testBit q = true then (if t.testBit q = true then x q else y q) else 1
theorem sumP (C : Nat) (x y : Nat → Nat) : ∀ n, snR (2 ^ n) (fun t => if t &&& C = t then prR n (pT C x y t) else 0) = prR n (fun q => if C.testBit q = true then x q + y q else 1) := by
  intro n
  induction n with
  | zero => simp [snR, prR]
  | succ n ih =>
    rw [Nat.pow_succ, Nat.mul_two, snR_add, prR]
    have h1 : snR (2 ^ n) (fun t => if t &&& C = t then prR (n + 1) (pT C x y t) else 0) = snR (2 ^ n) (fun t => if t &&& C = t then prR n (pT C x y t) else 0) * (if C.testBit n = true then y n else 1) := by
      rw [← snR_mul]
      refine snR_congr (fun t ht => ?_)
      have hb : ¬ t.testBit n = true := fun q => by have := bit_lt ht q; omega
      by_cases hs : t &&& C = t
      · rw [if_pos hs, if_pos hs, prR]
        congr 1
        unfold pT
        rw [if_neg hb]
      · rw [if_neg hs, if_neg hs, Nat.zero_mul]
    have h2 : snR (2 ^ n) (fun t => if (2 ^ n + t) &&& C = 2 ^ n + t then prR (n + 1) (pT C x y (2 ^ n + t)) else 0) = snR (2 ^ n) (fun t => if t &&& C = t then prR n (pT C x y t) else 0) * (if C.testBit n = true then x n else 0) := by
      rw [← snR_mul]
      refine snR_congr (fun t ht => ?_)
      have hb : ¬ t.testBit n = true := fun q => by have := bit_lt ht q; omega
      have b1 : (2 ^ n + t).testBit n = true := by rw [Nat.testBit_two_pow_add_eq]; simpa using hb
      have b2 : ∀ q, q < n → (2 ^ n + t).testBit q = t.testBit q := fun q hq => Nat.testBit_two_pow_add_gt hq t
      have hlt : 2 ^ n + t < 2 ^ (n + 1) := by rw [Nat.pow_succ]; omega
      by_cases hC : C.testBit n = true
      · have hiff : ((2 ^ n + t) &&& C = 2 ^ n + t) ↔ (t &&& C = t) := by
          rw [sub_iff, sub_iff]
          constructor
          · intro h i hi
            exact h i (by rw [b2 i (bit_lt ht hi)]; exact hi)
          · intro h i hi
            have hil := bit_lt hlt hi
            rcases Nat.lt_or_ge i n with q | q
            · exact h i (by rw [← b2 i q]; exact hi)
            · rw [show i = n by omega]; exact hC
        by_cases hs : t &&& C = t
        · rw [if_pos (hiff.2 hs), if_pos hs, prR]
          congr 1
          · refine prR_congr (fun q hq => ?_)
            unfold pT
            rw [b2 q hq]
          · unfold pT
            rw [if_pos hC, if_pos hC, if_pos b1]
        · rw [if_neg (fun q => hs (hiff.1 q)), if_neg hs, Nat.zero_mul]
      · rw [if_neg (fun q => hC (sub_iff.1 q n b1)), if_neg hC, Nat.mul_zero]
    rw [h1, h2, ih, ← Nat.mul_add]
    congr 1
    split <;> omega
/-- the odds: what the model sums is what the class multiplies, times a number -/
theorem oddsum {C n : Nat} {an : Nat → Nat} {un : Prop} [Decidable un] {wk : Nat → Prop} [DecidablePred wk] (hC : C < 2 ^ n) (ha : ∀ q, q < n → an q ≤ 12) (hw : ∀ q, q < n → wk q → C.testBit q = true) {gd : Nat → Prop} [DecidablePred gd] (hg : ∀ t, sb t C → (gd t ↔ un ∨ ∃ q, t.testBit q = true ∧ wk q)) :
    ∃ K, 0 < K ∧ snR (C + 1) (fun t => if t &&& C = t ∧ gd t then prR n (pT C an (fun q => 12 - an q) t) else 0) = (prR n (fun q => if wk q then 12 else 1) - (if un then 0 else 1) * prR n (fun q => if wk q then 12 - an q else 1)) * K ∧ prR n (fun q => if C.testBit q = true then 12 else 1) = prR n (fun q => if wk q then 12 else 1) * K := by
  refine ⟨prR n (fun q => if C.testBit q = true ∧ ¬ wk q then 12 else 1), prR_pos (fun k hk => by split <;> omega), ?_, ?_⟩
  · rw [← snR_z (a := C + 1) (b := 2 ^ n) (by omega) (fun t t1 t2 => if_neg (fun q => by have := sb_le (sub_iff.1 q.1); omega))]
    have hW := sumP C an (fun q => 12 - an q) n
    have eW : prR n (fun q => if C.testBit q = true then an q + (12 - an q) else 1) = prR n (fun q => if wk q then 12 else 1) * prR n (fun q => if C.testBit q = true ∧ ¬ wk q then 12 else 1) := by
      rw [← prR_mul]
      refine prR_congr (fun q hq => ?_)
      have := ha q hq
      by_cases hq2 : wk q
      · have := hw q hq hq2
        simp [this, hq2]; omega
      · by_cases hc : C.testBit q = true
        · simp [hc, hq2]; omega
        · simp [hc, hq2]
    rw [eW] at hW
    by_cases hu : un
    · rw [if_pos hu, Nat.zero_mul, Nat.sub_zero, ← hW]
      refine snR_congr (fun t ht => ?_)
      by_cases hs : t &&& C = t
      · rw [if_pos hs, if_pos ⟨hs, (hg t (sub_iff.1 hs)).2 (Or.inl hu)⟩]
      · rw [if_neg hs, if_neg (fun q => hs q.1)]
    · have hN := sumP C (fun q => if wk q then 0 else an q) (fun q => 12 - an q) n
      have eN : prR n (fun q => if C.testBit q = true then (if wk q then 0 else an q) + (12 - an q) else 1) = prR n (fun q => if wk q then 12 - an q else 1) * prR n (fun q => if C.testBit q = true ∧ ¬ wk q then 12 else 1) := by
        rw [← prR_mul]
        refine prR_congr (fun q hq => ?_)
        have := ha q hq
        by_cases hq2 : wk q
        · have := hw q hq hq2
          simp [this, hq2]
        · by_cases hc : C.testBit q = true
          · simp [hc, hq2]; omega
          · simp [hc, hq2]
      rw [eN] at hN
      rw [if_neg hu, Nat.one_mul, Nat.sub_mul, ← hW, ← hN]
      have key : snR (2 ^ n) (fun t => if t &&& C = t then prR n (pT C an (fun q => 12 - an q) t) else 0) = snR (2 ^ n) (fun t => if t &&& C = t ∧ gd t then prR n (pT C an (fun q => 12 - an q) t) else 0) + snR (2 ^ n) (fun t => if t &&& C = t then prR n (pT C (fun q => if wk q then 0 else an q) (fun q => 12 - an q) t) else 0) := by
        rw [← snR_plus]
        refine snR_congr (fun t ht => ?_)
        by_cases hs : t &&& C = t
        · have hsb := sub_iff.1 hs
          by_cases hgt : gd t
          · obtain ⟨q, q1, q2⟩ := ((hg t hsb).1 hgt).resolve_left hu
            have hqn : q < n := bit_lt ht q1
            rw [if_pos hs, if_pos ⟨hs, hgt⟩, if_pos hs, prR_0 (f := pT C (fun q => if wk q then 0 else an q) (fun q => 12 - an q) t) hqn (by unfold pT; rw [if_pos (hsb q q1), if_pos q1]; exact if_pos q2)]
            rfl
          · rw [if_pos hs, if_neg (fun q => hgt q.2), if_pos hs, Nat.zero_add]
            refine prR_congr (fun q hq => ?_)
            unfold pT
            by_cases hb : t.testBit q = true
            · have : ¬ wk q := fun h2 => hgt ((hg t hsb).2 (Or.inr ⟨q, hb, h2⟩))
              simp only [if_neg this]
            · rw [if_neg hb, if_neg hb]
        · rw [if_neg hs, if_neg (fun q => hs q.1), if_neg hs]
      omega
  · rw [← prR_mul]
    refine prR_congr (fun q hq => ?_)
    by_cases hq2 : wk q
    · have := hw q hq hq2
      simp [this, hq2]
    · by_cases hc : C.testBit q = true
      · simp [hc, hq2]
      · simp [hc, hq2]
