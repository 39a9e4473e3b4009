/-! truth values, bits, loops -/
def b2i (P : Prop) [Decidable P] : Int := if P then 1 else 0
theorem b2i_01 (P : Prop) [Decidable P] : b2i P = 0 ∨ b2i P = 1 := by unfold b2i; split <;> simp
theorem b2i_t {P : Prop} [Decidable P] (h : P) : b2i P = 1 := if_pos h
theorem b2i_f {P : Prop} [Decidable P] (h : ¬ P) : b2i P = 0 := if_neg h
theorem b2i_in (P : Prop) [Decidable P] : inR (b2i P) := by unfold b2i; split <;> decide
theorem b2i_congr {P P' : Prop} [Decidable P] [Decidable P'] (h : P ↔ P') : b2i P = b2i P' := by unfold b2i; by_cases hp : P <;> simp [hp, h.mp] <;> simp_all
theorem v_ifb_eq {M : MRec} {pc : Nat} {ls st : List PV} {μ : Mem_} {Q : PV → Mem_ → Prop} {P : Prop} [Decidable P] {off : Int} {tgt : Nat} (hd : decode (mC M) pc = .ok (.ifCond .eq off, 3)) (ht : (pc : Int) + off = (tgt : Int)) (k1 : ¬ P → V_ M tgt ls st μ Q) (k2 : P → V_ M (pc + 3) ls st μ Q) : V_ M pc ls (I_ (b2i P) :: st) μ Q :=
  v_if_eq hd ht (fun h => k1 (fun hp => by rw [b2i_t hp] at h; omega)) (fun h => k2 (by
    by_cases hp : P
    · exact hp
    · exact absurd (b2i_f hp) h))
theorem v_ifb_ne {M : MRec} {pc : Nat} {ls st : List PV} {μ : Mem_} {Q : PV → Mem_ → Prop} {P : Prop} [Decidable P] {off : Int} {tgt : Nat} (hd : decode (mC M) pc = .ok (.ifCond .ne off, 3)) (ht : (pc : Int) + off = (tgt : Int)) (k1 : P → V_ M tgt ls st μ Q) (k2 : ¬ P → V_ M (pc + 3) ls st μ Q) : V_ M pc ls (I_ (b2i P) :: st) μ Q :=
  v_if_ne hd ht (fun h => k1 (by
    by_cases hp : P
    · exact hp
    · exact absurd (b2i_f hp) h)) (fun h => k2 (fun hp => h (by rw [b2i_t hp]; omega)))
/-- a loop that counts up -/
theorem loop_up {P : Int → Prop} (n : Int) (hstep : ∀ k, 0 ≤ k → k ≤ n → (k < n → P (k + 1)) → P k) : ∀ k, 0 ≤ k → k ≤ n → P k := by
  have key : ∀ (d : Nat) (k : Int), 0 ≤ k → k ≤ n → n - k ≤ d → P k := by
    intro d
    induction d with
    | zero => exact fun k h0 h1 h2 => hstep k h0 h1 (fun h => absurd h (by omega))
    | succ d ih => exact fun k h0 h1 h2 => hstep k h0 h1 (fun h => ih (k + 1) (by omega) (by omega) (by omega))
  exact fun k h0 h1 => key (n - k).toNat k h0 h1 (by omega)
/-- a loop with any measure -/
theorem loop_dn {α : Type} {P : α → Prop} (ms : α → Nat) (hstep : ∀ a, (∀ b, ms b < ms a → P b) → P a) : ∀ a, P a := by
  have key : ∀ (d : Nat) (a : α), ms a < d → P a := by
    intro d
    induction d with
    | zero => exact fun a h => absurd h (by omega)
    | succ d ih => exact fun a h => hstep a (fun b hb => ih b (by omega))
  exact fun a => key (ms a + 1) a (by omega)
/-- all of f 0 .. f (n - 1), by bits -/
def orR : Nat → (Nat → Nat) → Nat
  | 0, _ => 0
  | n + 1, f => orR n f ||| f n
def smR : Nat → (Nat → Int) → Int
  | 0, _ => 0
  | n + 1, f => smR n f + f n
theorem orR_bit {n : Nat} {f : Nat → Nat} {i : Nat} : (orR n f).testBit i = true ↔ ∃ k, k < n ∧ (f k).testBit i = true := by
  induction n with
  | zero => simp [orR]
  | succ n ih =>
    rw [orR, Nat.testBit_or, Bool.or_eq_true, ih]
    constructor
    · rintro (⟨k, h1, h2⟩ | h)
      · exact ⟨k, by omega, h2⟩
      · exact ⟨n, by omega, h⟩
    · rintro ⟨k, h1, h2⟩
      rcases Nat.lt_or_ge k n with h | h
      · exact Or.inl ⟨k, h, h2⟩
      · have : k = n := by omega
        subst this
        exact Or.inr h2
theorem orR_lt {n m : Nat} {f : Nat → Nat} (h : ∀ k, k < n → f k < 2 ^ m) : orR n f < 2 ^ m := by
  induction n with
  | zero => exact Nat.two_pow_pos m
  | succ n ih => exact Nat.or_lt_two_pow (ih (fun k hk => h k (by omega))) (h n (by omega))
theorem orR_congr {n : Nat} {f g : Nat → Nat} (h : ∀ k, k < n → f k = g k) : orR n f = orR n g := by
  induction n with
  | zero => rfl
  | succ n ih => rw [orR, orR, ih (fun k hk => h k (by omega)), h n (by omega)]
theorem smR_congr {n : Nat} {f g : Nat → Int} (h : ∀ k, k < n → f k = g k) : smR n f = smR n g := by
  induction n with
  | zero => rfl
  | succ n ih => rw [smR, smR, ih (fun k hk => h k (by omega)), h n (by omega)]
theorem i32_nat_of {a : Nat} (h : a < 2 ^ 31) : (Int32.ofInt (a : Int)).toBitVec.toNat = a := by
  rw [Int32.toBitVec_ofInt, BitVec.toNat_ofInt]
  omega
theorem i32_small {x : Int32} (h : x.toBitVec.toNat < 2 ^ 31) : x.toInt = (x.toBitVec.toNat : Int) := by
  show x.toBitVec.toInt = _
  rw [BitVec.toInt_eq_toNat_of_lt (by omega)]
theorem bOr_nat {a b : Nat} (ha : a < 2 ^ 31) (hb : b < 2 ^ 31) : bOr (a : Int) (b : Int) = ((a ||| b : Nat) : Int) := by
  have e : (Int32.ofInt (a : Int) ||| Int32.ofInt (b : Int)).toBitVec.toNat = a ||| b := by
    rw [Int32.toBitVec_or, BitVec.toNat_or, i32_nat_of ha, i32_nat_of hb]
  unfold bOr
  rw [i32_small (by rw [e]; exact Nat.or_lt_two_pow ha hb), e]
theorem bAnd_nat {a b : Nat} (ha : a < 2 ^ 31) (hb : b < 2 ^ 31) : bAnd (a : Int) (b : Int) = ((a &&& b : Nat) : Int) := by
  have e : (Int32.ofInt (a : Int) &&& Int32.ofInt (b : Int)).toBitVec.toNat = a &&& b := by
    rw [Int32.toBitVec_and, BitVec.toNat_and, i32_nat_of ha, i32_nat_of hb]
  unfold bAnd
  rw [i32_small (by rw [e]; exact Nat.and_lt_two_pow _ hb), e]
theorem bShl_one {k : Int} (h0 : 0 ≤ k) (h : k < 31) : bShl 1 k = ((2 ^ k.toNat : Nat) : Int) := by
  have key : ∀ n : Fin 31, bShl 1 (n.val : Int) = ((2 ^ n.val : Nat) : Int) := by decide +kernel
  have := key ⟨k.toNat, by omega⟩
  simp only at this
  rwa [show ((k.toNat : Nat) : Int) = k by omega] at this
theorem ones_pow {k : Nat} (h : k < 31) : 2 ^ k < 2 ^ 31 := Nat.pow_lt_pow_right (by omega) h
theorem bShr_nat {a : Nat} {k : Int} (ha : a < 2 ^ 31) (h0 : 0 ≤ k) (h : k < 32) : bShr (a : Int) k = ((a >>> k.toNat : Nat) : Int) := by
  have hm : (Int32.ofInt k &&& 31) = Int32.ofInt k := by
    have key : ∀ n : Fin 32, (Int32.ofInt (n.val : Int) &&& 31) = Int32.ofInt (n.val : Int) := by decide +kernel
    have := key ⟨k.toNat, by omega⟩
    simp only at this
    rwa [show ((k.toNat : Nat) : Int) = k by omega] at this
  have hsm : (Int32.ofInt k).toBitVec.smod 32 = BitVec.ofNat 32 k.toNat := by
    have key : ∀ n : Fin 32, (Int32.ofInt (n.val : Int)).toBitVec.smod 32 = BitVec.ofNat 32 n.val := by decide +kernel
    have := key ⟨k.toNat, by omega⟩
    simp only at this
    rwa [show ((k.toNat : Nat) : Int) = k by omega] at this
  have hmsb : (Int32.ofInt (a : Int)).toBitVec.msb = false := by
    rw [BitVec.msb_eq_decide]
    rw [i32_nat_of ha]
    simp; omega
  have e : (Int32.ofInt (a : Int) >>> Int32.ofInt k).toBitVec.toNat = a >>> k.toNat := by
    rw [Int32.toBitVec_shiftRight, hsm, BitVec.sshiftRight', BitVec.sshiftRight_eq_of_msb_false hmsb, BitVec.toNat_ushiftRight, i32_nat_of ha]
    simp
    rw [Nat.mod_eq_of_lt (by omega)]
  unfold bShr
  rw [hm, i32_small (by rw [e]; exact Nat.lt_of_le_of_lt (Nat.shiftRight_le _ _) ha), e]
theorem bAnd_one {a : Nat} (ha : a < 2 ^ 31) : bAnd (a : Int) 1 = b2i (a.testBit 0 = true) := by
  have := bAnd_nat (a := a) (b := 1) ha (by decide)
  rw [show ((1 : Nat) : Int) = 1 from rfl] at this
  rw [this, Nat.and_one_is_mod]
  unfold b2i
  rw [Nat.testBit_zero]
  split
  · rename_i h; simp at h; omega
  · rename_i h; simp at h; omega
