/-! the memory of two fresh objects -/
def mu0 : Mem_ := fun o i => if o = 26 ∧ i = 3 then -9 else if (o = 2 ∨ o = 52) ∧ i < 6 then -1 else if (o = 5 ∨ o = 55) ∧ i < 4 then -1 else if o = 0 ∧ i = 9 then 42 else if o = 0 ∧ i = 10 then 46 else if (o = 0 ∧ i = 14) ∨ (o = 50 ∧ i = 4) then 1 else 0
theorem mu0_z {o i : Nat} (h : o ≠ 0 ∧ o ≠ 2 ∧ o ≠ 5 ∧ o ≠ 26 ∧ o ≠ 50 ∧ o ≠ 52 ∧ o ≠ 55) : mu0 o i = 0 := by
  unfold mu0
  rw [if_neg (by omega), if_neg (by omega), if_neg (by omega), if_neg (by omega), if_neg (by omega), if_neg (by omega)]
theorem mu0_0 {i : Nat} (h : i ≠ 9 ∧ i ≠ 10 ∧ i ≠ 14) : mu0 0 i = 0 := by
  unfold mu0
  rw [if_neg (by omega), if_neg (by omega), if_neg (by omega), if_neg (by omega), if_neg (by omega), if_neg (by omega)]
theorem mu0_50 {i : Nat} (h : i ≠ 4) : mu0 50 i = 0 := by
  unfold mu0
  rw [if_neg (by omega), if_neg (by omega), if_neg (by omega), if_neg (by omega), if_neg (by omega), if_neg (by omega)]
theorem mu0_st : stc mu0 = 42 := by decide
theorem mu0_dt : dtc mu0 = 46 := by decide
theorem mu0_ok : okM mu0 := by
  intro o k
  have h : mu0 o k = -9 ∨ mu0 o k = -1 ∨ mu0 o k = 42 ∨ mu0 o k = 46 ∨ mu0 o k = 1 ∨ mu0 o k = 0 := by
    unfold mu0
    (repeat' split) <;> simp
  constructor <;> intro _ <;> rcases h with h | h | h | h | h | h <;> rw [h] <;> constructor <;> omega
theorem mu0_op (pl ho : Int) : opensC mu0 pl ho = 0 := by
  unfold opensC
  rw [mu0_z (o := 17) (by omega)]
  rfl
theorem CI_0 : CI 0 mu0 := by
  refine ⟨by omega, ⟨⟨⟨by rw [mu0_st]; exact Or.inl rfl, ?_⟩, ?_, ?_, ?_, ?_⟩, ⟨?_, ?_, ?_, ?_⟩, ?_⟩, ?_, ?_⟩
  · rw [mu0_st]
    refine ⟨by rw [mu0_z (by omega)]; omega, by rw [mu0_z (by omega)]; omega, fun g hg => ?_, fun p hp => ?_⟩
    · rw [mu0_z (by omega)]; omega
    · rw [mu0_z (o := 42) (by omega)] at hp; omega
  · rw [mu0_st]
    refine ⟨⟨by rw [mu0_z (by omega)]; omega, fun k hk => by rw [mu0_z (by omega)] at hk; omega⟩, fun g hg => by rw [mu0_z (by omega), mu0_z (by omega)]; omega, fun i hi => by rw [mu0_z (by omega)]; omega⟩
  · exact ⟨by rw [mu0_z (by omega)]; omega, fun e he => by rw [mu0_z (by omega)] at he; omega⟩
  · intro g hg
    have e : insC mu0 = fun _ => 0 := funext (fun a => mu0_op 2 a)
    rw [mu0_z (by omega), e]
    refine ⟨by omega, ?_⟩
    rw [show (0 : Int).toNat = 0 from rfl, Nat.or_zero]
    exact ⟨sb_rf _, fun a _ _ => sb_0 _, fun t ht _ => ht⟩
  · rw [mu0_z (by omega), mu0_z (by omega)]
    rfl
  · unfold CS
    rw [mu0_st]
    refine ⟨⟨by rw [mu0_50 (by omega), mu0_z (by omega)], by rw [mu0_50 (by omega), mu0_z (by omega)]⟩, fun g hg => ?_, fun p hp => ?_⟩
    · rw [mu0_z (by omega), mu0_z (by omega)]
    · rw [mu0_z (by omega), mu0_z (by omega), mu0_z (by omega), mu0_z (by omega)]
      exact ⟨rfl, rfl⟩
  · refine ⟨by rw [mu0_50 (by omega), mu0_z (by omega)], fun k hk => by rw [mu0_z (by omega)] at hk; omega, fun g hg => by rw [mu0_z (by omega), mu0_z (by omega)], fun i hi => by rw [mu0_z (by omega), mu0_z (by omega)]⟩
  · rw [mu0_z (o := 17) (by omega)]
    refine ⟨fun g hg => by rw [mu0_z (by omega)]; rfl, fun g hg => by rw [mu0_z (by omega)]; rfl, fun g hg => by rw [mu0_z (by omega)]; rfl, by rw [mu0_50 (by omega)]; rfl⟩
  · refine ⟨by rw [mu0_50 (by omega), mu0_z (by omega)], fun e0 q0 q1 => by rw [mu0_z (by omega)] at q1; omega, fun e0 q1 => by rw [mu0_z (by omega)] at q1; omega⟩
  · refine ⟨fun r hr => ?_, fun t ht => ?_, fun j => ?_⟩
    · have e1 : mu0 52 r = -1 := by unfold mu0; rw [if_neg (by omega), if_pos ⟨Or.inr rfl, hr⟩]
      have e2 : mu0 2 r = -1 := by unfold mu0; rw [if_neg (by omega), if_pos ⟨Or.inl rfl, hr⟩]
      rw [e1, e2]
      exact ⟨rfl, by omega, fun i hi => by omega⟩
    · have e1 : mu0 55 t = -1 := by unfold mu0; rw [if_neg (by omega), if_neg (by omega), if_pos ⟨Or.inr rfl, ht⟩]
      have e2 : mu0 5 t = -1 := by unfold mu0; rw [if_neg (by omega), if_neg (by omega), if_pos ⟨Or.inl rfl, ht⟩]
      rw [e1, e2]
      exact ⟨rfl, by omega, fun i hi => by omega⟩
    · rw [mu0_z (by omega), mu0_z (by omega)]; omega
  · refine ⟨by rw [mu0_50 (by omega), mu0_0 (by omega)], fun f hf => by rw [mu0_z (by omega), mu0_z (by omega)]; omega, by rw [mu0_50 (by omega), mu0_0 (by omega)], by rw [mu0_50 (by omega), mu0_0 (by omega)], by decide⟩
  · refine ⟨⟨by rw [mu0_dt]; exact Or.inr rfl, by rw [mu0_st, mu0_dt]; decide, by rw [mu0_z (by omega)]; omega⟩, by rw [mu0_z (by omega)]; omega, fun pl hp => by rw [mu0_z (by omega), mu0_z (by omega)]; omega⟩
