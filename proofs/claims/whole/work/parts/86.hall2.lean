/-! a set that fits can be found; what fits is the first -/
section
variable {D : Nat → Int} {O : Nat → Nat}
def rS (r : Nat → Int) (s x : Nat) : Int := r x - (if s.testBit x = true then 1 else 0)
theorem rS_add {r : Nat → Int} {s x y : Nat} (hx : ¬ s.testBit x = true) : rS r (s ||| 2 ^ x) y = rS r s y - (if y = x then 1 else 0) := by
  unfold rS
  by_cases e : y = x
  · subst e
    rw [if_pos (or_bit.2 (Or.inr (pw_bit.2 rfl))), if_neg hx, if_pos rfl]; omega
  · rw [if_neg e]
    by_cases h : s.testBit y = true
    · rw [if_pos (or_bit.2 (Or.inl h)), if_pos h]; omega
    · rw [if_neg (fun q => (or_bit.1 q).elim h (fun q => e (pw_bit.1 q).symm)), if_neg h]; omega
theorem cnt_add {s x : Nat} (hx : ¬ s.testBit x = true) (h : x < 32) : cntB 32 (s ||| 2 ^ x) = cntB 32 s + 1 := by
  have h1 := cnt_oa (n := 32) (a := s) (b := 2 ^ x)
  have h2 : s &&& 2 ^ x = 0 := and_0.2 (fun i hi => hx ((pw_bit.1 hi.2) ▸ hi.1))
  rw [h2, cnt_z, cnt_p h] at h1
  omega
def hII (D : Nat → Int) (O : Nat → Nat) (r : Nat → Int) (av S x : Nat) : Int := min (r x) ((cntB 32 (O x &&& S) : Int) + (if av.testBit x = true then 1 else 0)) - (if S.testBit x = true then D x else 0)
theorem hall_run {r : Nat → Int} {fr Tb : Nat} (hT : Tb < 64) : ∀ (d s : Nat), sb s Tb → (∀ x, x < 6 → 0 ≤ rS r s x) → (∀ x, x < 6 → s.testBit x = true → 0 < r x) → (∀ S, upS (fr + 1) S → 0 ≤ smR 6 (spF D O (rS r s) S)) → (∀ S, upS (fr + 1) S → (d : Int) ≤ smR 6 (hII D O (rS r s) (Tb ^^^ (Tb &&& s)) S)) →
    ∃ s', sb s' Tb ∧ cntB 32 s' = cntB 32 s + d ∧ (∀ x, x < 6 → 0 ≤ rS r s' x) ∧ (∀ x, x < 6 → s'.testBit x = true → 0 < r x) ∧ ∀ S, upS (fr + 1) S → 0 ≤ smR 6 (spF D O (rS r s') S) := by
  intro d
  induction d with
  | zero => exact fun s h1 h2 h3 h4 _ => ⟨s, h1, rfl, h2, h3, h4⟩
  | succ d ih =>
    intro s h1 h2 h3 h4 h5
    obtain ⟨x, hx, ha, hp⟩ := hall_one (D := D) (O := O) (r := rS r s) (fr := fr) (av := Tb ^^^ (Tb &&& s)) (d := ((d + 1 : Nat) : Int)) h2 h4 h5 (by omega)
    obtain ⟨ha1, ha2⟩ := nx_bit.1 ha
    have hp0 := hp 0 upS_0 (sp_0 h2)
    rw [Nat.and_zero, cnt_z] at hp0
    have e0 : rS r s x = r x := by unfold rS; rw [if_neg ha2]; omega
    obtain ⟨s', t1, t2, t3, t4, t5⟩ := ih (s ||| 2 ^ x) (fun i hi => (or_bit.1 hi).elim (h1 i) (fun q => (pw_bit.1 q) ▸ ha1)) (fun y hy => by
      rw [rS_add ha2]
      have := h2 y hy
      by_cases e : y = x
      · subst e; rw [if_pos rfl]; omega
      · rw [if_neg e]; omega) (fun y hy hb => by
      rcases or_bit.1 hb with q | q
      · exact h3 y hy q
      · have e := pw_bit.1 q
        subst e; omega) (fun S hS => by
      have h6 := h4 S hS
      have h7 := hp S hS
      have e := smR_add (n := 6) (f := spF D O (rS r s) S) (g := spF D O (rS r (s ||| 2 ^ x)) S) (b := x) (d := if rS r s x ≤ (cntB 32 (O x &&& S) : Int) then -1 else 0) hx (by
        unfold spF
        rw [rS_add ha2, if_pos rfl]
        split <;> omega) (fun k hk e => by
        unfold spF
        rw [rS_add ha2, if_neg e, Int.sub_zero])
      rw [e]
      split
      · rename_i h8
        by_cases hz : smR 6 (spF D O (rS r s) S) = 0
        · have := h7 hz; omega
        · omega
      · omega) (fun S hS => by
      have h6 := h5 S hS
      have e := smR_add (n := 6) (f := hII D O (rS r s) (Tb ^^^ (Tb &&& s)) S) (g := hII D O (rS r (s ||| 2 ^ x)) (Tb ^^^ (Tb &&& (s ||| 2 ^ x))) S) (b := x) (d := -1) hx (by
        unfold hII
        rw [rS_add ha2, if_pos rfl, if_neg (fun q => (nx_bit.1 q).2 (or_bit.2 (Or.inr (pw_bit.2 rfl)))), if_pos ha]
        omega) (fun k hk e => by
        unfold hII
        rw [rS_add ha2, if_neg e, Int.sub_zero]
        have hiff : (Tb ^^^ (Tb &&& (s ||| 2 ^ x))).testBit k = true ↔ (Tb ^^^ (Tb &&& s)).testBit k = true := by
          rw [nx_bit, nx_bit, or_bit]
          constructor
          · exact fun q => ⟨q.1, fun q2 => q.2 (Or.inl q2)⟩
          · exact fun q => ⟨q.1, fun q2 => q2.elim q.2 (fun q3 => e (pw_bit.1 q3).symm)⟩
        by_cases h9 : (Tb ^^^ (Tb &&& s)).testBit k = true
        · rw [if_pos h9, if_pos (hiff.2 h9)]
        · rw [if_neg h9, if_neg (fun q => h9 (hiff.1 q))])
      rw [e]
      omega)
    exact ⟨s', t1, by rw [t2, cnt_add ha2 (by omega)]; omega, t3, t4, t5⟩
theorem hall_fit {T : Nat → Int} {r : Nat → Int} {fr : Nat} (hfr : fr < 6) (hr : ∀ x, x < 6 → 0 ≤ r x) (hT : 0 ≤ T fr ∧ T fr < 64) (hD : 0 ≤ D fr) (hO : ∀ x, x < 6 → ((O x).testBit fr = true ↔ (T fr).toNat.testBit x = true)) (h : HPf D O r fr) : ∃ s : Nat, (s : Int) ≤ T fr ∧ FitF D T O r fr s := by
  have hu := (HPf_up (by omega) hr).1 h
  have e0 : ∀ x, rS r 0 x = r x := fun x => by unfold rS; simp
  have e0f : rS r 0 = r := funext e0
  have mono : ∀ S, upS (fr + 1) S → upS fr S := fun S hS => ⟨hS.1, fun i hi => hS.2 i (by omega)⟩
  obtain ⟨s, t1, t2, t3, t4, t5⟩ := hall_run (D := D) (O := O) (r := r) (fr := fr) (Tb := (T fr).toNat) (by omega) (D fr).toNat 0 (sb_0 _) (fun x hx => by rw [e0]; exact hr x hx) (fun x hx q => by simp at q) (fun S hS => by rw [e0f]; exact hu S (mono S hS)) (fun S hS => by
    rw [e0f, Nat.and_zero, Nat.xor_zero]
    have hS2 : upS fr (S ||| 2 ^ fr) := upS_or (mono S hS) ⟨Nat.pow_lt_pow_right (m := fr) (n := 6) (by omega) hfr, fun i hi q => by have := pw_bit.1 q; omega⟩
    have h6 := hu _ hS2
    have hb : ¬ S.testBit fr = true := hS.2 fr (by omega)
    have e := smR_add (n := 6) (f := spF D O r (S ||| 2 ^ fr)) (g := hII D O r (T fr).toNat S) (b := fr) (d := D fr) hfr (by
      unfold spF hII
      rw [if_pos (or_bit.2 (Or.inr (pw_bit.2 rfl))), if_neg hb]
      have : cntB 32 (O fr &&& (S ||| 2 ^ fr)) = cntB 32 (O fr &&& S) + (if (T fr).toNat.testBit fr = true then 1 else 0) := by
        by_cases hq : (O fr).testBit fr = true
        · rw [if_pos ((hO fr hfr).1 hq), and_or_r, show O fr &&& 2 ^ fr = 2 ^ fr from bx (fun i => by rw [and_bit, pw_bit]; exact ⟨fun q => q.2, fun q => ⟨q ▸ hq, q⟩⟩), cnt_add (fun q => hb (and_bit.1 q).2) (by omega)]
        · rw [if_neg (fun q => hq ((hO fr hfr).2 q)), and_or_r, show O fr &&& 2 ^ fr = 0 from and_0.2 (fun i hi => hq ((pw_bit.1 hi.2) ▸ hi.1)), Nat.or_zero, Nat.add_zero]
      rw [this]
      split <;> omega) (fun k hk e => by
      unfold spF hII
      have h8 : (S ||| 2 ^ fr).testBit k = S.testBit k := by
        rw [Nat.testBit_or, Nat.testBit_two_pow_of_ne (fun q => e q.symm), Bool.or_false]
      rw [h8]
      have : cntB 32 (O k &&& (S ||| 2 ^ fr)) = cntB 32 (O k &&& S) + (if (T fr).toNat.testBit k = true then 1 else 0) := by
        by_cases hq : (O k).testBit fr = true
        · rw [if_pos ((hO k hk).1 hq), and_or_r, show O k &&& 2 ^ fr = 2 ^ fr from bx (fun i => by rw [and_bit, pw_bit]; exact ⟨fun q => q.2, fun q => ⟨q ▸ hq, q⟩⟩), cnt_add (fun q => hb (and_bit.1 q).2) (by omega)]
        · rw [if_neg (fun q => hq ((hO k hk).2 q)), and_or_r, show O k &&& 2 ^ fr = 0 from and_0.2 (fun i hi => hq ((pw_bit.1 hi.2) ▸ hi.1)), Nat.or_zero, Nat.add_zero]
      rw [this]
      split <;> simp)
    rw [e]
    omega)
  have hle := sb_le t1
  refine ⟨s, by omega, ⟨nx_0.2 t1, by rw [t2, cnt_z]; omega⟩, t4, ?_⟩
  exact (HPf_up (r := fun x => r x - (if s.testBit x = true then 1 else 0)) (by omega) t3).2 t5
end
