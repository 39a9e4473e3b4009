/-! the first plan -/
theorem smR_swap {n m : Nat} {F : Nat → Nat → Int} : smR n (fun x => smR m (fun b => F x b)) = smR m (fun b => smR n (fun x => F x b)) := by
  induction n with
  | zero =>
    have : ∀ m, smR m (fun _ => 0) = 0 := fun m => by
      induction m with
      | zero => rfl
      | succ m ih => rw [smR, ih]; rfl
    exact (this m).symm
  | succ n ih =>
    rw [smR, ih, ← smR_plus]
    exact smR_congr (fun b hb => rfl)
theorem smR_nn {n : Nat} {f : Nat → Int} (h : ∀ k, k < n → 0 ≤ f k) : 0 ≤ smR n f := by
  induction n with
  | zero => exact Int.le_refl _
  | succ n ih => have := ih (fun k hk => h k (by omega)); have := h n (by omega); rw [smR]; omega
theorem smR_part {n h : Nat} {f : Nat → Int} (hn : h ≤ n) : smR h f = smR n (fun j => if j < h then f j else 0) := by
  induction n with
  | zero => rw [show h = 0 by omega]; rfl
  | succ n ih =>
    rw [smR]
    by_cases e : h = n + 1
    · subst e
      rw [smR, if_pos (by omega)]
      congr 1
      exact smR_congr (fun k hk => by rw [if_pos (by omega)])
    · rw [if_neg (by omega), Int.add_zero]
      exact ih (by omega)
theorem smR_sub {n : Nat} {f g : Nat → Int} : smR n (fun x => f x - g x) = smR n f - smR n g := by
  induction n with
  | zero => rfl
  | succ n ih => rw [smR, smR, smR, ih]; omega
section
variable {D T : Nat → Int} {O : Nat → Nat} {r : Nat → Int}
def inG (G : Nat → Nat) (x j : Nat) : Int := if (G j).testBit x = true then 1 else 0
def FV (D T : Nat → Int) (r : Nat → Int) (G : Nat → Nat) : Prop := (∀ b, b < 6 → sb (G b) (T b).toNat ∧ (cntB 32 (G b) : Int) = D b) ∧ ∀ x, x < 6 → smR 6 (inG G x) ≤ r x
def lxl (G g : Nat → Nat) : Prop := ∃ k, k < 6 ∧ (∀ j, j < k → G j = g j) ∧ G k < g k
theorem roomG_u {g : Nat → Nat} {h x : Nat} : roomG r g h x = r x - smR h (inG g x) := rfl
theorem roomG_s {g : Nat → Nat} {h x : Nat} : roomG r g (h + 1) x = roomG r g h x - inG g x h := by
  rw [roomG_u, roomG_u, smR]; omega
theorem FV_room {G : Nat → Nat} (hF : FV D T r G) {h x : Nat} (hh : h ≤ 6) (hx : x < 6) : 0 ≤ roomG r G h x := by
  have h1 := hF.2 x hx
  rw [roomG_u, smR_part (n := 6) hh]
  have : smR 6 (fun j => if j < h then inG G x j else 0) ≤ smR 6 (inG G x) := smR_le (fun k hk => by
    have : 0 ≤ inG G x k := by unfold inG; split <;> omega
    split <;> omega)
  omega
theorem FV_HPf (hT : ∀ b, b < 6 → 0 ≤ T b ∧ T b < 64) (hO : ∀ x b, x < 6 → b < 6 → ((O x).testBit b = true ↔ (T b).toNat.testBit x = true)) (hO6 : ∀ x, x < 6 → O x < 64) {G : Nat → Nat} (hF : FV D T r G) {h : Nat} (hh : h ≤ 6) : HPf D O (roomG r G h) h := by
  refine (HPf_up hh (fun x hx => FV_room hF hh hx)).2 (fun S hS => ?_)
  have hG64 : ∀ b, b < 6 → G b < 64 := fun b hb => by have := sb_le (hF.1 b hb).1; have := hT b hb; omega
  have e1 : smR 6 (fun x => if S.testBit x = true then D x else 0) = smR 6 (fun x => smR 6 (fun b => if S.testBit b = true then inG G x b else 0)) := by
    rw [smR_swap]
    refine smR_congr (fun b hb => ?_)
    by_cases hs : S.testBit b = true
    · rw [if_pos hs, ← (hF.1 b hb).2, cntB_sm (n := 6) (hG64 b hb) (by omega)]
      exact smR_congr (fun x hx => by rw [if_pos hs]; rfl)
    · rw [if_neg hs]
      have : smR 6 (fun x => if S.testBit b = true then inG G x b else 0) = smR 6 (fun _ => 0) := smR_congr (fun x hx => if_neg hs)
      rw [this]; rfl
  have e2 : smR 6 (spF D O (roomG r G h) S) = smR 6 (fun x => min (roomG r G h x) (cntB 32 (O x &&& S) : Int)) - smR 6 (fun x => if S.testBit x = true then D x else 0) := smR_sub
  rw [e2, e1]
  have key : smR 6 (fun x => smR 6 (fun b => if S.testBit b = true then inG G x b else 0)) ≤ smR 6 (fun x => min (roomG r G h x) (cntB 32 (O x &&& S) : Int)) := smR_le (fun x hx => by
    have q1 : smR 6 (fun b => if S.testBit b = true then inG G x b else 0) ≤ roomG r G h x := by
      have h1 := hF.2 x hx
      rw [roomG_u, smR_part (n := 6) hh]
      have h2 := smR_plus (n := 6) (f := fun b => if S.testBit b = true then inG G x b else 0) (g := fun j => if j < h then inG G x j else 0)
      have h3 : smR 6 (fun b => (if S.testBit b = true then inG G x b else 0) + (if b < h then inG G x b else 0)) ≤ smR 6 (inG G x) := smR_le (fun b hb => by
        have : 0 ≤ inG G x b := by unfold inG; split <;> omega
        by_cases hs : S.testBit b = true
        · have : ¬ b < h := fun q => hS.2 b q hs
          rw [if_pos hs, if_neg this]; omega
        · rw [if_neg hs]; split <;> omega)
      omega
    have q2 : smR 6 (fun b => if S.testBit b = true then inG G x b else 0) ≤ (cntB 32 (O x &&& S) : Int) := by
      rw [cntB_sm (n := 6) (s := O x &&& S) (Nat.lt_of_le_of_lt Nat.and_le_left (hO6 x hx)) (by omega)]
      refine smR_le (fun b hb => ?_)
      by_cases hs : S.testBit b = true
      · rw [if_pos hs]
        unfold inG
        by_cases hg : (G b).testBit x = true
        · rw [if_pos hg, b2i_t (and_bit.2 ⟨(hO x b hx hb).2 ((hF.1 b hb).1 x hg), hs⟩)]; omega
        · rw [if_neg hg]; rcases b2i_01 ((O x &&& S).testBit b = true) with q | q <;> omega
      · rw [if_neg hs]; rcases b2i_01 ((O x &&& S).testBit b = true) with q | q <;> omega
    omega)
  omega
theorem greedy_room {g : Nat → Nat} (hr : ∀ x, x < 6 → 0 ≤ r x) : ∀ n, greedy D T O r g n → ∀ x, x < 6 → 0 ≤ roomG r g n x := by
  intro n
  induction n with
  | zero => exact fun _ x hx => by rw [roomG_u, smR]; have := hr x hx; omega
  | succ n ih =>
    intro hg x hx
    have h1 := ih (fun h hh => hg h (by omega)) x hx
    have h2 := (hg n (by omega)).2.1.2.1 x hx
    rw [roomG_s]
    unfold inG
    split
    · rename_i q; have := h2 q; omega
    · omega
theorem greedy_HPf {g : Nat → Nat} (h0 : HPf D O r 0) : ∀ n, greedy D T O r g n → HPf D O (roomG r g n) n := by
  intro n
  cases n with
  | zero =>
    intro _
    exact HPf_congr (fun _ _ => rfl) (fun _ _ => rfl) (fun x _ => by rw [roomG_u, smR]; omega) h0
  | succ n =>
    intro hg
    exact HPf_congr (fun _ _ => rfl) (fun _ _ => rfl) (fun x _ => by rw [roomG_s]; rfl) (hg n (by omega)).2.1.2.2
theorem safe_none (hr : ∀ x, x < 6 → 0 ≤ r x) (hD : ∀ b, b < 6 → 0 ≤ D b) (hT : ∀ b, b < 6 → 0 ≤ T b ∧ T b < 64) (hO : ∀ x b, x < 6 → b < 6 → ((O x).testBit b = true ↔ (T b).toNat.testBit x = true)) (hO6 : ∀ x, x < 6 → O x < 64)
    (h : ¬ HPf D O r 0 ∨ ∃ (g : Nat → Nat) (h : Nat), HPf D O r 0 ∧ h < 6 ∧ greedy D T O r g h ∧ ∀ s : Nat, (s : Int) ≤ T h → ¬ FitF D T O (roomG r g h) h s) : ∀ G, ¬ FV D T r G := by
  intro G hF
  rcases h with h | ⟨g, k, h0, hk, hg, hn⟩
  · exact h (HPf_congr (fun _ _ => rfl) (fun _ _ => rfl) (fun x _ => by rw [roomG_u, smR]; omega) (FV_HPf hT hO hO6 hF (h := 0) (by omega)))
  · obtain ⟨s, s1, s2⟩ := hall_fit hk (greedy_room hr k hg) (hT k hk) (hD k hk) (fun x hx => hO x k hx hk) (greedy_HPf h0 k hg)
    exact hn s s1 s2
theorem safe_some (hr : ∀ x, x < 6 → 0 ≤ r x) (hT : ∀ b, b < 6 → 0 ≤ T b ∧ T b < 64) (hO : ∀ x b, x < 6 → b < 6 → ((O x).testBit b = true ↔ (T b).toNat.testBit x = true)) (hO6 : ∀ x, x < 6 → O x < 64) {g : Nat → Nat} (hg : greedy D T O r g 6) : FV D T r g ∧ ∀ G, FV D T r G → ¬ lxl G g := by
  refine ⟨⟨fun b hb => ⟨nx_0.1 (hg b hb).2.1.1.1, (hg b hb).2.1.1.2⟩, fun x hx => ?_⟩, fun G hF hl => ?_⟩
  · have := greedy_room hr 6 hg x hx
    rw [roomG_u] at this
    omega
  · obtain ⟨k, hk, e, hlt⟩ := hl
    have er : ∀ x, roomG r G k x = roomG r g k x := fun x => by
      rw [roomG_u, roomG_u]
      congr 1
      exact smR_congr (fun j hj => by unfold inG; rw [e j hj])
    refine (hg k hk).2.2 (G k) hlt ⟨⟨nx_0.2 (hF.1 k hk).1, (hF.1 k hk).2⟩, fun x hx hb => ?_, ?_⟩
    · have := FV_room hF (h := k + 1) (by omega) hx
      rw [roomG_s, er x] at this
      unfold inG at this
      rw [if_pos hb] at this
      omega
    · exact HPf_congr (fun _ _ => rfl) (fun _ _ => rfl) (fun x _ => by rw [roomG_s, er x]; rfl) (FV_HPf hT hO hO6 hF (h := k + 1) (by omega))
theorem lex_u {G g : Nat → Nat} (h1 : ¬ lxl G g) (h2 : ¬ lxl g G) : ∀ j, j < 6 → G j = g j := by
  have key : ∀ n, n ≤ 6 → ∀ j, j < n → G j = g j := by
    intro n
    induction n with
    | zero => exact fun _ j hj => by omega
    | succ n ih =>
      intro hn j hj
      have ih := ih (by omega)
      by_cases e : j = n
      · subst e
        rcases Nat.lt_trichotomy (G j) (g j) with q | q | q
        · exact absurd ⟨j, by omega, ih, q⟩ h1
        · exact q
        · exact absurd ⟨j, by omega, fun i hi => (ih i hi).symm, q⟩ h2
      · exact ih j (by omega)
  exact key 6 (Nat.le_refl _)
end
