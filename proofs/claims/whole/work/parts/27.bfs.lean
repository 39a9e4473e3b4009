/-! breadth first, purely -/
def RS {α : Type} (step : α → α → Prop) (s0 : α) : Nat → α → Prop
  | 0, t => t = s0
  | n + 1, t => ∃ u, RS step s0 n u ∧ step u t
/-- r is the least n with P, or -9 -/
def Lst (P : Nat → Prop) (r : Int) : Prop := (∃ n : Nat, r = (n : Int) ∧ P n ∧ ∀ k, k < n → ¬ P k) ∨ (r = -9 ∧ ∀ n, ¬ P n)
theorem Lst_u {P : Nat → Prop} {r r' : Int} (h : Lst P r) (h' : Lst P r') : r = r' := by
  rcases h with ⟨n, e, p1, p2⟩ | ⟨e, p1⟩ <;> rcases h' with ⟨n', e', p1', p2'⟩ | ⟨e', p1'⟩
  · have : n = n' := by
      rcases Nat.lt_trichotomy n n' with q | q | q
      · exact absurd p1 (p2' n q)
      · exact q
      · exact absurd p1' (p2 n' q)
    rw [e, e', this]
  · exact absurd p1 (p1' n)
  · exact absurd p1' (p1 n')
  · rw [e, e']
theorem Lst_congr {P P' : Nat → Prop} {r : Int} (h : ∀ n, P n ↔ P' n) (hr : Lst P r) : Lst P' r := by
  have : P = P' := funext (fun n => propext (h n))
  rwa [← this]
def gRS {α : Type} (step : α → α → Prop) (s0 : α) (G : α → Prop) (n : Nat) : Prop := ∃ t, RS step s0 n t ∧ G t
/-- a queue q of L, its i-th being gone on from so far as T tells -/
def BFp {α : Type} (step : α → α → Prop) (s0 : α) (G : α → Prop) (q : Nat → α) (mn : Nat → Nat) (i L : Nat) (T : α → Prop) : Prop :=
  (0 < L ∧ i ≤ L ∧ q 0 = s0 ∧ mn 0 = 0) ∧ (∀ a b, a ≤ b → b < L → mn a ≤ mn b) ∧ (∀ j, j < L → RS step s0 (mn j) (q j)) ∧ (∀ j, j < i → ∀ t, step (q j) t → ∃ k, k < L ∧ q k = t ∧ mn k ≤ mn j + 1) ∧ (∀ j, j < i → ¬ G (q j)) ∧ (∀ j, j < L → i < L → mn j ≤ mn i + 1) ∧ (i < L → ∀ t, T t → ∃ k, k < L ∧ q k = t ∧ mn k ≤ mn i + 1)
theorem BFp_0 {α : Type} {step : α → α → Prop} {s0 : α} {G : α → Prop} {q : Nat → α} (h : q 0 = s0) : BFp step s0 G q (fun _ => 0) 0 1 (fun _ => False) := by
  refine ⟨⟨by omega, by omega, h, rfl⟩, fun _ _ _ _ => Nat.le_refl _, fun j hj => ?_, fun j hj => absurd hj (by omega), fun j hj => absurd hj (by omega), fun _ _ _ => Nat.zero_le _, fun _ t ht => absurd ht id⟩
  have : j = 0 := by omega
  rw [this, h]
  exact rfl
theorem BFp_old {α : Type} {step : α → α → Prop} {s0 : α} {G : α → Prop} {q : Nat → α} {mn : Nat → Nat} {i L : Nat} {T : α → Prop} (h : BFp step s0 G q mn i L T) {t : α} (ht : ∃ k, k < L ∧ q k = t) : BFp step s0 G q mn i L (fun u => T u ∨ u = t) := by
  obtain ⟨h1, h2, h3, h4, h5, h6, h7⟩ := h
  refine ⟨h1, h2, h3, h4, h5, h6, fun hi u hu => ?_⟩
  rcases hu with hu | rfl
  · exact h7 hi u hu
  · obtain ⟨k, k1, k2⟩ := ht
    exact ⟨k, k1, k2, h6 k k1 hi⟩
theorem BFp_new {α : Type} {step : α → α → Prop} {s0 : α} {G : α → Prop} {q q' : Nat → α} {mn mn' : Nat → Nat} {i L : Nat} {T : α → Prop} (h : BFp step s0 G q mn i L T) (hi : i < L) {t : α} (hst : step (q i) t) (hq : ∀ j, j < L → q' j = q j) (ht : q' L = t) (hm : ∀ j, j < L → mn' j = mn j) (hmL : mn' L = mn i + 1) : BFp step s0 G q' mn' i (L + 1) (fun u => T u ∨ u = t) := by
  obtain ⟨h1, h2, h3, h4, h5, h6, h7⟩ := h
  refine ⟨⟨by omega, by omega, by rw [hq 0 h1.1]; exact h1.2.2.1, by rw [hm 0 h1.1]; exact h1.2.2.2⟩, fun a b hab hb => ?_, fun j hj => ?_, fun j hj u hu => ?_, fun j hj => ?_, fun j hj _ => ?_, fun _ u hu => ?_⟩
  · by_cases q1 : b < L
    · rw [hm b q1, hm a (by omega)]; exact h2 a b hab q1
    · have e : b = L := by omega
      subst e
      rw [hmL]
      by_cases q2 : a < b
      · rw [hm a q2]; exact h6 a q2 hi
      · have e : a = b := by omega
        rw [e, hmL]; omega
  · by_cases q1 : j < L
    · rw [hm j q1, hq j q1]; exact h3 j q1
    · have : j = L := by omega
      subst this
      rw [hmL, ht]
      exact ⟨q i, h3 i hi, hst⟩
  · rw [hq j (by omega)] at hu
    obtain ⟨k, k1, k2, k3⟩ := h4 j hj u hu
    exact ⟨k, by omega, by rw [hq k k1]; exact k2, by rw [hm k k1, hm j (by omega)]; exact k3⟩
  · rw [hq j (by omega)]; exact h5 j hj
  · rw [hm i hi]
    by_cases q1 : j < L
    · rw [hm j q1]; exact h6 j q1 hi
    · have : j = L := by omega
      rw [this, hmL]; omega
  · rw [hm i hi]
    rcases hu with hu | rfl
    · obtain ⟨k, k1, k2, k3⟩ := h7 hi u hu
      exact ⟨k, by omega, by rw [hq k k1]; exact k2, by rw [hm k k1]; exact k3⟩
    · exact ⟨L, by omega, ht, by rw [hmL]; omega⟩
theorem BFp_next {α : Type} {step : α → α → Prop} {s0 : α} {G : α → Prop} {q : Nat → α} {mn : Nat → Nat} {i L : Nat} {T : α → Prop} (h : BFp step s0 G q mn i L T) (hi : i < L) (hT : ∀ t, step (q i) t → T t) (hG : ¬ G (q i)) : BFp step s0 G q mn (i + 1) L (fun _ => False) := by
  obtain ⟨h1, h2, h3, h4, h5, h6, h7⟩ := h
  refine ⟨⟨h1.1, by omega, h1.2.2.1, h1.2.2.2⟩, h2, h3, fun j hj t ht => ?_, fun j hj => ?_, fun j hj hi2 => ?_, fun _ t ht => absurd ht id⟩
  · by_cases e : j = i
    · subst e; exact h7 hi t (hT t ht)
    · exact h4 j (by omega) t ht
  · by_cases e : j = i
    · subst e; exact hG
    · exact h5 j (by omega)
  · have := h6 j hj hi
    have := h2 i (i + 1) (by omega) hi2
    omega
theorem BFp_all {α : Type} {step : α → α → Prop} {s0 : α} {G : α → Prop} {q : Nat → α} {mn : Nat → Nat} {i L : Nat} {T : α → Prop} (h : BFp step s0 G q mn i L T) : ∀ n t, RS step s0 n t → (∃ j, j < i ∧ q j = t ∧ mn j ≤ n) ∨ (∃ j, i ≤ j ∧ j < L ∧ mn j ≤ n) := by
  obtain ⟨h1, h2, h3, h4, h5, h6, h7⟩ := h
  intro n
  induction n with
  | zero =>
    intro t ht
    have ht : t = s0 := ht
    rcases Nat.eq_zero_or_pos i with q1 | q1
    · exact Or.inr ⟨0, by omega, h1.1, by rw [h1.2.2.2]; omega⟩
    · exact Or.inl ⟨0, q1, by rw [h1.2.2.1, ht], by rw [h1.2.2.2]; omega⟩
  | succ n ih =>
    intro t ht
    obtain ⟨u, hu, hs⟩ := ht
    rcases ih u hu with ⟨j, j1, j2, j3⟩ | ⟨j, j1, j2, j3⟩
    · subst j2
      obtain ⟨k, k1, k2, k3⟩ := h4 j j1 t hs
      rcases Nat.lt_or_ge k i with q1 | q1
      · exact Or.inl ⟨k, q1, k2, by omega⟩
      · exact Or.inr ⟨k, q1, k1, by omega⟩
    · exact Or.inr ⟨j, j1, j2, by omega⟩
theorem BFp_ret {α : Type} {step : α → α → Prop} {s0 : α} {G : α → Prop} {q : Nat → α} {mn : Nat → Nat} {i L : Nat} {T : α → Prop} (h : BFp step s0 G q mn i L T) (hi : i < L) (hG : G (q i)) : Lst (gRS step s0 G) (mn i : Int) := by
  refine Or.inl ⟨mn i, rfl, ⟨q i, h.2.2.1 i hi, hG⟩, fun k hk hP => ?_⟩
  obtain ⟨t, t1, t2⟩ := hP
  rcases BFp_all h k t t1 with ⟨j, j1, j2, j3⟩ | ⟨j, j1, j2, j3⟩
  · subst j2
    exact h.2.2.2.2.1 j j1 t2
  · have := h.2.1 i j j1 j2
    omega
theorem BFp_end {α : Type} {step : α → α → Prop} {s0 : α} {G : α → Prop} {q : Nat → α} {mn : Nat → Nat} {L : Nat} {T : α → Prop} (h : BFp step s0 G q mn L L T) : Lst (gRS step s0 G) (-9) := by
  refine Or.inr ⟨rfl, fun n hP => ?_⟩
  obtain ⟨t, t1, t2⟩ := hP
  rcases BFp_all h n t t1 with ⟨j, j1, j2, j3⟩ | ⟨j, j1, j2, j3⟩
  · subst j2
    exact h.2.2.2.2.1 j j1 t2
  · omega
/-- a functional bisimulation keeps the least number of steps -/
theorem gRS_bisim {α β : Type} {step : α → α → Prop} {s0 : α} {G : α → Prop} {step' : β → β → Prop} {s0' : β} {G' : β → Prop} (f : α → β) (I : α → Prop) (h0 : f s0 = s0') (hI0 : I s0) (hI : ∀ a b, I a → step a b → I b) (h1 : ∀ a b, I a → step a b → step' (f a) (f b)) (h2 : ∀ a b', I a → step' (f a) b' → ∃ b, step a b ∧ f b = b') (hG : ∀ a, I a → (G a ↔ G' (f a))) : ∀ n, gRS step s0 G n ↔ gRS step' s0' G' n := by
  have k1 : ∀ n t, RS step s0 n t → I t ∧ RS step' s0' n (f t) := by
    intro n
    induction n with
    | zero => intro t ht; have ht : t = s0 := ht; rw [ht]; exact ⟨hI0, h0⟩
    | succ n ih =>
      intro t ht
      obtain ⟨u, u1, u2⟩ := ht
      obtain ⟨i1, i2⟩ := ih u u1
      exact ⟨hI u t i1 u2, f u, i2, h1 u t i1 u2⟩
  have k2 : ∀ n t', RS step' s0' n t' → ∃ t, RS step s0 n t ∧ f t = t' := by
    intro n
    induction n with
    | zero => intro t' ht; have ht : t' = s0' := ht; exact ⟨s0, rfl, by rw [h0, ht]⟩
    | succ n ih =>
      intro t' ht
      obtain ⟨u', u1, u2⟩ := ht
      obtain ⟨u, e1, e2⟩ := ih u' u1
      subst e2
      obtain ⟨b, b1, b2⟩ := h2 u t' (k1 n u e1).1 u2
      exact ⟨b, ⟨u, e1, b1⟩, b2⟩
  intro n
  constructor
  · rintro ⟨t, t1, t2⟩
    obtain ⟨i1, i2⟩ := k1 n t t1
    exact ⟨f t, i2, (hG t i1).mp t2⟩
  · rintro ⟨t', t1, t2⟩
    obtain ⟨t, e1, e2⟩ := k2 n t' t1
    subst e2
    exact ⟨t, e1, (hG t (k1 n t e1).1).mpr t2⟩
/-- as many as fit: numbers below m, no two alike -/
theorem pigeon : ∀ (m n : Nat) (f : Nat → Nat), (∀ i, i < n → f i < m) → (∀ i j, i < n → j < n → f i = f j → i = j) → n ≤ m := by
  intro m
  induction m with
  | zero =>
    intro n f h1 _
    rcases Nat.eq_zero_or_pos n with q | q
    · omega
    · exact absurd (h1 0 q) (by omega)
  | succ m ih =>
    intro n f h1 h2
    rcases Nat.eq_zero_or_pos n with q | q
    · omega
    · by_cases hx : ∃ i, i < n ∧ f i = m
      · obtain ⟨x, x1, x2⟩ := hx
        have := ih (n - 1) (fun i => if i < x then f i else f (i + 1)) (fun i hi => ?_) (fun i j hi hj he => ?_)
        · omega
        · show (if i < x then f i else f (i + 1)) < m
          split
          · rename_i q1
            have e1 := h1 i (by omega)
            have e2 : f i ≠ m := fun e => by have := h2 i x (by omega) x1 (by rw [e, x2]); omega
            omega
          · rename_i q1
            have e1 := h1 (i + 1) (by omega)
            have e2 : f (i + 1) ≠ m := fun e => by have := h2 (i + 1) x (by omega) x1 (by rw [e, x2]); omega
            omega
        · have he : (if i < x then f i else f (i + 1)) = (if j < x then f j else f (j + 1)) := he
          split at he <;> split at he
          · exact h2 i j (by omega) (by omega) he
          · have := h2 i (j + 1) (by omega) (by omega) he; omega
          · have := h2 (i + 1) j (by omega) (by omega) he; omega
          · have := h2 (i + 1) (j + 1) (by omega) (by omega) he; omega
      · refine Nat.le_succ_of_le (ih n f (fun i hi => ?_) h2)
        have e1 := h1 i hi
        have e2 : f i ≠ m := fun e => hx ⟨i, hi, e⟩
        omega
