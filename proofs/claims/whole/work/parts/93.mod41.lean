/-! the model: an event read -/
def EmC (m : Mem_) (e0 : Int) (s : EvL × Int) : Prop := (m 50 24 = e0 + s.1.length ∧ m 50 25 = s.2) ∧ ∀ k : Nat, k < s.1.length → m 64 (4 * (e0.toNat + k)) = (s.1.getD k (0, 0, 0, 0)).1 ∧ m 64 (4 * (e0.toNat + k) + 1) = (s.1.getD k (0, 0, 0, 0)).2.1 ∧ m 64 (4 * (e0.toNat + k) + 2) = (s.1.getD k (0, 0, 0, 0)).2.2.1 ∧ m 64 (4 * (e0.toNat + k) + 3) = (s.1.getD k (0, 0, 0, 0)).2.2.2
def frE (μ m : Mem_) : Prop := ∀ o k, ¬ (o = 50 ∧ (k = 15 ∨ k = 16 ∨ k = 24 ∨ k = 25)) → o ≠ 64 → m o k = μ o k
theorem frE.tm {tx : Nat → Int} {n : Nat} {t : Int} {μ m : Mem_} (h : frE μ m) (ht : TmC tx n t μ) : TmC tx n t m := ⟨ht.1, ht.2.1, by rw [h 55 _ (by omega) (by omega)]; exact ht.2.2.1, fun j hj => by rw [h 56 _ (by omega) (by omega)]; exact ht.2.2.2 j hj⟩
theorem frE.tr {a b c : Mem_} (h1 : frE a b) (h2 : frE b c) : frE a c := fun o k q1 q2 => by rw [h2 o k q1 q2]; exact h1 o k q1 q2
def iyPost (μ m : Mem_) (e0 : Int) (s : EvL × Int) (r : Nat × Option (EvL × Int)) : Prop := frE μ m ∧ m 50 15 = (r.1 : Int) ∧ EmC m e0 (r.2.getD s)
theorem opt_s {α : Type} {a : Nat × Option α} (h : a.2 ≠ none) : ∃ v, a = (a.1, some v) := by
  match a, h with
  | (j, some v), _ => exact ⟨v, rfl⟩
  | (j, none), h => exact absurd rfl h
theorem opt_n {α : Type} {a : Nat × Option α} (h : ¬ a.2 ≠ none) : a = (a.1, none) := by
  match a, h with
  | (j, some v), h => exact absurd (fun q => by cases q) h
  | (j, none), _ => rfl
section
variable {tx : Nat → Int} {n i : Nat} {nH nP e0 : Int} {s : EvL × Int}
abbrev nStop (tx : Nat → Int) (i : Nat) (e0 : Int) (s : EvL × Int) : Prop := ¬ (kdN (tx i) = 0 ∨ 40 ≤ e0 + s.1.length ∨ (mkK (kdN (tx i)) ∧ 24 ≤ s.2))
def bP (tx : Nat → Int) (n : Nat) (nH nP k : Int) (l : Nat) : Nat × Option Int := if k = 4 ∨ k = 5 then figP tx n nH l else numP tx n nP l
theorem iy_A (h : nStop tx i e0 s) {j : Nat} (e : evA tx n nH nP s.2 (kdN (tx i)) (i + 1) = (j, none)) : itY tx n nH nP e0 i s = (j, none) := by
  unfold itY
  rw [if_neg h]
  unfold evP
  rw [e]
  rfl
theorem iy_6 (h : nStop tx i e0 s) {j : Nat} {a : Int} (e : evA tx n nH nP s.2 (kdN (tx i)) (i + 1) = (j, some a)) (h6 : kdN (tx i) = 6) : itY tx n nH nP e0 i s = (j, some (s.1 ++ [(kdN (tx i), a, 0, chN (kdN (tx i)) (tx i))], s.2 + b2i (mkK (kdN (tx i))))) := by
  unfold itY
  rw [if_neg h]
  unfold evP
  rw [e]
  unfold evB
  simp only [h6, andP, if_true]
  simp
theorem iy_B (h : nStop tx i e0 s) {j l : Nat} {a : Int} (e : evA tx n nH nP s.2 (kdN (tx i)) (i + 1) = (j, some a)) (h6 : kdN (tx i) ≠ 6) (e2 : expP tx n (joN (kdN (tx i))) j = (l, none)) : itY tx n nH nP e0 i s = (l, none) := by
  unfold itY
  rw [if_neg h]
  unfold evP
  rw [e]
  unfold evB
  simp only [andP, if_neg h6, e2]
theorem iy_C (h : nStop tx i e0 s) {j l q : Nat} {a u : Int} (e : evA tx n nH nP s.2 (kdN (tx i)) (i + 1) = (j, some a)) (h6 : kdN (tx i) ≠ 6) (e2 : expP tx n (joN (kdN (tx i))) j = (l, some u)) (e3 : bP tx n nH nP (kdN (tx i)) l = (q, none)) : itY tx n nH nP e0 i s = (q, none) := by
  unfold itY
  rw [if_neg h]
  unfold evP
  rw [e]
  unfold bP at e3
  unfold evB
  simp only [andP, if_neg h6, e2, e3]
theorem iy_D (h : nStop tx i e0 s) {j l q : Nat} {a u b : Int} (e : evA tx n nH nP s.2 (kdN (tx i)) (i + 1) = (j, some a)) (h6 : kdN (tx i) ≠ 6) (e2 : expP tx n (joN (kdN (tx i))) j = (l, some u)) (e3 : bP tx n nH nP (kdN (tx i)) l = (q, some b)) : itY tx n nH nP e0 i s = if kdN (tx i) = 7 ∧ a = b then (q, none) else (q, some (s.1 ++ [(kdN (tx i), a, b, chN (kdN (tx i)) (tx i))], s.2 + b2i (mkK (kdN (tx i))))) := by
  unfold itY
  rw [if_neg h]
  unfold evP
  rw [e]
  unfold bP at e3
  unfold evB
  simp only [andP, if_neg h6, e2, e3]
  by_cases hq : kdN (tx i) = 7 ∧ a = b
  · rw [if_pos hq, if_pos hq]
  · rw [if_neg hq, if_neg hq]
theorem figP_n {B : Int} {i j : Nat} {v : Int} (h : figP tx n B i = (j, some v)) : j ≤ n := by
  unfold figP at h
  split at h
  · rename_i q; simp at h; have := q.1.1; omega
  · simp at h
theorem numP_n {B : Int} {i j : Nat} {v : Int} (h : numP tx n B i = (j, some v)) : j ≤ n := by
  unfold numP at h
  split at h
  · rename_i q
    split at h
    · rename_i q2
      split at h
      · simp at h; have := q2.1; omega
      · simp at h
    · split at h
      · simp at h; have := q.1; omega
      · simp at h
  · simp at h
end
section
variable {μ : Mem_} {Q : PV → Mem_ → Prop} {tx : Nat → Int} {n i : Nat} {t : Int} {e0 : Int} {s : EvL × Int}
/-- an event half read -/
def hlf (μ m : Mem_) (E : Nat) (mk k ch : Int) : Prop := frE μ m ∧ (m 50 24 = (E : Int) ∧ m 50 25 = mk) ∧ (∀ x : Nat, x < 4 * E → m 64 x = μ 64 x) ∧ m 64 (4 * E) = k ∧ m 64 (4 * E + 2) = 0 ∧ m 64 (4 * E + 3) = ch
theorem hlf.em {m : Mem_} {E : Nat} {mk k ch : Int} (h : hlf μ m E mk k ch) (hE : (E : Int) = e0 + s.1.length) (he : 0 ≤ e0) (hm : EmC μ e0 s) (hmk : mk = s.2) : EmC m e0 s := by
  refine ⟨⟨by rw [h.2.1.1, hE], by rw [h.2.1.2, hmk]⟩, fun k hk => ?_⟩
  rw [h.2.2.1 _ (by omega), h.2.2.1 _ (by omega), h.2.2.1 _ (by omega), h.2.2.1 _ (by omega)]
  exact hm.2 k hk
theorem hlf.fr {m m' : Mem_} {E : Nat} {mk k ch : Int} (h : hlf μ m E mk k ch) (f : frR m m') : hlf μ m' E mk k ch := ⟨h.1.tr (fun o k q1 q2 => f o k (by omega)), ⟨by rw [f 50 24 (by omega)]; exact h.2.1.1, by rw [f 50 25 (by omega)]; exact h.2.1.2⟩, fun x hx => by rw [f 64 x (by omega)]; exact h.2.2.1 x hx, by rw [f 64 _ (by omega)]; exact h.2.2.2.1, by rw [f 64 _ (by omega)]; exact h.2.2.2.2.1, by rw [f 64 _ (by omega)]; exact h.2.2.2.2.2⟩
theorem hlf.st {m : Mem_} {E : Nat} {mk k ch v : Int} (h : hlf μ m E mk k ch) : hlf μ (mset m 64 (4 * E + 1) v) E mk k ch := ⟨h.1.tr (fun o k q1 q2 => mset_off (by omega)), ⟨by rw [mset_off (by omega)]; exact h.2.1.1, by rw [mset_off (by omega)]; exact h.2.1.2⟩, fun x hx => by rw [mset_off (by omega)]; exact h.2.2.1 x hx, by rw [mset_off (by omega)]; exact h.2.2.2.1, by rw [mset_off (by omega)]; exact h.2.2.2.2.1, by rw [mset_off (by omega)]; exact h.2.2.2.2.2⟩
theorem EmC_add {m m' : Mem_} {k a b c : Int} {mk : Int} {E : Nat} (hE : (E : Int) = e0 + s.1.length) (he : 0 ≤ e0) (h : EmC m e0 s) (g1 : m' 50 24 = (E : Int) + 1) (g2 : m' 50 25 = mk) (g3 : ∀ x : Nat, x < 4 * E → m' 64 x = m 64 x) (g4 : m' 64 (4 * E) = k ∧ m' 64 (4 * E + 1) = a ∧ m' 64 (4 * E + 2) = b ∧ m' 64 (4 * E + 3) = c) : EmC m' e0 (s.1 ++ [(k, a, b, c)], mk) := by
  refine ⟨⟨by rw [g1, hE]; simp; omega, g2⟩, fun x hx => ?_⟩
  have hx : x < s.1.length + 1 := by simpa using hx
  show _ = ((s.1 ++ [(k, a, b, c)]).getD x (0, 0, 0, 0)).1 ∧ _ = ((s.1 ++ [(k, a, b, c)]).getD x (0, 0, 0, 0)).2.1 ∧ _ = ((s.1 ++ [(k, a, b, c)]).getD x (0, 0, 0, 0)).2.2.1 ∧ _ = ((s.1 ++ [(k, a, b, c)]).getD x (0, 0, 0, 0)).2.2.2
  rw [getD_app _ _ _ _ hx]
  by_cases e : x < s.1.length
  · rw [if_pos e, g3 _ (by omega), g3 _ (by omega), g3 _ (by omega), g3 _ (by omega)]
    exact h.2 x e
  · rw [if_neg e, show e0.toNat + x = E by omega]
    exact g4
end
