/-! events read are events -/
theorem figP_v {tx : Nat → Int} {n : Nat} {B : Int} {i j : Nat} {v : Int} (h : figP tx n B i = (j, some v)) : 0 ≤ v ∧ v < B := by
  unfold figP at h
  split at h
  · simp at h; omega
  · simp at h
theorem numP_v {tx : Nat → Int} {n : Nat} {B : Int} {i j : Nat} {v : Int} (h : numP tx n B i = (j, some v)) : 0 ≤ v ∧ v < B := by
  unfold numP at h
  split at h
  · split at h <;> split at h <;> simp at h <;> omega
  · simp at h
theorem kdN_v (c : Int) : 0 ≤ kdN c ∧ kdN c ≤ 7 := by
  unfold kdN
  repeat' split
  all_goals omega
def mkN : EvL → Int
  | [] => 0
  | e :: l => b2i (mkK e.1) + mkN l
theorem mkN_app (a : EvL) (e : Int × Int × Int × Int) : mkN (a ++ [e]) = mkN a + b2i (mkK e.1) := by
  induction a with
  | nil => simp [mkN]
  | cons x a ih => rw [List.cons_append, mkN, mkN, ih]; omega
def evT (nH nP nK : Int) (e : Int × Int × Int × Int) : Prop := evOK nH nP nK e.1 e.2.1 e.2.2.1 e.2.2.2
def evsOK (nH nP keys : Int) (l : EvL) : Prop := ∀ e, e < l.length → evT nH nP (keys + mkN (l.take e)) (l.getD e (0, 0, 0, 0))
theorem evsOK_app {nH nP keys : Int} {l : EvL} {e : Int × Int × Int × Int} (h : evsOK nH nP keys l) (he : evT nH nP (keys + mkN l) e) : evsOK nH nP keys (l ++ [e]) := by
  intro k hk
  have hk : k < l.length + 1 := by simpa using hk
  rw [getD_app _ _ _ _ hk]
  by_cases q : k < l.length
  · rw [if_pos q, List.take_append_of_le_length (by omega)]
    exact h k q
  · rw [if_neg q, List.take_append_of_le_length (by omega), List.take_of_length_le (by omega)]
    exact he
theorem evP_ok {tx : Nat → Int} {n : Nat} {nH nP made k : Int} {i j : Nat} {ev : Int × Int × Int × Int} (h : evP tx n nH nP made k i = (j, some ev)) (h0 : k ≠ 0) (hk : 0 ≤ k ∧ k ≤ 7) (hm : mkK k → made < 24) : ev.1 = k ∧ evT nH nP made ev := by
  unfold evP at h
  obtain ⟨a, l1, h1, h2⟩ := andP_some h
  obtain ⟨b, l2, h3, h4⟩ := andP_some h2
  split at h4
  · simp at h4
  · rename_i q
    have e : ev = (k, a, b, chN k (tx i)) := by simp at h4; exact h4.2.symm
    subst e
    refine ⟨rfl, ?_⟩
    unfold evA at h1
    unfold evB at h3
    unfold evT evOK chN
    simp only
    have vb : (k = 4 ∨ k = 5 → 0 ≤ b ∧ b < nH) ∧ (k = 6 → b = 0) ∧ (¬ (k = 4 ∨ k = 5 ∨ k = 6) → 0 ≤ b ∧ b < nP) := by
      by_cases q6 : k = 6
      · rw [if_pos q6] at h3
        have : b = 0 := by simp at h3; exact h3.2.symm
        omega
      · rw [if_neg q6] at h3
        obtain ⟨u, l3, h5, h6⟩ := andP_some h3
        by_cases q45 : k = 4 ∨ k = 5
        · rw [if_pos q45] at h6
          have := figP_v h6
          omega
        · rw [if_neg q45] at h6
          have := numP_v h6
          omega
    have va : ((k = 1 ∨ k = 6) → 0 ≤ a ∧ a < nH) ∧ (k = 7 → 0 ≤ a ∧ a < nP) ∧ (¬ (k = 1 ∨ k = 6 ∨ k = 7) → 0 ≤ a ∧ a < made) := by
      by_cases q16 : k = 1 ∨ k = 6
      · rw [if_pos q16] at h1
        have := figP_v h1
        omega
      · rw [if_neg q16] at h1
        have := numP_v h1
        by_cases q7 : k = 7
        · rw [if_pos q7] at this
          omega
        · rw [if_neg q7] at this
          omega
    obtain ⟨va1, va2, va3⟩ := va
    obtain ⟨vb1, vb2, vb3⟩ := vb
    clear h h2 h3 h4 h1
    have k7 : k = 1 ∨ k = 2 ∨ k = 3 ∨ k = 4 ∨ k = 5 ∨ k = 6 ∨ k = 7 := by omega
    rcases k7 with rfl | rfl | rfl | rfl | rfl | rfl | rfl
    · exact Or.inl ⟨rfl, va1 (by decide), vb3 (by decide), hm (by decide), if_neg (by decide)⟩
    · exact Or.inr (Or.inl ⟨rfl, va3 (by decide), vb3 (by decide), hm (by decide), if_neg (by decide)⟩)
    · exact Or.inr (Or.inr (Or.inl ⟨rfl, va3 (by decide), vb3 (by decide), if_neg (by decide)⟩))
    · exact Or.inr (Or.inr (Or.inr (Or.inl ⟨rfl, va3 (by decide), vb1 (by decide), if_neg (by decide)⟩)))
    · exact Or.inr (Or.inr (Or.inr (Or.inr (Or.inl ⟨rfl, va3 (by decide), vb1 (by decide), if_neg (by decide)⟩))))
    · exact Or.inr (Or.inr (Or.inr (Or.inr (Or.inr (Or.inl ⟨rfl, va1 (by decide), vb2 (by decide), if_neg (by decide)⟩)))))
    · refine Or.inr (Or.inr (Or.inr (Or.inr (Or.inr (Or.inr ⟨rfl, va2 (by decide), vb3 (by decide), fun z => q ⟨rfl, z⟩, ?_⟩)))))
      rw [if_pos rfl]
      split
      · exact Or.inl rfl
      · exact Or.inr rfl
theorem gP_inv {σ : Type} {tx : Nat → Int} {n : Nat} {item : Nat → σ → Nat × Option σ} {P : σ → Prop} (hu : ∀ i s j s', P s → item i s = (j, some s') → P s') : ∀ (f i : Nat) (s : σ), P s → P (gP tx n item f i s).2 := by
  intro f
  induction f with
  | zero => exact fun i s h => h
  | succ f ih =>
    intro i s h
    rw [gP]
    split
    · exact h
    · split
      · exact ih _ _ h
      · match e : item i s with
        | (j, none) => exact h
        | (j, some s') => exact ih _ _ (hu i s j s' h e)
def IY (nH nP e0 keys : Int) (s : EvL × Int) : Prop := s.2 = keys + mkN s.1 ∧ (0 ≤ s.2 ∧ s.2 ≤ 24) ∧ e0 + s.1.length ≤ 40 ∧ evsOK nH nP keys s.1
theorem itY_ok {tx : Nat → Int} {n : Nat} {nH nP e0 keys : Int} : ∀ i s j s', IY nH nP e0 keys s → itY tx n nH nP e0 i s = (j, some s') → IY nH nP e0 keys s' := by
  intro i s j s' hI h
  obtain ⟨i1, i2, i3, i4⟩ := hI
  unfold itY at h
  split at h
  · simp at h
  · rename_i q
    obtain ⟨ev, l, h1, h2⟩ := andP_some h
    have e : s' = (s.1 ++ [ev], s.2 + b2i (mkK (kdN (tx i)))) := by simp at h2; exact h2.2.symm
    subst e
    have hk := kdN_v (tx i)
    obtain ⟨p1, p2⟩ := evP_ok h1 (fun z => q (Or.inl z)) hk (fun z => by
      by_cases y : 24 ≤ s.2
      · exact absurd (Or.inr (Or.inr ⟨z, y⟩)) q
      · omega)
    have b01 := b2i_01 (mkK (kdN (tx i)))
    have lim : s.2 + b2i (mkK (kdN (tx i))) ≤ 24 := by
      by_cases z : mkK (kdN (tx i))
      · rw [b2i_t z]
        by_cases y : 24 ≤ s.2
        · exact absurd (Or.inr (Or.inr ⟨z, y⟩)) q
        · omega
      · rw [b2i_f z]; omega
    have lim2 : ¬ (40 ≤ e0 + (s.1.length : Int)) := fun z => q (Or.inr (Or.inl z))
    refine ⟨?_, ⟨?_, lim⟩, ?_, ?_⟩
    · show s.2 + _ = keys + mkN (s.1 ++ [ev])
      rw [mkN_app, p1]; omega
    · show 0 ≤ s.2 + _
      omega
    · show e0 + ((s.1 ++ [ev]).length : Int) ≤ 40
      simp
      omega
    · exact evsOK_app i4 (by rw [← i1]; exact p2)
theorem yrP_ok {μ : Mem_} {r : Int} (h17 : 0 ≤ μ 17 0 ∧ μ 17 0 ≤ 24) (h7 : 0 ≤ μ 7 0 ∧ μ 7 0 ≤ 40) : IY (μ (stc μ) 0) (μ (stc μ) 1) (μ 7 0) (μ 17 0) (yrP μ r).2 := by
  refine gP_inv (P := IY (μ (stc μ) 0) (μ (stc μ) 1) (μ 7 0) (μ 17 0)) itY_ok _ _ _ ?_
  refine ⟨?_, h17, ?_, fun e he => absurd he (by simp)⟩
  · show μ 17 0 = μ 17 0 + 0
    omega
  · show μ 7 0 + (([] : EvL).length : Int) ≤ 40
    simp
    omega
