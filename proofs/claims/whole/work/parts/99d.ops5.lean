/-! each call, class and model: plans; what changes the log or the street -/
theorem cnt_sur : ∀ (k s j : Nat), j < cntB k s → ∃ x, x < k ∧ s.testBit x = true ∧ cntB x s = j := by
  intro k
  induction k with
  | zero => intro s j h; simp [cntB] at h
  | succ k ih =>
    intro s j h
    rw [cntB] at h
    by_cases hj : j < cntB k s
    · obtain ⟨x, x1, x2, x3⟩ := ih s j hj
      exact ⟨x, by omega, x2, x3⟩
    · by_cases hb : s.testBit k = true
      · rw [if_pos hb] at h
        exact ⟨k, by omega, hb, by omega⟩
      · rw [if_neg hb] at h; omega
theorem ct_sur {g : Nat → Nat} : ∀ (N k : Nat), k < ctS g N → ∃ h x, h < N ∧ x < 6 ∧ (g h).testBit x = true ∧ k = ctS g h + cntB x (g h) := by
  intro N
  induction N with
  | zero => intro k h; simp [ctS] at h
  | succ N ih =>
    intro k h
    rw [ctS] at h
    by_cases hk : k < ctS g N
    · obtain ⟨a, x, h1, h2, h3, h4⟩ := ih k hk
      exact ⟨a, x, by omega, h2, h3, h4⟩
    · obtain ⟨x, x1, x2, x3⟩ := cnt_sur 6 (g N) (k - ctS g N) (by omega)
      exact ⟨N, x, by omega, x1, x2, by omega⟩
theorem ct_cg {g g' : Nat → Nat} : ∀ N, (∀ j, j < N → g' j = g j) → ctS g' N = ctS g N := by
  intro N
  induction N with
  | zero => exact fun _ => rfl
  | succ N ih => intro h; rw [ctS, ctS, ih (fun j hj => h j (by omega)), h N (by omega)]
section
variable {n : Nat} {μ : Mem_}
theorem of_bit {x b : Nat} (hb : b < 6) : (ofN μ (stc μ) x).testBit b = true ↔ (tkI μ b).toNat.testBit x = true := by
  have h0 := orP_bit (n := 6) (P := fun h => (taN μ (stc μ) h).testBit x = true) (i := b)
  rw [Int.toNat_natCast]
  exact ⟨fun q => (h0.1 q).2, fun q => h0.2 ⟨hb, q⟩⟩
theorem op_safe {k mm r : Int} (h : CI n μ) (hn : n < 900) : V_ nX7_safe 0 [R_ 0, I_ k, I_ mm, I_ r, U_, U_, U_, U_] [] μ (fun x m => V_ nX8_safe 0 [R_ 50, I_ k, I_ mm, I_ r, U_, U_, U_] [] m (PR n x)) := by
  have hst := h.st
  have hs := h.w.1.2
  have hTb : ∀ b, b < 6 → 0 ≤ tkI μ b ∧ tkI μ b < 64 := fun b _ => by
    have := taN_lt (μ := μ) hs b
    show 0 ≤ (taN μ (stc μ) b : Int) ∧ (taN μ (stc μ) b : Int) < 64
    omega
  have hO : ∀ x b, x < 6 → b < 6 → ((ofN μ (stc μ) x).testBit b = true ↔ (tkI μ b).toNat.testBit x = true) := fun x b _ hb => of_bit hb
  have hO6 : ∀ x, x < 6 → ofN μ (stc μ) x < 64 := fun x _ => ofN_lt x
  refine c_X7_safe h.st hs h.w.P h.o1 (fun q => c_X8_safe h.w h.p (fun _ => ⟨rfl, CI_up h hn⟩) (fun a _ => absurd a q) (fun a _ => absurd a q)) (fun a hno m1 g1 => ?_) (fun a g hH hg m1 g1 g2 => ?_)
  · have hD : ∀ b, b < 6 → 0 ≤ neD μ (stc μ) (k + 1) b := fun b _ => (neD_b (μ := μ) (s := stc μ) (due := k + 1) (by omega) b).1
    have none := safe_none (D := neD μ (stc μ) (k + 1)) (T := tkI μ) (O := ofN μ (stc μ)) (r := fun _ => mm) (fun x _ => a.2.1.1) hD hTb hO hO6 (by
      rcases hno with q | ⟨g, b, q1, q2, q3, q4⟩
      · exact Or.inl q
      · exact Or.inr ⟨g, b, q1, q2, q3, fun s hs2 => q4 s (by have : (s : Int) ≤ (taN μ (stc μ) b : Int) := hs2; omega)⟩)
    have hmo : ∀ o i, 50 ≤ o → m1 o i = μ o i := fun o i q => g1 o i (by omega)
    refine c_X8_safe h.w (CP_mo hmo h.p) (fun q => absurd a q) (fun _ _ mz k1 => ⟨rfl, ?_⟩) (fun _ g q => absurd q (none g))
    have A : ∀ o i, ¬ (34 ≤ o ∧ o ≤ 40) → o ≠ 79 → o ≠ 80 → o ≠ 81 → mz o i = μ o i := fun o i q1 q2 q3 q4 => by rw [k1 o i q2 q3 q4]; exact g1 o i q1
    refine CI_gen h hn (fun o i q => A o i (by omega) (by omega) (by omega) (by omega)) (by rw [A 50 2 (by omega) (by omega) (by omega) (by omega), A 0 12 (by omega) (by omega) (by omega) (by omega)]; exact h.2.2.1.2.2.1) ?_
    exact rwF.cr (fun o i q => A o i (by omega) (by omega) (by omega) (by omega)) h.r
  · have some := safe_some (D := neD μ (stc μ) (k + 1)) (T := tkI μ) (O := ofN μ (stc μ)) (r := fun _ => mm) (fun x _ => a.2.1.1) hTb hO hO6 hg
    have hmo : ∀ o i, 50 ≤ o → m1 o i = μ o i := fun o i q => g1.1 o i (by omega) (by omega) (by omega)
    refine c_X8_safe h.w (CP_mo hmo h.p) (fun q => absurd a q) (fun _ q => absurd some.1 (q g)) (fun _ g' q1 q2 mz k1 k2 => ?_)
    have eg : ∀ j, j < 6 → g' j = g j := lex_u (some.2 g' q1) (q2 g some.1)
    have ec := ct_cg 6 eg
    rw [ec]
    refine ⟨rfl, ?_⟩
    obtain ⟨f1, f2, f3⟩ := k1
    obtain ⟨c1, c2⟩ := k2
    obtain ⟨b1, b2⟩ := g2
    have ir : (r * 40).toNat = 40 * r.toNat := by omega
    have jr : (40 * r).toNat = 40 * r.toNat := by omega
    have g13 := g1.2.2
    rw [ir] at b2 g13
    rw [jr] at c2 f3
    rw [ec] at c1
    have c3 : ∀ j, j < 6 → cntB 6 (g j) ≤ 3 := fun j hj => by
      have h5 := (some.1.1 j hj).2
      have h6 := (neD_b (μ := μ) (s := stc μ) (due := k + 1) (by omega) j).2
      have h7 := sb_le (some.1.1 j hj).1
      have h8 := hTb j hj
      rw [cnt_32 (by omega)] at h5
      omega
    have hct := ctS_le (g := g) (N := 6) c3 6 (Nat.le_refl _)
    have A : ∀ o i, o ≠ 2 → o ≠ 3 → ¬ (34 ≤ o ∧ o ≤ 40) → o ≠ 52 → o ≠ 53 → o ≠ 79 → o ≠ 80 → o ≠ 81 → mz o i = μ o i := fun o i z1 z2 z3 z4 z5 z6 z7 z8 => by rw [f1 o i z4 z5 z6 z7 z8]; exact g1.1 o i z1 z2 z3
    have A2 : ∀ i, mz 2 i = m1 2 i := fun i => f1 2 i (by omega) (by omega) (by omega) (by omega) (by omega)
    have A3 : ∀ i, mz 3 i = m1 3 i := fun i => f1 3 i (by omega) (by omega) (by omega) (by omega) (by omega)
    refine CI_gen h hn (fun o i q => A o i (by omega) (by omega) (by omega) (by omega) (by omega) (by omega) (by omega) (by omega)) (by rw [A 50 2 (by omega) (by omega) (by omega) (by omega) (by omega) (by omega) (by omega) (by omega), A 0 12 (by omega) (by omega) (by omega) (by omega) (by omega) (by omega) (by omega) (by omega)]; exact h.2.2.1.2.2.1) (CR_row (r := r.toNat) (by omega) (fun o i q => A o i (by omega) (by omega) (by omega) (by omega) (by omega) (by omega) (by omega) (by omega)) (fun i q => ⟨by rw [A2]; exact g1.2.1 i q, by rw [f2 i q]; exact hmo 52 i (by omega)⟩) (fun i q => ⟨by rw [A3]; exact g13 i (by omega), by rw [f3 i q]; exact hmo 53 i (by omega)⟩) ⟨by rw [A2, c1, b1], by rw [A2, b1]; omega⟩ (fun i hi => ?_) h.r)
    rw [A2, b1] at hi
    obtain ⟨hh, x, h1, h2, h3, h4⟩ := ct_sur (g := g) 6 (i / 2) (by omega)
    have e1 := b2 hh x h1 h2 h3
    have e2 := c2 hh x h1 h2 (by rw [eg hh h1]; exact h3)
    rw [ct_cg hh (fun j hj => eg j (by omega)), eg hh h1] at e2
    rw [← h4] at e1 e2
    rcases Nat.mod_two_eq_zero_or_one i with hp | hp
    · rw [show 40 * r.toNat + i = 40 * r.toNat + 2 * (i / 2) by omega, A3, e1.1, e2.1]
    · rw [show 40 * r.toNat + i = 40 * r.toNat + 2 * (i / 2) + 1 by omega, A3, e1.2, e2.2]
end
