/-! each call, class and model: a street, a year -/
theorem adR_at {m : Mem_} (h0 : 0 ≤ m 7 0) : ∀ (L k : Nat), k < L → adR L m 8 ((m 7 0).toNat + k) = m 13 k ∧ adR L m 9 ((m 7 0).toNat + k) = m 14 k ∧ adR L m 10 ((m 7 0).toNat + k) = m 15 k ∧ adR L m 11 ((m 7 0).toNat + k) = m 16 k := by
  intro L
  induction L with
  | zero => intro k hk; omega
  | succ L ih =>
    intro k hk
    have z : (adR L m 7 0).toNat = (m 7 0).toNat + L := by rw [adR_sz]; omega
    rw [adR]
    by_cases e : k = L
    · subst e
      have := addC_7_new (μ := adR k m) (k := m 13 k) (a := m 14 k) (b := m 15 k) (c := m 16 k)
      rw [z] at this
      exact this
    · rw [addC_7_old (by omega) (by omega), addC_7_old (by omega) (by omega), addC_7_old (by omega) (by omega), addC_7_old (by omega) (by omega)]
      exact ih k (by omega)
section
variable {n : Nat} {μ : Mem_}
theorem CX_of {m : Mem_} (h : CI n μ) (hn : n < 900) (h1 : isSt (dtc m) ∧ stc m ≠ dtc m ∧ 0 ≤ m 12 0) (h2 : m 28 3 = μ 28 3) (h3 : ∀ i, m 31 i = μ 31 i) : CX (n + 1) m := by
  have hx := (CI_up h hn).2.2.2
  refine ⟨h1, by rw [h2]; exact hx.2.1, fun pl hp => by rw [h2, h3]; exact hx.2.2 pl hp⟩
theorem op_street {r : Int} (h : CI n μ) (hn : n < 900) : V_ nX7_street 0 [R_ 0, I_ r, U_, U_] [] μ (fun x m => V_ nX8_street 0 [R_ 50, I_ r, U_] [] m (PR n x)) := by
  have hst := h.st
  have hdt := h.2.2.2.1.1
  have hne := h.2.2.2.1.2.1
  have h12 := h.2.2.2.1.2.2
  have h9 : ((stc μ : Nat) : Int).toNat = stc μ := by omega
  refine c_X7_street h.fc h.o4 h.by h.st hdt hne h.w.2.2.1.1.1 (fun q => c_X8_street h.p h.r h.fm (fun _ => ⟨rfl, CI_up h hn⟩) (fun a _ => absurd a q) (fun a _ _ => absurd a q) μ hst (fun a _ _ => absurd a q) (fun a _ _ => absurd a q)) (fun a b => ?_) (fun a b c m1 g1 => ?_) (fun a b c m1 m2 g1 gD g2 g3 => ?_)
  · rw [sz4_lt a] at b
    exact c_X8_street (CP_fd h) (CR_mo (fun o i q => fd_mo (by omega)) h.r) (fm_fd h) (fun q => absurd a q) (fun _ _ => ⟨rfl, CI_find h hn (by decide)⟩) (fun _ c => absurd c b) μ hst (fun _ c => absurd c b) (fun _ c => absurd c b)
  · rw [sz4_lt a] at b
    have hmo : ∀ o i, 50 ≤ o → m1 o i = μ o i := fun o i q => g1 o i (by omega) (by omega) (by omega)
    refine c_X8_street (CP_mo hmo h.p) (CR_mo hmo h.r) (fun f hf => by rw [hmo 51 f (by omega)]; exact h.fm f hf) (fun q => absurd a q) (fun _ d => absurd b (by omega)) (fun _ _ _ mz k1 k2 => ⟨rfl, ?_⟩) μ hst (fun _ _ d => absurd d c) (fun _ _ d => absurd d c)
    have K : ∀ o i, o < 50 → mz o i = m1 o i := fun o i q => k1 o i (by omega) (by omega)
    have A : ∀ o i, o < 50 → o ≠ 26 → o ≠ 27 → ¬ (dtc μ ≤ o ∧ o ≤ dtc μ + 3) → mz o i = μ o i := fun o i q1 q2 q3 q4 => by rw [K o i q1]; exact g1 o i q2 q3 q4
    have M : ∀ o i, 50 ≤ o → ¬ (o = 50 ∧ (i = 10 ∨ i = 11 ∨ (15 ≤ i ∧ i ≤ 18) ∨ i = 22 ∨ i = 24 ∨ i = 25 ∨ i = 27 ∨ i = 39)) → ¬ (57 ≤ o ∧ o ≤ 75) → mz o i = μ o i := fun o i q1 q2 q3 => by rw [k1 o i q2 q3]; exact hmo o i q1
    have hcl : clF μ mz := fun o i q => A o i (by omega) (by omega) (by omega) (by omega)
    have rw_ : rwF μ mz := fun o i q => by
      by_cases q9 : o < 50
      · exact A o i q9 (by omega) (by omega) (by omega)
      · exact M o i (by omega) (by omega) (by omega)
    have e9 : mz 0 9 = μ 0 9 := A 0 9 (by omega) (by omega) (by omega) (by omega)
    have e10 : mz 0 10 = μ 0 10 := A 0 10 (by omega) (by omega) (by omega) (by omega)
    refine ⟨by omega, ⟨hcl.cw h.w, hcl.cp h.st k2, rw_.cr h.r⟩, CF_keep h hn (fun o i q => by
      by_cases q9 : o < 50
      · exact A o i q9 (by omega) (by omega) (by omega)
      · exact M o i (by omega) (by omega) (by omega)), CX_of h hn (by unfold stc dtc; rw [e9, e10, A 12 0 (by omega) (by omega) (by omega) (by omega)]; exact h.2.2.2.1) (A 28 3 (by omega) (by omega) (by omega) (by omega)) (fun i => A 31 i (by omega) (by omega) (by omega) (by omega))⟩
  · rw [sz4_lt a] at b
    have d9 : stN (stc μ) (dtc μ) m1 0 9 = (dtc μ : Int) := by unfold stN; rw [mset_off (by omega), mset_off (by omega), mset_same]
    have d10 : stN (stc μ) (dtc μ) m1 0 10 = (stc μ : Int) := by unfold stN; rw [mset_off (by omega), mset_same]
    have d7 : stN (stc μ) (dtc μ) m1 7 0 = 0 := mset_same _ _ _ _
    have doff : ∀ o i, ¬ (o = 0 ∧ (i = 9 ∨ i = 10)) → ¬ (o = 7 ∧ i = 0) → stN (stc μ) (dtc μ) m1 o i = m1 o i := fun o i q1 q2 => by unfold stN; rw [mset_off (by omega), mset_off (by omega), mset_off (by omega)]
    generalize hw0 : stN (stc μ) (dtc μ) m1 = w0 at *
    have es : stc w0 = dtc μ := by unfold stc; rw [d9]; exact Int.toNat_natCast _
    have erp : rpW w0 = rsC w0 := by unfold rpW; rw [d7]; rfl
    have g2' : ∀ o, o ≠ 25 → ∀ i, m2 o i = rpW w0 o i := fun o q i => by rw [erp]; exact g2 o q i
    have hof : ∀ o i, ¬ (o = 0 ∧ (i = 9 ∨ i = 10)) → ¬ (o = 7 ∧ i = 0) → (o < 17 ∨ 25 < o) → o ≠ 26 → o ≠ 27 → ¬ (dtc μ ≤ o ∧ o ≤ dtc μ + 3) → m2 o i = μ o i := fun o i q1 q2 q3 q4 q5 q6 => by rw [g2' o (by omega) i, rpW_off (by omega), doff o i q1 q2]; exact g1 o i q4 q5 q6
    have hmo : ∀ o i, 50 ≤ o → m2 o i = μ o i := fun o i q => hof o i (by omega) (by omega) (by omega) (by omega) (by omega) (by omega)
    have hD : DrC w0 (stc w0) (stP μ r).2 := by
      rw [es]
      obtain ⟨⟨a1, a2⟩, ⟨b1, b2⟩, c1, e1⟩ := gD
      refine ⟨⟨by rw [doff _ _ (by omega) (by omega)]; exact a1, a2⟩, ⟨by rw [doff _ _ (by omega) (by omega)]; exact b1, b2⟩, fun g hg => by rw [doff _ _ (by omega) (by omega)]; exact c1 g hg, fun p hp => by rw [doff _ _ (by omega) (by omega), doff _ _ (by omega) (by omega)]; exact e1 p hp⟩
    have hsw : isSt (stc w0) := by rw [es]; exact hdt
    refine c_X8_street (CP_mo hmo h.p) (CR_mo hmo h.r) (fun f hf => by rw [hmo 51 f (by omega)]; exact h.fm f hf) (fun q => absurd a q) (fun _ d => absurd b (by omega)) (fun _ _ d => absurd c d) w0 hsw (fun _ _ _ => ⟨hD, d7⟩) (fun _ _ _ mz k1 k2 => ⟨rfl, ?_⟩)
    have K : ∀ o i, o < 50 → mz o i = m2 o i := fun o i q => k1 o i (by omega) (by omega)
    have A : ∀ o i, o < 50 → ¬ (o = 0 ∧ (i = 9 ∨ i = 10)) → ¬ (o = 7 ∧ i = 0) → (o < 17 ∨ 25 < o) → o ≠ 26 → o ≠ 27 → ¬ (dtc μ ≤ o ∧ o ≤ dtc μ + 3) → mz o i = μ o i := fun o i q0 q1 q2 q3 q4 q5 q6 => by rw [K o i q0]; exact hof o i q1 q2 q3 q4 q5 q6
    have M : ∀ o i, 50 ≤ o → ¬ (o = 50 ∧ (i = 10 ∨ i = 11 ∨ (15 ≤ i ∧ i ≤ 18) ∨ i = 22 ∨ i = 24 ∨ i = 25 ∨ i = 27 ∨ i = 39)) → ¬ (57 ≤ o ∧ o ≤ 75) → mz o i = μ o i := fun o i q1 q2 q3 => by rw [k1 o i q2 q3]; exact hmo o i q1
    have rw_ : rwF μ mz := fun o i q => by
      by_cases q9 : o < 50
      · exact A o i q9 (by omega) (by omega) (by omega) (by omega) (by omega) (by omega)
      · exact M o i (by omega) (by omega) (by omega)
    have z9 : mz 0 9 = (dtc μ : Int) := by rw [K 0 9 (by omega), g2' 0 (by omega) 9, rpW_off (by omega)]; exact d9
    have z10 : mz 0 10 = (stc μ : Int) := by rw [K 0 10 (by omega), g2' 0 (by omega) 10, rpW_off (by omega)]; exact d10
    have zs : stc mz = dtc μ := by
      show (mz 0 9).toNat = _
      rw [z9]; exact Int.toNat_natCast _
    have zd : dtc mz = stc μ := by
      show (mz 0 10).toNat = _
      rw [z10]; exact Int.toNat_natCast _
    refine CI_new (w0 := w0) hn hsw (DrC_St hD stP_ok) ⟨by rw [d7]; omega, fun e he => by rw [d7] at he; omega⟩ g2' g3 K k2 (rw_.cr h.r) (CF_keep h hn (fun o i q => by
      by_cases q9 : o < 50
      · exact A o i q9 (by omega) (by omega) (by omega) (by omega) (by omega) (by omega)
      · exact M o i (by omega) (by omega) (by omega))) (CX_of h hn ⟨by rw [zd]; exact hst, by rw [zs, zd]; exact fun q => hne q.symm, by rw [A 12 0 (by omega) (by omega) (by omega) (by omega) (by omega) (by omega) (by omega)]; exact h12⟩ (A 28 3 (by omega) (by omega) (by omega) (by omega) (by omega) (by omega) (by omega)) (fun i => A 31 i (by omega) (by omega) (by omega) (by omega) (by omega) (by omega) (by omega)))
theorem op_year {r : Int} (h : CI n μ) (hn : n < 900) : V_ nX7_year 0 [R_ 0, I_ r, U_] [] μ (fun x m => V_ nX8_year 0 [R_ 50, I_ r, U_, U_] [] m (PR n x)) := by
  have hst := h.st
  have hdt := h.2.2.2.1.1
  have hne := h.2.2.2.1.2.1
  have h12 := h.2.2.2.1.2.2
  refine c_X7_year h.fc h.o4 h.by h.st h.w.1.2 h.w.2.2.1 h.w.2.2.2.2 h.w.P.1 h12 (fun q => c_X8_year h.w h.p h.r h.fm (fun _ => ⟨rfl, CI_up h hn⟩) (fun a _ => absurd a q) (fun a _ _ => absurd a q) μ (fun a _ _ => absurd a q) (fun a _ _ => absurd a q)) (fun a b => ?_) (fun a b c m1 g1 gL => ?_) (fun a b c m1 m2 g1 gL gV g2 g3 => ?_)
  · rw [sz4_lt a] at b
    exact c_X8_year h.w (CP_fd h) (CR_mo (fun o i q => fd_mo (by omega)) h.r) (fm_fd h) (fun q => absurd a q) (fun _ _ => ⟨rfl, CI_find h hn (by decide)⟩) (fun _ c => absurd c b) μ (fun _ c => absurd c b) (fun _ c => absurd c b)
  · rw [sz4_lt a] at b
    have hmo : ∀ o i, 50 ≤ o → m1 o i = μ o i := fun o i q => g1 o i (by omega) (by omega) (by omega)
    refine c_X8_year h.w (CP_mo hmo h.p) (CR_mo hmo h.r) (fun f hf => by rw [hmo 51 f (by omega)]; exact h.fm f hf) (fun q => absurd a q) (fun _ d => absurd b (by omega)) (fun _ _ _ mz k1 k2 => ⟨rfl, ?_⟩) μ (fun _ _ d => absurd d c) (fun _ _ d => absurd d c)
    have K : ∀ o i, o < 50 → mz o i = m1 o i := fun o i q => k1 o i (by omega) (by omega)
    have A : ∀ o i, o < 50 → o ≠ 26 → o ≠ 27 → ¬ (12 ≤ o ∧ o ≤ 16) → mz o i = μ o i := fun o i q1 q2 q3 q4 => by rw [K o i q1]; exact g1 o i q2 q3 q4
    have M : ∀ o i, 50 ≤ o → ¬ (o = 50 ∧ (i = 10 ∨ i = 11 ∨ (15 ≤ i ∧ i ≤ 18) ∨ i = 22 ∨ i = 24 ∨ i = 25 ∨ i = 27 ∨ i = 39)) → ¬ (57 ≤ o ∧ o ≤ 75) → mz o i = μ o i := fun o i q1 q2 q3 => by rw [k1 o i q2 q3]; exact hmo o i q1
    have hcl : clF μ mz := fun o i q => A o i (by omega) (by omega) (by omega) (by omega)
    have rw_ : rwF μ mz := fun o i q => by
      by_cases q9 : o < 50
      · exact A o i q9 (by omega) (by omega) (by omega)
      · exact M o i (by omega) (by omega) (by omega)
    have e9 : mz 0 9 = μ 0 9 := A 0 9 (by omega) (by omega) (by omega) (by omega)
    have e10 : mz 0 10 = μ 0 10 := A 0 10 (by omega) (by omega) (by omega) (by omega)
    refine ⟨by omega, ⟨hcl.cw h.w, hcl.cp h.st k2, rw_.cr h.r⟩, CF_keep h hn (fun o i q => by
      by_cases q9 : o < 50
      · exact A o i q9 (by omega) (by omega) (by omega)
      · exact M o i (by omega) (by omega) (by omega)), CX_of h hn (by unfold stc dtc; rw [e9, e10, K 12 0 (by omega), gL.1.1]; exact ⟨hdt, hne, by omega⟩) (A 28 3 (by omega) (by omega) (by omega) (by omega)) (fun i => A 31 i (by omega) (by omega) (by omega) (by omega))⟩
  · rw [sz4_lt a] at b
    have m7 : m1 7 0 = μ 7 0 := g1 7 0 (by omega) (by omega) (by omega)
    have l7 := h.w.2.2.1.1
    generalize hl : (yrP μ r).2.1 = l at *
    have d7 : adR l.length m1 7 0 = μ 7 0 + l.length := by rw [adR_sz, m7]
    have doff : ∀ o i, ¬ (7 ≤ o ∧ o ≤ 11) → adR l.length m1 o i = m1 o i := fun o i q => adR_off (by omega)
    have dat := adR_at (m := m1) (by omega) l.length
    have dold : ∀ o i : Nat, o = 8 ∨ o = 9 ∨ o = 10 ∨ o = 11 → (i : Int) < μ 7 0 → adR l.length m1 o i = μ o i := fun o i q1 q2 => by rw [adR_old (by omega) q1 (by omega)]; exact g1 o i (by omega) (by omega) (by omega)
    generalize hw0 : adR l.length m1 = w0 at *
    have es : stc w0 = stc μ := by
      show (w0 0 9).toNat = _
      rw [doff 0 9 (by omega), g1 0 9 (by omega) (by omega) (by omega)]
    have g2' : ∀ o, o ≠ 25 → ∀ i, m2 o i = rpW w0 o i := fun o q i => by rw [g2 o q i]; unfold rpW; rw [d7, show (μ 7 0 + (l.length : Int)).toNat = (μ 7 0).toNat + l.length by omega]
    have hof : ∀ o i, ¬ (7 ≤ o ∧ o ≤ 16) → (o < 17 ∨ 25 < o) → o ≠ 26 → o ≠ 27 → m2 o i = μ o i := fun o i q2 q3 q4 q5 => by rw [g2' o (by omega) i, rpW_off (by omega), doff o i (by omega)]; exact g1 o i q4 q5 (by omega)
    have hmo : ∀ o i, 50 ≤ o → m2 o i = μ o i := fun o i q => hof o i (by omega) (by omega) (by omega) (by omega)
    have hWY : WYr μ w0 l := by
      refine ⟨fun o i q => by rw [doff o i (by omega)]; exact g1 o i (by omega) (by omega) (by omega), d7, fun e he => ⟨dold 8 e (by omega) he, dold 9 e (by omega) he, dold 10 e (by omega) he, dold 11 e (by omega) he⟩, fun k hk => ?_, gV⟩
      have h5 := dat k hk
      have h6 := gL.2 k hk
      rw [m7] at h5
      rw [h5.1, h5.2.1, h5.2.2.1, h5.2.2.2]
      exact h6
    have hS : ∀ o i, (42 ≤ o ∧ o ≤ 49) → w0 o i = μ o i := fun o i q => hWY.1 o i (by omega)
    refine c_X8_year h.w (CP_mo hmo h.p) (CR_mo hmo h.r) (fun f hf => by rw [hmo 51 f (by omega)]; exact h.fm f hf) (fun q => absurd a q) (fun _ d => absurd b (by omega)) (fun _ _ d => absurd c d) w0 (fun _ _ _ => by rw [hl]; exact hWY) (fun _ _ _ mz k1 k2 => ?_)
    rw [hl]
    refine ⟨rfl, ?_⟩
    have K : ∀ o i, o < 50 → mz o i = m2 o i := fun o i q => k1 o i (by omega) (by omega)
    have A : ∀ o i, o < 50 → ¬ (7 ≤ o ∧ o ≤ 16) → (o < 17 ∨ 25 < o) → o ≠ 26 → o ≠ 27 → mz o i = μ o i := fun o i q0 q1 q2 q3 q4 => by rw [K o i q0]; exact hof o i q1 q2 q3 q4
    have M : ∀ o i, 50 ≤ o → ¬ (o = 50 ∧ (i = 10 ∨ i = 11 ∨ (15 ≤ i ∧ i ≤ 18) ∨ i = 22 ∨ i = 24 ∨ i = 25 ∨ i = 27 ∨ i = 39)) → ¬ (57 ≤ o ∧ o ≤ 75) → mz o i = μ o i := fun o i q1 q2 q3 => by rw [k1 o i q2 q3]; exact hmo o i q1
    have rw_ : rwF μ mz := fun o i q => by
      by_cases q9 : o < 50
      · exact A o i q9 (by omega) (by omega) (by omega) (by omega)
      · exact M o i (by omega) (by omega) (by omega)
    have e9 : mz 0 9 = μ 0 9 := A 0 9 (by omega) (by omega) (by omega) (by omega) (by omega)
    have e10 : mz 0 10 = μ 0 10 := A 0 10 (by omega) (by omega) (by omega) (by omega) (by omega)
    have e12 : mz 12 0 = l.length := by rw [K 12 0 (by omega), g2' 12 (by omega) 0, rpW_off (by omega), doff 12 0 (by omega)]; exact gL.1.1
    refine CI_new (w0 := w0) hn (by rw [es]; exact hst) ?_ ?_ g2' g3 K k2 (rw_.cr h.r) (CF_keep h hn (fun o i q => by
      by_cases q9 : o < 50
      · exact A o i q9 (by omega) (by omega) (by omega) (by omega)
      · exact M o i (by omega) (by omega) (by omega))) (CX_of h hn (by unfold stc dtc; rw [e9, e10, e12]; exact ⟨hdt, hne, by omega⟩) (A 28 3 (by omega) (by omega) (by omega) (by omega) (by omega)) (fun i => A 31 i (by omega) (by omega) (by omega) (by omega) (by omega)))
    · rw [es]
      unfold StC
      simp only [fun i => hS (stc μ) i (by omega), fun i => hS (stc μ + 1) i (by omega), fun i => hS (stc μ + 2) i (by omega), fun i => hS (stc μ + 3) i (by omega)]
      exact h.w.1.2
    · rw [es, hS (stc μ) 0 (by omega), hS (stc μ) 1 (by omega)]
      exact gV
end
