/-! each call, class and model: faults, odds, ways, lost rings, plans -/
section
variable {n : Nat} {μ m : Mem_}
theorem CI_keep (h : CI n μ) (hn : n < 900) (hcl : clF μ m) (hmo : moF μ m) (hrw : rwF μ m) (hx : CX (n + 1) m) (hcf : ∀ o i, (o = 0 ∧ 11 ≤ i ∧ i ≤ 14) ∨ o = 41 ∨ (o = 50 ∧ (i = 0 ∨ i = 2 ∨ i = 3 ∨ i = 4)) ∨ o = 51 → m o i = μ o i) : CI (n + 1) m := by
  have hF := (CI_up h hn).2.2.1
  refine ⟨by omega, ⟨hcl.cw h.w, hcl.cp h.st (hmo.cp h.p), hrw.cr h.r⟩, ⟨?_, fun f hf => ?_, ?_, ?_, ?_⟩, hx⟩
  · rw [hcf 50 0 (by omega), hcf 0 11 (by omega)]; exact hF.1
  · rw [hcf 51 f (by omega), hcf 41 f (by omega)]; exact hF.2.1 f hf
  · rw [hcf 50 2 (by omega), hcf 0 12 (by omega)]; exact hF.2.2.1
  · rw [hcf 50 3 (by omega), hcf 0 13 (by omega)]; exact hF.2.2.2.1
  · rw [hcf 50 4 (by omega), hcf 0 14 (by omega)]; exact hF.2.2.2.2
theorem CR_mo (hf : ∀ o i, 50 ≤ o → m o i = μ o i) (hr : CR μ μ) : CR m μ := ⟨fun r hh => by rw [hf 52 r (by omega)]; exact ⟨(hr.1 r hh).1, (hr.1 r hh).2.1, fun i hi => by rw [hf 53 _ (by omega)]; exact (hr.1 r hh).2.2 i hi⟩, fun t ht => by rw [hf 55 t (by omega)]; exact ⟨(hr.2.1 t ht).1, (hr.2.1 t ht).2.1, fun i hi => by rw [hf 56 _ (by omega)]; exact (hr.2.1 t ht).2.2 i hi⟩, fun j => by rw [hf 56 j (by omega)]; exact hr.2.2 j⟩
theorem CP_mo (hf : ∀ o i, 50 ≤ o → m o i = μ o i) (hc : CP μ μ) : CP m μ := CP_fr hc (fun k _ => hf 50 k (by omega)) (fun o k q => hf o k (by omega))
theorem op_fault {r wy : Int} (h : CI n μ) (hn : n < 900) : V_ nX7_fault 0 [R_ 0, I_ r, I_ wy, U_] [] μ (fun x m => V_ nX8_fault 0 [R_ 50, I_ r, I_ wy] [] m (PR n x)) := by
  have hst := h.st
  have hdt := h.2.2.2.1.1
  have hne := h.2.2.2.1.2.1
  have h12 := h.2.2.2.1.2.2
  have fin : ∀ m1 mz : Mem_, (∀ o i, o ≠ 26 → o ≠ 27 → ¬ (dtc μ ≤ o ∧ o ≤ dtc μ + 3) → ¬ (12 ≤ o ∧ o ≤ 16) → m1 o i = μ o i) → 0 ≤ m1 12 0 → (∀ o k, ¬ (o = 50 ∧ ((15 ≤ k ∧ k ≤ 18) ∨ k = 24 ∨ k = 25)) → ¬ (60 ≤ o ∧ o ≤ 62) → o ≠ 64 → mz o k = m1 o k) → CI (n + 1) mz := by
    intro m1 mz g1 g2 g3
    have A : ∀ o i, o ≠ 26 → o ≠ 27 → ¬ (dtc μ ≤ o ∧ o ≤ dtc μ + 3) → ¬ (12 ≤ o ∧ o ≤ 16) → ¬ (o = 50 ∧ ((15 ≤ i ∧ i ≤ 18) ∨ i = 24 ∨ i = 25)) → ¬ (60 ≤ o ∧ o ≤ 62) → o ≠ 64 → mz o i = μ o i := fun o i q1 q2 q3 q4 q5 q6 q7 => by rw [g3 o i q5 q6 q7]; exact g1 o i q1 q2 q3 q4
    refine CI_keep h hn (fun o i q => A o i (by omega) (by omega) (by omega) (by omega) (by omega) (by omega) (by omega)) ⟨fun k q => A 50 k (by omega) (by omega) (by omega) (by omega) (by omega) (by omega) (by omega), fun o k q => A o k (by omega) (by omega) (by omega) (by omega) (by omega) (by omega) (by omega)⟩ (fun o i q => A o i (by omega) (by omega) (by omega) (by omega) (by omega) (by omega) (by omega)) ?_ (fun o i q => A o i (by omega) (by omega) (by omega) (by omega) (by omega) (by omega) (by omega))
    have hx := (CI_up h hn).2.2.2
    have e9 : mz 0 9 = μ 0 9 := A 0 9 (by omega) (by omega) (by omega) (by omega) (by omega) (by omega) (by omega)
    have e10 : mz 0 10 = μ 0 10 := A 0 10 (by omega) (by omega) (by omega) (by omega) (by omega) (by omega) (by omega)
    have e28 : mz 28 3 = μ 28 3 := A 28 3 (by omega) (by omega) (by omega) (by omega) (by omega) (by omega) (by omega)
    unfold CX stc dtc
    rw [e9, e10, e28]
    refine ⟨⟨hx.1.1, hx.1.2.1, by rw [g3 12 0 (by omega) (by omega) (by omega)]; exact g2⟩, hx.2.1, fun pl hp => by rw [A 31 pl (by omega) (by omega) (by omega) (by omega) (by omega) (by omega) (by omega)]; exact hx.2.2 pl hp⟩
  refine c_X7_fault h.fc h.o4 h.by h.st hdt h.w.P.1 h.w.2.2.1.1 h12 (fun q => c_X8_fault h.w h.p h.r h.fm (fun _ => ⟨rfl, CI_up h hn⟩) (fun a _ => absurd a q) (fun a _ _ => absurd a q) (fun a _ _ => absurd a q)) (fun a b => ?_) (fun a b c m1 g1 g2 => ?_) (fun a b c m1 g1 g2 => ?_)
  · rw [sz4_lt a] at b
    exact c_X8_fault h.w (CP_fd h) (CR_mo (fun o i q => fd_mo (by omega)) h.r) (fm_fd h) (fun q => absurd a q) (fun _ _ => ⟨rfl, CI_find h hn (by decide)⟩) (fun _ c => absurd c b) (fun _ c => absurd c b)
  · rw [sz4_lt a] at b
    have hmo : ∀ o i, 50 ≤ o → m1 o i = μ o i := fun o i q => g1 o i (by omega) (by omega) (by omega)
    refine c_X8_fault h.w (CP_mo hmo h.p) (CR_mo hmo h.r) (fun f hf => by rw [hmo 51 f (by omega)]; exact h.fm f hf) (fun q => absurd a q) (fun _ d => absurd b (by omega)) (fun _ _ _ mz k1 => ⟨rfl, ?_⟩) (fun _ _ d => absurd c d)
    exact fin m1 mz (fun o i q1 q2 q3 q4 => g1 o i q1 q2 q3) (by rw [g1 12 0 (by omega) (by omega) (by omega)]; exact h12) (fun o k q1 q2 q3 => k1 o k (by omega) (by omega))
  · rw [sz4_lt a] at b
    have hmo : ∀ o i, 50 ≤ o → m1 o i = μ o i := fun o i q => g1 o i (by omega) (by omega) (by omega)
    refine c_X8_fault h.w (CP_mo hmo h.p) (CR_mo hmo h.r) (fun f hf => by rw [hmo 51 f (by omega)]; exact h.fm f hf) (fun q => absurd a q) (fun _ d => absurd b (by omega)) (fun _ _ d => absurd d c) (fun _ _ _ mz k1 => ⟨rfl, ?_⟩)
    exact fin m1 mz (fun o i q1 q2 q3 q4 => g1 o i q1 q2 q4) (by rw [g2.1.1]; omega) (fun o k q1 q2 q3 => k1 o k (by omega) (by omega))
theorem op_odds {p g own : Int} (h : CI n μ) (hn : n < 900) : V_ nX7_odds 0 [R_ 0, I_ p, I_ g, I_ own, U_, U_, U_, U_, U_, U_] [] μ (fun x m => V_ nX8_odds 0 [R_ 50, I_ p, I_ g, I_ own, U_, U_, U_, U_, U_, U_, U_, U_, U_, U_] [] m (PR n x)) := by
  have hst := h.st
  refine c_X7_odds h.st h.w.1.2 h.w.P h.w.2.2.2.1 (fun q => c_X8_odds h.w h.p (fun _ => ⟨rfl, CI_up h hn⟩) (fun a b => absurd ⟨a, b⟩ q)) (fun a b => ?_)
  generalize hA : oddB μ p g - oddF μ p g own = A
  generalize hB : oddB μ p g = B
  have hmo : ∀ o i, 50 ≤ o → frC μ A B o i = μ o i := fun o i q => by unfold frC; rw [mset_off (by omega), mset_off (by omega)]
  refine c_X8_odds h.w (CP_mo hmo h.p) (fun q => absurd ⟨a, b⟩ q) (fun _ _ => ⟨rfl, ?_⟩)
  rw [hA, hB]
  have K : ∀ o i, ¬ (o = 0 ∧ (i = 13 ∨ i = 14)) → ¬ (o = 50 ∧ (i = 3 ∨ i = 4)) → frN (frC μ A B) A B o i = μ o i := fun o i q1 q2 => by unfold frN frC; rw [mset_off (by omega), mset_off (by omega), mset_off (by omega), mset_off (by omega)]
  have hF := (CI_up h hn).2.2.1
  refine CI_put h (by omega) (by omega) (fun o i q => K o i (by omega) (by omega)) ⟨fun k q => K 50 k (by omega) (by omega), fun o k q => K o k (by omega) (by omega)⟩ (fun o i q => K o i (by omega) (by omega)) ⟨fun i q => K 0 i (by omega) (by omega), K 12 0 (by omega) (by omega), K 28 3 (by omega) (by omega), fun i => K 31 i (by omega) (by omega)⟩ ⟨by rw [K 50 0 (by omega) (by omega), K 0 11 (by omega) (by omega)]; exact hF.1, fun f hf => by rw [K 51 f (by omega) (by omega), K 41 f (by omega) (by omega)]; exact hF.2.1 f hf, by rw [K 50 2 (by omega) (by omega), K 0 12 (by omega) (by omega)]; exact hF.2.2.1, ?_, ?_⟩
  · unfold frN frC
    rw [mset_off (by omega), mset_same, mset_off (by omega), mset_off (by omega), mset_off (by omega), mset_same]
  · unfold frN frC
    rw [mset_same, mset_off (by omega), mset_off (by omega), mset_same]
theorem way_fin (h : CI n μ) (hn : n < 900) {m1 mz : Mem_} (g1 : fiW μ m1) (g2 : frY m1 mz) : CI (n + 1) mz := by
  have hst := h.st
  have A : ∀ o i, ¬ (28 ≤ o ∧ o ≤ 32) → ¬ (o = 50 ∧ (i = 42 ∨ i = 44 ∨ i = 45)) → ¬ (76 ≤ o ∧ o ≤ 78) → mz o i = μ o i := fun o i q1 q2 q3 => by rw [g2 o i q2 q3]; exact g1.1 o i (by omega) (by omega) (by omega) (by omega) (by omega)
  have e28 : mz 28 3 = μ 28 3 + 1 := by rw [g2 28 3 (by omega) (by omega)]; exact g1.2.1
  refine CI_keep h hn (fun o i q => A o i (by omega) (by omega) (by omega)) ⟨fun k q => A 50 k (by omega) (by omega) (by omega), fun o k q => A o k (by omega) (by omega) (by omega)⟩ (fun o i q => A o i (by omega) (by omega) (by omega)) ?_ (fun o i q => A o i (by omega) (by omega) (by omega))
  have hx := h.2.2.2
  unfold CX stc dtc
  rw [A 0 9 (by omega) (by omega) (by omega), A 0 10 (by omega) (by omega) (by omega), A 12 0 (by omega) (by omega) (by omega), e28]
  refine ⟨hx.1, by have := hx.2.1; omega, fun pl hp => by rw [g2 31 pl (by omega) (by omega)]; exact g1.2.2 pl hp⟩
theorem op_soonest {p g own : Int} (h : CI n μ) (hn : n < 900) : V_ nX7_soonest 0 [R_ 0, I_ p, I_ g, I_ own] [] μ (fun x m => V_ nX8_soonest 0 [R_ 50, I_ p, I_ g, I_ own] [] m (PR n x)) :=
  c_X7_soonest h.st h.w.1.2 h.w.P h.si (fun q => c_X8_soonest h.w h.p (fun _ => ⟨rfl, CI_up h hn⟩) (fun a b => absurd ⟨a, b⟩ q)) (fun a b r m1 hr g1 => c_X8_soonest h.w (CP_mo (fun o i q => g1.1 o i (by omega) (by omega) (by omega) (by omega) (by omega)) h.p) (fun q => absurd ⟨a, b⟩ q) (fun _ _ r' mz hr' g2 => ⟨by rw [Lst_u hr hr'], way_fin h hn g1 g2⟩))
theorem op_round {p g own : Int} (h : CI n μ) (hn : n < 900) : V_ nX7_round 0 [R_ 0, I_ p, I_ g, I_ own] [] μ (fun x m => V_ nX8_round 0 [R_ 50, I_ p, I_ g, I_ own] [] m (PR n x)) :=
  c_X7_round h.st h.w.1.2 h.w.P h.si (fun q => c_X8_round h.w h.p (fun _ => ⟨rfl, CI_up h hn⟩) (fun a b => absurd ⟨a, b⟩ q)) (fun a b r m1 hr g1 => c_X8_round h.w (CP_mo (fun o i q => g1.1 o i (by omega) (by omega) (by omega) (by omega) (by omega)) h.p) (fun q => absurd ⟨a, b⟩ q) (fun _ _ r' mz hr' g2 => ⟨by rw [Lst_u hr hr'], way_fin h hn g1 g2⟩))
theorem op_lost {p r : Int} (h : CI n μ) (hn : n < 900) : V_ nX7_lost 0 [R_ 0, I_ p, I_ r, U_, U_, U_, U_, U_] [] μ (fun x m => V_ nX8_lost 0 [R_ 50, I_ p, I_ r, U_, U_, U_, U_, U_] [] m (PR n x)) := by
  have hst := h.st
  have s1 := h.w.1.2.1
  have hop : opensC μ 0 p < 2 ^ (μ (stc μ) 0).toNat := orR_lt (fun k hk => by
    have := h.w.2.1.1.2 k (by omega)
    unfold opF
    split
    · exact Nat.pow_lt_pow_right (by omega) (by omega)
    · exact Nat.two_pow_pos _)
  have hle : 2 ^ (μ (stc μ) 0).toNat ≤ 2 ^ 6 := Nat.pow_le_pow_right (by omega) (by omega)
  have hcn : cntB 32 (opensC μ 0 p) ≤ 6 := cnt6 (by omega)
  refine c_X7_lost h.st h.w.1.2 h.w.P h.w.2.2.2.1 h.o1 hop (fun q => c_X8_lost h.w h.p (fun _ => ⟨rfl, CI_up h hn⟩) (fun a b => absurd ⟨a, b⟩ q)) (fun a b m1 g1 g2 => ?_)
  have hmo : ∀ v o i, 50 ≤ o → tlC m1 v o i = μ o i := fun v o i q => by rw [show tlC m1 v o i = m1 o i from mset_off (by omega)]; exact g1.1 o i (by omega) (by omega)
  refine c_X8_lost h.w (CP_mo (hmo _) h.p) (fun q => absurd ⟨a, b⟩ q) (fun _ _ mz k1 k2 k3 => ⟨rfl, ?_⟩)
  generalize hop2 : opensC μ 0 p = op at *
  generalize hsum : (smR (μ (stc μ) 0).toNat fun h => if op.testBit h = true then μ (stc μ + 1) h else 0) = sm at *
  have esum : smR (μ (stc μ) 0).toNat (csF μ op) = sm := hsum
  rw [esum]
  have B : ∀ o i, o ≠ 2 → o ≠ 3 → ¬ (o = 0 ∧ i = 12) → tlC m1 sm o i = μ o i := fun o i q1 q2 q3 => by rw [show tlC m1 sm o i = m1 o i from mset_off (by omega)]; exact g1.1 o i q1 q2
  have A : ∀ o i, o ≠ 2 → o ≠ 3 → o ≠ 52 → o ≠ 53 → ¬ (o = 0 ∧ i = 12) → ¬ (o = 50 ∧ i = 2) → mtT mz sm o i = μ o i := fun o i q1 q2 q3 q4 q5 q6 => by rw [show mtT mz sm o i = mz o i from mset_off (by omega), k1.1 o i q3 q4]; exact B o i q1 q2 q5
  have A2 : ∀ i, mtT mz sm 2 i = m1 2 i := fun i => by rw [show mtT mz sm 2 i = mz 2 i from mset_off (by omega), k1.1 2 i (by omega) (by omega)]; exact mset_off (by omega)
  have A3 : ∀ i, mtT mz sm 3 i = m1 3 i := fun i => by rw [show mtT mz sm 3 i = mz 3 i from mset_off (by omega), k1.1 3 i (by omega) (by omega)]; exact mset_off (by omega)
  have A52 : ∀ i, mtT mz sm 52 i = mz 52 i := fun i => mset_off (by omega)
  have A53 : ∀ i, mtT mz sm 53 i = mz 53 i := fun i => mset_off (by omega)
  have ir : (r * 40).toNat = 40 * r.toNat := by omega
  have jr : (40 * r).toNat = 40 * r.toNat := by omega
  obtain ⟨l1, l2, l3, l4⟩ := g1
  rw [ir] at l4 g2
  rw [jr] at k3
  have k1' := k1.2.2
  rw [jr] at k1'
  refine CI_gen h hn (fun o i q => A o i (by omega) (by omega) (by omega) (by omega) (by omega) (by omega)) ?_ (CR_row (r := r.toNat) (by omega) (fun o i q => A o i (by omega) (by omega) (by omega) (by omega) (by omega) (by omega)) (fun i q => ⟨by rw [A2]; exact l2 i q, by rw [A52, k1.2.1 i q]; exact B 52 i (by omega) (by omega) (by omega)⟩) (fun i q => ⟨by rw [A3]; exact l4 i (by omega), by rw [A53, k1' i (by omega)]; exact B 53 i (by omega) (by omega) (by omega)⟩) ⟨by rw [A52, A2, k2, l3], by rw [A2, l3]; omega⟩ (fun i hi => ?_) h.r)
  · rw [show mtT mz sm 50 2 = sm from mset_same _ _ _ _, show mtT mz sm 0 12 = mz 0 12 from mset_off (by omega), k1.1 0 12 (by omega) (by omega)]
    exact (mset_same _ _ _ _).symm
  · rw [A2, l3] at hi
    obtain ⟨g, q1, q2, q3⟩ := rn_sur hop s1.2 (i := i) (by omega)
    have e1 := k3 g q1 q2
    have e2 := g2 g q1 q2
    rw [q3, Int.toNat_natCast] at e1 e2
    rw [A53, A3, e1, e2]
end
