/-! each call, class and model: events come and go, years, streets -/
section
variable {n : Nat} {μ : Mem_}
theorem CP_cl {x W W' : Mem_} (h : ∀ o i, (o = 0 ∧ i ≤ 9) ∨ (7 ≤ o ∧ o ≤ 11) ∨ (17 ≤ o ∧ o ≤ 24) ∨ (stc W ≤ o ∧ o ≤ stc W + 3) → W' o i = W o i) (hc : CP x W) : CP x W' := by
  have es : stc W' = stc W := by unfold stc; rw [h 0 9 (by omega)]
  obtain ⟨a, b, c, d⟩ := hc
  have k17 : ∀ o i, 17 ≤ o → o ≤ 24 → W' o i = W o i := fun o i q1 q2 => h o i (by omega)
  have lk : ∀ g, lkF W' g = lkF W g := fun g => funext (fun k => by unfold lkF liveC; simp only [k17 18 _ (by omega) (by omega), k17 19 _ (by omega) (by omega), k17 23 _ (by omega) (by omega)])
  have wh : ∀ pl g, whF W' pl g = whF W pl g := fun pl g => funext (fun k => by unfold whF; rw [k17 20 _ (by omega) (by omega), k17 21 _ (by omega) (by omega)])
  have wa : waF W' = waF W := funext (fun k => by unfold waF; rw [k17 20 _ (by omega) (by omega)])
  refine ⟨?_, ?_, ?_, ?_⟩
  · unfold CS
    rw [es, h (stc W) 0 (by omega), h (stc W) 1 (by omega)]
    refine ⟨a.1, fun g hg => by rw [h (stc W + 1) g (by omega)]; exact a.2.1 g hg, fun p hp => by rw [h (stc W + 2) p (by omega), h (stc W + 3) p (by omega)]; exact a.2.2 p hp⟩
  · unfold MK
    simp only [fun i => k17 17 i (by omega) (by omega), fun i => k17 18 i (by omega) (by omega), fun i => k17 19 i (by omega) (by omega), fun i => k17 20 i (by omega) (by omega), fun i => k17 21 i (by omega) (by omega), fun i => k17 22 i (by omega) (by omega), fun i => k17 23 i (by omega) (by omega), fun i => k17 24 i (by omega) (by omega)]
    exact b
  · rw [k17 17 0 (by omega) (by omega)]
    unfold DLk
    simp only [lk, wh, wa]
    exact c
  · unfold CV
    simp only [fun i => h 7 i (by omega), fun i => h 8 i (by omega), fun i => h 9 i (by omega), fun i => h 10 i (by omega), fun i => h 11 i (by omega)]
    refine ⟨d.1, d.2.1, fun e he hq => ?_⟩
    rw [h 8 e (by omega)] at hq
    rw [kbC_congr (μ := W) (fun i _ => h 8 i (by omega))]
    exact d.2.2 e he hq
/-- class and model behind a log that was lived through anew -/
theorem CI_new {w0 m1 mz : Mem_} (hn : n < 900) (hst : isSt (stc w0)) (hs : StC w0 (stc w0)) (hl : LVc (w0 (stc w0) 0) (w0 (stc w0) 1) w0) (h1 : ∀ o, o ≠ 25 → ∀ i, m1 o i = rpW w0 o i) (hre : ReOK m1) (h2 : ∀ o i, o < 50 → mz o i = m1 o i) (hcp : CP mz (rpW w0)) (hcr : CR mz mz) (hcf : CF (n + 1) mz) (hcx : CX (n + 1) mz) : CI (n + 1) mz := by
  have hW : ∀ o i, o ≠ 25 → o < 50 → mz o i = rpW w0 o i := fun o i q1 q2 => by rw [h2 o i q2]; exact h1 o q1 i
  have hS : ∀ o i, (o < 17 ∨ 25 < o) → o < 50 → mz o i = w0 o i := fun o i q1 q2 => by rw [hW o i (by omega) q2]; exact rpW_off (by omega)
  have es : stc mz = stc w0 := by unfold stc; rw [hS 0 9 (by omega) (by omega)]
  have hl1 := hl.1
  refine ⟨by omega, ⟨⟨⟨by rw [es]; exact hst, ?_⟩, ?_, ?_, ?_, ?_⟩, CP_cl (fun o i q => by rw [rpW_st] at q; exact hW o i (by omega) (by omega)) hcp, hcr⟩, hcf, hcx⟩
  · rw [es]
    unfold StC
    simp only [fun i => hS (stc w0) i (by omega) (by omega), fun i => hS (stc w0 + 1) i (by omega) (by omega), fun i => hS (stc w0 + 2) i (by omega) (by omega), fun i => hS (stc w0 + 3) i (by omega) (by omega)]
    exact hs
  · have hr := RIc_rp hs.1.2 hs.2.1.2 hl (w0 7 0).toNat (by omega)
    rw [show (((w0 7 0).toNat : Nat) : Int) = w0 7 0 by omega] at hr
    rw [es, hS (stc w0) 0 (by omega) (by omega), hS (stc w0) 1 (by omega) (by omega), hS 7 0 (by omega) (by omega)]
    unfold RIc
    simp only [fun i => hW 17 i (by omega) (by omega), fun i => hW 18 i (by omega) (by omega), fun i => hW 20 i (by omega) (by omega), fun i => hW 21 i (by omega) (by omega), fun i => hW 22 i (by omega) (by omega), fun i => hW 23 i (by omega) (by omega), fun i => hW 24 i (by omega) (by omega)]
    exact hr
  · rw [es, hS (stc w0) 0 (by omega) (by omega), hS (stc w0) 1 (by omega) (by omega)]
    have eK : ∀ e, kbC mz e = kbC w0 e := fun e => kbC_congr (fun i _ => hS 8 i (by omega) (by omega))
    unfold LVc
    simp only [eK, fun i => hS 7 i (by omega) (by omega), fun i => hS 8 i (by omega) (by omega), fun i => hS 9 i (by omega) (by omega), fun i => hS 10 i (by omega) (by omega), fun i => hS 11 i (by omega) (by omega)]
    exact hl
  · intro g hg
    have ei : insC mz = insC m1 := funext (fun a => opens_cg (fun o q1 q2 i => h2 o i (by omega)) 2 a)
    rw [h2 25 g (by omega), ei]
    exact hre g hg
  · rw [hW 17 0 (by omega) (by omega), hS 7 0 (by omega) (by omega)]
    show rpC (w0 7 0).toNat (rsC w0) 17 0 = _
    rw [rpC_17]
    exact (kbC_congr (fun i _ => hS 8 i (by omega) (by omega))).symm
theorem CF_keep {m : Mem_} (h : CI n μ) (hn : n < 900) (hcf : ∀ o i, (o = 0 ∧ 11 ≤ i ∧ i ≤ 14) ∨ o = 41 ∨ (o = 50 ∧ (i = 0 ∨ i = 2 ∨ i = 3 ∨ i = 4)) ∨ o = 51 → m o i = μ o i) : CF (n + 1) m := by
  have hF := (CI_up h hn).2.2.1
  refine ⟨?_, fun f hf => ?_, ?_, ?_, ?_⟩
  · rw [hcf 50 0 (by omega), hcf 0 11 (by omega)]; exact hF.1
  · rw [hcf 51 f (by omega), hcf 41 f (by omega)]; exact hF.2.1 f hf
  · rw [hcf 50 2 (by omega), hcf 0 12 (by omega)]; exact hF.2.2.1
  · rw [hcf 50 3 (by omega), hcf 0 13 (by omega)]; exact hF.2.2.2.1
  · rw [hcf 50 4 (by omega), hcf 0 14 (by omega)]; exact hF.2.2.2.2
theorem op_back {k : Int} (h : CI n μ) (hn : n < 900) : V_ nX7_back 0 [R_ 0, I_ k, U_] [] μ (fun x m => V_ nX8_back 0 [R_ 50, I_ k, U_] [] m (PR n x)) := by
  have hst := h.st
  refine c_X7_back h.st h.w.1.2 h.w.2.2.1 (fun q => c_X8_back h.w h.p (fun _ => ⟨rfl, CI_up h hn⟩) (fun a => absurd a q)) (fun a m1 g1 g2 => ?_)
  have g1' : ∀ o, o ≠ 25 → ∀ i, m1 o i = rpW (mset μ 7 0 k) o i := fun o q i => by rw [g1 o q i]; unfold rpW; rw [mset_same]
  have hof : ∀ o i, ¬ (o = 7 ∧ i = 0) → (o < 17 ∨ 25 < o) → m1 o i = μ o i := fun o i q1 q2 => by rw [g1' o (by omega) i, rpW_off (by omega), mset_off q1]
  have hmo : ∀ o i, 50 ≤ o → m1 o i = μ o i := fun o i q => hof o i (by omega) (by omega)
  refine c_X8_back h.w (CP_mo hmo h.p) (fun q => absurd a q) (fun _ mz k1 k2 => ⟨rfl, ?_⟩)
  have K : ∀ o i, ¬ (o = 50 ∧ (i = 22 ∨ i = 27 ∨ i = 39)) → ¬ (65 ≤ o ∧ o ≤ 75) → mz o i = m1 o i := fun o i q1 q2 => by rw [k1 o i (by omega) q2, mset_off (by omega)]
  have A : ∀ o i, ¬ (o = 50 ∧ (i = 22 ∨ i = 27 ∨ i = 39)) → ¬ (65 ≤ o ∧ o ≤ 75) → ¬ (o = 7 ∧ i = 0) → (o < 17 ∨ 25 < o) → mz o i = μ o i := fun o i q1 q2 q3 q4 => by rw [K o i q1 q2]; exact hof o i q3 q4
  have e0 : stc (mset μ 7 0 k) = stc μ := by unfold stc; rw [mset_off (by omega)]
  have hS : ∀ o i, o ≠ 7 → mset μ 7 0 k o i = μ o i := fun o i q => mset_off (by omega)
  refine CI_new (w0 := mset μ 7 0 k) hn (by rw [e0]; exact hst) ?_ ?_ g1' g2 (fun o i q => K o i (by omega) (by omega)) k2 (rwF.cr (fun o i q => A o i (by omega) (by omega) (by omega) (by omega)) h.r) (CF_keep h hn (fun o i q => A o i (by omega) (by omega) (by omega) (by omega))) (dsF.cx (n := n) ⟨fun i q => A 0 i (by omega) (by omega) (by omega) (by omega), A 12 0 (by omega) (by omega) (by omega) (by omega), A 28 3 (by omega) (by omega) (by omega) (by omega), fun i => A 31 i (by omega) (by omega) (by omega) (by omega)⟩ (by omega) h.2.2.2)
  · rw [e0]
    unfold StC
    simp only [hS (stc μ) _ (by omega), hS (stc μ + 1) _ (by omega), hS (stc μ + 2) _ (by omega), hS (stc μ + 3) _ (by omega)]
    exact h.w.1.2
  · rw [e0, hS (stc μ) 0 (by omega), hS (stc μ) 1 (by omega)]
    exact LVc_cut h.w.2.2.1 a
theorem op_event {kind a b more : Int} (h : CI n μ) (hn : n < 900) : V_ nX7_event 0 [R_ 0, I_ kind, I_ a, I_ b, I_ more, U_] [] μ (fun x m => V_ nX8_event 0 [R_ 50, I_ kind, I_ a, I_ b, I_ more, U_] [] m (PR n x)) := by
  have hst := h.st
  refine c_X7_event h.st h.w.1.2 h.w.2.2.1 h.w.2.2.2.2 (fun q => c_X8_event h.w h.p (fun _ => ⟨rfl, CI_up h hn⟩) (fun a _ => absurd a q) (fun a _ => absurd a q)) (fun q1 q2 => c_X8_event h.w h.p (fun q => absurd q1 q) (fun _ _ => ⟨rfl, CI_up h hn⟩) (fun _ q => absurd q2 q)) (fun q1 q2 m1 g1 g2 => ?_)
  have hq2 : ¬ (mkK kind ∧ 24 ≤ μ 17 0) := fun z => q2 (Or.inr z)
  have hq40 : μ 7 0 < 40 := Classical.byContradiction (fun z => q2 (Or.inl (by omega)))
  have hv : evOK (μ (stc μ) 0) (μ (stc μ) 1) (kbC μ (μ 7 0).toNat) kind a (bE kind b) (chE kind more) := by
    rw [← h.w.2.2.2.2]
    exact ev_ok q1 hq2
  have hl2 := LVc_add (a := a) (b := bE kind b) (c := chE kind more) (k := kind) h.w.2.2.1 hq40 hv
  generalize hbb : bE kind b = bb at *
  generalize hcc : chE kind more = cc at *
  have g1' : ∀ o, o ≠ 25 → ∀ i, m1 o i = rpW (addC_7 μ kind a bb cc) o i := fun o q i => by rw [g1 o q i]; unfold rpW; rw [addC_7_sz]
  have hA : ∀ o k, o ≠ 7 → o ≠ 8 → o ≠ 9 → o ≠ 10 → o ≠ 11 → addC_7 μ kind a bb cc o k = μ o k := fun o k z1 z2 z3 z4 z5 => addC_7_off ⟨z1, z2, z3, z4, z5⟩
  have hof : ∀ o i, ¬ (7 ≤ o ∧ o ≤ 11) → (o < 17 ∨ 25 < o) → m1 o i = μ o i := fun o i z1 z2 => by rw [g1' o (by omega) i, rpW_off (by omega)]; exact hA o i (by omega) (by omega) (by omega) (by omega) (by omega)
  have hmo : ∀ o i, 50 ≤ o → m1 o i = μ o i := fun o i q => hof o i (by omega) (by omega)
  refine c_X8_event h.w (CP_mo hmo h.p) (fun q => absurd q1 q) (fun _ q => absurd q q2) (fun _ _ mz k1 k2 => ⟨rfl, ?_⟩)
  rw [hbb, hcc] at k2
  clear q1 q2 hv hq2
  have K : ∀ o i, ¬ (o = 50 ∧ (i = 22 ∨ i = 27 ∨ i = 39)) → o ≠ 63 → ¬ (65 ≤ o ∧ o ≤ 75) → mz o i = m1 o i := fun o i z1 z2 z3 => k1 o i z1 z2 z3
  have A : ∀ o i, ¬ (o = 50 ∧ (i = 22 ∨ i = 27 ∨ i = 39)) → o ≠ 63 → ¬ (65 ≤ o ∧ o ≤ 75) → ¬ (7 ≤ o ∧ o ≤ 11) → (o < 17 ∨ 25 < o) → mz o i = μ o i := fun o i z1 z2 z3 z4 z5 => by rw [K o i z1 z2 z3]; exact hof o i z4 z5
  have e0 : stc (addC_7 μ kind a bb cc) = stc μ := by unfold stc; rw [hA 0 9 (by omega) (by omega) (by omega) (by omega) (by omega)]
  refine CI_new (w0 := addC_7 μ kind a bb cc) hn (by rw [e0]; exact hst) ?_ ?_ g1' g2 (fun o i q => K o i (by omega) (by omega) (by omega)) k2 (rwF.cr (fun o i q => A o i (by omega) (by omega) (by omega) (by omega) (by omega)) h.r) (CF_keep h hn (fun o i q => A o i (by omega) (by omega) (by omega) (by omega) (by omega))) (dsF.cx (n := n) ⟨fun i q => A 0 i (by omega) (by omega) (by omega) (by omega) (by omega), A 12 0 (by omega) (by omega) (by omega) (by omega) (by omega), A 28 3 (by omega) (by omega) (by omega) (by omega) (by omega), fun i => A 31 i (by omega) (by omega) (by omega) (by omega) (by omega)⟩ (by omega) h.2.2.2)
  · rw [e0]
    unfold StC
    simp only [fun i => hA (stc μ) i (by omega) (by omega) (by omega) (by omega) (by omega), fun i => hA (stc μ + 1) i (by omega) (by omega) (by omega) (by omega) (by omega), fun i => hA (stc μ + 2) i (by omega) (by omega) (by omega) (by omega) (by omega), fun i => hA (stc μ + 3) i (by omega) (by omega) (by omega) (by omega) (by omega)]
    exact h.w.1.2
  · rw [e0, hA (stc μ) 0 (by omega) (by omega) (by omega) (by omega) (by omega), hA (stc μ) 1 (by omega) (by omega) (by omega) (by omega) (by omega)]
    exact hl2
end
