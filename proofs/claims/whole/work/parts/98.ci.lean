/-! class and model, side by side -/
def CF (n : Nat) (μ : Mem_) : Prop := μ 50 0 = μ 0 11 ∧ (∀ f : Nat, f < 6 → μ 51 f = μ 41 f ∧ 0 ≤ μ 41 f ∧ μ 41 f ≤ n) ∧ μ 50 2 = μ 0 12 ∧ μ 50 3 = μ 0 13 ∧ μ 50 4 = μ 0 14
def CX (n : Nat) (μ : Mem_) : Prop := (isSt (dtc μ) ∧ stc μ ≠ dtc μ ∧ 0 ≤ μ 12 0) ∧ (0 ≤ μ 28 3 ∧ μ 28 3 ≤ n) ∧ ∀ pl : Nat, pl < 4096 → 0 ≤ μ 31 pl ∧ μ 31 pl < (μ 28 3 + 1) * 64
def CI (n : Nat) (μ : Mem_) : Prop := n ≤ 900 ∧ (CW μ ∧ CP μ μ ∧ CR μ μ) ∧ CF n μ ∧ CX n μ
section
variable {n : Nat} {μ m wz : Mem_}
theorem CI.w (h : CI n μ) : CW μ := h.2.1.1
theorem CI.p (h : CI n μ) : CP μ μ := h.2.1.2.1
theorem CI.r (h : CI n μ) : CR μ μ := h.2.1.2.2
theorem CI.fc (h : CI n μ) : fcOK μ := fun f hf => ⟨(h.2.2.1.2.1 f hf).2.1, by have := (h.2.2.1.2.1 f hf).2.2; have := h.1; omega⟩
theorem CI.fm (h : CI n μ) : fmOK μ := fun f hf => by
  have := h.2.2.1.2.1 f hf
  have := h.1
  omega
theorem CI.o1 (h : CI n μ) : ok_1 μ := fun r hr => (h.r.1 r hr).2.1
theorem CI.o4 (h : CI n μ) : ok_4 μ := fun r hr => (h.r.2.1 r hr).2.1
theorem CI.oR (h : CI n μ) : okR_ μ := fun r hr => by rw [(h.r.1 r hr).1]; exact (h.r.1 r hr).2.1
theorem CI.oT (h : CI n μ) : okT_ μ := fun r hr => by rw [(h.r.2.1 r hr).1]; exact (h.r.2.1 r hr).2.1
theorem CI.by (h : CI n μ) : byOK μ := fun j _ => (h.r.2.2 j).1
theorem CI.si (h : CI n μ) : SIc μ := ⟨⟨h.2.2.2.2.1.1, by have := h.2.2.2.2.1.2; have := h.1; omega⟩, h.2.2.2.2.2⟩
theorem CI.st (h : CI n μ) : isSt (stc μ) := h.w.1.1
/-- the cells of the class that are told of -/
def clF (μ m : Mem_) : Prop := ∀ o i, (o = 0 ∧ i ≤ 9) ∨ (7 ≤ o ∧ o ≤ 11) ∨ (17 ≤ o ∧ o ≤ 25) ∨ (stc μ ≤ o ∧ o ≤ stc μ + 3) → m o i = μ o i
theorem clF.s (h : clF μ m) : stc m = stc μ := by unfold stc; rw [h 0 9 (by omega)]
theorem clF.cw (h : clF μ m) (hw : CW μ) : CW m := by
  have es := h.s
  obtain ⟨⟨a1, a2⟩, a3, a4, a5, a6⟩ := hw
  have k17 : ∀ o i, 17 ≤ o → o ≤ 25 → m o i = μ o i := fun o i q1 q2 => h o i (by omega)
  have eK : ∀ e, kbC m e = kbC μ e := fun e => kbC_congr (fun i _ => h 8 i (by omega))
  have eo : ∀ a b, opensC m a b = opensC μ a b := fun a b => opens_cg (fun o q1 q2 i => k17 o i (by omega) (by omega)) a b
  refine ⟨⟨by rw [es]; exact a1, ?_⟩, ?_, ?_, ?_, ?_⟩
  · rw [es]
    unfold StC
    simp only [fun i => h (stc μ) i (by omega), fun i => h (stc μ + 1) i (by omega), fun i => h (stc μ + 2) i (by omega), fun i => h (stc μ + 3) i (by omega)]
    exact a2
  · rw [es, h (stc μ) 0 (by omega), h (stc μ) 1 (by omega), h 7 0 (by omega)]
    unfold RIc
    simp only [fun i => k17 17 i (by omega) (by omega), fun i => k17 18 i (by omega) (by omega), fun i => k17 20 i (by omega) (by omega), fun i => k17 21 i (by omega) (by omega), fun i => k17 22 i (by omega) (by omega), fun i => k17 23 i (by omega) (by omega), fun i => k17 24 i (by omega) (by omega)]
    exact a3
  · rw [es, h (stc μ) 0 (by omega), h (stc μ) 1 (by omega)]
    unfold LVc
    simp only [eK, fun i => h 7 i (by omega), fun i => h 8 i (by omega), fun i => h 9 i (by omega), fun i => h 10 i (by omega), fun i => h 11 i (by omega)]
    exact a4
  · intro g hg
    have ei : insC m = insC μ := funext (fun a => eo 2 a)
    rw [k17 25 g (by omega) (by omega), ei]
    exact a5 g hg
  · rw [k17 17 0 (by omega) (by omega), h 7 0 (by omega), eK]
    exact a6
theorem clF.cp {x : Mem_} (h : clF μ m) (hst : isSt (stc μ)) (hc : CP x μ) : CP x m := by
  have es := h.s
  obtain ⟨a, b, c, d⟩ := hc
  have k17 : ∀ o i, 17 ≤ o → o ≤ 25 → m o i = μ o i := fun o i q1 q2 => h o i (by omega)
  have lk : ∀ g, lkF m g = lkF μ g := fun g => funext (fun k => by unfold lkF liveC; simp only [k17 18 _ (by omega) (by omega), k17 19 _ (by omega) (by omega), k17 23 _ (by omega) (by omega)])
  have wh : ∀ pl g, whF m pl g = whF μ pl g := fun pl g => funext (fun k => by unfold whF; rw [k17 20 _ (by omega) (by omega), k17 21 _ (by omega) (by omega)])
  have wa : waF m = waF μ := funext (fun k => by unfold waF; rw [k17 20 _ (by omega) (by omega)])
  refine ⟨?_, ?_, ?_, ?_⟩
  · unfold CS
    rw [es, h (stc μ) 0 (by omega), h (stc μ) 1 (by omega)]
    refine ⟨a.1, fun g hg => by rw [h (stc μ + 1) g (by omega)]; exact a.2.1 g hg, fun p hp => by rw [h (stc μ + 2) p (by omega), h (stc μ + 3) p (by omega)]; exact a.2.2 p hp⟩
  · unfold MK
    simp only [fun i => k17 17 i (by omega) (by omega), fun i => k17 18 i (by omega) (by omega), fun i => k17 19 i (by omega) (by omega), fun i => k17 20 i (by omega) (by omega), fun i => k17 21 i (by omega) (by omega), fun i => k17 22 i (by omega) (by omega), fun i => k17 23 i (by omega) (by omega), fun i => k17 24 i (by omega) (by omega)]
    exact b
  · rw [k17 17 0 (by omega) (by omega)]
    unfold DLk
    simp only [lk, wh, wa]
    exact c
  · unfold CV
    simp only [fun i => h 7 i (by omega), fun i => h 8 i (by omega), fun i => h 9 i (by omega), fun i => h 10 i (by omega), fun i => h 11 i (by omega)]
    refine ⟨d.1, d.2.1, fun e he hq => ?_⟩
    rw [h 8 e (by omega)] at hq
    rw [kbC_congr (μ := μ) (fun i _ => h 8 i (by omega))]
    exact d.2.2 e he hq
/-- the model's cells that are told of -/
def moF (μ m : Mem_) : Prop := (∀ k, k = 10 ∨ k = 11 ∨ k = 22 ∨ k = 27 ∨ k = 39 → m 50 k = μ 50 k) ∧ ∀ o k, (57 ≤ o ∧ o ≤ 59) ∨ o = 63 ∨ (65 ≤ o ∧ o ≤ 75) → m o k = μ o k
theorem moF.cp (h : moF μ m) (hc : CP μ wz) : CP m wz := CP_fr hc h.1 h.2
def rwF (μ m : Mem_) : Prop := ∀ o i, (2 ≤ o ∧ o ≤ 3) ∨ (5 ≤ o ∧ o ≤ 6) ∨ (52 ≤ o ∧ o ≤ 53) ∨ (55 ≤ o ∧ o ≤ 56) → m o i = μ o i
theorem rwF.cr (h : rwF μ m) (hr : CR μ μ) : CR m m := by
  refine ⟨fun r hh => ?_, fun t ht => ?_, fun j => ?_⟩
  · rw [h 52 r (by omega), h 2 r (by omega)]
    exact ⟨(hr.1 r hh).1, (hr.1 r hh).2.1, fun i hi => by rw [h 53 _ (by omega), h 3 _ (by omega)]; exact (hr.1 r hh).2.2 i hi⟩
  · rw [h 55 t (by omega), h 5 t (by omega)]
    exact ⟨(hr.2.1 t ht).1, (hr.2.1 t ht).2.1, fun i hi => by rw [h 56 _ (by omega), h 6 _ (by omega)]; exact (hr.2.1 t ht).2.2 i hi⟩
  · rw [h 6 j (by omega), h 56 j (by omega)]; exact hr.2.2 j
/-- the stamps and drafts -/
def dsF (μ m : Mem_) : Prop := (∀ i, i = 9 ∨ i = 10 → m 0 i = μ 0 i) ∧ m 12 0 = μ 12 0 ∧ m 28 3 = μ 28 3 ∧ ∀ i, m 31 i = μ 31 i
theorem dsF.cx {n' : Nat} (h : dsF μ m) (hn : n ≤ n') (hx : CX n μ) : CX n' m := by
  unfold CX stc dtc
  rw [h.1 9 (by omega), h.1 10 (by omega), h.2.1, h.2.2.1]
  refine ⟨hx.1, ⟨hx.2.1.1, by have := hx.2.1.2; omega⟩, fun pl hp => by rw [h.2.2.2]; exact hx.2.2 pl hp⟩
/-- nothing but what was asked, found or told last has changed -/
theorem CI_put {n' : Nat} (h : CI n μ) (hn : n ≤ n') (hn' : n' ≤ 900) (h1 : clF μ m) (h2 : moF μ m) (h3 : rwF μ m) (h4 : dsF μ m) (h5 : CF n' m) : CI n' m := ⟨hn', ⟨h1.cw h.w, h1.cp h.st (h2.cp h.p), h3.cr h.r⟩, h5, h4.cx hn h.2.2.2⟩
theorem CI_up (h : CI n μ) (hn : n < 900) : CI (n + 1) μ := ⟨by omega, h.2.1, ⟨h.2.2.1.1, fun f hf => by have := h.2.2.1.2.1 f hf; omega, h.2.2.1.2.2⟩, ⟨h.2.2.2.1, ⟨h.2.2.2.2.1.1, by have := h.2.2.2.2.1.2; omega⟩, h.2.2.2.2.2⟩⟩
theorem CI_tell {v v' : Int} (h : CI n μ) (hn : n < 900) (e : v' = v) : CI (n + 1) (mtT (tlC μ v) v') := by
  have hne := h.st
  have hof : ∀ o i, ¬ (o = 0 ∧ i = 12) → ¬ (o = 50 ∧ i = 2) → mtT (tlC μ v) v' o i = μ o i := fun o i q1 q2 => by unfold mtT tlC; rw [mset_off q2, mset_off q1]
  refine CI_put h (by omega) (by omega) (fun o i q => hof o i (by omega) (by omega)) ⟨fun k q => hof 50 k (by omega) (by omega), fun o k q => hof o k (by omega) (by omega)⟩ (fun o i q => hof o i (by omega) (by omega)) ⟨fun i q => hof 0 i (by omega) (by omega), hof 12 0 (by omega) (by omega), hof 28 3 (by omega) (by omega), fun i => hof 31 i (by omega) (by omega)⟩ ?_
  refine ⟨by rw [hof 50 0 (by omega) (by omega), hof 0 11 (by omega) (by omega)]; exact h.2.2.1.1, fun f hf => by rw [hof 51 f (by omega) (by omega), hof 41 f (by omega) (by omega)]; have := h.2.2.1.2.1 f hf; omega, ?_, by rw [hof 50 3 (by omega) (by omega), hof 0 13 (by omega) (by omega)]; exact h.2.2.1.2.2.2.1, by rw [hof 50 4 (by omega) (by omega), hof 0 14 (by omega) (by omega)]; exact h.2.2.1.2.2.2.2⟩
  unfold mtT tlC
  rw [mset_same, mset_off (by omega), mset_same, e]
theorem CI_find {f : Nat} (h : CI n μ) (hn : n < 900) (hf : f < 6) : CI (n + 1) (mtC (fdC μ f) f) := by
  have hne := h.st
  have hof : ∀ o i, ¬ (o = 0 ∧ i = 11) → ¬ (o = 41 ∧ i = f) → ¬ (o = 50 ∧ i = 0) → ¬ (o = 51 ∧ i = f) → mtC (fdC μ f) f o i = μ o i := fun o i q1 q2 q3 q4 => by unfold mtC fdC; rw [mset_off q4, mset_off q3, mset_off q2, mset_off q1]
  refine CI_put h (by omega) (by omega) (fun o i q => hof o i (by omega) (by omega) (by omega) (by omega)) ⟨fun k q => hof 50 k (by omega) (by omega) (by omega) (by omega), fun o k q => hof o k (by omega) (by omega) (by omega) (by omega)⟩ (fun o i q => hof o i (by omega) (by omega) (by omega) (by omega)) ⟨fun i q => hof 0 i (by omega) (by omega) (by omega) (by omega), hof 12 0 (by omega) (by omega) (by omega) (by omega), hof 28 3 (by omega) (by omega) (by omega) (by omega), fun i => hof 31 i (by omega) (by omega) (by omega) (by omega)⟩ ?_
  refine ⟨?_, fun g hg => ?_, by rw [hof 50 2 (by omega) (by omega) (by omega) (by omega), hof 0 12 (by omega) (by omega) (by omega) (by omega)]; exact h.2.2.1.2.2.1, by rw [hof 50 3 (by omega) (by omega) (by omega) (by omega), hof 0 13 (by omega) (by omega) (by omega) (by omega)]; exact h.2.2.1.2.2.2.1, by rw [hof 50 4 (by omega) (by omega) (by omega) (by omega), hof 0 14 (by omega) (by omega) (by omega) (by omega)]; exact h.2.2.1.2.2.2.2⟩
  · unfold mtC fdC
    rw [mset_off (by omega), mset_same, mset_off (by omega), mset_off (by omega), mset_off (by omega), mset_same]
  · have hg2 := h.2.2.1.2.1 g hg
    by_cases e : g = f
    · subst e
      have e1 : mtC (fdC μ g) g 51 g = μ 51 g + 1 := by
        unfold mtC fdC
        rw [mset_same, mset_off (by omega), mset_off (by omega)]
      have e2 : mtC (fdC μ g) g 41 g = μ 41 g + 1 := by
        unfold mtC fdC
        rw [mset_off (by omega), mset_off (by omega), mset_same]
      omega
    · rw [hof 51 g (by omega) (by omega) (by omega) (by omega), hof 41 g (by omega) (by omega) (by omega) (by omega)]
      omega
end
