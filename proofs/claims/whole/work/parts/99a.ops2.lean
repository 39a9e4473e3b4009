/-! each call, class and model: rows -/
section
variable {n : Nat} {μ m : Mem_}
def rlF (μ m : Mem_) : Prop := ∀ o i, (o = 0 ∧ i ≠ 12) ∨ (7 ≤ o ∧ o ≤ 12) ∨ (17 ≤ o ∧ o ≤ 25) ∨ (o = 28 ∧ i = 3) ∨ o = 31 ∨ (41 ≤ o ∧ o ≤ 49) ∨ (o = 50 ∧ (i = 0 ∨ i = 3 ∨ i = 4 ∨ i = 10 ∨ i = 11 ∨ i = 22 ∨ i = 27 ∨ i = 39)) ∨ o = 51 ∨ (57 ≤ o ∧ o ≤ 59) ∨ o = 63 ∨ (65 ≤ o ∧ o ≤ 75) → m o i = μ o i
theorem CI_gen (h : CI n μ) (hn : n < 900) (hof : rlF μ m) (ht : m 50 2 = m 0 12) (hr : CR m m) : CI (n + 1) m := by
  have hst := h.st
  have h1 : clF μ m := fun o i q => hof o i (by omega)
  have h2 : moF μ m := ⟨fun k q => hof 50 k (by omega), fun o k q => hof o k (by omega)⟩
  have h4 : dsF μ m := ⟨fun i q => hof 0 i (by omega), hof 12 0 (by omega), hof 28 3 (by omega), fun i => hof 31 i (by omega)⟩
  have hF := (CI_up h hn).2.2.1
  refine ⟨by omega, ⟨h1.cw h.w, h1.cp h.st (h2.cp h.p), hr⟩, ⟨?_, fun f hf => ?_, ht, ?_, ?_⟩, h4.cx (by omega) h.2.2.2⟩
  · rw [hof 50 0 (by omega), hof 0 11 (by omega)]; exact hF.1
  · rw [hof 51 f (by omega), hof 41 f (by omega)]; exact hF.2.1 f hf
  · rw [hof 50 3 (by omega), hof 0 13 (by omega)]; exact hF.2.2.2.1
  · rw [hof 50 4 (by omega), hof 0 14 (by omega)]; exact hF.2.2.2.2
theorem CR_row {r : Nat} (hr6 : r < 6) (hm : ∀ o i, o = 5 ∨ o = 6 ∨ o = 55 ∨ o = 56 → m o i = μ o i) (h2 : ∀ i, i ≠ r → m 2 i = μ 2 i ∧ m 52 i = μ 52 i) (h3 : ∀ i, ¬ (40 * r ≤ i ∧ i < 40 * r + 40) → m 3 i = μ 3 i ∧ m 53 i = μ 53 i) (hs : m 52 r = m 2 r ∧ -1 ≤ m 2 r ∧ m 2 r ≤ 40) (hv : ∀ i : Nat, (i : Int) < m 2 r → m 53 (40 * r + i) = m 3 (40 * r + i)) (hr : CR μ μ) : CR m m := by
  refine ⟨fun r' hh => ?_, fun t ht => ?_, fun j => ?_⟩
  · by_cases e : r' = r
    · subst e
      exact ⟨hs.1, hs.2, hv⟩
    · rw [(h2 r' e).1, (h2 r' e).2]
      have h9 := hr.1 r' hh
      exact ⟨h9.1, h9.2.1, fun i hi => by rw [(h3 _ (by omega)).1, (h3 _ (by omega)).2]; exact h9.2.2 i hi⟩
  · rw [hm 55 t (by omega), hm 5 t (by omega)]
    exact ⟨(hr.2.1 t ht).1, (hr.2.1 t ht).2.1, fun i hi => by rw [hm 56 _ (by omega), hm 6 _ (by omega)]; exact (hr.2.1 t ht).2.2 i hi⟩
  · rw [hm 6 j (by omega), hm 56 j (by omega)]; exact hr.2.2 j
theorem CR_text {r : Nat} (hr4 : r < 4) (hm : ∀ o i, o = 2 ∨ o = 3 ∨ o = 52 ∨ o = 53 → m o i = μ o i) (h2 : ∀ i, i ≠ r → m 5 i = μ 5 i ∧ m 55 i = μ 55 i) (h3 : ∀ i, ¬ (120 * r ≤ i ∧ i < 120 * r + 120) → m 6 i = μ 6 i ∧ m 56 i = μ 56 i) (hs : m 55 r = m 5 r ∧ -1 ≤ m 5 r ∧ m 5 r ≤ 120) (hv : ∀ i : Nat, (i : Int) < m 5 r → m 56 (120 * r + i) = m 6 (120 * r + i)) (hb : ∀ j : Nat, (-128 ≤ m 6 j ∧ m 6 j < 128) ∧ (-128 ≤ m 56 j ∧ m 56 j < 128)) (hr : CR μ μ) : CR m m := by
  refine ⟨fun r' hh => ?_, fun t ht => ?_, hb⟩
  · rw [hm 52 r' (by omega), hm 2 r' (by omega)]
    exact ⟨(hr.1 r' hh).1, (hr.1 r' hh).2.1, fun i hi => by rw [hm 53 _ (by omega), hm 3 _ (by omega)]; exact (hr.1 r' hh).2.2 i hi⟩
  · by_cases e : t = r
    · subst e
      exact ⟨hs.1, hs.2, hv⟩
    · rw [(h2 t e).1, (h2 t e).2]
      have h9 := hr.2.1 t ht
      exact ⟨h9.1, h9.2.1, fun i hi => by rw [(h3 _ (by omega)).1, (h3 _ (by omega)).2]; exact h9.2.2 i hi⟩
theorem mfill_out {μ : Mem_} {o lo k b : Nat} {v : Int} (h : ¬ (lo ≤ b ∧ b < lo + k)) : mfill μ o lo k v o b = μ o b := if_neg (fun q => h q.2)
theorem mcopy_off {μ : Mem_} {o sp dp k a b : Nat} (h : a ≠ o) : mcopy μ o sp dp k a b = μ a b := if_neg (fun q => h q.1)
theorem sz1_lt {r : Int} (hr : 0 ≤ r ∧ r < 6) : sz_1 μ r = μ 2 r.toNat := sze_1 hr
theorem op_row {r k : Int} (h : CI n μ) (hn : n < 900) : V_ nX7_row 0 [R_ 0, I_ r, I_ k] [] μ (fun x m => V_ nX8_row 0 [R_ 50, I_ r, I_ k, U_] [] m (PR n x)) := by
  refine c_X7_row h.fc (fun q => c_X8_row h.fm (fun _ => ⟨rfl, CI_up h hn⟩) (fun a b => absurd ⟨a, by omega⟩ q) (fun a b => absurd ⟨a, by omega⟩ q)) (fun a b => c_X8_row (fm_fd h) (fun q => absurd ⟨a, by omega⟩ q) (fun _ _ => ⟨rfl, CI_find h hn (by decide)⟩) (fun _ c => absurd c.1 (by omega))) (fun a b => c_X8_row (fun f hf => by rw [mfill_off (by omega), mset_off (by omega)]; exact h.fm f hf) (fun q => absurd ⟨a, b.2⟩ q) (fun _ c => absurd b.1 (by omega)) (fun _ _ => ⟨rfl, ?_⟩))
  generalize hm : mfill (mset (mfill (mset μ 2 r.toNat k) 3 (r * 40).toNat k.toNat 0) 52 r.toNat k) 53 (40 * r).toNat 40 0 = mm
  have A : ∀ o i, o ≠ 2 → o ≠ 3 → o ≠ 52 → o ≠ 53 → mm o i = μ o i := fun o i q1 q2 q3 q4 => by rw [← hm, mfill_off (by omega), mset_off (by omega), mfill_off (by omega), mset_off (by omega)]
  refine CI_gen h hn (fun o i q => A o i (by omega) (by omega) (by omega) (by omega)) (by rw [A 50 2 (by omega) (by omega) (by omega) (by omega), A 0 12 (by omega) (by omega) (by omega) (by omega)]; exact h.2.2.1.2.2.1) (CR_row (r := r.toNat) (by omega) (fun o i q => A o i (by omega) (by omega) (by omega) (by omega)) (fun i q => ⟨?_, ?_⟩) (fun i q => ⟨?_, ?_⟩) ⟨?_, ?_⟩ (fun i hi => ?_) h.r)
  · rw [← hm, mfill_off (by omega), mset_off (by omega), mfill_off (by omega), mset_off (by omega)]
  · rw [← hm, mfill_off (by omega), mset_off (by omega), mfill_off (by omega), mset_off (by omega)]
  · rw [← hm, mfill_off (by omega), mset_off (by omega), mfill_out (by omega), mset_off (by omega)]
  · rw [← hm, mfill_out (by omega), mset_off (by omega), mfill_off (by omega), mset_off (by omega)]
  · rw [← hm, mfill_off (by omega), mset_same, mfill_off (by omega), mset_off (by omega), mfill_off (by omega), mset_same]
  · rw [← hm, mfill_off (by omega), mset_off (by omega), mfill_off (by omega), mset_same]; omega
  · have e : mm 2 r.toNat = k := by rw [← hm, mfill_off (by omega), mset_off (by omega), mfill_off (by omega), mset_same]
    rw [e] at hi
    rw [← hm, mfill_in (by omega), mfill_off (by omega), mset_off (by omega), mfill_in (by omega)]
theorem op_tear {r : Int} (h : CI n μ) (hn : n < 900) : V_ nX7_tear 0 [R_ 0, I_ r, U_] [] μ (fun x m => V_ nX8_tear 0 [R_ 50, I_ r] [] m (PR n x)) := by
  have e52 : (0 ≤ r ∧ r < 6) → μ 52 r.toNat = μ 2 r.toNat := fun q => (h.r.1 r.toNat (by omega)).1
  refine c_X7_tear h.fc (fun q => c_X8_tear h.fm (fun _ => ⟨rfl, CI_up h hn⟩) (fun a _ => absurd a q) (fun a _ => absurd a q)) (fun a b => ?_) (fun a b => ?_)
  · rw [sz1_lt a] at b
    refine c_X8_tear (fun f hf => by rw [mset_off (by omega)]; exact h.fm f hf) (fun q => absurd a q) (fun _ c => ?_) (fun _ c => ⟨rfl, ?_⟩)
    · rw [mset_off (by omega), e52 a] at c; omega
    · have A : ∀ o i, o ≠ 2 → o ≠ 52 → mset (mset μ 2 r.toNat (-1)) 52 r.toNat (-1) o i = μ o i := fun o i q1 q3 => by rw [mset_off (by omega), mset_off (by omega)]
      refine CI_gen h hn (fun o i q => A o i (by omega) (by omega)) (by rw [A 50 2 (by omega) (by omega), A 0 12 (by omega) (by omega)]; exact h.2.2.1.2.2.1) (CR_row (r := r.toNat) (by omega) (fun o i q => A o i (by omega) (by omega)) (fun i q => ⟨by rw [mset_off (by omega), mset_off (by omega)], by rw [mset_off (by omega), mset_off (by omega)]⟩) (fun i q => ⟨A 3 i (by omega) (by omega), A 53 i (by omega) (by omega)⟩) ⟨by rw [mset_same, mset_off (by omega), mset_same], by rw [mset_off (by omega), mset_same]; omega⟩ (fun i hi => ?_) h.r)
      rw [mset_off (by omega), mset_same] at hi
      omega
  · rw [sz1_lt a] at b
    refine c_X8_tear (fm_fd h) (fun q => absurd a q) (fun _ c => ⟨rfl, CI_find h hn (by decide)⟩) (fun _ c => ?_)
    rw [fd_mo (by omega), e52 a] at c
    omega
theorem op_at {r i : Int} (h : CI n μ) (hn : n < 900) : V_ nX7_at 0 [R_ 0, I_ r, I_ i, U_] [] μ (fun x m => V_ nX8_at 0 [R_ 50, I_ r, I_ i] [] m (PR n x)) := by
  have e52 : (0 ≤ r ∧ r < 6) → μ 52 r.toNat = μ 2 r.toNat := fun q => (h.r.1 r.toNat (by omega)).1
  refine c_X7_at h.o1 h.fc (fun q => c_X8_at h.fm h.oR (fun _ => ⟨rfl, CI_up h hn⟩) (fun a _ => absurd a q) (fun a _ _ => absurd a q) (fun a _ => absurd a q)) (fun a b => ?_) (fun a b => ?_) (fun a b c => ?_)
  · rw [sz1_lt a] at b
    refine c_X8_at (fm_tl h) (fun r' hr' => by rw [tl_mo (by omega)]; exact h.oR r' hr') (fun q => absurd a q) (fun _ c => ?_) (fun _ _ c => ?_) (fun _ _ => ⟨rfl, CI_tell h hn ?_⟩)
    · rw [tl_mo (by omega), e52 a] at c; omega
    · rw [tl_mo (by omega), e52 a] at c; omega
    · have h9 := (h.r.1 r.toNat (by omega)).2.2 i.toNat (by omega)
      rw [tl_mo (by omega), show (40 * r + i).toNat = 40 * r.toNat + i.toNat by omega, show (r * 40 + i).toNat = 40 * r.toNat + i.toNat by omega]
      exact h9
  · rw [sz1_lt a] at b
    refine c_X8_at (fm_fd h) (fun r' hr' => by rw [fd_mo (by omega)]; exact h.oR r' hr') (fun q => absurd a q) (fun _ c => ⟨rfl, CI_find h hn (by decide)⟩) (fun _ c _ => ?_) (fun _ c => ?_)
    · rw [fd_mo (by omega), e52 a] at c; omega
    · rw [fd_mo (by omega), e52 a] at c; omega
  · rw [sz1_lt a] at b c
    refine c_X8_at (fm_fd h) (fun r' hr' => by rw [fd_mo (by omega)]; exact h.oR r' hr') (fun q => absurd a q) (fun _ d => ?_) (fun _ d e => ⟨rfl, CI_find h hn (by decide)⟩) (fun _ d => ?_)
    · rw [fd_mo (by omega), e52 a] at d; omega
    · rw [fd_mo (by omega), e52 a] at d; omega
theorem op_lay {r i v : Int} (h : CI n μ) (hn : n < 900) : V_ nX7_lay 0 [R_ 0, I_ r, I_ i, I_ v, U_, U_] [] μ (fun x m => V_ nX8_lay 0 [R_ 50, I_ r, I_ i, I_ v, U_] [] m (PR n x)) := by
  have e52 : (0 ≤ r ∧ r < 6) → μ 52 r.toNat = μ 2 r.toNat := fun q => (h.r.1 r.toNat (by omega)).1
  have hsz : (0 ≤ r ∧ r < 6) → _ := fun q : (0 ≤ r ∧ r < 6) => (h.r.1 r.toNat (by omega)).2.1
  refine c_X7_lay h.o1 h.fc (fun q => c_X8_lay h.fm h.oR (fun _ => ⟨rfl, CI_up h hn⟩) (fun a _ => absurd a q) (fun a _ _ => absurd a q) (fun a _ => absurd a q)) (fun a b => ?_) (fun a b => ?_) (fun a b c => ?_)
  · rw [sz1_lt a] at b
    have hsz := hsz a
    have B : ∀ o k, ¬ (o = 0 ∧ k = 12) → o ≠ 3 → tlC (mset μ 3 (r * 40 + i).toNat v) (μ 3 (r * 40 + i).toNat) o k = μ o k := fun o k q1 q2 => by unfold tlC; rw [mset_off (by omega), mset_off (by omega)]
    refine c_X8_lay (fun f hf => by rw [B 51 f (by omega) (by omega)]; exact h.fm f hf) (fun r' hr' => by rw [B 52 r' (by omega) (by omega)]; exact h.oR r' hr') (fun q => absurd a q) (fun _ c => ?_) (fun _ _ c => ?_) (fun _ _ => ⟨rfl, ?_⟩)
    · rw [B 52 _ (by omega) (by omega), e52 a] at c; omega
    · rw [B 52 _ (by omega) (by omega), e52 a] at c; omega
    · have h9 := (h.r.1 r.toNat (by omega)).2.2 i.toNat (by omega)
      have ix : (40 * r + i).toNat = 40 * r.toNat + i.toNat := by omega
      have iy : (r * 40 + i).toNat = 40 * r.toNat + i.toNat := by omega
      have e53 : tlC (mset μ 3 (r * 40 + i).toNat v) (μ 3 (r * 40 + i).toNat) 53 (40 * r + i).toNat = μ 3 (r * 40 + i).toNat := by rw [B 53 _ (by omega) (by omega), ix, iy]; exact h9
      rw [e53]
      generalize hv0 : μ 3 (r * 40 + i).toNat = v0 at *
      rw [ix, iy]
      generalize hm : mtT (mset (tlC (mset μ 3 (40 * r.toNat + i.toNat) v) v0) 53 (40 * r.toNat + i.toNat) v) v0 = mm
      have A : ∀ o k, ¬ (o = 0 ∧ k = 12) → ¬ (o = 50 ∧ k = 2) → ¬ (o = 3 ∧ k = 40 * r.toNat + i.toNat) → ¬ (o = 53 ∧ k = 40 * r.toNat + i.toNat) → mm o k = μ o k := fun o k q1 q2 q3 q4 => by rw [← hm]; unfold mtT tlC; rw [mset_off (by omega), mset_off (by omega), mset_off (by omega), mset_off (by omega)]
      have A3 : mm 3 (40 * r.toNat + i.toNat) = v := by rw [← hm]; unfold mtT tlC; rw [mset_off (by omega), mset_off (by omega), mset_off (by omega), mset_same]
      have A53 : mm 53 (40 * r.toNat + i.toNat) = v := by rw [← hm]; unfold mtT; rw [mset_off (by omega), mset_same]
      refine CI_gen h hn (fun o i q => A o i (by omega) (by omega) (by omega) (by omega)) ?_ (CR_row (r := r.toNat) (by omega) (fun o i q => A o i (by omega) (by omega) (by omega) (by omega)) (fun i q => ⟨A 2 i (by omega) (by omega) (by omega) (by omega), A 52 i (by omega) (by omega) (by omega) (by omega)⟩) (fun i q => ⟨A 3 i (by omega) (by omega) (by omega) (by omega), A 53 i (by omega) (by omega) (by omega) (by omega)⟩) ⟨by rw [A 52 _ (by omega) (by omega) (by omega) (by omega), A 2 _ (by omega) (by omega) (by omega) (by omega)]; exact e52 a, by rw [A 2 _ (by omega) (by omega) (by omega) (by omega)]; exact hsz⟩ (fun j hj => ?_) h.r)
      · rw [← hm]; unfold mtT tlC; rw [mset_same, mset_off (by omega), mset_off (by omega), mset_same]
      · rw [A 2 _ (by omega) (by omega) (by omega) (by omega)] at hj
        by_cases ej : j = i.toNat
        · rw [ej, A3, A53]
        · rw [A 53 _ (by omega) (by omega) (by omega) (by omega), A 3 _ (by omega) (by omega) (by omega) (by omega)]
          exact (h.r.1 r.toNat (by omega)).2.2 j hj
  · rw [sz1_lt a] at b
    refine c_X8_lay (fm_fd h) (fun r' hr' => by rw [fd_mo (by omega)]; exact h.oR r' hr') (fun q => absurd a q) (fun _ c => ⟨rfl, CI_find h hn (by decide)⟩) (fun _ c _ => ?_) (fun _ c => ?_)
    · rw [fd_mo (by omega), e52 a] at c; omega
    · rw [fd_mo (by omega), e52 a] at c; omega
  · rw [sz1_lt a] at b c
    refine c_X8_lay (fm_fd h) (fun r' hr' => by rw [fd_mo (by omega)]; exact h.oR r' hr') (fun q => absurd a q) (fun _ d => ?_) (fun _ d e => ⟨rfl, CI_find h hn (by decide)⟩) (fun _ d => ?_)
    · rw [fd_mo (by omega), e52 a] at d; omega
    · rw [fd_mo (by omega), e52 a] at d; omega
end
