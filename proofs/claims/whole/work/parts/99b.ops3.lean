/-! each call, class and model: rows and texts -/
section
variable {n : Nat} {μ : Mem_}
theorem sz4_lt {r : Int} (hr : 0 ≤ r ∧ r < 4) : sz_4 μ r = μ 5 r.toNat := sze_4 hr
theorem op_mean {r : Int} (h : CI n μ) (hn : n < 900) : V_ nX7_mean 0 [R_ 0, I_ r, U_, U_] [] μ (fun x m => V_ nX8_mean 0 [R_ 50, I_ r, U_, U_, U_] [] m (PR n x)) := by
  have e52 : (0 ≤ r ∧ r < 6) → μ 52 r.toNat = μ 2 r.toNat := fun q => (h.r.1 r.toNat (by omega)).1
  refine c_X7_mean h.o1 h.fc (fun q => c_X8_mean h.fm h.oR (fun _ => ⟨rfl, CI_up h hn⟩) (fun a _ => absurd a q) (fun a _ => absurd a q) (fun a _ => absurd a q)) (fun a b => ?_) (fun a b => ?_) (fun a b => ?_)
  · rw [sz1_lt a] at b
    refine c_X8_mean (fm_tl h) (fun r' hr' => by rw [tl_mo (by omega)]; exact h.oR r' hr') (fun q => absurd a q) (fun _ c => ?_) (fun _ c => ?_) (fun _ c => ⟨rfl, CI_tell h hn ?_⟩)
    · rw [tl_mo (by omega), e52 a] at c; omega
    · rw [tl_mo (by omega), e52 a] at c; omega
    · rw [tl_mo (by omega), e52 a]
      unfold sumC
      congr 2
      refine smR_congr (fun i hi => ?_)
      have h9 := (h.r.1 r.toNat (by omega)).2.2 i (by omega)
      rw [tl_mo (by omega), show r.toNat * 40 + i = 40 * r.toNat + i by omega]
      exact h9
  · rw [sz1_lt a] at b
    refine c_X8_mean (fm_fd h) (fun r' hr' => by rw [fd_mo (by omega)]; exact h.oR r' hr') (fun q => absurd a q) (fun _ c => ⟨rfl, CI_find h hn (by decide)⟩) (fun _ c => ?_) (fun _ c => ?_)
    · rw [fd_mo (by omega), e52 a] at c; omega
    · rw [fd_mo (by omega), e52 a] at c; omega
  · rw [sz1_lt a] at b
    refine c_X8_mean (fm_fd h) (fun r' hr' => by rw [fd_mo (by omega)]; exact h.oR r' hr') (fun q => absurd a q) (fun _ c => ?_) (fun _ c => ⟨rfl, CI_find h hn (by decide)⟩) (fun _ c => ?_)
    · rw [fd_mo (by omega), e52 a] at c; omega
    · rw [fd_mo (by omega), e52 a] at c; omega
theorem op_copy {r i to j k : Int} (h : CI n μ) (hn : n < 900) : V_ nX7_copy 0 [R_ 0, I_ r, I_ i, I_ to, I_ j, I_ k] [] μ (fun x m => V_ nX8_copy 0 [R_ 50, I_ r, I_ i, I_ to, I_ j, I_ k, U_] [] m (PR n x)) := by
  have e52 : ∀ r : Int, (0 ≤ r ∧ r < 6) → μ 52 r.toNat = μ 2 r.toNat := fun r q => (h.r.1 r.toNat (by omega)).1
  refine c_X7_copy h.o1 h.fc (fun q => c_X8_copy h.oR h.fm (fun _ => ⟨rfl, CI_up h hn⟩) (fun a _ => absurd a q) (fun a _ _ => absurd a q) (fun a _ _ _ => absurd a q) (fun a _ _ _ => absurd a q)) (fun a b => ?_) (fun a b c => ?_) (fun a b c d => ?_) (fun a b c d => ?_)
  · exact c_X8_copy (fun r' hr' => by rw [fd_mo (by omega)]; exact h.oR r' hr') (fm_fd h) (fun q => absurd a q) (fun _ _ => ⟨rfl, CI_find h hn (by decide)⟩) (fun _ b2 _ => absurd b2 (by omega)) (fun _ b2 _ _ => absurd b2 (by omega)) (fun _ b2 _ _ => absurd b2 (by omega))
  · rw [sz1_lt a.1, sz1_lt a.2] at c
    have f1 : fdC μ 1 52 r.toNat = μ 2 r.toNat := by rw [fd_mo (by omega)]; exact e52 r a.1
    have f2 : fdC μ 1 52 to.toNat = μ 2 to.toNat := by rw [fd_mo (by omega)]; exact e52 to a.2
    exact c_X8_copy (fun r' hr' => by rw [fd_mo (by omega)]; exact h.oR r' hr') (fm_fd h) (fun q => absurd a q) (fun _ b2 => absurd b (by omega)) (fun _ _ _ => ⟨rfl, CI_find h hn (by decide)⟩) (fun _ _ c2 _ => absurd c2 (by rw [f1, f2]; exact c)) (fun _ _ c2 _ => absurd c2 (by rw [f1, f2]; exact c))
  · rw [sz1_lt a.1, sz1_lt a.2] at c d
    have f1 : fdC μ 2 52 r.toNat = μ 2 r.toNat := by rw [fd_mo (by omega)]; exact e52 r a.1
    have f2 : fdC μ 2 52 to.toNat = μ 2 to.toNat := by rw [fd_mo (by omega)]; exact e52 to a.2
    exact c_X8_copy (fun r' hr' => by rw [fd_mo (by omega)]; exact h.oR r' hr') (fm_fd h) (fun q => absurd a q) (fun _ b2 => absurd b (by omega)) (fun _ _ c2 => absurd c (by rw [← f1, ← f2]; exact c2)) (fun _ _ _ _ => ⟨rfl, CI_find h hn (by decide)⟩) (fun _ _ _ d2 => absurd d2 (by rw [f1, f2]; exact d))
  · rw [sz1_lt a.1, sz1_lt a.2] at c d
    have hs1 := (h.r.1 r.toNat (by omega)).2.1
    have hs2 := (h.r.1 to.toNat (by omega)).2.1
    have B : ∀ o x, o ≠ 3 → mcopy μ 3 (r * 40 + i).toNat (to * 40 + j).toNat k.toNat o x = μ o x := fun o x q => mcopy_off q
    have f1 : mcopy μ 3 (r * 40 + i).toNat (to * 40 + j).toNat k.toNat 52 r.toNat = μ 2 r.toNat := by rw [B _ _ (by omega)]; exact e52 r a.1
    have f2 : mcopy μ 3 (r * 40 + i).toNat (to * 40 + j).toNat k.toNat 52 to.toNat = μ 2 to.toNat := by rw [B _ _ (by omega)]; exact e52 to a.2
    refine c_X8_copy (fun r' hr' => by rw [B _ _ (by omega)]; exact h.oR r' hr') (fun f hf => by rw [B _ _ (by omega)]; exact h.fm f hf) (fun q => absurd a q) (fun _ b2 => absurd b (by omega)) (fun _ _ c2 => absurd c (by rw [← f1, ← f2]; exact c2)) (fun _ _ _ d2 => absurd d (by rw [← f1, ← f2]; exact d2)) (fun _ _ _ _ mz g1 g2 => ⟨rfl, ?_⟩)
    have A : ∀ o x, o ≠ 3 → o ≠ 53 → o ≠ 54 → mz o x = μ o x := fun o x q1 q2 q3 => by rw [g1 o x q2 q3]; exact B o x q1
    have A3 : ∀ x, mz 3 x = mcopy μ 3 (r * 40 + i).toNat (to * 40 + j).toNat k.toNat 3 x := fun x => g1 3 x (by omega) (by omega)
    have ix : (r * 40 + i).toNat = 40 * r.toNat + i.toNat := by omega
    have iy : (to * 40 + j).toNat = 40 * to.toNat + j.toNat := by omega
    have jx : (40 * r + i).toNat = 40 * r.toNat + i.toNat := by omega
    have jy : (40 * to + j).toNat = 40 * to.toNat + j.toNat := by omega
    rw [ix, iy] at A3 g2 B
    rw [jx, jy] at g2
    have C3 : ∀ x, ¬ (40 * to.toNat + j.toNat ≤ x ∧ x < 40 * to.toNat + j.toNat + k.toNat) → mz 3 x = μ 3 x := fun x q => by rw [A3]; exact if_neg (fun z => q z.2)
    have C53 : ∀ x, ¬ (40 * to.toNat + j.toNat ≤ x ∧ x < 40 * to.toNat + j.toNat + k.toNat) → mz 53 x = μ 53 x := fun x q => by rw [g2]; unfold mcopy; rw [if_neg (fun z => q z.2), if_neg (by omega)]
    have D3 : ∀ x, (40 * to.toNat + j.toNat ≤ x ∧ x < 40 * to.toNat + j.toNat + k.toNat) → mz 3 x = μ 3 (40 * r.toNat + i.toNat + (x - (40 * to.toNat + j.toNat))) := fun x q => by rw [A3]; exact if_pos ⟨rfl, q⟩
    have D53 : ∀ x, (40 * to.toNat + j.toNat ≤ x ∧ x < 40 * to.toNat + j.toNat + k.toNat) → mz 53 x = μ 53 (40 * r.toNat + i.toNat + (x - (40 * to.toNat + j.toNat))) := fun x q => by rw [g2]; unfold mcopy; rw [if_pos ⟨rfl, q⟩, if_neg (by omega)]
    refine CI_gen h hn (fun o x q => A o x (by omega) (by omega) (by omega)) (by rw [A 50 2 (by omega) (by omega) (by omega), A 0 12 (by omega) (by omega) (by omega)]; exact h.2.2.1.2.2.1) (CR_row (r := to.toNat) (by omega) (fun o x q => A o x (by omega) (by omega) (by omega)) (fun x q => ⟨A 2 x (by omega) (by omega) (by omega), A 52 x (by omega) (by omega) (by omega)⟩) (fun x q => ⟨C3 x (by omega), C53 x (by omega)⟩) ⟨by rw [A 52 _ (by omega) (by omega) (by omega), A 2 _ (by omega) (by omega) (by omega)]; exact e52 to a.2, by rw [A 2 _ (by omega) (by omega) (by omega)]; exact hs2⟩ (fun x hx => ?_) h.r)
    rw [A 2 _ (by omega) (by omega) (by omega)] at hx
    by_cases q : (40 * to.toNat + j.toNat ≤ 40 * to.toNat + x ∧ 40 * to.toNat + x < 40 * to.toNat + j.toNat + k.toNat)
    · rw [D53 _ q, D3 _ q]
      have h9 := (h.r.1 r.toNat (by omega)).2.2 (i.toNat + (x - j.toNat)) (by omega)
      rw [show 40 * r.toNat + i.toNat + (40 * to.toNat + x - (40 * to.toNat + j.toNat)) = 40 * r.toNat + (i.toNat + (x - j.toNat)) by omega]
      exact h9
    · rw [C53 _ q, C3 _ q]
      exact (h.r.1 to.toNat (by omega)).2.2 x hx
theorem op_text {r k : Int} (h : CI n μ) (hn : n < 900) : V_ nX7_text 0 [R_ 0, I_ r, I_ k] [] μ (fun x m => V_ nX8_text 0 [R_ 50, I_ r, I_ k, U_] [] m (PR n x)) := by
  refine c_X7_text h.fc (fun q => c_X8_text h.fm (fun _ => ⟨rfl, CI_up h hn⟩) (fun a b => absurd ⟨a, by omega⟩ q) (fun a b => absurd ⟨a, by omega⟩ q)) (fun a b => c_X8_text (fm_fd h) (fun q => absurd ⟨a, by omega⟩ q) (fun _ _ => ⟨rfl, CI_find h hn (by decide)⟩) (fun _ c => absurd c.1 (by omega))) (fun a b => c_X8_text (fun f hf => by rw [mfill_off (by omega), mset_off (by omega)]; exact h.fm f hf) (fun q => absurd ⟨a, b.2⟩ q) (fun _ c => absurd b.1 (by omega)) (fun _ _ => ⟨rfl, ?_⟩))
  generalize hm : mfill (mset (mfill (mset μ 5 r.toNat k) 6 (r * 120).toNat k.toNat 32) 55 r.toNat k) 56 (120 * r).toNat 120 32 = mm
  have A : ∀ o i, o ≠ 5 → o ≠ 6 → o ≠ 55 → o ≠ 56 → mm o i = μ o i := fun o i q1 q2 q3 q4 => by rw [← hm, mfill_off (by omega), mset_off (by omega), mfill_off (by omega), mset_off (by omega)]
  have b6 : ∀ x, mm 6 x = 32 ∨ mm 6 x = μ 6 x := fun x => by
    rw [← hm, mfill_off (by omega), mset_off (by omega)]
    by_cases q : (r * 120).toNat ≤ x ∧ x < (r * 120).toNat + k.toNat
    · exact Or.inl (mfill_in q)
    · exact Or.inr (by rw [mfill_out q, mset_off (by omega)])
  have b56 : ∀ x, mm 56 x = 32 ∨ mm 56 x = μ 56 x := fun x => by
    rw [← hm]
    by_cases q : (120 * r).toNat ≤ x ∧ x < (120 * r).toNat + 120
    · exact Or.inl (mfill_in q)
    · exact Or.inr (by rw [mfill_out q, mset_off (by omega), mfill_off (by omega), mset_off (by omega)])
  refine CI_gen h hn (fun o i q => A o i (by omega) (by omega) (by omega) (by omega)) (by rw [A 50 2 (by omega) (by omega) (by omega) (by omega), A 0 12 (by omega) (by omega) (by omega) (by omega)]; exact h.2.2.1.2.2.1) (CR_text (r := r.toNat) (by omega) (fun o i q => A o i (by omega) (by omega) (by omega) (by omega)) (fun i q => ⟨?_, ?_⟩) (fun i q => ⟨?_, ?_⟩) ⟨?_, ?_⟩ (fun i hi => ?_) (fun x => ?_) h.r)
  · rw [← hm, mfill_off (by omega), mset_off (by omega), mfill_off (by omega), mset_off (by omega)]
  · rw [← hm, mfill_off (by omega), mset_off (by omega), mfill_off (by omega), mset_off (by omega)]
  · rw [← hm, mfill_off (by omega), mset_off (by omega), mfill_out (by omega), mset_off (by omega)]
  · rw [← hm, mfill_out (by omega), mset_off (by omega), mfill_off (by omega), mset_off (by omega)]
  · rw [← hm, mfill_off (by omega), mset_same, mfill_off (by omega), mset_off (by omega), mfill_off (by omega), mset_same]
  · rw [← hm, mfill_off (by omega), mset_off (by omega), mfill_off (by omega), mset_same]; omega
  · have e : mm 5 r.toNat = k := by rw [← hm, mfill_off (by omega), mset_off (by omega), mfill_off (by omega), mset_same]
    rw [e] at hi
    rw [← hm, mfill_in (by omega), mfill_off (by omega), mset_off (by omega), mfill_in (by omega)]
  · have h9 := h.r.2.2 x
    have h6 := b6 x
    have h56 := b56 x
    omega
theorem op_put {r i v : Int} (h : CI n μ) (hn : n < 900) : V_ nX7_put 0 [R_ 0, I_ r, I_ i, I_ v, U_, U_] [] μ (fun x m => V_ nX8_put 0 [R_ 50, I_ r, I_ i, I_ v, U_] [] m (PR n x)) := by
  have e55 : (0 ≤ r ∧ r < 4) → μ 55 r.toNat = μ 5 r.toNat := fun q => (h.r.2.1 r.toNat (by omega)).1
  have hsz : (0 ≤ r ∧ r < 4) → _ := fun q : (0 ≤ r ∧ r < 4) => (h.r.2.1 r.toNat (by omega)).2.1
  have b56 : ∀ j : Nat, j < 480 → -128 ≤ μ 56 j ∧ μ 56 j < 128 := fun j _ => (h.r.2.2 j).2
  refine c_X7_put h.o4 h.fc (fun j => (h.r.2.2 j).1) (fun q => c_X8_put h.fm h.oT b56 (fun _ => ⟨rfl, CI_up h hn⟩) (fun a _ => absurd a q) (fun a _ _ => absurd a q) (fun a _ => absurd a q)) (fun a b => ?_) (fun a b => ?_) (fun a b c => ?_)
  · rw [sz4_lt a] at b
    have hsz := hsz a
    have B : ∀ o k, o ≠ 6 → mset μ 6 (r * 120 + i).toNat (b8 v) o k = μ o k := fun o k q2 => mset_off (by omega)
    refine c_X8_put (fun f hf => by rw [B 51 f (by omega)]; exact h.fm f hf) (fun r' hr' => by rw [B 55 r' (by omega)]; exact h.oT r' hr') (fun j hj => by rw [B 56 j (by omega)]; exact b56 j hj) (fun q => absurd a q) (fun _ c => ?_) (fun _ _ c => ?_) (fun _ _ => ⟨?_, ?_⟩)
    · rw [B 55 _ (by omega), e55 a] at c; omega
    · rw [B 55 _ (by omega), e55 a] at c; omega
    · have h9 := (h.r.2.1 r.toNat (by omega)).2.2 i.toNat (by omega)
      rw [B 56 _ (by omega), show (120 * r + i).toNat = 120 * r.toNat + i.toNat by omega, show (r * 120 + i).toNat = 120 * r.toNat + i.toNat by omega, h9, Int.add_comm]
    · have ix : (120 * r + i).toNat = 120 * r.toNat + i.toNat := by omega
      have iy : (r * 120 + i).toNat = 120 * r.toNat + i.toNat := by omega
      rw [ix, iy]
      have hb8 := b8_in v
      generalize hm : mset (mset μ 6 (120 * r.toNat + i.toNat) (b8 v)) 56 (120 * r.toNat + i.toNat) (b8 v) = mm
      have A : ∀ o k, ¬ (o = 6 ∧ k = 120 * r.toNat + i.toNat) → ¬ (o = 56 ∧ k = 120 * r.toNat + i.toNat) → mm o k = μ o k := fun o k q3 q4 => by rw [← hm, mset_off (by omega), mset_off (by omega)]
      have A6 : mm 6 (120 * r.toNat + i.toNat) = b8 v := by rw [← hm, mset_off (by omega), mset_same]
      have A56 : mm 56 (120 * r.toNat + i.toNat) = b8 v := by rw [← hm, mset_same]
      refine CI_gen h hn (fun o i q => A o i (by omega) (by omega)) (by rw [A 50 2 (by omega) (by omega), A 0 12 (by omega) (by omega)]; exact h.2.2.1.2.2.1) (CR_text (r := r.toNat) (by omega) (fun o i q => A o i (by omega) (by omega)) (fun i q => ⟨A 5 i (by omega) (by omega), A 55 i (by omega) (by omega)⟩) (fun i q => ⟨A 6 i (by omega) (by omega), A 56 i (by omega) (by omega)⟩) ⟨by rw [A 55 _ (by omega) (by omega), A 5 _ (by omega) (by omega)]; exact e55 a, by rw [A 5 _ (by omega) (by omega)]; exact hsz⟩ (fun j hj => ?_) (fun x => ?_) h.r)
      · rw [A 5 _ (by omega) (by omega)] at hj
        by_cases ej : j = i.toNat
        · rw [ej, A6, A56]
        · rw [A 56 _ (by omega) (by omega), A 6 _ (by omega) (by omega)]
          exact (h.r.2.1 r.toNat (by omega)).2.2 j hj
      · by_cases ex : x = 120 * r.toNat + i.toNat
        · rw [ex, A6, A56]; exact ⟨hb8, hb8⟩
        · rw [A 56 _ (by omega) (by omega), A 6 _ (by omega) (by omega)]; exact h.r.2.2 x
  · rw [sz4_lt a] at b
    refine c_X8_put (fm_fd h) (fun r' hr' => by rw [fd_mo (by omega)]; exact h.oT r' hr') (fun j hj => by rw [fd_mo (by omega)]; exact b56 j hj) (fun q => absurd a q) (fun _ c => ⟨rfl, CI_find h hn (by decide)⟩) (fun _ c _ => ?_) (fun _ c => ?_)
    · rw [fd_mo (by omega), e55 a] at c; omega
    · rw [fd_mo (by omega), e55 a] at c; omega
  · rw [sz4_lt a] at b c
    refine c_X8_put (fm_fd h) (fun r' hr' => by rw [fd_mo (by omega)]; exact h.oT r' hr') (fun j hj => by rw [fd_mo (by omega)]; exact b56 j hj) (fun q => absurd a q) (fun _ d => ?_) (fun _ d e => ⟨rfl, CI_find h hn (by decide)⟩) (fun _ d => ?_)
    · rw [fd_mo (by omega), e55 a] at d; omega
    · rw [fd_mo (by omega), e55 a] at d; omega
end
