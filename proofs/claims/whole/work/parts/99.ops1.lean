/-! each call, class and model: what is only asked -/
def PR (n : Nat) (r : PV) (r' : PV) (m' : Mem_) : Prop := r' = r ∧ CI (n + 1) m'
section
variable {n : Nat} {μ : Mem_}
/-- the model's cells behind a call of the class that told or found something -/
theorem tl_mo {v : Int} {o i : Nat} (h : 1 ≤ o) : tlC μ v o i = μ o i := mset_off (by omega)
theorem CP_tl {v : Int} (h : CI n μ) : CP (tlC μ v) μ := CP_fr h.p (fun k _ => tl_mo (by omega)) (fun o k q => tl_mo (by omega))
theorem fm_tl {v : Int} (h : CI n μ) : fmOK (tlC μ v) := fun f hf => by rw [tl_mo (by omega)]; exact h.fm f hf
theorem fd_mo {f o i : Nat} (h : 1 ≤ o ∧ o ≠ 41) : fdC μ f o i = μ o i := by unfold fdC; rw [mset_off (by omega), mset_off (by omega)]
theorem fm_fd {f : Nat} (h : CI n μ) : fmOK (fdC μ f) := fun g hg => by rw [fd_mo (by omega)]; exact h.fm g hg
theorem CP_fd {f : Nat} (h : CI n μ) : CP (fdC μ f) μ := CP_fr h.p (fun k _ => fd_mo (by omega)) (fun o k q => fd_mo (by omega))
theorem op_asked (h : CI n μ) (hn : n < 900) : V_ nX7_asked 0 [R_ 0] [] μ (fun r m => V_ nX8_asked 0 [R_ 50] [] m (PR n r)) :=
  c_X7_asked (c_X8_asked ⟨by rw [h.2.2.1.2.2.1], CI_up h hn⟩)
theorem op_upper (h : CI n μ) (hn : n < 900) : V_ nX7_upper 0 [R_ 0] [] μ (fun r m => V_ nX8_upper 0 [R_ 50] [] m (PR n r)) :=
  c_X7_upper (c_X8_upper ⟨by rw [h.2.2.1.2.2.2.1], CI_up h hn⟩)
theorem op_lower (h : CI n μ) (hn : n < 900) : V_ nX7_lower 0 [R_ 0] [] μ (fun r m => V_ nX8_lower 0 [R_ 50] [] m (PR n r)) :=
  c_X7_lower (c_X8_lower ⟨by rw [h.2.2.1.2.2.2.2], CI_up h hn⟩)
theorem op_finding (h : CI n μ) (hn : n < 900) : V_ nX7_finding 0 [R_ 0] [] μ (fun r m => V_ nX8_finding 0 [R_ 50] [] m (PR n r)) :=
  c_X7_finding (c_X8_finding ⟨by rw [h.2.2.1.1], CI_up h hn⟩)
theorem op_findings {f : Int} (h : CI n μ) (hn : n < 900) : V_ nX7_findings 0 [R_ 0, I_ f] [] μ (fun r m => V_ nX8_findings 0 [R_ 50, I_ f] [] m (PR n r)) :=
  c_X7_findings (c_X8_findings ⟨by
    by_cases q : 1 ≤ f ∧ f ≤ 5
    · rw [if_pos q, if_pos q, (h.2.2.1.2.1 f.toNat (by omega)).1]
    · rw [if_neg q, if_neg q], CI_up h hn⟩)
theorem op_told {e what : Int} (h : CI n μ) (hn : n < 900) : V_ nX7_told 0 [R_ 0, I_ e, I_ what] [] μ (fun r m => V_ nX8_told 0 [R_ 50, I_ e, I_ what] [] m (PR n r)) :=
  c_X7_told h.w.2.2.1.1.2 (fun q => c_X8_told h.w.2.2.1.1 h.p.2.2.2 (fun _ => ⟨rfl, CI_up h hn⟩) (fun a b => absurd ⟨a, b⟩ q)) (fun a b => c_X8_told h.w.2.2.1.1 (CP_tl h).2.2.2 (fun q => absurd ⟨a, b⟩ q) (fun _ _ => ⟨rfl, CI_tell h hn rfl⟩))
theorem op_mark {e kind : Int} (h : CI n μ) (hn : n < 900) : V_ nX7_mark 0 [R_ 0, I_ e, I_ kind] [] μ (fun r m => V_ nX8_mark 0 [R_ 50, I_ e, I_ kind, U_, U_, U_, U_] [] m (PR n r)) :=
  c_X7_mark h.w.2.2.1.1.2 h.fc (fun q => c_X8_mark h.w.2.2.1.1 h.fm h.p.2.2.2 (fun _ => ⟨rfl, CI_up h hn⟩) (fun a b => absurd ⟨a, b⟩ q) (fun a b => absurd ⟨a, b⟩ q)) (fun a b c => c_X8_mark h.w.2.2.1.1 (fm_fd h) (CP_fd h).2.2.2 (fun q => absurd ⟨a, b⟩ q) (fun _ _ _ => ⟨rfl, CI_find h hn (by decide)⟩) (fun _ _ d => absurd d c)) (fun a b c => c_X8_mark h.w.2.2.1.1 h.fm h.p.2.2.2 (fun q => absurd ⟨a, b⟩ q) (fun _ _ d => absurd c d) (fun _ _ _ => ⟨rfl, CI_up h hn⟩))
theorem op_house {g what : Int} (h : CI n μ) (hn : n < 900) : V_ nX7_house 0 [R_ 0, I_ g, I_ what] [] μ (fun r m => V_ nX8_house 0 [R_ 50, I_ g, I_ what] [] m (PR n r)) :=
  c_X7_house h.st h.w.1.2 h.w.P (fun q => c_X8_house h.w.1.2 h.p.1 h.p.2.1 h.p.2.2.1 (fun _ => ⟨rfl, CI_up h hn⟩) (fun a b => absurd ⟨a, b⟩ q)) (fun a b => c_X8_house h.w.1.2 (CP_tl h).1 (CP_tl h).2.1 (CP_tl h).2.2.1 (fun q => absurd ⟨a, b⟩ q) (fun _ _ => ⟨rfl, CI_tell h hn rfl⟩))
theorem op_person {g what : Int} (h : CI n μ) (hn : n < 900) : V_ nX7_person 0 [R_ 0, I_ g, I_ what] [] μ (fun r m => V_ nX8_person 0 [R_ 50, I_ g, I_ what] [] m (PR n r)) :=
  c_X7_person h.st h.w.1.2 h.w.P (fun q => c_X8_person h.w.P h.w.1.2 h.p.1 h.p.2.1 (fun _ => ⟨rfl, CI_up h hn⟩) (fun a b => absurd ⟨a, b⟩ q)) (fun a b => c_X8_person h.w.P h.w.1.2 (CP_tl h).1 (CP_tl h).2.1 (fun q => absurd ⟨a, b⟩ q) (fun _ _ => ⟨rfl, CI_tell h hn rfl⟩))
theorem op_key {g what : Int} (h : CI n μ) (hn : n < 900) : V_ nX7_key 0 [R_ 0, I_ g, I_ what] [] μ (fun r m => V_ nX8_key 0 [R_ 50, I_ g, I_ what] [] m (PR n r)) :=
  c_X7_key h.w.P (fun q => c_X8_key h.w.P h.p.2.1 (fun _ => ⟨rfl, CI_up h hn⟩) (fun a b => absurd ⟨a, b⟩ q)) (fun a b => c_X8_key h.w.P (CP_tl h).2.1 (fun q => absurd ⟨a, b⟩ q) (fun _ _ => ⟨rfl, CI_tell h hn rfl⟩))
theorem op_trust {a b : Int} (h : CI n μ) (hn : n < 900) : V_ nX7_trust 0 [R_ 0, I_ a, I_ b] [] μ (fun r m => V_ nX8_trust 0 [R_ 50, I_ a, I_ b] [] m (PR n r)) :=
  c_X7_trust h.st h.w.1.2 (fun q => c_X8_trust h.w.1.2 h.p.1 h.p.2.1 (fun _ => ⟨rfl, CI_up h hn⟩) (fun a b c => absurd ⟨a, b, c⟩ q)) (fun a b c => c_X8_trust h.w.1.2 (CP_tl h).1 (CP_tl h).2.1 (fun q => absurd ⟨a, b, c⟩ q) (fun _ _ _ => ⟨rfl, CI_tell h hn rfl⟩))
theorem op_alone {p : Int} (h : CI n μ) (hn : n < 900) : V_ nX7_alone 0 [R_ 0, I_ p] [] μ (fun r m => V_ nX8_alone 0 [R_ 50, I_ p] [] m (PR n r)) :=
  c_X7_alone h.st h.w.P h.w.2.2.2.1 (fun q => c_X8_alone h.w h.p (fun _ => ⟨rfl, CI_up h hn⟩) (fun a => absurd a q)) (fun a => c_X8_alone h.w h.p (fun q => absurd a q) (fun _ => ⟨rfl, CI_up h hn⟩))
theorem op_stuck (h : CI n μ) (hn : n < 900) : V_ nX7_stuck 0 [R_ 0, U_, U_, U_, U_] [] μ (fun r m => V_ nX8_stuck 0 [R_ 50, U_, U_, U_, U_] [] m (PR n r)) :=
  c_X7_stuck h.st h.w.1.2 h.w.P h.w.2.2.2.1 (c_X8_stuck h.w (CP_tl h) ⟨rfl, CI_tell h hn rfl⟩)
theorem op_suspects {g : Int} (h : CI n μ) (hn : n < 900) : V_ nX7_suspects 0 [R_ 0, I_ g, U_, U_, U_, U_] [] μ (fun r m => V_ nX8_suspects 0 [R_ 50, I_ g, U_, U_, U_] [] m (PR n r)) :=
  c_X7_suspects h.st h.w.1.2 h.w.P h.w.2.2.2.1 (fun q => c_X8_suspects h.w h.p (fun _ => ⟨rfl, CI_up h hn⟩) (fun a => absurd a q)) (fun a => c_X8_suspects h.w (CP_tl h) (fun q => absurd a q) (fun _ => ⟨rfl, CI_tell h hn rfl⟩))
theorem op_dead {g : Int} (h : CI n μ) (hn : n < 900) : V_ nX7_dead 0 [R_ 0, I_ g, U_, U_, U_] [] μ (fun r m => V_ nX8_dead 0 [R_ 50, I_ g, U_, U_, U_, U_] [] m (PR n r)) :=
  c_X7_dead h.st h.w.P (fun q => c_X8_dead h.w.P h.w.1.2 h.p.1 h.p.2.1 (fun _ => ⟨rfl, CI_up h hn⟩) (fun a => absurd a q)) (fun a => c_X8_dead h.w.P h.w.1.2 (CP_tl h).1 (CP_tl h).2.1 (fun q => absurd a q) (fun _ => ⟨rfl, CI_tell h hn rfl⟩))
theorem op_count {what : Int} (h : CI n μ) (hn : n < 900) : V_ nX7_count 0 [R_ 0, I_ what] [] μ (fun r m => V_ nX8_count 0 [R_ 50, I_ what] [] m (PR n r)) :=
  c_X7_count h.st h.w.P h.w.2.2.1.1 (fun q => c_X8_count h.w h.p h.r (fun _ => ⟨rfl, CI_up h hn⟩) (fun a => absurd a q)) (fun a => c_X8_count h.w h.p h.r (fun q => absurd a q) (fun _ => ⟨rfl, CI_up h hn⟩))
theorem op_digest (h : CI n μ) (hn : n < 900) : V_ nX7_digest 0 [R_ 0, U_, U_, U_, U_] [] μ (fun r m => V_ nX8_digest 0 [R_ 50, U_, U_] [] m (PR n r)) := by
  have hst := h.st
  refine c_X7_digest h.st h.w.1.2 h.w.P h.w.2.2.1.1 h.o1 h.o4 (c_X8_digest h.w h.p h.r ⟨rfl, ?_⟩)
  have hof : ∀ o i, ¬ (o = 50 ∧ i = 49) → hx μ (dgC μ) o i = μ o i := fun o i q => hx_off q
  have hF := (CI_up h hn).2.2.1
  exact CI_put h (by omega) (by omega) (fun o i q => hof o i (by omega)) ⟨fun k q => hof 50 k (by omega), fun o k q => hof o k (by omega)⟩ (fun o i q => hof o i (by omega)) ⟨fun i q => hof 0 i (by omega), hof 12 0 (by omega), hof 28 3 (by omega), fun i => hof 31 i (by omega)⟩ ⟨by rw [hof 50 0 (by omega), hof 0 11 (by omega)]; exact hF.1, fun f hf => by rw [hof 51 f (by omega), hof 41 f (by omega)]; exact hF.2.1 f hf, by rw [hof 50 2 (by omega), hof 0 12 (by omega)]; exact hF.2.2.1, by rw [hof 50 3 (by omega), hof 0 13 (by omega)]; exact hF.2.2.2.1, by rw [hof 50 4 (by omega), hof 0 14 (by omega)]; exact hF.2.2.2.2⟩
theorem bst_tell {G : Nat → Prop} {best : Int} (h : BST G 0 best) : 0 ≤ best ∨ best = -9 := by
  rcases h with h | ⟨b, hb, _⟩
  · exact Or.inr h.1
  · exact Or.inl (by omega)
theorem op_wake {p g own : Int} (h : CI n μ) (hn : n < 900) : V_ nX7_wake 0 [R_ 0, I_ p, I_ g, I_ own, U_] [] μ (fun r m => V_ nX8_wake 0 [R_ 50, I_ p, I_ g, I_ own, U_, U_, U_, U_] [] m (PR n r)) := by
  have s2 := h.w.1.2.2.1
  have lc := cw_lt (w := μ) (p := p) s2.2
  have fin : ∀ best : Int, BST (gdW μ p g own) 0 best → _ := fun best hb => BST_end (un := (unC μ p own).testBit g.toNat = true) (wk := fun q => q < (μ (stc μ) 1).toNat ∧ wkC μ p g (q : Int)) hb (by omega) (fun t => gdW_iff) (fun q hq => cw_bit.2 ⟨hq.1, hq.2.1⟩)
  refine c_X7_wake h.st h.w.1.2 h.w.P h.w.2.2.2.1 (fun q => c_X8_wake h.w h.p (fun _ => ⟨rfl, CI_up h hn⟩) (fun a b => absurd ⟨a, b⟩ q) (fun a b => absurd ⟨a, b⟩ q)) (fun a b hu => ?_) (fun a b hu q hq hk hj => ?_) (fun a b hu hno => ?_)
  · refine c_X8_wake h.w (CP_tl h) (fun q => absurd ⟨a, b⟩ q) (fun _ _ best hb hne => ?_) (fun _ _ hb => ?_)
    · have e := (fin best hb).1 hu
      subst e
      exact ⟨by rw [show (0 : Int).toNat = 0 from rfl, cnt_z]; rfl, CI_tell h hn rfl⟩
    · have := (fin _ hb).1 hu
      omega
  · refine c_X8_wake h.w (CP_tl h) (fun q => absurd ⟨a, b⟩ q) (fun _ _ best hb hne => ?_) (fun _ _ hb => ?_)
    · have e := (fin best hb).2.1 hu q.toNat ⟨by omega, by rw [show ((q.toNat : Nat) : Int) = q by omega]; exact hk⟩ (fun j hj2 hw => hj j (by omega) (by omega) hw.2)
      subst e
      exact ⟨by rw [Int.toNat_natCast, cnt_p (by omega)]; rfl, CI_tell h hn rfl⟩
    · have e := (fin _ hb).2.1 hu q.toNat ⟨by omega, by rw [show ((q.toNat : Nat) : Int) = q by omega]; exact hk⟩ (fun j hj2 hw => hj j (by omega) (by omega) hw.2)
      have hp : 0 < 2 ^ q.toNat := Nat.two_pow_pos _
      omega
  · refine c_X8_wake h.w h.p (fun q => absurd ⟨a, b⟩ q) (fun _ _ best hb hne => ?_) (fun _ _ hb => ⟨rfl, CI_up h hn⟩)
    exact absurd ((fin best hb).2.2 hu (fun q hq => hno q (by omega) (by omega) hq.2)) hne
theorem op_copies {p g : Int} (h : CI n μ) (hn : n < 900) : V_ nX7_copies 0 [R_ 0, I_ p, I_ g, U_, U_] [] μ (fun r m => V_ nX8_copies 0 [R_ 50, I_ p, I_ g, U_, U_, U_, U_] [] m (PR n r)) := by
  have s1 := h.w.1.2.1
  have lpo : poN μ p.toNat < 2 ^ 6 := orR_lt (fun k hk => by
    have := h.w.P.2 k (by omega)
    unfold poF
    split
    · exact Nat.pow_lt_pow_right (by omega) (by omega)
    · decide)
  have fin : ∀ best : Int, BST (gdC μ p g) 0 best → _ := fun best hb => BST_end (un := (unC μ p 1).testBit g.toNat = true) (wk := fun q => cpC μ p g (q : Int)) hb (by omega) (fun t => gdC_iff h.w.P) (fun q hq => by have := hq.1; rwa [Int.toNat_natCast] at this)
  have hnH : ∀ q : Nat, cpC μ p g (q : Int) → (q : Int) < μ (stc μ) 0 := fun q hq => by
    have h1 := hq.1
    rw [Int.toNat_natCast] at h1
    obtain ⟨k, k1, k2, k3, k4⟩ := po_bit.1 h1
    have := h.w.2.1.1.2 k (by omega)
    omega
  refine c_X7_copies h.st h.w.1.2 h.w.P h.w.2.2.2.1 (fun q => c_X8_copies h.w h.p (fun _ => ⟨rfl, CI_up h hn⟩) (fun a b c => absurd ⟨a, b, c⟩ q) (fun a b c => absurd ⟨a, b, c⟩ q)) (fun a b c hu => ?_) (fun a b c hu q hq hk hj => ?_) (fun a b c hu hno => ?_)
  · refine c_X8_copies h.w (CP_tl h) (fun q => absurd ⟨a, b, c⟩ q) (fun _ _ _ best hb hne => ?_) (fun _ _ _ hb => ?_)
    · have e := (fin best hb).1 hu
      subst e
      exact ⟨by rw [show (0 : Int).toNat = 0 from rfl, cnt_z]; rfl, CI_tell h hn rfl⟩
    · have := (fin _ hb).1 hu
      omega
  · refine c_X8_copies h.w (CP_tl h) (fun q => absurd ⟨a, b, c⟩ q) (fun _ _ _ best hb hne => ?_) (fun _ _ _ hb => ?_)
    · have e := (fin best hb).2.1 hu q.toNat (by rw [show ((q.toNat : Nat) : Int) = q by omega]; exact hk) (fun j hj2 hw => hj j (by omega) (by omega) hw)
      subst e
      exact ⟨by rw [Int.toNat_natCast, cnt_p (by omega)]; rfl, CI_tell h hn rfl⟩
    · have e := (fin _ hb).2.1 hu q.toNat (by rw [show ((q.toNat : Nat) : Int) = q by omega]; exact hk) (fun j hj2 hw => hj j (by omega) (by omega) hw)
      have hp : 0 < 2 ^ q.toNat := Nat.two_pow_pos _
      omega
  · refine c_X8_copies h.w h.p (fun q => absurd ⟨a, b, c⟩ q) (fun _ _ _ best hb hne => ?_) (fun _ _ _ hb => ⟨rfl, CI_up h hn⟩)
    exact absurd ((fin best hb).2.2 hu (fun q hq => hno q (by omega) (hnH q hq) hq)) hne
end
