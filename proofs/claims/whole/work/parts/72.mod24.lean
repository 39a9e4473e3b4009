/-! the model over the class: which copies -/
section
variable {μ w : Mem_} {Q : PV → Mem_ → Prop}
def poN (w : Mem_) (p : Nat) : Nat := orR (w 17 0).toNat (poF w p)
theorem po_bit {p i : Nat} : (poN w p).testBit i = true ↔ ∃ k, k < (w 17 0).toNat ∧ (w 22 k).toNat.testBit p = true ∧ liveC w k ∧ (w 18 k).toNat = i := by
  unfold poN
  rw [orR_bit]
  constructor
  · rintro ⟨k, h1, h2⟩
    unfold poF at h2
    by_cases hp : (w 22 k).toNat.testBit p = true ∧ liveC w k
    · rw [if_pos hp] at h2
      exact ⟨k, h1, hp.1, hp.2, pw_bit.1 h2⟩
    · rw [if_neg hp] at h2; simp at h2
  · rintro ⟨k, h1, h2, h3, h4⟩
    refine ⟨k, h1, ?_⟩
    unfold poF
    rw [if_pos ⟨h2, h3⟩]
    exact pw_bit.2 h4
theorem pl_0 {p g : Nat} : orR (w 17 0).toNat (plF w p (fun x => (2 ^ g).testBit x = true)) = 0 ↔ ¬ (poN w p).testBit g = true := by
  rw [po_bit]
  constructor
  · rintro h ⟨k, h1, h2, h3, h4⟩
    have := (orP_bit (P := fun k => liveC w k ∧ (w 22 k).toNat.testBit p = true ∧ (2 ^ g).testBit (w 18 k).toNat = true)).2 ⟨h1, h3, h2, pw_bit.2 h4.symm⟩
    have e : (0 : Nat).testBit k = true := by rw [← h]; exact this
    simp at e
  · intro h
    apply Nat.eq_of_testBit_eq
    intro k
    rw [Nat.zero_testBit]
    cases hb : (orR (w 17 0).toNat (plF w p (fun x => (2 ^ g).testBit x = true))).testBit k with
    | false => rfl
    | true =>
      have := (orP_bit (P := fun k => liveC w k ∧ (w 22 k).toNat.testBit p = true ∧ (2 ^ g).testBit (w 18 k).toNat = true)).1 hb
      exact absurd ⟨k, this.1, this.2.2.1, this.2.1, (pw_bit.1 this.2.2.2).symm⟩ h
def gdC (w : Mem_) (p h : Int) (t : Nat) : Prop := sb t (poN w p.toNat) ∧ (unC w p 1 ||| cfN w (ohN w (orR (w 17 0).toNat (plF w p.toNat (fun x => t.testBit x = true))))).testBit h.toNat = true
theorem gdC_iff {p h : Int} {t : Nat} (hp : PIc w) : gdC w p h t ↔ sb t (poN w p.toNat) ∧ ((unC w p 1).testBit h.toNat = true ∨ ∃ g, t.testBit g = true ∧ cpC w p h (g : Int)) := by
  have e : sb t (poN w p.toNat) → ohN w (orR (w 17 0).toNat (plF w p.toNat (fun x => t.testBit x = true))) = orR 6 (fun g => if t.testBit g = true then 2 ^ g else 0) := by
    intro hs
    apply bx
    intro i
    rw [oh_pl, orP_bit (P := fun g => t.testBit g = true)]
    constructor
    · rintro ⟨h1, h2⟩
      obtain ⟨k, k1, k2, k3, k4⟩ := po_bit.1 h1
      have := hp.2 k (by omega)
      exact ⟨by omega, h2⟩
    · rintro ⟨h1, h2⟩
      exact ⟨hs i h2, h2⟩
  unfold gdC cpC
  constructor
  · rintro ⟨h1, h2⟩
    refine ⟨h1, ?_⟩
    rw [e h1, or_bit, cf_orR] at h2
    rcases h2 with h2 | ⟨q, q1, q2⟩
    · exact Or.inl h2
    · refine Or.inr ⟨q, ?_⟩
      by_cases hb : t.testBit q = true
      · rw [if_pos hb] at q2
        rw [Int.toNat_natCast]
        exact ⟨hb, h1 q hb, q2⟩
      · rw [if_neg hb, cf0] at q2; simp at q2
  · rintro ⟨h1, h2⟩
    refine ⟨h1, ?_⟩
    rw [e h1, or_bit, cf_orR]
    rcases h2 with h2 | ⟨q, q1, q2⟩
    · exact Or.inl h2
    · rw [Int.toNat_natCast] at q2
      obtain ⟨k, k1, k2, k3, k4⟩ := po_bit.1 q2.1
      have := hp.2 k (by omega)
      refine Or.inr ⟨q, by omega, ?_⟩
      rw [if_pos q1]
      exact q2.2
set_option maxRecDepth 10000 in
theorem c_X8_copies {p h : Int} (hw : CW w) (hc : CP μ w) (h1 : ¬ ((0 ≤ p ∧ p < w (stc w) 1) ∧ (0 ≤ h ∧ h < w (stc w) 0) ∧ w (stc w + 2) p.toNat ≠ h) → Q (I_ (-1)) μ)
    (h2 : (0 ≤ p ∧ p < w (stc w) 1) → (0 ≤ h ∧ h < w (stc w) 0) → w (stc w + 2) p.toNat ≠ h → ∀ best : Int, BST (gdC w p h) 0 best → best ≠ -9 → Q (I_ ((cntB 32 best.toNat : Nat) : Int)) (mtT μ best))
    (h3 : (0 ≤ p ∧ p < w (stc w) 1) → (0 ≤ h ∧ h < w (stc w) 0) → w (stc w + 2) p.toNat ≠ h → BST (gdC w p h) 0 (-9) → Q (I_ (-9)) μ) : V_ nX8_copies 0 [R_ 50, I_ p, I_ h, U_, U_, U_, U_] [] μ Q := by
  have c1 := hc.1.1
  have s1 := hw.1.2.1
  have s2 := hw.1.2.2.1
  have hre := hw.2.2.2.1
  have hp := hw.P
  have lpo : poN w p.toNat < 2 ^ (w (stc w) 0).toNat := orR_lt (fun k hk => by
    have := hw.2.1.1.2 k (by omega)
    unfold poF
    split
    · exact Nat.pow_lt_pow_right (by omega) (by omega)
    · exact Nat.two_pow_pos _)
  have hpos : 0 < 2 ^ (w (stc w) 0).toNat := Nat.two_pow_pos _
  have hle : 2 ^ (w (stc w) 0).toNat ≤ 2 ^ 6 := Nat.pow_le_pow_right (by omega) (by omega)
  have e1 : ((2 ^ (w (stc w) 0).toNat : Nat) : Int) - 1 = ((2 ^ (w (stc w) 0).toNat - 1 : Nat) : Int) := by omega
  have lb : ∀ best s, BST (gdC w p h) s best → best ≠ -9 → 0 ≤ best ∧ best < 2 ^ 6 := by
    intro best s hb hne
    rcases hb with hb | ⟨b, b1, b2, _⟩
    · exact absurd hb.1 hne
    · have := sb_le b2.1
      omega
  have hasS : ∀ s : Nat, s < 64 → ∀ g : Int, 0 ≤ g → g < 6 → bAnd (bShr (s : Int) g) 1 = b2i (s.testBit g.toNat = true) := by
    intro s hs g g0 g1
    have := bit_has (s := (s : Int)) (i := g) (by omega) ⟨by omega, by omega⟩ g0 (by omega)
    rwa [Int.toNat_natCast] at this
  have lp : (0 ≤ p ∧ p < w (stc w) 1) → (0 ≤ h ∧ h < w (stc w) 0) → w (stc w + 2) p.toNat ≠ h → ∀ n : Nat, n ≤ 2 ^ (w (stc w) 0).toNat → ∀ best : Int, BST (gdC w p h) n best → V_ nX8_copies 41 [R_ 50, I_ p, I_ h, I_ best, I_ ((n : Int) - 1), U_, U_] [] μ Q := by
    intro hpp hhh hne
    refine loop_dn (fun s => s) (fun n ih => ?_)
    intro hn best hbst
    have lb1 := lb best _ hbst
    by_cases hn0 : n = 0
    · subst hn0
      refine v_iload dX8_copies_41 rfl ?_
      refine v_if_lt (tgt := 168) dX8_copies_43 (by decide) (fun hc_43 => ?_) (fun hc_43 => ?_)
      · refine v_iload_n dX8_copies_168 rfl rfl ?_
        refine v_bipush dX8_copies_169 (by decide) ?_
        refine v_icmp_ne (tgt := 179) dX8_copies_171 (by decide) (fun hc_171 => ?_) (fun hc_171 => ?_)
        · refine v_aload_n dX8_copies_179 rfl rfl ?_
          refine v_iload_n dX8_copies_180 rfl rfl ?_
          refine v_iload_n dX8_copies_181 rfl rfl ?_
          rw [show I_ best = I_ ((best.toNat : Nat) : Int) by rw [show ((best.toNat : Nat) : Int) = best by have := lb1 (by omega); omega]]
          refine v_callSi [_] dX8_copies_182 lX8_268 ksX8_bits (plX8 _ _) (Or.inl rfl) rfl rfl rfl rfl rfl rfl (c_X8_bits (s := best.toNat) (by have := lb1 (by omega); omega) ?_)
          refine v_callVi [_, _] dX8_copies_185 lX8_134 kvX8_tells (plX8 _ _) (Or.inl rfl) rfl rfl rfl rfl rfl rfl rfl rfl rfl (c_X8_tells ?_)
          refine v_ireturn dX8_copies_188 rfl ?_
          rw [show ((best.toNat : Nat) : Int) = best by have := lb1 (by omega); omega]
          exact h2 hpp hhh hne best hbst (by omega)
        · refine v_bipush dX8_copies_174 (by decide) ?_
          refine v_goto (tgt := 188) dX8_copies_176 (by decide) ?_
          refine v_ireturn dX8_copies_188 rfl ?_
          rw [show best = -9 by omega] at hbst
          exact h3 hpp hhh hne hbst
      · refine v_iconst dX8_copies_46 (by decide) ?_
        refine v_istore (ls' := [_, _, _, _, _, _, _]) dX8_copies_47 rfl rfl rfl ?_
        refine v_iconst dX8_copies_49 (by decide) ?_
        refine v_istore (ls' := [_, _, _, _, _, _, _]) dX8_copies_50 rfl rfl rfl ?_
        exfalso; omega
    · obtain ⟨s, rfl⟩ : ∃ s, n = s + 1 := ⟨n - 1, by omega⟩
      rw [show ((s + 1 : Nat) : Int) - 1 = (s : Int) by omega]
      have hs64 : s < 64 := by omega
      have l1 := unC_lt hp hre p 1
      have l3 := held_lt hp (f := plF w p.toNat (fun x => s.testBit x = true)) (fun k => if_pw)
      have l2 : cfN w (ohN w (orR (w 17 0).toNat (plF w p.toNat (fun x => s.testBit x = true)))) < 2 ^ 6 := cfN_lt hre (oh_lt hp)
      have l4 := Nat.or_lt_two_pow l1 l2
      have inner : ∀ k : Int, 0 ≤ k → k ≤ w (stc w) 0 → ∀ o : Int, ((o = 1 ∧ ∀ j : Nat, (j : Int) < k → s.testBit j = true → (poN w p.toNat).testBit j = true) ∨ (o = 0 ∧ ¬ ∀ j : Nat, (j : Int) < k → s.testBit j = true → (poN w p.toNat).testBit j = true)) → V_ nX8_copies 52 [R_ 50, I_ p, I_ h, I_ best, I_ (s : Int), I_ o, I_ k] [] μ Q := by
        refine loop_up _ (fun k h0 h1 ihk => ?_)
        intro o ho
        have lk : k < w (stc w) 0 → (2 : Nat) ^ k.toNat < 64 := fun q => Nat.pow_lt_pow_right (m := k.toNat) (n := 6) (by omega) (by omega)
        have stp : ∀ o' : Int, k < w (stc w) 0 → ((o' = 1 ∧ o = 1 ∧ (s.testBit k.toNat = true → (poN w p.toNat).testBit k.toNat = true)) ∨ (o' = 0 ∧ (o = 0 ∨ ¬ (s.testBit k.toNat = true → (poN w p.toNat).testBit k.toNat = true)))) → V_ nX8_copies 52 [R_ 50, I_ p, I_ h, I_ best, I_ (s : Int), I_ o', I_ (k + 1)] [] μ Q := by
          intro o' hk ho'
          refine ihk hk o' ?_
          rcases ho' with ⟨q1, q2, q3⟩ | ⟨q1, q2⟩
          · refine Or.inl ⟨q1, fun j hj hb => ?_⟩
            by_cases ej : j = k.toNat
            · rw [ej] at hb ⊢; exact q3 hb
            · exact (ho.resolve_right (fun q => by omega)).2 j (by omega) hb
          · refine Or.inr ⟨q1, fun hall => ?_⟩
            rcases q2 with q2 | q2
            · exact (ho.resolve_left (fun q => by omega)).2 (fun j hj => hall j (by omega))
            · exact q2 (hall k.toNat (by omega))
        have offin : k = w (stc w) 0 → (o = 1 ↔ sb s (poN w p.toNat)) := by
          intro hk
          constructor
          · intro q j hb
            exact (ho.resolve_right (fun q => by omega)).2 j (by have := bit_lt (m := (w (stc w) 0).toNat) (by omega) hb; omega) hb
          · intro q
            rcases ho with q2 | q2
            · exact q2.1
            · exact absurd (fun j _ hb => q j hb) q2.2
        have go : ∀ best' : Int, BST (gdC w p h) s best' → V_ nX8_copies 41 [R_ 50, I_ p, I_ h, I_ best', I_ ((s : Int) + -1), U_, U_] [] μ Q := by
          intro best' hb'
          have := ih s (by omega) (by omega) best' hb'
          rwa [show (s : Int) - 1 = (s : Int) + -1 by omega] at this
        have o01 : o = 0 ∨ o = 1 := by
          rcases ho with q | q
          · exact Or.inr q.1
          · exact Or.inl q.1
        refine v_iload dX8_copies_52 rfl ?_
        refine v_aload_n dX8_copies_54 rfl rfl ?_
        refine v_getI dX8_copies_55 fX8_180 rfl rfl rfl ?_
        refine v_icmp_ge (tgt := 101) dX8_copies_58 (by decide) (fun hc_58 => ?_) (fun hc_58 => ?_)
        · refine v_iload_n dX8_copies_101 rfl rfl ?_
          refine v_bipush dX8_copies_102 (by decide) ?_
          refine v_icmp_eq (tgt := 119) dX8_copies_104 (by decide) (fun hc_104 => ?_) (fun hc_104 => ?_)
          · refine v_iconst dX8_copies_119 (by decide) ?_
            refine v_goto (tgt := 124) dX8_copies_120 (by decide) ?_
            refine v_istore (ls' := [_, _, _, _, _, _, _]) dX8_copies_124 rfl rfl rfl ?_
            refine v_iload dX8_copies_126 rfl ?_
            refine v_if_eq (tgt := 160) dX8_copies_128 (by decide) (fun hc_128 => ?_) (fun hc_128 => ?_)
            · refine v_iload_n dX8_copies_160 rfl rfl ?_
              refine v_istore_n (ls' := [_, _, _, _, _, _, _]) dX8_copies_161 rfl rfl rfl rfl ?_
              refine v_iinc (ls' := [_, _, _, _, _, _, _]) dX8_copies_162 rfl (fun hi_162 => by omega) rfl rfl ?_
              refine v_goto (tgt := 41) dX8_copies_165 (by decide) ?_
              refine v_kill (ls' := [_, _, _, _, _, _, _]) 5 rfl ?_
              refine v_kill (ls' := [_, _, _, _, _, _, _]) 6 rfl ?_
              try rw [show ((best.toNat : Nat) : Int) = best by have := lb1 (by omega); omega]
              first
                | exact go best (BST_skip hbst (Or.inl (fun g => by have := (offin (by omega)).2 g.1; omega)))
                | exact go best (BST_skip hbst (Or.inl (fun g => hc_152 (by simpa using g.2))))
                | exact go (s : Int) (BST_take hbst ⟨(offin (by omega)).1 (by omega), by simpa using hc_152⟩ (Or.inl (by omega)))
                | exact go (s : Int) (BST_take hbst ⟨(offin (by omega)).1 (by omega), by simpa using hc_152⟩ (Or.inr ⟨best.toNat, by have := lb1 (by omega); omega, by omega⟩))
                | exact go best (BST_skip hbst (Or.inr ⟨best.toNat, by have := lb1 (by omega); omega, by omega⟩))
                | (exfalso; omega)
            · refine v_iload dX8_copies_131 rfl ?_
              refine v_if_eq (tgt := 160) dX8_copies_133 (by decide) (fun q => absurd q (by decide)) (fun _ => ?_)
              refine v_aload_n dX8_copies_136 rfl rfl ?_
              refine v_iload_n dX8_copies_137 rfl rfl ?_
              refine v_aload_n dX8_copies_138 rfl rfl ?_
              refine v_iload_n dX8_copies_139 rfl rfl ?_
              refine v_iload dX8_copies_140 rfl ?_
              refine v_callVi [_, _] dX8_copies_142 lX8_323 kvX8_passedLive (plX8 _ _) (Or.inl rfl) rfl rfl rfl rfl rfl rfl rfl rfl rfl (c_X8_passedLive (H := fun x => s.testBit x = true) hw hc (by omega) (hasS _ hs64) ?_)
              refine v_callVi [_, _] dX8_copies_145 lX8_258 kvX8_aloneOf (plX8 _ _) (Or.inl rfl) rfl rfl rfl rfl rfl rfl rfl rfl rfl (c_X8_aloneOf hw hc (by omega) l3 ?_)
              refine v_iload_n dX8_copies_148 rfl rfl ?_
              refine v_callSi [_, _] dX8_copies_149 lX8_252 ksX8_has (plX8 _ _) (Or.inr rfl) rfl rfl rfl rfl rfl rfl (c_X8_has (by omega) (by omega) (by omega) ?_)
              refine v_ifb_eq (tgt := 160) dX8_copies_152 (by decide) (fun hc_152 => ?_) (fun hc_152 => ?_)
              · refine v_iload_n dX8_copies_160 rfl rfl ?_
                refine v_istore_n (ls' := [_, _, _, _, _, _, _]) dX8_copies_161 rfl rfl rfl rfl ?_
                refine v_iinc (ls' := [_, _, _, _, _, _, _]) dX8_copies_162 rfl (fun hi_162 => by omega) rfl rfl ?_
                refine v_goto (tgt := 41) dX8_copies_165 (by decide) ?_
                refine v_kill (ls' := [_, _, _, _, _, _, _]) 5 rfl ?_
                refine v_kill (ls' := [_, _, _, _, _, _, _]) 6 rfl ?_
                try rw [show ((best.toNat : Nat) : Int) = best by have := lb1 (by omega); omega]
                first
                  | exact go best (BST_skip hbst (Or.inl (fun g => by have := (offin (by omega)).2 g.1; omega)))
                  | exact go best (BST_skip hbst (Or.inl (fun g => hc_152 (by simpa using g.2))))
                  | exact go (s : Int) (BST_take hbst ⟨(offin (by omega)).1 (by omega), by simpa using hc_152⟩ (Or.inl (by omega)))
                  | exact go (s : Int) (BST_take hbst ⟨(offin (by omega)).1 (by omega), by simpa using hc_152⟩ (Or.inr ⟨best.toNat, by have := lb1 (by omega); omega, by omega⟩))
                  | exact go best (BST_skip hbst (Or.inr ⟨best.toNat, by have := lb1 (by omega); omega, by omega⟩))
                  | (exfalso; omega)
              · refine v_iload dX8_copies_155 rfl ?_
                refine v_goto (tgt := 161) dX8_copies_157 (by decide) ?_
                refine v_istore_n (ls' := [_, _, _, _, _, _, _]) dX8_copies_161 rfl rfl rfl rfl ?_
                refine v_iinc (ls' := [_, _, _, _, _, _, _]) dX8_copies_162 rfl (fun hi_162 => by omega) rfl rfl ?_
                refine v_goto (tgt := 41) dX8_copies_165 (by decide) ?_
                refine v_kill (ls' := [_, _, _, _, _, _, _]) 5 rfl ?_
                refine v_kill (ls' := [_, _, _, _, _, _, _]) 6 rfl ?_
                try rw [show ((best.toNat : Nat) : Int) = best by have := lb1 (by omega); omega]
                first
                  | exact go best (BST_skip hbst (Or.inl (fun g => by have := (offin (by omega)).2 g.1; omega)))
                  | exact go best (BST_skip hbst (Or.inl (fun g => hc_152 (by simpa using g.2))))
                  | exact go (s : Int) (BST_take hbst ⟨(offin (by omega)).1 (by omega), by simpa using hc_152⟩ (Or.inl (by omega)))
                  | exact go (s : Int) (BST_take hbst ⟨(offin (by omega)).1 (by omega), by simpa using hc_152⟩ (Or.inr ⟨best.toNat, by have := lb1 (by omega); omega, by omega⟩))
                  | exact go best (BST_skip hbst (Or.inr ⟨best.toNat, by have := lb1 (by omega); omega, by omega⟩))
                  | (exfalso; omega)
          · refine v_iload dX8_copies_107 rfl ?_
            refine v_callSi [_] dX8_copies_109 lX8_268 ksX8_bits (plX8 _ _) (Or.inl rfl) rfl rfl rfl rfl rfl rfl (c_X8_bits (by omega) ?_)
            refine v_iload_n dX8_copies_112 rfl rfl ?_
            rw [show I_ best = I_ ((best.toNat : Nat) : Int) by rw [show ((best.toNat : Nat) : Int) = best by have := lb1 (by omega); omega]]
            refine v_callSi [_] dX8_copies_113 lX8_268 ksX8_bits (plX8 _ _) (Or.inl rfl) rfl rfl rfl rfl rfl rfl (c_X8_bits (s := best.toNat) (by have := lb1 (by omega); omega) ?_)
            refine v_icmp_gt (tgt := 123) dX8_copies_116 (by decide) (fun hc_116 => ?_) (fun hc_116 => ?_)
            · refine v_iconst dX8_copies_123 (by decide) ?_
              refine v_istore (ls' := [_, _, _, _, _, _, _]) dX8_copies_124 rfl rfl rfl ?_
              refine v_iload dX8_copies_126 rfl ?_
              refine v_if_eq (tgt := 160) dX8_copies_128 (by decide) (fun hc_128 => ?_) (fun hc_128 => ?_)
              · refine v_iload_n dX8_copies_160 rfl rfl ?_
                refine v_istore_n (ls' := [_, _, _, _, _, _, _]) dX8_copies_161 rfl rfl rfl rfl ?_
                refine v_iinc (ls' := [_, _, _, _, _, _, _]) dX8_copies_162 rfl (fun hi_162 => by omega) rfl rfl ?_
                refine v_goto (tgt := 41) dX8_copies_165 (by decide) ?_
                refine v_kill (ls' := [_, _, _, _, _, _, _]) 5 rfl ?_
                refine v_kill (ls' := [_, _, _, _, _, _, _]) 6 rfl ?_
                try rw [show ((best.toNat : Nat) : Int) = best by have := lb1 (by omega); omega]
                first
                  | exact go best (BST_skip hbst (Or.inl (fun g => by have := (offin (by omega)).2 g.1; omega)))
                  | exact go best (BST_skip hbst (Or.inl (fun g => hc_152 (by simpa using g.2))))
                  | exact go (s : Int) (BST_take hbst ⟨(offin (by omega)).1 (by omega), by simpa using hc_152⟩ (Or.inl (by omega)))
                  | exact go (s : Int) (BST_take hbst ⟨(offin (by omega)).1 (by omega), by simpa using hc_152⟩ (Or.inr ⟨best.toNat, by have := lb1 (by omega); omega, by omega⟩))
                  | exact go best (BST_skip hbst (Or.inr ⟨best.toNat, by have := lb1 (by omega); omega, by omega⟩))
                  | (exfalso; omega)
              · refine v_iload dX8_copies_131 rfl ?_
                refine v_if_eq (tgt := 160) dX8_copies_133 (by decide) (fun _ => ?_) (fun q => absurd (by decide) q)
                refine v_iload_n dX8_copies_160 rfl rfl ?_
                refine v_istore_n (ls' := [_, _, _, _, _, _, _]) dX8_copies_161 rfl rfl rfl rfl ?_
                refine v_iinc (ls' := [_, _, _, _, _, _, _]) dX8_copies_162 rfl (fun hi_162 => by omega) rfl rfl ?_
                refine v_goto (tgt := 41) dX8_copies_165 (by decide) ?_
                refine v_kill (ls' := [_, _, _, _, _, _, _]) 5 rfl ?_
                refine v_kill (ls' := [_, _, _, _, _, _, _]) 6 rfl ?_
                try rw [show ((best.toNat : Nat) : Int) = best by have := lb1 (by omega); omega]
                first
                  | exact go best (BST_skip hbst (Or.inl (fun g => by have := (offin (by omega)).2 g.1; omega)))
                  | exact go best (BST_skip hbst (Or.inl (fun g => hc_152 (by simpa using g.2))))
                  | exact go (s : Int) (BST_take hbst ⟨(offin (by omega)).1 (by omega), by simpa using hc_152⟩ (Or.inl (by omega)))
                  | exact go (s : Int) (BST_take hbst ⟨(offin (by omega)).1 (by omega), by simpa using hc_152⟩ (Or.inr ⟨best.toNat, by have := lb1 (by omega); omega, by omega⟩))
                  | exact go best (BST_skip hbst (Or.inr ⟨best.toNat, by have := lb1 (by omega); omega, by omega⟩))
                  | (exfalso; omega)
            · refine v_iconst dX8_copies_119 (by decide) ?_
              refine v_goto (tgt := 124) dX8_copies_120 (by decide) ?_
              refine v_istore (ls' := [_, _, _, _, _, _, _]) dX8_copies_124 rfl rfl rfl ?_
              refine v_iload dX8_copies_126 rfl ?_
              refine v_if_eq (tgt := 160) dX8_copies_128 (by decide) (fun hc_128 => ?_) (fun hc_128 => ?_)
              · refine v_iload_n dX8_copies_160 rfl rfl ?_
                refine v_istore_n (ls' := [_, _, _, _, _, _, _]) dX8_copies_161 rfl rfl rfl rfl ?_
                refine v_iinc (ls' := [_, _, _, _, _, _, _]) dX8_copies_162 rfl (fun hi_162 => by omega) rfl rfl ?_
                refine v_goto (tgt := 41) dX8_copies_165 (by decide) ?_
                refine v_kill (ls' := [_, _, _, _, _, _, _]) 5 rfl ?_
                refine v_kill (ls' := [_, _, _, _, _, _, _]) 6 rfl ?_
                try rw [show ((best.toNat : Nat) : Int) = best by have := lb1 (by omega); omega]
                first
                  | exact go best (BST_skip hbst (Or.inl (fun g => by have := (offin (by omega)).2 g.1; omega)))
                  | exact go best (BST_skip hbst (Or.inl (fun g => hc_152 (by simpa using g.2))))
                  | exact go (s : Int) (BST_take hbst ⟨(offin (by omega)).1 (by omega), by simpa using hc_152⟩ (Or.inl (by omega)))
                  | exact go (s : Int) (BST_take hbst ⟨(offin (by omega)).1 (by omega), by simpa using hc_152⟩ (Or.inr ⟨best.toNat, by have := lb1 (by omega); omega, by omega⟩))
                  | exact go best (BST_skip hbst (Or.inr ⟨best.toNat, by have := lb1 (by omega); omega, by omega⟩))
                  | (exfalso; omega)
              · refine v_iload dX8_copies_131 rfl ?_
                refine v_if_eq (tgt := 160) dX8_copies_133 (by decide) (fun q => absurd q (by decide)) (fun _ => ?_)
                refine v_aload_n dX8_copies_136 rfl rfl ?_
                refine v_iload_n dX8_copies_137 rfl rfl ?_
                refine v_aload_n dX8_copies_138 rfl rfl ?_
                refine v_iload_n dX8_copies_139 rfl rfl ?_
                refine v_iload dX8_copies_140 rfl ?_
                refine v_callVi [_, _] dX8_copies_142 lX8_323 kvX8_passedLive (plX8 _ _) (Or.inl rfl) rfl rfl rfl rfl rfl rfl rfl rfl rfl (c_X8_passedLive (H := fun x => s.testBit x = true) hw hc (by omega) (hasS _ hs64) ?_)
                refine v_callVi [_, _] dX8_copies_145 lX8_258 kvX8_aloneOf (plX8 _ _) (Or.inl rfl) rfl rfl rfl rfl rfl rfl rfl rfl rfl (c_X8_aloneOf hw hc (by omega) l3 ?_)
                refine v_iload_n dX8_copies_148 rfl rfl ?_
                refine v_callSi [_, _] dX8_copies_149 lX8_252 ksX8_has (plX8 _ _) (Or.inr rfl) rfl rfl rfl rfl rfl rfl (c_X8_has (by omega) (by omega) (by omega) ?_)
                refine v_ifb_eq (tgt := 160) dX8_copies_152 (by decide) (fun hc_152 => ?_) (fun hc_152 => ?_)
                · refine v_iload_n dX8_copies_160 rfl rfl ?_
                  refine v_istore_n (ls' := [_, _, _, _, _, _, _]) dX8_copies_161 rfl rfl rfl rfl ?_
                  refine v_iinc (ls' := [_, _, _, _, _, _, _]) dX8_copies_162 rfl (fun hi_162 => by omega) rfl rfl ?_
                  refine v_goto (tgt := 41) dX8_copies_165 (by decide) ?_
                  refine v_kill (ls' := [_, _, _, _, _, _, _]) 5 rfl ?_
                  refine v_kill (ls' := [_, _, _, _, _, _, _]) 6 rfl ?_
                  try rw [show ((best.toNat : Nat) : Int) = best by have := lb1 (by omega); omega]
                  first
                    | exact go best (BST_skip hbst (Or.inl (fun g => by have := (offin (by omega)).2 g.1; omega)))
                    | exact go best (BST_skip hbst (Or.inl (fun g => hc_152 (by simpa using g.2))))
                    | exact go (s : Int) (BST_take hbst ⟨(offin (by omega)).1 (by omega), by simpa using hc_152⟩ (Or.inl (by omega)))
                    | exact go (s : Int) (BST_take hbst ⟨(offin (by omega)).1 (by omega), by simpa using hc_152⟩ (Or.inr ⟨best.toNat, by have := lb1 (by omega); omega, by omega⟩))
                    | exact go best (BST_skip hbst (Or.inr ⟨best.toNat, by have := lb1 (by omega); omega, by omega⟩))
                    | (exfalso; omega)
                · refine v_iload dX8_copies_155 rfl ?_
                  refine v_goto (tgt := 161) dX8_copies_157 (by decide) ?_
                  refine v_istore_n (ls' := [_, _, _, _, _, _, _]) dX8_copies_161 rfl rfl rfl rfl ?_
                  refine v_iinc (ls' := [_, _, _, _, _, _, _]) dX8_copies_162 rfl (fun hi_162 => by omega) rfl rfl ?_
                  refine v_goto (tgt := 41) dX8_copies_165 (by decide) ?_
                  refine v_kill (ls' := [_, _, _, _, _, _, _]) 5 rfl ?_
                  refine v_kill (ls' := [_, _, _, _, _, _, _]) 6 rfl ?_
                  try rw [show ((best.toNat : Nat) : Int) = best by have := lb1 (by omega); omega]
                  first
                    | exact go best (BST_skip hbst (Or.inl (fun g => by have := (offin (by omega)).2 g.1; omega)))
                    | exact go best (BST_skip hbst (Or.inl (fun g => hc_152 (by simpa using g.2))))
                    | exact go (s : Int) (BST_take hbst ⟨(offin (by omega)).1 (by omega), by simpa using hc_152⟩ (Or.inl (by omega)))
                    | exact go (s : Int) (BST_take hbst ⟨(offin (by omega)).1 (by omega), by simpa using hc_152⟩ (Or.inr ⟨best.toNat, by have := lb1 (by omega); omega, by omega⟩))
                    | exact go best (BST_skip hbst (Or.inr ⟨best.toNat, by have := lb1 (by omega); omega, by omega⟩))
                    | (exfalso; omega)
        · refine v_iload dX8_copies_61 rfl ?_
          refine v_if_eq (tgt := 92) dX8_copies_63 (by decide) (fun hc_63 => ?_) (fun hc_63 => ?_)
          · refine v_iconst dX8_copies_92 (by decide) ?_
            refine v_istore (ls' := [_, _, _, _, _, _, _]) dX8_copies_93 rfl rfl rfl ?_
            refine v_iinc (ls' := [_, _, _, _, _, _, _]) dX8_copies_95 rfl (fun hi_95 => by omega) rfl rfl ?_
            refine v_goto (tgt := 52) dX8_copies_98 (by decide) ?_
            first
              | exact stp 0 (by omega) (Or.inr ⟨rfl, Or.inl (by omega)⟩)
              | exact stp 1 (by omega) (Or.inl ⟨rfl, by omega, fun q => absurd (by simpa using q) hc_73⟩)
              | exact stp 0 (by omega) (Or.inr ⟨rfl, Or.inr (fun q => pl_0.1 (by omega) (q (by simpa using hc_73)))⟩)
              | exact stp 1 (by omega) (Or.inl ⟨rfl, by omega, fun _ => Classical.byContradiction (fun q => hc_85 (by rw [pl_0.2 q]; rfl))⟩)
          · refine v_iload dX8_copies_66 rfl ?_
            refine v_iload dX8_copies_68 rfl ?_
            refine v_callSi [_, _] dX8_copies_70 lX8_252 ksX8_has (plX8 _ _) (Or.inr rfl) rfl rfl rfl rfl rfl rfl (c_X8_has (by omega) (by omega) (by omega) ?_)
            refine v_ifb_eq (tgt := 88) dX8_copies_73 (by decide) (fun hc_73 => ?_) (fun hc_73 => ?_)
            · refine v_iconst dX8_copies_88 (by decide) ?_
              refine v_goto (tgt := 93) dX8_copies_89 (by decide) ?_
              refine v_istore (ls' := [_, _, _, _, _, _, _]) dX8_copies_93 rfl rfl rfl ?_
              refine v_iinc (ls' := [_, _, _, _, _, _, _]) dX8_copies_95 rfl (fun hi_95 => by omega) rfl rfl ?_
              refine v_goto (tgt := 52) dX8_copies_98 (by decide) ?_
              first
                | exact stp 0 (by omega) (Or.inr ⟨rfl, Or.inl (by omega)⟩)
                | exact stp 1 (by omega) (Or.inl ⟨rfl, by omega, fun q => absurd (by simpa using q) hc_73⟩)
                | exact stp 0 (by omega) (Or.inr ⟨rfl, Or.inr (fun q => pl_0.1 (by omega) (q (by simpa using hc_73)))⟩)
                | exact stp 1 (by omega) (Or.inl ⟨rfl, by omega, fun _ => Classical.byContradiction (fun q => hc_85 (by rw [pl_0.2 q]; rfl))⟩)
            · refine v_aload_n dX8_copies_76 rfl rfl ?_
              refine v_iload_n dX8_copies_77 rfl rfl ?_
              refine v_iconst dX8_copies_78 (by decide) ?_
              refine v_iload dX8_copies_79 rfl ?_
              refine v_ishl dX8_copies_81 ?_
              rw [bShl_one (by omega) (by omega)]
              refine v_callVi [_, _] dX8_copies_82 lX8_323 kvX8_passedLive (plX8 _ _) (Or.inl rfl) rfl rfl rfl rfl rfl rfl rfl rfl rfl (c_X8_passedLive (H := fun x => (2 ^ k.toNat).testBit x = true) hw hc (by omega) (hasS _ (lk (by omega))) ?_)
              refine v_if_eq (tgt := 92) dX8_copies_85 (by decide) (fun hc_85 => ?_) (fun hc_85 => ?_)
              · refine v_iconst dX8_copies_92 (by decide) ?_
                refine v_istore (ls' := [_, _, _, _, _, _, _]) dX8_copies_93 rfl rfl rfl ?_
                refine v_iinc (ls' := [_, _, _, _, _, _, _]) dX8_copies_95 rfl (fun hi_95 => by omega) rfl rfl ?_
                refine v_goto (tgt := 52) dX8_copies_98 (by decide) ?_
                first
                  | exact stp 0 (by omega) (Or.inr ⟨rfl, Or.inl (by omega)⟩)
                  | exact stp 1 (by omega) (Or.inl ⟨rfl, by omega, fun q => absurd (by simpa using q) hc_73⟩)
                  | exact stp 0 (by omega) (Or.inr ⟨rfl, Or.inr (fun q => pl_0.1 (by omega) (q (by simpa using hc_73)))⟩)
                  | exact stp 1 (by omega) (Or.inl ⟨rfl, by omega, fun _ => Classical.byContradiction (fun q => hc_85 (by rw [pl_0.2 q]; rfl))⟩)
              · refine v_iconst dX8_copies_88 (by decide) ?_
                refine v_goto (tgt := 93) dX8_copies_89 (by decide) ?_
                refine v_istore (ls' := [_, _, _, _, _, _, _]) dX8_copies_93 rfl rfl rfl ?_
                refine v_iinc (ls' := [_, _, _, _, _, _, _]) dX8_copies_95 rfl (fun hi_95 => by omega) rfl rfl ?_
                refine v_goto (tgt := 52) dX8_copies_98 (by decide) ?_
                first
                  | exact stp 0 (by omega) (Or.inr ⟨rfl, Or.inl (by omega)⟩)
                  | exact stp 1 (by omega) (Or.inl ⟨rfl, by omega, fun q => absurd (by simpa using q) hc_73⟩)
                  | exact stp 0 (by omega) (Or.inr ⟨rfl, Or.inr (fun q => pl_0.1 (by omega) (q (by simpa using hc_73)))⟩)
                  | exact stp 1 (by omega) (Or.inl ⟨rfl, by omega, fun _ => Classical.byContradiction (fun q => hc_85 (by rw [pl_0.2 q]; rfl))⟩)
      refine v_iload dX8_copies_41 rfl ?_
      refine v_if_lt (tgt := 168) dX8_copies_43 (by decide) (fun hc_43 => ?_) (fun hc_43 => ?_)
      · refine v_kill (ls' := [_, _, _, _, _, _, _]) 4 rfl ?_
        refine v_kill (ls' := [_, _, _, _, _, _, _]) 5 rfl ?_
        refine v_kill (ls' := [_, _, _, _, _, _, _]) 6 rfl ?_
        exfalso; omega
      · refine v_iconst dX8_copies_46 (by decide) ?_
        refine v_istore (ls' := [_, _, _, _, _, _, _]) dX8_copies_47 rfl rfl rfl ?_
        refine v_iconst dX8_copies_49 (by decide) ?_
        refine v_istore (ls' := [_, _, _, _, _, _, _]) dX8_copies_50 rfl rfl rfl ?_
        exact inner 0 (by omega) (by omega) 1 (Or.inl ⟨rfl, fun j hj => by omega⟩)
  refine v_aload_n dX8_copies_0 rfl rfl ?_
  refine v_iload_n dX8_copies_1 rfl rfl ?_
  refine v_callVi [_] dX8_copies_2 lX8_207 kvX8_isPerson (plX8 _ _) (Or.inr rfl) rfl rfl rfl rfl rfl rfl rfl rfl rfl (c_X8_isPerson (by omega) ?_)
  refine v_ifb_eq (tgt := 26) dX8_copies_5 (by decide) (fun hc_5 => ?_) (fun hc_5 => ?_)
  · refine v_iconst dX8_copies_26 (by decide) ?_
    refine v_ireturn dX8_copies_27 rfl ?_
    exact h1 (by omega)
  · refine v_aload_n dX8_copies_8 rfl rfl ?_
    refine v_iload_n dX8_copies_9 rfl rfl ?_
    refine v_callVi [_] dX8_copies_10 lX8_204 kvX8_isHouse (plX8 _ _) (Or.inr rfl) rfl rfl rfl rfl rfl rfl rfl rfl rfl (c_X8_isHouse (by omega) ?_)
    refine v_ifb_eq (tgt := 26) dX8_copies_13 (by decide) (fun hc_13 => ?_) (fun hc_13 => ?_)
    · refine v_iconst dX8_copies_26 (by decide) ?_
      refine v_ireturn dX8_copies_27 rfl ?_
      exact h1 (by omega)
    · refine v_aload_n dX8_copies_16 rfl rfl ?_
      refine v_getR dX8_copies_17 fX8_32 rfl rfl rfl ?_
      refine v_iload_n dX8_copies_20 rfl rfl ?_
      refine v_iald dX8_copies_21 rfl (by omega) (by omega) ?_
      rw [(hc.1.2.2 p.toNat (by omega)).1]
      refine v_iload_n dX8_copies_22 rfl rfl ?_
      refine v_icmp_ne (tgt := 28) dX8_copies_23 (by decide) (fun hc_23 => ?_) (fun hc_23 => ?_)
      · refine v_bipush dX8_copies_28 (by decide) ?_
        refine v_istore_n (ls' := [_, _, _, _, _, _, _]) dX8_copies_30 rfl rfl rfl rfl ?_
        refine v_iconst dX8_copies_31 (by decide) ?_
        refine v_aload_n dX8_copies_32 rfl rfl ?_
        refine v_getI dX8_copies_33 fX8_180 rfl rfl rfl ?_
        rw [c1.1]
        refine v_ishl dX8_copies_36 ?_
        rw [bShl_one (by omega) (by omega)]
        refine v_iconst dX8_copies_37 (by decide) ?_
        refine v_isub dX8_copies_38 (fun ha hb => by omega) ?_
        refine v_istore (ls' := [_, _, _, _, _, _, _]) dX8_copies_39 rfl rfl rfl ?_
        exact lp (by omega) (by omega) (by omega) _ (Nat.le_refl _) (-9) (Or.inl ⟨rfl, fun t ht hg => by have := sb_le hg.1; omega⟩)
      · refine v_iconst dX8_copies_26 (by decide) ?_
        refine v_ireturn dX8_copies_27 rfl ?_
        exact h1 (by omega)
end
