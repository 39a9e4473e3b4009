/-! the fewest of a set: whom to wake, which copies -/
def BST (G : Nat → Prop) (s : Nat) (best : Int) : Prop := (best = -9 ∧ ∀ t, s ≤ t → ¬ G t) ∨ (∃ b : Nat, best = (b : Int) ∧ G b ∧ ∀ t, s ≤ t → G t → cntB 32 b < cntB 32 t ∨ (cntB 32 b = cntB 32 t ∧ b ≤ t))
theorem BST_take {G : Nat → Prop} {s : Nat} {best : Int} (h : BST G (s + 1) best) (hG : G s) (hb : best = -9 ∨ ∃ b : Nat, best = (b : Int) ∧ cntB 32 s ≤ cntB 32 b) : BST G s (s : Int) := by
  refine Or.inr ⟨s, rfl, hG, fun t ht hGt => ?_⟩
  by_cases e : t = s
  · subst e; exact Or.inr ⟨rfl, Nat.le_refl _⟩
  · rcases h with h | ⟨b, h1, h2, h3⟩
    · exact absurd hGt (h.2 t (by omega))
    · rcases hb with hb | ⟨b', hb1, hb2⟩
      · omega
      · have eb : b' = b := by omega
        have := h3 t (by omega) hGt
        rw [eb] at hb2
        omega
theorem BST_skip {G : Nat → Prop} {s : Nat} {best : Int} (h : BST G (s + 1) best) (hG : ¬ G s ∨ ∃ b : Nat, best = (b : Int) ∧ cntB 32 b < cntB 32 s) : BST G s best := by
  rcases h with h | ⟨b, h1, h2, h3⟩
  · refine Or.inl ⟨h.1, fun t ht => ?_⟩
    by_cases e : t = s
    · subst e
      rcases hG with hG | ⟨b, q, _⟩
      · exact hG
      · omega
    · exact h.2 t (by omega)
  · refine Or.inr ⟨b, h1, h2, fun t ht hGt => ?_⟩
    by_cases e : t = s
    · subst e
      rcases hG with hG | ⟨b', q, q2⟩
      · exact absurd hGt hG
      · rw [show b' = b by omega] at q2; exact Or.inl q2
    · exact h3 t (by omega) hGt
theorem BST_low {G : Nat → Prop} {s s' : Nat} {best : Int} (h : BST G s best) (hn : ∀ t, s' ≤ t → t < s → ¬ G t) : BST G s' best := by
  rcases h with h | ⟨b, h1, h2, h3⟩
  · exact Or.inl ⟨h.1, fun t ht => by
      by_cases e : t < s
      · exact hn t ht e
      · exact h.2 t (by omega)⟩
  · exact Or.inr ⟨b, h1, h2, fun t ht hG => by
      by_cases e : t < s
      · exact absurd hG (hn t ht e)
      · exact h3 t (by omega) hG⟩
theorem BST_end {G : Nat → Prop} {best : Int} {C : Nat} {un : Prop} {wk : Nat → Prop} (h : BST G 0 best) (hC : C < 2 ^ 24) (hG : ∀ t, G t ↔ sb t C ∧ (un ∨ ∃ q, t.testBit q = true ∧ wk q)) (hw : ∀ q, wk q → C.testBit q = true) :
    (un → best = 0) ∧ (¬ un → ∀ q, wk q → (∀ j, j < q → ¬ wk j) → best = ((2 ^ q : Nat) : Int)) ∧ (¬ un → (∀ q, ¬ wk q) → best = -9) := by
  refine ⟨fun hu => ?_, fun hu q hq hj => ?_, fun hu hn => ?_⟩
  · have g0 : G 0 := (hG 0).2 ⟨sb_0 _, Or.inl hu⟩
    rcases h with h | ⟨b, h1, h2, h3⟩
    · exact absurd g0 (h.2 0 (by omega))
    · have := h3 0 (by omega) g0
      rw [cnt_z] at this
      omega
  · have hq2 : q < 24 := bit_lt hC (hw q hq)
    have gq : G (2 ^ q) := (hG _).2 ⟨sb_pow.2 (hw q hq), Or.inr ⟨q, pw_bit.2 rfl, hq⟩⟩
    rcases h with h | ⟨b, h1, h2, h3⟩
    · exact absurd gq (h.2 _ (Nat.zero_le _))
    · have q1 := h3 _ (Nat.zero_le _) gq
      rw [cnt_p (by omega)] at q1
      have g2 := (hG b).1 h2
      obtain ⟨q', b1, b2⟩ := g2.2.resolve_left hu
      have hbl : b < 2 ^ 24 := Nat.lt_of_le_of_lt (sb_le g2.1) hC
      have q'2 : q' < 24 := bit_lt hbl b1
      have hpos := cntB_pos (n := 32) (by omega) b1
      obtain ⟨i, hi, e⟩ := cnt_1 (n := 32) (s := b) (by omega) (by omega)
      have ei : i = q' := by rw [e] at b1; exact pw_bit.1 b1
      have hle : b ≤ 2 ^ q := by omega
      rw [e] at hle
      have hiq : i ≤ q := (Nat.pow_le_pow_iff_right (by omega)).1 hle
      have : q' = q := by
        rcases Nat.lt_or_ge q' q with hl | hl
        · exact absurd b2 (hj q' hl)
        · omega
      rw [h1, e, ei, this]
  · rcases h with h | ⟨b, h1, h2, h3⟩
    · exact h.1
    · obtain ⟨q, _, b2⟩ := ((hG b).1 h2).2.resolve_left hu
      exact absurd b2 (hn q)
section
variable {μ w : Mem_} {Q : PV → Mem_ → Prop}
theorem cw_bit {p : Int} {q : Nat} : (cwN w p).testBit q = true ↔ q < (w (stc w) 1).toNat ∧ cwC w p (q : Int) := orP_bit (P := fun q => cwC w p (q : Int))
theorem cw_lt {p : Int} (hs : w (stc w) 1 ≤ 12) : cwN w p < 2 ^ 12 := orR_lt (fun k hk => by
  unfold cwF
  split
  · exact Nat.pow_lt_pow_right (by omega) (by omega)
  · decide)
def gdW (w : Mem_) (p h own : Int) (t : Nat) : Prop := sb t (cwN w p) ∧ (unC w p own ||| cfN w (orR (w (stc w) 1).toNat (hhF w t))).testBit h.toNat = true
theorem gdW_iff {p h own : Int} {t : Nat} : gdW w p h own t ↔ sb t (cwN w p) ∧ ((unC w p own).testBit h.toNat = true ∨ ∃ q, t.testBit q = true ∧ (q < (w (stc w) 1).toNat ∧ wkC w p h (q : Int))) := by
  unfold gdW
  rw [or_bit, cf_orR]
  constructor
  · rintro ⟨h1, h2 | ⟨q, q1, q2⟩⟩
    · exact ⟨h1, Or.inl h2⟩
    · refine ⟨h1, Or.inr ⟨q, ?_⟩⟩
      unfold hhF at q2
      by_cases hb : t.testBit q = true
      · rw [if_pos hb] at q2
        exact ⟨hb, q1, (cw_bit.1 (h1 q hb)).2, q2⟩
      · rw [if_neg hb, cf0] at q2; simp at q2
  · rintro ⟨h1, h2 | ⟨q, q1, q2, q3⟩⟩
    · exact ⟨h1, Or.inl h2⟩
    · refine ⟨h1, Or.inr ⟨q, q2, ?_⟩⟩
      unfold hhF
      rw [if_pos q1]
      exact q3.2
set_option maxRecDepth 10000 in
theorem c_X8_wake {p h own : Int} (hw : CW w) (hc : CP μ w) (h1 : ¬ ((0 ≤ p ∧ p < w (stc w) 1) ∧ (0 ≤ h ∧ h < w (stc w) 0)) → Q (I_ (-1)) μ)
    (h2 : (0 ≤ p ∧ p < w (stc w) 1) → (0 ≤ h ∧ h < w (stc w) 0) → ∀ best : Int, BST (gdW w p h own) 0 best → best ≠ -9 → Q (I_ ((cntB 32 best.toNat : Nat) : Int)) (mtT μ best))
    (h3 : (0 ≤ p ∧ p < w (stc w) 1) → (0 ≤ h ∧ h < w (stc w) 0) → BST (gdW w p h own) 0 (-9) → Q (I_ (-9)) μ) : V_ nX8_wake 0 [R_ 50, I_ p, I_ h, I_ own, U_, U_, U_, U_] [] μ Q := by
  have c1 := hc.1.1
  have s1 := hw.1.2.1
  have s2 := hw.1.2.2.1
  have hre := hw.2.2.2.1
  have hp := hw.P
  have lc := cw_lt (w := w) (p := p) s2.2
  have lb : ∀ best s, BST (gdW w p h own) s best → best ≠ -9 → 0 ≤ best ∧ best < 2 ^ 12 := by
    intro best s hb hne
    rcases hb with hb | ⟨b, b1, b2, _⟩
    · exact absurd hb.1 hne
    · have := sb_le b2.1
      omega
  have lp : (0 ≤ p ∧ p < w (stc w) 1) → (0 ≤ h ∧ h < w (stc w) 0) → ∀ s : Nat, sb s (cwN w p) → ∀ best : Int, BST (gdW w p h own) (s + 1) best → V_ nX8_wake 36 [R_ 50, I_ p, I_ h, I_ own, I_ (cwN w p : Int), I_ best, I_ (s : Int), I_ 1] [] μ Q := by
    intro hpp hhh
    refine loop_dn (fun s => s) (fun s ih => ?_)
    intro hsb best hbst
    have hsl := sb_le hsb
    have lb1 := lb best _ hbst
    have e9 : ((best.toNat : Nat) : Int) = best → I_ best = I_ ((best.toNat : Nat) : Int) := fun q => by rw [q]
    have l1 := unC_lt hp hre p own
    have nb : ∀ best' : Int, BST (gdW w p h own) s best' → (best' ≠ -9 → 0 ≤ best' ∧ best' < 2 ^ 12) → V_ nX8_wake 80 [R_ 50, I_ p, I_ h, I_ own, I_ (cwN w p : Int), I_ best', I_ (s : Int), U_] [] μ Q := by
      intro best' hb' hl'
      have ea : s ≠ 0 → bAnd ((s : Int) - 1) (cwN w p : Int) = (((s - 1) &&& cwN w p : Nat) : Int) := fun q => by
        have := bAnd_nat (a := s - 1) (b := cwN w p) (by omega) (by omega)
        rwa [show ((s - 1 : Nat) : Int) = (s : Int) - 1 by omega] at this
      refine v_iload dX8_wake_80 rfl ?_
      refine v_if_eq (tgt := 89) dX8_wake_82 (by decide) (fun hc_82 => ?_) (fun hc_82 => ?_)
      · refine v_iconst dX8_wake_89 (by decide) ?_
        refine v_istore (ls' := [_, _, _, _, _, _, _, _]) dX8_wake_90 rfl rfl rfl ?_
        refine v_iload dX8_wake_92 rfl ?_
        refine v_iconst dX8_wake_94 (by decide) ?_
        refine v_isub dX8_wake_95 (fun ha hb => by omega) ?_
        refine v_iload dX8_wake_96 rfl ?_
        refine v_iand dX8_wake_98 ?_
        refine v_istore (ls' := [_, _, _, _, _, _, _, _]) dX8_wake_99 rfl rfl rfl ?_
        refine v_goto (tgt := 36) dX8_wake_101 (by decide) ?_
        have e0 : s = 0 := by omega
        subst e0
        refine v_iload dX8_wake_36 rfl ?_
        refine v_if_eq (tgt := 104) dX8_wake_38 (by decide) (fun hc_38 => ?_) (fun hc_38 => ?_)
        · refine v_iload dX8_wake_104 rfl ?_
          refine v_bipush dX8_wake_106 (by decide) ?_
          refine v_icmp_ne (tgt := 116) dX8_wake_108 (by decide) (fun hc_108 => ?_) (fun hc_108 => ?_)
          · refine v_aload_n dX8_wake_116 rfl rfl ?_
            refine v_iload dX8_wake_117 rfl ?_
            refine v_iload dX8_wake_119 rfl ?_
            rw [show I_ best' = I_ ((best'.toNat : Nat) : Int) by rw [show ((best'.toNat : Nat) : Int) = best' by have := hl' (by omega); omega]]
            refine v_callSi [_] dX8_wake_121 lX8_268 ksX8_bits (plX8 _ _) (Or.inl rfl) rfl rfl rfl rfl rfl rfl (c_X8_bits (s := best'.toNat) (by have := hl' (by omega); omega) ?_)
            refine v_callVi [_, _] dX8_wake_124 lX8_134 kvX8_tells (plX8 _ _) (Or.inl rfl) rfl rfl rfl rfl rfl rfl rfl rfl rfl (c_X8_tells ?_)
            refine v_ireturn dX8_wake_127 rfl ?_
            rw [show ((best'.toNat : Nat) : Int) = best' by have := hl' (by omega); omega]
            exact h2 hpp hhh best' hb' (by omega)
          · refine v_bipush dX8_wake_111 (by decide) ?_
            refine v_goto (tgt := 127) dX8_wake_113 (by decide) ?_
            refine v_ireturn dX8_wake_127 rfl ?_
            rw [show best' = -9 by omega] at hb'
            exact h3 hpp hhh hb'
        · exfalso; omega
      · refine v_iconst dX8_wake_85 (by decide) ?_
        refine v_goto (tgt := 90) dX8_wake_86 (by decide) ?_
        refine v_istore (ls' := [_, _, _, _, _, _, _, _]) dX8_wake_90 rfl rfl rfl ?_
        refine v_iload dX8_wake_92 rfl ?_
        refine v_iconst dX8_wake_94 (by decide) ?_
        refine v_isub dX8_wake_95 (fun ha hb => by omega) ?_
        refine v_iload dX8_wake_96 rfl ?_
        refine v_iand dX8_wake_98 ?_
        refine v_istore (ls' := [_, _, _, _, _, _, _, _]) dX8_wake_99 rfl rfl rfl ?_
        refine v_goto (tgt := 36) dX8_wake_101 (by decide) ?_
        rw [ea (by omega)]
        have hl2 : (s - 1) &&& cwN w p ≤ s - 1 := Nat.and_le_left
        exact ih _ (by omega) (fun i hi => (and_bit.1 hi).2) _ (BST_low hb' (fun t t1 t2 t3 => by have := nxt_sub s _ t hsb t3.1 t2; omega))
    have hg1 : (unC w p own ||| cfN w (orR (w (stc w) 1).toNat (hhF w s))) < 2 ^ 6 := Nat.or_lt_two_pow l1 (cfN_lt hre (orR_lt (fun q hq => by
      have h5 := hw.1.2.2.2.2 q (by omega)
      unfold hhF haC
      rw [Int.toNat_natCast]
      split
      · refine Nat.or_lt_two_pow (opens_lt hp _ _) ?_
        split
        · exact Nat.pow_lt_pow_right (by omega) (by omega)
        · decide
      · decide)))
    refine v_iload dX8_wake_36 rfl ?_
    refine v_if_eq (tgt := 104) dX8_wake_38 (by decide) (fun hc_38 => ?_) (fun hc_38 => ?_)
    · refine v_kill (ls' := [_, _, _, _, _, _, _, _]) 4 rfl ?_
      refine v_kill (ls' := [_, _, _, _, _, _, _, _]) 6 rfl ?_
      refine v_kill (ls' := [_, _, _, _, _, _, _, _]) 7 rfl ?_
      exfalso; omega
    · refine v_aload_n dX8_wake_41 rfl rfl ?_
      refine v_iload_n dX8_wake_42 rfl rfl ?_
      refine v_iload_n dX8_wake_43 rfl rfl ?_
      refine v_iload dX8_wake_44 rfl ?_
      refine v_callVi [_, _, _] dX8_wake_46 lX8_264 kvX8_openBy (plX8 _ _) (Or.inl rfl) rfl rfl rfl rfl rfl rfl rfl rfl rfl (c_X8_openBy hw hc hpp (by omega) (fun q q1 q2 => (cw_bit.1 (hsb q q2)).2.2.1) ?_)
      refine v_iload_n dX8_wake_49 rfl rfl ?_
      refine v_callSi [_, _] dX8_wake_50 lX8_252 ksX8_has (plX8 _ _) (Or.inr rfl) rfl rfl rfl rfl rfl rfl (c_X8_has (by omega) (by omega) (by omega) ?_)
      refine v_ifb_eq (tgt := 80) dX8_wake_53 (by decide) (fun hc_53 => ?_) (fun hc_53 => ?_)
      · refine v_kill (ls' := [_, _, _, _, _, _, _, _]) 7 rfl ?_
        exact nb best (BST_skip hbst (Or.inl (fun g => hc_53 (by simpa using g.2)))) lb1
      · refine v_iload dX8_wake_56 rfl ?_
        refine v_bipush dX8_wake_58 (by decide) ?_
        refine v_icmp_eq (tgt := 76) dX8_wake_60 (by decide) (fun hc_60 => ?_) (fun hc_60 => ?_)
        · refine v_iload dX8_wake_76 rfl ?_
          refine v_istore (ls' := [_, _, _, _, _, _, _, _]) dX8_wake_78 rfl rfl rfl ?_
          refine v_kill (ls' := [_, _, _, _, _, _, _, _]) 7 rfl ?_
          exact nb (s : Int) (BST_take hbst ⟨hsb, by simpa using hc_53⟩ (Or.inl (by omega))) (fun _ => by omega)
        · refine v_iload dX8_wake_63 rfl ?_
          refine v_callSi [_] dX8_wake_65 lX8_268 ksX8_bits (plX8 _ _) (Or.inl rfl) rfl rfl rfl rfl rfl rfl (c_X8_bits (by omega) ?_)
          refine v_iload dX8_wake_68 rfl ?_
          rw [show I_ best = I_ ((best.toNat : Nat) : Int) by rw [show ((best.toNat : Nat) : Int) = best by have := lb1 (by omega); omega]]
          refine v_callSi [_] dX8_wake_70 lX8_268 ksX8_bits (plX8 _ _) (Or.inl rfl) rfl rfl rfl rfl rfl rfl (c_X8_bits (s := best.toNat) (by have := lb1 (by omega); omega) ?_)
          refine v_icmp_gt (tgt := 80) dX8_wake_73 (by decide) (fun hc_73 => ?_) (fun hc_73 => ?_)
          · refine v_kill (ls' := [_, _, _, _, _, _, _, _]) 7 rfl ?_
            rw [show ((best.toNat : Nat) : Int) = best by have := lb1 (by omega); omega]
            exact nb best (BST_skip hbst (Or.inr ⟨best.toNat, by have := lb1 (by omega); omega, by omega⟩)) lb1
          · refine v_iload dX8_wake_76 rfl ?_
            refine v_istore (ls' := [_, _, _, _, _, _, _, _]) dX8_wake_78 rfl rfl rfl ?_
            refine v_kill (ls' := [_, _, _, _, _, _, _, _]) 7 rfl ?_
            exact nb (s : Int) (BST_take hbst ⟨hsb, by simpa using hc_53⟩ (Or.inr ⟨best.toNat, by have := lb1 (by omega); omega, by omega⟩)) (fun _ => by omega)
  refine v_aload_n dX8_wake_0 rfl rfl ?_
  refine v_iload_n dX8_wake_1 rfl rfl ?_
  refine v_callVi [_] dX8_wake_2 lX8_207 kvX8_isPerson (plX8 _ _) (Or.inr rfl) rfl rfl rfl rfl rfl rfl rfl rfl rfl (c_X8_isPerson (by omega) ?_)
  refine v_ifb_eq (tgt := 16) dX8_wake_5 (by decide) (fun hc_5 => ?_) (fun hc_5 => ?_)
  · refine v_iconst dX8_wake_16 (by decide) ?_
    refine v_ireturn dX8_wake_17 rfl ?_
    exact h1 (by omega)
  · refine v_aload_n dX8_wake_8 rfl rfl ?_
    refine v_iload_n dX8_wake_9 rfl rfl ?_
    refine v_callVi [_] dX8_wake_10 lX8_204 kvX8_isHouse (plX8 _ _) (Or.inr rfl) rfl rfl rfl rfl rfl rfl rfl rfl rfl (c_X8_isHouse (by omega) ?_)
    refine v_ifb_ne (tgt := 18) dX8_wake_13 (by decide) (fun hc_13 => ?_) (fun hc_13 => ?_)
    · refine v_aload_n dX8_wake_18 rfl rfl ?_
      refine v_iload_n dX8_wake_19 rfl rfl ?_
      refine v_callVi [_] dX8_wake_20 lX8_261 kvX8_wakesOf (plX8 _ _) (Or.inl rfl) rfl rfl rfl rfl rfl rfl rfl rfl rfl (c_X8_wakesOf hw hc (by omega) ?_)
      refine v_istore (ls' := [_, _, _, _, _, _, _, _]) dX8_wake_23 rfl rfl rfl ?_
      refine v_bipush dX8_wake_25 (by decide) ?_
      refine v_istore (ls' := [_, _, _, _, _, _, _, _]) dX8_wake_27 rfl rfl rfl ?_
      refine v_iload dX8_wake_29 rfl ?_
      refine v_istore (ls' := [_, _, _, _, _, _, _, _]) dX8_wake_31 rfl rfl rfl ?_
      refine v_iconst dX8_wake_33 (by decide) ?_
      refine v_istore (ls' := [_, _, _, _, _, _, _, _]) dX8_wake_34 rfl rfl rfl ?_
      exact lp (by omega) (by omega) _ (sb_rf _) (-9) (Or.inl ⟨rfl, fun t ht hg => by have := sb_le hg.1; omega⟩)
    · refine v_iconst dX8_wake_16 (by decide) ?_
      refine v_ireturn dX8_wake_17 rfl ?_
      exact h1 (by omega)
end
