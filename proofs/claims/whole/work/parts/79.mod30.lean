/-! the model over the class: odds -/
def frN (μ : Mem_) (a b : Nat) : Mem_ := mset (mset μ 50 3 ((a / Nat.gcd a b : Nat) : Int)) 50 4 ((b / Nat.gcd a b : Nat) : Int)
theorem frN_mul {μ : Mem_} {a b K : Nat} (hK : 0 < K) : frN μ (a * K) (b * K) = frN μ a b := by
  unfold frN
  rw [Nat.gcd_mul_right, Nat.mul_div_mul_right _ _ hK, Nat.mul_div_mul_right _ _ hK]
theorem cmpI_0 {a b : Int} : cmpI a b = 0 ↔ a = b := by
  unfold cmpI
  split
  · constructor <;> intro h <;> omega
  · split
    · constructor <;> intro h <;> omega
    · constructor <;> intro h <;> omega
section
variable {μ w : Mem_} {Q : PV → Mem_ → Prop}
set_option maxRecDepth 10000 in
theorem c_X8_fraction {a b : Nat} {v : Int} (hb0 : 0 < b) (hb : b < 2 ^ 60) (h : Q (I_ v) (frN μ a b)) : V_ nX8_fraction 0 [R_ 50, L_ (a : Int), U_, L_ (b : Int), U_, I_ v, U_, U_, U_, U_, U_, U_] [] μ Q := by
  have lp : ∀ y x : Nat, Nat.gcd x y = Nat.gcd a b → V_ nX8_fraction 6 [R_ 50, L_ (a : Int), U_, L_ (b : Int), U_, I_ v, L_ (x : Int), U_, L_ (y : Int), U_, U_, U_] [] μ Q := by
    intro y
    induction y using Nat.strongRecOn with
    | ind y ih =>
      intro x hg
      have hgp : 0 < Nat.gcd a b := Nat.gcd_pos_of_pos_right a hb0
      have hc := @cmpI_0 (y : Int) 0
      have hpx : cmpI (y : Int) 0 = 0 → 0 < (x : Int) := by
        intro q
        have e : y = 0 := by have := hc.1 q; omega
        subst e
        rw [Nat.gcd_zero_right] at hg
        omega
      refine v_lload dX8_fraction_6 rfl ?_
      refine v_lconst (x := 0) dX8_fraction_8 (by decide) ?_
      refine v_lcmp dX8_fraction_9 ?_
      refine v_if_eq (tgt := 31) dX8_fraction_10 (by decide) (fun hc_10 => ?_) (fun hc_10 => ?_)
      · refine v_aload_n dX8_fraction_31 rfl rfl ?_
        refine v_lload_n dX8_fraction_32 rfl rfl ?_
        refine v_lload dX8_fraction_33 rfl ?_
        refine v_ldiv dX8_fraction_35 (by exact hpx hc_10) ?_
        rw [tdiv_nat]
        refine v_putL dX8_fraction_36 fpX8_119 rfl rfl rfl ?_
        refine v_aload_n dX8_fraction_39 rfl rfl ?_
        refine v_lload_n dX8_fraction_40 rfl rfl ?_
        refine v_lload dX8_fraction_41 rfl ?_
        refine v_ldiv dX8_fraction_43 (by exact hpx hc_10) ?_
        rw [tdiv_nat]
        refine v_putL dX8_fraction_44 fpX8_104 rfl rfl rfl ?_
        refine v_iload dX8_fraction_47 rfl ?_
        refine v_ireturn dX8_fraction_49 rfl ?_
        have e : y = 0 := by have := hc.1 hc_10; omega
        subst e
        rw [Nat.gcd_zero_right] at hg
        rw [hg]
        exact h
      · refine v_lload dX8_fraction_13 rfl ?_
        refine v_lload dX8_fraction_15 rfl ?_
        refine v_lrem dX8_fraction_17 (by have : (y : Int) ≠ 0 := fun q => hc_10 (hc.2 q); omega) ?_
        rw [tmod_nat]
        refine v_lstore (ls' := [_, _, _, _, _, _, _, _, _, _, _, _]) dX8_fraction_18 rfl rfl rfl ?_
        refine v_lload dX8_fraction_20 rfl ?_
        refine v_lstore (ls' := [_, _, _, _, _, _, _, _, _, _, _, _]) dX8_fraction_22 rfl rfl rfl ?_
        refine v_lload dX8_fraction_24 rfl ?_
        refine v_lstore (ls' := [_, _, _, _, _, _, _, _, _, _, _, _]) dX8_fraction_26 rfl rfl rfl ?_
        refine v_goto (tgt := 6) dX8_fraction_28 (by decide) ?_
        refine v_kill (ls' := [_, _, _, _, _, _, _, _, _, _, _, _]) 10 rfl ?_
        have hy : (y : Int) ≠ 0 := fun q => hc_10 (hc.2 q)
        refine ih (x % y) (Nat.mod_lt _ (by omega)) y ?_
        rw [Nat.gcd_comm y, ← Nat.gcd_rec, Nat.gcd_comm, hg]
  refine v_lload_n dX8_fraction_0 rfl rfl ?_
  refine v_lstore (ls' := [_, _, _, _, _, _, _, _, _, _, _, _]) dX8_fraction_1 rfl rfl rfl ?_
  refine v_lload_n dX8_fraction_3 rfl rfl ?_
  refine v_lstore (ls' := [_, _, _, _, _, _, _, _, _, _, _, _]) dX8_fraction_4 rfl rfl rfl ?_
  exact lp b a rfl
def anF (w : Mem_) (q : Nat) : Nat := (w (stc w + 3) q).toNat
def odF (w : Mem_) (p h own : Int) (t : Nat) : Nat := if t &&& cwN w p = t ∧ (unC w p own ||| cfN w (orR (w (stc w) 1).toNat (hhF w t))).testBit h.toNat = true then prR (w (stc w) 1).toNat (pT (cwN w p) (anF w) (fun q => 12 - anF w q) t) else 0
theorem odd_all {p h own : Int} (hw : CW w) : ∃ K, 0 < K ∧ snR (cwN w p + 1) (odF w p h own) = (oddB w p h - oddF w p h own) * K ∧ prR (w (stc w) 1).toNat (fun q => if (cwN w p).testBit q = true then 12 else 1) = oddB w p h * K := by
  have s2 := hw.1.2.2.1
  have hC : cwN w p < 2 ^ (w (stc w) 1).toNat := orR_lt (fun k hk => by
    unfold cwF
    split
    · exact Nat.pow_lt_pow_right (by omega) hk
    · exact Nat.two_pow_pos _)
  have key := oddsum (C := cwN w p) (n := (w (stc w) 1).toNat) (an := anF w) (un := (unC w p own).testBit h.toNat = true) (wk := fun q => wkC w p h (q : Int)) (gd := fun t => (unC w p own ||| cfN w (orR (w (stc w) 1).toNat (hhF w t))).testBit h.toNat = true) hC (fun q hq => by
    have := (hw.1.2.2.2.2 q (by omega)).2
    unfold anF
    omega) (fun q hq hk => cw_bit.2 ⟨hq, hk.1⟩) (fun t ht => by
    have := (gdW_iff (w := w) (p := p) (h := h) (own := own) (t := t))
    unfold gdW at this
    constructor
    · intro q
      rcases (this.1 ⟨ht, q⟩).2 with q | ⟨q, q1, q2, q3⟩
      · exact Or.inl q
      · exact Or.inr ⟨q, q1, q3⟩
    · rintro (q | ⟨q, q1, q3⟩)
      · exact (this.2 ⟨ht, Or.inl q⟩).2
      · exact (this.2 ⟨ht, Or.inr ⟨q, q1, (cw_bit.1 (ht q q1)).1, q3⟩⟩).2)
  obtain ⟨K, k1, k2, k3⟩ := key
  refine ⟨K, k1, ?_, ?_⟩
  · have eB : oddB w p h = prR (w (stc w) 1).toNat (fun q => if wkC w p h (q : Int) then 12 else 1) := rfl
    have eF : oddF w p h own = (if (unC w p own).testBit h.toNat = true then 0 else 1) * prR (w (stc w) 1).toNat (fun q => if wkC w p h (q : Int) then 12 - anF w q else 1) := by
      unfold oddF
      congr 1
      refine prR_congr (fun q hq => ?_)
      have := (hw.1.2.2.2.2 q (by omega)).2
      unfold faF anF
      split
      · omega
      · rfl
    rw [eB, eF]
    exact k2
  · exact k3
set_option maxRecDepth 10000 in
theorem c_X8_odds {p h own : Int} (hw : CW w) (hc : CP μ w) (h1 : ¬ ((0 ≤ p ∧ p < w (stc w) 1) ∧ (0 ≤ h ∧ h < w (stc w) 0)) → Q (I_ (-1)) μ)
    (h2 : (0 ≤ p ∧ p < w (stc w) 1) → (0 ≤ h ∧ h < w (stc w) 0) → Q (I_ (smR (w (stc w) 1).toNat (fun q => b2i (cwC w p q)))) (frN μ (oddB w p h - oddF w p h own) (oddB w p h))) : V_ nX8_odds 0 [R_ 50, I_ p, I_ h, I_ own, U_, U_, U_, U_, U_, U_, U_, U_, U_, U_] [] μ Q := by
  have c1 := hc.1.1
  have s1 := hw.1.2.1
  have s2 := hw.1.2.2.1
  have hre := hw.2.2.2.1
  have hp := hw.P
  have lc := cw_lt (w := w) (p := p) s2.2
  have hC : cwN w p < 2 ^ (w (stc w) 1).toNat := orR_lt (fun k hk => by
    unfold cwF
    split
    · exact Nat.pow_lt_pow_right (by omega) hk
    · exact Nat.two_pow_pos _)
  have ecnt : ((cntB 32 (cwN w p) : Nat) : Int) = smR (w (stc w) 1).toNat (fun q => b2i (cwC w p q)) := by
    rw [cntB_sm hC (by omega)]
    exact smR_congr (fun k hk => b2i_congr (by rw [cw_bit]; exact ⟨fun q => q.2, fun q => ⟨hk, q⟩⟩))
  obtain ⟨K, hK, eS, eW⟩ := odd_all (w := w) (p := p) (h := h) (own := own) hw
  have p12 : ∀ n : Nat, n ≤ 12 → (12 : Nat) ^ n ≤ 12 ^ 12 := fun n hn => Nat.pow_le_pow_right (by omega) hn
  have bW : ∀ k : Nat, k ≤ 12 → ∀ f : Nat → Nat, (∀ q, q < k → f q ≤ 12) → prR k f ≤ 12 ^ 12 := fun k hk f hf => Nat.le_trans (prR_pow hf) (p12 k hk)
  have bW12 : (12 : Nat) ^ 12 < 2 ^ 44 := by decide
  have bSW : snR (cwN w p + 1) (odF w p h own) ≤ prR (w (stc w) 1).toNat (fun q => if (cwN w p).testBit q = true then 12 else 1) := by
    rw [eS, eW]
    exact Nat.mul_le_mul_right _ (Nat.sub_le _ _)
  generalize hWd : prR (w (stc w) 1).toNat (fun q => if (cwN w p).testBit q = true then 12 else 1) = W at *
  have bWW : W ≤ 12 ^ 12 := by rw [← hWd]; exact bW _ (by omega) _ (fun q _ => by split <;> omega)
  have hW0 : 0 < W := by rw [← hWd]; exact prR_pos (fun k hk => by split <;> omega)
  have lp : (0 ≤ p ∧ p < w (stc w) 1) → (0 ≤ h ∧ h < w (stc w) 0) → ∀ s : Nat, sb s (cwN w p) → ∀ up : Nat, up + snR (s + 1) (odF w p h own) = snR (cwN w p + 1) (odF w p h own) → V_ nX8_odds 78 [R_ 50, I_ p, I_ h, I_ own, I_ (cwN w p : Int), L_ (up : Int), U_, L_ (W : Int), U_, I_ (s : Int), I_ 1, U_, U_, U_] [] μ Q := by
    intro hpp hhh
    refine loop_dn (fun s => s) (fun s ih => ?_)
    intro hsb up hup
    have hsl := sb_le hsb
    have l1 := unC_lt hp hre p own
    rw [snR] at hup
    have nb : ∀ up' : Nat, up' + snR s (odF w p h own) = snR (cwN w p + 1) (odF w p h own) → V_ nX8_odds 177 [R_ 50, I_ p, I_ h, I_ own, I_ (cwN w p : Int), L_ (up' : Int), U_, L_ (W : Int), U_, I_ (s : Int), U_, U_, U_, U_] [] μ Q := by
      intro up' hb'
      have ea : s ≠ 0 → bAnd ((s : Int) - 1) (cwN w p : Int) = (((s - 1) &&& cwN w p : Nat) : Int) := fun q => by
        have := bAnd_nat (a := s - 1) (b := cwN w p) (by omega) (by omega)
        rwa [show ((s - 1 : Nat) : Int) = (s : Int) - 1 by omega] at this
      refine v_iload dX8_odds_177 rfl ?_
      refine v_if_eq (tgt := 186) dX8_odds_179 (by decide) (fun hc_179 => ?_) (fun hc_179 => ?_)
      · refine v_iconst dX8_odds_186 (by decide) ?_
        refine v_istore (ls' := [_, _, _, _, _, _, _, _, _, _, _, _, _, _]) dX8_odds_187 rfl rfl rfl ?_
        refine v_iload dX8_odds_189 rfl ?_
        refine v_iconst dX8_odds_191 (by decide) ?_
        refine v_isub dX8_odds_192 (fun ha hb => by omega) ?_
        refine v_iload dX8_odds_193 rfl ?_
        refine v_iand dX8_odds_195 ?_
        refine v_istore (ls' := [_, _, _, _, _, _, _, _, _, _, _, _, _, _]) dX8_odds_196 rfl rfl rfl ?_
        refine v_goto (tgt := 78) dX8_odds_198 (by decide) ?_
        refine v_kill (ls' := [_, _, _, _, _, _, _, _, _, _, _, _, _, _]) 11 rfl ?_
        refine v_kill (ls' := [_, _, _, _, _, _, _, _, _, _, _, _, _, _]) 12 rfl ?_
        refine v_kill (ls' := [_, _, _, _, _, _, _, _, _, _, _, _, _, _]) 13 rfl ?_
        have e0 : s = 0 := by omega
        subst e0
        rw [snR, Nat.add_zero] at hb'
        refine v_iload dX8_odds_78 rfl ?_
        refine v_if_eq (tgt := 201) dX8_odds_80 (by decide) (fun hc_80 => ?_) (fun hc_80 => ?_)
        · refine v_aload_n dX8_odds_201 rfl rfl ?_
          refine v_lload dX8_odds_202 rfl ?_
          refine v_lload dX8_odds_204 rfl ?_
          refine v_iload dX8_odds_206 rfl ?_
          refine v_callSi [_] dX8_odds_208 lX8_268 ksX8_bits (plX8 _ _) (Or.inl rfl) rfl rfl rfl rfl rfl rfl (c_X8_bits (by omega) ?_)
          refine v_callVi [_, _, _] dX8_odds_211 lX8_273 kvX8_fraction (plX8 _ _) (Or.inl rfl) rfl rfl rfl rfl rfl rfl rfl rfl rfl (c_X8_fraction hW0 (by omega) ?_)
          refine v_ireturn dX8_odds_214 rfl ?_
          rw [hb', eS, eW, frN_mul hK, ecnt]
          exact h2 hpp hhh
        · exfalso; omega
      · refine v_iconst dX8_odds_182 (by decide) ?_
        refine v_goto (tgt := 187) dX8_odds_183 (by decide) ?_
        refine v_istore (ls' := [_, _, _, _, _, _, _, _, _, _, _, _, _, _]) dX8_odds_187 rfl rfl rfl ?_
        refine v_iload dX8_odds_189 rfl ?_
        refine v_iconst dX8_odds_191 (by decide) ?_
        refine v_isub dX8_odds_192 (fun ha hb => by omega) ?_
        refine v_iload dX8_odds_193 rfl ?_
        refine v_iand dX8_odds_195 ?_
        refine v_istore (ls' := [_, _, _, _, _, _, _, _, _, _, _, _, _, _]) dX8_odds_196 rfl rfl rfl ?_
        refine v_goto (tgt := 78) dX8_odds_198 (by decide) ?_
        refine v_kill (ls' := [_, _, _, _, _, _, _, _, _, _, _, _, _, _]) 11 rfl ?_
        refine v_kill (ls' := [_, _, _, _, _, _, _, _, _, _, _, _, _, _]) 12 rfl ?_
        refine v_kill (ls' := [_, _, _, _, _, _, _, _, _, _, _, _, _, _]) 13 rfl ?_
        rw [ea (by omega)]
        have hl2 : (s - 1) &&& cwN w p ≤ s - 1 := Nat.and_le_left
        refine ih _ (by omega) (fun i hi => (and_bit.1 hi).2) _ ?_
        rw [← snR_z (f := odF w p h own) (a := ((s - 1) &&& cwN w p) + 1) (b := s) (by omega) (fun t t1 t2 => if_neg (fun q => by have := nxt_sub s _ t hsb (sub_iff.1 q.1) t2; omega))]
        exact hb'
    have hg1 : (unC w p own ||| cfN w (orR (w (stc w) 1).toNat (hhF w s))) < 2 ^ 6 := Nat.or_lt_two_pow l1 (cfN_lt hre (orR_lt (fun q hq => by
      have h5 := hw.1.2.2.2.2 q (by omega)
      unfold hhF haC
      rw [Int.toNat_natCast]
      split
      · refine Nat.or_lt_two_pow (opens_lt hp _ _) ?_
        split
        · exact Nat.pow_lt_pow_right (by omega) (by omega)
        · decide
      · decide)))
    have inner : (unC w p own ||| cfN w (orR (w (stc w) 1).toNat (hhF w s))).testBit h.toNat = true → ∀ k : Int, 0 ≤ k → k ≤ w (stc w) 1 → V_ nX8_odds 104 [R_ 50, I_ p, I_ h, I_ own, I_ (cwN w p : Int), L_ (up : Int), U_, L_ (W : Int), U_, I_ (s : Int), U_, L_ ((prR k.toNat (pT (cwN w p) (anF w) (fun q => 12 - anF w q) s) : Nat) : Int), U_, I_ k] [] μ Q := by
      intro hgd
      refine loop_up _ (fun k h0 h1 ihk => ?_)
      have hk : k < w (stc w) 1 → _ := fun q : k < w (stc w) 1 => hc.1.2.2 k.toNat (by omega)
      have hs3 : k < w (stc w) 1 → _ := fun q : k < w (stc w) 1 => (hw.1.2.2.2.2 k.toNat (by omega)).2
      have hf12 : ∀ q : Nat, q < 12 → (q : Int) < w (stc w) 1 → pT (cwN w p) (anF w) (fun q => 12 - anF w q) s q ≤ 12 := by
        intro q _ hq
        have := (hw.1.2.2.2.2 q hq).2
        unfold pT anF
        dsimp only
        split
        · split <;> omega
        · omega
      have bp := bW k.toNat (by omega) (pT (cwN w p) (anF w) (fun q => 12 - anF w q) s) (fun q hq => hf12 q (by omega) (by omega))
      have bp1 : k < w (stc w) 1 → _ := fun hk1 : k < w (stc w) 1 => bW (k.toNat + 1) (by omega) (pT (cwN w p) (anF w) (fun q => 12 - anF w q) s) (fun q hq => hf12 q (by omega) (by omega))
      have stp : ∀ v : Int, k < w (stc w) 1 → v = ((pT (cwN w p) (anF w) (fun q => 12 - anF w q) s k.toNat : Nat) : Int) → V_ nX8_odds 104 [R_ 50, I_ p, I_ h, I_ own, I_ (cwN w p : Int), L_ (up : Int), U_, L_ (W : Int), U_, I_ (s : Int), U_, L_ (w64 (((prR k.toNat (pT (cwN w p) (anF w) (fun q => 12 - anF w q) s) : Nat) : Int) * v)), U_, I_ (k + 1)] [] μ Q := by
        intro v hk1 hv
        have e : ((prR k.toNat (pT (cwN w p) (anF w) (fun q => 12 - anF w q) s) : Nat) : Int) * v = ((prR (k + 1).toNat (pT (cwN w p) (anF w) (fun q => 12 - anF w q) s) : Nat) : Int) := by
          rw [hv, ← Int.natCast_mul, show (k + 1).toNat = k.toNat + 1 by omega, prR]
        have b1 := bp1 hk1
        rw [show k.toNat + 1 = (k + 1).toNat by omega] at b1
        rw [e, w64_id (by omega)]
        exact ihk hk1
      have eFs : odF w p h own s = prR (w (stc w) 1).toNat (pT (cwN w p) (anF w) (fun q => 12 - anF w q) s) := if_pos ⟨sub_iff.2 hsb, hgd⟩
      refine v_iload dX8_odds_104 rfl ?_
      refine v_aload_n dX8_odds_106 rfl rfl ?_
      refine v_getI dX8_odds_107 fX8_183 rfl rfl rfl ?_
      refine v_icmp_ge (tgt := 170) dX8_odds_110 (by decide) (fun hc_110 => ?_) (fun hc_110 => ?_)
      · refine v_lload dX8_odds_170 rfl ?_
        refine v_lload dX8_odds_172 rfl ?_
        refine v_ladd dX8_odds_174 ?_
        refine v_lstore (ls' := [_, _, _, _, _, _, _, _, _, _, _, _, _, _]) dX8_odds_175 rfl rfl rfl ?_
        refine v_kill (ls' := [_, _, _, _, _, _, _, _, _, _, _, _, _, _]) 10 rfl ?_
        refine v_kill (ls' := [_, _, _, _, _, _, _, _, _, _, _, _, _, _]) 11 rfl ?_
        refine v_kill (ls' := [_, _, _, _, _, _, _, _, _, _, _, _, _, _]) 12 rfl ?_
        refine v_kill (ls' := [_, _, _, _, _, _, _, _, _, _, _, _, _, _]) 13 rfl ?_
        have ek : k.toNat = (w (stc w) 1).toNat := by omega
        rw [ek, ← eFs, w64_id (by omega), show ((up : Int) + (odF w p h own s : Int)) = ((up + odF w p h own s : Nat) : Int) by omega]
        exact nb _ (by omega)
      · refine v_lload dX8_odds_113 rfl ?_
        refine v_iload dX8_odds_115 rfl ?_
        refine v_iload dX8_odds_117 rfl ?_
        refine v_callSi [_, _] dX8_odds_119 lX8_252 ksX8_has (plX8 _ _) (Or.inr rfl) rfl rfl rfl rfl rfl rfl (c_X8_has (by omega) (by omega) (by omega) ?_)
        refine v_ifb_ne (tgt := 129) dX8_odds_122 (by decide) (fun hc_122 => ?_) (fun hc_122 => ?_)
        · refine v_iload dX8_odds_129 rfl ?_
          refine v_iload dX8_odds_131 rfl ?_
          refine v_callSi [_, _] dX8_odds_133 lX8_252 ksX8_has (plX8 _ _) (Or.inr rfl) rfl rfl rfl rfl rfl rfl (c_X8_has (by omega) (by omega) (by omega) ?_)
          refine v_ifb_eq (tgt := 150) dX8_odds_136 (by decide) (fun hc_136 => ?_) (fun hc_136 => ?_)
          · refine v_bipush dX8_odds_150 (by decide) ?_
            refine v_aload_n dX8_odds_152 rfl rfl ?_
            refine v_getR dX8_odds_153 fX8_35 rfl rfl rfl ?_
            refine v_iload dX8_odds_156 rfl ?_
            refine v_iald dX8_odds_158 rfl (by omega) (by omega) ?_
            rw [(hk (by omega)).2]
            refine v_isub dX8_odds_159 (fun ha hb => by have := hs3 (by omega); omega) ?_
            refine v_i2l dX8_odds_160 ?_
            refine v_lmul dX8_odds_161 ?_
            refine v_lstore (ls' := [_, _, _, _, _, _, _, _, _, _, _, _, _, _]) dX8_odds_162 rfl rfl rfl ?_
            refine v_iinc (ls' := [_, _, _, _, _, _, _, _, _, _, _, _, _, _]) dX8_odds_164 rfl (fun hi_164 => by omega) rfl rfl ?_
            refine v_goto (tgt := 104) dX8_odds_167 (by decide) ?_
            refine v_kill (ls' := [_, _, _, _, _, _, _, _, _, _, _, _, _, _]) 10 rfl ?_
            refine stp _ (by omega) ?_
            have hs3 := hs3 (by omega)
            unfold pT anF
            dsimp only
            first
              | (rw [if_neg (by simpa using hc_122)]; rfl)
              | (rw [if_pos (by simpa using hc_122), if_pos (by simpa using hc_136)]; omega)
              | (rw [if_pos (by simpa using hc_122), if_neg (by simpa using hc_136)]; omega)
          · refine v_aload_n dX8_odds_139 rfl rfl ?_
            refine v_getR dX8_odds_140 fX8_35 rfl rfl rfl ?_
            refine v_iload dX8_odds_143 rfl ?_
            refine v_iald dX8_odds_145 rfl (by omega) (by omega) ?_
            rw [(hk (by omega)).2]
            refine v_i2l dX8_odds_146 ?_
            refine v_goto (tgt := 161) dX8_odds_147 (by decide) ?_
            refine v_lmul dX8_odds_161 ?_
            refine v_lstore (ls' := [_, _, _, _, _, _, _, _, _, _, _, _, _, _]) dX8_odds_162 rfl rfl rfl ?_
            refine v_iinc (ls' := [_, _, _, _, _, _, _, _, _, _, _, _, _, _]) dX8_odds_164 rfl (fun hi_164 => by omega) rfl rfl ?_
            refine v_goto (tgt := 104) dX8_odds_167 (by decide) ?_
            refine v_kill (ls' := [_, _, _, _, _, _, _, _, _, _, _, _, _, _]) 10 rfl ?_
            refine stp _ (by omega) ?_
            have hs3 := hs3 (by omega)
            unfold pT anF
            dsimp only
            first
              | (rw [if_neg (by simpa using hc_122)]; rfl)
              | (rw [if_pos (by simpa using hc_122), if_pos (by simpa using hc_136)]; omega)
              | (rw [if_pos (by simpa using hc_122), if_neg (by simpa using hc_136)]; omega)
        · refine v_lconst (x := 1) dX8_odds_125 (by decide) ?_
          refine v_goto (tgt := 161) dX8_odds_126 (by decide) ?_
          refine v_lmul dX8_odds_161 ?_
          refine v_lstore (ls' := [_, _, _, _, _, _, _, _, _, _, _, _, _, _]) dX8_odds_162 rfl rfl rfl ?_
          refine v_iinc (ls' := [_, _, _, _, _, _, _, _, _, _, _, _, _, _]) dX8_odds_164 rfl (fun hi_164 => by omega) rfl rfl ?_
          refine v_goto (tgt := 104) dX8_odds_167 (by decide) ?_
          refine v_kill (ls' := [_, _, _, _, _, _, _, _, _, _, _, _, _, _]) 10 rfl ?_
          refine stp _ (by omega) ?_
          have hs3 := hs3 (by omega)
          unfold pT anF
          dsimp only
          first
            | (rw [if_neg (by simpa using hc_122)]; rfl)
            | (rw [if_pos (by simpa using hc_122), if_pos (by simpa using hc_136)]; omega)
            | (rw [if_pos (by simpa using hc_122), if_neg (by simpa using hc_136)]; omega)
    refine v_iload dX8_odds_78 rfl ?_
    refine v_if_eq (tgt := 201) dX8_odds_80 (by decide) (fun hc_80 => ?_) (fun hc_80 => ?_)
    · refine v_kill (ls' := [_, _, _, _, _, _, _, _, _, _, _, _, _, _]) 9 rfl ?_
      refine v_kill (ls' := [_, _, _, _, _, _, _, _, _, _, _, _, _, _]) 10 rfl ?_
      refine v_kill (ls' := [_, _, _, _, _, _, _, _, _, _, _, _, _, _]) 11 rfl ?_
      refine v_kill (ls' := [_, _, _, _, _, _, _, _, _, _, _, _, _, _]) 12 rfl ?_
      refine v_kill (ls' := [_, _, _, _, _, _, _, _, _, _, _, _, _, _]) 13 rfl ?_
      exfalso; omega
    · refine v_aload_n dX8_odds_83 rfl rfl ?_
      refine v_iload_n dX8_odds_84 rfl rfl ?_
      refine v_iload_n dX8_odds_85 rfl rfl ?_
      refine v_iload dX8_odds_86 rfl ?_
      refine v_callVi [_, _, _] dX8_odds_88 lX8_264 kvX8_openBy (plX8 _ _) (Or.inl rfl) rfl rfl rfl rfl rfl rfl rfl rfl rfl (c_X8_openBy hw hc hpp (by omega) (fun q q1 q2 => (cw_bit.1 (hsb q q2)).2.2.1) ?_)
      refine v_iload_n dX8_odds_91 rfl rfl ?_
      refine v_callSi [_, _] dX8_odds_92 lX8_252 ksX8_has (plX8 _ _) (Or.inr rfl) rfl rfl rfl rfl rfl rfl (c_X8_has (by omega) (by omega) (by omega) ?_)
      refine v_ifb_eq (tgt := 177) dX8_odds_95 (by decide) (fun hc_95 => ?_) (fun hc_95 => ?_)
      · refine v_kill (ls' := [_, _, _, _, _, _, _, _, _, _, _, _, _, _]) 10 rfl ?_
        refine v_kill (ls' := [_, _, _, _, _, _, _, _, _, _, _, _, _, _]) 11 rfl ?_
        refine v_kill (ls' := [_, _, _, _, _, _, _, _, _, _, _, _, _, _]) 12 rfl ?_
        refine v_kill (ls' := [_, _, _, _, _, _, _, _, _, _, _, _, _, _]) 13 rfl ?_
        have e0 : odF w p h own s = 0 := if_neg (fun q => hc_95 (by simpa using q.2))
        rw [e0] at hup
        exact nb up (by omega)
      · refine v_lconst (x := 1) dX8_odds_98 (by decide) ?_
        refine v_lstore (ls' := [_, _, _, _, _, _, _, _, _, _, _, _, _, _]) dX8_odds_99 rfl rfl rfl ?_
        refine v_iconst dX8_odds_101 (by decide) ?_
        refine v_istore (ls' := [_, _, _, _, _, _, _, _, _, _, _, _, _, _]) dX8_odds_102 rfl rfl rfl ?_
        refine v_kill (ls' := [_, _, _, _, _, _, _, _, _, _, _, _, _, _]) 10 rfl ?_
        exact inner (by simpa using hc_95) 0 (by omega) (by omega)
  have lw : (0 ≤ p ∧ p < w (stc w) 1) → (0 ≤ h ∧ h < w (stc w) 0) → ∀ k : Int, 0 ≤ k → k ≤ w (stc w) 1 → V_ nX8_odds 34 [R_ 50, I_ p, I_ h, I_ own, I_ (cwN w p : Int), L_ 0, U_, L_ ((prR k.toNat (fun q => if (cwN w p).testBit q = true then 12 else 1) : Nat) : Int), U_, I_ k, U_, U_, U_, U_] [] μ Q := by
    intro hpp hhh
    refine loop_up _ (fun k h0 h1 ih => ?_)
    have bp := bW k.toNat (by omega) (fun q => if (cwN w p).testBit q = true then 12 else 1) (fun q hq => by split <;> omega)
    have stp : ∀ v : Int, k < w (stc w) 1 → v = (((if (cwN w p).testBit k.toNat = true then 12 else 1) : Nat) : Int) → V_ nX8_odds 34 [R_ 50, I_ p, I_ h, I_ own, I_ (cwN w p : Int), L_ 0, U_, L_ (w64 (((prR k.toNat (fun q => if (cwN w p).testBit q = true then 12 else 1) : Nat) : Int) * v)), U_, I_ (k + 1), U_, U_, U_, U_] [] μ Q := by
      intro v hk1 hv
      have e : ((prR k.toNat (fun q => if (cwN w p).testBit q = true then 12 else 1) : Nat) : Int) * v = ((prR (k + 1).toNat (fun q => if (cwN w p).testBit q = true then 12 else 1) : Nat) : Int) := by
        rw [hv, ← Int.natCast_mul, show (k + 1).toNat = k.toNat + 1 by omega, prR]
      have b1 := bW (k + 1).toNat (by omega) (fun q => if (cwN w p).testBit q = true then 12 else 1) (fun q hq => by split <;> omega)
      rw [e, w64_id (by omega)]
      exact ih hk1
    refine v_iload dX8_odds_34 rfl ?_
    refine v_aload_n dX8_odds_36 rfl rfl ?_
    refine v_getI dX8_odds_37 fX8_183 rfl rfl rfl ?_
    refine v_icmp_ge (tgt := 71) dX8_odds_40 (by decide) (fun hc_40 => ?_) (fun hc_40 => ?_)
    · refine v_iload dX8_odds_71 rfl ?_
      refine v_istore (ls' := [_, _, _, _, _, _, _, _, _, _, _, _, _, _]) dX8_odds_73 rfl rfl rfl ?_
      refine v_iconst dX8_odds_75 (by decide) ?_
      refine v_istore (ls' := [_, _, _, _, _, _, _, _, _, _, _, _, _, _]) dX8_odds_76 rfl rfl rfl ?_
      refine v_kill (ls' := [_, _, _, _, _, _, _, _, _, _, _, _, _, _]) 11 rfl ?_
      refine v_kill (ls' := [_, _, _, _, _, _, _, _, _, _, _, _, _, _]) 12 rfl ?_
      refine v_kill (ls' := [_, _, _, _, _, _, _, _, _, _, _, _, _, _]) 13 rfl ?_
      rw [show k.toNat = (w (stc w) 1).toNat by omega, hWd]
      exact lp hpp hhh _ (sb_rf _) 0 (by omega)
    · refine v_lload dX8_odds_43 rfl ?_
      refine v_iload dX8_odds_45 rfl ?_
      refine v_iload dX8_odds_47 rfl ?_
      refine v_callSi [_, _] dX8_odds_49 lX8_252 ksX8_has (plX8 _ _) (Or.inr rfl) rfl rfl rfl rfl rfl rfl (c_X8_has (by omega) (by omega) (by omega) ?_)
      refine v_ifb_eq (tgt := 61) dX8_odds_52 (by decide) (fun hc_52 => ?_) (fun hc_52 => ?_)
      · refine v_lconst (x := 1) dX8_odds_61 (by decide) ?_
        refine v_lmul dX8_odds_62 ?_
        refine v_lstore (ls' := [_, _, _, _, _, _, _, _, _, _, _, _, _, _]) dX8_odds_63 rfl rfl rfl ?_
        refine v_iinc (ls' := [_, _, _, _, _, _, _, _, _, _, _, _, _, _]) dX8_odds_65 rfl (fun hi_65 => by omega) rfl rfl ?_
        refine v_goto (tgt := 34) dX8_odds_68 (by decide) ?_
        refine v_kill (ls' := [_, _, _, _, _, _, _, _, _, _, _, _, _, _]) 10 rfl ?_
        refine v_kill (ls' := [_, _, _, _, _, _, _, _, _, _, _, _, _, _]) 11 rfl ?_
        refine v_kill (ls' := [_, _, _, _, _, _, _, _, _, _, _, _, _, _]) 12 rfl ?_
        refine v_kill (ls' := [_, _, _, _, _, _, _, _, _, _, _, _, _, _]) 13 rfl ?_
        refine stp _ (by omega) ?_
        first
          | (rw [if_pos (by simpa using hc_52)]; rfl)
          | (rw [if_neg (by simpa using hc_52)]; rfl)
      · refine v_ldc2 (x := 12) dX8_odds_55 lcX8_271 (by decide) (by decide) ?_
        refine v_goto (tgt := 62) dX8_odds_58 (by decide) ?_
        refine v_lmul dX8_odds_62 ?_
        refine v_lstore (ls' := [_, _, _, _, _, _, _, _, _, _, _, _, _, _]) dX8_odds_63 rfl rfl rfl ?_
        refine v_iinc (ls' := [_, _, _, _, _, _, _, _, _, _, _, _, _, _]) dX8_odds_65 rfl (fun hi_65 => by omega) rfl rfl ?_
        refine v_goto (tgt := 34) dX8_odds_68 (by decide) ?_
        refine v_kill (ls' := [_, _, _, _, _, _, _, _, _, _, _, _, _, _]) 10 rfl ?_
        refine v_kill (ls' := [_, _, _, _, _, _, _, _, _, _, _, _, _, _]) 11 rfl ?_
        refine v_kill (ls' := [_, _, _, _, _, _, _, _, _, _, _, _, _, _]) 12 rfl ?_
        refine v_kill (ls' := [_, _, _, _, _, _, _, _, _, _, _, _, _, _]) 13 rfl ?_
        refine stp _ (by omega) ?_
        first
          | (rw [if_pos (by simpa using hc_52)]; rfl)
          | (rw [if_neg (by simpa using hc_52)]; rfl)
  refine v_aload_n dX8_odds_0 rfl rfl ?_
  refine v_iload_n dX8_odds_1 rfl rfl ?_
  refine v_callVi [_] dX8_odds_2 lX8_207 kvX8_isPerson (plX8 _ _) (Or.inr rfl) rfl rfl rfl rfl rfl rfl rfl rfl rfl (c_X8_isPerson (by omega) ?_)
  refine v_ifb_eq (tgt := 16) dX8_odds_5 (by decide) (fun hc_5 => ?_) (fun hc_5 => ?_)
  · refine v_iconst dX8_odds_16 (by decide) ?_
    refine v_ireturn dX8_odds_17 rfl ?_
    exact h1 (by omega)
  · refine v_aload_n dX8_odds_8 rfl rfl ?_
    refine v_iload_n dX8_odds_9 rfl rfl ?_
    refine v_callVi [_] dX8_odds_10 lX8_204 kvX8_isHouse (plX8 _ _) (Or.inr rfl) rfl rfl rfl rfl rfl rfl rfl rfl rfl (c_X8_isHouse (by omega) ?_)
    refine v_ifb_ne (tgt := 18) dX8_odds_13 (by decide) (fun hc_13 => ?_) (fun hc_13 => ?_)
    · refine v_aload_n dX8_odds_18 rfl rfl ?_
      refine v_iload_n dX8_odds_19 rfl rfl ?_
      refine v_callVi [_] dX8_odds_20 lX8_261 kvX8_wakesOf (plX8 _ _) (Or.inl rfl) rfl rfl rfl rfl rfl rfl rfl rfl rfl (c_X8_wakesOf hw hc (by omega) ?_)
      refine v_istore (ls' := [_, _, _, _, _, _, _, _, _, _, _, _, _, _]) dX8_odds_23 rfl rfl rfl ?_
      refine v_lconst (x := 0) dX8_odds_25 (by decide) ?_
      refine v_lstore (ls' := [_, _, _, _, _, _, _, _, _, _, _, _, _, _]) dX8_odds_26 rfl rfl rfl ?_
      refine v_lconst (x := 1) dX8_odds_28 (by decide) ?_
      refine v_lstore (ls' := [_, _, _, _, _, _, _, _, _, _, _, _, _, _]) dX8_odds_29 rfl rfl rfl ?_
      refine v_iconst dX8_odds_31 (by decide) ?_
      refine v_istore (ls' := [_, _, _, _, _, _, _, _, _, _, _, _, _, _]) dX8_odds_32 rfl rfl rfl ?_
      exact lw (by omega) (by omega) 0 (by omega) (by omega)
    · refine v_iconst dX8_odds_16 (by decide) ?_
      refine v_ireturn dX8_odds_17 rfl ?_
      exact h1 (by omega)
end
