/-! fractions, odds -/
def prR : Nat → (Nat → Nat) → Nat
  | 0, _ => 1
  | n + 1, f => prR n f * f n
theorem prR_le {n : Nat} {f g : Nat → Nat} (h : ∀ k, k < n → f k ≤ g k) : prR n f ≤ prR n g := by
  induction n with
  | zero => exact Nat.le_refl _
  | succ n ih => exact Nat.mul_le_mul (ih (fun k hk => h k (by omega))) (h n (by omega))
theorem prR_pow {n c : Nat} {f : Nat → Nat} (h : ∀ k, k < n → f k ≤ c) : prR n f ≤ c ^ n := by
  induction n with
  | zero => exact Nat.le_refl _
  | succ n ih => rw [prR, Nat.pow_succ]; exact Nat.mul_le_mul (ih (fun k hk => h k (by omega))) (h n (by omega))
theorem prR_pos {n : Nat} {f : Nat → Nat} (h : ∀ k, k < n → 0 < f k) : 0 < prR n f := by
  induction n with
  | zero => exact Nat.one_pos
  | succ n ih => exact Nat.mul_pos (ih (fun k hk => h k (by omega))) (h n (by omega))
theorem tmod_nat (a b : Nat) : (a : Int).tmod (b : Int) = ((a % b : Nat) : Int) := by
  rw [Int.tmod_eq_emod_of_nonneg (by omega)]
  exact (Int.natCast_emod a b).symm
theorem tdiv_nat (a b : Nat) : (a : Int).tdiv (b : Int) = ((a / b : Nat) : Int) := by
  rw [Int.tdiv_eq_ediv_of_nonneg (by omega)]
  exact (Int.natCast_ediv a b).symm
section
variable {μ : Mem_} {Q : PV → Mem_ → Prop}
set_option maxRecDepth 10000 in
theorem gcd_exit {a b : Int} {x : Nat} {i : Int} (h : Q (L_ (x : Int)) μ) : V_ nX7_commonDivisor 9 [L_ a, U_, L_ b, U_, L_ (x : Int), U_, L_ 0, U_, I_ i, U_, U_] [] μ Q := by
  refine v_iload dX7_commonDivisor_9 rfl ?_
  refine v_bipush dX7_commonDivisor_11 (by decide) ?_
  refine v_icmp_ge (tgt := 44) dX7_commonDivisor_13 (by decide) (fun hc_13 => ?_) (fun hc_13 => ?_)
  · refine v_lload dX7_commonDivisor_44 rfl ?_
    refine v_lreturn dX7_commonDivisor_46 rfl ?_
    exact h
  · refine v_lload dX7_commonDivisor_16 rfl ?_
    refine v_lconst (x := 0) dX7_commonDivisor_18 (by decide) ?_
    refine v_lcmp dX7_commonDivisor_19 ?_
    refine v_if_eq (tgt := 44) dX7_commonDivisor_20 (by decide) (fun hc_20 => ?_) (fun hc_20 => ?_)
    · refine v_lload dX7_commonDivisor_44 rfl ?_
      refine v_lreturn dX7_commonDivisor_46 rfl ?_
      exact h
    · exact absurd (by decide) hc_20
set_option maxRecDepth 10000 in
theorem gcd_step {a b : Int} {x y : Nat} {i : Int} (hi : 0 ≤ i ∧ i < 100) (hy : 0 < y) (h : V_ nX7_commonDivisor 9 [L_ a, U_, L_ b, U_, L_ (y : Int), U_, L_ ((x % y : Nat) : Int), U_, I_ (i + 1), U_, U_] [] μ Q) : V_ nX7_commonDivisor 9 [L_ a, U_, L_ b, U_, L_ (x : Int), U_, L_ (y : Int), U_, I_ i, U_, U_] [] μ Q := by
  refine v_iload dX7_commonDivisor_9 rfl ?_
  refine v_bipush dX7_commonDivisor_11 (by decide) ?_
  refine v_icmp_ge (tgt := 44) dX7_commonDivisor_13 (by decide) (fun hc_13 => ?_) (fun hc_13 => ?_)
  · refine v_lload dX7_commonDivisor_44 rfl ?_
    refine v_lreturn dX7_commonDivisor_46 rfl ?_
    omega
  · refine v_lload dX7_commonDivisor_16 rfl ?_
    refine v_lconst (x := 0) dX7_commonDivisor_18 (by decide) ?_
    refine v_lcmp dX7_commonDivisor_19 ?_
    refine v_if_eq (tgt := 44) dX7_commonDivisor_20 (by decide) (fun hc_20 => ?_) (fun hc_20 => ?_)
    · refine v_lload dX7_commonDivisor_44 rfl ?_
      refine v_lreturn dX7_commonDivisor_46 rfl ?_
      exfalso
      unfold cmpI at hc_20
      split at hc_20
      · omega
      · split at hc_20
        · omega
        · omega
    · refine v_lload dX7_commonDivisor_23 rfl ?_
      refine v_lload dX7_commonDivisor_25 rfl ?_
      refine v_lrem dX7_commonDivisor_27 (by omega) ?_
      rw [tmod_nat]
      refine v_lstore (ls' := [_, _, _, _, _, _, _, _, _, _, _]) dX7_commonDivisor_28 rfl rfl rfl ?_
      refine v_lload dX7_commonDivisor_30 rfl ?_
      refine v_lstore (ls' := [_, _, _, _, _, _, _, _, _, _, _]) dX7_commonDivisor_32 rfl rfl rfl ?_
      refine v_lload dX7_commonDivisor_34 rfl ?_
      refine v_lstore (ls' := [_, _, _, _, _, _, _, _, _, _, _]) dX7_commonDivisor_36 rfl rfl rfl ?_
      refine v_iinc (ls' := [_, _, _, _, _, _, _, _, _, _, _]) dX7_commonDivisor_38 rfl (fun hi_38 => by omega) rfl rfl ?_
      refine v_goto (tgt := 9) dX7_commonDivisor_41 (by decide) ?_
      refine v_kill (ls' := [_, _, _, _, _, _, _, _, _, _, _]) 9 rfl ?_
      exact h
theorem gcd_run {a b : Int} : ∀ (n x y : Nat) (i : Int), y < 2 ^ n → 0 ≤ i → i + 2 * n ≤ 100 → Q (L_ (Nat.gcd x y : Int)) μ → V_ nX7_commonDivisor 9 [L_ a, U_, L_ b, U_, L_ (x : Int), U_, L_ (y : Int), U_, I_ i, U_, U_] [] μ Q := by
  intro n
  induction n with
  | zero =>
    intro x y i hy h0 h1 h
    have : y = 0 := by omega
    subst this
    rw [Nat.gcd_zero_right] at h
    exact gcd_exit h
  | succ n ih =>
    intro x y i hy h0 h1 h
    rcases Nat.eq_zero_or_pos y with q | q
    · subst q
      rw [Nat.gcd_zero_right] at h
      exact gcd_exit h
    · refine gcd_step (by omega) q ?_
      have hg : Nat.gcd y (x % y) = Nat.gcd x y := by rw [Nat.gcd_comm x y, Nat.gcd_rec y x, Nat.gcd_comm]
      have hr := Nat.mod_lt x q
      rcases Nat.lt_or_ge (x % y) (2 ^ n) with q2 | q2
      · exact ih y (x % y) (i + 1) q2 (by omega) (by omega) (by rw [hg]; exact h)
      · refine gcd_step (by omega) (Nat.lt_of_lt_of_le (Nat.two_pow_pos n) q2) ?_
        have hp : 2 ^ (n + 1) = 2 * 2 ^ n := by rw [Nat.pow_succ]; omega
        have e : y % (x % y) < 2 ^ n := by
          have h3 : y % (x % y) = (y - x % y) % (x % y) := (Nat.mod_eq_sub_mod (by omega))
          rw [h3]
          exact Nat.lt_of_le_of_lt (Nat.mod_le _ _) (by omega)
        have hg2 : Nat.gcd (x % y) (y % (x % y)) = Nat.gcd x y := by rw [← hg, Nat.gcd_comm y (x % y), Nat.gcd_rec (x % y) y, Nat.gcd_comm]
        have := ih (x % y) (y % (x % y)) (i + 1 + 1) e (by omega) (by omega) (by rw [hg2]; exact h)
        exact this
set_option maxRecDepth 10000 in
theorem c_X7_commonDivisor {a b : Nat} (hb : b < 2 ^ 45) (h : Q (L_ (Nat.gcd a b : Int)) μ) : V_ nX7_commonDivisor 0 [L_ (a : Int), U_, L_ (b : Int), U_, U_, U_, U_, U_, U_, U_, U_] [] μ Q := by
  refine v_lload_n dX7_commonDivisor_0 rfl rfl ?_
  refine v_lstore (ls' := [_, _, _, _, _, _, _, _, _, _, _]) dX7_commonDivisor_1 rfl rfl rfl ?_
  refine v_lload_n dX7_commonDivisor_3 rfl rfl ?_
  refine v_lstore (ls' := [_, _, _, _, _, _, _, _, _, _, _]) dX7_commonDivisor_4 rfl rfl rfl ?_
  refine v_iconst dX7_commonDivisor_6 (by decide) ?_
  refine v_istore (ls' := [_, _, _, _, _, _, _, _, _, _, _]) dX7_commonDivisor_7 rfl rfl rfl ?_
  exact gcd_run 45 a b 0 hb (by omega) (by omega) h
def frC (μ : Mem_) (a b : Nat) : Mem_ := mset (mset μ 0 13 ((a / Nat.gcd a b : Nat) : Int)) 0 14 ((b / Nat.gcd a b : Nat) : Int)
set_option maxRecDepth 10000 in
theorem c_X7_tellFraction {a b : Nat} (hb : b < 2 ^ 45) (hb0 : 0 < b) (h : Q U_ (frC μ a b)) : V_ nX7_tellFraction 0 [R_ 0, L_ (a : Int), U_, L_ (b : Int), U_, U_, U_] [] μ Q := by
  have hg : 0 < Nat.gcd a b := Nat.gcd_pos_of_pos_right _ hb0
  refine v_lload_n dX7_tellFraction_0 rfl rfl ?_
  refine v_lload_n dX7_tellFraction_1 rfl rfl ?_
  refine v_callSl [_, _] dX7_tellFraction_2 lX7_329 ksX7_commonDivisor (plX7 _ _) rfl rfl rfl rfl rfl rfl rfl (c_X7_commonDivisor hb ?_)
  refine v_lstore (ls' := [_, _, _, _, _, _, _]) dX7_tellFraction_5 rfl rfl rfl ?_
  refine v_lload dX7_tellFraction_7 rfl ?_
  refine v_lconst (x := 0) dX7_tellFraction_9 (by decide) ?_
  refine v_lcmp dX7_tellFraction_10 ?_
  refine v_if_le (tgt := 30) dX7_tellFraction_11 (by decide) (fun hc_11 => ?_) (fun hc_11 => ?_)
  · refine v_return dX7_tellFraction_30 rfl ?_
    exfalso
    unfold cmpI at hc_11
    split at hc_11
    · omega
    · split at hc_11
      · omega
      · omega
  · refine v_aload_n dX7_tellFraction_14 rfl rfl ?_
    refine v_lload_n dX7_tellFraction_15 rfl rfl ?_
    refine v_lload dX7_tellFraction_16 rfl ?_
    refine v_ldiv dX7_tellFraction_18 (by omega) ?_
    rw [tdiv_nat]
    refine v_putL dX7_tellFraction_19 fpX7_80 rfl rfl rfl ?_
    refine v_aload_n dX7_tellFraction_22 rfl rfl ?_
    refine v_lload_n dX7_tellFraction_23 rfl rfl ?_
    refine v_lload dX7_tellFraction_24 rfl ?_
    refine v_ldiv dX7_tellFraction_26 (by omega) ?_
    rw [tdiv_nat]
    refine v_putL dX7_tellFraction_27 fpX7_84 rfl rfl rfl ?_
    refine v_return dX7_tellFraction_30 rfl ?_
    exact h
def alF (μ : Mem_) (p h : Int) (q : Nat) : Nat := if wkC μ p h q then 12 else 1
def faF (μ : Mem_) (p h : Int) (q : Nat) : Nat := if wkC μ p h q then (12 - μ (stc μ + 3) q).toNat else 1
def oddB (μ : Mem_) (p h : Int) : Nat := prR (μ (stc μ) 1).toNat (alF μ p h)
def oddF (μ : Mem_) (p h own : Int) : Nat := (if (unC μ p own).testBit h.toNat = true then 0 else 1) * prR (μ (stc μ) 1).toNat (faF μ p h)
set_option maxRecDepth 10000 in
theorem c_X7_odds {p h own : Int} (hst : isSt (stc μ)) (hs : StC μ (stc μ)) (hp : PIc μ) (hre : ReOK μ) (h1 : ¬ ((0 ≤ p ∧ p < μ (stc μ) 1) ∧ (0 ≤ h ∧ h < μ (stc μ) 0)) → Q (I_ (-1)) μ)
    (h2 : (0 ≤ p ∧ p < μ (stc μ) 1) → (0 ≤ h ∧ h < μ (stc μ) 0) → Q (I_ (smR (μ (stc μ) 1).toNat (fun q => b2i (cwC μ p q)))) (frC μ (oddB μ p h - oddF μ p h own) (oddB μ p h))) : V_ nX7_odds 0 [R_ 0, I_ p, I_ h, I_ own, U_, U_, U_, U_, U_, U_] [] μ Q := by
  have hs1 := hs.1
  have hs2 := hs.2.1
  have g1 := unC_lt hp hre p own
  have ale : ∀ q, q < (μ (stc μ) 1).toNat → faF μ p h q ≤ alF μ p h q := by
    intro q hq
    have := (hs.2.2.2 q (by omega)).2
    unfold faF alF
    split
    · omega
    · omega
  have a12 : ∀ q, alF μ p h q ≤ 12 := by
    intro q
    unfold alF
    split <;> omega
  have apos : ∀ q, 0 < alF μ p h q := by
    intro q
    unfold alF
    split <;> omega
  have p12 : ∀ n : Nat, n ≤ 12 → 12 ^ n ≤ 8916100448256 := fun n hn => by
    have := Nat.pow_le_pow_right (n := 12) (by omega) hn
    exact Nat.le_trans this (by decide)
  have lp : (0 ≤ p ∧ p < μ (stc μ) 1) → (0 ≤ h ∧ h < μ (stc μ) 0) → ∀ k : Int, 0 ≤ k → k ≤ μ (stc μ) 1 → ∀ w : Int, w = smR k.toNat (fun q => b2i (cwC μ p q)) → 0 ≤ w ∧ w ≤ k → V_ nX7_odds 47 [R_ 0, I_ p, I_ h, I_ own, I_ w, L_ (prR k.toNat (alF μ p h) : Int), U_, L_ (((if (unC μ p own).testBit h.toNat = true then 0 else 1) * prR k.toNat (faF μ p h) : Nat) : Int), U_, I_ k] [] μ Q := by
    intro p1 p2
    refine loop_up _ (fun k h0 hk1 ih => ?_)
    intro w hw hwb
    have ek : ((k.toNat : Nat) : Int) = k := by omega
    have ek1 : (k + 1).toNat = k.toNat + 1 := by omega
    have q1 : prR k.toNat (alF μ p h) ≤ 12 ^ k.toNat := prR_pow (fun q _ => a12 q)
    have q2 := p12 k.toNat (by omega)
    have q3 : prR k.toNat (faF μ p h) ≤ prR k.toNat (alF μ p h) := prR_le (fun q hq => ale q (by omega))
    have q4 : (if (unC μ p own).testBit h.toNat = true then 0 else 1) * prR k.toNat (faF μ p h) ≤ prR k.toNat (faF μ p h) := by
      split
      · omega
      · omega
    have e1 : k < μ (stc μ) 1 → anC μ (stc μ) k = μ (stc μ + 3) k.toNat := fun q => if_pos (by omega)
    have ha : k < μ (stc μ) 1 → 0 ≤ μ (stc μ + 3) k.toNat ∧ μ (stc μ + 3) k.toNat ≤ 12 := fun q => (hs.2.2.2 k.toNat (by omega)).2
    have g2 : k < μ (stc μ) 1 → cfN μ (haC μ k) < 2 ^ 6 := fun q => cfN_lt hre (haC_lt hp hs (by omega))
    have e2 : w64 (((prR k.toNat (alF μ p h) : Nat) : Int) * 12) = ((prR k.toNat (alF μ p h) * 12 : Nat) : Int) := by
      rw [w64_id (by omega)]
      omega
    have ih1 : k < μ (stc μ) 1 → ¬ wkC μ p h k → (prR (k + 1).toNat (alF μ p h) = prR k.toNat (alF μ p h) ∧ prR (k + 1).toNat (faF μ p h) = prR k.toNat (faF μ p h)) := by
      intro _ hn
      rw [ek1, prR, prR]
      unfold alF faF
      rw [ek, if_neg hn, if_neg hn, Nat.mul_one, Nat.mul_one]
      exact ⟨rfl, rfl⟩
    refine v_iload dX7_odds_47 rfl ?_
    refine v_aload_n dX7_odds_49 rfl rfl ?_
    refine v_getX dX7_odds_50 fX7_66 rfl rfl rfl ?_
    show V_ _ _ _ (R_ (stc _) :: _) _ _
    refine v_getI dX7_odds_53 fX7_226 (shp_st hst) (fk_st1 hst) rfl ?_
    refine v_icmp_ge (tgt := 117) dX7_odds_56 (by decide) (fun hc_56 => ?_) (fun hc_56 => ?_)
    · have hk : k = μ (stc μ) 1 := by omega
      subst hk
      refine v_aload_n dX7_odds_117 rfl rfl ?_
      refine v_lload dX7_odds_118 rfl ?_
      refine v_lload dX7_odds_120 rfl ?_
      refine v_lsub dX7_odds_122 ?_
      rw [show ((prR (μ (stc μ) 1).toNat (alF μ p h) : Nat) : Int) - (((if (unC μ p own).testBit h.toNat = true then 0 else 1) * prR (μ (stc μ) 1).toNat (faF μ p h) : Nat) : Int) = ((oddB μ p h - oddF μ p h own : Nat) : Int) by unfold oddB oddF; omega, w64_id (by unfold oddB; omega)]
      refine v_lload dX7_odds_123 rfl ?_
      refine v_callVv [_, _] dX7_odds_125 lX7_240 kvX7_tellFraction (plX7 _ _) rfl rfl rfl rfl rfl rfl rfl rfl rfl rfl (c_X7_tellFraction (b := oddB μ p h) (by unfold oddB; omega) (prR_pos (fun q _ => apos q)) ?_)
      refine v_iload dX7_odds_128 rfl ?_
      refine v_ireturn dX7_odds_130 rfl ?_
      rw [hw]
      exact h2 p1 p2
    · refine v_aload_n dX7_odds_59 rfl rfl ?_
      refine v_iload_n dX7_odds_60 rfl rfl ?_
      refine v_iload dX7_odds_61 rfl ?_
      refine v_callVi [_, _] dX7_odds_63 lX7_229 kvX7_canWake (plX7 _ _) (Or.inr rfl) rfl rfl rfl rfl rfl rfl rfl rfl rfl (c_X7_canWake hst hs (by omega) (by omega) ?_)
      refine v_ifb_eq (tgt := 111) dX7_odds_66 (by decide) (fun hc_66 => ?_) (fun hc_66 => ?_)
      · refine v_iinc (ls' := [_, _, _, _, _, _, _, _, _, _]) dX7_odds_111 rfl (fun hi_111 => by omega) rfl rfl ?_
        refine v_goto (tgt := 47) dX7_odds_114 (by decide) ?_
        have hh := ih1 (by omega) (fun q => hc_66 q.1)
        have := ih (by omega) w (by rw [← smS h0 hw (b2i_f (by rw [ek]; exact hc_66))]; omega) (by omega)
        rwa [hh.1, hh.2] at this
      · refine v_iinc (ls' := [_, _, _, _, _, _, _, _, _, _]) dX7_odds_69 rfl (fun hi_69 => by omega) rfl rfl ?_
        refine v_aload_n dX7_odds_72 rfl rfl ?_
        refine v_iload dX7_odds_73 rfl ?_
        refine v_callVi [_] dX7_odds_75 lX7_232 kvX7_comesBy (plX7 _ _) (Or.inl rfl) rfl rfl rfl rfl rfl rfl rfl rfl rfl (c_X7_comesBy hst hs hp hre (by omega) ?_)
        have g2 := g2 (by omega)
        refine v_iload_n dX7_odds_78 rfl rfl ?_
        refine v_callSi [_, _] dX7_odds_79 lX7_223 ksX7_has (plX7 _ _) (Or.inr rfl) rfl rfl rfl rfl rfl rfl (c_X7_has (by omega) (by omega) (by omega) ?_)
        refine v_ifb_eq (tgt := 111) dX7_odds_82 (by decide) (fun hc_82 => ?_) (fun hc_82 => ?_)
        · refine v_iinc (ls' := [_, _, _, _, _, _, _, _, _, _]) dX7_odds_111 rfl (fun hi_111 => by omega) rfl rfl ?_
          refine v_goto (tgt := 47) dX7_odds_114 (by decide) ?_
          have hh := ih1 (by omega) (fun q => hc_82 (by simpa using q.2))
          have := ih (by omega) (w + 1) (smS h0 hw (b2i_t (by rw [ek]; exact hc_66))) (by omega)
          rwa [hh.1, hh.2] at this
        · have ha := ha (by omega)
          refine v_lload dX7_odds_85 rfl ?_
          refine v_ldc2 (x := 12) dX7_odds_87 lcX7_235 (by decide) (by decide) ?_
          refine v_lmul dX7_odds_90 ?_
          rw [e2]
          refine v_lstore (ls' := [_, _, _, _, _, _, _, _, _, _]) dX7_odds_91 rfl rfl rfl ?_
          refine v_lload dX7_odds_93 rfl ?_
          refine v_bipush dX7_odds_95 (by decide) ?_
          refine v_aload_n dX7_odds_97 rfl rfl ?_
          refine v_getX dX7_odds_98 fX7_66 rfl rfl rfl ?_
          show V_ _ _ _ (R_ (stc _) :: _) _ _
          refine v_iload dX7_odds_101 rfl ?_
          refine v_callVi [_] dX7_odds_103 lX7_237 kvX5_answersOf (plX5 _ _) (Or.inl rfl) (shp_st hst) rfl rfl rfl rfl rfl rfl rfl rfl (c_X5_answersOf hst (by omega) ?_)
          rw [e1 (by omega)]
          refine v_isub dX7_odds_106 (fun ha hb => by omega) ?_
          refine v_i2l dX7_odds_107 ?_
          refine v_lmul dX7_odds_108 ?_
          refine v_lstore (ls' := [_, _, _, _, _, _, _, _, _, _]) dX7_odds_109 rfl rfl rfl ?_
          refine v_iinc (ls' := [_, _, _, _, _, _, _, _, _, _]) dX7_odds_111 rfl (fun hi_111 => by omega) rfl rfl ?_
          refine v_goto (tgt := 47) dX7_odds_114 (by decide) ?_
          have hwk : wkC μ p h k := ⟨hc_66, by simpa using hc_82⟩
          have := ih (by omega) (w + 1) (smS h0 hw (b2i_t (by rw [ek]; exact hc_66))) (by omega)
          rw [ek1, prR, prR] at this
          unfold alF faF at this
          rw [ek, if_pos hwk, if_pos hwk] at this
          have e5 : w64 ((((if (unC μ p own).testBit h.toNat = true then 0 else 1) * prR k.toNat (faF μ p h) : Nat) : Int) * (12 - μ (stc μ + 3) k.toNat)) = (((if (unC μ p own).testBit h.toNat = true then 0 else 1) * (prR k.toNat (faF μ p h) * (12 - μ (stc μ + 3) k.toNat).toNat) : Nat) : Int) := by
            rw [← Nat.mul_assoc, Int.natCast_mul _ (12 - μ (stc μ + 3) k.toNat).toNat, show (((12 - μ (stc μ + 3) k.toNat).toNat : Nat) : Int) = 12 - μ (stc μ + 3) k.toNat by omega]
            apply w64_id
            generalize ((if (unC μ p own).testBit h.toNat = true then 0 else 1) * prR k.toNat (faF μ p h) : Nat) = z at q4 ⊢
            have z1 : (z : Int) * (12 - μ (stc μ + 3) k.toNat) ≤ (z : Int) * 12 := Int.mul_le_mul_of_nonneg_left (by omega) (by omega)
            have z2 : 0 ≤ (z : Int) * (12 - μ (stc μ + 3) k.toNat) := Int.mul_nonneg (by omega) (by omega)
            omega
          rw [e5]
          exact this
  refine v_aload_n dX7_odds_0 rfl rfl ?_
  refine v_iload_n dX7_odds_1 rfl rfl ?_
  refine v_callVi [_] dX7_odds_2 lX7_201 kvX7_isPerson (plX7 _ _) (Or.inr rfl) rfl rfl rfl rfl rfl rfl rfl rfl rfl (c_X7_isPerson hst ?_)
  refine v_ifb_eq (tgt := 16) dX7_odds_5 (by decide) (fun hc_5 => ?_) (fun hc_5 => ?_)
  · refine v_iconst dX7_odds_16 (by decide) ?_
    refine v_ireturn dX7_odds_17 rfl ?_
    exact h1 (by omega)
  · refine v_aload_n dX7_odds_8 rfl rfl ?_
    refine v_iload_n dX7_odds_9 rfl rfl ?_
    refine v_callVi [_] dX7_odds_10 lX7_195 kvX7_isHouse (plX7 _ _) (Or.inr rfl) rfl rfl rfl rfl rfl rfl rfl rfl rfl (c_X7_isHouse hst ?_)
    refine v_ifb_ne (tgt := 18) dX7_odds_13 (by decide) (fun hc_13 => ?_) (fun hc_13 => ?_)
    · refine v_iconst dX7_odds_18 (by decide) ?_
      refine v_istore (ls' := [_, _, _, _, _, _, _, _, _, _]) dX7_odds_19 rfl rfl rfl ?_
      refine v_lconst (x := 1) dX7_odds_21 (by decide) ?_
      refine v_lstore (ls' := [_, _, _, _, _, _, _, _, _, _]) dX7_odds_22 rfl rfl rfl ?_
      refine v_aload_n dX7_odds_24 rfl rfl ?_
      refine v_iload_n dX7_odds_25 rfl rfl ?_
      refine v_iload_n dX7_odds_26 rfl rfl ?_
      refine v_callVi [_, _] dX7_odds_27 lX7_219 kvX7_comesUnaided (plX7 _ _) (Or.inl rfl) rfl rfl rfl rfl rfl rfl rfl rfl rfl (c_X7_comesUnaided hp hre ?_)
      refine v_iload_n dX7_odds_30 rfl rfl ?_
      refine v_callSi [_, _] dX7_odds_31 lX7_223 ksX7_has (plX7 _ _) (Or.inr rfl) rfl rfl rfl rfl rfl rfl (c_X7_has (by omega) (by omega) (by omega) ?_)
      refine v_ifb_eq (tgt := 41) dX7_odds_34 (by decide) (fun hc_34 => ?_) (fun hc_34 => ?_)
      · refine v_lconst (x := 1) dX7_odds_41 (by decide) ?_
        refine v_lstore (ls' := [_, _, _, _, _, _, _, _, _, _]) dX7_odds_42 rfl rfl rfl ?_
        refine v_iconst dX7_odds_44 (by decide) ?_
        refine v_istore (ls' := [_, _, _, _, _, _, _, _, _, _]) dX7_odds_45 rfl rfl rfl ?_
        have := lp hc_5 hc_13 0 (by omega) (by omega) 0 rfl (by omega)
        rw [if_neg (by simpa using hc_34)] at this
        exact this
      · refine v_lconst (x := 0) dX7_odds_37 (by decide) ?_
        refine v_goto (tgt := 42) dX7_odds_38 (by decide) ?_
        refine v_lstore (ls' := [_, _, _, _, _, _, _, _, _, _]) dX7_odds_42 rfl rfl rfl ?_
        refine v_iconst dX7_odds_44 (by decide) ?_
        refine v_istore (ls' := [_, _, _, _, _, _, _, _, _, _]) dX7_odds_45 rfl rfl rfl ?_
        have := lp hc_5 hc_13 0 (by omega) (by omega) 0 rfl (by omega)
        rw [if_pos (by simpa using hc_34)] at this
        exact this
    · refine v_iconst dX7_odds_16 (by decide) ?_
      refine v_ireturn dX7_odds_17 rfl ?_
      exact h1 (by omega)
end
