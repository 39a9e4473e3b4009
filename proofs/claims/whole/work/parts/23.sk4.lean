/-! counting bits; who is stuck, suspect, whom to wake -/
def bUshr (a b : Int) : Int := ((Int32.ofInt a).toUInt32 >>> ((Int32.ofInt b).toUInt32 &&& Int32.toUInt32 31)).toInt32.toInt
theorem v_iushr {M : MRec} {pc : Nat} {ls st : List PV} {μ : Mem_} {Q : PV → Mem_ → Prop} {a b : Int} (hd : decode (mC M) pc = .ok (.iushr, 1)) (k : V_ M (pc + 1) ls (I_ (bUshr a b) :: st) μ Q) : V_ M pc ls (I_ b :: I_ a :: st) μ Q :=
  V_.of (fun _ h => okl_cons (v := I_ (bUshr a b)) (i32_in _) (okl_tl (okl_tl h))) (fun _ _ hx hb _ kk => lv_iushr (v := Int32.ofInt (bUshr a b)) hx hb hd (by unfold bUshr; rw [Int32.ofInt_toInt]) kk) k
theorem v_ldc_w {M : MRec} {pc : Nat} {ls st : List PV} {μ : Mem_} {Q : PV → Mem_ → Prop} {idx : Nat} {v : Int32} {x : Int} (hd : decode (mC M) pc = .ok (.ldc_w idx, 3)) (hc : Cond.constant (mY M).cls idx v ∈ gt_) (hv : v = Int32.ofInt x) (hi : inR x) (k : V_ M (pc + 3) ls (I_ x :: st) μ Q) : V_ M pc ls st μ Q :=
  fun h1 h2 h3 h4 p l e s m args below meth c ad D cI cB H locs lsM K => lv_ldcw K.1.1 K.1.2.1 K.1.2.2.2.2.1 (K.1.2.2.2.2.2.1 _ hc) hd (by subst hv; exact k h1 (okl_cons (v := I_ x) hi h2) h3 h4 p l e s m args below meth c ad D cI cB H locs lsM K)
def cntB : Nat → Nat → Nat
  | 0, _ => 0
  | n + 1, s => cntB n s + (if s.testBit n = true then 1 else 0)
def bc1 (x : Int) : Int := x - bAnd (bUshr x 1) 1431655765
def bc2 (x : Int) : Int := bAnd (bc1 x) 858993459 + bAnd (bUshr (bc1 x) 2) 858993459
def bc3 (x : Int) : Int := bAnd (bc2 x + bUshr (bc2 x) 4) 252645135
def bc4 (x : Int) : Int := bc3 x + bUshr (bc3 x) 8
def bc5 (x : Int) : Int := bc4 x + bUshr (bc4 x) 16
set_option maxRecDepth 20000 in
theorem bc_all : ∀ n : Fin 64, (inR (bc1 n.val) ∧ inR (bc2 n.val) ∧ inR (bc2 n.val + bUshr (bc2 n.val) 4)) ∧ inR (bc4 n.val) ∧ inR (bc5 n.val) ∧ bAnd (bc5 n.val) 63 = (cntB 32 n.val : Int) := by decide +kernel
theorem bAnd_not {a b : Nat} (ha : a < 2 ^ 31) (hb : b < 2 ^ 31) : bAnd (a : Int) (bXor (b : Int) (-1)) = ((a ^^^ (a &&& b) : Nat) : Int) := by
  have e0 : Int32.ofInt (bXor (b : Int) (-1)) = Int32.ofInt (b : Int) ^^^ Int32.ofInt (-1) := Int32.ofInt_toInt _
  have e1 : (Int32.ofInt (a : Int) &&& Int32.ofInt (bXor (b : Int) (-1))).toBitVec.toNat = a ^^^ (a &&& b) := by
    rw [e0, Int32.toBitVec_and, Int32.toBitVec_xor, BitVec.toNat_and, BitVec.toNat_xor, i32_nat_of ha, i32_nat_of hb]
    have e2 : (Int32.ofInt (-1)).toBitVec.toNat = 2 ^ 32 - 1 := by decide
    rw [e2]
    apply Nat.eq_of_testBit_eq
    intro i
    simp only [Nat.testBit_and, Nat.testBit_xor, Nat.testBit_two_pow_sub_one]
    by_cases hi : i < 32
    · simp [hi]
      cases a.testBit i <;> cases b.testBit i <;> rfl
    · have : a.testBit i = false := Nat.testBit_lt_two_pow (Nat.lt_of_lt_of_le ha (Nat.pow_le_pow_right (by omega) (by omega)))
      simp [this]
  have e3 : a ^^^ (a &&& b) < 2 ^ 31 := Nat.xor_lt_two_pow ha (Nat.and_lt_two_pow _ hb)
  unfold bAnd
  rw [i32_small (by rw [e1]; exact e3), e1]
theorem nd_bit (a b i : Nat) : (a ^^^ (a &&& b)).testBit i = (a.testBit i && !b.testBit i) := by
  rw [Nat.testBit_xor, Nat.testBit_and]
  cases a.testBit i <;> cases b.testBit i <;> rfl
section
variable {μ : Mem_} {Q : PV → Mem_ → Prop}
set_option maxRecDepth 10000 in
theorem c_J6_bitCount {x : Int} (h0 : 0 ≤ x) (h1 : x < 64) (hq : Q (I_ (cntB 32 x.toNat : Int)) μ) : V_ nJ6_bitCount_0f7a4 0 [I_ x] [] μ Q := by
  have key := bc_all ⟨x.toNat, by omega⟩
  simp only [show ((x.toNat : Nat) : Int) = x by omega] at key
  obtain ⟨⟨k1, k2, k3⟩, k4, k5, k6⟩ := key
  refine v_iload_n dJ6_bitCount_0f7a4_0 rfl rfl ?_
  refine v_iload_n dJ6_bitCount_0f7a4_1 rfl rfl ?_
  refine v_iconst dJ6_bitCount_0f7a4_2 (by decide) ?_
  refine v_iushr dJ6_bitCount_0f7a4_3 ?_
  refine v_ldc_w (x := 1431655765) dJ6_bitCount_0f7a4_4 lcJ6_265 (by decide) (by decide) ?_
  refine v_iand dJ6_bitCount_0f7a4_7 ?_
  refine v_isub dJ6_bitCount_0f7a4_8 (fun ha hb => by exact k1) ?_
  refine v_istore_n (ls' := [_]) dJ6_bitCount_0f7a4_9 rfl rfl rfl rfl ?_
  refine v_iload_n dJ6_bitCount_0f7a4_10 rfl rfl ?_
  refine v_ldc_w (x := 858993459) dJ6_bitCount_0f7a4_11 lcJ6_266 (by decide) (by decide) ?_
  refine v_iand dJ6_bitCount_0f7a4_14 ?_
  refine v_iload_n dJ6_bitCount_0f7a4_15 rfl rfl ?_
  refine v_iconst dJ6_bitCount_0f7a4_16 (by decide) ?_
  refine v_iushr dJ6_bitCount_0f7a4_17 ?_
  refine v_ldc_w (x := 858993459) dJ6_bitCount_0f7a4_18 lcJ6_266 (by decide) (by decide) ?_
  refine v_iand dJ6_bitCount_0f7a4_21 ?_
  refine v_iadd dJ6_bitCount_0f7a4_22 (fun ha hb => by exact k2) ?_
  refine v_istore_n (ls' := [_]) dJ6_bitCount_0f7a4_23 rfl rfl rfl rfl ?_
  refine v_iload_n dJ6_bitCount_0f7a4_24 rfl rfl ?_
  refine v_iload_n dJ6_bitCount_0f7a4_25 rfl rfl ?_
  refine v_iconst dJ6_bitCount_0f7a4_26 (by decide) ?_
  refine v_iushr dJ6_bitCount_0f7a4_27 ?_
  refine v_iadd dJ6_bitCount_0f7a4_28 (fun ha hb => by exact k3) ?_
  refine v_ldc_w (x := 252645135) dJ6_bitCount_0f7a4_29 lcJ6_267 (by decide) (by decide) ?_
  refine v_iand dJ6_bitCount_0f7a4_32 ?_
  refine v_istore_n (ls' := [_]) dJ6_bitCount_0f7a4_33 rfl rfl rfl rfl ?_
  refine v_iload_n dJ6_bitCount_0f7a4_34 rfl rfl ?_
  refine v_iload_n dJ6_bitCount_0f7a4_35 rfl rfl ?_
  refine v_bipush dJ6_bitCount_0f7a4_36 (by decide) ?_
  refine v_iushr dJ6_bitCount_0f7a4_38 ?_
  refine v_iadd dJ6_bitCount_0f7a4_39 (fun ha hb => by exact k4) ?_
  refine v_istore_n (ls' := [_]) dJ6_bitCount_0f7a4_40 rfl rfl rfl rfl ?_
  refine v_iload_n dJ6_bitCount_0f7a4_41 rfl rfl ?_
  refine v_iload_n dJ6_bitCount_0f7a4_42 rfl rfl ?_
  refine v_bipush dJ6_bitCount_0f7a4_43 (by decide) ?_
  refine v_iushr dJ6_bitCount_0f7a4_45 ?_
  refine v_iadd dJ6_bitCount_0f7a4_46 (fun ha hb => by exact k5) ?_
  refine v_istore_n (ls' := [_]) dJ6_bitCount_0f7a4_47 rfl rfl rfl rfl ?_
  refine v_iload_n dJ6_bitCount_0f7a4_48 rfl rfl ?_
  refine v_bipush dJ6_bitCount_0f7a4_49 (by decide) ?_
  refine v_iand dJ6_bitCount_0f7a4_51 ?_
  refine v_ireturn dJ6_bitCount_0f7a4_52 rfl ?_
  show Q (I_ (bAnd (bc5 x) 63)) μ
  rw [k6]
  exact hq
theorem c_X2_comesFromN {s : Nat} (hs : s < 2 ^ 6) (hre : ReOK μ) (hq : Q (I_ (cfN μ s : Int)) μ) : V_ nX2_comesFrom 0 [R_ 17, I_ (s : Int), U_, U_] [] μ Q := by
  refine c_X2_comesFrom (by omega) (re_b hre) (by omega) ?_
  rw [Int.toNat_natCast]
  exact hq
def shutC (μ : Mem_) : Nat := (2 ^ (μ (stc μ) 0).toNat - 1) ^^^ ((2 ^ (μ (stc μ) 0).toNat - 1) &&& cfN μ (opensC μ 0 (-1) ||| opensC μ 1 (-1)))
def klF (μ : Mem_) (h : Nat) : Nat := if (shutC μ).testBit h = true ∧ orR (μ 17 0).toNat (lkF μ h) = 0 then 2 ^ h else 0
set_option maxRecDepth 10000 in
theorem c_X7_stuck (hst : isSt (stc μ)) (hs : StC μ (stc μ)) (hp : PIc μ) (hre : ReOK μ) (hq : Q (I_ (shutC μ : Int)) (tlC μ (orR (μ (stc μ) 0).toNat (klF μ)))) : V_ nX7_stuck 0 [R_ 0, U_, U_, U_, U_] [] μ Q := by
  have hs1 := hs.1
  have g1 := opens_lt hp 0 (-1)
  have g2 := opens_lt hp 1 (-1)
  have g3 := Nat.or_lt_two_pow g1 g2
  have g4 := cfN_lt hre g3
  have hre2 := re_b hre
  have hpos : 0 < 2 ^ (μ (stc μ) 0).toNat := Nat.two_pow_pos _
  have hle : 2 ^ (μ (stc μ) 0).toNat ≤ 2 ^ 6 := Nat.pow_le_pow_right (by omega) (by omega)
  have e1 : ((2 ^ (μ (stc μ) 0).toNat : Nat) : Int) - 1 = ((2 ^ (μ (stc μ) 0).toNat - 1 : Nat) : Int) := by omega
  have hsh : shutC μ < 2 ^ 6 := Nat.xor_lt_two_pow (by omega) (Nat.and_lt_two_pow _ g4)
  have hf : ∀ j, j < 31 → klF μ j < 2 ^ 31 := by
    intro j hj
    unfold klF
    split
    · exact ones_pow (by omega)
    · decide
  have lp : ∀ k : Int, 0 ≤ k → k ≤ μ (stc μ) 0 → ∀ a : Int, a = ((orR k.toNat (klF μ) : Nat) : Int) → V_ nX7_stuck 44 [R_ 0, U_, I_ (shutC μ : Int), I_ a, I_ k] [] μ Q := by
    refine loop_up _ (fun k h0 h1 ih => ?_)
    intro a ha
    have sk : k < μ (stc μ) 0 → ¬ ((shutC μ).testBit k.toNat = true ∧ orR (μ 17 0).toNat (lkF μ k.toNat) = 0) → a = ((orR (k + 1).toNat (klF μ) : Nat) : Int) := by
      intro hk hn
      rw [← orS h0 ha (x := klF μ k.toNat) (b := 0) (by unfold klF; rw [if_neg hn]; rfl) rfl (fun j hj => hf j (by omega)), ha, bOr_z (orR_lt (fun j hj => hf j (by omega)))]
    refine v_iload dX7_stuck_44 rfl ?_
    refine v_aload_n dX7_stuck_46 rfl rfl ?_
    refine v_getX dX7_stuck_47 fX7_66 rfl rfl rfl ?_
    show V_ _ _ _ (R_ (stc _) :: _) _ _
    refine v_getI dX7_stuck_50 fX7_153 (shp_st hst) (fk_st0 hst) rfl ?_
    refine v_icmp_ge (tgt := 90) dX7_stuck_53 (by decide) (fun hc_53 => ?_) (fun hc_53 => ?_)
    · refine v_aload_n dX7_stuck_90 rfl rfl ?_
      refine v_iload_n dX7_stuck_91 rfl rfl ?_
      refine v_callVi [_] dX7_stuck_92 lX7_103 kvX7_tell (plX7 _ _) (Or.inl rfl) rfl rfl rfl rfl rfl rfl rfl rfl rfl (c_X7_tell ?_)
      refine v_pop dX7_stuck_95 ?_
      refine v_iload_n dX7_stuck_96 rfl rfl ?_
      refine v_ireturn dX7_stuck_97 rfl ?_
      rw [show k = μ (stc μ) 0 by omega] at ha
      rw [ha]
      exact hq
    · refine v_iload_n dX7_stuck_56 rfl rfl ?_
      refine v_iload dX7_stuck_57 rfl ?_
      refine v_callSi [_, _] dX7_stuck_59 lX7_223 ksX7_has (plX7 _ _) (Or.inr rfl) rfl rfl rfl rfl rfl rfl (c_X7_has (by omega) (by omega) (by omega) ?_)
      refine v_ifb_eq (tgt := 84) dX7_stuck_62 (by decide) (fun hc_62 => ?_) (fun hc_62 => ?_)
      · refine v_iinc (ls' := [_, _, _, _, _]) dX7_stuck_84 rfl (fun hi_84 => by omega) rfl rfl ?_
        refine v_goto (tgt := 44) dX7_stuck_87 (by decide) ?_
        exact ih (by omega) _ (sk (by omega) (fun q => hc_62 (by simpa using q.1)))
      · refine v_aload_n dX7_stuck_65 rfl rfl ?_
        refine v_getR dX7_stuck_66 fX7_34 rfl rfl rfl ?_
        refine v_iload dX7_stuck_69 rfl ?_
        refine v_callVi [_] dX7_stuck_71 lX7_261 kvX2_liveKeysOf (plX2 _ _) (Or.inl rfl) rfl rfl rfl rfl rfl rfl rfl rfl rfl (c_X2_liveKeysOf hp ?_)
        refine v_if_ne (tgt := 84) dX7_stuck_74 (by decide) (fun hc_74 => ?_) (fun hc_74 => ?_)
        · refine v_iinc (ls' := [_, _, _, _, _]) dX7_stuck_84 rfl (fun hi_84 => by omega) rfl rfl ?_
          refine v_goto (tgt := 44) dX7_stuck_87 (by decide) ?_
          exact ih (by omega) _ (sk (by omega) (fun q => hc_74 (by rw [show ((k.toNat : Nat) : Int) = k by omega] at q; rw [q.2]; rfl)))
        · refine v_iload_n dX7_stuck_77 rfl rfl ?_
          refine v_iconst dX7_stuck_78 (by decide) ?_
          refine v_iload dX7_stuck_79 rfl ?_
          refine v_ishl dX7_stuck_81 ?_
          refine v_ior dX7_stuck_82 ?_
          refine v_istore_n (ls' := [_, _, _, _, _]) dX7_stuck_83 rfl rfl rfl rfl ?_
          refine v_iinc (ls' := [_, _, _, _, _]) dX7_stuck_84 rfl (fun hi_84 => by omega) rfl rfl ?_
          refine v_goto (tgt := 44) dX7_stuck_87 (by decide) ?_
          refine ih (by omega) _ (orS h0 ha (x := klF μ k.toNat) ?_ rfl (fun j hj => hf j (by omega)))
          unfold klF
          rw [if_pos ⟨by simpa using hc_62, by rw [show ((k.toNat : Nat) : Int) = k by omega]; omega⟩]
          exact bShl_one (by omega) (by omega)
  refine v_aload_n dX7_stuck_0 rfl rfl ?_
  refine v_getR dX7_stuck_1 fX7_34 rfl rfl rfl ?_
  refine v_iconst dX7_stuck_4 (by decide) ?_
  refine v_iconst dX7_stuck_5 (by decide) ?_
  refine v_callVi [_, _] dX7_stuck_6 lX7_247 kvX2_opens (plX2 _ _) (Or.inl rfl) rfl rfl rfl rfl rfl rfl rfl rfl rfl (c_X2_opens hp ?_)
  refine v_aload_n dX7_stuck_9 rfl rfl ?_
  refine v_getR dX7_stuck_10 fX7_34 rfl rfl rfl ?_
  refine v_iconst dX7_stuck_13 (by decide) ?_
  refine v_iconst dX7_stuck_14 (by decide) ?_
  refine v_callVi [_, _] dX7_stuck_15 lX7_247 kvX2_opens (plX2 _ _) (Or.inl rfl) rfl rfl rfl rfl rfl rfl rfl rfl rfl (c_X2_opens hp ?_)
  refine v_ior dX7_stuck_18 ?_
  rw [bOr_nat (by omega) (by omega)]
  refine v_istore_n (ls' := [_, _, _, _, _]) dX7_stuck_19 rfl rfl rfl rfl ?_
  refine v_aload_n dX7_stuck_20 rfl rfl ?_
  refine v_getX dX7_stuck_21 fX7_66 rfl rfl rfl ?_
  show V_ _ _ _ (R_ (stc _) :: _) _ _
  refine v_callVi [] dX7_stuck_24 lX7_254 kvX5_allHouses (plX5 _ _) (Or.inl rfl) (shp_st hst) rfl rfl rfl rfl rfl rfl rfl rfl (c_X5_allHouses hst (by omega) ?_)
  refine v_aload_n dX7_stuck_27 rfl rfl ?_
  refine v_getR dX7_stuck_28 fX7_34 rfl rfl rfl ?_
  refine v_iload_n dX7_stuck_31 rfl rfl ?_
  refine v_callVi [_] dX7_stuck_32 lX7_258 kvX2_comesFrom (plX2 _ _) (Or.inl rfl) rfl rfl rfl rfl rfl rfl rfl rfl rfl (c_X2_comesFromN (by omega) hre ?_)
  refine v_iconst dX7_stuck_35 (by decide) ?_
  refine v_ixor dX7_stuck_36 ?_
  refine v_iand dX7_stuck_37 ?_
  rw [e1]
  rw [bAnd_not (b := cfN μ (opensC μ 0 (-1) ||| opensC μ 1 (-1))) (by omega) (by omega)]
  refine v_istore_n (ls' := [_, _, _, _, _]) dX7_stuck_38 rfl rfl rfl rfl ?_
  refine v_iconst dX7_stuck_39 (by decide) ?_
  refine v_istore_n (ls' := [_, _, _, _, _]) dX7_stuck_40 rfl rfl rfl rfl ?_
  refine v_iconst dX7_stuck_41 (by decide) ?_
  refine v_istore (ls' := [_, _, _, _, _]) dX7_stuck_42 rfl rfl rfl ?_
  refine v_kill (ls' := [_, _, _, _, _]) 1 rfl ?_
  exact lp 0 (by omega) (by omega) 0 rfl
def suA (μ : Mem_) (h : Int) (p : Nat) : Nat := if μ (stc μ + 2) p ≠ h ∧ (unC μ p 1).testBit h.toNat = true then 2 ^ p else 0
def suB (μ : Mem_) (h : Int) (p : Nat) : Nat := if μ (stc μ + 2) p ≠ h ∧ (unC μ p 1 ||| cfN μ (orR (μ 17 0).toNat (poF μ p))).testBit h.toNat = true then 2 ^ p else 0
theorem po_lt {μ : Mem_} (hp : PIc μ) (p : Nat) : orR (μ 17 0).toNat (poF μ p) < 2 ^ 6 := by
  refine orR_lt (fun k hk => ?_)
  have := hp.2 k (by omega)
  unfold poF
  split
  · exact Nat.pow_lt_pow_right (by omega) (by omega)
  · decide
set_option maxRecDepth 10000 in
theorem c_X7_suspects {h : Int} (hst : isSt (stc μ)) (hs : StC μ (stc μ)) (hp : PIc μ) (hre : ReOK μ) (h1 : ¬ (0 ≤ h ∧ h < μ (stc μ) 0) → Q (I_ (-1)) μ) (h2 : (0 ≤ h ∧ h < μ (stc μ) 0) → Q (I_ (orR (μ (stc μ) 1).toNat (suA μ h) : Int)) (tlC μ (orR (μ (stc μ) 1).toNat (suB μ h)))) : V_ nX7_suspects 0 [R_ 0, I_ h, U_, U_, U_, U_] [] μ Q := by
  have hs1 := hs.1
  have hs2 := hs.2.1
  have hre2 := re_b hre
  have hfA : ∀ j, j < 31 → suA μ h j < 2 ^ 31 := by
    intro j hj
    unfold suA
    split
    · exact ones_pow (by omega)
    · decide
  have hfB : ∀ j, j < 31 → suB μ h j < 2 ^ 31 := by
    intro j hj
    unfold suB
    split
    · exact ones_pow (by omega)
    · decide
  have lp : (0 ≤ h ∧ h < μ (stc μ) 0) → ∀ k : Int, 0 ≤ k → k ≤ μ (stc μ) 1 → ∀ a b : Int, a = ((orR k.toNat (suA μ h) : Nat) : Int) → b = ((orR k.toNat (suB μ h) : Nat) : Int) → V_ nX7_suspects 17 [R_ 0, I_ h, I_ a, I_ b, I_ k, U_] [] μ Q := by
    intro hh
    refine loop_up _ (fun k h0 h1 ih => ?_)
    intro a b ha hb
    have e1 : k < μ (stc μ) 1 → hoC μ (stc μ) k = μ (stc μ + 2) k.toNat := fun q => if_pos (by omega)
    have ek : ((k.toNat : Nat) : Int) = k := by omega
    have g1 := unC_lt hp hre k 1
    have g2 := po_lt hp k.toNat
    have g3 := cfN_lt hre g2
    have g4 := Nat.or_lt_two_pow g1 g3
    have sA : k < μ (stc μ) 1 → ∀ x : Int, x = ((if μ (stc μ + 2) k.toNat ≠ h ∧ (unC μ k 1).testBit h.toNat = true then 2 ^ k.toNat else 0 : Nat) : Int) → bOr a x = ((orR (k + 1).toNat (suA μ h) : Nat) : Int) := fun q x hx => orS h0 ha (x := suA μ h k.toNat) (by rw [hx]; unfold suA; rw [ek]) rfl (fun j hj => hfA j (by omega))
    have sB : k < μ (stc μ) 1 → ∀ x : Int, x = ((if μ (stc μ + 2) k.toNat ≠ h ∧ (unC μ k 1 ||| cfN μ (orR (μ 17 0).toNat (poF μ k.toNat))).testBit h.toNat = true then 2 ^ k.toNat else 0 : Nat) : Int) → bOr b x = ((orR (k + 1).toNat (suB μ h) : Nat) : Int) := fun q x hx => orS h0 hb (x := suB μ h k.toNat) (by rw [hx]; unfold suB; rw [ek]) rfl (fun j hj => hfB j (by omega))
    refine v_iload dX7_suspects_17 rfl ?_
    refine v_aload_n dX7_suspects_19 rfl rfl ?_
    refine v_getX dX7_suspects_20 fX7_66 rfl rfl rfl ?_
    show V_ _ _ _ (R_ (stc _) :: _) _ _
    refine v_getI dX7_suspects_23 fX7_226 (shp_st hst) (fk_st1 hst) rfl ?_
    refine v_icmp_ge (tgt := 117) dX7_suspects_26 (by decide) (fun hc_26 => ?_) (fun hc_26 => ?_)
    · refine v_aload_n dX7_suspects_117 rfl rfl ?_
      refine v_iload_n dX7_suspects_118 rfl rfl ?_
      refine v_callVi [_] dX7_suspects_119 lX7_103 kvX7_tell (plX7 _ _) (Or.inl rfl) rfl rfl rfl rfl rfl rfl rfl rfl rfl (c_X7_tell ?_)
      refine v_pop dX7_suspects_122 ?_
      refine v_iload_n dX7_suspects_123 rfl rfl ?_
      refine v_ireturn dX7_suspects_124 rfl ?_
      rw [show k = μ (stc μ) 1 by omega] at ha hb
      rw [ha, hb]
      exact h2 hh
    · refine v_aload_n dX7_suspects_29 rfl rfl ?_
      refine v_getX dX7_suspects_30 fX7_66 rfl rfl rfl ?_
      show V_ _ _ _ (R_ (stc _) :: _) _ _
      refine v_iload dX7_suspects_33 rfl ?_
      refine v_callVi [_] dX7_suspects_35 lX7_280 kvX5_homeOf (plX5 _ _) (Or.inl rfl) (shp_st hst) rfl rfl rfl rfl rfl rfl rfl rfl (c_X5_homeOf hst (by omega) ?_)
      rw [e1 (by omega)]
      refine v_iload_n dX7_suspects_38 rfl rfl ?_
      refine v_icmp_eq (tgt := 111) dX7_suspects_39 (by decide) (fun hc_39 => ?_) (fun hc_39 => ?_)
      · refine v_iinc (ls' := [_, _, _, _, _, _]) dX7_suspects_111 rfl (fun hi_111 => by omega) rfl rfl ?_
        refine v_goto (tgt := 17) dX7_suspects_114 (by decide) ?_
        refine ih (by omega) a b ?_ ?_
        · rw [← sA (by omega) 0 (by rw [if_neg (fun q => q.1 (by omega))]; rfl), ha, bOr_z (orR_lt (fun j hj => hfA j (by omega)))]
        · rw [← sB (by omega) 0 (by rw [if_neg (fun q => q.1 (by omega))]; rfl), hb, bOr_z (orR_lt (fun j hj => hfB j (by omega)))]
      · refine v_aload_n dX7_suspects_42 rfl rfl ?_
        refine v_iload dX7_suspects_43 rfl ?_
        refine v_callVi [_] dX7_suspects_45 lX7_216 kvX7_comesAlone (plX7 _ _) (Or.inl rfl) rfl rfl rfl rfl rfl rfl rfl rfl rfl (c_X7_comesAlone hp hre ?_)
        refine v_istore (ls' := [_, _, _, _, _, _]) dX7_suspects_48 rfl rfl rfl ?_
        refine v_iload_n dX7_suspects_50 rfl rfl ?_
        refine v_iload dX7_suspects_51 rfl ?_
        refine v_iload_n dX7_suspects_53 rfl rfl ?_
        refine v_callSi [_, _] dX7_suspects_54 lX7_223 ksX7_has (plX7 _ _) (Or.inr rfl) rfl rfl rfl rfl rfl rfl (c_X7_has (by omega) (by omega) (by omega) ?_)
        refine v_ifb_eq (tgt := 67) dX7_suspects_57 (by decide) (fun hc_57 => ?_) (fun hc_57 => ?_)
        · refine v_iconst dX7_suspects_67 (by decide) ?_
          refine v_ior dX7_suspects_68 ?_
          refine v_istore_n (ls' := [_, _, _, _, _, _]) dX7_suspects_69 rfl rfl rfl rfl ?_
          refine v_iload dX7_suspects_70 rfl ?_
          refine v_aload_n dX7_suspects_72 rfl rfl ?_
          refine v_getR dX7_suspects_73 fX7_34 rfl rfl rfl ?_
          refine v_aload_n dX7_suspects_76 rfl rfl ?_
          refine v_getR dX7_suspects_77 fX7_34 rfl rfl rfl ?_
          refine v_iload dX7_suspects_80 rfl ?_
          refine v_callVi [_] dX7_suspects_82 lX7_283 kvX2_passedOpens (plX2 _ _) (Or.inl rfl) rfl rfl rfl rfl rfl rfl rfl rfl rfl (c_X2_passedOpens hp (by omega) ?_)
          refine v_callVi [_] dX7_suspects_85 lX7_258 kvX2_comesFrom (plX2 _ _) (Or.inl rfl) rfl rfl rfl rfl rfl rfl rfl rfl rfl (c_X2_comesFromN (by omega) hre ?_)
          refine v_ior dX7_suspects_88 ?_
          rw [bOr_nat (b := cfN μ (orR (μ 17 0).toNat (poF μ k.toNat))) (by omega) (by omega)]
          refine v_istore (ls' := [_, _, _, _, _, _]) dX7_suspects_89 rfl rfl rfl ?_
          refine v_iload_n dX7_suspects_91 rfl rfl ?_
          refine v_iload dX7_suspects_92 rfl ?_
          refine v_iload_n dX7_suspects_94 rfl rfl ?_
          refine v_callSi [_, _] dX7_suspects_95 lX7_223 ksX7_has (plX7 _ _) (Or.inr rfl) rfl rfl rfl rfl rfl rfl (c_X7_has (by omega) (by omega) (by omega) ?_)
          refine v_ifb_eq (tgt := 108) dX7_suspects_98 (by decide) (fun hc_98 => ?_) (fun hc_98 => ?_)
          · refine v_iconst dX7_suspects_108 (by decide) ?_
            refine v_ior dX7_suspects_109 ?_
            refine v_istore_n (ls' := [_, _, _, _, _, _]) dX7_suspects_110 rfl rfl rfl rfl ?_
            refine v_iinc (ls' := [_, _, _, _, _, _]) dX7_suspects_111 rfl (fun hi_111 => by omega) rfl rfl ?_
            refine v_goto (tgt := 17) dX7_suspects_114 (by decide) ?_
            refine v_kill (ls' := [_, _, _, _, _, _]) 5 rfl ?_
            refine ih (by omega) _ _ (sA (by omega) _ ?_) (sB (by omega) _ ?_)
            all_goals
              first
                | (rw [if_neg (fun q => hc_57 (by simpa using q.2))]; rfl)
                | (rw [if_neg (fun q => hc_98 (by simpa using q.2))]; rfl)
                | (rw [if_pos ⟨by omega, by simpa using hc_57⟩]; exact bShl_one (by omega) (by omega))
                | (rw [if_pos ⟨by omega, by simpa using hc_98⟩]; exact bShl_one (by omega) (by omega))
          · refine v_iconst dX7_suspects_101 (by decide) ?_
            refine v_iload dX7_suspects_102 rfl ?_
            refine v_ishl dX7_suspects_104 ?_
            refine v_goto (tgt := 109) dX7_suspects_105 (by decide) ?_
            refine v_ior dX7_suspects_109 ?_
            refine v_istore_n (ls' := [_, _, _, _, _, _]) dX7_suspects_110 rfl rfl rfl rfl ?_
            refine v_iinc (ls' := [_, _, _, _, _, _]) dX7_suspects_111 rfl (fun hi_111 => by omega) rfl rfl ?_
            refine v_goto (tgt := 17) dX7_suspects_114 (by decide) ?_
            refine v_kill (ls' := [_, _, _, _, _, _]) 5 rfl ?_
            refine ih (by omega) _ _ (sA (by omega) _ ?_) (sB (by omega) _ ?_)
            all_goals
              first
                | (rw [if_neg (fun q => hc_57 (by simpa using q.2))]; rfl)
                | (rw [if_neg (fun q => hc_98 (by simpa using q.2))]; rfl)
                | (rw [if_pos ⟨by omega, by simpa using hc_57⟩]; exact bShl_one (by omega) (by omega))
                | (rw [if_pos ⟨by omega, by simpa using hc_98⟩]; exact bShl_one (by omega) (by omega))
        · refine v_iconst dX7_suspects_60 (by decide) ?_
          refine v_iload dX7_suspects_61 rfl ?_
          refine v_ishl dX7_suspects_63 ?_
          refine v_goto (tgt := 68) dX7_suspects_64 (by decide) ?_
          refine v_ior dX7_suspects_68 ?_
          refine v_istore_n (ls' := [_, _, _, _, _, _]) dX7_suspects_69 rfl rfl rfl rfl ?_
          refine v_iload dX7_suspects_70 rfl ?_
          refine v_aload_n dX7_suspects_72 rfl rfl ?_
          refine v_getR dX7_suspects_73 fX7_34 rfl rfl rfl ?_
          refine v_aload_n dX7_suspects_76 rfl rfl ?_
          refine v_getR dX7_suspects_77 fX7_34 rfl rfl rfl ?_
          refine v_iload dX7_suspects_80 rfl ?_
          refine v_callVi [_] dX7_suspects_82 lX7_283 kvX2_passedOpens (plX2 _ _) (Or.inl rfl) rfl rfl rfl rfl rfl rfl rfl rfl rfl (c_X2_passedOpens hp (by omega) ?_)
          refine v_callVi [_] dX7_suspects_85 lX7_258 kvX2_comesFrom (plX2 _ _) (Or.inl rfl) rfl rfl rfl rfl rfl rfl rfl rfl rfl (c_X2_comesFromN (by omega) hre ?_)
          refine v_ior dX7_suspects_88 ?_
          rw [bOr_nat (b := cfN μ (orR (μ 17 0).toNat (poF μ k.toNat))) (by omega) (by omega)]
          refine v_istore (ls' := [_, _, _, _, _, _]) dX7_suspects_89 rfl rfl rfl ?_
          refine v_iload_n dX7_suspects_91 rfl rfl ?_
          refine v_iload dX7_suspects_92 rfl ?_
          refine v_iload_n dX7_suspects_94 rfl rfl ?_
          refine v_callSi [_, _] dX7_suspects_95 lX7_223 ksX7_has (plX7 _ _) (Or.inr rfl) rfl rfl rfl rfl rfl rfl (c_X7_has (by omega) (by omega) (by omega) ?_)
          refine v_ifb_eq (tgt := 108) dX7_suspects_98 (by decide) (fun hc_98 => ?_) (fun hc_98 => ?_)
          · refine v_iconst dX7_suspects_108 (by decide) ?_
            refine v_ior dX7_suspects_109 ?_
            refine v_istore_n (ls' := [_, _, _, _, _, _]) dX7_suspects_110 rfl rfl rfl rfl ?_
            refine v_iinc (ls' := [_, _, _, _, _, _]) dX7_suspects_111 rfl (fun hi_111 => by omega) rfl rfl ?_
            refine v_goto (tgt := 17) dX7_suspects_114 (by decide) ?_
            refine v_kill (ls' := [_, _, _, _, _, _]) 5 rfl ?_
            refine ih (by omega) _ _ (sA (by omega) _ ?_) (sB (by omega) _ ?_)
            all_goals
              first
                | (rw [if_neg (fun q => hc_57 (by simpa using q.2))]; rfl)
                | (rw [if_neg (fun q => hc_98 (by simpa using q.2))]; rfl)
                | (rw [if_pos ⟨by omega, by simpa using hc_57⟩]; exact bShl_one (by omega) (by omega))
                | (rw [if_pos ⟨by omega, by simpa using hc_98⟩]; exact bShl_one (by omega) (by omega))
          · refine v_iconst dX7_suspects_101 (by decide) ?_
            refine v_iload dX7_suspects_102 rfl ?_
            refine v_ishl dX7_suspects_104 ?_
            refine v_goto (tgt := 109) dX7_suspects_105 (by decide) ?_
            refine v_ior dX7_suspects_109 ?_
            refine v_istore_n (ls' := [_, _, _, _, _, _]) dX7_suspects_110 rfl rfl rfl rfl ?_
            refine v_iinc (ls' := [_, _, _, _, _, _]) dX7_suspects_111 rfl (fun hi_111 => by omega) rfl rfl ?_
            refine v_goto (tgt := 17) dX7_suspects_114 (by decide) ?_
            refine v_kill (ls' := [_, _, _, _, _, _]) 5 rfl ?_
            refine ih (by omega) _ _ (sA (by omega) _ ?_) (sB (by omega) _ ?_)
            all_goals
              first
                | (rw [if_neg (fun q => hc_57 (by simpa using q.2))]; rfl)
                | (rw [if_neg (fun q => hc_98 (by simpa using q.2))]; rfl)
                | (rw [if_pos ⟨by omega, by simpa using hc_57⟩]; exact bShl_one (by omega) (by omega))
                | (rw [if_pos ⟨by omega, by simpa using hc_98⟩]; exact bShl_one (by omega) (by omega))
  refine v_aload_n dX7_suspects_0 rfl rfl ?_
  refine v_iload_n dX7_suspects_1 rfl rfl ?_
  refine v_callVi [_] dX7_suspects_2 lX7_195 kvX7_isHouse (plX7 _ _) (Or.inr rfl) rfl rfl rfl rfl rfl rfl rfl rfl rfl (c_X7_isHouse hst ?_)
  refine v_ifb_ne (tgt := 10) dX7_suspects_5 (by decide) (fun hc_5 => ?_) (fun hc_5 => ?_)
  · refine v_iconst dX7_suspects_10 (by decide) ?_
    refine v_istore_n (ls' := [_, _, _, _, _, _]) dX7_suspects_11 rfl rfl rfl rfl ?_
    refine v_iconst dX7_suspects_12 (by decide) ?_
    refine v_istore_n (ls' := [_, _, _, _, _, _]) dX7_suspects_13 rfl rfl rfl rfl ?_
    refine v_iconst dX7_suspects_14 (by decide) ?_
    refine v_istore (ls' := [_, _, _, _, _, _]) dX7_suspects_15 rfl rfl rfl ?_
    exact lp hc_5 0 (by omega) (by omega) 0 0 rfl rfl
  · refine v_iconst dX7_suspects_8 (by decide) ?_
    refine v_ireturn dX7_suspects_9 rfl ?_
    exact h1 hc_5
abbrev wkC (μ : Mem_) (p h q : Int) : Prop := cwC μ p q ∧ (cfN μ (haC μ q)).testBit h.toNat = true
set_option maxRecDepth 10000 in
theorem c_X7_wake {p h own : Int} (hst : isSt (stc μ)) (hs : StC μ (stc μ)) (hp : PIc μ) (hre : ReOK μ) (h1 : ¬ ((0 ≤ p ∧ p < μ (stc μ) 1) ∧ (0 ≤ h ∧ h < μ (stc μ) 0)) → Q (I_ (-1)) μ)
    (h2 : (0 ≤ p ∧ p < μ (stc μ) 1) → (0 ≤ h ∧ h < μ (stc μ) 0) → (unC μ p own).testBit h.toNat = true → Q (I_ 0) (tlC μ 0))
    (h3 : (0 ≤ p ∧ p < μ (stc μ) 1) → (0 ≤ h ∧ h < μ (stc μ) 0) → ¬ (unC μ p own).testBit h.toNat = true → ∀ q : Int, 0 ≤ q ∧ q < μ (stc μ) 1 → wkC μ p h q → (∀ j : Int, 0 ≤ j → j < q → ¬ wkC μ p h j) → Q (I_ 1) (tlC μ ((2 ^ q.toNat : Nat) : Int)))
    (h4 : (0 ≤ p ∧ p < μ (stc μ) 1) → (0 ≤ h ∧ h < μ (stc μ) 0) → ¬ (unC μ p own).testBit h.toNat = true → (∀ j : Int, 0 ≤ j → j < μ (stc μ) 1 → ¬ wkC μ p h j) → Q (I_ (-9)) μ) : V_ nX7_wake 0 [R_ 0, I_ p, I_ h, I_ own, U_] [] μ Q := by
  have hs1 := hs.1
  have hs2 := hs.2.1
  have g1 := unC_lt hp hre p own
  have lp : (0 ≤ p ∧ p < μ (stc μ) 1) → (0 ≤ h ∧ h < μ (stc μ) 0) → ¬ (unC μ p own).testBit h.toNat = true → ∀ k : Int, 0 ≤ k → k ≤ μ (stc μ) 1 → (∀ j : Int, 0 ≤ j → j < k → ¬ wkC μ p h j) → V_ nX7_wake 42 [R_ 0, I_ p, I_ h, I_ own, I_ k] [] μ Q := by
    intro p1 p2 p3
    refine loop_up _ (fun k h0 h1 ih => ?_)
    intro hn
    have g2 : k < μ (stc μ) 1 → cfN μ (haC μ k) < 2 ^ 6 := fun q => cfN_lt hre (haC_lt hp hs (by omega))
    have sk : ¬ wkC μ p h k → ∀ j : Int, 0 ≤ j → j < k + 1 → ¬ wkC μ p h j := by
      intro q j j0 j1
      by_cases e : j = k
      · subst e; exact q
      · exact hn j j0 (by omega)
    refine v_iload dX7_wake_42 rfl ?_
    refine v_aload_n dX7_wake_44 rfl rfl ?_
    refine v_getX dX7_wake_45 fX7_66 rfl rfl rfl ?_
    show V_ _ _ _ (R_ (stc _) :: _) _ _
    refine v_getI dX7_wake_48 fX7_226 (shp_st hst) (fk_st1 hst) rfl ?_
    refine v_icmp_ge (tgt := 94) dX7_wake_51 (by decide) (fun hc_51 => ?_) (fun hc_51 => ?_)
    · refine v_bipush dX7_wake_94 (by decide) ?_
      refine v_ireturn dX7_wake_96 rfl ?_
      exact h4 p1 p2 p3 (fun j j0 j1 => hn j j0 (by omega))
    · refine v_aload_n dX7_wake_54 rfl rfl ?_
      refine v_iload_n dX7_wake_55 rfl rfl ?_
      refine v_iload dX7_wake_56 rfl ?_
      refine v_callVi [_, _] dX7_wake_58 lX7_229 kvX7_canWake (plX7 _ _) (Or.inr rfl) rfl rfl rfl rfl rfl rfl rfl rfl rfl (c_X7_canWake hst hs (by omega) (by omega) ?_)
      refine v_ifb_eq (tgt := 88) dX7_wake_61 (by decide) (fun hc_61 => ?_) (fun hc_61 => ?_)
      · refine v_iinc (ls' := [_, _, _, _, _]) dX7_wake_88 rfl (fun hi_88 => by omega) rfl rfl ?_
        refine v_goto (tgt := 42) dX7_wake_91 (by decide) ?_
        exact ih (by omega) (sk (fun q => hc_61 q.1))
      · refine v_aload_n dX7_wake_64 rfl rfl ?_
        refine v_iload dX7_wake_65 rfl ?_
        refine v_callVi [_] dX7_wake_67 lX7_232 kvX7_comesBy (plX7 _ _) (Or.inl rfl) rfl rfl rfl rfl rfl rfl rfl rfl rfl (c_X7_comesBy hst hs hp hre (by omega) ?_)
        have g2 := g2 (by omega)
        refine v_iload_n dX7_wake_70 rfl rfl ?_
        refine v_callSi [_, _] dX7_wake_71 lX7_223 ksX7_has (plX7 _ _) (Or.inr rfl) rfl rfl rfl rfl rfl rfl (c_X7_has (by omega) (by omega) (by omega) ?_)
        refine v_ifb_eq (tgt := 88) dX7_wake_74 (by decide) (fun hc_74 => ?_) (fun hc_74 => ?_)
        · refine v_iinc (ls' := [_, _, _, _, _]) dX7_wake_88 rfl (fun hi_88 => by omega) rfl rfl ?_
          refine v_goto (tgt := 42) dX7_wake_91 (by decide) ?_
          exact ih (by omega) (sk (fun q => hc_74 (by simpa using q.2)))
        · refine v_aload_n dX7_wake_77 rfl rfl ?_
          refine v_iconst dX7_wake_78 (by decide) ?_
          refine v_iload dX7_wake_79 rfl ?_
          refine v_ishl dX7_wake_81 ?_
          rw [bShl_one (by omega) (by omega)]
          refine v_callVi [_] dX7_wake_82 lX7_103 kvX7_tell (plX7 _ _) (Or.inl rfl) rfl rfl rfl rfl rfl rfl rfl rfl rfl (c_X7_tell ?_)
          refine v_pop dX7_wake_85 ?_
          refine v_iconst dX7_wake_86 (by decide) ?_
          refine v_ireturn dX7_wake_87 rfl ?_
          exact h3 p1 p2 p3 k (by omega) ⟨hc_61, by simpa using hc_74⟩ hn
  refine v_aload_n dX7_wake_0 rfl rfl ?_
  refine v_iload_n dX7_wake_1 rfl rfl ?_
  refine v_callVi [_] dX7_wake_2 lX7_201 kvX7_isPerson (plX7 _ _) (Or.inr rfl) rfl rfl rfl rfl rfl rfl rfl rfl rfl (c_X7_isPerson hst ?_)
  refine v_ifb_eq (tgt := 16) dX7_wake_5 (by decide) (fun hc_5 => ?_) (fun hc_5 => ?_)
  · refine v_iconst dX7_wake_16 (by decide) ?_
    refine v_ireturn dX7_wake_17 rfl ?_
    exact h1 (by omega)
  · refine v_aload_n dX7_wake_8 rfl rfl ?_
    refine v_iload_n dX7_wake_9 rfl rfl ?_
    refine v_callVi [_] dX7_wake_10 lX7_195 kvX7_isHouse (plX7 _ _) (Or.inr rfl) rfl rfl rfl rfl rfl rfl rfl rfl rfl (c_X7_isHouse hst ?_)
    refine v_ifb_ne (tgt := 18) dX7_wake_13 (by decide) (fun hc_13 => ?_) (fun hc_13 => ?_)
    · refine v_aload_n dX7_wake_18 rfl rfl ?_
      refine v_iload_n dX7_wake_19 rfl rfl ?_
      refine v_iload_n dX7_wake_20 rfl rfl ?_
      refine v_callVi [_, _] dX7_wake_21 lX7_219 kvX7_comesUnaided (plX7 _ _) (Or.inl rfl) rfl rfl rfl rfl rfl rfl rfl rfl rfl (c_X7_comesUnaided hp hre ?_)
      refine v_iload_n dX7_wake_24 rfl rfl ?_
      refine v_callSi [_, _] dX7_wake_25 lX7_223 ksX7_has (plX7 _ _) (Or.inr rfl) rfl rfl rfl rfl rfl rfl (c_X7_has (by omega) (by omega) (by omega) ?_)
      refine v_ifb_eq (tgt := 39) dX7_wake_28 (by decide) (fun hc_28 => ?_) (fun hc_28 => ?_)
      · refine v_iconst dX7_wake_39 (by decide) ?_
        refine v_istore (ls' := [_, _, _, _, _]) dX7_wake_40 rfl rfl rfl ?_
        exact lp hc_5 hc_13 (by simpa using hc_28) 0 (by omega) (by omega) (fun j j0 j1 => absurd j1 (by omega))
      · refine v_aload_n dX7_wake_31 rfl rfl ?_
        refine v_iconst dX7_wake_32 (by decide) ?_
        refine v_callVi [_] dX7_wake_33 lX7_103 kvX7_tell (plX7 _ _) (Or.inl rfl) rfl rfl rfl rfl rfl rfl rfl rfl rfl (c_X7_tell ?_)
        refine v_pop dX7_wake_36 ?_
        refine v_iconst dX7_wake_37 (by decide) ?_
        refine v_ireturn dX7_wake_38 rfl ?_
        exact h2 hc_5 hc_13 (by simpa using hc_28)
    · refine v_iconst dX7_wake_16 (by decide) ?_
      refine v_ireturn dX7_wake_17 rfl ?_
      exact h1 (by omega)
abbrev cpC (μ : Mem_) (p h : Int) (g : Int) : Prop := (orR (μ 17 0).toNat (poF μ p.toNat)).testBit g.toNat = true ∧ (cfN μ (2 ^ g.toNat)).testBit h.toNat = true
set_option maxRecDepth 10000 in
theorem c_X7_copies {p h : Int} (hst : isSt (stc μ)) (hs : StC μ (stc μ)) (hp : PIc μ) (hre : ReOK μ) (h1 : ¬ ((0 ≤ p ∧ p < μ (stc μ) 1) ∧ (0 ≤ h ∧ h < μ (stc μ) 0) ∧ μ (stc μ + 2) p.toNat ≠ h) → Q (I_ (-1)) μ)
    (h2 : (0 ≤ p ∧ p < μ (stc μ) 1) → (0 ≤ h ∧ h < μ (stc μ) 0) → μ (stc μ + 2) p.toNat ≠ h → (unC μ p 1).testBit h.toNat = true → Q (I_ 0) (tlC μ 0))
    (h3 : (0 ≤ p ∧ p < μ (stc μ) 1) → (0 ≤ h ∧ h < μ (stc μ) 0) → μ (stc μ + 2) p.toNat ≠ h → ¬ (unC μ p 1).testBit h.toNat = true → ∀ g : Int, 0 ≤ g ∧ g < μ (stc μ) 0 → cpC μ p h g → (∀ j : Int, 0 ≤ j → j < g → ¬ cpC μ p h j) → Q (I_ 1) (tlC μ ((2 ^ g.toNat : Nat) : Int)))
    (h4 : (0 ≤ p ∧ p < μ (stc μ) 1) → (0 ≤ h ∧ h < μ (stc μ) 0) → μ (stc μ + 2) p.toNat ≠ h → ¬ (unC μ p 1).testBit h.toNat = true → (∀ j : Int, 0 ≤ j → j < μ (stc μ) 0 → ¬ cpC μ p h j) → Q (I_ (-9)) μ) : V_ nX7_copies 0 [R_ 0, I_ p, I_ h, U_, U_] [] μ Q := by
  have hs1 := hs.1
  have hs2 := hs.2.1
  have hre2 := re_b hre
  have g1 := unC_lt hp hre p 1
  have g2 := po_lt hp p.toNat
  have e1 : (0 ≤ p ∧ p < μ (stc μ) 1) → hoC μ (stc μ) p = μ (stc μ + 2) p.toNat := fun q => if_pos q
  have lp : (0 ≤ p ∧ p < μ (stc μ) 1) → (0 ≤ h ∧ h < μ (stc μ) 0) → μ (stc μ + 2) p.toNat ≠ h → ¬ (unC μ p 1).testBit h.toNat = true → ∀ k : Int, 0 ≤ k → k ≤ μ (stc μ) 0 → (∀ j : Int, 0 ≤ j → j < k → ¬ cpC μ p h j) → V_ nX7_copies 62 [R_ 0, I_ p, I_ h, I_ (orR (μ 17 0).toNat (poF μ p.toNat) : Int), I_ k] [] μ Q := by
    intro p1 p2 p3 p4
    refine loop_up _ (fun k h0 h1 ih => ?_)
    intro hn
    have g3 : k < μ (stc μ) 0 → 2 ^ k.toNat < 2 ^ 6 := fun q => Nat.pow_lt_pow_right (by omega) (by omega)
    have g4 : k < μ (stc μ) 0 → cfN μ (2 ^ k.toNat) < 2 ^ 6 := fun q => cfN_lt hre (g3 q)
    have sk : ¬ cpC μ p h k → ∀ j : Int, 0 ≤ j → j < k + 1 → ¬ cpC μ p h j := by
      intro q j j0 j1
      by_cases e : j = k
      · subst e; exact q
      · exact hn j j0 (by omega)
    refine v_iload dX7_copies_62 rfl ?_
    refine v_aload_n dX7_copies_64 rfl rfl ?_
    refine v_getX dX7_copies_65 fX7_66 rfl rfl rfl ?_
    show V_ _ _ _ (R_ (stc _) :: _) _ _
    refine v_getI dX7_copies_68 fX7_153 (shp_st hst) (fk_st0 hst) rfl ?_
    refine v_icmp_ge (tgt := 118) dX7_copies_71 (by decide) (fun hc_71 => ?_) (fun hc_71 => ?_)
    · refine v_bipush dX7_copies_118 (by decide) ?_
      refine v_ireturn dX7_copies_120 rfl ?_
      exact h4 p1 p2 p3 p4 (fun j j0 j1 => hn j j0 (by omega))
    · refine v_iload_n dX7_copies_74 rfl rfl ?_
      refine v_iload dX7_copies_75 rfl ?_
      refine v_callSi [_, _] dX7_copies_77 lX7_223 ksX7_has (plX7 _ _) (Or.inr rfl) rfl rfl rfl rfl rfl rfl (c_X7_has (by omega) (by omega) (by omega) ?_)
      refine v_ifb_eq (tgt := 112) dX7_copies_80 (by decide) (fun hc_80 => ?_) (fun hc_80 => ?_)
      · refine v_iinc (ls' := [_, _, _, _, _]) dX7_copies_112 rfl (fun hi_112 => by omega) rfl rfl ?_
        refine v_goto (tgt := 62) dX7_copies_115 (by decide) ?_
        exact ih (by omega) (sk (fun q => hc_80 (by simpa using q.1)))
      · refine v_aload_n dX7_copies_83 rfl rfl ?_
        refine v_getR dX7_copies_84 fX7_34 rfl rfl rfl ?_
        refine v_iconst dX7_copies_87 (by decide) ?_
        refine v_iload dX7_copies_88 rfl ?_
        have g3 := g3 (by omega)
        have g4 := g4 (by omega)
        refine v_ishl dX7_copies_90 ?_
        rw [bShl_one (by omega) (by omega)]
        refine v_callVi [_] dX7_copies_91 lX7_258 kvX2_comesFrom (plX2 _ _) (Or.inl rfl) rfl rfl rfl rfl rfl rfl rfl rfl rfl (c_X2_comesFromN (by omega) hre ?_)
        refine v_iload_n dX7_copies_94 rfl rfl ?_
        refine v_callSi [_, _] dX7_copies_95 lX7_223 ksX7_has (plX7 _ _) (Or.inr rfl) rfl rfl rfl rfl rfl rfl (c_X7_has (by omega) (by omega) (by omega) ?_)
        refine v_ifb_eq (tgt := 112) dX7_copies_98 (by decide) (fun hc_98 => ?_) (fun hc_98 => ?_)
        · refine v_iinc (ls' := [_, _, _, _, _]) dX7_copies_112 rfl (fun hi_112 => by omega) rfl rfl ?_
          refine v_goto (tgt := 62) dX7_copies_115 (by decide) ?_
          exact ih (by omega) (sk (fun q => hc_98 (by simpa using q.2)))
        · refine v_aload_n dX7_copies_101 rfl rfl ?_
          refine v_iconst dX7_copies_102 (by decide) ?_
          refine v_iload dX7_copies_103 rfl ?_
          refine v_ishl dX7_copies_105 ?_
          rw [bShl_one (by omega) (by omega)]
          refine v_callVi [_] dX7_copies_106 lX7_103 kvX7_tell (plX7 _ _) (Or.inl rfl) rfl rfl rfl rfl rfl rfl rfl rfl rfl (c_X7_tell ?_)
          refine v_pop dX7_copies_109 ?_
          refine v_iconst dX7_copies_110 (by decide) ?_
          refine v_ireturn dX7_copies_111 rfl ?_
          exact h3 p1 p2 p3 p4 k (by omega) ⟨by simpa using hc_80, by simpa using hc_98⟩ hn
  refine v_aload_n dX7_copies_0 rfl rfl ?_
  refine v_iload_n dX7_copies_1 rfl rfl ?_
  refine v_callVi [_] dX7_copies_2 lX7_201 kvX7_isPerson (plX7 _ _) (Or.inr rfl) rfl rfl rfl rfl rfl rfl rfl rfl rfl (c_X7_isPerson hst ?_)
  refine v_ifb_eq (tgt := 28) dX7_copies_5 (by decide) (fun hc_5 => ?_) (fun hc_5 => ?_)
  · refine v_iconst dX7_copies_28 (by decide) ?_
    refine v_ireturn dX7_copies_29 rfl ?_
    first | exact h1 (by omega) | exact h2 hc_5 hc_13 (by omega) (by simpa using hc_39)
  · refine v_aload_n dX7_copies_8 rfl rfl ?_
    refine v_iload_n dX7_copies_9 rfl rfl ?_
    refine v_callVi [_] dX7_copies_10 lX7_195 kvX7_isHouse (plX7 _ _) (Or.inr rfl) rfl rfl rfl rfl rfl rfl rfl rfl rfl (c_X7_isHouse hst ?_)
    refine v_ifb_eq (tgt := 28) dX7_copies_13 (by decide) (fun hc_13 => ?_) (fun hc_13 => ?_)
    · refine v_iconst dX7_copies_28 (by decide) ?_
      refine v_ireturn dX7_copies_29 rfl ?_
      first | exact h1 (by omega) | exact h2 hc_5 hc_13 (by omega) (by simpa using hc_39)
    · refine v_aload_n dX7_copies_16 rfl rfl ?_
      refine v_getX dX7_copies_17 fX7_66 rfl rfl rfl ?_
      show V_ _ _ _ (R_ (stc _) :: _) _ _
      refine v_iload_n dX7_copies_20 rfl rfl ?_
      refine v_callVi [_] dX7_copies_21 lX7_280 kvX5_homeOf (plX5 _ _) (Or.inl rfl) (shp_st hst) rfl rfl rfl rfl rfl rfl rfl rfl (c_X5_homeOf hst (by omega) ?_)
      rw [e1 hc_5]
      refine v_iload_n dX7_copies_24 rfl rfl ?_
      refine v_icmp_ne (tgt := 30) dX7_copies_25 (by decide) (fun hc_25 => ?_) (fun hc_25 => ?_)
      · refine v_aload_n dX7_copies_30 rfl rfl ?_
        refine v_iload_n dX7_copies_31 rfl rfl ?_
        refine v_callVi [_] dX7_copies_32 lX7_216 kvX7_comesAlone (plX7 _ _) (Or.inl rfl) rfl rfl rfl rfl rfl rfl rfl rfl rfl (c_X7_comesAlone hp hre ?_)
        refine v_iload_n dX7_copies_35 rfl rfl ?_
        refine v_callSi [_, _] dX7_copies_36 lX7_223 ksX7_has (plX7 _ _) (Or.inr rfl) rfl rfl rfl rfl rfl rfl (c_X7_has (by omega) (by omega) (by omega) ?_)
        refine v_ifb_eq (tgt := 50) dX7_copies_39 (by decide) (fun hc_39 => ?_) (fun hc_39 => ?_)
        · refine v_aload_n dX7_copies_50 rfl rfl ?_
          refine v_getR dX7_copies_51 fX7_34 rfl rfl rfl ?_
          refine v_iload_n dX7_copies_54 rfl rfl ?_
          refine v_callVi [_] dX7_copies_55 lX7_283 kvX2_passedOpens (plX2 _ _) (Or.inl rfl) rfl rfl rfl rfl rfl rfl rfl rfl rfl (c_X2_passedOpens hp (by omega) ?_)
          refine v_istore_n (ls' := [_, _, _, _, _]) dX7_copies_58 rfl rfl rfl rfl ?_
          refine v_iconst dX7_copies_59 (by decide) ?_
          refine v_istore (ls' := [_, _, _, _, _]) dX7_copies_60 rfl rfl rfl ?_
          exact lp hc_5 hc_13 (by omega) (by simpa using hc_39) 0 (by omega) (by omega) (fun j j0 j1 => absurd j1 (by omega))
        · refine v_aload_n dX7_copies_42 rfl rfl ?_
          refine v_iconst dX7_copies_43 (by decide) ?_
          refine v_callVi [_] dX7_copies_44 lX7_103 kvX7_tell (plX7 _ _) (Or.inl rfl) rfl rfl rfl rfl rfl rfl rfl rfl rfl (c_X7_tell ?_)
          refine v_pop dX7_copies_47 ?_
          refine v_iconst dX7_copies_48 (by decide) ?_
          refine v_ireturn dX7_copies_49 rfl ?_
          first | exact h1 (by omega) | exact h2 hc_5 hc_13 (by omega) (by simpa using hc_39)
      · refine v_iconst dX7_copies_28 (by decide) ?_
        refine v_ireturn dX7_copies_29 rfl ?_
        first | exact h1 (by omega) | exact h2 hc_5 hc_13 (by omega) (by simpa using hc_39)
end
