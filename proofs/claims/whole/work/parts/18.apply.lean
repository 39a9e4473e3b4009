/-! Present: events applied, the log replayed -/
def bringC (μ : Mem_) (k : Nat) (pl ho : Int) : Mem_ := if pl = 0 then mset (mset (mset μ 20 k pl) 21 k ho) 22 k (bOr (μ 22 k) (bShl 1 ho)) else mset (mset μ 20 k pl) 21 k ho
def addKeyC (μ : Mem_) (house lock ho : Int) : Mem_ := bringC (mset (mset (mset (mset μ 18 (μ 17 0).toNat house) 19 (μ 17 0).toNat lock) 22 (μ 17 0).toNat 0) 17 0 (μ 17 0 + 1)) (μ 17 0).toNat 0 ho
def chTrC (μ : Mem_) (a b ch : Int) : Mem_ := mset μ 24 (a * 12 + b).toNat (max (-3) (min 3 (μ 24 (a * 12 + b).toNat + ch)))
def apC (μ : Mem_) (kind a b ch : Int) : Mem_ :=
  if kind = 1 then addKeyC μ a (μ 23 a.toNat) b else if kind = 2 then addKeyC μ (μ 18 a.toNat) (μ 19 a.toNat) b
  else if kind = 3 then bringC μ a.toNat 0 b else if kind = 4 then bringC μ a.toNat 1 b else if kind = 5 then bringC μ a.toNat 2 b
  else if kind = 6 then mset μ 23 a.toNat (μ 23 a.toNat + 1) else chTrC μ a b ch
/-- an event as it may be told, where nH houses, nP persons, nK keys are there -/
def evOK (nH nP nK kind a b ch : Int) : Prop :=
  (kind = 1 ∧ (0 ≤ a ∧ a < nH) ∧ (0 ≤ b ∧ b < nP) ∧ nK < 24 ∧ ch = 0) ∨ (kind = 2 ∧ (0 ≤ a ∧ a < nK) ∧ (0 ≤ b ∧ b < nP) ∧ nK < 24 ∧ ch = 0) ∨ (kind = 3 ∧ (0 ≤ a ∧ a < nK) ∧ (0 ≤ b ∧ b < nP) ∧ ch = 0)
  ∨ (kind = 4 ∧ (0 ≤ a ∧ a < nK) ∧ (0 ≤ b ∧ b < nH) ∧ ch = 0) ∨ (kind = 5 ∧ (0 ≤ a ∧ a < nK) ∧ (0 ≤ b ∧ b < nH) ∧ ch = 0) ∨ (kind = 6 ∧ (0 ≤ a ∧ a < nH) ∧ b = 0 ∧ ch = 0) ∨ (kind = 7 ∧ (0 ≤ a ∧ a < nP) ∧ (0 ≤ b ∧ b < nP) ∧ a ≠ b ∧ (ch = 1 ∨ ch = -1))
/-- what holds while the log is replayed: e events so far -/
def RIc (nH nP : Int) (e : Int) (μ : Mem_) : Prop := ((0 ≤ μ 17 0 ∧ μ 17 0 ≤ 24) ∧ ∀ k : Nat, (k : Int) < μ 17 0 → (0 ≤ μ 18 k ∧ μ 18 k < nH) ∧ ((μ 20 k = 0 ∧ 0 ≤ μ 21 k ∧ μ 21 k < nP) ∨ ((μ 20 k = 1 ∨ μ 20 k = 2) ∧ 0 ≤ μ 21 k ∧ μ 21 k < nH)) ∧ (0 ≤ μ 22 k ∧ μ 22 k < 4096)) ∧ (∀ h : Nat, h < 6 → 0 ≤ μ 23 h ∧ μ 23 h ≤ e) ∧ ∀ i : Nat, i < 144 → -3 ≤ μ 24 i ∧ μ 24 i ≤ 3
theorem RIc_P {nH nP e : Int} {μ : Mem_} (hH : nH ≤ 6) (hP : nP ≤ 12) (h : RIc nH nP e μ) : PIc μ := by
  refine ⟨h.1.1, fun k hk => ?_⟩
  have := h.1.2 k hk
  omega
section
variable {μ : Mem_} {Q : PV → Mem_ → Prop}
set_option maxRecDepth 10000 in
theorem c_J9_max {a b : Int} (h : Q (I_ (max a b)) μ) : V_ nJ9_max_7cf53 0 [I_ a, I_ b] [] μ Q := by
  refine v_iload_n dJ9_max_7cf53_0 rfl rfl ?_
  refine v_iload_n dJ9_max_7cf53_1 rfl rfl ?_
  refine v_icmp_lt (tgt := 9) dJ9_max_7cf53_2 (by decide) (fun hc_2 => ?_) (fun hc_2 => ?_)
  · refine v_iload_n dJ9_max_7cf53_9 rfl rfl ?_
    refine v_ireturn dJ9_max_7cf53_10 rfl ?_
    rwa [Int.max_eq_right (by omega)] at h
  · refine v_iload_n dJ9_max_7cf53_5 rfl rfl ?_
    refine v_goto (tgt := 10) dJ9_max_7cf53_6 (by decide) ?_
    refine v_ireturn dJ9_max_7cf53_10 rfl ?_
    rwa [Int.max_eq_left (by omega)] at h
set_option maxRecDepth 10000 in
theorem c_J9_min {a b : Int} (h : Q (I_ (min a b)) μ) : V_ nJ9_min_7cf53 0 [I_ a, I_ b] [] μ Q := by
  refine v_iload_n dJ9_min_7cf53_0 rfl rfl ?_
  refine v_iload_n dJ9_min_7cf53_1 rfl rfl ?_
  refine v_icmp_gt (tgt := 9) dJ9_min_7cf53_2 (by decide) (fun hc_2 => ?_) (fun hc_2 => ?_)
  · refine v_iload_n dJ9_min_7cf53_9 rfl rfl ?_
    refine v_ireturn dJ9_min_7cf53_10 rfl ?_
    rwa [Int.min_eq_right (by omega)] at h
  · refine v_iload_n dJ9_min_7cf53_5 rfl rfl ?_
    refine v_goto (tgt := 10) dJ9_min_7cf53_6 (by decide) ?_
    refine v_ireturn dJ9_min_7cf53_10 rfl ?_
    rwa [Int.min_eq_left (by omega)] at h
set_option maxRecDepth 10000 in
theorem c_X2_bring {k pl ho : Int} (hn : μ 17 0 ≤ 24) (hk : 0 ≤ k ∧ k < μ 17 0) (h : Q U_ (bringC μ k.toNat pl ho)) : V_ nX2_bring 0 [R_ 17, I_ k, I_ pl, I_ ho] [] μ Q := by
  unfold bringC at h
  refine v_aload_n dX2_bring_0 rfl rfl ?_
  refine v_iload_n dX2_bring_1 rfl rfl ?_
  refine v_callVi [_] dX2_bring_2 lX2_70 kvX2_isKey (plX2 _ _) (Or.inr rfl) rfl rfl rfl rfl rfl rfl rfl rfl rfl (c_X2_isKey ?_)
  refine v_ifb_eq (tgt := 38) dX2_bring_5 (by decide) (fun hc_5 => ?_) (fun hc_5 => ?_)
  · refine v_return dX2_bring_38 rfl ?_
    omega
  · refine v_aload_n dX2_bring_8 rfl rfl ?_
    refine v_getR dX2_bring_9 fX2_18 rfl rfl rfl ?_
    refine v_iload_n dX2_bring_12 rfl rfl ?_
    refine v_iload_n dX2_bring_13 rfl rfl ?_
    refine v_iast dX2_bring_14 rfl (by omega) (by omega) ?_
    refine v_aload_n dX2_bring_15 rfl rfl ?_
    refine v_getR dX2_bring_16 fX2_21 rfl rfl rfl ?_
    refine v_iload_n dX2_bring_19 rfl rfl ?_
    refine v_iload_n dX2_bring_20 rfl rfl ?_
    refine v_iast dX2_bring_21 rfl (by omega) (by omega) ?_
    refine v_iload_n dX2_bring_22 rfl rfl ?_
    refine v_if_ne (tgt := 38) dX2_bring_23 (by decide) (fun hc_23 => ?_) (fun hc_23 => ?_)
    · refine v_return dX2_bring_38 rfl ?_
      rwa [if_neg (by omega)] at h
    · refine v_aload_n dX2_bring_26 rfl rfl ?_
      refine v_getR dX2_bring_27 fX2_24 rfl rfl rfl ?_
      refine v_iload_n dX2_bring_30 rfl rfl ?_
      refine v_dup2 dX2_bring_31 ?_
      refine v_iald dX2_bring_32 rfl (by omega) (by omega) ?_
      rw [mset_off (by omega), mset_off (by omega)]
      refine v_iconst dX2_bring_33 (by decide) ?_
      refine v_iload_n dX2_bring_34 rfl rfl ?_
      refine v_ishl dX2_bring_35 ?_
      refine v_ior dX2_bring_36 ?_
      refine v_iast dX2_bring_37 rfl (by omega) (by omega) ?_
      refine v_return dX2_bring_38 rfl ?_
      rwa [if_pos (by omega)] at h
set_option maxRecDepth 10000 in
theorem c_X2_addKey {hs lo ho : Int} (hn : 0 ≤ μ 17 0 ∧ μ 17 0 < 24) (h : Q U_ (addKeyC μ hs lo ho)) : V_ nX2_addKey 0 [R_ 17, I_ hs, I_ lo, I_ ho] [] μ Q := by
  have m1 : ∀ (o k : Nat) (x : Int), o ≠ 17 → ∀ μ : Mem_, mset μ o k x 17 0 = μ 17 0 := fun o k x ho μ => mset_off (fun q => ho q.1.symm)
  refine v_aload_n dX2_addKey_0 rfl rfl ?_
  refine v_getI dX2_addKey_1 fX2_36 rfl rfl rfl ?_
  refine v_bipush dX2_addKey_4 (by decide) ?_
  refine v_icmp_ge (tgt := 61) dX2_addKey_6 (by decide) (fun hc_6 => ?_) (fun hc_6 => ?_)
  · refine v_return dX2_addKey_61 rfl ?_
    omega
  · refine v_aload_n dX2_addKey_9 rfl rfl ?_
    refine v_getR dX2_addKey_10 fX2_9 rfl rfl rfl ?_
    refine v_aload_n dX2_addKey_13 rfl rfl ?_
    refine v_getI dX2_addKey_14 fX2_36 rfl rfl rfl ?_
    refine v_iload_n dX2_addKey_17 rfl rfl ?_
    refine v_iast dX2_addKey_18 rfl (by omega) (by omega) ?_
    refine v_aload_n dX2_addKey_19 rfl rfl ?_
    refine v_getR dX2_addKey_20 fX2_15 rfl rfl rfl ?_
    refine v_aload_n dX2_addKey_23 rfl rfl ?_
    refine v_getI dX2_addKey_24 fX2_36 rfl rfl rfl ?_
    rw [m1 _ _ _ (by decide)]
    refine v_iload_n dX2_addKey_27 rfl rfl ?_
    refine v_iast dX2_addKey_28 rfl (by omega) (by omega) ?_
    refine v_aload_n dX2_addKey_29 rfl rfl ?_
    refine v_getR dX2_addKey_30 fX2_24 rfl rfl rfl ?_
    refine v_aload_n dX2_addKey_33 rfl rfl ?_
    refine v_getI dX2_addKey_34 fX2_36 rfl rfl rfl ?_
    rw [m1 _ _ _ (by decide), m1 _ _ _ (by decide)]
    refine v_iconst dX2_addKey_37 (by decide) ?_
    refine v_iast dX2_addKey_38 rfl (by omega) (by omega) ?_
    refine v_aload_n dX2_addKey_39 rfl rfl ?_
    refine v_dupR_ dX2_addKey_40 ?_
    refine v_getI dX2_addKey_41 fX2_36 rfl rfl rfl ?_
    rw [m1 _ _ _ (by decide), m1 _ _ _ (by decide), m1 _ _ _ (by decide)]
    refine v_iconst dX2_addKey_44 (by decide) ?_
    refine v_iadd dX2_addKey_45 (fun ha hb => by omega) ?_
    refine v_putI dX2_addKey_46 fpX2_36 rfl rfl rfl ?_
    refine v_aload_n dX2_addKey_49 rfl rfl ?_
    refine v_aload_n dX2_addKey_50 rfl rfl ?_
    refine v_getI dX2_addKey_51 fX2_36 rfl rfl rfl ?_
    rw [mset_same]
    refine v_iconst dX2_addKey_54 (by decide) ?_
    refine v_isub dX2_addKey_55 (fun ha hb => by omega) ?_
    refine v_iconst dX2_addKey_56 (by decide) ?_
    refine v_iload_n dX2_addKey_57 rfl rfl ?_
    refine v_callVv [_, _, _] dX2_addKey_58 lX2_74 kvX2_bring (plX2 _ _) rfl rfl rfl rfl rfl rfl rfl rfl rfl rfl (c_X2_bring (by rw [mset_same]; omega) (by rw [mset_same]; omega) ?_)
    refine v_return dX2_addKey_61 rfl ?_
    rwa [show (μ 17 0 + 1 - 1).toNat = (μ 17 0).toNat by omega]
set_option maxRecDepth 10000 in
theorem c_X2_changeTrust {a b ch : Int} (ha : (0 ≤ a ∧ a < 12) ∧ (0 ≤ b ∧ b < 12)) (hch : ch = 1 ∨ ch = -1) (ht : ∀ i : Nat, i < 144 → -3 ≤ μ 24 i ∧ μ 24 i ≤ 3) (h : Q U_ (chTrC μ a b ch)) : V_ nX2_changeTrust 0 [R_ 17, I_ a, I_ b, I_ ch, U_] [] μ Q := by
  have e : trC μ a b = μ 24 (a * 12 + b).toNat := if_pos (by omega)
  have hb := ht (a * 12 + b).toNat (by omega)
  refine v_iload_n dX2_changeTrust_0 rfl rfl ?_
  refine v_iload_n dX2_changeTrust_1 rfl rfl ?_
  refine v_callSi [_, _] dX2_changeTrust_2 lX2_80 ksX2_arePersons (plX2 _ _) (Or.inr rfl) rfl rfl rfl rfl rfl rfl (c_X2_arePersons ?_)
  refine v_ifb_eq (tgt := 40) dX2_changeTrust_5 (by decide) (fun hc_5 => ?_) (fun hc_5 => ?_)
  · refine v_return dX2_changeTrust_40 rfl ?_
    omega
  · refine v_aload_n dX2_changeTrust_8 rfl rfl ?_
    refine v_iload_n dX2_changeTrust_9 rfl rfl ?_
    refine v_iload_n dX2_changeTrust_10 rfl rfl ?_
    refine v_callVi [_, _] dX2_changeTrust_11 lX2_84 kvX2_trustOf (plX2 _ _) (Or.inl rfl) rfl rfl rfl rfl rfl rfl rfl rfl rfl (c_X2_trustOf ?_)
    rw [e]
    refine v_iload_n dX2_changeTrust_14 rfl rfl ?_
    refine v_iadd dX2_changeTrust_15 (fun ha hb => by omega) ?_
    refine v_istore (ls' := [_, _, _, _, _]) dX2_changeTrust_16 rfl rfl rfl ?_
    refine v_aload_n dX2_changeTrust_18 rfl rfl ?_
    refine v_getR dX2_changeTrust_19 fX2_30 rfl rfl rfl ?_
    refine v_iload_n dX2_changeTrust_22 rfl rfl ?_
    refine v_bipush dX2_changeTrust_23 (by decide) ?_
    refine v_imul dX2_changeTrust_25 (fun ha hb => by omega) ?_
    refine v_iload_n dX2_changeTrust_26 rfl rfl ?_
    refine v_iadd dX2_changeTrust_27 (fun ha hb => by omega) ?_
    refine v_bipush dX2_changeTrust_28 (by decide) ?_
    refine v_iconst dX2_changeTrust_30 (by decide) ?_
    refine v_iload dX2_changeTrust_31 rfl ?_
    refine v_callSi [_, _] dX2_changeTrust_33 lX2_88 ksJ9_min_7cf53 plJ9i (Or.inl rfl) rfl rfl rfl rfl rfl rfl (c_J9_min ?_)
    refine v_callSi [_, _] dX2_changeTrust_36 lX2_93 ksJ9_max_7cf53 plJ9a (Or.inl rfl) rfl rfl rfl rfl rfl rfl (c_J9_max ?_)
    refine v_iast dX2_changeTrust_39 rfl (by omega) (by omega) ?_
    refine v_return dX2_changeTrust_40 rfl ?_
    exact h
set_option maxRecDepth 10000 in
theorem c_X2_apply {nH nP e kind a b ch : Int} (hH : nH ≤ 6) (hP : nP ≤ 12) (he : e ≤ 1000) (hI : RIc nH nP e μ) (hv : evOK nH nP (μ 17 0) kind a b ch) (h : Q U_ (apC μ kind a b ch)) : V_ nX2_apply 0 [R_ 17, I_ kind, I_ a, I_ b, I_ ch] [] μ Q := by
  have hI1 := hI.1.1
  have hI2 : 0 ≤ a ∧ a < 6 → _ := fun q : 0 ≤ a ∧ a < 6 => hI.2.1 a.toNat (by omega)
  have hc : 0 ≤ a ∧ a < 6 → chC μ a = μ 23 a.toNat := fun q => if_pos q
  unfold evOK at hv
  unfold apC at h
  refine v_iload_n dX2_apply_0 rfl rfl ?_
  rcases (show kind < 1 ∨ 6 < kind ∨ kind = 1 ∨ kind = 2 ∨ kind = 3 ∨ kind = 4 ∨ kind = 5 ∨ kind = 6 by omega) with hsw | hsw | hsw | hsw | hsw | hsw | hsw | hsw
  · refine v_tableOut (tgt := 135) dX2_apply_1 (Or.inl hsw) (by decide) ?_
    refine v_aload_n dX2_apply_135 rfl rfl ?_
    refine v_iload_n dX2_apply_136 rfl rfl ?_
    refine v_iload_n dX2_apply_137 rfl rfl ?_
    refine v_iload dX2_apply_138 rfl ?_
    refine v_callVv [_, _, _] dX2_apply_140 lX2_77 kvX2_changeTrust (plX2 _ _) rfl rfl rfl rfl rfl rfl rfl rfl rfl rfl (c_X2_changeTrust (by omega) (by omega) hI.2.2 ?_)
    refine v_return dX2_apply_143 rfl ?_
    rwa [if_neg (by omega), if_neg (by omega), if_neg (by omega), if_neg (by omega), if_neg (by omega), if_neg (by omega)] at h
  · refine v_tableOut (tgt := 135) dX2_apply_1 (Or.inr hsw) (by decide) ?_
    refine v_aload_n dX2_apply_135 rfl rfl ?_
    refine v_iload_n dX2_apply_136 rfl rfl ?_
    refine v_iload_n dX2_apply_137 rfl rfl ?_
    refine v_iload dX2_apply_138 rfl ?_
    refine v_callVv [_, _, _] dX2_apply_140 lX2_77 kvX2_changeTrust (plX2 _ _) rfl rfl rfl rfl rfl rfl rfl rfl rfl rfl (c_X2_changeTrust (by omega) (by omega) hI.2.2 ?_)
    refine v_return dX2_apply_143 rfl ?_
    rwa [if_neg (by omega), if_neg (by omega), if_neg (by omega), if_neg (by omega), if_neg (by omega), if_neg (by omega)] at h
  · refine v_tableIn (off := 39) (tgt := 40) dX2_apply_1 (by rw [hsw]; decide) (by rw [hsw]; decide) (by rw [hsw]; decide) (by decide) ?_
    refine v_aload_n dX2_apply_40 rfl rfl ?_
    refine v_iload_n dX2_apply_41 rfl rfl ?_
    refine v_aload_n dX2_apply_42 rfl rfl ?_
    refine v_iload_n dX2_apply_43 rfl rfl ?_
    refine v_callVi [_] dX2_apply_44 lX2_62 kvX2_changesOf (plX2 _ _) (Or.inl rfl) rfl rfl rfl rfl rfl rfl rfl rfl rfl (c_X2_changesOf ?_)
    rw [hc (by omega)]
    refine v_iload_n dX2_apply_47 rfl rfl ?_
    refine v_callVv [_, _, _] dX2_apply_48 lX2_66 kvX2_addKey (plX2 _ _) rfl rfl rfl rfl rfl rfl rfl rfl rfl rfl (c_X2_addKey (by omega) ?_)
    refine v_goto (tgt := 143) dX2_apply_51 (by decide) ?_
    refine v_return dX2_apply_143 rfl ?_
    rwa [if_pos (by omega)] at h
  · refine v_tableIn (off := 53) (tgt := 54) dX2_apply_1 (by rw [hsw]; decide) (by rw [hsw]; decide) (by rw [hsw]; decide) (by decide) ?_
    refine v_aload_n dX2_apply_54 rfl rfl ?_
    refine v_iload_n dX2_apply_55 rfl rfl ?_
    refine v_callVi [_] dX2_apply_56 lX2_70 kvX2_isKey (plX2 _ _) (Or.inr rfl) rfl rfl rfl rfl rfl rfl rfl rfl rfl (c_X2_isKey ?_)
    refine v_ifb_eq (tgt := 143) dX2_apply_59 (by decide) (fun hc_59 => ?_) (fun hc_59 => ?_)
    · refine v_return dX2_apply_143 rfl ?_
      omega
    · refine v_aload_n dX2_apply_62 rfl rfl ?_
      refine v_aload_n dX2_apply_63 rfl rfl ?_
      refine v_getR dX2_apply_64 fX2_9 rfl rfl rfl ?_
      refine v_iload_n dX2_apply_67 rfl rfl ?_
      refine v_iald dX2_apply_68 rfl (by omega) (by omega) ?_
      refine v_aload_n dX2_apply_69 rfl rfl ?_
      refine v_getR dX2_apply_70 fX2_15 rfl rfl rfl ?_
      refine v_iload_n dX2_apply_73 rfl rfl ?_
      refine v_iald dX2_apply_74 rfl (by omega) (by omega) ?_
      refine v_iload_n dX2_apply_75 rfl rfl ?_
      refine v_callVv [_, _, _] dX2_apply_76 lX2_66 kvX2_addKey (plX2 _ _) rfl rfl rfl rfl rfl rfl rfl rfl rfl rfl (c_X2_addKey (by omega) ?_)
      refine v_goto (tgt := 143) dX2_apply_79 (by decide) ?_
      refine v_return dX2_apply_143 rfl ?_
      rwa [if_neg (by omega), if_pos (by omega)] at h
  · refine v_tableIn (off := 81) (tgt := 82) dX2_apply_1 (by rw [hsw]; decide) (by rw [hsw]; decide) (by rw [hsw]; decide) (by decide) ?_
    refine v_aload_n dX2_apply_82 rfl rfl ?_
    refine v_iload_n dX2_apply_83 rfl rfl ?_
    refine v_iconst dX2_apply_84 (by decide) ?_
    refine v_iload_n dX2_apply_85 rfl rfl ?_
    refine v_callVv [_, _, _] dX2_apply_86 lX2_74 kvX2_bring (plX2 _ _) rfl rfl rfl rfl rfl rfl rfl rfl rfl rfl (c_X2_bring (by omega) (by omega) ?_)
    refine v_goto (tgt := 143) dX2_apply_89 (by decide) ?_
    refine v_return dX2_apply_143 rfl ?_
    rwa [if_neg (by omega), if_neg (by omega), if_pos (by omega)] at h
  · refine v_tableIn (off := 91) (tgt := 92) dX2_apply_1 (by rw [hsw]; decide) (by rw [hsw]; decide) (by rw [hsw]; decide) (by decide) ?_
    refine v_aload_n dX2_apply_92 rfl rfl ?_
    refine v_iload_n dX2_apply_93 rfl rfl ?_
    refine v_iconst dX2_apply_94 (by decide) ?_
    refine v_iload_n dX2_apply_95 rfl rfl ?_
    refine v_callVv [_, _, _] dX2_apply_96 lX2_74 kvX2_bring (plX2 _ _) rfl rfl rfl rfl rfl rfl rfl rfl rfl rfl (c_X2_bring (by omega) (by omega) ?_)
    refine v_goto (tgt := 143) dX2_apply_99 (by decide) ?_
    refine v_return dX2_apply_143 rfl ?_
    rwa [if_neg (by omega), if_neg (by omega), if_neg (by omega), if_pos (by omega)] at h
  · refine v_tableIn (off := 101) (tgt := 102) dX2_apply_1 (by rw [hsw]; decide) (by rw [hsw]; decide) (by rw [hsw]; decide) (by decide) ?_
    refine v_aload_n dX2_apply_102 rfl rfl ?_
    refine v_iload_n dX2_apply_103 rfl rfl ?_
    refine v_iconst dX2_apply_104 (by decide) ?_
    refine v_iload_n dX2_apply_105 rfl rfl ?_
    refine v_callVv [_, _, _] dX2_apply_106 lX2_74 kvX2_bring (plX2 _ _) rfl rfl rfl rfl rfl rfl rfl rfl rfl rfl (c_X2_bring (by omega) (by omega) ?_)
    refine v_goto (tgt := 143) dX2_apply_109 (by decide) ?_
    refine v_return dX2_apply_143 rfl ?_
    rwa [if_neg (by omega), if_neg (by omega), if_neg (by omega), if_neg (by omega), if_pos (by omega)] at h
  · refine v_tableIn (off := 111) (tgt := 112) dX2_apply_1 (by rw [hsw]; decide) (by rw [hsw]; decide) (by rw [hsw]; decide) (by decide) ?_
    refine v_iload_n dX2_apply_112 rfl rfl ?_
    refine v_if_lt (tgt := 143) dX2_apply_113 (by decide) (fun hc_113 => ?_) (fun hc_113 => ?_)
    · refine v_return dX2_apply_143 rfl ?_
      omega
    · have hI2 := hI2 (by omega)
      refine v_iload_n dX2_apply_116 rfl rfl ?_
      refine v_bipush dX2_apply_117 (by decide) ?_
      refine v_icmp_ge (tgt := 143) dX2_apply_119 (by decide) (fun hc_119 => ?_) (fun hc_119 => ?_)
      · refine v_return dX2_apply_143 rfl ?_
        omega
      · refine v_aload_n dX2_apply_122 rfl rfl ?_
        refine v_getR dX2_apply_123 fX2_27 rfl rfl rfl ?_
        refine v_iload_n dX2_apply_126 rfl rfl ?_
        refine v_dup2 dX2_apply_127 ?_
        refine v_iald dX2_apply_128 rfl (by omega) (by omega) ?_
        refine v_iconst dX2_apply_129 (by decide) ?_
        refine v_iadd dX2_apply_130 (fun ha hb => by omega) ?_
        refine v_iast dX2_apply_131 rfl (by omega) (by omega) ?_
        refine v_goto (tgt := 143) dX2_apply_132 (by decide) ?_
        refine v_return dX2_apply_143 rfl ?_
        rwa [if_neg (by omega), if_neg (by omega), if_neg (by omega), if_neg (by omega), if_neg (by omega), if_pos (by omega)] at h
end
theorem bOr_bd {a b : Int} (ha : 0 ≤ a ∧ a < 4096) (hb : 0 ≤ b ∧ b < 12) : 0 ≤ bOr a (bShl 1 b) ∧ bOr a (bShl 1 b) < 4096 := by
  rw [bShl_one (by omega) (by omega)]
  have h1 : (2 : Nat) ^ b.toNat < 2 ^ 12 := Nat.pow_lt_pow_right (by omega) (by omega)
  have e := bOr_nat (a := a.toNat) (b := 2 ^ b.toNat) (by omega) (by omega)
  rw [show ((a.toNat : Nat) : Int) = a by omega] at e
  rw [e]
  have h2 : a.toNat ||| 2 ^ b.toNat < 2 ^ 12 := Nat.or_lt_two_pow (by omega) h1
  omega
theorem bringC_17 {μ : Mem_} {k : Nat} {pl ho : Int} {o i : Nat} (h : o ≠ 20 ∧ o ≠ 21 ∧ o ≠ 22) : bringC μ k pl ho o i = μ o i := by
  unfold bringC
  split
  · rw [mset_off (by omega), mset_off (by omega), mset_off (by omega)]
  · rw [mset_off (by omega), mset_off (by omega)]
theorem bringC_ne {μ : Mem_} {k : Nat} {pl ho : Int} {o i : Nat} (h : i ≠ k) : bringC μ k pl ho o i = μ o i := by
  unfold bringC
  split
  · rw [mset_off (by omega), mset_off (by omega), mset_off (by omega)]
  · rw [mset_off (by omega), mset_off (by omega)]
theorem bringC_20 {μ : Mem_} {k : Nat} {pl ho : Int} : bringC μ k pl ho 20 k = pl := by
  unfold bringC
  split
  · rw [mset_off (by omega), mset_off (by omega), mset_same]
  · rw [mset_off (by omega), mset_same]
theorem bringC_21 {μ : Mem_} {k : Nat} {pl ho : Int} : bringC μ k pl ho 21 k = ho := by
  unfold bringC
  split
  · rw [mset_off (by omega), mset_same]
  · rw [mset_same]
theorem bringC_22 {μ : Mem_} {k : Nat} {pl ho : Int} : bringC μ k pl ho 22 k = if pl = 0 then bOr (μ 22 k) (bShl 1 ho) else μ 22 k := by
  unfold bringC
  split
  · rw [mset_same]
  · rw [mset_off (by omega), mset_off (by omega)]
theorem RIc_bring {nH nP e : Int} {μ : Mem_} (hP : nP ≤ 12) {k : Nat} {pl ho : Int} (hI : RIc nH nP e μ) (hk : (k : Int) < μ 17 0) (hv : (pl = 0 ∧ 0 ≤ ho ∧ ho < nP) ∨ ((pl = 1 ∨ pl = 2) ∧ 0 ≤ ho ∧ ho < nH)) : RIc nH nP e (bringC μ k pl ho) := by
  refine ⟨⟨?_, fun j hj => ?_⟩, fun h hh => ?_, fun i hi => ?_⟩
  · rw [bringC_17 (by omega)]; exact hI.1.1
  · rw [bringC_17 (by omega)] at hj
    have hI2 := hI.1.2 j hj
    rw [bringC_17 (o := 18) (by omega)]
    by_cases hjk : j = k
    · subst hjk
      rw [bringC_20, bringC_21, bringC_22]
      refine ⟨hI2.1, hv, ?_⟩
      split
      · exact bOr_bd hI2.2.2 (by omega)
      · exact hI2.2.2
    · rw [bringC_ne hjk, bringC_ne hjk, bringC_ne hjk]
      exact hI2
  · rw [bringC_17 (by omega)]; exact hI.2.1 h hh
  · rw [bringC_17 (by omega)]; exact hI.2.2 i hi
theorem RIc_addKey {nH nP e : Int} {μ : Mem_} (hP : nP ≤ 12) {hs lo ho : Int} (hI : RIc nH nP e μ) (hn : μ 17 0 < 24) (hv : (0 ≤ hs ∧ hs < nH) ∧ (0 ≤ ho ∧ ho < nP)) : RIc nH nP e (addKeyC μ hs lo ho) := by
  have hI1 := hI.1.1
  unfold addKeyC
  generalize hm : mset (mset (mset (mset μ 18 (μ 17 0).toNat hs) 19 (μ 17 0).toNat lo) 22 (μ 17 0).toNat 0) 17 0 (μ 17 0 + 1) = m
  have e17 : m 17 0 = μ 17 0 + 1 := by rw [← hm, mset_same]
  have e18 : m 18 (μ 17 0).toNat = hs := by rw [← hm, mset_off (by omega), mset_off (by omega), mset_off (by omega), mset_same]
  have e22 : m 22 (μ 17 0).toNat = 0 := by rw [← hm, mset_off (by omega), mset_same]
  have eo : ∀ o i : Nat, i ≠ (μ 17 0).toNat → ¬ (o = 17 ∧ i = 0) → m o i = μ o i := by
    intro o i h1 h2
    rw [← hm, mset_off (by omega), mset_off (by omega), mset_off (by omega), mset_off (by omega)]
  have eo2 : ∀ o i : Nat, o ≠ 17 → o ≠ 18 → o ≠ 19 → o ≠ 22 → m o i = μ o i := by
    intro o i h1 h2 h3 h4
    rw [← hm, mset_off (by omega), mset_off (by omega), mset_off (by omega), mset_off (by omega)]
  refine ⟨⟨?_, fun j hj => ?_⟩, fun h hh => ?_, fun i hi => ?_⟩
  · rw [bringC_17 (by omega), e17]; omega
  · rw [bringC_17 (by omega), e17] at hj
    rw [bringC_17 (o := 18) (by omega)]
    by_cases hjk : j = (μ 17 0).toNat
    · subst hjk
      rw [bringC_20, bringC_21, bringC_22, if_pos rfl, e18, e22]
      exact ⟨hv.1, Or.inl ⟨rfl, hv.2⟩, bOr_bd (by omega) (by omega)⟩
    · rw [bringC_ne hjk, bringC_ne hjk, bringC_ne hjk, eo _ _ hjk (by omega), eo _ _ hjk (by omega), eo _ _ hjk (by omega), eo _ _ hjk (by omega)]
      exact hI.1.2 j (by omega)
  · rw [bringC_17 (by omega), eo2 _ _ (by omega) (by omega) (by omega) (by omega)]; exact hI.2.1 h hh
  · rw [bringC_17 (by omega), eo2 _ _ (by omega) (by omega) (by omega) (by omega)]; exact hI.2.2 i hi
theorem RIc_up {nH nP e e' : Int} {μ : Mem_} (h : e ≤ e') (hI : RIc nH nP e μ) : RIc nH nP e' μ := ⟨hI.1, fun k hk => by have := hI.2.1 k hk; omega, hI.2.2⟩
theorem RIc_ap {nH nP e kind a b ch : Int} {μ : Mem_} (hH : nH ≤ 6) (hP : nP ≤ 12) (hI : RIc nH nP e μ) (hv : evOK nH nP (μ 17 0) kind a b ch) : RIc nH nP (e + 1) (apC μ kind a b ch) := by
  have hI1 := hI.1.1
  unfold apC
  rcases hv with ⟨rfl, h1, h2, h3, -⟩ | ⟨rfl, h1, h2, h3, -⟩ | ⟨rfl, h1, h2, -⟩ | ⟨rfl, h1, h2, -⟩ | ⟨rfl, h1, h2, -⟩ | ⟨rfl, h1, h2, -⟩ | ⟨rfl, h1, h2, h3, h4⟩
  · rw [if_pos rfl]; exact RIc_up (by omega) (RIc_addKey hP hI h3 ⟨h1, h2⟩)
  · rw [if_neg (by decide), if_pos rfl]; exact RIc_up (by omega) (RIc_addKey hP hI h3 ⟨(hI.1.2 a.toNat (by omega)).1, h2⟩)
  · rw [if_neg (by decide), if_neg (by decide), if_pos rfl]; exact RIc_up (by omega) (RIc_bring hP hI (by omega) (Or.inl ⟨rfl, h2⟩))
  · rw [if_neg (by decide), if_neg (by decide), if_neg (by decide), if_pos rfl]; exact RIc_up (by omega) (RIc_bring hP hI (by omega) (Or.inr ⟨Or.inl rfl, h2⟩))
  · rw [if_neg (by decide), if_neg (by decide), if_neg (by decide), if_neg (by decide), if_pos rfl]; exact RIc_up (by omega) (RIc_bring hP hI (by omega) (Or.inr ⟨Or.inr rfl, h2⟩))
  · rw [if_neg (by decide), if_neg (by decide), if_neg (by decide), if_neg (by decide), if_neg (by decide), if_pos rfl]
    have off : ∀ o i : Nat, o ≠ 23 → mset μ 23 a.toNat (μ 23 a.toNat + 1) o i = μ o i := fun o i ho => mset_off (fun q => ho q.1)
    refine ⟨?_, fun h hh => ?_, fun i hi => ?_⟩
    · simp only [off 17 0 (by decide), fun k => off 18 k (by decide), fun k => off 20 k (by decide), fun k => off 21 k (by decide), fun k => off 22 k (by decide)]
      exact hI.1
    · have h4 := hI.2.1 h hh
      by_cases q : h = a.toNat
      · subst q; rw [mset_same]; omega
      · rw [mset_off (fun z => q z.2)]; omega
    · rw [off _ _ (by decide)]; exact hI.2.2 i hi
  · rw [if_neg (by decide), if_neg (by decide), if_neg (by decide), if_neg (by decide), if_neg (by decide), if_neg (by decide)]
    unfold chTrC
    have off : ∀ (x : Int) (o i : Nat), o ≠ 24 → mset μ 24 (a * 12 + b).toNat x o i = μ o i := fun x o i ho => mset_off (fun q => ho q.1)
    refine ⟨?_, fun h hh => ?_, fun i hi => ?_⟩
    · simp only [fun x => off x 17 0 (by decide), fun x k => off x 18 k (by decide), fun x k => off x 20 k (by decide), fun x k => off x 21 k (by decide), fun x k => off x 22 k (by decide)]
      exact hI.1
    · rw [off _ _ _ (by decide)]; have := hI.2.1 h hh; omega
    · by_cases q : i = (a * 12 + b).toNat
      · subst q; rw [mset_same]; omega
      · rw [mset_off (fun z => q z.2)]; exact hI.2.2 i hi
