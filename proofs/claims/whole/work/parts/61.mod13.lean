/-! the model: keys come and go -/
/-- the model's keys, locks and trusts in μ are those of the class in w -/
def MK (μ w : Mem_) : Prop := μ 50 27 = w 17 0 ∧ (∀ k : Nat, (k : Int) < w 17 0 → μ 65 k = w 18 k ∧ μ 66 k = w 19 k ∧ μ 67 k = w 20 k ∧ μ 68 k = w 21 k ∧ μ 69 k = w 22 k) ∧ (∀ h : Nat, h < 6 → μ 71 h = w 23 h) ∧ ∀ i : Nat, i < 144 → μ 72 i = w 24 i
def frK (μ m : Mem_) : Prop := ∀ o k, ¬ (o = 50 ∧ k = 27) → ¬ (65 ≤ o ∧ o ≤ 72) → m o k = μ o k
def gsC (μ : Mem_) (k : Nat) (wh ho : Int) : Mem_ := mset (mset (mset μ 67 k wh) 68 k ho) 69 k (bOr (μ 69 k) (if wh = 0 then bShl 1 ho else 0))
def ckC (μ : Mem_) (e : Nat) (hs lo p : Int) : Mem_ := gsC (mset (mset (mset (mset (mset μ 65 (μ 50 27).toNat hs) 66 (μ 50 27).toNat lo) 69 (μ 50 27).toNat 0) 70 e (μ 50 27)) 50 27 (μ 50 27 + 1)) (μ 50 27).toNat 0 p
theorem gsC_off {μ : Mem_} {k o i : Nat} {wh ho : Int} (h : o ≠ 67 ∧ o ≠ 68 ∧ o ≠ 69) : gsC μ k wh ho o i = μ o i := by
  unfold gsC
  rw [mset_off (by omega), mset_off (by omega), mset_off (by omega)]
theorem gsC_ne {μ : Mem_} {k o i : Nat} {wh ho : Int} (h : i ≠ k) : gsC μ k wh ho o i = μ o i := by
  unfold gsC
  rw [mset_off (by omega), mset_off (by omega), mset_off (by omega)]
theorem gsC_at {μ : Mem_} {k : Nat} {wh ho : Int} : gsC μ k wh ho 67 k = wh ∧ gsC μ k wh ho 68 k = ho ∧ gsC μ k wh ho 69 k = bOr (μ 69 k) (if wh = 0 then bShl 1 ho else 0) := by
  unfold gsC
  refine ⟨?_, ?_, ?_⟩
  · rw [mset_off (by omega), mset_off (by omega), mset_same]
  · rw [mset_off (by omega), mset_same]
  · rw [mset_same]
theorem bOr_z2 {a : Int} (ha : 0 ≤ a ∧ a < 4096) : bOr a 0 = a := by
  have := bOr_z (a := a.toNat) (by omega)
  rwa [show ((a.toNat : Nat) : Int) = a by omega] at this
theorem MK_brx {μ w : Mem_} {k : Nat} {wh ho : Int} (h1 : μ 50 27 = w 17 0) (h2 : ∀ j : Nat, (j : Int) < w 17 0 → μ 65 j = w 18 j ∧ μ 66 j = w 19 j ∧ μ 69 j = w 22 j ∧ (j ≠ k → μ 67 j = w 20 j ∧ μ 68 j = w 21 j)) (h3 : ∀ h : Nat, h < 6 → μ 71 h = w 23 h) (h4 : ∀ i : Nat, i < 144 → μ 72 i = w 24 i) (hb : 0 ≤ w 22 k ∧ w 22 k < 4096) : MK (gsC μ k wh ho) (bringC w k wh ho) := by
  have e17 : bringC w k wh ho 17 0 = w 17 0 := bringC_17 (by omega)
  refine ⟨by rw [gsC_off (by omega), e17]; exact h1, fun j hj => ?_, fun g hg => ?_, fun i hi => ?_⟩
  · rw [e17] at hj
    have hq := h2 j hj
    rw [gsC_off (by omega), gsC_off (by omega), bringC_17 (by omega), bringC_17 (by omega)]
    refine ⟨hq.1, hq.2.1, ?_⟩
    by_cases e : j = k
    · subst e
      rw [gsC_at.1, gsC_at.2.1, gsC_at.2.2, bringC_20, bringC_21, bringC_22, hq.2.2.1]
      refine ⟨rfl, rfl, ?_⟩
      by_cases e : wh = 0
      · rw [if_pos e, if_pos e]
      · rw [if_neg e, if_neg e, bOr_z2 hb]
    · rw [gsC_ne e, gsC_ne e, gsC_ne e, bringC_ne e, bringC_ne e, bringC_ne e]
      exact ⟨(hq.2.2.2 e).1, (hq.2.2.2 e).2, hq.2.2.1⟩
  · rw [gsC_off (by omega), bringC_17 (by omega)]; exact h3 g hg
  · rw [gsC_off (by omega), bringC_17 (by omega)]; exact h4 i hi
theorem MK_bring {μ w : Mem_} {k : Nat} {wh ho : Int} (h : MK μ w) (hb : 0 ≤ w 22 k ∧ w 22 k < 4096) : MK (gsC μ k wh ho) (bringC w k wh ho) :=
  MK_brx h.1 (fun j hj => ⟨(h.2.1 j hj).1, (h.2.1 j hj).2.1, (h.2.1 j hj).2.2.2.2, fun _ => ⟨(h.2.1 j hj).2.2.1, (h.2.1 j hj).2.2.2.1⟩⟩) h.2.2.1 h.2.2.2 hb
theorem MK_add {μ w : Mem_} {e : Nat} {hs lo p : Int} (h : MK μ w) (hn : 0 ≤ w 17 0) : MK (ckC μ e hs lo p) (addKeyC w hs lo p) := by
  unfold ckC addKeyC
  have h1 := h.1
  rw [h1]
  refine MK_brx (k := (w 17 0).toNat) (by rw [mset_same, mset_same]) (fun j hj => ?_) (fun g hg => ?_) (fun i hi => ?_) (by rw [mset_off (by omega), mset_same]; omega)
  · rw [mset_same] at hj
    by_cases e : j = (w 17 0).toNat
    · subst e
      simp [mset]
    · have := h.2.1 j (by omega)
      simp [mset, e, this]
  · have := h.2.2.1 g hg
    simp [mset, this]
  · have := h.2.2.2 i hi
    simp [mset, this]
theorem MK_lock {μ w : Mem_} {a : Nat} {v : Int} (h : MK μ w) : MK (mset μ 71 a v) (mset w 23 a v) := by
  refine ⟨by simpa [mset] using h.1, fun j hj => ?_, fun g hg => ?_, fun i hi => ?_⟩
  · have := h.2.1 j (by simpa [mset] using hj)
    simpa [mset] using this
  · have := h.2.2.1 g hg
    by_cases e : g = a
    · simp [mset, e]
    · simp [mset, e, this]
  · have := h.2.2.2 i hi
    simp [mset, this]
theorem MK_trust {μ w : Mem_} {a : Nat} {v : Int} (h : MK μ w) : MK (mset μ 72 a v) (mset w 24 a v) := by
  refine ⟨by simpa [mset] using h.1, fun j hj => ?_, fun g hg => ?_, fun i hi => ?_⟩
  · have := h.2.1 j (by simpa [mset] using hj)
    simpa [mset] using this
  · have := h.2.2.1 g hg
    simp [mset, this]
  · have := h.2.2.2 i hi
    by_cases e : i = a
    · simp [mset, e]
    · simp [mset, e, this]
section
variable {μ : Mem_} {Q : PV → Mem_ → Prop}
set_option maxRecDepth 10000 in
theorem c_X8_goes {k wh ho : Int} (hk : 0 ≤ k ∧ k < 24) (h : Q U_ (gsC μ k.toNat wh ho)) : V_ nX8_goes 0 [R_ 50, I_ k, I_ wh, I_ ho] [] μ Q := by
  unfold gsC at h
  refine v_aload_n dX8_goes_0 rfl rfl ?_
  refine v_getR dX8_goes_1 fX8_59 rfl rfl rfl ?_
  refine v_iload_n dX8_goes_4 rfl rfl ?_
  refine v_iload_n dX8_goes_5 rfl rfl ?_
  refine v_iast dX8_goes_6 rfl (by omega) (by omega) ?_
  refine v_aload_n dX8_goes_7 rfl rfl ?_
  refine v_getR dX8_goes_8 fX8_62 rfl rfl rfl ?_
  refine v_iload_n dX8_goes_11 rfl rfl ?_
  refine v_iload_n dX8_goes_12 rfl rfl ?_
  refine v_iast dX8_goes_13 rfl (by omega) (by omega) ?_
  refine v_aload_n dX8_goes_14 rfl rfl ?_
  refine v_getR dX8_goes_15 fX8_65 rfl rfl rfl ?_
  refine v_iload_n dX8_goes_18 rfl rfl ?_
  refine v_dup2 dX8_goes_19 ?_
  refine v_iald dX8_goes_20 rfl (by omega) (by omega) ?_
  refine v_iload_n dX8_goes_21 rfl rfl ?_
  refine v_if_ne (tgt := 31) dX8_goes_22 (by decide) (fun hc_22 => ?_) (fun hc_22 => ?_)
  · refine v_iconst dX8_goes_31 (by decide) ?_
    refine v_ior dX8_goes_32 ?_
    refine v_iast dX8_goes_33 rfl (by omega) (by omega) ?_
    refine v_return dX8_goes_34 rfl ?_
    rw [mset_off (by omega), mset_off (by omega)]
    rwa [if_neg (by omega)] at h
  · refine v_iconst dX8_goes_25 (by decide) ?_
    refine v_iload_n dX8_goes_26 rfl rfl ?_
    refine v_ishl dX8_goes_27 ?_
    refine v_goto (tgt := 32) dX8_goes_28 (by decide) ?_
    refine v_ior dX8_goes_32 ?_
    refine v_iast dX8_goes_33 rfl (by omega) (by omega) ?_
    refine v_return dX8_goes_34 rfl ?_
    rw [mset_off (by omega), mset_off (by omega)]
    rwa [if_pos (by omega)] at h
set_option maxRecDepth 10000 in
theorem c_X8_comesKey {e hs lo p : Int} (hn : 0 ≤ μ 50 27 ∧ μ 50 27 < 24) (he : 0 ≤ e ∧ e < 40) (h : Q U_ (ckC μ e.toNat hs lo p)) : V_ nX8_comesKey 0 [R_ 50, I_ e, I_ hs, I_ lo, I_ p] [] μ Q := by
  refine v_aload_n dX8_comesKey_0 rfl rfl ?_
  refine v_getR dX8_comesKey_1 fX8_53 rfl rfl rfl ?_
  refine v_aload_n dX8_comesKey_4 rfl rfl ?_
  refine v_getI dX8_comesKey_5 fX8_189 rfl rfl rfl ?_
  refine v_iload_n dX8_comesKey_8 rfl rfl ?_
  refine v_iast dX8_comesKey_9 rfl (by omega) (by omega) ?_
  refine v_aload_n dX8_comesKey_10 rfl rfl ?_
  refine v_getR dX8_comesKey_11 fX8_56 rfl rfl rfl ?_
  refine v_aload_n dX8_comesKey_14 rfl rfl ?_
  refine v_getI dX8_comesKey_15 fX8_189 rfl rfl rfl ?_
  rw [mset_off (by omega)]
  refine v_iload_n dX8_comesKey_18 rfl rfl ?_
  refine v_iast dX8_comesKey_19 rfl (by omega) (by omega) ?_
  refine v_aload_n dX8_comesKey_20 rfl rfl ?_
  refine v_getR dX8_comesKey_21 fX8_65 rfl rfl rfl ?_
  refine v_aload_n dX8_comesKey_24 rfl rfl ?_
  refine v_getI dX8_comesKey_25 fX8_189 rfl rfl rfl ?_
  rw [mset_off (by omega), mset_off (by omega)]
  refine v_iconst dX8_comesKey_28 (by decide) ?_
  refine v_iast dX8_comesKey_29 rfl (by omega) (by omega) ?_
  refine v_aload_n dX8_comesKey_30 rfl rfl ?_
  refine v_getR dX8_comesKey_31 fX8_68 rfl rfl rfl ?_
  refine v_iload_n dX8_comesKey_34 rfl rfl ?_
  refine v_aload_n dX8_comesKey_35 rfl rfl ?_
  refine v_getI dX8_comesKey_36 fX8_189 rfl rfl rfl ?_
  rw [mset_off (by omega), mset_off (by omega), mset_off (by omega)]
  refine v_iast dX8_comesKey_39 rfl (by omega) (by omega) ?_
  refine v_aload_n dX8_comesKey_40 rfl rfl ?_
  refine v_dupR_ dX8_comesKey_41 ?_
  refine v_getI dX8_comesKey_42 fX8_189 rfl rfl rfl ?_
  rw [mset_off (by omega), mset_off (by omega), mset_off (by omega), mset_off (by omega)]
  refine v_iconst dX8_comesKey_45 (by decide) ?_
  refine v_iadd dX8_comesKey_46 (fun ha hb => by omega) ?_
  refine v_putI dX8_comesKey_47 fpX8_189 rfl rfl rfl ?_
  refine v_aload_n dX8_comesKey_50 rfl rfl ?_
  refine v_aload_n dX8_comesKey_51 rfl rfl ?_
  refine v_getI dX8_comesKey_52 fX8_189 rfl rfl rfl ?_
  rw [mset_same]
  refine v_iconst dX8_comesKey_55 (by decide) ?_
  refine v_isub dX8_comesKey_56 (fun ha hb => by omega) ?_
  rw [show μ 50 27 + 1 - 1 = μ 50 27 by omega]
  refine v_iconst dX8_comesKey_57 (by decide) ?_
  refine v_iload dX8_comesKey_58 rfl ?_
  refine v_callVv [_, _, _] dX8_comesKey_60 lX8_226 kvX8_goes (plX8 _ _) rfl rfl rfl rfl rfl rfl rfl rfl rfl rfl (c_X8_goes (by omega) ?_)
  refine v_return dX8_comesKey_63 rfl ?_
  exact h
end
