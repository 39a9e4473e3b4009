/-! the model over the class: streets, years, events come and go -/
abbrev rpW (w0 : Mem_) : Mem_ := rpC (w0 7 0).toNat (rsC w0)
theorem rpW_off {w0 : Mem_} {o i : Nat} (h : o < 17 ∨ 24 < o) : rpW w0 o i = w0 o i := by
  unfold rpW
  rw [rpC_off h, rsC_off (by omega)]
theorem rpW_st {w0 : Mem_} : stc (rpW w0) = stc w0 := by unfold stc; rw [rpW_off (by omega)]
section
variable {μ w : Mem_} {Q : PV → Mem_ → Prop}
def evC (μ w0 : Mem_) : Prop := μ 50 22 = w0 7 0 ∧ ∀ e : Int, 0 ≤ e → e < w0 7 0 → μ 63 (4 * e).toNat = w0 8 e.toNat ∧ μ 63 (4 * e + 1).toNat = w0 9 e.toNat ∧ μ 63 (4 * e + 2).toNat = w0 10 e.toNat ∧ μ 63 (4 * e + 3).toNat = w0 11 e.toNat
theorem c_X8_settleC {w0 : Mem_} (hst : isSt (stc w0)) (hs : StC w0 (stc w0)) (hl : LVc (w0 (stc w0) 0) (w0 (stc w0) 1) w0) (hc : CS μ w0) (hv : evC μ w0) (h : ∀ m : Mem_, frT μ m → CP m (rpW w0) → Q U_ m) : V_ nX8_settle 0 [R_ 50, U_, U_] [] μ Q := by
  refine c_X8_settle hs.1.2 hs.2.1.2 hl hv.1 hv.2 (fun m f1 f2 f3 f4 => h m f1 ⟨?_, f2, f3, ?_⟩)
  · unfold CS
    rw [rpW_st, rpW_off (by omega), rpW_off (by omega), f1 50 10 (by omega) (by omega), f1 50 11 (by omega) (by omega)]
    refine ⟨hc.1, fun g hg => ?_, fun p hp => ?_⟩
    · rw [f1 57 g (by omega) (by omega), rpW_off (by omega)]
      exact hc.2.1 g hg
    · rw [f1 58 p (by omega) (by omega), f1 59 p (by omega) (by omega), rpW_off (by omega), rpW_off (by omega)]
      exact hc.2.2 p hp
  · unfold CV
    rw [rpW_off (o := 7) (by omega)]
    refine ⟨by rw [f1 50 22 (by omega) (by omega)]; exact hv.1, fun e e0 e1 => ?_, fun e he hq => ?_⟩
    · rw [f1 63 _ (by omega) (by omega), f1 63 _ (by omega) (by omega), f1 63 _ (by omega) (by omega), f1 63 _ (by omega) (by omega), rpW_off (by omega), rpW_off (by omega), rpW_off (by omega), rpW_off (by omega)]
      exact hv.2 e e0 e1
    · rw [rpW_off (by omega)] at hq
      rw [f4 e he hq]
      exact (kbC_congr (fun i _ => rpW_off (by omega))).symm
theorem itY_bd {tx : Nat → Int} {n : Nat} {nH nP e0 : Int} : ∀ i j s s', 0 ≤ s.2 ∧ s.2 ≤ 24 → e0 + s.1.length ≤ 40 → itY tx n nH nP e0 i s = (j, some s') → (0 ≤ s'.2 ∧ s'.2 ≤ 24) ∧ e0 + s'.1.length ≤ 40 := by
  intro i j s s' h1 h2 h3
  unfold itY at h3
  split at h3
  · simp at h3
  · rename_i hn
    obtain ⟨v, k, q1, q2⟩ := andP_some h3
    simp at q2
    obtain ⟨_, q2⟩ := q2
    subst q2
    unfold mkK at hn
    simp only [List.length_append, List.length_singleton]
    by_cases hm : mkK (kdN (tx i))
    · rw [b2i_t hm]
      unfold mkK at hm
      omega
    · rw [b2i_f hm]
      omega
theorem TmW (hr : CR μ w) {r : Int} (h0 : 0 ≤ r ∧ r < 4) (hs : 0 ≤ w 5 r.toNat) : TmC (txF w r) (tnC w r) r μ := by
  have q := hr.2.1 r.toNat (by omega)
  have e : sz_4 w r = w 5 r.toNat := sze_4 h0
  refine ⟨by unfold tnC; omega, h0, by rw [q.1]; unfold tnC; omega, fun j hj => ?_⟩
  unfold tnC at hj
  unfold txF
  rw [show (120 * r + (j : Int)).toNat = 120 * r.toNat + j by omega, show (r * 120 + (j : Int)).toNat = 120 * r.toNat + j by omega]
  exact ⟨q.2.2 j (by omega), (hr.2.2 _).1⟩
set_option maxRecDepth 10000 in
theorem c_X8_fault {r wy : Int} (hw : CW w) (hc : CP μ w) (hr : CR μ w) (hf : fmOK μ) (h1 : ¬ (0 ≤ r ∧ r < 4) → Q (I_ (-1)) μ) (h2 : (0 ≤ r ∧ r < 4) → w 5 r.toNat < 0 → Q (I_ (-3)) (mtC μ 1)) (h3 : (0 ≤ r ∧ r < 4) → 0 ≤ w 5 r.toNat → wy = 0 → ∀ m : Mem_, frM μ m → Q (I_ (stP w r).1) m) (h4 : (0 ≤ r ∧ r < 4) → 0 ≤ w 5 r.toNat → wy ≠ 0 → ∀ m : Mem_, frE μ m → Q (I_ (yrP w r).1) m) : V_ nX8_fault 0 [R_ 50, I_ r, I_ wy] [] μ Q := by
  have c1 := hc.1.1
  have s1 := hw.1.2.1
  have s2 := hw.1.2.2.1
  have k1 := hc.2.1.1
  have v1 := hc.2.2.2.1
  have p1 := hw.P.1
  have l1 := hw.2.2.1.1
  have e55 : (0 ≤ r ∧ r < 4) → μ 55 r.toNat = w 5 r.toNat := fun q => (hr.2.1 r.toNat (by omega)).1
  refine v_iload_n dX8_fault_0 rfl rfl ?_
  refine v_callSi [_] dX8_fault_1 lX8_137 ksX8_isText (plX8 _ _) (Or.inr rfl) rfl rfl rfl rfl rfl rfl (c_X8_isText ?_)
  refine v_ifb_ne (tgt := 9) dX8_fault_4 (by decide) (fun hc_4 => ?_) (fun hc_4 => ?_)
  · refine v_aload_n dX8_fault_9 rfl rfl ?_
    refine v_getR dX8_fault_10 fX8_22 rfl rfl rfl ?_
    refine v_iload_n dX8_fault_13 rfl rfl ?_
    refine v_iald dX8_fault_14 rfl (by omega) (by omega) ?_
    rw [e55 (by omega)]
    refine v_if_ge (tgt := 26) dX8_fault_15 (by decide) (fun hc_15 => ?_) (fun hc_15 => ?_)
    · refine v_iload_n dX8_fault_26 rfl rfl ?_
      refine v_if_eq (tgt := 38) dX8_fault_27 (by decide) (fun hc_27 => ?_) (fun hc_27 => ?_)
      · refine v_aload_n dX8_fault_38 rfl rfl ?_
        refine v_iload_n dX8_fault_39 rfl rfl ?_
        refine v_callVi [_] dX8_fault_40 lX8_198 kvX8_streetFault (plX8 _ _) (Or.inl rfl) rfl rfl rfl rfl rfl rfl rfl rfl rfl (c_X8_streetFault (TmW hr (by omega) (by omega)) (fun mz f1 f2 => ?_))
        refine v_ireturn dX8_fault_43 rfl ?_
        have q := h3 (by omega) (by omega) (by omega) mz f1
        unfold stP at q
        exact q
      · refine v_aload_n dX8_fault_30 rfl rfl ?_
        refine v_iload_n dX8_fault_31 rfl rfl ?_
        refine v_callVi [_] dX8_fault_32 lX8_195 kvX8_yearFault (plX8 _ _) (Or.inl rfl) rfl rfl rfl rfl rfl rfl rfl rfl rfl (c_X8_yearFault (TmW hr (by omega) (by omega)) (by omega) (by omega) (by omega) (by omega) itY_bd (fun mz f1 f2 => ?_))
        simp only [c1.1, c1.2, v1, k1]
        refine v_goto (tgt := 43) dX8_fault_35 (by decide) ?_
        refine v_ireturn dX8_fault_43 rfl ?_
        have q := h4 (by omega) (by omega) (by omega) mz f1
        unfold yrP at q
        exact q
    · refine v_aload_n dX8_fault_18 rfl rfl ?_
      refine v_iconst dX8_fault_19 (by decide) ?_
      refine v_callVi [_] dX8_fault_20 lX8_126 kvX8_meets (plX8 _ _) (Or.inl rfl) rfl rfl rfl rfl rfl rfl rfl rfl rfl (c_X8_meets (g := 1) rfl (by decide) hf ?_)
      refine v_goto (tgt := 43) dX8_fault_23 (by decide) ?_
      refine v_ireturn dX8_fault_43 rfl ?_
      exact h2 (by omega) (by omega)
  · refine v_iconst dX8_fault_7 (by decide) ?_
    refine v_ireturn dX8_fault_8 rfl ?_
    exact h1 (by omega)
set_option maxRecDepth 10000 in
theorem c_X8_back {n : Int} (hw : CW w) (hc : CP μ w) (h1 : ¬ (0 ≤ n ∧ n ≤ w 7 0) → Q (I_ (-1)) μ) (h2 : (0 ≤ n ∧ n ≤ w 7 0) → ∀ m : Mem_, frT (mset μ 50 22 n) m → CP m (rpW (mset w 7 0 n)) → Q (I_ (w 7 0 - n)) m) : V_ nX8_back 0 [R_ 50, I_ n, U_] [] μ Q := by
  have v1 := hc.2.2.2.1
  have l1 := hw.2.2.1.1
  have e0 : stc (mset w 7 0 n) = stc w := by unfold stc; rw [mset_off (by omega)]
  have hst := hw.1.1
  have hS : ∀ o k, o ≠ 7 → mset w 7 0 n o k = w o k := fun o k q => mset_off (by omega)
  have hM : ∀ o k, ¬ (o = 50 ∧ k = 22) → mset μ 50 22 n o k = μ o k := fun o k q => mset_off q
  have k1 : StC (mset w 7 0 n) (stc (mset w 7 0 n)) := by
    rw [e0]
    unfold StC
    simp only [hS (stc w) _ (by omega), hS (stc w + 1) _ (by omega), hS (stc w + 2) _ (by omega), hS (stc w + 3) _ (by omega)]
    exact hw.1.2
  have k2 : (0 ≤ n ∧ n ≤ w 7 0) → LVc (mset w 7 0 n (stc (mset w 7 0 n)) 0) (mset w 7 0 n (stc (mset w 7 0 n)) 1) (mset w 7 0 n) := fun q => by
    rw [e0, hS (stc w) 0 (by omega), hS (stc w) 1 (by omega)]
    exact LVc_cut hw.2.2.1 q
  have k3 : CS (mset μ 50 22 n) (mset w 7 0 n) := by
    unfold CS
    rw [e0, hS (stc w) 0 (by omega), hS (stc w) 1 (by omega), hM 50 10 (by omega), hM 50 11 (by omega)]
    refine ⟨hc.1.1, fun g hg => ?_, fun p hp => ?_⟩
    · rw [hM 57 g (by omega), hS (stc w + 1) g (by omega)]; exact hc.1.2.1 g hg
    · rw [hM 58 p (by omega), hM 59 p (by omega), hS (stc w + 2) p (by omega), hS (stc w + 3) p (by omega)]; exact hc.1.2.2 p hp
  have k4 : (0 ≤ n ∧ n ≤ w 7 0) → evC (mset μ 50 22 n) (mset w 7 0 n) := fun q => by
    refine ⟨by rw [mset_same, mset_same], fun e q0 q1 => ?_⟩
    rw [mset_same] at q1
    rw [hM 63 (4 * e).toNat (by omega), hM 63 (4 * e + 1).toNat (by omega), hM 63 (4 * e + 2).toNat (by omega), hM 63 (4 * e + 3).toNat (by omega), hS 8 e.toNat (by omega), hS 9 e.toNat (by omega), hS 10 e.toNat (by omega), hS 11 e.toNat (by omega)]
    exact hc.2.2.2.2.1 e q0 (by omega)
  refine v_iload_n dX8_back_0 rfl rfl ?_
  refine v_iconst dX8_back_1 (by decide) ?_
  refine v_aload_n dX8_back_2 rfl rfl ?_
  refine v_getI dX8_back_3 fX8_186 rfl rfl rfl ?_
  rw [v1]
  refine v_callSi [_, _, _] dX8_back_6 lX8_112 ksX8_in (plX8 _ _) (Or.inr rfl) rfl rfl rfl rfl rfl rfl (c_X8_in ?_)
  refine v_ifb_ne (tgt := 14) dX8_back_9 (by decide) (fun hc_9 => ?_) (fun hc_9 => ?_)
  · refine v_aload_n dX8_back_14 rfl rfl ?_
    refine v_getI dX8_back_15 fX8_186 rfl rfl rfl ?_
    rw [v1]
    refine v_iload_n dX8_back_18 rfl rfl ?_
    refine v_isub dX8_back_19 (fun ha hb => by omega) ?_
    refine v_istore_n (ls' := [_, _, _]) dX8_back_20 rfl rfl rfl rfl ?_
    refine v_aload_n dX8_back_21 rfl rfl ?_
    refine v_iload_n dX8_back_22 rfl rfl ?_
    refine v_putI dX8_back_23 fpX8_186 rfl rfl rfl ?_
    refine v_aload_n dX8_back_26 rfl rfl ?_
    refine v_callVv [] dX8_back_27 lX8_201 kvX8_settle (plX8 _ _) rfl rfl rfl rfl rfl rfl rfl rfl rfl rfl (c_X8_settleC (w0 := mset w 7 0 n) (by rw [e0]; exact hst) k1 (k2 (by omega)) k3 (k4 (by omega)) (fun mz f1 f2 => ?_))
    refine v_iload_n dX8_back_30 rfl rfl ?_
    refine v_ireturn dX8_back_31 rfl ?_
    exact h2 (by omega) mz f1 f2
  · refine v_iconst dX8_back_12 (by decide) ?_
    refine v_ireturn dX8_back_13 rfl ?_
    exact h1 (by omega)
end
