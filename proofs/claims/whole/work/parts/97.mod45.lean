/-! the model over the class: a year taken, a street taken -/
def ISt (s : List Int × List (Int × Int)) : Prop := s.1.length ≤ 6 ∧ s.2.length ≤ 12 ∧ (∀ h, h < s.1.length → 0 ≤ s.1.getD h 0 ∧ s.1.getD h 0 ≤ 99) ∧ ∀ p, p < s.2.length → ((s.2.getD p (0, 0)).1 = -9 ∨ (0 ≤ (s.2.getD p (0, 0)).1 ∧ (s.2.getD p (0, 0)).1 < s.1.length)) ∧ (0 ≤ (s.2.getD p (0, 0)).2 ∧ (s.2.getD p (0, 0)).2 ≤ 12)
theorem itS_ok {tx : Nat → Int} {n : Nat} : ∀ i s j s', ISt s → itS tx n i s = (j, some s') → ISt s' := by
  intro i s j s' hI h
  obtain ⟨a1, a2, a3, a4⟩ := hI
  unfold itS at h
  split at h
  · rename_i q
    obtain ⟨c, l, h1, h2⟩ := andP_some h
    have hv := numP_v h1
    have e : s' = (s.1 ++ [c], s.2) := by simp at h2; exact h2.2.symm
    subst e
    refine ⟨by simp; omega, a2, fun k hk => ?_, fun p hp => ?_⟩
    · have hk : k < s.1.length + 1 := by simpa using hk
      show 0 ≤ (s.1 ++ [c]).getD k 0 ∧ (s.1 ++ [c]).getD k 0 ≤ 99
      rw [getD_app _ _ _ _ hk]
      split
      · rename_i z; exact a3 k z
      · omega
    · have := a4 p hp
      have e2 : ((s.1 ++ [c]).length : Int) = s.1.length + 1 := by simp
      show ((s.2.getD p (0, 0)).1 = -9 ∨ (0 ≤ (s.2.getD p (0, 0)).1 ∧ (s.2.getD p (0, 0)).1 < ((s.1 ++ [c]).length : Int))) ∧ (0 ≤ (s.2.getD p (0, 0)).2 ∧ (s.2.getD p (0, 0)).2 ≤ 12)
      rw [e2]
      omega
  · split at h
    · rename_i q0 q
      obtain ⟨hm, l1, h1, h2⟩ := andP_some h
      obtain ⟨u, l2, h3, h4⟩ := andP_some h2
      obtain ⟨a, l3, h5, h6⟩ := andP_some h4
      have hv := numP_v h5
      have hmv : hm = -9 ∨ (0 ≤ hm ∧ hm < s.1.length) := by
        unfold hmP at h1
        split at h1
        · simp at h1; omega
        · unfold figP at h1
          split at h1
          · rename_i z; simp at h1; have := z.1.2; omega
          · simp at h1
      have e : s' = (s.1, s.2 ++ [(hm, a)]) := by simp at h6; exact h6.2.symm
      subst e
      refine ⟨a1, by simp; omega, a3, fun p hp => ?_⟩
      have hp : p < s.2.length + 1 := by simpa using hp
      show (((s.2 ++ [(hm, a)]).getD p (0, 0)).1 = -9 ∨ _) ∧ _
      rw [getD_app _ _ _ _ hp]
      split
      · rename_i z; exact a4 p z
      · exact ⟨hmv, by simp only; omega⟩
    · simp at h
theorem stP_ok {μ : Mem_} {r : Int} : ISt (stP μ r).2 := gP_inv (P := ISt) itS_ok _ _ _ ⟨by simp, by simp, fun h hh => absurd hh (by simp), fun p hp => absurd hp (by simp)⟩
theorem DrC_St {m : Mem_} {d : Nat} {s : List Int × List (Int × Int)} (h : DrC m d s) (hI : ISt s) : StC m d := by
  obtain ⟨⟨a1, a2⟩, ⟨b1, b2⟩, c1, e1⟩ := h
  obtain ⟨i1, i2, i3, i4⟩ := hI
  refine ⟨by omega, by omega, fun g hg => ?_, fun p hp => ?_⟩
  · rw [c1 g (by omega)]; exact i3 g (by omega)
  · rw [(e1 p (by omega)).1, (e1 p (by omega)).2, a1]; exact i4 p (by omega)
section
variable {μ w : Mem_} {Q : PV → Mem_ → Prop}
def frU (μ m : Mem_) : Prop := ∀ o k, ¬ (o = 50 ∧ (k = 10 ∨ k = 11 ∨ (15 ≤ k ∧ k ≤ 18) ∨ k = 22 ∨ k = 24 ∨ k = 25 ∨ k = 27 ∨ k = 39)) → ¬ (57 ≤ o ∧ o ≤ 75) → m o k = μ o k
set_option maxRecDepth 10000 in
theorem c_X8_street {r : Int} (hc : CP μ w) (hr : CR μ w) (hf : fmOK μ) (h1 : ¬ (0 ≤ r ∧ r < 4) → Q (I_ (-1)) μ) (h2 : (0 ≤ r ∧ r < 4) → w 5 r.toNat < 0 → Q (I_ (-3)) (mtC μ 1)) (h3 : (0 ≤ r ∧ r < 4) → 0 ≤ w 5 r.toNat → (stP w r).1 ≠ -9 → ∀ mz : Mem_, frU μ mz → CP mz w → Q (I_ (-4)) mz)
    (w0 : Mem_) (hst0 : isSt (stc w0)) (hD0 : (0 ≤ r ∧ r < 4) → 0 ≤ w 5 r.toNat → (stP w r).1 = -9 → DrC w0 (stc w0) (stP w r).2 ∧ w0 7 0 = 0) (h4 : (0 ≤ r ∧ r < 4) → 0 ≤ w 5 r.toNat → (stP w r).1 = -9 → ∀ mz : Mem_, frU μ mz → CP mz (rpW w0) → Q (I_ ((stP w r).2.1.length : Int)) mz) : V_ nX8_street 0 [R_ 50, I_ r, U_] [] μ Q := by
  have e55 : (0 ≤ r ∧ r < 4) → μ 55 r.toNat = w 5 r.toNat := fun q => (hr.2.1 r.toNat (by omega)).1
  have hIS := stP_ok (μ := w) (r := r)
  generalize hS : stP w r = S at *
  have lp : (0 ≤ r ∧ r < 4) → 0 ≤ w 5 r.toNat → S.1 = -9 → ∀ m1 : Mem_, frM μ m1 → DmC m1 S.2 → ∀ k : Int, 0 ≤ k → k ≤ 12 → ∀ mz : Mem_, frU μ mz → (∀ o i, 60 ≤ o ∧ o ≤ 62 → mz o i = m1 o i) → mz 50 10 = S.2.1.length → mz 50 11 = S.2.2.length → (∀ i : Nat, (i : Int) < k → mz 58 i = m1 61 i ∧ mz 59 i = m1 62 i ∧ (i < 6 → mz 57 i = m1 60 i)) → V_ nX8_street 55 [R_ 50, I_ r, I_ k] [] mz Q := by
    intro q1 q2 q3 m1 a1 a2
    obtain ⟨⟨b1, b2⟩, ⟨b3, b4⟩, b5, b6⟩ := a2
    have hDD := hD0 q1 q2 q3
    refine loop_up _ (fun k h0 h1 ih => ?_)
    intro mz c1 c2 c3 c4 c5
    have z7 : mset mz 50 22 0 50 10 = S.2.1.length := by rw [mset_off (by omega)]; exact c3
    have hCS : 12 ≤ k → CS (mset mz 50 22 0) w0 := fun hk => by
      obtain ⟨⟨d1, d2⟩, ⟨d3, d4⟩, d5, d6⟩ := hDD.1
      refine ⟨⟨by rw [z7, d1], by rw [mset_off (by omega), c4, d3]⟩, fun g hg => ?_, fun p hp => ?_⟩
      · rw [mset_off (by omega), (c5 g (by omega)).2.2 (by omega), b5 g (by omega), d5 g (by omega)]
      · rw [mset_off (by omega), mset_off (by omega), (c5 p (by omega)).1, (c5 p (by omega)).2.1, (b6 p (by omega)).1, (b6 p (by omega)).2, (d6 p (by omega)).1, (d6 p (by omega)).2]
        exact ⟨rfl, rfl⟩
    have hLV : LVc (w0 (stc w0) 0) (w0 (stc w0) 1) w0 := ⟨by rw [hDD.2]; omega, fun e he => by rw [hDD.2] at he; omega⟩
    have hEC : evC (mset mz 50 22 0) w0 := ⟨by rw [mset_same, hDD.2], fun e e0 e1 => by rw [hDD.2] at e1; omega⟩
    refine v_iload_n dX8_street_55 rfl rfl ?_
    refine v_bipush dX8_street_56 (by decide) ?_
    refine v_icmp_ge (tgt := 109) dX8_street_58 (by decide) (fun hc_58 => ?_) (fun hc_58 => ?_)
    · refine v_aload_n dX8_street_109 rfl rfl ?_
      refine v_iconst dX8_street_110 (by decide) ?_
      refine v_putI dX8_street_111 fpX8_186 rfl rfl rfl ?_
      refine v_aload_n dX8_street_114 rfl rfl ?_
      refine v_callVv [] dX8_street_115 lX8_201 kvX8_settle (plX8 _ _) rfl rfl rfl rfl rfl rfl rfl rfl rfl rfl (c_X8_settleC (w0 := w0) hst0 (DrC_St hDD.1 hIS) hLV (hCS (by omega)) hEC (fun mf f1 f2 => ?_))
      refine v_aload_n dX8_street_118 rfl rfl ?_
      refine v_getI dX8_street_119 fX8_180 rfl rfl rfl ?_
      rw [f1 50 10 (by omega) (by omega), z7]
      refine v_ireturn dX8_street_122 rfl ?_
      exact h4 q1 q2 q3 mf (fun o i z1 z2 => by rw [f1 o i (by omega) (by omega), mset_off (by omega)]; exact c1 o i z1 z2) f2
    · refine v_aload_n dX8_street_61 rfl rfl ?_
      refine v_getR dX8_street_62 fX8_32 rfl rfl rfl ?_
      refine v_iload_n dX8_street_65 rfl rfl ?_
      refine v_aload_n dX8_street_66 rfl rfl ?_
      refine v_getR dX8_street_67 fX8_41 rfl rfl rfl ?_
      refine v_iload_n dX8_street_70 rfl rfl ?_
      refine v_iald dX8_street_71 rfl (by omega) (by omega) ?_
      refine v_iast dX8_street_72 rfl (by omega) (by omega) ?_
      refine v_aload_n dX8_street_73 rfl rfl ?_
      refine v_getR dX8_street_74 fX8_35 rfl rfl rfl ?_
      refine v_iload_n dX8_street_77 rfl rfl ?_
      refine v_aload_n dX8_street_78 rfl rfl ?_
      refine v_getR dX8_street_79 fX8_44 rfl rfl rfl ?_
      refine v_iload_n dX8_street_82 rfl rfl ?_
      refine v_iald dX8_street_83 rfl (by omega) (by omega) ?_
      refine v_iast dX8_street_84 rfl (by omega) (by omega) ?_
      refine v_iload_n dX8_street_85 rfl rfl ?_
      refine v_bipush dX8_street_86 (by decide) ?_
      refine v_icmp_ge (tgt := 103) dX8_street_88 (by decide) (fun hc_88 => ?_) (fun hc_88 => ?_)
      · refine v_iinc (ls' := [_, _, _]) dX8_street_103 rfl (fun hi_103 => by omega) rfl rfl ?_
        refine v_goto (tgt := 55) dX8_street_106 (by decide) ?_
        first
          | (refine ih (by omega) _ (fun o i z1 z2 => by rw [mset_off (by omega), mset_off (by omega)]; exact c1 o i z1 z2) (fun o i z => by rw [mset_off (by omega), mset_off (by omega)]; exact c2 o i z) (by rw [mset_off (by omega), mset_off (by omega)]; exact c3) (by rw [mset_off (by omega), mset_off (by omega)]; exact c4) (fun i hi => ?_)
             rw [mset_off (by omega) (a := 62)]
             by_cases ei : i = k.toNat
             · subst ei
               rw [mset_off (by omega) (a := 58), mset_same, mset_same, c2 61 _ (by omega), c2 62 _ (by omega)]
               exact ⟨rfl, rfl, fun z => by omega⟩
             · rw [mset_off (by omega), mset_off (by omega), mset_off (by omega), mset_off (by omega), mset_off (by omega), mset_off (by omega)]
               exact c5 i (by omega))
          | (refine ih (by omega) _ (fun o i z1 z2 => by rw [mset_off (by omega), mset_off (by omega), mset_off (by omega)]; exact c1 o i z1 z2) (fun o i z => by rw [mset_off (by omega), mset_off (by omega), mset_off (by omega)]; exact c2 o i z) (by rw [mset_off (by omega), mset_off (by omega), mset_off (by omega)]; exact c3) (by rw [mset_off (by omega), mset_off (by omega), mset_off (by omega)]; exact c4) (fun i hi => ?_)
             rw [mset_off (by omega) (a := 62), mset_off (by omega) (a := 60), mset_off (by omega) (a := 60)]
             by_cases ei : i = k.toNat
             · subst ei
               rw [mset_off (by omega) (a := 58), mset_off (by omega) (a := 58), mset_same, mset_off (by omega) (a := 59), mset_same, mset_same, c2 61 _ (by omega), c2 62 _ (by omega), c2 60 _ (by omega)]
               exact ⟨rfl, rfl, fun _ => rfl⟩
             · rw [mset_off (by omega), mset_off (by omega), mset_off (by omega), mset_off (by omega), mset_off (by omega), mset_off (by omega), mset_off (by omega), mset_off (by omega), mset_off (by omega)]
               exact c5 i (by omega))
      · refine v_aload_n dX8_street_91 rfl rfl ?_
        refine v_getR dX8_street_92 fX8_29 rfl rfl rfl ?_
        refine v_iload_n dX8_street_95 rfl rfl ?_
        refine v_aload_n dX8_street_96 rfl rfl ?_
        refine v_getR dX8_street_97 fX8_38 rfl rfl rfl ?_
        refine v_iload_n dX8_street_100 rfl rfl ?_
        refine v_iald dX8_street_101 rfl (by omega) (by omega) ?_
        refine v_iast dX8_street_102 rfl (by omega) (by omega) ?_
        refine v_iinc (ls' := [_, _, _]) dX8_street_103 rfl (fun hi_103 => by omega) rfl rfl ?_
        refine v_goto (tgt := 55) dX8_street_106 (by decide) ?_
        first
          | (refine ih (by omega) _ (fun o i z1 z2 => by rw [mset_off (by omega), mset_off (by omega)]; exact c1 o i z1 z2) (fun o i z => by rw [mset_off (by omega), mset_off (by omega)]; exact c2 o i z) (by rw [mset_off (by omega), mset_off (by omega)]; exact c3) (by rw [mset_off (by omega), mset_off (by omega)]; exact c4) (fun i hi => ?_)
             rw [mset_off (by omega) (a := 62)]
             by_cases ei : i = k.toNat
             · subst ei
               rw [mset_off (by omega) (a := 58), mset_same, mset_same, c2 61 _ (by omega), c2 62 _ (by omega)]
               exact ⟨rfl, rfl, fun z => by omega⟩
             · rw [mset_off (by omega), mset_off (by omega), mset_off (by omega), mset_off (by omega), mset_off (by omega), mset_off (by omega)]
               exact c5 i (by omega))
          | (refine ih (by omega) _ (fun o i z1 z2 => by rw [mset_off (by omega), mset_off (by omega), mset_off (by omega)]; exact c1 o i z1 z2) (fun o i z => by rw [mset_off (by omega), mset_off (by omega), mset_off (by omega)]; exact c2 o i z) (by rw [mset_off (by omega), mset_off (by omega), mset_off (by omega)]; exact c3) (by rw [mset_off (by omega), mset_off (by omega), mset_off (by omega)]; exact c4) (fun i hi => ?_)
             rw [mset_off (by omega) (a := 62), mset_off (by omega) (a := 60), mset_off (by omega) (a := 60)]
             by_cases ei : i = k.toNat
             · subst ei
               rw [mset_off (by omega) (a := 58), mset_off (by omega) (a := 58), mset_same, mset_off (by omega) (a := 59), mset_same, mset_same, c2 61 _ (by omega), c2 62 _ (by omega), c2 60 _ (by omega)]
               exact ⟨rfl, rfl, fun _ => rfl⟩
             · rw [mset_off (by omega), mset_off (by omega), mset_off (by omega), mset_off (by omega), mset_off (by omega), mset_off (by omega), mset_off (by omega), mset_off (by omega), mset_off (by omega)]
               exact c5 i (by omega))
  have go37 : (0 ≤ r ∧ r < 4) → 0 ≤ w 5 r.toNat → S.1 = -9 → ∀ m1 : Mem_, frM μ m1 → DmC m1 S.2 → V_ nX8_street 37 [R_ 50, I_ r, U_] [] m1 Q := by
    intro q1 q2 q3 m1 f1 f2
    have g1 := f2.1.1
    have g2 := f2.2.1.1
    refine v_aload_n dX8_street_37 rfl rfl ?_
    refine v_aload_n dX8_street_38 rfl rfl ?_
    refine v_getI dX8_street_39 fX8_149 rfl rfl rfl ?_
    rw [g1]
    refine v_putI dX8_street_42 fpX8_180 rfl rfl rfl ?_
    refine v_aload_n dX8_street_45 rfl rfl ?_
    refine v_aload_n dX8_street_46 rfl rfl ?_
    refine v_getI dX8_street_47 fX8_156 rfl rfl rfl ?_
    rw [mset_off (by omega), g2]
    refine v_putI dX8_street_50 fpX8_183 rfl rfl rfl ?_
    refine v_iconst dX8_street_53 (by decide) ?_
    refine v_istore_n (ls' := [_, _, _]) dX8_street_54 rfl rfl rfl rfl ?_
    exact lp q1 q2 q3 m1 f1 f2 0 (by omega) (by omega) _ (fun o i z1 z2 => by rw [mset_off (by omega), mset_off (by omega)]; exact f1 o i (by omega) (by omega)) (fun o i z => by rw [mset_off (by omega), mset_off (by omega)]) (by rw [mset_off (by omega), mset_same]) (mset_same _ _ _ _) (fun i hi => by omega)
  refine v_iload_n dX8_street_0 rfl rfl ?_
  refine v_callSi [_] dX8_street_1 lX8_137 ksX8_isText (plX8 _ _) (Or.inr rfl) rfl rfl rfl rfl rfl rfl (c_X8_isText ?_)
  refine v_ifb_ne (tgt := 9) dX8_street_4 (by decide) (fun hc_4 => ?_) (fun hc_4 => ?_)
  · refine v_aload_n dX8_street_9 rfl rfl ?_
    refine v_getR dX8_street_10 fX8_22 rfl rfl rfl ?_
    refine v_iload_n dX8_street_13 rfl rfl ?_
    refine v_iald dX8_street_14 rfl (by omega) (by omega) ?_
    rw [e55 (by omega)]
    refine v_if_ge (tgt := 24) dX8_street_15 (by decide) (fun hc_15 => ?_) (fun hc_15 => ?_)
    · refine v_aload_n dX8_street_24 rfl rfl ?_
      refine v_iload_n dX8_street_25 rfl rfl ?_
      refine v_callVi [_] dX8_street_26 lX8_198 kvX8_streetFault (plX8 _ _) (Or.inl rfl) rfl rfl rfl rfl rfl rfl rfl rfl rfl (c_X8_streetFault (TmW hr (by omega) (by omega)) (fun m1 f1 f2 => ?_))
      have eS : gT (txF w r) (tnC w r) (itS (txF w r) (tnC w r)) 0 ([], []) = S := hS
      rw [eS] at f2 ⊢
      refine v_bipush dX8_street_29 (by decide) ?_
      refine v_icmp_eq (tgt := 37) dX8_street_31 (by decide) (fun hc_31 => ?_) (fun hc_31 => ?_)
      · exact go37 (by omega) (by omega) (by omega) m1 f1 f2
      · refine v_bipush dX8_street_34 (by decide) ?_
        refine v_ireturn dX8_street_36 rfl ?_
        exact h3 (by omega) (by omega) (by omega) m1 (fun o k z1 z2 => f1 o k (by omega) (by omega)) (CP_fr hc (fun k z => f1 50 k (by omega) (by omega)) (fun o k z => f1 o k (by omega) (by omega)))
    · refine v_aload_n dX8_street_18 rfl rfl ?_
      refine v_iconst dX8_street_19 (by decide) ?_
      refine v_callVi [_] dX8_street_20 lX8_126 kvX8_meets (plX8 _ _) (Or.inl rfl) rfl rfl rfl rfl rfl rfl rfl rfl rfl (c_X8_meets (g := 1) rfl (by decide) hf ?_)
      refine v_ireturn dX8_street_23 rfl ?_
      exact h2 (by omega) (by omega)
  · refine v_iconst dX8_street_7 (by decide) ?_
    refine v_ireturn dX8_street_8 rfl ?_
    exact h1 (by omega)
/-- a log as it stands with more behind it -/
def WYr (w w0 : Mem_) (l : EvL) : Prop := (∀ o i, o = 0 ∨ (42 ≤ o ∧ o ≤ 49) → w0 o i = w o i) ∧ w0 7 0 = w 7 0 + l.length ∧ (∀ e : Nat, (e : Int) < w 7 0 → w0 8 e = w 8 e ∧ w0 9 e = w 9 e ∧ w0 10 e = w 10 e ∧ w0 11 e = w 11 e) ∧ (∀ k : Nat, k < l.length → w0 8 ((w 7 0).toNat + k) = (l.getD k (0, 0, 0, 0)).1 ∧ w0 9 ((w 7 0).toNat + k) = (l.getD k (0, 0, 0, 0)).2.1 ∧ w0 10 ((w 7 0).toNat + k) = (l.getD k (0, 0, 0, 0)).2.2.1 ∧ w0 11 ((w 7 0).toNat + k) = (l.getD k (0, 0, 0, 0)).2.2.2) ∧ LVc (w (stc w) 0) (w (stc w) 1) w0
set_option maxRecDepth 10000 in
theorem c_X8_year {r : Int} (hw : CW w) (hc : CP μ w) (hr : CR μ w) (hf : fmOK μ) (h1 : ¬ (0 ≤ r ∧ r < 4) → Q (I_ (-1)) μ) (h2 : (0 ≤ r ∧ r < 4) → w 5 r.toNat < 0 → Q (I_ (-3)) (mtC μ 1)) (h3 : (0 ≤ r ∧ r < 4) → 0 ≤ w 5 r.toNat → (yrP w r).1 ≠ -9 → ∀ mz : Mem_, frU μ mz → CP mz w → Q (I_ (-4)) mz)
    (w0 : Mem_) (hW : (0 ≤ r ∧ r < 4) → 0 ≤ w 5 r.toNat → (yrP w r).1 = -9 → WYr w w0 (yrP w r).2.1) (h4 : (0 ≤ r ∧ r < 4) → 0 ≤ w 5 r.toNat → (yrP w r).1 = -9 → ∀ mz : Mem_, frU μ mz → CP mz (rpW w0) → Q (I_ ((yrP w r).2.1.length : Int)) mz) : V_ nX8_year 0 [R_ 50, I_ r, U_, U_] [] μ Q := by
  have c1 := hc.1.1
  have s1 := hw.1.2.1
  have s2 := hw.1.2.2.1
  have k1 := hc.2.1.1
  have v1 := hc.2.2.2.1
  have p1 := hw.P.1
  have l1 := hw.2.2.1.1
  have hst := hw.1.1
  have e55 : (0 ≤ r ∧ r < 4) → μ 55 r.toNat = w 5 r.toNat := fun q => (hr.2.1 r.toNat (by omega)).1
  have hOK := yrP_ok (μ := w) (r := r) p1 l1
  have h40 := hOK.2.2.1
  clear hOK
  have hYdef : yrP w r = gT (txF w r) (tnC w r) (itY (txF w r) (tnC w r) (w (stc w) 0) (w (stc w) 1) (w 7 0)) 0 ([], w 17 0) := rfl
  generalize hS : yrP w r = S at *
  have go37 : (0 ≤ r ∧ r < 4) → 0 ≤ w 5 r.toNat → S.1 = -9 → ∀ m1 : Mem_, frE μ m1 → EmC m1 (w 7 0) S.2 → V_ nX8_year 37 [R_ 50, I_ r, U_, U_] [] m1 Q := by
    intro q1 q2 q3 m1 f1 f2
    have hWW := hW q1 q2 q3
    have g24 := f2.1.1
    have g22 : m1 50 22 = w 7 0 := by rw [f1 50 22 (by omega) (by omega)]; exact v1
    have e0 : stc w0 = stc w := by unfold stc; rw [hWW.1 0 9 (by omega)]
    have fin : ∀ mz : Mem_, (∀ o i, o ≠ 63 → ¬ (o = 50 ∧ i = 22) → mz o i = m1 o i) → (∀ x : Nat, (x : Int) < 4 * w 7 0 → mz 63 x = m1 63 x) → (∀ x : Nat, 4 * w 7 0 ≤ (x : Int) → (x : Int) < 4 * (w 7 0 + S.2.1.length) → mz 63 x = m1 64 x) → mz 50 22 = w 7 0 + S.2.1.length → V_ nX8_year 90 [R_ 50, I_ r, I_ (S.2.1.length : Int), U_] [] mz Q := by
      intro mz b1 b2 b3 b4
      have kS : StC w0 (stc w0) := by
        rw [e0]
        unfold StC
        simp only [fun i => hWW.1 (stc w) i (by omega), fun i => hWW.1 (stc w + 1) i (by omega), fun i => hWW.1 (stc w + 2) i (by omega), fun i => hWW.1 (stc w + 3) i (by omega)]
        exact hw.1.2
      have kL : LVc (w0 (stc w0) 0) (w0 (stc w0) 1) w0 := by
        rw [e0, hWW.1 (stc w) 0 (by omega), hWW.1 (stc w) 1 (by omega)]
        exact hWW.2.2.2.2
      have kC : CS mz w0 := by
        unfold CS
        rw [e0, hWW.1 (stc w) 0 (by omega), hWW.1 (stc w) 1 (by omega), b1 50 10 (by omega) (by omega), b1 50 11 (by omega) (by omega), f1 50 10 (by omega) (by omega), f1 50 11 (by omega) (by omega)]
        refine ⟨hc.1.1, fun g hg => ?_, fun p hp => ?_⟩
        · rw [b1 57 g (by omega) (by omega), f1 57 g (by omega) (by omega), hWW.1 (stc w + 1) g (by omega)]; exact hc.1.2.1 g hg
        · rw [b1 58 p (by omega) (by omega), f1 58 p (by omega) (by omega), b1 59 p (by omega) (by omega), f1 59 p (by omega) (by omega), hWW.1 (stc w + 2) p (by omega), hWW.1 (stc w + 3) p (by omega)]; exact hc.1.2.2 p hp
      have kE : evC mz w0 := by
        refine ⟨by rw [b4, hWW.2.1], fun e z0 z1 => ?_⟩
        rw [hWW.2.1] at z1
        by_cases eo : e < w 7 0
        · rw [b2 _ (by omega), b2 _ (by omega), b2 _ (by omega), b2 _ (by omega), f1 63 _ (by omega) (by omega), f1 63 _ (by omega) (by omega), f1 63 _ (by omega) (by omega), f1 63 _ (by omega) (by omega)]
          have h9 := hWW.2.2.1 e.toNat (by omega)
          rw [h9.1, h9.2.1, h9.2.2.1, h9.2.2.2]
          exact hc.2.2.2.2.1 e z0 eo
        · obtain ⟨k, hk⟩ : ∃ k : Nat, e.toNat = (w 7 0).toNat + k := ⟨e.toNat - (w 7 0).toNat, by omega⟩
          have h9 := hWW.2.2.2.1 k (by omega)
          have h10 := f2.2 k (by omega)
          rw [hk, h9.1, h9.2.1, h9.2.2.1, h9.2.2.2, b3 _ (by omega) (by omega), b3 _ (by omega) (by omega), b3 _ (by omega) (by omega), b3 _ (by omega) (by omega), show (4 * e).toNat = 4 * ((w 7 0).toNat + k) by omega, show (4 * e + 1).toNat = 4 * ((w 7 0).toNat + k) + 1 by omega, show (4 * e + 2).toNat = 4 * ((w 7 0).toNat + k) + 2 by omega, show (4 * e + 3).toNat = 4 * ((w 7 0).toNat + k) + 3 by omega]
          exact h10
      refine v_aload_n dX8_year_90 rfl rfl ?_
      refine v_callVv [] dX8_year_91 lX8_201 kvX8_settle (plX8 _ _) rfl rfl rfl rfl rfl rfl rfl rfl rfl rfl (c_X8_settleC (w0 := w0) (by rw [e0]; exact hst) kS kL kC kE (fun mf d1 d2 => ?_))
      refine v_iload_n dX8_year_94 rfl rfl ?_
      refine v_ireturn dX8_year_95 rfl ?_
      exact h4 q1 q2 q3 mf (fun o i z1 z2 => by rw [d1 o i (by omega) (by omega), b1 o i (by omega) (by omega)]; exact f1 o i (by omega) (by omega)) d2
    have lp : ∀ k : Int, 4 * w 7 0 ≤ k → k ≤ 4 * (w 7 0 + S.2.1.length) → ∀ mz : Mem_, (∀ o i, o ≠ 63 → mz o i = m1 o i) → (∀ x : Nat, (x : Int) < 4 * w 7 0 → mz 63 x = m1 63 x) → (∀ x : Nat, 4 * w 7 0 ≤ (x : Int) → (x : Int) < k → mz 63 x = m1 64 x) → V_ nX8_year 54 [R_ 50, I_ r, I_ (S.2.1.length : Int), I_ k] [] mz Q := by
      suffices hh : ∀ (d : Nat) (k : Int), (4 * (w 7 0 + S.2.1.length) - k).toNat = d → 4 * w 7 0 ≤ k → k ≤ 4 * (w 7 0 + S.2.1.length) → ∀ mz : Mem_, (∀ o i, o ≠ 63 → mz o i = m1 o i) → (∀ x : Nat, (x : Int) < 4 * w 7 0 → mz 63 x = m1 63 x) → (∀ x : Nat, 4 * w 7 0 ≤ (x : Int) → (x : Int) < k → mz 63 x = m1 64 x) → V_ nX8_year 54 [R_ 50, I_ r, I_ (S.2.1.length : Int), I_ k] [] mz Q from fun k => hh _ k rfl
      refine loop_dn (fun d => d) (fun d ih => ?_)
      intro k hd k0 k1 mz b1 b2 b3
      have e24 : mz 50 24 = w 7 0 + S.2.1.length := by rw [b1 50 24 (by omega)]; exact g24
      refine v_iload_n dX8_year_54 rfl rfl ?_
      refine v_iconst dX8_year_55 (by decide) ?_
      refine v_aload_n dX8_year_56 rfl rfl ?_
      refine v_getI dX8_year_57 fX8_174 rfl rfl rfl ?_
      rw [e24]
      refine v_imul dX8_year_60 (fun ha hb => by omega) ?_
      refine v_icmp_ge (tgt := 82) dX8_year_61 (by decide) (fun hc_61 => ?_) (fun hc_61 => ?_)
      · refine v_aload_n dX8_year_82 rfl rfl ?_
        refine v_aload_n dX8_year_83 rfl rfl ?_
        refine v_getI dX8_year_84 fX8_174 rfl rfl rfl ?_
        rw [e24]
        refine v_putI dX8_year_87 fpX8_186 rfl rfl rfl ?_
        refine v_kill (ls' := [_, _, _, _]) 3 rfl ?_
        exact fin _ (fun o i z1 z2 => by rw [mset_off (by omega)]; exact b1 o i z1) (fun x hx => by rw [mset_off (by omega)]; exact b2 x hx) (fun x x0 x1 => by rw [mset_off (by omega)]; exact b3 x x0 (by omega)) (mset_same _ _ _ _)
      · refine v_aload_n dX8_year_64 rfl rfl ?_
        refine v_getR dX8_year_65 fX8_47 rfl rfl rfl ?_
        refine v_iload_n dX8_year_68 rfl rfl ?_
        refine v_aload_n dX8_year_69 rfl rfl ?_
        refine v_getR dX8_year_70 fX8_50 rfl rfl rfl ?_
        refine v_iload_n dX8_year_73 rfl rfl ?_
        refine v_iald dX8_year_74 rfl (by omega) (by omega) ?_
        refine v_iast dX8_year_75 rfl (by omega) (by omega) ?_
        refine v_iinc (ls' := [_, _, _, _]) dX8_year_76 rfl (fun hi_76 => by omega) rfl rfl ?_
        refine v_goto (tgt := 54) dX8_year_79 (by decide) ?_
        refine ih _ (by omega) (k + 1) rfl (by omega) (by omega) _ (fun o i z => by rw [mset_off (by omega)]; exact b1 o i z) (fun x hx => by rw [mset_off (by omega)]; exact b2 x hx) (fun x x0 x1 => ?_)
        by_cases ex : x = k.toNat
        · rw [ex, mset_same]; exact b1 64 _ (by omega)
        · rw [mset_off (by omega)]; exact b3 x x0 (by omega)
    refine v_aload_n dX8_year_37 rfl rfl ?_
    refine v_getI dX8_year_38 fX8_174 rfl rfl rfl ?_
    rw [g24]
    refine v_aload_n dX8_year_41 rfl rfl ?_
    refine v_getI dX8_year_42 fX8_186 rfl rfl rfl ?_
    rw [g22]
    refine v_isub dX8_year_45 (fun ha hb => by omega) ?_
    refine v_istore_n (ls' := [_, _, _, _]) dX8_year_46 rfl rfl rfl rfl ?_
    refine v_iconst dX8_year_47 (by decide) ?_
    refine v_aload_n dX8_year_48 rfl rfl ?_
    refine v_getI dX8_year_49 fX8_186 rfl rfl rfl ?_
    rw [g22]
    refine v_imul dX8_year_52 (fun ha hb => by omega) ?_
    refine v_istore_n (ls' := [_, _, _, _]) dX8_year_53 rfl rfl rfl rfl ?_
    rw [show w 7 0 + (S.2.1.length : Int) - w 7 0 = (S.2.1.length : Int) by omega]
    exact lp _ (by omega) (by omega) m1 (fun _ _ _ => rfl) (fun _ _ => rfl) (fun x x0 x1 => by omega)
  refine v_iload_n dX8_year_0 rfl rfl ?_
  refine v_callSi [_] dX8_year_1 lX8_137 ksX8_isText (plX8 _ _) (Or.inr rfl) rfl rfl rfl rfl rfl rfl (c_X8_isText ?_)
  refine v_ifb_ne (tgt := 9) dX8_year_4 (by decide) (fun hc_4 => ?_) (fun hc_4 => ?_)
  · refine v_aload_n dX8_year_9 rfl rfl ?_
    refine v_getR dX8_year_10 fX8_22 rfl rfl rfl ?_
    refine v_iload_n dX8_year_13 rfl rfl ?_
    refine v_iald dX8_year_14 rfl (by omega) (by omega) ?_
    rw [e55 (by omega)]
    refine v_if_ge (tgt := 24) dX8_year_15 (by decide) (fun hc_15 => ?_) (fun hc_15 => ?_)
    · refine v_aload_n dX8_year_24 rfl rfl ?_
      refine v_iload_n dX8_year_25 rfl rfl ?_
      refine v_callVi [_] dX8_year_26 lX8_195 kvX8_yearFault (plX8 _ _) (Or.inl rfl) rfl rfl rfl rfl rfl rfl rfl rfl rfl (c_X8_yearFault (TmW hr (by omega) (by omega)) (by omega) (by omega) (by omega) (by omega) itY_bd (fun m1 f1 f2 => ?_))
      rw [c1.1, c1.2, v1, k1, ← hYdef] at f2 ⊢
      refine v_bipush dX8_year_29 (by decide) ?_
      refine v_icmp_eq (tgt := 37) dX8_year_31 (by decide) (fun hc_31 => ?_) (fun hc_31 => ?_)
      · exact go37 (by omega) (by omega) (by omega) m1 f1 f2
      · refine v_bipush dX8_year_34 (by decide) ?_
        refine v_ireturn dX8_year_36 rfl ?_
        exact h3 (by omega) (by omega) (by omega) m1 (fun o k z1 z2 => f1 o k (by omega) (by omega)) (CP_fr hc (fun k z => f1 50 k (by omega) (by omega)) (fun o k z => f1 o k (by omega) (by omega)))
    · refine v_aload_n dX8_year_18 rfl rfl ?_
      refine v_iconst dX8_year_19 (by decide) ?_
      refine v_callVi [_] dX8_year_20 lX8_126 kvX8_meets (plX8 _ _) (Or.inl rfl) rfl rfl rfl rfl rfl rfl rfl rfl rfl (c_X8_meets (g := 1) rfl (by decide) hf ?_)
      refine v_ireturn dX8_year_23 rfl ?_
      exact h2 (by omega) (by omega)
  · refine v_iconst dX8_year_7 (by decide) ?_
    refine v_ireturn dX8_year_8 rfl ?_
    exact h1 (by omega)
end
