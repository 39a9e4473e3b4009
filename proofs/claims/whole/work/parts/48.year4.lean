/-! a year taken -/
theorem adR_old {μ : Mem_} {j : Nat} (h0 : 0 ≤ μ 7 0) {o i : Nat} (ho : o = 8 ∨ o = 9 ∨ o = 10 ∨ o = 11) (hi : (i : Int) < μ 7 0) : adR j μ o i = μ o i := by
  induction j with
  | zero => rfl
  | succ j ih =>
    rw [adR, addC_7_old (by rw [adR_sz]; omega) (by omega)]
    exact ih
theorem adR_LV {nH nP keys : Int} {μ : Mem_} {l : EvL} (hl : LVc nH nP μ) (hk : keys = kbC μ (μ 7 0).toNat) (hL : LgC μ l) (hv : evsOK nH nP keys l) (h40 : μ 7 0 + l.length ≤ 40) : ∀ j : Nat, j ≤ l.length → LVc nH nP (adR j μ) ∧ kbC (adR j μ) ((μ 7 0).toNat + j) = keys + mkN (l.take j) := by
  have h7 := hl.1.1
  intro j
  induction j with
  | zero =>
    intro _
    refine ⟨hl, ?_⟩
    rw [List.take_zero, mkN, hk, adR, Nat.add_zero]
    omega
  | succ j ih =>
    intro hj
    obtain ⟨i1, i2⟩ := ih (by omega)
    obtain ⟨e1, e2, e3, e4⟩ := hL.2 j (by omega)
    have z : (adR j μ 7 0).toNat = (μ 7 0).toNat + j := by rw [adR_sz]; omega
    have hv2 := hv j (by omega)
    refine ⟨?_, ?_⟩
    · rw [adR]
      refine LVc_add i1 (by rw [adR_sz]; omega) ?_
      rw [z, i2, e1, e2, e3, e4]
      exact hv2
    · rw [← Nat.add_assoc, kbC_s]
      have c1 : kbC (adR (j + 1) μ) ((μ 7 0).toNat + j) = kbC (adR j μ) ((μ 7 0).toNat + j) := kbC_congr (fun i hi => by rw [adR]; exact addC_7_old (by omega) (by omega))
      have c2 : adR (j + 1) μ 8 ((μ 7 0).toNat + j) = μ 13 j := by
        rw [adR, ← z]
        exact addC_7_new.1
      rw [c1, i2, c2, e1]
      have c3 : l.take (j + 1) = l.take j ++ [l.getD j (0, 0, 0, 0)] := by
        rw [List.take_succ, List.getD_eq_getElem?_getD]
        rw [List.getElem?_eq_getElem (by omega)]
        rfl
      rw [c3, mkN_app]
      omega
section
variable {μ : Mem_} {Q : PV → Mem_ → Prop}
set_option maxRecDepth 10000 in
theorem c_X7_year {r : Int} (hc : fcOK μ) (hk : ok_4 μ) (hb : byOK μ) (hst : isSt (stc μ)) (hs : StC μ (stc μ)) (hl : LVc (μ (stc μ) 0) (μ (stc μ) 1) μ) (hK : μ 17 0 = kbC μ (μ 7 0).toNat) (h17 : 0 ≤ μ 17 0 ∧ μ 17 0 ≤ 24) (h12 : 0 ≤ μ 12 0) (h1 : ¬ (0 ≤ r ∧ r < 4) → Q (I_ (-1)) μ) (h2 : (0 ≤ r ∧ r < 4) → ¬ 0 ≤ sz_4 μ r → Q (I_ (-3)) (fdC μ 1)) (h3 : (0 ≤ r ∧ r < 4) → 0 ≤ sz_4 μ r → (yrP μ r).1 ≠ -9 → ∀ m : Mem_, frF 12 16 μ m → LgC m (yrP μ r).2.1 → Q (I_ (-4)) m) (h4 : (0 ≤ r ∧ r < 4) → 0 ≤ sz_4 μ r → (yrP μ r).1 = -9 → ∀ m m' : Mem_, frF 12 16 μ m → LgC m (yrP μ r).2.1 → LVc (μ (stc μ) 0) (μ (stc μ) 1) (adR (yrP μ r).2.1.length m) → (∀ o, o ≠ 25 → ∀ i, m' o i = rpC ((μ 7 0).toNat + (yrP μ r).2.1.length) (rsC (adR (yrP μ r).2.1.length m)) o i) → ReOK m' → Q (I_ ((yrP μ r).2.1.length : Int)) m') : V_ nX7_year 0 [R_ 0, I_ r, U_] [] μ Q := by
  have h7 := hl.1
  have ok := yrP_ok (r := r) h17 h7
  have hs1 := hs.1
  have hs2 := hs.2.1
  refine v_aload_n dX7_year_0 rfl rfl ?_
  refine v_aload_n dX7_year_1 rfl rfl ?_
  refine v_getR dX7_year_2 fX7_18 rfl rfl rfl ?_
  refine v_iload_n dX7_year_5 rfl rfl ?_
  refine v_callVi [_, _] dX7_year_6 lX7_107 kvX7_refusalOf (plX7 _ _) (Or.inl rfl) rfl rfl rfl rfl rfl rfl rfl rfl rfl (c_X7_refusalOf_4 hc ?_ ?_ ?_)
  · intro q1
    refine v_istore_n (ls' := [_, _, _]) dX7_year_9 rfl rfl rfl rfl ?_
    refine v_iload_n dX7_year_10 rfl rfl ?_
    refine v_if_eq (tgt := 16) dX7_year_11 (by decide) (fun q => absurd q (by decide)) (fun _ => ?_)
    refine v_iload_n dX7_year_14 rfl rfl ?_
    refine v_ireturn dX7_year_15 rfl ?_
    exact h1 q1
  · intro q1 q2
    refine v_istore_n (ls' := [_, _, _]) dX7_year_9 rfl rfl rfl rfl ?_
    refine v_iload_n dX7_year_10 rfl rfl ?_
    refine v_if_eq (tgt := 16) dX7_year_11 (by decide) (fun _ => ?_) (fun q => absurd (by decide) q)
    refine v_aload_n dX7_year_16 rfl rfl ?_
    refine v_iload_n dX7_year_17 rfl rfl ?_
    refine v_callVi [_] dX7_year_18 lX7_140 kvX7_faultOfYear (plX7 _ _) (Or.inl rfl) rfl rfl rfl rfl rfl rfl rfl rfl rfl (c_X7_faultOfYear hk hb q1 q2 hst h17 h7 h12 (fun m a1 a2 => ?_))
    have e7 : m 7 0 = μ 7 0 := a1 7 0 (by omega) (by omega) (by omega)
    have e12 := a2.1.1
    have o3 := ok.2.2.1
    have hlm : LVc (μ (stc μ) 0) (μ (stc μ) 1) m := by
      refine ⟨by omega, fun e he => ?_⟩
      rw [kbC_congr (μ := μ) (fun i _ => a1 8 i (by omega) (by omega) (by omega)), a1 8 e (by omega) (by omega) (by omega), a1 9 e (by omega) (by omega) (by omega), a1 10 e (by omega) (by omega) (by omega), a1 11 e (by omega) (by omega) (by omega)]
      exact hl.2 e (by omega)
    have hKm : μ 17 0 = kbC m (m 7 0).toNat := by
      rw [e7, kbC_congr (μ := μ) (fun i _ => a1 8 i (by omega) (by omega) (by omega))]
      exact hK
    have hA := (adR_LV hlm hKm a2 ok.2.2.2 (by omega) _ (Nat.le_refl _)).1
    refine v_bipush dX7_year_21 (by decide) ?_
    refine v_icmp_eq (tgt := 29) dX7_year_23 (by decide) (fun hc_23 => ?_) (fun hc_23 => ?_)
    · refine v_aload_n dX7_year_29 rfl rfl ?_
      refine v_getR dX7_year_30 fX7_24 rfl rfl rfl ?_
      refine v_aload_n dX7_year_33 rfl rfl ?_
      refine v_getR dX7_year_34 fX7_28 rfl rfl rfl ?_
      refine v_callVv [_] dX7_year_37 lX7_156 kvX0_addAll (plX0 _ _) rfl rfl rfl rfl rfl rfl rfl rfl rfl rfl (c_X0_addAll (by omega) (by omega) (by omega) ?_)
      rw [e12, Int.toNat_natCast]
      have z7 : (adR (yrP μ r).2.1.length m 7 0).toNat = (μ 7 0).toNat + (yrP μ r).2.1.length := by rw [adR_sz]; omega
      refine v_aload_n dX7_year_40 rfl rfl ?_
      refine v_getR dX7_year_41 fX7_34 rfl rfl rfl ?_
      refine v_aload_n dX7_year_44 rfl rfl ?_
      refine v_getR dX7_year_45 fX7_24 rfl rfl rfl ?_
      refine v_callVv [_] dX7_year_48 lX7_149 kvX2_replay (plX2 _ _) rfl rfl rfl rfl rfl rfl rfl rfl rfl rfl (c_X2_replay hs1.2 hs2.2 hA (fun m' b1 b2 => ?_))
      rw [z7] at b1
      have e9 : m' 12 0 = ((yrP μ r).2.1.length : Int) := by
        rw [b1 12 (by omega), rpC_off (by omega), rsC_off (by omega), adR_off (by omega)]
        exact e12
      refine v_aload_n dX7_year_51 rfl rfl ?_
      refine v_getR dX7_year_52 fX7_28 rfl rfl rfl ?_
      refine v_getI dX7_year_55 fX7_159 rfl rfl rfl ?_
      refine v_ireturn dX7_year_58 rfl ?_
      rw [e9]
      exact h4 q1 q2 (by omega) m m' a1 a2 hA b1 b2
    · refine v_bipush dX7_year_26 (by decide) ?_
      refine v_ireturn dX7_year_28 rfl ?_
      exact h3 q1 q2 (by omega) m a1 a2
  · intro q1 q2
    refine v_istore_n (ls' := [_, _, _]) dX7_year_9 rfl rfl rfl rfl ?_
    refine v_iload_n dX7_year_10 rfl rfl ?_
    refine v_if_eq (tgt := 16) dX7_year_11 (by decide) (fun q => absurd q (by decide)) (fun _ => ?_)
    refine v_iload_n dX7_year_14 rfl rfl ?_
    refine v_ireturn dX7_year_15 rfl ?_
    exact h2 q1 q2
end
