/-! a text's fault told, a street taken -/
def stN (a b : Nat) (m : Mem_) : Mem_ := mset (mset (mset m 0 9 (b : Int)) 0 10 (a : Int)) 7 0 0
section
variable {μ : Mem_} {Q : PV → Mem_ → Prop}
set_option maxRecDepth 10000 in
theorem c_X7_fault {r w : Int} (hc : fcOK μ) (hk : ok_4 μ) (hb : byOK μ) (hsc : isSt (stc μ)) (hst : isSt (dtc μ)) (h17 : 0 ≤ μ 17 0 ∧ μ 17 0 ≤ 24) (h7 : 0 ≤ μ 7 0 ∧ μ 7 0 ≤ 40) (h12 : 0 ≤ μ 12 0) (h1 : ¬ (0 ≤ r ∧ r < 4) → Q (I_ (-1)) μ) (h2 : (0 ≤ r ∧ r < 4) → ¬ 0 ≤ sz_4 μ r → Q (I_ (-3)) (fdC μ 1)) (h3 : (0 ≤ r ∧ r < 4) → 0 ≤ sz_4 μ r → w = 0 → ∀ m : Mem_, frF (dtc μ) (dtc μ + 3) μ m → DrC m (dtc μ) (stP μ r).2 → Q (I_ (stP μ r).1) m) (h4 : (0 ≤ r ∧ r < 4) → 0 ≤ sz_4 μ r → w ≠ 0 → ∀ m : Mem_, frF 12 16 μ m → LgC m (yrP μ r).2.1 → Q (I_ (yrP μ r).1) m) : V_ nX7_fault 0 [R_ 0, I_ r, I_ w, U_] [] μ Q := by
  refine v_aload_n dX7_fault_0 rfl rfl ?_
  refine v_aload_n dX7_fault_1 rfl rfl ?_
  refine v_getR dX7_fault_2 fX7_18 rfl rfl rfl ?_
  refine v_iload_n dX7_fault_5 rfl rfl ?_
  refine v_callVi [_, _] dX7_fault_6 lX7_107 kvX7_refusalOf (plX7 _ _) (Or.inl rfl) rfl rfl rfl rfl rfl rfl rfl rfl rfl (c_X7_refusalOf_4 hc ?_ ?_ ?_)
  · intro q1
    refine v_istore_n (ls' := [_, _, _, _]) dX7_fault_9 rfl rfl rfl rfl ?_
    refine v_iload_n dX7_fault_10 rfl rfl ?_
    refine v_if_eq (tgt := 16) dX7_fault_11 (by decide) (fun q => absurd q (by decide)) (fun _ => ?_)
    refine v_iload_n dX7_fault_14 rfl rfl ?_
    refine v_ireturn dX7_fault_15 rfl ?_
    exact h1 q1
  · intro q1 q2
    refine v_istore_n (ls' := [_, _, _, _]) dX7_fault_9 rfl rfl rfl rfl ?_
    refine v_iload_n dX7_fault_10 rfl rfl ?_
    refine v_if_eq (tgt := 16) dX7_fault_11 (by decide) (fun _ => ?_) (fun q => absurd (by decide) q)
    refine v_iload_n dX7_fault_16 rfl rfl ?_
    refine v_if_eq (tgt := 28) dX7_fault_17 (by decide) (fun hc_17 => ?_) (fun hc_17 => ?_)
    · refine v_aload_n dX7_fault_28 rfl rfl ?_
      refine v_iload_n dX7_fault_29 rfl rfl ?_
      refine v_callVi [_] dX7_fault_30 lX7_143 kvX7_faultOfStreet (plX7 _ _) (Or.inl rfl) rfl rfl rfl rfl rfl rfl rfl rfl rfl (c_X7_faultOfStreet hk hb q1 q2 hst (fun m a1 a2 => ?_))
      refine v_ireturn dX7_fault_33 rfl ?_
      exact h3 q1 q2 (by omega) m a1 a2
    · refine v_aload_n dX7_fault_20 rfl rfl ?_
      refine v_iload_n dX7_fault_21 rfl rfl ?_
      refine v_callVi [_] dX7_fault_22 lX7_140 kvX7_faultOfYear (plX7 _ _) (Or.inl rfl) rfl rfl rfl rfl rfl rfl rfl rfl rfl (c_X7_faultOfYear hk hb q1 q2 hsc h17 h7 h12 (fun m a1 a2 => ?_))
      refine v_goto (tgt := 33) dX7_fault_25 (by decide) ?_
      refine v_ireturn dX7_fault_33 rfl ?_
      exact h4 q1 q2 (by omega) m a1 a2
  · intro q1 q2
    refine v_istore_n (ls' := [_, _, _, _]) dX7_fault_9 rfl rfl rfl rfl ?_
    refine v_iload_n dX7_fault_10 rfl rfl ?_
    refine v_if_eq (tgt := 16) dX7_fault_11 (by decide) (fun q => absurd q (by decide)) (fun _ => ?_)
    refine v_iload_n dX7_fault_14 rfl rfl ?_
    refine v_ireturn dX7_fault_15 rfl ?_
    exact h2 q1 q2
set_option maxRecDepth 10000 in
theorem c_X7_street {r : Int} (hc : fcOK μ) (hk : ok_4 μ) (hb : byOK μ) (hsc : isSt (stc μ)) (hst : isSt (dtc μ)) (hne : stc μ ≠ dtc μ) (h7 : 0 ≤ μ 7 0) (h1 : ¬ (0 ≤ r ∧ r < 4) → Q (I_ (-1)) μ) (h2 : (0 ≤ r ∧ r < 4) → ¬ 0 ≤ sz_4 μ r → Q (I_ (-3)) (fdC μ 1)) (h3 : (0 ≤ r ∧ r < 4) → 0 ≤ sz_4 μ r → (stP μ r).1 ≠ -9 → ∀ m : Mem_, frF (dtc μ) (dtc μ + 3) μ m → Q (I_ (-4)) m) (h4 : (0 ≤ r ∧ r < 4) → 0 ≤ sz_4 μ r → (stP μ r).1 = -9 → ∀ m m' : Mem_, frF (dtc μ) (dtc μ + 3) μ m → DrC m (dtc μ) (stP μ r).2 → (∀ o, o ≠ 25 → ∀ i, m' o i = rsC (stN (stc μ) (dtc μ) m) o i) → ReOK m' → Q (I_ ((stP μ r).2.1.length : Int)) m') : V_ nX7_street 0 [R_ 0, I_ r, U_, U_] [] μ Q := by
  refine v_aload_n dX7_street_0 rfl rfl ?_
  refine v_aload_n dX7_street_1 rfl rfl ?_
  refine v_getR dX7_street_2 fX7_18 rfl rfl rfl ?_
  refine v_iload_n dX7_street_5 rfl rfl ?_
  refine v_callVi [_, _] dX7_street_6 lX7_107 kvX7_refusalOf (plX7 _ _) (Or.inl rfl) rfl rfl rfl rfl rfl rfl rfl rfl rfl (c_X7_refusalOf_4 hc ?_ ?_ ?_)
  · intro q1
    refine v_istore_n (ls' := [_, _, _, _]) dX7_street_9 rfl rfl rfl rfl ?_
    refine v_iload_n dX7_street_10 rfl rfl ?_
    refine v_if_eq (tgt := 16) dX7_street_11 (by decide) (fun q => absurd q (by decide)) (fun _ => ?_)
    refine v_iload_n dX7_street_14 rfl rfl ?_
    refine v_ireturn dX7_street_15 rfl ?_
    exact h1 q1
  · intro q1 q2
    refine v_istore_n (ls' := [_, _, _, _]) dX7_street_9 rfl rfl rfl rfl ?_
    refine v_iload_n dX7_street_10 rfl rfl ?_
    refine v_if_eq (tgt := 16) dX7_street_11 (by decide) (fun _ => ?_) (fun q => absurd (by decide) q)
    refine v_aload_n dX7_street_16 rfl rfl ?_
    refine v_iload_n dX7_street_17 rfl rfl ?_
    refine v_callVi [_] dX7_street_18 lX7_143 kvX7_faultOfStreet (plX7 _ _) (Or.inl rfl) rfl rfl rfl rfl rfl rfl rfl rfl rfl (c_X7_faultOfStreet hk hb q1 q2 hst (fun m a1 a2 => ?_))
    have e1 : stc m = stc μ := by rw [stc, a1 0 9 (by omega) (by omega) (by omega)]
    have e2 : dtc m = dtc μ := by rw [dtc, a1 0 10 (by omega) (by omega) (by omega)]
    have e3 : m 7 0 = μ 7 0 := a1 7 0 (by omega) (by omega) (by omega)
    refine v_bipush dX7_street_21 (by decide) ?_
    refine v_icmp_eq (tgt := 29) dX7_street_23 (by decide) (fun hc_23 => ?_) (fun hc_23 => ?_)
    · refine v_aload_n dX7_street_29 rfl rfl ?_
      refine v_getX dX7_street_30 fX7_66 rfl rfl rfl ?_
      show V_ _ _ _ (R_ (stc _) :: _) _ _
      rw [e1]
      refine v_astore_n (ls' := [_, _, _, _]) dX7_street_33 rfl rfl rfl rfl ?_
      refine v_aload_n dX7_street_34 rfl rfl ?_
      refine v_aload_n dX7_street_35 rfl rfl ?_
      refine v_getX dX7_street_36 fX7_70 rfl rfl rfl ?_
      show V_ _ _ _ (R_ (dtc _) :: _) _ _
      rw [e2]
      refine v_putX dX7_street_39 fpX7_66 rfl rfl (by rcases hst with q | q <;> rw [q] <;> rfl) ?_
      refine v_aload_n dX7_street_42 rfl rfl ?_
      refine v_aload_n dX7_street_43 rfl rfl ?_
      refine v_putX dX7_street_44 fpX7_70 rfl rfl (by rcases hsc with q | q <;> rw [q] <;> rfl) ?_
      refine v_aload_n dX7_street_47 rfl rfl ?_
      refine v_getR dX7_street_48 fX7_24 rfl rfl rfl ?_
      refine v_iconst dX7_street_51 (by decide) ?_
      refine v_callVv [_] dX7_street_52 lX7_146 kvX0_cutTo (plX0 _ _) rfl rfl rfl rfl rfl rfl rfl rfl rfl rfl (c_X0_cutTo_7 ?_)
      have e4 : (if 0 ≤ (0 : Int) ∧ (0 : Int) < mset (mset m 0 9 (dtc μ : Int)) 0 10 (stc μ : Int) 7 0 then mset (mset (mset m 0 9 (dtc μ : Int)) 0 10 (stc μ : Int)) 7 0 0 else mset (mset m 0 9 (dtc μ : Int)) 0 10 (stc μ : Int)) = stN (stc μ) (dtc μ) m := by
        unfold stN
        split
        · rfl
        · rename_i q
          rw [mset_off (by omega), mset_off (by omega)] at q
          have z : mset (mset m 0 9 (dtc μ : Int)) 0 10 (stc μ : Int) 7 0 = 0 := by
            rw [mset_off (by omega), mset_off (by omega)]; omega
          conv => lhs; rw [← mset_self (mset (mset m 0 9 (dtc μ : Int)) 0 10 (stc μ : Int)) 7 0, z]
      rw [e4]
      have z7 : stN (stc μ) (dtc μ) m 7 0 = 0 := mset_same _ _ _ _
      refine v_aload_n dX7_street_55 rfl rfl ?_
      refine v_getR dX7_street_56 fX7_34 rfl rfl rfl ?_
      refine v_aload_n dX7_street_59 rfl rfl ?_
      refine v_getR dX7_street_60 fX7_24 rfl rfl rfl ?_
      refine v_callVv [_] dX7_street_63 lX7_149 kvX2_replay (plX2 _ _) rfl rfl rfl rfl rfl rfl rfl rfl rfl rfl (c_X2_replay (nH := 6) (nP := 12) (by omega) (by omega) ⟨by omega, fun e he => by omega⟩ (fun m' b1 b2 => ?_))
      have b1 : ∀ o, o ≠ 25 → ∀ i, m' o i = rsC (stN (stc μ) (dtc μ) m) o i := by
        rw [z7] at b1
        exact b1
      have e5 : stc m' = dtc μ := by
        rw [stc, b1 0 (by omega)]
        unfold rsC stN
        rw [mfill_off (by omega), mfill_off (by omega), mset_off (by omega), mset_off (by omega), mset_off (by omega), mset_same]
        exact Int.toNat_natCast _
      have e6 : m' (dtc μ) 0 = ((stP μ r).2.1.length : Int) := by
        rw [b1 _ (by omega)]
        unfold rsC stN
        rw [mfill_off (by omega), mfill_off (by omega), mset_off (by omega), mset_off (by omega), mset_off (by omega), mset_off (by omega)]
        exact a2.1.1
      refine v_aload_n dX7_street_66 rfl rfl ?_
      refine v_getX dX7_street_67 fX7_66 rfl rfl rfl ?_
      show V_ _ _ _ (R_ (stc _) :: _) _ _
      rw [e5]
      refine v_getI dX7_street_70 fX7_153 (shp_st hst) (fk_st0 hst) rfl ?_
      refine v_ireturn dX7_street_73 rfl ?_
      rw [e6]
      exact h4 q1 q2 (by omega) m m' a1 a2 b1 b2
    · refine v_bipush dX7_street_26 (by decide) ?_
      refine v_ireturn dX7_street_28 rfl ?_
      exact h3 q1 q2 (by omega) m a1
  · intro q1 q2
    refine v_istore_n (ls' := [_, _, _, _]) dX7_street_9 rfl rfl rfl rfl ?_
    refine v_iload_n dX7_street_10 rfl rfl ?_
    refine v_if_eq (tgt := 16) dX7_street_11 (by decide) (fun q => absurd q (by decide)) (fun _ => ?_)
    refine v_iload_n dX7_street_14 rfl rfl ?_
    refine v_ireturn dX7_street_15 rfl ?_
    exact h2 q1 q2
end
