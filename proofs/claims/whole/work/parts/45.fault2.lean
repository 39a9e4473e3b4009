/-! what is wrong with a text, and a street taken -/
abbrev tnC (μ : Mem_) (r : Int) : Nat := (sz_4 μ r).toNat
def stP (μ : Mem_) (r : Int) : Int × (List Int × List (Int × Int)) := gT (txF μ r) (tnC μ r) (itS (txF μ r) (tnC μ r)) 0 ([], [])
def yrP (μ : Mem_) (r : Int) : Int × (EvL × Int) := gT (txF μ r) (tnC μ r) (itY (txF μ r) (tnC μ r) (μ (stc μ) 0) (μ (stc μ) 1) (μ 7 0)) 0 ([], μ 17 0)
def frF (a : Nat) (b : Nat) (μ m : Mem_) : Prop := ∀ o k, o ≠ 26 → o ≠ 27 → ¬ (a ≤ o ∧ o ≤ b) → m o k = μ o k
section
variable {μ : Mem_} {Q : PV → Mem_ → Prop}
set_option maxRecDepth 10000 in
theorem c_X7_faultOfStreet {r : Int} (hk : ok_4 μ) (hb : byOK μ) (hr : 0 ≤ r ∧ r < 4) (hs : 0 ≤ sz_4 μ r) (hst : isSt (dtc μ)) (h : ∀ m : Mem_, frF (dtc μ) (dtc μ + 3) μ m → DrC m (dtc μ) (stP μ r).2 → Q (I_ (stP μ r).1) m) : V_ nX7_faultOfStreet 0 [R_ 0, I_ r] [] μ Q := by
  refine v_aload_n dX7_faultOfStreet_0 rfl rfl ?_
  refine v_getR dX7_faultOfStreet_1 fX7_41 rfl rfl rfl ?_
  refine v_aload_n dX7_faultOfStreet_4 rfl rfl ?_
  refine v_getR dX7_faultOfStreet_5 fX7_18 rfl rfl rfl ?_
  refine v_iload_n dX7_faultOfStreet_8 rfl rfl ?_
  refine v_callVv [_, _] dX7_faultOfStreet_9 lX7_336 kvX3_begin (plX3 _ _) rfl rfl rfl rfl rfl rfl rfl rfl rfl rfl (c_X3_begin hk hb hr hs (fun m1 a1 a2 a3 a4 => ?_))
  have ed : dtc m1 = dtc μ := by rw [dtc, a1 0 10 (by omega) (by omega)]
  refine v_aload_n dX7_faultOfStreet_12 rfl rfl ?_
  refine v_getR dX7_faultOfStreet_13 fX7_41 rfl rfl rfl ?_
  refine v_aload_n dX7_faultOfStreet_16 rfl rfl ?_
  refine v_getX dX7_faultOfStreet_17 fX7_70 rfl rfl rfl ?_
  show V_ _ _ _ (R_ (dtc _) :: _) _ _
  rw [ed]
  refine v_callVv [_] dX7_faultOfStreet_20 lX7_340 kvX3_readStreet (plX3 _ _) rfl rfl rfl rfl rfl rfl rfl rfl rfl rfl (c_X3_readStreet hst a2 a3 a4 (fun m2 b1 b2 b3 => ?_))
  refine v_aload_n dX7_faultOfStreet_23 rfl rfl ?_
  refine v_getR dX7_faultOfStreet_24 fX7_41 rfl rfl rfl ?_
  refine v_getI dX7_faultOfStreet_27 fX7_344 rfl rfl rfl ?_
  refine v_ireturn dX7_faultOfStreet_30 rfl ?_
  rw [b2]
  refine h m2 (fun o k q1 q2 q3 => ?_) b3
  rw [b1 o k (by omega) q3]
  exact a1 o k q1 q2
set_option maxRecDepth 10000 in
theorem c_X7_faultOfYear {r : Int} (hk : ok_4 μ) (hb : byOK μ) (hr : 0 ≤ r ∧ r < 4) (hs : 0 ≤ sz_4 μ r) (hst : isSt (stc μ)) (h17 : 0 ≤ μ 17 0 ∧ μ 17 0 ≤ 24) (h7 : 0 ≤ μ 7 0 ∧ μ 7 0 ≤ 40) (h12 : 0 ≤ μ 12 0) (h : ∀ m : Mem_, frF 12 16 μ m → LgC m (yrP μ r).2.1 → Q (I_ (yrP μ r).1) m) : V_ nX7_faultOfYear 0 [R_ 0, I_ r] [] μ Q := by
  refine v_aload_n dX7_faultOfYear_0 rfl rfl ?_
  refine v_getR dX7_faultOfYear_1 fX7_41 rfl rfl rfl ?_
  refine v_aload_n dX7_faultOfYear_4 rfl rfl ?_
  refine v_getR dX7_faultOfYear_5 fX7_18 rfl rfl rfl ?_
  refine v_iload_n dX7_faultOfYear_8 rfl rfl ?_
  refine v_callVv [_, _] dX7_faultOfYear_9 lX7_336 kvX3_begin (plX3 _ _) rfl rfl rfl rfl rfl rfl rfl rfl rfl rfl (c_X3_begin hk hb hr hs (fun m1 a1 a2 a3 a4 => ?_))
  have ed : stc m1 = stc μ := by rw [stc, a1 0 9 (by omega) (by omega)]
  have g0 : m1 (stc μ) 0 = μ (stc μ) 0 := a1 _ _ (by omega) (by omega)
  have g1 : m1 (stc μ) 1 = μ (stc μ) 1 := a1 _ _ (by omega) (by omega)
  refine v_aload_n dX7_faultOfYear_12 rfl rfl ?_
  refine v_getR dX7_faultOfYear_13 fX7_41 rfl rfl rfl ?_
  refine v_aload_n dX7_faultOfYear_16 rfl rfl ?_
  refine v_getR dX7_faultOfYear_17 fX7_28 rfl rfl rfl ?_
  refine v_aload_n dX7_faultOfYear_20 rfl rfl ?_
  refine v_getX dX7_faultOfYear_21 fX7_66 rfl rfl rfl ?_
  show V_ _ _ _ (R_ (stc _) :: _) _ _
  rw [ed]
  refine v_aload_n dX7_faultOfYear_24 rfl rfl ?_
  refine v_getR dX7_faultOfYear_25 fX7_34 rfl rfl rfl ?_
  refine v_getI dX7_faultOfYear_28 fX7_168 rfl rfl rfl ?_
  rw [a1 17 0 (by omega) (by omega)]
  refine v_aload_n dX7_faultOfYear_31 rfl rfl ?_
  refine v_getR dX7_faultOfYear_32 fX7_24 rfl rfl rfl ?_
  refine v_getI dX7_faultOfYear_35 fX7_159 rfl rfl rfl ?_
  rw [a1 7 0 (by omega) (by omega)]
  refine v_callVv [_, _, _, _] dX7_faultOfYear_38 lX7_347 kvX3_readYear (plX3 _ _) rfl rfl rfl rfl rfl rfl rfl rfl rfl rfl (c_X3_readYear hst a2 a3 a4 h17 h7 (by rw [a1 12 0 (by omega) (by omega)]; exact h12) (fun m2 b1 b2 b3 => ?_))
  refine v_aload_n dX7_faultOfYear_41 rfl rfl ?_
  refine v_getR dX7_faultOfYear_42 fX7_41 rfl rfl rfl ?_
  refine v_getI dX7_faultOfYear_45 fX7_344 rfl rfl rfl ?_
  refine v_ireturn dX7_faultOfYear_48 rfl ?_
  rw [g0, g1] at b2 b3
  rw [b2]
  refine h m2 (fun o k q1 q2 q3 => ?_) b3
  rw [b1 o k (by omega) q3]
  exact a1 o k q1 q2
end
