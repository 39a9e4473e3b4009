/-! a text laid before the scan, and what is wrong with it -/
def txF (μ : Mem_) (r : Int) (j : Nat) : Int := μ 6 (r * 120 + (j : Int)).toNat
abbrev byOK (μ : Mem_) : Prop := ∀ j : Nat, j < 480 → -128 ≤ μ 6 j ∧ μ 6 j < 128
section
variable {μ : Mem_} {Q : PV → Mem_ → Prop}
set_option maxRecDepth 10000 in
theorem c_X3_begin {r : Int} (hk : ok_4 μ) (hb : byOK μ) (hr : 0 ≤ r ∧ r < 4) (hs : 0 ≤ sz_4 μ r) (h : ∀ m : Mem_, (∀ o k, o ≠ 26 → o ≠ 27 → m o k = μ o k) → TxC (txF μ r) (sz_4 μ r).toNat m → m 26 2 = 0 → m 26 3 = -9 → Q U_ m) : V_ nX3_begin 0 [R_ 26, R_ 4, I_ r, U_] [] μ Q := by
  have hz := szb_4 hk r
  have e0 : min 120 (max 0 (sz_4 μ r)) = sz_4 μ r := by omega
  have lp : ∀ k : Int, 0 ≤ k → k ≤ sz_4 μ r → ∀ m : Mem_, (∀ o k, o ≠ 26 → o ≠ 27 → m o k = μ o k) → m 26 1 = sz_4 μ r → (∀ j : Nat, (j : Int) < k → m 27 j = txF μ r j) → V_ nX3_begin 20 [R_ 26, R_ 4, I_ r, I_ k] [] m Q := by
    refine loop_up _ (fun k h0 h1 ih => ?_)
    intro m a1 a2 a3
    have z1 : sz_4 m r = sz_4 μ r := by
      unfold sz_4 szf
      rw [a1 5 _ (by omega) (by omega)]
    have k1 : ok_4 m := fun j hj => by rw [a1 5 j (by omega) (by omega)]; exact hk j hj
    refine v_iload_n dX3_begin_20 rfl rfl ?_
    refine v_aload_n dX3_begin_21 rfl rfl ?_
    refine v_getI dX3_begin_22 fX3_34 rfl rfl rfl ?_
    refine v_icmp_ge (tgt := 46) dX3_begin_25 (by decide) (fun hc_25 => ?_) (fun hc_25 => ?_)
    · refine v_aload_n dX3_begin_46 rfl rfl ?_
      refine v_iconst dX3_begin_47 (by decide) ?_
      refine v_putI dX3_begin_48 fpX3_40 rfl rfl rfl ?_
      refine v_aload_n dX3_begin_51 rfl rfl ?_
      refine v_bipush dX3_begin_52 (by decide) ?_
      refine v_putI dX3_begin_54 fpX3_15 rfl rfl rfl ?_
      refine v_return dX3_begin_57 rfl ?_
      refine h _ (fun o k q1 q2 => ?_) ⟨by omega, ?_, fun j hj => ⟨?_, ?_⟩⟩ ?_ ?_
      · rw [mset_off (by omega), mset_off (by omega)]; exact a1 o k q1 q2
      · rw [mset_off (by omega), mset_off (by omega), a2]; omega
      · rw [mset_off (by omega), mset_off (by omega)]; exact a3 j (by omega)
      · exact hb _ (by omega)
      · rw [mset_off (by omega), mset_same]
      · rw [mset_same]
    · refine v_aload_n dX3_begin_28 rfl rfl ?_
      refine v_getR dX3_begin_29 fX3_9 rfl rfl rfl ?_
      refine v_iload_n dX3_begin_32 rfl rfl ?_
      refine v_aload_n dX3_begin_33 rfl rfl ?_
      refine v_iload_n dX3_begin_34 rfl rfl ?_
      refine v_iload_n dX3_begin_35 rfl rfl ?_
      refine v_callVi [_, _] dX3_begin_36 lX3_37 kvX4_get (plX4 _ _) (Or.inl rfl) rfl rfl rfl rfl rfl rfl rfl rfl rfl (c_X4_get_4 k1 ?_)
      refine v_iast dX3_begin_39 rfl (by omega) (by omega) ?_
      refine v_iinc (ls' := [_, _, _, _]) dX3_begin_40 rfl (fun hi_40 => by omega) rfl rfl ?_
      refine v_goto (tgt := 20) dX3_begin_43 (by decide) ?_
      refine ih (by omega) _ (fun o k q1 q2 => ?_) ?_ (fun j hj => ?_)
      · rw [mset_off (by omega)]; exact a1 o k q1 q2
      · rw [mset_off (by omega)]; exact a2
      · by_cases e : (j : Int) = k
        · have e : k.toNat = j := by omega
          rw [e, mset_same]
          unfold get_4
          rw [z1, if_pos (by omega), a1 6 _ (by omega) (by omega)]
          unfold txF
          rw [show k = (j : Int) by omega]
        · rw [mset_off (by omega)]; exact a3 j (by omega)
  refine v_aload_n dX3_begin_0 rfl rfl ?_
  refine v_bipush dX3_begin_1 (by decide) ?_
  refine v_iconst dX3_begin_3 (by decide) ?_
  refine v_aload_n dX3_begin_4 rfl rfl ?_
  refine v_iload_n dX3_begin_5 rfl rfl ?_
  refine v_callVi [_] dX3_begin_6 lX3_19 kvX4_sizeOf (plX4 _ _) (Or.inl rfl) rfl rfl rfl rfl rfl rfl rfl rfl rfl (c_X4_sizeOf_4 ?_)
  refine v_callSi [_, _] dX3_begin_9 lX3_25 ksJ9_max_7cf53 plJ9a (Or.inl rfl) rfl rfl rfl rfl rfl rfl (c_J9_max ?_)
  refine v_callSi [_, _] dX3_begin_12 lX3_31 ksJ9_min_7cf53 plJ9i (Or.inl rfl) rfl rfl rfl rfl rfl rfl (c_J9_min ?_)
  rw [e0]
  refine v_putI dX3_begin_15 fpX3_34 rfl rfl rfl ?_
  refine v_iconst dX3_begin_18 (by decide) ?_
  refine v_istore_n (ls' := [_, _, _, _]) dX3_begin_19 rfl rfl rfl rfl ?_
  exact lp 0 (by omega) (by omega) _ (fun o k q1 q2 => mset_off (by omega)) (by rw [mset_same]) (fun j hj => absurd hj (by omega))
end
