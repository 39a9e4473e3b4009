/-! StreetKeys: rows, texts, what is told -/
def fdC (μ : Mem_) (f : Nat) : Mem_ := mset (mset μ 0 11 (f : Int)) 41 f (μ 41 f + 1)
def tlC (μ : Mem_) (v : Int) : Mem_ := mset μ 0 12 v
abbrev fcOK (μ : Mem_) : Prop := ∀ f : Nat, f < 6 → 0 ≤ μ 41 f ∧ μ 41 f ≤ 1000
section
variable {μ : Mem_} {Q : PV → Mem_ → Prop}
set_option maxRecDepth 10000 in
theorem c_X7_tell {v : Int} (h : Q (I_ 1) (tlC μ v)) : V_ nX7_tell 0 [R_ 0, I_ v] [] μ Q := by
  refine v_aload_n dX7_tell_0 rfl rfl ?_
  refine v_iload_n dX7_tell_1 rfl rfl ?_
  refine v_putI dX7_tell_2 fpX7_77 rfl rfl rfl ?_
  refine v_iconst dX7_tell_5 (by decide) ?_
  refine v_ireturn dX7_tell_6 rfl ?_
  exact h
set_option maxRecDepth 10000 in
theorem c_X7_found {f : Nat} {v : Int} (hv : v = (f : Int)) (hf : f < 6) (hc : fcOK μ) (h : Q (I_ (-3)) (fdC μ f)) : V_ nX7_found 0 [R_ 0, I_ v] [] μ Q := by
  have hb := hc f hf
  have e1 : mset μ 0 11 v 41 v.toNat = μ 41 f := by rw [mset_off (by omega), hv]; rfl
  have e2 : v.toNat = f := by omega
  refine v_aload_n dX7_found_0 rfl rfl ?_
  refine v_iload_n dX7_found_1 rfl rfl ?_
  refine v_putI dX7_found_2 fpX7_73 rfl rfl rfl ?_
  refine v_iload_n dX7_found_5 rfl rfl ?_
  refine v_if_lt (tgt := 28) dX7_found_6 (by decide) (fun hc_6 => ?_) (fun hc_6 => ?_)
  · refine v_bipush dX7_found_28 (by decide) ?_
    refine v_ireturn dX7_found_30 rfl ?_
    omega
  · refine v_iload_n dX7_found_9 rfl rfl ?_
    refine v_aload_n dX7_found_10 rfl rfl ?_
    refine v_getR dX7_found_11 fX7_59 rfl rfl rfl ?_
    refine v_alen dX7_found_14 rfl rfl ?_
    refine v_icmp_ge (tgt := 28) dX7_found_15 (by decide) (fun hc_15 => ?_) (fun hc_15 => ?_)
    · refine v_bipush dX7_found_28 (by decide) ?_
      refine v_ireturn dX7_found_30 rfl ?_
      omega
    · refine v_aload_n dX7_found_18 rfl rfl ?_
      refine v_getR dX7_found_19 fX7_59 rfl rfl rfl ?_
      refine v_iload_n dX7_found_22 rfl rfl ?_
      refine v_dup2 dX7_found_23 ?_
      refine v_iald dX7_found_24 rfl (by omega) (by omega) ?_
      rw [e1]
      refine v_iconst dX7_found_25 (by decide) ?_
      refine v_iadd dX7_found_26 (fun ha hb => by omega) ?_
      refine v_iast dX7_found_27 rfl (by omega) (by omega) ?_
      refine v_bipush dX7_found_28 (by decide) ?_
      refine v_ireturn dX7_found_30 rfl ?_
      rw [e2, hv]
      exact h

set_option maxRecDepth 10000 in
theorem c_X7_refusalOf_1 {r : Int} (hc : fcOK μ) (h1 : ¬ (0 ≤ r ∧ r < 6) → Q (I_ (-1)) μ) (h2 : (0 ≤ r ∧ r < 6) → 0 ≤ sz_1 μ r → Q (I_ 0) μ) (h3 : (0 ≤ r ∧ r < 6) → ¬ 0 ≤ sz_1 μ r → Q (I_ (-3)) (fdC μ 1)) : V_ nX7_refusalOf 0 [R_ 0, R_ 1, I_ r] [] μ Q := by
  refine v_aload_n dX7_refusalOf_0 rfl rfl ?_
  refine v_iload_n dX7_refusalOf_1 rfl rfl ?_
  refine v_callVi [_] dX7_refusalOf_2 lX7_115 kvX4_knows (plX4 _ _) (Or.inr rfl) rfl rfl rfl rfl rfl rfl rfl rfl rfl (c_X4_knows_1 ?_)
  refine v_ifb_ne (tgt := 10) dX7_refusalOf_5 (by decide) (fun hc_5 => ?_) (fun hc_5 => ?_)
  · refine v_aload_n dX7_refusalOf_10 rfl rfl ?_
    refine v_iload_n dX7_refusalOf_11 rfl rfl ?_
    refine v_callVi [_] dX7_refusalOf_12 lX7_122 kvX4_isThere (plX4 _ _) (Or.inr rfl) rfl rfl rfl rfl rfl rfl rfl rfl rfl (c_X4_isThere_1 ?_)
    refine v_ifb_eq (tgt := 22) dX7_refusalOf_15 (by decide) (fun hc_15 => ?_) (fun hc_15 => ?_)
    · refine v_aload_n dX7_refusalOf_22 rfl rfl ?_
      refine v_iconst dX7_refusalOf_23 (by decide) ?_
      refine v_callVi [_] dX7_refusalOf_24 lX7_119 kvX7_found (plX7 _ _) (Or.inl rfl) rfl rfl rfl rfl rfl rfl rfl rfl rfl (c_X7_found (f := 1) rfl (by decide) hc ?_)
      refine v_ireturn dX7_refusalOf_27 rfl ?_
      exact h3 hc_5 hc_15
    · refine v_iconst dX7_refusalOf_18 (by decide) ?_
      refine v_goto (tgt := 27) dX7_refusalOf_19 (by decide) ?_
      refine v_ireturn dX7_refusalOf_27 rfl ?_
      exact h2 hc_5 hc_15
  · refine v_iconst dX7_refusalOf_8 (by decide) ?_
    refine v_ireturn dX7_refusalOf_9 rfl ?_
    exact h1 hc_5
set_option maxRecDepth 10000 in
theorem c_X7_refusalOfPlace_1 {r i : Int} (hk : ok_1 μ) (hc : fcOK μ) (h1 : ¬ (0 ≤ r ∧ r < 6) → Q (I_ (-1)) μ) (h2 : (0 ≤ r ∧ r < 6) → 0 ≤ i ∧ i < sz_1 μ r → Q (I_ 0) μ) (h3 : (0 ≤ r ∧ r < 6) → ¬ 0 ≤ sz_1 μ r → Q (I_ (-3)) (fdC μ 1)) (h4 : (0 ≤ r ∧ r < 6) → 0 ≤ sz_1 μ r → ¬ (0 ≤ i ∧ i < sz_1 μ r) → Q (I_ (-3)) (fdC μ 2)) : V_ nX7_refusalOfPlace 0 [R_ 0, R_ 1, I_ r, I_ i, U_] [] μ Q := by
  refine v_aload_n dX7_refusalOfPlace_0 rfl rfl ?_
  refine v_aload_n dX7_refusalOfPlace_1 rfl rfl ?_
  refine v_iload_n dX7_refusalOfPlace_2 rfl rfl ?_
  refine v_callVi [_, _] dX7_refusalOfPlace_3 lX7_107 kvX7_refusalOf (plX7 _ _) (Or.inl rfl) rfl rfl rfl rfl rfl rfl rfl rfl rfl (c_X7_refusalOf_1 hc ?_ ?_ ?_)
  · intro g1
    refine v_istore (ls' := [_, _, _, _, _]) dX7_refusalOfPlace_6 rfl rfl rfl ?_
    refine v_iload dX7_refusalOfPlace_8 rfl ?_
    refine v_if_eq (tgt := 16) dX7_refusalOfPlace_10 (by decide) (fun q => absurd q (by decide)) (fun _ => ?_)
    refine v_iload dX7_refusalOfPlace_13 rfl ?_
    refine v_ireturn dX7_refusalOfPlace_15 rfl ?_
    exact h1 g1
  · intro g1 g2
    refine v_istore (ls' := [_, _, _, _, _]) dX7_refusalOfPlace_6 rfl rfl rfl ?_
    refine v_iload dX7_refusalOfPlace_8 rfl ?_
    refine v_if_eq (tgt := 16) dX7_refusalOfPlace_10 (by decide) (fun _ => ?_) (fun q => absurd (by decide) q)
    refine v_aload_n dX7_refusalOfPlace_16 rfl rfl ?_
    refine v_iload_n dX7_refusalOfPlace_17 rfl rfl ?_
    refine v_iload_n dX7_refusalOfPlace_18 rfl rfl ?_
    refine v_iconst dX7_refusalOfPlace_19 (by decide) ?_
    refine v_callVi [_, _, _] dX7_refusalOfPlace_20 lX7_125 kvX4_spans (plX4 _ _) (Or.inr rfl) rfl rfl rfl rfl rfl rfl rfl rfl rfl (c_X4_spans_1 hk ?_)
    refine v_ifb_eq (tgt := 30) dX7_refusalOfPlace_23 (by decide) (fun hc_23 => ?_) (fun hc_23 => ?_)
    · refine v_aload_n dX7_refusalOfPlace_30 rfl rfl ?_
      refine v_iconst dX7_refusalOfPlace_31 (by decide) ?_
      refine v_callVi [_] dX7_refusalOfPlace_32 lX7_119 kvX7_found (plX7 _ _) (Or.inl rfl) rfl rfl rfl rfl rfl rfl rfl rfl rfl (c_X7_found (f := 2) rfl (by decide) hc ?_)
      refine v_ireturn dX7_refusalOfPlace_35 rfl ?_
      exact h4 g1 g2 (by omega)
    · refine v_iconst dX7_refusalOfPlace_26 (by decide) ?_
      refine v_goto (tgt := 35) dX7_refusalOfPlace_27 (by decide) ?_
      refine v_ireturn dX7_refusalOfPlace_35 rfl ?_
      exact h2 g1 (by omega)
  · intro g1 g2
    refine v_istore (ls' := [_, _, _, _, _]) dX7_refusalOfPlace_6 rfl rfl rfl ?_
    refine v_iload dX7_refusalOfPlace_8 rfl ?_
    refine v_if_eq (tgt := 16) dX7_refusalOfPlace_10 (by decide) (fun q => absurd q (by decide)) (fun _ => ?_)
    refine v_iload dX7_refusalOfPlace_13 rfl ?_
    refine v_ireturn dX7_refusalOfPlace_15 rfl ?_
    exact h3 g1 g2
set_option maxRecDepth 10000 in
theorem c_X7_renewed_1 {r n v : Int} (hc : fcOK μ) (h1 : ¬ ((0 ≤ r ∧ r < 6) ∧ n ≤ 40) → Q (I_ (-1)) μ) (h2 : (0 ≤ r ∧ r < 6) → n < 0 → Q (I_ (-3)) (fdC μ 5)) (h3 : (0 ≤ r ∧ r < 6) → 0 ≤ n ∧ n ≤ 40 → Q (I_ n) (mfill (mset μ 2 r.toNat n) 3 (r * 40).toNat n.toNat v)) : V_ nX7_renewed 0 [R_ 0, R_ 1, I_ r, I_ n, I_ v] [] μ Q := by
  refine v_aload_n dX7_renewed_0 rfl rfl ?_
  refine v_iload_n dX7_renewed_1 rfl rfl ?_
  refine v_callVi [_] dX7_renewed_2 lX7_115 kvX4_knows (plX4 _ _) (Or.inr rfl) rfl rfl rfl rfl rfl rfl rfl rfl rfl (c_X4_knows_1 ?_)
  refine v_ifb_eq (tgt := 16) dX7_renewed_5 (by decide) (fun hc_5 => ?_) (fun hc_5 => ?_)
  · refine v_iconst dX7_renewed_16 (by decide) ?_
    refine v_ireturn dX7_renewed_17 rfl ?_
    exact h1 (by omega)
  · refine v_iload_n dX7_renewed_8 rfl rfl ?_
    refine v_aload_n dX7_renewed_9 rfl rfl ?_
    refine v_getC dX7_renewed_10 fX7_333 rfl rfl rfl ?_
    refine v_icmp_le (tgt := 18) dX7_renewed_13 (by decide) (fun hc_13 => ?_) (fun hc_13 => ?_)
    · refine v_iload_n dX7_renewed_18 rfl rfl ?_
      refine v_if_ge (tgt := 28) dX7_renewed_19 (by decide) (fun hc_19 => ?_) (fun hc_19 => ?_)
      · refine v_aload_n dX7_renewed_28 rfl rfl ?_
        refine v_iload_n dX7_renewed_29 rfl rfl ?_
        refine v_iload_n dX7_renewed_30 rfl rfl ?_
        refine v_iload dX7_renewed_31 rfl ?_
        refine v_callVv [_, _, _] dX7_renewed_33 lX7_274 kvX4_renew (plX4 _ _) rfl rfl rfl rfl rfl rfl rfl rfl rfl rfl (c_X4_renew_1 (by omega) (by omega) ?_)
        refine v_iload_n dX7_renewed_36 rfl rfl ?_
        refine v_ireturn dX7_renewed_37 rfl ?_
        exact h3 (by omega) (by omega)
      · refine v_aload_n dX7_renewed_22 rfl rfl ?_
        refine v_iconst dX7_renewed_23 (by decide) ?_
        refine v_callVi [_] dX7_renewed_24 lX7_119 kvX7_found (plX7 _ _) (Or.inl rfl) rfl rfl rfl rfl rfl rfl rfl rfl rfl (c_X7_found (f := 5) rfl (by decide) hc ?_)
        refine v_ireturn dX7_renewed_27 rfl ?_
        exact h2 (by omega) (by omega)
    · refine v_iconst dX7_renewed_16 (by decide) ?_
      refine v_ireturn dX7_renewed_17 rfl ?_
      exact h1 (by omega)

set_option maxRecDepth 10000 in
theorem c_X7_refusalOf_4 {r : Int} (hc : fcOK μ) (h1 : ¬ (0 ≤ r ∧ r < 4) → Q (I_ (-1)) μ) (h2 : (0 ≤ r ∧ r < 4) → 0 ≤ sz_4 μ r → Q (I_ 0) μ) (h3 : (0 ≤ r ∧ r < 4) → ¬ 0 ≤ sz_4 μ r → Q (I_ (-3)) (fdC μ 1)) : V_ nX7_refusalOf 0 [R_ 0, R_ 4, I_ r] [] μ Q := by
  refine v_aload_n dX7_refusalOf_0 rfl rfl ?_
  refine v_iload_n dX7_refusalOf_1 rfl rfl ?_
  refine v_callVi [_] dX7_refusalOf_2 lX7_115 kvX4_knows (plX4 _ _) (Or.inr rfl) rfl rfl rfl rfl rfl rfl rfl rfl rfl (c_X4_knows_4 ?_)
  refine v_ifb_ne (tgt := 10) dX7_refusalOf_5 (by decide) (fun hc_5 => ?_) (fun hc_5 => ?_)
  · refine v_aload_n dX7_refusalOf_10 rfl rfl ?_
    refine v_iload_n dX7_refusalOf_11 rfl rfl ?_
    refine v_callVi [_] dX7_refusalOf_12 lX7_122 kvX4_isThere (plX4 _ _) (Or.inr rfl) rfl rfl rfl rfl rfl rfl rfl rfl rfl (c_X4_isThere_4 ?_)
    refine v_ifb_eq (tgt := 22) dX7_refusalOf_15 (by decide) (fun hc_15 => ?_) (fun hc_15 => ?_)
    · refine v_aload_n dX7_refusalOf_22 rfl rfl ?_
      refine v_iconst dX7_refusalOf_23 (by decide) ?_
      refine v_callVi [_] dX7_refusalOf_24 lX7_119 kvX7_found (plX7 _ _) (Or.inl rfl) rfl rfl rfl rfl rfl rfl rfl rfl rfl (c_X7_found (f := 1) rfl (by decide) hc ?_)
      refine v_ireturn dX7_refusalOf_27 rfl ?_
      exact h3 hc_5 hc_15
    · refine v_iconst dX7_refusalOf_18 (by decide) ?_
      refine v_goto (tgt := 27) dX7_refusalOf_19 (by decide) ?_
      refine v_ireturn dX7_refusalOf_27 rfl ?_
      exact h2 hc_5 hc_15
  · refine v_iconst dX7_refusalOf_8 (by decide) ?_
    refine v_ireturn dX7_refusalOf_9 rfl ?_
    exact h1 hc_5
set_option maxRecDepth 10000 in
theorem c_X7_refusalOfPlace_4 {r i : Int} (hk : ok_4 μ) (hc : fcOK μ) (h1 : ¬ (0 ≤ r ∧ r < 4) → Q (I_ (-1)) μ) (h2 : (0 ≤ r ∧ r < 4) → 0 ≤ i ∧ i < sz_4 μ r → Q (I_ 0) μ) (h3 : (0 ≤ r ∧ r < 4) → ¬ 0 ≤ sz_4 μ r → Q (I_ (-3)) (fdC μ 1)) (h4 : (0 ≤ r ∧ r < 4) → 0 ≤ sz_4 μ r → ¬ (0 ≤ i ∧ i < sz_4 μ r) → Q (I_ (-3)) (fdC μ 2)) : V_ nX7_refusalOfPlace 0 [R_ 0, R_ 4, I_ r, I_ i, U_] [] μ Q := by
  refine v_aload_n dX7_refusalOfPlace_0 rfl rfl ?_
  refine v_aload_n dX7_refusalOfPlace_1 rfl rfl ?_
  refine v_iload_n dX7_refusalOfPlace_2 rfl rfl ?_
  refine v_callVi [_, _] dX7_refusalOfPlace_3 lX7_107 kvX7_refusalOf (plX7 _ _) (Or.inl rfl) rfl rfl rfl rfl rfl rfl rfl rfl rfl (c_X7_refusalOf_4 hc ?_ ?_ ?_)
  · intro g1
    refine v_istore (ls' := [_, _, _, _, _]) dX7_refusalOfPlace_6 rfl rfl rfl ?_
    refine v_iload dX7_refusalOfPlace_8 rfl ?_
    refine v_if_eq (tgt := 16) dX7_refusalOfPlace_10 (by decide) (fun q => absurd q (by decide)) (fun _ => ?_)
    refine v_iload dX7_refusalOfPlace_13 rfl ?_
    refine v_ireturn dX7_refusalOfPlace_15 rfl ?_
    exact h1 g1
  · intro g1 g2
    refine v_istore (ls' := [_, _, _, _, _]) dX7_refusalOfPlace_6 rfl rfl rfl ?_
    refine v_iload dX7_refusalOfPlace_8 rfl ?_
    refine v_if_eq (tgt := 16) dX7_refusalOfPlace_10 (by decide) (fun _ => ?_) (fun q => absurd (by decide) q)
    refine v_aload_n dX7_refusalOfPlace_16 rfl rfl ?_
    refine v_iload_n dX7_refusalOfPlace_17 rfl rfl ?_
    refine v_iload_n dX7_refusalOfPlace_18 rfl rfl ?_
    refine v_iconst dX7_refusalOfPlace_19 (by decide) ?_
    refine v_callVi [_, _, _] dX7_refusalOfPlace_20 lX7_125 kvX4_spans (plX4 _ _) (Or.inr rfl) rfl rfl rfl rfl rfl rfl rfl rfl rfl (c_X4_spans_4 hk ?_)
    refine v_ifb_eq (tgt := 30) dX7_refusalOfPlace_23 (by decide) (fun hc_23 => ?_) (fun hc_23 => ?_)
    · refine v_aload_n dX7_refusalOfPlace_30 rfl rfl ?_
      refine v_iconst dX7_refusalOfPlace_31 (by decide) ?_
      refine v_callVi [_] dX7_refusalOfPlace_32 lX7_119 kvX7_found (plX7 _ _) (Or.inl rfl) rfl rfl rfl rfl rfl rfl rfl rfl rfl (c_X7_found (f := 2) rfl (by decide) hc ?_)
      refine v_ireturn dX7_refusalOfPlace_35 rfl ?_
      exact h4 g1 g2 (by omega)
    · refine v_iconst dX7_refusalOfPlace_26 (by decide) ?_
      refine v_goto (tgt := 35) dX7_refusalOfPlace_27 (by decide) ?_
      refine v_ireturn dX7_refusalOfPlace_35 rfl ?_
      exact h2 g1 (by omega)
  · intro g1 g2
    refine v_istore (ls' := [_, _, _, _, _]) dX7_refusalOfPlace_6 rfl rfl rfl ?_
    refine v_iload dX7_refusalOfPlace_8 rfl ?_
    refine v_if_eq (tgt := 16) dX7_refusalOfPlace_10 (by decide) (fun q => absurd q (by decide)) (fun _ => ?_)
    refine v_iload dX7_refusalOfPlace_13 rfl ?_
    refine v_ireturn dX7_refusalOfPlace_15 rfl ?_
    exact h3 g1 g2
set_option maxRecDepth 10000 in
theorem c_X7_renewed_4 {r n v : Int} (hc : fcOK μ) (h1 : ¬ ((0 ≤ r ∧ r < 4) ∧ n ≤ 120) → Q (I_ (-1)) μ) (h2 : (0 ≤ r ∧ r < 4) → n < 0 → Q (I_ (-3)) (fdC μ 5)) (h3 : (0 ≤ r ∧ r < 4) → 0 ≤ n ∧ n ≤ 120 → Q (I_ n) (mfill (mset μ 5 r.toNat n) 6 (r * 120).toNat n.toNat v)) : V_ nX7_renewed 0 [R_ 0, R_ 4, I_ r, I_ n, I_ v] [] μ Q := by
  refine v_aload_n dX7_renewed_0 rfl rfl ?_
  refine v_iload_n dX7_renewed_1 rfl rfl ?_
  refine v_callVi [_] dX7_renewed_2 lX7_115 kvX4_knows (plX4 _ _) (Or.inr rfl) rfl rfl rfl rfl rfl rfl rfl rfl rfl (c_X4_knows_4 ?_)
  refine v_ifb_eq (tgt := 16) dX7_renewed_5 (by decide) (fun hc_5 => ?_) (fun hc_5 => ?_)
  · refine v_iconst dX7_renewed_16 (by decide) ?_
    refine v_ireturn dX7_renewed_17 rfl ?_
    exact h1 (by omega)
  · refine v_iload_n dX7_renewed_8 rfl rfl ?_
    refine v_aload_n dX7_renewed_9 rfl rfl ?_
    refine v_getC dX7_renewed_10 fX7_333 rfl rfl rfl ?_
    refine v_icmp_le (tgt := 18) dX7_renewed_13 (by decide) (fun hc_13 => ?_) (fun hc_13 => ?_)
    · refine v_iload_n dX7_renewed_18 rfl rfl ?_
      refine v_if_ge (tgt := 28) dX7_renewed_19 (by decide) (fun hc_19 => ?_) (fun hc_19 => ?_)
      · refine v_aload_n dX7_renewed_28 rfl rfl ?_
        refine v_iload_n dX7_renewed_29 rfl rfl ?_
        refine v_iload_n dX7_renewed_30 rfl rfl ?_
        refine v_iload dX7_renewed_31 rfl ?_
        refine v_callVv [_, _, _] dX7_renewed_33 lX7_274 kvX4_renew (plX4 _ _) rfl rfl rfl rfl rfl rfl rfl rfl rfl rfl (c_X4_renew_4 (by omega) (by omega) ?_)
        refine v_iload_n dX7_renewed_36 rfl rfl ?_
        refine v_ireturn dX7_renewed_37 rfl ?_
        exact h3 (by omega) (by omega)
      · refine v_aload_n dX7_renewed_22 rfl rfl ?_
        refine v_iconst dX7_renewed_23 (by decide) ?_
        refine v_callVi [_] dX7_renewed_24 lX7_119 kvX7_found (plX7 _ _) (Or.inl rfl) rfl rfl rfl rfl rfl rfl rfl rfl rfl (c_X7_found (f := 5) rfl (by decide) hc ?_)
        refine v_ireturn dX7_renewed_27 rfl ?_
        exact h2 (by omega) (by omega)
    · refine v_iconst dX7_renewed_16 (by decide) ?_
      refine v_ireturn dX7_renewed_17 rfl ?_
      exact h1 (by omega)

set_option maxRecDepth 10000 in
theorem c_X7_row {r n : Int} (hc : fcOK μ) (h1 : ¬ ((0 ≤ r ∧ r < 6) ∧ n ≤ 40) → Q (I_ (-1)) μ) (h2 : (0 ≤ r ∧ r < 6) → n < 0 → Q (I_ (-3)) (fdC μ 5)) (h3 : (0 ≤ r ∧ r < 6) → 0 ≤ n ∧ n ≤ 40 → Q (I_ n) (mfill (mset μ 2 r.toNat n) 3 (r * 40).toNat n.toNat 0)) : V_ nX7_row 0 [R_ 0, I_ r, I_ n] [] μ Q := by
  refine v_aload_n dX7_row_0 rfl rfl ?_
  refine v_aload_n dX7_row_1 rfl rfl ?_
  refine v_getR dX7_row_2 fX7_14 rfl rfl rfl ?_
  refine v_iload_n dX7_row_5 rfl rfl ?_
  refine v_iload_n dX7_row_6 rfl rfl ?_
  refine v_iconst dX7_row_7 (by decide) ?_
  refine v_callVi [_, _, _, _] dX7_row_8 lX7_87 kvX7_renewed (plX7 _ _) (Or.inl rfl) rfl rfl rfl rfl rfl rfl rfl rfl rfl (c_X7_renewed_1 hc ?_ ?_ ?_)
  · intro g1
    refine v_ireturn dX7_row_11 rfl ?_
    exact h1 g1
  · intro g1 g2
    refine v_ireturn dX7_row_11 rfl ?_
    exact h2 g1 g2
  · intro g1 g2
    refine v_ireturn dX7_row_11 rfl ?_
    exact h3 g1 g2
set_option maxRecDepth 10000 in
theorem c_X7_text {r n : Int} (hc : fcOK μ) (h1 : ¬ ((0 ≤ r ∧ r < 4) ∧ n ≤ 120) → Q (I_ (-1)) μ) (h2 : (0 ≤ r ∧ r < 4) → n < 0 → Q (I_ (-3)) (fdC μ 5)) (h3 : (0 ≤ r ∧ r < 4) → 0 ≤ n ∧ n ≤ 120 → Q (I_ n) (mfill (mset μ 5 r.toNat n) 6 (r * 120).toNat n.toNat 32)) : V_ nX7_text 0 [R_ 0, I_ r, I_ n] [] μ Q := by
  refine v_aload_n dX7_text_0 rfl rfl ?_
  refine v_aload_n dX7_text_1 rfl rfl ?_
  refine v_getR dX7_text_2 fX7_18 rfl rfl rfl ?_
  refine v_iload_n dX7_text_5 rfl rfl ?_
  refine v_iload_n dX7_text_6 rfl rfl ?_
  refine v_bipush dX7_text_7 (by decide) ?_
  refine v_callVi [_, _, _, _] dX7_text_9 lX7_87 kvX7_renewed (plX7 _ _) (Or.inl rfl) rfl rfl rfl rfl rfl rfl rfl rfl rfl (c_X7_renewed_4 hc ?_ ?_ ?_)
  · intro g1
    refine v_ireturn dX7_text_12 rfl ?_
    exact h1 g1
  · intro g1 g2
    refine v_ireturn dX7_text_12 rfl ?_
    exact h2 g1 g2
  · intro g1 g2
    refine v_ireturn dX7_text_12 rfl ?_
    exact h3 g1 g2
set_option maxRecDepth 10000 in
theorem c_X7_lay {r i v : Int} (hk : ok_1 μ) (hc : fcOK μ) (h1 : ¬ (0 ≤ r ∧ r < 6) → Q (I_ (-1)) μ) (h2 : (0 ≤ r ∧ r < 6) → 0 ≤ i ∧ i < sz_1 μ r → Q (I_ 1) (tlC (mset μ 3 (r * 40 + i).toNat v) (μ 3 (r * 40 + i).toNat))) (h3 : (0 ≤ r ∧ r < 6) → ¬ 0 ≤ sz_1 μ r → Q (I_ (-3)) (fdC μ 1)) (h4 : (0 ≤ r ∧ r < 6) → 0 ≤ sz_1 μ r → ¬ (0 ≤ i ∧ i < sz_1 μ r) → Q (I_ (-3)) (fdC μ 2)) : V_ nX7_lay 0 [R_ 0, I_ r, I_ i, I_ v, U_, U_] [] μ Q := by
  refine v_aload_n dX7_lay_0 rfl rfl ?_
  refine v_aload_n dX7_lay_1 rfl rfl ?_
  refine v_getR dX7_lay_2 fX7_14 rfl rfl rfl ?_
  refine v_iload_n dX7_lay_5 rfl rfl ?_
  refine v_iload_n dX7_lay_6 rfl rfl ?_
  refine v_callVi [_, _, _] dX7_lay_7 lX7_91 kvX7_refusalOfPlace (plX7 _ _) (Or.inl rfl) rfl rfl rfl rfl rfl rfl rfl rfl rfl (c_X7_refusalOfPlace_1 hk hc ?_ ?_ ?_ ?_)
  · intro g1
    refine v_istore (ls' := [_, _, _, _, _, _]) dX7_lay_10 rfl rfl rfl ?_
    refine v_iload dX7_lay_12 rfl ?_
    refine v_if_eq (tgt := 20) dX7_lay_14 (by decide) (fun q => absurd q (by decide)) (fun _ => ?_)
    refine v_iload dX7_lay_17 rfl ?_
    refine v_ireturn dX7_lay_19 rfl ?_
    exact h1 g1
  · intro g1 g2
    refine v_istore (ls' := [_, _, _, _, _, _]) dX7_lay_10 rfl rfl rfl ?_
    refine v_iload dX7_lay_12 rfl ?_
    refine v_if_eq (tgt := 20) dX7_lay_14 (by decide) (fun _ => ?_) (fun q => absurd (by decide) q)
    refine v_aload_n dX7_lay_20 rfl rfl ?_
    refine v_getR dX7_lay_21 fX7_14 rfl rfl rfl ?_
    refine v_iload_n dX7_lay_24 rfl rfl ?_
    refine v_iload_n dX7_lay_25 rfl rfl ?_
    refine v_callVi [_, _] dX7_lay_26 lX7_95 kvX4_get (plX4 _ _) (Or.inl rfl) rfl rfl rfl rfl rfl rfl rfl rfl rfl (c_X4_get_1 hk ?_)
    rw [get_1, if_pos g2]
    refine v_istore (ls' := [_, _, _, _, _, _]) dX7_lay_29 rfl rfl rfl ?_
    refine v_aload_n dX7_lay_31 rfl rfl ?_
    refine v_getR dX7_lay_32 fX7_14 rfl rfl rfl ?_
    refine v_iload_n dX7_lay_35 rfl rfl ?_
    refine v_iload_n dX7_lay_36 rfl rfl ?_
    refine v_iload_n dX7_lay_37 rfl rfl ?_
    refine v_callVv [_, _, _] dX7_lay_38 lX7_99 kvX4_set (plX4 _ _) rfl rfl rfl rfl rfl rfl rfl rfl rfl rfl (c_X4_set_1 hk ?_)
    rw [set_1, if_pos g2]
    refine v_aload_n dX7_lay_41 rfl rfl ?_
    refine v_iload dX7_lay_42 rfl ?_
    refine v_callVi [_] dX7_lay_44 lX7_103 kvX7_tell (plX7 _ _) (Or.inl rfl) rfl rfl rfl rfl rfl rfl rfl rfl rfl (c_X7_tell ?_)
    refine v_ireturn dX7_lay_47 rfl ?_
    exact h2 g1 g2
  · intro g1 g2
    refine v_istore (ls' := [_, _, _, _, _, _]) dX7_lay_10 rfl rfl rfl ?_
    refine v_iload dX7_lay_12 rfl ?_
    refine v_if_eq (tgt := 20) dX7_lay_14 (by decide) (fun q => absurd q (by decide)) (fun _ => ?_)
    refine v_iload dX7_lay_17 rfl ?_
    refine v_ireturn dX7_lay_19 rfl ?_
    exact h3 g1 g2
  · intro g1 g2 g3
    refine v_istore (ls' := [_, _, _, _, _, _]) dX7_lay_10 rfl rfl rfl ?_
    refine v_iload dX7_lay_12 rfl ?_
    refine v_if_eq (tgt := 20) dX7_lay_14 (by decide) (fun q => absurd q (by decide)) (fun _ => ?_)
    refine v_iload dX7_lay_17 rfl ?_
    refine v_ireturn dX7_lay_19 rfl ?_
    exact h4 g1 g2 g3
set_option maxRecDepth 10000 in
theorem c_X7_at {r i : Int} (hk : ok_1 μ) (hc : fcOK μ) (h1 : ¬ (0 ≤ r ∧ r < 6) → Q (I_ (-1)) μ) (h2 : (0 ≤ r ∧ r < 6) → 0 ≤ i ∧ i < sz_1 μ r → Q (I_ 1) (tlC μ (μ 3 (r * 40 + i).toNat))) (h3 : (0 ≤ r ∧ r < 6) → ¬ 0 ≤ sz_1 μ r → Q (I_ (-3)) (fdC μ 1)) (h4 : (0 ≤ r ∧ r < 6) → 0 ≤ sz_1 μ r → ¬ (0 ≤ i ∧ i < sz_1 μ r) → Q (I_ (-3)) (fdC μ 2)) : V_ nX7_at 0 [R_ 0, I_ r, I_ i, U_] [] μ Q := by
  refine v_aload_n dX7_at_0 rfl rfl ?_
  refine v_aload_n dX7_at_1 rfl rfl ?_
  refine v_getR dX7_at_2 fX7_14 rfl rfl rfl ?_
  refine v_iload_n dX7_at_5 rfl rfl ?_
  refine v_iload_n dX7_at_6 rfl rfl ?_
  refine v_callVi [_, _, _] dX7_at_7 lX7_91 kvX7_refusalOfPlace (plX7 _ _) (Or.inl rfl) rfl rfl rfl rfl rfl rfl rfl rfl rfl (c_X7_refusalOfPlace_1 hk hc ?_ ?_ ?_ ?_)
  · intro g1
    refine v_istore_n (ls' := [_, _, _, _]) dX7_at_10 rfl rfl rfl rfl ?_
    refine v_iload_n dX7_at_11 rfl rfl ?_
    refine v_if_eq (tgt := 19) dX7_at_12 (by decide) (fun q => absurd q (by decide)) (fun _ => ?_)
    refine v_iload_n dX7_at_15 rfl rfl ?_
    refine v_goto (tgt := 32) dX7_at_16 (by decide) ?_
    refine v_ireturn dX7_at_32 rfl ?_
    exact h1 g1
  · intro g1 g2
    refine v_istore_n (ls' := [_, _, _, _]) dX7_at_10 rfl rfl rfl rfl ?_
    refine v_iload_n dX7_at_11 rfl rfl ?_
    refine v_if_eq (tgt := 19) dX7_at_12 (by decide) (fun _ => ?_) (fun q => absurd (by decide) q)
    refine v_aload_n dX7_at_19 rfl rfl ?_
    refine v_aload_n dX7_at_20 rfl rfl ?_
    refine v_getR dX7_at_21 fX7_14 rfl rfl rfl ?_
    refine v_iload_n dX7_at_24 rfl rfl ?_
    refine v_iload_n dX7_at_25 rfl rfl ?_
    refine v_callVi [_, _] dX7_at_26 lX7_95 kvX4_get (plX4 _ _) (Or.inl rfl) rfl rfl rfl rfl rfl rfl rfl rfl rfl (c_X4_get_1 hk ?_)
    rw [get_1, if_pos g2]
    refine v_callVi [_] dX7_at_29 lX7_103 kvX7_tell (plX7 _ _) (Or.inl rfl) rfl rfl rfl rfl rfl rfl rfl rfl rfl (c_X7_tell ?_)
    refine v_ireturn dX7_at_32 rfl ?_
    exact h2 g1 g2
  · intro g1 g2
    refine v_istore_n (ls' := [_, _, _, _]) dX7_at_10 rfl rfl rfl rfl ?_
    refine v_iload_n dX7_at_11 rfl rfl ?_
    refine v_if_eq (tgt := 19) dX7_at_12 (by decide) (fun q => absurd q (by decide)) (fun _ => ?_)
    refine v_iload_n dX7_at_15 rfl rfl ?_
    refine v_goto (tgt := 32) dX7_at_16 (by decide) ?_
    refine v_ireturn dX7_at_32 rfl ?_
    exact h3 g1 g2
  · intro g1 g2 g3
    refine v_istore_n (ls' := [_, _, _, _]) dX7_at_10 rfl rfl rfl rfl ?_
    refine v_iload_n dX7_at_11 rfl rfl ?_
    refine v_if_eq (tgt := 19) dX7_at_12 (by decide) (fun q => absurd q (by decide)) (fun _ => ?_)
    refine v_iload_n dX7_at_15 rfl rfl ?_
    refine v_goto (tgt := 32) dX7_at_16 (by decide) ?_
    refine v_ireturn dX7_at_32 rfl ?_
    exact h4 g1 g2 g3
set_option maxRecDepth 10000 in
theorem c_X7_put {r i v : Int} (hk : ok_4 μ) (hc : fcOK μ) (hb : ∀ j, -128 ≤ μ 6 j ∧ μ 6 j < 128) (h1 : ¬ (0 ≤ r ∧ r < 4) → Q (I_ (-1)) μ) (h2 : (0 ≤ r ∧ r < 4) → 0 ≤ i ∧ i < sz_4 μ r → Q (I_ (μ 6 (r * 120 + i).toNat + 1000)) (mset μ 6 (r * 120 + i).toNat (b8 v))) (h3 : (0 ≤ r ∧ r < 4) → ¬ 0 ≤ sz_4 μ r → Q (I_ (-3)) (fdC μ 1)) (h4 : (0 ≤ r ∧ r < 4) → 0 ≤ sz_4 μ r → ¬ (0 ≤ i ∧ i < sz_4 μ r) → Q (I_ (-3)) (fdC μ 2)) : V_ nX7_put 0 [R_ 0, I_ r, I_ i, I_ v, U_, U_] [] μ Q := by
  have hb := hb (r * 120 + i).toNat
  refine v_aload_n dX7_put_0 rfl rfl ?_
  refine v_aload_n dX7_put_1 rfl rfl ?_
  refine v_getR dX7_put_2 fX7_18 rfl rfl rfl ?_
  refine v_iload_n dX7_put_5 rfl rfl ?_
  refine v_iload_n dX7_put_6 rfl rfl ?_
  refine v_callVi [_, _, _] dX7_put_7 lX7_91 kvX7_refusalOfPlace (plX7 _ _) (Or.inl rfl) rfl rfl rfl rfl rfl rfl rfl rfl rfl (c_X7_refusalOfPlace_4 hk hc ?_ ?_ ?_ ?_)
  · intro g1
    refine v_istore (ls' := [_, _, _, _, _, _]) dX7_put_10 rfl rfl rfl ?_
    refine v_iload dX7_put_12 rfl ?_
    refine v_if_eq (tgt := 20) dX7_put_14 (by decide) (fun q => absurd q (by decide)) (fun _ => ?_)
    refine v_iload dX7_put_17 rfl ?_
    refine v_ireturn dX7_put_19 rfl ?_
    exact h1 g1
  · intro g1 g2
    refine v_istore (ls' := [_, _, _, _, _, _]) dX7_put_10 rfl rfl rfl ?_
    refine v_iload dX7_put_12 rfl ?_
    refine v_if_eq (tgt := 20) dX7_put_14 (by decide) (fun _ => ?_) (fun q => absurd (by decide) q)
    refine v_aload_n dX7_put_20 rfl rfl ?_
    refine v_getR dX7_put_21 fX7_18 rfl rfl rfl ?_
    refine v_iload_n dX7_put_24 rfl rfl ?_
    refine v_iload_n dX7_put_25 rfl rfl ?_
    refine v_callVi [_, _] dX7_put_26 lX7_95 kvX4_get (plX4 _ _) (Or.inl rfl) rfl rfl rfl rfl rfl rfl rfl rfl rfl (c_X4_get_4 hk ?_)
    rw [get_4, if_pos g2]
    refine v_istore (ls' := [_, _, _, _, _, _]) dX7_put_29 rfl rfl rfl ?_
    refine v_aload_n dX7_put_31 rfl rfl ?_
    refine v_getR dX7_put_32 fX7_18 rfl rfl rfl ?_
    refine v_iload_n dX7_put_35 rfl rfl ?_
    refine v_iload_n dX7_put_36 rfl rfl ?_
    refine v_iload_n dX7_put_37 rfl rfl ?_
    refine v_i2b dX7_put_38 ?_
    refine v_callVv [_, _, _] dX7_put_39 lX7_99 kvX4_set (plX4 _ _) rfl rfl rfl rfl rfl rfl rfl rfl rfl rfl (c_X4_set_4 hk ?_)
    rw [set_4, if_pos g2]
    refine v_iload dX7_put_42 rfl ?_
    refine v_sipush dX7_put_44 (by decide) ?_
    refine v_iadd dX7_put_47 (fun ha hb => by omega) ?_
    refine v_ireturn dX7_put_48 rfl ?_
    exact h2 g1 g2
  · intro g1 g2
    refine v_istore (ls' := [_, _, _, _, _, _]) dX7_put_10 rfl rfl rfl ?_
    refine v_iload dX7_put_12 rfl ?_
    refine v_if_eq (tgt := 20) dX7_put_14 (by decide) (fun q => absurd q (by decide)) (fun _ => ?_)
    refine v_iload dX7_put_17 rfl ?_
    refine v_ireturn dX7_put_19 rfl ?_
    exact h3 g1 g2
  · intro g1 g2 g3
    refine v_istore (ls' := [_, _, _, _, _, _]) dX7_put_10 rfl rfl rfl ?_
    refine v_iload dX7_put_12 rfl ?_
    refine v_if_eq (tgt := 20) dX7_put_14 (by decide) (fun q => absurd q (by decide)) (fun _ => ?_)
    refine v_iload dX7_put_17 rfl ?_
    refine v_ireturn dX7_put_19 rfl ?_
    exact h4 g1 g2 g3
set_option maxRecDepth 10000 in
theorem c_X7_tear {r : Int} (hc : fcOK μ) (h1 : ¬ (0 ≤ r ∧ r < 6) → Q (I_ (-1)) μ) (h2 : (0 ≤ r ∧ r < 6) → 0 ≤ sz_1 μ r → Q (I_ 1) (mset μ 2 r.toNat (-1))) (h3 : (0 ≤ r ∧ r < 6) → ¬ 0 ≤ sz_1 μ r → Q (I_ (-3)) (fdC μ 1)) : V_ nX7_tear 0 [R_ 0, I_ r, U_] [] μ Q := by
  refine v_aload_n dX7_tear_0 rfl rfl ?_
  refine v_aload_n dX7_tear_1 rfl rfl ?_
  refine v_getR dX7_tear_2 fX7_14 rfl rfl rfl ?_
  refine v_iload_n dX7_tear_5 rfl rfl ?_
  refine v_callVi [_, _] dX7_tear_6 lX7_107 kvX7_refusalOf (plX7 _ _) (Or.inl rfl) rfl rfl rfl rfl rfl rfl rfl rfl rfl (c_X7_refusalOf_1 hc ?_ ?_ ?_)
  · intro g1
    refine v_istore_n (ls' := [_, _, _]) dX7_tear_9 rfl rfl rfl rfl ?_
    refine v_iload_n dX7_tear_10 rfl rfl ?_
    refine v_if_eq (tgt := 16) dX7_tear_11 (by decide) (fun q => absurd q (by decide)) (fun _ => ?_)
    refine v_iload_n dX7_tear_14 rfl rfl ?_
    refine v_ireturn dX7_tear_15 rfl ?_
    exact h1 g1
  · intro g1 g2
    refine v_istore_n (ls' := [_, _, _]) dX7_tear_9 rfl rfl rfl rfl ?_
    refine v_iload_n dX7_tear_10 rfl rfl ?_
    refine v_if_eq (tgt := 16) dX7_tear_11 (by decide) (fun _ => ?_) (fun q => absurd (by decide) q)
    refine v_aload_n dX7_tear_16 rfl rfl ?_
    refine v_getR dX7_tear_17 fX7_14 rfl rfl rfl ?_
    refine v_iload_n dX7_tear_20 rfl rfl ?_
    refine v_callVv [_] dX7_tear_21 lX7_111 kvX4_drop (plX4 _ _) rfl rfl rfl rfl rfl rfl rfl rfl rfl rfl (c_X4_drop_1 g1 ?_)
    refine v_iconst dX7_tear_24 (by decide) ?_
    refine v_ireturn dX7_tear_25 rfl ?_
    exact h2 g1 g2
  · intro g1 g2
    refine v_istore_n (ls' := [_, _, _]) dX7_tear_9 rfl rfl rfl rfl ?_
    refine v_iload_n dX7_tear_10 rfl rfl ?_
    refine v_if_eq (tgt := 16) dX7_tear_11 (by decide) (fun q => absurd q (by decide)) (fun _ => ?_)
    refine v_iload_n dX7_tear_14 rfl rfl ?_
    refine v_ireturn dX7_tear_15 rfl ?_
    exact h3 g1 g2
set_option maxRecDepth 10000 in
theorem c_X7_copy {r i to j n : Int} (hk : ok_1 μ) (hc : fcOK μ) (h1 : ¬ ((0 ≤ r ∧ r < 6) ∧ (0 ≤ to ∧ to < 6)) → Q (I_ (-1)) μ) (h2 : ((0 ≤ r ∧ r < 6) ∧ (0 ≤ to ∧ to < 6)) → n < 0 → Q (I_ (-3)) (fdC μ 5)) (h3 : ((0 ≤ r ∧ r < 6) ∧ (0 ≤ to ∧ to < 6)) → 0 ≤ n → ¬ (0 ≤ sz_1 μ r ∧ 0 ≤ sz_1 μ to) → Q (I_ (-3)) (fdC μ 1)) (h4 : ((0 ≤ r ∧ r < 6) ∧ (0 ≤ to ∧ to < 6)) → 0 ≤ n → (0 ≤ sz_1 μ r ∧ 0 ≤ sz_1 μ to) → ¬ ((0 ≤ i ∧ i ≤ sz_1 μ r - n) ∧ (0 ≤ j ∧ j ≤ sz_1 μ to - n)) → Q (I_ (-3)) (fdC μ 2)) (h5 : ((0 ≤ r ∧ r < 6) ∧ (0 ≤ to ∧ to < 6)) → 0 ≤ n → (0 ≤ sz_1 μ r ∧ 0 ≤ sz_1 μ to) → ((0 ≤ i ∧ i ≤ sz_1 μ r - n) ∧ (0 ≤ j ∧ j ≤ sz_1 μ to - n)) → Q (I_ 1) (mcopy μ 3 (r * 40 + i).toNat (to * 40 + j).toNat n.toNat)) : V_ nX7_copy 0 [R_ 0, I_ r, I_ i, I_ to, I_ j, I_ n] [] μ Q := by
  refine v_aload_n dX7_copy_0 rfl rfl ?_
  refine v_getR dX7_copy_1 fX7_14 rfl rfl rfl ?_
  refine v_iload_n dX7_copy_4 rfl rfl ?_
  refine v_callVi [_] dX7_copy_5 lX7_115 kvX4_knows (plX4 _ _) (Or.inr rfl) rfl rfl rfl rfl rfl rfl rfl rfl rfl (c_X4_knows_1 ?_)
  refine v_ifb_eq (tgt := 22) dX7_copy_8 (by decide) (fun hc_8 => ?_) (fun hc_8 => ?_)
  · refine v_iconst dX7_copy_22 (by decide) ?_
    refine v_ireturn dX7_copy_23 rfl ?_
    first | exact h1 (by omega) | exact h2 (by omega) (by omega) | exact h3 (by omega) (by omega) (by omega) | exact h4 (by omega) (by omega) (by omega) (by omega) | exact h5 (by omega) (by omega) (by omega) (by omega)
  · refine v_aload_n dX7_copy_11 rfl rfl ?_
    refine v_getR dX7_copy_12 fX7_14 rfl rfl rfl ?_
    refine v_iload_n dX7_copy_15 rfl rfl ?_
    refine v_callVi [_] dX7_copy_16 lX7_115 kvX4_knows (plX4 _ _) (Or.inr rfl) rfl rfl rfl rfl rfl rfl rfl rfl rfl (c_X4_knows_1 ?_)
    refine v_ifb_ne (tgt := 24) dX7_copy_19 (by decide) (fun hc_19 => ?_) (fun hc_19 => ?_)
    · refine v_iload dX7_copy_24 rfl ?_
      refine v_if_ge (tgt := 35) dX7_copy_26 (by decide) (fun hc_26 => ?_) (fun hc_26 => ?_)
      · refine v_aload_n dX7_copy_35 rfl rfl ?_
        refine v_getR dX7_copy_36 fX7_14 rfl rfl rfl ?_
        refine v_iload_n dX7_copy_39 rfl rfl ?_
        refine v_callVi [_] dX7_copy_40 lX7_122 kvX4_isThere (plX4 _ _) (Or.inr rfl) rfl rfl rfl rfl rfl rfl rfl rfl rfl (c_X4_isThere_1 ?_)
        refine v_ifb_eq (tgt := 57) dX7_copy_43 (by decide) (fun hc_43 => ?_) (fun hc_43 => ?_)
        · refine v_aload_n dX7_copy_57 rfl rfl ?_
          refine v_iconst dX7_copy_58 (by decide) ?_
          refine v_callVi [_] dX7_copy_59 lX7_119 kvX7_found (plX7 _ _) (Or.inl rfl) rfl rfl rfl rfl rfl rfl rfl rfl rfl (c_X7_found (f := 1) rfl (by decide) hc ?_)
          refine v_ireturn dX7_copy_62 rfl ?_
          first | exact h1 (by omega) | exact h2 (by omega) (by omega) | exact h3 (by omega) (by omega) (by omega) | exact h4 (by omega) (by omega) (by omega) (by omega) | exact h5 (by omega) (by omega) (by omega) (by omega)
        · refine v_aload_n dX7_copy_46 rfl rfl ?_
          refine v_getR dX7_copy_47 fX7_14 rfl rfl rfl ?_
          refine v_iload_n dX7_copy_50 rfl rfl ?_
          refine v_callVi [_] dX7_copy_51 lX7_122 kvX4_isThere (plX4 _ _) (Or.inr rfl) rfl rfl rfl rfl rfl rfl rfl rfl rfl (c_X4_isThere_1 ?_)
          refine v_ifb_ne (tgt := 63) dX7_copy_54 (by decide) (fun hc_54 => ?_) (fun hc_54 => ?_)
          · refine v_aload_n dX7_copy_63 rfl rfl ?_
            refine v_getR dX7_copy_64 fX7_14 rfl rfl rfl ?_
            refine v_iload_n dX7_copy_67 rfl rfl ?_
            refine v_iload_n dX7_copy_68 rfl rfl ?_
            refine v_iload dX7_copy_69 rfl ?_
            refine v_callVi [_, _, _] dX7_copy_71 lX7_125 kvX4_spans (plX4 _ _) (Or.inr rfl) rfl rfl rfl rfl rfl rfl rfl rfl rfl (c_X4_spans_1 hk ?_)
            refine v_ifb_eq (tgt := 92) dX7_copy_74 (by decide) (fun hc_74 => ?_) (fun hc_74 => ?_)
            · refine v_aload_n dX7_copy_92 rfl rfl ?_
              refine v_iconst dX7_copy_93 (by decide) ?_
              refine v_callVi [_] dX7_copy_94 lX7_119 kvX7_found (plX7 _ _) (Or.inl rfl) rfl rfl rfl rfl rfl rfl rfl rfl rfl (c_X7_found (f := 2) rfl (by decide) hc ?_)
              refine v_ireturn dX7_copy_97 rfl ?_
              first | exact h1 (by omega) | exact h2 (by omega) (by omega) | exact h3 (by omega) (by omega) (by omega) | exact h4 (by omega) (by omega) (by omega) (by omega) | exact h5 (by omega) (by omega) (by omega) (by omega)
            · refine v_aload_n dX7_copy_77 rfl rfl ?_
              refine v_getR dX7_copy_78 fX7_14 rfl rfl rfl ?_
              refine v_iload_n dX7_copy_81 rfl rfl ?_
              refine v_iload dX7_copy_82 rfl ?_
              refine v_iload dX7_copy_84 rfl ?_
              refine v_callVi [_, _, _] dX7_copy_86 lX7_125 kvX4_spans (plX4 _ _) (Or.inr rfl) rfl rfl rfl rfl rfl rfl rfl rfl rfl (c_X4_spans_1 hk ?_)
              refine v_ifb_ne (tgt := 98) dX7_copy_89 (by decide) (fun hc_89 => ?_) (fun hc_89 => ?_)
              · refine v_aload_n dX7_copy_98 rfl rfl ?_
                refine v_getR dX7_copy_99 fX7_14 rfl rfl rfl ?_
                refine v_iload_n dX7_copy_102 rfl rfl ?_
                refine v_iload_n dX7_copy_103 rfl rfl ?_
                refine v_iload_n dX7_copy_104 rfl rfl ?_
                refine v_iload dX7_copy_105 rfl ?_
                refine v_iload dX7_copy_107 rfl ?_
                refine v_callVv [_, _, _, _, _] dX7_copy_109 lX7_129 kvX4_move (plX4 _ _) rfl rfl rfl rfl rfl rfl rfl rfl rfl rfl (c_X4_move_1 hk (by omega) (by omega) (by omega) (by omega) ?_)
                refine v_iconst dX7_copy_112 (by decide) ?_
                refine v_ireturn dX7_copy_113 rfl ?_
                first | exact h1 (by omega) | exact h2 (by omega) (by omega) | exact h3 (by omega) (by omega) (by omega) | exact h4 (by omega) (by omega) (by omega) (by omega) | exact h5 (by omega) (by omega) (by omega) (by omega)
              · refine v_aload_n dX7_copy_92 rfl rfl ?_
                refine v_iconst dX7_copy_93 (by decide) ?_
                refine v_callVi [_] dX7_copy_94 lX7_119 kvX7_found (plX7 _ _) (Or.inl rfl) rfl rfl rfl rfl rfl rfl rfl rfl rfl (c_X7_found (f := 2) rfl (by decide) hc ?_)
                refine v_ireturn dX7_copy_97 rfl ?_
                first | exact h1 (by omega) | exact h2 (by omega) (by omega) | exact h3 (by omega) (by omega) (by omega) | exact h4 (by omega) (by omega) (by omega) (by omega) | exact h5 (by omega) (by omega) (by omega) (by omega)
          · refine v_aload_n dX7_copy_57 rfl rfl ?_
            refine v_iconst dX7_copy_58 (by decide) ?_
            refine v_callVi [_] dX7_copy_59 lX7_119 kvX7_found (plX7 _ _) (Or.inl rfl) rfl rfl rfl rfl rfl rfl rfl rfl rfl (c_X7_found (f := 1) rfl (by decide) hc ?_)
            refine v_ireturn dX7_copy_62 rfl ?_
            first | exact h1 (by omega) | exact h2 (by omega) (by omega) | exact h3 (by omega) (by omega) (by omega) | exact h4 (by omega) (by omega) (by omega) (by omega) | exact h5 (by omega) (by omega) (by omega) (by omega)
      · refine v_aload_n dX7_copy_29 rfl rfl ?_
        refine v_iconst dX7_copy_30 (by decide) ?_
        refine v_callVi [_] dX7_copy_31 lX7_119 kvX7_found (plX7 _ _) (Or.inl rfl) rfl rfl rfl rfl rfl rfl rfl rfl rfl (c_X7_found (f := 5) rfl (by decide) hc ?_)
        refine v_ireturn dX7_copy_34 rfl ?_
        first | exact h1 (by omega) | exact h2 (by omega) (by omega) | exact h3 (by omega) (by omega) (by omega) | exact h4 (by omega) (by omega) (by omega) (by omega) | exact h5 (by omega) (by omega) (by omega) (by omega)
    · refine v_iconst dX7_copy_22 (by decide) ?_
      refine v_ireturn dX7_copy_23 rfl ?_
      first | exact h1 (by omega) | exact h2 (by omega) (by omega) | exact h3 (by omega) (by omega) (by omega) | exact h4 (by omega) (by omega) (by omega) (by omega) | exact h5 (by omega) (by omega) (by omega) (by omega)
def sumC (μ : Mem_) (r : Int) : Int := smR (μ 2 r.toNat).toNat (fun i => μ 3 (r.toNat * 40 + i))
set_option maxRecDepth 10000 in
theorem c_X7_mean {r : Int} (hk : ok_1 μ) (hc : fcOK μ) (h1 : ¬ (0 ≤ r ∧ r < 6) → Q (I_ (-1)) μ) (h2 : (0 ≤ r ∧ r < 6) → 0 < sz_1 μ r → Q (I_ 1) (tlC μ (w32 ((sumC μ r).tdiv (μ 2 r.toNat))))) (h3 : (0 ≤ r ∧ r < 6) → ¬ 0 ≤ sz_1 μ r → Q (I_ (-3)) (fdC μ 1)) (h4 : (0 ≤ r ∧ r < 6) → sz_1 μ r = 0 → Q (I_ (-3)) (fdC μ 4)) : V_ nX7_mean 0 [R_ 0, I_ r, U_, U_] [] μ Q := by
  refine v_aload_n dX7_mean_0 rfl rfl ?_
  refine v_aload_n dX7_mean_1 rfl rfl ?_
  refine v_getR dX7_mean_2 fX7_14 rfl rfl rfl ?_
  refine v_iload_n dX7_mean_5 rfl rfl ?_
  refine v_callVi [_, _] dX7_mean_6 lX7_107 kvX7_refusalOf (plX7 _ _) (Or.inl rfl) rfl rfl rfl rfl rfl rfl rfl rfl rfl (c_X7_refusalOf_1 hc ?_ ?_ ?_)
  · intro g1
    refine v_istore_n (ls' := [_, _, _, _]) dX7_mean_9 rfl rfl rfl rfl ?_
    refine v_iload_n dX7_mean_10 rfl rfl ?_
    refine v_if_eq (tgt := 16) dX7_mean_11 (by decide) (fun q => absurd q (by decide)) (fun _ => ?_)
    refine v_iload_n dX7_mean_14 rfl rfl ?_
    refine v_ireturn dX7_mean_15 rfl ?_
    exact h1 g1
  · intro g1 g2
    refine v_istore_n (ls' := [_, _, _, _]) dX7_mean_9 rfl rfl rfl rfl ?_
    refine v_iload_n dX7_mean_10 rfl rfl ?_
    refine v_if_eq (tgt := 16) dX7_mean_11 (by decide) (fun _ => ?_) (fun q => absurd (by decide) q)
    refine v_aload_n dX7_mean_16 rfl rfl ?_
    refine v_getR dX7_mean_17 fX7_14 rfl rfl rfl ?_
    refine v_iload_n dX7_mean_20 rfl rfl ?_
    refine v_callVi [_] dX7_mean_21 lX7_133 kvX4_sizeOf (plX4 _ _) (Or.inl rfl) rfl rfl rfl rfl rfl rfl rfl rfl rfl (c_X4_sizeOf_1 ?_)
    refine v_istore_n (ls' := [_, _, _, _]) dX7_mean_24 rfl rfl rfl rfl ?_
    refine v_iload_n dX7_mean_25 rfl rfl ?_
    refine v_if_gt (tgt := 35) dX7_mean_26 (by decide) (fun hc_26 => ?_) (fun hc_26 => ?_)
    · refine v_aload_n dX7_mean_35 rfl rfl ?_
      refine v_aload_n dX7_mean_36 rfl rfl ?_
      refine v_getR dX7_mean_37 fX7_14 rfl rfl rfl ?_
      refine v_iload_n dX7_mean_40 rfl rfl ?_
      refine v_callVl [_] dX7_mean_41 lX7_136 kvX4_sumOf (plX4 _ _) rfl rfl rfl rfl rfl rfl rfl rfl rfl rfl (c_X4_sumOf_1 hk g1 g2 ?_)
      refine v_iload_n dX7_mean_44 rfl rfl ?_
      refine v_i2l dX7_mean_45 ?_
      refine v_ldiv dX7_mean_46 (by omega) ?_
      refine v_l2i dX7_mean_47 ?_
      refine v_callVi [_] dX7_mean_48 lX7_103 kvX7_tell (plX7 _ _) (Or.inl rfl) rfl rfl rfl rfl rfl rfl rfl rfl rfl (c_X7_tell ?_)
      refine v_ireturn dX7_mean_51 rfl ?_
      have := h2 g1 (by omega)
      unfold sumC at this
      rw [← sze_1 (μ := μ) g1] at this
      exact this
    · refine v_aload_n dX7_mean_29 rfl rfl ?_
      refine v_iconst dX7_mean_30 (by decide) ?_
      refine v_callVi [_] dX7_mean_31 lX7_119 kvX7_found (plX7 _ _) (Or.inl rfl) rfl rfl rfl rfl rfl rfl rfl rfl rfl (c_X7_found (f := 4) rfl (by decide) hc ?_)
      refine v_ireturn dX7_mean_34 rfl ?_
      exact h4 g1 (by omega)
  · intro g1 g2
    refine v_istore_n (ls' := [_, _, _, _]) dX7_mean_9 rfl rfl rfl rfl ?_
    refine v_iload_n dX7_mean_10 rfl rfl ?_
    refine v_if_eq (tgt := 16) dX7_mean_11 (by decide) (fun q => absurd q (by decide)) (fun _ => ?_)
    refine v_iload_n dX7_mean_14 rfl rfl ?_
    refine v_ireturn dX7_mean_15 rfl ?_
    exact h3 g1 g2
set_option maxRecDepth 10000 in
theorem c_X7_asked (h : Q (I_ (μ 0 12)) μ) : V_ nX7_asked 0 [R_ 0] [] μ Q := by
  refine v_aload_n dX7_asked_0 rfl rfl ?_
  refine v_getI dX7_asked_1 fX7_77 rfl rfl rfl ?_
  refine v_ireturn dX7_asked_4 rfl ?_
  exact h
set_option maxRecDepth 10000 in
theorem c_X7_upper (h : Q (L_ (μ 0 13)) μ) : V_ nX7_upper 0 [R_ 0] [] μ Q := by
  refine v_aload_n dX7_upper_0 rfl rfl ?_
  refine v_getL dX7_upper_1 fX7_80 rfl rfl rfl ?_
  refine v_lreturn dX7_upper_4 rfl ?_
  exact h
set_option maxRecDepth 10000 in
theorem c_X7_lower (h : Q (L_ (μ 0 14)) μ) : V_ nX7_lower 0 [R_ 0] [] μ Q := by
  refine v_aload_n dX7_lower_0 rfl rfl ?_
  refine v_getL dX7_lower_1 fX7_84 rfl rfl rfl ?_
  refine v_lreturn dX7_lower_4 rfl ?_
  exact h
set_option maxRecDepth 10000 in
theorem c_X7_finding (h : Q (I_ (μ 0 11)) μ) : V_ nX7_finding 0 [R_ 0] [] μ Q := by
  refine v_aload_n dX7_finding_0 rfl rfl ?_
  refine v_getI dX7_finding_1 fX7_73 rfl rfl rfl ?_
  refine v_ireturn dX7_finding_4 rfl ?_
  exact h
set_option maxRecDepth 10000 in
theorem c_X7_findings {f : Int} (h : Q (I_ (if 1 ≤ f ∧ f ≤ 5 then μ 41 f.toNat else -1)) μ) : V_ nX7_findings 0 [R_ 0, I_ f] [] μ Q := by
  refine v_iload_n dX7_findings_0 rfl rfl ?_
  refine v_iconst dX7_findings_1 (by decide) ?_
  refine v_icmp_lt (tgt := 19) dX7_findings_2 (by decide) (fun hc_2 => ?_) (fun hc_2 => ?_)
  · refine v_iconst dX7_findings_19 (by decide) ?_
    refine v_ireturn dX7_findings_20 rfl ?_
    rwa [if_neg (by omega)] at h
  · refine v_iload_n dX7_findings_5 rfl rfl ?_
    refine v_iconst dX7_findings_6 (by decide) ?_
    refine v_icmp_gt (tgt := 19) dX7_findings_7 (by decide) (fun hc_7 => ?_) (fun hc_7 => ?_)
    · refine v_iconst dX7_findings_19 (by decide) ?_
      refine v_ireturn dX7_findings_20 rfl ?_
      rwa [if_neg (by omega)] at h
    · refine v_aload_n dX7_findings_10 rfl rfl ?_
      refine v_getR dX7_findings_11 fX7_59 rfl rfl rfl ?_
      refine v_iload_n dX7_findings_14 rfl rfl ?_
      refine v_iald dX7_findings_15 rfl (by omega) (by omega) ?_
      refine v_goto (tgt := 20) dX7_findings_16 (by decide) ?_
      refine v_ireturn dX7_findings_20 rfl ?_
      rwa [if_pos (by omega)] at h
end
