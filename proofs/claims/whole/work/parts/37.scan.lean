/-! texts read: figures and numbers -/
abbrev dgQ (tx : Nat → Int) (n i : Nat) : Prop := i < n ∧ 48 ≤ tx i ∧ tx i ≤ 57
def figP (tx : Nat → Int) (n : Nat) (B : Int) (i : Nat) : Nat × Option Int := if dgQ tx n i ∧ tx i - 48 < B then (i + 1, some (tx i - 48)) else (i, none)
def expP (tx : Nat → Int) (n : Nat) (c : Int) (i : Nat) : Nat × Option Int := if i < n ∧ tx i = c then (i + 1, some 0) else (i, none)
def numP (tx : Nat → Int) (n : Nat) (B : Int) (i : Nat) : Nat × Option Int :=
  if dgQ tx n i then
    if dgQ tx n (i + 1) then (if 10 * (tx i - 48) + (tx (i + 1) - 48) < B then (i + 2, some (10 * (tx i - 48) + (tx (i + 1) - 48))) else (i + 2, none))
    else (if tx i - 48 < B then (i + 1, some (tx i - 48)) else (i + 1, none))
  else (i, none)
/-- the text that is scanned -/
def TxC (tx : Nat → Int) (n : Nat) (μ : Mem_) : Prop := n ≤ 120 ∧ μ 26 1 = (n : Int) ∧ ∀ j : Nat, j < n → μ 27 j = tx j ∧ -128 ≤ tx j ∧ tx j < 128
def frS (μ m : Mem_) : Prop := ∀ o k, ¬ (o = 26 ∧ (k = 2 ∨ k = 3)) → m o k = μ o k
theorem frS.tx {tx : Nat → Int} {n : Nat} {μ m : Mem_} (h : frS μ m) (ht : TxC tx n μ) : TxC tx n m := ⟨ht.1, by rw [h 26 1 (by omega)]; exact ht.2.1, fun j hj => by rw [h 27 j (by omega)]; exact ht.2.2 j hj⟩
theorem frS.rf {μ : Mem_} : frS μ μ := fun _ _ _ => rfl
theorem frS.tr {a b c : Mem_} (h1 : frS a b) (h2 : frS b c) : frS a c := fun o k q => by rw [h2 o k q]; exact h1 o k q
section
variable {μ : Mem_} {Q : PV → Mem_ → Prop} {tx : Nat → Int} {n i : Nat}
set_option maxRecDepth 10000 in
theorem c_X3_sign (ht : TxC tx n μ) (hi : μ 26 2 = (i : Int)) (h : Q (I_ (if i < n then tx i else 1000)) μ) : V_ nX3_sign 0 [R_ 26] [] μ Q := by
  obtain ⟨t1, t2, t3⟩ := ht
  have e : i < n → μ 27 i = tx i := fun q => (t3 i q).1
  refine v_aload_n dX3_sign_0 rfl rfl ?_
  refine v_getI dX3_sign_1 fX3_40 rfl rfl rfl ?_
  rw [hi]
  refine v_if_lt (tgt := 30) dX3_sign_4 (by decide) (fun hc_4 => ?_) (fun hc_4 => ?_)
  · refine v_sipush dX3_sign_30 (by decide) ?_
    refine v_ireturn dX3_sign_33 rfl ?_
    omega
  · refine v_aload_n dX3_sign_7 rfl rfl ?_
    refine v_getI dX3_sign_8 fX3_40 rfl rfl rfl ?_
    rw [hi]
    refine v_aload_n dX3_sign_11 rfl rfl ?_
    refine v_getI dX3_sign_12 fX3_34 rfl rfl rfl ?_
    rw [t2]
    refine v_icmp_ge (tgt := 30) dX3_sign_15 (by decide) (fun hc_15 => ?_) (fun hc_15 => ?_)
    · refine v_sipush dX3_sign_30 (by decide) ?_
      refine v_ireturn dX3_sign_33 rfl ?_
      rwa [if_neg (by omega)] at h
    · refine v_aload_n dX3_sign_18 rfl rfl ?_
      refine v_getR dX3_sign_19 fX3_9 rfl rfl rfl ?_
      refine v_aload_n dX3_sign_22 rfl rfl ?_
      refine v_getI dX3_sign_23 fX3_40 rfl rfl rfl ?_
      rw [hi]
      refine v_iald dX3_sign_26 rfl (by omega) (by omega) ?_
      rw [Int.toNat_natCast, e (by omega)]
      refine v_goto (tgt := 33) dX3_sign_27 (by decide) ?_
      refine v_ireturn dX3_sign_33 rfl ?_
      rwa [if_pos (by omega)] at h
set_option maxRecDepth 10000 in
theorem c_X3_stop0 (hi : μ 26 2 = (i : Int)) (hw : μ 26 3 = -9) (h : ∀ m : Mem_, frS μ m → m 26 2 = (i : Int) → m 26 3 = (i : Int) → Q U_ m) : V_ nX3_stop 0 [R_ 26] [] μ Q := by
  refine v_aload_n dX3_stop_0 rfl rfl ?_
  refine v_getI dX3_stop_1 fX3_15 rfl rfl rfl ?_
  refine v_bipush dX3_stop_4 (by decide) ?_
  refine v_icmp_ne (tgt := 17) dX3_stop_6 (by decide) (fun hc_6 => ?_) (fun hc_6 => ?_)
  · refine v_return dX3_stop_17 rfl ?_
    exact absurd hw (by omega)
  · refine v_aload_n dX3_stop_9 rfl rfl ?_
    refine v_aload_n dX3_stop_10 rfl rfl ?_
    refine v_getI dX3_stop_11 fX3_40 rfl rfl rfl ?_
    rw [hi]
    refine v_putI dX3_stop_14 fpX3_15 rfl rfl rfl ?_
    refine v_return dX3_stop_17 rfl ?_
    exact h _ (fun o k q => mset_off (by omega)) (by rw [mset_off (by omega)]; exact hi) (mset_same _ _ _ _)
set_option maxRecDepth 10000 in
theorem c_X3_stop1 (hw : μ 26 3 ≠ -9) (h : Q U_ μ) : V_ nX3_stop 0 [R_ 26] [] μ Q := by
  refine v_aload_n dX3_stop_0 rfl rfl ?_
  refine v_getI dX3_stop_1 fX3_15 rfl rfl rfl ?_
  refine v_bipush dX3_stop_4 (by decide) ?_
  refine v_icmp_ne (tgt := 17) dX3_stop_6 (by decide) (fun hc_6 => ?_) (fun hc_6 => ?_)
  · refine v_return dX3_stop_17 rfl ?_
    exact h
  · refine v_aload_n dX3_stop_9 rfl rfl ?_
    refine v_aload_n dX3_stop_10 rfl rfl ?_
    refine v_getI dX3_stop_11 fX3_40 rfl rfl rfl ?_
    refine v_putI dX3_stop_14 fpX3_15 rfl rfl rfl ?_
    refine v_return dX3_stop_17 rfl ?_
    omega
set_option maxRecDepth 10000 in
theorem c_X3_expect0 {c : Int} (ht : TxC tx n μ) (hi : μ 26 2 = (i : Int)) (hw : μ 26 3 = -9) (hc : c < 1000) (h : ∀ m : Mem_, frS μ m → m 26 2 = ((expP tx n c i).1 : Int) → m 26 3 = (if (expP tx n c i).2 = none then ((expP tx n c i).1 : Int) else -9) → Q U_ m) : V_ nX3_expect 0 [R_ 26, I_ c] [] μ Q := by
  unfold expP at h
  have ht1 := ht.1
  have bad : ¬ (i < n ∧ tx i = c) → V_ nX3_expect 30 [R_ 26, I_ c] [] μ Q := by
    intro hn
    rw [if_neg hn] at h
    refine v_aload_n dX3_expect_30 rfl rfl ?_
    refine v_callVv [] dX3_expect_31 lX3_69 kvX3_stop (plX3 _ _) rfl rfl rfl rfl rfl rfl rfl rfl rfl rfl (c_X3_stop0 hi hw (fun m a1 a2 a3 => ?_))
    refine v_return dX3_expect_34 rfl ?_
    exact h m a1 a2 a3
  refine v_aload_n dX3_expect_0 rfl rfl ?_
  refine v_getI dX3_expect_1 fX3_15 rfl rfl rfl ?_
  refine v_bipush dX3_expect_4 (by decide) ?_
  refine v_icmp_ne (tgt := 30) dX3_expect_6 (by decide) (fun hc_6 => ?_) (fun hc_6 => ?_)
  · first
      | exact absurd hw (by omega)
      | exact bad (by
          intro q
          rw [if_pos q.1] at hc_14
          omega)
  · refine v_aload_n dX3_expect_9 rfl rfl ?_
    refine v_callVi [] dX3_expect_10 lX3_52 kvX3_sign (plX3 _ _) (Or.inl rfl) rfl rfl rfl rfl rfl rfl rfl rfl rfl (c_X3_sign ht hi ?_)
    refine v_iload_n dX3_expect_13 rfl rfl ?_
    refine v_icmp_ne (tgt := 30) dX3_expect_14 (by decide) (fun hc_14 => ?_) (fun hc_14 => ?_)
    · first
        | exact absurd hw (by omega)
        | exact bad (by
            intro q
            rw [if_pos q.1] at hc_14
            omega)
    · refine v_aload_n dX3_expect_17 rfl rfl ?_
      refine v_dupR_ dX3_expect_18 ?_
      refine v_getI dX3_expect_19 fX3_40 rfl rfl rfl ?_
      rw [hi]
      refine v_iconst dX3_expect_22 (by decide) ?_
      refine v_iadd dX3_expect_23 (fun ha hb => by omega) ?_
      refine v_putI dX3_expect_24 fpX3_40 rfl rfl rfl ?_
      refine v_goto (tgt := 34) dX3_expect_27 (by decide) ?_
      refine v_return dX3_expect_34 rfl ?_
      have hy : i < n ∧ tx i = c := by
        by_cases q : i < n
        · rw [if_pos q] at hc_14; exact ⟨q, by omega⟩
        · rw [if_neg q] at hc_14; omega
      rw [if_pos hy] at h
      exact h _ (fun o k q => mset_off (by omega)) (by rw [mset_same]; show (i : Int) + 1 = ((i + 1 : Nat) : Int); omega) (by rw [mset_off (by omega)]; exact hw)
set_option maxRecDepth 10000 in
theorem c_X3_expect1 {c : Int} (hw : μ 26 3 ≠ -9) (h : Q U_ μ) : V_ nX3_expect 0 [R_ 26, I_ c] [] μ Q := by
  refine v_aload_n dX3_expect_0 rfl rfl ?_
  refine v_getI dX3_expect_1 fX3_15 rfl rfl rfl ?_
  refine v_bipush dX3_expect_4 (by decide) ?_
  refine v_icmp_ne (tgt := 30) dX3_expect_6 (by decide) (fun hc_6 => ?_) (fun hc_6 => ?_)
  · refine v_aload_n dX3_expect_30 rfl rfl ?_
    refine v_callVv [] dX3_expect_31 lX3_69 kvX3_stop (plX3 _ _) rfl rfl rfl rfl rfl rfl rfl rfl rfl rfl (c_X3_stop1 hw ?_)
    refine v_return dX3_expect_34 rfl ?_
    exact h
  · omega
set_option maxRecDepth 10000 in
theorem c_X3_figure0 {B : Int} (ht : TxC tx n μ) (hi : μ 26 2 = (i : Int)) (hw : μ 26 3 = -9) (h : ∀ m : Mem_, frS μ m → m 26 2 = ((figP tx n B i).1 : Int) → m 26 3 = (if (figP tx n B i).2 = none then ((figP tx n B i).1 : Int) else -9) → Q (I_ ((figP tx n B i).2.getD 0)) m) : V_ nX3_figure 0 [R_ 26, I_ B, U_] [] μ Q := by
  unfold figP at h
  have ht1 := ht.1
  have hb : -128 ≤ (if i < n then tx i else 1000) ∧ (if i < n then tx i else 1000) ≤ 1000 := by
    split
    · rename_i q; have := (ht.2.2 i q).2; omega
    · omega
  have bad : ¬ (dgQ tx n i ∧ tx i - 48 < B) → V_ nX3_figure 32 [R_ 26, I_ B, U_] [] μ Q := by
    intro hn
    rw [if_neg hn] at h
    refine v_aload_n dX3_figure_32 rfl rfl ?_
    refine v_callVv [] dX3_figure_33 lX3_69 kvX3_stop (plX3 _ _) rfl rfl rfl rfl rfl rfl rfl rfl rfl rfl (c_X3_stop0 hi hw (fun m a1 a2 a3 => ?_))
    refine v_iconst dX3_figure_36 (by decide) ?_
    refine v_ireturn dX3_figure_37 rfl ?_
    exact h m a1 a2 a3
  refine v_aload_n dX3_figure_0 rfl rfl ?_
  refine v_callVi [] dX3_figure_1 lX3_52 kvX3_sign (plX3 _ _) (Or.inl rfl) rfl rfl rfl rfl rfl rfl rfl rfl rfl (c_X3_sign ht hi ?_)
  refine v_bipush dX3_figure_4 (by decide) ?_
  refine v_isub dX3_figure_6 (fun ha hb => by omega) ?_
  refine v_istore_n (ls' := [_, _, _]) dX3_figure_7 rfl rfl rfl rfl ?_
  refine v_aload_n dX3_figure_8 rfl rfl ?_
  refine v_getI dX3_figure_9 fX3_15 rfl rfl rfl ?_
  refine v_bipush dX3_figure_12 (by decide) ?_
  refine v_icmp_ne (tgt := 32) dX3_figure_14 (by decide) (fun hc_14 => ?_) (fun hc_14 => ?_)
  · refine v_kill (ls' := [_, _, _]) 2 rfl ?_
    first
      | exact absurd hw (by omega)
      | exact bad (by
          intro q
          rw [if_pos q.1.1] at *
          omega)
  · refine v_iload_n dX3_figure_17 rfl rfl ?_
    refine v_if_lt (tgt := 32) dX3_figure_18 (by decide) (fun hc_18 => ?_) (fun hc_18 => ?_)
    · refine v_kill (ls' := [_, _, _]) 2 rfl ?_
      first
        | exact absurd hw (by omega)
        | exact bad (by
            intro q
            rw [if_pos q.1.1] at *
            omega)
    · refine v_iload_n dX3_figure_21 rfl rfl ?_
      refine v_bipush dX3_figure_22 (by decide) ?_
      refine v_icmp_gt (tgt := 32) dX3_figure_24 (by decide) (fun hc_24 => ?_) (fun hc_24 => ?_)
      · refine v_kill (ls' := [_, _, _]) 2 rfl ?_
        first
          | exact absurd hw (by omega)
          | exact bad (by
              intro q
              rw [if_pos q.1.1] at *
              omega)
      · refine v_iload_n dX3_figure_27 rfl rfl ?_
        refine v_iload_n dX3_figure_28 rfl rfl ?_
        refine v_icmp_lt (tgt := 38) dX3_figure_29 (by decide) (fun hc_29 => ?_) (fun hc_29 => ?_)
        · refine v_aload_n dX3_figure_38 rfl rfl ?_
          refine v_dupR_ dX3_figure_39 ?_
          refine v_getI dX3_figure_40 fX3_40 rfl rfl rfl ?_
          rw [hi]
          refine v_iconst dX3_figure_43 (by decide) ?_
          refine v_iadd dX3_figure_44 (fun ha hb => by omega) ?_
          refine v_putI dX3_figure_45 fpX3_40 rfl rfl rfl ?_
          refine v_iload_n dX3_figure_48 rfl rfl ?_
          refine v_ireturn dX3_figure_49 rfl ?_
          have hin : i < n := by
            by_cases q : i < n
            · exact q
            · rw [if_neg q] at hc_24; omega
          rw [if_pos hin] at *
          rw [if_pos ⟨⟨hin, by omega, by omega⟩, by omega⟩] at h
          exact h _ (fun o k q => mset_off (by omega)) (by rw [mset_same]; show (i : Int) + 1 = ((i + 1 : Nat) : Int); omega) (by rw [mset_off (by omega)]; exact hw)
        · refine v_kill (ls' := [_, _, _]) 2 rfl ?_
          first
            | exact absurd hw (by omega)
            | exact bad (by
                intro q
                rw [if_pos q.1.1] at *
                omega)
set_option maxRecDepth 10000 in
theorem c_X3_figure1 {B : Int} (ht : TxC tx n μ) (hi : μ 26 2 = (i : Int)) (hw : μ 26 3 ≠ -9) (h : Q (I_ 0) μ) : V_ nX3_figure 0 [R_ 26, I_ B, U_] [] μ Q := by
  have hb : -128 ≤ (if i < n then tx i else 1000) ∧ (if i < n then tx i else 1000) ≤ 1000 := by
    split
    · rename_i q; have := (ht.2.2 i q).2; omega
    · omega
  refine v_aload_n dX3_figure_0 rfl rfl ?_
  refine v_callVi [] dX3_figure_1 lX3_52 kvX3_sign (plX3 _ _) (Or.inl rfl) rfl rfl rfl rfl rfl rfl rfl rfl rfl (c_X3_sign ht hi ?_)
  refine v_bipush dX3_figure_4 (by decide) ?_
  refine v_isub dX3_figure_6 (fun ha hb => by omega) ?_
  refine v_istore_n (ls' := [_, _, _]) dX3_figure_7 rfl rfl rfl rfl ?_
  refine v_aload_n dX3_figure_8 rfl rfl ?_
  refine v_getI dX3_figure_9 fX3_15 rfl rfl rfl ?_
  refine v_bipush dX3_figure_12 (by decide) ?_
  refine v_icmp_ne (tgt := 32) dX3_figure_14 (by decide) (fun hc_14 => ?_) (fun hc_14 => ?_)
  · refine v_aload_n dX3_figure_32 rfl rfl ?_
    refine v_callVv [] dX3_figure_33 lX3_69 kvX3_stop (plX3 _ _) rfl rfl rfl rfl rfl rfl rfl rfl rfl rfl (c_X3_stop1 hw ?_)
    refine v_iconst dX3_figure_36 (by decide) ?_
    refine v_ireturn dX3_figure_37 rfl ?_
    exact h
  · omega
theorem fig10 (tx : Nat → Int) (n i : Nat) : figP tx n 10 i = if dgQ tx n i then (i + 1, some (tx i - 48)) else (i, none) := by
  unfold figP
  by_cases q : dgQ tx n i
  · rw [if_pos q, if_pos ⟨q, by omega⟩]
  · rw [if_neg q, if_neg (fun z => q z.1)]
theorem sgn_d (ht : TxC tx n μ) (i : Nat) : (-128 ≤ (if i < n then tx i else 1000) ∧ (if i < n then tx i else 1000) ≤ 1000) ∧ ((48 ≤ (if i < n then tx i else 1000) ∧ (if i < n then tx i else 1000) ≤ 57) ↔ dgQ tx n i) := by
  split
  · rename_i q
    have := (ht.2.2 i q).2
    exact ⟨by omega, by constructor <;> intro z <;> first | exact ⟨q, z⟩ | exact z.2⟩
  · rename_i q
    exact ⟨by omega, by constructor <;> intro z <;> omega⟩
set_option maxRecDepth 10000 in
set_option maxHeartbeats 1000000 in
theorem c_X3_number0 {B : Int} (ht : TxC tx n μ) (hi : μ 26 2 = (i : Int)) (hw : μ 26 3 = -9) (h : ∀ (m : Mem_) (r : Int), frS μ m → m 26 2 = ((numP tx n B i).1 : Int) → m 26 3 = (if (numP tx n B i).2 = none then ((numP tx n B i).1 : Int) else -9) → (∀ v, (numP tx n B i).2 = some v → r = v) → Q (I_ r) m) : V_ nX3_number 0 [R_ 26, I_ B, U_] [] μ Q := by
  have ht1 := ht.1
  obtain ⟨s1, s2⟩ := sgn_d ht i
  obtain ⟨s3, s4⟩ := sgn_d ht (i + 1)
  have f1 := fig10 tx n i
  have f2 := fig10 tx n (i + 1)
  unfold numP at h
  by_cases d0 : dgQ tx n i
  · rw [if_pos d0] at f1 h
    by_cases d1 : dgQ tx n (i + 1)
    · rw [if_pos d1] at f2 h
      have hsg := s4.mpr d1
      refine v_aload_n dX3_number_0 rfl rfl ?_
      refine v_bipush dX3_number_1 (by decide) ?_
      refine v_callVi [_] dX3_number_3 lX3_79 kvX3_figure (plX3 _ _) (Or.inl rfl) rfl rfl rfl rfl rfl rfl rfl rfl rfl (c_X3_figure0 ht hi hw (fun m1 a1 a2 a3 => ?_))
      rw [f1] at a2 a3 ⊢
      have a2 : m1 26 2 = ((i + 1 : Nat) : Int) := a2
      have a3 : m1 26 3 = -9 := a3
      show V_ _ _ _ [I_ (tx i - 48)] _ _
      refine v_istore_n (ls' := [_, _, _]) dX3_number_6 rfl rfl rfl rfl ?_
      refine v_aload_n dX3_number_7 rfl rfl ?_
      refine v_callVi [] dX3_number_8 lX3_52 kvX3_sign (plX3 _ _) (Or.inl rfl) rfl rfl rfl rfl rfl rfl rfl rfl rfl (c_X3_sign (a1.tx ht) a2 ?_)
      refine v_bipush dX3_number_11 (by decide) ?_
      refine v_icmp_lt (tgt := 37) dX3_number_13 (by decide) (fun hc_13 => ?_) (fun hc_13 => ?_)
      · omega
      · refine v_aload_n dX3_number_16 rfl rfl ?_
        refine v_callVi [] dX3_number_17 lX3_52 kvX3_sign (plX3 _ _) (Or.inl rfl) rfl rfl rfl rfl rfl rfl rfl rfl rfl (c_X3_sign (a1.tx ht) a2 ?_)
        refine v_bipush dX3_number_20 (by decide) ?_
        refine v_icmp_gt (tgt := 37) dX3_number_22 (by decide) (fun hc_22 => ?_) (fun hc_22 => ?_)
        · omega
        · refine v_bipush dX3_number_25 (by decide) ?_
          refine v_iload_n dX3_number_27 rfl rfl ?_
          refine v_imul dX3_number_28 (fun ha hb => by omega) ?_
          refine v_aload_n dX3_number_29 rfl rfl ?_
          refine v_bipush dX3_number_30 (by decide) ?_
          refine v_callVi [_] dX3_number_32 lX3_79 kvX3_figure (plX3 _ _) (Or.inl rfl) rfl rfl rfl rfl rfl rfl rfl rfl rfl (c_X3_figure0 (a1.tx ht) a2 a3 (fun m2 b1 b2 b3 => ?_))
          rw [f2] at b2 b3 ⊢
          have b2 : m2 26 2 = ((i + 2 : Nat) : Int) := b2
          have b3 : m2 26 3 = -9 := b3
          show V_ _ _ _ [I_ (tx (i + 1) - 48), I_ _] _ _
          refine v_iadd dX3_number_35 (fun ha hb => by omega) ?_
          refine v_istore_n (ls' := [_, _, _]) dX3_number_36 rfl rfl rfl rfl ?_
          skip
          refine v_iload_n dX3_number_37 rfl rfl ?_
          refine v_iload_n dX3_number_38 rfl rfl ?_
          refine v_icmp_lt (tgt := 46) dX3_number_39 (by decide) (fun hc_39 => ?_) (fun hc_39 => ?_)
          · refine v_iload_n dX3_number_46 rfl rfl ?_
            refine v_ireturn dX3_number_47 rfl ?_
            rw [if_pos (by omega)] at h
            exact h m2 _ (a1.tr b1) b2 b3 (fun v hv => by cases hv; rfl)
          · refine v_aload_n dX3_number_42 rfl rfl ?_
            refine v_callVv [] dX3_number_43 lX3_69 kvX3_stop (plX3 _ _) rfl rfl rfl rfl rfl rfl rfl rfl rfl rfl (c_X3_stop0 b2 b3 (fun m3 c1 c2 c3 => ?_))
            refine v_iload_n dX3_number_46 rfl rfl ?_
            refine v_ireturn dX3_number_47 rfl ?_
            rw [if_neg (by omega)] at h
            exact h m3 _ ((a1.tr b1).tr c1) c2 c3 (fun v hv => by cases hv)
    · rw [if_neg d1] at f2 h
      have hsg : ¬ _ := fun q => d1 (s4.mp q)
      have fin : ∀ m1 : Mem_, frS μ m1 → m1 26 2 = ((i + 1 : Nat) : Int) → m1 26 3 = -9 → V_ nX3_number 37 [R_ 26, I_ B, I_ (tx i - 48)] [] m1 Q := by
        intro m1 a1 a2 a3
        refine v_iload_n dX3_number_37 rfl rfl ?_
        refine v_iload_n dX3_number_38 rfl rfl ?_
        refine v_icmp_lt (tgt := 46) dX3_number_39 (by decide) (fun hc_39 => ?_) (fun hc_39 => ?_)
        · refine v_iload_n dX3_number_46 rfl rfl ?_
          refine v_ireturn dX3_number_47 rfl ?_
          rw [if_pos (by omega)] at h
          exact h m1 _ a1 a2 a3 (fun v hv => by cases hv; rfl)
        · refine v_aload_n dX3_number_42 rfl rfl ?_
          refine v_callVv [] dX3_number_43 lX3_69 kvX3_stop (plX3 _ _) rfl rfl rfl rfl rfl rfl rfl rfl rfl rfl (c_X3_stop0 a2 a3 (fun m3 c1 c2 c3 => ?_))
          refine v_iload_n dX3_number_46 rfl rfl ?_
          refine v_ireturn dX3_number_47 rfl ?_
          rw [if_neg (by omega)] at h
          exact h m3 _ (a1.tr c1) c2 c3 (fun v hv => by cases hv)
      refine v_aload_n dX3_number_0 rfl rfl ?_
      refine v_bipush dX3_number_1 (by decide) ?_
      refine v_callVi [_] dX3_number_3 lX3_79 kvX3_figure (plX3 _ _) (Or.inl rfl) rfl rfl rfl rfl rfl rfl rfl rfl rfl (c_X3_figure0 ht hi hw (fun m1 a1 a2 a3 => ?_))
      rw [f1] at a2 a3 ⊢
      have a2 : m1 26 2 = ((i + 1 : Nat) : Int) := a2
      have a3 : m1 26 3 = -9 := a3
      show V_ _ _ _ [I_ (tx i - 48)] _ _
      refine v_istore_n (ls' := [_, _, _]) dX3_number_6 rfl rfl rfl rfl ?_
      refine v_aload_n dX3_number_7 rfl rfl ?_
      refine v_callVi [] dX3_number_8 lX3_52 kvX3_sign (plX3 _ _) (Or.inl rfl) rfl rfl rfl rfl rfl rfl rfl rfl rfl (c_X3_sign (a1.tx ht) a2 ?_)
      refine v_bipush dX3_number_11 (by decide) ?_
      refine v_icmp_lt (tgt := 37) dX3_number_13 (by decide) (fun hc_13 => ?_) (fun hc_13 => ?_)
      · exact fin m1 a1 a2 a3
      · refine v_aload_n dX3_number_16 rfl rfl ?_
        refine v_callVi [] dX3_number_17 lX3_52 kvX3_sign (plX3 _ _) (Or.inl rfl) rfl rfl rfl rfl rfl rfl rfl rfl rfl (c_X3_sign (a1.tx ht) a2 ?_)
        refine v_bipush dX3_number_20 (by decide) ?_
        refine v_icmp_gt (tgt := 37) dX3_number_22 (by decide) (fun hc_22 => ?_) (fun hc_22 => ?_)
        · exact fin m1 a1 a2 a3
        · omega
  · rw [if_neg d0] at f1 h
    have hsg : ¬ _ := fun q => d0 (s2.mp q)
    have fin : ∀ m1 : Mem_, frS μ m1 → m1 26 2 = (i : Int) → m1 26 3 = (i : Int) → V_ nX3_number 37 [R_ 26, I_ B, I_ 0] [] m1 Q := by
      intro m1 a1 a2 a3
      refine v_iload_n dX3_number_37 rfl rfl ?_
      refine v_iload_n dX3_number_38 rfl rfl ?_
      refine v_icmp_lt (tgt := 46) dX3_number_39 (by decide) (fun hc_39 => ?_) (fun hc_39 => ?_)
      · refine v_iload_n dX3_number_46 rfl rfl ?_
        refine v_ireturn dX3_number_47 rfl ?_
        exact h m1 _ a1 a2 a3 (fun v hv => by cases hv)
      · refine v_aload_n dX3_number_42 rfl rfl ?_
        refine v_callVv [] dX3_number_43 lX3_69 kvX3_stop (plX3 _ _) rfl rfl rfl rfl rfl rfl rfl rfl rfl rfl (c_X3_stop1 (by omega) ?_)
        refine v_iload_n dX3_number_46 rfl rfl ?_
        refine v_ireturn dX3_number_47 rfl ?_
        exact h m1 _ a1 a2 a3 (fun v hv => by cases hv)
    refine v_aload_n dX3_number_0 rfl rfl ?_
    refine v_bipush dX3_number_1 (by decide) ?_
    refine v_callVi [_] dX3_number_3 lX3_79 kvX3_figure (plX3 _ _) (Or.inl rfl) rfl rfl rfl rfl rfl rfl rfl rfl rfl (c_X3_figure0 ht hi hw (fun m1 a1 a2 a3 => ?_))
    rw [f1] at a2 a3 ⊢
    have a2 : m1 26 2 = (i : Int) := a2
    have a3 : m1 26 3 = (i : Int) := a3
    show V_ _ _ _ [I_ 0] _ _
    refine v_istore_n (ls' := [_, _, _]) dX3_number_6 rfl rfl rfl rfl ?_
    refine v_aload_n dX3_number_7 rfl rfl ?_
    refine v_callVi [] dX3_number_8 lX3_52 kvX3_sign (plX3 _ _) (Or.inl rfl) rfl rfl rfl rfl rfl rfl rfl rfl rfl (c_X3_sign (a1.tx ht) a2 ?_)
    refine v_bipush dX3_number_11 (by decide) ?_
    refine v_icmp_lt (tgt := 37) dX3_number_13 (by decide) (fun hc_13 => ?_) (fun hc_13 => ?_)
    · exact fin m1 a1 a2 a3
    · refine v_aload_n dX3_number_16 rfl rfl ?_
      refine v_callVi [] dX3_number_17 lX3_52 kvX3_sign (plX3 _ _) (Or.inl rfl) rfl rfl rfl rfl rfl rfl rfl rfl rfl (c_X3_sign (a1.tx ht) a2 ?_)
      refine v_bipush dX3_number_20 (by decide) ?_
      refine v_icmp_gt (tgt := 37) dX3_number_22 (by decide) (fun hc_22 => ?_) (fun hc_22 => ?_)
      · exact fin m1 a1 a2 a3
      · omega
set_option maxRecDepth 10000 in
theorem c_X3_number1 {B : Int} (ht : TxC tx n μ) (hi : μ 26 2 = (i : Int)) (hw : μ 26 3 ≠ -9) (h : Q (I_ 0) μ) : V_ nX3_number 0 [R_ 26, I_ B, U_] [] μ Q := by
  have fin : V_ nX3_number 37 [R_ 26, I_ B, I_ 0] [] μ Q := by
    refine v_iload_n dX3_number_37 rfl rfl ?_
    refine v_iload_n dX3_number_38 rfl rfl ?_
    refine v_icmp_lt (tgt := 46) dX3_number_39 (by decide) (fun hc_39 => ?_) (fun hc_39 => ?_)
    · refine v_iload_n dX3_number_46 rfl rfl ?_
      refine v_ireturn dX3_number_47 rfl ?_
      exact h
    · refine v_aload_n dX3_number_42 rfl rfl ?_
      refine v_callVv [] dX3_number_43 lX3_69 kvX3_stop (plX3 _ _) rfl rfl rfl rfl rfl rfl rfl rfl rfl rfl (c_X3_stop1 hw ?_)
      refine v_iload_n dX3_number_46 rfl rfl ?_
      refine v_ireturn dX3_number_47 rfl ?_
      exact h
  refine v_aload_n dX3_number_0 rfl rfl ?_
  refine v_bipush dX3_number_1 (by decide) ?_
  refine v_callVi [_] dX3_number_3 lX3_79 kvX3_figure (plX3 _ _) (Or.inl rfl) rfl rfl rfl rfl rfl rfl rfl rfl rfl (c_X3_figure1 ht hi hw ?_)
  refine v_istore_n (ls' := [_, _, _]) dX3_number_6 rfl rfl rfl rfl ?_
  refine v_aload_n dX3_number_7 rfl rfl ?_
  refine v_callVi [] dX3_number_8 lX3_52 kvX3_sign (plX3 _ _) (Or.inl rfl) rfl rfl rfl rfl rfl rfl rfl rfl rfl (c_X3_sign ht hi ?_)
  refine v_bipush dX3_number_11 (by decide) ?_
  refine v_icmp_lt (tgt := 37) dX3_number_13 (by decide) (fun hc_13 => ?_) (fun hc_13 => ?_)
  · exact fin
  · refine v_aload_n dX3_number_16 rfl rfl ?_
    refine v_callVi [] dX3_number_17 lX3_52 kvX3_sign (plX3 _ _) (Or.inl rfl) rfl rfl rfl rfl rfl rfl rfl rfl rfl (c_X3_sign ht hi ?_)
    refine v_bipush dX3_number_20 (by decide) ?_
    refine v_icmp_gt (tgt := 37) dX3_number_22 (by decide) (fun hc_22 => ?_) (fun hc_22 => ?_)
    · exact fin
    · refine v_bipush dX3_number_25 (by decide) ?_
      refine v_iload_n dX3_number_27 rfl rfl ?_
      refine v_imul dX3_number_28 (fun ha hb => by omega) ?_
      refine v_aload_n dX3_number_29 rfl rfl ?_
      refine v_bipush dX3_number_30 (by decide) ?_
      refine v_callVi [_] dX3_number_32 lX3_79 kvX3_figure (plX3 _ _) (Or.inl rfl) rfl rfl rfl rfl rfl rfl rfl rfl rfl (c_X3_figure1 ht hi hw ?_)
      refine v_iadd dX3_number_35 (fun ha hb => by omega) ?_
      refine v_istore_n (ls' := [_, _, _]) dX3_number_36 rfl rfl rfl rfl ?_
      exact fin
end
