/-! Log, Street -/
abbrev mkK (k : Int) : Prop := k = 1 ∨ k = 2
abbrev ofK (k w : Int) : Prop := k = w ∨ (k = 2 ∧ w = 1) ∨ (k = 5 ∧ w = 4)
section
variable {μ : Mem_} {Q : PV → Mem_ → Prop}
set_option maxRecDepth 10000 in
theorem c_X0_makesKey {k : Int} (h : Q (I_ (b2i (mkK k))) μ) : V_ nX0_makesKey 0 [I_ k] [] μ Q := by
  refine v_iload_n dX0_makesKey_0 rfl rfl ?_
  refine v_iconst dX0_makesKey_1 (by decide) ?_
  refine v_icmp_eq (tgt := 10) dX0_makesKey_2 (by decide) (fun hc_2 => ?_) (fun hc_2 => ?_)
  · refine v_iconst dX0_makesKey_10 (by decide) ?_
    refine v_goto (tgt := 15) dX0_makesKey_11 (by decide) ?_
    refine v_zreturn dX0_makesKey_15 rfl (by first | exact Or.inl rfl | exact Or.inr rfl | exact b2i_01 _ | assumption) ?_
    rwa [b2i_t (by omega)] at h
  · refine v_iload_n dX0_makesKey_5 rfl rfl ?_
    refine v_iconst dX0_makesKey_6 (by decide) ?_
    refine v_icmp_ne (tgt := 14) dX0_makesKey_7 (by decide) (fun hc_7 => ?_) (fun hc_7 => ?_)
    · refine v_iconst dX0_makesKey_14 (by decide) ?_
      refine v_zreturn dX0_makesKey_15 rfl (by first | exact Or.inl rfl | exact Or.inr rfl | exact b2i_01 _ | assumption) ?_
      rwa [b2i_f (by omega)] at h
    · refine v_iconst dX0_makesKey_10 (by decide) ?_
      refine v_goto (tgt := 15) dX0_makesKey_11 (by decide) ?_
      refine v_zreturn dX0_makesKey_15 rfl (by first | exact Or.inl rfl | exact Or.inr rfl | exact b2i_01 _ | assumption) ?_
      rwa [b2i_t (by omega)] at h
set_option maxRecDepth 10000 in
theorem c_X0_isOfKind {k w : Int} (h : Q (I_ (b2i (ofK k w))) μ) : V_ nX0_isOfKind 0 [I_ k, I_ w] [] μ Q := by
  refine v_iload_n dX0_isOfKind_0 rfl rfl ?_
  refine v_iload_n dX0_isOfKind_1 rfl rfl ?_
  refine v_icmp_eq (tgt := 25) dX0_isOfKind_2 (by decide) (fun hc_2 => ?_) (fun hc_2 => ?_)
  · refine v_iconst dX0_isOfKind_25 (by decide) ?_
    refine v_goto (tgt := 30) dX0_isOfKind_26 (by decide) ?_
    refine v_zreturn dX0_isOfKind_30 rfl (by first | exact Or.inl rfl | exact Or.inr rfl | exact b2i_01 _ | assumption) ?_
    first | (rwa [b2i_t (by omega)] at h) | (rwa [b2i_f (by omega)] at h)
  · refine v_iload_n dX0_isOfKind_5 rfl rfl ?_
    refine v_iconst dX0_isOfKind_6 (by decide) ?_
    refine v_icmp_ne (tgt := 15) dX0_isOfKind_7 (by decide) (fun hc_7 => ?_) (fun hc_7 => ?_)
    · refine v_iload_n dX0_isOfKind_15 rfl rfl ?_
      refine v_iconst dX0_isOfKind_16 (by decide) ?_
      refine v_icmp_ne (tgt := 29) dX0_isOfKind_17 (by decide) (fun hc_17 => ?_) (fun hc_17 => ?_)
      · refine v_iconst dX0_isOfKind_29 (by decide) ?_
        refine v_zreturn dX0_isOfKind_30 rfl (by first | exact Or.inl rfl | exact Or.inr rfl | exact b2i_01 _ | assumption) ?_
        first | (rwa [b2i_t (by omega)] at h) | (rwa [b2i_f (by omega)] at h)
      · refine v_iload_n dX0_isOfKind_20 rfl rfl ?_
        refine v_iconst dX0_isOfKind_21 (by decide) ?_
        refine v_icmp_ne (tgt := 29) dX0_isOfKind_22 (by decide) (fun hc_22 => ?_) (fun hc_22 => ?_)
        · refine v_iconst dX0_isOfKind_29 (by decide) ?_
          refine v_zreturn dX0_isOfKind_30 rfl (by first | exact Or.inl rfl | exact Or.inr rfl | exact b2i_01 _ | assumption) ?_
          first | (rwa [b2i_t (by omega)] at h) | (rwa [b2i_f (by omega)] at h)
        · refine v_iconst dX0_isOfKind_25 (by decide) ?_
          refine v_goto (tgt := 30) dX0_isOfKind_26 (by decide) ?_
          refine v_zreturn dX0_isOfKind_30 rfl (by first | exact Or.inl rfl | exact Or.inr rfl | exact b2i_01 _ | assumption) ?_
          first | (rwa [b2i_t (by omega)] at h) | (rwa [b2i_f (by omega)] at h)
    · refine v_iload_n dX0_isOfKind_10 rfl rfl ?_
      refine v_iconst dX0_isOfKind_11 (by decide) ?_
      refine v_icmp_eq (tgt := 25) dX0_isOfKind_12 (by decide) (fun hc_12 => ?_) (fun hc_12 => ?_)
      · refine v_iconst dX0_isOfKind_25 (by decide) ?_
        refine v_goto (tgt := 30) dX0_isOfKind_26 (by decide) ?_
        refine v_zreturn dX0_isOfKind_30 rfl (by first | exact Or.inl rfl | exact Or.inr rfl | exact b2i_01 _ | assumption) ?_
        first | (rwa [b2i_t (by omega)] at h) | (rwa [b2i_f (by omega)] at h)
      · refine v_iload_n dX0_isOfKind_15 rfl rfl ?_
        refine v_iconst dX0_isOfKind_16 (by decide) ?_
        refine v_icmp_ne (tgt := 29) dX0_isOfKind_17 (by decide) (fun hc_17 => ?_) (fun hc_17 => ?_)
        · refine v_iconst dX0_isOfKind_29 (by decide) ?_
          refine v_zreturn dX0_isOfKind_30 rfl (by first | exact Or.inl rfl | exact Or.inr rfl | exact b2i_01 _ | assumption) ?_
          first | (rwa [b2i_t (by omega)] at h) | (rwa [b2i_f (by omega)] at h)
        · refine v_iload_n dX0_isOfKind_20 rfl rfl ?_
          refine v_iconst dX0_isOfKind_21 (by decide) ?_
          refine v_icmp_ne (tgt := 29) dX0_isOfKind_22 (by decide) (fun hc_22 => ?_) (fun hc_22 => ?_)
          · refine v_iconst dX0_isOfKind_29 (by decide) ?_
            refine v_zreturn dX0_isOfKind_30 rfl (by first | exact Or.inl rfl | exact Or.inr rfl | exact b2i_01 _ | assumption) ?_
            first | (rwa [b2i_t (by omega)] at h) | (rwa [b2i_f (by omega)] at h)
          · refine v_iconst dX0_isOfKind_25 (by decide) ?_
            refine v_goto (tgt := 30) dX0_isOfKind_26 (by decide) ?_
            refine v_zreturn dX0_isOfKind_30 rfl (by first | exact Or.inl rfl | exact Or.inr rfl | exact b2i_01 _ | assumption) ?_
            first | (rwa [b2i_t (by omega)] at h) | (rwa [b2i_f (by omega)] at h)
set_option maxRecDepth 10000 in
theorem c_X0_knows {e : Int} (h : Q (I_ (b2i (0 ≤ e ∧ e < μ 7 0))) μ) : V_ nX0_knows 0 [R_ 7, I_ e] [] μ Q := by
  refine v_iload_n dX0_knows_0 rfl rfl ?_
  refine v_if_lt (tgt := 16) dX0_knows_1 (by decide) (fun hc_1 => ?_) (fun hc_1 => ?_)
  · refine v_iconst dX0_knows_16 (by decide) ?_
    refine v_zreturn dX0_knows_17 rfl (by first | exact Or.inl rfl | exact Or.inr rfl | exact b2i_01 _ | assumption) ?_
    first | (rwa [b2i_t (by omega)] at h) | (rwa [b2i_f (by omega)] at h)
  · refine v_iload_n dX0_knows_4 rfl rfl ?_
    refine v_aload_n dX0_knows_5 rfl rfl ?_
    refine v_getI dX0_knows_6 fX0_24 rfl rfl rfl ?_
    refine v_icmp_ge (tgt := 16) dX0_knows_9 (by decide) (fun hc_9 => ?_) (fun hc_9 => ?_)
    · refine v_iconst dX0_knows_16 (by decide) ?_
      refine v_zreturn dX0_knows_17 rfl (by first | exact Or.inl rfl | exact Or.inr rfl | exact b2i_01 _ | assumption) ?_
      first | (rwa [b2i_t (by omega)] at h) | (rwa [b2i_f (by omega)] at h)
    · refine v_iconst dX0_knows_12 (by decide) ?_
      refine v_goto (tgt := 17) dX0_knows_13 (by decide) ?_
      refine v_zreturn dX0_knows_17 rfl (by first | exact Or.inl rfl | exact Or.inr rfl | exact b2i_01 _ | assumption) ?_
      first | (rwa [b2i_t (by omega)] at h) | (rwa [b2i_f (by omega)] at h)
def ldC (μ : Mem_) (e : Nat) (what : Int) : Int := if what = 0 then μ 8 e else if what = 1 then μ 9 e else if what = 2 then μ 10 e else μ 11 e
set_option maxRecDepth 10000 in
theorem c_X0_detail {e what : Int} (hs : μ 7 0 ≤ 40) (he : 0 ≤ e ∧ e < μ 7 0) (h : Q (I_ (ldC μ e.toNat what)) μ) : V_ nX0_detail 0 [R_ 7, I_ e, I_ what] [] μ Q := by
  unfold ldC at h
  refine v_aload_n dX0_detail_0 rfl rfl ?_
  refine v_iload_n dX0_detail_1 rfl rfl ?_
  refine v_callVi [_] dX0_detail_2 lX0_32 kvX0_knows (plX0 _ _) (Or.inr rfl) rfl rfl rfl rfl rfl rfl rfl rfl rfl (c_X0_knows ?_)
  refine v_ifb_ne (tgt := 10) dX0_detail_5 (by decide) (fun hc_5 => ?_) (fun hc_5 => ?_)
  · refine v_iload_n dX0_detail_10 rfl rfl ?_
    rcases (show what < 0 ∨ 2 < what ∨ what = 0 ∨ what = 1 ∨ what = 2 by omega) with hsw | hsw | hsw | hsw | hsw
    · refine v_tableOut (tgt := 57) dX0_detail_11 (Or.inl hsw) (by decide) ?_
      refine v_aload_n dX0_detail_57 rfl rfl ?_
      refine v_getR dX0_detail_58 fX0_21 rfl rfl rfl ?_
      refine v_iload_n dX0_detail_61 rfl rfl ?_
      refine v_iald dX0_detail_62 rfl (by omega) (by omega) ?_
      refine v_ireturn dX0_detail_63 rfl ?_
      rwa [if_neg (by omega), if_neg (by omega), if_neg (by omega)] at h
    · refine v_tableOut (tgt := 57) dX0_detail_11 (Or.inr hsw) (by decide) ?_
      refine v_aload_n dX0_detail_57 rfl rfl ?_
      refine v_getR dX0_detail_58 fX0_21 rfl rfl rfl ?_
      refine v_iload_n dX0_detail_61 rfl rfl ?_
      refine v_iald dX0_detail_62 rfl (by omega) (by omega) ?_
      refine v_ireturn dX0_detail_63 rfl ?_
      rwa [if_neg (by omega), if_neg (by omega), if_neg (by omega)] at h
    · refine v_tableIn (off := 25) (tgt := 36) dX0_detail_11 (by rw [hsw]; decide) (by rw [hsw]; decide) (by rw [hsw]; decide) (by decide) ?_
      refine v_aload_n dX0_detail_36 rfl rfl ?_
      refine v_getR dX0_detail_37 fX0_9 rfl rfl rfl ?_
      refine v_iload_n dX0_detail_40 rfl rfl ?_
      refine v_iald dX0_detail_41 rfl (by omega) (by omega) ?_
      refine v_ireturn dX0_detail_42 rfl ?_
      rwa [if_pos (by omega)] at h
    · refine v_tableIn (off := 32) (tgt := 43) dX0_detail_11 (by rw [hsw]; decide) (by rw [hsw]; decide) (by rw [hsw]; decide) (by decide) ?_
      refine v_aload_n dX0_detail_43 rfl rfl ?_
      refine v_getR dX0_detail_44 fX0_15 rfl rfl rfl ?_
      refine v_iload_n dX0_detail_47 rfl rfl ?_
      refine v_iald dX0_detail_48 rfl (by omega) (by omega) ?_
      refine v_ireturn dX0_detail_49 rfl ?_
      rwa [if_neg (by omega), if_pos (by omega)] at h
    · refine v_tableIn (off := 39) (tgt := 50) dX0_detail_11 (by rw [hsw]; decide) (by rw [hsw]; decide) (by rw [hsw]; decide) (by decide) ?_
      refine v_aload_n dX0_detail_50 rfl rfl ?_
      refine v_getR dX0_detail_51 fX0_18 rfl rfl rfl ?_
      refine v_iload_n dX0_detail_54 rfl rfl ?_
      refine v_iald dX0_detail_55 rfl (by omega) (by omega) ?_
      refine v_ireturn dX0_detail_56 rfl ?_
      rwa [if_neg (by omega), if_neg (by omega), if_pos (by omega)] at h
  · refine v_iconst dX0_detail_8 (by decide) ?_
    refine v_ireturn dX0_detail_9 rfl ?_
    omega
def kbC (μ : Mem_) (n : Nat) : Int := smR n (fun i => b2i (mkK (μ 8 i)))
set_option maxRecDepth 10000 in
theorem c_X0_keysBefore {e : Int} (hs : μ 7 0 ≤ 40) (he : 0 ≤ e ∧ e ≤ μ 7 0) (h : Q (I_ (kbC μ e.toNat)) μ) : V_ nX0_keysBefore 0 [R_ 7, I_ e, U_, U_] [] μ Q := by
  have lp : ∀ k : Int, 0 ≤ k → k ≤ e → ∀ a : Int, a = smR k.toNat (fun i => b2i (mkK (μ 8 i))) → 0 ≤ a ∧ a ≤ k → V_ nX0_keysBefore 4 [R_ 7, I_ e, I_ a, I_ k] [] μ Q := by
    refine loop_up _ (fun k h0 h1 ih => ?_)
    intro a ha hb
    refine v_iload_n dX0_keysBefore_4 rfl rfl ?_
    refine v_iload_n dX0_keysBefore_5 rfl rfl ?_
    refine v_icmp_ge (tgt := 43) dX0_keysBefore_6 (by decide) (fun hc_6 => ?_) (fun hc_6 => ?_)
    · refine v_iload_n dX0_keysBefore_43 rfl rfl ?_
      refine v_ireturn dX0_keysBefore_44 rfl ?_
      rw [show k = e by omega] at ha
      rwa [ha]
    · refine v_iload_n dX0_keysBefore_9 rfl rfl ?_
      refine v_aload_n dX0_keysBefore_10 rfl rfl ?_
      refine v_getI dX0_keysBefore_11 fX0_24 rfl rfl rfl ?_
      refine v_icmp_ge (tgt := 43) dX0_keysBefore_14 (by decide) (fun hc_14 => ?_) (fun hc_14 => ?_)
      · refine v_iload_n dX0_keysBefore_43 rfl rfl ?_
        refine v_ireturn dX0_keysBefore_44 rfl ?_
        omega
      · refine v_iload_n dX0_keysBefore_17 rfl rfl ?_
        refine v_aload_n dX0_keysBefore_18 rfl rfl ?_
        refine v_getR dX0_keysBefore_19 fX0_9 rfl rfl rfl ?_
        refine v_iload_n dX0_keysBefore_22 rfl rfl ?_
        refine v_iald dX0_keysBefore_23 rfl (by omega) (by omega) ?_
        refine v_callSi [_] dX0_keysBefore_24 lX0_36 ksX0_makesKey (plX0 _ _) (Or.inr rfl) rfl rfl rfl rfl rfl rfl (c_X0_makesKey ?_)
        refine v_ifb_eq (tgt := 34) dX0_keysBefore_27 (by decide) (fun hc_27 => ?_) (fun hc_27 => ?_)
        · refine v_iconst dX0_keysBefore_34 (by decide) ?_
          refine v_iadd dX0_keysBefore_35 (fun ha hb => by omega) ?_
          refine v_istore_n (ls' := [_, _, _, _]) dX0_keysBefore_36 rfl rfl rfl rfl ?_
          refine v_iinc (ls' := [_, _, _, _]) dX0_keysBefore_37 rfl (fun hi_37 => by omega) rfl rfl ?_
          refine v_goto (tgt := 4) dX0_keysBefore_40 (by decide) ?_
          refine ih (by omega) _ (smS h0 ha ?_) (by omega)
          first
            | exact b2i_f hc_27
            | exact b2i_t hc_27
        · refine v_iconst dX0_keysBefore_30 (by decide) ?_
          refine v_goto (tgt := 35) dX0_keysBefore_31 (by decide) ?_
          refine v_iadd dX0_keysBefore_35 (fun ha hb => by omega) ?_
          refine v_istore_n (ls' := [_, _, _, _]) dX0_keysBefore_36 rfl rfl rfl rfl ?_
          refine v_iinc (ls' := [_, _, _, _]) dX0_keysBefore_37 rfl (fun hi_37 => by omega) rfl rfl ?_
          refine v_goto (tgt := 4) dX0_keysBefore_40 (by decide) ?_
          refine ih (by omega) _ (smS h0 ha ?_) (by omega)
          first
            | exact b2i_f hc_27
            | exact b2i_t hc_27
  refine v_iconst dX0_keysBefore_0 (by decide) ?_
  refine v_istore_n (ls' := [_, _, _, _]) dX0_keysBefore_1 rfl rfl rfl rfl ?_
  refine v_iconst dX0_keysBefore_2 (by decide) ?_
  refine v_istore_n (ls' := [_, _, _, _]) dX0_keysBefore_3 rfl rfl rfl rfl ?_
  exact lp 0 (by omega) (by omega) 0 rfl (by omega)
end

section
variable {μ : Mem_} {Q : PV → Mem_ → Prop}
set_option maxRecDepth 10000 in
theorem c_X0_cutTo_7 {n : Int} (h : Q U_ (if 0 ≤ n ∧ n < μ 7 0 then mset μ 7 0 n else μ)) : V_ nX0_cutTo 0 [R_ 7, I_ n] [] μ Q := by
  refine v_iload_n dX0_cutTo_0 rfl rfl ?_
  refine v_if_lt (tgt := 17) dX0_cutTo_1 (by decide) (fun hc_1 => ?_) (fun hc_1 => ?_)
  · refine v_return dX0_cutTo_17 rfl ?_
    rwa [if_neg (by omega)] at h
  · refine v_iload_n dX0_cutTo_4 rfl rfl ?_
    refine v_aload_n dX0_cutTo_5 rfl rfl ?_
    refine v_getI dX0_cutTo_6 fX0_24 rfl rfl rfl ?_
    refine v_icmp_ge (tgt := 17) dX0_cutTo_9 (by decide) (fun hc_9 => ?_) (fun hc_9 => ?_)
    · refine v_return dX0_cutTo_17 rfl ?_
      rwa [if_neg (by omega)] at h
    · refine v_aload_n dX0_cutTo_12 rfl rfl ?_
      refine v_iload_n dX0_cutTo_13 rfl rfl ?_
      refine v_putI dX0_cutTo_14 fpX0_24 rfl rfl rfl ?_
      refine v_return dX0_cutTo_17 rfl ?_
      rwa [if_pos (by omega)] at h
def addC_7 (μ : Mem_) (kind a b ch : Int) : Mem_ := mset (mset (mset (mset (mset μ 8 (μ 7 0).toNat kind) 9 (μ 7 0).toNat a) 10 (μ 7 0).toNat b) 11 (μ 7 0).toNat ch) 7 0 (μ 7 0 + 1)
set_option maxRecDepth 10000 in
theorem c_X0_add_7 {kind a b ch : Int} (hs : 0 ≤ μ 7 0 ∧ μ 7 0 < 40) (h : Q U_ (addC_7 μ kind a b ch)) : V_ nX0_add 0 [R_ 7, I_ kind, I_ a, I_ b, I_ ch] [] μ Q := by
  have m1 : ∀ (o k : Nat) (x : Int), o ≠ 7 → ∀ μ : Mem_, mset μ o k x 7 0 = μ 7 0 := fun o k x ho μ => mset_off (fun q => ho q.1.symm)
  refine v_aload_n dX0_add_0 rfl rfl ?_
  refine v_getI dX0_add_1 fX0_24 rfl rfl rfl ?_
  refine v_bipush dX0_add_4 (by decide) ?_
  refine v_icmp_ge (tgt := 60) dX0_add_6 (by decide) (fun hc_6 => ?_) (fun hc_6 => ?_)
  · refine v_return dX0_add_60 rfl ?_
    omega
  · refine v_aload_n dX0_add_9 rfl rfl ?_
    refine v_getR dX0_add_10 fX0_9 rfl rfl rfl ?_
    refine v_aload_n dX0_add_13 rfl rfl ?_
    refine v_getI dX0_add_14 fX0_24 rfl rfl rfl ?_
    skip
    refine v_iload_n dX0_add_17 rfl rfl ?_
    refine v_iast dX0_add_18 rfl (by omega) (by omega) ?_
    refine v_aload_n dX0_add_19 rfl rfl ?_
    refine v_getR dX0_add_20 fX0_15 rfl rfl rfl ?_
    refine v_aload_n dX0_add_23 rfl rfl ?_
    refine v_getI dX0_add_24 fX0_24 rfl rfl rfl ?_
    rw [m1 _ _ _ (by decide)]
    refine v_iload_n dX0_add_27 rfl rfl ?_
    refine v_iast dX0_add_28 rfl (by omega) (by omega) ?_
    refine v_aload_n dX0_add_29 rfl rfl ?_
    refine v_getR dX0_add_30 fX0_18 rfl rfl rfl ?_
    refine v_aload_n dX0_add_33 rfl rfl ?_
    refine v_getI dX0_add_34 fX0_24 rfl rfl rfl ?_
    rw [m1 _ _ _ (by decide), m1 _ _ _ (by decide)]
    refine v_iload_n dX0_add_37 rfl rfl ?_
    refine v_iast dX0_add_38 rfl (by omega) (by omega) ?_
    refine v_aload_n dX0_add_39 rfl rfl ?_
    refine v_getR dX0_add_40 fX0_21 rfl rfl rfl ?_
    refine v_aload_n dX0_add_43 rfl rfl ?_
    refine v_getI dX0_add_44 fX0_24 rfl rfl rfl ?_
    rw [m1 _ _ _ (by decide), m1 _ _ _ (by decide), m1 _ _ _ (by decide)]
    refine v_iload dX0_add_47 rfl ?_
    refine v_iast dX0_add_49 rfl (by omega) (by omega) ?_
    refine v_aload_n dX0_add_50 rfl rfl ?_
    refine v_dupR_ dX0_add_51 ?_
    refine v_getI dX0_add_52 fX0_24 rfl rfl rfl ?_
    rw [m1 _ _ _ (by decide), m1 _ _ _ (by decide), m1 _ _ _ (by decide), m1 _ _ _ (by decide)]
    refine v_iconst dX0_add_55 (by decide) ?_
    refine v_iadd dX0_add_56 (fun ha hb => by omega) ?_
    refine v_putI dX0_add_57 fpX0_24 rfl rfl rfl ?_
    refine v_return dX0_add_60 rfl ?_
    exact h
end

section
variable {μ : Mem_} {Q : PV → Mem_ → Prop}
set_option maxRecDepth 10000 in
theorem c_X0_cutTo_12 {n : Int} (h : Q U_ (if 0 ≤ n ∧ n < μ 12 0 then mset μ 12 0 n else μ)) : V_ nX0_cutTo 0 [R_ 12, I_ n] [] μ Q := by
  refine v_iload_n dX0_cutTo_0 rfl rfl ?_
  refine v_if_lt (tgt := 17) dX0_cutTo_1 (by decide) (fun hc_1 => ?_) (fun hc_1 => ?_)
  · refine v_return dX0_cutTo_17 rfl ?_
    rwa [if_neg (by omega)] at h
  · refine v_iload_n dX0_cutTo_4 rfl rfl ?_
    refine v_aload_n dX0_cutTo_5 rfl rfl ?_
    refine v_getI dX0_cutTo_6 fX0_24 rfl rfl rfl ?_
    refine v_icmp_ge (tgt := 17) dX0_cutTo_9 (by decide) (fun hc_9 => ?_) (fun hc_9 => ?_)
    · refine v_return dX0_cutTo_17 rfl ?_
      rwa [if_neg (by omega)] at h
    · refine v_aload_n dX0_cutTo_12 rfl rfl ?_
      refine v_iload_n dX0_cutTo_13 rfl rfl ?_
      refine v_putI dX0_cutTo_14 fpX0_24 rfl rfl rfl ?_
      refine v_return dX0_cutTo_17 rfl ?_
      rwa [if_pos (by omega)] at h
def addC_12 (μ : Mem_) (kind a b ch : Int) : Mem_ := mset (mset (mset (mset (mset μ 13 (μ 12 0).toNat kind) 14 (μ 12 0).toNat a) 15 (μ 12 0).toNat b) 16 (μ 12 0).toNat ch) 12 0 (μ 12 0 + 1)
set_option maxRecDepth 10000 in
theorem c_X0_add_12 {kind a b ch : Int} (hs : 0 ≤ μ 12 0 ∧ μ 12 0 < 40) (h : Q U_ (addC_12 μ kind a b ch)) : V_ nX0_add 0 [R_ 12, I_ kind, I_ a, I_ b, I_ ch] [] μ Q := by
  have m1 : ∀ (o k : Nat) (x : Int), o ≠ 12 → ∀ μ : Mem_, mset μ o k x 12 0 = μ 12 0 := fun o k x ho μ => mset_off (fun q => ho q.1.symm)
  refine v_aload_n dX0_add_0 rfl rfl ?_
  refine v_getI dX0_add_1 fX0_24 rfl rfl rfl ?_
  refine v_bipush dX0_add_4 (by decide) ?_
  refine v_icmp_ge (tgt := 60) dX0_add_6 (by decide) (fun hc_6 => ?_) (fun hc_6 => ?_)
  · refine v_return dX0_add_60 rfl ?_
    omega
  · refine v_aload_n dX0_add_9 rfl rfl ?_
    refine v_getR dX0_add_10 fX0_9 rfl rfl rfl ?_
    refine v_aload_n dX0_add_13 rfl rfl ?_
    refine v_getI dX0_add_14 fX0_24 rfl rfl rfl ?_
    skip
    refine v_iload_n dX0_add_17 rfl rfl ?_
    refine v_iast dX0_add_18 rfl (by omega) (by omega) ?_
    refine v_aload_n dX0_add_19 rfl rfl ?_
    refine v_getR dX0_add_20 fX0_15 rfl rfl rfl ?_
    refine v_aload_n dX0_add_23 rfl rfl ?_
    refine v_getI dX0_add_24 fX0_24 rfl rfl rfl ?_
    rw [m1 _ _ _ (by decide)]
    refine v_iload_n dX0_add_27 rfl rfl ?_
    refine v_iast dX0_add_28 rfl (by omega) (by omega) ?_
    refine v_aload_n dX0_add_29 rfl rfl ?_
    refine v_getR dX0_add_30 fX0_18 rfl rfl rfl ?_
    refine v_aload_n dX0_add_33 rfl rfl ?_
    refine v_getI dX0_add_34 fX0_24 rfl rfl rfl ?_
    rw [m1 _ _ _ (by decide), m1 _ _ _ (by decide)]
    refine v_iload_n dX0_add_37 rfl rfl ?_
    refine v_iast dX0_add_38 rfl (by omega) (by omega) ?_
    refine v_aload_n dX0_add_39 rfl rfl ?_
    refine v_getR dX0_add_40 fX0_21 rfl rfl rfl ?_
    refine v_aload_n dX0_add_43 rfl rfl ?_
    refine v_getI dX0_add_44 fX0_24 rfl rfl rfl ?_
    rw [m1 _ _ _ (by decide), m1 _ _ _ (by decide), m1 _ _ _ (by decide)]
    refine v_iload dX0_add_47 rfl ?_
    refine v_iast dX0_add_49 rfl (by omega) (by omega) ?_
    refine v_aload_n dX0_add_50 rfl rfl ?_
    refine v_dupR_ dX0_add_51 ?_
    refine v_getI dX0_add_52 fX0_24 rfl rfl rfl ?_
    rw [m1 _ _ _ (by decide), m1 _ _ _ (by decide), m1 _ _ _ (by decide), m1 _ _ _ (by decide)]
    refine v_iconst dX0_add_55 (by decide) ?_
    refine v_iadd dX0_add_56 (fun ha hb => by omega) ?_
    refine v_putI dX0_add_57 fpX0_24 rfl rfl rfl ?_
    refine v_return dX0_add_60 rfl ?_
    exact h
end

/-- the draft's first j events come to the log -/
def adR : Nat → Mem_ → Mem_
  | 0, μ => μ
  | j + 1, μ => addC_7 (adR j μ) (μ 13 j) (μ 14 j) (μ 15 j) (μ 16 j)
theorem addC_7_off {μ : Mem_} {k a b c : Int} {o i : Nat} (h : o ≠ 7 ∧ o ≠ 8 ∧ o ≠ 9 ∧ o ≠ 10 ∧ o ≠ 11) : addC_7 μ k a b c o i = μ o i := by
  unfold addC_7
  rw [mset_off (by omega), mset_off (by omega), mset_off (by omega), mset_off (by omega), mset_off (by omega)]
theorem adR_off {μ : Mem_} {j o i : Nat} (h : o ≠ 7 ∧ o ≠ 8 ∧ o ≠ 9 ∧ o ≠ 10 ∧ o ≠ 11) : adR j μ o i = μ o i := by
  induction j with
  | zero => rfl
  | succ j ih => rw [adR, addC_7_off h, ih]
theorem addC_7_sz {μ : Mem_} {k a b c : Int} : addC_7 μ k a b c 7 0 = μ 7 0 + 1 := by
  unfold addC_7
  rw [mset_same]
theorem adR_sz {μ : Mem_} {j : Nat} : adR j μ 7 0 = μ 7 0 + j := by
  induction j with
  | zero => simp [adR]
  | succ j ih => rw [adR, addC_7_sz, ih]; omega
section
variable {μ : Mem_} {Q : PV → Mem_ → Prop}
set_option maxRecDepth 10000 in
theorem c_X0_addAll (hs : 0 ≤ μ 7 0) (hm : 0 ≤ μ 12 0) (hsm : μ 7 0 + μ 12 0 ≤ 40) (h : Q U_ (adR (μ 12 0).toNat μ)) : V_ nX0_addAll 0 [R_ 7, R_ 12, U_] [] μ Q := by
  have lp : ∀ k : Int, 0 ≤ k → k ≤ μ 12 0 → V_ nX0_addAll 2 [R_ 7, R_ 12, I_ k] [] (adR k.toNat μ) Q := by
    refine loop_up _ (fun k h0 h1 ih => ?_)
    have e0 : adR k.toNat μ 12 0 = μ 12 0 := adR_off (by omega)
    have es : adR k.toNat μ 7 0 = μ 7 0 + k := by rw [adR_sz]; omega
    have e1 : adR k.toNat μ 13 k.toNat = μ 13 k.toNat := adR_off (by omega)
    have e2 : adR k.toNat μ 14 k.toNat = μ 14 k.toNat := adR_off (by omega)
    have e3 : adR k.toNat μ 15 k.toNat = μ 15 k.toNat := adR_off (by omega)
    have e4 : adR k.toNat μ 16 k.toNat = μ 16 k.toNat := adR_off (by omega)
    refine v_iload_n dX0_addAll_2 rfl rfl ?_
    refine v_aload_n dX0_addAll_3 rfl rfl ?_
    refine v_getI dX0_addAll_4 fX0_24 rfl rfl rfl ?_
    rw [e0]
    refine v_icmp_ge (tgt := 44) dX0_addAll_7 (by decide) (fun hc_7 => ?_) (fun hc_7 => ?_)
    · refine v_return dX0_addAll_44 rfl ?_
      rwa [show k = μ 12 0 by omega]
    · refine v_aload_n dX0_addAll_10 rfl rfl ?_
      refine v_aload_n dX0_addAll_11 rfl rfl ?_
      refine v_getR dX0_addAll_12 fX0_9 rfl rfl rfl ?_
      refine v_iload_n dX0_addAll_15 rfl rfl ?_
      refine v_iald dX0_addAll_16 rfl (by omega) (by omega) ?_
      refine v_aload_n dX0_addAll_17 rfl rfl ?_
      refine v_getR dX0_addAll_18 fX0_15 rfl rfl rfl ?_
      refine v_iload_n dX0_addAll_21 rfl rfl ?_
      refine v_iald dX0_addAll_22 rfl (by omega) (by omega) ?_
      refine v_aload_n dX0_addAll_23 rfl rfl ?_
      refine v_getR dX0_addAll_24 fX0_18 rfl rfl rfl ?_
      refine v_iload_n dX0_addAll_27 rfl rfl ?_
      refine v_iald dX0_addAll_28 rfl (by omega) (by omega) ?_
      refine v_aload_n dX0_addAll_29 rfl rfl ?_
      refine v_getR dX0_addAll_30 fX0_21 rfl rfl rfl ?_
      refine v_iload_n dX0_addAll_33 rfl rfl ?_
      refine v_iald dX0_addAll_34 rfl (by omega) (by omega) ?_
      refine v_callVv [_, _, _, _] dX0_addAll_35 lX0_28 kvX0_add (plX0 _ _) rfl rfl rfl rfl rfl rfl rfl rfl rfl rfl (c_X0_add_7 (by omega) ?_)
      refine v_iinc (ls' := [_, _, _]) dX0_addAll_38 rfl (fun hi_38 => by omega) rfl rfl ?_
      refine v_goto (tgt := 2) dX0_addAll_41 (by decide) ?_
      rw [e1, e2, e3, e4]
      have := ih (by omega)
      rwa [show (k + 1).toNat = k.toNat + 1 by omega, adR] at this
  refine v_iconst dX0_addAll_0 (by decide) ?_
  refine v_istore_n (ls' := [_, _, _]) dX0_addAll_1 rfl rfl rfl rfl ?_
  exact lp 0 (by omega) (by omega)
-- Street
def coC (μ : Mem_) (o : Nat) (h : Int) : Int := if 0 ≤ h ∧ h < μ o 0 then μ (o + 1) h.toNat else 0
def hoC (μ : Mem_) (o : Nat) (p : Int) : Int := if 0 ≤ p ∧ p < μ o 1 then μ (o + 2) p.toNat else -9
def anC (μ : Mem_) (o : Nat) (p : Int) : Int := if 0 ≤ p ∧ p < μ o 1 then μ (o + 3) p.toNat else 0
def peF (μ : Mem_) (o : Nat) (h : Int) (p : Nat) : Nat := if μ (o + 2) p = h then 2 ^ p else 0
abbrev isSt (o : Nat) : Prop := o = 42 ∨ o = 46
theorem shp_st {o : Nat} (h : isSt o) : shp o = (5, 5) := by rcases h with rfl | rfl <;> rfl
theorem fk_st0 {o : Nat} (h : isSt o) : fk o 0 = 0 := by rcases h with rfl | rfl <;> rfl
theorem fk_st1 {o : Nat} (h : isSt o) : fk o 1 = 0 := by rcases h with rfl | rfl <;> rfl
set_option maxRecDepth 10000 in
theorem c_X5_costOf {o : Nat} {h : Int} (ho : isSt o) (hn : μ o 0 ≤ 6) (hq : Q (I_ (coC μ o h)) μ) : V_ nX5_costOf 0 [R_ o, I_ h] [] μ Q := by
  unfold coC at hq
  rcases ho with rfl | rfl
  all_goals
    refine v_iload_n dX5_costOf_0 rfl rfl ?_
    refine v_if_lt (tgt := 21) dX5_costOf_1 (by decide) (fun hc_1 => ?_) (fun hc_1 => ?_)
    · refine v_iconst dX5_costOf_21 (by decide) ?_
      refine v_ireturn dX5_costOf_22 rfl ?_
      rwa [if_neg (by omega)] at hq
    · refine v_iload_n dX5_costOf_4 rfl rfl ?_
      refine v_aload_n dX5_costOf_5 rfl rfl ?_
      refine v_getI dX5_costOf_6 fX5_21 rfl rfl rfl ?_
      refine v_icmp_ge (tgt := 21) dX5_costOf_9 (by decide) (fun hc_9 => ?_) (fun hc_9 => ?_)
      · refine v_iconst dX5_costOf_21 (by decide) ?_
        refine v_ireturn dX5_costOf_22 rfl ?_
        rwa [if_neg (by omega)] at hq
      · refine v_aload_n dX5_costOf_12 rfl rfl ?_
        refine v_getR dX5_costOf_13 fX5_9 rfl rfl rfl ?_
        refine v_iload_n dX5_costOf_16 rfl rfl ?_
        refine v_iald dX5_costOf_17 rfl (by omega) (by omega) ?_
        refine v_goto (tgt := 22) dX5_costOf_18 (by decide) ?_
        refine v_ireturn dX5_costOf_22 rfl ?_
        rwa [if_pos (by omega)] at hq
set_option maxRecDepth 10000 in
theorem c_X5_homeOf {o : Nat} {p : Int} (ho : isSt o) (hn : μ o 1 ≤ 12) (hq : Q (I_ (hoC μ o p)) μ) : V_ nX5_homeOf 0 [R_ o, I_ p] [] μ Q := by
  unfold hoC at hq
  rcases ho with rfl | rfl
  all_goals
    refine v_iload_n dX5_homeOf_0 rfl rfl ?_
    refine v_if_lt (tgt := 21) dX5_homeOf_1 (by decide) (fun hc_1 => ?_) (fun hc_1 => ?_)
    · refine v_bipush dX5_homeOf_21 (by decide) ?_
      refine v_ireturn dX5_homeOf_23 rfl ?_
      rwa [if_neg (by omega)] at hq
    · refine v_iload_n dX5_homeOf_4 rfl rfl ?_
      refine v_aload_n dX5_homeOf_5 rfl rfl ?_
      refine v_getI dX5_homeOf_6 fX5_25 rfl rfl rfl ?_
      refine v_icmp_ge (tgt := 21) dX5_homeOf_9 (by decide) (fun hc_9 => ?_) (fun hc_9 => ?_)
      · refine v_bipush dX5_homeOf_21 (by decide) ?_
        refine v_ireturn dX5_homeOf_23 rfl ?_
        rwa [if_neg (by omega)] at hq
      · refine v_aload_n dX5_homeOf_12 rfl rfl ?_
        refine v_getR dX5_homeOf_13 fX5_15 rfl rfl rfl ?_
        refine v_iload_n dX5_homeOf_16 rfl rfl ?_
        refine v_iald dX5_homeOf_17 rfl (by omega) (by omega) ?_
        refine v_goto (tgt := 23) dX5_homeOf_18 (by decide) ?_
        refine v_ireturn dX5_homeOf_23 rfl ?_
        rwa [if_pos (by omega)] at hq
set_option maxRecDepth 10000 in
theorem c_X5_answersOf {o : Nat} {p : Int} (ho : isSt o) (hn : μ o 1 ≤ 12) (hq : Q (I_ (anC μ o p)) μ) : V_ nX5_answersOf 0 [R_ o, I_ p] [] μ Q := by
  unfold anC at hq
  rcases ho with rfl | rfl
  all_goals
    refine v_iload_n dX5_answersOf_0 rfl rfl ?_
    refine v_if_lt (tgt := 21) dX5_answersOf_1 (by decide) (fun hc_1 => ?_) (fun hc_1 => ?_)
    · refine v_iconst dX5_answersOf_21 (by decide) ?_
      refine v_ireturn dX5_answersOf_22 rfl ?_
      rwa [if_neg (by omega)] at hq
    · refine v_iload_n dX5_answersOf_4 rfl rfl ?_
      refine v_aload_n dX5_answersOf_5 rfl rfl ?_
      refine v_getI dX5_answersOf_6 fX5_25 rfl rfl rfl ?_
      refine v_icmp_ge (tgt := 21) dX5_answersOf_9 (by decide) (fun hc_9 => ?_) (fun hc_9 => ?_)
      · refine v_iconst dX5_answersOf_21 (by decide) ?_
        refine v_ireturn dX5_answersOf_22 rfl ?_
        rwa [if_neg (by omega)] at hq
      · refine v_aload_n dX5_answersOf_12 rfl rfl ?_
        refine v_getR dX5_answersOf_13 fX5_18 rfl rfl rfl ?_
        refine v_iload_n dX5_answersOf_16 rfl rfl ?_
        refine v_iald dX5_answersOf_17 rfl (by omega) (by omega) ?_
        refine v_goto (tgt := 22) dX5_answersOf_18 (by decide) ?_
        refine v_ireturn dX5_answersOf_22 rfl ?_
        rwa [if_pos (by omega)] at hq
set_option maxRecDepth 10000 in
theorem c_X5_allHouses {o : Nat} (ho : isSt o) (hn : 0 ≤ μ o 0 ∧ μ o 0 ≤ 6) (hq : Q (I_ (((2 ^ (μ o 0).toNat : Nat) : Int) - 1)) μ) : V_ nX5_allHouses 0 [R_ o] [] μ Q := by
  have e := bShl_one (k := μ o 0) (by omega) (by omega)
  have hle : 2 ^ (μ o 0).toNat ≤ 2 ^ 6 := Nat.pow_le_pow_right (by omega) (by omega)
  have hpos : 0 < 2 ^ (μ o 0).toNat := Nat.two_pow_pos _
  rcases ho with rfl | rfl
  all_goals
    refine v_iconst dX5_allHouses_0 (by decide) ?_
    refine v_aload_n dX5_allHouses_1 rfl rfl ?_
    refine v_getI dX5_allHouses_2 fX5_21 rfl rfl rfl ?_
    refine v_ishl dX5_allHouses_5 ?_
    rw [e]
    refine v_iconst dX5_allHouses_6 (by decide) ?_
    refine v_isub dX5_allHouses_7 (fun ha hb => by omega) ?_
    refine v_ireturn dX5_allHouses_8 rfl ?_
    exact hq
set_option maxRecDepth 10000 in
theorem c_X5_peopleOf {o : Nat} {h : Int} (ho : isSt o) (hn : 0 ≤ μ o 1 ∧ μ o 1 ≤ 12) (hq : Q (I_ (orR (μ o 1).toNat (peF μ o h) : Int)) μ) : V_ nX5_peopleOf 0 [R_ o, I_ h, U_, U_] [] μ Q := by
  have hf : ∀ j, j < 31 → peF μ o h j < 2 ^ 31 := by
    intro j hj
    unfold peF
    split
    · exact ones_pow (by omega)
    · decide
  have lp : ∀ k : Int, 0 ≤ k → k ≤ μ o 1 → ∀ a : Int, a = ((orR k.toNat (peF μ o h) : Nat) : Int) → V_ nX5_peopleOf 4 [R_ o, I_ h, I_ a, I_ k] [] μ Q := by
    refine loop_up _ (fun k h0 h1 ih => ?_)
    intro a ha
    rcases ho with rfl | rfl
    all_goals
      refine v_iload_n dX5_peopleOf_4 rfl rfl ?_
      refine v_aload_n dX5_peopleOf_5 rfl rfl ?_
      refine v_getI dX5_peopleOf_6 fX5_25 rfl rfl rfl ?_
      refine v_icmp_ge (tgt := 38) dX5_peopleOf_9 (by decide) (fun hc_9 => ?_) (fun hc_9 => ?_)
      · refine v_iload_n dX5_peopleOf_38 rfl rfl ?_
        refine v_ireturn dX5_peopleOf_39 rfl ?_
        rw [Int.le_antisymm h1 hc_9] at ha
        rwa [ha]
      · refine v_iload_n dX5_peopleOf_12 rfl rfl ?_
        refine v_aload_n dX5_peopleOf_13 rfl rfl ?_
        refine v_getR dX5_peopleOf_14 fX5_15 rfl rfl rfl ?_
        refine v_iload_n dX5_peopleOf_17 rfl rfl ?_
        refine v_iald dX5_peopleOf_18 rfl (by omega) (by omega) ?_
        refine v_iload_n dX5_peopleOf_19 rfl rfl ?_
        refine v_icmp_ne (tgt := 29) dX5_peopleOf_20 (by decide) (fun hc_20 => ?_) (fun hc_20 => ?_)
        · refine v_iconst dX5_peopleOf_29 (by decide) ?_
          refine v_ior dX5_peopleOf_30 ?_
          refine v_istore_n (ls' := [_, _, _, _]) dX5_peopleOf_31 rfl rfl rfl rfl ?_
          refine v_iinc (ls' := [_, _, _, _]) dX5_peopleOf_32 rfl (fun hi_32 => by omega) rfl rfl ?_
          refine v_goto (tgt := 4) dX5_peopleOf_35 (by decide) ?_
          refine ih (by omega) _ (orS h0 ha (x := peF μ _ h k.toNat) ?_ rfl (fun j hj => hf j (by omega)))
          unfold peF
          rw [if_neg hc_20]
          rfl
        · refine v_iconst dX5_peopleOf_23 (by decide) ?_
          refine v_iload_n dX5_peopleOf_24 rfl rfl ?_
          refine v_ishl dX5_peopleOf_25 ?_
          refine v_goto (tgt := 30) dX5_peopleOf_26 (by decide) ?_
          refine v_ior dX5_peopleOf_30 ?_
          refine v_istore_n (ls' := [_, _, _, _]) dX5_peopleOf_31 rfl rfl rfl rfl ?_
          refine v_iinc (ls' := [_, _, _, _]) dX5_peopleOf_32 rfl (fun hi_32 => by omega) rfl rfl ?_
          refine v_goto (tgt := 4) dX5_peopleOf_35 (by decide) ?_
          refine ih (by omega) _ (orS h0 ha (x := peF μ _ h k.toNat) ?_ rfl (fun j hj => hf j (by omega)))
          unfold peF
          rw [if_pos (by simpa using hc_20)]
          exact bShl_one (by omega) (by omega)
  refine v_iconst dX5_peopleOf_0 (by decide) ?_
  refine v_istore_n (ls' := [_, _, _, _]) dX5_peopleOf_1 rfl rfl rfl rfl ?_
  refine v_iconst dX5_peopleOf_2 (by decide) ?_
  refine v_istore_n (ls' := [_, _, _, _]) dX5_peopleOf_3 rfl rfl rfl rfl ?_
  exact lp 0 (by omega) (by omega) 0 rfl
-- the draft of a street
set_option maxRecDepth 10000 in
theorem c_X5_clear {o : Nat} (ho : isSt o) (hq : Q U_ (mset (mset μ o 0 0) o 1 0)) : V_ nX5_clear 0 [R_ o] [] μ Q := by
  rcases ho with rfl | rfl
  all_goals
    refine v_aload_n dX5_clear_0 rfl rfl ?_
    refine v_iconst dX5_clear_1 (by decide) ?_
    refine v_putI dX5_clear_2 fpX5_21 rfl rfl rfl ?_
    refine v_aload_n dX5_clear_5 rfl rfl ?_
    refine v_iconst dX5_clear_6 (by decide) ?_
    refine v_putI dX5_clear_7 fpX5_25 rfl rfl rfl ?_
    refine v_return dX5_clear_10 rfl ?_
    exact hq
set_option maxRecDepth 10000 in
theorem c_X5_addHouse {o : Nat} {c : Int} (ho : isSt o) (hn : 0 ≤ μ o 0 ∧ μ o 0 < 6) (hq : Q U_ (mset (mset μ (o + 1) (μ o 0).toNat c) o 0 (μ o 0 + 1))) : V_ nX5_addHouse 0 [R_ o, I_ c] [] μ Q := by
  rcases ho with rfl | rfl
  all_goals
    refine v_aload_n dX5_addHouse_0 rfl rfl ?_
    refine v_getI dX5_addHouse_1 fX5_21 rfl rfl rfl ?_
    refine v_bipush dX5_addHouse_4 (by decide) ?_
    refine v_icmp_ge (tgt := 29) dX5_addHouse_6 (by decide) (fun hc_6 => ?_) (fun hc_6 => ?_)
    · refine v_return dX5_addHouse_29 rfl ?_
      omega
    · refine v_aload_n dX5_addHouse_9 rfl rfl ?_
      refine v_getR dX5_addHouse_10 fX5_9 rfl rfl rfl ?_
      refine v_aload_n dX5_addHouse_13 rfl rfl ?_
      refine v_getI dX5_addHouse_14 fX5_21 rfl rfl rfl ?_
      refine v_iload_n dX5_addHouse_17 rfl rfl ?_
      refine v_iast dX5_addHouse_18 rfl (by omega) (by omega) ?_
      refine v_aload_n dX5_addHouse_19 rfl rfl ?_
      refine v_dupR_ dX5_addHouse_20 ?_
      refine v_getI dX5_addHouse_21 fX5_21 rfl rfl rfl ?_
      rw [mset_off (by omega)]
      refine v_iconst dX5_addHouse_24 (by decide) ?_
      refine v_iadd dX5_addHouse_25 (fun ha hb => by omega) ?_
      refine v_putI dX5_addHouse_26 fpX5_21 rfl rfl rfl ?_
      refine v_return dX5_addHouse_29 rfl ?_
      exact hq
set_option maxRecDepth 10000 in
theorem c_X5_addPerson {o : Nat} {a b : Int} (ho : isSt o) (hn : 0 ≤ μ o 1 ∧ μ o 1 < 12) (hq : Q U_ (mset (mset (mset μ (o + 2) (μ o 1).toNat a) (o + 3) (μ o 1).toNat b) o 1 (μ o 1 + 1))) : V_ nX5_addPerson 0 [R_ o, I_ a, I_ b] [] μ Q := by
  rcases ho with rfl | rfl
  all_goals
    refine v_aload_n dX5_addPerson_0 rfl rfl ?_
    refine v_getI dX5_addPerson_1 fX5_25 rfl rfl rfl ?_
    refine v_bipush dX5_addPerson_4 (by decide) ?_
    refine v_icmp_ge (tgt := 39) dX5_addPerson_6 (by decide) (fun hc_6 => ?_) (fun hc_6 => ?_)
    · refine v_return dX5_addPerson_39 rfl ?_
      omega
    · refine v_aload_n dX5_addPerson_9 rfl rfl ?_
      refine v_getR dX5_addPerson_10 fX5_15 rfl rfl rfl ?_
      refine v_aload_n dX5_addPerson_13 rfl rfl ?_
      refine v_getI dX5_addPerson_14 fX5_25 rfl rfl rfl ?_
      refine v_iload_n dX5_addPerson_17 rfl rfl ?_
      refine v_iast dX5_addPerson_18 rfl (by omega) (by omega) ?_
      refine v_aload_n dX5_addPerson_19 rfl rfl ?_
      refine v_getR dX5_addPerson_20 fX5_18 rfl rfl rfl ?_
      refine v_aload_n dX5_addPerson_23 rfl rfl ?_
      refine v_getI dX5_addPerson_24 fX5_25 rfl rfl rfl ?_
      rw [mset_off (by omega)]
      refine v_iload_n dX5_addPerson_27 rfl rfl ?_
      refine v_iast dX5_addPerson_28 rfl (by omega) (by omega) ?_
      refine v_aload_n dX5_addPerson_29 rfl rfl ?_
      refine v_dupR_ dX5_addPerson_30 ?_
      refine v_getI dX5_addPerson_31 fX5_25 rfl rfl rfl ?_
      rw [mset_off (by omega), mset_off (by omega)]
      refine v_iconst dX5_addPerson_34 (by decide) ?_
      refine v_iadd dX5_addPerson_35 (fun ha hb => by omega) ?_
      refine v_putI dX5_addPerson_36 fpX5_25 rfl rfl rfl ?_
      refine v_return dX5_addPerson_39 rfl ?_
      exact hq
end
