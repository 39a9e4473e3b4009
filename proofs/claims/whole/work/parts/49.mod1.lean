/-! the model: what all its methods use, and its reading of signs -/
section
variable {μ : Mem_} {Q : PV → Mem_ → Prop}
theorem c_X8_in {a b c : Int} (h : Q (I_ (b2i (b ≤ a ∧ a ≤ c))) μ) : V_ nX8_in 0 [I_ a, I_ b, I_ c] [] μ Q := by
  refine v_iload_n dX8_in_0 rfl rfl ?_
  refine v_iload_n dX8_in_1 rfl rfl ?_
  refine v_icmp_lt (tgt := 14) dX8_in_2 (by decide) (fun hc_2 => ?_) (fun hc_2 => ?_)
  · refine v_iconst dX8_in_14 (by decide) ?_
    refine v_zreturn dX8_in_15 rfl (by first | exact Or.inl rfl | exact Or.inr rfl | exact b2i_01 _ | assumption) ?_
    first | (rwa [b2i_f (by omega)] at h) | (rwa [b2i_t (by omega)] at h)
  · refine v_iload_n dX8_in_5 rfl rfl ?_
    refine v_iload_n dX8_in_6 rfl rfl ?_
    refine v_icmp_gt (tgt := 14) dX8_in_7 (by decide) (fun hc_7 => ?_) (fun hc_7 => ?_)
    · refine v_iconst dX8_in_14 (by decide) ?_
      refine v_zreturn dX8_in_15 rfl (by first | exact Or.inl rfl | exact Or.inr rfl | exact b2i_01 _ | assumption) ?_
      first | (rwa [b2i_f (by omega)] at h) | (rwa [b2i_t (by omega)] at h)
    · refine v_iconst dX8_in_10 (by decide) ?_
      refine v_goto (tgt := 15) dX8_in_11 (by decide) ?_
      refine v_zreturn dX8_in_15 rfl (by first | exact Or.inl rfl | exact Or.inr rfl | exact b2i_01 _ | assumption) ?_
      first | (rwa [b2i_f (by omega)] at h) | (rwa [b2i_t (by omega)] at h)
theorem c_X8_isRow {a : Int} (h : Q (I_ (b2i (0 ≤ a ∧ a ≤ 5))) μ) : V_ nX8_isRow 0 [I_ a] [] μ Q := by
  refine v_iload_n dX8_isRow_0 rfl rfl ?_
  refine v_iconst dX8_isRow_1 (by decide) ?_
  refine v_iconst dX8_isRow_2 (by decide) ?_
  refine v_callSi [_, _, _] dX8_isRow_3 lX8_112 ksX8_in (plX8 _ _) (Or.inr rfl) rfl rfl rfl rfl rfl rfl (c_X8_in ?_)
  refine v_zreturn dX8_isRow_6 rfl (by first | exact Or.inl rfl | exact Or.inr rfl | exact b2i_01 _ | assumption) ?_
  exact h
theorem c_X8_isText {a : Int} (h : Q (I_ (b2i (0 ≤ a ∧ a ≤ 3))) μ) : V_ nX8_isText 0 [I_ a] [] μ Q := by
  refine v_iload_n dX8_isText_0 rfl rfl ?_
  refine v_iconst dX8_isText_1 (by decide) ?_
  refine v_iconst dX8_isText_2 (by decide) ?_
  refine v_callSi [_, _, _] dX8_isText_3 lX8_112 ksX8_in (plX8 _ _) (Or.inr rfl) rfl rfl rfl rfl rfl rfl (c_X8_in ?_)
  refine v_zreturn dX8_isText_6 rfl (by first | exact Or.inl rfl | exact Or.inr rfl | exact b2i_01 _ | assumption) ?_
  exact h
theorem c_X8_isHouse {a : Int} (hb : 0 ≤ μ 50 10) (h : Q (I_ (b2i (0 ≤ a ∧ a < μ 50 10))) μ) : V_ nX8_isHouse 0 [R_ 50, I_ a] [] μ Q := by
  refine v_iload_n dX8_isHouse_0 rfl rfl ?_
  refine v_iconst dX8_isHouse_1 (by decide) ?_
  refine v_aload_n dX8_isHouse_2 rfl rfl ?_
  refine v_getI dX8_isHouse_3 fX8_180 rfl rfl rfl ?_
  refine v_iconst dX8_isHouse_6 (by decide) ?_
  refine v_isub dX8_isHouse_7 (fun ha hb => by omega) ?_
  refine v_callSi [_, _, _] dX8_isHouse_8 lX8_112 ksX8_in (plX8 _ _) (Or.inr rfl) rfl rfl rfl rfl rfl rfl (c_X8_in ?_)
  refine v_zreturn dX8_isHouse_11 rfl (by first | exact Or.inl rfl | exact Or.inr rfl | exact b2i_01 _ | assumption) ?_
  rwa [b2i_congr (P' := 0 ≤ a ∧ a < μ 50 10) (by omega)]
theorem c_X8_isPerson {a : Int} (hb : 0 ≤ μ 50 11) (h : Q (I_ (b2i (0 ≤ a ∧ a < μ 50 11))) μ) : V_ nX8_isPerson 0 [R_ 50, I_ a] [] μ Q := by
  refine v_iload_n dX8_isPerson_0 rfl rfl ?_
  refine v_iconst dX8_isPerson_1 (by decide) ?_
  refine v_aload_n dX8_isPerson_2 rfl rfl ?_
  refine v_getI dX8_isPerson_3 fX8_183 rfl rfl rfl ?_
  refine v_iconst dX8_isPerson_6 (by decide) ?_
  refine v_isub dX8_isPerson_7 (fun ha hb => by omega) ?_
  refine v_callSi [_, _, _] dX8_isPerson_8 lX8_112 ksX8_in (plX8 _ _) (Or.inr rfl) rfl rfl rfl rfl rfl rfl (c_X8_in ?_)
  refine v_zreturn dX8_isPerson_11 rfl (by first | exact Or.inl rfl | exact Or.inr rfl | exact b2i_01 _ | assumption) ?_
  rwa [b2i_congr (P' := 0 ≤ a ∧ a < μ 50 11) (by omega)]
theorem c_X8_isKey {a : Int} (hb : 0 ≤ μ 50 27) (h : Q (I_ (b2i (0 ≤ a ∧ a < μ 50 27))) μ) : V_ nX8_isKey 0 [R_ 50, I_ a] [] μ Q := by
  refine v_iload_n dX8_isKey_0 rfl rfl ?_
  refine v_iconst dX8_isKey_1 (by decide) ?_
  refine v_aload_n dX8_isKey_2 rfl rfl ?_
  refine v_getI dX8_isKey_3 fX8_189 rfl rfl rfl ?_
  refine v_iconst dX8_isKey_6 (by decide) ?_
  refine v_isub dX8_isKey_7 (fun ha hb => by omega) ?_
  refine v_callSi [_, _, _] dX8_isKey_8 lX8_112 ksX8_in (plX8 _ _) (Or.inr rfl) rfl rfl rfl rfl rfl rfl (c_X8_in ?_)
  refine v_zreturn dX8_isKey_11 rfl (by first | exact Or.inl rfl | exact Or.inr rfl | exact b2i_01 _ | assumption) ?_
  rwa [b2i_congr (P' := 0 ≤ a ∧ a < μ 50 27) (by omega)]
theorem c_X8_finding (h : Q (I_ (μ 50 0)) μ) : V_ nX8_finding 0 [R_ 50] [] μ Q := by
  refine v_aload_n dX8_finding_0 rfl rfl ?_
  refine v_getI dX8_finding_1 fX8_108 rfl rfl rfl ?_
  refine v_ireturn dX8_finding_4 rfl ?_
  exact h
theorem c_X8_asked (h : Q (I_ (μ 50 2)) μ) : V_ nX8_asked 0 [R_ 50] [] μ Q := by
  refine v_aload_n dX8_asked_0 rfl rfl ?_
  refine v_getI dX8_asked_1 fX8_116 rfl rfl rfl ?_
  refine v_ireturn dX8_asked_4 rfl ?_
  exact h
/-- a text as the model keeps it -/
def TmC (tx : Nat → Int) (n : Nat) (t : Int) (μ : Mem_) : Prop := n ≤ 120 ∧ (0 ≤ t ∧ t < 4) ∧ μ 55 t.toNat = (n : Int) ∧ ∀ j : Nat, j < n → μ 56 (120 * t + (j : Int)).toNat = tx j ∧ -128 ≤ tx j ∧ tx j < 128
variable {tx : Nat → Int} {n i : Nat} {t : Int}
set_option maxRecDepth 10000 in
theorem c_X8_byteAt (ht : TmC tx n t μ) (h : Q (I_ (if i < n then tx i else 0)) μ) : V_ nX8_byteAt 0 [R_ 50, I_ t, I_ (i : Int)] [] μ Q := by
  obtain ⟨t1, t2, t3, t4⟩ := ht
  refine v_iload_n dX8_byteAt_0 rfl rfl ?_
  refine v_aload_n dX8_byteAt_1 rfl rfl ?_
  refine v_getR dX8_byteAt_2 fX8_22 rfl rfl rfl ?_
  refine v_iload_n dX8_byteAt_5 rfl rfl ?_
  refine v_iald dX8_byteAt_6 rfl (by omega) (by omega) ?_
  refine v_icmp_ge (tgt := 24) dX8_byteAt_7 (by decide) (fun hc_7 => ?_) (fun hc_7 => ?_)
  · refine v_iconst dX8_byteAt_24 (by decide) ?_
    refine v_ireturn dX8_byteAt_25 rfl ?_
    rwa [if_neg (by omega)] at h
  · refine v_aload_n dX8_byteAt_10 rfl rfl ?_
    refine v_getR dX8_byteAt_11 fX8_25 rfl rfl rfl ?_
    refine v_bipush dX8_byteAt_14 (by decide) ?_
    refine v_iload_n dX8_byteAt_16 rfl rfl ?_
    refine v_imul dX8_byteAt_17 (fun ha hb => by omega) ?_
    refine v_iload_n dX8_byteAt_18 rfl rfl ?_
    refine v_iadd dX8_byteAt_19 (fun ha hb => by omega) ?_
    refine v_bald dX8_byteAt_20 rfl (by omega) (by omega) ?_
    refine v_goto (tgt := 25) dX8_byteAt_21 (by decide) ?_
    refine v_ireturn dX8_byteAt_25 rfl ?_
    have := (t4 i (by omega)).1
    rw [if_pos (by omega), ← this] at h
    exact h
def frR (μ m : Mem_) : Prop := ∀ o k, ¬ (o = 50 ∧ (k = 15 ∨ k = 16)) → m o k = μ o k
theorem frR.tm {m : Mem_} (h : frR μ m) (ht : TmC tx n t μ) : TmC tx n t m := ⟨ht.1, ht.2.1, by rw [h 55 _ (by omega)]; exact ht.2.2.1, fun j hj => by rw [h 56 _ (by omega)]; exact ht.2.2.2 j hj⟩
theorem frR.rf : frR μ μ := fun _ _ _ => rfl
theorem frR.tr {a b c : Mem_} (h1 : frR a b) (h2 : frR b c) : frR a c := fun o k q => by rw [h2 o k q]; exact h1 o k q
set_option maxRecDepth 10000 in
theorem c_X8_sign {c : Int} (hc : c ≠ 0) (ht : TmC tx n t μ) (hi : μ 50 15 = (i : Int)) (hin : i ≤ 121) (h : ∀ m : Mem_, frR μ m → m 50 15 = ((expP tx n c i).1 : Int) → Q (I_ (b2i ((expP tx n c i).2 ≠ none))) m) : V_ nX8_sign 0 [R_ 50, I_ t, I_ c, U_] [] μ Q := by
  unfold expP at h
  refine v_aload_n dX8_sign_0 rfl rfl ?_
  refine v_iload_n dX8_sign_1 rfl rfl ?_
  refine v_aload_n dX8_sign_2 rfl rfl ?_
  refine v_getI dX8_sign_3 fX8_140 rfl rfl rfl ?_
  rw [hi]
  refine v_callVi [_, _] dX8_sign_6 lX8_143 kvX8_byteAt (plX8 _ _) (Or.inl rfl) rfl rfl rfl rfl rfl rfl rfl rfl rfl (c_X8_byteAt ht ?_)
  refine v_iload_n dX8_sign_9 rfl rfl ?_
  refine v_icmp_ne (tgt := 17) dX8_sign_10 (by decide) (fun hc_10 => ?_) (fun hc_10 => ?_)
  · refine v_iconst dX8_sign_17 (by decide) ?_
    refine v_istore_n (ls' := [_, _, _, _]) dX8_sign_18 rfl rfl rfl rfl ?_
    refine v_aload_n dX8_sign_19 rfl rfl ?_
    refine v_dupR_ dX8_sign_20 ?_
    refine v_getI dX8_sign_21 fX8_140 rfl rfl rfl ?_
    refine v_iload_n dX8_sign_24 rfl rfl ?_
    refine v_if_eq (tgt := 32) dX8_sign_25 (by decide) (fun _ => ?_) (fun q => absurd (by decide) q)
    refine v_iconst dX8_sign_32 (by decide) ?_
    refine v_iadd dX8_sign_33 (fun ha hb => by omega) ?_
    refine v_putI dX8_sign_34 fpX8_140 rfl rfl rfl ?_
    refine v_iload_n dX8_sign_37 rfl rfl ?_
    refine v_zreturn dX8_sign_38 rfl (by first | exact Or.inl rfl | exact Or.inr rfl | exact b2i_01 _ | assumption) ?_
    have q : ¬ (i < n ∧ tx i = c) := by
      intro q
      rw [if_pos q.1] at hc_10
      exact hc_10 q.2
    rw [if_neg q] at h
    have e : b2i (((i, none) : Nat × Option Int).2 ≠ none) = 0 := b2i_f (by simp)
    rw [e] at h
    exact h _ (fun o k q => mset_off (by omega)) (by rw [mset_same, hi]; show _ = (i : Int); omega)
  · refine v_iconst dX8_sign_13 (by decide) ?_
    refine v_goto (tgt := 18) dX8_sign_14 (by decide) ?_
    refine v_istore_n (ls' := [_, _, _, _]) dX8_sign_18 rfl rfl rfl rfl ?_
    refine v_aload_n dX8_sign_19 rfl rfl ?_
    refine v_dupR_ dX8_sign_20 ?_
    refine v_getI dX8_sign_21 fX8_140 rfl rfl rfl ?_
    refine v_iload_n dX8_sign_24 rfl rfl ?_
    refine v_if_eq (tgt := 32) dX8_sign_25 (by decide) (fun q => absurd q (by decide)) (fun _ => ?_)
    refine v_iconst dX8_sign_28 (by decide) ?_
    refine v_goto (tgt := 33) dX8_sign_29 (by decide) ?_
    refine v_iadd dX8_sign_33 (fun ha hb => by omega) ?_
    refine v_putI dX8_sign_34 fpX8_140 rfl rfl rfl ?_
    refine v_iload_n dX8_sign_37 rfl rfl ?_
    refine v_zreturn dX8_sign_38 rfl (by first | exact Or.inl rfl | exact Or.inr rfl | exact b2i_01 _ | assumption) ?_
    have hin : i < n := by
      by_cases q : i < n
      · exact q
      · rw [if_neg q] at hc_10; omega
    rw [if_pos hin] at hc_10
    rw [if_pos ⟨hin, by omega⟩] at h
    have e : b2i (((i + 1, some 0) : Nat × Option Int).2 ≠ none) = 1 := b2i_t (by simp)
    rw [e] at h
    exact h _ (fun o k q => mset_off (by omega)) (by rw [mset_same, hi]; show _ = ((i + 1 : Nat) : Int); omega)
end
