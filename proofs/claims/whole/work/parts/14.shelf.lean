/-! Shelf -/
def szf (o : Nat) (n : Int) (μ : Mem_) (r : Int) : Int := if 0 ≤ r ∧ r < n then μ o r.toNat else -1
def mfill (μ : Mem_) (o lo n : Nat) (v : Int) : Mem_ := fun a b => if a = o ∧ lo ≤ b ∧ b < lo + n then v else μ a b
def mcopy (μ : Mem_) (o sp dp n : Nat) : Mem_ := fun a b => if a = o ∧ dp ≤ b ∧ b < dp + n then μ o (sp + (b - dp)) else μ a b
theorem mfill_0 (μ : Mem_) (o lo : Nat) (v : Int) : mfill μ o lo 0 v = μ := by
  funext a b
  have : ¬ (a = o ∧ lo ≤ b ∧ b < lo + 0) := by omega
  unfold mfill
  rw [if_neg this]
theorem mfill_s (μ : Mem_) (o lo n : Nat) (v : Int) : mset (mfill μ o lo n v) o (lo + n) v = mfill μ o lo (n + 1) v := by
  funext a b
  unfold mset mfill
  by_cases h1 : a = o ∧ b = lo + n
  · have h2 : a = o ∧ lo ≤ b ∧ b < lo + (n + 1) := ⟨h1.1, by omega, by omega⟩
    rw [if_pos h1, if_pos h2]
  · rw [if_neg h1]
    by_cases h3 : a = o ∧ lo ≤ b ∧ b < lo + n
    · have h2 : a = o ∧ lo ≤ b ∧ b < lo + (n + 1) := ⟨h3.1, by omega, by omega⟩
      rw [if_pos h3, if_pos h2]
    · have h2 : ¬ (a = o ∧ lo ≤ b ∧ b < lo + (n + 1)) := by
        intro h
        by_cases h4 : b = lo + n
        · exact h1 ⟨h.1, h4⟩
        · exact h3 ⟨h.1, by omega, by omega⟩
      rw [if_neg h3, if_neg h2]
theorem w64_id {a : Int} (h : inL a) : w64 a = a := i64_rt h
theorem w32_id {a : Int} (h : inR a) : w32 a = a := i32_rt h
def dgR : Nat → (Nat → Int) → Int → Int
  | 0, _, h => h
  | n + 1, f, h => w64 (w64 (31 * dgR n f h) + f n)
theorem dgR_congr {n : Nat} {f g : Nat → Int} {h : Int} (e : ∀ k, k < n → f k = g k) : dgR n f h = dgR n g h := by
  induction n with
  | zero => rfl
  | succ n ih => rw [dgR, dgR, ih (fun k hk => e k (by omega)), e n (by omega)]
theorem v_copy {M : MRec} {pc : Nat} {ls st : List PV} {μ : Mem_} {Q : PV → Mem_ → Prop} {idx o n0 : Nat} {sp dp n : Int} (hd : decode (mC M) pc = .ok (.invokestatic idx, 3)) (hl : Cond.methodLink (mY M).cls idx arraycopyName ∈ gt_) (hn : Cond.native arraycopyName ∈ gt_) (hst : Cond.static arraycopyName ∈ gt_) (hi : Cond.initialized "java/lang/System" ∈ gt_) (hs : shp o = (9, n0)) (h1 : 0 ≤ sp) (h2 : 0 ≤ dp) (h3 : 0 ≤ n) (h4 : sp + n ≤ (n0 : Int)) (h5 : dp + n ≤ (n0 : Int)) (hf : Nat.ble 1 (mF M) = true) (hw : Nat.ble (cats st + 18) (mO M) = true) (kk : V_ M (pc + 3) ls st (mcopy μ o sp.toNat dp.toNat n.toNat) Q) : V_ M pc ls (I_ n :: I_ dp :: R_ o :: I_ sp :: R_ o :: st) μ Q := by
  intro g1 g2 g3 g4 p l e s m args below meth c ad D cI cB H locs lsM K
  have hn1 : inR n := okl_hd g2
  have hd1 : inR dp := okl_hd (okl_tl g2)
  have hs1 : inR sp := okl_hd (okl_tl (okl_tl (okl_tl g2)))
  have ho := shp_lt hs (by omega)
  have hwo : (wo ad cI cB μ)[o]? = some (ad o, .inl (cI, n0, .inl (fun i => Int32.ofInt (μ o i)))) := by rw [wo_at ho, cellE_arr hs]
  have nn : ∀ z : Int, inR z → 0 ≤ z → ¬ Int32.ofInt z < 0 := fun z hz h0 => by rw [i32_0, i32_lt hz in0]; omega
  refine va_copyi (ty := .int) K.1.1 K.1.2.1 (by rw [K.1.2.2.2.1, K.2.2.2.2.1, g4]) K.1.2.2.2.2.1 (K.1.2.2.2.2.2.1 _ hl) (K.1.2.2.2.2.2.1 _ hn) (K.1.2.2.2.2.2.1 _ hst) (K.1.2.2.2.2.2.1 _ hi) K.2.1.2.1 K.2.2.1 (wo_D μ K.2.1.1) K.2.2.2.1 o o 0 0 hwo hwo rfl rfl rfl (nn _ hs1 h1) (nn _ hd1 h2) (nn _ hn1 h3) (by rw [i32_nat hs1, i32_nat hn1]; omega) (by rw [i32_nat hd1, i32_nat hn1]; omega) (fun _ _ => rfl) (Nat.le_of_ble_eq_true hf) ?_ hd ?_
  · have e1 := cats_eq ad st
    have e2 : nativeFrameWords "java/lang/System" "arraycopy" 5 = 7 := by decide +kernel
    have e3 := Nat.le_of_ble_eq_true hw
    rw [e1, e2]
    show cats st + (7 + 11) ≤ mO M
    omega
  · intro H1 locs1 hP1 _ hS1
    rw [i32_nat hs1, i32_nat hd1, i32_nat hn1] at hP1
    have eW : (wo ad cI cB μ).set o (ad o, .inl (cI, n0, .inl (va_cpy (fun i => Int32.ofInt (μ o i)) (fun i => Int32.ofInt (μ o i)) sp.toNat dp.toNat n.toNat))) = wo ad cI cB (mcopy μ o sp.toNat dp.toNat n.toNat) := by
      refine wo_set ?_ (fun o' ho' => ?_)
      · rw [cellE_arr hs]
        congr 4
        funext i
        unfold va_cpy mcopy
        by_cases hi : dp.toNat ≤ i ∧ i < dp.toNat + n.toNat
        · rw [if_pos hi, if_pos ⟨rfl, hi⟩]
        · rw [if_neg hi, if_neg (fun q => hi q.2)]
      · have e1 : ∀ i, mcopy μ o sp.toNat dp.toNat n.toNat o' i = μ o' i := fun i => if_neg (fun q => ho' q.1)
        unfold cellE pvf
        simp only [e1]
    rw [eW] at hP1
    refine kk g1 (okl_tl (okl_tl (okl_tl (okl_tl (okl_tl g2))))) ?_ g4 p l e s m args below meth c ad D cI cB H1 locs1 lsM ⟨K.1, K.2.1, hP1, hS1, K.2.2.2.2⟩
    intro a b
    unfold mcopy
    split
    · rename_i hq
      rw [hq.1, fk_arr hs (by omega) (by omega)]
      exact ⟨by omega, fun _ => (g3 o _).2 (by rw [fk_arr hs (by omega) (by omega)]; omega)⟩
    · exact g3 a b
theorem lcX7_235 : Cond.constantLong RX7 235 12 ∈ gt_ := gt_mem (i := 758) (by decide +kernel) rfl
theorem lcX6_40 : Cond.constant RX6 40 16777216 ∈ gt_ := gt_mem (i := 790) (by decide +kernel) rfl
theorem lcJ6_265 : Cond.constant RJ6 265 1431655765 ∈ gt_ := gt_mem (i := 838) (by decide +kernel) rfl
theorem lcJ6_266 : Cond.constant RJ6 266 858993459 ∈ gt_ := gt_mem (i := 839) (by decide +kernel) rfl
theorem lcJ6_267 : Cond.constant RJ6 267 252645135 ∈ gt_ := gt_mem (i := 840) (by decide +kernel) rfl
theorem lcX7_314 : Cond.constantLong RX7 314 17 ∈ gt_ := gt_mem (i := 930) (by decide +kernel) rfl
theorem lcX7_316 : Cond.constantLong RX7 316 31 ∈ gt_ := gt_mem (i := 931) (by decide +kernel) rfl
theorem lcX4_47 : Cond.constantLong RX4 47 31 ∈ gt_ := gt_mem (i := 941) (by decide +kernel) rfl
theorem lcX8_271 : Cond.constantLong RX8 271 12 ∈ gt_ := gt_mem (i := 1350) (by decide +kernel) rfl
theorem lcX8_344 : Cond.constantLong RX8 344 17 ∈ gt_ := gt_mem (i := 1454) (by decide +kernel) rfl
theorem lcX8_335 : Cond.constantLong RX8 335 31 ∈ gt_ := gt_mem (i := 1459) (by decide +kernel) rfl

abbrev ok_1 (μ : Mem_) : Prop := ∀ r : Nat, r < 6 → -1 ≤ μ 2 r ∧ μ 2 r ≤ 40
abbrev sz_1 (μ : Mem_) (r : Int) : Int := szf 2 6 μ r
theorem szb_1 {μ : Mem_} (h : ok_1 μ) (r : Int) : -1 ≤ sz_1 μ r ∧ sz_1 μ r ≤ 40 := by
  unfold sz_1 szf
  split
  · exact h r.toNat (by omega)
  · omega
theorem szk_1 {μ : Mem_} {r : Int} (h : 0 ≤ sz_1 μ r) : 0 ≤ r ∧ r < 6 := by
  unfold sz_1 szf at h
  split at h
  · assumption
  · omega
theorem sze_1 {μ : Mem_} {r : Int} (h : 0 ≤ r ∧ r < 6) : sz_1 μ r = μ 2 r.toNat := if_pos h
section
variable {μ : Mem_} {Q : PV → Mem_ → Prop}
set_option maxRecDepth 10000 in
theorem c_X4_knows_1 {r : Int} (h : Q (I_ (b2i (0 ≤ r ∧ r < 6))) μ) : V_ nX4_knows 0 [R_ 1, I_ r] [] μ Q := by
  refine v_iload_n dX4_knows_0 rfl rfl ?_
  refine v_if_lt (tgt := 17) dX4_knows_1 (by decide) (fun hc_1 => ?_) (fun hc_1 => ?_)
  · refine v_iconst dX4_knows_17 (by decide) ?_
    refine v_zreturn dX4_knows_18 rfl (by first | exact Or.inl rfl | exact Or.inr rfl | exact b2i_01 _ | assumption) ?_
    rwa [b2i_f (by omega)] at h
  · refine v_iload_n dX4_knows_4 rfl rfl ?_
    refine v_aload_n dX4_knows_5 rfl rfl ?_
    refine v_getR dX4_knows_6 fX4_15 rfl rfl rfl ?_
    refine v_alen dX4_knows_9 rfl rfl ?_
    refine v_icmp_ge (tgt := 17) dX4_knows_10 (by decide) (fun hc_10 => ?_) (fun hc_10 => ?_)
    · refine v_iconst dX4_knows_17 (by decide) ?_
      refine v_zreturn dX4_knows_18 rfl (by first | exact Or.inl rfl | exact Or.inr rfl | exact b2i_01 _ | assumption) ?_
      rwa [b2i_f (by omega)] at h
    · refine v_iconst dX4_knows_13 (by decide) ?_
      refine v_goto (tgt := 18) dX4_knows_14 (by decide) ?_
      refine v_zreturn dX4_knows_18 rfl (by first | exact Or.inl rfl | exact Or.inr rfl | exact b2i_01 _ | assumption) ?_
      rwa [b2i_t (by omega)] at h
set_option maxRecDepth 10000 in
theorem c_X4_sizeOf_1 {r : Int} (h : Q (I_ (sz_1 μ r)) μ) : V_ nX4_sizeOf 0 [R_ 1, I_ r] [] μ Q := by
  refine v_aload_n dX4_sizeOf_0 rfl rfl ?_
  refine v_iload_n dX4_sizeOf_1 rfl rfl ?_
  refine v_callVi [_] dX4_sizeOf_2 lX4_26 kvX4_knows (plX4 _ _) (Or.inr rfl) rfl rfl rfl rfl rfl rfl rfl rfl rfl (c_X4_knows_1 ?_)
  refine v_ifb_eq (tgt := 17) dX4_sizeOf_5 (by decide) (fun hc_5 => ?_) (fun hc_5 => ?_)
  · refine v_iconst dX4_sizeOf_17 (by decide) ?_
    refine v_ireturn dX4_sizeOf_18 rfl ?_
    rwa [sz_1, szf, if_neg hc_5] at h
  · refine v_aload_n dX4_sizeOf_8 rfl rfl ?_
    refine v_getR dX4_sizeOf_9 fX4_15 rfl rfl rfl ?_
    refine v_iload_n dX4_sizeOf_12 rfl rfl ?_
    refine v_iald dX4_sizeOf_13 rfl (by omega) (by omega) ?_
    refine v_goto (tgt := 18) dX4_sizeOf_14 (by decide) ?_
    refine v_ireturn dX4_sizeOf_18 rfl ?_
    rwa [sz_1, szf, if_pos hc_5] at h
set_option maxRecDepth 10000 in
theorem c_X4_isThere_1 {r : Int} (h : Q (I_ (b2i (0 ≤ sz_1 μ r))) μ) : V_ nX4_isThere 0 [R_ 1, I_ r] [] μ Q := by
  refine v_aload_n dX4_isThere_0 rfl rfl ?_
  refine v_iload_n dX4_isThere_1 rfl rfl ?_
  refine v_callVi [_] dX4_isThere_2 lX4_22 kvX4_sizeOf (plX4 _ _) (Or.inl rfl) rfl rfl rfl rfl rfl rfl rfl rfl rfl (c_X4_sizeOf_1 ?_)
  refine v_if_lt (tgt := 12) dX4_isThere_5 (by decide) (fun hc_5 => ?_) (fun hc_5 => ?_)
  · refine v_iconst dX4_isThere_12 (by decide) ?_
    refine v_zreturn dX4_isThere_13 rfl (by first | exact Or.inl rfl | exact Or.inr rfl | exact b2i_01 _ | assumption) ?_
    rwa [b2i_f (by omega)] at h
  · refine v_iconst dX4_isThere_8 (by decide) ?_
    refine v_goto (tgt := 13) dX4_isThere_9 (by decide) ?_
    refine v_zreturn dX4_isThere_13 rfl (by first | exact Or.inl rfl | exact Or.inr rfl | exact b2i_01 _ | assumption) ?_
    rwa [b2i_t (by omega)] at h
set_option maxRecDepth 10000 in
theorem c_X4_spans_1 {r i n : Int} (hk : ok_1 μ) (h : Q (I_ (b2i (0 ≤ i ∧ 0 ≤ n ∧ i ≤ sz_1 μ r - n))) μ) : V_ nX4_spans 0 [R_ 1, I_ r, I_ i, I_ n] [] μ Q := by
  have hb := szb_1 hk r
  refine v_iload_n dX4_spans_0 rfl rfl ?_
  refine v_if_lt (tgt := 23) dX4_spans_1 (by decide) (fun hc_1 => ?_) (fun hc_1 => ?_)
  · refine v_iconst dX4_spans_23 (by decide) ?_
    refine v_zreturn dX4_spans_24 rfl (by first | exact Or.inl rfl | exact Or.inr rfl | exact b2i_01 _ | assumption) ?_
    rwa [b2i_f (by omega)] at h
  · refine v_iload_n dX4_spans_4 rfl rfl ?_
    refine v_if_lt (tgt := 23) dX4_spans_5 (by decide) (fun hc_5 => ?_) (fun hc_5 => ?_)
    · refine v_iconst dX4_spans_23 (by decide) ?_
      refine v_zreturn dX4_spans_24 rfl (by first | exact Or.inl rfl | exact Or.inr rfl | exact b2i_01 _ | assumption) ?_
      rwa [b2i_f (by omega)] at h
    · refine v_iload_n dX4_spans_8 rfl rfl ?_
      refine v_aload_n dX4_spans_9 rfl rfl ?_
      refine v_iload_n dX4_spans_10 rfl rfl ?_
      refine v_callVi [_] dX4_spans_11 lX4_22 kvX4_sizeOf (plX4 _ _) (Or.inl rfl) rfl rfl rfl rfl rfl rfl rfl rfl rfl (c_X4_sizeOf_1 ?_)
      refine v_iload_n dX4_spans_14 rfl rfl ?_
      refine v_isub dX4_spans_15 (fun ha hb => by omega) ?_
      refine v_icmp_gt (tgt := 23) dX4_spans_16 (by decide) (fun hc_16 => ?_) (fun hc_16 => ?_)
      · refine v_iconst dX4_spans_23 (by decide) ?_
        refine v_zreturn dX4_spans_24 rfl (by first | exact Or.inl rfl | exact Or.inr rfl | exact b2i_01 _ | assumption) ?_
        rwa [b2i_f (by omega)] at h
      · refine v_iconst dX4_spans_19 (by decide) ?_
        refine v_goto (tgt := 24) dX4_spans_20 (by decide) ?_
        refine v_zreturn dX4_spans_24 rfl (by first | exact Or.inl rfl | exact Or.inr rfl | exact b2i_01 _ | assumption) ?_
        rwa [b2i_t (by omega)] at h
def get_1 (μ : Mem_) (r i : Int) : Int := if 0 ≤ i ∧ i < sz_1 μ r then μ 3 (r * 40 + i).toNat else 1000
set_option maxRecDepth 10000 in
theorem c_X4_get_1 {r i : Int} (hk : ok_1 μ) (h : Q (I_ (get_1 μ r i)) μ) : V_ nX4_get 0 [R_ 1, I_ r, I_ i] [] μ Q := by
  have hb := szb_1 hk r
  refine v_aload_n dX4_get_0 rfl rfl ?_
  refine v_iload_n dX4_get_1 rfl rfl ?_
  refine v_iload_n dX4_get_2 rfl rfl ?_
  refine v_iconst dX4_get_3 (by decide) ?_
  refine v_callVi [_, _, _] dX4_get_4 lX4_30 kvX4_spans (plX4 _ _) (Or.inr rfl) rfl rfl rfl rfl rfl rfl rfl rfl rfl (c_X4_spans_1 hk ?_)
  refine v_ifb_eq (tgt := 26) dX4_get_7 (by decide) (fun hc_7 => ?_) (fun hc_7 => ?_)
  · refine v_sipush dX4_get_26 (by decide) ?_
    refine v_ireturn dX4_get_29 rfl ?_
    rwa [get_1, if_neg (by omega)] at h
  · have hr := szk_1 (μ := μ) (r := r) (by omega)
    refine v_aload_n dX4_get_10 rfl rfl ?_
    refine v_getR dX4_get_11 fX4_19 rfl rfl rfl ?_
    refine v_iload_n dX4_get_14 rfl rfl ?_
    refine v_aload_n dX4_get_15 rfl rfl ?_
    refine v_getC dX4_get_16 fX4_9 rfl rfl rfl ?_
    rw [show ((40 : Nat) : Int) = 40 from rfl]
    refine v_imul dX4_get_19 (fun ha hb => by omega) ?_
    refine v_iload_n dX4_get_20 rfl rfl ?_
    refine v_iadd dX4_get_21 (fun ha hb => by omega) ?_
    refine v_iald dX4_get_22 rfl (by omega) (by omega) ?_
    refine v_goto (tgt := 29) dX4_get_23 (by decide) ?_
    refine v_ireturn dX4_get_29 rfl ?_
    rwa [get_1, if_pos (by omega)] at h
def set_1 (μ : Mem_) (r i v : Int) : Mem_ := if 0 ≤ i ∧ i < sz_1 μ r then mset μ 3 (r * 40 + i).toNat v else μ
set_option maxRecDepth 10000 in
theorem c_X4_set_1 {r i v : Int} (hk : ok_1 μ) (h : Q U_ (set_1 μ r i v)) : V_ nX4_set 0 [R_ 1, I_ r, I_ i, I_ v] [] μ Q := by
  have hb := szb_1 hk r
  refine v_aload_n dX4_set_0 rfl rfl ?_
  refine v_iload_n dX4_set_1 rfl rfl ?_
  refine v_iload_n dX4_set_2 rfl rfl ?_
  refine v_iconst dX4_set_3 (by decide) ?_
  refine v_callVi [_, _, _] dX4_set_4 lX4_30 kvX4_spans (plX4 _ _) (Or.inr rfl) rfl rfl rfl rfl rfl rfl rfl rfl rfl (c_X4_spans_1 hk ?_)
  refine v_ifb_eq (tgt := 24) dX4_set_7 (by decide) (fun hc_7 => ?_) (fun hc_7 => ?_)
  · refine v_return dX4_set_24 rfl ?_
    rwa [set_1, if_neg (by omega)] at h
  · have hr := szk_1 (μ := μ) (r := r) (by omega)
    refine v_aload_n dX4_set_10 rfl rfl ?_
    refine v_getR dX4_set_11 fX4_19 rfl rfl rfl ?_
    refine v_iload_n dX4_set_14 rfl rfl ?_
    refine v_aload_n dX4_set_15 rfl rfl ?_
    refine v_getC dX4_set_16 fX4_9 rfl rfl rfl ?_
    rw [show ((40 : Nat) : Int) = 40 from rfl]
    refine v_imul dX4_set_19 (fun ha hb => by omega) ?_
    refine v_iload_n dX4_set_20 rfl rfl ?_
    refine v_iadd dX4_set_21 (fun ha hb => by omega) ?_
    refine v_iload_n dX4_set_22 rfl rfl ?_
    refine v_iast dX4_set_23 rfl (by omega) (by omega) ?_
    refine v_return dX4_set_24 rfl ?_
    rwa [set_1, if_pos (by omega)] at h
set_option maxRecDepth 10000 in
theorem lp_X4_renew_1 {r n v : Int} (hr : 0 ≤ r ∧ r < 6) (hn : 0 ≤ n ∧ n ≤ 40) (h : Q U_ (mfill μ 3 (r * 40).toNat n.toNat v)) : ∀ k : Int, 0 ≤ k → k ≤ n → V_ nX4_renew 30 [R_ 1, I_ r, I_ n, I_ v, I_ k] [] (mfill μ 3 (r * 40).toNat k.toNat v) Q := by
  refine loop_up n (fun k h0 h1 ih => ?_)
  refine v_iload dX4_renew_30 rfl ?_
  refine v_iload_n dX4_renew_32 rfl rfl ?_
  refine v_icmp_ge (tgt := 57) dX4_renew_33 (by decide) (fun hc_33 => ?_) (fun hc_33 => ?_)
  · refine v_return dX4_renew_57 rfl ?_
    rwa [show k = n by omega]
  · refine v_aload_n dX4_renew_36 rfl rfl ?_
    refine v_getR dX4_renew_37 fX4_19 rfl rfl rfl ?_
    refine v_iload_n dX4_renew_40 rfl rfl ?_
    refine v_aload_n dX4_renew_41 rfl rfl ?_
    refine v_getC dX4_renew_42 fX4_9 rfl rfl rfl ?_
    rw [show ((40 : Nat) : Int) = 40 from rfl]
    refine v_imul dX4_renew_45 (fun ha hb => by omega) ?_
    refine v_iload dX4_renew_46 rfl ?_
    refine v_iadd dX4_renew_48 (fun ha hb => by omega) ?_
    refine v_iload_n dX4_renew_49 rfl rfl ?_
    refine v_iast dX4_renew_50 rfl (by omega) (by omega) ?_
    refine v_iinc (ls' := [_, _, _, _, _]) dX4_renew_51 rfl (fun hi_51 => by omega) rfl rfl ?_
    refine v_goto (tgt := 30) dX4_renew_54 (by decide) ?_
    have := ih (by omega)
    rwa [show (r * 40 + k).toNat = (r * 40).toNat + k.toNat by omega, mfill_s, show k.toNat + 1 = (k + 1).toNat by omega]
set_option maxRecDepth 10000 in
theorem c_X4_renew_1 {r n v : Int} (hr : 0 ≤ r ∧ r < 6) (hn : 0 ≤ n ∧ n ≤ 40) (h : Q U_ (mfill (mset μ 2 r.toNat n) 3 (r * 40).toNat n.toNat v)) : V_ nX4_renew 0 [R_ 1, I_ r, I_ n, I_ v, U_] [] μ Q := by
  refine v_aload_n dX4_renew_0 rfl rfl ?_
  refine v_iload_n dX4_renew_1 rfl rfl ?_
  refine v_callVi [_] dX4_renew_2 lX4_26 kvX4_knows (plX4 _ _) (Or.inr rfl) rfl rfl rfl rfl rfl rfl rfl rfl rfl (c_X4_knows_1 ?_)
  refine v_ifb_eq (tgt := 57) dX4_renew_5 (by decide) (fun hc_5 => ?_) (fun hc_5 => ?_)
  · refine v_return dX4_renew_57 rfl ?_
    omega
  · refine v_iload_n dX4_renew_8 rfl rfl ?_
    refine v_if_lt (tgt := 57) dX4_renew_9 (by decide) (fun hc_9 => ?_) (fun hc_9 => ?_)
    · refine v_return dX4_renew_57 rfl ?_
      omega
    · refine v_iload_n dX4_renew_12 rfl rfl ?_
      refine v_aload_n dX4_renew_13 rfl rfl ?_
      refine v_getC dX4_renew_14 fX4_9 rfl rfl rfl ?_
      refine v_icmp_gt (tgt := 57) dX4_renew_17 (by decide) (fun hc_17 => ?_) (fun hc_17 => ?_)
      · refine v_return dX4_renew_57 rfl ?_
        omega
      · refine v_aload_n dX4_renew_20 rfl rfl ?_
        refine v_getR dX4_renew_21 fX4_15 rfl rfl rfl ?_
        refine v_iload_n dX4_renew_24 rfl rfl ?_
        refine v_iload_n dX4_renew_25 rfl rfl ?_
        refine v_iast dX4_renew_26 rfl (by omega) (by omega) ?_
        refine v_iconst dX4_renew_27 (by decide) ?_
        refine v_istore (ls' := [_, _, _, _, _]) dX4_renew_28 rfl rfl rfl ?_
        have := lp_X4_renew_1 (μ := mset μ 2 r.toNat n) hr hn h 0 (by omega) (by omega)
        rwa [show (0 : Int).toNat = 0 from rfl, mfill_0] at this
set_option maxRecDepth 10000 in
theorem c_X4_drop_1 {r : Int} (hr : 0 ≤ r ∧ r < 6) (h : Q U_ (mset μ 2 r.toNat (-1))) : V_ nX4_drop 0 [R_ 1, I_ r] [] μ Q := by
  refine v_aload_n dX4_drop_0 rfl rfl ?_
  refine v_iload_n dX4_drop_1 rfl rfl ?_
  refine v_callVi [_] dX4_drop_2 lX4_26 kvX4_knows (plX4 _ _) (Or.inr rfl) rfl rfl rfl rfl rfl rfl rfl rfl rfl (c_X4_knows_1 ?_)
  refine v_ifb_eq (tgt := 15) dX4_drop_5 (by decide) (fun hc_5 => ?_) (fun hc_5 => ?_)
  · refine v_return dX4_drop_15 rfl ?_
    omega
  · refine v_aload_n dX4_drop_8 rfl rfl ?_
    refine v_getR dX4_drop_9 fX4_15 rfl rfl rfl ?_
    refine v_iload_n dX4_drop_12 rfl rfl ?_
    refine v_iconst dX4_drop_13 (by decide) ?_
    refine v_iast dX4_drop_14 rfl (by omega) (by omega) ?_
    refine v_return dX4_drop_15 rfl ?_
    exact h
set_option maxRecDepth 10000 in
theorem lp_X4_present_1 (h : Q (I_ (smR 6 (fun r => b2i (0 ≤ μ 2 r)))) μ) : ∀ k : Int, 0 ≤ k → k ≤ 6 → ∀ a : Int, a = smR k.toNat (fun r => b2i (0 ≤ μ 2 r)) → 0 ≤ a ∧ a ≤ k → V_ nX4_present 4 [R_ 1, I_ a, I_ k] [] μ Q := by
  refine loop_up 6 (fun k h0 h1 ih => ?_)
  intro a ha hb
  have hsz : k < 6 → sz_1 μ k = μ 2 k.toNat := fun q => sze_1 (by omega)
  have hst : k < 6 → smR (k + 1).toNat (fun r => b2i (0 ≤ μ 2 r)) = a + b2i (0 ≤ μ 2 k.toNat) := fun q => by rw [show (k + 1).toNat = k.toNat + 1 by omega, smR, ha]
  refine v_iload_n dX4_present_4 rfl rfl ?_
  refine v_aload_n dX4_present_5 rfl rfl ?_
  refine v_getR dX4_present_6 fX4_15 rfl rfl rfl ?_
  refine v_alen dX4_present_9 rfl rfl ?_
  refine v_icmp_ge (tgt := 35) dX4_present_10 (by decide) (fun hc_10 => ?_) (fun hc_10 => ?_)
  · refine v_iload_n dX4_present_35 rfl rfl ?_
    refine v_ireturn dX4_present_36 rfl ?_
    rw [show k.toNat = 6 by omega] at ha; rwa [ha]
  · refine v_iload_n dX4_present_13 rfl rfl ?_
    refine v_aload_n dX4_present_14 rfl rfl ?_
    refine v_iload_n dX4_present_15 rfl rfl ?_
    refine v_callVi [_] dX4_present_16 lX4_44 kvX4_isThere (plX4 _ _) (Or.inr rfl) rfl rfl rfl rfl rfl rfl rfl rfl rfl (c_X4_isThere_1 ?_)
    refine v_ifb_eq (tgt := 26) dX4_present_19 (by decide) (fun hc_19 => ?_) (fun hc_19 => ?_)
    · refine v_iconst dX4_present_26 (by decide) ?_
      refine v_iadd dX4_present_27 (fun ha hb => by omega) ?_
      refine v_istore_n (ls' := [_, _, _]) dX4_present_28 rfl rfl rfl rfl ?_
      refine v_iinc (ls' := [_, _, _]) dX4_present_29 rfl (fun hi_29 => by omega) rfl rfl ?_
      refine v_goto (tgt := 4) dX4_present_32 (by decide) ?_
      refine ih (by omega) _ ?_ (by omega)
      rw [hst (by omega), b2i_f (by rw [hsz (by omega)] at hc_19; omega)]
    · refine v_iconst dX4_present_22 (by decide) ?_
      refine v_goto (tgt := 27) dX4_present_23 (by decide) ?_
      refine v_iadd dX4_present_27 (fun ha hb => by omega) ?_
      refine v_istore_n (ls' := [_, _, _]) dX4_present_28 rfl rfl rfl rfl ?_
      refine v_iinc (ls' := [_, _, _]) dX4_present_29 rfl (fun hi_29 => by omega) rfl rfl ?_
      refine v_goto (tgt := 4) dX4_present_32 (by decide) ?_
      refine ih (by omega) _ ?_ (by omega)
      rw [hst (by omega), b2i_t (by rw [hsz (by omega)] at hc_19; omega)]
set_option maxRecDepth 10000 in
theorem c_X4_present_1 (h : Q (I_ (smR 6 (fun r => b2i (0 ≤ μ 2 r)))) μ) : V_ nX4_present 0 [R_ 1, U_, U_] [] μ Q := by
  refine v_iconst dX4_present_0 (by decide) ?_
  refine v_istore_n (ls' := [_, _, _]) dX4_present_1 rfl rfl rfl rfl ?_
  refine v_iconst dX4_present_2 (by decide) ?_
  refine v_istore_n (ls' := [_, _, _]) dX4_present_3 rfl rfl rfl rfl ?_
  exact lp_X4_present_1 h 0 (by omega) (by omega) 0 rfl (by omega)
set_option maxRecDepth 10000 in
theorem lp_X4_sumOf_1 {r : Int} (hk : ok_1 μ) (hr : 0 ≤ r ∧ r < 6) (h0s : 0 ≤ sz_1 μ r) (hin : ∀ j, inR (μ 3 j)) (h : Q (L_ (smR (sz_1 μ r).toNat (fun i => μ 3 (r.toNat * 40 + i)))) μ) : ∀ k : Int, 0 ≤ k → k ≤ sz_1 μ r → ∀ a : Int, a = smR k.toNat (fun i => μ 3 (r.toNat * 40 + i)) → -2147483648 * k ≤ a ∧ a ≤ 2147483648 * k → V_ nX4_sumOf 12 [R_ 1, I_ r, L_ a, U_, I_ (sz_1 μ r), I_ k] [] μ Q := by
  have hb := szb_1 hk r
  refine loop_up (sz_1 μ r) (fun k h0 h1 ih => ?_)
  intro a ha hab
  have e1 : k < sz_1 μ r → get_1 μ r k = μ 3 (r.toNat * 40 + k.toNat) := fun q => by rw [get_1, if_pos (by omega), show (r * 40 + k).toNat = r.toNat * 40 + k.toNat by omega]
  have hj := hin (r.toNat * 40 + k.toNat)
  refine v_iload dX4_sumOf_12 rfl ?_
  refine v_iload dX4_sumOf_14 rfl ?_
  refine v_icmp_ge (tgt := 36) dX4_sumOf_16 (by decide) (fun hc_16 => ?_) (fun hc_16 => ?_)
  · refine v_lload_n dX4_sumOf_36 rfl rfl ?_
    refine v_lreturn dX4_sumOf_37 rfl ?_
    rw [show k = sz_1 μ r by omega] at ha; rwa [ha]
  · refine v_lload_n dX4_sumOf_19 rfl rfl ?_
    refine v_aload_n dX4_sumOf_20 rfl rfl ?_
    refine v_iload_n dX4_sumOf_21 rfl rfl ?_
    refine v_iload dX4_sumOf_22 rfl ?_
    refine v_callVi [_, _] dX4_sumOf_24 lX4_40 kvX4_get (plX4 _ _) (Or.inl rfl) rfl rfl rfl rfl rfl rfl rfl rfl rfl (c_X4_get_1 hk ?_)
    refine v_i2l dX4_sumOf_27 ?_
    refine v_ladd dX4_sumOf_28 ?_
    refine v_lstore_n (ls' := [_, _, _, _, _, _]) dX4_sumOf_29 rfl rfl rfl rfl ?_
    refine v_iinc (ls' := [_, _, _, _, _, _]) dX4_sumOf_30 rfl (fun hi_30 => by omega) rfl rfl ?_
    refine v_goto (tgt := 12) dX4_sumOf_33 (by decide) ?_
    rw [e1 (by omega), w64_id (by omega)]
    refine ih (by omega) _ ?_ (by omega)
    rw [show (k + 1).toNat = k.toNat + 1 by omega, smR, ha]
set_option maxRecDepth 10000 in
theorem c_X4_sumOf_1 {r : Int} (hk : ok_1 μ) (hr : 0 ≤ r ∧ r < 6) (h0s : 0 ≤ sz_1 μ r) (h : Q (L_ (smR (sz_1 μ r).toNat (fun i => μ 3 (r.toNat * 40 + i)))) μ) : V_ nX4_sumOf 0 [R_ 1, I_ r, U_, U_, U_, U_] [] μ Q := by
  refine v_mem (fun hμ => ?_)
  have hin : ∀ j, inR (μ 3 j) := fun j => (hμ 3 j).2 (by rw [fk_arr (o := 3) rfl (by decide) (by decide)]; decide)
  refine v_lconst (x := 0) dX4_sumOf_0 (by decide) ?_
  refine v_lstore_n (ls' := [_, _, _, _, _, _]) dX4_sumOf_1 rfl rfl rfl rfl ?_
  refine v_aload_n dX4_sumOf_2 rfl rfl ?_
  refine v_iload_n dX4_sumOf_3 rfl rfl ?_
  refine v_callVi [_] dX4_sumOf_4 lX4_22 kvX4_sizeOf (plX4 _ _) (Or.inl rfl) rfl rfl rfl rfl rfl rfl rfl rfl rfl (c_X4_sizeOf_1 ?_)
  refine v_istore (ls' := [_, _, _, _, _, _]) dX4_sumOf_7 rfl rfl rfl ?_
  refine v_iconst dX4_sumOf_9 (by decide) ?_
  refine v_istore (ls' := [_, _, _, _, _, _]) dX4_sumOf_10 rfl rfl rfl ?_
  exact lp_X4_sumOf_1 hk hr h0s hin h 0 (by omega) (by omega) 0 rfl (by omega)
def dgI_1 (μ : Mem_) (r : Nat) (h : Int) : Int := dgR (μ 2 r).toNat (fun i => μ 3 (r * 40 + i)) (w64 (w64 (31 * h) + μ 2 r))
def dgS_1 (μ : Mem_) : Nat → Int → Int
  | 0, h => h
  | r + 1, h => dgI_1 μ r (dgS_1 μ r h)
set_option maxRecDepth 10000 in
theorem lpi_X4_digestOn_1 {bf : Int} {r : Int} (hk : ok_1 μ) (hr : 0 ≤ r ∧ r < 6) {a0 : Int} {b : PV} (h0 : inL a0) (h : inL (dgR (μ 2 r.toNat).toNat (fun i => μ 3 (r.toNat * 40 + i)) a0) → V_ nX4_digestOn 67 [R_ 1, L_ bf, U_, L_ (dgR (μ 2 r.toNat).toNat (fun i => μ 3 (r.toNat * 40 + i)) a0), U_, I_ r, U_] [] μ Q) : ∀ k : Int, 0 ≤ k → k ≤ (μ 2 r.toNat).toNat → ∀ a : Int, a = dgR k.toNat (fun i => μ 3 (r.toNat * 40 + i)) a0 → inL a → V_ nX4_digestOn 33 [R_ 1, L_ bf, U_, L_ a, U_, I_ r, I_ k] [] μ Q := by
  have hb := hk r.toNat (by omega)
  have hsz : sz_1 μ r = μ 2 r.toNat := sze_1 hr
  refine loop_up _ (fun k h0 h1 ih => ?_)
  intro a ha hal
  refine v_iload dX4_digestOn_33 rfl ?_
  refine v_aload_n dX4_digestOn_35 rfl rfl ?_
  refine v_getR dX4_digestOn_36 fX4_15 rfl rfl rfl ?_
  refine v_iload dX4_digestOn_39 rfl ?_
  refine v_iald dX4_digestOn_41 rfl (by omega) (by omega) ?_
  refine v_icmp_ge (tgt := 67) dX4_digestOn_42 (by decide) (fun hc_42 => ?_) (fun hc_42 => ?_)
  · refine v_kill (ls' := [_, _, _, _, _, _, _]) 6 rfl ?_
    rw [show k.toNat = (μ 2 r.toNat).toNat by omega] at ha
    rw [ha] at hal ⊢
    exact h hal
  · refine v_ldc2 (x := 31) dX4_digestOn_45 lcX4_47 (by decide) (by decide) ?_
    refine v_lload_n dX4_digestOn_48 rfl rfl ?_
    refine v_lmul dX4_digestOn_49 ?_
    refine v_aload_n dX4_digestOn_50 rfl rfl ?_
    refine v_iload dX4_digestOn_51 rfl ?_
    refine v_iload dX4_digestOn_53 rfl ?_
    refine v_callVi [_, _] dX4_digestOn_55 lX4_40 kvX4_get (plX4 _ _) (Or.inl rfl) rfl rfl rfl rfl rfl rfl rfl rfl rfl (c_X4_get_1 hk ?_)
    refine v_i2l dX4_digestOn_58 ?_
    refine v_ladd dX4_digestOn_59 ?_
    refine v_lstore_n (ls' := [_, _, _, _, _, _, _]) dX4_digestOn_60 rfl rfl rfl rfl ?_
    refine v_iinc (ls' := [_, _, _, _, _, _, _]) dX4_digestOn_61 rfl (fun hi_61 => by omega) rfl rfl ?_
    refine v_goto (tgt := 33) dX4_digestOn_64 (by decide) ?_
    rw [get_1, if_pos (by omega), show (r * 40 + k).toNat = r.toNat * 40 + k.toNat by omega]
    refine ih (by omega) _ ?_ (i64_in _)
    rw [show (k + 1).toNat = k.toNat + 1 by omega, dgR, ha]
set_option maxRecDepth 10000 in
theorem lp_X4_digestOn_1 {bf : Int} (hk : ok_1 μ) (h : Q (L_ (dgS_1 μ 6 bf)) μ) : ∀ r : Int, 0 ≤ r → r ≤ 6 → ∀ a : Int, a = dgS_1 μ r.toNat bf → inL a → V_ nX4_digestOn 5 [R_ 1, L_ bf, U_, L_ a, U_, I_ r, U_] [] μ Q := by
  refine loop_up _ (fun r h0 h1 ih => ?_)
  intro a ha hal
  refine v_iload dX4_digestOn_5 rfl ?_
  refine v_aload_n dX4_digestOn_7 rfl rfl ?_
  refine v_getR dX4_digestOn_8 fX4_15 rfl rfl rfl ?_
  refine v_alen dX4_digestOn_11 rfl rfl ?_
  refine v_icmp_ge (tgt := 73) dX4_digestOn_12 (by decide) (fun hc_12 => ?_) (fun hc_12 => ?_)
  · refine v_lload_n dX4_digestOn_73 rfl rfl ?_
    refine v_lreturn dX4_digestOn_74 rfl ?_
    rw [show r.toNat = 6 by omega] at ha; rwa [ha]
  · refine v_ldc2 (x := 31) dX4_digestOn_15 lcX4_47 (by decide) (by decide) ?_
    refine v_lload_n dX4_digestOn_18 rfl rfl ?_
    refine v_lmul dX4_digestOn_19 ?_
    refine v_aload_n dX4_digestOn_20 rfl rfl ?_
    refine v_getR dX4_digestOn_21 fX4_15 rfl rfl rfl ?_
    refine v_iload dX4_digestOn_24 rfl ?_
    refine v_iald dX4_digestOn_26 rfl (by omega) (by omega) ?_
    refine v_i2l dX4_digestOn_27 ?_
    refine v_ladd dX4_digestOn_28 ?_
    refine v_lstore_n (ls' := [_, _, _, _, _, _, _]) dX4_digestOn_29 rfl rfl rfl rfl ?_
    refine v_iconst dX4_digestOn_30 (by decide) ?_
    refine v_istore (ls' := [_, _, _, _, _, _, _]) dX4_digestOn_31 rfl rfl rfl ?_
    refine lpi_X4_digestOn_1 (a0 := w64 (w64 (31 * a) + μ 2 r.toNat)) hk (by omega) (b := U_) (i64_in _) (fun hl => ?_) 0 (by omega) (by omega) _ rfl (i64_in _)
    refine v_iinc (ls' := [_, _, _, _, _, _, _]) dX4_digestOn_67 rfl (fun hi_67 => by omega) rfl rfl ?_
    refine v_goto (tgt := 5) dX4_digestOn_70 (by decide) ?_
    exact ih (by omega) _ (by rw [show (r + 1).toNat = r.toNat + 1 by omega, dgS_1, dgI_1, ha]) hl
set_option maxRecDepth 10000 in
theorem c_X4_digestOn_1 {bf : Int} (hk : ok_1 μ) (h : Q (L_ (dgS_1 μ 6 bf)) μ) : V_ nX4_digestOn 0 [R_ 1, L_ bf, U_, U_, U_, U_, U_] [] μ Q := by
  refine v_loc (fun hl => ?_)
  have hb : inL bf := hl (L_ bf) (by simp)
  refine v_lload_n dX4_digestOn_0 rfl rfl ?_
  refine v_lstore_n (ls' := [_, _, _, _, _, _, _]) dX4_digestOn_1 rfl rfl rfl rfl ?_
  refine v_iconst dX4_digestOn_2 (by decide) ?_
  refine v_istore (ls' := [_, _, _, _, _, _, _]) dX4_digestOn_3 rfl rfl rfl ?_
  exact lp_X4_digestOn_1 hk h 0 (by omega) (by omega) _ rfl hb
end

abbrev ok_4 (μ : Mem_) : Prop := ∀ r : Nat, r < 4 → -1 ≤ μ 5 r ∧ μ 5 r ≤ 120
abbrev sz_4 (μ : Mem_) (r : Int) : Int := szf 5 4 μ r
theorem szb_4 {μ : Mem_} (h : ok_4 μ) (r : Int) : -1 ≤ sz_4 μ r ∧ sz_4 μ r ≤ 120 := by
  unfold sz_4 szf
  split
  · exact h r.toNat (by omega)
  · omega
theorem szk_4 {μ : Mem_} {r : Int} (h : 0 ≤ sz_4 μ r) : 0 ≤ r ∧ r < 4 := by
  unfold sz_4 szf at h
  split at h
  · assumption
  · omega
theorem sze_4 {μ : Mem_} {r : Int} (h : 0 ≤ r ∧ r < 4) : sz_4 μ r = μ 5 r.toNat := if_pos h
section
variable {μ : Mem_} {Q : PV → Mem_ → Prop}
set_option maxRecDepth 10000 in
theorem c_X4_knows_4 {r : Int} (h : Q (I_ (b2i (0 ≤ r ∧ r < 4))) μ) : V_ nX4_knows 0 [R_ 4, I_ r] [] μ Q := by
  refine v_iload_n dX4_knows_0 rfl rfl ?_
  refine v_if_lt (tgt := 17) dX4_knows_1 (by decide) (fun hc_1 => ?_) (fun hc_1 => ?_)
  · refine v_iconst dX4_knows_17 (by decide) ?_
    refine v_zreturn dX4_knows_18 rfl (by first | exact Or.inl rfl | exact Or.inr rfl | exact b2i_01 _ | assumption) ?_
    rwa [b2i_f (by omega)] at h
  · refine v_iload_n dX4_knows_4 rfl rfl ?_
    refine v_aload_n dX4_knows_5 rfl rfl ?_
    refine v_getR dX4_knows_6 fX4_15 rfl rfl rfl ?_
    refine v_alen dX4_knows_9 rfl rfl ?_
    refine v_icmp_ge (tgt := 17) dX4_knows_10 (by decide) (fun hc_10 => ?_) (fun hc_10 => ?_)
    · refine v_iconst dX4_knows_17 (by decide) ?_
      refine v_zreturn dX4_knows_18 rfl (by first | exact Or.inl rfl | exact Or.inr rfl | exact b2i_01 _ | assumption) ?_
      rwa [b2i_f (by omega)] at h
    · refine v_iconst dX4_knows_13 (by decide) ?_
      refine v_goto (tgt := 18) dX4_knows_14 (by decide) ?_
      refine v_zreturn dX4_knows_18 rfl (by first | exact Or.inl rfl | exact Or.inr rfl | exact b2i_01 _ | assumption) ?_
      rwa [b2i_t (by omega)] at h
set_option maxRecDepth 10000 in
theorem c_X4_sizeOf_4 {r : Int} (h : Q (I_ (sz_4 μ r)) μ) : V_ nX4_sizeOf 0 [R_ 4, I_ r] [] μ Q := by
  refine v_aload_n dX4_sizeOf_0 rfl rfl ?_
  refine v_iload_n dX4_sizeOf_1 rfl rfl ?_
  refine v_callVi [_] dX4_sizeOf_2 lX4_26 kvX4_knows (plX4 _ _) (Or.inr rfl) rfl rfl rfl rfl rfl rfl rfl rfl rfl (c_X4_knows_4 ?_)
  refine v_ifb_eq (tgt := 17) dX4_sizeOf_5 (by decide) (fun hc_5 => ?_) (fun hc_5 => ?_)
  · refine v_iconst dX4_sizeOf_17 (by decide) ?_
    refine v_ireturn dX4_sizeOf_18 rfl ?_
    rwa [sz_4, szf, if_neg hc_5] at h
  · refine v_aload_n dX4_sizeOf_8 rfl rfl ?_
    refine v_getR dX4_sizeOf_9 fX4_15 rfl rfl rfl ?_
    refine v_iload_n dX4_sizeOf_12 rfl rfl ?_
    refine v_iald dX4_sizeOf_13 rfl (by omega) (by omega) ?_
    refine v_goto (tgt := 18) dX4_sizeOf_14 (by decide) ?_
    refine v_ireturn dX4_sizeOf_18 rfl ?_
    rwa [sz_4, szf, if_pos hc_5] at h
set_option maxRecDepth 10000 in
theorem c_X4_isThere_4 {r : Int} (h : Q (I_ (b2i (0 ≤ sz_4 μ r))) μ) : V_ nX4_isThere 0 [R_ 4, I_ r] [] μ Q := by
  refine v_aload_n dX4_isThere_0 rfl rfl ?_
  refine v_iload_n dX4_isThere_1 rfl rfl ?_
  refine v_callVi [_] dX4_isThere_2 lX4_22 kvX4_sizeOf (plX4 _ _) (Or.inl rfl) rfl rfl rfl rfl rfl rfl rfl rfl rfl (c_X4_sizeOf_4 ?_)
  refine v_if_lt (tgt := 12) dX4_isThere_5 (by decide) (fun hc_5 => ?_) (fun hc_5 => ?_)
  · refine v_iconst dX4_isThere_12 (by decide) ?_
    refine v_zreturn dX4_isThere_13 rfl (by first | exact Or.inl rfl | exact Or.inr rfl | exact b2i_01 _ | assumption) ?_
    rwa [b2i_f (by omega)] at h
  · refine v_iconst dX4_isThere_8 (by decide) ?_
    refine v_goto (tgt := 13) dX4_isThere_9 (by decide) ?_
    refine v_zreturn dX4_isThere_13 rfl (by first | exact Or.inl rfl | exact Or.inr rfl | exact b2i_01 _ | assumption) ?_
    rwa [b2i_t (by omega)] at h
set_option maxRecDepth 10000 in
theorem c_X4_spans_4 {r i n : Int} (hk : ok_4 μ) (h : Q (I_ (b2i (0 ≤ i ∧ 0 ≤ n ∧ i ≤ sz_4 μ r - n))) μ) : V_ nX4_spans 0 [R_ 4, I_ r, I_ i, I_ n] [] μ Q := by
  have hb := szb_4 hk r
  refine v_iload_n dX4_spans_0 rfl rfl ?_
  refine v_if_lt (tgt := 23) dX4_spans_1 (by decide) (fun hc_1 => ?_) (fun hc_1 => ?_)
  · refine v_iconst dX4_spans_23 (by decide) ?_
    refine v_zreturn dX4_spans_24 rfl (by first | exact Or.inl rfl | exact Or.inr rfl | exact b2i_01 _ | assumption) ?_
    rwa [b2i_f (by omega)] at h
  · refine v_iload_n dX4_spans_4 rfl rfl ?_
    refine v_if_lt (tgt := 23) dX4_spans_5 (by decide) (fun hc_5 => ?_) (fun hc_5 => ?_)
    · refine v_iconst dX4_spans_23 (by decide) ?_
      refine v_zreturn dX4_spans_24 rfl (by first | exact Or.inl rfl | exact Or.inr rfl | exact b2i_01 _ | assumption) ?_
      rwa [b2i_f (by omega)] at h
    · refine v_iload_n dX4_spans_8 rfl rfl ?_
      refine v_aload_n dX4_spans_9 rfl rfl ?_
      refine v_iload_n dX4_spans_10 rfl rfl ?_
      refine v_callVi [_] dX4_spans_11 lX4_22 kvX4_sizeOf (plX4 _ _) (Or.inl rfl) rfl rfl rfl rfl rfl rfl rfl rfl rfl (c_X4_sizeOf_4 ?_)
      refine v_iload_n dX4_spans_14 rfl rfl ?_
      refine v_isub dX4_spans_15 (fun ha hb => by omega) ?_
      refine v_icmp_gt (tgt := 23) dX4_spans_16 (by decide) (fun hc_16 => ?_) (fun hc_16 => ?_)
      · refine v_iconst dX4_spans_23 (by decide) ?_
        refine v_zreturn dX4_spans_24 rfl (by first | exact Or.inl rfl | exact Or.inr rfl | exact b2i_01 _ | assumption) ?_
        rwa [b2i_f (by omega)] at h
      · refine v_iconst dX4_spans_19 (by decide) ?_
        refine v_goto (tgt := 24) dX4_spans_20 (by decide) ?_
        refine v_zreturn dX4_spans_24 rfl (by first | exact Or.inl rfl | exact Or.inr rfl | exact b2i_01 _ | assumption) ?_
        rwa [b2i_t (by omega)] at h
def get_4 (μ : Mem_) (r i : Int) : Int := if 0 ≤ i ∧ i < sz_4 μ r then μ 6 (r * 120 + i).toNat else 1000
set_option maxRecDepth 10000 in
theorem c_X4_get_4 {r i : Int} (hk : ok_4 μ) (h : Q (I_ (get_4 μ r i)) μ) : V_ nX4_get 0 [R_ 4, I_ r, I_ i] [] μ Q := by
  have hb := szb_4 hk r
  refine v_aload_n dX4_get_0 rfl rfl ?_
  refine v_iload_n dX4_get_1 rfl rfl ?_
  refine v_iload_n dX4_get_2 rfl rfl ?_
  refine v_iconst dX4_get_3 (by decide) ?_
  refine v_callVi [_, _, _] dX4_get_4 lX4_30 kvX4_spans (plX4 _ _) (Or.inr rfl) rfl rfl rfl rfl rfl rfl rfl rfl rfl (c_X4_spans_4 hk ?_)
  refine v_ifb_eq (tgt := 26) dX4_get_7 (by decide) (fun hc_7 => ?_) (fun hc_7 => ?_)
  · refine v_sipush dX4_get_26 (by decide) ?_
    refine v_ireturn dX4_get_29 rfl ?_
    rwa [get_4, if_neg (by omega)] at h
  · have hr := szk_4 (μ := μ) (r := r) (by omega)
    refine v_aload_n dX4_get_10 rfl rfl ?_
    refine v_getR dX4_get_11 fX4_19 rfl rfl rfl ?_
    refine v_iload_n dX4_get_14 rfl rfl ?_
    refine v_aload_n dX4_get_15 rfl rfl ?_
    refine v_getC dX4_get_16 fX4_9 rfl rfl rfl ?_
    rw [show ((120 : Nat) : Int) = 120 from rfl]
    refine v_imul dX4_get_19 (fun ha hb => by omega) ?_
    refine v_iload_n dX4_get_20 rfl rfl ?_
    refine v_iadd dX4_get_21 (fun ha hb => by omega) ?_
    refine v_iald dX4_get_22 rfl (by omega) (by omega) ?_
    refine v_goto (tgt := 29) dX4_get_23 (by decide) ?_
    refine v_ireturn dX4_get_29 rfl ?_
    rwa [get_4, if_pos (by omega)] at h
def set_4 (μ : Mem_) (r i v : Int) : Mem_ := if 0 ≤ i ∧ i < sz_4 μ r then mset μ 6 (r * 120 + i).toNat v else μ
set_option maxRecDepth 10000 in
theorem c_X4_set_4 {r i v : Int} (hk : ok_4 μ) (h : Q U_ (set_4 μ r i v)) : V_ nX4_set 0 [R_ 4, I_ r, I_ i, I_ v] [] μ Q := by
  have hb := szb_4 hk r
  refine v_aload_n dX4_set_0 rfl rfl ?_
  refine v_iload_n dX4_set_1 rfl rfl ?_
  refine v_iload_n dX4_set_2 rfl rfl ?_
  refine v_iconst dX4_set_3 (by decide) ?_
  refine v_callVi [_, _, _] dX4_set_4 lX4_30 kvX4_spans (plX4 _ _) (Or.inr rfl) rfl rfl rfl rfl rfl rfl rfl rfl rfl (c_X4_spans_4 hk ?_)
  refine v_ifb_eq (tgt := 24) dX4_set_7 (by decide) (fun hc_7 => ?_) (fun hc_7 => ?_)
  · refine v_return dX4_set_24 rfl ?_
    rwa [set_4, if_neg (by omega)] at h
  · have hr := szk_4 (μ := μ) (r := r) (by omega)
    refine v_aload_n dX4_set_10 rfl rfl ?_
    refine v_getR dX4_set_11 fX4_19 rfl rfl rfl ?_
    refine v_iload_n dX4_set_14 rfl rfl ?_
    refine v_aload_n dX4_set_15 rfl rfl ?_
    refine v_getC dX4_set_16 fX4_9 rfl rfl rfl ?_
    rw [show ((120 : Nat) : Int) = 120 from rfl]
    refine v_imul dX4_set_19 (fun ha hb => by omega) ?_
    refine v_iload_n dX4_set_20 rfl rfl ?_
    refine v_iadd dX4_set_21 (fun ha hb => by omega) ?_
    refine v_iload_n dX4_set_22 rfl rfl ?_
    refine v_iast dX4_set_23 rfl (by omega) (by omega) ?_
    refine v_return dX4_set_24 rfl ?_
    rwa [set_4, if_pos (by omega)] at h
set_option maxRecDepth 10000 in
theorem lp_X4_renew_4 {r n v : Int} (hr : 0 ≤ r ∧ r < 4) (hn : 0 ≤ n ∧ n ≤ 120) (h : Q U_ (mfill μ 6 (r * 120).toNat n.toNat v)) : ∀ k : Int, 0 ≤ k → k ≤ n → V_ nX4_renew 30 [R_ 4, I_ r, I_ n, I_ v, I_ k] [] (mfill μ 6 (r * 120).toNat k.toNat v) Q := by
  refine loop_up n (fun k h0 h1 ih => ?_)
  refine v_iload dX4_renew_30 rfl ?_
  refine v_iload_n dX4_renew_32 rfl rfl ?_
  refine v_icmp_ge (tgt := 57) dX4_renew_33 (by decide) (fun hc_33 => ?_) (fun hc_33 => ?_)
  · refine v_return dX4_renew_57 rfl ?_
    rwa [show k = n by omega]
  · refine v_aload_n dX4_renew_36 rfl rfl ?_
    refine v_getR dX4_renew_37 fX4_19 rfl rfl rfl ?_
    refine v_iload_n dX4_renew_40 rfl rfl ?_
    refine v_aload_n dX4_renew_41 rfl rfl ?_
    refine v_getC dX4_renew_42 fX4_9 rfl rfl rfl ?_
    rw [show ((120 : Nat) : Int) = 120 from rfl]
    refine v_imul dX4_renew_45 (fun ha hb => by omega) ?_
    refine v_iload dX4_renew_46 rfl ?_
    refine v_iadd dX4_renew_48 (fun ha hb => by omega) ?_
    refine v_iload_n dX4_renew_49 rfl rfl ?_
    refine v_iast dX4_renew_50 rfl (by omega) (by omega) ?_
    refine v_iinc (ls' := [_, _, _, _, _]) dX4_renew_51 rfl (fun hi_51 => by omega) rfl rfl ?_
    refine v_goto (tgt := 30) dX4_renew_54 (by decide) ?_
    have := ih (by omega)
    rwa [show (r * 120 + k).toNat = (r * 120).toNat + k.toNat by omega, mfill_s, show k.toNat + 1 = (k + 1).toNat by omega]
set_option maxRecDepth 10000 in
theorem c_X4_renew_4 {r n v : Int} (hr : 0 ≤ r ∧ r < 4) (hn : 0 ≤ n ∧ n ≤ 120) (h : Q U_ (mfill (mset μ 5 r.toNat n) 6 (r * 120).toNat n.toNat v)) : V_ nX4_renew 0 [R_ 4, I_ r, I_ n, I_ v, U_] [] μ Q := by
  refine v_aload_n dX4_renew_0 rfl rfl ?_
  refine v_iload_n dX4_renew_1 rfl rfl ?_
  refine v_callVi [_] dX4_renew_2 lX4_26 kvX4_knows (plX4 _ _) (Or.inr rfl) rfl rfl rfl rfl rfl rfl rfl rfl rfl (c_X4_knows_4 ?_)
  refine v_ifb_eq (tgt := 57) dX4_renew_5 (by decide) (fun hc_5 => ?_) (fun hc_5 => ?_)
  · refine v_return dX4_renew_57 rfl ?_
    omega
  · refine v_iload_n dX4_renew_8 rfl rfl ?_
    refine v_if_lt (tgt := 57) dX4_renew_9 (by decide) (fun hc_9 => ?_) (fun hc_9 => ?_)
    · refine v_return dX4_renew_57 rfl ?_
      omega
    · refine v_iload_n dX4_renew_12 rfl rfl ?_
      refine v_aload_n dX4_renew_13 rfl rfl ?_
      refine v_getC dX4_renew_14 fX4_9 rfl rfl rfl ?_
      refine v_icmp_gt (tgt := 57) dX4_renew_17 (by decide) (fun hc_17 => ?_) (fun hc_17 => ?_)
      · refine v_return dX4_renew_57 rfl ?_
        omega
      · refine v_aload_n dX4_renew_20 rfl rfl ?_
        refine v_getR dX4_renew_21 fX4_15 rfl rfl rfl ?_
        refine v_iload_n dX4_renew_24 rfl rfl ?_
        refine v_iload_n dX4_renew_25 rfl rfl ?_
        refine v_iast dX4_renew_26 rfl (by omega) (by omega) ?_
        refine v_iconst dX4_renew_27 (by decide) ?_
        refine v_istore (ls' := [_, _, _, _, _]) dX4_renew_28 rfl rfl rfl ?_
        have := lp_X4_renew_4 (μ := mset μ 5 r.toNat n) hr hn h 0 (by omega) (by omega)
        rwa [show (0 : Int).toNat = 0 from rfl, mfill_0] at this
set_option maxRecDepth 10000 in
theorem c_X4_drop_4 {r : Int} (hr : 0 ≤ r ∧ r < 4) (h : Q U_ (mset μ 5 r.toNat (-1))) : V_ nX4_drop 0 [R_ 4, I_ r] [] μ Q := by
  refine v_aload_n dX4_drop_0 rfl rfl ?_
  refine v_iload_n dX4_drop_1 rfl rfl ?_
  refine v_callVi [_] dX4_drop_2 lX4_26 kvX4_knows (plX4 _ _) (Or.inr rfl) rfl rfl rfl rfl rfl rfl rfl rfl rfl (c_X4_knows_4 ?_)
  refine v_ifb_eq (tgt := 15) dX4_drop_5 (by decide) (fun hc_5 => ?_) (fun hc_5 => ?_)
  · refine v_return dX4_drop_15 rfl ?_
    omega
  · refine v_aload_n dX4_drop_8 rfl rfl ?_
    refine v_getR dX4_drop_9 fX4_15 rfl rfl rfl ?_
    refine v_iload_n dX4_drop_12 rfl rfl ?_
    refine v_iconst dX4_drop_13 (by decide) ?_
    refine v_iast dX4_drop_14 rfl (by omega) (by omega) ?_
    refine v_return dX4_drop_15 rfl ?_
    exact h
set_option maxRecDepth 10000 in
theorem lp_X4_present_4 (h : Q (I_ (smR 4 (fun r => b2i (0 ≤ μ 5 r)))) μ) : ∀ k : Int, 0 ≤ k → k ≤ 4 → ∀ a : Int, a = smR k.toNat (fun r => b2i (0 ≤ μ 5 r)) → 0 ≤ a ∧ a ≤ k → V_ nX4_present 4 [R_ 4, I_ a, I_ k] [] μ Q := by
  refine loop_up 4 (fun k h0 h1 ih => ?_)
  intro a ha hb
  have hsz : k < 4 → sz_4 μ k = μ 5 k.toNat := fun q => sze_4 (by omega)
  have hst : k < 4 → smR (k + 1).toNat (fun r => b2i (0 ≤ μ 5 r)) = a + b2i (0 ≤ μ 5 k.toNat) := fun q => by rw [show (k + 1).toNat = k.toNat + 1 by omega, smR, ha]
  refine v_iload_n dX4_present_4 rfl rfl ?_
  refine v_aload_n dX4_present_5 rfl rfl ?_
  refine v_getR dX4_present_6 fX4_15 rfl rfl rfl ?_
  refine v_alen dX4_present_9 rfl rfl ?_
  refine v_icmp_ge (tgt := 35) dX4_present_10 (by decide) (fun hc_10 => ?_) (fun hc_10 => ?_)
  · refine v_iload_n dX4_present_35 rfl rfl ?_
    refine v_ireturn dX4_present_36 rfl ?_
    rw [show k.toNat = 4 by omega] at ha; rwa [ha]
  · refine v_iload_n dX4_present_13 rfl rfl ?_
    refine v_aload_n dX4_present_14 rfl rfl ?_
    refine v_iload_n dX4_present_15 rfl rfl ?_
    refine v_callVi [_] dX4_present_16 lX4_44 kvX4_isThere (plX4 _ _) (Or.inr rfl) rfl rfl rfl rfl rfl rfl rfl rfl rfl (c_X4_isThere_4 ?_)
    refine v_ifb_eq (tgt := 26) dX4_present_19 (by decide) (fun hc_19 => ?_) (fun hc_19 => ?_)
    · refine v_iconst dX4_present_26 (by decide) ?_
      refine v_iadd dX4_present_27 (fun ha hb => by omega) ?_
      refine v_istore_n (ls' := [_, _, _]) dX4_present_28 rfl rfl rfl rfl ?_
      refine v_iinc (ls' := [_, _, _]) dX4_present_29 rfl (fun hi_29 => by omega) rfl rfl ?_
      refine v_goto (tgt := 4) dX4_present_32 (by decide) ?_
      refine ih (by omega) _ ?_ (by omega)
      rw [hst (by omega), b2i_f (by rw [hsz (by omega)] at hc_19; omega)]
    · refine v_iconst dX4_present_22 (by decide) ?_
      refine v_goto (tgt := 27) dX4_present_23 (by decide) ?_
      refine v_iadd dX4_present_27 (fun ha hb => by omega) ?_
      refine v_istore_n (ls' := [_, _, _]) dX4_present_28 rfl rfl rfl rfl ?_
      refine v_iinc (ls' := [_, _, _]) dX4_present_29 rfl (fun hi_29 => by omega) rfl rfl ?_
      refine v_goto (tgt := 4) dX4_present_32 (by decide) ?_
      refine ih (by omega) _ ?_ (by omega)
      rw [hst (by omega), b2i_t (by rw [hsz (by omega)] at hc_19; omega)]
set_option maxRecDepth 10000 in
theorem c_X4_present_4 (h : Q (I_ (smR 4 (fun r => b2i (0 ≤ μ 5 r)))) μ) : V_ nX4_present 0 [R_ 4, U_, U_] [] μ Q := by
  refine v_iconst dX4_present_0 (by decide) ?_
  refine v_istore_n (ls' := [_, _, _]) dX4_present_1 rfl rfl rfl rfl ?_
  refine v_iconst dX4_present_2 (by decide) ?_
  refine v_istore_n (ls' := [_, _, _]) dX4_present_3 rfl rfl rfl rfl ?_
  exact lp_X4_present_4 h 0 (by omega) (by omega) 0 rfl (by omega)
set_option maxRecDepth 10000 in
theorem lp_X4_sumOf_4 {r : Int} (hk : ok_4 μ) (hr : 0 ≤ r ∧ r < 4) (h0s : 0 ≤ sz_4 μ r) (hin : ∀ j, inR (μ 6 j)) (h : Q (L_ (smR (sz_4 μ r).toNat (fun i => μ 6 (r.toNat * 120 + i)))) μ) : ∀ k : Int, 0 ≤ k → k ≤ sz_4 μ r → ∀ a : Int, a = smR k.toNat (fun i => μ 6 (r.toNat * 120 + i)) → -2147483648 * k ≤ a ∧ a ≤ 2147483648 * k → V_ nX4_sumOf 12 [R_ 4, I_ r, L_ a, U_, I_ (sz_4 μ r), I_ k] [] μ Q := by
  have hb := szb_4 hk r
  refine loop_up (sz_4 μ r) (fun k h0 h1 ih => ?_)
  intro a ha hab
  have e1 : k < sz_4 μ r → get_4 μ r k = μ 6 (r.toNat * 120 + k.toNat) := fun q => by rw [get_4, if_pos (by omega), show (r * 120 + k).toNat = r.toNat * 120 + k.toNat by omega]
  have hj := hin (r.toNat * 120 + k.toNat)
  refine v_iload dX4_sumOf_12 rfl ?_
  refine v_iload dX4_sumOf_14 rfl ?_
  refine v_icmp_ge (tgt := 36) dX4_sumOf_16 (by decide) (fun hc_16 => ?_) (fun hc_16 => ?_)
  · refine v_lload_n dX4_sumOf_36 rfl rfl ?_
    refine v_lreturn dX4_sumOf_37 rfl ?_
    rw [show k = sz_4 μ r by omega] at ha; rwa [ha]
  · refine v_lload_n dX4_sumOf_19 rfl rfl ?_
    refine v_aload_n dX4_sumOf_20 rfl rfl ?_
    refine v_iload_n dX4_sumOf_21 rfl rfl ?_
    refine v_iload dX4_sumOf_22 rfl ?_
    refine v_callVi [_, _] dX4_sumOf_24 lX4_40 kvX4_get (plX4 _ _) (Or.inl rfl) rfl rfl rfl rfl rfl rfl rfl rfl rfl (c_X4_get_4 hk ?_)
    refine v_i2l dX4_sumOf_27 ?_
    refine v_ladd dX4_sumOf_28 ?_
    refine v_lstore_n (ls' := [_, _, _, _, _, _]) dX4_sumOf_29 rfl rfl rfl rfl ?_
    refine v_iinc (ls' := [_, _, _, _, _, _]) dX4_sumOf_30 rfl (fun hi_30 => by omega) rfl rfl ?_
    refine v_goto (tgt := 12) dX4_sumOf_33 (by decide) ?_
    rw [e1 (by omega), w64_id (by omega)]
    refine ih (by omega) _ ?_ (by omega)
    rw [show (k + 1).toNat = k.toNat + 1 by omega, smR, ha]
set_option maxRecDepth 10000 in
theorem c_X4_sumOf_4 {r : Int} (hk : ok_4 μ) (hr : 0 ≤ r ∧ r < 4) (h0s : 0 ≤ sz_4 μ r) (h : Q (L_ (smR (sz_4 μ r).toNat (fun i => μ 6 (r.toNat * 120 + i)))) μ) : V_ nX4_sumOf 0 [R_ 4, I_ r, U_, U_, U_, U_] [] μ Q := by
  refine v_mem (fun hμ => ?_)
  have hin : ∀ j, inR (μ 6 j) := fun j => (hμ 6 j).2 (by rw [fk_arr (o := 6) rfl (by decide) (by decide)]; decide)
  refine v_lconst (x := 0) dX4_sumOf_0 (by decide) ?_
  refine v_lstore_n (ls' := [_, _, _, _, _, _]) dX4_sumOf_1 rfl rfl rfl rfl ?_
  refine v_aload_n dX4_sumOf_2 rfl rfl ?_
  refine v_iload_n dX4_sumOf_3 rfl rfl ?_
  refine v_callVi [_] dX4_sumOf_4 lX4_22 kvX4_sizeOf (plX4 _ _) (Or.inl rfl) rfl rfl rfl rfl rfl rfl rfl rfl rfl (c_X4_sizeOf_4 ?_)
  refine v_istore (ls' := [_, _, _, _, _, _]) dX4_sumOf_7 rfl rfl rfl ?_
  refine v_iconst dX4_sumOf_9 (by decide) ?_
  refine v_istore (ls' := [_, _, _, _, _, _]) dX4_sumOf_10 rfl rfl rfl ?_
  exact lp_X4_sumOf_4 hk hr h0s hin h 0 (by omega) (by omega) 0 rfl (by omega)
def dgI_4 (μ : Mem_) (r : Nat) (h : Int) : Int := dgR (μ 5 r).toNat (fun i => μ 6 (r * 120 + i)) (w64 (w64 (31 * h) + μ 5 r))
def dgS_4 (μ : Mem_) : Nat → Int → Int
  | 0, h => h
  | r + 1, h => dgI_4 μ r (dgS_4 μ r h)
set_option maxRecDepth 10000 in
theorem lpi_X4_digestOn_4 {bf : Int} {r : Int} (hk : ok_4 μ) (hr : 0 ≤ r ∧ r < 4) {a0 : Int} {b : PV} (h0 : inL a0) (h : inL (dgR (μ 5 r.toNat).toNat (fun i => μ 6 (r.toNat * 120 + i)) a0) → V_ nX4_digestOn 67 [R_ 4, L_ bf, U_, L_ (dgR (μ 5 r.toNat).toNat (fun i => μ 6 (r.toNat * 120 + i)) a0), U_, I_ r, U_] [] μ Q) : ∀ k : Int, 0 ≤ k → k ≤ (μ 5 r.toNat).toNat → ∀ a : Int, a = dgR k.toNat (fun i => μ 6 (r.toNat * 120 + i)) a0 → inL a → V_ nX4_digestOn 33 [R_ 4, L_ bf, U_, L_ a, U_, I_ r, I_ k] [] μ Q := by
  have hb := hk r.toNat (by omega)
  have hsz : sz_4 μ r = μ 5 r.toNat := sze_4 hr
  refine loop_up _ (fun k h0 h1 ih => ?_)
  intro a ha hal
  refine v_iload dX4_digestOn_33 rfl ?_
  refine v_aload_n dX4_digestOn_35 rfl rfl ?_
  refine v_getR dX4_digestOn_36 fX4_15 rfl rfl rfl ?_
  refine v_iload dX4_digestOn_39 rfl ?_
  refine v_iald dX4_digestOn_41 rfl (by omega) (by omega) ?_
  refine v_icmp_ge (tgt := 67) dX4_digestOn_42 (by decide) (fun hc_42 => ?_) (fun hc_42 => ?_)
  · refine v_kill (ls' := [_, _, _, _, _, _, _]) 6 rfl ?_
    rw [show k.toNat = (μ 5 r.toNat).toNat by omega] at ha
    rw [ha] at hal ⊢
    exact h hal
  · refine v_ldc2 (x := 31) dX4_digestOn_45 lcX4_47 (by decide) (by decide) ?_
    refine v_lload_n dX4_digestOn_48 rfl rfl ?_
    refine v_lmul dX4_digestOn_49 ?_
    refine v_aload_n dX4_digestOn_50 rfl rfl ?_
    refine v_iload dX4_digestOn_51 rfl ?_
    refine v_iload dX4_digestOn_53 rfl ?_
    refine v_callVi [_, _] dX4_digestOn_55 lX4_40 kvX4_get (plX4 _ _) (Or.inl rfl) rfl rfl rfl rfl rfl rfl rfl rfl rfl (c_X4_get_4 hk ?_)
    refine v_i2l dX4_digestOn_58 ?_
    refine v_ladd dX4_digestOn_59 ?_
    refine v_lstore_n (ls' := [_, _, _, _, _, _, _]) dX4_digestOn_60 rfl rfl rfl rfl ?_
    refine v_iinc (ls' := [_, _, _, _, _, _, _]) dX4_digestOn_61 rfl (fun hi_61 => by omega) rfl rfl ?_
    refine v_goto (tgt := 33) dX4_digestOn_64 (by decide) ?_
    rw [get_4, if_pos (by omega), show (r * 120 + k).toNat = r.toNat * 120 + k.toNat by omega]
    refine ih (by omega) _ ?_ (i64_in _)
    rw [show (k + 1).toNat = k.toNat + 1 by omega, dgR, ha]
set_option maxRecDepth 10000 in
theorem lp_X4_digestOn_4 {bf : Int} (hk : ok_4 μ) (h : Q (L_ (dgS_4 μ 4 bf)) μ) : ∀ r : Int, 0 ≤ r → r ≤ 4 → ∀ a : Int, a = dgS_4 μ r.toNat bf → inL a → V_ nX4_digestOn 5 [R_ 4, L_ bf, U_, L_ a, U_, I_ r, U_] [] μ Q := by
  refine loop_up _ (fun r h0 h1 ih => ?_)
  intro a ha hal
  refine v_iload dX4_digestOn_5 rfl ?_
  refine v_aload_n dX4_digestOn_7 rfl rfl ?_
  refine v_getR dX4_digestOn_8 fX4_15 rfl rfl rfl ?_
  refine v_alen dX4_digestOn_11 rfl rfl ?_
  refine v_icmp_ge (tgt := 73) dX4_digestOn_12 (by decide) (fun hc_12 => ?_) (fun hc_12 => ?_)
  · refine v_lload_n dX4_digestOn_73 rfl rfl ?_
    refine v_lreturn dX4_digestOn_74 rfl ?_
    rw [show r.toNat = 4 by omega] at ha; rwa [ha]
  · refine v_ldc2 (x := 31) dX4_digestOn_15 lcX4_47 (by decide) (by decide) ?_
    refine v_lload_n dX4_digestOn_18 rfl rfl ?_
    refine v_lmul dX4_digestOn_19 ?_
    refine v_aload_n dX4_digestOn_20 rfl rfl ?_
    refine v_getR dX4_digestOn_21 fX4_15 rfl rfl rfl ?_
    refine v_iload dX4_digestOn_24 rfl ?_
    refine v_iald dX4_digestOn_26 rfl (by omega) (by omega) ?_
    refine v_i2l dX4_digestOn_27 ?_
    refine v_ladd dX4_digestOn_28 ?_
    refine v_lstore_n (ls' := [_, _, _, _, _, _, _]) dX4_digestOn_29 rfl rfl rfl rfl ?_
    refine v_iconst dX4_digestOn_30 (by decide) ?_
    refine v_istore (ls' := [_, _, _, _, _, _, _]) dX4_digestOn_31 rfl rfl rfl ?_
    refine lpi_X4_digestOn_4 (a0 := w64 (w64 (31 * a) + μ 5 r.toNat)) hk (by omega) (b := U_) (i64_in _) (fun hl => ?_) 0 (by omega) (by omega) _ rfl (i64_in _)
    refine v_iinc (ls' := [_, _, _, _, _, _, _]) dX4_digestOn_67 rfl (fun hi_67 => by omega) rfl rfl ?_
    refine v_goto (tgt := 5) dX4_digestOn_70 (by decide) ?_
    exact ih (by omega) _ (by rw [show (r + 1).toNat = r.toNat + 1 by omega, dgS_4, dgI_4, ha]) hl
set_option maxRecDepth 10000 in
theorem c_X4_digestOn_4 {bf : Int} (hk : ok_4 μ) (h : Q (L_ (dgS_4 μ 4 bf)) μ) : V_ nX4_digestOn 0 [R_ 4, L_ bf, U_, U_, U_, U_, U_] [] μ Q := by
  refine v_loc (fun hl => ?_)
  have hb : inL bf := hl (L_ bf) (by simp)
  refine v_lload_n dX4_digestOn_0 rfl rfl ?_
  refine v_lstore_n (ls' := [_, _, _, _, _, _, _]) dX4_digestOn_1 rfl rfl rfl rfl ?_
  refine v_iconst dX4_digestOn_2 (by decide) ?_
  refine v_istore (ls' := [_, _, _, _, _, _, _]) dX4_digestOn_3 rfl rfl rfl ?_
  exact lp_X4_digestOn_4 hk h 0 (by omega) (by omega) _ rfl hb
end

section
variable {μ : Mem_} {Q : PV → Mem_ → Prop}
set_option maxRecDepth 10000 in
theorem c_X4_move_1 {r i to j n : Int} (hk : ok_1 μ) (hr : 0 ≤ r ∧ r < 6) (ht : 0 ≤ to ∧ to < 6) (h1 : 0 ≤ i ∧ 0 ≤ n ∧ i ≤ sz_1 μ r - n) (h2 : 0 ≤ j ∧ 0 ≤ n ∧ j ≤ sz_1 μ to - n) (h : Q U_ (mcopy μ 3 (r * 40 + i).toNat (to * 40 + j).toNat n.toNat)) : V_ nX4_move 0 [R_ 1, I_ r, I_ i, I_ to, I_ j, I_ n] [] μ Q := by
  have hb := szb_1 hk r
  have hb2 := szb_1 hk to
  refine v_aload_n dX4_move_0 rfl rfl ?_
  refine v_iload_n dX4_move_1 rfl rfl ?_
  refine v_iload_n dX4_move_2 rfl rfl ?_
  refine v_iload dX4_move_3 rfl ?_
  refine v_callVi [_, _, _] dX4_move_5 lX4_30 kvX4_spans (plX4 _ _) (Or.inr rfl) rfl rfl rfl rfl rfl rfl rfl rfl rfl (c_X4_spans_1 hk ?_)
  refine v_ifb_eq (tgt := 53) dX4_move_8 (by decide) (fun hc_8 => ?_) (fun hc_8 => ?_)
  · refine v_return dX4_move_53 rfl ?_
    omega
  · refine v_aload_n dX4_move_11 rfl rfl ?_
    refine v_iload_n dX4_move_12 rfl rfl ?_
    refine v_iload dX4_move_13 rfl ?_
    refine v_iload dX4_move_15 rfl ?_
    refine v_callVi [_, _, _] dX4_move_17 lX4_30 kvX4_spans (plX4 _ _) (Or.inr rfl) rfl rfl rfl rfl rfl rfl rfl rfl rfl (c_X4_spans_1 hk ?_)
    refine v_ifb_eq (tgt := 53) dX4_move_20 (by decide) (fun hc_20 => ?_) (fun hc_20 => ?_)
    · refine v_return dX4_move_53 rfl ?_
      omega
    · refine v_aload_n dX4_move_23 rfl rfl ?_
      refine v_getR dX4_move_24 fX4_19 rfl rfl rfl ?_
      refine v_iload_n dX4_move_27 rfl rfl ?_
      refine v_aload_n dX4_move_28 rfl rfl ?_
      refine v_getC dX4_move_29 fX4_9 rfl rfl rfl ?_
      rw [show ((40 : Nat) : Int) = 40 from rfl]
      refine v_imul dX4_move_32 (fun ha hb => by omega) ?_
      refine v_iload_n dX4_move_33 rfl rfl ?_
      refine v_iadd dX4_move_34 (fun ha hb => by omega) ?_
      refine v_aload_n dX4_move_35 rfl rfl ?_
      refine v_getR dX4_move_36 fX4_19 rfl rfl rfl ?_
      refine v_iload_n dX4_move_39 rfl rfl ?_
      refine v_aload_n dX4_move_40 rfl rfl ?_
      refine v_getC dX4_move_41 fX4_9 rfl rfl rfl ?_
      rw [show ((40 : Nat) : Int) = 40 from rfl]
      refine v_imul dX4_move_44 (fun ha hb => by omega) ?_
      refine v_iload dX4_move_45 rfl ?_
      refine v_iadd dX4_move_47 (fun ha hb => by omega) ?_
      refine v_iload dX4_move_48 rfl ?_
      refine v_copy dX4_move_50 (gt_mem (i := 434) (by decide +kernel) rfl) (gt_mem (i := 436) (by decide +kernel) rfl) (gt_mem (i := 435) (by decide +kernel) rfl) (gt_mem (i := 101) (by decide +kernel) rfl) rfl (by omega) (by omega) (by omega) (by omega) (by omega) rfl rfl ?_
      refine v_return dX4_move_53 rfl ?_
      exact h
end
