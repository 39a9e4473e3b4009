/-! sets and their members; whom one may wake, whom that lets in -/
theorem and_d2 (a b : Nat) : (a &&& b) / 2 = a / 2 &&& b / 2 := by
  apply Nat.eq_of_testBit_eq
  intro i
  rw [Nat.testBit_and, Nat.testBit_div_two, Nat.testBit_div_two, Nat.testBit_div_two, Nat.testBit_and]
theorem and_m2 (a b : Nat) : (a &&& b) % 2 = (a % 2) * (b % 2) := by
  have h := Nat.testBit_and a b 0
  rw [Nat.testBit_zero, Nat.testBit_zero, Nat.testBit_zero] at h
  rcases Nat.mod_two_eq_zero_or_one a with ha | ha <;> rcases Nat.mod_two_eq_zero_or_one b with hb | hb <;> rcases Nat.mod_two_eq_zero_or_one (a &&& b) with hc | hc <;> simp_all
theorem cnt_s2 {n s : Nat} : cntB (n + 1) s = s % 2 + cntB n (s / 2) := by
  induction n with
  | zero =>
    simp only [cntB]
    rw [Nat.testBit_zero]
    rcases Nat.mod_two_eq_zero_or_one s with h | h <;> simp [h]
  | succ n ih =>
    rw [cntB, ih, cntB, Nat.testBit_div_two]
    omega
theorem cnt_cl : ∀ (n s : Nat), 0 < s → s < 2 ^ n → cntB n (s &&& (s - 1)) + 1 = cntB n s := by
  intro n
  induction n with
  | zero => intro s h1 h2; simp at h2; omega
  | succ n ih =>
    intro s h1 h2
    rw [cnt_s2, cnt_s2, and_d2, and_m2]
    rcases Nat.mod_two_eq_zero_or_one s with h | h
    · have h3 : (s - 1) / 2 = s / 2 - 1 := by omega
      have := ih (s / 2) (by omega) (by rw [Nat.pow_succ] at h2; omega)
      rw [h3, h, Nat.zero_mul]
      omega
    · have h3 : (s - 1) / 2 = s / 2 := by omega
      have h4 : (s - 1) % 2 = 0 := by omega
      rw [h3, h4, h, Nat.and_self]
      omega
theorem cnt_z : ∀ n : Nat, cntB n 0 = 0 := by
  intro n
  induction n with
  | zero => rfl
  | succ n ih => simp [cntB, ih]
theorem sb_d2 {a b : Nat} (h : sb a b) : sb (a / 2) (b / 2) := fun i hi => by
  rw [Nat.testBit_div_two] at hi ⊢
  exact h _ hi
theorem sb_m2 {a b : Nat} (h : sb a b) : a % 2 ≤ b % 2 := by
  have := h 0
  rw [Nat.testBit_zero, Nat.testBit_zero] at this
  rcases Nat.mod_two_eq_zero_or_one a with ha | ha
  · omega
  · have : b % 2 = 1 := by simpa using this (by simpa using ha)
    omega
theorem nxt_sub : ∀ (s can t : Nat), sb s can → sb t can → t < s → t ≤ (s - 1) &&& can := by
  intro s
  induction s using Nat.strongRecOn with
  | ind s ih =>
    intro can t h1 h2 h3
    have e := Nat.div_add_mod ((s - 1) &&& can) 2
    rw [and_d2, and_m2] at e
    rcases Nat.mod_two_eq_zero_or_one s with h | h
    · have q1 : (s - 1) / 2 = s / 2 - 1 := by omega
      have q2 : (s - 1) % 2 = 1 := by omega
      have := ih (s / 2) (by omega) (can / 2) (t / 2) (sb_d2 h1) (sb_d2 h2) (by omega)
      have := sb_m2 h2
      rw [q1, q2, Nat.one_mul] at e
      omega
    · have q1 : (s - 1) / 2 = s / 2 := by omega
      have q2 : (s - 1) % 2 = 0 := by omega
      have q3 : s / 2 &&& can / 2 = s / 2 := sb_eq (fun i hi => (and_bit.1 hi).1) (fun i hi => and_bit.2 ⟨hi, sb_d2 h1 i hi⟩)
      rw [q1, q2, Nat.zero_mul, q3] at e
      omega
theorem cnt_0 {n s : Nat} (h : s < 2 ^ n) (hz : cntB n s = 0) : s = 0 := by
  apply Nat.eq_of_testBit_eq
  intro i
  rw [Nat.zero_testBit]
  cases hb : s.testBit i with
  | false => rfl
  | true => have := cntB_pos (n := n) (bit_lt h hb) hb; omega
theorem cnt_1 {n s : Nat} (h : s < 2 ^ n) (hz : cntB n s = 1) : ∃ i, i < n ∧ s = 2 ^ i := by
  induction n generalizing s with
  | zero => simp [cntB] at hz
  | succ n ih =>
    rw [cnt_s2] at hz
    rcases Nat.mod_two_eq_zero_or_one s with q | q
    · obtain ⟨i, hi, e⟩ := ih (s := s / 2) (by rw [Nat.pow_succ] at h; omega) (by omega)
      exact ⟨i + 1, by omega, by rw [Nat.pow_succ]; omega⟩
    · have := cnt_0 (n := n) (s := s / 2) (by rw [Nat.pow_succ] at h; omega) (by omega)
      exact ⟨0, by omega, by simp; omega⟩
theorem cnt_p {n i : Nat} (h : i < n) : cntB n (2 ^ i) = 1 := by
  induction n generalizing i with
  | zero => omega
  | succ n ih =>
    rw [cnt_s2]
    cases i with
    | zero => simp [cnt_z]
    | succ i => rw [show 2 ^ (i + 1) % 2 = 0 by rw [Nat.pow_succ]; omega, show 2 ^ (i + 1) / 2 = 2 ^ i by rw [Nat.pow_succ]; omega, ih (by omega)]
section
variable {μ w : Mem_} {Q : PV → Mem_ → Prop}
set_option maxRecDepth 10000 in
theorem c_X8_bits {s : Nat} (hs : s < 2 ^ 24) (h : Q (I_ ((cntB 32 s : Nat) : Int)) μ) : V_ nX8_bits 0 [I_ (s : Int), U_, U_] [] μ Q := by
  have lp : ∀ t : Nat, t ≤ s → ∀ n : Int, n + (cntB 32 t : Int) = (cntB 32 s : Int) → 0 ≤ n → V_ nX8_bits 4 [I_ (s : Int), I_ n, I_ (t : Int)] [] μ Q := by
    refine loop_dn (fun t => t) (fun t ih => ?_)
    intro ht n hn h0
    have hb := cntB_le 32 s
    have hc := fun q : 0 < t => cnt_cl 32 t q (by omega)
    have hl : t &&& (t - 1) ≤ t - 1 := Nat.and_le_right
    have ea : t ≠ 0 → bAnd (t : Int) ((t : Int) - 1) = ((t &&& (t - 1) : Nat) : Int) := fun q => by
      have := bAnd_nat (a := t) (b := t - 1) (by omega) (by omega)
      rwa [show ((t - 1 : Nat) : Int) = (t : Int) - 1 by omega] at this
    refine v_iload_n dX8_bits_4 rfl rfl ?_
    refine v_if_eq (tgt := 20) dX8_bits_5 (by decide) (fun hc_5 => ?_) (fun hc_5 => ?_)
    · refine v_iload_n dX8_bits_20 rfl rfl ?_
      refine v_ireturn dX8_bits_21 rfl ?_
      have e : t = 0 := by omega
      rw [e, cnt_z] at hn
      rw [show n = ((cntB 32 s : Nat) : Int) by omega]
      exact h
    · refine v_iinc (ls' := [_, _, _]) dX8_bits_8 rfl (fun hi_8 => by omega) rfl rfl ?_
      refine v_iload_n dX8_bits_11 rfl rfl ?_
      refine v_iload_n dX8_bits_12 rfl rfl ?_
      refine v_iconst dX8_bits_13 (by decide) ?_
      refine v_isub dX8_bits_14 (fun ha hb => by omega) ?_
      refine v_iand dX8_bits_15 ?_
      rw [ea (by omega)]
      refine v_istore_n (ls' := [_, _, _]) dX8_bits_16 rfl rfl rfl rfl ?_
      refine v_goto (tgt := 4) dX8_bits_17 (by decide) ?_
      exact ih _ (by omega) (by omega) _ (by have := hc (by omega); omega) (by omega)
  refine v_iconst dX8_bits_0 (by decide) ?_
  refine v_istore_n (ls' := [_, _, _]) dX8_bits_1 rfl rfl rfl rfl ?_
  refine v_iload_n dX8_bits_2 rfl rfl ?_
  refine v_istore_n (ls' := [_, _, _]) dX8_bits_3 rfl rfl rfl rfl ?_
  exact lp s (Nat.le_refl _) 0 (by omega) (by omega)
def cwF (w : Mem_) (p : Int) (q : Nat) : Nat := if cwC w p (q : Int) then 2 ^ q else 0
def cwN (w : Mem_) (p : Int) : Nat := orR (w (stc w) 1).toNat (cwF w p)
set_option maxRecDepth 10000 in
theorem c_X8_wakesOf {p : Int} (hw : CW w) (hc : CP μ w) (hpp : 0 ≤ p ∧ p < w (stc w) 1) (h : Q (I_ (cwN w p : Int)) μ) : V_ nX8_wakesOf 0 [R_ 50, I_ p, U_, U_] [] μ Q := by
  have c1 := hc.1.1
  have s2 := hw.1.2.2.1
  have lp : ∀ k : Int, 0 ≤ k → k ≤ w (stc w) 1 → ∀ a : Int, a = ((orR k.toNat (cwF w p) : Nat) : Int) → V_ nX8_wakesOf 4 [R_ 50, I_ p, I_ a, I_ k] [] μ Q := by
    refine loop_up _ (fun k h0 h1 ih => ?_)
    intro a ha
    have hk : k < w (stc w) 1 → _ := fun q : k < w (stc w) 1 => hc.1.2.2 k.toNat (by omega)
    have hs : k < w (stc w) 1 → _ := fun q : k < w (stc w) 1 => hw.1.2.2.2.2 k.toNat (by omega)
    have ek : ((k.toNat : Nat) : Int) = k := by omega
    refine v_iload_n dX8_wakesOf_4 rfl rfl ?_
    refine v_aload_n dX8_wakesOf_5 rfl rfl ?_
    refine v_getI dX8_wakesOf_6 fX8_183 rfl rfl rfl ?_
    refine v_icmp_ge (tgt := 58) dX8_wakesOf_9 (by decide) (fun hc_9 => ?_) (fun hc_9 => ?_)
    · refine v_iload_n dX8_wakesOf_58 rfl rfl ?_
      refine v_ireturn dX8_wakesOf_59 rfl ?_
      rw [show k = w (stc w) 1 by omega] at ha
      rw [ha]
      exact h
    · refine v_iload_n dX8_wakesOf_12 rfl rfl ?_
      refine v_iload_n dX8_wakesOf_13 rfl rfl ?_
      refine v_iload_n dX8_wakesOf_14 rfl rfl ?_
      refine v_icmp_eq (tgt := 49) dX8_wakesOf_15 (by decide) (fun hc_15 => ?_) (fun hc_15 => ?_)
      · refine v_iconst dX8_wakesOf_49 (by decide) ?_
        refine v_ior dX8_wakesOf_50 ?_
        refine v_istore_n (ls' := [_, _, _, _]) dX8_wakesOf_51 rfl rfl rfl rfl ?_
        refine v_iinc (ls' := [_, _, _, _]) dX8_wakesOf_52 rfl (fun hi_52 => by omega) rfl rfl ?_
        refine v_goto (tgt := 4) dX8_wakesOf_55 (by decide) ?_
        have hs := hs (by omega)
        first
          | exact ih (by omega) _ (orS h0 ha (bShl_one (by omega) (by omega)) (if_pos (by unfold cwC; rw [ek]; exact ⟨by omega, by omega, by omega⟩)) (fun j hj => pw_if (by omega)))
          | exact ih (by omega) _ (orS (x := 0) h0 ha rfl (if_neg (fun q => by unfold cwC at q; rw [ek] at q; omega)) (fun j hj => pw_if (by omega)))
      · refine v_aload_n dX8_wakesOf_18 rfl rfl ?_
        refine v_getR dX8_wakesOf_19 fX8_32 rfl rfl rfl ?_
        refine v_iload_n dX8_wakesOf_22 rfl rfl ?_
        refine v_iald dX8_wakesOf_23 rfl (by omega) (by omega) ?_
        rw [(hk (by omega)).1]
        refine v_bipush dX8_wakesOf_24 (by decide) ?_
        refine v_icmp_eq (tgt := 49) dX8_wakesOf_26 (by decide) (fun hc_26 => ?_) (fun hc_26 => ?_)
        · refine v_iconst dX8_wakesOf_49 (by decide) ?_
          refine v_ior dX8_wakesOf_50 ?_
          refine v_istore_n (ls' := [_, _, _, _]) dX8_wakesOf_51 rfl rfl rfl rfl ?_
          refine v_iinc (ls' := [_, _, _, _]) dX8_wakesOf_52 rfl (fun hi_52 => by omega) rfl rfl ?_
          refine v_goto (tgt := 4) dX8_wakesOf_55 (by decide) ?_
          have hs := hs (by omega)
          first
            | exact ih (by omega) _ (orS h0 ha (bShl_one (by omega) (by omega)) (if_pos (by unfold cwC; rw [ek]; exact ⟨by omega, by omega, by omega⟩)) (fun j hj => pw_if (by omega)))
            | exact ih (by omega) _ (orS (x := 0) h0 ha rfl (if_neg (fun q => by unfold cwC at q; rw [ek] at q; omega)) (fun j hj => pw_if (by omega)))
        · refine v_aload_n dX8_wakesOf_29 rfl rfl ?_
          refine v_getR dX8_wakesOf_30 fX8_74 rfl rfl rfl ?_
          refine v_bipush dX8_wakesOf_33 (by decide) ?_
          refine v_iload_n dX8_wakesOf_35 rfl rfl ?_
          refine v_imul dX8_wakesOf_36 (fun ha hb => by omega) ?_
          refine v_iload_n dX8_wakesOf_37 rfl rfl ?_
          refine v_iadd dX8_wakesOf_38 (fun ha hb => by omega) ?_
          refine v_iald dX8_wakesOf_39 rfl (by omega) (by omega) ?_
          rw [hc.2.1.2.2.2 _ (by omega), show 12 * k + p = k * 12 + p by omega]
          refine v_if_lt (tgt := 49) dX8_wakesOf_40 (by decide) (fun hc_40 => ?_) (fun hc_40 => ?_)
          · refine v_iconst dX8_wakesOf_49 (by decide) ?_
            refine v_ior dX8_wakesOf_50 ?_
            refine v_istore_n (ls' := [_, _, _, _]) dX8_wakesOf_51 rfl rfl rfl rfl ?_
            refine v_iinc (ls' := [_, _, _, _]) dX8_wakesOf_52 rfl (fun hi_52 => by omega) rfl rfl ?_
            refine v_goto (tgt := 4) dX8_wakesOf_55 (by decide) ?_
            have hs := hs (by omega)
            first
              | exact ih (by omega) _ (orS h0 ha (bShl_one (by omega) (by omega)) (if_pos (by unfold cwC; rw [ek]; exact ⟨by omega, by omega, by omega⟩)) (fun j hj => pw_if (by omega)))
              | exact ih (by omega) _ (orS (x := 0) h0 ha rfl (if_neg (fun q => by unfold cwC at q; rw [ek] at q; omega)) (fun j hj => pw_if (by omega)))
          · refine v_iconst dX8_wakesOf_43 (by decide) ?_
            refine v_iload_n dX8_wakesOf_44 rfl rfl ?_
            refine v_ishl dX8_wakesOf_45 ?_
            refine v_goto (tgt := 50) dX8_wakesOf_46 (by decide) ?_
            refine v_ior dX8_wakesOf_50 ?_
            refine v_istore_n (ls' := [_, _, _, _]) dX8_wakesOf_51 rfl rfl rfl rfl ?_
            refine v_iinc (ls' := [_, _, _, _]) dX8_wakesOf_52 rfl (fun hi_52 => by omega) rfl rfl ?_
            refine v_goto (tgt := 4) dX8_wakesOf_55 (by decide) ?_
            have hs := hs (by omega)
            first
              | exact ih (by omega) _ (orS h0 ha (bShl_one (by omega) (by omega)) (if_pos (by unfold cwC; rw [ek]; exact ⟨by omega, by omega, by omega⟩)) (fun j hj => pw_if (by omega)))
              | exact ih (by omega) _ (orS (x := 0) h0 ha rfl (if_neg (fun q => by unfold cwC at q; rw [ek] at q; omega)) (fun j hj => pw_if (by omega)))
  refine v_iconst dX8_wakesOf_0 (by decide) ?_
  refine v_istore_n (ls' := [_, _, _, _]) dX8_wakesOf_1 rfl rfl rfl rfl ?_
  refine v_iconst dX8_wakesOf_2 (by decide) ?_
  refine v_istore_n (ls' := [_, _, _, _]) dX8_wakesOf_3 rfl rfl rfl rfl ?_
  exact lp 0 (by omega) (by omega) 0 rfl
theorem oh_orR {n : Nat} {f : Nat → Nat} {i : Nat} : (ohN w (orR n f)).testBit i = true ↔ ∃ q, q < n ∧ (ohN w (f q)).testBit i = true := by
  rw [ohN_bit]
  constructor
  · rintro ⟨k, h1, h2, h3⟩
    obtain ⟨q, q1, q2⟩ := orR_bit.1 h2
    exact ⟨q, q1, ohN_bit.2 ⟨k, h1, q2, h3⟩⟩
  · rintro ⟨q, q1, q2⟩
    obtain ⟨k, h1, h2, h3⟩ := ohN_bit.1 q2
    exact ⟨k, h1, orR_bit.2 ⟨q, q1, h2⟩, h3⟩
theorem cf_orR {n : Nat} {f : Nat → Nat} {i : Nat} : (cfN w (orR n f)).testBit i = true ↔ ∃ q, q < n ∧ (cfN w (f q)).testBit i = true := by
  induction n with
  | zero => rw [orR, cf0]; simp
  | succ n ih =>
    rw [orR, cfN_or, or_bit, ih]
    constructor
    · rintro (⟨q, q1, q2⟩ | q2)
      · exact ⟨q, by omega, q2⟩
      · exact ⟨n, by omega, q2⟩
    · rintro ⟨q, q1, q2⟩
      rcases Nat.lt_or_ge q n with h | h
      · exact Or.inl ⟨q, h, q2⟩
      · rw [show n = q by omega]; exact Or.inr q2
def hhF (w : Mem_) (s : Nat) (q : Nat) : Nat := if s.testBit q = true then haC w q else 0
def kqF (w : Mem_) (s : Nat) (q : Nat) : Nat := if s.testBit q = true then orR (w 17 0).toNat (hkF w q) else 0
def hqO (w : Mem_) (s : Nat) (q : Nat) : Nat := if s.testBit q = true then 2 ^ (w (stc w + 2) q).toNat else 0
set_option maxRecDepth 10000 in
theorem c_X8_openBy {p own : Int} {s : Nat} (hw : CW w) (hc : CP μ w) (hpp : 0 ≤ p ∧ p < w (stc w) 1) (hs : s < 2 ^ 12) (hsc : ∀ q : Nat, (q : Int) < w (stc w) 1 → s.testBit q = true → 0 ≤ w (stc w + 2) q) (h : Q (I_ ((unC w p own ||| cfN w (orR (w (stc w) 1).toNat (hhF w s)) : Nat) : Int)) μ) : V_ nX8_openBy 0 [R_ 50, I_ p, I_ own, I_ (s : Int), U_, U_, U_] [] μ Q := by
  have c1 := hc.1.1
  have s1 := hw.1.2.1
  have s2 := hw.1.2.2.1
  have hp := hw.P
  have lq : ∀ n, orR n (kqF w s) < 2 ^ 24 := fun n => orR_lt (fun q _ => by
    unfold kqF
    split
    · exact held_lt hp (fun k => if_pw)
    · decide)
  have lo : ∀ n : Nat, (n : Int) ≤ w (stc w) 1 → orR n (hqO w s) < 2 ^ 6 := fun n hn => orR_lt (fun q hq => by
    have := hw.1.2.2.2.2 q (by omega)
    unfold hqO
    split
    · exact Nat.pow_lt_pow_right (by omega) (by have := hsc q (by omega) (by assumption); omega)
    · decide)
  have eF : ∀ K0 : Nat, orR (w (stc w) 1).toNat (hqO w s) ||| ohN w (K0 ||| orR (w (stc w) 1).toNat (kqF w s)) = ohN w K0 ||| orR (w (stc w) 1).toNat (hhF w s) := by
    intro K0
    apply bx
    intro i
    rw [oh_or, or_bit, or_bit, or_bit, oh_orR, orR_bit, orR_bit]
    constructor
    · rintro (⟨q, q1, q2⟩ | q | ⟨q, q1, q2⟩)
      · refine Or.inr ⟨q, q1, ?_⟩
        unfold hqO at q2
        unfold hhF haC
        by_cases hb : s.testBit q = true
        · rw [if_pos hb] at q2 ⊢
          rw [Int.toNat_natCast, if_pos (hsc q (by omega) hb)]
          exact or_bit.2 (Or.inr q2)
        · rw [if_neg hb] at q2; simp at q2
      · exact Or.inl q
      · refine Or.inr ⟨q, q1, ?_⟩
        unfold kqF at q2
        unfold hhF haC
        by_cases hb : s.testBit q = true
        · rw [if_pos hb] at q2 ⊢
          rw [oh_held (by omega)] at q2
          exact or_bit.2 (Or.inl q2)
        · rw [if_neg hb, oh_0] at q2; simp at q2
    · rintro (q | ⟨q, q1, q2⟩)
      · exact Or.inr (Or.inl q)
      · unfold hhF haC at q2
        by_cases hb : s.testBit q = true
        · rw [if_pos hb, Int.toNat_natCast, if_pos (hsc q (by omega) hb)] at q2
          rcases or_bit.1 q2 with q3 | q3
          · refine Or.inr (Or.inr ⟨q, q1, ?_⟩)
            unfold kqF
            rw [if_pos hb, oh_held (by omega)]
            exact q3
          · refine Or.inl ⟨q, q1, ?_⟩
            unfold hqO
            rw [if_pos hb]
            exact q3
        · rw [if_neg hb] at q2; simp at q2
  have lp : ∀ K0 : Nat, K0 < 2 ^ 24 → cfN w (ohN w K0) = unC w p own → ∀ k : Int, 0 ≤ k → k ≤ w (stc w) 1 → ∀ a b : Int, a = ((K0 ||| orR k.toNat (kqF w s) : Nat) : Int) → b = ((orR k.toNat (hqO w s) : Nat) : Int) → V_ nX8_openBy 26 [R_ 50, I_ p, I_ own, I_ (s : Int), I_ a, I_ b, I_ k] [] μ Q := by
    intro K0 hK hKu
    refine loop_up _ (fun k h0 h1 ih => ?_)
    intro a b ha hb
    have hk : k < w (stc w) 1 → _ := fun q : k < w (stc w) 1 => hc.1.2.2 k.toNat (by omega)
    have hh : k < w (stc w) 1 → _ := fun q : k < w (stc w) 1 => hsc k.toNat (by omega)
    have hst : k < w (stc w) 1 → _ := fun q : k < w (stc w) 1 => hw.1.2.2.2.2 k.toNat (by omega)
    have ek : ((k.toNat : Nat) : Int) = k := by omega
    have l1 := lq k.toNat
    have l2 := lo k.toNat (by omega)
    have l3 := held_lt hp (f := hkF w k) (fun k => if_pw)
    refine v_iload dX8_openBy_26 rfl ?_
    refine v_aload_n dX8_openBy_28 rfl rfl ?_
    refine v_getI dX8_openBy_29 fX8_183 rfl rfl rfl ?_
    refine v_icmp_ge (tgt := 75) dX8_openBy_32 (by decide) (fun hc_32 => ?_) (fun hc_32 => ?_)
    · refine v_aload_n dX8_openBy_75 rfl rfl ?_
      refine v_iload dX8_openBy_76 rfl ?_
      refine v_iload dX8_openBy_78 rfl ?_
      rw [ha, hb, show k.toNat = (w (stc w) 1).toNat by omega]
      refine v_callVi [_, _] dX8_openBy_80 lX8_255 kvX8_comes (plX8 _ _) (Or.inl rfl) rfl rfl rfl rfl rfl rfl rfl rfl rfl (c_X8_comesN hw hc (Nat.or_lt_two_pow hK (lq _)) (lo _ (by omega)) ?_)
      refine v_ireturn dX8_openBy_83 rfl ?_
      rw [eF, cfN_or, hKu]
      exact h
    · refine v_iload_n dX8_openBy_35 rfl rfl ?_
      refine v_iload dX8_openBy_36 rfl ?_
      refine v_callSi [_, _] dX8_openBy_38 lX8_252 ksX8_has (plX8 _ _) (Or.inr rfl) rfl rfl rfl rfl rfl rfl (c_X8_has (by omega) (by omega) (by omega) ?_)
      refine v_ifb_eq (tgt := 69) dX8_openBy_41 (by decide) (fun hc_41 => ?_) (fun hc_41 => ?_)
      · refine v_iinc (ls' := [_, _, _, _, _, _, _]) dX8_openBy_69 rfl (fun hi_69 => by omega) rfl rfl ?_
        refine v_goto (tgt := 26) dX8_openBy_72 (by decide) ?_
        have e3 : s.testBit k.toNat = true → True := fun _ => trivial
        first
          | (have hb3 : s.testBit k.toNat = true := by simpa using hc_41
             have hh3 := hh (by omega) hb3
             have hs3 := hst (by omega)
             refine ih (by omega) _ _ ?_ (orS (x := hqO w s k.toNat) h0 hb ?_ rfl (fun j hj => ?_))
             · rw [ha, bOr_nat (Nat.lt_trans (Nat.or_lt_two_pow hK l1) (by decide)) (by omega), show (k + 1).toNat = k.toNat + 1 by omega, orR, show kqF w s k.toNat = orR (w 17 0).toNat (hkF w k) by unfold kqF; rw [if_pos hb3, ek], Nat.or_assoc]
             · unfold hqO
               rw [if_pos hb3]
               exact bShl_one (by omega) (by omega)
             · have := lo (j + 1) (by omega)
               have h9 : hqO w s j ≤ orR (j + 1) (hqO w s) := by rw [orR]; exact Nat.right_le_or
               omega)
          | (have hb3 : ¬ s.testBit k.toNat = true := by simpa using hc_41
             refine ih (by omega) _ _ ?_ (orZ h0 hb (if_neg hb3))
             rw [ha, show (k + 1).toNat = k.toNat + 1 by omega, orR, show kqF w s k.toNat = 0 from if_neg hb3, Nat.or_zero])
      · refine v_iload dX8_openBy_44 rfl ?_
        refine v_aload_n dX8_openBy_46 rfl rfl ?_
        refine v_iload dX8_openBy_47 rfl ?_
        refine v_callVi [_] dX8_openBy_49 lX8_243 kvX8_heldBy (plX8 _ _) (Or.inl rfl) rfl rfl rfl rfl rfl rfl rfl rfl rfl (c_X8_heldBy hp hc.2.1 ?_)
        refine v_ior dX8_openBy_52 ?_
        refine v_istore (ls' := [_, _, _, _, _, _, _]) dX8_openBy_53 rfl rfl rfl ?_
        refine v_iload dX8_openBy_55 rfl ?_
        refine v_iconst dX8_openBy_57 (by decide) ?_
        refine v_aload_n dX8_openBy_58 rfl rfl ?_
        refine v_getR dX8_openBy_59 fX8_32 rfl rfl rfl ?_
        refine v_iload dX8_openBy_62 rfl ?_
        refine v_iald dX8_openBy_64 rfl (by omega) (by omega) ?_
        rw [(hk (by omega)).1]
        refine v_ishl dX8_openBy_65 ?_
        refine v_ior dX8_openBy_66 ?_
        refine v_istore (ls' := [_, _, _, _, _, _, _]) dX8_openBy_67 rfl rfl rfl ?_
        refine v_iinc (ls' := [_, _, _, _, _, _, _]) dX8_openBy_69 rfl (fun hi_69 => by omega) rfl rfl ?_
        refine v_goto (tgt := 26) dX8_openBy_72 (by decide) ?_
        have e3 : s.testBit k.toNat = true → True := fun _ => trivial
        first
          | (have hb3 : s.testBit k.toNat = true := by simpa using hc_41
             have hh3 := hh (by omega) hb3
             have hs3 := hst (by omega)
             refine ih (by omega) _ _ ?_ (orS (x := hqO w s k.toNat) h0 hb ?_ rfl (fun j hj => ?_))
             · rw [ha, bOr_nat (Nat.lt_trans (Nat.or_lt_two_pow hK l1) (by decide)) (by omega), show (k + 1).toNat = k.toNat + 1 by omega, orR, show kqF w s k.toNat = orR (w 17 0).toNat (hkF w k) by unfold kqF; rw [if_pos hb3, ek], Nat.or_assoc]
             · unfold hqO
               rw [if_pos hb3]
               exact bShl_one (by omega) (by omega)
             · have := lo (j + 1) (by omega)
               have h9 : hqO w s j ≤ orR (j + 1) (hqO w s) := by rw [orR]; exact Nat.right_le_or
               omega)
          | (have hb3 : ¬ s.testBit k.toNat = true := by simpa using hc_41
             refine ih (by omega) _ _ ?_ (orZ h0 hb (if_neg hb3))
             rw [ha, show (k + 1).toNat = k.toNat + 1 by omega, orR, show kqF w s k.toNat = 0 from if_neg hb3, Nat.or_zero])
  have l5 := held_lt hp (f := hkF w p) (fun k => if_pw)
  have l6 := held_lt hp (f := waF w) (fun k => if_pw)
  refine v_aload_n dX8_openBy_0 rfl rfl ?_
  refine v_getI dX8_openBy_1 fX8_220 rfl rfl rfl ?_
  rw [hc.2.2.1.2.2.2]
  refine v_iload_n dX8_openBy_4 rfl rfl ?_
  refine v_if_eq (tgt := 16) dX8_openBy_5 (by decide) (fun hc_5 => ?_) (fun hc_5 => ?_)
  · refine v_iconst dX8_openBy_16 (by decide) ?_
    refine v_ior dX8_openBy_17 ?_
    refine v_istore (ls' := [_, _, _, _, _, _, _]) dX8_openBy_18 rfl rfl rfl ?_
    refine v_iconst dX8_openBy_20 (by decide) ?_
    refine v_istore (ls' := [_, _, _, _, _, _, _]) dX8_openBy_21 rfl rfl rfl ?_
    refine v_iconst dX8_openBy_23 (by decide) ?_
    refine v_istore (ls' := [_, _, _, _, _, _, _]) dX8_openBy_24 rfl rfl rfl ?_
    rw [bOr_z (by omega)]
    refine lp (orR (w 17 0).toNat (waF w)) l6 (by rw [oh_pots]; unfold unC; rw [if_pos (by omega)]) 0 (by omega) (by omega) _ _ (by rw [show orR (0 : Int).toNat (kqF w s) = 0 from rfl, Nat.or_zero]) rfl
  · refine v_aload_n dX8_openBy_8 rfl rfl ?_
    refine v_iload_n dX8_openBy_9 rfl rfl ?_
    refine v_callVi [_] dX8_openBy_10 lX8_243 kvX8_heldBy (plX8 _ _) (Or.inl rfl) rfl rfl rfl rfl rfl rfl rfl rfl rfl (c_X8_heldBy hp hc.2.1 ?_)
    refine v_goto (tgt := 17) dX8_openBy_13 (by decide) ?_
    refine v_ior dX8_openBy_17 ?_
    refine v_istore (ls' := [_, _, _, _, _, _, _]) dX8_openBy_18 rfl rfl rfl ?_
    refine v_iconst dX8_openBy_20 (by decide) ?_
    refine v_istore (ls' := [_, _, _, _, _, _, _]) dX8_openBy_21 rfl rfl rfl ?_
    refine v_iconst dX8_openBy_23 (by decide) ?_
    refine v_istore (ls' := [_, _, _, _, _, _, _]) dX8_openBy_24 rfl rfl rfl ?_
    rw [bOr_nat (by omega) (by omega)]
    refine lp _ (Nat.or_lt_two_pow l6 l5) (by rw [oh_or, oh_pots, oh_held hpp.1]; unfold unC; rw [if_neg (by omega)]) 0 (by omega) (by omega) _ _ (by rw [show orR (0 : Int).toNat (kqF w s) = 0 from rfl, Nat.or_zero]) rfl
end
