/-! the model over the class: who comes in alone, suspects, who is stuck -/
def CW (w : Mem_) : Prop := (isSt (stc w) ∧ StC w (stc w)) ∧ RIc (w (stc w) 0) (w (stc w) 1) (w 7 0) w ∧ LVc (w (stc w) 0) (w (stc w) 1) w ∧ ReOK w ∧ w 17 0 = kbC w (w 7 0).toNat
def CP (μ w : Mem_) : Prop := CS μ w ∧ MK μ w ∧ DLk (w 17 0).toNat μ w ∧ CV μ w
theorem CW.P {w : Mem_} (h : CW w) : PIc w := RIc_P h.1.2.1.2 h.1.2.2.1.2 h.2.1
theorem bx {a b : Nat} (h : ∀ i, a.testBit i = true ↔ b.testBit i = true) : a = b := sb_eq (fun i => (h i).1) (fun i => (h i).2)
theorem or_bit {a b i : Nat} : (a ||| b).testBit i = true ↔ a.testBit i = true ∨ b.testBit i = true := by rw [Nat.testBit_or, Bool.or_eq_true]
theorem and_bit {a b i : Nat} : (a &&& b).testBit i = true ↔ a.testBit i = true ∧ b.testBit i = true := by rw [Nat.testBit_and, Bool.and_eq_true]
theorem pw_bit {k i : Nat} : (2 ^ k).testBit i = true ↔ k = i := by rw [Nat.testBit_two_pow]; simp
theorem nx_bit {a b i : Nat} : (a ^^^ (a &&& b)).testBit i = true ↔ a.testBit i = true ∧ ¬ b.testBit i = true := by
  rw [Nat.testBit_xor, Nat.testBit_and]
  cases a.testBit i <;> cases b.testBit i <;> simp
theorem opens_bit {w : Mem_} {pl ho : Int} {i : Nat} : (opensC w pl ho).testBit i = true ↔ ∃ k, k < (w 17 0).toNat ∧ w 20 k = pl ∧ (ho = -1 ∨ w 21 k = ho) ∧ liveC w k ∧ (w 18 k).toNat = i := by
  unfold opensC
  rw [orR_bit]
  constructor
  · rintro ⟨k, hk, h⟩
    unfold opF at h
    by_cases hp : w 20 k = pl ∧ (ho = -1 ∨ w 21 k = ho) ∧ liveC w k
    · rw [if_pos hp] at h
      exact ⟨k, hk, hp.1, hp.2.1, hp.2.2, pw_bit.1 h⟩
    · rw [if_neg hp] at h; simp at h
  · rintro ⟨k, h1, h2, h3, h4, h5⟩
    refine ⟨k, h1, ?_⟩
    unfold opF
    rw [if_pos ⟨h2, h3, h4⟩]
    exact pw_bit.2 h5
theorem oh_or {w : Mem_} {a b : Nat} : ohN w (a ||| b) = ohN w a ||| ohN w b := by
  apply bx
  intro i
  rw [or_bit, ohN_bit, ohN_bit, ohN_bit]
  constructor
  · rintro ⟨k, h1, h2, h3⟩
    rcases or_bit.1 h2 with q | q
    · exact Or.inl ⟨k, h1, q, h3⟩
    · exact Or.inr ⟨k, h1, q, h3⟩
  · rintro (⟨k, h1, h2, h3⟩ | ⟨k, h1, h2, h3⟩)
    · exact ⟨k, h1, or_bit.2 (Or.inl h2), h3⟩
    · exact ⟨k, h1, or_bit.2 (Or.inr h2), h3⟩
theorem oh_0 {w : Mem_} : ohN w 0 = 0 := by
  apply bx
  intro i
  rw [ohN_bit]
  simp
theorem oh_held {w : Mem_} {p : Int} (hp : 0 ≤ p) : ohN w (orR (w 17 0).toNat (hkF w p)) = opensC w 0 p := by
  apply bx
  intro i
  rw [ohN_bit, opens_bit]
  constructor
  · rintro ⟨k, h1, h2, h3, h4⟩
    have := ((orP_bit (P := fun k => w 20 k = 0 ∧ w 21 k = p)).1 h2).2
    exact ⟨k, h1, this.1, Or.inr this.2, h3, h4⟩
  · rintro ⟨k, h1, h2, h3, h4, h5⟩
    exact ⟨k, h1, (orP_bit (P := fun k => w 20 k = 0 ∧ w 21 k = p)).2 ⟨h1, h2, by omega⟩, h4, h5⟩
theorem oh_pots {w : Mem_} : ohN w (orR (w 17 0).toNat (waF w)) = opensC w 1 (-1) := by
  apply bx
  intro i
  rw [ohN_bit, opens_bit]
  constructor
  · rintro ⟨k, h1, h2, h3, h4⟩
    have := ((orP_bit (P := fun k => w 20 k = 1)).1 h2).2
    exact ⟨k, h1, this, Or.inl rfl, h3, h4⟩
  · rintro ⟨k, h1, h2, h3, h4, h5⟩
    exact ⟨k, h1, (orP_bit (P := fun k => w 20 k = 1)).2 ⟨h1, h2⟩, h4, h5⟩
theorem oh_lt {w : Mem_} (hp : PIc w) {ks : Nat} : ohN w ks < 2 ^ 6 := orR_lt (fun k hk => by
  have := hp.2 k (by omega)
  split
  · exact Nat.pow_lt_pow_right (by omega) (by omega)
  · decide)
theorem cfC_or {w : Mem_} {a b h : Nat} : cfC w (a ||| b) h = cfC w a h ||| cfC w b h := by
  unfold cfC
  by_cases h1 : a.testBit h = true <;> by_cases h2 : b.testBit h = true <;> simp [Nat.testBit_or, h1, h2]
theorem orR_or {n : Nat} {f g : Nat → Nat} : orR n (fun k => f k ||| g k) = orR n f ||| orR n g := by
  apply bx
  intro i
  rw [or_bit, orR_bit, orR_bit, orR_bit]
  constructor
  · rintro ⟨k, h1, h2⟩
    rcases or_bit.1 h2 with q | q
    · exact Or.inl ⟨k, h1, q⟩
    · exact Or.inr ⟨k, h1, q⟩
  · rintro (⟨k, h1, h2⟩ | ⟨k, h1, h2⟩)
    · exact ⟨k, h1, or_bit.2 (Or.inl h2)⟩
    · exact ⟨k, h1, or_bit.2 (Or.inr h2)⟩
theorem cfN_or {w : Mem_} {a b : Nat} : cfN w (a ||| b) = cfN w a ||| cfN w b := by
  unfold cfN
  rw [show cfC w (a ||| b) = fun h => cfC w a h ||| cfC w b h from funext (fun h => cfC_or), orR_or]
  apply bx
  intro i
  simp only [or_bit]
  constructor
  · rintro ((q | q) | (q | q)) <;> simp [q]
  · rintro ((q | q) | (q | q)) <;> simp [q]
theorem held_lt {w : Mem_} (hp : PIc w) {f : Nat → Nat} (hf : ∀ k, f k = 0 ∨ f k = 2 ^ k) : orR (w 17 0).toNat f < 2 ^ 24 := orR_lt (fun k hk => by
  have h1 := hp.1
  rcases hf k with q | q
  · rw [q]; decide
  · rw [q]; exact Nat.pow_lt_pow_right (by omega) (by omega))
theorem if_pw {P : Prop} [Decidable P] {k : Nat} : (if P then 2 ^ k else 0 : Nat) = 0 ∨ (if P then 2 ^ k else 0 : Nat) = 2 ^ k := by
  split <;> simp
section
variable {μ w : Mem_} {Q : PV → Mem_ → Prop}
theorem c_X8_comesN {ks op : Nat} (hw : CW w) (hc : CP μ w) (hks : ks < 2 ^ 24) (hop : op < 2 ^ 6) (h : Q (I_ ((cfN w (op ||| ohN w ks) : Nat) : Int)) μ) : V_ nX8_comes 0 [R_ 50, I_ (ks : Int), I_ (op : Int), U_, U_, U_, U_, U_, U_] [] μ Q := by
  refine c_X8_comes hw.1.2.1 hw.2.1 hc.1.1.1 hc.2.2.1 hks hop (fun r hr hcl => ?_)
  rw [clo_u hcl (cf_clo hw.P hw.2.2.2.1 (Nat.or_lt_two_pow hop (oh_lt hw.P)))]
  exact h
set_option maxRecDepth 10000 in
theorem c_X8_aloneOf {p : Int} {ks : Nat} (hw : CW w) (hc : CP μ w) (hp0 : 0 ≤ p) (hks : ks < 2 ^ 24) (h : Q (I_ ((unC w p 1 ||| cfN w (ohN w ks) : Nat) : Int)) μ) : V_ nX8_aloneOf 0 [R_ 50, I_ p, I_ (ks : Int)] [] μ Q := by
  have l1 := held_lt hw.P (f := hkF w p) (fun k => if_pw)
  have l2 := held_lt hw.P (f := waF w) (fun k => if_pw)
  have l3 := Nat.or_lt_two_pow l1 l2
  have l4 := Nat.or_lt_two_pow l3 hks
  have e1 : (0 : Nat) ||| ohN w (orR (w 17 0).toNat (hkF w p) ||| orR (w 17 0).toNat (waF w) ||| ks) = (opensC w 1 (-1) ||| opensC w 0 p) ||| ohN w ks := by
    rw [Nat.zero_or, oh_or, oh_or, oh_held hp0, oh_pots, Nat.or_comm (opensC w 0 p)]
  refine v_aload_n dX8_aloneOf_0 rfl rfl ?_
  refine v_aload_n dX8_aloneOf_1 rfl rfl ?_
  refine v_iload_n dX8_aloneOf_2 rfl rfl ?_
  refine v_callVi [_] dX8_aloneOf_3 lX8_243 kvX8_heldBy (plX8 _ _) (Or.inl rfl) rfl rfl rfl rfl rfl rfl rfl rfl rfl (c_X8_heldBy hw.P hc.2.1 ?_)
  refine v_aload_n dX8_aloneOf_6 rfl rfl ?_
  refine v_getI dX8_aloneOf_7 fX8_220 rfl rfl rfl ?_
  rw [hc.2.2.1.2.2.2]
  refine v_ior dX8_aloneOf_10 ?_
  rw [bOr_nat (by omega) (by omega)]
  refine v_iload_n dX8_aloneOf_11 rfl rfl ?_
  refine v_ior dX8_aloneOf_12 ?_
  rw [bOr_nat (by omega) (by omega)]
  refine v_iconst dX8_aloneOf_13 (by decide) ?_
  refine v_callVi [_, _] dX8_aloneOf_14 lX8_255 kvX8_comes (plX8 _ _) (Or.inl rfl) rfl rfl rfl rfl rfl rfl rfl rfl rfl (c_X8_comesN (op := 0) hw hc l4 (by decide) ?_)
  refine v_ireturn dX8_aloneOf_17 rfl ?_
  rw [e1, cfN_or]
  unfold unC at h
  rwa [if_neg (by decide)] at h
set_option maxRecDepth 10000 in
theorem c_X8_alone {p : Int} (hw : CW w) (hc : CP μ w) (h1 : ¬ (0 ≤ p ∧ p < w (stc w) 1) → Q (I_ (-1)) μ) (h2 : (0 ≤ p ∧ p < w (stc w) 1) → Q (I_ (unC w p 1 : Int)) μ) : V_ nX8_alone 0 [R_ 50, I_ p] [] μ Q := by
  have c1 := hc.1.1
  have s1 := hw.1.2.2.1
  refine v_aload_n dX8_alone_0 rfl rfl ?_
  refine v_iload_n dX8_alone_1 rfl rfl ?_
  refine v_callVi [_] dX8_alone_2 lX8_207 kvX8_isPerson (plX8 _ _) (Or.inr rfl) rfl rfl rfl rfl rfl rfl rfl rfl rfl (c_X8_isPerson (by omega) ?_)
  refine v_ifb_eq (tgt := 17) dX8_alone_5 (by decide) (fun hc_5 => ?_) (fun hc_5 => ?_)
  · refine v_iconst dX8_alone_17 (by decide) ?_
    refine v_ireturn dX8_alone_18 rfl ?_
    exact h1 (by omega)
  · refine v_aload_n dX8_alone_8 rfl rfl ?_
    refine v_iload_n dX8_alone_9 rfl rfl ?_
    refine v_iconst dX8_alone_10 (by decide) ?_
    refine v_callVi [_, _] dX8_alone_11 lX8_258 kvX8_aloneOf (plX8 _ _) (Or.inl rfl) rfl rfl rfl rfl rfl rfl rfl rfl rfl (c_X8_aloneOf (ks := 0) hw hc (by omega) (by decide) ?_)
    refine v_goto (tgt := 18) dX8_alone_14 (by decide) ?_
    refine v_ireturn dX8_alone_18 rfl ?_
    rw [oh_0, show cfN w 0 = 0 by unfold cfN; rw [Nat.zero_or]; apply bx; intro i; rw [orR_bit]; simp [cfC], Nat.or_zero]
    exact h2 (by omega)
theorem c_X8_hasG {s i : Int} {P : Prop} [Decidable P] (e : bAnd (bShr s i) 1 = b2i P) (h : Q (I_ (b2i P)) μ) : V_ nX8_has 0 [I_ s, I_ i] [] μ Q := by
  refine v_iload_n dX8_has_0 rfl rfl ?_
  refine v_iload_n dX8_has_1 rfl rfl ?_
  refine v_ishr dX8_has_2 ?_
  refine v_iconst dX8_has_3 (by decide) ?_
  refine v_iand dX8_has_4 ?_
  rw [e]
  refine v_iconst dX8_has_5 (by decide) ?_
  refine v_icmp_ne (tgt := 13) dX8_has_6 (by decide) (fun hc_6 => ?_) (fun hc_6 => ?_)
  · refine v_iconst dX8_has_13 (by decide) ?_
    refine v_zreturn dX8_has_14 rfl (by first | exact Or.inl rfl | exact Or.inr rfl | exact b2i_01 _ | assumption) ?_
    rcases b2i_01 P with q | q
    · rwa [q] at h
    · omega
  · refine v_iconst dX8_has_9 (by decide) ?_
    refine v_goto (tgt := 14) dX8_has_10 (by decide) ?_
    refine v_zreturn dX8_has_14 rfl (by first | exact Or.inl rfl | exact Or.inr rfl | exact b2i_01 _ | assumption) ?_
    rcases b2i_01 P with q | q
    · omega
    · rwa [q] at h
def plF (w : Mem_) (p : Nat) (H : Nat → Prop) [DecidablePred H] (k : Nat) : Nat := if liveC w k ∧ (w 22 k).toNat.testBit p = true ∧ H (w 18 k).toNat then 2 ^ k else 0
set_option maxRecDepth 10000 in
theorem c_X8_passedLive {p hs : Int} {H : Nat → Prop} [DecidablePred H] (hw : CW w) (hc : CP μ w) (hp0 : 0 ≤ p ∧ p < 12) (hH : ∀ g : Int, 0 ≤ g → g < 6 → bAnd (bShr hs g) 1 = b2i (H g.toNat)) (h : Q (I_ ((orR (w 17 0).toNat (plF w p.toNat H) : Nat) : Int)) μ) : V_ nX8_passedLive 0 [R_ 50, I_ p, I_ hs, U_, U_] [] μ Q := by
  have hp := hw.P
  have hm := hc.2.1
  have hp1 := hp.1
  have hm1 := hm.1
  have lp : ∀ k : Int, 0 ≤ k → k ≤ w 17 0 → ∀ a : Int, a = ((orR k.toNat (plF w p.toNat H) : Nat) : Int) → V_ nX8_passedLive 5 [R_ 50, I_ p, I_ hs, I_ a, I_ k] [] μ Q := by
    refine loop_up _ (fun k h0 h1 ih => ?_)
    intro a ha
    have hk : k < w 17 0 → _ := fun q : k < w 17 0 => hm.2.1 k.toNat (by omega)
    have hq : k < w 17 0 → _ := fun q : k < w 17 0 => hp.2 k.toNat (by omega)
    have hf : k < w 17 0 → ∀ j, j ≤ k.toNat → plF w p.toNat H j < 2 ^ 31 := fun q j hj => pw_if (by omega)
    refine v_iload dX8_passedLive_5 rfl ?_
    refine v_aload_n dX8_passedLive_7 rfl rfl ?_
    refine v_getI dX8_passedLive_8 fX8_189 rfl rfl rfl ?_
    refine v_icmp_ge (tgt := 68) dX8_passedLive_11 (by decide) (fun hc_11 => ?_) (fun hc_11 => ?_)
    · refine v_iload_n dX8_passedLive_68 rfl rfl ?_
      refine v_ireturn dX8_passedLive_69 rfl ?_
      rw [show k = w 17 0 by omega] at ha
      rwa [ha]
    · refine v_iload_n dX8_passedLive_14 rfl rfl ?_
      refine v_aload_n dX8_passedLive_15 rfl rfl ?_
      refine v_iload dX8_passedLive_16 rfl ?_
      refine v_callVi [_] dX8_passedLive_18 lX8_223 kvX8_isLive (plX8 _ _) (Or.inr rfl) rfl rfl rfl rfl rfl rfl rfl rfl rfl (c_X8_isLive hp hm (by omega) ?_)
      refine v_ifb_eq (tgt := 59) dX8_passedLive_21 (by decide) (fun hc_21 => ?_) (fun hc_21 => ?_)
      · refine v_iconst dX8_passedLive_59 (by decide) ?_
        refine v_ior dX8_passedLive_60 ?_
        refine v_istore_n (ls' := [_, _, _, _, _]) dX8_passedLive_61 rfl rfl rfl rfl ?_
        refine v_iinc (ls' := [_, _, _, _, _]) dX8_passedLive_62 rfl (fun hi_62 => by omega) rfl rfl ?_
        refine v_goto (tgt := 5) dX8_passedLive_65 (by decide) ?_
        first
          | exact ih (by omega) _ (orS h0 ha (bShl_one (by omega) (by omega)) (if_pos ⟨hc_21, hc_35, hc_49⟩) (hf (by omega)))
          | exact ih (by omega) _ (orS (x := 0) h0 ha rfl (if_neg (fun q => by first | exact hc_21 q.1 | exact hc_35 q.2.1 | exact hc_49 q.2.2)) (hf (by omega)))
      · refine v_aload_n dX8_passedLive_24 rfl rfl ?_
        refine v_getR dX8_passedLive_25 fX8_65 rfl rfl rfl ?_
        refine v_iload dX8_passedLive_28 rfl ?_
        refine v_iald dX8_passedLive_30 rfl (by omega) (by omega) ?_
        rw [(hk (by omega)).2.2.2.2]
        refine v_iload_n dX8_passedLive_31 rfl rfl ?_
        refine v_callSi [_, _] dX8_passedLive_32 lX8_252 ksX8_has (plX8 _ _) (Or.inr rfl) rfl rfl rfl rfl rfl rfl (c_X8_has (by have := hq (by omega); omega) (by omega) (by omega) ?_)
        refine v_ifb_eq (tgt := 59) dX8_passedLive_35 (by decide) (fun hc_35 => ?_) (fun hc_35 => ?_)
        · refine v_iconst dX8_passedLive_59 (by decide) ?_
          refine v_ior dX8_passedLive_60 ?_
          refine v_istore_n (ls' := [_, _, _, _, _]) dX8_passedLive_61 rfl rfl rfl rfl ?_
          refine v_iinc (ls' := [_, _, _, _, _]) dX8_passedLive_62 rfl (fun hi_62 => by omega) rfl rfl ?_
          refine v_goto (tgt := 5) dX8_passedLive_65 (by decide) ?_
          first
            | exact ih (by omega) _ (orS h0 ha (bShl_one (by omega) (by omega)) (if_pos ⟨hc_21, hc_35, hc_49⟩) (hf (by omega)))
            | exact ih (by omega) _ (orS (x := 0) h0 ha rfl (if_neg (fun q => by first | exact hc_21 q.1 | exact hc_35 q.2.1 | exact hc_49 q.2.2)) (hf (by omega)))
        · refine v_iload_n dX8_passedLive_38 rfl rfl ?_
          refine v_aload_n dX8_passedLive_39 rfl rfl ?_
          refine v_getR dX8_passedLive_40 fX8_53 rfl rfl rfl ?_
          refine v_iload dX8_passedLive_43 rfl ?_
          refine v_iald dX8_passedLive_45 rfl (by omega) (by omega) ?_
          rw [(hk (by omega)).1]
          refine v_callSi [_, _] dX8_passedLive_46 lX8_252 ksX8_has (plX8 _ _) (Or.inr rfl) rfl rfl rfl rfl rfl rfl (c_X8_hasG (P := H (w 18 k.toNat).toNat) (hH _ (by have := hq (by omega); omega) (by have := hq (by omega); omega)) ?_)
          refine v_ifb_eq (tgt := 59) dX8_passedLive_49 (by decide) (fun hc_49 => ?_) (fun hc_49 => ?_)
          · refine v_iconst dX8_passedLive_59 (by decide) ?_
            refine v_ior dX8_passedLive_60 ?_
            refine v_istore_n (ls' := [_, _, _, _, _]) dX8_passedLive_61 rfl rfl rfl rfl ?_
            refine v_iinc (ls' := [_, _, _, _, _]) dX8_passedLive_62 rfl (fun hi_62 => by omega) rfl rfl ?_
            refine v_goto (tgt := 5) dX8_passedLive_65 (by decide) ?_
            first
              | exact ih (by omega) _ (orS h0 ha (bShl_one (by omega) (by omega)) (if_pos ⟨hc_21, hc_35, hc_49⟩) (hf (by omega)))
              | exact ih (by omega) _ (orS (x := 0) h0 ha rfl (if_neg (fun q => by first | exact hc_21 q.1 | exact hc_35 q.2.1 | exact hc_49 q.2.2)) (hf (by omega)))
          · refine v_iconst dX8_passedLive_52 (by decide) ?_
            refine v_iload dX8_passedLive_53 rfl ?_
            refine v_ishl dX8_passedLive_55 ?_
            refine v_goto (tgt := 60) dX8_passedLive_56 (by decide) ?_
            refine v_ior dX8_passedLive_60 ?_
            refine v_istore_n (ls' := [_, _, _, _, _]) dX8_passedLive_61 rfl rfl rfl rfl ?_
            refine v_iinc (ls' := [_, _, _, _, _]) dX8_passedLive_62 rfl (fun hi_62 => by omega) rfl rfl ?_
            refine v_goto (tgt := 5) dX8_passedLive_65 (by decide) ?_
            first
              | exact ih (by omega) _ (orS h0 ha (bShl_one (by omega) (by omega)) (if_pos ⟨hc_21, hc_35, hc_49⟩) (hf (by omega)))
              | exact ih (by omega) _ (orS (x := 0) h0 ha rfl (if_neg (fun q => by first | exact hc_21 q.1 | exact hc_35 q.2.1 | exact hc_49 q.2.2)) (hf (by omega)))
  refine v_iconst dX8_passedLive_0 (by decide) ?_
  refine v_istore_n (ls' := [_, _, _, _, _]) dX8_passedLive_1 rfl rfl rfl rfl ?_
  refine v_iconst dX8_passedLive_2 (by decide) ?_
  refine v_istore (ls' := [_, _, _, _, _]) dX8_passedLive_3 rfl rfl rfl ?_
  exact lp 0 (by omega) (by omega) 0 rfl
end
