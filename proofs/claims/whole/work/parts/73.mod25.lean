/-! a lost ring: the order of doors -/
theorem smR_lt {n : Nat} {f g : Nat → Int} {b : Nat} (h : ∀ k, k < n → f k ≤ g k) (hb : b < n) (hs : f b < g b) : smR n f < smR n g := by
  have h1 : smR n f ≤ smR n (fun k => if k = b then g k - 1 else g k) := smR_le (fun k hk => by
    by_cases e : k = b
    · subst e; simp; omega
    · simp [e]; exact h k hk)
  have h2 := smR_add (n := n) (f := fun k => if k = b then g k - 1 else g k) (g := g) (b := b) (d := 1) hb (by simp) (fun k hk e => by simp [e])
  omega
theorem pig : ∀ (i n : Nat) (P : Nat → Prop) [DecidablePred P] (f : Nat → Nat), (∀ a b, a < n → b < n → P a → P b → f a = f b → a = b) → (∀ a, a < n → P a → f a < i) → smR n (fun k => b2i (P k)) ≤ i := by
  intro i
  induction i with
  | zero =>
    intro n P _ f h1 h2
    have : smR n (fun k => b2i (P k)) ≤ smR n (fun _ => 0) := smR_le (fun k hk => by
      have : ¬ P k := fun q => by have := h2 k hk q; omega
      rw [b2i_f this]; omega)
    have h3 : ∀ n : Nat, smR n (fun _ => 0) = 0 := fun n => by
      induction n with
      | zero => rfl
      | succ n ih => rw [smR, ih]; rfl
    rw [h3] at this
    simpa using this
  | succ i ih =>
    intro n P _ f h1 h2
    have h3 := ih n (fun k => P k ∧ f k ≠ i) f (fun a b ha hb pa pb e => h1 a b ha hb pa.1 pb.1 e) (fun a ha pa => by have := h2 a ha pa.1; omega)
    by_cases hex : ∃ a, a < n ∧ P a ∧ f a = i
    · obtain ⟨a, ha, pa, ea⟩ := hex
      have h4 := smR_add (n := n) (f := fun k => b2i (P k ∧ f k ≠ i)) (g := fun k => b2i (P k)) (b := a) (d := 1) ha (by rw [b2i_t pa, b2i_f (fun q => q.2 ea)]; rfl) (fun k hk e => b2i_congr ⟨fun q => ⟨q, fun e2 => e (h1 k a hk ha q pa (by omega))⟩, fun q => q.1⟩)
      rw [h4]
      omega
    · have h4 : smR n (fun k => b2i (P k)) = smR n (fun k => b2i (P k ∧ f k ≠ i)) := smR_congr (fun k hk => b2i_congr ⟨fun q => ⟨q, fun e => hex ⟨k, hk, q, e⟩⟩, fun q => q.1⟩)
      rw [h4]
      omega
theorem ahC_to {μ : Mem_} {h g : Nat} (e : h ≠ g) : ahC μ h g ∨ ahC μ g h := by unfold ahC; omega
section
variable {w : Mem_} {op : Nat}
theorem rn_0 {h : Nat} : 0 ≤ rnC w op h := (smb (fun k => b2i_01 _)).1
theorem rn_lt {h : Nat} (hh : h < (w (stc w) 0).toNat) (ho : op.testBit h = true) (hop : op < 2 ^ (w (stc w) 0).toNat) (hn : w (stc w) 0 ≤ 6) : rnC w op h < (cntB 32 op : Int) := by
  rw [cntB_sm hop (by omega)]
  unfold rnC
  refine smR_lt (b := h) (fun k hk => ?_) hh ?_
  · by_cases q : op.testBit k = true
    · rw [b2i_t q]; rcases b2i_01 (op.testBit k = true ∧ k ≠ h ∧ ahC w k h) with e | e <;> omega
    · rw [b2i_f (fun q2 => q q2.1)]; rcases b2i_01 (op.testBit k = true) with e | e <;> omega
  · rw [b2i_t ho, b2i_f (fun q => q.2.1 rfl)]; omega
theorem rn_mono {h g : Nat} (hh : h < (w (stc w) 0).toNat) (ho : op.testBit h = true) (e : ahC w h g) : rnC w op h < rnC w op g := by
  have hne : h ≠ g := fun q => ahC_as (q ▸ e) (q ▸ e)
  unfold rnC
  refine smR_lt (b := h) (fun k hk => ?_) hh ?_
  · by_cases q : op.testBit k = true ∧ k ≠ h ∧ ahC w k h
    · have : op.testBit k = true ∧ k ≠ g ∧ ahC w k g := ⟨q.1, fun e2 => ahC_as e (e2 ▸ q.2.2), ahC_tr q.2.2 e⟩
      rw [b2i_t q, b2i_t this]; omega
    · rw [b2i_f q]; rcases b2i_01 (op.testBit k = true ∧ k ≠ g ∧ ahC w k g) with e | e <;> omega
  · rw [b2i_f (fun q => q.2.1 rfl), b2i_t ⟨ho, hne, e⟩]; omega
theorem rn_inj {h g : Nat} (hh : h < (w (stc w) 0).toNat) (hg : g < (w (stc w) 0).toNat) (ho : op.testBit h = true) (hb : op.testBit g = true) (e : rnC w op h = rnC w op g) : h = g := by
  refine Classical.byContradiction (fun hne => ?_)
  rcases ahC_to (μ := w) hne with q | q
  · have := rn_mono hh ho q; omega
  · have := rn_mono hg hb q; omega
theorem rn_sur (hop : op < 2 ^ (w (stc w) 0).toNat) (hn : w (stc w) 0 ≤ 6) {i : Nat} (hi : i < cntB 32 op) : ∃ h, h < (w (stc w) 0).toNat ∧ op.testBit h = true ∧ rnC w op h = (i : Int) := by
  refine Classical.byContradiction (fun hne => ?_)
  have key := pig (cntB 32 op - 1) (w (stc w) 0).toNat (fun k => op.testBit k = true) (fun k => if (rnC w op k).toNat < i then (rnC w op k).toNat else (rnC w op k).toNat - 1) (fun a b ha hb pa pb e => ?_) (fun a ha pa => ?_)
  · rw [← cntB_sm hop (m := 32) (by omega)] at key
    omega
  · have n1 : (rnC w op a).toNat ≠ i := fun q => hne ⟨a, ha, pa, by have := rn_0 (w := w) (op := op) (h := a); omega⟩
    have n2 : (rnC w op b).toNat ≠ i := fun q => hne ⟨b, hb, pb, by have := rn_0 (w := w) (op := op) (h := b); omega⟩
    have z1 := rn_0 (w := w) (op := op) (h := a)
    have z2 := rn_0 (w := w) (op := op) (h := b)
    refine rn_inj ha hb pa pb ?_
    by_cases q1 : (rnC w op a).toNat < i <;> by_cases q2 : (rnC w op b).toNat < i <;> simp [q1, q2] at e <;> omega
  · have n1 : (rnC w op a).toNat ≠ i := fun q => hne ⟨a, ha, pa, by have := rn_0 (w := w) (op := op) (h := a); omega⟩
    have := rn_lt ha pa hop hn
    by_cases q1 : (rnC w op a).toNat < i <;> simp [q1] <;> omega
end
theorem CP_fr {μ m w : Mem_} (h : CP μ w) (h1 : ∀ k, k = 10 ∨ k = 11 ∨ k = 22 ∨ k = 27 ∨ k = 39 → m 50 k = μ 50 k) (h2 : ∀ o k, (57 ≤ o ∧ o ≤ 59) ∨ o = 63 ∨ (65 ≤ o ∧ o ≤ 75) → m o k = μ o k) : CP m w := by
  obtain ⟨a, b, c, d⟩ := h
  refine ⟨⟨⟨by rw [h1 10 (by omega)]; exact a.1.1, by rw [h1 11 (by omega)]; exact a.1.2⟩, fun g hg => by rw [h2 57 g (by omega)]; exact a.2.1 g hg, fun p hp => by rw [h2 58 p (by omega), h2 59 p (by omega)]; exact a.2.2 p hp⟩, MK_fr b (h1 27 (by omega)) (fun o k q => h2 o k (by omega)), ⟨fun g hg => by rw [h2 73 g (by omega)]; exact c.1 g hg, fun g hg => by rw [h2 74 g (by omega)]; exact c.2.1 g hg, fun g hg => by rw [h2 75 g (by omega)]; exact c.2.2.1 g hg, by rw [h1 39 (by omega)]; exact c.2.2.2⟩, ⟨by rw [h1 22 (by omega)]; exact d.1, fun e e0 e1 => by rw [h2 63 _ (by omega), h2 63 _ (by omega), h2 63 _ (by omega), h2 63 _ (by omega)]; exact d.2.1 e e0 e1, fun e he hq => by rw [h2 70 e (by omega)]; exact d.2.2 e he hq⟩⟩
section
variable {μ w : Mem_} {Q : PV → Mem_ → Prop}
set_option maxRecDepth 10000 in
theorem c_X8_riskOf {h : Int} (hw : CW w) (hc : CP μ w) (hh : 0 ≤ h ∧ h < w (stc w) 0) (hq : Q (I_ (rkN w h.toNat : Int)) μ) : V_ nX8_riskOf 0 [R_ 50, I_ h] [] μ Q := by
  have s1 := hw.1.2.1
  have lp : (2 : Nat) ^ h.toNat < 2 ^ 6 := Nat.pow_lt_pow_right (by omega) (by omega)
  have lc := cfN_lt hw.2.2.2.1 lp
  refine v_aload_n dX8_riskOf_0 rfl rfl ?_
  refine v_iconst dX8_riskOf_1 (by decide) ?_
  refine v_iconst dX8_riskOf_2 (by decide) ?_
  refine v_iload_n dX8_riskOf_3 rfl rfl ?_
  refine v_ishl dX8_riskOf_4 ?_
  rw [bShl_one (by omega) (by omega)]
  refine v_callVi [_, _] dX8_riskOf_5 lX8_255 kvX8_comes (plX8 _ _) (Or.inl rfl) rfl rfl rfl rfl rfl rfl rfl rfl rfl (c_X8_comesN (ks := 0) hw hc (by decide) lp ?_)
  rw [oh_0, Nat.or_zero]
  refine v_callSi [_] dX8_riskOf_8 lX8_268 ksX8_bits (plX8 _ _) (Or.inl rfl) rfl rfl rfl rfl rfl rfl (c_X8_bits (by omega) ?_)
  refine v_ireturn dX8_riskOf_11 rfl ?_
  exact hq
set_option maxRecDepth 10000 in
theorem c_X8_isAhead {h g : Int} (hw : CW w) (hc : CP μ w) (hh : 0 ≤ h ∧ h < w (stc w) 0) (hg : 0 ≤ g ∧ g < w (stc w) 0) (hq : Q (I_ (b2i (ahC w h.toNat g.toNat))) μ) : V_ nX8_isAhead 0 [R_ 50, I_ h, I_ g, U_] [] μ Q := by
  have s1 := hw.1.2.1
  have b1 := cntB_le 32 (cfN w (2 ^ h.toNat))
  have b2 := cntB_le 32 (cfN w (2 ^ g.toNat))
  have e1 := hc.1.2.1 h.toNat (by omega)
  have e2 := hc.1.2.1 g.toNat (by omega)
  have d : rkN w h.toNat ≤ 32 ∧ rkN w g.toNat ≤ 32 := ⟨b1, b2⟩
  refine v_aload_n dX8_isAhead_0 rfl rfl ?_
  refine v_iload_n dX8_isAhead_1 rfl rfl ?_
  refine v_callVi [_] dX8_isAhead_2 lX8_326 kvX8_riskOf (plX8 _ _) (Or.inl rfl) rfl rfl rfl rfl rfl rfl rfl rfl rfl (c_X8_riskOf hw hc hh ?_)
  refine v_aload_n dX8_isAhead_5 rfl rfl ?_
  refine v_iload_n dX8_isAhead_6 rfl rfl ?_
  refine v_callVi [_] dX8_isAhead_7 lX8_326 kvX8_riskOf (plX8 _ _) (Or.inl rfl) rfl rfl rfl rfl rfl rfl rfl rfl rfl (c_X8_riskOf hw hc hg ?_)
  refine v_isub dX8_isAhead_10 (fun ha hb => by omega) ?_
  refine v_istore_n (ls' := [_, _, _, _]) dX8_isAhead_11 rfl rfl rfl rfl ?_
  refine v_iload_n dX8_isAhead_12 rfl rfl ?_
  refine v_if_gt (tgt := 55) dX8_isAhead_13 (by decide) (fun hc_13 => ?_) (fun hc_13 => ?_)
  · refine v_iconst dX8_isAhead_55 (by decide) ?_
    refine v_goto (tgt := 60) dX8_isAhead_56 (by decide) ?_
    refine v_zreturn dX8_isAhead_60 rfl (by first | exact Or.inl rfl | exact Or.inr rfl | exact b2i_01 _ | assumption) ?_
    first | rwa [b2i_t (by unfold ahC; omega)] at hq | rwa [b2i_f (by unfold ahC; omega)] at hq
  · refine v_iload_n dX8_isAhead_16 rfl rfl ?_
    refine v_if_ne (tgt := 59) dX8_isAhead_17 (by decide) (fun hc_17 => ?_) (fun hc_17 => ?_)
    · refine v_iconst dX8_isAhead_59 (by decide) ?_
      refine v_zreturn dX8_isAhead_60 rfl (by first | exact Or.inl rfl | exact Or.inr rfl | exact b2i_01 _ | assumption) ?_
      first | rwa [b2i_t (by unfold ahC; omega)] at hq | rwa [b2i_f (by unfold ahC; omega)] at hq
    · refine v_aload_n dX8_isAhead_20 rfl rfl ?_
      refine v_getR dX8_isAhead_21 fX8_29 rfl rfl rfl ?_
      refine v_iload_n dX8_isAhead_24 rfl rfl ?_
      refine v_iald dX8_isAhead_25 rfl (by omega) (by omega) ?_
      rw [e1]
      refine v_aload_n dX8_isAhead_26 rfl rfl ?_
      refine v_getR dX8_isAhead_27 fX8_29 rfl rfl rfl ?_
      refine v_iload_n dX8_isAhead_30 rfl rfl ?_
      refine v_iald dX8_isAhead_31 rfl (by omega) (by omega) ?_
      rw [e2]
      refine v_icmp_lt (tgt := 55) dX8_isAhead_32 (by decide) (fun hc_32 => ?_) (fun hc_32 => ?_)
      · refine v_iconst dX8_isAhead_55 (by decide) ?_
        refine v_goto (tgt := 60) dX8_isAhead_56 (by decide) ?_
        refine v_zreturn dX8_isAhead_60 rfl (by first | exact Or.inl rfl | exact Or.inr rfl | exact b2i_01 _ | assumption) ?_
        first | rwa [b2i_t (by unfold ahC; omega)] at hq | rwa [b2i_f (by unfold ahC; omega)] at hq
      · refine v_aload_n dX8_isAhead_35 rfl rfl ?_
        refine v_getR dX8_isAhead_36 fX8_29 rfl rfl rfl ?_
        refine v_iload_n dX8_isAhead_39 rfl rfl ?_
        refine v_iald dX8_isAhead_40 rfl (by omega) (by omega) ?_
        rw [e1]
        refine v_aload_n dX8_isAhead_41 rfl rfl ?_
        refine v_getR dX8_isAhead_42 fX8_29 rfl rfl rfl ?_
        refine v_iload_n dX8_isAhead_45 rfl rfl ?_
        refine v_iald dX8_isAhead_46 rfl (by omega) (by omega) ?_
        rw [e2]
        refine v_icmp_ne (tgt := 59) dX8_isAhead_47 (by decide) (fun hc_47 => ?_) (fun hc_47 => ?_)
        · refine v_iconst dX8_isAhead_59 (by decide) ?_
          refine v_zreturn dX8_isAhead_60 rfl (by first | exact Or.inl rfl | exact Or.inr rfl | exact b2i_01 _ | assumption) ?_
          first | rwa [b2i_t (by unfold ahC; omega)] at hq | rwa [b2i_f (by unfold ahC; omega)] at hq
        · refine v_iload_n dX8_isAhead_50 rfl rfl ?_
          refine v_iload_n dX8_isAhead_51 rfl rfl ?_
          refine v_icmp_ge (tgt := 59) dX8_isAhead_52 (by decide) (fun hc_52 => ?_) (fun hc_52 => ?_)
          · refine v_iconst dX8_isAhead_59 (by decide) ?_
            refine v_zreturn dX8_isAhead_60 rfl (by first | exact Or.inl rfl | exact Or.inr rfl | exact b2i_01 _ | assumption) ?_
            first | rwa [b2i_t (by unfold ahC; omega)] at hq | rwa [b2i_f (by unfold ahC; omega)] at hq
          · refine v_iconst dX8_isAhead_55 (by decide) ?_
            refine v_goto (tgt := 60) dX8_isAhead_56 (by decide) ?_
            refine v_zreturn dX8_isAhead_60 rfl (by first | exact Or.inl rfl | exact Or.inr rfl | exact b2i_01 _ | assumption) ?_
            first | rwa [b2i_t (by unfold ahC; omega)] at hq | rwa [b2i_f (by unfold ahC; omega)] at hq
end
