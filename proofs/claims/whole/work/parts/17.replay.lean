/-! Present: what changes; sets of houses by bits -/
def sb (s t : Nat) : Prop := ∀ i, s.testBit i = true → t.testBit i = true
def cld (E : Nat → Nat) (t : Nat) : Prop := ∀ a, a < 6 → t.testBit a = true → sb (E a) t
/-- r is the least set with s that E leads nowhere out of -/
def clo (E : Nat → Nat) (s r : Nat) : Prop := sb s r ∧ cld E r ∧ ∀ t, sb s t → cld E t → sb r t
theorem sb_rf (s : Nat) : sb s s := fun _ h => h
theorem sb_tr {a b c : Nat} (h1 : sb a b) (h2 : sb b c) : sb a c := fun i h => h2 i (h1 i h)
theorem sb_or {a b c : Nat} (h1 : sb a c) (h2 : sb b c) : sb (a ||| b) c := fun i h => by
  rw [Nat.testBit_or, Bool.or_eq_true] at h
  rcases h with h | h
  · exact h1 i h
  · exact h2 i h
theorem sb_l (a b : Nat) : sb a (a ||| b) := fun i h => by rw [Nat.testBit_or, h]; rfl
theorem sb_r (a b : Nat) : sb b (a ||| b) := fun i h => by rw [Nat.testBit_or, h, Bool.or_true]
theorem sb_0 (a : Nat) : sb 0 a := fun i h => by simp at h
theorem sb_eq {a b : Nat} (h1 : sb a b) (h2 : sb b a) : a = b := by
  apply Nat.eq_of_testBit_eq
  intro i
  cases ha : a.testBit i with
  | true => exact (h1 i ha).symm
  | false =>
    cases hb : b.testBit i with
    | true => rw [h2 i hb] at ha; cases ha
    | false => rfl
theorem sb_pow {k s : Nat} : sb (2 ^ k) s ↔ s.testBit k = true := by
  constructor
  · exact fun h => h k (by rw [Nat.testBit_two_pow_self])
  · intro h i hi
    rw [Nat.testBit_two_pow] at hi
    have : k = i := by simpa using hi
    rw [← this]; exact h
theorem sb_orR {n : Nat} {f : Nat → Nat} {s : Nat} : sb (orR n f) s ↔ ∀ k, k < n → sb (f k) s := by
  constructor
  · exact fun h k hk i hi => h i (orR_bit.mpr ⟨k, hk, hi⟩)
  · intro h i hi
    obtain ⟨k, hk, h2⟩ := orR_bit.mp hi
    exact h k hk i h2
theorem bit_lt {s m i : Nat} (h : s < 2 ^ m) (hi : s.testBit i = true) : i < m := by
  rcases Nat.lt_or_ge i m with q | q
  · exact q
  · rw [Nat.testBit_lt_two_pow (Nat.lt_of_lt_of_le h (Nat.pow_le_pow_right (by omega) q))] at hi
    cases hi
theorem clo_u {E : Nat → Nat} {s r r' : Nat} (h : clo E s r) (h' : clo E s r') : r = r' := sb_eq (h.2.2 r' h'.1 h'.2.1) (h'.2.2 r h.1 h.2.1)
/-- one more middle of Warshall's way -/
def fwS (r : Nat → Nat) (mid h : Nat) : Nat := if (r h).testBit mid = true then r h ||| r mid else r h
def fwJ (E : Nat → Nat) (mid : Nat) (r : Nat → Nat) : Prop := (∀ h, h < 6 → r h < 2 ^ 6 ∧ (r h).testBit h = true ∧ sb (E h) (r h)) ∧ (∀ h, h < 6 → ∀ t, t.testBit h = true → cld E t → sb (r h) t) ∧ ∀ h, h < 6 → ∀ a, a < mid → (r h).testBit a = true → sb (r a) (r h)
theorem fwJ_step {E : Nat → Nat} {mid : Nat} {r : Nat → Nat} (hm : mid < 6) (hJ : fwJ E mid r) : fwJ E (mid + 1) (fwS r mid) := by
  obtain ⟨h1, h2, h3⟩ := hJ
  have sub : ∀ h, sb (r h) (fwS r mid h) := by
    intro h
    unfold fwS
    split
    · exact sb_l _ _
    · exact sb_rf _
  have up : ∀ h s, sb (r h) s → ((r h).testBit mid = true → sb (r mid) s) → sb (fwS r mid h) s := by
    intro h s q1 q2
    unfold fwS
    split
    · rename_i q; exact sb_or q1 (q2 q)
    · exact q1
  have sm : ∀ h, (r h).testBit mid = true → sb (r mid) (fwS r mid h) := by
    intro h q
    unfold fwS
    rw [if_pos q]
    exact sb_r _ _
  refine ⟨fun h hh => ⟨?_, sub h _ (h1 h hh).2.1, sb_tr (h1 h hh).2.2 (sub h)⟩, fun h hh t ht hc => up h t (h2 h hh t ht hc) (fun q => h2 mid hm t (h2 h hh t ht hc mid q) hc), fun h hh a ha hb => ?_⟩
  · unfold fwS
    split
    · exact Nat.or_lt_two_pow (h1 h hh).1 (h1 mid hm).1
    · exact (h1 h hh).1
  · have hb' : (r h).testBit a = true ∨ ((r h).testBit mid = true ∧ (r mid).testBit a = true) := by
      unfold fwS at hb
      split at hb
      · rename_i q
        rw [Nat.testBit_or, Bool.or_eq_true] at hb
        rcases hb with hb | hb
        · exact Or.inl hb
        · exact Or.inr ⟨q, hb⟩
      · exact Or.inl hb
    rcases Nat.lt_or_ge a mid with q | q
    · rcases hb' with q2 | ⟨q2, q3⟩
      · have e := h3 h hh a q q2
        exact up a _ (sb_tr e (sub h)) (fun q4 => sm h (e mid q4))
      · exact up a _ (sb_tr (h3 mid hm a q q3) (sm h q2)) (fun _ => sm h q2)
    · have : a = mid := by omega
      subst this
      have q2 : (r h).testBit a = true := by
        rcases hb' with q2 | ⟨q2, _⟩ <;> exact q2
      exact up a _ (sm h q2) (fun _ => sm h q2)
theorem fwJ_end {E : Nat → Nat} {r : Nat → Nat} (hJ : fwJ E 6 r) (hE : ∀ h, h < 6 → E h < 2 ^ 6) : ∀ h, h < 6 → clo E (2 ^ h) (r h) := by
  intro h hh
  refine ⟨sb_pow.mpr (hJ.1 h hh).2.1, fun a ha hb => sb_tr (hJ.1 a ha).2.2 (hJ.2.2 h hh a ha hb), fun t ht hc => hJ.2.1 h hh t (sb_pow.mp ht) hc⟩
def insC (μ : Mem_) (a : Nat) : Nat := opensC μ 2 a
theorem opF_lt {μ : Mem_} (hp : PIc μ) {place holder : Int} {k : Nat} (hk : k < (μ 17 0).toNat) : opF μ place holder k < 2 ^ 6 := by
  have := hp.2 k (by omega)
  unfold opF
  split
  · exact Nat.pow_lt_pow_right (by omega) (by omega)
  · decide
theorem opens_lt {μ : Mem_} (hp : PIc μ) (place holder : Int) : opensC μ place holder < 2 ^ 6 := orR_lt (fun k hk => opF_lt hp hk)
theorem opensC_congr {μ μ' : Mem_} (h : ∀ o, o ≠ 25 → ∀ i, μ' o i = μ o i) (place holder : Int) : opensC μ' place holder = opensC μ place holder := by
  unfold opensC
  rw [h 17 (by decide)]
  apply orR_congr
  intro k _
  unfold opF liveC
  rw [h 20 (by decide), h 21 (by decide), h 19 (by decide), h 18 (by decide), h 23 (by decide)]
theorem PIc_congr {μ μ' : Mem_} (h : ∀ o, o ≠ 25 → ∀ i, μ' o i = μ o i) (hp : PIc μ) : PIc μ' := by
  unfold PIc at hp ⊢
  simp only [h 17 (by decide), h 18 (by decide), h 20 (by decide), h 21 (by decide), h 22 (by decide)]
  exact hp
def ReOK (μ : Mem_) : Prop := ∀ h : Nat, h < 6 → (0 ≤ μ 25 h ∧ μ 25 h < 64) ∧ clo (insC μ) (2 ^ h) (2 ^ h ||| (μ 25 h).toNat)
section
variable {μ : Mem_} {Q : PV → Mem_ → Prop}
set_option maxRecDepth 10000 in
theorem lpi_settle {mid : Int} {r : Nat → Nat} (hm : 0 ≤ mid ∧ mid < 6) (hr : ∀ h, h < 6 → r h < 2 ^ 6) (hQ : ∀ μ' : Mem_, (∀ o, o ≠ 25 → ∀ i, μ' o i = μ o i) → (∀ h, h < 6 → μ' 25 h = (fwS r mid.toNat h : Int)) → V_ nX2_settleReach 80 [R_ 17, I_ mid, U_] [] μ' Q) :
    ∀ k : Int, 0 ≤ k → k ≤ 6 → ∀ μ' : Mem_, (∀ o, o ≠ 25 → ∀ i, μ' o i = μ o i) → (∀ h : Nat, h < 6 → μ' 25 h = ((if (h : Int) < k then fwS r mid.toNat h else r h : Nat) : Int)) → V_ nX2_settleReach 40 [R_ 17, I_ mid, I_ k] [] μ' Q := by
  refine loop_up _ (fun k h0 h1 ih => ?_)
  intro μ' hf hv
  have hvm : μ' 25 mid.toNat = (r mid.toNat : Int) := by
    rw [hv _ (by omega)]
    split
    · unfold fwS
      split
      · rw [Nat.or_self]
      · rfl
    · rfl
  have hrm := hr mid.toNat (by omega)
  have hvk : k < 6 → μ' 25 k.toNat = (r k.toNat : Int) := fun hk => by rw [hv _ (by omega), if_neg (by omega)]
  have hrk : k < 6 → r k.toNat < 2 ^ 6 := fun hk => hr k.toNat (by omega)
  refine v_iload_n dX2_settleReach_40 rfl rfl ?_
  refine v_bipush dX2_settleReach_41 (by decide) ?_
  refine v_icmp_ge (tgt := 80) dX2_settleReach_43 (by decide) (fun hc_43 => ?_) (fun hc_43 => ?_)
  · refine v_kill (ls' := [_, _, _]) 2 rfl ?_
    refine hQ μ' hf (fun h hh => ?_)
    rw [hv h hh, if_pos (by omega)]
  · refine v_aload_n dX2_settleReach_46 rfl rfl ?_
    refine v_getR dX2_settleReach_47 fX2_33 rfl rfl rfl ?_
    refine v_iload_n dX2_settleReach_50 rfl rfl ?_
    refine v_iald dX2_settleReach_51 rfl (by omega) (by omega) ?_
    rw [hvk (by omega)]
    refine v_iload_n dX2_settleReach_52 rfl rfl ?_
    refine v_callNi [_, _] dX2_settleReach_53 lnX2_99 ksX7_has (plX7 _ _) (Or.inr rfl) rfl rfl rfl rfl rfl rfl (c_X7_has (by omega) (by omega) (by omega) ?_)
    refine v_ifb_eq (tgt := 74) dX2_settleReach_56 (by decide) (fun hc_56 => ?_) (fun hc_56 => ?_)
    · refine v_iinc (ls' := [_, _, _]) dX2_settleReach_74 rfl (fun hi_74 => by omega) rfl rfl ?_
      refine v_goto (tgt := 40) dX2_settleReach_77 (by decide) ?_
      refine ih (by omega) _ hf (fun h hh => ?_)
      rw [hv h hh]
      by_cases hq : (h : Int) < k
      · rw [if_pos hq, if_pos (by omega)]
      · rw [if_neg hq]
        by_cases hq2 : (h : Int) < k + 1
        · rw [if_pos hq2]
          have : h = k.toNat := by omega
          subst this
          unfold fwS
          rw [if_neg (by simpa using hc_56)]
        · rw [if_neg hq2]
    · refine v_aload_n dX2_settleReach_59 rfl rfl ?_
      refine v_getR dX2_settleReach_60 fX2_33 rfl rfl rfl ?_
      refine v_iload_n dX2_settleReach_63 rfl rfl ?_
      refine v_dup2 dX2_settleReach_64 ?_
      refine v_iald dX2_settleReach_65 rfl (by omega) (by omega) ?_
      rw [hvk (by omega)]
      refine v_aload_n dX2_settleReach_66 rfl rfl ?_
      refine v_getR dX2_settleReach_67 fX2_33 rfl rfl rfl ?_
      refine v_iload_n dX2_settleReach_70 rfl rfl ?_
      refine v_iald dX2_settleReach_71 rfl (by omega) (by omega) ?_
      rw [hvm]
      refine v_ior dX2_settleReach_72 ?_
      rw [bOr_nat (Nat.lt_of_lt_of_le (hrk (by omega)) (by decide)) (Nat.lt_of_lt_of_le hrm (by decide))]
      refine v_iast dX2_settleReach_73 rfl (by omega) (by omega) ?_
      refine v_iinc (ls' := [_, _, _]) dX2_settleReach_74 rfl (fun hi_74 => by omega) rfl rfl ?_
      refine v_goto (tgt := 40) dX2_settleReach_77 (by decide) ?_
      refine ih (by omega) _ (fun o ho i => by rw [mset_off (fun q => ho q.1)]; exact hf o ho i) (fun h hh => ?_)
      by_cases hq2 : h = k.toNat
      · subst hq2
        rw [mset_same, if_pos (by omega)]
        unfold fwS
        rw [if_pos (by simpa using hc_56)]
      · rw [mset_off (fun q => hq2 q.2), hv h hh]
        by_cases hq : (h : Int) < k
        · rw [if_pos hq, if_pos (by omega)]
        · rw [if_neg hq, if_neg (by omega)]
set_option maxRecDepth 10000 in
theorem c_X2_settleReach (hp : PIc μ) (hQ : ∀ μ' : Mem_, (∀ o, o ≠ 25 → ∀ i, μ' o i = μ o i) → ReOK μ' → Q U_ μ') : V_ nX2_settleReach 0 [R_ 17, U_, U_] [] μ Q := by
  have hE : ∀ h, h < 6 → insC μ h < 2 ^ 6 := fun h _ => opens_lt hp 2 h
  have lp2 : ∀ mid : Int, 0 ≤ mid → mid ≤ 6 → ∀ (μ' : Mem_) (r : Nat → Nat), (∀ o, o ≠ 25 → ∀ i, μ' o i = μ o i) → (∀ h : Nat, h < 6 → μ' 25 h = (r h : Int)) → fwJ (insC μ) mid.toNat r → V_ nX2_settleReach 32 [R_ 17, I_ mid, U_] [] μ' Q := by
    refine loop_up _ (fun mid h0 h1 ih => ?_)
    intro μ' r hf hv hJ
    refine v_iload_n dX2_settleReach_32 rfl rfl ?_
    refine v_bipush dX2_settleReach_33 (by decide) ?_
    refine v_icmp_ge (tgt := 86) dX2_settleReach_35 (by decide) (fun hc_35 => ?_) (fun hc_35 => ?_)
    · refine v_return dX2_settleReach_86 rfl ?_
      rw [show mid.toNat = 6 by omega] at hJ
      refine hQ μ' hf (fun h hh => ?_)
      have e := (hJ.1 h hh).1
      have e2 : insC μ' = insC μ := by funext a; exact opensC_congr hf 2 a
      rw [hv h hh, e2]
      have e3 : 2 ^ h ||| r h = r h := sb_eq (sb_or (sb_pow.mpr (hJ.1 h hh).2.1) (sb_rf _)) (sb_r _ _)
      exact ⟨by omega, by rw [Int.toNat_natCast, e3]; exact fwJ_end hJ hE h hh⟩
    · refine v_iconst dX2_settleReach_38 (by decide) ?_
      refine v_istore_n (ls' := [_, _, _]) dX2_settleReach_39 rfl rfl rfl rfl ?_
      refine lpi_settle (r := r) (by omega) (fun h hh => (hJ.1 h hh).1) (fun μ2 hf2 hv2 => ?_) 0 (by omega) (by omega) μ' (fun _ _ _ => rfl) (fun h hh => by rw [if_neg (by omega)]; exact hv h hh)
      refine v_iinc (ls' := [_, _, _]) dX2_settleReach_80 rfl (fun hi_80 => by omega) rfl rfl ?_
      refine v_goto (tgt := 32) dX2_settleReach_83 (by decide) ?_
      refine ih (by omega) μ2 (fwS r mid.toNat) (fun o ho i => by rw [hf2 o ho i]; exact hf o ho i) hv2 ?_
      rw [show (mid + 1).toNat = mid.toNat + 1 by omega]
      exact fwJ_step (by omega) hJ
  have lp1 : ∀ k : Int, 0 ≤ k → k ≤ 6 → ∀ μ' : Mem_, (∀ o, o ≠ 25 → ∀ i, μ' o i = μ o i) → (∀ h : Nat, (h : Int) < k → μ' 25 h = ((2 ^ h ||| insC μ h : Nat) : Int)) → V_ nX2_settleReach 2 [R_ 17, I_ k, U_] [] μ' Q := by
    refine loop_up _ (fun k h0 h1 ih => ?_)
    intro μ' hf hv
    have hp' := PIc_congr hf hp
    have e1 : opensC μ' 2 k = insC μ k.toNat := by
      rw [opensC_congr hf]
      unfold insC
      rw [show ((k.toNat : Nat) : Int) = k by omega]
    refine v_iload_n dX2_settleReach_2 rfl rfl ?_
    refine v_bipush dX2_settleReach_3 (by decide) ?_
    refine v_icmp_ge (tgt := 30) dX2_settleReach_5 (by decide) (fun hc_5 => ?_) (fun hc_5 => ?_)
    · refine v_iconst dX2_settleReach_30 (by decide) ?_
      refine v_istore_n (ls' := [_, _, _]) dX2_settleReach_31 rfl rfl rfl rfl ?_
      refine lp2 0 (by omega) (by omega) μ' (fun h => 2 ^ h ||| insC μ h) hf (fun h hh => hv h (by omega)) ⟨fun h hh => ⟨Nat.or_lt_two_pow (Nat.pow_lt_pow_right (by omega) hh) (hE h hh), sb_l _ _ h (by rw [Nat.testBit_two_pow_self]), sb_r _ _⟩, fun h hh t ht hc => sb_or (sb_pow.mpr ht) (hc h hh ht), fun h hh a ha => absurd ha (by omega)⟩
    · refine v_aload_n dX2_settleReach_8 rfl rfl ?_
      refine v_getR dX2_settleReach_9 fX2_33 rfl rfl rfl ?_
      refine v_iload_n dX2_settleReach_12 rfl rfl ?_
      refine v_iconst dX2_settleReach_13 (by decide) ?_
      refine v_iload_n dX2_settleReach_14 rfl rfl ?_
      refine v_ishl dX2_settleReach_15 ?_
      rw [bShl_one (by omega) (by omega)]
      refine v_aload_n dX2_settleReach_16 rfl rfl ?_
      refine v_iconst dX2_settleReach_17 (by decide) ?_
      refine v_iload_n dX2_settleReach_18 rfl rfl ?_
      refine v_callVi [_, _] dX2_settleReach_19 lX2_96 kvX2_opens (plX2 _ _) (Or.inl rfl) rfl rfl rfl rfl rfl rfl rfl rfl rfl (c_X2_opens hp' ?_)
      rw [e1]
      refine v_ior dX2_settleReach_22 ?_
      rw [bOr_nat (pow2_31 (by omega)) (Nat.lt_of_lt_of_le (hE k.toNat (by omega)) (by decide))]
      refine v_iast dX2_settleReach_23 rfl (by omega) (by omega) ?_
      refine v_iinc (ls' := [_, _, _]) dX2_settleReach_24 rfl (fun hi_24 => by omega) rfl rfl ?_
      refine v_goto (tgt := 2) dX2_settleReach_27 (by decide) ?_
      refine ih (by omega) _ (fun o ho i => by rw [mset_off (fun q => ho q.1)]; exact hf o ho i) (fun h hh => ?_)
      by_cases hq : h = k.toNat
      · subst hq
        rw [mset_same]
      · rw [mset_off (fun q => hq q.2)]
        exact hv h (by omega)
  refine v_iconst dX2_settleReach_0 (by decide) ?_
  refine v_istore_n (ls' := [_, _, _]) dX2_settleReach_1 rfl rfl rfl rfl ?_
  exact lp1 0 (by omega) (by omega) μ (fun _ _ _ => rfl) (fun h hh => absurd hh (by omega))
end
