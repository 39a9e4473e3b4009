/-! the model: rows and findings -/
def mtC (μ : Mem_) (f : Nat) : Mem_ := mset (mset μ 50 0 (f : Int)) 51 f (μ 51 f + 1)
def mtT (μ : Mem_) (v : Int) : Mem_ := mset μ 50 2 v
abbrev fmOK (μ : Mem_) : Prop := ∀ f : Nat, f < 6 → 0 ≤ μ 51 f ∧ μ 51 f ≤ 1000
abbrev okR_ (μ : Mem_) : Prop := ∀ r : Nat, r < 6 → -1 ≤ μ 52 r ∧ μ 52 r ≤ 40
section
variable {μ : Mem_} {Q : PV → Mem_ → Prop}
set_option maxHeartbeats 1000000 in
theorem c_X8_kindOf {c : Int} (h : Q (I_ (kdN c)) μ) : V_ nX8_kindOf 0 [I_ c] [] μ Q := by
  unfold kdN at h
  refine v_iload_n dX8_kindOf_0 rfl rfl ?_
  rcases (show c < 99 ∨ 120 < c ∨ c = 99 ∨ c = 100 ∨ c = 101 ∨ c = 102 ∨ c = 103 ∨ c = 104 ∨ c = 105 ∨ c = 106 ∨ c = 107 ∨ c = 108 ∨ c = 109 ∨ c = 110 ∨ c = 111 ∨ c = 112 ∨ c = 113 ∨ c = 114 ∨ c = 115 ∨ c = 116 ∨ c = 117 ∨ c = 118 ∨ c = 119 ∨ c = 120 by omega) with hsw | hsw | hsw | hsw | hsw | hsw | hsw | hsw | hsw | hsw | hsw | hsw | hsw | hsw | hsw | hsw | hsw | hsw | hsw | hsw | hsw | hsw | hsw | hsw
  · refine v_tableOut (tgt := 123) dX8_kindOf_1 (Or.inl hsw) (by decide) ?_
    refine v_iconst dX8_kindOf_123 (by decide) ?_
    refine v_ireturn dX8_kindOf_124 rfl ?_
    first | (subst hsw; exact h) | (rw [if_neg (by omega), if_neg (by omega), if_neg (by omega), if_neg (by omega), if_neg (by omega), if_neg (by omega), if_neg (by omega)] at h; exact h)
  · refine v_tableOut (tgt := 123) dX8_kindOf_1 (Or.inr hsw) (by decide) ?_
    refine v_iconst dX8_kindOf_123 (by decide) ?_
    refine v_ireturn dX8_kindOf_124 rfl ?_
    first | (subst hsw; exact h) | (rw [if_neg (by omega), if_neg (by omega), if_neg (by omega), if_neg (by omega), if_neg (by omega), if_neg (by omega), if_neg (by omega)] at h; exact h)
  · refine v_tableIn (off := 105) (tgt := 106) dX8_kindOf_1 (by rw [hsw]; decide) (by rw [hsw]; decide) (by rw [hsw]; decide) (by decide) ?_
    refine v_iconst dX8_kindOf_106 (by decide) ?_
    refine v_ireturn dX8_kindOf_107 rfl ?_
    first | (subst hsw; exact h) | (rw [if_neg (by omega), if_neg (by omega), if_neg (by omega), if_neg (by omega), if_neg (by omega), if_neg (by omega), if_neg (by omega)] at h; exact h)
  · refine v_tableIn (off := 122) (tgt := 123) dX8_kindOf_1 (by rw [hsw]; decide) (by rw [hsw]; decide) (by rw [hsw]; decide) (by decide) ?_
    refine v_iconst dX8_kindOf_123 (by decide) ?_
    refine v_ireturn dX8_kindOf_124 rfl ?_
    first | (subst hsw; exact h) | (rw [if_neg (by omega), if_neg (by omega), if_neg (by omega), if_neg (by omega), if_neg (by omega), if_neg (by omega), if_neg (by omega)] at h; exact h)
  · refine v_tableIn (off := 122) (tgt := 123) dX8_kindOf_1 (by rw [hsw]; decide) (by rw [hsw]; decide) (by rw [hsw]; decide) (by decide) ?_
    refine v_iconst dX8_kindOf_123 (by decide) ?_
    refine v_ireturn dX8_kindOf_124 rfl ?_
    first | (subst hsw; exact h) | (rw [if_neg (by omega), if_neg (by omega), if_neg (by omega), if_neg (by omega), if_neg (by omega), if_neg (by omega), if_neg (by omega)] at h; exact h)
  · refine v_tableIn (off := 119) (tgt := 120) dX8_kindOf_1 (by rw [hsw]; decide) (by rw [hsw]; decide) (by rw [hsw]; decide) (by decide) ?_
    refine v_bipush dX8_kindOf_120 (by decide) ?_
    refine v_ireturn dX8_kindOf_122 rfl ?_
    first | (subst hsw; exact h) | (rw [if_neg (by omega), if_neg (by omega), if_neg (by omega), if_neg (by omega), if_neg (by omega), if_neg (by omega), if_neg (by omega)] at h; exact h)
  · refine v_tableIn (off := 107) (tgt := 108) dX8_kindOf_1 (by rw [hsw]; decide) (by rw [hsw]; decide) (by rw [hsw]; decide) (by decide) ?_
    refine v_iconst dX8_kindOf_108 (by decide) ?_
    refine v_ireturn dX8_kindOf_109 rfl ?_
    first | (subst hsw; exact h) | (rw [if_neg (by omega), if_neg (by omega), if_neg (by omega), if_neg (by omega), if_neg (by omega), if_neg (by omega), if_neg (by omega)] at h; exact h)
  · refine v_tableIn (off := 122) (tgt := 123) dX8_kindOf_1 (by rw [hsw]; decide) (by rw [hsw]; decide) (by rw [hsw]; decide) (by decide) ?_
    refine v_iconst dX8_kindOf_123 (by decide) ?_
    refine v_ireturn dX8_kindOf_124 rfl ?_
    first | (subst hsw; exact h) | (rw [if_neg (by omega), if_neg (by omega), if_neg (by omega), if_neg (by omega), if_neg (by omega), if_neg (by omega), if_neg (by omega)] at h; exact h)
  · refine v_tableIn (off := 111) (tgt := 112) dX8_kindOf_1 (by rw [hsw]; decide) (by rw [hsw]; decide) (by rw [hsw]; decide) (by decide) ?_
    refine v_iconst dX8_kindOf_112 (by decide) ?_
    refine v_ireturn dX8_kindOf_113 rfl ?_
    first | (subst hsw; exact h) | (rw [if_neg (by omega), if_neg (by omega), if_neg (by omega), if_neg (by omega), if_neg (by omega), if_neg (by omega), if_neg (by omega)] at h; exact h)
  · refine v_tableIn (off := 122) (tgt := 123) dX8_kindOf_1 (by rw [hsw]; decide) (by rw [hsw]; decide) (by rw [hsw]; decide) (by decide) ?_
    refine v_iconst dX8_kindOf_123 (by decide) ?_
    refine v_ireturn dX8_kindOf_124 rfl ?_
    first | (subst hsw; exact h) | (rw [if_neg (by omega), if_neg (by omega), if_neg (by omega), if_neg (by omega), if_neg (by omega), if_neg (by omega), if_neg (by omega)] at h; exact h)
  · refine v_tableIn (off := 122) (tgt := 123) dX8_kindOf_1 (by rw [hsw]; decide) (by rw [hsw]; decide) (by rw [hsw]; decide) (by decide) ?_
    refine v_iconst dX8_kindOf_123 (by decide) ?_
    refine v_ireturn dX8_kindOf_124 rfl ?_
    first | (subst hsw; exact h) | (rw [if_neg (by omega), if_neg (by omega), if_neg (by omega), if_neg (by omega), if_neg (by omega), if_neg (by omega), if_neg (by omega)] at h; exact h)
  · refine v_tableIn (off := 109) (tgt := 110) dX8_kindOf_1 (by rw [hsw]; decide) (by rw [hsw]; decide) (by rw [hsw]; decide) (by decide) ?_
    refine v_iconst dX8_kindOf_110 (by decide) ?_
    refine v_ireturn dX8_kindOf_111 rfl ?_
    first | (subst hsw; exact h) | (rw [if_neg (by omega), if_neg (by omega), if_neg (by omega), if_neg (by omega), if_neg (by omega), if_neg (by omega), if_neg (by omega)] at h; exact h)
  · refine v_tableIn (off := 103) (tgt := 104) dX8_kindOf_1 (by rw [hsw]; decide) (by rw [hsw]; decide) (by rw [hsw]; decide) (by decide) ?_
    refine v_iconst dX8_kindOf_104 (by decide) ?_
    refine v_ireturn dX8_kindOf_105 rfl ?_
    first | (subst hsw; exact h) | (rw [if_neg (by omega), if_neg (by omega), if_neg (by omega), if_neg (by omega), if_neg (by omega), if_neg (by omega), if_neg (by omega)] at h; exact h)
  · refine v_tableIn (off := 122) (tgt := 123) dX8_kindOf_1 (by rw [hsw]; decide) (by rw [hsw]; decide) (by rw [hsw]; decide) (by decide) ?_
    refine v_iconst dX8_kindOf_123 (by decide) ?_
    refine v_ireturn dX8_kindOf_124 rfl ?_
    first | (subst hsw; exact h) | (rw [if_neg (by omega), if_neg (by omega), if_neg (by omega), if_neg (by omega), if_neg (by omega), if_neg (by omega), if_neg (by omega)] at h; exact h)
  · refine v_tableIn (off := 122) (tgt := 123) dX8_kindOf_1 (by rw [hsw]; decide) (by rw [hsw]; decide) (by rw [hsw]; decide) (by decide) ?_
    refine v_iconst dX8_kindOf_123 (by decide) ?_
    refine v_ireturn dX8_kindOf_124 rfl ?_
    first | (subst hsw; exact h) | (rw [if_neg (by omega), if_neg (by omega), if_neg (by omega), if_neg (by omega), if_neg (by omega), if_neg (by omega), if_neg (by omega)] at h; exact h)
  · refine v_tableIn (off := 122) (tgt := 123) dX8_kindOf_1 (by rw [hsw]; decide) (by rw [hsw]; decide) (by rw [hsw]; decide) (by decide) ?_
    refine v_iconst dX8_kindOf_123 (by decide) ?_
    refine v_ireturn dX8_kindOf_124 rfl ?_
    first | (subst hsw; exact h) | (rw [if_neg (by omega), if_neg (by omega), if_neg (by omega), if_neg (by omega), if_neg (by omega), if_neg (by omega), if_neg (by omega)] at h; exact h)
  · refine v_tableIn (off := 116) (tgt := 117) dX8_kindOf_1 (by rw [hsw]; decide) (by rw [hsw]; decide) (by rw [hsw]; decide) (by decide) ?_
    refine v_bipush dX8_kindOf_117 (by decide) ?_
    refine v_ireturn dX8_kindOf_119 rfl ?_
    first | (subst hsw; exact h) | (rw [if_neg (by omega), if_neg (by omega), if_neg (by omega), if_neg (by omega), if_neg (by omega), if_neg (by omega), if_neg (by omega)] at h; exact h)
  · refine v_tableIn (off := 122) (tgt := 123) dX8_kindOf_1 (by rw [hsw]; decide) (by rw [hsw]; decide) (by rw [hsw]; decide) (by decide) ?_
    refine v_iconst dX8_kindOf_123 (by decide) ?_
    refine v_ireturn dX8_kindOf_124 rfl ?_
    first | (subst hsw; exact h) | (rw [if_neg (by omega), if_neg (by omega), if_neg (by omega), if_neg (by omega), if_neg (by omega), if_neg (by omega), if_neg (by omega)] at h; exact h)
  · refine v_tableIn (off := 122) (tgt := 123) dX8_kindOf_1 (by rw [hsw]; decide) (by rw [hsw]; decide) (by rw [hsw]; decide) (by decide) ?_
    refine v_iconst dX8_kindOf_123 (by decide) ?_
    refine v_ireturn dX8_kindOf_124 rfl ?_
    first | (subst hsw; exact h) | (rw [if_neg (by omega), if_neg (by omega), if_neg (by omega), if_neg (by omega), if_neg (by omega), if_neg (by omega), if_neg (by omega)] at h; exact h)
  · refine v_tableIn (off := 122) (tgt := 123) dX8_kindOf_1 (by rw [hsw]; decide) (by rw [hsw]; decide) (by rw [hsw]; decide) (by decide) ?_
    refine v_iconst dX8_kindOf_123 (by decide) ?_
    refine v_ireturn dX8_kindOf_124 rfl ?_
    first | (subst hsw; exact h) | (rw [if_neg (by omega), if_neg (by omega), if_neg (by omega), if_neg (by omega), if_neg (by omega), if_neg (by omega), if_neg (by omega)] at h; exact h)
  · refine v_tableIn (off := 122) (tgt := 123) dX8_kindOf_1 (by rw [hsw]; decide) (by rw [hsw]; decide) (by rw [hsw]; decide) (by decide) ?_
    refine v_iconst dX8_kindOf_123 (by decide) ?_
    refine v_ireturn dX8_kindOf_124 rfl ?_
    first | (subst hsw; exact h) | (rw [if_neg (by omega), if_neg (by omega), if_neg (by omega), if_neg (by omega), if_neg (by omega), if_neg (by omega), if_neg (by omega)] at h; exact h)
  · refine v_tableIn (off := 122) (tgt := 123) dX8_kindOf_1 (by rw [hsw]; decide) (by rw [hsw]; decide) (by rw [hsw]; decide) (by decide) ?_
    refine v_iconst dX8_kindOf_123 (by decide) ?_
    refine v_ireturn dX8_kindOf_124 rfl ?_
    first | (subst hsw; exact h) | (rw [if_neg (by omega), if_neg (by omega), if_neg (by omega), if_neg (by omega), if_neg (by omega), if_neg (by omega), if_neg (by omega)] at h; exact h)
  · refine v_tableIn (off := 122) (tgt := 123) dX8_kindOf_1 (by rw [hsw]; decide) (by rw [hsw]; decide) (by rw [hsw]; decide) (by decide) ?_
    refine v_iconst dX8_kindOf_123 (by decide) ?_
    refine v_ireturn dX8_kindOf_124 rfl ?_
    first | (subst hsw; exact h) | (rw [if_neg (by omega), if_neg (by omega), if_neg (by omega), if_neg (by omega), if_neg (by omega), if_neg (by omega), if_neg (by omega)] at h; exact h)
  · refine v_tableIn (off := 113) (tgt := 114) dX8_kindOf_1 (by rw [hsw]; decide) (by rw [hsw]; decide) (by rw [hsw]; decide) (by decide) ?_
    refine v_bipush dX8_kindOf_114 (by decide) ?_
    refine v_ireturn dX8_kindOf_116 rfl ?_
    first | (subst hsw; exact h) | (rw [if_neg (by omega), if_neg (by omega), if_neg (by omega), if_neg (by omega), if_neg (by omega), if_neg (by omega), if_neg (by omega)] at h; exact h)
theorem c_X8_meets {f : Int} {g : Nat} (hg : f = (g : Int)) (h6 : g < 6) (hc : fmOK μ) (h : Q (I_ (-3)) (mtC μ g)) : V_ nX8_meets 0 [R_ 50, I_ f] [] μ Q := by
  subst hg
  have := hc g h6
  unfold mtC at h
  refine v_aload_n dX8_meets_0 rfl rfl ?_
  refine v_iload_n dX8_meets_1 rfl rfl ?_
  refine v_putI dX8_meets_2 fpX8_108 rfl rfl rfl ?_
  refine v_aload_n dX8_meets_5 rfl rfl ?_
  refine v_getR dX8_meets_6 fX8_7 rfl rfl rfl ?_
  refine v_iload_n dX8_meets_9 rfl rfl ?_
  refine v_dup2 dX8_meets_10 ?_
  refine v_iald dX8_meets_11 rfl (by omega) (by omega) ?_
  rw [Int.toNat_natCast, mset_off (by omega)]
  refine v_iconst dX8_meets_12 (by decide) ?_
  refine v_iadd dX8_meets_13 (fun ha hb => by omega) ?_
  refine v_iast dX8_meets_14 rfl (by omega) (by omega) ?_
  refine v_bipush dX8_meets_15 (by decide) ?_
  refine v_ireturn dX8_meets_17 rfl ?_
  rw [Int.toNat_natCast]
  exact h
theorem c_X8_tells {v w : Int} (h : Q (I_ w) (mtT μ v)) : V_ nX8_tells 0 [R_ 50, I_ v, I_ w] [] μ Q := by
  refine v_aload_n dX8_tells_0 rfl rfl ?_
  refine v_iload_n dX8_tells_1 rfl rfl ?_
  refine v_putI dX8_tells_2 fpX8_116 rfl rfl rfl ?_
  refine v_iload_n dX8_tells_5 rfl rfl ?_
  refine v_ireturn dX8_tells_6 rfl ?_
  exact h
theorem c_X8_rowAt {r i : Int} (hr : 0 ≤ r ∧ r < 6) (hi : 0 ≤ i ∧ i < 40) (h : Q (I_ (μ 53 (40 * r + i).toNat)) μ) : V_ nX8_rowAt 0 [R_ 50, I_ r, I_ i] [] μ Q := by
  refine v_aload_n dX8_rowAt_0 rfl rfl ?_
  refine v_getR dX8_rowAt_1 fX8_16 rfl rfl rfl ?_
  refine v_bipush dX8_rowAt_4 (by decide) ?_
  refine v_iload_n dX8_rowAt_6 rfl rfl ?_
  refine v_imul dX8_rowAt_7 (fun ha hb => by omega) ?_
  refine v_iload_n dX8_rowAt_8 rfl rfl ?_
  refine v_iadd dX8_rowAt_9 (fun ha hb => by omega) ?_
  refine v_iald dX8_rowAt_10 rfl (by omega) (by omega) ?_
  refine v_ireturn dX8_rowAt_11 rfl ?_
  exact h
set_option maxRecDepth 10000 in
theorem c_X8_tear {r : Int} (hc : fmOK μ) (h1 : ¬ (0 ≤ r ∧ r < 6) → Q (I_ (-1)) μ) (h2 : (0 ≤ r ∧ r < 6) → μ 52 r.toNat < 0 → Q (I_ (-3)) (mtC μ 1)) (h3 : (0 ≤ r ∧ r < 6) → 0 ≤ μ 52 r.toNat → Q (I_ 1) (mset μ 52 r.toNat (-1))) : V_ nX8_tear 0 [R_ 50, I_ r] [] μ Q := by
  refine v_iload_n dX8_tear_0 rfl rfl ?_
  refine v_callSi [_] dX8_tear_1 lX8_122 ksX8_isRow (plX8 _ _) (Or.inr rfl) rfl rfl rfl rfl rfl rfl (c_X8_isRow ?_)
  refine v_ifb_ne (tgt := 9) dX8_tear_4 (by decide) (fun hc_4 => ?_) (fun hc_4 => ?_)
  · refine v_aload_n dX8_tear_9 rfl rfl ?_
    refine v_getR dX8_tear_10 fX8_13 rfl rfl rfl ?_
    refine v_iload_n dX8_tear_13 rfl rfl ?_
    refine v_iald dX8_tear_14 rfl (by omega) (by omega) ?_
    refine v_if_ge (tgt := 24) dX8_tear_15 (by decide) (fun hc_15 => ?_) (fun hc_15 => ?_)
    · refine v_aload_n dX8_tear_24 rfl rfl ?_
      refine v_getR dX8_tear_25 fX8_13 rfl rfl rfl ?_
      refine v_iload_n dX8_tear_28 rfl rfl ?_
      refine v_iconst dX8_tear_29 (by decide) ?_
      refine v_iast dX8_tear_30 rfl (by omega) (by omega) ?_
      refine v_iconst dX8_tear_31 (by decide) ?_
      refine v_ireturn dX8_tear_32 rfl ?_
      exact h3 (by omega) (by omega)
    · refine v_aload_n dX8_tear_18 rfl rfl ?_
      refine v_iconst dX8_tear_19 (by decide) ?_
      refine v_callVi [_] dX8_tear_20 lX8_126 kvX8_meets (plX8 _ _) (Or.inl rfl) rfl rfl rfl rfl rfl rfl rfl rfl rfl (c_X8_meets (g := 1) rfl (by decide) hc ?_)
      refine v_ireturn dX8_tear_23 rfl ?_
      exact h2 (by omega) (by omega)
  · refine v_iconst dX8_tear_7 (by decide) ?_
    refine v_ireturn dX8_tear_8 rfl ?_
    exact h1 (by omega)
set_option maxRecDepth 10000 in
theorem c_X8_at {r i : Int} (hc : fmOK μ) (hk : okR_ μ) (h1 : ¬ (0 ≤ r ∧ r < 6) → Q (I_ (-1)) μ) (h2 : (0 ≤ r ∧ r < 6) → μ 52 r.toNat < 0 → Q (I_ (-3)) (mtC μ 1)) (h3 : (0 ≤ r ∧ r < 6) → 0 ≤ μ 52 r.toNat → ¬ (0 ≤ i ∧ i < μ 52 r.toNat) → Q (I_ (-3)) (mtC μ 2)) (h4 : (0 ≤ r ∧ r < 6) → (0 ≤ i ∧ i < μ 52 r.toNat) → Q (I_ 1) (mtT μ (μ 53 (40 * r + i).toNat))) : V_ nX8_at 0 [R_ 50, I_ r, I_ i] [] μ Q := by
  have hk2 : (0 ≤ r ∧ r < 6) → μ 52 r.toNat ≤ 40 ∧ -1 ≤ μ 52 r.toNat := fun q => ⟨(hk r.toNat (by omega)).2, (hk r.toNat (by omega)).1⟩
  refine v_iload_n dX8_at_0 rfl rfl ?_
  refine v_callSi [_] dX8_at_1 lX8_122 ksX8_isRow (plX8 _ _) (Or.inr rfl) rfl rfl rfl rfl rfl rfl (c_X8_isRow ?_)
  refine v_ifb_ne (tgt := 9) dX8_at_4 (by decide) (fun hc_4 => ?_) (fun hc_4 => ?_)
  · refine v_aload_n dX8_at_9 rfl rfl ?_
    refine v_getR dX8_at_10 fX8_13 rfl rfl rfl ?_
    refine v_iload_n dX8_at_13 rfl rfl ?_
    refine v_iald dX8_at_14 rfl (by omega) (by omega) ?_
    refine v_if_ge (tgt := 24) dX8_at_15 (by decide) (fun hc_15 => ?_) (fun hc_15 => ?_)
    · refine v_iload_n dX8_at_24 rfl rfl ?_
      refine v_iconst dX8_at_25 (by decide) ?_
      refine v_aload_n dX8_at_26 rfl rfl ?_
      refine v_getR dX8_at_27 fX8_13 rfl rfl rfl ?_
      refine v_iload_n dX8_at_30 rfl rfl ?_
      refine v_iald dX8_at_31 rfl (by omega) (by omega) ?_
      refine v_iconst dX8_at_32 (by decide) ?_
      refine v_isub dX8_at_33 (fun ha hb => by have := hk2 (by omega); omega) ?_
      refine v_callSi [_, _, _] dX8_at_34 lX8_112 ksX8_in (plX8 _ _) (Or.inr rfl) rfl rfl rfl rfl rfl rfl (c_X8_in ?_)
      refine v_ifb_eq (tgt := 54) dX8_at_37 (by decide) (fun hc_37 => ?_) (fun hc_37 => ?_)
      · refine v_aload_n dX8_at_54 rfl rfl ?_
        refine v_iconst dX8_at_55 (by decide) ?_
        refine v_callVi [_] dX8_at_56 lX8_126 kvX8_meets (plX8 _ _) (Or.inl rfl) rfl rfl rfl rfl rfl rfl rfl rfl rfl (c_X8_meets (g := 2) rfl (by decide) hc ?_)
        refine v_ireturn dX8_at_59 rfl ?_
        exact h3 (by omega) (by omega) (by omega)
      · refine v_aload_n dX8_at_40 rfl rfl ?_
        refine v_aload_n dX8_at_41 rfl rfl ?_
        refine v_iload_n dX8_at_42 rfl rfl ?_
        refine v_iload_n dX8_at_43 rfl rfl ?_
        refine v_callVi [_, _] dX8_at_44 lX8_130 kvX8_rowAt (plX8 _ _) (Or.inl rfl) rfl rfl rfl rfl rfl rfl rfl rfl rfl (c_X8_rowAt (by omega) (by have := hk2 (by omega); omega) ?_)
        refine v_iconst dX8_at_47 (by decide) ?_
        refine v_callVi [_, _] dX8_at_48 lX8_134 kvX8_tells (plX8 _ _) (Or.inl rfl) rfl rfl rfl rfl rfl rfl rfl rfl rfl (c_X8_tells ?_)
        refine v_goto (tgt := 59) dX8_at_51 (by decide) ?_
        refine v_ireturn dX8_at_59 rfl ?_
        exact h4 (by omega) (by omega)
    · refine v_aload_n dX8_at_18 rfl rfl ?_
      refine v_iconst dX8_at_19 (by decide) ?_
      refine v_callVi [_] dX8_at_20 lX8_126 kvX8_meets (plX8 _ _) (Or.inl rfl) rfl rfl rfl rfl rfl rfl rfl rfl rfl (c_X8_meets (g := 1) rfl (by decide) hc ?_)
      refine v_ireturn dX8_at_23 rfl ?_
      exact h2 (by omega) (by omega)
  · refine v_iconst dX8_at_7 (by decide) ?_
    refine v_ireturn dX8_at_8 rfl ?_
    exact h1 (by omega)
end
