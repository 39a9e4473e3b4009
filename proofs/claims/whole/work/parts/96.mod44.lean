/-! the model over the class: an event told -/
theorem ie_1 {nH nP nK a b : Int} : ieC nH nP nK 1 a b ↔ (0 ≤ a ∧ a < nH) ∧ (0 ≤ b ∧ b < nP) := by unfold ieC; simp
theorem ie_2 {nH nP nK a b : Int} : ieC nH nP nK 2 a b ↔ (0 ≤ a ∧ a < nK) ∧ (0 ≤ b ∧ b < nP) := by unfold ieC; simp
theorem ie_3 {nH nP nK a b : Int} : ieC nH nP nK 3 a b ↔ (0 ≤ a ∧ a < nK) ∧ (0 ≤ b ∧ b < nP) := by unfold ieC; simp
theorem ie_4 {nH nP nK a b : Int} : ieC nH nP nK 4 a b ↔ (0 ≤ a ∧ a < nK) ∧ (0 ≤ b ∧ b < nH) := by unfold ieC; simp
theorem ie_5 {nH nP nK a b : Int} : ieC nH nP nK 5 a b ↔ (0 ≤ a ∧ a < nK) ∧ (0 ≤ b ∧ b < nH) := by unfold ieC; simp
theorem ie_6 {nH nP nK a b : Int} : ieC nH nP nK 6 a b ↔ (0 ≤ a ∧ a < nH) := by unfold ieC; simp
theorem ie_7 {nH nP nK a b : Int} : ieC nH nP nK 7 a b ↔ (0 ≤ a ∧ a < nP) ∧ (0 ≤ b ∧ b < nP) ∧ a ≠ b := by unfold ieC; simp
theorem ie_o {nH nP nK kind a b : Int} (h : kind < 1 ∨ 7 < kind) : ¬ ieC nH nP nK kind a b := by
  rintro (q | q | q | q | q)
  · have := q.1; omega
  · have := q.1; omega
  · have := q.1; omega
  · have := q.1; omega
  · have := q.1; omega
section
variable {μ w : Mem_} {Q : PV → Mem_ → Prop}
set_option maxRecDepth 10000 in
theorem c_X8_isEventTold {kind a b : Int} (hw : CW w) (hc : CP μ w) (hq : Q (I_ (b2i (ieC (w (stc w) 0) (w (stc w) 1) (w 17 0) kind a b))) μ) : V_ nX8_isEventTold 0 [R_ 50, I_ kind, I_ a, I_ b] [] μ Q := by
  have c1 := hc.1.1
  have s1 := hw.1.2.1
  have s2 := hw.1.2.2.1
  have k1 := hc.2.1.1
  have p1 := hw.P.1
  rw [← c1.1, ← c1.2, ← k1] at hq
  have q1 := fun e : kind = 1 => (by rw [e, b2i_congr ie_1] at hq; exact hq : Q (I_ (b2i ((0 ≤ a ∧ a < μ 50 10) ∧ (0 ≤ b ∧ b < μ 50 11)))) μ)
  have q2 := fun e : kind = 2 => (by rw [e, b2i_congr ie_2] at hq; exact hq : Q (I_ (b2i ((0 ≤ a ∧ a < μ 50 27) ∧ (0 ≤ b ∧ b < μ 50 11)))) μ)
  have q3 := fun e : kind = 3 => (by rw [e, b2i_congr ie_3] at hq; exact hq : Q (I_ (b2i ((0 ≤ a ∧ a < μ 50 27) ∧ (0 ≤ b ∧ b < μ 50 11)))) μ)
  have q4 := fun e : kind = 4 => (by rw [e, b2i_congr ie_4] at hq; exact hq : Q (I_ (b2i ((0 ≤ a ∧ a < μ 50 27) ∧ (0 ≤ b ∧ b < μ 50 10)))) μ)
  have q5 := fun e : kind = 5 => (by rw [e, b2i_congr ie_5] at hq; exact hq : Q (I_ (b2i ((0 ≤ a ∧ a < μ 50 27) ∧ (0 ≤ b ∧ b < μ 50 10)))) μ)
  have q6 := fun e : kind = 6 => (by rw [e, b2i_congr ie_6] at hq; exact hq : Q (I_ (b2i (0 ≤ a ∧ a < μ 50 10))) μ)
  have q7 := fun e : kind = 7 => (by rw [e, b2i_congr ie_7] at hq; exact hq : Q (I_ (b2i ((0 ≤ a ∧ a < μ 50 11) ∧ (0 ≤ b ∧ b < μ 50 11) ∧ a ≠ b))) μ)
  have qo := fun e : kind < 1 ∨ 7 < kind => (by rw [b2i_f (ie_o e)] at hq; exact hq : Q (I_ 0) μ)
  clear hq
  refine v_iload_n dX8_isEventTold_0 rfl rfl ?_
  rcases (show kind < 1 ∨ 7 < kind ∨ kind = 1 ∨ kind = 2 ∨ kind = 3 ∨ kind = 4 ∨ kind = 5 ∨ kind = 6 ∨ kind = 7 by omega) with hsw | hsw | hsw | hsw | hsw | hsw | hsw | hsw | hsw
  · refine v_tableOut (tgt := 187) dX8_isEventTold_1 (Or.inl hsw) (by decide) ?_
    refine v_iconst dX8_isEventTold_187 (by decide) ?_
    refine v_zreturn dX8_isEventTold_188 rfl (by first | exact Or.inl rfl | exact Or.inr rfl | exact b2i_01 _ | assumption) ?_
    first
      | exact qo (by omega)
      | exact q6 hsw
      | (have q := q1 hsw; first | rwa [b2i_f (by omega)] at q | rwa [b2i_t (by omega)] at q)
      | (have q := q2 hsw; first | rwa [b2i_f (by omega)] at q | rwa [b2i_t (by omega)] at q)
      | (have q := q3 hsw; first | rwa [b2i_f (by omega)] at q | rwa [b2i_t (by omega)] at q)
      | (have q := q4 hsw; first | rwa [b2i_f (by omega)] at q | rwa [b2i_t (by omega)] at q)
      | (have q := q5 hsw; first | rwa [b2i_f (by omega)] at q | rwa [b2i_t (by omega)] at q)
      | (have q := q7 (by omega); first | rwa [b2i_f (by omega)] at q | rwa [b2i_t (by omega)] at q)
  · refine v_tableOut (tgt := 187) dX8_isEventTold_1 (Or.inr hsw) (by decide) ?_
    refine v_iconst dX8_isEventTold_187 (by decide) ?_
    refine v_zreturn dX8_isEventTold_188 rfl (by first | exact Or.inl rfl | exact Or.inr rfl | exact b2i_01 _ | assumption) ?_
    first
      | exact qo (by omega)
      | exact q6 hsw
      | (have q := q1 hsw; first | rwa [b2i_f (by omega)] at q | rwa [b2i_t (by omega)] at q)
      | (have q := q2 hsw; first | rwa [b2i_f (by omega)] at q | rwa [b2i_t (by omega)] at q)
      | (have q := q3 hsw; first | rwa [b2i_f (by omega)] at q | rwa [b2i_t (by omega)] at q)
      | (have q := q4 hsw; first | rwa [b2i_f (by omega)] at q | rwa [b2i_t (by omega)] at q)
      | (have q := q5 hsw; first | rwa [b2i_f (by omega)] at q | rwa [b2i_t (by omega)] at q)
      | (have q := q7 (by omega); first | rwa [b2i_f (by omega)] at q | rwa [b2i_t (by omega)] at q)
  · refine v_tableIn (off := 43) (tgt := 44) dX8_isEventTold_1 (by rw [hsw]; decide) (by rw [hsw]; decide) (by rw [hsw]; decide) (by decide) ?_
    refine v_aload_n dX8_isEventTold_44 rfl rfl ?_
    refine v_iload_n dX8_isEventTold_45 rfl rfl ?_
    refine v_callVi [_] dX8_isEventTold_46 lX8_204 kvX8_isHouse (plX8 _ _) (Or.inr rfl) rfl rfl rfl rfl rfl rfl rfl rfl rfl (c_X8_isHouse (by omega) ?_)
    refine v_ifb_eq (tgt := 64) dX8_isEventTold_49 (by decide) (fun hc_49 => ?_) (fun hc_49 => ?_)
    · refine v_iconst dX8_isEventTold_64 (by decide) ?_
      refine v_zreturn dX8_isEventTold_65 rfl (by first | exact Or.inl rfl | exact Or.inr rfl | exact b2i_01 _ | assumption) ?_
      first
        | exact qo (by omega)
        | exact q6 hsw
        | (have q := q1 hsw; first | rwa [b2i_f (by omega)] at q | rwa [b2i_t (by omega)] at q)
        | (have q := q2 hsw; first | rwa [b2i_f (by omega)] at q | rwa [b2i_t (by omega)] at q)
        | (have q := q3 hsw; first | rwa [b2i_f (by omega)] at q | rwa [b2i_t (by omega)] at q)
        | (have q := q4 hsw; first | rwa [b2i_f (by omega)] at q | rwa [b2i_t (by omega)] at q)
        | (have q := q5 hsw; first | rwa [b2i_f (by omega)] at q | rwa [b2i_t (by omega)] at q)
        | (have q := q7 (by omega); first | rwa [b2i_f (by omega)] at q | rwa [b2i_t (by omega)] at q)
    · refine v_aload_n dX8_isEventTold_52 rfl rfl ?_
      refine v_iload_n dX8_isEventTold_53 rfl rfl ?_
      refine v_callVi [_] dX8_isEventTold_54 lX8_207 kvX8_isPerson (plX8 _ _) (Or.inr rfl) rfl rfl rfl rfl rfl rfl rfl rfl rfl (c_X8_isPerson (by omega) ?_)
      refine v_ifb_eq (tgt := 64) dX8_isEventTold_57 (by decide) (fun hc_57 => ?_) (fun hc_57 => ?_)
      · refine v_iconst dX8_isEventTold_64 (by decide) ?_
        refine v_zreturn dX8_isEventTold_65 rfl (by first | exact Or.inl rfl | exact Or.inr rfl | exact b2i_01 _ | assumption) ?_
        first
          | exact qo (by omega)
          | exact q6 hsw
          | (have q := q1 hsw; first | rwa [b2i_f (by omega)] at q | rwa [b2i_t (by omega)] at q)
          | (have q := q2 hsw; first | rwa [b2i_f (by omega)] at q | rwa [b2i_t (by omega)] at q)
          | (have q := q3 hsw; first | rwa [b2i_f (by omega)] at q | rwa [b2i_t (by omega)] at q)
          | (have q := q4 hsw; first | rwa [b2i_f (by omega)] at q | rwa [b2i_t (by omega)] at q)
          | (have q := q5 hsw; first | rwa [b2i_f (by omega)] at q | rwa [b2i_t (by omega)] at q)
          | (have q := q7 (by omega); first | rwa [b2i_f (by omega)] at q | rwa [b2i_t (by omega)] at q)
      · refine v_iconst dX8_isEventTold_60 (by decide) ?_
        refine v_goto (tgt := 65) dX8_isEventTold_61 (by decide) ?_
        refine v_zreturn dX8_isEventTold_65 rfl (by first | exact Or.inl rfl | exact Or.inr rfl | exact b2i_01 _ | assumption) ?_
        first
          | exact qo (by omega)
          | exact q6 hsw
          | (have q := q1 hsw; first | rwa [b2i_f (by omega)] at q | rwa [b2i_t (by omega)] at q)
          | (have q := q2 hsw; first | rwa [b2i_f (by omega)] at q | rwa [b2i_t (by omega)] at q)
          | (have q := q3 hsw; first | rwa [b2i_f (by omega)] at q | rwa [b2i_t (by omega)] at q)
          | (have q := q4 hsw; first | rwa [b2i_f (by omega)] at q | rwa [b2i_t (by omega)] at q)
          | (have q := q5 hsw; first | rwa [b2i_f (by omega)] at q | rwa [b2i_t (by omega)] at q)
          | (have q := q7 (by omega); first | rwa [b2i_f (by omega)] at q | rwa [b2i_t (by omega)] at q)
  · refine v_tableIn (off := 65) (tgt := 66) dX8_isEventTold_1 (by rw [hsw]; decide) (by rw [hsw]; decide) (by rw [hsw]; decide) (by decide) ?_
    refine v_aload_n dX8_isEventTold_66 rfl rfl ?_
    refine v_iload_n dX8_isEventTold_67 rfl rfl ?_
    refine v_callVi [_] dX8_isEventTold_68 lX8_210 kvX8_isKey (plX8 _ _) (Or.inr rfl) rfl rfl rfl rfl rfl rfl rfl rfl rfl (c_X8_isKey (by omega) ?_)
    refine v_ifb_eq (tgt := 86) dX8_isEventTold_71 (by decide) (fun hc_71 => ?_) (fun hc_71 => ?_)
    · refine v_iconst dX8_isEventTold_86 (by decide) ?_
      refine v_zreturn dX8_isEventTold_87 rfl (by first | exact Or.inl rfl | exact Or.inr rfl | exact b2i_01 _ | assumption) ?_
      first
        | exact qo (by omega)
        | exact q6 hsw
        | (have q := q1 hsw; first | rwa [b2i_f (by omega)] at q | rwa [b2i_t (by omega)] at q)
        | (have q := q2 hsw; first | rwa [b2i_f (by omega)] at q | rwa [b2i_t (by omega)] at q)
        | (have q := q3 hsw; first | rwa [b2i_f (by omega)] at q | rwa [b2i_t (by omega)] at q)
        | (have q := q4 hsw; first | rwa [b2i_f (by omega)] at q | rwa [b2i_t (by omega)] at q)
        | (have q := q5 hsw; first | rwa [b2i_f (by omega)] at q | rwa [b2i_t (by omega)] at q)
        | (have q := q7 (by omega); first | rwa [b2i_f (by omega)] at q | rwa [b2i_t (by omega)] at q)
    · refine v_aload_n dX8_isEventTold_74 rfl rfl ?_
      refine v_iload_n dX8_isEventTold_75 rfl rfl ?_
      refine v_callVi [_] dX8_isEventTold_76 lX8_207 kvX8_isPerson (plX8 _ _) (Or.inr rfl) rfl rfl rfl rfl rfl rfl rfl rfl rfl (c_X8_isPerson (by omega) ?_)
      refine v_ifb_eq (tgt := 86) dX8_isEventTold_79 (by decide) (fun hc_79 => ?_) (fun hc_79 => ?_)
      · refine v_iconst dX8_isEventTold_86 (by decide) ?_
        refine v_zreturn dX8_isEventTold_87 rfl (by first | exact Or.inl rfl | exact Or.inr rfl | exact b2i_01 _ | assumption) ?_
        first
          | exact qo (by omega)
          | exact q6 hsw
          | (have q := q1 hsw; first | rwa [b2i_f (by omega)] at q | rwa [b2i_t (by omega)] at q)
          | (have q := q2 hsw; first | rwa [b2i_f (by omega)] at q | rwa [b2i_t (by omega)] at q)
          | (have q := q3 hsw; first | rwa [b2i_f (by omega)] at q | rwa [b2i_t (by omega)] at q)
          | (have q := q4 hsw; first | rwa [b2i_f (by omega)] at q | rwa [b2i_t (by omega)] at q)
          | (have q := q5 hsw; first | rwa [b2i_f (by omega)] at q | rwa [b2i_t (by omega)] at q)
          | (have q := q7 (by omega); first | rwa [b2i_f (by omega)] at q | rwa [b2i_t (by omega)] at q)
      · refine v_iconst dX8_isEventTold_82 (by decide) ?_
        refine v_goto (tgt := 87) dX8_isEventTold_83 (by decide) ?_
        refine v_zreturn dX8_isEventTold_87 rfl (by first | exact Or.inl rfl | exact Or.inr rfl | exact b2i_01 _ | assumption) ?_
        first
          | exact qo (by omega)
          | exact q6 hsw
          | (have q := q1 hsw; first | rwa [b2i_f (by omega)] at q | rwa [b2i_t (by omega)] at q)
          | (have q := q2 hsw; first | rwa [b2i_f (by omega)] at q | rwa [b2i_t (by omega)] at q)
          | (have q := q3 hsw; first | rwa [b2i_f (by omega)] at q | rwa [b2i_t (by omega)] at q)
          | (have q := q4 hsw; first | rwa [b2i_f (by omega)] at q | rwa [b2i_t (by omega)] at q)
          | (have q := q5 hsw; first | rwa [b2i_f (by omega)] at q | rwa [b2i_t (by omega)] at q)
          | (have q := q7 (by omega); first | rwa [b2i_f (by omega)] at q | rwa [b2i_t (by omega)] at q)
  · refine v_tableIn (off := 87) (tgt := 88) dX8_isEventTold_1 (by rw [hsw]; decide) (by rw [hsw]; decide) (by rw [hsw]; decide) (by decide) ?_
    refine v_aload_n dX8_isEventTold_88 rfl rfl ?_
    refine v_iload_n dX8_isEventTold_89 rfl rfl ?_
    refine v_callVi [_] dX8_isEventTold_90 lX8_210 kvX8_isKey (plX8 _ _) (Or.inr rfl) rfl rfl rfl rfl rfl rfl rfl rfl rfl (c_X8_isKey (by omega) ?_)
    refine v_ifb_eq (tgt := 108) dX8_isEventTold_93 (by decide) (fun hc_93 => ?_) (fun hc_93 => ?_)
    · refine v_iconst dX8_isEventTold_108 (by decide) ?_
      refine v_zreturn dX8_isEventTold_109 rfl (by first | exact Or.inl rfl | exact Or.inr rfl | exact b2i_01 _ | assumption) ?_
      first
        | exact qo (by omega)
        | exact q6 hsw
        | (have q := q1 hsw; first | rwa [b2i_f (by omega)] at q | rwa [b2i_t (by omega)] at q)
        | (have q := q2 hsw; first | rwa [b2i_f (by omega)] at q | rwa [b2i_t (by omega)] at q)
        | (have q := q3 hsw; first | rwa [b2i_f (by omega)] at q | rwa [b2i_t (by omega)] at q)
        | (have q := q4 hsw; first | rwa [b2i_f (by omega)] at q | rwa [b2i_t (by omega)] at q)
        | (have q := q5 hsw; first | rwa [b2i_f (by omega)] at q | rwa [b2i_t (by omega)] at q)
        | (have q := q7 (by omega); first | rwa [b2i_f (by omega)] at q | rwa [b2i_t (by omega)] at q)
    · refine v_aload_n dX8_isEventTold_96 rfl rfl ?_
      refine v_iload_n dX8_isEventTold_97 rfl rfl ?_
      refine v_callVi [_] dX8_isEventTold_98 lX8_207 kvX8_isPerson (plX8 _ _) (Or.inr rfl) rfl rfl rfl rfl rfl rfl rfl rfl rfl (c_X8_isPerson (by omega) ?_)
      refine v_ifb_eq (tgt := 108) dX8_isEventTold_101 (by decide) (fun hc_101 => ?_) (fun hc_101 => ?_)
      · refine v_iconst dX8_isEventTold_108 (by decide) ?_
        refine v_zreturn dX8_isEventTold_109 rfl (by first | exact Or.inl rfl | exact Or.inr rfl | exact b2i_01 _ | assumption) ?_
        first
          | exact qo (by omega)
          | exact q6 hsw
          | (have q := q1 hsw; first | rwa [b2i_f (by omega)] at q | rwa [b2i_t (by omega)] at q)
          | (have q := q2 hsw; first | rwa [b2i_f (by omega)] at q | rwa [b2i_t (by omega)] at q)
          | (have q := q3 hsw; first | rwa [b2i_f (by omega)] at q | rwa [b2i_t (by omega)] at q)
          | (have q := q4 hsw; first | rwa [b2i_f (by omega)] at q | rwa [b2i_t (by omega)] at q)
          | (have q := q5 hsw; first | rwa [b2i_f (by omega)] at q | rwa [b2i_t (by omega)] at q)
          | (have q := q7 (by omega); first | rwa [b2i_f (by omega)] at q | rwa [b2i_t (by omega)] at q)
      · refine v_iconst dX8_isEventTold_104 (by decide) ?_
        refine v_goto (tgt := 109) dX8_isEventTold_105 (by decide) ?_
        refine v_zreturn dX8_isEventTold_109 rfl (by first | exact Or.inl rfl | exact Or.inr rfl | exact b2i_01 _ | assumption) ?_
        first
          | exact qo (by omega)
          | exact q6 hsw
          | (have q := q1 hsw; first | rwa [b2i_f (by omega)] at q | rwa [b2i_t (by omega)] at q)
          | (have q := q2 hsw; first | rwa [b2i_f (by omega)] at q | rwa [b2i_t (by omega)] at q)
          | (have q := q3 hsw; first | rwa [b2i_f (by omega)] at q | rwa [b2i_t (by omega)] at q)
          | (have q := q4 hsw; first | rwa [b2i_f (by omega)] at q | rwa [b2i_t (by omega)] at q)
          | (have q := q5 hsw; first | rwa [b2i_f (by omega)] at q | rwa [b2i_t (by omega)] at q)
          | (have q := q7 (by omega); first | rwa [b2i_f (by omega)] at q | rwa [b2i_t (by omega)] at q)
  · refine v_tableIn (off := 109) (tgt := 110) dX8_isEventTold_1 (by rw [hsw]; decide) (by rw [hsw]; decide) (by rw [hsw]; decide) (by decide) ?_
    refine v_aload_n dX8_isEventTold_110 rfl rfl ?_
    refine v_iload_n dX8_isEventTold_111 rfl rfl ?_
    refine v_callVi [_] dX8_isEventTold_112 lX8_210 kvX8_isKey (plX8 _ _) (Or.inr rfl) rfl rfl rfl rfl rfl rfl rfl rfl rfl (c_X8_isKey (by omega) ?_)
    refine v_ifb_eq (tgt := 130) dX8_isEventTold_115 (by decide) (fun hc_115 => ?_) (fun hc_115 => ?_)
    · refine v_iconst dX8_isEventTold_130 (by decide) ?_
      refine v_zreturn dX8_isEventTold_131 rfl (by first | exact Or.inl rfl | exact Or.inr rfl | exact b2i_01 _ | assumption) ?_
      first
        | exact qo (by omega)
        | exact q6 hsw
        | (have q := q1 hsw; first | rwa [b2i_f (by omega)] at q | rwa [b2i_t (by omega)] at q)
        | (have q := q2 hsw; first | rwa [b2i_f (by omega)] at q | rwa [b2i_t (by omega)] at q)
        | (have q := q3 hsw; first | rwa [b2i_f (by omega)] at q | rwa [b2i_t (by omega)] at q)
        | (have q := q4 hsw; first | rwa [b2i_f (by omega)] at q | rwa [b2i_t (by omega)] at q)
        | (have q := q5 hsw; first | rwa [b2i_f (by omega)] at q | rwa [b2i_t (by omega)] at q)
        | (have q := q7 (by omega); first | rwa [b2i_f (by omega)] at q | rwa [b2i_t (by omega)] at q)
    · refine v_aload_n dX8_isEventTold_118 rfl rfl ?_
      refine v_iload_n dX8_isEventTold_119 rfl rfl ?_
      refine v_callVi [_] dX8_isEventTold_120 lX8_204 kvX8_isHouse (plX8 _ _) (Or.inr rfl) rfl rfl rfl rfl rfl rfl rfl rfl rfl (c_X8_isHouse (by omega) ?_)
      refine v_ifb_eq (tgt := 130) dX8_isEventTold_123 (by decide) (fun hc_123 => ?_) (fun hc_123 => ?_)
      · refine v_iconst dX8_isEventTold_130 (by decide) ?_
        refine v_zreturn dX8_isEventTold_131 rfl (by first | exact Or.inl rfl | exact Or.inr rfl | exact b2i_01 _ | assumption) ?_
        first
          | exact qo (by omega)
          | exact q6 hsw
          | (have q := q1 hsw; first | rwa [b2i_f (by omega)] at q | rwa [b2i_t (by omega)] at q)
          | (have q := q2 hsw; first | rwa [b2i_f (by omega)] at q | rwa [b2i_t (by omega)] at q)
          | (have q := q3 hsw; first | rwa [b2i_f (by omega)] at q | rwa [b2i_t (by omega)] at q)
          | (have q := q4 hsw; first | rwa [b2i_f (by omega)] at q | rwa [b2i_t (by omega)] at q)
          | (have q := q5 hsw; first | rwa [b2i_f (by omega)] at q | rwa [b2i_t (by omega)] at q)
          | (have q := q7 (by omega); first | rwa [b2i_f (by omega)] at q | rwa [b2i_t (by omega)] at q)
      · refine v_iconst dX8_isEventTold_126 (by decide) ?_
        refine v_goto (tgt := 131) dX8_isEventTold_127 (by decide) ?_
        refine v_zreturn dX8_isEventTold_131 rfl (by first | exact Or.inl rfl | exact Or.inr rfl | exact b2i_01 _ | assumption) ?_
        first
          | exact qo (by omega)
          | exact q6 hsw
          | (have q := q1 hsw; first | rwa [b2i_f (by omega)] at q | rwa [b2i_t (by omega)] at q)
          | (have q := q2 hsw; first | rwa [b2i_f (by omega)] at q | rwa [b2i_t (by omega)] at q)
          | (have q := q3 hsw; first | rwa [b2i_f (by omega)] at q | rwa [b2i_t (by omega)] at q)
          | (have q := q4 hsw; first | rwa [b2i_f (by omega)] at q | rwa [b2i_t (by omega)] at q)
          | (have q := q5 hsw; first | rwa [b2i_f (by omega)] at q | rwa [b2i_t (by omega)] at q)
          | (have q := q7 (by omega); first | rwa [b2i_f (by omega)] at q | rwa [b2i_t (by omega)] at q)
  · refine v_tableIn (off := 131) (tgt := 132) dX8_isEventTold_1 (by rw [hsw]; decide) (by rw [hsw]; decide) (by rw [hsw]; decide) (by decide) ?_
    refine v_aload_n dX8_isEventTold_132 rfl rfl ?_
    refine v_iload_n dX8_isEventTold_133 rfl rfl ?_
    refine v_callVi [_] dX8_isEventTold_134 lX8_210 kvX8_isKey (plX8 _ _) (Or.inr rfl) rfl rfl rfl rfl rfl rfl rfl rfl rfl (c_X8_isKey (by omega) ?_)
    refine v_ifb_eq (tgt := 152) dX8_isEventTold_137 (by decide) (fun hc_137 => ?_) (fun hc_137 => ?_)
    · refine v_iconst dX8_isEventTold_152 (by decide) ?_
      refine v_zreturn dX8_isEventTold_153 rfl (by first | exact Or.inl rfl | exact Or.inr rfl | exact b2i_01 _ | assumption) ?_
      first
        | exact qo (by omega)
        | exact q6 hsw
        | (have q := q1 hsw; first | rwa [b2i_f (by omega)] at q | rwa [b2i_t (by omega)] at q)
        | (have q := q2 hsw; first | rwa [b2i_f (by omega)] at q | rwa [b2i_t (by omega)] at q)
        | (have q := q3 hsw; first | rwa [b2i_f (by omega)] at q | rwa [b2i_t (by omega)] at q)
        | (have q := q4 hsw; first | rwa [b2i_f (by omega)] at q | rwa [b2i_t (by omega)] at q)
        | (have q := q5 hsw; first | rwa [b2i_f (by omega)] at q | rwa [b2i_t (by omega)] at q)
        | (have q := q7 (by omega); first | rwa [b2i_f (by omega)] at q | rwa [b2i_t (by omega)] at q)
    · refine v_aload_n dX8_isEventTold_140 rfl rfl ?_
      refine v_iload_n dX8_isEventTold_141 rfl rfl ?_
      refine v_callVi [_] dX8_isEventTold_142 lX8_204 kvX8_isHouse (plX8 _ _) (Or.inr rfl) rfl rfl rfl rfl rfl rfl rfl rfl rfl (c_X8_isHouse (by omega) ?_)
      refine v_ifb_eq (tgt := 152) dX8_isEventTold_145 (by decide) (fun hc_145 => ?_) (fun hc_145 => ?_)
      · refine v_iconst dX8_isEventTold_152 (by decide) ?_
        refine v_zreturn dX8_isEventTold_153 rfl (by first | exact Or.inl rfl | exact Or.inr rfl | exact b2i_01 _ | assumption) ?_
        first
          | exact qo (by omega)
          | exact q6 hsw
          | (have q := q1 hsw; first | rwa [b2i_f (by omega)] at q | rwa [b2i_t (by omega)] at q)
          | (have q := q2 hsw; first | rwa [b2i_f (by omega)] at q | rwa [b2i_t (by omega)] at q)
          | (have q := q3 hsw; first | rwa [b2i_f (by omega)] at q | rwa [b2i_t (by omega)] at q)
          | (have q := q4 hsw; first | rwa [b2i_f (by omega)] at q | rwa [b2i_t (by omega)] at q)
          | (have q := q5 hsw; first | rwa [b2i_f (by omega)] at q | rwa [b2i_t (by omega)] at q)
          | (have q := q7 (by omega); first | rwa [b2i_f (by omega)] at q | rwa [b2i_t (by omega)] at q)
      · refine v_iconst dX8_isEventTold_148 (by decide) ?_
        refine v_goto (tgt := 153) dX8_isEventTold_149 (by decide) ?_
        refine v_zreturn dX8_isEventTold_153 rfl (by first | exact Or.inl rfl | exact Or.inr rfl | exact b2i_01 _ | assumption) ?_
        first
          | exact qo (by omega)
          | exact q6 hsw
          | (have q := q1 hsw; first | rwa [b2i_f (by omega)] at q | rwa [b2i_t (by omega)] at q)
          | (have q := q2 hsw; first | rwa [b2i_f (by omega)] at q | rwa [b2i_t (by omega)] at q)
          | (have q := q3 hsw; first | rwa [b2i_f (by omega)] at q | rwa [b2i_t (by omega)] at q)
          | (have q := q4 hsw; first | rwa [b2i_f (by omega)] at q | rwa [b2i_t (by omega)] at q)
          | (have q := q5 hsw; first | rwa [b2i_f (by omega)] at q | rwa [b2i_t (by omega)] at q)
          | (have q := q7 (by omega); first | rwa [b2i_f (by omega)] at q | rwa [b2i_t (by omega)] at q)
  · refine v_tableIn (off := 153) (tgt := 154) dX8_isEventTold_1 (by rw [hsw]; decide) (by rw [hsw]; decide) (by rw [hsw]; decide) (by decide) ?_
    refine v_aload_n dX8_isEventTold_154 rfl rfl ?_
    refine v_iload_n dX8_isEventTold_155 rfl rfl ?_
    refine v_callVi [_] dX8_isEventTold_156 lX8_204 kvX8_isHouse (plX8 _ _) (Or.inr rfl) rfl rfl rfl rfl rfl rfl rfl rfl rfl (c_X8_isHouse (by omega) ?_)
    refine v_zreturn dX8_isEventTold_159 rfl (by first | exact Or.inl rfl | exact Or.inr rfl | exact b2i_01 _ | assumption) ?_
    first
      | exact qo (by omega)
      | exact q6 hsw
      | (have q := q1 hsw; first | rwa [b2i_f (by omega)] at q | rwa [b2i_t (by omega)] at q)
      | (have q := q2 hsw; first | rwa [b2i_f (by omega)] at q | rwa [b2i_t (by omega)] at q)
      | (have q := q3 hsw; first | rwa [b2i_f (by omega)] at q | rwa [b2i_t (by omega)] at q)
      | (have q := q4 hsw; first | rwa [b2i_f (by omega)] at q | rwa [b2i_t (by omega)] at q)
      | (have q := q5 hsw; first | rwa [b2i_f (by omega)] at q | rwa [b2i_t (by omega)] at q)
      | (have q := q7 (by omega); first | rwa [b2i_f (by omega)] at q | rwa [b2i_t (by omega)] at q)
  · refine v_tableIn (off := 159) (tgt := 160) dX8_isEventTold_1 (by rw [hsw]; decide) (by rw [hsw]; decide) (by rw [hsw]; decide) (by decide) ?_
    refine v_aload_n dX8_isEventTold_160 rfl rfl ?_
    refine v_iload_n dX8_isEventTold_161 rfl rfl ?_
    refine v_callVi [_] dX8_isEventTold_162 lX8_207 kvX8_isPerson (plX8 _ _) (Or.inr rfl) rfl rfl rfl rfl rfl rfl rfl rfl rfl (c_X8_isPerson (by omega) ?_)
    refine v_ifb_eq (tgt := 185) dX8_isEventTold_165 (by decide) (fun hc_165 => ?_) (fun hc_165 => ?_)
    · refine v_iconst dX8_isEventTold_185 (by decide) ?_
      refine v_zreturn dX8_isEventTold_186 rfl (by first | exact Or.inl rfl | exact Or.inr rfl | exact b2i_01 _ | assumption) ?_
      first
        | exact qo (by omega)
        | exact q6 hsw
        | (have q := q1 hsw; first | rwa [b2i_f (by omega)] at q | rwa [b2i_t (by omega)] at q)
        | (have q := q2 hsw; first | rwa [b2i_f (by omega)] at q | rwa [b2i_t (by omega)] at q)
        | (have q := q3 hsw; first | rwa [b2i_f (by omega)] at q | rwa [b2i_t (by omega)] at q)
        | (have q := q4 hsw; first | rwa [b2i_f (by omega)] at q | rwa [b2i_t (by omega)] at q)
        | (have q := q5 hsw; first | rwa [b2i_f (by omega)] at q | rwa [b2i_t (by omega)] at q)
        | (have q := q7 (by omega); first | rwa [b2i_f (by omega)] at q | rwa [b2i_t (by omega)] at q)
    · refine v_aload_n dX8_isEventTold_168 rfl rfl ?_
      refine v_iload_n dX8_isEventTold_169 rfl rfl ?_
      refine v_callVi [_] dX8_isEventTold_170 lX8_207 kvX8_isPerson (plX8 _ _) (Or.inr rfl) rfl rfl rfl rfl rfl rfl rfl rfl rfl (c_X8_isPerson (by omega) ?_)
      refine v_ifb_eq (tgt := 185) dX8_isEventTold_173 (by decide) (fun hc_173 => ?_) (fun hc_173 => ?_)
      · refine v_iconst dX8_isEventTold_185 (by decide) ?_
        refine v_zreturn dX8_isEventTold_186 rfl (by first | exact Or.inl rfl | exact Or.inr rfl | exact b2i_01 _ | assumption) ?_
        first
          | exact qo (by omega)
          | exact q6 hsw
          | (have q := q1 hsw; first | rwa [b2i_f (by omega)] at q | rwa [b2i_t (by omega)] at q)
          | (have q := q2 hsw; first | rwa [b2i_f (by omega)] at q | rwa [b2i_t (by omega)] at q)
          | (have q := q3 hsw; first | rwa [b2i_f (by omega)] at q | rwa [b2i_t (by omega)] at q)
          | (have q := q4 hsw; first | rwa [b2i_f (by omega)] at q | rwa [b2i_t (by omega)] at q)
          | (have q := q5 hsw; first | rwa [b2i_f (by omega)] at q | rwa [b2i_t (by omega)] at q)
          | (have q := q7 (by omega); first | rwa [b2i_f (by omega)] at q | rwa [b2i_t (by omega)] at q)
      · refine v_iload_n dX8_isEventTold_176 rfl rfl ?_
        refine v_iload_n dX8_isEventTold_177 rfl rfl ?_
        refine v_icmp_eq (tgt := 185) dX8_isEventTold_178 (by decide) (fun hc_178 => ?_) (fun hc_178 => ?_)
        · refine v_iconst dX8_isEventTold_185 (by decide) ?_
          refine v_zreturn dX8_isEventTold_186 rfl (by first | exact Or.inl rfl | exact Or.inr rfl | exact b2i_01 _ | assumption) ?_
          first
            | exact qo (by omega)
            | exact q6 hsw
            | (have q := q1 hsw; first | rwa [b2i_f (by omega)] at q | rwa [b2i_t (by omega)] at q)
            | (have q := q2 hsw; first | rwa [b2i_f (by omega)] at q | rwa [b2i_t (by omega)] at q)
            | (have q := q3 hsw; first | rwa [b2i_f (by omega)] at q | rwa [b2i_t (by omega)] at q)
            | (have q := q4 hsw; first | rwa [b2i_f (by omega)] at q | rwa [b2i_t (by omega)] at q)
            | (have q := q5 hsw; first | rwa [b2i_f (by omega)] at q | rwa [b2i_t (by omega)] at q)
            | (have q := q7 (by omega); first | rwa [b2i_f (by omega)] at q | rwa [b2i_t (by omega)] at q)
        · refine v_iconst dX8_isEventTold_181 (by decide) ?_
          refine v_goto (tgt := 186) dX8_isEventTold_182 (by decide) ?_
          refine v_zreturn dX8_isEventTold_186 rfl (by first | exact Or.inl rfl | exact Or.inr rfl | exact b2i_01 _ | assumption) ?_
          first
            | exact qo (by omega)
            | exact q6 hsw
            | (have q := q1 hsw; first | rwa [b2i_f (by omega)] at q | rwa [b2i_t (by omega)] at q)
            | (have q := q2 hsw; first | rwa [b2i_f (by omega)] at q | rwa [b2i_t (by omega)] at q)
            | (have q := q3 hsw; first | rwa [b2i_f (by omega)] at q | rwa [b2i_t (by omega)] at q)
            | (have q := q4 hsw; first | rwa [b2i_f (by omega)] at q | rwa [b2i_t (by omega)] at q)
            | (have q := q5 hsw; first | rwa [b2i_f (by omega)] at q | rwa [b2i_t (by omega)] at q)
            | (have q := q7 (by omega); first | rwa [b2i_f (by omega)] at q | rwa [b2i_t (by omega)] at q)
theorem ev_ok {nH nP nK kind a b more : Int} (q1 : ieC nH nP nK kind a b) (q2 : ¬ (mkK kind ∧ 24 ≤ nK)) : evOK nH nP nK kind a (bE kind b) (chE kind more) := by
  unfold evOK bE chE
  unfold mkK at q2
  rcases q1 with q | q | q | q | q
  · obtain ⟨rfl, qa, qb⟩ := q
    exact Or.inl ⟨rfl, qa, qb, by omega, rfl⟩
  · obtain ⟨qk, qa, qb⟩ := q
    rcases qk with rfl | rfl
    · exact Or.inr (Or.inl ⟨rfl, qa, qb, by omega, rfl⟩)
    · exact Or.inr (Or.inr (Or.inl ⟨rfl, qa, qb, rfl⟩))
  · obtain ⟨qk, qa, qb⟩ := q
    rcases qk with rfl | rfl
    · exact Or.inr (Or.inr (Or.inr (Or.inl ⟨rfl, qa, qb, rfl⟩)))
    · exact Or.inr (Or.inr (Or.inr (Or.inr (Or.inl ⟨rfl, qa, qb, rfl⟩))))
  · obtain ⟨rfl, qa⟩ := q
    exact Or.inr (Or.inr (Or.inr (Or.inr (Or.inr (Or.inl ⟨rfl, qa, rfl, rfl⟩)))))
  · obtain ⟨rfl, qa, qb, qc⟩ := q
    refine Or.inr (Or.inr (Or.inr (Or.inr (Or.inr (Or.inr ⟨rfl, qa, qb, qc, ?_⟩)))))
    rw [if_pos rfl]
    split
    · exact Or.inr rfl
    · exact Or.inl rfl
def frV (μ m : Mem_) : Prop := ∀ o k, ¬ (o = 50 ∧ (k = 22 ∨ k = 27 ∨ k = 39)) → o ≠ 63 → ¬ (65 ≤ o ∧ o ≤ 75) → m o k = μ o k
/-- the log with one event more, as the model has it -/
def mEv (μ : Mem_) (E : Nat) (k a b c : Int) : Mem_ := mset (mset (mset (mset (mset μ 63 (4 * E) k) 63 (4 * E + 1) a) 63 (4 * E + 2) b) 63 (4 * E + 3) c) 50 22 ((E : Int) + 1)
theorem mEv_off {μ : Mem_} {E : Nat} {k a b c : Int} {o i : Nat} (h1 : ¬ (o = 50 ∧ i = 22)) (h2 : ¬ (o = 63 ∧ 4 * E ≤ i ∧ i < 4 * E + 4)) : mEv μ E k a b c o i = μ o i := by
  unfold mEv
  rw [mset_off (by omega), mset_off (by omega), mset_off (by omega), mset_off (by omega), mset_off (by omega)]
theorem mEv_at {μ : Mem_} {E : Nat} {k a b c : Int} : mEv μ E k a b c 63 (4 * E) = k ∧ mEv μ E k a b c 63 (4 * E + 1) = a ∧ mEv μ E k a b c 63 (4 * E + 2) = b ∧ mEv μ E k a b c 63 (4 * E + 3) = c := by
  unfold mEv
  refine ⟨?_, ?_, ?_, ?_⟩
  · rw [mset_off (by omega), mset_off (by omega), mset_off (by omega), mset_off (by omega), mset_same]
  · rw [mset_off (by omega), mset_off (by omega), mset_off (by omega), mset_same]
  · rw [mset_off (by omega), mset_off (by omega), mset_same]
  · rw [mset_off (by omega), mset_same]
set_option maxRecDepth 10000 in
theorem c_X8_event {kind a b more : Int} (hw : CW w) (hc : CP μ w) (h1 : ¬ ieC (w (stc w) 0) (w (stc w) 1) (w 17 0) kind a b → Q (I_ (-1)) μ) (h2 : ieC (w (stc w) 0) (w (stc w) 1) (w 17 0) kind a b → (40 ≤ w 7 0 ∨ (mkK kind ∧ 24 ≤ w 17 0)) → Q (I_ (-2)) μ)
    (h3 : ieC (w (stc w) 0) (w (stc w) 1) (w 17 0) kind a b → ¬ (40 ≤ w 7 0 ∨ (mkK kind ∧ 24 ≤ w 17 0)) → ∀ mz : Mem_, frV μ mz → CP mz (rpW (addC_7 w kind a (bE kind b) (chE kind more))) → Q (I_ (w 7 0)) mz) : V_ nX8_event 0 [R_ 50, I_ kind, I_ a, I_ b, I_ more, U_] [] μ Q := by
  have v1 := hc.2.2.2.1
  have l1 := hw.2.2.1.1
  have k1 := hc.2.1.1
  have p1 := hw.P.1
  have hst := hw.1.1
  obtain ⟨E, hE⟩ : ∃ E : Nat, (E : Int) = w 7 0 := ⟨(w 7 0).toNat, by omega⟩
  have hEt : (w 7 0).toNat = E := by omega
  have hpos : ieC (w (stc w) 0) (w (stc w) 1) (w 17 0) kind a b → 1 ≤ kind := fun q => by
    rcases q with q | q | q | q | q <;> (have := q.1; omega)
  have fin : ∀ bb cc : Int, bb = bE kind b → cc = chE kind more → ieC (w (stc w) 0) (w (stc w) 1) (w 17 0) kind a b → ¬ (40 ≤ w 7 0 ∨ (mkK kind ∧ 24 ≤ w 17 0)) → V_ nX8_event 123 [R_ 50, I_ kind, I_ a, I_ b, I_ more, U_] [] (mEv μ E kind a bb cc) Q := by
    intro bb cc hbb hcc q1 q2
    have hq2 : ¬ (mkK kind ∧ 24 ≤ w 17 0) := fun z => q2 (Or.inr z)
    have hq40 : w 7 0 < 40 := by
      refine Classical.byContradiction (fun z => q2 (Or.inl (by omega)))
    have hv : evOK (w (stc w) 0) (w (stc w) 1) (kbC w (w 7 0).toNat) kind a bb cc := by
      rw [← hw.2.2.2.2, hbb, hcc]
      exact ev_ok q1 hq2
    have hl2 := LVc_add (a := a) (b := bb) (c := cc) (k := kind) hw.2.2.1 hq40 hv
    have hA : ∀ o k, o ≠ 7 → o ≠ 8 → o ≠ 9 → o ≠ 10 → o ≠ 11 → addC_7 w kind a bb cc o k = w o k := fun o k z1 z2 z3 z4 z5 => addC_7_off ⟨z1, z2, z3, z4, z5⟩
    have e0 : stc (addC_7 w kind a bb cc) = stc w := by unfold stc; rw [hA 0 9 (by omega) (by omega) (by omega) (by omega) (by omega)]
    have esz : addC_7 w kind a bb cc 7 0 = w 7 0 + 1 := addC_7_sz
    have eat := addC_7_new (μ := w) (k := kind) (a := a) (b := bb) (c := cc)
    rw [hEt] at eat
    have h3q := h3 q1 q2
    rw [← hbb, ← hcc] at h3q
    clear q1 q2 hv hq2 hpos
    have g1 : StC (addC_7 w kind a bb cc) (stc (addC_7 w kind a bb cc)) := by
      rw [e0]
      unfold StC
      simp only [fun i => hA (stc w) i (by omega) (by omega) (by omega) (by omega) (by omega), fun i => hA (stc w + 1) i (by omega) (by omega) (by omega) (by omega) (by omega), fun i => hA (stc w + 2) i (by omega) (by omega) (by omega) (by omega) (by omega), fun i => hA (stc w + 3) i (by omega) (by omega) (by omega) (by omega) (by omega)]
      exact hw.1.2
    have g2 : LVc (addC_7 w kind a bb cc (stc (addC_7 w kind a bb cc)) 0) (addC_7 w kind a bb cc (stc (addC_7 w kind a bb cc)) 1) (addC_7 w kind a bb cc) := by
      rw [e0, hA (stc w) 0 (by omega) (by omega) (by omega) (by omega) (by omega), hA (stc w) 1 (by omega) (by omega) (by omega) (by omega) (by omega)]
      exact hl2
    have g3 : CS (mEv μ E kind a bb cc) (addC_7 w kind a bb cc) := by
      unfold CS
      rw [e0, hA (stc w) 0 (by omega) (by omega) (by omega) (by omega) (by omega), hA (stc w) 1 (by omega) (by omega) (by omega) (by omega) (by omega), mEv_off (by omega) (by omega), mEv_off (by omega) (by omega)]
      refine ⟨hc.1.1, fun g hg => ?_, fun p hp => ?_⟩
      · rw [mEv_off (by omega) (by omega), hA (stc w + 1) g (by omega) (by omega) (by omega) (by omega) (by omega)]; exact hc.1.2.1 g hg
      · rw [mEv_off (by omega) (by omega), mEv_off (by omega) (by omega), hA (stc w + 2) p (by omega) (by omega) (by omega) (by omega) (by omega), hA (stc w + 3) p (by omega) (by omega) (by omega) (by omega) (by omega)]; exact hc.1.2.2 p hp
    have g4 : evC (mEv μ E kind a bb cc) (addC_7 w kind a bb cc) := by
      refine ⟨by unfold mEv; rw [mset_same, esz]; omega, fun e z0 z1 => ?_⟩
      rw [esz] at z1
      by_cases ee : e.toNat = E
      · rw [ee, show (4 * e).toNat = 4 * E by omega, show (4 * e + 1).toNat = 4 * E + 1 by omega, show (4 * e + 2).toNat = 4 * E + 2 by omega, show (4 * e + 3).toNat = 4 * E + 3 by omega, eat.1, eat.2.1, eat.2.2.1, eat.2.2.2]
        exact mEv_at
      · rw [mEv_off (by omega) (by omega), mEv_off (by omega) (by omega), mEv_off (by omega) (by omega), mEv_off (by omega) (by omega), addC_7_old (by omega) (by omega), addC_7_old (by omega) (by omega), addC_7_old (by omega) (by omega), addC_7_old (by omega) (by omega)]
        exact hc.2.2.2.2.1 e z0 (by omega)
    refine v_aload_n dX8_event_123 rfl rfl ?_
    refine v_callVv [] dX8_event_124 lX8_201 kvX8_settle (plX8 _ _) rfl rfl rfl rfl rfl rfl rfl rfl rfl rfl (c_X8_settleC (w0 := addC_7 w kind a bb cc) (by rw [e0]; exact hst) g1 g2 g3 g4 (fun mz f1 f2 => ?_))
    refine v_aload_n dX8_event_127 rfl rfl ?_
    refine v_getI dX8_event_128 fX8_186 rfl rfl rfl ?_
    rw [f1 50 22 (by omega) (by omega), show mEv μ E kind a bb cc 50 22 = (E : Int) + 1 from mset_same _ _ _ _]
    refine v_iconst dX8_event_131 (by decide) ?_
    refine v_isub dX8_event_132 (fun ha hb => by omega) ?_
    refine v_ireturn dX8_event_133 rfl ?_
    rw [show (E : Int) + 1 - 1 = w 7 0 by omega]
    exact h3q mz (fun o k z1 z2 z3 => by rw [f1 o k (by omega) (by omega)]; exact mEv_off (by omega) (by omega)) f2
  have i0 : (4 * (E : Int)).toNat = 4 * E := by omega
  have i1 : (4 * (E : Int) + 1).toNat = 4 * E + 1 := by omega
  have i2 : (4 * (E : Int) + 2).toNat = 4 * E + 2 := by omega
  have i3 : (4 * (E : Int) + 3).toNat = 4 * E + 3 := by omega
  refine v_aload_n dX8_event_0 rfl rfl ?_
  refine v_iload_n dX8_event_1 rfl rfl ?_
  refine v_iload_n dX8_event_2 rfl rfl ?_
  refine v_iload_n dX8_event_3 rfl rfl ?_
  refine v_callVi [_, _, _] dX8_event_4 lX8_213 kvX8_isEventTold (plX8 _ _) (Or.inr rfl) rfl rfl rfl rfl rfl rfl rfl rfl rfl (c_X8_isEventTold hw hc ?_)
  refine v_ifb_ne (tgt := 12) dX8_event_7 (by decide) (fun hc_7 => ?_) (fun hc_7 => ?_)
  · refine v_aload_n dX8_event_12 rfl rfl ?_
    refine v_getI dX8_event_13 fX8_186 rfl rfl rfl ?_
    rw [v1]
    refine v_bipush dX8_event_16 (by decide) ?_
    refine v_icmp_eq (tgt := 35) dX8_event_18 (by decide) (fun hc_18 => ?_) (fun hc_18 => ?_)
    · refine v_bipush dX8_event_35 (by decide) ?_
      refine v_ireturn dX8_event_37 rfl ?_
      first
        | exact h1 hc_7
        | exact h2 hc_7 (by have hp1 := hpos hc_7; unfold mkK; omega)
    · refine v_iload_n dX8_event_21 rfl rfl ?_
      refine v_iconst dX8_event_22 (by decide) ?_
      refine v_icmp_gt (tgt := 38) dX8_event_23 (by decide) (fun hc_23 => ?_) (fun hc_23 => ?_)
      · refine v_iconst dX8_event_38 (by decide) ?_
        refine v_aload_n dX8_event_39 rfl rfl ?_
        refine v_getI dX8_event_40 fX8_186 rfl rfl rfl ?_
        rw [v1, ← hE]
        refine v_imul dX8_event_43 (fun ha hb => by omega) ?_
        refine v_istore (ls' := [_, _, _, _, _, _]) dX8_event_44 rfl rfl rfl ?_
        refine v_aload_n dX8_event_46 rfl rfl ?_
        refine v_getR dX8_event_47 fX8_47 rfl rfl rfl ?_
        refine v_iload dX8_event_50 rfl ?_
        refine v_iload_n dX8_event_52 rfl rfl ?_
        refine v_iast dX8_event_53 rfl (by omega) (by omega) ?_
        rw [i0]
        refine v_aload_n dX8_event_54 rfl rfl ?_
        refine v_getR dX8_event_55 fX8_47 rfl rfl rfl ?_
        refine v_iload dX8_event_58 rfl ?_
        refine v_iconst dX8_event_60 (by decide) ?_
        refine v_iadd dX8_event_61 (fun ha hb => by omega) ?_
        refine v_iload_n dX8_event_62 rfl rfl ?_
        refine v_iast dX8_event_63 rfl (by omega) (by omega) ?_
        rw [i1]
        refine v_aload_n dX8_event_64 rfl rfl ?_
        refine v_getR dX8_event_65 fX8_47 rfl rfl rfl ?_
        refine v_iload dX8_event_68 rfl ?_
        refine v_iconst dX8_event_70 (by decide) ?_
        refine v_iadd dX8_event_71 (fun ha hb => by omega) ?_
        refine v_iload_n dX8_event_72 rfl rfl ?_
        refine v_bipush dX8_event_73 (by decide) ?_
        refine v_icmp_ne (tgt := 82) dX8_event_75 (by decide) (fun hc_75 => ?_) (fun hc_75 => ?_)
        · refine v_iload_n dX8_event_82 rfl rfl ?_
          refine v_iast dX8_event_83 rfl (by omega) (by omega) ?_
          rw [i2]
          refine v_aload_n dX8_event_84 rfl rfl ?_
          refine v_getR dX8_event_85 fX8_47 rfl rfl rfl ?_
          refine v_iload dX8_event_88 rfl ?_
          refine v_iconst dX8_event_90 (by decide) ?_
          refine v_iadd dX8_event_91 (fun ha hb => by omega) ?_
          refine v_iload_n dX8_event_92 rfl rfl ?_
          refine v_bipush dX8_event_93 (by decide) ?_
          refine v_icmp_ne (tgt := 111) dX8_event_95 (by decide) (fun hc_95 => ?_) (fun hc_95 => ?_)
          · refine v_iconst dX8_event_111 (by decide) ?_
            refine v_iast dX8_event_112 rfl (by omega) (by omega) ?_
            rw [i3]
            refine v_aload_n dX8_event_113 rfl rfl ?_
            refine v_dupR_ dX8_event_114 ?_
            refine v_getI dX8_event_115 fX8_186 rfl rfl rfl ?_
            rw [mset_off (by omega), mset_off (by omega), mset_off (by omega), mset_off (by omega), v1, ← hE]
            refine v_iconst dX8_event_118 (by decide) ?_
            refine v_iadd dX8_event_119 (fun ha hb => by omega) ?_
            refine v_putI dX8_event_120 fpX8_186 rfl rfl rfl ?_
            refine v_kill (ls' := [_, _, _, _, _, _]) 5 rfl ?_
            have hp1 := hpos hc_7
            first
              | (exfalso; omega)
              | exact fin _ _ (by unfold bE; first | (rw [if_pos (by omega)]) | (rw [if_neg (by omega)])) (by unfold chE; first | (rw [if_neg (by omega)]) | (rw [if_pos (by omega), if_pos (by omega)]) | (rw [if_pos (by omega), if_neg (by omega)])) hc_7 (by unfold mkK; omega)
          · refine v_iload dX8_event_98 rfl ?_
            refine v_if_eq (tgt := 107) dX8_event_100 (by decide) (fun hc_100 => ?_) (fun hc_100 => ?_)
            · refine v_iconst dX8_event_107 (by decide) ?_
              refine v_goto (tgt := 112) dX8_event_108 (by decide) ?_
              refine v_iast dX8_event_112 rfl (by omega) (by omega) ?_
              rw [i3]
              refine v_aload_n dX8_event_113 rfl rfl ?_
              refine v_dupR_ dX8_event_114 ?_
              refine v_getI dX8_event_115 fX8_186 rfl rfl rfl ?_
              rw [mset_off (by omega), mset_off (by omega), mset_off (by omega), mset_off (by omega), v1, ← hE]
              refine v_iconst dX8_event_118 (by decide) ?_
              refine v_iadd dX8_event_119 (fun ha hb => by omega) ?_
              refine v_putI dX8_event_120 fpX8_186 rfl rfl rfl ?_
              refine v_kill (ls' := [_, _, _, _, _, _]) 5 rfl ?_
              have hp1 := hpos hc_7
              first
                | (exfalso; omega)
                | exact fin _ _ (by unfold bE; first | (rw [if_pos (by omega)]) | (rw [if_neg (by omega)])) (by unfold chE; first | (rw [if_neg (by omega)]) | (rw [if_pos (by omega), if_pos (by omega)]) | (rw [if_pos (by omega), if_neg (by omega)])) hc_7 (by unfold mkK; omega)
            · refine v_iconst dX8_event_103 (by decide) ?_
              refine v_goto (tgt := 112) dX8_event_104 (by decide) ?_
              refine v_iast dX8_event_112 rfl (by omega) (by omega) ?_
              rw [i3]
              refine v_aload_n dX8_event_113 rfl rfl ?_
              refine v_dupR_ dX8_event_114 ?_
              refine v_getI dX8_event_115 fX8_186 rfl rfl rfl ?_
              rw [mset_off (by omega), mset_off (by omega), mset_off (by omega), mset_off (by omega), v1, ← hE]
              refine v_iconst dX8_event_118 (by decide) ?_
              refine v_iadd dX8_event_119 (fun ha hb => by omega) ?_
              refine v_putI dX8_event_120 fpX8_186 rfl rfl rfl ?_
              refine v_kill (ls' := [_, _, _, _, _, _]) 5 rfl ?_
              have hp1 := hpos hc_7
              first
                | (exfalso; omega)
                | exact fin _ _ (by unfold bE; first | (rw [if_pos (by omega)]) | (rw [if_neg (by omega)])) (by unfold chE; first | (rw [if_neg (by omega)]) | (rw [if_pos (by omega), if_pos (by omega)]) | (rw [if_pos (by omega), if_neg (by omega)])) hc_7 (by unfold mkK; omega)
        · refine v_iconst dX8_event_78 (by decide) ?_
          refine v_goto (tgt := 83) dX8_event_79 (by decide) ?_
          refine v_iast dX8_event_83 rfl (by omega) (by omega) ?_
          rw [i2]
          refine v_aload_n dX8_event_84 rfl rfl ?_
          refine v_getR dX8_event_85 fX8_47 rfl rfl rfl ?_
          refine v_iload dX8_event_88 rfl ?_
          refine v_iconst dX8_event_90 (by decide) ?_
          refine v_iadd dX8_event_91 (fun ha hb => by omega) ?_
          refine v_iload_n dX8_event_92 rfl rfl ?_
          refine v_bipush dX8_event_93 (by decide) ?_
          refine v_icmp_ne (tgt := 111) dX8_event_95 (by decide) (fun hc_95 => ?_) (fun hc_95 => ?_)
          · refine v_iconst dX8_event_111 (by decide) ?_
            refine v_iast dX8_event_112 rfl (by omega) (by omega) ?_
            rw [i3]
            refine v_aload_n dX8_event_113 rfl rfl ?_
            refine v_dupR_ dX8_event_114 ?_
            refine v_getI dX8_event_115 fX8_186 rfl rfl rfl ?_
            rw [mset_off (by omega), mset_off (by omega), mset_off (by omega), mset_off (by omega), v1, ← hE]
            refine v_iconst dX8_event_118 (by decide) ?_
            refine v_iadd dX8_event_119 (fun ha hb => by omega) ?_
            refine v_putI dX8_event_120 fpX8_186 rfl rfl rfl ?_
            refine v_kill (ls' := [_, _, _, _, _, _]) 5 rfl ?_
            have hp1 := hpos hc_7
            first
              | (exfalso; omega)
              | exact fin _ _ (by unfold bE; first | (rw [if_pos (by omega)]) | (rw [if_neg (by omega)])) (by unfold chE; first | (rw [if_neg (by omega)]) | (rw [if_pos (by omega), if_pos (by omega)]) | (rw [if_pos (by omega), if_neg (by omega)])) hc_7 (by unfold mkK; omega)
          · refine v_iload dX8_event_98 rfl ?_
            refine v_if_eq (tgt := 107) dX8_event_100 (by decide) (fun hc_100 => ?_) (fun hc_100 => ?_)
            · refine v_iconst dX8_event_107 (by decide) ?_
              refine v_goto (tgt := 112) dX8_event_108 (by decide) ?_
              refine v_iast dX8_event_112 rfl (by omega) (by omega) ?_
              rw [i3]
              refine v_aload_n dX8_event_113 rfl rfl ?_
              refine v_dupR_ dX8_event_114 ?_
              refine v_getI dX8_event_115 fX8_186 rfl rfl rfl ?_
              rw [mset_off (by omega), mset_off (by omega), mset_off (by omega), mset_off (by omega), v1, ← hE]
              refine v_iconst dX8_event_118 (by decide) ?_
              refine v_iadd dX8_event_119 (fun ha hb => by omega) ?_
              refine v_putI dX8_event_120 fpX8_186 rfl rfl rfl ?_
              refine v_kill (ls' := [_, _, _, _, _, _]) 5 rfl ?_
              have hp1 := hpos hc_7
              first
                | (exfalso; omega)
                | exact fin _ _ (by unfold bE; first | (rw [if_pos (by omega)]) | (rw [if_neg (by omega)])) (by unfold chE; first | (rw [if_neg (by omega)]) | (rw [if_pos (by omega), if_pos (by omega)]) | (rw [if_pos (by omega), if_neg (by omega)])) hc_7 (by unfold mkK; omega)
            · refine v_iconst dX8_event_103 (by decide) ?_
              refine v_goto (tgt := 112) dX8_event_104 (by decide) ?_
              refine v_iast dX8_event_112 rfl (by omega) (by omega) ?_
              rw [i3]
              refine v_aload_n dX8_event_113 rfl rfl ?_
              refine v_dupR_ dX8_event_114 ?_
              refine v_getI dX8_event_115 fX8_186 rfl rfl rfl ?_
              rw [mset_off (by omega), mset_off (by omega), mset_off (by omega), mset_off (by omega), v1, ← hE]
              refine v_iconst dX8_event_118 (by decide) ?_
              refine v_iadd dX8_event_119 (fun ha hb => by omega) ?_
              refine v_putI dX8_event_120 fpX8_186 rfl rfl rfl ?_
              refine v_kill (ls' := [_, _, _, _, _, _]) 5 rfl ?_
              have hp1 := hpos hc_7
              first
                | (exfalso; omega)
                | exact fin _ _ (by unfold bE; first | (rw [if_pos (by omega)]) | (rw [if_neg (by omega)])) (by unfold chE; first | (rw [if_neg (by omega)]) | (rw [if_pos (by omega), if_pos (by omega)]) | (rw [if_pos (by omega), if_neg (by omega)])) hc_7 (by unfold mkK; omega)
      · refine v_aload_n dX8_event_26 rfl rfl ?_
        refine v_getI dX8_event_27 fX8_189 rfl rfl rfl ?_
        rw [k1]
        refine v_bipush dX8_event_30 (by decide) ?_
        refine v_icmp_ne (tgt := 38) dX8_event_32 (by decide) (fun hc_32 => ?_) (fun hc_32 => ?_)
        · refine v_iconst dX8_event_38 (by decide) ?_
          refine v_aload_n dX8_event_39 rfl rfl ?_
          refine v_getI dX8_event_40 fX8_186 rfl rfl rfl ?_
          rw [v1, ← hE]
          refine v_imul dX8_event_43 (fun ha hb => by omega) ?_
          refine v_istore (ls' := [_, _, _, _, _, _]) dX8_event_44 rfl rfl rfl ?_
          refine v_aload_n dX8_event_46 rfl rfl ?_
          refine v_getR dX8_event_47 fX8_47 rfl rfl rfl ?_
          refine v_iload dX8_event_50 rfl ?_
          refine v_iload_n dX8_event_52 rfl rfl ?_
          refine v_iast dX8_event_53 rfl (by omega) (by omega) ?_
          rw [i0]
          refine v_aload_n dX8_event_54 rfl rfl ?_
          refine v_getR dX8_event_55 fX8_47 rfl rfl rfl ?_
          refine v_iload dX8_event_58 rfl ?_
          refine v_iconst dX8_event_60 (by decide) ?_
          refine v_iadd dX8_event_61 (fun ha hb => by omega) ?_
          refine v_iload_n dX8_event_62 rfl rfl ?_
          refine v_iast dX8_event_63 rfl (by omega) (by omega) ?_
          rw [i1]
          refine v_aload_n dX8_event_64 rfl rfl ?_
          refine v_getR dX8_event_65 fX8_47 rfl rfl rfl ?_
          refine v_iload dX8_event_68 rfl ?_
          refine v_iconst dX8_event_70 (by decide) ?_
          refine v_iadd dX8_event_71 (fun ha hb => by omega) ?_
          refine v_iload_n dX8_event_72 rfl rfl ?_
          refine v_bipush dX8_event_73 (by decide) ?_
          refine v_icmp_ne (tgt := 82) dX8_event_75 (by decide) (fun hc_75 => ?_) (fun hc_75 => ?_)
          · refine v_iload_n dX8_event_82 rfl rfl ?_
            refine v_iast dX8_event_83 rfl (by omega) (by omega) ?_
            rw [i2]
            refine v_aload_n dX8_event_84 rfl rfl ?_
            refine v_getR dX8_event_85 fX8_47 rfl rfl rfl ?_
            refine v_iload dX8_event_88 rfl ?_
            refine v_iconst dX8_event_90 (by decide) ?_
            refine v_iadd dX8_event_91 (fun ha hb => by omega) ?_
            refine v_iload_n dX8_event_92 rfl rfl ?_
            refine v_bipush dX8_event_93 (by decide) ?_
            refine v_icmp_ne (tgt := 111) dX8_event_95 (by decide) (fun hc_95 => ?_) (fun hc_95 => ?_)
            · refine v_iconst dX8_event_111 (by decide) ?_
              refine v_iast dX8_event_112 rfl (by omega) (by omega) ?_
              rw [i3]
              refine v_aload_n dX8_event_113 rfl rfl ?_
              refine v_dupR_ dX8_event_114 ?_
              refine v_getI dX8_event_115 fX8_186 rfl rfl rfl ?_
              rw [mset_off (by omega), mset_off (by omega), mset_off (by omega), mset_off (by omega), v1, ← hE]
              refine v_iconst dX8_event_118 (by decide) ?_
              refine v_iadd dX8_event_119 (fun ha hb => by omega) ?_
              refine v_putI dX8_event_120 fpX8_186 rfl rfl rfl ?_
              refine v_kill (ls' := [_, _, _, _, _, _]) 5 rfl ?_
              have hp1 := hpos hc_7
              first
                | (exfalso; omega)
                | exact fin _ _ (by unfold bE; first | (rw [if_pos (by omega)]) | (rw [if_neg (by omega)])) (by unfold chE; first | (rw [if_neg (by omega)]) | (rw [if_pos (by omega), if_pos (by omega)]) | (rw [if_pos (by omega), if_neg (by omega)])) hc_7 (by unfold mkK; omega)
            · refine v_iload dX8_event_98 rfl ?_
              refine v_if_eq (tgt := 107) dX8_event_100 (by decide) (fun hc_100 => ?_) (fun hc_100 => ?_)
              · refine v_iconst dX8_event_107 (by decide) ?_
                refine v_goto (tgt := 112) dX8_event_108 (by decide) ?_
                refine v_iast dX8_event_112 rfl (by omega) (by omega) ?_
                rw [i3]
                refine v_aload_n dX8_event_113 rfl rfl ?_
                refine v_dupR_ dX8_event_114 ?_
                refine v_getI dX8_event_115 fX8_186 rfl rfl rfl ?_
                rw [mset_off (by omega), mset_off (by omega), mset_off (by omega), mset_off (by omega), v1, ← hE]
                refine v_iconst dX8_event_118 (by decide) ?_
                refine v_iadd dX8_event_119 (fun ha hb => by omega) ?_
                refine v_putI dX8_event_120 fpX8_186 rfl rfl rfl ?_
                refine v_kill (ls' := [_, _, _, _, _, _]) 5 rfl ?_
                have hp1 := hpos hc_7
                first
                  | (exfalso; omega)
                  | exact fin _ _ (by unfold bE; first | (rw [if_pos (by omega)]) | (rw [if_neg (by omega)])) (by unfold chE; first | (rw [if_neg (by omega)]) | (rw [if_pos (by omega), if_pos (by omega)]) | (rw [if_pos (by omega), if_neg (by omega)])) hc_7 (by unfold mkK; omega)
              · refine v_iconst dX8_event_103 (by decide) ?_
                refine v_goto (tgt := 112) dX8_event_104 (by decide) ?_
                refine v_iast dX8_event_112 rfl (by omega) (by omega) ?_
                rw [i3]
                refine v_aload_n dX8_event_113 rfl rfl ?_
                refine v_dupR_ dX8_event_114 ?_
                refine v_getI dX8_event_115 fX8_186 rfl rfl rfl ?_
                rw [mset_off (by omega), mset_off (by omega), mset_off (by omega), mset_off (by omega), v1, ← hE]
                refine v_iconst dX8_event_118 (by decide) ?_
                refine v_iadd dX8_event_119 (fun ha hb => by omega) ?_
                refine v_putI dX8_event_120 fpX8_186 rfl rfl rfl ?_
                refine v_kill (ls' := [_, _, _, _, _, _]) 5 rfl ?_
                have hp1 := hpos hc_7
                first
                  | (exfalso; omega)
                  | exact fin _ _ (by unfold bE; first | (rw [if_pos (by omega)]) | (rw [if_neg (by omega)])) (by unfold chE; first | (rw [if_neg (by omega)]) | (rw [if_pos (by omega), if_pos (by omega)]) | (rw [if_pos (by omega), if_neg (by omega)])) hc_7 (by unfold mkK; omega)
          · refine v_iconst dX8_event_78 (by decide) ?_
            refine v_goto (tgt := 83) dX8_event_79 (by decide) ?_
            refine v_iast dX8_event_83 rfl (by omega) (by omega) ?_
            rw [i2]
            refine v_aload_n dX8_event_84 rfl rfl ?_
            refine v_getR dX8_event_85 fX8_47 rfl rfl rfl ?_
            refine v_iload dX8_event_88 rfl ?_
            refine v_iconst dX8_event_90 (by decide) ?_
            refine v_iadd dX8_event_91 (fun ha hb => by omega) ?_
            refine v_iload_n dX8_event_92 rfl rfl ?_
            refine v_bipush dX8_event_93 (by decide) ?_
            refine v_icmp_ne (tgt := 111) dX8_event_95 (by decide) (fun hc_95 => ?_) (fun hc_95 => ?_)
            · refine v_iconst dX8_event_111 (by decide) ?_
              refine v_iast dX8_event_112 rfl (by omega) (by omega) ?_
              rw [i3]
              refine v_aload_n dX8_event_113 rfl rfl ?_
              refine v_dupR_ dX8_event_114 ?_
              refine v_getI dX8_event_115 fX8_186 rfl rfl rfl ?_
              rw [mset_off (by omega), mset_off (by omega), mset_off (by omega), mset_off (by omega), v1, ← hE]
              refine v_iconst dX8_event_118 (by decide) ?_
              refine v_iadd dX8_event_119 (fun ha hb => by omega) ?_
              refine v_putI dX8_event_120 fpX8_186 rfl rfl rfl ?_
              refine v_kill (ls' := [_, _, _, _, _, _]) 5 rfl ?_
              have hp1 := hpos hc_7
              first
                | (exfalso; omega)
                | exact fin _ _ (by unfold bE; first | (rw [if_pos (by omega)]) | (rw [if_neg (by omega)])) (by unfold chE; first | (rw [if_neg (by omega)]) | (rw [if_pos (by omega), if_pos (by omega)]) | (rw [if_pos (by omega), if_neg (by omega)])) hc_7 (by unfold mkK; omega)
            · refine v_iload dX8_event_98 rfl ?_
              refine v_if_eq (tgt := 107) dX8_event_100 (by decide) (fun hc_100 => ?_) (fun hc_100 => ?_)
              · refine v_iconst dX8_event_107 (by decide) ?_
                refine v_goto (tgt := 112) dX8_event_108 (by decide) ?_
                refine v_iast dX8_event_112 rfl (by omega) (by omega) ?_
                rw [i3]
                refine v_aload_n dX8_event_113 rfl rfl ?_
                refine v_dupR_ dX8_event_114 ?_
                refine v_getI dX8_event_115 fX8_186 rfl rfl rfl ?_
                rw [mset_off (by omega), mset_off (by omega), mset_off (by omega), mset_off (by omega), v1, ← hE]
                refine v_iconst dX8_event_118 (by decide) ?_
                refine v_iadd dX8_event_119 (fun ha hb => by omega) ?_
                refine v_putI dX8_event_120 fpX8_186 rfl rfl rfl ?_
                refine v_kill (ls' := [_, _, _, _, _, _]) 5 rfl ?_
                have hp1 := hpos hc_7
                first
                  | (exfalso; omega)
                  | exact fin _ _ (by unfold bE; first | (rw [if_pos (by omega)]) | (rw [if_neg (by omega)])) (by unfold chE; first | (rw [if_neg (by omega)]) | (rw [if_pos (by omega), if_pos (by omega)]) | (rw [if_pos (by omega), if_neg (by omega)])) hc_7 (by unfold mkK; omega)
              · refine v_iconst dX8_event_103 (by decide) ?_
                refine v_goto (tgt := 112) dX8_event_104 (by decide) ?_
                refine v_iast dX8_event_112 rfl (by omega) (by omega) ?_
                rw [i3]
                refine v_aload_n dX8_event_113 rfl rfl ?_
                refine v_dupR_ dX8_event_114 ?_
                refine v_getI dX8_event_115 fX8_186 rfl rfl rfl ?_
                rw [mset_off (by omega), mset_off (by omega), mset_off (by omega), mset_off (by omega), v1, ← hE]
                refine v_iconst dX8_event_118 (by decide) ?_
                refine v_iadd dX8_event_119 (fun ha hb => by omega) ?_
                refine v_putI dX8_event_120 fpX8_186 rfl rfl rfl ?_
                refine v_kill (ls' := [_, _, _, _, _, _]) 5 rfl ?_
                have hp1 := hpos hc_7
                first
                  | (exfalso; omega)
                  | exact fin _ _ (by unfold bE; first | (rw [if_pos (by omega)]) | (rw [if_neg (by omega)])) (by unfold chE; first | (rw [if_neg (by omega)]) | (rw [if_pos (by omega), if_pos (by omega)]) | (rw [if_pos (by omega), if_neg (by omega)])) hc_7 (by unfold mkK; omega)
        · refine v_bipush dX8_event_35 (by decide) ?_
          refine v_ireturn dX8_event_37 rfl ?_
          first
            | exact h1 hc_7
            | exact h2 hc_7 (by have hp1 := hpos hc_7; unfold mkK; omega)
  · refine v_iconst dX8_event_10 (by decide) ?_
    refine v_ireturn dX8_event_11 rfl ?_
    first
      | exact h1 hc_7
      | exact h2 hc_7 (by have hp1 := hpos hc_7; unfold mkK; omega)
end
