/-! StreetKeys: the street, the events, who comes in alone -/
abbrev stc (μ : Mem_) : Nat := (μ 0 9).toNat
abbrev dtc (μ : Mem_) : Nat := (μ 0 10).toNat
def StC (μ : Mem_) (s : Nat) : Prop := (0 ≤ μ s 0 ∧ μ s 0 ≤ 6) ∧ (0 ≤ μ s 1 ∧ μ s 1 ≤ 12) ∧ (∀ h : Nat, (h : Int) < μ s 0 → 0 ≤ μ (s + 1) h ∧ μ (s + 1) h ≤ 99) ∧ ∀ p : Nat, (p : Int) < μ s 1 → (μ (s + 2) p = -9 ∨ (0 ≤ μ (s + 2) p ∧ μ (s + 2) p < μ s 0)) ∧ (0 ≤ μ (s + 3) p ∧ μ (s + 3) p ≤ 12)
def cfN (μ : Mem_) (s : Nat) : Nat := s ||| orR 6 (cfC μ s)
theorem re_b {μ : Mem_} (hre : ReOK μ) : ∀ h : Nat, h < 6 → 0 ≤ μ 25 h ∧ μ 25 h < 64 := fun h hh => (hre h hh).1
theorem cfN_lt {μ : Mem_} (hre : ReOK μ) {s : Nat} (hs : s < 2 ^ 6) : cfN μ s < 2 ^ 6 := by
  refine Nat.or_lt_two_pow hs (orR_lt (fun k hk => ?_))
  have := (hre k hk).1
  unfold cfC
  split
  · omega
  · decide
theorem cf_clo {μ : Mem_} (hp : PIc μ) (hre : ReOK μ) {s : Nat} (hs : s < 2 ^ 6) : clo (insC μ) s (cfN μ s) := by
  have hE : ∀ a, insC μ a < 2 ^ 6 := fun a => opens_lt hp 2 a
  refine ⟨sb_l _ _, fun a ha hb => ?_, fun t ht hc => sb_or ht (sb_orR.mpr (fun k hk => ?_))⟩
  · unfold cfN at hb
    rw [Nat.testBit_or, Bool.or_eq_true] at hb
    have key : ∃ h, h < 6 ∧ s.testBit h = true ∧ (2 ^ h ||| (μ 25 h).toNat).testBit a = true := by
      rcases hb with hb | hb
      · exact ⟨a, ha, hb, sb_l _ _ a (by rw [Nat.testBit_two_pow_self])⟩
      · obtain ⟨k, hk, h2⟩ := orR_bit.mp hb
        unfold cfC at h2
        split at h2
        · rename_i q; exact ⟨k, hk, q, sb_r _ _ a h2⟩
        · simp at h2
    obtain ⟨h, hh, h1, h2⟩ := key
    refine sb_tr ((hre h hh).2.2.1 a ha h2) (sb_or (sb_tr (sb_pow.mpr h1) (sb_l _ _)) (sb_tr ?_ (sb_r _ _)))
    intro i hi
    refine orR_bit.mpr ⟨h, hh, ?_⟩
    unfold cfC
    rwa [if_pos h1]
  · unfold cfC
    split
    · rename_i q
      exact sb_tr (sb_r _ _) ((hre k hk).2.2.2 t (sb_pow.mpr (ht k q)) hc)
    · exact sb_0 t
section
variable {μ : Mem_} {Q : PV → Mem_ → Prop}
set_option maxRecDepth 10000 in
theorem c_X7_isHouse {h : Int} (hst : isSt (stc μ)) (hq : Q (I_ (b2i (0 ≤ h ∧ h < μ (stc μ) 0))) μ) : V_ nX7_isHouse 0 [R_ 0, I_ h] [] μ Q := by
  refine v_iload_n dX7_isHouse_0 rfl rfl ?_
  refine v_if_lt (tgt := 19) dX7_isHouse_1 (by decide) (fun hc_1 => ?_) (fun hc_1 => ?_)
  · refine v_iconst dX7_isHouse_19 (by decide) ?_
    refine v_zreturn dX7_isHouse_20 rfl (by first | exact Or.inl rfl | exact Or.inr rfl | exact b2i_01 _ | assumption) ?_
    rwa [b2i_f (by omega)] at hq
  · refine v_iload_n dX7_isHouse_4 rfl rfl ?_
    refine v_aload_n dX7_isHouse_5 rfl rfl ?_
    refine v_getX dX7_isHouse_6 fX7_66 rfl rfl rfl ?_
    show V_ _ _ _ (R_ (stc _) :: _) _ _
    refine v_getI dX7_isHouse_9 fX7_153 (shp_st hst) (fk_st0 hst) rfl ?_
    refine v_icmp_ge (tgt := 19) dX7_isHouse_12 (by decide) (fun hc_12 => ?_) (fun hc_12 => ?_)
    · refine v_iconst dX7_isHouse_19 (by decide) ?_
      refine v_zreturn dX7_isHouse_20 rfl (by first | exact Or.inl rfl | exact Or.inr rfl | exact b2i_01 _ | assumption) ?_
      rwa [b2i_f (by omega)] at hq
    · refine v_iconst dX7_isHouse_15 (by decide) ?_
      refine v_goto (tgt := 20) dX7_isHouse_16 (by decide) ?_
      refine v_zreturn dX7_isHouse_20 rfl (by first | exact Or.inl rfl | exact Or.inr rfl | exact b2i_01 _ | assumption) ?_
      rwa [b2i_t (by omega)] at hq
set_option maxRecDepth 10000 in
theorem c_X7_isPerson {h : Int} (hst : isSt (stc μ)) (hq : Q (I_ (b2i (0 ≤ h ∧ h < μ (stc μ) 1))) μ) : V_ nX7_isPerson 0 [R_ 0, I_ h] [] μ Q := by
  refine v_iload_n dX7_isPerson_0 rfl rfl ?_
  refine v_if_lt (tgt := 19) dX7_isPerson_1 (by decide) (fun hc_1 => ?_) (fun hc_1 => ?_)
  · refine v_iconst dX7_isPerson_19 (by decide) ?_
    refine v_zreturn dX7_isPerson_20 rfl (by first | exact Or.inl rfl | exact Or.inr rfl | exact b2i_01 _ | assumption) ?_
    rwa [b2i_f (by omega)] at hq
  · refine v_iload_n dX7_isPerson_4 rfl rfl ?_
    refine v_aload_n dX7_isPerson_5 rfl rfl ?_
    refine v_getX dX7_isPerson_6 fX7_66 rfl rfl rfl ?_
    show V_ _ _ _ (R_ (stc _) :: _) _ _
    refine v_getI dX7_isPerson_9 fX7_226 (shp_st hst) (fk_st1 hst) rfl ?_
    refine v_icmp_ge (tgt := 19) dX7_isPerson_12 (by decide) (fun hc_12 => ?_) (fun hc_12 => ?_)
    · refine v_iconst dX7_isPerson_19 (by decide) ?_
      refine v_zreturn dX7_isPerson_20 rfl (by first | exact Or.inl rfl | exact Or.inr rfl | exact b2i_01 _ | assumption) ?_
      rwa [b2i_f (by omega)] at hq
    · refine v_iconst dX7_isPerson_15 (by decide) ?_
      refine v_goto (tgt := 20) dX7_isPerson_16 (by decide) ?_
      refine v_zreturn dX7_isPerson_20 rfl (by first | exact Or.inl rfl | exact Or.inr rfl | exact b2i_01 _ | assumption) ?_
      rwa [b2i_t (by omega)] at hq
def hdC (μ : Mem_) (h : Nat) (what : Int) : Int := if what = 0 then μ (stc μ + 1) h else if what = 1 then μ 23 h else if what = 2 then (orR (μ 17 0).toNat (lkF μ h) : Int) else (orR (μ (stc μ) 1).toNat (peF μ (stc μ) h) : Int)
set_option maxRecDepth 10000 in
theorem c_X7_houseDetail {h what : Int} (hst : isSt (stc μ)) (hs : StC μ (stc μ)) (hp : PIc μ) (hh : 0 ≤ h ∧ h < μ (stc μ) 0) (hq : Q (I_ (hdC μ h.toNat what)) μ) : V_ nX7_houseDetail 0 [R_ 0, I_ h, I_ what] [] μ Q := by
  have hs1 := hs.1
  have hs2 := hs.2.1
  unfold hdC at hq
  rw [show ((h.toNat : Nat) : Int) = h by omega] at hq
  refine v_iload_n dX7_houseDetail_0 rfl rfl ?_
  rcases (show what < 0 ∨ 2 < what ∨ what = 0 ∨ what = 1 ∨ what = 2 by omega) with hsw | hsw | hsw | hsw | hsw
  · refine v_tableOut (tgt := 55) dX7_houseDetail_1 (Or.inl hsw) (by decide) ?_
    refine v_aload_n dX7_houseDetail_55 rfl rfl ?_
    refine v_getX dX7_houseDetail_56 fX7_66 rfl rfl rfl ?_
    show V_ _ _ _ (R_ (stc _) :: _) _ _
    refine v_iload_n dX7_houseDetail_59 rfl rfl ?_
    refine v_callVi [_] dX7_houseDetail_60 lX7_354 kvX5_peopleOf (plX5 _ _) (Or.inl rfl) (shp_st hst) rfl rfl rfl rfl rfl rfl rfl rfl (c_X5_peopleOf hst (by omega) ?_)
    refine v_ireturn dX7_houseDetail_63 rfl ?_
    rwa [if_neg (by omega), if_neg (by omega), if_neg (by omega)] at hq
  · refine v_tableOut (tgt := 55) dX7_houseDetail_1 (Or.inr hsw) (by decide) ?_
    refine v_aload_n dX7_houseDetail_55 rfl rfl ?_
    refine v_getX dX7_houseDetail_56 fX7_66 rfl rfl rfl ?_
    show V_ _ _ _ (R_ (stc _) :: _) _ _
    refine v_iload_n dX7_houseDetail_59 rfl rfl ?_
    refine v_callVi [_] dX7_houseDetail_60 lX7_354 kvX5_peopleOf (plX5 _ _) (Or.inl rfl) (shp_st hst) rfl rfl rfl rfl rfl rfl rfl rfl (c_X5_peopleOf hst (by omega) ?_)
    refine v_ireturn dX7_houseDetail_63 rfl ?_
    rwa [if_neg (by omega), if_neg (by omega), if_neg (by omega)] at hq
  · refine v_tableIn (off := 27) (tgt := 28) dX7_houseDetail_1 (by rw [hsw]; decide) (by rw [hsw]; decide) (by rw [hsw]; decide) (by decide) ?_
    refine v_aload_n dX7_houseDetail_28 rfl rfl ?_
    refine v_getX dX7_houseDetail_29 fX7_66 rfl rfl rfl ?_
    show V_ _ _ _ (R_ (stc _) :: _) _ _
    refine v_iload_n dX7_houseDetail_32 rfl rfl ?_
    refine v_callVi [_] dX7_houseDetail_33 lX7_306 kvX5_costOf (plX5 _ _) (Or.inl rfl) (shp_st hst) rfl rfl rfl rfl rfl rfl rfl rfl (c_X5_costOf hst (by omega) ?_)
    refine v_ireturn dX7_houseDetail_36 rfl ?_
    rw [if_pos (by omega)] at hq
    rwa [coC, if_pos (by omega)]
  · refine v_tableIn (off := 36) (tgt := 37) dX7_houseDetail_1 (by rw [hsw]; decide) (by rw [hsw]; decide) (by rw [hsw]; decide) (by decide) ?_
    refine v_aload_n dX7_houseDetail_37 rfl rfl ?_
    refine v_getR dX7_houseDetail_38 fX7_34 rfl rfl rfl ?_
    refine v_iload_n dX7_houseDetail_41 rfl rfl ?_
    refine v_callVi [_] dX7_houseDetail_42 lX7_351 kvX2_changesOf (plX2 _ _) (Or.inl rfl) rfl rfl rfl rfl rfl rfl rfl rfl rfl (c_X2_changesOf ?_)
    refine v_ireturn dX7_houseDetail_45 rfl ?_
    rw [if_neg (by omega), if_pos (by omega)] at hq
    rwa [chC, if_pos (by omega)]
  · refine v_tableIn (off := 45) (tgt := 46) dX7_houseDetail_1 (by rw [hsw]; decide) (by rw [hsw]; decide) (by rw [hsw]; decide) (by decide) ?_
    refine v_aload_n dX7_houseDetail_46 rfl rfl ?_
    refine v_getR dX7_houseDetail_47 fX7_34 rfl rfl rfl ?_
    refine v_iload_n dX7_houseDetail_50 rfl rfl ?_
    refine v_callVi [_] dX7_houseDetail_51 lX7_261 kvX2_liveKeysOf (plX2 _ _) (Or.inl rfl) rfl rfl rfl rfl rfl rfl rfl rfl rfl (c_X2_liveKeysOf hp ?_)
    refine v_ireturn dX7_houseDetail_54 rfl ?_
    rwa [if_neg (by omega), if_neg (by omega), if_pos (by omega)] at hq
def pdC (μ : Mem_) (p : Nat) (what : Int) : Int := if what = 0 then μ (stc μ + 2) p else if what = 1 then μ (stc μ + 3) p else (orR (μ 17 0).toNat (hkF μ p) : Int)
set_option maxRecDepth 10000 in
theorem c_X7_personDetail {p what : Int} (hst : isSt (stc μ)) (hs : StC μ (stc μ)) (hp : PIc μ) (hh : 0 ≤ p ∧ p < μ (stc μ) 1) (hq : Q (I_ (pdC μ p.toNat what)) μ) : V_ nX7_personDetail 0 [R_ 0, I_ p, I_ what] [] μ Q := by
  have hs1 := hs.1
  have hs2 := hs.2.1
  unfold pdC at hq
  rw [show ((p.toNat : Nat) : Int) = p by omega] at hq
  refine v_iload_n dX7_personDetail_0 rfl rfl ?_
  rcases (show (what ≠ 0 ∧ what ≠ 1) ∨ what = 0 ∨ what = 1 by omega) with hsw | hsw | hsw
  · refine v_lookup (off := 45) (tgt := 46) dX7_personDetail_1 (by decide) (by simp [Op.lookupswitch.offset, List.find?]; omega) (by decide) ?_
    refine v_aload_n dX7_personDetail_46 rfl rfl ?_
    refine v_getR dX7_personDetail_47 fX7_34 rfl rfl rfl ?_
    refine v_iload_n dX7_personDetail_50 rfl rfl ?_
    refine v_callVi [_] dX7_personDetail_51 lX7_357 kvX2_keysHeldBy (plX2 _ _) (Or.inl rfl) rfl rfl rfl rfl rfl rfl rfl rfl rfl (c_X2_keysHeldBy hp ?_)
    refine v_ireturn dX7_personDetail_54 rfl ?_
    rwa [if_neg (by omega), if_neg (by omega)] at hq
  · refine v_lookup (off := 27) (tgt := 28) dX7_personDetail_1 (by decide) (by rw [hsw]; decide) (by decide) ?_
    refine v_aload_n dX7_personDetail_28 rfl rfl ?_
    refine v_getX dX7_personDetail_29 fX7_66 rfl rfl rfl ?_
    show V_ _ _ _ (R_ (stc _) :: _) _ _
    refine v_iload_n dX7_personDetail_32 rfl rfl ?_
    refine v_callVi [_] dX7_personDetail_33 lX7_280 kvX5_homeOf (plX5 _ _) (Or.inl rfl) (shp_st hst) rfl rfl rfl rfl rfl rfl rfl rfl (c_X5_homeOf hst (by omega) ?_)
    refine v_ireturn dX7_personDetail_36 rfl ?_
    rw [if_pos (by omega)] at hq
    rwa [hoC, if_pos (by omega)]
  · refine v_lookup (off := 36) (tgt := 37) dX7_personDetail_1 (by decide) (by rw [hsw]; decide) (by decide) ?_
    refine v_aload_n dX7_personDetail_37 rfl rfl ?_
    refine v_getX dX7_personDetail_38 fX7_66 rfl rfl rfl ?_
    show V_ _ _ _ (R_ (stc _) :: _) _ _
    refine v_iload_n dX7_personDetail_41 rfl rfl ?_
    refine v_callVi [_] dX7_personDetail_42 lX7_237 kvX5_answersOf (plX5 _ _) (Or.inl rfl) (shp_st hst) rfl rfl rfl rfl rfl rfl rfl rfl (c_X5_answersOf hst (by omega) ?_)
    refine v_ireturn dX7_personDetail_45 rfl ?_
    rw [if_neg (by omega), if_pos (by omega)] at hq
    rwa [anC, if_pos (by omega)]
set_option maxRecDepth 10000 in
theorem c_X7_told {e what : Int} (hl : μ 7 0 ≤ 40) (h1 : ¬ ((0 ≤ e ∧ e < μ 7 0) ∧ (0 ≤ what ∧ what ≤ 3)) → Q (I_ (-1)) μ) (h2 : (0 ≤ e ∧ e < μ 7 0) → (0 ≤ what ∧ what ≤ 3) → Q (I_ 1) (tlC μ (ldC μ e.toNat what))) : V_ nX7_told 0 [R_ 0, I_ e, I_ what] [] μ Q := by
  refine v_aload_n dX7_told_0 rfl rfl ?_
  refine v_getR dX7_told_1 fX7_24 rfl rfl rfl ?_
  refine v_iload_n dX7_told_4 rfl rfl ?_
  refine v_callVi [_] dX7_told_5 lX7_175 kvX0_knows (plX0 _ _) (Or.inr rfl) rfl rfl rfl rfl rfl rfl rfl rfl rfl (c_X0_knows ?_)
  refine v_ifb_eq (tgt := 20) dX7_told_8 (by decide) (fun hc_8 => ?_) (fun hc_8 => ?_)
  · refine v_iconst dX7_told_20 (by decide) ?_
    refine v_ireturn dX7_told_21 rfl ?_
    first | exact h1 (by omega) | exact h2 (by omega) (by omega)
  · refine v_iload_n dX7_told_11 rfl rfl ?_
    refine v_if_lt (tgt := 20) dX7_told_12 (by decide) (fun hc_12 => ?_) (fun hc_12 => ?_)
    · refine v_iconst dX7_told_20 (by decide) ?_
      refine v_ireturn dX7_told_21 rfl ?_
      first | exact h1 (by omega) | exact h2 (by omega) (by omega)
    · refine v_iload_n dX7_told_15 rfl rfl ?_
      refine v_iconst dX7_told_16 (by decide) ?_
      refine v_icmp_le (tgt := 22) dX7_told_17 (by decide) (fun hc_17 => ?_) (fun hc_17 => ?_)
      · refine v_aload_n dX7_told_22 rfl rfl ?_
        refine v_aload_n dX7_told_23 rfl rfl ?_
        refine v_getR dX7_told_24 fX7_24 rfl rfl rfl ?_
        refine v_iload_n dX7_told_27 rfl rfl ?_
        refine v_iload_n dX7_told_28 rfl rfl ?_
        refine v_callVi [_, _] dX7_told_29 lX7_176 kvX0_detail (plX0 _ _) (Or.inl rfl) rfl rfl rfl rfl rfl rfl rfl rfl rfl (c_X0_detail (by omega) (by omega) ?_)
        refine v_callVi [_] dX7_told_32 lX7_103 kvX7_tell (plX7 _ _) (Or.inl rfl) rfl rfl rfl rfl rfl rfl rfl rfl rfl (c_X7_tell ?_)
        refine v_ireturn dX7_told_35 rfl ?_
        first | exact h1 (by omega) | exact h2 (by omega) (by omega)
      · refine v_iconst dX7_told_20 (by decide) ?_
        refine v_ireturn dX7_told_21 rfl ?_
        first | exact h1 (by omega) | exact h2 (by omega) (by omega)
def mkC (μ : Mem_) (e : Nat) (kind : Int) : Int := if kind = 1 then kbC μ e else if kind = 3 ∨ kind = 4 then μ 10 e else μ 9 e
set_option maxRecDepth 10000 in
theorem c_X7_mark {e kind : Int} (hl : μ 7 0 ≤ 40) (hc : fcOK μ) (h1 : ¬ ((0 ≤ e ∧ e < μ 7 0) ∧ (1 ≤ kind ∧ kind ≤ 7)) → Q (I_ (-1)) μ) (h2 : (0 ≤ e ∧ e < μ 7 0) → (1 ≤ kind ∧ kind ≤ 7) → ¬ ofK (μ 8 e.toNat) kind → Q (I_ (-3)) (fdC μ 3)) (h3 : (0 ≤ e ∧ e < μ 7 0) → (1 ≤ kind ∧ kind ≤ 7) → ofK (μ 8 e.toNat) kind → Q (I_ (mkC μ e.toNat kind)) μ) : V_ nX7_mark 0 [R_ 0, I_ e, I_ kind] [] μ Q := by
  unfold mkC at h3
  refine v_aload_n dX7_mark_0 rfl rfl ?_
  refine v_getR dX7_mark_1 fX7_24 rfl rfl rfl ?_
  refine v_iload_n dX7_mark_4 rfl rfl ?_
  refine v_callVi [_] dX7_mark_5 lX7_175 kvX0_knows (plX0 _ _) (Or.inr rfl) rfl rfl rfl rfl rfl rfl rfl rfl rfl (c_X0_knows ?_)
  refine v_ifb_eq (tgt := 22) dX7_mark_8 (by decide) (fun hc_8 => ?_) (fun hc_8 => ?_)
  · refine v_iconst dX7_mark_22 (by decide) ?_
    refine v_ireturn dX7_mark_23 rfl ?_
    first
      | exact h1 (by omega)
      | exact h2 (by omega) (by omega) (by omega)
      | (have h3 := h3 (by omega) (by omega) (by omega); rwa [if_pos (by omega)] at h3)
      | (have h3 := h3 (by omega) (by omega) (by omega); rwa [if_neg (by omega), if_pos (by omega)] at h3)
      | (have h3 := h3 (by omega) (by omega) (by omega); rwa [if_neg (by omega), if_neg (by omega)] at h3)
  · refine v_iload_n dX7_mark_11 rfl rfl ?_
    refine v_iconst dX7_mark_12 (by decide) ?_
    refine v_icmp_lt (tgt := 22) dX7_mark_13 (by decide) (fun hc_13 => ?_) (fun hc_13 => ?_)
    · refine v_iconst dX7_mark_22 (by decide) ?_
      refine v_ireturn dX7_mark_23 rfl ?_
      first
        | exact h1 (by omega)
        | exact h2 (by omega) (by omega) (by omega)
        | (have h3 := h3 (by omega) (by omega) (by omega); rwa [if_pos (by omega)] at h3)
        | (have h3 := h3 (by omega) (by omega) (by omega); rwa [if_neg (by omega), if_pos (by omega)] at h3)
        | (have h3 := h3 (by omega) (by omega) (by omega); rwa [if_neg (by omega), if_neg (by omega)] at h3)
    · refine v_iload_n dX7_mark_16 rfl rfl ?_
      refine v_bipush dX7_mark_17 (by decide) ?_
      refine v_icmp_le (tgt := 24) dX7_mark_19 (by decide) (fun hc_19 => ?_) (fun hc_19 => ?_)
      · refine v_aload_n dX7_mark_24 rfl rfl ?_
        refine v_getR dX7_mark_25 fX7_24 rfl rfl rfl ?_
        refine v_getR dX7_mark_28 fX7_179 rfl rfl rfl ?_
        refine v_iload_n dX7_mark_31 rfl rfl ?_
        refine v_iald dX7_mark_32 rfl (by omega) (by omega) ?_
        refine v_iload_n dX7_mark_33 rfl rfl ?_
        refine v_callSi [_, _] dX7_mark_34 lX7_182 ksX0_isOfKind (plX0 _ _) (Or.inr rfl) rfl rfl rfl rfl rfl rfl (c_X0_isOfKind ?_)
        refine v_ifb_ne (tgt := 46) dX7_mark_37 (by decide) (fun hc_37 => ?_) (fun hc_37 => ?_)
        · refine v_iload_n dX7_mark_46 rfl rfl ?_
          rcases (show kind < 1 ∨ 4 < kind ∨ kind = 1 ∨ kind = 2 ∨ kind = 3 ∨ kind = 4 by omega) with hsw | hsw | hsw | hsw | hsw | hsw
          · refine v_tableOut (tgt := 95) dX7_mark_47 (Or.inl hsw) (by decide) ?_
            refine v_aload_n dX7_mark_95 rfl rfl ?_
            refine v_getR dX7_mark_96 fX7_24 rfl rfl rfl ?_
            refine v_getR dX7_mark_99 fX7_192 rfl rfl rfl ?_
            refine v_iload_n dX7_mark_102 rfl rfl ?_
            refine v_iald dX7_mark_103 rfl (by omega) (by omega) ?_
            refine v_ireturn dX7_mark_104 rfl ?_
            first
              | exact h1 (by omega)
              | exact h2 (by omega) (by omega) (by omega)
              | (have h3 := h3 (by omega) (by omega) (by omega); rwa [if_pos (by omega)] at h3)
              | (have h3 := h3 (by omega) (by omega) (by omega); rwa [if_neg (by omega), if_pos (by omega)] at h3)
              | (have h3 := h3 (by omega) (by omega) (by omega); rwa [if_neg (by omega), if_neg (by omega)] at h3)
          · refine v_tableOut (tgt := 95) dX7_mark_47 (Or.inr hsw) (by decide) ?_
            refine v_aload_n dX7_mark_95 rfl rfl ?_
            refine v_getR dX7_mark_96 fX7_24 rfl rfl rfl ?_
            refine v_getR dX7_mark_99 fX7_192 rfl rfl rfl ?_
            refine v_iload_n dX7_mark_102 rfl rfl ?_
            refine v_iald dX7_mark_103 rfl (by omega) (by omega) ?_
            refine v_ireturn dX7_mark_104 rfl ?_
            first
              | exact h1 (by omega)
              | exact h2 (by omega) (by omega) (by omega)
              | (have h3 := h3 (by omega) (by omega) (by omega); rwa [if_pos (by omega)] at h3)
              | (have h3 := h3 (by omega) (by omega) (by omega); rwa [if_neg (by omega), if_pos (by omega)] at h3)
              | (have h3 := h3 (by omega) (by omega) (by omega); rwa [if_neg (by omega), if_neg (by omega)] at h3)
          · refine v_tableIn (off := 29) (tgt := 76) dX7_mark_47 (by rw [hsw]; decide) (by rw [hsw]; decide) (by rw [hsw]; decide) (by decide) ?_
            refine v_aload_n dX7_mark_76 rfl rfl ?_
            refine v_getR dX7_mark_77 fX7_24 rfl rfl rfl ?_
            refine v_iload_n dX7_mark_80 rfl rfl ?_
            refine v_callVi [_] dX7_mark_81 lX7_186 kvX0_keysBefore (plX0 _ _) (Or.inl rfl) rfl rfl rfl rfl rfl rfl rfl rfl rfl (c_X0_keysBefore (by omega) (by omega) ?_)
            refine v_ireturn dX7_mark_84 rfl ?_
            first
              | exact h1 (by omega)
              | exact h2 (by omega) (by omega) (by omega)
              | (have h3 := h3 (by omega) (by omega) (by omega); rwa [if_pos (by omega)] at h3)
              | (have h3 := h3 (by omega) (by omega) (by omega); rwa [if_neg (by omega), if_pos (by omega)] at h3)
              | (have h3 := h3 (by omega) (by omega) (by omega); rwa [if_neg (by omega), if_neg (by omega)] at h3)
          · refine v_tableIn (off := 48) (tgt := 95) dX7_mark_47 (by rw [hsw]; decide) (by rw [hsw]; decide) (by rw [hsw]; decide) (by decide) ?_
            refine v_aload_n dX7_mark_95 rfl rfl ?_
            refine v_getR dX7_mark_96 fX7_24 rfl rfl rfl ?_
            refine v_getR dX7_mark_99 fX7_192 rfl rfl rfl ?_
            refine v_iload_n dX7_mark_102 rfl rfl ?_
            refine v_iald dX7_mark_103 rfl (by omega) (by omega) ?_
            refine v_ireturn dX7_mark_104 rfl ?_
            first
              | exact h1 (by omega)
              | exact h2 (by omega) (by omega) (by omega)
              | (have h3 := h3 (by omega) (by omega) (by omega); rwa [if_pos (by omega)] at h3)
              | (have h3 := h3 (by omega) (by omega) (by omega); rwa [if_neg (by omega), if_pos (by omega)] at h3)
              | (have h3 := h3 (by omega) (by omega) (by omega); rwa [if_neg (by omega), if_neg (by omega)] at h3)
          · refine v_tableIn (off := 38) (tgt := 85) dX7_mark_47 (by rw [hsw]; decide) (by rw [hsw]; decide) (by rw [hsw]; decide) (by decide) ?_
            refine v_aload_n dX7_mark_85 rfl rfl ?_
            refine v_getR dX7_mark_86 fX7_24 rfl rfl rfl ?_
            refine v_getR dX7_mark_89 fX7_189 rfl rfl rfl ?_
            refine v_iload_n dX7_mark_92 rfl rfl ?_
            refine v_iald dX7_mark_93 rfl (by omega) (by omega) ?_
            refine v_ireturn dX7_mark_94 rfl ?_
            first
              | exact h1 (by omega)
              | exact h2 (by omega) (by omega) (by omega)
              | (have h3 := h3 (by omega) (by omega) (by omega); rwa [if_pos (by omega)] at h3)
              | (have h3 := h3 (by omega) (by omega) (by omega); rwa [if_neg (by omega), if_pos (by omega)] at h3)
              | (have h3 := h3 (by omega) (by omega) (by omega); rwa [if_neg (by omega), if_neg (by omega)] at h3)
          · refine v_tableIn (off := 38) (tgt := 85) dX7_mark_47 (by rw [hsw]; decide) (by rw [hsw]; decide) (by rw [hsw]; decide) (by decide) ?_
            refine v_aload_n dX7_mark_85 rfl rfl ?_
            refine v_getR dX7_mark_86 fX7_24 rfl rfl rfl ?_
            refine v_getR dX7_mark_89 fX7_189 rfl rfl rfl ?_
            refine v_iload_n dX7_mark_92 rfl rfl ?_
            refine v_iald dX7_mark_93 rfl (by omega) (by omega) ?_
            refine v_ireturn dX7_mark_94 rfl ?_
            first
              | exact h1 (by omega)
              | exact h2 (by omega) (by omega) (by omega)
              | (have h3 := h3 (by omega) (by omega) (by omega); rwa [if_pos (by omega)] at h3)
              | (have h3 := h3 (by omega) (by omega) (by omega); rwa [if_neg (by omega), if_pos (by omega)] at h3)
              | (have h3 := h3 (by omega) (by omega) (by omega); rwa [if_neg (by omega), if_neg (by omega)] at h3)
        · refine v_aload_n dX7_mark_40 rfl rfl ?_
          refine v_iconst dX7_mark_41 (by decide) ?_
          refine v_callVi [_] dX7_mark_42 lX7_119 kvX7_found (plX7 _ _) (Or.inl rfl) rfl rfl rfl rfl rfl rfl rfl rfl rfl (c_X7_found (f := 3) rfl (by decide) hc ?_)
          refine v_ireturn dX7_mark_45 rfl ?_
          first
            | exact h1 (by omega)
            | exact h2 (by omega) (by omega) (by omega)
            | (have h3 := h3 (by omega) (by omega) (by omega); rwa [if_pos (by omega)] at h3)
            | (have h3 := h3 (by omega) (by omega) (by omega); rwa [if_neg (by omega), if_pos (by omega)] at h3)
            | (have h3 := h3 (by omega) (by omega) (by omega); rwa [if_neg (by omega), if_neg (by omega)] at h3)
      · refine v_iconst dX7_mark_22 (by decide) ?_
        refine v_ireturn dX7_mark_23 rfl ?_
        first
          | exact h1 (by omega)
          | exact h2 (by omega) (by omega) (by omega)
          | (have h3 := h3 (by omega) (by omega) (by omega); rwa [if_pos (by omega)] at h3)
          | (have h3 := h3 (by omega) (by omega) (by omega); rwa [if_neg (by omega), if_pos (by omega)] at h3)
          | (have h3 := h3 (by omega) (by omega) (by omega); rwa [if_neg (by omega), if_neg (by omega)] at h3)
set_option maxRecDepth 10000 in
theorem c_X7_house {h what : Int} (hst : isSt (stc μ)) (hs : StC μ (stc μ)) (hp : PIc μ) (h1 : ¬ ((0 ≤ h ∧ h < μ (stc μ) 0) ∧ (0 ≤ what ∧ what ≤ 3)) → Q (I_ (-1)) μ) (h2 : (0 ≤ h ∧ h < μ (stc μ) 0) → (0 ≤ what ∧ what ≤ 3) → Q (I_ 1) (tlC μ (hdC μ h.toNat what))) : V_ nX7_house 0 [R_ 0, I_ h, I_ what] [] μ Q := by
  refine v_aload_n dX7_house_0 rfl rfl ?_
  refine v_iload_n dX7_house_1 rfl rfl ?_
  refine v_callVi [_] dX7_house_2 lX7_195 kvX7_isHouse (plX7 _ _) (Or.inr rfl) rfl rfl rfl rfl rfl rfl rfl rfl rfl (c_X7_isHouse hst ?_)
  refine v_ifb_eq (tgt := 17) dX7_house_5 (by decide) (fun hc_5 => ?_) (fun hc_5 => ?_)
  · refine v_iconst dX7_house_17 (by decide) ?_
    refine v_ireturn dX7_house_18 rfl ?_
    first | exact h1 (by omega) | exact h2 (by omega) (by omega)
  · refine v_iload_n dX7_house_8 rfl rfl ?_
    refine v_if_lt (tgt := 17) dX7_house_9 (by decide) (fun hc_9 => ?_) (fun hc_9 => ?_)
    · refine v_iconst dX7_house_17 (by decide) ?_
      refine v_ireturn dX7_house_18 rfl ?_
      first | exact h1 (by omega) | exact h2 (by omega) (by omega)
    · refine v_iload_n dX7_house_12 rfl rfl ?_
      refine v_iconst dX7_house_13 (by decide) ?_
      refine v_icmp_le (tgt := 19) dX7_house_14 (by decide) (fun hc_14 => ?_) (fun hc_14 => ?_)
      · refine v_aload_n dX7_house_19 rfl rfl ?_
        refine v_aload_n dX7_house_20 rfl rfl ?_
        refine v_iload_n dX7_house_21 rfl rfl ?_
        refine v_iload_n dX7_house_22 rfl rfl ?_
        refine v_callVi [_, _] dX7_house_23 lX7_198 kvX7_houseDetail (plX7 _ _) (Or.inl rfl) rfl rfl rfl rfl rfl rfl rfl rfl rfl (c_X7_houseDetail hst hs hp (by omega) ?_)
        refine v_callVi [_] dX7_house_26 lX7_103 kvX7_tell (plX7 _ _) (Or.inl rfl) rfl rfl rfl rfl rfl rfl rfl rfl rfl (c_X7_tell ?_)
        refine v_ireturn dX7_house_29 rfl ?_
        first | exact h1 (by omega) | exact h2 (by omega) (by omega)
      · refine v_iconst dX7_house_17 (by decide) ?_
        refine v_ireturn dX7_house_18 rfl ?_
        first | exact h1 (by omega) | exact h2 (by omega) (by omega)
set_option maxRecDepth 10000 in
theorem c_X7_person {p what : Int} (hst : isSt (stc μ)) (hs : StC μ (stc μ)) (hp : PIc μ) (h1 : ¬ ((0 ≤ p ∧ p < μ (stc μ) 1) ∧ (0 ≤ what ∧ what ≤ 2)) → Q (I_ (-1)) μ) (h2 : (0 ≤ p ∧ p < μ (stc μ) 1) → (0 ≤ what ∧ what ≤ 2) → Q (I_ 1) (tlC μ (pdC μ p.toNat what))) : V_ nX7_person 0 [R_ 0, I_ p, I_ what] [] μ Q := by
  refine v_aload_n dX7_person_0 rfl rfl ?_
  refine v_iload_n dX7_person_1 rfl rfl ?_
  refine v_callVi [_] dX7_person_2 lX7_201 kvX7_isPerson (plX7 _ _) (Or.inr rfl) rfl rfl rfl rfl rfl rfl rfl rfl rfl (c_X7_isPerson hst ?_)
  refine v_ifb_eq (tgt := 17) dX7_person_5 (by decide) (fun hc_5 => ?_) (fun hc_5 => ?_)
  · refine v_iconst dX7_person_17 (by decide) ?_
    refine v_ireturn dX7_person_18 rfl ?_
    first | exact h1 (by omega) | exact h2 (by omega) (by omega)
  · refine v_iload_n dX7_person_8 rfl rfl ?_
    refine v_if_lt (tgt := 17) dX7_person_9 (by decide) (fun hc_9 => ?_) (fun hc_9 => ?_)
    · refine v_iconst dX7_person_17 (by decide) ?_
      refine v_ireturn dX7_person_18 rfl ?_
      first | exact h1 (by omega) | exact h2 (by omega) (by omega)
    · refine v_iload_n dX7_person_12 rfl rfl ?_
      refine v_iconst dX7_person_13 (by decide) ?_
      refine v_icmp_le (tgt := 19) dX7_person_14 (by decide) (fun hc_14 => ?_) (fun hc_14 => ?_)
      · refine v_aload_n dX7_person_19 rfl rfl ?_
        refine v_aload_n dX7_person_20 rfl rfl ?_
        refine v_iload_n dX7_person_21 rfl rfl ?_
        refine v_iload_n dX7_person_22 rfl rfl ?_
        refine v_callVi [_, _] dX7_person_23 lX7_204 kvX7_personDetail (plX7 _ _) (Or.inl rfl) rfl rfl rfl rfl rfl rfl rfl rfl rfl (c_X7_personDetail hst hs hp (by omega) ?_)
        refine v_callVi [_] dX7_person_26 lX7_103 kvX7_tell (plX7 _ _) (Or.inl rfl) rfl rfl rfl rfl rfl rfl rfl rfl rfl (c_X7_tell ?_)
        refine v_ireturn dX7_person_29 rfl ?_
        first | exact h1 (by omega) | exact h2 (by omega) (by omega)
      · refine v_iconst dX7_person_17 (by decide) ?_
        refine v_ireturn dX7_person_18 rfl ?_
        first | exact h1 (by omega) | exact h2 (by omega) (by omega)
set_option maxRecDepth 10000 in
theorem c_X7_key {k what : Int} (hp : PIc μ) (h1 : ¬ ((0 ≤ k ∧ k < μ 17 0) ∧ (0 ≤ what ∧ what ≤ 4)) → Q (I_ (-1)) μ) (h2 : (0 ≤ k ∧ k < μ 17 0) → (0 ≤ what ∧ what ≤ 4) → Q (I_ 1) (tlC μ (kdC μ k.toNat what))) : V_ nX7_key 0 [R_ 0, I_ k, I_ what] [] μ Q := by
  refine v_aload_n dX7_key_0 rfl rfl ?_
  refine v_getR dX7_key_1 fX7_34 rfl rfl rfl ?_
  refine v_iload_n dX7_key_4 rfl rfl ?_
  refine v_callVi [_] dX7_key_5 lX7_207 kvX2_isKey (plX2 _ _) (Or.inr rfl) rfl rfl rfl rfl rfl rfl rfl rfl rfl (c_X2_isKey ?_)
  refine v_ifb_eq (tgt := 20) dX7_key_8 (by decide) (fun hc_8 => ?_) (fun hc_8 => ?_)
  · refine v_iconst dX7_key_20 (by decide) ?_
    refine v_ireturn dX7_key_21 rfl ?_
    first | exact h1 (by omega) | exact h2 (by omega) (by omega)
  · refine v_iload_n dX7_key_11 rfl rfl ?_
    refine v_if_lt (tgt := 20) dX7_key_12 (by decide) (fun hc_12 => ?_) (fun hc_12 => ?_)
    · refine v_iconst dX7_key_20 (by decide) ?_
      refine v_ireturn dX7_key_21 rfl ?_
      first | exact h1 (by omega) | exact h2 (by omega) (by omega)
    · refine v_iload_n dX7_key_15 rfl rfl ?_
      refine v_iconst dX7_key_16 (by decide) ?_
      refine v_icmp_le (tgt := 22) dX7_key_17 (by decide) (fun hc_17 => ?_) (fun hc_17 => ?_)
      · refine v_aload_n dX7_key_22 rfl rfl ?_
        refine v_aload_n dX7_key_23 rfl rfl ?_
        refine v_getR dX7_key_24 fX7_34 rfl rfl rfl ?_
        refine v_iload_n dX7_key_27 rfl rfl ?_
        refine v_iload_n dX7_key_28 rfl rfl ?_
        refine v_callVi [_, _] dX7_key_29 lX7_210 kvX2_keyDetail (plX2 _ _) (Or.inl rfl) rfl rfl rfl rfl rfl rfl rfl rfl rfl (c_X2_keyDetail hp (by omega) ?_)
        refine v_callVi [_] dX7_key_32 lX7_103 kvX7_tell (plX7 _ _) (Or.inl rfl) rfl rfl rfl rfl rfl rfl rfl rfl rfl (c_X7_tell ?_)
        refine v_ireturn dX7_key_35 rfl ?_
        first | exact h1 (by omega) | exact h2 (by omega) (by omega)
      · refine v_iconst dX7_key_20 (by decide) ?_
        refine v_ireturn dX7_key_21 rfl ?_
        first | exact h1 (by omega) | exact h2 (by omega) (by omega)
set_option maxRecDepth 10000 in
theorem c_X7_trust {a b : Int} (hst : isSt (stc μ)) (hs : StC μ (stc μ)) (h1 : ¬ ((0 ≤ a ∧ a < μ (stc μ) 1) ∧ (0 ≤ b ∧ b < μ (stc μ) 1) ∧ a ≠ b) → Q (I_ (-1)) μ) (h2 : (0 ≤ a ∧ a < μ (stc μ) 1) → (0 ≤ b ∧ b < μ (stc μ) 1) → a ≠ b → Q (I_ 1) (tlC μ (μ 24 (a * 12 + b).toNat))) : V_ nX7_trust 0 [R_ 0, I_ a, I_ b] [] μ Q := by
  have hs2 := hs.2.1
  refine v_aload_n dX7_trust_0 rfl rfl ?_
  refine v_iload_n dX7_trust_1 rfl rfl ?_
  refine v_callVi [_] dX7_trust_2 lX7_201 kvX7_isPerson (plX7 _ _) (Or.inr rfl) rfl rfl rfl rfl rfl rfl rfl rfl rfl (c_X7_isPerson hst ?_)
  refine v_ifb_eq (tgt := 21) dX7_trust_5 (by decide) (fun hc_5 => ?_) (fun hc_5 => ?_)
  · refine v_iconst dX7_trust_21 (by decide) ?_
    refine v_ireturn dX7_trust_22 rfl ?_
    first | exact h1 (by omega) | exact h2 (by omega) (by omega) (by omega)
  · refine v_aload_n dX7_trust_8 rfl rfl ?_
    refine v_iload_n dX7_trust_9 rfl rfl ?_
    refine v_callVi [_] dX7_trust_10 lX7_201 kvX7_isPerson (plX7 _ _) (Or.inr rfl) rfl rfl rfl rfl rfl rfl rfl rfl rfl (c_X7_isPerson hst ?_)
    refine v_ifb_eq (tgt := 21) dX7_trust_13 (by decide) (fun hc_13 => ?_) (fun hc_13 => ?_)
    · refine v_iconst dX7_trust_21 (by decide) ?_
      refine v_ireturn dX7_trust_22 rfl ?_
      first | exact h1 (by omega) | exact h2 (by omega) (by omega) (by omega)
    · refine v_iload_n dX7_trust_16 rfl rfl ?_
      refine v_iload_n dX7_trust_17 rfl rfl ?_
      refine v_icmp_ne (tgt := 23) dX7_trust_18 (by decide) (fun hc_18 => ?_) (fun hc_18 => ?_)
      · refine v_aload_n dX7_trust_23 rfl rfl ?_
        refine v_aload_n dX7_trust_24 rfl rfl ?_
        refine v_getR dX7_trust_25 fX7_34 rfl rfl rfl ?_
        refine v_iload_n dX7_trust_28 rfl rfl ?_
        refine v_iload_n dX7_trust_29 rfl rfl ?_
        refine v_callVi [_, _] dX7_trust_30 lX7_213 kvX2_trustOf (plX2 _ _) (Or.inl rfl) rfl rfl rfl rfl rfl rfl rfl rfl rfl (c_X2_trustOf ?_)
        rw [trC, if_pos (by omega)]
        refine v_callVi [_] dX7_trust_33 lX7_103 kvX7_tell (plX7 _ _) (Or.inl rfl) rfl rfl rfl rfl rfl rfl rfl rfl rfl (c_X7_tell ?_)
        refine v_ireturn dX7_trust_36 rfl ?_
        first | exact h1 (by omega) | exact h2 (by omega) (by omega) (by omega)
      · refine v_iconst dX7_trust_21 (by decide) ?_
        refine v_ireturn dX7_trust_22 rfl ?_
        first | exact h1 (by omega) | exact h2 (by omega) (by omega) (by omega)
abbrev ieC (nH nP nK kind a b : Int) : Prop := (kind = 1 ∧ (0 ≤ a ∧ a < nH) ∧ (0 ≤ b ∧ b < nP)) ∨ ((kind = 2 ∨ kind = 3) ∧ (0 ≤ a ∧ a < nK) ∧ (0 ≤ b ∧ b < nP)) ∨ ((kind = 4 ∨ kind = 5) ∧ (0 ≤ a ∧ a < nK) ∧ (0 ≤ b ∧ b < nH)) ∨ (kind = 6 ∧ (0 ≤ a ∧ a < nH)) ∨ (kind = 7 ∧ (0 ≤ a ∧ a < nP) ∧ (0 ≤ b ∧ b < nP) ∧ a ≠ b)
set_option maxRecDepth 10000 in
theorem c_X7_isEvent {kind a b : Int} (hst : isSt (stc μ)) (hq : Q (I_ (b2i (ieC (μ (stc μ) 0) (μ (stc μ) 1) (μ 17 0) kind a b))) μ) : V_ nX7_isEvent 0 [R_ 0, I_ kind, I_ a, I_ b] [] μ Q := by
  unfold ieC at hq
  refine v_iload_n dX7_isEvent_0 rfl rfl ?_
  rcases (show kind < 1 ∨ 7 < kind ∨ kind = 1 ∨ kind = 2 ∨ kind = 3 ∨ kind = 4 ∨ kind = 5 ∨ kind = 6 ∨ kind = 7 by omega) with hsw | hsw | hsw | hsw | hsw | hsw | hsw | hsw | hsw
  · refine v_tableOut (tgt := 149) dX7_isEvent_1 (Or.inl hsw) (by decide) ?_
    refine v_iconst dX7_isEvent_149 (by decide) ?_
    refine v_zreturn dX7_isEvent_150 rfl (by first | exact Or.inl rfl | exact Or.inr rfl | exact b2i_01 _ | assumption) ?_
    first | (rwa [b2i_f (by omega)] at hq) | (rwa [b2i_t (by omega)] at hq) | (rwa [show b2i ((kind = 1 ∧ (0 ≤ a ∧ a < μ (stc μ) 0) ∧ (0 ≤ b ∧ b < μ (stc μ) 1)) ∨ ((kind = 2 ∨ kind = 3) ∧ (0 ≤ a ∧ a < μ 17 0) ∧ (0 ≤ b ∧ b < μ (stc μ) 1)) ∨ ((kind = 4 ∨ kind = 5) ∧ (0 ≤ a ∧ a < μ 17 0) ∧ (0 ≤ b ∧ b < μ (stc μ) 0)) ∨ (kind = 6 ∧ (0 ≤ a ∧ a < μ (stc μ) 0)) ∨ (kind = 7 ∧ (0 ≤ a ∧ a < μ (stc μ) 1) ∧ (0 ≤ b ∧ b < μ (stc μ) 1) ∧ a ≠ b)) = b2i (0 ≤ a ∧ a < μ (stc μ) 0) from b2i_congr (by omega)] at hq)
  · refine v_tableOut (tgt := 149) dX7_isEvent_1 (Or.inr hsw) (by decide) ?_
    refine v_iconst dX7_isEvent_149 (by decide) ?_
    refine v_zreturn dX7_isEvent_150 rfl (by first | exact Or.inl rfl | exact Or.inr rfl | exact b2i_01 _ | assumption) ?_
    first | (rwa [b2i_f (by omega)] at hq) | (rwa [b2i_t (by omega)] at hq) | (rwa [show b2i ((kind = 1 ∧ (0 ≤ a ∧ a < μ (stc μ) 0) ∧ (0 ≤ b ∧ b < μ (stc μ) 1)) ∨ ((kind = 2 ∨ kind = 3) ∧ (0 ≤ a ∧ a < μ 17 0) ∧ (0 ≤ b ∧ b < μ (stc μ) 1)) ∨ ((kind = 4 ∨ kind = 5) ∧ (0 ≤ a ∧ a < μ 17 0) ∧ (0 ≤ b ∧ b < μ (stc μ) 0)) ∨ (kind = 6 ∧ (0 ≤ a ∧ a < μ (stc μ) 0)) ∨ (kind = 7 ∧ (0 ≤ a ∧ a < μ (stc μ) 1) ∧ (0 ≤ b ∧ b < μ (stc μ) 1) ∧ a ≠ b)) = b2i (0 ≤ a ∧ a < μ (stc μ) 0) from b2i_congr (by omega)] at hq)
  · refine v_tableIn (off := 43) (tgt := 44) dX7_isEvent_1 (by rw [hsw]; decide) (by rw [hsw]; decide) (by rw [hsw]; decide) (by decide) ?_
    refine v_aload_n dX7_isEvent_44 rfl rfl ?_
    refine v_iload_n dX7_isEvent_45 rfl rfl ?_
    refine v_callVi [_] dX7_isEvent_46 lX7_195 kvX7_isHouse (plX7 _ _) (Or.inr rfl) rfl rfl rfl rfl rfl rfl rfl rfl rfl (c_X7_isHouse hst ?_)
    refine v_ifb_eq (tgt := 64) dX7_isEvent_49 (by decide) (fun hc_49 => ?_) (fun hc_49 => ?_)
    · refine v_iconst dX7_isEvent_64 (by decide) ?_
      refine v_zreturn dX7_isEvent_65 rfl (by first | exact Or.inl rfl | exact Or.inr rfl | exact b2i_01 _ | assumption) ?_
      first | (rwa [b2i_f (by omega)] at hq) | (rwa [b2i_t (by omega)] at hq) | (rwa [show b2i ((kind = 1 ∧ (0 ≤ a ∧ a < μ (stc μ) 0) ∧ (0 ≤ b ∧ b < μ (stc μ) 1)) ∨ ((kind = 2 ∨ kind = 3) ∧ (0 ≤ a ∧ a < μ 17 0) ∧ (0 ≤ b ∧ b < μ (stc μ) 1)) ∨ ((kind = 4 ∨ kind = 5) ∧ (0 ≤ a ∧ a < μ 17 0) ∧ (0 ≤ b ∧ b < μ (stc μ) 0)) ∨ (kind = 6 ∧ (0 ≤ a ∧ a < μ (stc μ) 0)) ∨ (kind = 7 ∧ (0 ≤ a ∧ a < μ (stc μ) 1) ∧ (0 ≤ b ∧ b < μ (stc μ) 1) ∧ a ≠ b)) = b2i (0 ≤ a ∧ a < μ (stc μ) 0) from b2i_congr (by omega)] at hq)
    · refine v_aload_n dX7_isEvent_52 rfl rfl ?_
      refine v_iload_n dX7_isEvent_53 rfl rfl ?_
      refine v_callVi [_] dX7_isEvent_54 lX7_201 kvX7_isPerson (plX7 _ _) (Or.inr rfl) rfl rfl rfl rfl rfl rfl rfl rfl rfl (c_X7_isPerson hst ?_)
      refine v_ifb_eq (tgt := 64) dX7_isEvent_57 (by decide) (fun hc_57 => ?_) (fun hc_57 => ?_)
      · refine v_iconst dX7_isEvent_64 (by decide) ?_
        refine v_zreturn dX7_isEvent_65 rfl (by first | exact Or.inl rfl | exact Or.inr rfl | exact b2i_01 _ | assumption) ?_
        first | (rwa [b2i_f (by omega)] at hq) | (rwa [b2i_t (by omega)] at hq) | (rwa [show b2i ((kind = 1 ∧ (0 ≤ a ∧ a < μ (stc μ) 0) ∧ (0 ≤ b ∧ b < μ (stc μ) 1)) ∨ ((kind = 2 ∨ kind = 3) ∧ (0 ≤ a ∧ a < μ 17 0) ∧ (0 ≤ b ∧ b < μ (stc μ) 1)) ∨ ((kind = 4 ∨ kind = 5) ∧ (0 ≤ a ∧ a < μ 17 0) ∧ (0 ≤ b ∧ b < μ (stc μ) 0)) ∨ (kind = 6 ∧ (0 ≤ a ∧ a < μ (stc μ) 0)) ∨ (kind = 7 ∧ (0 ≤ a ∧ a < μ (stc μ) 1) ∧ (0 ≤ b ∧ b < μ (stc μ) 1) ∧ a ≠ b)) = b2i (0 ≤ a ∧ a < μ (stc μ) 0) from b2i_congr (by omega)] at hq)
      · refine v_iconst dX7_isEvent_60 (by decide) ?_
        refine v_goto (tgt := 65) dX7_isEvent_61 (by decide) ?_
        refine v_zreturn dX7_isEvent_65 rfl (by first | exact Or.inl rfl | exact Or.inr rfl | exact b2i_01 _ | assumption) ?_
        first | (rwa [b2i_f (by omega)] at hq) | (rwa [b2i_t (by omega)] at hq) | (rwa [show b2i ((kind = 1 ∧ (0 ≤ a ∧ a < μ (stc μ) 0) ∧ (0 ≤ b ∧ b < μ (stc μ) 1)) ∨ ((kind = 2 ∨ kind = 3) ∧ (0 ≤ a ∧ a < μ 17 0) ∧ (0 ≤ b ∧ b < μ (stc μ) 1)) ∨ ((kind = 4 ∨ kind = 5) ∧ (0 ≤ a ∧ a < μ 17 0) ∧ (0 ≤ b ∧ b < μ (stc μ) 0)) ∨ (kind = 6 ∧ (0 ≤ a ∧ a < μ (stc μ) 0)) ∨ (kind = 7 ∧ (0 ≤ a ∧ a < μ (stc μ) 1) ∧ (0 ≤ b ∧ b < μ (stc μ) 1) ∧ a ≠ b)) = b2i (0 ≤ a ∧ a < μ (stc μ) 0) from b2i_congr (by omega)] at hq)
  · refine v_tableIn (off := 65) (tgt := 66) dX7_isEvent_1 (by rw [hsw]; decide) (by rw [hsw]; decide) (by rw [hsw]; decide) (by decide) ?_
    refine v_aload_n dX7_isEvent_66 rfl rfl ?_
    refine v_getR dX7_isEvent_67 fX7_34 rfl rfl rfl ?_
    refine v_iload_n dX7_isEvent_70 rfl rfl ?_
    refine v_callVi [_] dX7_isEvent_71 lX7_207 kvX2_isKey (plX2 _ _) (Or.inr rfl) rfl rfl rfl rfl rfl rfl rfl rfl rfl (c_X2_isKey ?_)
    refine v_ifb_eq (tgt := 89) dX7_isEvent_74 (by decide) (fun hc_74 => ?_) (fun hc_74 => ?_)
    · refine v_iconst dX7_isEvent_89 (by decide) ?_
      refine v_zreturn dX7_isEvent_90 rfl (by first | exact Or.inl rfl | exact Or.inr rfl | exact b2i_01 _ | assumption) ?_
      first | (rwa [b2i_f (by omega)] at hq) | (rwa [b2i_t (by omega)] at hq) | (rwa [show b2i ((kind = 1 ∧ (0 ≤ a ∧ a < μ (stc μ) 0) ∧ (0 ≤ b ∧ b < μ (stc μ) 1)) ∨ ((kind = 2 ∨ kind = 3) ∧ (0 ≤ a ∧ a < μ 17 0) ∧ (0 ≤ b ∧ b < μ (stc μ) 1)) ∨ ((kind = 4 ∨ kind = 5) ∧ (0 ≤ a ∧ a < μ 17 0) ∧ (0 ≤ b ∧ b < μ (stc μ) 0)) ∨ (kind = 6 ∧ (0 ≤ a ∧ a < μ (stc μ) 0)) ∨ (kind = 7 ∧ (0 ≤ a ∧ a < μ (stc μ) 1) ∧ (0 ≤ b ∧ b < μ (stc μ) 1) ∧ a ≠ b)) = b2i (0 ≤ a ∧ a < μ (stc μ) 0) from b2i_congr (by omega)] at hq)
    · refine v_aload_n dX7_isEvent_77 rfl rfl ?_
      refine v_iload_n dX7_isEvent_78 rfl rfl ?_
      refine v_callVi [_] dX7_isEvent_79 lX7_201 kvX7_isPerson (plX7 _ _) (Or.inr rfl) rfl rfl rfl rfl rfl rfl rfl rfl rfl (c_X7_isPerson hst ?_)
      refine v_ifb_eq (tgt := 89) dX7_isEvent_82 (by decide) (fun hc_82 => ?_) (fun hc_82 => ?_)
      · refine v_iconst dX7_isEvent_89 (by decide) ?_
        refine v_zreturn dX7_isEvent_90 rfl (by first | exact Or.inl rfl | exact Or.inr rfl | exact b2i_01 _ | assumption) ?_
        first | (rwa [b2i_f (by omega)] at hq) | (rwa [b2i_t (by omega)] at hq) | (rwa [show b2i ((kind = 1 ∧ (0 ≤ a ∧ a < μ (stc μ) 0) ∧ (0 ≤ b ∧ b < μ (stc μ) 1)) ∨ ((kind = 2 ∨ kind = 3) ∧ (0 ≤ a ∧ a < μ 17 0) ∧ (0 ≤ b ∧ b < μ (stc μ) 1)) ∨ ((kind = 4 ∨ kind = 5) ∧ (0 ≤ a ∧ a < μ 17 0) ∧ (0 ≤ b ∧ b < μ (stc μ) 0)) ∨ (kind = 6 ∧ (0 ≤ a ∧ a < μ (stc μ) 0)) ∨ (kind = 7 ∧ (0 ≤ a ∧ a < μ (stc μ) 1) ∧ (0 ≤ b ∧ b < μ (stc μ) 1) ∧ a ≠ b)) = b2i (0 ≤ a ∧ a < μ (stc μ) 0) from b2i_congr (by omega)] at hq)
      · refine v_iconst dX7_isEvent_85 (by decide) ?_
        refine v_goto (tgt := 90) dX7_isEvent_86 (by decide) ?_
        refine v_zreturn dX7_isEvent_90 rfl (by first | exact Or.inl rfl | exact Or.inr rfl | exact b2i_01 _ | assumption) ?_
        first | (rwa [b2i_f (by omega)] at hq) | (rwa [b2i_t (by omega)] at hq) | (rwa [show b2i ((kind = 1 ∧ (0 ≤ a ∧ a < μ (stc μ) 0) ∧ (0 ≤ b ∧ b < μ (stc μ) 1)) ∨ ((kind = 2 ∨ kind = 3) ∧ (0 ≤ a ∧ a < μ 17 0) ∧ (0 ≤ b ∧ b < μ (stc μ) 1)) ∨ ((kind = 4 ∨ kind = 5) ∧ (0 ≤ a ∧ a < μ 17 0) ∧ (0 ≤ b ∧ b < μ (stc μ) 0)) ∨ (kind = 6 ∧ (0 ≤ a ∧ a < μ (stc μ) 0)) ∨ (kind = 7 ∧ (0 ≤ a ∧ a < μ (stc μ) 1) ∧ (0 ≤ b ∧ b < μ (stc μ) 1) ∧ a ≠ b)) = b2i (0 ≤ a ∧ a < μ (stc μ) 0) from b2i_congr (by omega)] at hq)
  · refine v_tableIn (off := 65) (tgt := 66) dX7_isEvent_1 (by rw [hsw]; decide) (by rw [hsw]; decide) (by rw [hsw]; decide) (by decide) ?_
    refine v_aload_n dX7_isEvent_66 rfl rfl ?_
    refine v_getR dX7_isEvent_67 fX7_34 rfl rfl rfl ?_
    refine v_iload_n dX7_isEvent_70 rfl rfl ?_
    refine v_callVi [_] dX7_isEvent_71 lX7_207 kvX2_isKey (plX2 _ _) (Or.inr rfl) rfl rfl rfl rfl rfl rfl rfl rfl rfl (c_X2_isKey ?_)
    refine v_ifb_eq (tgt := 89) dX7_isEvent_74 (by decide) (fun hc_74 => ?_) (fun hc_74 => ?_)
    · refine v_iconst dX7_isEvent_89 (by decide) ?_
      refine v_zreturn dX7_isEvent_90 rfl (by first | exact Or.inl rfl | exact Or.inr rfl | exact b2i_01 _ | assumption) ?_
      first | (rwa [b2i_f (by omega)] at hq) | (rwa [b2i_t (by omega)] at hq) | (rwa [show b2i ((kind = 1 ∧ (0 ≤ a ∧ a < μ (stc μ) 0) ∧ (0 ≤ b ∧ b < μ (stc μ) 1)) ∨ ((kind = 2 ∨ kind = 3) ∧ (0 ≤ a ∧ a < μ 17 0) ∧ (0 ≤ b ∧ b < μ (stc μ) 1)) ∨ ((kind = 4 ∨ kind = 5) ∧ (0 ≤ a ∧ a < μ 17 0) ∧ (0 ≤ b ∧ b < μ (stc μ) 0)) ∨ (kind = 6 ∧ (0 ≤ a ∧ a < μ (stc μ) 0)) ∨ (kind = 7 ∧ (0 ≤ a ∧ a < μ (stc μ) 1) ∧ (0 ≤ b ∧ b < μ (stc μ) 1) ∧ a ≠ b)) = b2i (0 ≤ a ∧ a < μ (stc μ) 0) from b2i_congr (by omega)] at hq)
    · refine v_aload_n dX7_isEvent_77 rfl rfl ?_
      refine v_iload_n dX7_isEvent_78 rfl rfl ?_
      refine v_callVi [_] dX7_isEvent_79 lX7_201 kvX7_isPerson (plX7 _ _) (Or.inr rfl) rfl rfl rfl rfl rfl rfl rfl rfl rfl (c_X7_isPerson hst ?_)
      refine v_ifb_eq (tgt := 89) dX7_isEvent_82 (by decide) (fun hc_82 => ?_) (fun hc_82 => ?_)
      · refine v_iconst dX7_isEvent_89 (by decide) ?_
        refine v_zreturn dX7_isEvent_90 rfl (by first | exact Or.inl rfl | exact Or.inr rfl | exact b2i_01 _ | assumption) ?_
        first | (rwa [b2i_f (by omega)] at hq) | (rwa [b2i_t (by omega)] at hq) | (rwa [show b2i ((kind = 1 ∧ (0 ≤ a ∧ a < μ (stc μ) 0) ∧ (0 ≤ b ∧ b < μ (stc μ) 1)) ∨ ((kind = 2 ∨ kind = 3) ∧ (0 ≤ a ∧ a < μ 17 0) ∧ (0 ≤ b ∧ b < μ (stc μ) 1)) ∨ ((kind = 4 ∨ kind = 5) ∧ (0 ≤ a ∧ a < μ 17 0) ∧ (0 ≤ b ∧ b < μ (stc μ) 0)) ∨ (kind = 6 ∧ (0 ≤ a ∧ a < μ (stc μ) 0)) ∨ (kind = 7 ∧ (0 ≤ a ∧ a < μ (stc μ) 1) ∧ (0 ≤ b ∧ b < μ (stc μ) 1) ∧ a ≠ b)) = b2i (0 ≤ a ∧ a < μ (stc μ) 0) from b2i_congr (by omega)] at hq)
      · refine v_iconst dX7_isEvent_85 (by decide) ?_
        refine v_goto (tgt := 90) dX7_isEvent_86 (by decide) ?_
        refine v_zreturn dX7_isEvent_90 rfl (by first | exact Or.inl rfl | exact Or.inr rfl | exact b2i_01 _ | assumption) ?_
        first | (rwa [b2i_f (by omega)] at hq) | (rwa [b2i_t (by omega)] at hq) | (rwa [show b2i ((kind = 1 ∧ (0 ≤ a ∧ a < μ (stc μ) 0) ∧ (0 ≤ b ∧ b < μ (stc μ) 1)) ∨ ((kind = 2 ∨ kind = 3) ∧ (0 ≤ a ∧ a < μ 17 0) ∧ (0 ≤ b ∧ b < μ (stc μ) 1)) ∨ ((kind = 4 ∨ kind = 5) ∧ (0 ≤ a ∧ a < μ 17 0) ∧ (0 ≤ b ∧ b < μ (stc μ) 0)) ∨ (kind = 6 ∧ (0 ≤ a ∧ a < μ (stc μ) 0)) ∨ (kind = 7 ∧ (0 ≤ a ∧ a < μ (stc μ) 1) ∧ (0 ≤ b ∧ b < μ (stc μ) 1) ∧ a ≠ b)) = b2i (0 ≤ a ∧ a < μ (stc μ) 0) from b2i_congr (by omega)] at hq)
  · refine v_tableIn (off := 90) (tgt := 91) dX7_isEvent_1 (by rw [hsw]; decide) (by rw [hsw]; decide) (by rw [hsw]; decide) (by decide) ?_
    refine v_aload_n dX7_isEvent_91 rfl rfl ?_
    refine v_getR dX7_isEvent_92 fX7_34 rfl rfl rfl ?_
    refine v_iload_n dX7_isEvent_95 rfl rfl ?_
    refine v_callVi [_] dX7_isEvent_96 lX7_207 kvX2_isKey (plX2 _ _) (Or.inr rfl) rfl rfl rfl rfl rfl rfl rfl rfl rfl (c_X2_isKey ?_)
    refine v_ifb_eq (tgt := 114) dX7_isEvent_99 (by decide) (fun hc_99 => ?_) (fun hc_99 => ?_)
    · refine v_iconst dX7_isEvent_114 (by decide) ?_
      refine v_zreturn dX7_isEvent_115 rfl (by first | exact Or.inl rfl | exact Or.inr rfl | exact b2i_01 _ | assumption) ?_
      first | (rwa [b2i_f (by omega)] at hq) | (rwa [b2i_t (by omega)] at hq) | (rwa [show b2i ((kind = 1 ∧ (0 ≤ a ∧ a < μ (stc μ) 0) ∧ (0 ≤ b ∧ b < μ (stc μ) 1)) ∨ ((kind = 2 ∨ kind = 3) ∧ (0 ≤ a ∧ a < μ 17 0) ∧ (0 ≤ b ∧ b < μ (stc μ) 1)) ∨ ((kind = 4 ∨ kind = 5) ∧ (0 ≤ a ∧ a < μ 17 0) ∧ (0 ≤ b ∧ b < μ (stc μ) 0)) ∨ (kind = 6 ∧ (0 ≤ a ∧ a < μ (stc μ) 0)) ∨ (kind = 7 ∧ (0 ≤ a ∧ a < μ (stc μ) 1) ∧ (0 ≤ b ∧ b < μ (stc μ) 1) ∧ a ≠ b)) = b2i (0 ≤ a ∧ a < μ (stc μ) 0) from b2i_congr (by omega)] at hq)
    · refine v_aload_n dX7_isEvent_102 rfl rfl ?_
      refine v_iload_n dX7_isEvent_103 rfl rfl ?_
      refine v_callVi [_] dX7_isEvent_104 lX7_195 kvX7_isHouse (plX7 _ _) (Or.inr rfl) rfl rfl rfl rfl rfl rfl rfl rfl rfl (c_X7_isHouse hst ?_)
      refine v_ifb_eq (tgt := 114) dX7_isEvent_107 (by decide) (fun hc_107 => ?_) (fun hc_107 => ?_)
      · refine v_iconst dX7_isEvent_114 (by decide) ?_
        refine v_zreturn dX7_isEvent_115 rfl (by first | exact Or.inl rfl | exact Or.inr rfl | exact b2i_01 _ | assumption) ?_
        first | (rwa [b2i_f (by omega)] at hq) | (rwa [b2i_t (by omega)] at hq) | (rwa [show b2i ((kind = 1 ∧ (0 ≤ a ∧ a < μ (stc μ) 0) ∧ (0 ≤ b ∧ b < μ (stc μ) 1)) ∨ ((kind = 2 ∨ kind = 3) ∧ (0 ≤ a ∧ a < μ 17 0) ∧ (0 ≤ b ∧ b < μ (stc μ) 1)) ∨ ((kind = 4 ∨ kind = 5) ∧ (0 ≤ a ∧ a < μ 17 0) ∧ (0 ≤ b ∧ b < μ (stc μ) 0)) ∨ (kind = 6 ∧ (0 ≤ a ∧ a < μ (stc μ) 0)) ∨ (kind = 7 ∧ (0 ≤ a ∧ a < μ (stc μ) 1) ∧ (0 ≤ b ∧ b < μ (stc μ) 1) ∧ a ≠ b)) = b2i (0 ≤ a ∧ a < μ (stc μ) 0) from b2i_congr (by omega)] at hq)
      · refine v_iconst dX7_isEvent_110 (by decide) ?_
        refine v_goto (tgt := 115) dX7_isEvent_111 (by decide) ?_
        refine v_zreturn dX7_isEvent_115 rfl (by first | exact Or.inl rfl | exact Or.inr rfl | exact b2i_01 _ | assumption) ?_
        first | (rwa [b2i_f (by omega)] at hq) | (rwa [b2i_t (by omega)] at hq) | (rwa [show b2i ((kind = 1 ∧ (0 ≤ a ∧ a < μ (stc μ) 0) ∧ (0 ≤ b ∧ b < μ (stc μ) 1)) ∨ ((kind = 2 ∨ kind = 3) ∧ (0 ≤ a ∧ a < μ 17 0) ∧ (0 ≤ b ∧ b < μ (stc μ) 1)) ∨ ((kind = 4 ∨ kind = 5) ∧ (0 ≤ a ∧ a < μ 17 0) ∧ (0 ≤ b ∧ b < μ (stc μ) 0)) ∨ (kind = 6 ∧ (0 ≤ a ∧ a < μ (stc μ) 0)) ∨ (kind = 7 ∧ (0 ≤ a ∧ a < μ (stc μ) 1) ∧ (0 ≤ b ∧ b < μ (stc μ) 1) ∧ a ≠ b)) = b2i (0 ≤ a ∧ a < μ (stc μ) 0) from b2i_congr (by omega)] at hq)
  · refine v_tableIn (off := 90) (tgt := 91) dX7_isEvent_1 (by rw [hsw]; decide) (by rw [hsw]; decide) (by rw [hsw]; decide) (by decide) ?_
    refine v_aload_n dX7_isEvent_91 rfl rfl ?_
    refine v_getR dX7_isEvent_92 fX7_34 rfl rfl rfl ?_
    refine v_iload_n dX7_isEvent_95 rfl rfl ?_
    refine v_callVi [_] dX7_isEvent_96 lX7_207 kvX2_isKey (plX2 _ _) (Or.inr rfl) rfl rfl rfl rfl rfl rfl rfl rfl rfl (c_X2_isKey ?_)
    refine v_ifb_eq (tgt := 114) dX7_isEvent_99 (by decide) (fun hc_99 => ?_) (fun hc_99 => ?_)
    · refine v_iconst dX7_isEvent_114 (by decide) ?_
      refine v_zreturn dX7_isEvent_115 rfl (by first | exact Or.inl rfl | exact Or.inr rfl | exact b2i_01 _ | assumption) ?_
      first | (rwa [b2i_f (by omega)] at hq) | (rwa [b2i_t (by omega)] at hq) | (rwa [show b2i ((kind = 1 ∧ (0 ≤ a ∧ a < μ (stc μ) 0) ∧ (0 ≤ b ∧ b < μ (stc μ) 1)) ∨ ((kind = 2 ∨ kind = 3) ∧ (0 ≤ a ∧ a < μ 17 0) ∧ (0 ≤ b ∧ b < μ (stc μ) 1)) ∨ ((kind = 4 ∨ kind = 5) ∧ (0 ≤ a ∧ a < μ 17 0) ∧ (0 ≤ b ∧ b < μ (stc μ) 0)) ∨ (kind = 6 ∧ (0 ≤ a ∧ a < μ (stc μ) 0)) ∨ (kind = 7 ∧ (0 ≤ a ∧ a < μ (stc μ) 1) ∧ (0 ≤ b ∧ b < μ (stc μ) 1) ∧ a ≠ b)) = b2i (0 ≤ a ∧ a < μ (stc μ) 0) from b2i_congr (by omega)] at hq)
    · refine v_aload_n dX7_isEvent_102 rfl rfl ?_
      refine v_iload_n dX7_isEvent_103 rfl rfl ?_
      refine v_callVi [_] dX7_isEvent_104 lX7_195 kvX7_isHouse (plX7 _ _) (Or.inr rfl) rfl rfl rfl rfl rfl rfl rfl rfl rfl (c_X7_isHouse hst ?_)
      refine v_ifb_eq (tgt := 114) dX7_isEvent_107 (by decide) (fun hc_107 => ?_) (fun hc_107 => ?_)
      · refine v_iconst dX7_isEvent_114 (by decide) ?_
        refine v_zreturn dX7_isEvent_115 rfl (by first | exact Or.inl rfl | exact Or.inr rfl | exact b2i_01 _ | assumption) ?_
        first | (rwa [b2i_f (by omega)] at hq) | (rwa [b2i_t (by omega)] at hq) | (rwa [show b2i ((kind = 1 ∧ (0 ≤ a ∧ a < μ (stc μ) 0) ∧ (0 ≤ b ∧ b < μ (stc μ) 1)) ∨ ((kind = 2 ∨ kind = 3) ∧ (0 ≤ a ∧ a < μ 17 0) ∧ (0 ≤ b ∧ b < μ (stc μ) 1)) ∨ ((kind = 4 ∨ kind = 5) ∧ (0 ≤ a ∧ a < μ 17 0) ∧ (0 ≤ b ∧ b < μ (stc μ) 0)) ∨ (kind = 6 ∧ (0 ≤ a ∧ a < μ (stc μ) 0)) ∨ (kind = 7 ∧ (0 ≤ a ∧ a < μ (stc μ) 1) ∧ (0 ≤ b ∧ b < μ (stc μ) 1) ∧ a ≠ b)) = b2i (0 ≤ a ∧ a < μ (stc μ) 0) from b2i_congr (by omega)] at hq)
      · refine v_iconst dX7_isEvent_110 (by decide) ?_
        refine v_goto (tgt := 115) dX7_isEvent_111 (by decide) ?_
        refine v_zreturn dX7_isEvent_115 rfl (by first | exact Or.inl rfl | exact Or.inr rfl | exact b2i_01 _ | assumption) ?_
        first | (rwa [b2i_f (by omega)] at hq) | (rwa [b2i_t (by omega)] at hq) | (rwa [show b2i ((kind = 1 ∧ (0 ≤ a ∧ a < μ (stc μ) 0) ∧ (0 ≤ b ∧ b < μ (stc μ) 1)) ∨ ((kind = 2 ∨ kind = 3) ∧ (0 ≤ a ∧ a < μ 17 0) ∧ (0 ≤ b ∧ b < μ (stc μ) 1)) ∨ ((kind = 4 ∨ kind = 5) ∧ (0 ≤ a ∧ a < μ 17 0) ∧ (0 ≤ b ∧ b < μ (stc μ) 0)) ∨ (kind = 6 ∧ (0 ≤ a ∧ a < μ (stc μ) 0)) ∨ (kind = 7 ∧ (0 ≤ a ∧ a < μ (stc μ) 1) ∧ (0 ≤ b ∧ b < μ (stc μ) 1) ∧ a ≠ b)) = b2i (0 ≤ a ∧ a < μ (stc μ) 0) from b2i_congr (by omega)] at hq)
  · refine v_tableIn (off := 115) (tgt := 116) dX7_isEvent_1 (by rw [hsw]; decide) (by rw [hsw]; decide) (by rw [hsw]; decide) (by decide) ?_
    refine v_aload_n dX7_isEvent_116 rfl rfl ?_
    refine v_iload_n dX7_isEvent_117 rfl rfl ?_
    refine v_callVi [_] dX7_isEvent_118 lX7_195 kvX7_isHouse (plX7 _ _) (Or.inr rfl) rfl rfl rfl rfl rfl rfl rfl rfl rfl (c_X7_isHouse hst ?_)
    refine v_zreturn dX7_isEvent_121 rfl (by first | exact Or.inl rfl | exact Or.inr rfl | exact b2i_01 _ | assumption) ?_
    first | (rwa [b2i_f (by omega)] at hq) | (rwa [b2i_t (by omega)] at hq) | (rwa [show b2i ((kind = 1 ∧ (0 ≤ a ∧ a < μ (stc μ) 0) ∧ (0 ≤ b ∧ b < μ (stc μ) 1)) ∨ ((kind = 2 ∨ kind = 3) ∧ (0 ≤ a ∧ a < μ 17 0) ∧ (0 ≤ b ∧ b < μ (stc μ) 1)) ∨ ((kind = 4 ∨ kind = 5) ∧ (0 ≤ a ∧ a < μ 17 0) ∧ (0 ≤ b ∧ b < μ (stc μ) 0)) ∨ (kind = 6 ∧ (0 ≤ a ∧ a < μ (stc μ) 0)) ∨ (kind = 7 ∧ (0 ≤ a ∧ a < μ (stc μ) 1) ∧ (0 ≤ b ∧ b < μ (stc μ) 1) ∧ a ≠ b)) = b2i (0 ≤ a ∧ a < μ (stc μ) 0) from b2i_congr (by omega)] at hq)
  · refine v_tableIn (off := 121) (tgt := 122) dX7_isEvent_1 (by rw [hsw]; decide) (by rw [hsw]; decide) (by rw [hsw]; decide) (by decide) ?_
    refine v_aload_n dX7_isEvent_122 rfl rfl ?_
    refine v_iload_n dX7_isEvent_123 rfl rfl ?_
    refine v_callVi [_] dX7_isEvent_124 lX7_201 kvX7_isPerson (plX7 _ _) (Or.inr rfl) rfl rfl rfl rfl rfl rfl rfl rfl rfl (c_X7_isPerson hst ?_)
    refine v_ifb_eq (tgt := 147) dX7_isEvent_127 (by decide) (fun hc_127 => ?_) (fun hc_127 => ?_)
    · refine v_iconst dX7_isEvent_147 (by decide) ?_
      refine v_zreturn dX7_isEvent_148 rfl (by first | exact Or.inl rfl | exact Or.inr rfl | exact b2i_01 _ | assumption) ?_
      first | (rwa [b2i_f (by omega)] at hq) | (rwa [b2i_t (by omega)] at hq) | (rwa [show b2i ((kind = 1 ∧ (0 ≤ a ∧ a < μ (stc μ) 0) ∧ (0 ≤ b ∧ b < μ (stc μ) 1)) ∨ ((kind = 2 ∨ kind = 3) ∧ (0 ≤ a ∧ a < μ 17 0) ∧ (0 ≤ b ∧ b < μ (stc μ) 1)) ∨ ((kind = 4 ∨ kind = 5) ∧ (0 ≤ a ∧ a < μ 17 0) ∧ (0 ≤ b ∧ b < μ (stc μ) 0)) ∨ (kind = 6 ∧ (0 ≤ a ∧ a < μ (stc μ) 0)) ∨ (kind = 7 ∧ (0 ≤ a ∧ a < μ (stc μ) 1) ∧ (0 ≤ b ∧ b < μ (stc μ) 1) ∧ a ≠ b)) = b2i (0 ≤ a ∧ a < μ (stc μ) 0) from b2i_congr (by omega)] at hq)
    · refine v_aload_n dX7_isEvent_130 rfl rfl ?_
      refine v_iload_n dX7_isEvent_131 rfl rfl ?_
      refine v_callVi [_] dX7_isEvent_132 lX7_201 kvX7_isPerson (plX7 _ _) (Or.inr rfl) rfl rfl rfl rfl rfl rfl rfl rfl rfl (c_X7_isPerson hst ?_)
      refine v_ifb_eq (tgt := 147) dX7_isEvent_135 (by decide) (fun hc_135 => ?_) (fun hc_135 => ?_)
      · refine v_iconst dX7_isEvent_147 (by decide) ?_
        refine v_zreturn dX7_isEvent_148 rfl (by first | exact Or.inl rfl | exact Or.inr rfl | exact b2i_01 _ | assumption) ?_
        first | (rwa [b2i_f (by omega)] at hq) | (rwa [b2i_t (by omega)] at hq) | (rwa [show b2i ((kind = 1 ∧ (0 ≤ a ∧ a < μ (stc μ) 0) ∧ (0 ≤ b ∧ b < μ (stc μ) 1)) ∨ ((kind = 2 ∨ kind = 3) ∧ (0 ≤ a ∧ a < μ 17 0) ∧ (0 ≤ b ∧ b < μ (stc μ) 1)) ∨ ((kind = 4 ∨ kind = 5) ∧ (0 ≤ a ∧ a < μ 17 0) ∧ (0 ≤ b ∧ b < μ (stc μ) 0)) ∨ (kind = 6 ∧ (0 ≤ a ∧ a < μ (stc μ) 0)) ∨ (kind = 7 ∧ (0 ≤ a ∧ a < μ (stc μ) 1) ∧ (0 ≤ b ∧ b < μ (stc μ) 1) ∧ a ≠ b)) = b2i (0 ≤ a ∧ a < μ (stc μ) 0) from b2i_congr (by omega)] at hq)
      · refine v_iload_n dX7_isEvent_138 rfl rfl ?_
        refine v_iload_n dX7_isEvent_139 rfl rfl ?_
        refine v_icmp_eq (tgt := 147) dX7_isEvent_140 (by decide) (fun hc_140 => ?_) (fun hc_140 => ?_)
        · refine v_iconst dX7_isEvent_147 (by decide) ?_
          refine v_zreturn dX7_isEvent_148 rfl (by first | exact Or.inl rfl | exact Or.inr rfl | exact b2i_01 _ | assumption) ?_
          first | (rwa [b2i_f (by omega)] at hq) | (rwa [b2i_t (by omega)] at hq) | (rwa [show b2i ((kind = 1 ∧ (0 ≤ a ∧ a < μ (stc μ) 0) ∧ (0 ≤ b ∧ b < μ (stc μ) 1)) ∨ ((kind = 2 ∨ kind = 3) ∧ (0 ≤ a ∧ a < μ 17 0) ∧ (0 ≤ b ∧ b < μ (stc μ) 1)) ∨ ((kind = 4 ∨ kind = 5) ∧ (0 ≤ a ∧ a < μ 17 0) ∧ (0 ≤ b ∧ b < μ (stc μ) 0)) ∨ (kind = 6 ∧ (0 ≤ a ∧ a < μ (stc μ) 0)) ∨ (kind = 7 ∧ (0 ≤ a ∧ a < μ (stc μ) 1) ∧ (0 ≤ b ∧ b < μ (stc μ) 1) ∧ a ≠ b)) = b2i (0 ≤ a ∧ a < μ (stc μ) 0) from b2i_congr (by omega)] at hq)
        · refine v_iconst dX7_isEvent_143 (by decide) ?_
          refine v_goto (tgt := 148) dX7_isEvent_144 (by decide) ?_
          refine v_zreturn dX7_isEvent_148 rfl (by first | exact Or.inl rfl | exact Or.inr rfl | exact b2i_01 _ | assumption) ?_
          first | (rwa [b2i_f (by omega)] at hq) | (rwa [b2i_t (by omega)] at hq) | (rwa [show b2i ((kind = 1 ∧ (0 ≤ a ∧ a < μ (stc μ) 0) ∧ (0 ≤ b ∧ b < μ (stc μ) 1)) ∨ ((kind = 2 ∨ kind = 3) ∧ (0 ≤ a ∧ a < μ 17 0) ∧ (0 ≤ b ∧ b < μ (stc μ) 1)) ∨ ((kind = 4 ∨ kind = 5) ∧ (0 ≤ a ∧ a < μ 17 0) ∧ (0 ≤ b ∧ b < μ (stc μ) 0)) ∨ (kind = 6 ∧ (0 ≤ a ∧ a < μ (stc μ) 0)) ∨ (kind = 7 ∧ (0 ≤ a ∧ a < μ (stc μ) 1) ∧ (0 ≤ b ∧ b < μ (stc μ) 1) ∧ a ≠ b)) = b2i (0 ≤ a ∧ a < μ (stc μ) 0) from b2i_congr (by omega)] at hq)
end
