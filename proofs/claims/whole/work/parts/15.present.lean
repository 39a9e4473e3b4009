/-! Present: what is read -/
theorem bit_has {s i : Int} (hs : 0 ≤ s) (hr : inR s) (h0 : 0 ≤ i) (hi : i < 32) : bAnd (bShr s i) 1 = b2i (s.toNat.testBit i.toNat = true) := by
  have e1 := bShr_nat (a := s.toNat) (k := i) (by omega) h0 hi
  rw [show ((s.toNat : Nat) : Int) = s by omega] at e1
  rw [e1, bAnd_one (Nat.lt_of_le_of_lt (Nat.shiftRight_le _ _) (by omega))]
  apply b2i_congr
  rw [Nat.testBit_shiftRight]
  simp
theorem orS {f : Nat → Nat} {k a b : Int} {x : Nat} (h0 : 0 ≤ k) (ha : a = ((orR k.toNat f : Nat) : Int)) (hb : b = (x : Int)) (hx : f k.toNat = x) (hf : ∀ j, j ≤ k.toNat → f j < 2 ^ 31) : bOr a b = ((orR (k + 1).toNat f : Nat) : Int) := by
  rw [ha, hb, bOr_nat (orR_lt (fun j hj => hf j (by omega))) (by rw [← hx]; exact hf _ (Nat.le_refl _)), show (k + 1).toNat = k.toNat + 1 by omega, orR, hx]
theorem smS {f : Nat → Int} {k a b : Int} (h0 : 0 ≤ k) (ha : a = smR k.toNat f) (hb : f k.toNat = b) : a + b = smR (k + 1).toNat f := by
  rw [ha, ← hb, show (k + 1).toNat = k.toNat + 1 by omega, smR]
theorem pow2_31 {k : Int} (h : k < 31) : 2 ^ k.toNat < 2 ^ 31 := Nat.pow_lt_pow_right (by omega) (by omega)
abbrev liveC (μ : Mem_) (k : Nat) : Prop := μ 19 k = μ 23 (μ 18 k).toNat
def PIc (μ : Mem_) : Prop := (0 ≤ μ 17 0 ∧ μ 17 0 ≤ 24) ∧ ∀ k : Nat, (k : Int) < μ 17 0 → (0 ≤ μ 18 k ∧ μ 18 k < 6) ∧ (0 ≤ μ 20 k ∧ μ 20 k ≤ 2) ∧ (0 ≤ μ 21 k ∧ μ 21 k < 12) ∧ (0 ≤ μ 22 k ∧ μ 22 k < 4096)
def opF (μ : Mem_) (place holder : Int) (k : Nat) : Nat := if μ 20 k = place ∧ (holder = -1 ∨ μ 21 k = holder) ∧ liveC μ k then 2 ^ (μ 18 k).toNat else 0
def opensC (μ : Mem_) (place holder : Int) : Nat := orR (μ 17 0).toNat (opF μ place holder)
def trC (μ : Mem_) (a b : Int) : Int := if 0 ≤ a ∧ a < 12 ∧ 0 ≤ b ∧ b < 12 then μ 24 (a * 12 + b).toNat else 0
def chC (μ : Mem_) (h : Int) : Int := if 0 ≤ h ∧ h < 6 then μ 23 h.toNat else 0
section
variable {μ : Mem_} {Q : PV → Mem_ → Prop}
set_option maxRecDepth 10000 in
theorem c_X7_has {s i : Int} (hs : 0 ≤ s) (h0 : 0 ≤ i) (hi : i < 32) (h : Q (I_ (b2i (s.toNat.testBit i.toNat = true))) μ) : V_ nX7_has 0 [I_ s, I_ i] [] μ Q := by
  refine v_loc (fun hl => ?_)
  have hr : inR s := hl (I_ s) (by simp)
  have e := bit_has hs hr h0 hi
  refine v_iload_n dX7_has_0 rfl rfl ?_
  refine v_iload_n dX7_has_1 rfl rfl ?_
  refine v_ishr dX7_has_2 ?_
  refine v_iconst dX7_has_3 (by decide) ?_
  refine v_iand dX7_has_4 ?_
  rw [e]
  refine v_if_eq (tgt := 12) dX7_has_5 (by decide) (fun hc_5 => ?_) (fun hc_5 => ?_)
  · refine v_iconst dX7_has_12 (by decide) ?_
    refine v_zreturn dX7_has_13 rfl (by first | exact Or.inl rfl | exact Or.inr rfl | exact b2i_01 _ | assumption) ?_
    rwa [hc_5] at h
  · refine v_iconst dX7_has_8 (by decide) ?_
    refine v_goto (tgt := 13) dX7_has_9 (by decide) ?_
    refine v_zreturn dX7_has_13 rfl (by first | exact Or.inl rfl | exact Or.inr rfl | exact b2i_01 _ | assumption) ?_
    rcases b2i_01 (s.toNat.testBit i.toNat = true) with q | q
    · exact absurd q hc_5
    · rwa [q] at h
set_option maxRecDepth 10000 in
theorem c_X2_isKey {k : Int} (h : Q (I_ (b2i (0 ≤ k ∧ k < μ 17 0))) μ) : V_ nX2_isKey 0 [R_ 17, I_ k] [] μ Q := by
  refine v_iload_n dX2_isKey_0 rfl rfl ?_
  refine v_if_lt (tgt := 16) dX2_isKey_1 (by decide) (fun hc_1 => ?_) (fun hc_1 => ?_)
  · refine v_iconst dX2_isKey_16 (by decide) ?_
    refine v_zreturn dX2_isKey_17 rfl (by first | exact Or.inl rfl | exact Or.inr rfl | exact b2i_01 _ | assumption) ?_
    rwa [b2i_f (by omega)] at h
  · refine v_iload_n dX2_isKey_4 rfl rfl ?_
    refine v_aload_n dX2_isKey_5 rfl rfl ?_
    refine v_getI dX2_isKey_6 fX2_36 rfl rfl rfl ?_
    refine v_icmp_ge (tgt := 16) dX2_isKey_9 (by decide) (fun hc_9 => ?_) (fun hc_9 => ?_)
    · refine v_iconst dX2_isKey_16 (by decide) ?_
      refine v_zreturn dX2_isKey_17 rfl (by first | exact Or.inl rfl | exact Or.inr rfl | exact b2i_01 _ | assumption) ?_
      rwa [b2i_f (by omega)] at h
    · refine v_iconst dX2_isKey_12 (by decide) ?_
      refine v_goto (tgt := 17) dX2_isKey_13 (by decide) ?_
      refine v_zreturn dX2_isKey_17 rfl (by first | exact Or.inl rfl | exact Or.inr rfl | exact b2i_01 _ | assumption) ?_
      rwa [b2i_t (by omega)] at h
set_option maxRecDepth 10000 in
theorem c_X2_arePersons {a b : Int} (h : Q (I_ (b2i (0 ≤ a ∧ a < 12 ∧ 0 ≤ b ∧ b < 12))) μ) : V_ nX2_arePersons 0 [I_ a, I_ b] [] μ Q := by
  refine v_iload_n dX2_arePersons_0 rfl rfl ?_
  refine v_if_lt (tgt := 24) dX2_arePersons_1 (by decide) (fun hc_1 => ?_) (fun hc_1 => ?_)
  · refine v_iconst dX2_arePersons_24 (by decide) ?_
    refine v_zreturn dX2_arePersons_25 rfl (by first | exact Or.inl rfl | exact Or.inr rfl | exact b2i_01 _ | assumption) ?_
    rwa [b2i_f (by omega)] at h
  · refine v_iload_n dX2_arePersons_4 rfl rfl ?_
    refine v_bipush dX2_arePersons_5 (by decide) ?_
    refine v_icmp_ge (tgt := 24) dX2_arePersons_7 (by decide) (fun hc_7 => ?_) (fun hc_7 => ?_)
    · refine v_iconst dX2_arePersons_24 (by decide) ?_
      refine v_zreturn dX2_arePersons_25 rfl (by first | exact Or.inl rfl | exact Or.inr rfl | exact b2i_01 _ | assumption) ?_
      rwa [b2i_f (by omega)] at h
    · refine v_iload_n dX2_arePersons_10 rfl rfl ?_
      refine v_if_lt (tgt := 24) dX2_arePersons_11 (by decide) (fun hc_11 => ?_) (fun hc_11 => ?_)
      · refine v_iconst dX2_arePersons_24 (by decide) ?_
        refine v_zreturn dX2_arePersons_25 rfl (by first | exact Or.inl rfl | exact Or.inr rfl | exact b2i_01 _ | assumption) ?_
        rwa [b2i_f (by omega)] at h
      · refine v_iload_n dX2_arePersons_14 rfl rfl ?_
        refine v_bipush dX2_arePersons_15 (by decide) ?_
        refine v_icmp_ge (tgt := 24) dX2_arePersons_17 (by decide) (fun hc_17 => ?_) (fun hc_17 => ?_)
        · refine v_iconst dX2_arePersons_24 (by decide) ?_
          refine v_zreturn dX2_arePersons_25 rfl (by first | exact Or.inl rfl | exact Or.inr rfl | exact b2i_01 _ | assumption) ?_
          rwa [b2i_f (by omega)] at h
        · refine v_iconst dX2_arePersons_20 (by decide) ?_
          refine v_goto (tgt := 25) dX2_arePersons_21 (by decide) ?_
          refine v_zreturn dX2_arePersons_25 rfl (by first | exact Or.inl rfl | exact Or.inr rfl | exact b2i_01 _ | assumption) ?_
          rwa [b2i_t (by omega)] at h
set_option maxRecDepth 10000 in
theorem c_X2_trustOf {a b : Int} (h : Q (I_ (trC μ a b)) μ) : V_ nX2_trustOf 0 [R_ 17, I_ a, I_ b] [] μ Q := by
  refine v_iload_n dX2_trustOf_0 rfl rfl ?_
  refine v_iload_n dX2_trustOf_1 rfl rfl ?_
  refine v_callSi [_, _] dX2_trustOf_2 lX2_80 ksX2_arePersons (plX2 _ _) (Or.inr rfl) rfl rfl rfl rfl rfl rfl (c_X2_arePersons ?_)
  refine v_ifb_eq (tgt := 22) dX2_trustOf_5 (by decide) (fun hc_5 => ?_) (fun hc_5 => ?_)
  · refine v_iconst dX2_trustOf_22 (by decide) ?_
    refine v_ireturn dX2_trustOf_23 rfl ?_
    rwa [trC, if_neg hc_5] at h
  · refine v_aload_n dX2_trustOf_8 rfl rfl ?_
    refine v_getR dX2_trustOf_9 fX2_30 rfl rfl rfl ?_
    refine v_iload_n dX2_trustOf_12 rfl rfl ?_
    refine v_bipush dX2_trustOf_13 (by decide) ?_
    refine v_imul dX2_trustOf_15 (fun ha hb => by omega) ?_
    refine v_iload_n dX2_trustOf_16 rfl rfl ?_
    refine v_iadd dX2_trustOf_17 (fun ha hb => by omega) ?_
    refine v_iald dX2_trustOf_18 rfl (by omega) (by omega) ?_
    refine v_goto (tgt := 23) dX2_trustOf_19 (by decide) ?_
    refine v_ireturn dX2_trustOf_23 rfl ?_
    rwa [trC, if_pos hc_5] at h
set_option maxRecDepth 10000 in
theorem c_X2_changesOf {h : Int} (hq : Q (I_ (chC μ h)) μ) : V_ nX2_changesOf 0 [R_ 17, I_ h] [] μ Q := by
  refine v_iload_n dX2_changesOf_0 rfl rfl ?_
  refine v_if_lt (tgt := 19) dX2_changesOf_1 (by decide) (fun hc_1 => ?_) (fun hc_1 => ?_)
  · refine v_iconst dX2_changesOf_19 (by decide) ?_
    refine v_ireturn dX2_changesOf_20 rfl ?_
    rwa [chC, if_neg (by omega)] at hq
  · refine v_iload_n dX2_changesOf_4 rfl rfl ?_
    refine v_bipush dX2_changesOf_5 (by decide) ?_
    refine v_icmp_ge (tgt := 19) dX2_changesOf_7 (by decide) (fun hc_7 => ?_) (fun hc_7 => ?_)
    · refine v_iconst dX2_changesOf_19 (by decide) ?_
      refine v_ireturn dX2_changesOf_20 rfl ?_
      rwa [chC, if_neg (by omega)] at hq
    · refine v_aload_n dX2_changesOf_10 rfl rfl ?_
      refine v_getR dX2_changesOf_11 fX2_27 rfl rfl rfl ?_
      refine v_iload_n dX2_changesOf_14 rfl rfl ?_
      refine v_iald dX2_changesOf_15 rfl (by omega) (by omega) ?_
      refine v_goto (tgt := 20) dX2_changesOf_16 (by decide) ?_
      refine v_ireturn dX2_changesOf_20 rfl ?_
      rwa [chC, if_pos (by omega)] at hq
set_option maxRecDepth 10000 in
theorem c_X2_isLive {k : Int} (hp : PIc μ) (hk : 0 ≤ k ∧ k < μ 17 0) (h : Q (I_ (b2i (liveC μ k.toNat))) μ) : V_ nX2_isLive 0 [R_ 17, I_ k] [] μ Q := by
  have hp1 := hp.1
  have hb := hp.2 k.toNat (by omega)
  have e : chC μ (μ 18 k.toNat) = μ 23 (μ 18 k.toNat).toNat := if_pos hb.1
  refine v_aload_n dX2_isLive_0 rfl rfl ?_
  refine v_iload_n dX2_isLive_1 rfl rfl ?_
  refine v_callVi [_] dX2_isLive_2 lX2_70 kvX2_isKey (plX2 _ _) (Or.inr rfl) rfl rfl rfl rfl rfl rfl rfl rfl rfl (c_X2_isKey ?_)
  refine v_ifb_eq (tgt := 31) dX2_isLive_5 (by decide) (fun hc_5 => ?_) (fun hc_5 => ?_)
  · refine v_iconst dX2_isLive_31 (by decide) ?_
    refine v_zreturn dX2_isLive_32 rfl (by first | exact Or.inl rfl | exact Or.inr rfl | exact b2i_01 _ | assumption) ?_
    omega
  · refine v_aload_n dX2_isLive_8 rfl rfl ?_
    refine v_getR dX2_isLive_9 fX2_15 rfl rfl rfl ?_
    refine v_iload_n dX2_isLive_12 rfl rfl ?_
    refine v_iald dX2_isLive_13 rfl (by omega) (by omega) ?_
    refine v_aload_n dX2_isLive_14 rfl rfl ?_
    refine v_aload_n dX2_isLive_15 rfl rfl ?_
    refine v_getR dX2_isLive_16 fX2_9 rfl rfl rfl ?_
    refine v_iload_n dX2_isLive_19 rfl rfl ?_
    refine v_iald dX2_isLive_20 rfl (by omega) (by omega) ?_
    refine v_callVi [_] dX2_isLive_21 lX2_62 kvX2_changesOf (plX2 _ _) (Or.inl rfl) rfl rfl rfl rfl rfl rfl rfl rfl rfl (c_X2_changesOf ?_)
    refine v_icmp_ne (tgt := 31) dX2_isLive_24 (by decide) (fun hc_24 => ?_) (fun hc_24 => ?_)
    · refine v_iconst dX2_isLive_31 (by decide) ?_
      refine v_zreturn dX2_isLive_32 rfl (by first | exact Or.inl rfl | exact Or.inr rfl | exact b2i_01 _ | assumption) ?_
      rw [e] at hc_24
      rwa [b2i_f hc_24] at h
    · refine v_iconst dX2_isLive_27 (by decide) ?_
      refine v_goto (tgt := 32) dX2_isLive_28 (by decide) ?_
      refine v_zreturn dX2_isLive_32 rfl (by first | exact Or.inl rfl | exact Or.inr rfl | exact b2i_01 _ | assumption) ?_
      rw [e] at hc_24
      rwa [b2i_t (by omega)] at h
set_option maxRecDepth 10000 in
theorem lp_X2_opens {place holder : Int} (hp : PIc μ) (h : Q (I_ (opensC μ place holder : Int)) μ) : ∀ k : Int, 0 ≤ k → k ≤ μ 17 0 → ∀ a : Int, a = ((orR k.toNat (opF μ place holder) : Nat) : Int) → V_ nX2_opens 5 [R_ 17, I_ place, I_ holder, I_ a, I_ k, U_] [] μ Q := by
  have hp1 := hp.1
  refine loop_up _ (fun k h0 h1 ih => ?_)
  intro a ha
  have hf : k < μ 17 0 → ∀ j, j ≤ k.toNat → opF μ place holder j < 2 ^ 31 := by
    intro hk j hj
    have := hp.2 j (by omega)
    unfold opF
    split
    · exact pow2_31 (by omega)
    · decide
  have hb : k < μ 17 0 → _ := fun hk => hp.2 k.toNat (by omega)
  refine v_iload dX2_opens_5 rfl ?_
  refine v_aload_n dX2_opens_7 rfl rfl ?_
  refine v_getI dX2_opens_8 fX2_36 rfl rfl rfl ?_
  refine v_icmp_ge (tgt := 84) dX2_opens_11 (by decide) (fun hc_11 => ?_) (fun hc_11 => ?_)
  · refine v_iload_n dX2_opens_84 rfl rfl ?_
    refine v_ireturn dX2_opens_85 rfl ?_
    rw [show k = μ 17 0 by omega] at ha
    rwa [ha]
  · refine v_aload_n dX2_opens_14 rfl rfl ?_
    refine v_getR dX2_opens_15 fX2_18 rfl rfl rfl ?_
    refine v_iload dX2_opens_18 rfl ?_
    refine v_iald dX2_opens_20 rfl (by omega) (by omega) ?_
    refine v_iload_n dX2_opens_21 rfl rfl ?_
    refine v_icmp_ne (tgt := 45) dX2_opens_22 (by decide) (fun hc_22 => ?_) (fun hc_22 => ?_)
    · refine v_iconst dX2_opens_45 (by decide) ?_
      refine v_istore (ls' := [_, _, _, _, _, _]) dX2_opens_46 rfl rfl rfl ?_
      refine v_iload_n dX2_opens_48 rfl rfl ?_
      refine v_iload dX2_opens_49 rfl ?_
      refine v_if_eq (tgt := 75) dX2_opens_51 (by decide) (fun _ => ?_) (fun q => absurd (by decide) q)
      refine v_iconst dX2_opens_75 (by decide) ?_
      refine v_ior dX2_opens_76 ?_
      refine v_istore_n (ls' := [_, _, _, _, _, _]) dX2_opens_77 rfl rfl rfl rfl ?_
      refine v_iinc (ls' := [_, _, _, _, _, _]) dX2_opens_78 rfl (fun hi_78 => by omega) rfl rfl ?_
      refine v_goto (tgt := 5) dX2_opens_81 (by decide) ?_
      refine v_kill (ls' := [_, _, _, _, _, _]) 5 rfl ?_
      have hb := hb (by omega)
      refine ih (by omega) _ (orS h0 ha (x := opF μ place holder k.toNat) ?_ rfl (hf (by omega)))
      unfold opF
      first
        | (rw [if_pos (by omega)]; exact bShl_one (by omega) (by omega))
        | (rw [if_neg (by omega)]; rfl)
    · refine v_iload_n dX2_opens_25 rfl rfl ?_
      refine v_iconst dX2_opens_26 (by decide) ?_
      refine v_icmp_eq (tgt := 41) dX2_opens_27 (by decide) (fun hc_27 => ?_) (fun hc_27 => ?_)
      · refine v_iconst dX2_opens_41 (by decide) ?_
        refine v_goto (tgt := 46) dX2_opens_42 (by decide) ?_
        refine v_istore (ls' := [_, _, _, _, _, _]) dX2_opens_46 rfl rfl rfl ?_
        refine v_iload_n dX2_opens_48 rfl rfl ?_
        refine v_iload dX2_opens_49 rfl ?_
        refine v_if_eq (tgt := 75) dX2_opens_51 (by decide) (fun q => absurd q (by decide)) (fun _ => ?_)
        refine v_aload_n dX2_opens_54 rfl rfl ?_
        refine v_iload dX2_opens_55 rfl ?_
        refine v_callVi [_] dX2_opens_57 lX2_102 kvX2_isLive (plX2 _ _) (Or.inr rfl) rfl rfl rfl rfl rfl rfl rfl rfl rfl (c_X2_isLive hp (by omega) ?_)
        refine v_ifb_eq (tgt := 75) dX2_opens_60 (by decide) (fun hc_60 => ?_) (fun hc_60 => ?_)
        · refine v_iconst dX2_opens_75 (by decide) ?_
          refine v_ior dX2_opens_76 ?_
          refine v_istore_n (ls' := [_, _, _, _, _, _]) dX2_opens_77 rfl rfl rfl rfl ?_
          refine v_iinc (ls' := [_, _, _, _, _, _]) dX2_opens_78 rfl (fun hi_78 => by omega) rfl rfl ?_
          refine v_goto (tgt := 5) dX2_opens_81 (by decide) ?_
          refine v_kill (ls' := [_, _, _, _, _, _]) 5 rfl ?_
          have hb := hb (by omega)
          refine ih (by omega) _ (orS h0 ha (x := opF μ place holder k.toNat) ?_ rfl (hf (by omega)))
          unfold opF
          first
            | (rw [if_pos (by omega)]; exact bShl_one (by omega) (by omega))
            | (rw [if_neg (by omega)]; rfl)
        · refine v_iconst dX2_opens_63 (by decide) ?_
          refine v_aload_n dX2_opens_64 rfl rfl ?_
          refine v_getR dX2_opens_65 fX2_9 rfl rfl rfl ?_
          refine v_iload dX2_opens_68 rfl ?_
          refine v_iald dX2_opens_70 rfl (by omega) (by omega) ?_
          refine v_ishl dX2_opens_71 ?_
          refine v_goto (tgt := 76) dX2_opens_72 (by decide) ?_
          refine v_ior dX2_opens_76 ?_
          refine v_istore_n (ls' := [_, _, _, _, _, _]) dX2_opens_77 rfl rfl rfl rfl ?_
          refine v_iinc (ls' := [_, _, _, _, _, _]) dX2_opens_78 rfl (fun hi_78 => by omega) rfl rfl ?_
          refine v_goto (tgt := 5) dX2_opens_81 (by decide) ?_
          refine v_kill (ls' := [_, _, _, _, _, _]) 5 rfl ?_
          have hb := hb (by omega)
          refine ih (by omega) _ (orS h0 ha (x := opF μ place holder k.toNat) ?_ rfl (hf (by omega)))
          unfold opF
          first
            | (rw [if_pos (by omega)]; exact bShl_one (by omega) (by omega))
            | (rw [if_neg (by omega)]; rfl)
      · refine v_aload_n dX2_opens_30 rfl rfl ?_
        refine v_getR dX2_opens_31 fX2_21 rfl rfl rfl ?_
        refine v_iload dX2_opens_34 rfl ?_
        refine v_iald dX2_opens_36 rfl (by omega) (by omega) ?_
        refine v_iload_n dX2_opens_37 rfl rfl ?_
        refine v_icmp_ne (tgt := 45) dX2_opens_38 (by decide) (fun hc_38 => ?_) (fun hc_38 => ?_)
        · refine v_iconst dX2_opens_45 (by decide) ?_
          refine v_istore (ls' := [_, _, _, _, _, _]) dX2_opens_46 rfl rfl rfl ?_
          refine v_iload_n dX2_opens_48 rfl rfl ?_
          refine v_iload dX2_opens_49 rfl ?_
          refine v_if_eq (tgt := 75) dX2_opens_51 (by decide) (fun _ => ?_) (fun q => absurd (by decide) q)
          refine v_iconst dX2_opens_75 (by decide) ?_
          refine v_ior dX2_opens_76 ?_
          refine v_istore_n (ls' := [_, _, _, _, _, _]) dX2_opens_77 rfl rfl rfl rfl ?_
          refine v_iinc (ls' := [_, _, _, _, _, _]) dX2_opens_78 rfl (fun hi_78 => by omega) rfl rfl ?_
          refine v_goto (tgt := 5) dX2_opens_81 (by decide) ?_
          refine v_kill (ls' := [_, _, _, _, _, _]) 5 rfl ?_
          have hb := hb (by omega)
          refine ih (by omega) _ (orS h0 ha (x := opF μ place holder k.toNat) ?_ rfl (hf (by omega)))
          unfold opF
          first
            | (rw [if_pos (by omega)]; exact bShl_one (by omega) (by omega))
            | (rw [if_neg (by omega)]; rfl)
        · refine v_iconst dX2_opens_41 (by decide) ?_
          refine v_goto (tgt := 46) dX2_opens_42 (by decide) ?_
          refine v_istore (ls' := [_, _, _, _, _, _]) dX2_opens_46 rfl rfl rfl ?_
          refine v_iload_n dX2_opens_48 rfl rfl ?_
          refine v_iload dX2_opens_49 rfl ?_
          refine v_if_eq (tgt := 75) dX2_opens_51 (by decide) (fun q => absurd q (by decide)) (fun _ => ?_)
          refine v_aload_n dX2_opens_54 rfl rfl ?_
          refine v_iload dX2_opens_55 rfl ?_
          refine v_callVi [_] dX2_opens_57 lX2_102 kvX2_isLive (plX2 _ _) (Or.inr rfl) rfl rfl rfl rfl rfl rfl rfl rfl rfl (c_X2_isLive hp (by omega) ?_)
          refine v_ifb_eq (tgt := 75) dX2_opens_60 (by decide) (fun hc_60 => ?_) (fun hc_60 => ?_)
          · refine v_iconst dX2_opens_75 (by decide) ?_
            refine v_ior dX2_opens_76 ?_
            refine v_istore_n (ls' := [_, _, _, _, _, _]) dX2_opens_77 rfl rfl rfl rfl ?_
            refine v_iinc (ls' := [_, _, _, _, _, _]) dX2_opens_78 rfl (fun hi_78 => by omega) rfl rfl ?_
            refine v_goto (tgt := 5) dX2_opens_81 (by decide) ?_
            refine v_kill (ls' := [_, _, _, _, _, _]) 5 rfl ?_
            have hb := hb (by omega)
            refine ih (by omega) _ (orS h0 ha (x := opF μ place holder k.toNat) ?_ rfl (hf (by omega)))
            unfold opF
            first
              | (rw [if_pos (by omega)]; exact bShl_one (by omega) (by omega))
              | (rw [if_neg (by omega)]; rfl)
          · refine v_iconst dX2_opens_63 (by decide) ?_
            refine v_aload_n dX2_opens_64 rfl rfl ?_
            refine v_getR dX2_opens_65 fX2_9 rfl rfl rfl ?_
            refine v_iload dX2_opens_68 rfl ?_
            refine v_iald dX2_opens_70 rfl (by omega) (by omega) ?_
            refine v_ishl dX2_opens_71 ?_
            refine v_goto (tgt := 76) dX2_opens_72 (by decide) ?_
            refine v_ior dX2_opens_76 ?_
            refine v_istore_n (ls' := [_, _, _, _, _, _]) dX2_opens_77 rfl rfl rfl rfl ?_
            refine v_iinc (ls' := [_, _, _, _, _, _]) dX2_opens_78 rfl (fun hi_78 => by omega) rfl rfl ?_
            refine v_goto (tgt := 5) dX2_opens_81 (by decide) ?_
            refine v_kill (ls' := [_, _, _, _, _, _]) 5 rfl ?_
            have hb := hb (by omega)
            refine ih (by omega) _ (orS h0 ha (x := opF μ place holder k.toNat) ?_ rfl (hf (by omega)))
            unfold opF
            first
              | (rw [if_pos (by omega)]; exact bShl_one (by omega) (by omega))
              | (rw [if_neg (by omega)]; rfl)
set_option maxRecDepth 10000 in
theorem c_X2_opens {place holder : Int} (hp : PIc μ) (h : Q (I_ (opensC μ place holder : Int)) μ) : V_ nX2_opens 0 [R_ 17, I_ place, I_ holder, U_, U_, U_] [] μ Q := by
  have hp1 := hp.1
  refine v_iconst dX2_opens_0 (by decide) ?_
  refine v_istore_n (ls' := [_, _, _, _, _, _]) dX2_opens_1 rfl rfl rfl rfl ?_
  refine v_iconst dX2_opens_2 (by decide) ?_
  refine v_istore (ls' := [_, _, _, _, _, _]) dX2_opens_3 rfl rfl rfl ?_
  exact lp_X2_opens hp h 0 (by omega) (by omega) 0 rfl
def lkF (μ : Mem_) (h : Int) (k : Nat) : Nat := if μ 18 k = h ∧ liveC μ k then 2 ^ k else 0
set_option maxRecDepth 10000 in
theorem c_X2_liveKeysOf {h : Int} (hp : PIc μ) (hq : Q (I_ (orR (μ 17 0).toNat (lkF μ h) : Int)) μ) : V_ nX2_liveKeysOf 0 [R_ 17, I_ h, U_, U_] [] μ Q := by
  have hp1 := hp.1
  have lp : ∀ k : Int, 0 ≤ k → k ≤ μ 17 0 → ∀ a : Int, a = ((orR k.toNat (lkF μ h) : Nat) : Int) → V_ nX2_liveKeysOf 4 [R_ 17, I_ h, I_ a, I_ k] [] μ Q := by
    refine loop_up _ (fun k h0 h1 ih => ?_)
    intro a ha
    have hf : k < μ 17 0 → ∀ j, j ≤ k.toNat → lkF μ h j < 2 ^ 31 := by
      intro hk j hj
      unfold lkF
      split
      · exact ones_pow (by omega)
      · decide
    refine v_iload_n dX2_liveKeysOf_4 rfl rfl ?_
    refine v_aload_n dX2_liveKeysOf_5 rfl rfl ?_
    refine v_getI dX2_liveKeysOf_6 fX2_36 rfl rfl rfl ?_
    refine v_icmp_ge (tgt := 46) dX2_liveKeysOf_9 (by decide) (fun hc_9 => ?_) (fun hc_9 => ?_)
    · refine v_iload_n dX2_liveKeysOf_46 rfl rfl ?_
      refine v_ireturn dX2_liveKeysOf_47 rfl ?_
      rw [show k = μ 17 0 by omega] at ha
      rwa [ha]
    · refine v_iload_n dX2_liveKeysOf_12 rfl rfl ?_
      refine v_aload_n dX2_liveKeysOf_13 rfl rfl ?_
      refine v_getR dX2_liveKeysOf_14 fX2_9 rfl rfl rfl ?_
      refine v_iload_n dX2_liveKeysOf_17 rfl rfl ?_
      refine v_iald dX2_liveKeysOf_18 rfl (by omega) (by omega) ?_
      refine v_iload_n dX2_liveKeysOf_19 rfl rfl ?_
      refine v_icmp_ne (tgt := 37) dX2_liveKeysOf_20 (by decide) (fun hc_20 => ?_) (fun hc_20 => ?_)
      · refine v_iconst dX2_liveKeysOf_37 (by decide) ?_
        refine v_ior dX2_liveKeysOf_38 ?_
        refine v_istore_n (ls' := [_, _, _, _]) dX2_liveKeysOf_39 rfl rfl rfl rfl ?_
        refine v_iinc (ls' := [_, _, _, _]) dX2_liveKeysOf_40 rfl (fun hi_40 => by omega) rfl rfl ?_
        refine v_goto (tgt := 4) dX2_liveKeysOf_43 (by decide) ?_
        refine ih (by omega) _ (orS h0 ha (x := lkF μ h k.toNat) ?_ rfl (hf (by omega)))
        unfold lkF
        first
          | (rw [if_pos (by omega)]; exact bShl_one (by omega) (by omega))
          | (rw [if_neg (by omega)]; rfl)
      · refine v_aload_n dX2_liveKeysOf_23 rfl rfl ?_
        refine v_iload_n dX2_liveKeysOf_24 rfl rfl ?_
        refine v_callVi [_] dX2_liveKeysOf_25 lX2_102 kvX2_isLive (plX2 _ _) (Or.inr rfl) rfl rfl rfl rfl rfl rfl rfl rfl rfl (c_X2_isLive hp (by omega) ?_)
        refine v_ifb_eq (tgt := 37) dX2_liveKeysOf_28 (by decide) (fun hc_28 => ?_) (fun hc_28 => ?_)
        · refine v_iconst dX2_liveKeysOf_37 (by decide) ?_
          refine v_ior dX2_liveKeysOf_38 ?_
          refine v_istore_n (ls' := [_, _, _, _]) dX2_liveKeysOf_39 rfl rfl rfl rfl ?_
          refine v_iinc (ls' := [_, _, _, _]) dX2_liveKeysOf_40 rfl (fun hi_40 => by omega) rfl rfl ?_
          refine v_goto (tgt := 4) dX2_liveKeysOf_43 (by decide) ?_
          refine ih (by omega) _ (orS h0 ha (x := lkF μ h k.toNat) ?_ rfl (hf (by omega)))
          unfold lkF
          first
            | (rw [if_pos (by omega)]; exact bShl_one (by omega) (by omega))
            | (rw [if_neg (by omega)]; rfl)
        · refine v_iconst dX2_liveKeysOf_31 (by decide) ?_
          refine v_iload_n dX2_liveKeysOf_32 rfl rfl ?_
          refine v_ishl dX2_liveKeysOf_33 ?_
          refine v_goto (tgt := 38) dX2_liveKeysOf_34 (by decide) ?_
          refine v_ior dX2_liveKeysOf_38 ?_
          refine v_istore_n (ls' := [_, _, _, _]) dX2_liveKeysOf_39 rfl rfl rfl rfl ?_
          refine v_iinc (ls' := [_, _, _, _]) dX2_liveKeysOf_40 rfl (fun hi_40 => by omega) rfl rfl ?_
          refine v_goto (tgt := 4) dX2_liveKeysOf_43 (by decide) ?_
          refine ih (by omega) _ (orS h0 ha (x := lkF μ h k.toNat) ?_ rfl (hf (by omega)))
          unfold lkF
          first
            | (rw [if_pos (by omega)]; exact bShl_one (by omega) (by omega))
            | (rw [if_neg (by omega)]; rfl)
  refine v_iconst dX2_liveKeysOf_0 (by decide) ?_
  refine v_istore_n (ls' := [_, _, _, _]) dX2_liveKeysOf_1 rfl rfl rfl rfl ?_
  refine v_iconst dX2_liveKeysOf_2 (by decide) ?_
  refine v_istore_n (ls' := [_, _, _, _]) dX2_liveKeysOf_3 rfl rfl rfl rfl ?_
  exact lp 0 (by omega) (by omega) 0 rfl
def hkF (μ : Mem_) (p : Int) (k : Nat) : Nat := if μ 20 k = 0 ∧ μ 21 k = p then 2 ^ k else 0
set_option maxRecDepth 10000 in
theorem c_X2_keysHeldBy {p : Int} (hp : PIc μ) (hq : Q (I_ (orR (μ 17 0).toNat (hkF μ p) : Int)) μ) : V_ nX2_keysHeldBy 0 [R_ 17, I_ p, U_, U_] [] μ Q := by
  have hp1 := hp.1
  have lp : ∀ k : Int, 0 ≤ k → k ≤ μ 17 0 → ∀ a : Int, a = ((orR k.toNat (hkF μ p) : Nat) : Int) → V_ nX2_keysHeldBy 4 [R_ 17, I_ p, I_ a, I_ k] [] μ Q := by
    refine loop_up _ (fun k h0 h1 ih => ?_)
    intro a ha
    have hf : k < μ 17 0 → ∀ j, j ≤ k.toNat → hkF μ p j < 2 ^ 31 := by
      intro hk j hj
      unfold hkF
      split
      · exact ones_pow (by omega)
      · decide
    refine v_iload_n dX2_keysHeldBy_4 rfl rfl ?_
    refine v_aload_n dX2_keysHeldBy_5 rfl rfl ?_
    refine v_getI dX2_keysHeldBy_6 fX2_36 rfl rfl rfl ?_
    refine v_icmp_ge (tgt := 47) dX2_keysHeldBy_9 (by decide) (fun hc_9 => ?_) (fun hc_9 => ?_)
    · refine v_iload_n dX2_keysHeldBy_47 rfl rfl ?_
      refine v_ireturn dX2_keysHeldBy_48 rfl ?_
      rw [show k = μ 17 0 by omega] at ha
      rwa [ha]
    · refine v_iload_n dX2_keysHeldBy_12 rfl rfl ?_
      refine v_aload_n dX2_keysHeldBy_13 rfl rfl ?_
      refine v_getR dX2_keysHeldBy_14 fX2_18 rfl rfl rfl ?_
      refine v_iload_n dX2_keysHeldBy_17 rfl rfl ?_
      refine v_iald dX2_keysHeldBy_18 rfl (by omega) (by omega) ?_
      refine v_if_ne (tgt := 38) dX2_keysHeldBy_19 (by decide) (fun hc_19 => ?_) (fun hc_19 => ?_)
      · refine v_iconst dX2_keysHeldBy_38 (by decide) ?_
        refine v_ior dX2_keysHeldBy_39 ?_
        refine v_istore_n (ls' := [_, _, _, _]) dX2_keysHeldBy_40 rfl rfl rfl rfl ?_
        refine v_iinc (ls' := [_, _, _, _]) dX2_keysHeldBy_41 rfl (fun hi_41 => by omega) rfl rfl ?_
        refine v_goto (tgt := 4) dX2_keysHeldBy_44 (by decide) ?_
        refine ih (by omega) _ (orS h0 ha (x := hkF μ p k.toNat) ?_ rfl (hf (by omega)))
        unfold hkF
        first
          | (rw [if_pos (by omega)]; exact bShl_one (by omega) (by omega))
          | (rw [if_neg (by omega)]; rfl)
      · refine v_aload_n dX2_keysHeldBy_22 rfl rfl ?_
        refine v_getR dX2_keysHeldBy_23 fX2_21 rfl rfl rfl ?_
        refine v_iload_n dX2_keysHeldBy_26 rfl rfl ?_
        refine v_iald dX2_keysHeldBy_27 rfl (by omega) (by omega) ?_
        refine v_iload_n dX2_keysHeldBy_28 rfl rfl ?_
        refine v_icmp_ne (tgt := 38) dX2_keysHeldBy_29 (by decide) (fun hc_29 => ?_) (fun hc_29 => ?_)
        · refine v_iconst dX2_keysHeldBy_38 (by decide) ?_
          refine v_ior dX2_keysHeldBy_39 ?_
          refine v_istore_n (ls' := [_, _, _, _]) dX2_keysHeldBy_40 rfl rfl rfl rfl ?_
          refine v_iinc (ls' := [_, _, _, _]) dX2_keysHeldBy_41 rfl (fun hi_41 => by omega) rfl rfl ?_
          refine v_goto (tgt := 4) dX2_keysHeldBy_44 (by decide) ?_
          refine ih (by omega) _ (orS h0 ha (x := hkF μ p k.toNat) ?_ rfl (hf (by omega)))
          unfold hkF
          first
            | (rw [if_pos (by omega)]; exact bShl_one (by omega) (by omega))
            | (rw [if_neg (by omega)]; rfl)
        · refine v_iconst dX2_keysHeldBy_32 (by decide) ?_
          refine v_iload_n dX2_keysHeldBy_33 rfl rfl ?_
          refine v_ishl dX2_keysHeldBy_34 ?_
          refine v_goto (tgt := 39) dX2_keysHeldBy_35 (by decide) ?_
          refine v_ior dX2_keysHeldBy_39 ?_
          refine v_istore_n (ls' := [_, _, _, _]) dX2_keysHeldBy_40 rfl rfl rfl rfl ?_
          refine v_iinc (ls' := [_, _, _, _]) dX2_keysHeldBy_41 rfl (fun hi_41 => by omega) rfl rfl ?_
          refine v_goto (tgt := 4) dX2_keysHeldBy_44 (by decide) ?_
          refine ih (by omega) _ (orS h0 ha (x := hkF μ p k.toNat) ?_ rfl (hf (by omega)))
          unfold hkF
          first
            | (rw [if_pos (by omega)]; exact bShl_one (by omega) (by omega))
            | (rw [if_neg (by omega)]; rfl)
  refine v_iconst dX2_keysHeldBy_0 (by decide) ?_
  refine v_istore_n (ls' := [_, _, _, _]) dX2_keysHeldBy_1 rfl rfl rfl rfl ?_
  refine v_iconst dX2_keysHeldBy_2 (by decide) ?_
  refine v_istore_n (ls' := [_, _, _, _]) dX2_keysHeldBy_3 rfl rfl rfl rfl ?_
  exact lp 0 (by omega) (by omega) 0 rfl
def poF (μ : Mem_) (p : Nat) (k : Nat) : Nat := if (μ 22 k).toNat.testBit p = true ∧ liveC μ k then 2 ^ (μ 18 k).toNat else 0
set_option maxRecDepth 10000 in
theorem c_X2_passedOpens {p : Int} (hp : PIc μ) (h0p : 0 ≤ p ∧ p < 12) (hq : Q (I_ (orR (μ 17 0).toNat (poF μ p.toNat) : Int)) μ) : V_ nX2_passedOpens 0 [R_ 17, I_ p, U_, U_] [] μ Q := by
  have hp1 := hp.1
  have lp : ∀ k : Int, 0 ≤ k → k ≤ μ 17 0 → ∀ a : Int, a = ((orR k.toNat (poF μ p.toNat) : Nat) : Int) → V_ nX2_passedOpens 4 [R_ 17, I_ p, I_ a, I_ k] [] μ Q := by
    refine loop_up _ (fun k h0 h1 ih => ?_)
    intro a ha
    have hf : k < μ 17 0 → ∀ j, j ≤ k.toNat → poF μ p.toNat j < 2 ^ 31 := by
      intro hk j hj
      have := hp.2 j (by omega)
      unfold poF
      split
      · exact pow2_31 (by omega)
      · decide
    have hb : k < μ 17 0 → _ := fun hk => hp.2 k.toNat (by omega)
    refine v_iload_n dX2_passedOpens_4 rfl rfl ?_
    refine v_aload_n dX2_passedOpens_5 rfl rfl ?_
    refine v_getI dX2_passedOpens_6 fX2_36 rfl rfl rfl ?_
    refine v_icmp_ge (tgt := 54) dX2_passedOpens_9 (by decide) (fun hc_9 => ?_) (fun hc_9 => ?_)
    · refine v_iload_n dX2_passedOpens_54 rfl rfl ?_
      refine v_ireturn dX2_passedOpens_55 rfl ?_
      rw [show k = μ 17 0 by omega] at ha
      rwa [ha]
    · have hb := hb (by omega)
      refine v_iload_n dX2_passedOpens_12 rfl rfl ?_
      refine v_aload_n dX2_passedOpens_13 rfl rfl ?_
      refine v_getR dX2_passedOpens_14 fX2_24 rfl rfl rfl ?_
      refine v_iload_n dX2_passedOpens_17 rfl rfl ?_
      refine v_iald dX2_passedOpens_18 rfl (by omega) (by omega) ?_
      refine v_iload_n dX2_passedOpens_19 rfl rfl ?_
      refine v_callNi [_, _] dX2_passedOpens_20 lnX2_99 ksX7_has (plX7 _ _) (Or.inr rfl) rfl rfl rfl rfl rfl rfl (c_X7_has (by omega) (by omega) (by omega) ?_)
      refine v_ifb_eq (tgt := 45) dX2_passedOpens_23 (by decide) (fun hc_23 => ?_) (fun hc_23 => ?_)
      · refine v_iconst dX2_passedOpens_45 (by decide) ?_
        refine v_ior dX2_passedOpens_46 ?_
        refine v_istore_n (ls' := [_, _, _, _]) dX2_passedOpens_47 rfl rfl rfl rfl ?_
        refine v_iinc (ls' := [_, _, _, _]) dX2_passedOpens_48 rfl (fun hi_48 => by omega) rfl rfl ?_
        refine v_goto (tgt := 4) dX2_passedOpens_51 (by decide) ?_
        refine ih (by omega) _ (orS h0 ha (x := poF μ p.toNat k.toNat) ?_ rfl (hf (by omega)))
        unfold poF
        first
          | (rw [if_pos ⟨hc_23, hc_31⟩]; exact bShl_one (by omega) (by omega))
          | (rw [if_neg (fun q => hc_31 q.2)]; rfl)
          | (rw [if_neg (fun q => hc_23 q.1)]; rfl)
      · refine v_aload_n dX2_passedOpens_26 rfl rfl ?_
        refine v_iload_n dX2_passedOpens_27 rfl rfl ?_
        refine v_callVi [_] dX2_passedOpens_28 lX2_102 kvX2_isLive (plX2 _ _) (Or.inr rfl) rfl rfl rfl rfl rfl rfl rfl rfl rfl (c_X2_isLive hp (by omega) ?_)
        refine v_ifb_eq (tgt := 45) dX2_passedOpens_31 (by decide) (fun hc_31 => ?_) (fun hc_31 => ?_)
        · refine v_iconst dX2_passedOpens_45 (by decide) ?_
          refine v_ior dX2_passedOpens_46 ?_
          refine v_istore_n (ls' := [_, _, _, _]) dX2_passedOpens_47 rfl rfl rfl rfl ?_
          refine v_iinc (ls' := [_, _, _, _]) dX2_passedOpens_48 rfl (fun hi_48 => by omega) rfl rfl ?_
          refine v_goto (tgt := 4) dX2_passedOpens_51 (by decide) ?_
          refine ih (by omega) _ (orS h0 ha (x := poF μ p.toNat k.toNat) ?_ rfl (hf (by omega)))
          unfold poF
          first
            | (rw [if_pos ⟨hc_23, hc_31⟩]; exact bShl_one (by omega) (by omega))
            | (rw [if_neg (fun q => hc_31 q.2)]; rfl)
            | (rw [if_neg (fun q => hc_23 q.1)]; rfl)
        · refine v_iconst dX2_passedOpens_34 (by decide) ?_
          refine v_aload_n dX2_passedOpens_35 rfl rfl ?_
          refine v_getR dX2_passedOpens_36 fX2_9 rfl rfl rfl ?_
          refine v_iload_n dX2_passedOpens_39 rfl rfl ?_
          refine v_iald dX2_passedOpens_40 rfl (by omega) (by omega) ?_
          refine v_ishl dX2_passedOpens_41 ?_
          refine v_goto (tgt := 46) dX2_passedOpens_42 (by decide) ?_
          refine v_ior dX2_passedOpens_46 ?_
          refine v_istore_n (ls' := [_, _, _, _]) dX2_passedOpens_47 rfl rfl rfl rfl ?_
          refine v_iinc (ls' := [_, _, _, _]) dX2_passedOpens_48 rfl (fun hi_48 => by omega) rfl rfl ?_
          refine v_goto (tgt := 4) dX2_passedOpens_51 (by decide) ?_
          refine ih (by omega) _ (orS h0 ha (x := poF μ p.toNat k.toNat) ?_ rfl (hf (by omega)))
          unfold poF
          first
            | (rw [if_pos ⟨hc_23, hc_31⟩]; exact bShl_one (by omega) (by omega))
            | (rw [if_neg (fun q => hc_31 q.2)]; rfl)
            | (rw [if_neg (fun q => hc_23 q.1)]; rfl)
  refine v_iconst dX2_passedOpens_0 (by decide) ?_
  refine v_istore_n (ls' := [_, _, _, _]) dX2_passedOpens_1 rfl rfl rfl rfl ?_
  refine v_iconst dX2_passedOpens_2 (by decide) ?_
  refine v_istore_n (ls' := [_, _, _, _]) dX2_passedOpens_3 rfl rfl rfl rfl ?_
  exact lp 0 (by omega) (by omega) 0 rfl
set_option maxRecDepth 10000 in
theorem c_X2_liveKeys (hp : PIc μ) (hq : Q (I_ (smR (μ 17 0).toNat (fun k => b2i (liveC μ k)))) μ) : V_ nX2_liveKeys 0 [R_ 17, U_, U_] [] μ Q := by
  have hp1 := hp.1
  have lp : ∀ k : Int, 0 ≤ k → k ≤ μ 17 0 → ∀ a : Int, a = smR k.toNat (fun k => b2i (liveC μ k)) → 0 ≤ a ∧ a ≤ k → V_ nX2_liveKeys 4 [R_ 17, I_ a, I_ k] [] μ Q := by
    refine loop_up _ (fun k h0 h1 ih => ?_)
    intro a ha hb
    refine v_iload_n dX2_liveKeys_4 rfl rfl ?_
    refine v_aload_n dX2_liveKeys_5 rfl rfl ?_
    refine v_getI dX2_liveKeys_6 fX2_36 rfl rfl rfl ?_
    refine v_icmp_ge (tgt := 34) dX2_liveKeys_9 (by decide) (fun hc_9 => ?_) (fun hc_9 => ?_)
    · refine v_iload_n dX2_liveKeys_34 rfl rfl ?_
      refine v_ireturn dX2_liveKeys_35 rfl ?_
      rw [show k = μ 17 0 by omega] at ha
      rwa [ha]
    · refine v_iload_n dX2_liveKeys_12 rfl rfl ?_
      refine v_aload_n dX2_liveKeys_13 rfl rfl ?_
      refine v_iload_n dX2_liveKeys_14 rfl rfl ?_
      refine v_callVi [_] dX2_liveKeys_15 lX2_102 kvX2_isLive (plX2 _ _) (Or.inr rfl) rfl rfl rfl rfl rfl rfl rfl rfl rfl (c_X2_isLive hp (by omega) ?_)
      refine v_ifb_eq (tgt := 25) dX2_liveKeys_18 (by decide) (fun hc_18 => ?_) (fun hc_18 => ?_)
      · refine v_iconst dX2_liveKeys_25 (by decide) ?_
        refine v_iadd dX2_liveKeys_26 (fun ha hb => by omega) ?_
        refine v_istore_n (ls' := [_, _, _]) dX2_liveKeys_27 rfl rfl rfl rfl ?_
        refine v_iinc (ls' := [_, _, _]) dX2_liveKeys_28 rfl (fun hi_28 => by omega) rfl rfl ?_
        refine v_goto (tgt := 4) dX2_liveKeys_31 (by decide) ?_
        refine ih (by omega) _ (smS h0 ha ?_) (by omega)
        first
          | exact b2i_f hc_18
          | exact b2i_t hc_18
      · refine v_iconst dX2_liveKeys_21 (by decide) ?_
        refine v_goto (tgt := 26) dX2_liveKeys_22 (by decide) ?_
        refine v_iadd dX2_liveKeys_26 (fun ha hb => by omega) ?_
        refine v_istore_n (ls' := [_, _, _]) dX2_liveKeys_27 rfl rfl rfl rfl ?_
        refine v_iinc (ls' := [_, _, _]) dX2_liveKeys_28 rfl (fun hi_28 => by omega) rfl rfl ?_
        refine v_goto (tgt := 4) dX2_liveKeys_31 (by decide) ?_
        refine ih (by omega) _ (smS h0 ha ?_) (by omega)
        first
          | exact b2i_f hc_18
          | exact b2i_t hc_18
  refine v_iconst dX2_liveKeys_0 (by decide) ?_
  refine v_istore_n (ls' := [_, _, _]) dX2_liveKeys_1 rfl rfl rfl rfl ?_
  refine v_iconst dX2_liveKeys_2 (by decide) ?_
  refine v_istore_n (ls' := [_, _, _]) dX2_liveKeys_3 rfl rfl rfl rfl ?_
  exact lp 0 (by omega) (by omega) 0 rfl (by omega)
def kdC (μ : Mem_) (k : Nat) (what : Int) : Int := if what = 0 then μ 18 k else if what = 1 then b2i (liveC μ k) else if what = 2 then μ 20 k else if what = 3 then μ 21 k else μ 22 k
set_option maxRecDepth 10000 in
theorem c_X2_keyDetail {k what : Int} (hp : PIc μ) (hk : 0 ≤ k ∧ k < μ 17 0) (h : Q (I_ (kdC μ k.toNat what)) μ) : V_ nX2_keyDetail 0 [R_ 17, I_ k, I_ what] [] μ Q := by
  have hp1 := hp.1
  unfold kdC at h
  refine v_aload_n dX2_keyDetail_0 rfl rfl ?_
  refine v_iload_n dX2_keyDetail_1 rfl rfl ?_
  refine v_callVi [_] dX2_keyDetail_2 lX2_70 kvX2_isKey (plX2 _ _) (Or.inr rfl) rfl rfl rfl rfl rfl rfl rfl rfl rfl (c_X2_isKey ?_)
  refine v_ifb_ne (tgt := 10) dX2_keyDetail_5 (by decide) (fun hc_5 => ?_) (fun hc_5 => ?_)
  · refine v_iload_n dX2_keyDetail_10 rfl rfl ?_
    rcases (show what < 0 ∨ 3 < what ∨ what = 0 ∨ what = 1 ∨ what = 2 ∨ what = 3 by omega) with hsw | hsw | hsw | hsw | hsw | hsw
    · refine v_tableOut (tgt := 75) dX2_keyDetail_11 (Or.inl hsw) (by decide) ?_
      refine v_aload_n dX2_keyDetail_75 rfl rfl ?_
      refine v_getR dX2_keyDetail_76 fX2_24 rfl rfl rfl ?_
      refine v_iload_n dX2_keyDetail_79 rfl rfl ?_
      refine v_iald dX2_keyDetail_80 rfl (by omega) (by omega) ?_
      refine v_ireturn dX2_keyDetail_81 rfl ?_
      rwa [if_neg (by omega), if_neg (by omega), if_neg (by omega), if_neg (by omega)] at h
    · refine v_tableOut (tgt := 75) dX2_keyDetail_11 (Or.inr hsw) (by decide) ?_
      refine v_aload_n dX2_keyDetail_75 rfl rfl ?_
      refine v_getR dX2_keyDetail_76 fX2_24 rfl rfl rfl ?_
      refine v_iload_n dX2_keyDetail_79 rfl rfl ?_
      refine v_iald dX2_keyDetail_80 rfl (by omega) (by omega) ?_
      refine v_ireturn dX2_keyDetail_81 rfl ?_
      rwa [if_neg (by omega), if_neg (by omega), if_neg (by omega), if_neg (by omega)] at h
    · refine v_tableIn (off := 29) (tgt := 40) dX2_keyDetail_11 (by rw [hsw]; decide) (by rw [hsw]; decide) (by rw [hsw]; decide) (by decide) ?_
      refine v_aload_n dX2_keyDetail_40 rfl rfl ?_
      refine v_getR dX2_keyDetail_41 fX2_9 rfl rfl rfl ?_
      refine v_iload_n dX2_keyDetail_44 rfl rfl ?_
      refine v_iald dX2_keyDetail_45 rfl (by omega) (by omega) ?_
      refine v_ireturn dX2_keyDetail_46 rfl ?_
      rwa [if_pos (by omega)] at h
    · refine v_tableIn (off := 36) (tgt := 47) dX2_keyDetail_11 (by rw [hsw]; decide) (by rw [hsw]; decide) (by rw [hsw]; decide) (by decide) ?_
      refine v_aload_n dX2_keyDetail_47 rfl rfl ?_
      refine v_iload_n dX2_keyDetail_48 rfl rfl ?_
      refine v_callVi [_] dX2_keyDetail_49 lX2_102 kvX2_isLive (plX2 _ _) (Or.inr rfl) rfl rfl rfl rfl rfl rfl rfl rfl rfl (c_X2_isLive hp (by omega) ?_)
      refine v_ifb_eq (tgt := 59) dX2_keyDetail_52 (by decide) (fun hc_52 => ?_) (fun hc_52 => ?_)
      · refine v_iconst dX2_keyDetail_59 (by decide) ?_
        refine v_ireturn dX2_keyDetail_60 rfl ?_
        rw [if_neg (by omega), if_pos (by omega)] at h
        rwa [b2i_f hc_52] at h
      · refine v_iconst dX2_keyDetail_55 (by decide) ?_
        refine v_goto (tgt := 60) dX2_keyDetail_56 (by decide) ?_
        refine v_ireturn dX2_keyDetail_60 rfl ?_
        rw [if_neg (by omega), if_pos (by omega)] at h
        rwa [b2i_t hc_52] at h
    · refine v_tableIn (off := 50) (tgt := 61) dX2_keyDetail_11 (by rw [hsw]; decide) (by rw [hsw]; decide) (by rw [hsw]; decide) (by decide) ?_
      refine v_aload_n dX2_keyDetail_61 rfl rfl ?_
      refine v_getR dX2_keyDetail_62 fX2_18 rfl rfl rfl ?_
      refine v_iload_n dX2_keyDetail_65 rfl rfl ?_
      refine v_iald dX2_keyDetail_66 rfl (by omega) (by omega) ?_
      refine v_ireturn dX2_keyDetail_67 rfl ?_
      rwa [if_neg (by omega), if_neg (by omega), if_pos (by omega)] at h
    · refine v_tableIn (off := 57) (tgt := 68) dX2_keyDetail_11 (by rw [hsw]; decide) (by rw [hsw]; decide) (by rw [hsw]; decide) (by decide) ?_
      refine v_aload_n dX2_keyDetail_68 rfl rfl ?_
      refine v_getR dX2_keyDetail_69 fX2_21 rfl rfl rfl ?_
      refine v_iload_n dX2_keyDetail_72 rfl rfl ?_
      refine v_iald dX2_keyDetail_73 rfl (by omega) (by omega) ?_
      refine v_ireturn dX2_keyDetail_74 rfl ?_
      rwa [if_neg (by omega), if_neg (by omega), if_neg (by omega), if_pos (by omega)] at h
  · refine v_iconst dX2_keyDetail_8 (by decide) ?_
    refine v_ireturn dX2_keyDetail_9 rfl ?_
    omega
def cfC (μ : Mem_) (open_ : Nat) (h : Nat) : Nat := if open_.testBit h = true then (μ 25 h).toNat else 0
set_option maxRecDepth 10000 in
theorem c_X2_comesFrom {s : Int} (hs : 0 ≤ s) (hre : ∀ h : Nat, h < 6 → 0 ≤ μ 25 h ∧ μ 25 h < 64) (h64 : s < 64) (hq : Q (I_ ((s.toNat ||| orR 6 (cfC μ s.toNat) : Nat) : Int)) μ) : V_ nX2_comesFrom 0 [R_ 17, I_ s, U_, U_] [] μ Q := by
  have lp : ∀ k : Int, 0 ≤ k → k ≤ 6 → ∀ a : Int, a = ((s.toNat ||| orR k.toNat (cfC μ s.toNat) : Nat) : Int) → V_ nX2_comesFrom 4 [R_ 17, I_ s, I_ a, I_ k] [] μ Q := by
    refine loop_up _ (fun k h0 h1 ih => ?_)
    intro a ha
    have hf : ∀ j, j < 6 → cfC μ s.toNat j < 2 ^ 31 := by
      intro j hj
      have := hre j hj
      unfold cfC
      split
      · omega
      · decide
    have st : k < 6 → ∀ b : Int, b = (cfC μ s.toNat k.toNat : Int) → bOr a b = ((s.toNat ||| orR (k + 1).toNat (cfC μ s.toNat) : Nat) : Int) := by
      intro hk b hb
      rw [ha, hb, bOr_nat (Nat.or_lt_two_pow (by omega) (orR_lt (fun j hj => hf j (by omega)))) (hf _ (by omega)), show (k + 1).toNat = k.toNat + 1 by omega, orR, Nat.or_assoc]
    have hrk : k < 6 → _ := fun hk => hre k.toNat (by omega)
    refine v_iload_n dX2_comesFrom_4 rfl rfl ?_
    refine v_bipush dX2_comesFrom_5 (by decide) ?_
    refine v_icmp_ge (tgt := 37) dX2_comesFrom_7 (by decide) (fun hc_7 => ?_) (fun hc_7 => ?_)
    · refine v_iload_n dX2_comesFrom_37 rfl rfl ?_
      refine v_ireturn dX2_comesFrom_38 rfl ?_
      rw [show k = 6 by omega] at ha
      rwa [ha]
    · refine v_iload_n dX2_comesFrom_10 rfl rfl ?_
      refine v_iload_n dX2_comesFrom_11 rfl rfl ?_
      refine v_iload_n dX2_comesFrom_12 rfl rfl ?_
      refine v_callNi [_, _] dX2_comesFrom_13 lnX2_99 ksX7_has (plX7 _ _) (Or.inr rfl) rfl rfl rfl rfl rfl rfl (c_X7_has (by omega) (by omega) (by omega) ?_)
      refine v_ifb_eq (tgt := 28) dX2_comesFrom_16 (by decide) (fun hc_16 => ?_) (fun hc_16 => ?_)
      · refine v_iconst dX2_comesFrom_28 (by decide) ?_
        refine v_ior dX2_comesFrom_29 ?_
        refine v_istore_n (ls' := [_, _, _, _]) dX2_comesFrom_30 rfl rfl rfl rfl ?_
        refine v_iinc (ls' := [_, _, _, _]) dX2_comesFrom_31 rfl (fun hi_31 => by omega) rfl rfl ?_
        refine v_goto (tgt := 4) dX2_comesFrom_34 (by decide) ?_
        refine ih (by omega) _ (st (by omega) _ ?_)
        have hrk := hrk (by omega)
        unfold cfC
        first
          | (rw [if_neg hc_16]; rfl)
          | (rw [if_pos hc_16]; omega)
      · refine v_aload_n dX2_comesFrom_19 rfl rfl ?_
        refine v_getR dX2_comesFrom_20 fX2_33 rfl rfl rfl ?_
        refine v_iload_n dX2_comesFrom_23 rfl rfl ?_
        refine v_iald dX2_comesFrom_24 rfl (by omega) (by omega) ?_
        refine v_goto (tgt := 29) dX2_comesFrom_25 (by decide) ?_
        refine v_ior dX2_comesFrom_29 ?_
        refine v_istore_n (ls' := [_, _, _, _]) dX2_comesFrom_30 rfl rfl rfl rfl ?_
        refine v_iinc (ls' := [_, _, _, _]) dX2_comesFrom_31 rfl (fun hi_31 => by omega) rfl rfl ?_
        refine v_goto (tgt := 4) dX2_comesFrom_34 (by decide) ?_
        refine ih (by omega) _ (st (by omega) _ ?_)
        have hrk := hrk (by omega)
        unfold cfC
        first
          | (rw [if_neg hc_16]; rfl)
          | (rw [if_pos hc_16]; omega)
  refine v_iload_n dX2_comesFrom_0 rfl rfl ?_
  refine v_istore_n (ls' := [_, _, _, _]) dX2_comesFrom_1 rfl rfl rfl rfl ?_
  refine v_iconst dX2_comesFrom_2 (by decide) ?_
  refine v_istore_n (ls' := [_, _, _, _]) dX2_comesFrom_3 rfl rfl rfl rfl ?_
  exact lp 0 (by omega) (by omega) s (by show s = ((s.toNat ||| 0 : Nat) : Int); rw [Nat.or_zero]; omega)
end
