/-! the model over the class: suspects, who is stuck, whom one may wake -/
theorem orZ {f : Nat → Nat} {k a : Int} (h0 : 0 ≤ k) (ha : a = ((orR k.toNat f : Nat) : Int)) (hx : f k.toNat = 0) : a = ((orR (k + 1).toNat f : Nat) : Int) := by
  rw [ha, show (k + 1).toNat = k.toNat + 1 by omega, orR, hx, Nat.or_zero]
theorem cf0 {w : Mem_} : cfN w 0 = 0 := by
  unfold cfN
  rw [Nat.zero_or]
  apply bx
  intro i
  rw [orR_bit]
  simp [cfC]
theorem oh_pl {w : Mem_} {p : Nat} {H : Nat → Prop} [DecidablePred H] {i : Nat} : (ohN w (orR (w 17 0).toNat (plF w p H))).testBit i = true ↔ (orR (w 17 0).toNat (poF w p)).testBit i = true ∧ H i := by
  rw [ohN_bit, orR_bit]
  constructor
  · rintro ⟨k, h1, h2, h3, h4⟩
    have := ((orP_bit (P := fun k => liveC w k ∧ (w 22 k).toNat.testBit p = true ∧ H (w 18 k).toNat)).1 h2).2
    rw [h4] at this
    refine ⟨⟨k, h1, ?_⟩, this.2.2⟩
    unfold poF
    rw [if_pos ⟨this.2.1, h3⟩]
    exact pw_bit.2 h4
  · rintro ⟨⟨k, h1, h2⟩, h3⟩
    unfold poF at h2
    by_cases hp : (w 22 k).toNat.testBit p = true ∧ liveC w k
    · rw [if_pos hp] at h2
      have e := pw_bit.1 h2
      exact ⟨k, h1, (orP_bit (P := fun k => liveC w k ∧ (w 22 k).toNat.testBit p = true ∧ H (w 18 k).toNat)).2 ⟨h1, hp.2, hp.1, e ▸ h3⟩, hp.2, e⟩
    · rw [if_neg hp] at h2; simp at h2
theorem all_ones : ∀ g : Int, 0 ≤ g → g < 6 → bAnd (bShr (-1) g) 1 = b2i True := by
  intro g h0 h1
  rcases (show g = 0 ∨ g = 1 ∨ g = 2 ∨ g = 3 ∨ g = 4 ∨ g = 5 by omega) with rfl | rfl | rfl | rfl | rfl | rfl <;> decide
section
variable {μ w : Mem_} {Q : PV → Mem_ → Prop}
set_option maxRecDepth 10000 in
theorem c_X8_suspects {h : Int} (hw : CW w) (hc : CP μ w) (h1 : ¬ (0 ≤ h ∧ h < w (stc w) 0) → Q (I_ (-1)) μ) (h2 : (0 ≤ h ∧ h < w (stc w) 0) → Q (I_ (orR (w (stc w) 1).toNat (suA w h) : Int)) (mtT μ (orR (w (stc w) 1).toNat (suB w h)))) : V_ nX8_suspects 0 [R_ 50, I_ h, U_, U_, U_] [] μ Q := by
  have c1 := hc.1.1
  have s1 := hw.1.2.1
  have s2 := hw.1.2.2.1
  have hp := hw.P
  have hre := hw.2.2.2.1
  have fA : ∀ j, j < 12 → suA w h j < 2 ^ 31 := fun j hj => pw_if (by omega)
  have fB : ∀ j, j < 12 → suB w h j < 2 ^ 31 := fun j hj => pw_if (by omega)
  have lp : (0 ≤ h ∧ h < w (stc w) 0) → ∀ k : Int, 0 ≤ k → k ≤ w (stc w) 1 → ∀ a b : Int, a = ((orR k.toNat (suA w h) : Nat) : Int) → b = ((orR k.toNat (suB w h) : Nat) : Int) → V_ nX8_suspects 17 [R_ 50, I_ h, I_ a, I_ b, I_ k] [] μ Q := by
    intro hh
    refine loop_up _ (fun k h0 h1 ih => ?_)
    intro a b ha hb
    have hk : k < w (stc w) 1 → _ := fun q : k < w (stc w) 1 => hc.1.2.2 k.toNat (by omega)
    have ek : ((k.toNat : Nat) : Int) = k := by omega
    have l1 := unC_lt hp hre k 1
    have l2 : cfN w (ohN w (orR (w 17 0).toNat (plF w k.toNat (fun _ => True)))) < 2 ^ 6 := cfN_lt hre (oh_lt hp)
    have l3 := held_lt hp (f := plF w k.toNat (fun _ => True)) (fun k => if_pw)
    have l4 := Nat.or_lt_two_pow l1 l2
    have e1 : ohN w (orR (w 17 0).toNat (plF w k.toNat (fun _ => True))) = orR (w 17 0).toNat (poF w k.toNat) := bx (fun i => by rw [oh_pl]; simp)
    refine v_iload dX8_suspects_17 rfl ?_
    refine v_aload_n dX8_suspects_19 rfl rfl ?_
    refine v_getI dX8_suspects_20 fX8_183 rfl rfl rfl ?_
    refine v_icmp_ge (tgt := 99) dX8_suspects_23 (by decide) (fun hc_23 => ?_) (fun hc_23 => ?_)
    · refine v_aload_n dX8_suspects_99 rfl rfl ?_
      refine v_iload_n dX8_suspects_100 rfl rfl ?_
      refine v_iload_n dX8_suspects_101 rfl rfl ?_
      refine v_callVi [_, _] dX8_suspects_102 lX8_134 kvX8_tells (plX8 _ _) (Or.inl rfl) rfl rfl rfl rfl rfl rfl rfl rfl rfl (c_X8_tells ?_)
      refine v_ireturn dX8_suspects_105 rfl ?_
      have e : k.toNat = (w (stc w) 1).toNat := by omega
      rw [e] at ha hb
      rw [ha, hb]
      exact h2 hh
    · refine v_aload_n dX8_suspects_26 rfl rfl ?_
      refine v_getR dX8_suspects_27 fX8_32 rfl rfl rfl ?_
      refine v_iload dX8_suspects_30 rfl ?_
      refine v_iald dX8_suspects_32 rfl (by omega) (by omega) ?_
      rw [(hk (by omega)).1]
      refine v_iload_n dX8_suspects_33 rfl rfl ?_
      refine v_icmp_eq (tgt := 93) dX8_suspects_34 (by decide) (fun hc_34 => ?_) (fun hc_34 => ?_)
      · refine v_iinc (ls' := [_, _, _, _, _]) dX8_suspects_93 rfl (fun hi_93 => by omega) rfl rfl ?_
        refine v_goto (tgt := 17) dX8_suspects_96 (by decide) ?_
        first
          | exact ih (by omega) _ _ (orZ h0 ha (if_neg (fun q => q.1 (by omega)))) (orZ h0 hb (if_neg (fun q => q.1 (by omega))))
          | (refine ih (by omega) _ _ (orS (x := suA w h k.toNat) h0 ha ?_ rfl (fun j hj => fA j (by omega))) (orS (x := suB w h k.toNat) h0 hb ?_ rfl (fun j hj => fB j (by omega)))
             · unfold suA
               rw [ek]
               first
                 | (rw [if_pos ⟨hc_34, by simpa using hc_49⟩]; exact bShl_one (by omega) (by omega))
                 | (rw [if_neg (fun q => hc_49 (by simpa using q.2))]; rfl)
             · unfold suB
               rw [ek, ← e1]
               first
                 | (rw [if_pos ⟨hc_34, by simpa using hc_80⟩]; exact bShl_one (by omega) (by omega))
                 | (rw [if_neg (fun q => hc_80 (by simpa using q.2))]; rfl))
      · refine v_iload_n dX8_suspects_37 rfl rfl ?_
        refine v_aload_n dX8_suspects_38 rfl rfl ?_
        refine v_iload dX8_suspects_39 rfl ?_
        refine v_iconst dX8_suspects_41 (by decide) ?_
        refine v_callVi [_, _] dX8_suspects_42 lX8_258 kvX8_aloneOf (plX8 _ _) (Or.inl rfl) rfl rfl rfl rfl rfl rfl rfl rfl rfl (c_X8_aloneOf (ks := 0) hw hc (by omega) (by decide) ?_)
        rw [oh_0, cf0, Nat.or_zero]
        refine v_iload_n dX8_suspects_45 rfl rfl ?_
        refine v_callSi [_, _] dX8_suspects_46 lX8_252 ksX8_has (plX8 _ _) (Or.inr rfl) rfl rfl rfl rfl rfl rfl (c_X8_has (by omega) (by omega) (by omega) ?_)
        refine v_ifb_eq (tgt := 59) dX8_suspects_49 (by decide) (fun hc_49 => ?_) (fun hc_49 => ?_)
        · refine v_iconst dX8_suspects_59 (by decide) ?_
          refine v_ior dX8_suspects_60 ?_
          refine v_istore_n (ls' := [_, _, _, _, _]) dX8_suspects_61 rfl rfl rfl rfl ?_
          refine v_iload_n dX8_suspects_62 rfl rfl ?_
          refine v_aload_n dX8_suspects_63 rfl rfl ?_
          refine v_iload dX8_suspects_64 rfl ?_
          refine v_aload_n dX8_suspects_66 rfl rfl ?_
          refine v_iload dX8_suspects_67 rfl ?_
          refine v_iconst dX8_suspects_69 (by decide) ?_
          refine v_callVi [_, _] dX8_suspects_70 lX8_323 kvX8_passedLive (plX8 _ _) (Or.inl rfl) rfl rfl rfl rfl rfl rfl rfl rfl rfl (c_X8_passedLive (H := fun _ => True) hw hc (by omega) all_ones ?_)
          refine v_callVi [_, _] dX8_suspects_73 lX8_258 kvX8_aloneOf (plX8 _ _) (Or.inl rfl) rfl rfl rfl rfl rfl rfl rfl rfl rfl (c_X8_aloneOf hw hc (by omega) l3 ?_)
          refine v_iload_n dX8_suspects_76 rfl rfl ?_
          refine v_callSi [_, _] dX8_suspects_77 lX8_252 ksX8_has (plX8 _ _) (Or.inr rfl) rfl rfl rfl rfl rfl rfl (c_X8_has (by omega) (by omega) (by omega) ?_)
          refine v_ifb_eq (tgt := 90) dX8_suspects_80 (by decide) (fun hc_80 => ?_) (fun hc_80 => ?_)
          · refine v_iconst dX8_suspects_90 (by decide) ?_
            refine v_ior dX8_suspects_91 ?_
            refine v_istore_n (ls' := [_, _, _, _, _]) dX8_suspects_92 rfl rfl rfl rfl ?_
            refine v_iinc (ls' := [_, _, _, _, _]) dX8_suspects_93 rfl (fun hi_93 => by omega) rfl rfl ?_
            refine v_goto (tgt := 17) dX8_suspects_96 (by decide) ?_
            first
              | exact ih (by omega) _ _ (orZ h0 ha (if_neg (fun q => q.1 (by omega)))) (orZ h0 hb (if_neg (fun q => q.1 (by omega))))
              | (refine ih (by omega) _ _ (orS (x := suA w h k.toNat) h0 ha ?_ rfl (fun j hj => fA j (by omega))) (orS (x := suB w h k.toNat) h0 hb ?_ rfl (fun j hj => fB j (by omega)))
                 · unfold suA
                   rw [ek]
                   first
                     | (rw [if_pos ⟨hc_34, by simpa using hc_49⟩]; exact bShl_one (by omega) (by omega))
                     | (rw [if_neg (fun q => hc_49 (by simpa using q.2))]; rfl)
                 · unfold suB
                   rw [ek, ← e1]
                   first
                     | (rw [if_pos ⟨hc_34, by simpa using hc_80⟩]; exact bShl_one (by omega) (by omega))
                     | (rw [if_neg (fun q => hc_80 (by simpa using q.2))]; rfl))
          · refine v_iconst dX8_suspects_83 (by decide) ?_
            refine v_iload dX8_suspects_84 rfl ?_
            refine v_ishl dX8_suspects_86 ?_
            refine v_goto (tgt := 91) dX8_suspects_87 (by decide) ?_
            refine v_ior dX8_suspects_91 ?_
            refine v_istore_n (ls' := [_, _, _, _, _]) dX8_suspects_92 rfl rfl rfl rfl ?_
            refine v_iinc (ls' := [_, _, _, _, _]) dX8_suspects_93 rfl (fun hi_93 => by omega) rfl rfl ?_
            refine v_goto (tgt := 17) dX8_suspects_96 (by decide) ?_
            first
              | exact ih (by omega) _ _ (orZ h0 ha (if_neg (fun q => q.1 (by omega)))) (orZ h0 hb (if_neg (fun q => q.1 (by omega))))
              | (refine ih (by omega) _ _ (orS (x := suA w h k.toNat) h0 ha ?_ rfl (fun j hj => fA j (by omega))) (orS (x := suB w h k.toNat) h0 hb ?_ rfl (fun j hj => fB j (by omega)))
                 · unfold suA
                   rw [ek]
                   first
                     | (rw [if_pos ⟨hc_34, by simpa using hc_49⟩]; exact bShl_one (by omega) (by omega))
                     | (rw [if_neg (fun q => hc_49 (by simpa using q.2))]; rfl)
                 · unfold suB
                   rw [ek, ← e1]
                   first
                     | (rw [if_pos ⟨hc_34, by simpa using hc_80⟩]; exact bShl_one (by omega) (by omega))
                     | (rw [if_neg (fun q => hc_80 (by simpa using q.2))]; rfl))
        · refine v_iconst dX8_suspects_52 (by decide) ?_
          refine v_iload dX8_suspects_53 rfl ?_
          refine v_ishl dX8_suspects_55 ?_
          refine v_goto (tgt := 60) dX8_suspects_56 (by decide) ?_
          refine v_ior dX8_suspects_60 ?_
          refine v_istore_n (ls' := [_, _, _, _, _]) dX8_suspects_61 rfl rfl rfl rfl ?_
          refine v_iload_n dX8_suspects_62 rfl rfl ?_
          refine v_aload_n dX8_suspects_63 rfl rfl ?_
          refine v_iload dX8_suspects_64 rfl ?_
          refine v_aload_n dX8_suspects_66 rfl rfl ?_
          refine v_iload dX8_suspects_67 rfl ?_
          refine v_iconst dX8_suspects_69 (by decide) ?_
          refine v_callVi [_, _] dX8_suspects_70 lX8_323 kvX8_passedLive (plX8 _ _) (Or.inl rfl) rfl rfl rfl rfl rfl rfl rfl rfl rfl (c_X8_passedLive (H := fun _ => True) hw hc (by omega) all_ones ?_)
          refine v_callVi [_, _] dX8_suspects_73 lX8_258 kvX8_aloneOf (plX8 _ _) (Or.inl rfl) rfl rfl rfl rfl rfl rfl rfl rfl rfl (c_X8_aloneOf hw hc (by omega) l3 ?_)
          refine v_iload_n dX8_suspects_76 rfl rfl ?_
          refine v_callSi [_, _] dX8_suspects_77 lX8_252 ksX8_has (plX8 _ _) (Or.inr rfl) rfl rfl rfl rfl rfl rfl (c_X8_has (by omega) (by omega) (by omega) ?_)
          refine v_ifb_eq (tgt := 90) dX8_suspects_80 (by decide) (fun hc_80 => ?_) (fun hc_80 => ?_)
          · refine v_iconst dX8_suspects_90 (by decide) ?_
            refine v_ior dX8_suspects_91 ?_
            refine v_istore_n (ls' := [_, _, _, _, _]) dX8_suspects_92 rfl rfl rfl rfl ?_
            refine v_iinc (ls' := [_, _, _, _, _]) dX8_suspects_93 rfl (fun hi_93 => by omega) rfl rfl ?_
            refine v_goto (tgt := 17) dX8_suspects_96 (by decide) ?_
            first
              | exact ih (by omega) _ _ (orZ h0 ha (if_neg (fun q => q.1 (by omega)))) (orZ h0 hb (if_neg (fun q => q.1 (by omega))))
              | (refine ih (by omega) _ _ (orS (x := suA w h k.toNat) h0 ha ?_ rfl (fun j hj => fA j (by omega))) (orS (x := suB w h k.toNat) h0 hb ?_ rfl (fun j hj => fB j (by omega)))
                 · unfold suA
                   rw [ek]
                   first
                     | (rw [if_pos ⟨hc_34, by simpa using hc_49⟩]; exact bShl_one (by omega) (by omega))
                     | (rw [if_neg (fun q => hc_49 (by simpa using q.2))]; rfl)
                 · unfold suB
                   rw [ek, ← e1]
                   first
                     | (rw [if_pos ⟨hc_34, by simpa using hc_80⟩]; exact bShl_one (by omega) (by omega))
                     | (rw [if_neg (fun q => hc_80 (by simpa using q.2))]; rfl))
          · refine v_iconst dX8_suspects_83 (by decide) ?_
            refine v_iload dX8_suspects_84 rfl ?_
            refine v_ishl dX8_suspects_86 ?_
            refine v_goto (tgt := 91) dX8_suspects_87 (by decide) ?_
            refine v_ior dX8_suspects_91 ?_
            refine v_istore_n (ls' := [_, _, _, _, _]) dX8_suspects_92 rfl rfl rfl rfl ?_
            refine v_iinc (ls' := [_, _, _, _, _]) dX8_suspects_93 rfl (fun hi_93 => by omega) rfl rfl ?_
            refine v_goto (tgt := 17) dX8_suspects_96 (by decide) ?_
            first
              | exact ih (by omega) _ _ (orZ h0 ha (if_neg (fun q => q.1 (by omega)))) (orZ h0 hb (if_neg (fun q => q.1 (by omega))))
              | (refine ih (by omega) _ _ (orS (x := suA w h k.toNat) h0 ha ?_ rfl (fun j hj => fA j (by omega))) (orS (x := suB w h k.toNat) h0 hb ?_ rfl (fun j hj => fB j (by omega)))
                 · unfold suA
                   rw [ek]
                   first
                     | (rw [if_pos ⟨hc_34, by simpa using hc_49⟩]; exact bShl_one (by omega) (by omega))
                     | (rw [if_neg (fun q => hc_49 (by simpa using q.2))]; rfl)
                 · unfold suB
                   rw [ek, ← e1]
                   first
                     | (rw [if_pos ⟨hc_34, by simpa using hc_80⟩]; exact bShl_one (by omega) (by omega))
                     | (rw [if_neg (fun q => hc_80 (by simpa using q.2))]; rfl))
  refine v_aload_n dX8_suspects_0 rfl rfl ?_
  refine v_iload_n dX8_suspects_1 rfl rfl ?_
  refine v_callVi [_] dX8_suspects_2 lX8_204 kvX8_isHouse (plX8 _ _) (Or.inr rfl) rfl rfl rfl rfl rfl rfl rfl rfl rfl (c_X8_isHouse (by omega) ?_)
  refine v_ifb_ne (tgt := 10) dX8_suspects_5 (by decide) (fun hc_5 => ?_) (fun hc_5 => ?_)
  · refine v_iconst dX8_suspects_10 (by decide) ?_
    refine v_istore_n (ls' := [_, _, _, _, _]) dX8_suspects_11 rfl rfl rfl rfl ?_
    refine v_iconst dX8_suspects_12 (by decide) ?_
    refine v_istore_n (ls' := [_, _, _, _, _]) dX8_suspects_13 rfl rfl rfl rfl ?_
    refine v_iconst dX8_suspects_14 (by decide) ?_
    refine v_istore (ls' := [_, _, _, _, _]) dX8_suspects_15 rfl rfl rfl ?_
    exact lp (by omega) 0 (by omega) (by omega) 0 0 rfl rfl
  · refine v_iconst dX8_suspects_8 (by decide) ?_
    refine v_ireturn dX8_suspects_9 rfl ?_
    exact h1 (by omega)
set_option maxRecDepth 10000 in
theorem c_X8_stuck (hw : CW w) (hc : CP μ w) (hq : Q (I_ (shutC w : Int)) (mtT μ (orR (w (stc w) 0).toNat (klF w)))) : V_ nX8_stuck 0 [R_ 50, U_, U_, U_, U_] [] μ Q := by
  have c1 := hc.1.1
  have s1 := hw.1.2.1
  have hp := hw.P
  have hm := hc.2.1
  have hp1 := hp.1
  have hm1 := hm.1
  have hre := hw.2.2.2.1
  have hpos : 0 < 2 ^ (w (stc w) 0).toNat := Nat.two_pow_pos _
  have hle : 2 ^ (w (stc w) 0).toNat ≤ 2 ^ 6 := Nat.pow_le_pow_right (by omega) (by omega)
  have e1 : ((2 ^ (w (stc w) 0).toNat : Nat) : Int) - 1 = ((2 ^ (w (stc w) 0).toNat - 1 : Nat) : Int) := by omega
  have g4 : cfN w (opensC w 0 (-1) ||| opensC w 1 (-1)) < 2 ^ 6 := cfN_lt hre (Nat.or_lt_two_pow (opens_lt hp 0 (-1)) (opens_lt hp 1 (-1)))
  have hsh : shutC w < 2 ^ 6 := Nat.xor_lt_two_pow (by omega) (Nat.and_lt_two_pow _ g4)
  have hf : ∀ j, j < 24 → klF w j < 2 ^ 31 := fun j hj => pw_if hj
  have lp2 : ∀ k : Int, 0 ≤ k → k ≤ w (stc w) 0 → ∀ a : Int, a = ((orR k.toNat (klF w) : Nat) : Int) → V_ nX8_stuck 61 [R_ 50, U_, I_ a, I_ (shutC w : Int), I_ k] [] μ Q := by
    refine loop_up _ (fun k h0 h1 ih => ?_)
    intro a ha
    have eL : k < w (stc w) 0 → μ 73 k.toNat = ((orR (w 17 0).toNat (lkF w (k.toNat : Int)) : Nat) : Int) := fun q => hc.2.2.1.1 k.toNat (by omega)
    refine v_iload dX8_stuck_61 rfl ?_
    refine v_aload_n dX8_stuck_63 rfl rfl ?_
    refine v_getI dX8_stuck_64 fX8_180 rfl rfl rfl ?_
    refine v_icmp_ge (tgt := 106) dX8_stuck_67 (by decide) (fun hc_67 => ?_) (fun hc_67 => ?_)
    · refine v_aload_n dX8_stuck_106 rfl rfl ?_
      refine v_iload_n dX8_stuck_107 rfl rfl ?_
      refine v_iload_n dX8_stuck_108 rfl rfl ?_
      refine v_callVi [_, _] dX8_stuck_109 lX8_134 kvX8_tells (plX8 _ _) (Or.inl rfl) rfl rfl rfl rfl rfl rfl rfl rfl rfl (c_X8_tells ?_)
      refine v_ireturn dX8_stuck_112 rfl ?_
      rw [show k = w (stc w) 0 by omega] at ha
      rw [ha]
      exact hq
    · refine v_iload_n dX8_stuck_70 rfl rfl ?_
      refine v_iload_n dX8_stuck_71 rfl rfl ?_
      refine v_iload dX8_stuck_72 rfl ?_
      refine v_callSi [_, _] dX8_stuck_74 lX8_252 ksX8_has (plX8 _ _) (Or.inr rfl) rfl rfl rfl rfl rfl rfl (c_X8_has (by omega) (by omega) (by omega) ?_)
      refine v_ifb_eq (tgt := 97) dX8_stuck_77 (by decide) (fun hc_77 => ?_) (fun hc_77 => ?_)
      · refine v_iconst dX8_stuck_97 (by decide) ?_
        refine v_ior dX8_stuck_98 ?_
        refine v_istore_n (ls' := [_, _, _, _, _]) dX8_stuck_99 rfl rfl rfl rfl ?_
        refine v_iinc (ls' := [_, _, _, _, _]) dX8_stuck_100 rfl (fun hi_100 => by omega) rfl rfl ?_
        refine v_goto (tgt := 61) dX8_stuck_103 (by decide) ?_
        refine v_kill (ls' := [_, _, _, _, _]) 1 rfl ?_
        first
          | exact ih (by omega) _ (orS h0 ha (bShl_one (by omega) (by omega)) (if_pos ⟨by simpa using hc_77, by omega⟩) (fun j hj => hf j (by omega)))
          | exact ih (by omega) _ (orS (x := 0) h0 ha rfl (if_neg (fun q => by first | exact hc_77 (by simpa using q.1) | exact hc_87 (by rw [q.2]; rfl))) (fun j hj => hf j (by omega)))
      · refine v_aload_n dX8_stuck_80 rfl rfl ?_
        refine v_getR dX8_stuck_81 fX8_77 rfl rfl rfl ?_
        refine v_iload dX8_stuck_84 rfl ?_
        refine v_iald dX8_stuck_86 rfl (by omega) (by omega) ?_
        rw [eL (by omega)]
        refine v_if_ne (tgt := 97) dX8_stuck_87 (by decide) (fun hc_87 => ?_) (fun hc_87 => ?_)
        · refine v_iconst dX8_stuck_97 (by decide) ?_
          refine v_ior dX8_stuck_98 ?_
          refine v_istore_n (ls' := [_, _, _, _, _]) dX8_stuck_99 rfl rfl rfl rfl ?_
          refine v_iinc (ls' := [_, _, _, _, _]) dX8_stuck_100 rfl (fun hi_100 => by omega) rfl rfl ?_
          refine v_goto (tgt := 61) dX8_stuck_103 (by decide) ?_
          refine v_kill (ls' := [_, _, _, _, _]) 1 rfl ?_
          first
            | exact ih (by omega) _ (orS h0 ha (bShl_one (by omega) (by omega)) (if_pos ⟨by simpa using hc_77, by omega⟩) (fun j hj => hf j (by omega)))
            | exact ih (by omega) _ (orS (x := 0) h0 ha rfl (if_neg (fun q => by first | exact hc_77 (by simpa using q.1) | exact hc_87 (by rw [q.2]; rfl))) (fun j hj => hf j (by omega)))
        · refine v_iconst dX8_stuck_90 (by decide) ?_
          refine v_iload dX8_stuck_91 rfl ?_
          refine v_ishl dX8_stuck_93 ?_
          refine v_goto (tgt := 98) dX8_stuck_94 (by decide) ?_
          refine v_ior dX8_stuck_98 ?_
          refine v_istore_n (ls' := [_, _, _, _, _]) dX8_stuck_99 rfl rfl rfl rfl ?_
          refine v_iinc (ls' := [_, _, _, _, _]) dX8_stuck_100 rfl (fun hi_100 => by omega) rfl rfl ?_
          refine v_goto (tgt := 61) dX8_stuck_103 (by decide) ?_
          refine v_kill (ls' := [_, _, _, _, _]) 1 rfl ?_
          first
            | exact ih (by omega) _ (orS h0 ha (bShl_one (by omega) (by omega)) (if_pos ⟨by simpa using hc_77, by omega⟩) (fun j hj => hf j (by omega)))
            | exact ih (by omega) _ (orS (x := 0) h0 ha rfl (if_neg (fun q => by first | exact hc_77 (by simpa using q.1) | exact hc_87 (by rw [q.2]; rfl))) (fun j hj => hf j (by omega)))
  have hk2 : ∀ n : Nat, n ≤ (w 17 0).toNat → orR n (fun k => if w 20 k < 2 then 2 ^ k else 0) < 2 ^ 24 := fun n hn => orR_lt (fun k hk => by
    split
    · exact Nat.pow_lt_pow_right (by omega) (by omega)
    · decide)
  have e2 : (0 : Nat) ||| ohN w (orR (w 17 0).toNat (fun k => if w 20 k < 2 then 2 ^ k else 0)) = opensC w 0 (-1) ||| opensC w 1 (-1) := by
    rw [Nat.zero_or]
    apply bx
    intro i
    rw [ohN_bit, or_bit, opens_bit, opens_bit]
    constructor
    · rintro ⟨k, q1, q2, q3, q4⟩
      have q5 := ((orP_bit (P := fun k => w 20 k < 2)).1 q2).2
      have := hp.2 k (by omega)
      rcases (show w 20 k = 0 ∨ w 20 k = 1 by omega) with q | q
      · exact Or.inl ⟨k, q1, q, Or.inl rfl, q3, q4⟩
      · exact Or.inr ⟨k, q1, q, Or.inl rfl, q3, q4⟩
    · rintro (⟨k, q1, q2, _, q3, q4⟩ | ⟨k, q1, q2, _, q3, q4⟩)
      · exact ⟨k, q1, (orP_bit (P := fun k => w 20 k < 2)).2 ⟨q1, by omega⟩, q3, q4⟩
      · exact ⟨k, q1, (orP_bit (P := fun k => w 20 k < 2)).2 ⟨q1, by omega⟩, q3, q4⟩
  have lp1 : ∀ k : Int, 0 ≤ k → k ≤ w 17 0 → ∀ a : Int, a = ((orR k.toNat (fun k => if w 20 k < 2 then 2 ^ k else 0) : Nat) : Int) → V_ nX8_stuck 6 [R_ 50, I_ a, I_ 0, I_ k, U_] [] μ Q := by
    refine loop_up _ (fun k h0 h1 ih => ?_)
    intro a ha
    have hk : k < w 17 0 → _ := fun q : k < w 17 0 => hm.2.1 k.toNat (by omega)
    refine v_iload_n dX8_stuck_6 rfl rfl ?_
    refine v_aload_n dX8_stuck_7 rfl rfl ?_
    refine v_getI dX8_stuck_8 fX8_189 rfl rfl rfl ?_
    refine v_icmp_ge (tgt := 40) dX8_stuck_11 (by decide) (fun hc_11 => ?_) (fun hc_11 => ?_)
    · refine v_iconst dX8_stuck_40 (by decide) ?_
      refine v_aload_n dX8_stuck_41 rfl rfl ?_
      refine v_getI dX8_stuck_42 fX8_180 rfl rfl rfl ?_
      rw [c1.1]
      refine v_ishl dX8_stuck_45 ?_
      rw [bShl_one (by omega) (by omega)]
      refine v_iconst dX8_stuck_46 (by decide) ?_
      refine v_isub dX8_stuck_47 (fun ha hb => by omega) ?_
      rw [e1]
      refine v_aload_n dX8_stuck_48 rfl rfl ?_
      refine v_iload_n dX8_stuck_49 rfl rfl ?_
      refine v_iconst dX8_stuck_50 (by decide) ?_
      rw [ha, show k.toNat = (w 17 0).toNat by omega]
      refine v_callVi [_, _] dX8_stuck_51 lX8_255 kvX8_comes (plX8 _ _) (Or.inl rfl) rfl rfl rfl rfl rfl rfl rfl rfl rfl (c_X8_comesN (op := 0) hw hc (hk2 _ (Nat.le_refl _)) (by decide) ?_)
      rw [e2]
      refine v_iconst dX8_stuck_54 (by decide) ?_
      refine v_ixor dX8_stuck_55 ?_
      refine v_iand dX8_stuck_56 ?_
      rw [bAnd_not (by omega) (by omega)]
      refine v_istore_n (ls' := [_, _, _, _, _]) dX8_stuck_57 rfl rfl rfl rfl ?_
      refine v_iconst dX8_stuck_58 (by decide) ?_
      refine v_istore (ls' := [_, _, _, _, _]) dX8_stuck_59 rfl rfl rfl ?_
      refine v_kill (ls' := [_, _, _, _, _]) 1 rfl ?_
      exact lp2 0 (by omega) (by omega) 0 rfl
    · refine v_iload_n dX8_stuck_14 rfl rfl ?_
      refine v_aload_n dX8_stuck_15 rfl rfl ?_
      refine v_getR dX8_stuck_16 fX8_59 rfl rfl rfl ?_
      refine v_iload_n dX8_stuck_19 rfl rfl ?_
      refine v_iald dX8_stuck_20 rfl (by omega) (by omega) ?_
      rw [(hk (by omega)).2.2.1]
      refine v_iconst dX8_stuck_21 (by decide) ?_
      refine v_icmp_ge (tgt := 31) dX8_stuck_22 (by decide) (fun hc_22 => ?_) (fun hc_22 => ?_)
      · refine v_iconst dX8_stuck_31 (by decide) ?_
        refine v_ior dX8_stuck_32 ?_
        refine v_istore_n (ls' := [_, _, _, _, _]) dX8_stuck_33 rfl rfl rfl rfl ?_
        refine v_iinc (ls' := [_, _, _, _, _]) dX8_stuck_34 rfl (fun hi_34 => by omega) rfl rfl ?_
        refine v_goto (tgt := 6) dX8_stuck_37 (by decide) ?_
        refine v_kill (ls' := [_, _, _, _, _]) 4 rfl ?_
        first
          | exact ih (by omega) _ (orS h0 ha (bShl_one (by omega) (by omega)) (if_pos (by omega)) (fun j hj => pw_if (by omega)))
          | exact ih (by omega) _ (orS (x := 0) h0 ha rfl (if_neg (by omega)) (fun j hj => pw_if (by omega)))
      · refine v_iconst dX8_stuck_25 (by decide) ?_
        refine v_iload_n dX8_stuck_26 rfl rfl ?_
        refine v_ishl dX8_stuck_27 ?_
        refine v_goto (tgt := 32) dX8_stuck_28 (by decide) ?_
        refine v_ior dX8_stuck_32 ?_
        refine v_istore_n (ls' := [_, _, _, _, _]) dX8_stuck_33 rfl rfl rfl rfl ?_
        refine v_iinc (ls' := [_, _, _, _, _]) dX8_stuck_34 rfl (fun hi_34 => by omega) rfl rfl ?_
        refine v_goto (tgt := 6) dX8_stuck_37 (by decide) ?_
        refine v_kill (ls' := [_, _, _, _, _]) 4 rfl ?_
        first
          | exact ih (by omega) _ (orS h0 ha (bShl_one (by omega) (by omega)) (if_pos (by omega)) (fun j hj => pw_if (by omega)))
          | exact ih (by omega) _ (orS (x := 0) h0 ha rfl (if_neg (by omega)) (fun j hj => pw_if (by omega)))
  refine v_iconst dX8_stuck_0 (by decide) ?_
  refine v_istore_n (ls' := [_, _, _, _, _]) dX8_stuck_1 rfl rfl rfl rfl ?_
  refine v_iconst dX8_stuck_2 (by decide) ?_
  refine v_istore_n (ls' := [_, _, _, _, _]) dX8_stuck_3 rfl rfl rfl rfl ?_
  refine v_iconst dX8_stuck_4 (by decide) ?_
  refine v_istore_n (ls' := [_, _, _, _, _]) dX8_stuck_5 rfl rfl rfl rfl ?_
  exact lp1 0 (by omega) (by omega) 0 rfl
end
