/-! plans: prepared, told -/
section
variable {μ : Mem_} {Q : PV → Mem_ → Prop}
set_option maxRecDepth 10000 in
set_option maxHeartbeats 1000000 in
theorem c_X1_findNeed {s : Nat} {h due : Int} {of0 : Nat → Nat} {m : Mem_} (hst : isSt s) (hs : StC μ s) (hp : PIc μ) (hh : 0 ≤ h ∧ h < 6) (hd : 0 ≤ due ∧ due ≤ 3) (e34 : ∀ x : Nat, x < 6 → m 34 x = (hsN μ s x : Int)) (e35 : ∀ x : Nat, x < 6 → m 35 x = (hdN μ s x : Int)) (e38 : ∀ x : Nat, x < 6 → m 38 x = (of0 x : Int) ∧ of0 x < 64)
    (hQ : ∀ m' : Mem_, (∀ o i, ¬ (o = 36 ∧ i = h.toNat) → ¬ (o = 37 ∧ i = h.toNat) → o ≠ 38 → m' o i = m o i) → m' 36 h.toNat = neD μ s due h.toNat → m' 37 h.toNat = (taN μ s h.toNat : Int) → (∀ x : Nat, x < 6 → m' 38 x = ((of0 x ||| ofF μ s x h.toNat : Nat) : Int)) → Q U_ m') : V_ nX1_findNeed 0 [R_ 33, I_ h, I_ (lvN μ s : Int), I_ due, U_, U_, U_] [] m Q := by
  have l1 := lvN_lt hs
  have l2 := hsN_lt hs h.toNat
  have l3 := heN_lt hs h.toNat
  have l4 := hvN_lt (μ := μ) (s := s) h.toNat
  have l5 := taN_lt hs h.toNat
  have p2 : 2 ^ h.toNat < 2 ^ 6 := Nat.pow_lt_pow_right (by omega) (by omega)
  generalize hm0 : mset (mset m 36 h.toNat 0) 37 h.toNat 0 = m0
  have f0 : ∀ o i, ¬ (o = 36 ∧ i = h.toNat) → ¬ (o = 37 ∧ i = h.toNat) → m0 o i = m o i := fun o i q1 q2 => by rw [← hm0, mset_off (by omega), mset_off (by omega)]
  -- the last loop
  have lp2 : (lvN μ s).testBit h.toNat = true → ∀ k : Int, 0 ≤ k → k ≤ 6 → ∀ m1 : Mem_, (∀ o i, ¬ (o = 36 ∧ i = h.toNat) → ¬ (o = 37 ∧ i = h.toNat) → o ≠ 38 → m1 o i = m o i) → m1 36 h.toNat = neD μ s due h.toNat → m1 37 h.toNat = (taN μ s h.toNat : Int) → (∀ x : Nat, x < 6 → m1 38 x = ((if (x : Int) < k then of0 x ||| ofF μ s x h.toNat else of0 x : Nat) : Int)) → V_ nX1_findNeed 138 [R_ 33, I_ h, I_ (lvN μ s : Int), I_ due, U_, U_, I_ k] [] m1 Q := by
    intro hlv
    refine loop_up _ (fun k k0 k1 ih => ?_)
    intro m1 a1 a2 a3 a4
    have hk : k < 6 → m1 38 k.toNat = (of0 k.toNat : Int) := fun q => by rw [a4 _ (by omega), if_neg (by omega)]
    have hk64 := fun q : k < 6 => (e38 k.toNat (by omega)).2
    refine v_iload dX1_findNeed_138 rfl ?_
    refine v_bipush dX1_findNeed_140 (by decide) ?_
    refine v_icmp_ge (tgt := 182) dX1_findNeed_142 (by decide) (fun hc_142 => ?_) (fun hc_142 => ?_)
    · refine v_return dX1_findNeed_182 rfl ?_
      exact hQ m1 a1 a2 a3 (fun x hx => by rw [a4 x hx, if_pos (by omega)])
    · have hk64 := hk64 (by omega)
      refine v_aload_n dX1_findNeed_145 rfl rfl ?_
      refine v_getR dX1_findNeed_146 fX1_24 rfl rfl rfl ?_
      refine v_iload dX1_findNeed_149 rfl ?_
      refine v_dup2 dX1_findNeed_151 ?_
      refine v_iald dX1_findNeed_152 rfl (by omega) (by omega) ?_
      rw [hk (by omega)]
      refine v_aload_n dX1_findNeed_153 rfl rfl ?_
      refine v_getR dX1_findNeed_154 fX1_21 rfl rfl rfl ?_
      refine v_iload_n dX1_findNeed_157 rfl rfl ?_
      refine v_iald dX1_findNeed_158 rfl (by omega) (by omega) ?_
      rw [a3]
      refine v_iload dX1_findNeed_159 rfl ?_
      refine v_callNi [_, _] dX1_findNeed_161 lnX1_64 ksX7_has (plX7 _ _) (Or.inr rfl) rfl rfl rfl rfl rfl rfl (c_X7_has (by omega) (by omega) (by omega) ?_)
      refine v_ifb_eq (tgt := 173) dX1_findNeed_164 (by decide) (fun hc_164 => ?_) (fun hc_164 => ?_)
      · refine v_iconst dX1_findNeed_173 (by decide) ?_
        refine v_ior dX1_findNeed_174 ?_
        refine v_iast dX1_findNeed_175 rfl (by omega) (by omega) ?_
        refine v_iinc (ls' := [_, _, _, _, _, _, _]) dX1_findNeed_176 rfl (fun hi_176 => by omega) rfl rfl ?_
        refine v_goto (tgt := 138) dX1_findNeed_179 (by decide) ?_
        refine ih (by omega) _ (fun o i q1 q2 q3 => by rw [mset_off (by omega)]; exact a1 o i q1 q2 q3) (by rw [mset_off (by omega)]; exact a2) (by rw [mset_off (by omega)]; exact a3) (fun x hx => ?_)
        by_cases e : x = k.toNat
        · subst e
          rw [mset_same, if_pos (by omega)]
          unfold ofF
          rw [if_neg (by simpa using hc_164), Nat.or_zero]
          exact bOr_z (by omega)
        · rw [mset_off (fun z => e z.2), a4 x hx]
          by_cases q : (x : Int) < k
          · rw [if_pos q, if_pos (by omega)]
          · rw [if_neg q, if_neg (by omega)]
      · refine v_iconst dX1_findNeed_167 (by decide) ?_
        refine v_iload_n dX1_findNeed_168 rfl rfl ?_
        refine v_ishl dX1_findNeed_169 ?_
        rw [bShl_one (by omega) (by omega)]
        refine v_goto (tgt := 174) dX1_findNeed_170 (by decide) ?_
        refine v_ior dX1_findNeed_174 ?_
        refine v_iast dX1_findNeed_175 rfl (by omega) (by omega) ?_
        refine v_iinc (ls' := [_, _, _, _, _, _, _]) dX1_findNeed_176 rfl (fun hi_176 => by omega) rfl rfl ?_
        refine v_goto (tgt := 138) dX1_findNeed_179 (by decide) ?_
        refine ih (by omega) _ (fun o i q1 q2 q3 => by rw [mset_off (by omega)]; exact a1 o i q1 q2 q3) (by rw [mset_off (by omega)]; exact a2) (by rw [mset_off (by omega)]; exact a3) (fun x hx => ?_)
        by_cases e : x = k.toNat
        · subst e
          rw [mset_same, if_pos (by omega)]
          unfold ofF
          rw [if_pos (by simpa using hc_164)]
          exact bOr_nat (by omega) (by omega)
        · rw [mset_off (fun z => e z.2), a4 x hx]
          by_cases q : (x : Int) < k
          · rw [if_pos q, if_pos (by omega)]
          · rw [if_neg q, if_neg (by omega)]
  have lp1 : (lvN μ s).testBit h.toNat = true → ∀ k : Int, 0 ≤ k → k ≤ 6 → ∀ a : Int, a = ((orR k.toNat (hvF μ s h.toNat) : Nat) : Int) → V_ nX1_findNeed 55 [R_ 33, I_ h, I_ (lvN μ s : Int), I_ due, I_ (heN μ s h.toNat : Int), I_ a, I_ k] [] m0 Q := by
    intro hlv
    refine loop_up _ (fun k k0 k1 ih => ?_)
    intro a ha
    have hf : ∀ j, j < 6 → hvF μ s h.toNat j < 2 ^ 31 := by
      intro j hj
      unfold hvF
      split
      · exact ones_pow (by omega)
      · decide
    have e35k : k < 6 → m0 35 k.toNat = (hdN μ s k.toNat : Int) := fun q => by rw [f0 35 _ (by omega) (by omega)]; exact e35 _ (by omega)
    have c6 := cnt6 l4
    have fin : k = 6 → a = ((hvN μ s h.toNat : Nat) : Int) := fun q => by rw [ha, q]; rfl
    refine v_iload dX1_findNeed_55 rfl ?_
    refine v_bipush dX1_findNeed_57 (by decide) ?_
    refine v_icmp_ge (tgt := 105) dX1_findNeed_59 (by decide) (fun hc_59 => ?_) (fun hc_59 => ?_)
    · rw [fin (by omega)]
      refine v_aload_n dX1_findNeed_105 rfl rfl ?_
      refine v_getR dX1_findNeed_106 fX1_18 rfl rfl rfl ?_
      refine v_iload_n dX1_findNeed_109 rfl rfl ?_
      refine v_iconst dX1_findNeed_110 (by decide) ?_
      refine v_iload_n dX1_findNeed_111 rfl rfl ?_
      refine v_iload dX1_findNeed_112 rfl ?_
      refine v_callSi [_] dX1_findNeed_114 lX1_68 ksJ6_bitCount_0f7a4 plJ6b (Or.inl rfl) rfl rfl rfl rfl rfl rfl (c_J6_bitCount (by omega) (by omega) ?_)
      rw [Int.toNat_natCast]
      refine v_isub dX1_findNeed_117 (fun ha hb => by omega) ?_
      refine v_callSi [_, _] dX1_findNeed_118 lX1_73 ksJ9_max_7cf53 plJ9a (Or.inl rfl) rfl rfl rfl rfl rfl rfl (c_J9_max ?_)
      refine v_iast dX1_findNeed_121 rfl (by omega) (by omega) ?_
      refine v_aload_n dX1_findNeed_122 rfl rfl ?_
      refine v_getR dX1_findNeed_123 fX1_21 rfl rfl rfl ?_
      refine v_iload_n dX1_findNeed_126 rfl rfl ?_
      refine v_iload dX1_findNeed_127 rfl ?_
      refine v_iload dX1_findNeed_129 rfl ?_
      refine v_iconst dX1_findNeed_131 (by decide) ?_
      refine v_ixor dX1_findNeed_132 ?_
      refine v_iand dX1_findNeed_133 ?_
      rw [bAnd_not (by omega) (by omega)]
      refine v_iast dX1_findNeed_134 rfl (by omega) (by omega) ?_
      refine v_iconst dX1_findNeed_135 (by decide) ?_
      refine v_istore (ls' := [_, _, _, _, _, _, _]) dX1_findNeed_136 rfl rfl rfl ?_
      refine v_kill (ls' := [_, _, _, _, _, _, _]) 4 rfl ?_
      refine v_kill (ls' := [_, _, _, _, _, _, _]) 5 rfl ?_
      refine lp2 hlv 0 (by omega) (by omega) _ (fun o i q1 q2 q3 => by rw [mset_off (by omega), mset_off (by omega)]; exact f0 o i q1 q2) ?_ ?_ (fun x hx => ?_)
      · rw [mset_off (by omega), mset_same]
        unfold neD
        rw [if_pos hlv]
      · rw [mset_same]
        unfold taN
        rw [if_pos hlv]
      · rw [mset_off (by omega), mset_off (by omega), f0 38 x (by omega) (by omega), if_neg (by omega)]
        exact (e38 x hx).1
    · refine v_iload dX1_findNeed_62 rfl ?_
      refine v_iload dX1_findNeed_64 rfl ?_
      refine v_iload dX1_findNeed_66 rfl ?_
      refine v_callNi [_, _] dX1_findNeed_68 lnX1_64 ksX7_has (plX7 _ _) (Or.inr rfl) rfl rfl rfl rfl rfl rfl (c_X7_has (by omega) (by omega) (by omega) ?_)
      refine v_ifb_eq (tgt := 95) dX1_findNeed_71 (by decide) (fun hc_71 => ?_) (fun hc_71 => ?_)
      · refine v_iconst dX1_findNeed_95 (by decide) ?_
        refine v_ior dX1_findNeed_96 ?_
        refine v_istore (ls' := [_, _, _, _, _, _, _]) dX1_findNeed_97 rfl rfl rfl ?_
        refine v_iinc (ls' := [_, _, _, _, _, _, _]) dX1_findNeed_99 rfl (fun hi_99 => by omega) rfl rfl ?_
        refine v_goto (tgt := 55) dX1_findNeed_102 (by decide) ?_
        refine ih (by omega) _ (orS k0 ha (x := hvF μ s h.toNat k.toNat) ?_ rfl (fun j hj => hf j (by omega)))
        unfold hvF
        first
          | (rw [if_neg (fun q => hc_71 (by simpa using q.1))]; rfl)
          | (rw [if_neg (fun q => hc_85 (by simpa using q.2))]; rfl)
          | (rw [if_pos ⟨by simpa using hc_71, by simpa using hc_85⟩]; exact bShl_one (by omega) (by omega))
      · refine v_aload_n dX1_findNeed_74 rfl rfl ?_
        refine v_getR dX1_findNeed_75 fX1_15 rfl rfl rfl ?_
        refine v_iload dX1_findNeed_78 rfl ?_
        refine v_iald dX1_findNeed_80 rfl (by omega) (by omega) ?_
        rw [e35k (by omega)]
        refine v_iload_n dX1_findNeed_81 rfl rfl ?_
        refine v_callNi [_, _] dX1_findNeed_82 lnX1_64 ksX7_has (plX7 _ _) (Or.inr rfl) rfl rfl rfl rfl rfl rfl (c_X7_has (by omega) (by omega) (by omega) ?_)
        refine v_ifb_eq (tgt := 95) dX1_findNeed_85 (by decide) (fun hc_85 => ?_) (fun hc_85 => ?_)
        · refine v_iconst dX1_findNeed_95 (by decide) ?_
          refine v_ior dX1_findNeed_96 ?_
          refine v_istore (ls' := [_, _, _, _, _, _, _]) dX1_findNeed_97 rfl rfl rfl ?_
          refine v_iinc (ls' := [_, _, _, _, _, _, _]) dX1_findNeed_99 rfl (fun hi_99 => by omega) rfl rfl ?_
          refine v_goto (tgt := 55) dX1_findNeed_102 (by decide) ?_
          refine ih (by omega) _ (orS k0 ha (x := hvF μ s h.toNat k.toNat) ?_ rfl (fun j hj => hf j (by omega)))
          unfold hvF
          first
            | (rw [if_neg (fun q => hc_71 (by simpa using q.1))]; rfl)
            | (rw [if_neg (fun q => hc_85 (by simpa using q.2))]; rfl)
            | (rw [if_pos ⟨by simpa using hc_71, by simpa using hc_85⟩]; exact bShl_one (by omega) (by omega))
        · refine v_iconst dX1_findNeed_88 (by decide) ?_
          refine v_iload dX1_findNeed_89 rfl ?_
          refine v_ishl dX1_findNeed_91 ?_
          refine v_goto (tgt := 96) dX1_findNeed_92 (by decide) ?_
          refine v_ior dX1_findNeed_96 ?_
          refine v_istore (ls' := [_, _, _, _, _, _, _]) dX1_findNeed_97 rfl rfl rfl ?_
          refine v_iinc (ls' := [_, _, _, _, _, _, _]) dX1_findNeed_99 rfl (fun hi_99 => by omega) rfl rfl ?_
          refine v_goto (tgt := 55) dX1_findNeed_102 (by decide) ?_
          refine ih (by omega) _ (orS k0 ha (x := hvF μ s h.toNat k.toNat) ?_ rfl (fun j hj => hf j (by omega)))
          unfold hvF
          first
            | (rw [if_neg (fun q => hc_71 (by simpa using q.1))]; rfl)
            | (rw [if_neg (fun q => hc_85 (by simpa using q.2))]; rfl)
            | (rw [if_pos ⟨by simpa using hc_71, by simpa using hc_85⟩]; exact bShl_one (by omega) (by omega))
  have eh1 : bAnd (lvN μ s : Int) (bXor (hsN μ s h.toNat : Int) (-1)) = ((lvN μ s ^^^ (lvN μ s &&& hsN μ s h.toNat) : Nat) : Int) := bAnd_not (by omega) (by omega)
  have la : lvN μ s ^^^ (lvN μ s &&& hsN μ s h.toNat) < 2 ^ 6 := Nat.xor_lt_two_pow (n := 6) l1 (Nat.lt_of_le_of_lt Nat.and_le_left l1)
  have eh2 : bAnd ((lvN μ s ^^^ (lvN μ s &&& hsN μ s h.toNat) : Nat) : Int) (bXor ((2 ^ h.toNat : Nat) : Int) (-1)) = ((heN μ s h.toNat : Nat) : Int) := bAnd_not (by omega) (by omega)
  refine v_iload_n dX1_findNeed_0 rfl rfl ?_
  refine v_callSi [_] dX1_findNeed_1 lX1_43 ksX1_isPlace (plX1 _ _) (Or.inr rfl) rfl rfl rfl rfl rfl rfl (c_X1_isPlace ?_)
  refine v_ifb_ne (tgt := 8) dX1_findNeed_4 (by decide) (fun hc_4 => ?_) (fun hc_4 => ?_)
  · refine v_aload_n dX1_findNeed_8 rfl rfl ?_
    refine v_getR dX1_findNeed_9 fX1_18 rfl rfl rfl ?_
    refine v_iload_n dX1_findNeed_12 rfl rfl ?_
    refine v_iconst dX1_findNeed_13 (by decide) ?_
    refine v_iast dX1_findNeed_14 rfl (by omega) (by omega) ?_
    refine v_aload_n dX1_findNeed_15 rfl rfl ?_
    refine v_getR dX1_findNeed_16 fX1_21 rfl rfl rfl ?_
    refine v_iload_n dX1_findNeed_19 rfl rfl ?_
    refine v_iconst dX1_findNeed_20 (by decide) ?_
    refine v_iast dX1_findNeed_21 rfl (by omega) (by omega) ?_
    rw [hm0]
    refine v_iload_n dX1_findNeed_22 rfl rfl ?_
    refine v_iload_n dX1_findNeed_23 rfl rfl ?_
    refine v_callNi [_, _] dX1_findNeed_24 lnX1_64 ksX7_has (plX7 _ _) (Or.inr rfl) rfl rfl rfl rfl rfl rfl (c_X7_has (by omega) (by omega) (by omega) ?_)
    refine v_ifb_ne (tgt := 31) dX1_findNeed_27 (by decide) (fun hc_27 => ?_) (fun hc_27 => ?_)
    · refine v_iload_n dX1_findNeed_31 rfl rfl ?_
      refine v_aload_n dX1_findNeed_32 rfl rfl ?_
      refine v_getR dX1_findNeed_33 fX1_9 rfl rfl rfl ?_
      refine v_iload_n dX1_findNeed_36 rfl rfl ?_
      refine v_iald dX1_findNeed_37 rfl (by omega) (by omega) ?_
      rw [f0 34 _ (by omega) (by omega), e34 _ (by omega)]
      refine v_iconst dX1_findNeed_38 (by decide) ?_
      refine v_ixor dX1_findNeed_39 ?_
      refine v_iand dX1_findNeed_40 ?_
      rw [eh1]
      refine v_iconst dX1_findNeed_41 (by decide) ?_
      refine v_iload_n dX1_findNeed_42 rfl rfl ?_
      refine v_ishl dX1_findNeed_43 ?_
      rw [bShl_one (by omega) (by omega)]
      refine v_iconst dX1_findNeed_44 (by decide) ?_
      refine v_ixor dX1_findNeed_45 ?_
      refine v_iand dX1_findNeed_46 ?_
      rw [eh2]
      refine v_istore (ls' := [_, _, _, _, _, _, _]) dX1_findNeed_47 rfl rfl rfl ?_
      refine v_iconst dX1_findNeed_49 (by decide) ?_
      refine v_istore (ls' := [_, _, _, _, _, _, _]) dX1_findNeed_50 rfl rfl rfl ?_
      refine v_iconst dX1_findNeed_52 (by decide) ?_
      refine v_istore (ls' := [_, _, _, _, _, _, _]) dX1_findNeed_53 rfl rfl rfl ?_
      exact lp1 (by simpa using hc_27) 0 (by omega) (by omega) 0 rfl
    · refine v_return dX1_findNeed_30 rfl ?_
      have hn : ¬ (lvN μ s).testBit h.toNat = true := by simpa using hc_27
      refine hQ m0 (fun o i q1 q2 _ => f0 o i q1 q2) ?_ ?_ (fun x hx => ?_)
      · rw [← hm0, mset_off (by omega), mset_same]
        unfold neD
        rw [if_neg hn]
      · rw [← hm0, mset_same]
        unfold taN
        rw [if_neg hn]
        rfl
      · have : ofF μ s x h.toNat = 0 := by
          unfold ofF taN
          rw [if_neg hn]
          simp
        rw [this, Nat.or_zero, f0 38 x (by omega) (by omega)]
        exact (e38 x hx).1
  · refine v_return dX1_findNeed_7 rfl ?_
    omega
set_option maxRecDepth 10000 in
set_option maxHeartbeats 1000000 in
theorem c_X1_prepare {s : Nat} {due most : Int} (hst : isSt s) (hs : StC μ s) (hp : PIc μ) (hd : 0 ≤ due ∧ due ≤ 3) (hQ : ∀ m' : Mem_, frP μ m' → (∀ x : Nat, x < 6 → m' 36 x = neD μ s due x ∧ m' 37 x = (taN μ s x : Int) ∧ m' 38 x = (ofN μ s x : Int) ∧ m' 39 x = most ∧ m' 40 x = 0) → Q U_ m') : V_ nX1_prepare 0 [R_ 33, R_ s, R_ 17, I_ due, I_ most, U_, U_, U_] [] μ Q := by
  have hs1 := hs.1
  have hs2 := hs.2.1
  have lp3 : ∀ k : Int, 0 ≤ k → k ≤ 6 → ∀ m1 : Mem_, frP μ m1 → (∀ x : Nat, x < 6 → m1 34 x = (hsN μ s x : Int) ∧ m1 35 x = (hdN μ s x : Int) ∧ m1 39 x = most ∧ m1 40 x = 0) → (∀ x : Nat, (x : Int) < k → m1 36 x = neD μ s due x ∧ m1 37 x = (taN μ s x : Int)) → (∀ x : Nat, x < 6 → m1 38 x = (orR k.toNat (ofF μ s x) : Int)) → V_ nX1_prepare 133 [R_ 33, R_ s, R_ 17, I_ due, I_ most, I_ (lvN μ s : Int), I_ k, U_] [] m1 Q := by
    refine loop_up _ (fun k k0 k1 ih => ?_)
    intro m1 a1 a2 a3 a4
    have o64 : ∀ x : Nat, orR k.toNat (ofF μ s x) < 64 := fun x => sm6 (fun j hj => by
      unfold ofF
      split
      · exact Nat.pow_lt_pow_right (by omega) (by omega)
      · decide)
    refine v_iload dX1_prepare_133 rfl ?_
    refine v_bipush dX1_prepare_135 (by decide) ?_
    refine v_icmp_ge (tgt := 155) dX1_prepare_137 (by decide) (fun hc_137 => ?_) (fun hc_137 => ?_)
    · refine v_return dX1_prepare_155 rfl ?_
      refine hQ m1 a1 (fun x hx => ⟨(a3 x (by omega)).1, (a3 x (by omega)).2, ?_, (a2 x hx).2.2.1, (a2 x hx).2.2.2⟩)
      rw [a4 x hx, show k.toNat = 6 by omega]
      rfl
    · refine v_aload_n dX1_prepare_140 rfl rfl ?_
      refine v_iload dX1_prepare_141 rfl ?_
      refine v_iload dX1_prepare_143 rfl ?_
      refine v_iload_n dX1_prepare_145 rfl rfl ?_
      refine v_callVv [_, _, _] dX1_prepare_146 lX1_57 kvX1_findNeed (plX1 _ _) rfl rfl rfl rfl rfl rfl rfl rfl rfl rfl (c_X1_findNeed (of0 := fun x => orR k.toNat (ofF μ s x)) hst hs hp (by omega) hd (fun x hx => (a2 x hx).1) (fun x hx => (a2 x hx).2.1) (fun x hx => ⟨a4 x hx, o64 x⟩) (fun m2 b1 b2 b3 b4 => ?_))
      refine v_iinc (ls' := [_, _, _, _, _, _, _, _]) dX1_prepare_149 rfl (fun hi_149 => by omega) rfl rfl ?_
      refine v_goto (tgt := 133) dX1_prepare_152 (by decide) ?_
      refine ih (by omega) m2 (fun o i q => by rw [b1 o i (by omega) (by omega) (by omega)]; exact a1 o i q) (fun x hx => by rw [b1 34 x (by omega) (by omega) (by omega), b1 35 x (by omega) (by omega) (by omega), b1 39 x (by omega) (by omega) (by omega), b1 40 x (by omega) (by omega) (by omega)]; exact a2 x hx) (fun x hx => ?_) (fun x hx => ?_)
      · by_cases e : x = k.toNat
        · subst e; exact ⟨b2, b3⟩
        · rw [b1 36 x (by omega) (by omega) (by omega), b1 37 x (by omega) (by omega) (by omega)]
          exact a3 x (by omega)
      · rw [show (k + 1).toNat = k.toNat + 1 by omega, orR]
        exact b4 x hx
  have lp2 : ∀ k : Int, 0 ≤ k → k ≤ μ s 1 → ∀ m1 : Mem_, frP μ m1 → (∀ x : Nat, x < 6 → m1 34 x = (orR k.toNat (hpF μ s x) : Int) ∧ m1 35 x = (orR k.toNat (hdF μ s x) : Int) ∧ m1 38 x = 0 ∧ m1 39 x = most ∧ m1 40 x = 0) → ∀ lv : Int, lv = ((orR k.toNat (lvF μ s) : Nat) : Int) → V_ nX1_prepare 63 [R_ 33, R_ s, R_ 17, I_ due, I_ most, I_ lv, I_ k, U_] [] m1 Q := by
    refine loop_up _ (fun k k0 k1 ih => ?_)
    intro m1 a1 a2 lv hlv
    have n1 : m1 s 1 = μ s 1 := a1.st0 hst
    have ek : ((k.toNat : Nat) : Int) = k := by omega
    have ek1 : (k + 1).toNat = k.toNat + 1 := by omega
    have hhk : k < μ s 1 → hoC m1 s k = hmC μ s k.toNat := fun q => by
      unfold hoC hmC
      rw [if_pos (by rw [n1]; omega), a1.st hst (by omega)]
    have hmk := fun q : k < μ s 1 => hm_lt hs (p := k.toNat) (by omega)
    have llv : k ≤ μ s 1 → orR k.toNat (lvF μ s) < 2 ^ 6 := fun q => orR_lt (fun j hj => lvF_lt hs (by omega))
    have lhd : ∀ x, orR k.toNat (hdF μ s x) < 2 ^ 6 := fun x => orR_lt (fun j hj => hdF_lt hp)
    have lhp : ∀ x, orR k.toNat (hpF μ s x) < 2 ^ 6 := fun x => orR_lt (fun j hj => orR_lt (fun q hq => hqF_lt hs (by omega) hq))
    have z1 := opens_lt hp 0 k
    have skip : k < μ s 1 → hmC μ s k.toNat < 0 → V_ nX1_prepare 124 [R_ 33, R_ s, R_ 17, I_ due, I_ most, I_ lv, I_ k, U_] [] m1 Q := by
      intro hk hneg
      refine v_iinc (ls' := [_, _, _, _, _, _, _, _]) dX1_prepare_124 rfl (fun hi_124 => by omega) rfl rfl ?_
      refine v_goto (tgt := 63) dX1_prepare_127 (by decide) ?_
      refine ih hk m1 a1 (fun x hx => ?_) lv ?_
      · have e1 : hpF μ s x k.toNat = 0 := by
          unfold hpF
          have : ∀ n, orR n (hqF μ s x k.toNat) = 0 := by
            intro n
            induction n with
            | zero => rfl
            | succ n ihn =>
              rw [orR, ihn]
              unfold hqF
              rw [if_neg (fun q => by have := q.1; omega)]
              rfl
          exact this _
        have e2 : hdF μ s x k.toNat = 0 := by unfold hdF; rw [if_neg (by omega)]
        rw [ek1, orR, orR, e1, e2, Nat.or_zero, Nat.or_zero]
        exact a2 x hx
      · have e3 : lvF μ s k.toNat = 0 := by unfold lvF; rw [if_neg (by omega)]
        rw [ek1, orR, e3, Nat.or_zero]
        exact hlv
    refine v_iload dX1_prepare_63 rfl ?_
    refine v_aload_n dX1_prepare_65 rfl rfl ?_
    refine v_getI dX1_prepare_66 fX1_33 (shp_st hst) (fk_st1 hst) rfl ?_
    refine v_icmp_ge (tgt := 130) dX1_prepare_69 (by decide) (fun hc_69 => ?_) (fun hc_69 => ?_)
    · refine v_iconst dX1_prepare_130 (by decide) ?_
      refine v_istore (ls' := [_, _, _, _, _, _, _, _]) dX1_prepare_131 rfl rfl rfl ?_
      refine v_kill (ls' := [_, _, _, _, _, _, _, _]) 7 rfl ?_
      rw [hlv, show k.toNat = (μ s 1).toNat by omega]
      refine lp3 0 (by omega) (by omega) m1 a1 (fun x hx => ?_) (fun x hx => absurd hx (by omega)) (fun x hx => (a2 x hx).2.2.1)
      have := a2 x hx
      rw [show k.toNat = (μ s 1).toNat by omega] at this
      exact ⟨this.1, this.2.1, this.2.2.2⟩
    · refine v_aload_n dX1_prepare_72 rfl rfl ?_
      refine v_iload dX1_prepare_73 rfl ?_
      refine v_callVi [_] dX1_prepare_75 lX1_39 kvX5_homeOf (plX5 _ _) (Or.inl rfl) (shp_st hst) rfl rfl rfl rfl rfl rfl rfl rfl (c_X5_homeOf hst (by omega) ?_)
      rw [hhk (by omega)]
      refine v_istore (ls' := [_, _, _, _, _, _, _, _]) dX1_prepare_78 rfl rfl rfl ?_
      have hmk := hmk (by omega)
      have llv := llv (by omega)
      have pw : 2 ^ (hmC μ s k.toNat).toNat < 2 ^ 6 := Nat.pow_lt_pow_right (by omega) (by omega)
      refine v_iload dX1_prepare_80 rfl ?_
      refine v_callSi [_] dX1_prepare_82 lX1_43 ksX1_isPlace (plX1 _ _) (Or.inr rfl) rfl rfl rfl rfl rfl rfl (c_X1_isPlace ?_)
      refine v_ifb_eq (tgt := 124) dX1_prepare_85 (by decide) (fun hc_85 => ?_) (fun hc_85 => ?_)
      · refine v_kill (ls' := [_, _, _, _, _, _, _, _]) 7 rfl ?_
        exact skip (by omega) (by omega)
      · refine v_iload dX1_prepare_88 rfl ?_
        refine v_iconst dX1_prepare_90 (by decide) ?_
        refine v_iload dX1_prepare_91 rfl ?_
        refine v_ishl dX1_prepare_93 ?_
        rw [bShl_one (by omega) (by omega)]
        refine v_ior dX1_prepare_94 ?_
        rw [hlv, bOr_nat (by omega) (by omega)]
        refine v_istore (ls' := [_, _, _, _, _, _, _, _]) dX1_prepare_95 rfl rfl rfl ?_
        refine v_aload_n dX1_prepare_97 rfl rfl ?_
        refine v_getR dX1_prepare_98 fX1_15 rfl rfl rfl ?_
        refine v_iload dX1_prepare_101 rfl ?_
        refine v_dup2 dX1_prepare_103 ?_
        refine v_iald dX1_prepare_104 rfl (by omega) (by omega) ?_
        rw [(a2 (hmC μ s k.toNat).toNat (by omega)).2.1]
        refine v_aload_n dX1_prepare_105 rfl rfl ?_
        refine v_iconst dX1_prepare_106 (by decide) ?_
        refine v_iload dX1_prepare_107 rfl ?_
        refine v_callVi [_, _] dX1_prepare_109 lX1_47 kvX2_opens (plX2 _ _) (Or.inl rfl) rfl rfl rfl rfl rfl rfl rfl rfl rfl (c_X2_opens (a1.pi hp) ?_)
        rw [a1.op]
        refine v_ior dX1_prepare_112 ?_
        rw [bOr_nat (Nat.lt_of_lt_of_le (lhd _) (by decide)) (by omega)]
        refine v_iast dX1_prepare_113 rfl (by omega) (by omega) ?_
        refine v_aload_n dX1_prepare_114 rfl rfl ?_
        refine v_aload_n dX1_prepare_115 rfl rfl ?_
        refine v_aload_n dX1_prepare_116 rfl rfl ?_
        refine v_iload dX1_prepare_117 rfl ?_
        refine v_iload dX1_prepare_119 rfl ?_
        refine v_callVv [_, _, _, _] dX1_prepare_121 lX1_53 kvX1_findHostile (plX1 _ _) rfl rfl rfl rfl rfl rfl rfl rfl rfl rfl (c_X1_findHostile (μ := μ) (hs0 := fun x => orR k.toNat (hpF μ s x)) hst hs (fun o i q => by rw [mset_off (by omega)]; exact a1 o i q) (by omega) rfl (by omega) (fun x _ => lhp x) (fun x hx => by rw [mset_off (by omega)]; exact (a2 x hx).1) (fun m2 b1 b2 => ?_))
        refine v_kill (ls' := [_, _, _, _, _, _, _, _]) 7 rfl ?_
        skip
        refine v_iinc (ls' := [_, _, _, _, _, _, _, _]) dX1_prepare_124 rfl (fun hi_124 => by omega) rfl rfl ?_
        refine v_goto (tgt := 63) dX1_prepare_127 (by decide) ?_
        have hm0 := hmk
        refine ih (by omega) m2 (fun o i q => by rw [b1 o i (by omega), mset_off (by omega)]; exact a1 o i q) (fun x hx => ?_) _ ?_
        · rw [b2 x hx, b1 35 x (by omega), b1 38 x (by omega), b1 39 x (by omega), b1 40 x (by omega), mset_off (o := 35) (a := 38) (by omega), mset_off (o := 35) (a := 39) (by omega), mset_off (o := 35) (a := 40) (by omega), ek1, orR, orR]
          refine ⟨rfl, ?_, (a2 x hx).2.2⟩
          by_cases e : x = (hmC μ s k.toNat).toNat
          · have e2 : hdF μ s x k.toNat = opensC μ 0 k := by unfold hdF; rw [if_pos (by omega), ek]
            rw [e2, e, mset_same]
          · have e2 : hdF μ s x k.toNat = 0 := by unfold hdF; rw [if_neg (by omega)]
            rw [e2, Nat.or_zero, mset_off (by omega)]
            exact (a2 x hx).2.1
        · have e3 : lvF μ s k.toNat = 2 ^ (hmC μ s k.toNat).toNat := by unfold lvF; rw [if_pos (by omega)]
          rw [ek1, orR, e3]
  have lp1 : ∀ k : Int, 0 ≤ k → k ≤ 6 → ∀ m1 : Mem_, frP μ m1 → (∀ x : Nat, (x : Int) < k → m1 34 x = 0 ∧ m1 35 x = 0 ∧ m1 38 x = 0 ∧ m1 39 x = most ∧ m1 40 x = 0) → V_ nX1_prepare 6 [R_ 33, R_ s, R_ 17, I_ due, I_ most, I_ 0, I_ k, U_] [] m1 Q := by
    refine loop_up _ (fun k k0 k1 ih => ?_)
    intro m1 a1 a2
    refine v_iload dX1_prepare_6 rfl ?_
    refine v_bipush dX1_prepare_8 (by decide) ?_
    refine v_icmp_ge (tgt := 60) dX1_prepare_10 (by decide) (fun hc_10 => ?_) (fun hc_10 => ?_)
    · refine v_iconst dX1_prepare_60 (by decide) ?_
      refine v_istore (ls' := [_, _, _, _, _, _, _, _]) dX1_prepare_61 rfl rfl rfl ?_
      refine lp2 0 (by omega) (by omega) m1 a1 (fun x hx => a2 x (by omega)) 0 rfl
    · refine v_aload_n dX1_prepare_13 rfl rfl ?_
      refine v_getR dX1_prepare_14 fX1_9 rfl rfl rfl ?_
      refine v_iload dX1_prepare_17 rfl ?_
      refine v_iconst dX1_prepare_19 (by decide) ?_
      refine v_iast dX1_prepare_20 rfl (by omega) (by omega) ?_
      refine v_aload_n dX1_prepare_21 rfl rfl ?_
      refine v_getR dX1_prepare_22 fX1_15 rfl rfl rfl ?_
      refine v_iload dX1_prepare_25 rfl ?_
      refine v_iconst dX1_prepare_27 (by decide) ?_
      refine v_iast dX1_prepare_28 rfl (by omega) (by omega) ?_
      refine v_aload_n dX1_prepare_29 rfl rfl ?_
      refine v_getR dX1_prepare_30 fX1_24 rfl rfl rfl ?_
      refine v_iload dX1_prepare_33 rfl ?_
      refine v_iconst dX1_prepare_35 (by decide) ?_
      refine v_iast dX1_prepare_36 rfl (by omega) (by omega) ?_
      refine v_aload_n dX1_prepare_37 rfl rfl ?_
      refine v_getR dX1_prepare_38 fX1_30 rfl rfl rfl ?_
      refine v_iload dX1_prepare_41 rfl ?_
      refine v_iconst dX1_prepare_43 (by decide) ?_
      refine v_iast dX1_prepare_44 rfl (by omega) (by omega) ?_
      refine v_aload_n dX1_prepare_45 rfl rfl ?_
      refine v_getR dX1_prepare_46 fX1_27 rfl rfl rfl ?_
      refine v_iload dX1_prepare_49 rfl ?_
      refine v_iload dX1_prepare_51 rfl ?_
      refine v_iast dX1_prepare_53 rfl (by omega) (by omega) ?_
      refine v_iinc (ls' := [_, _, _, _, _, _, _, _]) dX1_prepare_54 rfl (fun hi_54 => by omega) rfl rfl ?_
      refine v_goto (tgt := 6) dX1_prepare_57 (by decide) ?_
      refine ih (by omega) _ (fun o i q => by rw [mset_off (by omega), mset_off (by omega), mset_off (by omega), mset_off (by omega), mset_off (by omega)]; exact a1 o i q) (fun x hx => ?_)
      by_cases e : x = k.toNat
      · subst e
        refine ⟨?_, ?_, ?_, ?_, ?_⟩
        · rw [mset_off (by omega), mset_off (by omega), mset_off (by omega), mset_off (by omega), mset_same]
        · rw [mset_off (by omega), mset_off (by omega), mset_off (by omega), mset_same]
        · rw [mset_off (by omega), mset_off (by omega), mset_same]
        · rw [mset_same]
        · rw [mset_off (by omega), mset_same]
      · have off : ∀ o, mset (mset (mset (mset (mset m1 34 k.toNat 0) 35 k.toNat 0) 38 k.toNat 0) 40 k.toNat 0) 39 k.toNat most o x = m1 o x := fun o => by rw [mset_off (by omega), mset_off (by omega), mset_off (by omega), mset_off (by omega), mset_off (by omega)]
        rw [off, off, off, off, off]
        exact a2 x (by omega)
  refine v_iconst dX1_prepare_0 (by decide) ?_
  refine v_istore (ls' := [_, _, _, _, _, _, _, _]) dX1_prepare_1 rfl rfl rfl ?_
  refine v_iconst dX1_prepare_3 (by decide) ?_
  refine v_istore (ls' := [_, _, _, _, _, _, _, _]) dX1_prepare_4 rfl rfl rfl ?_
  exact lp1 0 (by omega) (by omega) μ (fun _ _ _ => rfl) (fun x hx => absurd hx (by omega))
end
