/-! plans: the search -/
theorem bShl_small {a k : Int} (h0 : 0 ≤ a) (h1 : a < 64) (h2 : 0 ≤ k) (h3 : k < 7) : bShl a k = ((a.toNat * 2 ^ k.toNat : Nat) : Int) := by
  have key : ∀ a : Fin 64, ∀ k : Fin 7, bShl (a.val : Int) (k.val : Int) = ((a.val * 2 ^ k.val : Nat) : Int) := by decide +kernel
  have := key ⟨a.toNat, by omega⟩ ⟨k.toNat, by omega⟩
  simp only at this
  rwa [show ((a.toNat : Nat) : Int) = a by omega, show ((k.toNat : Nat) : Int) = k by omega] at this
def spF (D : Nat → Int) (O : Nat → Nat) (r : Nat → Int) (s x : Nat) : Int := min (r x) (cntB 32 (O x &&& s) : Int) - (if s.testBit x = true then D x else 0)
/-- none of the sets from a house on needs more than its takers can take -/
def HPf (D : Nat → Int) (O : Nat → Nat) (r : Nat → Int) (fr : Nat) : Prop := ∀ part : Nat, 1 ≤ part → part < 2 ^ (6 - fr) → 0 ≤ smR 6 (spF D O r (part * 2 ^ fr))
abbrev plD (m : Mem_) (x : Nat) : Int := m 36 x
abbrev plO (m : Mem_) (x : Nat) : Nat := (m 38 x).toNat
abbrev plR (m : Mem_) (x : Nat) : Int := m 39 x
def PLok (m : Mem_) : Prop := ∀ x : Nat, x < 6 → (0 ≤ m 36 x ∧ m 36 x ≤ 3) ∧ (0 ≤ m 37 x ∧ m 37 x < 64) ∧ (0 ≤ m 38 x ∧ m 38 x < 64) ∧ (0 ≤ m 39 x ∧ m 39 x ≤ 9)
theorem cnt6 {s : Nat} (h : s < 64) : cntB 32 s ≤ 6 := by
  have e := cntB_sm (n := 6) (m := 32) (s := s) (by omega) (by omega)
  have h6 : smR 6 (fun k => b2i (s.testBit k = true)) ≤ smR 6 (fun _ => 1) := smR_le (fun k _ => by rcases b2i_01 (s.testBit k = true) with e | e <;> omega)
  have : smR 6 (fun _ => 1) = 6 := rfl
  omega
section
variable {m : Mem_} {Q : PV → Mem_ → Prop}
set_option maxRecDepth 10000 in
set_option maxHeartbeats 1000000 in
theorem c_X1_canGoOn {fr : Int} (hf : 0 ≤ fr ∧ fr ≤ 6) (hP : PLok m) (h1 : HPf (plD m) (plO m) (plR m) fr.toNat → Q (I_ 1) m) (h0 : ¬ HPf (plD m) (plO m) (plR m) fr.toNat → Q (I_ 0) m) : V_ nX1_canGoOn 0 [R_ 33, I_ fr, U_, U_, U_, U_] [] m Q := by
  have e6 : bShl 1 (6 - fr) = ((2 ^ (6 - fr.toNat) : Nat) : Int) := by
    rw [bShl_one (by omega) (by omega), show (6 - fr).toNat = 6 - fr.toNat by omega]
  have p6 : 2 ^ (6 - fr.toNat) * 2 ^ fr.toNat = 64 := by
    rw [← Nat.pow_add, show 6 - fr.toNat + fr.toNat = 6 by omega]
  have ppos : 0 < 2 ^ fr.toNat := Nat.two_pow_pos _
  have ple : 2 ^ (6 - fr.toNat) ≤ 64 := by
    have := Nat.pow_le_pow_right (n := 2) (by omega) (show 6 - fr.toNat ≤ 6 by omega)
    omega
  have lp : ∀ part : Int, 0 ≤ part → part ≤ ((2 ^ (6 - fr.toNat) : Nat) : Int) → 1 ≤ part → (∀ q : Nat, 1 ≤ q → (q : Int) < part → 0 ≤ smR 6 (spF (plD m) (plO m) (plR m) (q * 2 ^ fr.toNat))) → V_ nX1_canGoOn 2 [R_ 33, I_ fr, I_ part, U_, U_, U_] [] m Q := by
    refine loop_up _ (fun part g0 g1 ih => ?_)
    intro gp hacc
    have set64 : part < ((2 ^ (6 - fr.toNat) : Nat) : Int) → part.toNat * 2 ^ fr.toNat < 64 := by
      intro q
      rw [← p6]
      exact Nat.mul_lt_mul_of_pos_right (by omega) ppos
    have inn : part < ((2 ^ (6 - fr.toNat) : Nat) : Int) → ∀ k : Int, 0 ≤ k → k ≤ 6 → ∀ sp : Int, sp = smR k.toNat (spF (plD m) (plO m) (plR m) (part.toNat * 2 ^ fr.toNat)) → -3 * k ≤ sp ∧ sp ≤ 9 * k → V_ nX1_canGoOn 22 [R_ 33, I_ fr, I_ part, I_ ((part.toNat * 2 ^ fr.toNat : Nat) : Int), I_ sp, I_ k] [] m Q := by
      intro hpp
      refine loop_up _ (fun k k0 k1 ihk => ?_)
      intro sp hsp hspb
      have hs64 := set64 hpp
      generalize hS : part.toNat * 2 ^ fr.toNat = S at hs64 hsp ihk ⊢
      have hk := fun q : k < 6 => hP k.toNat (by omega)
      have hand : k < 6 → plO m k.toNat &&& S < 2 ^ 6 := fun q => Nat.and_lt_two_pow _ (by omega)
      have eand : k < 6 → bAnd (m 38 k.toNat) ((S : Nat) : Int) = ((plO m k.toNat &&& S : Nat) : Int) := by
        intro q
        have := hk q
        rw [← bAnd_nat (by unfold plO; omega) (by omega), show ((plO m k.toNat : Nat) : Int) = m 38 k.toNat by unfold plO; omega]
      have st : k < 6 → smR (k + 1).toNat (spF (plD m) (plO m) (plR m) S) = sp + (min (m 39 k.toNat) (cntB 32 (plO m k.toNat &&& S) : Int) - (if S.testBit k.toNat = true then m 36 k.toNat else 0)) := fun q => by
        rw [show (k + 1).toNat = k.toNat + 1 by omega, smR, hsp]
        rfl
      have hc6 := fun q : k < 6 => cnt6 (s := plO m k.toNat &&& S) (hand q)
      refine v_iload dX1_canGoOn_22 rfl ?_
      refine v_bipush dX1_canGoOn_24 (by decide) ?_
      refine v_icmp_ge (tgt := 87) dX1_canGoOn_26 (by decide) (fun hc_26 => ?_) (fun hc_26 => ?_)
      · refine v_iload dX1_canGoOn_87 rfl ?_
        refine v_if_ge (tgt := 94) dX1_canGoOn_89 (by decide) (fun hc_89 => ?_) (fun hc_89 => ?_)
        · refine v_kill (ls' := [_, _, _, _, _, _]) 3 rfl ?_
          refine v_kill (ls' := [_, _, _, _, _, _]) 4 rfl ?_
          refine v_kill (ls' := [_, _, _, _, _, _]) 5 rfl ?_
          skip
          refine v_iinc (ls' := [_, _, _, _, _, _]) dX1_canGoOn_94 rfl (fun hi_94 => by omega) rfl rfl ?_
          refine v_goto (tgt := 2) dX1_canGoOn_97 (by decide) ?_
          refine ih hpp (by omega) (fun q q1 q2 => ?_)
          by_cases e : q = part.toNat
          · subst e
            rw [hS, show (6 : Nat) = k.toNat by omega, ← hsp]
            omega
          · exact hacc q q1 (by omega)
        · refine v_iconst dX1_canGoOn_92 (by decide) ?_
          refine v_zreturn dX1_canGoOn_93 rfl (by first | exact Or.inl rfl | exact Or.inr rfl | exact b2i_01 _ | assumption) ?_
          refine h0 (fun q => ?_)
          have := q part.toNat (by omega) (by omega)
          rw [hS, show (6 : Nat) = k.toNat by omega, ← hsp] at this
          omega
      · have hk := hk (by omega)
        have hc6 := hc6 (by omega)
        have hand := hand (by omega)
        have hst := st (by omega)
        refine v_iload dX1_canGoOn_29 rfl ?_
        refine v_aload_n dX1_canGoOn_31 rfl rfl ?_
        refine v_getR dX1_canGoOn_32 fX1_27 rfl rfl rfl ?_
        refine v_iload dX1_canGoOn_35 rfl ?_
        refine v_iald dX1_canGoOn_37 rfl (by omega) (by omega) ?_
        refine v_aload_n dX1_canGoOn_38 rfl rfl ?_
        refine v_getR dX1_canGoOn_39 fX1_24 rfl rfl rfl ?_
        refine v_iload dX1_canGoOn_42 rfl ?_
        refine v_iald dX1_canGoOn_44 rfl (by omega) (by omega) ?_
        refine v_iload_n dX1_canGoOn_45 rfl rfl ?_
        refine v_iand dX1_canGoOn_46 ?_
        rw [eand (by omega)]
        refine v_callSi [_] dX1_canGoOn_47 lX1_68 ksJ6_bitCount_0f7a4 plJ6b (Or.inl rfl) rfl rfl rfl rfl rfl rfl (c_J6_bitCount (by omega) (by omega) ?_)
        rw [Int.toNat_natCast]
        refine v_callSi [_, _] dX1_canGoOn_50 lX1_91 ksJ9_min_7cf53 plJ9i (Or.inl rfl) rfl rfl rfl rfl rfl rfl (c_J9_min ?_)
        refine v_iadd dX1_canGoOn_53 (fun ha hb => by omega) ?_
        refine v_istore (ls' := [_, _, _, _, _, _]) dX1_canGoOn_54 rfl rfl rfl ?_
        refine v_iload dX1_canGoOn_56 rfl ?_
        refine v_iload_n dX1_canGoOn_58 rfl rfl ?_
        refine v_iload dX1_canGoOn_59 rfl ?_
        refine v_callNi [_, _] dX1_canGoOn_61 lnX1_64 ksX7_has (plX7 _ _) (Or.inr rfl) rfl rfl rfl rfl rfl rfl (c_X7_has (by omega) (by omega) (by omega) ?_)
        refine v_ifb_eq (tgt := 77) dX1_canGoOn_64 (by decide) (fun hc_64 => ?_) (fun hc_64 => ?_)
        · refine v_iconst dX1_canGoOn_77 (by decide) ?_
          refine v_isub dX1_canGoOn_78 (fun ha hb => by omega) ?_
          refine v_istore (ls' := [_, _, _, _, _, _]) dX1_canGoOn_79 rfl rfl rfl ?_
          refine v_iinc (ls' := [_, _, _, _, _, _]) dX1_canGoOn_81 rfl (fun hi_81 => by omega) rfl rfl ?_
          refine v_goto (tgt := 22) dX1_canGoOn_84 (by decide) ?_
          refine ihk (by omega) _ ?_ ?_
          · rw [hst, if_neg (by simpa using hc_64)]; omega
          · omega
        · refine v_aload_n dX1_canGoOn_67 rfl rfl ?_
          refine v_getR dX1_canGoOn_68 fX1_18 rfl rfl rfl ?_
          refine v_iload dX1_canGoOn_71 rfl ?_
          refine v_iald dX1_canGoOn_73 rfl (by omega) (by omega) ?_
          refine v_goto (tgt := 78) dX1_canGoOn_74 (by decide) ?_
          refine v_isub dX1_canGoOn_78 (fun ha hb => by omega) ?_
          refine v_istore (ls' := [_, _, _, _, _, _]) dX1_canGoOn_79 rfl rfl rfl ?_
          refine v_iinc (ls' := [_, _, _, _, _, _]) dX1_canGoOn_81 rfl (fun hi_81 => by omega) rfl rfl ?_
          refine v_goto (tgt := 22) dX1_canGoOn_84 (by decide) ?_
          refine ihk (by omega) _ ?_ ?_
          · rw [hst, if_pos (by simpa using hc_64)]; omega
          · omega
    refine v_iload_n dX1_canGoOn_2 rfl rfl ?_
    refine v_iconst dX1_canGoOn_3 (by decide) ?_
    refine v_bipush dX1_canGoOn_4 (by decide) ?_
    refine v_iload_n dX1_canGoOn_6 rfl rfl ?_
    refine v_isub dX1_canGoOn_7 (fun ha hb => by omega) ?_
    refine v_ishl dX1_canGoOn_8 ?_
    rw [e6]
    refine v_icmp_ge (tgt := 100) dX1_canGoOn_9 (by decide) (fun hc_9 => ?_) (fun hc_9 => ?_)
    · refine v_iconst dX1_canGoOn_100 (by decide) ?_
      refine v_zreturn dX1_canGoOn_101 rfl (by first | exact Or.inl rfl | exact Or.inr rfl | exact b2i_01 _ | assumption) ?_
      exact h1 (fun q q1 q2 => hacc q q1 (by omega))
    · refine v_iload_n dX1_canGoOn_12 rfl rfl ?_
      refine v_iload_n dX1_canGoOn_13 rfl rfl ?_
      refine v_ishl dX1_canGoOn_14 ?_
      rw [bShl_small (by omega) (by omega) (by omega) (by omega)]
      refine v_istore_n (ls' := [_, _, _, _, _, _]) dX1_canGoOn_15 rfl rfl rfl rfl ?_
      refine v_iconst dX1_canGoOn_16 (by decide) ?_
      refine v_istore (ls' := [_, _, _, _, _, _]) dX1_canGoOn_17 rfl rfl rfl ?_
      refine v_iconst dX1_canGoOn_19 (by decide) ?_
      refine v_istore (ls' := [_, _, _, _, _, _]) dX1_canGoOn_20 rfl rfl rfl ?_
      exact inn (by omega) 0 (by omega) (by omega) 0 rfl (by omega)
  have ppos6 : 0 < 2 ^ (6 - fr.toNat) := Nat.two_pow_pos _
  refine v_iconst dX1_canGoOn_0 (by decide) ?_
  refine v_istore_n (ls' := [_, _, _, _, _, _]) dX1_canGoOn_1 rfl rfl rfl rfl ?_
  exact lp 1 (by omega) (by omega) (by omega) (fun q q1 q2 => absurd q2 (by omega))
set_option maxRecDepth 10000 in
theorem c_X1_haveRoom {s : Int} (hs : 0 ≤ s ∧ s < 64) (h1 : (∀ x : Nat, x < 6 → s.toNat.testBit x = true → 0 < m 39 x) → Q (I_ 1) m) (h0 : ¬ (∀ x : Nat, x < 6 → s.toNat.testBit x = true → 0 < m 39 x) → Q (I_ 0) m) : V_ nX1_haveRoom 0 [R_ 33, I_ s, U_] [] m Q := by
  have lp : ∀ k : Int, 0 ≤ k → k ≤ 6 → (∀ x : Nat, (x : Int) < k → s.toNat.testBit x = true → 0 < m 39 x) → V_ nX1_haveRoom 2 [R_ 33, I_ s, I_ k] [] m Q := by
    refine loop_up _ (fun k g0 g1 ih => ?_)
    intro hx
    refine v_iload_n dX1_haveRoom_2 rfl rfl ?_
    refine v_bipush dX1_haveRoom_3 (by decide) ?_
    refine v_icmp_ge (tgt := 33) dX1_haveRoom_5 (by decide) (fun hc_5 => ?_) (fun hc_5 => ?_)
    · refine v_iconst dX1_haveRoom_33 (by decide) ?_
      refine v_zreturn dX1_haveRoom_34 rfl (by first | exact Or.inl rfl | exact Or.inr rfl | exact b2i_01 _ | assumption) ?_
      exact h1 (fun x x1 x2 => hx x (by omega) x2)
    · refine v_iload_n dX1_haveRoom_8 rfl rfl ?_
      refine v_iload_n dX1_haveRoom_9 rfl rfl ?_
      refine v_callNi [_, _] dX1_haveRoom_10 lnX1_64 ksX7_has (plX7 _ _) (Or.inr rfl) rfl rfl rfl rfl rfl rfl (c_X7_has (by omega) (by omega) (by omega) ?_)
      refine v_ifb_eq (tgt := 27) dX1_haveRoom_13 (by decide) (fun hc_13 => ?_) (fun hc_13 => ?_)
      · refine v_iinc (ls' := [_, _, _]) dX1_haveRoom_27 rfl (fun hi_27 => by omega) rfl rfl ?_
        refine v_goto (tgt := 2) dX1_haveRoom_30 (by decide) ?_
        refine ih (by omega) (fun x x1 x2 => ?_)
        by_cases e : x = k.toNat
        · subst e
          first | exact absurd x2 hc_13 | omega
        · exact hx x (by omega) x2
      · refine v_aload_n dX1_haveRoom_16 rfl rfl ?_
        refine v_getR dX1_haveRoom_17 fX1_27 rfl rfl rfl ?_
        refine v_iload_n dX1_haveRoom_20 rfl rfl ?_
        refine v_iald dX1_haveRoom_21 rfl (by omega) (by omega) ?_
        refine v_if_gt (tgt := 27) dX1_haveRoom_22 (by decide) (fun hc_22 => ?_) (fun hc_22 => ?_)
        · refine v_iinc (ls' := [_, _, _]) dX1_haveRoom_27 rfl (fun hi_27 => by omega) rfl rfl ?_
          refine v_goto (tgt := 2) dX1_haveRoom_30 (by decide) ?_
          refine ih (by omega) (fun x x1 x2 => ?_)
          by_cases e : x = k.toNat
          · subst e
            first | exact absurd x2 hc_13 | omega
          · exact hx x (by omega) x2
        · refine v_iconst dX1_haveRoom_25 (by decide) ?_
          refine v_zreturn dX1_haveRoom_26 rfl (by first | exact Or.inl rfl | exact Or.inr rfl | exact b2i_01 _ | assumption) ?_
          exact h0 (fun q => by have := q k.toNat (by omega) hc_13; omega)
  refine v_iconst dX1_haveRoom_0 (by decide) ?_
  refine v_istore_n (ls' := [_, _, _]) dX1_haveRoom_1 rfl rfl rfl rfl ?_
  exact lp 0 (by omega) (by omega) (fun x x1 => absurd x1 (by omega))
set_option maxRecDepth 10000 in
theorem c_X1_changeRoom {s by_ : Int} (hs : 0 ≤ s ∧ s < 64) (hb : by_ = 1 ∨ by_ = -1) (hr : ∀ x : Nat, x < 6 → -100 ≤ m 39 x ∧ m 39 x ≤ 100) (hQ : ∀ m' : Mem_, (∀ o i, (o ≠ 39 ∨ 6 ≤ i) → m' o i = m o i) → (∀ x : Nat, x < 6 → m' 39 x = m 39 x + (if s.toNat.testBit x = true then by_ else 0)) → Q U_ m') : V_ nX1_changeRoom 0 [R_ 33, I_ s, I_ by_, U_] [] m Q := by
  have lp : ∀ k : Int, 0 ≤ k → k ≤ 6 → ∀ m1 : Mem_, (∀ o i, (o ≠ 39 ∨ 6 ≤ i) → m1 o i = m o i) → (∀ x : Nat, x < 6 → m1 39 x = if (x : Int) < k then m 39 x + (if s.toNat.testBit x = true then by_ else 0) else m 39 x) → V_ nX1_changeRoom 2 [R_ 33, I_ s, I_ by_, I_ k] [] m1 Q := by
    refine loop_up _ (fun k g0 g1 ih => ?_)
    intro m1 hf hx
    have hk : k < 6 → m1 39 k.toNat = m 39 k.toNat := fun q => by rw [hx _ (by omega), if_neg (by omega)]
    have hrk := fun q : k < 6 => hr k.toNat (by omega)
    refine v_iload_n dX1_changeRoom_2 rfl rfl ?_
    refine v_bipush dX1_changeRoom_3 (by decide) ?_
    refine v_icmp_ge (tgt := 36) dX1_changeRoom_5 (by decide) (fun hc_5 => ?_) (fun hc_5 => ?_)
    · refine v_return dX1_changeRoom_36 rfl ?_
      exact hQ m1 hf (fun x x1 => by rw [hx x x1, if_pos (by omega)])
    · have hrk := hrk (by omega)
      refine v_aload_n dX1_changeRoom_8 rfl rfl ?_
      refine v_getR dX1_changeRoom_9 fX1_27 rfl rfl rfl ?_
      refine v_iload_n dX1_changeRoom_12 rfl rfl ?_
      refine v_dup2 dX1_changeRoom_13 ?_
      refine v_iald dX1_changeRoom_14 rfl (by omega) (by omega) ?_
      rw [hk (by omega)]
      refine v_iload_n dX1_changeRoom_15 rfl rfl ?_
      refine v_iload_n dX1_changeRoom_16 rfl rfl ?_
      refine v_callNi [_, _] dX1_changeRoom_17 lnX1_64 ksX7_has (plX7 _ _) (Or.inr rfl) rfl rfl rfl rfl rfl rfl (c_X7_has (by omega) (by omega) (by omega) ?_)
      refine v_ifb_eq (tgt := 27) dX1_changeRoom_20 (by decide) (fun hc_20 => ?_) (fun hc_20 => ?_)
      · refine v_iconst dX1_changeRoom_27 (by decide) ?_
        refine v_iadd dX1_changeRoom_28 (fun ha hb => by omega) ?_
        refine v_iast dX1_changeRoom_29 rfl (by omega) (by omega) ?_
        refine v_iinc (ls' := [_, _, _, _]) dX1_changeRoom_30 rfl (fun hi_30 => by omega) rfl rfl ?_
        refine v_goto (tgt := 2) dX1_changeRoom_33 (by decide) ?_
        refine ih (by omega) _ (fun o i q => by rw [mset_off (by omega)]; exact hf o i q) (fun x x1 => ?_)
        by_cases e : x = k.toNat
        · subst e
          rw [mset_same, if_pos (by omega)]
          first | (rw [if_neg hc_20]) | (rw [if_pos hc_20])
        · rw [mset_off (fun z => e z.2), hx x x1]
          by_cases q : (x : Int) < k
          · rw [if_pos q, if_pos (c := (x : Int) < k + 1) (by omega)]
          · rw [if_neg q, if_neg (c := (x : Int) < k + 1) (by omega)]
      · refine v_iload_n dX1_changeRoom_23 rfl rfl ?_
        refine v_goto (tgt := 28) dX1_changeRoom_24 (by decide) ?_
        refine v_iadd dX1_changeRoom_28 (fun ha hb => by omega) ?_
        refine v_iast dX1_changeRoom_29 rfl (by omega) (by omega) ?_
        refine v_iinc (ls' := [_, _, _, _]) dX1_changeRoom_30 rfl (fun hi_30 => by omega) rfl rfl ?_
        refine v_goto (tgt := 2) dX1_changeRoom_33 (by decide) ?_
        refine ih (by omega) _ (fun o i q => by rw [mset_off (by omega)]; exact hf o i q) (fun x x1 => ?_)
        by_cases e : x = k.toNat
        · subst e
          rw [mset_same, if_pos (by omega)]
          first | (rw [if_neg hc_20]) | (rw [if_pos hc_20])
        · rw [mset_off (fun z => e z.2), hx x x1]
          by_cases q : (x : Int) < k
          · rw [if_pos q, if_pos (c := (x : Int) < k + 1) (by omega)]
          · rw [if_neg q, if_neg (c := (x : Int) < k + 1) (by omega)]
  refine v_iconst dX1_changeRoom_0 (by decide) ?_
  refine v_istore_n (ls' := [_, _, _, _]) dX1_changeRoom_1 rfl rfl rfl rfl ?_
  exact lp 0 (by omega) (by omega) m (fun _ _ _ => rfl) (fun x x1 => by rw [if_neg (by omega)])
/-- a set that giveFirst() takes -/
def FitC (m : Mem_) (h s : Nat) : Prop := (s ^^^ (s &&& (m 37 h).toNat) = 0 ∧ (cntB 32 s : Int) = m 36 h) ∧ (∀ x : Nat, x < 6 → s.testBit x = true → 0 < m 39 x) ∧ HPf (plD m) (plO m) (fun x => m 39 x - (if s.testBit x = true then 1 else 0)) (h + 1)
theorem HPf_congr {D D' : Nat → Int} {O O' : Nat → Nat} {r r' : Nat → Int} {fr : Nat} (h1 : ∀ x, x < 6 → D x = D' x) (h2 : ∀ x, x < 6 → O x = O' x) (h3 : ∀ x, x < 6 → r x = r' x) (h : HPf D O r fr) : HPf D' O' r' fr := by
  intro part p1 p2
  have := h part p1 p2
  rwa [smR_congr (g := spF D' O' r' (part * 2 ^ fr)) (fun k hk => by unfold spF; rw [h1 k hk, h2 k hk, h3 k hk])] at this
/-- whether a number is that of a house -/
theorem c_X1_isPlace {h : Int} (hQ : Q (I_ (b2i (0 ≤ h ∧ h < 6))) m) : V_ nX1_isPlace 0 [I_ h] [] m Q := by
  refine v_iload_n dX1_isPlace_0 rfl rfl ?_
  refine v_if_lt (tgt := 14) dX1_isPlace_1 (by decide) (fun hc_1 => ?_) (fun hc_1 => ?_)
  · refine v_iconst dX1_isPlace_14 (by decide) ?_
    refine v_zreturn dX1_isPlace_15 rfl (by first | exact Or.inl rfl | exact Or.inr rfl | exact b2i_01 _ | assumption) ?_
    rw [b2i_f (by omega)] at hQ
    exact hQ
  · refine v_iload_n dX1_isPlace_4 rfl rfl ?_
    refine v_bipush dX1_isPlace_5 (by decide) ?_
    refine v_icmp_ge (tgt := 14) dX1_isPlace_7 (by decide) (fun hc_7 => ?_) (fun hc_7 => ?_)
    · refine v_iconst dX1_isPlace_14 (by decide) ?_
      refine v_zreturn dX1_isPlace_15 rfl (by first | exact Or.inl rfl | exact Or.inr rfl | exact b2i_01 _ | assumption) ?_
      rw [b2i_f (by omega)] at hQ
      exact hQ
    · refine v_iconst dX1_isPlace_10 (by decide) ?_
      refine v_goto (tgt := 15) dX1_isPlace_11 (by decide) ?_
      refine v_zreturn dX1_isPlace_15 rfl (by first | exact Or.inl rfl | exact Or.inr rfl | exact b2i_01 _ | assumption) ?_
      rw [b2i_t (by omega)] at hQ
      exact hQ
set_option maxRecDepth 10000 in
set_option maxHeartbeats 1000000 in
theorem c_X1_giveFirst {h : Int} (hh : 0 ≤ h ∧ h < 6) (hP : PLok m) (h1 : ∀ s : Nat, (s : Int) ≤ m 37 h.toNat → FitC m h.toNat s → (∀ s' : Nat, s' < s → ¬ FitC m h.toNat s') → ∀ m' : Mem_, (∀ o i, ¬ (o = 39 ∧ i < 6) → ¬ (o = 40 ∧ i = h.toNat) → m' o i = m o i) → (∀ x : Nat, x < 6 → m' 39 x = m 39 x - (if s.testBit x = true then 1 else 0)) → m' 40 h.toNat = (s : Int) → Q (I_ 1) m') (h0 : (∀ s : Nat, (s : Int) ≤ m 37 h.toNat → ¬ FitC m h.toNat s) → Q (I_ 0) m) : V_ nX1_giveFirst 0 [R_ 33, I_ h, U_, U_] [] m Q := by
  have hPh := hP h.toNat (by omega)
  have lp : ∀ s : Int, 0 ≤ s → s ≤ m 37 h.toNat + 1 → (∀ s' : Nat, (s' : Int) < s → ¬ FitC m h.toNat s') → V_ nX1_giveFirst 11 [R_ 33, I_ h, I_ s, U_] [] m Q := by
    refine loop_up _ (fun s g0 g1 ih => ?_)
    intro hn
    have nx : s ≤ m 37 h.toNat → ¬ FitC m h.toNat s.toNat → V_ nX1_giveFirst 96 [R_ 33, I_ h, I_ s, U_] [] m Q := by
      intro hs hnf
      refine v_iinc (ls' := [_, _, _, _]) dX1_giveFirst_96 rfl (fun hi_96 => by omega) rfl rfl ?_
      refine v_goto (tgt := 11) dX1_giveFirst_99 (by decide) ?_
      refine v_kill (ls' := [_, _, _, _]) 3 rfl ?_
      refine ih (by omega) (fun s' q => ?_)
      by_cases e : s' = s.toNat
      · subst e; exact hnf
      · exact hn s' (by omega)
    have ex : s < 64 → bAnd s (bXor (m 37 h.toNat) (-1)) = ((s.toNat ^^^ (s.toNat &&& (m 37 h.toNat).toNat) : Nat) : Int) := fun q => by
      rw [← bAnd_not (by omega) (by omega), show ((s.toNat : Nat) : Int) = s by omega, show (((m 37 h.toNat).toNat : Nat) : Int) = m 37 h.toNat by omega]
    refine v_iload_n dX1_giveFirst_11 rfl rfl ?_
    refine v_aload_n dX1_giveFirst_12 rfl rfl ?_
    refine v_getR dX1_giveFirst_13 fX1_21 rfl rfl rfl ?_
    refine v_iload_n dX1_giveFirst_16 rfl rfl ?_
    refine v_iald dX1_giveFirst_17 rfl (by omega) (by omega) ?_
    refine v_icmp_gt (tgt := 102) dX1_giveFirst_18 (by decide) (fun hc_18 => ?_) (fun hc_18 => ?_)
    · refine v_iconst dX1_giveFirst_102 (by decide) ?_
      refine v_zreturn dX1_giveFirst_103 rfl (by first | exact Or.inl rfl | exact Or.inr rfl | exact b2i_01 _ | assumption) ?_
      exact h0 (fun s' q => hn s' (by omega))
    · refine v_iload_n dX1_giveFirst_21 rfl rfl ?_
      refine v_aload_n dX1_giveFirst_22 rfl rfl ?_
      refine v_getR dX1_giveFirst_23 fX1_21 rfl rfl rfl ?_
      refine v_iload_n dX1_giveFirst_26 rfl rfl ?_
      refine v_iald dX1_giveFirst_27 rfl (by omega) (by omega) ?_
      refine v_iconst dX1_giveFirst_28 (by decide) ?_
      refine v_ixor dX1_giveFirst_29 ?_
      refine v_iand dX1_giveFirst_30 ?_
      rw [ex (by omega)]
      refine v_if_ne (tgt := 51) dX1_giveFirst_31 (by decide) (fun hc_31 => ?_) (fun hc_31 => ?_)
      · refine v_iconst dX1_giveFirst_51 (by decide) ?_
        refine v_istore_n (ls' := [_, _, _, _]) dX1_giveFirst_52 rfl rfl rfl rfl ?_
        refine v_iload_n dX1_giveFirst_53 rfl rfl ?_
        refine v_if_eq (tgt := 96) dX1_giveFirst_54 (by decide) (fun _ => ?_) (fun q => absurd (by decide) q)
        refine v_kill (ls' := [_, _, _, _]) 3 rfl ?_
        exact nx (by omega) (fun q => by have := q.1.1; omega)
      · refine v_iload_n dX1_giveFirst_34 rfl rfl ?_
        refine v_callSi [_] dX1_giveFirst_35 lX1_68 ksJ6_bitCount_0f7a4 plJ6b (Or.inl rfl) rfl rfl rfl rfl rfl rfl (c_J6_bitCount (by omega) (by omega) ?_)
        refine v_aload_n dX1_giveFirst_38 rfl rfl ?_
        refine v_getR dX1_giveFirst_39 fX1_18 rfl rfl rfl ?_
        refine v_iload_n dX1_giveFirst_42 rfl rfl ?_
        refine v_iald dX1_giveFirst_43 rfl (by omega) (by omega) ?_
        refine v_icmp_ne (tgt := 51) dX1_giveFirst_44 (by decide) (fun hc_44 => ?_) (fun hc_44 => ?_)
        · refine v_iconst dX1_giveFirst_51 (by decide) ?_
          refine v_istore_n (ls' := [_, _, _, _]) dX1_giveFirst_52 rfl rfl rfl rfl ?_
          refine v_iload_n dX1_giveFirst_53 rfl rfl ?_
          refine v_if_eq (tgt := 96) dX1_giveFirst_54 (by decide) (fun _ => ?_) (fun q => absurd (by decide) q)
          refine v_kill (ls' := [_, _, _, _]) 3 rfl ?_
          exact nx (by omega) (fun q => by have := q.1.2; omega)
        · refine v_iconst dX1_giveFirst_47 (by decide) ?_
          refine v_goto (tgt := 52) dX1_giveFirst_48 (by decide) ?_
          refine v_istore_n (ls' := [_, _, _, _]) dX1_giveFirst_52 rfl rfl rfl rfl ?_
          refine v_iload_n dX1_giveFirst_53 rfl rfl ?_
          refine v_if_eq (tgt := 96) dX1_giveFirst_54 (by decide) (fun q => absurd q (by decide)) (fun _ => ?_)
          refine v_aload_n dX1_giveFirst_57 rfl rfl ?_
          refine v_iload_n dX1_giveFirst_58 rfl rfl ?_
          refine v_callVi [_] dX1_giveFirst_59 lX1_84 kvX1_haveRoom (plX1 _ _) (Or.inr rfl) rfl rfl rfl rfl rfl rfl rfl rfl rfl (c_X1_haveRoom (by omega) ?_ ?_)
          · intro q1
            refine v_if_eq (tgt := 96) dX1_giveFirst_62 (by decide) (fun q => absurd q (by decide)) (fun _ => ?_)
            refine v_aload_n dX1_giveFirst_65 rfl rfl ?_
            refine v_iload_n dX1_giveFirst_66 rfl rfl ?_
            refine v_iconst dX1_giveFirst_67 (by decide) ?_
            refine v_callVv [_, _] dX1_giveFirst_68 lX1_87 kvX1_changeRoom (plX1 _ _) rfl rfl rfl rfl rfl rfl rfl rfl rfl rfl (c_X1_changeRoom (by omega) (Or.inr rfl) (fun x hx => by have := hP x hx; omega) (fun m1 hf1 hr1 => ?_))
            have hx1 : ∀ x : Nat, x < 6 → m1 39 x = m 39 x - (if s.toNat.testBit x = true then 1 else 0) := fun x hx => by
              rw [hr1 x hx]
              split <;> omega
            have hP1 : PLok m1 := by
              intro x hx
              have a1 := hP x hx
              have a2 := q1 x hx
              rw [hx1 x hx, hf1 36 x (Or.inl (by decide)), hf1 37 x (Or.inl (by decide)), hf1 38 x (Or.inl (by decide))]
              refine ⟨a1.1, a1.2.1, a1.2.2.1, ?_⟩
              split
              · rename_i q; have := a2 q; omega
              · omega
            have hHP : HPf (plD m1) (plO m1) (plR m1) (h + 1).toNat ↔ HPf (plD m) (plO m) (fun x => m 39 x - (if s.toNat.testBit x = true then 1 else 0)) (h.toNat + 1) := by
              rw [show (h + 1).toNat = h.toNat + 1 by omega]
              exact ⟨HPf_congr (fun x _ => hf1 36 x (Or.inl (by decide))) (fun x _ => by unfold plO; rw [hf1 38 x (Or.inl (by decide))]) hx1, HPf_congr (fun x _ => (hf1 36 x (Or.inl (by decide))).symm) (fun x _ => by unfold plO; rw [hf1 38 x (Or.inl (by decide))]) (fun x hx => (hx1 x hx).symm)⟩
            refine v_aload_n dX1_giveFirst_71 rfl rfl ?_
            refine v_iload_n dX1_giveFirst_72 rfl rfl ?_
            refine v_iconst dX1_giveFirst_73 (by decide) ?_
            refine v_iadd dX1_giveFirst_74 (fun ha hb => by omega) ?_
            refine v_callVi [_] dX1_giveFirst_75 lX1_78 kvX1_canGoOn (plX1 _ _) (Or.inr rfl) rfl rfl rfl rfl rfl rfl rfl rfl rfl (c_X1_canGoOn (by omega) hP1 ?_ ?_)
            · intro q2
              refine v_if_eq (tgt := 90) dX1_giveFirst_78 (by decide) (fun q => absurd q (by decide)) (fun _ => ?_)
              refine v_aload_n dX1_giveFirst_81 rfl rfl ?_
              refine v_getR dX1_giveFirst_82 fX1_30 rfl rfl rfl ?_
              refine v_iload_n dX1_giveFirst_85 rfl rfl ?_
              refine v_iload_n dX1_giveFirst_86 rfl rfl ?_
              refine v_iast dX1_giveFirst_87 rfl (by omega) (by omega) ?_
              refine v_iconst dX1_giveFirst_88 (by decide) ?_
              refine v_zreturn dX1_giveFirst_89 rfl (by first | exact Or.inl rfl | exact Or.inr rfl | exact b2i_01 _ | assumption) ?_
              refine h1 s.toNat (by omega) ⟨⟨by omega, by omega⟩, q1, hHP.mp q2⟩ (fun s' q => hn s' (by omega)) _ (fun o i q3 q4 => by rw [mset_off (by omega), hf1 o i (by omega)]) (fun x hx => by rw [mset_off (by omega)]; exact hx1 x hx) (by rw [mset_same]; omega)
            · intro q2
              refine v_if_eq (tgt := 90) dX1_giveFirst_78 (by decide) (fun _ => ?_) (fun q => absurd (by decide) q)
              refine v_aload_n dX1_giveFirst_90 rfl rfl ?_
              refine v_iload_n dX1_giveFirst_91 rfl rfl ?_
              refine v_iconst dX1_giveFirst_92 (by decide) ?_
              refine v_callVv [_, _] dX1_giveFirst_93 lX1_87 kvX1_changeRoom (plX1 _ _) rfl rfl rfl rfl rfl rfl rfl rfl rfl rfl (c_X1_changeRoom (by omega) (Or.inl rfl) (fun x hx => by have := hP1 x hx; omega) (fun m2 hf2 hr2 => ?_))
              have em : m2 = m := by
                funext o i
                by_cases q : o = 39 ∧ i < 6
                · obtain ⟨rfl, qi⟩ := q
                  rw [hr2 i qi, hx1 i qi]
                  split <;> omega
                · rw [hf2 o i (by omega), hf1 o i (by omega)]
              rw [em]
              refine v_kill (ls' := [_, _, _, _]) 3 rfl ?_
              exact nx (by omega) (fun q => q2 (hHP.mpr q.2.2))
          · intro q1
            refine v_if_eq (tgt := 96) dX1_giveFirst_62 (by decide) (fun _ => ?_) (fun q => absurd (by decide) q)
            refine v_kill (ls' := [_, _, _, _]) 3 rfl ?_
            exact nx (by omega) (fun q => q1 q.2.1)
  refine v_iload_n dX1_giveFirst_0 rfl rfl ?_
  refine v_callSi [_] dX1_giveFirst_1 lX1_43 ksX1_isPlace (plX1 _ _) (Or.inr rfl) rfl rfl rfl rfl rfl rfl (c_X1_isPlace ?_)
  refine v_ifb_ne (tgt := 9) dX1_giveFirst_4 (by decide) (fun hc_4 => ?_) (fun hc_4 => ?_)
  · refine v_iconst dX1_giveFirst_9 (by decide) ?_
    refine v_istore_n (ls' := [_, _, _, _]) dX1_giveFirst_10 rfl rfl rfl rfl ?_
    exact lp 0 (by omega) (by omega) (fun s' q => absurd q (by omega))
  · refine v_iconst dX1_giveFirst_7 (by decide) ?_
    refine v_zreturn dX1_giveFirst_8 rfl (by first | exact Or.inl rfl | exact Or.inr rfl | exact b2i_01 _ | assumption) ?_
    omega
end
