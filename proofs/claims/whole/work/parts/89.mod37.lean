/-! the model over the class: what is lacking -/
section
variable {μ w : Mem_} {Q : PV → Mem_ → Prop}
def mgN (w : Mem_) (b : Nat) : Nat := heN w (stc w) b ^^^ (heN w (stc w) b &&& hvN w (stc w) b)
theorem he_nH (hw : CW w) {a b : Nat} (h : (heN w (stc w) b).testBit a = true) : (a : Int) < w (stc w) 0 := by
  obtain ⟨p, p1, p2⟩ := lv_bit.1 (he_bit.1 h).1
  have := (hw.1.2.2.2.2 p (by omega)).1
  omega
theorem hv_bit (hw : CW w) {a b : Nat} : (hvN w (stc w) b).testBit a = true ↔ (heN w (stc w) b).testBit a = true ∧ (hdN w (stc w) a).testBit b = true := by
  have h0 := orP_bit (n := 6) (P := fun x => (heN w (stc w) b).testBit x = true ∧ (hdN w (stc w) x).testBit b = true) (i := a)
  constructor
  · exact fun q => (h0.1 q).2
  · intro q
    have := he_nH hw q.1
    have := hw.1.2.1
    exact h0.2 ⟨by omega, q⟩
theorem mg_bit (hw : CW w) {a b : Nat} : (mgN w b).testBit a = true ↔ (heN w (stc w) b).testBit a = true ∧ ¬ (hdN w (stc w) a).testBit b = true := by
  unfold mgN
  rw [nx_bit, hv_bit hw]
  constructor
  · exact fun q => ⟨q.1, fun q2 => q.2 ⟨q.1, q2⟩⟩
  · exact fun q => ⟨q.1, fun q2 => q.2 q2.2⟩
theorem lt_of_bits {s n : Nat} (h : ∀ i, s.testBit i = true → i < n) : s < 2 ^ n := Nat.lt_pow_two_of_testBit s (fun i hi => by
  cases hb : s.testBit i with
  | false => rfl
  | true => have := h i hb; omega)
def frL5 (μ m : Mem_) : Prop := ∀ o k, o ≠ 79 → o ≠ 80 → m o k = μ o k
set_option maxRecDepth 10000 in
theorem c_X8_layLacks {n : Int} (hw : CW w) (hc : CP μ w) (hn : 1 ≤ n ∧ n ≤ 2) (h : ∀ m : Mem_, frL5 μ m → (∀ b : Nat, (b : Int) < w (stc w) 0 → m 79 b = neD w (stc w) (n + 1) b ∧ m 80 b = ((mgN w b : Nat) : Int)) → Q U_ m) : V_ nX8_layLacks 0 [R_ 50, I_ n, U_, U_, U_] [] μ Q := by
  have s1 := hw.1.2.1
  have s2 := hw.1.2.2.1
  have lp : ∀ b : Int, 0 ≤ b → b ≤ w (stc w) 0 → ∀ m : Mem_, frL5 μ m → (∀ j : Nat, (j : Int) < b → m 79 j = neD w (stc w) (n + 1) j ∧ m 80 j = ((mgN w j : Nat) : Int)) → V_ nX8_layLacks 2 [R_ 50, I_ n, I_ b, U_, U_] [] m Q := by
    refine loop_up _ (fun b b0 b1 ih => ?_)
    intro m m1 m2
    have hcm : ∀ m' : Mem_, frL5 μ m' → CP m' w := fun m' q => CP_fr hc (fun k _ => q 50 k (by omega) (by omega)) (fun o k q2 => q o k (by omega) (by omega))
    have cm := (hcm m m1).1.1
    have eb : ((b.toNat : Nat) : Int) = b := by omega
    have inner : b < w (stc w) 0 → ∀ a : Int, 0 ≤ a → a ≤ w (stc w) 0 → ∀ (m' : Mem_) (hv : Int), frL5 μ m' → (∀ j : Nat, (j : Int) < b → m' 79 j = neD w (stc w) (n + 1) j ∧ m' 80 j = ((mgN w j : Nat) : Int)) → hv = smR a.toNat (fun x => b2i ((heN w (stc w) b.toNat).testBit x = true ∧ (hdN w (stc w) x).testBit b.toNat = true)) → m' 80 b.toNat = ((orR a.toNat (fun x => if (heN w (stc w) b.toNat).testBit x = true ∧ ¬ (hdN w (stc w) x).testBit b.toNat = true then 2 ^ x else 0) : Nat) : Int) → V_ nX8_layLacks 22 [R_ 50, I_ n, I_ b, I_ hv, I_ a] [] m' Q := by
      intro hbl
      refine loop_up _ (fun a a0 a1 iha => ?_)
      intro m' hv f1 f2 f3 f4
      have hcp := hcm m' f1
      have cm' := hcp.1.1
      have hvb := smb (n := a.toNat) (f := fun x => b2i ((heN w (stc w) b.toNat).testBit x = true ∧ (hdN w (stc w) x).testBit b.toNat = true)) (fun k => b2i_01 _)
      have ecnt : a = w (stc w) 0 → hv = (cntB 32 (hvN w (stc w) b.toNat) : Int) := fun q => by
        rw [f3, q, cntB_sm (n := (w (stc w) 0).toNat) (lt_of_bits (fun i hi => by have := he_nH hw ((hv_bit hw).1 hi).1; omega)) (by omega)]
        exact smR_congr (fun k hk => b2i_congr (hv_bit hw).symm)
      have emg : a = w (stc w) 0 → orR a.toNat (fun x => if (heN w (stc w) b.toNat).testBit x = true ∧ ¬ (hdN w (stc w) x).testBit b.toNat = true then 2 ^ x else 0) = mgN w b.toNat := fun q => bx (fun i => by
        rw [orP_bit (P := fun x => (heN w (stc w) b.toNat).testBit x = true ∧ ¬ (hdN w (stc w) x).testBit b.toNat = true), mg_bit hw]
        exact ⟨fun q => q.2, fun q2 => ⟨by have := he_nH hw q2.1; omega, q2⟩⟩)
      have hpf : a < w (stc w) 0 → ∀ j, j ≤ a.toNat → (if (heN w (stc w) b.toNat).testBit j = true ∧ ¬ (hdN w (stc w) j).testBit b.toNat = true then 2 ^ j else 0 : Nat) < 2 ^ 31 := fun q j hj => pw_if (by omega)
      refine v_iload dX8_layLacks_22 rfl ?_
      refine v_aload_n dX8_layLacks_24 rfl rfl ?_
      refine v_getI dX8_layLacks_25 fX8_180 rfl rfl rfl ?_
      refine v_icmp_ge (tgt := 92) dX8_layLacks_28 (by decide) (fun hc_28 => ?_) (fun hc_28 => ?_)
      · refine v_aload_n dX8_layLacks_92 rfl rfl ?_
        refine v_getR dX8_layLacks_93 fX8_95 rfl rfl rfl ?_
        refine v_iload_n dX8_layLacks_96 rfl rfl ?_
        refine v_aload_n dX8_layLacks_97 rfl rfl ?_
        refine v_iload_n dX8_layLacks_98 rfl rfl ?_
        refine v_callVi [_] dX8_layLacks_99 lX8_237 kvX8_livesIn (plX8 _ _) (Or.inl rfl) rfl rfl rfl rfl rfl rfl rfl rfl rfl (c_X8_livesIn hw.1.2 hcp.1 ?_)
        rw [show peF w (stc w) b = peF w (stc w) (b.toNat : Int) by rw [eb]]
        refine v_if_eq (tgt := 110) dX8_layLacks_102 (by decide) (fun hc_102 => ?_) (fun hc_102 => ?_)
        · refine v_iconst dX8_layLacks_110 (by decide) ?_
          refine v_goto (tgt := 119) dX8_layLacks_111 (by decide) ?_
          refine v_iast dX8_layLacks_119 rfl (by omega) (by omega) ?_
          refine v_iinc (ls' := [_, _, _, _, _]) dX8_layLacks_120 rfl (fun hi_120 => by omega) rfl rfl ?_
          refine v_goto (tgt := 2) dX8_layLacks_123 (by decide) ?_
          refine v_kill (ls' := [_, _, _, _, _]) 3 rfl ?_
          refine v_kill (ls' := [_, _, _, _, _]) 4 rfl ?_
          have ea : a = w (stc w) 0 := by omega
          have ecnt := ecnt ea
          rw [emg ea] at f4
          refine ih hbl _ (fun o k q q2 => by rw [mset_off (by omega)]; exact f1 o k q q2) (fun j hj => ?_)
          by_cases ej : j = b.toNat
          · subst ej
            rw [mset_same, mset_off (by omega)]
            refine ⟨?_, f4⟩
            unfold neD
            first
              | (rw [if_neg (lives_0.1 (by omega))])
              | (rw [if_pos (Classical.byContradiction (fun q => hc_102 (by rw [lives_0.2 q]; rfl)))]; omega)
          · rw [mset_off (by omega), mset_off (by omega)]
            exact f2 j (by omega)
        · refine v_iload_n dX8_layLacks_105 rfl rfl ?_
          refine v_iload_n dX8_layLacks_106 rfl rfl ?_
          refine v_icmp_le (tgt := 114) dX8_layLacks_107 (by decide) (fun hc_107 => ?_) (fun hc_107 => ?_)
          · refine v_iload_n dX8_layLacks_114 rfl rfl ?_
            refine v_iconst dX8_layLacks_115 (by decide) ?_
            refine v_iadd dX8_layLacks_116 (fun ha hb => by omega) ?_
            refine v_iload_n dX8_layLacks_117 rfl rfl ?_
            refine v_isub dX8_layLacks_118 (fun ha hb => by omega) ?_
            refine v_iast dX8_layLacks_119 rfl (by omega) (by omega) ?_
            refine v_iinc (ls' := [_, _, _, _, _]) dX8_layLacks_120 rfl (fun hi_120 => by omega) rfl rfl ?_
            refine v_goto (tgt := 2) dX8_layLacks_123 (by decide) ?_
            refine v_kill (ls' := [_, _, _, _, _]) 3 rfl ?_
            refine v_kill (ls' := [_, _, _, _, _]) 4 rfl ?_
            have ea : a = w (stc w) 0 := by omega
            have ecnt := ecnt ea
            rw [emg ea] at f4
            refine ih hbl _ (fun o k q q2 => by rw [mset_off (by omega)]; exact f1 o k q q2) (fun j hj => ?_)
            by_cases ej : j = b.toNat
            · subst ej
              rw [mset_same, mset_off (by omega)]
              refine ⟨?_, f4⟩
              unfold neD
              first
                | (rw [if_neg (lives_0.1 (by omega))])
                | (rw [if_pos (Classical.byContradiction (fun q => hc_102 (by rw [lives_0.2 q]; rfl)))]; omega)
            · rw [mset_off (by omega), mset_off (by omega)]
              exact f2 j (by omega)
          · refine v_iconst dX8_layLacks_110 (by decide) ?_
            refine v_goto (tgt := 119) dX8_layLacks_111 (by decide) ?_
            refine v_iast dX8_layLacks_119 rfl (by omega) (by omega) ?_
            refine v_iinc (ls' := [_, _, _, _, _]) dX8_layLacks_120 rfl (fun hi_120 => by omega) rfl rfl ?_
            refine v_goto (tgt := 2) dX8_layLacks_123 (by decide) ?_
            refine v_kill (ls' := [_, _, _, _, _]) 3 rfl ?_
            refine v_kill (ls' := [_, _, _, _, _]) 4 rfl ?_
            have ea : a = w (stc w) 0 := by omega
            have ecnt := ecnt ea
            rw [emg ea] at f4
            refine ih hbl _ (fun o k q q2 => by rw [mset_off (by omega)]; exact f1 o k q q2) (fun j hj => ?_)
            by_cases ej : j = b.toNat
            · subst ej
              rw [mset_same, mset_off (by omega)]
              refine ⟨?_, f4⟩
              unfold neD
              first
                | (rw [if_neg (lives_0.1 (by omega))])
                | (rw [if_pos (Classical.byContradiction (fun q => hc_102 (by rw [lives_0.2 q]; rfl)))]; omega)
            · rw [mset_off (by omega), mset_off (by omega)]
              exact f2 j (by omega)
      · refine v_aload_n dX8_layLacks_31 rfl rfl ?_
        refine v_iload dX8_layLacks_32 rfl ?_
        refine v_iload_n dX8_layLacks_34 rfl rfl ?_
        refine v_callVi [_, _] dX8_layLacks_35 lX8_308 kvX8_helps (plX8 _ _) (Or.inr rfl) rfl rfl rfl rfl rfl rfl rfl rfl rfl (c_X8_helps hw hcp (by omega) (by omega) ?_)
        refine v_ifb_eq (tgt := 86) dX8_layLacks_38 (by decide) (fun hc_38 => ?_) (fun hc_38 => ?_)
        · refine v_iinc (ls' := [_, _, _, _, _]) dX8_layLacks_86 rfl (fun hi_86 => by omega) rfl rfl ?_
          refine v_goto (tgt := 22) dX8_layLacks_89 (by decide) ?_
          first
            | exact iha (by omega) m' hv f1 f2 (by rw [← smS a0 f3 (b := 0) (b2i_f (fun q => hc_38 q.1)), Int.add_zero]) (orZ a0 f4 (if_neg (fun q => hc_38 q.1)))
            | (exact absurd hc_49 hc_73)
            | (exact absurd hc_73 hc_49)
            | exact iha (by omega) _ _ (fun o k q q2 => by rw [mset_off (by omega)]; exact f1 o k q q2) (fun j hj => by rw [mset_off (by omega), mset_off (by omega)]; exact f2 j hj) (smS a0 f3 (b2i_t ⟨hc_38, hc_49⟩)) (by rw [mset_same]; exact orS (x := 0) a0 f4 rfl (if_neg (fun q => q.2 hc_49)) (hpf (by omega)))
            | exact iha (by omega) _ _ (fun o k q q2 => by rw [mset_off (by omega)]; exact f1 o k q q2) (fun j hj => by rw [mset_off (by omega), mset_off (by omega)]; exact f2 j hj) (smS a0 f3 (b2i_f (fun q => hc_49 q.2))) (by rw [mset_same]; exact orS a0 f4 (bShl_one (by omega) (by omega)) (if_pos ⟨hc_38, hc_49⟩) (hpf (by omega)))
        · refine v_iload_n dX8_layLacks_41 rfl rfl ?_
          refine v_aload_n dX8_layLacks_42 rfl rfl ?_
          refine v_iload dX8_layLacks_43 rfl ?_
          refine v_iload_n dX8_layLacks_45 rfl rfl ?_
          refine v_callVi [_, _] dX8_layLacks_46 lX8_311 kvX8_hasKeyOf (plX8 _ _) (Or.inr rfl) rfl rfl rfl rfl rfl rfl rfl rfl rfl (c_X8_hasKeyOf hw hcp (by omega) (by omega) ?_)
          refine v_ifb_eq (tgt := 56) dX8_layLacks_49 (by decide) (fun hc_49 => ?_) (fun hc_49 => ?_)
          · refine v_iconst dX8_layLacks_56 (by decide) ?_
            refine v_iadd dX8_layLacks_57 (fun ha hb => by omega) ?_
            refine v_istore_n (ls' := [_, _, _, _, _]) dX8_layLacks_58 rfl rfl rfl rfl ?_
            refine v_aload_n dX8_layLacks_59 rfl rfl ?_
            refine v_getR dX8_layLacks_60 fX8_98 rfl rfl rfl ?_
            refine v_iload_n dX8_layLacks_63 rfl rfl ?_
            refine v_dup2 dX8_layLacks_64 ?_
            refine v_iald dX8_layLacks_65 rfl (by omega) (by omega) ?_
            refine v_aload_n dX8_layLacks_66 rfl rfl ?_
            refine v_iload dX8_layLacks_67 rfl ?_
            refine v_iload_n dX8_layLacks_69 rfl rfl ?_
            refine v_callVi [_, _] dX8_layLacks_70 lX8_311 kvX8_hasKeyOf (plX8 _ _) (Or.inr rfl) rfl rfl rfl rfl rfl rfl rfl rfl rfl (c_X8_hasKeyOf hw hcp (by omega) (by omega) ?_)
            refine v_ifb_eq (tgt := 80) dX8_layLacks_73 (by decide) (fun hc_73 => ?_) (fun hc_73 => ?_)
            · refine v_iconst dX8_layLacks_80 (by decide) ?_
              refine v_iload dX8_layLacks_81 rfl ?_
              refine v_ishl dX8_layLacks_83 ?_
              refine v_ior dX8_layLacks_84 ?_
              refine v_iast dX8_layLacks_85 rfl (by omega) (by omega) ?_
              refine v_iinc (ls' := [_, _, _, _, _]) dX8_layLacks_86 rfl (fun hi_86 => by omega) rfl rfl ?_
              refine v_goto (tgt := 22) dX8_layLacks_89 (by decide) ?_
              first
                | exact iha (by omega) m' hv f1 f2 (by rw [← smS a0 f3 (b := 0) (b2i_f (fun q => hc_38 q.1)), Int.add_zero]) (orZ a0 f4 (if_neg (fun q => hc_38 q.1)))
                | (exact absurd hc_49 hc_73)
                | (exact absurd hc_73 hc_49)
                | exact iha (by omega) _ _ (fun o k q q2 => by rw [mset_off (by omega)]; exact f1 o k q q2) (fun j hj => by rw [mset_off (by omega), mset_off (by omega)]; exact f2 j hj) (smS a0 f3 (b2i_t ⟨hc_38, hc_49⟩)) (by rw [mset_same]; exact orS (x := 0) a0 f4 rfl (if_neg (fun q => q.2 hc_49)) (hpf (by omega)))
                | exact iha (by omega) _ _ (fun o k q q2 => by rw [mset_off (by omega)]; exact f1 o k q q2) (fun j hj => by rw [mset_off (by omega), mset_off (by omega)]; exact f2 j hj) (smS a0 f3 (b2i_f (fun q => hc_49 q.2))) (by rw [mset_same]; exact orS a0 f4 (bShl_one (by omega) (by omega)) (if_pos ⟨hc_38, hc_49⟩) (hpf (by omega)))
            · refine v_iconst dX8_layLacks_76 (by decide) ?_
              refine v_goto (tgt := 84) dX8_layLacks_77 (by decide) ?_
              refine v_ior dX8_layLacks_84 ?_
              refine v_iast dX8_layLacks_85 rfl (by omega) (by omega) ?_
              refine v_iinc (ls' := [_, _, _, _, _]) dX8_layLacks_86 rfl (fun hi_86 => by omega) rfl rfl ?_
              refine v_goto (tgt := 22) dX8_layLacks_89 (by decide) ?_
              first
                | exact iha (by omega) m' hv f1 f2 (by rw [← smS a0 f3 (b := 0) (b2i_f (fun q => hc_38 q.1)), Int.add_zero]) (orZ a0 f4 (if_neg (fun q => hc_38 q.1)))
                | (exact absurd hc_49 hc_73)
                | (exact absurd hc_73 hc_49)
                | exact iha (by omega) _ _ (fun o k q q2 => by rw [mset_off (by omega)]; exact f1 o k q q2) (fun j hj => by rw [mset_off (by omega), mset_off (by omega)]; exact f2 j hj) (smS a0 f3 (b2i_t ⟨hc_38, hc_49⟩)) (by rw [mset_same]; exact orS (x := 0) a0 f4 rfl (if_neg (fun q => q.2 hc_49)) (hpf (by omega)))
                | exact iha (by omega) _ _ (fun o k q q2 => by rw [mset_off (by omega)]; exact f1 o k q q2) (fun j hj => by rw [mset_off (by omega), mset_off (by omega)]; exact f2 j hj) (smS a0 f3 (b2i_f (fun q => hc_49 q.2))) (by rw [mset_same]; exact orS a0 f4 (bShl_one (by omega) (by omega)) (if_pos ⟨hc_38, hc_49⟩) (hpf (by omega)))
          · refine v_iconst dX8_layLacks_52 (by decide) ?_
            refine v_goto (tgt := 57) dX8_layLacks_53 (by decide) ?_
            refine v_iadd dX8_layLacks_57 (fun ha hb => by omega) ?_
            refine v_istore_n (ls' := [_, _, _, _, _]) dX8_layLacks_58 rfl rfl rfl rfl ?_
            refine v_aload_n dX8_layLacks_59 rfl rfl ?_
            refine v_getR dX8_layLacks_60 fX8_98 rfl rfl rfl ?_
            refine v_iload_n dX8_layLacks_63 rfl rfl ?_
            refine v_dup2 dX8_layLacks_64 ?_
            refine v_iald dX8_layLacks_65 rfl (by omega) (by omega) ?_
            refine v_aload_n dX8_layLacks_66 rfl rfl ?_
            refine v_iload dX8_layLacks_67 rfl ?_
            refine v_iload_n dX8_layLacks_69 rfl rfl ?_
            refine v_callVi [_, _] dX8_layLacks_70 lX8_311 kvX8_hasKeyOf (plX8 _ _) (Or.inr rfl) rfl rfl rfl rfl rfl rfl rfl rfl rfl (c_X8_hasKeyOf hw hcp (by omega) (by omega) ?_)
            refine v_ifb_eq (tgt := 80) dX8_layLacks_73 (by decide) (fun hc_73 => ?_) (fun hc_73 => ?_)
            · refine v_iconst dX8_layLacks_80 (by decide) ?_
              refine v_iload dX8_layLacks_81 rfl ?_
              refine v_ishl dX8_layLacks_83 ?_
              refine v_ior dX8_layLacks_84 ?_
              refine v_iast dX8_layLacks_85 rfl (by omega) (by omega) ?_
              refine v_iinc (ls' := [_, _, _, _, _]) dX8_layLacks_86 rfl (fun hi_86 => by omega) rfl rfl ?_
              refine v_goto (tgt := 22) dX8_layLacks_89 (by decide) ?_
              first
                | exact iha (by omega) m' hv f1 f2 (by rw [← smS a0 f3 (b := 0) (b2i_f (fun q => hc_38 q.1)), Int.add_zero]) (orZ a0 f4 (if_neg (fun q => hc_38 q.1)))
                | (exact absurd hc_49 hc_73)
                | (exact absurd hc_73 hc_49)
                | exact iha (by omega) _ _ (fun o k q q2 => by rw [mset_off (by omega)]; exact f1 o k q q2) (fun j hj => by rw [mset_off (by omega), mset_off (by omega)]; exact f2 j hj) (smS a0 f3 (b2i_t ⟨hc_38, hc_49⟩)) (by rw [mset_same]; exact orS (x := 0) a0 f4 rfl (if_neg (fun q => q.2 hc_49)) (hpf (by omega)))
                | exact iha (by omega) _ _ (fun o k q q2 => by rw [mset_off (by omega)]; exact f1 o k q q2) (fun j hj => by rw [mset_off (by omega), mset_off (by omega)]; exact f2 j hj) (smS a0 f3 (b2i_f (fun q => hc_49 q.2))) (by rw [mset_same]; exact orS a0 f4 (bShl_one (by omega) (by omega)) (if_pos ⟨hc_38, hc_49⟩) (hpf (by omega)))
            · refine v_iconst dX8_layLacks_76 (by decide) ?_
              refine v_goto (tgt := 84) dX8_layLacks_77 (by decide) ?_
              refine v_ior dX8_layLacks_84 ?_
              refine v_iast dX8_layLacks_85 rfl (by omega) (by omega) ?_
              refine v_iinc (ls' := [_, _, _, _, _]) dX8_layLacks_86 rfl (fun hi_86 => by omega) rfl rfl ?_
              refine v_goto (tgt := 22) dX8_layLacks_89 (by decide) ?_
              first
                | exact iha (by omega) m' hv f1 f2 (by rw [← smS a0 f3 (b := 0) (b2i_f (fun q => hc_38 q.1)), Int.add_zero]) (orZ a0 f4 (if_neg (fun q => hc_38 q.1)))
                | (exact absurd hc_49 hc_73)
                | (exact absurd hc_73 hc_49)
                | exact iha (by omega) _ _ (fun o k q q2 => by rw [mset_off (by omega)]; exact f1 o k q q2) (fun j hj => by rw [mset_off (by omega), mset_off (by omega)]; exact f2 j hj) (smS a0 f3 (b2i_t ⟨hc_38, hc_49⟩)) (by rw [mset_same]; exact orS (x := 0) a0 f4 rfl (if_neg (fun q => q.2 hc_49)) (hpf (by omega)))
                | exact iha (by omega) _ _ (fun o k q q2 => by rw [mset_off (by omega)]; exact f1 o k q q2) (fun j hj => by rw [mset_off (by omega), mset_off (by omega)]; exact f2 j hj) (smS a0 f3 (b2i_f (fun q => hc_49 q.2))) (by rw [mset_same]; exact orS a0 f4 (bShl_one (by omega) (by omega)) (if_pos ⟨hc_38, hc_49⟩) (hpf (by omega)))
    refine v_iload_n dX8_layLacks_2 rfl rfl ?_
    refine v_aload_n dX8_layLacks_3 rfl rfl ?_
    refine v_getI dX8_layLacks_4 fX8_180 rfl rfl rfl ?_
    refine v_icmp_ge (tgt := 126) dX8_layLacks_7 (by decide) (fun hc_7 => ?_) (fun hc_7 => ?_)
    · refine v_return dX8_layLacks_126 rfl ?_
      exact h m m1 (fun j hj => m2 j (by omega))
    · refine v_iconst dX8_layLacks_10 (by decide) ?_
      refine v_istore_n (ls' := [_, _, _, _, _]) dX8_layLacks_11 rfl rfl rfl rfl ?_
      refine v_aload_n dX8_layLacks_12 rfl rfl ?_
      refine v_getR dX8_layLacks_13 fX8_98 rfl rfl rfl ?_
      refine v_iload_n dX8_layLacks_16 rfl rfl ?_
      refine v_iconst dX8_layLacks_17 (by decide) ?_
      refine v_iast dX8_layLacks_18 rfl (by omega) (by omega) ?_
      refine v_iconst dX8_layLacks_19 (by decide) ?_
      refine v_istore (ls' := [_, _, _, _, _]) dX8_layLacks_20 rfl rfl rfl ?_
      exact inner (by omega) 0 (by omega) (by omega) _ 0 (fun o k q q2 => by rw [mset_off (by omega)]; exact m1 o k q q2) (fun j hj => by rw [mset_off (by omega), mset_off (by omega)]; exact m2 j hj) rfl (by rw [mset_same]; rfl)
  refine v_iconst dX8_layLacks_0 (by decide) ?_
  refine v_istore_n (ls' := [_, _, _, _, _]) dX8_layLacks_1 rfl rfl rfl rfl ?_
  exact lp 0 (by omega) (by omega) μ (fun _ _ _ _ => rfl) (fun j hj => by omega)
set_option maxRecDepth 10000 in
theorem c_X8_isLittle {to mm nH : Int} {g : Nat → Nat} (hm : μ 50 10 = nH) (hH : 0 ≤ nH ∧ nH ≤ 6) (hto : 0 ≤ to ∧ to < nH) (hg : ∀ j : Nat, (j : Int) ≤ to → μ 81 j = (g j : Int) ∧ g j < 64) (h1 : (∀ x : Nat, (x : Int) < nH → smR (to + 1).toNat (inG g x) ≤ mm) → Q (I_ 1) μ) (h0 : ¬ (∀ x : Nat, (x : Int) < nH → smR (to + 1).toNat (inG g x) ≤ mm) → Q (I_ 0) μ) : V_ nX8_isLittle 0 [R_ 50, I_ to, I_ mm, U_, U_, U_, U_] [] μ Q := by
  have lp : ∀ a : Int, 0 ≤ a → a ≤ nH → ∀ d : Int, ((d = 1 ∧ ∀ x : Nat, (x : Int) < a → smR (to + 1).toNat (inG g x) ≤ mm) ∨ (d = 0 ∧ ¬ ∀ x : Nat, (x : Int) < a → smR (to + 1).toNat (inG g x) ≤ mm)) → V_ nX8_isLittle 5 [R_ 50, I_ to, I_ mm, I_ d, I_ a, U_, U_] [] μ Q := by
    refine loop_up _ (fun a a0 a1 ih => ?_)
    intro d hd
    have d01 : d = 0 ∨ d = 1 := by rcases hd with q | q; exact Or.inr q.1; exact Or.inl q.1
    have ea : ((a.toNat : Nat) : Int) = a := by omega
    have inner : a < nH → ∀ k : Int, 0 ≤ k → k ≤ to + 1 → ∀ c : Int, c = smR k.toNat (inG g a.toNat) → V_ nX8_isLittle 20 [R_ 50, I_ to, I_ mm, I_ d, I_ a, I_ c, I_ k] [] μ Q := by
      intro hal
      refine loop_up _ (fun k k0 k1 ihk => ?_)
      intro c hcc
      have hcb := smb (n := k.toNat) (f := inG g a.toNat) (fun k => by unfold inG; split <;> omega)
      have hgk : k ≤ to → _ := fun q : k ≤ to => hg k.toNat (by omega)
      refine v_iload dX8_isLittle_20 rfl ?_
      refine v_iload_n dX8_isLittle_22 rfl rfl ?_
      refine v_icmp_gt (tgt := 57) dX8_isLittle_23 (by decide) (fun hc_23 => ?_) (fun hc_23 => ?_)
      · refine v_iload_n dX8_isLittle_57 rfl rfl ?_
        refine v_if_eq (tgt := 71) dX8_isLittle_58 (by decide) (fun hc_58 => ?_) (fun hc_58 => ?_)
        · refine v_iconst dX8_isLittle_71 (by decide) ?_
          refine v_istore_n (ls' := [_, _, _, _, _, _, _]) dX8_isLittle_72 rfl rfl rfl rfl ?_
          refine v_iinc (ls' := [_, _, _, _, _, _, _]) dX8_isLittle_73 rfl (fun hi_73 => by omega) rfl rfl ?_
          refine v_goto (tgt := 5) dX8_isLittle_76 (by decide) ?_
          refine v_kill (ls' := [_, _, _, _, _, _, _]) 5 rfl ?_
          refine v_kill (ls' := [_, _, _, _, _, _, _]) 6 rfl ?_
          have ek : k.toNat = (to + 1).toNat := by omega
          rw [ek] at hcc
          first
            | (refine ih hal 0 (Or.inr ⟨rfl, fun q => ?_⟩)
               first
                 | (have h9 := q a.toNat (by omega); omega)
                 | exact (hd.resolve_left (fun q => by omega)).2 (fun x hx => q x (by omega)))
            | (refine ih hal 1 (Or.inl ⟨rfl, fun x hx => ?_⟩)
               by_cases ex : x = a.toNat
               · rw [ex]; omega
               · exact (hd.resolve_right (fun q => by omega)).2 x (by omega))
        · refine v_iload dX8_isLittle_61 rfl ?_
          refine v_iload_n dX8_isLittle_63 rfl rfl ?_
          refine v_icmp_gt (tgt := 71) dX8_isLittle_64 (by decide) (fun hc_64 => ?_) (fun hc_64 => ?_)
          · refine v_iconst dX8_isLittle_71 (by decide) ?_
            refine v_istore_n (ls' := [_, _, _, _, _, _, _]) dX8_isLittle_72 rfl rfl rfl rfl ?_
            refine v_iinc (ls' := [_, _, _, _, _, _, _]) dX8_isLittle_73 rfl (fun hi_73 => by omega) rfl rfl ?_
            refine v_goto (tgt := 5) dX8_isLittle_76 (by decide) ?_
            refine v_kill (ls' := [_, _, _, _, _, _, _]) 5 rfl ?_
            refine v_kill (ls' := [_, _, _, _, _, _, _]) 6 rfl ?_
            have ek : k.toNat = (to + 1).toNat := by omega
            rw [ek] at hcc
            first
              | (refine ih hal 0 (Or.inr ⟨rfl, fun q => ?_⟩)
                 first
                   | (have h9 := q a.toNat (by omega); omega)
                   | exact (hd.resolve_left (fun q => by omega)).2 (fun x hx => q x (by omega)))
              | (refine ih hal 1 (Or.inl ⟨rfl, fun x hx => ?_⟩)
                 by_cases ex : x = a.toNat
                 · rw [ex]; omega
                 · exact (hd.resolve_right (fun q => by omega)).2 x (by omega))
          · refine v_iconst dX8_isLittle_67 (by decide) ?_
            refine v_goto (tgt := 72) dX8_isLittle_68 (by decide) ?_
            refine v_istore_n (ls' := [_, _, _, _, _, _, _]) dX8_isLittle_72 rfl rfl rfl rfl ?_
            refine v_iinc (ls' := [_, _, _, _, _, _, _]) dX8_isLittle_73 rfl (fun hi_73 => by omega) rfl rfl ?_
            refine v_goto (tgt := 5) dX8_isLittle_76 (by decide) ?_
            refine v_kill (ls' := [_, _, _, _, _, _, _]) 5 rfl ?_
            refine v_kill (ls' := [_, _, _, _, _, _, _]) 6 rfl ?_
            have ek : k.toNat = (to + 1).toNat := by omega
            rw [ek] at hcc
            first
              | (refine ih hal 0 (Or.inr ⟨rfl, fun q => ?_⟩)
                 first
                   | (have h9 := q a.toNat (by omega); omega)
                   | exact (hd.resolve_left (fun q => by omega)).2 (fun x hx => q x (by omega)))
              | (refine ih hal 1 (Or.inl ⟨rfl, fun x hx => ?_⟩)
                 by_cases ex : x = a.toNat
                 · rw [ex]; omega
                 · exact (hd.resolve_right (fun q => by omega)).2 x (by omega))
      · refine v_iload dX8_isLittle_26 rfl ?_
        refine v_aload_n dX8_isLittle_28 rfl rfl ?_
        refine v_getR dX8_isLittle_29 fX8_101 rfl rfl rfl ?_
        refine v_iload dX8_isLittle_32 rfl ?_
        refine v_iald dX8_isLittle_34 rfl (by omega) (by omega) ?_
        rw [(hgk (by omega)).1]
        refine v_iload dX8_isLittle_35 rfl ?_
        refine v_callSi [_, _] dX8_isLittle_37 lX8_252 ksX8_has (plX8 _ _) (Or.inr rfl) rfl rfl rfl rfl rfl rfl (c_X8_has (by omega) (by omega) (by omega) ?_)
        refine v_ifb_eq (tgt := 47) dX8_isLittle_40 (by decide) (fun hc_40 => ?_) (fun hc_40 => ?_)
        · refine v_iconst dX8_isLittle_47 (by decide) ?_
          refine v_iadd dX8_isLittle_48 (fun ha hb => by omega) ?_
          refine v_istore (ls' := [_, _, _, _, _, _, _]) dX8_isLittle_49 rfl rfl rfl ?_
          refine v_iinc (ls' := [_, _, _, _, _, _, _]) dX8_isLittle_51 rfl (fun hi_51 => by omega) rfl rfl ?_
          refine v_goto (tgt := 20) dX8_isLittle_54 (by decide) ?_
          first
            | exact ihk (by omega) _ (smS k0 hcc (by unfold inG; rw [if_pos (by simpa using hc_40)]))
            | exact ihk (by omega) _ (smS k0 hcc (by unfold inG; rw [if_neg (by simpa using hc_40)]))
        · refine v_iconst dX8_isLittle_43 (by decide) ?_
          refine v_goto (tgt := 48) dX8_isLittle_44 (by decide) ?_
          refine v_iadd dX8_isLittle_48 (fun ha hb => by omega) ?_
          refine v_istore (ls' := [_, _, _, _, _, _, _]) dX8_isLittle_49 rfl rfl rfl ?_
          refine v_iinc (ls' := [_, _, _, _, _, _, _]) dX8_isLittle_51 rfl (fun hi_51 => by omega) rfl rfl ?_
          refine v_goto (tgt := 20) dX8_isLittle_54 (by decide) ?_
          first
            | exact ihk (by omega) _ (smS k0 hcc (by unfold inG; rw [if_pos (by simpa using hc_40)]))
            | exact ihk (by omega) _ (smS k0 hcc (by unfold inG; rw [if_neg (by simpa using hc_40)]))
    refine v_iload dX8_isLittle_5 rfl ?_
    refine v_aload_n dX8_isLittle_7 rfl rfl ?_
    refine v_getI dX8_isLittle_8 fX8_180 rfl rfl rfl ?_
    refine v_icmp_ge (tgt := 79) dX8_isLittle_11 (by decide) (fun hc_11 => ?_) (fun hc_11 => ?_)
    · refine v_iload_n dX8_isLittle_79 rfl rfl ?_
      refine v_zreturn dX8_isLittle_80 rfl (by first | exact Or.inl rfl | exact Or.inr rfl | exact b2i_01 _ | assumption) ?_
      rw [show a = nH by omega] at hd
      rcases hd with ⟨q1, q2⟩ | ⟨q1, q2⟩
      · rw [q1]; exact h1 q2
      · rw [q1]; exact h0 q2
    · refine v_iconst dX8_isLittle_14 (by decide) ?_
      refine v_istore (ls' := [_, _, _, _, _, _, _]) dX8_isLittle_15 rfl rfl rfl ?_
      refine v_iconst dX8_isLittle_17 (by decide) ?_
      refine v_istore (ls' := [_, _, _, _, _, _, _]) dX8_isLittle_18 rfl rfl rfl ?_
      exact inner (by omega) 0 (by omega) (by omega) 0 rfl
  refine v_iconst dX8_isLittle_0 (by decide) ?_
  refine v_istore_n (ls' := [_, _, _, _, _, _, _]) dX8_isLittle_1 rfl rfl rfl rfl ?_
  refine v_iconst dX8_isLittle_2 (by decide) ?_
  refine v_istore (ls' := [_, _, _, _, _, _, _]) dX8_isLittle_3 rfl rfl rfl ?_
  exact lp 0 (by omega) (by omega) 1 (Or.inl ⟨rfl, fun x hx => by omega⟩)
end
