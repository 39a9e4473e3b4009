/-! a ring that is lost -/
def rkN (μ : Mem_) (h : Nat) : Nat := cntB 32 (cfN μ (2 ^ h))
/-- h stands ahead of g -/
abbrev ahC (μ : Mem_) (h g : Nat) : Prop := rkN μ g < rkN μ h ∨ (rkN μ g = rkN μ h ∧ (μ (stc μ + 1) h < μ (stc μ + 1) g ∨ (μ (stc μ + 1) h = μ (stc μ + 1) g ∧ h < g)))
theorem ahC_as {μ : Mem_} {h g : Nat} (h1 : ahC μ h g) (h2 : ahC μ g h) : False := by
  unfold ahC at h1 h2
  omega
theorem ahC_tr {μ : Mem_} {a b c : Nat} (h1 : ahC μ a b) (h2 : ahC μ b c) : ahC μ a c := by
  unfold ahC at h1 h2 ⊢
  omega
theorem cntB_pos {n s i : Nat} (hi : i < n) (h : s.testBit i = true) : 0 < cntB n s := by
  induction n with
  | zero => omega
  | succ n ih =>
    rw [cntB]
    rcases Nat.lt_or_ge i n with q | q
    · have := ih q; omega
    · have : i = n := by omega
      subst this
      rw [if_pos h]
      omega
theorem cntB_le (n s : Nat) : cntB n s ≤ n := by
  induction n with
  | zero => exact Nat.le_refl _
  | succ n ih => rw [cntB]; split <;> omega
theorem rk_pos {μ : Mem_} {h : Nat} (hh : h < 6) : 0 < rkN μ h := cntB_pos (i := h) (by omega) (sb_l _ _ h (by rw [Nat.testBit_two_pow_self]))
section
variable {μ : Mem_} {Q : PV → Mem_ → Prop}
set_option maxRecDepth 10000 in
theorem c_X7_riskiest {s : Nat} (hst : isSt (stc μ)) (hs : StC μ (stc μ)) (hre : ReOK μ) (hs6 : s < 2 ^ 6) (hne : ∃ h : Nat, (h : Int) < μ (stc μ) 0 ∧ s.testBit h = true) (hq : ∀ b : Nat, (b : Int) < μ (stc μ) 0 → s.testBit b = true → (∀ g : Nat, (g : Int) < μ (stc μ) 0 → s.testBit g = true → g ≠ b → ahC μ b g) → Q (I_ (b : Int)) μ) : V_ nX7_riskiest 0 [R_ 0, I_ (s : Int), U_, U_, U_, U_, U_] [] μ Q := by
  have hs1 := hs.1
  have lp : ∀ k : Int, 0 ≤ k → k ≤ μ (stc μ) 0 → ∀ best risk : Int, ((best = -9 ∧ risk = 0 ∧ ∀ g : Nat, (g : Int) < k → ¬ s.testBit g = true) ∨ (0 ≤ best ∧ best < k ∧ s.testBit best.toNat = true ∧ risk = (rkN μ best.toNat : Int) ∧ ∀ g : Nat, (g : Int) < k → s.testBit g = true → g ≠ best.toNat → ahC μ best.toNat g)) → V_ nX7_riskiest 8 [R_ 0, I_ (s : Int), I_ best, I_ risk, I_ k, U_, U_] [] μ Q := by
    refine loop_up _ (fun k h0 h1 ih => ?_)
    intro best risk hb
    have g1 : k < μ (stc μ) 0 → 2 ^ k.toNat < 2 ^ 6 := fun q => Nat.pow_lt_pow_right (by omega) (by omega)
    have g2 : k < μ (stc μ) 0 → cfN μ (2 ^ k.toNat) < 2 ^ 6 := fun q => cfN_lt hre (g1 q)
    have g3 : k < μ (stc μ) 0 → 0 < rkN μ k.toNat := fun q => rk_pos (by omega)
    have e1 : k < μ (stc μ) 0 → coC μ (stc μ) k = μ (stc μ + 1) k.toNat := fun q => if_pos (by omega)
    have e2 : 0 ≤ best ∧ best < k → coC μ (stc μ) best = μ (stc μ + 1) best.toNat := fun q => if_pos (by omega)
    have keep : k < μ (stc μ) 0 → (¬ s.testBit k.toNat = true ∨ (best ≠ -9 ∧ ahC μ best.toNat k.toNat)) → V_ nX7_riskiest 101 [R_ 0, I_ (s : Int), I_ best, I_ risk, I_ k, U_, U_] [] μ Q := by
      intro hk hh
      refine v_iinc (ls' := [_, _, _, _, _, _, _]) dX7_riskiest_101 rfl (fun hi_101 => by omega) rfl rfl ?_
      refine v_goto (tgt := 8) dX7_riskiest_104 (by decide) ?_
      refine ih hk best risk ?_
      rcases hb with ⟨q1, q2, q3⟩ | ⟨q1, q2, q3, q4, q5⟩
      · refine Or.inl ⟨q1, q2, fun g hg => ?_⟩
        by_cases e : g = k.toNat
        · subst e
          rcases hh with hh | hh
          · exact hh
          · exact absurd q1 hh.1
        · exact q3 g (by omega)
      · refine Or.inr ⟨q1, by omega, q3, q4, fun g hg hgs hgb => ?_⟩
        by_cases e : g = k.toNat
        · subst e
          rcases hh with hh | hh
          · exact absurd hgs hh
          · exact hh.2
        · exact q5 g (by omega) hgs hgb
    have take : k < μ (stc μ) 0 → s.testBit k.toNat = true → (best = -9 ∨ ahC μ k.toNat best.toNat) → V_ nX7_riskiest 101 [R_ 0, I_ (s : Int), I_ k, I_ (rkN μ k.toNat : Int), I_ k, U_, U_] [] μ Q := by
      intro hk hks hh
      refine v_iinc (ls' := [_, _, _, _, _, _, _]) dX7_riskiest_101 rfl (fun hi_101 => by omega) rfl rfl ?_
      refine v_goto (tgt := 8) dX7_riskiest_104 (by decide) ?_
      refine ih hk k _ (Or.inr ⟨h0, by omega, hks, rfl, fun g hg hgs hgb => ?_⟩)
      rcases hb with ⟨q1, q2, q3⟩ | ⟨q1, q2, q3, q4, q5⟩
      · exact absurd hgs (q3 g (by omega))
      · rcases hh with hh | hh
        · omega
        · by_cases e : g = best.toNat
          · subst e; exact hh
          · exact ahC_tr hh (q5 g (by omega) hgs e)
    have er : ((rkN μ k.toNat : Nat) : Int) = ((cntB 32 (cfN μ (2 ^ k.toNat)) : Nat) : Int) := rfl
    refine v_iload dX7_riskiest_8 rfl ?_
    refine v_aload_n dX7_riskiest_10 rfl rfl ?_
    refine v_getX dX7_riskiest_11 fX7_66 rfl rfl rfl ?_
    show V_ _ _ _ (R_ (stc _) :: _) _ _
    refine v_getI dX7_riskiest_14 fX7_153 (shp_st hst) (fk_st0 hst) rfl ?_
    refine v_icmp_ge (tgt := 107) dX7_riskiest_17 (by decide) (fun hc_17 => ?_) (fun hc_17 => ?_)
    · refine v_iload_n dX7_riskiest_107 rfl rfl ?_
      refine v_bipush dX7_riskiest_108 (by decide) ?_
      refine v_icmp_ne (tgt := 117) dX7_riskiest_110 (by decide) (fun hc_110 => ?_) (fun hc_110 => ?_)
      · refine v_iload_n dX7_riskiest_117 rfl rfl ?_
        refine v_ireturn dX7_riskiest_118 rfl ?_
        rcases hb with ⟨q1, q2, q3⟩ | ⟨q1, q2, q3, q4, q5⟩
        · omega
        · have := hq best.toNat (by omega) q3 (fun g hg hgs hgb => q5 g (by omega) hgs hgb)
          rwa [show ((best.toNat : Nat) : Int) = best by omega] at this
      · refine v_iconst dX7_riskiest_113 (by decide) ?_
        refine v_goto (tgt := 118) dX7_riskiest_114 (by decide) ?_
        refine v_ireturn dX7_riskiest_118 rfl ?_
        rcases hb with ⟨q1, q2, q3⟩ | ⟨q1, q2, q3, q4, q5⟩
        · obtain ⟨h, e3, e4⟩ := hne
          exact absurd e4 (q3 h (by omega))
        · omega
    · refine v_iload_n dX7_riskiest_20 rfl rfl ?_
      refine v_iload dX7_riskiest_21 rfl ?_
      refine v_callSi [_, _] dX7_riskiest_23 lX7_223 ksX7_has (plX7 _ _) (Or.inr rfl) rfl rfl rfl rfl rfl rfl (c_X7_has (by omega) (by omega) (by omega) ?_)
      skip
      refine v_ifb_eq (tgt := 101) dX7_riskiest_26 (by decide) (fun hc_26 => ?_) (fun hc_26 => ?_)
      · refine v_kill (ls' := [_, _, _, _, _, _, _]) 5 rfl ?_
        refine v_kill (ls' := [_, _, _, _, _, _, _]) 6 rfl ?_
        first
          | exact keep (by omega) (Or.inl (by simpa using hc_26))
          | (exfalso; omega)
          | exact take (by omega) hks (by unfold ahC; rcases hb with hb | hb <;> omega)
          | exact keep (by omega) (Or.inr (by unfold ahC; rcases hb with hb | hb <;> omega))
      · have g1 := g1 (by omega)
        have g2 := g2 (by omega)
        have g3 := g3 (by omega)
        have hks : s.testBit k.toNat = true := by simpa using hc_26
        refine v_aload_n dX7_riskiest_29 rfl rfl ?_
        refine v_getR dX7_riskiest_30 fX7_34 rfl rfl rfl ?_
        refine v_iconst dX7_riskiest_33 (by decide) ?_
        refine v_iload dX7_riskiest_34 rfl ?_
        refine v_ishl dX7_riskiest_36 ?_
        rw [bShl_one (by omega) (by omega)]
        refine v_callVi [_] dX7_riskiest_37 lX7_258 kvX2_comesFrom (plX2 _ _) (Or.inl rfl) rfl rfl rfl rfl rfl rfl rfl rfl rfl (c_X2_comesFromN (by omega) hre ?_)
        refine v_callSi [_] dX7_riskiest_40 lX7_298 ksJ6_bitCount_0f7a4 plJ6b (Or.inl rfl) rfl rfl rfl rfl rfl rfl (c_J6_bitCount (by omega) (by omega) ?_)
        rw [Int.toNat_natCast, ← er]
        refine v_istore (ls' := [_, _, _, _, _, _, _]) dX7_riskiest_43 rfl rfl rfl ?_
        refine v_iload_n dX7_riskiest_45 rfl rfl ?_
        refine v_bipush dX7_riskiest_46 (by decide) ?_
        refine v_icmp_eq (tgt := 71) dX7_riskiest_48 (by decide) (fun hc_48 => ?_) (fun hc_48 => ?_)
        · refine v_iconst dX7_riskiest_71 (by decide) ?_
          refine v_goto (tgt := 76) dX7_riskiest_72 (by decide) ?_
          refine v_istore (ls' := [_, _, _, _, _, _, _]) dX7_riskiest_76 rfl rfl rfl ?_
          refine v_iload dX7_riskiest_78 rfl ?_
          refine v_iload_n dX7_riskiest_80 rfl rfl ?_
          refine v_icmp_gt (tgt := 95) dX7_riskiest_81 (by decide) (fun hc_81 => ?_) (fun hc_81 => ?_)
          · refine v_iload dX7_riskiest_95 rfl ?_
            refine v_istore_n (ls' := [_, _, _, _, _, _, _]) dX7_riskiest_97 rfl rfl rfl rfl ?_
            refine v_iload dX7_riskiest_98 rfl ?_
            refine v_istore_n (ls' := [_, _, _, _, _, _, _]) dX7_riskiest_100 rfl rfl rfl rfl ?_
            refine v_kill (ls' := [_, _, _, _, _, _, _]) 5 rfl ?_
            refine v_kill (ls' := [_, _, _, _, _, _, _]) 6 rfl ?_
            first
              | exact keep (by omega) (Or.inl (by simpa using hc_26))
              | (exfalso; omega)
              | exact take (by omega) hks (by unfold ahC; rcases hb with hb | hb <;> omega)
              | exact keep (by omega) (Or.inr (by unfold ahC; rcases hb with hb | hb <;> omega))
          · refine v_iload dX7_riskiest_84 rfl ?_
            refine v_iload_n dX7_riskiest_86 rfl rfl ?_
            refine v_icmp_ne (tgt := 101) dX7_riskiest_87 (by decide) (fun hc_87 => ?_) (fun hc_87 => ?_)
            · refine v_kill (ls' := [_, _, _, _, _, _, _]) 5 rfl ?_
              refine v_kill (ls' := [_, _, _, _, _, _, _]) 6 rfl ?_
              first
                | exact keep (by omega) (Or.inl (by simpa using hc_26))
                | (exfalso; omega)
                | exact take (by omega) hks (by unfold ahC; rcases hb with hb | hb <;> omega)
                | exact keep (by omega) (Or.inr (by unfold ahC; rcases hb with hb | hb <;> omega))
            · refine v_iload dX7_riskiest_90 rfl ?_
              refine v_if_eq (tgt := 101) dX7_riskiest_92 (by decide) (fun q => absurd q (by decide)) (fun _ => ?_)
              refine v_iload dX7_riskiest_95 rfl ?_
              refine v_istore_n (ls' := [_, _, _, _, _, _, _]) dX7_riskiest_97 rfl rfl rfl rfl ?_
              refine v_iload dX7_riskiest_98 rfl ?_
              refine v_istore_n (ls' := [_, _, _, _, _, _, _]) dX7_riskiest_100 rfl rfl rfl rfl ?_
              refine v_kill (ls' := [_, _, _, _, _, _, _]) 5 rfl ?_
              refine v_kill (ls' := [_, _, _, _, _, _, _]) 6 rfl ?_
              first
                | exact keep (by omega) (Or.inl (by simpa using hc_26))
                | (exfalso; omega)
                | exact take (by omega) hks (by unfold ahC; rcases hb with hb | hb <;> omega)
                | exact keep (by omega) (Or.inr (by unfold ahC; rcases hb with hb | hb <;> omega))
        · refine v_aload_n dX7_riskiest_51 rfl rfl ?_
          refine v_getX dX7_riskiest_52 fX7_66 rfl rfl rfl ?_
          show V_ _ _ _ (R_ (stc _) :: _) _ _
          refine v_iload dX7_riskiest_55 rfl ?_
          refine v_callVi [_] dX7_riskiest_57 lX7_306 kvX5_costOf (plX5 _ _) (Or.inl rfl) (shp_st hst) rfl rfl rfl rfl rfl rfl rfl rfl (c_X5_costOf hst (by omega) ?_)
          rw [e1 (by omega)]
          refine v_aload_n dX7_riskiest_60 rfl rfl ?_
          refine v_getX dX7_riskiest_61 fX7_66 rfl rfl rfl ?_
          show V_ _ _ _ (R_ (stc _) :: _) _ _
          refine v_iload_n dX7_riskiest_64 rfl rfl ?_
          refine v_callVi [_] dX7_riskiest_65 lX7_306 kvX5_costOf (plX5 _ _) (Or.inl rfl) (shp_st hst) rfl rfl rfl rfl rfl rfl rfl rfl (c_X5_costOf hst (by omega) ?_)
          rw [e2 (by omega)]
          refine v_icmp_ge (tgt := 75) dX7_riskiest_68 (by decide) (fun hc_68 => ?_) (fun hc_68 => ?_)
          · refine v_iconst dX7_riskiest_75 (by decide) ?_
            refine v_istore (ls' := [_, _, _, _, _, _, _]) dX7_riskiest_76 rfl rfl rfl ?_
            refine v_iload dX7_riskiest_78 rfl ?_
            refine v_iload_n dX7_riskiest_80 rfl rfl ?_
            refine v_icmp_gt (tgt := 95) dX7_riskiest_81 (by decide) (fun hc_81 => ?_) (fun hc_81 => ?_)
            · refine v_iload dX7_riskiest_95 rfl ?_
              refine v_istore_n (ls' := [_, _, _, _, _, _, _]) dX7_riskiest_97 rfl rfl rfl rfl ?_
              refine v_iload dX7_riskiest_98 rfl ?_
              refine v_istore_n (ls' := [_, _, _, _, _, _, _]) dX7_riskiest_100 rfl rfl rfl rfl ?_
              refine v_kill (ls' := [_, _, _, _, _, _, _]) 5 rfl ?_
              refine v_kill (ls' := [_, _, _, _, _, _, _]) 6 rfl ?_
              first
                | exact keep (by omega) (Or.inl (by simpa using hc_26))
                | (exfalso; omega)
                | exact take (by omega) hks (by unfold ahC; rcases hb with hb | hb <;> omega)
                | exact keep (by omega) (Or.inr (by unfold ahC; rcases hb with hb | hb <;> omega))
            · refine v_iload dX7_riskiest_84 rfl ?_
              refine v_iload_n dX7_riskiest_86 rfl rfl ?_
              refine v_icmp_ne (tgt := 101) dX7_riskiest_87 (by decide) (fun hc_87 => ?_) (fun hc_87 => ?_)
              · refine v_kill (ls' := [_, _, _, _, _, _, _]) 5 rfl ?_
                refine v_kill (ls' := [_, _, _, _, _, _, _]) 6 rfl ?_
                first
                  | exact keep (by omega) (Or.inl (by simpa using hc_26))
                  | (exfalso; omega)
                  | exact take (by omega) hks (by unfold ahC; rcases hb with hb | hb <;> omega)
                  | exact keep (by omega) (Or.inr (by unfold ahC; rcases hb with hb | hb <;> omega))
              · refine v_iload dX7_riskiest_90 rfl ?_
                refine v_if_eq (tgt := 101) dX7_riskiest_92 (by decide) (fun _ => ?_) (fun q => absurd (by decide) q)
                refine v_kill (ls' := [_, _, _, _, _, _, _]) 5 rfl ?_
                refine v_kill (ls' := [_, _, _, _, _, _, _]) 6 rfl ?_
                first
                  | exact keep (by omega) (Or.inl (by simpa using hc_26))
                  | (exfalso; omega)
                  | exact take (by omega) hks (by unfold ahC; rcases hb with hb | hb <;> omega)
                  | exact keep (by omega) (Or.inr (by unfold ahC; rcases hb with hb | hb <;> omega))
          · refine v_iconst dX7_riskiest_71 (by decide) ?_
            refine v_goto (tgt := 76) dX7_riskiest_72 (by decide) ?_
            refine v_istore (ls' := [_, _, _, _, _, _, _]) dX7_riskiest_76 rfl rfl rfl ?_
            refine v_iload dX7_riskiest_78 rfl ?_
            refine v_iload_n dX7_riskiest_80 rfl rfl ?_
            refine v_icmp_gt (tgt := 95) dX7_riskiest_81 (by decide) (fun hc_81 => ?_) (fun hc_81 => ?_)
            · refine v_iload dX7_riskiest_95 rfl ?_
              refine v_istore_n (ls' := [_, _, _, _, _, _, _]) dX7_riskiest_97 rfl rfl rfl rfl ?_
              refine v_iload dX7_riskiest_98 rfl ?_
              refine v_istore_n (ls' := [_, _, _, _, _, _, _]) dX7_riskiest_100 rfl rfl rfl rfl ?_
              refine v_kill (ls' := [_, _, _, _, _, _, _]) 5 rfl ?_
              refine v_kill (ls' := [_, _, _, _, _, _, _]) 6 rfl ?_
              first
                | exact keep (by omega) (Or.inl (by simpa using hc_26))
                | (exfalso; omega)
                | exact take (by omega) hks (by unfold ahC; rcases hb with hb | hb <;> omega)
                | exact keep (by omega) (Or.inr (by unfold ahC; rcases hb with hb | hb <;> omega))
            · refine v_iload dX7_riskiest_84 rfl ?_
              refine v_iload_n dX7_riskiest_86 rfl rfl ?_
              refine v_icmp_ne (tgt := 101) dX7_riskiest_87 (by decide) (fun hc_87 => ?_) (fun hc_87 => ?_)
              · refine v_kill (ls' := [_, _, _, _, _, _, _]) 5 rfl ?_
                refine v_kill (ls' := [_, _, _, _, _, _, _]) 6 rfl ?_
                first
                  | exact keep (by omega) (Or.inl (by simpa using hc_26))
                  | (exfalso; omega)
                  | exact take (by omega) hks (by unfold ahC; rcases hb with hb | hb <;> omega)
                  | exact keep (by omega) (Or.inr (by unfold ahC; rcases hb with hb | hb <;> omega))
              · refine v_iload dX7_riskiest_90 rfl ?_
                refine v_if_eq (tgt := 101) dX7_riskiest_92 (by decide) (fun q => absurd q (by decide)) (fun _ => ?_)
                refine v_iload dX7_riskiest_95 rfl ?_
                refine v_istore_n (ls' := [_, _, _, _, _, _, _]) dX7_riskiest_97 rfl rfl rfl rfl ?_
                refine v_iload dX7_riskiest_98 rfl ?_
                refine v_istore_n (ls' := [_, _, _, _, _, _, _]) dX7_riskiest_100 rfl rfl rfl rfl ?_
                refine v_kill (ls' := [_, _, _, _, _, _, _]) 5 rfl ?_
                refine v_kill (ls' := [_, _, _, _, _, _, _]) 6 rfl ?_
                first
                  | exact keep (by omega) (Or.inl (by simpa using hc_26))
                  | (exfalso; omega)
                  | exact take (by omega) hks (by unfold ahC; rcases hb with hb | hb <;> omega)
                  | exact keep (by omega) (Or.inr (by unfold ahC; rcases hb with hb | hb <;> omega))
  refine v_bipush dX7_riskiest_0 (by decide) ?_
  refine v_istore_n (ls' := [_, _, _, _, _, _, _]) dX7_riskiest_2 rfl rfl rfl rfl ?_
  refine v_iconst dX7_riskiest_3 (by decide) ?_
  refine v_istore_n (ls' := [_, _, _, _, _, _, _]) dX7_riskiest_4 rfl rfl rfl rfl ?_
  refine v_iconst dX7_riskiest_5 (by decide) ?_
  refine v_istore (ls' := [_, _, _, _, _, _, _]) dX7_riskiest_6 rfl rfl rfl ?_
  exact lp 0 (by omega) (by omega) (-9) 0 (Or.inl ⟨rfl, rfl, fun g hg => absurd hg (by omega)⟩)
end
def agP (m μ : Mem_) : Prop := ∀ o, (o = 0 ∨ 7 ≤ o) → ∀ i, m o i = μ o i
theorem agP.st {m μ : Mem_} (h : agP m μ) : stc m = stc μ := by unfold stc; rw [h 0 (Or.inl rfl)]
theorem agP.cf {m μ : Mem_} (h : agP m μ) (s : Nat) : cfN m s = cfN μ s := by
  unfold cfN cfC
  simp only [fun i => h 25 (Or.inr (by omega)) i]
theorem agP.op {m μ : Mem_} (h : agP m μ) (a b : Int) : opensC m a b = opensC μ a b := by
  unfold opensC opF liveC
  simp only [fun i => h 17 (Or.inr (by omega)) i, fun i => h 18 (Or.inr (by omega)) i, fun i => h 19 (Or.inr (by omega)) i, fun i => h 20 (Or.inr (by omega)) i, fun i => h 21 (Or.inr (by omega)) i, fun i => h 23 (Or.inr (by omega)) i]
theorem agP.re {m μ : Mem_} (h : agP m μ) (hr : ReOK μ) : ReOK m := by
  intro k hk
  have e : insC m = insC μ := by funext a; exact h.op 2 a
  rw [h 25 (Or.inr (by omega)), e]
  exact hr k hk
theorem agP.sc {m μ : Mem_} (h : agP m μ) (hst : isSt (stc μ)) (hs : StC μ (stc μ)) : StC m (stc m) := by
  have h7 : 7 ≤ stc μ := by omega
  rw [h.st]
  unfold StC
  simp only [fun i => h (stc μ) (Or.inr (by omega)) i, fun i => h (stc μ + 1) (Or.inr (by omega)) i, fun i => h (stc μ + 2) (Or.inr (by omega)) i, fun i => h (stc μ + 3) (Or.inr (by omega)) i]
  exact hs
theorem agP.ah {m μ : Mem_} (h : agP m μ) (hst : isSt (stc μ)) (a b : Nat) : ahC m a b ↔ ahC μ a b := by
  unfold ahC rkN
  rw [h.cf, h.cf, h.st, h _ (Or.inr (by omega)), h _ (Or.inr (by omega))]
def rnC (μ : Mem_) (op : Nat) (h : Nat) : Int := smR (μ (stc μ) 0).toNat (fun k => b2i (op.testBit k = true ∧ k ≠ h ∧ ahC μ k h))
theorem smR_add {n : Nat} {f g : Nat → Int} {b : Nat} {d : Int} (hb : b < n) (h1 : g b = f b + d) (h2 : ∀ k, k < n → k ≠ b → g k = f k) : smR n g = smR n f + d := by
  induction n with
  | zero => omega
  | succ n ih =>
    rw [smR, smR]
    rcases Nat.lt_or_ge b n with q | q
    · rw [ih q (fun k hk hne => h2 k (by omega) hne), h2 n (by omega) (by omega)]
      omega
    · have : b = n := by omega
      subst this
      rw [h1, smR_congr (fun k hk => h2 k (by omega) (by omega))]
      omega
theorem smR_le {n : Nat} {f g : Nat → Int} (h : ∀ k, k < n → f k ≤ g k) : smR n f ≤ smR n g := by
  induction n with
  | zero => exact Int.le_refl _
  | succ n ih => rw [smR, smR]; have := ih (fun k hk => h k (by omega)); have := h n (by omega); omega
theorem cntB_sm {n m s : Nat} (h : s < 2 ^ n) (hn : n ≤ m) : (cntB m s : Int) = smR n (fun k => b2i (s.testBit k = true)) := by
  have e : ∀ m, n ≤ m → cntB m s = cntB n s := by
    intro m
    induction m with
    | zero => intro q; have : n = 0 := by omega
              rw [this]
    | succ m ih =>
      intro q
      rcases Nat.lt_or_ge n (m + 1) with q2 | q2
      · have hb : s.testBit m = false := Nat.testBit_lt_two_pow (Nat.lt_of_lt_of_le h (Nat.pow_le_pow_right (by omega) (by omega)))
        rw [cntB, ih (by omega), hb]
        simp
      · rw [show m + 1 = n by omega]
  rw [e m hn]
  have e2 : ∀ j, (cntB j s : Int) = smR j (fun k => b2i (s.testBit k = true)) := by
    intro j
    induction j with
    | zero => rfl
    | succ j ih =>
      rw [cntB, smR, ← ih]
      split
      · rename_i q; rw [b2i_t q]; omega
      · rename_i q; rw [b2i_f q]; omega
  exact e2 n
theorem smR_b2i_full {n : Nat} {P : Nat → Prop} [DecidablePred P] {R : Nat → Prop} [DecidablePred R] (hs : ∀ k, k < n → R k → P k) (h : smR n (fun k => b2i (R k)) < smR n (fun k => b2i (P k))) : ∃ k, k < n ∧ P k ∧ ¬ R k := by
  by_cases q : ∃ k, k < n ∧ P k ∧ ¬ R k
  · exact q
  · exfalso
    have : smR n (fun k => b2i (P k)) ≤ smR n (fun k => b2i (R k)) := by
      refine smR_le (fun k hk => ?_)
      show b2i (P k) ≤ b2i (R k)
      by_cases hp : P k
      · by_cases hr : R k
        · rw [b2i_t hp, b2i_t hr]; omega
        · exact absurd ⟨k, hk, hp, hr⟩ q
      · rw [b2i_f hp]
        rcases b2i_01 (R k) with e | e <;> omega
    omega
section
variable {μ : Mem_} {Q : PV → Mem_ → Prop}
def loM (μ : Mem_) (r : Int) (op : Nat) (μ' : Mem_) : Prop := (∀ o i, o ≠ 2 → o ≠ 3 → μ' o i = μ o i) ∧ (∀ i, i ≠ r.toNat → μ' 2 i = μ 2 i) ∧ μ' 2 r.toNat = (cntB 32 op : Int) ∧ (∀ i : Nat, ¬ ((r * 40).toNat ≤ i ∧ i < (r * 40).toNat + cntB 32 op) → μ' 3 i = μ 3 i)
set_option maxRecDepth 10000 in
set_option maxHeartbeats 1000000 in
theorem c_X7_lost {p r : Int} (hst : isSt (stc μ)) (hs : StC μ (stc μ)) (hp : PIc μ) (hre : ReOK μ) (hk1 : ok_1 μ) (hop : opensC μ 0 p < 2 ^ (μ (stc μ) 0).toNat)
    (h1 : ¬ ((0 ≤ p ∧ p < μ (stc μ) 1) ∧ (0 ≤ r ∧ r < 6)) → Q (I_ (-1)) μ)
    (h2 : (0 ≤ p ∧ p < μ (stc μ) 1) → (0 ≤ r ∧ r < 6) → ∀ μ' : Mem_, loM μ r (opensC μ 0 p) μ' → (∀ h : Nat, h < (μ (stc μ) 0).toNat → (opensC μ 0 p).testBit h = true → μ' 3 ((r * 40).toNat + (rnC μ (opensC μ 0 p) h).toNat) = (h : Int)) → Q (I_ (cntB 32 (opensC μ 0 p) : Int)) (tlC μ' (smR (μ (stc μ) 0).toNat (fun h => if (opensC μ 0 p).testBit h = true then μ (stc μ + 1) h else 0)))) :
    V_ nX7_lost 0 [R_ 0, I_ p, I_ r, U_, U_, U_, U_, U_] [] μ Q := by
  have hs1 := hs.1
  have g1 := opens_lt hp 0 p
  generalize hopd : opensC μ 0 p = op at *
  have hcn : cntB 32 op ≤ 6 := by
    have := cntB_sm (m := 32) hop (by omega)
    have h6 : smR (μ (stc μ) 0).toNat (fun k => b2i (op.testBit k = true)) ≤ smR (μ (stc μ) 0).toNat (fun _ => 1) := smR_le (fun k _ => by rcases b2i_01 (op.testBit k = true) with e | e <;> omega)
    have h7 : ∀ n : Nat, smR n (fun _ => 1) = n := by
      intro n
      induction n with
      | zero => rfl
      | succ n ih => rw [smR, ih]; omega
    rw [h7] at h6
    omega
  have hcs := cntB_sm (m := 32) hop (by omega)
  have lp : (0 ≤ p ∧ p < μ (stc μ) 1) → (0 ≤ r ∧ r < 6) → ∀ i : Int, 0 ≤ i → i ≤ (cntB 32 op : Int) → ∀ (m : Mem_) (S : Nat) (cost : Int), loM μ r op m → S < 2 ^ (μ (stc μ) 0).toNat → sb S op → i = smR (μ (stc μ) 0).toNat (fun k => b2i (op.testBit k = true ∧ ¬ S.testBit k = true)) → (∀ x y : Nat, op.testBit x = true → ¬ S.testBit x = true → S.testBit y = true → ahC μ x y) → cost = smR (μ (stc μ) 0).toNat (fun h => if op.testBit h = true ∧ ¬ S.testBit h = true then μ (stc μ + 1) h else 0) → 0 ≤ cost ∧ cost ≤ 99 * i → (∀ h : Nat, h < (μ (stc μ) 0).toNat → op.testBit h = true → ¬ S.testBit h = true → m 3 ((r * 40).toNat + (rnC μ op h).toNat) = (h : Int) ∧ 0 ≤ rnC μ op h ∧ rnC μ op h < i) → V_ nX7_lost 54 [R_ 0, I_ p, I_ r, I_ (S : Int), I_ (cntB 32 op : Int), I_ cost, I_ i, U_] [] m Q := by
    intro p1 p2
    refine loop_up _ (fun i h0 hi1 ih => ?_)
    intro m S cost hm hS hSo hi hP hc hcb hrow
    have hag : agP m μ := fun o ho i => hm.1 o i (by omega) (by omega)
    have hmst := hag.st
    have hst2 := hst
    rw [← hmst] at hst
    have hs' := hag.sc hst2 hs
    have hre' := hag.re hre
    have hS6 : S < 2 ^ 6 := Nat.lt_of_lt_of_le hS (Nat.pow_le_pow_right (by omega) (by omega))
    have hnH : m (stc m) 0 = μ (stc μ) 0 := by rw [hmst]; exact hag _ (Or.inr (by omega)) 0
    have hsz : sz_1 m r = (cntB 32 op : Int) := by rw [sze_1 (by omega)]; exact hm.2.2.1
    have hkm : ok_1 m := by
      intro q hq
      by_cases e : q = r.toNat
      · subst e; rw [hm.2.2.1]; omega
      · rw [hm.2.1 q e]; exact hk1 q hq
    have hne : i < (cntB 32 op : Int) → ∃ h : Nat, (h : Int) < m (stc m) 0 ∧ S.testBit h = true := by
      intro q
      rw [hcs, hi] at q
      obtain ⟨k, k1, k2, k3⟩ := smR_b2i_full (P := fun k => op.testBit k = true) (R := fun k => op.testBit k = true ∧ ¬ S.testBit k = true) (fun k _ h => h.1) q
      refine ⟨k, by rw [hnH]; omega, ?_⟩
      by_cases e : S.testBit k = true
      · exact e
      · exact absurd ⟨k2, e⟩ k3
    refine v_iload dX7_lost_54 rfl ?_
    refine v_iload dX7_lost_56 rfl ?_
    refine v_icmp_ge (tgt := 109) dX7_lost_58 (by decide) (fun hc_58 => ?_) (fun hc_58 => ?_)
    · refine v_aload_n dX7_lost_109 rfl rfl ?_
      refine v_iload dX7_lost_110 rfl ?_
      refine v_callVi [_] dX7_lost_112 lX7_103 kvX7_tell (plX7 _ _) (Or.inl rfl) rfl rfl rfl rfl rfl rfl rfl rfl rfl (c_X7_tell ?_)
      refine v_pop dX7_lost_115 ?_
      refine v_iload dX7_lost_116 rfl ?_
      refine v_ireturn dX7_lost_118 rfl ?_
      rw [show i = (cntB 32 op : Int) by omega] at hi
      have hall : ∀ k : Nat, k < (μ (stc μ) 0).toNat → op.testBit k = true → ¬ S.testBit k = true := by
        intro k k1 k2 k3
        rw [hcs] at hi
        have e := smR_add (b := k) (d := 1) (f := fun k => b2i (op.testBit k = true ∧ ¬ S.testBit k = true)) (g := fun j => if j = k then b2i (op.testBit k = true ∧ ¬ S.testBit k = true) + 1 else b2i (op.testBit j = true ∧ ¬ S.testBit j = true)) k1 (if_pos rfl) (fun j _ hj => if_neg hj)
        have e2 : smR (μ (stc μ) 0).toNat (fun j => if j = k then b2i (op.testBit k = true ∧ ¬ S.testBit k = true) + 1 else b2i (op.testBit j = true ∧ ¬ S.testBit j = true)) ≤ smR (μ (stc μ) 0).toNat (fun k => b2i (op.testBit k = true)) := by
          refine smR_le (fun j _ => ?_)
          show (if j = k then b2i (op.testBit k = true ∧ ¬ S.testBit k = true) + 1 else b2i (op.testBit j = true ∧ ¬ S.testBit j = true)) ≤ b2i (op.testBit j = true)
          split
          · rename_i q; subst q; rw [b2i_f (fun q => q.2 k3), b2i_t k2]; omega
          · by_cases q : op.testBit j = true
            · rw [b2i_t q]; rcases b2i_01 (op.testBit j = true ∧ ¬ S.testBit j = true) with e | e <;> omega
            · rw [b2i_f q, b2i_f (fun z => q z.1)]; omega
        omega
      have := h2 p1 p2 m hm (fun h hh1 hh2 => (hrow h hh1 hh2 (hall h hh1 hh2)).1)
      rw [hc]
      rwa [smR_congr (g := fun h => if op.testBit h = true ∧ ¬ S.testBit h = true then μ (stc μ + 1) h else 0) (fun k k1 => by
        by_cases q : op.testBit k = true
        · rw [if_pos q, if_pos ⟨q, hall k k1 q⟩]
        · rw [if_neg q, if_neg (fun z => q z.1)])] at this
    · refine v_aload_n dX7_lost_61 rfl rfl ?_
      refine v_iload_n dX7_lost_62 rfl rfl ?_
      refine v_callVi [_] dX7_lost_63 lX7_303 kvX7_riskiest (plX7 _ _) (Or.inl rfl) rfl rfl rfl rfl rfl rfl rfl rfl rfl (c_X7_riskiest hst hs' hre' hS6 (hne (by omega)) (fun b hb1 hb2 hb3 => ?_))
      have hbn : b < (μ (stc μ) 0).toNat := by rw [hnH] at hb1; omega
      have hcost : 0 ≤ μ (stc μ + 1) b ∧ μ (stc μ + 1) b ≤ 99 := hs.2.2.1 b (by omega)
      have ecost : ∀ m2 : Mem_, agP m2 m → coC m2 (stc m) b = μ (stc μ + 1) b := by
        intro m2 h2
        have h3 : agP m2 μ := fun o ho i => (h2 o ho i).trans (hag o ho i)
        unfold coC
        rw [hmst, h3 _ (Or.inr (by omega)), if_pos (by omega), h3 _ (Or.inr (by omega))]
        rfl
      have hag2 : agP (mset m 3 (r * 40 + i).toNat (b : Int)) m := fun o ho j => mset_off (by omega)
      refine v_istore (ls' := [_, _, _, _, _, _, _, _]) dX7_lost_66 rfl rfl rfl ?_
      refine v_aload_n dX7_lost_68 rfl rfl ?_
      refine v_getR dX7_lost_69 fX7_14 rfl rfl rfl ?_
      refine v_iload_n dX7_lost_72 rfl rfl ?_
      refine v_iload dX7_lost_73 rfl ?_
      refine v_iload dX7_lost_75 rfl ?_
      refine v_callVv [_, _, _] dX7_lost_77 lX7_99 kvX4_set (plX4 _ _) rfl rfl rfl rfl rfl rfl rfl rfl rfl rfl (c_X4_set_1 hkm ?_)
      rw [set_1, if_pos (by rw [hsz]; omega)]
      refine v_iload dX7_lost_80 rfl ?_
      refine v_aload_n dX7_lost_82 rfl rfl ?_
      refine v_getX dX7_lost_83 fX7_66 rfl rfl rfl ?_
      show V_ _ _ _ (R_ (stc _) :: _) _ _
      refine v_iload dX7_lost_86 rfl ?_
      refine v_callVi [_] dX7_lost_88 lX7_306 kvX5_costOf (plX5 _ _) (Or.inl rfl) (shp_st hst) rfl rfl rfl rfl rfl rfl rfl rfl (c_X5_costOf hst (by rw [hag2 _ (Or.inr (by omega)), hnH]; omega) ?_)
      rw [ecost _ hag2]
      refine v_iadd dX7_lost_91 (fun ha hb => by omega) ?_
      refine v_istore (ls' := [_, _, _, _, _, _, _, _]) dX7_lost_92 rfl rfl rfl ?_
      refine v_iload_n dX7_lost_94 rfl rfl ?_
      refine v_iconst dX7_lost_95 (by decide) ?_
      refine v_iload dX7_lost_96 rfl ?_
      refine v_ishl dX7_lost_98 ?_
      rw [bShl_one (by omega) (by omega), Int.toNat_natCast]
      refine v_iconst dX7_lost_99 (by decide) ?_
      refine v_ixor dX7_lost_100 ?_
      refine v_iand dX7_lost_101 ?_
      rw [bAnd_not (by omega) (ones_pow (by omega))]
      refine v_istore_n (ls' := [_, _, _, _, _, _, _, _]) dX7_lost_102 rfl rfl rfl rfl ?_
      refine v_iinc (ls' := [_, _, _, _, _, _, _, _]) dX7_lost_103 rfl (fun hi_103 => by omega) rfl rfl ?_
      refine v_goto (tgt := 54) dX7_lost_106 (by decide) ?_
      refine v_kill (ls' := [_, _, _, _, _, _, _, _]) 7 rfl ?_
      have hbo : op.testBit b = true := hSo b hb2
      have hrank : rnC μ op b = i := by
        unfold rnC
        rw [hi]
        refine smR_congr (fun k k1 => b2i_congr ⟨fun z => ⟨z.1, fun q => ?_⟩, fun z => ⟨z.1, fun q => z.2 (by rw [q]; exact hb2), hP k b z.1 z.2 hb2⟩⟩)
        exact ahC_as z.2.2 ((hag.ah hst2 b k).mp (hb3 k (by rw [hnH]; omega) q z.2.1))
      have hb' : ∀ k, (S ^^^ (S &&& 2 ^ b)).testBit k = true ↔ (S.testBit k = true ∧ k ≠ b) := by
        intro k
        rw [nd_bit, Nat.testBit_two_pow]
        simp
        exact fun _ => ⟨fun q => fun z => q z.symm, fun q => fun z => q z.symm⟩
      refine ih (by omega) _ _ _ ⟨fun o j o2 o3 => by rw [mset_off (by omega)]; exact hm.1 o j o2 o3, fun j hj => by rw [mset_off (by omega)]; exact hm.2.1 j hj, by rw [mset_off (by omega)]; exact hm.2.2.1, fun j hj => by rw [mset_off (by omega)]; exact hm.2.2.2 j hj⟩ (Nat.xor_lt_two_pow hS (Nat.and_lt_two_pow _ (Nat.pow_lt_pow_right (by omega) hbn))) (fun j hj => by rw [nd_bit] at hj; simp at hj; exact hSo j hj.1) ?_ ?_ ?_ (by omega) ?_
      · rw [hi]
        refine (smR_add hbn ?_ (fun k k1 k2 => ?_)).symm
        · show b2i _ = b2i _ + 1
          rw [b2i_f (P := op.testBit b = true ∧ ¬ S.testBit b = true) (fun q => q.2 hb2), b2i_t ⟨hbo, fun q => ((hb' b).mp q).2 rfl⟩]
          omega
        · exact b2i_congr ⟨fun q => ⟨q.1, fun z => q.2 ((hb' k).mpr ⟨z, k2⟩)⟩, fun q => ⟨q.1, fun z => q.2 ((hb' k).mp z).1⟩⟩
      · intro x y hx hx2 hy
        have hy2 := (hb' y).mp hy
        by_cases e : S.testBit x = true
        · have hxb : x = b := by
            by_cases q : x = b
            · exact q
            · exact absurd ((hb' x).mpr ⟨e, q⟩) hx2
          subst hxb
          exact (hag.ah hst2 x y).mp (hb3 y (by rw [hnH]; have := bit_lt hS hy2.1; omega) hy2.1 hy2.2)
        · exact hP x y hx e hy2.1
      · rw [hc]
        refine (smR_add hbn ?_ (fun k k1 k2 => ?_)).symm
        · show (if _ then _ else _) = (if _ then _ else _) + _
          rw [if_neg (c := op.testBit b = true ∧ ¬ S.testBit b = true) (fun q => q.2 hb2), if_pos ⟨hbo, fun q => ((hb' b).mp q).2 rfl⟩]
          omega
        · show (if _ then _ else _) = (if _ then _ else _)
          by_cases e : op.testBit k = true ∧ ¬ S.testBit k = true
          · rw [if_pos e, if_pos ⟨e.1, fun z => e.2 ((hb' k).mp z).1⟩]
          · rw [if_neg e, if_neg (fun q => e ⟨q.1, fun z => q.2 ((hb' k).mpr ⟨z, k2⟩)⟩)]
      · intro h hh1 hh2 hh3
        by_cases e : h = b
        · subst e
          rw [hrank, show (r * 40).toNat + i.toNat = (r * 40 + i).toNat by omega, mset_same]
          exact ⟨rfl, by omega, by omega⟩
        · have hq := hrow h hh1 hh2 (fun z => hh3 ((hb' h).mpr ⟨z, e⟩))
          rw [mset_off (by omega)]
          exact ⟨hq.1, hq.2.1, by omega⟩
  refine v_aload_n dX7_lost_0 rfl rfl ?_
  refine v_iload_n dX7_lost_1 rfl rfl ?_
  refine v_callVi [_] dX7_lost_2 lX7_201 kvX7_isPerson (plX7 _ _) (Or.inr rfl) rfl rfl rfl rfl rfl rfl rfl rfl rfl (c_X7_isPerson hst ?_)
  refine v_ifb_eq (tgt := 19) dX7_lost_5 (by decide) (fun hc_5 => ?_) (fun hc_5 => ?_)
  · refine v_iconst dX7_lost_19 (by decide) ?_
    refine v_ireturn dX7_lost_20 rfl ?_
    exact h1 (by omega)
  · refine v_aload_n dX7_lost_8 rfl rfl ?_
    refine v_getR dX7_lost_9 fX7_14 rfl rfl rfl ?_
    refine v_iload_n dX7_lost_12 rfl rfl ?_
    refine v_callVi [_] dX7_lost_13 lX7_115 kvX4_knows (plX4 _ _) (Or.inr rfl) rfl rfl rfl rfl rfl rfl rfl rfl rfl (c_X4_knows_1 ?_)
    refine v_ifb_ne (tgt := 21) dX7_lost_16 (by decide) (fun hc_16 => ?_) (fun hc_16 => ?_)
    · refine v_aload_n dX7_lost_21 rfl rfl ?_
      refine v_getR dX7_lost_22 fX7_34 rfl rfl rfl ?_
      refine v_iconst dX7_lost_25 (by decide) ?_
      refine v_iload_n dX7_lost_26 rfl rfl ?_
      refine v_callVi [_, _] dX7_lost_27 lX7_247 kvX2_opens (plX2 _ _) (Or.inl rfl) rfl rfl rfl rfl rfl rfl rfl rfl rfl (c_X2_opens hp ?_)
      rw [hopd]
      refine v_istore_n (ls' := [_, _, _, _, _, _, _, _]) dX7_lost_30 rfl rfl rfl rfl ?_
      refine v_iload_n dX7_lost_31 rfl rfl ?_
      refine v_callSi [_] dX7_lost_32 lX7_298 ksJ6_bitCount_0f7a4 plJ6b (Or.inl rfl) rfl rfl rfl rfl rfl rfl (c_J6_bitCount (by omega) (by omega) ?_)
      rw [Int.toNat_natCast]
      refine v_istore (ls' := [_, _, _, _, _, _, _, _]) dX7_lost_35 rfl rfl rfl ?_
      refine v_iconst dX7_lost_37 (by decide) ?_
      refine v_istore (ls' := [_, _, _, _, _, _, _, _]) dX7_lost_38 rfl rfl rfl ?_
      refine v_aload_n dX7_lost_40 rfl rfl ?_
      refine v_getR dX7_lost_41 fX7_14 rfl rfl rfl ?_
      refine v_iload_n dX7_lost_44 rfl rfl ?_
      refine v_iload dX7_lost_45 rfl ?_
      refine v_iconst dX7_lost_47 (by decide) ?_
      refine v_callVv [_, _, _] dX7_lost_48 lX7_274 kvX4_renew (plX4 _ _) rfl rfl rfl rfl rfl rfl rfl rfl rfl rfl (c_X4_renew_1 hc_16 (by omega) ?_)
      refine v_iconst dX7_lost_51 (by decide) ?_
      refine v_istore (ls' := [_, _, _, _, _, _, _, _]) dX7_lost_52 rfl rfl rfl ?_
      refine lp hc_5 hc_16 0 (by omega) (by omega) _ op 0 ⟨fun o i o2 o3 => by rw [mfill_off (by omega), mset_off (by omega)], fun i hi => by rw [mfill_off (by omega), mset_off (by omega)], by rw [mfill_off (by omega), mset_same], fun i hi => ?_⟩ hop (sb_rf _) ?_ (fun x y q1 q2 => absurd q1 q2) ?_ (by omega) (fun h _ q1 q2 => absurd q1 q2)
      · unfold mfill
        rw [if_neg (by rw [Int.toNat_natCast]; exact fun q => hi q.2), mset_off (by omega)]
      · rw [smR_congr (g := fun _ => 0) (fun k _ => b2i_f (fun q => q.2 q.1))]
        generalize (μ (stc μ) 0).toNat = n
        induction n with
        | zero => rfl
        | succ n ih => rw [smR, ← ih]; rfl
      · rw [smR_congr (g := fun _ => 0) (fun k _ => if_neg (fun q => q.2 q.1))]
        generalize (μ (stc μ) 0).toNat = n
        induction n with
        | zero => rfl
        | succ n ih => rw [smR, ← ih]; rfl
    · refine v_iconst dX7_lost_19 (by decide) ?_
      refine v_ireturn dX7_lost_20 rfl ?_
      exact h1 (by omega)
end
