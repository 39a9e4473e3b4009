/-! the model over the class: the plan told -/
section
variable {μ w : Mem_} {Q : PV → Mem_ → Prop}
def plRm (m : Mem_) (N : Nat) (r : Int) (g : Nat → Nat) : Prop := m 52 r.toNat = 2 * (ctS g N : Int) ∧ ∀ h x : Nat, h < N → x < N → (g h).testBit x = true → m 53 ((40 * r).toNat + 2 * (ctS g h + cntB x (g h))) = (h : Int) ∧ m 53 ((40 * r).toNat + 2 * (ctS g h + cntB x (g h)) + 1) = (x : Int)
theorem cnt_N {N s : Nat} (hN : N ≤ 6) (h : s < 2 ^ N) : cntB N s = cntB 6 s := by
  have : ∀ d, cntB (N + d) s = cntB N s := by
    intro d
    induction d with
    | zero => rfl
    | succ d ih =>
      rw [← Nat.add_assoc, cntB, ih, if_neg (fun q => by have := bit_lt h q; omega), Nat.add_zero]
  have h2 := this (6 - N)
  rw [show N + (6 - N) = 6 by omega] at h2
  omega
theorem ctS_le {g : Nat → Nat} {N : Nat} (h : ∀ j, j < N → cntB 6 (g j) ≤ 3) : ∀ n, n ≤ N → ctS g n ≤ 3 * n := by
  intro n
  induction n with
  | zero => exact fun _ => Nat.le_refl _
  | succ n ih =>
    intro hn
    have := ih (by omega)
    have := h n (by omega)
    rw [ctS]
    omega
set_option maxRecDepth 10000 in
theorem c_X8_planTold {N : Nat} {g : Nat → Nat} {r : Int} (hN : N ≤ 6) (hn : μ 50 10 = (N : Int)) (hr : 0 ≤ r ∧ r < 6) (hg : ∀ j, j < N → μ 81 j = (g j : Int) ∧ g j < 2 ^ N ∧ cntB 6 (g j) ≤ 3) (h : ∀ m : Mem_, lmM μ r m → plRm m N r g → Q (I_ (ctS g N : Int)) m) : V_ nX8_planTold 0 [R_ 50, I_ r, U_, U_, U_] [] μ Q := by
  have hle : 2 ^ N ≤ 2 ^ 6 := Nat.pow_le_pow_right (by omega) hN
  have hct := ctS_le (g := g) (N := N) (fun j hj => (hg j hj).2.2)
  have lp2 : ∀ b : Nat, b ≤ N → ∀ m : Mem_, lmM μ r m → (∀ h x : Nat, h < b → x < N → (g h).testBit x = true → m 53 ((40 * r).toNat + 2 * (ctS g h + cntB x (g h))) = (h : Int) ∧ m 53 ((40 * r).toNat + 2 * (ctS g h + cntB x (g h)) + 1) = (x : Int)) → V_ nX8_planTold 30 [R_ 50, I_ r, I_ (ctS g b : Int), I_ (b : Int), U_] [] m Q := by
    refine loop_dn (fun b => N - b) (fun b ih => ?_)
    intro hb m m1 m2
    have e10 : m 50 10 = (N : Int) := by rw [m1.1 50 10 (by omega) (by omega)]; exact hn
    have inner : b < N → ∀ a : Nat, a ≤ N → ∀ m' : Mem_, lmM μ r m' → (∀ h x : Nat, (h < b ∨ (h = b ∧ x < a)) → x < N → (g h).testBit x = true → m' 53 ((40 * r).toNat + 2 * (ctS g h + cntB x (g h))) = (h : Int) ∧ m' 53 ((40 * r).toNat + 2 * (ctS g h + cntB x (g h)) + 1) = (x : Int)) → V_ nX8_planTold 41 [R_ 50, I_ r, I_ ((ctS g b + cntB a (g b) : Nat) : Int), I_ (b : Int), I_ (a : Int)] [] m' Q := by
      intro hbN
      have hgb := hg b hbN
      have hcb := hct b (by omega)
      refine loop_dn (fun a => N - a) (fun a iha => ?_)
      intro ha m' f1 f2
      have e10' : m' 50 10 = (N : Int) := by rw [f1.1 50 10 (by omega) (by omega)]; exact hn
      have e81 : m' 81 b = (g b : Int) := by rw [f1.1 81 b (by omega) (by omega)]; exact hgb.1
      have hca : a < N → (g b).testBit a = true → cntB a (g b) < 3 := fun q q2 => by
        have h1 : cntB (a + 1) (g b) ≤ cntB 6 (g b) := cntB_mono (by omega)
        rw [cntB, if_pos q2] at h1
        have := hgb.2.2
        omega
      have hcm : a ≤ N → cntB a (g b) ≤ 3 := fun q => Nat.le_trans (cntB_mono (by omega)) hgb.2.2
      refine v_iload dX8_planTold_41 rfl ?_
      refine v_aload_n dX8_planTold_43 rfl rfl ?_
      refine v_getI dX8_planTold_44 fX8_180 rfl rfl rfl ?_
      refine v_icmp_ge (tgt := 104) dX8_planTold_47 (by decide) (fun hc_47 => ?_) (fun hc_47 => ?_)
      · refine v_iinc (ls' := [_, _, _, _, _]) dX8_planTold_104 rfl (fun hi_104 => by omega) rfl rfl ?_
        refine v_goto (tgt := 30) dX8_planTold_107 (by decide) ?_
        refine v_kill (ls' := [_, _, _, _, _]) 4 rfl ?_
        have ea : a = N := by omega
        have := ih (b + 1) (by omega) (by omega) m' f1 (fun h x hx hxN hbx => f2 h x (by omega) hxN hbx)
        rw [show ctS g (b + 1) = ctS g b + cntB a (g b) by rw [ctS, ea, cnt_N hN hgb.2.1]] at this
        exact this
      · refine v_aload_n dX8_planTold_50 rfl rfl ?_
        refine v_getR dX8_planTold_51 fX8_101 rfl rfl rfl ?_
        refine v_iload_n dX8_planTold_54 rfl rfl ?_
        refine v_iald dX8_planTold_55 rfl (by omega) (by omega) ?_
        rw [Int.toNat_natCast, e81]
        refine v_iload dX8_planTold_56 rfl ?_
        refine v_callSi [_, _] dX8_planTold_58 lX8_252 ksX8_has (plX8 _ _) (Or.inr rfl) rfl rfl rfl rfl rfl rfl (c_X8_has (by omega) (by omega) (by omega) ?_)
        refine v_ifb_eq (tgt := 98) dX8_planTold_61 (by decide) (fun hc_61 => ?_) (fun hc_61 => ?_)
        · refine v_iinc (ls' := [_, _, _, _, _]) dX8_planTold_98 rfl (fun hi_98 => by omega) rfl rfl ?_
          refine v_goto (tgt := 41) dX8_planTold_101 (by decide) ?_
          have hbt : ¬ (g b).testBit a = true := by simpa using hc_61
          have := iha (a + 1) (by omega) (by omega) m' f1 (fun h x hx hxN hbx => f2 h x (by
            rcases hx with q | ⟨q1, q2⟩
            · exact Or.inl q
            · refine Or.inr ⟨q1, ?_⟩
              by_cases e : x = a
              · subst e; subst q1; exact absurd hbx hbt
              · omega) hxN hbx)
          rw [cntB, if_neg hbt, Nat.add_zero] at this
          exact this
        · refine v_aload_n dX8_planTold_64 rfl rfl ?_
          refine v_getR dX8_planTold_65 fX8_16 rfl rfl rfl ?_
          refine v_bipush dX8_planTold_68 (by decide) ?_
          refine v_iload_n dX8_planTold_70 rfl rfl ?_
          refine v_imul dX8_planTold_71 (fun ha hb => by omega) ?_
          refine v_iconst dX8_planTold_72 (by decide) ?_
          refine v_iload_n dX8_planTold_73 rfl rfl ?_
          refine v_imul dX8_planTold_74 (fun ha hb => by have := hcm (by omega); omega) ?_
          refine v_iadd dX8_planTold_75 (fun ha hb => by have := hcm (by omega); omega) ?_
          refine v_iload_n dX8_planTold_76 rfl rfl ?_
          refine v_iast dX8_planTold_77 rfl (by have := hca (by omega) (by simpa using hc_61); omega) (by have := hca (by omega) (by simpa using hc_61); omega) ?_
          refine v_aload_n dX8_planTold_78 rfl rfl ?_
          refine v_getR dX8_planTold_79 fX8_16 rfl rfl rfl ?_
          refine v_bipush dX8_planTold_82 (by decide) ?_
          refine v_iload_n dX8_planTold_84 rfl rfl ?_
          refine v_imul dX8_planTold_85 (fun ha hb => by omega) ?_
          refine v_iconst dX8_planTold_86 (by decide) ?_
          refine v_iload_n dX8_planTold_87 rfl rfl ?_
          refine v_imul dX8_planTold_88 (fun ha hb => by have := hcm (by omega); omega) ?_
          refine v_iadd dX8_planTold_89 (fun ha hb => by have := hcm (by omega); omega) ?_
          refine v_iconst dX8_planTold_90 (by decide) ?_
          refine v_iadd dX8_planTold_91 (fun ha hb => by have := hcm (by omega); omega) ?_
          refine v_iload dX8_planTold_92 rfl ?_
          refine v_iast dX8_planTold_94 rfl (by have := hca (by omega) (by simpa using hc_61); omega) (by have := hca (by omega) (by simpa using hc_61); omega) ?_
          refine v_iinc (ls' := [_, _, _, _, _]) dX8_planTold_95 rfl (fun hi_95 => by have := hca (by omega) (by simpa using hc_61); omega) rfl rfl ?_
          refine v_iinc (ls' := [_, _, _, _, _]) dX8_planTold_98 rfl (fun hi_98 => by omega) rfl rfl ?_
          refine v_goto (tgt := 41) dX8_planTold_101 (by decide) ?_
          have hbt : (g b).testBit a = true := by simpa using hc_61
          have hc3 := hca (by omega) hbt
          have := iha (a + 1) (by omega) (by omega) (mset (mset m' 53 (40 * r + 2 * ((ctS g b + cntB a (g b) : Nat) : Int)).toNat (b : Int)) 53 (40 * r + 2 * ((ctS g b + cntB a (g b) : Nat) : Int) + 1).toNat (a : Int)) ⟨fun o k q q2 => by rw [mset_off (by omega), mset_off (by omega)]; exact f1.1 o k q q2, fun k q => by rw [mset_off (by omega), mset_off (by omega)]; exact f1.2.1 k q, fun k q => by rw [mset_off (by omega), mset_off (by omega)]; exact f1.2.2 k q⟩ (fun h x hx hxN hbx => by
            by_cases e : h = b ∧ x = a
            · obtain ⟨rfl, rfl⟩ := e
              refine ⟨?_, ?_⟩
              · rw [mset_off (by omega), show (40 * r).toNat + 2 * (ctS g h + cntB x (g h)) = (40 * r + 2 * ((ctS g h + cntB x (g h) : Nat) : Int)).toNat by omega, mset_same]
              · rw [show (40 * r).toNat + 2 * (ctS g h + cntB x (g h)) + 1 = (40 * r + 2 * ((ctS g h + cntB x (g h) : Nat) : Int) + 1).toNat by omega, mset_same]
            · have hold := f2 h x (by omega) hxN hbx
              have hlt : ctS g h + cntB x (g h) < ctS g b + cntB a (g b) := by
                rcases (show h < b ∨ (h = b ∧ x < a) by omega) with q | ⟨q1, q2⟩
                · have h1 : ctS g (h + 1) ≤ ctS g b := ctS_mono (by omega)
                  have h2 : cntB (x + 1) (g h) ≤ cntB 6 (g h) := cntB_mono (by omega)
                  rw [cntB, if_pos hbx] at h2
                  rw [ctS] at h1
                  omega
                · subst q1
                  have h2 : cntB (x + 1) (g h) ≤ cntB a (g h) := cntB_mono (by omega)
                  rw [cntB, if_pos hbx] at h2
                  omega
              rw [mset_off (by omega), mset_off (by omega), mset_off (by omega), mset_off (by omega)]
              exact hold)
          rw [cntB, if_pos hbt] at this
          rw [show ((ctS g b + cntB a (g b) : Nat) : Int) + 1 = ((ctS g b + (cntB a (g b) + 1) : Nat) : Int) by omega]
          exact this
    have hcN := hct b hb
    refine v_iload_n dX8_planTold_30 rfl rfl ?_
    refine v_aload_n dX8_planTold_31 rfl rfl ?_
    refine v_getI dX8_planTold_32 fX8_180 rfl rfl rfl ?_
    refine v_icmp_ge (tgt := 110) dX8_planTold_35 (by decide) (fun hc_35 => ?_) (fun hc_35 => ?_)
    · refine v_aload_n dX8_planTold_110 rfl rfl ?_
      refine v_getR dX8_planTold_111 fX8_13 rfl rfl rfl ?_
      refine v_iload_n dX8_planTold_114 rfl rfl ?_
      refine v_iconst dX8_planTold_115 (by decide) ?_
      refine v_iload_n dX8_planTold_116 rfl rfl ?_
      refine v_imul dX8_planTold_117 (fun ha hb => by omega) ?_
      refine v_iast dX8_planTold_118 rfl (by omega) (by omega) ?_
      refine v_iload_n dX8_planTold_119 rfl rfl ?_
      refine v_ireturn dX8_planTold_120 rfl ?_
      have eb : b = N := by omega
      subst eb
      refine h _ ⟨fun o k q q2 => by rw [mset_off (by omega)]; exact m1.1 o k q q2, fun k q => by rw [mset_off (by omega)]; exact m1.2.1 k q, fun k q => by rw [mset_off (by omega)]; exact m1.2.2 k q⟩ ⟨mset_same _ _ _ _, fun h x hh hx hbx => ?_⟩
      rw [mset_off (by omega), mset_off (by omega)]
      exact m2 h x hh hx hbx
    · refine v_iconst dX8_planTold_38 (by decide) ?_
      refine v_istore (ls' := [_, _, _, _, _]) dX8_planTold_39 rfl rfl rfl ?_
      have := inner (by omega) 0 (by omega) m m1 (fun h x hx hxN hbx => m2 h x (by omega) hxN hbx)
      rw [cntB, Nat.add_zero] at this
      exact this
  have lp1 : ∀ k : Int, 0 ≤ k → k ≤ 40 → ∀ m : Mem_, lmM μ r m → V_ nX8_planTold 4 [R_ 50, I_ r, I_ 0, I_ k, U_] [] m Q := by
    refine loop_up _ (fun k h0 h1 ih => ?_)
    intro m m1
    refine v_iload_n dX8_planTold_4 rfl rfl ?_
    refine v_bipush dX8_planTold_5 (by decide) ?_
    refine v_icmp_ge (tgt := 28) dX8_planTold_7 (by decide) (fun hc_7 => ?_) (fun hc_7 => ?_)
    · refine v_iconst dX8_planTold_28 (by decide) ?_
      refine v_istore_n (ls' := [_, _, _, _, _]) dX8_planTold_29 rfl rfl rfl rfl ?_
      refine v_kill (ls' := [_, _, _, _, _]) 4 rfl ?_
      exact lp2 0 (by omega) m m1 (fun h x hx => by omega)
    · refine v_aload_n dX8_planTold_10 rfl rfl ?_
      refine v_getR dX8_planTold_11 fX8_16 rfl rfl rfl ?_
      refine v_bipush dX8_planTold_14 (by decide) ?_
      refine v_iload_n dX8_planTold_16 rfl rfl ?_
      refine v_imul dX8_planTold_17 (fun ha hb => by omega) ?_
      refine v_iload_n dX8_planTold_18 rfl rfl ?_
      refine v_iadd dX8_planTold_19 (fun ha hb => by omega) ?_
      refine v_iconst dX8_planTold_20 (by decide) ?_
      refine v_iast dX8_planTold_21 rfl (by omega) (by omega) ?_
      refine v_iinc (ls' := [_, _, _, _, _]) dX8_planTold_22 rfl (fun hi_22 => by omega) rfl rfl ?_
      refine v_goto (tgt := 4) dX8_planTold_25 (by decide) ?_
      refine v_kill (ls' := [_, _, _, _, _]) 4 rfl ?_
      exact ih (by omega) _ ⟨fun o k q q2 => by rw [mset_off (by omega)]; exact m1.1 o k q q2, fun k q => by rw [mset_off (by omega)]; exact m1.2.1 k q, fun k q => by rw [mset_off (by omega)]; exact m1.2.2 k q⟩
  refine v_iconst dX8_planTold_0 (by decide) ?_
  refine v_istore_n (ls' := [_, _, _, _, _]) dX8_planTold_1 rfl rfl rfl rfl ?_
  refine v_iconst dX8_planTold_2 (by decide) ?_
  refine v_istore_n (ls' := [_, _, _, _, _]) dX8_planTold_3 rfl rfl rfl rfl ?_
  exact lp1 0 (by omega) (by omega) μ ⟨fun _ _ _ _ => rfl, fun _ _ => rfl, fun _ _ => rfl⟩
end
