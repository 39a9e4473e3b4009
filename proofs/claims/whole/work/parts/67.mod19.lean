/-! the model: who comes in, walked -/
section
variable {μ w : Mem_} {Q : PV → Mem_ → Prop}
set_option maxRecDepth 10000 in
theorem c_X8_comes {nH nP e : Int} {ks op : Nat} (hH : 0 ≤ nH ∧ nH ≤ 6) (hI : RIc nH nP e w) (hm : μ 50 10 = nH) (hd : DLk (w 17 0).toNat μ w) (hks : ks < 2 ^ 24) (hop : op < 2 ^ 6) (h : ∀ r : Nat, r < 2 ^ 6 → clo (insC w) (op ||| ohN w ks) r → Q (I_ (r : Int)) μ) : V_ nX8_comes 0 [R_ 50, I_ (ks : Int), I_ (op : Int), U_, U_, U_, U_, U_, U_] [] μ Q := by
  have hI1 := hI.1.1
  have key : ∀ x : Nat × Nat, x.1 < 2 ^ 6 → x.2 < 2 ^ 24 → sb op x.1 → sb ks x.2 → SND w (op ||| ohN w ks) x.1 x.2 → V_ nX8_comes 8 [R_ 50, I_ (ks : Int), I_ (op : Int), I_ (x.1 : Int), I_ (x.2 : Int), I_ 1, U_, U_, U_] [] μ Q := by
    refine loop_dn (fun x => 2 ^ 6 - x.1 + (2 ^ 24 - x.2)) ?_
    rintro ⟨was, had⟩ ih
    simp only at ih ⊢
    intro b1 b2 b3 b4 b5
    have inner : ∀ g : Int, 0 ≤ g → g ≤ nH → ∀ all have_ : Nat, all < 2 ^ 6 → have_ < 2 ^ 24 → sb was all → sb had have_ → SND w (op ||| ohN w ks) all have_ → (all = was → have_ = had → ∀ j : Nat, (j : Int) < g → CMP w was had j) → V_ nX8_comes 23 [R_ 50, I_ (ks : Int), I_ (op : Int), I_ (all : Int), I_ (have_ : Int), U_, I_ (was : Int), I_ (had : Int), I_ g] [] μ Q := by
      refine loop_up _ (fun g h0 h1 ihg => ?_)
      intro all have_ c1 c2 c3 c4 c5 c6
      have eL : g < nH → μ 73 g.toNat = ((orR (w 17 0).toNat (lkF w g) : Nat) : Int) := fun q => by
        have := hd.1 g.toNat (by omega)
        rwa [show ((g.toNat : Nat) : Int) = g by omega] at this
      have eI : g < nH → μ 75 g.toNat = ((orR (w 17 0).toNat (whF w 2 g) : Nat) : Int) := fun q => by
        have := hd.2.2.1 g.toNat (by omega)
        rwa [show ((g.toNat : Nat) : Int) = g by omega] at this
      have lL : orR (w 17 0).toNat (lkF w g) < 2 ^ 24 := orR_lt (fun k hk => by
        unfold lkF
        split
        · exact Nat.pow_lt_pow_right (by omega) (by omega)
        · omega)
      have lI : orR (w 17 0).toNat (whF w 2 g) < 2 ^ 24 := orR_lt (fun k hk => by
        unfold whF
        split
        · exact Nat.pow_lt_pow_right (by omega) (by omega)
        · omega)
      have eA := bAnd_nat (a := orR (w 17 0).toNat (lkF w g)) (b := have_) (by omega) (by omega)
      have step2 : ∀ all' : Nat, g < nH → all' < 2 ^ 6 → sb all all' → SND w (op ||| ohN w ks) all' have_ → (all' = was → have_ = had → (∀ k, k < (w 17 0).toNat → had.testBit k = true → liveC w k → w 18 k = g → was.testBit g.toNat = true)) → V_ nX8_comes 56 [R_ 50, I_ (ks : Int), I_ (op : Int), I_ (all' : Int), I_ (have_ : Int), U_, I_ (was : Int), I_ (had : Int), I_ g] [] μ Q := by
        intro all' hg d1 d2 d3 d4
        have eg : ((g.toNat : Nat) : Int) = g := by omega
        refine v_iload dX8_comes_56 rfl ?_
        refine v_iload_n dX8_comes_58 rfl rfl ?_
        refine v_iload dX8_comes_59 rfl ?_
        refine v_callSi [_, _] dX8_comes_61 lX8_252 ksX8_has (plX8 _ _) (Or.inr rfl) rfl rfl rfl rfl rfl rfl (c_X8_has (by omega) (by omega) (by omega) ?_)
        refine v_ifb_eq (tgt := 77) dX8_comes_64 (by decide) (fun hc_64 => ?_) (fun hc_64 => ?_)
        · refine v_iconst dX8_comes_77 (by decide) ?_
          refine v_ior dX8_comes_78 ?_
          refine v_istore (ls' := [_, _, _, _, _, _, _, _, _]) dX8_comes_79 rfl rfl rfl ?_
          refine v_iinc (ls' := [_, _, _, _, _, _, _, _, _]) dX8_comes_81 rfl (fun hi_81 => by omega) rfl rfl ?_
          refine v_goto (tgt := 23) dX8_comes_84 (by decide) ?_
          refine v_kill (ls' := [_, _, _, _, _, _, _, _, _]) 5 rfl ?_
          rw [bOr_z (by omega)]
          refine ihg hg all' have_ d1 c2 (sb_tr c3 d2) c4 d3 (fun e1 e2 j hj => ?_)
          by_cases ej : j = g.toNat
          · subst ej
            refine ⟨fun k hk q1 q2 q3 => d4 e1 e2 k hk q1 q2 (by omega), fun q => ?_⟩
            rw [e1] at hc_64
            exact absurd q hc_64
          · have ea : all = was := sb_eq (e1 ▸ d2) c3
            exact c6 ea e2 j (by omega)
        · refine v_aload_n dX8_comes_67 rfl rfl ?_
          refine v_getR dX8_comes_68 fX8_83 rfl rfl rfl ?_
          refine v_iload dX8_comes_71 rfl ?_
          refine v_iald dX8_comes_73 rfl (by omega) (by omega) ?_
          rw [eI hg]
          refine v_goto (tgt := 78) dX8_comes_74 (by decide) ?_
          refine v_ior dX8_comes_78 ?_
          refine v_istore (ls' := [_, _, _, _, _, _, _, _, _]) dX8_comes_79 rfl rfl rfl ?_
          refine v_iinc (ls' := [_, _, _, _, _, _, _, _, _]) dX8_comes_81 rfl (fun hi_81 => by omega) rfl rfl ?_
          refine v_goto (tgt := 23) dX8_comes_84 (by decide) ?_
          refine v_kill (ls' := [_, _, _, _, _, _, _, _, _]) 5 rfl ?_
          rw [bOr_nat (by omega) (by omega)]
          refine ihg hg all' _ d1 (Nat.or_lt_two_pow c2 lI) (sb_tr c3 d2) (sb_tr c4 (sb_l _ _)) ?_ (fun e1 e2 j hj => ?_)
          · have := SND_2 (g := g.toNat) d3 (by omega) hc_64
            rwa [eg] at this
          · have eh : have_ = had := sb_eq (e2 ▸ sb_l _ _) c4
            by_cases ej : j = g.toNat
            · subst ej
              refine ⟨fun k hk q1 q2 q3 => d4 e1 eh k hk q1 q2 (by omega), fun q k hk q1 q2 => ?_⟩
              have e9 : (orR (w 17 0).toNat (whF w 2 g)).testBit k = true := (orP_bit (P := fun k => w 20 k = 2 ∧ w 21 k = g)).2 ⟨hk, q1, by omega⟩
              rw [← e2, Nat.testBit_or, e9, Bool.or_true]
            · have ea : all = was := sb_eq (e1 ▸ d2) c3
              exact c6 ea eh j (by omega)
      refine v_iload dX8_comes_23 rfl ?_
      refine v_aload_n dX8_comes_25 rfl rfl ?_
      refine v_getI dX8_comes_26 fX8_180 rfl rfl rfl ?_
      refine v_icmp_ge (tgt := 87) dX8_comes_29 (by decide) (fun hc_29 => ?_) (fun hc_29 => ?_)
      · refine v_iload_n dX8_comes_87 rfl rfl ?_
        refine v_iload dX8_comes_88 rfl ?_
        refine v_icmp_ne (tgt := 100) dX8_comes_90 (by decide) (fun hc_90 => ?_) (fun hc_90 => ?_)
        · refine v_iconst dX8_comes_100 (by decide) ?_
          refine v_goto (tgt := 105) dX8_comes_101 (by decide) ?_
          refine v_istore (ls' := [_, _, _, _, _, _, _, _, _]) dX8_comes_105 rfl rfl rfl ?_
          refine v_goto (tgt := 8) dX8_comes_107 (by decide) ?_
          refine v_kill (ls' := [_, _, _, _, _, _, _, _, _]) 6 rfl ?_
          refine v_kill (ls' := [_, _, _, _, _, _, _, _, _]) 7 rfl ?_
          refine v_kill (ls' := [_, _, _, _, _, _, _, _, _]) 8 rfl ?_
          exact ih (all, have_) (by have := sb_le c3; have := sb_le c4; simp only; omega) c1 c2 (sb_tr b3 c3) (sb_tr b4 c4) c5
        · refine v_iload dX8_comes_93 rfl ?_
          refine v_iload dX8_comes_95 rfl ?_
          refine v_icmp_eq (tgt := 104) dX8_comes_97 (by decide) (fun hc_97 => ?_) (fun hc_97 => ?_)
          · refine v_iconst dX8_comes_104 (by decide) ?_
            refine v_istore (ls' := [_, _, _, _, _, _, _, _, _]) dX8_comes_105 rfl rfl rfl ?_
            refine v_goto (tgt := 8) dX8_comes_107 (by decide) ?_
            refine v_kill (ls' := [_, _, _, _, _, _, _, _, _]) 6 rfl ?_
            refine v_kill (ls' := [_, _, _, _, _, _, _, _, _]) 7 rfl ?_
            refine v_kill (ls' := [_, _, _, _, _, _, _, _, _]) 8 rfl ?_
            have e1 : all = was := by omega
            have e2 : have_ = had := by omega
            have hcl := SND_end hI (e1 ▸ e2 ▸ c5) b3 b4 (fun j hj => c6 e1 e2 j (by omega))
            refine v_iload dX8_comes_8 rfl ?_
            refine v_if_eq (tgt := 110) dX8_comes_10 (by decide) (fun hc_10 => ?_) (fun hc_10 => ?_)
            · refine v_iload_n dX8_comes_110 rfl rfl ?_
              refine v_ireturn dX8_comes_111 rfl ?_
              rw [e1]; exact h was b1 hcl
            · refine v_iload_n dX8_comes_13 rfl rfl ?_
              refine v_istore (ls' := [_, _, _, _, _, _, _, _, _]) dX8_comes_14 rfl rfl rfl ?_
              refine v_iload dX8_comes_16 rfl ?_
              refine v_istore (ls' := [_, _, _, _, _, _, _, _, _]) dX8_comes_18 rfl rfl rfl ?_
              refine v_iconst dX8_comes_20 (by decide) ?_
              refine v_istore (ls' := [_, _, _, _, _, _, _, _, _]) dX8_comes_21 rfl rfl rfl ?_
              exfalso; omega
          · refine v_iconst dX8_comes_100 (by decide) ?_
            refine v_goto (tgt := 105) dX8_comes_101 (by decide) ?_
            refine v_istore (ls' := [_, _, _, _, _, _, _, _, _]) dX8_comes_105 rfl rfl rfl ?_
            refine v_goto (tgt := 8) dX8_comes_107 (by decide) ?_
            refine v_kill (ls' := [_, _, _, _, _, _, _, _, _]) 6 rfl ?_
            refine v_kill (ls' := [_, _, _, _, _, _, _, _, _]) 7 rfl ?_
            refine v_kill (ls' := [_, _, _, _, _, _, _, _, _]) 8 rfl ?_
            exact ih (all, have_) (by have := sb_le c3; have := sb_le c4; simp only; omega) c1 c2 (sb_tr b3 c3) (sb_tr b4 c4) c5
      · refine v_iload_n dX8_comes_32 rfl rfl ?_
        refine v_aload_n dX8_comes_33 rfl rfl ?_
        refine v_getR dX8_comes_34 fX8_77 rfl rfl rfl ?_
        refine v_iload dX8_comes_37 rfl ?_
        refine v_iald dX8_comes_39 rfl (by omega) (by omega) ?_
        rw [eL (by omega)]
        refine v_iload dX8_comes_40 rfl ?_
        refine v_iand dX8_comes_42 ?_
        rw [eA]
        refine v_if_eq (tgt := 53) dX8_comes_43 (by decide) (fun hc_43 => ?_) (fun hc_43 => ?_)
        · refine v_iconst dX8_comes_53 (by decide) ?_
          refine v_ior dX8_comes_54 ?_
          refine v_istore_n (ls' := [_, _, _, _, _, _, _, _, _]) dX8_comes_55 rfl rfl rfl rfl ?_
          refine v_kill (ls' := [_, _, _, _, _, _, _, _, _]) 5 rfl ?_
          rw [bOr_z (by omega)]
          refine step2 all (by omega) c1 (sb_rf _) c5 (fun e1 e2 k hk q1 q2 q3 => ?_)
          have hz : orR (w 17 0).toNat (lkF w g) &&& have_ = 0 := by omega
          exact absurd ⟨(orP_bit (P := fun k => w 18 k = g ∧ liveC w k)).2 ⟨hk, q3, q2⟩, e2 ▸ q1⟩ (and_0.1 hz k)
        · refine v_iconst dX8_comes_46 (by decide) ?_
          refine v_iload dX8_comes_47 rfl ?_
          refine v_ishl dX8_comes_49 ?_
          refine v_goto (tgt := 54) dX8_comes_50 (by decide) ?_
          refine v_ior dX8_comes_54 ?_
          refine v_istore_n (ls' := [_, _, _, _, _, _, _, _, _]) dX8_comes_55 rfl rfl rfl rfl ?_
          refine v_kill (ls' := [_, _, _, _, _, _, _, _, _]) 5 rfl ?_
          rw [bShl_one (by omega) (by omega), bOr_nat (by omega) (pow2_31 (by omega))]
          have hz : ¬ orR (w 17 0).toNat (lkF w g) &&& have_ = 0 := by omega
          have hex : ∃ i, (orR (w 17 0).toNat (lkF w g)).testBit i = true ∧ have_.testBit i = true := Classical.byContradiction (fun q => hz (and_0.2 (fun i hi => q ⟨i, hi⟩)))
          obtain ⟨k, k1, k2⟩ := hex
          have k3 := (orP_bit (P := fun k => w 18 k = g ∧ liveC w k)).1 k1
          refine step2 _ (by omega) (Nat.or_lt_two_pow c1 (Nat.pow_lt_pow_right (by omega) (by omega))) (sb_l _ _) (SND_1 c5 k3.1 k2 k3.2.2 (by omega)) (fun e1 e2 _ _ _ _ _ => ?_)
          rw [← e1, Nat.testBit_or, Nat.testBit_two_pow]; simp
    refine v_iload dX8_comes_8 rfl ?_
    refine v_if_eq (tgt := 110) dX8_comes_10 (by decide) (fun hc_10 => ?_) (fun hc_10 => ?_)
    · refine v_iload_n dX8_comes_110 rfl rfl ?_
      refine v_ireturn dX8_comes_111 rfl ?_
      exfalso; omega
    · refine v_iload_n dX8_comes_13 rfl rfl ?_
      refine v_istore (ls' := [_, _, _, _, _, _, _, _, _]) dX8_comes_14 rfl rfl rfl ?_
      refine v_iload dX8_comes_16 rfl ?_
      refine v_istore (ls' := [_, _, _, _, _, _, _, _, _]) dX8_comes_18 rfl rfl rfl ?_
      refine v_iconst dX8_comes_20 (by decide) ?_
      refine v_istore (ls' := [_, _, _, _, _, _, _, _, _]) dX8_comes_21 rfl rfl rfl ?_
      refine v_kill (ls' := [_, _, _, _, _, _, _, _, _]) 5 rfl ?_
      exact inner 0 (by omega) (by omega) was had b1 b2 (sb_rf _) (sb_rf _) b5 (fun _ _ j hj => by omega)
  refine v_iload_n dX8_comes_0 rfl rfl ?_
  refine v_istore_n (ls' := [_, _, _, _, _, _, _, _, _]) dX8_comes_1 rfl rfl rfl rfl ?_
  refine v_iload_n dX8_comes_2 rfl rfl ?_
  refine v_istore (ls' := [_, _, _, _, _, _, _, _, _]) dX8_comes_3 rfl rfl rfl ?_
  refine v_iconst dX8_comes_5 (by decide) ?_
  refine v_istore (ls' := [_, _, _, _, _, _, _, _, _]) dX8_comes_6 rfl rfl rfl ?_
  exact key (op, ks) hop hks (sb_rf _) (sb_rf _) (fun T t1 t2 => ⟨sb_tr (sb_l _ _) t1, fun k hk q1 q2 => t1 _ (sb_r _ _ _ (ohN_bit.2 ⟨k, hk, q1, q2, rfl⟩))⟩)
end
