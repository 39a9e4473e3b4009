/-! StreetKeys: events come and go, counts, who comes in -/
theorem bOr_z {a : Nat} (ha : a < 2 ^ 31) : bOr (a : Int) 0 = (a : Int) := by
  have := bOr_nat (b := 0) ha (by decide)
  rwa [Nat.or_zero] at this
theorem mset_self (μ : Mem_) (o k : Nat) : mset μ o k (μ o k) = μ := by
  funext a b
  unfold mset
  split
  · rename_i h; rw [h.1, h.2]
  · rfl
theorem kbC_congr {μ μ' : Mem_} {n : Nat} (h : ∀ i, i < n → μ' 8 i = μ 8 i) : kbC μ' n = kbC μ n := smR_congr (fun k hk => by rw [h k hk])
theorem LVc_cut {nH nP n : Int} {μ : Mem_} (hl : LVc nH nP μ) (hn : 0 ≤ n ∧ n ≤ μ 7 0) : LVc nH nP (mset μ 7 0 n) := by
  have hl1 := hl.1
  refine ⟨by rw [mset_same]; omega, fun e he => ?_⟩
  rw [mset_same] at he
  have := hl.2 e (by omega)
  rw [kbC_congr (μ := μ) (fun i _ => mset_off (by omega)), mset_off (by omega), mset_off (by omega), mset_off (by omega), mset_off (by omega)]
  exact this
theorem addC_7_old {μ : Mem_} {k a b c : Int} {o i : Nat} (h : i ≠ (μ 7 0).toNat) (h2 : ¬ (o = 7 ∧ i = 0)) : addC_7 μ k a b c o i = μ o i := by
  unfold addC_7
  rw [mset_off (by omega), mset_off (by omega), mset_off (by omega), mset_off (by omega), mset_off (by omega)]
theorem addC_7_new {μ : Mem_} {k a b c : Int} : addC_7 μ k a b c 8 (μ 7 0).toNat = k ∧ addC_7 μ k a b c 9 (μ 7 0).toNat = a ∧ addC_7 μ k a b c 10 (μ 7 0).toNat = b ∧ addC_7 μ k a b c 11 (μ 7 0).toNat = c := by
  unfold addC_7
  refine ⟨?_, ?_, ?_, ?_⟩
  · rw [mset_off (by omega), mset_off (by omega), mset_off (by omega), mset_off (by omega), mset_same]
  · rw [mset_off (by omega), mset_off (by omega), mset_off (by omega), mset_same]
  · rw [mset_off (by omega), mset_off (by omega), mset_same]
  · rw [mset_off (by omega), mset_same]
theorem LVc_add {nH nP k a b c : Int} {μ : Mem_} (hl : LVc nH nP μ) (hn : μ 7 0 < 40) (hv : evOK nH nP (kbC μ (μ 7 0).toNat) k a b c) : LVc nH nP (addC_7 μ k a b c) := by
  have hl1 := hl.1
  refine ⟨by rw [addC_7_sz]; omega, fun e he => ?_⟩
  rw [addC_7_sz] at he
  have hk : kbC (addC_7 μ k a b c) e = kbC μ e := kbC_congr (fun i hi => addC_7_old (by omega) (by omega))
  rw [hk]
  by_cases hq : e = (μ 7 0).toNat
  · subst hq
    obtain ⟨e1, e2, e3, e4⟩ := addC_7_new (μ := μ) (k := k) (a := a) (b := b) (c := c)
    rw [e1, e2, e3, e4]
    exact hv
  · rw [addC_7_old hq (by omega), addC_7_old hq (by omega), addC_7_old hq (by omega), addC_7_old hq (by omega)]
    exact hl.2 e (by omega)
section
variable {μ : Mem_} {Q : PV → Mem_ → Prop}
abbrev chE (kind more : Int) : Int := if kind = 7 then (if more = 0 then -1 else 1) else 0
abbrev bE (kind b : Int) : Int := if kind = 6 then 0 else b
set_option maxRecDepth 10000 in
theorem c_X7_event {kind a b more : Int} (hst : isSt (stc μ)) (hs : StC μ (stc μ)) (hl : LVc (μ (stc μ) 0) (μ (stc μ) 1) μ) (hK : μ 17 0 = kbC μ (μ 7 0).toNat)
    (h1 : ¬ ieC (μ (stc μ) 0) (μ (stc μ) 1) (μ 17 0) kind a b → Q (I_ (-1)) μ) (h2 : ieC (μ (stc μ) 0) (μ (stc μ) 1) (μ 17 0) kind a b → (40 ≤ μ 7 0 ∨ (mkK kind ∧ 24 ≤ μ 17 0)) → Q (I_ (-2)) μ)
    (h3 : ieC (μ (stc μ) 0) (μ (stc μ) 1) (μ 17 0) kind a b → ¬ (40 ≤ μ 7 0 ∨ (mkK kind ∧ 24 ≤ μ 17 0)) → ∀ μ' : Mem_, (∀ o, o ≠ 25 → ∀ i, μ' o i = rpC (μ 7 0 + 1).toNat (rsC (addC_7 μ kind a (bE kind b) (chE kind more))) o i) → ReOK μ' → Q (I_ (μ 7 0)) μ') : V_ nX7_event 0 [R_ 0, I_ kind, I_ a, I_ b, I_ more, U_] [] μ Q := by
  have hs1 := hs.1
  have hs2 := hs.2.1
  have hl1 := hl.1
  have fin : ∀ bb cc : Int, bb = bE kind b → cc = chE kind more → ieC (μ (stc μ) 0) (μ (stc μ) 1) (μ 17 0) kind a b → ¬ (40 ≤ μ 7 0 ∨ (mkK kind ∧ 24 ≤ μ 17 0)) → V_ nX7_event 87 [R_ 0, I_ kind, I_ a, I_ b, I_ more, U_] [I_ cc, I_ bb, I_ a, I_ kind, R_ 7] μ Q := by
    intro bb cc hbb hcc q1 q2
    have hv : evOK (μ (stc μ) 0) (μ (stc μ) 1) (kbC μ (μ 7 0).toNat) kind a bb cc := by
      rw [← hK, hbb, hcc]
      unfold evOK bE chE
      rcases q1 with q | q | q | q | q
      · obtain ⟨rfl, qa, qb⟩ := q
        exact Or.inl ⟨rfl, qa, qb, by omega, rfl⟩
      · obtain ⟨qk, qa, qb⟩ := q
        rcases qk with rfl | rfl
        · exact Or.inr (Or.inl ⟨rfl, qa, qb, by omega, rfl⟩)
        · exact Or.inr (Or.inr (Or.inl ⟨rfl, qa, qb, rfl⟩))
      · obtain ⟨qk, qa, qb⟩ := q
        rcases qk with rfl | rfl
        · exact Or.inr (Or.inr (Or.inr (Or.inl ⟨rfl, qa, qb, rfl⟩)))
        · exact Or.inr (Or.inr (Or.inr (Or.inr (Or.inl ⟨rfl, qa, qb, rfl⟩))))
      · obtain ⟨rfl, qa⟩ := q
        exact Or.inr (Or.inr (Or.inr (Or.inr (Or.inr (Or.inl ⟨rfl, qa, rfl, rfl⟩)))))
      · obtain ⟨rfl, qa, qb, qc⟩ := q
        refine Or.inr (Or.inr (Or.inr (Or.inr (Or.inr (Or.inr ⟨rfl, qa, qb, qc, ?_⟩)))))
        rw [if_pos rfl]
        split
        · exact Or.inr rfl
        · exact Or.inl rfl
    have hl2 := LVc_add (a := a) (b := bb) (c := cc) (k := kind) hl (by omega) hv
    refine v_callVv [_, _, _, _] dX7_event_87 lX7_171 kvX0_add (plX0 _ _) rfl rfl rfl rfl rfl rfl rfl rfl rfl rfl (c_X0_add_7 (by omega) ?_)
    refine v_aload_n dX7_event_90 rfl rfl ?_
    refine v_getR dX7_event_91 fX7_34 rfl rfl rfl ?_
    refine v_aload_n dX7_event_94 rfl rfl ?_
    refine v_getR dX7_event_95 fX7_24 rfl rfl rfl ?_
    refine v_callVv [_] dX7_event_98 lX7_149 kvX2_replay (plX2 _ _) rfl rfl rfl rfl rfl rfl rfl rfl rfl rfl (c_X2_replay hs1.2 hs2.2 hl2 (fun μ' hf hre => ?_))
    refine v_aload_n dX7_event_101 rfl rfl ?_
    refine v_getR dX7_event_102 fX7_24 rfl rfl rfl ?_
    refine v_getI dX7_event_105 fX7_159 rfl rfl rfl ?_
    rw [hf 7 (by decide) 0, rpC_off (by omega), rsC_off (by omega), addC_7_sz]
    refine v_iconst dX7_event_108 (by decide) ?_
    refine v_isub dX7_event_109 (fun ha hb => by omega) ?_
    refine v_ireturn dX7_event_110 rfl ?_
    rw [addC_7_sz] at hf
    rw [hbb, hcc] at hf
    rw [show μ 7 0 + 1 - 1 = μ 7 0 by omega]
    exact h3 q1 q2 μ' hf hre
  refine v_aload_n dX7_event_0 rfl rfl ?_
  refine v_iload_n dX7_event_1 rfl rfl ?_
  refine v_iload_n dX7_event_2 rfl rfl ?_
  refine v_iload_n dX7_event_3 rfl rfl ?_
  refine v_callVi [_, _, _] dX7_event_4 lX7_162 kvX7_isEvent (plX7 _ _) (Or.inr rfl) rfl rfl rfl rfl rfl rfl rfl rfl rfl (c_X7_isEvent hst ?_)
  refine v_ifb_ne (tgt := 12) dX7_event_7 (by decide) (fun hc_7 => ?_) (fun hc_7 => ?_)
  · refine v_aload_n dX7_event_12 rfl rfl ?_
    refine v_getR dX7_event_13 fX7_24 rfl rfl rfl ?_
    refine v_getI dX7_event_16 fX7_159 rfl rfl rfl ?_
    refine v_bipush dX7_event_19 (by decide) ?_
    refine v_icmp_ge (tgt := 43) dX7_event_21 (by decide) (fun hc_21 => ?_) (fun hc_21 => ?_)
    · refine v_bipush dX7_event_43 (by decide) ?_
      refine v_ireturn dX7_event_45 rfl ?_
      exact h2 hc_7 (by omega)
    · refine v_iload_n dX7_event_24 rfl rfl ?_
      refine v_callSi [_] dX7_event_25 lX7_165 ksX0_makesKey (plX0 _ _) (Or.inr rfl) rfl rfl rfl rfl rfl rfl (c_X0_makesKey ?_)
      refine v_ifb_eq (tgt := 46) dX7_event_28 (by decide) (fun hc_28 => ?_) (fun hc_28 => ?_)
      · refine v_iload_n dX7_event_46 rfl rfl ?_
        refine v_bipush dX7_event_47 (by decide) ?_
        refine v_icmp_eq (tgt := 56) dX7_event_49 (by decide) (fun hc_49 => ?_) (fun hc_49 => ?_)
        · refine v_iload dX7_event_56 rfl ?_
          refine v_if_eq (tgt := 65) dX7_event_58 (by decide) (fun hc_58 => ?_) (fun hc_58 => ?_)
          · refine v_iconst dX7_event_65 (by decide) ?_
            refine v_istore (ls' := [_, _, _, _, _, _]) dX7_event_66 rfl rfl rfl ?_
            refine v_aload_n dX7_event_68 rfl rfl ?_
            refine v_getR dX7_event_69 fX7_24 rfl rfl rfl ?_
            refine v_iload_n dX7_event_72 rfl rfl ?_
            refine v_iload_n dX7_event_73 rfl rfl ?_
            refine v_iload_n dX7_event_74 rfl rfl ?_
            refine v_bipush dX7_event_75 (by decide) ?_
            refine v_icmp_ne (tgt := 84) dX7_event_77 (by decide) (fun hc_77 => ?_) (fun hc_77 => ?_)
            · refine v_iload_n dX7_event_84 rfl rfl ?_
              refine v_iload dX7_event_85 rfl ?_
              refine v_kill (ls' := [_, _, _, _, _, _]) 5 rfl ?_
              first | (exfalso; omega) | exact fin _ _ (by unfold bE; first | (rw [if_pos (by omega)]) | (rw [if_neg (by omega)])) (by unfold chE; first | (rw [if_neg (by omega)]) | (rw [if_pos (by omega), if_pos (by omega)]) | (rw [if_pos (by omega), if_neg (by omega)])) hc_7 (by omega)
            · refine v_iconst dX7_event_80 (by decide) ?_
              refine v_goto (tgt := 85) dX7_event_81 (by decide) ?_
              refine v_iload dX7_event_85 rfl ?_
              refine v_kill (ls' := [_, _, _, _, _, _]) 5 rfl ?_
              first | (exfalso; omega) | exact fin _ _ (by unfold bE; first | (rw [if_pos (by omega)]) | (rw [if_neg (by omega)])) (by unfold chE; first | (rw [if_neg (by omega)]) | (rw [if_pos (by omega), if_pos (by omega)]) | (rw [if_pos (by omega), if_neg (by omega)])) hc_7 (by omega)
          · refine v_iconst dX7_event_61 (by decide) ?_
            refine v_goto (tgt := 66) dX7_event_62 (by decide) ?_
            refine v_istore (ls' := [_, _, _, _, _, _]) dX7_event_66 rfl rfl rfl ?_
            refine v_aload_n dX7_event_68 rfl rfl ?_
            refine v_getR dX7_event_69 fX7_24 rfl rfl rfl ?_
            refine v_iload_n dX7_event_72 rfl rfl ?_
            refine v_iload_n dX7_event_73 rfl rfl ?_
            refine v_iload_n dX7_event_74 rfl rfl ?_
            refine v_bipush dX7_event_75 (by decide) ?_
            refine v_icmp_ne (tgt := 84) dX7_event_77 (by decide) (fun hc_77 => ?_) (fun hc_77 => ?_)
            · refine v_iload_n dX7_event_84 rfl rfl ?_
              refine v_iload dX7_event_85 rfl ?_
              refine v_kill (ls' := [_, _, _, _, _, _]) 5 rfl ?_
              first | (exfalso; omega) | exact fin _ _ (by unfold bE; first | (rw [if_pos (by omega)]) | (rw [if_neg (by omega)])) (by unfold chE; first | (rw [if_neg (by omega)]) | (rw [if_pos (by omega), if_pos (by omega)]) | (rw [if_pos (by omega), if_neg (by omega)])) hc_7 (by omega)
            · refine v_iconst dX7_event_80 (by decide) ?_
              refine v_goto (tgt := 85) dX7_event_81 (by decide) ?_
              refine v_iload dX7_event_85 rfl ?_
              refine v_kill (ls' := [_, _, _, _, _, _]) 5 rfl ?_
              first | (exfalso; omega) | exact fin _ _ (by unfold bE; first | (rw [if_pos (by omega)]) | (rw [if_neg (by omega)])) (by unfold chE; first | (rw [if_neg (by omega)]) | (rw [if_pos (by omega), if_pos (by omega)]) | (rw [if_pos (by omega), if_neg (by omega)])) hc_7 (by omega)
        · refine v_iconst dX7_event_52 (by decide) ?_
          refine v_goto (tgt := 66) dX7_event_53 (by decide) ?_
          refine v_istore (ls' := [_, _, _, _, _, _]) dX7_event_66 rfl rfl rfl ?_
          refine v_aload_n dX7_event_68 rfl rfl ?_
          refine v_getR dX7_event_69 fX7_24 rfl rfl rfl ?_
          refine v_iload_n dX7_event_72 rfl rfl ?_
          refine v_iload_n dX7_event_73 rfl rfl ?_
          refine v_iload_n dX7_event_74 rfl rfl ?_
          refine v_bipush dX7_event_75 (by decide) ?_
          refine v_icmp_ne (tgt := 84) dX7_event_77 (by decide) (fun hc_77 => ?_) (fun hc_77 => ?_)
          · refine v_iload_n dX7_event_84 rfl rfl ?_
            refine v_iload dX7_event_85 rfl ?_
            refine v_kill (ls' := [_, _, _, _, _, _]) 5 rfl ?_
            first | (exfalso; omega) | exact fin _ _ (by unfold bE; first | (rw [if_pos (by omega)]) | (rw [if_neg (by omega)])) (by unfold chE; first | (rw [if_neg (by omega)]) | (rw [if_pos (by omega), if_pos (by omega)]) | (rw [if_pos (by omega), if_neg (by omega)])) hc_7 (by omega)
          · refine v_iconst dX7_event_80 (by decide) ?_
            refine v_goto (tgt := 85) dX7_event_81 (by decide) ?_
            refine v_iload dX7_event_85 rfl ?_
            refine v_kill (ls' := [_, _, _, _, _, _]) 5 rfl ?_
            first | (exfalso; omega) | exact fin _ _ (by unfold bE; first | (rw [if_pos (by omega)]) | (rw [if_neg (by omega)])) (by unfold chE; first | (rw [if_neg (by omega)]) | (rw [if_pos (by omega), if_pos (by omega)]) | (rw [if_pos (by omega), if_neg (by omega)])) hc_7 (by omega)
      · refine v_aload_n dX7_event_31 rfl rfl ?_
        refine v_getR dX7_event_32 fX7_34 rfl rfl rfl ?_
        refine v_getI dX7_event_35 fX7_168 rfl rfl rfl ?_
        refine v_bipush dX7_event_38 (by decide) ?_
        refine v_icmp_lt (tgt := 46) dX7_event_40 (by decide) (fun hc_40 => ?_) (fun hc_40 => ?_)
        · refine v_iload_n dX7_event_46 rfl rfl ?_
          refine v_bipush dX7_event_47 (by decide) ?_
          refine v_icmp_eq (tgt := 56) dX7_event_49 (by decide) (fun hc_49 => ?_) (fun hc_49 => ?_)
          · refine v_iload dX7_event_56 rfl ?_
            refine v_if_eq (tgt := 65) dX7_event_58 (by decide) (fun hc_58 => ?_) (fun hc_58 => ?_)
            · refine v_iconst dX7_event_65 (by decide) ?_
              refine v_istore (ls' := [_, _, _, _, _, _]) dX7_event_66 rfl rfl rfl ?_
              refine v_aload_n dX7_event_68 rfl rfl ?_
              refine v_getR dX7_event_69 fX7_24 rfl rfl rfl ?_
              refine v_iload_n dX7_event_72 rfl rfl ?_
              refine v_iload_n dX7_event_73 rfl rfl ?_
              refine v_iload_n dX7_event_74 rfl rfl ?_
              refine v_bipush dX7_event_75 (by decide) ?_
              refine v_icmp_ne (tgt := 84) dX7_event_77 (by decide) (fun hc_77 => ?_) (fun hc_77 => ?_)
              · refine v_iload_n dX7_event_84 rfl rfl ?_
                refine v_iload dX7_event_85 rfl ?_
                refine v_kill (ls' := [_, _, _, _, _, _]) 5 rfl ?_
                first | (exfalso; omega) | exact fin _ _ (by unfold bE; first | (rw [if_pos (by omega)]) | (rw [if_neg (by omega)])) (by unfold chE; first | (rw [if_neg (by omega)]) | (rw [if_pos (by omega), if_pos (by omega)]) | (rw [if_pos (by omega), if_neg (by omega)])) hc_7 (by omega)
              · refine v_iconst dX7_event_80 (by decide) ?_
                refine v_goto (tgt := 85) dX7_event_81 (by decide) ?_
                refine v_iload dX7_event_85 rfl ?_
                refine v_kill (ls' := [_, _, _, _, _, _]) 5 rfl ?_
                first | (exfalso; omega) | exact fin _ _ (by unfold bE; first | (rw [if_pos (by omega)]) | (rw [if_neg (by omega)])) (by unfold chE; first | (rw [if_neg (by omega)]) | (rw [if_pos (by omega), if_pos (by omega)]) | (rw [if_pos (by omega), if_neg (by omega)])) hc_7 (by omega)
            · refine v_iconst dX7_event_61 (by decide) ?_
              refine v_goto (tgt := 66) dX7_event_62 (by decide) ?_
              refine v_istore (ls' := [_, _, _, _, _, _]) dX7_event_66 rfl rfl rfl ?_
              refine v_aload_n dX7_event_68 rfl rfl ?_
              refine v_getR dX7_event_69 fX7_24 rfl rfl rfl ?_
              refine v_iload_n dX7_event_72 rfl rfl ?_
              refine v_iload_n dX7_event_73 rfl rfl ?_
              refine v_iload_n dX7_event_74 rfl rfl ?_
              refine v_bipush dX7_event_75 (by decide) ?_
              refine v_icmp_ne (tgt := 84) dX7_event_77 (by decide) (fun hc_77 => ?_) (fun hc_77 => ?_)
              · refine v_iload_n dX7_event_84 rfl rfl ?_
                refine v_iload dX7_event_85 rfl ?_
                refine v_kill (ls' := [_, _, _, _, _, _]) 5 rfl ?_
                first | (exfalso; omega) | exact fin _ _ (by unfold bE; first | (rw [if_pos (by omega)]) | (rw [if_neg (by omega)])) (by unfold chE; first | (rw [if_neg (by omega)]) | (rw [if_pos (by omega), if_pos (by omega)]) | (rw [if_pos (by omega), if_neg (by omega)])) hc_7 (by omega)
              · refine v_iconst dX7_event_80 (by decide) ?_
                refine v_goto (tgt := 85) dX7_event_81 (by decide) ?_
                refine v_iload dX7_event_85 rfl ?_
                refine v_kill (ls' := [_, _, _, _, _, _]) 5 rfl ?_
                first | (exfalso; omega) | exact fin _ _ (by unfold bE; first | (rw [if_pos (by omega)]) | (rw [if_neg (by omega)])) (by unfold chE; first | (rw [if_neg (by omega)]) | (rw [if_pos (by omega), if_pos (by omega)]) | (rw [if_pos (by omega), if_neg (by omega)])) hc_7 (by omega)
          · refine v_iconst dX7_event_52 (by decide) ?_
            refine v_goto (tgt := 66) dX7_event_53 (by decide) ?_
            refine v_istore (ls' := [_, _, _, _, _, _]) dX7_event_66 rfl rfl rfl ?_
            refine v_aload_n dX7_event_68 rfl rfl ?_
            refine v_getR dX7_event_69 fX7_24 rfl rfl rfl ?_
            refine v_iload_n dX7_event_72 rfl rfl ?_
            refine v_iload_n dX7_event_73 rfl rfl ?_
            refine v_iload_n dX7_event_74 rfl rfl ?_
            refine v_bipush dX7_event_75 (by decide) ?_
            refine v_icmp_ne (tgt := 84) dX7_event_77 (by decide) (fun hc_77 => ?_) (fun hc_77 => ?_)
            · refine v_iload_n dX7_event_84 rfl rfl ?_
              refine v_iload dX7_event_85 rfl ?_
              refine v_kill (ls' := [_, _, _, _, _, _]) 5 rfl ?_
              first | (exfalso; omega) | exact fin _ _ (by unfold bE; first | (rw [if_pos (by omega)]) | (rw [if_neg (by omega)])) (by unfold chE; first | (rw [if_neg (by omega)]) | (rw [if_pos (by omega), if_pos (by omega)]) | (rw [if_pos (by omega), if_neg (by omega)])) hc_7 (by omega)
            · refine v_iconst dX7_event_80 (by decide) ?_
              refine v_goto (tgt := 85) dX7_event_81 (by decide) ?_
              refine v_iload dX7_event_85 rfl ?_
              refine v_kill (ls' := [_, _, _, _, _, _]) 5 rfl ?_
              first | (exfalso; omega) | exact fin _ _ (by unfold bE; first | (rw [if_pos (by omega)]) | (rw [if_neg (by omega)])) (by unfold chE; first | (rw [if_neg (by omega)]) | (rw [if_pos (by omega), if_pos (by omega)]) | (rw [if_pos (by omega), if_neg (by omega)])) hc_7 (by omega)
        · refine v_bipush dX7_event_43 (by decide) ?_
          refine v_ireturn dX7_event_45 rfl ?_
          exact h2 hc_7 (by omega)
  · refine v_iconst dX7_event_10 (by decide) ?_
    refine v_ireturn dX7_event_11 rfl ?_
    exact h1 hc_7
set_option maxRecDepth 10000 in
theorem c_X7_back {n : Int} (hst : isSt (stc μ)) (hs : StC μ (stc μ)) (hl : LVc (μ (stc μ) 0) (μ (stc μ) 1) μ)
    (h1 : ¬ (0 ≤ n ∧ n ≤ μ 7 0) → Q (I_ (-1)) μ) (h2 : (0 ≤ n ∧ n ≤ μ 7 0) → ∀ μ' : Mem_, (∀ o, o ≠ 25 → ∀ i, μ' o i = rpC n.toNat (rsC (mset μ 7 0 n)) o i) → ReOK μ' → Q (I_ (μ 7 0 - n)) μ') : V_ nX7_back 0 [R_ 0, I_ n, U_] [] μ Q := by
  have hs1 := hs.1
  have hs2 := hs.2.1
  have hl1 := hl.1
  have e1 : (0 ≤ n ∧ n ≤ μ 7 0) → (if 0 ≤ n ∧ n < μ 7 0 then mset μ 7 0 n else μ) = mset μ 7 0 n := by
    intro q
    split
    · rfl
    · rw [show n = μ 7 0 by omega, mset_self]
  refine v_iload_n dX7_back_0 rfl rfl ?_
  refine v_if_lt (tgt := 15) dX7_back_1 (by decide) (fun hc_1 => ?_) (fun hc_1 => ?_)
  · refine v_iconst dX7_back_15 (by decide) ?_
    refine v_ireturn dX7_back_16 rfl ?_
    exact h1 (by omega)
  · refine v_iload_n dX7_back_4 rfl rfl ?_
    refine v_aload_n dX7_back_5 rfl rfl ?_
    refine v_getR dX7_back_6 fX7_24 rfl rfl rfl ?_
    refine v_getI dX7_back_9 fX7_159 rfl rfl rfl ?_
    refine v_icmp_le (tgt := 17) dX7_back_12 (by decide) (fun hc_12 => ?_) (fun hc_12 => ?_)
    · refine v_aload_n dX7_back_17 rfl rfl ?_
      refine v_getR dX7_back_18 fX7_24 rfl rfl rfl ?_
      refine v_getI dX7_back_21 fX7_159 rfl rfl rfl ?_
      refine v_iload_n dX7_back_24 rfl rfl ?_
      refine v_isub dX7_back_25 (fun ha hb => by omega) ?_
      refine v_istore_n (ls' := [_, _, _]) dX7_back_26 rfl rfl rfl rfl ?_
      refine v_aload_n dX7_back_27 rfl rfl ?_
      refine v_getR dX7_back_28 fX7_24 rfl rfl rfl ?_
      refine v_iload_n dX7_back_31 rfl rfl ?_
      refine v_callVv [_] dX7_back_32 lX7_146 kvX0_cutTo (plX0 _ _) rfl rfl rfl rfl rfl rfl rfl rfl rfl rfl (c_X0_cutTo_7 ?_)
      rw [e1 (by omega)]
      refine v_aload_n dX7_back_35 rfl rfl ?_
      refine v_getR dX7_back_36 fX7_34 rfl rfl rfl ?_
      refine v_aload_n dX7_back_39 rfl rfl ?_
      refine v_getR dX7_back_40 fX7_24 rfl rfl rfl ?_
      refine v_callVv [_] dX7_back_43 lX7_149 kvX2_replay (plX2 _ _) rfl rfl rfl rfl rfl rfl rfl rfl rfl rfl (c_X2_replay hs1.2 hs2.2 (LVc_cut hl (by omega)) (fun μ' hf hre => ?_))
      refine v_iload_n dX7_back_46 rfl rfl ?_
      refine v_ireturn dX7_back_47 rfl ?_
      rw [mset_same] at hf
      exact h2 (by omega) μ' hf hre
    · refine v_iconst dX7_back_15 (by decide) ?_
      refine v_ireturn dX7_back_16 rfl ?_
      exact h1 (by omega)
def ctC (μ : Mem_) (what : Int) : Int := if what = 0 then μ (stc μ) 0 else if what = 1 then μ (stc μ) 1 else if what = 2 then μ 17 0 else if what = 3 then smR (μ 17 0).toNat (fun k => b2i (liveC μ k)) else if what = 4 then μ 7 0 else if what = 5 then kbC μ (μ 7 0).toNat else if what = 6 then smR 6 (fun r => b2i (0 ≤ μ 2 r)) else smR 4 (fun r => b2i (0 ≤ μ 5 r))
set_option maxRecDepth 10000 in
theorem c_X7_count {what : Int} (hst : isSt (stc μ)) (hp : PIc μ) (hl : 0 ≤ μ 7 0 ∧ μ 7 0 ≤ 40) (h1 : ¬ (0 ≤ what ∧ what ≤ 7) → Q (I_ (-1)) μ) (h2 : (0 ≤ what ∧ what ≤ 7) → Q (I_ (ctC μ what)) μ) : V_ nX7_count 0 [R_ 0, I_ what] [] μ Q := by
  unfold ctC at h2
  refine v_iload_n dX7_count_0 rfl rfl ?_
  rcases (show what < 0 ∨ 7 < what ∨ what = 0 ∨ what = 1 ∨ what = 2 ∨ what = 3 ∨ what = 4 ∨ what = 5 ∨ what = 6 ∨ what = 7 by omega) with hsw | hsw | hsw | hsw | hsw | hsw | hsw | hsw | hsw | hsw
  · refine v_tableOut (tgt := 119) dX7_count_1 (Or.inl hsw) (by decide) ?_
    refine v_iconst dX7_count_119 (by decide) ?_
    refine v_ireturn dX7_count_120 rfl ?_
    exact h1 (by omega)
  · refine v_tableOut (tgt := 119) dX7_count_1 (Or.inr hsw) (by decide) ?_
    refine v_iconst dX7_count_119 (by decide) ?_
    refine v_ireturn dX7_count_120 rfl ?_
    exact h1 (by omega)
  · refine v_tableIn (off := 47) (tgt := 48) dX7_count_1 (by rw [hsw]; decide) (by rw [hsw]; decide) (by rw [hsw]; decide) (by decide) ?_
    refine v_aload_n dX7_count_48 rfl rfl ?_
    refine v_getX dX7_count_49 fX7_66 rfl rfl rfl ?_
    show V_ _ _ _ (R_ (stc _) :: _) _ _
    refine v_getI dX7_count_52 fX7_153 (shp_st hst) (fk_st0 hst) rfl ?_
    refine v_ireturn dX7_count_55 rfl ?_
    have h2 := h2 (by omega)
    rwa [if_pos (by omega)] at h2
  · refine v_tableIn (off := 55) (tgt := 56) dX7_count_1 (by rw [hsw]; decide) (by rw [hsw]; decide) (by rw [hsw]; decide) (by decide) ?_
    refine v_aload_n dX7_count_56 rfl rfl ?_
    refine v_getX dX7_count_57 fX7_66 rfl rfl rfl ?_
    show V_ _ _ _ (R_ (stc _) :: _) _ _
    refine v_getI dX7_count_60 fX7_226 (shp_st hst) (fk_st1 hst) rfl ?_
    refine v_ireturn dX7_count_63 rfl ?_
    have h2 := h2 (by omega)
    rwa [if_neg (by omega), if_pos (by omega)] at h2
  · refine v_tableIn (off := 63) (tgt := 64) dX7_count_1 (by rw [hsw]; decide) (by rw [hsw]; decide) (by rw [hsw]; decide) (by decide) ?_
    refine v_aload_n dX7_count_64 rfl rfl ?_
    refine v_getR dX7_count_65 fX7_34 rfl rfl rfl ?_
    refine v_getI dX7_count_68 fX7_168 rfl rfl rfl ?_
    refine v_ireturn dX7_count_71 rfl ?_
    have h2 := h2 (by omega)
    rwa [if_neg (by omega), if_neg (by omega), if_pos (by omega)] at h2
  · refine v_tableIn (off := 71) (tgt := 72) dX7_count_1 (by rw [hsw]; decide) (by rw [hsw]; decide) (by rw [hsw]; decide) (by decide) ?_
    refine v_aload_n dX7_count_72 rfl rfl ?_
    refine v_getR dX7_count_73 fX7_34 rfl rfl rfl ?_
    refine v_callVi [] dX7_count_76 lX7_309 kvX2_liveKeys (plX2 _ _) (Or.inl rfl) rfl rfl rfl rfl rfl rfl rfl rfl rfl (c_X2_liveKeys hp ?_)
    refine v_ireturn dX7_count_79 rfl ?_
    have h2 := h2 (by omega)
    rwa [if_neg (by omega), if_neg (by omega), if_neg (by omega), if_pos (by omega)] at h2
  · refine v_tableIn (off := 79) (tgt := 80) dX7_count_1 (by rw [hsw]; decide) (by rw [hsw]; decide) (by rw [hsw]; decide) (by decide) ?_
    refine v_aload_n dX7_count_80 rfl rfl ?_
    refine v_getR dX7_count_81 fX7_24 rfl rfl rfl ?_
    refine v_getI dX7_count_84 fX7_159 rfl rfl rfl ?_
    refine v_ireturn dX7_count_87 rfl ?_
    have h2 := h2 (by omega)
    rwa [if_neg (by omega), if_neg (by omega), if_neg (by omega), if_neg (by omega), if_pos (by omega)] at h2
  · refine v_tableIn (off := 87) (tgt := 88) dX7_count_1 (by rw [hsw]; decide) (by rw [hsw]; decide) (by rw [hsw]; decide) (by decide) ?_
    refine v_aload_n dX7_count_88 rfl rfl ?_
    refine v_getR dX7_count_89 fX7_24 rfl rfl rfl ?_
    refine v_aload_n dX7_count_92 rfl rfl ?_
    refine v_getR dX7_count_93 fX7_24 rfl rfl rfl ?_
    refine v_getI dX7_count_96 fX7_159 rfl rfl rfl ?_
    refine v_callVi [_] dX7_count_99 lX7_186 kvX0_keysBefore (plX0 _ _) (Or.inl rfl) rfl rfl rfl rfl rfl rfl rfl rfl rfl (c_X0_keysBefore (by omega) (by omega) ?_)
    refine v_ireturn dX7_count_102 rfl ?_
    have h2 := h2 (by omega)
    rwa [if_neg (by omega), if_neg (by omega), if_neg (by omega), if_neg (by omega), if_neg (by omega), if_pos (by omega)] at h2
  · refine v_tableIn (off := 102) (tgt := 103) dX7_count_1 (by rw [hsw]; decide) (by rw [hsw]; decide) (by rw [hsw]; decide) (by decide) ?_
    refine v_aload_n dX7_count_103 rfl rfl ?_
    refine v_getR dX7_count_104 fX7_14 rfl rfl rfl ?_
    refine v_callVi [] dX7_count_107 lX7_312 kvX4_present (plX4 _ _) (Or.inl rfl) rfl rfl rfl rfl rfl rfl rfl rfl rfl (c_X4_present_1 ?_)
    refine v_ireturn dX7_count_110 rfl ?_
    have h2 := h2 (by omega)
    rwa [if_neg (by omega), if_neg (by omega), if_neg (by omega), if_neg (by omega), if_neg (by omega), if_neg (by omega), if_pos (by omega)] at h2
  · refine v_tableIn (off := 110) (tgt := 111) dX7_count_1 (by rw [hsw]; decide) (by rw [hsw]; decide) (by rw [hsw]; decide) (by decide) ?_
    refine v_aload_n dX7_count_111 rfl rfl ?_
    refine v_getR dX7_count_112 fX7_18 rfl rfl rfl ?_
    refine v_callVi [] dX7_count_115 lX7_312 kvX4_present (plX4 _ _) (Or.inl rfl) rfl rfl rfl rfl rfl rfl rfl rfl rfl (c_X4_present_4 ?_)
    refine v_ireturn dX7_count_118 rfl ?_
    have h2 := h2 (by omega)
    rwa [if_neg (by omega), if_neg (by omega), if_neg (by omega), if_neg (by omega), if_neg (by omega), if_neg (by omega), if_neg (by omega)] at h2
abbrev ddC (μ : Mem_) (h : Int) (k : Nat) : Prop := μ 18 k = h ∧ ¬ liveC μ k
def dhF (μ : Mem_) (h : Int) (k : Nat) : Nat := if ddC μ h k ∧ μ 20 k = 0 then 2 ^ (μ 21 k).toNat else 0
set_option maxRecDepth 10000 in
theorem c_X7_dead {h : Int} (hst : isSt (stc μ)) (hp : PIc μ) (h1 : ¬ (0 ≤ h ∧ h < μ (stc μ) 0) → Q (I_ (-1)) μ) (h2 : (0 ≤ h ∧ h < μ (stc μ) 0) → Q (I_ (smR (μ 17 0).toNat (fun k => b2i (ddC μ h k)))) (tlC μ (orR (μ 17 0).toNat (dhF μ h)))) : V_ nX7_dead 0 [R_ 0, I_ h, U_, U_, U_] [] μ Q := by
  have hp1 := hp.1
  have lp : (0 ≤ h ∧ h < μ (stc μ) 0) → ∀ k : Int, 0 ≤ k → k ≤ μ 17 0 → ∀ a b : Int, a = smR k.toNat (fun k => b2i (ddC μ h k)) → 0 ≤ a ∧ a ≤ k → b = ((orR k.toNat (dhF μ h) : Nat) : Int) → V_ nX7_dead 17 [R_ 0, I_ h, I_ a, I_ b, I_ k] [] μ Q := by
    intro hh
    refine loop_up _ (fun k h0 h1 ih => ?_)
    intro a b ha hab hb
    have hf : k < μ 17 0 → ∀ j, j ≤ k.toNat → dhF μ h j < 2 ^ 31 := by
      intro hk j hj
      have := hp.2 j (by omega)
      unfold dhF
      split
      · exact pow2_31 (by omega)
      · decide
    have hbk : k < μ 17 0 → _ := fun hk => hp.2 k.toNat (by omega)
    have s0 : k < μ 17 0 → ¬ ddC μ h k.toNat → V_ nX7_dead 90 [R_ 0, I_ h, I_ a, I_ b, I_ k] [] μ Q := by
      intro hk hd
      refine v_iinc (ls' := [_, _, _, _, _]) dX7_dead_90 rfl (fun hi_90 => by omega) rfl rfl ?_
      refine v_goto (tgt := 17) dX7_dead_93 (by decide) ?_
      refine ih hk a b (by rw [← smS h0 ha (b2i_f hd)]; omega) (by omega) ?_
      rw [← orS h0 hb (x := dhF μ h k.toNat) (b := 0) (by unfold dhF; rw [if_neg (fun q => hd q.1)]; rfl) rfl (hf hk)]
      rw [hb, show (0 : Int) = ((0 : Nat) : Int) from rfl, bOr_nat (orR_lt (fun j hj => hf hk j (by omega))) (by decide), Nat.or_zero]
    refine v_iload dX7_dead_17 rfl ?_
    refine v_aload_n dX7_dead_19 rfl rfl ?_
    refine v_getR dX7_dead_20 fX7_34 rfl rfl rfl ?_
    refine v_getI dX7_dead_23 fX7_168 rfl rfl rfl ?_
    refine v_icmp_ge (tgt := 96) dX7_dead_26 (by decide) (fun hc_26 => ?_) (fun hc_26 => ?_)
    · refine v_aload_n dX7_dead_96 rfl rfl ?_
      refine v_iload_n dX7_dead_97 rfl rfl ?_
      refine v_callVi [_] dX7_dead_98 lX7_103 kvX7_tell (plX7 _ _) (Or.inl rfl) rfl rfl rfl rfl rfl rfl rfl rfl rfl (c_X7_tell ?_)
      refine v_pop dX7_dead_101 ?_
      refine v_iload_n dX7_dead_102 rfl rfl ?_
      refine v_ireturn dX7_dead_103 rfl ?_
      rw [show k = μ 17 0 by omega] at ha hb
      rw [ha, hb]
      exact h2 hh
    · refine v_aload_n dX7_dead_29 rfl rfl ?_
      refine v_getR dX7_dead_30 fX7_34 rfl rfl rfl ?_
      refine v_getR dX7_dead_33 fX7_286 rfl rfl rfl ?_
      refine v_iload dX7_dead_36 rfl ?_
      refine v_iald dX7_dead_38 rfl (by omega) (by omega) ?_
      refine v_iload_n dX7_dead_39 rfl rfl ?_
      refine v_icmp_ne (tgt := 90) dX7_dead_40 (by decide) (fun hc_40 => ?_) (fun hc_40 => ?_)
      · exact s0 (by omega) (by omega)
      · refine v_aload_n dX7_dead_43 rfl rfl ?_
        refine v_getR dX7_dead_44 fX7_34 rfl rfl rfl ?_
        refine v_iload dX7_dead_47 rfl ?_
        refine v_callVi [_] dX7_dead_49 lX7_289 kvX2_isLive (plX2 _ _) (Or.inr rfl) rfl rfl rfl rfl rfl rfl rfl rfl rfl (c_X2_isLive hp (by omega) ?_)
        refine v_ifb_ne (tgt := 90) dX7_dead_52 (by decide) (fun hc_52 => ?_) (fun hc_52 => ?_)
        · exact s0 (by omega) (by omega)
        · refine v_iinc (ls' := [_, _, _, _, _]) dX7_dead_55 rfl (fun hi_55 => by omega) rfl rfl ?_
          refine v_iload_n dX7_dead_58 rfl rfl ?_
          refine v_aload_n dX7_dead_59 rfl rfl ?_
          refine v_getR dX7_dead_60 fX7_34 rfl rfl rfl ?_
          refine v_getR dX7_dead_63 fX7_292 rfl rfl rfl ?_
          refine v_iload dX7_dead_66 rfl ?_
          refine v_iald dX7_dead_68 rfl (by omega) (by omega) ?_
          refine v_if_ne (tgt := 87) dX7_dead_69 (by decide) (fun hc_69 => ?_) (fun hc_69 => ?_)
          · refine v_iconst dX7_dead_87 (by decide) ?_
            refine v_ior dX7_dead_88 ?_
            refine v_istore_n (ls' := [_, _, _, _, _]) dX7_dead_89 rfl rfl rfl rfl ?_
            have hbk := hbk (by omega)
            refine v_iinc (ls' := [_, _, _, _, _]) dX7_dead_90 rfl (fun hi_90 => by omega) rfl rfl ?_
            refine v_goto (tgt := 17) dX7_dead_93 (by decide) ?_
            refine ih (by omega) _ _ (smS h0 ha (b2i_t ⟨by omega, by omega⟩)) (by omega) (orS h0 hb (x := dhF μ h k.toNat) ?_ rfl (hf (by omega)))
            unfold dhF
            rw [if_neg (by omega)]
            rfl
          · refine v_iconst dX7_dead_72 (by decide) ?_
            refine v_aload_n dX7_dead_73 rfl rfl ?_
            refine v_getR dX7_dead_74 fX7_34 rfl rfl rfl ?_
            refine v_getR dX7_dead_77 fX7_295 rfl rfl rfl ?_
            refine v_iload dX7_dead_80 rfl ?_
            refine v_iald dX7_dead_82 rfl (by omega) (by omega) ?_
            refine v_ishl dX7_dead_83 ?_
            refine v_goto (tgt := 88) dX7_dead_84 (by decide) ?_
            refine v_ior dX7_dead_88 ?_
            refine v_istore_n (ls' := [_, _, _, _, _]) dX7_dead_89 rfl rfl rfl rfl ?_
            have hbk := hbk (by omega)
            refine v_iinc (ls' := [_, _, _, _, _]) dX7_dead_90 rfl (fun hi_90 => by omega) rfl rfl ?_
            refine v_goto (tgt := 17) dX7_dead_93 (by decide) ?_
            refine ih (by omega) _ _ (smS h0 ha (b2i_t ⟨by omega, by omega⟩)) (by omega) (orS h0 hb (x := dhF μ h k.toNat) ?_ rfl (hf (by omega)))
            unfold dhF
            rw [if_pos (by omega)]
            exact bShl_one (by omega) (by omega)
  refine v_aload_n dX7_dead_0 rfl rfl ?_
  refine v_iload_n dX7_dead_1 rfl rfl ?_
  refine v_callVi [_] dX7_dead_2 lX7_195 kvX7_isHouse (plX7 _ _) (Or.inr rfl) rfl rfl rfl rfl rfl rfl rfl rfl rfl (c_X7_isHouse hst ?_)
  refine v_ifb_ne (tgt := 10) dX7_dead_5 (by decide) (fun hc_5 => ?_) (fun hc_5 => ?_)
  · refine v_iconst dX7_dead_10 (by decide) ?_
    refine v_istore_n (ls' := [_, _, _, _, _]) dX7_dead_11 rfl rfl rfl rfl ?_
    refine v_iconst dX7_dead_12 (by decide) ?_
    refine v_istore_n (ls' := [_, _, _, _, _]) dX7_dead_13 rfl rfl rfl rfl ?_
    refine v_iconst dX7_dead_14 (by decide) ?_
    refine v_istore (ls' := [_, _, _, _, _]) dX7_dead_15 rfl rfl rfl ?_
    exact lp hc_5 0 (by omega) (by omega) 0 0 rfl (by omega) rfl
  · refine v_iconst dX7_dead_8 (by decide) ?_
    refine v_ireturn dX7_dead_9 rfl ?_
    exact h1 hc_5
def unC (μ : Mem_) (p own : Int) : Nat := cfN μ (if own = 0 then opensC μ 1 (-1) else opensC μ 1 (-1) ||| opensC μ 0 p)
theorem unC_lt {μ : Mem_} (hp : PIc μ) (hre : ReOK μ) (p own : Int) : unC μ p own < 2 ^ 6 := by
  refine cfN_lt hre ?_
  split
  · exact opens_lt hp _ _
  · exact Nat.or_lt_two_pow (opens_lt hp _ _) (opens_lt hp _ _)
set_option maxRecDepth 10000 in
theorem c_X7_comesUnaided {p own : Int} (hp : PIc μ) (hre : ReOK μ) (hq : Q (I_ (unC μ p own : Int)) μ) : V_ nX7_comesUnaided 0 [R_ 0, I_ p, I_ own, U_] [] μ Q := by
  have g1 := opens_lt hp 1 (-1)
  have g2 := opens_lt hp 0 p
  have g3 := Nat.or_lt_two_pow g1 g2
  have hre2 := re_b hre
  refine v_aload_n dX7_comesUnaided_0 rfl rfl ?_
  refine v_getR dX7_comesUnaided_1 fX7_34 rfl rfl rfl ?_
  refine v_iconst dX7_comesUnaided_4 (by decide) ?_
  refine v_iconst dX7_comesUnaided_5 (by decide) ?_
  refine v_callVi [_, _] dX7_comesUnaided_6 lX7_247 kvX2_opens (plX2 _ _) (Or.inl rfl) rfl rfl rfl rfl rfl rfl rfl rfl rfl (c_X2_opens hp ?_)
  refine v_istore_n (ls' := [_, _, _, _]) dX7_comesUnaided_9 rfl rfl rfl rfl ?_
  refine v_aload_n dX7_comesUnaided_10 rfl rfl ?_
  refine v_getR dX7_comesUnaided_11 fX7_34 rfl rfl rfl ?_
  refine v_iload_n dX7_comesUnaided_14 rfl rfl ?_
  refine v_if_eq (tgt := 32) dX7_comesUnaided_15 (by decide) (fun hc_15 => ?_) (fun hc_15 => ?_)
  · refine v_iload_n dX7_comesUnaided_32 rfl rfl ?_
    refine v_callVi [_] dX7_comesUnaided_33 lX7_258 kvX2_comesFrom (plX2 _ _) (Or.inl rfl) rfl rfl rfl rfl rfl rfl rfl rfl rfl (c_X2_comesFrom (by omega) hre2 (by omega) ?_)
    refine v_ireturn dX7_comesUnaided_36 rfl ?_
    rw [unC, if_pos hc_15] at hq
    exact hq
  · refine v_iload_n dX7_comesUnaided_18 rfl rfl ?_
    refine v_aload_n dX7_comesUnaided_19 rfl rfl ?_
    refine v_getR dX7_comesUnaided_20 fX7_34 rfl rfl rfl ?_
    refine v_iconst dX7_comesUnaided_23 (by decide) ?_
    refine v_iload_n dX7_comesUnaided_24 rfl rfl ?_
    refine v_callVi [_, _] dX7_comesUnaided_25 lX7_247 kvX2_opens (plX2 _ _) (Or.inl rfl) rfl rfl rfl rfl rfl rfl rfl rfl rfl (c_X2_opens hp ?_)
    refine v_ior dX7_comesUnaided_28 ?_
    rw [bOr_nat (by omega) (by omega)]
    refine v_goto (tgt := 33) dX7_comesUnaided_29 (by decide) ?_
    refine v_callVi [_] dX7_comesUnaided_33 lX7_258 kvX2_comesFrom (plX2 _ _) (Or.inl rfl) rfl rfl rfl rfl rfl rfl rfl rfl rfl (c_X2_comesFrom (by omega) hre2 (by omega) ?_)
    refine v_ireturn dX7_comesUnaided_36 rfl ?_
    rw [unC, if_neg hc_15] at hq
    exact hq
set_option maxRecDepth 10000 in
theorem c_X7_comesAlone {p : Int} (hp : PIc μ) (hre : ReOK μ) (hq : Q (I_ (unC μ p 1 : Int)) μ) : V_ nX7_comesAlone 0 [R_ 0, I_ p] [] μ Q := by
  refine v_aload_n dX7_comesAlone_0 rfl rfl ?_
  refine v_iload_n dX7_comesAlone_1 rfl rfl ?_
  refine v_iconst dX7_comesAlone_2 (by decide) ?_
  refine v_callVi [_, _] dX7_comesAlone_3 lX7_219 kvX7_comesUnaided (plX7 _ _) (Or.inl rfl) rfl rfl rfl rfl rfl rfl rfl rfl rfl (c_X7_comesUnaided hp hre ?_)
  refine v_ireturn dX7_comesAlone_6 rfl ?_
  exact hq
set_option maxRecDepth 10000 in
theorem c_X7_alone {p : Int} (hst : isSt (stc μ)) (hp : PIc μ) (hre : ReOK μ) (h1 : ¬ (0 ≤ p ∧ p < μ (stc μ) 1) → Q (I_ (-1)) μ) (h2 : (0 ≤ p ∧ p < μ (stc μ) 1) → Q (I_ (unC μ p 1 : Int)) μ) : V_ nX7_alone 0 [R_ 0, I_ p] [] μ Q := by
  refine v_aload_n dX7_alone_0 rfl rfl ?_
  refine v_iload_n dX7_alone_1 rfl rfl ?_
  refine v_callVi [_] dX7_alone_2 lX7_201 kvX7_isPerson (plX7 _ _) (Or.inr rfl) rfl rfl rfl rfl rfl rfl rfl rfl rfl (c_X7_isPerson hst ?_)
  refine v_ifb_eq (tgt := 16) dX7_alone_5 (by decide) (fun hc_5 => ?_) (fun hc_5 => ?_)
  · refine v_iconst dX7_alone_16 (by decide) ?_
    refine v_ireturn dX7_alone_17 rfl ?_
    exact h1 hc_5
  · refine v_aload_n dX7_alone_8 rfl rfl ?_
    refine v_iload_n dX7_alone_9 rfl rfl ?_
    refine v_callVi [_] dX7_alone_10 lX7_216 kvX7_comesAlone (plX7 _ _) (Or.inl rfl) rfl rfl rfl rfl rfl rfl rfl rfl rfl (c_X7_comesAlone hp hre ?_)
    refine v_goto (tgt := 17) dX7_alone_13 (by decide) ?_
    refine v_ireturn dX7_alone_17 rfl ?_
    exact h2 hc_5
abbrev cwC (μ : Mem_) (p q : Int) : Prop := q ≠ p ∧ 0 ≤ μ (stc μ + 2) q.toNat ∧ 0 ≤ μ 24 (q * 12 + p).toNat
set_option maxRecDepth 10000 in
theorem c_X7_canWake {p q : Int} (hst : isSt (stc μ)) (hs : StC μ (stc μ)) (h0 : 0 ≤ p ∧ p < μ (stc μ) 1) (h1 : 0 ≤ q ∧ q < μ (stc μ) 1) (hq : Q (I_ (b2i (cwC μ p q))) μ) : V_ nX7_canWake 0 [R_ 0, I_ p, I_ q] [] μ Q := by
  have hs2 := hs.2.1
  have e1 : hoC μ (stc μ) q = μ (stc μ + 2) q.toNat := if_pos h1
  have e2 : trC μ q p = μ 24 (q * 12 + p).toNat := if_pos (by omega)
  refine v_iload_n dX7_canWake_0 rfl rfl ?_
  refine v_iload_n dX7_canWake_1 rfl rfl ?_
  refine v_icmp_eq (tgt := 32) dX7_canWake_2 (by decide) (fun hc_2 => ?_) (fun hc_2 => ?_)
  · refine v_iconst dX7_canWake_32 (by decide) ?_
    refine v_zreturn dX7_canWake_33 rfl (by first | exact Or.inl rfl | exact Or.inr rfl | exact b2i_01 _ | assumption) ?_
    first | (rwa [b2i_f (by omega)] at hq) | (rwa [b2i_t (by omega)] at hq)
  · refine v_aload_n dX7_canWake_5 rfl rfl ?_
    refine v_getX dX7_canWake_6 fX7_66 rfl rfl rfl ?_
    show V_ _ _ _ (R_ (stc _) :: _) _ _
    refine v_iload_n dX7_canWake_9 rfl rfl ?_
    refine v_callVi [_] dX7_canWake_10 lX7_280 kvX5_homeOf (plX5 _ _) (Or.inl rfl) (shp_st hst) rfl rfl rfl rfl rfl rfl rfl rfl (c_X5_homeOf hst (by omega) ?_)
    rw [e1]
    refine v_if_lt (tgt := 32) dX7_canWake_13 (by decide) (fun hc_13 => ?_) (fun hc_13 => ?_)
    · refine v_iconst dX7_canWake_32 (by decide) ?_
      refine v_zreturn dX7_canWake_33 rfl (by first | exact Or.inl rfl | exact Or.inr rfl | exact b2i_01 _ | assumption) ?_
      first | (rwa [b2i_f (by omega)] at hq) | (rwa [b2i_t (by omega)] at hq)
    · refine v_aload_n dX7_canWake_16 rfl rfl ?_
      refine v_getR dX7_canWake_17 fX7_34 rfl rfl rfl ?_
      refine v_iload_n dX7_canWake_20 rfl rfl ?_
      refine v_iload_n dX7_canWake_21 rfl rfl ?_
      refine v_callVi [_, _] dX7_canWake_22 lX7_213 kvX2_trustOf (plX2 _ _) (Or.inl rfl) rfl rfl rfl rfl rfl rfl rfl rfl rfl (c_X2_trustOf ?_)
      rw [e2]
      refine v_if_lt (tgt := 32) dX7_canWake_25 (by decide) (fun hc_25 => ?_) (fun hc_25 => ?_)
      · refine v_iconst dX7_canWake_32 (by decide) ?_
        refine v_zreturn dX7_canWake_33 rfl (by first | exact Or.inl rfl | exact Or.inr rfl | exact b2i_01 _ | assumption) ?_
        first | (rwa [b2i_f (by omega)] at hq) | (rwa [b2i_t (by omega)] at hq)
      · refine v_iconst dX7_canWake_28 (by decide) ?_
        refine v_goto (tgt := 33) dX7_canWake_29 (by decide) ?_
        refine v_zreturn dX7_canWake_33 rfl (by first | exact Or.inl rfl | exact Or.inr rfl | exact b2i_01 _ | assumption) ?_
        first | (rwa [b2i_f (by omega)] at hq) | (rwa [b2i_t (by omega)] at hq)
def haC (μ : Mem_) (q : Int) : Nat := opensC μ 0 q ||| (if 0 ≤ μ (stc μ + 2) q.toNat then 2 ^ (μ (stc μ + 2) q.toNat).toNat else 0)
theorem haC_lt {μ : Mem_} (hp : PIc μ) (hs : StC μ (stc μ)) {q : Int} (h1 : 0 ≤ q ∧ q < μ (stc μ) 1) : haC μ q < 2 ^ 6 := by
  refine Nat.or_lt_two_pow (opens_lt hp _ _) ?_
  have := hs.2.2.2 q.toNat (by omega)
  have hs1 := hs.1
  split
  · exact Nat.pow_lt_pow_right (by omega) (by omega)
  · decide
set_option maxRecDepth 10000 in
theorem c_X7_handedBy {q : Int} (hst : isSt (stc μ)) (hs : StC μ (stc μ)) (hp : PIc μ) (h1 : 0 ≤ q ∧ q < μ (stc μ) 1) (hq : Q (I_ (haC μ q : Int)) μ) : V_ nX7_handedBy 0 [R_ 0, I_ q, U_] [] μ Q := by
  have hs1 := hs.1
  have hs2 := hs.2.1
  have hs3 := (hs.2.2.2 q.toNat (by omega)).1
  have e1 : hoC μ (stc μ) q = μ (stc μ + 2) q.toNat := if_pos h1
  have g1 := opens_lt hp 0 q
  have g2 : μ (stc μ + 2) q.toNat < 31 → 2 ^ (μ (stc μ + 2) q.toNat).toNat < 2 ^ 31 := fun h => pow2_31 h
  refine v_aload_n dX7_handedBy_0 rfl rfl ?_
  refine v_getX dX7_handedBy_1 fX7_66 rfl rfl rfl ?_
  show V_ _ _ _ (R_ (stc _) :: _) _ _
  refine v_iload_n dX7_handedBy_4 rfl rfl ?_
  refine v_callVi [_] dX7_handedBy_5 lX7_280 kvX5_homeOf (plX5 _ _) (Or.inl rfl) (shp_st hst) rfl rfl rfl rfl rfl rfl rfl rfl (c_X5_homeOf hst (by omega) ?_)
  rw [e1]
  refine v_istore_n (ls' := [_, _, _]) dX7_handedBy_8 rfl rfl rfl rfl ?_
  refine v_aload_n dX7_handedBy_9 rfl rfl ?_
  refine v_getR dX7_handedBy_10 fX7_34 rfl rfl rfl ?_
  refine v_iconst dX7_handedBy_13 (by decide) ?_
  refine v_iload_n dX7_handedBy_14 rfl rfl ?_
  refine v_callVi [_, _] dX7_handedBy_15 lX7_247 kvX2_opens (plX2 _ _) (Or.inl rfl) rfl rfl rfl rfl rfl rfl rfl rfl rfl (c_X2_opens hp ?_)
  refine v_iload_n dX7_handedBy_18 rfl rfl ?_
  refine v_if_lt (tgt := 28) dX7_handedBy_19 (by decide) (fun hc_19 => ?_) (fun hc_19 => ?_)
  · refine v_iconst dX7_handedBy_28 (by decide) ?_
    refine v_ior dX7_handedBy_29 ?_
    refine v_ireturn dX7_handedBy_30 rfl ?_
    rw [haC, if_neg (by omega), Nat.or_zero] at hq
    rwa [bOr_z (by omega)]
  · refine v_iconst dX7_handedBy_22 (by decide) ?_
    refine v_iload_n dX7_handedBy_23 rfl rfl ?_
    refine v_ishl dX7_handedBy_24 ?_
    rw [bShl_one (by omega) (by omega)]
    refine v_goto (tgt := 29) dX7_handedBy_25 (by decide) ?_
    refine v_ior dX7_handedBy_29 ?_
    refine v_ireturn dX7_handedBy_30 rfl ?_
    rw [haC, if_pos (by omega)] at hq
    rwa [bOr_nat (by omega) (g2 (by omega))]
set_option maxRecDepth 10000 in
theorem c_X7_comesBy {q : Int} (hst : isSt (stc μ)) (hs : StC μ (stc μ)) (hp : PIc μ) (hre : ReOK μ) (h1 : 0 ≤ q ∧ q < μ (stc μ) 1) (hq : Q (I_ (cfN μ (haC μ q) : Int)) μ) : V_ nX7_comesBy 0 [R_ 0, I_ q] [] μ Q := by
  have g1 := haC_lt hp hs h1
  have hre2 := re_b hre
  refine v_aload_n dX7_comesBy_0 rfl rfl ?_
  refine v_getR dX7_comesBy_1 fX7_34 rfl rfl rfl ?_
  refine v_aload_n dX7_comesBy_4 rfl rfl ?_
  refine v_iload_n dX7_comesBy_5 rfl rfl ?_
  refine v_callVi [_] dX7_comesBy_6 lX7_360 kvX7_handedBy (plX7 _ _) (Or.inl rfl) rfl rfl rfl rfl rfl rfl rfl rfl rfl (c_X7_handedBy hst hs hp (by omega) ?_)
  refine v_callVi [_] dX7_comesBy_9 lX7_258 kvX2_comesFrom (plX2 _ _) (Or.inl rfl) rfl rfl rfl rfl rfl rfl rfl rfl rfl (c_X2_comesFrom (by omega) hre2 (by omega) ?_)
  refine v_ireturn dX7_comesBy_12 rfl ?_
  exact hq
end
