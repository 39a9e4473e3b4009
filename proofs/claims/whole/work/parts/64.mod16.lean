/-! the model over a class that stands in w: what is told -/
def CS (μ w : Mem_) : Prop := (μ 50 10 = w (stc w) 0 ∧ μ 50 11 = w (stc w) 1) ∧ (∀ h : Nat, (h : Int) < w (stc w) 0 → μ 57 h = w (stc w + 1) h) ∧ ∀ p : Nat, (p : Int) < w (stc w) 1 → μ 58 p = w (stc w + 2) p ∧ μ 59 p = w (stc w + 3) p
def CV (μ w : Mem_) : Prop := μ 50 22 = w 7 0 ∧ (∀ e : Int, 0 ≤ e → e < w 7 0 → μ 63 (4 * e).toNat = w 8 e.toNat ∧ μ 63 (4 * e + 1).toNat = w 9 e.toNat ∧ μ 63 (4 * e + 2).toNat = w 10 e.toNat ∧ μ 63 (4 * e + 3).toNat = w 11 e.toNat) ∧ KOf (w 7 0) w μ
section
variable {μ w : Mem_} {Q : PV → Mem_ → Prop}
set_option maxRecDepth 10000 in
theorem c_X8_heldBy {p : Int} (hp : PIc w) (hm : MK μ w) (h : Q (I_ ((orR (w 17 0).toNat (hkF w p) : Nat) : Int)) μ) : V_ nX8_heldBy 0 [R_ 50, I_ p, U_, U_] [] μ Q := by
  have hp1 := hp.1
  have hm1 := hm.1
  have lp : ∀ k : Int, 0 ≤ k → k ≤ w 17 0 → ∀ a : Int, a = ((orR k.toNat (hkF w p) : Nat) : Int) → V_ nX8_heldBy 4 [R_ 50, I_ p, I_ a, I_ k] [] μ Q := by
    refine loop_up _ (fun k h0 h1 ih => ?_)
    intro a ha
    have hk : k < w 17 0 → _ := fun q : k < w 17 0 => hm.2.1 k.toNat (by omega)
    have hf : k < w 17 0 → ∀ j, j ≤ k.toNat → hkF w p j < 2 ^ 31 := fun q j hj => pw_if (by omega)
    refine v_iload_n dX8_heldBy_4 rfl rfl ?_
    refine v_aload_n dX8_heldBy_5 rfl rfl ?_
    refine v_getI dX8_heldBy_6 fX8_189 rfl rfl rfl ?_
    refine v_icmp_ge (tgt := 47) dX8_heldBy_9 (by decide) (fun hc_9 => ?_) (fun hc_9 => ?_)
    · refine v_iload_n dX8_heldBy_47 rfl rfl ?_
      refine v_ireturn dX8_heldBy_48 rfl ?_
      rw [show k = w 17 0 by omega] at ha
      rwa [ha]
    · refine v_iload_n dX8_heldBy_12 rfl rfl ?_
      refine v_aload_n dX8_heldBy_13 rfl rfl ?_
      refine v_getR dX8_heldBy_14 fX8_59 rfl rfl rfl ?_
      refine v_iload_n dX8_heldBy_17 rfl rfl ?_
      refine v_iald dX8_heldBy_18 rfl (by omega) (by omega) ?_
      rw [(hk (by omega)).2.2.1]
      refine v_if_ne (tgt := 38) dX8_heldBy_19 (by decide) (fun hc_19 => ?_) (fun hc_19 => ?_)
      · refine v_iconst dX8_heldBy_38 (by decide) ?_
        refine v_ior dX8_heldBy_39 ?_
        refine v_istore_n (ls' := [_, _, _, _]) dX8_heldBy_40 rfl rfl rfl rfl ?_
        refine v_iinc (ls' := [_, _, _, _]) dX8_heldBy_41 rfl (fun hi_41 => by omega) rfl rfl ?_
        refine v_goto (tgt := 4) dX8_heldBy_44 (by decide) ?_
        exact ih (by omega) _ (orS (x := 0) h0 ha rfl (if_neg (by omega)) (hf (by omega)))
      · refine v_aload_n dX8_heldBy_22 rfl rfl ?_
        refine v_getR dX8_heldBy_23 fX8_62 rfl rfl rfl ?_
        refine v_iload_n dX8_heldBy_26 rfl rfl ?_
        refine v_iald dX8_heldBy_27 rfl (by omega) (by omega) ?_
        rw [(hk (by omega)).2.2.2.1]
        refine v_iload_n dX8_heldBy_28 rfl rfl ?_
        refine v_icmp_ne (tgt := 38) dX8_heldBy_29 (by decide) (fun hc_29 => ?_) (fun hc_29 => ?_)
        · refine v_iconst dX8_heldBy_38 (by decide) ?_
          refine v_ior dX8_heldBy_39 ?_
          refine v_istore_n (ls' := [_, _, _, _]) dX8_heldBy_40 rfl rfl rfl rfl ?_
          refine v_iinc (ls' := [_, _, _, _]) dX8_heldBy_41 rfl (fun hi_41 => by omega) rfl rfl ?_
          refine v_goto (tgt := 4) dX8_heldBy_44 (by decide) ?_
          exact ih (by omega) _ (orS (x := 0) h0 ha rfl (if_neg (by omega)) (hf (by omega)))
        · refine v_iconst dX8_heldBy_32 (by decide) ?_
          refine v_iload_n dX8_heldBy_33 rfl rfl ?_
          refine v_ishl dX8_heldBy_34 ?_
          refine v_goto (tgt := 39) dX8_heldBy_35 (by decide) ?_
          refine v_ior dX8_heldBy_39 ?_
          refine v_istore_n (ls' := [_, _, _, _]) dX8_heldBy_40 rfl rfl rfl rfl ?_
          refine v_iinc (ls' := [_, _, _, _]) dX8_heldBy_41 rfl (fun hi_41 => by omega) rfl rfl ?_
          refine v_goto (tgt := 4) dX8_heldBy_44 (by decide) ?_
          exact ih (by omega) _ (orS h0 ha (bShl_one (by omega) (by omega)) (if_pos (by omega)) (hf (by omega)))
  refine v_iconst dX8_heldBy_0 (by decide) ?_
  refine v_istore_n (ls' := [_, _, _, _]) dX8_heldBy_1 rfl rfl rfl rfl ?_
  refine v_iconst dX8_heldBy_2 (by decide) ?_
  refine v_istore_n (ls' := [_, _, _, _]) dX8_heldBy_3 rfl rfl rfl rfl ?_
  exact lp 0 (by omega) (by omega) 0 rfl
set_option maxRecDepth 10000 in
theorem c_X8_livesIn {g : Int} (hs : StC w (stc w)) (hm : CS μ w) (h : Q (I_ ((orR (w (stc w) 1).toNat (peF w (stc w) g) : Nat) : Int)) μ) : V_ nX8_livesIn 0 [R_ 50, I_ g, U_, U_] [] μ Q := by
  have hs1 := hs.2.1
  have hm1 := hm.1
  have lp : ∀ k : Int, 0 ≤ k → k ≤ w (stc w) 1 → ∀ a : Int, a = ((orR k.toNat (peF w (stc w) g) : Nat) : Int) → V_ nX8_livesIn 4 [R_ 50, I_ g, I_ a, I_ k] [] μ Q := by
    refine loop_up _ (fun k h0 h1 ih => ?_)
    intro a ha
    have hk : k < w (stc w) 1 → _ := fun q : k < w (stc w) 1 => hm.2.2 k.toNat (by omega)
    have hf : k < w (stc w) 1 → ∀ j, j ≤ k.toNat → peF w (stc w) g j < 2 ^ 31 := fun q j hj => pw_if (by omega)
    refine v_iload_n dX8_livesIn_4 rfl rfl ?_
    refine v_aload_n dX8_livesIn_5 rfl rfl ?_
    refine v_getI dX8_livesIn_6 fX8_183 rfl rfl rfl ?_
    refine v_icmp_ge (tgt := 38) dX8_livesIn_9 (by decide) (fun hc_9 => ?_) (fun hc_9 => ?_)
    · refine v_iload_n dX8_livesIn_38 rfl rfl ?_
      refine v_ireturn dX8_livesIn_39 rfl ?_
      rw [show k = w (stc w) 1 by omega] at ha
      rwa [ha]
    · refine v_iload_n dX8_livesIn_12 rfl rfl ?_
      refine v_aload_n dX8_livesIn_13 rfl rfl ?_
      refine v_getR dX8_livesIn_14 fX8_32 rfl rfl rfl ?_
      refine v_iload_n dX8_livesIn_17 rfl rfl ?_
      refine v_iald dX8_livesIn_18 rfl (by omega) (by omega) ?_
      rw [(hk (by omega)).1]
      refine v_iload_n dX8_livesIn_19 rfl rfl ?_
      refine v_icmp_ne (tgt := 29) dX8_livesIn_20 (by decide) (fun hc_20 => ?_) (fun hc_20 => ?_)
      · refine v_iconst dX8_livesIn_29 (by decide) ?_
        refine v_ior dX8_livesIn_30 ?_
        refine v_istore_n (ls' := [_, _, _, _]) dX8_livesIn_31 rfl rfl rfl rfl ?_
        refine v_iinc (ls' := [_, _, _, _]) dX8_livesIn_32 rfl (fun hi_32 => by omega) rfl rfl ?_
        refine v_goto (tgt := 4) dX8_livesIn_35 (by decide) ?_
        exact ih (by omega) _ (orS (x := 0) h0 ha rfl (if_neg (by omega)) (hf (by omega)))
      · refine v_iconst dX8_livesIn_23 (by decide) ?_
        refine v_iload_n dX8_livesIn_24 rfl rfl ?_
        refine v_ishl dX8_livesIn_25 ?_
        refine v_goto (tgt := 30) dX8_livesIn_26 (by decide) ?_
        refine v_ior dX8_livesIn_30 ?_
        refine v_istore_n (ls' := [_, _, _, _]) dX8_livesIn_31 rfl rfl rfl rfl ?_
        refine v_iinc (ls' := [_, _, _, _]) dX8_livesIn_32 rfl (fun hi_32 => by omega) rfl rfl ?_
        refine v_goto (tgt := 4) dX8_livesIn_35 (by decide) ?_
        exact ih (by omega) _ (orS h0 ha (bShl_one (by omega) (by omega)) (if_pos (by omega)) (hf (by omega)))
  refine v_iconst dX8_livesIn_0 (by decide) ?_
  refine v_istore_n (ls' := [_, _, _, _]) dX8_livesIn_1 rfl rfl rfl rfl ?_
  refine v_iconst dX8_livesIn_2 (by decide) ?_
  refine v_istore_n (ls' := [_, _, _, _]) dX8_livesIn_3 rfl rfl rfl rfl ?_
  exact lp 0 (by omega) (by omega) 0 rfl
set_option maxRecDepth 10000 in
theorem c_X8_isEvent {e : Int} (hl : 0 ≤ w 7 0) (hv : CV μ w) (h : Q (I_ (b2i (0 ≤ e ∧ e < w 7 0))) μ) : V_ nX8_isEvent 0 [R_ 50, I_ e] [] μ Q := by
  have hv1 := hv.1
  refine v_iload_n dX8_isEvent_0 rfl rfl ?_
  refine v_iconst dX8_isEvent_1 (by decide) ?_
  refine v_aload_n dX8_isEvent_2 rfl rfl ?_
  refine v_getI dX8_isEvent_3 fX8_186 rfl rfl rfl ?_
  refine v_iconst dX8_isEvent_6 (by decide) ?_
  refine v_isub dX8_isEvent_7 (fun ha hb => by omega) ?_
  refine v_callSi [_, _, _] dX8_isEvent_8 lX8_112 ksX8_in (plX8 _ _) (Or.inr rfl) rfl rfl rfl rfl rfl rfl (c_X8_in ?_)
  refine v_zreturn dX8_isEvent_11 rfl (by first | exact Or.inl rfl | exact Or.inr rfl | exact b2i_01 _ | assumption) ?_
  rwa [b2i_congr (P' := 0 ≤ e ∧ e < w 7 0) (by omega)]
set_option maxRecDepth 10000 in
theorem c_X8_told {e what : Int} (hl : 0 ≤ w 7 0 ∧ w 7 0 ≤ 40) (hv : CV μ w) (h1 : ¬ ((0 ≤ e ∧ e < w 7 0) ∧ (0 ≤ what ∧ what ≤ 3)) → Q (I_ (-1)) μ) (h2 : (0 ≤ e ∧ e < w 7 0) → (0 ≤ what ∧ what ≤ 3) → Q (I_ 1) (mtT μ (ldC w e.toNat what))) : V_ nX8_told 0 [R_ 50, I_ e, I_ what] [] μ Q := by
  have hv2 : (0 ≤ e ∧ e < w 7 0) → (0 ≤ what ∧ what ≤ 3) → μ 63 (4 * e + what).toNat = ldC w e.toNat what := by
    intro q1 q2
    have := hv.2.1 e q1.1 q1.2
    unfold ldC
    rcases (show what = 0 ∨ what = 1 ∨ what = 2 ∨ what = 3 by omega) with rfl | rfl | rfl | rfl
    · rw [if_pos rfl, Int.add_zero]; exact this.1
    · rw [if_neg (by omega), if_pos rfl]; exact this.2.1
    · rw [if_neg (by omega), if_neg (by omega), if_pos rfl]; exact this.2.2.1
    · rw [if_neg (by omega), if_neg (by omega), if_neg (by omega)]; exact this.2.2.2
  refine v_aload_n dX8_told_0 rfl rfl ?_
  refine v_iload_n dX8_told_1 rfl rfl ?_
  refine v_callVi [_] dX8_told_2 lX8_234 kvX8_isEvent (plX8 _ _) (Or.inr rfl) rfl rfl rfl rfl rfl rfl rfl rfl rfl (c_X8_isEvent hl.1 hv ?_)
  refine v_ifb_eq (tgt := 35) dX8_told_5 (by decide) (fun hc_5 => ?_) (fun hc_5 => ?_)
  · refine v_iconst dX8_told_35 (by decide) ?_
    refine v_ireturn dX8_told_36 rfl ?_
    exact h1 (by omega)
  · refine v_iload_n dX8_told_8 rfl rfl ?_
    refine v_iconst dX8_told_9 (by decide) ?_
    refine v_iconst dX8_told_10 (by decide) ?_
    refine v_callSi [_, _, _] dX8_told_11 lX8_112 ksX8_in (plX8 _ _) (Or.inr rfl) rfl rfl rfl rfl rfl rfl (c_X8_in ?_)
    refine v_ifb_eq (tgt := 35) dX8_told_14 (by decide) (fun hc_14 => ?_) (fun hc_14 => ?_)
    · refine v_iconst dX8_told_35 (by decide) ?_
      refine v_ireturn dX8_told_36 rfl ?_
      exact h1 (by omega)
    · refine v_aload_n dX8_told_17 rfl rfl ?_
      refine v_aload_n dX8_told_18 rfl rfl ?_
      refine v_getR dX8_told_19 fX8_47 rfl rfl rfl ?_
      refine v_iconst dX8_told_22 (by decide) ?_
      refine v_iload_n dX8_told_23 rfl rfl ?_
      refine v_imul dX8_told_24 (fun ha hb => by omega) ?_
      refine v_iload_n dX8_told_25 rfl rfl ?_
      refine v_iadd dX8_told_26 (fun ha hb => by omega) ?_
      refine v_iald dX8_told_27 rfl (by omega) (by omega) ?_
      rw [hv2 (by omega) (by omega)]
      refine v_iconst dX8_told_28 (by decide) ?_
      refine v_callVi [_, _] dX8_told_29 lX8_134 kvX8_tells (plX8 _ _) (Or.inl rfl) rfl rfl rfl rfl rfl rfl rfl rfl rfl (c_X8_tells ?_)
      refine v_goto (tgt := 36) dX8_told_32 (by decide) ?_
      refine v_ireturn dX8_told_36 rfl ?_
      exact h2 (by omega) (by omega)
set_option maxRecDepth 10000 in
theorem c_X8_mark {e kind : Int} (hl : 0 ≤ w 7 0 ∧ w 7 0 ≤ 40) (hc : fmOK μ) (hv : CV μ w) (h1 : ¬ ((0 ≤ e ∧ e < w 7 0) ∧ (1 ≤ kind ∧ kind ≤ 7)) → Q (I_ (-1)) μ) (h2 : (0 ≤ e ∧ e < w 7 0) → (1 ≤ kind ∧ kind ≤ 7) → ¬ ofK (w 8 e.toNat) kind → Q (I_ (-3)) (mtC μ 3)) (h3 : (0 ≤ e ∧ e < w 7 0) → (1 ≤ kind ∧ kind ≤ 7) → ofK (w 8 e.toNat) kind → Q (I_ (mkC w e.toNat kind)) μ) : V_ nX8_mark 0 [R_ 50, I_ e, I_ kind, U_, U_, U_, U_] [] μ Q := by
  have hv2 : (0 ≤ e ∧ e < w 7 0) → _ := fun q : (0 ≤ e ∧ e < w 7 0) => hv.2.1 e q.1 q.2
  have hv3 : (0 ≤ e ∧ e < w 7 0) → _ := fun q : (0 ≤ e ∧ e < w 7 0) => hv.2.2 e.toNat (by omega)
  unfold ofK at h2 h3
  unfold mkC at h3
  unfold mkK at hv3
  refine v_aload_n dX8_mark_0 rfl rfl ?_
  refine v_iload_n dX8_mark_1 rfl rfl ?_
  refine v_callVi [_] dX8_mark_2 lX8_234 kvX8_isEvent (plX8 _ _) (Or.inr rfl) rfl rfl rfl rfl rfl rfl rfl rfl rfl (c_X8_isEvent hl.1 hv ?_)
  refine v_ifb_eq (tgt := 18) dX8_mark_5 (by decide) (fun hc_5 => ?_) (fun hc_5 => ?_)
  · refine v_iconst dX8_mark_18 (by decide) ?_
    refine v_ireturn dX8_mark_19 rfl ?_
    first
      | exact h1 (by omega)
      | exact h2 (by omega) (by omega) (by omega)
      | (have q := h3 (by omega) (by omega) (by omega); first | rwa [if_pos (by omega)] at q | rwa [if_neg (by omega), if_pos (by omega)] at q | rwa [if_neg (by omega), if_neg (by omega)] at q)
      | (exfalso; omega)
  · refine v_iload_n dX8_mark_8 rfl rfl ?_
    refine v_iconst dX8_mark_9 (by decide) ?_
    refine v_bipush dX8_mark_10 (by decide) ?_
    refine v_callSi [_, _, _] dX8_mark_12 lX8_112 ksX8_in (plX8 _ _) (Or.inr rfl) rfl rfl rfl rfl rfl rfl (c_X8_in ?_)
    refine v_ifb_ne (tgt := 20) dX8_mark_15 (by decide) (fun hc_15 => ?_) (fun hc_15 => ?_)
    · refine v_aload_n dX8_mark_20 rfl rfl ?_
      refine v_getR dX8_mark_21 fX8_47 rfl rfl rfl ?_
      refine v_iconst dX8_mark_24 (by decide) ?_
      refine v_iload_n dX8_mark_25 rfl rfl ?_
      refine v_imul dX8_mark_26 (fun ha hb => by omega) ?_
      refine v_iald dX8_mark_27 rfl (by omega) (by omega) ?_
      rw [(hv2 (by omega)).1]
      refine v_istore_n (ls' := [_, _, _, _, _, _, _]) dX8_mark_28 rfl rfl rfl rfl ?_
      refine v_aload_n dX8_mark_29 rfl rfl ?_
      refine v_getR dX8_mark_30 fX8_47 rfl rfl rfl ?_
      refine v_iconst dX8_mark_33 (by decide) ?_
      refine v_iload_n dX8_mark_34 rfl rfl ?_
      refine v_imul dX8_mark_35 (fun ha hb => by omega) ?_
      refine v_iconst dX8_mark_36 (by decide) ?_
      refine v_iadd dX8_mark_37 (fun ha hb => by omega) ?_
      refine v_iald dX8_mark_38 rfl (by omega) (by omega) ?_
      rw [(hv2 (by omega)).2.1]
      refine v_istore (ls' := [_, _, _, _, _, _, _]) dX8_mark_39 rfl rfl rfl ?_
      refine v_aload_n dX8_mark_41 rfl rfl ?_
      refine v_getR dX8_mark_42 fX8_47 rfl rfl rfl ?_
      refine v_iconst dX8_mark_45 (by decide) ?_
      refine v_iload_n dX8_mark_46 rfl rfl ?_
      refine v_imul dX8_mark_47 (fun ha hb => by omega) ?_
      refine v_iconst dX8_mark_48 (by decide) ?_
      refine v_iadd dX8_mark_49 (fun ha hb => by omega) ?_
      refine v_iald dX8_mark_50 rfl (by omega) (by omega) ?_
      rw [(hv2 (by omega)).2.2.1]
      refine v_istore (ls' := [_, _, _, _, _, _, _]) dX8_mark_51 rfl rfl rfl ?_
      refine v_iload_n dX8_mark_53 rfl rfl ?_
      refine v_iload_n dX8_mark_54 rfl rfl ?_
      refine v_icmp_eq (tgt := 78) dX8_mark_55 (by decide) (fun hc_55 => ?_) (fun hc_55 => ?_)
      · refine v_iconst dX8_mark_78 (by decide) ?_
        refine v_goto (tgt := 83) dX8_mark_79 (by decide) ?_
        refine v_istore (ls' := [_, _, _, _, _, _, _]) dX8_mark_83 rfl rfl rfl ?_
        refine v_iload dX8_mark_85 rfl ?_
        refine v_if_ne (tgt := 96) dX8_mark_87 (by decide) (fun _ => ?_) (fun q => absurd (by decide) q)
        refine v_iload_n dX8_mark_96 rfl rfl ?_
        refine v_iconst dX8_mark_97 (by decide) ?_
        refine v_icmp_ne (tgt := 110) dX8_mark_98 (by decide) (fun hc_98 => ?_) (fun hc_98 => ?_)
        · refine v_iload_n dX8_mark_110 rfl rfl ?_
          refine v_iconst dX8_mark_111 (by decide) ?_
          refine v_icmp_eq (tgt := 120) dX8_mark_112 (by decide) (fun hc_112 => ?_) (fun hc_112 => ?_)
          · refine v_iload dX8_mark_120 rfl ?_
            refine v_goto (tgt := 127) dX8_mark_122 (by decide) ?_
            refine v_ireturn dX8_mark_127 rfl ?_
            first
              | exact h1 (by omega)
              | exact h2 (by omega) (by omega) (by omega)
              | (have q := h3 (by omega) (by omega) (by omega); first | rwa [if_pos (by omega)] at q | rwa [if_neg (by omega), if_pos (by omega)] at q | rwa [if_neg (by omega), if_neg (by omega)] at q)
              | (exfalso; omega)
          · refine v_iload_n dX8_mark_115 rfl rfl ?_
            refine v_iconst dX8_mark_116 (by decide) ?_
            refine v_icmp_ne (tgt := 125) dX8_mark_117 (by decide) (fun hc_117 => ?_) (fun hc_117 => ?_)
            · refine v_iload dX8_mark_125 rfl ?_
              refine v_ireturn dX8_mark_127 rfl ?_
              first
                | exact h1 (by omega)
                | exact h2 (by omega) (by omega) (by omega)
                | (have q := h3 (by omega) (by omega) (by omega); first | rwa [if_pos (by omega)] at q | rwa [if_neg (by omega), if_pos (by omega)] at q | rwa [if_neg (by omega), if_neg (by omega)] at q)
                | (exfalso; omega)
            · refine v_iload dX8_mark_120 rfl ?_
              refine v_goto (tgt := 127) dX8_mark_122 (by decide) ?_
              refine v_ireturn dX8_mark_127 rfl ?_
              first
                | exact h1 (by omega)
                | exact h2 (by omega) (by omega) (by omega)
                | (have q := h3 (by omega) (by omega) (by omega); first | rwa [if_pos (by omega)] at q | rwa [if_neg (by omega), if_pos (by omega)] at q | rwa [if_neg (by omega), if_neg (by omega)] at q)
                | (exfalso; omega)
        · refine v_aload_n dX8_mark_101 rfl rfl ?_
          refine v_getR dX8_mark_102 fX8_68 rfl rfl rfl ?_
          refine v_iload_n dX8_mark_105 rfl rfl ?_
          refine v_iald dX8_mark_106 rfl (by omega) (by omega) ?_
          rw [hv3 (by omega) (by omega)]
          refine v_goto (tgt := 127) dX8_mark_107 (by decide) ?_
          refine v_ireturn dX8_mark_127 rfl ?_
          first
            | exact h1 (by omega)
            | exact h2 (by omega) (by omega) (by omega)
            | (have q := h3 (by omega) (by omega) (by omega); first | rwa [if_pos (by omega)] at q | rwa [if_neg (by omega), if_pos (by omega)] at q | rwa [if_neg (by omega), if_neg (by omega)] at q)
            | (exfalso; omega)
      · refine v_iload_n dX8_mark_58 rfl rfl ?_
        refine v_iconst dX8_mark_59 (by decide) ?_
        refine v_icmp_ne (tgt := 68) dX8_mark_60 (by decide) (fun hc_60 => ?_) (fun hc_60 => ?_)
        · refine v_iload_n dX8_mark_68 rfl rfl ?_
          refine v_iconst dX8_mark_69 (by decide) ?_
          refine v_icmp_ne (tgt := 82) dX8_mark_70 (by decide) (fun hc_70 => ?_) (fun hc_70 => ?_)
          · refine v_iconst dX8_mark_82 (by decide) ?_
            refine v_istore (ls' := [_, _, _, _, _, _, _]) dX8_mark_83 rfl rfl rfl ?_
            refine v_iload dX8_mark_85 rfl ?_
            refine v_if_ne (tgt := 96) dX8_mark_87 (by decide) (fun q => absurd q (by decide)) (fun _ => ?_)
            refine v_aload_n dX8_mark_90 rfl rfl ?_
            refine v_iconst dX8_mark_91 (by decide) ?_
            refine v_callVi [_] dX8_mark_92 lX8_126 kvX8_meets (plX8 _ _) (Or.inl rfl) rfl rfl rfl rfl rfl rfl rfl rfl rfl (c_X8_meets (g := 3) rfl (by decide) hc ?_)
            refine v_ireturn dX8_mark_95 rfl ?_
            first
              | exact h1 (by omega)
              | exact h2 (by omega) (by omega) (by omega)
              | (have q := h3 (by omega) (by omega) (by omega); first | rwa [if_pos (by omega)] at q | rwa [if_neg (by omega), if_pos (by omega)] at q | rwa [if_neg (by omega), if_neg (by omega)] at q)
              | (exfalso; omega)
          · refine v_iload_n dX8_mark_73 rfl rfl ?_
            refine v_iconst dX8_mark_74 (by decide) ?_
            refine v_icmp_ne (tgt := 82) dX8_mark_75 (by decide) (fun hc_75 => ?_) (fun hc_75 => ?_)
            · refine v_iconst dX8_mark_82 (by decide) ?_
              refine v_istore (ls' := [_, _, _, _, _, _, _]) dX8_mark_83 rfl rfl rfl ?_
              refine v_iload dX8_mark_85 rfl ?_
              refine v_if_ne (tgt := 96) dX8_mark_87 (by decide) (fun q => absurd q (by decide)) (fun _ => ?_)
              refine v_aload_n dX8_mark_90 rfl rfl ?_
              refine v_iconst dX8_mark_91 (by decide) ?_
              refine v_callVi [_] dX8_mark_92 lX8_126 kvX8_meets (plX8 _ _) (Or.inl rfl) rfl rfl rfl rfl rfl rfl rfl rfl rfl (c_X8_meets (g := 3) rfl (by decide) hc ?_)
              refine v_ireturn dX8_mark_95 rfl ?_
              first
                | exact h1 (by omega)
                | exact h2 (by omega) (by omega) (by omega)
                | (have q := h3 (by omega) (by omega) (by omega); first | rwa [if_pos (by omega)] at q | rwa [if_neg (by omega), if_pos (by omega)] at q | rwa [if_neg (by omega), if_neg (by omega)] at q)
                | (exfalso; omega)
            · refine v_iconst dX8_mark_78 (by decide) ?_
              refine v_goto (tgt := 83) dX8_mark_79 (by decide) ?_
              refine v_istore (ls' := [_, _, _, _, _, _, _]) dX8_mark_83 rfl rfl rfl ?_
              refine v_iload dX8_mark_85 rfl ?_
              refine v_if_ne (tgt := 96) dX8_mark_87 (by decide) (fun _ => ?_) (fun q => absurd (by decide) q)
              refine v_iload_n dX8_mark_96 rfl rfl ?_
              refine v_iconst dX8_mark_97 (by decide) ?_
              refine v_icmp_ne (tgt := 110) dX8_mark_98 (by decide) (fun hc_98 => ?_) (fun hc_98 => ?_)
              · refine v_iload_n dX8_mark_110 rfl rfl ?_
                refine v_iconst dX8_mark_111 (by decide) ?_
                refine v_icmp_eq (tgt := 120) dX8_mark_112 (by decide) (fun hc_112 => ?_) (fun hc_112 => ?_)
                · refine v_iload dX8_mark_120 rfl ?_
                  refine v_goto (tgt := 127) dX8_mark_122 (by decide) ?_
                  refine v_ireturn dX8_mark_127 rfl ?_
                  first
                    | exact h1 (by omega)
                    | exact h2 (by omega) (by omega) (by omega)
                    | (have q := h3 (by omega) (by omega) (by omega); first | rwa [if_pos (by omega)] at q | rwa [if_neg (by omega), if_pos (by omega)] at q | rwa [if_neg (by omega), if_neg (by omega)] at q)
                    | (exfalso; omega)
                · refine v_iload_n dX8_mark_115 rfl rfl ?_
                  refine v_iconst dX8_mark_116 (by decide) ?_
                  refine v_icmp_ne (tgt := 125) dX8_mark_117 (by decide) (fun hc_117 => ?_) (fun hc_117 => ?_)
                  · refine v_iload dX8_mark_125 rfl ?_
                    refine v_ireturn dX8_mark_127 rfl ?_
                    first
                      | exact h1 (by omega)
                      | exact h2 (by omega) (by omega) (by omega)
                      | (have q := h3 (by omega) (by omega) (by omega); first | rwa [if_pos (by omega)] at q | rwa [if_neg (by omega), if_pos (by omega)] at q | rwa [if_neg (by omega), if_neg (by omega)] at q)
                      | (exfalso; omega)
                  · refine v_iload dX8_mark_120 rfl ?_
                    refine v_goto (tgt := 127) dX8_mark_122 (by decide) ?_
                    refine v_ireturn dX8_mark_127 rfl ?_
                    first
                      | exact h1 (by omega)
                      | exact h2 (by omega) (by omega) (by omega)
                      | (have q := h3 (by omega) (by omega) (by omega); first | rwa [if_pos (by omega)] at q | rwa [if_neg (by omega), if_pos (by omega)] at q | rwa [if_neg (by omega), if_neg (by omega)] at q)
                      | (exfalso; omega)
              · refine v_aload_n dX8_mark_101 rfl rfl ?_
                refine v_getR dX8_mark_102 fX8_68 rfl rfl rfl ?_
                refine v_iload_n dX8_mark_105 rfl rfl ?_
                refine v_iald dX8_mark_106 rfl (by omega) (by omega) ?_
                rw [hv3 (by omega) (by omega)]
                refine v_goto (tgt := 127) dX8_mark_107 (by decide) ?_
                refine v_ireturn dX8_mark_127 rfl ?_
                first
                  | exact h1 (by omega)
                  | exact h2 (by omega) (by omega) (by omega)
                  | (have q := h3 (by omega) (by omega) (by omega); first | rwa [if_pos (by omega)] at q | rwa [if_neg (by omega), if_pos (by omega)] at q | rwa [if_neg (by omega), if_neg (by omega)] at q)
                  | (exfalso; omega)
        · refine v_iload_n dX8_mark_63 rfl rfl ?_
          refine v_iconst dX8_mark_64 (by decide) ?_
          refine v_icmp_eq (tgt := 78) dX8_mark_65 (by decide) (fun hc_65 => ?_) (fun hc_65 => ?_)
          · refine v_iconst dX8_mark_78 (by decide) ?_
            refine v_goto (tgt := 83) dX8_mark_79 (by decide) ?_
            refine v_istore (ls' := [_, _, _, _, _, _, _]) dX8_mark_83 rfl rfl rfl ?_
            refine v_iload dX8_mark_85 rfl ?_
            refine v_if_ne (tgt := 96) dX8_mark_87 (by decide) (fun _ => ?_) (fun q => absurd (by decide) q)
            refine v_iload_n dX8_mark_96 rfl rfl ?_
            refine v_iconst dX8_mark_97 (by decide) ?_
            refine v_icmp_ne (tgt := 110) dX8_mark_98 (by decide) (fun hc_98 => ?_) (fun hc_98 => ?_)
            · refine v_iload_n dX8_mark_110 rfl rfl ?_
              refine v_iconst dX8_mark_111 (by decide) ?_
              refine v_icmp_eq (tgt := 120) dX8_mark_112 (by decide) (fun hc_112 => ?_) (fun hc_112 => ?_)
              · refine v_iload dX8_mark_120 rfl ?_
                refine v_goto (tgt := 127) dX8_mark_122 (by decide) ?_
                refine v_ireturn dX8_mark_127 rfl ?_
                first
                  | exact h1 (by omega)
                  | exact h2 (by omega) (by omega) (by omega)
                  | (have q := h3 (by omega) (by omega) (by omega); first | rwa [if_pos (by omega)] at q | rwa [if_neg (by omega), if_pos (by omega)] at q | rwa [if_neg (by omega), if_neg (by omega)] at q)
                  | (exfalso; omega)
              · refine v_iload_n dX8_mark_115 rfl rfl ?_
                refine v_iconst dX8_mark_116 (by decide) ?_
                refine v_icmp_ne (tgt := 125) dX8_mark_117 (by decide) (fun hc_117 => ?_) (fun hc_117 => ?_)
                · refine v_iload dX8_mark_125 rfl ?_
                  refine v_ireturn dX8_mark_127 rfl ?_
                  first
                    | exact h1 (by omega)
                    | exact h2 (by omega) (by omega) (by omega)
                    | (have q := h3 (by omega) (by omega) (by omega); first | rwa [if_pos (by omega)] at q | rwa [if_neg (by omega), if_pos (by omega)] at q | rwa [if_neg (by omega), if_neg (by omega)] at q)
                    | (exfalso; omega)
                · refine v_iload dX8_mark_120 rfl ?_
                  refine v_goto (tgt := 127) dX8_mark_122 (by decide) ?_
                  refine v_ireturn dX8_mark_127 rfl ?_
                  first
                    | exact h1 (by omega)
                    | exact h2 (by omega) (by omega) (by omega)
                    | (have q := h3 (by omega) (by omega) (by omega); first | rwa [if_pos (by omega)] at q | rwa [if_neg (by omega), if_pos (by omega)] at q | rwa [if_neg (by omega), if_neg (by omega)] at q)
                    | (exfalso; omega)
            · refine v_aload_n dX8_mark_101 rfl rfl ?_
              refine v_getR dX8_mark_102 fX8_68 rfl rfl rfl ?_
              refine v_iload_n dX8_mark_105 rfl rfl ?_
              refine v_iald dX8_mark_106 rfl (by omega) (by omega) ?_
              rw [hv3 (by omega) (by omega)]
              refine v_goto (tgt := 127) dX8_mark_107 (by decide) ?_
              refine v_ireturn dX8_mark_127 rfl ?_
              first
                | exact h1 (by omega)
                | exact h2 (by omega) (by omega) (by omega)
                | (have q := h3 (by omega) (by omega) (by omega); first | rwa [if_pos (by omega)] at q | rwa [if_neg (by omega), if_pos (by omega)] at q | rwa [if_neg (by omega), if_neg (by omega)] at q)
                | (exfalso; omega)
          · refine v_iload_n dX8_mark_68 rfl rfl ?_
            refine v_iconst dX8_mark_69 (by decide) ?_
            refine v_icmp_ne (tgt := 82) dX8_mark_70 (by decide) (fun hc_70 => ?_) (fun hc_70 => ?_)
            · refine v_iconst dX8_mark_82 (by decide) ?_
              refine v_istore (ls' := [_, _, _, _, _, _, _]) dX8_mark_83 rfl rfl rfl ?_
              refine v_iload dX8_mark_85 rfl ?_
              refine v_if_ne (tgt := 96) dX8_mark_87 (by decide) (fun q => absurd q (by decide)) (fun _ => ?_)
              refine v_aload_n dX8_mark_90 rfl rfl ?_
              refine v_iconst dX8_mark_91 (by decide) ?_
              refine v_callVi [_] dX8_mark_92 lX8_126 kvX8_meets (plX8 _ _) (Or.inl rfl) rfl rfl rfl rfl rfl rfl rfl rfl rfl (c_X8_meets (g := 3) rfl (by decide) hc ?_)
              refine v_ireturn dX8_mark_95 rfl ?_
              first
                | exact h1 (by omega)
                | exact h2 (by omega) (by omega) (by omega)
                | (have q := h3 (by omega) (by omega) (by omega); first | rwa [if_pos (by omega)] at q | rwa [if_neg (by omega), if_pos (by omega)] at q | rwa [if_neg (by omega), if_neg (by omega)] at q)
                | (exfalso; omega)
            · refine v_iload_n dX8_mark_73 rfl rfl ?_
              refine v_iconst dX8_mark_74 (by decide) ?_
              refine v_icmp_ne (tgt := 82) dX8_mark_75 (by decide) (fun hc_75 => ?_) (fun hc_75 => ?_)
              · refine v_iconst dX8_mark_82 (by decide) ?_
                refine v_istore (ls' := [_, _, _, _, _, _, _]) dX8_mark_83 rfl rfl rfl ?_
                refine v_iload dX8_mark_85 rfl ?_
                refine v_if_ne (tgt := 96) dX8_mark_87 (by decide) (fun q => absurd q (by decide)) (fun _ => ?_)
                refine v_aload_n dX8_mark_90 rfl rfl ?_
                refine v_iconst dX8_mark_91 (by decide) ?_
                refine v_callVi [_] dX8_mark_92 lX8_126 kvX8_meets (plX8 _ _) (Or.inl rfl) rfl rfl rfl rfl rfl rfl rfl rfl rfl (c_X8_meets (g := 3) rfl (by decide) hc ?_)
                refine v_ireturn dX8_mark_95 rfl ?_
                first
                  | exact h1 (by omega)
                  | exact h2 (by omega) (by omega) (by omega)
                  | (have q := h3 (by omega) (by omega) (by omega); first | rwa [if_pos (by omega)] at q | rwa [if_neg (by omega), if_pos (by omega)] at q | rwa [if_neg (by omega), if_neg (by omega)] at q)
                  | (exfalso; omega)
              · refine v_iconst dX8_mark_78 (by decide) ?_
                refine v_goto (tgt := 83) dX8_mark_79 (by decide) ?_
                refine v_istore (ls' := [_, _, _, _, _, _, _]) dX8_mark_83 rfl rfl rfl ?_
                refine v_iload dX8_mark_85 rfl ?_
                refine v_if_ne (tgt := 96) dX8_mark_87 (by decide) (fun _ => ?_) (fun q => absurd (by decide) q)
                refine v_iload_n dX8_mark_96 rfl rfl ?_
                refine v_iconst dX8_mark_97 (by decide) ?_
                refine v_icmp_ne (tgt := 110) dX8_mark_98 (by decide) (fun hc_98 => ?_) (fun hc_98 => ?_)
                · refine v_iload_n dX8_mark_110 rfl rfl ?_
                  refine v_iconst dX8_mark_111 (by decide) ?_
                  refine v_icmp_eq (tgt := 120) dX8_mark_112 (by decide) (fun hc_112 => ?_) (fun hc_112 => ?_)
                  · refine v_iload dX8_mark_120 rfl ?_
                    refine v_goto (tgt := 127) dX8_mark_122 (by decide) ?_
                    refine v_ireturn dX8_mark_127 rfl ?_
                    first
                      | exact h1 (by omega)
                      | exact h2 (by omega) (by omega) (by omega)
                      | (have q := h3 (by omega) (by omega) (by omega); first | rwa [if_pos (by omega)] at q | rwa [if_neg (by omega), if_pos (by omega)] at q | rwa [if_neg (by omega), if_neg (by omega)] at q)
                      | (exfalso; omega)
                  · refine v_iload_n dX8_mark_115 rfl rfl ?_
                    refine v_iconst dX8_mark_116 (by decide) ?_
                    refine v_icmp_ne (tgt := 125) dX8_mark_117 (by decide) (fun hc_117 => ?_) (fun hc_117 => ?_)
                    · refine v_iload dX8_mark_125 rfl ?_
                      refine v_ireturn dX8_mark_127 rfl ?_
                      first
                        | exact h1 (by omega)
                        | exact h2 (by omega) (by omega) (by omega)
                        | (have q := h3 (by omega) (by omega) (by omega); first | rwa [if_pos (by omega)] at q | rwa [if_neg (by omega), if_pos (by omega)] at q | rwa [if_neg (by omega), if_neg (by omega)] at q)
                        | (exfalso; omega)
                    · refine v_iload dX8_mark_120 rfl ?_
                      refine v_goto (tgt := 127) dX8_mark_122 (by decide) ?_
                      refine v_ireturn dX8_mark_127 rfl ?_
                      first
                        | exact h1 (by omega)
                        | exact h2 (by omega) (by omega) (by omega)
                        | (have q := h3 (by omega) (by omega) (by omega); first | rwa [if_pos (by omega)] at q | rwa [if_neg (by omega), if_pos (by omega)] at q | rwa [if_neg (by omega), if_neg (by omega)] at q)
                        | (exfalso; omega)
                · refine v_aload_n dX8_mark_101 rfl rfl ?_
                  refine v_getR dX8_mark_102 fX8_68 rfl rfl rfl ?_
                  refine v_iload_n dX8_mark_105 rfl rfl ?_
                  refine v_iald dX8_mark_106 rfl (by omega) (by omega) ?_
                  rw [hv3 (by omega) (by omega)]
                  refine v_goto (tgt := 127) dX8_mark_107 (by decide) ?_
                  refine v_ireturn dX8_mark_127 rfl ?_
                  first
                    | exact h1 (by omega)
                    | exact h2 (by omega) (by omega) (by omega)
                    | (have q := h3 (by omega) (by omega) (by omega); first | rwa [if_pos (by omega)] at q | rwa [if_neg (by omega), if_pos (by omega)] at q | rwa [if_neg (by omega), if_neg (by omega)] at q)
                    | (exfalso; omega)
    · refine v_iconst dX8_mark_18 (by decide) ?_
      refine v_ireturn dX8_mark_19 rfl ?_
      first
        | exact h1 (by omega)
        | exact h2 (by omega) (by omega) (by omega)
        | (have q := h3 (by omega) (by omega) (by omega); first | rwa [if_pos (by omega)] at q | rwa [if_neg (by omega), if_pos (by omega)] at q | rwa [if_neg (by omega), if_neg (by omega)] at q)
        | (exfalso; omega)
set_option maxRecDepth 10000 in
theorem c_X8_houseTells {h what : Int} (hs : StC w (stc w)) (hm : CS μ w) (hk : MK μ w) (hd : DLk (w 17 0).toNat μ w) (hh : 0 ≤ h ∧ h < w (stc w) 0) (hq : Q (I_ (hdC w h.toNat what)) μ) : V_ nX8_houseTells 0 [R_ 50, I_ h, I_ what] [] μ Q := by
  have hs1 := hs.1
  have c1 := hm.2.1 h.toNat (by omega)
  have c2 := hk.2.2.1 h.toNat (by omega)
  have c3 := hd.1 h.toNat (by omega)
  unfold hdC at hq
  refine v_iload_n dX8_houseTells_0 rfl rfl ?_
  refine v_if_ne (tgt := 13) dX8_houseTells_1 (by decide) (fun hc_1 => ?_) (fun hc_1 => ?_)
  · refine v_iload_n dX8_houseTells_13 rfl rfl ?_
    refine v_iconst dX8_houseTells_14 (by decide) ?_
    refine v_icmp_ne (tgt := 27) dX8_houseTells_15 (by decide) (fun hc_15 => ?_) (fun hc_15 => ?_)
    · refine v_iload_n dX8_houseTells_27 rfl rfl ?_
      refine v_iconst dX8_houseTells_28 (by decide) ?_
      refine v_icmp_ne (tgt := 41) dX8_houseTells_29 (by decide) (fun hc_29 => ?_) (fun hc_29 => ?_)
      · refine v_aload_n dX8_houseTells_41 rfl rfl ?_
        refine v_iload_n dX8_houseTells_42 rfl rfl ?_
        refine v_callVi [_] dX8_houseTells_43 lX8_237 kvX8_livesIn (plX8 _ _) (Or.inl rfl) rfl rfl rfl rfl rfl rfl rfl rfl rfl (c_X8_livesIn hs hm ?_)
        rw [show peF w (stc w) h = peF w (stc w) (h.toNat : Int) by rw [show ((h.toNat : Nat) : Int) = h by omega]]
        refine v_ireturn dX8_houseTells_46 rfl ?_
        first | rwa [if_pos (by omega)] at hq | rwa [if_neg (by omega), if_pos (by omega)] at hq | rwa [if_neg (by omega), if_neg (by omega), if_pos (by omega)] at hq | rwa [if_neg (by omega), if_neg (by omega), if_neg (by omega)] at hq
      · refine v_aload_n dX8_houseTells_32 rfl rfl ?_
        refine v_getR dX8_houseTells_33 fX8_77 rfl rfl rfl ?_
        refine v_iload_n dX8_houseTells_36 rfl rfl ?_
        refine v_iald dX8_houseTells_37 rfl (by omega) (by omega) ?_
        rw [c3]
        refine v_goto (tgt := 46) dX8_houseTells_38 (by decide) ?_
        refine v_ireturn dX8_houseTells_46 rfl ?_
        first | rwa [if_pos (by omega)] at hq | rwa [if_neg (by omega), if_pos (by omega)] at hq | rwa [if_neg (by omega), if_neg (by omega), if_pos (by omega)] at hq | rwa [if_neg (by omega), if_neg (by omega), if_neg (by omega)] at hq
    · refine v_aload_n dX8_houseTells_18 rfl rfl ?_
      refine v_getR dX8_houseTells_19 fX8_71 rfl rfl rfl ?_
      refine v_iload_n dX8_houseTells_22 rfl rfl ?_
      refine v_iald dX8_houseTells_23 rfl (by omega) (by omega) ?_
      rw [c2]
      refine v_goto (tgt := 46) dX8_houseTells_24 (by decide) ?_
      refine v_ireturn dX8_houseTells_46 rfl ?_
      first | rwa [if_pos (by omega)] at hq | rwa [if_neg (by omega), if_pos (by omega)] at hq | rwa [if_neg (by omega), if_neg (by omega), if_pos (by omega)] at hq | rwa [if_neg (by omega), if_neg (by omega), if_neg (by omega)] at hq
  · refine v_aload_n dX8_houseTells_4 rfl rfl ?_
    refine v_getR dX8_houseTells_5 fX8_29 rfl rfl rfl ?_
    refine v_iload_n dX8_houseTells_8 rfl rfl ?_
    refine v_iald dX8_houseTells_9 rfl (by omega) (by omega) ?_
    rw [c1]
    refine v_goto (tgt := 46) dX8_houseTells_10 (by decide) ?_
    refine v_ireturn dX8_houseTells_46 rfl ?_
    first | rwa [if_pos (by omega)] at hq | rwa [if_neg (by omega), if_pos (by omega)] at hq | rwa [if_neg (by omega), if_neg (by omega), if_pos (by omega)] at hq | rwa [if_neg (by omega), if_neg (by omega), if_neg (by omega)] at hq
set_option maxRecDepth 10000 in
theorem c_X8_house {h what : Int} (hs : StC w (stc w)) (hm : CS μ w) (hk : MK μ w) (hd : DLk (w 17 0).toNat μ w) (h1 : ¬ ((0 ≤ h ∧ h < w (stc w) 0) ∧ (0 ≤ what ∧ what ≤ 3)) → Q (I_ (-1)) μ) (h2 : (0 ≤ h ∧ h < w (stc w) 0) → (0 ≤ what ∧ what ≤ 3) → Q (I_ 1) (mtT μ (hdC w h.toNat what))) : V_ nX8_house 0 [R_ 50, I_ h, I_ what] [] μ Q := by
  have hs1 := hs.1
  have hm1 := hm.1
  refine v_aload_n dX8_house_0 rfl rfl ?_
  refine v_iload_n dX8_house_1 rfl rfl ?_
  refine v_callVi [_] dX8_house_2 lX8_204 kvX8_isHouse (plX8 _ _) (Or.inr rfl) rfl rfl rfl rfl rfl rfl rfl rfl rfl (c_X8_isHouse (by omega) ?_)
  refine v_ifb_eq (tgt := 31) dX8_house_5 (by decide) (fun hc_5 => ?_) (fun hc_5 => ?_)
  · refine v_iconst dX8_house_31 (by decide) ?_
    refine v_ireturn dX8_house_32 rfl ?_
    exact h1 (by omega)
  · refine v_iload_n dX8_house_8 rfl rfl ?_
    refine v_iconst dX8_house_9 (by decide) ?_
    refine v_iconst dX8_house_10 (by decide) ?_
    refine v_callSi [_, _, _] dX8_house_11 lX8_112 ksX8_in (plX8 _ _) (Or.inr rfl) rfl rfl rfl rfl rfl rfl (c_X8_in ?_)
    refine v_ifb_eq (tgt := 31) dX8_house_14 (by decide) (fun hc_14 => ?_) (fun hc_14 => ?_)
    · refine v_iconst dX8_house_31 (by decide) ?_
      refine v_ireturn dX8_house_32 rfl ?_
      exact h1 (by omega)
    · refine v_aload_n dX8_house_17 rfl rfl ?_
      refine v_aload_n dX8_house_18 rfl rfl ?_
      refine v_iload_n dX8_house_19 rfl rfl ?_
      refine v_iload_n dX8_house_20 rfl rfl ?_
      refine v_callVi [_, _] dX8_house_21 lX8_240 kvX8_houseTells (plX8 _ _) (Or.inl rfl) rfl rfl rfl rfl rfl rfl rfl rfl rfl (c_X8_houseTells hs hm hk hd (by omega) ?_)
      refine v_iconst dX8_house_24 (by decide) ?_
      refine v_callVi [_, _] dX8_house_25 lX8_134 kvX8_tells (plX8 _ _) (Or.inl rfl) rfl rfl rfl rfl rfl rfl rfl rfl rfl (c_X8_tells ?_)
      refine v_goto (tgt := 32) dX8_house_28 (by decide) ?_
      refine v_ireturn dX8_house_32 rfl ?_
      exact h2 (by omega) (by omega)
set_option maxRecDepth 10000 in
theorem c_X8_personTells {p what : Int} (hp : PIc w) (hs : StC w (stc w)) (hm : CS μ w) (hk : MK μ w) (hh : 0 ≤ p ∧ p < w (stc w) 1) (hq : Q (I_ (pdC w p.toNat what)) μ) : V_ nX8_personTells 0 [R_ 50, I_ p, I_ what] [] μ Q := by
  have hs1 := hs.2.1
  have c1 := hm.2.2 p.toNat (by omega)
  unfold pdC at hq
  refine v_iload_n dX8_personTells_0 rfl rfl ?_
  refine v_if_ne (tgt := 13) dX8_personTells_1 (by decide) (fun hc_1 => ?_) (fun hc_1 => ?_)
  · refine v_iload_n dX8_personTells_13 rfl rfl ?_
    refine v_iconst dX8_personTells_14 (by decide) ?_
    refine v_icmp_ne (tgt := 27) dX8_personTells_15 (by decide) (fun hc_15 => ?_) (fun hc_15 => ?_)
    · refine v_aload_n dX8_personTells_27 rfl rfl ?_
      refine v_iload_n dX8_personTells_28 rfl rfl ?_
      refine v_callVi [_] dX8_personTells_29 lX8_243 kvX8_heldBy (plX8 _ _) (Or.inl rfl) rfl rfl rfl rfl rfl rfl rfl rfl rfl (c_X8_heldBy hp hk ?_)
      rw [show hkF w p = hkF w (p.toNat : Int) by rw [show ((p.toNat : Nat) : Int) = p by omega]]
      refine v_ireturn dX8_personTells_32 rfl ?_
      first | rwa [if_pos (by omega)] at hq | rwa [if_neg (by omega), if_pos (by omega)] at hq | rwa [if_neg (by omega), if_neg (by omega)] at hq
    · refine v_aload_n dX8_personTells_18 rfl rfl ?_
      refine v_getR dX8_personTells_19 fX8_35 rfl rfl rfl ?_
      refine v_iload_n dX8_personTells_22 rfl rfl ?_
      refine v_iald dX8_personTells_23 rfl (by omega) (by omega) ?_
      rw [c1.2]
      refine v_goto (tgt := 32) dX8_personTells_24 (by decide) ?_
      refine v_ireturn dX8_personTells_32 rfl ?_
      first | rwa [if_pos (by omega)] at hq | rwa [if_neg (by omega), if_pos (by omega)] at hq | rwa [if_neg (by omega), if_neg (by omega)] at hq
  · refine v_aload_n dX8_personTells_4 rfl rfl ?_
    refine v_getR dX8_personTells_5 fX8_32 rfl rfl rfl ?_
    refine v_iload_n dX8_personTells_8 rfl rfl ?_
    refine v_iald dX8_personTells_9 rfl (by omega) (by omega) ?_
    rw [c1.1]
    refine v_goto (tgt := 32) dX8_personTells_10 (by decide) ?_
    refine v_ireturn dX8_personTells_32 rfl ?_
    first | rwa [if_pos (by omega)] at hq | rwa [if_neg (by omega), if_pos (by omega)] at hq | rwa [if_neg (by omega), if_neg (by omega)] at hq
set_option maxRecDepth 10000 in
theorem c_X8_person {p what : Int} (hp : PIc w) (hs : StC w (stc w)) (hm : CS μ w) (hk : MK μ w) (h1 : ¬ ((0 ≤ p ∧ p < w (stc w) 1) ∧ (0 ≤ what ∧ what ≤ 2)) → Q (I_ (-1)) μ) (h2 : (0 ≤ p ∧ p < w (stc w) 1) → (0 ≤ what ∧ what ≤ 2) → Q (I_ 1) (mtT μ (pdC w p.toNat what))) : V_ nX8_person 0 [R_ 50, I_ p, I_ what] [] μ Q := by
  have hs1 := hs.2.1
  have hm1 := hm.1
  refine v_aload_n dX8_person_0 rfl rfl ?_
  refine v_iload_n dX8_person_1 rfl rfl ?_
  refine v_callVi [_] dX8_person_2 lX8_207 kvX8_isPerson (plX8 _ _) (Or.inr rfl) rfl rfl rfl rfl rfl rfl rfl rfl rfl (c_X8_isPerson (by omega) ?_)
  refine v_ifb_eq (tgt := 31) dX8_person_5 (by decide) (fun hc_5 => ?_) (fun hc_5 => ?_)
  · refine v_iconst dX8_person_31 (by decide) ?_
    refine v_ireturn dX8_person_32 rfl ?_
    exact h1 (by omega)
  · refine v_iload_n dX8_person_8 rfl rfl ?_
    refine v_iconst dX8_person_9 (by decide) ?_
    refine v_iconst dX8_person_10 (by decide) ?_
    refine v_callSi [_, _, _] dX8_person_11 lX8_112 ksX8_in (plX8 _ _) (Or.inr rfl) rfl rfl rfl rfl rfl rfl (c_X8_in ?_)
    refine v_ifb_eq (tgt := 31) dX8_person_14 (by decide) (fun hc_14 => ?_) (fun hc_14 => ?_)
    · refine v_iconst dX8_person_31 (by decide) ?_
      refine v_ireturn dX8_person_32 rfl ?_
      exact h1 (by omega)
    · refine v_aload_n dX8_person_17 rfl rfl ?_
      refine v_aload_n dX8_person_18 rfl rfl ?_
      refine v_iload_n dX8_person_19 rfl rfl ?_
      refine v_iload_n dX8_person_20 rfl rfl ?_
      refine v_callVi [_, _] dX8_person_21 lX8_246 kvX8_personTells (plX8 _ _) (Or.inl rfl) rfl rfl rfl rfl rfl rfl rfl rfl rfl (c_X8_personTells hp hs hm hk (by omega) ?_)
      refine v_iconst dX8_person_24 (by decide) ?_
      refine v_callVi [_, _] dX8_person_25 lX8_134 kvX8_tells (plX8 _ _) (Or.inl rfl) rfl rfl rfl rfl rfl rfl rfl rfl rfl (c_X8_tells ?_)
      refine v_goto (tgt := 32) dX8_person_28 (by decide) ?_
      refine v_ireturn dX8_person_32 rfl ?_
      exact h2 (by omega) (by omega)
set_option maxRecDepth 10000 in
theorem c_X8_keyTells {k what : Int} (hp : PIc w) (hk : MK μ w) (hh : 0 ≤ k ∧ k < w 17 0) (hq : Q (I_ (kdC w k.toNat what)) μ) : V_ nX8_keyTells 0 [R_ 50, I_ k, I_ what] [] μ Q := by
  have hp1 := hp.1
  have c1 := hk.2.1 k.toNat (by omega)
  unfold kdC at hq
  refine v_iload_n dX8_keyTells_0 rfl rfl ?_
  refine v_if_ne (tgt := 13) dX8_keyTells_1 (by decide) (fun hc_1 => ?_) (fun hc_1 => ?_)
  · refine v_iload_n dX8_keyTells_13 rfl rfl ?_
    refine v_iconst dX8_keyTells_14 (by decide) ?_
    refine v_icmp_ne (tgt := 34) dX8_keyTells_15 (by decide) (fun hc_15 => ?_) (fun hc_15 => ?_)
    · refine v_iload_n dX8_keyTells_34 rfl rfl ?_
      refine v_iconst dX8_keyTells_35 (by decide) ?_
      refine v_icmp_ne (tgt := 48) dX8_keyTells_36 (by decide) (fun hc_36 => ?_) (fun hc_36 => ?_)
      · refine v_iload_n dX8_keyTells_48 rfl rfl ?_
        refine v_iconst dX8_keyTells_49 (by decide) ?_
        refine v_icmp_ne (tgt := 62) dX8_keyTells_50 (by decide) (fun hc_50 => ?_) (fun hc_50 => ?_)
        · refine v_aload_n dX8_keyTells_62 rfl rfl ?_
          refine v_getR dX8_keyTells_63 fX8_65 rfl rfl rfl ?_
          refine v_iload_n dX8_keyTells_66 rfl rfl ?_
          refine v_iald dX8_keyTells_67 rfl (by omega) (by omega) ?_
          rw [c1.2.2.2.2]
          refine v_ireturn dX8_keyTells_68 rfl ?_
          first | rwa [if_pos (by omega)] at hq | (rw [if_neg (by omega), if_pos (by omega)] at hq; first | rwa [b2i_t hc_23] at hq | rwa [b2i_f hc_23] at hq) | rwa [if_neg (by omega), if_neg (by omega), if_pos (by omega)] at hq | rwa [if_neg (by omega), if_neg (by omega), if_neg (by omega), if_pos (by omega)] at hq | rwa [if_neg (by omega), if_neg (by omega), if_neg (by omega), if_neg (by omega)] at hq
        · refine v_aload_n dX8_keyTells_53 rfl rfl ?_
          refine v_getR dX8_keyTells_54 fX8_62 rfl rfl rfl ?_
          refine v_iload_n dX8_keyTells_57 rfl rfl ?_
          refine v_iald dX8_keyTells_58 rfl (by omega) (by omega) ?_
          rw [c1.2.2.2.1]
          refine v_goto (tgt := 68) dX8_keyTells_59 (by decide) ?_
          refine v_ireturn dX8_keyTells_68 rfl ?_
          first | rwa [if_pos (by omega)] at hq | (rw [if_neg (by omega), if_pos (by omega)] at hq; first | rwa [b2i_t hc_23] at hq | rwa [b2i_f hc_23] at hq) | rwa [if_neg (by omega), if_neg (by omega), if_pos (by omega)] at hq | rwa [if_neg (by omega), if_neg (by omega), if_neg (by omega), if_pos (by omega)] at hq | rwa [if_neg (by omega), if_neg (by omega), if_neg (by omega), if_neg (by omega)] at hq
      · refine v_aload_n dX8_keyTells_39 rfl rfl ?_
        refine v_getR dX8_keyTells_40 fX8_59 rfl rfl rfl ?_
        refine v_iload_n dX8_keyTells_43 rfl rfl ?_
        refine v_iald dX8_keyTells_44 rfl (by omega) (by omega) ?_
        rw [c1.2.2.1]
        refine v_goto (tgt := 68) dX8_keyTells_45 (by decide) ?_
        refine v_ireturn dX8_keyTells_68 rfl ?_
        first | rwa [if_pos (by omega)] at hq | (rw [if_neg (by omega), if_pos (by omega)] at hq; first | rwa [b2i_t hc_23] at hq | rwa [b2i_f hc_23] at hq) | rwa [if_neg (by omega), if_neg (by omega), if_pos (by omega)] at hq | rwa [if_neg (by omega), if_neg (by omega), if_neg (by omega), if_pos (by omega)] at hq | rwa [if_neg (by omega), if_neg (by omega), if_neg (by omega), if_neg (by omega)] at hq
    · refine v_aload_n dX8_keyTells_18 rfl rfl ?_
      refine v_iload_n dX8_keyTells_19 rfl rfl ?_
      refine v_callVi [_] dX8_keyTells_20 lX8_223 kvX8_isLive (plX8 _ _) (Or.inr rfl) rfl rfl rfl rfl rfl rfl rfl rfl rfl (c_X8_isLive hp hk (by omega) ?_)
      refine v_ifb_eq (tgt := 30) dX8_keyTells_23 (by decide) (fun hc_23 => ?_) (fun hc_23 => ?_)
      · refine v_iconst dX8_keyTells_30 (by decide) ?_
        refine v_goto (tgt := 68) dX8_keyTells_31 (by decide) ?_
        refine v_ireturn dX8_keyTells_68 rfl ?_
        first | rwa [if_pos (by omega)] at hq | (rw [if_neg (by omega), if_pos (by omega)] at hq; first | rwa [b2i_t hc_23] at hq | rwa [b2i_f hc_23] at hq) | rwa [if_neg (by omega), if_neg (by omega), if_pos (by omega)] at hq | rwa [if_neg (by omega), if_neg (by omega), if_neg (by omega), if_pos (by omega)] at hq | rwa [if_neg (by omega), if_neg (by omega), if_neg (by omega), if_neg (by omega)] at hq
      · refine v_iconst dX8_keyTells_26 (by decide) ?_
        refine v_goto (tgt := 68) dX8_keyTells_27 (by decide) ?_
        refine v_ireturn dX8_keyTells_68 rfl ?_
        first | rwa [if_pos (by omega)] at hq | (rw [if_neg (by omega), if_pos (by omega)] at hq; first | rwa [b2i_t hc_23] at hq | rwa [b2i_f hc_23] at hq) | rwa [if_neg (by omega), if_neg (by omega), if_pos (by omega)] at hq | rwa [if_neg (by omega), if_neg (by omega), if_neg (by omega), if_pos (by omega)] at hq | rwa [if_neg (by omega), if_neg (by omega), if_neg (by omega), if_neg (by omega)] at hq
  · refine v_aload_n dX8_keyTells_4 rfl rfl ?_
    refine v_getR dX8_keyTells_5 fX8_53 rfl rfl rfl ?_
    refine v_iload_n dX8_keyTells_8 rfl rfl ?_
    refine v_iald dX8_keyTells_9 rfl (by omega) (by omega) ?_
    rw [c1.1]
    refine v_goto (tgt := 68) dX8_keyTells_10 (by decide) ?_
    refine v_ireturn dX8_keyTells_68 rfl ?_
    first | rwa [if_pos (by omega)] at hq | (rw [if_neg (by omega), if_pos (by omega)] at hq; first | rwa [b2i_t hc_23] at hq | rwa [b2i_f hc_23] at hq) | rwa [if_neg (by omega), if_neg (by omega), if_pos (by omega)] at hq | rwa [if_neg (by omega), if_neg (by omega), if_neg (by omega), if_pos (by omega)] at hq | rwa [if_neg (by omega), if_neg (by omega), if_neg (by omega), if_neg (by omega)] at hq
set_option maxRecDepth 10000 in
theorem c_X8_key {k what : Int} (hp : PIc w) (hk : MK μ w) (h1 : ¬ ((0 ≤ k ∧ k < w 17 0) ∧ (0 ≤ what ∧ what ≤ 4)) → Q (I_ (-1)) μ) (h2 : (0 ≤ k ∧ k < w 17 0) → (0 ≤ what ∧ what ≤ 4) → Q (I_ 1) (mtT μ (kdC w k.toNat what))) : V_ nX8_key 0 [R_ 50, I_ k, I_ what] [] μ Q := by
  have hp1 := hp.1
  have hm1 := hk.1
  refine v_aload_n dX8_key_0 rfl rfl ?_
  refine v_iload_n dX8_key_1 rfl rfl ?_
  refine v_callVi [_] dX8_key_2 lX8_210 kvX8_isKey (plX8 _ _) (Or.inr rfl) rfl rfl rfl rfl rfl rfl rfl rfl rfl (c_X8_isKey (by omega) ?_)
  refine v_ifb_eq (tgt := 31) dX8_key_5 (by decide) (fun hc_5 => ?_) (fun hc_5 => ?_)
  · refine v_iconst dX8_key_31 (by decide) ?_
    refine v_ireturn dX8_key_32 rfl ?_
    exact h1 (by omega)
  · refine v_iload_n dX8_key_8 rfl rfl ?_
    refine v_iconst dX8_key_9 (by decide) ?_
    refine v_iconst dX8_key_10 (by decide) ?_
    refine v_callSi [_, _, _] dX8_key_11 lX8_112 ksX8_in (plX8 _ _) (Or.inr rfl) rfl rfl rfl rfl rfl rfl (c_X8_in ?_)
    refine v_ifb_eq (tgt := 31) dX8_key_14 (by decide) (fun hc_14 => ?_) (fun hc_14 => ?_)
    · refine v_iconst dX8_key_31 (by decide) ?_
      refine v_ireturn dX8_key_32 rfl ?_
      exact h1 (by omega)
    · refine v_aload_n dX8_key_17 rfl rfl ?_
      refine v_aload_n dX8_key_18 rfl rfl ?_
      refine v_iload_n dX8_key_19 rfl rfl ?_
      refine v_iload_n dX8_key_20 rfl rfl ?_
      refine v_callVi [_, _] dX8_key_21 lX8_249 kvX8_keyTells (plX8 _ _) (Or.inl rfl) rfl rfl rfl rfl rfl rfl rfl rfl rfl (c_X8_keyTells hp hk (by omega) ?_)
      refine v_iconst dX8_key_24 (by decide) ?_
      refine v_callVi [_, _] dX8_key_25 lX8_134 kvX8_tells (plX8 _ _) (Or.inl rfl) rfl rfl rfl rfl rfl rfl rfl rfl rfl (c_X8_tells ?_)
      refine v_goto (tgt := 32) dX8_key_28 (by decide) ?_
      refine v_ireturn dX8_key_32 rfl ?_
      exact h2 (by omega) (by omega)
set_option maxRecDepth 10000 in
theorem c_X8_trust {a b : Int} (hs : StC w (stc w)) (hm : CS μ w) (hk : MK μ w) (h1 : ¬ ((0 ≤ a ∧ a < w (stc w) 1) ∧ (0 ≤ b ∧ b < w (stc w) 1) ∧ a ≠ b) → Q (I_ (-1)) μ) (h2 : (0 ≤ a ∧ a < w (stc w) 1) → (0 ≤ b ∧ b < w (stc w) 1) → a ≠ b → Q (I_ 1) (mtT μ (w 24 (a * 12 + b).toNat))) : V_ nX8_trust 0 [R_ 50, I_ a, I_ b] [] μ Q := by
  have hs1 := hs.2.1
  have hm1 := hm.1
  refine v_aload_n dX8_trust_0 rfl rfl ?_
  refine v_iload_n dX8_trust_1 rfl rfl ?_
  refine v_callVi [_] dX8_trust_2 lX8_207 kvX8_isPerson (plX8 _ _) (Or.inr rfl) rfl rfl rfl rfl rfl rfl rfl rfl rfl (c_X8_isPerson (by omega) ?_)
  refine v_ifb_eq (tgt := 40) dX8_trust_5 (by decide) (fun hc_5 => ?_) (fun hc_5 => ?_)
  · refine v_iconst dX8_trust_40 (by decide) ?_
    refine v_ireturn dX8_trust_41 rfl ?_
    first | exact h1 (by omega) | exact h2 (by omega) (by omega) (by omega)
  · refine v_aload_n dX8_trust_8 rfl rfl ?_
    refine v_iload_n dX8_trust_9 rfl rfl ?_
    refine v_callVi [_] dX8_trust_10 lX8_207 kvX8_isPerson (plX8 _ _) (Or.inr rfl) rfl rfl rfl rfl rfl rfl rfl rfl rfl (c_X8_isPerson (by omega) ?_)
    refine v_ifb_eq (tgt := 40) dX8_trust_13 (by decide) (fun hc_13 => ?_) (fun hc_13 => ?_)
    · refine v_iconst dX8_trust_40 (by decide) ?_
      refine v_ireturn dX8_trust_41 rfl ?_
      first | exact h1 (by omega) | exact h2 (by omega) (by omega) (by omega)
    · refine v_iload_n dX8_trust_16 rfl rfl ?_
      refine v_iload_n dX8_trust_17 rfl rfl ?_
      refine v_icmp_eq (tgt := 40) dX8_trust_18 (by decide) (fun hc_18 => ?_) (fun hc_18 => ?_)
      · refine v_iconst dX8_trust_40 (by decide) ?_
        refine v_ireturn dX8_trust_41 rfl ?_
        first | exact h1 (by omega) | exact h2 (by omega) (by omega) (by omega)
      · refine v_aload_n dX8_trust_21 rfl rfl ?_
        refine v_aload_n dX8_trust_22 rfl rfl ?_
        refine v_getR dX8_trust_23 fX8_74 rfl rfl rfl ?_
        refine v_bipush dX8_trust_26 (by decide) ?_
        refine v_iload_n dX8_trust_28 rfl rfl ?_
        refine v_imul dX8_trust_29 (fun ha hb => by omega) ?_
        refine v_iload_n dX8_trust_30 rfl rfl ?_
        refine v_iadd dX8_trust_31 (fun ha hb => by omega) ?_
        refine v_iald dX8_trust_32 rfl (by omega) (by omega) ?_
        rw [hk.2.2.2 _ (by omega), show 12 * a + b = a * 12 + b by omega]
        refine v_iconst dX8_trust_33 (by decide) ?_
        refine v_callVi [_, _] dX8_trust_34 lX8_134 kvX8_tells (plX8 _ _) (Or.inl rfl) rfl rfl rfl rfl rfl rfl rfl rfl rfl (c_X8_tells ?_)
        refine v_goto (tgt := 41) dX8_trust_37 (by decide) ?_
        refine v_ireturn dX8_trust_41 rfl ?_
        first | exact h1 (by omega) | exact h2 (by omega) (by omega) (by omega)
end
