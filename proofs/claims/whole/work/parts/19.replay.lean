/-! Present: the whole replay -/
theorem mfill_s0 (μ : Mem_) (o n : Nat) (v : Int) : mset (mfill μ o 0 n v) o n v = mfill μ o 0 (n + 1) v := by
  have := mfill_s μ o 0 n v
  rwa [Nat.zero_add] at this
theorem mfill_off {μ : Mem_} {o lo n a b : Nat} {v : Int} (h : a ≠ o) : mfill μ o lo n v a b = μ a b := if_neg (fun q => h q.1)
theorem mfill_in {μ : Mem_} {o lo n b : Nat} {v : Int} (h : lo ≤ b ∧ b < lo + n) : mfill μ o lo n v o b = v := if_pos ⟨rfl, h⟩
def LVc (nH nP : Int) (μ : Mem_) : Prop := (0 ≤ μ 7 0 ∧ μ 7 0 ≤ 40) ∧ ∀ e : Nat, (e : Int) < μ 7 0 → evOK nH nP (kbC μ e) (μ 8 e) (μ 9 e) (μ 10 e) (μ 11 e)
def rsC (μ : Mem_) : Mem_ := mfill (mfill (mset μ 17 0 0) 23 0 6 0) 24 0 144 0
def rpC : Nat → Mem_ → Mem_
  | 0, μ => μ
  | e + 1, μ => apC (rpC e μ) (μ 8 e) (μ 9 e) (μ 10 e) (μ 11 e)
theorem addKeyC_off {μ : Mem_} {a b c : Int} {o i : Nat} (h : o < 17 ∨ 24 < o) : addKeyC μ a b c o i = μ o i := by
  unfold addKeyC
  rw [bringC_17 (by omega), mset_off (by omega), mset_off (by omega), mset_off (by omega), mset_off (by omega)]
theorem apC_off {μ : Mem_} {k a b c : Int} {o i : Nat} (h : o < 17 ∨ 24 < o) : apC μ k a b c o i = μ o i := by
  unfold apC chTrC
  repeat' split
  · exact addKeyC_off h
  · exact addKeyC_off h
  · exact bringC_17 (by omega)
  · exact bringC_17 (by omega)
  · exact bringC_17 (by omega)
  · exact mset_off (by omega)
  · exact mset_off (by omega)
theorem rpC_off {μ : Mem_} {e o i : Nat} (h : o < 17 ∨ 24 < o) : rpC e μ o i = μ o i := by
  induction e with
  | zero => rfl
  | succ e ih => rw [rpC, apC_off h, ih]
theorem addKeyC_17 {μ : Mem_} {a b c : Int} : addKeyC μ a b c 17 0 = μ 17 0 + 1 := by
  unfold addKeyC
  rw [bringC_17 (by omega), mset_same]
theorem apC_17 {μ : Mem_} {k a b c : Int} : apC μ k a b c 17 0 = μ 17 0 + b2i (mkK k) := by
  unfold apC chTrC
  split
  · rw [addKeyC_17, b2i_t (by omega)]
  · split
    · rw [addKeyC_17, b2i_t (by omega)]
    · rw [b2i_f (by omega)]
      repeat' split
      · rw [bringC_17 (by omega)]; omega
      · rw [bringC_17 (by omega)]; omega
      · rw [bringC_17 (by omega)]; omega
      · rw [mset_off (by omega)]; omega
      · rw [mset_off (by omega)]; omega
theorem rsC_off {μ : Mem_} {o i : Nat} (h : o ≠ 17 ∧ o ≠ 23 ∧ o ≠ 24) : rsC μ o i = μ o i := by
  unfold rsC
  rw [mfill_off (by omega), mfill_off (by omega), mset_off (by omega)]
theorem rsC_17 {μ : Mem_} : rsC μ 17 0 = 0 := by
  unfold rsC
  rw [mfill_off (by omega), mfill_off (by omega), mset_same]
theorem kbC_s {μ : Mem_} {e : Nat} : kbC μ (e + 1) = kbC μ e + b2i (mkK (μ 8 e)) := rfl
theorem rpC_17 {μ : Mem_} {e : Nat} : rpC e (rsC μ) 17 0 = kbC μ e := by
  induction e with
  | zero => exact rsC_17
  | succ e ih => rw [rpC, apC_17, ih, kbC_s, rsC_off (o := 8) (by omega)]
theorem RIc_rs {nH nP : Int} {μ : Mem_} : RIc nH nP 0 (rsC μ) := by
  refine ⟨⟨by rw [rsC_17]; omega, fun k hk => ?_⟩, fun h hh => ?_, fun i hi => ?_⟩
  · rw [rsC_17] at hk; omega
  · have : rsC μ 23 h = 0 := by
      unfold rsC
      rw [mfill_off (by omega), mfill_in (by omega)]
    omega
  · have : rsC μ 24 i = 0 := by
      unfold rsC
      rw [mfill_in (by omega)]
    omega
theorem RIc_rp {nH nP : Int} {μ : Mem_} (hH : nH ≤ 6) (hP : nP ≤ 12) (hl : LVc nH nP μ) : ∀ e : Nat, (e : Int) ≤ μ 7 0 → RIc nH nP e (rpC e (rsC μ)) := by
  intro e
  induction e with
  | zero => exact fun _ => RIc_rs
  | succ e ih =>
    intro he
    have h1 := ih (by omega)
    have h2 := hl.2 e (by omega)
    rw [← rpC_17] at h2
    rw [rpC, rsC_off (o := 8) (by omega), rsC_off (o := 9) (by omega), rsC_off (o := 10) (by omega), rsC_off (o := 11) (by omega)]
    have := RIc_ap hH hP h1 h2
    rwa [show ((e : Int) + 1) = ((e + 1 : Nat) : Int) by omega] at this
section
variable {μ : Mem_} {Q : PV → Mem_ → Prop}
set_option maxRecDepth 10000 in
theorem c_X2_replay {nH nP : Int} (hH : nH ≤ 6) (hP : nP ≤ 12) (hl : LVc nH nP μ) (hQ : ∀ μ' : Mem_, (∀ o, o ≠ 25 → ∀ i, μ' o i = rpC (μ 7 0).toNat (rsC μ) o i) → ReOK μ' → Q U_ μ') : V_ nX2_replay 0 [R_ 17, R_ 7, U_] [] μ Q := by
  have hl1 := hl.1
  have lp3 : ∀ e : Int, 0 ≤ e → e ≤ μ 7 0 → V_ nX2_replay 52 [R_ 17, R_ 7, I_ e] [] (rpC e.toNat (rsC μ)) Q := by
    refine loop_up _ (fun e h0 h1 ih => ?_)
    have e7 : ∀ i, rpC e.toNat (rsC μ) 7 i = μ 7 i := fun i => by rw [rpC_off (by omega), rsC_off (by omega)]
    have e8 : ∀ i, rpC e.toNat (rsC μ) 8 i = μ 8 i := fun i => by rw [rpC_off (by omega), rsC_off (by omega)]
    have e9 : ∀ i, rpC e.toNat (rsC μ) 9 i = μ 9 i := fun i => by rw [rpC_off (by omega), rsC_off (by omega)]
    have e10 : ∀ i, rpC e.toNat (rsC μ) 10 i = μ 10 i := fun i => by rw [rpC_off (by omega), rsC_off (by omega)]
    have e11 : ∀ i, rpC e.toNat (rsC μ) 11 i = μ 11 i := fun i => by rw [rpC_off (by omega), rsC_off (by omega)]
    have hR := RIc_rp hH hP hl e.toNat (by omega)
    have hv : e < μ 7 0 → _ := fun he => hl.2 e.toNat (by omega)
    rw [← rpC_17] at hv
    refine v_iload_n dX2_replay_52 rfl rfl ?_
    refine v_aload_n dX2_replay_53 rfl rfl ?_
    refine v_getI dX2_replay_54 fX2_40 rfl rfl rfl ?_
    rw [e7]
    refine v_icmp_ge (tgt := 94) dX2_replay_57 (by decide) (fun hc_57 => ?_) (fun hc_57 => ?_)
    · refine v_aload_n dX2_replay_94 rfl rfl ?_
      refine v_callVv [] dX2_replay_95 lX2_59 kvX2_settleReach (plX2 _ _) rfl rfl rfl rfl rfl rfl rfl rfl rfl rfl (c_X2_settleReach (RIc_P hH hP hR) (fun μ' hf hre => ?_))
      refine v_return dX2_replay_98 rfl ?_
      rw [show e = μ 7 0 by omega] at hf
      exact hQ μ' hf hre
    · refine v_aload_n dX2_replay_60 rfl rfl ?_
      refine v_aload_n dX2_replay_61 rfl rfl ?_
      refine v_getR dX2_replay_62 fX2_45 rfl rfl rfl ?_
      refine v_iload_n dX2_replay_65 rfl rfl ?_
      refine v_iald dX2_replay_66 rfl (by omega) (by omega) ?_
      rw [e8]
      refine v_aload_n dX2_replay_67 rfl rfl ?_
      refine v_getR dX2_replay_68 fX2_48 rfl rfl rfl ?_
      refine v_iload_n dX2_replay_71 rfl rfl ?_
      refine v_iald dX2_replay_72 rfl (by omega) (by omega) ?_
      rw [e9]
      refine v_aload_n dX2_replay_73 rfl rfl ?_
      refine v_getR dX2_replay_74 fX2_51 rfl rfl rfl ?_
      refine v_iload_n dX2_replay_77 rfl rfl ?_
      refine v_iald dX2_replay_78 rfl (by omega) (by omega) ?_
      rw [e10]
      refine v_aload_n dX2_replay_79 rfl rfl ?_
      refine v_getR dX2_replay_80 fX2_54 rfl rfl rfl ?_
      refine v_iload_n dX2_replay_83 rfl rfl ?_
      refine v_iald dX2_replay_84 rfl (by omega) (by omega) ?_
      rw [e11]
      refine v_callVv [_, _, _, _] dX2_replay_85 lX2_55 kvX2_apply (plX2 _ _) rfl rfl rfl rfl rfl rfl rfl rfl rfl rfl (c_X2_apply hH hP (by omega) hR (hv (by omega)) ?_)
      refine v_iinc (ls' := [_, _, _]) dX2_replay_88 rfl (fun hi_88 => by omega) rfl rfl ?_
      refine v_goto (tgt := 52) dX2_replay_91 (by decide) ?_
      have := ih (by omega)
      rwa [show (e + 1).toNat = e.toNat + 1 by omega, rpC, rsC_off (o := 8) (by omega), rsC_off (o := 9) (by omega), rsC_off (o := 10) (by omega), rsC_off (o := 11) (by omega)] at this
  have lp2 : ∀ k : Int, 0 ≤ k → k ≤ 144 → V_ nX2_replay 28 [R_ 17, R_ 7, I_ k] [] (mfill (mfill (mset μ 17 0 0) 23 0 6 0) 24 0 k.toNat 0) Q := by
    refine loop_up _ (fun k h0 h1 ih => ?_)
    refine v_iload_n dX2_replay_28 rfl rfl ?_
    refine v_aload_n dX2_replay_29 rfl rfl ?_
    refine v_getR dX2_replay_30 fX2_30 rfl rfl rfl ?_
    refine v_alen dX2_replay_33 rfl rfl ?_
    refine v_icmp_ge (tgt := 50) dX2_replay_34 (by decide) (fun hc_34 => ?_) (fun hc_34 => ?_)
    · refine v_iconst dX2_replay_50 (by decide) ?_
      refine v_istore_n (ls' := [_, _, _]) dX2_replay_51 rfl rfl rfl rfl ?_
      rw [show k.toNat = 144 by omega]
      exact lp3 0 (by omega) (by omega)
    · refine v_aload_n dX2_replay_37 rfl rfl ?_
      refine v_getR dX2_replay_38 fX2_30 rfl rfl rfl ?_
      refine v_iload_n dX2_replay_41 rfl rfl ?_
      refine v_iconst dX2_replay_42 (by decide) ?_
      refine v_iast dX2_replay_43 rfl (by omega) (by omega) ?_
      refine v_iinc (ls' := [_, _, _]) dX2_replay_44 rfl (fun hi_44 => by omega) rfl rfl ?_
      refine v_goto (tgt := 28) dX2_replay_47 (by decide) ?_
      rw [mfill_s0, show k.toNat + 1 = (k + 1).toNat by omega]
      exact ih (by omega)
  have lp1 : ∀ k : Int, 0 ≤ k → k ≤ 6 → V_ nX2_replay 7 [R_ 17, R_ 7, I_ k] [] (mfill (mset μ 17 0 0) 23 0 k.toNat 0) Q := by
    refine loop_up _ (fun k h0 h1 ih => ?_)
    refine v_iload_n dX2_replay_7 rfl rfl ?_
    refine v_bipush dX2_replay_8 (by decide) ?_
    refine v_icmp_ge (tgt := 26) dX2_replay_10 (by decide) (fun hc_10 => ?_) (fun hc_10 => ?_)
    · refine v_iconst dX2_replay_26 (by decide) ?_
      refine v_istore_n (ls' := [_, _, _]) dX2_replay_27 rfl rfl rfl rfl ?_
      rw [show k.toNat = 6 by omega]
      have := lp2 0 (by omega) (by omega)
      rwa [show (0 : Int).toNat = 0 from rfl, mfill_0] at this
    · refine v_aload_n dX2_replay_13 rfl rfl ?_
      refine v_getR dX2_replay_14 fX2_27 rfl rfl rfl ?_
      refine v_iload_n dX2_replay_17 rfl rfl ?_
      refine v_iconst dX2_replay_18 (by decide) ?_
      refine v_iast dX2_replay_19 rfl (by omega) (by omega) ?_
      refine v_iinc (ls' := [_, _, _]) dX2_replay_20 rfl (fun hi_20 => by omega) rfl rfl ?_
      refine v_goto (tgt := 7) dX2_replay_23 (by decide) ?_
      rw [mfill_s0, show k.toNat + 1 = (k + 1).toNat by omega]
      exact ih (by omega)
  refine v_aload_n dX2_replay_0 rfl rfl ?_
  refine v_iconst dX2_replay_1 (by decide) ?_
  refine v_putI dX2_replay_2 fpX2_36 rfl rfl rfl ?_
  refine v_iconst dX2_replay_5 (by decide) ?_
  refine v_istore_n (ls' := [_, _, _]) dX2_replay_6 rfl rfl rfl rfl ?_
  have := lp1 0 (by omega) (by omega)
  rwa [show (0 : Int).toNat = 0 from rfl, mfill_0] at this
end
