/-! the model over the class: a way is laid -/
def frY (μ m : Mem_) : Prop := ∀ o k, ¬ (o = 50 ∧ (k = 42 ∨ k = 44 ∨ k = 45)) → ¬ (76 ≤ o ∧ o ≤ 78) → m o k = μ o k
theorem frY.cp {μ m w : Mem_} (h : frY μ m) (hc : CP μ w) : CP m w := CP_fr hc (fun k q => h 50 k (by omega) (by omega)) (fun o k q => h o k (by omega) (by omega))
theorem frY.tr {a b c : Mem_} (h1 : frY a b) (h2 : frY b c) : frY a c := fun o k q q2 => by rw [h2 o k q q2]; exact h1 o k q q2
def ykF (w : Mem_) (p : Int) (g q : Nat) : Nat := if cwC w p (q : Int) ∧ w (stc w + 2) q = (g : Int) then orR (w 17 0).toNat (hkF w q) else 0
def yaF (w : Mem_) (p : Int) (q : Nat) : Nat := if cwC w p (q : Int) then 2 ^ (w (stc w + 2) q).toNat else 0
def okN (w : Mem_) (p own : Int) : Nat := if own = 0 then 0 else orR (w 17 0).toNat (hkF w p)
def WLk (w : Mem_) (p own : Int) (n : Nat) (m : Mem_) : Prop := m 50 45 = ((okN w p own : Nat) : Int) ∧ m 50 44 = ((orR n (yaF w p) : Nat) : Int) ∧ ∀ g : Nat, g < 6 → m 78 g = ((orR n (ykF w p g) : Nat) : Int)
section
variable {μ w : Mem_} {Q : PV → Mem_ → Prop}
theorem yk_lt (hp : PIc w) {p : Int} {g q : Nat} : ykF w p g q < 2 ^ 24 := by
  unfold ykF
  split
  · exact held_lt hp (fun k => if_pw)
  · decide
theorem ya_lt (hw : CW w) {p : Int} {q : Nat} (hq : q < (w (stc w) 1).toNat) : yaF w p q < 2 ^ 6 := by
  have := hw.1.2.2.2.2 q (by omega)
  have := hw.1.2.1
  unfold yaF
  split
  · rename_i h
    have h2 := h.2.1
    rw [Int.toNat_natCast] at h2
    exact Nat.pow_lt_pow_right (by omega) (by omega)
  · decide
set_option maxRecDepth 10000 in
theorem c_X8_layWay {p own : Int} (hw : CW w) (hc : CP μ w) (hpp : 0 ≤ p ∧ p < w (stc w) 1) (hQ : ∀ m : Mem_, frY μ m → WLk w p own (w (stc w) 1).toNat m → (∀ c : Nat, c < 24576 → m 76 c = -1) → Q U_ m) : V_ nX8_layWay 0 [R_ 50, I_ p, I_ own, U_, U_] [] μ Q := by
  have s1 := hw.1.2.1
  have s2 := hw.1.2.2.1
  have hp := hw.P
  have lc := cw_lt (w := w) (p := p) s2.2
  have lp3 : ∀ k : Int, 0 ≤ k → k ≤ 24576 → ∀ m : Mem_, frY μ m → WLk w p own (w (stc w) 1).toNat m → (∀ c : Nat, (c : Int) < k → m 76 c = -1) → V_ nX8_layWay 121 [R_ 50, I_ p, I_ own, U_, I_ k] [] m Q := by
    refine loop_up _ (fun k h0 h1 ih => ?_)
    intro m m1 m2 m3
    refine v_iload dX8_layWay_121 rfl ?_
    refine v_sipush dX8_layWay_123 (by decide) ?_
    refine v_icmp_ge (tgt := 143) dX8_layWay_126 (by decide) (fun hc_126 => ?_) (fun hc_126 => ?_)
    · refine v_return dX8_layWay_143 rfl ?_
      exact hQ m m1 m2 (fun c hcc => m3 c (by omega))
    · refine v_aload_n dX8_layWay_129 rfl rfl ?_
      refine v_getR dX8_layWay_130 fX8_86 rfl rfl rfl ?_
      refine v_iload dX8_layWay_133 rfl ?_
      refine v_iconst dX8_layWay_135 (by decide) ?_
      refine v_iast dX8_layWay_136 rfl (by omega) (by omega) ?_
      refine v_iinc (ls' := [_, _, _, _, _]) dX8_layWay_137 rfl (fun hi_137 => by omega) rfl rfl ?_
      refine v_goto (tgt := 121) dX8_layWay_140 (by decide) ?_
      refine v_kill (ls' := [_, _, _, _, _]) 3 rfl ?_
      refine ih (by omega) _ (fun o k q q2 => by rw [mset_off (by omega)]; exact m1 o k q q2) ⟨by rw [mset_off (by omega)]; exact m2.1, by rw [mset_off (by omega)]; exact m2.2.1, fun g hg => by rw [mset_off (by omega)]; exact m2.2.2 g hg⟩ (fun c hcc => ?_)
      by_cases e : c = k.toNat
      · rw [e, mset_same]
      · rw [mset_off (by omega)]; exact m3 c (by omega)
  have lp2 : ∀ k : Int, 0 ≤ k → k ≤ w (stc w) 1 → ∀ m : Mem_, frY μ m → WLk w p own k.toNat m → V_ nX8_layWay 55 [R_ 50, I_ p, I_ own, I_ (cwN w p : Int), I_ k] [] m Q := by
    refine loop_up _ (fun k h0 h1 ih => ?_)
    intro m m1 m2
    have hcm := m1.cp hc
    have cm1 := hcm.1.1
    have hk : k < w (stc w) 1 → _ := fun q : k < w (stc w) 1 => hcm.1.2.2 k.toNat (by omega)
    have hs3 : k < w (stc w) 1 → _ := fun q : k < w (stc w) 1 => hw.1.2.2.2.2 k.toNat (by omega)
    have ek : ((k.toNat : Nat) : Int) = k := by omega
    have cwb := cw_bit (w := w) (p := p) (q := k.toNat)
    have hhome : k < w (stc w) 1 → (cwN w p).testBit k.toNat = true → 0 ≤ w (stc w + 2) k.toNat ∧ w (stc w + 2) k.toNat < 6 := fun q q2 => by
      have := (cwb.1 q2).2.2.1
      rw [Int.toNat_natCast] at this
      have := hs3 q
      omega
    refine v_iload dX8_layWay_55 rfl ?_
    refine v_aload_n dX8_layWay_57 rfl rfl ?_
    refine v_getI dX8_layWay_58 fX8_183 rfl rfl rfl ?_
    refine v_icmp_ge (tgt := 118) dX8_layWay_61 (by decide) (fun hc_61 => ?_) (fun hc_61 => ?_)
    · refine v_iconst dX8_layWay_118 (by decide) ?_
      refine v_istore (ls' := [_, _, _, _, _]) dX8_layWay_119 rfl rfl rfl ?_
      refine v_kill (ls' := [_, _, _, _, _]) 3 rfl ?_
      rw [show k.toNat = (w (stc w) 1).toNat by omega] at m2
      exact lp3 0 (by omega) (by omega) m m1 m2 (fun c hcc => by omega)
    · refine v_iload_n dX8_layWay_64 rfl rfl ?_
      refine v_iload dX8_layWay_65 rfl ?_
      refine v_callSi [_, _] dX8_layWay_67 lX8_252 ksX8_has (plX8 _ _) (Or.inr rfl) rfl rfl rfl rfl rfl rfl (c_X8_has (by omega) (by omega) (by omega) ?_)
      refine v_ifb_eq (tgt := 112) dX8_layWay_70 (by decide) (fun hc_70 => ?_) (fun hc_70 => ?_)
      · refine v_iinc (ls' := [_, _, _, _, _]) dX8_layWay_112 rfl (fun hi_112 => by omega) rfl rfl ?_
        refine v_goto (tgt := 55) dX8_layWay_115 (by decide) ?_
        have hno : ¬ cwC w p ((k.toNat : Nat) : Int) := fun q => hc_70 (by rw [Int.toNat_natCast]; exact cwb.2 ⟨by omega, q⟩)
        refine ih (by omega) m m1 ⟨m2.1, ?_, fun g hg => ?_⟩
        · exact orZ h0 m2.2.1 (if_neg hno)
        · exact orZ h0 (m2.2.2 g hg) (if_neg (fun q => hno q.1))
      · refine v_aload_n dX8_layWay_73 rfl rfl ?_
        refine v_getR dX8_layWay_74 fX8_92 rfl rfl rfl ?_
        refine v_aload_n dX8_layWay_77 rfl rfl ?_
        refine v_getR dX8_layWay_78 fX8_32 rfl rfl rfl ?_
        refine v_iload dX8_layWay_81 rfl ?_
        refine v_iald dX8_layWay_83 rfl (by omega) (by omega) ?_
        rw [(hk (by omega)).1]
        refine v_dup2 dX8_layWay_84 ?_
        refine v_iald dX8_layWay_85 rfl (by have := hhome (by omega) (by simpa using hc_70); omega) (by have := hhome (by omega) (by simpa using hc_70); omega) ?_
        refine v_aload_n dX8_layWay_86 rfl rfl ?_
        refine v_iload dX8_layWay_87 rfl ?_
        refine v_callVi [_] dX8_layWay_89 lX8_243 kvX8_heldBy (plX8 _ _) (Or.inl rfl) rfl rfl rfl rfl rfl rfl rfl rfl rfl (c_X8_heldBy hp hcm.2.1 ?_)
        refine v_ior dX8_layWay_92 ?_
        refine v_iast dX8_layWay_93 rfl (by have := hhome (by omega) (by simpa using hc_70); omega) (by have := hhome (by omega) (by simpa using hc_70); omega) ?_
        refine v_aload_n dX8_layWay_94 rfl rfl ?_
        refine v_dupR_ dX8_layWay_95 ?_
        refine v_getI dX8_layWay_96 fX8_280 rfl rfl rfl ?_
        refine v_iconst dX8_layWay_99 (by decide) ?_
        refine v_aload_n dX8_layWay_100 rfl rfl ?_
        refine v_getR dX8_layWay_101 fX8_32 rfl rfl rfl ?_
        refine v_iload dX8_layWay_104 rfl ?_
        refine v_iald dX8_layWay_106 rfl (by omega) (by omega) ?_
        rw [mset_off (by omega), (hk (by omega)).1]
        refine v_ishl dX8_layWay_107 ?_
        refine v_ior dX8_layWay_108 ?_
        refine v_putI dX8_layWay_109 fpX8_280 rfl rfl rfl ?_
        refine v_iinc (ls' := [_, _, _, _, _]) dX8_layWay_112 rfl (fun hi_112 => by omega) rfl rfl ?_
        refine v_goto (tgt := 55) dX8_layWay_115 (by decide) ?_
        have hbt : (cwN w p).testBit k.toNat = true := by simpa using hc_70
        have hho := hhome (by omega) hbt
        have hcw := (cwb.1 hbt).2
        refine ih (by omega) _ (fun o j q q2 => by rw [mset_off (by omega), mset_off (by omega)]; exact m1 o j q q2) ⟨by rw [mset_off (by omega), mset_off (by omega)]; exact m2.1, ?_, fun g hg => ?_⟩
        · rw [mset_same, mset_off (by omega)]
          refine orS (x := 2 ^ (w (stc w + 2) k.toNat).toNat) h0 m2.2.1 (bShl_one (by omega) (by omega)) (if_pos hcw) (fun j hj => ?_)
          have := ya_lt hw (p := p) (q := j) (by omega)
          omega
        · rw [mset_off (by omega)]
          have hu := or_upd (m := m) (o := 78) (a := (w (stc w + 2) k.toNat).toNat) (k := k.toNat) (f := fun g => ykF w p g) (x := ((orR (w 17 0).toNat (hkF w k) : Nat) : Int)) m2.2.2 (by omega) (by unfold ykF; rw [if_pos ⟨hcw, by omega⟩, ek]) (fun g hg e => if_neg (fun q => by omega)) (fun j hj => Nat.lt_trans (yk_lt hp) (by decide)) g hg
          rw [show (k + 1).toNat = k.toNat + 1 by omega]
          exact hu
  have lp1 : ∀ k : Int, 0 ≤ k → k ≤ 6 → ∀ m : Mem_, frY μ m → m 50 45 = ((okN w p own : Nat) : Int) → m 50 44 = 0 → (∀ g : Nat, (g : Int) < k → m 78 g = 0) → V_ nX8_layWay 31 [R_ 50, I_ p, I_ own, I_ (cwN w p : Int), I_ k] [] m Q := by
    refine loop_up _ (fun k h0 h1 ih => ?_)
    intro m m1 m2 m3 m4
    refine v_iload dX8_layWay_31 rfl ?_
    refine v_bipush dX8_layWay_33 (by decide) ?_
    refine v_icmp_ge (tgt := 52) dX8_layWay_35 (by decide) (fun hc_35 => ?_) (fun hc_35 => ?_)
    · refine v_iconst dX8_layWay_52 (by decide) ?_
      refine v_istore (ls' := [_, _, _, _, _]) dX8_layWay_53 rfl rfl rfl ?_
      exact lp2 0 (by omega) (by omega) m m1 ⟨m2, m3, fun g hg => m4 g (by omega)⟩
    · refine v_aload_n dX8_layWay_38 rfl rfl ?_
      refine v_getR dX8_layWay_39 fX8_92 rfl rfl rfl ?_
      refine v_iload dX8_layWay_42 rfl ?_
      refine v_iconst dX8_layWay_44 (by decide) ?_
      refine v_iast dX8_layWay_45 rfl (by omega) (by omega) ?_
      refine v_iinc (ls' := [_, _, _, _, _]) dX8_layWay_46 rfl (fun hi_46 => by omega) rfl rfl ?_
      refine v_goto (tgt := 31) dX8_layWay_49 (by decide) ?_
      refine ih (by omega) _ (fun o k q q2 => by rw [mset_off (by omega)]; exact m1 o k q q2) (by rw [mset_off (by omega)]; exact m2) (by rw [mset_off (by omega)]; exact m3) (fun c hcc => ?_)
      by_cases e : c = k.toNat
      · rw [e, mset_same]
      · rw [mset_off (by omega)]; exact m4 c (by omega)
  refine v_aload_n dX8_layWay_0 rfl rfl ?_
  refine v_iload_n dX8_layWay_1 rfl rfl ?_
  refine v_callVi [_] dX8_layWay_2 lX8_261 kvX8_wakesOf (plX8 _ _) (Or.inl rfl) rfl rfl rfl rfl rfl rfl rfl rfl rfl (c_X8_wakesOf hw hc hpp ?_)
  refine v_istore_n (ls' := [_, _, _, _, _]) dX8_layWay_5 rfl rfl rfl rfl ?_
  refine v_aload_n dX8_layWay_6 rfl rfl ?_
  refine v_iload_n dX8_layWay_7 rfl rfl ?_
  refine v_if_eq (tgt := 19) dX8_layWay_8 (by decide) (fun hc_8 => ?_) (fun hc_8 => ?_)
  · refine v_iconst dX8_layWay_19 (by decide) ?_
    refine v_putI dX8_layWay_20 fpX8_277 rfl rfl rfl ?_
    refine v_aload_n dX8_layWay_23 rfl rfl ?_
    refine v_iconst dX8_layWay_24 (by decide) ?_
    refine v_putI dX8_layWay_25 fpX8_280 rfl rfl rfl ?_
    refine v_iconst dX8_layWay_28 (by decide) ?_
    refine v_istore (ls' := [_, _, _, _, _]) dX8_layWay_29 rfl rfl rfl ?_
    exact lp1 0 (by omega) (by omega) _ (fun o k q q2 => by rw [mset_off (by omega), mset_off (by omega)]) (by rw [mset_off (by omega), mset_same]; unfold okN; rw [if_pos (by omega)]; rfl) (mset_same _ _ _ _) (fun g hg => by omega)
  · refine v_aload_n dX8_layWay_11 rfl rfl ?_
    refine v_iload_n dX8_layWay_12 rfl rfl ?_
    refine v_callVi [_] dX8_layWay_13 lX8_243 kvX8_heldBy (plX8 _ _) (Or.inl rfl) rfl rfl rfl rfl rfl rfl rfl rfl rfl (c_X8_heldBy hp hc.2.1 ?_)
    refine v_goto (tgt := 20) dX8_layWay_16 (by decide) ?_
    refine v_putI dX8_layWay_20 fpX8_277 rfl rfl rfl ?_
    refine v_aload_n dX8_layWay_23 rfl rfl ?_
    refine v_iconst dX8_layWay_24 (by decide) ?_
    refine v_putI dX8_layWay_25 fpX8_280 rfl rfl rfl ?_
    refine v_iconst dX8_layWay_28 (by decide) ?_
    refine v_istore (ls' := [_, _, _, _, _]) dX8_layWay_29 rfl rfl rfl ?_
    exact lp1 0 (by omega) (by omega) _ (fun o k q q2 => by rw [mset_off (by omega), mset_off (by omega)]) (by rw [mset_off (by omega), mset_same]; unfold okN; rw [if_neg (by omega)]) (mset_same _ _ _ _) (fun g hg => by omega)
end
