/-! soonest, round -/
theorem opens_cg {m μ : Mem_} (h : ∀ o, 17 ≤ o → o ≤ 24 → ∀ i, m o i = μ o i) (a b : Int) : opensC m a b = opensC μ a b := by
  unfold opensC opF liveC
  simp only [fun i => h 17 (by omega) (by omega) i, fun i => h 18 (by omega) (by omega) i, fun i => h 19 (by omega) (by omega) i, fun i => h 20 (by omega) (by omega) i, fun i => h 21 (by omega) (by omega) i, fun i => h 23 (by omega) (by omega) i]
theorem PIc_cg {m μ : Mem_} (h : ∀ o, 17 ≤ o → o ≤ 24 → ∀ i, m o i = μ o i) (hp : PIc μ) : PIc m := by
  unfold PIc
  simp only [fun i => h 17 (by omega) (by omega) i, fun i => h 18 (by omega) (by omega) i, fun i => h 20 (by omega) (by omega) i, fun i => h 21 (by omega) (by omega) i, fun i => h 22 (by omega) (by omega) i]
  exact hp
theorem StC_cg {m μ : Mem_} {s : Nat} (hs : isSt s) (h : ∀ o, 42 ≤ o → o ≤ 49 → ∀ i, m o i = μ o i) (hp : StC μ s) : StC m s := by
  unfold StC
  simp only [fun i => h s (by omega) (by omega) i, fun i => h (s + 1) (by omega) (by omega) i, fun i => h (s + 2) (by omega) (by omega) i, fun i => h (s + 3) (by omega) (by omega) i]
  exact hp
def baL (μ : Mem_) (h : Nat) : Nat := if (h : Int) < μ (stc μ) 0 then opensC μ 1 h else 0
def loF (μ : Mem_) (p : Int) (h q : Nat) : Nat := if cwC μ p q ∧ μ (stc μ + 2) q = (h : Int) then haC μ q else 0
def lookN (μ : Mem_) (p : Int) (h : Nat) : Nat := baL μ h ||| orR (μ (stc μ) 1).toNat (loF μ p h)
def entN (μ : Mem_) (h : Nat) : Nat := if (h : Int) < μ (stc μ) 0 then opensC μ 2 h else 0
def staN (μ : Mem_) (p : Int) : Nat := if 0 ≤ μ (stc μ + 2) p.toNat then (μ (stc μ + 2) p.toNat).toNat else 0
section
variable {μ : Mem_} {Q : PV → Mem_ → Prop}
set_option maxRecDepth 10000 in
theorem c_X6_begin {hs st : Int} (hQ : ∀ m : Mem_, (∀ o k, ¬ (o = 28 ∧ (k = 0 ∨ k = 1)) → o ≠ 29 → o ≠ 30 → m o k = μ o k) → m 28 0 = hs → m 28 1 = st → (∀ h : Nat, h < 6 → m 29 h = 0 ∧ m 30 h = 0) → Q U_ m) : V_ nX6_begin 0 [R_ 28, I_ hs, I_ st, U_] [] μ Q := by
  have lp : ∀ k : Int, 0 ≤ k → k ≤ 6 → ∀ m : Mem_, (∀ o k, ¬ (o = 28 ∧ (k = 0 ∨ k = 1)) → o ≠ 29 → o ≠ 30 → m o k = μ o k) → m 28 0 = hs → m 28 1 = st → (∀ h : Nat, (h : Int) < k → m 29 h = 0 ∧ m 30 h = 0) → V_ nX6_begin 12 [R_ 28, I_ hs, I_ st, I_ k] [] m Q := by
    refine loop_up _ (fun k h0 h1 ih => ?_)
    intro m e1 e2 e3 e4
    refine v_iload_n dX6_begin_12 rfl rfl ?_
    refine v_bipush dX6_begin_13 (by decide) ?_
    refine v_icmp_ge (tgt := 38) dX6_begin_15 (by decide) (fun hc_15 => ?_) (fun hc_15 => ?_)
    · refine v_return dX6_begin_38 rfl ?_
      exact hQ m e1 e2 e3 (fun h hh => e4 h (by omega))
    · refine v_aload_n dX6_begin_18 rfl rfl ?_
      refine v_getR dX6_begin_19 fX6_9 rfl rfl rfl ?_
      refine v_iload_n dX6_begin_22 rfl rfl ?_
      refine v_iconst dX6_begin_23 (by decide) ?_
      refine v_iast dX6_begin_24 rfl (by omega) (by omega) ?_
      refine v_aload_n dX6_begin_25 rfl rfl ?_
      refine v_getR dX6_begin_26 fX6_15 rfl rfl rfl ?_
      refine v_iload_n dX6_begin_29 rfl rfl ?_
      refine v_iconst dX6_begin_30 (by decide) ?_
      refine v_iast dX6_begin_31 rfl (by omega) (by omega) ?_
      refine v_iinc (ls' := [_, _, _, _]) dX6_begin_32 rfl (fun hi_32 => by omega) rfl rfl ?_
      refine v_goto (tgt := 12) dX6_begin_35 (by decide) ?_
      refine ih (by omega) _ (fun o j q1 q2 q3 => by rw [mset_off (by omega), mset_off (by omega)]; exact e1 o j q1 q2 q3) (by rw [mset_off (by omega), mset_off (by omega)]; exact e2) (by rw [mset_off (by omega), mset_off (by omega)]; exact e3) (fun h hh => ?_)
      by_cases q : h = k.toNat
      · subst q
        rw [mset_same, mset_off (by omega), mset_same]
        exact ⟨rfl, rfl⟩
      · rw [mset_off (by omega), mset_off (by omega), mset_off (by omega), mset_off (by omega)]
        exact e4 h (by omega)
  refine v_aload_n dX6_begin_0 rfl rfl ?_
  refine v_iload_n dX6_begin_1 rfl rfl ?_
  refine v_putI dX6_begin_2 fpX6_24 rfl rfl rfl ?_
  refine v_aload_n dX6_begin_5 rfl rfl ?_
  refine v_iload_n dX6_begin_6 rfl rfl ?_
  refine v_putI dX6_begin_7 fpX6_28 rfl rfl rfl ?_
  refine v_iconst dX6_begin_10 (by decide) ?_
  refine v_istore_n (ls' := [_, _, _, _]) dX6_begin_11 rfl rfl rfl rfl ?_
  refine lp 0 (by omega) (by omega) _ (fun o k q1 q2 q3 => by rw [mset_off (by omega), mset_off (by omega)]) (by rw [mset_off (by omega), mset_same]) (by rw [mset_same]) (fun h hh => absurd hh (by omega))
set_option maxRecDepth 10000 in
theorem c_X6_seenAt {h x : Int} (hh : 0 ≤ h ∧ h < 6) (hQ : Q U_ (mset μ 29 h.toNat (bOr (μ 29 h.toNat) x))) : V_ nX6_seenAt 0 [R_ 28, I_ h, I_ x] [] μ Q := by
  refine v_iload_n dX6_seenAt_0 rfl rfl ?_
  refine v_if_lt (tgt := 20) dX6_seenAt_1 (by decide) (fun hc_1 => ?_) (fun hc_1 => ?_)
  · refine v_return dX6_seenAt_20 rfl ?_
    omega
  · refine v_iload_n dX6_seenAt_4 rfl rfl ?_
    refine v_bipush dX6_seenAt_5 (by decide) ?_
    refine v_icmp_ge (tgt := 20) dX6_seenAt_7 (by decide) (fun hc_7 => ?_) (fun hc_7 => ?_)
    · refine v_return dX6_seenAt_20 rfl ?_
      omega
    · refine v_aload_n dX6_seenAt_10 rfl rfl ?_
      refine v_getR dX6_seenAt_11 fX6_9 rfl rfl rfl ?_
      refine v_iload_n dX6_seenAt_14 rfl rfl ?_
      refine v_dup2 dX6_seenAt_15 ?_
      refine v_iald dX6_seenAt_16 rfl (by omega) (by omega) ?_
      refine v_iload_n dX6_seenAt_17 rfl rfl ?_
      refine v_ior dX6_seenAt_18 ?_
      refine v_iast dX6_seenAt_19 rfl (by omega) (by omega) ?_
      refine v_return dX6_seenAt_20 rfl ?_
      exact hQ
set_option maxRecDepth 10000 in
theorem c_X6_goneInto {h x : Int} (hh : 0 ≤ h ∧ h < 6) (hQ : Q U_ (mset μ 30 h.toNat (bOr (μ 30 h.toNat) x))) : V_ nX6_goneInto 0 [R_ 28, I_ h, I_ x] [] μ Q := by
  refine v_iload_n dX6_goneInto_0 rfl rfl ?_
  refine v_if_lt (tgt := 20) dX6_goneInto_1 (by decide) (fun hc_1 => ?_) (fun hc_1 => ?_)
  · refine v_return dX6_goneInto_20 rfl ?_
    omega
  · refine v_iload_n dX6_goneInto_4 rfl rfl ?_
    refine v_bipush dX6_goneInto_5 (by decide) ?_
    refine v_icmp_ge (tgt := 20) dX6_goneInto_7 (by decide) (fun hc_7 => ?_) (fun hc_7 => ?_)
    · refine v_return dX6_goneInto_20 rfl ?_
      omega
    · refine v_aload_n dX6_goneInto_10 rfl rfl ?_
      refine v_getR dX6_goneInto_11 fX6_15 rfl rfl rfl ?_
      refine v_iload_n dX6_goneInto_14 rfl rfl ?_
      refine v_dup2 dX6_goneInto_15 ?_
      refine v_iald dX6_goneInto_16 rfl (by omega) (by omega) ?_
      refine v_iload_n dX6_goneInto_17 rfl rfl ?_
      refine v_ior dX6_goneInto_18 ?_
      refine v_iast dX6_goneInto_19 rfl (by omega) (by omega) ?_
      refine v_return dX6_goneInto_20 rfl ?_
      exact hQ
theorem look_lt {μ : Mem_} (hp : PIc μ) (hs : StC μ (stc μ)) (p : Int) (h : Nat) : lookN μ p h < 2 ^ 6 := by
  refine Nat.or_lt_two_pow ?_ (orR_lt (fun q hq => ?_))
  · unfold baL
    split
    · exact opens_lt hp _ _
    · decide
  · unfold loF
    split
    · exact haC_lt hp hs (by omega)
    · decide
theorem ent_lt {μ : Mem_} (hp : PIc μ) (h : Nat) : entN μ h < 2 ^ 6 := by
  unfold entN
  split
  · exact opens_lt hp _ _
  · decide
def frW (μ m : Mem_) : Prop := ∀ o k, ¬ (o = 28 ∧ (k = 0 ∨ k = 1)) → o ≠ 29 → o ≠ 30 → m o k = μ o k
set_option maxRecDepth 10000 in
set_option maxHeartbeats 1000000 in
theorem c_X7_prepareWay {p : Int} (hst : isSt (stc μ)) (hs : StC μ (stc μ)) (hp : PIc μ) (hpp : 0 ≤ p ∧ p < μ (stc μ) 1) (hQ : ∀ m : Mem_, frW μ m → m 28 0 = μ (stc μ) 0 → m 28 1 = (staN μ p : Int) → (∀ h : Nat, h < 6 → m 29 h = (lookN μ p h : Int) ∧ m 30 h = (entN μ h : Int)) → Q U_ m) : V_ nX7_prepareWay 0 [R_ 0, I_ p, U_, U_] [] μ Q := by
  have hs1 := hs.1
  have hs2 := hs.2.1
  have hho := (hs.2.2.2 p.toNat (by omega)).1
  have e1 : hoC μ (stc μ) p = μ (stc μ + 2) p.toNat := if_pos hpp
  have fx : ∀ m : Mem_, frW μ m → (stc m = stc μ ∧ (∀ i, m (stc μ) i = μ (stc μ) i) ∧ StC m (stc m) ∧ PIc m ∧ (∀ a b, opensC m a b = opensC μ a b) ∧ isSt (stc m) ∧ (∀ q : Int, haC m q = haC μ q) ∧ (∀ q : Int, cwC m p q ↔ cwC μ p q) ∧ ∀ i, m (stc μ + 2) i = μ (stc μ + 2) i) := by
    intro m hf
    have e0 : stc m = stc μ := by unfold stc; rw [hf 0 9 (by omega) (by omega) (by omega)]
    have h17 : ∀ o, 17 ≤ o → o ≤ 24 → ∀ i, m o i = μ o i := fun o q1 q2 i => hf o i (by omega) (by omega) (by omega)
    have h42 : ∀ o, 42 ≤ o → o ≤ 49 → ∀ i, m o i = μ o i := fun o q1 q2 i => hf o i (by omega) (by omega) (by omega)
    have h2 : ∀ i, m (stc μ + 2) i = μ (stc μ + 2) i := fun i => h42 _ (by omega) (by omega) i
    refine ⟨e0, fun i => h42 _ (by omega) (by omega) i, by rw [e0]; exact StC_cg hst h42 hs, PIc_cg h17 hp, opens_cg h17, by rw [e0]; exact hst, fun q => ?_, fun q => ?_, h2⟩
    · unfold haC
      rw [opens_cg h17, e0, h2]
    · unfold cwC
      rw [e0, h2, h17 24 (by omega) (by omega)]
  have lpB : ∀ k : Int, 0 ≤ k → k ≤ μ (stc μ) 1 → ∀ m : Mem_, frW μ m → m 28 0 = μ (stc μ) 0 → m 28 1 = (staN μ p : Int) → (∀ h : Nat, h < 6 → m 29 h = ((baL μ h ||| orR k.toNat (loF μ p h) : Nat) : Int) ∧ m 30 h = (entN μ h : Int)) → V_ nX7_prepareWay 87 [R_ 0, I_ p, U_, I_ k] [] m Q := by
    refine loop_up _ (fun k h0 h1 ih => ?_)
    intro m hf g1 g2 g3
    obtain ⟨x0, x1, x2, x3, x4, hst, x6, x7, x8⟩ := fx m hf
    have hs' := x2
    have hp' := x3
    have n1 : m (stc m) 1 = μ (stc μ) 1 := by rw [x0]; exact x1 1
    have ek : ((k.toNat : Nat) : Int) = k := by omega
    have ek1 : (k + 1).toNat = k.toNat + 1 := by omega
    have hhk : k < μ (stc μ) 1 → hoC m (stc m) k = μ (stc μ + 2) k.toNat := fun q => by
      unfold hoC
      rw [if_pos (by rw [n1]; omega), x0, x8]
    have hhb : k < μ (stc μ) 1 → _ := fun q => (hs.2.2.2 k.toNat (by omega)).1
    have hha : k < μ (stc μ) 1 → haC μ k < 2 ^ 6 := fun q => haC_lt hp hs (by omega)
    have hpn : 0 ≤ p ∧ p < m (stc m) 1 := by rw [n1]; exact hpp
    have skip : k < μ (stc μ) 1 → ¬ cwC μ p k → ∀ h : Nat, h < 6 → m 29 h = ((baL μ h ||| orR (k + 1).toNat (loF μ p h) : Nat) : Int) ∧ m 30 h = (entN μ h : Int) := by
      intro hk hn h hh
      have e : loF μ p h k.toNat = 0 := by unfold loF; rw [ek, if_neg (fun q => hn q.1)]
      rw [ek1, orR, e, Nat.or_zero]
      exact g3 h hh
    refine v_iload_n dX7_prepareWay_87 rfl rfl ?_
    refine v_aload_n dX7_prepareWay_88 rfl rfl ?_
    refine v_getX dX7_prepareWay_89 fX7_66 rfl rfl rfl ?_
    show V_ _ _ _ (R_ (stc _) :: _) _ _
    refine v_getI dX7_prepareWay_92 fX7_226 (shp_st hst) (fk_st1 hst) rfl ?_
    refine v_icmp_ge (tgt := 133) dX7_prepareWay_95 (by decide) (fun hc_95 => ?_) (fun hc_95 => ?_)
    · refine v_return dX7_prepareWay_133 rfl ?_
      rw [show k = μ (stc μ) 1 by omega] at g3
      exact hQ m hf g1 g2 g3
    · refine v_aload_n dX7_prepareWay_98 rfl rfl ?_
      refine v_iload_n dX7_prepareWay_99 rfl rfl ?_
      refine v_iload_n dX7_prepareWay_100 rfl rfl ?_
      refine v_callVi [_, _] dX7_prepareWay_101 lX7_229 kvX7_canWake (plX7 _ _) (Or.inr rfl) rfl rfl rfl rfl rfl rfl rfl rfl rfl (c_X7_canWake hst hs' hpn (by omega) ?_)
      refine v_ifb_eq (tgt := 127) dX7_prepareWay_104 (by decide) (fun hc_104 => ?_) (fun hc_104 => ?_)
      · refine v_iinc (ls' := [_, _, _, _]) dX7_prepareWay_127 rfl (fun hi_127 => by omega) rfl rfl ?_
        refine v_goto (tgt := 87) dX7_prepareWay_130 (by decide) ?_
        exact ih (by omega) m hf g1 g2 (skip (by omega) (fun q => hc_104 ((x7 k).mpr q)))
      · refine v_aload_n dX7_prepareWay_107 rfl rfl ?_
        refine v_getR dX7_prepareWay_108 fX7_48 rfl rfl rfl ?_
        refine v_aload_n dX7_prepareWay_111 rfl rfl ?_
        refine v_getX dX7_prepareWay_112 fX7_66 rfl rfl rfl ?_
        show V_ _ _ _ (R_ (stc _) :: _) _ _
        refine v_iload_n dX7_prepareWay_115 rfl rfl ?_
        refine v_callVi [_] dX7_prepareWay_116 lX7_280 kvX5_homeOf (plX5 _ _) (Or.inl rfl) (shp_st hst) rfl rfl rfl rfl rfl rfl rfl rfl (c_X5_homeOf hst (by omega) ?_)
        rw [hhk (by omega)]
        refine v_aload_n dX7_prepareWay_119 rfl rfl ?_
        refine v_iload_n dX7_prepareWay_120 rfl rfl ?_
        refine v_callVi [_] dX7_prepareWay_121 lX7_360 kvX7_handedBy (plX7 _ _) (Or.inl rfl) rfl rfl rfl rfl rfl rfl rfl rfl rfl (c_X7_handedBy hst hs' hp' (by omega) ?_)
        rw [x6]
        refine v_callVv [_, _] dX7_prepareWay_124 lX7_365 kvX6_seenAt (plX6 _ _) rfl rfl rfl rfl rfl rfl rfl rfl rfl rfl (c_X6_seenAt (by have := hhb (by omega); have hcw := (x7 k).mp hc_104; have := hcw.2.1; omega) ?_)
        refine v_iinc (ls' := [_, _, _, _]) dX7_prepareWay_127 rfl (fun hi_127 => by omega) rfl rfl ?_
        refine v_goto (tgt := 87) dX7_prepareWay_130 (by decide) ?_
        have hcw := (x7 k).mp hc_104
        have hb := hhb (by omega)
        have h2 := hcw.2.1
        have ha := hha (by omega)
        refine ih (by omega) _ (fun o j q1 q2 q3 => by rw [mset_off (by omega)]; exact hf o j q1 q2 q3) (by rw [mset_off (by omega)]; exact g1) (by rw [mset_off (by omega)]; exact g2) (fun h hh => ?_)
        rw [ek1, orR]
        by_cases q : h = (μ (stc μ + 2) k.toNat).toNat
        · have e : loF μ p h k.toNat = haC μ k := by unfold loF; rw [ek, if_pos ⟨hcw, by omega⟩]
          rw [e]
          subst q
          rw [mset_same, mset_off (by omega), (g3 _ hh).1, ← Nat.or_assoc]
          refine ⟨bOr_nat (Nat.lt_of_lt_of_le (Nat.or_lt_two_pow (n := 6) ?_ (orR_lt (fun q hq => ?_))) (by decide)) (by omega), (g3 _ hh).2⟩
          · unfold baL; split
            · exact opens_lt hp _ _
            · decide
          · unfold loF; split
            · exact haC_lt hp hs (by omega)
            · decide
        · have e : loF μ p h k.toNat = 0 := by unfold loF; rw [ek, if_neg (fun z => q (by omega))]
          rw [e, Nat.or_zero, mset_off (by omega), mset_off (by omega)]
          exact g3 h hh
  have lpA : ∀ k : Int, 0 ≤ k → k ≤ μ (stc μ) 0 → ∀ m : Mem_, frW μ m → m 28 0 = μ (stc μ) 0 → m 28 1 = (staN μ p : Int) → (∀ h : Nat, h < 6 → m 29 h = ((if (h : Int) < k then opensC μ 1 h else 0 : Nat) : Int) ∧ m 30 h = ((if (h : Int) < k then opensC μ 2 h else 0 : Nat) : Int)) → V_ nX7_prepareWay 34 [R_ 0, I_ p, U_, I_ k] [] m Q := by
    refine loop_up _ (fun k h0 h1 ih => ?_)
    intro m hf g1 g2 g3
    obtain ⟨x0, x1, x2, x3, x4, hst, x6, x7, x8⟩ := fx m hf
    have n0 : m (stc m) 0 = μ (stc μ) 0 := by rw [x0]; exact x1 0
    have z1 := opens_lt hp 1 k
    have z2 := opens_lt hp 2 k
    have g0 : k < μ (stc μ) 0 → m 29 k.toNat = ((0 : Nat) : Int) ∧ m 30 k.toNat = ((0 : Nat) : Int) := fun q => by
      have := g3 k.toNat (by omega)
      rwa [if_neg (by omega), if_neg (by omega)] at this
    have ek : ((k.toNat : Nat) : Int) = k := by omega
    refine v_iload_n dX7_prepareWay_34 rfl rfl ?_
    refine v_aload_n dX7_prepareWay_35 rfl rfl ?_
    refine v_getX dX7_prepareWay_36 fX7_66 rfl rfl rfl ?_
    show V_ _ _ _ (R_ (stc _) :: _) _ _
    refine v_getI dX7_prepareWay_39 fX7_153 (shp_st hst) (fk_st0 hst) rfl ?_
    refine v_icmp_ge (tgt := 85) dX7_prepareWay_42 (by decide) (fun hc_42 => ?_) (fun hc_42 => ?_)
    · refine v_iconst dX7_prepareWay_85 (by decide) ?_
      refine v_istore_n (ls' := [_, _, _, _]) dX7_prepareWay_86 rfl rfl rfl rfl ?_
      refine lpB 0 (by omega) (by omega) m hf g1 g2 (fun h hh => ?_)
      have := g3 h hh
      rw [show k = μ (stc μ) 0 by omega] at this
      rw [show (0 : Int).toNat = 0 from rfl, orR, Nat.or_zero]
      exact this
    · refine v_aload_n dX7_prepareWay_45 rfl rfl ?_
      refine v_getR dX7_prepareWay_46 fX7_48 rfl rfl rfl ?_
      refine v_iload_n dX7_prepareWay_49 rfl rfl ?_
      refine v_aload_n dX7_prepareWay_50 rfl rfl ?_
      refine v_getR dX7_prepareWay_51 fX7_34 rfl rfl rfl ?_
      refine v_iconst dX7_prepareWay_54 (by decide) ?_
      refine v_iload_n dX7_prepareWay_55 rfl rfl ?_
      refine v_callVi [_, _] dX7_prepareWay_56 lX7_247 kvX2_opens (plX2 _ _) (Or.inl rfl) rfl rfl rfl rfl rfl rfl rfl rfl rfl (c_X2_opens x3 ?_)
      rw [x4]
      refine v_callVv [_, _] dX7_prepareWay_59 lX7_365 kvX6_seenAt (plX6 _ _) rfl rfl rfl rfl rfl rfl rfl rfl rfl rfl (c_X6_seenAt (by omega) ?_)
      rw [(g0 (by omega)).1, bOr_nat (by decide) (by omega), Nat.zero_or]
      have hf2 : frW μ (mset m 29 k.toNat ((opensC μ 1 k : Nat) : Int)) := fun o j q1 q2 q3 => by rw [mset_off (by omega)]; exact hf o j q1 q2 q3
      obtain ⟨y0, y1, y2, y3, y4, y5, y6, y7, y8⟩ := fx _ hf2
      refine v_aload_n dX7_prepareWay_62 rfl rfl ?_
      refine v_getR dX7_prepareWay_63 fX7_48 rfl rfl rfl ?_
      refine v_iload_n dX7_prepareWay_66 rfl rfl ?_
      refine v_aload_n dX7_prepareWay_67 rfl rfl ?_
      refine v_getR dX7_prepareWay_68 fX7_34 rfl rfl rfl ?_
      refine v_iconst dX7_prepareWay_71 (by decide) ?_
      refine v_iload_n dX7_prepareWay_72 rfl rfl ?_
      refine v_callVi [_, _] dX7_prepareWay_73 lX7_247 kvX2_opens (plX2 _ _) (Or.inl rfl) rfl rfl rfl rfl rfl rfl rfl rfl rfl (c_X2_opens y3 ?_)
      rw [y4]
      refine v_callVv [_, _] dX7_prepareWay_76 lX7_368 kvX6_goneInto (plX6 _ _) rfl rfl rfl rfl rfl rfl rfl rfl rfl rfl (c_X6_goneInto (by omega) ?_)
      rw [mset_off (a := 30) (by omega), (g0 (by omega)).2, bOr_nat (by decide) (by omega), Nat.zero_or]
      refine v_iinc (ls' := [_, _, _, _]) dX7_prepareWay_79 rfl (fun hi_79 => by omega) rfl rfl ?_
      refine v_goto (tgt := 34) dX7_prepareWay_82 (by decide) ?_
      refine ih (by omega) _ (fun o j q1 q2 q3 => by rw [mset_off (by omega)]; exact hf2 o j q1 q2 q3) (by rw [mset_off (by omega), mset_off (by omega)]; exact g1) (by rw [mset_off (by omega), mset_off (by omega)]; exact g2) (fun h hh => ?_)
      by_cases q : h = k.toNat
      · subst q
        rw [mset_off (by omega), mset_same, mset_same, if_pos (by omega), if_pos (by omega), ek]
        exact ⟨rfl, rfl⟩
      · rw [mset_off (by omega), mset_off (by omega), mset_off (by omega), mset_off (by omega)]
        have := g3 h hh
        by_cases q2 : (h : Int) < k
        · rw [if_pos q2, if_pos q2] at this
          rw [if_pos (by omega), if_pos (by omega)]
          exact this
        · rw [if_neg q2, if_neg q2] at this
          rw [if_neg (by omega), if_neg (by omega)]
          exact this
  have stE : ∀ x : Int, x = (staN μ p : Int) → ∀ m : Mem_, frW μ m → m 28 0 = μ (stc μ) 0 → m 28 1 = x → (∀ h : Nat, h < 6 → m 29 h = 0 ∧ m 30 h = 0) → V_ nX7_prepareWay 34 [R_ 0, I_ p, U_, I_ 0] [] m Q := by
    intro x hx m a1 a2 a3 a4
    refine lpA 0 (by omega) (by omega) m a1 a2 (by rw [a3, hx]) (fun h hh => ?_)
    rw [if_neg (by omega), if_neg (by omega)]
    exact a4 h hh
  refine v_aload_n dX7_prepareWay_0 rfl rfl ?_
  refine v_getX dX7_prepareWay_1 fX7_66 rfl rfl rfl ?_
  show V_ _ _ _ (R_ (stc _) :: _) _ _
  refine v_iload_n dX7_prepareWay_4 rfl rfl ?_
  refine v_callVi [_] dX7_prepareWay_5 lX7_280 kvX5_homeOf (plX5 _ _) (Or.inl rfl) (shp_st hst) rfl rfl rfl rfl rfl rfl rfl rfl (c_X5_homeOf hst (by omega) ?_)
  rw [e1]
  refine v_istore_n (ls' := [_, _, _, _]) dX7_prepareWay_8 rfl rfl rfl rfl ?_
  refine v_aload_n dX7_prepareWay_9 rfl rfl ?_
  refine v_getR dX7_prepareWay_10 fX7_48 rfl rfl rfl ?_
  refine v_aload_n dX7_prepareWay_13 rfl rfl ?_
  refine v_getX dX7_prepareWay_14 fX7_66 rfl rfl rfl ?_
  show V_ _ _ _ (R_ (stc _) :: _) _ _
  refine v_getI dX7_prepareWay_17 fX7_153 (shp_st hst) (fk_st0 hst) rfl ?_
  refine v_iload_n dX7_prepareWay_20 rfl rfl ?_
  refine v_if_lt (tgt := 28) dX7_prepareWay_21 (by decide) (fun hc_21 => ?_) (fun hc_21 => ?_)
  · refine v_iconst dX7_prepareWay_28 (by decide) ?_
    refine v_callVv [_, _] dX7_prepareWay_29 lX7_363 kvX6_begin (plX6 _ _) rfl rfl rfl rfl rfl rfl rfl rfl rfl rfl (c_X6_begin (fun m a1 a2 a3 a4 => ?_))
    refine v_iconst dX7_prepareWay_32 (by decide) ?_
    refine v_istore_n (ls' := [_, _, _, _]) dX7_prepareWay_33 rfl rfl rfl rfl ?_
    refine v_kill (ls' := [_, _, _, _]) 2 rfl ?_
    refine stE _ ?_ m a1 a2 a3 a4
    unfold staN
    first
      | (rw [if_neg (by omega)]; rfl)
      | (rw [if_pos (by omega)]; omega)
  · refine v_iload_n dX7_prepareWay_24 rfl rfl ?_
    refine v_goto (tgt := 29) dX7_prepareWay_25 (by decide) ?_
    refine v_callVv [_, _] dX7_prepareWay_29 lX7_363 kvX6_begin (plX6 _ _) rfl rfl rfl rfl rfl rfl rfl rfl rfl rfl (c_X6_begin (fun m a1 a2 a3 a4 => ?_))
    refine v_iconst dX7_prepareWay_32 (by decide) ?_
    refine v_istore_n (ls' := [_, _, _, _]) dX7_prepareWay_33 rfl rfl rfl rfl ?_
    refine v_kill (ls' := [_, _, _, _]) 2 rfl ?_
    refine stE _ ?_ m a1 a2 a3 a4
    unfold staN
    first
      | (rw [if_neg (by omega)]; rfl)
      | (rw [if_pos (by omega)]; omega)
def fiW (μ m : Mem_) : Prop := (∀ o k, ¬ (o = 28) → o ≠ 29 → o ≠ 30 → o ≠ 31 → o ≠ 32 → m o k = μ o k) ∧ m 28 3 = μ 28 3 + 1 ∧ ∀ pl : Nat, pl < 4096 → 0 ≤ m 31 pl ∧ m 31 pl < (μ 28 3 + 1 + 1) * 64
def wyC (μ : Mem_) (p own : Int) (set : Nat) (home : Int) : Nat → Prop := gRS (stC (μ (stc μ) 0).toNat (lookN μ p) (entN μ) set) (staN μ p, if own = 0 then 0 else opensC μ 0 p, 0) (gC set home (staN μ p))
theorem sta_lt {μ : Mem_} (hs : StC μ (stc μ)) {p : Int} (hpp : 0 ≤ p ∧ p < μ (stc μ) 1) : staN μ p < 6 := by
  have := (hs.2.2.2 p.toNat (by omega)).1
  have := hs.1
  unfold staN
  split <;> omega
set_option maxRecDepth 10000 in
theorem wayCall {p : Int} {own home : Int} {set : Nat} (hs : StC μ (stc μ)) (hp : PIc μ) (hSI : SIc μ) (hpp : 0 ≤ p ∧ p < μ (stc μ) 1) (hset : set < 64) {m : Mem_} (hf : frW μ m) (g1 : m 28 0 = μ (stc μ) 0) (g2 : m 28 1 = (staN μ p : Int)) (g3 : ∀ h : Nat, h < 6 → m 29 h = (lookN μ p h : Int) ∧ m 30 h = (entN μ h : Int)) {x : Int} (hx : x = ((if own = 0 then 0 else opensC μ 0 p : Nat) : Int)) (hQ : ∀ (r : Int) (m' : Mem_), Lst (wyC μ p own set home) r → fiW μ m' → Q (I_ r) m') : V_ nX6_quickest 0 [R_ 28, I_ x, I_ (set : Int), I_ home, U_, U_, U_, U_, U_] [] m Q := by
  have hs1 := hs.1
  subst hx
  have h283 : m 28 3 = μ 28 3 := hf 28 3 (by omega) (by omega) (by omega)
  have h31 : ∀ i, m 31 i = μ 31 i := fun i => hf 31 i (by omega) (by omega) (by omega)
  refine c_X6_quickest (nH := (μ (stc μ) 0).toNat) (look := lookN μ p) (ent := entN μ) ⟨by rw [g1]; omega, by omega⟩ ⟨g2, sta_lt hs hpp⟩ ?_ hset ⟨by rw [h283]; exact hSI.1, fun pl hpl => by rw [h283, h31]; exact hSI.2 pl hpl⟩ (fun h hh => ⟨⟨(g3 h hh).1, look_lt hp hs p h⟩, (g3 h hh).2, ent_lt hp h⟩) (fun r m' hL hfr h3 hpl => hQ r m' hL ⟨fun o k q1 q2 q3 q4 q5 => ?_, by rw [h3, h283], fun pl hp2 => by have := hpl pl hp2; rw [h283] at this; exact this⟩)
  · split
    · decide
    · exact opens_lt hp _ _
  · rw [hfr o k q4 q5 (by omega)]
    exact hf o k (by omega) q2 q3
set_option maxRecDepth 10000 in
theorem c_X7_soonest {p h own : Int} (hst : isSt (stc μ)) (hs : StC μ (stc μ)) (hp : PIc μ) (hSI : SIc μ) (h1 : ¬ ((0 ≤ p ∧ p < μ (stc μ) 1) ∧ (0 ≤ h ∧ h < μ (stc μ) 0)) → Q (I_ (-1)) μ)
    (h2 : (0 ≤ p ∧ p < μ (stc μ) 1) → (0 ≤ h ∧ h < μ (stc μ) 0) → ∀ (r : Int) (m' : Mem_), Lst (wyC μ p own (2 ^ h.toNat) 0) r → fiW μ m' → Q (I_ r) m') : V_ nX7_soonest 0 [R_ 0, I_ p, I_ h, I_ own] [] μ Q := by
  have hs1 := hs.1
  have hpw : (0 ≤ h ∧ h < μ (stc μ) 0) → 2 ^ h.toNat < 2 ^ 6 := fun q => Nat.pow_lt_pow_right (by omega) (by omega)
  refine v_aload_n dX7_soonest_0 rfl rfl ?_
  refine v_iload_n dX7_soonest_1 rfl rfl ?_
  refine v_callVi [_] dX7_soonest_2 lX7_201 kvX7_isPerson (plX7 _ _) (Or.inr rfl) rfl rfl rfl rfl rfl rfl rfl rfl rfl (c_X7_isPerson hst ?_)
  refine v_ifb_eq (tgt := 16) dX7_soonest_5 (by decide) (fun hc_5 => ?_) (fun hc_5 => ?_)
  · refine v_iconst dX7_soonest_16 (by decide) ?_
    refine v_ireturn dX7_soonest_17 rfl ?_
    first | exact h1 (by omega) | exact h2 hc_5 hc_13 r m' b1 b2
  · refine v_aload_n dX7_soonest_8 rfl rfl ?_
    refine v_iload_n dX7_soonest_9 rfl rfl ?_
    refine v_callVi [_] dX7_soonest_10 lX7_195 kvX7_isHouse (plX7 _ _) (Or.inr rfl) rfl rfl rfl rfl rfl rfl rfl rfl rfl (c_X7_isHouse hst ?_)
    refine v_ifb_ne (tgt := 18) dX7_soonest_13 (by decide) (fun hc_13 => ?_) (fun hc_13 => ?_)
    · refine v_aload_n dX7_soonest_18 rfl rfl ?_
      refine v_iload_n dX7_soonest_19 rfl rfl ?_
      refine v_callVv [_] dX7_soonest_20 lX7_244 kvX7_prepareWay (plX7 _ _) rfl rfl rfl rfl rfl rfl rfl rfl rfl rfl (c_X7_prepareWay hst hs hp hc_5 (fun m a1 a2 a3 a4 => ?_))
      have h17 : ∀ o, 17 ≤ o → o ≤ 24 → ∀ i, m o i = μ o i := fun o q1 q2 i => a1 o i (by omega) (by omega) (by omega)
      refine v_aload_n dX7_soonest_23 rfl rfl ?_
      refine v_getR dX7_soonest_24 fX7_48 rfl rfl rfl ?_
      refine v_iload_n dX7_soonest_27 rfl rfl ?_
      refine v_if_eq (tgt := 43) dX7_soonest_28 (by decide) (fun hc_28 => ?_) (fun hc_28 => ?_)
      · refine v_iconst dX7_soonest_43 (by decide) ?_
        refine v_iconst dX7_soonest_44 (by decide) ?_
        refine v_iload_n dX7_soonest_45 rfl rfl ?_
        refine v_ishl dX7_soonest_46 ?_
        rw [bShl_one (by omega) (by omega)]
        refine v_iconst dX7_soonest_47 (by decide) ?_
        refine v_callVi [_, _, _] dX7_soonest_48 lX7_250 kvX6_quickest (plX6 _ _) (Or.inl rfl) rfl rfl rfl rfl rfl rfl rfl rfl rfl (wayCall (own := own) hs hp hSI hc_5 (hpw hc_13) a1 a2 a3 a4 (by first | (rw [if_pos hc_28]; rfl) | (rw [if_neg hc_28])) (fun r m' b1 b2 => ?_))
        refine v_ireturn dX7_soonest_51 rfl ?_
        first | exact h1 (by omega) | exact h2 hc_5 hc_13 r m' b1 b2
      · refine v_aload_n dX7_soonest_31 rfl rfl ?_
        refine v_getR dX7_soonest_32 fX7_34 rfl rfl rfl ?_
        refine v_iconst dX7_soonest_35 (by decide) ?_
        refine v_iload_n dX7_soonest_36 rfl rfl ?_
        refine v_callVi [_, _] dX7_soonest_37 lX7_247 kvX2_opens (plX2 _ _) (Or.inl rfl) rfl rfl rfl rfl rfl rfl rfl rfl rfl (c_X2_opens (PIc_cg h17 hp) ?_)
        rw [opens_cg h17]
        refine v_goto (tgt := 44) dX7_soonest_40 (by decide) ?_
        refine v_iconst dX7_soonest_44 (by decide) ?_
        refine v_iload_n dX7_soonest_45 rfl rfl ?_
        refine v_ishl dX7_soonest_46 ?_
        rw [bShl_one (by omega) (by omega)]
        refine v_iconst dX7_soonest_47 (by decide) ?_
        refine v_callVi [_, _, _] dX7_soonest_48 lX7_250 kvX6_quickest (plX6 _ _) (Or.inl rfl) rfl rfl rfl rfl rfl rfl rfl rfl rfl (wayCall (own := own) hs hp hSI hc_5 (hpw hc_13) a1 a2 a3 a4 (by first | (rw [if_pos hc_28]; rfl) | (rw [if_neg hc_28])) (fun r m' b1 b2 => ?_))
        refine v_ireturn dX7_soonest_51 rfl ?_
        first | exact h1 (by omega) | exact h2 hc_5 hc_13 r m' b1 b2
    · refine v_iconst dX7_soonest_16 (by decide) ?_
      refine v_ireturn dX7_soonest_17 rfl ?_
      first | exact h1 (by omega) | exact h2 hc_5 hc_13 r m' b1 b2
set_option maxRecDepth 10000 in
theorem c_X7_round {p own : Int} {set : Int} (hst : isSt (stc μ)) (hs : StC μ (stc μ)) (hp : PIc μ) (hSI : SIc μ) (h1 : ¬ ((0 ≤ p ∧ p < μ (stc μ) 1) ∧ (0 ≤ set ∧ set < ((2 ^ (μ (stc μ) 0).toNat : Nat) : Int))) → Q (I_ (-1)) μ)
    (h2 : (0 ≤ p ∧ p < μ (stc μ) 1) → (0 ≤ set ∧ set < ((2 ^ (μ (stc μ) 0).toNat : Nat) : Int)) → ∀ (r : Int) (m' : Mem_), Lst (wyC μ p own set.toNat 1) r → fiW μ m' → Q (I_ r) m') : V_ nX7_round 0 [R_ 0, I_ p, I_ set, I_ own] [] μ Q := by
  have hs1 := hs.1
  have hpw : 2 ^ (μ (stc μ) 0).toNat ≤ 2 ^ 6 := Nat.pow_le_pow_right (by omega) (by omega)
  refine v_aload_n dX7_round_0 rfl rfl ?_
  refine v_iload_n dX7_round_1 rfl rfl ?_
  refine v_callVi [_] dX7_round_2 lX7_201 kvX7_isPerson (plX7 _ _) (Or.inr rfl) rfl rfl rfl rfl rfl rfl rfl rfl rfl (c_X7_isPerson hst ?_)
  refine v_ifb_eq (tgt := 23) dX7_round_5 (by decide) (fun hc_5 => ?_) (fun hc_5 => ?_)
  · refine v_iconst dX7_round_23 (by decide) ?_
    refine v_ireturn dX7_round_24 rfl ?_
    first | exact h1 (by omega) | exact h2 hc_5 (by omega) r m' b1 b2
  · refine v_iload_n dX7_round_8 rfl rfl ?_
    refine v_if_lt (tgt := 23) dX7_round_9 (by decide) (fun hc_9 => ?_) (fun hc_9 => ?_)
    · refine v_iconst dX7_round_23 (by decide) ?_
      refine v_ireturn dX7_round_24 rfl ?_
      first | exact h1 (by omega) | exact h2 hc_5 (by omega) r m' b1 b2
    · refine v_iload_n dX7_round_12 rfl rfl ?_
      refine v_aload_n dX7_round_13 rfl rfl ?_
      refine v_getX dX7_round_14 fX7_66 rfl rfl rfl ?_
      show V_ _ _ _ (R_ (stc _) :: _) _ _
      refine v_callVi [] dX7_round_17 lX7_254 kvX5_allHouses (plX5 _ _) (Or.inl rfl) (shp_st hst) rfl rfl rfl rfl rfl rfl rfl rfl (c_X5_allHouses hst (by omega) ?_)
      refine v_icmp_le (tgt := 25) dX7_round_20 (by decide) (fun hc_20 => ?_) (fun hc_20 => ?_)
      · refine v_aload_n dX7_round_25 rfl rfl ?_
        refine v_iload_n dX7_round_26 rfl rfl ?_
        refine v_callVv [_] dX7_round_27 lX7_244 kvX7_prepareWay (plX7 _ _) rfl rfl rfl rfl rfl rfl rfl rfl rfl rfl (c_X7_prepareWay hst hs hp hc_5 (fun m a1 a2 a3 a4 => ?_))
        have h17 : ∀ o, 17 ≤ o → o ≤ 24 → ∀ i, m o i = μ o i := fun o q1 q2 i => a1 o i (by omega) (by omega) (by omega)
        have eset : I_ set = I_ ((set.toNat : Nat) : Int) := by rw [show ((set.toNat : Nat) : Int) = set by omega]
        refine v_aload_n dX7_round_30 rfl rfl ?_
        refine v_getR dX7_round_31 fX7_48 rfl rfl rfl ?_
        refine v_iload_n dX7_round_34 rfl rfl ?_
        refine v_if_eq (tgt := 50) dX7_round_35 (by decide) (fun hc_35 => ?_) (fun hc_35 => ?_)
        · refine v_iconst dX7_round_50 (by decide) ?_
          refine v_iload_n dX7_round_51 rfl rfl ?_
          refine v_iconst dX7_round_52 (by decide) ?_
          rw [eset]
          refine v_callVi [_, _, _] dX7_round_53 lX7_250 kvX6_quickest (plX6 _ _) (Or.inl rfl) rfl rfl rfl rfl rfl rfl rfl rfl rfl (wayCall (own := own) hs hp hSI hc_5 (by omega) a1 a2 a3 a4 (by first | (rw [if_pos hc_35]; rfl) | (rw [if_neg hc_35])) (fun r m' b1 b2 => ?_))
          refine v_ireturn dX7_round_56 rfl ?_
          first | exact h1 (by omega) | exact h2 hc_5 (by omega) r m' b1 b2
        · refine v_aload_n dX7_round_38 rfl rfl ?_
          refine v_getR dX7_round_39 fX7_34 rfl rfl rfl ?_
          refine v_iconst dX7_round_42 (by decide) ?_
          refine v_iload_n dX7_round_43 rfl rfl ?_
          refine v_callVi [_, _] dX7_round_44 lX7_247 kvX2_opens (plX2 _ _) (Or.inl rfl) rfl rfl rfl rfl rfl rfl rfl rfl rfl (c_X2_opens (PIc_cg h17 hp) ?_)
          rw [opens_cg h17]
          refine v_goto (tgt := 51) dX7_round_47 (by decide) ?_
          refine v_iload_n dX7_round_51 rfl rfl ?_
          refine v_iconst dX7_round_52 (by decide) ?_
          rw [eset]
          refine v_callVi [_, _, _] dX7_round_53 lX7_250 kvX6_quickest (plX6 _ _) (Or.inl rfl) rfl rfl rfl rfl rfl rfl rfl rfl rfl (wayCall (own := own) hs hp hSI hc_5 (by omega) a1 a2 a3 a4 (by first | (rw [if_pos hc_35]; rfl) | (rw [if_neg hc_35])) (fun r m' b1 b2 => ?_))
          refine v_ireturn dX7_round_56 rfl ?_
          first | exact h1 (by omega) | exact h2 hc_5 (by omega) r m' b1 b2
      · refine v_iconst dX7_round_23 (by decide) ?_
        refine v_ireturn dX7_round_24 rfl ?_
        first | exact h1 (by omega) | exact h2 hc_5 (by omega) r m' b1 b2
end
