/-! plans: who helps, who has a key, what is needed -/
section
variable (μ : Mem_) (s : Nat)
def hmC (p : Nat) : Int := μ (s + 2) p
def lvF (p : Nat) : Nat := if 0 ≤ hmC μ s p then 2 ^ (hmC μ s p).toNat else 0
def lvN : Nat := orR (μ s 1).toNat (lvF μ s)
def hdF (h p : Nat) : Nat := if hmC μ s p = (h : Int) then opensC μ 0 p else 0
def hdN (h : Nat) : Nat := orR (μ s 1).toNat (hdF μ s h)
def hqF (h p q : Nat) : Nat := if 0 ≤ hmC μ s p ∧ 0 ≤ hmC μ s q ∧ μ 24 (p * 12 + q) < 0 then ((if hmC μ s p = (h : Int) then 2 ^ (hmC μ s q).toNat else 0) ||| (if hmC μ s q = (h : Int) then 2 ^ (hmC μ s p).toNat else 0)) else 0
def hpF (h p : Nat) : Nat := orR (μ s 1).toNat (hqF μ s h p)
def hsN (h : Nat) : Nat := orR (μ s 1).toNat (hpF μ s h)
def heN (h : Nat) : Nat := let a := lvN μ s ^^^ (lvN μ s &&& hsN μ s h); a ^^^ (a &&& 2 ^ h)
def hvF (h x : Nat) : Nat := if (heN μ s h).testBit x = true ∧ (hdN μ s x).testBit h = true then 2 ^ x else 0
def hvN (h : Nat) : Nat := orR 6 (hvF μ s h)
def neD (due : Int) (h : Nat) : Int := if (lvN μ s).testBit h = true then max 0 (due - (cntB 32 (hvN μ s h) : Int)) else 0
def taN (h : Nat) : Nat := if (lvN μ s).testBit h = true then heN μ s h ^^^ (heN μ s h &&& hvN μ s h) else 0
def ofF (x h : Nat) : Nat := if (taN μ s h).testBit x = true then 2 ^ h else 0
def ofN (x : Nat) : Nat := orR 6 (ofF μ s x)
end
theorem sm6 {n : Nat} {f : Nat → Nat} (h : ∀ k, k < n → f k < 2 ^ 6) : orR n f < 64 := orR_lt (m := 6) h
section
variable {μ : Mem_} {Q : PV → Mem_ → Prop}
theorem hm_lt {s : Nat} (hs : StC μ s) {p : Nat} (hp : p < (μ s 1).toNat) : hmC μ s p = -9 ∨ (0 ≤ hmC μ s p ∧ hmC μ s p < 6) := by
  have := (hs.2.2.2 p (by omega)).1
  have := hs.1
  unfold hmC
  omega
theorem lvF_lt {s : Nat} (hs : StC μ s) {p : Nat} (hp : p < (μ s 1).toNat) : lvF μ s p < 2 ^ 6 := by
  have := hm_lt hs hp
  unfold lvF
  split
  · exact Nat.pow_lt_pow_right (by omega) (by omega)
  · decide
theorem hqF_lt {s : Nat} (hs : StC μ s) {h p q : Nat} (hp : p < (μ s 1).toNat) (hq : q < (μ s 1).toNat) : hqF μ s h p q < 2 ^ 6 := by
  have := hm_lt hs hp
  have := hm_lt hs hq
  unfold hqF
  split
  · refine Nat.or_lt_two_pow ?_ ?_ <;> split <;> first | exact Nat.pow_lt_pow_right (by omega) (by omega) | decide
  · decide
theorem hdF_lt {s : Nat} (hp : PIc μ) {h p : Nat} : hdF μ s h p < 2 ^ 6 := by
  unfold hdF
  split
  · exact opens_lt hp _ _
  · decide
theorem lvN_lt {s : Nat} (hs : StC μ s) : lvN μ s < 64 := sm6 (fun k hk => lvF_lt hs hk)
theorem hsN_lt {s : Nat} (hs : StC μ s) (h : Nat) : hsN μ s h < 64 := sm6 (fun k hk => orR_lt (fun q hq => hqF_lt hs hk hq))
theorem hdN_lt {s : Nat} (hp : PIc μ) (h : Nat) : hdN μ s h < 64 := sm6 (fun _ _ => hdF_lt hp)
theorem heN_lt {s : Nat} (hs : StC μ s) (h : Nat) : heN μ s h < 64 := by
  have h1 : lvN μ s < 2 ^ 6 := lvN_lt hs
  have h2 : lvN μ s ^^^ (lvN μ s &&& hsN μ s h) < 2 ^ 6 := Nat.xor_lt_two_pow h1 (Nat.lt_of_le_of_lt Nat.and_le_left h1)
  exact Nat.xor_lt_two_pow (n := 6) h2 (Nat.lt_of_le_of_lt Nat.and_le_left h2)
theorem hvN_lt {s : Nat} (h : Nat) : hvN μ s h < 64 := sm6 (fun k hk => by
  unfold hvF
  split
  · exact Nat.pow_lt_pow_right (by omega) (by omega)
  · decide)
theorem taN_lt {s : Nat} (hs : StC μ s) (h : Nat) : taN μ s h < 64 := by
  unfold taN
  split
  · have h1 : heN μ s h < 2 ^ 6 := heN_lt hs h
    exact Nat.xor_lt_two_pow (n := 6) h1 (Nat.lt_of_le_of_lt Nat.and_le_left h1)
  · decide
theorem ofN_lt {s : Nat} (x : Nat) : ofN μ s x < 64 := sm6 (fun k hk => by
  unfold ofF
  split
  · exact Nat.pow_lt_pow_right (by omega) (by omega)
  · decide)
/-- what only the plan's rows make different -/
def frP (μ m : Mem_) : Prop := ∀ o i, ¬ (34 ≤ o ∧ o ≤ 40) → m o i = μ o i
theorem frP.op {m : Mem_} (h : frP μ m) (a b : Int) : opensC m a b = opensC μ a b := opens_cg (fun o q1 q2 i => h o i (by omega)) a b
theorem frP.pi {m : Mem_} (h : frP μ m) (hp : PIc μ) : PIc m := PIc_cg (fun o q1 q2 i => h o i (by omega)) hp
theorem frP.st {m : Mem_} (h : frP μ m) {s : Nat} (hs : isSt s) {i k : Nat} (hk : k ≤ 3) : m (s + k) i = μ (s + k) i := h _ _ (by omega)
theorem frP.st0 {m : Mem_} (h : frP μ m) {s : Nat} (hs : isSt s) {i : Nat} : m s i = μ s i := h _ _ (by omega)
set_option maxRecDepth 10000 in
set_option maxHeartbeats 1000000 in
theorem c_X1_findHostile {s : Nat} {p home : Int} {hs0 : Nat → Nat} {m : Mem_} (hst : isSt s) (hs : StC μ s) (hf : frP μ m) (hp : 0 ≤ p ∧ p < μ s 1) (hh : home = hmC μ s p.toNat) (hh0 : 0 ≤ home) (h64 : ∀ h, h < 6 → hs0 h < 64) (hv : ∀ h : Nat, h < 6 → m 34 h = (hs0 h : Int)) (hQ : ∀ m' : Mem_, (∀ o i, o ≠ 34 → m' o i = m o i) → (∀ h : Nat, h < 6 → m' 34 h = ((hs0 h ||| hpF μ s h p.toNat : Nat) : Int)) → Q U_ m') : V_ nX1_findHostile 0 [R_ 33, R_ s, R_ 17, I_ p, I_ home, U_, U_] [] m Q := by
  have hs1 := hs.1
  have hs2 := hs.2.1
  have hho := hm_lt hs (p := p.toNat) (by omega)
  have lp : ∀ k : Int, 0 ≤ k → k ≤ μ s 1 → ∀ m1 : Mem_, (∀ o i, o ≠ 34 → m1 o i = m o i) → (∀ h : Nat, h < 6 → m1 34 h = ((hs0 h ||| orR k.toNat (hqF μ s h p.toNat) : Nat) : Int)) → V_ nX1_findHostile 3 [R_ 33, R_ s, R_ 17, I_ p, I_ home, I_ k, U_] [] m1 Q := by
    refine loop_up _ (fun k h0 h1 ih => ?_)
    intro m1 hf1 hv1
    have hf2 : frP μ m1 := fun o i q => by rw [hf1 o i (by omega)]; exact hf o i q
    have n1 : m1 s 1 = μ s 1 := hf2.st0 hst
    have ek : ((k.toNat : Nat) : Int) = k := by omega
    have ek1 : (k + 1).toNat = k.toNat + 1 := by omega
    have hhk : k < μ s 1 → hoC m1 s k = hmC μ s k.toNat := fun q => by
      unfold hoC hmC
      rw [if_pos (by rw [n1]; omega), hf2.st hst (by omega)]
    have hmk := fun q : k < μ s 1 => hm_lt hs (p := k.toNat) (by omega)
    have etr : k < μ s 1 → trC m1 p k = μ 24 (p.toNat * 12 + k.toNat) := fun q => by
      unfold trC
      rw [if_pos (by omega), hf2 24 _ (by omega), show (p * 12 + k).toNat = p.toNat * 12 + k.toNat by omega]
    have l64 : ∀ h, h < 6 → hs0 h ||| orR k.toNat (hqF μ s h p.toNat) < 2 ^ 6 := fun h hh => Nat.or_lt_two_pow (h64 h hh) (orR_lt (fun q hq => hqF_lt hs (by omega) (by omega)))
    have skip : k < μ s 1 → ¬ (0 ≤ hmC μ s k.toNat ∧ μ 24 (p.toNat * 12 + k.toNat) < 0) → ∀ h : Nat, h < 6 → m1 34 h = ((hs0 h ||| orR (k + 1).toNat (hqF μ s h p.toNat) : Nat) : Int) := by
      intro hk hn h hh
      have e : hqF μ s h p.toNat k.toNat = 0 := by unfold hqF; rw [if_neg (fun q => hn ⟨q.2.1, q.2.2⟩)]
      rw [ek1, orR, e, Nat.or_zero]
      exact hv1 h hh
    refine v_iload dX1_findHostile_3 rfl ?_
    refine v_aload_n dX1_findHostile_5 rfl rfl ?_
    refine v_getI dX1_findHostile_6 fX1_33 (shp_st hst) (fk_st1 hst) rfl ?_
    refine v_icmp_ge (tgt := 80) dX1_findHostile_9 (by decide) (fun hc_9 => ?_) (fun hc_9 => ?_)
    · refine v_return dX1_findHostile_80 rfl ?_
      rw [show k.toNat = (μ s 1).toNat by omega] at hv1
      exact hQ m1 hf1 hv1
    · refine v_aload_n dX1_findHostile_12 rfl rfl ?_
      refine v_iload dX1_findHostile_13 rfl ?_
      refine v_callVi [_] dX1_findHostile_15 lX1_39 kvX5_homeOf (plX5 _ _) (Or.inl rfl) (shp_st hst) rfl rfl rfl rfl rfl rfl rfl rfl (c_X5_homeOf hst (by omega) ?_)
      rw [hhk (by omega)]
      refine v_istore (ls' := [_, _, _, _, _, _, _]) dX1_findHostile_18 rfl rfl rfl ?_
      have hmk := hmk (by omega)
      refine v_iload dX1_findHostile_20 rfl ?_
      refine v_callSi [_] dX1_findHostile_22 lX1_43 ksX1_isPlace (plX1 _ _) (Or.inr rfl) rfl rfl rfl rfl rfl rfl (c_X1_isPlace ?_)
      refine v_ifb_eq (tgt := 74) dX1_findHostile_25 (by decide) (fun hc_25 => ?_) (fun hc_25 => ?_)
      · refine v_iinc (ls' := [_, _, _, _, _, _, _]) dX1_findHostile_74 rfl (fun hi_74 => by omega) rfl rfl ?_
        refine v_goto (tgt := 3) dX1_findHostile_77 (by decide) ?_
        refine v_kill (ls' := [_, _, _, _, _, _, _]) 6 rfl ?_
        omega
      · refine v_iload dX1_findHostile_28 rfl ?_
        refine v_callSi [_] dX1_findHostile_30 lX1_43 ksX1_isPlace (plX1 _ _) (Or.inr rfl) rfl rfl rfl rfl rfl rfl (c_X1_isPlace ?_)
        refine v_ifb_eq (tgt := 74) dX1_findHostile_33 (by decide) (fun hc_33 => ?_) (fun hc_33 => ?_)
        · refine v_iinc (ls' := [_, _, _, _, _, _, _]) dX1_findHostile_74 rfl (fun hi_74 => by omega) rfl rfl ?_
          refine v_goto (tgt := 3) dX1_findHostile_77 (by decide) ?_
          refine v_kill (ls' := [_, _, _, _, _, _, _]) 6 rfl ?_
          exact ih (by omega) m1 hf1 (skip (by omega) (by omega))
        · refine v_aload_n dX1_findHostile_36 rfl rfl ?_
          refine v_iload_n dX1_findHostile_37 rfl rfl ?_
          refine v_iload dX1_findHostile_38 rfl ?_
          refine v_callVi [_, _] dX1_findHostile_40 lX1_61 kvX2_trustOf (plX2 _ _) (Or.inl rfl) rfl rfl rfl rfl rfl rfl rfl rfl rfl (c_X2_trustOf ?_)
          rw [etr (by omega)]
          refine v_if_ge (tgt := 74) dX1_findHostile_43 (by decide) (fun hc_43 => ?_) (fun hc_43 => ?_)
          · refine v_iinc (ls' := [_, _, _, _, _, _, _]) dX1_findHostile_74 rfl (fun hi_74 => by omega) rfl rfl ?_
            refine v_goto (tgt := 3) dX1_findHostile_77 (by decide) ?_
            refine v_kill (ls' := [_, _, _, _, _, _, _]) 6 rfl ?_
            exact ih (by omega) m1 hf1 (skip (by omega) (by omega))
          · have hA := hv1 home.toNat (by omega)
            have hB := hv1 (hmC μ s k.toNat).toNat (by omega)
            have lA := l64 home.toNat (by omega)
            have lB := l64 (hmC μ s k.toNat).toNat (by omega)
            have b1 : bShl 1 (hmC μ s k.toNat) = _ := bShl_one (by omega) (by omega)
            have b2 : bShl 1 home = _ := bShl_one (by omega) (by omega)
            have p1 : 2 ^ (hmC μ s k.toNat).toNat < 2 ^ 6 := Nat.pow_lt_pow_right (by omega) (by omega)
            have p2 : 2 ^ home.toNat < 2 ^ 6 := Nat.pow_lt_pow_right (by omega) (by omega)
            refine v_aload_n dX1_findHostile_46 rfl rfl ?_
            refine v_getR dX1_findHostile_47 fX1_9 rfl rfl rfl ?_
            refine v_iload dX1_findHostile_50 rfl ?_
            refine v_dup2 dX1_findHostile_52 ?_
            refine v_iald dX1_findHostile_53 rfl (by omega) (by omega) ?_
            rw [hA]
            refine v_iconst dX1_findHostile_54 (by decide) ?_
            refine v_iload dX1_findHostile_55 rfl ?_
            refine v_ishl dX1_findHostile_57 ?_
            rw [b1]
            refine v_ior dX1_findHostile_58 ?_
            rw [bOr_nat (by omega) (by omega)]
            refine v_iast dX1_findHostile_59 rfl (by omega) (by omega) ?_
            refine v_aload_n dX1_findHostile_60 rfl rfl ?_
            refine v_getR dX1_findHostile_61 fX1_9 rfl rfl rfl ?_
            refine v_iload dX1_findHostile_64 rfl ?_
            refine v_dup2 dX1_findHostile_66 ?_
            refine v_iald dX1_findHostile_67 rfl (by omega) (by omega) ?_
            refine v_iconst dX1_findHostile_68 (by decide) ?_
            refine v_iload dX1_findHostile_69 rfl ?_
            refine v_ishl dX1_findHostile_71 ?_
            rw [b2]
            refine v_ior dX1_findHostile_72 ?_
            refine v_iast dX1_findHostile_73 rfl (by omega) (by omega) ?_
            refine v_iinc (ls' := [_, _, _, _, _, _, _]) dX1_findHostile_74 rfl (fun hi_74 => by omega) rfl rfl ?_
            refine v_goto (tgt := 3) dX1_findHostile_77 (by decide) ?_
            refine v_kill (ls' := [_, _, _, _, _, _, _]) 6 rfl ?_
            have eF : ∀ h : Nat, hqF μ s h p.toNat k.toNat = ((if home = (h : Int) then 2 ^ (hmC μ s k.toNat).toNat else 0) ||| (if hmC μ s k.toNat = (h : Int) then 2 ^ home.toNat else 0)) := by
              intro h
              unfold hqF
              rw [if_pos ⟨by omega, by omega, by omega⟩, ← hh]
            refine ih (by omega) _ (fun o i q => by rw [mset_off (by omega), mset_off (by omega)]; exact hf1 o i q) (fun h hh6 => ?_)
            rw [ek1, orR, eF h, ← Nat.or_assoc, ← Nat.or_assoc]
            by_cases q1 : h = (hmC μ s k.toNat).toNat
            · rw [if_pos (c := hmC μ s k.toNat = (h : Int)) (by omega), q1, mset_same]
              by_cases q2 : home.toNat = (hmC μ s k.toNat).toNat
              · rw [← q2, mset_same, if_pos (by omega)]
                rw [← q2] at lB p1
                exact bOr_nat (Nat.lt_of_lt_of_le (Nat.or_lt_two_pow lB p1) (by decide)) (by omega)
              · rw [mset_off (by omega), hB, if_neg (by omega), Nat.or_zero]
                exact bOr_nat (by omega) (by omega)
            · rw [if_neg (c := hmC μ s k.toNat = (h : Int)) (by omega), Nat.or_zero, mset_off (by omega)]
              by_cases q2 : h = home.toNat
              · rw [q2, mset_same, if_pos (by omega)]
              · rw [mset_off (by omega), if_neg (by omega), Nat.or_zero]
                exact hv1 h hh6
  refine v_iconst dX1_findHostile_0 (by decide) ?_
  refine v_istore (ls' := [_, _, _, _, _, _, _]) dX1_findHostile_1 rfl rfl rfl ?_
  refine lp 0 (by omega) (by omega) m (fun _ _ _ => rfl) (fun h hh6 => ?_)
  rw [show (0 : Int).toNat = 0 from rfl, orR, Nat.or_zero]
  exact hv h hh6
end
