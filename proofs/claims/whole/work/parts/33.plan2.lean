/-! plans: found, and what they are made of -/
def FitF (D T : Nat → Int) (O : Nat → Nat) (r : Nat → Int) (h s : Nat) : Prop := (s ^^^ (s &&& (T h).toNat) = 0 ∧ (cntB 32 s : Int) = D h) ∧ (∀ x : Nat, x < 6 → s.testBit x = true → 0 < r x) ∧ HPf D O (fun x => r x - (if s.testBit x = true then 1 else 0)) (h + 1)
theorem FitF_congr {D D' T T' : Nat → Int} {O O' : Nat → Nat} {r r' : Nat → Int} {h s : Nat} (hh : h < 6) (h1 : ∀ x, x < 6 → D x = D' x) (h0 : ∀ x, x < 6 → T x = T' x) (h2 : ∀ x, x < 6 → O x = O' x) (h3 : ∀ x, x < 6 → r x = r' x) (hF : FitF D T O r h s) : FitF D' T' O' r' h s := by
  obtain ⟨⟨a1, a2⟩, a3, a4⟩ := hF
  exact ⟨⟨by rw [← h0 h hh]; exact a1, by rw [← h1 h hh]; exact a2⟩, fun x hx hs => by rw [← h3 x hx]; exact a3 x hx hs, HPf_congr h1 h2 (fun x hx => by rw [h3 x hx]) a4⟩
def roomG (r : Nat → Int) (g : Nat → Nat) (h x : Nat) : Int := r x - smR h (fun j => if (g j).testBit x = true then 1 else 0)
/-- the sets that are given, one house behind the other, each the first that fits -/
def greedy (D T : Nat → Int) (O : Nat → Nat) (r : Nat → Int) (g : Nat → Nat) (n : Nat) : Prop := ∀ h, h < n → (g h : Int) ≤ T h ∧ FitF D T O (roomG r g h) h (g h) ∧ ∀ s, s < g h → ¬ FitF D T O (roomG r g h) h s
section
variable {m : Mem_} {Q : PV → Mem_ → Prop}
set_option maxRecDepth 10000 in
set_option maxHeartbeats 1000000 in
theorem c_X1_isFound (hP : PLok m)
    (h1 : HPf (m 36) (plO m) (m 39) 0 → ∀ g : Nat → Nat, greedy (m 36) (m 37) (plO m) (m 39) g 6 → ∀ m' : Mem_, (∀ o i, ¬ (o = 39 ∧ i < 6) → ¬ (o = 40 ∧ i < 6) → m' o i = m o i) → (∀ h : Nat, h < 6 → m' 40 h = (g h : Int)) → Q (I_ 1) m')
    (h0 : (¬ HPf (m 36) (plO m) (m 39) 0 ∨ ∃ (g : Nat → Nat) (h : Nat), HPf (m 36) (plO m) (m 39) 0 ∧ h < 6 ∧ greedy (m 36) (m 37) (plO m) (m 39) g h ∧ ∀ s : Nat, (s : Int) ≤ m 37 h → ¬ FitF (m 36) (m 37) (plO m) (roomG (m 39) g h) h s) → ∀ m' : Mem_, (∀ o i, ¬ (o = 39 ∧ i < 6) → ¬ (o = 40 ∧ i < 6) → m' o i = m o i) → Q (I_ 0) m') : V_ nX1_isFound 0 [R_ 33, U_] [] m Q := by
  have lp : HPf (m 36) (plO m) (m 39) 0 → ∀ h : Int, 0 ≤ h → h ≤ 6 → ∀ (g : Nat → Nat) (m1 : Mem_), greedy (m 36) (m 37) (plO m) (m 39) g h.toNat → (∀ o i, ¬ (o = 39 ∧ i < 6) → ¬ (o = 40 ∧ i < 6) → m1 o i = m o i) → (∀ x : Nat, x < 6 → m1 39 x = roomG (m 39) g h.toNat x ∧ 0 ≤ m1 39 x ∧ m1 39 x ≤ 9) → (∀ j : Nat, j < h.toNat → m1 40 j = (g j : Int)) → V_ nX1_isFound 12 [R_ 33, I_ h] [] m1 Q := by
    intro hHP
    refine loop_up _ (fun h g0 g1 ih => ?_)
    intro g m1 hg hf hr hgv
    have f36 : ∀ x, m1 36 x = m 36 x := fun x => hf 36 x (by omega) (by omega)
    have f37 : ∀ x, m1 37 x = m 37 x := fun x => hf 37 x (by omega) (by omega)
    have f38 : ∀ x, m1 38 x = m 38 x := fun x => hf 38 x (by omega) (by omega)
    have hP1 : PLok m1 := by
      intro x hx
      have := hP x hx
      rw [f36, f37, f38]
      exact ⟨this.1, this.2.1, this.2.2.1, (hr x hx).2⟩
    have eq1 : ∀ s : Nat, h < 6 → (FitC m1 h.toNat s ↔ FitF (m 36) (m 37) (plO m) (roomG (m 39) g h.toNat) h.toNat s) := by
      intro s hh
      constructor
      · intro q
        exact FitF_congr (D := m1 36) (T := m1 37) (O := plO m1) (r := m1 39) (by omega) (fun x _ => f36 x) (fun x _ => f37 x) (fun x _ => by unfold plO; rw [f38]) (fun x hx => (hr x hx).1) q
      · intro q
        exact FitF_congr (D' := m1 36) (T' := m1 37) (O' := plO m1) (r' := m1 39) (by omega) (fun x _ => (f36 x).symm) (fun x _ => (f37 x).symm) (fun x _ => by unfold plO; rw [f38]) (fun x hx => (hr x hx).1.symm) q
    refine v_iload_n dX1_isFound_12 rfl rfl ?_
    refine v_bipush dX1_isFound_13 (by decide) ?_
    refine v_icmp_ge (tgt := 34) dX1_isFound_15 (by decide) (fun hc_15 => ?_) (fun hc_15 => ?_)
    · refine v_iconst dX1_isFound_34 (by decide) ?_
      refine v_zreturn dX1_isFound_35 rfl (by first | exact Or.inl rfl | exact Or.inr rfl | exact b2i_01 _ | assumption) ?_
      rw [show h.toNat = 6 by omega] at hg hgv
      exact h1 hHP g hg m1 hf hgv
    · refine v_aload_n dX1_isFound_18 rfl rfl ?_
      refine v_iload_n dX1_isFound_19 rfl rfl ?_
      refine v_callVi [_] dX1_isFound_20 lX1_81 kvX1_giveFirst (plX1 _ _) (Or.inr rfl) rfl rfl rfl rfl rfl rfl rfl rfl rfl (c_X1_giveFirst (by omega) hP1 ?_ ?_)
      · intro s s1 s2 s3 m2 k1 k2 k3
        refine v_if_ne (tgt := 28) dX1_isFound_23 (by decide) (fun _ => ?_) (fun q => absurd (by decide) q)
        refine v_iinc (ls' := [_, _]) dX1_isFound_28 rfl (fun hi_28 => by omega) rfl rfl ?_
        refine v_goto (tgt := 12) dX1_isFound_31 (by decide) ?_
        have ex : ∀ j, j < h.toNat → (fun j => if j = h.toNat then s else g j) j = g j := fun j hj => if_neg (by omega)
        have er : ∀ n x, n ≤ h.toNat → roomG (m 39) (fun j => if j = h.toNat then s else g j) n x = roomG (m 39) g n x := by
          intro n x hn
          unfold roomG
          rw [smR_congr (fun k hk => by
            show (if (if k = h.toNat then s else g k).testBit x = true then (1 : Int) else 0) = (if (g k).testBit x = true then 1 else 0)
            rw [if_neg (show ¬ k = h.toNat by omega)])]
        have ehn : (h + 1).toNat = h.toNat + 1 := by omega
        refine ih (by omega) (fun j => if j = h.toNat then s else g j) m2 ?_ (fun o i q1 q2 => by rw [k1 o i (by omega) (by omega)]; exact hf o i q1 q2) (fun x hx => ?_) (fun j hj => ?_)
        · intro j hj
          rw [ehn] at hj
          have efr : ∀ s', FitF (m 36) (m 37) (plO m) (roomG (m 39) (fun j => if j = h.toNat then s else g j) j) j s' ↔ FitF (m 36) (m 37) (plO m) (roomG (m 39) g j) j s' := by
            intro s'
            exact ⟨FitF_congr (by omega) (fun _ _ => rfl) (fun _ _ => rfl) (fun _ _ => rfl) (fun x _ => er j x (by omega)), FitF_congr (by omega) (fun _ _ => rfl) (fun _ _ => rfl) (fun _ _ => rfl) (fun x _ => (er j x (by omega)).symm)⟩
          by_cases e : j = h.toNat
          · subst e
            show ((if h.toNat = h.toNat then s else g h.toNat : Nat) : Int) ≤ _ ∧ FitF _ _ _ _ _ (if h.toNat = h.toNat then s else g h.toNat) ∧ ∀ s', s' < (if h.toNat = h.toNat then s else g h.toNat) → _
            rw [if_pos rfl]
            exact ⟨by rw [← f37]; exact s1, (efr s).mpr ((eq1 s (by omega)).mp s2), fun s' q z => s3 s' q ((eq1 s' (by omega)).mpr ((efr s').mp z))⟩
          · have hj2 := hg j (by omega)
            show ((if j = h.toNat then s else g j : Nat) : Int) ≤ _ ∧ FitF _ _ _ _ _ (if j = h.toNat then s else g j) ∧ ∀ s', s' < (if j = h.toNat then s else g j) → _
            rw [if_neg e]
            exact ⟨hj2.1, (efr _).mpr hj2.2.1, fun s' q z => hj2.2.2 s' q ((efr s').mp z)⟩
        · have hrx := hr x hx
          have e : roomG (m 39) (fun j => if j = h.toNat then s else g j) (h + 1).toNat x = roomG (m 39) g h.toNat x - (if s.testBit x = true then 1 else 0) := by
            have := er h.toNat x (Nat.le_refl _)
            unfold roomG at this ⊢
            rw [ehn, smR]
            show m 39 x - (smR h.toNat (fun j => if (if j = h.toNat then s else g j).testBit x = true then 1 else 0) + (if (if h.toNat = h.toNat then s else g h.toNat).testBit x = true then 1 else 0)) = _
            rw [if_pos rfl]
            have this : m 39 x - smR h.toNat (fun j => if (if j = h.toNat then s else g j).testBit x = true then 1 else 0) = m 39 x - smR h.toNat (fun j => if (g j).testBit x = true then 1 else 0) := this
            omega
          rw [k2 x hx, e, hrx.1]
          refine ⟨rfl, ?_⟩
          have pos := s2.2.1 x hx
          rw [hrx.1] at pos hrx
          split
          · rename_i q; have := pos q; omega
          · omega
        · rw [ehn] at hj
          show m2 40 j = ((if j = h.toNat then s else g j : Nat) : Int)
          by_cases e : j = h.toNat
          · rw [if_pos e, e]; exact k3
          · rw [if_neg e, k1 40 j (by omega) (by omega)]
            exact hgv j (by omega)
      · intro s1
        refine v_if_ne (tgt := 28) dX1_isFound_23 (by decide) (fun q => absurd q (by decide)) (fun _ => ?_)
        refine v_iconst dX1_isFound_26 (by decide) ?_
        refine v_zreturn dX1_isFound_27 rfl (by first | exact Or.inl rfl | exact Or.inr rfl | exact b2i_01 _ | assumption) ?_
        exact h0 (Or.inr ⟨g, h.toNat, hHP, by omega, hg, fun s q => fun z => s1 s (by rw [f37]; exact q) ((eq1 s (by omega)).mpr z)⟩) m1 hf
  refine v_aload_n dX1_isFound_0 rfl rfl ?_
  refine v_iconst dX1_isFound_1 (by decide) ?_
  refine v_callVi [_] dX1_isFound_2 lX1_78 kvX1_canGoOn (plX1 _ _) (Or.inr rfl) rfl rfl rfl rfl rfl rfl rfl rfl rfl (c_X1_canGoOn (by omega) hP ?_ ?_)
  · intro q
    refine v_if_ne (tgt := 10) dX1_isFound_5 (by decide) (fun _ => ?_) (fun q => absurd (by decide) q)
    refine v_iconst dX1_isFound_10 (by decide) ?_
    refine v_istore_n (ls' := [_, _]) dX1_isFound_11 rfl rfl rfl rfl ?_
    refine lp q 0 (by omega) (by omega) (fun _ => 0) m (fun h hh => absurd hh (by omega)) (fun _ _ _ _ => rfl) (fun x hx => ⟨?_, (hP x hx).2.2.2⟩) (fun j hj => absurd hj (by omega))
    show m 39 x = m 39 x - 0
    omega
  · intro q
    refine v_if_ne (tgt := 10) dX1_isFound_5 (by decide) (fun q => absurd q (by decide)) (fun _ => ?_)
    refine v_iconst dX1_isFound_8 (by decide) ?_
    refine v_zreturn dX1_isFound_9 rfl (by first | exact Or.inl rfl | exact Or.inr rfl | exact b2i_01 _ | assumption) ?_
    exact h0 (Or.inl q) m (fun _ _ _ _ => rfl)
set_option maxRecDepth 10000 in
theorem c_X1_size {g : Nat → Nat} (hg : ∀ h : Nat, h < 6 → m 40 h = (g h : Int) ∧ g h < 64) (hQ : Q (I_ (smR 6 (fun h => (cntB 32 (g h) : Int)))) m) : V_ nX1_size 0 [R_ 33, U_, U_] [] m Q := by
  have lp : ∀ k : Int, 0 ≤ k → k ≤ 6 → ∀ a : Int, a = smR k.toNat (fun h => (cntB 32 (g h) : Int)) → 0 ≤ a ∧ a ≤ 6 * k → V_ nX1_size 4 [R_ 33, I_ a, I_ k] [] m Q := by
    refine loop_up _ (fun k h0 h1 ih => ?_)
    intro a ha hb
    have hk := fun q : k < 6 => hg k.toNat (by omega)
    have h6 := fun q : k < 6 => cnt6 (hk q).2
    refine v_iload_n dX1_size_4 rfl rfl ?_
    refine v_bipush dX1_size_5 (by decide) ?_
    refine v_icmp_ge (tgt := 28) dX1_size_7 (by decide) (fun hc_7 => ?_) (fun hc_7 => ?_)
    · refine v_iload_n dX1_size_28 rfl rfl ?_
      refine v_ireturn dX1_size_29 rfl ?_
      rw [show k = 6 by omega] at ha
      rw [ha]
      exact hQ
    · have hk := hk (by omega)
      have h6 := h6 (by omega)
      refine v_iload_n dX1_size_10 rfl rfl ?_
      refine v_aload_n dX1_size_11 rfl rfl ?_
      refine v_getR dX1_size_12 fX1_30 rfl rfl rfl ?_
      refine v_iload_n dX1_size_15 rfl rfl ?_
      refine v_iald dX1_size_16 rfl (by omega) (by omega) ?_
      rw [hk.1]
      refine v_callSi [_] dX1_size_17 lX1_68 ksJ6_bitCount_0f7a4 plJ6b (Or.inl rfl) rfl rfl rfl rfl rfl rfl (c_J6_bitCount (by omega) (by omega) ?_)
      rw [Int.toNat_natCast]
      refine v_iadd dX1_size_20 (fun ha hb => by omega) ?_
      refine v_istore_n (ls' := [_, _, _]) dX1_size_21 rfl rfl rfl rfl ?_
      refine v_iinc (ls' := [_, _, _]) dX1_size_22 rfl (fun hi_22 => by omega) rfl rfl ?_
      refine v_goto (tgt := 4) dX1_size_25 (by decide) ?_
      exact ih (by omega) _ (smS h0 ha rfl) (by omega)
  refine v_iconst dX1_size_0 (by decide) ?_
  refine v_istore_n (ls' := [_, _, _]) dX1_size_1 rfl rfl rfl rfl ?_
  refine v_iconst dX1_size_2 (by decide) ?_
  refine v_istore_n (ls' := [_, _, _]) dX1_size_3 rfl rfl rfl rfl ?_
  exact lp 0 (by omega) (by omega) 0 rfl (by omega)
end
