/-! the model: a person read -/
theorem DmC_p {m : Mem_} {s : List Int × List (Int × Int)} (hD : DmC m s) (h12 : s.2.length < 12) {m' : Mem_} (a b : Int) (g1 : m' 50 17 = m 50 17) (g2 : m' 50 18 = m 50 18 + 1) (g3 : ∀ k, m' 60 k = m 60 k) (g4 : ∀ k, k ≠ s.2.length → m' 61 k = m 61 k ∧ m' 62 k = m 62 k) (g5 : m' 61 s.2.length = a) (g6 : m' 62 s.2.length = b) : DmC m' (s.1, s.2 ++ [(a, b)]) := by
  obtain ⟨⟨a1, a2⟩, ⟨b1, b2⟩, c1, e1⟩ := hD
  refine ⟨⟨by rw [g1]; exact a1, a2⟩, ⟨by rw [g2, b1]; simp, by simp; omega⟩, fun k hk => by rw [g3]; exact c1 k hk, fun p hp => ?_⟩
  have hp : p < s.2.length + 1 := by simpa using hp
  show _ = ((s.2 ++ [(a, b)]).getD p (0, 0)).1 ∧ _ = ((s.2 ++ [(a, b)]).getD p (0, 0)).2
  rw [getD_app _ _ _ _ hp]
  split
  · rename_i q
    rw [(g4 p (by omega)).1, (g4 p (by omega)).2]
    exact e1 p q
  · rename_i q
    have : p = s.2.length := by omega
    rw [this, g5, g6]
    exact ⟨rfl, rfl⟩
section
variable {μ : Mem_} {Q : PV → Mem_ → Prop} {tx : Nat → Int} {n i : Nat} {t : Int} {s : List Int × List (Int × Int)}
theorem figP_le {B : Int} {i j : Nat} {r : Option Int} (h : figP tx n B i = (j, r)) : j ≤ i + 1 := by
  unfold figP at h
  split at h <;> simp at h <;> omega
theorem expP_le {B : Int} {i j : Nat} {r : Option Int} (h : expP tx n B i = (j, r)) : j ≤ i + 1 ∧ (r ≠ none → j ≤ n) := by
  unfold expP at h
  split at h
  · simp at h; omega
  · simp at h; exact ⟨by omega, fun z => absurd h.2.symm z⟩
theorem hmP_le {B : Int} {i j : Nat} {v : Int} (h : hmP tx n B i = (j, some v)) : j ≤ n := by
  unfold hmP figP at h
  split at h
  · simp at h; omega
  · split at h
    · simp at h; omega
    · simp at h
/-- the home stands where the next person's will, all else of the draft as it was -/
def hmSt (μ m : Mem_) (s : List Int × List (Int × Int)) (v : Int) : Prop := (∀ o k, ¬ (o = 50 ∧ (k = 15 ∨ k = 16)) → ¬ (o = 61 ∧ k = s.2.length) → m o k = μ o k) ∧ m 61 s.2.length = v
set_option maxRecDepth 10000 in
set_option maxHeartbeats 1000000 in
theorem c_X8_readsPerson77 {v : Int} {j : Nat} (ht : TmC tx n t μ) (hD : DmC μ s) (h12 : s.2.length < 12) {m : Mem_} (hm : hmSt μ m s v) (hj : m 50 15 = (j : Int)) (hjn : j ≤ n) (h : ∀ m : Mem_, imPost μ m s (andP (expP tx n 58 j) (fun _ k => andP (numP tx n 13 k) (fun a l => (l, some (s.1, s.2 ++ [(v, a)]))))) → Q (I_ (b2i ((andP (expP tx n 58 j) (fun _ k => andP (numP tx n 13 k) (fun a l => (l, some (s.1, s.2 ++ [(v, a)]))))).2 ≠ none))) m) : V_ nX8_readsPerson 77 [R_ 50, I_ t] [] m Q := by
  have t1 := ht.1
  have htm : TmC tx n t m := ⟨ht.1, ht.2.1, by rw [hm.1 55 _ (by omega) (by omega)]; exact ht.2.2.1, fun j hj => by rw [hm.1 56 _ (by omega) (by omega)]; exact ht.2.2.2 j hj⟩
  have hDs : ∀ m' : Mem_, frR m m' → frM μ m' ∧ DmC m' s := by
    intro m' f
    have g : ∀ o k, ¬ (o = 50 ∧ (k = 15 ∨ k = 16)) → ¬ (o = 61 ∧ k = s.2.length) → m' o k = μ o k := fun o k q1 q2 => by rw [f o k q1]; exact hm.1 o k q1 q2
    refine ⟨fun o k q1 q2 => g o k (by omega) (by omega), ?_⟩
    unfold DmC
    rw [g 50 17 (by omega) (by omega), g 50 18 (by omega) (by omega)]
    exact ⟨hD.1, hD.2.1, fun k hk => by rw [g 60 k (by omega) (by omega)]; exact hD.2.2.1 k hk, fun p hp => by rw [g 61 p (by omega) (by omega), g 62 p (by omega) (by omega)]; exact hD.2.2.2 p hp⟩
  match e1 : expP tx n 58 j, h with
  | (k, none), h =>
    refine v_aload_n dX8_readsPerson_77 rfl rfl ?_
    refine v_iload_n dX8_readsPerson_78 rfl rfl ?_
    refine v_bipush dX8_readsPerson_79 (by decide) ?_
    refine v_callVi [_, _] dX8_readsPerson_81 lX8_159 kvX8_sign (plX8 _ _) (Or.inr rfl) rfl rfl rfl rfl rfl rfl rfl rfl rfl (c_X8_sign (by omega) htm hj (by omega) (fun m1 a1 a2 => ?_))
    rw [e1] at a2 ⊢
    refine v_ifb_eq (tgt := 97) dX8_readsPerson_84 (by decide) (fun hc_84 => ?_) (fun hc_84 => ?_)
    · refine v_iconst dX8_readsPerson_97 (by decide) ?_
      refine v_zreturn dX8_readsPerson_98 rfl (by first | exact Or.inl rfl | exact Or.inr rfl | exact b2i_01 _ | assumption) ?_
      exact h m1 ⟨(hDs m1 a1).1, a2, (hDs m1 a1).2⟩
    · exact absurd rfl hc_84
  | (k, some u), h =>
    have hk : k ≤ n := (expP_le e1).2 (by simp)
    match e2 : numP tx n 13 k, h with
    | (l, none), h =>
      refine v_aload_n dX8_readsPerson_77 rfl rfl ?_
      refine v_iload_n dX8_readsPerson_78 rfl rfl ?_
      refine v_bipush dX8_readsPerson_79 (by decide) ?_
      refine v_callVi [_, _] dX8_readsPerson_81 lX8_159 kvX8_sign (plX8 _ _) (Or.inr rfl) rfl rfl rfl rfl rfl rfl rfl rfl rfl (c_X8_sign (by omega) htm hj (by omega) (fun m1 a1 a2 => ?_))
      rw [e1] at a2 ⊢
      refine v_ifb_eq (tgt := 97) dX8_readsPerson_84 (by decide) (fun hc_84 => ?_) (fun hc_84 => ?_)
      · refine v_iconst dX8_readsPerson_97 (by decide) ?_
        refine v_zreturn dX8_readsPerson_98 rfl (by first | exact Or.inl rfl | exact Or.inr rfl | exact b2i_01 _ | assumption) ?_
        exact absurd (by simp) hc_84
      · refine v_aload_n dX8_readsPerson_87 rfl rfl ?_
        refine v_iload_n dX8_readsPerson_88 rfl rfl ?_
        refine v_bipush dX8_readsPerson_89 (by decide) ?_
        refine v_callVi [_, _] dX8_readsPerson_91 lX8_152 kvX8_number (plX8 _ _) (Or.inr rfl) rfl rfl rfl rfl rfl rfl rfl rfl rfl (c_X8_number (by omega) (a1.tm htm) a2 (by omega) (fun m2 b1 b2 b3 => ?_))
        rw [show (12 : Int) + 1 = 13 from rfl, e2] at b2 b3 ⊢
        refine v_ifb_ne (tgt := 99) dX8_readsPerson_94 (by decide) (fun hc_94 => ?_) (fun hc_94 => ?_)
        · exact absurd rfl hc_94
        · refine v_iconst dX8_readsPerson_97 (by decide) ?_
          refine v_zreturn dX8_readsPerson_98 rfl (by first | exact Or.inl rfl | exact Or.inr rfl | exact b2i_01 _ | assumption) ?_
          simp only [andP, e2] at h
          exact h m2 ⟨(hDs m2 (a1.tr b1)).1, b2, (hDs m2 (a1.tr b1)).2⟩
    | (l, some w), h =>
      simp only [andP, e2] at h
      refine v_aload_n dX8_readsPerson_77 rfl rfl ?_
      refine v_iload_n dX8_readsPerson_78 rfl rfl ?_
      refine v_bipush dX8_readsPerson_79 (by decide) ?_
      refine v_callVi [_, _] dX8_readsPerson_81 lX8_159 kvX8_sign (plX8 _ _) (Or.inr rfl) rfl rfl rfl rfl rfl rfl rfl rfl rfl (c_X8_sign (by omega) htm hj (by omega) (fun m1 a1 a2 => ?_))
      rw [e1] at a2 ⊢
      refine v_ifb_eq (tgt := 97) dX8_readsPerson_84 (by decide) (fun hc_84 => ?_) (fun hc_84 => ?_)
      · refine v_iconst dX8_readsPerson_97 (by decide) ?_
        refine v_zreturn dX8_readsPerson_98 rfl (by first | exact Or.inl rfl | exact Or.inr rfl | exact b2i_01 _ | assumption) ?_
        exact absurd (by simp) hc_84
      · refine v_aload_n dX8_readsPerson_87 rfl rfl ?_
        refine v_iload_n dX8_readsPerson_88 rfl rfl ?_
        refine v_bipush dX8_readsPerson_89 (by decide) ?_
        refine v_callVi [_, _] dX8_readsPerson_91 lX8_152 kvX8_number (plX8 _ _) (Or.inr rfl) rfl rfl rfl rfl rfl rfl rfl rfl rfl (c_X8_number (by omega) (a1.tm htm) a2 (by omega) (fun m2 b1 b2 b3 => ?_))
        rw [show (12 : Int) + 1 = 13 from rfl, e2] at b2 b3 ⊢
        have g := a1.tr b1
        have hD2 := (hDs m2 g).2
        have d1 := hD2.2.1.1
        have ew : m2 50 16 = w := b3 w rfl
        refine v_ifb_ne (tgt := 99) dX8_readsPerson_94 (by decide) (fun hc_94 => ?_) (fun hc_94 => ?_)
        · refine v_aload_n dX8_readsPerson_99 rfl rfl ?_
          refine v_getR dX8_readsPerson_100 fX8_44 rfl rfl rfl ?_
          refine v_aload_n dX8_readsPerson_103 rfl rfl ?_
          refine v_getI dX8_readsPerson_104 fX8_156 rfl rfl rfl ?_
          rw [d1]
          refine v_aload_n dX8_readsPerson_107 rfl rfl ?_
          refine v_getI dX8_readsPerson_108 fX8_146 rfl rfl rfl ?_
          rw [ew]
          refine v_iast dX8_readsPerson_111 rfl (by omega) (by omega) ?_
          refine v_aload_n dX8_readsPerson_112 rfl rfl ?_
          refine v_dupR_ dX8_readsPerson_113 ?_
          refine v_getI dX8_readsPerson_114 fX8_156 rfl rfl rfl ?_
          rw [mset_off (by omega), d1]
          refine v_iconst dX8_readsPerson_117 (by decide) ?_
          refine v_iadd dX8_readsPerson_118 (fun ha hb => by omega) ?_
          refine v_putI dX8_readsPerson_119 fpX8_156 rfl rfl rfl ?_
          refine v_iconst dX8_readsPerson_122 (by decide) ?_
          refine v_zreturn dX8_readsPerson_123 rfl (by first | exact Or.inl rfl | exact Or.inr rfl | exact b2i_01 _ | assumption) ?_
          rw [Int.toNat_natCast]
          have q := h (mset (mset m2 62 s.2.length w) 50 18 ((s.2.length : Int) + 1)) ⟨fun o k q1 q2 => by rw [mset_off (by omega), mset_off (by omega)]; exact (hDs m2 g).1 o k q1 q2, by rw [mset_off (by omega), mset_off (by omega)]; exact b2, ?_⟩
          · rwa [b2i_t (by simp)] at q
          · refine DmC_p hD2 h12 v w (by rw [mset_off (by omega), mset_off (by omega)]) (by rw [mset_same]; omega) (fun k => by rw [mset_off (by omega), mset_off (by omega)]) (fun k hk => by rw [mset_off (by omega), mset_off (by omega), mset_off (by omega), mset_off (by omega)]; exact ⟨rfl, rfl⟩) ?_ ?_
            · rw [mset_off (by omega), mset_off (by omega), g 61 _ (by omega)]
              exact hm.2
            · rw [mset_off (by omega), mset_same]
        · refine v_iconst dX8_readsPerson_97 (by decide) ?_
          refine v_zreturn dX8_readsPerson_98 rfl (by first | exact Or.inl rfl | exact Or.inr rfl | exact b2i_01 _ | assumption) ?_
          exact absurd (by simp) hc_94
end
