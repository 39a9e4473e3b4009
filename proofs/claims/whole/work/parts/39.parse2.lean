/-! texts read: a person, the way to the next item, a street -/
def stS {α : Type} (m : Mem_) (r : Nat × Option α) : Prop := m 26 2 = (r.1 : Int) ∧ m 26 3 = (if r.2 = none then (r.1 : Int) else -9)
section
variable {μ : Mem_} {Q : PV → Mem_ → Prop} {tx : Nat → Int} {n i d : Nat} {s : List Int × List (Int × Int)}
theorem c_X3_expectC {α : Type} {r0 : Nat × Option α} {c : Int} (ht : TxC tx n μ) (hs : stS μ r0) (hc : c < 1000) (h : ∀ m : Mem_, frS μ m → stS m (andP r0 (fun _ j => expP tx n c j)) → Q U_ m) : V_ nX3_expect 0 [R_ 26, I_ c] [] μ Q := by
  match r0, hs, h with
  | (j, none), hs, h =>
    have e : μ 26 3 = (j : Int) := hs.2
    exact c_X3_expect1 (by omega) (h μ frS.rf hs)
  | (j, some v), hs, h => exact c_X3_expect0 ht hs.1 hs.2 hc (fun m a1 a2 a3 => h m a1 ⟨a2, a3⟩)
theorem c_X3_figureC {α : Type} {r0 : Nat × Option α} {B : Int} (ht : TxC tx n μ) (hs : stS μ r0) (h : ∀ (m : Mem_) (r : Int), frS μ m → stS m (andP r0 (fun _ j => figP tx n B j)) → (∀ v, (andP r0 (fun _ j => figP tx n B j)).2 = some v → r = v) → Q (I_ r) m) : V_ nX3_figure 0 [R_ 26, I_ B, U_] [] μ Q := by
  match r0, hs, h with
  | (j, none), hs, h =>
    have e : μ 26 3 = (j : Int) := hs.2
    exact c_X3_figure1 ht hs.1 (by omega) (h μ 0 frS.rf hs (fun v hv => by cases hv))
  | (j, some v), hs, h =>
    refine c_X3_figure0 ht hs.1 hs.2 (fun m a1 a2 a3 => h m _ a1 ⟨a2, a3⟩ (fun v hv => ?_))
    have hv : (figP tx n B j).2 = some v := hv
    rw [hv]; rfl
theorem c_X3_numberC {α : Type} {r0 : Nat × Option α} {B : Int} (ht : TxC tx n μ) (hs : stS μ r0) (h : ∀ (m : Mem_) (r : Int), frS μ m → stS m (andP r0 (fun _ j => numP tx n B j)) → (∀ v, (andP r0 (fun _ j => numP tx n B j)).2 = some v → r = v) → Q (I_ r) m) : V_ nX3_number 0 [R_ 26, I_ B, U_] [] μ Q := by
  match r0, hs, h with
  | (j, none), hs, h =>
    have e : μ 26 3 = (j : Int) := hs.2
    exact c_X3_number1 ht hs.1 (by omega) (h μ 0 frS.rf hs (fun v hv => by cases hv))
  | (j, some v), hs, h => exact c_X3_number0 ht hs.1 hs.2 (fun m r a1 a2 a3 a4 => h m r a1 ⟨a2, a3⟩ a4)
theorem andP3 {α β γ δ : Type} (a : Nat × Option α) (e : Nat → Nat × Option β) (g : Nat → Nat × Option γ) (F : α → γ → δ) :
    (∃ l, andP (andP a (fun _ j => e j)) (fun _ k => g k) = (l, none) ∧ andP a (fun v j => andP (e j) (fun _ k => andP (g k) (fun w l => (l, some (F v w))))) = (l, none)) ∨
    (∃ j v l w, a = (j, some v) ∧ andP (andP a (fun _ j => e j)) (fun _ k => g k) = (l, some w) ∧ andP a (fun v j => andP (e j) (fun _ k => andP (g k) (fun w l => (l, some (F v w))))) = (l, some (F v w))) := by
  match a with
  | (j, none) => exact Or.inl ⟨j, rfl, rfl⟩
  | (j, some v) =>
    simp only [andP]
    match e j with
    | (k, none) => exact Or.inl ⟨k, rfl, rfl⟩
    | (k, some u) =>
      simp only [andP]
      match g k with
      | (l, none) => exact Or.inl ⟨l, rfl, rfl⟩
      | (l, some w) => exact Or.inr ⟨j, v, l, w, rfl, rfl, rfl⟩
set_option maxRecDepth 10000 in
set_option maxHeartbeats 1000000 in
theorem c_X3_readPerson (hd : isSt d) (ht : TxC tx n μ) (hi : μ 26 2 = (i : Int)) (hin : i < n) (hw : μ 26 3 = -9) (hD : DrC μ d s) (h12 : s.2.length < 12) (h : ∀ m : Mem_, itPost tx n d μ m s (andP (hmP tx n s.1.length (i + 1)) (fun h j => andP (expP tx n 58 j) (fun _ k => andP (numP tx n 13 k) (fun a l => (l, some (s.1, s.2 ++ [(h, a)])))))) → Q U_ m) : V_ nX3_readPerson 0 [R_ 26, R_ d, U_, U_] [] μ Q := by
  have hst := hd
  have ht1 := ht.1
  have hd0 := hD.1.1
  have f1 : frS μ (mset μ 26 2 ((i : Int) + 1)) := fun o k q => mset_off (by omega)
  have fin : ∀ (m1 : Mem_) (r1 : Int), frS μ m1 → stS m1 (hmP tx n s.1.length (i + 1)) → (∀ v, (hmP tx n s.1.length (i + 1)).2 = some v → r1 = v) → V_ nX3_readPerson 44 [R_ 26, R_ d, I_ r1, U_] [] m1 Q := by
    intro m1 r1 a1 a2 a3
    refine v_aload_n dX3_readPerson_44 rfl rfl ?_
    refine v_bipush dX3_readPerson_45 (by decide) ?_
    refine v_callVv [_] dX3_readPerson_47 lX3_82 kvX3_expect (plX3 _ _) rfl rfl rfl rfl rfl rfl rfl rfl rfl rfl (c_X3_expectC (a1.tx ht) a2 (by omega) (fun m2 b1 b2 => ?_))
    refine v_aload_n dX3_readPerson_50 rfl rfl ?_
    refine v_bipush dX3_readPerson_51 (by decide) ?_
    refine v_callVi [_] dX3_readPerson_53 lX3_72 kvX3_number (plX3 _ _) (Or.inl rfl) rfl rfl rfl rfl rfl rfl rfl rfl rfl (c_X3_numberC ((a1.tr b1).tx ht) b2 (fun m3 r3 c1 c2 c3 => ?_))
    have hD2 := ((a1.tr b1).tr c1).dr hd hD
    have d0 := hD2.2.1.1
    refine v_istore_n (ls' := [_, _, _, _]) dX3_readPerson_56 rfl rfl rfl rfl ?_
    refine v_aload_n dX3_readPerson_57 rfl rfl ?_
    refine v_getI dX3_readPerson_58 fX3_15 rfl rfl rfl ?_
    rw [c2.2]
    refine v_bipush dX3_readPerson_61 (by decide) ?_
    refine v_icmp_ne (tgt := 72) dX3_readPerson_63 (by decide) (fun hc_63 => ?_) (fun hc_63 => ?_)
    · refine v_return dX3_readPerson_72 rfl ?_
      refine h m3 ⟨((a1.tr b1).tr c1).D, ?_⟩
      rcases andP3 (hmP tx n s.1.length (i + 1)) (fun j => expP tx n 58 j) (fun k => numP tx n 13 k) (fun h a => (s.1, s.2 ++ [(h, a)])) with ⟨l, e1, e2⟩ | ⟨j, v, l, w, e0, e1, e2⟩
      · rw [e2]
        rw [e1] at c2
        exact ⟨c2.1, c2.2, hD2⟩
      · rw [e1] at hc_63
        exact absurd rfl hc_63
    · refine v_aload_n dX3_readPerson_66 rfl rfl ?_
      refine v_iload_n dX3_readPerson_67 rfl rfl ?_
      refine v_iload_n dX3_readPerson_68 rfl rfl ?_
      refine v_callVv [_, _] dX3_readPerson_69 lX3_85 kvX5_addPerson (plX5 _ _) rfl (shp_st hst) rfl rfl rfl rfl rfl rfl rfl rfl (c_X5_addPerson hd (by omega) ?_)
      refine v_return dX3_readPerson_72 rfl ?_
      refine h _ ⟨fun o k q1 q2 => by rw [mset_off (by omega), mset_off (by omega), mset_off (by omega)]; exact ((a1.tr b1).tr c1) o k q1, ?_⟩
      rw [mset_off (by omega), mset_off (by omega), mset_off (by omega), mset_off (by omega), mset_off (by omega), mset_off (by omega)]
      rcases andP3 (hmP tx n s.1.length (i + 1)) (fun j => expP tx n 58 j) (fun k => numP tx n 13 k) (fun h a => (s.1, s.2 ++ [(h, a)])) with ⟨l, e1, e2⟩ | ⟨j, v, l, w, e0, e1, e2⟩
      · rw [e1] at hc_63
        exact absurd (by show ((l : Nat) : Int) ≠ -9; omega) hc_63
      · rw [e2]
        rw [e1] at c2 c3
        have q1 : r1 = v := a3 v (by rw [e0])
        have q3 : r3 = w := c3 w rfl
        subst q1 q3
        exact ⟨c2.1, c2.2, DrC_p hd hD2 h12 _ _⟩
  refine v_aload_n dX3_readPerson_0 rfl rfl ?_
  refine v_dupR_ dX3_readPerson_1 ?_
  refine v_getI dX3_readPerson_2 fX3_40 rfl rfl rfl ?_
  rw [hi]
  refine v_iconst dX3_readPerson_5 (by decide) ?_
  refine v_iadd dX3_readPerson_6 (fun ha hb => by omega) ?_
  refine v_putI dX3_readPerson_7 fpX3_40 rfl rfl rfl ?_
  refine v_bipush dX3_readPerson_10 (by decide) ?_
  refine v_istore_n (ls' := [_, _, _, _]) dX3_readPerson_12 rfl rfl rfl rfl ?_
  refine v_aload_n dX3_readPerson_13 rfl rfl ?_
  refine v_callVi [] dX3_readPerson_14 lX3_52 kvX3_sign (plX3 _ _) (Or.inl rfl) rfl rfl rfl rfl rfl rfl rfl rfl rfl (c_X3_sign (i := i + 1) (f1.tx ht) (by rw [mset_same]; omega) ?_)
  refine v_bipush dX3_readPerson_17 (by decide) ?_
  refine v_icmp_ne (tgt := 35) dX3_readPerson_19 (by decide) (fun hc_19 => ?_) (fun hc_19 => ?_)
  · refine v_aload_n dX3_readPerson_35 rfl rfl ?_
    refine v_aload_n dX3_readPerson_36 rfl rfl ?_
    refine v_getI dX3_readPerson_37 fX3_56 (shp_st hst) (fk_st0 hst) rfl ?_
    rw [mset_off (by omega), hd0]
    refine v_callVi [_] dX3_readPerson_40 lX3_79 kvX3_figure (plX3 _ _) (Or.inl rfl) rfl rfl rfl rfl rfl rfl rfl rfl rfl (c_X3_figure0 (i := i + 1) (f1.tx ht) (by rw [mset_same]; omega) (by rw [mset_off (by omega)]; exact hw) (fun m b1 b2 b3 => ?_))
    refine v_istore_n (ls' := [_, _, _, _]) dX3_readPerson_43 rfl rfl rfl rfl ?_
    refine fin _ _ (f1.tr b1) ?_ ?_
    · unfold hmP
      rw [if_neg (by intro q; rw [if_pos q.1] at hc_19; exact hc_19 q.2)]
      exact ⟨b2, b3⟩
    · unfold hmP
      rw [if_neg (by intro q; rw [if_pos q.1] at hc_19; exact hc_19 q.2)]
      intro v hv
      rw [hv]; rfl
  · refine v_aload_n dX3_readPerson_22 rfl rfl ?_
    refine v_dupR_ dX3_readPerson_23 ?_
    refine v_getI dX3_readPerson_24 fX3_40 rfl rfl rfl ?_
    rw [mset_same]
    refine v_iconst dX3_readPerson_27 (by decide) ?_
    refine v_iadd dX3_readPerson_28 (fun ha hb => by omega) ?_
    refine v_putI dX3_readPerson_29 fpX3_40 rfl rfl rfl ?_
    refine v_goto (tgt := 44) dX3_readPerson_32 (by decide) ?_
    have hin1 : i + 1 < n := by
      by_cases q : i + 1 < n
      · exact q
      · rw [if_neg q] at hc_19; omega
    rw [if_pos hin1] at hc_19
    refine fin _ _ (f1.tr (fun o k q => mset_off (by omega))) ?_ ?_
    · unfold hmP
      rw [if_pos ⟨hin1, by omega⟩]
      exact ⟨by rw [mset_same]; show _ = ((i + 1 + 1 : Nat) : Int); omega, by rw [mset_off (by omega), mset_off (by omega)]; exact hw⟩
    · unfold hmP
      rw [if_pos ⟨hin1, by omega⟩]
      intro v hv
      cases hv; rfl
end
