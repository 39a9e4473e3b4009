/-! events read -/
def kdN (c : Int) : Int := if c = 109 then 1 else if c = 99 then 2 else if c = 103 then 3 else if c = 108 then 4 else if c = 105 then 5 else if c = 120 then 6 else if c = 102 ∨ c = 113 then 7 else 0
def joN (k : Int) : Int := if k = 4 ∨ k = 5 then 64 else if k = 7 then 47 else 62
def evA (tx : Nat → Int) (n : Nat) (nH nP made k : Int) (i : Nat) : Nat × Option Int := if k = 1 ∨ k = 6 then figP tx n nH i else numP tx n (if k = 7 then nP else made) i
def evB (tx : Nat → Int) (n : Nat) (nH nP k : Int) (i : Nat) : Nat × Option Int := if k = 6 then (i, some 0) else andP (expP tx n (joN k) i) (fun _ l => if k = 4 ∨ k = 5 then figP tx n nH l else numP tx n nP l)
def chN (k c : Int) : Int := if k = 7 then (if c = 102 then 1 else -1) else 0
abbrev EvL := List (Int × Int × Int × Int)
def evP (tx : Nat → Int) (n : Nat) (nH nP made k : Int) (i : Nat) : Nat × Option (Int × Int × Int × Int) :=
  andP (evA tx n nH nP made k (i + 1)) (fun a j => andP (evB tx n nH nP k j) (fun b l => if k = 7 ∧ a = b then (l, none) else (l, some (k, a, b, chN k (tx i)))))
def itY (tx : Nat → Int) (n : Nat) (nH nP e0 : Int) (i : Nat) (s : EvL × Int) : Nat × Option (EvL × Int) :=
  if kdN (tx i) = 0 ∨ 40 ≤ e0 + s.1.length ∨ (mkK (kdN (tx i)) ∧ 24 ≤ s.2) then (i, none)
  else andP (evP tx n nH nP s.2 (kdN (tx i)) i) (fun ev j => (j, some (s.1 ++ [ev], s.2 + b2i (mkK (kdN (tx i))))))
theorem andP2 {α β γ : Type} (a : Nat × Option α) (e : Nat → Nat × Option β) (F : α → β → Nat → Nat × Option γ) :
    (∃ l, andP a (fun _ j => e j) = (l, none) ∧ andP a (fun v j => andP (e j) (F v)) = (l, none)) ∨
    (∃ j v l w, a = (j, some v) ∧ andP a (fun _ j => e j) = (l, some w) ∧ andP a (fun v j => andP (e j) (F v)) = F v w l) := by
  match a with
  | (j, none) => exact Or.inl ⟨j, rfl, rfl⟩
  | (j, some v) =>
    simp only [andP]
    match e j with
    | (k, none) => exact Or.inl ⟨k, rfl, rfl⟩
    | (k, some u) => exact Or.inr ⟨j, v, k, u, rfl, rfl, rfl⟩
theorem evA_up {tx : Nat → Int} {n : Nat} {nH nP made k : Int} {i j : Nat} {v : Int} (h : evA tx n nH nP made k i = (j, some v)) : i < j := by
  unfold evA at h
  split at h
  · exact figP_up h
  · exact numP_up h
theorem evB_up {tx : Nat → Int} {n : Nat} {nH nP k : Int} {i j : Nat} {v : Int} (h : evB tx n nH nP k i = (j, some v)) : i ≤ j := by
  unfold evB at h
  split at h
  · simp at h; omega
  · obtain ⟨v, l, h1, h2⟩ := andP_some h
    have := expP_up h1
    split at h2
    · have := figP_up h2; omega
    · have := numP_up h2; omega
theorem itY_up {tx : Nat → Int} {n : Nat} {nH nP e0 : Int} : gUp (itY tx n nH nP e0) := by
  intro i s j s' h
  unfold itY at h
  split at h
  · simp at h
  · obtain ⟨v, l, h1, h2⟩ := andP_some h
    unfold evP at h1
    obtain ⟨a, l2, h3, h4⟩ := andP_some h1
    obtain ⟨b, l3, h5, h6⟩ := andP_some h4
    have := evA_up h3
    have := evB_up h5
    have e1 : l = j := by simp at h2; exact h2.1
    split at h6
    · simp at h6
    · simp at h6; omega
/-- events as the draft log holds them -/
def LgC (m : Mem_) (s : EvL) : Prop := (m 12 0 = (s.length : Int) ∧ s.length ≤ 40) ∧ ∀ k : Nat, k < s.length → m 13 k = (s.getD k (0, 0, 0, 0)).1 ∧ m 14 k = (s.getD k (0, 0, 0, 0)).2.1 ∧ m 15 k = (s.getD k (0, 0, 0, 0)).2.2.1 ∧ m 16 k = (s.getD k (0, 0, 0, 0)).2.2.2
def frL (μ m : Mem_) : Prop := ∀ o k, ¬ (o = 26 ∧ (k = 2 ∨ k = 3)) → ¬ (12 ≤ o ∧ o ≤ 16) → m o k = μ o k
theorem frS.lg {μ m : Mem_} {s : EvL} (h : frS μ m) (hD : LgC μ s) : LgC m s := by
  unfold LgC
  rw [h 12 0 (by omega)]
  exact ⟨hD.1, fun k hk => by rw [h 13 k (by omega), h 14 k (by omega), h 15 k (by omega), h 16 k (by omega)]; exact hD.2 k hk⟩
theorem frS.L {μ m : Mem_} (h : frS μ m) : frL μ m := fun o k q1 _ => h o k q1
theorem frL.tr {a b c : Mem_} (h1 : frL a b) (h2 : frL b c) : frL a c := fun o k q1 q2 => by rw [h2 o k q1 q2]; exact h1 o k q1 q2
theorem frL.tx {tx : Nat → Int} {n : Nat} {μ m : Mem_} (h : frL μ m) (ht : TxC tx n μ) : TxC tx n m := ⟨ht.1, by rw [h 26 1 (by omega) (by omega)]; exact ht.2.1, fun j hj => by rw [h 27 j (by omega) (by omega)]; exact ht.2.2 j hj⟩
theorem LgC_add {m : Mem_} {s : EvL} (hL : LgC m s) (h : s.length < 40) (k a b c : Int) : LgC (addC_12 m k a b c) (s ++ [(k, a, b, c)]) := by
  obtain ⟨⟨a1, a2⟩, a3⟩ := hL
  unfold addC_12
  refine ⟨⟨by rw [mset_same, a1]; simp, by simp; omega⟩, fun e he => ?_⟩
  have he : e < s.length + 1 := by simpa using he
  rw [getD_app _ _ _ _ he, a1, Int.toNat_natCast]
  by_cases q : e < s.length
  · rw [if_pos q]
    have := a3 e q
    simp only [mset]
    simp [show e ≠ s.length by omega, this]
  · have : e = s.length := by omega
    rw [if_neg q, this]
    simp [mset]
section
variable {μ : Mem_} {Q : PV → Mem_ → Prop} {tx : Nat → Int} {n i d : Nat}
set_option maxHeartbeats 1000000 in
theorem c_X3_kindOf {c : Int} (h : Q (I_ (kdN c)) μ) : V_ nX3_kindOf 0 [I_ c] [] μ Q := by
  unfold kdN at h
  refine v_iload_n dX3_kindOf_0 rfl rfl ?_
  rcases (show c < 99 ∨ 120 < c ∨ c = 99 ∨ c = 100 ∨ c = 101 ∨ c = 102 ∨ c = 103 ∨ c = 104 ∨ c = 105 ∨ c = 106 ∨ c = 107 ∨ c = 108 ∨ c = 109 ∨ c = 110 ∨ c = 111 ∨ c = 112 ∨ c = 113 ∨ c = 114 ∨ c = 115 ∨ c = 116 ∨ c = 117 ∨ c = 118 ∨ c = 119 ∨ c = 120 by omega) with hsw | hsw | hsw | hsw | hsw | hsw | hsw | hsw | hsw | hsw | hsw | hsw | hsw | hsw | hsw | hsw | hsw | hsw | hsw | hsw | hsw | hsw | hsw | hsw
  · refine v_tableOut (tgt := 120) dX3_kindOf_1 (Or.inl hsw) (by decide) ?_
    refine v_iconst dX3_kindOf_120 (by decide) ?_
    refine v_ireturn dX3_kindOf_121 rfl ?_
    first | (subst hsw; exact h) | (rw [if_neg (by omega), if_neg (by omega), if_neg (by omega), if_neg (by omega), if_neg (by omega), if_neg (by omega), if_neg (by omega)] at h; exact h)
  · refine v_tableOut (tgt := 120) dX3_kindOf_1 (Or.inr hsw) (by decide) ?_
    refine v_iconst dX3_kindOf_120 (by decide) ?_
    refine v_ireturn dX3_kindOf_121 rfl ?_
    first | (subst hsw; exact h) | (rw [if_neg (by omega), if_neg (by omega), if_neg (by omega), if_neg (by omega), if_neg (by omega), if_neg (by omega), if_neg (by omega)] at h; exact h)
  · refine v_tableIn (off := 105) (tgt := 106) dX3_kindOf_1 (by rw [hsw]; decide) (by rw [hsw]; decide) (by rw [hsw]; decide) (by decide) ?_
    refine v_iconst dX3_kindOf_106 (by decide) ?_
    refine v_ireturn dX3_kindOf_107 rfl ?_
    first | (subst hsw; exact h) | (rw [if_neg (by omega), if_neg (by omega), if_neg (by omega), if_neg (by omega), if_neg (by omega), if_neg (by omega), if_neg (by omega)] at h; exact h)
  · refine v_tableIn (off := 119) (tgt := 120) dX3_kindOf_1 (by rw [hsw]; decide) (by rw [hsw]; decide) (by rw [hsw]; decide) (by decide) ?_
    refine v_iconst dX3_kindOf_120 (by decide) ?_
    refine v_ireturn dX3_kindOf_121 rfl ?_
    first | (subst hsw; exact h) | (rw [if_neg (by omega), if_neg (by omega), if_neg (by omega), if_neg (by omega), if_neg (by omega), if_neg (by omega), if_neg (by omega)] at h; exact h)
  · refine v_tableIn (off := 119) (tgt := 120) dX3_kindOf_1 (by rw [hsw]; decide) (by rw [hsw]; decide) (by rw [hsw]; decide) (by decide) ?_
    refine v_iconst dX3_kindOf_120 (by decide) ?_
    refine v_ireturn dX3_kindOf_121 rfl ?_
    first | (subst hsw; exact h) | (rw [if_neg (by omega), if_neg (by omega), if_neg (by omega), if_neg (by omega), if_neg (by omega), if_neg (by omega), if_neg (by omega)] at h; exact h)
  · refine v_tableIn (off := 116) (tgt := 117) dX3_kindOf_1 (by rw [hsw]; decide) (by rw [hsw]; decide) (by rw [hsw]; decide) (by decide) ?_
    refine v_bipush dX3_kindOf_117 (by decide) ?_
    refine v_ireturn dX3_kindOf_119 rfl ?_
    first | (subst hsw; exact h) | (rw [if_neg (by omega), if_neg (by omega), if_neg (by omega), if_neg (by omega), if_neg (by omega), if_neg (by omega), if_neg (by omega)] at h; exact h)
  · refine v_tableIn (off := 107) (tgt := 108) dX3_kindOf_1 (by rw [hsw]; decide) (by rw [hsw]; decide) (by rw [hsw]; decide) (by decide) ?_
    refine v_iconst dX3_kindOf_108 (by decide) ?_
    refine v_ireturn dX3_kindOf_109 rfl ?_
    first | (subst hsw; exact h) | (rw [if_neg (by omega), if_neg (by omega), if_neg (by omega), if_neg (by omega), if_neg (by omega), if_neg (by omega), if_neg (by omega)] at h; exact h)
  · refine v_tableIn (off := 119) (tgt := 120) dX3_kindOf_1 (by rw [hsw]; decide) (by rw [hsw]; decide) (by rw [hsw]; decide) (by decide) ?_
    refine v_iconst dX3_kindOf_120 (by decide) ?_
    refine v_ireturn dX3_kindOf_121 rfl ?_
    first | (subst hsw; exact h) | (rw [if_neg (by omega), if_neg (by omega), if_neg (by omega), if_neg (by omega), if_neg (by omega), if_neg (by omega), if_neg (by omega)] at h; exact h)
  · refine v_tableIn (off := 111) (tgt := 112) dX3_kindOf_1 (by rw [hsw]; decide) (by rw [hsw]; decide) (by rw [hsw]; decide) (by decide) ?_
    refine v_iconst dX3_kindOf_112 (by decide) ?_
    refine v_ireturn dX3_kindOf_113 rfl ?_
    first | (subst hsw; exact h) | (rw [if_neg (by omega), if_neg (by omega), if_neg (by omega), if_neg (by omega), if_neg (by omega), if_neg (by omega), if_neg (by omega)] at h; exact h)
  · refine v_tableIn (off := 119) (tgt := 120) dX3_kindOf_1 (by rw [hsw]; decide) (by rw [hsw]; decide) (by rw [hsw]; decide) (by decide) ?_
    refine v_iconst dX3_kindOf_120 (by decide) ?_
    refine v_ireturn dX3_kindOf_121 rfl ?_
    first | (subst hsw; exact h) | (rw [if_neg (by omega), if_neg (by omega), if_neg (by omega), if_neg (by omega), if_neg (by omega), if_neg (by omega), if_neg (by omega)] at h; exact h)
  · refine v_tableIn (off := 119) (tgt := 120) dX3_kindOf_1 (by rw [hsw]; decide) (by rw [hsw]; decide) (by rw [hsw]; decide) (by decide) ?_
    refine v_iconst dX3_kindOf_120 (by decide) ?_
    refine v_ireturn dX3_kindOf_121 rfl ?_
    first | (subst hsw; exact h) | (rw [if_neg (by omega), if_neg (by omega), if_neg (by omega), if_neg (by omega), if_neg (by omega), if_neg (by omega), if_neg (by omega)] at h; exact h)
  · refine v_tableIn (off := 109) (tgt := 110) dX3_kindOf_1 (by rw [hsw]; decide) (by rw [hsw]; decide) (by rw [hsw]; decide) (by decide) ?_
    refine v_iconst dX3_kindOf_110 (by decide) ?_
    refine v_ireturn dX3_kindOf_111 rfl ?_
    first | (subst hsw; exact h) | (rw [if_neg (by omega), if_neg (by omega), if_neg (by omega), if_neg (by omega), if_neg (by omega), if_neg (by omega), if_neg (by omega)] at h; exact h)
  · refine v_tableIn (off := 103) (tgt := 104) dX3_kindOf_1 (by rw [hsw]; decide) (by rw [hsw]; decide) (by rw [hsw]; decide) (by decide) ?_
    refine v_iconst dX3_kindOf_104 (by decide) ?_
    refine v_ireturn dX3_kindOf_105 rfl ?_
    first | (subst hsw; exact h) | (rw [if_neg (by omega), if_neg (by omega), if_neg (by omega), if_neg (by omega), if_neg (by omega), if_neg (by omega), if_neg (by omega)] at h; exact h)
  · refine v_tableIn (off := 119) (tgt := 120) dX3_kindOf_1 (by rw [hsw]; decide) (by rw [hsw]; decide) (by rw [hsw]; decide) (by decide) ?_
    refine v_iconst dX3_kindOf_120 (by decide) ?_
    refine v_ireturn dX3_kindOf_121 rfl ?_
    first | (subst hsw; exact h) | (rw [if_neg (by omega), if_neg (by omega), if_neg (by omega), if_neg (by omega), if_neg (by omega), if_neg (by omega), if_neg (by omega)] at h; exact h)
  · refine v_tableIn (off := 119) (tgt := 120) dX3_kindOf_1 (by rw [hsw]; decide) (by rw [hsw]; decide) (by rw [hsw]; decide) (by decide) ?_
    refine v_iconst dX3_kindOf_120 (by decide) ?_
    refine v_ireturn dX3_kindOf_121 rfl ?_
    first | (subst hsw; exact h) | (rw [if_neg (by omega), if_neg (by omega), if_neg (by omega), if_neg (by omega), if_neg (by omega), if_neg (by omega), if_neg (by omega)] at h; exact h)
  · refine v_tableIn (off := 119) (tgt := 120) dX3_kindOf_1 (by rw [hsw]; decide) (by rw [hsw]; decide) (by rw [hsw]; decide) (by decide) ?_
    refine v_iconst dX3_kindOf_120 (by decide) ?_
    refine v_ireturn dX3_kindOf_121 rfl ?_
    first | (subst hsw; exact h) | (rw [if_neg (by omega), if_neg (by omega), if_neg (by omega), if_neg (by omega), if_neg (by omega), if_neg (by omega), if_neg (by omega)] at h; exact h)
  · refine v_tableIn (off := 116) (tgt := 117) dX3_kindOf_1 (by rw [hsw]; decide) (by rw [hsw]; decide) (by rw [hsw]; decide) (by decide) ?_
    refine v_bipush dX3_kindOf_117 (by decide) ?_
    refine v_ireturn dX3_kindOf_119 rfl ?_
    first | (subst hsw; exact h) | (rw [if_neg (by omega), if_neg (by omega), if_neg (by omega), if_neg (by omega), if_neg (by omega), if_neg (by omega), if_neg (by omega)] at h; exact h)
  · refine v_tableIn (off := 119) (tgt := 120) dX3_kindOf_1 (by rw [hsw]; decide) (by rw [hsw]; decide) (by rw [hsw]; decide) (by decide) ?_
    refine v_iconst dX3_kindOf_120 (by decide) ?_
    refine v_ireturn dX3_kindOf_121 rfl ?_
    first | (subst hsw; exact h) | (rw [if_neg (by omega), if_neg (by omega), if_neg (by omega), if_neg (by omega), if_neg (by omega), if_neg (by omega), if_neg (by omega)] at h; exact h)
  · refine v_tableIn (off := 119) (tgt := 120) dX3_kindOf_1 (by rw [hsw]; decide) (by rw [hsw]; decide) (by rw [hsw]; decide) (by decide) ?_
    refine v_iconst dX3_kindOf_120 (by decide) ?_
    refine v_ireturn dX3_kindOf_121 rfl ?_
    first | (subst hsw; exact h) | (rw [if_neg (by omega), if_neg (by omega), if_neg (by omega), if_neg (by omega), if_neg (by omega), if_neg (by omega), if_neg (by omega)] at h; exact h)
  · refine v_tableIn (off := 119) (tgt := 120) dX3_kindOf_1 (by rw [hsw]; decide) (by rw [hsw]; decide) (by rw [hsw]; decide) (by decide) ?_
    refine v_iconst dX3_kindOf_120 (by decide) ?_
    refine v_ireturn dX3_kindOf_121 rfl ?_
    first | (subst hsw; exact h) | (rw [if_neg (by omega), if_neg (by omega), if_neg (by omega), if_neg (by omega), if_neg (by omega), if_neg (by omega), if_neg (by omega)] at h; exact h)
  · refine v_tableIn (off := 119) (tgt := 120) dX3_kindOf_1 (by rw [hsw]; decide) (by rw [hsw]; decide) (by rw [hsw]; decide) (by decide) ?_
    refine v_iconst dX3_kindOf_120 (by decide) ?_
    refine v_ireturn dX3_kindOf_121 rfl ?_
    first | (subst hsw; exact h) | (rw [if_neg (by omega), if_neg (by omega), if_neg (by omega), if_neg (by omega), if_neg (by omega), if_neg (by omega), if_neg (by omega)] at h; exact h)
  · refine v_tableIn (off := 119) (tgt := 120) dX3_kindOf_1 (by rw [hsw]; decide) (by rw [hsw]; decide) (by rw [hsw]; decide) (by decide) ?_
    refine v_iconst dX3_kindOf_120 (by decide) ?_
    refine v_ireturn dX3_kindOf_121 rfl ?_
    first | (subst hsw; exact h) | (rw [if_neg (by omega), if_neg (by omega), if_neg (by omega), if_neg (by omega), if_neg (by omega), if_neg (by omega), if_neg (by omega)] at h; exact h)
  · refine v_tableIn (off := 119) (tgt := 120) dX3_kindOf_1 (by rw [hsw]; decide) (by rw [hsw]; decide) (by rw [hsw]; decide) (by decide) ?_
    refine v_iconst dX3_kindOf_120 (by decide) ?_
    refine v_ireturn dX3_kindOf_121 rfl ?_
    first | (subst hsw; exact h) | (rw [if_neg (by omega), if_neg (by omega), if_neg (by omega), if_neg (by omega), if_neg (by omega), if_neg (by omega), if_neg (by omega)] at h; exact h)
  · refine v_tableIn (off := 113) (tgt := 114) dX3_kindOf_1 (by rw [hsw]; decide) (by rw [hsw]; decide) (by rw [hsw]; decide) (by decide) ?_
    refine v_bipush dX3_kindOf_114 (by decide) ?_
    refine v_ireturn dX3_kindOf_116 rfl ?_
    first | (subst hsw; exact h) | (rw [if_neg (by omega), if_neg (by omega), if_neg (by omega), if_neg (by omega), if_neg (by omega), if_neg (by omega), if_neg (by omega)] at h; exact h)
theorem c_X3_joint {c : Int} (h : Q (I_ (joN c)) μ) : V_ nX3_joint 0 [I_ c] [] μ Q := by
  unfold joN at h
  refine v_iload_n dX3_joint_0 rfl rfl ?_
  refine v_iconst dX3_joint_1 (by decide) ?_
  refine v_icmp_eq (tgt := 10) dX3_joint_2 (by decide) (fun hc_2 => ?_) (fun hc_2 => ?_)
  · refine v_bipush dX3_joint_10 (by decide) ?_
    refine v_ireturn dX3_joint_12 rfl ?_
    first | (rwa [if_pos (by omega)] at h) | (rwa [if_neg (by omega), if_pos (by omega)] at h) | (rwa [if_neg (by omega), if_neg (by omega)] at h)
  · refine v_iload_n dX3_joint_5 rfl rfl ?_
    refine v_iconst dX3_joint_6 (by decide) ?_
    refine v_icmp_ne (tgt := 13) dX3_joint_7 (by decide) (fun hc_7 => ?_) (fun hc_7 => ?_)
    · refine v_iload_n dX3_joint_13 rfl rfl ?_
      refine v_bipush dX3_joint_14 (by decide) ?_
      refine v_icmp_ne (tgt := 24) dX3_joint_16 (by decide) (fun hc_16 => ?_) (fun hc_16 => ?_)
      · refine v_bipush dX3_joint_24 (by decide) ?_
        refine v_ireturn dX3_joint_26 rfl ?_
        first | (rwa [if_pos (by omega)] at h) | (rwa [if_neg (by omega), if_pos (by omega)] at h) | (rwa [if_neg (by omega), if_neg (by omega)] at h)
      · refine v_bipush dX3_joint_19 (by decide) ?_
        refine v_goto (tgt := 26) dX3_joint_21 (by decide) ?_
        refine v_ireturn dX3_joint_26 rfl ?_
        first | (rwa [if_pos (by omega)] at h) | (rwa [if_neg (by omega), if_pos (by omega)] at h) | (rwa [if_neg (by omega), if_neg (by omega)] at h)
    · refine v_bipush dX3_joint_10 (by decide) ?_
      refine v_ireturn dX3_joint_12 rfl ?_
      first | (rwa [if_pos (by omega)] at h) | (rwa [if_neg (by omega), if_pos (by omega)] at h) | (rwa [if_neg (by omega), if_neg (by omega)] at h)
theorem c_X3_stopC {α : Type} {r0 : Nat × Option α} (hs : stS μ r0) (h : ∀ m : Mem_, frS μ m → stS m ((r0.1, none) : Nat × Option α) → Q U_ m) : V_ nX3_stop 0 [R_ 26] [] μ Q := by
  match r0, hs, h with
  | (j, none), hs, h =>
    have e : μ 26 3 = (j : Int) := hs.2
    exact c_X3_stop1 (by omega) (h μ frS.rf hs)
  | (j, some v), hs, h => exact c_X3_stop0 hs.1 hs.2 (fun m a1 a2 a3 => h m a1 ⟨a2, a3⟩)
end
