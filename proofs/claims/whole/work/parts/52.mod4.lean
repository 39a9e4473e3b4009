/-! the model: a house read -/
def DmC (m : Mem_) (s : List Int × List (Int × Int)) : Prop := (m 50 17 = (s.1.length : Int) ∧ s.1.length ≤ 6) ∧ (m 50 18 = (s.2.length : Int) ∧ s.2.length ≤ 12) ∧ (∀ h : Nat, h < s.1.length → m 60 h = s.1.getD h 0) ∧ ∀ p : Nat, p < s.2.length → m 61 p = (s.2.getD p (0, 0)).1 ∧ m 62 p = (s.2.getD p (0, 0)).2
def frM (μ m : Mem_) : Prop := ∀ o k, ¬ (o = 50 ∧ 15 ≤ k ∧ k ≤ 18) → ¬ (60 ≤ o ∧ o ≤ 62) → m o k = μ o k
theorem frR.dm {μ m : Mem_} {s : List Int × List (Int × Int)} (h : frR μ m) (hD : DmC μ s) : DmC m s := by
  unfold DmC
  rw [h 50 17 (by omega), h 50 18 (by omega)]
  exact ⟨hD.1, hD.2.1, fun k hk => by rw [h 60 k (by omega)]; exact hD.2.2.1 k hk, fun p hp => by rw [h 61 p (by omega), h 62 p (by omega)]; exact hD.2.2.2 p hp⟩
theorem frR.M {μ m : Mem_} (h : frR μ m) : frM μ m := fun o k q1 _ => h o k (by omega)
theorem frM.tr {a b c : Mem_} (h1 : frM a b) (h2 : frM b c) : frM a c := fun o k q1 q2 => by rw [h2 o k q1 q2]; exact h1 o k q1 q2
theorem frM.tm {tx : Nat → Int} {n : Nat} {t : Int} {μ m : Mem_} (h : frM μ m) (ht : TmC tx n t μ) : TmC tx n t m := ⟨ht.1, ht.2.1, by rw [h 55 _ (by omega) (by omega)]; exact ht.2.2.1, fun j hj => by rw [h 56 _ (by omega) (by omega)]; exact ht.2.2.2 j hj⟩
theorem DmC_h {m : Mem_} {s : List Int × List (Int × Int)} (hD : DmC m s) (h6 : s.1.length < 6) (c : Int) : DmC (mset (mset m 60 s.1.length c) 50 17 ((s.1.length : Int) + 1)) (s.1 ++ [c], s.2) := by
  obtain ⟨⟨a1, a2⟩, ⟨b1, b2⟩, c1, e1⟩ := hD
  refine ⟨⟨by rw [mset_same]; simp, by simp; omega⟩, ⟨by rw [mset_off (by omega), mset_off (by omega)]; exact b1, b2⟩, fun k hk => ?_, fun p hp => by rw [mset_off (by omega), mset_off (by omega), mset_off (by omega), mset_off (by omega)]; exact e1 p hp⟩
  have hk : k < s.1.length + 1 := by simpa using hk
  show _ = (s.1 ++ [c]).getD k 0
  rw [getD_app _ _ _ _ hk, mset_off (by omega)]
  split
  · rename_i q; rw [mset_off (by omega)]; exact c1 k q
  · rename_i q
    have : k = s.1.length := by omega
    rw [this, mset_same]
/-- where the model has read an item, or has failed -/
def imPost (μ m : Mem_) (s : List Int × List (Int × Int)) (r : Nat × Option (List Int × List (Int × Int))) : Prop := frM μ m ∧ m 50 15 = (r.1 : Int) ∧ DmC m (r.2.getD s)
section
variable {μ : Mem_} {Q : PV → Mem_ → Prop} {tx : Nat → Int} {n i : Nat} {t : Int} {s : List Int × List (Int × Int)}
set_option maxRecDepth 10000 in
theorem c_X8_readsHouse (ht : TmC tx n t μ) (hi : μ 50 15 = (i : Int)) (hin : i < n) (hD : DmC μ s) (hx : tx i = 104) (h : ∀ m : Mem_, imPost μ m s (itS tx n i s) → Q (I_ (b2i ((itS tx n i s).2 ≠ none))) m) : V_ nX8_readsHouse 0 [R_ 50, I_ t, U_] [] μ Q := by
  have d0 := hD.1
  have t1 := ht.1
  by_cases h6 : s.1.length < 6
  · have e : itS tx n i s = andP (numP tx n 100 (i + 1)) (fun c j => (j, some (s.1 ++ [c], s.2))) := by
      unfold itS
      rw [if_pos ⟨hx, h6⟩]
    have f1 : frR μ (mset μ 50 15 ((i : Int) + 1)) := fun o k q => mset_off (by omega)
    rw [e] at h
    refine v_aload_n dX8_readsHouse_0 rfl rfl ?_
    refine v_getI dX8_readsHouse_1 fX8_149 rfl rfl rfl ?_
    refine v_bipush dX8_readsHouse_4 (by decide) ?_
    refine v_icmp_ne (tgt := 11) dX8_readsHouse_6 (by decide) (fun hc_6 => ?_) (fun hc_6 => ?_)
    · refine v_aload_n dX8_readsHouse_11 rfl rfl ?_
      refine v_dupR_ dX8_readsHouse_12 ?_
      refine v_getI dX8_readsHouse_13 fX8_140 rfl rfl rfl ?_
      rw [hi]
      refine v_iconst dX8_readsHouse_16 (by decide) ?_
      refine v_iadd dX8_readsHouse_17 (fun ha hb => by omega) ?_
      refine v_putI dX8_readsHouse_18 fpX8_140 rfl rfl rfl ?_
      refine v_aload_n dX8_readsHouse_21 rfl rfl ?_
      refine v_iload_n dX8_readsHouse_22 rfl rfl ?_
      refine v_bipush dX8_readsHouse_23 (by decide) ?_
      refine v_callVi [_, _] dX8_readsHouse_25 lX8_152 kvX8_number (plX8 _ _) (Or.inr rfl) rfl rfl rfl rfl rfl rfl rfl rfl rfl (c_X8_number (i := i + 1) (by omega) (f1.tm ht) (by rw [mset_same]; omega) (by omega) (fun m a1 a2 a3 => ?_))
      have hD2 := (f1.tr a1).dm hD
      have d1 := hD2.1.1
      rw [show (99 : Int) + 1 = 100 from rfl] at a2 a3 ⊢
      refine v_istore_n (ls' := [_, _, _]) dX8_readsHouse_28 rfl rfl rfl rfl ?_
      refine v_iload_n dX8_readsHouse_29 rfl rfl ?_
      refine v_ifb_eq (tgt := 56) dX8_readsHouse_30 (by decide) (fun hc_30 => ?_) (fun hc_30 => ?_)
      · refine v_iload_n dX8_readsHouse_56 rfl rfl ?_
        refine v_zreturn dX8_readsHouse_57 rfl (by first | exact Or.inl rfl | exact Or.inr rfl | exact b2i_01 _ | assumption) ?_
        have := h m ⟨(f1.tr a1).M, ?_⟩
        · match e2 : numP tx n 100 (i + 1), this, hc_30 with
          | (j, none), this, _ => exact this
          | (j, some c), this, z => exact absurd (by simp) z
        · match e2 : numP tx n 100 (i + 1), a2, hc_30 with
          | (j, none), a2, _ => exact ⟨a2, hD2⟩
          | (j, some c), a2, z => exact absurd (by simp) z
      · refine v_aload_n dX8_readsHouse_33 rfl rfl ?_
        refine v_getR dX8_readsHouse_34 fX8_38 rfl rfl rfl ?_
        refine v_aload_n dX8_readsHouse_37 rfl rfl ?_
        refine v_getI dX8_readsHouse_38 fX8_149 rfl rfl rfl ?_
        rw [d1]
        refine v_aload_n dX8_readsHouse_41 rfl rfl ?_
        refine v_getI dX8_readsHouse_42 fX8_146 rfl rfl rfl ?_
        refine v_iast dX8_readsHouse_45 rfl (by omega) (by omega) ?_
        refine v_aload_n dX8_readsHouse_46 rfl rfl ?_
        refine v_dupR_ dX8_readsHouse_47 ?_
        refine v_getI dX8_readsHouse_48 fX8_149 rfl rfl rfl ?_
        rw [mset_off (by omega), d1]
        refine v_iconst dX8_readsHouse_51 (by decide) ?_
        refine v_iadd dX8_readsHouse_52 (fun ha hb => by omega) ?_
        refine v_putI dX8_readsHouse_53 fpX8_149 rfl rfl rfl ?_
        refine v_iload_n dX8_readsHouse_56 rfl rfl ?_
        refine v_zreturn dX8_readsHouse_57 rfl (by first | exact Or.inl rfl | exact Or.inr rfl | exact b2i_01 _ | assumption) ?_
        skip
        match e2 : numP tx n 100 (i + 1), a2, a3, h, hc_30 with
        | (j, none), a2, a3, h, z => exact absurd rfl z
        | (j, some c), a2, a3, h, _ =>
          have ec : m 50 16 = c := a3 c rfl
          rw [Int.toNat_natCast, ec]
          refine h _ ⟨fun o k q1 q2 => by rw [mset_off (by omega), mset_off (by omega)]; exact (f1.tr a1) o k (by omega), ?_, DmC_h hD2 h6 c⟩
          rw [mset_off (by omega), mset_off (by omega)]
          exact a2
    · omega
  · have e : itS tx n i s = (i, none) := by
      unfold itS
      rw [if_neg (by omega), if_neg (by omega)]
    rw [e] at h
    have g := h μ ⟨fun _ _ _ _ => rfl, hi, hD⟩
    rw [b2i_f (by simp)] at g
    refine v_aload_n dX8_readsHouse_0 rfl rfl ?_
    refine v_getI dX8_readsHouse_1 fX8_149 rfl rfl rfl ?_
    refine v_bipush dX8_readsHouse_4 (by decide) ?_
    refine v_icmp_ne (tgt := 11) dX8_readsHouse_6 (by decide) (fun hc_6 => ?_) (fun hc_6 => ?_)
    · omega
    · refine v_iconst dX8_readsHouse_9 (by decide) ?_
      refine v_zreturn dX8_readsHouse_10 rfl (by first | exact Or.inl rfl | exact Or.inr rfl | exact b2i_01 _ | assumption) ?_
      exact g
end
