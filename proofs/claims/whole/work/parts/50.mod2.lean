/-! the model: figures and numbers -/
section
variable {μ : Mem_} {Q : PV → Mem_ → Prop} {tx : Nat → Int} {n i : Nat} {t : Int}
theorem byt_d (ht : TmC tx n t μ) (i : Nat) : (-128 ≤ (if i < n then tx i else 0) ∧ (if i < n then tx i else 0) ≤ 127) ∧ ((48 ≤ (if i < n then tx i else 0) ∧ (if i < n then tx i else 0) ≤ 57) ↔ dgQ tx n i) := by
  split
  · rename_i q
    have := (ht.2.2.2 i q).2
    exact ⟨by omega, by constructor <;> intro z <;> first | exact ⟨q, z⟩ | exact z.2⟩
  · rename_i q
    exact ⟨by omega, by constructor <;> intro z <;> omega⟩
set_option maxRecDepth 10000 in
theorem c_X8_figure {B : Int} (hB : B < 1000) (ht : TmC tx n t μ) (hi : μ 50 15 = (i : Int)) (hin : i ≤ 121) (h : ∀ m : Mem_, frR μ m → m 50 15 = ((figP tx n (B + 1) i).1 : Int) → (∀ v, (figP tx n (B + 1) i).2 = some v → m 50 16 = v) → Q (I_ (b2i ((figP tx n (B + 1) i).2 ≠ none))) m) : V_ nX8_figure 0 [R_ 50, I_ t, I_ B, U_] [] μ Q := by
  obtain ⟨s1, s2⟩ := byt_d ht i
  have bad : ¬ (dgQ tx n i ∧ tx i - 48 < B + 1) → Q (I_ 0) (mset (mset μ 50 16 ((if i < n then tx i else 0) - 48)) 50 15 ((i : Int) + 0)) := by
    intro q
    unfold figP at h
    rw [if_neg q] at h
    have e : b2i (((i, none) : Nat × Option Int).2 ≠ none) = 0 := b2i_f (by simp)
    rw [e] at h
    refine h _ (fun o k q => by rw [mset_off (by omega), mset_off (by omega)]) (by rw [mset_same]; show _ = (i : Int); omega) (fun v hv => by cases hv)
  have good : (dgQ tx n i ∧ tx i - 48 < B + 1) → Q (I_ 1) (mset (mset μ 50 16 ((if i < n then tx i else 0) - 48)) 50 15 ((i : Int) + 1)) := by
    intro q
    unfold figP at h
    rw [if_pos q] at h
    have e : b2i (((i + 1, some (tx i - 48)) : Nat × Option Int).2 ≠ none) = 1 := b2i_t (by simp)
    rw [e] at h
    refine h _ (fun o k q => by rw [mset_off (by omega), mset_off (by omega)]) (by rw [mset_same]; show _ = ((i + 1 : Nat) : Int); omega) (fun v hv => ?_)
    cases hv
    rw [mset_off (by omega), mset_same, if_pos q.1.1]
  refine v_aload_n dX8_figure_0 rfl rfl ?_
  refine v_aload_n dX8_figure_1 rfl rfl ?_
  refine v_iload_n dX8_figure_2 rfl rfl ?_
  refine v_aload_n dX8_figure_3 rfl rfl ?_
  refine v_getI dX8_figure_4 fX8_140 rfl rfl rfl ?_
  rw [hi]
  refine v_callVi [_, _] dX8_figure_7 lX8_143 kvX8_byteAt (plX8 _ _) (Or.inl rfl) rfl rfl rfl rfl rfl rfl rfl rfl rfl (c_X8_byteAt ht ?_)
  refine v_bipush dX8_figure_10 (by decide) ?_
  refine v_isub dX8_figure_12 (fun ha hb => by omega) ?_
  refine v_putI dX8_figure_13 fpX8_146 rfl rfl rfl ?_
  refine v_aload_n dX8_figure_16 rfl rfl ?_
  refine v_getI dX8_figure_17 fX8_146 rfl rfl rfl ?_
  rw [mset_same]
  refine v_iconst dX8_figure_20 (by decide) ?_
  refine v_bipush dX8_figure_21 (by decide) ?_
  refine v_callSi [_, _, _] dX8_figure_23 lX8_112 ksX8_in (plX8 _ _) (Or.inr rfl) rfl rfl rfl rfl rfl rfl (c_X8_in ?_)
  refine v_ifb_eq (tgt := 41) dX8_figure_26 (by decide) (fun hc_26 => ?_) (fun hc_26 => ?_)
  · refine v_iconst dX8_figure_41 (by decide) ?_
    refine v_istore_n (ls' := [_, _, _, _]) dX8_figure_42 rfl rfl rfl rfl ?_
    refine v_aload_n dX8_figure_43 rfl rfl ?_
    refine v_dupR_ dX8_figure_44 ?_
    refine v_getI dX8_figure_45 fX8_140 rfl rfl rfl ?_
    rw [mset_off (by omega), hi]
    refine v_iload_n dX8_figure_48 rfl rfl ?_
    refine v_if_eq (tgt := 56) dX8_figure_49 (by decide) (fun _ => ?_) (fun q => absurd (by decide) q)
    refine v_iconst dX8_figure_56 (by decide) ?_
    refine v_iadd dX8_figure_57 (fun ha hb => by omega) ?_
    refine v_putI dX8_figure_58 fpX8_140 rfl rfl rfl ?_
    refine v_iload_n dX8_figure_61 rfl rfl ?_
    refine v_zreturn dX8_figure_62 rfl (by first | exact Or.inl rfl | exact Or.inr rfl | exact b2i_01 _ | assumption) ?_
    refine bad (fun q => ?_)
    have := s2.mpr q.1
    omega
  · refine v_aload_n dX8_figure_29 rfl rfl ?_
    refine v_getI dX8_figure_30 fX8_146 rfl rfl rfl ?_
    rw [mset_same]
    refine v_iload_n dX8_figure_33 rfl rfl ?_
    refine v_icmp_gt (tgt := 41) dX8_figure_34 (by decide) (fun hc_34 => ?_) (fun hc_34 => ?_)
    · refine v_iconst dX8_figure_41 (by decide) ?_
      refine v_istore_n (ls' := [_, _, _, _]) dX8_figure_42 rfl rfl rfl rfl ?_
      refine v_aload_n dX8_figure_43 rfl rfl ?_
      refine v_dupR_ dX8_figure_44 ?_
      refine v_getI dX8_figure_45 fX8_140 rfl rfl rfl ?_
      rw [mset_off (by omega), hi]
      refine v_iload_n dX8_figure_48 rfl rfl ?_
      refine v_if_eq (tgt := 56) dX8_figure_49 (by decide) (fun _ => ?_) (fun q => absurd (by decide) q)
      refine v_iconst dX8_figure_56 (by decide) ?_
      refine v_iadd dX8_figure_57 (fun ha hb => by omega) ?_
      refine v_putI dX8_figure_58 fpX8_140 rfl rfl rfl ?_
      refine v_iload_n dX8_figure_61 rfl rfl ?_
      refine v_zreturn dX8_figure_62 rfl (by first | exact Or.inl rfl | exact Or.inr rfl | exact b2i_01 _ | assumption) ?_
      refine bad (fun q => ?_)
      rw [if_pos q.1.1] at hc_34
      omega
    · refine v_iconst dX8_figure_37 (by decide) ?_
      refine v_goto (tgt := 42) dX8_figure_38 (by decide) ?_
      refine v_istore_n (ls' := [_, _, _, _]) dX8_figure_42 rfl rfl rfl rfl ?_
      refine v_aload_n dX8_figure_43 rfl rfl ?_
      refine v_dupR_ dX8_figure_44 ?_
      refine v_getI dX8_figure_45 fX8_140 rfl rfl rfl ?_
      rw [mset_off (by omega), hi]
      refine v_iload_n dX8_figure_48 rfl rfl ?_
      refine v_if_eq (tgt := 56) dX8_figure_49 (by decide) (fun q => absurd q (by decide)) (fun _ => ?_)
      refine v_iconst dX8_figure_52 (by decide) ?_
      refine v_goto (tgt := 57) dX8_figure_53 (by decide) ?_
      refine v_iadd dX8_figure_57 (fun ha hb => by omega) ?_
      refine v_putI dX8_figure_58 fpX8_140 rfl rfl rfl ?_
      refine v_iload_n dX8_figure_61 rfl rfl ?_
      refine v_zreturn dX8_figure_62 rfl (by first | exact Or.inl rfl | exact Or.inr rfl | exact b2i_01 _ | assumption) ?_
      refine good ⟨s2.mp (by omega), ?_⟩
      have q := s2.mp (by omega)
      rw [if_pos q.1] at hc_34
      omega
end
