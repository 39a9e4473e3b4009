/-! the model: copies of rows; keys come and go -/
section
variable {μ : Mem_} {Q : PV → Mem_ → Prop}
set_option maxRecDepth 10000 in
theorem c_X8_copy {r i to j n : Int} (hk : okR_ μ) (hc : fmOK μ) (h1 : ¬ ((0 ≤ r ∧ r < 6) ∧ (0 ≤ to ∧ to < 6)) → Q (I_ (-1)) μ) (h2 : ((0 ≤ r ∧ r < 6) ∧ (0 ≤ to ∧ to < 6)) → n < 0 → Q (I_ (-3)) (mtC μ 5)) (h3 : ((0 ≤ r ∧ r < 6) ∧ (0 ≤ to ∧ to < 6)) → 0 ≤ n → ¬ (0 ≤ μ 52 r.toNat ∧ 0 ≤ μ 52 to.toNat) → Q (I_ (-3)) (mtC μ 1)) (h4 : ((0 ≤ r ∧ r < 6) ∧ (0 ≤ to ∧ to < 6)) → 0 ≤ n → (0 ≤ μ 52 r.toNat ∧ 0 ≤ μ 52 to.toNat) → ¬ ((0 ≤ i ∧ i ≤ μ 52 r.toNat - n) ∧ (0 ≤ j ∧ j ≤ μ 52 to.toNat - n)) → Q (I_ (-3)) (mtC μ 2)) (h5 : ((0 ≤ r ∧ r < 6) ∧ (0 ≤ to ∧ to < 6)) → 0 ≤ n → (0 ≤ μ 52 r.toNat ∧ 0 ≤ μ 52 to.toNat) → ((0 ≤ i ∧ i ≤ μ 52 r.toNat - n) ∧ (0 ≤ j ∧ j ≤ μ 52 to.toNat - n)) → ∀ m : Mem_, (∀ o x, o ≠ 53 → o ≠ 54 → m o x = μ o x) → (∀ x, m 53 x = mcopy μ 53 (40 * r + i).toNat (40 * to + j).toNat n.toNat 53 x) → Q (I_ 1) m) : V_ nX8_copy 0 [R_ 50, I_ r, I_ i, I_ to, I_ j, I_ n, U_] [] μ Q := by
  have hk2 : ∀ r : Int, (0 ≤ r ∧ r < 6) → μ 52 r.toNat ≤ 40 ∧ -1 ≤ μ 52 r.toNat := fun r q => ⟨(hk r.toNat (by omega)).2, (hk r.toNat (by omega)).1⟩
  have lp2 : ((0 ≤ r ∧ r < 6) ∧ (0 ≤ to ∧ to < 6)) → 0 ≤ n → (0 ≤ μ 52 r.toNat ∧ 0 ≤ μ 52 to.toNat) → ((0 ≤ i ∧ i ≤ μ 52 r.toNat - n) ∧ (0 ≤ j ∧ j ≤ μ 52 to.toNat - n)) → ∀ k : Int, 0 ≤ k → k ≤ n → ∀ m : Mem_, (∀ o x, o ≠ 53 → o ≠ 54 → m o x = μ o x) → (∀ x : Nat, (x : Int) < n → m 54 x = μ 53 (40 * r + i + x).toNat) → (∀ x, m 53 x = mcopy μ 53 (40 * r + i).toNat (40 * to + j).toNat k.toNat 53 x) → V_ nX8_copy 136 [R_ 50, I_ r, I_ i, I_ to, I_ j, I_ n, I_ k] [] m Q := by
    intro q1 q2 q3 q4
    have b1 := hk2 r q1.1
    have b2 := hk2 to q1.2
    refine loop_up _ (fun k h0 h1 ih => ?_)
    intro m m1 m2 m3
    refine v_iload dX8_copy_136 rfl ?_
    refine v_iload dX8_copy_138 rfl ?_
    refine v_icmp_ge (tgt := 171) dX8_copy_140 (by decide) (fun hc_140 => ?_) (fun hc_140 => ?_)
    · refine v_iconst dX8_copy_171 (by decide) ?_
      refine v_ireturn dX8_copy_172 rfl ?_
      rw [show k = n by omega] at m3
      exact h5 q1 q2 q3 q4 m m1 m3
    · refine v_aload_n dX8_copy_143 rfl rfl ?_
      refine v_getR dX8_copy_144 fX8_16 rfl rfl rfl ?_
      refine v_bipush dX8_copy_147 (by decide) ?_
      refine v_iload_n dX8_copy_149 rfl rfl ?_
      refine v_imul dX8_copy_150 (fun ha hb => by omega) ?_
      refine v_iload dX8_copy_151 rfl ?_
      refine v_iadd dX8_copy_153 (fun ha hb => by omega) ?_
      refine v_iload dX8_copy_154 rfl ?_
      refine v_iadd dX8_copy_156 (fun ha hb => by omega) ?_
      refine v_aload_n dX8_copy_157 rfl rfl ?_
      refine v_getR dX8_copy_158 fX8_19 rfl rfl rfl ?_
      refine v_iload dX8_copy_161 rfl ?_
      refine v_iald dX8_copy_163 rfl (by omega) (by omega) ?_
      refine v_iast dX8_copy_164 rfl (by omega) (by omega) ?_
      refine v_iinc (ls' := [_, _, _, _, _, _, _]) dX8_copy_165 rfl (fun hi_165 => by omega) rfl rfl ?_
      refine v_goto (tgt := 136) dX8_copy_168 (by decide) ?_
      refine ih (by omega) _ (fun o x a b => by rw [mset_off (by omega)]; exact m1 o x a b) (fun x hx => by rw [mset_off (by omega)]; exact m2 x hx) (fun x => ?_)
      by_cases hx : x = (40 * to + j + k).toNat
      · subst hx
        rw [mset_same, m2 _ (by omega)]
        unfold mcopy
        rw [if_pos (by omega)]
        congr 1
        omega
      · rw [mset_off (by omega), m3]
        unfold mcopy
        by_cases h9 : (40 * to + j).toNat ≤ x ∧ x < (40 * to + j).toNat + k.toNat
        · rw [if_pos ⟨rfl, h9⟩, if_pos (by omega)]
        · rw [if_neg (by omega), if_neg (by omega)]
  have lp1 : ((0 ≤ r ∧ r < 6) ∧ (0 ≤ to ∧ to < 6)) → 0 ≤ n → (0 ≤ μ 52 r.toNat ∧ 0 ≤ μ 52 to.toNat) → ((0 ≤ i ∧ i ≤ μ 52 r.toNat - n) ∧ (0 ≤ j ∧ j ≤ μ 52 to.toNat - n)) → ∀ k : Int, 0 ≤ k → k ≤ n → ∀ m : Mem_, (∀ o x, o ≠ 54 → m o x = μ o x) → (∀ x : Nat, (x : Int) < k → m 54 x = μ 53 (40 * r + i + x).toNat) → V_ nX8_copy 104 [R_ 50, I_ r, I_ i, I_ to, I_ j, I_ n, I_ k] [] m Q := by
    intro q1 q2 q3 q4
    have b1 := hk2 r q1.1
    have b2 := hk2 to q1.2
    refine loop_up _ (fun k h0 h1 ih => ?_)
    intro m m1 m2
    refine v_iload dX8_copy_104 rfl ?_
    refine v_iload dX8_copy_106 rfl ?_
    refine v_icmp_ge (tgt := 133) dX8_copy_108 (by decide) (fun hc_108 => ?_) (fun hc_108 => ?_)
    · refine v_iconst dX8_copy_133 (by decide) ?_
      refine v_istore (ls' := [_, _, _, _, _, _, _]) dX8_copy_134 rfl rfl rfl ?_
      exact lp2 q1 q2 q3 q4 0 (by omega) (by omega) m (fun o x _ b => m1 o x b) (fun x hx => m2 x (by omega)) (fun x => by rw [m1 53 _ (by omega)]; unfold mcopy; rw [if_neg (by omega)])
    · refine v_aload_n dX8_copy_111 rfl rfl ?_
      refine v_getR dX8_copy_112 fX8_19 rfl rfl rfl ?_
      refine v_iload dX8_copy_115 rfl ?_
      refine v_aload_n dX8_copy_117 rfl rfl ?_
      refine v_iload_n dX8_copy_118 rfl rfl ?_
      refine v_iload_n dX8_copy_119 rfl rfl ?_
      refine v_iload dX8_copy_120 rfl ?_
      refine v_iadd dX8_copy_122 (fun ha hb => by omega) ?_
      refine v_callVi [_, _] dX8_copy_123 lX8_130 kvX8_rowAt (plX8 _ _) (Or.inl rfl) rfl rfl rfl rfl rfl rfl rfl rfl rfl (c_X8_rowAt (by omega) (by omega) ?_)
      refine v_iast dX8_copy_126 rfl (by omega) (by omega) ?_
      refine v_iinc (ls' := [_, _, _, _, _, _, _]) dX8_copy_127 rfl (fun hi_127 => by omega) rfl rfl ?_
      refine v_goto (tgt := 104) dX8_copy_130 (by decide) ?_
      refine ih (by omega) _ (fun o x a => by rw [mset_off (by omega)]; exact m1 o x a) (fun x hx => ?_)
      by_cases h9 : x = k.toNat
      · subst h9
        rw [mset_same, m1 53 _ (by omega)]
        congr 1
        omega
      · rw [mset_off (by omega)]
        exact m2 x (by omega)
  refine v_loc (fun hl => ?_)
  have ri : inR i := hl (I_ i) (by simp)
  have rj : inR j := hl (I_ j) (by simp)
  have rn : inR n := hl (I_ n) (by simp)
  have e1 := w64_id (a := i + n) (by omega)
  have e2 := w64_id (a := j + n) (by omega)
  have hcm : ∀ a b : Int, (cmpI a b ≤ 0 ↔ a ≤ b) := by
    intro a b
    unfold cmpI
    split
    · omega
    · split <;> omega
  refine v_iload_n dX8_copy_0 rfl rfl ?_
  refine v_callSi [_] dX8_copy_1 lX8_122 ksX8_isRow (plX8 _ _) (Or.inr rfl) rfl rfl rfl rfl rfl rfl (c_X8_isRow ?_)
  refine v_ifb_eq (tgt := 14) dX8_copy_4 (by decide) (fun hc_4 => ?_) (fun hc_4 => ?_)
  · refine v_iconst dX8_copy_14 (by decide) ?_
    refine v_ireturn dX8_copy_15 rfl ?_
    first | exact h1 (by omega) | exact h2 (by omega) (by omega) | exact h3 (by omega) (by omega) (by omega) | exact h4 (by omega) (by omega) (by omega) (by omega) | exact h4 (by omega) (by omega) (by omega) (by have := hcm (w64 (i + n)) (μ 52 r.toNat); have := hcm (w64 (j + n)) (μ 52 to.toNat); omega)
  · refine v_iload_n dX8_copy_7 rfl rfl ?_
    refine v_callSi [_] dX8_copy_8 lX8_122 ksX8_isRow (plX8 _ _) (Or.inr rfl) rfl rfl rfl rfl rfl rfl (c_X8_isRow ?_)
    refine v_ifb_ne (tgt := 16) dX8_copy_11 (by decide) (fun hc_11 => ?_) (fun hc_11 => ?_)
    · refine v_iload dX8_copy_16 rfl ?_
      refine v_if_ge (tgt := 27) dX8_copy_18 (by decide) (fun hc_18 => ?_) (fun hc_18 => ?_)
      · refine v_aload_n dX8_copy_27 rfl rfl ?_
        refine v_getR dX8_copy_28 fX8_13 rfl rfl rfl ?_
        refine v_iload_n dX8_copy_31 rfl rfl ?_
        refine v_iald dX8_copy_32 rfl (by omega) (by omega) ?_
        refine v_if_lt (tgt := 45) dX8_copy_33 (by decide) (fun hc_33 => ?_) (fun hc_33 => ?_)
        · refine v_aload_n dX8_copy_45 rfl rfl ?_
          refine v_iconst dX8_copy_46 (by decide) ?_
          refine v_callVi [_] dX8_copy_47 lX8_126 kvX8_meets (plX8 _ _) (Or.inl rfl) rfl rfl rfl rfl rfl rfl rfl rfl rfl (c_X8_meets (g := 1) rfl (by decide) hc ?_)
          refine v_ireturn dX8_copy_50 rfl ?_
          first | exact h1 (by omega) | exact h2 (by omega) (by omega) | exact h3 (by omega) (by omega) (by omega) | exact h4 (by omega) (by omega) (by omega) (by omega) | exact h4 (by omega) (by omega) (by omega) (by have := hcm (w64 (i + n)) (μ 52 r.toNat); have := hcm (w64 (j + n)) (μ 52 to.toNat); omega)
        · refine v_aload_n dX8_copy_36 rfl rfl ?_
          refine v_getR dX8_copy_37 fX8_13 rfl rfl rfl ?_
          refine v_iload_n dX8_copy_40 rfl rfl ?_
          refine v_iald dX8_copy_41 rfl (by omega) (by omega) ?_
          refine v_if_ge (tgt := 51) dX8_copy_42 (by decide) (fun hc_42 => ?_) (fun hc_42 => ?_)
          · refine v_iload_n dX8_copy_51 rfl rfl ?_
            refine v_if_lt (tgt := 95) dX8_copy_52 (by decide) (fun hc_52 => ?_) (fun hc_52 => ?_)
            · refine v_aload_n dX8_copy_95 rfl rfl ?_
              refine v_iconst dX8_copy_96 (by decide) ?_
              refine v_callVi [_] dX8_copy_97 lX8_126 kvX8_meets (plX8 _ _) (Or.inl rfl) rfl rfl rfl rfl rfl rfl rfl rfl rfl (c_X8_meets (g := 2) rfl (by decide) hc ?_)
              refine v_ireturn dX8_copy_100 rfl ?_
              first | exact h1 (by omega) | exact h2 (by omega) (by omega) | exact h3 (by omega) (by omega) (by omega) | exact h4 (by omega) (by omega) (by omega) (by omega) | exact h4 (by omega) (by omega) (by omega) (by have := hcm (w64 (i + n)) (μ 52 r.toNat); have := hcm (w64 (j + n)) (μ 52 to.toNat); omega)
            · refine v_iload dX8_copy_55 rfl ?_
              refine v_if_lt (tgt := 95) dX8_copy_57 (by decide) (fun hc_57 => ?_) (fun hc_57 => ?_)
              · refine v_aload_n dX8_copy_95 rfl rfl ?_
                refine v_iconst dX8_copy_96 (by decide) ?_
                refine v_callVi [_] dX8_copy_97 lX8_126 kvX8_meets (plX8 _ _) (Or.inl rfl) rfl rfl rfl rfl rfl rfl rfl rfl rfl (c_X8_meets (g := 2) rfl (by decide) hc ?_)
                refine v_ireturn dX8_copy_100 rfl ?_
                first | exact h1 (by omega) | exact h2 (by omega) (by omega) | exact h3 (by omega) (by omega) (by omega) | exact h4 (by omega) (by omega) (by omega) (by omega) | exact h4 (by omega) (by omega) (by omega) (by have := hcm (w64 (i + n)) (μ 52 r.toNat); have := hcm (w64 (j + n)) (μ 52 to.toNat); omega)
              · refine v_iload_n dX8_copy_60 rfl rfl ?_
                refine v_i2l dX8_copy_61 ?_
                refine v_iload dX8_copy_62 rfl ?_
                refine v_i2l dX8_copy_64 ?_
                refine v_ladd dX8_copy_65 ?_
                refine v_aload_n dX8_copy_66 rfl rfl ?_
                refine v_getR dX8_copy_67 fX8_13 rfl rfl rfl ?_
                refine v_iload_n dX8_copy_70 rfl rfl ?_
                refine v_iald dX8_copy_71 rfl (by omega) (by omega) ?_
                refine v_i2l dX8_copy_72 ?_
                refine v_lcmp dX8_copy_73 ?_
                refine v_if_gt (tgt := 95) dX8_copy_74 (by decide) (fun hc_74 => ?_) (fun hc_74 => ?_)
                · refine v_aload_n dX8_copy_95 rfl rfl ?_
                  refine v_iconst dX8_copy_96 (by decide) ?_
                  refine v_callVi [_] dX8_copy_97 lX8_126 kvX8_meets (plX8 _ _) (Or.inl rfl) rfl rfl rfl rfl rfl rfl rfl rfl rfl (c_X8_meets (g := 2) rfl (by decide) hc ?_)
                  refine v_ireturn dX8_copy_100 rfl ?_
                  first | exact h1 (by omega) | exact h2 (by omega) (by omega) | exact h3 (by omega) (by omega) (by omega) | exact h4 (by omega) (by omega) (by omega) (by omega) | exact h4 (by omega) (by omega) (by omega) (by have := hcm (w64 (i + n)) (μ 52 r.toNat); have := hcm (w64 (j + n)) (μ 52 to.toNat); omega)
                · refine v_iload dX8_copy_77 rfl ?_
                  refine v_i2l dX8_copy_79 ?_
                  refine v_iload dX8_copy_80 rfl ?_
                  refine v_i2l dX8_copy_82 ?_
                  refine v_ladd dX8_copy_83 ?_
                  refine v_aload_n dX8_copy_84 rfl rfl ?_
                  refine v_getR dX8_copy_85 fX8_13 rfl rfl rfl ?_
                  refine v_iload_n dX8_copy_88 rfl rfl ?_
                  refine v_iald dX8_copy_89 rfl (by omega) (by omega) ?_
                  refine v_i2l dX8_copy_90 ?_
                  refine v_lcmp dX8_copy_91 ?_
                  refine v_if_le (tgt := 101) dX8_copy_92 (by decide) (fun hc_92 => ?_) (fun hc_92 => ?_)
                  · refine v_iconst dX8_copy_101 (by decide) ?_
                    refine v_istore (ls' := [_, _, _, _, _, _, _]) dX8_copy_102 rfl rfl rfl ?_
                    exact lp1 (by omega) (by omega) (by omega) (by have := hcm (w64 (i + n)) (μ 52 r.toNat); have := hcm (w64 (j + n)) (μ 52 to.toNat); omega) 0 (by omega) (by omega) μ (fun _ _ _ => rfl) (fun x hx => by omega)
                  · refine v_aload_n dX8_copy_95 rfl rfl ?_
                    refine v_iconst dX8_copy_96 (by decide) ?_
                    refine v_callVi [_] dX8_copy_97 lX8_126 kvX8_meets (plX8 _ _) (Or.inl rfl) rfl rfl rfl rfl rfl rfl rfl rfl rfl (c_X8_meets (g := 2) rfl (by decide) hc ?_)
                    refine v_ireturn dX8_copy_100 rfl ?_
                    first | exact h1 (by omega) | exact h2 (by omega) (by omega) | exact h3 (by omega) (by omega) (by omega) | exact h4 (by omega) (by omega) (by omega) (by omega) | exact h4 (by omega) (by omega) (by omega) (by have := hcm (w64 (i + n)) (μ 52 r.toNat); have := hcm (w64 (j + n)) (μ 52 to.toNat); omega)
          · refine v_aload_n dX8_copy_45 rfl rfl ?_
            refine v_iconst dX8_copy_46 (by decide) ?_
            refine v_callVi [_] dX8_copy_47 lX8_126 kvX8_meets (plX8 _ _) (Or.inl rfl) rfl rfl rfl rfl rfl rfl rfl rfl rfl (c_X8_meets (g := 1) rfl (by decide) hc ?_)
            refine v_ireturn dX8_copy_50 rfl ?_
            first | exact h1 (by omega) | exact h2 (by omega) (by omega) | exact h3 (by omega) (by omega) (by omega) | exact h4 (by omega) (by omega) (by omega) (by omega) | exact h4 (by omega) (by omega) (by omega) (by have := hcm (w64 (i + n)) (μ 52 r.toNat); have := hcm (w64 (j + n)) (μ 52 to.toNat); omega)
      · refine v_aload_n dX8_copy_21 rfl rfl ?_
        refine v_iconst dX8_copy_22 (by decide) ?_
        refine v_callVi [_] dX8_copy_23 lX8_126 kvX8_meets (plX8 _ _) (Or.inl rfl) rfl rfl rfl rfl rfl rfl rfl rfl rfl (c_X8_meets (g := 5) rfl (by decide) hc ?_)
        refine v_ireturn dX8_copy_26 rfl ?_
        first | exact h1 (by omega) | exact h2 (by omega) (by omega) | exact h3 (by omega) (by omega) (by omega) | exact h4 (by omega) (by omega) (by omega) (by omega) | exact h4 (by omega) (by omega) (by omega) (by have := hcm (w64 (i + n)) (μ 52 r.toNat); have := hcm (w64 (j + n)) (μ 52 to.toNat); omega)
    · refine v_iconst dX8_copy_14 (by decide) ?_
      refine v_ireturn dX8_copy_15 rfl ?_
      first | exact h1 (by omega) | exact h2 (by omega) (by omega) | exact h3 (by omega) (by omega) (by omega) | exact h4 (by omega) (by omega) (by omega) (by omega) | exact h4 (by omega) (by omega) (by omega) (by have := hcm (w64 (i + n)) (μ 52 r.toNat); have := hcm (w64 (j + n)) (μ 52 to.toNat); omega)
end
