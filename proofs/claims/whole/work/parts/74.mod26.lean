/-! the model over the class: a lost ring -/
section
variable {μ w : Mem_} {Q : PV → Mem_ → Prop}
theorem CP_rows {m : Mem_} (h : CP μ w) (hf : ∀ o k, o ≠ 52 → o ≠ 53 → m o k = μ o k) : CP m w := CP_fr h (fun k _ => hf 50 k (by omega) (by omega)) (fun o k q => hf o k (by omega) (by omega))
def csF (w : Mem_) (op : Nat) (h : Nat) : Int := if op.testBit h = true then w (stc w + 1) h else 0
def lmM (μ : Mem_) (r : Int) (m : Mem_) : Prop := (∀ o k, o ≠ 52 → o ≠ 53 → m o k = μ o k) ∧ (∀ k, k ≠ r.toNat → m 52 k = μ 52 k) ∧ (∀ k : Nat, ¬ ((40 * r).toNat ≤ k ∧ k < (40 * r).toNat + 40) → m 53 k = μ 53 k)
set_option maxRecDepth 10000 in
theorem c_X8_lost {p r : Int} (hw : CW w) (hc : CP μ w) (h1 : ¬ ((0 ≤ p ∧ p < w (stc w) 1) ∧ (0 ≤ r ∧ r < 6)) → Q (I_ (-1)) μ)
    (h2 : (0 ≤ p ∧ p < w (stc w) 1) → (0 ≤ r ∧ r < 6) → ∀ m : Mem_, lmM μ r m → m 52 r.toNat = (cntB 32 (opensC w 0 p) : Int) → (∀ h : Nat, h < (w (stc w) 0).toNat → (opensC w 0 p).testBit h = true → m 53 ((40 * r).toNat + (rnC w (opensC w 0 p) h).toNat) = (h : Int)) → Q (I_ (cntB 32 (opensC w 0 p) : Int)) (mtT m (smR (w (stc w) 0).toNat (csF w (opensC w 0 p))))) : V_ nX8_lost 0 [R_ 50, I_ p, I_ r, U_, U_, U_, U_, U_] [] μ Q := by
  have c1 := hc.1.1
  have s1 := hw.1.2.1
  have s2 := hw.1.2.2.1
  have hp := hw.P
  have hop : opensC w 0 p < 2 ^ (w (stc w) 0).toNat := orR_lt (fun k hk => by
    have := hw.2.1.1.2 k (by omega)
    unfold opF
    split
    · exact Nat.pow_lt_pow_right (by omega) (by omega)
    · exact Nat.two_pow_pos _)
  have hle : 2 ^ (w (stc w) 0).toNat ≤ 2 ^ 6 := Nat.pow_le_pow_right (by omega) (by omega)
  have obit : 0 ≤ p → ∀ g : Nat, ((opensC w 0 p).testBit g = true ↔ ¬ orR (w 17 0).toNat (hkF w p) &&& orR (w 17 0).toNat (lkF w g) = 0) := by
    intro hp0 g
    rw [opens_bit, and_0]
    constructor
    · rintro ⟨k, k1, k2, k3, k4, k5⟩ hn
      have := hp.2 k (by omega)
      exact hn k ⟨(orP_bit (P := fun k => w 20 k = 0 ∧ w 21 k = p)).2 ⟨k1, k2, by omega⟩, (orP_bit (P := fun k => w 18 k = (g : Int) ∧ liveC w k)).2 ⟨k1, by omega, k4⟩⟩
    · intro hn
      refine Classical.byContradiction (fun hq => hn (fun k hk => hq ?_))
      have a1 := (orP_bit (P := fun k => w 20 k = 0 ∧ w 21 k = p)).1 hk.1
      have a2 := (orP_bit (P := fun k => w 18 k = (g : Int) ∧ liveC w k)).1 hk.2
      exact ⟨k, a1.1, a1.2.1, Or.inr a1.2.2, a2.2.2, by omega⟩
  generalize hopd : opensC w 0 p = op at *
  have lc := cntB_le 32 op
  have hcn : cntB 32 op ≤ 6 := by
    have h5 := cntB_sm (n := 6) (m := 32) (s := op) (by omega) (by omega)
    have := (smb (n := 6) (f := fun k => b2i (op.testBit k = true)) (fun k => b2i_01 _)).2
    omega
  have lp3 : (0 ≤ p ∧ p < w (stc w) 1) → (0 ≤ r ∧ r < 6) → ∀ h : Int, 0 ≤ h → h ≤ w (stc w) 0 → ∀ (m : Mem_) (a : Int), lmM μ r m → m 52 r.toNat = (cntB 32 op : Int) → (∀ g : Nat, (g : Int) < h → op.testBit g = true → m 53 ((40 * r).toNat + (rnC w op g).toNat) = (g : Int)) → a = smR h.toNat (csF w op) → 0 ≤ a ∧ a ≤ 99 * h → V_ nX8_lost 109 [R_ 50, I_ p, I_ r, I_ (op : Int), I_ a, I_ h, U_, U_] [] m Q := by
    intro hpp hrr
    refine loop_up _ (fun h h0 h1 ih => ?_)
    intro m a m1 m2 m3 ha hab
    have hcm : CP m w := CP_rows hc m1.1
    have cm1 := hcm.1.1
    have eh : ((h.toNat : Nat) : Int) = h := by omega
    have hco : h < w (stc w) 0 → _ := fun q : h < w (stc w) 0 => hcm.1.2.1 h.toNat (by omega)
    have hst : h < w (stc w) 0 → _ := fun q : h < w (stc w) 0 => hw.1.2.2.2.1 h.toNat (by omega)
    have inner : h < w (stc w) 0 → op.testBit h.toNat = true → ∀ k : Int, 0 ≤ k → k ≤ w (stc w) 0 → ∀ b : Int, b = smR k.toNat (fun k => b2i (op.testBit k = true ∧ k ≠ h.toNat ∧ ahC w k h.toNat)) → V_ nX8_lost 133 [R_ 50, I_ p, I_ r, I_ (op : Int), I_ a, I_ h, I_ b, I_ k] [] m Q := by
      intro hlt hbit
      refine loop_up _ (fun k k0 k1 ihk => ?_)
      intro b hb
      have hbb := smb (n := k.toNat) (f := fun k => b2i (op.testBit k = true ∧ k ≠ h.toNat ∧ ahC w k h.toNat)) (fun k => b2i_01 _)
      have hrl := rn_lt (w := w) (op := op) (h := h.toNat) (by omega) hbit hop (by omega)
      have er : k = w (stc w) 0 → b = rnC w op h.toNat := fun q => by rw [hb, q]; rfl
      refine v_iload dX8_lost_133 rfl ?_
      refine v_aload_n dX8_lost_135 rfl rfl ?_
      refine v_getI dX8_lost_136 fX8_180 rfl rfl rfl ?_
      refine v_icmp_ge (tgt := 185) dX8_lost_139 (by decide) (fun hc_139 => ?_) (fun hc_139 => ?_)
      · refine v_aload_n dX8_lost_185 rfl rfl ?_
        refine v_getR dX8_lost_186 fX8_16 rfl rfl rfl ?_
        refine v_bipush dX8_lost_189 (by decide) ?_
        refine v_iload_n dX8_lost_191 rfl rfl ?_
        refine v_imul dX8_lost_192 (fun ha hb => by omega) ?_
        refine v_iload dX8_lost_193 rfl ?_
        refine v_iadd dX8_lost_195 (fun ha hb => by omega) ?_
        refine v_iload dX8_lost_196 rfl ?_
        refine v_iast dX8_lost_198 rfl (by have := er (by omega); omega) (by have := er (by omega); omega) ?_
        refine v_iload dX8_lost_199 rfl ?_
        refine v_aload_n dX8_lost_201 rfl rfl ?_
        refine v_getR dX8_lost_202 fX8_29 rfl rfl rfl ?_
        refine v_iload dX8_lost_205 rfl ?_
        refine v_iald dX8_lost_207 rfl (by omega) (by omega) ?_
        rw [mset_off (by omega), hco hlt]
        refine v_iadd dX8_lost_208 (fun ha hb => by have := hst hlt; omega) ?_
        refine v_istore (ls' := [_, _, _, _, _, _, _, _]) dX8_lost_209 rfl rfl rfl ?_
        refine v_iinc (ls' := [_, _, _, _, _, _, _, _]) dX8_lost_211 rfl (fun hi_211 => by omega) rfl rfl ?_
        refine v_goto (tgt := 109) dX8_lost_214 (by decide) ?_
        refine v_kill (ls' := [_, _, _, _, _, _, _, _]) 6 rfl ?_
        refine v_kill (ls' := [_, _, _, _, _, _, _, _]) 7 rfl ?_
        have hst := hst hlt
        have er := er (by omega)
        have rz := rn_0 (w := w) (op := op) (h := h.toNat)
        have el : (40 * r + b).toNat = (40 * r).toNat + (rnC w op h.toNat).toNat := by omega
        rw [el]
        refine ih hlt _ _ ⟨fun o k q q2 => by rw [mset_off (by omega)]; exact m1.1 o k q q2, fun k q => by rw [mset_off (by omega)]; exact m1.2.1 k q, fun k q => by rw [mset_off (by omega)]; exact m1.2.2 k q⟩ (by rw [mset_off (by omega)]; exact m2) (fun g hg hb2 => ?_) ?_ (by omega)
        · by_cases eg : g = h.toNat
          · subst eg; rw [mset_same]; omega
          · have rz2 := rn_0 (w := w) (op := op) (h := g)
            rw [mset_off (fun q => eg (rn_inj (w := w) (op := op) (by omega) (by omega) hb2 hbit (by omega)))]
            exact m3 g (by omega) hb2
        · rw [show (h + 1).toNat = h.toNat + 1 by omega, smR, ← ha, show csF w op h.toNat = w (stc w + 1) h.toNat from if_pos hbit]
      · refine v_iload dX8_lost_142 rfl ?_
        refine v_iload_n dX8_lost_144 rfl rfl ?_
        refine v_iload dX8_lost_145 rfl ?_
        refine v_callSi [_, _] dX8_lost_147 lX8_252 ksX8_has (plX8 _ _) (Or.inr rfl) rfl rfl rfl rfl rfl rfl (c_X8_has (by omega) (by omega) (by omega) ?_)
        refine v_ifb_eq (tgt := 175) dX8_lost_150 (by decide) (fun hc_150 => ?_) (fun hc_150 => ?_)
        · refine v_iconst dX8_lost_175 (by decide) ?_
          refine v_iadd dX8_lost_176 (fun ha hb => by omega) ?_
          refine v_istore (ls' := [_, _, _, _, _, _, _, _]) dX8_lost_177 rfl rfl rfl ?_
          refine v_iinc (ls' := [_, _, _, _, _, _, _, _]) dX8_lost_179 rfl (fun hi_179 => by omega) rfl rfl ?_
          refine v_goto (tgt := 133) dX8_lost_182 (by decide) ?_
          first
            | exact ihk (by omega) _ (smS k0 hb (b2i_t ⟨by simpa using hc_150, by omega, hc_168⟩))
            | exact ihk (by omega) _ (smS k0 hb (b2i_f (fun q => by first | exact hc_168 q.2.2 | omega | exact hc_150 (by simpa using q.1))))
        · refine v_iload dX8_lost_153 rfl ?_
          refine v_iload dX8_lost_155 rfl ?_
          refine v_icmp_eq (tgt := 175) dX8_lost_157 (by decide) (fun hc_157 => ?_) (fun hc_157 => ?_)
          · refine v_iconst dX8_lost_175 (by decide) ?_
            refine v_iadd dX8_lost_176 (fun ha hb => by omega) ?_
            refine v_istore (ls' := [_, _, _, _, _, _, _, _]) dX8_lost_177 rfl rfl rfl ?_
            refine v_iinc (ls' := [_, _, _, _, _, _, _, _]) dX8_lost_179 rfl (fun hi_179 => by omega) rfl rfl ?_
            refine v_goto (tgt := 133) dX8_lost_182 (by decide) ?_
            first
              | exact ihk (by omega) _ (smS k0 hb (b2i_t ⟨by simpa using hc_150, by omega, hc_168⟩))
              | exact ihk (by omega) _ (smS k0 hb (b2i_f (fun q => by first | exact hc_168 q.2.2 | omega | exact hc_150 (by simpa using q.1))))
          · refine v_aload_n dX8_lost_160 rfl rfl ?_
            refine v_iload dX8_lost_161 rfl ?_
            refine v_iload dX8_lost_163 rfl ?_
            refine v_callVi [_, _] dX8_lost_165 lX8_329 kvX8_isAhead (plX8 _ _) (Or.inr rfl) rfl rfl rfl rfl rfl rfl rfl rfl rfl (c_X8_isAhead hw hcm (by omega) (by omega) ?_)
            refine v_ifb_eq (tgt := 175) dX8_lost_168 (by decide) (fun hc_168 => ?_) (fun hc_168 => ?_)
            · refine v_iconst dX8_lost_175 (by decide) ?_
              refine v_iadd dX8_lost_176 (fun ha hb => by omega) ?_
              refine v_istore (ls' := [_, _, _, _, _, _, _, _]) dX8_lost_177 rfl rfl rfl ?_
              refine v_iinc (ls' := [_, _, _, _, _, _, _, _]) dX8_lost_179 rfl (fun hi_179 => by omega) rfl rfl ?_
              refine v_goto (tgt := 133) dX8_lost_182 (by decide) ?_
              first
                | exact ihk (by omega) _ (smS k0 hb (b2i_t ⟨by simpa using hc_150, by omega, hc_168⟩))
                | exact ihk (by omega) _ (smS k0 hb (b2i_f (fun q => by first | exact hc_168 q.2.2 | omega | exact hc_150 (by simpa using q.1))))
            · refine v_iconst dX8_lost_171 (by decide) ?_
              refine v_goto (tgt := 176) dX8_lost_172 (by decide) ?_
              refine v_iadd dX8_lost_176 (fun ha hb => by omega) ?_
              refine v_istore (ls' := [_, _, _, _, _, _, _, _]) dX8_lost_177 rfl rfl rfl ?_
              refine v_iinc (ls' := [_, _, _, _, _, _, _, _]) dX8_lost_179 rfl (fun hi_179 => by omega) rfl rfl ?_
              refine v_goto (tgt := 133) dX8_lost_182 (by decide) ?_
              first
                | exact ihk (by omega) _ (smS k0 hb (b2i_t ⟨by simpa using hc_150, by omega, hc_168⟩))
                | exact ihk (by omega) _ (smS k0 hb (b2i_f (fun q => by first | exact hc_168 q.2.2 | omega | exact hc_150 (by simpa using q.1))))
    refine v_iload dX8_lost_109 rfl ?_
    refine v_aload_n dX8_lost_111 rfl rfl ?_
    refine v_getI dX8_lost_112 fX8_180 rfl rfl rfl ?_
    refine v_icmp_ge (tgt := 217) dX8_lost_115 (by decide) (fun hc_115 => ?_) (fun hc_115 => ?_)
    · refine v_aload_n dX8_lost_217 rfl rfl ?_
      refine v_iload dX8_lost_218 rfl ?_
      refine v_iload_n dX8_lost_220 rfl rfl ?_
      refine v_callSi [_] dX8_lost_221 lX8_268 ksX8_bits (plX8 _ _) (Or.inl rfl) rfl rfl rfl rfl rfl rfl (c_X8_bits (by omega) ?_)
      refine v_callVi [_, _] dX8_lost_224 lX8_134 kvX8_tells (plX8 _ _) (Or.inl rfl) rfl rfl rfl rfl rfl rfl rfl rfl rfl (c_X8_tells ?_)
      refine v_ireturn dX8_lost_227 rfl ?_
      rw [ha, show h.toNat = (w (stc w) 0).toNat by omega]
      exact h2 hpp hrr m m1 m2 (fun g hg hb2 => m3 g (by omega) hb2)
    · refine v_iload_n dX8_lost_118 rfl rfl ?_
      refine v_iload dX8_lost_119 rfl ?_
      refine v_callSi [_, _] dX8_lost_121 lX8_252 ksX8_has (plX8 _ _) (Or.inr rfl) rfl rfl rfl rfl rfl rfl (c_X8_has (by omega) (by omega) (by omega) ?_)
      refine v_ifb_eq (tgt := 211) dX8_lost_124 (by decide) (fun hc_124 => ?_) (fun hc_124 => ?_)
      · refine v_iinc (ls' := [_, _, _, _, _, _, _, _]) dX8_lost_211 rfl (fun hi_211 => by omega) rfl rfl ?_
        refine v_goto (tgt := 109) dX8_lost_214 (by decide) ?_
        refine v_kill (ls' := [_, _, _, _, _, _, _, _]) 6 rfl ?_
        refine v_kill (ls' := [_, _, _, _, _, _, _, _]) 7 rfl ?_
        refine ih (by omega) m a m1 m2 (fun g hg hb2 => ?_) ?_ (by omega)
        · by_cases eg : g = h.toNat
          · subst eg; exact absurd hb2 (by simpa using hc_124)
          · exact m3 g (by omega) hb2
        · rw [show (h + 1).toNat = h.toNat + 1 by omega, smR, ← ha, show csF w op h.toNat = 0 from if_neg (by simpa using hc_124), Int.add_zero]
      · refine v_iconst dX8_lost_127 (by decide) ?_
        refine v_istore (ls' := [_, _, _, _, _, _, _, _]) dX8_lost_128 rfl rfl rfl ?_
        refine v_iconst dX8_lost_130 (by decide) ?_
        refine v_istore (ls' := [_, _, _, _, _, _, _, _]) dX8_lost_131 rfl rfl rfl ?_
        exact inner (by omega) (by simpa using hc_124) 0 (by omega) (by omega) 0 rfl
  have lp2 : (0 ≤ p ∧ p < w (stc w) 1) → (0 ≤ r ∧ r < 6) → ∀ k : Int, 0 ≤ k → k ≤ 40 → ∀ m : Mem_, lmM μ r m → V_ nX8_lost 70 [R_ 50, I_ p, I_ r, I_ (op : Int), I_ 0, I_ k, U_, U_] [] m Q := by
    intro hpp hrr
    refine loop_up _ (fun k h0 h1 ih => ?_)
    intro m m1
    refine v_iload dX8_lost_70 rfl ?_
    refine v_bipush dX8_lost_72 (by decide) ?_
    refine v_icmp_ge (tgt := 96) dX8_lost_74 (by decide) (fun hc_74 => ?_) (fun hc_74 => ?_)
    · refine v_aload_n dX8_lost_96 rfl rfl ?_
      refine v_getR dX8_lost_97 fX8_13 rfl rfl rfl ?_
      refine v_iload_n dX8_lost_100 rfl rfl ?_
      refine v_iload_n dX8_lost_101 rfl rfl ?_
      refine v_callSi [_] dX8_lost_102 lX8_268 ksX8_bits (plX8 _ _) (Or.inl rfl) rfl rfl rfl rfl rfl rfl (c_X8_bits (by omega) ?_)
      refine v_iast dX8_lost_105 rfl (by omega) (by omega) ?_
      refine v_iconst dX8_lost_106 (by decide) ?_
      refine v_istore (ls' := [_, _, _, _, _, _, _, _]) dX8_lost_107 rfl rfl rfl ?_
      refine v_kill (ls' := [_, _, _, _, _, _, _, _]) 6 rfl ?_
      refine v_kill (ls' := [_, _, _, _, _, _, _, _]) 7 rfl ?_
      exact lp3 hpp hrr 0 (by omega) (by omega) _ 0 ⟨fun o k q q2 => by rw [mset_off (by omega)]; exact m1.1 o k q q2, fun k q => by rw [mset_off (by omega)]; exact m1.2.1 k q, fun k q => by rw [mset_off (by omega)]; exact m1.2.2 k q⟩ (mset_same _ _ _ _) (fun g hg => by omega) rfl (by omega)
    · refine v_aload_n dX8_lost_77 rfl rfl ?_
      refine v_getR dX8_lost_78 fX8_16 rfl rfl rfl ?_
      refine v_bipush dX8_lost_81 (by decide) ?_
      refine v_iload_n dX8_lost_83 rfl rfl ?_
      refine v_imul dX8_lost_84 (fun ha hb => by omega) ?_
      refine v_iload dX8_lost_85 rfl ?_
      refine v_iadd dX8_lost_87 (fun ha hb => by omega) ?_
      refine v_iconst dX8_lost_88 (by decide) ?_
      refine v_iast dX8_lost_89 rfl (by omega) (by omega) ?_
      refine v_iinc (ls' := [_, _, _, _, _, _, _, _]) dX8_lost_90 rfl (fun hi_90 => by omega) rfl rfl ?_
      refine v_goto (tgt := 70) dX8_lost_93 (by decide) ?_
      refine v_kill (ls' := [_, _, _, _, _, _, _, _]) 6 rfl ?_
      refine v_kill (ls' := [_, _, _, _, _, _, _, _]) 7 rfl ?_
      exact ih (by omega) _ ⟨fun o k q q2 => by rw [mset_off (by omega)]; exact m1.1 o k q q2, fun k q => by rw [mset_off (by omega)]; exact m1.2.1 k q, fun k q => by rw [mset_off (by omega)]; exact m1.2.2 k q⟩
  have l5 := held_lt hp (f := hkF w p) (fun k => if_pw)
  have lp1 : (0 ≤ p ∧ p < w (stc w) 1) → (0 ≤ r ∧ r < 6) → ∀ k : Int, 0 ≤ k → k ≤ w (stc w) 0 → ∀ a : Int, a = ((orR k.toNat (fun g => if op.testBit g = true then 2 ^ g else 0) : Nat) : Int) → V_ nX8_lost 22 [R_ 50, I_ p, I_ r, I_ a, I_ k, U_, U_, U_] [] μ Q := by
    intro hpp hrr
    refine loop_up _ (fun k h0 h1 ih => ?_)
    intro a ha
    have eL : k < w (stc w) 0 → μ 73 k.toNat = ((orR (w 17 0).toNat (lkF w (k.toNat : Int)) : Nat) : Int) := fun q => hc.2.2.1.1 k.toNat (by omega)
    have lL := held_lt hp (f := lkF w (k.toNat : Int)) (fun k => if_pw)
    have ob := obit hpp.1 k.toNat
    have eo : orR (w (stc w) 0).toNat (fun g => if op.testBit g = true then 2 ^ g else 0) = op := bx (fun i => by
      rw [orP_bit (P := fun g => op.testBit g = true)]
      exact ⟨fun q => q.2, fun q => ⟨bit_lt hop q, q⟩⟩)
    refine v_iload dX8_lost_22 rfl ?_
    refine v_aload_n dX8_lost_24 rfl rfl ?_
    refine v_getI dX8_lost_25 fX8_180 rfl rfl rfl ?_
    refine v_icmp_ge (tgt := 64) dX8_lost_28 (by decide) (fun hc_28 => ?_) (fun hc_28 => ?_)
    · refine v_iconst dX8_lost_64 (by decide) ?_
      refine v_istore (ls' := [_, _, _, _, _, _, _, _]) dX8_lost_65 rfl rfl rfl ?_
      refine v_iconst dX8_lost_67 (by decide) ?_
      refine v_istore (ls' := [_, _, _, _, _, _, _, _]) dX8_lost_68 rfl rfl rfl ?_
      refine v_kill (ls' := [_, _, _, _, _, _, _, _]) 6 rfl ?_
      refine v_kill (ls' := [_, _, _, _, _, _, _, _]) 7 rfl ?_
      rw [ha, show k.toNat = (w (stc w) 0).toNat by omega, eo]
      exact lp2 hpp hrr 0 (by omega) (by omega) μ ⟨fun _ _ _ _ => rfl, fun _ _ => rfl, fun _ _ => rfl⟩
    · refine v_iload_n dX8_lost_31 rfl rfl ?_
      refine v_aload_n dX8_lost_32 rfl rfl ?_
      refine v_iload_n dX8_lost_33 rfl rfl ?_
      refine v_callVi [_] dX8_lost_34 lX8_243 kvX8_heldBy (plX8 _ _) (Or.inl rfl) rfl rfl rfl rfl rfl rfl rfl rfl rfl (c_X8_heldBy hp hc.2.1 ?_)
      refine v_aload_n dX8_lost_37 rfl rfl ?_
      refine v_getR dX8_lost_38 fX8_77 rfl rfl rfl ?_
      refine v_iload dX8_lost_41 rfl ?_
      refine v_iald dX8_lost_43 rfl (by omega) (by omega) ?_
      rw [eL (by omega)]
      refine v_iand dX8_lost_44 ?_
      rw [bAnd_nat (by omega) (by omega)]
      refine v_if_eq (tgt := 55) dX8_lost_45 (by decide) (fun hc_45 => ?_) (fun hc_45 => ?_)
      · refine v_iconst dX8_lost_55 (by decide) ?_
        refine v_ior dX8_lost_56 ?_
        refine v_istore_n (ls' := [_, _, _, _, _, _, _, _]) dX8_lost_57 rfl rfl rfl rfl ?_
        refine v_iinc (ls' := [_, _, _, _, _, _, _, _]) dX8_lost_58 rfl (fun hi_58 => by omega) rfl rfl ?_
        refine v_goto (tgt := 22) dX8_lost_61 (by decide) ?_
        refine v_kill (ls' := [_, _, _, _, _, _, _, _]) 5 rfl ?_
        refine v_kill (ls' := [_, _, _, _, _, _, _, _]) 6 rfl ?_
        refine v_kill (ls' := [_, _, _, _, _, _, _, _]) 7 rfl ?_
        first
          | exact ih (by omega) _ (orS h0 ha (bShl_one (by omega) (by omega)) (if_pos (ob.2 (by omega))) (fun j hj => pw_if (by omega)))
          | exact ih (by omega) _ (orS (x := 0) h0 ha rfl (if_neg (fun q => ob.1 q (by omega))) (fun j hj => pw_if (by omega)))
      · refine v_iconst dX8_lost_48 (by decide) ?_
        refine v_iload dX8_lost_49 rfl ?_
        refine v_ishl dX8_lost_51 ?_
        refine v_goto (tgt := 56) dX8_lost_52 (by decide) ?_
        refine v_ior dX8_lost_56 ?_
        refine v_istore_n (ls' := [_, _, _, _, _, _, _, _]) dX8_lost_57 rfl rfl rfl rfl ?_
        refine v_iinc (ls' := [_, _, _, _, _, _, _, _]) dX8_lost_58 rfl (fun hi_58 => by omega) rfl rfl ?_
        refine v_goto (tgt := 22) dX8_lost_61 (by decide) ?_
        refine v_kill (ls' := [_, _, _, _, _, _, _, _]) 5 rfl ?_
        refine v_kill (ls' := [_, _, _, _, _, _, _, _]) 6 rfl ?_
        refine v_kill (ls' := [_, _, _, _, _, _, _, _]) 7 rfl ?_
        first
          | exact ih (by omega) _ (orS h0 ha (bShl_one (by omega) (by omega)) (if_pos (ob.2 (by omega))) (fun j hj => pw_if (by omega)))
          | exact ih (by omega) _ (orS (x := 0) h0 ha rfl (if_neg (fun q => ob.1 q (by omega))) (fun j hj => pw_if (by omega)))
  refine v_aload_n dX8_lost_0 rfl rfl ?_
  refine v_iload_n dX8_lost_1 rfl rfl ?_
  refine v_callVi [_] dX8_lost_2 lX8_207 kvX8_isPerson (plX8 _ _) (Or.inr rfl) rfl rfl rfl rfl rfl rfl rfl rfl rfl (c_X8_isPerson (by omega) ?_)
  refine v_ifb_eq (tgt := 15) dX8_lost_5 (by decide) (fun hc_5 => ?_) (fun hc_5 => ?_)
  · refine v_iconst dX8_lost_15 (by decide) ?_
    refine v_ireturn dX8_lost_16 rfl ?_
    exact h1 (by omega)
  · refine v_iload_n dX8_lost_8 rfl rfl ?_
    refine v_callSi [_] dX8_lost_9 lX8_122 ksX8_isRow (plX8 _ _) (Or.inr rfl) rfl rfl rfl rfl rfl rfl (c_X8_isRow ?_)
    refine v_ifb_ne (tgt := 17) dX8_lost_12 (by decide) (fun hc_12 => ?_) (fun hc_12 => ?_)
    · refine v_iconst dX8_lost_17 (by decide) ?_
      refine v_istore_n (ls' := [_, _, _, _, _, _, _, _]) dX8_lost_18 rfl rfl rfl rfl ?_
      refine v_iconst dX8_lost_19 (by decide) ?_
      refine v_istore (ls' := [_, _, _, _, _, _, _, _]) dX8_lost_20 rfl rfl rfl ?_
      exact lp1 (by omega) (by omega) 0 (by omega) (by omega) 0 rfl
    · refine v_iconst dX8_lost_15 (by decide) ?_
      refine v_ireturn dX8_lost_16 rfl ?_
      exact h1 (by omega)
end
