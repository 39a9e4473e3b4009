/-! the model: all that was told happens anew -/
def whF (w : Mem_) (pl h : Int) (k : Nat) : Nat := if w 20 k = pl ∧ w 21 k = h then 2 ^ k else 0
def waF (w : Mem_) (k : Nat) : Nat := if w 20 k = 1 then 2 ^ k else 0
def DLk (k : Nat) (m w : Mem_) : Prop := (∀ g : Nat, g < 6 → m 73 g = ((orR k (lkF w g) : Nat) : Int)) ∧ (∀ g : Nat, g < 6 → m 74 g = ((orR k (whF w 1 g) : Nat) : Int)) ∧ (∀ g : Nat, g < 6 → m 75 g = ((orR k (whF w 2 g) : Nat) : Int)) ∧ m 50 39 = ((orR k (waF w) : Nat) : Int)
def frT (μ m : Mem_) : Prop := ∀ o k, ¬ (o = 50 ∧ (k = 27 ∨ k = 39)) → ¬ (65 ≤ o ∧ o ≤ 75) → m o k = μ o k
def KOf (n : Int) (w0 m : Mem_) : Prop := ∀ e : Nat, (e : Int) < n → mkK (w0 8 e) → m 70 e = kbC w0 e
theorem pw_if {P : Prop} [Decidable P] {k : Nat} (h : k < 24) : (if P then 2 ^ k else 0 : Nat) < 2 ^ 31 := by
  have : (2 : Nat) ^ k < 2 ^ 31 := Nat.pow_lt_pow_right (by omega) (by omega)
  split <;> omega
theorem or_upd {m : Mem_} {o a k : Nat} {f : Nat → Nat → Nat} {x : Int} (h : ∀ g, g < 6 → m o g = ((orR k (f g) : Nat) : Int)) (ha : a < 6) (hx : x = ((f a k : Nat) : Int)) (hz : ∀ g, g < 6 → g ≠ a → f g k = 0) (hb : ∀ j, j ≤ k → f a j < 2 ^ 31) : ∀ g, g < 6 → mset m o a (bOr (m o a) x) o g = ((orR (k + 1) (f g) : Nat) : Int) := by
  intro g hg
  by_cases e : g = a
  · subst e
    rw [mset_same, h g hg, hx, bOr_nat (orR_lt (fun j hj => hb j (by omega))) (hb k (Nat.le_refl _)), orR]
  · rw [mset_off (by omega), h g hg, orR, hz g hg e, Nat.or_zero]
theorem or_no {m : Mem_} {o k : Nat} {f : Nat → Nat → Nat} (h : ∀ g, g < 6 → m o g = ((orR k (f g) : Nat) : Int)) (hz : ∀ g, g < 6 → f g k = 0) : ∀ g, g < 6 → m o g = ((orR (k + 1) (f g) : Nat) : Int) := by
  intro g hg
  rw [h g hg, orR, hz g hg, Nat.or_zero]
def PSt (n : Int) (μ w0 w : Mem_) (k : Nat) (m : Mem_) : Prop := frT μ m ∧ MK m w ∧ DLk k m w ∧ KOf n w0 m
theorem MK_fr {m m' w : Mem_} (h : MK m w) (h1 : m' 50 27 = m 50 27) (h2 : ∀ o k, 65 ≤ o ∧ o ≤ 72 → m' o k = m o k) : MK m' w := by
  refine ⟨by rw [h1]; exact h.1, fun k hk => ?_, fun g hg => by rw [h2 71 g (by omega)]; exact h.2.2.1 g hg, fun i hi => by rw [h2 72 i (by omega)]; exact h.2.2.2 i hi⟩
  rw [h2 65 k (by omega), h2 66 k (by omega), h2 67 k (by omega), h2 68 k (by omega), h2 69 k (by omega)]
  exact h.2.1 k hk
section
variable {n : Int} {μ w0 w : Mem_} {k : Nat} {m : Mem_}
theorem PSt_0 (h : PSt n μ w0 w k m) (hk : k < 24) (ha : 0 ≤ w 18 k ∧ w 18 k < 6) {X : Int} (hX : X = ((lkF w (w 18 k) k : Nat) : Int)) (h1 : w 20 k ≠ 1) (h2 : w 20 k ≠ 2) : PSt n μ w0 w (k + 1) (mset m 73 (w 18 k).toNat (bOr (m 73 (w 18 k).toNat) X)) := by
  refine ⟨fun o i q q2 => by rw [mset_off (by omega)]; exact h.1 o i q q2, MK_fr h.2.1 (mset_off (by omega)) (fun o i q => mset_off (by omega)), ⟨?_, ?_, ?_, ?_⟩, fun e he hq => by rw [mset_off (by omega)]; exact h.2.2.2 e he hq⟩
  · refine or_upd (f := fun g => lkF w (g : Int)) h.2.2.1.1 (by omega) (by rw [hX, show (((w 18 k).toNat : Nat) : Int) = w 18 k by omega]) (fun g hg e => if_neg (by omega)) (fun j hj => pw_if (by omega))
  · exact fun g hg => by rw [mset_off (by omega)]; exact or_no (f := fun g => whF w 1 (g : Int)) h.2.2.1.2.1 (fun g _ => if_neg (by omega)) g hg
  · exact fun g hg => by rw [mset_off (by omega)]; exact or_no (f := fun g => whF w 2 (g : Int)) h.2.2.1.2.2.1 (fun g _ => if_neg (by omega)) g hg
  · rw [mset_off (by omega), h.2.2.1.2.2.2, orR, waF, if_neg h1, Nat.or_zero]
theorem PSt_2 (h : PSt n μ w0 w k m) (hk : k < 24) (ha : 0 ≤ w 18 k ∧ w 18 k < 6) (hb : 0 ≤ w 21 k ∧ w 21 k < 6) {X B : Int} (hB : B = ((2 ^ k : Nat) : Int)) (hX : X = ((lkF w (w 18 k) k : Nat) : Int)) (h2 : w 20 k = 2) : PSt n μ w0 w (k + 1) (mset (mset m 73 (w 18 k).toNat (bOr (m 73 (w 18 k).toNat) X)) 75 (w 21 k).toNat (bOr (mset m 73 (w 18 k).toNat (bOr (m 73 (w 18 k).toNat) X) 75 (w 21 k).toNat) B)) := by
  refine ⟨fun o i q q2 => by rw [mset_off (by omega), mset_off (by omega)]; exact h.1 o i q q2, MK_fr h.2.1 (by rw [mset_off (by omega), mset_off (by omega)]) (fun o i q => by rw [mset_off (by omega), mset_off (by omega)]), ⟨?_, ?_, ?_, ?_⟩, fun e he hq => by rw [mset_off (by omega), mset_off (by omega)]; exact h.2.2.2 e he hq⟩
  · exact fun g hg => by rw [mset_off (by omega)]; exact or_upd (f := fun g => lkF w (g : Int)) h.2.2.1.1 (by omega) (by rw [hX, show (((w 18 k).toNat : Nat) : Int) = w 18 k by omega]) (fun g hg e => if_neg (by omega)) (fun j hj => pw_if (by omega)) g hg
  · exact fun g hg => by rw [mset_off (by omega), mset_off (by omega)]; exact or_no (f := fun g => whF w 1 (g : Int)) h.2.2.1.2.1 (fun g _ => if_neg (by omega)) g hg
  · refine or_upd (f := fun g => whF w 2 (g : Int)) (fun g hg => by rw [mset_off (by omega)]; exact h.2.2.1.2.2.1 g hg) (by omega) ?_ (fun g hg e => if_neg (by omega)) (fun j hj => pw_if (by omega))
    rw [hB]
    unfold whF
    rw [if_pos (by omega)]
  · rw [mset_off (by omega), mset_off (by omega), h.2.2.1.2.2.2, orR, waF, if_neg (by omega), Nat.or_zero]
theorem PSt_1 (h : PSt n μ w0 w k m) (hk : k < 24) (ha : 0 ≤ w 18 k ∧ w 18 k < 6) (hb : 0 ≤ w 21 k ∧ w 21 k < 6) {X B : Int} (hB : B = ((2 ^ k : Nat) : Int)) (hX : X = ((lkF w (w 18 k) k : Nat) : Int)) (h2 : w 20 k = 1) : PSt n μ w0 w (k + 1) (mset (mset (mset m 73 (w 18 k).toNat (bOr (m 73 (w 18 k).toNat) X)) 74 (w 21 k).toNat (bOr (mset m 73 (w 18 k).toNat (bOr (m 73 (w 18 k).toNat) X) 74 (w 21 k).toNat) B)) 50 39 (bOr (mset (mset m 73 (w 18 k).toNat (bOr (m 73 (w 18 k).toNat) X)) 74 (w 21 k).toNat (bOr (mset m 73 (w 18 k).toNat (bOr (m 73 (w 18 k).toNat) X) 74 (w 21 k).toNat) B) 50 39) B)) := by
  refine ⟨fun o i q q2 => by rw [mset_off (by omega), mset_off (by omega), mset_off (by omega)]; exact h.1 o i q q2, MK_fr h.2.1 (by rw [mset_off (by omega), mset_off (by omega), mset_off (by omega)]) (fun o i q => by rw [mset_off (by omega), mset_off (by omega), mset_off (by omega)]), ⟨?_, ?_, ?_, ?_⟩, fun e he hq => by rw [mset_off (by omega), mset_off (by omega), mset_off (by omega)]; exact h.2.2.2 e he hq⟩
  · exact fun g hg => by rw [mset_off (by omega), mset_off (by omega)]; exact or_upd (f := fun g => lkF w (g : Int)) h.2.2.1.1 (by omega) (by rw [hX, show (((w 18 k).toNat : Nat) : Int) = w 18 k by omega]) (fun g hg e => if_neg (by omega)) (fun j hj => pw_if (by omega)) g hg
  · intro g hg
    rw [mset_off (by omega)]
    refine or_upd (f := fun g => whF w 1 (g : Int)) (fun g hg => by rw [mset_off (by omega)]; exact h.2.2.1.2.1 g hg) (by omega) ?_ (fun g hg e => if_neg (by omega)) (fun j hj => pw_if (by omega)) g hg
    rw [hB]
    unfold whF
    rw [if_pos (by omega)]
  · exact fun g hg => by rw [mset_off (by omega), mset_off (by omega), mset_off (by omega)]; exact or_no (f := fun g => whF w 2 (g : Int)) h.2.2.1.2.2.1 (fun g _ => if_neg (by omega)) g hg
  · rw [mset_same, mset_off (by omega), mset_off (by omega), h.2.2.1.2.2.2, hB, bOr_nat (orR_lt (f := waF w) (fun j hj => pw_if (by omega))) (Nat.pow_lt_pow_right (by omega) (by omega)), orR, show waF w k = 2 ^ k from if_pos h2]
end
section
variable {μ : Mem_} {Q : PV → Mem_ → Prop}
set_option maxRecDepth 10000 in
theorem c_X8_settle {w0 : Mem_} {nH nP : Int} (hH : nH ≤ 6) (hP : nP ≤ 12) (hl : LVc nH nP w0) (hn : μ 50 22 = w0 7 0) (hev : ∀ e : Int, 0 ≤ e → e < w0 7 0 → μ 63 (4 * e).toNat = w0 8 e.toNat ∧ μ 63 (4 * e + 1).toNat = w0 9 e.toNat ∧ μ 63 (4 * e + 2).toNat = w0 10 e.toNat ∧ μ 63 (4 * e + 3).toNat = w0 11 e.toNat)
    (hQ : ∀ m : Mem_, frT μ m → MK m (rpC (w0 7 0).toNat (rsC w0)) → DLk (rpC (w0 7 0).toNat (rsC w0) 17 0).toNat m (rpC (w0 7 0).toNat (rsC w0)) → KOf (w0 7 0) w0 m → Q U_ m) : V_ nX8_settle 0 [R_ 50, U_, U_] [] μ Q := by
  have hl1 := hl.1
  generalize hw : rpC (w0 7 0).toNat (rsC w0) = w at hQ
  have hI : RIc nH nP (w0 7 0) w := by
    have := RIc_rp hH hP hl (w0 7 0).toNat (by omega)
    rwa [hw, show (((w0 7 0).toNat : Nat) : Int) = w0 7 0 by omega] at this
  have hI1 := hI.1.1
  have hp := RIc_P hH hP hI
  have lp4 : ∀ k : Int, 0 ≤ k → k ≤ w 17 0 → ∀ m : Mem_, PSt (w0 7 0) μ w0 w k.toNat m → V_ nX8_settle 97 [R_ 50, I_ k, U_] [] m Q := by
    refine loop_up _ (fun k h0 h1 ih => ?_)
    intro m hm
    have m27 := hm.2.1.1
    have hkk : k < w 17 0 → _ := fun q : k < w 17 0 => hm.2.1.2.1 k.toNat (by omega)
    have hI2 : k < w 17 0 → _ := fun q : k < w 17 0 => hI.1.2 k.toNat (by omega)
    have hI3 : k < w 17 0 → (0 ≤ w 18 k.toNat ∧ w 18 k.toNat < 6) ∧ (w 20 k.toNat ≠ 0 → 0 ≤ w 21 k.toNat ∧ w 21 k.toNat < 6) := fun q => by have := hI2 q; omega
    have hbit : k < w 17 0 → bShl 1 k = ((2 ^ k.toNat : Nat) : Int) := fun q => bShl_one (by omega) (by omega)
    have e1 : k.toNat + 1 = (k + 1).toNat := by omega
    refine v_iload_n dX8_settle_97 rfl rfl ?_
    refine v_aload_n dX8_settle_98 rfl rfl ?_
    refine v_getI dX8_settle_99 fX8_189 rfl rfl rfl ?_
    refine v_icmp_ge (tgt := 205) dX8_settle_102 (by decide) (fun hc_102 => ?_) (fun hc_102 => ?_)
    · refine v_return dX8_settle_205 rfl ?_
      exact hQ m hm.1 hm.2.1 (by rw [show (w 17 0).toNat = k.toNat by omega]; exact hm.2.2.1) hm.2.2.2
    · refine v_iconst dX8_settle_105 (by decide) ?_
      refine v_iload_n dX8_settle_106 rfl rfl ?_
      have hbit := hbit (by omega)
      refine v_ishl dX8_settle_107 ?_
      refine v_istore_n (ls' := [_, _, _]) dX8_settle_108 rfl rfl rfl rfl ?_
      refine v_aload_n dX8_settle_109 rfl rfl ?_
      refine v_getR dX8_settle_110 fX8_77 rfl rfl rfl ?_
      refine v_aload_n dX8_settle_113 rfl rfl ?_
      refine v_getR dX8_settle_114 fX8_53 rfl rfl rfl ?_
      refine v_iload_n dX8_settle_117 rfl rfl ?_
      refine v_iald dX8_settle_118 rfl (by omega) (by omega) ?_
      rw [(hkk (by omega)).1]
      refine v_dup2 dX8_settle_119 ?_
      refine v_iald dX8_settle_120 rfl (by have := hI2 (by omega); omega) (by have := hI2 (by omega); omega) ?_
      refine v_aload_n dX8_settle_121 rfl rfl ?_
      refine v_iload_n dX8_settle_122 rfl rfl ?_
      refine v_callVi [_] dX8_settle_123 lX8_223 kvX8_isLive (plX8 _ _) (Or.inr rfl) rfl rfl rfl rfl rfl rfl rfl rfl rfl (c_X8_isLive hp hm.2.1 (by omega) ?_)
      refine v_ifb_eq (tgt := 133) dX8_settle_126 (by decide) (fun hc_126 => ?_) (fun hc_126 => ?_)
      · refine v_iconst dX8_settle_133 (by decide) ?_
        refine v_ior dX8_settle_134 ?_
        refine v_iast dX8_settle_135 rfl (by have := hI2 (by omega); omega) (by have := hI2 (by omega); omega) ?_
        refine v_aload_n dX8_settle_136 rfl rfl ?_
        refine v_getR dX8_settle_137 fX8_59 rfl rfl rfl ?_
        refine v_iload_n dX8_settle_140 rfl rfl ?_
        refine v_iald dX8_settle_141 rfl (by omega) (by omega) ?_
        rw [mset_off (by omega), (hkk (by omega)).2.2.1]
        refine v_iconst dX8_settle_142 (by decide) ?_
        refine v_icmp_ne (tgt := 174) dX8_settle_143 (by decide) (fun hc_143 => ?_) (fun hc_143 => ?_)
        · refine v_aload_n dX8_settle_174 rfl rfl ?_
          refine v_getR dX8_settle_175 fX8_59 rfl rfl rfl ?_
          refine v_iload_n dX8_settle_178 rfl rfl ?_
          refine v_iald dX8_settle_179 rfl (by omega) (by omega) ?_
          rw [mset_off (by omega), (hkk (by omega)).2.2.1]
          refine v_iconst dX8_settle_180 (by decide) ?_
          refine v_icmp_ne (tgt := 199) dX8_settle_181 (by decide) (fun hc_181 => ?_) (fun hc_181 => ?_)
          · refine v_iinc (ls' := [_, _, _]) dX8_settle_199 rfl (fun hi_199 => by omega) rfl rfl ?_
            refine v_goto (tgt := 97) dX8_settle_202 (by decide) ?_
            refine v_kill (ls' := [_, _, _]) 2 rfl ?_
            have q := PSt_0 (X := 0) hm (by omega) (hI3 (by omega)).1 (by rw [lkF, if_neg (fun q => hc_126 q.2)]; rfl) (by omega) (by omega)
            rw [e1] at q
            exact ih (by omega) _ q
          · refine v_aload_n dX8_settle_184 rfl rfl ?_
            refine v_getR dX8_settle_185 fX8_83 rfl rfl rfl ?_
            refine v_aload_n dX8_settle_188 rfl rfl ?_
            refine v_getR dX8_settle_189 fX8_62 rfl rfl rfl ?_
            refine v_iload_n dX8_settle_192 rfl rfl ?_
            refine v_iald dX8_settle_193 rfl (by omega) (by omega) ?_
            rw [mset_off (by omega), (hkk (by omega)).2.2.2.1]
            refine v_dup2 dX8_settle_194 ?_
            refine v_iald dX8_settle_195 rfl (by have := hI2 (by omega); omega) (by have := hI2 (by omega); omega) ?_
            refine v_iload_n dX8_settle_196 rfl rfl ?_
            refine v_ior dX8_settle_197 ?_
            refine v_iast dX8_settle_198 rfl (by have := hI2 (by omega); omega) (by have := hI2 (by omega); omega) ?_
            refine v_iinc (ls' := [_, _, _]) dX8_settle_199 rfl (fun hi_199 => by omega) rfl rfl ?_
            refine v_goto (tgt := 97) dX8_settle_202 (by decide) ?_
            refine v_kill (ls' := [_, _, _]) 2 rfl ?_
            have q := PSt_2 (X := 0) hm (by omega) (hI3 (by omega)).1 ((hI3 (by omega)).2 (by omega)) hbit (by rw [lkF, if_neg (fun q => hc_126 q.2)]; rfl) (by omega)
            rw [e1] at q
            exact ih (by omega) _ q
        · refine v_aload_n dX8_settle_146 rfl rfl ?_
          refine v_getR dX8_settle_147 fX8_80 rfl rfl rfl ?_
          refine v_aload_n dX8_settle_150 rfl rfl ?_
          refine v_getR dX8_settle_151 fX8_62 rfl rfl rfl ?_
          refine v_iload_n dX8_settle_154 rfl rfl ?_
          refine v_iald dX8_settle_155 rfl (by omega) (by omega) ?_
          rw [mset_off (by omega), (hkk (by omega)).2.2.2.1]
          refine v_dup2 dX8_settle_156 ?_
          refine v_iald dX8_settle_157 rfl (by have := hI2 (by omega); omega) (by have := hI2 (by omega); omega) ?_
          refine v_iload_n dX8_settle_158 rfl rfl ?_
          refine v_ior dX8_settle_159 ?_
          refine v_iast dX8_settle_160 rfl (by have := hI2 (by omega); omega) (by have := hI2 (by omega); omega) ?_
          refine v_aload_n dX8_settle_161 rfl rfl ?_
          refine v_dupR_ dX8_settle_162 ?_
          refine v_getI dX8_settle_163 fX8_220 rfl rfl rfl ?_
          refine v_iload_n dX8_settle_166 rfl rfl ?_
          refine v_ior dX8_settle_167 ?_
          refine v_putI dX8_settle_168 fpX8_220 rfl rfl rfl ?_
          refine v_goto (tgt := 199) dX8_settle_171 (by decide) ?_
          refine v_iinc (ls' := [_, _, _]) dX8_settle_199 rfl (fun hi_199 => by omega) rfl rfl ?_
          refine v_goto (tgt := 97) dX8_settle_202 (by decide) ?_
          refine v_kill (ls' := [_, _, _]) 2 rfl ?_
          have q := PSt_1 (X := 0) hm (by omega) (hI3 (by omega)).1 ((hI3 (by omega)).2 (by omega)) hbit (by rw [lkF, if_neg (fun q => hc_126 q.2)]; rfl) (by omega)
          rw [e1] at q
          exact ih (by omega) _ q
      · refine v_iload_n dX8_settle_129 rfl rfl ?_
        refine v_goto (tgt := 134) dX8_settle_130 (by decide) ?_
        refine v_ior dX8_settle_134 ?_
        refine v_iast dX8_settle_135 rfl (by have := hI2 (by omega); omega) (by have := hI2 (by omega); omega) ?_
        refine v_aload_n dX8_settle_136 rfl rfl ?_
        refine v_getR dX8_settle_137 fX8_59 rfl rfl rfl ?_
        refine v_iload_n dX8_settle_140 rfl rfl ?_
        refine v_iald dX8_settle_141 rfl (by omega) (by omega) ?_
        rw [mset_off (by omega), (hkk (by omega)).2.2.1]
        refine v_iconst dX8_settle_142 (by decide) ?_
        refine v_icmp_ne (tgt := 174) dX8_settle_143 (by decide) (fun hc_143 => ?_) (fun hc_143 => ?_)
        · refine v_aload_n dX8_settle_174 rfl rfl ?_
          refine v_getR dX8_settle_175 fX8_59 rfl rfl rfl ?_
          refine v_iload_n dX8_settle_178 rfl rfl ?_
          refine v_iald dX8_settle_179 rfl (by omega) (by omega) ?_
          rw [mset_off (by omega), (hkk (by omega)).2.2.1]
          refine v_iconst dX8_settle_180 (by decide) ?_
          refine v_icmp_ne (tgt := 199) dX8_settle_181 (by decide) (fun hc_181 => ?_) (fun hc_181 => ?_)
          · refine v_iinc (ls' := [_, _, _]) dX8_settle_199 rfl (fun hi_199 => by omega) rfl rfl ?_
            refine v_goto (tgt := 97) dX8_settle_202 (by decide) ?_
            refine v_kill (ls' := [_, _, _]) 2 rfl ?_
            have q := PSt_0 (X := bShl 1 k) hm (by omega) (hI3 (by omega)).1 (by rw [lkF, if_pos ⟨rfl, hc_126⟩, hbit]) (by omega) (by omega)
            rw [e1] at q
            exact ih (by omega) _ q
          · refine v_aload_n dX8_settle_184 rfl rfl ?_
            refine v_getR dX8_settle_185 fX8_83 rfl rfl rfl ?_
            refine v_aload_n dX8_settle_188 rfl rfl ?_
            refine v_getR dX8_settle_189 fX8_62 rfl rfl rfl ?_
            refine v_iload_n dX8_settle_192 rfl rfl ?_
            refine v_iald dX8_settle_193 rfl (by omega) (by omega) ?_
            rw [mset_off (by omega), (hkk (by omega)).2.2.2.1]
            refine v_dup2 dX8_settle_194 ?_
            refine v_iald dX8_settle_195 rfl (by have := hI2 (by omega); omega) (by have := hI2 (by omega); omega) ?_
            refine v_iload_n dX8_settle_196 rfl rfl ?_
            refine v_ior dX8_settle_197 ?_
            refine v_iast dX8_settle_198 rfl (by have := hI2 (by omega); omega) (by have := hI2 (by omega); omega) ?_
            refine v_iinc (ls' := [_, _, _]) dX8_settle_199 rfl (fun hi_199 => by omega) rfl rfl ?_
            refine v_goto (tgt := 97) dX8_settle_202 (by decide) ?_
            refine v_kill (ls' := [_, _, _]) 2 rfl ?_
            have q := PSt_2 (X := bShl 1 k) hm (by omega) (hI3 (by omega)).1 ((hI3 (by omega)).2 (by omega)) hbit (by rw [lkF, if_pos ⟨rfl, hc_126⟩, hbit]) (by omega)
            rw [e1] at q
            exact ih (by omega) _ q
        · refine v_aload_n dX8_settle_146 rfl rfl ?_
          refine v_getR dX8_settle_147 fX8_80 rfl rfl rfl ?_
          refine v_aload_n dX8_settle_150 rfl rfl ?_
          refine v_getR dX8_settle_151 fX8_62 rfl rfl rfl ?_
          refine v_iload_n dX8_settle_154 rfl rfl ?_
          refine v_iald dX8_settle_155 rfl (by omega) (by omega) ?_
          rw [mset_off (by omega), (hkk (by omega)).2.2.2.1]
          refine v_dup2 dX8_settle_156 ?_
          refine v_iald dX8_settle_157 rfl (by have := hI2 (by omega); omega) (by have := hI2 (by omega); omega) ?_
          refine v_iload_n dX8_settle_158 rfl rfl ?_
          refine v_ior dX8_settle_159 ?_
          refine v_iast dX8_settle_160 rfl (by have := hI2 (by omega); omega) (by have := hI2 (by omega); omega) ?_
          refine v_aload_n dX8_settle_161 rfl rfl ?_
          refine v_dupR_ dX8_settle_162 ?_
          refine v_getI dX8_settle_163 fX8_220 rfl rfl rfl ?_
          refine v_iload_n dX8_settle_166 rfl rfl ?_
          refine v_ior dX8_settle_167 ?_
          refine v_putI dX8_settle_168 fpX8_220 rfl rfl rfl ?_
          refine v_goto (tgt := 199) dX8_settle_171 (by decide) ?_
          refine v_iinc (ls' := [_, _, _]) dX8_settle_199 rfl (fun hi_199 => by omega) rfl rfl ?_
          refine v_goto (tgt := 97) dX8_settle_202 (by decide) ?_
          refine v_kill (ls' := [_, _, _]) 2 rfl ?_
          have q := PSt_1 (X := bShl 1 k) hm (by omega) (hI3 (by omega)).1 ((hI3 (by omega)).2 (by omega)) hbit (by rw [lkF, if_pos ⟨rfl, hc_126⟩, hbit]) (by omega)
          rw [e1] at q
          exact ih (by omega) _ q
  have lp3 : ∀ e : Int, 0 ≤ e → e ≤ w0 7 0 → ∀ m : Mem_, frT μ m → (∀ g : Nat, g < 6 → m 73 g = 0 ∧ m 74 g = 0 ∧ m 75 g = 0) → MK m (rpC e.toNat (rsC w0)) → KOf e w0 m → V_ nX8_settle 71 [R_ 50, I_ e, U_] [] m Q := by
    refine loop_up _ (fun e h0 h1 ih => ?_)
    intro m f1 f2 f3 f4
    have m22 := f1 50 22 (by omega) (by omega)
    have hRI := RIc_rp hH hP hl e.toNat (by omega)
    have hve : e < w0 7 0 → _ := fun q : e < w0 7 0 => hl.2 e.toNat (by omega)
    rw [← rpC_17 (μ := w0)] at hve
    refine v_iload_n dX8_settle_71 rfl rfl ?_
    refine v_aload_n dX8_settle_72 rfl rfl ?_
    refine v_getI dX8_settle_73 fX8_186 rfl rfl rfl ?_
    refine v_icmp_ge (tgt := 90) dX8_settle_76 (by decide) (fun hc_76 => ?_) (fun hc_76 => ?_)
    · refine v_aload_n dX8_settle_90 rfl rfl ?_
      refine v_iconst dX8_settle_91 (by decide) ?_
      refine v_putI dX8_settle_92 fpX8_220 rfl rfl rfl ?_
      refine v_iconst dX8_settle_95 (by decide) ?_
      refine v_istore_n (ls' := [_, _, _]) dX8_settle_96 rfl rfl rfl rfl ?_
      refine v_kill (ls' := [_, _, _]) 2 rfl ?_
      rw [show e = w0 7 0 by omega] at f3 f4
      rw [hw] at f3
      refine lp4 0 (by omega) (by omega) _ ⟨fun o i q q2 => by rw [mset_off (by omega)]; exact f1 o i q q2, MK_fr f3 (mset_off (by omega)) (fun o i q => mset_off (by omega)), ⟨fun g hg => ?_, fun g hg => ?_, fun g hg => ?_, by rw [mset_same]; rfl⟩, fun e he hq => by rw [mset_off (by omega)]; exact f4 e he hq⟩
      · rw [mset_off (by omega)]; exact (f2 g hg).1
      · rw [mset_off (by omega)]; exact (f2 g hg).2.1
      · rw [mset_off (by omega)]; exact (f2 g hg).2.2
    · refine v_aload_n dX8_settle_79 rfl rfl ?_
      refine v_iload_n dX8_settle_80 rfl rfl ?_
      refine v_callVv [_] dX8_settle_81 lX8_216 kvX8_happens (plX8 _ _) rfl rfl rfl rfl rfl rfl rfl rfl rfl rfl (c_X8_happens (by omega) hH hP (by omega) hRI (hve (by omega)) f3 (by rw [f1 63 _ (by omega) (by omega)]; exact (hev e h0 (by omega)).1) (by rw [f1 63 _ (by omega) (by omega)]; exact (hev e h0 (by omega)).2.1) (by rw [f1 63 _ (by omega) (by omega)]; exact (hev e h0 (by omega)).2.2.1) (by rw [f1 63 _ (by omega) (by omega)]; exact (hev e h0 (by omega)).2.2.2) (fun m' g1 g2 g3 g4 => ?_))
      refine v_iinc (ls' := [_, _, _]) dX8_settle_84 rfl (fun hi_84 => by omega) rfl rfl ?_
      refine v_goto (tgt := 71) dX8_settle_87 (by decide) ?_
      refine v_kill (ls' := [_, _, _]) 2 rfl ?_
      refine ih (by omega) m' (fun o i q q2 => by rw [g1 o i (by omega) (by omega)]; exact f1 o i q q2) (fun g hg => by rw [g1 73 _ (by omega) (by omega), g1 74 _ (by omega) (by omega), g1 75 _ (by omega) (by omega)]; exact f2 g hg) ?_ ?_
      · rw [show (e + 1).toNat = e.toNat + 1 by omega, rpC]
        rw [rsC_off (by omega), rsC_off (by omega), rsC_off (by omega), rsC_off (by omega)]
        exact g2
      · intro j hj hq
        by_cases ej : j = e.toNat
        · rw [ej] at hq ⊢
          rw [g3 hq, rpC_17]
        · rw [g4 j ej]
          exact f4 j (by omega) hq
  have lp2 : ∀ k : Int, 0 ≤ k → k ≤ 144 → ∀ m : Mem_, frT μ m → m 50 27 = 0 → (∀ g : Nat, g < 6 → m 71 g = 0 ∧ m 73 g = 0 ∧ m 74 g = 0 ∧ m 75 g = 0) → (∀ i : Nat, (i : Int) < k → m 72 i = 0) → V_ nX8_settle 49 [R_ 50, I_ k, U_] [] m Q := by
    refine loop_up _ (fun k h0 h1 ih => ?_)
    intro m f1 f2 f3 f4
    refine v_iload_n dX8_settle_49 rfl rfl ?_
    refine v_sipush dX8_settle_50 (by decide) ?_
    refine v_icmp_ge (tgt := 69) dX8_settle_53 (by decide) (fun hc_53 => ?_) (fun hc_53 => ?_)
    · refine v_iconst dX8_settle_69 (by decide) ?_
      refine v_istore_n (ls' := [_, _, _]) dX8_settle_70 rfl rfl rfl rfl ?_
      refine v_kill (ls' := [_, _, _]) 2 rfl ?_
      refine lp3 0 (by omega) (by omega) m f1 (fun g hg => (f3 g hg).2) ⟨by rw [f2]; exact rsC_17.symm, fun j hj => ?_, fun g hg => ?_, fun i hi => ?_⟩ (fun e he => by omega)
      · rw [show rpC (0 : Int).toNat (rsC w0) = rsC w0 from rfl, rsC_17] at hj
        omega
      · rw [(f3 g hg).1, show rpC (0 : Int).toNat (rsC w0) = rsC w0 from rfl]
        unfold rsC
        rw [mfill_off (by omega), mfill_in (by omega)]
      · rw [f4 i (by omega), show rpC (0 : Int).toNat (rsC w0) = rsC w0 from rfl]
        unfold rsC
        rw [mfill_in (by omega)]
    · refine v_aload_n dX8_settle_56 rfl rfl ?_
      refine v_getR dX8_settle_57 fX8_74 rfl rfl rfl ?_
      refine v_iload_n dX8_settle_60 rfl rfl ?_
      refine v_iconst dX8_settle_61 (by decide) ?_
      refine v_iast dX8_settle_62 rfl (by omega) (by omega) ?_
      refine v_iinc (ls' := [_, _, _]) dX8_settle_63 rfl (fun hi_63 => by omega) rfl rfl ?_
      refine v_goto (tgt := 49) dX8_settle_66 (by decide) ?_
      refine v_kill (ls' := [_, _, _]) 2 rfl ?_
      refine ih (by omega) _ (fun o i q q2 => by rw [mset_off (by omega)]; exact f1 o i q q2) (by rw [mset_off (by omega)]; exact f2) (fun g hg => by rw [mset_off (by omega), mset_off (by omega), mset_off (by omega), mset_off (by omega)]; exact f3 g hg) (fun i hi => ?_)
      by_cases e : i = k.toNat
      · rw [e, mset_same]
      · rw [mset_off (by omega)]; exact f4 i (by omega)
  have lp1 : ∀ k : Int, 0 ≤ k → k ≤ 6 → ∀ m : Mem_, frT μ m → m 50 27 = 0 → (∀ g : Nat, (g : Int) < k → m 71 g = 0 ∧ m 73 g = 0 ∧ m 74 g = 0 ∧ m 75 g = 0) → V_ nX8_settle 7 [R_ 50, I_ k, U_] [] m Q := by
    refine loop_up _ (fun k h0 h1 ih => ?_)
    intro m f1 f2 f3
    refine v_iload_n dX8_settle_7 rfl rfl ?_
    refine v_bipush dX8_settle_8 (by decide) ?_
    refine v_icmp_ge (tgt := 47) dX8_settle_10 (by decide) (fun hc_10 => ?_) (fun hc_10 => ?_)
    · refine v_iconst dX8_settle_47 (by decide) ?_
      refine v_istore_n (ls' := [_, _, _]) dX8_settle_48 rfl rfl rfl rfl ?_
      refine v_kill (ls' := [_, _, _]) 2 rfl ?_
      exact lp2 0 (by omega) (by omega) m f1 f2 (fun g hg => f3 g (by omega)) (fun i hi => by omega)
    · refine v_aload_n dX8_settle_13 rfl rfl ?_
      refine v_getR dX8_settle_14 fX8_71 rfl rfl rfl ?_
      refine v_iload_n dX8_settle_17 rfl rfl ?_
      refine v_iconst dX8_settle_18 (by decide) ?_
      refine v_iast dX8_settle_19 rfl (by omega) (by omega) ?_
      refine v_aload_n dX8_settle_20 rfl rfl ?_
      refine v_getR dX8_settle_21 fX8_77 rfl rfl rfl ?_
      refine v_iload_n dX8_settle_24 rfl rfl ?_
      refine v_iconst dX8_settle_25 (by decide) ?_
      refine v_iast dX8_settle_26 rfl (by omega) (by omega) ?_
      refine v_aload_n dX8_settle_27 rfl rfl ?_
      refine v_getR dX8_settle_28 fX8_80 rfl rfl rfl ?_
      refine v_iload_n dX8_settle_31 rfl rfl ?_
      refine v_iconst dX8_settle_32 (by decide) ?_
      refine v_iast dX8_settle_33 rfl (by omega) (by omega) ?_
      refine v_aload_n dX8_settle_34 rfl rfl ?_
      refine v_getR dX8_settle_35 fX8_83 rfl rfl rfl ?_
      refine v_iload_n dX8_settle_38 rfl rfl ?_
      refine v_iconst dX8_settle_39 (by decide) ?_
      refine v_iast dX8_settle_40 rfl (by omega) (by omega) ?_
      refine v_iinc (ls' := [_, _, _]) dX8_settle_41 rfl (fun hi_41 => by omega) rfl rfl ?_
      refine v_goto (tgt := 7) dX8_settle_44 (by decide) ?_
      refine v_kill (ls' := [_, _, _]) 2 rfl ?_
      refine ih (by omega) _ (fun o i q q2 => by rw [mset_off (by omega), mset_off (by omega), mset_off (by omega), mset_off (by omega)]; exact f1 o i q q2) (by rw [mset_off (by omega), mset_off (by omega), mset_off (by omega), mset_off (by omega)]; exact f2) (fun g hg => ?_)
      by_cases e : g = k.toNat
      · subst e
        simp [mset]
      · have := f3 g (by omega)
        simp [mset, e, this]
  refine v_aload_n dX8_settle_0 rfl rfl ?_
  refine v_iconst dX8_settle_1 (by decide) ?_
  refine v_putI dX8_settle_2 fpX8_189 rfl rfl rfl ?_
  refine v_iconst dX8_settle_5 (by decide) ?_
  refine v_istore_n (ls' := [_, _, _]) dX8_settle_6 rfl rfl rfl rfl ?_
  exact lp1 0 (by omega) (by omega) _ (fun o i q q2 => mset_off (by omega)) (mset_same _ _ _ _) (fun g hg => by omega)
end
