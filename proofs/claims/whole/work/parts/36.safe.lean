/-! safe -/
def ctS (g : Nat → Nat) : Nat → Nat
  | 0 => 0
  | h + 1 => ctS g h + cntB 6 (g h)
theorem cntB_mono {a b s : Nat} (h : a ≤ b) : cntB a s ≤ cntB b s := by
  induction b with
  | zero => have : a = 0 := by omega
            rw [this]; exact Nat.le_refl _
  | succ b ih =>
    rcases Nat.lt_or_ge a (b + 1) with q | q
    · rw [cntB]; have := ih (by omega); omega
    · rw [show a = b + 1 by omega]; exact Nat.le_refl _
theorem ctS_mono {g : Nat → Nat} {a b : Nat} (h : a ≤ b) : ctS g a ≤ ctS g b := by
  induction b with
  | zero => have : a = 0 := by omega
            rw [this]; exact Nat.le_refl _
  | succ b ih =>
    rcases Nat.lt_or_ge a (b + 1) with q | q
    · rw [ctS]; have := ih (by omega); omega
    · rw [show a = b + 1 by omega]; exact Nat.le_refl _
theorem ctS_lt {g : Nat → Nat} {h x : Nat} (hh : h < 6) (hx : x < 6) (hb : (g h).testBit x = true) : ctS g h + cntB x (g h) < ctS g 6 := by
  have h1 : cntB (x + 1) (g h) ≤ cntB 6 (g h) := cntB_mono (by omega)
  rw [cntB, if_pos hb] at h1
  have h2 : ctS g (h + 1) ≤ ctS g 6 := ctS_mono (by omega)
  rw [ctS] at h2
  omega
theorem cnt_32 {s : Nat} (h : s < 64) : cntB 32 s = cntB 6 s := by
  have e1 := cntB_sm (n := 6) (m := 32) (s := s) (by omega) (by omega)
  have e2 := cntB_sm (n := 6) (m := 6) (s := s) (by omega) (by omega)
  omega
theorem ctS_sm {g : Nat → Nat} (h : ∀ j, j < 6 → g j < 64) : ∀ n, n ≤ 6 → smR n (fun h => (cntB 32 (g h) : Int)) = (ctS g n : Int) := by
  intro n
  induction n with
  | zero => intro _; rfl
  | succ n ih =>
    intro hn
    rw [smR, ctS, ih (by omega), cnt_32 (h n (by omega))]
    omega
/-- the row that tells a plan -/
def plRow (m : Mem_) (r : Int) (g : Nat → Nat) : Prop := m 2 r.toNat = 2 * (ctS g 6 : Int) ∧ ∀ h x : Nat, h < 6 → x < 6 → (g h).testBit x = true → m 3 ((r * 40).toNat + 2 * (ctS g h + cntB x (g h))) = (h : Int) ∧ m 3 ((r * 40).toNat + 2 * (ctS g h + cntB x (g h)) + 1) = (x : Int)
def saFr (μ m : Mem_) (r : Int) (n : Nat) : Prop := (∀ o i, o ≠ 2 → o ≠ 3 → ¬ (34 ≤ o ∧ o ≤ 40) → m o i = μ o i) ∧ (∀ i, i ≠ r.toNat → m 2 i = μ 2 i) ∧ (∀ i : Nat, ¬ ((r * 40).toNat ≤ i ∧ i < (r * 40).toNat + n) → m 3 i = μ 3 i)
section
variable {μ : Mem_} {Q : PV → Mem_ → Prop}
theorem neD_b {s : Nat} {due : Int} (hd : 0 ≤ due ∧ due ≤ 3) (h : Nat) : 0 ≤ neD μ s due h ∧ neD μ s due h ≤ 3 := by
  unfold neD
  split <;> omega
set_option maxRecDepth 10000 in
set_option maxHeartbeats 1000000 in
theorem c_X7_safe {n mm r : Int} (hst : isSt (stc μ)) (hs : StC μ (stc μ)) (hp : PIc μ) (hk1 : ok_1 μ)
    (h1 : ¬ ((1 ≤ n ∧ n ≤ 2) ∧ (0 ≤ mm ∧ mm ≤ 9) ∧ (0 ≤ r ∧ r < 6)) → Q (I_ (-1)) μ)
    (h2 : ((1 ≤ n ∧ n ≤ 2) ∧ (0 ≤ mm ∧ mm ≤ 9) ∧ (0 ≤ r ∧ r < 6)) → (¬ HPf (neD μ (stc μ) (n + 1)) (ofN μ (stc μ)) (fun _ => mm) 0 ∨ ∃ (g : Nat → Nat) (h : Nat), HPf (neD μ (stc μ) (n + 1)) (ofN μ (stc μ)) (fun _ => mm) 0 ∧ h < 6 ∧ greedy (neD μ (stc μ) (n + 1)) (fun x => (taN μ (stc μ) x : Int)) (ofN μ (stc μ)) (fun _ => mm) g h ∧ ∀ s : Nat, s ≤ taN μ (stc μ) h → ¬ FitF (neD μ (stc μ) (n + 1)) (fun x => (taN μ (stc μ) x : Int)) (ofN μ (stc μ)) (roomG (fun _ => mm) g h) h s) → ∀ m' : Mem_, frP μ m' → Q (I_ (-9)) m')
    (h3 : ((1 ≤ n ∧ n ≤ 2) ∧ (0 ≤ mm ∧ mm ≤ 9) ∧ (0 ≤ r ∧ r < 6)) → ∀ g : Nat → Nat, HPf (neD μ (stc μ) (n + 1)) (ofN μ (stc μ)) (fun _ => mm) 0 → greedy (neD μ (stc μ) (n + 1)) (fun x => (taN μ (stc μ) x : Int)) (ofN μ (stc μ)) (fun _ => mm) g 6 → ∀ m' : Mem_, saFr μ m' r (2 * ctS g 6) → plRow m' r g → Q (I_ (ctS g 6 : Int)) m') : V_ nX7_safe 0 [R_ 0, I_ n, I_ mm, I_ r, U_, U_, U_, U_] [] μ Q := by
  have hFc : ∀ m0 : Mem_, (1 ≤ n ∧ n ≤ 2) → (∀ x : Nat, x < 6 → m0 36 x = neD μ (stc μ) (n + 1) x ∧ m0 37 x = (taN μ (stc μ) x : Int) ∧ m0 38 x = (ofN μ (stc μ) x : Int) ∧ m0 39 x = mm ∧ m0 40 x = 0) → (HPf (m0 36) (plO m0) (m0 39) 0 ↔ HPf (neD μ (stc μ) (n + 1)) (ofN μ (stc μ)) (fun _ => mm) 0) ∧ (∀ g h s, h < 6 → (FitF (m0 36) (m0 37) (plO m0) (roomG (m0 39) g h) h s ↔ FitF (neD μ (stc μ) (n + 1)) (fun x => (taN μ (stc μ) x : Int)) (ofN μ (stc μ)) (roomG (fun _ => mm) g h) h s)) := by
    intro m0 hn hv
    have e1 : ∀ x, x < 6 → m0 36 x = neD μ (stc μ) (n + 1) x := fun x hx => (hv x hx).1
    have e2 : ∀ x, x < 6 → m0 37 x = (taN μ (stc μ) x : Int) := fun x hx => (hv x hx).2.1
    have e3 : ∀ x, x < 6 → plO m0 x = ofN μ (stc μ) x := fun x hx => by unfold plO; rw [(hv x hx).2.2.1]; rfl
    have e4 : ∀ x, x < 6 → m0 39 x = mm := fun x hx => (hv x hx).2.2.2.1
    refine ⟨⟨HPf_congr e1 e3 e4, HPf_congr (fun x hx => (e1 x hx).symm) (fun x hx => (e3 x hx).symm) (fun x hx => (e4 x hx).symm)⟩, fun g h s hh => ⟨FitF_congr hh e1 e2 e3 (fun x hx => ?_), FitF_congr hh (fun x hx => (e1 x hx).symm) (fun x hx => (e2 x hx).symm) (fun x hx => (e3 x hx).symm) (fun x hx => ?_)⟩⟩
    · unfold roomG; rw [e4 x hx]
    · unfold roomG; rw [e4 x hx]
  have lp : ((1 ≤ n ∧ n ≤ 2) ∧ (0 ≤ mm ∧ mm ≤ 9) ∧ (0 ≤ r ∧ r < 6)) → ∀ g : Nat → Nat, (∀ j, j < 6 → g j < 64) → ctS g 6 ≤ 18 → HPf (neD μ (stc μ) (n + 1)) (ofN μ (stc μ)) (fun _ => mm) 0 → greedy (neD μ (stc μ) (n + 1)) (fun x => (taN μ (stc μ) x : Int)) (ofN μ (stc μ)) (fun _ => mm) g 6 → ∀ h : Int, 0 ≤ h → h ≤ 6 → ∀ m1 : Mem_, saFr μ m1 r (2 * ctS g 6) → (∀ j : Nat, j < 6 → m1 40 j = (g j : Int)) → m1 2 r.toNat = 2 * (ctS g 6 : Int) → (∀ h' x' : Nat, h' < h.toNat → x' < 6 → (g h').testBit x' = true → 2 * (ctS g h' + cntB x' (g h')) + 1 < 2 * ctS g h.toNat ∧ m1 3 ((r * 40).toNat + 2 * (ctS g h' + cntB x' (g h'))) = (h' : Int) ∧ m1 3 ((r * 40).toNat + 2 * (ctS g h' + cntB x' (g h')) + 1) = (x' : Int)) → V_ nX7_safe 93 [R_ 0, I_ n, I_ mm, I_ r, I_ (ctS g 6 : Int), I_ ((2 * ctS g h.toNat : Nat) : Int), I_ h, U_] [] m1 Q := by
    intro hA g g64 g18 gH gG
    refine loop_up _ (fun h k0 k1 ih => ?_)
    intro m1 a1 a2 a3 a4
    have inn : h < 6 → ∀ x : Int, 0 ≤ x → x ≤ 6 → ∀ m2 : Mem_, saFr μ m2 r (2 * ctS g 6) → (∀ j : Nat, j < 6 → m2 40 j = (g j : Int)) → m2 2 r.toNat = 2 * (ctS g 6 : Int) → (∀ h' x' : Nat, (h' < h.toNat ∨ (h' = h.toNat ∧ (x' : Int) < x)) → x' < 6 → (g h').testBit x' = true → 2 * (ctS g h' + cntB x' (g h')) + 1 < 2 * (ctS g h.toNat + cntB x.toNat (g h.toNat)) ∧ m2 3 ((r * 40).toNat + 2 * (ctS g h' + cntB x' (g h'))) = (h' : Int) ∧ m2 3 ((r * 40).toNat + 2 * (ctS g h' + cntB x' (g h')) + 1) = (x' : Int)) → V_ nX7_safe 103 [R_ 0, I_ n, I_ mm, I_ r, I_ (ctS g 6 : Int), I_ ((2 * (ctS g h.toNat + cntB x.toNat (g h.toNat)) : Nat) : Int), I_ h, I_ x] [] m2 Q := by
      intro hh
      refine loop_up _ (fun x x0 x1 ihx => ?_)
      intro m2 b1 b2 b3 b4
      have gh := g64 h.toNat (by omega)
      have b2h := b2 h.toNat (by omega)
      have hkm : ∀ m3 : Mem_, (∀ i, m3 2 i = m2 2 i) → ok_1 m3 := by
        intro m3 e q hq
        rw [e q]
        by_cases z : q = r.toNat
        · rw [z, b3]; omega
        · rw [b1.2.1 q z]; exact hk1 q hq
      have hsz : ∀ m3 : Mem_, (∀ i, m3 2 i = m2 2 i) → sz_1 m3 r = 2 * (ctS g 6 : Int) := by
        intro m3 e
        rw [sze_1 (by omega), e, b3]
      have hlt := fun q : (g h.toNat).testBit x.toNat = true => fun z : x < 6 => ctS_lt (g := g) (h := h.toNat) (x := x.toNat) (by omega) (by omega) q
      have cs : cntB (x + 1).toNat (g h.toNat) = cntB x.toNat (g h.toNat) + (if (g h.toNat).testBit x.toNat = true then 1 else 0) := by
        rw [show (x + 1).toNat = x.toNat + 1 by omega, cntB]
      have pmax : ctS g h.toNat + cntB x.toNat (g h.toNat) ≤ 100 := by
        have q1 := cntB_le x.toNat (g h.toNat)
        have q2 : ctS g h.toNat ≤ ctS g 6 := ctS_mono (by omega)
        omega
      refine v_iload dX7_safe_103 rfl ?_
      refine v_bipush dX7_safe_105 (by decide) ?_
      refine v_icmp_ge (tgt := 163) dX7_safe_107 (by decide) (fun hc_107 => ?_) (fun hc_107 => ?_)
      · refine v_kill (ls' := [_, _, _, _, _, _, _, _]) 7 rfl ?_
        skip
        refine v_iinc (ls' := [_, _, _, _, _, _, _, _]) dX7_safe_163 rfl (fun hi_163 => by omega) rfl rfl ?_
        refine v_goto (tgt := 93) dX7_safe_166 (by decide) ?_
        refine v_kill (ls' := [_, _, _, _, _, _, _, _]) 7 rfl ?_
        have e6 : cntB x.toNat (g h.toNat) = cntB 6 (g h.toNat) := by rw [show x.toNat = 6 by omega]
        have ec : ctS g (h + 1).toNat = ctS g h.toNat + cntB x.toNat (g h.toNat) := by rw [show (h + 1).toNat = h.toNat + 1 by omega, ctS, e6]
        have := ih hh m2 b1 b2 b3 (fun h' x' q1 q2 q3 => ?_)
        · rw [ec] at this; exact this
        · rw [ec]
          exact b4 h' x' (by omega) q2 q3
      · refine v_aload_n dX7_safe_110 rfl rfl ?_
        refine v_getR dX7_safe_111 fX7_55 rfl rfl rfl ?_
        refine v_getR dX7_safe_114 fX7_277 rfl rfl rfl ?_
        refine v_iload dX7_safe_117 rfl ?_
        refine v_iald dX7_safe_119 rfl (by omega) (by omega) ?_
        rw [b2h]
        refine v_iload dX7_safe_120 rfl ?_
        refine v_callSi [_, _] dX7_safe_122 lX7_223 ksX7_has (plX7 _ _) (Or.inr rfl) rfl rfl rfl rfl rfl rfl (c_X7_has (by omega) (by omega) (by omega) ?_)
        refine v_ifb_eq (tgt := 157) dX7_safe_125 (by decide) (fun hc_125 => ?_) (fun hc_125 => ?_)
        · refine v_iinc (ls' := [_, _, _, _, _, _, _, _]) dX7_safe_157 rfl (fun hi_157 => by omega) rfl rfl ?_
          refine v_goto (tgt := 103) dX7_safe_160 (by decide) ?_
          rw [if_neg (by simpa using hc_125), Nat.add_zero] at cs
          have := ihx (by omega) m2 b1 b2 b3 (fun h' x' q1 q2 q3 => ?_)
          · rw [cs] at this; exact this
          · rw [cs]
            refine b4 h' x' ?_ q2 q3
            rcases q1 with q1 | ⟨q1, q1'⟩
            · exact Or.inl q1
            · refine Or.inr ⟨q1, ?_⟩
              by_cases e : x' = x.toNat
              · subst e
                rw [q1] at q3
                exact absurd (by simpa using q3) hc_125
              · omega
        · have hbit : (g h.toNat).testBit x.toNat = true := by simpa using hc_125
          have hlt := hlt hbit (by omega)
          refine v_aload_n dX7_safe_128 rfl rfl ?_
          refine v_getR dX7_safe_129 fX7_14 rfl rfl rfl ?_
          refine v_iload_n dX7_safe_132 rfl rfl ?_
          refine v_iload dX7_safe_133 rfl ?_
          refine v_iload dX7_safe_135 rfl ?_
          refine v_callVv [_, _, _] dX7_safe_137 lX7_99 kvX4_set (plX4 _ _) rfl rfl rfl rfl rfl rfl rfl rfl rfl rfl (c_X4_set_1 (hkm _ (fun _ => rfl)) ?_)
          rw [set_1, if_pos (by rw [hsz _ (fun _ => rfl)]; omega)]
          refine v_aload_n dX7_safe_140 rfl rfl ?_
          refine v_getR dX7_safe_141 fX7_14 rfl rfl rfl ?_
          refine v_iload_n dX7_safe_144 rfl rfl ?_
          refine v_iload dX7_safe_145 rfl ?_
          refine v_iconst dX7_safe_147 (by decide) ?_
          refine v_iadd dX7_safe_148 (fun ha hb => by omega) ?_
          refine v_iload dX7_safe_149 rfl ?_
          refine v_callVv [_, _, _] dX7_safe_151 lX7_99 kvX4_set (plX4 _ _) rfl rfl rfl rfl rfl rfl rfl rfl rfl rfl (c_X4_set_1 (hkm _ (fun i => mset_off (by omega))) ?_)
          rw [set_1, if_pos (by rw [hsz _ (fun i => mset_off (by omega))]; omega)]
          refine v_iinc (ls' := [_, _, _, _, _, _, _, _]) dX7_safe_154 rfl (fun hi_154 => by omega) rfl rfl ?_
          refine v_iinc (ls' := [_, _, _, _, _, _, _, _]) dX7_safe_157 rfl (fun hi_157 => by omega) rfl rfl ?_
          refine v_goto (tgt := 103) dX7_safe_160 (by decide) ?_
          rw [if_pos hbit] at cs
          have ei : (r * 40 + ((2 * (ctS g h.toNat + cntB x.toNat (g h.toNat)) : Nat) : Int)).toNat = (r * 40).toNat + 2 * (ctS g h.toNat + cntB x.toNat (g h.toNat)) := by omega
          have ei2 : (r * 40 + (((2 * (ctS g h.toNat + cntB x.toNat (g h.toNat)) : Nat) : Int) + 1)).toNat = (r * 40).toNat + 2 * (ctS g h.toNat + cntB x.toNat (g h.toNat)) + 1 := by omega
          have := ihx (by omega) (mset (mset m2 3 ((r * 40).toNat + 2 * (ctS g h.toNat + cntB x.toNat (g h.toNat))) h) 3 ((r * 40).toNat + 2 * (ctS g h.toNat + cntB x.toNat (g h.toNat)) + 1) x) ⟨fun o i q1 q2 q3 => by rw [mset_off (by omega), mset_off (by omega)]; exact b1.1 o i q1 q2 q3, fun i q => by rw [mset_off (by omega), mset_off (by omega)]; exact b1.2.1 i q, fun i q => by rw [mset_off (by omega), mset_off (by omega)]; exact b1.2.2 i q⟩ (fun j hj => by rw [mset_off (by omega), mset_off (by omega)]; exact b2 j hj) (by rw [mset_off (by omega), mset_off (by omega)]; exact b3) (fun h' x' q1 q2 q3 => ?_)
          · rw [cs] at this
            rw [ei, ei2]
            rw [show ((2 * (ctS g h.toNat + (cntB x.toNat (g h.toNat) + 1)) : Nat) : Int) = ((2 * (ctS g h.toNat + cntB x.toNat (g h.toNat)) : Nat) : Int) + 2 by omega] at this
            exact this
          · rw [cs]
            by_cases e : h' = h.toNat ∧ x' = x.toNat
            · obtain ⟨rfl, rfl⟩ := e
              rw [mset_off (by omega), mset_same, mset_same]
              exact ⟨by omega, by omega, by omega⟩
            · have hb4 := b4 h' x' (by omega) q2 q3
              rw [mset_off (by omega), mset_off (by omega), mset_off (by omega), mset_off (by omega)]
              exact ⟨by omega, hb4.2⟩
    refine v_iload dX7_safe_93 rfl ?_
    refine v_bipush dX7_safe_95 (by decide) ?_
    refine v_icmp_ge (tgt := 169) dX7_safe_97 (by decide) (fun hc_97 => ?_) (fun hc_97 => ?_)
    · refine v_iload dX7_safe_169 rfl ?_
      refine v_ireturn dX7_safe_171 rfl ?_
      have e6 : h.toNat = 6 := by omega
      refine h3 hA g gH gG m1 a1 ⟨a3, fun h' x' q1 q2 q3 => (a4 h' x' (by omega) q2 q3).2⟩
    · refine v_iconst dX7_safe_100 (by decide) ?_
      refine v_istore (ls' := [_, _, _, _, _, _, _, _]) dX7_safe_101 rfl rfl rfl ?_
      have := inn (by omega) 0 (by omega) (by omega) m1 a1 a2 a3 (fun h' x' q1 q2 q3 => ?_)
      · rw [show (0 : Int).toNat = 0 from rfl, cntB, Nat.add_zero] at this
        exact this
      · rw [show (0 : Int).toNat = 0 from rfl, cntB, Nat.add_zero]
        exact a4 h' x' (by omega) q2 q3
  have n1 : n + 1 = n + 1 := rfl
  refine v_iload_n dX7_safe_0 rfl rfl ?_
  refine v_iconst dX7_safe_1 (by decide) ?_
  refine v_icmp_lt (tgt := 31) dX7_safe_2 (by decide) (fun hc_2 => ?_) (fun hc_2 => ?_)
  · refine v_iconst dX7_safe_31 (by decide) ?_
    refine v_ireturn dX7_safe_32 rfl ?_
    first
      | exact h1 (by omega)
      | (refine h2 hA ?_ m1 (fun o i q => by rw [y3 o i (by omega) (by omega)]; exact p1 o i q)
         rcases y1 with y1 | ⟨g, h, z1, z2, z3, z4⟩
         · exact Or.inl (fun z => y1 (hq1.mpr z))
         · exact Or.inr ⟨g, h, hq1.mp z1, z2, grd g h (by omega) z3, fun s hs2 z => z4 s (by rw [(p2 h z2).2.1]; omega) ((hq2 g h s z2).mpr z)⟩)
  · refine v_iload_n dX7_safe_5 rfl rfl ?_
    refine v_iconst dX7_safe_6 (by decide) ?_
    refine v_icmp_gt (tgt := 31) dX7_safe_7 (by decide) (fun hc_7 => ?_) (fun hc_7 => ?_)
    · refine v_iconst dX7_safe_31 (by decide) ?_
      refine v_ireturn dX7_safe_32 rfl ?_
      first
        | exact h1 (by omega)
        | (refine h2 hA ?_ m1 (fun o i q => by rw [y3 o i (by omega) (by omega)]; exact p1 o i q)
           rcases y1 with y1 | ⟨g, h, z1, z2, z3, z4⟩
           · exact Or.inl (fun z => y1 (hq1.mpr z))
           · exact Or.inr ⟨g, h, hq1.mp z1, z2, grd g h (by omega) z3, fun s hs2 z => z4 s (by rw [(p2 h z2).2.1]; omega) ((hq2 g h s z2).mpr z)⟩)
    · refine v_iload_n dX7_safe_10 rfl rfl ?_
      refine v_if_lt (tgt := 31) dX7_safe_11 (by decide) (fun hc_11 => ?_) (fun hc_11 => ?_)
      · refine v_iconst dX7_safe_31 (by decide) ?_
        refine v_ireturn dX7_safe_32 rfl ?_
        first
          | exact h1 (by omega)
          | (refine h2 hA ?_ m1 (fun o i q => by rw [y3 o i (by omega) (by omega)]; exact p1 o i q)
             rcases y1 with y1 | ⟨g, h, z1, z2, z3, z4⟩
             · exact Or.inl (fun z => y1 (hq1.mpr z))
             · exact Or.inr ⟨g, h, hq1.mp z1, z2, grd g h (by omega) z3, fun s hs2 z => z4 s (by rw [(p2 h z2).2.1]; omega) ((hq2 g h s z2).mpr z)⟩)
      · refine v_iload_n dX7_safe_14 rfl rfl ?_
        refine v_bipush dX7_safe_15 (by decide) ?_
        refine v_icmp_gt (tgt := 31) dX7_safe_17 (by decide) (fun hc_17 => ?_) (fun hc_17 => ?_)
        · refine v_iconst dX7_safe_31 (by decide) ?_
          refine v_ireturn dX7_safe_32 rfl ?_
          first
            | exact h1 (by omega)
            | (refine h2 hA ?_ m1 (fun o i q => by rw [y3 o i (by omega) (by omega)]; exact p1 o i q)
               rcases y1 with y1 | ⟨g, h, z1, z2, z3, z4⟩
               · exact Or.inl (fun z => y1 (hq1.mpr z))
               · exact Or.inr ⟨g, h, hq1.mp z1, z2, grd g h (by omega) z3, fun s hs2 z => z4 s (by rw [(p2 h z2).2.1]; omega) ((hq2 g h s z2).mpr z)⟩)
        · refine v_aload_n dX7_safe_20 rfl rfl ?_
          refine v_getR dX7_safe_21 fX7_14 rfl rfl rfl ?_
          refine v_iload_n dX7_safe_24 rfl rfl ?_
          refine v_callVi [_] dX7_safe_25 lX7_115 kvX4_knows (plX4 _ _) (Or.inr rfl) rfl rfl rfl rfl rfl rfl rfl rfl rfl (c_X4_knows_1 ?_)
          refine v_ifb_ne (tgt := 33) dX7_safe_28 (by decide) (fun hc_28 => ?_) (fun hc_28 => ?_)
          · have hA : (1 ≤ n ∧ n ≤ 2) ∧ (0 ≤ mm ∧ mm ≤ 9) ∧ (0 ≤ r ∧ r < 6) := by omega
            refine v_aload_n dX7_safe_33 rfl rfl ?_
            refine v_getR dX7_safe_34 fX7_55 rfl rfl rfl ?_
            refine v_aload_n dX7_safe_37 rfl rfl ?_
            refine v_getX dX7_safe_38 fX7_66 rfl rfl rfl ?_
            show V_ _ _ _ (R_ (stc _) :: _) _ _
            refine v_aload_n dX7_safe_41 rfl rfl ?_
            refine v_getR dX7_safe_42 fX7_34 rfl rfl rfl ?_
            refine v_iload_n dX7_safe_45 rfl rfl ?_
            refine v_iconst dX7_safe_46 (by decide) ?_
            refine v_iadd dX7_safe_47 (fun ha hb => by omega) ?_
            refine v_iload_n dX7_safe_48 rfl rfl ?_
            refine v_callVv [_, _, _, _] dX7_safe_49 lX7_264 kvX1_prepare (plX1 _ _) rfl rfl rfl rfl rfl rfl rfl rfl rfl rfl (c_X1_prepare hst hs hp (by omega) (fun m0 p1 p2 => ?_))
            obtain ⟨hq1, hq2⟩ := hFc m0 hA.1 p2
            have hPL : PLok m0 := by
              intro x hx
              obtain ⟨c1, c2, c3, c4, c5⟩ := p2 x hx
              have z1 := neD_b (μ := μ) (s := stc μ) (due := n + 1) (by omega) x
              have z2 := taN_lt hs x
              have z3 := ofN_lt (μ := μ) (s := stc μ) x
              rw [c1, c2, c3, c4]
              exact ⟨z1, by omega, by omega, hA.2.1⟩
            have grd : ∀ g k, k ≤ 6 → greedy (m0 36) (m0 37) (plO m0) (m0 39) g k → greedy (neD μ (stc μ) (n + 1)) (fun x => (taN μ (stc μ) x : Int)) (ofN μ (stc μ)) (fun _ => mm) g k := by
              intro g k hk6 hg h hh
              obtain ⟨d1, d2, d3⟩ := hg h hh
              exact ⟨by show (g h : Int) ≤ (taN μ (stc μ) h : Int); rw [← (p2 h (by omega)).2.1]; exact d1, (hq2 g h _ (by omega)).mp d2, fun s hs2 z => d3 s hs2 ((hq2 g h s (by omega)).mpr z)⟩
            refine v_aload_n dX7_safe_52 rfl rfl ?_
            refine v_getR dX7_safe_53 fX7_55 rfl rfl rfl ?_
            refine v_callVi [] dX7_safe_56 lX7_268 kvX1_isFound (plX1 _ _) (Or.inr rfl) rfl rfl rfl rfl rfl rfl rfl rfl rfl (c_X1_isFound hPL ?_ ?_)
            · intro y1 g y2 m1 y3 y4
              refine v_if_ne (tgt := 65) dX7_safe_59 (by decide) (fun _ => ?_) (fun q => absurd (by decide) q)
              have g64 : ∀ j, j < 6 → g j < 64 := fun j hj => by
                have a := (y2 j hj).1
                have b := (hPL j hj).2.1
                omega
              have cD : ∀ j, j < 6 → cntB 6 (g j) ≤ 3 := fun j hj => by
                have a := (y2 j hj).2.1.1.2
                have b := (hPL j hj).1
                rw [cnt_32 (g64 j hj)] at a
                omega
              have g18 : ctS g 6 ≤ 18 := by
                have a0 := cD 0 (by omega); have a1 := cD 1 (by omega); have a2 := cD 2 (by omega); have a3 := cD 3 (by omega); have a4 := cD 4 (by omega); have a5 := cD 5 (by omega)
                simp only [ctS]
                omega
              refine v_aload_n dX7_safe_65 rfl rfl ?_
              refine v_getR dX7_safe_66 fX7_55 rfl rfl rfl ?_
              refine v_callVi [] dX7_safe_69 lX7_272 kvX1_size (plX1 _ _) (Or.inl rfl) rfl rfl rfl rfl rfl rfl rfl rfl rfl (c_X1_size (g := g) (fun h hh => ⟨y4 h hh, g64 h hh⟩) ?_)
              rw [ctS_sm g64 6 (Nat.le_refl _)]
              refine v_istore (ls' := [_, _, _, _, _, _, _, _]) dX7_safe_72 rfl rfl rfl ?_
              refine v_aload_n dX7_safe_74 rfl rfl ?_
              refine v_getR dX7_safe_75 fX7_14 rfl rfl rfl ?_
              refine v_iload_n dX7_safe_78 rfl rfl ?_
              refine v_iconst dX7_safe_79 (by decide) ?_
              refine v_iload dX7_safe_80 rfl ?_
              refine v_imul dX7_safe_82 (fun ha hb => by omega) ?_
              refine v_iconst dX7_safe_83 (by decide) ?_
              refine v_callVv [_, _, _] dX7_safe_84 lX7_274 kvX4_renew (plX4 _ _) rfl rfl rfl rfl rfl rfl rfl rfl rfl rfl (c_X4_renew_1 hA.2.2 (by omega) ?_)
              refine v_iconst dX7_safe_87 (by decide) ?_
              refine v_istore (ls' := [_, _, _, _, _, _, _, _]) dX7_safe_88 rfl rfl rfl ?_
              refine v_iconst dX7_safe_90 (by decide) ?_
              refine v_istore (ls' := [_, _, _, _, _, _, _, _]) dX7_safe_91 rfl rfl rfl ?_
              have en : (2 * (ctS g 6 : Int)).toNat = 2 * ctS g 6 := by omega
              refine lp hA g g64 g18 (hq1.mp y1) (grd g 6 (Nat.le_refl _) y2) 0 (by omega) (by omega) _ ⟨fun o i q1 q2 q3 => ?_, fun i q => ?_, fun i q => ?_⟩ (fun j hj => ?_) ?_ (fun h' x' q => absurd q (by omega))
              · rw [mfill_off (by omega), mset_off (by omega), y3 o i (by omega) (by omega)]; exact p1 o i (by omega)
              · rw [mfill_off (by omega), mset_off (by omega), y3 2 i (by omega) (by omega)]; exact p1 2 i (by omega)
              · unfold mfill
                rw [if_neg (fun z => q (by rw [en] at z; exact z.2)), mset_off (by omega), y3 3 i (by omega) (by omega)]; exact p1 3 i (by omega)
              · rw [mfill_off (by omega), mset_off (by omega)]; exact y4 j hj
              · rw [mfill_off (by omega), mset_same]
            · intro y1 m1 y3
              refine v_if_ne (tgt := 65) dX7_safe_59 (by decide) (fun q => absurd q (by decide)) (fun _ => ?_)
              refine v_bipush dX7_safe_62 (by decide) ?_
              refine v_ireturn dX7_safe_64 rfl ?_
              first
                | exact h1 (by omega)
                | (refine h2 hA ?_ m1 (fun o i q => by rw [y3 o i (by omega) (by omega)]; exact p1 o i q)
                   rcases y1 with y1 | ⟨g, h, z1, z2, z3, z4⟩
                   · exact Or.inl (fun z => y1 (hq1.mpr z))
                   · exact Or.inr ⟨g, h, hq1.mp z1, z2, grd g h (by omega) z3, fun s hs2 z => z4 s (by rw [(p2 h z2).2.1]; omega) ((hq2 g h s z2).mpr z)⟩)
          · refine v_iconst dX7_safe_31 (by decide) ?_
            refine v_ireturn dX7_safe_32 rfl ?_
            first
              | exact h1 (by omega)
              | (refine h2 hA ?_ m1 (fun o i q => by rw [y3 o i (by omega) (by omega)]; exact p1 o i q)
                 rcases y1 with y1 | ⟨g, h, z1, z2, z3, z4⟩
                 · exact Or.inl (fun z => y1 (hq1.mpr z))
                 · exact Or.inr ⟨g, h, hq1.mp z1, z2, grd g h (by omega) z3, fun s hs2 z => z4 s (by rw [(p2 h z2).2.1]; omega) ((hq2 g h s z2).mpr z)⟩)
end
