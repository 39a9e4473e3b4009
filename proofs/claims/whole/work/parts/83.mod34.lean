/-! the model over the class: the quickest way, walked -/
section
variable {μ w : Mem_} {Q : PV → Mem_ → Prop}
theorem c_X8_reachC {n L i c : Nat} {a a0 s0 : St3} {q : Nat → St3} {mn : Nat → Nat} {step : St3 → St3 → Prop} {G T : St3 → Prop} (hn : n ≤ 6) (ha : vM n a) (hm : MV n μ L q mn) (hB : BFp step s0 G q mn i L T) (hi : i < L) (e1 : q i = a0) (e2 : mn i = c) (hs : step a0 a) (hQ : ∀ (m : Mem_) (L' : Nat) (q' : Nat → St3) (mn' : Nat → Nat), frQ μ m → MV n m L' q' mn' → BFp step s0 G q' mn' i L' (fun u => T u ∨ u = a) → i < L' → q' i = a0 → mn' i = c → Q U_ m) : V_ nX8_reach 0 [R_ 50, I_ (cdM a : Int), I_ ((c : Int) + 1)] [] μ Q := by
  subst e1 e2
  exact c_X8_reachB hn ha hm hB hi hs hQ
def stM (w : Mem_) (p own : Int) : St3 → St3 → Prop := fun a b =>
  (0 < a.1 ∧ b = (a.1 - 1, a.2.1, a.2.2)) ∨ (a.1 + 1 < (w (stc w) 0).toNat ∧ b = (a.1 + 1, a.2.1, a.2.2)) ∨ (a.1 < (w (stc w) 0).toNat ∧ b = (a.1, a.2.1 ||| 2 ^ a.1, a.2.2)) ∨ (a.1 < (w (stc w) 0).toNat ∧ (oN w p own a.2.1 a.2.2).testBit a.1 = true ∧ b = (a.1, a.2.1, a.2.2 ||| 2 ^ a.1))
def gM (set : Nat) (home : Int) (start : Nat) : St3 → Prop := fun a => set ^^^ (set &&& a.2.2) = 0 ∧ (home = 0 ∨ a.1 = start)
set_option maxRecDepth 10000 in
theorem c_X8_startOf {p : Int} (hw : CW w) (hc : CP μ w) (hpp : 0 ≤ p ∧ p < w (stc w) 1) (h : Q (I_ (staN w p : Int)) μ) : V_ nX8_startOf 0 [R_ 50, I_ p] [] μ Q := by
  have e1 := (hc.1.2.2 p.toNat (by omega)).1
  have e2 := hw.1.2.2.2.2 p.toNat (by omega)
  have s2 := hw.1.2.2.1
  unfold staN at h
  refine v_aload_n dX8_startOf_0 rfl rfl ?_
  refine v_getR dX8_startOf_1 fX8_32 rfl rfl rfl ?_
  refine v_iload_n dX8_startOf_4 rfl rfl ?_
  refine v_iald dX8_startOf_5 rfl (by omega) (by omega) ?_
  rw [e1]
  refine v_bipush dX8_startOf_6 (by decide) ?_
  refine v_icmp_ne (tgt := 15) dX8_startOf_8 (by decide) (fun hc_8 => ?_) (fun hc_8 => ?_)
  · refine v_aload_n dX8_startOf_15 rfl rfl ?_
    refine v_getR dX8_startOf_16 fX8_32 rfl rfl rfl ?_
    refine v_iload_n dX8_startOf_19 rfl rfl ?_
    refine v_iald dX8_startOf_20 rfl (by omega) (by omega) ?_
    rw [e1]
    refine v_ireturn dX8_startOf_21 rfl ?_
    first | rwa [if_neg (by omega)] at h | (rw [if_pos (by omega)] at h; rwa [show (((w (stc w + 2) p.toNat).toNat : Nat) : Int) = w (stc w + 2) p.toNat by omega] at h)
  · refine v_iconst dX8_startOf_11 (by decide) ?_
    refine v_goto (tgt := 21) dX8_startOf_12 (by decide) ?_
    refine v_ireturn dX8_startOf_21 rfl ?_
    first | rwa [if_neg (by omega)] at h | (rw [if_pos (by omega)] at h; rwa [show (((w (stc w + 2) p.toNat).toNat : Nat) : Int) = w (stc w + 2) p.toNat by omega] at h)
set_option maxRecDepth 10000 in
theorem c_X8_quickest {p own home : Int} {set : Nat} (hw : CW w) (hc : CP μ w) (hpp : 0 ≤ p ∧ p < w (stc w) 1) (hset : set < 64) (hQ : ∀ (r : Int) (m : Mem_), Lst (gRS (stM w p own) (staN w p, 0, 0) (gM set home (staN w p))) r → frY μ m → Q (I_ r) m) : V_ nX8_quickest 0 [R_ 50, I_ p, I_ (set : Int), I_ own, I_ home, U_, U_, U_, U_, U_, U_] [] μ Q := by
  have s1 := hw.1.2.1
  have s2 := hw.1.2.2.1
  have hn6 : (w (stc w) 0).toNat ≤ 6 := by omega
  have hsta : staN w p < 6 := by
    have e2 := hw.1.2.2.2.2 p.toNat (by omega)
    unfold staN
    split <;> omega
  generalize hN : (w (stc w) 0).toNat = N at *
  have hpos : 0 < 2 ^ N := Nat.two_pow_pos _
  have hle : 2 ^ N ≤ 2 ^ 6 := Nat.pow_le_pow_right (by omega) hn6
  have lp : ∀ i : Nat, i ≤ 24576 → ∀ (m : Mem_) (L : Nat) (q : Nat → St3) (mn : Nat → Nat), frY μ m → WLk w p own (w (stc w) 1).toNat m → MV N m L q mn → BFp (stM w p own) (staN w p, 0, 0) (gM set home (staN w p)) q mn i L (fun _ => False) → V_ nX8_quickest 29 [R_ 50, I_ p, I_ (set : Int), I_ own, I_ home, I_ (i : Int), U_, U_, U_, U_, U_] [] m Q := by
    refine loop_dn (fun i => 24576 - i) (fun i ih => ?_)
    intro hi m L q mn f1 f2 f3 f4
    have hL := MV_le hn6 f3
    have e42 := f3.1
    have hiL := f4.1.2.1
    by_cases hlt : i < L
    · obtain ⟨v1, v2, v3, v4⟩ := f3.2.1 i hlt
      have v64 := vM_64 hn6 v1
      generalize hqi : q i = a at *
      generalize hmi : mn i = c at *
      obtain ⟨x, l, b⟩ := a
      have d1 := cdM_1 v64.1
      have d2 := cdM_2 v64.1 v64.2.1
      have d3 := cdM_3 v64.1 v64.2.1
      have hv1 := v1.2.1
      have hv2 := v1.2.2
      generalize hcd : cdM (x, l, b) = cd at *
      simp only at v64 d1 d2 d3 hv1 hv2
      have hcdl : cd < 24576 := by rw [← hcd]; exact cdM_lt hn6 v1
      have t1 : ((cd : Nat) : Int).tmod 6 = (x : Int) := by rw [show (6 : Int) = ((6 : Nat) : Int) from rfl, tmod_nat, d1]
      have t2 : (((cd : Nat) : Int).tdiv 6).tmod 64 = (l : Int) := by rw [show (6 : Int) = ((6 : Nat) : Int) from rfl, tdiv_nat, show (64 : Int) = ((64 : Nat) : Int) from rfl, tmod_nat, d2]
      have t3 : (((cd : Nat) : Int).tdiv 6).tdiv 64 = (b : Int) := by rw [show (6 : Int) = ((6 : Nat) : Int) from rfl, tdiv_nat, show (64 : Int) = ((64 : Nat) : Int) from rfl, tdiv_nat, d3]
      have ebn := bAnd_not (a := set) (b := b) (by omega) (by omega)
      have hcm0 := f1.cp hc
      have lx : x < N → 2 ^ x < 2 ^ N := fun q => Nat.pow_lt_pow_right (by omega) q
      -- behind the four
      have p229 : ¬ gM set home (staN w p) (x, l, b) → ∀ T : St3 → Prop, (∀ t, stM w p own (x, l, b) t → T t) → ∀ (m' : Mem_) (L' : Nat) (q' : Nat → St3) (mn' : Nat → Nat), frQ m m' → MV N m' L' q' mn' → BFp (stM w p own) (staN w p, 0, 0) (gM set home (staN w p)) q' mn' i L' T → i < L' → q' i = (x, l, b) → mn' i = c → V_ nX8_quickest 229 [R_ 50, I_ p, I_ (set : Int), I_ own, I_ home, I_ (i : Int), U_, U_, U_, U_, U_] [] m' Q := by
        intro hG T hT m' L' q' mn' g1 g2 g3 g4 g5 g6
        have := ih (i + 1) (by omega) (by omega) m' L' q' mn' (f1.tr g1.y) (g1.wl f2) g2 (BFp_next g3 g4 (by rw [g5]; exact hT) (by rw [g5]; exact hG))
        refine v_iinc (ls' := [_, _, _, _, _, _, _, _, _, _, _]) dX8_quickest_229 rfl (fun hi_229 => by omega) rfl rfl ?_
        refine v_goto (tgt := 29) dX8_quickest_232 (by decide) ?_
        refine v_kill (ls' := [_, _, _, _, _, _, _, _, _, _, _]) 6 rfl ?_
        refine v_kill (ls' := [_, _, _, _, _, _, _, _, _, _, _]) 7 rfl ?_
        refine v_kill (ls' := [_, _, _, _, _, _, _, _, _, _, _]) 8 rfl ?_
        refine v_kill (ls' := [_, _, _, _, _, _, _, _, _, _, _]) 9 rfl ?_
        refine v_kill (ls' := [_, _, _, _, _, _, _, _, _, _, _]) 10 rfl ?_
        exact this
      have p167 : ¬ gM set home (staN w p) (x, l, b) → ∀ T : St3 → Prop, (∀ t, (0 < x ∧ t = (x - 1, l, b)) ∨ (x + 1 < N ∧ t = (x + 1, l, b)) → T t) → ∀ (m' : Mem_) (L' : Nat) (q' : Nat → St3) (mn' : Nat → Nat), frQ m m' → MV N m' L' q' mn' → BFp (stM w p own) (staN w p, 0, 0) (gM set home (staN w p)) q' mn' i L' T → i < L' → q' i = (x, l, b) → mn' i = c → V_ nX8_quickest 167 [R_ 50, I_ p, I_ (set : Int), I_ own, I_ home, I_ (i : Int), U_, I_ (x : Int), I_ (l : Int), I_ (b : Int), I_ ((c : Int) + 1)] [] m' Q := by
        intro hG T hT m' L' q' mn' g1 g2 g3 g4 g5 g6
        have hcm := (f1.tr g1.y).cp hc
        have c10 := hcm.1.1.1
        refine v_iload dX8_quickest_167 rfl ?_
        refine v_aload_n dX8_quickest_169 rfl rfl ?_
        refine v_getI dX8_quickest_170 fX8_180 rfl rfl rfl ?_
        refine v_icmp_ge (tgt := 229) dX8_quickest_173 (by decide) (fun hc_173 => ?_) (fun hc_173 => ?_)
        · refine v_kill (ls' := [_, _, _, _, _, _, _, _, _, _, _]) 6 rfl ?_
          refine v_kill (ls' := [_, _, _, _, _, _, _, _, _, _, _]) 7 rfl ?_
          refine v_kill (ls' := [_, _, _, _, _, _, _, _, _, _, _]) 8 rfl ?_
          refine v_kill (ls' := [_, _, _, _, _, _, _, _, _, _, _]) 9 rfl ?_
          refine v_kill (ls' := [_, _, _, _, _, _, _, _, _, _, _]) 10 rfl ?_
          first
            | (refine p229 hG _ (fun t ht => ?_) m3 L3 q3 mn3 (fun o k q1 q2 q3 => by rw [n1 o k q1 q2 q3, k1 o k q1 q2 q3]; exact g1 o k q1 q2 q3) n2 n3 n4 n5 n6
               unfold stM at ht
               rw [hN] at ht
               simp only at ht
               rcases ht with ht | ht | ht | ht
               · exact Or.inl (Or.inl (hT t (Or.inl ht)))
               · exact Or.inl (Or.inl (hT t (Or.inr ht)))
               · exact Or.inl (Or.inr ht.2)
               · exact Or.inr ht.2.2)
            | (refine p229 hG _ (fun t ht => ?_) m2 L2 q2 mn2 (fun o k q1 q2 q3 => by rw [k1 o k q1 q2 q3]; exact g1 o k q1 q2 q3) k2 k3 k4 k5 k6
               unfold stM at ht
               rw [hN] at ht
               simp only at ht
               rcases ht with ht | ht | ht | ht
               · exact Or.inl (hT t (Or.inl ht))
               · exact Or.inl (hT t (Or.inr ht))
               · exact Or.inr ht.2
               · exact absurd ht.2.1 (by simpa using hc_206))
            | (refine p229 hG T (fun t ht => ?_) m' L' q' mn' g1 g2 g3 g4 g5 g6
               unfold stM at ht
               rw [hN] at ht
               simp only at ht
               rcases ht with ht | ht | ht | ht
               · exact hT t (Or.inl ht)
               · exact hT t (Or.inr ht)
               · omega
               · omega)
        · refine v_aload_n dX8_quickest_176 rfl rfl ?_
          refine v_iload dX8_quickest_177 rfl ?_
          refine v_iload dX8_quickest_179 rfl ?_
          refine v_iconst dX8_quickest_181 (by decide) ?_
          refine v_iload dX8_quickest_182 rfl ?_
          refine v_ishl dX8_quickest_184 ?_
          refine v_ior dX8_quickest_185 ?_
          rw [bShl_one (by omega) (by omega), bOr_nat (by omega) (pow2_31 (by omega)), Int.toNat_natCast]
          refine v_iload dX8_quickest_186 rfl ?_
          refine v_callSi [_, _, _] dX8_quickest_188 lX8_293 ksX8_stateOf (plX8 _ _) (Or.inl rfl) rfl rfl rfl rfl rfl rfl (c_X8_stateOf (a := (x, l ||| 2 ^ x, b)) ⟨v64.1, Nat.or_lt_two_pow (n := 6) v64.2.1 (by have := lx (by omega); omega), v64.2.2⟩ ?_)
          refine v_iload dX8_quickest_191 rfl ?_
          refine v_callVv [_, _] dX8_quickest_193 lX8_297 kvX8_reach (plX8 _ _) rfl rfl rfl rfl rfl rfl rfl rfl rfl rfl (c_X8_reachC (a := (x, l ||| 2 ^ x, b)) hn6 ⟨v64.1, Nat.or_lt_two_pow hv1 (lx (by omega)), hv2⟩ g2 g3 g4 g5 g6 (Or.inr (Or.inr (Or.inl ⟨by rw [hN]; show x < N; omega, rfl⟩))) (fun m2 L2 q2 mn2 k1 k2 k3 k4 k5 k6 => ?_))
          refine v_aload_n dX8_quickest_196 rfl rfl ?_
          refine v_iload dX8_quickest_197 rfl ?_
          refine v_iload dX8_quickest_199 rfl ?_
          refine v_iload dX8_quickest_201 rfl ?_
          refine v_callVi [_, _, _] dX8_quickest_203 lX8_301 kvX8_isOpenTo (plX8 _ _) (Or.inr rfl) rfl rfl rfl rfl rfl rfl rfl rfl rfl (c_X8_isOpenTo (own := own) hw ((f1.tr (g1.y.tr k1.y)).cp hc) hpp.1 (k1.wl (g1.wl f2)) (by rw [hN]; exact hv1) v64.2.2 (by omega) ?_)
          refine v_ifb_eq (tgt := 229) dX8_quickest_206 (by decide) (fun hc_206 => ?_) (fun hc_206 => ?_)
          · refine v_kill (ls' := [_, _, _, _, _, _, _, _, _, _, _]) 6 rfl ?_
            refine v_kill (ls' := [_, _, _, _, _, _, _, _, _, _, _]) 7 rfl ?_
            refine v_kill (ls' := [_, _, _, _, _, _, _, _, _, _, _]) 8 rfl ?_
            refine v_kill (ls' := [_, _, _, _, _, _, _, _, _, _, _]) 9 rfl ?_
            refine v_kill (ls' := [_, _, _, _, _, _, _, _, _, _, _]) 10 rfl ?_
            first
              | (refine p229 hG _ (fun t ht => ?_) m3 L3 q3 mn3 (fun o k q1 q2 q3 => by rw [n1 o k q1 q2 q3, k1 o k q1 q2 q3]; exact g1 o k q1 q2 q3) n2 n3 n4 n5 n6
                 unfold stM at ht
                 rw [hN] at ht
                 simp only at ht
                 rcases ht with ht | ht | ht | ht
                 · exact Or.inl (Or.inl (hT t (Or.inl ht)))
                 · exact Or.inl (Or.inl (hT t (Or.inr ht)))
                 · exact Or.inl (Or.inr ht.2)
                 · exact Or.inr ht.2.2)
              | (refine p229 hG _ (fun t ht => ?_) m2 L2 q2 mn2 (fun o k q1 q2 q3 => by rw [k1 o k q1 q2 q3]; exact g1 o k q1 q2 q3) k2 k3 k4 k5 k6
                 unfold stM at ht
                 rw [hN] at ht
                 simp only at ht
                 rcases ht with ht | ht | ht | ht
                 · exact Or.inl (hT t (Or.inl ht))
                 · exact Or.inl (hT t (Or.inr ht))
                 · exact Or.inr ht.2
                 · exact absurd ht.2.1 (by simpa using hc_206))
              | (refine p229 hG T (fun t ht => ?_) m' L' q' mn' g1 g2 g3 g4 g5 g6
                 unfold stM at ht
                 rw [hN] at ht
                 simp only at ht
                 rcases ht with ht | ht | ht | ht
                 · exact hT t (Or.inl ht)
                 · exact hT t (Or.inr ht)
                 · omega
                 · omega)
          · refine v_aload_n dX8_quickest_209 rfl rfl ?_
            refine v_iload dX8_quickest_210 rfl ?_
            refine v_iload dX8_quickest_212 rfl ?_
            refine v_iload dX8_quickest_214 rfl ?_
            refine v_iconst dX8_quickest_216 (by decide) ?_
            refine v_iload dX8_quickest_217 rfl ?_
            refine v_ishl dX8_quickest_219 ?_
            refine v_ior dX8_quickest_220 ?_
            rw [bShl_one (by omega) (by omega), bOr_nat (by omega) (pow2_31 (by omega)), Int.toNat_natCast]
            refine v_callSi [_, _, _] dX8_quickest_221 lX8_293 ksX8_stateOf (plX8 _ _) (Or.inl rfl) rfl rfl rfl rfl rfl rfl (c_X8_stateOf (a := (x, l, b ||| 2 ^ x)) ⟨v64.1, v64.2.1, Nat.or_lt_two_pow (n := 6) v64.2.2 (by have := lx (by omega); omega)⟩ ?_)
            refine v_iload dX8_quickest_224 rfl ?_
            refine v_callVv [_, _] dX8_quickest_226 lX8_297 kvX8_reach (plX8 _ _) rfl rfl rfl rfl rfl rfl rfl rfl rfl rfl (c_X8_reachC (a := (x, l, b ||| 2 ^ x)) hn6 ⟨v64.1, hv1, Nat.or_lt_two_pow hv2 (lx (by omega))⟩ k2 k3 k4 k5 k6 (Or.inr (Or.inr (Or.inr ⟨by rw [hN]; show x < N; omega, by simpa using hc_206, rfl⟩))) (fun m3 L3 q3 mn3 n1 n2 n3 n4 n5 n6 => ?_))
            refine v_kill (ls' := [_, _, _, _, _, _, _, _, _, _, _]) 6 rfl ?_
            refine v_kill (ls' := [_, _, _, _, _, _, _, _, _, _, _]) 7 rfl ?_
            refine v_kill (ls' := [_, _, _, _, _, _, _, _, _, _, _]) 8 rfl ?_
            refine v_kill (ls' := [_, _, _, _, _, _, _, _, _, _, _]) 9 rfl ?_
            refine v_kill (ls' := [_, _, _, _, _, _, _, _, _, _, _]) 10 rfl ?_
            first
              | (refine p229 hG _ (fun t ht => ?_) m3 L3 q3 mn3 (fun o k q1 q2 q3 => by rw [n1 o k q1 q2 q3, k1 o k q1 q2 q3]; exact g1 o k q1 q2 q3) n2 n3 n4 n5 n6
                 unfold stM at ht
                 rw [hN] at ht
                 simp only at ht
                 rcases ht with ht | ht | ht | ht
                 · exact Or.inl (Or.inl (hT t (Or.inl ht)))
                 · exact Or.inl (Or.inl (hT t (Or.inr ht)))
                 · exact Or.inl (Or.inr ht.2)
                 · exact Or.inr ht.2.2)
              | (refine p229 hG _ (fun t ht => ?_) m2 L2 q2 mn2 (fun o k q1 q2 q3 => by rw [k1 o k q1 q2 q3]; exact g1 o k q1 q2 q3) k2 k3 k4 k5 k6
                 unfold stM at ht
                 rw [hN] at ht
                 simp only at ht
                 rcases ht with ht | ht | ht | ht
                 · exact Or.inl (hT t (Or.inl ht))
                 · exact Or.inl (hT t (Or.inr ht))
                 · exact Or.inr ht.2
                 · exact absurd ht.2.1 (by simpa using hc_206))
              | (refine p229 hG T (fun t ht => ?_) m' L' q' mn' g1 g2 g3 g4 g5 g6
                 unfold stM at ht
                 rw [hN] at ht
                 simp only at ht
                 rcases ht with ht | ht | ht | ht
                 · exact hT t (Or.inl ht)
                 · exact hT t (Or.inr ht)
                 · omega
                 · omega)
      have p139 : ¬ gM set home (staN w p) (x, l, b) → ∀ T : St3 → Prop, (∀ t, (0 < x ∧ t = (x - 1, l, b)) → T t) → ∀ (m' : Mem_) (L' : Nat) (q' : Nat → St3) (mn' : Nat → Nat), frQ m m' → MV N m' L' q' mn' → BFp (stM w p own) (staN w p, 0, 0) (gM set home (staN w p)) q' mn' i L' T → i < L' → q' i = (x, l, b) → mn' i = c → V_ nX8_quickest 139 [R_ 50, I_ p, I_ (set : Int), I_ own, I_ home, I_ (i : Int), U_, I_ (x : Int), I_ (l : Int), I_ (b : Int), I_ ((c : Int) + 1)] [] m' Q := by
        intro hG T hT m' L' q' mn' g1 g2 g3 g4 g5 g6
        have hcm := (f1.tr g1.y).cp hc
        have c10 := hcm.1.1.1
        refine v_iload dX8_quickest_139 rfl ?_
        refine v_iconst dX8_quickest_141 (by decide) ?_
        refine v_iadd dX8_quickest_142 (fun ha hb => by omega) ?_
        refine v_aload_n dX8_quickest_143 rfl rfl ?_
        refine v_getI dX8_quickest_144 fX8_180 rfl rfl rfl ?_
        refine v_icmp_ge (tgt := 167) dX8_quickest_147 (by decide) (fun hc_147 => ?_) (fun hc_147 => ?_)
        · refine v_kill (ls' := [_, _, _, _, _, _, _, _, _, _, _]) 6 rfl ?_
          first
            | (refine p167 hG _ (fun t ht => ?_) m2 L2 q2 mn2 (fun o k q1 q2 q3 => by rw [k1 o k q1 q2 q3]; exact g1 o k q1 q2 q3) k2 k3 k4 k5 k6
               rcases ht with ht | ht
               · exact Or.inl (hT t ht)
               · exact Or.inr ht.2)
            | (refine p167 hG T (fun t ht => ?_) m' L' q' mn' g1 g2 g3 g4 g5 g6
               rcases ht with ht | ht
               · exact hT t ht
               · omega)
        · refine v_aload_n dX8_quickest_150 rfl rfl ?_
          refine v_iload dX8_quickest_151 rfl ?_
          refine v_iconst dX8_quickest_153 (by decide) ?_
          refine v_iadd dX8_quickest_154 (fun ha hb => by omega) ?_
          refine v_iload dX8_quickest_155 rfl ?_
          refine v_iload dX8_quickest_157 rfl ?_
          rw [show (x : Int) + 1 = ((x + 1 : Nat) : Int) by omega]
          refine v_callSi [_, _, _] dX8_quickest_159 lX8_293 ksX8_stateOf (plX8 _ _) (Or.inl rfl) rfl rfl rfl rfl rfl rfl (c_X8_stateOf (a := (x + 1, l, b)) ⟨by show x + 1 < 6; omega, v64.2.1, v64.2.2⟩ ?_)
          refine v_iload dX8_quickest_162 rfl ?_
          refine v_callVv [_, _] dX8_quickest_164 lX8_297 kvX8_reach (plX8 _ _) rfl rfl rfl rfl rfl rfl rfl rfl rfl rfl (c_X8_reachC (a := (x + 1, l, b)) hn6 ⟨by show x + 1 < 6; omega, hv1, hv2⟩ g2 g3 g4 g5 g6 (Or.inr (Or.inl ⟨by rw [hN]; show x + 1 < N; omega, rfl⟩)) (fun m2 L2 q2 mn2 k1 k2 k3 k4 k5 k6 => ?_))
          refine v_kill (ls' := [_, _, _, _, _, _, _, _, _, _, _]) 6 rfl ?_
          first
            | (refine p167 hG _ (fun t ht => ?_) m2 L2 q2 mn2 (fun o k q1 q2 q3 => by rw [k1 o k q1 q2 q3]; exact g1 o k q1 q2 q3) k2 k3 k4 k5 k6
               rcases ht with ht | ht
               · exact Or.inl (hT t ht)
               · exact Or.inr ht.2)
            | (refine p167 hG T (fun t ht => ?_) m' L' q' mn' g1 g2 g3 g4 g5 g6
               rcases ht with ht | ht
               · exact hT t ht
               · omega)
      have p106 : ¬ gM set home (staN w p) (x, l, b) → V_ nX8_quickest 106 [R_ 50, I_ p, I_ (set : Int), I_ own, I_ home, I_ (i : Int), I_ (cd : Int), I_ (x : Int), I_ (l : Int), I_ (b : Int), U_] [] m Q := by
        intro hG
        refine v_aload_n dX8_quickest_106 rfl rfl ?_
        refine v_getR dX8_quickest_107 fX8_86 rfl rfl rfl ?_
        refine v_iload dX8_quickest_110 rfl ?_
        refine v_iald dX8_quickest_112 rfl (by omega) (by omega) ?_
        rw [Int.toNat_natCast, v3]
        refine v_iconst dX8_quickest_113 (by decide) ?_
        refine v_iadd dX8_quickest_114 (fun ha hb => by omega) ?_
        refine v_istore (ls' := [_, _, _, _, _, _, _, _, _, _, _]) dX8_quickest_115 rfl rfl rfl ?_
        refine v_iload dX8_quickest_117 rfl ?_
        refine v_if_le (tgt := 139) dX8_quickest_119 (by decide) (fun hc_119 => ?_) (fun hc_119 => ?_)
        · refine v_kill (ls' := [_, _, _, _, _, _, _, _, _, _, _]) 6 rfl ?_
          first
            | exact p139 hG _ (fun t ht => Or.inr ht.2) m2 L2 q2 mn2 k1 k2 k3 k4 k5 k6
            | exact p139 hG _ (fun t ht => by omega) m L q mn (fun _ _ _ _ _ => rfl) f3 f4 hlt hqi hmi
        · refine v_aload_n dX8_quickest_122 rfl rfl ?_
          refine v_iload dX8_quickest_123 rfl ?_
          refine v_iconst dX8_quickest_125 (by decide) ?_
          refine v_isub dX8_quickest_126 (fun ha hb => by omega) ?_
          refine v_iload dX8_quickest_127 rfl ?_
          refine v_iload dX8_quickest_129 rfl ?_
          rw [show (x : Int) - 1 = ((x - 1 : Nat) : Int) by omega]
          refine v_callSi [_, _, _] dX8_quickest_131 lX8_293 ksX8_stateOf (plX8 _ _) (Or.inl rfl) rfl rfl rfl rfl rfl rfl (c_X8_stateOf (a := (x - 1, l, b)) ⟨by show x - 1 < 6; omega, v64.2.1, v64.2.2⟩ ?_)
          refine v_iload dX8_quickest_134 rfl ?_
          refine v_callVv [_, _] dX8_quickest_136 lX8_297 kvX8_reach (plX8 _ _) rfl rfl rfl rfl rfl rfl rfl rfl rfl rfl (c_X8_reachC (a := (x - 1, l, b)) hn6 ⟨by show x - 1 < 6; omega, hv1, hv2⟩ f3 f4 hlt hqi hmi (Or.inl ⟨by show 0 < x; omega, rfl⟩) (fun m2 L2 q2 mn2 k1 k2 k3 k4 k5 k6 => ?_))
          refine v_kill (ls' := [_, _, _, _, _, _, _, _, _, _, _]) 6 rfl ?_
          first
            | exact p139 hG _ (fun t ht => Or.inr ht.2) m2 L2 q2 mn2 k1 k2 k3 k4 k5 k6
            | exact p139 hG _ (fun t ht => by omega) m L q mn (fun _ _ _ _ _ => rfl) f3 f4 hlt hqi hmi
      refine v_iload dX8_quickest_29 rfl ?_
      refine v_aload_n dX8_quickest_31 rfl rfl ?_
      refine v_getI dX8_quickest_32 fX8_283 rfl rfl rfl ?_
      refine v_icmp_ge (tgt := 235) dX8_quickest_35 (by decide) (fun hc_35 => ?_) (fun hc_35 => ?_)
      · refine v_bipush dX8_quickest_235 (by decide) ?_
        refine v_ireturn dX8_quickest_237 rfl ?_
        first
          | (have hG : gM set home (staN w p) (q i) := by rw [hqi]; exact ⟨by show set ^^^ (set &&& b) = 0; omega, by show home = 0 ∨ x = staN w p; omega⟩
             have := BFp_ret f4 hlt hG
             rw [hmi] at this
             exact hQ _ m this f1)
          | (exfalso; omega)
      · refine v_aload_n dX8_quickest_38 rfl rfl ?_
        refine v_getR dX8_quickest_39 fX8_89 rfl rfl rfl ?_
        refine v_iload dX8_quickest_42 rfl ?_
        refine v_iald dX8_quickest_44 rfl (by omega) (by omega) ?_
        rw [Int.toNat_natCast, v2]
        refine v_istore (ls' := [_, _, _, _, _, _, _, _, _, _, _]) dX8_quickest_45 rfl rfl rfl ?_
        refine v_iload dX8_quickest_47 rfl ?_
        refine v_bipush dX8_quickest_49 (by decide) ?_
        refine v_irem dX8_quickest_51 (by omega) ?_
        rw [t1]
        refine v_istore (ls' := [_, _, _, _, _, _, _, _, _, _, _]) dX8_quickest_52 rfl rfl rfl ?_
        refine v_iload dX8_quickest_54 rfl ?_
        refine v_bipush dX8_quickest_56 (by decide) ?_
        refine v_idiv dX8_quickest_58 (by omega) ?_
        refine v_bipush dX8_quickest_59 (by decide) ?_
        refine v_irem dX8_quickest_61 (by omega) ?_
        rw [t2]
        refine v_istore (ls' := [_, _, _, _, _, _, _, _, _, _, _]) dX8_quickest_62 rfl rfl rfl ?_
        refine v_iload dX8_quickest_64 rfl ?_
        refine v_bipush dX8_quickest_66 (by decide) ?_
        refine v_idiv dX8_quickest_68 (by omega) ?_
        refine v_bipush dX8_quickest_69 (by decide) ?_
        refine v_idiv dX8_quickest_71 (by omega) ?_
        rw [t3]
        refine v_istore (ls' := [_, _, _, _, _, _, _, _, _, _, _]) dX8_quickest_72 rfl rfl rfl ?_
        refine v_iload_n dX8_quickest_74 rfl rfl ?_
        refine v_iload dX8_quickest_75 rfl ?_
        refine v_iconst dX8_quickest_77 (by decide) ?_
        refine v_ixor dX8_quickest_78 ?_
        refine v_iand dX8_quickest_79 ?_
        rw [ebn]
        refine v_if_ne (tgt := 106) dX8_quickest_80 (by decide) (fun hc_80 => ?_) (fun hc_80 => ?_)
        · refine v_kill (ls' := [_, _, _, _, _, _, _, _, _, _, _]) 10 rfl ?_
          first
            | exact p106 (fun hG => by have h1 : set ^^^ (set &&& b) = 0 := hG.1; have h2 : home = 0 ∨ x = staN w p := hG.2; omega)
        · refine v_iload dX8_quickest_83 rfl ?_
          refine v_if_eq (tgt := 98) dX8_quickest_85 (by decide) (fun hc_85 => ?_) (fun hc_85 => ?_)
          · refine v_aload_n dX8_quickest_98 rfl rfl ?_
            refine v_getR dX8_quickest_99 fX8_86 rfl rfl rfl ?_
            refine v_iload dX8_quickest_102 rfl ?_
            refine v_iald dX8_quickest_104 rfl (by omega) (by omega) ?_
            rw [Int.toNat_natCast, v3]
            refine v_ireturn dX8_quickest_105 rfl ?_
            first
              | (have hG : gM set home (staN w p) (q i) := by rw [hqi]; exact ⟨by show set ^^^ (set &&& b) = 0; omega, by show home = 0 ∨ x = staN w p; omega⟩
                 have := BFp_ret f4 hlt hG
                 rw [hmi] at this
                 exact hQ _ m this f1)
              | (exfalso; omega)
          · refine v_iload dX8_quickest_88 rfl ?_
            refine v_aload_n dX8_quickest_90 rfl rfl ?_
            refine v_iload_n dX8_quickest_91 rfl rfl ?_
            refine v_callVi [_] dX8_quickest_92 lX8_290 kvX8_startOf (plX8 _ _) (Or.inl rfl) rfl rfl rfl rfl rfl rfl rfl rfl rfl (c_X8_startOf hw hcm0 hpp ?_)
            refine v_icmp_ne (tgt := 106) dX8_quickest_95 (by decide) (fun hc_95 => ?_) (fun hc_95 => ?_)
            · refine v_kill (ls' := [_, _, _, _, _, _, _, _, _, _, _]) 10 rfl ?_
              first
                | exact p106 (fun hG => by have h1 : set ^^^ (set &&& b) = 0 := hG.1; have h2 : home = 0 ∨ x = staN w p := hG.2; omega)
            · refine v_aload_n dX8_quickest_98 rfl rfl ?_
              refine v_getR dX8_quickest_99 fX8_86 rfl rfl rfl ?_
              refine v_iload dX8_quickest_102 rfl ?_
              refine v_iald dX8_quickest_104 rfl (by omega) (by omega) ?_
              rw [Int.toNat_natCast, v3]
              refine v_ireturn dX8_quickest_105 rfl ?_
              first
                | (have hG : gM set home (staN w p) (q i) := by rw [hqi]; exact ⟨by show set ^^^ (set &&& b) = 0; omega, by show home = 0 ∨ x = staN w p; omega⟩
                   have := BFp_ret f4 hlt hG
                   rw [hmi] at this
                   exact hQ _ m this f1)
                | (exfalso; omega)
    · have e : i = L := by omega
      subst e
      refine v_iload dX8_quickest_29 rfl ?_
      refine v_aload_n dX8_quickest_31 rfl rfl ?_
      refine v_getI dX8_quickest_32 fX8_283 rfl rfl rfl ?_
      refine v_icmp_ge (tgt := 235) dX8_quickest_35 (by decide) (fun hc_35 => ?_) (fun hc_35 => ?_)
      · refine v_bipush dX8_quickest_235 (by decide) ?_
        refine v_ireturn dX8_quickest_237 rfl ?_
        first
          | exact hQ _ m (BFp_end f4) f1
          | (exfalso; omega)
      · refine v_kill (ls' := [_, _, _, _, _, _, _, _, _, _, _]) 6 rfl ?_
        refine v_kill (ls' := [_, _, _, _, _, _, _, _, _, _, _]) 7 rfl ?_
        refine v_kill (ls' := [_, _, _, _, _, _, _, _, _, _, _]) 8 rfl ?_
        refine v_kill (ls' := [_, _, _, _, _, _, _, _, _, _, _]) 9 rfl ?_
        refine v_kill (ls' := [_, _, _, _, _, _, _, _, _, _, _]) 10 rfl ?_
        exfalso; omega
  refine v_aload_n dX8_quickest_0 rfl rfl ?_
  refine v_iload_n dX8_quickest_1 rfl rfl ?_
  refine v_iload_n dX8_quickest_2 rfl rfl ?_
  refine v_callVv [_, _] dX8_quickest_3 lX8_286 kvX8_layWay (plX8 _ _) rfl rfl rfl rfl rfl rfl rfl rfl rfl rfl (c_X8_layWay hw hc hpp (fun m1 a1 a2 a3 => ?_))
  refine v_aload_n dX8_quickest_6 rfl rfl ?_
  refine v_iconst dX8_quickest_7 (by decide) ?_
  refine v_putI dX8_quickest_8 fpX8_283 rfl rfl rfl ?_
  refine v_aload_n dX8_quickest_11 rfl rfl ?_
  refine v_aload_n dX8_quickest_12 rfl rfl ?_
  refine v_iload_n dX8_quickest_13 rfl rfl ?_
  refine v_callVi [_] dX8_quickest_14 lX8_290 kvX8_startOf (plX8 _ _) (Or.inl rfl) rfl rfl rfl rfl rfl rfl rfl rfl rfl (c_X8_startOf hw (frY.cp (m := mset m1 50 42 0) (fun o k q q2 => by rw [mset_off (by omega)]; exact a1 o k q q2) hc) hpp ?_)
  refine v_iconst dX8_quickest_17 (by decide) ?_
  refine v_iconst dX8_quickest_18 (by decide) ?_
  refine v_callSi [_, _, _] dX8_quickest_19 lX8_293 ksX8_stateOf (plX8 _ _) (Or.inl rfl) rfl rfl rfl rfl rfl rfl (c_X8_stateOf (a := (staN w p, 0, 0)) ⟨hsta, (by show 0 < 64; decide), (by show 0 < 64; decide)⟩ ?_)
  refine v_iconst dX8_quickest_22 (by decide) ?_
  refine v_callVv [_, _] dX8_quickest_23 lX8_297 kvX8_reach (plX8 _ _) rfl rfl rfl rfl rfl rfl rfl rfl rfl rfl (c_X8_reach (n := N) (L := 0) (mm := 0) (a := (staN w p, 0, 0)) (q := fun _ => (staN w p, 0, 0)) (mn := fun _ => 0) hn6 ⟨hsta, hpos, hpos⟩ ⟨mset_same _ _ _ _, fun j hj => by omega, fun i j hi => by omega, fun c hcc h0 => by rw [mset_off (by omega), a3 c hcc] at h0; omega⟩ (Nat.le_refl _) (fun hex => by obtain ⟨j, j1, _⟩ := hex; omega) (fun _ m2 b1 b2 => ?_))
  refine v_iconst dX8_quickest_26 (by decide) ?_
  refine v_istore (ls' := [_, _, _, _, _, _, _, _, _, _, _]) dX8_quickest_27 rfl rfl rfl ?_
  have b0 : frQ m1 m2 := fun o k q1 q2 q3 => by rw [b1 o k q1 q2 q3, mset_off (by omega)]
  have e1 : (fun j : Nat => if j < 0 then (staN w p, 0, 0) else ((staN w p, 0, 0) : St3)) = fun _ => (staN w p, 0, 0) := by funext j; simp
  have e2 : (fun j : Nat => if j < 0 then (0 : Nat) else 0) = fun _ => 0 := by funext j; simp
  rw [e1, e2] at b2
  exact lp 0 (by omega) m2 1 _ _ (a1.tr b0.y) (b0.wl a2) b2 (BFp_0 rfl)
end
