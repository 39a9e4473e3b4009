/-! the model over the class: the search for a plan -/
def FVn (N : Nat) (D : Nat → Int) (T : Nat → Nat) (mm : Int) (G : Nat → Nat) : Prop := (∀ b, b < N → sb (G b) (T b) ∧ (cntB 32 (G b) : Int) = D b) ∧ ∀ x, x < N → smR N (inG G x) ≤ mm
def lxn (N : Nat) (G g : Nat → Nat) : Prop := ∃ k, k < N ∧ (∀ j, j < k → G j = g j) ∧ G k < g k
def updG (G : Nat → Nat) (b s j : Nat) : Nat := if j = b then s else G j
theorem inG_01 {G : Nat → Nat} {x j : Nat} : inG G x j = 0 ∨ inG G x j = 1 := by unfold inG; split <;> omega
theorem smR_mono {a b : Nat} {f : Nat → Int} (h : a ≤ b) (hf : ∀ k, 0 ≤ f k) : smR a f ≤ smR b f := by
  rw [smR_part (n := b) h]
  exact smR_le (fun k hk => by have := hf k; split <;> omega)
/-- what a level of the search asks of a set -/
def lvl (N : Nat) (D : Nat → Int) (T : Nat → Nat) (mm : Int) (G : Nat → Nat) (b s : Nat) : Prop := sb s (T b) ∧ (cntB 32 s : Int) = D b ∧ ∀ x, x < N → smR (b + 1) (inG (updG G b s) x) ≤ mm
theorem FVn_lvl {N : Nat} {D : Nat → Int} {T : Nat → Nat} {mm : Int} {G G2 : Nat → Nat} {b : Nat} (hb : b < N) (hF : FVn N D T mm G2) (e : ∀ j, j < b → G2 j = G j) : lvl N D T mm G b (G2 b) := by
  refine ⟨(hF.1 b hb).1, (hF.1 b hb).2, fun x hx => ?_⟩
  have h1 := hF.2 x hx
  have h2 := smR_mono (a := b + 1) (b := N) (f := inG G2 x) (by omega) (fun k => by have := inG_01 (G := G2) (x := x) (j := k); omega)
  have h3 : smR (b + 1) (inG (updG G b (G2 b)) x) = smR (b + 1) (inG G2 x) := smR_congr (fun j hj => by
    unfold inG updG
    by_cases ej : j = b
    · rw [if_pos ej, ej]
    · rw [if_neg ej, e j (by omega)])
  omega
section
variable {μ w : Mem_} {Q : PV → Mem_ → Prop}
def frG (μ m : Mem_) : Prop := ∀ o k, o ≠ 79 → o ≠ 80 → o ≠ 81 → m o k = μ o k
def SMq (μ : Mem_) (N : Nat) (D : Nat → Int) (T : Nat → Nat) (m : Mem_) : Prop := frG μ m ∧ ∀ b, b < N → m 79 b = D b ∧ m 80 b = (T b : Int)
theorem SMq_set {N : Nat} {D : Nat → Int} {T : Nat → Nat} {m : Mem_} {k : Nat} {v : Int} (h : SMq μ N D T m) : SMq μ N D T (mset m 81 k v) := ⟨fun o i q q2 q3 => by rw [mset_off (by omega)]; exact h.1 o i q q2 q3, fun b hb => by rw [mset_off (by omega), mset_off (by omega)]; exact h.2 b hb⟩
set_option maxRecDepth 10000 in
theorem safe_srch {N : Nat} {D : Nat → Int} {T : Nat → Nat} {n mm r : Int} (hN : N ≤ 6) (hT : ∀ b, b < N → T b < 2 ^ N) (hn : μ 50 10 = (N : Int)) : ∀ (d b : Nat), b + d = N → 0 < d → ∀ (v : Int), -1 ≤ v → v ≤ ((2 ^ N : Nat) : Int) - 1 → ∀ (m : Mem_) (G : Nat → Nat), SMq μ N D T m → (∀ j, j < b → m 81 j = (G j : Int) ∧ G j < 64 ∧ sb (G j) (T j) ∧ (cntB 32 (G j) : Int) = D j) → m 81 b = v →
    (∀ (G' : Nat → Nat) (m' : Mem_), SMq μ N D T m' → (∀ j, j < b → G' j = G j) → v < G' b → FVn N D T mm G' → (∀ j, j < N → m' 81 j = (G' j : Int) ∧ G' j < 64) → (∀ G2, FVn N D T mm G2 → (∀ j, j < b → G2 j = G j) → v < G2 b → ¬ lxn N G2 G') → V_ nX8_safe 53 [R_ 50, I_ n, I_ mm, I_ r, I_ (N : Int), I_ (((2 ^ N : Nat) : Int) - 1), U_] [] m' Q) →
    (∀ m' : Mem_, SMq μ N D T m' → (∀ j, j < b → m' 81 j = m 81 j) → (∀ G2, FVn N D T mm G2 → (∀ j, j < b → G2 j = G j) → ¬ v < (G2 b : Int)) → V_ nX8_safe 53 [R_ 50, I_ n, I_ mm, I_ r, I_ ((b : Int) + -1), I_ (((2 ^ N : Nat) : Int) - 1), U_] [] m' Q) →
    V_ nX8_safe 53 [R_ 50, I_ n, I_ mm, I_ r, I_ (b : Int), I_ (((2 ^ N : Nat) : Int) - 1), U_] [] m Q := by
  have hpos : 0 < 2 ^ N := Nat.two_pow_pos _
  have hle : 2 ^ N ≤ 2 ^ 6 := Nat.pow_le_pow_right (by omega) hN
  generalize hX : (2 : Nat) ^ N = X at *
  intro d
  induction d with
  | zero => intro b _ h0; omega
  | succ d ihd =>
    intro b hbd _
    suffices hmain : ∀ (k : Nat) (v : Int), ((X : Int) - 1 - v).toNat = k → -1 ≤ v → v ≤ (X : Int) - 1 → ∀ (m : Mem_) (G : Nat → Nat), SMq μ N D T m → (∀ j, j < b → m 81 j = (G j : Int) ∧ G j < 64 ∧ sb (G j) (T j) ∧ (cntB 32 (G j) : Int) = D j) → m 81 b = v →
        (∀ (G' : Nat → Nat) (m' : Mem_), SMq μ N D T m' → (∀ j, j < b → G' j = G j) → v < G' b → FVn N D T mm G' → (∀ j, j < N → m' 81 j = (G' j : Int) ∧ G' j < 64) → (∀ G2, FVn N D T mm G2 → (∀ j, j < b → G2 j = G j) → v < G2 b → ¬ lxn N G2 G') → V_ nX8_safe 53 [R_ 50, I_ n, I_ mm, I_ r, I_ (N : Int), I_ ((X : Int) - 1), U_] [] m' Q) →
        (∀ m' : Mem_, SMq μ N D T m' → (∀ j, j < b → m' 81 j = m 81 j) → (∀ G2, FVn N D T mm G2 → (∀ j, j < b → G2 j = G j) → ¬ v < (G2 b : Int)) → V_ nX8_safe 53 [R_ 50, I_ n, I_ mm, I_ r, I_ ((b : Int) + -1), I_ ((X : Int) - 1), U_] [] m' Q) →
        V_ nX8_safe 53 [R_ 50, I_ n, I_ mm, I_ r, I_ (b : Int), I_ ((X : Int) - 1), U_] [] m Q from fun v h1 h2 m G => hmain _ v rfl h1 h2 m G
    refine loop_dn (fun k => k) (fun k ihv => ?_)
    intro v hk hv0 hv1 m G hS hG hb81 FOUND FAIL
    have hbN : b < N := by omega
    have hTb := hT b hbN
    -- behind a set that was found, or none
    have inner : ∀ s : Int, v + 1 ≤ s → s ≤ X → ∀ m' : Mem_, SMq μ N D T m' → (∀ j, j < b → m' 81 j = m 81 j) → m' 81 b = s → (∀ t : Nat, v < (t : Int) → (t : Int) < s → ¬ lvl N D T mm G b t) → V_ nX8_safe 87 [R_ 50, I_ n, I_ mm, I_ r, I_ (b : Int), I_ ((X : Int) - 1), I_ s] [] m' Q := by
      suffices hin : ∀ (q : Nat) (s : Int), ((X : Int) - s).toNat = q → v + 1 ≤ s → s ≤ X → ∀ m' : Mem_, SMq μ N D T m' → (∀ j, j < b → m' 81 j = m 81 j) → m' 81 b = s → (∀ t : Nat, v < (t : Int) → (t : Int) < s → ¬ lvl N D T mm G b t) → V_ nX8_safe 87 [R_ 50, I_ n, I_ mm, I_ r, I_ (b : Int), I_ ((X : Int) - 1), I_ s] [] m' Q from fun s => hin _ s rfl
      refine loop_dn (fun q => q) (fun q ihs => ?_)
      intro s hq s0 s1 m' f1 f2 f3 f4
      have es : ((s.toNat : Nat) : Int) = s := by omega
      have e10 : m' 50 10 = (N : Int) := by rw [f1.1 50 10 (by omega) (by omega) (by omega)]; exact hn
      have e79 := (f1.2 b hbN).1
      have e80 := (f1.2 b hbN).2
      have hs64 : s ≤ 64 := by omega
      have ebn := bAnd_not (a := s.toNat) (b := T b) (by omega) (by omega)
      rw [es] at ebn
      have hgets : ∀ j : Nat, (j : Int) ≤ (b : Int) → s ≤ (X : Int) - 1 → m' 81 j = (updG G b s.toNat j : Int) ∧ updG G b s.toNat j < 64 := by
        intro j hj hsx
        unfold updG
        by_cases ej : j = b
        · rw [if_pos ej, ej, f3]; omega
        · rw [if_neg ej, f2 j (by omega)]
          exact ⟨(hG j (by omega)).1, (hG j (by omega)).2.1⟩
      have nxt : s ≤ (X : Int) - 1 → ¬ lvl N D T mm G b s.toNat → V_ nX8_safe 134 [R_ 50, I_ n, I_ mm, I_ r, I_ (b : Int), I_ ((X : Int) - 1), I_ s] [] m' Q := by
        intro hsx hnl
        have := ihs (((X : Int) - (s + 1)).toNat) (by omega) (s + 1) rfl (by omega) (by omega) (mset m' 81 b (s + 1)) (SMq_set f1) (fun j hj => by rw [mset_off (by omega)]; exact f2 j hj) (mset_same _ _ _ _) (fun t t1 t2 => by
          by_cases e : (t : Int) = s
          · rw [show t = s.toNat by omega]; exact hnl
          · exact f4 t t1 (by omega))
        refine v_iinc (ls' := [_, _, _, _, _, _, _]) dX8_safe_134 rfl (fun hi_134 => by omega) rfl rfl ?_
        refine v_aload_n dX8_safe_137 rfl rfl ?_
        refine v_getR dX8_safe_138 fX8_101 rfl rfl rfl ?_
        refine v_iload dX8_safe_141 rfl ?_
        refine v_iload dX8_safe_143 rfl ?_
        refine v_iast dX8_safe_145 rfl (by omega) (by omega) ?_
        refine v_goto (tgt := 87) dX8_safe_146 (by decide) ?_
        rw [Int.toNat_natCast]
        exact this
      have fnd : s ≤ (X : Int) - 1 → lvl N D T mm G b s.toNat → V_ nX8_safe 149 [R_ 50, I_ n, I_ mm, I_ r, I_ (b : Int), I_ ((X : Int) - 1), I_ s] [] m' Q := by
        intro hsx hl
        have noS : ∀ G2, FVn N D T mm G2 → (∀ j, j < b → G2 j = G j) → v < (G2 b : Int) → s ≤ (G2 b : Int) := fun G2 hF he hv => by
          refine Classical.byContradiction (fun hlt => ?_)
          exact f4 (G2 b) hv (by omega) (FVn_lvl hbN hF he)
        by_cases hlast : b + 1 = N
        · have hFN : FVn N D T mm (updG G b s.toNat) := by
            refine ⟨fun j hj => ?_, fun x hx => ?_⟩
            · unfold updG
              by_cases ej : j = b
              · rw [if_pos ej, ej]; exact ⟨hl.1, hl.2.1⟩
              · rw [if_neg ej]; exact (hG j (by omega)).2.2
            · rw [← hlast]
              exact hl.2.2 x hx
          have := FOUND (updG G b s.toNat) m' f1 (fun j hj => by unfold updG; rw [if_neg (by omega)]) (by unfold updG; rw [if_pos rfl]; omega) hFN (fun j hj => hgets j (by omega) hsx) (fun G2 hF he hv hlx => by
            obtain ⟨i, i1, i2, i3⟩ := hlx
            have h9 := noS G2 hF he hv
            unfold updG at i3
            by_cases ei : i = b
            · rw [if_pos ei, ei] at i3; omega
            · rw [if_neg ei] at i3
              have := he i (by omega)
              omega)
          refine v_iload dX8_safe_149 rfl ?_
          refine v_iload dX8_safe_151 rfl ?_
          refine v_iload dX8_safe_153 rfl ?_
          refine v_icmp_gt (tgt := 162) dX8_safe_155 (by decide) (fun hc_155 => ?_) (fun hc_155 => ?_)
          · refine v_iconst dX8_safe_162 (by decide) ?_
            refine v_iadd dX8_safe_163 (fun ha hb => by omega) ?_
            refine v_istore (ls' := [_, _, _, _, _, _, _]) dX8_safe_164 rfl rfl rfl ?_
            refine v_iload dX8_safe_166 rfl ?_
            refine v_iload dX8_safe_168 rfl ?_
            refine v_icmp_gt (tgt := 190) dX8_safe_170 (by decide) (fun hc_170 => ?_) (fun hc_170 => ?_)
            · refine v_goto (tgt := 53) dX8_safe_190 (by decide) ?_
              refine v_kill (ls' := [_, _, _, _, _, _, _]) 6 rfl ?_
              first
                | (exfalso; omega)
                | (rw [show (b : Int) + 1 = (N : Int) by omega]; exact this)
            · refine v_iload dX8_safe_173 rfl ?_
              refine v_aload_n dX8_safe_175 rfl rfl ?_
              refine v_getI dX8_safe_176 fX8_180 rfl rfl rfl ?_
              refine v_icmp_ge (tgt := 190) dX8_safe_179 (by decide) (fun hc_179 => ?_) (fun hc_179 => ?_)
              · refine v_goto (tgt := 53) dX8_safe_190 (by decide) ?_
                refine v_kill (ls' := [_, _, _, _, _, _, _]) 6 rfl ?_
                first
                  | (exfalso; omega)
                  | (rw [show (b : Int) + 1 = (N : Int) by omega]; exact this)
              · refine v_aload_n dX8_safe_182 rfl rfl ?_
                refine v_getR dX8_safe_183 fX8_101 rfl rfl rfl ?_
                refine v_iload dX8_safe_186 rfl ?_
                refine v_iconst dX8_safe_188 (by decide) ?_
                refine v_iast dX8_safe_189 rfl (by omega) (by omega) ?_
                refine v_goto (tgt := 53) dX8_safe_190 (by decide) ?_
                refine v_kill (ls' := [_, _, _, _, _, _, _]) 6 rfl ?_
                first
                  | (exfalso; omega)
                  | (rw [show (b : Int) + 1 = (N : Int) by omega]; exact this)
          · refine v_iconst dX8_safe_158 (by decide) ?_
            refine v_goto (tgt := 163) dX8_safe_159 (by decide) ?_
            refine v_iadd dX8_safe_163 (fun ha hb => by omega) ?_
            refine v_istore (ls' := [_, _, _, _, _, _, _]) dX8_safe_164 rfl rfl rfl ?_
            refine v_iload dX8_safe_166 rfl ?_
            refine v_iload dX8_safe_168 rfl ?_
            refine v_icmp_gt (tgt := 190) dX8_safe_170 (by decide) (fun hc_170 => ?_) (fun hc_170 => ?_)
            · refine v_goto (tgt := 53) dX8_safe_190 (by decide) ?_
              refine v_kill (ls' := [_, _, _, _, _, _, _]) 6 rfl ?_
              first
                | (exfalso; omega)
                | (rw [show (b : Int) + 1 = (N : Int) by omega]; exact this)
            · refine v_iload dX8_safe_173 rfl ?_
              refine v_aload_n dX8_safe_175 rfl rfl ?_
              refine v_getI dX8_safe_176 fX8_180 rfl rfl rfl ?_
              refine v_icmp_ge (tgt := 190) dX8_safe_179 (by decide) (fun hc_179 => ?_) (fun hc_179 => ?_)
              · refine v_goto (tgt := 53) dX8_safe_190 (by decide) ?_
                refine v_kill (ls' := [_, _, _, _, _, _, _]) 6 rfl ?_
                first
                  | (exfalso; omega)
                  | (rw [show (b : Int) + 1 = (N : Int) by omega]; exact this)
              · refine v_aload_n dX8_safe_182 rfl rfl ?_
                refine v_getR dX8_safe_183 fX8_101 rfl rfl rfl ?_
                refine v_iload dX8_safe_186 rfl ?_
                refine v_iconst dX8_safe_188 (by decide) ?_
                refine v_iast dX8_safe_189 rfl (by omega) (by omega) ?_
                refine v_goto (tgt := 53) dX8_safe_190 (by decide) ?_
                refine v_kill (ls' := [_, _, _, _, _, _, _]) 6 rfl ?_
                first
                  | (exfalso; omega)
                  | (rw [show (b : Int) + 1 = (N : Int) by omega]; exact this)
        · have kG : ∀ j, j < b + 1 → m' 81 j = (updG G b s.toNat j : Int) ∧ updG G b s.toNat j < 64 ∧ sb (updG G b s.toNat j) (T j) ∧ (cntB 32 (updG G b s.toNat j) : Int) = D j := by
            intro j hj
            refine ⟨(hgets j (by omega) hsx).1, (hgets j (by omega) hsx).2, ?_⟩
            unfold updG
            by_cases ej : j = b
            · rw [if_pos ej, ej]; exact ⟨hl.1, hl.2.1⟩
            · rw [if_neg ej]; exact (hG j (by omega)).2.2
          have := ihd (b + 1) (by omega) (by omega) (-1) (by omega) (by omega) (mset m' 81 (b + 1) (-1)) (updG G b s.toNat) (SMq_set f1) (fun j hj => by rw [mset_off (by omega)]; exact kG j hj) (mset_same _ _ _ _) (fun G' m2 g1 g2 g3 g4 g5 g6 => by
            refine FOUND G' m2 g1 (fun j hj => by rw [g2 j (by omega)]; unfold updG; rw [if_neg (by omega)]) (by rw [g2 b (by omega)]; unfold updG; rw [if_pos rfl]; omega) g4 g5 (fun G2 hF he hv hlx => ?_)
            obtain ⟨i, i1, i2, i3⟩ := hlx
            have h9 := noS G2 hF he hv
            have eGb : G' b = s.toNat := by rw [g2 b (by omega)]; unfold updG; rw [if_pos rfl]
            by_cases ei : i < b
            · have e1 := he i ei
              have e2 := g2 i (by omega)
              unfold updG at e2
              rw [if_neg (by omega)] at e2
              omega
            · by_cases ei2 : i = b
              · rw [ei2, eGb] at i3; omega
              · refine g6 G2 hF (fun j hj => ?_) (by omega) ⟨i, i1, i2, i3⟩
                rw [i2 j (by omega), g2 j hj]) (fun m2 g1 g2 g3 => by
            have hsame : ∀ j, j < b + 1 → m2 81 j = m' 81 j := fun j hj => by rw [g2 j hj, mset_off (by omega)]
            have noE : ∀ G2, FVn N D T mm G2 → (∀ j, j < b → G2 j = G j) → v < (G2 b : Int) → s < (G2 b : Int) := fun G2 hF he hv => by
              have h9 := noS G2 hF he hv
              refine Classical.byContradiction (fun hns => ?_)
              exact g3 G2 hF (fun j hj => by
                unfold updG
                by_cases ej : j = b
                · rw [if_pos ej, ej]; omega
                · rw [if_neg ej]; exact he j (by omega)) (by omega)
            have := ihv (((X : Int) - 1 - s).toNat) (by omega) s rfl (by omega) hsx m2 G g1 (fun j hj => by rw [hsame j (by omega), f2 j hj]; exact hG j hj) (by rw [hsame b (by omega)]; exact f3) (fun G' m3 k1 k2 k3 k4 k5 k6 => FOUND G' m3 k1 k2 (by omega) k4 k5 (fun G2 hF he hv => k6 G2 hF he (noE G2 hF he hv))) (fun m3 k1 k2 k3 => FAIL m3 k1 (fun j hj => by rw [k2 j hj, hsame j (by omega), f2 j hj]) (fun G2 hF he hv => k3 G2 hF he (noE G2 hF he hv)))
            rwa [show ((b + 1 : Nat) : Int) + -1 = (b : Int) by omega])
          rw [show ((b + 1 : Nat) : Int) = (b : Int) + 1 by omega] at this
          refine v_iload dX8_safe_149 rfl ?_
          refine v_iload dX8_safe_151 rfl ?_
          refine v_iload dX8_safe_153 rfl ?_
          refine v_icmp_gt (tgt := 162) dX8_safe_155 (by decide) (fun hc_155 => ?_) (fun hc_155 => ?_)
          · refine v_iconst dX8_safe_162 (by decide) ?_
            refine v_iadd dX8_safe_163 (fun ha hb => by omega) ?_
            refine v_istore (ls' := [_, _, _, _, _, _, _]) dX8_safe_164 rfl rfl rfl ?_
            refine v_iload dX8_safe_166 rfl ?_
            refine v_iload dX8_safe_168 rfl ?_
            refine v_icmp_gt (tgt := 190) dX8_safe_170 (by decide) (fun hc_170 => ?_) (fun hc_170 => ?_)
            · refine v_goto (tgt := 53) dX8_safe_190 (by decide) ?_
              refine v_kill (ls' := [_, _, _, _, _, _, _]) 6 rfl ?_
              first
                | (exfalso; omega)
                | (rw [show ((b : Int) + 1).toNat = b + 1 by omega]; exact this)
            · refine v_iload dX8_safe_173 rfl ?_
              refine v_aload_n dX8_safe_175 rfl rfl ?_
              refine v_getI dX8_safe_176 fX8_180 rfl rfl rfl ?_
              refine v_icmp_ge (tgt := 190) dX8_safe_179 (by decide) (fun hc_179 => ?_) (fun hc_179 => ?_)
              · refine v_goto (tgt := 53) dX8_safe_190 (by decide) ?_
                refine v_kill (ls' := [_, _, _, _, _, _, _]) 6 rfl ?_
                first
                  | (exfalso; omega)
                  | (rw [show ((b : Int) + 1).toNat = b + 1 by omega]; exact this)
              · refine v_aload_n dX8_safe_182 rfl rfl ?_
                refine v_getR dX8_safe_183 fX8_101 rfl rfl rfl ?_
                refine v_iload dX8_safe_186 rfl ?_
                refine v_iconst dX8_safe_188 (by decide) ?_
                refine v_iast dX8_safe_189 rfl (by omega) (by omega) ?_
                refine v_goto (tgt := 53) dX8_safe_190 (by decide) ?_
                refine v_kill (ls' := [_, _, _, _, _, _, _]) 6 rfl ?_
                first
                  | (exfalso; omega)
                  | (rw [show ((b : Int) + 1).toNat = b + 1 by omega]; exact this)
          · refine v_iconst dX8_safe_158 (by decide) ?_
            refine v_goto (tgt := 163) dX8_safe_159 (by decide) ?_
            refine v_iadd dX8_safe_163 (fun ha hb => by omega) ?_
            refine v_istore (ls' := [_, _, _, _, _, _, _]) dX8_safe_164 rfl rfl rfl ?_
            refine v_iload dX8_safe_166 rfl ?_
            refine v_iload dX8_safe_168 rfl ?_
            refine v_icmp_gt (tgt := 190) dX8_safe_170 (by decide) (fun hc_170 => ?_) (fun hc_170 => ?_)
            · refine v_goto (tgt := 53) dX8_safe_190 (by decide) ?_
              refine v_kill (ls' := [_, _, _, _, _, _, _]) 6 rfl ?_
              first
                | (exfalso; omega)
                | (rw [show ((b : Int) + 1).toNat = b + 1 by omega]; exact this)
            · refine v_iload dX8_safe_173 rfl ?_
              refine v_aload_n dX8_safe_175 rfl rfl ?_
              refine v_getI dX8_safe_176 fX8_180 rfl rfl rfl ?_
              refine v_icmp_ge (tgt := 190) dX8_safe_179 (by decide) (fun hc_179 => ?_) (fun hc_179 => ?_)
              · refine v_goto (tgt := 53) dX8_safe_190 (by decide) ?_
                refine v_kill (ls' := [_, _, _, _, _, _, _]) 6 rfl ?_
                first
                  | (exfalso; omega)
                  | (rw [show ((b : Int) + 1).toNat = b + 1 by omega]; exact this)
              · refine v_aload_n dX8_safe_182 rfl rfl ?_
                refine v_getR dX8_safe_183 fX8_101 rfl rfl rfl ?_
                refine v_iload dX8_safe_186 rfl ?_
                refine v_iconst dX8_safe_188 (by decide) ?_
                refine v_iast dX8_safe_189 rfl (by omega) (by omega) ?_
                refine v_goto (tgt := 53) dX8_safe_190 (by decide) ?_
                refine v_kill (ls' := [_, _, _, _, _, _, _]) 6 rfl ?_
                first
                  | (exfalso; omega)
                  | (rw [show ((b : Int) + 1).toNat = b + 1 by omega]; exact this)
      have exh : s = X → V_ nX8_safe 149 [R_ 50, I_ n, I_ mm, I_ r, I_ (b : Int), I_ ((X : Int) - 1), I_ s] [] m' Q := by
        intro hsx
        have := FAIL m' f1 f2 (fun G2 hF he hv => by
          have := sb_le (hF.1 b hbN).1
          exact f4 (G2 b) hv (by omega) (FVn_lvl hbN hF he))
        refine v_iload dX8_safe_149 rfl ?_
        refine v_iload dX8_safe_151 rfl ?_
        refine v_iload dX8_safe_153 rfl ?_
        refine v_icmp_gt (tgt := 162) dX8_safe_155 (by decide) (fun hc_155 => ?_) (fun hc_155 => ?_)
        · refine v_iconst dX8_safe_162 (by decide) ?_
          refine v_iadd dX8_safe_163 (fun ha hb => by omega) ?_
          refine v_istore (ls' := [_, _, _, _, _, _, _]) dX8_safe_164 rfl rfl rfl ?_
          refine v_iload dX8_safe_166 rfl ?_
          refine v_iload dX8_safe_168 rfl ?_
          refine v_icmp_gt (tgt := 190) dX8_safe_170 (by decide) (fun hc_170 => ?_) (fun hc_170 => ?_)
          · refine v_goto (tgt := 53) dX8_safe_190 (by decide) ?_
            refine v_kill (ls' := [_, _, _, _, _, _, _]) 6 rfl ?_
            first
              | exact this
              | (exfalso; omega)
          · refine v_iload dX8_safe_173 rfl ?_
            refine v_aload_n dX8_safe_175 rfl rfl ?_
            refine v_getI dX8_safe_176 fX8_180 rfl rfl rfl ?_
            refine v_icmp_ge (tgt := 190) dX8_safe_179 (by decide) (fun hc_179 => ?_) (fun hc_179 => ?_)
            · refine v_goto (tgt := 53) dX8_safe_190 (by decide) ?_
              refine v_kill (ls' := [_, _, _, _, _, _, _]) 6 rfl ?_
              first
                | exact this
                | (exfalso; omega)
            · refine v_aload_n dX8_safe_182 rfl rfl ?_
              refine v_getR dX8_safe_183 fX8_101 rfl rfl rfl ?_
              refine v_iload dX8_safe_186 rfl ?_
              refine v_iconst dX8_safe_188 (by decide) ?_
              refine v_iast dX8_safe_189 rfl (by omega) (by omega) ?_
              refine v_goto (tgt := 53) dX8_safe_190 (by decide) ?_
              refine v_kill (ls' := [_, _, _, _, _, _, _]) 6 rfl ?_
              first
                | exact this
                | (exfalso; omega)
        · refine v_iconst dX8_safe_158 (by decide) ?_
          refine v_goto (tgt := 163) dX8_safe_159 (by decide) ?_
          refine v_iadd dX8_safe_163 (fun ha hb => by omega) ?_
          refine v_istore (ls' := [_, _, _, _, _, _, _]) dX8_safe_164 rfl rfl rfl ?_
          refine v_iload dX8_safe_166 rfl ?_
          refine v_iload dX8_safe_168 rfl ?_
          refine v_icmp_gt (tgt := 190) dX8_safe_170 (by decide) (fun hc_170 => ?_) (fun hc_170 => ?_)
          · refine v_goto (tgt := 53) dX8_safe_190 (by decide) ?_
            refine v_kill (ls' := [_, _, _, _, _, _, _]) 6 rfl ?_
            first
              | exact this
              | (exfalso; omega)
          · refine v_iload dX8_safe_173 rfl ?_
            refine v_aload_n dX8_safe_175 rfl rfl ?_
            refine v_getI dX8_safe_176 fX8_180 rfl rfl rfl ?_
            refine v_icmp_ge (tgt := 190) dX8_safe_179 (by decide) (fun hc_179 => ?_) (fun hc_179 => ?_)
            · refine v_goto (tgt := 53) dX8_safe_190 (by decide) ?_
              refine v_kill (ls' := [_, _, _, _, _, _, _]) 6 rfl ?_
              first
                | exact this
                | (exfalso; omega)
            · refine v_aload_n dX8_safe_182 rfl rfl ?_
              refine v_getR dX8_safe_183 fX8_101 rfl rfl rfl ?_
              refine v_iload dX8_safe_186 rfl ?_
              refine v_iconst dX8_safe_188 (by decide) ?_
              refine v_iast dX8_safe_189 rfl (by omega) (by omega) ?_
              refine v_goto (tgt := 53) dX8_safe_190 (by decide) ?_
              refine v_kill (ls' := [_, _, _, _, _, _, _]) 6 rfl ?_
              first
                | exact this
                | (exfalso; omega)
      refine v_iload dX8_safe_87 rfl ?_
      refine v_iload dX8_safe_89 rfl ?_
      refine v_icmp_gt (tgt := 149) dX8_safe_91 (by decide) (fun hc_91 => ?_) (fun hc_91 => ?_)
      · first
          | exact exh (by omega)
          | (try rw [es]
             refine fnd (by omega) ⟨nx_0.1 (by omega), by omega, fun x hx => ?_⟩
             have := l1 x (by omega)
             rwa [show ((b : Int) + 1).toNat = b + 1 by omega] at this)
      · refine v_iload dX8_safe_94 rfl ?_
        refine v_aload_n dX8_safe_96 rfl rfl ?_
        refine v_getR dX8_safe_97 fX8_98 rfl rfl rfl ?_
        refine v_iload dX8_safe_100 rfl ?_
        refine v_iald dX8_safe_102 rfl (by omega) (by omega) ?_
        rw [Int.toNat_natCast, e80]
        refine v_iconst dX8_safe_103 (by decide) ?_
        refine v_ixor dX8_safe_104 ?_
        refine v_iand dX8_safe_105 ?_
        rw [ebn]
        refine v_if_ne (tgt := 134) dX8_safe_106 (by decide) (fun hc_106 => ?_) (fun hc_106 => ?_)
        · try rw [es]
          first
            | exact nxt (by omega) (fun q => by have := nx_0.2 q.1; omega)
            | exact nxt (by omega) (fun q => by have := q.2.1; omega)
            | exact nxt (by omega) (fun q => l0 (fun x hx => by have := q.2.2 x (by omega); rwa [show ((b : Int) + 1).toNat = b + 1 by omega]))
        · refine v_iload dX8_safe_109 rfl ?_
          rw [show I_ s = I_ ((s.toNat : Nat) : Int) by rw [es]]
          refine v_callSi [_] dX8_safe_111 lX8_268 ksX8_bits (plX8 _ _) (Or.inl rfl) rfl rfl rfl rfl rfl rfl (c_X8_bits (by omega) ?_)
          refine v_aload_n dX8_safe_114 rfl rfl ?_
          refine v_getR dX8_safe_115 fX8_95 rfl rfl rfl ?_
          refine v_iload dX8_safe_118 rfl ?_
          refine v_iald dX8_safe_120 rfl (by omega) (by omega) ?_
          rw [Int.toNat_natCast, e79]
          refine v_icmp_ne (tgt := 134) dX8_safe_121 (by decide) (fun hc_121 => ?_) (fun hc_121 => ?_)
          · try rw [es]
            first
              | exact nxt (by omega) (fun q => by have := nx_0.2 q.1; omega)
              | exact nxt (by omega) (fun q => by have := q.2.1; omega)
              | exact nxt (by omega) (fun q => l0 (fun x hx => by have := q.2.2 x (by omega); rwa [show ((b : Int) + 1).toNat = b + 1 by omega]))
          · refine v_aload_n dX8_safe_124 rfl rfl ?_
            refine v_iload dX8_safe_125 rfl ?_
            refine v_iload_n dX8_safe_127 rfl rfl ?_
            refine v_callVi [_, _] dX8_safe_128 lX8_317 kvX8_isLittle (plX8 _ _) (Or.inr rfl) rfl rfl rfl rfl rfl rfl rfl rfl rfl (c_X8_isLittle (nH := (N : Int)) (g := updG G b s.toNat) e10 (by omega) (by omega) (fun j hj => hgets j hj (by omega)) ?_ ?_)
            · intro l1
              refine v_if_ne (tgt := 149) dX8_safe_131 (by decide) (fun _ => ?_) (fun q => absurd (by decide) q)
              first
                | exact exh (by omega)
                | (try rw [es]
                   refine fnd (by omega) ⟨nx_0.1 (by omega), by omega, fun x hx => ?_⟩
                   have := l1 x (by omega)
                   rwa [show ((b : Int) + 1).toNat = b + 1 by omega] at this)
            · intro l0
              refine v_if_ne (tgt := 149) dX8_safe_131 (by decide) (fun q => absurd q (by decide)) (fun _ => ?_)
              try rw [es]
              first
                | exact nxt (by omega) (fun q => by have := nx_0.2 q.1; omega)
                | exact nxt (by omega) (fun q => by have := q.2.1; omega)
                | exact nxt (by omega) (fun q => l0 (fun x hx => by have := q.2.2 x (by omega); rwa [show ((b : Int) + 1).toNat = b + 1 by omega]))
    have e10 : m 50 10 = (N : Int) := by rw [hS.1 50 10 (by omega) (by omega) (by omega)]; exact hn
    have := inner (v + 1) (by omega) (by omega) (mset m 81 b (v + 1)) (SMq_set hS) (fun j hj => by rw [mset_off (by omega)]) (mset_same _ _ _ _) (fun t t1 t2 => by omega)
    refine v_iload dX8_safe_53 rfl ?_
    refine v_if_lt (tgt := 193) dX8_safe_55 (by decide) (fun hc_55 => ?_) (fun hc_55 => ?_)
    · refine v_kill (ls' := [_, _, _, _, _, _, _]) 5 rfl ?_
      refine v_kill (ls' := [_, _, _, _, _, _, _]) 6 rfl ?_
      exfalso; omega
    · refine v_iload dX8_safe_58 rfl ?_
      refine v_aload_n dX8_safe_60 rfl rfl ?_
      refine v_getI dX8_safe_61 fX8_180 rfl rfl rfl ?_
      refine v_icmp_ge (tgt := 193) dX8_safe_64 (by decide) (fun hc_64 => ?_) (fun hc_64 => ?_)
      · refine v_kill (ls' := [_, _, _, _, _, _, _]) 5 rfl ?_
        refine v_kill (ls' := [_, _, _, _, _, _, _]) 6 rfl ?_
        exfalso; omega
      · refine v_aload_n dX8_safe_67 rfl rfl ?_
        refine v_getR dX8_safe_68 fX8_101 rfl rfl rfl ?_
        refine v_iload dX8_safe_71 rfl ?_
        refine v_iald dX8_safe_73 rfl (by omega) (by omega) ?_
        rw [Int.toNat_natCast, hb81]
        refine v_iconst dX8_safe_74 (by decide) ?_
        refine v_iadd dX8_safe_75 (fun ha hb => by omega) ?_
        refine v_istore (ls' := [_, _, _, _, _, _, _]) dX8_safe_76 rfl rfl rfl ?_
        refine v_aload_n dX8_safe_78 rfl rfl ?_
        refine v_getR dX8_safe_79 fX8_101 rfl rfl rfl ?_
        refine v_iload dX8_safe_82 rfl ?_
        refine v_iload dX8_safe_84 rfl ?_
        refine v_iast dX8_safe_86 rfl (by omega) (by omega) ?_
        rw [Int.toNat_natCast]
        exact this
end
