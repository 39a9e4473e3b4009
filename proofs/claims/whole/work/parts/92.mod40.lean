/-! the model over the class: safe -/
section
variable {μ w : Mem_} {Q : PV → Mem_ → Prop}
def exG (N : Nat) (G : Nat → Nat) (b : Nat) : Nat := if b < N then G b else 0
abbrev tkI (w : Mem_) : Nat → Int := fun x => (taN w (stc w) x : Int)
theorem ta_un {b : Nat} (h : ¬ (lvN w (stc w)).testBit b = true) {due : Int} : taN w (stc w) b = 0 ∧ neD w (stc w) due b = 0 := by
  unfold taN neD
  rw [if_neg h, if_neg h]
  exact ⟨rfl, rfl⟩
theorem ta_lv {b : Nat} (h : (lvN w (stc w)).testBit b = true) : taN w (stc w) b = mgN w b := by
  unfold taN mgN
  rw [if_pos h]
theorem sb_zero {s : Nat} (h : sb s 0) : s = 0 := sb_eq h (sb_0 s)
theorem mg_lt (hw : CW w) {b : Nat} : mgN w b < 2 ^ (w (stc w) 0).toNat := lt_of_bits (fun i hi => by have := he_nH hw ((mg_bit hw).1 hi).1; omega)
theorem FV_n (hw : CW w) {n mm : Int} {G : Nat → Nat} (h : FV (neD w (stc w) (n + 1)) (tkI w) (fun _ => mm) G) : FVn (w (stc w) 0).toNat (neD w (stc w) (n + 1)) (mgN w) mm G ∧ ∀ b, (w (stc w) 0).toNat ≤ b → b < 6 → G b = 0 := by
  have s1 := hw.1.2.1
  have hz : ∀ b, (w (stc w) 0).toNat ≤ b → b < 6 → G b = 0 := fun b h1 h2 => by
    have hun : ¬ (lvN w (stc w)).testBit b = true := fun q => by
      obtain ⟨p, p1, p2⟩ := lv_bit.1 q
      have := (hw.1.2.2.2.2 p (by omega)).1
      omega
    have h3 := (h.1 b h2).1
    rw [Int.toNat_natCast, (ta_un hun (due := 0)).1] at h3
    exact sb_zero h3
  refine ⟨⟨fun b hb => ⟨?_, (h.1 b (by omega)).2⟩, fun x hx => ?_⟩, hz⟩
  · have h3 := (h.1 b (by omega)).1
    rw [Int.toNat_natCast] at h3
    by_cases hl : (lvN w (stc w)).testBit b = true
    · rwa [ta_lv hl] at h3
    · rw [(ta_un hl (due := 0)).1] at h3
      rw [sb_zero h3]
      exact sb_0 _
  · have h3 : smR 6 (inG G x) ≤ mm := h.2 x (by omega)
    rw [smR_part (n := 6) (by omega)]
    have : smR 6 (fun j => if j < (w (stc w) 0).toNat then inG G x j else 0) ≤ smR 6 (inG G x) := smR_le (fun k hk => by
      have := inG_01 (G := G) (x := x) (j := k)
      split <;> omega)
    omega
theorem FV_e (hw : CW w) {n mm : Int} (hmm : 0 ≤ mm) {G : Nat → Nat} (h : FVn (w (stc w) 0).toNat (neD w (stc w) (n + 1)) (mgN w) mm G) : FV (neD w (stc w) (n + 1)) (tkI w) (fun _ => mm) (exG (w (stc w) 0).toNat G) := by
  have s1 := hw.1.2.1
  refine ⟨fun b hb => ?_, fun x hx => ?_⟩
  · unfold exG
    by_cases hbN : b < (w (stc w) 0).toNat
    · rw [if_pos hbN, Int.toNat_natCast]
      have h1 := h.1 b hbN
      by_cases hl : (lvN w (stc w)).testBit b = true
      · rw [ta_lv hl]; exact h1
      · have h2 := ta_un hl (due := n + 1)
        rw [h2.2] at h1
        have h3 := sb_le h1.1
        have h5 := mg_lt hw (b := b)
        have h6 : 2 ^ (w (stc w) 0).toNat ≤ 2 ^ 6 := Nat.pow_le_pow_right (by omega) (by omega)
        have hz : G b = 0 := cnt_0 (n := 32) (by omega) (by omega)
        rw [hz, h2.2, cnt_z]
        exact ⟨sb_0 _, rfl⟩
    · rw [if_neg hbN, cnt_z]
      have hun : ¬ (lvN w (stc w)).testBit b = true := fun q => by
        obtain ⟨p, p1, p2⟩ := lv_bit.1 q
        have := (hw.1.2.2.2.2 p (by omega)).1
        omega
      rw [(ta_un hun).2]
      exact ⟨sb_0 _, rfl⟩
  · by_cases hxN : x < (w (stc w) 0).toNat
    · have h3 := h.2 x hxN
      have e : smR 6 (inG (exG (w (stc w) 0).toNat G) x) = smR (w (stc w) 0).toNat (inG G x) := by
        rw [smR_part (n := 6) (h := (w (stc w) 0).toNat) (by omega)]
        refine smR_congr (fun k hk => ?_)
        unfold inG exG
        by_cases hkN : k < (w (stc w) 0).toNat
        · rw [if_pos hkN, if_pos hkN]
        · rw [if_neg hkN, if_neg hkN]; simp
      rw [e]
      exact h3
    · have e : smR 6 (inG (exG (w (stc w) 0).toNat G) x) = smR 6 (fun _ => 0) := smR_congr (fun k hk => by
        unfold inG exG
        by_cases hkN : k < (w (stc w) 0).toNat
        · rw [if_pos hkN, if_neg (fun q => by have := he_nH hw ((mg_bit hw).1 ((h.1 k hkN).1 x q)).1; omega)]
        · rw [if_neg hkN]; simp)
      rw [e]
      exact hmm
theorem lx_e {N : Nat} {G G' : Nat → Nat} (h : lxl G' (exG N G)) : lxn N G' G := by
  obtain ⟨k, k1, k2, k3⟩ := h
  by_cases hk : k < N
  · refine ⟨k, hk, fun j hj => ?_, ?_⟩
    · rw [k2 j hj]; unfold exG; rw [if_pos (by omega)]
    · unfold exG at k3; rwa [if_pos hk] at k3
  · unfold exG at k3
    rw [if_neg hk] at k3
    omega
theorem ct_e {N : Nat} {G : Nat → Nat} : ∀ h, h ≤ N → ctS (exG N G) h = ctS G h := by
  intro h
  induction h with
  | zero => exact fun _ => rfl
  | succ h ih =>
    intro hh
    rw [ctS, ctS, ih (by omega)]
    unfold exG
    rw [if_pos (by omega)]
theorem ct_e6 {N : Nat} {G : Nat → Nat} (hN : N ≤ 6) : ctS (exG N G) 6 = ctS G N := by
  rw [← ct_e N (Nat.le_refl _)]
  have : ∀ d, ctS (exG N G) (N + d) = ctS (exG N G) N := by
    intro d
    induction d with
    | zero => rfl
    | succ d ih =>
      rw [← Nat.add_assoc, ctS, ih]
      unfold exG
      rw [if_neg (by omega), cnt_z, Nat.add_zero]
  have h2 := this (6 - N)
  rwa [show N + (6 - N) = 6 by omega] at h2
def frX (μ m : Mem_) (r : Int) : Prop := (∀ o k, o ≠ 52 → o ≠ 53 → o ≠ 79 → o ≠ 80 → o ≠ 81 → m o k = μ o k) ∧ (∀ k, k ≠ r.toNat → m 52 k = μ 52 k) ∧ (∀ k : Nat, ¬ ((40 * r).toNat ≤ k ∧ k < (40 * r).toNat + 40) → m 53 k = μ 53 k)
set_option maxRecDepth 10000 in
theorem c_X8_safe {n mm r : Int} (hw : CW w) (hc : CP μ w) (h1 : ¬ ((1 ≤ n ∧ n ≤ 2) ∧ (0 ≤ mm ∧ mm ≤ 9) ∧ (0 ≤ r ∧ r < 6)) → Q (I_ (-1)) μ)
    (h2 : ((1 ≤ n ∧ n ≤ 2) ∧ (0 ≤ mm ∧ mm ≤ 9) ∧ (0 ≤ r ∧ r < 6)) → (∀ G, ¬ FV (neD w (stc w) (n + 1)) (tkI w) (fun _ => mm) G) → ∀ m : Mem_, frG μ m → Q (I_ (-9)) m)
    (h3 : ((1 ≤ n ∧ n ≤ 2) ∧ (0 ≤ mm ∧ mm ≤ 9) ∧ (0 ≤ r ∧ r < 6)) → ∀ g : Nat → Nat, FV (neD w (stc w) (n + 1)) (tkI w) (fun _ => mm) g → (∀ G, FV (neD w (stc w) (n + 1)) (tkI w) (fun _ => mm) G → ¬ lxl G g) → ∀ m : Mem_, frX μ m r → plRm m 6 r g → Q (I_ (ctS g 6 : Int)) m) : V_ nX8_safe 0 [R_ 50, I_ n, I_ mm, I_ r, U_, U_, U_] [] μ Q := by
  have s1 := hw.1.2.1
  have c1 := hc.1.1
  generalize hN : (w (stc w) 0).toNat = N at *
  have hN6 : N ≤ 6 := by omega
  have hle : 2 ^ N ≤ 2 ^ 6 := Nat.pow_le_pow_right (by omega) hN6
  have hpos : 0 < 2 ^ N := Nat.two_pow_pos _
  have eX : bShl 1 (w (stc w) 0) = ((2 ^ N : Nat) : Int) := by rw [← hN]; exact bShl_one (by omega) (by omega)
  have hmg : ∀ b, b < N → mgN w b < 2 ^ N := fun b _ => by have := mg_lt hw (b := b); rwa [hN] at this
  have FVn_w : ∀ mm G, FV (neD w (stc w) (n + 1)) (tkI w) (fun _ => mm) G → FVn N (neD w (stc w) (n + 1)) (mgN w) mm G := fun mm G q => by have := (FV_n hw q).1; rwa [hN] at this
  have FVe_w : 0 ≤ mm → ∀ G, FVn N (neD w (stc w) (n + 1)) (mgN w) mm G → FV (neD w (stc w) (n + 1)) (tkI w) (fun _ => mm) (exG N G) := fun q G q2 => by have := FV_e hw q (n := n) (G := G) (by rw [hN]; exact q2); rwa [hN] at this
  have fin : ((1 ≤ n ∧ n ≤ 2) ∧ (0 ≤ mm ∧ mm ≤ 9) ∧ (0 ≤ r ∧ r < 6)) → ∀ (G : Nat → Nat) (m : Mem_), frG μ m → FVn N (neD w (stc w) (n + 1)) (mgN w) mm G → (∀ j, j < N → m 81 j = (G j : Int)) → (∀ G2, FVn N (neD w (stc w) (n + 1)) (mgN w) mm G2 → ¬ lxn N G2 G) → V_ nX8_safe 53 [R_ 50, I_ n, I_ mm, I_ r, I_ (N : Int), I_ (((2 ^ N : Nat) : Int) - 1), U_] [] m Q := by
    intro hok G m f1 f2 f3 f4
    have e10 : m 50 10 = (N : Int) := by rw [f1 50 10 (by omega) (by omega) (by omega)]; omega
    have hD := fun b => neD_b (μ := w) (s := stc w) (due := n + 1) (by omega) b
    refine v_iload dX8_safe_53 rfl ?_
    refine v_if_lt (tgt := 193) dX8_safe_55 (by decide) (fun hc_55 => ?_) (fun hc_55 => ?_)
    · refine v_iload dX8_safe_193 rfl ?_
      refine v_if_ge (tgt := 201) dX8_safe_195 (by decide) (fun hc_195 => ?_) (fun hc_195 => ?_)
      · refine v_aload_n dX8_safe_201 rfl rfl ?_
        refine v_iload_n dX8_safe_202 rfl rfl ?_
        refine v_callVi [_] dX8_safe_203 lX8_320 kvX8_planTold (plX8 _ _) (Or.inl rfl) rfl rfl rfl rfl rfl rfl rfl rfl rfl (c_X8_planTold (N := N) (g := G) hN6 e10 (by omega) (fun j hj => ⟨f3 j hj, Nat.lt_of_le_of_lt (sb_le (f2.1 j hj).1) (hmg j hj), by have h5 := (f2.1 j hj).2; have h6 := hD j; have h7 := sb_le (f2.1 j hj).1; have h8 := hmg j hj; rw [cnt_32 (by omega)] at h5; omega⟩) (fun m2 g1 g2 => ?_))
        refine v_ireturn dX8_safe_206 rfl ?_
        first
          | (exfalso; omega)
          | (have := h3 hok (exG N G) (FVe_w hok.2.1.1 G f2) (fun G' hF hl => f4 G' (FVn_w mm G' hF) (lx_e hl)) m2 ⟨fun o k q1 q2 q3 q4 q5 => by rw [g1.1 o k q1 q2]; exact f1 o k q3 q4 q5, fun k q => by rw [g1.2.1 k q]; exact f1 52 k (by omega) (by omega) (by omega), fun k q => by rw [g1.2.2 k q]; exact f1 53 k (by omega) (by omega) (by omega)⟩ ⟨by rw [g2.1, ct_e6 hN6], fun h x hh hx hb => by
               unfold exG at hb
               by_cases hhN : h < N
               · rw [if_pos hhN] at hb
                 have hxN : x < N := bit_lt (Nat.lt_of_le_of_lt (sb_le (f2.1 h hhN).1) (hmg h hhN)) hb
                 rw [ct_e h (by omega), show exG N G h = G h by unfold exG; rw [if_pos hhN]]
                 exact g2.2 h x hhN hxN hb
               · rw [if_neg hhN] at hb; simp at hb⟩
             rw [ct_e6 hN6] at this
             exact this)
      · refine v_bipush dX8_safe_198 (by decide) ?_
        refine v_ireturn dX8_safe_200 rfl ?_
        first
          | (exfalso; omega)
          | (have := h3 hok (exG N G) (FVe_w hok.2.1.1 G f2) (fun G' hF hl => f4 G' (FVn_w mm G' hF) (lx_e hl)) m2 ⟨fun o k q1 q2 q3 q4 q5 => by rw [g1.1 o k q1 q2]; exact f1 o k q3 q4 q5, fun k q => by rw [g1.2.1 k q]; exact f1 52 k (by omega) (by omega) (by omega), fun k q => by rw [g1.2.2 k q]; exact f1 53 k (by omega) (by omega) (by omega)⟩ ⟨by rw [g2.1, ct_e6 hN6], fun h x hh hx hb => by
               unfold exG at hb
               by_cases hhN : h < N
               · rw [if_pos hhN] at hb
                 have hxN : x < N := bit_lt (Nat.lt_of_le_of_lt (sb_le (f2.1 h hhN).1) (hmg h hhN)) hb
                 rw [ct_e h (by omega), show exG N G h = G h by unfold exG; rw [if_pos hhN]]
                 exact g2.2 h x hhN hxN hb
               · rw [if_neg hhN] at hb; simp at hb⟩
             rw [ct_e6 hN6] at this
             exact this)
    · refine v_iload dX8_safe_58 rfl ?_
      refine v_aload_n dX8_safe_60 rfl rfl ?_
      refine v_getI dX8_safe_61 fX8_180 rfl rfl rfl ?_
      refine v_icmp_ge (tgt := 193) dX8_safe_64 (by decide) (fun hc_64 => ?_) (fun hc_64 => ?_)
      · refine v_iload dX8_safe_193 rfl ?_
        refine v_if_ge (tgt := 201) dX8_safe_195 (by decide) (fun hc_195 => ?_) (fun hc_195 => ?_)
        · refine v_aload_n dX8_safe_201 rfl rfl ?_
          refine v_iload_n dX8_safe_202 rfl rfl ?_
          refine v_callVi [_] dX8_safe_203 lX8_320 kvX8_planTold (plX8 _ _) (Or.inl rfl) rfl rfl rfl rfl rfl rfl rfl rfl rfl (c_X8_planTold (N := N) (g := G) hN6 e10 (by omega) (fun j hj => ⟨f3 j hj, Nat.lt_of_le_of_lt (sb_le (f2.1 j hj).1) (hmg j hj), by have h5 := (f2.1 j hj).2; have h6 := hD j; have h7 := sb_le (f2.1 j hj).1; have h8 := hmg j hj; rw [cnt_32 (by omega)] at h5; omega⟩) (fun m2 g1 g2 => ?_))
          refine v_ireturn dX8_safe_206 rfl ?_
          first
            | (exfalso; omega)
            | (have := h3 hok (exG N G) (FVe_w hok.2.1.1 G f2) (fun G' hF hl => f4 G' (FVn_w mm G' hF) (lx_e hl)) m2 ⟨fun o k q1 q2 q3 q4 q5 => by rw [g1.1 o k q1 q2]; exact f1 o k q3 q4 q5, fun k q => by rw [g1.2.1 k q]; exact f1 52 k (by omega) (by omega) (by omega), fun k q => by rw [g1.2.2 k q]; exact f1 53 k (by omega) (by omega) (by omega)⟩ ⟨by rw [g2.1, ct_e6 hN6], fun h x hh hx hb => by
                 unfold exG at hb
                 by_cases hhN : h < N
                 · rw [if_pos hhN] at hb
                   have hxN : x < N := bit_lt (Nat.lt_of_le_of_lt (sb_le (f2.1 h hhN).1) (hmg h hhN)) hb
                   rw [ct_e h (by omega), show exG N G h = G h by unfold exG; rw [if_pos hhN]]
                   exact g2.2 h x hhN hxN hb
                 · rw [if_neg hhN] at hb; simp at hb⟩
               rw [ct_e6 hN6] at this
               exact this)
        · refine v_bipush dX8_safe_198 (by decide) ?_
          refine v_ireturn dX8_safe_200 rfl ?_
          first
            | (exfalso; omega)
            | (have := h3 hok (exG N G) (FVe_w hok.2.1.1 G f2) (fun G' hF hl => f4 G' (FVn_w mm G' hF) (lx_e hl)) m2 ⟨fun o k q1 q2 q3 q4 q5 => by rw [g1.1 o k q1 q2]; exact f1 o k q3 q4 q5, fun k q => by rw [g1.2.1 k q]; exact f1 52 k (by omega) (by omega) (by omega), fun k q => by rw [g1.2.2 k q]; exact f1 53 k (by omega) (by omega) (by omega)⟩ ⟨by rw [g2.1, ct_e6 hN6], fun h x hh hx hb => by
                 unfold exG at hb
                 by_cases hhN : h < N
                 · rw [if_pos hhN] at hb
                   have hxN : x < N := bit_lt (Nat.lt_of_le_of_lt (sb_le (f2.1 h hhN).1) (hmg h hhN)) hb
                   rw [ct_e h (by omega), show exG N G h = G h by unfold exG; rw [if_pos hhN]]
                   exact g2.2 h x hhN hxN hb
                 · rw [if_neg hhN] at hb; simp at hb⟩
               rw [ct_e6 hN6] at this
               exact this)
      · refine v_kill (ls' := [_, _, _, _, _, _, _]) 6 rfl ?_
        exfalso; omega
  refine v_iload_n dX8_safe_0 rfl rfl ?_
  refine v_iconst dX8_safe_1 (by decide) ?_
  refine v_iconst dX8_safe_2 (by decide) ?_
  refine v_callSi [_, _, _] dX8_safe_3 lX8_112 ksX8_in (plX8 _ _) (Or.inr rfl) rfl rfl rfl rfl rfl rfl (c_X8_in ?_)
  refine v_ifb_eq (tgt := 26) dX8_safe_6 (by decide) (fun hc_6 => ?_) (fun hc_6 => ?_)
  · refine v_iconst dX8_safe_26 (by decide) ?_
    refine v_ireturn dX8_safe_27 rfl ?_
    exact h1 (by omega)
  · refine v_iload_n dX8_safe_9 rfl rfl ?_
    refine v_iconst dX8_safe_10 (by decide) ?_
    refine v_bipush dX8_safe_11 (by decide) ?_
    refine v_callSi [_, _, _] dX8_safe_13 lX8_112 ksX8_in (plX8 _ _) (Or.inr rfl) rfl rfl rfl rfl rfl rfl (c_X8_in ?_)
    refine v_ifb_eq (tgt := 26) dX8_safe_16 (by decide) (fun hc_16 => ?_) (fun hc_16 => ?_)
    · refine v_iconst dX8_safe_26 (by decide) ?_
      refine v_ireturn dX8_safe_27 rfl ?_
      exact h1 (by omega)
    · refine v_iload_n dX8_safe_19 rfl rfl ?_
      refine v_callSi [_] dX8_safe_20 lX8_122 ksX8_isRow (plX8 _ _) (Or.inr rfl) rfl rfl rfl rfl rfl rfl (c_X8_isRow ?_)
      refine v_ifb_ne (tgt := 28) dX8_safe_23 (by decide) (fun hc_23 => ?_) (fun hc_23 => ?_)
      · refine v_aload_n dX8_safe_28 rfl rfl ?_
        refine v_iload_n dX8_safe_29 rfl rfl ?_
        refine v_callVv [_] dX8_safe_30 lX8_314 kvX8_layLacks (plX8 _ _) rfl rfl rfl rfl rfl rfl rfl rfl rfl rfl (c_X8_layLacks hw hc (by omega) (fun m1 a1 a2 => ?_))
        refine v_iconst dX8_safe_33 (by decide) ?_
        refine v_istore (ls' := [_, _, _, _, _, _, _]) dX8_safe_34 rfl rfl rfl ?_
        refine v_iconst dX8_safe_36 (by decide) ?_
        refine v_aload_n dX8_safe_37 rfl rfl ?_
        refine v_getI dX8_safe_38 fX8_180 rfl rfl rfl ?_
        rw [a1 50 10 (by omega) (by omega), c1.1]
        refine v_ishl dX8_safe_41 ?_
        rw [eX]
        refine v_iconst dX8_safe_42 (by decide) ?_
        refine v_isub dX8_safe_43 (fun ha hb => by omega) ?_
        refine v_istore (ls' := [_, _, _, _, _, _, _]) dX8_safe_44 rfl rfl rfl ?_
        refine v_aload_n dX8_safe_46 rfl rfl ?_
        refine v_getR dX8_safe_47 fX8_101 rfl rfl rfl ?_
        refine v_iconst dX8_safe_50 (by decide) ?_
        refine v_iconst dX8_safe_51 (by decide) ?_
        refine v_iast dX8_safe_52 rfl (by omega) (by omega) ?_
        have hok : ((1 ≤ n ∧ n ≤ 2) ∧ (0 ≤ mm ∧ mm ≤ 9) ∧ (0 ≤ r ∧ r < 6)) := by omega
        have hS : SMq μ N (neD w (stc w) (n + 1)) (mgN w) (mset m1 81 0 (-1)) := ⟨fun o k q q2 q3 => by rw [mset_off (by omega)]; exact a1 o k q q2, fun b hb => by rw [mset_off (by omega), mset_off (by omega)]; exact a2 b (by omega)⟩
        by_cases hz : N = 0
        · have := fin hok (fun _ => 0) _ hS.1 ⟨fun b hb => by omega, fun x hx => by omega⟩ (fun j hj => by omega) (fun G2 _ hl => by obtain ⟨k, k1, _⟩ := hl; omega)
          rw [hz] at this ⊢
          exact this
        · refine safe_srch (r := r) (n := n) (mm := mm) hN6 hmg (by omega) N 0 (by omega) (by omega) (-1) (by omega) (by omega) _ (fun _ => 0) hS (fun j hj => by omega) (mset_same _ _ _ _) (fun G' m' k1 k2 k3 k4 k5 k6 => fin hok G' m' k1.1 k4 (fun j hj => (k5 j hj).1) (fun G2 hF => k6 G2 hF (fun j hj => by omega) (by omega))) (fun m' k1 k2 k3 => ?_)
          refine v_iload dX8_safe_53 rfl ?_
          refine v_if_lt (tgt := 193) dX8_safe_55 (by decide) (fun hc_55 => ?_) (fun hc_55 => ?_)
          · refine v_iload dX8_safe_193 rfl ?_
            refine v_if_ge (tgt := 201) dX8_safe_195 (by decide) (fun hc_195 => ?_) (fun hc_195 => ?_)
            · exfalso; omega
            · refine v_bipush dX8_safe_198 (by decide) ?_
              refine v_ireturn dX8_safe_200 rfl ?_
              exact h2 hok (fun G hF => k3 G (FVn_w mm G hF) (fun j hj => by omega) (by omega)) m' k1.1
          · exfalso; omega
      · refine v_iconst dX8_safe_26 (by decide) ?_
        refine v_ireturn dX8_safe_27 rfl ?_
        exact h1 (by omega)
end
