/-! the model over the class: which doors are open on a way -/
section
variable {μ w : Mem_} {Q : PV → Mem_ → Prop}
theorem oh_wh {pl : Int} {g : Nat} : ohN w (orR (w 17 0).toNat (whF w pl g)) = opensC w pl g := by
  apply bx
  intro i
  rw [ohN_bit, opens_bit]
  constructor
  · rintro ⟨k, h1, h2, h3, h4⟩
    have := ((orP_bit (P := fun k => w 20 k = pl ∧ w 21 k = (g : Int))).1 h2).2
    exact ⟨k, h1, this.1, Or.inr this.2, h3, h4⟩
  · rintro ⟨k, h1, h2, h3, h4, h5⟩
    exact ⟨k, h1, (orP_bit (P := fun k => w 20 k = pl ∧ w 21 k = (g : Int))).2 ⟨h1, h2, by omega⟩, h4, h5⟩
theorem lk_and (hp : PIc w) {a g : Nat} : (a &&& orR (w 17 0).toNat (lkF w (g : Int))) = 0 ↔ ¬ (ohN w a).testBit g = true := by
  rw [and_0, ohN_bit]
  constructor
  · rintro h ⟨k, h1, h2, h3, h4⟩
    have := hp.2 k (by omega)
    exact h k ⟨h2, (orP_bit (P := fun k => w 18 k = (g : Int) ∧ liveC w k)).2 ⟨h1, by omega, h3⟩⟩
  · intro h k hk
    have a2 := (orP_bit (P := fun k => w 18 k = (g : Int) ∧ liveC w k)).1 hk.2
    exact h ⟨k, a2.1, hk.1, a2.2.2, by omega⟩
def ioF (w : Mem_) (p : Int) (l b j : Nat) : Nat := (if l.testBit j = true then orR (w 17 0).toNat (whF w 1 j) ||| orR (w (stc w) 1).toNat (ykF w p j) else 0) ||| (if b.testBit j = true then orR (w 17 0).toNat (whF w 2 j) else 0)
def owN (w : Mem_) (p own : Int) : Nat := if own = 0 then 0 else opensC w 0 p
def lkN (w : Mem_) (p : Int) (l k : Nat) : Nat := if l.testBit k = true then lookN w p k else 0
def enN (w : Mem_) (b k : Nat) : Nat := if b.testBit k = true then entN w k else 0
def oN (w : Mem_) (p own : Int) (l b : Nat) : Nat := owN w p own ||| orR (w (stc w) 0).toNat (lkN w p l) ||| orR (w (stc w) 0).toNat (enN w b)
theorem io_oN {p own : Int} {l b g : Nat} (hw : CW w) (hpp : 0 ≤ p) (hl : l < 2 ^ (w (stc w) 0).toNat) : (oN w p own l b).testBit g = true ↔ (ohN w (okN w p own ||| orR (w (stc w) 0).toNat (ioF w p l b))).testBit g = true ∨ (l.testBit g = true ∧ (orR (w (stc w) 1).toNat (yaF w p)).testBit g = true) := by
  have e1 : ohN w (okN w p own) = owN w p own := by
    unfold okN owN
    split
    · exact oh_0
    · exact oh_held hpp
  unfold oN
  rw [oh_or, or_bit, or_bit, or_bit, e1, oh_orR, orR_bit, orR_bit]
  constructor
  · rintro ((q | ⟨k, k1, k2⟩) | ⟨k, k1, k2⟩)
    · exact Or.inl (Or.inl q)
    · unfold lkN at k2
      by_cases hb : l.testBit k = true
      · rw [if_pos hb] at k2
        unfold lookN at k2
        rcases or_bit.1 k2 with k2 | k2
        · unfold baL at k2
          rw [if_pos (by omega)] at k2
          refine Or.inl (Or.inr ⟨k, k1, ?_⟩)
          unfold ioF
          rw [if_pos hb, oh_or, oh_or, oh_wh]
          exact or_bit.2 (Or.inl (or_bit.2 (Or.inl k2)))
        · obtain ⟨q, q1, q2⟩ := orR_bit.1 k2
          unfold loF at q2
          by_cases hq : cwC w p q ∧ w (stc w + 2) q = (k : Int)
          · rw [if_pos hq] at q2
            unfold haC at q2
            rcases or_bit.1 q2 with q2 | q2
            · refine Or.inl (Or.inr ⟨k, k1, ?_⟩)
              unfold ioF
              rw [if_pos hb, oh_or, oh_or]
              refine or_bit.2 (Or.inl (or_bit.2 (Or.inr (oh_orR.2 ⟨q, q1, ?_⟩))))
              unfold ykF
              rw [if_pos hq, oh_held (by omega)]
              exact q2
            · rw [Int.toNat_natCast] at q2
              by_cases hh : 0 ≤ w (stc w + 2) q
              · rw [if_pos hh] at q2
                have e := pw_bit.1 q2
                have ek : k = g := by omega
                subst ek
                refine Or.inr ⟨hb, orR_bit.2 ⟨q, q1, ?_⟩⟩
                unfold yaF
                rw [if_pos hq.1]
                exact q2
              · rw [if_neg hh] at q2; simp at q2
          · rw [if_neg hq] at q2; simp at q2
      · rw [if_neg hb] at k2; simp at k2
    · unfold enN at k2
      by_cases hb : b.testBit k = true
      · rw [if_pos hb] at k2
        unfold entN at k2
        rw [if_pos (by omega)] at k2
        refine Or.inl (Or.inr ⟨k, k1, ?_⟩)
        unfold ioF
        rw [if_pos hb, oh_or, oh_wh]
        exact or_bit.2 (Or.inr k2)
      · rw [if_neg hb] at k2; simp at k2
  · rintro ((q | ⟨k, k1, k2⟩) | ⟨hb, k2⟩)
    · exact Or.inl (Or.inl q)
    · unfold ioF at k2
      rw [oh_or] at k2
      rcases or_bit.1 k2 with k2 | k2
      · by_cases hb : l.testBit k = true
        · rw [if_pos hb, oh_or, oh_wh] at k2
          refine Or.inl (Or.inr ⟨k, k1, ?_⟩)
          unfold lkN lookN baL
          rw [if_pos hb, if_pos (by omega)]
          rcases or_bit.1 k2 with k2 | k2
          · exact or_bit.2 (Or.inl k2)
          · obtain ⟨q, q1, q2⟩ := oh_orR.1 k2
            unfold ykF at q2
            by_cases hq : cwC w p q ∧ w (stc w + 2) q = (k : Int)
            · rw [if_pos hq, oh_held (by omega)] at q2
              refine or_bit.2 (Or.inr (orR_bit.2 ⟨q, q1, ?_⟩))
              unfold loF haC
              rw [if_pos hq]
              exact or_bit.2 (Or.inl q2)
            · rw [if_neg hq, oh_0] at q2; simp at q2
        · rw [if_neg hb, oh_0] at k2; simp at k2
      · by_cases hb : b.testBit k = true
        · rw [if_pos hb, oh_wh] at k2
          refine Or.inr ⟨k, k1, ?_⟩
          unfold enN entN
          rw [if_pos hb, if_pos (by omega)]
          exact k2
        · rw [if_neg hb, oh_0] at k2; simp at k2
    · obtain ⟨q, q1, q2⟩ := orR_bit.1 k2
      unfold yaF at q2
      by_cases hq : cwC w p q
      · rw [if_pos hq] at q2
        have e := pw_bit.1 q2
        have h0 := hq.2.1
        rw [Int.toNat_natCast] at h0
        refine Or.inl (Or.inr ⟨g, bit_lt hl hb, ?_⟩)
        unfold lkN lookN
        rw [if_pos hb]
        refine or_bit.2 (Or.inr (orR_bit.2 ⟨q, q1, ?_⟩))
        unfold loF haC
        rw [if_pos ⟨hq, by omega⟩, Int.toNat_natCast, if_pos h0]
        exact or_bit.2 (Or.inr q2)
      · rw [if_neg hq] at q2; simp at q2
theorem io_lt (hp : PIc w) {p : Int} {l b j : Nat} : ioF w p l b j < 2 ^ 24 := by
  unfold ioF
  refine Nat.or_lt_two_pow ?_ ?_
  · split
    · exact Nat.or_lt_two_pow (held_lt hp (fun k => if_pw)) (orR_lt (fun q _ => yk_lt hp))
    · decide
  · split
    · exact held_lt hp (fun k => if_pw)
    · decide
set_option maxRecDepth 10000 in
theorem c_X8_isOpenTo {p own g : Int} {l b : Nat} (hw : CW w) (hc : CP μ w) (hpp : 0 ≤ p) (hW : WLk w p own (w (stc w) 1).toNat μ) (hl : l < 2 ^ (w (stc w) 0).toNat) (hb : b < 64) (hg : 0 ≤ g ∧ g < w (stc w) 0) (h : Q (I_ (b2i ((oN w p own l b).testBit g.toNat = true))) μ) : V_ nX8_isOpenTo 0 [R_ 50, I_ g, I_ (l : Int), I_ (b : Int), U_, U_] [] μ Q := by
  have c1 := hc.1.1
  have s1 := hw.1.2.1
  have hp := hw.P
  have hle : 2 ^ (w (stc w) 0).toNat ≤ 2 ^ 6 := Nat.pow_le_pow_right (by omega) (by omega)
  have lo : okN w p own < 2 ^ 24 := by
    unfold okN
    split
    · decide
    · exact held_lt hp (fun k => if_pw)
  have la : orR (w (stc w) 1).toNat (yaF w p) < 2 ^ 6 := orR_lt (fun q hq => ya_lt hw hq)
  have key := io_oN (own := own) (b := b) (g := g.toNat) hw hpp hl
  have lp : ∀ k : Int, 0 ≤ k → k ≤ w (stc w) 0 → ∀ a : Int, a = ((okN w p own ||| orR k.toNat (ioF w p l b) : Nat) : Int) → V_ nX8_isOpenTo 9 [R_ 50, I_ g, I_ (l : Int), I_ (b : Int), I_ a, I_ k] [] μ Q := by
    refine loop_up _ (fun k h0 h1 ih => ?_)
    intro a ha
    have lr : orR k.toNat (ioF w p l b) < 2 ^ 24 := orR_lt (fun j _ => io_lt hp)
    have l1 := Nat.or_lt_two_pow lo lr
    have eP : k < w (stc w) 0 → μ 74 k.toNat = ((orR (w 17 0).toNat (whF w 1 (k.toNat : Int)) : Nat) : Int) := fun q => hc.2.2.1.2.1 k.toNat (by omega)
    have eI : k < w (stc w) 0 → μ 75 k.toNat = ((orR (w 17 0).toNat (whF w 2 (k.toNat : Int)) : Nat) : Int) := fun q => hc.2.2.1.2.2.1 k.toNat (by omega)
    have eW : k < w (stc w) 0 → μ 78 k.toNat = ((orR (w (stc w) 1).toNat (ykF w p k.toNat) : Nat) : Int) := fun q => hW.2.2 k.toNat (by omega)
    have eLv : μ 73 g.toNat = ((orR (w 17 0).toNat (lkF w (g.toNat : Int)) : Nat) : Int) := hc.2.2.1.1 g.toNat (by omega)
    have b1 := held_lt hp (f := whF w 1 (k.toNat : Int)) (fun k => if_pw)
    have b2 := held_lt hp (f := whF w 2 (k.toNat : Int)) (fun k => if_pw)
    have b3 : orR (w (stc w) 1).toNat (ykF w p k.toNat) < 2 ^ 24 := orR_lt (fun q _ => yk_lt hp)
    have b4 := held_lt hp (f := lkF w (g.toNat : Int)) (fun k => if_pw)
    have b5 := Nat.or_lt_two_pow b1 b3
    have stp : ∀ x y : Nat, k < w (stc w) 0 → x = (if l.testBit k.toNat = true then orR (w 17 0).toNat (whF w 1 (k.toNat : Int)) ||| orR (w (stc w) 1).toNat (ykF w p k.toNat) else 0) → y = (if b.testBit k.toNat = true then orR (w 17 0).toNat (whF w 2 (k.toNat : Int)) else 0) → V_ nX8_isOpenTo 9 [R_ 50, I_ g, I_ (l : Int), I_ (b : Int), I_ (bOr (bOr a (x : Int)) (y : Int)), I_ (k + 1)] [] μ Q := by
      intro x y hk hx hy
      have lx : x < 2 ^ 24 := by rw [hx]; split; exact b5; decide
      have ly : y < 2 ^ 24 := by rw [hy]; split; exact b2; decide
      have l2 := Nat.or_lt_two_pow l1 lx
      rw [ha, bOr_nat (by omega) (by omega), bOr_nat (by omega) (by omega)]
      refine ih hk _ ?_
      rw [show (k + 1).toNat = k.toNat + 1 by omega, orR, show ioF w p l b k.toNat = x ||| y by rw [hx, hy]; rfl, ← Nat.or_assoc, ← Nat.or_assoc]
    refine v_iload dX8_isOpenTo_9 rfl ?_
    refine v_aload_n dX8_isOpenTo_11 rfl rfl ?_
    refine v_getI dX8_isOpenTo_12 fX8_180 rfl rfl rfl ?_
    refine v_icmp_ge (tgt := 82) dX8_isOpenTo_15 (by decide) (fun hc_15 => ?_) (fun hc_15 => ?_)
    · refine v_iload dX8_isOpenTo_82 rfl ?_
      refine v_aload_n dX8_isOpenTo_84 rfl rfl ?_
      refine v_getR dX8_isOpenTo_85 fX8_77 rfl rfl rfl ?_
      refine v_iload_n dX8_isOpenTo_88 rfl rfl ?_
      refine v_iald dX8_isOpenTo_89 rfl (by omega) (by omega) ?_
      rw [eLv]
      refine v_iand dX8_isOpenTo_90 ?_
      rw [ha, bAnd_nat (by omega) (by omega)]
      refine v_if_ne (tgt := 107) dX8_isOpenTo_91 (by decide) (fun hc_91 => ?_) (fun hc_91 => ?_)
      · refine v_iconst dX8_isOpenTo_107 (by decide) ?_
        refine v_goto (tgt := 112) dX8_isOpenTo_108 (by decide) ?_
        refine v_zreturn dX8_isOpenTo_112 rfl (by first | exact Or.inl rfl | exact Or.inr rfl | exact b2i_01 _ | assumption) ?_
        rw [show k.toNat = (w (stc w) 0).toNat by omega] at *
        first
          | (have hz : ¬ (okN w p own ||| orR (w (stc w) 0).toNat (ioF w p l b)) &&& orR (w 17 0).toNat (lkF w (g.toNat : Int)) = 0 := by omega
             rwa [b2i_t (key.2 (Or.inl (Classical.byContradiction (fun q => hz ((lk_and hp).2 q)))))] at h)
          | (have hz : (okN w p own ||| orR (w (stc w) 0).toNat (ioF w p l b)) &&& orR (w 17 0).toNat (lkF w (g.toNat : Int)) = 0 := by omega
             have hnz := (lk_and hp).1 hz
             first
               | rwa [b2i_t (key.2 (Or.inr (and_bit.1 (by simpa only [Int.toNat_natCast] using hc_104))))] at h
               | rwa [b2i_f (fun q => (key.1 q).elim hnz (fun q2 => hc_104 (by simpa only [Int.toNat_natCast] using and_bit.2 q2)))] at h)
      · refine v_iload_n dX8_isOpenTo_94 rfl rfl ?_
        refine v_aload_n dX8_isOpenTo_95 rfl rfl ?_
        refine v_getI dX8_isOpenTo_96 fX8_280 rfl rfl rfl ?_
        rw [hW.2.1]
        refine v_iand dX8_isOpenTo_99 ?_
        rw [bAnd_nat (by omega) (by omega)]
        refine v_iload_n dX8_isOpenTo_100 rfl rfl ?_
        refine v_callSi [_, _] dX8_isOpenTo_101 lX8_252 ksX8_has (plX8 _ _) (Or.inr rfl) rfl rfl rfl rfl rfl rfl (c_X8_has (by omega) (by omega) (by omega) ?_)
        refine v_ifb_eq (tgt := 111) dX8_isOpenTo_104 (by decide) (fun hc_104 => ?_) (fun hc_104 => ?_)
        · refine v_iconst dX8_isOpenTo_111 (by decide) ?_
          refine v_zreturn dX8_isOpenTo_112 rfl (by first | exact Or.inl rfl | exact Or.inr rfl | exact b2i_01 _ | assumption) ?_
          rw [show k.toNat = (w (stc w) 0).toNat by omega] at *
          first
            | (have hz : ¬ (okN w p own ||| orR (w (stc w) 0).toNat (ioF w p l b)) &&& orR (w 17 0).toNat (lkF w (g.toNat : Int)) = 0 := by omega
               rwa [b2i_t (key.2 (Or.inl (Classical.byContradiction (fun q => hz ((lk_and hp).2 q)))))] at h)
            | (have hz : (okN w p own ||| orR (w (stc w) 0).toNat (ioF w p l b)) &&& orR (w 17 0).toNat (lkF w (g.toNat : Int)) = 0 := by omega
               have hnz := (lk_and hp).1 hz
               first
                 | rwa [b2i_t (key.2 (Or.inr (and_bit.1 (by simpa only [Int.toNat_natCast] using hc_104))))] at h
                 | rwa [b2i_f (fun q => (key.1 q).elim hnz (fun q2 => hc_104 (by simpa only [Int.toNat_natCast] using and_bit.2 q2)))] at h)
        · refine v_iconst dX8_isOpenTo_107 (by decide) ?_
          refine v_goto (tgt := 112) dX8_isOpenTo_108 (by decide) ?_
          refine v_zreturn dX8_isOpenTo_112 rfl (by first | exact Or.inl rfl | exact Or.inr rfl | exact b2i_01 _ | assumption) ?_
          rw [show k.toNat = (w (stc w) 0).toNat by omega] at *
          first
            | (have hz : ¬ (okN w p own ||| orR (w (stc w) 0).toNat (ioF w p l b)) &&& orR (w 17 0).toNat (lkF w (g.toNat : Int)) = 0 := by omega
               rwa [b2i_t (key.2 (Or.inl (Classical.byContradiction (fun q => hz ((lk_and hp).2 q)))))] at h)
            | (have hz : (okN w p own ||| orR (w (stc w) 0).toNat (ioF w p l b)) &&& orR (w 17 0).toNat (lkF w (g.toNat : Int)) = 0 := by omega
               have hnz := (lk_and hp).1 hz
               first
                 | rwa [b2i_t (key.2 (Or.inr (and_bit.1 (by simpa only [Int.toNat_natCast] using hc_104))))] at h
                 | rwa [b2i_f (fun q => (key.1 q).elim hnz (fun q2 => hc_104 (by simpa only [Int.toNat_natCast] using and_bit.2 q2)))] at h)
    · refine v_iload dX8_isOpenTo_18 rfl ?_
      refine v_iload_n dX8_isOpenTo_20 rfl rfl ?_
      refine v_iload dX8_isOpenTo_21 rfl ?_
      refine v_callSi [_, _] dX8_isOpenTo_23 lX8_252 ksX8_has (plX8 _ _) (Or.inr rfl) rfl rfl rfl rfl rfl rfl (c_X8_has (by omega) (by omega) (by omega) ?_)
      refine v_ifb_eq (tgt := 47) dX8_isOpenTo_26 (by decide) (fun hc_26 => ?_) (fun hc_26 => ?_)
      · refine v_iconst dX8_isOpenTo_47 (by decide) ?_
        refine v_ior dX8_isOpenTo_48 ?_
        refine v_istore (ls' := [_, _, _, _, _, _]) dX8_isOpenTo_49 rfl rfl rfl ?_
        refine v_iload dX8_isOpenTo_51 rfl ?_
        refine v_iload_n dX8_isOpenTo_53 rfl rfl ?_
        refine v_iload dX8_isOpenTo_54 rfl ?_
        refine v_callSi [_, _] dX8_isOpenTo_56 lX8_252 ksX8_has (plX8 _ _) (Or.inr rfl) rfl rfl rfl rfl rfl rfl (c_X8_has (by omega) (by omega) (by omega) ?_)
        refine v_ifb_eq (tgt := 72) dX8_isOpenTo_59 (by decide) (fun hc_59 => ?_) (fun hc_59 => ?_)
        · refine v_iconst dX8_isOpenTo_72 (by decide) ?_
          refine v_ior dX8_isOpenTo_73 ?_
          refine v_istore (ls' := [_, _, _, _, _, _]) dX8_isOpenTo_74 rfl rfl rfl ?_
          refine v_iinc (ls' := [_, _, _, _, _, _]) dX8_isOpenTo_76 rfl (fun hi_76 => by omega) rfl rfl ?_
          refine v_goto (tgt := 9) dX8_isOpenTo_79 (by decide) ?_
          have hx : ∀ P : Prop, P → P := fun _ q => q
          first
            | exact stp _ _ (by omega) (by rw [if_pos (by simpa using hc_26)]) (by rw [if_pos (by simpa using hc_59)])
            | exact stp _ 0 (by omega) (by rw [if_pos (by simpa using hc_26)]) (by rw [if_neg (by simpa using hc_59)])
            | exact stp 0 _ (by omega) (by rw [if_neg (by simpa using hc_26)]) (by rw [if_pos (by simpa using hc_59)])
            | exact stp 0 0 (by omega) (by rw [if_neg (by simpa using hc_26)]) (by rw [if_neg (by simpa using hc_59)])
        · refine v_aload_n dX8_isOpenTo_62 rfl rfl ?_
          refine v_getR dX8_isOpenTo_63 fX8_83 rfl rfl rfl ?_
          refine v_iload dX8_isOpenTo_66 rfl ?_
          refine v_iald dX8_isOpenTo_68 rfl (by omega) (by omega) ?_
          rw [eI (by omega)]
          refine v_goto (tgt := 73) dX8_isOpenTo_69 (by decide) ?_
          refine v_ior dX8_isOpenTo_73 ?_
          refine v_istore (ls' := [_, _, _, _, _, _]) dX8_isOpenTo_74 rfl rfl rfl ?_
          refine v_iinc (ls' := [_, _, _, _, _, _]) dX8_isOpenTo_76 rfl (fun hi_76 => by omega) rfl rfl ?_
          refine v_goto (tgt := 9) dX8_isOpenTo_79 (by decide) ?_
          have hx : ∀ P : Prop, P → P := fun _ q => q
          first
            | exact stp _ _ (by omega) (by rw [if_pos (by simpa using hc_26)]) (by rw [if_pos (by simpa using hc_59)])
            | exact stp _ 0 (by omega) (by rw [if_pos (by simpa using hc_26)]) (by rw [if_neg (by simpa using hc_59)])
            | exact stp 0 _ (by omega) (by rw [if_neg (by simpa using hc_26)]) (by rw [if_pos (by simpa using hc_59)])
            | exact stp 0 0 (by omega) (by rw [if_neg (by simpa using hc_26)]) (by rw [if_neg (by simpa using hc_59)])
      · refine v_aload_n dX8_isOpenTo_29 rfl rfl ?_
        refine v_getR dX8_isOpenTo_30 fX8_80 rfl rfl rfl ?_
        refine v_iload dX8_isOpenTo_33 rfl ?_
        refine v_iald dX8_isOpenTo_35 rfl (by omega) (by omega) ?_
        rw [eP (by omega)]
        refine v_aload_n dX8_isOpenTo_36 rfl rfl ?_
        refine v_getR dX8_isOpenTo_37 fX8_92 rfl rfl rfl ?_
        refine v_iload dX8_isOpenTo_40 rfl ?_
        refine v_iald dX8_isOpenTo_42 rfl (by omega) (by omega) ?_
        rw [eW (by omega)]
        refine v_ior dX8_isOpenTo_43 ?_
        rw [bOr_nat (by omega) (by omega)]
        refine v_goto (tgt := 48) dX8_isOpenTo_44 (by decide) ?_
        refine v_ior dX8_isOpenTo_48 ?_
        refine v_istore (ls' := [_, _, _, _, _, _]) dX8_isOpenTo_49 rfl rfl rfl ?_
        refine v_iload dX8_isOpenTo_51 rfl ?_
        refine v_iload_n dX8_isOpenTo_53 rfl rfl ?_
        refine v_iload dX8_isOpenTo_54 rfl ?_
        refine v_callSi [_, _] dX8_isOpenTo_56 lX8_252 ksX8_has (plX8 _ _) (Or.inr rfl) rfl rfl rfl rfl rfl rfl (c_X8_has (by omega) (by omega) (by omega) ?_)
        refine v_ifb_eq (tgt := 72) dX8_isOpenTo_59 (by decide) (fun hc_59 => ?_) (fun hc_59 => ?_)
        · refine v_iconst dX8_isOpenTo_72 (by decide) ?_
          refine v_ior dX8_isOpenTo_73 ?_
          refine v_istore (ls' := [_, _, _, _, _, _]) dX8_isOpenTo_74 rfl rfl rfl ?_
          refine v_iinc (ls' := [_, _, _, _, _, _]) dX8_isOpenTo_76 rfl (fun hi_76 => by omega) rfl rfl ?_
          refine v_goto (tgt := 9) dX8_isOpenTo_79 (by decide) ?_
          have hx : ∀ P : Prop, P → P := fun _ q => q
          first
            | exact stp _ _ (by omega) (by rw [if_pos (by simpa using hc_26)]) (by rw [if_pos (by simpa using hc_59)])
            | exact stp _ 0 (by omega) (by rw [if_pos (by simpa using hc_26)]) (by rw [if_neg (by simpa using hc_59)])
            | exact stp 0 _ (by omega) (by rw [if_neg (by simpa using hc_26)]) (by rw [if_pos (by simpa using hc_59)])
            | exact stp 0 0 (by omega) (by rw [if_neg (by simpa using hc_26)]) (by rw [if_neg (by simpa using hc_59)])
        · refine v_aload_n dX8_isOpenTo_62 rfl rfl ?_
          refine v_getR dX8_isOpenTo_63 fX8_83 rfl rfl rfl ?_
          refine v_iload dX8_isOpenTo_66 rfl ?_
          refine v_iald dX8_isOpenTo_68 rfl (by omega) (by omega) ?_
          rw [eI (by omega)]
          refine v_goto (tgt := 73) dX8_isOpenTo_69 (by decide) ?_
          refine v_ior dX8_isOpenTo_73 ?_
          refine v_istore (ls' := [_, _, _, _, _, _]) dX8_isOpenTo_74 rfl rfl rfl ?_
          refine v_iinc (ls' := [_, _, _, _, _, _]) dX8_isOpenTo_76 rfl (fun hi_76 => by omega) rfl rfl ?_
          refine v_goto (tgt := 9) dX8_isOpenTo_79 (by decide) ?_
          have hx : ∀ P : Prop, P → P := fun _ q => q
          first
            | exact stp _ _ (by omega) (by rw [if_pos (by simpa using hc_26)]) (by rw [if_pos (by simpa using hc_59)])
            | exact stp _ 0 (by omega) (by rw [if_pos (by simpa using hc_26)]) (by rw [if_neg (by simpa using hc_59)])
            | exact stp 0 _ (by omega) (by rw [if_neg (by simpa using hc_26)]) (by rw [if_pos (by simpa using hc_59)])
            | exact stp 0 0 (by omega) (by rw [if_neg (by simpa using hc_26)]) (by rw [if_neg (by simpa using hc_59)])
  refine v_aload_n dX8_isOpenTo_0 rfl rfl ?_
  refine v_getI dX8_isOpenTo_1 fX8_277 rfl rfl rfl ?_
  rw [hW.1]
  refine v_istore (ls' := [_, _, _, _, _, _]) dX8_isOpenTo_4 rfl rfl rfl ?_
  refine v_iconst dX8_isOpenTo_6 (by decide) ?_
  refine v_istore (ls' := [_, _, _, _, _, _]) dX8_isOpenTo_7 rfl rfl rfl ?_
  exact lp 0 (by omega) (by omega) _ (by rw [show orR (0 : Int).toNat (ioF w p l b) = 0 from rfl, Nat.or_zero])
end
