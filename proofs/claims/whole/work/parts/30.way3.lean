/-! the quickest way: the call -/
theorem td4096 (c : Nat) : (c : Int).tdiv 4096 = ((c / 4096 : Nat) : Int) := tdiv_nat c 4096
theorem td64 (c : Nat) : (c : Int).tdiv 64 = ((c / 64 : Nat) : Int) := tdiv_nat c 64
theorem tm64 (c : Nat) : (c : Int).tmod 64 = ((c % 64 : Nat) : Int) := tmod_nat c 64
theorem WV_le {st : Int} {m : Mem_} {L : Nat} (h : WV st m L) : L ≤ 4374 := by
  obtain ⟨-, -, -, h4, h5, -⟩ := h
  refine pigeon 4374 L (fun j => enc (dcd (m 32 j).toNat)) (fun i hi => ?_) (fun i j hi hj he => ?_)
  · obtain ⟨u, u1, u2⟩ := h4 i hi
    show enc (dcd (m 32 i).toNat) < 4374
    rw [u2, Int.toNat_natCast, dcd_cd u1]
    exact enc_lt u1
  · obtain ⟨u, u1, u2⟩ := h4 i hi
    obtain ⟨w, w1, w2⟩ := h4 j hj
    have he : enc (dcd (m 32 i).toNat) = enc (dcd (m 32 j).toNat) := he
    rw [u2, w2, Int.toNat_natCast, Int.toNat_natCast, dcd_cd u1, dcd_cd w1] at he
    exact h5 i j hi hj (by rw [u2, w2, enc_inj u1 w1 he])
/-- the stamps: none of the rows' is above the latest -/
def SIc (μ : Mem_) : Prop := (0 ≤ μ 28 3 ∧ μ 28 3 ≤ 10000) ∧ ∀ pl : Nat, pl < 4096 → 0 ≤ μ 31 pl ∧ μ 31 pl < (μ 28 3 + 1) * 64
def MMw (mn : Nat → Nat) (i L : Nat) (minute mEnd : Int) : Prop := (((i : Int) < mEnd ∧ minute = (mn i : Int)) ∧ mEnd ≤ L ∧ ∀ j : Nat, j < L → ((j : Int) < mEnd ↔ (mn j : Int) ≤ minute)) ∨ (mEnd = (i : Int) ∧ 0 ≤ minute ∧ minute ≤ i ∧ ∀ j : Nat, j < L → i ≤ j → (mn j : Int) = minute + 1)
section
variable {μ : Mem_} {Q : PV → Mem_ → Prop}
set_option maxRecDepth 10000 in
set_option maxHeartbeats 2000000 in
theorem c_X6_quickest {nH start opened set : Nat} {look ent : Nat → Nat} {home : Int} (hH : μ 28 0 = (nH : Int) ∧ nH ≤ 6) (hs : μ 28 1 = (start : Int) ∧ start < 6) (ho : opened < 64) (hset : set < 64) (hSI : SIc μ) (hlk : ∀ h : Nat, h < 6 → (μ 29 h = (look h : Int) ∧ look h < 64) ∧ (μ 30 h = (ent h : Int) ∧ ent h < 64))
    (hQ : ∀ (r : Int) (m' : Mem_), Lst (gRS (stC nH look ent set) (start, opened, 0) (gC set home start)) r → (∀ o k, o ≠ 31 → o ≠ 32 → ¬ (o = 28 ∧ (k = 2 ∨ k = 3 ∨ k = 4)) → m' o k = μ o k) → m' 28 3 = μ 28 3 + 1 → (∀ pl : Nat, pl < 4096 → 0 ≤ m' 31 pl ∧ m' 31 pl < (μ 28 3 + 1 + 1) * 64) → Q (I_ r) m') : V_ nX6_quickest 0 [R_ 28, I_ (opened : Int), I_ (set : Int), I_ home, U_, U_, U_, U_, U_] [] μ Q := by
  obtain ⟨hS1, hS2⟩ := hSI
  generalize hμ1 : mset (mset (mset μ 28 2 (set : Int)) 28 4 0) 28 3 (μ 28 3 + 1) = μ1
  have f1 : ∀ o k, ¬ (o = 28 ∧ (k = 2 ∨ k = 3 ∨ k = 4)) → μ1 o k = μ o k := fun o k h => by rw [← hμ1, mset_off (by omega), mset_off (by omega), mset_off (by omega)]
  have f2 : μ1 28 2 = (set : Int) := by rw [← hμ1, mset_off (by omega), mset_off (by omega), mset_same]
  have f3 : μ1 28 3 = μ 28 3 + 1 := by rw [← hμ1, mset_same]
  have f4 : μ1 28 4 = 0 := by rw [← hμ1, mset_off (by omega), mset_same]
  have hW0 : WV (μ 28 3 + 1) μ1 0 := by
    refine ⟨f4, f3, by omega, fun j hj => absurd hj (by omega), fun i j hi => absurd hi (by omega), fun pl hpl => ?_⟩
    have e := hS2 pl hpl
    rw [f1 31 pl (by omega)]
    refine ⟨by omega, fun at_ _ => ⟨fun q => by have := q.1; omega, fun q => ?_⟩⟩
    obtain ⟨j, j1, _⟩ := q
    omega
  have hv0 : vC (start, opened, 0) := ⟨hs.2, ho, by show (0 : Nat) < 64; decide, sb_0 _⟩
  have lp : ∀ i : Int, 0 ≤ i → i ≤ 4374 → ∀ (m : Mem_) (L : Nat) (mn : Nat → Nat) (minute mEnd : Int), WV (μ 28 3 + 1) m L → BFp (stC nH look ent set) (start, opened, 0) (gC set home start) (fun j => dcd (m 32 j).toNat) mn i.toNat L (fun _ => False) → MMw mn i.toNat L minute mEnd → (∀ j, j < L → mn j ≤ j) → (∀ o k, o ≠ 31 → o ≠ 32 → ¬ (o = 28 ∧ k = 4) → m o k = μ1 o k) → V_ nX6_quickest 55 [R_ 28, I_ (opened : Int), I_ (set : Int), I_ home, I_ minute, I_ mEnd, I_ i, U_, U_] [] m Q := by
    refine loop_up _ (fun i h0 hi1 ih => ?_)
    intro m L mn minute mEnd hW hB hM hmj hf
    have hmb : i.toNat < L → 0 ≤ minute ∧ minute ≤ i := by
      intro q
      rcases hM with ⟨⟨q1, q2⟩, q3, q4⟩ | ⟨q1, q2, q3, q4⟩
      · have := hmj i.toNat q; omega
      · omega
    have w1 := hW.1
    have hLe := WV_le hW
    have hiL : i.toNat ≤ L := hB.1.2.1
    have qend : ∀ r : Int, Lst (gRS (stC nH look ent set) (start, opened, 0) (gC set home start)) r → Q (I_ r) m := by
      intro r hr
      refine hQ r m hr (fun o k q1 q2 q3 => ?_) ?_ (fun pl hpl => ?_)
      · rw [hf o k q1 q2 (by omega)]; exact f1 o k q3
      · exact hW.2.1
      · exact (hW.2.2.2.2.2 pl hpl).1
    have body : i.toNat < L → ∀ mEnd' : Int, (i < mEnd') → mEnd' ≤ L → (∀ j : Nat, j < L → ((j : Int) < mEnd' ↔ mn j ≤ mn i.toNat)) → V_ nX6_quickest 88 [R_ 28, I_ (opened : Int), I_ (set : Int), I_ home, I_ (mn i.toNat : Int), I_ mEnd', I_ i, U_, U_] [] m Q := by
      intro hil mEnd' me1 me2 me3
      obtain ⟨t, t1, t2⟩ := hW.2.2.2.1 i.toNat hil
      obtain ⟨a, o, b⟩ := t
      have hd := dcd_cd t1
      have d1 : cdC (a, o, b) / 4096 = a := congrArg (fun z => z.1) hd
      have d2 : cdC (a, o, b) / 64 % 64 = o := congrArg (fun z => z.2.1) hd
      have d3 : cdC (a, o, b) % 64 = b := congrArg (fun z => z.2.2) hd
      have hqi : dcd (m 32 i.toNat).toNat = (a, o, b) := by rw [t2, Int.toNat_natCast, hd]
      have hmS : m 28 1 = (start : Int) := by rw [hf 28 1 (by decide) (by decide) (by decide), f1 28 1 (by decide)]; exact hs.1
      have hmG : m 28 2 = (set : Int) := by rw [hf 28 2 (by decide) (by decide) (by decide)]; exact f2
      have hPS : PSw (μ 28 3 + 1) (stC nH look ent set) (start, opened, 0) (gC set home start) m L mn i.toNat m (fun _ => False) := ⟨L, mn, Nat.le_refl _, hW, hB, fun _ _ => rfl, fun j j1 j2 => absurd j2 (by omega), fun _ _ _ _ _ => rfl, fun _ _ => rfl⟩
      have nxt : ¬ gC set home start (a, o, b) → V_ nX6_quickest 138 [R_ 28, I_ (opened : Int), I_ (set : Int), I_ home, I_ (mn i.toNat : Int), I_ mEnd', I_ i, I_ (a : Int), I_ (b : Int)] [] m Q := by
        intro hng
        have ta := t1.1
        refine v_aload_n dX6_quickest_138 rfl rfl ?_
        refine v_iload dX6_quickest_139 rfl ?_
        refine v_aload_n dX6_quickest_141 rfl rfl ?_
        refine v_getR dX6_quickest_142 fX6_21 rfl rfl rfl ?_
        refine v_iload dX6_quickest_145 rfl ?_
        refine v_iald dX6_quickest_147 rfl (by omega) (by omega) ?_
        rw [t2]
        refine v_bipush dX6_quickest_148 (by decide) ?_
        refine v_idiv dX6_quickest_150 (by omega) ?_
        rw [td64]
        refine v_bipush dX6_quickest_151 (by decide) ?_
        refine v_irem dX6_quickest_153 (by omega) ?_
        rw [tm64, d2]
        refine v_iload dX6_quickest_154 rfl ?_
        refine v_callVv [_, _, _] dX6_quickest_156 lX6_45 kvX6_goOn (plX6 _ _) rfl rfl rfl rfl rfl rfl rfl rfl rfl rfl (c_X6_goOn hPS hil hqi t1 ⟨by rw [hf 28 0 (by decide) (by decide) (by decide), f1 28 0 (by decide)]; exact hH.1, hH.2⟩ ⟨hmG, hset⟩ (fun h hh => by rw [hf 29 h (by decide) (by decide) (by omega), hf 30 h (by decide) (by decide) (by omega), f1 29 h (by omega), f1 30 h (by omega)]; exact hlk h hh) (fun m' T hPS' hT => ?_))
        refine v_iinc (ls' := [_, _, _, _, _, _, _, _, _]) dX6_quickest_159 rfl (fun hi_159 => by omega) rfl rfl ?_
        refine v_goto (tgt := 55) dX6_quickest_162 (by decide) ?_
        refine v_kill (ls' := [_, _, _, _, _, _, _, _, _]) 7 rfl ?_
        refine v_kill (ls' := [_, _, _, _, _, _, _, _, _]) 8 rfl ?_
        obtain ⟨L', mn', hL', hW', hB', hm1, hm2, hf', hq'⟩ := hPS'
        have e1 : (i + 1).toNat = i.toNat + 1 := by omega
        have hqi' : dcd (m' 32 i.toNat).toNat = (a, o, b) := by rw [hq' i.toNat hil]; exact hqi
        have hB2 := BFp_next hB' (by omega) (fun t ht => hT t (by have ht : stC nH look ent set (dcd (m' 32 i.toNat).toNat) t := ht; rw [hqi'] at ht; exact ht)) (by show ¬ gC set home start (dcd (m' 32 i.toNat).toNat); rw [hqi']; exact hng)
        refine ih (by omega) m' L' mn' _ _ hW' (by rw [e1]; exact hB2) ?_ (fun j hj => by
          by_cases q2 : j < L
          · rw [hm1 j q2]; exact hmj j q2
          · rw [hm2 j (by omega) hj]; have := hmj i.toNat hil; omega) (fun o k q1 q2 q3 => by rw [hf' o k q1 q2 q3]; exact hf o k q1 q2 q3)
        rw [e1]
        have mono := hB.2.1
        have h6 := hB.2.2.2.2.2.1
        by_cases q : i + 1 < mEnd'
        · refine Or.inl ⟨⟨by omega, ?_⟩, by omega, fun j hj => ?_⟩
          · rw [hm1 (i.toNat + 1) (by omega)]
            have a1 := (me3 (i.toNat + 1) (by omega)).mp (by omega)
            have a2 := mono i.toNat (i.toNat + 1) (by omega) (by omega)
            omega
          · by_cases q2 : j < L
            · rw [hm1 j q2]
              have := me3 j q2
              omega
            · rw [hm2 j (by omega) hj]
              omega
        · refine Or.inr ⟨by omega, by omega, ?_, fun j hj hj2 => ?_⟩
          · have := hmj i.toNat hil
            omega
          · by_cases q2 : j < L
            · rw [hm1 j q2]
              have a1 := me3 j q2
              have a2 := h6 j q2 hil
              omega
            · rw [hm2 j (by omega) hj]
              omega
      refine v_aload_n dX6_quickest_88 rfl rfl ?_
      refine v_getR dX6_quickest_89 fX6_21 rfl rfl rfl ?_
      refine v_iload dX6_quickest_92 rfl ?_
      refine v_iald dX6_quickest_94 rfl (by omega) (by omega) ?_
      rw [t2]
      refine v_sipush dX6_quickest_95 (by decide) ?_
      refine v_idiv dX6_quickest_98 (by omega) ?_
      rw [td4096, d1]
      refine v_istore (ls' := [_, _, _, _, _, _, _, _, _]) dX6_quickest_99 rfl rfl rfl ?_
      refine v_aload_n dX6_quickest_101 rfl rfl ?_
      refine v_getR dX6_quickest_102 fX6_21 rfl rfl rfl ?_
      refine v_iload dX6_quickest_105 rfl ?_
      refine v_iald dX6_quickest_107 rfl (by omega) (by omega) ?_
      rw [t2]
      refine v_bipush dX6_quickest_108 (by decide) ?_
      refine v_irem dX6_quickest_110 (by omega) ?_
      rw [tm64, d3]
      refine v_istore (ls' := [_, _, _, _, _, _, _, _, _]) dX6_quickest_111 rfl rfl rfl ?_
      refine v_iload dX6_quickest_113 rfl ?_
      refine v_aload_n dX6_quickest_115 rfl rfl ?_
      refine v_getI dX6_quickest_116 fX6_31 rfl rfl rfl ?_
      rw [hmG]
      refine v_icmp_ne (tgt := 138) dX6_quickest_119 (by decide) (fun hc_119 => ?_) (fun hc_119 => ?_)
      · exact nxt (fun q => by have e1 : b = set := q.1; omega)
      · refine v_iload_n dX6_quickest_122 rfl rfl ?_
        refine v_if_eq (tgt := 135) dX6_quickest_123 (by decide) (fun hc_123 => ?_) (fun hc_123 => ?_)
        · refine v_iload dX6_quickest_135 rfl ?_
          refine v_ireturn dX6_quickest_137 rfl ?_
          exact qend _ (BFp_ret hB hil (by show gC set home start (dcd (m 32 i.toNat).toNat); rw [hqi]; exact ⟨by show b = set; omega, Or.inl hc_123⟩))
        · refine v_iload dX6_quickest_126 rfl ?_
          refine v_aload_n dX6_quickest_128 rfl rfl ?_
          refine v_getI dX6_quickest_129 fX6_28 rfl rfl rfl ?_
          rw [hmS]
          refine v_icmp_ne (tgt := 138) dX6_quickest_132 (by decide) (fun hc_132 => ?_) (fun hc_132 => ?_)
          · exact nxt (fun q => by
              rcases q.2 with q2 | q2
              · exact hc_123 q2
              · have e1 : a = start := q2
                omega)
          · refine v_iload dX6_quickest_135 rfl ?_
            refine v_ireturn dX6_quickest_137 rfl ?_
            exact qend _ (BFp_ret hB hil (by show gC set home start (dcd (m 32 i.toNat).toNat); rw [hqi]; exact ⟨by show b = set; omega, Or.inr (by show a = start; omega)⟩))
    refine v_iload dX6_quickest_55 rfl ?_
    refine v_aload_n dX6_quickest_57 rfl rfl ?_
    refine v_getI dX6_quickest_58 fX6_34 rfl rfl rfl ?_
    rw [w1]
    refine v_icmp_ge (tgt := 165) dX6_quickest_61 (by decide) (fun hc_61 => ?_) (fun hc_61 => ?_)
    · refine v_bipush dX6_quickest_165 (by decide) ?_
      refine v_ireturn dX6_quickest_167 rfl ?_
      rw [show i.toNat = L by omega] at hB
      exact qend _ (BFp_end hB)
    · refine v_iload dX6_quickest_64 rfl ?_
      refine v_sipush dX6_quickest_66 (by decide) ?_
      refine v_icmp_ge (tgt := 165) dX6_quickest_69 (by decide) (fun hc_69 => ?_) (fun hc_69 => ?_)
      · refine v_bipush dX6_quickest_165 (by decide) ?_
        refine v_ireturn dX6_quickest_167 rfl ?_
        omega
      · refine v_iload dX6_quickest_72 rfl ?_
        refine v_iload dX6_quickest_74 rfl ?_
        refine v_icmp_ne (tgt := 88) dX6_quickest_76 (by decide) (fun hc_76 => ?_) (fun hc_76 => ?_)
        · rcases hM with ⟨⟨q1, q2⟩, q3, q4⟩ | ⟨q1, q2, q3, q4⟩
          · have := body (by omega) mEnd (by omega) q3 (fun j hj => by rw [q4 j hj]; omega)
            rw [q2]
            exact this
          · omega
        · have hmb := hmb (by omega)
          refine v_iinc (ls' := [_, _, _, _, _, _, _, _, _]) dX6_quickest_79 rfl (fun hi_79 => by omega) rfl rfl ?_
          refine v_aload_n dX6_quickest_82 rfl rfl ?_
          refine v_getI dX6_quickest_83 fX6_34 rfl rfl rfl ?_
          rw [w1]
          refine v_istore (ls' := [_, _, _, _, _, _, _, _, _]) dX6_quickest_86 rfl rfl rfl ?_
          rcases hM with ⟨⟨q1, q2⟩, q3, q4⟩ | ⟨q1, q2, q3, q4⟩
          · omega
          · have e := q4 i.toNat (by omega) (Nat.le_refl _)
            have := body (by omega) L (by omega) (Int.le_refl _) (fun j hj => ⟨fun _ => by
              rcases Nat.lt_or_ge j i.toNat with z | z
              · exact hB.2.1 j i.toNat (by omega) (by omega)
              · have := q4 j hj z; omega, fun _ => by omega⟩)
            rw [← e]
            exact this
  refine v_aload_n dX6_quickest_0 rfl rfl ?_
  refine v_iload_n dX6_quickest_1 rfl rfl ?_
  refine v_putI dX6_quickest_2 fpX6_31 rfl rfl rfl ?_
  refine v_aload_n dX6_quickest_5 rfl rfl ?_
  refine v_iconst dX6_quickest_6 (by decide) ?_
  refine v_putI dX6_quickest_7 fpX6_34 rfl rfl rfl ?_
  refine v_aload_n dX6_quickest_10 rfl rfl ?_
  refine v_aload_n dX6_quickest_11 rfl rfl ?_
  refine v_getI dX6_quickest_12 fX6_37 rfl rfl rfl ?_
  rw [mset_off (by omega), mset_off (by omega)]
  refine v_ldc (x := 16777216) dX6_quickest_15 lcX6_40 (by decide) (by decide) ?_
  refine v_icmp_lt (tgt := 24) dX6_quickest_17 (by decide) (fun hc_17 => ?_) (fun hc_17 => ?_)
  · refine v_aload_n dX6_quickest_24 rfl rfl ?_
    refine v_getI dX6_quickest_25 fX6_37 rfl rfl rfl ?_
    rw [mset_off (by omega), mset_off (by omega)]
    refine v_iconst dX6_quickest_28 (by decide) ?_
    refine v_iadd dX6_quickest_29 (fun ha hb => by omega) ?_
    refine v_putI dX6_quickest_30 fpX6_37 rfl rfl rfl ?_
    rw [hμ1]
    refine v_aload_n dX6_quickest_33 rfl rfl ?_
    refine v_aload_n dX6_quickest_34 rfl rfl ?_
    refine v_getI dX6_quickest_35 fX6_28 rfl rfl rfl ?_
    rw [f1 28 1 (by decide), hs.1]
    refine v_iload_n dX6_quickest_38 rfl rfl ?_
    refine v_iconst dX6_quickest_39 (by decide) ?_
    refine v_callVv [_, _, _] dX6_quickest_40 lX6_41 kvX6_reached (plX6 _ _) rfl rfl rfl rfl rfl rfl rfl rfl rfl rfl (c_X6_reached (L := 0) hv0 hW0 (fun q => by obtain ⟨j, j1, _⟩ := q; omega) (fun _ m1 hex hc hW1 => ?_))
    refine v_iconst dX6_quickest_43 (by decide) ?_
    refine v_istore (ls' := [_, _, _, _, _, _, _, _, _]) dX6_quickest_44 rfl rfl rfl ?_
    refine v_aload_n dX6_quickest_46 rfl rfl ?_
    refine v_getI dX6_quickest_47 fX6_34 rfl rfl rfl ?_
    rw [hW1.1]
    refine v_istore (ls' := [_, _, _, _, _, _, _, _, _]) dX6_quickest_50 rfl rfl rfl ?_
    refine v_iconst dX6_quickest_52 (by decide) ?_
    refine v_istore (ls' := [_, _, _, _, _, _, _, _, _]) dX6_quickest_53 rfl rfl rfl ?_
    refine lp 0 (by omega) (by omega) m1 1 (fun _ => 0) 0 _ hW1 (BFp_0 (by show dcd (m1 32 0).toNat = _; rw [hc, Int.toNat_natCast, dcd_cd hv0])) (Or.inl ⟨⟨by decide, rfl⟩, by decide, fun j hj => ?_⟩) (fun j _ => Nat.zero_le j) (fun o k q1 q2 q3 => hex o k q1 (by omega) q3)
    have : j = 0 := by omega
    subst this
    exact ⟨fun _ => by decide, fun _ => by decide⟩
  · omega
end
