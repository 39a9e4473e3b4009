/-! the model over the class: the digest -/
def hx (μ : Mem_) (a : Int) : Mem_ := mset μ 50 49 a
theorem hx_at {μ : Mem_} {a : Int} : hx μ a 50 49 = a := mset_same _ _ _ _
theorem hx_hx {μ : Mem_} {a b : Int} : hx (hx μ a) b = hx μ b := by
  funext o i
  unfold hx mset
  split <;> rfl
theorem hx_off {μ : Mem_} {a : Int} {o i : Nat} (h : ¬ (o = 50 ∧ i = 49)) : hx μ a o i = μ o i := mset_off h
theorem CP_hx {μ w : Mem_} {a : Int} (h : CP μ w) : CP (hx μ a) w := CP_fr h (fun k q => hx_off (by omega)) (fun o k q => hx_off (by omega))
theorem CR_hx {μ w : Mem_} {a : Int} (h : CR μ w) : CR (hx μ a) w := ⟨fun r hr => ⟨by rw [hx_off (by omega)]; exact (h.1 r hr).1, (h.1 r hr).2.1, fun i hi => by rw [hx_off (by omega)]; exact (h.1 r hr).2.2 i hi⟩, fun r hr => ⟨by rw [hx_off (by omega)]; exact (h.2.1 r hr).1, (h.2.1 r hr).2.1, fun i hi => by rw [hx_off (by omega)]; exact (h.2.1 r hr).2.2 i hi⟩, fun j => by rw [hx_off (by omega)]; exact h.2.2 j⟩
def ev5 (w : Mem_) (i : Nat) : Int := dgR (i % 4) (fun k => ldC w (i / 4) k) (itR (i / 4) (fun e a => dgR 4 (fun k => ldC w e k) a) (dg4 w (w 17 0).toNat))
theorem ev5_s {w : Mem_} {i : Nat} : ev5 w (i + 1) = dgS (ev5 w i) (ldC w (i / 4) ((i % 4 : Nat) : Int)) := by
  unfold ev5 dgS
  rcases (show i % 4 < 3 ∨ i % 4 = 3 by omega) with h | h
  · rw [show (i + 1) % 4 = i % 4 + 1 by omega, show (i + 1) / 4 = i / 4 by omega, dgR]
  · rw [show (i + 1) % 4 = 0 by omega, show (i + 1) / 4 = i / 4 + 1 by omega, dgR, itR, h]
    rfl
theorem dg2_0 {w : Mem_} : dg2 w (0 : Int).toNat = dg1 w := by rw [show (0 : Int).toNat = 0 from rfl]; unfold dg2; rw [itR]
theorem dg3_0 {w : Mem_} : dg3 w (0 : Int).toNat = dg2 w (w (stc w) 0).toNat := by rw [show (0 : Int).toNat = 0 from rfl]; unfold dg3; rw [itR]
theorem dg4_0 {w : Mem_} : dg4 w (0 : Int).toNat = dg3 w (w (stc w) 1).toNat := by rw [show (0 : Int).toNat = 0 from rfl]; unfold dg4; rw [itR]
theorem ev5_0 {w : Mem_} : ev5 w (0 : Int).toNat = dg4 w (w 17 0).toNat := by rw [show (0 : Int).toNat = 0 from rfl]; unfold ev5; rw [show 0 % 4 = 0 from rfl, show 0 / 4 = 0 from rfl, dgR, itR]
section
variable {μ w : Mem_} {Q : PV → Mem_ → Prop}
set_option maxRecDepth 10000 in
theorem c_X8_mix {v : Int} (h : Q U_ (hx μ (dgS (μ 50 49) v))) : V_ nX8_mix 0 [R_ 50, L_ v, U_] [] μ Q := by
  refine v_aload_n dX8_mix_0 rfl rfl ?_
  refine v_ldc2 (x := 31) dX8_mix_1 lcX8_335 (by decide) (by decide) ?_
  refine v_aload_n dX8_mix_4 rfl rfl ?_
  refine v_getL dX8_mix_5 fX8_337 rfl rfl rfl ?_
  refine v_lmul dX8_mix_8 ?_
  refine v_lload_n dX8_mix_9 rfl rfl ?_
  refine v_ladd dX8_mix_10 ?_
  refine v_putL dX8_mix_11 fpX8_337 rfl rfl rfl ?_
  refine v_return dX8_mix_14 rfl ?_
  exact h
set_option maxRecDepth 10000 in
theorem c_X8_mixStreet (hw : CW w) (hc : CP μ w) (hh : μ 50 49 = dg1 w) (h : Q U_ (hx μ (dg5 w (w 7 0).toNat))) : V_ nX8_mixStreet 0 [R_ 50, U_, U_] [] μ Q := by
  have s1 := hw.1.2.1
  have s2 := hw.1.2.2.1
  have hp := hw.P
  have hp1 := hp.1
  have hl1 := hw.2.2.1.1
  have hc' : ∀ a, CP (hx μ a) w := fun a => CP_hx hc
  have f10 : ∀ a, hx μ a 50 10 = w (stc w) 0 := fun a => (hc' a).1.1.1
  have f11 : ∀ a, hx μ a 50 11 = w (stc w) 1 := fun a => (hc' a).1.1.2
  have f27 : ∀ a, hx μ a 50 27 = w 17 0 := fun a => (hc' a).2.1.1
  have f22 : ∀ a, hx μ a 50 22 = w 7 0 := fun a => (hc' a).2.2.2.1
  have lp5 : ∀ i : Int, 0 ≤ i → i ≤ 4 * w 7 0 → V_ nX8_mixStreet 159 [R_ 50, I_ i, U_] [] (hx μ (ev5 w i.toNat)) Q := by
    refine loop_up _ (fun i h0 h1 ih => ?_)
    have f22 := f22 (ev5 w i.toNat)
    have ev : i < 4 * w 7 0 → hx μ (ev5 w i.toNat) 63 i.toNat = ldC w (i.toNat / 4) ((i.toNat % 4 : Nat) : Int) := by
      intro hi
      have q := (hc' (ev5 w i.toNat)).2.2.2.2.1 (i / 4) (by omega) (by omega)
      have e0 : (i / 4).toNat = i.toNat / 4 := by omega
      rw [e0] at q
      unfold ldC
      rcases (show i % 4 = 0 ∨ i % 4 = 1 ∨ i % 4 = 2 ∨ i % 4 = 3 by omega) with e | e | e | e
      · rw [if_pos (by omega), ← q.1, show (4 * (i / 4)).toNat = i.toNat by omega]
      · rw [if_neg (by omega), if_pos (by omega), ← q.2.1, show (4 * (i / 4) + 1).toNat = i.toNat by omega]
      · rw [if_neg (by omega), if_neg (by omega), if_pos (by omega), ← q.2.2.1, show (4 * (i / 4) + 2).toNat = i.toNat by omega]
      · rw [if_neg (by omega), if_neg (by omega), if_neg (by omega), ← q.2.2.2, show (4 * (i / 4) + 3).toNat = i.toNat by omega]
    refine v_iload_n dX8_mixStreet_159 rfl rfl ?_
    refine v_iconst dX8_mixStreet_160 (by decide) ?_
    refine v_aload_n dX8_mixStreet_161 rfl rfl ?_
    refine v_getI dX8_mixStreet_162 fX8_186 rfl rfl rfl ?_
    refine v_imul dX8_mixStreet_165 (fun ha hb => by omega) ?_
    refine v_icmp_ge (tgt := 186) dX8_mixStreet_166 (by decide) (fun hc_166 => ?_) (fun hc_166 => ?_)
    · refine v_return dX8_mixStreet_186 rfl ?_
      have e : ev5 w i.toNat = dg5 w (w 7 0).toNat := by
        unfold ev5 dg5
        rw [show i.toNat / 4 = (w 7 0).toNat by omega, show i.toNat % 4 = 0 by omega, dgR]
      rw [e]
      exact h
    · refine v_aload_n dX8_mixStreet_169 rfl rfl ?_
      refine v_aload_n dX8_mixStreet_170 rfl rfl ?_
      refine v_getR dX8_mixStreet_171 fX8_47 rfl rfl rfl ?_
      refine v_iload_n dX8_mixStreet_174 rfl rfl ?_
      refine v_iald dX8_mixStreet_175 rfl (by omega) (by omega) ?_
      rw [ev (by omega)]
      refine v_i2l dX8_mixStreet_176 ?_
      refine v_callVv [_] dX8_mixStreet_177 lX8_340 kvX8_mix (plX8 _ _) rfl rfl rfl rfl rfl rfl rfl rfl rfl rfl (c_X8_mix ?_)
      refine v_iinc (ls' := [_, _, _]) dX8_mixStreet_180 rfl (fun hi_180 => by omega) rfl rfl ?_
      refine v_goto (tgt := 159) dX8_mixStreet_183 (by decide) ?_
      refine v_kill (ls' := [_, _, _]) 2 rfl ?_
      rw [hx_at, hx_hx, ← ev5_s, show i.toNat + 1 = (i + 1).toNat by omega]
      exact ih (by omega)
  have lp4 : ∀ k : Int, 0 ≤ k → k ≤ w 17 0 → V_ nX8_mixStreet 119 [R_ 50, I_ k, U_] [] (hx μ (dg4 w k.toNat)) Q := by
    refine loop_up _ (fun k h0 h1 ih => ?_)
    have ek : ((k.toNat : Nat) : Int) = k := by omega
    have inner : k < w 17 0 → ∀ j : Int, 0 ≤ j → j ≤ 5 → V_ nX8_mixStreet 129 [R_ 50, I_ k, I_ j] [] (hx μ (dgR j.toNat (fun x => kdC w k.toNat x) (dg4 w k.toNat))) Q := by
      intro hk
      refine loop_up _ (fun j j0 j1 ihj => ?_)
      have ej : ((j.toNat : Nat) : Int) = j := by omega
      refine v_iload_n dX8_mixStreet_129 rfl rfl ?_
      refine v_iconst dX8_mixStreet_130 (by decide) ?_
      refine v_icmp_ge (tgt := 151) dX8_mixStreet_131 (by decide) (fun hc_131 => ?_) (fun hc_131 => ?_)
      · refine v_iinc (ls' := [_, _, _]) dX8_mixStreet_151 rfl (fun hi_151 => by omega) rfl rfl ?_
        refine v_goto (tgt := 119) dX8_mixStreet_154 (by decide) ?_
        refine v_kill (ls' := [_, _, _]) 2 rfl ?_
        have := ih hk
        unfold dg4 at this
        rw [show (k + 1).toNat = k.toNat + 1 by omega, itR] at this
        rw [show j.toNat = 5 by omega]
        exact this
      · refine v_aload_n dX8_mixStreet_134 rfl rfl ?_
        refine v_aload_n dX8_mixStreet_135 rfl rfl ?_
        refine v_iload_n dX8_mixStreet_136 rfl rfl ?_
        refine v_iload_n dX8_mixStreet_137 rfl rfl ?_
        refine v_callVi [_, _] dX8_mixStreet_138 lX8_249 kvX8_keyTells (plX8 _ _) (Or.inl rfl) rfl rfl rfl rfl rfl rfl rfl rfl rfl (c_X8_keyTells hp (hc' _).2.1 (by omega) ?_)
        refine v_i2l dX8_mixStreet_141 ?_
        refine v_callVv [_] dX8_mixStreet_142 lX8_340 kvX8_mix (plX8 _ _) rfl rfl rfl rfl rfl rfl rfl rfl rfl rfl (c_X8_mix ?_)
        refine v_iinc (ls' := [_, _, _]) dX8_mixStreet_145 rfl (fun hi_145 => by omega) rfl rfl ?_
        refine v_goto (tgt := 129) dX8_mixStreet_148 (by decide) ?_
        have := ihj (by omega)
        rw [show (j + 1).toNat = j.toNat + 1 by omega, dgR_s, ej] at this
        rw [hx_at, hx_hx]
        exact this
    have f27 := f27 (dg4 w k.toNat)
    refine v_iload_n dX8_mixStreet_119 rfl rfl ?_
    refine v_aload_n dX8_mixStreet_120 rfl rfl ?_
    refine v_getI dX8_mixStreet_121 fX8_189 rfl rfl rfl ?_
    refine v_icmp_ge (tgt := 157) dX8_mixStreet_124 (by decide) (fun hc_124 => ?_) (fun hc_124 => ?_)
    · refine v_iconst dX8_mixStreet_157 (by decide) ?_
      refine v_istore_n (ls' := [_, _, _]) dX8_mixStreet_158 rfl rfl rfl rfl ?_
      refine v_kill (ls' := [_, _, _]) 2 rfl ?_
      have := lp5 0 (by omega) (by omega)
      rw [ev5_0] at this
      rw [show k.toNat = (w 17 0).toNat by omega]
      exact this
    · refine v_iconst dX8_mixStreet_127 (by decide) ?_
      refine v_istore_n (ls' := [_, _, _]) dX8_mixStreet_128 rfl rfl rfl rfl ?_
      exact inner (by omega) 0 (by omega) (by omega)
  have lp3 : ∀ k : Int, 0 ≤ k → k ≤ w (stc w) 1 → V_ nX8_mixStreet 42 [R_ 50, I_ k, U_] [] (hx μ (dg3 w k.toNat)) Q := by
    refine loop_up _ (fun k h0 h1 ih => ?_)
    have ek : ((k.toNat : Nat) : Int) = k := by omega
    have inner2 : k < w (stc w) 1 → ∀ j : Int, 0 ≤ j → j ≤ w (stc w) 1 → V_ nX8_mixStreet 76 [R_ 50, I_ k, I_ j] [] (hx μ (itR j.toNat (fun b a => if b ≠ k.toNat then dgS a (w 24 (k.toNat * 12 + b)) else a) (dgR 3 (fun x => pdC w k.toNat x) (dg3 w k.toNat)))) Q := by
      intro hk
      refine loop_up _ (fun j j0 j1 ihj => ?_)
      have f11 := f11 (itR j.toNat (fun b a => if b ≠ k.toNat then dgS a (w 24 (k.toNat * 12 + b)) else a) (dgR 3 (fun x => pdC w k.toNat x) (dg3 w k.toNat)))
      have tr : j < w (stc w) 1 → ∀ a, hx μ a 72 (12 * k + j).toNat = w 24 (k.toNat * 12 + j.toNat) := fun hj a => by
        rw [(hc' a).2.1.2.2.2 _ (by omega), show (12 * k + j).toNat = k.toNat * 12 + j.toNat by omega]
      refine v_iload_n dX8_mixStreet_76 rfl rfl ?_
      refine v_aload_n dX8_mixStreet_77 rfl rfl ?_
      refine v_getI dX8_mixStreet_78 fX8_183 rfl rfl rfl ?_
      refine v_icmp_ge (tgt := 111) dX8_mixStreet_81 (by decide) (fun hc_81 => ?_) (fun hc_81 => ?_)
      · refine v_iinc (ls' := [_, _, _]) dX8_mixStreet_111 rfl (fun hi_111 => by omega) rfl rfl ?_
        refine v_goto (tgt := 42) dX8_mixStreet_114 (by decide) ?_
        refine v_kill (ls' := [_, _, _]) 2 rfl ?_
        have := ih hk
        unfold dg3 at this
        rw [show (k + 1).toNat = k.toNat + 1 by omega, itR] at this
        rw [show j.toNat = (w (stc w) 1).toNat by omega]
        exact this
      · refine v_iload_n dX8_mixStreet_84 rfl rfl ?_
        refine v_iload_n dX8_mixStreet_85 rfl rfl ?_
        refine v_icmp_eq (tgt := 105) dX8_mixStreet_86 (by decide) (fun hc_86 => ?_) (fun hc_86 => ?_)
        · refine v_iinc (ls' := [_, _, _]) dX8_mixStreet_105 rfl (fun hi_105 => by omega) rfl rfl ?_
          refine v_goto (tgt := 76) dX8_mixStreet_108 (by decide) ?_
          have := ihj (by omega)
          rw [show (j + 1).toNat = j.toNat + 1 by omega, itR] at this
          first
            | (rw [if_neg (by omega)] at this; exact this)
            | (rw [if_pos (by omega)] at this; rw [hx_at, hx_hx]; exact this)
        · refine v_aload_n dX8_mixStreet_89 rfl rfl ?_
          refine v_aload_n dX8_mixStreet_90 rfl rfl ?_
          refine v_getR dX8_mixStreet_91 fX8_74 rfl rfl rfl ?_
          refine v_bipush dX8_mixStreet_94 (by decide) ?_
          refine v_iload_n dX8_mixStreet_96 rfl rfl ?_
          refine v_imul dX8_mixStreet_97 (fun ha hb => by omega) ?_
          refine v_iload_n dX8_mixStreet_98 rfl rfl ?_
          refine v_iadd dX8_mixStreet_99 (fun ha hb => by omega) ?_
          refine v_iald dX8_mixStreet_100 rfl (by omega) (by omega) ?_
          rw [tr (by omega)]
          refine v_i2l dX8_mixStreet_101 ?_
          refine v_callVv [_] dX8_mixStreet_102 lX8_340 kvX8_mix (plX8 _ _) rfl rfl rfl rfl rfl rfl rfl rfl rfl rfl (c_X8_mix ?_)
          refine v_iinc (ls' := [_, _, _]) dX8_mixStreet_105 rfl (fun hi_105 => by omega) rfl rfl ?_
          refine v_goto (tgt := 76) dX8_mixStreet_108 (by decide) ?_
          have := ihj (by omega)
          rw [show (j + 1).toNat = j.toNat + 1 by omega, itR] at this
          first
            | (rw [if_neg (by omega)] at this; exact this)
            | (rw [if_pos (by omega)] at this; rw [hx_at, hx_hx]; exact this)
    have inner1 : k < w (stc w) 1 → ∀ j : Int, 0 ≤ j → j ≤ 3 → V_ nX8_mixStreet 52 [R_ 50, I_ k, I_ j] [] (hx μ (dgR j.toNat (fun x => pdC w k.toNat x) (dg3 w k.toNat))) Q := by
      intro hk
      refine loop_up _ (fun j j0 j1 ihj => ?_)
      have ej : ((j.toNat : Nat) : Int) = j := by omega
      refine v_iload_n dX8_mixStreet_52 rfl rfl ?_
      refine v_iconst dX8_mixStreet_53 (by decide) ?_
      refine v_icmp_ge (tgt := 74) dX8_mixStreet_54 (by decide) (fun hc_54 => ?_) (fun hc_54 => ?_)
      · refine v_iconst dX8_mixStreet_74 (by decide) ?_
        refine v_istore_n (ls' := [_, _, _]) dX8_mixStreet_75 rfl rfl rfl rfl ?_
        have := inner2 hk 0 (by omega) (by omega)
        rw [show j.toNat = 3 by omega]
        exact this
      · refine v_aload_n dX8_mixStreet_57 rfl rfl ?_
        refine v_aload_n dX8_mixStreet_58 rfl rfl ?_
        refine v_iload_n dX8_mixStreet_59 rfl rfl ?_
        refine v_iload_n dX8_mixStreet_60 rfl rfl ?_
        refine v_callVi [_, _] dX8_mixStreet_61 lX8_246 kvX8_personTells (plX8 _ _) (Or.inl rfl) rfl rfl rfl rfl rfl rfl rfl rfl rfl (c_X8_personTells hp hw.1.2 (hc' _).1 (hc' _).2.1 (by omega) ?_)
        refine v_i2l dX8_mixStreet_64 ?_
        refine v_callVv [_] dX8_mixStreet_65 lX8_340 kvX8_mix (plX8 _ _) rfl rfl rfl rfl rfl rfl rfl rfl rfl rfl (c_X8_mix ?_)
        refine v_iinc (ls' := [_, _, _]) dX8_mixStreet_68 rfl (fun hi_68 => by omega) rfl rfl ?_
        refine v_goto (tgt := 52) dX8_mixStreet_71 (by decide) ?_
        have := ihj (by omega)
        rw [show (j + 1).toNat = j.toNat + 1 by omega, dgR_s, ej] at this
        rw [hx_at, hx_hx]
        exact this
    have f11 := f11 (dg3 w k.toNat)
    refine v_iload_n dX8_mixStreet_42 rfl rfl ?_
    refine v_aload_n dX8_mixStreet_43 rfl rfl ?_
    refine v_getI dX8_mixStreet_44 fX8_183 rfl rfl rfl ?_
    refine v_icmp_ge (tgt := 117) dX8_mixStreet_47 (by decide) (fun hc_47 => ?_) (fun hc_47 => ?_)
    · refine v_iconst dX8_mixStreet_117 (by decide) ?_
      refine v_istore_n (ls' := [_, _, _]) dX8_mixStreet_118 rfl rfl rfl rfl ?_
      refine v_kill (ls' := [_, _, _]) 2 rfl ?_
      have := lp4 0 (by omega) (by omega)
      rw [dg4_0] at this
      rw [show k.toNat = (w (stc w) 1).toNat by omega]
      exact this
    · refine v_iconst dX8_mixStreet_50 (by decide) ?_
      refine v_istore_n (ls' := [_, _, _]) dX8_mixStreet_51 rfl rfl rfl rfl ?_
      exact inner1 (by omega) 0 (by omega) (by omega)
  have lp2 : ∀ k : Int, 0 ≤ k → k ≤ w (stc w) 0 → V_ nX8_mixStreet 2 [R_ 50, I_ k, U_] [] (hx μ (dg2 w k.toNat)) Q := by
    refine loop_up _ (fun k h0 h1 ih => ?_)
    have ek : ((k.toNat : Nat) : Int) = k := by omega
    have inner : k < w (stc w) 0 → ∀ j : Int, 0 ≤ j → j ≤ 4 → V_ nX8_mixStreet 12 [R_ 50, I_ k, I_ j] [] (hx μ (dgR j.toNat (fun x => hdC w k.toNat x) (dg2 w k.toNat))) Q := by
      intro hk
      refine loop_up _ (fun j j0 j1 ihj => ?_)
      have ej : ((j.toNat : Nat) : Int) = j := by omega
      refine v_iload_n dX8_mixStreet_12 rfl rfl ?_
      refine v_iconst dX8_mixStreet_13 (by decide) ?_
      refine v_icmp_ge (tgt := 34) dX8_mixStreet_14 (by decide) (fun hc_14 => ?_) (fun hc_14 => ?_)
      · refine v_iinc (ls' := [_, _, _]) dX8_mixStreet_34 rfl (fun hi_34 => by omega) rfl rfl ?_
        refine v_goto (tgt := 2) dX8_mixStreet_37 (by decide) ?_
        refine v_kill (ls' := [_, _, _]) 2 rfl ?_
        have := ih hk
        unfold dg2 at this
        rw [show (k + 1).toNat = k.toNat + 1 by omega, itR] at this
        rw [show j.toNat = 4 by omega]
        exact this
      · refine v_aload_n dX8_mixStreet_17 rfl rfl ?_
        refine v_aload_n dX8_mixStreet_18 rfl rfl ?_
        refine v_iload_n dX8_mixStreet_19 rfl rfl ?_
        refine v_iload_n dX8_mixStreet_20 rfl rfl ?_
        refine v_callVi [_, _] dX8_mixStreet_21 lX8_240 kvX8_houseTells (plX8 _ _) (Or.inl rfl) rfl rfl rfl rfl rfl rfl rfl rfl rfl (c_X8_houseTells hw.1.2 (hc' _).1 (hc' _).2.1 (hc' _).2.2.1 (by omega) ?_)
        refine v_i2l dX8_mixStreet_24 ?_
        refine v_callVv [_] dX8_mixStreet_25 lX8_340 kvX8_mix (plX8 _ _) rfl rfl rfl rfl rfl rfl rfl rfl rfl rfl (c_X8_mix ?_)
        refine v_iinc (ls' := [_, _, _]) dX8_mixStreet_28 rfl (fun hi_28 => by omega) rfl rfl ?_
        refine v_goto (tgt := 12) dX8_mixStreet_31 (by decide) ?_
        have := ihj (by omega)
        rw [show (j + 1).toNat = j.toNat + 1 by omega, dgR_s, ej] at this
        rw [hx_at, hx_hx]
        exact this
    have f10 := f10 (dg2 w k.toNat)
    refine v_iload_n dX8_mixStreet_2 rfl rfl ?_
    refine v_aload_n dX8_mixStreet_3 rfl rfl ?_
    refine v_getI dX8_mixStreet_4 fX8_180 rfl rfl rfl ?_
    refine v_icmp_ge (tgt := 40) dX8_mixStreet_7 (by decide) (fun hc_7 => ?_) (fun hc_7 => ?_)
    · refine v_iconst dX8_mixStreet_40 (by decide) ?_
      refine v_istore_n (ls' := [_, _, _]) dX8_mixStreet_41 rfl rfl rfl rfl ?_
      refine v_kill (ls' := [_, _, _]) 2 rfl ?_
      have := lp3 0 (by omega) (by omega)
      rw [dg3_0] at this
      rw [show k.toNat = (w (stc w) 0).toNat by omega]
      exact this
    · refine v_iconst dX8_mixStreet_10 (by decide) ?_
      refine v_istore_n (ls' := [_, _, _]) dX8_mixStreet_11 rfl rfl rfl rfl ?_
      exact inner (by omega) 0 (by omega) (by omega)
  refine v_iconst dX8_mixStreet_0 (by decide) ?_
  refine v_istore_n (ls' := [_, _, _]) dX8_mixStreet_1 rfl rfl rfl rfl ?_
  have := lp2 0 (by omega) (by omega)
  have e : hx μ (dg2 w (0 : Int).toNat) = μ := by
    unfold hx
    rw [dg2_0, ← hh]
    exact mset_self _ _ _
  rwa [e] at this
end
