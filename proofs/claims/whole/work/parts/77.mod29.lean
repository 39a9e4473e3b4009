/-! the model over the class: the digest, all of it -/
theorem dgI1_u {w : Mem_} {r : Nat} {h : Int} : dgI_1 w r h = dgR (w 2 r).toNat (fun i => w 3 (r * 40 + i)) (dgS h (w 2 r)) := rfl
theorem dgI4_u {w : Mem_} {r : Nat} {h : Int} : dgI_4 w r h = dgR (w 5 r).toNat (fun i => w 6 (r * 120 + i)) (dgS h (w 5 r)) := rfl
section
variable {μ w : Mem_} {Q : PV → Mem_ → Prop}
set_option maxRecDepth 10000 in
theorem c_X8_digest (hw : CW w) (hc : CP μ w) (hr : CR μ w) (h : Q (L_ (dgC w)) (hx μ (dgC w))) : V_ nX8_digest 0 [R_ 50, U_, U_] [] μ Q := by
  have hc' : ∀ a, CP (hx μ a) w := fun a => CP_hx hc
  have hr' : ∀ a, CR (hx μ a) w := fun a => CR_hx hr
  have lp4 : ∀ r : Int, 0 ≤ r → r ≤ 4 → V_ nX8_digest 91 [R_ 50, I_ r, U_] [] (hx μ (dgS_4 w r.toNat (dgS_1 w 6 (dg5 w (w 7 0).toNat)))) Q := by
    refine loop_up _ (fun r h0 h1 ih => ?_)
    have q := fun (hh : r < 4) (a : Int) => (hr' a).2.1 r.toNat (by omega)
    generalize hA : dgS_4 w r.toNat (dgS_1 w 6 (dg5 w (w 7 0).toNat)) = A at *
    have inner : r < 4 → ∀ j : Int, 0 ≤ j → j ≤ (w 5 r.toNat).toNat → V_ nX8_digest 109 [R_ 50, I_ r, I_ j] [] (hx μ (dgR j.toNat (fun i => w 6 (r.toNat * 120 + i)) (dgS A (w 5 r.toNat)))) Q := by
      intro hk
      refine loop_up _ (fun j j0 j1 ihj => ?_)
      have q := q hk (dgR j.toNat (fun i => w 6 (r.toNat * 120 + i)) (dgS A (w 5 r.toNat)))
      have ht : 0 ≤ w 5 r.toNat → TmC (fun i => w 6 (120 * r.toNat + i)) (w 5 r.toNat).toNat r (hx μ (dgR j.toNat (fun i => w 6 (r.toNat * 120 + i)) (dgS A (w 5 r.toNat)))) := fun hs => ⟨by omega, by omega, by rw [q.1]; omega, fun i hi => ⟨by rw [show (120 * r + (i : Int)).toNat = 120 * r.toNat + i by omega]; exact q.2.2 i (by omega), (hr.2.2 (120 * r.toNat + i)).1⟩⟩
      have ej : ((j.toNat : Nat) : Int) = j := by omega
      refine v_iload_n dX8_digest_109 rfl rfl ?_
      refine v_aload_n dX8_digest_110 rfl rfl ?_
      refine v_getR dX8_digest_111 fX8_22 rfl rfl rfl ?_
      refine v_iload_n dX8_digest_114 rfl rfl ?_
      refine v_iald dX8_digest_115 rfl (by omega) (by omega) ?_
      rw [q.1]
      refine v_icmp_ge (tgt := 136) dX8_digest_116 (by decide) (fun hc_116 => ?_) (fun hc_116 => ?_)
      · refine v_iinc (ls' := [_, _, _]) dX8_digest_136 rfl (fun hi_136 => by omega) rfl rfl ?_
        refine v_goto (tgt := 91) dX8_digest_139 (by decide) ?_
        refine v_kill (ls' := [_, _, _]) 2 rfl ?_
        have := ih hk
        rw [show (r + 1).toNat = r.toNat + 1 by omega, dgS_4, hA, dgI4_u] at this
        rw [show j.toNat = (w 5 r.toNat).toNat by omega]
        exact this
      · refine v_aload_n dX8_digest_119 rfl rfl ?_
        refine v_aload_n dX8_digest_120 rfl rfl ?_
        refine v_iload_n dX8_digest_121 rfl rfl ?_
        refine v_iload_n dX8_digest_122 rfl rfl ?_
        rw [show I_ j = I_ ((j.toNat : Nat) : Int) by rw [ej]]
        refine v_callVi [_, _] dX8_digest_123 lX8_143 kvX8_byteAt (plX8 _ _) (Or.inl rfl) rfl rfl rfl rfl rfl rfl rfl rfl rfl (c_X8_byteAt (ht (by omega)) ?_)
        rw [if_pos (by omega), ej]
        refine v_i2l dX8_digest_126 ?_
        refine v_callVv [_] dX8_digest_127 lX8_340 kvX8_mix (plX8 _ _) rfl rfl rfl rfl rfl rfl rfl rfl rfl rfl (c_X8_mix ?_)
        refine v_iinc (ls' := [_, _, _]) dX8_digest_130 rfl (fun hi_130 => by omega) rfl rfl ?_
        refine v_goto (tgt := 109) dX8_digest_133 (by decide) ?_
        have := ihj (by omega)
        rw [show (j + 1).toNat = j.toNat + 1 by omega, dgR_s] at this
        rw [hx_at, hx_hx, show 120 * r.toNat + j.toNat = r.toNat * 120 + j.toNat by omega]
        exact this
    refine v_iload_n dX8_digest_91 rfl rfl ?_
    refine v_iconst dX8_digest_92 (by decide) ?_
    refine v_icmp_ge (tgt := 142) dX8_digest_93 (by decide) (fun hc_93 => ?_) (fun hc_93 => ?_)
    · refine v_aload_n dX8_digest_142 rfl rfl ?_
      refine v_getL dX8_digest_143 fX8_337 rfl rfl rfl ?_
      refine v_lreturn dX8_digest_146 rfl ?_
      rw [show r.toNat = 4 by omega] at hA
      rw [hx_at, ← hA]
      exact h
    · refine v_aload_n dX8_digest_96 rfl rfl ?_
      refine v_aload_n dX8_digest_97 rfl rfl ?_
      refine v_getR dX8_digest_98 fX8_22 rfl rfl rfl ?_
      refine v_iload_n dX8_digest_101 rfl rfl ?_
      refine v_iald dX8_digest_102 rfl (by omega) (by omega) ?_
      rw [(q (by omega) _).1]
      refine v_i2l dX8_digest_103 ?_
      refine v_callVv [_] dX8_digest_104 lX8_340 kvX8_mix (plX8 _ _) rfl rfl rfl rfl rfl rfl rfl rfl rfl rfl (c_X8_mix ?_)
      refine v_iconst dX8_digest_107 (by decide) ?_
      refine v_istore_n (ls' := [_, _, _]) dX8_digest_108 rfl rfl rfl rfl ?_
      rw [hx_at, hx_hx]
      exact inner (by omega) 0 (by omega) (by omega)
  have lp3 : ∀ r : Int, 0 ≤ r → r ≤ 6 → V_ nX8_digest 37 [R_ 50, I_ r, U_] [] (hx μ (dgS_1 w r.toNat (dg5 w (w 7 0).toNat))) Q := by
    refine loop_up _ (fun r h0 h1 ih => ?_)
    have q := fun (hh : r < 6) (a : Int) => (hr' a).1 r.toNat (by omega)
    generalize hA : dgS_1 w r.toNat (dg5 w (w 7 0).toNat) = A at *
    have inner : r < 6 → ∀ j : Int, 0 ≤ j → j ≤ (w 2 r.toNat).toNat → V_ nX8_digest 56 [R_ 50, I_ r, I_ j] [] (hx μ (dgR j.toNat (fun i => w 3 (r.toNat * 40 + i)) (dgS A (w 2 r.toNat)))) Q := by
      intro hk
      refine loop_up _ (fun j j0 j1 ihj => ?_)
      have q := q hk (dgR j.toNat (fun i => w 3 (r.toNat * 40 + i)) (dgS A (w 2 r.toNat)))
      refine v_iload_n dX8_digest_56 rfl rfl ?_
      refine v_aload_n dX8_digest_57 rfl rfl ?_
      refine v_getR dX8_digest_58 fX8_13 rfl rfl rfl ?_
      refine v_iload_n dX8_digest_61 rfl rfl ?_
      refine v_iald dX8_digest_62 rfl (by omega) (by omega) ?_
      rw [q.1]
      refine v_icmp_ge (tgt := 83) dX8_digest_63 (by decide) (fun hc_63 => ?_) (fun hc_63 => ?_)
      · refine v_iinc (ls' := [_, _, _]) dX8_digest_83 rfl (fun hi_83 => by omega) rfl rfl ?_
        refine v_goto (tgt := 37) dX8_digest_86 (by decide) ?_
        refine v_kill (ls' := [_, _, _]) 2 rfl ?_
        have := ih hk
        rw [show (r + 1).toNat = r.toNat + 1 by omega, dgS_1, hA, dgI1_u] at this
        rw [show j.toNat = (w 2 r.toNat).toNat by omega]
        exact this
      · refine v_aload_n dX8_digest_66 rfl rfl ?_
        refine v_aload_n dX8_digest_67 rfl rfl ?_
        refine v_iload_n dX8_digest_68 rfl rfl ?_
        refine v_iload_n dX8_digest_69 rfl rfl ?_
        refine v_callVi [_, _] dX8_digest_70 lX8_130 kvX8_rowAt (plX8 _ _) (Or.inl rfl) rfl rfl rfl rfl rfl rfl rfl rfl rfl (c_X8_rowAt (by omega) (by omega) ?_)
        rw [show (40 * r + j).toNat = 40 * r.toNat + j.toNat by omega, q.2.2 j.toNat (by omega)]
        refine v_i2l dX8_digest_73 ?_
        refine v_callVv [_] dX8_digest_74 lX8_340 kvX8_mix (plX8 _ _) rfl rfl rfl rfl rfl rfl rfl rfl rfl rfl (c_X8_mix ?_)
        refine v_iinc (ls' := [_, _, _]) dX8_digest_77 rfl (fun hi_77 => by omega) rfl rfl ?_
        refine v_goto (tgt := 56) dX8_digest_80 (by decide) ?_
        have := ihj (by omega)
        rw [show (j + 1).toNat = j.toNat + 1 by omega, dgR_s] at this
        rw [hx_at, hx_hx, show 40 * r.toNat + j.toNat = r.toNat * 40 + j.toNat by omega]
        exact this
    refine v_iload_n dX8_digest_37 rfl rfl ?_
    refine v_bipush dX8_digest_38 (by decide) ?_
    refine v_icmp_ge (tgt := 89) dX8_digest_40 (by decide) (fun hc_40 => ?_) (fun hc_40 => ?_)
    · refine v_iconst dX8_digest_89 (by decide) ?_
      refine v_istore_n (ls' := [_, _, _]) dX8_digest_90 rfl rfl rfl rfl ?_
      refine v_kill (ls' := [_, _, _]) 2 rfl ?_
      rw [show r.toNat = 6 by omega] at hA
      rw [← hA]
      have := lp4 0 (by omega) (by omega)
      rw [show (0 : Int).toNat = 0 from rfl, dgS_4] at this
      exact this
    · refine v_aload_n dX8_digest_43 rfl rfl ?_
      refine v_aload_n dX8_digest_44 rfl rfl ?_
      refine v_getR dX8_digest_45 fX8_13 rfl rfl rfl ?_
      refine v_iload_n dX8_digest_48 rfl rfl ?_
      refine v_iald dX8_digest_49 rfl (by omega) (by omega) ?_
      rw [(q (by omega) _).1]
      refine v_i2l dX8_digest_50 ?_
      refine v_callVv [_] dX8_digest_51 lX8_340 kvX8_mix (plX8 _ _) rfl rfl rfl rfl rfl rfl rfl rfl rfl rfl (c_X8_mix ?_)
      refine v_iconst dX8_digest_54 (by decide) ?_
      refine v_istore_n (ls' := [_, _, _]) dX8_digest_55 rfl rfl rfl rfl ?_
      rw [hx_at, hx_hx]
      exact inner (by omega) 0 (by omega) (by omega)
  have lp1 : ∀ k : Int, 0 ≤ k → k ≤ 8 → V_ nX8_digest 9 [R_ 50, I_ k, U_] [] (hx μ (dgR k.toNat (fun x => ctC w x) 17)) Q := by
    refine loop_up _ (fun k h0 h1 ih => ?_)
    have ek : ((k.toNat : Nat) : Int) = k := by omega
    refine v_iload_n dX8_digest_9 rfl rfl ?_
    refine v_bipush dX8_digest_10 (by decide) ?_
    refine v_icmp_ge (tgt := 31) dX8_digest_12 (by decide) (fun hc_12 => ?_) (fun hc_12 => ?_)
    · refine v_aload_n dX8_digest_31 rfl rfl ?_
      refine v_callVv [] dX8_digest_32 lX8_346 kvX8_mixStreet (plX8 _ _) rfl rfl rfl rfl rfl rfl rfl rfl rfl rfl (c_X8_mixStreet hw (hc' _) (by rw [hx_at, show k.toNat = 8 by omega]; rfl) ?_)
      refine v_iconst dX8_digest_35 (by decide) ?_
      refine v_istore_n (ls' := [_, _, _]) dX8_digest_36 rfl rfl rfl rfl ?_
      refine v_kill (ls' := [_, _, _]) 2 rfl ?_
      rw [hx_hx]
      have := lp3 0 (by omega) (by omega)
      rw [show (0 : Int).toNat = 0 from rfl, dgS_1] at this
      exact this
    · refine v_aload_n dX8_digest_15 rfl rfl ?_
      refine v_aload_n dX8_digest_16 rfl rfl ?_
      refine v_iload_n dX8_digest_17 rfl rfl ?_
      refine v_callVi [_] dX8_digest_18 lX8_332 kvX8_counted (plX8 _ _) (Or.inl rfl) rfl rfl rfl rfl rfl rfl rfl rfl rfl (c_X8_counted hw (hc' _) (hr' _) (by omega) ?_)
      refine v_i2l dX8_digest_21 ?_
      refine v_callVv [_] dX8_digest_22 lX8_340 kvX8_mix (plX8 _ _) rfl rfl rfl rfl rfl rfl rfl rfl rfl rfl (c_X8_mix ?_)
      refine v_iinc (ls' := [_, _, _]) dX8_digest_25 rfl (fun hi_25 => by omega) rfl rfl ?_
      refine v_goto (tgt := 9) dX8_digest_28 (by decide) ?_
      refine v_kill (ls' := [_, _, _]) 2 rfl ?_
      have := ih (by omega)
      rw [show (k + 1).toNat = k.toNat + 1 by omega, dgR_s, ek] at this
      rw [hx_at, hx_hx]
      exact this
  refine v_aload_n dX8_digest_0 rfl rfl ?_
  refine v_ldc2 (x := 17) dX8_digest_1 lcX8_344 (by decide) (by decide) ?_
  refine v_putL dX8_digest_4 fpX8_337 rfl rfl rfl ?_
  refine v_iconst dX8_digest_7 (by decide) ?_
  refine v_istore_n (ls' := [_, _, _]) dX8_digest_8 rfl rfl rfl rfl ?_
  exact lp1 0 (by omega) (by omega)
end
