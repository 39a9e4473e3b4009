/-! digest -/
def itR : Nat → (Nat → Int → Int) → Int → Int
  | 0, _, h => h
  | n + 1, F, h => F n (itR n F h)
theorem itR_congr {n : Nat} {F G : Nat → Int → Int} {h : Int} (e : ∀ k, k < n → ∀ a, F k a = G k a) : itR n F h = itR n G h := by
  induction n with
  | zero => rfl
  | succ n ih => rw [itR, itR, ih (fun k hk a => e k (by omega) a), e n (by omega)]
def dgS (a v : Int) : Int := w64 (w64 (31 * a) + v)
theorem dgR_s {n : Nat} {f : Nat → Int} {h : Int} : dgR (n + 1) f h = w64 (w64 (31 * dgR n f h) + f n) := rfl
def dgP (μ : Mem_) (p : Nat) (a : Int) : Int := itR (μ (stc μ) 1).toNat (fun b a => if b ≠ p then dgS a (μ 24 (p * 12 + b)) else a) (dgR 3 (fun w => pdC μ p w) a)
section
variable {μ : Mem_} {Q : PV → Mem_ → Prop}
set_option maxRecDepth 10000 in
theorem c_X7_digestPerson {p bf : Int} (hst : isSt (stc μ)) (hs : StC μ (stc μ)) (hp : PIc μ) (hpp : 0 ≤ p ∧ p < μ (stc μ) 1) (hq : Q (L_ (dgP μ p.toNat bf)) μ) : V_ nX7_digestPerson 0 [R_ 0, L_ bf, U_, I_ p, U_, U_, U_] [] μ Q := by
  have hs2 := hs.2.1
  have ep : ((p.toNat : Nat) : Int) = p := by omega
  have lp2 : ∀ k : Int, 0 ≤ k → k ≤ μ (stc μ) 1 → V_ nX7_digestPerson 38 [R_ 0, L_ bf, U_, I_ p, L_ (itR k.toNat (fun b a => if b ≠ p.toNat then dgS a (μ 24 (p.toNat * 12 + b)) else a) (dgR 3 (fun w => pdC μ p.toNat w) bf)), U_, I_ k] [] μ Q := by
    refine loop_up _ (fun k h0 h1 ih => ?_)
    have ek1 : (k + 1).toNat = k.toNat + 1 := by omega
    have e : k < μ (stc μ) 1 → trC μ p k = μ 24 (p.toNat * 12 + k.toNat) := fun q => by
      rw [trC, if_pos (by omega), show (p * 12 + k).toNat = p.toNat * 12 + k.toNat by omega]
    refine v_iload dX7_digestPerson_38 rfl ?_
    refine v_aload_n dX7_digestPerson_40 rfl rfl ?_
    refine v_getX dX7_digestPerson_41 fX7_66 rfl rfl rfl ?_
    show V_ _ _ _ (R_ (stc _) :: _) _ _
    refine v_getI dX7_digestPerson_44 fX7_226 (shp_st hst) (fk_st1 hst) rfl ?_
    refine v_icmp_ge (tgt := 82) dX7_digestPerson_47 (by decide) (fun hc_47 => ?_) (fun hc_47 => ?_)
    · refine v_lload dX7_digestPerson_82 rfl ?_
      refine v_lreturn dX7_digestPerson_84 rfl ?_
      rw [show k = μ (stc μ) 1 by omega]
      exact hq
    · refine v_iload dX7_digestPerson_50 rfl ?_
      refine v_iload_n dX7_digestPerson_52 rfl rfl ?_
      refine v_icmp_eq (tgt := 76) dX7_digestPerson_53 (by decide) (fun hc_53 => ?_) (fun hc_53 => ?_)
      · refine v_iinc (ls' := [_, _, _, _, _, _, _]) dX7_digestPerson_76 rfl (fun hi_76 => by omega) rfl rfl ?_
        refine v_goto (tgt := 38) dX7_digestPerson_79 (by decide) ?_
        have := ih (by omega)
        rw [ek1, itR, if_neg (by omega)] at this
        exact this
      · refine v_ldc2 (x := 31) dX7_digestPerson_56 lcX7_316 (by decide) (by decide) ?_
        refine v_lload dX7_digestPerson_59 rfl ?_
        refine v_lmul dX7_digestPerson_61 ?_
        refine v_aload_n dX7_digestPerson_62 rfl rfl ?_
        refine v_getR dX7_digestPerson_63 fX7_34 rfl rfl rfl ?_
        refine v_iload_n dX7_digestPerson_66 rfl rfl ?_
        refine v_iload dX7_digestPerson_67 rfl ?_
        refine v_callVi [_, _] dX7_digestPerson_69 lX7_213 kvX2_trustOf (plX2 _ _) (Or.inl rfl) rfl rfl rfl rfl rfl rfl rfl rfl rfl (c_X2_trustOf ?_)
        rw [e (by omega)]
        refine v_i2l dX7_digestPerson_72 ?_
        refine v_ladd dX7_digestPerson_73 ?_
        refine v_lstore (ls' := [_, _, _, _, _, _, _]) dX7_digestPerson_74 rfl rfl rfl ?_
        refine v_iinc (ls' := [_, _, _, _, _, _, _]) dX7_digestPerson_76 rfl (fun hi_76 => by omega) rfl rfl ?_
        refine v_goto (tgt := 38) dX7_digestPerson_79 (by decide) ?_
        have := ih (by omega)
        rw [ek1, itR, if_pos (by omega)] at this
        exact this
  have lp1 : ∀ k : Int, 0 ≤ k → k ≤ 3 → V_ nX7_digestPerson 6 [R_ 0, L_ bf, U_, I_ p, L_ (dgR k.toNat (fun w => pdC μ p.toNat w) bf), U_, I_ k] [] μ Q := by
    refine loop_up _ (fun k h0 h1 ih => ?_)
    have ek1 : (k + 1).toNat = k.toNat + 1 := by omega
    refine v_iload dX7_digestPerson_6 rfl ?_
    refine v_iconst dX7_digestPerson_8 (by decide) ?_
    refine v_icmp_ge (tgt := 35) dX7_digestPerson_9 (by decide) (fun hc_9 => ?_) (fun hc_9 => ?_)
    · refine v_iconst dX7_digestPerson_35 (by decide) ?_
      refine v_istore (ls' := [_, _, _, _, _, _, _]) dX7_digestPerson_36 rfl rfl rfl ?_
      rw [show k.toNat = 3 by omega]
      exact lp2 0 (by omega) (by omega)
    · refine v_ldc2 (x := 31) dX7_digestPerson_12 lcX7_316 (by decide) (by decide) ?_
      refine v_lload dX7_digestPerson_15 rfl ?_
      refine v_lmul dX7_digestPerson_17 ?_
      refine v_aload_n dX7_digestPerson_18 rfl rfl ?_
      refine v_iload_n dX7_digestPerson_19 rfl rfl ?_
      refine v_iload dX7_digestPerson_20 rfl ?_
      refine v_callVi [_, _] dX7_digestPerson_22 lX7_204 kvX7_personDetail (plX7 _ _) (Or.inl rfl) rfl rfl rfl rfl rfl rfl rfl rfl rfl (c_X7_personDetail hst hs hp (by omega) ?_)
      refine v_i2l dX7_digestPerson_25 ?_
      refine v_ladd dX7_digestPerson_26 ?_
      refine v_lstore (ls' := [_, _, _, _, _, _, _]) dX7_digestPerson_27 rfl rfl rfl ?_
      refine v_iinc (ls' := [_, _, _, _, _, _, _]) dX7_digestPerson_29 rfl (fun hi_29 => by omega) rfl rfl ?_
      refine v_goto (tgt := 6) dX7_digestPerson_32 (by decide) ?_
      have := ih (by omega)
      rw [ek1, dgR, show ((k.toNat : Nat) : Int) = k by omega] at this
      exact this
  refine v_lload_n dX7_digestPerson_0 rfl rfl ?_
  refine v_lstore (ls' := [_, _, _, _, _, _, _]) dX7_digestPerson_1 rfl rfl rfl ?_
  refine v_iconst dX7_digestPerson_3 (by decide) ?_
  refine v_istore (ls' := [_, _, _, _, _, _, _]) dX7_digestPerson_4 rfl rfl rfl ?_
  exact lp1 0 (by omega) (by omega)
def dg1 (μ : Mem_) : Int := dgR 8 (fun w => ctC μ w) 17
def dg2 (μ : Mem_) (n : Nat) : Int := itR n (fun h a => dgR 4 (fun w => hdC μ h w) a) (dg1 μ)
def dg3 (μ : Mem_) (n : Nat) : Int := itR n (fun p a => dgP μ p a) (dg2 μ (μ (stc μ) 0).toNat)
def dg4 (μ : Mem_) (n : Nat) : Int := itR n (fun k a => dgR 5 (fun w => kdC μ k w) a) (dg3 μ (μ (stc μ) 1).toNat)
def dg5 (μ : Mem_) (n : Nat) : Int := itR n (fun e a => dgR 4 (fun w => ldC μ e w) a) (dg4 μ (μ 17 0).toNat)
def dgC (μ : Mem_) : Int := dgS_4 μ 4 (dgS_1 μ 6 (dg5 μ (μ 7 0).toNat))
set_option maxRecDepth 10000 in
theorem c_X7_digest (hst : isSt (stc μ)) (hs : StC μ (stc μ)) (hp : PIc μ) (hl : 0 ≤ μ 7 0 ∧ μ 7 0 ≤ 40) (hk1 : ok_1 μ) (hk4 : ok_4 μ) (hq : Q (L_ (dgC μ)) μ) : V_ nX7_digest 0 [R_ 0, U_, U_, U_, U_] [] μ Q := by
  have hs1 := hs.1
  have hs2 := hs.2.1
  have hp1 := hp.1
  have lp5 : ∀ k : Int, 0 ≤ k → k ≤ μ 7 0 → V_ nX7_digest 160 [R_ 0, L_ (dg5 μ k.toNat), U_, I_ k, U_] [] μ Q := by
    refine loop_up _ (fun k h0 h1 ih => ?_)
    have ek1 : (k + 1).toNat = k.toNat + 1 := by omega
    have inn : k < μ 7 0 → ∀ w : Int, 0 ≤ w → w ≤ 4 → V_ nX7_digest 174 [R_ 0, L_ (dgR w.toNat (fun w => ldC μ k.toNat w) (dg5 μ k.toNat)), U_, I_ k, I_ w] [] μ Q := by
      intro hk
      refine loop_up _ (fun w w0 w1 ihw => ?_)
      refine v_iload dX7_digest_174 rfl ?_
      refine v_iconst dX7_digest_176 (by decide) ?_
      refine v_icmp_ge (tgt := 204) dX7_digest_177 (by decide) (fun hc_177 => ?_) (fun hc_177 => ?_)
      · refine v_kill (ls' := [_, _, _, _, _]) 4 rfl ?_
        rw [show w.toNat = 4 by omega]
        refine v_iinc (ls' := [_, _, _, _, _]) dX7_digest_204 rfl (fun hi_204 => by omega) rfl rfl ?_
        refine v_goto (tgt := 160) dX7_digest_207 (by decide) ?_
        have := ih hk
        unfold dg5 at this
        rw [ek1, itR] at this
        exact this
      · refine v_ldc2 (x := 31) dX7_digest_180 lcX7_316 (by decide) (by decide) ?_
        refine v_lload_n dX7_digest_183 rfl rfl ?_
        refine v_lmul dX7_digest_184 ?_
        refine v_aload_n dX7_digest_185 rfl rfl ?_
        refine v_getR dX7_digest_186 fX7_24 rfl rfl rfl ?_
        refine v_iload_n dX7_digest_189 rfl rfl ?_
        refine v_iload dX7_digest_190 rfl ?_
        refine v_callVi [_, _] dX7_digest_192 lX7_176 kvX0_detail (plX0 _ _) (Or.inl rfl) rfl rfl rfl rfl rfl rfl rfl rfl rfl (c_X0_detail (by omega) (by omega) ?_)
        refine v_i2l dX7_digest_195 ?_
        refine v_ladd dX7_digest_196 ?_
        refine v_lstore_n (ls' := [_, _, _, _, _]) dX7_digest_197 rfl rfl rfl rfl ?_
        refine v_iinc (ls' := [_, _, _, _, _]) dX7_digest_198 rfl (fun hi_198 => by omega) rfl rfl ?_
        refine v_goto (tgt := 174) dX7_digest_201 (by decide) ?_
        have := ihw (by omega)
        rw [show (w + 1).toNat = w.toNat + 1 by omega, dgR, show ((w.toNat : Nat) : Int) = w by omega] at this
        exact this
    refine v_iload_n dX7_digest_160 rfl rfl ?_
    refine v_aload_n dX7_digest_161 rfl rfl ?_
    refine v_getR dX7_digest_162 fX7_24 rfl rfl rfl ?_
    refine v_getI dX7_digest_165 fX7_159 rfl rfl rfl ?_
    refine v_icmp_ge (tgt := 210) dX7_digest_168 (by decide) (fun hc_168 => ?_) (fun hc_168 => ?_)
    · refine v_aload_n dX7_digest_210 rfl rfl ?_
      refine v_getR dX7_digest_211 fX7_18 rfl rfl rfl ?_
      refine v_aload_n dX7_digest_214 rfl rfl ?_
      refine v_getR dX7_digest_215 fX7_14 rfl rfl rfl ?_
      refine v_lload_n dX7_digest_218 rfl rfl ?_
      refine v_callVl [_] dX7_digest_219 lX7_325 kvX4_digestOn (plX4 _ _) rfl rfl rfl rfl rfl rfl rfl rfl rfl rfl (c_X4_digestOn_1 hk1 ?_)
      refine v_callVl [_] dX7_digest_222 lX7_325 kvX4_digestOn (plX4 _ _) rfl rfl rfl rfl rfl rfl rfl rfl rfl rfl (c_X4_digestOn_4 hk4 ?_)
      refine v_lreturn dX7_digest_225 rfl ?_
      rw [show k = μ 7 0 by omega]
      exact hq
    · refine v_iconst dX7_digest_171 (by decide) ?_
      refine v_istore (ls' := [_, _, _, _, _]) dX7_digest_172 rfl rfl rfl ?_
      exact inn (by omega) 0 (by omega) (by omega)
  have lp4 : ∀ k : Int, 0 ≤ k → k ≤ μ 17 0 → V_ nX7_digest 108 [R_ 0, L_ (dg4 μ k.toNat), U_, I_ k, U_] [] μ Q := by
    refine loop_up _ (fun k h0 h1 ih => ?_)
    have ek1 : (k + 1).toNat = k.toNat + 1 := by omega
    have inn : k < μ 17 0 → ∀ w : Int, 0 ≤ w → w ≤ 5 → V_ nX7_digest 122 [R_ 0, L_ (dgR w.toNat (fun w => kdC μ k.toNat w) (dg4 μ k.toNat)), U_, I_ k, I_ w] [] μ Q := by
      intro hk
      refine loop_up _ (fun w w0 w1 ihw => ?_)
      refine v_iload dX7_digest_122 rfl ?_
      refine v_iconst dX7_digest_124 (by decide) ?_
      refine v_icmp_ge (tgt := 152) dX7_digest_125 (by decide) (fun hc_125 => ?_) (fun hc_125 => ?_)
      · refine v_kill (ls' := [_, _, _, _, _]) 4 rfl ?_
        rw [show w.toNat = 5 by omega]
        refine v_iinc (ls' := [_, _, _, _, _]) dX7_digest_152 rfl (fun hi_152 => by omega) rfl rfl ?_
        refine v_goto (tgt := 108) dX7_digest_155 (by decide) ?_
        have := ih hk
        unfold dg4 at this
        rw [ek1, itR] at this
        exact this
      · refine v_ldc2 (x := 31) dX7_digest_128 lcX7_316 (by decide) (by decide) ?_
        refine v_lload_n dX7_digest_131 rfl rfl ?_
        refine v_lmul dX7_digest_132 ?_
        refine v_aload_n dX7_digest_133 rfl rfl ?_
        refine v_getR dX7_digest_134 fX7_34 rfl rfl rfl ?_
        refine v_iload_n dX7_digest_137 rfl rfl ?_
        refine v_iload dX7_digest_138 rfl ?_
        refine v_callVi [_, _] dX7_digest_140 lX7_210 kvX2_keyDetail (plX2 _ _) (Or.inl rfl) rfl rfl rfl rfl rfl rfl rfl rfl rfl (c_X2_keyDetail hp (by omega) ?_)
        refine v_i2l dX7_digest_143 ?_
        refine v_ladd dX7_digest_144 ?_
        refine v_lstore_n (ls' := [_, _, _, _, _]) dX7_digest_145 rfl rfl rfl rfl ?_
        refine v_iinc (ls' := [_, _, _, _, _]) dX7_digest_146 rfl (fun hi_146 => by omega) rfl rfl ?_
        refine v_goto (tgt := 122) dX7_digest_149 (by decide) ?_
        have := ihw (by omega)
        rw [show (w + 1).toNat = w.toNat + 1 by omega, dgR, show ((w.toNat : Nat) : Int) = w by omega] at this
        exact this
    refine v_iload_n dX7_digest_108 rfl rfl ?_
    refine v_aload_n dX7_digest_109 rfl rfl ?_
    refine v_getR dX7_digest_110 fX7_34 rfl rfl rfl ?_
    refine v_getI dX7_digest_113 fX7_168 rfl rfl rfl ?_
    refine v_icmp_ge (tgt := 158) dX7_digest_116 (by decide) (fun hc_116 => ?_) (fun hc_116 => ?_)
    · refine v_iconst dX7_digest_158 (by decide) ?_
      refine v_istore_n (ls' := [_, _, _, _, _]) dX7_digest_159 rfl rfl rfl rfl ?_
      rw [show k = μ 17 0 by omega]
      exact lp5 0 (by omega) (by omega)
    · refine v_iconst dX7_digest_119 (by decide) ?_
      refine v_istore (ls' := [_, _, _, _, _]) dX7_digest_120 rfl rfl rfl ?_
      exact inn (by omega) 0 (by omega) (by omega)
  have lp3 : ∀ k : Int, 0 ≤ k → k ≤ μ (stc μ) 1 → V_ nX7_digest 82 [R_ 0, L_ (dg3 μ k.toNat), U_, I_ k, U_] [] μ Q := by
    refine loop_up _ (fun k h0 h1 ih => ?_)
    have ek1 : (k + 1).toNat = k.toNat + 1 := by omega
    refine v_iload_n dX7_digest_82 rfl rfl ?_
    refine v_aload_n dX7_digest_83 rfl rfl ?_
    refine v_getX dX7_digest_84 fX7_66 rfl rfl rfl ?_
    show V_ _ _ _ (R_ (stc _) :: _) _ _
    refine v_getI dX7_digest_87 fX7_226 (shp_st hst) (fk_st1 hst) rfl ?_
    refine v_icmp_ge (tgt := 106) dX7_digest_90 (by decide) (fun hc_90 => ?_) (fun hc_90 => ?_)
    · refine v_iconst dX7_digest_106 (by decide) ?_
      refine v_istore_n (ls' := [_, _, _, _, _]) dX7_digest_107 rfl rfl rfl rfl ?_
      rw [show k = μ (stc μ) 1 by omega]
      exact lp4 0 (by omega) (by omega)
    · refine v_aload_n dX7_digest_93 rfl rfl ?_
      refine v_lload_n dX7_digest_94 rfl rfl ?_
      refine v_iload_n dX7_digest_95 rfl rfl ?_
      refine v_callVl [_, _] dX7_digest_96 lX7_321 kvX7_digestPerson (plX7 _ _) rfl rfl rfl rfl rfl rfl rfl rfl rfl rfl (c_X7_digestPerson hst hs hp (by omega) ?_)
      refine v_lstore_n (ls' := [_, _, _, _, _]) dX7_digest_99 rfl rfl rfl rfl ?_
      refine v_iinc (ls' := [_, _, _, _, _]) dX7_digest_100 rfl (fun hi_100 => by omega) rfl rfl ?_
      refine v_goto (tgt := 82) dX7_digest_103 (by decide) ?_
      have := ih (by omega)
      unfold dg3 at this
      rw [ek1, itR] at this
      exact this
  have lp2 : ∀ k : Int, 0 ≤ k → k ≤ μ (stc μ) 0 → V_ nX7_digest 33 [R_ 0, L_ (dg2 μ k.toNat), U_, I_ k, U_] [] μ Q := by
    refine loop_up _ (fun k h0 h1 ih => ?_)
    have ek1 : (k + 1).toNat = k.toNat + 1 := by omega
    have inn : k < μ (stc μ) 0 → ∀ w : Int, 0 ≤ w → w ≤ 4 → V_ nX7_digest 47 [R_ 0, L_ (dgR w.toNat (fun w => hdC μ k.toNat w) (dg2 μ k.toNat)), U_, I_ k, I_ w] [] μ Q := by
      intro hk
      refine loop_up _ (fun w w0 w1 ihw => ?_)
      refine v_iload dX7_digest_47 rfl ?_
      refine v_iconst dX7_digest_49 (by decide) ?_
      refine v_icmp_ge (tgt := 74) dX7_digest_50 (by decide) (fun hc_50 => ?_) (fun hc_50 => ?_)
      · refine v_kill (ls' := [_, _, _, _, _]) 4 rfl ?_
        rw [show w.toNat = 4 by omega]
        refine v_iinc (ls' := [_, _, _, _, _]) dX7_digest_74 rfl (fun hi_74 => by omega) rfl rfl ?_
        refine v_goto (tgt := 33) dX7_digest_77 (by decide) ?_
        have := ih hk
        unfold dg2 at this
        rw [ek1, itR] at this
        exact this
      · refine v_ldc2 (x := 31) dX7_digest_53 lcX7_316 (by decide) (by decide) ?_
        refine v_lload_n dX7_digest_56 rfl rfl ?_
        refine v_lmul dX7_digest_57 ?_
        refine v_aload_n dX7_digest_58 rfl rfl ?_
        refine v_iload_n dX7_digest_59 rfl rfl ?_
        refine v_iload dX7_digest_60 rfl ?_
        refine v_callVi [_, _] dX7_digest_62 lX7_198 kvX7_houseDetail (plX7 _ _) (Or.inl rfl) rfl rfl rfl rfl rfl rfl rfl rfl rfl (c_X7_houseDetail hst hs hp (by omega) ?_)
        refine v_i2l dX7_digest_65 ?_
        refine v_ladd dX7_digest_66 ?_
        refine v_lstore_n (ls' := [_, _, _, _, _]) dX7_digest_67 rfl rfl rfl rfl ?_
        refine v_iinc (ls' := [_, _, _, _, _]) dX7_digest_68 rfl (fun hi_68 => by omega) rfl rfl ?_
        refine v_goto (tgt := 47) dX7_digest_71 (by decide) ?_
        have := ihw (by omega)
        rw [show (w + 1).toNat = w.toNat + 1 by omega, dgR, show ((w.toNat : Nat) : Int) = w by omega] at this
        exact this
    refine v_iload_n dX7_digest_33 rfl rfl ?_
    refine v_aload_n dX7_digest_34 rfl rfl ?_
    refine v_getX dX7_digest_35 fX7_66 rfl rfl rfl ?_
    show V_ _ _ _ (R_ (stc _) :: _) _ _
    refine v_getI dX7_digest_38 fX7_153 (shp_st hst) (fk_st0 hst) rfl ?_
    refine v_icmp_ge (tgt := 80) dX7_digest_41 (by decide) (fun hc_41 => ?_) (fun hc_41 => ?_)
    · refine v_iconst dX7_digest_80 (by decide) ?_
      refine v_istore_n (ls' := [_, _, _, _, _]) dX7_digest_81 rfl rfl rfl rfl ?_
      rw [show k = μ (stc μ) 0 by omega]
      exact lp3 0 (by omega) (by omega)
    · refine v_iconst dX7_digest_44 (by decide) ?_
      refine v_istore (ls' := [_, _, _, _, _]) dX7_digest_45 rfl rfl rfl ?_
      exact inn (by omega) 0 (by omega) (by omega)
  have lp1 : ∀ k : Int, 0 ≤ k → k ≤ 8 → V_ nX7_digest 6 [R_ 0, L_ (dgR k.toNat (fun w => ctC μ w) 17), U_, I_ k, U_] [] μ Q := by
    refine loop_up _ (fun k h0 h1 ih => ?_)
    refine v_iload_n dX7_digest_6 rfl rfl ?_
    refine v_bipush dX7_digest_7 (by decide) ?_
    refine v_icmp_ge (tgt := 31) dX7_digest_9 (by decide) (fun hc_9 => ?_) (fun hc_9 => ?_)
    · refine v_iconst dX7_digest_31 (by decide) ?_
      refine v_istore_n (ls' := [_, _, _, _, _]) dX7_digest_32 rfl rfl rfl rfl ?_
      rw [show k.toNat = 8 by omega]
      have := lp2 0 (by omega) (by omega)
      unfold dg2 at this
      rw [show (0 : Int).toNat = 0 from rfl, itR] at this
      unfold dg1 at this
      exact this
    · refine v_ldc2 (x := 31) dX7_digest_12 lcX7_316 (by decide) (by decide) ?_
      refine v_lload_n dX7_digest_15 rfl rfl ?_
      refine v_lmul dX7_digest_16 ?_
      refine v_aload_n dX7_digest_17 rfl rfl ?_
      refine v_iload_n dX7_digest_18 rfl rfl ?_
      refine v_callVi [_] dX7_digest_19 lX7_318 kvX7_count (plX7 _ _) (Or.inl rfl) rfl rfl rfl rfl rfl rfl rfl rfl rfl (c_X7_count hst hp (by omega) (fun q => absurd (by omega) q) (fun _ => ?_))
      refine v_i2l dX7_digest_22 ?_
      refine v_ladd dX7_digest_23 ?_
      refine v_lstore_n (ls' := [_, _, _, _, _]) dX7_digest_24 rfl rfl rfl rfl ?_
      refine v_iinc (ls' := [_, _, _, _, _]) dX7_digest_25 rfl (fun hi_25 => by omega) rfl rfl ?_
      refine v_goto (tgt := 6) dX7_digest_28 (by decide) ?_
      have := ih (by omega)
      rw [show (k + 1).toNat = k.toNat + 1 by omega, dgR, show ((k.toNat : Nat) : Int) = k by omega] at this
      exact this
  refine v_ldc2 (x := 17) dX7_digest_0 lcX7_314 (by decide) (by decide) ?_
  refine v_lstore_n (ls' := [_, _, _, _, _]) dX7_digest_3 rfl rfl rfl rfl ?_
  refine v_iconst dX7_digest_4 (by decide) ?_
  refine v_istore_n (ls' := [_, _, _, _, _]) dX7_digest_5 rfl rfl rfl rfl ?_
  exact lp1 0 (by omega) (by omega)
end
