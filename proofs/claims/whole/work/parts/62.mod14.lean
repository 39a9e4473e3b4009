/-! the model: an event happens -/
theorem MK_trust2 {μ w : Mem_} {a : Nat} {v v' : Int} (h : MK μ w) (e : v = v') : MK (mset μ 72 a v) (mset w 24 a v') := by
  rw [e]
  exact MK_trust h
theorem frK_rf {μ : Mem_} : frK μ μ := fun _ _ _ _ => rfl
theorem frK_tr {a b c : Mem_} (h1 : frK a b) (h2 : frK b c) : frK a c := fun o k q q2 => by rw [h2 o k q q2]; exact h1 o k q q2
theorem frK_gs {μ : Mem_} {k : Nat} {wh ho : Int} : frK μ (gsC μ k wh ho) := fun o i q q2 => gsC_off (by omega)
theorem frK_ck {μ : Mem_} {e : Nat} {hs lo p : Int} : frK μ (ckC μ e hs lo p) := fun o i q q2 => by
  unfold ckC
  rw [gsC_off (by omega), mset_off (by omega), mset_off (by omega), mset_off (by omega), mset_off (by omega), mset_off (by omega)]
theorem ckC_70 {μ : Mem_} {e : Nat} {hs lo p : Int} : ckC μ e hs lo p 70 e = μ 50 27 := by
  unfold ckC
  rw [gsC_off (by omega), mset_off (by omega), mset_same]
theorem ckC_70o {μ : Mem_} {e j : Nat} {hs lo p : Int} (h : j ≠ e) : ckC μ e hs lo p 70 j = μ 70 j := by
  unfold ckC
  rw [gsC_off (by omega), mset_off (by omega), mset_off (by omega), mset_off (by omega), mset_off (by omega), mset_off (by omega)]
section
variable {μ : Mem_} {Q : PV → Mem_ → Prop}
set_option maxRecDepth 10000 in
theorem c_X8_happens {w : Mem_} {nH nP e' kind a b ch : Int} {e : Int} (he : 0 ≤ e ∧ e < 40) (hH : nH ≤ 6) (hP : nP ≤ 12) (he' : e' ≤ 1000) (hI : RIc nH nP e' w) (hv : evOK nH nP (w 17 0) kind a b ch) (hm : MK μ w) (h0 : μ 63 (4 * e).toNat = kind) (h1 : μ 63 (4 * e + 1).toNat = a) (h2 : μ 63 (4 * e + 2).toNat = b) (h3 : μ 63 (4 * e + 3).toNat = ch)
    (hQ : ∀ m : Mem_, frK μ m → MK m (apC w kind a b ch) → (mkK kind → m 70 e.toNat = w 17 0) → (∀ j, j ≠ e.toNat → m 70 j = μ 70 j) → Q U_ m) : V_ nX8_happens 0 [R_ 50, I_ e, U_, U_, U_, U_] [] μ Q := by
  have hI1 := hI.1.1
  have hm1 := hm.1
  have hI2 : 0 ≤ a ∧ a < 6 → _ := fun q : 0 ≤ a ∧ a < 6 => hI.2.1 a.toNat (by omega)
  have hm3 : 0 ≤ a ∧ a < 6 → _ := fun q : 0 ≤ a ∧ a < 6 => hm.2.2.1 a.toNat (by omega)
  have hm2 : 0 ≤ a ∧ a < w 17 0 → _ := fun q : 0 ≤ a ∧ a < w 17 0 => hm.2.1 a.toNat (by omega)
  have hI3 : 0 ≤ a ∧ a < w 17 0 → _ := fun q : 0 ≤ a ∧ a < w 17 0 => (hI.1.2 a.toNat (by omega)).2.2
  unfold evOK at hv
  refine v_aload_n dX8_happens_0 rfl rfl ?_
  refine v_getR dX8_happens_1 fX8_47 rfl rfl rfl ?_
  refine v_iconst dX8_happens_4 (by decide) ?_
  refine v_iload_n dX8_happens_5 rfl rfl ?_
  refine v_imul dX8_happens_6 (fun ha hb => by omega) ?_
  refine v_iconst dX8_happens_7 (by decide) ?_
  refine v_iadd dX8_happens_8 (fun ha hb => by omega) ?_
  refine v_iald dX8_happens_9 rfl (by omega) (by omega) ?_
  rw [h1]
  refine v_istore_n (ls' := [_, _, _, _, _, _]) dX8_happens_10 rfl rfl rfl rfl ?_
  refine v_aload_n dX8_happens_11 rfl rfl ?_
  refine v_getR dX8_happens_12 fX8_47 rfl rfl rfl ?_
  refine v_iconst dX8_happens_15 (by decide) ?_
  refine v_iload_n dX8_happens_16 rfl rfl ?_
  refine v_imul dX8_happens_17 (fun ha hb => by omega) ?_
  refine v_iconst dX8_happens_18 (by decide) ?_
  refine v_iadd dX8_happens_19 (fun ha hb => by omega) ?_
  refine v_iald dX8_happens_20 rfl (by omega) (by omega) ?_
  rw [h2]
  refine v_istore_n (ls' := [_, _, _, _, _, _]) dX8_happens_21 rfl rfl rfl rfl ?_
  refine v_aload_n dX8_happens_22 rfl rfl ?_
  refine v_getR dX8_happens_23 fX8_47 rfl rfl rfl ?_
  refine v_iconst dX8_happens_26 (by decide) ?_
  refine v_iload_n dX8_happens_27 rfl rfl ?_
  refine v_imul dX8_happens_28 (fun ha hb => by omega) ?_
  refine v_iald dX8_happens_29 rfl (by omega) (by omega) ?_
  rw [h0]
  rcases (show kind < 1 ∨ 6 < kind ∨ kind = 1 ∨ kind = 2 ∨ kind = 3 ∨ kind = 4 ∨ kind = 5 ∨ kind = 6 by omega) with hsw | hsw | hsw | hsw | hsw | hsw | hsw | hsw
  · refine v_tableOut (tgt := 148) dX8_happens_30 (Or.inl hsw) (by decide) ?_
    refine v_bipush dX8_happens_148 (by decide) ?_
    refine v_iload_n dX8_happens_150 rfl rfl ?_
    refine v_imul dX8_happens_151 (fun ha hb => by omega) ?_
    refine v_iload_n dX8_happens_152 rfl rfl ?_
    refine v_iadd dX8_happens_153 (fun ha hb => by omega) ?_
    refine v_istore (ls' := [_, _, _, _, _, _]) dX8_happens_154 rfl rfl rfl ?_
    refine v_aload_n dX8_happens_156 rfl rfl ?_
    refine v_getR dX8_happens_157 fX8_74 rfl rfl rfl ?_
    refine v_iload dX8_happens_160 rfl ?_
    refine v_iald dX8_happens_162 rfl (by omega) (by omega) ?_
    rw [hm.2.2.2 _ (by omega)]
    refine v_aload_n dX8_happens_163 rfl rfl ?_
    refine v_getR dX8_happens_164 fX8_47 rfl rfl rfl ?_
    refine v_iconst dX8_happens_167 (by decide) ?_
    refine v_iload_n dX8_happens_168 rfl rfl ?_
    refine v_imul dX8_happens_169 (fun ha hb => by omega) ?_
    refine v_iconst dX8_happens_170 (by decide) ?_
    refine v_iadd dX8_happens_171 (fun ha hb => by omega) ?_
    refine v_iald dX8_happens_172 rfl (by omega) (by omega) ?_
    rw [h3]
    refine v_iadd dX8_happens_173 (fun ha hb => by have := hI.2.2 (12 * a + b).toNat (by omega); omega) ?_
    refine v_istore (ls' := [_, _, _, _, _, _]) dX8_happens_174 rfl rfl rfl ?_
    refine v_aload_n dX8_happens_176 rfl rfl ?_
    refine v_getR dX8_happens_177 fX8_74 rfl rfl rfl ?_
    refine v_iload dX8_happens_180 rfl ?_
    refine v_iload dX8_happens_182 rfl ?_
    refine v_iconst dX8_happens_184 (by decide) ?_
    refine v_icmp_le (tgt := 192) dX8_happens_185 (by decide) (fun hc_185 => ?_) (fun hc_185 => ?_)
    · refine v_iload dX8_happens_192 rfl ?_
      refine v_bipush dX8_happens_194 (by decide) ?_
      refine v_icmp_ge (tgt := 204) dX8_happens_196 (by decide) (fun hc_196 => ?_) (fun hc_196 => ?_)
      · refine v_iload dX8_happens_204 rfl ?_
        refine v_iast dX8_happens_206 rfl (by omega) (by omega) ?_
        refine v_return dX8_happens_207 rfl ?_
        first
          | (exact hQ _ frK_ck (by rw [apC, if_pos hsw]; exact MK_add hm hI1.1) (fun _ => by rw [ckC_70]; exact hm1) (fun j hj => ckC_70o hj))
          | (exact hQ _ frK_ck (by rw [apC, if_neg (by rw [hsw]; decide), if_pos hsw]; exact MK_add hm hI1.1) (fun _ => by rw [ckC_70]; exact hm1) (fun j hj => ckC_70o hj))
          | (exact hQ _ frK_gs (by rw [apC, if_neg (by rw [hsw]; decide), if_neg (by rw [hsw]; decide), if_pos hsw]; exact MK_bring hm (hI3 (by omega))) (fun q => by unfold mkK at q; omega) (fun j hj => gsC_off (by omega)))
          | (exact hQ _ frK_gs (by rw [apC, if_neg (by rw [hsw]; decide), if_neg (by rw [hsw]; decide), if_neg (by rw [hsw]; decide), if_pos hsw]; exact MK_bring hm (hI3 (by omega))) (fun q => by unfold mkK at q; omega) (fun j hj => gsC_off (by omega)))
          | (exact hQ _ frK_gs (by rw [apC, if_neg (by rw [hsw]; decide), if_neg (by rw [hsw]; decide), if_neg (by rw [hsw]; decide), if_neg (by rw [hsw]; decide), if_pos hsw]; exact MK_bring hm (hI3 (by omega))) (fun q => by unfold mkK at q; omega) (fun j hj => gsC_off (by omega)))
          | (exact hQ _ (fun o i q q2 => mset_off (by omega)) (by rw [apC, if_neg (by rw [hsw]; decide), if_neg (by rw [hsw]; decide), if_neg (by rw [hsw]; decide), if_neg (by rw [hsw]; decide), if_neg (by rw [hsw]; decide), if_pos hsw]; exact MK_lock hm) (fun q => by unfold mkK at q; omega) (fun j hj => mset_off (by omega)))
          | (have hk7 : kind = 7 := by omega
             have hbd := hI.2.2 (12 * a + b).toNat (by omega)
             exact hQ _ (fun o i q q2 => mset_off (by omega)) (by rw [apC, if_neg (by rw [hk7]; decide), if_neg (by rw [hk7]; decide), if_neg (by rw [hk7]; decide), if_neg (by rw [hk7]; decide), if_neg (by rw [hk7]; decide), if_neg (by rw [hk7]; decide), chTrC, show (a * 12 + b) = 12 * a + b by omega]; exact MK_trust2 hm (by omega)) (fun q => by unfold mkK at q; omega) (fun j hj => mset_off (by omega)))
          | (exfalso; omega)
      · refine v_bipush dX8_happens_199 (by decide) ?_
        refine v_goto (tgt := 206) dX8_happens_201 (by decide) ?_
        refine v_iast dX8_happens_206 rfl (by omega) (by omega) ?_
        refine v_return dX8_happens_207 rfl ?_
        first
          | (exact hQ _ frK_ck (by rw [apC, if_pos hsw]; exact MK_add hm hI1.1) (fun _ => by rw [ckC_70]; exact hm1) (fun j hj => ckC_70o hj))
          | (exact hQ _ frK_ck (by rw [apC, if_neg (by rw [hsw]; decide), if_pos hsw]; exact MK_add hm hI1.1) (fun _ => by rw [ckC_70]; exact hm1) (fun j hj => ckC_70o hj))
          | (exact hQ _ frK_gs (by rw [apC, if_neg (by rw [hsw]; decide), if_neg (by rw [hsw]; decide), if_pos hsw]; exact MK_bring hm (hI3 (by omega))) (fun q => by unfold mkK at q; omega) (fun j hj => gsC_off (by omega)))
          | (exact hQ _ frK_gs (by rw [apC, if_neg (by rw [hsw]; decide), if_neg (by rw [hsw]; decide), if_neg (by rw [hsw]; decide), if_pos hsw]; exact MK_bring hm (hI3 (by omega))) (fun q => by unfold mkK at q; omega) (fun j hj => gsC_off (by omega)))
          | (exact hQ _ frK_gs (by rw [apC, if_neg (by rw [hsw]; decide), if_neg (by rw [hsw]; decide), if_neg (by rw [hsw]; decide), if_neg (by rw [hsw]; decide), if_pos hsw]; exact MK_bring hm (hI3 (by omega))) (fun q => by unfold mkK at q; omega) (fun j hj => gsC_off (by omega)))
          | (exact hQ _ (fun o i q q2 => mset_off (by omega)) (by rw [apC, if_neg (by rw [hsw]; decide), if_neg (by rw [hsw]; decide), if_neg (by rw [hsw]; decide), if_neg (by rw [hsw]; decide), if_neg (by rw [hsw]; decide), if_pos hsw]; exact MK_lock hm) (fun q => by unfold mkK at q; omega) (fun j hj => mset_off (by omega)))
          | (have hk7 : kind = 7 := by omega
             have hbd := hI.2.2 (12 * a + b).toNat (by omega)
             exact hQ _ (fun o i q q2 => mset_off (by omega)) (by rw [apC, if_neg (by rw [hk7]; decide), if_neg (by rw [hk7]; decide), if_neg (by rw [hk7]; decide), if_neg (by rw [hk7]; decide), if_neg (by rw [hk7]; decide), if_neg (by rw [hk7]; decide), chTrC, show (a * 12 + b) = 12 * a + b by omega]; exact MK_trust2 hm (by omega)) (fun q => by unfold mkK at q; omega) (fun j hj => mset_off (by omega)))
          | (exfalso; omega)
    · refine v_iconst dX8_happens_188 (by decide) ?_
      refine v_goto (tgt := 206) dX8_happens_189 (by decide) ?_
      refine v_iast dX8_happens_206 rfl (by omega) (by omega) ?_
      refine v_return dX8_happens_207 rfl ?_
      first
        | (exact hQ _ frK_ck (by rw [apC, if_pos hsw]; exact MK_add hm hI1.1) (fun _ => by rw [ckC_70]; exact hm1) (fun j hj => ckC_70o hj))
        | (exact hQ _ frK_ck (by rw [apC, if_neg (by rw [hsw]; decide), if_pos hsw]; exact MK_add hm hI1.1) (fun _ => by rw [ckC_70]; exact hm1) (fun j hj => ckC_70o hj))
        | (exact hQ _ frK_gs (by rw [apC, if_neg (by rw [hsw]; decide), if_neg (by rw [hsw]; decide), if_pos hsw]; exact MK_bring hm (hI3 (by omega))) (fun q => by unfold mkK at q; omega) (fun j hj => gsC_off (by omega)))
        | (exact hQ _ frK_gs (by rw [apC, if_neg (by rw [hsw]; decide), if_neg (by rw [hsw]; decide), if_neg (by rw [hsw]; decide), if_pos hsw]; exact MK_bring hm (hI3 (by omega))) (fun q => by unfold mkK at q; omega) (fun j hj => gsC_off (by omega)))
        | (exact hQ _ frK_gs (by rw [apC, if_neg (by rw [hsw]; decide), if_neg (by rw [hsw]; decide), if_neg (by rw [hsw]; decide), if_neg (by rw [hsw]; decide), if_pos hsw]; exact MK_bring hm (hI3 (by omega))) (fun q => by unfold mkK at q; omega) (fun j hj => gsC_off (by omega)))
        | (exact hQ _ (fun o i q q2 => mset_off (by omega)) (by rw [apC, if_neg (by rw [hsw]; decide), if_neg (by rw [hsw]; decide), if_neg (by rw [hsw]; decide), if_neg (by rw [hsw]; decide), if_neg (by rw [hsw]; decide), if_pos hsw]; exact MK_lock hm) (fun q => by unfold mkK at q; omega) (fun j hj => mset_off (by omega)))
        | (have hk7 : kind = 7 := by omega
           have hbd := hI.2.2 (12 * a + b).toNat (by omega)
           exact hQ _ (fun o i q q2 => mset_off (by omega)) (by rw [apC, if_neg (by rw [hk7]; decide), if_neg (by rw [hk7]; decide), if_neg (by rw [hk7]; decide), if_neg (by rw [hk7]; decide), if_neg (by rw [hk7]; decide), if_neg (by rw [hk7]; decide), chTrC, show (a * 12 + b) = 12 * a + b by omega]; exact MK_trust2 hm (by omega)) (fun q => by unfold mkK at q; omega) (fun j hj => mset_off (by omega)))
        | (exfalso; omega)
  · refine v_tableOut (tgt := 148) dX8_happens_30 (Or.inr hsw) (by decide) ?_
    refine v_bipush dX8_happens_148 (by decide) ?_
    refine v_iload_n dX8_happens_150 rfl rfl ?_
    refine v_imul dX8_happens_151 (fun ha hb => by omega) ?_
    refine v_iload_n dX8_happens_152 rfl rfl ?_
    refine v_iadd dX8_happens_153 (fun ha hb => by omega) ?_
    refine v_istore (ls' := [_, _, _, _, _, _]) dX8_happens_154 rfl rfl rfl ?_
    refine v_aload_n dX8_happens_156 rfl rfl ?_
    refine v_getR dX8_happens_157 fX8_74 rfl rfl rfl ?_
    refine v_iload dX8_happens_160 rfl ?_
    refine v_iald dX8_happens_162 rfl (by omega) (by omega) ?_
    rw [hm.2.2.2 _ (by omega)]
    refine v_aload_n dX8_happens_163 rfl rfl ?_
    refine v_getR dX8_happens_164 fX8_47 rfl rfl rfl ?_
    refine v_iconst dX8_happens_167 (by decide) ?_
    refine v_iload_n dX8_happens_168 rfl rfl ?_
    refine v_imul dX8_happens_169 (fun ha hb => by omega) ?_
    refine v_iconst dX8_happens_170 (by decide) ?_
    refine v_iadd dX8_happens_171 (fun ha hb => by omega) ?_
    refine v_iald dX8_happens_172 rfl (by omega) (by omega) ?_
    rw [h3]
    refine v_iadd dX8_happens_173 (fun ha hb => by have := hI.2.2 (12 * a + b).toNat (by omega); omega) ?_
    refine v_istore (ls' := [_, _, _, _, _, _]) dX8_happens_174 rfl rfl rfl ?_
    refine v_aload_n dX8_happens_176 rfl rfl ?_
    refine v_getR dX8_happens_177 fX8_74 rfl rfl rfl ?_
    refine v_iload dX8_happens_180 rfl ?_
    refine v_iload dX8_happens_182 rfl ?_
    refine v_iconst dX8_happens_184 (by decide) ?_
    refine v_icmp_le (tgt := 192) dX8_happens_185 (by decide) (fun hc_185 => ?_) (fun hc_185 => ?_)
    · refine v_iload dX8_happens_192 rfl ?_
      refine v_bipush dX8_happens_194 (by decide) ?_
      refine v_icmp_ge (tgt := 204) dX8_happens_196 (by decide) (fun hc_196 => ?_) (fun hc_196 => ?_)
      · refine v_iload dX8_happens_204 rfl ?_
        refine v_iast dX8_happens_206 rfl (by omega) (by omega) ?_
        refine v_return dX8_happens_207 rfl ?_
        first
          | (exact hQ _ frK_ck (by rw [apC, if_pos hsw]; exact MK_add hm hI1.1) (fun _ => by rw [ckC_70]; exact hm1) (fun j hj => ckC_70o hj))
          | (exact hQ _ frK_ck (by rw [apC, if_neg (by rw [hsw]; decide), if_pos hsw]; exact MK_add hm hI1.1) (fun _ => by rw [ckC_70]; exact hm1) (fun j hj => ckC_70o hj))
          | (exact hQ _ frK_gs (by rw [apC, if_neg (by rw [hsw]; decide), if_neg (by rw [hsw]; decide), if_pos hsw]; exact MK_bring hm (hI3 (by omega))) (fun q => by unfold mkK at q; omega) (fun j hj => gsC_off (by omega)))
          | (exact hQ _ frK_gs (by rw [apC, if_neg (by rw [hsw]; decide), if_neg (by rw [hsw]; decide), if_neg (by rw [hsw]; decide), if_pos hsw]; exact MK_bring hm (hI3 (by omega))) (fun q => by unfold mkK at q; omega) (fun j hj => gsC_off (by omega)))
          | (exact hQ _ frK_gs (by rw [apC, if_neg (by rw [hsw]; decide), if_neg (by rw [hsw]; decide), if_neg (by rw [hsw]; decide), if_neg (by rw [hsw]; decide), if_pos hsw]; exact MK_bring hm (hI3 (by omega))) (fun q => by unfold mkK at q; omega) (fun j hj => gsC_off (by omega)))
          | (exact hQ _ (fun o i q q2 => mset_off (by omega)) (by rw [apC, if_neg (by rw [hsw]; decide), if_neg (by rw [hsw]; decide), if_neg (by rw [hsw]; decide), if_neg (by rw [hsw]; decide), if_neg (by rw [hsw]; decide), if_pos hsw]; exact MK_lock hm) (fun q => by unfold mkK at q; omega) (fun j hj => mset_off (by omega)))
          | (have hk7 : kind = 7 := by omega
             have hbd := hI.2.2 (12 * a + b).toNat (by omega)
             exact hQ _ (fun o i q q2 => mset_off (by omega)) (by rw [apC, if_neg (by rw [hk7]; decide), if_neg (by rw [hk7]; decide), if_neg (by rw [hk7]; decide), if_neg (by rw [hk7]; decide), if_neg (by rw [hk7]; decide), if_neg (by rw [hk7]; decide), chTrC, show (a * 12 + b) = 12 * a + b by omega]; exact MK_trust2 hm (by omega)) (fun q => by unfold mkK at q; omega) (fun j hj => mset_off (by omega)))
          | (exfalso; omega)
      · refine v_bipush dX8_happens_199 (by decide) ?_
        refine v_goto (tgt := 206) dX8_happens_201 (by decide) ?_
        refine v_iast dX8_happens_206 rfl (by omega) (by omega) ?_
        refine v_return dX8_happens_207 rfl ?_
        first
          | (exact hQ _ frK_ck (by rw [apC, if_pos hsw]; exact MK_add hm hI1.1) (fun _ => by rw [ckC_70]; exact hm1) (fun j hj => ckC_70o hj))
          | (exact hQ _ frK_ck (by rw [apC, if_neg (by rw [hsw]; decide), if_pos hsw]; exact MK_add hm hI1.1) (fun _ => by rw [ckC_70]; exact hm1) (fun j hj => ckC_70o hj))
          | (exact hQ _ frK_gs (by rw [apC, if_neg (by rw [hsw]; decide), if_neg (by rw [hsw]; decide), if_pos hsw]; exact MK_bring hm (hI3 (by omega))) (fun q => by unfold mkK at q; omega) (fun j hj => gsC_off (by omega)))
          | (exact hQ _ frK_gs (by rw [apC, if_neg (by rw [hsw]; decide), if_neg (by rw [hsw]; decide), if_neg (by rw [hsw]; decide), if_pos hsw]; exact MK_bring hm (hI3 (by omega))) (fun q => by unfold mkK at q; omega) (fun j hj => gsC_off (by omega)))
          | (exact hQ _ frK_gs (by rw [apC, if_neg (by rw [hsw]; decide), if_neg (by rw [hsw]; decide), if_neg (by rw [hsw]; decide), if_neg (by rw [hsw]; decide), if_pos hsw]; exact MK_bring hm (hI3 (by omega))) (fun q => by unfold mkK at q; omega) (fun j hj => gsC_off (by omega)))
          | (exact hQ _ (fun o i q q2 => mset_off (by omega)) (by rw [apC, if_neg (by rw [hsw]; decide), if_neg (by rw [hsw]; decide), if_neg (by rw [hsw]; decide), if_neg (by rw [hsw]; decide), if_neg (by rw [hsw]; decide), if_pos hsw]; exact MK_lock hm) (fun q => by unfold mkK at q; omega) (fun j hj => mset_off (by omega)))
          | (have hk7 : kind = 7 := by omega
             have hbd := hI.2.2 (12 * a + b).toNat (by omega)
             exact hQ _ (fun o i q q2 => mset_off (by omega)) (by rw [apC, if_neg (by rw [hk7]; decide), if_neg (by rw [hk7]; decide), if_neg (by rw [hk7]; decide), if_neg (by rw [hk7]; decide), if_neg (by rw [hk7]; decide), if_neg (by rw [hk7]; decide), chTrC, show (a * 12 + b) = 12 * a + b by omega]; exact MK_trust2 hm (by omega)) (fun q => by unfold mkK at q; omega) (fun j hj => mset_off (by omega)))
          | (exfalso; omega)
    · refine v_iconst dX8_happens_188 (by decide) ?_
      refine v_goto (tgt := 206) dX8_happens_189 (by decide) ?_
      refine v_iast dX8_happens_206 rfl (by omega) (by omega) ?_
      refine v_return dX8_happens_207 rfl ?_
      first
        | (exact hQ _ frK_ck (by rw [apC, if_pos hsw]; exact MK_add hm hI1.1) (fun _ => by rw [ckC_70]; exact hm1) (fun j hj => ckC_70o hj))
        | (exact hQ _ frK_ck (by rw [apC, if_neg (by rw [hsw]; decide), if_pos hsw]; exact MK_add hm hI1.1) (fun _ => by rw [ckC_70]; exact hm1) (fun j hj => ckC_70o hj))
        | (exact hQ _ frK_gs (by rw [apC, if_neg (by rw [hsw]; decide), if_neg (by rw [hsw]; decide), if_pos hsw]; exact MK_bring hm (hI3 (by omega))) (fun q => by unfold mkK at q; omega) (fun j hj => gsC_off (by omega)))
        | (exact hQ _ frK_gs (by rw [apC, if_neg (by rw [hsw]; decide), if_neg (by rw [hsw]; decide), if_neg (by rw [hsw]; decide), if_pos hsw]; exact MK_bring hm (hI3 (by omega))) (fun q => by unfold mkK at q; omega) (fun j hj => gsC_off (by omega)))
        | (exact hQ _ frK_gs (by rw [apC, if_neg (by rw [hsw]; decide), if_neg (by rw [hsw]; decide), if_neg (by rw [hsw]; decide), if_neg (by rw [hsw]; decide), if_pos hsw]; exact MK_bring hm (hI3 (by omega))) (fun q => by unfold mkK at q; omega) (fun j hj => gsC_off (by omega)))
        | (exact hQ _ (fun o i q q2 => mset_off (by omega)) (by rw [apC, if_neg (by rw [hsw]; decide), if_neg (by rw [hsw]; decide), if_neg (by rw [hsw]; decide), if_neg (by rw [hsw]; decide), if_neg (by rw [hsw]; decide), if_pos hsw]; exact MK_lock hm) (fun q => by unfold mkK at q; omega) (fun j hj => mset_off (by omega)))
        | (have hk7 : kind = 7 := by omega
           have hbd := hI.2.2 (12 * a + b).toNat (by omega)
           exact hQ _ (fun o i q q2 => mset_off (by omega)) (by rw [apC, if_neg (by rw [hk7]; decide), if_neg (by rw [hk7]; decide), if_neg (by rw [hk7]; decide), if_neg (by rw [hk7]; decide), if_neg (by rw [hk7]; decide), if_neg (by rw [hk7]; decide), chTrC, show (a * 12 + b) = 12 * a + b by omega]; exact MK_trust2 hm (by omega)) (fun q => by unfold mkK at q; omega) (fun j hj => mset_off (by omega)))
        | (exfalso; omega)
  · refine v_tableIn (off := 38) (tgt := 68) dX8_happens_30 (by rw [hsw]; decide) (by rw [hsw]; decide) (by rw [hsw]; decide) (by decide) ?_
    refine v_aload_n dX8_happens_68 rfl rfl ?_
    refine v_iload_n dX8_happens_69 rfl rfl ?_
    refine v_iload_n dX8_happens_70 rfl rfl ?_
    refine v_aload_n dX8_happens_71 rfl rfl ?_
    refine v_getR dX8_happens_72 fX8_71 rfl rfl rfl ?_
    refine v_iload_n dX8_happens_75 rfl rfl ?_
    refine v_iald dX8_happens_76 rfl (by omega) (by omega) ?_
    rw [hm3 (by omega)]
    refine v_iload_n dX8_happens_77 rfl rfl ?_
    refine v_callVv [_, _, _, _] dX8_happens_78 lX8_230 kvX8_comesKey (plX8 _ _) rfl rfl rfl rfl rfl rfl rfl rfl rfl rfl (c_X8_comesKey (by omega) (by omega) ?_)
    refine v_goto (tgt := 207) dX8_happens_81 (by decide) ?_
    refine v_return dX8_happens_207 rfl ?_
    first
      | (exact hQ _ frK_ck (by rw [apC, if_pos hsw]; exact MK_add hm hI1.1) (fun _ => by rw [ckC_70]; exact hm1) (fun j hj => ckC_70o hj))
      | (exact hQ _ frK_ck (by rw [apC, if_neg (by rw [hsw]; decide), if_pos hsw]; exact MK_add hm hI1.1) (fun _ => by rw [ckC_70]; exact hm1) (fun j hj => ckC_70o hj))
      | (exact hQ _ frK_gs (by rw [apC, if_neg (by rw [hsw]; decide), if_neg (by rw [hsw]; decide), if_pos hsw]; exact MK_bring hm (hI3 (by omega))) (fun q => by unfold mkK at q; omega) (fun j hj => gsC_off (by omega)))
      | (exact hQ _ frK_gs (by rw [apC, if_neg (by rw [hsw]; decide), if_neg (by rw [hsw]; decide), if_neg (by rw [hsw]; decide), if_pos hsw]; exact MK_bring hm (hI3 (by omega))) (fun q => by unfold mkK at q; omega) (fun j hj => gsC_off (by omega)))
      | (exact hQ _ frK_gs (by rw [apC, if_neg (by rw [hsw]; decide), if_neg (by rw [hsw]; decide), if_neg (by rw [hsw]; decide), if_neg (by rw [hsw]; decide), if_pos hsw]; exact MK_bring hm (hI3 (by omega))) (fun q => by unfold mkK at q; omega) (fun j hj => gsC_off (by omega)))
      | (exact hQ _ (fun o i q q2 => mset_off (by omega)) (by rw [apC, if_neg (by rw [hsw]; decide), if_neg (by rw [hsw]; decide), if_neg (by rw [hsw]; decide), if_neg (by rw [hsw]; decide), if_neg (by rw [hsw]; decide), if_pos hsw]; exact MK_lock hm) (fun q => by unfold mkK at q; omega) (fun j hj => mset_off (by omega)))
      | (have hk7 : kind = 7 := by omega
         have hbd := hI.2.2 (12 * a + b).toNat (by omega)
         exact hQ _ (fun o i q q2 => mset_off (by omega)) (by rw [apC, if_neg (by rw [hk7]; decide), if_neg (by rw [hk7]; decide), if_neg (by rw [hk7]; decide), if_neg (by rw [hk7]; decide), if_neg (by rw [hk7]; decide), if_neg (by rw [hk7]; decide), chTrC, show (a * 12 + b) = 12 * a + b by omega]; exact MK_trust2 hm (by omega)) (fun q => by unfold mkK at q; omega) (fun j hj => mset_off (by omega)))
      | (exfalso; omega)
  · refine v_tableIn (off := 54) (tgt := 84) dX8_happens_30 (by rw [hsw]; decide) (by rw [hsw]; decide) (by rw [hsw]; decide) (by decide) ?_
    refine v_aload_n dX8_happens_84 rfl rfl ?_
    refine v_iload_n dX8_happens_85 rfl rfl ?_
    refine v_aload_n dX8_happens_86 rfl rfl ?_
    refine v_getR dX8_happens_87 fX8_53 rfl rfl rfl ?_
    refine v_iload_n dX8_happens_90 rfl rfl ?_
    refine v_iald dX8_happens_91 rfl (by omega) (by omega) ?_
    rw [(hm2 (by omega)).1]
    refine v_aload_n dX8_happens_92 rfl rfl ?_
    refine v_getR dX8_happens_93 fX8_56 rfl rfl rfl ?_
    refine v_iload_n dX8_happens_96 rfl rfl ?_
    refine v_iald dX8_happens_97 rfl (by omega) (by omega) ?_
    rw [(hm2 (by omega)).2.1]
    refine v_iload_n dX8_happens_98 rfl rfl ?_
    refine v_callVv [_, _, _, _] dX8_happens_99 lX8_230 kvX8_comesKey (plX8 _ _) rfl rfl rfl rfl rfl rfl rfl rfl rfl rfl (c_X8_comesKey (by omega) (by omega) ?_)
    refine v_goto (tgt := 207) dX8_happens_102 (by decide) ?_
    refine v_return dX8_happens_207 rfl ?_
    first
      | (exact hQ _ frK_ck (by rw [apC, if_pos hsw]; exact MK_add hm hI1.1) (fun _ => by rw [ckC_70]; exact hm1) (fun j hj => ckC_70o hj))
      | (exact hQ _ frK_ck (by rw [apC, if_neg (by rw [hsw]; decide), if_pos hsw]; exact MK_add hm hI1.1) (fun _ => by rw [ckC_70]; exact hm1) (fun j hj => ckC_70o hj))
      | (exact hQ _ frK_gs (by rw [apC, if_neg (by rw [hsw]; decide), if_neg (by rw [hsw]; decide), if_pos hsw]; exact MK_bring hm (hI3 (by omega))) (fun q => by unfold mkK at q; omega) (fun j hj => gsC_off (by omega)))
      | (exact hQ _ frK_gs (by rw [apC, if_neg (by rw [hsw]; decide), if_neg (by rw [hsw]; decide), if_neg (by rw [hsw]; decide), if_pos hsw]; exact MK_bring hm (hI3 (by omega))) (fun q => by unfold mkK at q; omega) (fun j hj => gsC_off (by omega)))
      | (exact hQ _ frK_gs (by rw [apC, if_neg (by rw [hsw]; decide), if_neg (by rw [hsw]; decide), if_neg (by rw [hsw]; decide), if_neg (by rw [hsw]; decide), if_pos hsw]; exact MK_bring hm (hI3 (by omega))) (fun q => by unfold mkK at q; omega) (fun j hj => gsC_off (by omega)))
      | (exact hQ _ (fun o i q q2 => mset_off (by omega)) (by rw [apC, if_neg (by rw [hsw]; decide), if_neg (by rw [hsw]; decide), if_neg (by rw [hsw]; decide), if_neg (by rw [hsw]; decide), if_neg (by rw [hsw]; decide), if_pos hsw]; exact MK_lock hm) (fun q => by unfold mkK at q; omega) (fun j hj => mset_off (by omega)))
      | (have hk7 : kind = 7 := by omega
         have hbd := hI.2.2 (12 * a + b).toNat (by omega)
         exact hQ _ (fun o i q q2 => mset_off (by omega)) (by rw [apC, if_neg (by rw [hk7]; decide), if_neg (by rw [hk7]; decide), if_neg (by rw [hk7]; decide), if_neg (by rw [hk7]; decide), if_neg (by rw [hk7]; decide), if_neg (by rw [hk7]; decide), chTrC, show (a * 12 + b) = 12 * a + b by omega]; exact MK_trust2 hm (by omega)) (fun q => by unfold mkK at q; omega) (fun j hj => mset_off (by omega)))
      | (exfalso; omega)
  · refine v_tableIn (off := 75) (tgt := 105) dX8_happens_30 (by rw [hsw]; decide) (by rw [hsw]; decide) (by rw [hsw]; decide) (by decide) ?_
    refine v_aload_n dX8_happens_105 rfl rfl ?_
    refine v_iload_n dX8_happens_106 rfl rfl ?_
    refine v_iconst dX8_happens_107 (by decide) ?_
    refine v_iload_n dX8_happens_108 rfl rfl ?_
    refine v_callVv [_, _, _] dX8_happens_109 lX8_226 kvX8_goes (plX8 _ _) rfl rfl rfl rfl rfl rfl rfl rfl rfl rfl (c_X8_goes (by omega) ?_)
    refine v_goto (tgt := 207) dX8_happens_112 (by decide) ?_
    refine v_return dX8_happens_207 rfl ?_
    first
      | (exact hQ _ frK_ck (by rw [apC, if_pos hsw]; exact MK_add hm hI1.1) (fun _ => by rw [ckC_70]; exact hm1) (fun j hj => ckC_70o hj))
      | (exact hQ _ frK_ck (by rw [apC, if_neg (by rw [hsw]; decide), if_pos hsw]; exact MK_add hm hI1.1) (fun _ => by rw [ckC_70]; exact hm1) (fun j hj => ckC_70o hj))
      | (exact hQ _ frK_gs (by rw [apC, if_neg (by rw [hsw]; decide), if_neg (by rw [hsw]; decide), if_pos hsw]; exact MK_bring hm (hI3 (by omega))) (fun q => by unfold mkK at q; omega) (fun j hj => gsC_off (by omega)))
      | (exact hQ _ frK_gs (by rw [apC, if_neg (by rw [hsw]; decide), if_neg (by rw [hsw]; decide), if_neg (by rw [hsw]; decide), if_pos hsw]; exact MK_bring hm (hI3 (by omega))) (fun q => by unfold mkK at q; omega) (fun j hj => gsC_off (by omega)))
      | (exact hQ _ frK_gs (by rw [apC, if_neg (by rw [hsw]; decide), if_neg (by rw [hsw]; decide), if_neg (by rw [hsw]; decide), if_neg (by rw [hsw]; decide), if_pos hsw]; exact MK_bring hm (hI3 (by omega))) (fun q => by unfold mkK at q; omega) (fun j hj => gsC_off (by omega)))
      | (exact hQ _ (fun o i q q2 => mset_off (by omega)) (by rw [apC, if_neg (by rw [hsw]; decide), if_neg (by rw [hsw]; decide), if_neg (by rw [hsw]; decide), if_neg (by rw [hsw]; decide), if_neg (by rw [hsw]; decide), if_pos hsw]; exact MK_lock hm) (fun q => by unfold mkK at q; omega) (fun j hj => mset_off (by omega)))
      | (have hk7 : kind = 7 := by omega
         have hbd := hI.2.2 (12 * a + b).toNat (by omega)
         exact hQ _ (fun o i q q2 => mset_off (by omega)) (by rw [apC, if_neg (by rw [hk7]; decide), if_neg (by rw [hk7]; decide), if_neg (by rw [hk7]; decide), if_neg (by rw [hk7]; decide), if_neg (by rw [hk7]; decide), if_neg (by rw [hk7]; decide), chTrC, show (a * 12 + b) = 12 * a + b by omega]; exact MK_trust2 hm (by omega)) (fun q => by unfold mkK at q; omega) (fun j hj => mset_off (by omega)))
      | (exfalso; omega)
  · refine v_tableIn (off := 85) (tgt := 115) dX8_happens_30 (by rw [hsw]; decide) (by rw [hsw]; decide) (by rw [hsw]; decide) (by decide) ?_
    refine v_aload_n dX8_happens_115 rfl rfl ?_
    refine v_iload_n dX8_happens_116 rfl rfl ?_
    refine v_iconst dX8_happens_117 (by decide) ?_
    refine v_iload_n dX8_happens_118 rfl rfl ?_
    refine v_callVv [_, _, _] dX8_happens_119 lX8_226 kvX8_goes (plX8 _ _) rfl rfl rfl rfl rfl rfl rfl rfl rfl rfl (c_X8_goes (by omega) ?_)
    refine v_goto (tgt := 207) dX8_happens_122 (by decide) ?_
    refine v_return dX8_happens_207 rfl ?_
    first
      | (exact hQ _ frK_ck (by rw [apC, if_pos hsw]; exact MK_add hm hI1.1) (fun _ => by rw [ckC_70]; exact hm1) (fun j hj => ckC_70o hj))
      | (exact hQ _ frK_ck (by rw [apC, if_neg (by rw [hsw]; decide), if_pos hsw]; exact MK_add hm hI1.1) (fun _ => by rw [ckC_70]; exact hm1) (fun j hj => ckC_70o hj))
      | (exact hQ _ frK_gs (by rw [apC, if_neg (by rw [hsw]; decide), if_neg (by rw [hsw]; decide), if_pos hsw]; exact MK_bring hm (hI3 (by omega))) (fun q => by unfold mkK at q; omega) (fun j hj => gsC_off (by omega)))
      | (exact hQ _ frK_gs (by rw [apC, if_neg (by rw [hsw]; decide), if_neg (by rw [hsw]; decide), if_neg (by rw [hsw]; decide), if_pos hsw]; exact MK_bring hm (hI3 (by omega))) (fun q => by unfold mkK at q; omega) (fun j hj => gsC_off (by omega)))
      | (exact hQ _ frK_gs (by rw [apC, if_neg (by rw [hsw]; decide), if_neg (by rw [hsw]; decide), if_neg (by rw [hsw]; decide), if_neg (by rw [hsw]; decide), if_pos hsw]; exact MK_bring hm (hI3 (by omega))) (fun q => by unfold mkK at q; omega) (fun j hj => gsC_off (by omega)))
      | (exact hQ _ (fun o i q q2 => mset_off (by omega)) (by rw [apC, if_neg (by rw [hsw]; decide), if_neg (by rw [hsw]; decide), if_neg (by rw [hsw]; decide), if_neg (by rw [hsw]; decide), if_neg (by rw [hsw]; decide), if_pos hsw]; exact MK_lock hm) (fun q => by unfold mkK at q; omega) (fun j hj => mset_off (by omega)))
      | (have hk7 : kind = 7 := by omega
         have hbd := hI.2.2 (12 * a + b).toNat (by omega)
         exact hQ _ (fun o i q q2 => mset_off (by omega)) (by rw [apC, if_neg (by rw [hk7]; decide), if_neg (by rw [hk7]; decide), if_neg (by rw [hk7]; decide), if_neg (by rw [hk7]; decide), if_neg (by rw [hk7]; decide), if_neg (by rw [hk7]; decide), chTrC, show (a * 12 + b) = 12 * a + b by omega]; exact MK_trust2 hm (by omega)) (fun q => by unfold mkK at q; omega) (fun j hj => mset_off (by omega)))
      | (exfalso; omega)
  · refine v_tableIn (off := 95) (tgt := 125) dX8_happens_30 (by rw [hsw]; decide) (by rw [hsw]; decide) (by rw [hsw]; decide) (by decide) ?_
    refine v_aload_n dX8_happens_125 rfl rfl ?_
    refine v_iload_n dX8_happens_126 rfl rfl ?_
    refine v_iconst dX8_happens_127 (by decide) ?_
    refine v_iload_n dX8_happens_128 rfl rfl ?_
    refine v_callVv [_, _, _] dX8_happens_129 lX8_226 kvX8_goes (plX8 _ _) rfl rfl rfl rfl rfl rfl rfl rfl rfl rfl (c_X8_goes (by omega) ?_)
    refine v_goto (tgt := 207) dX8_happens_132 (by decide) ?_
    refine v_return dX8_happens_207 rfl ?_
    first
      | (exact hQ _ frK_ck (by rw [apC, if_pos hsw]; exact MK_add hm hI1.1) (fun _ => by rw [ckC_70]; exact hm1) (fun j hj => ckC_70o hj))
      | (exact hQ _ frK_ck (by rw [apC, if_neg (by rw [hsw]; decide), if_pos hsw]; exact MK_add hm hI1.1) (fun _ => by rw [ckC_70]; exact hm1) (fun j hj => ckC_70o hj))
      | (exact hQ _ frK_gs (by rw [apC, if_neg (by rw [hsw]; decide), if_neg (by rw [hsw]; decide), if_pos hsw]; exact MK_bring hm (hI3 (by omega))) (fun q => by unfold mkK at q; omega) (fun j hj => gsC_off (by omega)))
      | (exact hQ _ frK_gs (by rw [apC, if_neg (by rw [hsw]; decide), if_neg (by rw [hsw]; decide), if_neg (by rw [hsw]; decide), if_pos hsw]; exact MK_bring hm (hI3 (by omega))) (fun q => by unfold mkK at q; omega) (fun j hj => gsC_off (by omega)))
      | (exact hQ _ frK_gs (by rw [apC, if_neg (by rw [hsw]; decide), if_neg (by rw [hsw]; decide), if_neg (by rw [hsw]; decide), if_neg (by rw [hsw]; decide), if_pos hsw]; exact MK_bring hm (hI3 (by omega))) (fun q => by unfold mkK at q; omega) (fun j hj => gsC_off (by omega)))
      | (exact hQ _ (fun o i q q2 => mset_off (by omega)) (by rw [apC, if_neg (by rw [hsw]; decide), if_neg (by rw [hsw]; decide), if_neg (by rw [hsw]; decide), if_neg (by rw [hsw]; decide), if_neg (by rw [hsw]; decide), if_pos hsw]; exact MK_lock hm) (fun q => by unfold mkK at q; omega) (fun j hj => mset_off (by omega)))
      | (have hk7 : kind = 7 := by omega
         have hbd := hI.2.2 (12 * a + b).toNat (by omega)
         exact hQ _ (fun o i q q2 => mset_off (by omega)) (by rw [apC, if_neg (by rw [hk7]; decide), if_neg (by rw [hk7]; decide), if_neg (by rw [hk7]; decide), if_neg (by rw [hk7]; decide), if_neg (by rw [hk7]; decide), if_neg (by rw [hk7]; decide), chTrC, show (a * 12 + b) = 12 * a + b by omega]; exact MK_trust2 hm (by omega)) (fun q => by unfold mkK at q; omega) (fun j hj => mset_off (by omega)))
      | (exfalso; omega)
  · refine v_tableIn (off := 105) (tgt := 135) dX8_happens_30 (by rw [hsw]; decide) (by rw [hsw]; decide) (by rw [hsw]; decide) (by decide) ?_
    refine v_aload_n dX8_happens_135 rfl rfl ?_
    refine v_getR dX8_happens_136 fX8_71 rfl rfl rfl ?_
    refine v_iload_n dX8_happens_139 rfl rfl ?_
    refine v_dup2 dX8_happens_140 ?_
    refine v_iald dX8_happens_141 rfl (by omega) (by omega) ?_
    rw [hm3 (by omega)]
    refine v_iconst dX8_happens_142 (by decide) ?_
    refine v_iadd dX8_happens_143 (fun ha hb => by have := hI2 (by omega); omega) ?_
    refine v_iast dX8_happens_144 rfl (by omega) (by omega) ?_
    refine v_goto (tgt := 207) dX8_happens_145 (by decide) ?_
    refine v_return dX8_happens_207 rfl ?_
    first
      | (exact hQ _ frK_ck (by rw [apC, if_pos hsw]; exact MK_add hm hI1.1) (fun _ => by rw [ckC_70]; exact hm1) (fun j hj => ckC_70o hj))
      | (exact hQ _ frK_ck (by rw [apC, if_neg (by rw [hsw]; decide), if_pos hsw]; exact MK_add hm hI1.1) (fun _ => by rw [ckC_70]; exact hm1) (fun j hj => ckC_70o hj))
      | (exact hQ _ frK_gs (by rw [apC, if_neg (by rw [hsw]; decide), if_neg (by rw [hsw]; decide), if_pos hsw]; exact MK_bring hm (hI3 (by omega))) (fun q => by unfold mkK at q; omega) (fun j hj => gsC_off (by omega)))
      | (exact hQ _ frK_gs (by rw [apC, if_neg (by rw [hsw]; decide), if_neg (by rw [hsw]; decide), if_neg (by rw [hsw]; decide), if_pos hsw]; exact MK_bring hm (hI3 (by omega))) (fun q => by unfold mkK at q; omega) (fun j hj => gsC_off (by omega)))
      | (exact hQ _ frK_gs (by rw [apC, if_neg (by rw [hsw]; decide), if_neg (by rw [hsw]; decide), if_neg (by rw [hsw]; decide), if_neg (by rw [hsw]; decide), if_pos hsw]; exact MK_bring hm (hI3 (by omega))) (fun q => by unfold mkK at q; omega) (fun j hj => gsC_off (by omega)))
      | (exact hQ _ (fun o i q q2 => mset_off (by omega)) (by rw [apC, if_neg (by rw [hsw]; decide), if_neg (by rw [hsw]; decide), if_neg (by rw [hsw]; decide), if_neg (by rw [hsw]; decide), if_neg (by rw [hsw]; decide), if_pos hsw]; exact MK_lock hm) (fun q => by unfold mkK at q; omega) (fun j hj => mset_off (by omega)))
      | (have hk7 : kind = 7 := by omega
         have hbd := hI.2.2 (12 * a + b).toNat (by omega)
         exact hQ _ (fun o i q q2 => mset_off (by omega)) (by rw [apC, if_neg (by rw [hk7]; decide), if_neg (by rw [hk7]; decide), if_neg (by rw [hk7]; decide), if_neg (by rw [hk7]; decide), if_neg (by rw [hk7]; decide), if_neg (by rw [hk7]; decide), chTrC, show (a * 12 + b) = 12 * a + b by omega]; exact MK_trust2 hm (by omega)) (fun q => by unfold mkK at q; omega) (fun j hj => mset_off (by omega)))
      | (exfalso; omega)
set_option maxRecDepth 10000 in
theorem c_X8_isLive {w : Mem_} {k : Int} (hp : PIc w) (hm : MK μ w) (hk : 0 ≤ k ∧ k < w 17 0) (h : Q (I_ (b2i (liveC w k.toNat))) μ) : V_ nX8_isLive 0 [R_ 50, I_ k] [] μ Q := by
  have hk1 := hm.2.1 k.toNat (by omega)
  have hk2 := hp.2 k.toNat (by omega)
  have hp1 := hp.1
  have hk3 := hm.2.2.1 (w 18 k.toNat).toNat (by omega)
  unfold liveC at h
  refine v_aload_n dX8_isLive_0 rfl rfl ?_
  refine v_getR dX8_isLive_1 fX8_56 rfl rfl rfl ?_
  refine v_iload_n dX8_isLive_4 rfl rfl ?_
  refine v_iald dX8_isLive_5 rfl (by omega) (by omega) ?_
  rw [hk1.2.1]
  refine v_aload_n dX8_isLive_6 rfl rfl ?_
  refine v_getR dX8_isLive_7 fX8_71 rfl rfl rfl ?_
  refine v_aload_n dX8_isLive_10 rfl rfl ?_
  refine v_getR dX8_isLive_11 fX8_53 rfl rfl rfl ?_
  refine v_iload_n dX8_isLive_14 rfl rfl ?_
  refine v_iald dX8_isLive_15 rfl (by omega) (by omega) ?_
  rw [hk1.1]
  refine v_iald dX8_isLive_16 rfl (by omega) (by omega) ?_
  rw [hk3]
  refine v_icmp_ne (tgt := 24) dX8_isLive_17 (by decide) (fun hc_17 => ?_) (fun hc_17 => ?_)
  · refine v_iconst dX8_isLive_24 (by decide) ?_
    refine v_zreturn dX8_isLive_25 rfl (by first | exact Or.inl rfl | exact Or.inr rfl | exact b2i_01 _ | assumption) ?_
    rwa [b2i_f (by omega)] at h
  · refine v_iconst dX8_isLive_20 (by decide) ?_
    refine v_goto (tgt := 25) dX8_isLive_21 (by decide) ?_
    refine v_zreturn dX8_isLive_25 rfl (by first | exact Or.inl rfl | exact Or.inr rfl | exact b2i_01 _ | assumption) ?_
    rwa [b2i_t (by omega)] at h
end
