/-! the model: an event read, walked; a year read -/
section
variable {μ : Mem_} {Q : PV → Mem_ → Prop} {tx : Nat → Int} {n i : Nat} {t : Int} {e0 : Int} {s : EvL × Int}
set_option maxRecDepth 10000 in
set_option maxHeartbeats 4000000 in
theorem c_X8_readsEvent (ht : TmC tx n t μ) (hi : μ 50 15 = (i : Int)) (hin : i < n) (he : 0 ≤ e0) (hE40 : e0 + s.1.length ≤ 40) (hs2 : 0 ≤ s.2 ∧ s.2 ≤ 24) (hD : EmC μ e0 s) (hH : 0 ≤ μ 50 10 ∧ μ 50 10 ≤ 6) (hP : 0 ≤ μ 50 11 ∧ μ 50 11 ≤ 12) (h : ∀ m : Mem_, iyPost μ m e0 s (itY tx n (μ 50 10) (μ 50 11) e0 i s) → Q (I_ (b2i ((itY tx n (μ 50 10) (μ 50 11) e0 i s).2 ≠ none))) m) : V_ nX8_readsEvent 0 [R_ 50, I_ t, U_, U_, U_, U_, U_] [] μ Q := by
  have t1 := ht.1
  have d1 := hD.1.1
  have d2 := hD.1.2
  obtain ⟨E, hE⟩ : ∃ E : Nat, (E : Int) = e0 + s.1.length := ⟨(e0 + s.1.length).toNat, by omega⟩
  have hkr : 0 ≤ kdN (tx i) ∧ kdN (tx i) ≤ 7 := by unfold kdN; (repeat' split) <;> omega
  have hk7 : kdN (tx i) = 7 ↔ tx i = 102 ∨ tx i = 113 := by unfold kdN; (repeat' split) <;> omega
  by_cases hst : nStop tx i e0 s
  · have hst2 := hst
    unfold nStop mkK at hst2
    generalize hk : kdN (tx i) = k at *
    have no : ∀ (m : Mem_) (j : Nat), hlf μ m E s.2 k (chN k (tx i)) → m 50 15 = (j : Int) → itY tx n (μ 50 10) (μ 50 11) e0 i s = (j, none) → Q (I_ 0) m := by
      intro m j a1 a2 a3
      have := h m (by rw [a3]; exact ⟨a1.1, a2, a1.em hE he hD rfl⟩)
      rw [a3] at this
      exact this
    have yes : ∀ (m : Mem_) (j : Nat) (a b mk : Int), mk = s.2 + b2i (mkK k) → hlf μ m E s.2 k (chN k (tx i)) ∨ (frE μ m ∧ (m 50 24 = (E : Int) ∧ m 50 25 = s.2) ∧ (∀ x : Nat, x < 4 * E → m 64 x = μ 64 x) ∧ m 64 (4 * E) = k ∧ m 64 (4 * E + 3) = chN k (tx i)) → m 64 (4 * E + 1) = a → m 64 (4 * E + 2) = b → m 50 15 = (j : Int) → itY tx n (μ 50 10) (μ 50 11) e0 i s = (j, some (s.1 ++ [(k, a, b, chN k (tx i))], s.2 + b2i (mkK k))) → Q (I_ 1) (mset (mset m 50 24 ((E : Int) + 1)) 50 25 mk) := by
      intro m j a b mk hmk a1 a2 a3 a4 a5
      have a6 : frE μ m ∧ (∀ x : Nat, x < 4 * E → m 64 x = μ 64 x) ∧ m 64 (4 * E) = k ∧ m 64 (4 * E + 3) = chN k (tx i) := by
        rcases a1 with a1 | a1
        · exact ⟨a1.1, a1.2.2.1, a1.2.2.2.1, a1.2.2.2.2.2⟩
        · exact ⟨a1.1, a1.2.2.1, a1.2.2.2.1, a1.2.2.2.2⟩
      have := h (mset (mset m 50 24 ((E : Int) + 1)) 50 25 mk) (by
        rw [a5]
        refine ⟨a6.1.tr (fun o k q1 q2 => by rw [mset_off (by omega), mset_off (by omega)]), by rw [mset_off (by omega), mset_off (by omega)]; exact a4, ?_⟩
        exact EmC_add (E := E) hE he hD (by rw [mset_off (by omega), mset_same]) (by rw [mset_same, hmk]) (fun x hx => by rw [mset_off (by omega), mset_off (by omega)]; exact a6.2.1 x hx) ⟨by rw [mset_off (by omega), mset_off (by omega)]; exact a6.2.2.1, by rw [mset_off (by omega), mset_off (by omega)]; exact a2, by rw [mset_off (by omega), mset_off (by omega)]; exact a3, by rw [mset_off (by omega), mset_off (by omega)]; exact a6.2.2.2⟩)
      rw [a5] at this
      exact this
    have f323 : ∀ (m : Mem_) (j : Nat) (a b : Int) (bb hs : Int) (l6 : PV), (frE μ m ∧ (m 50 24 = (E : Int) ∧ m 50 25 = s.2) ∧ (∀ x : Nat, x < 4 * E → m 64 x = μ 64 x) ∧ m 64 (4 * E) = k ∧ m 64 (4 * E + 3) = chN k (tx i)) → m 64 (4 * E + 1) = a → m 64 (4 * E + 2) = b → m 50 15 = (j : Int) → itY tx n (μ 50 10) (μ 50 11) e0 i s = (j, some (s.1 ++ [(k, a, b, chN k (tx i))], s.2 + b2i (mkK k))) → V_ nX8_readsEvent 323 [R_ 50, I_ t, U_, I_ k, U_, U_, U_] [] m Q := by
      intro m j a b bb hs l6 a1 a2 a3 a4 a5
      have e24 := a1.2.1.1
      have e25 := a1.2.1.2
      refine v_aload_n dX8_readsEvent_323 rfl rfl ?_
      refine v_dupR_ dX8_readsEvent_324 ?_
      refine v_getI dX8_readsEvent_325 fX8_174 rfl rfl rfl ?_
      rw [e24]
      refine v_iconst dX8_readsEvent_328 (by decide) ?_
      refine v_iadd dX8_readsEvent_329 (fun ha hb => by omega) ?_
      refine v_putI dX8_readsEvent_330 fpX8_174 rfl rfl rfl ?_
      refine v_aload_n dX8_readsEvent_333 rfl rfl ?_
      refine v_dupR_ dX8_readsEvent_334 ?_
      refine v_getI dX8_readsEvent_335 fX8_177 rfl rfl rfl ?_
      rw [mset_off (by omega), e25]
      refine v_iload_n dX8_readsEvent_338 rfl rfl ?_
      refine v_iconst dX8_readsEvent_339 (by decide) ?_
      refine v_icmp_gt (tgt := 347) dX8_readsEvent_340 (by decide) (fun hc_340 => ?_) (fun hc_340 => ?_)
      · refine v_iconst dX8_readsEvent_347 (by decide) ?_
        refine v_iadd dX8_readsEvent_348 (fun ha hb => by omega) ?_
        refine v_putI dX8_readsEvent_349 fpX8_177 rfl rfl rfl ?_
        refine v_iconst dX8_readsEvent_352 (by decide) ?_
        refine v_zreturn dX8_readsEvent_353 rfl (by first | exact Or.inl rfl | exact Or.inr rfl | exact b2i_01 _ | assumption) ?_
        first
          | exact yes m j a b _ (by rw [b2i_t (by unfold mkK; omega)]) (Or.inr a1) a2 a3 a4 a5
          | exact yes m j a b _ (by rw [b2i_f (by unfold mkK; omega)]) (Or.inr a1) a2 a3 a4 a5
      · refine v_iconst dX8_readsEvent_343 (by decide) ?_
        refine v_goto (tgt := 348) dX8_readsEvent_344 (by decide) ?_
        refine v_iadd dX8_readsEvent_348 (fun ha hb => by omega) ?_
        refine v_putI dX8_readsEvent_349 fpX8_177 rfl rfl rfl ?_
        refine v_iconst dX8_readsEvent_352 (by decide) ?_
        refine v_zreturn dX8_readsEvent_353 rfl (by first | exact Or.inl rfl | exact Or.inr rfl | exact b2i_01 _ | assumption) ?_
        first
          | exact yes m j a b _ (by rw [b2i_t (by unfold mkK; omega)]) (Or.inr a1) a2 a3 a4 a5
          | exact yes m j a b _ (by rw [b2i_f (by unfold mkK; omega)]) (Or.inr a1) a2 a3 a4 a5
    have f181 : ∀ (m : Mem_) (j : Nat) (a : Int), j ≤ n → hlf μ m E s.2 k (chN k (tx i)) → m 50 15 = (j : Int) → m 50 16 = a → evA tx n (μ 50 10) (μ 50 11) s.2 k (i + 1) = (j, some a) → V_ nX8_readsEvent 181 [R_ 50, I_ t, U_, I_ k, I_ (4 * (E : Int)), U_, U_] [] m Q := by
      intro m j a hjn a1 a2 a3 a4
      rw [← hk] at a4
      have em1 : (4 * (E : Int) + 1).toNat = 4 * E + 1 := by omega
      have em2 : (4 * (E : Int) + 2).toNat = 4 * E + 2 := by omega
      have g1 := a1.st (v := a)
      have g15 : mset m 64 (4 * E + 1) a 50 15 = (j : Int) := by rw [mset_off (by omega)]; exact a2
      have n10 : ∀ m' : Mem_, frR (mset m 64 (4 * E + 1) a) m' → m' 50 10 = μ 50 10 := fun m' f => by rw [f 50 10 (by omega)]; exact g1.1 50 10 (by omega) (by omega)
      have n11 : ∀ m' : Mem_, frR (mset m 64 (4 * E + 1) a) m' → m' 50 11 = μ 50 11 := fun m' f => by rw [f 50 11 (by omega)]; exact g1.1 50 11 (by omega) (by omega)
      have nB : ∀ (c : Int) (m2 : Mem_), k ≠ 6 → c = joN k → frR (mset m 64 (4 * E + 1) a) m2 → m2 50 15 = ((expP tx n c j).1 : Int) → ¬ (expP tx n c j).2 ≠ none → Q (I_ 0) m2 := by
        intro c m2 h6 hc b1 b2 b3
        rw [hc] at b2 b3
        exact no m2 _ (g1.fr b1) b2 (iy_B hst a4 (by rw [hk]; exact h6) (by rw [hk]; exact opt_n b3))
      have f286 : ∀ (c : Int) (m2 m3 : Mem_) (b : Int), k ≠ 6 → c = joN k → frR (mset m 64 (4 * E + 1) a) m2 → (expP tx n c j).2 ≠ none → frR m2 m3 → m3 50 15 = ((bP tx n (μ 50 10) (μ 50 11) k (expP tx n c j).1).1 : Int) → (∀ v, (bP tx n (μ 50 10) (μ 50 11) k (expP tx n c j).1).2 = some v → m3 50 16 = v) → (bP tx n (μ 50 10) (μ 50 11) k (expP tx n c j).1).2 ≠ none → V_ nX8_readsEvent 286 [R_ 50, I_ t, U_, I_ k, I_ (4 * (E : Int)), U_, U_] [] m3 Q := by
        intro c m2 m3 b h6 hc b1 b2 b3 b4 b5 b6
        rw [hc] at b2 b4 b5 b6
        obtain ⟨u, hu⟩ := opt_s b2
        obtain ⟨v, hv⟩ := opt_s b6
        have hv2 : m3 50 16 = v := b5 v (by rw [hv])
        have key := iy_D hst a4 (by rw [hk]; exact h6) (by rw [hk]; exact hu) (by rw [hk]; exact hv)
        rw [hk] at key
        have g3 := (g1.fr b1).fr b3
        have ea : m3 64 (4 * E + 1) = a := by rw [b3 64 _ (by omega), b1 64 _ (by omega), mset_same]
        refine v_iload_n dX8_readsEvent_286 rfl rfl ?_
        refine v_bipush dX8_readsEvent_287 (by decide) ?_
        refine v_icmp_ne (tgt := 310) dX8_readsEvent_289 (by decide) (fun hc_289 => ?_) (fun hc_289 => ?_)
        · refine v_aload_n dX8_readsEvent_310 rfl rfl ?_
          refine v_getR dX8_readsEvent_311 fX8_50 rfl rfl rfl ?_
          refine v_iload dX8_readsEvent_314 rfl ?_
          refine v_iconst dX8_readsEvent_316 (by decide) ?_
          refine v_iadd dX8_readsEvent_317 (fun ha hb => by omega) ?_
          refine v_aload_n dX8_readsEvent_318 rfl rfl ?_
          refine v_getI dX8_readsEvent_319 fX8_146 rfl rfl rfl ?_
          rw [hv2]
          refine v_iast dX8_readsEvent_322 rfl (by omega) (by omega) ?_
          refine v_kill (ls' := [_, _, _, _, _, _, _]) 2 rfl ?_
          refine v_kill (ls' := [_, _, _, _, _, _, _]) 4 rfl ?_
          refine v_kill (ls' := [_, _, _, _, _, _, _]) 5 rfl ?_
          refine v_kill (ls' := [_, _, _, _, _, _, _]) 6 rfl ?_
          rw [em2]
          refine f323 _ _ a v 0 0 U_ ⟨g3.1.tr (fun o k q1 q2 => mset_off (by omega)), ⟨by rw [mset_off (by omega)]; exact g3.2.1.1, by rw [mset_off (by omega)]; exact g3.2.1.2⟩, fun x hx => by rw [mset_off (by omega)]; exact g3.2.2.1 x hx, by rw [mset_off (by omega)]; exact g3.2.2.2.1, by rw [mset_off (by omega)]; exact g3.2.2.2.2.2⟩ (by rw [mset_off (by omega)]; exact ea) (mset_same _ _ _ _) (by rw [mset_off (by omega)]; exact b4) ?_
          rw [key, if_neg (by omega)]
        · refine v_aload_n dX8_readsEvent_292 rfl rfl ?_
          refine v_getI dX8_readsEvent_293 fX8_146 rfl rfl rfl ?_
          rw [hv2]
          refine v_aload_n dX8_readsEvent_296 rfl rfl ?_
          refine v_getR dX8_readsEvent_297 fX8_50 rfl rfl rfl ?_
          refine v_iload dX8_readsEvent_300 rfl ?_
          refine v_iconst dX8_readsEvent_302 (by decide) ?_
          refine v_iadd dX8_readsEvent_303 (fun ha hb => by omega) ?_
          refine v_iald dX8_readsEvent_304 rfl (by omega) (by omega) ?_
          rw [em1, ea]
          refine v_icmp_ne (tgt := 310) dX8_readsEvent_305 (by decide) (fun hc_305 => ?_) (fun hc_305 => ?_)
          · refine v_aload_n dX8_readsEvent_310 rfl rfl ?_
            refine v_getR dX8_readsEvent_311 fX8_50 rfl rfl rfl ?_
            refine v_iload dX8_readsEvent_314 rfl ?_
            refine v_iconst dX8_readsEvent_316 (by decide) ?_
            refine v_iadd dX8_readsEvent_317 (fun ha hb => by omega) ?_
            refine v_aload_n dX8_readsEvent_318 rfl rfl ?_
            refine v_getI dX8_readsEvent_319 fX8_146 rfl rfl rfl ?_
            rw [hv2]
            refine v_iast dX8_readsEvent_322 rfl (by omega) (by omega) ?_
            refine v_kill (ls' := [_, _, _, _, _, _, _]) 2 rfl ?_
            refine v_kill (ls' := [_, _, _, _, _, _, _]) 4 rfl ?_
            refine v_kill (ls' := [_, _, _, _, _, _, _]) 5 rfl ?_
            refine v_kill (ls' := [_, _, _, _, _, _, _]) 6 rfl ?_
            rw [em2]
            refine f323 _ _ a v 0 0 U_ ⟨g3.1.tr (fun o k q1 q2 => mset_off (by omega)), ⟨by rw [mset_off (by omega)]; exact g3.2.1.1, by rw [mset_off (by omega)]; exact g3.2.1.2⟩, fun x hx => by rw [mset_off (by omega)]; exact g3.2.2.1 x hx, by rw [mset_off (by omega)]; exact g3.2.2.2.1, by rw [mset_off (by omega)]; exact g3.2.2.2.2.2⟩ (by rw [mset_off (by omega)]; exact ea) (mset_same _ _ _ _) (by rw [mset_off (by omega)]; exact b4) ?_
            rw [key, if_neg (by omega)]
          · refine v_iconst dX8_readsEvent_308 (by decide) ?_
            refine v_zreturn dX8_readsEvent_309 rfl (by first | exact Or.inl rfl | exact Or.inr rfl | exact b2i_01 _ | assumption) ?_
            exact no m3 _ g3 b4 (by rw [key, if_pos (by omega)])
      have hexn : ∀ c, (expP tx n c j).2 ≠ none → (expP tx n c j).1 ≤ n := fun c q => by
        obtain ⟨u, hu⟩ := opt_s q
        exact (expP_le hu).2 (by simp)
      refine v_aload_n dX8_readsEvent_181 rfl rfl ?_
      refine v_getR dX8_readsEvent_182 fX8_50 rfl rfl rfl ?_
      refine v_iload dX8_readsEvent_185 rfl ?_
      refine v_iconst dX8_readsEvent_187 (by decide) ?_
      refine v_iadd dX8_readsEvent_188 (fun ha hb => by omega) ?_
      refine v_aload_n dX8_readsEvent_189 rfl rfl ?_
      refine v_getI dX8_readsEvent_190 fX8_146 rfl rfl rfl ?_
      rw [a3]
      refine v_iast dX8_readsEvent_193 rfl (by omega) (by omega) ?_
      rw [em1]
      refine v_iload_n dX8_readsEvent_194 rfl rfl ?_
      refine v_bipush dX8_readsEvent_195 (by decide) ?_
      refine v_icmp_eq (tgt := 323) dX8_readsEvent_197 (by decide) (fun hc_197 => ?_) (fun hc_197 => ?_)
      · refine v_kill (ls' := [_, _, _, _, _, _, _]) 2 rfl ?_
        refine v_kill (ls' := [_, _, _, _, _, _, _]) 4 rfl ?_
        refine v_kill (ls' := [_, _, _, _, _, _, _]) 5 rfl ?_
        refine v_kill (ls' := [_, _, _, _, _, _, _]) 6 rfl ?_
        refine f323 _ j a 0 0 0 U_ ⟨g1.1, g1.2.1, g1.2.2.1, g1.2.2.2.1, g1.2.2.2.2.2⟩ (mset_same _ _ _ _) g1.2.2.2.2.1 g15 ?_
        have := iy_6 hst a4 (by omega)
        rw [hk] at this
        exact this
      · refine v_iload_n dX8_readsEvent_200 rfl rfl ?_
        refine v_iconst dX8_readsEvent_201 (by decide) ?_
        refine v_icmp_eq (tgt := 210) dX8_readsEvent_202 (by decide) (fun hc_202 => ?_) (fun hc_202 => ?_)
        · refine v_iconst dX8_readsEvent_210 (by decide) ?_
          refine v_goto (tgt := 215) dX8_readsEvent_211 (by decide) ?_
          refine v_istore (ls' := [_, _, _, _, _, _, _]) dX8_readsEvent_215 rfl rfl rfl ?_
          refine v_aload_n dX8_readsEvent_217 rfl rfl ?_
          refine v_iload_n dX8_readsEvent_218 rfl rfl ?_
          refine v_iload dX8_readsEvent_219 rfl ?_
          refine v_if_eq (tgt := 229) dX8_readsEvent_221 (by decide) (fun q => absurd q (by decide)) (fun _ => ?_)
          refine v_bipush dX8_readsEvent_224 (by decide) ?_
          refine v_goto (tgt := 242) dX8_readsEvent_226 (by decide) ?_
          refine v_callVi [_, _] dX8_readsEvent_242 lX8_159 kvX8_sign (plX8 _ _) (Or.inr rfl) rfl rfl rfl rfl rfl rfl rfl rfl rfl (c_X8_sign (by omega) (g1.1.tm ht) g15 (by omega) (fun m2 b1 b2 => ?_))
          refine v_ifb_eq (tgt := 284) dX8_readsEvent_245 (by decide) (fun hc_245 => ?_) (fun hc_245 => ?_)
          · refine v_iconst dX8_readsEvent_284 (by decide) ?_
            refine v_zreturn dX8_readsEvent_285 rfl (by first | exact Or.inl rfl | exact Or.inr rfl | exact b2i_01 _ | assumption) ?_
            first
              | (exfalso; omega)
              | exact nB _ m2 (by omega) (by unfold joN; first | rw [if_pos (by omega)] | rw [if_neg (by omega), if_pos (by omega)] | rw [if_neg (by omega), if_neg (by omega)]) b1 b2 hc_245
              | (obtain ⟨u, hu⟩ := opt_s hc_245
                 have ejo : joN k = 64 ∨ joN k = 47 ∨ joN k = 62 := by unfold joN; (repeat' split) <;> simp
                 refine no m3 _ ((g1.fr b1).fr c1) c2 ?_
                 refine iy_C hst a4 (by omega) (u := u) (by
                   rw [hk]
                   first
                     | (rw [show joN k = 64 by unfold joN; rw [if_pos (by omega)]]; exact hu)
                     | (rw [show joN k = 47 by unfold joN; rw [if_neg (by omega), if_pos (by omega)]]; exact hu)
                     | (rw [show joN k = 62 by unfold joN; rw [if_neg (by omega), if_neg (by omega)]]; exact hu)) (by
                   rw [hk]
                   unfold bP
                   first
                     | (rw [if_pos (by omega)]; first | exact opt_n hc_264 | exact opt_n hc_281)
                     | (rw [if_neg (by omega)]; first | exact opt_n hc_264 | exact opt_n hc_281)))
          · refine v_iload dX8_readsEvent_248 rfl ?_
            refine v_if_eq (tgt := 270) dX8_readsEvent_250 (by decide) (fun q => absurd q (by decide)) (fun _ => ?_)
            refine v_aload_n dX8_readsEvent_253 rfl rfl ?_
            refine v_iload_n dX8_readsEvent_254 rfl rfl ?_
            refine v_aload_n dX8_readsEvent_255 rfl rfl ?_
            refine v_getI dX8_readsEvent_256 fX8_180 rfl rfl rfl ?_
            rw [n10 _ b1]
            refine v_iconst dX8_readsEvent_259 (by decide) ?_
            refine v_isub dX8_readsEvent_260 (fun ha hb => by omega) ?_
            refine v_callVi [_, _] dX8_readsEvent_261 lX8_162 kvX8_figure (plX8 _ _) (Or.inr rfl) rfl rfl rfl rfl rfl rfl rfl rfl rfl (c_X8_figure (by omega) ((b1.tm (g1.1.tm ht))) b2 (by have := hexn _ hc_245; omega) (fun m3 c1 c2 c3 => ?_))
            rw [show μ 50 10 - 1 + 1 = μ 50 10 by omega] at c2 c3 ⊢
            refine v_ifb_eq (tgt := 284) dX8_readsEvent_264 (by decide) (fun hc_264 => ?_) (fun hc_264 => ?_)
            · refine v_iconst dX8_readsEvent_284 (by decide) ?_
              refine v_zreturn dX8_readsEvent_285 rfl (by first | exact Or.inl rfl | exact Or.inr rfl | exact b2i_01 _ | assumption) ?_
              first
                | (exfalso; omega)
                | exact nB _ m2 (by omega) (by unfold joN; first | rw [if_pos (by omega)] | rw [if_neg (by omega), if_pos (by omega)] | rw [if_neg (by omega), if_neg (by omega)]) b1 b2 hc_245
                | (obtain ⟨u, hu⟩ := opt_s hc_245
                   have ejo : joN k = 64 ∨ joN k = 47 ∨ joN k = 62 := by unfold joN; (repeat' split) <;> simp
                   refine no m3 _ ((g1.fr b1).fr c1) c2 ?_
                   refine iy_C hst a4 (by omega) (u := u) (by
                     rw [hk]
                     first
                       | (rw [show joN k = 64 by unfold joN; rw [if_pos (by omega)]]; exact hu)
                       | (rw [show joN k = 47 by unfold joN; rw [if_neg (by omega), if_pos (by omega)]]; exact hu)
                       | (rw [show joN k = 62 by unfold joN; rw [if_neg (by omega), if_neg (by omega)]]; exact hu)) (by
                     rw [hk]
                     unfold bP
                     first
                       | (rw [if_pos (by omega)]; first | exact opt_n hc_264 | exact opt_n hc_281)
                       | (rw [if_neg (by omega)]; first | exact opt_n hc_264 | exact opt_n hc_281)))
            · refine v_goto (tgt := 286) dX8_readsEvent_267 (by decide) ?_
              refine v_kill (ls' := [_, _, _, _, _, _, _]) 2 rfl ?_
              refine v_kill (ls' := [_, _, _, _, _, _, _]) 5 rfl ?_
              refine v_kill (ls' := [_, _, _, _, _, _, _]) 6 rfl ?_
              first
                | (exfalso; omega)
                | exact f286 _ m2 m3 0 (by omega) (by unfold joN; first | rw [if_pos (by omega)] | rw [if_neg (by omega), if_pos (by omega)] | rw [if_neg (by omega), if_neg (by omega)]) b1 hc_245 c1 (by unfold bP; first | (rw [if_pos (by omega)]; exact c2) | (rw [if_neg (by omega)]; exact c2)) (by unfold bP; first | (rw [if_pos (by omega)]; exact c3) | (rw [if_neg (by omega)]; exact c3)) (by unfold bP; first | (rw [if_pos (by omega)]; first | exact hc_264 | exact hc_281) | (rw [if_neg (by omega)]; first | exact hc_264 | exact hc_281))
        · refine v_iload_n dX8_readsEvent_205 rfl rfl ?_
          refine v_iconst dX8_readsEvent_206 (by decide) ?_
          refine v_icmp_ne (tgt := 214) dX8_readsEvent_207 (by decide) (fun hc_207 => ?_) (fun hc_207 => ?_)
          · refine v_iconst dX8_readsEvent_214 (by decide) ?_
            refine v_istore (ls' := [_, _, _, _, _, _, _]) dX8_readsEvent_215 rfl rfl rfl ?_
            refine v_aload_n dX8_readsEvent_217 rfl rfl ?_
            refine v_iload_n dX8_readsEvent_218 rfl rfl ?_
            refine v_iload dX8_readsEvent_219 rfl ?_
            refine v_if_eq (tgt := 229) dX8_readsEvent_221 (by decide) (fun _ => ?_) (fun q => absurd (by decide) q)
            refine v_iload_n dX8_readsEvent_229 rfl rfl ?_
            refine v_bipush dX8_readsEvent_230 (by decide) ?_
            refine v_icmp_ne (tgt := 240) dX8_readsEvent_232 (by decide) (fun hc_232 => ?_) (fun hc_232 => ?_)
            · refine v_bipush dX8_readsEvent_240 (by decide) ?_
              refine v_callVi [_, _] dX8_readsEvent_242 lX8_159 kvX8_sign (plX8 _ _) (Or.inr rfl) rfl rfl rfl rfl rfl rfl rfl rfl rfl (c_X8_sign (by omega) (g1.1.tm ht) g15 (by omega) (fun m2 b1 b2 => ?_))
              refine v_ifb_eq (tgt := 284) dX8_readsEvent_245 (by decide) (fun hc_245 => ?_) (fun hc_245 => ?_)
              · refine v_iconst dX8_readsEvent_284 (by decide) ?_
                refine v_zreturn dX8_readsEvent_285 rfl (by first | exact Or.inl rfl | exact Or.inr rfl | exact b2i_01 _ | assumption) ?_
                first
                  | (exfalso; omega)
                  | exact nB _ m2 (by omega) (by unfold joN; first | rw [if_pos (by omega)] | rw [if_neg (by omega), if_pos (by omega)] | rw [if_neg (by omega), if_neg (by omega)]) b1 b2 hc_245
                  | (obtain ⟨u, hu⟩ := opt_s hc_245
                     have ejo : joN k = 64 ∨ joN k = 47 ∨ joN k = 62 := by unfold joN; (repeat' split) <;> simp
                     refine no m3 _ ((g1.fr b1).fr c1) c2 ?_
                     refine iy_C hst a4 (by omega) (u := u) (by
                       rw [hk]
                       first
                         | (rw [show joN k = 64 by unfold joN; rw [if_pos (by omega)]]; exact hu)
                         | (rw [show joN k = 47 by unfold joN; rw [if_neg (by omega), if_pos (by omega)]]; exact hu)
                         | (rw [show joN k = 62 by unfold joN; rw [if_neg (by omega), if_neg (by omega)]]; exact hu)) (by
                       rw [hk]
                       unfold bP
                       first
                         | (rw [if_pos (by omega)]; first | exact opt_n hc_264 | exact opt_n hc_281)
                         | (rw [if_neg (by omega)]; first | exact opt_n hc_264 | exact opt_n hc_281)))
              · refine v_iload dX8_readsEvent_248 rfl ?_
                refine v_if_eq (tgt := 270) dX8_readsEvent_250 (by decide) (fun _ => ?_) (fun q => absurd (by decide) q)
                refine v_aload_n dX8_readsEvent_270 rfl rfl ?_
                refine v_iload_n dX8_readsEvent_271 rfl rfl ?_
                refine v_aload_n dX8_readsEvent_272 rfl rfl ?_
                refine v_getI dX8_readsEvent_273 fX8_183 rfl rfl rfl ?_
                rw [n11 _ b1]
                refine v_iconst dX8_readsEvent_276 (by decide) ?_
                refine v_isub dX8_readsEvent_277 (fun ha hb => by omega) ?_
                refine v_callVi [_, _] dX8_readsEvent_278 lX8_152 kvX8_number (plX8 _ _) (Or.inr rfl) rfl rfl rfl rfl rfl rfl rfl rfl rfl (c_X8_number (by omega) ((b1.tm (g1.1.tm ht))) b2 (by have := hexn _ hc_245; omega) (fun m3 c1 c2 c3 => ?_))
                rw [show μ 50 11 - 1 + 1 = μ 50 11 by omega] at c2 c3 ⊢
                refine v_ifb_ne (tgt := 286) dX8_readsEvent_281 (by decide) (fun hc_281 => ?_) (fun hc_281 => ?_)
                · refine v_kill (ls' := [_, _, _, _, _, _, _]) 2 rfl ?_
                  refine v_kill (ls' := [_, _, _, _, _, _, _]) 5 rfl ?_
                  refine v_kill (ls' := [_, _, _, _, _, _, _]) 6 rfl ?_
                  first
                    | (exfalso; omega)
                    | exact f286 _ m2 m3 0 (by omega) (by unfold joN; first | rw [if_pos (by omega)] | rw [if_neg (by omega), if_pos (by omega)] | rw [if_neg (by omega), if_neg (by omega)]) b1 hc_245 c1 (by unfold bP; first | (rw [if_pos (by omega)]; exact c2) | (rw [if_neg (by omega)]; exact c2)) (by unfold bP; first | (rw [if_pos (by omega)]; exact c3) | (rw [if_neg (by omega)]; exact c3)) (by unfold bP; first | (rw [if_pos (by omega)]; first | exact hc_264 | exact hc_281) | (rw [if_neg (by omega)]; first | exact hc_264 | exact hc_281))
                · refine v_iconst dX8_readsEvent_284 (by decide) ?_
                  refine v_zreturn dX8_readsEvent_285 rfl (by first | exact Or.inl rfl | exact Or.inr rfl | exact b2i_01 _ | assumption) ?_
                  first
                    | (exfalso; omega)
                    | exact nB _ m2 (by omega) (by unfold joN; first | rw [if_pos (by omega)] | rw [if_neg (by omega), if_pos (by omega)] | rw [if_neg (by omega), if_neg (by omega)]) b1 b2 hc_245
                    | (obtain ⟨u, hu⟩ := opt_s hc_245
                       have ejo : joN k = 64 ∨ joN k = 47 ∨ joN k = 62 := by unfold joN; (repeat' split) <;> simp
                       refine no m3 _ ((g1.fr b1).fr c1) c2 ?_
                       refine iy_C hst a4 (by omega) (u := u) (by
                         rw [hk]
                         first
                           | (rw [show joN k = 64 by unfold joN; rw [if_pos (by omega)]]; exact hu)
                           | (rw [show joN k = 47 by unfold joN; rw [if_neg (by omega), if_pos (by omega)]]; exact hu)
                           | (rw [show joN k = 62 by unfold joN; rw [if_neg (by omega), if_neg (by omega)]]; exact hu)) (by
                         rw [hk]
                         unfold bP
                         first
                           | (rw [if_pos (by omega)]; first | exact opt_n hc_264 | exact opt_n hc_281)
                           | (rw [if_neg (by omega)]; first | exact opt_n hc_264 | exact opt_n hc_281)))
            · refine v_bipush dX8_readsEvent_235 (by decide) ?_
              refine v_goto (tgt := 242) dX8_readsEvent_237 (by decide) ?_
              refine v_callVi [_, _] dX8_readsEvent_242 lX8_159 kvX8_sign (plX8 _ _) (Or.inr rfl) rfl rfl rfl rfl rfl rfl rfl rfl rfl (c_X8_sign (by omega) (g1.1.tm ht) g15 (by omega) (fun m2 b1 b2 => ?_))
              refine v_ifb_eq (tgt := 284) dX8_readsEvent_245 (by decide) (fun hc_245 => ?_) (fun hc_245 => ?_)
              · refine v_iconst dX8_readsEvent_284 (by decide) ?_
                refine v_zreturn dX8_readsEvent_285 rfl (by first | exact Or.inl rfl | exact Or.inr rfl | exact b2i_01 _ | assumption) ?_
                first
                  | (exfalso; omega)
                  | exact nB _ m2 (by omega) (by unfold joN; first | rw [if_pos (by omega)] | rw [if_neg (by omega), if_pos (by omega)] | rw [if_neg (by omega), if_neg (by omega)]) b1 b2 hc_245
                  | (obtain ⟨u, hu⟩ := opt_s hc_245
                     have ejo : joN k = 64 ∨ joN k = 47 ∨ joN k = 62 := by unfold joN; (repeat' split) <;> simp
                     refine no m3 _ ((g1.fr b1).fr c1) c2 ?_
                     refine iy_C hst a4 (by omega) (u := u) (by
                       rw [hk]
                       first
                         | (rw [show joN k = 64 by unfold joN; rw [if_pos (by omega)]]; exact hu)
                         | (rw [show joN k = 47 by unfold joN; rw [if_neg (by omega), if_pos (by omega)]]; exact hu)
                         | (rw [show joN k = 62 by unfold joN; rw [if_neg (by omega), if_neg (by omega)]]; exact hu)) (by
                       rw [hk]
                       unfold bP
                       first
                         | (rw [if_pos (by omega)]; first | exact opt_n hc_264 | exact opt_n hc_281)
                         | (rw [if_neg (by omega)]; first | exact opt_n hc_264 | exact opt_n hc_281)))
              · refine v_iload dX8_readsEvent_248 rfl ?_
                refine v_if_eq (tgt := 270) dX8_readsEvent_250 (by decide) (fun _ => ?_) (fun q => absurd (by decide) q)
                refine v_aload_n dX8_readsEvent_270 rfl rfl ?_
                refine v_iload_n dX8_readsEvent_271 rfl rfl ?_
                refine v_aload_n dX8_readsEvent_272 rfl rfl ?_
                refine v_getI dX8_readsEvent_273 fX8_183 rfl rfl rfl ?_
                rw [n11 _ b1]
                refine v_iconst dX8_readsEvent_276 (by decide) ?_
                refine v_isub dX8_readsEvent_277 (fun ha hb => by omega) ?_
                refine v_callVi [_, _] dX8_readsEvent_278 lX8_152 kvX8_number (plX8 _ _) (Or.inr rfl) rfl rfl rfl rfl rfl rfl rfl rfl rfl (c_X8_number (by omega) ((b1.tm (g1.1.tm ht))) b2 (by have := hexn _ hc_245; omega) (fun m3 c1 c2 c3 => ?_))
                rw [show μ 50 11 - 1 + 1 = μ 50 11 by omega] at c2 c3 ⊢
                refine v_ifb_ne (tgt := 286) dX8_readsEvent_281 (by decide) (fun hc_281 => ?_) (fun hc_281 => ?_)
                · refine v_kill (ls' := [_, _, _, _, _, _, _]) 2 rfl ?_
                  refine v_kill (ls' := [_, _, _, _, _, _, _]) 5 rfl ?_
                  refine v_kill (ls' := [_, _, _, _, _, _, _]) 6 rfl ?_
                  first
                    | (exfalso; omega)
                    | exact f286 _ m2 m3 0 (by omega) (by unfold joN; first | rw [if_pos (by omega)] | rw [if_neg (by omega), if_pos (by omega)] | rw [if_neg (by omega), if_neg (by omega)]) b1 hc_245 c1 (by unfold bP; first | (rw [if_pos (by omega)]; exact c2) | (rw [if_neg (by omega)]; exact c2)) (by unfold bP; first | (rw [if_pos (by omega)]; exact c3) | (rw [if_neg (by omega)]; exact c3)) (by unfold bP; first | (rw [if_pos (by omega)]; first | exact hc_264 | exact hc_281) | (rw [if_neg (by omega)]; first | exact hc_264 | exact hc_281))
                · refine v_iconst dX8_readsEvent_284 (by decide) ?_
                  refine v_zreturn dX8_readsEvent_285 rfl (by first | exact Or.inl rfl | exact Or.inr rfl | exact b2i_01 _ | assumption) ?_
                  first
                    | (exfalso; omega)
                    | exact nB _ m2 (by omega) (by unfold joN; first | rw [if_pos (by omega)] | rw [if_neg (by omega), if_pos (by omega)] | rw [if_neg (by omega), if_neg (by omega)]) b1 b2 hc_245
                    | (obtain ⟨u, hu⟩ := opt_s hc_245
                       have ejo : joN k = 64 ∨ joN k = 47 ∨ joN k = 62 := by unfold joN; (repeat' split) <;> simp
                       refine no m3 _ ((g1.fr b1).fr c1) c2 ?_
                       refine iy_C hst a4 (by omega) (u := u) (by
                         rw [hk]
                         first
                           | (rw [show joN k = 64 by unfold joN; rw [if_pos (by omega)]]; exact hu)
                           | (rw [show joN k = 47 by unfold joN; rw [if_neg (by omega), if_pos (by omega)]]; exact hu)
                           | (rw [show joN k = 62 by unfold joN; rw [if_neg (by omega), if_neg (by omega)]]; exact hu)) (by
                         rw [hk]
                         unfold bP
                         first
                           | (rw [if_pos (by omega)]; first | exact opt_n hc_264 | exact opt_n hc_281)
                           | (rw [if_neg (by omega)]; first | exact opt_n hc_264 | exact opt_n hc_281)))
          · refine v_iconst dX8_readsEvent_210 (by decide) ?_
            refine v_goto (tgt := 215) dX8_readsEvent_211 (by decide) ?_
            refine v_istore (ls' := [_, _, _, _, _, _, _]) dX8_readsEvent_215 rfl rfl rfl ?_
            refine v_aload_n dX8_readsEvent_217 rfl rfl ?_
            refine v_iload_n dX8_readsEvent_218 rfl rfl ?_
            refine v_iload dX8_readsEvent_219 rfl ?_
            refine v_if_eq (tgt := 229) dX8_readsEvent_221 (by decide) (fun q => absurd q (by decide)) (fun _ => ?_)
            refine v_bipush dX8_readsEvent_224 (by decide) ?_
            refine v_goto (tgt := 242) dX8_readsEvent_226 (by decide) ?_
            refine v_callVi [_, _] dX8_readsEvent_242 lX8_159 kvX8_sign (plX8 _ _) (Or.inr rfl) rfl rfl rfl rfl rfl rfl rfl rfl rfl (c_X8_sign (by omega) (g1.1.tm ht) g15 (by omega) (fun m2 b1 b2 => ?_))
            refine v_ifb_eq (tgt := 284) dX8_readsEvent_245 (by decide) (fun hc_245 => ?_) (fun hc_245 => ?_)
            · refine v_iconst dX8_readsEvent_284 (by decide) ?_
              refine v_zreturn dX8_readsEvent_285 rfl (by first | exact Or.inl rfl | exact Or.inr rfl | exact b2i_01 _ | assumption) ?_
              first
                | (exfalso; omega)
                | exact nB _ m2 (by omega) (by unfold joN; first | rw [if_pos (by omega)] | rw [if_neg (by omega), if_pos (by omega)] | rw [if_neg (by omega), if_neg (by omega)]) b1 b2 hc_245
                | (obtain ⟨u, hu⟩ := opt_s hc_245
                   have ejo : joN k = 64 ∨ joN k = 47 ∨ joN k = 62 := by unfold joN; (repeat' split) <;> simp
                   refine no m3 _ ((g1.fr b1).fr c1) c2 ?_
                   refine iy_C hst a4 (by omega) (u := u) (by
                     rw [hk]
                     first
                       | (rw [show joN k = 64 by unfold joN; rw [if_pos (by omega)]]; exact hu)
                       | (rw [show joN k = 47 by unfold joN; rw [if_neg (by omega), if_pos (by omega)]]; exact hu)
                       | (rw [show joN k = 62 by unfold joN; rw [if_neg (by omega), if_neg (by omega)]]; exact hu)) (by
                     rw [hk]
                     unfold bP
                     first
                       | (rw [if_pos (by omega)]; first | exact opt_n hc_264 | exact opt_n hc_281)
                       | (rw [if_neg (by omega)]; first | exact opt_n hc_264 | exact opt_n hc_281)))
            · refine v_iload dX8_readsEvent_248 rfl ?_
              refine v_if_eq (tgt := 270) dX8_readsEvent_250 (by decide) (fun q => absurd q (by decide)) (fun _ => ?_)
              refine v_aload_n dX8_readsEvent_253 rfl rfl ?_
              refine v_iload_n dX8_readsEvent_254 rfl rfl ?_
              refine v_aload_n dX8_readsEvent_255 rfl rfl ?_
              refine v_getI dX8_readsEvent_256 fX8_180 rfl rfl rfl ?_
              rw [n10 _ b1]
              refine v_iconst dX8_readsEvent_259 (by decide) ?_
              refine v_isub dX8_readsEvent_260 (fun ha hb => by omega) ?_
              refine v_callVi [_, _] dX8_readsEvent_261 lX8_162 kvX8_figure (plX8 _ _) (Or.inr rfl) rfl rfl rfl rfl rfl rfl rfl rfl rfl (c_X8_figure (by omega) ((b1.tm (g1.1.tm ht))) b2 (by have := hexn _ hc_245; omega) (fun m3 c1 c2 c3 => ?_))
              rw [show μ 50 10 - 1 + 1 = μ 50 10 by omega] at c2 c3 ⊢
              refine v_ifb_eq (tgt := 284) dX8_readsEvent_264 (by decide) (fun hc_264 => ?_) (fun hc_264 => ?_)
              · refine v_iconst dX8_readsEvent_284 (by decide) ?_
                refine v_zreturn dX8_readsEvent_285 rfl (by first | exact Or.inl rfl | exact Or.inr rfl | exact b2i_01 _ | assumption) ?_
                first
                  | (exfalso; omega)
                  | exact nB _ m2 (by omega) (by unfold joN; first | rw [if_pos (by omega)] | rw [if_neg (by omega), if_pos (by omega)] | rw [if_neg (by omega), if_neg (by omega)]) b1 b2 hc_245
                  | (obtain ⟨u, hu⟩ := opt_s hc_245
                     have ejo : joN k = 64 ∨ joN k = 47 ∨ joN k = 62 := by unfold joN; (repeat' split) <;> simp
                     refine no m3 _ ((g1.fr b1).fr c1) c2 ?_
                     refine iy_C hst a4 (by omega) (u := u) (by
                       rw [hk]
                       first
                         | (rw [show joN k = 64 by unfold joN; rw [if_pos (by omega)]]; exact hu)
                         | (rw [show joN k = 47 by unfold joN; rw [if_neg (by omega), if_pos (by omega)]]; exact hu)
                         | (rw [show joN k = 62 by unfold joN; rw [if_neg (by omega), if_neg (by omega)]]; exact hu)) (by
                       rw [hk]
                       unfold bP
                       first
                         | (rw [if_pos (by omega)]; first | exact opt_n hc_264 | exact opt_n hc_281)
                         | (rw [if_neg (by omega)]; first | exact opt_n hc_264 | exact opt_n hc_281)))
              · refine v_goto (tgt := 286) dX8_readsEvent_267 (by decide) ?_
                refine v_kill (ls' := [_, _, _, _, _, _, _]) 2 rfl ?_
                refine v_kill (ls' := [_, _, _, _, _, _, _]) 5 rfl ?_
                refine v_kill (ls' := [_, _, _, _, _, _, _]) 6 rfl ?_
                first
                  | (exfalso; omega)
                  | exact f286 _ m2 m3 0 (by omega) (by unfold joN; first | rw [if_pos (by omega)] | rw [if_neg (by omega), if_pos (by omega)] | rw [if_neg (by omega), if_neg (by omega)]) b1 hc_245 c1 (by unfold bP; first | (rw [if_pos (by omega)]; exact c2) | (rw [if_neg (by omega)]; exact c2)) (by unfold bP; first | (rw [if_pos (by omega)]; exact c3) | (rw [if_neg (by omega)]; exact c3)) (by unfold bP; first | (rw [if_pos (by omega)]; first | exact hc_264 | exact hc_281) | (rw [if_neg (by omega)]; first | exact hc_264 | exact hc_281))
    have f110 : ∀ m : Mem_, hlf μ m E s.2 k (chN k (tx i)) → m 50 15 = ((i + 1 : Nat) : Int) → V_ nX8_readsEvent 110 [R_ 50, I_ t, U_, I_ k, I_ (4 * (E : Int)), U_, U_] [] m Q := by
      intro m a1 a2
      have n10 : m 50 10 = μ 50 10 := a1.1 50 10 (by omega) (by omega)
      have n11 : m 50 11 = μ 50 11 := a1.1 50 11 (by omega) (by omega)
      have n25 := a1.2.1.2
      have eA1 : (k = 1 ∨ k = 6) → evA tx n (μ 50 10) (μ 50 11) s.2 k (i + 1) = figP tx n (μ 50 10) (i + 1) := fun q => by unfold evA; rw [if_pos q]
      have eA2 : k = 7 → evA tx n (μ 50 10) (μ 50 11) s.2 k (i + 1) = numP tx n (μ 50 11) (i + 1) := fun q => by unfold evA; rw [if_neg (by omega), if_pos q]
      have eA3 : ¬ (k = 1 ∨ k = 6) → k ≠ 7 → evA tx n (μ 50 10) (μ 50 11) s.2 k (i + 1) = numP tx n s.2 (i + 1) := fun q q2 => by unfold evA; rw [if_neg q, if_neg q2]
      have goF : ∀ (X : Nat × Option Int) (m2 : Mem_), evA tx n (μ 50 10) (μ 50 11) s.2 k (i + 1) = X → (∀ j v, X = (j, some v) → j ≤ n) → frR m m2 → m2 50 15 = (X.1 : Int) → (∀ v, X.2 = some v → m2 50 16 = v) → X.2 ≠ none → V_ nX8_readsEvent 181 [R_ 50, I_ t, U_, I_ k, I_ (4 * (E : Int)), U_, U_] [] m2 Q := by
        intro X m2 b1 bn b2 b3 b4 b5
        obtain ⟨v, hv⟩ := opt_s b5
        exact f181 m2 X.1 v (bn _ _ hv) (a1.fr b2) b3 (b4 v (by rw [hv])) (by rw [b1]; exact hv)
      have noF : ∀ (X : Nat × Option Int) (m2 : Mem_), evA tx n (μ 50 10) (μ 50 11) s.2 k (i + 1) = X → frR m m2 → m2 50 15 = (X.1 : Int) → ¬ X.2 ≠ none → Q (I_ 0) m2 := by
        intro X m2 b1 b2 b3 b5
        exact no m2 _ (a1.fr b2) b3 (iy_A hst (by rw [hk, b1]; exact opt_n b5))
      refine v_iload_n dX8_readsEvent_110 rfl rfl ?_
      refine v_iconst dX8_readsEvent_111 (by decide) ?_
      refine v_icmp_eq (tgt := 121) dX8_readsEvent_112 (by decide) (fun hc_112 => ?_) (fun hc_112 => ?_)
      · refine v_iconst dX8_readsEvent_121 (by decide) ?_
        refine v_goto (tgt := 126) dX8_readsEvent_122 (by decide) ?_
        refine v_istore (ls' := [_, _, _, _, _, _, _]) dX8_readsEvent_126 rfl rfl rfl ?_
        refine v_iload dX8_readsEvent_128 rfl ?_
        refine v_if_eq (tgt := 150) dX8_readsEvent_130 (by decide) (fun q => absurd q (by decide)) (fun _ => ?_)
        refine v_aload_n dX8_readsEvent_133 rfl rfl ?_
        refine v_iload_n dX8_readsEvent_134 rfl rfl ?_
        refine v_aload_n dX8_readsEvent_135 rfl rfl ?_
        refine v_getI dX8_readsEvent_136 fX8_180 rfl rfl rfl ?_
        rw [n10]
        refine v_iconst dX8_readsEvent_139 (by decide) ?_
        refine v_isub dX8_readsEvent_140 (fun ha hb => by omega) ?_
        refine v_callVi [_, _] dX8_readsEvent_141 lX8_162 kvX8_figure (plX8 _ _) (Or.inr rfl) rfl rfl rfl rfl rfl rfl rfl rfl rfl (c_X8_figure (by omega) (a1.1.tm ht) a2 (by omega) (fun m2 b1 b2 b3 => ?_))
        rw [show μ 50 10 - 1 + 1 = μ 50 10 by omega] at b2 b3 ⊢
        refine v_ifb_eq (tgt := 179) dX8_readsEvent_144 (by decide) (fun hc_144 => ?_) (fun hc_144 => ?_)
        · refine v_iconst dX8_readsEvent_179 (by decide) ?_
          refine v_zreturn dX8_readsEvent_180 rfl (by first | exact Or.inl rfl | exact Or.inr rfl | exact b2i_01 _ | assumption) ?_
          first
            | (exfalso; omega)
            | exact noF _ m2 (eA1 (by omega)) b1 b2 hc_144
            | exact noF _ m2 (eA2 (by omega)) b1 b2 hc_176
            | exact noF _ m2 (eA3 (by omega) (by omega)) b1 b2 hc_176
        · refine v_goto (tgt := 181) dX8_readsEvent_147 (by decide) ?_
          refine v_kill (ls' := [_, _, _, _, _, _, _]) 2 rfl ?_
          refine v_kill (ls' := [_, _, _, _, _, _, _]) 5 rfl ?_
          refine v_kill (ls' := [_, _, _, _, _, _, _]) 6 rfl ?_
          first
            | (exfalso; omega)
            | exact goF _ m2 (eA1 (by omega)) (fun j v q => figP_n q) b1 b2 b3 hc_144
            | exact goF _ m2 (eA2 (by omega)) (fun j v q => numP_n q) b1 b2 b3 hc_176
            | exact goF _ m2 (eA3 (by omega) (by omega)) (fun j v q => numP_n q) b1 b2 b3 hc_176
      · refine v_iload_n dX8_readsEvent_115 rfl rfl ?_
        refine v_bipush dX8_readsEvent_116 (by decide) ?_
        refine v_icmp_ne (tgt := 125) dX8_readsEvent_118 (by decide) (fun hc_118 => ?_) (fun hc_118 => ?_)
        · refine v_iconst dX8_readsEvent_125 (by decide) ?_
          refine v_istore (ls' := [_, _, _, _, _, _, _]) dX8_readsEvent_126 rfl rfl rfl ?_
          refine v_iload dX8_readsEvent_128 rfl ?_
          refine v_if_eq (tgt := 150) dX8_readsEvent_130 (by decide) (fun _ => ?_) (fun q => absurd (by decide) q)
          refine v_aload_n dX8_readsEvent_150 rfl rfl ?_
          refine v_iload_n dX8_readsEvent_151 rfl rfl ?_
          refine v_iload_n dX8_readsEvent_152 rfl rfl ?_
          refine v_bipush dX8_readsEvent_153 (by decide) ?_
          refine v_icmp_ne (tgt := 167) dX8_readsEvent_155 (by decide) (fun hc_155 => ?_) (fun hc_155 => ?_)
          · refine v_aload_n dX8_readsEvent_167 rfl rfl ?_
            refine v_getI dX8_readsEvent_168 fX8_177 rfl rfl rfl ?_
            rw [n25]
            refine v_iconst dX8_readsEvent_171 (by decide) ?_
            refine v_isub dX8_readsEvent_172 (fun ha hb => by omega) ?_
            refine v_callVi [_, _] dX8_readsEvent_173 lX8_152 kvX8_number (plX8 _ _) (Or.inr rfl) rfl rfl rfl rfl rfl rfl rfl rfl rfl (c_X8_number (by omega) (a1.1.tm ht) a2 (by omega) (fun m2 b1 b2 b3 => ?_))
            first | rw [show μ 50 11 - 1 + 1 = μ 50 11 by omega] at b2 b3 ⊢ | rw [show s.2 - 1 + 1 = s.2 by omega] at b2 b3 ⊢
            refine v_ifb_ne (tgt := 181) dX8_readsEvent_176 (by decide) (fun hc_176 => ?_) (fun hc_176 => ?_)
            · refine v_kill (ls' := [_, _, _, _, _, _, _]) 2 rfl ?_
              refine v_kill (ls' := [_, _, _, _, _, _, _]) 5 rfl ?_
              refine v_kill (ls' := [_, _, _, _, _, _, _]) 6 rfl ?_
              first
                | (exfalso; omega)
                | exact goF _ m2 (eA1 (by omega)) (fun j v q => figP_n q) b1 b2 b3 hc_144
                | exact goF _ m2 (eA2 (by omega)) (fun j v q => numP_n q) b1 b2 b3 hc_176
                | exact goF _ m2 (eA3 (by omega) (by omega)) (fun j v q => numP_n q) b1 b2 b3 hc_176
            · refine v_iconst dX8_readsEvent_179 (by decide) ?_
              refine v_zreturn dX8_readsEvent_180 rfl (by first | exact Or.inl rfl | exact Or.inr rfl | exact b2i_01 _ | assumption) ?_
              first
                | (exfalso; omega)
                | exact noF _ m2 (eA1 (by omega)) b1 b2 hc_144
                | exact noF _ m2 (eA2 (by omega)) b1 b2 hc_176
                | exact noF _ m2 (eA3 (by omega) (by omega)) b1 b2 hc_176
          · refine v_aload_n dX8_readsEvent_158 rfl rfl ?_
            refine v_getI dX8_readsEvent_159 fX8_183 rfl rfl rfl ?_
            rw [n11]
            refine v_iconst dX8_readsEvent_162 (by decide) ?_
            refine v_isub dX8_readsEvent_163 (fun ha hb => by omega) ?_
            refine v_goto (tgt := 173) dX8_readsEvent_164 (by decide) ?_
            refine v_callVi [_, _] dX8_readsEvent_173 lX8_152 kvX8_number (plX8 _ _) (Or.inr rfl) rfl rfl rfl rfl rfl rfl rfl rfl rfl (c_X8_number (by omega) (a1.1.tm ht) a2 (by omega) (fun m2 b1 b2 b3 => ?_))
            first | rw [show μ 50 11 - 1 + 1 = μ 50 11 by omega] at b2 b3 ⊢ | rw [show s.2 - 1 + 1 = s.2 by omega] at b2 b3 ⊢
            refine v_ifb_ne (tgt := 181) dX8_readsEvent_176 (by decide) (fun hc_176 => ?_) (fun hc_176 => ?_)
            · refine v_kill (ls' := [_, _, _, _, _, _, _]) 2 rfl ?_
              refine v_kill (ls' := [_, _, _, _, _, _, _]) 5 rfl ?_
              refine v_kill (ls' := [_, _, _, _, _, _, _]) 6 rfl ?_
              first
                | (exfalso; omega)
                | exact goF _ m2 (eA1 (by omega)) (fun j v q => figP_n q) b1 b2 b3 hc_144
                | exact goF _ m2 (eA2 (by omega)) (fun j v q => numP_n q) b1 b2 b3 hc_176
                | exact goF _ m2 (eA3 (by omega) (by omega)) (fun j v q => numP_n q) b1 b2 b3 hc_176
            · refine v_iconst dX8_readsEvent_179 (by decide) ?_
              refine v_zreturn dX8_readsEvent_180 rfl (by first | exact Or.inl rfl | exact Or.inr rfl | exact b2i_01 _ | assumption) ?_
              first
                | (exfalso; omega)
                | exact noF _ m2 (eA1 (by omega)) b1 b2 hc_144
                | exact noF _ m2 (eA2 (by omega)) b1 b2 hc_176
                | exact noF _ m2 (eA3 (by omega) (by omega)) b1 b2 hc_176
        · refine v_iconst dX8_readsEvent_121 (by decide) ?_
          refine v_goto (tgt := 126) dX8_readsEvent_122 (by decide) ?_
          refine v_istore (ls' := [_, _, _, _, _, _, _]) dX8_readsEvent_126 rfl rfl rfl ?_
          refine v_iload dX8_readsEvent_128 rfl ?_
          refine v_if_eq (tgt := 150) dX8_readsEvent_130 (by decide) (fun q => absurd q (by decide)) (fun _ => ?_)
          refine v_aload_n dX8_readsEvent_133 rfl rfl ?_
          refine v_iload_n dX8_readsEvent_134 rfl rfl ?_
          refine v_aload_n dX8_readsEvent_135 rfl rfl ?_
          refine v_getI dX8_readsEvent_136 fX8_180 rfl rfl rfl ?_
          rw [n10]
          refine v_iconst dX8_readsEvent_139 (by decide) ?_
          refine v_isub dX8_readsEvent_140 (fun ha hb => by omega) ?_
          refine v_callVi [_, _] dX8_readsEvent_141 lX8_162 kvX8_figure (plX8 _ _) (Or.inr rfl) rfl rfl rfl rfl rfl rfl rfl rfl rfl (c_X8_figure (by omega) (a1.1.tm ht) a2 (by omega) (fun m2 b1 b2 b3 => ?_))
          rw [show μ 50 10 - 1 + 1 = μ 50 10 by omega] at b2 b3 ⊢
          refine v_ifb_eq (tgt := 179) dX8_readsEvent_144 (by decide) (fun hc_144 => ?_) (fun hc_144 => ?_)
          · refine v_iconst dX8_readsEvent_179 (by decide) ?_
            refine v_zreturn dX8_readsEvent_180 rfl (by first | exact Or.inl rfl | exact Or.inr rfl | exact b2i_01 _ | assumption) ?_
            first
              | (exfalso; omega)
              | exact noF _ m2 (eA1 (by omega)) b1 b2 hc_144
              | exact noF _ m2 (eA2 (by omega)) b1 b2 hc_176
              | exact noF _ m2 (eA3 (by omega) (by omega)) b1 b2 hc_176
          · refine v_goto (tgt := 181) dX8_readsEvent_147 (by decide) ?_
            refine v_kill (ls' := [_, _, _, _, _, _, _]) 2 rfl ?_
            refine v_kill (ls' := [_, _, _, _, _, _, _]) 5 rfl ?_
            refine v_kill (ls' := [_, _, _, _, _, _, _]) 6 rfl ?_
            first
              | (exfalso; omega)
              | exact goF _ m2 (eA1 (by omega)) (fun j v q => figP_n q) b1 b2 b3 hc_144
              | exact goF _ m2 (eA2 (by omega)) (fun j v q => numP_n q) b1 b2 b3 hc_176
              | exact goF _ m2 (eA3 (by omega) (by omega)) (fun j v q => numP_n q) b1 b2 b3 hc_176
    have h44 : ∀ c : Int, c = chN k (tx i) → hlf μ (mset (mset (mset (mset μ 50 15 ((i : Int) + 1)) 64 (4 * E) k) 64 (4 * E + 2) 0) 64 (4 * E + 3) c) E s.2 k (chN k (tx i)) ∧ mset (mset (mset (mset μ 50 15 ((i : Int) + 1)) 64 (4 * E) k) 64 (4 * E + 2) 0) 64 (4 * E + 3) c 50 15 = ((i + 1 : Nat) : Int) := by
      intro c hcc
      refine ⟨⟨fun o k q1 q2 => by rw [mset_off (by omega), mset_off (by omega), mset_off (by omega), mset_off (by omega)], ⟨?_, ?_⟩, fun x hx => ?_, ?_, ?_, ?_⟩, ?_⟩
      · rw [mset_off (by omega), mset_off (by omega), mset_off (by omega), mset_off (by omega), d1, hE]
      · rw [mset_off (by omega), mset_off (by omega), mset_off (by omega), mset_off (by omega), d2]
      · rw [mset_off (by omega), mset_off (by omega), mset_off (by omega), mset_off (by omega)]
      · rw [mset_off (by omega), mset_off (by omega), mset_same]
      · rw [mset_off (by omega), mset_same]
      · rw [mset_same, hcc]
      · rw [mset_off (by omega), mset_off (by omega), mset_off (by omega), mset_same]; omega
    have e4E : (4 * (E : Int)).toNat = 4 * E := by omega
    have e4E2 : (4 * (E : Int) + 2).toNat = 4 * E + 2 := by omega
    have e4E3 : (4 * (E : Int) + 3).toNat = 4 * E + 3 := by omega
    refine v_aload_n dX8_readsEvent_0 rfl rfl ?_
    refine v_iload_n dX8_readsEvent_1 rfl rfl ?_
    refine v_aload_n dX8_readsEvent_2 rfl rfl ?_
    refine v_getI dX8_readsEvent_3 fX8_140 rfl rfl rfl ?_
    rw [hi]
    refine v_callVi [_, _] dX8_readsEvent_6 lX8_143 kvX8_byteAt (plX8 _ _) (Or.inl rfl) rfl rfl rfl rfl rfl rfl rfl rfl rfl (c_X8_byteAt ht ?_)
    rw [if_pos hin]
    refine v_istore_n (ls' := [_, _, _, _, _, _, _]) dX8_readsEvent_9 rfl rfl rfl rfl ?_
    refine v_iload_n dX8_readsEvent_10 rfl rfl ?_
    refine v_callSi [_] dX8_readsEvent_11 lX8_171 ksX8_kindOf (plX8 _ _) (Or.inl rfl) rfl rfl rfl rfl rfl rfl (c_X8_kindOf ?_)
    rw [hk]
    refine v_istore_n (ls' := [_, _, _, _, _, _, _]) dX8_readsEvent_14 rfl rfl rfl rfl ?_
    refine v_iload_n dX8_readsEvent_15 rfl rfl ?_
    refine v_if_eq (tgt := 42) dX8_readsEvent_16 (by decide) (fun hc_16 => ?_) (fun hc_16 => ?_)
    · refine v_iconst dX8_readsEvent_42 (by decide) ?_
      refine v_zreturn dX8_readsEvent_43 rfl (by first | exact Or.inl rfl | exact Or.inr rfl | exact b2i_01 _ | assumption) ?_
      exfalso; omega
    · refine v_aload_n dX8_readsEvent_19 rfl rfl ?_
      refine v_getI dX8_readsEvent_20 fX8_174 rfl rfl rfl ?_
      refine v_bipush dX8_readsEvent_23 (by decide) ?_
      refine v_icmp_eq (tgt := 42) dX8_readsEvent_25 (by decide) (fun hc_25 => ?_) (fun hc_25 => ?_)
      · refine v_iconst dX8_readsEvent_42 (by decide) ?_
        refine v_zreturn dX8_readsEvent_43 rfl (by first | exact Or.inl rfl | exact Or.inr rfl | exact b2i_01 _ | assumption) ?_
        exfalso; omega
      · refine v_iload_n dX8_readsEvent_28 rfl rfl ?_
        refine v_iconst dX8_readsEvent_29 (by decide) ?_
        refine v_icmp_gt (tgt := 44) dX8_readsEvent_30 (by decide) (fun hc_30 => ?_) (fun hc_30 => ?_)
        · refine v_aload_n dX8_readsEvent_44 rfl rfl ?_
          refine v_dupR_ dX8_readsEvent_45 ?_
          refine v_getI dX8_readsEvent_46 fX8_140 rfl rfl rfl ?_
          rw [hi]
          refine v_iconst dX8_readsEvent_49 (by decide) ?_
          refine v_iadd dX8_readsEvent_50 (fun ha hb => by omega) ?_
          refine v_putI dX8_readsEvent_51 fpX8_140 rfl rfl rfl ?_
          refine v_iconst dX8_readsEvent_54 (by decide) ?_
          refine v_aload_n dX8_readsEvent_55 rfl rfl ?_
          refine v_getI dX8_readsEvent_56 fX8_174 rfl rfl rfl ?_
          rw [mset_off (by omega), d1, ← hE]
          refine v_imul dX8_readsEvent_59 (fun ha hb => by omega) ?_
          refine v_istore (ls' := [_, _, _, _, _, _, _]) dX8_readsEvent_60 rfl rfl rfl ?_
          refine v_aload_n dX8_readsEvent_62 rfl rfl ?_
          refine v_getR dX8_readsEvent_63 fX8_50 rfl rfl rfl ?_
          refine v_iload dX8_readsEvent_66 rfl ?_
          refine v_iload_n dX8_readsEvent_68 rfl rfl ?_
          refine v_iast dX8_readsEvent_69 rfl (by omega) (by omega) ?_
          rw [e4E]
          refine v_aload_n dX8_readsEvent_70 rfl rfl ?_
          refine v_getR dX8_readsEvent_71 fX8_50 rfl rfl rfl ?_
          refine v_iload dX8_readsEvent_74 rfl ?_
          refine v_iconst dX8_readsEvent_76 (by decide) ?_
          refine v_iadd dX8_readsEvent_77 (fun ha hb => by omega) ?_
          refine v_iconst dX8_readsEvent_78 (by decide) ?_
          refine v_iast dX8_readsEvent_79 rfl (by omega) (by omega) ?_
          rw [e4E2]
          refine v_aload_n dX8_readsEvent_80 rfl rfl ?_
          refine v_getR dX8_readsEvent_81 fX8_50 rfl rfl rfl ?_
          refine v_iload dX8_readsEvent_84 rfl ?_
          refine v_iconst dX8_readsEvent_86 (by decide) ?_
          refine v_iadd dX8_readsEvent_87 (fun ha hb => by omega) ?_
          refine v_iload_n dX8_readsEvent_88 rfl rfl ?_
          refine v_bipush dX8_readsEvent_89 (by decide) ?_
          refine v_icmp_ne (tgt := 98) dX8_readsEvent_91 (by decide) (fun hc_91 => ?_) (fun hc_91 => ?_)
          · refine v_iload_n dX8_readsEvent_98 rfl rfl ?_
            refine v_bipush dX8_readsEvent_99 (by decide) ?_
            refine v_icmp_ne (tgt := 108) dX8_readsEvent_101 (by decide) (fun hc_101 => ?_) (fun hc_101 => ?_)
            · refine v_iconst dX8_readsEvent_108 (by decide) ?_
              refine v_iast dX8_readsEvent_109 rfl (by omega) (by omega) ?_
              rw [e4E3]
              refine v_kill (ls' := [_, _, _, _, _, _, _]) 2 rfl ?_
              first
                | (have q := h44 (-1) (by unfold chN; rw [if_pos (by omega), if_neg (by omega)])
                   exact f110 _ q.1 q.2)
                | (have q := h44 1 (by unfold chN; rw [if_pos (by omega), if_pos (by omega)])
                   exact f110 _ q.1 q.2)
                | (have q := h44 0 (by unfold chN; rw [if_neg (by omega)])
                   exact f110 _ q.1 q.2)
            · refine v_iconst dX8_readsEvent_104 (by decide) ?_
              refine v_goto (tgt := 109) dX8_readsEvent_105 (by decide) ?_
              refine v_iast dX8_readsEvent_109 rfl (by omega) (by omega) ?_
              rw [e4E3]
              refine v_kill (ls' := [_, _, _, _, _, _, _]) 2 rfl ?_
              first
                | (have q := h44 (-1) (by unfold chN; rw [if_pos (by omega), if_neg (by omega)])
                   exact f110 _ q.1 q.2)
                | (have q := h44 1 (by unfold chN; rw [if_pos (by omega), if_pos (by omega)])
                   exact f110 _ q.1 q.2)
                | (have q := h44 0 (by unfold chN; rw [if_neg (by omega)])
                   exact f110 _ q.1 q.2)
          · refine v_iconst dX8_readsEvent_94 (by decide) ?_
            refine v_goto (tgt := 109) dX8_readsEvent_95 (by decide) ?_
            refine v_iast dX8_readsEvent_109 rfl (by omega) (by omega) ?_
            rw [e4E3]
            refine v_kill (ls' := [_, _, _, _, _, _, _]) 2 rfl ?_
            first
              | (have q := h44 (-1) (by unfold chN; rw [if_pos (by omega), if_neg (by omega)])
                 exact f110 _ q.1 q.2)
              | (have q := h44 1 (by unfold chN; rw [if_pos (by omega), if_pos (by omega)])
                 exact f110 _ q.1 q.2)
              | (have q := h44 0 (by unfold chN; rw [if_neg (by omega)])
                 exact f110 _ q.1 q.2)
        · refine v_aload_n dX8_readsEvent_33 rfl rfl ?_
          refine v_getI dX8_readsEvent_34 fX8_177 rfl rfl rfl ?_
          refine v_bipush dX8_readsEvent_37 (by decide) ?_
          refine v_icmp_ne (tgt := 44) dX8_readsEvent_39 (by decide) (fun hc_39 => ?_) (fun hc_39 => ?_)
          · refine v_aload_n dX8_readsEvent_44 rfl rfl ?_
            refine v_dupR_ dX8_readsEvent_45 ?_
            refine v_getI dX8_readsEvent_46 fX8_140 rfl rfl rfl ?_
            rw [hi]
            refine v_iconst dX8_readsEvent_49 (by decide) ?_
            refine v_iadd dX8_readsEvent_50 (fun ha hb => by omega) ?_
            refine v_putI dX8_readsEvent_51 fpX8_140 rfl rfl rfl ?_
            refine v_iconst dX8_readsEvent_54 (by decide) ?_
            refine v_aload_n dX8_readsEvent_55 rfl rfl ?_
            refine v_getI dX8_readsEvent_56 fX8_174 rfl rfl rfl ?_
            rw [mset_off (by omega), d1, ← hE]
            refine v_imul dX8_readsEvent_59 (fun ha hb => by omega) ?_
            refine v_istore (ls' := [_, _, _, _, _, _, _]) dX8_readsEvent_60 rfl rfl rfl ?_
            refine v_aload_n dX8_readsEvent_62 rfl rfl ?_
            refine v_getR dX8_readsEvent_63 fX8_50 rfl rfl rfl ?_
            refine v_iload dX8_readsEvent_66 rfl ?_
            refine v_iload_n dX8_readsEvent_68 rfl rfl ?_
            refine v_iast dX8_readsEvent_69 rfl (by omega) (by omega) ?_
            rw [e4E]
            refine v_aload_n dX8_readsEvent_70 rfl rfl ?_
            refine v_getR dX8_readsEvent_71 fX8_50 rfl rfl rfl ?_
            refine v_iload dX8_readsEvent_74 rfl ?_
            refine v_iconst dX8_readsEvent_76 (by decide) ?_
            refine v_iadd dX8_readsEvent_77 (fun ha hb => by omega) ?_
            refine v_iconst dX8_readsEvent_78 (by decide) ?_
            refine v_iast dX8_readsEvent_79 rfl (by omega) (by omega) ?_
            rw [e4E2]
            refine v_aload_n dX8_readsEvent_80 rfl rfl ?_
            refine v_getR dX8_readsEvent_81 fX8_50 rfl rfl rfl ?_
            refine v_iload dX8_readsEvent_84 rfl ?_
            refine v_iconst dX8_readsEvent_86 (by decide) ?_
            refine v_iadd dX8_readsEvent_87 (fun ha hb => by omega) ?_
            refine v_iload_n dX8_readsEvent_88 rfl rfl ?_
            refine v_bipush dX8_readsEvent_89 (by decide) ?_
            refine v_icmp_ne (tgt := 98) dX8_readsEvent_91 (by decide) (fun hc_91 => ?_) (fun hc_91 => ?_)
            · refine v_iload_n dX8_readsEvent_98 rfl rfl ?_
              refine v_bipush dX8_readsEvent_99 (by decide) ?_
              refine v_icmp_ne (tgt := 108) dX8_readsEvent_101 (by decide) (fun hc_101 => ?_) (fun hc_101 => ?_)
              · refine v_iconst dX8_readsEvent_108 (by decide) ?_
                refine v_iast dX8_readsEvent_109 rfl (by omega) (by omega) ?_
                rw [e4E3]
                refine v_kill (ls' := [_, _, _, _, _, _, _]) 2 rfl ?_
                first
                  | (have q := h44 (-1) (by unfold chN; rw [if_pos (by omega), if_neg (by omega)])
                     exact f110 _ q.1 q.2)
                  | (have q := h44 1 (by unfold chN; rw [if_pos (by omega), if_pos (by omega)])
                     exact f110 _ q.1 q.2)
                  | (have q := h44 0 (by unfold chN; rw [if_neg (by omega)])
                     exact f110 _ q.1 q.2)
              · refine v_iconst dX8_readsEvent_104 (by decide) ?_
                refine v_goto (tgt := 109) dX8_readsEvent_105 (by decide) ?_
                refine v_iast dX8_readsEvent_109 rfl (by omega) (by omega) ?_
                rw [e4E3]
                refine v_kill (ls' := [_, _, _, _, _, _, _]) 2 rfl ?_
                first
                  | (have q := h44 (-1) (by unfold chN; rw [if_pos (by omega), if_neg (by omega)])
                     exact f110 _ q.1 q.2)
                  | (have q := h44 1 (by unfold chN; rw [if_pos (by omega), if_pos (by omega)])
                     exact f110 _ q.1 q.2)
                  | (have q := h44 0 (by unfold chN; rw [if_neg (by omega)])
                     exact f110 _ q.1 q.2)
            · refine v_iconst dX8_readsEvent_94 (by decide) ?_
              refine v_goto (tgt := 109) dX8_readsEvent_95 (by decide) ?_
              refine v_iast dX8_readsEvent_109 rfl (by omega) (by omega) ?_
              rw [e4E3]
              refine v_kill (ls' := [_, _, _, _, _, _, _]) 2 rfl ?_
              first
                | (have q := h44 (-1) (by unfold chN; rw [if_pos (by omega), if_neg (by omega)])
                   exact f110 _ q.1 q.2)
                | (have q := h44 1 (by unfold chN; rw [if_pos (by omega), if_pos (by omega)])
                   exact f110 _ q.1 q.2)
                | (have q := h44 0 (by unfold chN; rw [if_neg (by omega)])
                   exact f110 _ q.1 q.2)
          · refine v_iconst dX8_readsEvent_42 (by decide) ?_
            refine v_zreturn dX8_readsEvent_43 rfl (by first | exact Or.inl rfl | exact Or.inr rfl | exact b2i_01 _ | assumption) ?_
            exfalso; omega
  · have hst2 : kdN (tx i) = 0 ∨ 40 ≤ e0 + s.1.length ∨ (mkK (kdN (tx i)) ∧ 24 ≤ s.2) := Classical.byContradiction hst
    have e := itY_stop (n := n) (nH := μ 50 10) (nP := μ 50 11) hst2
    have fin : Q (I_ 0) μ := by
      have := h μ (by rw [e]; exact ⟨fun _ _ _ _ => rfl, hi, hD⟩)
      rw [e] at this
      exact this
    unfold mkK at hst2
    refine v_aload_n dX8_readsEvent_0 rfl rfl ?_
    refine v_iload_n dX8_readsEvent_1 rfl rfl ?_
    refine v_aload_n dX8_readsEvent_2 rfl rfl ?_
    refine v_getI dX8_readsEvent_3 fX8_140 rfl rfl rfl ?_
    rw [hi]
    refine v_callVi [_, _] dX8_readsEvent_6 lX8_143 kvX8_byteAt (plX8 _ _) (Or.inl rfl) rfl rfl rfl rfl rfl rfl rfl rfl rfl (c_X8_byteAt ht ?_)
    rw [if_pos hin]
    refine v_istore_n (ls' := [_, _, _, _, _, _, _]) dX8_readsEvent_9 rfl rfl rfl rfl ?_
    refine v_iload_n dX8_readsEvent_10 rfl rfl ?_
    refine v_callSi [_] dX8_readsEvent_11 lX8_171 ksX8_kindOf (plX8 _ _) (Or.inl rfl) rfl rfl rfl rfl rfl rfl (c_X8_kindOf ?_)
    refine v_istore_n (ls' := [_, _, _, _, _, _, _]) dX8_readsEvent_14 rfl rfl rfl rfl ?_
    refine v_iload_n dX8_readsEvent_15 rfl rfl ?_
    refine v_if_eq (tgt := 42) dX8_readsEvent_16 (by decide) (fun hc_16 => ?_) (fun hc_16 => ?_)
    · refine v_iconst dX8_readsEvent_42 (by decide) ?_
      refine v_zreturn dX8_readsEvent_43 rfl (by first | exact Or.inl rfl | exact Or.inr rfl | exact b2i_01 _ | assumption) ?_
      exact fin
    · refine v_aload_n dX8_readsEvent_19 rfl rfl ?_
      refine v_getI dX8_readsEvent_20 fX8_174 rfl rfl rfl ?_
      refine v_bipush dX8_readsEvent_23 (by decide) ?_
      refine v_icmp_eq (tgt := 42) dX8_readsEvent_25 (by decide) (fun hc_25 => ?_) (fun hc_25 => ?_)
      · refine v_iconst dX8_readsEvent_42 (by decide) ?_
        refine v_zreturn dX8_readsEvent_43 rfl (by first | exact Or.inl rfl | exact Or.inr rfl | exact b2i_01 _ | assumption) ?_
        exact fin
      · refine v_iload_n dX8_readsEvent_28 rfl rfl ?_
        refine v_iconst dX8_readsEvent_29 (by decide) ?_
        refine v_icmp_gt (tgt := 44) dX8_readsEvent_30 (by decide) (fun hc_30 => ?_) (fun hc_30 => ?_)
        · exfalso; omega
        · refine v_aload_n dX8_readsEvent_33 rfl rfl ?_
          refine v_getI dX8_readsEvent_34 fX8_177 rfl rfl rfl ?_
          refine v_bipush dX8_readsEvent_37 (by decide) ?_
          refine v_icmp_ne (tgt := 44) dX8_readsEvent_39 (by decide) (fun hc_39 => ?_) (fun hc_39 => ?_)
          · exfalso; omega
          · refine v_iconst dX8_readsEvent_42 (by decide) ?_
            refine v_zreturn dX8_readsEvent_43 rfl (by first | exact Or.inl rfl | exact Or.inr rfl | exact b2i_01 _ | assumption) ?_
            exact fin
set_option maxRecDepth 10000 in
set_option maxHeartbeats 1000000 in
theorem c_X8_yearFault (ht : TmC tx n t μ) (hE : 0 ≤ μ 50 22 ∧ μ 50 22 ≤ 40) (hK : 0 ≤ μ 50 27 ∧ μ 50 27 ≤ 24) (hH : 0 ≤ μ 50 10 ∧ μ 50 10 ≤ 6) (hP : 0 ≤ μ 50 11 ∧ μ 50 11 ≤ 12) (hIY : ∀ i j s s', 0 ≤ s.2 ∧ s.2 ≤ 24 → μ 50 22 + s.1.length ≤ 40 → itY tx n (μ 50 10) (μ 50 11) (μ 50 22) i s = (j, some s') → (0 ≤ s'.2 ∧ s'.2 ≤ 24) ∧ μ 50 22 + s'.1.length ≤ 40) (h : ∀ m : Mem_, frE μ m → EmC m (μ 50 22) (gT tx n (itY tx n (μ 50 10) (μ 50 11) (μ 50 22)) 0 ([], μ 50 27)).2 → Q (I_ (gT tx n (itY tx n (μ 50 10) (μ 50 11) (μ 50 22)) 0 ([], μ 50 27)).1) m) : V_ nX8_yearFault 0 [R_ 50, I_ t] [] μ Q := by
  have t1 := ht.1
  have t2 := ht.2.1
  generalize hit : itY tx n (μ 50 10) (μ 50 11) (μ 50 22) = it at *
  have iup : gUp it := by rw [← hit]; exact itY_up
  have lp : ∀ (d : Nat) (m : Mem_) (i : Nat) (s : EvL × Int), n < d + i → frE μ m → m 50 15 = (i : Int) → EmC m (μ 50 22) s → (0 ≤ s.2 ∧ s.2 ≤ 24) → μ 50 22 + s.1.length ≤ 40 → gT tx n it i s = gT tx n it 0 ([], μ 50 27) → V_ nX8_yearFault 21 [R_ 50, I_ t] [] m Q := by
    intro d
    induction d with
    | zero =>
      intro m i s hd a1 a2 a3 a5 a6 a4
      have t3 := (a1.tm ht).2.2.1
      rw [gT_end (by omega)] at a4
      refine v_aload_n dX8_yearFault_21 rfl rfl ?_
      refine v_getI dX8_yearFault_22 fX8_140 rfl rfl rfl ?_
      refine v_aload_n dX8_yearFault_25 rfl rfl ?_
      refine v_getR dX8_yearFault_26 fX8_22 rfl rfl rfl ?_
      refine v_iload_n dX8_yearFault_29 rfl rfl ?_
      refine v_iald dX8_yearFault_30 rfl (by omega) (by omega) ?_
      refine v_icmp_ge (tgt := 74) dX8_yearFault_31 (by decide) (fun hc_31 => ?_) (fun hc_31 => ?_)
      · refine v_bipush dX8_yearFault_74 (by decide) ?_
        refine v_ireturn dX8_yearFault_76 rfl ?_
        have := h m a1 (by rw [← a4]; exact a3)
        rwa [← a4] at this
      · omega
    | succ d ih =>
      intro m i s hd a1 a2 a3 a5 a6 a4
      have t3 := (a1.tm ht).2.2.1
      have n10 : m 50 10 = μ 50 10 := a1 50 10 (by omega) (by omega)
      have n11 : m 50 11 = μ 50 11 := a1 50 11 (by omega) (by omega)
      refine v_aload_n dX8_yearFault_21 rfl rfl ?_
      refine v_getI dX8_yearFault_22 fX8_140 rfl rfl rfl ?_
      refine v_aload_n dX8_yearFault_25 rfl rfl ?_
      refine v_getR dX8_yearFault_26 fX8_22 rfl rfl rfl ?_
      refine v_iload_n dX8_yearFault_29 rfl rfl ?_
      refine v_iald dX8_yearFault_30 rfl (by omega) (by omega) ?_
      refine v_icmp_ge (tgt := 74) dX8_yearFault_31 (by decide) (fun hc_31 => ?_) (fun hc_31 => ?_)
      · refine v_bipush dX8_yearFault_74 (by decide) ?_
        refine v_ireturn dX8_yearFault_76 rfl ?_
        rw [gT_end (by omega)] at a4
        have := h m a1 (by rw [← a4]; exact a3)
        rwa [← a4] at this
      · refine v_aload_n dX8_yearFault_34 rfl rfl ?_
        refine v_iload_n dX8_yearFault_35 rfl rfl ?_
        refine v_aload_n dX8_yearFault_36 rfl rfl ?_
        refine v_getI dX8_yearFault_37 fX8_140 rfl rfl rfl ?_
        rw [a2]
        refine v_callVi [_, _] dX8_yearFault_40 lX8_143 kvX8_byteAt (plX8 _ _) (Or.inl rfl) rfl rfl rfl rfl rfl rfl rfl rfl rfl (c_X8_byteAt (a1.tm ht) ?_)
        have hin : i < n := by omega
        rw [if_pos hin]
        refine v_bipush dX8_yearFault_43 (by decide) ?_
        refine v_icmp_ne (tgt := 61) dX8_yearFault_45 (by decide) (fun hc_45 => ?_) (fun hc_45 => ?_)
        · refine v_aload_n dX8_yearFault_61 rfl rfl ?_
          refine v_iload_n dX8_yearFault_62 rfl rfl ?_
          refine v_callVi [_] dX8_yearFault_63 lX8_192 kvX8_readsEvent (plX8 _ _) (Or.inr rfl) rfl rfl rfl rfl rfl rfl rfl rfl rfl (c_X8_readsEvent (e0 := μ 50 22) (s := s) (a1.tm ht) a2 hin (by omega) a6 a5 a3 (by omega) (by omega) (fun m1 b1 => ?_))
          rw [n10, n11, hit] at b1 ⊢
          refine v_ifb_ne (tgt := 21) dX8_yearFault_66 (by decide) (fun hc_66 => ?_) (fun hc_66 => ?_)
          · match e : it i s, b1, hc_66 with
            | (j, none), b1, z => exact absurd rfl z
            | (j, some s'), b1, _ =>
              have u := iup _ _ _ _ e
              rw [gT_ok iup hin (by omega) e] at a4
              have hb := hIY i j s s' a5 a6 (by rw [← e])
              exact ih m1 j s' (by omega) (a1.tr b1.1) b1.2.1 b1.2.2 hb.1 hb.2 a4
          · refine v_aload_n dX8_yearFault_69 rfl rfl ?_
            refine v_getI dX8_yearFault_70 fX8_140 rfl rfl rfl ?_
            refine v_ireturn dX8_yearFault_73 rfl ?_
            match e : it i s, b1, hc_66 with
            | (j, none), b1, _ =>
              rw [gT_fail hin (by omega) e] at a4
              have := h m1 (a1.tr b1.1) (by rw [← a4]; exact b1.2.2)
              rw [← a4] at this
              rw [b1.2.1]
              exact this
            | (j, some s'), b1, z => exact absurd (fun q => by cases q) z
        · refine v_aload_n dX8_yearFault_48 rfl rfl ?_
          refine v_dupR_ dX8_yearFault_49 ?_
          refine v_getI dX8_yearFault_50 fX8_140 rfl rfl rfl ?_
          rw [a2]
          refine v_iconst dX8_yearFault_53 (by decide) ?_
          refine v_iadd dX8_yearFault_54 (fun ha hb => by omega) ?_
          refine v_putI dX8_yearFault_55 fpX8_140 rfl rfl rfl ?_
          refine v_goto (tgt := 21) dX8_yearFault_58 (by decide) ?_
          rw [gT_blank iup hin (by omega)] at a4
          exact ih _ (i + 1) s (by omega) (a1.tr (fun o k q1 q2 => mset_off (by omega))) (by rw [mset_same]; omega) ⟨⟨by rw [mset_off (by omega)]; exact a3.1.1, by rw [mset_off (by omega)]; exact a3.1.2⟩, fun k hk => by rw [mset_off (by omega), mset_off (by omega), mset_off (by omega), mset_off (by omega)]; exact a3.2 k hk⟩ a5 a6 a4
  refine v_aload_n dX8_yearFault_0 rfl rfl ?_
  refine v_iconst dX8_yearFault_1 (by decide) ?_
  refine v_putI dX8_yearFault_2 fpX8_140 rfl rfl rfl ?_
  refine v_aload_n dX8_yearFault_5 rfl rfl ?_
  refine v_aload_n dX8_yearFault_6 rfl rfl ?_
  refine v_getI dX8_yearFault_7 fX8_186 rfl rfl rfl ?_
  refine v_putI dX8_yearFault_10 fpX8_174 rfl rfl rfl ?_
  refine v_aload_n dX8_yearFault_13 rfl rfl ?_
  refine v_aload_n dX8_yearFault_14 rfl rfl ?_
  refine v_getI dX8_yearFault_15 fX8_189 rfl rfl rfl ?_
  refine v_putI dX8_yearFault_18 fpX8_177 rfl rfl rfl ?_
  refine lp (n + 1) _ 0 ([], μ 50 27) (by omega) (fun o k q1 q2 => by rw [mset_off (by omega), mset_off (by omega), mset_off (by omega)]) (by rw [mset_off (by omega), mset_off (by omega), mset_same]; rfl) ?_ (by simp only; omega) (by simp; omega) rfl
  refine ⟨⟨by rw [mset_off (by omega), mset_same, mset_off (by omega)]; simp, by rw [mset_same, mset_off (by omega), mset_off (by omega)]⟩, fun k hk => absurd hk (by simp)⟩
end
