/-! the law: its cases -/
section
variable {p : Program} {l : Launch} {e : Env} {s : State} {m : MethodId} {below : List Frame} {meth : Method} {c : Code} {b L i n : Nat} {xs : Nat → Int32} {ad : Nat → Nat} {D : va_G} {cI cB : ClassId} {nc ns : Nat} {Z : State → Prop} {μ : Mem_} {lsM : Array Slot} {H : Heap} {locs : List Loc}
theorem ok_ints {l : List Int32} : okl (l.map (fun x => I_ x.toInt)) := fun v hv => by
  obtain ⟨x, _, e⟩ := List.mem_map.mp hv
  rw [← e]
  exact i32_in x
set_option maxHeartbeats 4000000 in
set_option maxRecDepth 100000 in
theorem lc_row (C0 : LC p s m meth c b ad D cI cB) (hX : va_X b L xs s s.heap) (hbl : b < s.heap.size) (hL : L ≤ 384) (hi : i + 6 ≤ L) (hl : lv_has lsM 4 [(0, .ref b), (1, .ref (ad 0)), (2, .ref (ad 50)), (3, .int (nI i))]) (h : CI n μ) (hn : n < 900) (hμ : okM μ) (hP : va_P D vwCl (wo ad cI cB μ) H) (hS : va_S (hiA s) s.heap H locs) (hnc : nc + 0 ≤ room_1.cells ∧ ns + 0 ≤ room_1.slots) (next : ∀ (u : Mem_) (H1 : Heap) (locs1 : List Loc), CI (n + 1) u → okM u → va_P D vwCl (wo ad cI cB u) H1 → va_S (hiA s) s.heap H1 locs1 → W p l e room_1 s m #[Value.ref b] below meth c H1 locs1 nc ns Z (F0 m 1416 lsM [])) : W p l e room_1 s m #[Value.ref b] below meth c H locs nc ns Z (F0 m 196 lsM []) := by
  have hx := C0.1.1
  have hb := C0.1.2.1
  have hbA : ¬ hiA s b := Nat.not_le.mpr hbl
  have hin : ∀ k, k < 6 → vp_in (nI (i + k)) L := fun k hk => nI_in (by omega) (by omega)
  refine lv_aload_n hx hb dL_law_196 rfl (lv_at hl 1 rfl) ?_
  refine lv_aload_n hx hb dL_law_197 rfl (lv_at hl 0 rfl) ?_
  refine lv_iload_n hx hb dL_law_198 rfl (lv_at hl 3 rfl) ?_
  refine lv_iconst (v := 1) hx hb dL_law_199 (by decide) ?_
  refine lv_iadd hx hb dL_law_200 ?_
  rw [show nI i + 1 = nI (i + 1) from nI_add i 1]
  refine va_sld hx hb hX hbl hbA hS (hin 1 (by omega)) dL_law_201 ?_
  rw [nI_clamp (by omega)]
  refine lv_aload_n hx hb dL_law_202 rfl (lv_at hl 0 rfl) ?_
  refine lv_iload_n hx hb dL_law_203 rfl (lv_at hl 3 rfl) ?_
  refine lv_iconst (v := 2) hx hb dL_law_204 (by decide) ?_
  refine lv_iadd hx hb dL_law_205 ?_
  rw [show nI i + 2 = nI (i + 2) from nI_add i 2]
  refine va_sld hx hb hX hbl hbA hS (hin 2 (by omega)) dL_law_206 ?_
  rw [nI_clamp (by omega)]
  refine lw_cali C0 (na := 2) (o := 0) (rest := []) [I_ (xs (i + 1)).toInt, I_ (xs (i + 2)).toInt] dL_law_207 lL_13 kvX7_row (plX7 _ _) (Or.inl rfl) rfl rfl rfl rfl (by decide) (by simp [Value.category]) (by simp [emb]) rfl rfl (ok_ints (l := [(xs (i + 1)), (xs (i + 2))])) hμ hP hS hl.1 hnc (op_row h hn) (fun r u H1 locs1 hq hμ hP hS => ?_)
  refine lv_aload_n hx hb dL_law_210 rfl (lv_at hl 2 rfl) ?_
  refine lv_aload_n hx hb dL_law_211 rfl (lv_at hl 0 rfl) ?_
  refine lv_iload_n hx hb dL_law_212 rfl (lv_at hl 3 rfl) ?_
  refine lv_iconst (v := 1) hx hb dL_law_213 (by decide) ?_
  refine lv_iadd hx hb dL_law_214 ?_
  rw [show nI i + 1 = nI (i + 1) from nI_add i 1]
  refine va_sld hx hb hX hbl hbA hS (hin 1 (by omega)) dL_law_215 ?_
  rw [nI_clamp (by omega)]
  refine lv_aload_n hx hb dL_law_216 rfl (lv_at hl 0 rfl) ?_
  refine lv_iload_n hx hb dL_law_217 rfl (lv_at hl 3 rfl) ?_
  refine lv_iconst (v := 2) hx hb dL_law_218 (by decide) ?_
  refine lv_iadd hx hb dL_law_219 ?_
  rw [show nI i + 2 = nI (i + 2) from nI_add i 2]
  refine va_sld hx hb hX hbl hbA hS (hin 2 (by omega)) dL_law_220 ?_
  rw [nI_clamp (by omega)]
  refine lw_cali C0 (na := 2) (o := 50) (rest := [.int r]) [I_ (xs (i + 1)).toInt, I_ (xs (i + 2)).toInt] dL_law_221 lL_17 kvX8_row (plX8 _ _) (Or.inl rfl) rfl rfl rfl rfl (by decide) (by simp [Value.category]) (by simp [emb]) rfl rfl (ok_ints (l := [(xs (i + 1)), (xs (i + 2))])) hμ hP hS hl.1 hnc (hq) (fun r2 u2 H2 locs2 hq2 hμ hP hS => ?_)
  have er : r2 = r := by have := hq2.1; simp at this; exact Int32.toInt_inj.mp this
  subst er
  exact lv_icmp_eq (tgt := 1416) hx hb dL_law_224 (by decide) (fun _ => next u2 H2 locs2 hq2.2 hμ hP hS) (fun c_ => absurd rfl c_)
set_option maxHeartbeats 4000000 in
set_option maxRecDepth 100000 in
theorem lc_lay (C0 : LC p s m meth c b ad D cI cB) (hX : va_X b L xs s s.heap) (hbl : b < s.heap.size) (hL : L ≤ 384) (hi : i + 6 ≤ L) (hl : lv_has lsM 4 [(0, .ref b), (1, .ref (ad 0)), (2, .ref (ad 50)), (3, .int (nI i))]) (h : CI n μ) (hn : n < 900) (hμ : okM μ) (hP : va_P D vwCl (wo ad cI cB μ) H) (hS : va_S (hiA s) s.heap H locs) (hnc : nc + 0 ≤ room_1.cells ∧ ns + 0 ≤ room_1.slots) (next : ∀ (u : Mem_) (H1 : Heap) (locs1 : List Loc), CI (n + 1) u → okM u → va_P D vwCl (wo ad cI cB u) H1 → va_S (hiA s) s.heap H1 locs1 → W p l e room_1 s m #[Value.ref b] below meth c H1 locs1 nc ns Z (F0 m 1416 lsM [])) : W p l e room_1 s m #[Value.ref b] below meth c H locs nc ns Z (F0 m 229 lsM []) := by
  have hx := C0.1.1
  have hb := C0.1.2.1
  have hbA : ¬ hiA s b := Nat.not_le.mpr hbl
  have hin : ∀ k, k < 6 → vp_in (nI (i + k)) L := fun k hk => nI_in (by omega) (by omega)
  refine lv_aload_n hx hb dL_law_229 rfl (lv_at hl 1 rfl) ?_
  refine lv_aload_n hx hb dL_law_230 rfl (lv_at hl 0 rfl) ?_
  refine lv_iload_n hx hb dL_law_231 rfl (lv_at hl 3 rfl) ?_
  refine lv_iconst (v := 1) hx hb dL_law_232 (by decide) ?_
  refine lv_iadd hx hb dL_law_233 ?_
  rw [show nI i + 1 = nI (i + 1) from nI_add i 1]
  refine va_sld hx hb hX hbl hbA hS (hin 1 (by omega)) dL_law_234 ?_
  rw [nI_clamp (by omega)]
  refine lv_aload_n hx hb dL_law_235 rfl (lv_at hl 0 rfl) ?_
  refine lv_iload_n hx hb dL_law_236 rfl (lv_at hl 3 rfl) ?_
  refine lv_iconst (v := 2) hx hb dL_law_237 (by decide) ?_
  refine lv_iadd hx hb dL_law_238 ?_
  rw [show nI i + 2 = nI (i + 2) from nI_add i 2]
  refine va_sld hx hb hX hbl hbA hS (hin 2 (by omega)) dL_law_239 ?_
  rw [nI_clamp (by omega)]
  refine lv_aload_n hx hb dL_law_240 rfl (lv_at hl 0 rfl) ?_
  refine lv_iload_n hx hb dL_law_241 rfl (lv_at hl 3 rfl) ?_
  refine lv_iconst (v := 3) hx hb dL_law_242 (by decide) ?_
  refine lv_iadd hx hb dL_law_243 ?_
  rw [show nI i + 3 = nI (i + 3) from nI_add i 3]
  refine va_sld hx hb hX hbl hbA hS (hin 3 (by omega)) dL_law_244 ?_
  rw [nI_clamp (by omega)]
  refine lw_cali C0 (na := 3) (o := 0) (rest := []) [I_ (xs (i + 1)).toInt, I_ (xs (i + 2)).toInt, I_ (xs (i + 3)).toInt] dL_law_245 lL_18 kvX7_lay (plX7 _ _) (Or.inl rfl) rfl rfl rfl rfl (by decide) (by simp [Value.category]) (by simp [emb]) rfl rfl (ok_ints (l := [(xs (i + 1)), (xs (i + 2)), (xs (i + 3))])) hμ hP hS hl.1 hnc (op_lay h hn) (fun r u H1 locs1 hq hμ hP hS => ?_)
  refine lv_aload_n hx hb dL_law_248 rfl (lv_at hl 2 rfl) ?_
  refine lv_aload_n hx hb dL_law_249 rfl (lv_at hl 0 rfl) ?_
  refine lv_iload_n hx hb dL_law_250 rfl (lv_at hl 3 rfl) ?_
  refine lv_iconst (v := 1) hx hb dL_law_251 (by decide) ?_
  refine lv_iadd hx hb dL_law_252 ?_
  rw [show nI i + 1 = nI (i + 1) from nI_add i 1]
  refine va_sld hx hb hX hbl hbA hS (hin 1 (by omega)) dL_law_253 ?_
  rw [nI_clamp (by omega)]
  refine lv_aload_n hx hb dL_law_254 rfl (lv_at hl 0 rfl) ?_
  refine lv_iload_n hx hb dL_law_255 rfl (lv_at hl 3 rfl) ?_
  refine lv_iconst (v := 2) hx hb dL_law_256 (by decide) ?_
  refine lv_iadd hx hb dL_law_257 ?_
  rw [show nI i + 2 = nI (i + 2) from nI_add i 2]
  refine va_sld hx hb hX hbl hbA hS (hin 2 (by omega)) dL_law_258 ?_
  rw [nI_clamp (by omega)]
  refine lv_aload_n hx hb dL_law_259 rfl (lv_at hl 0 rfl) ?_
  refine lv_iload_n hx hb dL_law_260 rfl (lv_at hl 3 rfl) ?_
  refine lv_iconst (v := 3) hx hb dL_law_261 (by decide) ?_
  refine lv_iadd hx hb dL_law_262 ?_
  rw [show nI i + 3 = nI (i + 3) from nI_add i 3]
  refine va_sld hx hb hX hbl hbA hS (hin 3 (by omega)) dL_law_263 ?_
  rw [nI_clamp (by omega)]
  refine lw_cali C0 (na := 3) (o := 50) (rest := [.int r]) [I_ (xs (i + 1)).toInt, I_ (xs (i + 2)).toInt, I_ (xs (i + 3)).toInt] dL_law_264 lL_22 kvX8_lay (plX8 _ _) (Or.inl rfl) rfl rfl rfl rfl (by decide) (by simp [Value.category]) (by simp [emb]) rfl rfl (ok_ints (l := [(xs (i + 1)), (xs (i + 2)), (xs (i + 3))])) hμ hP hS hl.1 hnc (hq) (fun r2 u2 H2 locs2 hq2 hμ hP hS => ?_)
  have er : r2 = r := by have := hq2.1; simp at this; exact Int32.toInt_inj.mp this
  subst er
  exact lv_icmp_eq (tgt := 1416) hx hb dL_law_267 (by decide) (fun _ => next u2 H2 locs2 hq2.2 hμ hP hS) (fun c_ => absurd rfl c_)
set_option maxHeartbeats 4000000 in
set_option maxRecDepth 100000 in
theorem lc_at (C0 : LC p s m meth c b ad D cI cB) (hX : va_X b L xs s s.heap) (hbl : b < s.heap.size) (hL : L ≤ 384) (hi : i + 6 ≤ L) (hl : lv_has lsM 4 [(0, .ref b), (1, .ref (ad 0)), (2, .ref (ad 50)), (3, .int (nI i))]) (h : CI n μ) (hn : n < 900) (hμ : okM μ) (hP : va_P D vwCl (wo ad cI cB μ) H) (hS : va_S (hiA s) s.heap H locs) (hnc : nc + 0 ≤ room_1.cells ∧ ns + 0 ≤ room_1.slots) (next : ∀ (u : Mem_) (H1 : Heap) (locs1 : List Loc), CI (n + 1) u → okM u → va_P D vwCl (wo ad cI cB u) H1 → va_S (hiA s) s.heap H1 locs1 → W p l e room_1 s m #[Value.ref b] below meth c H1 locs1 nc ns Z (F0 m 1416 lsM [])) : W p l e room_1 s m #[Value.ref b] below meth c H locs nc ns Z (F0 m 272 lsM []) := by
  have hx := C0.1.1
  have hb := C0.1.2.1
  have hbA : ¬ hiA s b := Nat.not_le.mpr hbl
  have hin : ∀ k, k < 6 → vp_in (nI (i + k)) L := fun k hk => nI_in (by omega) (by omega)
  refine lv_aload_n hx hb dL_law_272 rfl (lv_at hl 1 rfl) ?_
  refine lv_aload_n hx hb dL_law_273 rfl (lv_at hl 0 rfl) ?_
  refine lv_iload_n hx hb dL_law_274 rfl (lv_at hl 3 rfl) ?_
  refine lv_iconst (v := 1) hx hb dL_law_275 (by decide) ?_
  refine lv_iadd hx hb dL_law_276 ?_
  rw [show nI i + 1 = nI (i + 1) from nI_add i 1]
  refine va_sld hx hb hX hbl hbA hS (hin 1 (by omega)) dL_law_277 ?_
  rw [nI_clamp (by omega)]
  refine lv_aload_n hx hb dL_law_278 rfl (lv_at hl 0 rfl) ?_
  refine lv_iload_n hx hb dL_law_279 rfl (lv_at hl 3 rfl) ?_
  refine lv_iconst (v := 2) hx hb dL_law_280 (by decide) ?_
  refine lv_iadd hx hb dL_law_281 ?_
  rw [show nI i + 2 = nI (i + 2) from nI_add i 2]
  refine va_sld hx hb hX hbl hbA hS (hin 2 (by omega)) dL_law_282 ?_
  rw [nI_clamp (by omega)]
  refine lw_cali C0 (na := 2) (o := 0) (rest := []) [I_ (xs (i + 1)).toInt, I_ (xs (i + 2)).toInt] dL_law_283 lL_23 kvX7_at (plX7 _ _) (Or.inl rfl) rfl rfl rfl rfl (by decide) (by simp [Value.category]) (by simp [emb]) rfl rfl (ok_ints (l := [(xs (i + 1)), (xs (i + 2))])) hμ hP hS hl.1 hnc (op_at h hn) (fun r u H1 locs1 hq hμ hP hS => ?_)
  refine lv_aload_n hx hb dL_law_286 rfl (lv_at hl 2 rfl) ?_
  refine lv_aload_n hx hb dL_law_287 rfl (lv_at hl 0 rfl) ?_
  refine lv_iload_n hx hb dL_law_288 rfl (lv_at hl 3 rfl) ?_
  refine lv_iconst (v := 1) hx hb dL_law_289 (by decide) ?_
  refine lv_iadd hx hb dL_law_290 ?_
  rw [show nI i + 1 = nI (i + 1) from nI_add i 1]
  refine va_sld hx hb hX hbl hbA hS (hin 1 (by omega)) dL_law_291 ?_
  rw [nI_clamp (by omega)]
  refine lv_aload_n hx hb dL_law_292 rfl (lv_at hl 0 rfl) ?_
  refine lv_iload_n hx hb dL_law_293 rfl (lv_at hl 3 rfl) ?_
  refine lv_iconst (v := 2) hx hb dL_law_294 (by decide) ?_
  refine lv_iadd hx hb dL_law_295 ?_
  rw [show nI i + 2 = nI (i + 2) from nI_add i 2]
  refine va_sld hx hb hX hbl hbA hS (hin 2 (by omega)) dL_law_296 ?_
  rw [nI_clamp (by omega)]
  refine lw_cali C0 (na := 2) (o := 50) (rest := [.int r]) [I_ (xs (i + 1)).toInt, I_ (xs (i + 2)).toInt] dL_law_297 lL_26 kvX8_at (plX8 _ _) (Or.inl rfl) rfl rfl rfl rfl (by decide) (by simp [Value.category]) (by simp [emb]) rfl rfl (ok_ints (l := [(xs (i + 1)), (xs (i + 2))])) hμ hP hS hl.1 hnc (hq) (fun r2 u2 H2 locs2 hq2 hμ hP hS => ?_)
  have er : r2 = r := by have := hq2.1; simp at this; exact Int32.toInt_inj.mp this
  subst er
  exact lv_icmp_eq (tgt := 1416) hx hb dL_law_300 (by decide) (fun _ => next u2 H2 locs2 hq2.2 hμ hP hS) (fun c_ => absurd rfl c_)
set_option maxHeartbeats 4000000 in
set_option maxRecDepth 100000 in
theorem lc_tear (C0 : LC p s m meth c b ad D cI cB) (hX : va_X b L xs s s.heap) (hbl : b < s.heap.size) (hL : L ≤ 384) (hi : i + 6 ≤ L) (hl : lv_has lsM 4 [(0, .ref b), (1, .ref (ad 0)), (2, .ref (ad 50)), (3, .int (nI i))]) (h : CI n μ) (hn : n < 900) (hμ : okM μ) (hP : va_P D vwCl (wo ad cI cB μ) H) (hS : va_S (hiA s) s.heap H locs) (hnc : nc + 0 ≤ room_1.cells ∧ ns + 0 ≤ room_1.slots) (next : ∀ (u : Mem_) (H1 : Heap) (locs1 : List Loc), CI (n + 1) u → okM u → va_P D vwCl (wo ad cI cB u) H1 → va_S (hiA s) s.heap H1 locs1 → W p l e room_1 s m #[Value.ref b] below meth c H1 locs1 nc ns Z (F0 m 1416 lsM [])) : W p l e room_1 s m #[Value.ref b] below meth c H locs nc ns Z (F0 m 305 lsM []) := by
  have hx := C0.1.1
  have hb := C0.1.2.1
  have hbA : ¬ hiA s b := Nat.not_le.mpr hbl
  have hin : ∀ k, k < 6 → vp_in (nI (i + k)) L := fun k hk => nI_in (by omega) (by omega)
  refine lv_aload_n hx hb dL_law_305 rfl (lv_at hl 1 rfl) ?_
  refine lv_aload_n hx hb dL_law_306 rfl (lv_at hl 0 rfl) ?_
  refine lv_iload_n hx hb dL_law_307 rfl (lv_at hl 3 rfl) ?_
  refine lv_iconst (v := 1) hx hb dL_law_308 (by decide) ?_
  refine lv_iadd hx hb dL_law_309 ?_
  rw [show nI i + 1 = nI (i + 1) from nI_add i 1]
  refine va_sld hx hb hX hbl hbA hS (hin 1 (by omega)) dL_law_310 ?_
  rw [nI_clamp (by omega)]
  refine lw_cali C0 (na := 1) (o := 0) (rest := []) [I_ (xs (i + 1)).toInt] dL_law_311 lL_27 kvX7_tear (plX7 _ _) (Or.inl rfl) rfl rfl rfl rfl (by decide) (by simp [Value.category]) (by simp [emb]) rfl rfl (ok_ints (l := [(xs (i + 1))])) hμ hP hS hl.1 hnc (op_tear h hn) (fun r u H1 locs1 hq hμ hP hS => ?_)
  refine lv_aload_n hx hb dL_law_314 rfl (lv_at hl 2 rfl) ?_
  refine lv_aload_n hx hb dL_law_315 rfl (lv_at hl 0 rfl) ?_
  refine lv_iload_n hx hb dL_law_316 rfl (lv_at hl 3 rfl) ?_
  refine lv_iconst (v := 1) hx hb dL_law_317 (by decide) ?_
  refine lv_iadd hx hb dL_law_318 ?_
  rw [show nI i + 1 = nI (i + 1) from nI_add i 1]
  refine va_sld hx hb hX hbl hbA hS (hin 1 (by omega)) dL_law_319 ?_
  rw [nI_clamp (by omega)]
  refine lw_cali C0 (na := 1) (o := 50) (rest := [.int r]) [I_ (xs (i + 1)).toInt] dL_law_320 lL_31 kvX8_tear (plX8 _ _) (Or.inl rfl) rfl rfl rfl rfl (by decide) (by simp [Value.category]) (by simp [emb]) rfl rfl (ok_ints (l := [(xs (i + 1))])) hμ hP hS hl.1 hnc (hq) (fun r2 u2 H2 locs2 hq2 hμ hP hS => ?_)
  have er : r2 = r := by have := hq2.1; simp at this; exact Int32.toInt_inj.mp this
  subst er
  exact lv_icmp_eq (tgt := 1416) hx hb dL_law_323 (by decide) (fun _ => next u2 H2 locs2 hq2.2 hμ hP hS) (fun c_ => absurd rfl c_)
set_option maxHeartbeats 4000000 in
set_option maxRecDepth 100000 in
theorem lc_copy (C0 : LC p s m meth c b ad D cI cB) (hX : va_X b L xs s s.heap) (hbl : b < s.heap.size) (hL : L ≤ 384) (hi : i + 6 ≤ L) (hl : lv_has lsM 4 [(0, .ref b), (1, .ref (ad 0)), (2, .ref (ad 50)), (3, .int (nI i))]) (h : CI n μ) (hn : n < 900) (hμ : okM μ) (hP : va_P D vwCl (wo ad cI cB μ) H) (hS : va_S (hiA s) s.heap H locs) (hnc : nc + 0 ≤ room_1.cells ∧ ns + 0 ≤ room_1.slots) (next : ∀ (u : Mem_) (H1 : Heap) (locs1 : List Loc), CI (n + 1) u → okM u → va_P D vwCl (wo ad cI cB u) H1 → va_S (hiA s) s.heap H1 locs1 → W p l e room_1 s m #[Value.ref b] below meth c H1 locs1 nc ns Z (F0 m 1416 lsM [])) : W p l e room_1 s m #[Value.ref b] below meth c H locs nc ns Z (F0 m 328 lsM []) := by
  have hx := C0.1.1
  have hb := C0.1.2.1
  have hbA : ¬ hiA s b := Nat.not_le.mpr hbl
  have hin : ∀ k, k < 6 → vp_in (nI (i + k)) L := fun k hk => nI_in (by omega) (by omega)
  refine lv_aload_n hx hb dL_law_328 rfl (lv_at hl 1 rfl) ?_
  refine lv_aload_n hx hb dL_law_329 rfl (lv_at hl 0 rfl) ?_
  refine lv_iload_n hx hb dL_law_330 rfl (lv_at hl 3 rfl) ?_
  refine lv_iconst (v := 1) hx hb dL_law_331 (by decide) ?_
  refine lv_iadd hx hb dL_law_332 ?_
  rw [show nI i + 1 = nI (i + 1) from nI_add i 1]
  refine va_sld hx hb hX hbl hbA hS (hin 1 (by omega)) dL_law_333 ?_
  rw [nI_clamp (by omega)]
  refine lv_aload_n hx hb dL_law_334 rfl (lv_at hl 0 rfl) ?_
  refine lv_iload_n hx hb dL_law_335 rfl (lv_at hl 3 rfl) ?_
  refine lv_iconst (v := 2) hx hb dL_law_336 (by decide) ?_
  refine lv_iadd hx hb dL_law_337 ?_
  rw [show nI i + 2 = nI (i + 2) from nI_add i 2]
  refine va_sld hx hb hX hbl hbA hS (hin 2 (by omega)) dL_law_338 ?_
  rw [nI_clamp (by omega)]
  refine lv_aload_n hx hb dL_law_339 rfl (lv_at hl 0 rfl) ?_
  refine lv_iload_n hx hb dL_law_340 rfl (lv_at hl 3 rfl) ?_
  refine lv_iconst (v := 3) hx hb dL_law_341 (by decide) ?_
  refine lv_iadd hx hb dL_law_342 ?_
  rw [show nI i + 3 = nI (i + 3) from nI_add i 3]
  refine va_sld hx hb hX hbl hbA hS (hin 3 (by omega)) dL_law_343 ?_
  rw [nI_clamp (by omega)]
  refine lv_aload_n hx hb dL_law_344 rfl (lv_at hl 0 rfl) ?_
  refine lv_iload_n hx hb dL_law_345 rfl (lv_at hl 3 rfl) ?_
  refine lv_iconst (v := 4) hx hb dL_law_346 (by decide) ?_
  refine lv_iadd hx hb dL_law_347 ?_
  rw [show nI i + 4 = nI (i + 4) from nI_add i 4]
  refine va_sld hx hb hX hbl hbA hS (hin 4 (by omega)) dL_law_348 ?_
  rw [nI_clamp (by omega)]
  refine lv_aload_n hx hb dL_law_349 rfl (lv_at hl 0 rfl) ?_
  refine lv_iload_n hx hb dL_law_350 rfl (lv_at hl 3 rfl) ?_
  refine lv_iconst (v := 5) hx hb dL_law_351 (by decide) ?_
  refine lv_iadd hx hb dL_law_352 ?_
  rw [show nI i + 5 = nI (i + 5) from nI_add i 5]
  refine va_sld hx hb hX hbl hbA hS (hin 5 (by omega)) dL_law_353 ?_
  rw [nI_clamp (by omega)]
  refine lw_cali C0 (na := 5) (o := 0) (rest := []) [I_ (xs (i + 1)).toInt, I_ (xs (i + 2)).toInt, I_ (xs (i + 3)).toInt, I_ (xs (i + 4)).toInt, I_ (xs (i + 5)).toInt] dL_law_354 lL_32 kvX7_copy (plX7 _ _) (Or.inl rfl) rfl rfl rfl rfl (by decide) (by simp [Value.category]) (by simp [emb]) rfl rfl (ok_ints (l := [(xs (i + 1)), (xs (i + 2)), (xs (i + 3)), (xs (i + 4)), (xs (i + 5))])) hμ hP hS hl.1 hnc (op_copy h hn) (fun r u H1 locs1 hq hμ hP hS => ?_)
  refine lv_aload_n hx hb dL_law_357 rfl (lv_at hl 2 rfl) ?_
  refine lv_aload_n hx hb dL_law_358 rfl (lv_at hl 0 rfl) ?_
  refine lv_iload_n hx hb dL_law_359 rfl (lv_at hl 3 rfl) ?_
  refine lv_iconst (v := 1) hx hb dL_law_360 (by decide) ?_
  refine lv_iadd hx hb dL_law_361 ?_
  rw [show nI i + 1 = nI (i + 1) from nI_add i 1]
  refine va_sld hx hb hX hbl hbA hS (hin 1 (by omega)) dL_law_362 ?_
  rw [nI_clamp (by omega)]
  refine lv_aload_n hx hb dL_law_363 rfl (lv_at hl 0 rfl) ?_
  refine lv_iload_n hx hb dL_law_364 rfl (lv_at hl 3 rfl) ?_
  refine lv_iconst (v := 2) hx hb dL_law_365 (by decide) ?_
  refine lv_iadd hx hb dL_law_366 ?_
  rw [show nI i + 2 = nI (i + 2) from nI_add i 2]
  refine va_sld hx hb hX hbl hbA hS (hin 2 (by omega)) dL_law_367 ?_
  rw [nI_clamp (by omega)]
  refine lv_aload_n hx hb dL_law_368 rfl (lv_at hl 0 rfl) ?_
  refine lv_iload_n hx hb dL_law_369 rfl (lv_at hl 3 rfl) ?_
  refine lv_iconst (v := 3) hx hb dL_law_370 (by decide) ?_
  refine lv_iadd hx hb dL_law_371 ?_
  rw [show nI i + 3 = nI (i + 3) from nI_add i 3]
  refine va_sld hx hb hX hbl hbA hS (hin 3 (by omega)) dL_law_372 ?_
  rw [nI_clamp (by omega)]
  refine lv_aload_n hx hb dL_law_373 rfl (lv_at hl 0 rfl) ?_
  refine lv_iload_n hx hb dL_law_374 rfl (lv_at hl 3 rfl) ?_
  refine lv_iconst (v := 4) hx hb dL_law_375 (by decide) ?_
  refine lv_iadd hx hb dL_law_376 ?_
  rw [show nI i + 4 = nI (i + 4) from nI_add i 4]
  refine va_sld hx hb hX hbl hbA hS (hin 4 (by omega)) dL_law_377 ?_
  rw [nI_clamp (by omega)]
  refine lv_aload_n hx hb dL_law_378 rfl (lv_at hl 0 rfl) ?_
  refine lv_iload_n hx hb dL_law_379 rfl (lv_at hl 3 rfl) ?_
  refine lv_iconst (v := 5) hx hb dL_law_380 (by decide) ?_
  refine lv_iadd hx hb dL_law_381 ?_
  rw [show nI i + 5 = nI (i + 5) from nI_add i 5]
  refine va_sld hx hb hX hbl hbA hS (hin 5 (by omega)) dL_law_382 ?_
  rw [nI_clamp (by omega)]
  refine lw_cali C0 (na := 5) (o := 50) (rest := [.int r]) [I_ (xs (i + 1)).toInt, I_ (xs (i + 2)).toInt, I_ (xs (i + 3)).toInt, I_ (xs (i + 4)).toInt, I_ (xs (i + 5)).toInt] dL_law_383 lL_36 kvX8_copy (plX8 _ _) (Or.inl rfl) rfl rfl rfl rfl (by decide) (by simp [Value.category]) (by simp [emb]) rfl rfl (ok_ints (l := [(xs (i + 1)), (xs (i + 2)), (xs (i + 3)), (xs (i + 4)), (xs (i + 5))])) hμ hP hS hl.1 hnc (hq) (fun r2 u2 H2 locs2 hq2 hμ hP hS => ?_)
  have er : r2 = r := by have := hq2.1; simp at this; exact Int32.toInt_inj.mp this
  subst er
  exact lv_icmp_eq (tgt := 1416) hx hb dL_law_386 (by decide) (fun _ => next u2 H2 locs2 hq2.2 hμ hP hS) (fun c_ => absurd rfl c_)
set_option maxHeartbeats 4000000 in
set_option maxRecDepth 100000 in
theorem lc_mean (C0 : LC p s m meth c b ad D cI cB) (hX : va_X b L xs s s.heap) (hbl : b < s.heap.size) (hL : L ≤ 384) (hi : i + 6 ≤ L) (hl : lv_has lsM 4 [(0, .ref b), (1, .ref (ad 0)), (2, .ref (ad 50)), (3, .int (nI i))]) (h : CI n μ) (hn : n < 900) (hμ : okM μ) (hP : va_P D vwCl (wo ad cI cB μ) H) (hS : va_S (hiA s) s.heap H locs) (hnc : nc + 0 ≤ room_1.cells ∧ ns + 0 ≤ room_1.slots) (next : ∀ (u : Mem_) (H1 : Heap) (locs1 : List Loc), CI (n + 1) u → okM u → va_P D vwCl (wo ad cI cB u) H1 → va_S (hiA s) s.heap H1 locs1 → W p l e room_1 s m #[Value.ref b] below meth c H1 locs1 nc ns Z (F0 m 1416 lsM [])) : W p l e room_1 s m #[Value.ref b] below meth c H locs nc ns Z (F0 m 391 lsM []) := by
  have hx := C0.1.1
  have hb := C0.1.2.1
  have hbA : ¬ hiA s b := Nat.not_le.mpr hbl
  have hin : ∀ k, k < 6 → vp_in (nI (i + k)) L := fun k hk => nI_in (by omega) (by omega)
  refine lv_aload_n hx hb dL_law_391 rfl (lv_at hl 1 rfl) ?_
  refine lv_aload_n hx hb dL_law_392 rfl (lv_at hl 0 rfl) ?_
  refine lv_iload_n hx hb dL_law_393 rfl (lv_at hl 3 rfl) ?_
  refine lv_iconst (v := 1) hx hb dL_law_394 (by decide) ?_
  refine lv_iadd hx hb dL_law_395 ?_
  rw [show nI i + 1 = nI (i + 1) from nI_add i 1]
  refine va_sld hx hb hX hbl hbA hS (hin 1 (by omega)) dL_law_396 ?_
  rw [nI_clamp (by omega)]
  refine lw_cali C0 (na := 1) (o := 0) (rest := []) [I_ (xs (i + 1)).toInt] dL_law_397 lL_37 kvX7_mean (plX7 _ _) (Or.inl rfl) rfl rfl rfl rfl (by decide) (by simp [Value.category]) (by simp [emb]) rfl rfl (ok_ints (l := [(xs (i + 1))])) hμ hP hS hl.1 hnc (op_mean h hn) (fun r u H1 locs1 hq hμ hP hS => ?_)
  refine lv_aload_n hx hb dL_law_400 rfl (lv_at hl 2 rfl) ?_
  refine lv_aload_n hx hb dL_law_401 rfl (lv_at hl 0 rfl) ?_
  refine lv_iload_n hx hb dL_law_402 rfl (lv_at hl 3 rfl) ?_
  refine lv_iconst (v := 1) hx hb dL_law_403 (by decide) ?_
  refine lv_iadd hx hb dL_law_404 ?_
  rw [show nI i + 1 = nI (i + 1) from nI_add i 1]
  refine va_sld hx hb hX hbl hbA hS (hin 1 (by omega)) dL_law_405 ?_
  rw [nI_clamp (by omega)]
  refine lw_cali C0 (na := 1) (o := 50) (rest := [.int r]) [I_ (xs (i + 1)).toInt] dL_law_406 lL_40 kvX8_mean (plX8 _ _) (Or.inl rfl) rfl rfl rfl rfl (by decide) (by simp [Value.category]) (by simp [emb]) rfl rfl (ok_ints (l := [(xs (i + 1))])) hμ hP hS hl.1 hnc (hq) (fun r2 u2 H2 locs2 hq2 hμ hP hS => ?_)
  have er : r2 = r := by have := hq2.1; simp at this; exact Int32.toInt_inj.mp this
  subst er
  exact lv_icmp_eq (tgt := 1416) hx hb dL_law_409 (by decide) (fun _ => next u2 H2 locs2 hq2.2 hμ hP hS) (fun c_ => absurd rfl c_)
set_option maxHeartbeats 4000000 in
set_option maxRecDepth 100000 in
theorem lc_text (C0 : LC p s m meth c b ad D cI cB) (hX : va_X b L xs s s.heap) (hbl : b < s.heap.size) (hL : L ≤ 384) (hi : i + 6 ≤ L) (hl : lv_has lsM 4 [(0, .ref b), (1, .ref (ad 0)), (2, .ref (ad 50)), (3, .int (nI i))]) (h : CI n μ) (hn : n < 900) (hμ : okM μ) (hP : va_P D vwCl (wo ad cI cB μ) H) (hS : va_S (hiA s) s.heap H locs) (hnc : nc + 0 ≤ room_1.cells ∧ ns + 0 ≤ room_1.slots) (next : ∀ (u : Mem_) (H1 : Heap) (locs1 : List Loc), CI (n + 1) u → okM u → va_P D vwCl (wo ad cI cB u) H1 → va_S (hiA s) s.heap H1 locs1 → W p l e room_1 s m #[Value.ref b] below meth c H1 locs1 nc ns Z (F0 m 1416 lsM [])) : W p l e room_1 s m #[Value.ref b] below meth c H locs nc ns Z (F0 m 414 lsM []) := by
  have hx := C0.1.1
  have hb := C0.1.2.1
  have hbA : ¬ hiA s b := Nat.not_le.mpr hbl
  have hin : ∀ k, k < 6 → vp_in (nI (i + k)) L := fun k hk => nI_in (by omega) (by omega)
  refine lv_aload_n hx hb dL_law_414 rfl (lv_at hl 1 rfl) ?_
  refine lv_aload_n hx hb dL_law_415 rfl (lv_at hl 0 rfl) ?_
  refine lv_iload_n hx hb dL_law_416 rfl (lv_at hl 3 rfl) ?_
  refine lv_iconst (v := 1) hx hb dL_law_417 (by decide) ?_
  refine lv_iadd hx hb dL_law_418 ?_
  rw [show nI i + 1 = nI (i + 1) from nI_add i 1]
  refine va_sld hx hb hX hbl hbA hS (hin 1 (by omega)) dL_law_419 ?_
  rw [nI_clamp (by omega)]
  refine lv_aload_n hx hb dL_law_420 rfl (lv_at hl 0 rfl) ?_
  refine lv_iload_n hx hb dL_law_421 rfl (lv_at hl 3 rfl) ?_
  refine lv_iconst (v := 2) hx hb dL_law_422 (by decide) ?_
  refine lv_iadd hx hb dL_law_423 ?_
  rw [show nI i + 2 = nI (i + 2) from nI_add i 2]
  refine va_sld hx hb hX hbl hbA hS (hin 2 (by omega)) dL_law_424 ?_
  rw [nI_clamp (by omega)]
  refine lw_cali C0 (na := 2) (o := 0) (rest := []) [I_ (xs (i + 1)).toInt, I_ (xs (i + 2)).toInt] dL_law_425 lL_41 kvX7_text (plX7 _ _) (Or.inl rfl) rfl rfl rfl rfl (by decide) (by simp [Value.category]) (by simp [emb]) rfl rfl (ok_ints (l := [(xs (i + 1)), (xs (i + 2))])) hμ hP hS hl.1 hnc (op_text h hn) (fun r u H1 locs1 hq hμ hP hS => ?_)
  refine lv_aload_n hx hb dL_law_428 rfl (lv_at hl 2 rfl) ?_
  refine lv_aload_n hx hb dL_law_429 rfl (lv_at hl 0 rfl) ?_
  refine lv_iload_n hx hb dL_law_430 rfl (lv_at hl 3 rfl) ?_
  refine lv_iconst (v := 1) hx hb dL_law_431 (by decide) ?_
  refine lv_iadd hx hb dL_law_432 ?_
  rw [show nI i + 1 = nI (i + 1) from nI_add i 1]
  refine va_sld hx hb hX hbl hbA hS (hin 1 (by omega)) dL_law_433 ?_
  rw [nI_clamp (by omega)]
  refine lv_aload_n hx hb dL_law_434 rfl (lv_at hl 0 rfl) ?_
  refine lv_iload_n hx hb dL_law_435 rfl (lv_at hl 3 rfl) ?_
  refine lv_iconst (v := 2) hx hb dL_law_436 (by decide) ?_
  refine lv_iadd hx hb dL_law_437 ?_
  rw [show nI i + 2 = nI (i + 2) from nI_add i 2]
  refine va_sld hx hb hX hbl hbA hS (hin 2 (by omega)) dL_law_438 ?_
  rw [nI_clamp (by omega)]
  refine lw_cali C0 (na := 2) (o := 50) (rest := [.int r]) [I_ (xs (i + 1)).toInt, I_ (xs (i + 2)).toInt] dL_law_439 lL_44 kvX8_text (plX8 _ _) (Or.inl rfl) rfl rfl rfl rfl (by decide) (by simp [Value.category]) (by simp [emb]) rfl rfl (ok_ints (l := [(xs (i + 1)), (xs (i + 2))])) hμ hP hS hl.1 hnc (hq) (fun r2 u2 H2 locs2 hq2 hμ hP hS => ?_)
  have er : r2 = r := by have := hq2.1; simp at this; exact Int32.toInt_inj.mp this
  subst er
  exact lv_icmp_eq (tgt := 1416) hx hb dL_law_442 (by decide) (fun _ => next u2 H2 locs2 hq2.2 hμ hP hS) (fun c_ => absurd rfl c_)
set_option maxHeartbeats 4000000 in
set_option maxRecDepth 100000 in
theorem lc_put (C0 : LC p s m meth c b ad D cI cB) (hX : va_X b L xs s s.heap) (hbl : b < s.heap.size) (hL : L ≤ 384) (hi : i + 6 ≤ L) (hl : lv_has lsM 4 [(0, .ref b), (1, .ref (ad 0)), (2, .ref (ad 50)), (3, .int (nI i))]) (h : CI n μ) (hn : n < 900) (hμ : okM μ) (hP : va_P D vwCl (wo ad cI cB μ) H) (hS : va_S (hiA s) s.heap H locs) (hnc : nc + 0 ≤ room_1.cells ∧ ns + 0 ≤ room_1.slots) (next : ∀ (u : Mem_) (H1 : Heap) (locs1 : List Loc), CI (n + 1) u → okM u → va_P D vwCl (wo ad cI cB u) H1 → va_S (hiA s) s.heap H1 locs1 → W p l e room_1 s m #[Value.ref b] below meth c H1 locs1 nc ns Z (F0 m 1416 lsM [])) : W p l e room_1 s m #[Value.ref b] below meth c H locs nc ns Z (F0 m 447 lsM []) := by
  have hx := C0.1.1
  have hb := C0.1.2.1
  have hbA : ¬ hiA s b := Nat.not_le.mpr hbl
  have hin : ∀ k, k < 6 → vp_in (nI (i + k)) L := fun k hk => nI_in (by omega) (by omega)
  refine lv_aload_n hx hb dL_law_447 rfl (lv_at hl 1 rfl) ?_
  refine lv_aload_n hx hb dL_law_448 rfl (lv_at hl 0 rfl) ?_
  refine lv_iload_n hx hb dL_law_449 rfl (lv_at hl 3 rfl) ?_
  refine lv_iconst (v := 1) hx hb dL_law_450 (by decide) ?_
  refine lv_iadd hx hb dL_law_451 ?_
  rw [show nI i + 1 = nI (i + 1) from nI_add i 1]
  refine va_sld hx hb hX hbl hbA hS (hin 1 (by omega)) dL_law_452 ?_
  rw [nI_clamp (by omega)]
  refine lv_aload_n hx hb dL_law_453 rfl (lv_at hl 0 rfl) ?_
  refine lv_iload_n hx hb dL_law_454 rfl (lv_at hl 3 rfl) ?_
  refine lv_iconst (v := 2) hx hb dL_law_455 (by decide) ?_
  refine lv_iadd hx hb dL_law_456 ?_
  rw [show nI i + 2 = nI (i + 2) from nI_add i 2]
  refine va_sld hx hb hX hbl hbA hS (hin 2 (by omega)) dL_law_457 ?_
  rw [nI_clamp (by omega)]
  refine lv_aload_n hx hb dL_law_458 rfl (lv_at hl 0 rfl) ?_
  refine lv_iload_n hx hb dL_law_459 rfl (lv_at hl 3 rfl) ?_
  refine lv_iconst (v := 3) hx hb dL_law_460 (by decide) ?_
  refine lv_iadd hx hb dL_law_461 ?_
  rw [show nI i + 3 = nI (i + 3) from nI_add i 3]
  refine va_sld hx hb hX hbl hbA hS (hin 3 (by omega)) dL_law_462 ?_
  rw [nI_clamp (by omega)]
  refine lw_cali C0 (na := 3) (o := 0) (rest := []) [I_ (xs (i + 1)).toInt, I_ (xs (i + 2)).toInt, I_ (xs (i + 3)).toInt] dL_law_463 lL_45 kvX7_put (plX7 _ _) (Or.inl rfl) rfl rfl rfl rfl (by decide) (by simp [Value.category]) (by simp [emb]) rfl rfl (ok_ints (l := [(xs (i + 1)), (xs (i + 2)), (xs (i + 3))])) hμ hP hS hl.1 hnc (op_put h hn) (fun r u H1 locs1 hq hμ hP hS => ?_)
  refine lv_aload_n hx hb dL_law_466 rfl (lv_at hl 2 rfl) ?_
  refine lv_aload_n hx hb dL_law_467 rfl (lv_at hl 0 rfl) ?_
  refine lv_iload_n hx hb dL_law_468 rfl (lv_at hl 3 rfl) ?_
  refine lv_iconst (v := 1) hx hb dL_law_469 (by decide) ?_
  refine lv_iadd hx hb dL_law_470 ?_
  rw [show nI i + 1 = nI (i + 1) from nI_add i 1]
  refine va_sld hx hb hX hbl hbA hS (hin 1 (by omega)) dL_law_471 ?_
  rw [nI_clamp (by omega)]
  refine lv_aload_n hx hb dL_law_472 rfl (lv_at hl 0 rfl) ?_
  refine lv_iload_n hx hb dL_law_473 rfl (lv_at hl 3 rfl) ?_
  refine lv_iconst (v := 2) hx hb dL_law_474 (by decide) ?_
  refine lv_iadd hx hb dL_law_475 ?_
  rw [show nI i + 2 = nI (i + 2) from nI_add i 2]
  refine va_sld hx hb hX hbl hbA hS (hin 2 (by omega)) dL_law_476 ?_
  rw [nI_clamp (by omega)]
  refine lv_aload_n hx hb dL_law_477 rfl (lv_at hl 0 rfl) ?_
  refine lv_iload_n hx hb dL_law_478 rfl (lv_at hl 3 rfl) ?_
  refine lv_iconst (v := 3) hx hb dL_law_479 (by decide) ?_
  refine lv_iadd hx hb dL_law_480 ?_
  rw [show nI i + 3 = nI (i + 3) from nI_add i 3]
  refine va_sld hx hb hX hbl hbA hS (hin 3 (by omega)) dL_law_481 ?_
  rw [nI_clamp (by omega)]
  refine lw_cali C0 (na := 3) (o := 50) (rest := [.int r]) [I_ (xs (i + 1)).toInt, I_ (xs (i + 2)).toInt, I_ (xs (i + 3)).toInt] dL_law_482 lL_48 kvX8_put (plX8 _ _) (Or.inl rfl) rfl rfl rfl rfl (by decide) (by simp [Value.category]) (by simp [emb]) rfl rfl (ok_ints (l := [(xs (i + 1)), (xs (i + 2)), (xs (i + 3))])) hμ hP hS hl.1 hnc (hq) (fun r2 u2 H2 locs2 hq2 hμ hP hS => ?_)
  have er : r2 = r := by have := hq2.1; simp at this; exact Int32.toInt_inj.mp this
  subst er
  exact lv_icmp_eq (tgt := 1416) hx hb dL_law_485 (by decide) (fun _ => next u2 H2 locs2 hq2.2 hμ hP hS) (fun c_ => absurd rfl c_)
set_option maxHeartbeats 4000000 in
set_option maxRecDepth 100000 in
theorem lc_fault (C0 : LC p s m meth c b ad D cI cB) (hX : va_X b L xs s s.heap) (hbl : b < s.heap.size) (hL : L ≤ 384) (hi : i + 6 ≤ L) (hl : lv_has lsM 4 [(0, .ref b), (1, .ref (ad 0)), (2, .ref (ad 50)), (3, .int (nI i))]) (h : CI n μ) (hn : n < 900) (hμ : okM μ) (hP : va_P D vwCl (wo ad cI cB μ) H) (hS : va_S (hiA s) s.heap H locs) (hnc : nc + 0 ≤ room_1.cells ∧ ns + 0 ≤ room_1.slots) (next : ∀ (u : Mem_) (H1 : Heap) (locs1 : List Loc), CI (n + 1) u → okM u → va_P D vwCl (wo ad cI cB u) H1 → va_S (hiA s) s.heap H1 locs1 → W p l e room_1 s m #[Value.ref b] below meth c H1 locs1 nc ns Z (F0 m 1416 lsM [])) : W p l e room_1 s m #[Value.ref b] below meth c H locs nc ns Z (F0 m 490 lsM []) := by
  have hx := C0.1.1
  have hb := C0.1.2.1
  have hbA : ¬ hiA s b := Nat.not_le.mpr hbl
  have hin : ∀ k, k < 6 → vp_in (nI (i + k)) L := fun k hk => nI_in (by omega) (by omega)
  by_cases hz : xs (i + 2) = 0
  · refine lv_aload_n hx hb dL_law_490 rfl (lv_at hl 1 rfl) ?_
    refine lv_aload_n hx hb dL_law_491 rfl (lv_at hl 0 rfl) ?_
    refine lv_iload_n hx hb dL_law_492 rfl (lv_at hl 3 rfl) ?_
    refine lv_iconst (v := 1) hx hb dL_law_493 (by decide) ?_
    refine lv_iadd hx hb dL_law_494 ?_
    rw [show nI i + 1 = nI (i + 1) from nI_add i 1]
    refine va_sld hx hb hX hbl hbA hS (hin 1 (by omega)) dL_law_495 ?_
    rw [nI_clamp (by omega)]
    refine lv_aload_n hx hb dL_law_496 rfl (lv_at hl 0 rfl) ?_
    refine lv_iload_n hx hb dL_law_497 rfl (lv_at hl 3 rfl) ?_
    refine lv_iconst (v := 2) hx hb dL_law_498 (by decide) ?_
    refine lv_iadd hx hb dL_law_499 ?_
    rw [show nI i + 2 = nI (i + 2) from nI_add i 2]
    refine va_sld hx hb hX hbl hbA hS (hin 2 (by omega)) dL_law_500 ?_
    rw [nI_clamp (by omega)]
    refine lv_if_eq (tgt := 508) hx hb dL_law_501 (by decide) (fun _ => ?_) (fun q => absurd hz q)
    refine lv_iconst (v := 0) hx hb dL_law_508 (by decide) ?_
    refine lw_cali C0 (na := 2) (o := 0) (rest := []) [I_ (xs (i + 1)).toInt, I_ (0 : Int32).toInt] dL_law_509 lL_49 kvX7_fault (plX7 _ _) (Or.inl rfl) rfl rfl rfl rfl (by decide) (by simp [Value.category]) (by simp [emb]) rfl rfl (ok_ints (l := [(xs (i + 1)), (0 : Int32)])) hμ hP hS hl.1 hnc (op_fault h hn) (fun r u H1 locs1 hq hμ hP hS => ?_)
    refine lv_aload_n hx hb dL_law_512 rfl (lv_at hl 2 rfl) ?_
    refine lv_aload_n hx hb dL_law_513 rfl (lv_at hl 0 rfl) ?_
    refine lv_iload_n hx hb dL_law_514 rfl (lv_at hl 3 rfl) ?_
    refine lv_iconst (v := 1) hx hb dL_law_515 (by decide) ?_
    refine lv_iadd hx hb dL_law_516 ?_
    rw [show nI i + 1 = nI (i + 1) from nI_add i 1]
    refine va_sld hx hb hX hbl hbA hS (hin 1 (by omega)) dL_law_517 ?_
    rw [nI_clamp (by omega)]
    refine lv_aload_n hx hb dL_law_518 rfl (lv_at hl 0 rfl) ?_
    refine lv_iload_n hx hb dL_law_519 rfl (lv_at hl 3 rfl) ?_
    refine lv_iconst (v := 2) hx hb dL_law_520 (by decide) ?_
    refine lv_iadd hx hb dL_law_521 ?_
    rw [show nI i + 2 = nI (i + 2) from nI_add i 2]
    refine va_sld hx hb hX hbl hbA hS (hin 2 (by omega)) dL_law_522 ?_
    rw [nI_clamp (by omega)]
    refine lv_if_eq (tgt := 530) hx hb dL_law_523 (by decide) (fun _ => ?_) (fun q => absurd hz q)
    refine lv_iconst (v := 0) hx hb dL_law_530 (by decide) ?_
    refine lw_cali C0 (na := 2) (o := 50) (rest := [.int r]) [I_ (xs (i + 1)).toInt, I_ (0 : Int32).toInt] dL_law_531 lL_53 kvX8_fault (plX8 _ _) (Or.inl rfl) rfl rfl rfl rfl (by decide) (by simp [Value.category]) (by simp [emb]) rfl rfl (ok_ints (l := [(xs (i + 1)), (0 : Int32)])) hμ hP hS hl.1 hnc (hq) (fun r2 u2 H2 locs2 hq2 hμ hP hS => ?_)
    have er : r2 = r := by have := hq2.1; simp at this; exact Int32.toInt_inj.mp this
    subst er
    exact lv_icmp_eq (tgt := 1416) hx hb dL_law_534 (by decide) (fun _ => next u2 H2 locs2 hq2.2 hμ hP hS) (fun c_ => absurd rfl c_)
  · refine lv_aload_n hx hb dL_law_490 rfl (lv_at hl 1 rfl) ?_
    refine lv_aload_n hx hb dL_law_491 rfl (lv_at hl 0 rfl) ?_
    refine lv_iload_n hx hb dL_law_492 rfl (lv_at hl 3 rfl) ?_
    refine lv_iconst (v := 1) hx hb dL_law_493 (by decide) ?_
    refine lv_iadd hx hb dL_law_494 ?_
    rw [show nI i + 1 = nI (i + 1) from nI_add i 1]
    refine va_sld hx hb hX hbl hbA hS (hin 1 (by omega)) dL_law_495 ?_
    rw [nI_clamp (by omega)]
    refine lv_aload_n hx hb dL_law_496 rfl (lv_at hl 0 rfl) ?_
    refine lv_iload_n hx hb dL_law_497 rfl (lv_at hl 3 rfl) ?_
    refine lv_iconst (v := 2) hx hb dL_law_498 (by decide) ?_
    refine lv_iadd hx hb dL_law_499 ?_
    rw [show nI i + 2 = nI (i + 2) from nI_add i 2]
    refine va_sld hx hb hX hbl hbA hS (hin 2 (by omega)) dL_law_500 ?_
    rw [nI_clamp (by omega)]
    refine lv_if_eq (tgt := 508) hx hb dL_law_501 (by decide) (fun q => absurd q hz) (fun _ => ?_)
    refine lv_iconst (v := 1) hx hb dL_law_504 (by decide) ?_
    refine lv_goto (tgt := 509) hx hb dL_law_505 (by decide) ?_
    refine lw_cali C0 (na := 2) (o := 0) (rest := []) [I_ (xs (i + 1)).toInt, I_ (1 : Int32).toInt] dL_law_509 lL_49 kvX7_fault (plX7 _ _) (Or.inl rfl) rfl rfl rfl rfl (by decide) (by simp [Value.category]) (by simp [emb]) rfl rfl (ok_ints (l := [(xs (i + 1)), (1 : Int32)])) hμ hP hS hl.1 hnc (op_fault h hn) (fun r u H1 locs1 hq hμ hP hS => ?_)
    refine lv_aload_n hx hb dL_law_512 rfl (lv_at hl 2 rfl) ?_
    refine lv_aload_n hx hb dL_law_513 rfl (lv_at hl 0 rfl) ?_
    refine lv_iload_n hx hb dL_law_514 rfl (lv_at hl 3 rfl) ?_
    refine lv_iconst (v := 1) hx hb dL_law_515 (by decide) ?_
    refine lv_iadd hx hb dL_law_516 ?_
    rw [show nI i + 1 = nI (i + 1) from nI_add i 1]
    refine va_sld hx hb hX hbl hbA hS (hin 1 (by omega)) dL_law_517 ?_
    rw [nI_clamp (by omega)]
    refine lv_aload_n hx hb dL_law_518 rfl (lv_at hl 0 rfl) ?_
    refine lv_iload_n hx hb dL_law_519 rfl (lv_at hl 3 rfl) ?_
    refine lv_iconst (v := 2) hx hb dL_law_520 (by decide) ?_
    refine lv_iadd hx hb dL_law_521 ?_
    rw [show nI i + 2 = nI (i + 2) from nI_add i 2]
    refine va_sld hx hb hX hbl hbA hS (hin 2 (by omega)) dL_law_522 ?_
    rw [nI_clamp (by omega)]
    refine lv_if_eq (tgt := 530) hx hb dL_law_523 (by decide) (fun q => absurd q hz) (fun _ => ?_)
    refine lv_iconst (v := 1) hx hb dL_law_526 (by decide) ?_
    refine lv_goto (tgt := 531) hx hb dL_law_527 (by decide) ?_
    refine lw_cali C0 (na := 2) (o := 50) (rest := [.int r]) [I_ (xs (i + 1)).toInt, I_ (1 : Int32).toInt] dL_law_531 lL_53 kvX8_fault (plX8 _ _) (Or.inl rfl) rfl rfl rfl rfl (by decide) (by simp [Value.category]) (by simp [emb]) rfl rfl (ok_ints (l := [(xs (i + 1)), (1 : Int32)])) hμ hP hS hl.1 hnc (hq) (fun r2 u2 H2 locs2 hq2 hμ hP hS => ?_)
    have er : r2 = r := by have := hq2.1; simp at this; exact Int32.toInt_inj.mp this
    subst er
    exact lv_icmp_eq (tgt := 1416) hx hb dL_law_534 (by decide) (fun _ => next u2 H2 locs2 hq2.2 hμ hP hS) (fun c_ => absurd rfl c_)
set_option maxHeartbeats 4000000 in
set_option maxRecDepth 100000 in
theorem lc_street (C0 : LC p s m meth c b ad D cI cB) (hX : va_X b L xs s s.heap) (hbl : b < s.heap.size) (hL : L ≤ 384) (hi : i + 6 ≤ L) (hl : lv_has lsM 4 [(0, .ref b), (1, .ref (ad 0)), (2, .ref (ad 50)), (3, .int (nI i))]) (h : CI n μ) (hn : n < 900) (hμ : okM μ) (hP : va_P D vwCl (wo ad cI cB μ) H) (hS : va_S (hiA s) s.heap H locs) (hnc : nc + 0 ≤ room_1.cells ∧ ns + 0 ≤ room_1.slots) (next : ∀ (u : Mem_) (H1 : Heap) (locs1 : List Loc), CI (n + 1) u → okM u → va_P D vwCl (wo ad cI cB u) H1 → va_S (hiA s) s.heap H1 locs1 → W p l e room_1 s m #[Value.ref b] below meth c H1 locs1 nc ns Z (F0 m 1416 lsM [])) : W p l e room_1 s m #[Value.ref b] below meth c H locs nc ns Z (F0 m 539 lsM []) := by
  have hx := C0.1.1
  have hb := C0.1.2.1
  have hbA : ¬ hiA s b := Nat.not_le.mpr hbl
  have hin : ∀ k, k < 6 → vp_in (nI (i + k)) L := fun k hk => nI_in (by omega) (by omega)
  refine lv_aload_n hx hb dL_law_539 rfl (lv_at hl 1 rfl) ?_
  refine lv_aload_n hx hb dL_law_540 rfl (lv_at hl 0 rfl) ?_
  refine lv_iload_n hx hb dL_law_541 rfl (lv_at hl 3 rfl) ?_
  refine lv_iconst (v := 1) hx hb dL_law_542 (by decide) ?_
  refine lv_iadd hx hb dL_law_543 ?_
  rw [show nI i + 1 = nI (i + 1) from nI_add i 1]
  refine va_sld hx hb hX hbl hbA hS (hin 1 (by omega)) dL_law_544 ?_
  rw [nI_clamp (by omega)]
  refine lw_cali C0 (na := 1) (o := 0) (rest := []) [I_ (xs (i + 1)).toInt] dL_law_545 lL_54 kvX7_street (plX7 _ _) (Or.inl rfl) rfl rfl rfl rfl (by decide) (by simp [Value.category]) (by simp [emb]) rfl rfl (ok_ints (l := [(xs (i + 1))])) hμ hP hS hl.1 hnc (op_street h hn) (fun r u H1 locs1 hq hμ hP hS => ?_)
  refine lv_aload_n hx hb dL_law_548 rfl (lv_at hl 2 rfl) ?_
  refine lv_aload_n hx hb dL_law_549 rfl (lv_at hl 0 rfl) ?_
  refine lv_iload_n hx hb dL_law_550 rfl (lv_at hl 3 rfl) ?_
  refine lv_iconst (v := 1) hx hb dL_law_551 (by decide) ?_
  refine lv_iadd hx hb dL_law_552 ?_
  rw [show nI i + 1 = nI (i + 1) from nI_add i 1]
  refine va_sld hx hb hX hbl hbA hS (hin 1 (by omega)) dL_law_553 ?_
  rw [nI_clamp (by omega)]
  refine lw_cali C0 (na := 1) (o := 50) (rest := [.int r]) [I_ (xs (i + 1)).toInt] dL_law_554 lL_57 kvX8_street (plX8 _ _) (Or.inl rfl) rfl rfl rfl rfl (by decide) (by simp [Value.category]) (by simp [emb]) rfl rfl (ok_ints (l := [(xs (i + 1))])) hμ hP hS hl.1 hnc (hq) (fun r2 u2 H2 locs2 hq2 hμ hP hS => ?_)
  have er : r2 = r := by have := hq2.1; simp at this; exact Int32.toInt_inj.mp this
  subst er
  exact lv_icmp_eq (tgt := 1416) hx hb dL_law_557 (by decide) (fun _ => next u2 H2 locs2 hq2.2 hμ hP hS) (fun c_ => absurd rfl c_)
set_option maxHeartbeats 4000000 in
set_option maxRecDepth 100000 in
theorem lc_year (C0 : LC p s m meth c b ad D cI cB) (hX : va_X b L xs s s.heap) (hbl : b < s.heap.size) (hL : L ≤ 384) (hi : i + 6 ≤ L) (hl : lv_has lsM 4 [(0, .ref b), (1, .ref (ad 0)), (2, .ref (ad 50)), (3, .int (nI i))]) (h : CI n μ) (hn : n < 900) (hμ : okM μ) (hP : va_P D vwCl (wo ad cI cB μ) H) (hS : va_S (hiA s) s.heap H locs) (hnc : nc + 0 ≤ room_1.cells ∧ ns + 0 ≤ room_1.slots) (next : ∀ (u : Mem_) (H1 : Heap) (locs1 : List Loc), CI (n + 1) u → okM u → va_P D vwCl (wo ad cI cB u) H1 → va_S (hiA s) s.heap H1 locs1 → W p l e room_1 s m #[Value.ref b] below meth c H1 locs1 nc ns Z (F0 m 1416 lsM [])) : W p l e room_1 s m #[Value.ref b] below meth c H locs nc ns Z (F0 m 562 lsM []) := by
  have hx := C0.1.1
  have hb := C0.1.2.1
  have hbA : ¬ hiA s b := Nat.not_le.mpr hbl
  have hin : ∀ k, k < 6 → vp_in (nI (i + k)) L := fun k hk => nI_in (by omega) (by omega)
  refine lv_aload_n hx hb dL_law_562 rfl (lv_at hl 1 rfl) ?_
  refine lv_aload_n hx hb dL_law_563 rfl (lv_at hl 0 rfl) ?_
  refine lv_iload_n hx hb dL_law_564 rfl (lv_at hl 3 rfl) ?_
  refine lv_iconst (v := 1) hx hb dL_law_565 (by decide) ?_
  refine lv_iadd hx hb dL_law_566 ?_
  rw [show nI i + 1 = nI (i + 1) from nI_add i 1]
  refine va_sld hx hb hX hbl hbA hS (hin 1 (by omega)) dL_law_567 ?_
  rw [nI_clamp (by omega)]
  refine lw_cali C0 (na := 1) (o := 0) (rest := []) [I_ (xs (i + 1)).toInt] dL_law_568 lL_58 kvX7_year (plX7 _ _) (Or.inl rfl) rfl rfl rfl rfl (by decide) (by simp [Value.category]) (by simp [emb]) rfl rfl (ok_ints (l := [(xs (i + 1))])) hμ hP hS hl.1 hnc (op_year h hn) (fun r u H1 locs1 hq hμ hP hS => ?_)
  refine lv_aload_n hx hb dL_law_571 rfl (lv_at hl 2 rfl) ?_
  refine lv_aload_n hx hb dL_law_572 rfl (lv_at hl 0 rfl) ?_
  refine lv_iload_n hx hb dL_law_573 rfl (lv_at hl 3 rfl) ?_
  refine lv_iconst (v := 1) hx hb dL_law_574 (by decide) ?_
  refine lv_iadd hx hb dL_law_575 ?_
  rw [show nI i + 1 = nI (i + 1) from nI_add i 1]
  refine va_sld hx hb hX hbl hbA hS (hin 1 (by omega)) dL_law_576 ?_
  rw [nI_clamp (by omega)]
  refine lw_cali C0 (na := 1) (o := 50) (rest := [.int r]) [I_ (xs (i + 1)).toInt] dL_law_577 lL_61 kvX8_year (plX8 _ _) (Or.inl rfl) rfl rfl rfl rfl (by decide) (by simp [Value.category]) (by simp [emb]) rfl rfl (ok_ints (l := [(xs (i + 1))])) hμ hP hS hl.1 hnc (hq) (fun r2 u2 H2 locs2 hq2 hμ hP hS => ?_)
  have er : r2 = r := by have := hq2.1; simp at this; exact Int32.toInt_inj.mp this
  subst er
  exact lv_icmp_eq (tgt := 1416) hx hb dL_law_580 (by decide) (fun _ => next u2 H2 locs2 hq2.2 hμ hP hS) (fun c_ => absurd rfl c_)
set_option maxHeartbeats 4000000 in
set_option maxRecDepth 100000 in
theorem lc_event (C0 : LC p s m meth c b ad D cI cB) (hX : va_X b L xs s s.heap) (hbl : b < s.heap.size) (hL : L ≤ 384) (hi : i + 6 ≤ L) (hl : lv_has lsM 4 [(0, .ref b), (1, .ref (ad 0)), (2, .ref (ad 50)), (3, .int (nI i))]) (h : CI n μ) (hn : n < 900) (hμ : okM μ) (hP : va_P D vwCl (wo ad cI cB μ) H) (hS : va_S (hiA s) s.heap H locs) (hnc : nc + 0 ≤ room_1.cells ∧ ns + 0 ≤ room_1.slots) (next : ∀ (u : Mem_) (H1 : Heap) (locs1 : List Loc), CI (n + 1) u → okM u → va_P D vwCl (wo ad cI cB u) H1 → va_S (hiA s) s.heap H1 locs1 → W p l e room_1 s m #[Value.ref b] below meth c H1 locs1 nc ns Z (F0 m 1416 lsM [])) : W p l e room_1 s m #[Value.ref b] below meth c H locs nc ns Z (F0 m 585 lsM []) := by
  have hx := C0.1.1
  have hb := C0.1.2.1
  have hbA : ¬ hiA s b := Nat.not_le.mpr hbl
  have hin : ∀ k, k < 6 → vp_in (nI (i + k)) L := fun k hk => nI_in (by omega) (by omega)
  by_cases hz : xs (i + 4) = 0
  · refine lv_aload_n hx hb dL_law_585 rfl (lv_at hl 1 rfl) ?_
    refine lv_aload_n hx hb dL_law_586 rfl (lv_at hl 0 rfl) ?_
    refine lv_iload_n hx hb dL_law_587 rfl (lv_at hl 3 rfl) ?_
    refine lv_iconst (v := 1) hx hb dL_law_588 (by decide) ?_
    refine lv_iadd hx hb dL_law_589 ?_
    rw [show nI i + 1 = nI (i + 1) from nI_add i 1]
    refine va_sld hx hb hX hbl hbA hS (hin 1 (by omega)) dL_law_590 ?_
    rw [nI_clamp (by omega)]
    refine lv_aload_n hx hb dL_law_591 rfl (lv_at hl 0 rfl) ?_
    refine lv_iload_n hx hb dL_law_592 rfl (lv_at hl 3 rfl) ?_
    refine lv_iconst (v := 2) hx hb dL_law_593 (by decide) ?_
    refine lv_iadd hx hb dL_law_594 ?_
    rw [show nI i + 2 = nI (i + 2) from nI_add i 2]
    refine va_sld hx hb hX hbl hbA hS (hin 2 (by omega)) dL_law_595 ?_
    rw [nI_clamp (by omega)]
    refine lv_aload_n hx hb dL_law_596 rfl (lv_at hl 0 rfl) ?_
    refine lv_iload_n hx hb dL_law_597 rfl (lv_at hl 3 rfl) ?_
    refine lv_iconst (v := 3) hx hb dL_law_598 (by decide) ?_
    refine lv_iadd hx hb dL_law_599 ?_
    rw [show nI i + 3 = nI (i + 3) from nI_add i 3]
    refine va_sld hx hb hX hbl hbA hS (hin 3 (by omega)) dL_law_600 ?_
    rw [nI_clamp (by omega)]
    refine lv_aload_n hx hb dL_law_601 rfl (lv_at hl 0 rfl) ?_
    refine lv_iload_n hx hb dL_law_602 rfl (lv_at hl 3 rfl) ?_
    refine lv_iconst (v := 4) hx hb dL_law_603 (by decide) ?_
    refine lv_iadd hx hb dL_law_604 ?_
    rw [show nI i + 4 = nI (i + 4) from nI_add i 4]
    refine va_sld hx hb hX hbl hbA hS (hin 4 (by omega)) dL_law_605 ?_
    rw [nI_clamp (by omega)]
    refine lv_if_eq (tgt := 613) hx hb dL_law_606 (by decide) (fun _ => ?_) (fun q => absurd hz q)
    refine lv_iconst (v := 0) hx hb dL_law_613 (by decide) ?_
    refine lw_cali C0 (na := 4) (o := 0) (rest := []) [I_ (xs (i + 1)).toInt, I_ (xs (i + 2)).toInt, I_ (xs (i + 3)).toInt, I_ (0 : Int32).toInt] dL_law_614 lL_62 kvX7_event (plX7 _ _) (Or.inl rfl) rfl rfl rfl rfl (by decide) (by simp [Value.category]) (by simp [emb]) rfl rfl (ok_ints (l := [(xs (i + 1)), (xs (i + 2)), (xs (i + 3)), (0 : Int32)])) hμ hP hS hl.1 hnc (op_event h hn) (fun r u H1 locs1 hq hμ hP hS => ?_)
    refine lv_aload_n hx hb dL_law_617 rfl (lv_at hl 2 rfl) ?_
    refine lv_aload_n hx hb dL_law_618 rfl (lv_at hl 0 rfl) ?_
    refine lv_iload_n hx hb dL_law_619 rfl (lv_at hl 3 rfl) ?_
    refine lv_iconst (v := 1) hx hb dL_law_620 (by decide) ?_
    refine lv_iadd hx hb dL_law_621 ?_
    rw [show nI i + 1 = nI (i + 1) from nI_add i 1]
    refine va_sld hx hb hX hbl hbA hS (hin 1 (by omega)) dL_law_622 ?_
    rw [nI_clamp (by omega)]
    refine lv_aload_n hx hb dL_law_623 rfl (lv_at hl 0 rfl) ?_
    refine lv_iload_n hx hb dL_law_624 rfl (lv_at hl 3 rfl) ?_
    refine lv_iconst (v := 2) hx hb dL_law_625 (by decide) ?_
    refine lv_iadd hx hb dL_law_626 ?_
    rw [show nI i + 2 = nI (i + 2) from nI_add i 2]
    refine va_sld hx hb hX hbl hbA hS (hin 2 (by omega)) dL_law_627 ?_
    rw [nI_clamp (by omega)]
    refine lv_aload_n hx hb dL_law_628 rfl (lv_at hl 0 rfl) ?_
    refine lv_iload_n hx hb dL_law_629 rfl (lv_at hl 3 rfl) ?_
    refine lv_iconst (v := 3) hx hb dL_law_630 (by decide) ?_
    refine lv_iadd hx hb dL_law_631 ?_
    rw [show nI i + 3 = nI (i + 3) from nI_add i 3]
    refine va_sld hx hb hX hbl hbA hS (hin 3 (by omega)) dL_law_632 ?_
    rw [nI_clamp (by omega)]
    refine lv_aload_n hx hb dL_law_633 rfl (lv_at hl 0 rfl) ?_
    refine lv_iload_n hx hb dL_law_634 rfl (lv_at hl 3 rfl) ?_
    refine lv_iconst (v := 4) hx hb dL_law_635 (by decide) ?_
    refine lv_iadd hx hb dL_law_636 ?_
    rw [show nI i + 4 = nI (i + 4) from nI_add i 4]
    refine va_sld hx hb hX hbl hbA hS (hin 4 (by omega)) dL_law_637 ?_
    rw [nI_clamp (by omega)]
    refine lv_if_eq (tgt := 645) hx hb dL_law_638 (by decide) (fun _ => ?_) (fun q => absurd hz q)
    refine lv_iconst (v := 0) hx hb dL_law_645 (by decide) ?_
    refine lw_cali C0 (na := 4) (o := 50) (rest := [.int r]) [I_ (xs (i + 1)).toInt, I_ (xs (i + 2)).toInt, I_ (xs (i + 3)).toInt, I_ (0 : Int32).toInt] dL_law_646 lL_66 kvX8_event (plX8 _ _) (Or.inl rfl) rfl rfl rfl rfl (by decide) (by simp [Value.category]) (by simp [emb]) rfl rfl (ok_ints (l := [(xs (i + 1)), (xs (i + 2)), (xs (i + 3)), (0 : Int32)])) hμ hP hS hl.1 hnc (hq) (fun r2 u2 H2 locs2 hq2 hμ hP hS => ?_)
    have er : r2 = r := by have := hq2.1; simp at this; exact Int32.toInt_inj.mp this
    subst er
    exact lv_icmp_eq (tgt := 1416) hx hb dL_law_649 (by decide) (fun _ => next u2 H2 locs2 hq2.2 hμ hP hS) (fun c_ => absurd rfl c_)
  · refine lv_aload_n hx hb dL_law_585 rfl (lv_at hl 1 rfl) ?_
    refine lv_aload_n hx hb dL_law_586 rfl (lv_at hl 0 rfl) ?_
    refine lv_iload_n hx hb dL_law_587 rfl (lv_at hl 3 rfl) ?_
    refine lv_iconst (v := 1) hx hb dL_law_588 (by decide) ?_
    refine lv_iadd hx hb dL_law_589 ?_
    rw [show nI i + 1 = nI (i + 1) from nI_add i 1]
    refine va_sld hx hb hX hbl hbA hS (hin 1 (by omega)) dL_law_590 ?_
    rw [nI_clamp (by omega)]
    refine lv_aload_n hx hb dL_law_591 rfl (lv_at hl 0 rfl) ?_
    refine lv_iload_n hx hb dL_law_592 rfl (lv_at hl 3 rfl) ?_
    refine lv_iconst (v := 2) hx hb dL_law_593 (by decide) ?_
    refine lv_iadd hx hb dL_law_594 ?_
    rw [show nI i + 2 = nI (i + 2) from nI_add i 2]
    refine va_sld hx hb hX hbl hbA hS (hin 2 (by omega)) dL_law_595 ?_
    rw [nI_clamp (by omega)]
    refine lv_aload_n hx hb dL_law_596 rfl (lv_at hl 0 rfl) ?_
    refine lv_iload_n hx hb dL_law_597 rfl (lv_at hl 3 rfl) ?_
    refine lv_iconst (v := 3) hx hb dL_law_598 (by decide) ?_
    refine lv_iadd hx hb dL_law_599 ?_
    rw [show nI i + 3 = nI (i + 3) from nI_add i 3]
    refine va_sld hx hb hX hbl hbA hS (hin 3 (by omega)) dL_law_600 ?_
    rw [nI_clamp (by omega)]
    refine lv_aload_n hx hb dL_law_601 rfl (lv_at hl 0 rfl) ?_
    refine lv_iload_n hx hb dL_law_602 rfl (lv_at hl 3 rfl) ?_
    refine lv_iconst (v := 4) hx hb dL_law_603 (by decide) ?_
    refine lv_iadd hx hb dL_law_604 ?_
    rw [show nI i + 4 = nI (i + 4) from nI_add i 4]
    refine va_sld hx hb hX hbl hbA hS (hin 4 (by omega)) dL_law_605 ?_
    rw [nI_clamp (by omega)]
    refine lv_if_eq (tgt := 613) hx hb dL_law_606 (by decide) (fun q => absurd q hz) (fun _ => ?_)
    refine lv_iconst (v := 1) hx hb dL_law_609 (by decide) ?_
    refine lv_goto (tgt := 614) hx hb dL_law_610 (by decide) ?_
    refine lw_cali C0 (na := 4) (o := 0) (rest := []) [I_ (xs (i + 1)).toInt, I_ (xs (i + 2)).toInt, I_ (xs (i + 3)).toInt, I_ (1 : Int32).toInt] dL_law_614 lL_62 kvX7_event (plX7 _ _) (Or.inl rfl) rfl rfl rfl rfl (by decide) (by simp [Value.category]) (by simp [emb]) rfl rfl (ok_ints (l := [(xs (i + 1)), (xs (i + 2)), (xs (i + 3)), (1 : Int32)])) hμ hP hS hl.1 hnc (op_event h hn) (fun r u H1 locs1 hq hμ hP hS => ?_)
    refine lv_aload_n hx hb dL_law_617 rfl (lv_at hl 2 rfl) ?_
    refine lv_aload_n hx hb dL_law_618 rfl (lv_at hl 0 rfl) ?_
    refine lv_iload_n hx hb dL_law_619 rfl (lv_at hl 3 rfl) ?_
    refine lv_iconst (v := 1) hx hb dL_law_620 (by decide) ?_
    refine lv_iadd hx hb dL_law_621 ?_
    rw [show nI i + 1 = nI (i + 1) from nI_add i 1]
    refine va_sld hx hb hX hbl hbA hS (hin 1 (by omega)) dL_law_622 ?_
    rw [nI_clamp (by omega)]
    refine lv_aload_n hx hb dL_law_623 rfl (lv_at hl 0 rfl) ?_
    refine lv_iload_n hx hb dL_law_624 rfl (lv_at hl 3 rfl) ?_
    refine lv_iconst (v := 2) hx hb dL_law_625 (by decide) ?_
    refine lv_iadd hx hb dL_law_626 ?_
    rw [show nI i + 2 = nI (i + 2) from nI_add i 2]
    refine va_sld hx hb hX hbl hbA hS (hin 2 (by omega)) dL_law_627 ?_
    rw [nI_clamp (by omega)]
    refine lv_aload_n hx hb dL_law_628 rfl (lv_at hl 0 rfl) ?_
    refine lv_iload_n hx hb dL_law_629 rfl (lv_at hl 3 rfl) ?_
    refine lv_iconst (v := 3) hx hb dL_law_630 (by decide) ?_
    refine lv_iadd hx hb dL_law_631 ?_
    rw [show nI i + 3 = nI (i + 3) from nI_add i 3]
    refine va_sld hx hb hX hbl hbA hS (hin 3 (by omega)) dL_law_632 ?_
    rw [nI_clamp (by omega)]
    refine lv_aload_n hx hb dL_law_633 rfl (lv_at hl 0 rfl) ?_
    refine lv_iload_n hx hb dL_law_634 rfl (lv_at hl 3 rfl) ?_
    refine lv_iconst (v := 4) hx hb dL_law_635 (by decide) ?_
    refine lv_iadd hx hb dL_law_636 ?_
    rw [show nI i + 4 = nI (i + 4) from nI_add i 4]
    refine va_sld hx hb hX hbl hbA hS (hin 4 (by omega)) dL_law_637 ?_
    rw [nI_clamp (by omega)]
    refine lv_if_eq (tgt := 645) hx hb dL_law_638 (by decide) (fun q => absurd q hz) (fun _ => ?_)
    refine lv_iconst (v := 1) hx hb dL_law_641 (by decide) ?_
    refine lv_goto (tgt := 646) hx hb dL_law_642 (by decide) ?_
    refine lw_cali C0 (na := 4) (o := 50) (rest := [.int r]) [I_ (xs (i + 1)).toInt, I_ (xs (i + 2)).toInt, I_ (xs (i + 3)).toInt, I_ (1 : Int32).toInt] dL_law_646 lL_66 kvX8_event (plX8 _ _) (Or.inl rfl) rfl rfl rfl rfl (by decide) (by simp [Value.category]) (by simp [emb]) rfl rfl (ok_ints (l := [(xs (i + 1)), (xs (i + 2)), (xs (i + 3)), (1 : Int32)])) hμ hP hS hl.1 hnc (hq) (fun r2 u2 H2 locs2 hq2 hμ hP hS => ?_)
    have er : r2 = r := by have := hq2.1; simp at this; exact Int32.toInt_inj.mp this
    subst er
    exact lv_icmp_eq (tgt := 1416) hx hb dL_law_649 (by decide) (fun _ => next u2 H2 locs2 hq2.2 hμ hP hS) (fun c_ => absurd rfl c_)
set_option maxHeartbeats 4000000 in
set_option maxRecDepth 100000 in
theorem lc_back (C0 : LC p s m meth c b ad D cI cB) (hX : va_X b L xs s s.heap) (hbl : b < s.heap.size) (hL : L ≤ 384) (hi : i + 6 ≤ L) (hl : lv_has lsM 4 [(0, .ref b), (1, .ref (ad 0)), (2, .ref (ad 50)), (3, .int (nI i))]) (h : CI n μ) (hn : n < 900) (hμ : okM μ) (hP : va_P D vwCl (wo ad cI cB μ) H) (hS : va_S (hiA s) s.heap H locs) (hnc : nc + 0 ≤ room_1.cells ∧ ns + 0 ≤ room_1.slots) (next : ∀ (u : Mem_) (H1 : Heap) (locs1 : List Loc), CI (n + 1) u → okM u → va_P D vwCl (wo ad cI cB u) H1 → va_S (hiA s) s.heap H1 locs1 → W p l e room_1 s m #[Value.ref b] below meth c H1 locs1 nc ns Z (F0 m 1416 lsM [])) : W p l e room_1 s m #[Value.ref b] below meth c H locs nc ns Z (F0 m 654 lsM []) := by
  have hx := C0.1.1
  have hb := C0.1.2.1
  have hbA : ¬ hiA s b := Nat.not_le.mpr hbl
  have hin : ∀ k, k < 6 → vp_in (nI (i + k)) L := fun k hk => nI_in (by omega) (by omega)
  refine lv_aload_n hx hb dL_law_654 rfl (lv_at hl 1 rfl) ?_
  refine lv_aload_n hx hb dL_law_655 rfl (lv_at hl 0 rfl) ?_
  refine lv_iload_n hx hb dL_law_656 rfl (lv_at hl 3 rfl) ?_
  refine lv_iconst (v := 1) hx hb dL_law_657 (by decide) ?_
  refine lv_iadd hx hb dL_law_658 ?_
  rw [show nI i + 1 = nI (i + 1) from nI_add i 1]
  refine va_sld hx hb hX hbl hbA hS (hin 1 (by omega)) dL_law_659 ?_
  rw [nI_clamp (by omega)]
  refine lw_cali C0 (na := 1) (o := 0) (rest := []) [I_ (xs (i + 1)).toInt] dL_law_660 lL_67 kvX7_back (plX7 _ _) (Or.inl rfl) rfl rfl rfl rfl (by decide) (by simp [Value.category]) (by simp [emb]) rfl rfl (ok_ints (l := [(xs (i + 1))])) hμ hP hS hl.1 hnc (op_back h hn) (fun r u H1 locs1 hq hμ hP hS => ?_)
  refine lv_aload_n hx hb dL_law_663 rfl (lv_at hl 2 rfl) ?_
  refine lv_aload_n hx hb dL_law_664 rfl (lv_at hl 0 rfl) ?_
  refine lv_iload_n hx hb dL_law_665 rfl (lv_at hl 3 rfl) ?_
  refine lv_iconst (v := 1) hx hb dL_law_666 (by decide) ?_
  refine lv_iadd hx hb dL_law_667 ?_
  rw [show nI i + 1 = nI (i + 1) from nI_add i 1]
  refine va_sld hx hb hX hbl hbA hS (hin 1 (by omega)) dL_law_668 ?_
  rw [nI_clamp (by omega)]
  refine lw_cali C0 (na := 1) (o := 50) (rest := [.int r]) [I_ (xs (i + 1)).toInt] dL_law_669 lL_70 kvX8_back (plX8 _ _) (Or.inl rfl) rfl rfl rfl rfl (by decide) (by simp [Value.category]) (by simp [emb]) rfl rfl (ok_ints (l := [(xs (i + 1))])) hμ hP hS hl.1 hnc (hq) (fun r2 u2 H2 locs2 hq2 hμ hP hS => ?_)
  have er : r2 = r := by have := hq2.1; simp at this; exact Int32.toInt_inj.mp this
  subst er
  exact lv_icmp_eq (tgt := 1416) hx hb dL_law_672 (by decide) (fun _ => next u2 H2 locs2 hq2.2 hμ hP hS) (fun c_ => absurd rfl c_)
set_option maxHeartbeats 4000000 in
set_option maxRecDepth 100000 in
theorem lc_told (C0 : LC p s m meth c b ad D cI cB) (hX : va_X b L xs s s.heap) (hbl : b < s.heap.size) (hL : L ≤ 384) (hi : i + 6 ≤ L) (hl : lv_has lsM 4 [(0, .ref b), (1, .ref (ad 0)), (2, .ref (ad 50)), (3, .int (nI i))]) (h : CI n μ) (hn : n < 900) (hμ : okM μ) (hP : va_P D vwCl (wo ad cI cB μ) H) (hS : va_S (hiA s) s.heap H locs) (hnc : nc + 0 ≤ room_1.cells ∧ ns + 0 ≤ room_1.slots) (next : ∀ (u : Mem_) (H1 : Heap) (locs1 : List Loc), CI (n + 1) u → okM u → va_P D vwCl (wo ad cI cB u) H1 → va_S (hiA s) s.heap H1 locs1 → W p l e room_1 s m #[Value.ref b] below meth c H1 locs1 nc ns Z (F0 m 1416 lsM [])) : W p l e room_1 s m #[Value.ref b] below meth c H locs nc ns Z (F0 m 677 lsM []) := by
  have hx := C0.1.1
  have hb := C0.1.2.1
  have hbA : ¬ hiA s b := Nat.not_le.mpr hbl
  have hin : ∀ k, k < 6 → vp_in (nI (i + k)) L := fun k hk => nI_in (by omega) (by omega)
  refine lv_aload_n hx hb dL_law_677 rfl (lv_at hl 1 rfl) ?_
  refine lv_aload_n hx hb dL_law_678 rfl (lv_at hl 0 rfl) ?_
  refine lv_iload_n hx hb dL_law_679 rfl (lv_at hl 3 rfl) ?_
  refine lv_iconst (v := 1) hx hb dL_law_680 (by decide) ?_
  refine lv_iadd hx hb dL_law_681 ?_
  rw [show nI i + 1 = nI (i + 1) from nI_add i 1]
  refine va_sld hx hb hX hbl hbA hS (hin 1 (by omega)) dL_law_682 ?_
  rw [nI_clamp (by omega)]
  refine lv_aload_n hx hb dL_law_683 rfl (lv_at hl 0 rfl) ?_
  refine lv_iload_n hx hb dL_law_684 rfl (lv_at hl 3 rfl) ?_
  refine lv_iconst (v := 2) hx hb dL_law_685 (by decide) ?_
  refine lv_iadd hx hb dL_law_686 ?_
  rw [show nI i + 2 = nI (i + 2) from nI_add i 2]
  refine va_sld hx hb hX hbl hbA hS (hin 2 (by omega)) dL_law_687 ?_
  rw [nI_clamp (by omega)]
  refine lw_cali C0 (na := 2) (o := 0) (rest := []) [I_ (xs (i + 1)).toInt, I_ (xs (i + 2)).toInt] dL_law_688 lL_71 kvX7_told (plX7 _ _) (Or.inl rfl) rfl rfl rfl rfl (by decide) (by simp [Value.category]) (by simp [emb]) rfl rfl (ok_ints (l := [(xs (i + 1)), (xs (i + 2))])) hμ hP hS hl.1 hnc (op_told h hn) (fun r u H1 locs1 hq hμ hP hS => ?_)
  refine lv_aload_n hx hb dL_law_691 rfl (lv_at hl 2 rfl) ?_
  refine lv_aload_n hx hb dL_law_692 rfl (lv_at hl 0 rfl) ?_
  refine lv_iload_n hx hb dL_law_693 rfl (lv_at hl 3 rfl) ?_
  refine lv_iconst (v := 1) hx hb dL_law_694 (by decide) ?_
  refine lv_iadd hx hb dL_law_695 ?_
  rw [show nI i + 1 = nI (i + 1) from nI_add i 1]
  refine va_sld hx hb hX hbl hbA hS (hin 1 (by omega)) dL_law_696 ?_
  rw [nI_clamp (by omega)]
  refine lv_aload_n hx hb dL_law_697 rfl (lv_at hl 0 rfl) ?_
  refine lv_iload_n hx hb dL_law_698 rfl (lv_at hl 3 rfl) ?_
  refine lv_iconst (v := 2) hx hb dL_law_699 (by decide) ?_
  refine lv_iadd hx hb dL_law_700 ?_
  rw [show nI i + 2 = nI (i + 2) from nI_add i 2]
  refine va_sld hx hb hX hbl hbA hS (hin 2 (by omega)) dL_law_701 ?_
  rw [nI_clamp (by omega)]
  refine lw_cali C0 (na := 2) (o := 50) (rest := [.int r]) [I_ (xs (i + 1)).toInt, I_ (xs (i + 2)).toInt] dL_law_702 lL_74 kvX8_told (plX8 _ _) (Or.inl rfl) rfl rfl rfl rfl (by decide) (by simp [Value.category]) (by simp [emb]) rfl rfl (ok_ints (l := [(xs (i + 1)), (xs (i + 2))])) hμ hP hS hl.1 hnc (hq) (fun r2 u2 H2 locs2 hq2 hμ hP hS => ?_)
  have er : r2 = r := by have := hq2.1; simp at this; exact Int32.toInt_inj.mp this
  subst er
  exact lv_icmp_eq (tgt := 1416) hx hb dL_law_705 (by decide) (fun _ => next u2 H2 locs2 hq2.2 hμ hP hS) (fun c_ => absurd rfl c_)
set_option maxHeartbeats 4000000 in
set_option maxRecDepth 100000 in
theorem lc_mark (C0 : LC p s m meth c b ad D cI cB) (hX : va_X b L xs s s.heap) (hbl : b < s.heap.size) (hL : L ≤ 384) (hi : i + 6 ≤ L) (hl : lv_has lsM 4 [(0, .ref b), (1, .ref (ad 0)), (2, .ref (ad 50)), (3, .int (nI i))]) (h : CI n μ) (hn : n < 900) (hμ : okM μ) (hP : va_P D vwCl (wo ad cI cB μ) H) (hS : va_S (hiA s) s.heap H locs) (hnc : nc + 0 ≤ room_1.cells ∧ ns + 0 ≤ room_1.slots) (next : ∀ (u : Mem_) (H1 : Heap) (locs1 : List Loc), CI (n + 1) u → okM u → va_P D vwCl (wo ad cI cB u) H1 → va_S (hiA s) s.heap H1 locs1 → W p l e room_1 s m #[Value.ref b] below meth c H1 locs1 nc ns Z (F0 m 1416 lsM [])) : W p l e room_1 s m #[Value.ref b] below meth c H locs nc ns Z (F0 m 710 lsM []) := by
  have hx := C0.1.1
  have hb := C0.1.2.1
  have hbA : ¬ hiA s b := Nat.not_le.mpr hbl
  have hin : ∀ k, k < 6 → vp_in (nI (i + k)) L := fun k hk => nI_in (by omega) (by omega)
  refine lv_aload_n hx hb dL_law_710 rfl (lv_at hl 1 rfl) ?_
  refine lv_aload_n hx hb dL_law_711 rfl (lv_at hl 0 rfl) ?_
  refine lv_iload_n hx hb dL_law_712 rfl (lv_at hl 3 rfl) ?_
  refine lv_iconst (v := 1) hx hb dL_law_713 (by decide) ?_
  refine lv_iadd hx hb dL_law_714 ?_
  rw [show nI i + 1 = nI (i + 1) from nI_add i 1]
  refine va_sld hx hb hX hbl hbA hS (hin 1 (by omega)) dL_law_715 ?_
  rw [nI_clamp (by omega)]
  refine lv_aload_n hx hb dL_law_716 rfl (lv_at hl 0 rfl) ?_
  refine lv_iload_n hx hb dL_law_717 rfl (lv_at hl 3 rfl) ?_
  refine lv_iconst (v := 2) hx hb dL_law_718 (by decide) ?_
  refine lv_iadd hx hb dL_law_719 ?_
  rw [show nI i + 2 = nI (i + 2) from nI_add i 2]
  refine va_sld hx hb hX hbl hbA hS (hin 2 (by omega)) dL_law_720 ?_
  rw [nI_clamp (by omega)]
  refine lw_cali C0 (na := 2) (o := 0) (rest := []) [I_ (xs (i + 1)).toInt, I_ (xs (i + 2)).toInt] dL_law_721 lL_75 kvX7_mark (plX7 _ _) (Or.inl rfl) rfl rfl rfl rfl (by decide) (by simp [Value.category]) (by simp [emb]) rfl rfl (ok_ints (l := [(xs (i + 1)), (xs (i + 2))])) hμ hP hS hl.1 hnc (op_mark h hn) (fun r u H1 locs1 hq hμ hP hS => ?_)
  refine lv_aload_n hx hb dL_law_724 rfl (lv_at hl 2 rfl) ?_
  refine lv_aload_n hx hb dL_law_725 rfl (lv_at hl 0 rfl) ?_
  refine lv_iload_n hx hb dL_law_726 rfl (lv_at hl 3 rfl) ?_
  refine lv_iconst (v := 1) hx hb dL_law_727 (by decide) ?_
  refine lv_iadd hx hb dL_law_728 ?_
  rw [show nI i + 1 = nI (i + 1) from nI_add i 1]
  refine va_sld hx hb hX hbl hbA hS (hin 1 (by omega)) dL_law_729 ?_
  rw [nI_clamp (by omega)]
  refine lv_aload_n hx hb dL_law_730 rfl (lv_at hl 0 rfl) ?_
  refine lv_iload_n hx hb dL_law_731 rfl (lv_at hl 3 rfl) ?_
  refine lv_iconst (v := 2) hx hb dL_law_732 (by decide) ?_
  refine lv_iadd hx hb dL_law_733 ?_
  rw [show nI i + 2 = nI (i + 2) from nI_add i 2]
  refine va_sld hx hb hX hbl hbA hS (hin 2 (by omega)) dL_law_734 ?_
  rw [nI_clamp (by omega)]
  refine lw_cali C0 (na := 2) (o := 50) (rest := [.int r]) [I_ (xs (i + 1)).toInt, I_ (xs (i + 2)).toInt] dL_law_735 lL_78 kvX8_mark (plX8 _ _) (Or.inl rfl) rfl rfl rfl rfl (by decide) (by simp [Value.category]) (by simp [emb]) rfl rfl (ok_ints (l := [(xs (i + 1)), (xs (i + 2))])) hμ hP hS hl.1 hnc (hq) (fun r2 u2 H2 locs2 hq2 hμ hP hS => ?_)
  have er : r2 = r := by have := hq2.1; simp at this; exact Int32.toInt_inj.mp this
  subst er
  exact lv_icmp_eq (tgt := 1416) hx hb dL_law_738 (by decide) (fun _ => next u2 H2 locs2 hq2.2 hμ hP hS) (fun c_ => absurd rfl c_)
set_option maxHeartbeats 4000000 in
set_option maxRecDepth 100000 in
theorem lc_house (C0 : LC p s m meth c b ad D cI cB) (hX : va_X b L xs s s.heap) (hbl : b < s.heap.size) (hL : L ≤ 384) (hi : i + 6 ≤ L) (hl : lv_has lsM 4 [(0, .ref b), (1, .ref (ad 0)), (2, .ref (ad 50)), (3, .int (nI i))]) (h : CI n μ) (hn : n < 900) (hμ : okM μ) (hP : va_P D vwCl (wo ad cI cB μ) H) (hS : va_S (hiA s) s.heap H locs) (hnc : nc + 0 ≤ room_1.cells ∧ ns + 0 ≤ room_1.slots) (next : ∀ (u : Mem_) (H1 : Heap) (locs1 : List Loc), CI (n + 1) u → okM u → va_P D vwCl (wo ad cI cB u) H1 → va_S (hiA s) s.heap H1 locs1 → W p l e room_1 s m #[Value.ref b] below meth c H1 locs1 nc ns Z (F0 m 1416 lsM [])) : W p l e room_1 s m #[Value.ref b] below meth c H locs nc ns Z (F0 m 743 lsM []) := by
  have hx := C0.1.1
  have hb := C0.1.2.1
  have hbA : ¬ hiA s b := Nat.not_le.mpr hbl
  have hin : ∀ k, k < 6 → vp_in (nI (i + k)) L := fun k hk => nI_in (by omega) (by omega)
  refine lv_aload_n hx hb dL_law_743 rfl (lv_at hl 1 rfl) ?_
  refine lv_aload_n hx hb dL_law_744 rfl (lv_at hl 0 rfl) ?_
  refine lv_iload_n hx hb dL_law_745 rfl (lv_at hl 3 rfl) ?_
  refine lv_iconst (v := 1) hx hb dL_law_746 (by decide) ?_
  refine lv_iadd hx hb dL_law_747 ?_
  rw [show nI i + 1 = nI (i + 1) from nI_add i 1]
  refine va_sld hx hb hX hbl hbA hS (hin 1 (by omega)) dL_law_748 ?_
  rw [nI_clamp (by omega)]
  refine lv_aload_n hx hb dL_law_749 rfl (lv_at hl 0 rfl) ?_
  refine lv_iload_n hx hb dL_law_750 rfl (lv_at hl 3 rfl) ?_
  refine lv_iconst (v := 2) hx hb dL_law_751 (by decide) ?_
  refine lv_iadd hx hb dL_law_752 ?_
  rw [show nI i + 2 = nI (i + 2) from nI_add i 2]
  refine va_sld hx hb hX hbl hbA hS (hin 2 (by omega)) dL_law_753 ?_
  rw [nI_clamp (by omega)]
  refine lw_cali C0 (na := 2) (o := 0) (rest := []) [I_ (xs (i + 1)).toInt, I_ (xs (i + 2)).toInt] dL_law_754 lL_79 kvX7_house (plX7 _ _) (Or.inl rfl) rfl rfl rfl rfl (by decide) (by simp [Value.category]) (by simp [emb]) rfl rfl (ok_ints (l := [(xs (i + 1)), (xs (i + 2))])) hμ hP hS hl.1 hnc (op_house h hn) (fun r u H1 locs1 hq hμ hP hS => ?_)
  refine lv_aload_n hx hb dL_law_757 rfl (lv_at hl 2 rfl) ?_
  refine lv_aload_n hx hb dL_law_758 rfl (lv_at hl 0 rfl) ?_
  refine lv_iload_n hx hb dL_law_759 rfl (lv_at hl 3 rfl) ?_
  refine lv_iconst (v := 1) hx hb dL_law_760 (by decide) ?_
  refine lv_iadd hx hb dL_law_761 ?_
  rw [show nI i + 1 = nI (i + 1) from nI_add i 1]
  refine va_sld hx hb hX hbl hbA hS (hin 1 (by omega)) dL_law_762 ?_
  rw [nI_clamp (by omega)]
  refine lv_aload_n hx hb dL_law_763 rfl (lv_at hl 0 rfl) ?_
  refine lv_iload_n hx hb dL_law_764 rfl (lv_at hl 3 rfl) ?_
  refine lv_iconst (v := 2) hx hb dL_law_765 (by decide) ?_
  refine lv_iadd hx hb dL_law_766 ?_
  rw [show nI i + 2 = nI (i + 2) from nI_add i 2]
  refine va_sld hx hb hX hbl hbA hS (hin 2 (by omega)) dL_law_767 ?_
  rw [nI_clamp (by omega)]
  refine lw_cali C0 (na := 2) (o := 50) (rest := [.int r]) [I_ (xs (i + 1)).toInt, I_ (xs (i + 2)).toInt] dL_law_768 lL_82 kvX8_house (plX8 _ _) (Or.inl rfl) rfl rfl rfl rfl (by decide) (by simp [Value.category]) (by simp [emb]) rfl rfl (ok_ints (l := [(xs (i + 1)), (xs (i + 2))])) hμ hP hS hl.1 hnc (hq) (fun r2 u2 H2 locs2 hq2 hμ hP hS => ?_)
  have er : r2 = r := by have := hq2.1; simp at this; exact Int32.toInt_inj.mp this
  subst er
  exact lv_icmp_eq (tgt := 1416) hx hb dL_law_771 (by decide) (fun _ => next u2 H2 locs2 hq2.2 hμ hP hS) (fun c_ => absurd rfl c_)
set_option maxHeartbeats 4000000 in
set_option maxRecDepth 100000 in
theorem lc_person (C0 : LC p s m meth c b ad D cI cB) (hX : va_X b L xs s s.heap) (hbl : b < s.heap.size) (hL : L ≤ 384) (hi : i + 6 ≤ L) (hl : lv_has lsM 4 [(0, .ref b), (1, .ref (ad 0)), (2, .ref (ad 50)), (3, .int (nI i))]) (h : CI n μ) (hn : n < 900) (hμ : okM μ) (hP : va_P D vwCl (wo ad cI cB μ) H) (hS : va_S (hiA s) s.heap H locs) (hnc : nc + 0 ≤ room_1.cells ∧ ns + 0 ≤ room_1.slots) (next : ∀ (u : Mem_) (H1 : Heap) (locs1 : List Loc), CI (n + 1) u → okM u → va_P D vwCl (wo ad cI cB u) H1 → va_S (hiA s) s.heap H1 locs1 → W p l e room_1 s m #[Value.ref b] below meth c H1 locs1 nc ns Z (F0 m 1416 lsM [])) : W p l e room_1 s m #[Value.ref b] below meth c H locs nc ns Z (F0 m 776 lsM []) := by
  have hx := C0.1.1
  have hb := C0.1.2.1
  have hbA : ¬ hiA s b := Nat.not_le.mpr hbl
  have hin : ∀ k, k < 6 → vp_in (nI (i + k)) L := fun k hk => nI_in (by omega) (by omega)
  refine lv_aload_n hx hb dL_law_776 rfl (lv_at hl 1 rfl) ?_
  refine lv_aload_n hx hb dL_law_777 rfl (lv_at hl 0 rfl) ?_
  refine lv_iload_n hx hb dL_law_778 rfl (lv_at hl 3 rfl) ?_
  refine lv_iconst (v := 1) hx hb dL_law_779 (by decide) ?_
  refine lv_iadd hx hb dL_law_780 ?_
  rw [show nI i + 1 = nI (i + 1) from nI_add i 1]
  refine va_sld hx hb hX hbl hbA hS (hin 1 (by omega)) dL_law_781 ?_
  rw [nI_clamp (by omega)]
  refine lv_aload_n hx hb dL_law_782 rfl (lv_at hl 0 rfl) ?_
  refine lv_iload_n hx hb dL_law_783 rfl (lv_at hl 3 rfl) ?_
  refine lv_iconst (v := 2) hx hb dL_law_784 (by decide) ?_
  refine lv_iadd hx hb dL_law_785 ?_
  rw [show nI i + 2 = nI (i + 2) from nI_add i 2]
  refine va_sld hx hb hX hbl hbA hS (hin 2 (by omega)) dL_law_786 ?_
  rw [nI_clamp (by omega)]
  refine lw_cali C0 (na := 2) (o := 0) (rest := []) [I_ (xs (i + 1)).toInt, I_ (xs (i + 2)).toInt] dL_law_787 lL_83 kvX7_person (plX7 _ _) (Or.inl rfl) rfl rfl rfl rfl (by decide) (by simp [Value.category]) (by simp [emb]) rfl rfl (ok_ints (l := [(xs (i + 1)), (xs (i + 2))])) hμ hP hS hl.1 hnc (op_person h hn) (fun r u H1 locs1 hq hμ hP hS => ?_)
  refine lv_aload_n hx hb dL_law_790 rfl (lv_at hl 2 rfl) ?_
  refine lv_aload_n hx hb dL_law_791 rfl (lv_at hl 0 rfl) ?_
  refine lv_iload_n hx hb dL_law_792 rfl (lv_at hl 3 rfl) ?_
  refine lv_iconst (v := 1) hx hb dL_law_793 (by decide) ?_
  refine lv_iadd hx hb dL_law_794 ?_
  rw [show nI i + 1 = nI (i + 1) from nI_add i 1]
  refine va_sld hx hb hX hbl hbA hS (hin 1 (by omega)) dL_law_795 ?_
  rw [nI_clamp (by omega)]
  refine lv_aload_n hx hb dL_law_796 rfl (lv_at hl 0 rfl) ?_
  refine lv_iload_n hx hb dL_law_797 rfl (lv_at hl 3 rfl) ?_
  refine lv_iconst (v := 2) hx hb dL_law_798 (by decide) ?_
  refine lv_iadd hx hb dL_law_799 ?_
  rw [show nI i + 2 = nI (i + 2) from nI_add i 2]
  refine va_sld hx hb hX hbl hbA hS (hin 2 (by omega)) dL_law_800 ?_
  rw [nI_clamp (by omega)]
  refine lw_cali C0 (na := 2) (o := 50) (rest := [.int r]) [I_ (xs (i + 1)).toInt, I_ (xs (i + 2)).toInt] dL_law_801 lL_86 kvX8_person (plX8 _ _) (Or.inl rfl) rfl rfl rfl rfl (by decide) (by simp [Value.category]) (by simp [emb]) rfl rfl (ok_ints (l := [(xs (i + 1)), (xs (i + 2))])) hμ hP hS hl.1 hnc (hq) (fun r2 u2 H2 locs2 hq2 hμ hP hS => ?_)
  have er : r2 = r := by have := hq2.1; simp at this; exact Int32.toInt_inj.mp this
  subst er
  exact lv_icmp_eq (tgt := 1416) hx hb dL_law_804 (by decide) (fun _ => next u2 H2 locs2 hq2.2 hμ hP hS) (fun c_ => absurd rfl c_)
set_option maxHeartbeats 4000000 in
set_option maxRecDepth 100000 in
theorem lc_key (C0 : LC p s m meth c b ad D cI cB) (hX : va_X b L xs s s.heap) (hbl : b < s.heap.size) (hL : L ≤ 384) (hi : i + 6 ≤ L) (hl : lv_has lsM 4 [(0, .ref b), (1, .ref (ad 0)), (2, .ref (ad 50)), (3, .int (nI i))]) (h : CI n μ) (hn : n < 900) (hμ : okM μ) (hP : va_P D vwCl (wo ad cI cB μ) H) (hS : va_S (hiA s) s.heap H locs) (hnc : nc + 0 ≤ room_1.cells ∧ ns + 0 ≤ room_1.slots) (next : ∀ (u : Mem_) (H1 : Heap) (locs1 : List Loc), CI (n + 1) u → okM u → va_P D vwCl (wo ad cI cB u) H1 → va_S (hiA s) s.heap H1 locs1 → W p l e room_1 s m #[Value.ref b] below meth c H1 locs1 nc ns Z (F0 m 1416 lsM [])) : W p l e room_1 s m #[Value.ref b] below meth c H locs nc ns Z (F0 m 809 lsM []) := by
  have hx := C0.1.1
  have hb := C0.1.2.1
  have hbA : ¬ hiA s b := Nat.not_le.mpr hbl
  have hin : ∀ k, k < 6 → vp_in (nI (i + k)) L := fun k hk => nI_in (by omega) (by omega)
  refine lv_aload_n hx hb dL_law_809 rfl (lv_at hl 1 rfl) ?_
  refine lv_aload_n hx hb dL_law_810 rfl (lv_at hl 0 rfl) ?_
  refine lv_iload_n hx hb dL_law_811 rfl (lv_at hl 3 rfl) ?_
  refine lv_iconst (v := 1) hx hb dL_law_812 (by decide) ?_
  refine lv_iadd hx hb dL_law_813 ?_
  rw [show nI i + 1 = nI (i + 1) from nI_add i 1]
  refine va_sld hx hb hX hbl hbA hS (hin 1 (by omega)) dL_law_814 ?_
  rw [nI_clamp (by omega)]
  refine lv_aload_n hx hb dL_law_815 rfl (lv_at hl 0 rfl) ?_
  refine lv_iload_n hx hb dL_law_816 rfl (lv_at hl 3 rfl) ?_
  refine lv_iconst (v := 2) hx hb dL_law_817 (by decide) ?_
  refine lv_iadd hx hb dL_law_818 ?_
  rw [show nI i + 2 = nI (i + 2) from nI_add i 2]
  refine va_sld hx hb hX hbl hbA hS (hin 2 (by omega)) dL_law_819 ?_
  rw [nI_clamp (by omega)]
  refine lw_cali C0 (na := 2) (o := 0) (rest := []) [I_ (xs (i + 1)).toInt, I_ (xs (i + 2)).toInt] dL_law_820 lL_87 kvX7_key (plX7 _ _) (Or.inl rfl) rfl rfl rfl rfl (by decide) (by simp [Value.category]) (by simp [emb]) rfl rfl (ok_ints (l := [(xs (i + 1)), (xs (i + 2))])) hμ hP hS hl.1 hnc (op_key h hn) (fun r u H1 locs1 hq hμ hP hS => ?_)
  refine lv_aload_n hx hb dL_law_823 rfl (lv_at hl 2 rfl) ?_
  refine lv_aload_n hx hb dL_law_824 rfl (lv_at hl 0 rfl) ?_
  refine lv_iload_n hx hb dL_law_825 rfl (lv_at hl 3 rfl) ?_
  refine lv_iconst (v := 1) hx hb dL_law_826 (by decide) ?_
  refine lv_iadd hx hb dL_law_827 ?_
  rw [show nI i + 1 = nI (i + 1) from nI_add i 1]
  refine va_sld hx hb hX hbl hbA hS (hin 1 (by omega)) dL_law_828 ?_
  rw [nI_clamp (by omega)]
  refine lv_aload_n hx hb dL_law_829 rfl (lv_at hl 0 rfl) ?_
  refine lv_iload_n hx hb dL_law_830 rfl (lv_at hl 3 rfl) ?_
  refine lv_iconst (v := 2) hx hb dL_law_831 (by decide) ?_
  refine lv_iadd hx hb dL_law_832 ?_
  rw [show nI i + 2 = nI (i + 2) from nI_add i 2]
  refine va_sld hx hb hX hbl hbA hS (hin 2 (by omega)) dL_law_833 ?_
  rw [nI_clamp (by omega)]
  refine lw_cali C0 (na := 2) (o := 50) (rest := [.int r]) [I_ (xs (i + 1)).toInt, I_ (xs (i + 2)).toInt] dL_law_834 lL_90 kvX8_key (plX8 _ _) (Or.inl rfl) rfl rfl rfl rfl (by decide) (by simp [Value.category]) (by simp [emb]) rfl rfl (ok_ints (l := [(xs (i + 1)), (xs (i + 2))])) hμ hP hS hl.1 hnc (hq) (fun r2 u2 H2 locs2 hq2 hμ hP hS => ?_)
  have er : r2 = r := by have := hq2.1; simp at this; exact Int32.toInt_inj.mp this
  subst er
  exact lv_icmp_eq (tgt := 1416) hx hb dL_law_837 (by decide) (fun _ => next u2 H2 locs2 hq2.2 hμ hP hS) (fun c_ => absurd rfl c_)
set_option maxHeartbeats 4000000 in
set_option maxRecDepth 100000 in
theorem lc_trust (C0 : LC p s m meth c b ad D cI cB) (hX : va_X b L xs s s.heap) (hbl : b < s.heap.size) (hL : L ≤ 384) (hi : i + 6 ≤ L) (hl : lv_has lsM 4 [(0, .ref b), (1, .ref (ad 0)), (2, .ref (ad 50)), (3, .int (nI i))]) (h : CI n μ) (hn : n < 900) (hμ : okM μ) (hP : va_P D vwCl (wo ad cI cB μ) H) (hS : va_S (hiA s) s.heap H locs) (hnc : nc + 0 ≤ room_1.cells ∧ ns + 0 ≤ room_1.slots) (next : ∀ (u : Mem_) (H1 : Heap) (locs1 : List Loc), CI (n + 1) u → okM u → va_P D vwCl (wo ad cI cB u) H1 → va_S (hiA s) s.heap H1 locs1 → W p l e room_1 s m #[Value.ref b] below meth c H1 locs1 nc ns Z (F0 m 1416 lsM [])) : W p l e room_1 s m #[Value.ref b] below meth c H locs nc ns Z (F0 m 842 lsM []) := by
  have hx := C0.1.1
  have hb := C0.1.2.1
  have hbA : ¬ hiA s b := Nat.not_le.mpr hbl
  have hin : ∀ k, k < 6 → vp_in (nI (i + k)) L := fun k hk => nI_in (by omega) (by omega)
  refine lv_aload_n hx hb dL_law_842 rfl (lv_at hl 1 rfl) ?_
  refine lv_aload_n hx hb dL_law_843 rfl (lv_at hl 0 rfl) ?_
  refine lv_iload_n hx hb dL_law_844 rfl (lv_at hl 3 rfl) ?_
  refine lv_iconst (v := 1) hx hb dL_law_845 (by decide) ?_
  refine lv_iadd hx hb dL_law_846 ?_
  rw [show nI i + 1 = nI (i + 1) from nI_add i 1]
  refine va_sld hx hb hX hbl hbA hS (hin 1 (by omega)) dL_law_847 ?_
  rw [nI_clamp (by omega)]
  refine lv_aload_n hx hb dL_law_848 rfl (lv_at hl 0 rfl) ?_
  refine lv_iload_n hx hb dL_law_849 rfl (lv_at hl 3 rfl) ?_
  refine lv_iconst (v := 2) hx hb dL_law_850 (by decide) ?_
  refine lv_iadd hx hb dL_law_851 ?_
  rw [show nI i + 2 = nI (i + 2) from nI_add i 2]
  refine va_sld hx hb hX hbl hbA hS (hin 2 (by omega)) dL_law_852 ?_
  rw [nI_clamp (by omega)]
  refine lw_cali C0 (na := 2) (o := 0) (rest := []) [I_ (xs (i + 1)).toInt, I_ (xs (i + 2)).toInt] dL_law_853 lL_91 kvX7_trust (plX7 _ _) (Or.inl rfl) rfl rfl rfl rfl (by decide) (by simp [Value.category]) (by simp [emb]) rfl rfl (ok_ints (l := [(xs (i + 1)), (xs (i + 2))])) hμ hP hS hl.1 hnc (op_trust h hn) (fun r u H1 locs1 hq hμ hP hS => ?_)
  refine lv_aload_n hx hb dL_law_856 rfl (lv_at hl 2 rfl) ?_
  refine lv_aload_n hx hb dL_law_857 rfl (lv_at hl 0 rfl) ?_
  refine lv_iload_n hx hb dL_law_858 rfl (lv_at hl 3 rfl) ?_
  refine lv_iconst (v := 1) hx hb dL_law_859 (by decide) ?_
  refine lv_iadd hx hb dL_law_860 ?_
  rw [show nI i + 1 = nI (i + 1) from nI_add i 1]
  refine va_sld hx hb hX hbl hbA hS (hin 1 (by omega)) dL_law_861 ?_
  rw [nI_clamp (by omega)]
  refine lv_aload_n hx hb dL_law_862 rfl (lv_at hl 0 rfl) ?_
  refine lv_iload_n hx hb dL_law_863 rfl (lv_at hl 3 rfl) ?_
  refine lv_iconst (v := 2) hx hb dL_law_864 (by decide) ?_
  refine lv_iadd hx hb dL_law_865 ?_
  rw [show nI i + 2 = nI (i + 2) from nI_add i 2]
  refine va_sld hx hb hX hbl hbA hS (hin 2 (by omega)) dL_law_866 ?_
  rw [nI_clamp (by omega)]
  refine lw_cali C0 (na := 2) (o := 50) (rest := [.int r]) [I_ (xs (i + 1)).toInt, I_ (xs (i + 2)).toInt] dL_law_867 lL_94 kvX8_trust (plX8 _ _) (Or.inl rfl) rfl rfl rfl rfl (by decide) (by simp [Value.category]) (by simp [emb]) rfl rfl (ok_ints (l := [(xs (i + 1)), (xs (i + 2))])) hμ hP hS hl.1 hnc (hq) (fun r2 u2 H2 locs2 hq2 hμ hP hS => ?_)
  have er : r2 = r := by have := hq2.1; simp at this; exact Int32.toInt_inj.mp this
  subst er
  exact lv_icmp_eq (tgt := 1416) hx hb dL_law_870 (by decide) (fun _ => next u2 H2 locs2 hq2.2 hμ hP hS) (fun c_ => absurd rfl c_)
set_option maxHeartbeats 4000000 in
set_option maxRecDepth 100000 in
theorem lc_alone (C0 : LC p s m meth c b ad D cI cB) (hX : va_X b L xs s s.heap) (hbl : b < s.heap.size) (hL : L ≤ 384) (hi : i + 6 ≤ L) (hl : lv_has lsM 4 [(0, .ref b), (1, .ref (ad 0)), (2, .ref (ad 50)), (3, .int (nI i))]) (h : CI n μ) (hn : n < 900) (hμ : okM μ) (hP : va_P D vwCl (wo ad cI cB μ) H) (hS : va_S (hiA s) s.heap H locs) (hnc : nc + 0 ≤ room_1.cells ∧ ns + 0 ≤ room_1.slots) (next : ∀ (u : Mem_) (H1 : Heap) (locs1 : List Loc), CI (n + 1) u → okM u → va_P D vwCl (wo ad cI cB u) H1 → va_S (hiA s) s.heap H1 locs1 → W p l e room_1 s m #[Value.ref b] below meth c H1 locs1 nc ns Z (F0 m 1416 lsM [])) : W p l e room_1 s m #[Value.ref b] below meth c H locs nc ns Z (F0 m 875 lsM []) := by
  have hx := C0.1.1
  have hb := C0.1.2.1
  have hbA : ¬ hiA s b := Nat.not_le.mpr hbl
  have hin : ∀ k, k < 6 → vp_in (nI (i + k)) L := fun k hk => nI_in (by omega) (by omega)
  refine lv_aload_n hx hb dL_law_875 rfl (lv_at hl 1 rfl) ?_
  refine lv_aload_n hx hb dL_law_876 rfl (lv_at hl 0 rfl) ?_
  refine lv_iload_n hx hb dL_law_877 rfl (lv_at hl 3 rfl) ?_
  refine lv_iconst (v := 1) hx hb dL_law_878 (by decide) ?_
  refine lv_iadd hx hb dL_law_879 ?_
  rw [show nI i + 1 = nI (i + 1) from nI_add i 1]
  refine va_sld hx hb hX hbl hbA hS (hin 1 (by omega)) dL_law_880 ?_
  rw [nI_clamp (by omega)]
  refine lw_cali C0 (na := 1) (o := 0) (rest := []) [I_ (xs (i + 1)).toInt] dL_law_881 lL_95 kvX7_alone (plX7 _ _) (Or.inl rfl) rfl rfl rfl rfl (by decide) (by simp [Value.category]) (by simp [emb]) rfl rfl (ok_ints (l := [(xs (i + 1))])) hμ hP hS hl.1 hnc (op_alone h hn) (fun r u H1 locs1 hq hμ hP hS => ?_)
  refine lv_aload_n hx hb dL_law_884 rfl (lv_at hl 2 rfl) ?_
  refine lv_aload_n hx hb dL_law_885 rfl (lv_at hl 0 rfl) ?_
  refine lv_iload_n hx hb dL_law_886 rfl (lv_at hl 3 rfl) ?_
  refine lv_iconst (v := 1) hx hb dL_law_887 (by decide) ?_
  refine lv_iadd hx hb dL_law_888 ?_
  rw [show nI i + 1 = nI (i + 1) from nI_add i 1]
  refine va_sld hx hb hX hbl hbA hS (hin 1 (by omega)) dL_law_889 ?_
  rw [nI_clamp (by omega)]
  refine lw_cali C0 (na := 1) (o := 50) (rest := [.int r]) [I_ (xs (i + 1)).toInt] dL_law_890 lL_98 kvX8_alone (plX8 _ _) (Or.inl rfl) rfl rfl rfl rfl (by decide) (by simp [Value.category]) (by simp [emb]) rfl rfl (ok_ints (l := [(xs (i + 1))])) hμ hP hS hl.1 hnc (hq) (fun r2 u2 H2 locs2 hq2 hμ hP hS => ?_)
  have er : r2 = r := by have := hq2.1; simp at this; exact Int32.toInt_inj.mp this
  subst er
  exact lv_icmp_eq (tgt := 1416) hx hb dL_law_893 (by decide) (fun _ => next u2 H2 locs2 hq2.2 hμ hP hS) (fun c_ => absurd rfl c_)
set_option maxHeartbeats 4000000 in
set_option maxRecDepth 100000 in
theorem lc_wake (C0 : LC p s m meth c b ad D cI cB) (hX : va_X b L xs s s.heap) (hbl : b < s.heap.size) (hL : L ≤ 384) (hi : i + 6 ≤ L) (hl : lv_has lsM 4 [(0, .ref b), (1, .ref (ad 0)), (2, .ref (ad 50)), (3, .int (nI i))]) (h : CI n μ) (hn : n < 900) (hμ : okM μ) (hP : va_P D vwCl (wo ad cI cB μ) H) (hS : va_S (hiA s) s.heap H locs) (hnc : nc + 0 ≤ room_1.cells ∧ ns + 0 ≤ room_1.slots) (next : ∀ (u : Mem_) (H1 : Heap) (locs1 : List Loc), CI (n + 1) u → okM u → va_P D vwCl (wo ad cI cB u) H1 → va_S (hiA s) s.heap H1 locs1 → W p l e room_1 s m #[Value.ref b] below meth c H1 locs1 nc ns Z (F0 m 1416 lsM [])) : W p l e room_1 s m #[Value.ref b] below meth c H locs nc ns Z (F0 m 898 lsM []) := by
  have hx := C0.1.1
  have hb := C0.1.2.1
  have hbA : ¬ hiA s b := Nat.not_le.mpr hbl
  have hin : ∀ k, k < 6 → vp_in (nI (i + k)) L := fun k hk => nI_in (by omega) (by omega)
  by_cases hz : xs (i + 3) = 0
  · refine lv_aload_n hx hb dL_law_898 rfl (lv_at hl 1 rfl) ?_
    refine lv_aload_n hx hb dL_law_899 rfl (lv_at hl 0 rfl) ?_
    refine lv_iload_n hx hb dL_law_900 rfl (lv_at hl 3 rfl) ?_
    refine lv_iconst (v := 1) hx hb dL_law_901 (by decide) ?_
    refine lv_iadd hx hb dL_law_902 ?_
    rw [show nI i + 1 = nI (i + 1) from nI_add i 1]
    refine va_sld hx hb hX hbl hbA hS (hin 1 (by omega)) dL_law_903 ?_
    rw [nI_clamp (by omega)]
    refine lv_aload_n hx hb dL_law_904 rfl (lv_at hl 0 rfl) ?_
    refine lv_iload_n hx hb dL_law_905 rfl (lv_at hl 3 rfl) ?_
    refine lv_iconst (v := 2) hx hb dL_law_906 (by decide) ?_
    refine lv_iadd hx hb dL_law_907 ?_
    rw [show nI i + 2 = nI (i + 2) from nI_add i 2]
    refine va_sld hx hb hX hbl hbA hS (hin 2 (by omega)) dL_law_908 ?_
    rw [nI_clamp (by omega)]
    refine lv_aload_n hx hb dL_law_909 rfl (lv_at hl 0 rfl) ?_
    refine lv_iload_n hx hb dL_law_910 rfl (lv_at hl 3 rfl) ?_
    refine lv_iconst (v := 3) hx hb dL_law_911 (by decide) ?_
    refine lv_iadd hx hb dL_law_912 ?_
    rw [show nI i + 3 = nI (i + 3) from nI_add i 3]
    refine va_sld hx hb hX hbl hbA hS (hin 3 (by omega)) dL_law_913 ?_
    rw [nI_clamp (by omega)]
    refine lv_if_eq (tgt := 921) hx hb dL_law_914 (by decide) (fun _ => ?_) (fun q => absurd hz q)
    refine lv_iconst (v := 0) hx hb dL_law_921 (by decide) ?_
    refine lw_cali C0 (na := 3) (o := 0) (rest := []) [I_ (xs (i + 1)).toInt, I_ (xs (i + 2)).toInt, I_ (0 : Int32).toInt] dL_law_922 lL_99 kvX7_wake (plX7 _ _) (Or.inl rfl) rfl rfl rfl rfl (by decide) (by simp [Value.category]) (by simp [emb]) rfl rfl (ok_ints (l := [(xs (i + 1)), (xs (i + 2)), (0 : Int32)])) hμ hP hS hl.1 hnc (op_wake h hn) (fun r u H1 locs1 hq hμ hP hS => ?_)
    refine lv_aload_n hx hb dL_law_925 rfl (lv_at hl 2 rfl) ?_
    refine lv_aload_n hx hb dL_law_926 rfl (lv_at hl 0 rfl) ?_
    refine lv_iload_n hx hb dL_law_927 rfl (lv_at hl 3 rfl) ?_
    refine lv_iconst (v := 1) hx hb dL_law_928 (by decide) ?_
    refine lv_iadd hx hb dL_law_929 ?_
    rw [show nI i + 1 = nI (i + 1) from nI_add i 1]
    refine va_sld hx hb hX hbl hbA hS (hin 1 (by omega)) dL_law_930 ?_
    rw [nI_clamp (by omega)]
    refine lv_aload_n hx hb dL_law_931 rfl (lv_at hl 0 rfl) ?_
    refine lv_iload_n hx hb dL_law_932 rfl (lv_at hl 3 rfl) ?_
    refine lv_iconst (v := 2) hx hb dL_law_933 (by decide) ?_
    refine lv_iadd hx hb dL_law_934 ?_
    rw [show nI i + 2 = nI (i + 2) from nI_add i 2]
    refine va_sld hx hb hX hbl hbA hS (hin 2 (by omega)) dL_law_935 ?_
    rw [nI_clamp (by omega)]
    refine lv_aload_n hx hb dL_law_936 rfl (lv_at hl 0 rfl) ?_
    refine lv_iload_n hx hb dL_law_937 rfl (lv_at hl 3 rfl) ?_
    refine lv_iconst (v := 3) hx hb dL_law_938 (by decide) ?_
    refine lv_iadd hx hb dL_law_939 ?_
    rw [show nI i + 3 = nI (i + 3) from nI_add i 3]
    refine va_sld hx hb hX hbl hbA hS (hin 3 (by omega)) dL_law_940 ?_
    rw [nI_clamp (by omega)]
    refine lv_if_eq (tgt := 948) hx hb dL_law_941 (by decide) (fun _ => ?_) (fun q => absurd hz q)
    refine lv_iconst (v := 0) hx hb dL_law_948 (by decide) ?_
    refine lw_cali C0 (na := 3) (o := 50) (rest := [.int r]) [I_ (xs (i + 1)).toInt, I_ (xs (i + 2)).toInt, I_ (0 : Int32).toInt] dL_law_949 lL_103 kvX8_wake (plX8 _ _) (Or.inl rfl) rfl rfl rfl rfl (by decide) (by simp [Value.category]) (by simp [emb]) rfl rfl (ok_ints (l := [(xs (i + 1)), (xs (i + 2)), (0 : Int32)])) hμ hP hS hl.1 hnc (hq) (fun r2 u2 H2 locs2 hq2 hμ hP hS => ?_)
    have er : r2 = r := by have := hq2.1; simp at this; exact Int32.toInt_inj.mp this
    subst er
    exact lv_icmp_eq (tgt := 1416) hx hb dL_law_952 (by decide) (fun _ => next u2 H2 locs2 hq2.2 hμ hP hS) (fun c_ => absurd rfl c_)
  · refine lv_aload_n hx hb dL_law_898 rfl (lv_at hl 1 rfl) ?_
    refine lv_aload_n hx hb dL_law_899 rfl (lv_at hl 0 rfl) ?_
    refine lv_iload_n hx hb dL_law_900 rfl (lv_at hl 3 rfl) ?_
    refine lv_iconst (v := 1) hx hb dL_law_901 (by decide) ?_
    refine lv_iadd hx hb dL_law_902 ?_
    rw [show nI i + 1 = nI (i + 1) from nI_add i 1]
    refine va_sld hx hb hX hbl hbA hS (hin 1 (by omega)) dL_law_903 ?_
    rw [nI_clamp (by omega)]
    refine lv_aload_n hx hb dL_law_904 rfl (lv_at hl 0 rfl) ?_
    refine lv_iload_n hx hb dL_law_905 rfl (lv_at hl 3 rfl) ?_
    refine lv_iconst (v := 2) hx hb dL_law_906 (by decide) ?_
    refine lv_iadd hx hb dL_law_907 ?_
    rw [show nI i + 2 = nI (i + 2) from nI_add i 2]
    refine va_sld hx hb hX hbl hbA hS (hin 2 (by omega)) dL_law_908 ?_
    rw [nI_clamp (by omega)]
    refine lv_aload_n hx hb dL_law_909 rfl (lv_at hl 0 rfl) ?_
    refine lv_iload_n hx hb dL_law_910 rfl (lv_at hl 3 rfl) ?_
    refine lv_iconst (v := 3) hx hb dL_law_911 (by decide) ?_
    refine lv_iadd hx hb dL_law_912 ?_
    rw [show nI i + 3 = nI (i + 3) from nI_add i 3]
    refine va_sld hx hb hX hbl hbA hS (hin 3 (by omega)) dL_law_913 ?_
    rw [nI_clamp (by omega)]
    refine lv_if_eq (tgt := 921) hx hb dL_law_914 (by decide) (fun q => absurd q hz) (fun _ => ?_)
    refine lv_iconst (v := 1) hx hb dL_law_917 (by decide) ?_
    refine lv_goto (tgt := 922) hx hb dL_law_918 (by decide) ?_
    refine lw_cali C0 (na := 3) (o := 0) (rest := []) [I_ (xs (i + 1)).toInt, I_ (xs (i + 2)).toInt, I_ (1 : Int32).toInt] dL_law_922 lL_99 kvX7_wake (plX7 _ _) (Or.inl rfl) rfl rfl rfl rfl (by decide) (by simp [Value.category]) (by simp [emb]) rfl rfl (ok_ints (l := [(xs (i + 1)), (xs (i + 2)), (1 : Int32)])) hμ hP hS hl.1 hnc (op_wake h hn) (fun r u H1 locs1 hq hμ hP hS => ?_)
    refine lv_aload_n hx hb dL_law_925 rfl (lv_at hl 2 rfl) ?_
    refine lv_aload_n hx hb dL_law_926 rfl (lv_at hl 0 rfl) ?_
    refine lv_iload_n hx hb dL_law_927 rfl (lv_at hl 3 rfl) ?_
    refine lv_iconst (v := 1) hx hb dL_law_928 (by decide) ?_
    refine lv_iadd hx hb dL_law_929 ?_
    rw [show nI i + 1 = nI (i + 1) from nI_add i 1]
    refine va_sld hx hb hX hbl hbA hS (hin 1 (by omega)) dL_law_930 ?_
    rw [nI_clamp (by omega)]
    refine lv_aload_n hx hb dL_law_931 rfl (lv_at hl 0 rfl) ?_
    refine lv_iload_n hx hb dL_law_932 rfl (lv_at hl 3 rfl) ?_
    refine lv_iconst (v := 2) hx hb dL_law_933 (by decide) ?_
    refine lv_iadd hx hb dL_law_934 ?_
    rw [show nI i + 2 = nI (i + 2) from nI_add i 2]
    refine va_sld hx hb hX hbl hbA hS (hin 2 (by omega)) dL_law_935 ?_
    rw [nI_clamp (by omega)]
    refine lv_aload_n hx hb dL_law_936 rfl (lv_at hl 0 rfl) ?_
    refine lv_iload_n hx hb dL_law_937 rfl (lv_at hl 3 rfl) ?_
    refine lv_iconst (v := 3) hx hb dL_law_938 (by decide) ?_
    refine lv_iadd hx hb dL_law_939 ?_
    rw [show nI i + 3 = nI (i + 3) from nI_add i 3]
    refine va_sld hx hb hX hbl hbA hS (hin 3 (by omega)) dL_law_940 ?_
    rw [nI_clamp (by omega)]
    refine lv_if_eq (tgt := 948) hx hb dL_law_941 (by decide) (fun q => absurd q hz) (fun _ => ?_)
    refine lv_iconst (v := 1) hx hb dL_law_944 (by decide) ?_
    refine lv_goto (tgt := 949) hx hb dL_law_945 (by decide) ?_
    refine lw_cali C0 (na := 3) (o := 50) (rest := [.int r]) [I_ (xs (i + 1)).toInt, I_ (xs (i + 2)).toInt, I_ (1 : Int32).toInt] dL_law_949 lL_103 kvX8_wake (plX8 _ _) (Or.inl rfl) rfl rfl rfl rfl (by decide) (by simp [Value.category]) (by simp [emb]) rfl rfl (ok_ints (l := [(xs (i + 1)), (xs (i + 2)), (1 : Int32)])) hμ hP hS hl.1 hnc (hq) (fun r2 u2 H2 locs2 hq2 hμ hP hS => ?_)
    have er : r2 = r := by have := hq2.1; simp at this; exact Int32.toInt_inj.mp this
    subst er
    exact lv_icmp_eq (tgt := 1416) hx hb dL_law_952 (by decide) (fun _ => next u2 H2 locs2 hq2.2 hμ hP hS) (fun c_ => absurd rfl c_)
set_option maxHeartbeats 4000000 in
set_option maxRecDepth 100000 in
theorem lc_odds (C0 : LC p s m meth c b ad D cI cB) (hX : va_X b L xs s s.heap) (hbl : b < s.heap.size) (hL : L ≤ 384) (hi : i + 6 ≤ L) (hl : lv_has lsM 4 [(0, .ref b), (1, .ref (ad 0)), (2, .ref (ad 50)), (3, .int (nI i))]) (h : CI n μ) (hn : n < 900) (hμ : okM μ) (hP : va_P D vwCl (wo ad cI cB μ) H) (hS : va_S (hiA s) s.heap H locs) (hnc : nc + 0 ≤ room_1.cells ∧ ns + 0 ≤ room_1.slots) (next : ∀ (u : Mem_) (H1 : Heap) (locs1 : List Loc), CI (n + 1) u → okM u → va_P D vwCl (wo ad cI cB u) H1 → va_S (hiA s) s.heap H1 locs1 → W p l e room_1 s m #[Value.ref b] below meth c H1 locs1 nc ns Z (F0 m 1416 lsM [])) : W p l e room_1 s m #[Value.ref b] below meth c H locs nc ns Z (F0 m 957 lsM []) := by
  have hx := C0.1.1
  have hb := C0.1.2.1
  have hbA : ¬ hiA s b := Nat.not_le.mpr hbl
  have hin : ∀ k, k < 6 → vp_in (nI (i + k)) L := fun k hk => nI_in (by omega) (by omega)
  by_cases hz : xs (i + 3) = 0
  · refine lv_aload_n hx hb dL_law_957 rfl (lv_at hl 1 rfl) ?_
    refine lv_aload_n hx hb dL_law_958 rfl (lv_at hl 0 rfl) ?_
    refine lv_iload_n hx hb dL_law_959 rfl (lv_at hl 3 rfl) ?_
    refine lv_iconst (v := 1) hx hb dL_law_960 (by decide) ?_
    refine lv_iadd hx hb dL_law_961 ?_
    rw [show nI i + 1 = nI (i + 1) from nI_add i 1]
    refine va_sld hx hb hX hbl hbA hS (hin 1 (by omega)) dL_law_962 ?_
    rw [nI_clamp (by omega)]
    refine lv_aload_n hx hb dL_law_963 rfl (lv_at hl 0 rfl) ?_
    refine lv_iload_n hx hb dL_law_964 rfl (lv_at hl 3 rfl) ?_
    refine lv_iconst (v := 2) hx hb dL_law_965 (by decide) ?_
    refine lv_iadd hx hb dL_law_966 ?_
    rw [show nI i + 2 = nI (i + 2) from nI_add i 2]
    refine va_sld hx hb hX hbl hbA hS (hin 2 (by omega)) dL_law_967 ?_
    rw [nI_clamp (by omega)]
    refine lv_aload_n hx hb dL_law_968 rfl (lv_at hl 0 rfl) ?_
    refine lv_iload_n hx hb dL_law_969 rfl (lv_at hl 3 rfl) ?_
    refine lv_iconst (v := 3) hx hb dL_law_970 (by decide) ?_
    refine lv_iadd hx hb dL_law_971 ?_
    rw [show nI i + 3 = nI (i + 3) from nI_add i 3]
    refine va_sld hx hb hX hbl hbA hS (hin 3 (by omega)) dL_law_972 ?_
    rw [nI_clamp (by omega)]
    refine lv_if_eq (tgt := 980) hx hb dL_law_973 (by decide) (fun _ => ?_) (fun q => absurd hz q)
    refine lv_iconst (v := 0) hx hb dL_law_980 (by decide) ?_
    refine lw_cali C0 (na := 3) (o := 0) (rest := []) [I_ (xs (i + 1)).toInt, I_ (xs (i + 2)).toInt, I_ (0 : Int32).toInt] dL_law_981 lL_104 kvX7_odds (plX7 _ _) (Or.inl rfl) rfl rfl rfl rfl (by decide) (by simp [Value.category]) (by simp [emb]) rfl rfl (ok_ints (l := [(xs (i + 1)), (xs (i + 2)), (0 : Int32)])) hμ hP hS hl.1 hnc (op_odds h hn) (fun r u H1 locs1 hq hμ hP hS => ?_)
    refine lv_aload_n hx hb dL_law_984 rfl (lv_at hl 2 rfl) ?_
    refine lv_aload_n hx hb dL_law_985 rfl (lv_at hl 0 rfl) ?_
    refine lv_iload_n hx hb dL_law_986 rfl (lv_at hl 3 rfl) ?_
    refine lv_iconst (v := 1) hx hb dL_law_987 (by decide) ?_
    refine lv_iadd hx hb dL_law_988 ?_
    rw [show nI i + 1 = nI (i + 1) from nI_add i 1]
    refine va_sld hx hb hX hbl hbA hS (hin 1 (by omega)) dL_law_989 ?_
    rw [nI_clamp (by omega)]
    refine lv_aload_n hx hb dL_law_990 rfl (lv_at hl 0 rfl) ?_
    refine lv_iload_n hx hb dL_law_991 rfl (lv_at hl 3 rfl) ?_
    refine lv_iconst (v := 2) hx hb dL_law_992 (by decide) ?_
    refine lv_iadd hx hb dL_law_993 ?_
    rw [show nI i + 2 = nI (i + 2) from nI_add i 2]
    refine va_sld hx hb hX hbl hbA hS (hin 2 (by omega)) dL_law_994 ?_
    rw [nI_clamp (by omega)]
    refine lv_aload_n hx hb dL_law_995 rfl (lv_at hl 0 rfl) ?_
    refine lv_iload_n hx hb dL_law_996 rfl (lv_at hl 3 rfl) ?_
    refine lv_iconst (v := 3) hx hb dL_law_997 (by decide) ?_
    refine lv_iadd hx hb dL_law_998 ?_
    rw [show nI i + 3 = nI (i + 3) from nI_add i 3]
    refine va_sld hx hb hX hbl hbA hS (hin 3 (by omega)) dL_law_999 ?_
    rw [nI_clamp (by omega)]
    refine lv_if_eq (tgt := 1007) hx hb dL_law_1000 (by decide) (fun _ => ?_) (fun q => absurd hz q)
    refine lv_iconst (v := 0) hx hb dL_law_1007 (by decide) ?_
    refine lw_cali C0 (na := 3) (o := 50) (rest := [.int r]) [I_ (xs (i + 1)).toInt, I_ (xs (i + 2)).toInt, I_ (0 : Int32).toInt] dL_law_1008 lL_107 kvX8_odds (plX8 _ _) (Or.inl rfl) rfl rfl rfl rfl (by decide) (by simp [Value.category]) (by simp [emb]) rfl rfl (ok_ints (l := [(xs (i + 1)), (xs (i + 2)), (0 : Int32)])) hμ hP hS hl.1 hnc (hq) (fun r2 u2 H2 locs2 hq2 hμ hP hS => ?_)
    have er : r2 = r := by have := hq2.1; simp at this; exact Int32.toInt_inj.mp this
    subst er
    exact lv_icmp_eq (tgt := 1416) hx hb dL_law_1011 (by decide) (fun _ => next u2 H2 locs2 hq2.2 hμ hP hS) (fun c_ => absurd rfl c_)
  · refine lv_aload_n hx hb dL_law_957 rfl (lv_at hl 1 rfl) ?_
    refine lv_aload_n hx hb dL_law_958 rfl (lv_at hl 0 rfl) ?_
    refine lv_iload_n hx hb dL_law_959 rfl (lv_at hl 3 rfl) ?_
    refine lv_iconst (v := 1) hx hb dL_law_960 (by decide) ?_
    refine lv_iadd hx hb dL_law_961 ?_
    rw [show nI i + 1 = nI (i + 1) from nI_add i 1]
    refine va_sld hx hb hX hbl hbA hS (hin 1 (by omega)) dL_law_962 ?_
    rw [nI_clamp (by omega)]
    refine lv_aload_n hx hb dL_law_963 rfl (lv_at hl 0 rfl) ?_
    refine lv_iload_n hx hb dL_law_964 rfl (lv_at hl 3 rfl) ?_
    refine lv_iconst (v := 2) hx hb dL_law_965 (by decide) ?_
    refine lv_iadd hx hb dL_law_966 ?_
    rw [show nI i + 2 = nI (i + 2) from nI_add i 2]
    refine va_sld hx hb hX hbl hbA hS (hin 2 (by omega)) dL_law_967 ?_
    rw [nI_clamp (by omega)]
    refine lv_aload_n hx hb dL_law_968 rfl (lv_at hl 0 rfl) ?_
    refine lv_iload_n hx hb dL_law_969 rfl (lv_at hl 3 rfl) ?_
    refine lv_iconst (v := 3) hx hb dL_law_970 (by decide) ?_
    refine lv_iadd hx hb dL_law_971 ?_
    rw [show nI i + 3 = nI (i + 3) from nI_add i 3]
    refine va_sld hx hb hX hbl hbA hS (hin 3 (by omega)) dL_law_972 ?_
    rw [nI_clamp (by omega)]
    refine lv_if_eq (tgt := 980) hx hb dL_law_973 (by decide) (fun q => absurd q hz) (fun _ => ?_)
    refine lv_iconst (v := 1) hx hb dL_law_976 (by decide) ?_
    refine lv_goto (tgt := 981) hx hb dL_law_977 (by decide) ?_
    refine lw_cali C0 (na := 3) (o := 0) (rest := []) [I_ (xs (i + 1)).toInt, I_ (xs (i + 2)).toInt, I_ (1 : Int32).toInt] dL_law_981 lL_104 kvX7_odds (plX7 _ _) (Or.inl rfl) rfl rfl rfl rfl (by decide) (by simp [Value.category]) (by simp [emb]) rfl rfl (ok_ints (l := [(xs (i + 1)), (xs (i + 2)), (1 : Int32)])) hμ hP hS hl.1 hnc (op_odds h hn) (fun r u H1 locs1 hq hμ hP hS => ?_)
    refine lv_aload_n hx hb dL_law_984 rfl (lv_at hl 2 rfl) ?_
    refine lv_aload_n hx hb dL_law_985 rfl (lv_at hl 0 rfl) ?_
    refine lv_iload_n hx hb dL_law_986 rfl (lv_at hl 3 rfl) ?_
    refine lv_iconst (v := 1) hx hb dL_law_987 (by decide) ?_
    refine lv_iadd hx hb dL_law_988 ?_
    rw [show nI i + 1 = nI (i + 1) from nI_add i 1]
    refine va_sld hx hb hX hbl hbA hS (hin 1 (by omega)) dL_law_989 ?_
    rw [nI_clamp (by omega)]
    refine lv_aload_n hx hb dL_law_990 rfl (lv_at hl 0 rfl) ?_
    refine lv_iload_n hx hb dL_law_991 rfl (lv_at hl 3 rfl) ?_
    refine lv_iconst (v := 2) hx hb dL_law_992 (by decide) ?_
    refine lv_iadd hx hb dL_law_993 ?_
    rw [show nI i + 2 = nI (i + 2) from nI_add i 2]
    refine va_sld hx hb hX hbl hbA hS (hin 2 (by omega)) dL_law_994 ?_
    rw [nI_clamp (by omega)]
    refine lv_aload_n hx hb dL_law_995 rfl (lv_at hl 0 rfl) ?_
    refine lv_iload_n hx hb dL_law_996 rfl (lv_at hl 3 rfl) ?_
    refine lv_iconst (v := 3) hx hb dL_law_997 (by decide) ?_
    refine lv_iadd hx hb dL_law_998 ?_
    rw [show nI i + 3 = nI (i + 3) from nI_add i 3]
    refine va_sld hx hb hX hbl hbA hS (hin 3 (by omega)) dL_law_999 ?_
    rw [nI_clamp (by omega)]
    refine lv_if_eq (tgt := 1007) hx hb dL_law_1000 (by decide) (fun q => absurd q hz) (fun _ => ?_)
    refine lv_iconst (v := 1) hx hb dL_law_1003 (by decide) ?_
    refine lv_goto (tgt := 1008) hx hb dL_law_1004 (by decide) ?_
    refine lw_cali C0 (na := 3) (o := 50) (rest := [.int r]) [I_ (xs (i + 1)).toInt, I_ (xs (i + 2)).toInt, I_ (1 : Int32).toInt] dL_law_1008 lL_107 kvX8_odds (plX8 _ _) (Or.inl rfl) rfl rfl rfl rfl (by decide) (by simp [Value.category]) (by simp [emb]) rfl rfl (ok_ints (l := [(xs (i + 1)), (xs (i + 2)), (1 : Int32)])) hμ hP hS hl.1 hnc (hq) (fun r2 u2 H2 locs2 hq2 hμ hP hS => ?_)
    have er : r2 = r := by have := hq2.1; simp at this; exact Int32.toInt_inj.mp this
    subst er
    exact lv_icmp_eq (tgt := 1416) hx hb dL_law_1011 (by decide) (fun _ => next u2 H2 locs2 hq2.2 hμ hP hS) (fun c_ => absurd rfl c_)
set_option maxHeartbeats 4000000 in
set_option maxRecDepth 100000 in
theorem lc_soonest (C0 : LC p s m meth c b ad D cI cB) (hX : va_X b L xs s s.heap) (hbl : b < s.heap.size) (hL : L ≤ 384) (hi : i + 6 ≤ L) (hl : lv_has lsM 4 [(0, .ref b), (1, .ref (ad 0)), (2, .ref (ad 50)), (3, .int (nI i))]) (h : CI n μ) (hn : n < 900) (hμ : okM μ) (hP : va_P D vwCl (wo ad cI cB μ) H) (hS : va_S (hiA s) s.heap H locs) (hnc : nc + 0 ≤ room_1.cells ∧ ns + 0 ≤ room_1.slots) (next : ∀ (u : Mem_) (H1 : Heap) (locs1 : List Loc), CI (n + 1) u → okM u → va_P D vwCl (wo ad cI cB u) H1 → va_S (hiA s) s.heap H1 locs1 → W p l e room_1 s m #[Value.ref b] below meth c H1 locs1 nc ns Z (F0 m 1416 lsM [])) : W p l e room_1 s m #[Value.ref b] below meth c H locs nc ns Z (F0 m 1016 lsM []) := by
  have hx := C0.1.1
  have hb := C0.1.2.1
  have hbA : ¬ hiA s b := Nat.not_le.mpr hbl
  have hin : ∀ k, k < 6 → vp_in (nI (i + k)) L := fun k hk => nI_in (by omega) (by omega)
  by_cases hz : xs (i + 3) = 0
  · refine lv_aload_n hx hb dL_law_1016 rfl (lv_at hl 1 rfl) ?_
    refine lv_aload_n hx hb dL_law_1017 rfl (lv_at hl 0 rfl) ?_
    refine lv_iload_n hx hb dL_law_1018 rfl (lv_at hl 3 rfl) ?_
    refine lv_iconst (v := 1) hx hb dL_law_1019 (by decide) ?_
    refine lv_iadd hx hb dL_law_1020 ?_
    rw [show nI i + 1 = nI (i + 1) from nI_add i 1]
    refine va_sld hx hb hX hbl hbA hS (hin 1 (by omega)) dL_law_1021 ?_
    rw [nI_clamp (by omega)]
    refine lv_aload_n hx hb dL_law_1022 rfl (lv_at hl 0 rfl) ?_
    refine lv_iload_n hx hb dL_law_1023 rfl (lv_at hl 3 rfl) ?_
    refine lv_iconst (v := 2) hx hb dL_law_1024 (by decide) ?_
    refine lv_iadd hx hb dL_law_1025 ?_
    rw [show nI i + 2 = nI (i + 2) from nI_add i 2]
    refine va_sld hx hb hX hbl hbA hS (hin 2 (by omega)) dL_law_1026 ?_
    rw [nI_clamp (by omega)]
    refine lv_aload_n hx hb dL_law_1027 rfl (lv_at hl 0 rfl) ?_
    refine lv_iload_n hx hb dL_law_1028 rfl (lv_at hl 3 rfl) ?_
    refine lv_iconst (v := 3) hx hb dL_law_1029 (by decide) ?_
    refine lv_iadd hx hb dL_law_1030 ?_
    rw [show nI i + 3 = nI (i + 3) from nI_add i 3]
    refine va_sld hx hb hX hbl hbA hS (hin 3 (by omega)) dL_law_1031 ?_
    rw [nI_clamp (by omega)]
    refine lv_if_eq (tgt := 1039) hx hb dL_law_1032 (by decide) (fun _ => ?_) (fun q => absurd hz q)
    refine lv_iconst (v := 0) hx hb dL_law_1039 (by decide) ?_
    refine lw_cali C0 (na := 3) (o := 0) (rest := []) [I_ (xs (i + 1)).toInt, I_ (xs (i + 2)).toInt, I_ (0 : Int32).toInt] dL_law_1040 lL_108 kvX7_soonest (plX7 _ _) (Or.inl rfl) rfl rfl rfl rfl (by decide) (by simp [Value.category]) (by simp [emb]) rfl rfl (ok_ints (l := [(xs (i + 1)), (xs (i + 2)), (0 : Int32)])) hμ hP hS hl.1 hnc (op_soonest h hn) (fun r u H1 locs1 hq hμ hP hS => ?_)
    refine lv_aload_n hx hb dL_law_1043 rfl (lv_at hl 2 rfl) ?_
    refine lv_aload_n hx hb dL_law_1044 rfl (lv_at hl 0 rfl) ?_
    refine lv_iload_n hx hb dL_law_1045 rfl (lv_at hl 3 rfl) ?_
    refine lv_iconst (v := 1) hx hb dL_law_1046 (by decide) ?_
    refine lv_iadd hx hb dL_law_1047 ?_
    rw [show nI i + 1 = nI (i + 1) from nI_add i 1]
    refine va_sld hx hb hX hbl hbA hS (hin 1 (by omega)) dL_law_1048 ?_
    rw [nI_clamp (by omega)]
    refine lv_aload_n hx hb dL_law_1049 rfl (lv_at hl 0 rfl) ?_
    refine lv_iload_n hx hb dL_law_1050 rfl (lv_at hl 3 rfl) ?_
    refine lv_iconst (v := 2) hx hb dL_law_1051 (by decide) ?_
    refine lv_iadd hx hb dL_law_1052 ?_
    rw [show nI i + 2 = nI (i + 2) from nI_add i 2]
    refine va_sld hx hb hX hbl hbA hS (hin 2 (by omega)) dL_law_1053 ?_
    rw [nI_clamp (by omega)]
    refine lv_aload_n hx hb dL_law_1054 rfl (lv_at hl 0 rfl) ?_
    refine lv_iload_n hx hb dL_law_1055 rfl (lv_at hl 3 rfl) ?_
    refine lv_iconst (v := 3) hx hb dL_law_1056 (by decide) ?_
    refine lv_iadd hx hb dL_law_1057 ?_
    rw [show nI i + 3 = nI (i + 3) from nI_add i 3]
    refine va_sld hx hb hX hbl hbA hS (hin 3 (by omega)) dL_law_1058 ?_
    rw [nI_clamp (by omega)]
    refine lv_if_eq (tgt := 1066) hx hb dL_law_1059 (by decide) (fun _ => ?_) (fun q => absurd hz q)
    refine lv_iconst (v := 0) hx hb dL_law_1066 (by decide) ?_
    refine lw_cali C0 (na := 3) (o := 50) (rest := [.int r]) [I_ (xs (i + 1)).toInt, I_ (xs (i + 2)).toInt, I_ (0 : Int32).toInt] dL_law_1067 lL_111 kvX8_soonest (plX8 _ _) (Or.inl rfl) rfl rfl rfl rfl (by decide) (by simp [Value.category]) (by simp [emb]) rfl rfl (ok_ints (l := [(xs (i + 1)), (xs (i + 2)), (0 : Int32)])) hμ hP hS hl.1 hnc (hq) (fun r2 u2 H2 locs2 hq2 hμ hP hS => ?_)
    have er : r2 = r := by have := hq2.1; simp at this; exact Int32.toInt_inj.mp this
    subst er
    exact lv_icmp_eq (tgt := 1416) hx hb dL_law_1070 (by decide) (fun _ => next u2 H2 locs2 hq2.2 hμ hP hS) (fun c_ => absurd rfl c_)
  · refine lv_aload_n hx hb dL_law_1016 rfl (lv_at hl 1 rfl) ?_
    refine lv_aload_n hx hb dL_law_1017 rfl (lv_at hl 0 rfl) ?_
    refine lv_iload_n hx hb dL_law_1018 rfl (lv_at hl 3 rfl) ?_
    refine lv_iconst (v := 1) hx hb dL_law_1019 (by decide) ?_
    refine lv_iadd hx hb dL_law_1020 ?_
    rw [show nI i + 1 = nI (i + 1) from nI_add i 1]
    refine va_sld hx hb hX hbl hbA hS (hin 1 (by omega)) dL_law_1021 ?_
    rw [nI_clamp (by omega)]
    refine lv_aload_n hx hb dL_law_1022 rfl (lv_at hl 0 rfl) ?_
    refine lv_iload_n hx hb dL_law_1023 rfl (lv_at hl 3 rfl) ?_
    refine lv_iconst (v := 2) hx hb dL_law_1024 (by decide) ?_
    refine lv_iadd hx hb dL_law_1025 ?_
    rw [show nI i + 2 = nI (i + 2) from nI_add i 2]
    refine va_sld hx hb hX hbl hbA hS (hin 2 (by omega)) dL_law_1026 ?_
    rw [nI_clamp (by omega)]
    refine lv_aload_n hx hb dL_law_1027 rfl (lv_at hl 0 rfl) ?_
    refine lv_iload_n hx hb dL_law_1028 rfl (lv_at hl 3 rfl) ?_
    refine lv_iconst (v := 3) hx hb dL_law_1029 (by decide) ?_
    refine lv_iadd hx hb dL_law_1030 ?_
    rw [show nI i + 3 = nI (i + 3) from nI_add i 3]
    refine va_sld hx hb hX hbl hbA hS (hin 3 (by omega)) dL_law_1031 ?_
    rw [nI_clamp (by omega)]
    refine lv_if_eq (tgt := 1039) hx hb dL_law_1032 (by decide) (fun q => absurd q hz) (fun _ => ?_)
    refine lv_iconst (v := 1) hx hb dL_law_1035 (by decide) ?_
    refine lv_goto (tgt := 1040) hx hb dL_law_1036 (by decide) ?_
    refine lw_cali C0 (na := 3) (o := 0) (rest := []) [I_ (xs (i + 1)).toInt, I_ (xs (i + 2)).toInt, I_ (1 : Int32).toInt] dL_law_1040 lL_108 kvX7_soonest (plX7 _ _) (Or.inl rfl) rfl rfl rfl rfl (by decide) (by simp [Value.category]) (by simp [emb]) rfl rfl (ok_ints (l := [(xs (i + 1)), (xs (i + 2)), (1 : Int32)])) hμ hP hS hl.1 hnc (op_soonest h hn) (fun r u H1 locs1 hq hμ hP hS => ?_)
    refine lv_aload_n hx hb dL_law_1043 rfl (lv_at hl 2 rfl) ?_
    refine lv_aload_n hx hb dL_law_1044 rfl (lv_at hl 0 rfl) ?_
    refine lv_iload_n hx hb dL_law_1045 rfl (lv_at hl 3 rfl) ?_
    refine lv_iconst (v := 1) hx hb dL_law_1046 (by decide) ?_
    refine lv_iadd hx hb dL_law_1047 ?_
    rw [show nI i + 1 = nI (i + 1) from nI_add i 1]
    refine va_sld hx hb hX hbl hbA hS (hin 1 (by omega)) dL_law_1048 ?_
    rw [nI_clamp (by omega)]
    refine lv_aload_n hx hb dL_law_1049 rfl (lv_at hl 0 rfl) ?_
    refine lv_iload_n hx hb dL_law_1050 rfl (lv_at hl 3 rfl) ?_
    refine lv_iconst (v := 2) hx hb dL_law_1051 (by decide) ?_
    refine lv_iadd hx hb dL_law_1052 ?_
    rw [show nI i + 2 = nI (i + 2) from nI_add i 2]
    refine va_sld hx hb hX hbl hbA hS (hin 2 (by omega)) dL_law_1053 ?_
    rw [nI_clamp (by omega)]
    refine lv_aload_n hx hb dL_law_1054 rfl (lv_at hl 0 rfl) ?_
    refine lv_iload_n hx hb dL_law_1055 rfl (lv_at hl 3 rfl) ?_
    refine lv_iconst (v := 3) hx hb dL_law_1056 (by decide) ?_
    refine lv_iadd hx hb dL_law_1057 ?_
    rw [show nI i + 3 = nI (i + 3) from nI_add i 3]
    refine va_sld hx hb hX hbl hbA hS (hin 3 (by omega)) dL_law_1058 ?_
    rw [nI_clamp (by omega)]
    refine lv_if_eq (tgt := 1066) hx hb dL_law_1059 (by decide) (fun q => absurd q hz) (fun _ => ?_)
    refine lv_iconst (v := 1) hx hb dL_law_1062 (by decide) ?_
    refine lv_goto (tgt := 1067) hx hb dL_law_1063 (by decide) ?_
    refine lw_cali C0 (na := 3) (o := 50) (rest := [.int r]) [I_ (xs (i + 1)).toInt, I_ (xs (i + 2)).toInt, I_ (1 : Int32).toInt] dL_law_1067 lL_111 kvX8_soonest (plX8 _ _) (Or.inl rfl) rfl rfl rfl rfl (by decide) (by simp [Value.category]) (by simp [emb]) rfl rfl (ok_ints (l := [(xs (i + 1)), (xs (i + 2)), (1 : Int32)])) hμ hP hS hl.1 hnc (hq) (fun r2 u2 H2 locs2 hq2 hμ hP hS => ?_)
    have er : r2 = r := by have := hq2.1; simp at this; exact Int32.toInt_inj.mp this
    subst er
    exact lv_icmp_eq (tgt := 1416) hx hb dL_law_1070 (by decide) (fun _ => next u2 H2 locs2 hq2.2 hμ hP hS) (fun c_ => absurd rfl c_)
set_option maxHeartbeats 4000000 in
set_option maxRecDepth 100000 in
theorem lc_round (C0 : LC p s m meth c b ad D cI cB) (hX : va_X b L xs s s.heap) (hbl : b < s.heap.size) (hL : L ≤ 384) (hi : i + 6 ≤ L) (hl : lv_has lsM 4 [(0, .ref b), (1, .ref (ad 0)), (2, .ref (ad 50)), (3, .int (nI i))]) (h : CI n μ) (hn : n < 900) (hμ : okM μ) (hP : va_P D vwCl (wo ad cI cB μ) H) (hS : va_S (hiA s) s.heap H locs) (hnc : nc + 0 ≤ room_1.cells ∧ ns + 0 ≤ room_1.slots) (next : ∀ (u : Mem_) (H1 : Heap) (locs1 : List Loc), CI (n + 1) u → okM u → va_P D vwCl (wo ad cI cB u) H1 → va_S (hiA s) s.heap H1 locs1 → W p l e room_1 s m #[Value.ref b] below meth c H1 locs1 nc ns Z (F0 m 1416 lsM [])) : W p l e room_1 s m #[Value.ref b] below meth c H locs nc ns Z (F0 m 1075 lsM []) := by
  have hx := C0.1.1
  have hb := C0.1.2.1
  have hbA : ¬ hiA s b := Nat.not_le.mpr hbl
  have hin : ∀ k, k < 6 → vp_in (nI (i + k)) L := fun k hk => nI_in (by omega) (by omega)
  by_cases hz : xs (i + 3) = 0
  · refine lv_aload_n hx hb dL_law_1075 rfl (lv_at hl 1 rfl) ?_
    refine lv_aload_n hx hb dL_law_1076 rfl (lv_at hl 0 rfl) ?_
    refine lv_iload_n hx hb dL_law_1077 rfl (lv_at hl 3 rfl) ?_
    refine lv_iconst (v := 1) hx hb dL_law_1078 (by decide) ?_
    refine lv_iadd hx hb dL_law_1079 ?_
    rw [show nI i + 1 = nI (i + 1) from nI_add i 1]
    refine va_sld hx hb hX hbl hbA hS (hin 1 (by omega)) dL_law_1080 ?_
    rw [nI_clamp (by omega)]
    refine lv_aload_n hx hb dL_law_1081 rfl (lv_at hl 0 rfl) ?_
    refine lv_iload_n hx hb dL_law_1082 rfl (lv_at hl 3 rfl) ?_
    refine lv_iconst (v := 2) hx hb dL_law_1083 (by decide) ?_
    refine lv_iadd hx hb dL_law_1084 ?_
    rw [show nI i + 2 = nI (i + 2) from nI_add i 2]
    refine va_sld hx hb hX hbl hbA hS (hin 2 (by omega)) dL_law_1085 ?_
    rw [nI_clamp (by omega)]
    refine lv_aload_n hx hb dL_law_1086 rfl (lv_at hl 0 rfl) ?_
    refine lv_iload_n hx hb dL_law_1087 rfl (lv_at hl 3 rfl) ?_
    refine lv_iconst (v := 3) hx hb dL_law_1088 (by decide) ?_
    refine lv_iadd hx hb dL_law_1089 ?_
    rw [show nI i + 3 = nI (i + 3) from nI_add i 3]
    refine va_sld hx hb hX hbl hbA hS (hin 3 (by omega)) dL_law_1090 ?_
    rw [nI_clamp (by omega)]
    refine lv_if_eq (tgt := 1098) hx hb dL_law_1091 (by decide) (fun _ => ?_) (fun q => absurd hz q)
    refine lv_iconst (v := 0) hx hb dL_law_1098 (by decide) ?_
    refine lw_cali C0 (na := 3) (o := 0) (rest := []) [I_ (xs (i + 1)).toInt, I_ (xs (i + 2)).toInt, I_ (0 : Int32).toInt] dL_law_1099 lL_112 kvX7_round (plX7 _ _) (Or.inl rfl) rfl rfl rfl rfl (by decide) (by simp [Value.category]) (by simp [emb]) rfl rfl (ok_ints (l := [(xs (i + 1)), (xs (i + 2)), (0 : Int32)])) hμ hP hS hl.1 hnc (op_round h hn) (fun r u H1 locs1 hq hμ hP hS => ?_)
    refine lv_aload_n hx hb dL_law_1102 rfl (lv_at hl 2 rfl) ?_
    refine lv_aload_n hx hb dL_law_1103 rfl (lv_at hl 0 rfl) ?_
    refine lv_iload_n hx hb dL_law_1104 rfl (lv_at hl 3 rfl) ?_
    refine lv_iconst (v := 1) hx hb dL_law_1105 (by decide) ?_
    refine lv_iadd hx hb dL_law_1106 ?_
    rw [show nI i + 1 = nI (i + 1) from nI_add i 1]
    refine va_sld hx hb hX hbl hbA hS (hin 1 (by omega)) dL_law_1107 ?_
    rw [nI_clamp (by omega)]
    refine lv_aload_n hx hb dL_law_1108 rfl (lv_at hl 0 rfl) ?_
    refine lv_iload_n hx hb dL_law_1109 rfl (lv_at hl 3 rfl) ?_
    refine lv_iconst (v := 2) hx hb dL_law_1110 (by decide) ?_
    refine lv_iadd hx hb dL_law_1111 ?_
    rw [show nI i + 2 = nI (i + 2) from nI_add i 2]
    refine va_sld hx hb hX hbl hbA hS (hin 2 (by omega)) dL_law_1112 ?_
    rw [nI_clamp (by omega)]
    refine lv_aload_n hx hb dL_law_1113 rfl (lv_at hl 0 rfl) ?_
    refine lv_iload_n hx hb dL_law_1114 rfl (lv_at hl 3 rfl) ?_
    refine lv_iconst (v := 3) hx hb dL_law_1115 (by decide) ?_
    refine lv_iadd hx hb dL_law_1116 ?_
    rw [show nI i + 3 = nI (i + 3) from nI_add i 3]
    refine va_sld hx hb hX hbl hbA hS (hin 3 (by omega)) dL_law_1117 ?_
    rw [nI_clamp (by omega)]
    refine lv_if_eq (tgt := 1125) hx hb dL_law_1118 (by decide) (fun _ => ?_) (fun q => absurd hz q)
    refine lv_iconst (v := 0) hx hb dL_law_1125 (by decide) ?_
    refine lw_cali C0 (na := 3) (o := 50) (rest := [.int r]) [I_ (xs (i + 1)).toInt, I_ (xs (i + 2)).toInt, I_ (0 : Int32).toInt] dL_law_1126 lL_115 kvX8_round (plX8 _ _) (Or.inl rfl) rfl rfl rfl rfl (by decide) (by simp [Value.category]) (by simp [emb]) rfl rfl (ok_ints (l := [(xs (i + 1)), (xs (i + 2)), (0 : Int32)])) hμ hP hS hl.1 hnc (hq) (fun r2 u2 H2 locs2 hq2 hμ hP hS => ?_)
    have er : r2 = r := by have := hq2.1; simp at this; exact Int32.toInt_inj.mp this
    subst er
    exact lv_icmp_eq (tgt := 1416) hx hb dL_law_1129 (by decide) (fun _ => next u2 H2 locs2 hq2.2 hμ hP hS) (fun c_ => absurd rfl c_)
  · refine lv_aload_n hx hb dL_law_1075 rfl (lv_at hl 1 rfl) ?_
    refine lv_aload_n hx hb dL_law_1076 rfl (lv_at hl 0 rfl) ?_
    refine lv_iload_n hx hb dL_law_1077 rfl (lv_at hl 3 rfl) ?_
    refine lv_iconst (v := 1) hx hb dL_law_1078 (by decide) ?_
    refine lv_iadd hx hb dL_law_1079 ?_
    rw [show nI i + 1 = nI (i + 1) from nI_add i 1]
    refine va_sld hx hb hX hbl hbA hS (hin 1 (by omega)) dL_law_1080 ?_
    rw [nI_clamp (by omega)]
    refine lv_aload_n hx hb dL_law_1081 rfl (lv_at hl 0 rfl) ?_
    refine lv_iload_n hx hb dL_law_1082 rfl (lv_at hl 3 rfl) ?_
    refine lv_iconst (v := 2) hx hb dL_law_1083 (by decide) ?_
    refine lv_iadd hx hb dL_law_1084 ?_
    rw [show nI i + 2 = nI (i + 2) from nI_add i 2]
    refine va_sld hx hb hX hbl hbA hS (hin 2 (by omega)) dL_law_1085 ?_
    rw [nI_clamp (by omega)]
    refine lv_aload_n hx hb dL_law_1086 rfl (lv_at hl 0 rfl) ?_
    refine lv_iload_n hx hb dL_law_1087 rfl (lv_at hl 3 rfl) ?_
    refine lv_iconst (v := 3) hx hb dL_law_1088 (by decide) ?_
    refine lv_iadd hx hb dL_law_1089 ?_
    rw [show nI i + 3 = nI (i + 3) from nI_add i 3]
    refine va_sld hx hb hX hbl hbA hS (hin 3 (by omega)) dL_law_1090 ?_
    rw [nI_clamp (by omega)]
    refine lv_if_eq (tgt := 1098) hx hb dL_law_1091 (by decide) (fun q => absurd q hz) (fun _ => ?_)
    refine lv_iconst (v := 1) hx hb dL_law_1094 (by decide) ?_
    refine lv_goto (tgt := 1099) hx hb dL_law_1095 (by decide) ?_
    refine lw_cali C0 (na := 3) (o := 0) (rest := []) [I_ (xs (i + 1)).toInt, I_ (xs (i + 2)).toInt, I_ (1 : Int32).toInt] dL_law_1099 lL_112 kvX7_round (plX7 _ _) (Or.inl rfl) rfl rfl rfl rfl (by decide) (by simp [Value.category]) (by simp [emb]) rfl rfl (ok_ints (l := [(xs (i + 1)), (xs (i + 2)), (1 : Int32)])) hμ hP hS hl.1 hnc (op_round h hn) (fun r u H1 locs1 hq hμ hP hS => ?_)
    refine lv_aload_n hx hb dL_law_1102 rfl (lv_at hl 2 rfl) ?_
    refine lv_aload_n hx hb dL_law_1103 rfl (lv_at hl 0 rfl) ?_
    refine lv_iload_n hx hb dL_law_1104 rfl (lv_at hl 3 rfl) ?_
    refine lv_iconst (v := 1) hx hb dL_law_1105 (by decide) ?_
    refine lv_iadd hx hb dL_law_1106 ?_
    rw [show nI i + 1 = nI (i + 1) from nI_add i 1]
    refine va_sld hx hb hX hbl hbA hS (hin 1 (by omega)) dL_law_1107 ?_
    rw [nI_clamp (by omega)]
    refine lv_aload_n hx hb dL_law_1108 rfl (lv_at hl 0 rfl) ?_
    refine lv_iload_n hx hb dL_law_1109 rfl (lv_at hl 3 rfl) ?_
    refine lv_iconst (v := 2) hx hb dL_law_1110 (by decide) ?_
    refine lv_iadd hx hb dL_law_1111 ?_
    rw [show nI i + 2 = nI (i + 2) from nI_add i 2]
    refine va_sld hx hb hX hbl hbA hS (hin 2 (by omega)) dL_law_1112 ?_
    rw [nI_clamp (by omega)]
    refine lv_aload_n hx hb dL_law_1113 rfl (lv_at hl 0 rfl) ?_
    refine lv_iload_n hx hb dL_law_1114 rfl (lv_at hl 3 rfl) ?_
    refine lv_iconst (v := 3) hx hb dL_law_1115 (by decide) ?_
    refine lv_iadd hx hb dL_law_1116 ?_
    rw [show nI i + 3 = nI (i + 3) from nI_add i 3]
    refine va_sld hx hb hX hbl hbA hS (hin 3 (by omega)) dL_law_1117 ?_
    rw [nI_clamp (by omega)]
    refine lv_if_eq (tgt := 1125) hx hb dL_law_1118 (by decide) (fun q => absurd q hz) (fun _ => ?_)
    refine lv_iconst (v := 1) hx hb dL_law_1121 (by decide) ?_
    refine lv_goto (tgt := 1126) hx hb dL_law_1122 (by decide) ?_
    refine lw_cali C0 (na := 3) (o := 50) (rest := [.int r]) [I_ (xs (i + 1)).toInt, I_ (xs (i + 2)).toInt, I_ (1 : Int32).toInt] dL_law_1126 lL_115 kvX8_round (plX8 _ _) (Or.inl rfl) rfl rfl rfl rfl (by decide) (by simp [Value.category]) (by simp [emb]) rfl rfl (ok_ints (l := [(xs (i + 1)), (xs (i + 2)), (1 : Int32)])) hμ hP hS hl.1 hnc (hq) (fun r2 u2 H2 locs2 hq2 hμ hP hS => ?_)
    have er : r2 = r := by have := hq2.1; simp at this; exact Int32.toInt_inj.mp this
    subst er
    exact lv_icmp_eq (tgt := 1416) hx hb dL_law_1129 (by decide) (fun _ => next u2 H2 locs2 hq2.2 hμ hP hS) (fun c_ => absurd rfl c_)
set_option maxHeartbeats 4000000 in
set_option maxRecDepth 100000 in
theorem lc_stuck (C0 : LC p s m meth c b ad D cI cB) (hX : va_X b L xs s s.heap) (hbl : b < s.heap.size) (hL : L ≤ 384) (hi : i + 6 ≤ L) (hl : lv_has lsM 4 [(0, .ref b), (1, .ref (ad 0)), (2, .ref (ad 50)), (3, .int (nI i))]) (h : CI n μ) (hn : n < 900) (hμ : okM μ) (hP : va_P D vwCl (wo ad cI cB μ) H) (hS : va_S (hiA s) s.heap H locs) (hnc : nc + 0 ≤ room_1.cells ∧ ns + 0 ≤ room_1.slots) (next : ∀ (u : Mem_) (H1 : Heap) (locs1 : List Loc), CI (n + 1) u → okM u → va_P D vwCl (wo ad cI cB u) H1 → va_S (hiA s) s.heap H1 locs1 → W p l e room_1 s m #[Value.ref b] below meth c H1 locs1 nc ns Z (F0 m 1416 lsM [])) : W p l e room_1 s m #[Value.ref b] below meth c H locs nc ns Z (F0 m 1134 lsM []) := by
  have hx := C0.1.1
  have hb := C0.1.2.1
  have hbA : ¬ hiA s b := Nat.not_le.mpr hbl
  have hin : ∀ k, k < 6 → vp_in (nI (i + k)) L := fun k hk => nI_in (by omega) (by omega)
  refine lv_aload_n hx hb dL_law_1134 rfl (lv_at hl 1 rfl) ?_
  refine lw_cali C0 (na := 0) (o := 0) (rest := []) [] dL_law_1135 lL_116 kvX7_stuck (plX7 _ _) (Or.inl rfl) rfl rfl rfl rfl (by decide) (by simp [Value.category]) (by simp [emb]) rfl rfl (ok_ints (l := [])) hμ hP hS hl.1 hnc (op_stuck h hn) (fun r u H1 locs1 hq hμ hP hS => ?_)
  refine lv_aload_n hx hb dL_law_1138 rfl (lv_at hl 2 rfl) ?_
  refine lw_cali C0 (na := 0) (o := 50) (rest := [.int r]) [] dL_law_1139 lL_120 kvX8_stuck (plX8 _ _) (Or.inl rfl) rfl rfl rfl rfl (by decide) (by simp [Value.category]) (by simp [emb]) rfl rfl (ok_ints (l := [])) hμ hP hS hl.1 hnc (hq) (fun r2 u2 H2 locs2 hq2 hμ hP hS => ?_)
  have er : r2 = r := by have := hq2.1; simp at this; exact Int32.toInt_inj.mp this
  subst er
  exact lv_icmp_eq (tgt := 1416) hx hb dL_law_1142 (by decide) (fun _ => next u2 H2 locs2 hq2.2 hμ hP hS) (fun c_ => absurd rfl c_)
set_option maxHeartbeats 4000000 in
set_option maxRecDepth 100000 in
theorem lc_safe (C0 : LC p s m meth c b ad D cI cB) (hX : va_X b L xs s s.heap) (hbl : b < s.heap.size) (hL : L ≤ 384) (hi : i + 6 ≤ L) (hl : lv_has lsM 4 [(0, .ref b), (1, .ref (ad 0)), (2, .ref (ad 50)), (3, .int (nI i))]) (h : CI n μ) (hn : n < 900) (hμ : okM μ) (hP : va_P D vwCl (wo ad cI cB μ) H) (hS : va_S (hiA s) s.heap H locs) (hnc : nc + 0 ≤ room_1.cells ∧ ns + 0 ≤ room_1.slots) (next : ∀ (u : Mem_) (H1 : Heap) (locs1 : List Loc), CI (n + 1) u → okM u → va_P D vwCl (wo ad cI cB u) H1 → va_S (hiA s) s.heap H1 locs1 → W p l e room_1 s m #[Value.ref b] below meth c H1 locs1 nc ns Z (F0 m 1416 lsM [])) : W p l e room_1 s m #[Value.ref b] below meth c H locs nc ns Z (F0 m 1147 lsM []) := by
  have hx := C0.1.1
  have hb := C0.1.2.1
  have hbA : ¬ hiA s b := Nat.not_le.mpr hbl
  have hin : ∀ k, k < 6 → vp_in (nI (i + k)) L := fun k hk => nI_in (by omega) (by omega)
  refine lv_aload_n hx hb dL_law_1147 rfl (lv_at hl 1 rfl) ?_
  refine lv_aload_n hx hb dL_law_1148 rfl (lv_at hl 0 rfl) ?_
  refine lv_iload_n hx hb dL_law_1149 rfl (lv_at hl 3 rfl) ?_
  refine lv_iconst (v := 1) hx hb dL_law_1150 (by decide) ?_
  refine lv_iadd hx hb dL_law_1151 ?_
  rw [show nI i + 1 = nI (i + 1) from nI_add i 1]
  refine va_sld hx hb hX hbl hbA hS (hin 1 (by omega)) dL_law_1152 ?_
  rw [nI_clamp (by omega)]
  refine lv_aload_n hx hb dL_law_1153 rfl (lv_at hl 0 rfl) ?_
  refine lv_iload_n hx hb dL_law_1154 rfl (lv_at hl 3 rfl) ?_
  refine lv_iconst (v := 2) hx hb dL_law_1155 (by decide) ?_
  refine lv_iadd hx hb dL_law_1156 ?_
  rw [show nI i + 2 = nI (i + 2) from nI_add i 2]
  refine va_sld hx hb hX hbl hbA hS (hin 2 (by omega)) dL_law_1157 ?_
  rw [nI_clamp (by omega)]
  refine lv_aload_n hx hb dL_law_1158 rfl (lv_at hl 0 rfl) ?_
  refine lv_iload_n hx hb dL_law_1159 rfl (lv_at hl 3 rfl) ?_
  refine lv_iconst (v := 3) hx hb dL_law_1160 (by decide) ?_
  refine lv_iadd hx hb dL_law_1161 ?_
  rw [show nI i + 3 = nI (i + 3) from nI_add i 3]
  refine va_sld hx hb hX hbl hbA hS (hin 3 (by omega)) dL_law_1162 ?_
  rw [nI_clamp (by omega)]
  refine lw_cali C0 (na := 3) (o := 0) (rest := []) [I_ (xs (i + 1)).toInt, I_ (xs (i + 2)).toInt, I_ (xs (i + 3)).toInt] dL_law_1163 lL_121 kvX7_safe (plX7 _ _) (Or.inl rfl) rfl rfl rfl rfl (by decide) (by simp [Value.category]) (by simp [emb]) rfl rfl (ok_ints (l := [(xs (i + 1)), (xs (i + 2)), (xs (i + 3))])) hμ hP hS hl.1 hnc (op_safe h hn) (fun r u H1 locs1 hq hμ hP hS => ?_)
  refine lv_aload_n hx hb dL_law_1166 rfl (lv_at hl 2 rfl) ?_
  refine lv_aload_n hx hb dL_law_1167 rfl (lv_at hl 0 rfl) ?_
  refine lv_iload_n hx hb dL_law_1168 rfl (lv_at hl 3 rfl) ?_
  refine lv_iconst (v := 1) hx hb dL_law_1169 (by decide) ?_
  refine lv_iadd hx hb dL_law_1170 ?_
  rw [show nI i + 1 = nI (i + 1) from nI_add i 1]
  refine va_sld hx hb hX hbl hbA hS (hin 1 (by omega)) dL_law_1171 ?_
  rw [nI_clamp (by omega)]
  refine lv_aload_n hx hb dL_law_1172 rfl (lv_at hl 0 rfl) ?_
  refine lv_iload_n hx hb dL_law_1173 rfl (lv_at hl 3 rfl) ?_
  refine lv_iconst (v := 2) hx hb dL_law_1174 (by decide) ?_
  refine lv_iadd hx hb dL_law_1175 ?_
  rw [show nI i + 2 = nI (i + 2) from nI_add i 2]
  refine va_sld hx hb hX hbl hbA hS (hin 2 (by omega)) dL_law_1176 ?_
  rw [nI_clamp (by omega)]
  refine lv_aload_n hx hb dL_law_1177 rfl (lv_at hl 0 rfl) ?_
  refine lv_iload_n hx hb dL_law_1178 rfl (lv_at hl 3 rfl) ?_
  refine lv_iconst (v := 3) hx hb dL_law_1179 (by decide) ?_
  refine lv_iadd hx hb dL_law_1180 ?_
  rw [show nI i + 3 = nI (i + 3) from nI_add i 3]
  refine va_sld hx hb hX hbl hbA hS (hin 3 (by omega)) dL_law_1181 ?_
  rw [nI_clamp (by omega)]
  refine lw_cali C0 (na := 3) (o := 50) (rest := [.int r]) [I_ (xs (i + 1)).toInt, I_ (xs (i + 2)).toInt, I_ (xs (i + 3)).toInt] dL_law_1182 lL_124 kvX8_safe (plX8 _ _) (Or.inl rfl) rfl rfl rfl rfl (by decide) (by simp [Value.category]) (by simp [emb]) rfl rfl (ok_ints (l := [(xs (i + 1)), (xs (i + 2)), (xs (i + 3))])) hμ hP hS hl.1 hnc (hq) (fun r2 u2 H2 locs2 hq2 hμ hP hS => ?_)
  have er : r2 = r := by have := hq2.1; simp at this; exact Int32.toInt_inj.mp this
  subst er
  exact lv_icmp_eq (tgt := 1416) hx hb dL_law_1185 (by decide) (fun _ => next u2 H2 locs2 hq2.2 hμ hP hS) (fun c_ => absurd rfl c_)
set_option maxHeartbeats 4000000 in
set_option maxRecDepth 100000 in
theorem lc_suspects (C0 : LC p s m meth c b ad D cI cB) (hX : va_X b L xs s s.heap) (hbl : b < s.heap.size) (hL : L ≤ 384) (hi : i + 6 ≤ L) (hl : lv_has lsM 4 [(0, .ref b), (1, .ref (ad 0)), (2, .ref (ad 50)), (3, .int (nI i))]) (h : CI n μ) (hn : n < 900) (hμ : okM μ) (hP : va_P D vwCl (wo ad cI cB μ) H) (hS : va_S (hiA s) s.heap H locs) (hnc : nc + 0 ≤ room_1.cells ∧ ns + 0 ≤ room_1.slots) (next : ∀ (u : Mem_) (H1 : Heap) (locs1 : List Loc), CI (n + 1) u → okM u → va_P D vwCl (wo ad cI cB u) H1 → va_S (hiA s) s.heap H1 locs1 → W p l e room_1 s m #[Value.ref b] below meth c H1 locs1 nc ns Z (F0 m 1416 lsM [])) : W p l e room_1 s m #[Value.ref b] below meth c H locs nc ns Z (F0 m 1190 lsM []) := by
  have hx := C0.1.1
  have hb := C0.1.2.1
  have hbA : ¬ hiA s b := Nat.not_le.mpr hbl
  have hin : ∀ k, k < 6 → vp_in (nI (i + k)) L := fun k hk => nI_in (by omega) (by omega)
  refine lv_aload_n hx hb dL_law_1190 rfl (lv_at hl 1 rfl) ?_
  refine lv_aload_n hx hb dL_law_1191 rfl (lv_at hl 0 rfl) ?_
  refine lv_iload_n hx hb dL_law_1192 rfl (lv_at hl 3 rfl) ?_
  refine lv_iconst (v := 1) hx hb dL_law_1193 (by decide) ?_
  refine lv_iadd hx hb dL_law_1194 ?_
  rw [show nI i + 1 = nI (i + 1) from nI_add i 1]
  refine va_sld hx hb hX hbl hbA hS (hin 1 (by omega)) dL_law_1195 ?_
  rw [nI_clamp (by omega)]
  refine lw_cali C0 (na := 1) (o := 0) (rest := []) [I_ (xs (i + 1)).toInt] dL_law_1196 lL_125 kvX7_suspects (plX7 _ _) (Or.inl rfl) rfl rfl rfl rfl (by decide) (by simp [Value.category]) (by simp [emb]) rfl rfl (ok_ints (l := [(xs (i + 1))])) hμ hP hS hl.1 hnc (op_suspects h hn) (fun r u H1 locs1 hq hμ hP hS => ?_)
  refine lv_aload_n hx hb dL_law_1199 rfl (lv_at hl 2 rfl) ?_
  refine lv_aload_n hx hb dL_law_1200 rfl (lv_at hl 0 rfl) ?_
  refine lv_iload_n hx hb dL_law_1201 rfl (lv_at hl 3 rfl) ?_
  refine lv_iconst (v := 1) hx hb dL_law_1202 (by decide) ?_
  refine lv_iadd hx hb dL_law_1203 ?_
  rw [show nI i + 1 = nI (i + 1) from nI_add i 1]
  refine va_sld hx hb hX hbl hbA hS (hin 1 (by omega)) dL_law_1204 ?_
  rw [nI_clamp (by omega)]
  refine lw_cali C0 (na := 1) (o := 50) (rest := [.int r]) [I_ (xs (i + 1)).toInt] dL_law_1205 lL_128 kvX8_suspects (plX8 _ _) (Or.inl rfl) rfl rfl rfl rfl (by decide) (by simp [Value.category]) (by simp [emb]) rfl rfl (ok_ints (l := [(xs (i + 1))])) hμ hP hS hl.1 hnc (hq) (fun r2 u2 H2 locs2 hq2 hμ hP hS => ?_)
  have er : r2 = r := by have := hq2.1; simp at this; exact Int32.toInt_inj.mp this
  subst er
  exact lv_icmp_eq (tgt := 1416) hx hb dL_law_1208 (by decide) (fun _ => next u2 H2 locs2 hq2.2 hμ hP hS) (fun c_ => absurd rfl c_)
set_option maxHeartbeats 4000000 in
set_option maxRecDepth 100000 in
theorem lc_copies (C0 : LC p s m meth c b ad D cI cB) (hX : va_X b L xs s s.heap) (hbl : b < s.heap.size) (hL : L ≤ 384) (hi : i + 6 ≤ L) (hl : lv_has lsM 4 [(0, .ref b), (1, .ref (ad 0)), (2, .ref (ad 50)), (3, .int (nI i))]) (h : CI n μ) (hn : n < 900) (hμ : okM μ) (hP : va_P D vwCl (wo ad cI cB μ) H) (hS : va_S (hiA s) s.heap H locs) (hnc : nc + 0 ≤ room_1.cells ∧ ns + 0 ≤ room_1.slots) (next : ∀ (u : Mem_) (H1 : Heap) (locs1 : List Loc), CI (n + 1) u → okM u → va_P D vwCl (wo ad cI cB u) H1 → va_S (hiA s) s.heap H1 locs1 → W p l e room_1 s m #[Value.ref b] below meth c H1 locs1 nc ns Z (F0 m 1416 lsM [])) : W p l e room_1 s m #[Value.ref b] below meth c H locs nc ns Z (F0 m 1213 lsM []) := by
  have hx := C0.1.1
  have hb := C0.1.2.1
  have hbA : ¬ hiA s b := Nat.not_le.mpr hbl
  have hin : ∀ k, k < 6 → vp_in (nI (i + k)) L := fun k hk => nI_in (by omega) (by omega)
  refine lv_aload_n hx hb dL_law_1213 rfl (lv_at hl 1 rfl) ?_
  refine lv_aload_n hx hb dL_law_1214 rfl (lv_at hl 0 rfl) ?_
  refine lv_iload_n hx hb dL_law_1215 rfl (lv_at hl 3 rfl) ?_
  refine lv_iconst (v := 1) hx hb dL_law_1216 (by decide) ?_
  refine lv_iadd hx hb dL_law_1217 ?_
  rw [show nI i + 1 = nI (i + 1) from nI_add i 1]
  refine va_sld hx hb hX hbl hbA hS (hin 1 (by omega)) dL_law_1218 ?_
  rw [nI_clamp (by omega)]
  refine lv_aload_n hx hb dL_law_1219 rfl (lv_at hl 0 rfl) ?_
  refine lv_iload_n hx hb dL_law_1220 rfl (lv_at hl 3 rfl) ?_
  refine lv_iconst (v := 2) hx hb dL_law_1221 (by decide) ?_
  refine lv_iadd hx hb dL_law_1222 ?_
  rw [show nI i + 2 = nI (i + 2) from nI_add i 2]
  refine va_sld hx hb hX hbl hbA hS (hin 2 (by omega)) dL_law_1223 ?_
  rw [nI_clamp (by omega)]
  refine lw_cali C0 (na := 2) (o := 0) (rest := []) [I_ (xs (i + 1)).toInt, I_ (xs (i + 2)).toInt] dL_law_1224 lL_129 kvX7_copies (plX7 _ _) (Or.inl rfl) rfl rfl rfl rfl (by decide) (by simp [Value.category]) (by simp [emb]) rfl rfl (ok_ints (l := [(xs (i + 1)), (xs (i + 2))])) hμ hP hS hl.1 hnc (op_copies h hn) (fun r u H1 locs1 hq hμ hP hS => ?_)
  refine lv_aload_n hx hb dL_law_1227 rfl (lv_at hl 2 rfl) ?_
  refine lv_aload_n hx hb dL_law_1228 rfl (lv_at hl 0 rfl) ?_
  refine lv_iload_n hx hb dL_law_1229 rfl (lv_at hl 3 rfl) ?_
  refine lv_iconst (v := 1) hx hb dL_law_1230 (by decide) ?_
  refine lv_iadd hx hb dL_law_1231 ?_
  rw [show nI i + 1 = nI (i + 1) from nI_add i 1]
  refine va_sld hx hb hX hbl hbA hS (hin 1 (by omega)) dL_law_1232 ?_
  rw [nI_clamp (by omega)]
  refine lv_aload_n hx hb dL_law_1233 rfl (lv_at hl 0 rfl) ?_
  refine lv_iload_n hx hb dL_law_1234 rfl (lv_at hl 3 rfl) ?_
  refine lv_iconst (v := 2) hx hb dL_law_1235 (by decide) ?_
  refine lv_iadd hx hb dL_law_1236 ?_
  rw [show nI i + 2 = nI (i + 2) from nI_add i 2]
  refine va_sld hx hb hX hbl hbA hS (hin 2 (by omega)) dL_law_1237 ?_
  rw [nI_clamp (by omega)]
  refine lw_cali C0 (na := 2) (o := 50) (rest := [.int r]) [I_ (xs (i + 1)).toInt, I_ (xs (i + 2)).toInt] dL_law_1238 lL_132 kvX8_copies (plX8 _ _) (Or.inl rfl) rfl rfl rfl rfl (by decide) (by simp [Value.category]) (by simp [emb]) rfl rfl (ok_ints (l := [(xs (i + 1)), (xs (i + 2))])) hμ hP hS hl.1 hnc (hq) (fun r2 u2 H2 locs2 hq2 hμ hP hS => ?_)
  have er : r2 = r := by have := hq2.1; simp at this; exact Int32.toInt_inj.mp this
  subst er
  exact lv_icmp_eq (tgt := 1416) hx hb dL_law_1241 (by decide) (fun _ => next u2 H2 locs2 hq2.2 hμ hP hS) (fun c_ => absurd rfl c_)
set_option maxHeartbeats 4000000 in
set_option maxRecDepth 100000 in
theorem lc_dead (C0 : LC p s m meth c b ad D cI cB) (hX : va_X b L xs s s.heap) (hbl : b < s.heap.size) (hL : L ≤ 384) (hi : i + 6 ≤ L) (hl : lv_has lsM 4 [(0, .ref b), (1, .ref (ad 0)), (2, .ref (ad 50)), (3, .int (nI i))]) (h : CI n μ) (hn : n < 900) (hμ : okM μ) (hP : va_P D vwCl (wo ad cI cB μ) H) (hS : va_S (hiA s) s.heap H locs) (hnc : nc + 0 ≤ room_1.cells ∧ ns + 0 ≤ room_1.slots) (next : ∀ (u : Mem_) (H1 : Heap) (locs1 : List Loc), CI (n + 1) u → okM u → va_P D vwCl (wo ad cI cB u) H1 → va_S (hiA s) s.heap H1 locs1 → W p l e room_1 s m #[Value.ref b] below meth c H1 locs1 nc ns Z (F0 m 1416 lsM [])) : W p l e room_1 s m #[Value.ref b] below meth c H locs nc ns Z (F0 m 1246 lsM []) := by
  have hx := C0.1.1
  have hb := C0.1.2.1
  have hbA : ¬ hiA s b := Nat.not_le.mpr hbl
  have hin : ∀ k, k < 6 → vp_in (nI (i + k)) L := fun k hk => nI_in (by omega) (by omega)
  refine lv_aload_n hx hb dL_law_1246 rfl (lv_at hl 1 rfl) ?_
  refine lv_aload_n hx hb dL_law_1247 rfl (lv_at hl 0 rfl) ?_
  refine lv_iload_n hx hb dL_law_1248 rfl (lv_at hl 3 rfl) ?_
  refine lv_iconst (v := 1) hx hb dL_law_1249 (by decide) ?_
  refine lv_iadd hx hb dL_law_1250 ?_
  rw [show nI i + 1 = nI (i + 1) from nI_add i 1]
  refine va_sld hx hb hX hbl hbA hS (hin 1 (by omega)) dL_law_1251 ?_
  rw [nI_clamp (by omega)]
  refine lw_cali C0 (na := 1) (o := 0) (rest := []) [I_ (xs (i + 1)).toInt] dL_law_1252 lL_133 kvX7_dead (plX7 _ _) (Or.inl rfl) rfl rfl rfl rfl (by decide) (by simp [Value.category]) (by simp [emb]) rfl rfl (ok_ints (l := [(xs (i + 1))])) hμ hP hS hl.1 hnc (op_dead h hn) (fun r u H1 locs1 hq hμ hP hS => ?_)
  refine lv_aload_n hx hb dL_law_1255 rfl (lv_at hl 2 rfl) ?_
  refine lv_aload_n hx hb dL_law_1256 rfl (lv_at hl 0 rfl) ?_
  refine lv_iload_n hx hb dL_law_1257 rfl (lv_at hl 3 rfl) ?_
  refine lv_iconst (v := 1) hx hb dL_law_1258 (by decide) ?_
  refine lv_iadd hx hb dL_law_1259 ?_
  rw [show nI i + 1 = nI (i + 1) from nI_add i 1]
  refine va_sld hx hb hX hbl hbA hS (hin 1 (by omega)) dL_law_1260 ?_
  rw [nI_clamp (by omega)]
  refine lw_cali C0 (na := 1) (o := 50) (rest := [.int r]) [I_ (xs (i + 1)).toInt] dL_law_1261 lL_136 kvX8_dead (plX8 _ _) (Or.inl rfl) rfl rfl rfl rfl (by decide) (by simp [Value.category]) (by simp [emb]) rfl rfl (ok_ints (l := [(xs (i + 1))])) hμ hP hS hl.1 hnc (hq) (fun r2 u2 H2 locs2 hq2 hμ hP hS => ?_)
  have er : r2 = r := by have := hq2.1; simp at this; exact Int32.toInt_inj.mp this
  subst er
  exact lv_icmp_eq (tgt := 1416) hx hb dL_law_1264 (by decide) (fun _ => next u2 H2 locs2 hq2.2 hμ hP hS) (fun c_ => absurd rfl c_)
set_option maxHeartbeats 4000000 in
set_option maxRecDepth 100000 in
theorem lc_lost (C0 : LC p s m meth c b ad D cI cB) (hX : va_X b L xs s s.heap) (hbl : b < s.heap.size) (hL : L ≤ 384) (hi : i + 6 ≤ L) (hl : lv_has lsM 4 [(0, .ref b), (1, .ref (ad 0)), (2, .ref (ad 50)), (3, .int (nI i))]) (h : CI n μ) (hn : n < 900) (hμ : okM μ) (hP : va_P D vwCl (wo ad cI cB μ) H) (hS : va_S (hiA s) s.heap H locs) (hnc : nc + 0 ≤ room_1.cells ∧ ns + 0 ≤ room_1.slots) (next : ∀ (u : Mem_) (H1 : Heap) (locs1 : List Loc), CI (n + 1) u → okM u → va_P D vwCl (wo ad cI cB u) H1 → va_S (hiA s) s.heap H1 locs1 → W p l e room_1 s m #[Value.ref b] below meth c H1 locs1 nc ns Z (F0 m 1416 lsM [])) : W p l e room_1 s m #[Value.ref b] below meth c H locs nc ns Z (F0 m 1269 lsM []) := by
  have hx := C0.1.1
  have hb := C0.1.2.1
  have hbA : ¬ hiA s b := Nat.not_le.mpr hbl
  have hin : ∀ k, k < 6 → vp_in (nI (i + k)) L := fun k hk => nI_in (by omega) (by omega)
  refine lv_aload_n hx hb dL_law_1269 rfl (lv_at hl 1 rfl) ?_
  refine lv_aload_n hx hb dL_law_1270 rfl (lv_at hl 0 rfl) ?_
  refine lv_iload_n hx hb dL_law_1271 rfl (lv_at hl 3 rfl) ?_
  refine lv_iconst (v := 1) hx hb dL_law_1272 (by decide) ?_
  refine lv_iadd hx hb dL_law_1273 ?_
  rw [show nI i + 1 = nI (i + 1) from nI_add i 1]
  refine va_sld hx hb hX hbl hbA hS (hin 1 (by omega)) dL_law_1274 ?_
  rw [nI_clamp (by omega)]
  refine lv_aload_n hx hb dL_law_1275 rfl (lv_at hl 0 rfl) ?_
  refine lv_iload_n hx hb dL_law_1276 rfl (lv_at hl 3 rfl) ?_
  refine lv_iconst (v := 2) hx hb dL_law_1277 (by decide) ?_
  refine lv_iadd hx hb dL_law_1278 ?_
  rw [show nI i + 2 = nI (i + 2) from nI_add i 2]
  refine va_sld hx hb hX hbl hbA hS (hin 2 (by omega)) dL_law_1279 ?_
  rw [nI_clamp (by omega)]
  refine lw_cali C0 (na := 2) (o := 0) (rest := []) [I_ (xs (i + 1)).toInt, I_ (xs (i + 2)).toInt] dL_law_1280 lL_137 kvX7_lost (plX7 _ _) (Or.inl rfl) rfl rfl rfl rfl (by decide) (by simp [Value.category]) (by simp [emb]) rfl rfl (ok_ints (l := [(xs (i + 1)), (xs (i + 2))])) hμ hP hS hl.1 hnc (op_lost h hn) (fun r u H1 locs1 hq hμ hP hS => ?_)
  refine lv_aload_n hx hb dL_law_1283 rfl (lv_at hl 2 rfl) ?_
  refine lv_aload_n hx hb dL_law_1284 rfl (lv_at hl 0 rfl) ?_
  refine lv_iload_n hx hb dL_law_1285 rfl (lv_at hl 3 rfl) ?_
  refine lv_iconst (v := 1) hx hb dL_law_1286 (by decide) ?_
  refine lv_iadd hx hb dL_law_1287 ?_
  rw [show nI i + 1 = nI (i + 1) from nI_add i 1]
  refine va_sld hx hb hX hbl hbA hS (hin 1 (by omega)) dL_law_1288 ?_
  rw [nI_clamp (by omega)]
  refine lv_aload_n hx hb dL_law_1289 rfl (lv_at hl 0 rfl) ?_
  refine lv_iload_n hx hb dL_law_1290 rfl (lv_at hl 3 rfl) ?_
  refine lv_iconst (v := 2) hx hb dL_law_1291 (by decide) ?_
  refine lv_iadd hx hb dL_law_1292 ?_
  rw [show nI i + 2 = nI (i + 2) from nI_add i 2]
  refine va_sld hx hb hX hbl hbA hS (hin 2 (by omega)) dL_law_1293 ?_
  rw [nI_clamp (by omega)]
  refine lw_cali C0 (na := 2) (o := 50) (rest := [.int r]) [I_ (xs (i + 1)).toInt, I_ (xs (i + 2)).toInt] dL_law_1294 lL_140 kvX8_lost (plX8 _ _) (Or.inl rfl) rfl rfl rfl rfl (by decide) (by simp [Value.category]) (by simp [emb]) rfl rfl (ok_ints (l := [(xs (i + 1)), (xs (i + 2))])) hμ hP hS hl.1 hnc (hq) (fun r2 u2 H2 locs2 hq2 hμ hP hS => ?_)
  have er : r2 = r := by have := hq2.1; simp at this; exact Int32.toInt_inj.mp this
  subst er
  exact lv_icmp_eq (tgt := 1416) hx hb dL_law_1297 (by decide) (fun _ => next u2 H2 locs2 hq2.2 hμ hP hS) (fun c_ => absurd rfl c_)
set_option maxHeartbeats 4000000 in
set_option maxRecDepth 100000 in
theorem lc_asked (C0 : LC p s m meth c b ad D cI cB) (hX : va_X b L xs s s.heap) (hbl : b < s.heap.size) (hL : L ≤ 384) (hi : i + 6 ≤ L) (hl : lv_has lsM 4 [(0, .ref b), (1, .ref (ad 0)), (2, .ref (ad 50)), (3, .int (nI i))]) (h : CI n μ) (hn : n < 900) (hμ : okM μ) (hP : va_P D vwCl (wo ad cI cB μ) H) (hS : va_S (hiA s) s.heap H locs) (hnc : nc + 0 ≤ room_1.cells ∧ ns + 0 ≤ room_1.slots) (next : ∀ (u : Mem_) (H1 : Heap) (locs1 : List Loc), CI (n + 1) u → okM u → va_P D vwCl (wo ad cI cB u) H1 → va_S (hiA s) s.heap H1 locs1 → W p l e room_1 s m #[Value.ref b] below meth c H1 locs1 nc ns Z (F0 m 1416 lsM [])) : W p l e room_1 s m #[Value.ref b] below meth c H locs nc ns Z (F0 m 1302 lsM []) := by
  have hx := C0.1.1
  have hb := C0.1.2.1
  have hbA : ¬ hiA s b := Nat.not_le.mpr hbl
  have hin : ∀ k, k < 6 → vp_in (nI (i + k)) L := fun k hk => nI_in (by omega) (by omega)
  refine lv_aload_n hx hb dL_law_1302 rfl (lv_at hl 1 rfl) ?_
  refine lw_cali C0 (na := 0) (o := 0) (rest := []) [] dL_law_1303 lL_141 kvX7_asked (plX7 _ _) (Or.inl rfl) rfl rfl rfl rfl (by decide) (by simp [Value.category]) (by simp [emb]) rfl rfl (ok_ints (l := [])) hμ hP hS hl.1 hnc (op_asked h hn) (fun r u H1 locs1 hq hμ hP hS => ?_)
  refine lv_aload_n hx hb dL_law_1306 rfl (lv_at hl 2 rfl) ?_
  refine lw_cali C0 (na := 0) (o := 50) (rest := [.int r]) [] dL_law_1307 lL_144 kvX8_asked (plX8 _ _) (Or.inl rfl) rfl rfl rfl rfl (by decide) (by simp [Value.category]) (by simp [emb]) rfl rfl (ok_ints (l := [])) hμ hP hS hl.1 hnc (hq) (fun r2 u2 H2 locs2 hq2 hμ hP hS => ?_)
  have er : r2 = r := by have := hq2.1; simp at this; exact Int32.toInt_inj.mp this
  subst er
  exact lv_icmp_eq (tgt := 1416) hx hb dL_law_1310 (by decide) (fun _ => next u2 H2 locs2 hq2.2 hμ hP hS) (fun c_ => absurd rfl c_)
set_option maxHeartbeats 4000000 in
set_option maxRecDepth 100000 in
theorem lc_upper (C0 : LC p s m meth c b ad D cI cB) (hX : va_X b L xs s s.heap) (hbl : b < s.heap.size) (hL : L ≤ 384) (hi : i + 6 ≤ L) (hl : lv_has lsM 4 [(0, .ref b), (1, .ref (ad 0)), (2, .ref (ad 50)), (3, .int (nI i))]) (h : CI n μ) (hn : n < 900) (hμ : okM μ) (hP : va_P D vwCl (wo ad cI cB μ) H) (hS : va_S (hiA s) s.heap H locs) (hnc : nc + 0 ≤ room_1.cells ∧ ns + 0 ≤ room_1.slots) (next : ∀ (u : Mem_) (H1 : Heap) (locs1 : List Loc), CI (n + 1) u → okM u → va_P D vwCl (wo ad cI cB u) H1 → va_S (hiA s) s.heap H1 locs1 → W p l e room_1 s m #[Value.ref b] below meth c H1 locs1 nc ns Z (F0 m 1416 lsM [])) : W p l e room_1 s m #[Value.ref b] below meth c H locs nc ns Z (F0 m 1315 lsM []) := by
  have hx := C0.1.1
  have hb := C0.1.2.1
  have hbA : ¬ hiA s b := Nat.not_le.mpr hbl
  have hin : ∀ k, k < 6 → vp_in (nI (i + k)) L := fun k hk => nI_in (by omega) (by omega)
  refine lv_aload_n hx hb dL_law_1315 rfl (lv_at hl 1 rfl) ?_
  refine lw_call C0 (na := 0) (o := 0) (rest := []) [] dL_law_1316 lL_145 kvX7_upper (plX7 _ _) rfl rfl rfl rfl rfl (by decide) (by simp [Value.category]) (by simp [emb]) rfl rfl (ok_ints (l := [])) hμ hP hS hl.1 hnc (op_upper h hn) (fun r u H1 locs1 hq hμ hP hS => ?_)
  refine lv_aload_n hx hb dL_law_1319 rfl (lv_at hl 2 rfl) ?_
  refine lw_call C0 (na := 0) (o := 50) (rest := [.long r]) [] dL_law_1320 lL_149 kvX8_upper (plX8 _ _) rfl rfl rfl rfl rfl (by decide) (by simp [Value.category]) (by simp [emb]) rfl rfl (ok_ints (l := [])) hμ hP hS hl.1 hnc (hq) (fun r2 u2 H2 locs2 hq2 hμ hP hS => ?_)
  have er : r2 = r := by have := hq2.1; simp at this; exact Int64.toInt_inj.mp this
  subst er
  refine W.lcmp hx hb dL_law_1323 ?_
  exact lv_if_eq (tgt := 1416) hx hb dL_law_1324 (by decide) (fun _ => next u2 H2 locs2 hq2.2 hμ hP hS) (fun c_ => absurd (by simp [lg_cmp]) c_)
set_option maxHeartbeats 4000000 in
set_option maxRecDepth 100000 in
theorem lc_lower (C0 : LC p s m meth c b ad D cI cB) (hX : va_X b L xs s s.heap) (hbl : b < s.heap.size) (hL : L ≤ 384) (hi : i + 6 ≤ L) (hl : lv_has lsM 4 [(0, .ref b), (1, .ref (ad 0)), (2, .ref (ad 50)), (3, .int (nI i))]) (h : CI n μ) (hn : n < 900) (hμ : okM μ) (hP : va_P D vwCl (wo ad cI cB μ) H) (hS : va_S (hiA s) s.heap H locs) (hnc : nc + 0 ≤ room_1.cells ∧ ns + 0 ≤ room_1.slots) (next : ∀ (u : Mem_) (H1 : Heap) (locs1 : List Loc), CI (n + 1) u → okM u → va_P D vwCl (wo ad cI cB u) H1 → va_S (hiA s) s.heap H1 locs1 → W p l e room_1 s m #[Value.ref b] below meth c H1 locs1 nc ns Z (F0 m 1416 lsM [])) : W p l e room_1 s m #[Value.ref b] below meth c H locs nc ns Z (F0 m 1329 lsM []) := by
  have hx := C0.1.1
  have hb := C0.1.2.1
  have hbA : ¬ hiA s b := Nat.not_le.mpr hbl
  have hin : ∀ k, k < 6 → vp_in (nI (i + k)) L := fun k hk => nI_in (by omega) (by omega)
  refine lv_aload_n hx hb dL_law_1329 rfl (lv_at hl 1 rfl) ?_
  refine lw_call C0 (na := 0) (o := 0) (rest := []) [] dL_law_1330 lL_150 kvX7_lower (plX7 _ _) rfl rfl rfl rfl rfl (by decide) (by simp [Value.category]) (by simp [emb]) rfl rfl (ok_ints (l := [])) hμ hP hS hl.1 hnc (op_lower h hn) (fun r u H1 locs1 hq hμ hP hS => ?_)
  refine lv_aload_n hx hb dL_law_1333 rfl (lv_at hl 2 rfl) ?_
  refine lw_call C0 (na := 0) (o := 50) (rest := [.long r]) [] dL_law_1334 lL_153 kvX8_lower (plX8 _ _) rfl rfl rfl rfl rfl (by decide) (by simp [Value.category]) (by simp [emb]) rfl rfl (ok_ints (l := [])) hμ hP hS hl.1 hnc (hq) (fun r2 u2 H2 locs2 hq2 hμ hP hS => ?_)
  have er : r2 = r := by have := hq2.1; simp at this; exact Int64.toInt_inj.mp this
  subst er
  refine W.lcmp hx hb dL_law_1337 ?_
  exact lv_if_eq (tgt := 1416) hx hb dL_law_1338 (by decide) (fun _ => next u2 H2 locs2 hq2.2 hμ hP hS) (fun c_ => absurd (by simp [lg_cmp]) c_)
set_option maxHeartbeats 4000000 in
set_option maxRecDepth 100000 in
theorem lc_count (C0 : LC p s m meth c b ad D cI cB) (hX : va_X b L xs s s.heap) (hbl : b < s.heap.size) (hL : L ≤ 384) (hi : i + 6 ≤ L) (hl : lv_has lsM 4 [(0, .ref b), (1, .ref (ad 0)), (2, .ref (ad 50)), (3, .int (nI i))]) (h : CI n μ) (hn : n < 900) (hμ : okM μ) (hP : va_P D vwCl (wo ad cI cB μ) H) (hS : va_S (hiA s) s.heap H locs) (hnc : nc + 0 ≤ room_1.cells ∧ ns + 0 ≤ room_1.slots) (next : ∀ (u : Mem_) (H1 : Heap) (locs1 : List Loc), CI (n + 1) u → okM u → va_P D vwCl (wo ad cI cB u) H1 → va_S (hiA s) s.heap H1 locs1 → W p l e room_1 s m #[Value.ref b] below meth c H1 locs1 nc ns Z (F0 m 1416 lsM [])) : W p l e room_1 s m #[Value.ref b] below meth c H locs nc ns Z (F0 m 1343 lsM []) := by
  have hx := C0.1.1
  have hb := C0.1.2.1
  have hbA : ¬ hiA s b := Nat.not_le.mpr hbl
  have hin : ∀ k, k < 6 → vp_in (nI (i + k)) L := fun k hk => nI_in (by omega) (by omega)
  refine lv_aload_n hx hb dL_law_1343 rfl (lv_at hl 1 rfl) ?_
  refine lv_aload_n hx hb dL_law_1344 rfl (lv_at hl 0 rfl) ?_
  refine lv_iload_n hx hb dL_law_1345 rfl (lv_at hl 3 rfl) ?_
  refine lv_iconst (v := 1) hx hb dL_law_1346 (by decide) ?_
  refine lv_iadd hx hb dL_law_1347 ?_
  rw [show nI i + 1 = nI (i + 1) from nI_add i 1]
  refine va_sld hx hb hX hbl hbA hS (hin 1 (by omega)) dL_law_1348 ?_
  rw [nI_clamp (by omega)]
  refine lw_cali C0 (na := 1) (o := 0) (rest := []) [I_ (xs (i + 1)).toInt] dL_law_1349 lL_154 kvX7_count (plX7 _ _) (Or.inl rfl) rfl rfl rfl rfl (by decide) (by simp [Value.category]) (by simp [emb]) rfl rfl (ok_ints (l := [(xs (i + 1))])) hμ hP hS hl.1 hnc (op_count h hn) (fun r u H1 locs1 hq hμ hP hS => ?_)
  refine lv_aload_n hx hb dL_law_1352 rfl (lv_at hl 2 rfl) ?_
  refine lv_aload_n hx hb dL_law_1353 rfl (lv_at hl 0 rfl) ?_
  refine lv_iload_n hx hb dL_law_1354 rfl (lv_at hl 3 rfl) ?_
  refine lv_iconst (v := 1) hx hb dL_law_1355 (by decide) ?_
  refine lv_iadd hx hb dL_law_1356 ?_
  rw [show nI i + 1 = nI (i + 1) from nI_add i 1]
  refine va_sld hx hb hX hbl hbA hS (hin 1 (by omega)) dL_law_1357 ?_
  rw [nI_clamp (by omega)]
  refine lw_cali C0 (na := 1) (o := 50) (rest := [.int r]) [I_ (xs (i + 1)).toInt] dL_law_1358 lL_157 kvX8_count (plX8 _ _) (Or.inl rfl) rfl rfl rfl rfl (by decide) (by simp [Value.category]) (by simp [emb]) rfl rfl (ok_ints (l := [(xs (i + 1))])) hμ hP hS hl.1 hnc (hq) (fun r2 u2 H2 locs2 hq2 hμ hP hS => ?_)
  have er : r2 = r := by have := hq2.1; simp at this; exact Int32.toInt_inj.mp this
  subst er
  exact lv_icmp_eq (tgt := 1416) hx hb dL_law_1361 (by decide) (fun _ => next u2 H2 locs2 hq2.2 hμ hP hS) (fun c_ => absurd rfl c_)
set_option maxHeartbeats 4000000 in
set_option maxRecDepth 100000 in
theorem lc_finding (C0 : LC p s m meth c b ad D cI cB) (hX : va_X b L xs s s.heap) (hbl : b < s.heap.size) (hL : L ≤ 384) (hi : i + 6 ≤ L) (hl : lv_has lsM 4 [(0, .ref b), (1, .ref (ad 0)), (2, .ref (ad 50)), (3, .int (nI i))]) (h : CI n μ) (hn : n < 900) (hμ : okM μ) (hP : va_P D vwCl (wo ad cI cB μ) H) (hS : va_S (hiA s) s.heap H locs) (hnc : nc + 0 ≤ room_1.cells ∧ ns + 0 ≤ room_1.slots) (next : ∀ (u : Mem_) (H1 : Heap) (locs1 : List Loc), CI (n + 1) u → okM u → va_P D vwCl (wo ad cI cB u) H1 → va_S (hiA s) s.heap H1 locs1 → W p l e room_1 s m #[Value.ref b] below meth c H1 locs1 nc ns Z (F0 m 1416 lsM [])) : W p l e room_1 s m #[Value.ref b] below meth c H locs nc ns Z (F0 m 1366 lsM []) := by
  have hx := C0.1.1
  have hb := C0.1.2.1
  have hbA : ¬ hiA s b := Nat.not_le.mpr hbl
  have hin : ∀ k, k < 6 → vp_in (nI (i + k)) L := fun k hk => nI_in (by omega) (by omega)
  refine lv_aload_n hx hb dL_law_1366 rfl (lv_at hl 1 rfl) ?_
  refine lw_cali C0 (na := 0) (o := 0) (rest := []) [] dL_law_1367 lL_158 kvX7_finding (plX7 _ _) (Or.inl rfl) rfl rfl rfl rfl (by decide) (by simp [Value.category]) (by simp [emb]) rfl rfl (ok_ints (l := [])) hμ hP hS hl.1 hnc (op_finding h hn) (fun r u H1 locs1 hq hμ hP hS => ?_)
  refine lv_aload_n hx hb dL_law_1370 rfl (lv_at hl 2 rfl) ?_
  refine lw_cali C0 (na := 0) (o := 50) (rest := [.int r]) [] dL_law_1371 lL_161 kvX8_finding (plX8 _ _) (Or.inl rfl) rfl rfl rfl rfl (by decide) (by simp [Value.category]) (by simp [emb]) rfl rfl (ok_ints (l := [])) hμ hP hS hl.1 hnc (hq) (fun r2 u2 H2 locs2 hq2 hμ hP hS => ?_)
  have er : r2 = r := by have := hq2.1; simp at this; exact Int32.toInt_inj.mp this
  subst er
  exact lv_icmp_eq (tgt := 1416) hx hb dL_law_1374 (by decide) (fun _ => next u2 H2 locs2 hq2.2 hμ hP hS) (fun c_ => absurd rfl c_)
set_option maxHeartbeats 4000000 in
set_option maxRecDepth 100000 in
theorem lc_findings (C0 : LC p s m meth c b ad D cI cB) (hX : va_X b L xs s s.heap) (hbl : b < s.heap.size) (hL : L ≤ 384) (hi : i + 6 ≤ L) (hl : lv_has lsM 4 [(0, .ref b), (1, .ref (ad 0)), (2, .ref (ad 50)), (3, .int (nI i))]) (h : CI n μ) (hn : n < 900) (hμ : okM μ) (hP : va_P D vwCl (wo ad cI cB μ) H) (hS : va_S (hiA s) s.heap H locs) (hnc : nc + 0 ≤ room_1.cells ∧ ns + 0 ≤ room_1.slots) (next : ∀ (u : Mem_) (H1 : Heap) (locs1 : List Loc), CI (n + 1) u → okM u → va_P D vwCl (wo ad cI cB u) H1 → va_S (hiA s) s.heap H1 locs1 → W p l e room_1 s m #[Value.ref b] below meth c H1 locs1 nc ns Z (F0 m 1416 lsM [])) : W p l e room_1 s m #[Value.ref b] below meth c H locs nc ns Z (F0 m 1379 lsM []) := by
  have hx := C0.1.1
  have hb := C0.1.2.1
  have hbA : ¬ hiA s b := Nat.not_le.mpr hbl
  have hin : ∀ k, k < 6 → vp_in (nI (i + k)) L := fun k hk => nI_in (by omega) (by omega)
  refine lv_aload_n hx hb dL_law_1379 rfl (lv_at hl 1 rfl) ?_
  refine lv_aload_n hx hb dL_law_1380 rfl (lv_at hl 0 rfl) ?_
  refine lv_iload_n hx hb dL_law_1381 rfl (lv_at hl 3 rfl) ?_
  refine lv_iconst (v := 1) hx hb dL_law_1382 (by decide) ?_
  refine lv_iadd hx hb dL_law_1383 ?_
  rw [show nI i + 1 = nI (i + 1) from nI_add i 1]
  refine va_sld hx hb hX hbl hbA hS (hin 1 (by omega)) dL_law_1384 ?_
  rw [nI_clamp (by omega)]
  refine lw_cali C0 (na := 1) (o := 0) (rest := []) [I_ (xs (i + 1)).toInt] dL_law_1385 lL_162 kvX7_findings (plX7 _ _) (Or.inl rfl) rfl rfl rfl rfl (by decide) (by simp [Value.category]) (by simp [emb]) rfl rfl (ok_ints (l := [(xs (i + 1))])) hμ hP hS hl.1 hnc (op_findings h hn) (fun r u H1 locs1 hq hμ hP hS => ?_)
  refine lv_aload_n hx hb dL_law_1388 rfl (lv_at hl 2 rfl) ?_
  refine lv_aload_n hx hb dL_law_1389 rfl (lv_at hl 0 rfl) ?_
  refine lv_iload_n hx hb dL_law_1390 rfl (lv_at hl 3 rfl) ?_
  refine lv_iconst (v := 1) hx hb dL_law_1391 (by decide) ?_
  refine lv_iadd hx hb dL_law_1392 ?_
  rw [show nI i + 1 = nI (i + 1) from nI_add i 1]
  refine va_sld hx hb hX hbl hbA hS (hin 1 (by omega)) dL_law_1393 ?_
  rw [nI_clamp (by omega)]
  refine lw_cali C0 (na := 1) (o := 50) (rest := [.int r]) [I_ (xs (i + 1)).toInt] dL_law_1394 lL_165 kvX8_findings (plX8 _ _) (Or.inl rfl) rfl rfl rfl rfl (by decide) (by simp [Value.category]) (by simp [emb]) rfl rfl (ok_ints (l := [(xs (i + 1))])) hμ hP hS hl.1 hnc (hq) (fun r2 u2 H2 locs2 hq2 hμ hP hS => ?_)
  have er : r2 = r := by have := hq2.1; simp at this; exact Int32.toInt_inj.mp this
  subst er
  exact lv_icmp_eq (tgt := 1416) hx hb dL_law_1397 (by decide) (fun _ => next u2 H2 locs2 hq2.2 hμ hP hS) (fun c_ => absurd rfl c_)
set_option maxHeartbeats 4000000 in
set_option maxRecDepth 100000 in
theorem lc_digest (C0 : LC p s m meth c b ad D cI cB) (hX : va_X b L xs s s.heap) (hbl : b < s.heap.size) (hL : L ≤ 384) (hi : i + 6 ≤ L) (hl : lv_has lsM 4 [(0, .ref b), (1, .ref (ad 0)), (2, .ref (ad 50)), (3, .int (nI i))]) (h : CI n μ) (hn : n < 900) (hμ : okM μ) (hP : va_P D vwCl (wo ad cI cB μ) H) (hS : va_S (hiA s) s.heap H locs) (hnc : nc + 0 ≤ room_1.cells ∧ ns + 0 ≤ room_1.slots) (next : ∀ (u : Mem_) (H1 : Heap) (locs1 : List Loc), CI (n + 1) u → okM u → va_P D vwCl (wo ad cI cB u) H1 → va_S (hiA s) s.heap H1 locs1 → W p l e room_1 s m #[Value.ref b] below meth c H1 locs1 nc ns Z (F0 m 1416 lsM [])) : W p l e room_1 s m #[Value.ref b] below meth c H locs nc ns Z (F0 m 1402 lsM []) := by
  have hx := C0.1.1
  have hb := C0.1.2.1
  have hbA : ¬ hiA s b := Nat.not_le.mpr hbl
  have hin : ∀ k, k < 6 → vp_in (nI (i + k)) L := fun k hk => nI_in (by omega) (by omega)
  refine lv_aload_n hx hb dL_law_1402 rfl (lv_at hl 1 rfl) ?_
  refine lw_call C0 (na := 0) (o := 0) (rest := []) [] dL_law_1403 lL_166 kvX7_digest (plX7 _ _) rfl rfl rfl rfl rfl (by decide) (by simp [Value.category]) (by simp [emb]) rfl rfl (ok_ints (l := [])) hμ hP hS hl.1 hnc (op_digest h hn) (fun r u H1 locs1 hq hμ hP hS => ?_)
  refine lv_aload_n hx hb dL_law_1406 rfl (lv_at hl 2 rfl) ?_
  refine lw_call C0 (na := 0) (o := 50) (rest := [.long r]) [] dL_law_1407 lL_169 kvX8_digest (plX8 _ _) rfl rfl rfl rfl rfl (by decide) (by simp [Value.category]) (by simp [emb]) rfl rfl (ok_ints (l := [])) hμ hP hS hl.1 hnc (hq) (fun r2 u2 H2 locs2 hq2 hμ hP hS => ?_)
  have er : r2 = r := by have := hq2.1; simp at this; exact Int64.toInt_inj.mp this
  subst er
  refine W.lcmp hx hb dL_law_1410 ?_
  exact lv_if_eq (tgt := 1416) hx hb dL_law_1411 (by decide) (fun _ => next u2 H2 locs2 hq2.2 hμ hP hS) (fun c_ => absurd (by simp [lg_cmp]) c_)
end
