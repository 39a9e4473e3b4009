theorem vblind {as : List Value} {D : va_G} {ws : va_W} {tys : List (ClassId × FieldType)} : FrameBlind (va_Pc as (fun U => va_P D vwCl ws U.heap ∧ va_K D vwCl tys U ∧ ∀ w ∈ nw_, va_Nw w U)) := by
  intro a U g mk q
  obtain ⟨q0, qP, qK, qN⟩ := q
  exact ⟨q0, qP, va_K.moved (u := U) (U := U.calling g mk a) (Vm.Alike.refl U.vm) qK, nw_same (s := U) (U := U.calling g mk a) rfl qN⟩
theorem goodV {N : MRec} {n idx : Nat} {own : String} (hl : Cond.methodLink own idx (mY N) ∈ gt_) (hk : KV N n) : GoodIn gt_ (wsV own idx (mY N).cls (mY N) (wsN N)) := by
  intro w hw
  have hm : w ∈ gt_ := by
    unfold wsV at hw
    simp only [List.cons_append, List.nil_append, List.mem_cons] at hw
    rcases hw with rfl | rfl | rfl | rfl | rfl | hw
    · exact hl
    · exact hk.1
    · exact hk.2.1
    · exact hk.2.2.2.1
    · exact hk.2.2.1
    · exact hw
  exact ⟨hm, gt_good w hm⟩
theorem goodS {N : MRec} {n idx : Nat} {own : String} (hl : Cond.methodLink own idx (mY N) ∈ gt_) (hk : KS N n) : GoodIn gt_ (va_wsS own idx (mY N) (wsN N)) := by
  intro w hw
  have hm : w ∈ gt_ := by
    unfold va_wsS at hw
    simp only [List.cons_append, List.nil_append, List.mem_cons] at hw
    rcases hw with rfl | rfl | rfl | rfl | hw
    · exact hl
    · exact hk.1
    · exact hk.2.2.1
    · exact hk.2.1
    · exact hw
  exact ⟨hm, gt_good w hm⟩
theorem goodN {N : MRec} {n : Nat} (hk : KS N n) : GoodIn gt_ (wsN N) := by
  intro w hw
  have hm : w ∈ gt_ := by
    rcases List.mem_cons.mp hw with rfl | hw
    · exact hk.2.1
    · exact hw
  exact ⟨hm, gt_good w hm⟩
def fitR (M N : MRec) : Bool := Nat.ble (mF N + 1) (mF M) && Nat.ble (8 + (mL N + 11) + mO N) (mO M)
theorem fitR_ok {M N : MRec} (h : fitR M N = true) : (rmM N).frames + 1 ≤ (rmM M).frames ∧ 8 + (mL N + 11) + (rmM N).locals ≤ (rmM M).locals := by
  simp only [fitR, Bool.and_eq_true, Nat.ble_eq] at h
  exact h
set_option maxHeartbeats 1000000 in
theorem v_callVi {M : MRec} {pc : Nat} {ls st st0 : List PV} {μ : Mem_} {Q : PV → Mem_ → Prop} {N : MRec} {na idx : Nat} {ls0 : List PV} (as : List PV) (hd : decode (mC M) pc = .ok (.invokevirtual idx, 3)) (hl : Cond.methodLink (mY M).cls idx (mY N) ∈ gt_) (hk : KV N na) (hpl : plainFor (mY N) = true) (hT : mT N = some .int ∨ mT N = some .boolean) {o ci n : Nat} (hs : shp o = (ci, n)) (h9 : Nat.ble (ci + 1) 9 = true) (hC : (vwCl[ci]?).map (fun q => q.1) = some (mY N).cls) (hna : as.length = na) (hf : fitR M N = true) (hcat : Nat.ble (cats st) 8 = true) (hst : st0 = as.reverse ++ R_ o :: st) (hw : Nat.ble ((R_ o :: as).flatMap wd).length (mL N) = true) (he : ent (mL N) (R_ o :: as) = ls0) (kk : V_ N 0 ls0 [] μ (fun r μ' => V_ M (pc + 3) ls (r :: st) μ' Q)) : V_ M pc ls st0 μ Q := by
  intro h1 h2 h3 h4 p l e s m args below meth c ad D cI cB H locs lsM K
  subst he hst
  have hok2 : okl as := fun v hv => h2 v (List.mem_append_left _ (List.mem_reverse.mpr hv))
  have hst1 : okl (R_ o :: st) := fun v hv => h2 v (List.mem_append_right _ hv)
  have hst2 : okl st := okl_tl hst1
  have hM := met_V (l := l) (ad := ad) (D := D) (cI := cI) (cB := cB) hpl (Nat.le_of_ble_eq_true hw) (okl_cons (v := R_ o) trivial hok2) h3 K.2.1.1 kk
  rw [QcV_int hT] at hM
  have ho := shp_lt hs (by have := Nat.le_of_ble_eq_true h9; omega)
  have he0 : (wo ad cI cB μ)[o]? = some (ad o, .inr (ci, (List.range n).map (fun k => emb ad (pvf o k μ)))) := by rw [wo_at ho, cellE_obj hs (Nat.le_of_ble_eq_true h9)]
  have hrecv : ∃ cell : Cell, H[ad o]? = some cell ∧ cell.vm.isStatics = false ∧ s.vm.findClass (mY N).cls = some cell.cls := by
    cases hq : vwCl[ci]? with
    | none => rw [hq] at hC; cases hC
    | some q =>
      rw [hq] at hC
      have e := Option.some.inj hC
      obtain ⟨cell, g1, g2, g3⟩ := va_recv K.2.1.2.1 K.2.2.1 hq he0
      exact ⟨cell, g1, g2, by rw [← e]; exact g3⟩
  refine va_calli (va_runV (As := as.map (emb ad)) (rest := st.map (emb ad)) (b := ad o) ⟨K.1.1, K.1.2.1, K.1.2.2.2.1, K.1.2.2.2.2.1, K.1.2.2.2.2.2.1⟩ hM (cwV na K.1.2.2.2.2.2.1 (goodV hl hk) rfl rfl rfl ⟨rfl, hk.2.2.2.2.1.1, hk.2.2.2.2.1.2, hk.2.2.2.2.2⟩ (fitR_ok hf)) ⟨vblind, hrecv, fun U hU hW => ⟨rfl, by rw [hU]; exact K.2.2.1, va_K.moved hW.alike K.2.1.2.1, nw_warm hW K.2.1.2.2⟩⟩ rfl (by simpa using hna) (K.2.2.2.2.1.trans (h4)) ?_ ?_ hd ⟨Nat.zero_le _, Nat.zero_le _⟩) K.2.2.2.1 (fun q _ h => h) (fun q h => h) (fun r u t H1 locs1 ht hvm hp hB hz1 hk1 hS1 => ?_)
  · show List.map (emb ad) (as.reverse ++ R_ o :: st) = _
    simp [emb]
  · show 2 * 0 + _ ≤ 8
    rw [cats_eq ad st]
    have := Nat.le_of_ble_eq_true hcat
    omega
  have hp : V_ M (pc + 3) ls (I_ r.toInt :: st) u Q := hp
  have := hp h1 (okl_cons (v := I_ r.toInt) (i32_in r) hst2) hB.1 h4 p l e s m args below meth c ad D cI cB H1 locs1 lsM ⟨K.1, K.2.1, by rw [← ht]; exact hB.2, hS1, K.2.2.2.2⟩
  simp only [List.map_cons, emb, Int32.ofInt_toInt] at this
  exact this
set_option maxHeartbeats 1000000 in
theorem v_callVl {M : MRec} {pc : Nat} {ls st st0 : List PV} {μ : Mem_} {Q : PV → Mem_ → Prop} {N : MRec} {na idx : Nat} {ls0 : List PV} (as : List PV) (hd : decode (mC M) pc = .ok (.invokevirtual idx, 3)) (hl : Cond.methodLink (mY M).cls idx (mY N) ∈ gt_) (hk : KV N na) (hpl : plainFor (mY N) = true) (hT : mT N = some .long) {o ci n : Nat} (hs : shp o = (ci, n)) (h9 : Nat.ble (ci + 1) 9 = true) (hC : (vwCl[ci]?).map (fun q => q.1) = some (mY N).cls) (hna : as.length = na) (hf : fitR M N = true) (hcat : Nat.ble (cats st) 8 = true) (hst : st0 = as.reverse ++ R_ o :: st) (hw : Nat.ble ((R_ o :: as).flatMap wd).length (mL N) = true) (he : ent (mL N) (R_ o :: as) = ls0) (kk : V_ N 0 ls0 [] μ (fun r μ' => V_ M (pc + 3) ls (r :: st) μ' Q)) : V_ M pc ls st0 μ Q := by
  intro h1 h2 h3 h4 p l e s m args below meth c ad D cI cB H locs lsM K
  subst he hst
  have hok2 : okl as := fun v hv => h2 v (List.mem_append_left _ (List.mem_reverse.mpr hv))
  have hst1 : okl (R_ o :: st) := fun v hv => h2 v (List.mem_append_right _ hv)
  have hst2 : okl st := okl_tl hst1
  have hM := met_V (l := l) (ad := ad) (D := D) (cI := cI) (cB := cB) hpl (Nat.le_of_ble_eq_true hw) (okl_cons (v := R_ o) trivial hok2) h3 K.2.1.1 kk
  rw [hT] at hM
  have ho := shp_lt hs (by have := Nat.le_of_ble_eq_true h9; omega)
  have he0 : (wo ad cI cB μ)[o]? = some (ad o, .inr (ci, (List.range n).map (fun k => emb ad (pvf o k μ)))) := by rw [wo_at ho, cellE_obj hs (Nat.le_of_ble_eq_true h9)]
  have hrecv : ∃ cell : Cell, H[ad o]? = some cell ∧ cell.vm.isStatics = false ∧ s.vm.findClass (mY N).cls = some cell.cls := by
    cases hq : vwCl[ci]? with
    | none => rw [hq] at hC; cases hC
    | some q =>
      rw [hq] at hC
      have e := Option.some.inj hC
      obtain ⟨cell, g1, g2, g3⟩ := va_recv K.2.1.2.1 K.2.2.1 hq he0
      exact ⟨cell, g1, g2, by rw [← e]; exact g3⟩
  refine va_calll (va_runV (As := as.map (emb ad)) (rest := st.map (emb ad)) (b := ad o) ⟨K.1.1, K.1.2.1, K.1.2.2.2.1, K.1.2.2.2.2.1, K.1.2.2.2.2.2.1⟩ hM (cwV na K.1.2.2.2.2.2.1 (goodV hl hk) rfl rfl rfl ⟨rfl, hk.2.2.2.2.1.1, hk.2.2.2.2.1.2, hk.2.2.2.2.2⟩ (fitR_ok hf)) ⟨vblind, hrecv, fun U hU hW => ⟨rfl, by rw [hU]; exact K.2.2.1, va_K.moved hW.alike K.2.1.2.1, nw_warm hW K.2.1.2.2⟩⟩ rfl (by simpa using hna) (K.2.2.2.2.1.trans (h4)) ?_ ?_ hd ⟨Nat.zero_le _, Nat.zero_le _⟩) K.2.2.2.1 (fun q _ h => h) (fun q h => h) (fun r u t H1 locs1 ht hvm hp hB hz1 hk1 hS1 => ?_)
  · show List.map (emb ad) (as.reverse ++ R_ o :: st) = _
    simp [emb]
  · show 2 * 0 + _ ≤ 8
    rw [cats_eq ad st]
    have := Nat.le_of_ble_eq_true hcat
    omega
  have hp : V_ M (pc + 3) ls (L_ r.toInt :: st) u Q := hp
  have := hp h1 (okl_cons (v := L_ r.toInt) (i64_in r) hst2) hB.1 h4 p l e s m args below meth c ad D cI cB H1 locs1 lsM ⟨K.1, K.2.1, by rw [← ht]; exact hB.2, hS1, K.2.2.2.2⟩
  simp only [List.map_cons, emb, Int64.ofInt_toInt] at this
  exact this
set_option maxHeartbeats 1000000 in
theorem v_callVv {M : MRec} {pc : Nat} {ls st st0 : List PV} {μ : Mem_} {Q : PV → Mem_ → Prop} {N : MRec} {na idx : Nat} {ls0 : List PV} (as : List PV) (hd : decode (mC M) pc = .ok (.invokevirtual idx, 3)) (hl : Cond.methodLink (mY M).cls idx (mY N) ∈ gt_) (hk : KV N na) (hpl : plainFor (mY N) = true) (hT : mT N = none) {o ci n : Nat} (hs : shp o = (ci, n)) (h9 : Nat.ble (ci + 1) 9 = true) (hC : (vwCl[ci]?).map (fun q => q.1) = some (mY N).cls) (hna : as.length = na) (hf : fitR M N = true) (hcat : Nat.ble (cats st) 8 = true) (hst : st0 = as.reverse ++ R_ o :: st) (hw : Nat.ble ((R_ o :: as).flatMap wd).length (mL N) = true) (he : ent (mL N) (R_ o :: as) = ls0) (kk : V_ N 0 ls0 [] μ (fun _ μ' => V_ M (pc + 3) ls st μ' Q)) : V_ M pc ls st0 μ Q := by
  intro h1 h2 h3 h4 p l e s m args below meth c ad D cI cB H locs lsM K
  subst he hst
  have hok2 : okl as := fun v hv => h2 v (List.mem_append_left _ (List.mem_reverse.mpr hv))
  have hst1 : okl (R_ o :: st) := fun v hv => h2 v (List.mem_append_right _ hv)
  have hst2 : okl st := okl_tl hst1
  have hM := met_V (l := l) (ad := ad) (D := D) (cI := cI) (cB := cB) hpl (Nat.le_of_ble_eq_true hw) (okl_cons (v := R_ o) trivial hok2) h3 K.2.1.1 kk
  rw [hT] at hM
  have ho := shp_lt hs (by have := Nat.le_of_ble_eq_true h9; omega)
  have he0 : (wo ad cI cB μ)[o]? = some (ad o, .inr (ci, (List.range n).map (fun k => emb ad (pvf o k μ)))) := by rw [wo_at ho, cellE_obj hs (Nat.le_of_ble_eq_true h9)]
  have hrecv : ∃ cell : Cell, H[ad o]? = some cell ∧ cell.vm.isStatics = false ∧ s.vm.findClass (mY N).cls = some cell.cls := by
    cases hq : vwCl[ci]? with
    | none => rw [hq] at hC; cases hC
    | some q =>
      rw [hq] at hC
      have e := Option.some.inj hC
      obtain ⟨cell, g1, g2, g3⟩ := va_recv K.2.1.2.1 K.2.2.1 hq he0
      exact ⟨cell, g1, g2, by rw [← e]; exact g3⟩
  refine va_callv (va_runV (As := as.map (emb ad)) (rest := st.map (emb ad)) (b := ad o) ⟨K.1.1, K.1.2.1, K.1.2.2.2.1, K.1.2.2.2.2.1, K.1.2.2.2.2.2.1⟩ hM (cwV na K.1.2.2.2.2.2.1 (goodV hl hk) rfl rfl rfl ⟨rfl, hk.2.2.2.2.1.1, hk.2.2.2.2.1.2, hk.2.2.2.2.2⟩ (fitR_ok hf)) ⟨vblind, hrecv, fun U hU hW => ⟨rfl, by rw [hU]; exact K.2.2.1, va_K.moved hW.alike K.2.1.2.1, nw_warm hW K.2.1.2.2⟩⟩ rfl (by simpa using hna) (K.2.2.2.2.1.trans (h4)) ?_ ?_ hd ⟨Nat.zero_le _, Nat.zero_le _⟩) K.2.2.2.1 (fun q _ h => h) (fun q h => h) (fun u t H1 locs1 ht hvm hp hB hz1 hk1 hS1 => ?_)
  · show List.map (emb ad) (as.reverse ++ R_ o :: st) = _
    simp [emb]
  · show 2 * 0 + _ ≤ 8
    rw [cats_eq ad st]
    have := Nat.le_of_ble_eq_true hcat
    omega
  have hp : V_ M (pc + 3) ls st u Q := hp
  exact hp h1 hst2 hB.1 h4 p l e s m args below meth c ad D cI cB H1 locs1 lsM ⟨K.1, K.2.1, by rw [← ht]; exact hB.2, hS1, K.2.2.2.2⟩
set_option maxHeartbeats 1000000 in
theorem v_callSi {M : MRec} {pc : Nat} {ls st st0 : List PV} {μ : Mem_} {Q : PV → Mem_ → Prop} {N : MRec} {na idx : Nat} {ls0 : List PV} (as : List PV) (hd : decode (mC M) pc = .ok (.invokestatic idx, 3)) (hl : Cond.methodLink (mY M).cls idx (mY N) ∈ gt_) (hk : KS N na) (hpl : plainFor (mY N) = true) (hT : mT N = some .int ∨ mT N = some .boolean) (hna : as.length = na) (hf : fitR M N = true) (hcat : Nat.ble (cats st) 8 = true) (hst : st0 = as.reverse ++ st) (hw : Nat.ble (as.flatMap wd).length (mL N) = true) (he : ent (mL N) as = ls0) (kk : V_ N 0 ls0 [] μ (fun r μ' => V_ M (pc + 3) ls (r :: st) μ' Q)) : V_ M pc ls st0 μ Q := by
  intro h1 h2 h3 h4 p l e s m args below meth c ad D cI cB H locs lsM K
  subst he hst
  have hok2 : okl as := fun v hv => h2 v (List.mem_append_left _ (List.mem_reverse.mpr hv))
  have hst1 : okl (st) := fun v hv => h2 v (List.mem_append_right _ hv)
  have hst2 : okl st := hst1
  have hM := met_V (l := l) (ad := ad) (D := D) (cI := cI) (cB := cB) hpl (Nat.le_of_ble_eq_true hw) (hok2) h3 K.2.1.1 kk
  rw [QcV_int hT] at hM
  refine va_calli (va_runS (As := as.map (emb ad)) (rest := st.map (emb ad)) ⟨K.1.1, K.1.2.1, K.1.2.2.2.1, K.1.2.2.2.2.1, K.1.2.2.2.2.2.1⟩ hM (va_cwS na K.1.2.2.2.2.2.1 (goodS hl hk) rfl rfl rfl ⟨hk.2.2.2.1.1, hk.2.2.2.1.2, hk.2.2.2.2⟩ (fitR_ok hf)) ⟨vblind, fun U hU hW => ⟨rfl, by rw [hU]; exact K.2.2.1, va_K.moved hW.alike K.2.1.2.1, nw_warm hW K.2.1.2.2⟩⟩ rfl (by simpa using hna) (K.2.2.2.2.1.trans (h4)) ?_ ?_ hd ⟨Nat.zero_le _, Nat.zero_le _⟩) K.2.2.2.1 (fun q _ h => h) (fun q h => h) (fun r u t H1 locs1 ht hvm hp hB hz1 hk1 hS1 => ?_)
  · show List.map (emb ad) (as.reverse ++ st) = _
    simp [emb]
  · show 2 * 0 + _ ≤ 8
    rw [cats_eq ad st]
    have := Nat.le_of_ble_eq_true hcat
    omega
  have hp : V_ M (pc + 3) ls (I_ r.toInt :: st) u Q := hp
  have := hp h1 (okl_cons (v := I_ r.toInt) (i32_in r) hst2) hB.1 h4 p l e s m args below meth c ad D cI cB H1 locs1 lsM ⟨K.1, K.2.1, by rw [← ht]; exact hB.2, hS1, K.2.2.2.2⟩
  simp only [List.map_cons, emb, Int32.ofInt_toInt] at this
  exact this
set_option maxHeartbeats 1000000 in
theorem v_callSl {M : MRec} {pc : Nat} {ls st st0 : List PV} {μ : Mem_} {Q : PV → Mem_ → Prop} {N : MRec} {na idx : Nat} {ls0 : List PV} (as : List PV) (hd : decode (mC M) pc = .ok (.invokestatic idx, 3)) (hl : Cond.methodLink (mY M).cls idx (mY N) ∈ gt_) (hk : KS N na) (hpl : plainFor (mY N) = true) (hT : mT N = some .long) (hna : as.length = na) (hf : fitR M N = true) (hcat : Nat.ble (cats st) 8 = true) (hst : st0 = as.reverse ++ st) (hw : Nat.ble (as.flatMap wd).length (mL N) = true) (he : ent (mL N) as = ls0) (kk : V_ N 0 ls0 [] μ (fun r μ' => V_ M (pc + 3) ls (r :: st) μ' Q)) : V_ M pc ls st0 μ Q := by
  intro h1 h2 h3 h4 p l e s m args below meth c ad D cI cB H locs lsM K
  subst he hst
  have hok2 : okl as := fun v hv => h2 v (List.mem_append_left _ (List.mem_reverse.mpr hv))
  have hst1 : okl (st) := fun v hv => h2 v (List.mem_append_right _ hv)
  have hst2 : okl st := hst1
  have hM := met_V (l := l) (ad := ad) (D := D) (cI := cI) (cB := cB) hpl (Nat.le_of_ble_eq_true hw) (hok2) h3 K.2.1.1 kk
  rw [hT] at hM
  refine va_calll (va_runS (As := as.map (emb ad)) (rest := st.map (emb ad)) ⟨K.1.1, K.1.2.1, K.1.2.2.2.1, K.1.2.2.2.2.1, K.1.2.2.2.2.2.1⟩ hM (va_cwS na K.1.2.2.2.2.2.1 (goodS hl hk) rfl rfl rfl ⟨hk.2.2.2.1.1, hk.2.2.2.1.2, hk.2.2.2.2⟩ (fitR_ok hf)) ⟨vblind, fun U hU hW => ⟨rfl, by rw [hU]; exact K.2.2.1, va_K.moved hW.alike K.2.1.2.1, nw_warm hW K.2.1.2.2⟩⟩ rfl (by simpa using hna) (K.2.2.2.2.1.trans (h4)) ?_ ?_ hd ⟨Nat.zero_le _, Nat.zero_le _⟩) K.2.2.2.1 (fun q _ h => h) (fun q h => h) (fun r u t H1 locs1 ht hvm hp hB hz1 hk1 hS1 => ?_)
  · show List.map (emb ad) (as.reverse ++ st) = _
    simp [emb]
  · show 2 * 0 + _ ≤ 8
    rw [cats_eq ad st]
    have := Nat.le_of_ble_eq_true hcat
    omega
  have hp : V_ M (pc + 3) ls (L_ r.toInt :: st) u Q := hp
  have := hp h1 (okl_cons (v := L_ r.toInt) (i64_in r) hst2) hB.1 h4 p l e s m args below meth c ad D cI cB H1 locs1 lsM ⟨K.1, K.2.1, by rw [← ht]; exact hB.2, hS1, K.2.2.2.2⟩
  simp only [List.map_cons, emb, Int64.ofInt_toInt] at this
  exact this
set_option maxHeartbeats 1000000 in
theorem v_callSv {M : MRec} {pc : Nat} {ls st st0 : List PV} {μ : Mem_} {Q : PV → Mem_ → Prop} {N : MRec} {na idx : Nat} {ls0 : List PV} (as : List PV) (hd : decode (mC M) pc = .ok (.invokestatic idx, 3)) (hl : Cond.methodLink (mY M).cls idx (mY N) ∈ gt_) (hk : KS N na) (hpl : plainFor (mY N) = true) (hT : mT N = none) (hna : as.length = na) (hf : fitR M N = true) (hcat : Nat.ble (cats st) 8 = true) (hst : st0 = as.reverse ++ st) (hw : Nat.ble (as.flatMap wd).length (mL N) = true) (he : ent (mL N) as = ls0) (kk : V_ N 0 ls0 [] μ (fun _ μ' => V_ M (pc + 3) ls st μ' Q)) : V_ M pc ls st0 μ Q := by
  intro h1 h2 h3 h4 p l e s m args below meth c ad D cI cB H locs lsM K
  subst he hst
  have hok2 : okl as := fun v hv => h2 v (List.mem_append_left _ (List.mem_reverse.mpr hv))
  have hst1 : okl (st) := fun v hv => h2 v (List.mem_append_right _ hv)
  have hst2 : okl st := hst1
  have hM := met_V (l := l) (ad := ad) (D := D) (cI := cI) (cB := cB) hpl (Nat.le_of_ble_eq_true hw) (hok2) h3 K.2.1.1 kk
  rw [hT] at hM
  refine va_callv (va_runS (As := as.map (emb ad)) (rest := st.map (emb ad)) ⟨K.1.1, K.1.2.1, K.1.2.2.2.1, K.1.2.2.2.2.1, K.1.2.2.2.2.2.1⟩ hM (va_cwS na K.1.2.2.2.2.2.1 (goodS hl hk) rfl rfl rfl ⟨hk.2.2.2.1.1, hk.2.2.2.1.2, hk.2.2.2.2⟩ (fitR_ok hf)) ⟨vblind, fun U hU hW => ⟨rfl, by rw [hU]; exact K.2.2.1, va_K.moved hW.alike K.2.1.2.1, nw_warm hW K.2.1.2.2⟩⟩ rfl (by simpa using hna) (K.2.2.2.2.1.trans (h4)) ?_ ?_ hd ⟨Nat.zero_le _, Nat.zero_le _⟩) K.2.2.2.1 (fun q _ h => h) (fun q h => h) (fun u t H1 locs1 ht hvm hp hB hz1 hk1 hS1 => ?_)
  · show List.map (emb ad) (as.reverse ++ st) = _
    simp [emb]
  · show 2 * 0 + _ ≤ 8
    rw [cats_eq ad st]
    have := Nat.le_of_ble_eq_true hcat
    omega
  have hp : V_ M (pc + 3) ls st u Q := hp
  exact hp h1 hst2 hB.1 h4 p l e s m args below meth c ad D cI cB H1 locs1 lsM ⟨K.1, K.2.1, by rw [← ht]; exact hB.2, hS1, K.2.2.2.2⟩
set_option maxHeartbeats 1000000 in
theorem v_callNi {M : MRec} {pc : Nat} {ls st st0 : List PV} {μ : Mem_} {Q : PV → Mem_ → Prop} {N : MRec} {na idx : Nat} {ls0 : List PV} (as : List PV) (hd : decode (mC M) pc = .ok (.invokestatic idx, 3)) {host : String} (hl : Cond.methodLinkNest (mY M).cls idx (mY N) host ∈ nw_) (hk : KS N na) (hpl : plainFor (mY N) = true) (hT : mT N = some .int ∨ mT N = some .boolean) (hna : as.length = na) (hf : fitR M N = true) (hcat : Nat.ble (cats st) 8 = true) (hst : st0 = as.reverse ++ st) (hw : Nat.ble (as.flatMap wd).length (mL N) = true) (he : ent (mL N) as = ls0) (kk : V_ N 0 ls0 [] μ (fun r μ' => V_ M (pc + 3) ls (r :: st) μ' Q)) : V_ M pc ls st0 μ Q := by
  intro h1 h2 h3 h4 p l e s m args below meth c ad D cI cB H locs lsM K
  subst he hst
  have hok2 : okl as := fun v hv => h2 v (List.mem_append_left _ (List.mem_reverse.mpr hv))
  have hst1 : okl (st) := fun v hv => h2 v (List.mem_append_right _ hv)
  have hst2 : okl st := hst1
  have hM := met_V (l := l) (ad := ad) (D := D) (cI := cI) (cB := cB) hpl (Nat.le_of_ble_eq_true hw) (hok2) h3 K.2.1.1 kk
  rw [QcV_int hT] at hM
  refine va_calli (va_runSN (As := as.map (emb ad)) (rest := st.map (emb ad)) ⟨K.1.1, K.1.2.1, K.1.2.2.2.1, K.1.2.2.2.2.1, K.1.2.2.2.2.2.1⟩ hM ⟨va_cnB na K.1.2.2.2.2.2.1 (goodN hk) rfl rfl rfl (K.2.1.2.2 _ hl) (K.1.2.2.2.2.2.1 _ hk.2.2.1) ⟨hk.2.2.2.1.1, hk.2.2.2.1.2, hk.2.2.2.2⟩ (fitR_ok hf), K.1.2.2.2.2.2.1 _ hk.1, trivial⟩ ⟨vblind, fun U hU hW => ⟨rfl, by rw [hU]; exact K.2.2.1, va_K.moved hW.alike K.2.1.2.1, nw_warm hW K.2.1.2.2⟩⟩ rfl (by simpa using hna) (K.2.2.2.2.1.trans (h4)) ?_ ?_ hd ⟨Nat.zero_le _, Nat.zero_le _⟩) K.2.2.2.1 (fun q _ h => h) (fun q h => h) (fun r u t H1 locs1 ht hvm hp hB hz1 hk1 hS1 => ?_)
  · show List.map (emb ad) (as.reverse ++ st) = _
    simp [emb]
  · show 2 * 0 + _ ≤ 8
    rw [cats_eq ad st]
    have := Nat.le_of_ble_eq_true hcat
    omega
  have hp : V_ M (pc + 3) ls (I_ r.toInt :: st) u Q := hp
  have := hp h1 (okl_cons (v := I_ r.toInt) (i32_in r) hst2) hB.1 h4 p l e s m args below meth c ad D cI cB H1 locs1 lsM ⟨K.1, K.2.1, by rw [← ht]; exact hB.2, hS1, K.2.2.2.2⟩
  simp only [List.map_cons, emb, Int32.ofInt_toInt] at this
  exact this
set_option maxHeartbeats 1000000 in
theorem v_callNl {M : MRec} {pc : Nat} {ls st st0 : List PV} {μ : Mem_} {Q : PV → Mem_ → Prop} {N : MRec} {na idx : Nat} {ls0 : List PV} (as : List PV) (hd : decode (mC M) pc = .ok (.invokestatic idx, 3)) {host : String} (hl : Cond.methodLinkNest (mY M).cls idx (mY N) host ∈ nw_) (hk : KS N na) (hpl : plainFor (mY N) = true) (hT : mT N = some .long) (hna : as.length = na) (hf : fitR M N = true) (hcat : Nat.ble (cats st) 8 = true) (hst : st0 = as.reverse ++ st) (hw : Nat.ble (as.flatMap wd).length (mL N) = true) (he : ent (mL N) as = ls0) (kk : V_ N 0 ls0 [] μ (fun r μ' => V_ M (pc + 3) ls (r :: st) μ' Q)) : V_ M pc ls st0 μ Q := by
  intro h1 h2 h3 h4 p l e s m args below meth c ad D cI cB H locs lsM K
  subst he hst
  have hok2 : okl as := fun v hv => h2 v (List.mem_append_left _ (List.mem_reverse.mpr hv))
  have hst1 : okl (st) := fun v hv => h2 v (List.mem_append_right _ hv)
  have hst2 : okl st := hst1
  have hM := met_V (l := l) (ad := ad) (D := D) (cI := cI) (cB := cB) hpl (Nat.le_of_ble_eq_true hw) (hok2) h3 K.2.1.1 kk
  rw [hT] at hM
  refine va_calll (va_runSN (As := as.map (emb ad)) (rest := st.map (emb ad)) ⟨K.1.1, K.1.2.1, K.1.2.2.2.1, K.1.2.2.2.2.1, K.1.2.2.2.2.2.1⟩ hM ⟨va_cnB na K.1.2.2.2.2.2.1 (goodN hk) rfl rfl rfl (K.2.1.2.2 _ hl) (K.1.2.2.2.2.2.1 _ hk.2.2.1) ⟨hk.2.2.2.1.1, hk.2.2.2.1.2, hk.2.2.2.2⟩ (fitR_ok hf), K.1.2.2.2.2.2.1 _ hk.1, trivial⟩ ⟨vblind, fun U hU hW => ⟨rfl, by rw [hU]; exact K.2.2.1, va_K.moved hW.alike K.2.1.2.1, nw_warm hW K.2.1.2.2⟩⟩ rfl (by simpa using hna) (K.2.2.2.2.1.trans (h4)) ?_ ?_ hd ⟨Nat.zero_le _, Nat.zero_le _⟩) K.2.2.2.1 (fun q _ h => h) (fun q h => h) (fun r u t H1 locs1 ht hvm hp hB hz1 hk1 hS1 => ?_)
  · show List.map (emb ad) (as.reverse ++ st) = _
    simp [emb]
  · show 2 * 0 + _ ≤ 8
    rw [cats_eq ad st]
    have := Nat.le_of_ble_eq_true hcat
    omega
  have hp : V_ M (pc + 3) ls (L_ r.toInt :: st) u Q := hp
  have := hp h1 (okl_cons (v := L_ r.toInt) (i64_in r) hst2) hB.1 h4 p l e s m args below meth c ad D cI cB H1 locs1 lsM ⟨K.1, K.2.1, by rw [← ht]; exact hB.2, hS1, K.2.2.2.2⟩
  simp only [List.map_cons, emb, Int64.ofInt_toInt] at this
  exact this
set_option maxHeartbeats 1000000 in
theorem v_callNv {M : MRec} {pc : Nat} {ls st st0 : List PV} {μ : Mem_} {Q : PV → Mem_ → Prop} {N : MRec} {na idx : Nat} {ls0 : List PV} (as : List PV) (hd : decode (mC M) pc = .ok (.invokestatic idx, 3)) {host : String} (hl : Cond.methodLinkNest (mY M).cls idx (mY N) host ∈ nw_) (hk : KS N na) (hpl : plainFor (mY N) = true) (hT : mT N = none) (hna : as.length = na) (hf : fitR M N = true) (hcat : Nat.ble (cats st) 8 = true) (hst : st0 = as.reverse ++ st) (hw : Nat.ble (as.flatMap wd).length (mL N) = true) (he : ent (mL N) as = ls0) (kk : V_ N 0 ls0 [] μ (fun _ μ' => V_ M (pc + 3) ls st μ' Q)) : V_ M pc ls st0 μ Q := by
  intro h1 h2 h3 h4 p l e s m args below meth c ad D cI cB H locs lsM K
  subst he hst
  have hok2 : okl as := fun v hv => h2 v (List.mem_append_left _ (List.mem_reverse.mpr hv))
  have hst1 : okl (st) := fun v hv => h2 v (List.mem_append_right _ hv)
  have hst2 : okl st := hst1
  have hM := met_V (l := l) (ad := ad) (D := D) (cI := cI) (cB := cB) hpl (Nat.le_of_ble_eq_true hw) (hok2) h3 K.2.1.1 kk
  rw [hT] at hM
  refine va_callv (va_runSN (As := as.map (emb ad)) (rest := st.map (emb ad)) ⟨K.1.1, K.1.2.1, K.1.2.2.2.1, K.1.2.2.2.2.1, K.1.2.2.2.2.2.1⟩ hM ⟨va_cnB na K.1.2.2.2.2.2.1 (goodN hk) rfl rfl rfl (K.2.1.2.2 _ hl) (K.1.2.2.2.2.2.1 _ hk.2.2.1) ⟨hk.2.2.2.1.1, hk.2.2.2.1.2, hk.2.2.2.2⟩ (fitR_ok hf), K.1.2.2.2.2.2.1 _ hk.1, trivial⟩ ⟨vblind, fun U hU hW => ⟨rfl, by rw [hU]; exact K.2.2.1, va_K.moved hW.alike K.2.1.2.1, nw_warm hW K.2.1.2.2⟩⟩ rfl (by simpa using hna) (K.2.2.2.2.1.trans (h4)) ?_ ?_ hd ⟨Nat.zero_le _, Nat.zero_le _⟩) K.2.2.2.1 (fun q _ h => h) (fun q h => h) (fun u t H1 locs1 ht hvm hp hB hz1 hk1 hS1 => ?_)
  · show List.map (emb ad) (as.reverse ++ st) = _
    simp [emb]
  · show 2 * 0 + _ ≤ 8
    rw [cats_eq ad st]
    have := Nat.le_of_ble_eq_true hcat
    omega
  have hp : V_ M (pc + 3) ls st u Q := hp
  exact hp h1 hst2 hB.1 h4 p l e s m args below meth c ad D cI cB H1 locs1 lsM ⟨K.1, K.2.1, by rw [← ht]; exact hB.2, hS1, K.2.2.2.2⟩
theorem plX0 : ∀ nm ds, plainFor ⟨RX0, nm, ds⟩ = true := fun _ _ => plainFor_of_name (by show plainName RX0 = true; decide +kernel)
theorem plX1 : ∀ nm ds, plainFor ⟨RX1, nm, ds⟩ = true := fun _ _ => plainFor_of_name (by show plainName RX1 = true; decide +kernel)
theorem plX2 : ∀ nm ds, plainFor ⟨RX2, nm, ds⟩ = true := fun _ _ => plainFor_of_name (by show plainName RX2 = true; decide +kernel)
theorem plX3 : ∀ nm ds, plainFor ⟨RX3, nm, ds⟩ = true := fun _ _ => plainFor_of_name (by show plainName RX3 = true; decide +kernel)
theorem plX4 : ∀ nm ds, plainFor ⟨RX4, nm, ds⟩ = true := fun _ _ => plainFor_of_name (by show plainName RX4 = true; decide +kernel)
theorem plX5 : ∀ nm ds, plainFor ⟨RX5, nm, ds⟩ = true := fun _ _ => plainFor_of_name (by show plainName RX5 = true; decide +kernel)
theorem plX6 : ∀ nm ds, plainFor ⟨RX6, nm, ds⟩ = true := fun _ _ => plainFor_of_name (by show plainName RX6 = true; decide +kernel)
theorem plX7 : ∀ nm ds, plainFor ⟨RX7, nm, ds⟩ = true := fun _ _ => plainFor_of_name (by show plainName RX7 = true; decide +kernel)
theorem plX8 : ∀ nm ds, plainFor ⟨RX8, nm, ds⟩ = true := fun _ _ => plainFor_of_name (by show plainName RX8 = true; decide +kernel)
theorem plJ6b : plainFor yJ6_bitCount_0f7a4 = true := by decide +kernel
theorem plJ9a : plainFor yJ9_max_7cf53 = true := by decide +kernel
theorem plJ9i : plainFor yJ9_min_7cf53 = true := by decide +kernel
