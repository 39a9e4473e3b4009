/-! the law: a call of class or model out of its body -/
def hiA (s : State) : Nat → Prop := fun q => s.heap.size ≤ q
def LC (p : Program) (s : State) (m : MethodId) (meth : Method) (c : Code) (b : Nat) (ad : Nat → Nat) (D : va_G) (cI cB : ClassId) : Prop :=
  (p.tables.exec = Jvm.exec ∧ c.code = cL_law ∧ c.maxLocals = 4 ∧ s.vm.findClass RL = some m.cls ∧ (∀ w ∈ gt_, w.before #[Value.ref b] s = true)) ∧
  ((∀ i j, i < NC_ → j < NC_ → ad i = ad j → i = j) ∧ va_K D vwCl [(cI, .int), (cB, .byte)] s ∧ (∀ w ∈ nw_, va_Nw w s)) ∧ ∀ o, o < NC_ → s.heap.size ≤ ad o
section
variable {p : Program} {l : Launch} {e : Env} {s : State} {m : MethodId} {below : List Frame} {meth : Method} {c : Code} {b : Nat} {ad : Nat → Nat} {D : va_G} {cI cB : ClassId} {nc ns : Nat} {Z : State → Prop}
set_option maxHeartbeats 2000000 in
theorem lw_cali (C0 : LC p s m meth c b ad D cI cB) {pc na idx : Nat} {N : MRec} {μ : Mem_} {Qc : PV → Mem_ → Prop} {ls0 : List PV} {lsM : Array Slot} {H : Heap} {locs : List Loc} {rest stk : List Value} (as : List PV) (hd : decode cL_law pc = .ok (.invokevirtual idx, 3)) (hl : Cond.methodLink RL idx (mY N) ∈ gt_) (hk : KV N na) (hpl : plainFor (mY N) = true) (hT : mT N = some .int ∨ mT N = some .boolean) {o ci n : Nat} (hs : shp o = (ci, n)) (h9 : Nat.ble (ci + 1) 9 = true) (hC : (vwCl[ci]?).map (fun q => q.1) = some (mY N).cls) (hna : as.length = na) (hf : (rmM N).frames + 1 ≤ room_1.frames ∧ 8 + (mL N + 11) + (rmM N).locals ≤ room_1.locals) (hcat : 2 * 0 + (rest.map (fun v => v.category)).sum ≤ 8) (hstk : stk = (as.map (emb ad)).reverse ++ Value.ref (ad o) :: rest) (hw : Nat.ble ((R_ o :: as).flatMap wd).length (mL N) = true) (he : ent (mL N) (R_ o :: as) = ls0) (hok : okl as) (hμ : okM μ) (hP : va_P D vwCl (wo ad cI cB μ) H) (hS : va_S (hiA s) s.heap H locs) (hls : lsM.size = 4) (hnc : nc + 0 ≤ room_1.cells ∧ ns + 0 ≤ room_1.slots)
    (kk : V_ N 0 ls0 [] μ Qc) (k : ∀ (r : Int32) (u : Mem_) (H1 : Heap) (locs1 : List Loc), Qc (I_ r.toInt) u → okM u → va_P D vwCl (wo ad cI cB u) H1 → va_S (hiA s) s.heap H1 locs1 → W p l e room_1 s m #[Value.ref b] below meth c H1 locs1 nc ns Z (F0 m (pc + 3) lsM (.int r :: rest))) : W p l e room_1 s m #[Value.ref b] below meth c H locs nc ns Z (F0 m pc lsM stk) := by
  subst he hstk
  have hM := met_V (l := l) (ad := ad) (D := D) (cI := cI) (cB := cB) hpl (Nat.le_of_ble_eq_true hw) (okl_cons (v := R_ o) trivial hok) hμ C0.2.1.1 kk
  rw [QcV_int hT] at hM
  have ho := shp_lt hs (by have := Nat.le_of_ble_eq_true h9; omega)
  have he0 : (wo ad cI cB μ)[o]? = some (ad o, .inr (ci, (List.range n).map (fun k => emb ad (pvf o k μ)))) := by rw [wo_at ho, cellE_obj hs (Nat.le_of_ble_eq_true h9)]
  have hrecv : ∃ cell : Cell, H[ad o]? = some cell ∧ cell.vm.isStatics = false ∧ s.vm.findClass (mY N).cls = some cell.cls := by
    cases hq : vwCl[ci]? with
    | none => rw [hq] at hC; cases hC
    | some q =>
      rw [hq] at hC
      have e := Option.some.inj hC
      obtain ⟨cell, g1, g2, g3⟩ := va_recv C0.2.1.2.1 hP hq he0
      exact ⟨cell, g1, g2, by rw [← e]; exact g3⟩
  have hAw : ∀ q, Aw ad q → hiA s q := fun q hq => by
    obtain ⟨o', ho', e⟩ := hq
    rw [e]
    exact C0.2.2 o' ho'
  refine va_calli (va_runV (As := as.map (emb ad)) (rest := rest) (b := ad o) ⟨C0.1.1, C0.1.2.1, C0.1.2.2.1, C0.1.2.2.2.1, C0.1.2.2.2.2⟩ hM (cwV na C0.1.2.2.2.2 (goodV hl hk) rfl rfl rfl ⟨rfl, hk.2.2.2.2.1.1, hk.2.2.2.2.1.2, hk.2.2.2.2.2⟩ hf) ⟨vblind, hrecv, fun U hU hW => ⟨rfl, by rw [hU]; exact hP, va_K.moved hW.alike C0.2.1.2.1, nw_warm hW C0.2.1.2.2⟩⟩ rfl (by simpa using hna) hls rfl hcat hd hnc) hS (fun q _ h => hAw q h) hAw (fun r u t H1 locs1 ht hvm hp hB hz1 hk1 hS1 => ?_)
  exact k r u H1 locs1 hp hB.1 (by rw [← ht]; exact hB.2) hS1
set_option maxHeartbeats 2000000 in
theorem lw_call (C0 : LC p s m meth c b ad D cI cB) {pc na idx : Nat} {N : MRec} {μ : Mem_} {Qc : PV → Mem_ → Prop} {ls0 : List PV} {lsM : Array Slot} {H : Heap} {locs : List Loc} {rest stk : List Value} (as : List PV) (hd : decode cL_law pc = .ok (.invokevirtual idx, 3)) (hl : Cond.methodLink RL idx (mY N) ∈ gt_) (hk : KV N na) (hpl : plainFor (mY N) = true) (hT : mT N = some .long) {o ci n : Nat} (hs : shp o = (ci, n)) (h9 : Nat.ble (ci + 1) 9 = true) (hC : (vwCl[ci]?).map (fun q => q.1) = some (mY N).cls) (hna : as.length = na) (hf : (rmM N).frames + 1 ≤ room_1.frames ∧ 8 + (mL N + 11) + (rmM N).locals ≤ room_1.locals) (hcat : 2 * 0 + (rest.map (fun v => v.category)).sum ≤ 8) (hstk : stk = (as.map (emb ad)).reverse ++ Value.ref (ad o) :: rest) (hw : Nat.ble ((R_ o :: as).flatMap wd).length (mL N) = true) (he : ent (mL N) (R_ o :: as) = ls0) (hok : okl as) (hμ : okM μ) (hP : va_P D vwCl (wo ad cI cB μ) H) (hS : va_S (hiA s) s.heap H locs) (hls : lsM.size = 4) (hnc : nc + 0 ≤ room_1.cells ∧ ns + 0 ≤ room_1.slots)
    (kk : V_ N 0 ls0 [] μ Qc) (k : ∀ (r : Int64) (u : Mem_) (H1 : Heap) (locs1 : List Loc), Qc (L_ r.toInt) u → okM u → va_P D vwCl (wo ad cI cB u) H1 → va_S (hiA s) s.heap H1 locs1 → W p l e room_1 s m #[Value.ref b] below meth c H1 locs1 nc ns Z (F0 m (pc + 3) lsM (.long r :: rest))) : W p l e room_1 s m #[Value.ref b] below meth c H locs nc ns Z (F0 m pc lsM stk) := by
  subst he hstk
  have hM := met_V (l := l) (ad := ad) (D := D) (cI := cI) (cB := cB) hpl (Nat.le_of_ble_eq_true hw) (okl_cons (v := R_ o) trivial hok) hμ C0.2.1.1 kk
  rw [hT] at hM
  have ho := shp_lt hs (by have := Nat.le_of_ble_eq_true h9; omega)
  have he0 : (wo ad cI cB μ)[o]? = some (ad o, .inr (ci, (List.range n).map (fun k => emb ad (pvf o k μ)))) := by rw [wo_at ho, cellE_obj hs (Nat.le_of_ble_eq_true h9)]
  have hrecv : ∃ cell : Cell, H[ad o]? = some cell ∧ cell.vm.isStatics = false ∧ s.vm.findClass (mY N).cls = some cell.cls := by
    cases hq : vwCl[ci]? with
    | none => rw [hq] at hC; cases hC
    | some q =>
      rw [hq] at hC
      have e := Option.some.inj hC
      obtain ⟨cell, g1, g2, g3⟩ := va_recv C0.2.1.2.1 hP hq he0
      exact ⟨cell, g1, g2, by rw [← e]; exact g3⟩
  have hAw : ∀ q, Aw ad q → hiA s q := fun q hq => by
    obtain ⟨o', ho', e⟩ := hq
    rw [e]
    exact C0.2.2 o' ho'
  refine va_calll (va_runV (As := as.map (emb ad)) (rest := rest) (b := ad o) ⟨C0.1.1, C0.1.2.1, C0.1.2.2.1, C0.1.2.2.2.1, C0.1.2.2.2.2⟩ hM (cwV na C0.1.2.2.2.2 (goodV hl hk) rfl rfl rfl ⟨rfl, hk.2.2.2.2.1.1, hk.2.2.2.2.1.2, hk.2.2.2.2.2⟩ hf) ⟨vblind, hrecv, fun U hU hW => ⟨rfl, by rw [hU]; exact hP, va_K.moved hW.alike C0.2.1.2.1, nw_warm hW C0.2.1.2.2⟩⟩ rfl (by simpa using hna) hls rfl hcat hd hnc) hS (fun q _ h => hAw q h) hAw (fun r u t H1 locs1 ht hvm hp hB hz1 hk1 hS1 => ?_)
  exact k r u H1 locs1 hp hB.1 (by rw [← ht]; exact hB.2) hS1
end
