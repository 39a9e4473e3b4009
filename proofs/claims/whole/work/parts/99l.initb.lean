/-! constructors: the rules -/
/-- the links of the class to its own small classes' constructors -/
def nwI : List Cond := [.methodLinkNest RX7 23 (mY nX0_init) "StreetKeys", .methodLinkNest RX7 33 (mY nX2_init) "StreetKeys", .methodLinkNest RX7 40 (mY nX3_init) "StreetKeys", .methodLinkNest RX7 47 (mY nX6_init) "StreetKeys", .methodLinkNest RX7 54 (mY nX1_init) "StreetKeys", .methodLinkNest RX7 65 (mY nX5_init) "StreetKeys"]
theorem nwI_tbl : ∀ w ∈ nwI, w ∈ lw_tbl := by decide +kernel
theorem nwI_on : ∀ w ∈ nwI, w.onTables = true := by decide +kernel
theorem nwI_warm {s U : State} (hW : s.WarmedH U.vm) (h : ∀ w ∈ nwI, va_Nw w s) : ∀ w ∈ nwI, va_Nw w U := by
  intro w hw
  have h1 := h w hw
  unfold nwI at hw
  simp only [List.mem_cons, List.not_mem_nil, or_false] at hw
  rcases hw with rfl | rfl | rfl | rfl | rfl | rfl <;> exact va_Nw.warmM hW h1
theorem nwI_same {s U : State} (hW : s.vm = U.vm) (h : ∀ w ∈ nwI, va_Nw w s) : ∀ w ∈ nwI, va_Nw w U := by
  intro w hw
  have h1 := h w hw
  unfold nwI at hw
  simp only [List.mem_cons, List.not_mem_nil, or_false] at hw
  rcases hw with rfl | rfl | rfl | rfl | rfl | rfl <;> exact va_Nw.same rfl hW h1
def KJ (own : String) (cc : ByteArray) (nL : Nat) (p : Program) (s : State) (m : MethodId) (args : Array Value) (c : Code) (D : va_G) (cI cB : ClassId) : Prop :=
  (p.tables.exec = Jvm.exec ∧ c.code = cc ∧ c.maxLocals = nL ∧ s.vm.findClass own = some m.cls ∧ ∀ w ∈ gt_, w.before args s = true) ∧ va_K D vwCl [(cI, .int), (cB, .byte)] s ∧ ∀ w ∈ nwI, va_Nw w s
def FF (own : String) (idx ci k : Nat) (ty : FieldType) : Prop := ∃ (T : u_T) (N : Nat), vwCl[ci]? = some (own, T, N) ∧ k < N ∧ Cond.fieldLink own idx own (T k).2.1 (T k).2.2.1 ∈ gt_ ∧ (T k).1 = own ∧ (T k).2.2.2 = true ∧ parseFieldDescriptor (T k).2.2.1 = some ty
def KN (N : MRec) (n : Nat) : Prop := Cond.instanceMethod (mY N) ∈ gt_ ∧ Cond.code (mY N) (mC N) (mL N) none ∈ gt_ ∧ Cond.initialized (mY N).cls ∈ gt_ ∧ (mY N).name = "<init>" ∧ ((mY N).cls ≠ "java/lang/invoke/MethodHandle" ∧ (mY N).cls ≠ "java/lang/invoke/VarHandle" ∧ (parseMethodDescriptor (mY N).desc).map (fun d => d.parameters.length) = some n)
abbrev wsI (N : MRec) : List Cond := Cond.code (mY N) (mC N) (mL N) none :: gt_
abbrev rmI (N : MRec) (mc ms : Nat) : Room := { frames := mF N, cells := mc, slots := ms, locals := mO N }
abbrev LT : Type := ClassId → ClassId → Nat → (Nat → Nat) → va_W
abbrev QI (D : va_G) (A : Nat → Prop) (B : (Nat → Nat) → va_W) : Array Value → State → Outcome → State → Prop := va_Qv (S := Nat → Nat) (fun _ => True) (fun u t => va_P D vwCl (B u) t.heap ∧ va_D A (B u)) A
/-- what a constructor N does to the blank object of class ci: its cells are then those of L -/
def IM (l : Launch) (N : MRec) (mc ms ci : Nat) (fs0 as : List Value) (L : LT) : Prop := ∀ (D : va_G) (cI cB : ClassId) (h0 sz : Nat), Met l (mY N) (wsI N) (rmI N mc ms) (va_Pc (.ref h0 :: as) (fun U => U.heap.size = sz ∧ va_P D vwCl [(h0, .inr (ci, fs0))] U.heap ∧ va_K D vwCl [(cI, .int), (cB, .byte)] U ∧ ∀ w ∈ nwI, va_Nw w U)) (QI D (va_A [(h0, .inr (ci, fs0))] sz) (L cI cB h0)) mc ms (va_A [(h0, .inr (ci, fs0))] sz)
theorem met_I {l : Launch} {N : MRec} {mc ms ci : Nat} {fs0 as : List Value} {L : LT} (hpl : plainFor (mY N) = true) (hy : (mY N).name = "<init>") (hlen : ∀ h0 : Nat, (lg_sl (.ref h0 :: as)).length ≤ mL N)
    (k : ∀ (D : va_G) (cI cB : ClassId) (h0 : Nat) (p : Program) (e : Env) (s : State) (m : MethodId) (below : List Frame) (meth : Method) (c : Code) (ls : Array Slot) (A : Nat → Prop), KJ (mY N).cls (mC N) (mL N) p s m (Value.ref h0 :: as).toArray c D cI cB → meth.sig.returnType = none → meth.locks = false → meth.name = "<init>" → (∀ q, s.heap.size ≤ q → A q) → va_P D vwCl [(h0, .inr (ci, fs0))] s.heap → va_D A [(h0, .inr (ci, fs0))] → va_S A s.heap s.heap [] → lv_has ls (mL N) (lv_args 0 (.ref h0 :: as)) →
      W p l e (rmI N mc ms) s m (Value.ref h0 :: as).toArray below meth c s.heap [] 0 0 (MQ below (QI D A (L cI cB h0)) (Value.ref h0 :: as).toArray s mc ms A) (F0 m 0 ls [])) : IM l N mc ms ci fs0 as L := by
  intro D cI cB h0 sz
  refine va_MetF (cc := mC N) (maxL := mL N) (ret := none) hpl rfl ?_
  intro p e s m args below meth c s₁ B hml hv
  obtain ⟨rfl, hsz, hP, hK, hNw⟩ := hv
  subst hsz
  have hts := atoms_spec (ws := wsI N) B.pre
  have hown : s.vm.findClass (mY N).cls = some m.cls := findClass_of_methodNamed B.named
  have hin : meth.name = "<init>" := (name_of_methodNamed B.named B.method).1.trans hy
  have hD : va_D (va_A [(h0, .inr (ci, fs0))] s.heap.size) [(h0, .inr (ci, fs0))] := by
    refine ⟨fun i j x y hi hj _ => ?_, fun k q hk => va_A.in hk⟩
    have h1 := (List.getElem?_eq_some_iff.mp hi).1
    have h2 := (List.getElem?_eq_some_iff.mp hj).1
    simp only [List.length_cons, List.length_nil] at h1 h2
    omega
  have hA : ∀ q : Nat, s.heap.size ≤ q → va_A [(h0, .inr (ci, fs0))] s.heap.size q := fun q h => Or.inr h
  have hl := lv_entry (.ref h0 :: as) (n := mL N) (hlen h0)
  rw [lg_entry_eq]
  exact k D cI cB h0 p e s m below meth c _ _ ⟨⟨B.exec, B.bytes, hml, hown, fun w hw => hts w (List.mem_cons_of_mem _ hw)⟩, hK, hNw⟩ B.returns B.notSynchronized hin hA hP hD va_S.rf hl
theorem i_join {D : va_G} {A : Nat → Prop} {ws w1 : va_W} {x : Nat × va_E} {H H1 : Heap} (hP : va_P D vwCl (ws ++ [x]) H) (hD : va_D A (ws ++ [x])) (hk : ∀ q, q < H.size → ¬ va_A [x] H.size q → H1[q]? = H[q]?) (hF : ∀ q, va_A [x] H.size q → A q) (hP1 : va_P D vwCl w1 H1) (hD1 : va_D (va_A [x] H.size) w1) : va_P D vwCl (ws ++ w1) H1 ∧ va_D A (ws ++ w1) := by
  have inw : ∀ (k : Nat) (q : Nat × va_E), ws[k]? = some q → (ws ++ [x])[k]? = some q := fun k q h => by
    rw [List.getElem?_append_left (List.getElem?_eq_some_iff.mp h).1]
    exact h
  have inx : (ws ++ [x])[ws.length]? = some x := by simp
  have apart : ∀ (k : Nat) (q : Nat × va_E), ws[k]? = some q → q.1 < H.size ∧ ¬ va_A [x] H.size q.1 := by
    intro k q h
    have hl := (hP k q (inw k q h)).lt
    refine ⟨hl, fun hh => ?_⟩
    rcases hh with ⟨k2, e2, h2⟩ | h2
    · have hk2 : k2 = 0 := by
        have h3 := (List.getElem?_eq_some_iff.mp h2).1
        simp only [List.length_cons, List.length_nil] at h3
        omega
      subst hk2
      have hx : x = (q.1, e2) := by simpa using h2
      have h4 := hD.1 k ws.length q x (inw k q h) inx (by rw [hx])
      have h5 := (List.getElem?_eq_some_iff.mp h).1
      omega
    · omega
  refine ⟨va_P.app (fun k q h => (hP k q (inw k q h)).kept (hk q.1 (apart k q h).1 (apart k q h).2)) hP1, va_D.app ⟨fun i j p q hi hj => hD.1 i j p q (inw i p hi) (inw j q hj), fun k q h => hD.2 k q (inw k q h)⟩ (hD1.weaken (fun k q _ h => hF q.1 h)) (fun i j x' y hx hy hxy => (apart i x' hx).2 (by rw [hxy]; exact hD1.2 j y hy))⟩
theorem aw_I : Cond.arrayClass (newarray.typeOf .int) ∈ gt_ := gt_mem (i := 129) (by decide +kernel) rfl
theorem aw_B : Cond.arrayClass (newarray.typeOf .byte) ∈ gt_ := gt_mem (i := 1099) (by decide +kernel) rfl
theorem ob_1 : Cond.instanceMethod objectInit ∈ gt_ := gt_mem (i := 110) (by decide +kernel) rfl
theorem ob_2 : Cond.code objectInit ⟨#[0xb1]⟩ 1 none ∈ gt_ := gt_mem (i := 111) (by decide +kernel) rfl
section
variable {own : String} {cc : ByteArray} {nL : Nat} {p : Program} {l : Launch} {e : Env} {R : Room} {s : State} {m : MethodId} {args : Array Value} {below : List Frame} {meth : Method} {c : Code} {D : va_G} {cI cB : ClassId} {H : Heap} {locs : List Loc} {cells slots : Nat} {Q : State → Prop} {A : Nat → Prop} {ls : Array Slot} {rest : List Value} {pc h0 ci : Nat} {fs : List Value} {r ws : va_W}
theorem i_putF (C0 : KJ own cc nL p s m args c D cI cB) (hmn : meth.name = "<init>") (hP : va_P D vwCl ((h0, .inr (ci, fs)) :: r) H) (hD : va_D A ((h0, .inr (ci, fs)) :: r)) (hS : va_S A s.heap H locs) {k idx n0 : Nat} {v : Value} {ty : FieldType} (hf : FF own idx ci k ty) (hn : narrow ty v = v) (hfit : fits ty v = true) (hfl : fs.length = n0) (hk : Nat.ble (k + 1) n0 = true) (hd : decode cc pc = .ok (.putfield idx, 3))
    (kk : ∀ (H1 : Heap) (locs1 : List Loc), va_P D vwCl ((h0, .inr (ci, fs.set k v)) :: r) H1 → va_D A ((h0, .inr (ci, fs.set k v)) :: r) → va_S A s.heap H1 locs1 → (fs.set k v).length = n0 → W p l e R s m args below meth c H1 locs1 cells slots Q (F0 m (pc + 3) ls rest)) : W p l e R s m args below meth c H locs cells slots Q (F0 m pc ls (v :: .ref h0 :: rest)) := by
  obtain ⟨T, N, hc, hkN, hlink, hT, hfin, hpar⟩ := hf
  obtain ⟨hin, ⟨ty0, hty0⟩, hnm⟩ := clOK ci own T N hc
  refine va_putF (v := v) (ty := ty) C0.1.1 C0.1.2.1 C0.1.2.2.2.2 hin ty0 hty0 hnm C0.1.2.2.2.1 C0.2.1 hP hD hS 0 rfl hc k hkN (C0.1.2.2.2.2 _ hlink) ?_ hfin hmn hT hpar hn hfit (by rw [hfl]; exact Nat.le_of_ble_eq_true hk) hd (fun H1 locs1 a b z => kk H1 locs1 a b z (by rw [List.length_set]; exact hfl))
  intro x hx
  rw [hT] at hx
  exact hx
theorem i_put (C0 : KJ own cc nL p s m args c D cI cB) (hP : va_P D vwCl ((h0, .inr (ci, fs)) :: r) H) (hD : va_D A ((h0, .inr (ci, fs)) :: r)) (hS : va_S A s.heap H locs) {k idx n0 : Nat} {v : Value} {ty : FieldType} (hf : FP own idx ci k ty) (hn : narrow ty v = v) (hfit : fits ty v = true) (hfl : fs.length = n0) (hk : Nat.ble (k + 1) n0 = true) (hd : decode cc pc = .ok (.putfield idx, 3))
    (kk : ∀ (H1 : Heap) (locs1 : List Loc), va_P D vwCl ((h0, .inr (ci, fs.set k v)) :: r) H1 → va_D A ((h0, .inr (ci, fs.set k v)) :: r) → va_S A s.heap H1 locs1 → (fs.set k v).length = n0 → W p l e R s m args below meth c H1 locs1 cells slots Q (F0 m (pc + 3) ls rest)) : W p l e R s m args below meth c H locs cells slots Q (F0 m pc ls (v :: .ref h0 :: rest)) := by
  obtain ⟨C, T, N, hc, hkN, hlink, hT, hfin, hpar⟩ := hf
  obtain ⟨hin, ⟨ty0, hty0⟩, hnm⟩ := clOK ci C T N hc
  refine va_put (v := v) (ty := ty) C0.1.1 C0.1.2.1 C0.1.2.2.2.2 hin ty0 hty0 hnm C0.1.2.2.2.1 C0.2.1 hP hD hS 0 rfl hc k hkN (C0.1.2.2.2.2 _ hlink) ?_ hfin hpar hn hfit (by rw [hfl]; exact Nat.le_of_ble_eq_true hk) hd (fun H1 locs1 a b z => kk H1 locs1 a b z (by rw [List.length_set]; exact hfl))
  intro x hx
  rw [hT] at hx
  exact hx
theorem i_naI (C0 : KJ own cc nL p s m args c D cI cB) (hmn : meth.name = "<init>") (hA : ∀ q, s.heap.size ≤ q → A q) (hP : va_P D vwCl ((h0, .inr (ci, fs)) :: r) H) (hD : va_D A ((h0, .inr (ci, fs)) :: r)) (hS : va_S A s.heap H locs) {v : Int32} (n : Nat) (hn0 : ¬ v < 0) (hN : v.toNatClampNeg = n) (hby : n * componentBytes .int ≤ 536870912) (hcells : cells + 1 ≤ R.cells) (hslots : slots + n ≤ R.slots) {k idx n0 : Nat} (hd1 : decode cc pc = .ok (.newarray .int, 2)) (hd2 : decode cc (pc + 2) = .ok (.putfield idx, 3)) (hf : FF own idx ci k (.array .int)) (hfl : fs.length = n0) (hk : Nat.ble (k + 1) n0 = true)
    (kk : ∀ (q : Nat) (H1 : Heap) (locs1 : List Loc), va_P D vwCl ((h0, .inr (ci, fs.set k (.ref q))) :: (r ++ [(q, .inl (cI, n, .inl (fun _ => 0)))])) H1 → va_D A ((h0, .inr (ci, fs.set k (.ref q))) :: (r ++ [(q, .inl (cI, n, .inl (fun _ => 0)))])) → va_S A s.heap H1 locs1 → (fs.set k (.ref q)).length = n0 → W p l e R s m args below meth c H1 locs1 (cells + 1) (slots + n) Q (F0 m (pc + 2 + 3) ls rest)) : W p l e R s m args below meth c H locs cells slots Q (F0 m pc ls (.int v :: .ref h0 :: rest)) := by
  refine va_newa (a0 := (n, .inl (fun _ => 0))) (ty := .int) C0.1.1 C0.1.2.1 (C0.1.2.2.2.2 _ aw_I) rfl C0.2.1 hP hD hS hA (fun _ => rfl) hn0 hN hby hcells hslots hd1 (fun q cA H1 hK1 hP1 hD1 hS1 => ?_)
  have e1 : cA = cI := Option.some.inj ((va_nm_int (hK1.2 2 (cA, .int) rfl).2).symm.trans (va_nm_int (C0.2.1.2 0 (cI, .int) rfl).2))
  subst e1
  exact i_putF C0 hmn hP1 hD1 hS1 hf rfl rfl hfl hk hd2 (fun H2 locs2 a b z y => kk q H2 locs2 a b z y)
theorem i_naB (C0 : KJ own cc nL p s m args c D cI cB) (hmn : meth.name = "<init>") (hA : ∀ q, s.heap.size ≤ q → A q) (hP : va_P D vwCl ((h0, .inr (ci, fs)) :: r) H) (hD : va_D A ((h0, .inr (ci, fs)) :: r)) (hS : va_S A s.heap H locs) {v : Int32} (n : Nat) (hn0 : ¬ v < 0) (hN : v.toNatClampNeg = n) (hby : n * componentBytes .byte ≤ 536870912) (hcells : cells + 1 ≤ R.cells) (hslots : slots + n ≤ R.slots) {k idx n0 : Nat} (hd1 : decode cc pc = .ok (.newarray .byte, 2)) (hd2 : decode cc (pc + 2) = .ok (.putfield idx, 3)) (hf : FF own idx ci k (.array .byte)) (hfl : fs.length = n0) (hk : Nat.ble (k + 1) n0 = true)
    (kk : ∀ (q : Nat) (H1 : Heap) (locs1 : List Loc), va_P D vwCl ((h0, .inr (ci, fs.set k (.ref q))) :: (r ++ [(q, .inl (cB, n, .inl (fun _ => 0)))])) H1 → va_D A ((h0, .inr (ci, fs.set k (.ref q))) :: (r ++ [(q, .inl (cB, n, .inl (fun _ => 0)))])) → va_S A s.heap H1 locs1 → (fs.set k (.ref q)).length = n0 → W p l e R s m args below meth c H1 locs1 (cells + 1) (slots + n) Q (F0 m (pc + 2 + 3) ls rest)) : W p l e R s m args below meth c H locs cells slots Q (F0 m pc ls (.int v :: .ref h0 :: rest)) := by
  refine va_newa (a0 := (n, .inl (fun _ => 0))) (ty := .byte) C0.1.1 C0.1.2.1 (C0.1.2.2.2.2 _ aw_B) rfl C0.2.1 hP hD hS hA (fun _ => rfl) hn0 hN hby hcells hslots hd1 (fun q cA H1 hK1 hP1 hD1 hS1 => ?_)
  have e1 : cA = cB := Option.some.inj ((va_nm_byte (hK1.2 2 (cA, .byte) rfl).2).symm.trans (va_nm_byte (C0.2.1.2 1 (cB, .byte) rfl).2))
  subst e1
  exact i_putF C0 hmn hP1 hD1 hS1 hf rfl rfl hfl hk hd2 (fun H2 locs2 a b z y => kk q H2 locs2 a b z y)
theorem i_obj (C0 : KJ own cc nL p s m args c D cI cB) {idx : Nat} (hls : ls.size = nL) (hl : Cond.methodLink own idx objectInit ∈ gt_) {a : Nat} (hd : decode cc pc = .ok (.invokespecial idx, 3)) (hR : 1 ≤ R.frames ∧ 2 * 0 + (rest.map fun v => v.category).sum + 12 ≤ R.locals) (kk : W p l e R s m args below meth c H locs cells slots Q (F0 m (pc + 3) ls rest)) : W p l e R s m args below meth c H locs cells slots Q (F0 m pc ls (.ref a :: rest)) := by
  refine W.objInit C0.1.1 C0.1.2.1 C0.1.2.2.2.1 (C0.1.2.2.2.2 _ hl) (C0.1.2.2.2.2 _ ob_1) (C0.1.2.2.2.2 _ ob_2) rfl (by rw [C0.1.2.2.1]; exact hls) rfl hd hR.1 hR.2 ?_
  exact W.eq (g2 := F0 m (pc + 3) ls rest) rfl kk
theorem i_new (C0 : KJ own cc nL p s m args c D cI cB) (hA : ∀ q, s.heap.size ≤ q → A q) (hP : va_P D vwCl ws H) (hD : va_D A ws) (hS : va_S A s.heap H locs) {idx cj N : Nat} {C : String} {T : u_T} (hc : vwCl[cj]? = some (C, T, N)) (ty : Nat → FieldType) (hty : ∀ k, k < N → parseFieldDescriptor (T k).2.2.1 = some (ty k)) (hw : Cond.classLink own idx C ∈ gt_ ∧ Cond.instantiable C N ∈ gt_ ∧ Cond.initialized C ∈ gt_) {fs0 : List Value} (hfs : ∀ j, j < N → defaultValue (ty j) = vp_V fs0 j) (hR : cells + 1 ≤ R.cells ∧ slots + N ≤ R.slots) (hd1 : decode cc pc = .ok (.new idx, 3)) (hd2 : decode cc (pc + 3) = .ok (.dup, 1))
    (kk : ∀ (q : Nat) (H1 : Heap), va_P D vwCl (ws ++ [(q, .inr (cj, fs0))]) H1 → va_D A (ws ++ [(q, .inr (cj, fs0))]) → va_S A s.heap H1 locs → W p l e R s m args below meth c H1 locs (cells + 1) (slots + N) Q (F0 m (pc + 3 + 1) ls (.ref q :: .ref q :: rest))) : W p l e R s m args below meth c H locs cells slots Q (F0 m pc ls rest) := by
  refine va_new C0.1.1 C0.1.2.1 C0.1.2.2.2.2 (clOK cj C T N hc).1 ty hty C0.1.2.2.2.1 (C0.1.2.2.2.2 _ hw.1) (C0.1.2.2.2.2 _ hw.2.1) (C0.1.2.2.2.2 _ hw.2.2) C0.2.1 hP hD hS hA hc hfs hR.1 hR.2 hd1 (fun q H1 hP1 hD1 hS1 => ?_)
  exact lv_dup C0.1.1 C0.1.2.1 hd2 rfl (kk q H1 hP1 hD1 hS1)
theorem i_blind {as : List Value} {D : va_G} {ws : va_W} {tys : List (ClassId × FieldType)} {sz : Nat} : FrameBlind (va_Pc as (fun U => U.heap.size = sz ∧ va_P D vwCl ws U.heap ∧ va_K D vwCl tys U ∧ ∀ w ∈ nwI, va_Nw w U)) := by
  intro a U g mk q
  obtain ⟨q0, q1, qP, qK, qN⟩ := q
  exact ⟨q0, q1, qP, va_K.moved (u := U) (U := U.calling g mk a) (Vm.Alike.refl U.vm) qK, nwI_same (s := U) (U := U.calling g mk a) rfl qN⟩
theorem goodI {N : MRec} {n : Nat} (hk : KN N n) : GoodIn gt_ (wsI N) := by
  intro w hw
  have hm : w ∈ gt_ := by
    rcases List.mem_cons.mp hw with rfl | hw
    · exact hk.2.1
    · exact hw
  exact ⟨hm, gt_good w hm⟩
theorem i_call (C0 : KJ own cc nL p s m args c D cI cB) (hA : ∀ q, s.heap.size ≤ q → A q) {q cj : Nat} {fs0 as : List Value} (hP : va_P D vwCl (ws ++ [(q, .inr (cj, fs0))]) H) (hD : va_D A (ws ++ [(q, .inr (cj, fs0))])) (hS : va_S A s.heap H locs) {N2 : MRec} {mc ms idx na : Nat} {L : LT} (hM : IM l N2 mc ms cj fs0 as L) (hl : Cond.methodLink own idx (mY N2) ∈ gt_ ∨ ∃ host : String, Cond.methodLinkNest own idx (mY N2) host ∈ nwI) (hk : KN N2 na) (hna : as.length = na) (hf : mF N2 + 1 ≤ R.frames ∧ 8 + (mL N2 + 11) + mO N2 ≤ R.locals) (hls : ls.size = nL) (hcat : 2 * 0 + (rest.map (fun v => v.category)).sum ≤ 8) (hroom : cells + mc ≤ R.cells ∧ slots + ms ≤ R.slots) (hd : decode cc pc = .ok (.invokespecial idx, 3)) {st : List Value} (hst : st = as.reverse ++ .ref q :: rest)
    (kk : ∀ (u : Nat → Nat) (H1 : Heap) (locs1 : List Loc), va_P D vwCl (ws ++ L cI cB q u) H1 → va_D A (ws ++ L cI cB q u) → va_S A s.heap H1 locs1 → W p l e R s m args below meth c H1 locs1 (cells + mc) (slots + ms) Q (F0 m (pc + 3) ls rest)) : W p l e R s m args below meth c H locs cells slots Q (F0 m pc ls st) := by
  subst hst
  have hF : ∀ q', va_A [(q, .inr (cj, fs0))] H.size q' → A q' := by
    intro q' h
    rcases h with ⟨k2, e2, h2⟩ | h2
    · have hk2 : k2 = 0 := by
        have h3 := (List.getElem?_eq_some_iff.mp h2).1
        simp only [List.length_cons, List.length_nil] at h3
        omega
      subst hk2
      have h4 := hD.2 ws.length (q, .inr (cj, fs0)) (by simp)
      cases h2
      exact h4
    · exact hA q' (Nat.le_trans hS.1 h2)
  have hPx : va_P D vwCl [(q, .inr (cj, fs0))] H := fun k x hx => hP (ws.length + k) x (by
    rw [List.getElem?_append_right (by omega)]
    rw [show ws.length + k - ws.length = k by omega]
    exact hx)
  have hpre : PreS s H (va_Pc (.ref q :: as) (fun U => U.heap.size = H.size ∧ va_P D vwCl [(q, .inr (cj, fs0))] U.heap ∧ va_K D vwCl [(cI, .int), (cB, .byte)] U ∧ ∀ w ∈ nwI, va_Nw w U)) (.ref q :: as) := ⟨i_blind, fun U hU hW => ⟨rfl, by rw [hU], by rw [hU]; exact hPx, va_K.moved hW.alike C0.2.1, nwI_warm hW C0.2.2⟩⟩
  have run : va_Run p l e R s m args below meth c H locs cells slots mc ms (F0 m pc ls (as.reverse ++ .ref q :: rest)) rest (QI D (va_A [(q, .inr (cj, fs0))] H.size) (L cI cB q) (Value.ref q :: as).toArray) (va_A [(q, .inr (cj, fs0))] H.size) := by
    rcases hl with hl | ⟨host, hl⟩
    · exact va_runI (As := as) (rest := rest) (b := q) C0.1 (hM D cI cB q H.size) (cwI na C0.1.2.2.2.2 (goodI hk) rfl rfl rfl (C0.1.2.2.2.2 _ hk.2.2.1) (C0.1.2.2.2.2 _ hl) (C0.1.2.2.2.2 _ hk.1) hk.2.2.2.1 hk.2.2.2.2 hf) hpre rfl hna hls rfl hcat hd hroom
    · exact va_runIN (As := as) (rest := rest) (b := q) C0.1 (hM D cI cB q H.size) ⟨va_cnB na C0.1.2.2.2.2 (goodI hk) rfl rfl rfl (C0.2.2 _ hl) (C0.1.2.2.2.2 _ hk.2.2.1) hk.2.2.2.2 hf, hk.2.2.2.1, C0.1.2.2.2.2 _ hk.1⟩ hpre rfl hna hls rfl hcat hd hroom
  refine va_callv run hS (fun q' _ h => hF q' h) hF (fun u t H1 locs1 ht hvm _ hB hz1 hk1 hS1 => ?_)
  obtain ⟨hP1, hD1⟩ := hB
  rw [ht] at hP1
  obtain ⟨a1, b1⟩ := i_join hP hD hk1 hF hP1 hD1
  exact kk u H1 locs1 a1 b1 hS1
theorem i_ret (C0 : KJ own cc nL p s m args c D cI cB) (hr : meth.sig.returnType = none) (hlk : meth.locks = false) {B : (Nat → Nat) → va_W} (u : Nat → Nat) (hP : va_P D vwCl (B u) H) (hD : va_D A (B u)) (hS : va_S A s.heap H locs) (hd : decode cc pc = .ok (.return_, 1)) : W p l e R s m args below meth c H locs cells slots (MQ below (QI D A B) args s cells slots A) (F0 m pc ls []) :=
  W.vret C0.1.1 C0.1.2.1 hr (fun t ht hW => ⟨⟨u, rfl, trivial, by rw [ht]; exact hP, hD⟩, hS.F ht⟩) hS.2.2 hd hlk
theorem i_get (C0 : KJ own cc nL p s m args c D cI cB) (hP : va_P D vwCl ((h0, .inr (ci, fs)) :: r) H) {k idx : Nat} {v : Value} (hf : FL own idx ci k) (hv : fs[k]? = some v) (hd : decode cc pc = .ok (.getfield idx, 3)) (kk : W p l e R s m args below meth c H locs cells slots Q (F0 m (pc + 3) ls (v :: rest))) : W p l e R s m args below meth c H locs cells slots Q (F0 m pc ls (.ref h0 :: rest)) := by
  obtain ⟨C, T, N, hc, hkN, hlink, hT⟩ := hf
  refine va_get (v := v) C0.1.1 C0.1.2.1 C0.1.2.2.2.2 (clOK ci C T N hc).1 C0.1.2.2.2.1 C0.2.1 hP 0 rfl hc k hkN (C0.1.2.2.2.2 _ hlink) ?_ hv hd kk
  intro x hx
  rw [hT] at hx
  exact hx
theorem i_ast (C0 : KJ own cc nL p s m args c D cI cB) (hP : va_P D vwCl ws H) (hD : va_D A ws) (hS : va_S A s.heap H locs) (q0 : Nat) {a n : Nat} {f : Nat → Int32} (ha : ws[q0]? = some (a, .inl (cI, n, .inl f))) {i x : Int32} (j : Nat) (hj : i.toNatClampNeg = j) (hin : vp_in i n) (hd : decode cc pc = .ok (.iastore, 1))
    (kk : ∀ (H1 : Heap) (locs1 : List Loc), va_P D vwCl (ws.set q0 (a, .inl (cI, n, .inl (upd f j x)))) H1 → va_D A (ws.set q0 (a, .inl (cI, n, .inl (upd f j x)))) → va_S A s.heap H1 locs1 → W p l e R s m args below meth c H1 locs1 cells slots Q (F0 m (pc + 1) ls rest)) : W p l e R s m args below meth c H locs cells slots Q (F0 m pc ls (.int x :: .int i :: .ref a :: rest)) := by
  subst hj
  exact va_iast C0.1.1 C0.1.2.1 C0.2.1 hP hD hS q0 0 ha rfl hin hd (fun H1 locs1 a1 b1 c1 => kk H1 locs1 a1 b1 c1)
end
