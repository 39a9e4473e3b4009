/-! the start -/
def adS (h7 : Nat) (u7 : Nat → Nat) (h8 : Nat) (u8 : Nat → Nat) : Nat → Nat := fun o => if o = 0 then h7 else if o < 50 then u7 o else if o = 50 then h8 else u8 (o - 50)
theorem ce_z {ad : Nat → Nat} {cI cB : ClassId} {o n : Nat} (hs : shp o = (9, n)) (ho : o ≠ 0 ∧ o ≠ 2 ∧ o ≠ 5 ∧ o ≠ 26 ∧ o ≠ 50 ∧ o ≠ 52 ∧ o ≠ 55) : cellE ad cI cB mu0 o = .inl (cI, n, .inl z_) := by
  rw [cellE_arr hs]
  have e : (fun i => Int32.ofInt (mu0 o i)) = z_ := by
    funext i
    rw [mu0_z ho]
    rfl
  rw [e]
theorem ce_y {ad : Nat → Nat} {cI cB : ClassId} {o n : Nat} (hs : shp o = (10, n)) (ho : o ≠ 0 ∧ o ≠ 2 ∧ o ≠ 5 ∧ o ≠ 26 ∧ o ≠ 50 ∧ o ≠ 52 ∧ o ≠ 55) : cellE ad cI cB mu0 o = .inl (cB, n, .inl z_) := by
  rw [cellE_byt hs]
  have e : (fun i => Int32.ofInt (mu0 o i)) = z_ := by
    funext i
    rw [mu0_z ho]
    rfl
  rw [e]
theorem sz6_e (i : Nat) : sz6 i = if i < 6 then -1 else 0 := by
  by_cases h : i < 6
  · rcases (show i = 0 ∨ i = 1 ∨ i = 2 ∨ i = 3 ∨ i = 4 ∨ i = 5 by omega) with rfl | rfl | rfl | rfl | rfl | rfl <;> rfl
  · rw [if_neg h]
    unfold sz6 upd
    rw [if_neg (by omega), if_neg (by omega), if_neg (by omega), if_neg (by omega), if_neg (by omega), if_neg (by omega)]
theorem sz4_e (i : Nat) : sz4 i = if i < 4 then -1 else 0 := by
  by_cases h : i < 4
  · rcases (show i = 0 ∨ i = 1 ∨ i = 2 ∨ i = 3 by omega) with rfl | rfl | rfl | rfl <;> rfl
  · rw [if_neg h]
    unfold sz4 upd
    rw [if_neg (by omega), if_neg (by omega), if_neg (by omega), if_neg (by omega)]
theorem ce_6 {ad : Nat → Nat} {cI cB : ClassId} {o : Nat} (hs : shp o = (9, 6)) (ho : o = 2 ∨ o = 52) : cellE ad cI cB mu0 o = .inl (cI, 6, .inl sz6) := by
  rw [cellE_arr hs]
  have e : (fun i => Int32.ofInt (mu0 o i)) = sz6 := by
    funext i
    rw [sz6_e]
    unfold mu0
    by_cases h : i < 6
    · rw [if_neg (by omega), if_pos ⟨ho, h⟩, if_pos h]
      rfl
    · rw [if_neg (by omega), if_neg (by omega), if_neg (by omega), if_neg (by omega), if_neg (by omega), if_neg (by omega), if_neg h]
      rfl
  rw [e]
theorem ce_4 {ad : Nat → Nat} {cI cB : ClassId} {o : Nat} (hs : shp o = (9, 4)) (ho : o = 5 ∨ o = 55) : cellE ad cI cB mu0 o = .inl (cI, 4, .inl sz4) := by
  rw [cellE_arr hs]
  have e : (fun i => Int32.ofInt (mu0 o i)) = sz4 := by
    funext i
    rw [sz4_e]
    unfold mu0
    by_cases h : i < 4
    · rw [if_neg (by omega), if_neg (by omega), if_pos ⟨ho, h⟩, if_pos h]
      rfl
    · rw [if_neg (by omega), if_neg (by omega), if_neg (by omega), if_neg (by omega), if_neg (by omega), if_neg (by omega), if_neg h]
      rfl
  rw [e]
theorem ce_o {ad : Nat → Nat} {cI cB : ClassId} {o c n : Nat} (hs : shp o = (c, n)) (h9 : c < 9) (l : List PV) (hl : (List.range n).map (fun k => pvf o k mu0) = l) : cellE ad cI cB mu0 o = .inr (c, l.map (emb ad)) := by
  rw [cellE_obj hs h9, ← hl, List.map_map]
  rfl
theorem cob_0 {ad : Nat → Nat} {cI cB : ClassId} : cellE ad cI cB mu0 0 = .inr (7, ([R_ 1, R_ 4, R_ 7, R_ 12, R_ 17, R_ 26, R_ 28, R_ 33, R_ 41, R_ 42, R_ 46, I_ 0, I_ 0, L_ 0, L_ 1] : List PV).map (emb ad)) := ce_o rfl (by decide) _ (by decide +kernel)
theorem cob_1 {ad : Nat → Nat} {cI cB : ClassId} : cellE ad cI cB mu0 1 = .inr (4, ([I_ 40, R_ 2, R_ 3] : List PV).map (emb ad)) := ce_o rfl (by decide) _ (by decide +kernel)
theorem cob_4 {ad : Nat → Nat} {cI cB : ClassId} : cellE ad cI cB mu0 4 = .inr (4, ([I_ 120, R_ 5, R_ 6] : List PV).map (emb ad)) := ce_o rfl (by decide) _ (by decide +kernel)
theorem cob_7 {ad : Nat → Nat} {cI cB : ClassId} : cellE ad cI cB mu0 7 = .inr (0, ([I_ 0, R_ 8, R_ 9, R_ 10, R_ 11] : List PV).map (emb ad)) := ce_o rfl (by decide) _ (by decide +kernel)
theorem cob_12 {ad : Nat → Nat} {cI cB : ClassId} : cellE ad cI cB mu0 12 = .inr (0, ([I_ 0, R_ 13, R_ 14, R_ 15, R_ 16] : List PV).map (emb ad)) := ce_o rfl (by decide) _ (by decide +kernel)
theorem cob_17 {ad : Nat → Nat} {cI cB : ClassId} : cellE ad cI cB mu0 17 = .inr (2, ([I_ 0, R_ 18, R_ 19, R_ 20, R_ 21, R_ 22, R_ 23, R_ 24, R_ 25] : List PV).map (emb ad)) := ce_o rfl (by decide) _ (by decide +kernel)
theorem cob_26 {ad : Nat → Nat} {cI cB : ClassId} : cellE ad cI cB mu0 26 = .inr (3, ([R_ 27, I_ 0, I_ 0, I_ (-9)] : List PV).map (emb ad)) := ce_o rfl (by decide) _ (by decide +kernel)
theorem cob_28 {ad : Nat → Nat} {cI cB : ClassId} : cellE ad cI cB mu0 28 = .inr (6, ([I_ 0, I_ 0, I_ 0, I_ 0, I_ 0, R_ 29, R_ 30, R_ 31, R_ 32] : List PV).map (emb ad)) := ce_o rfl (by decide) _ (by decide +kernel)
theorem cob_33 {ad : Nat → Nat} {cI cB : ClassId} : cellE ad cI cB mu0 33 = .inr (1, ([R_ 34, R_ 35, R_ 36, R_ 37, R_ 38, R_ 39, R_ 40] : List PV).map (emb ad)) := ce_o rfl (by decide) _ (by decide +kernel)
theorem cob_42 {ad : Nat → Nat} {cI cB : ClassId} : cellE ad cI cB mu0 42 = .inr (5, ([I_ 0, I_ 0, R_ 43, R_ 44, R_ 45] : List PV).map (emb ad)) := ce_o rfl (by decide) _ (by decide +kernel)
theorem cob_46 {ad : Nat → Nat} {cI cB : ClassId} : cellE ad cI cB mu0 46 = .inr (5, ([I_ 0, I_ 0, R_ 47, R_ 48, R_ 49] : List PV).map (emb ad)) := ce_o rfl (by decide) _ (by decide +kernel)
theorem cob_50 {ad : Nat → Nat} {cI cB : ClassId} : cellE ad cI cB mu0 50 = .inr (8, ([I_ 0, R_ 51, I_ 0, L_ 0, L_ 1, R_ 52, R_ 53, R_ 54, R_ 55, R_ 56, I_ 0, I_ 0, R_ 57, R_ 58, R_ 59, I_ 0, I_ 0, I_ 0, I_ 0, R_ 60, R_ 61, R_ 62, I_ 0, R_ 63, I_ 0, I_ 0, R_ 64, I_ 0, R_ 65, R_ 66, R_ 67, R_ 68, R_ 69, R_ 70, R_ 71, R_ 72, R_ 73, R_ 74, R_ 75, I_ 0, R_ 76, R_ 77, I_ 0, R_ 78, I_ 0, I_ 0, R_ 79, R_ 80, R_ 81, L_ 0] : List PV).map (emb ad)) := ce_o rfl (by decide) _ (by decide +kernel)
theorem rg_82 : List.range NC_ = [0, 1, 2, 3, 4, 5, 6, 7, 8, 9, 10, 11, 12, 13, 14, 15, 16, 17, 18, 19, 20, 21, 22, 23, 24, 25, 26, 27, 28, 29, 30, 31, 32, 33, 34, 35, 36, 37, 38, 39, 40, 41, 42, 43, 44, 45, 46, 47, 48, 49, 50, 51, 52, 53, 54, 55, 56, 57, 58, 59, 60, 61, 62, 63, 64, 65, 66, 67, 68, 69, 70, 71, 72, 73, 74, 75, 76, 77, 78, 79, 80, 81] := by decide
set_option maxHeartbeats 4000000 in
set_option maxRecDepth 100000 in
theorem st_w (cI cB : ClassId) (h7 : Nat) (u7 : Nat → Nat) (h8 : Nat) (u8 : Nat → Nat) : wo (adS h7 u7 h8 u8) cI cB mu0 = LX7 cI cB h7 u7 ++ LX8 cI cB h8 u8 := by
  unfold wo
  rw [rg_82]
  simp only [List.map_cons, List.map_nil]
  rw [cob_0, cob_1, ce_6 (o := 2) rfl (by decide), ce_z (o := 3) (n := 240) rfl (by decide), cob_4, ce_4 (o := 5) rfl (by decide), ce_z (o := 6) (n := 480) rfl (by decide), cob_7]
  rw [ce_z (o := 8) (n := 40) rfl (by decide), ce_z (o := 9) (n := 40) rfl (by decide), ce_z (o := 10) (n := 40) rfl (by decide), ce_z (o := 11) (n := 40) rfl (by decide), cob_12, ce_z (o := 13) (n := 40) rfl (by decide), ce_z (o := 14) (n := 40) rfl (by decide), ce_z (o := 15) (n := 40) rfl (by decide)]
  rw [ce_z (o := 16) (n := 40) rfl (by decide), cob_17, ce_z (o := 18) (n := 24) rfl (by decide), ce_z (o := 19) (n := 24) rfl (by decide), ce_z (o := 20) (n := 24) rfl (by decide), ce_z (o := 21) (n := 24) rfl (by decide), ce_z (o := 22) (n := 24) rfl (by decide), ce_z (o := 23) (n := 6) rfl (by decide)]
  rw [ce_z (o := 24) (n := 144) rfl (by decide), ce_z (o := 25) (n := 6) rfl (by decide), cob_26, ce_z (o := 27) (n := 120) rfl (by decide), cob_28, ce_z (o := 29) (n := 6) rfl (by decide), ce_z (o := 30) (n := 6) rfl (by decide), ce_z (o := 31) (n := 4096) rfl (by decide)]
  rw [ce_z (o := 32) (n := 4374) rfl (by decide), cob_33, ce_z (o := 34) (n := 6) rfl (by decide), ce_z (o := 35) (n := 6) rfl (by decide), ce_z (o := 36) (n := 6) rfl (by decide), ce_z (o := 37) (n := 6) rfl (by decide), ce_z (o := 38) (n := 6) rfl (by decide), ce_z (o := 39) (n := 6) rfl (by decide)]
  rw [ce_z (o := 40) (n := 6) rfl (by decide), ce_z (o := 41) (n := 6) rfl (by decide), cob_42, ce_z (o := 43) (n := 6) rfl (by decide), ce_z (o := 44) (n := 12) rfl (by decide), ce_z (o := 45) (n := 12) rfl (by decide), cob_46, ce_z (o := 47) (n := 6) rfl (by decide)]
  rw [ce_z (o := 48) (n := 12) rfl (by decide), ce_z (o := 49) (n := 12) rfl (by decide), cob_50, ce_z (o := 51) (n := 6) rfl (by decide), ce_6 (o := 52) rfl (by decide), ce_z (o := 53) (n := 240) rfl (by decide), ce_z (o := 54) (n := 40) rfl (by decide), ce_4 (o := 55) rfl (by decide)]
  rw [ce_y (o := 56) (n := 480) rfl (by decide), ce_z (o := 57) (n := 6) rfl (by decide), ce_z (o := 58) (n := 12) rfl (by decide), ce_z (o := 59) (n := 12) rfl (by decide), ce_z (o := 60) (n := 6) rfl (by decide), ce_z (o := 61) (n := 12) rfl (by decide), ce_z (o := 62) (n := 12) rfl (by decide), ce_z (o := 63) (n := 160) rfl (by decide)]
  rw [ce_z (o := 64) (n := 160) rfl (by decide), ce_z (o := 65) (n := 24) rfl (by decide), ce_z (o := 66) (n := 24) rfl (by decide), ce_z (o := 67) (n := 24) rfl (by decide), ce_z (o := 68) (n := 24) rfl (by decide), ce_z (o := 69) (n := 24) rfl (by decide), ce_z (o := 70) (n := 40) rfl (by decide), ce_z (o := 71) (n := 6) rfl (by decide)]
  rw [ce_z (o := 72) (n := 144) rfl (by decide), ce_z (o := 73) (n := 6) rfl (by decide), ce_z (o := 74) (n := 6) rfl (by decide), ce_z (o := 75) (n := 6) rfl (by decide), ce_z (o := 76) (n := 24576) rfl (by decide), ce_z (o := 77) (n := 24576) rfl (by decide), ce_z (o := 78) (n := 6) rfl (by decide), ce_z (o := 79) (n := 6) rfl (by decide)]
  rw [ce_z (o := 80) (n := 6) rfl (by decide), ce_z (o := 81) (n := 6) rfl (by decide)]
  rfl
theorem jnL_7 : Cond.classLink RL 7 RX7 ∈ gt_ := gt_mem (i := 104) (by decide +kernel) rfl
theorem jnL_10 : Cond.classLink RL 10 RX8 ∈ gt_ := gt_mem (i := 942) (by decide +kernel) rfl
theorem jiX7 : Cond.instantiable RX7 15 ∈ gt_ := gt_mem (i := 105) (by decide +kernel) rfl
theorem jzX7 : Cond.initialized RX7 ∈ gt_ := gt_mem (i := 92) (by decide +kernel) rfl
theorem jiX8 : Cond.instantiable RX8 50 ∈ gt_ := gt_mem (i := 943) (by decide +kernel) rfl
theorem jzX8 : Cond.initialized RX8 ∈ gt_ := gt_mem (i := 100) (by decide +kernel) rfl
theorem jcL_9 : Cond.methodLink RL 9 (mY nX7_init) ∈ gt_ := gt_mem (i := 106) (by decide +kernel) rfl
theorem jcL_12 : Cond.methodLink RL 12 (mY nX8_init) ∈ gt_ := gt_mem (i := 944) (by decide +kernel) rfl
theorem nw_on : ∀ w ∈ nw_, w.onTables = true := by decide +kernel
theorem st_cl {s : State} {b : Nat} (hg : ∀ w ∈ gt_, w.before #[Value.ref b] s = true) (c9 : ClassId) : ∃ D : va_G, ∀ (k : Nat) (q : vw_C), vwCl[k]? = some q → u_Kn s q.1 q.2.1 q.2.2 (D.1 k) (D.2 k) := by
  have h : ∀ k : Nat, ∃ (cC : ClassId) (iS : Nat → Nat), ∀ q : vw_C, vwCl[k]? = some q → u_Kn s q.1 q.2.1 q.2.2 cC iS := by
    intro k
    match k with
    | 0 =>
      obtain ⟨c0, i0, h0⟩ := u_known (C := RX0) (T := TX0) (N := 5) (n := 5) hg inX0 (hg _ jiX0)
      exact ⟨c0, i0, fun q hq => by cases hq; exact h0⟩
    | 1 =>
      obtain ⟨c0, i0, h0⟩ := u_known (C := RX1) (T := TX1) (N := 7) (n := 7) hg inX1 (hg _ jiX1)
      exact ⟨c0, i0, fun q hq => by cases hq; exact h0⟩
    | 2 =>
      obtain ⟨c0, i0, h0⟩ := u_known (C := RX2) (T := TX2) (N := 9) (n := 9) hg inX2 (hg _ jiX2)
      exact ⟨c0, i0, fun q hq => by cases hq; exact h0⟩
    | 3 =>
      obtain ⟨c0, i0, h0⟩ := u_known (C := RX3) (T := TX3) (N := 4) (n := 4) hg inX3 (hg _ jiX3)
      exact ⟨c0, i0, fun q hq => by cases hq; exact h0⟩
    | 4 =>
      obtain ⟨c0, i0, h0⟩ := u_known (C := RX4) (T := TX4) (N := 3) (n := 3) hg inX4 (hg _ jiX4)
      exact ⟨c0, i0, fun q hq => by cases hq; exact h0⟩
    | 5 =>
      obtain ⟨c0, i0, h0⟩ := u_known (C := RX5) (T := TX5) (N := 5) (n := 5) hg inX5 (hg _ jiX5)
      exact ⟨c0, i0, fun q hq => by cases hq; exact h0⟩
    | 6 =>
      obtain ⟨c0, i0, h0⟩ := u_known (C := RX6) (T := TX6) (N := 9) (n := 9) hg inX6 (hg _ jiX6)
      exact ⟨c0, i0, fun q hq => by cases hq; exact h0⟩
    | 7 =>
      obtain ⟨c0, i0, h0⟩ := u_known (C := RX7) (T := TX7) (N := 15) (n := 15) hg inX7 (hg _ jiX7)
      exact ⟨c0, i0, fun q hq => by cases hq; exact h0⟩
    | 8 =>
      obtain ⟨c0, i0, h0⟩ := u_known (C := RX8) (T := TX8) (N := 50) (n := 50) hg inX8 (hg _ jiX8)
      exact ⟨c0, i0, fun q hq => by cases hq; exact h0⟩
    | k + 9 => exact ⟨c9, fun _ => 0, fun q hq => by simp [vwCl] at hq⟩
  exact ⟨(fun k => Classical.choose (h k), fun k => Classical.choose (Classical.choose_spec (h k))), fun k q hq => Classical.choose_spec (Classical.choose_spec (h k)) q hq⟩
def R_law : String := "StreetKeysLaw"
def lw_P (b : Addr) (xs : List Int32) (args : Array Value) (s : State) : Prop := args = #[.ref b] ∧ s.IntsAt b xs ∧ xs.length ≤ 384 ∧ (Jvm.Cond.and given_1 narrow_1).before args s = true
def lw_Q (_ : Array Value) (s : State) (o : Outcome) (t : State) : Prop := o = .returned (some (.int 1)) ∧ Framed s o t [] 600000 7302250
def lw_Z (below : List Frame) (a : Array Value) (s : State) : State → Prop := fun t => ∃ o, t.status = .running ∧ Ended t below o ∧ lw_Q a s o t
/-- the law's own end, with 1 on the stack, nothing written that was there before, its room as the claim has it -/
theorem lw_ret {p : Program} {l : Launch} {e : Env} {s : State} {m : MethodId} {below : List Frame} {meth : Method} {c : Code} {b : Nat} (hx : p.tables.exec = Jvm.exec) (hb : c.code = code) (hr : meth.sig.returnType = ret) (hlocks : meth.locks = false) {pc : Nat} {H : Heap} {ls : Array Slot} (hdg : decode code pc = .ok (.ireturn, 1)) : W p l e room_1 s m #[Value.ref b] below meth c H [] 600000 7302250 (lw_Z below #[Value.ref b] s) (F0 m pc ls [.int 1]) := by
  intro T hT X
  obtain ⟨fs, hret, hrun, hended, hW, hframe⟩ := X.leave (v := some (.int 1)) (hlocks := hlocks) (fun h => by rw [hr] at h; cases h)
  have hmeth' : T.vm.method? m = some meth := X.method'
  refine ⟨T.setFrames fs, ?_, .returned (some (.int 1)), hrun, hended, rfl, ⟨_, rfl⟩, hW, hframe⟩
  jvm_step X.here [X.here.top, hx, hb, hdg, hmeth', hr, ret, narrow_b1]
  (try refine ⟨rfl, ?_⟩); (try refine ⟨rfl, ?_⟩)
  first | (intro acts; rw [hret _ acts rfl rfl rfl]) | rw [hret _ _ rfl rfl rfl]
  exact Steps.refl _
/-- what holds at the law's entry: the machine, the code, the tables' words (any of lw_tbl by 'hts w (by decide +kernel)'), the script of L ints xs at the cell b, what the Statement gives of the start (any of its parts by flat_of_before) -/
def lw_At (p : Program) (s : State) (m : MethodId) (meth : Method) (c : Code) (b L : Nat) (xs : Nat → Int32) : Prop :=
  p.tables.exec = Jvm.exec ∧ c.code = code ∧ meth.sig.returnType = ret ∧ c.maxLocals = 4 ∧ s.vm.findClass R_law = some m.cls ∧ (∀ w ∈ lw_tbl, w.before #[Value.ref b] s = true) ∧ va_X b L xs s s.heap ∧ b < s.heap.size ∧ meth.locks = false ∧ (Jvm.Cond.and given_1 narrow_1).before #[Value.ref b] s = true
set_option maxHeartbeats 4000000 in
set_option maxRecDepth 100000 in
theorem whole_start {p : Program} {e : Env} {s : State} {m : MethodId} {below : List Frame} {meth : Method} {c : Code} (l : Launch) {b L : Nat} {xs : Nat → Int32} (hL : L ≤ 384) (C0 : lw_At p s m meth c b L xs) : W p l e room_1 s m #[Value.ref b] below meth c s.heap [] 0 0 (lw_Z below #[Value.ref b] s) (entryFrame m ([Value.ref b] : List Value).toArray 4) := by
  obtain ⟨hx, hb, hr, hml, hown, hts, hX, hbl, hlocks, hgv⟩ := id C0
  have hg : ∀ w ∈ gt_, w.before #[Value.ref b] s = true := fun w hw => hts w (List.mem_filter.mp hw).1
  obtain ⟨D, hKc⟩ := st_cl hg m.cls
  obtain ⟨cI, kA, compA, f1, f2, f3⟩ := Cond.arrayClass_spec (hg _ aw_I)
  obtain ⟨cB, kB, compB, g1, g2, g3⟩ := Cond.arrayClass_spec (hg _ aw_B)
  have hK : va_K D vwCl [(cI, .int), (cB, .byte)] s := by
    refine ⟨hKc, fun k q hq => ?_⟩
    match k, hq with
    | 0, hq =>
      cases hq
      exact ⟨fun n z => ⟨fun k h => (by cases h), kA, f2, compA, f3⟩, f1⟩
    | 1, hq =>
      cases hq
      exact ⟨fun n z => ⟨fun k h => (by cases h), kB, g2, compB, g3⟩, g1⟩
    | k + 2, hq => simp at hq
  have hNw : ∀ w ∈ nw_, va_Nw w s := fun w hw => va_Nw.of (nw_on w hw) (hts w (nw_tbl w hw))
  have hNi : ∀ w ∈ nwI, va_Nw w s := fun w hw => va_Nw.of (nwI_on w hw) (hts w (nwI_tbl w hw))
  have C1 : KJ RL cL_law 4 p s m #[Value.ref b] c D cI cB := ⟨⟨hx, hb, hml, hown, hg⟩, hK, hNi⟩
  have hA : ∀ q : Nat, s.heap.size ≤ q → hiA s q := fun _ h => h
  have hP : va_P D vwCl [] s.heap := fun k q h => by simp at h
  have hD : va_D (hiA s) [] := ⟨fun i j p q h => by simp at h, fun k q h => by simp at h⟩
  have hS : va_S (hiA s) s.heap s.heap [] := va_S.rf
  have hl := lv_entry ([.ref b]) (n := 4) (Nat.le_of_ble_eq_true rfl)
  rw [lg_entry_eq]
  generalize (lg_sl ([.ref b]) ++ List.replicate (4 - (lg_sl ([.ref b])).length) Slot.unset).toArray = ls at hl ⊢
  have hl : lv_has ls 4 [(0, .ref b)] := hl
  refine i_new (rest := []) C1 hA hP hD hS (cj := 7) rfl tyX7 tyX7_ok ⟨jnL_7, jiX7, jzX7⟩ fsX7 ⟨Nat.le_of_ble_eq_true rfl, Nat.le_of_ble_eq_true rfl⟩ dL_law_0 dL_law_3 (fun q7 H hP hD hS => ?_)
  refine i_call (rest := [.ref q7]) C1 hA hP hD hS (i_X7 l) (Or.inl jcL_9) jkX7_init rfl ⟨Nat.le_of_ble_eq_true rfl, Nat.le_of_ble_eq_true rfl⟩ hl.1 (Nat.le_of_ble_eq_true rfl) ⟨Nat.le_of_ble_eq_true rfl, Nat.le_of_ble_eq_true rfl⟩ dL_law_4 rfl (fun u7 H locs hP hD hS => ?_)
  refine lv_astore_n (lv' := [(1, .ref q7), (0, .ref b)]) hx hb dL_law_7 rfl hl (by decide) rfl (fun ls hl => ?_)
  refine i_new (rest := []) C1 hA hP hD hS (cj := 8) rfl tyX8 tyX8_ok ⟨jnL_10, jiX8, jzX8⟩ fsX8 ⟨Nat.le_of_ble_eq_true rfl, Nat.le_of_ble_eq_true rfl⟩ dL_law_8 dL_law_11 (fun q8 H hP hD hS => ?_)
  refine i_call (rest := [.ref q8]) C1 hA hP hD hS (i_X8 l) (Or.inl jcL_12) jkX8_init rfl ⟨Nat.le_of_ble_eq_true rfl, Nat.le_of_ble_eq_true rfl⟩ hl.1 (Nat.le_of_ble_eq_true rfl) ⟨Nat.le_of_ble_eq_true rfl, Nat.le_of_ble_eq_true rfl⟩ dL_law_12 rfl (fun u8 H locs hP hD hS => ?_)
  refine lv_astore_n (lv' := [(2, .ref q8), (1, .ref q7), (0, .ref b)]) hx hb dL_law_15 rfl hl (by decide) rfl (fun ls hl => ?_)
  refine lv_iconst (v := 0) hx hb dL_law_16 (by decide) ?_
  refine lv_istore_n (lv' := [(3, .int 0), (2, .ref q8), (1, .ref q7), (0, .ref b)]) hx hb dL_law_17 rfl hl (by decide) rfl (fun ls hl => ?_)
  have hP : va_P D vwCl (LX7 cI cB q7 u7 ++ LX8 cI cB q8 u8) H := hP
  have hD : va_D (hiA s) (LX7 cI cB q7 u7 ++ LX8 cI cB q8 u8) := hD
  rw [← st_w] at hP hD
  have a0 : adS q7 u7 q8 u8 0 = q7 := rfl
  have a50 : adS q7 u7 q8 u8 50 = q8 := rfl
  have hl : lv_has ls 4 [(0, .ref b), (1, .ref (adS q7 u7 q8 u8 0)), (2, .ref (adS q7 u7 q8 u8 50)), (3, .int (nI 0))] := lv_sub hl [3, 2, 1, 0] rfl
  have hinj : ∀ i j, i < NC_ → j < NC_ → adS q7 u7 q8 u8 i = adS q7 u7 q8 u8 j → i = j := fun i j hi hj h => hD.1 i j _ _ (wo_at hi) (wo_at hj) h
  have hhi : ∀ o, o < NC_ → s.heap.size ≤ adS q7 u7 q8 u8 o := fun o ho => hD.2 o _ (wo_at ho)
  have CL : LC p s m meth c b (adS q7 u7 q8 u8) D cI cB := ⟨⟨hx, hb, hml, hown, hg⟩, ⟨hinj, hK, hNw⟩, hhi⟩
  exact law_loop CL hX hbl hL ⟨Nat.le_of_ble_eq_true rfl, Nat.le_of_ble_eq_true rfl⟩ (fun lsM H locs hS => by
    refine lv_iconst (v := 1) hx hb dL_law_1422 (by decide) ?_
    refine va_forget (fun q hq => hS.2.2 q hq) ?_
    refine W.widen (k := 600000) (n := 7302250) (Nat.le_of_ble_eq_true rfl) (Nat.le_of_ble_eq_true rfl) ?_
    exact lw_ret hx hb hr hlocks dL_law_1423) (L + 1) 0 0 mu0 ls H locs (by omega) (by omega) (Nat.le_refl 0) hl CI_0 mu0_ok hP hS
set_option maxHeartbeats 4000000 in
theorem lw_walk (l : Launch) (b : Addr) (xs : List Int32) : MetFree l x (headSpec (Jvm.Cond.code x code maxLocals ret :: tables_1) room_1) (lw_P b xs) (fun _ _ _ _ _ => True) lw_Q := by
  refine MetFree.of_bodyS (code := code) (maxLocals := maxLocals) (ret := ret) (by decide) ?_ ?_
  · intro args s m h hn
    obtain ⟨meth, c, h1, h2, h3, h4, h5, h6, -, -⟩ := Cond.code_spec hn (atoms_spec (ws := Jvm.Cond.code x code maxLocals ret :: tables_1) h _ List.mem_cons_self)
    exact ⟨meth, c, h1, h2, h3, h4, h5, h6⟩
  · intro p e s m args below meth c s₁ B hml0 hP _
    obtain ⟨rfl, hx, hbd, hgv⟩ := hP
    obtain ⟨scr, harrAt, hlist, hof, hsmall⟩ := hx
    obtain ⟨hcb, hkn, -, -⟩ := State.arrayAt?_spec harrAt
    have hown : s.vm.findClass R_law = some m.cls := findClass_of_methodNamed B.named
    have hts0 : ∀ c ∈ (Jvm.Cond.code x code maxLocals ret :: tables_1), c.before #[Value.ref b] s = true := atoms_spec (ws := Jvm.Cond.code x code maxLocals ret :: tables_1) B.pre
    have hts : ∀ w ∈ lw_tbl, w.before #[Value.ref b] s = true := k2_hts_sels lw_privs (fun w hw => hts0 w (List.mem_cons_of_mem _ hw)) lw_privs_ok
    have hml : c.maxLocals = 4 := B.maxLocals_eq (hts0 _ List.mem_cons_self)
    have X₀ : Stand p l e room_1 s m #[Value.ref b] below meth c s₁ [] 0 0 := Stand.of_body B
    have hh0 : s₁.heap = s.heap := by rw [B.state]; rfl
    have hsz : scr.slots.size = xs.length := by rw [← Array.length_toList, hlist, List.length_map]
    have hval : ∀ j : Nat, j < xs.length → scr.slots[j]? = some (.int (xs.getD j 0)) := fun j hj => by
      rw [← Array.getElem?_toList, hlist]
      simp [hj]
    have hbl : b < s.heap.size := (Array.getElem?_eq_some_iff.mp hcb).1
    have hX : va_X b xs.length (fun j => xs.getD j 0) s s.heap := ⟨scr, hcb, hof, hkn, hsz, hval⟩
    have K : W p l e room_1 s m #[Value.ref b] below meth c s₁.heap [] 0 0 (lw_Z below #[Value.ref b] s) (entryFrame m ([Value.ref b] : List Value).toArray 4) := by
      rw [hh0]
      exact whole_start l hbd ⟨B.exec, B.bytes, B.returns, hml, hown, hts, hX, hbl, B.notSynchronized, hgv⟩
    obtain ⟨t, a1, o, b1, b2, b3⟩ := K s₁ rfl X₀
    exact ⟨t, o, a1, b1, b2, b3⟩
theorem lw_pre_spec {args : Array Value} {s : State} (h : (Jvm.Cond.and given_1 narrow_1).before args s = true) (hr : rest_1_c.before args s = true) : ∃ (b : Addr) (xs : List Int32), lw_P b xs args s := by
  have hs := flat_of_before _ h
  have hq := flat_of_before _ hr
  have hc : (Cond.count 1).before args s = true := hs _ (by decide +kernel)
  have harr : (Cond.arrayOf (.arg 0) .int).before args s = true := hs _ (by decide +kernel)
  have hle : (Cond.le (.length (.arg 0)) (.int 384)).before args s = true := hs _ (by decide +kernel)
  have hlen : (Cond.isInt (.length (.arg 0))).before args s = true := hq _ (by decide +kernel)
  have hall : (Cond.all (.arg 0) (.isInt (.elem (.arg 0) (.index 0)))).before args s = true := hq _ (by decide +kernel)
  obtain ⟨b, xs, hb, hx⟩ := State.ints_of_pre rfl harr hlen hall
  have hsm : xs.length < 2 ^ 31 := hx.choose_spec.2.2.2
  have hev : (Term.length (.arg 0)).eval args s none [] s = some (.int xs.length.toInt32) := hx.length_eval hb
  have hv := Cond.le_ints hev (show (Term.int 384).eval args s none [] s = some (.int 384) from rfl)
  have hd : xs.length.toInt32 ≤ 384 := by
    simpa [Cond.before, Cond.holds, hv] using hle
  have hN : xs.length ≤ 384 := (Int32.ofNat_le_ofNat hsm (by decide)).mp (show Int32.ofNat xs.length ≤ Int32.ofNat 384 from hd)
  exact ⟨b, xs, Cond.one_arg hc (show args[0]? = some (.ref b) from hb), hx, hN, h⟩
theorem lw_comes (l : Launch) : Comes l x (Jvm.Cond.code x code maxLocals ret :: tables_1) room_1 (fun tb e args s => Calls_1 tb e args s ∧ rest_1 tb e args s ∧ Pre_1 tb e args s)
    (fun _ _ args s o t => lw_Q args s o t) := by
  intro p e ha hc hk s m args below hf hfit hheap happ hpre
  obtain ⟨b, xs, hP⟩ := lw_pre_spec hpre.2.2 hpre.2.1
  obtain ⟨k, o, h1, h2, h3, hQ⟩ := lw_walk l b xs p e ha hc hk s m args below hf ((Spec.applies_iff_loose hf).mp happ).1 hP trivial
  exact ⟨k, o, h1, h2, h3, hQ⟩
theorem lw_frame {s t : State} {o : Outcome} {args : Array Value} (h : Framed s o t [] 600000 7302250) :
    Framed s o t (fieldLocs frame_1_writes args s ++ arrayLocs frame_1_arrays args s ++ staticLocs frame_1_statics s) 600000 7302250 := h
theorem lw_limb (L : Cond) (hL : ∀ (args : Array Value) (s t : State), L.after args s (.returned (some (.int 1))) t = true) :
    ArmFor flags0 classFile x code maxLocals ret World_1 tables_1 room_1 Calls_1 rest_1 Pre_1
      (fun tb e a s o t => postC L tb e a s o t ∧ Framed s o t (fieldLocs frame_1_writes a s ++ arrayLocs frame_1_arrays a s ++ staticLocs frame_1_statics s) 600000 7302250) := by
  intro l _ _ _ p e ha hc hk s m args below hf hfit hheap happ hpre
  obtain ⟨k, o, h1, h2, h3, rfl, hF⟩ := lw_comes l p e ha hc hk s m args below hf hfit hheap happ hpre
  exact ⟨k, _, h1, h2, h3, hL args s _, lw_frame hF⟩
theorem i_vc : Claimed_1_1 ∧ Claimed_1_2 := ⟨lw_limb limb_1_1 (fun args s t => by simp [limb_1_1, Cond.after, Cond.holds, Cond.value]), lw_limb limb_1_2 (fun args s t => Cond.after_iff.mpr (by
  first | (rw [show limb_1_2 = Cond.eq .result (.int 1) from rfl, Cond.eq_ints (x := 1) (y := 1) rfl rfl]; simp; done) | (simp [limb_1_2, Cond.value, Term.eval]; done)))⟩
