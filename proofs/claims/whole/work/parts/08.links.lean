/-- the words of the tables that a callee may take along -/
def gt_ : List Cond := lw_tbl.filter goodWord
theorem gt_mem {i : Nat} {w : Cond} (h : lw_tbl[i]? = some w) (hg : goodWord w = true) : w ∈ gt_ := List.mem_filter.mpr ⟨List.mem_of_getElem? h, hg⟩
/-- a cell of the world: (number of its class, its fields), (9, n) an int row of n, (10, n) a byte row -/
def shpL : List (Nat × Nat) := [(7, 15), (4, 3), (9, 6), (9, 240), (4, 3), (9, 4), (9, 480), (0, 5), (9, 40), (9, 40), (9, 40), (9, 40), (0, 5), (9, 40), (9, 40), (9, 40), (9, 40), (2, 9), (9, 24), (9, 24), (9, 24), (9, 24), (9, 24), (9, 6), (9, 144), (9, 6), (3, 4), (9, 120), (6, 9), (9, 6), (9, 6), (9, 4096), (9, 4374), (1, 7), (9, 6), (9, 6), (9, 6), (9, 6), (9, 6), (9, 6), (9, 6), (9, 6), (5, 5), (9, 6), (9, 12), (9, 12), (5, 5), (9, 6), (9, 12), (9, 12), (8, 50), (9, 6), (9, 6), (9, 240), (9, 40), (9, 4), (10, 480), (9, 6), (9, 12), (9, 12), (9, 6), (9, 12), (9, 12), (9, 160), (9, 160), (9, 24), (9, 24), (9, 24), (9, 24), (9, 24), (9, 40), (9, 6), (9, 144), (9, 6), (9, 6), (9, 6), (9, 24576), (9, 24576), (9, 6), (9, 6), (9, 6), (9, 6)]
/-- of a field: 0 an int, 1 a long, 2 a reference that changes, 3 + c: the cell c for good, 1000 + v: the int v for good -/
def fkL : List (List Nat) := [[4, 7, 10, 15, 20, 29, 31, 36, 44, 2, 2, 0, 0, 1, 1], [1040, 5, 6], [], [], [1120, 8, 9], [], [], [0, 11, 12, 13, 14], [], [], [], [], [0, 16, 17, 18, 19], [], [], [], [], [0, 21, 22, 23, 24, 25, 26, 27, 28], [], [], [], [], [], [], [], [], [30, 0, 0, 0], [], [0, 0, 0, 0, 0, 32, 33, 34, 35], [], [], [], [], [37, 38, 39, 40, 41, 42, 43], [], [], [], [], [], [], [], [], [0, 0, 46, 47, 48], [], [], [], [0, 0, 50, 51, 52], [], [], [], [0, 54, 0, 1, 1, 55, 56, 57, 58, 59, 0, 0, 60, 61, 62, 0, 0, 0, 0, 63, 64, 65, 0, 66, 0, 0, 67, 0, 68, 69, 70, 71, 72, 73, 74, 75, 76, 77, 78, 0, 79, 80, 0, 81, 0, 0, 82, 83, 84, 1], [], [], [], [], [], [], [], [], [], [], [], [], [], [], [], [], [], [], [], [], [], [], [], [], [], [], [], [], [], [], []]
abbrev NC_ : Nat := 82
-- 0=sk 1=rows 2=rows.sizes 3=rows.cells 4=texts 5=texts.sizes 6=texts.cells 7=log 8=log.kinds 9=log.firsts 10=log.seconds 11=log.changes 12=dlog 13=dlog.kinds 14=dlog.firsts 15=dlog.seconds 16=dlog.changes 17=pres 18=pres.keyHouses 19=pres.keyLocks 20=pres.places 21=pres.holders 22=pres.passed 23=pres.changes 24=pres.trusts 25=pres.reach 26=scan 27=scan.signs 28=way 29=way.byLooking 30=way.byEntering 31=way.stood 32=way.queue 33=plan 34=plan.hostile 35=plan.holds 36=plan.needs 37=plan.takers 38=plan.offers 39=plan.room 40=plan.given 41=fc 42=stA 43=stA.costs 44=stA.homes 45=stA.answers 46=stB 47=stB.costs 48=stB.homes 49=stB.answers 50=mo 51=mo.came 52=mo.sizes 53=mo.rows 54=mo.copied 55=mo.textSizes 56=mo.bytes 57=mo.costs 58=mo.homes 59=mo.answers 60=mo.readCosts 61=mo.readHomes 62=mo.readAnswers 63=mo.events 64=mo.readEvent 65=mo.keyHouse 66=mo.keyLock 67=mo.keyWhere 68=mo.keyBy 69=mo.keyPassed 70=mo.keyOf 71=mo.locks 72=mo.trusts 73=mo.live 74=mo.pots 75=mo.insides 76=mo.minute 77=mo.queue 78=mo.wokenKeys 79=mo.lacks 80=mo.mayGet 81=mo.gets
def FL (own : String) (idx ci k : Nat) : Prop := ∃ (C : String) (T : u_T) (N : Nat), vwCl[ci]? = some (C, T, N) ∧ k < N ∧ Cond.fieldLink own idx C (T k).2.1 (T k).2.2.1 ∈ gt_ ∧ (T k).1 = C
def FP (own : String) (idx ci k : Nat) (ty : FieldType) : Prop := ∃ (C : String) (T : u_T) (N : Nat), vwCl[ci]? = some (C, T, N) ∧ k < N ∧ Cond.fieldLink own idx C (T k).2.1 (T k).2.2.1 ∈ gt_ ∧ (T k).1 = C ∧ (T k).2.2.2 = false ∧ parseFieldDescriptor (T k).2.2.1 = some ty
theorem fX4_9 : FL RX4 9 4 0 := ⟨_, _, _, rfl, by decide, gt_mem (i := 118) (by decide +kernel) rfl, rfl⟩
theorem fX7_333 : FL RX7 333 4 0 := ⟨_, _, _, rfl, by decide, gt_mem (i := 119) (by decide +kernel) rfl, rfl⟩
theorem fX4_15 : FL RX4 15 4 1 := ⟨_, _, _, rfl, by decide, gt_mem (i := 120) (by decide +kernel) rfl, rfl⟩
theorem fX4_19 : FL RX4 19 4 2 := ⟨_, _, _, rfl, by decide, gt_mem (i := 121) (by decide +kernel) rfl, rfl⟩
theorem fX2_40 : FL RX2 40 0 0 := ⟨_, _, _, rfl, by decide, gt_mem (i := 136) (by decide +kernel) rfl, rfl⟩
theorem fX0_24 : FL RX0 24 0 0 := ⟨_, _, _, rfl, by decide, gt_mem (i := 137) (by decide +kernel) rfl, rfl⟩
theorem fpX0_24 : FP RX0 24 0 0 .int := ⟨_, _, _, rfl, by decide, gt_mem (i := 137) (by decide +kernel) rfl, rfl, rfl, by decide +kernel⟩
theorem fX3_101 : FL RX3 101 0 0 := ⟨_, _, _, rfl, by decide, gt_mem (i := 138) (by decide +kernel) rfl, rfl⟩
theorem fX7_159 : FL RX7 159 0 0 := ⟨_, _, _, rfl, by decide, gt_mem (i := 139) (by decide +kernel) rfl, rfl⟩
theorem fX0_9 : FL RX0 9 0 1 := ⟨_, _, _, rfl, by decide, gt_mem (i := 140) (by decide +kernel) rfl, rfl⟩
theorem fX2_45 : FL RX2 45 0 1 := ⟨_, _, _, rfl, by decide, gt_mem (i := 141) (by decide +kernel) rfl, rfl⟩
theorem fX7_179 : FL RX7 179 0 1 := ⟨_, _, _, rfl, by decide, gt_mem (i := 142) (by decide +kernel) rfl, rfl⟩
theorem fX0_15 : FL RX0 15 0 2 := ⟨_, _, _, rfl, by decide, gt_mem (i := 143) (by decide +kernel) rfl, rfl⟩
theorem fX2_48 : FL RX2 48 0 2 := ⟨_, _, _, rfl, by decide, gt_mem (i := 144) (by decide +kernel) rfl, rfl⟩
theorem fX7_192 : FL RX7 192 0 2 := ⟨_, _, _, rfl, by decide, gt_mem (i := 145) (by decide +kernel) rfl, rfl⟩
theorem fX0_18 : FL RX0 18 0 3 := ⟨_, _, _, rfl, by decide, gt_mem (i := 146) (by decide +kernel) rfl, rfl⟩
theorem fX2_51 : FL RX2 51 0 3 := ⟨_, _, _, rfl, by decide, gt_mem (i := 147) (by decide +kernel) rfl, rfl⟩
theorem fX7_189 : FL RX7 189 0 3 := ⟨_, _, _, rfl, by decide, gt_mem (i := 148) (by decide +kernel) rfl, rfl⟩
theorem fX0_21 : FL RX0 21 0 4 := ⟨_, _, _, rfl, by decide, gt_mem (i := 149) (by decide +kernel) rfl, rfl⟩
theorem fX2_54 : FL RX2 54 0 4 := ⟨_, _, _, rfl, by decide, gt_mem (i := 150) (by decide +kernel) rfl, rfl⟩
theorem fX2_36 : FL RX2 36 2 0 := ⟨_, _, _, rfl, by decide, gt_mem (i := 168) (by decide +kernel) rfl, rfl⟩
theorem fpX2_36 : FP RX2 36 2 0 .int := ⟨_, _, _, rfl, by decide, gt_mem (i := 168) (by decide +kernel) rfl, rfl, rfl, by decide +kernel⟩
theorem fX7_168 : FL RX7 168 2 0 := ⟨_, _, _, rfl, by decide, gt_mem (i := 169) (by decide +kernel) rfl, rfl⟩
theorem fX2_9 : FL RX2 9 2 1 := ⟨_, _, _, rfl, by decide, gt_mem (i := 170) (by decide +kernel) rfl, rfl⟩
theorem fX7_286 : FL RX7 286 2 1 := ⟨_, _, _, rfl, by decide, gt_mem (i := 171) (by decide +kernel) rfl, rfl⟩
theorem fX2_15 : FL RX2 15 2 2 := ⟨_, _, _, rfl, by decide, gt_mem (i := 172) (by decide +kernel) rfl, rfl⟩
theorem fX2_18 : FL RX2 18 2 3 := ⟨_, _, _, rfl, by decide, gt_mem (i := 173) (by decide +kernel) rfl, rfl⟩
theorem fX7_292 : FL RX7 292 2 3 := ⟨_, _, _, rfl, by decide, gt_mem (i := 174) (by decide +kernel) rfl, rfl⟩
theorem fX2_21 : FL RX2 21 2 4 := ⟨_, _, _, rfl, by decide, gt_mem (i := 175) (by decide +kernel) rfl, rfl⟩
theorem fX7_295 : FL RX7 295 2 4 := ⟨_, _, _, rfl, by decide, gt_mem (i := 176) (by decide +kernel) rfl, rfl⟩
theorem fX2_24 : FL RX2 24 2 5 := ⟨_, _, _, rfl, by decide, gt_mem (i := 177) (by decide +kernel) rfl, rfl⟩
theorem fX2_27 : FL RX2 27 2 6 := ⟨_, _, _, rfl, by decide, gt_mem (i := 178) (by decide +kernel) rfl, rfl⟩
theorem fX2_30 : FL RX2 30 2 7 := ⟨_, _, _, rfl, by decide, gt_mem (i := 179) (by decide +kernel) rfl, rfl⟩
theorem fX2_33 : FL RX2 33 2 8 := ⟨_, _, _, rfl, by decide, gt_mem (i := 180) (by decide +kernel) rfl, rfl⟩
theorem fX3_9 : FL RX3 9 3 0 := ⟨_, _, _, rfl, by decide, gt_mem (i := 206) (by decide +kernel) rfl, rfl⟩
theorem fX3_34 : FL RX3 34 3 1 := ⟨_, _, _, rfl, by decide, gt_mem (i := 207) (by decide +kernel) rfl, rfl⟩
theorem fpX3_34 : FP RX3 34 3 1 .int := ⟨_, _, _, rfl, by decide, gt_mem (i := 207) (by decide +kernel) rfl, rfl, rfl, by decide +kernel⟩
theorem fX3_40 : FL RX3 40 3 2 := ⟨_, _, _, rfl, by decide, gt_mem (i := 208) (by decide +kernel) rfl, rfl⟩
theorem fpX3_40 : FP RX3 40 3 2 .int := ⟨_, _, _, rfl, by decide, gt_mem (i := 208) (by decide +kernel) rfl, rfl, rfl, by decide +kernel⟩
theorem fX3_15 : FL RX3 15 3 3 := ⟨_, _, _, rfl, by decide, gt_mem (i := 209) (by decide +kernel) rfl, rfl⟩
theorem fpX3_15 : FP RX3 15 3 3 .int := ⟨_, _, _, rfl, by decide, gt_mem (i := 209) (by decide +kernel) rfl, rfl, rfl, by decide +kernel⟩
theorem fX7_344 : FL RX7 344 3 3 := ⟨_, _, _, rfl, by decide, gt_mem (i := 210) (by decide +kernel) rfl, rfl⟩
theorem fX6_24 : FL RX6 24 6 0 := ⟨_, _, _, rfl, by decide, gt_mem (i := 226) (by decide +kernel) rfl, rfl⟩
theorem fpX6_24 : FP RX6 24 6 0 .int := ⟨_, _, _, rfl, by decide, gt_mem (i := 226) (by decide +kernel) rfl, rfl, rfl, by decide +kernel⟩
theorem fX6_28 : FL RX6 28 6 1 := ⟨_, _, _, rfl, by decide, gt_mem (i := 227) (by decide +kernel) rfl, rfl⟩
theorem fpX6_28 : FP RX6 28 6 1 .int := ⟨_, _, _, rfl, by decide, gt_mem (i := 227) (by decide +kernel) rfl, rfl, rfl, by decide +kernel⟩
theorem fX6_31 : FL RX6 31 6 2 := ⟨_, _, _, rfl, by decide, gt_mem (i := 228) (by decide +kernel) rfl, rfl⟩
theorem fpX6_31 : FP RX6 31 6 2 .int := ⟨_, _, _, rfl, by decide, gt_mem (i := 228) (by decide +kernel) rfl, rfl, rfl, by decide +kernel⟩
theorem fX6_37 : FL RX6 37 6 3 := ⟨_, _, _, rfl, by decide, gt_mem (i := 229) (by decide +kernel) rfl, rfl⟩
theorem fpX6_37 : FP RX6 37 6 3 .int := ⟨_, _, _, rfl, by decide, gt_mem (i := 229) (by decide +kernel) rfl, rfl, rfl, by decide +kernel⟩
theorem fX6_34 : FL RX6 34 6 4 := ⟨_, _, _, rfl, by decide, gt_mem (i := 230) (by decide +kernel) rfl, rfl⟩
theorem fpX6_34 : FP RX6 34 6 4 .int := ⟨_, _, _, rfl, by decide, gt_mem (i := 230) (by decide +kernel) rfl, rfl, rfl, by decide +kernel⟩
theorem fX6_9 : FL RX6 9 6 5 := ⟨_, _, _, rfl, by decide, gt_mem (i := 231) (by decide +kernel) rfl, rfl⟩
theorem fX6_15 : FL RX6 15 6 6 := ⟨_, _, _, rfl, by decide, gt_mem (i := 232) (by decide +kernel) rfl, rfl⟩
theorem fX6_18 : FL RX6 18 6 7 := ⟨_, _, _, rfl, by decide, gt_mem (i := 233) (by decide +kernel) rfl, rfl⟩
theorem fX6_21 : FL RX6 21 6 8 := ⟨_, _, _, rfl, by decide, gt_mem (i := 234) (by decide +kernel) rfl, rfl⟩
theorem fX1_9 : FL RX1 9 1 0 := ⟨_, _, _, rfl, by decide, gt_mem (i := 260) (by decide +kernel) rfl, rfl⟩
theorem fX1_15 : FL RX1 15 1 1 := ⟨_, _, _, rfl, by decide, gt_mem (i := 261) (by decide +kernel) rfl, rfl⟩
theorem fX1_18 : FL RX1 18 1 2 := ⟨_, _, _, rfl, by decide, gt_mem (i := 262) (by decide +kernel) rfl, rfl⟩
theorem fX1_21 : FL RX1 21 1 3 := ⟨_, _, _, rfl, by decide, gt_mem (i := 263) (by decide +kernel) rfl, rfl⟩
theorem fX1_24 : FL RX1 24 1 4 := ⟨_, _, _, rfl, by decide, gt_mem (i := 264) (by decide +kernel) rfl, rfl⟩
theorem fX1_27 : FL RX1 27 1 5 := ⟨_, _, _, rfl, by decide, gt_mem (i := 265) (by decide +kernel) rfl, rfl⟩
theorem fX1_30 : FL RX1 30 1 6 := ⟨_, _, _, rfl, by decide, gt_mem (i := 266) (by decide +kernel) rfl, rfl⟩
theorem fX7_277 : FL RX7 277 1 6 := ⟨_, _, _, rfl, by decide, gt_mem (i := 267) (by decide +kernel) rfl, rfl⟩
theorem fX5_21 : FL RX5 21 5 0 := ⟨_, _, _, rfl, by decide, gt_mem (i := 289) (by decide +kernel) rfl, rfl⟩
theorem fpX5_21 : FP RX5 21 5 0 .int := ⟨_, _, _, rfl, by decide, gt_mem (i := 289) (by decide +kernel) rfl, rfl, rfl, by decide +kernel⟩
theorem fX3_56 : FL RX3 56 5 0 := ⟨_, _, _, rfl, by decide, gt_mem (i := 290) (by decide +kernel) rfl, rfl⟩
theorem fX7_153 : FL RX7 153 5 0 := ⟨_, _, _, rfl, by decide, gt_mem (i := 291) (by decide +kernel) rfl, rfl⟩
theorem fX5_25 : FL RX5 25 5 1 := ⟨_, _, _, rfl, by decide, gt_mem (i := 292) (by decide +kernel) rfl, rfl⟩
theorem fpX5_25 : FP RX5 25 5 1 .int := ⟨_, _, _, rfl, by decide, gt_mem (i := 292) (by decide +kernel) rfl, rfl, rfl, by decide +kernel⟩
theorem fX1_33 : FL RX1 33 5 1 := ⟨_, _, _, rfl, by decide, gt_mem (i := 293) (by decide +kernel) rfl, rfl⟩
theorem fX3_63 : FL RX3 63 5 1 := ⟨_, _, _, rfl, by decide, gt_mem (i := 294) (by decide +kernel) rfl, rfl⟩
theorem fX7_226 : FL RX7 226 5 1 := ⟨_, _, _, rfl, by decide, gt_mem (i := 295) (by decide +kernel) rfl, rfl⟩
theorem fX5_9 : FL RX5 9 5 2 := ⟨_, _, _, rfl, by decide, gt_mem (i := 296) (by decide +kernel) rfl, rfl⟩
theorem fX5_15 : FL RX5 15 5 3 := ⟨_, _, _, rfl, by decide, gt_mem (i := 297) (by decide +kernel) rfl, rfl⟩
theorem fX5_18 : FL RX5 18 5 4 := ⟨_, _, _, rfl, by decide, gt_mem (i := 298) (by decide +kernel) rfl, rfl⟩
theorem fX7_14 : FL RX7 14 7 0 := ⟨_, _, _, rfl, by decide, gt_mem (i := 310) (by decide +kernel) rfl, rfl⟩
theorem fX7_18 : FL RX7 18 7 1 := ⟨_, _, _, rfl, by decide, gt_mem (i := 311) (by decide +kernel) rfl, rfl⟩
theorem fX7_24 : FL RX7 24 7 2 := ⟨_, _, _, rfl, by decide, gt_mem (i := 312) (by decide +kernel) rfl, rfl⟩
theorem fX7_28 : FL RX7 28 7 3 := ⟨_, _, _, rfl, by decide, gt_mem (i := 313) (by decide +kernel) rfl, rfl⟩
theorem fX7_34 : FL RX7 34 7 4 := ⟨_, _, _, rfl, by decide, gt_mem (i := 314) (by decide +kernel) rfl, rfl⟩
theorem fX7_41 : FL RX7 41 7 5 := ⟨_, _, _, rfl, by decide, gt_mem (i := 315) (by decide +kernel) rfl, rfl⟩
theorem fX7_48 : FL RX7 48 7 6 := ⟨_, _, _, rfl, by decide, gt_mem (i := 316) (by decide +kernel) rfl, rfl⟩
theorem fX7_55 : FL RX7 55 7 7 := ⟨_, _, _, rfl, by decide, gt_mem (i := 317) (by decide +kernel) rfl, rfl⟩
theorem fX7_59 : FL RX7 59 7 8 := ⟨_, _, _, rfl, by decide, gt_mem (i := 318) (by decide +kernel) rfl, rfl⟩
theorem fX7_66 : FL RX7 66 7 9 := ⟨_, _, _, rfl, by decide, gt_mem (i := 319) (by decide +kernel) rfl, rfl⟩
theorem fpX7_66 : FP RX7 66 7 9 (.object "StreetKeys$Street") := ⟨_, _, _, rfl, by decide, gt_mem (i := 319) (by decide +kernel) rfl, rfl, rfl, by decide +kernel⟩
theorem fX7_70 : FL RX7 70 7 10 := ⟨_, _, _, rfl, by decide, gt_mem (i := 320) (by decide +kernel) rfl, rfl⟩
theorem fpX7_70 : FP RX7 70 7 10 (.object "StreetKeys$Street") := ⟨_, _, _, rfl, by decide, gt_mem (i := 320) (by decide +kernel) rfl, rfl, rfl, by decide +kernel⟩
theorem fX7_73 : FL RX7 73 7 11 := ⟨_, _, _, rfl, by decide, gt_mem (i := 321) (by decide +kernel) rfl, rfl⟩
theorem fpX7_73 : FP RX7 73 7 11 .int := ⟨_, _, _, rfl, by decide, gt_mem (i := 321) (by decide +kernel) rfl, rfl, rfl, by decide +kernel⟩
theorem fX7_77 : FL RX7 77 7 12 := ⟨_, _, _, rfl, by decide, gt_mem (i := 322) (by decide +kernel) rfl, rfl⟩
theorem fpX7_77 : FP RX7 77 7 12 .int := ⟨_, _, _, rfl, by decide, gt_mem (i := 322) (by decide +kernel) rfl, rfl, rfl, by decide +kernel⟩
theorem fX7_80 : FL RX7 80 7 13 := ⟨_, _, _, rfl, by decide, gt_mem (i := 323) (by decide +kernel) rfl, rfl⟩
theorem fpX7_80 : FP RX7 80 7 13 .long := ⟨_, _, _, rfl, by decide, gt_mem (i := 323) (by decide +kernel) rfl, rfl, rfl, by decide +kernel⟩
theorem fX7_84 : FL RX7 84 7 14 := ⟨_, _, _, rfl, by decide, gt_mem (i := 324) (by decide +kernel) rfl, rfl⟩
theorem fpX7_84 : FP RX7 84 7 14 .long := ⟨_, _, _, rfl, by decide, gt_mem (i := 324) (by decide +kernel) rfl, rfl, rfl, by decide +kernel⟩
theorem fX8_108 : FL RX8 108 8 0 := ⟨_, _, _, rfl, by decide, gt_mem (i := 948) (by decide +kernel) rfl, rfl⟩
theorem fpX8_108 : FP RX8 108 8 0 .int := ⟨_, _, _, rfl, by decide, gt_mem (i := 948) (by decide +kernel) rfl, rfl, rfl, by decide +kernel⟩
theorem fX8_7 : FL RX8 7 8 1 := ⟨_, _, _, rfl, by decide, gt_mem (i := 949) (by decide +kernel) rfl, rfl⟩
theorem fX8_116 : FL RX8 116 8 2 := ⟨_, _, _, rfl, by decide, gt_mem (i := 950) (by decide +kernel) rfl, rfl⟩
theorem fpX8_116 : FP RX8 116 8 2 .int := ⟨_, _, _, rfl, by decide, gt_mem (i := 950) (by decide +kernel) rfl, rfl, rfl, by decide +kernel⟩
theorem fX8_119 : FL RX8 119 8 3 := ⟨_, _, _, rfl, by decide, gt_mem (i := 951) (by decide +kernel) rfl, rfl⟩
theorem fpX8_119 : FP RX8 119 8 3 .long := ⟨_, _, _, rfl, by decide, gt_mem (i := 951) (by decide +kernel) rfl, rfl, rfl, by decide +kernel⟩
theorem fX8_104 : FL RX8 104 8 4 := ⟨_, _, _, rfl, by decide, gt_mem (i := 952) (by decide +kernel) rfl, rfl⟩
theorem fpX8_104 : FP RX8 104 8 4 .long := ⟨_, _, _, rfl, by decide, gt_mem (i := 952) (by decide +kernel) rfl, rfl, rfl, by decide +kernel⟩
theorem fX8_13 : FL RX8 13 8 5 := ⟨_, _, _, rfl, by decide, gt_mem (i := 953) (by decide +kernel) rfl, rfl⟩
theorem fX8_16 : FL RX8 16 8 6 := ⟨_, _, _, rfl, by decide, gt_mem (i := 954) (by decide +kernel) rfl, rfl⟩
theorem fX8_19 : FL RX8 19 8 7 := ⟨_, _, _, rfl, by decide, gt_mem (i := 955) (by decide +kernel) rfl, rfl⟩
theorem fX8_22 : FL RX8 22 8 8 := ⟨_, _, _, rfl, by decide, gt_mem (i := 956) (by decide +kernel) rfl, rfl⟩
theorem fX8_25 : FL RX8 25 8 9 := ⟨_, _, _, rfl, by decide, gt_mem (i := 957) (by decide +kernel) rfl, rfl⟩
theorem fX8_180 : FL RX8 180 8 10 := ⟨_, _, _, rfl, by decide, gt_mem (i := 958) (by decide +kernel) rfl, rfl⟩
theorem fpX8_180 : FP RX8 180 8 10 .int := ⟨_, _, _, rfl, by decide, gt_mem (i := 958) (by decide +kernel) rfl, rfl, rfl, by decide +kernel⟩
theorem fX8_183 : FL RX8 183 8 11 := ⟨_, _, _, rfl, by decide, gt_mem (i := 959) (by decide +kernel) rfl, rfl⟩
theorem fpX8_183 : FP RX8 183 8 11 .int := ⟨_, _, _, rfl, by decide, gt_mem (i := 959) (by decide +kernel) rfl, rfl, rfl, by decide +kernel⟩
theorem fX8_29 : FL RX8 29 8 12 := ⟨_, _, _, rfl, by decide, gt_mem (i := 960) (by decide +kernel) rfl, rfl⟩
theorem fX8_32 : FL RX8 32 8 13 := ⟨_, _, _, rfl, by decide, gt_mem (i := 961) (by decide +kernel) rfl, rfl⟩
theorem fX8_35 : FL RX8 35 8 14 := ⟨_, _, _, rfl, by decide, gt_mem (i := 962) (by decide +kernel) rfl, rfl⟩
theorem fX8_140 : FL RX8 140 8 15 := ⟨_, _, _, rfl, by decide, gt_mem (i := 963) (by decide +kernel) rfl, rfl⟩
theorem fpX8_140 : FP RX8 140 8 15 .int := ⟨_, _, _, rfl, by decide, gt_mem (i := 963) (by decide +kernel) rfl, rfl, rfl, by decide +kernel⟩
theorem fX8_146 : FL RX8 146 8 16 := ⟨_, _, _, rfl, by decide, gt_mem (i := 964) (by decide +kernel) rfl, rfl⟩
theorem fpX8_146 : FP RX8 146 8 16 .int := ⟨_, _, _, rfl, by decide, gt_mem (i := 964) (by decide +kernel) rfl, rfl, rfl, by decide +kernel⟩
theorem fX8_149 : FL RX8 149 8 17 := ⟨_, _, _, rfl, by decide, gt_mem (i := 965) (by decide +kernel) rfl, rfl⟩
theorem fpX8_149 : FP RX8 149 8 17 .int := ⟨_, _, _, rfl, by decide, gt_mem (i := 965) (by decide +kernel) rfl, rfl, rfl, by decide +kernel⟩
theorem fX8_156 : FL RX8 156 8 18 := ⟨_, _, _, rfl, by decide, gt_mem (i := 966) (by decide +kernel) rfl, rfl⟩
theorem fpX8_156 : FP RX8 156 8 18 .int := ⟨_, _, _, rfl, by decide, gt_mem (i := 966) (by decide +kernel) rfl, rfl, rfl, by decide +kernel⟩
theorem fX8_38 : FL RX8 38 8 19 := ⟨_, _, _, rfl, by decide, gt_mem (i := 967) (by decide +kernel) rfl, rfl⟩
theorem fX8_41 : FL RX8 41 8 20 := ⟨_, _, _, rfl, by decide, gt_mem (i := 968) (by decide +kernel) rfl, rfl⟩
theorem fX8_44 : FL RX8 44 8 21 := ⟨_, _, _, rfl, by decide, gt_mem (i := 969) (by decide +kernel) rfl, rfl⟩
theorem fX8_186 : FL RX8 186 8 22 := ⟨_, _, _, rfl, by decide, gt_mem (i := 970) (by decide +kernel) rfl, rfl⟩
theorem fpX8_186 : FP RX8 186 8 22 .int := ⟨_, _, _, rfl, by decide, gt_mem (i := 970) (by decide +kernel) rfl, rfl, rfl, by decide +kernel⟩
theorem fX8_47 : FL RX8 47 8 23 := ⟨_, _, _, rfl, by decide, gt_mem (i := 971) (by decide +kernel) rfl, rfl⟩
theorem fX8_174 : FL RX8 174 8 24 := ⟨_, _, _, rfl, by decide, gt_mem (i := 972) (by decide +kernel) rfl, rfl⟩
theorem fpX8_174 : FP RX8 174 8 24 .int := ⟨_, _, _, rfl, by decide, gt_mem (i := 972) (by decide +kernel) rfl, rfl, rfl, by decide +kernel⟩
theorem fX8_177 : FL RX8 177 8 25 := ⟨_, _, _, rfl, by decide, gt_mem (i := 973) (by decide +kernel) rfl, rfl⟩
theorem fpX8_177 : FP RX8 177 8 25 .int := ⟨_, _, _, rfl, by decide, gt_mem (i := 973) (by decide +kernel) rfl, rfl, rfl, by decide +kernel⟩
theorem fX8_50 : FL RX8 50 8 26 := ⟨_, _, _, rfl, by decide, gt_mem (i := 974) (by decide +kernel) rfl, rfl⟩
theorem fX8_189 : FL RX8 189 8 27 := ⟨_, _, _, rfl, by decide, gt_mem (i := 975) (by decide +kernel) rfl, rfl⟩
theorem fpX8_189 : FP RX8 189 8 27 .int := ⟨_, _, _, rfl, by decide, gt_mem (i := 975) (by decide +kernel) rfl, rfl, rfl, by decide +kernel⟩
theorem fX8_53 : FL RX8 53 8 28 := ⟨_, _, _, rfl, by decide, gt_mem (i := 976) (by decide +kernel) rfl, rfl⟩
theorem fX8_56 : FL RX8 56 8 29 := ⟨_, _, _, rfl, by decide, gt_mem (i := 977) (by decide +kernel) rfl, rfl⟩
theorem fX8_59 : FL RX8 59 8 30 := ⟨_, _, _, rfl, by decide, gt_mem (i := 978) (by decide +kernel) rfl, rfl⟩
theorem fX8_62 : FL RX8 62 8 31 := ⟨_, _, _, rfl, by decide, gt_mem (i := 979) (by decide +kernel) rfl, rfl⟩
theorem fX8_65 : FL RX8 65 8 32 := ⟨_, _, _, rfl, by decide, gt_mem (i := 980) (by decide +kernel) rfl, rfl⟩
theorem fX8_68 : FL RX8 68 8 33 := ⟨_, _, _, rfl, by decide, gt_mem (i := 981) (by decide +kernel) rfl, rfl⟩
theorem fX8_71 : FL RX8 71 8 34 := ⟨_, _, _, rfl, by decide, gt_mem (i := 982) (by decide +kernel) rfl, rfl⟩
theorem fX8_74 : FL RX8 74 8 35 := ⟨_, _, _, rfl, by decide, gt_mem (i := 983) (by decide +kernel) rfl, rfl⟩
theorem fX8_77 : FL RX8 77 8 36 := ⟨_, _, _, rfl, by decide, gt_mem (i := 984) (by decide +kernel) rfl, rfl⟩
theorem fX8_80 : FL RX8 80 8 37 := ⟨_, _, _, rfl, by decide, gt_mem (i := 985) (by decide +kernel) rfl, rfl⟩
theorem fX8_83 : FL RX8 83 8 38 := ⟨_, _, _, rfl, by decide, gt_mem (i := 986) (by decide +kernel) rfl, rfl⟩
theorem fX8_220 : FL RX8 220 8 39 := ⟨_, _, _, rfl, by decide, gt_mem (i := 987) (by decide +kernel) rfl, rfl⟩
theorem fpX8_220 : FP RX8 220 8 39 .int := ⟨_, _, _, rfl, by decide, gt_mem (i := 987) (by decide +kernel) rfl, rfl, rfl, by decide +kernel⟩
theorem fX8_86 : FL RX8 86 8 40 := ⟨_, _, _, rfl, by decide, gt_mem (i := 988) (by decide +kernel) rfl, rfl⟩
theorem fX8_89 : FL RX8 89 8 41 := ⟨_, _, _, rfl, by decide, gt_mem (i := 989) (by decide +kernel) rfl, rfl⟩
theorem fX8_283 : FL RX8 283 8 42 := ⟨_, _, _, rfl, by decide, gt_mem (i := 990) (by decide +kernel) rfl, rfl⟩
theorem fpX8_283 : FP RX8 283 8 42 .int := ⟨_, _, _, rfl, by decide, gt_mem (i := 990) (by decide +kernel) rfl, rfl, rfl, by decide +kernel⟩
theorem fX8_92 : FL RX8 92 8 43 := ⟨_, _, _, rfl, by decide, gt_mem (i := 991) (by decide +kernel) rfl, rfl⟩
theorem fX8_280 : FL RX8 280 8 44 := ⟨_, _, _, rfl, by decide, gt_mem (i := 992) (by decide +kernel) rfl, rfl⟩
theorem fpX8_280 : FP RX8 280 8 44 .int := ⟨_, _, _, rfl, by decide, gt_mem (i := 992) (by decide +kernel) rfl, rfl, rfl, by decide +kernel⟩
theorem fX8_277 : FL RX8 277 8 45 := ⟨_, _, _, rfl, by decide, gt_mem (i := 993) (by decide +kernel) rfl, rfl⟩
theorem fpX8_277 : FP RX8 277 8 45 .int := ⟨_, _, _, rfl, by decide, gt_mem (i := 993) (by decide +kernel) rfl, rfl, rfl, by decide +kernel⟩
theorem fX8_95 : FL RX8 95 8 46 := ⟨_, _, _, rfl, by decide, gt_mem (i := 994) (by decide +kernel) rfl, rfl⟩
theorem fX8_98 : FL RX8 98 8 47 := ⟨_, _, _, rfl, by decide, gt_mem (i := 995) (by decide +kernel) rfl, rfl⟩
theorem fX8_101 : FL RX8 101 8 48 := ⟨_, _, _, rfl, by decide, gt_mem (i := 996) (by decide +kernel) rfl, rfl⟩
theorem fX8_337 : FL RX8 337 8 49 := ⟨_, _, _, rfl, by decide, gt_mem (i := 997) (by decide +kernel) rfl, rfl⟩
theorem fpX8_337 : FP RX8 337 8 49 .long := ⟨_, _, _, rfl, by decide, gt_mem (i := 997) (by decide +kernel) rfl, rfl, rfl, by decide +kernel⟩
/-- what a virtual call of N's method by the link idx of the class own rests on -/
def KV (N : MRec) (n : Nat) : Prop := Cond.instanceMethod (mY N) ∈ gt_ ∧ Cond.selects (mY N).cls (mY N) (mY N) ∈ gt_ ∧ Cond.code (mY N) (mC N) (mL N) (mT N) ∈ gt_ ∧ Cond.initialized (mY N).cls ∈ gt_ ∧ ((mY N).cls ≠ "java/lang/invoke/MethodHandle" ∧ (mY N).cls ≠ "java/lang/invoke/VarHandle") ∧ (parseMethodDescriptor (mY N).desc).map (fun d => d.parameters.length) = some n
def KS (N : MRec) (n : Nat) : Prop := Cond.static (mY N) ∈ gt_ ∧ Cond.code (mY N) (mC N) (mL N) (mT N) ∈ gt_ ∧ Cond.initialized (mY N).cls ∈ gt_ ∧ ((mY N).cls ≠ "java/lang/invoke/MethodHandle" ∧ (mY N).cls ≠ "java/lang/invoke/VarHandle") ∧ (parseMethodDescriptor (mY N).desc).map (fun d => d.parameters.length) = some n
theorem ksJ6_bitCount_0f7a4 : KS nJ6_bitCount_0f7a4 1 := ⟨gt_mem (i := 836) (by decide +kernel) rfl, gt_mem (i := 837) (by decide +kernel) rfl, gt_mem (i := 103) (by decide +kernel) rfl, ⟨by decide +kernel, by decide +kernel⟩, by decide +kernel⟩
theorem ksJ9_max_7cf53 : KS nJ9_max_7cf53 2 := ⟨gt_mem (i := 469) (by decide +kernel) rfl, gt_mem (i := 470) (by decide +kernel) rfl, gt_mem (i := 102) (by decide +kernel) rfl, ⟨by decide +kernel, by decide +kernel⟩, by decide +kernel⟩
theorem ksJ9_min_7cf53 : KS nJ9_min_7cf53 2 := ⟨gt_mem (i := 472) (by decide +kernel) rfl, gt_mem (i := 473) (by decide +kernel) rfl, gt_mem (i := 102) (by decide +kernel) rfl, ⟨by decide +kernel, by decide +kernel⟩, by decide +kernel⟩
theorem kvX0_add : KV nX0_add 4 := ⟨gt_mem (i := 521) (by decide +kernel) rfl, gt_mem (i := 522) (by decide +kernel) rfl, gt_mem (i := 523) (by decide +kernel) rfl, gt_mem (i := 94) (by decide +kernel) rfl, ⟨by decide +kernel, by decide +kernel⟩, by decide +kernel⟩
theorem kvX0_addAll : KV nX0_addAll 1 := ⟨gt_mem (i := 614) (by decide +kernel) rfl, gt_mem (i := 615) (by decide +kernel) rfl, gt_mem (i := 616) (by decide +kernel) rfl, gt_mem (i := 94) (by decide +kernel) rfl, ⟨by decide +kernel, by decide +kernel⟩, by decide +kernel⟩
theorem kvX0_cutTo : KV nX0_cutTo 1 := ⟨gt_mem (i := 480) (by decide +kernel) rfl, gt_mem (i := 481) (by decide +kernel) rfl, gt_mem (i := 482) (by decide +kernel) rfl, gt_mem (i := 94) (by decide +kernel) rfl, ⟨by decide +kernel, by decide +kernel⟩, by decide +kernel⟩
theorem kvX0_detail : KV nX0_detail 2 := ⟨gt_mem (i := 650) (by decide +kernel) rfl, gt_mem (i := 651) (by decide +kernel) rfl, gt_mem (i := 652) (by decide +kernel) rfl, gt_mem (i := 94) (by decide +kernel) rfl, ⟨by decide +kernel, by decide +kernel⟩, by decide +kernel⟩
theorem ksX0_isOfKind : KS nX0_isOfKind 2 := ⟨gt_mem (i := 659) (by decide +kernel) rfl, gt_mem (i := 660) (by decide +kernel) rfl, gt_mem (i := 94) (by decide +kernel) rfl, ⟨by decide +kernel, by decide +kernel⟩, by decide +kernel⟩
theorem kvX0_keysBefore : KV nX0_keysBefore 1 := ⟨gt_mem (i := 662) (by decide +kernel) rfl, gt_mem (i := 663) (by decide +kernel) rfl, gt_mem (i := 664) (by decide +kernel) rfl, gt_mem (i := 94) (by decide +kernel) rfl, ⟨by decide +kernel, by decide +kernel⟩, by decide +kernel⟩
theorem kvX0_knows : KV nX0_knows 1 := ⟨gt_mem (i := 646) (by decide +kernel) rfl, gt_mem (i := 647) (by decide +kernel) rfl, gt_mem (i := 648) (by decide +kernel) rfl, gt_mem (i := 94) (by decide +kernel) rfl, ⟨by decide +kernel, by decide +kernel⟩, by decide +kernel⟩
theorem ksX0_makesKey : KS nX0_makesKey 1 := ⟨gt_mem (i := 495) (by decide +kernel) rfl, gt_mem (i := 496) (by decide +kernel) rfl, gt_mem (i := 94) (by decide +kernel) rfl, ⟨by decide +kernel, by decide +kernel⟩, by decide +kernel⟩
theorem kvX1_canGoOn : KV nX1_canGoOn 1 := ⟨gt_mem (i := 848) (by decide +kernel) rfl, gt_mem (i := 37) (by decide +kernel) rfl, gt_mem (i := 849) (by decide +kernel) rfl, gt_mem (i := 98) (by decide +kernel) rfl, ⟨by decide +kernel, by decide +kernel⟩, by decide +kernel⟩
theorem kvX1_changeRoom : KV nX1_changeRoom 2 := ⟨gt_mem (i := 861) (by decide +kernel) rfl, gt_mem (i := 40) (by decide +kernel) rfl, gt_mem (i := 862) (by decide +kernel) rfl, gt_mem (i := 98) (by decide +kernel) rfl, ⟨by decide +kernel, by decide +kernel⟩, by decide +kernel⟩
theorem kvX1_findHostile : KV nX1_findHostile 4 := ⟨gt_mem (i := 827) (by decide +kernel) rfl, gt_mem (i := 35) (by decide +kernel) rfl, gt_mem (i := 828) (by decide +kernel) rfl, gt_mem (i := 98) (by decide +kernel) rfl, ⟨by decide +kernel, by decide +kernel⟩, by decide +kernel⟩
theorem kvX1_findNeed : KV nX1_findNeed 3 := ⟨gt_mem (i := 832) (by decide +kernel) rfl, gt_mem (i := 36) (by decide +kernel) rfl, gt_mem (i := 833) (by decide +kernel) rfl, gt_mem (i := 98) (by decide +kernel) rfl, ⟨by decide +kernel, by decide +kernel⟩, by decide +kernel⟩
theorem kvX1_giveFirst : KV nX1_giveFirst 1 := ⟨gt_mem (i := 853) (by decide +kernel) rfl, gt_mem (i := 38) (by decide +kernel) rfl, gt_mem (i := 854) (by decide +kernel) rfl, gt_mem (i := 98) (by decide +kernel) rfl, ⟨by decide +kernel, by decide +kernel⟩, by decide +kernel⟩
theorem kvX1_haveRoom : KV nX1_haveRoom 1 := ⟨gt_mem (i := 857) (by decide +kernel) rfl, gt_mem (i := 39) (by decide +kernel) rfl, gt_mem (i := 858) (by decide +kernel) rfl, gt_mem (i := 98) (by decide +kernel) rfl, ⟨by decide +kernel, by decide +kernel⟩, by decide +kernel⟩
theorem kvX1_isFound : KV nX1_isFound 0 := ⟨gt_mem (i := 843) (by decide +kernel) rfl, gt_mem (i := 844) (by decide +kernel) rfl, gt_mem (i := 845) (by decide +kernel) rfl, gt_mem (i := 98) (by decide +kernel) rfl, ⟨by decide +kernel, by decide +kernel⟩, by decide +kernel⟩
theorem ksX1_isPlace : KS nX1_isPlace 1 := ⟨gt_mem (i := 822) (by decide +kernel) rfl, gt_mem (i := 823) (by decide +kernel) rfl, gt_mem (i := 98) (by decide +kernel) rfl, ⟨by decide +kernel, by decide +kernel⟩, by decide +kernel⟩
theorem kvX1_prepare : KV nX1_prepare 4 := ⟨gt_mem (i := 817) (by decide +kernel) rfl, gt_mem (i := 818) (by decide +kernel) rfl, gt_mem (i := 819) (by decide +kernel) rfl, gt_mem (i := 98) (by decide +kernel) rfl, ⟨by decide +kernel, by decide +kernel⟩, by decide +kernel⟩
theorem kvX1_size : KV nX1_size 0 := ⟨gt_mem (i := 864) (by decide +kernel) rfl, gt_mem (i := 865) (by decide +kernel) rfl, gt_mem (i := 866) (by decide +kernel) rfl, gt_mem (i := 98) (by decide +kernel) rfl, ⟨by decide +kernel, by decide +kernel⟩, by decide +kernel⟩
theorem kvX2_addKey : KV nX2_addKey 3 := ⟨gt_mem (i := 571) (by decide +kernel) rfl, gt_mem (i := 17) (by decide +kernel) rfl, gt_mem (i := 572) (by decide +kernel) rfl, gt_mem (i := 95) (by decide +kernel) rfl, ⟨by decide +kernel, by decide +kernel⟩, by decide +kernel⟩
theorem kvX2_apply : KV nX2_apply 4 := ⟨gt_mem (i := 563) (by decide +kernel) rfl, gt_mem (i := 16) (by decide +kernel) rfl, gt_mem (i := 564) (by decide +kernel) rfl, gt_mem (i := 95) (by decide +kernel) rfl, ⟨by decide +kernel, by decide +kernel⟩, by decide +kernel⟩
theorem ksX2_arePersons : KS nX2_arePersons 2 := ⟨gt_mem (i := 586) (by decide +kernel) rfl, gt_mem (i := 587) (by decide +kernel) rfl, gt_mem (i := 95) (by decide +kernel) rfl, ⟨by decide +kernel, by decide +kernel⟩, by decide +kernel⟩
theorem kvX2_bring : KV nX2_bring 3 := ⟨gt_mem (i := 575) (by decide +kernel) rfl, gt_mem (i := 18) (by decide +kernel) rfl, gt_mem (i := 576) (by decide +kernel) rfl, gt_mem (i := 95) (by decide +kernel) rfl, ⟨by decide +kernel, by decide +kernel⟩, by decide +kernel⟩
theorem kvX2_changeTrust : KV nX2_changeTrust 3 := ⟨gt_mem (i := 583) (by decide +kernel) rfl, gt_mem (i := 19) (by decide +kernel) rfl, gt_mem (i := 584) (by decide +kernel) rfl, gt_mem (i := 95) (by decide +kernel) rfl, ⟨by decide +kernel, by decide +kernel⟩, by decide +kernel⟩
theorem kvX2_changesOf : KV nX2_changesOf 1 := ⟨gt_mem (i := 566) (by decide +kernel) rfl, gt_mem (i := 567) (by decide +kernel) rfl, gt_mem (i := 568) (by decide +kernel) rfl, gt_mem (i := 95) (by decide +kernel) rfl, ⟨by decide +kernel, by decide +kernel⟩, by decide +kernel⟩
theorem kvX2_comesFrom : KV nX2_comesFrom 1 := ⟨gt_mem (i := 734) (by decide +kernel) rfl, gt_mem (i := 735) (by decide +kernel) rfl, gt_mem (i := 736) (by decide +kernel) rfl, gt_mem (i := 95) (by decide +kernel) rfl, ⟨by decide +kernel, by decide +kernel⟩, by decide +kernel⟩
theorem kvX2_isKey : KV nX2_isKey 1 := ⟨gt_mem (i := 578) (by decide +kernel) rfl, gt_mem (i := 579) (by decide +kernel) rfl, gt_mem (i := 580) (by decide +kernel) rfl, gt_mem (i := 95) (by decide +kernel) rfl, ⟨by decide +kernel, by decide +kernel⟩, by decide +kernel⟩
theorem kvX2_isLive : KV nX2_isLive 1 := ⟨gt_mem (i := 603) (by decide +kernel) rfl, gt_mem (i := 604) (by decide +kernel) rfl, gt_mem (i := 605) (by decide +kernel) rfl, gt_mem (i := 95) (by decide +kernel) rfl, ⟨by decide +kernel, by decide +kernel⟩, by decide +kernel⟩
theorem kvX2_keyDetail : KV nX2_keyDetail 2 := ⟨gt_mem (i := 712) (by decide +kernel) rfl, gt_mem (i := 713) (by decide +kernel) rfl, gt_mem (i := 714) (by decide +kernel) rfl, gt_mem (i := 95) (by decide +kernel) rfl, ⟨by decide +kernel, by decide +kernel⟩, by decide +kernel⟩
theorem kvX2_keysHeldBy : KV nX2_keysHeldBy 1 := ⟨gt_mem (i := 704) (by decide +kernel) rfl, gt_mem (i := 705) (by decide +kernel) rfl, gt_mem (i := 706) (by decide +kernel) rfl, gt_mem (i := 95) (by decide +kernel) rfl, ⟨by decide +kernel, by decide +kernel⟩, by decide +kernel⟩
theorem kvX2_liveKeys : KV nX2_liveKeys 0 := ⟨gt_mem (i := 910) (by decide +kernel) rfl, gt_mem (i := 911) (by decide +kernel) rfl, gt_mem (i := 912) (by decide +kernel) rfl, gt_mem (i := 95) (by decide +kernel) rfl, ⟨by decide +kernel, by decide +kernel⟩, by decide +kernel⟩
theorem kvX2_liveKeysOf : KV nX2_liveKeysOf 1 := ⟨gt_mem (i := 680) (by decide +kernel) rfl, gt_mem (i := 681) (by decide +kernel) rfl, gt_mem (i := 682) (by decide +kernel) rfl, gt_mem (i := 95) (by decide +kernel) rfl, ⟨by decide +kernel, by decide +kernel⟩, by decide +kernel⟩
theorem kvX2_opens : KV nX2_opens 2 := ⟨gt_mem (i := 599) (by decide +kernel) rfl, gt_mem (i := 600) (by decide +kernel) rfl, gt_mem (i := 601) (by decide +kernel) rfl, gt_mem (i := 95) (by decide +kernel) rfl, ⟨by decide +kernel, by decide +kernel⟩, by decide +kernel⟩
theorem kvX2_passedOpens : KV nX2_passedOpens 1 := ⟨gt_mem (i := 872) (by decide +kernel) rfl, gt_mem (i := 873) (by decide +kernel) rfl, gt_mem (i := 874) (by decide +kernel) rfl, gt_mem (i := 95) (by decide +kernel) rfl, ⟨by decide +kernel, by decide +kernel⟩, by decide +kernel⟩
theorem kvX2_replay : KV nX2_replay 1 := ⟨gt_mem (i := 558) (by decide +kernel) rfl, gt_mem (i := 559) (by decide +kernel) rfl, gt_mem (i := 560) (by decide +kernel) rfl, gt_mem (i := 95) (by decide +kernel) rfl, ⟨by decide +kernel, by decide +kernel⟩, by decide +kernel⟩
theorem kvX2_settleReach : KV nX2_settleReach 0 := ⟨gt_mem (i := 596) (by decide +kernel) rfl, gt_mem (i := 20) (by decide +kernel) rfl, gt_mem (i := 597) (by decide +kernel) rfl, gt_mem (i := 95) (by decide +kernel) rfl, ⟨by decide +kernel, by decide +kernel⟩, by decide +kernel⟩
theorem kvX2_trustOf : KV nX2_trustOf 2 := ⟨gt_mem (i := 589) (by decide +kernel) rfl, gt_mem (i := 590) (by decide +kernel) rfl, gt_mem (i := 591) (by decide +kernel) rfl, gt_mem (i := 95) (by decide +kernel) rfl, ⟨by decide +kernel, by decide +kernel⟩, by decide +kernel⟩
theorem kvX3_begin : KV nX3_begin 2 := ⟨gt_mem (i := 464) (by decide +kernel) rfl, gt_mem (i := 465) (by decide +kernel) rfl, gt_mem (i := 466) (by decide +kernel) rfl, gt_mem (i := 96) (by decide +kernel) rfl, ⟨by decide +kernel, by decide +kernel⟩, by decide +kernel⟩
theorem kvX3_expect : KV nX3_expect 1 := ⟨gt_mem (i := 518) (by decide +kernel) rfl, gt_mem (i := 12) (by decide +kernel) rfl, gt_mem (i := 519) (by decide +kernel) rfl, gt_mem (i := 96) (by decide +kernel) rfl, ⟨by decide +kernel, by decide +kernel⟩, by decide +kernel⟩
theorem kvX3_figure : KV nX3_figure 1 := ⟨gt_mem (i := 507) (by decide +kernel) rfl, gt_mem (i := 10) (by decide +kernel) rfl, gt_mem (i := 508) (by decide +kernel) rfl, gt_mem (i := 96) (by decide +kernel) rfl, ⟨by decide +kernel, by decide +kernel⟩, by decide +kernel⟩
theorem ksX3_joint : KS nX3_joint 1 := ⟨gt_mem (i := 514) (by decide +kernel) rfl, gt_mem (i := 515) (by decide +kernel) rfl, gt_mem (i := 96) (by decide +kernel) rfl, ⟨by decide +kernel, by decide +kernel⟩, by decide +kernel⟩
theorem ksX3_kindOf : KS nX3_kindOf 1 := ⟨gt_mem (i := 492) (by decide +kernel) rfl, gt_mem (i := 493) (by decide +kernel) rfl, gt_mem (i := 96) (by decide +kernel) rfl, ⟨by decide +kernel, by decide +kernel⟩, by decide +kernel⟩
theorem kvX3_number : KV nX3_number 1 := ⟨gt_mem (i := 511) (by decide +kernel) rfl, gt_mem (i := 11) (by decide +kernel) rfl, gt_mem (i := 512) (by decide +kernel) rfl, gt_mem (i := 96) (by decide +kernel) rfl, ⟨by decide +kernel, by decide +kernel⟩, by decide +kernel⟩
theorem kvX3_readEvent : KV nX3_readEvent 4 := ⟨gt_mem (i := 503) (by decide +kernel) rfl, gt_mem (i := 9) (by decide +kernel) rfl, gt_mem (i := 504) (by decide +kernel) rfl, gt_mem (i := 96) (by decide +kernel) rfl, ⟨by decide +kernel, by decide +kernel⟩, by decide +kernel⟩
theorem kvX3_readHouse : KV nX3_readHouse 1 := ⟨gt_mem (i := 538) (by decide +kernel) rfl, gt_mem (i := 14) (by decide +kernel) rfl, gt_mem (i := 539) (by decide +kernel) rfl, gt_mem (i := 96) (by decide +kernel) rfl, ⟨by decide +kernel, by decide +kernel⟩, by decide +kernel⟩
theorem kvX3_readPerson : KV nX3_readPerson 1 := ⟨gt_mem (i := 546) (by decide +kernel) rfl, gt_mem (i := 15) (by decide +kernel) rfl, gt_mem (i := 547) (by decide +kernel) rfl, gt_mem (i := 96) (by decide +kernel) rfl, ⟨by decide +kernel, by decide +kernel⟩, by decide +kernel⟩
theorem kvX3_readStreet : KV nX3_readStreet 1 := ⟨gt_mem (i := 529) (by decide +kernel) rfl, gt_mem (i := 530) (by decide +kernel) rfl, gt_mem (i := 531) (by decide +kernel) rfl, gt_mem (i := 96) (by decide +kernel) rfl, ⟨by decide +kernel, by decide +kernel⟩, by decide +kernel⟩
theorem kvX3_readYear : KV nX3_readYear 4 := ⟨gt_mem (i := 476) (by decide +kernel) rfl, gt_mem (i := 477) (by decide +kernel) rfl, gt_mem (i := 478) (by decide +kernel) rfl, gt_mem (i := 96) (by decide +kernel) rfl, ⟨by decide +kernel, by decide +kernel⟩, by decide +kernel⟩
theorem kvX3_sign : KV nX3_sign 0 := ⟨gt_mem (i := 489) (by decide +kernel) rfl, gt_mem (i := 7) (by decide +kernel) rfl, gt_mem (i := 490) (by decide +kernel) rfl, gt_mem (i := 96) (by decide +kernel) rfl, ⟨by decide +kernel, by decide +kernel⟩, by decide +kernel⟩
theorem kvX3_skipToItem : KV nX3_skipToItem 0 := ⟨gt_mem (i := 485) (by decide +kernel) rfl, gt_mem (i := 6) (by decide +kernel) rfl, gt_mem (i := 486) (by decide +kernel) rfl, gt_mem (i := 96) (by decide +kernel) rfl, ⟨by decide +kernel, by decide +kernel⟩, by decide +kernel⟩
theorem kvX3_stop : KV nX3_stop 0 := ⟨gt_mem (i := 499) (by decide +kernel) rfl, gt_mem (i := 8) (by decide +kernel) rfl, gt_mem (i := 500) (by decide +kernel) rfl, gt_mem (i := 96) (by decide +kernel) rfl, ⟨by decide +kernel, by decide +kernel⟩, by decide +kernel⟩
theorem kvX4_digestOn : KV nX4_digestOn 1 := ⟨gt_mem (i := 938) (by decide +kernel) rfl, gt_mem (i := 939) (by decide +kernel) rfl, gt_mem (i := 940) (by decide +kernel) rfl, gt_mem (i := 93) (by decide +kernel) rfl, ⟨by decide +kernel, by decide +kernel⟩, by decide +kernel⟩
theorem kvX4_drop : KV nX4_drop 1 := ⟨gt_mem (i := 423) (by decide +kernel) rfl, gt_mem (i := 424) (by decide +kernel) rfl, gt_mem (i := 425) (by decide +kernel) rfl, gt_mem (i := 93) (by decide +kernel) rfl, ⟨by decide +kernel, by decide +kernel⟩, by decide +kernel⟩
theorem kvX4_get : KV nX4_get 2 := ⟨gt_mem (i := 402) (by decide +kernel) rfl, gt_mem (i := 403) (by decide +kernel) rfl, gt_mem (i := 404) (by decide +kernel) rfl, gt_mem (i := 93) (by decide +kernel) rfl, ⟨by decide +kernel, by decide +kernel⟩, by decide +kernel⟩
theorem kvX4_isThere : KV nX4_isThere 1 := ⟨gt_mem (i := 390) (by decide +kernel) rfl, gt_mem (i := 391) (by decide +kernel) rfl, gt_mem (i := 392) (by decide +kernel) rfl, gt_mem (i := 93) (by decide +kernel) rfl, ⟨by decide +kernel, by decide +kernel⟩, by decide +kernel⟩
theorem kvX4_knows : KV nX4_knows 1 := ⟨gt_mem (i := 365) (by decide +kernel) rfl, gt_mem (i := 366) (by decide +kernel) rfl, gt_mem (i := 367) (by decide +kernel) rfl, gt_mem (i := 93) (by decide +kernel) rfl, ⟨by decide +kernel, by decide +kernel⟩, by decide +kernel⟩
theorem kvX4_move : KV nX4_move 5 := ⟨gt_mem (i := 431) (by decide +kernel) rfl, gt_mem (i := 432) (by decide +kernel) rfl, gt_mem (i := 433) (by decide +kernel) rfl, gt_mem (i := 93) (by decide +kernel) rfl, ⟨by decide +kernel, by decide +kernel⟩, by decide +kernel⟩
theorem kvX4_present : KV nX4_present 0 := ⟨gt_mem (i := 914) (by decide +kernel) rfl, gt_mem (i := 915) (by decide +kernel) rfl, gt_mem (i := 916) (by decide +kernel) rfl, gt_mem (i := 93) (by decide +kernel) rfl, ⟨by decide +kernel, by decide +kernel⟩, by decide +kernel⟩
theorem kvX4_renew : KV nX4_renew 3 := ⟨gt_mem (i := 373) (by decide +kernel) rfl, gt_mem (i := 374) (by decide +kernel) rfl, gt_mem (i := 375) (by decide +kernel) rfl, gt_mem (i := 93) (by decide +kernel) rfl, ⟨by decide +kernel, by decide +kernel⟩, by decide +kernel⟩
theorem kvX4_set : KV nX4_set 3 := ⟨gt_mem (i := 407) (by decide +kernel) rfl, gt_mem (i := 408) (by decide +kernel) rfl, gt_mem (i := 409) (by decide +kernel) rfl, gt_mem (i := 93) (by decide +kernel) rfl, ⟨by decide +kernel, by decide +kernel⟩, by decide +kernel⟩
theorem kvX4_sizeOf : KV nX4_sizeOf 1 := ⟨gt_mem (i := 394) (by decide +kernel) rfl, gt_mem (i := 395) (by decide +kernel) rfl, gt_mem (i := 396) (by decide +kernel) rfl, gt_mem (i := 93) (by decide +kernel) rfl, ⟨by decide +kernel, by decide +kernel⟩, by decide +kernel⟩
theorem kvX4_spans : KV nX4_spans 3 := ⟨gt_mem (i := 398) (by decide +kernel) rfl, gt_mem (i := 399) (by decide +kernel) rfl, gt_mem (i := 400) (by decide +kernel) rfl, gt_mem (i := 93) (by decide +kernel) rfl, ⟨by decide +kernel, by decide +kernel⟩, by decide +kernel⟩
theorem kvX4_sumOf : KV nX4_sumOf 1 := ⟨gt_mem (i := 443) (by decide +kernel) rfl, gt_mem (i := 444) (by decide +kernel) rfl, gt_mem (i := 445) (by decide +kernel) rfl, gt_mem (i := 93) (by decide +kernel) rfl, ⟨by decide +kernel, by decide +kernel⟩, by decide +kernel⟩
theorem kvX5_addHouse : KV nX5_addHouse 1 := ⟨gt_mem (i := 541) (by decide +kernel) rfl, gt_mem (i := 542) (by decide +kernel) rfl, gt_mem (i := 543) (by decide +kernel) rfl, gt_mem (i := 99) (by decide +kernel) rfl, ⟨by decide +kernel, by decide +kernel⟩, by decide +kernel⟩
theorem kvX5_addPerson : KV nX5_addPerson 2 := ⟨gt_mem (i := 549) (by decide +kernel) rfl, gt_mem (i := 550) (by decide +kernel) rfl, gt_mem (i := 551) (by decide +kernel) rfl, gt_mem (i := 99) (by decide +kernel) rfl, ⟨by decide +kernel, by decide +kernel⟩, by decide +kernel⟩
theorem kvX5_allHouses : KV nX5_allHouses 0 := ⟨gt_mem (i := 805) (by decide +kernel) rfl, gt_mem (i := 806) (by decide +kernel) rfl, gt_mem (i := 807) (by decide +kernel) rfl, gt_mem (i := 99) (by decide +kernel) rfl, ⟨by decide +kernel, by decide +kernel⟩, by decide +kernel⟩
theorem kvX5_answersOf : KV nX5_answersOf 1 := ⟨gt_mem (i := 700) (by decide +kernel) rfl, gt_mem (i := 701) (by decide +kernel) rfl, gt_mem (i := 702) (by decide +kernel) rfl, gt_mem (i := 99) (by decide +kernel) rfl, ⟨by decide +kernel, by decide +kernel⟩, by decide +kernel⟩
theorem kvX5_clear : KV nX5_clear 0 := ⟨gt_mem (i := 533) (by decide +kernel) rfl, gt_mem (i := 534) (by decide +kernel) rfl, gt_mem (i := 535) (by decide +kernel) rfl, gt_mem (i := 99) (by decide +kernel) rfl, ⟨by decide +kernel, by decide +kernel⟩, by decide +kernel⟩
theorem kvX5_costOf : KV nX5_costOf 1 := ⟨gt_mem (i := 675) (by decide +kernel) rfl, gt_mem (i := 676) (by decide +kernel) rfl, gt_mem (i := 677) (by decide +kernel) rfl, gt_mem (i := 99) (by decide +kernel) rfl, ⟨by decide +kernel, by decide +kernel⟩, by decide +kernel⟩
theorem kvX5_homeOf : KV nX5_homeOf 1 := ⟨gt_mem (i := 696) (by decide +kernel) rfl, gt_mem (i := 697) (by decide +kernel) rfl, gt_mem (i := 698) (by decide +kernel) rfl, gt_mem (i := 99) (by decide +kernel) rfl, ⟨by decide +kernel, by decide +kernel⟩, by decide +kernel⟩
theorem kvX5_peopleOf : KV nX5_peopleOf 1 := ⟨gt_mem (i := 684) (by decide +kernel) rfl, gt_mem (i := 685) (by decide +kernel) rfl, gt_mem (i := 686) (by decide +kernel) rfl, gt_mem (i := 99) (by decide +kernel) rfl, ⟨by decide +kernel, by decide +kernel⟩, by decide +kernel⟩
theorem kvX6_begin : KV nX6_begin 2 := ⟨gt_mem (i := 775) (by decide +kernel) rfl, gt_mem (i := 776) (by decide +kernel) rfl, gt_mem (i := 777) (by decide +kernel) rfl, gt_mem (i := 97) (by decide +kernel) rfl, ⟨by decide +kernel, by decide +kernel⟩, by decide +kernel⟩
theorem kvX6_goOn : KV nX6_goOn 3 := ⟨gt_mem (i := 798) (by decide +kernel) rfl, gt_mem (i := 34) (by decide +kernel) rfl, gt_mem (i := 799) (by decide +kernel) rfl, gt_mem (i := 97) (by decide +kernel) rfl, ⟨by decide +kernel, by decide +kernel⟩, by decide +kernel⟩
theorem kvX6_goneInto : KV nX6_goneInto 2 := ⟨gt_mem (i := 783) (by decide +kernel) rfl, gt_mem (i := 784) (by decide +kernel) rfl, gt_mem (i := 785) (by decide +kernel) rfl, gt_mem (i := 97) (by decide +kernel) rfl, ⟨by decide +kernel, by decide +kernel⟩, by decide +kernel⟩
theorem kvX6_quickest : KV nX6_quickest 3 := ⟨gt_mem (i := 787) (by decide +kernel) rfl, gt_mem (i := 788) (by decide +kernel) rfl, gt_mem (i := 789) (by decide +kernel) rfl, gt_mem (i := 97) (by decide +kernel) rfl, ⟨by decide +kernel, by decide +kernel⟩, by decide +kernel⟩
theorem kvX6_reached : KV nX6_reached 3 := ⟨gt_mem (i := 793) (by decide +kernel) rfl, gt_mem (i := 33) (by decide +kernel) rfl, gt_mem (i := 794) (by decide +kernel) rfl, gt_mem (i := 97) (by decide +kernel) rfl, ⟨by decide +kernel, by decide +kernel⟩, by decide +kernel⟩
theorem kvX6_seenAt : KV nX6_seenAt 2 := ⟨gt_mem (i := 779) (by decide +kernel) rfl, gt_mem (i := 780) (by decide +kernel) rfl, gt_mem (i := 781) (by decide +kernel) rfl, gt_mem (i := 97) (by decide +kernel) rfl, ⟨by decide +kernel, by decide +kernel⟩, by decide +kernel⟩
theorem kvX7_alone : KV nX7_alone 1 := ⟨gt_mem (i := 721) (by decide +kernel) rfl, gt_mem (i := 722) (by decide +kernel) rfl, gt_mem (i := 723) (by decide +kernel) rfl, gt_mem (i := 92) (by decide +kernel) rfl, ⟨by decide +kernel, by decide +kernel⟩, by decide +kernel⟩
theorem kvX7_asked : KV nX7_asked 0 := ⟨gt_mem (i := 894) (by decide +kernel) rfl, gt_mem (i := 895) (by decide +kernel) rfl, gt_mem (i := 896) (by decide +kernel) rfl, gt_mem (i := 92) (by decide +kernel) rfl, ⟨by decide +kernel, by decide +kernel⟩, by decide +kernel⟩
theorem kvX7_at : KV nX7_at 2 := ⟨gt_mem (i := 415) (by decide +kernel) rfl, gt_mem (i := 416) (by decide +kernel) rfl, gt_mem (i := 417) (by decide +kernel) rfl, gt_mem (i := 92) (by decide +kernel) rfl, ⟨by decide +kernel, by decide +kernel⟩, by decide +kernel⟩
theorem kvX7_back : KV nX7_back 1 := ⟨gt_mem (i := 638) (by decide +kernel) rfl, gt_mem (i := 639) (by decide +kernel) rfl, gt_mem (i := 640) (by decide +kernel) rfl, gt_mem (i := 92) (by decide +kernel) rfl, ⟨by decide +kernel, by decide +kernel⟩, by decide +kernel⟩
theorem kvX7_canWake : KV nX7_canWake 2 := ⟨gt_mem (i := 744) (by decide +kernel) rfl, gt_mem (i := 28) (by decide +kernel) rfl, gt_mem (i := 745) (by decide +kernel) rfl, gt_mem (i := 92) (by decide +kernel) rfl, ⟨by decide +kernel, by decide +kernel⟩, by decide +kernel⟩
theorem kvX7_comesAlone : KV nX7_comesAlone 1 := ⟨gt_mem (i := 726) (by decide +kernel) rfl, gt_mem (i := 26) (by decide +kernel) rfl, gt_mem (i := 727) (by decide +kernel) rfl, gt_mem (i := 92) (by decide +kernel) rfl, ⟨by decide +kernel, by decide +kernel⟩, by decide +kernel⟩
theorem kvX7_comesBy : KV nX7_comesBy 1 := ⟨gt_mem (i := 748) (by decide +kernel) rfl, gt_mem (i := 29) (by decide +kernel) rfl, gt_mem (i := 749) (by decide +kernel) rfl, gt_mem (i := 92) (by decide +kernel) rfl, ⟨by decide +kernel, by decide +kernel⟩, by decide +kernel⟩
theorem kvX7_comesUnaided : KV nX7_comesUnaided 2 := ⟨gt_mem (i := 730) (by decide +kernel) rfl, gt_mem (i := 27) (by decide +kernel) rfl, gt_mem (i := 731) (by decide +kernel) rfl, gt_mem (i := 92) (by decide +kernel) rfl, ⟨by decide +kernel, by decide +kernel⟩, by decide +kernel⟩
theorem ksX7_commonDivisor : KS nX7_commonDivisor 2 := ⟨gt_mem (i := 764) (by decide +kernel) rfl, gt_mem (i := 765) (by decide +kernel) rfl, gt_mem (i := 92) (by decide +kernel) rfl, ⟨by decide +kernel, by decide +kernel⟩, by decide +kernel⟩
theorem kvX7_copies : KV nX7_copies 2 := ⟨gt_mem (i := 876) (by decide +kernel) rfl, gt_mem (i := 877) (by decide +kernel) rfl, gt_mem (i := 878) (by decide +kernel) rfl, gt_mem (i := 92) (by decide +kernel) rfl, ⟨by decide +kernel, by decide +kernel⟩, by decide +kernel⟩
theorem kvX7_copy : KV nX7_copy 5 := ⟨gt_mem (i := 427) (by decide +kernel) rfl, gt_mem (i := 428) (by decide +kernel) rfl, gt_mem (i := 429) (by decide +kernel) rfl, gt_mem (i := 92) (by decide +kernel) rfl, ⟨by decide +kernel, by decide +kernel⟩, by decide +kernel⟩
theorem kvX7_count : KV nX7_count 1 := ⟨gt_mem (i := 906) (by decide +kernel) rfl, gt_mem (i := 907) (by decide +kernel) rfl, gt_mem (i := 908) (by decide +kernel) rfl, gt_mem (i := 92) (by decide +kernel) rfl, ⟨by decide +kernel, by decide +kernel⟩, by decide +kernel⟩
theorem kvX7_dead : KV nX7_dead 1 := ⟨gt_mem (i := 880) (by decide +kernel) rfl, gt_mem (i := 881) (by decide +kernel) rfl, gt_mem (i := 882) (by decide +kernel) rfl, gt_mem (i := 92) (by decide +kernel) rfl, ⟨by decide +kernel, by decide +kernel⟩, by decide +kernel⟩
theorem kvX7_digest : KV nX7_digest 0 := ⟨gt_mem (i := 927) (by decide +kernel) rfl, gt_mem (i := 928) (by decide +kernel) rfl, gt_mem (i := 929) (by decide +kernel) rfl, gt_mem (i := 92) (by decide +kernel) rfl, ⟨by decide +kernel, by decide +kernel⟩, by decide +kernel⟩
theorem kvX7_digestPerson : KV nX7_digestPerson 2 := ⟨gt_mem (i := 935) (by decide +kernel) rfl, gt_mem (i := 42) (by decide +kernel) rfl, gt_mem (i := 936) (by decide +kernel) rfl, gt_mem (i := 92) (by decide +kernel) rfl, ⟨by decide +kernel, by decide +kernel⟩, by decide +kernel⟩
theorem kvX7_event : KV nX7_event 4 := ⟨gt_mem (i := 619) (by decide +kernel) rfl, gt_mem (i := 620) (by decide +kernel) rfl, gt_mem (i := 621) (by decide +kernel) rfl, gt_mem (i := 92) (by decide +kernel) rfl, ⟨by decide +kernel, by decide +kernel⟩, by decide +kernel⟩
theorem kvX7_fault : KV nX7_fault 2 := ⟨gt_mem (i := 456) (by decide +kernel) rfl, gt_mem (i := 457) (by decide +kernel) rfl, gt_mem (i := 458) (by decide +kernel) rfl, gt_mem (i := 92) (by decide +kernel) rfl, ⟨by decide +kernel, by decide +kernel⟩, by decide +kernel⟩
theorem kvX7_faultOfStreet : KV nX7_faultOfStreet 1 := ⟨gt_mem (i := 526) (by decide +kernel) rfl, gt_mem (i := 13) (by decide +kernel) rfl, gt_mem (i := 527) (by decide +kernel) rfl, gt_mem (i := 92) (by decide +kernel) rfl, ⟨by decide +kernel, by decide +kernel⟩, by decide +kernel⟩
theorem kvX7_faultOfYear : KV nX7_faultOfYear 1 := ⟨gt_mem (i := 461) (by decide +kernel) rfl, gt_mem (i := 5) (by decide +kernel) rfl, gt_mem (i := 462) (by decide +kernel) rfl, gt_mem (i := 92) (by decide +kernel) rfl, ⟨by decide +kernel, by decide +kernel⟩, by decide +kernel⟩
theorem kvX7_finding : KV nX7_finding 0 := ⟨gt_mem (i := 919) (by decide +kernel) rfl, gt_mem (i := 920) (by decide +kernel) rfl, gt_mem (i := 921) (by decide +kernel) rfl, gt_mem (i := 92) (by decide +kernel) rfl, ⟨by decide +kernel, by decide +kernel⟩, by decide +kernel⟩
theorem kvX7_findings : KV nX7_findings 1 := ⟨gt_mem (i := 923) (by decide +kernel) rfl, gt_mem (i := 924) (by decide +kernel) rfl, gt_mem (i := 925) (by decide +kernel) rfl, gt_mem (i := 92) (by decide +kernel) rfl, ⟨by decide +kernel, by decide +kernel⟩, by decide +kernel⟩
theorem kvX7_found : KV nX7_found 1 := ⟨gt_mem (i := 370) (by decide +kernel) rfl, gt_mem (i := 1) (by decide +kernel) rfl, gt_mem (i := 371) (by decide +kernel) rfl, gt_mem (i := 92) (by decide +kernel) rfl, ⟨by decide +kernel, by decide +kernel⟩, by decide +kernel⟩
theorem kvX7_handedBy : KV nX7_handedBy 1 := ⟨gt_mem (i := 752) (by decide +kernel) rfl, gt_mem (i := 30) (by decide +kernel) rfl, gt_mem (i := 753) (by decide +kernel) rfl, gt_mem (i := 92) (by decide +kernel) rfl, ⟨by decide +kernel, by decide +kernel⟩, by decide +kernel⟩
theorem ksX7_has : KS nX7_has 2 := ⟨gt_mem (i := 607) (by decide +kernel) rfl, gt_mem (i := 608) (by decide +kernel) rfl, gt_mem (i := 92) (by decide +kernel) rfl, ⟨by decide +kernel, by decide +kernel⟩, by decide +kernel⟩
theorem kvX7_house : KV nX7_house 2 := ⟨gt_mem (i := 667) (by decide +kernel) rfl, gt_mem (i := 668) (by decide +kernel) rfl, gt_mem (i := 669) (by decide +kernel) rfl, gt_mem (i := 92) (by decide +kernel) rfl, ⟨by decide +kernel, by decide +kernel⟩, by decide +kernel⟩
theorem kvX7_houseDetail : KV nX7_houseDetail 2 := ⟨gt_mem (i := 672) (by decide +kernel) rfl, gt_mem (i := 24) (by decide +kernel) rfl, gt_mem (i := 673) (by decide +kernel) rfl, gt_mem (i := 92) (by decide +kernel) rfl, ⟨by decide +kernel, by decide +kernel⟩, by decide +kernel⟩
theorem kvX7_isEvent : KV nX7_isEvent 3 := ⟨gt_mem (i := 624) (by decide +kernel) rfl, gt_mem (i := 21) (by decide +kernel) rfl, gt_mem (i := 625) (by decide +kernel) rfl, gt_mem (i := 92) (by decide +kernel) rfl, ⟨by decide +kernel, by decide +kernel⟩, by decide +kernel⟩
theorem kvX7_isHouse : KV nX7_isHouse 1 := ⟨gt_mem (i := 628) (by decide +kernel) rfl, gt_mem (i := 22) (by decide +kernel) rfl, gt_mem (i := 629) (by decide +kernel) rfl, gt_mem (i := 92) (by decide +kernel) rfl, ⟨by decide +kernel, by decide +kernel⟩, by decide +kernel⟩
theorem kvX7_isPerson : KV nX7_isPerson 1 := ⟨gt_mem (i := 632) (by decide +kernel) rfl, gt_mem (i := 23) (by decide +kernel) rfl, gt_mem (i := 633) (by decide +kernel) rfl, gt_mem (i := 92) (by decide +kernel) rfl, ⟨by decide +kernel, by decide +kernel⟩, by decide +kernel⟩
theorem kvX7_key : KV nX7_key 2 := ⟨gt_mem (i := 708) (by decide +kernel) rfl, gt_mem (i := 709) (by decide +kernel) rfl, gt_mem (i := 710) (by decide +kernel) rfl, gt_mem (i := 92) (by decide +kernel) rfl, ⟨by decide +kernel, by decide +kernel⟩, by decide +kernel⟩
theorem kvX7_lay : KV nX7_lay 3 := ⟨gt_mem (i := 378) (by decide +kernel) rfl, gt_mem (i := 379) (by decide +kernel) rfl, gt_mem (i := 380) (by decide +kernel) rfl, gt_mem (i := 92) (by decide +kernel) rfl, ⟨by decide +kernel, by decide +kernel⟩, by decide +kernel⟩
theorem kvX7_lost : KV nX7_lost 2 := ⟨gt_mem (i := 885) (by decide +kernel) rfl, gt_mem (i := 886) (by decide +kernel) rfl, gt_mem (i := 887) (by decide +kernel) rfl, gt_mem (i := 92) (by decide +kernel) rfl, ⟨by decide +kernel, by decide +kernel⟩, by decide +kernel⟩
theorem kvX7_lower : KV nX7_lower 0 := ⟨gt_mem (i := 902) (by decide +kernel) rfl, gt_mem (i := 903) (by decide +kernel) rfl, gt_mem (i := 904) (by decide +kernel) rfl, gt_mem (i := 92) (by decide +kernel) rfl, ⟨by decide +kernel, by decide +kernel⟩, by decide +kernel⟩
theorem kvX7_mark : KV nX7_mark 2 := ⟨gt_mem (i := 655) (by decide +kernel) rfl, gt_mem (i := 656) (by decide +kernel) rfl, gt_mem (i := 657) (by decide +kernel) rfl, gt_mem (i := 92) (by decide +kernel) rfl, ⟨by decide +kernel, by decide +kernel⟩, by decide +kernel⟩
theorem kvX7_mean : KV nX7_mean 1 := ⟨gt_mem (i := 438) (by decide +kernel) rfl, gt_mem (i := 439) (by decide +kernel) rfl, gt_mem (i := 440) (by decide +kernel) rfl, gt_mem (i := 92) (by decide +kernel) rfl, ⟨by decide +kernel, by decide +kernel⟩, by decide +kernel⟩
theorem kvX7_odds : KV nX7_odds 3 := ⟨gt_mem (i := 755) (by decide +kernel) rfl, gt_mem (i := 756) (by decide +kernel) rfl, gt_mem (i := 757) (by decide +kernel) rfl, gt_mem (i := 92) (by decide +kernel) rfl, ⟨by decide +kernel, by decide +kernel⟩, by decide +kernel⟩
theorem kvX7_person : KV nX7_person 2 := ⟨gt_mem (i := 688) (by decide +kernel) rfl, gt_mem (i := 689) (by decide +kernel) rfl, gt_mem (i := 690) (by decide +kernel) rfl, gt_mem (i := 92) (by decide +kernel) rfl, ⟨by decide +kernel, by decide +kernel⟩, by decide +kernel⟩
theorem kvX7_personDetail : KV nX7_personDetail 2 := ⟨gt_mem (i := 693) (by decide +kernel) rfl, gt_mem (i := 25) (by decide +kernel) rfl, gt_mem (i := 694) (by decide +kernel) rfl, gt_mem (i := 92) (by decide +kernel) rfl, ⟨by decide +kernel, by decide +kernel⟩, by decide +kernel⟩
theorem kvX7_prepareWay : KV nX7_prepareWay 1 := ⟨gt_mem (i := 772) (by decide +kernel) rfl, gt_mem (i := 32) (by decide +kernel) rfl, gt_mem (i := 773) (by decide +kernel) rfl, gt_mem (i := 92) (by decide +kernel) rfl, ⟨by decide +kernel, by decide +kernel⟩, by decide +kernel⟩
theorem kvX7_put : KV nX7_put 3 := ⟨gt_mem (i := 452) (by decide +kernel) rfl, gt_mem (i := 453) (by decide +kernel) rfl, gt_mem (i := 454) (by decide +kernel) rfl, gt_mem (i := 92) (by decide +kernel) rfl, ⟨by decide +kernel, by decide +kernel⟩, by decide +kernel⟩
theorem kvX7_refusalOf : KV nX7_refusalOf 2 := ⟨gt_mem (i := 387) (by decide +kernel) rfl, gt_mem (i := 3) (by decide +kernel) rfl, gt_mem (i := 388) (by decide +kernel) rfl, gt_mem (i := 92) (by decide +kernel) rfl, ⟨by decide +kernel, by decide +kernel⟩, by decide +kernel⟩
theorem kvX7_refusalOfPlace : KV nX7_refusalOfPlace 3 := ⟨gt_mem (i := 383) (by decide +kernel) rfl, gt_mem (i := 2) (by decide +kernel) rfl, gt_mem (i := 384) (by decide +kernel) rfl, gt_mem (i := 92) (by decide +kernel) rfl, ⟨by decide +kernel, by decide +kernel⟩, by decide +kernel⟩
theorem kvX7_renewed : KV nX7_renewed 4 := ⟨gt_mem (i := 362) (by decide +kernel) rfl, gt_mem (i := 0) (by decide +kernel) rfl, gt_mem (i := 363) (by decide +kernel) rfl, gt_mem (i := 92) (by decide +kernel) rfl, ⟨by decide +kernel, by decide +kernel⟩, by decide +kernel⟩
theorem kvX7_riskiest : KV nX7_riskiest 1 := ⟨gt_mem (i := 891) (by decide +kernel) rfl, gt_mem (i := 41) (by decide +kernel) rfl, gt_mem (i := 892) (by decide +kernel) rfl, gt_mem (i := 92) (by decide +kernel) rfl, ⟨by decide +kernel, by decide +kernel⟩, by decide +kernel⟩
theorem kvX7_round : KV nX7_round 3 := ⟨gt_mem (i := 801) (by decide +kernel) rfl, gt_mem (i := 802) (by decide +kernel) rfl, gt_mem (i := 803) (by decide +kernel) rfl, gt_mem (i := 92) (by decide +kernel) rfl, ⟨by decide +kernel, by decide +kernel⟩, by decide +kernel⟩
theorem kvX7_row : KV nX7_row 2 := ⟨gt_mem (i := 357) (by decide +kernel) rfl, gt_mem (i := 358) (by decide +kernel) rfl, gt_mem (i := 359) (by decide +kernel) rfl, gt_mem (i := 92) (by decide +kernel) rfl, ⟨by decide +kernel, by decide +kernel⟩, by decide +kernel⟩
theorem kvX7_safe : KV nX7_safe 3 := ⟨gt_mem (i := 813) (by decide +kernel) rfl, gt_mem (i := 814) (by decide +kernel) rfl, gt_mem (i := 815) (by decide +kernel) rfl, gt_mem (i := 92) (by decide +kernel) rfl, ⟨by decide +kernel, by decide +kernel⟩, by decide +kernel⟩
theorem kvX7_soonest : KV nX7_soonest 3 := ⟨gt_mem (i := 767) (by decide +kernel) rfl, gt_mem (i := 768) (by decide +kernel) rfl, gt_mem (i := 769) (by decide +kernel) rfl, gt_mem (i := 92) (by decide +kernel) rfl, ⟨by decide +kernel, by decide +kernel⟩, by decide +kernel⟩
theorem kvX7_street : KV nX7_street 1 := ⟨gt_mem (i := 553) (by decide +kernel) rfl, gt_mem (i := 554) (by decide +kernel) rfl, gt_mem (i := 555) (by decide +kernel) rfl, gt_mem (i := 92) (by decide +kernel) rfl, ⟨by decide +kernel, by decide +kernel⟩, by decide +kernel⟩
theorem kvX7_stuck : KV nX7_stuck 0 := ⟨gt_mem (i := 809) (by decide +kernel) rfl, gt_mem (i := 810) (by decide +kernel) rfl, gt_mem (i := 811) (by decide +kernel) rfl, gt_mem (i := 92) (by decide +kernel) rfl, ⟨by decide +kernel, by decide +kernel⟩, by decide +kernel⟩
theorem kvX7_suspects : KV nX7_suspects 1 := ⟨gt_mem (i := 868) (by decide +kernel) rfl, gt_mem (i := 869) (by decide +kernel) rfl, gt_mem (i := 870) (by decide +kernel) rfl, gt_mem (i := 92) (by decide +kernel) rfl, ⟨by decide +kernel, by decide +kernel⟩, by decide +kernel⟩
theorem kvX7_tear : KV nX7_tear 1 := ⟨gt_mem (i := 419) (by decide +kernel) rfl, gt_mem (i := 420) (by decide +kernel) rfl, gt_mem (i := 421) (by decide +kernel) rfl, gt_mem (i := 92) (by decide +kernel) rfl, ⟨by decide +kernel, by decide +kernel⟩, by decide +kernel⟩
theorem kvX7_tell : KV nX7_tell 1 := ⟨gt_mem (i := 412) (by decide +kernel) rfl, gt_mem (i := 4) (by decide +kernel) rfl, gt_mem (i := 413) (by decide +kernel) rfl, gt_mem (i := 92) (by decide +kernel) rfl, ⟨by decide +kernel, by decide +kernel⟩, by decide +kernel⟩
theorem kvX7_tellFraction : KV nX7_tellFraction 2 := ⟨gt_mem (i := 761) (by decide +kernel) rfl, gt_mem (i := 31) (by decide +kernel) rfl, gt_mem (i := 762) (by decide +kernel) rfl, gt_mem (i := 92) (by decide +kernel) rfl, ⟨by decide +kernel, by decide +kernel⟩, by decide +kernel⟩
theorem kvX7_text : KV nX7_text 2 := ⟨gt_mem (i := 448) (by decide +kernel) rfl, gt_mem (i := 449) (by decide +kernel) rfl, gt_mem (i := 450) (by decide +kernel) rfl, gt_mem (i := 92) (by decide +kernel) rfl, ⟨by decide +kernel, by decide +kernel⟩, by decide +kernel⟩
theorem kvX7_told : KV nX7_told 2 := ⟨gt_mem (i := 642) (by decide +kernel) rfl, gt_mem (i := 643) (by decide +kernel) rfl, gt_mem (i := 644) (by decide +kernel) rfl, gt_mem (i := 92) (by decide +kernel) rfl, ⟨by decide +kernel, by decide +kernel⟩, by decide +kernel⟩
theorem kvX7_trust : KV nX7_trust 2 := ⟨gt_mem (i := 716) (by decide +kernel) rfl, gt_mem (i := 717) (by decide +kernel) rfl, gt_mem (i := 718) (by decide +kernel) rfl, gt_mem (i := 92) (by decide +kernel) rfl, ⟨by decide +kernel, by decide +kernel⟩, by decide +kernel⟩
theorem kvX7_upper : KV nX7_upper 0 := ⟨gt_mem (i := 898) (by decide +kernel) rfl, gt_mem (i := 899) (by decide +kernel) rfl, gt_mem (i := 900) (by decide +kernel) rfl, gt_mem (i := 92) (by decide +kernel) rfl, ⟨by decide +kernel, by decide +kernel⟩, by decide +kernel⟩
theorem kvX7_wake : KV nX7_wake 3 := ⟨gt_mem (i := 738) (by decide +kernel) rfl, gt_mem (i := 739) (by decide +kernel) rfl, gt_mem (i := 740) (by decide +kernel) rfl, gt_mem (i := 92) (by decide +kernel) rfl, ⟨by decide +kernel, by decide +kernel⟩, by decide +kernel⟩
theorem kvX7_year : KV nX7_year 1 := ⟨gt_mem (i := 610) (by decide +kernel) rfl, gt_mem (i := 611) (by decide +kernel) rfl, gt_mem (i := 612) (by decide +kernel) rfl, gt_mem (i := 92) (by decide +kernel) rfl, ⟨by decide +kernel, by decide +kernel⟩, by decide +kernel⟩
theorem kvX8_alone : KV nX8_alone 1 := ⟨gt_mem (i := 1317) (by decide +kernel) rfl, gt_mem (i := 1318) (by decide +kernel) rfl, gt_mem (i := 1319) (by decide +kernel) rfl, gt_mem (i := 100) (by decide +kernel) rfl, ⟨by decide +kernel, by decide +kernel⟩, by decide +kernel⟩
theorem kvX8_aloneOf : KV nX8_aloneOf 2 := ⟨gt_mem (i := 1322) (by decide +kernel) rfl, gt_mem (i := 70) (by decide +kernel) rfl, gt_mem (i := 1323) (by decide +kernel) rfl, gt_mem (i := 100) (by decide +kernel) rfl, ⟨by decide +kernel, by decide +kernel⟩, by decide +kernel⟩
theorem kvX8_asked : KV nX8_asked 0 := ⟨gt_mem (i := 1112) (by decide +kernel) rfl, gt_mem (i := 1113) (by decide +kernel) rfl, gt_mem (i := 1114) (by decide +kernel) rfl, gt_mem (i := 100) (by decide +kernel) rfl, ⟨by decide +kernel, by decide +kernel⟩, by decide +kernel⟩
theorem kvX8_at : KV nX8_at 2 := ⟨gt_mem (i := 1147) (by decide +kernel) rfl, gt_mem (i := 1148) (by decide +kernel) rfl, gt_mem (i := 1149) (by decide +kernel) rfl, gt_mem (i := 100) (by decide +kernel) rfl, ⟨by decide +kernel, by decide +kernel⟩, by decide +kernel⟩
theorem kvX8_back : KV nX8_back 1 := ⟨gt_mem (i := 1265) (by decide +kernel) rfl, gt_mem (i := 1266) (by decide +kernel) rfl, gt_mem (i := 1267) (by decide +kernel) rfl, gt_mem (i := 100) (by decide +kernel) rfl, ⟨by decide +kernel, by decide +kernel⟩, by decide +kernel⟩
theorem ksX8_bits : KS nX8_bits 1 := ⟨gt_mem (i := 1344) (by decide +kernel) rfl, gt_mem (i := 1345) (by decide +kernel) rfl, gt_mem (i := 100) (by decide +kernel) rfl, ⟨by decide +kernel, by decide +kernel⟩, by decide +kernel⟩
theorem kvX8_byteAt : KV nX8_byteAt 2 := ⟨gt_mem (i := 1183) (by decide +kernel) rfl, gt_mem (i := 47) (by decide +kernel) rfl, gt_mem (i := 1184) (by decide +kernel) rfl, gt_mem (i := 100) (by decide +kernel) rfl, ⟨by decide +kernel, by decide +kernel⟩, by decide +kernel⟩
theorem kvX8_comes : KV nX8_comes 2 := ⟨gt_mem (i := 1326) (by decide +kernel) rfl, gt_mem (i := 71) (by decide +kernel) rfl, gt_mem (i := 1327) (by decide +kernel) rfl, gt_mem (i := 100) (by decide +kernel) rfl, ⟨by decide +kernel, by decide +kernel⟩, by decide +kernel⟩
theorem kvX8_comesKey : KV nX8_comesKey 4 := ⟨gt_mem (i := 1230) (by decide +kernel) rfl, gt_mem (i := 57) (by decide +kernel) rfl, gt_mem (i := 1231) (by decide +kernel) rfl, gt_mem (i := 100) (by decide +kernel) rfl, ⟨by decide +kernel, by decide +kernel⟩, by decide +kernel⟩
theorem kvX8_copies : KV nX8_copies 2 := ⟨gt_mem (i := 1423) (by decide +kernel) rfl, gt_mem (i := 1424) (by decide +kernel) rfl, gt_mem (i := 1425) (by decide +kernel) rfl, gt_mem (i := 100) (by decide +kernel) rfl, ⟨by decide +kernel, by decide +kernel⟩, by decide +kernel⟩
theorem kvX8_copy : KV nX8_copy 5 := ⟨gt_mem (i := 1155) (by decide +kernel) rfl, gt_mem (i := 1156) (by decide +kernel) rfl, gt_mem (i := 1157) (by decide +kernel) rfl, gt_mem (i := 100) (by decide +kernel) rfl, ⟨by decide +kernel, by decide +kernel⟩, by decide +kernel⟩
theorem kvX8_count : KV nX8_count 1 := ⟨gt_mem (i := 1443) (by decide +kernel) rfl, gt_mem (i := 1444) (by decide +kernel) rfl, gt_mem (i := 1445) (by decide +kernel) rfl, gt_mem (i := 100) (by decide +kernel) rfl, ⟨by decide +kernel, by decide +kernel⟩, by decide +kernel⟩
theorem kvX8_counted : KV nX8_counted 1 := ⟨gt_mem (i := 1448) (by decide +kernel) rfl, gt_mem (i := 88) (by decide +kernel) rfl, gt_mem (i := 1449) (by decide +kernel) rfl, gt_mem (i := 100) (by decide +kernel) rfl, ⟨by decide +kernel, by decide +kernel⟩, by decide +kernel⟩
theorem kvX8_dead : KV nX8_dead 1 := ⟨gt_mem (i := 1427) (by decide +kernel) rfl, gt_mem (i := 1428) (by decide +kernel) rfl, gt_mem (i := 1429) (by decide +kernel) rfl, gt_mem (i := 100) (by decide +kernel) rfl, ⟨by decide +kernel, by decide +kernel⟩, by decide +kernel⟩
theorem kvX8_digest : KV nX8_digest 0 := ⟨gt_mem (i := 1451) (by decide +kernel) rfl, gt_mem (i := 1452) (by decide +kernel) rfl, gt_mem (i := 1453) (by decide +kernel) rfl, gt_mem (i := 100) (by decide +kernel) rfl, ⟨by decide +kernel, by decide +kernel⟩, by decide +kernel⟩
theorem kvX8_event : KV nX8_event 4 := ⟨gt_mem (i := 1245) (by decide +kernel) rfl, gt_mem (i := 1246) (by decide +kernel) rfl, gt_mem (i := 1247) (by decide +kernel) rfl, gt_mem (i := 100) (by decide +kernel) rfl, ⟨by decide +kernel, by decide +kernel⟩, by decide +kernel⟩
theorem kvX8_fault : KV nX8_fault 2 := ⟨gt_mem (i := 1174) (by decide +kernel) rfl, gt_mem (i := 1175) (by decide +kernel) rfl, gt_mem (i := 1176) (by decide +kernel) rfl, gt_mem (i := 100) (by decide +kernel) rfl, ⟨by decide +kernel, by decide +kernel⟩, by decide +kernel⟩
theorem kvX8_figure : KV nX8_figure 2 := ⟨gt_mem (i := 1194) (by decide +kernel) rfl, gt_mem (i := 49) (by decide +kernel) rfl, gt_mem (i := 1195) (by decide +kernel) rfl, gt_mem (i := 100) (by decide +kernel) rfl, ⟨by decide +kernel, by decide +kernel⟩, by decide +kernel⟩
theorem kvX8_finding : KV nX8_finding 0 := ⟨gt_mem (i := 1101) (by decide +kernel) rfl, gt_mem (i := 1102) (by decide +kernel) rfl, gt_mem (i := 1103) (by decide +kernel) rfl, gt_mem (i := 100) (by decide +kernel) rfl, ⟨by decide +kernel, by decide +kernel⟩, by decide +kernel⟩
theorem kvX8_findings : KV nX8_findings 1 := ⟨gt_mem (i := 1105) (by decide +kernel) rfl, gt_mem (i := 1106) (by decide +kernel) rfl, gt_mem (i := 1107) (by decide +kernel) rfl, gt_mem (i := 100) (by decide +kernel) rfl, ⟨by decide +kernel, by decide +kernel⟩, by decide +kernel⟩
theorem kvX8_fraction : KV nX8_fraction 3 := ⟨gt_mem (i := 1353) (by decide +kernel) rfl, gt_mem (i := 74) (by decide +kernel) rfl, gt_mem (i := 1354) (by decide +kernel) rfl, gt_mem (i := 100) (by decide +kernel) rfl, ⟨by decide +kernel, by decide +kernel⟩, by decide +kernel⟩
theorem kvX8_goes : KV nX8_goes 3 := ⟨gt_mem (i := 1234) (by decide +kernel) rfl, gt_mem (i := 58) (by decide +kernel) rfl, gt_mem (i := 1235) (by decide +kernel) rfl, gt_mem (i := 100) (by decide +kernel) rfl, ⟨by decide +kernel, by decide +kernel⟩, by decide +kernel⟩
theorem kvX8_happens : KV nX8_happens 1 := ⟨gt_mem (i := 1226) (by decide +kernel) rfl, gt_mem (i := 56) (by decide +kernel) rfl, gt_mem (i := 1227) (by decide +kernel) rfl, gt_mem (i := 100) (by decide +kernel) rfl, ⟨by decide +kernel, by decide +kernel⟩, by decide +kernel⟩
theorem ksX8_has : KS nX8_has 2 := ⟨gt_mem (i := 1329) (by decide +kernel) rfl, gt_mem (i := 1330) (by decide +kernel) rfl, gt_mem (i := 100) (by decide +kernel) rfl, ⟨by decide +kernel, by decide +kernel⟩, by decide +kernel⟩
theorem kvX8_hasKeyOf : KV nX8_hasKeyOf 2 := ⟨gt_mem (i := 1404) (by decide +kernel) rfl, gt_mem (i := 82) (by decide +kernel) rfl, gt_mem (i := 1405) (by decide +kernel) rfl, gt_mem (i := 100) (by decide +kernel) rfl, ⟨by decide +kernel, by decide +kernel⟩, by decide +kernel⟩
theorem kvX8_heldBy : KV nX8_heldBy 1 := ⟨gt_mem (i := 1302) (by decide +kernel) rfl, gt_mem (i := 68) (by decide +kernel) rfl, gt_mem (i := 1303) (by decide +kernel) rfl, gt_mem (i := 100) (by decide +kernel) rfl, ⟨by decide +kernel, by decide +kernel⟩, by decide +kernel⟩
theorem kvX8_helps : KV nX8_helps 2 := ⟨gt_mem (i := 1400) (by decide +kernel) rfl, gt_mem (i := 81) (by decide +kernel) rfl, gt_mem (i := 1401) (by decide +kernel) rfl, gt_mem (i := 100) (by decide +kernel) rfl, ⟨by decide +kernel, by decide +kernel⟩, by decide +kernel⟩
theorem kvX8_house : KV nX8_house 2 := ⟨gt_mem (i := 1281) (by decide +kernel) rfl, gt_mem (i := 1282) (by decide +kernel) rfl, gt_mem (i := 1283) (by decide +kernel) rfl, gt_mem (i := 100) (by decide +kernel) rfl, ⟨by decide +kernel, by decide +kernel⟩, by decide +kernel⟩
theorem kvX8_houseTells : KV nX8_houseTells 2 := ⟨gt_mem (i := 1286) (by decide +kernel) rfl, gt_mem (i := 65) (by decide +kernel) rfl, gt_mem (i := 1287) (by decide +kernel) rfl, gt_mem (i := 100) (by decide +kernel) rfl, ⟨by decide +kernel, by decide +kernel⟩, by decide +kernel⟩
theorem ksX8_in : KS nX8_in 3 := ⟨gt_mem (i := 1109) (by decide +kernel) rfl, gt_mem (i := 1110) (by decide +kernel) rfl, gt_mem (i := 100) (by decide +kernel) rfl, ⟨by decide +kernel, by decide +kernel⟩, by decide +kernel⟩
theorem kvX8_isAhead : KV nX8_isAhead 2 := ⟨gt_mem (i := 1436) (by decide +kernel) rfl, gt_mem (i := 86) (by decide +kernel) rfl, gt_mem (i := 1437) (by decide +kernel) rfl, gt_mem (i := 100) (by decide +kernel) rfl, ⟨by decide +kernel, by decide +kernel⟩, by decide +kernel⟩
theorem kvX8_isEvent : KV nX8_isEvent 1 := ⟨gt_mem (i := 1274) (by decide +kernel) rfl, gt_mem (i := 64) (by decide +kernel) rfl, gt_mem (i := 1275) (by decide +kernel) rfl, gt_mem (i := 100) (by decide +kernel) rfl, ⟨by decide +kernel, by decide +kernel⟩, by decide +kernel⟩
theorem kvX8_isEventTold : KV nX8_isEventTold 3 := ⟨gt_mem (i := 1250) (by decide +kernel) rfl, gt_mem (i := 60) (by decide +kernel) rfl, gt_mem (i := 1251) (by decide +kernel) rfl, gt_mem (i := 100) (by decide +kernel) rfl, ⟨by decide +kernel, by decide +kernel⟩, by decide +kernel⟩
theorem kvX8_isHouse : KV nX8_isHouse 1 := ⟨gt_mem (i := 1254) (by decide +kernel) rfl, gt_mem (i := 61) (by decide +kernel) rfl, gt_mem (i := 1255) (by decide +kernel) rfl, gt_mem (i := 100) (by decide +kernel) rfl, ⟨by decide +kernel, by decide +kernel⟩, by decide +kernel⟩
theorem kvX8_isKey : KV nX8_isKey 1 := ⟨gt_mem (i := 1262) (by decide +kernel) rfl, gt_mem (i := 63) (by decide +kernel) rfl, gt_mem (i := 1263) (by decide +kernel) rfl, gt_mem (i := 100) (by decide +kernel) rfl, ⟨by decide +kernel, by decide +kernel⟩, by decide +kernel⟩
theorem kvX8_isLittle : KV nX8_isLittle 2 := ⟨gt_mem (i := 1408) (by decide +kernel) rfl, gt_mem (i := 83) (by decide +kernel) rfl, gt_mem (i := 1409) (by decide +kernel) rfl, gt_mem (i := 100) (by decide +kernel) rfl, ⟨by decide +kernel, by decide +kernel⟩, by decide +kernel⟩
theorem kvX8_isLive : KV nX8_isLive 1 := ⟨gt_mem (i := 1238) (by decide +kernel) rfl, gt_mem (i := 59) (by decide +kernel) rfl, gt_mem (i := 1239) (by decide +kernel) rfl, gt_mem (i := 100) (by decide +kernel) rfl, ⟨by decide +kernel, by decide +kernel⟩, by decide +kernel⟩
theorem kvX8_isOpenTo : KV nX8_isOpenTo 3 := ⟨gt_mem (i := 1380) (by decide +kernel) rfl, gt_mem (i := 79) (by decide +kernel) rfl, gt_mem (i := 1381) (by decide +kernel) rfl, gt_mem (i := 100) (by decide +kernel) rfl, ⟨by decide +kernel, by decide +kernel⟩, by decide +kernel⟩
theorem kvX8_isPerson : KV nX8_isPerson 1 := ⟨gt_mem (i := 1258) (by decide +kernel) rfl, gt_mem (i := 62) (by decide +kernel) rfl, gt_mem (i := 1259) (by decide +kernel) rfl, gt_mem (i := 100) (by decide +kernel) rfl, ⟨by decide +kernel, by decide +kernel⟩, by decide +kernel⟩
theorem ksX8_isRow : KS nX8_isRow 1 := ⟨gt_mem (i := 1128) (by decide +kernel) rfl, gt_mem (i := 1129) (by decide +kernel) rfl, gt_mem (i := 100) (by decide +kernel) rfl, ⟨by decide +kernel, by decide +kernel⟩, by decide +kernel⟩
theorem ksX8_isText : KS nX8_isText 1 := ⟨gt_mem (i := 1167) (by decide +kernel) rfl, gt_mem (i := 1168) (by decide +kernel) rfl, gt_mem (i := 100) (by decide +kernel) rfl, ⟨by decide +kernel, by decide +kernel⟩, by decide +kernel⟩
theorem kvX8_key : KV nX8_key 2 := ⟨gt_mem (i := 1305) (by decide +kernel) rfl, gt_mem (i := 1306) (by decide +kernel) rfl, gt_mem (i := 1307) (by decide +kernel) rfl, gt_mem (i := 100) (by decide +kernel) rfl, ⟨by decide +kernel, by decide +kernel⟩, by decide +kernel⟩
theorem kvX8_keyTells : KV nX8_keyTells 2 := ⟨gt_mem (i := 1310) (by decide +kernel) rfl, gt_mem (i := 69) (by decide +kernel) rfl, gt_mem (i := 1311) (by decide +kernel) rfl, gt_mem (i := 100) (by decide +kernel) rfl, ⟨by decide +kernel, by decide +kernel⟩, by decide +kernel⟩
theorem ksX8_kindOf : KS nX8_kindOf 1 := ⟨gt_mem (i := 1190) (by decide +kernel) rfl, gt_mem (i := 1191) (by decide +kernel) rfl, gt_mem (i := 100) (by decide +kernel) rfl, ⟨by decide +kernel, by decide +kernel⟩, by decide +kernel⟩
theorem kvX8_lay : KV nX8_lay 3 := ⟨gt_mem (i := 1135) (by decide +kernel) rfl, gt_mem (i := 1136) (by decide +kernel) rfl, gt_mem (i := 1137) (by decide +kernel) rfl, gt_mem (i := 100) (by decide +kernel) rfl, ⟨by decide +kernel, by decide +kernel⟩, by decide +kernel⟩
theorem kvX8_layLacks : KV nX8_layLacks 1 := ⟨gt_mem (i := 1396) (by decide +kernel) rfl, gt_mem (i := 80) (by decide +kernel) rfl, gt_mem (i := 1397) (by decide +kernel) rfl, gt_mem (i := 100) (by decide +kernel) rfl, ⟨by decide +kernel, by decide +kernel⟩, by decide +kernel⟩
theorem kvX8_layWay : KV nX8_layWay 2 := ⟨gt_mem (i := 1365) (by decide +kernel) rfl, gt_mem (i := 76) (by decide +kernel) rfl, gt_mem (i := 1366) (by decide +kernel) rfl, gt_mem (i := 100) (by decide +kernel) rfl, ⟨by decide +kernel, by decide +kernel⟩, by decide +kernel⟩
theorem kvX8_livesIn : KV nX8_livesIn 1 := ⟨gt_mem (i := 1290) (by decide +kernel) rfl, gt_mem (i := 66) (by decide +kernel) rfl, gt_mem (i := 1291) (by decide +kernel) rfl, gt_mem (i := 100) (by decide +kernel) rfl, ⟨by decide +kernel, by decide +kernel⟩, by decide +kernel⟩
theorem kvX8_lost : KV nX8_lost 2 := ⟨gt_mem (i := 1431) (by decide +kernel) rfl, gt_mem (i := 1432) (by decide +kernel) rfl, gt_mem (i := 1433) (by decide +kernel) rfl, gt_mem (i := 100) (by decide +kernel) rfl, ⟨by decide +kernel, by decide +kernel⟩, by decide +kernel⟩
theorem kvX8_lower : KV nX8_lower 0 := ⟨gt_mem (i := 1120) (by decide +kernel) rfl, gt_mem (i := 1121) (by decide +kernel) rfl, gt_mem (i := 1122) (by decide +kernel) rfl, gt_mem (i := 100) (by decide +kernel) rfl, ⟨by decide +kernel, by decide +kernel⟩, by decide +kernel⟩
theorem kvX8_mark : KV nX8_mark 2 := ⟨gt_mem (i := 1277) (by decide +kernel) rfl, gt_mem (i := 1278) (by decide +kernel) rfl, gt_mem (i := 1279) (by decide +kernel) rfl, gt_mem (i := 100) (by decide +kernel) rfl, ⟨by decide +kernel, by decide +kernel⟩, by decide +kernel⟩
theorem kvX8_mean : KV nX8_mean 1 := ⟨gt_mem (i := 1159) (by decide +kernel) rfl, gt_mem (i := 1160) (by decide +kernel) rfl, gt_mem (i := 1161) (by decide +kernel) rfl, gt_mem (i := 100) (by decide +kernel) rfl, ⟨by decide +kernel, by decide +kernel⟩, by decide +kernel⟩
theorem kvX8_meets : KV nX8_meets 1 := ⟨gt_mem (i := 1132) (by decide +kernel) rfl, gt_mem (i := 43) (by decide +kernel) rfl, gt_mem (i := 1133) (by decide +kernel) rfl, gt_mem (i := 100) (by decide +kernel) rfl, ⟨by decide +kernel, by decide +kernel⟩, by decide +kernel⟩
theorem kvX8_mix : KV nX8_mix 1 := ⟨gt_mem (i := 1457) (by decide +kernel) rfl, gt_mem (i := 89) (by decide +kernel) rfl, gt_mem (i := 1458) (by decide +kernel) rfl, gt_mem (i := 100) (by decide +kernel) rfl, ⟨by decide +kernel, by decide +kernel⟩, by decide +kernel⟩
theorem kvX8_mixStreet : KV nX8_mixStreet 0 := ⟨gt_mem (i := 1462) (by decide +kernel) rfl, gt_mem (i := 90) (by decide +kernel) rfl, gt_mem (i := 1463) (by decide +kernel) rfl, gt_mem (i := 100) (by decide +kernel) rfl, ⟨by decide +kernel, by decide +kernel⟩, by decide +kernel⟩
theorem kvX8_number : KV nX8_number 2 := ⟨gt_mem (i := 1198) (by decide +kernel) rfl, gt_mem (i := 50) (by decide +kernel) rfl, gt_mem (i := 1199) (by decide +kernel) rfl, gt_mem (i := 100) (by decide +kernel) rfl, ⟨by decide +kernel, by decide +kernel⟩, by decide +kernel⟩
theorem kvX8_odds : KV nX8_odds 3 := ⟨gt_mem (i := 1347) (by decide +kernel) rfl, gt_mem (i := 1348) (by decide +kernel) rfl, gt_mem (i := 1349) (by decide +kernel) rfl, gt_mem (i := 100) (by decide +kernel) rfl, ⟨by decide +kernel, by decide +kernel⟩, by decide +kernel⟩
theorem kvX8_openBy : KV nX8_openBy 3 := ⟨gt_mem (i := 1341) (by decide +kernel) rfl, gt_mem (i := 73) (by decide +kernel) rfl, gt_mem (i := 1342) (by decide +kernel) rfl, gt_mem (i := 100) (by decide +kernel) rfl, ⟨by decide +kernel, by decide +kernel⟩, by decide +kernel⟩
theorem kvX8_passedLive : KV nX8_passedLive 2 := ⟨gt_mem (i := 1420) (by decide +kernel) rfl, gt_mem (i := 85) (by decide +kernel) rfl, gt_mem (i := 1421) (by decide +kernel) rfl, gt_mem (i := 100) (by decide +kernel) rfl, ⟨by decide +kernel, by decide +kernel⟩, by decide +kernel⟩
theorem kvX8_person : KV nX8_person 2 := ⟨gt_mem (i := 1293) (by decide +kernel) rfl, gt_mem (i := 1294) (by decide +kernel) rfl, gt_mem (i := 1295) (by decide +kernel) rfl, gt_mem (i := 100) (by decide +kernel) rfl, ⟨by decide +kernel, by decide +kernel⟩, by decide +kernel⟩
theorem kvX8_personTells : KV nX8_personTells 2 := ⟨gt_mem (i := 1298) (by decide +kernel) rfl, gt_mem (i := 67) (by decide +kernel) rfl, gt_mem (i := 1299) (by decide +kernel) rfl, gt_mem (i := 100) (by decide +kernel) rfl, ⟨by decide +kernel, by decide +kernel⟩, by decide +kernel⟩
theorem kvX8_planTold : KV nX8_planTold 1 := ⟨gt_mem (i := 1412) (by decide +kernel) rfl, gt_mem (i := 84) (by decide +kernel) rfl, gt_mem (i := 1413) (by decide +kernel) rfl, gt_mem (i := 100) (by decide +kernel) rfl, ⟨by decide +kernel, by decide +kernel⟩, by decide +kernel⟩
theorem kvX8_put : KV nX8_put 3 := ⟨gt_mem (i := 1170) (by decide +kernel) rfl, gt_mem (i := 1171) (by decide +kernel) rfl, gt_mem (i := 1172) (by decide +kernel) rfl, gt_mem (i := 100) (by decide +kernel) rfl, ⟨by decide +kernel, by decide +kernel⟩, by decide +kernel⟩
theorem kvX8_quickest : KV nX8_quickest 4 := ⟨gt_mem (i := 1361) (by decide +kernel) rfl, gt_mem (i := 75) (by decide +kernel) rfl, gt_mem (i := 1362) (by decide +kernel) rfl, gt_mem (i := 100) (by decide +kernel) rfl, ⟨by decide +kernel, by decide +kernel⟩, by decide +kernel⟩
theorem kvX8_reach : KV nX8_reach 2 := ⟨gt_mem (i := 1376) (by decide +kernel) rfl, gt_mem (i := 78) (by decide +kernel) rfl, gt_mem (i := 1377) (by decide +kernel) rfl, gt_mem (i := 100) (by decide +kernel) rfl, ⟨by decide +kernel, by decide +kernel⟩, by decide +kernel⟩
theorem kvX8_readsEvent : KV nX8_readsEvent 1 := ⟨gt_mem (i := 1187) (by decide +kernel) rfl, gt_mem (i := 48) (by decide +kernel) rfl, gt_mem (i := 1188) (by decide +kernel) rfl, gt_mem (i := 100) (by decide +kernel) rfl, ⟨by decide +kernel, by decide +kernel⟩, by decide +kernel⟩
theorem kvX8_readsHouse : KV nX8_readsHouse 1 := ⟨gt_mem (i := 1210) (by decide +kernel) rfl, gt_mem (i := 53) (by decide +kernel) rfl, gt_mem (i := 1211) (by decide +kernel) rfl, gt_mem (i := 100) (by decide +kernel) rfl, ⟨by decide +kernel, by decide +kernel⟩, by decide +kernel⟩
theorem kvX8_readsPerson : KV nX8_readsPerson 1 := ⟨gt_mem (i := 1214) (by decide +kernel) rfl, gt_mem (i := 54) (by decide +kernel) rfl, gt_mem (i := 1215) (by decide +kernel) rfl, gt_mem (i := 100) (by decide +kernel) rfl, ⟨by decide +kernel, by decide +kernel⟩, by decide +kernel⟩
theorem kvX8_riskOf : KV nX8_riskOf 1 := ⟨gt_mem (i := 1440) (by decide +kernel) rfl, gt_mem (i := 87) (by decide +kernel) rfl, gt_mem (i := 1441) (by decide +kernel) rfl, gt_mem (i := 100) (by decide +kernel) rfl, ⟨by decide +kernel, by decide +kernel⟩, by decide +kernel⟩
theorem kvX8_round : KV nX8_round 3 := ⟨gt_mem (i := 1383) (by decide +kernel) rfl, gt_mem (i := 1384) (by decide +kernel) rfl, gt_mem (i := 1385) (by decide +kernel) rfl, gt_mem (i := 100) (by decide +kernel) rfl, ⟨by decide +kernel, by decide +kernel⟩, by decide +kernel⟩
theorem kvX8_row : KV nX8_row 2 := ⟨gt_mem (i := 1124) (by decide +kernel) rfl, gt_mem (i := 1125) (by decide +kernel) rfl, gt_mem (i := 1126) (by decide +kernel) rfl, gt_mem (i := 100) (by decide +kernel) rfl, ⟨by decide +kernel, by decide +kernel⟩, by decide +kernel⟩
theorem kvX8_rowAt : KV nX8_rowAt 2 := ⟨gt_mem (i := 1140) (by decide +kernel) rfl, gt_mem (i := 44) (by decide +kernel) rfl, gt_mem (i := 1141) (by decide +kernel) rfl, gt_mem (i := 100) (by decide +kernel) rfl, ⟨by decide +kernel, by decide +kernel⟩, by decide +kernel⟩
theorem kvX8_safe : KV nX8_safe 3 := ⟨gt_mem (i := 1391) (by decide +kernel) rfl, gt_mem (i := 1392) (by decide +kernel) rfl, gt_mem (i := 1393) (by decide +kernel) rfl, gt_mem (i := 100) (by decide +kernel) rfl, ⟨by decide +kernel, by decide +kernel⟩, by decide +kernel⟩
theorem kvX8_settle : KV nX8_settle 0 := ⟨gt_mem (i := 1222) (by decide +kernel) rfl, gt_mem (i := 55) (by decide +kernel) rfl, gt_mem (i := 1223) (by decide +kernel) rfl, gt_mem (i := 100) (by decide +kernel) rfl, ⟨by decide +kernel, by decide +kernel⟩, by decide +kernel⟩
theorem kvX8_sign : KV nX8_sign 2 := ⟨gt_mem (i := 1202) (by decide +kernel) rfl, gt_mem (i := 51) (by decide +kernel) rfl, gt_mem (i := 1203) (by decide +kernel) rfl, gt_mem (i := 100) (by decide +kernel) rfl, ⟨by decide +kernel, by decide +kernel⟩, by decide +kernel⟩
theorem kvX8_soonest : KV nX8_soonest 3 := ⟨gt_mem (i := 1356) (by decide +kernel) rfl, gt_mem (i := 1357) (by decide +kernel) rfl, gt_mem (i := 1358) (by decide +kernel) rfl, gt_mem (i := 100) (by decide +kernel) rfl, ⟨by decide +kernel, by decide +kernel⟩, by decide +kernel⟩
theorem kvX8_startOf : KV nX8_startOf 1 := ⟨gt_mem (i := 1369) (by decide +kernel) rfl, gt_mem (i := 77) (by decide +kernel) rfl, gt_mem (i := 1370) (by decide +kernel) rfl, gt_mem (i := 100) (by decide +kernel) rfl, ⟨by decide +kernel, by decide +kernel⟩, by decide +kernel⟩
theorem ksX8_stateOf : KS nX8_stateOf 3 := ⟨gt_mem (i := 1372) (by decide +kernel) rfl, gt_mem (i := 1373) (by decide +kernel) rfl, gt_mem (i := 100) (by decide +kernel) rfl, ⟨by decide +kernel, by decide +kernel⟩, by decide +kernel⟩
theorem kvX8_street : KV nX8_street 1 := ⟨gt_mem (i := 1217) (by decide +kernel) rfl, gt_mem (i := 1218) (by decide +kernel) rfl, gt_mem (i := 1219) (by decide +kernel) rfl, gt_mem (i := 100) (by decide +kernel) rfl, ⟨by decide +kernel, by decide +kernel⟩, by decide +kernel⟩
theorem kvX8_streetFault : KV nX8_streetFault 1 := ⟨gt_mem (i := 1206) (by decide +kernel) rfl, gt_mem (i := 52) (by decide +kernel) rfl, gt_mem (i := 1207) (by decide +kernel) rfl, gt_mem (i := 100) (by decide +kernel) rfl, ⟨by decide +kernel, by decide +kernel⟩, by decide +kernel⟩
theorem kvX8_stuck : KV nX8_stuck 0 := ⟨gt_mem (i := 1387) (by decide +kernel) rfl, gt_mem (i := 1388) (by decide +kernel) rfl, gt_mem (i := 1389) (by decide +kernel) rfl, gt_mem (i := 100) (by decide +kernel) rfl, ⟨by decide +kernel, by decide +kernel⟩, by decide +kernel⟩
theorem kvX8_suspects : KV nX8_suspects 1 := ⟨gt_mem (i := 1415) (by decide +kernel) rfl, gt_mem (i := 1416) (by decide +kernel) rfl, gt_mem (i := 1417) (by decide +kernel) rfl, gt_mem (i := 100) (by decide +kernel) rfl, ⟨by decide +kernel, by decide +kernel⟩, by decide +kernel⟩
theorem kvX8_tear : KV nX8_tear 1 := ⟨gt_mem (i := 1151) (by decide +kernel) rfl, gt_mem (i := 1152) (by decide +kernel) rfl, gt_mem (i := 1153) (by decide +kernel) rfl, gt_mem (i := 100) (by decide +kernel) rfl, ⟨by decide +kernel, by decide +kernel⟩, by decide +kernel⟩
theorem kvX8_tells : KV nX8_tells 2 := ⟨gt_mem (i := 1144) (by decide +kernel) rfl, gt_mem (i := 45) (by decide +kernel) rfl, gt_mem (i := 1145) (by decide +kernel) rfl, gt_mem (i := 100) (by decide +kernel) rfl, ⟨by decide +kernel, by decide +kernel⟩, by decide +kernel⟩
theorem kvX8_text : KV nX8_text 2 := ⟨gt_mem (i := 1163) (by decide +kernel) rfl, gt_mem (i := 1164) (by decide +kernel) rfl, gt_mem (i := 1165) (by decide +kernel) rfl, gt_mem (i := 100) (by decide +kernel) rfl, ⟨by decide +kernel, by decide +kernel⟩, by decide +kernel⟩
theorem kvX8_told : KV nX8_told 2 := ⟨gt_mem (i := 1269) (by decide +kernel) rfl, gt_mem (i := 1270) (by decide +kernel) rfl, gt_mem (i := 1271) (by decide +kernel) rfl, gt_mem (i := 100) (by decide +kernel) rfl, ⟨by decide +kernel, by decide +kernel⟩, by decide +kernel⟩
theorem kvX8_trust : KV nX8_trust 2 := ⟨gt_mem (i := 1313) (by decide +kernel) rfl, gt_mem (i := 1314) (by decide +kernel) rfl, gt_mem (i := 1315) (by decide +kernel) rfl, gt_mem (i := 100) (by decide +kernel) rfl, ⟨by decide +kernel, by decide +kernel⟩, by decide +kernel⟩
theorem kvX8_upper : KV nX8_upper 0 := ⟨gt_mem (i := 1116) (by decide +kernel) rfl, gt_mem (i := 1117) (by decide +kernel) rfl, gt_mem (i := 1118) (by decide +kernel) rfl, gt_mem (i := 100) (by decide +kernel) rfl, ⟨by decide +kernel, by decide +kernel⟩, by decide +kernel⟩
theorem kvX8_wake : KV nX8_wake 3 := ⟨gt_mem (i := 1332) (by decide +kernel) rfl, gt_mem (i := 1333) (by decide +kernel) rfl, gt_mem (i := 1334) (by decide +kernel) rfl, gt_mem (i := 100) (by decide +kernel) rfl, ⟨by decide +kernel, by decide +kernel⟩, by decide +kernel⟩
theorem kvX8_wakesOf : KV nX8_wakesOf 1 := ⟨gt_mem (i := 1337) (by decide +kernel) rfl, gt_mem (i := 72) (by decide +kernel) rfl, gt_mem (i := 1338) (by decide +kernel) rfl, gt_mem (i := 100) (by decide +kernel) rfl, ⟨by decide +kernel, by decide +kernel⟩, by decide +kernel⟩
theorem kvX8_year : KV nX8_year 1 := ⟨gt_mem (i := 1241) (by decide +kernel) rfl, gt_mem (i := 1242) (by decide +kernel) rfl, gt_mem (i := 1243) (by decide +kernel) rfl, gt_mem (i := 100) (by decide +kernel) rfl, ⟨by decide +kernel, by decide +kernel⟩, by decide +kernel⟩
theorem kvX8_yearFault : KV nX8_yearFault 1 := ⟨gt_mem (i := 1179) (by decide +kernel) rfl, gt_mem (i := 46) (by decide +kernel) rfl, gt_mem (i := 1180) (by decide +kernel) rfl, gt_mem (i := 100) (by decide +kernel) rfl, ⟨by decide +kernel, by decide +kernel⟩, by decide +kernel⟩
theorem lX7_87 : Cond.methodLink RX7 87 (mY nX7_renewed) ∈ gt_ := gt_mem (i := 360) (by decide +kernel) rfl
theorem lX7_115 : Cond.methodLink RX7 115 (mY nX4_knows) ∈ gt_ := gt_mem (i := 364) (by decide +kernel) rfl
theorem lX7_119 : Cond.methodLink RX7 119 (mY nX7_found) ∈ gt_ := gt_mem (i := 368) (by decide +kernel) rfl
theorem lX7_274 : Cond.methodLink RX7 274 (mY nX4_renew) ∈ gt_ := gt_mem (i := 372) (by decide +kernel) rfl
theorem lX4_26 : Cond.methodLink RX4 26 (mY nX4_knows) ∈ gt_ := gt_mem (i := 376) (by decide +kernel) rfl
theorem lX7_91 : Cond.methodLink RX7 91 (mY nX7_refusalOfPlace) ∈ gt_ := gt_mem (i := 381) (by decide +kernel) rfl
theorem lX7_107 : Cond.methodLink RX7 107 (mY nX7_refusalOf) ∈ gt_ := gt_mem (i := 385) (by decide +kernel) rfl
theorem lX7_122 : Cond.methodLink RX7 122 (mY nX4_isThere) ∈ gt_ := gt_mem (i := 389) (by decide +kernel) rfl
theorem lX4_22 : Cond.methodLink RX4 22 (mY nX4_sizeOf) ∈ gt_ := gt_mem (i := 393) (by decide +kernel) rfl
theorem lX7_125 : Cond.methodLink RX7 125 (mY nX4_spans) ∈ gt_ := gt_mem (i := 397) (by decide +kernel) rfl
theorem lX7_95 : Cond.methodLink RX7 95 (mY nX4_get) ∈ gt_ := gt_mem (i := 401) (by decide +kernel) rfl
theorem lX4_30 : Cond.methodLink RX4 30 (mY nX4_spans) ∈ gt_ := gt_mem (i := 405) (by decide +kernel) rfl
theorem lX7_99 : Cond.methodLink RX7 99 (mY nX4_set) ∈ gt_ := gt_mem (i := 406) (by decide +kernel) rfl
theorem lX7_103 : Cond.methodLink RX7 103 (mY nX7_tell) ∈ gt_ := gt_mem (i := 410) (by decide +kernel) rfl
theorem lX7_111 : Cond.methodLink RX7 111 (mY nX4_drop) ∈ gt_ := gt_mem (i := 422) (by decide +kernel) rfl
theorem lX7_129 : Cond.methodLink RX7 129 (mY nX4_move) ∈ gt_ := gt_mem (i := 430) (by decide +kernel) rfl
theorem lX7_133 : Cond.methodLink RX7 133 (mY nX4_sizeOf) ∈ gt_ := gt_mem (i := 441) (by decide +kernel) rfl
theorem lX7_136 : Cond.methodLink RX7 136 (mY nX4_sumOf) ∈ gt_ := gt_mem (i := 442) (by decide +kernel) rfl
theorem lX4_40 : Cond.methodLink RX4 40 (mY nX4_get) ∈ gt_ := gt_mem (i := 446) (by decide +kernel) rfl
theorem lX7_140 : Cond.methodLink RX7 140 (mY nX7_faultOfYear) ∈ gt_ := gt_mem (i := 459) (by decide +kernel) rfl
theorem lX7_336 : Cond.methodLink RX7 336 (mY nX3_begin) ∈ gt_ := gt_mem (i := 463) (by decide +kernel) rfl
theorem lX3_19 : Cond.methodLink RX3 19 (mY nX4_sizeOf) ∈ gt_ := gt_mem (i := 467) (by decide +kernel) rfl
theorem lX3_25 : Cond.methodLink RX3 25 (mY nJ9_max_7cf53) ∈ gt_ := gt_mem (i := 468) (by decide +kernel) rfl
theorem lX3_31 : Cond.methodLink RX3 31 (mY nJ9_min_7cf53) ∈ gt_ := gt_mem (i := 471) (by decide +kernel) rfl
theorem lX3_37 : Cond.methodLink RX3 37 (mY nX4_get) ∈ gt_ := gt_mem (i := 474) (by decide +kernel) rfl
theorem lX7_347 : Cond.methodLink RX7 347 (mY nX3_readYear) ∈ gt_ := gt_mem (i := 475) (by decide +kernel) rfl
theorem lX3_89 : Cond.methodLink RX3 89 (mY nX0_cutTo) ∈ gt_ := gt_mem (i := 479) (by decide +kernel) rfl
theorem lX3_48 : Cond.methodLink RX3 48 (mY nX3_skipToItem) ∈ gt_ := gt_mem (i := 483) (by decide +kernel) rfl
theorem lX3_52 : Cond.methodLink RX3 52 (mY nX3_sign) ∈ gt_ := gt_mem (i := 487) (by decide +kernel) rfl
theorem lX3_94 : Cond.methodLink RX3 94 (mY nX3_kindOf) ∈ gt_ := gt_mem (i := 491) (by decide +kernel) rfl
theorem lX3_97 : Cond.methodLink RX3 97 (mY nX0_makesKey) ∈ gt_ := gt_mem (i := 494) (by decide +kernel) rfl
theorem lX3_69 : Cond.methodLink RX3 69 (mY nX3_stop) ∈ gt_ := gt_mem (i := 497) (by decide +kernel) rfl
theorem lX3_102 : Cond.methodLink RX3 102 (mY nX3_readEvent) ∈ gt_ := gt_mem (i := 501) (by decide +kernel) rfl
theorem lX3_79 : Cond.methodLink RX3 79 (mY nX3_figure) ∈ gt_ := gt_mem (i := 505) (by decide +kernel) rfl
theorem lX3_72 : Cond.methodLink RX3 72 (mY nX3_number) ∈ gt_ := gt_mem (i := 509) (by decide +kernel) rfl
theorem lX3_106 : Cond.methodLink RX3 106 (mY nX3_joint) ∈ gt_ := gt_mem (i := 513) (by decide +kernel) rfl
theorem lX3_82 : Cond.methodLink RX3 82 (mY nX3_expect) ∈ gt_ := gt_mem (i := 516) (by decide +kernel) rfl
theorem lX3_109 : Cond.methodLink RX3 109 (mY nX0_add) ∈ gt_ := gt_mem (i := 520) (by decide +kernel) rfl
theorem lX7_143 : Cond.methodLink RX7 143 (mY nX7_faultOfStreet) ∈ gt_ := gt_mem (i := 524) (by decide +kernel) rfl
theorem lX7_340 : Cond.methodLink RX7 340 (mY nX3_readStreet) ∈ gt_ := gt_mem (i := 528) (by decide +kernel) rfl
theorem lX3_43 : Cond.methodLink RX3 43 (mY nX5_clear) ∈ gt_ := gt_mem (i := 532) (by decide +kernel) rfl
theorem lX3_59 : Cond.methodLink RX3 59 (mY nX3_readHouse) ∈ gt_ := gt_mem (i := 536) (by decide +kernel) rfl
theorem lX3_75 : Cond.methodLink RX3 75 (mY nX5_addHouse) ∈ gt_ := gt_mem (i := 540) (by decide +kernel) rfl
theorem lX3_66 : Cond.methodLink RX3 66 (mY nX3_readPerson) ∈ gt_ := gt_mem (i := 544) (by decide +kernel) rfl
theorem lX3_85 : Cond.methodLink RX3 85 (mY nX5_addPerson) ∈ gt_ := gt_mem (i := 548) (by decide +kernel) rfl
theorem lX7_146 : Cond.methodLink RX7 146 (mY nX0_cutTo) ∈ gt_ := gt_mem (i := 556) (by decide +kernel) rfl
theorem lX7_149 : Cond.methodLink RX7 149 (mY nX2_replay) ∈ gt_ := gt_mem (i := 557) (by decide +kernel) rfl
theorem lX2_55 : Cond.methodLink RX2 55 (mY nX2_apply) ∈ gt_ := gt_mem (i := 561) (by decide +kernel) rfl
theorem lX2_62 : Cond.methodLink RX2 62 (mY nX2_changesOf) ∈ gt_ := gt_mem (i := 565) (by decide +kernel) rfl
theorem lX2_66 : Cond.methodLink RX2 66 (mY nX2_addKey) ∈ gt_ := gt_mem (i := 569) (by decide +kernel) rfl
theorem lX2_74 : Cond.methodLink RX2 74 (mY nX2_bring) ∈ gt_ := gt_mem (i := 573) (by decide +kernel) rfl
theorem lX2_70 : Cond.methodLink RX2 70 (mY nX2_isKey) ∈ gt_ := gt_mem (i := 577) (by decide +kernel) rfl
theorem lX2_77 : Cond.methodLink RX2 77 (mY nX2_changeTrust) ∈ gt_ := gt_mem (i := 581) (by decide +kernel) rfl
theorem lX2_80 : Cond.methodLink RX2 80 (mY nX2_arePersons) ∈ gt_ := gt_mem (i := 585) (by decide +kernel) rfl
theorem lX2_84 : Cond.methodLink RX2 84 (mY nX2_trustOf) ∈ gt_ := gt_mem (i := 588) (by decide +kernel) rfl
theorem lX2_88 : Cond.methodLink RX2 88 (mY nJ9_min_7cf53) ∈ gt_ := gt_mem (i := 592) (by decide +kernel) rfl
theorem lX2_93 : Cond.methodLink RX2 93 (mY nJ9_max_7cf53) ∈ gt_ := gt_mem (i := 593) (by decide +kernel) rfl
theorem lX2_59 : Cond.methodLink RX2 59 (mY nX2_settleReach) ∈ gt_ := gt_mem (i := 594) (by decide +kernel) rfl
theorem lX2_96 : Cond.methodLink RX2 96 (mY nX2_opens) ∈ gt_ := gt_mem (i := 598) (by decide +kernel) rfl
theorem lX2_102 : Cond.methodLink RX2 102 (mY nX2_isLive) ∈ gt_ := gt_mem (i := 602) (by decide +kernel) rfl
theorem lX7_156 : Cond.methodLink RX7 156 (mY nX0_addAll) ∈ gt_ := gt_mem (i := 613) (by decide +kernel) rfl
theorem lX0_28 : Cond.methodLink RX0 28 (mY nX0_add) ∈ gt_ := gt_mem (i := 617) (by decide +kernel) rfl
theorem lX7_162 : Cond.methodLink RX7 162 (mY nX7_isEvent) ∈ gt_ := gt_mem (i := 622) (by decide +kernel) rfl
theorem lX7_195 : Cond.methodLink RX7 195 (mY nX7_isHouse) ∈ gt_ := gt_mem (i := 626) (by decide +kernel) rfl
theorem lX7_201 : Cond.methodLink RX7 201 (mY nX7_isPerson) ∈ gt_ := gt_mem (i := 630) (by decide +kernel) rfl
theorem lX7_207 : Cond.methodLink RX7 207 (mY nX2_isKey) ∈ gt_ := gt_mem (i := 634) (by decide +kernel) rfl
theorem lX7_165 : Cond.methodLink RX7 165 (mY nX0_makesKey) ∈ gt_ := gt_mem (i := 635) (by decide +kernel) rfl
theorem lX7_171 : Cond.methodLink RX7 171 (mY nX0_add) ∈ gt_ := gt_mem (i := 636) (by decide +kernel) rfl
theorem lX7_175 : Cond.methodLink RX7 175 (mY nX0_knows) ∈ gt_ := gt_mem (i := 645) (by decide +kernel) rfl
theorem lX7_176 : Cond.methodLink RX7 176 (mY nX0_detail) ∈ gt_ := gt_mem (i := 649) (by decide +kernel) rfl
theorem lX0_32 : Cond.methodLink RX0 32 (mY nX0_knows) ∈ gt_ := gt_mem (i := 653) (by decide +kernel) rfl
theorem lX7_182 : Cond.methodLink RX7 182 (mY nX0_isOfKind) ∈ gt_ := gt_mem (i := 658) (by decide +kernel) rfl
theorem lX7_186 : Cond.methodLink RX7 186 (mY nX0_keysBefore) ∈ gt_ := gt_mem (i := 661) (by decide +kernel) rfl
theorem lX0_36 : Cond.methodLink RX0 36 (mY nX0_makesKey) ∈ gt_ := gt_mem (i := 665) (by decide +kernel) rfl
theorem lX7_198 : Cond.methodLink RX7 198 (mY nX7_houseDetail) ∈ gt_ := gt_mem (i := 670) (by decide +kernel) rfl
theorem lX7_306 : Cond.methodLink RX7 306 (mY nX5_costOf) ∈ gt_ := gt_mem (i := 674) (by decide +kernel) rfl
theorem lX7_351 : Cond.methodLink RX7 351 (mY nX2_changesOf) ∈ gt_ := gt_mem (i := 678) (by decide +kernel) rfl
theorem lX7_261 : Cond.methodLink RX7 261 (mY nX2_liveKeysOf) ∈ gt_ := gt_mem (i := 679) (by decide +kernel) rfl
theorem lX7_354 : Cond.methodLink RX7 354 (mY nX5_peopleOf) ∈ gt_ := gt_mem (i := 683) (by decide +kernel) rfl
theorem lX7_204 : Cond.methodLink RX7 204 (mY nX7_personDetail) ∈ gt_ := gt_mem (i := 691) (by decide +kernel) rfl
theorem lX7_280 : Cond.methodLink RX7 280 (mY nX5_homeOf) ∈ gt_ := gt_mem (i := 695) (by decide +kernel) rfl
theorem lX7_237 : Cond.methodLink RX7 237 (mY nX5_answersOf) ∈ gt_ := gt_mem (i := 699) (by decide +kernel) rfl
theorem lX7_357 : Cond.methodLink RX7 357 (mY nX2_keysHeldBy) ∈ gt_ := gt_mem (i := 703) (by decide +kernel) rfl
theorem lX7_210 : Cond.methodLink RX7 210 (mY nX2_keyDetail) ∈ gt_ := gt_mem (i := 711) (by decide +kernel) rfl
theorem lX7_213 : Cond.methodLink RX7 213 (mY nX2_trustOf) ∈ gt_ := gt_mem (i := 719) (by decide +kernel) rfl
theorem lX7_216 : Cond.methodLink RX7 216 (mY nX7_comesAlone) ∈ gt_ := gt_mem (i := 724) (by decide +kernel) rfl
theorem lX7_219 : Cond.methodLink RX7 219 (mY nX7_comesUnaided) ∈ gt_ := gt_mem (i := 728) (by decide +kernel) rfl
theorem lX7_247 : Cond.methodLink RX7 247 (mY nX2_opens) ∈ gt_ := gt_mem (i := 732) (by decide +kernel) rfl
theorem lX7_258 : Cond.methodLink RX7 258 (mY nX2_comesFrom) ∈ gt_ := gt_mem (i := 733) (by decide +kernel) rfl
theorem lX7_223 : Cond.methodLink RX7 223 (mY nX7_has) ∈ gt_ := gt_mem (i := 741) (by decide +kernel) rfl
theorem lX7_229 : Cond.methodLink RX7 229 (mY nX7_canWake) ∈ gt_ := gt_mem (i := 742) (by decide +kernel) rfl
theorem lX7_232 : Cond.methodLink RX7 232 (mY nX7_comesBy) ∈ gt_ := gt_mem (i := 746) (by decide +kernel) rfl
theorem lX7_360 : Cond.methodLink RX7 360 (mY nX7_handedBy) ∈ gt_ := gt_mem (i := 750) (by decide +kernel) rfl
theorem lX7_240 : Cond.methodLink RX7 240 (mY nX7_tellFraction) ∈ gt_ := gt_mem (i := 759) (by decide +kernel) rfl
theorem lX7_329 : Cond.methodLink RX7 329 (mY nX7_commonDivisor) ∈ gt_ := gt_mem (i := 763) (by decide +kernel) rfl
theorem lX7_244 : Cond.methodLink RX7 244 (mY nX7_prepareWay) ∈ gt_ := gt_mem (i := 770) (by decide +kernel) rfl
theorem lX7_363 : Cond.methodLink RX7 363 (mY nX6_begin) ∈ gt_ := gt_mem (i := 774) (by decide +kernel) rfl
theorem lX7_365 : Cond.methodLink RX7 365 (mY nX6_seenAt) ∈ gt_ := gt_mem (i := 778) (by decide +kernel) rfl
theorem lX7_368 : Cond.methodLink RX7 368 (mY nX6_goneInto) ∈ gt_ := gt_mem (i := 782) (by decide +kernel) rfl
theorem lX7_250 : Cond.methodLink RX7 250 (mY nX6_quickest) ∈ gt_ := gt_mem (i := 786) (by decide +kernel) rfl
theorem lX6_41 : Cond.methodLink RX6 41 (mY nX6_reached) ∈ gt_ := gt_mem (i := 791) (by decide +kernel) rfl
theorem lX6_45 : Cond.methodLink RX6 45 (mY nX6_goOn) ∈ gt_ := gt_mem (i := 796) (by decide +kernel) rfl
theorem lX7_254 : Cond.methodLink RX7 254 (mY nX5_allHouses) ∈ gt_ := gt_mem (i := 804) (by decide +kernel) rfl
theorem lX7_264 : Cond.methodLink RX7 264 (mY nX1_prepare) ∈ gt_ := gt_mem (i := 816) (by decide +kernel) rfl
theorem lX1_39 : Cond.methodLink RX1 39 (mY nX5_homeOf) ∈ gt_ := gt_mem (i := 820) (by decide +kernel) rfl
theorem lX1_43 : Cond.methodLink RX1 43 (mY nX1_isPlace) ∈ gt_ := gt_mem (i := 821) (by decide +kernel) rfl
theorem lX1_47 : Cond.methodLink RX1 47 (mY nX2_opens) ∈ gt_ := gt_mem (i := 824) (by decide +kernel) rfl
theorem lX1_53 : Cond.methodLink RX1 53 (mY nX1_findHostile) ∈ gt_ := gt_mem (i := 825) (by decide +kernel) rfl
theorem lX1_61 : Cond.methodLink RX1 61 (mY nX2_trustOf) ∈ gt_ := gt_mem (i := 829) (by decide +kernel) rfl
theorem lX1_57 : Cond.methodLink RX1 57 (mY nX1_findNeed) ∈ gt_ := gt_mem (i := 830) (by decide +kernel) rfl
theorem lX1_68 : Cond.methodLink RX1 68 (mY nJ6_bitCount_0f7a4) ∈ gt_ := gt_mem (i := 835) (by decide +kernel) rfl
theorem lX1_73 : Cond.methodLink RX1 73 (mY nJ9_max_7cf53) ∈ gt_ := gt_mem (i := 841) (by decide +kernel) rfl
theorem lX7_268 : Cond.methodLink RX7 268 (mY nX1_isFound) ∈ gt_ := gt_mem (i := 842) (by decide +kernel) rfl
theorem lX1_78 : Cond.methodLink RX1 78 (mY nX1_canGoOn) ∈ gt_ := gt_mem (i := 846) (by decide +kernel) rfl
theorem lX1_91 : Cond.methodLink RX1 91 (mY nJ9_min_7cf53) ∈ gt_ := gt_mem (i := 850) (by decide +kernel) rfl
theorem lX1_81 : Cond.methodLink RX1 81 (mY nX1_giveFirst) ∈ gt_ := gt_mem (i := 851) (by decide +kernel) rfl
theorem lX1_84 : Cond.methodLink RX1 84 (mY nX1_haveRoom) ∈ gt_ := gt_mem (i := 855) (by decide +kernel) rfl
theorem lX1_87 : Cond.methodLink RX1 87 (mY nX1_changeRoom) ∈ gt_ := gt_mem (i := 859) (by decide +kernel) rfl
theorem lX7_272 : Cond.methodLink RX7 272 (mY nX1_size) ∈ gt_ := gt_mem (i := 863) (by decide +kernel) rfl
theorem lX7_283 : Cond.methodLink RX7 283 (mY nX2_passedOpens) ∈ gt_ := gt_mem (i := 871) (by decide +kernel) rfl
theorem lX7_289 : Cond.methodLink RX7 289 (mY nX2_isLive) ∈ gt_ := gt_mem (i := 883) (by decide +kernel) rfl
theorem lX7_298 : Cond.methodLink RX7 298 (mY nJ6_bitCount_0f7a4) ∈ gt_ := gt_mem (i := 888) (by decide +kernel) rfl
theorem lX7_303 : Cond.methodLink RX7 303 (mY nX7_riskiest) ∈ gt_ := gt_mem (i := 889) (by decide +kernel) rfl
theorem lX7_309 : Cond.methodLink RX7 309 (mY nX2_liveKeys) ∈ gt_ := gt_mem (i := 909) (by decide +kernel) rfl
theorem lX7_312 : Cond.methodLink RX7 312 (mY nX4_present) ∈ gt_ := gt_mem (i := 913) (by decide +kernel) rfl
theorem lX4_44 : Cond.methodLink RX4 44 (mY nX4_isThere) ∈ gt_ := gt_mem (i := 917) (by decide +kernel) rfl
theorem lX7_318 : Cond.methodLink RX7 318 (mY nX7_count) ∈ gt_ := gt_mem (i := 932) (by decide +kernel) rfl
theorem lX7_321 : Cond.methodLink RX7 321 (mY nX7_digestPerson) ∈ gt_ := gt_mem (i := 933) (by decide +kernel) rfl
theorem lX7_325 : Cond.methodLink RX7 325 (mY nX4_digestOn) ∈ gt_ := gt_mem (i := 937) (by decide +kernel) rfl
theorem lX8_112 : Cond.methodLink RX8 112 (mY nX8_in) ∈ gt_ := gt_mem (i := 1108) (by decide +kernel) rfl
theorem lX8_122 : Cond.methodLink RX8 122 (mY nX8_isRow) ∈ gt_ := gt_mem (i := 1127) (by decide +kernel) rfl
theorem lX8_126 : Cond.methodLink RX8 126 (mY nX8_meets) ∈ gt_ := gt_mem (i := 1130) (by decide +kernel) rfl
theorem lX8_130 : Cond.methodLink RX8 130 (mY nX8_rowAt) ∈ gt_ := gt_mem (i := 1138) (by decide +kernel) rfl
theorem lX8_134 : Cond.methodLink RX8 134 (mY nX8_tells) ∈ gt_ := gt_mem (i := 1142) (by decide +kernel) rfl
theorem lX8_137 : Cond.methodLink RX8 137 (mY nX8_isText) ∈ gt_ := gt_mem (i := 1166) (by decide +kernel) rfl
theorem lX8_195 : Cond.methodLink RX8 195 (mY nX8_yearFault) ∈ gt_ := gt_mem (i := 1177) (by decide +kernel) rfl
theorem lX8_143 : Cond.methodLink RX8 143 (mY nX8_byteAt) ∈ gt_ := gt_mem (i := 1181) (by decide +kernel) rfl
theorem lX8_192 : Cond.methodLink RX8 192 (mY nX8_readsEvent) ∈ gt_ := gt_mem (i := 1185) (by decide +kernel) rfl
theorem lX8_171 : Cond.methodLink RX8 171 (mY nX8_kindOf) ∈ gt_ := gt_mem (i := 1189) (by decide +kernel) rfl
theorem lX8_162 : Cond.methodLink RX8 162 (mY nX8_figure) ∈ gt_ := gt_mem (i := 1192) (by decide +kernel) rfl
theorem lX8_152 : Cond.methodLink RX8 152 (mY nX8_number) ∈ gt_ := gt_mem (i := 1196) (by decide +kernel) rfl
theorem lX8_159 : Cond.methodLink RX8 159 (mY nX8_sign) ∈ gt_ := gt_mem (i := 1200) (by decide +kernel) rfl
theorem lX8_198 : Cond.methodLink RX8 198 (mY nX8_streetFault) ∈ gt_ := gt_mem (i := 1204) (by decide +kernel) rfl
theorem lX8_165 : Cond.methodLink RX8 165 (mY nX8_readsHouse) ∈ gt_ := gt_mem (i := 1208) (by decide +kernel) rfl
theorem lX8_168 : Cond.methodLink RX8 168 (mY nX8_readsPerson) ∈ gt_ := gt_mem (i := 1212) (by decide +kernel) rfl
theorem lX8_201 : Cond.methodLink RX8 201 (mY nX8_settle) ∈ gt_ := gt_mem (i := 1220) (by decide +kernel) rfl
theorem lX8_216 : Cond.methodLink RX8 216 (mY nX8_happens) ∈ gt_ := gt_mem (i := 1224) (by decide +kernel) rfl
theorem lX8_230 : Cond.methodLink RX8 230 (mY nX8_comesKey) ∈ gt_ := gt_mem (i := 1228) (by decide +kernel) rfl
theorem lX8_226 : Cond.methodLink RX8 226 (mY nX8_goes) ∈ gt_ := gt_mem (i := 1232) (by decide +kernel) rfl
theorem lX8_223 : Cond.methodLink RX8 223 (mY nX8_isLive) ∈ gt_ := gt_mem (i := 1236) (by decide +kernel) rfl
theorem lX8_213 : Cond.methodLink RX8 213 (mY nX8_isEventTold) ∈ gt_ := gt_mem (i := 1248) (by decide +kernel) rfl
theorem lX8_204 : Cond.methodLink RX8 204 (mY nX8_isHouse) ∈ gt_ := gt_mem (i := 1252) (by decide +kernel) rfl
theorem lX8_207 : Cond.methodLink RX8 207 (mY nX8_isPerson) ∈ gt_ := gt_mem (i := 1256) (by decide +kernel) rfl
theorem lX8_210 : Cond.methodLink RX8 210 (mY nX8_isKey) ∈ gt_ := gt_mem (i := 1260) (by decide +kernel) rfl
theorem lX8_234 : Cond.methodLink RX8 234 (mY nX8_isEvent) ∈ gt_ := gt_mem (i := 1272) (by decide +kernel) rfl
theorem lX8_240 : Cond.methodLink RX8 240 (mY nX8_houseTells) ∈ gt_ := gt_mem (i := 1284) (by decide +kernel) rfl
theorem lX8_237 : Cond.methodLink RX8 237 (mY nX8_livesIn) ∈ gt_ := gt_mem (i := 1288) (by decide +kernel) rfl
theorem lX8_246 : Cond.methodLink RX8 246 (mY nX8_personTells) ∈ gt_ := gt_mem (i := 1296) (by decide +kernel) rfl
theorem lX8_243 : Cond.methodLink RX8 243 (mY nX8_heldBy) ∈ gt_ := gt_mem (i := 1300) (by decide +kernel) rfl
theorem lX8_249 : Cond.methodLink RX8 249 (mY nX8_keyTells) ∈ gt_ := gt_mem (i := 1308) (by decide +kernel) rfl
theorem lX8_258 : Cond.methodLink RX8 258 (mY nX8_aloneOf) ∈ gt_ := gt_mem (i := 1320) (by decide +kernel) rfl
theorem lX8_255 : Cond.methodLink RX8 255 (mY nX8_comes) ∈ gt_ := gt_mem (i := 1324) (by decide +kernel) rfl
theorem lX8_252 : Cond.methodLink RX8 252 (mY nX8_has) ∈ gt_ := gt_mem (i := 1328) (by decide +kernel) rfl
theorem lX8_261 : Cond.methodLink RX8 261 (mY nX8_wakesOf) ∈ gt_ := gt_mem (i := 1335) (by decide +kernel) rfl
theorem lX8_264 : Cond.methodLink RX8 264 (mY nX8_openBy) ∈ gt_ := gt_mem (i := 1339) (by decide +kernel) rfl
theorem lX8_268 : Cond.methodLink RX8 268 (mY nX8_bits) ∈ gt_ := gt_mem (i := 1343) (by decide +kernel) rfl
theorem lX8_273 : Cond.methodLink RX8 273 (mY nX8_fraction) ∈ gt_ := gt_mem (i := 1351) (by decide +kernel) rfl
theorem lX8_304 : Cond.methodLink RX8 304 (mY nX8_quickest) ∈ gt_ := gt_mem (i := 1359) (by decide +kernel) rfl
theorem lX8_286 : Cond.methodLink RX8 286 (mY nX8_layWay) ∈ gt_ := gt_mem (i := 1363) (by decide +kernel) rfl
theorem lX8_290 : Cond.methodLink RX8 290 (mY nX8_startOf) ∈ gt_ := gt_mem (i := 1367) (by decide +kernel) rfl
theorem lX8_293 : Cond.methodLink RX8 293 (mY nX8_stateOf) ∈ gt_ := gt_mem (i := 1371) (by decide +kernel) rfl
theorem lX8_297 : Cond.methodLink RX8 297 (mY nX8_reach) ∈ gt_ := gt_mem (i := 1374) (by decide +kernel) rfl
theorem lX8_301 : Cond.methodLink RX8 301 (mY nX8_isOpenTo) ∈ gt_ := gt_mem (i := 1378) (by decide +kernel) rfl
theorem lX8_314 : Cond.methodLink RX8 314 (mY nX8_layLacks) ∈ gt_ := gt_mem (i := 1394) (by decide +kernel) rfl
theorem lX8_308 : Cond.methodLink RX8 308 (mY nX8_helps) ∈ gt_ := gt_mem (i := 1398) (by decide +kernel) rfl
theorem lX8_311 : Cond.methodLink RX8 311 (mY nX8_hasKeyOf) ∈ gt_ := gt_mem (i := 1402) (by decide +kernel) rfl
theorem lX8_317 : Cond.methodLink RX8 317 (mY nX8_isLittle) ∈ gt_ := gt_mem (i := 1406) (by decide +kernel) rfl
theorem lX8_320 : Cond.methodLink RX8 320 (mY nX8_planTold) ∈ gt_ := gt_mem (i := 1410) (by decide +kernel) rfl
theorem lX8_323 : Cond.methodLink RX8 323 (mY nX8_passedLive) ∈ gt_ := gt_mem (i := 1418) (by decide +kernel) rfl
theorem lX8_329 : Cond.methodLink RX8 329 (mY nX8_isAhead) ∈ gt_ := gt_mem (i := 1434) (by decide +kernel) rfl
theorem lX8_326 : Cond.methodLink RX8 326 (mY nX8_riskOf) ∈ gt_ := gt_mem (i := 1438) (by decide +kernel) rfl
theorem lX8_332 : Cond.methodLink RX8 332 (mY nX8_counted) ∈ gt_ := gt_mem (i := 1446) (by decide +kernel) rfl
theorem lX8_340 : Cond.methodLink RX8 340 (mY nX8_mix) ∈ gt_ := gt_mem (i := 1455) (by decide +kernel) rfl
theorem lX8_346 : Cond.methodLink RX8 346 (mY nX8_mixStreet) ∈ gt_ := gt_mem (i := 1460) (by decide +kernel) rfl
def nw_ : List Cond := [.methodLinkNest RX2 99 (mY nX7_has) "StreetKeys", .methodLinkNest RX6 48 (mY nX7_has) "StreetKeys", .methodLinkNest RX1 64 (mY nX7_has) "StreetKeys"]
theorem nw_tbl : ∀ w ∈ nw_, w ∈ lw_tbl := by decide +kernel
theorem lnX2_99 : Cond.methodLinkNest RX2 99 (mY nX7_has) "StreetKeys" ∈ nw_ := by decide +kernel
theorem lnX6_48 : Cond.methodLinkNest RX6 48 (mY nX7_has) "StreetKeys" ∈ nw_ := by decide +kernel
theorem lnX1_64 : Cond.methodLinkNest RX1 64 (mY nX7_has) "StreetKeys" ∈ nw_ := by decide +kernel
theorem inX0 : ∀ w ∈ u_ws RX0 TX0 5, w ∈ gt_ := by decide +kernel
theorem inX1 : ∀ w ∈ u_ws RX1 TX1 7, w ∈ gt_ := by decide +kernel
theorem inX2 : ∀ w ∈ u_ws RX2 TX2 9, w ∈ gt_ := by decide +kernel
theorem inX3 : ∀ w ∈ u_ws RX3 TX3 4, w ∈ gt_ := by decide +kernel
theorem inX4 : ∀ w ∈ u_ws RX4 TX4 3, w ∈ gt_ := by decide +kernel
theorem inX5 : ∀ w ∈ u_ws RX5 TX5 5, w ∈ gt_ := by decide +kernel
theorem inX6 : ∀ w ∈ u_ws RX6 TX6 9, w ∈ gt_ := by decide +kernel
theorem inX7 : ∀ w ∈ u_ws RX7 TX7 15, w ∈ gt_ := by decide +kernel
theorem inX8 : ∀ w ∈ u_ws RX8 TX8 50, w ∈ gt_ := by decide +kernel
