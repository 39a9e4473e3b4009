/-! the constructor of the class -/
theorem fsX7 : ∀ j, j < 15 → defaultValue (tyX7 j) = vp_V [.null, .null, .null, .null, .null, .null, .null, .null, .null, .null, .null, .int 0, .int 0, .long 0, .long 0] j := fun j hj => match j, hj with
  | 0, _ => rfl
  | 1, _ => rfl
  | 2, _ => rfl
  | 3, _ => rfl
  | 4, _ => rfl
  | 5, _ => rfl
  | 6, _ => rfl
  | 7, _ => rfl
  | 8, _ => rfl
  | 9, _ => rfl
  | 10, _ => rfl
  | 11, _ => rfl
  | 12, _ => rfl
  | 13, _ => rfl
  | 14, _ => rfl
  | k + 15, h => absurd h (by omega)
theorem jkX7_init : KN nX7_init 0 := ⟨gt_mem (i := 107) (by decide +kernel) rfl, gt_mem (i := 108) (by decide +kernel) rfl, gt_mem (i := 92) (by decide +kernel) rfl, rfl, by decide +kernel⟩
theorem joX7_1 : Cond.methodLink RX7 1 objectInit ∈ gt_ := gt_mem (i := 109) (by decide +kernel) rfl
theorem jnX7_7 : Cond.classLink RX7 7 RX4 ∈ gt_ := gt_mem (i := 112) (by decide +kernel) rfl
theorem jiX4 : Cond.instantiable RX4 3 ∈ gt_ := gt_mem (i := 113) (by decide +kernel) rfl
theorem jzX4 : Cond.initialized RX4 ∈ gt_ := gt_mem (i := 93) (by decide +kernel) rfl
theorem jcX7_11 : Cond.methodLink RX7 11 (mY nX4_init) ∈ gt_ := gt_mem (i := 114) (by decide +kernel) rfl
theorem jFX7_14 : FF RX7 14 7 0 (.object "StreetKeys$Shelf") := ⟨_, _, rfl, by decide, gt_mem (i := 310) (by decide +kernel) rfl, rfl, rfl, by decide +kernel⟩
theorem jFX7_18 : FF RX7 18 7 1 (.object "StreetKeys$Shelf") := ⟨_, _, rfl, by decide, gt_mem (i := 311) (by decide +kernel) rfl, rfl, rfl, by decide +kernel⟩
theorem jnX7_21 : Cond.classLink RX7 21 RX0 ∈ gt_ := gt_mem (i := 130) (by decide +kernel) rfl
theorem jiX0 : Cond.instantiable RX0 5 ∈ gt_ := gt_mem (i := 131) (by decide +kernel) rfl
theorem jzX0 : Cond.initialized RX0 ∈ gt_ := gt_mem (i := 94) (by decide +kernel) rfl
theorem jFX7_24 : FF RX7 24 7 2 (.object "StreetKeys$Log") := ⟨_, _, rfl, by decide, gt_mem (i := 312) (by decide +kernel) rfl, rfl, rfl, by decide +kernel⟩
theorem jFX7_28 : FF RX7 28 7 3 (.object "StreetKeys$Log") := ⟨_, _, rfl, by decide, gt_mem (i := 313) (by decide +kernel) rfl, rfl, rfl, by decide +kernel⟩
theorem jnX7_31 : Cond.classLink RX7 31 RX2 ∈ gt_ := gt_mem (i := 162) (by decide +kernel) rfl
theorem jiX2 : Cond.instantiable RX2 9 ∈ gt_ := gt_mem (i := 163) (by decide +kernel) rfl
theorem jzX2 : Cond.initialized RX2 ∈ gt_ := gt_mem (i := 95) (by decide +kernel) rfl
theorem jFX7_34 : FF RX7 34 7 4 (.object "StreetKeys$Present") := ⟨_, _, rfl, by decide, gt_mem (i := 314) (by decide +kernel) rfl, rfl, rfl, by decide +kernel⟩
theorem jnX7_38 : Cond.classLink RX7 38 RX3 ∈ gt_ := gt_mem (i := 200) (by decide +kernel) rfl
theorem jiX3 : Cond.instantiable RX3 4 ∈ gt_ := gt_mem (i := 201) (by decide +kernel) rfl
theorem jzX3 : Cond.initialized RX3 ∈ gt_ := gt_mem (i := 96) (by decide +kernel) rfl
theorem jFX7_41 : FF RX7 41 7 5 (.object "StreetKeys$Scan") := ⟨_, _, rfl, by decide, gt_mem (i := 315) (by decide +kernel) rfl, rfl, rfl, by decide +kernel⟩
theorem jnX7_45 : Cond.classLink RX7 45 RX6 ∈ gt_ := gt_mem (i := 220) (by decide +kernel) rfl
theorem jiX6 : Cond.instantiable RX6 9 ∈ gt_ := gt_mem (i := 221) (by decide +kernel) rfl
theorem jzX6 : Cond.initialized RX6 ∈ gt_ := gt_mem (i := 97) (by decide +kernel) rfl
theorem jFX7_48 : FF RX7 48 7 6 (.object "StreetKeys$Way") := ⟨_, _, rfl, by decide, gt_mem (i := 316) (by decide +kernel) rfl, rfl, rfl, by decide +kernel⟩
theorem jnX7_52 : Cond.classLink RX7 52 RX1 ∈ gt_ := gt_mem (i := 254) (by decide +kernel) rfl
theorem jiX1 : Cond.instantiable RX1 7 ∈ gt_ := gt_mem (i := 255) (by decide +kernel) rfl
theorem jzX1 : Cond.initialized RX1 ∈ gt_ := gt_mem (i := 98) (by decide +kernel) rfl
theorem jFX7_55 : FF RX7 55 7 7 (.object "StreetKeys$Plan") := ⟨_, _, rfl, by decide, gt_mem (i := 317) (by decide +kernel) rfl, rfl, rfl, by decide +kernel⟩
theorem jFX7_59 : FF RX7 59 7 8 (.array .int) := ⟨_, _, rfl, by decide, gt_mem (i := 318) (by decide +kernel) rfl, rfl, rfl, by decide +kernel⟩
theorem jnX7_63 : Cond.classLink RX7 63 RX5 ∈ gt_ := gt_mem (i := 283) (by decide +kernel) rfl
theorem jiX5 : Cond.instantiable RX5 5 ∈ gt_ := gt_mem (i := 284) (by decide +kernel) rfl
theorem jzX5 : Cond.initialized RX5 ∈ gt_ := gt_mem (i := 99) (by decide +kernel) rfl
theorem jPX7_66 : FP RX7 66 7 9 (.object "StreetKeys$Street") := ⟨_, _, _, rfl, by decide, gt_mem (i := 319) (by decide +kernel) rfl, rfl, rfl, by decide +kernel⟩
theorem jPX7_70 : FP RX7 70 7 10 (.object "StreetKeys$Street") := ⟨_, _, _, rfl, by decide, gt_mem (i := 320) (by decide +kernel) rfl, rfl, rfl, by decide +kernel⟩
theorem jPX7_73 : FP RX7 73 7 11 .int := ⟨_, _, _, rfl, by decide, gt_mem (i := 321) (by decide +kernel) rfl, rfl, rfl, by decide +kernel⟩
theorem jPX7_77 : FP RX7 77 7 12 .int := ⟨_, _, _, rfl, by decide, gt_mem (i := 322) (by decide +kernel) rfl, rfl, rfl, by decide +kernel⟩
theorem jPX7_80 : FP RX7 80 7 13 .long := ⟨_, _, _, rfl, by decide, gt_mem (i := 323) (by decide +kernel) rfl, rfl, rfl, by decide +kernel⟩
theorem jPX7_84 : FP RX7 84 7 14 .long := ⟨_, _, _, rfl, by decide, gt_mem (i := 324) (by decide +kernel) rfl, rfl, rfl, by decide +kernel⟩
def LX7 : LT := fun cI cB h0 u => [(h0, .inr (7, [.ref (u 1), .ref (u 4), .ref (u 7), .ref (u 12), .ref (u 17), .ref (u 26), .ref (u 28), .ref (u 33), .ref (u 41), .ref (u 42), .ref (u 46), .int 0, .int 0, .long 0, .long 1])), (u 1, .inr (4, [.int 40, .ref (u 2), .ref (u 3)])), (u 2, .inl (cI, 6, .inl sz6)), (u 3, .inl (cI, 240, .inl z_)), (u 4, .inr (4, [.int 120, .ref (u 5), .ref (u 6)])), (u 5, .inl (cI, 4, .inl sz4)), (u 6, .inl (cI, 480, .inl z_)), (u 7, .inr (0, [.int 0, .ref (u 8), .ref (u 9), .ref (u 10), .ref (u 11)])), (u 8, .inl (cI, 40, .inl z_)), (u 9, .inl (cI, 40, .inl z_)), (u 10, .inl (cI, 40, .inl z_)), (u 11, .inl (cI, 40, .inl z_)), (u 12, .inr (0, [.int 0, .ref (u 13), .ref (u 14), .ref (u 15), .ref (u 16)])), (u 13, .inl (cI, 40, .inl z_)), (u 14, .inl (cI, 40, .inl z_)), (u 15, .inl (cI, 40, .inl z_)), (u 16, .inl (cI, 40, .inl z_)), (u 17, .inr (2, [.int 0, .ref (u 18), .ref (u 19), .ref (u 20), .ref (u 21), .ref (u 22), .ref (u 23), .ref (u 24), .ref (u 25)])), (u 18, .inl (cI, 24, .inl z_)), (u 19, .inl (cI, 24, .inl z_)), (u 20, .inl (cI, 24, .inl z_)), (u 21, .inl (cI, 24, .inl z_)), (u 22, .inl (cI, 24, .inl z_)), (u 23, .inl (cI, 6, .inl z_)), (u 24, .inl (cI, 144, .inl z_)), (u 25, .inl (cI, 6, .inl z_)), (u 26, .inr (3, [.ref (u 27), .int 0, .int 0, .int (-9)])), (u 27, .inl (cI, 120, .inl z_)), (u 28, .inr (6, [.int 0, .int 0, .int 0, .int 0, .int 0, .ref (u 29), .ref (u 30), .ref (u 31), .ref (u 32)])), (u 29, .inl (cI, 6, .inl z_)), (u 30, .inl (cI, 6, .inl z_)), (u 31, .inl (cI, 4096, .inl z_)), (u 32, .inl (cI, 4374, .inl z_)), (u 33, .inr (1, [.ref (u 34), .ref (u 35), .ref (u 36), .ref (u 37), .ref (u 38), .ref (u 39), .ref (u 40)])), (u 34, .inl (cI, 6, .inl z_)), (u 35, .inl (cI, 6, .inl z_)), (u 36, .inl (cI, 6, .inl z_)), (u 37, .inl (cI, 6, .inl z_)), (u 38, .inl (cI, 6, .inl z_)), (u 39, .inl (cI, 6, .inl z_)), (u 40, .inl (cI, 6, .inl z_)), (u 41, .inl (cI, 6, .inl z_)), (u 42, .inr (5, [.int 0, .int 0, .ref (u 43), .ref (u 44), .ref (u 45)])), (u 43, .inl (cI, 6, .inl z_)), (u 44, .inl (cI, 12, .inl z_)), (u 45, .inl (cI, 12, .inl z_)), (u 46, .inr (5, [.int 0, .int 0, .ref (u 47), .ref (u 48), .ref (u 49)])), (u 47, .inl (cI, 6, .inl z_)), (u 48, .inl (cI, 12, .inl z_)), (u 49, .inl (cI, 12, .inl z_))]
set_option maxHeartbeats 4000000 in
set_option maxRecDepth 100000 in
theorem i_X7 (l : Launch) : IM l nX7_init 49 10091 7 [.null, .null, .null, .null, .null, .null, .null, .null, .null, .null, .null, .int 0, .int 0, .long 0, .long 0] [] LX7 := by
  refine met_I (by decide +kernel) rfl (fun h0 => Nat.le_of_ble_eq_true rfl) (fun D cI cB h0 p e s m below meth c ls A C0 hr hlk hmn hA hP hD hS hl => ?_)
  have hx := C0.1.1
  have hb := C0.1.2.1
  have hl : lv_has ls 1 [(0, .ref h0)] := hl
  have hfl : ([.null, .null, .null, .null, .null, .null, .null, .null, .null, .null, .null, .int 0, .int 0, .long 0, .long 0] : List Value).length = 15 := rfl
  refine lv_aload_n hx hb dX7_init_0 rfl (lv_at hl 0 rfl) ?_
  refine i_obj C0 hl.1 joX7_1 dX7_init_1 ⟨Nat.le_of_ble_eq_true rfl, Nat.le_of_ble_eq_true rfl⟩ ?_
  refine lv_aload_n hx hb dX7_init_4 rfl (lv_at hl 0 rfl) ?_
  refine i_new (rest := [.ref h0]) C0 hA hP hD hS (cj := 4) rfl tyX4 tyX4_ok ⟨jnX7_7, jiX4, jzX4⟩ fsX4 ⟨Nat.le_of_ble_eq_true rfl, Nat.le_of_ble_eq_true rfl⟩ dX7_init_5 dX7_init_8 (fun q1 H hP hD hS => ?_)
  refine lv_bipush (v := 6) hx hb dX7_init_9 (by decide) ?_
  refine lv_bipush (v := 40) hx hb dX7_init_11 (by decide) ?_
  refine i_call (rest := [.ref q1, .ref h0]) C0 hA hP hD hS (i_X4a l) (Or.inl jcX7_11) jkX4_init rfl ⟨Nat.le_of_ble_eq_true rfl, Nat.le_of_ble_eq_true rfl⟩ hl.1 (Nat.le_of_ble_eq_true rfl) ⟨Nat.le_of_ble_eq_true rfl, Nat.le_of_ble_eq_true rfl⟩ dX7_init_13 rfl (fun u1 H locs hP hD hS => ?_)
  refine i_putF C0 hmn hP hD hS jFX7_14 rfl rfl hfl rfl dX7_init_16 (fun H locs hP hD hS hfl => ?_)
  refine lv_aload_n hx hb dX7_init_19 rfl (lv_at hl 0 rfl) ?_
  refine i_new (rest := [.ref h0]) C0 hA hP hD hS (cj := 4) rfl tyX4 tyX4_ok ⟨jnX7_7, jiX4, jzX4⟩ fsX4 ⟨Nat.le_of_ble_eq_true rfl, Nat.le_of_ble_eq_true rfl⟩ dX7_init_20 dX7_init_23 (fun q2 H hP hD hS => ?_)
  refine lv_iconst (v := 4) hx hb dX7_init_24 (by decide) ?_
  refine lv_bipush (v := 120) hx hb dX7_init_25 (by decide) ?_
  refine i_call (rest := [.ref q2, .ref h0]) C0 hA hP hD hS (i_X4b l) (Or.inl jcX7_11) jkX4_init rfl ⟨Nat.le_of_ble_eq_true rfl, Nat.le_of_ble_eq_true rfl⟩ hl.1 (Nat.le_of_ble_eq_true rfl) ⟨Nat.le_of_ble_eq_true rfl, Nat.le_of_ble_eq_true rfl⟩ dX7_init_27 rfl (fun u2 H locs hP hD hS => ?_)
  refine i_putF C0 hmn hP hD hS jFX7_18 rfl rfl hfl rfl dX7_init_30 (fun H locs hP hD hS hfl => ?_)
  refine lv_aload_n hx hb dX7_init_33 rfl (lv_at hl 0 rfl) ?_
  refine i_new (rest := [.ref h0]) C0 hA hP hD hS (cj := 0) rfl tyX0 tyX0_ok ⟨jnX7_21, jiX0, jzX0⟩ fsX0 ⟨Nat.le_of_ble_eq_true rfl, Nat.le_of_ble_eq_true rfl⟩ dX7_init_34 dX7_init_37 (fun q3 H hP hD hS => ?_)
  refine i_call (rest := [.ref q3, .ref h0]) C0 hA hP hD hS (i_X0 l) (Or.inr ⟨"StreetKeys", List.mem_of_getElem? (i := 0) rfl⟩) jkX0_init rfl ⟨Nat.le_of_ble_eq_true rfl, Nat.le_of_ble_eq_true rfl⟩ hl.1 (Nat.le_of_ble_eq_true rfl) ⟨Nat.le_of_ble_eq_true rfl, Nat.le_of_ble_eq_true rfl⟩ dX7_init_38 rfl (fun u3 H locs hP hD hS => ?_)
  refine i_putF C0 hmn hP hD hS jFX7_24 rfl rfl hfl rfl dX7_init_41 (fun H locs hP hD hS hfl => ?_)
  refine lv_aload_n hx hb dX7_init_44 rfl (lv_at hl 0 rfl) ?_
  refine i_new (rest := [.ref h0]) C0 hA hP hD hS (cj := 0) rfl tyX0 tyX0_ok ⟨jnX7_21, jiX0, jzX0⟩ fsX0 ⟨Nat.le_of_ble_eq_true rfl, Nat.le_of_ble_eq_true rfl⟩ dX7_init_45 dX7_init_48 (fun q4 H hP hD hS => ?_)
  refine i_call (rest := [.ref q4, .ref h0]) C0 hA hP hD hS (i_X0 l) (Or.inr ⟨"StreetKeys", List.mem_of_getElem? (i := 0) rfl⟩) jkX0_init rfl ⟨Nat.le_of_ble_eq_true rfl, Nat.le_of_ble_eq_true rfl⟩ hl.1 (Nat.le_of_ble_eq_true rfl) ⟨Nat.le_of_ble_eq_true rfl, Nat.le_of_ble_eq_true rfl⟩ dX7_init_49 rfl (fun u4 H locs hP hD hS => ?_)
  refine i_putF C0 hmn hP hD hS jFX7_28 rfl rfl hfl rfl dX7_init_52 (fun H locs hP hD hS hfl => ?_)
  refine lv_aload_n hx hb dX7_init_55 rfl (lv_at hl 0 rfl) ?_
  refine i_new (rest := [.ref h0]) C0 hA hP hD hS (cj := 2) rfl tyX2 tyX2_ok ⟨jnX7_31, jiX2, jzX2⟩ fsX2 ⟨Nat.le_of_ble_eq_true rfl, Nat.le_of_ble_eq_true rfl⟩ dX7_init_56 dX7_init_59 (fun q5 H hP hD hS => ?_)
  refine i_call (rest := [.ref q5, .ref h0]) C0 hA hP hD hS (i_X2 l) (Or.inr ⟨"StreetKeys", List.mem_of_getElem? (i := 1) rfl⟩) jkX2_init rfl ⟨Nat.le_of_ble_eq_true rfl, Nat.le_of_ble_eq_true rfl⟩ hl.1 (Nat.le_of_ble_eq_true rfl) ⟨Nat.le_of_ble_eq_true rfl, Nat.le_of_ble_eq_true rfl⟩ dX7_init_60 rfl (fun u5 H locs hP hD hS => ?_)
  refine i_putF C0 hmn hP hD hS jFX7_34 rfl rfl hfl rfl dX7_init_63 (fun H locs hP hD hS hfl => ?_)
  refine lv_aload_n hx hb dX7_init_66 rfl (lv_at hl 0 rfl) ?_
  refine i_new (rest := [.ref h0]) C0 hA hP hD hS (cj := 3) rfl tyX3 tyX3_ok ⟨jnX7_38, jiX3, jzX3⟩ fsX3 ⟨Nat.le_of_ble_eq_true rfl, Nat.le_of_ble_eq_true rfl⟩ dX7_init_67 dX7_init_70 (fun q6 H hP hD hS => ?_)
  refine i_call (rest := [.ref q6, .ref h0]) C0 hA hP hD hS (i_X3 l) (Or.inr ⟨"StreetKeys", List.mem_of_getElem? (i := 2) rfl⟩) jkX3_init rfl ⟨Nat.le_of_ble_eq_true rfl, Nat.le_of_ble_eq_true rfl⟩ hl.1 (Nat.le_of_ble_eq_true rfl) ⟨Nat.le_of_ble_eq_true rfl, Nat.le_of_ble_eq_true rfl⟩ dX7_init_71 rfl (fun u6 H locs hP hD hS => ?_)
  refine i_putF C0 hmn hP hD hS jFX7_41 rfl rfl hfl rfl dX7_init_74 (fun H locs hP hD hS hfl => ?_)
  refine lv_aload_n hx hb dX7_init_77 rfl (lv_at hl 0 rfl) ?_
  refine i_new (rest := [.ref h0]) C0 hA hP hD hS (cj := 6) rfl tyX6 tyX6_ok ⟨jnX7_45, jiX6, jzX6⟩ fsX6 ⟨Nat.le_of_ble_eq_true rfl, Nat.le_of_ble_eq_true rfl⟩ dX7_init_78 dX7_init_81 (fun q7 H hP hD hS => ?_)
  refine i_call (rest := [.ref q7, .ref h0]) C0 hA hP hD hS (i_X6 l) (Or.inr ⟨"StreetKeys", List.mem_of_getElem? (i := 3) rfl⟩) jkX6_init rfl ⟨Nat.le_of_ble_eq_true rfl, Nat.le_of_ble_eq_true rfl⟩ hl.1 (Nat.le_of_ble_eq_true rfl) ⟨Nat.le_of_ble_eq_true rfl, Nat.le_of_ble_eq_true rfl⟩ dX7_init_82 rfl (fun u7 H locs hP hD hS => ?_)
  refine i_putF C0 hmn hP hD hS jFX7_48 rfl rfl hfl rfl dX7_init_85 (fun H locs hP hD hS hfl => ?_)
  refine lv_aload_n hx hb dX7_init_88 rfl (lv_at hl 0 rfl) ?_
  refine i_new (rest := [.ref h0]) C0 hA hP hD hS (cj := 1) rfl tyX1 tyX1_ok ⟨jnX7_52, jiX1, jzX1⟩ fsX1 ⟨Nat.le_of_ble_eq_true rfl, Nat.le_of_ble_eq_true rfl⟩ dX7_init_89 dX7_init_92 (fun q8 H hP hD hS => ?_)
  refine i_call (rest := [.ref q8, .ref h0]) C0 hA hP hD hS (i_X1 l) (Or.inr ⟨"StreetKeys", List.mem_of_getElem? (i := 4) rfl⟩) jkX1_init rfl ⟨Nat.le_of_ble_eq_true rfl, Nat.le_of_ble_eq_true rfl⟩ hl.1 (Nat.le_of_ble_eq_true rfl) ⟨Nat.le_of_ble_eq_true rfl, Nat.le_of_ble_eq_true rfl⟩ dX7_init_93 rfl (fun u8 H locs hP hD hS => ?_)
  refine i_putF C0 hmn hP hD hS jFX7_55 rfl rfl hfl rfl dX7_init_96 (fun H locs hP hD hS hfl => ?_)
  refine lv_aload_n hx hb dX7_init_99 rfl (lv_at hl 0 rfl) ?_
  refine lv_bipush (v := 6) hx hb dX7_init_100 (by decide) ?_
  refine i_naI C0 hmn hA hP hD hS 6 (by decide) (by decide +kernel) (by decide) (Nat.le_of_ble_eq_true rfl) (Nat.le_of_ble_eq_true rfl) dX7_init_102 dX7_init_104 jFX7_59 hfl rfl (fun q9 H locs hP hD hS hfl => ?_)
  refine lv_aload_n hx hb dX7_init_107 rfl (lv_at hl 0 rfl) ?_
  refine i_new (rest := [.ref h0]) C0 hA hP hD hS (cj := 5) rfl tyX5 tyX5_ok ⟨jnX7_63, jiX5, jzX5⟩ fsX5 ⟨Nat.le_of_ble_eq_true rfl, Nat.le_of_ble_eq_true rfl⟩ dX7_init_108 dX7_init_111 (fun q10 H hP hD hS => ?_)
  refine i_call (rest := [.ref q10, .ref h0]) C0 hA hP hD hS (i_X5 l) (Or.inr ⟨"StreetKeys", List.mem_of_getElem? (i := 5) rfl⟩) jkX5_init rfl ⟨Nat.le_of_ble_eq_true rfl, Nat.le_of_ble_eq_true rfl⟩ hl.1 (Nat.le_of_ble_eq_true rfl) ⟨Nat.le_of_ble_eq_true rfl, Nat.le_of_ble_eq_true rfl⟩ dX7_init_112 rfl (fun u10 H locs hP hD hS => ?_)
  refine i_put C0 hP hD hS jPX7_66 rfl rfl hfl rfl dX7_init_115 (fun H locs hP hD hS hfl => ?_)
  refine lv_aload_n hx hb dX7_init_118 rfl (lv_at hl 0 rfl) ?_
  refine i_new (rest := [.ref h0]) C0 hA hP hD hS (cj := 5) rfl tyX5 tyX5_ok ⟨jnX7_63, jiX5, jzX5⟩ fsX5 ⟨Nat.le_of_ble_eq_true rfl, Nat.le_of_ble_eq_true rfl⟩ dX7_init_119 dX7_init_122 (fun q11 H hP hD hS => ?_)
  refine i_call (rest := [.ref q11, .ref h0]) C0 hA hP hD hS (i_X5 l) (Or.inr ⟨"StreetKeys", List.mem_of_getElem? (i := 5) rfl⟩) jkX5_init rfl ⟨Nat.le_of_ble_eq_true rfl, Nat.le_of_ble_eq_true rfl⟩ hl.1 (Nat.le_of_ble_eq_true rfl) ⟨Nat.le_of_ble_eq_true rfl, Nat.le_of_ble_eq_true rfl⟩ dX7_init_123 rfl (fun u11 H locs hP hD hS => ?_)
  refine i_put C0 hP hD hS jPX7_70 rfl rfl hfl rfl dX7_init_126 (fun H locs hP hD hS hfl => ?_)
  refine lv_aload_n hx hb dX7_init_129 rfl (lv_at hl 0 rfl) ?_
  refine lv_iconst (v := 0) hx hb dX7_init_130 (by decide) ?_
  refine i_put C0 hP hD hS jPX7_73 rfl rfl hfl rfl dX7_init_131 (fun H locs hP hD hS hfl => ?_)
  refine lv_aload_n hx hb dX7_init_134 rfl (lv_at hl 0 rfl) ?_
  refine lv_iconst (v := 0) hx hb dX7_init_135 (by decide) ?_
  refine i_put C0 hP hD hS jPX7_77 rfl rfl hfl rfl dX7_init_136 (fun H locs hP hD hS hfl => ?_)
  refine lv_aload_n hx hb dX7_init_139 rfl (lv_at hl 0 rfl) ?_
  refine lv_lconst (v := 0) hx hb dX7_init_140 (by decide) ?_
  refine i_put C0 hP hD hS jPX7_80 rfl rfl hfl rfl dX7_init_141 (fun H locs hP hD hS hfl => ?_)
  refine lv_aload_n hx hb dX7_init_144 rfl (lv_at hl 0 rfl) ?_
  refine lv_lconst (v := 1) hx hb dX7_init_145 (by decide) ?_
  refine i_put C0 hP hD hS jPX7_84 rfl rfl hfl rfl dX7_init_146 (fun H locs hP hD hS hfl => ?_)
  exact i_ret C0 hr hlk (fun k => ([h0, q1, (u1 1), (u1 2), q2, (u2 1), (u2 2), q3, (u3 1), (u3 2), (u3 3), (u3 4), q4, (u4 1), (u4 2), (u4 3), (u4 4), q5, (u5 1), (u5 2), (u5 3), (u5 4), (u5 5), (u5 6), (u5 7), (u5 8), q6, (u6 1), q7, (u7 1), (u7 2), (u7 3), (u7 4), q8, (u8 1), (u8 2), (u8 3), (u8 4), (u8 5), (u8 6), (u8 7), q9, q10, (u10 1), (u10 2), (u10 3), q11, (u11 1), (u11 2), (u11 3)] : List Nat).getD k 0) hP hD hS dX7_init_149
