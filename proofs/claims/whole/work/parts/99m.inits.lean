/-! the constructors of the small classes -/
abbrev z_ : Nat → Int32 := fun _ => 0
abbrev sz6 : Nat → Int32 := upd (upd (upd (upd (upd (upd z_ 0 (-1)) 1 (-1)) 2 (-1)) 3 (-1)) 4 (-1)) 5 (-1)
abbrev sz4 : Nat → Int32 := upd (upd (upd (upd z_ 0 (-1)) 1 (-1)) 2 (-1)) 3 (-1)
theorem fsX0 : ∀ j, j < 5 → defaultValue (tyX0 j) = vp_V [.int 0, .null, .null, .null, .null] j := fun j hj => match j, hj with
  | 0, _ => rfl
  | 1, _ => rfl
  | 2, _ => rfl
  | 3, _ => rfl
  | 4, _ => rfl
  | k + 5, h => absurd h (by omega)
theorem jkX0_init : KN nX0_init 0 := ⟨gt_mem (i := 133) (by decide +kernel) rfl, gt_mem (i := 134) (by decide +kernel) rfl, gt_mem (i := 94) (by decide +kernel) rfl, rfl, by decide +kernel⟩
theorem fsX1 : ∀ j, j < 7 → defaultValue (tyX1 j) = vp_V [.null, .null, .null, .null, .null, .null, .null] j := fun j hj => match j, hj with
  | 0, _ => rfl
  | 1, _ => rfl
  | 2, _ => rfl
  | 3, _ => rfl
  | 4, _ => rfl
  | 5, _ => rfl
  | 6, _ => rfl
  | k + 7, h => absurd h (by omega)
theorem jkX1_init : KN nX1_init 0 := ⟨gt_mem (i := 257) (by decide +kernel) rfl, gt_mem (i := 258) (by decide +kernel) rfl, gt_mem (i := 98) (by decide +kernel) rfl, rfl, by decide +kernel⟩
theorem fsX2 : ∀ j, j < 9 → defaultValue (tyX2 j) = vp_V [.int 0, .null, .null, .null, .null, .null, .null, .null, .null] j := fun j hj => match j, hj with
  | 0, _ => rfl
  | 1, _ => rfl
  | 2, _ => rfl
  | 3, _ => rfl
  | 4, _ => rfl
  | 5, _ => rfl
  | 6, _ => rfl
  | 7, _ => rfl
  | 8, _ => rfl
  | k + 9, h => absurd h (by omega)
theorem jkX2_init : KN nX2_init 0 := ⟨gt_mem (i := 165) (by decide +kernel) rfl, gt_mem (i := 166) (by decide +kernel) rfl, gt_mem (i := 95) (by decide +kernel) rfl, rfl, by decide +kernel⟩
theorem fsX3 : ∀ j, j < 4 → defaultValue (tyX3 j) = vp_V [.null, .int 0, .int 0, .int 0] j := fun j hj => match j, hj with
  | 0, _ => rfl
  | 1, _ => rfl
  | 2, _ => rfl
  | 3, _ => rfl
  | k + 4, h => absurd h (by omega)
theorem jkX3_init : KN nX3_init 0 := ⟨gt_mem (i := 203) (by decide +kernel) rfl, gt_mem (i := 204) (by decide +kernel) rfl, gt_mem (i := 96) (by decide +kernel) rfl, rfl, by decide +kernel⟩
theorem fsX4 : ∀ j, j < 3 → defaultValue (tyX4 j) = vp_V [.int 0, .null, .null] j := fun j hj => match j, hj with
  | 0, _ => rfl
  | 1, _ => rfl
  | 2, _ => rfl
  | k + 3, h => absurd h (by omega)
theorem jkX4_init : KN nX4_init 2 := ⟨gt_mem (i := 115) (by decide +kernel) rfl, gt_mem (i := 116) (by decide +kernel) rfl, gt_mem (i := 93) (by decide +kernel) rfl, rfl, by decide +kernel⟩
theorem fsX5 : ∀ j, j < 5 → defaultValue (tyX5 j) = vp_V [.int 0, .int 0, .null, .null, .null] j := fun j hj => match j, hj with
  | 0, _ => rfl
  | 1, _ => rfl
  | 2, _ => rfl
  | 3, _ => rfl
  | 4, _ => rfl
  | k + 5, h => absurd h (by omega)
theorem jkX5_init : KN nX5_init 0 := ⟨gt_mem (i := 286) (by decide +kernel) rfl, gt_mem (i := 287) (by decide +kernel) rfl, gt_mem (i := 99) (by decide +kernel) rfl, rfl, by decide +kernel⟩
theorem fsX6 : ∀ j, j < 9 → defaultValue (tyX6 j) = vp_V [.int 0, .int 0, .int 0, .int 0, .int 0, .null, .null, .null, .null] j := fun j hj => match j, hj with
  | 0, _ => rfl
  | 1, _ => rfl
  | 2, _ => rfl
  | 3, _ => rfl
  | 4, _ => rfl
  | 5, _ => rfl
  | 6, _ => rfl
  | 7, _ => rfl
  | 8, _ => rfl
  | k + 9, h => absurd h (by omega)
theorem jkX6_init : KN nX6_init 0 := ⟨gt_mem (i := 223) (by decide +kernel) rfl, gt_mem (i := 224) (by decide +kernel) rfl, gt_mem (i := 97) (by decide +kernel) rfl, rfl, by decide +kernel⟩
theorem joX0_3 : Cond.methodLink RX0 3 objectInit ∈ gt_ := gt_mem (i := 135) (by decide +kernel) rfl
theorem jFX0_9 : FF RX0 9 0 1 (.array .int) := ⟨_, _, rfl, by decide, gt_mem (i := 140) (by decide +kernel) rfl, rfl, rfl, by decide +kernel⟩
theorem jFX0_15 : FF RX0 15 0 2 (.array .int) := ⟨_, _, rfl, by decide, gt_mem (i := 143) (by decide +kernel) rfl, rfl, rfl, by decide +kernel⟩
theorem jFX0_18 : FF RX0 18 0 3 (.array .int) := ⟨_, _, rfl, by decide, gt_mem (i := 146) (by decide +kernel) rfl, rfl, rfl, by decide +kernel⟩
theorem jFX0_21 : FF RX0 21 0 4 (.array .int) := ⟨_, _, rfl, by decide, gt_mem (i := 149) (by decide +kernel) rfl, rfl, rfl, by decide +kernel⟩
def LX0 : LT := fun cI cB h0 u => [(h0, .inr (0, [.int 0, .ref (u 1), .ref (u 2), .ref (u 3), .ref (u 4)])), (u 1, .inl (cI, 40, .inl z_)), (u 2, .inl (cI, 40, .inl z_)), (u 3, .inl (cI, 40, .inl z_)), (u 4, .inl (cI, 40, .inl z_))]
set_option maxHeartbeats 4000000 in
set_option maxRecDepth 100000 in
theorem i_X0 (l : Launch) : IM l nX0_init 4 160 0 [.int 0, .null, .null, .null, .null] [] LX0 := by
  refine met_I (by decide +kernel) rfl (fun h0 => Nat.le_of_ble_eq_true rfl) (fun D cI cB h0 p e s m below meth c ls A C0 hr hlk hmn hA hP hD hS hl => ?_)
  have hx := C0.1.1
  have hb := C0.1.2.1
  have hl : lv_has ls 1 [(0, .ref h0)] := hl
  have hfl : ([.int 0, .null, .null, .null, .null] : List Value).length = 5 := rfl
  refine lv_aload_n hx hb dX0_init_0 rfl (lv_at hl 0 rfl) ?_
  refine i_obj C0 hl.1 joX0_3 dX0_init_1 ⟨Nat.le_of_ble_eq_true rfl, Nat.le_of_ble_eq_true rfl⟩ ?_
  refine lv_aload_n hx hb dX0_init_4 rfl (lv_at hl 0 rfl) ?_
  refine lv_bipush (v := 40) hx hb dX0_init_5 (by decide) ?_
  refine i_naI C0 hmn hA hP hD hS 40 (by decide) (by decide +kernel) (by decide) (Nat.le_of_ble_eq_true rfl) (Nat.le_of_ble_eq_true rfl) dX0_init_7 dX0_init_9 jFX0_9 hfl rfl (fun q1 H locs hP hD hS hfl => ?_)
  refine lv_aload_n hx hb dX0_init_12 rfl (lv_at hl 0 rfl) ?_
  refine lv_bipush (v := 40) hx hb dX0_init_13 (by decide) ?_
  refine i_naI C0 hmn hA hP hD hS 40 (by decide) (by decide +kernel) (by decide) (Nat.le_of_ble_eq_true rfl) (Nat.le_of_ble_eq_true rfl) dX0_init_15 dX0_init_17 jFX0_15 hfl rfl (fun q2 H locs hP hD hS hfl => ?_)
  refine lv_aload_n hx hb dX0_init_20 rfl (lv_at hl 0 rfl) ?_
  refine lv_bipush (v := 40) hx hb dX0_init_21 (by decide) ?_
  refine i_naI C0 hmn hA hP hD hS 40 (by decide) (by decide +kernel) (by decide) (Nat.le_of_ble_eq_true rfl) (Nat.le_of_ble_eq_true rfl) dX0_init_23 dX0_init_25 jFX0_18 hfl rfl (fun q3 H locs hP hD hS hfl => ?_)
  refine lv_aload_n hx hb dX0_init_28 rfl (lv_at hl 0 rfl) ?_
  refine lv_bipush (v := 40) hx hb dX0_init_29 (by decide) ?_
  refine i_naI C0 hmn hA hP hD hS 40 (by decide) (by decide +kernel) (by decide) (Nat.le_of_ble_eq_true rfl) (Nat.le_of_ble_eq_true rfl) dX0_init_31 dX0_init_33 jFX0_21 hfl rfl (fun q4 H locs hP hD hS hfl => ?_)
  exact i_ret C0 hr hlk (fun k => ([h0, q1, q2, q3, q4] : List Nat).getD k 0) hP hD hS dX0_init_36
theorem joX1_3 : Cond.methodLink RX1 3 objectInit ∈ gt_ := gt_mem (i := 259) (by decide +kernel) rfl
theorem jFX1_9 : FF RX1 9 1 0 (.array .int) := ⟨_, _, rfl, by decide, gt_mem (i := 260) (by decide +kernel) rfl, rfl, rfl, by decide +kernel⟩
theorem jFX1_15 : FF RX1 15 1 1 (.array .int) := ⟨_, _, rfl, by decide, gt_mem (i := 261) (by decide +kernel) rfl, rfl, rfl, by decide +kernel⟩
theorem jFX1_18 : FF RX1 18 1 2 (.array .int) := ⟨_, _, rfl, by decide, gt_mem (i := 262) (by decide +kernel) rfl, rfl, rfl, by decide +kernel⟩
theorem jFX1_21 : FF RX1 21 1 3 (.array .int) := ⟨_, _, rfl, by decide, gt_mem (i := 263) (by decide +kernel) rfl, rfl, rfl, by decide +kernel⟩
theorem jFX1_24 : FF RX1 24 1 4 (.array .int) := ⟨_, _, rfl, by decide, gt_mem (i := 264) (by decide +kernel) rfl, rfl, rfl, by decide +kernel⟩
theorem jFX1_27 : FF RX1 27 1 5 (.array .int) := ⟨_, _, rfl, by decide, gt_mem (i := 265) (by decide +kernel) rfl, rfl, rfl, by decide +kernel⟩
theorem jFX1_30 : FF RX1 30 1 6 (.array .int) := ⟨_, _, rfl, by decide, gt_mem (i := 266) (by decide +kernel) rfl, rfl, rfl, by decide +kernel⟩
def LX1 : LT := fun cI cB h0 u => [(h0, .inr (1, [.ref (u 1), .ref (u 2), .ref (u 3), .ref (u 4), .ref (u 5), .ref (u 6), .ref (u 7)])), (u 1, .inl (cI, 6, .inl z_)), (u 2, .inl (cI, 6, .inl z_)), (u 3, .inl (cI, 6, .inl z_)), (u 4, .inl (cI, 6, .inl z_)), (u 5, .inl (cI, 6, .inl z_)), (u 6, .inl (cI, 6, .inl z_)), (u 7, .inl (cI, 6, .inl z_))]
set_option maxHeartbeats 4000000 in
set_option maxRecDepth 100000 in
theorem i_X1 (l : Launch) : IM l nX1_init 7 42 1 [.null, .null, .null, .null, .null, .null, .null] [] LX1 := by
  refine met_I (by decide +kernel) rfl (fun h0 => Nat.le_of_ble_eq_true rfl) (fun D cI cB h0 p e s m below meth c ls A C0 hr hlk hmn hA hP hD hS hl => ?_)
  have hx := C0.1.1
  have hb := C0.1.2.1
  have hl : lv_has ls 1 [(0, .ref h0)] := hl
  have hfl : ([.null, .null, .null, .null, .null, .null, .null] : List Value).length = 7 := rfl
  refine lv_aload_n hx hb dX1_init_0 rfl (lv_at hl 0 rfl) ?_
  refine i_obj C0 hl.1 joX1_3 dX1_init_1 ⟨Nat.le_of_ble_eq_true rfl, Nat.le_of_ble_eq_true rfl⟩ ?_
  refine lv_aload_n hx hb dX1_init_4 rfl (lv_at hl 0 rfl) ?_
  refine lv_bipush (v := 6) hx hb dX1_init_5 (by decide) ?_
  refine i_naI C0 hmn hA hP hD hS 6 (by decide) (by decide +kernel) (by decide) (Nat.le_of_ble_eq_true rfl) (Nat.le_of_ble_eq_true rfl) dX1_init_7 dX1_init_9 jFX1_9 hfl rfl (fun q1 H locs hP hD hS hfl => ?_)
  refine lv_aload_n hx hb dX1_init_12 rfl (lv_at hl 0 rfl) ?_
  refine lv_bipush (v := 6) hx hb dX1_init_13 (by decide) ?_
  refine i_naI C0 hmn hA hP hD hS 6 (by decide) (by decide +kernel) (by decide) (Nat.le_of_ble_eq_true rfl) (Nat.le_of_ble_eq_true rfl) dX1_init_15 dX1_init_17 jFX1_15 hfl rfl (fun q2 H locs hP hD hS hfl => ?_)
  refine lv_aload_n hx hb dX1_init_20 rfl (lv_at hl 0 rfl) ?_
  refine lv_bipush (v := 6) hx hb dX1_init_21 (by decide) ?_
  refine i_naI C0 hmn hA hP hD hS 6 (by decide) (by decide +kernel) (by decide) (Nat.le_of_ble_eq_true rfl) (Nat.le_of_ble_eq_true rfl) dX1_init_23 dX1_init_25 jFX1_18 hfl rfl (fun q3 H locs hP hD hS hfl => ?_)
  refine lv_aload_n hx hb dX1_init_28 rfl (lv_at hl 0 rfl) ?_
  refine lv_bipush (v := 6) hx hb dX1_init_29 (by decide) ?_
  refine i_naI C0 hmn hA hP hD hS 6 (by decide) (by decide +kernel) (by decide) (Nat.le_of_ble_eq_true rfl) (Nat.le_of_ble_eq_true rfl) dX1_init_31 dX1_init_33 jFX1_21 hfl rfl (fun q4 H locs hP hD hS hfl => ?_)
  refine lv_aload_n hx hb dX1_init_36 rfl (lv_at hl 0 rfl) ?_
  refine lv_bipush (v := 6) hx hb dX1_init_37 (by decide) ?_
  refine i_naI C0 hmn hA hP hD hS 6 (by decide) (by decide +kernel) (by decide) (Nat.le_of_ble_eq_true rfl) (Nat.le_of_ble_eq_true rfl) dX1_init_39 dX1_init_41 jFX1_24 hfl rfl (fun q5 H locs hP hD hS hfl => ?_)
  refine lv_aload_n hx hb dX1_init_44 rfl (lv_at hl 0 rfl) ?_
  refine lv_bipush (v := 6) hx hb dX1_init_45 (by decide) ?_
  refine i_naI C0 hmn hA hP hD hS 6 (by decide) (by decide +kernel) (by decide) (Nat.le_of_ble_eq_true rfl) (Nat.le_of_ble_eq_true rfl) dX1_init_47 dX1_init_49 jFX1_27 hfl rfl (fun q6 H locs hP hD hS hfl => ?_)
  refine lv_aload_n hx hb dX1_init_52 rfl (lv_at hl 0 rfl) ?_
  refine lv_bipush (v := 6) hx hb dX1_init_53 (by decide) ?_
  refine i_naI C0 hmn hA hP hD hS 6 (by decide) (by decide +kernel) (by decide) (Nat.le_of_ble_eq_true rfl) (Nat.le_of_ble_eq_true rfl) dX1_init_55 dX1_init_57 jFX1_30 hfl rfl (fun q7 H locs hP hD hS hfl => ?_)
  exact i_ret C0 hr hlk (fun k => ([h0, q1, q2, q3, q4, q5, q6, q7] : List Nat).getD k 0) hP hD hS dX1_init_60
theorem joX2_3 : Cond.methodLink RX2 3 objectInit ∈ gt_ := gt_mem (i := 167) (by decide +kernel) rfl
theorem jFX2_9 : FF RX2 9 2 1 (.array .int) := ⟨_, _, rfl, by decide, gt_mem (i := 170) (by decide +kernel) rfl, rfl, rfl, by decide +kernel⟩
theorem jFX2_15 : FF RX2 15 2 2 (.array .int) := ⟨_, _, rfl, by decide, gt_mem (i := 172) (by decide +kernel) rfl, rfl, rfl, by decide +kernel⟩
theorem jFX2_18 : FF RX2 18 2 3 (.array .int) := ⟨_, _, rfl, by decide, gt_mem (i := 173) (by decide +kernel) rfl, rfl, rfl, by decide +kernel⟩
theorem jFX2_21 : FF RX2 21 2 4 (.array .int) := ⟨_, _, rfl, by decide, gt_mem (i := 175) (by decide +kernel) rfl, rfl, rfl, by decide +kernel⟩
theorem jFX2_24 : FF RX2 24 2 5 (.array .int) := ⟨_, _, rfl, by decide, gt_mem (i := 177) (by decide +kernel) rfl, rfl, rfl, by decide +kernel⟩
theorem jFX2_27 : FF RX2 27 2 6 (.array .int) := ⟨_, _, rfl, by decide, gt_mem (i := 178) (by decide +kernel) rfl, rfl, rfl, by decide +kernel⟩
theorem jFX2_30 : FF RX2 30 2 7 (.array .int) := ⟨_, _, rfl, by decide, gt_mem (i := 179) (by decide +kernel) rfl, rfl, rfl, by decide +kernel⟩
theorem jFX2_33 : FF RX2 33 2 8 (.array .int) := ⟨_, _, rfl, by decide, gt_mem (i := 180) (by decide +kernel) rfl, rfl, rfl, by decide +kernel⟩
def LX2 : LT := fun cI cB h0 u => [(h0, .inr (2, [.int 0, .ref (u 1), .ref (u 2), .ref (u 3), .ref (u 4), .ref (u 5), .ref (u 6), .ref (u 7), .ref (u 8)])), (u 1, .inl (cI, 24, .inl z_)), (u 2, .inl (cI, 24, .inl z_)), (u 3, .inl (cI, 24, .inl z_)), (u 4, .inl (cI, 24, .inl z_)), (u 5, .inl (cI, 24, .inl z_)), (u 6, .inl (cI, 6, .inl z_)), (u 7, .inl (cI, 144, .inl z_)), (u 8, .inl (cI, 6, .inl z_))]
set_option maxHeartbeats 4000000 in
set_option maxRecDepth 100000 in
theorem i_X2 (l : Launch) : IM l nX2_init 8 276 2 [.int 0, .null, .null, .null, .null, .null, .null, .null, .null] [] LX2 := by
  refine met_I (by decide +kernel) rfl (fun h0 => Nat.le_of_ble_eq_true rfl) (fun D cI cB h0 p e s m below meth c ls A C0 hr hlk hmn hA hP hD hS hl => ?_)
  have hx := C0.1.1
  have hb := C0.1.2.1
  have hl : lv_has ls 1 [(0, .ref h0)] := hl
  have hfl : ([.int 0, .null, .null, .null, .null, .null, .null, .null, .null] : List Value).length = 9 := rfl
  refine lv_aload_n hx hb dX2_init_0 rfl (lv_at hl 0 rfl) ?_
  refine i_obj C0 hl.1 joX2_3 dX2_init_1 ⟨Nat.le_of_ble_eq_true rfl, Nat.le_of_ble_eq_true rfl⟩ ?_
  refine lv_aload_n hx hb dX2_init_4 rfl (lv_at hl 0 rfl) ?_
  refine lv_bipush (v := 24) hx hb dX2_init_5 (by decide) ?_
  refine i_naI C0 hmn hA hP hD hS 24 (by decide) (by decide +kernel) (by decide) (Nat.le_of_ble_eq_true rfl) (Nat.le_of_ble_eq_true rfl) dX2_init_7 dX2_init_9 jFX2_9 hfl rfl (fun q1 H locs hP hD hS hfl => ?_)
  refine lv_aload_n hx hb dX2_init_12 rfl (lv_at hl 0 rfl) ?_
  refine lv_bipush (v := 24) hx hb dX2_init_13 (by decide) ?_
  refine i_naI C0 hmn hA hP hD hS 24 (by decide) (by decide +kernel) (by decide) (Nat.le_of_ble_eq_true rfl) (Nat.le_of_ble_eq_true rfl) dX2_init_15 dX2_init_17 jFX2_15 hfl rfl (fun q2 H locs hP hD hS hfl => ?_)
  refine lv_aload_n hx hb dX2_init_20 rfl (lv_at hl 0 rfl) ?_
  refine lv_bipush (v := 24) hx hb dX2_init_21 (by decide) ?_
  refine i_naI C0 hmn hA hP hD hS 24 (by decide) (by decide +kernel) (by decide) (Nat.le_of_ble_eq_true rfl) (Nat.le_of_ble_eq_true rfl) dX2_init_23 dX2_init_25 jFX2_18 hfl rfl (fun q3 H locs hP hD hS hfl => ?_)
  refine lv_aload_n hx hb dX2_init_28 rfl (lv_at hl 0 rfl) ?_
  refine lv_bipush (v := 24) hx hb dX2_init_29 (by decide) ?_
  refine i_naI C0 hmn hA hP hD hS 24 (by decide) (by decide +kernel) (by decide) (Nat.le_of_ble_eq_true rfl) (Nat.le_of_ble_eq_true rfl) dX2_init_31 dX2_init_33 jFX2_21 hfl rfl (fun q4 H locs hP hD hS hfl => ?_)
  refine lv_aload_n hx hb dX2_init_36 rfl (lv_at hl 0 rfl) ?_
  refine lv_bipush (v := 24) hx hb dX2_init_37 (by decide) ?_
  refine i_naI C0 hmn hA hP hD hS 24 (by decide) (by decide +kernel) (by decide) (Nat.le_of_ble_eq_true rfl) (Nat.le_of_ble_eq_true rfl) dX2_init_39 dX2_init_41 jFX2_24 hfl rfl (fun q5 H locs hP hD hS hfl => ?_)
  refine lv_aload_n hx hb dX2_init_44 rfl (lv_at hl 0 rfl) ?_
  refine lv_bipush (v := 6) hx hb dX2_init_45 (by decide) ?_
  refine i_naI C0 hmn hA hP hD hS 6 (by decide) (by decide +kernel) (by decide) (Nat.le_of_ble_eq_true rfl) (Nat.le_of_ble_eq_true rfl) dX2_init_47 dX2_init_49 jFX2_27 hfl rfl (fun q6 H locs hP hD hS hfl => ?_)
  refine lv_aload_n hx hb dX2_init_52 rfl (lv_at hl 0 rfl) ?_
  refine lv_sipush (v := 144) hx hb dX2_init_53 (by decide) ?_
  refine i_naI C0 hmn hA hP hD hS 144 (by decide) (by decide +kernel) (by decide) (Nat.le_of_ble_eq_true rfl) (Nat.le_of_ble_eq_true rfl) dX2_init_56 dX2_init_58 jFX2_30 hfl rfl (fun q7 H locs hP hD hS hfl => ?_)
  refine lv_aload_n hx hb dX2_init_61 rfl (lv_at hl 0 rfl) ?_
  refine lv_bipush (v := 6) hx hb dX2_init_62 (by decide) ?_
  refine i_naI C0 hmn hA hP hD hS 6 (by decide) (by decide +kernel) (by decide) (Nat.le_of_ble_eq_true rfl) (Nat.le_of_ble_eq_true rfl) dX2_init_64 dX2_init_66 jFX2_33 hfl rfl (fun q8 H locs hP hD hS hfl => ?_)
  exact i_ret C0 hr hlk (fun k => ([h0, q1, q2, q3, q4, q5, q6, q7, q8] : List Nat).getD k 0) hP hD hS dX2_init_69
theorem joX3_3 : Cond.methodLink RX3 3 objectInit ∈ gt_ := gt_mem (i := 205) (by decide +kernel) rfl
theorem jFX3_9 : FF RX3 9 3 0 (.array .int) := ⟨_, _, rfl, by decide, gt_mem (i := 206) (by decide +kernel) rfl, rfl, rfl, by decide +kernel⟩
theorem jPX3_15 : FP RX3 15 3 3 .int := ⟨_, _, _, rfl, by decide, gt_mem (i := 209) (by decide +kernel) rfl, rfl, rfl, by decide +kernel⟩
def LX3 : LT := fun cI cB h0 u => [(h0, .inr (3, [.ref (u 1), .int 0, .int 0, .int (-9)])), (u 1, .inl (cI, 120, .inl z_))]
set_option maxHeartbeats 4000000 in
set_option maxRecDepth 100000 in
theorem i_X3 (l : Launch) : IM l nX3_init 1 120 3 [.null, .int 0, .int 0, .int 0] [] LX3 := by
  refine met_I (by decide +kernel) rfl (fun h0 => Nat.le_of_ble_eq_true rfl) (fun D cI cB h0 p e s m below meth c ls A C0 hr hlk hmn hA hP hD hS hl => ?_)
  have hx := C0.1.1
  have hb := C0.1.2.1
  have hl : lv_has ls 1 [(0, .ref h0)] := hl
  have hfl : ([.null, .int 0, .int 0, .int 0] : List Value).length = 4 := rfl
  refine lv_aload_n hx hb dX3_init_0 rfl (lv_at hl 0 rfl) ?_
  refine i_obj C0 hl.1 joX3_3 dX3_init_1 ⟨Nat.le_of_ble_eq_true rfl, Nat.le_of_ble_eq_true rfl⟩ ?_
  refine lv_aload_n hx hb dX3_init_4 rfl (lv_at hl 0 rfl) ?_
  refine lv_bipush (v := 120) hx hb dX3_init_5 (by decide) ?_
  refine i_naI C0 hmn hA hP hD hS 120 (by decide) (by decide +kernel) (by decide) (Nat.le_of_ble_eq_true rfl) (Nat.le_of_ble_eq_true rfl) dX3_init_7 dX3_init_9 jFX3_9 hfl rfl (fun q1 H locs hP hD hS hfl => ?_)
  refine lv_aload_n hx hb dX3_init_12 rfl (lv_at hl 0 rfl) ?_
  refine lv_bipush (v := (-9)) hx hb dX3_init_13 (by decide) ?_
  refine i_put C0 hP hD hS jPX3_15 rfl rfl hfl rfl dX3_init_15 (fun H locs hP hD hS hfl => ?_)
  exact i_ret C0 hr hlk (fun k => ([h0, q1] : List Nat).getD k 0) hP hD hS dX3_init_18
theorem joX5_3 : Cond.methodLink RX5 3 objectInit ∈ gt_ := gt_mem (i := 288) (by decide +kernel) rfl
theorem jFX5_9 : FF RX5 9 5 2 (.array .int) := ⟨_, _, rfl, by decide, gt_mem (i := 296) (by decide +kernel) rfl, rfl, rfl, by decide +kernel⟩
theorem jFX5_15 : FF RX5 15 5 3 (.array .int) := ⟨_, _, rfl, by decide, gt_mem (i := 297) (by decide +kernel) rfl, rfl, rfl, by decide +kernel⟩
theorem jFX5_18 : FF RX5 18 5 4 (.array .int) := ⟨_, _, rfl, by decide, gt_mem (i := 298) (by decide +kernel) rfl, rfl, rfl, by decide +kernel⟩
def LX5 : LT := fun cI cB h0 u => [(h0, .inr (5, [.int 0, .int 0, .ref (u 1), .ref (u 2), .ref (u 3)])), (u 1, .inl (cI, 6, .inl z_)), (u 2, .inl (cI, 12, .inl z_)), (u 3, .inl (cI, 12, .inl z_))]
set_option maxHeartbeats 4000000 in
set_option maxRecDepth 100000 in
theorem i_X5 (l : Launch) : IM l nX5_init 3 30 5 [.int 0, .int 0, .null, .null, .null] [] LX5 := by
  refine met_I (by decide +kernel) rfl (fun h0 => Nat.le_of_ble_eq_true rfl) (fun D cI cB h0 p e s m below meth c ls A C0 hr hlk hmn hA hP hD hS hl => ?_)
  have hx := C0.1.1
  have hb := C0.1.2.1
  have hl : lv_has ls 1 [(0, .ref h0)] := hl
  have hfl : ([.int 0, .int 0, .null, .null, .null] : List Value).length = 5 := rfl
  refine lv_aload_n hx hb dX5_init_0 rfl (lv_at hl 0 rfl) ?_
  refine i_obj C0 hl.1 joX5_3 dX5_init_1 ⟨Nat.le_of_ble_eq_true rfl, Nat.le_of_ble_eq_true rfl⟩ ?_
  refine lv_aload_n hx hb dX5_init_4 rfl (lv_at hl 0 rfl) ?_
  refine lv_bipush (v := 6) hx hb dX5_init_5 (by decide) ?_
  refine i_naI C0 hmn hA hP hD hS 6 (by decide) (by decide +kernel) (by decide) (Nat.le_of_ble_eq_true rfl) (Nat.le_of_ble_eq_true rfl) dX5_init_7 dX5_init_9 jFX5_9 hfl rfl (fun q1 H locs hP hD hS hfl => ?_)
  refine lv_aload_n hx hb dX5_init_12 rfl (lv_at hl 0 rfl) ?_
  refine lv_bipush (v := 12) hx hb dX5_init_13 (by decide) ?_
  refine i_naI C0 hmn hA hP hD hS 12 (by decide) (by decide +kernel) (by decide) (Nat.le_of_ble_eq_true rfl) (Nat.le_of_ble_eq_true rfl) dX5_init_15 dX5_init_17 jFX5_15 hfl rfl (fun q2 H locs hP hD hS hfl => ?_)
  refine lv_aload_n hx hb dX5_init_20 rfl (lv_at hl 0 rfl) ?_
  refine lv_bipush (v := 12) hx hb dX5_init_21 (by decide) ?_
  refine i_naI C0 hmn hA hP hD hS 12 (by decide) (by decide +kernel) (by decide) (Nat.le_of_ble_eq_true rfl) (Nat.le_of_ble_eq_true rfl) dX5_init_23 dX5_init_25 jFX5_18 hfl rfl (fun q3 H locs hP hD hS hfl => ?_)
  exact i_ret C0 hr hlk (fun k => ([h0, q1, q2, q3] : List Nat).getD k 0) hP hD hS dX5_init_28
theorem joX6_3 : Cond.methodLink RX6 3 objectInit ∈ gt_ := gt_mem (i := 225) (by decide +kernel) rfl
theorem jFX6_9 : FF RX6 9 6 5 (.array .int) := ⟨_, _, rfl, by decide, gt_mem (i := 231) (by decide +kernel) rfl, rfl, rfl, by decide +kernel⟩
theorem jFX6_15 : FF RX6 15 6 6 (.array .int) := ⟨_, _, rfl, by decide, gt_mem (i := 232) (by decide +kernel) rfl, rfl, rfl, by decide +kernel⟩
theorem jFX6_18 : FF RX6 18 6 7 (.array .int) := ⟨_, _, rfl, by decide, gt_mem (i := 233) (by decide +kernel) rfl, rfl, rfl, by decide +kernel⟩
theorem jFX6_21 : FF RX6 21 6 8 (.array .int) := ⟨_, _, rfl, by decide, gt_mem (i := 234) (by decide +kernel) rfl, rfl, rfl, by decide +kernel⟩
def LX6 : LT := fun cI cB h0 u => [(h0, .inr (6, [.int 0, .int 0, .int 0, .int 0, .int 0, .ref (u 1), .ref (u 2), .ref (u 3), .ref (u 4)])), (u 1, .inl (cI, 6, .inl z_)), (u 2, .inl (cI, 6, .inl z_)), (u 3, .inl (cI, 4096, .inl z_)), (u 4, .inl (cI, 4374, .inl z_))]
set_option maxHeartbeats 4000000 in
set_option maxRecDepth 100000 in
theorem i_X6 (l : Launch) : IM l nX6_init 4 8482 6 [.int 0, .int 0, .int 0, .int 0, .int 0, .null, .null, .null, .null] [] LX6 := by
  refine met_I (by decide +kernel) rfl (fun h0 => Nat.le_of_ble_eq_true rfl) (fun D cI cB h0 p e s m below meth c ls A C0 hr hlk hmn hA hP hD hS hl => ?_)
  have hx := C0.1.1
  have hb := C0.1.2.1
  have hl : lv_has ls 1 [(0, .ref h0)] := hl
  have hfl : ([.int 0, .int 0, .int 0, .int 0, .int 0, .null, .null, .null, .null] : List Value).length = 9 := rfl
  refine lv_aload_n hx hb dX6_init_0 rfl (lv_at hl 0 rfl) ?_
  refine i_obj C0 hl.1 joX6_3 dX6_init_1 ⟨Nat.le_of_ble_eq_true rfl, Nat.le_of_ble_eq_true rfl⟩ ?_
  refine lv_aload_n hx hb dX6_init_4 rfl (lv_at hl 0 rfl) ?_
  refine lv_bipush (v := 6) hx hb dX6_init_5 (by decide) ?_
  refine i_naI C0 hmn hA hP hD hS 6 (by decide) (by decide +kernel) (by decide) (Nat.le_of_ble_eq_true rfl) (Nat.le_of_ble_eq_true rfl) dX6_init_7 dX6_init_9 jFX6_9 hfl rfl (fun q1 H locs hP hD hS hfl => ?_)
  refine lv_aload_n hx hb dX6_init_12 rfl (lv_at hl 0 rfl) ?_
  refine lv_bipush (v := 6) hx hb dX6_init_13 (by decide) ?_
  refine i_naI C0 hmn hA hP hD hS 6 (by decide) (by decide +kernel) (by decide) (Nat.le_of_ble_eq_true rfl) (Nat.le_of_ble_eq_true rfl) dX6_init_15 dX6_init_17 jFX6_15 hfl rfl (fun q2 H locs hP hD hS hfl => ?_)
  refine lv_aload_n hx hb dX6_init_20 rfl (lv_at hl 0 rfl) ?_
  refine lv_sipush (v := 4096) hx hb dX6_init_21 (by decide) ?_
  refine i_naI C0 hmn hA hP hD hS 4096 (by decide) (by decide +kernel) (by decide) (Nat.le_of_ble_eq_true rfl) (Nat.le_of_ble_eq_true rfl) dX6_init_24 dX6_init_26 jFX6_18 hfl rfl (fun q3 H locs hP hD hS hfl => ?_)
  refine lv_aload_n hx hb dX6_init_29 rfl (lv_at hl 0 rfl) ?_
  refine lv_sipush (v := 4374) hx hb dX6_init_30 (by decide) ?_
  refine i_naI C0 hmn hA hP hD hS 4374 (by decide) (by decide +kernel) (by decide) (Nat.le_of_ble_eq_true rfl) (Nat.le_of_ble_eq_true rfl) dX6_init_33 dX6_init_35 jFX6_21 hfl rfl (fun q4 H locs hP hD hS hfl => ?_)
  exact i_ret C0 hr hlk (fun k => ([h0, q1, q2, q3, q4] : List Nat).getD k 0) hP hD hS dX6_init_38
theorem joX4_3 : Cond.methodLink RX4 3 objectInit ∈ gt_ := gt_mem (i := 117) (by decide +kernel) rfl
theorem jFX4_9 : FF RX4 9 4 0 .int := ⟨_, _, rfl, by decide, gt_mem (i := 118) (by decide +kernel) rfl, rfl, rfl, by decide +kernel⟩
theorem jFX4_15 : FF RX4 15 4 1 (.array .int) := ⟨_, _, rfl, by decide, gt_mem (i := 120) (by decide +kernel) rfl, rfl, rfl, by decide +kernel⟩
theorem jFX4_19 : FF RX4 19 4 2 (.array .int) := ⟨_, _, rfl, by decide, gt_mem (i := 121) (by decide +kernel) rfl, rfl, rfl, by decide +kernel⟩
theorem jLX4_15 : FL RX4 15 4 1 := ⟨_, _, _, rfl, by decide, gt_mem (i := 120) (by decide +kernel) rfl, rfl⟩
def LX4a : LT := fun cI cB h0 u => [(h0, .inr (4, [.int 40, .ref (u 1), .ref (u 2)])), (u 1, .inl (cI, 6, .inl sz6)), (u 2, .inl (cI, 240, .inl z_))]
set_option maxHeartbeats 4000000 in
set_option maxRecDepth 100000 in
theorem i_X4a (l : Launch) : IM l nX4_init 2 246 4 [.int 0, .null, .null] [.int 6, .int 40] LX4a := by
  refine met_I (by decide +kernel) rfl (fun h0 => Nat.le_of_ble_eq_true rfl) (fun D cI cB h0 p e s m below meth c ls A C0 hr hlk hmn hA hP hD hS hl => ?_)
  have hx := C0.1.1
  have hb := C0.1.2.1
  have hl : lv_has ls 4 [(0, .ref h0), (1, .int 6), (2, .int 40)] := hl
  have hfl : ([.int 0, .null, .null] : List Value).length = 3 := rfl
  refine lv_aload_n hx hb dX4_init_0 rfl (lv_at hl 0 rfl) ?_
  refine i_obj C0 hl.1 joX4_3 dX4_init_1 ⟨Nat.le_of_ble_eq_true rfl, Nat.le_of_ble_eq_true rfl⟩ ?_
  refine lv_aload_n hx hb dX4_init_4 rfl (lv_at hl 0 rfl) ?_
  refine lv_iload_n hx hb dX4_init_5 rfl (lv_at hl 2 rfl) ?_
  refine i_putF C0 hmn hP hD hS jFX4_9 rfl rfl hfl rfl dX4_init_6 (fun H locs hP hD hS hfl => ?_)
  refine lv_aload_n hx hb dX4_init_9 rfl (lv_at hl 0 rfl) ?_
  refine lv_iload_n hx hb dX4_init_10 rfl (lv_at hl 1 rfl) ?_
  refine i_naI C0 hmn hA hP hD hS 6 (by decide) (by decide +kernel) (by decide) (Nat.le_of_ble_eq_true rfl) (Nat.le_of_ble_eq_true rfl) dX4_init_11 dX4_init_13 jFX4_15 hfl rfl (fun q1 H locs hP hD hS hfl => ?_)
  refine lv_aload_n hx hb dX4_init_16 rfl (lv_at hl 0 rfl) ?_
  refine lv_iload_n hx hb dX4_init_17 rfl (lv_at hl 1 rfl) ?_
  refine lv_iload_n hx hb dX4_init_18 rfl (lv_at hl 2 rfl) ?_
  refine lv_imul hx hb dX4_init_19 ?_
  refine i_naI C0 hmn hA hP hD hS 240 (by decide) (by decide +kernel) (by decide) (Nat.le_of_ble_eq_true rfl) (Nat.le_of_ble_eq_true rfl) dX4_init_20 dX4_init_22 jFX4_19 hfl rfl (fun q2 H locs hP hD hS hfl => ?_)
  refine lv_iconst (v := 0) hx hb dX4_init_25 (by decide) ?_
  refine lv_istore_n (lv' := [(3, .int 0), (0, .ref h0), (1, .int 6), (2, .int 40)]) hx hb dX4_init_26 rfl hl (by decide) rfl (fun ls hl => ?_)
  have hP : va_P D vwCl ([(h0, .inr (4, [.int 40, .ref (q1), .ref (q2)])), (q1, .inl (cI, 6, .inl z_)), (q2, .inl (cI, 240, .inl z_))]) H := hP
  have hD : va_D A ([(h0, .inr (4, [.int 40, .ref (q1), .ref (q2)])), (q1, .inl (cI, 6, .inl z_)), (q2, .inl (cI, 240, .inl z_))]) := hD
  refine lv_iload_n hx hb dX4_init_27 rfl (lv_at hl 0 rfl) ?_
  refine lv_iload_n hx hb dX4_init_28 rfl (lv_at hl 2 rfl) ?_
  refine lv_icmp_ge (tgt := 45) hx hb dX4_init_29 (by decide) (fun h => absurd h (by decide)) (fun _ => ?_)
  refine lv_aload_n hx hb dX4_init_32 rfl (lv_at hl 1 rfl) ?_
  refine i_get (v := .ref (q1)) C0 hP jLX4_15 rfl dX4_init_33 ?_
  refine lv_iload_n hx hb dX4_init_36 rfl (lv_at hl 0 rfl) ?_
  refine lv_iconst (v := (-1)) hx hb dX4_init_37 (by decide) ?_
  refine i_ast C0 hP hD hS 1 rfl 0 (by decide) (by unfold vp_in; decide) dX4_init_38 (fun H locs hP hD hS => ?_)
  have hP : va_P D vwCl ([(h0, .inr (4, [.int 40, .ref (q1), .ref (q2)])), (q1, .inl (cI, 6, .inl (upd z_ 0 (-1)))), (q2, .inl (cI, 240, .inl z_))]) H := hP
  have hD : va_D A ([(h0, .inr (4, [.int 40, .ref (q1), .ref (q2)])), (q1, .inl (cI, 6, .inl (upd z_ 0 (-1)))), (q2, .inl (cI, 240, .inl z_))]) := hD
  refine lv_iinc (v := 1) (lv' := [(3, .int 1), (0, .ref h0), (1, .int 6), (2, .int 40)]) hx hb dX4_init_39 hl (k := 0) rfl (by decide) (by decide) rfl (fun ls hl => ?_)
  refine lv_goto (tgt := 27) hx hb dX4_init_42 (by decide) ?_
  refine lv_iload_n hx hb dX4_init_27 rfl (lv_at hl 0 rfl) ?_
  refine lv_iload_n hx hb dX4_init_28 rfl (lv_at hl 2 rfl) ?_
  refine lv_icmp_ge (tgt := 45) hx hb dX4_init_29 (by decide) (fun h => absurd h (by decide)) (fun _ => ?_)
  refine lv_aload_n hx hb dX4_init_32 rfl (lv_at hl 1 rfl) ?_
  refine i_get (v := .ref (q1)) C0 hP jLX4_15 rfl dX4_init_33 ?_
  refine lv_iload_n hx hb dX4_init_36 rfl (lv_at hl 0 rfl) ?_
  refine lv_iconst (v := (-1)) hx hb dX4_init_37 (by decide) ?_
  refine i_ast C0 hP hD hS 1 rfl 1 (by decide) (by unfold vp_in; decide) dX4_init_38 (fun H locs hP hD hS => ?_)
  have hP : va_P D vwCl ([(h0, .inr (4, [.int 40, .ref (q1), .ref (q2)])), (q1, .inl (cI, 6, .inl (upd (upd z_ 0 (-1)) 1 (-1)))), (q2, .inl (cI, 240, .inl z_))]) H := hP
  have hD : va_D A ([(h0, .inr (4, [.int 40, .ref (q1), .ref (q2)])), (q1, .inl (cI, 6, .inl (upd (upd z_ 0 (-1)) 1 (-1)))), (q2, .inl (cI, 240, .inl z_))]) := hD
  refine lv_iinc (v := 2) (lv' := [(3, .int 2), (0, .ref h0), (1, .int 6), (2, .int 40)]) hx hb dX4_init_39 hl (k := 0) rfl (by decide) (by decide) rfl (fun ls hl => ?_)
  refine lv_goto (tgt := 27) hx hb dX4_init_42 (by decide) ?_
  refine lv_iload_n hx hb dX4_init_27 rfl (lv_at hl 0 rfl) ?_
  refine lv_iload_n hx hb dX4_init_28 rfl (lv_at hl 2 rfl) ?_
  refine lv_icmp_ge (tgt := 45) hx hb dX4_init_29 (by decide) (fun h => absurd h (by decide)) (fun _ => ?_)
  refine lv_aload_n hx hb dX4_init_32 rfl (lv_at hl 1 rfl) ?_
  refine i_get (v := .ref (q1)) C0 hP jLX4_15 rfl dX4_init_33 ?_
  refine lv_iload_n hx hb dX4_init_36 rfl (lv_at hl 0 rfl) ?_
  refine lv_iconst (v := (-1)) hx hb dX4_init_37 (by decide) ?_
  refine i_ast C0 hP hD hS 1 rfl 2 (by decide) (by unfold vp_in; decide) dX4_init_38 (fun H locs hP hD hS => ?_)
  have hP : va_P D vwCl ([(h0, .inr (4, [.int 40, .ref (q1), .ref (q2)])), (q1, .inl (cI, 6, .inl (upd (upd (upd z_ 0 (-1)) 1 (-1)) 2 (-1)))), (q2, .inl (cI, 240, .inl z_))]) H := hP
  have hD : va_D A ([(h0, .inr (4, [.int 40, .ref (q1), .ref (q2)])), (q1, .inl (cI, 6, .inl (upd (upd (upd z_ 0 (-1)) 1 (-1)) 2 (-1)))), (q2, .inl (cI, 240, .inl z_))]) := hD
  refine lv_iinc (v := 3) (lv' := [(3, .int 3), (0, .ref h0), (1, .int 6), (2, .int 40)]) hx hb dX4_init_39 hl (k := 0) rfl (by decide) (by decide) rfl (fun ls hl => ?_)
  refine lv_goto (tgt := 27) hx hb dX4_init_42 (by decide) ?_
  refine lv_iload_n hx hb dX4_init_27 rfl (lv_at hl 0 rfl) ?_
  refine lv_iload_n hx hb dX4_init_28 rfl (lv_at hl 2 rfl) ?_
  refine lv_icmp_ge (tgt := 45) hx hb dX4_init_29 (by decide) (fun h => absurd h (by decide)) (fun _ => ?_)
  refine lv_aload_n hx hb dX4_init_32 rfl (lv_at hl 1 rfl) ?_
  refine i_get (v := .ref (q1)) C0 hP jLX4_15 rfl dX4_init_33 ?_
  refine lv_iload_n hx hb dX4_init_36 rfl (lv_at hl 0 rfl) ?_
  refine lv_iconst (v := (-1)) hx hb dX4_init_37 (by decide) ?_
  refine i_ast C0 hP hD hS 1 rfl 3 (by decide) (by unfold vp_in; decide) dX4_init_38 (fun H locs hP hD hS => ?_)
  have hP : va_P D vwCl ([(h0, .inr (4, [.int 40, .ref (q1), .ref (q2)])), (q1, .inl (cI, 6, .inl (upd (upd (upd (upd z_ 0 (-1)) 1 (-1)) 2 (-1)) 3 (-1)))), (q2, .inl (cI, 240, .inl z_))]) H := hP
  have hD : va_D A ([(h0, .inr (4, [.int 40, .ref (q1), .ref (q2)])), (q1, .inl (cI, 6, .inl (upd (upd (upd (upd z_ 0 (-1)) 1 (-1)) 2 (-1)) 3 (-1)))), (q2, .inl (cI, 240, .inl z_))]) := hD
  refine lv_iinc (v := 4) (lv' := [(3, .int 4), (0, .ref h0), (1, .int 6), (2, .int 40)]) hx hb dX4_init_39 hl (k := 0) rfl (by decide) (by decide) rfl (fun ls hl => ?_)
  refine lv_goto (tgt := 27) hx hb dX4_init_42 (by decide) ?_
  refine lv_iload_n hx hb dX4_init_27 rfl (lv_at hl 0 rfl) ?_
  refine lv_iload_n hx hb dX4_init_28 rfl (lv_at hl 2 rfl) ?_
  refine lv_icmp_ge (tgt := 45) hx hb dX4_init_29 (by decide) (fun h => absurd h (by decide)) (fun _ => ?_)
  refine lv_aload_n hx hb dX4_init_32 rfl (lv_at hl 1 rfl) ?_
  refine i_get (v := .ref (q1)) C0 hP jLX4_15 rfl dX4_init_33 ?_
  refine lv_iload_n hx hb dX4_init_36 rfl (lv_at hl 0 rfl) ?_
  refine lv_iconst (v := (-1)) hx hb dX4_init_37 (by decide) ?_
  refine i_ast C0 hP hD hS 1 rfl 4 (by decide) (by unfold vp_in; decide) dX4_init_38 (fun H locs hP hD hS => ?_)
  have hP : va_P D vwCl ([(h0, .inr (4, [.int 40, .ref (q1), .ref (q2)])), (q1, .inl (cI, 6, .inl (upd (upd (upd (upd (upd z_ 0 (-1)) 1 (-1)) 2 (-1)) 3 (-1)) 4 (-1)))), (q2, .inl (cI, 240, .inl z_))]) H := hP
  have hD : va_D A ([(h0, .inr (4, [.int 40, .ref (q1), .ref (q2)])), (q1, .inl (cI, 6, .inl (upd (upd (upd (upd (upd z_ 0 (-1)) 1 (-1)) 2 (-1)) 3 (-1)) 4 (-1)))), (q2, .inl (cI, 240, .inl z_))]) := hD
  refine lv_iinc (v := 5) (lv' := [(3, .int 5), (0, .ref h0), (1, .int 6), (2, .int 40)]) hx hb dX4_init_39 hl (k := 0) rfl (by decide) (by decide) rfl (fun ls hl => ?_)
  refine lv_goto (tgt := 27) hx hb dX4_init_42 (by decide) ?_
  refine lv_iload_n hx hb dX4_init_27 rfl (lv_at hl 0 rfl) ?_
  refine lv_iload_n hx hb dX4_init_28 rfl (lv_at hl 2 rfl) ?_
  refine lv_icmp_ge (tgt := 45) hx hb dX4_init_29 (by decide) (fun h => absurd h (by decide)) (fun _ => ?_)
  refine lv_aload_n hx hb dX4_init_32 rfl (lv_at hl 1 rfl) ?_
  refine i_get (v := .ref (q1)) C0 hP jLX4_15 rfl dX4_init_33 ?_
  refine lv_iload_n hx hb dX4_init_36 rfl (lv_at hl 0 rfl) ?_
  refine lv_iconst (v := (-1)) hx hb dX4_init_37 (by decide) ?_
  refine i_ast C0 hP hD hS 1 rfl 5 (by decide) (by unfold vp_in; decide) dX4_init_38 (fun H locs hP hD hS => ?_)
  have hP : va_P D vwCl ([(h0, .inr (4, [.int 40, .ref (q1), .ref (q2)])), (q1, .inl (cI, 6, .inl (upd (upd (upd (upd (upd (upd z_ 0 (-1)) 1 (-1)) 2 (-1)) 3 (-1)) 4 (-1)) 5 (-1)))), (q2, .inl (cI, 240, .inl z_))]) H := hP
  have hD : va_D A ([(h0, .inr (4, [.int 40, .ref (q1), .ref (q2)])), (q1, .inl (cI, 6, .inl (upd (upd (upd (upd (upd (upd z_ 0 (-1)) 1 (-1)) 2 (-1)) 3 (-1)) 4 (-1)) 5 (-1)))), (q2, .inl (cI, 240, .inl z_))]) := hD
  refine lv_iinc (v := 6) (lv' := [(3, .int 6), (0, .ref h0), (1, .int 6), (2, .int 40)]) hx hb dX4_init_39 hl (k := 0) rfl (by decide) (by decide) rfl (fun ls hl => ?_)
  refine lv_goto (tgt := 27) hx hb dX4_init_42 (by decide) ?_
  refine lv_iload_n hx hb dX4_init_27 rfl (lv_at hl 0 rfl) ?_
  refine lv_iload_n hx hb dX4_init_28 rfl (lv_at hl 2 rfl) ?_
  refine lv_icmp_ge (tgt := 45) hx hb dX4_init_29 (by decide) (fun _ => ?_) (fun h => absurd (by decide) h)
  exact i_ret C0 hr hlk (fun k => ([h0, q1, q2] : List Nat).getD k 0) hP hD hS dX4_init_45
def LX4b : LT := fun cI cB h0 u => [(h0, .inr (4, [.int 120, .ref (u 1), .ref (u 2)])), (u 1, .inl (cI, 4, .inl sz4)), (u 2, .inl (cI, 480, .inl z_))]
set_option maxHeartbeats 4000000 in
set_option maxRecDepth 100000 in
theorem i_X4b (l : Launch) : IM l nX4_init 2 484 4 [.int 0, .null, .null] [.int 4, .int 120] LX4b := by
  refine met_I (by decide +kernel) rfl (fun h0 => Nat.le_of_ble_eq_true rfl) (fun D cI cB h0 p e s m below meth c ls A C0 hr hlk hmn hA hP hD hS hl => ?_)
  have hx := C0.1.1
  have hb := C0.1.2.1
  have hl : lv_has ls 4 [(0, .ref h0), (1, .int 4), (2, .int 120)] := hl
  have hfl : ([.int 0, .null, .null] : List Value).length = 3 := rfl
  refine lv_aload_n hx hb dX4_init_0 rfl (lv_at hl 0 rfl) ?_
  refine i_obj C0 hl.1 joX4_3 dX4_init_1 ⟨Nat.le_of_ble_eq_true rfl, Nat.le_of_ble_eq_true rfl⟩ ?_
  refine lv_aload_n hx hb dX4_init_4 rfl (lv_at hl 0 rfl) ?_
  refine lv_iload_n hx hb dX4_init_5 rfl (lv_at hl 2 rfl) ?_
  refine i_putF C0 hmn hP hD hS jFX4_9 rfl rfl hfl rfl dX4_init_6 (fun H locs hP hD hS hfl => ?_)
  refine lv_aload_n hx hb dX4_init_9 rfl (lv_at hl 0 rfl) ?_
  refine lv_iload_n hx hb dX4_init_10 rfl (lv_at hl 1 rfl) ?_
  refine i_naI C0 hmn hA hP hD hS 4 (by decide) (by decide +kernel) (by decide) (Nat.le_of_ble_eq_true rfl) (Nat.le_of_ble_eq_true rfl) dX4_init_11 dX4_init_13 jFX4_15 hfl rfl (fun q1 H locs hP hD hS hfl => ?_)
  refine lv_aload_n hx hb dX4_init_16 rfl (lv_at hl 0 rfl) ?_
  refine lv_iload_n hx hb dX4_init_17 rfl (lv_at hl 1 rfl) ?_
  refine lv_iload_n hx hb dX4_init_18 rfl (lv_at hl 2 rfl) ?_
  refine lv_imul hx hb dX4_init_19 ?_
  refine i_naI C0 hmn hA hP hD hS 480 (by decide) (by decide +kernel) (by decide) (Nat.le_of_ble_eq_true rfl) (Nat.le_of_ble_eq_true rfl) dX4_init_20 dX4_init_22 jFX4_19 hfl rfl (fun q2 H locs hP hD hS hfl => ?_)
  refine lv_iconst (v := 0) hx hb dX4_init_25 (by decide) ?_
  refine lv_istore_n (lv' := [(3, .int 0), (0, .ref h0), (1, .int 4), (2, .int 120)]) hx hb dX4_init_26 rfl hl (by decide) rfl (fun ls hl => ?_)
  have hP : va_P D vwCl ([(h0, .inr (4, [.int 120, .ref (q1), .ref (q2)])), (q1, .inl (cI, 4, .inl z_)), (q2, .inl (cI, 480, .inl z_))]) H := hP
  have hD : va_D A ([(h0, .inr (4, [.int 120, .ref (q1), .ref (q2)])), (q1, .inl (cI, 4, .inl z_)), (q2, .inl (cI, 480, .inl z_))]) := hD
  refine lv_iload_n hx hb dX4_init_27 rfl (lv_at hl 0 rfl) ?_
  refine lv_iload_n hx hb dX4_init_28 rfl (lv_at hl 2 rfl) ?_
  refine lv_icmp_ge (tgt := 45) hx hb dX4_init_29 (by decide) (fun h => absurd h (by decide)) (fun _ => ?_)
  refine lv_aload_n hx hb dX4_init_32 rfl (lv_at hl 1 rfl) ?_
  refine i_get (v := .ref (q1)) C0 hP jLX4_15 rfl dX4_init_33 ?_
  refine lv_iload_n hx hb dX4_init_36 rfl (lv_at hl 0 rfl) ?_
  refine lv_iconst (v := (-1)) hx hb dX4_init_37 (by decide) ?_
  refine i_ast C0 hP hD hS 1 rfl 0 (by decide) (by unfold vp_in; decide) dX4_init_38 (fun H locs hP hD hS => ?_)
  have hP : va_P D vwCl ([(h0, .inr (4, [.int 120, .ref (q1), .ref (q2)])), (q1, .inl (cI, 4, .inl (upd z_ 0 (-1)))), (q2, .inl (cI, 480, .inl z_))]) H := hP
  have hD : va_D A ([(h0, .inr (4, [.int 120, .ref (q1), .ref (q2)])), (q1, .inl (cI, 4, .inl (upd z_ 0 (-1)))), (q2, .inl (cI, 480, .inl z_))]) := hD
  refine lv_iinc (v := 1) (lv' := [(3, .int 1), (0, .ref h0), (1, .int 4), (2, .int 120)]) hx hb dX4_init_39 hl (k := 0) rfl (by decide) (by decide) rfl (fun ls hl => ?_)
  refine lv_goto (tgt := 27) hx hb dX4_init_42 (by decide) ?_
  refine lv_iload_n hx hb dX4_init_27 rfl (lv_at hl 0 rfl) ?_
  refine lv_iload_n hx hb dX4_init_28 rfl (lv_at hl 2 rfl) ?_
  refine lv_icmp_ge (tgt := 45) hx hb dX4_init_29 (by decide) (fun h => absurd h (by decide)) (fun _ => ?_)
  refine lv_aload_n hx hb dX4_init_32 rfl (lv_at hl 1 rfl) ?_
  refine i_get (v := .ref (q1)) C0 hP jLX4_15 rfl dX4_init_33 ?_
  refine lv_iload_n hx hb dX4_init_36 rfl (lv_at hl 0 rfl) ?_
  refine lv_iconst (v := (-1)) hx hb dX4_init_37 (by decide) ?_
  refine i_ast C0 hP hD hS 1 rfl 1 (by decide) (by unfold vp_in; decide) dX4_init_38 (fun H locs hP hD hS => ?_)
  have hP : va_P D vwCl ([(h0, .inr (4, [.int 120, .ref (q1), .ref (q2)])), (q1, .inl (cI, 4, .inl (upd (upd z_ 0 (-1)) 1 (-1)))), (q2, .inl (cI, 480, .inl z_))]) H := hP
  have hD : va_D A ([(h0, .inr (4, [.int 120, .ref (q1), .ref (q2)])), (q1, .inl (cI, 4, .inl (upd (upd z_ 0 (-1)) 1 (-1)))), (q2, .inl (cI, 480, .inl z_))]) := hD
  refine lv_iinc (v := 2) (lv' := [(3, .int 2), (0, .ref h0), (1, .int 4), (2, .int 120)]) hx hb dX4_init_39 hl (k := 0) rfl (by decide) (by decide) rfl (fun ls hl => ?_)
  refine lv_goto (tgt := 27) hx hb dX4_init_42 (by decide) ?_
  refine lv_iload_n hx hb dX4_init_27 rfl (lv_at hl 0 rfl) ?_
  refine lv_iload_n hx hb dX4_init_28 rfl (lv_at hl 2 rfl) ?_
  refine lv_icmp_ge (tgt := 45) hx hb dX4_init_29 (by decide) (fun h => absurd h (by decide)) (fun _ => ?_)
  refine lv_aload_n hx hb dX4_init_32 rfl (lv_at hl 1 rfl) ?_
  refine i_get (v := .ref (q1)) C0 hP jLX4_15 rfl dX4_init_33 ?_
  refine lv_iload_n hx hb dX4_init_36 rfl (lv_at hl 0 rfl) ?_
  refine lv_iconst (v := (-1)) hx hb dX4_init_37 (by decide) ?_
  refine i_ast C0 hP hD hS 1 rfl 2 (by decide) (by unfold vp_in; decide) dX4_init_38 (fun H locs hP hD hS => ?_)
  have hP : va_P D vwCl ([(h0, .inr (4, [.int 120, .ref (q1), .ref (q2)])), (q1, .inl (cI, 4, .inl (upd (upd (upd z_ 0 (-1)) 1 (-1)) 2 (-1)))), (q2, .inl (cI, 480, .inl z_))]) H := hP
  have hD : va_D A ([(h0, .inr (4, [.int 120, .ref (q1), .ref (q2)])), (q1, .inl (cI, 4, .inl (upd (upd (upd z_ 0 (-1)) 1 (-1)) 2 (-1)))), (q2, .inl (cI, 480, .inl z_))]) := hD
  refine lv_iinc (v := 3) (lv' := [(3, .int 3), (0, .ref h0), (1, .int 4), (2, .int 120)]) hx hb dX4_init_39 hl (k := 0) rfl (by decide) (by decide) rfl (fun ls hl => ?_)
  refine lv_goto (tgt := 27) hx hb dX4_init_42 (by decide) ?_
  refine lv_iload_n hx hb dX4_init_27 rfl (lv_at hl 0 rfl) ?_
  refine lv_iload_n hx hb dX4_init_28 rfl (lv_at hl 2 rfl) ?_
  refine lv_icmp_ge (tgt := 45) hx hb dX4_init_29 (by decide) (fun h => absurd h (by decide)) (fun _ => ?_)
  refine lv_aload_n hx hb dX4_init_32 rfl (lv_at hl 1 rfl) ?_
  refine i_get (v := .ref (q1)) C0 hP jLX4_15 rfl dX4_init_33 ?_
  refine lv_iload_n hx hb dX4_init_36 rfl (lv_at hl 0 rfl) ?_
  refine lv_iconst (v := (-1)) hx hb dX4_init_37 (by decide) ?_
  refine i_ast C0 hP hD hS 1 rfl 3 (by decide) (by unfold vp_in; decide) dX4_init_38 (fun H locs hP hD hS => ?_)
  have hP : va_P D vwCl ([(h0, .inr (4, [.int 120, .ref (q1), .ref (q2)])), (q1, .inl (cI, 4, .inl (upd (upd (upd (upd z_ 0 (-1)) 1 (-1)) 2 (-1)) 3 (-1)))), (q2, .inl (cI, 480, .inl z_))]) H := hP
  have hD : va_D A ([(h0, .inr (4, [.int 120, .ref (q1), .ref (q2)])), (q1, .inl (cI, 4, .inl (upd (upd (upd (upd z_ 0 (-1)) 1 (-1)) 2 (-1)) 3 (-1)))), (q2, .inl (cI, 480, .inl z_))]) := hD
  refine lv_iinc (v := 4) (lv' := [(3, .int 4), (0, .ref h0), (1, .int 4), (2, .int 120)]) hx hb dX4_init_39 hl (k := 0) rfl (by decide) (by decide) rfl (fun ls hl => ?_)
  refine lv_goto (tgt := 27) hx hb dX4_init_42 (by decide) ?_
  refine lv_iload_n hx hb dX4_init_27 rfl (lv_at hl 0 rfl) ?_
  refine lv_iload_n hx hb dX4_init_28 rfl (lv_at hl 2 rfl) ?_
  refine lv_icmp_ge (tgt := 45) hx hb dX4_init_29 (by decide) (fun _ => ?_) (fun h => absurd (by decide) h)
  exact i_ret C0 hr hlk (fun k => ([h0, q1, q2] : List Nat).getD k 0) hP hD hS dX4_init_45
