/-! the constructor of the model -/
theorem fsX8 : ∀ j, j < 50 → defaultValue (tyX8 j) = vp_V [.int 0, .null, .int 0, .long 0, .long 0, .null, .null, .null, .null, .null, .int 0, .int 0, .null, .null, .null, .int 0, .int 0, .int 0, .int 0, .null, .null, .null, .int 0, .null, .int 0, .int 0, .null, .int 0, .null, .null, .null, .null, .null, .null, .null, .null, .null, .null, .null, .int 0, .null, .null, .int 0, .null, .int 0, .int 0, .null, .null, .null, .long 0] j := fun j hj => match j, hj with
  | 0, _ => rfl
  | 1, _ => rfl
  | 2, _ => rfl
  | 3, _ => rfl
  | 4, _ => rfl
  | 5, _ => rfl
  | 6, _ => rfl
  | 7, _ => rfl
  | 8, _ => rfl
  | 9, _ => rfl
  | 10, _ => rfl
  | 11, _ => rfl
  | 12, _ => rfl
  | 13, _ => rfl
  | 14, _ => rfl
  | 15, _ => rfl
  | 16, _ => rfl
  | 17, _ => rfl
  | 18, _ => rfl
  | 19, _ => rfl
  | 20, _ => rfl
  | 21, _ => rfl
  | 22, _ => rfl
  | 23, _ => rfl
  | 24, _ => rfl
  | 25, _ => rfl
  | 26, _ => rfl
  | 27, _ => rfl
  | 28, _ => rfl
  | 29, _ => rfl
  | 30, _ => rfl
  | 31, _ => rfl
  | 32, _ => rfl
  | 33, _ => rfl
  | 34, _ => rfl
  | 35, _ => rfl
  | 36, _ => rfl
  | 37, _ => rfl
  | 38, _ => rfl
  | 39, _ => rfl
  | 40, _ => rfl
  | 41, _ => rfl
  | 42, _ => rfl
  | 43, _ => rfl
  | 44, _ => rfl
  | 45, _ => rfl
  | 46, _ => rfl
  | 47, _ => rfl
  | 48, _ => rfl
  | 49, _ => rfl
  | k + 50, h => absurd h (by omega)
theorem jkX8_init : KN nX8_init 0 := ⟨gt_mem (i := 945) (by decide +kernel) rfl, gt_mem (i := 946) (by decide +kernel) rfl, gt_mem (i := 100) (by decide +kernel) rfl, rfl, by decide +kernel⟩
def WX8 (cI cB : ClassId) (h0 : Nat) (u : Nat → Nat) (f g : Nat → Int32) : va_W := [(h0, .inr (8, [.int 0, .ref (u 1), .int 0, .long 0, .long 1, .ref (u 2), .ref (u 3), .ref (u 4), .ref (u 5), .ref (u 6), .int 0, .int 0, .ref (u 7), .ref (u 8), .ref (u 9), .int 0, .int 0, .int 0, .int 0, .ref (u 10), .ref (u 11), .ref (u 12), .int 0, .ref (u 13), .int 0, .int 0, .ref (u 14), .int 0, .ref (u 15), .ref (u 16), .ref (u 17), .ref (u 18), .ref (u 19), .ref (u 20), .ref (u 21), .ref (u 22), .ref (u 23), .ref (u 24), .ref (u 25), .int 0, .ref (u 26), .ref (u 27), .int 0, .ref (u 28), .int 0, .int 0, .ref (u 29), .ref (u 30), .ref (u 31), .long 0])), (u 1, .inl (cI, 6, .inl z_)), (u 2, .inl (cI, 6, .inl f)), (u 3, .inl (cI, 240, .inl z_)), (u 4, .inl (cI, 40, .inl z_)), (u 5, .inl (cI, 4, .inl g)), (u 6, .inl (cB, 480, .inl z_)), (u 7, .inl (cI, 6, .inl z_)), (u 8, .inl (cI, 12, .inl z_)), (u 9, .inl (cI, 12, .inl z_)), (u 10, .inl (cI, 6, .inl z_)), (u 11, .inl (cI, 12, .inl z_)), (u 12, .inl (cI, 12, .inl z_)), (u 13, .inl (cI, 160, .inl z_)), (u 14, .inl (cI, 160, .inl z_)), (u 15, .inl (cI, 24, .inl z_)), (u 16, .inl (cI, 24, .inl z_)), (u 17, .inl (cI, 24, .inl z_)), (u 18, .inl (cI, 24, .inl z_)), (u 19, .inl (cI, 24, .inl z_)), (u 20, .inl (cI, 40, .inl z_)), (u 21, .inl (cI, 6, .inl z_)), (u 22, .inl (cI, 144, .inl z_)), (u 23, .inl (cI, 6, .inl z_)), (u 24, .inl (cI, 6, .inl z_)), (u 25, .inl (cI, 6, .inl z_)), (u 26, .inl (cI, 24576, .inl z_)), (u 27, .inl (cI, 24576, .inl z_)), (u 28, .inl (cI, 6, .inl z_)), (u 29, .inl (cI, 6, .inl z_)), (u 30, .inl (cI, 6, .inl z_)), (u 31, .inl (cI, 6, .inl z_))]
theorem joX8_1 : Cond.methodLink RX8 1 objectInit ∈ gt_ := gt_mem (i := 947) (by decide +kernel) rfl
theorem jFX8_7 : FF RX8 7 8 1 (.array .int) := ⟨_, _, rfl, by decide, gt_mem (i := 949) (by decide +kernel) rfl, rfl, rfl, by decide +kernel⟩
theorem jFX8_13 : FF RX8 13 8 5 (.array .int) := ⟨_, _, rfl, by decide, gt_mem (i := 953) (by decide +kernel) rfl, rfl, rfl, by decide +kernel⟩
theorem jFX8_16 : FF RX8 16 8 6 (.array .int) := ⟨_, _, rfl, by decide, gt_mem (i := 954) (by decide +kernel) rfl, rfl, rfl, by decide +kernel⟩
theorem jFX8_19 : FF RX8 19 8 7 (.array .int) := ⟨_, _, rfl, by decide, gt_mem (i := 955) (by decide +kernel) rfl, rfl, rfl, by decide +kernel⟩
theorem jFX8_22 : FF RX8 22 8 8 (.array .int) := ⟨_, _, rfl, by decide, gt_mem (i := 956) (by decide +kernel) rfl, rfl, rfl, by decide +kernel⟩
theorem jFX8_25 : FF RX8 25 8 9 (.array .byte) := ⟨_, _, rfl, by decide, gt_mem (i := 957) (by decide +kernel) rfl, rfl, rfl, by decide +kernel⟩
theorem jFX8_29 : FF RX8 29 8 12 (.array .int) := ⟨_, _, rfl, by decide, gt_mem (i := 960) (by decide +kernel) rfl, rfl, rfl, by decide +kernel⟩
theorem jFX8_32 : FF RX8 32 8 13 (.array .int) := ⟨_, _, rfl, by decide, gt_mem (i := 961) (by decide +kernel) rfl, rfl, rfl, by decide +kernel⟩
theorem jFX8_35 : FF RX8 35 8 14 (.array .int) := ⟨_, _, rfl, by decide, gt_mem (i := 962) (by decide +kernel) rfl, rfl, rfl, by decide +kernel⟩
theorem jFX8_38 : FF RX8 38 8 19 (.array .int) := ⟨_, _, rfl, by decide, gt_mem (i := 967) (by decide +kernel) rfl, rfl, rfl, by decide +kernel⟩
theorem jFX8_41 : FF RX8 41 8 20 (.array .int) := ⟨_, _, rfl, by decide, gt_mem (i := 968) (by decide +kernel) rfl, rfl, rfl, by decide +kernel⟩
theorem jFX8_44 : FF RX8 44 8 21 (.array .int) := ⟨_, _, rfl, by decide, gt_mem (i := 969) (by decide +kernel) rfl, rfl, rfl, by decide +kernel⟩
theorem jFX8_47 : FF RX8 47 8 23 (.array .int) := ⟨_, _, rfl, by decide, gt_mem (i := 971) (by decide +kernel) rfl, rfl, rfl, by decide +kernel⟩
theorem jFX8_50 : FF RX8 50 8 26 (.array .int) := ⟨_, _, rfl, by decide, gt_mem (i := 974) (by decide +kernel) rfl, rfl, rfl, by decide +kernel⟩
theorem jFX8_53 : FF RX8 53 8 28 (.array .int) := ⟨_, _, rfl, by decide, gt_mem (i := 976) (by decide +kernel) rfl, rfl, rfl, by decide +kernel⟩
theorem jFX8_56 : FF RX8 56 8 29 (.array .int) := ⟨_, _, rfl, by decide, gt_mem (i := 977) (by decide +kernel) rfl, rfl, rfl, by decide +kernel⟩
theorem jFX8_59 : FF RX8 59 8 30 (.array .int) := ⟨_, _, rfl, by decide, gt_mem (i := 978) (by decide +kernel) rfl, rfl, rfl, by decide +kernel⟩
theorem jFX8_62 : FF RX8 62 8 31 (.array .int) := ⟨_, _, rfl, by decide, gt_mem (i := 979) (by decide +kernel) rfl, rfl, rfl, by decide +kernel⟩
theorem jFX8_65 : FF RX8 65 8 32 (.array .int) := ⟨_, _, rfl, by decide, gt_mem (i := 980) (by decide +kernel) rfl, rfl, rfl, by decide +kernel⟩
theorem jFX8_68 : FF RX8 68 8 33 (.array .int) := ⟨_, _, rfl, by decide, gt_mem (i := 981) (by decide +kernel) rfl, rfl, rfl, by decide +kernel⟩
theorem jFX8_71 : FF RX8 71 8 34 (.array .int) := ⟨_, _, rfl, by decide, gt_mem (i := 982) (by decide +kernel) rfl, rfl, rfl, by decide +kernel⟩
theorem jFX8_74 : FF RX8 74 8 35 (.array .int) := ⟨_, _, rfl, by decide, gt_mem (i := 983) (by decide +kernel) rfl, rfl, rfl, by decide +kernel⟩
theorem jFX8_77 : FF RX8 77 8 36 (.array .int) := ⟨_, _, rfl, by decide, gt_mem (i := 984) (by decide +kernel) rfl, rfl, rfl, by decide +kernel⟩
theorem jFX8_80 : FF RX8 80 8 37 (.array .int) := ⟨_, _, rfl, by decide, gt_mem (i := 985) (by decide +kernel) rfl, rfl, rfl, by decide +kernel⟩
theorem jFX8_83 : FF RX8 83 8 38 (.array .int) := ⟨_, _, rfl, by decide, gt_mem (i := 986) (by decide +kernel) rfl, rfl, rfl, by decide +kernel⟩
theorem jFX8_86 : FF RX8 86 8 40 (.array .int) := ⟨_, _, rfl, by decide, gt_mem (i := 988) (by decide +kernel) rfl, rfl, rfl, by decide +kernel⟩
theorem jFX8_89 : FF RX8 89 8 41 (.array .int) := ⟨_, _, rfl, by decide, gt_mem (i := 989) (by decide +kernel) rfl, rfl, rfl, by decide +kernel⟩
theorem jFX8_92 : FF RX8 92 8 43 (.array .int) := ⟨_, _, rfl, by decide, gt_mem (i := 991) (by decide +kernel) rfl, rfl, rfl, by decide +kernel⟩
theorem jFX8_95 : FF RX8 95 8 46 (.array .int) := ⟨_, _, rfl, by decide, gt_mem (i := 994) (by decide +kernel) rfl, rfl, rfl, by decide +kernel⟩
theorem jFX8_98 : FF RX8 98 8 47 (.array .int) := ⟨_, _, rfl, by decide, gt_mem (i := 995) (by decide +kernel) rfl, rfl, rfl, by decide +kernel⟩
theorem jFX8_101 : FF RX8 101 8 48 (.array .int) := ⟨_, _, rfl, by decide, gt_mem (i := 996) (by decide +kernel) rfl, rfl, rfl, by decide +kernel⟩
theorem jPX8_104 : FP RX8 104 8 4 .long := ⟨_, _, _, rfl, by decide, gt_mem (i := 952) (by decide +kernel) rfl, rfl, rfl, by decide +kernel⟩
theorem jLX8_13 : FL RX8 13 8 5 := ⟨_, _, _, rfl, by decide, gt_mem (i := 953) (by decide +kernel) rfl, rfl⟩
theorem jLX8_22 : FL RX8 22 8 8 := ⟨_, _, _, rfl, by decide, gt_mem (i := 956) (by decide +kernel) rfl, rfl⟩
def LX8 : LT := fun cI cB h0 u => WX8 cI cB h0 u sz6 sz4
set_option maxHeartbeats 4000000 in
set_option maxRecDepth 100000 in
theorem i_X8 (l : Launch) : IM l nX8_init 31 50660 8 [.int 0, .null, .int 0, .long 0, .long 0, .null, .null, .null, .null, .null, .int 0, .int 0, .null, .null, .null, .int 0, .int 0, .int 0, .int 0, .null, .null, .null, .int 0, .null, .int 0, .int 0, .null, .int 0, .null, .null, .null, .null, .null, .null, .null, .null, .null, .null, .null, .int 0, .null, .null, .int 0, .null, .int 0, .int 0, .null, .null, .null, .long 0] [] LX8 := by
  refine met_I (by decide +kernel) rfl (fun h0 => Nat.le_of_ble_eq_true rfl) (fun D cI cB h0 p e s m below meth c ls A C0 hr hlk hmn hA hP hD hS hl => ?_)
  have hx := C0.1.1
  have hb := C0.1.2.1
  have hl : lv_has ls 2 [(0, .ref h0)] := hl
  have hfl : ([.int 0, .null, .int 0, .long 0, .long 0, .null, .null, .null, .null, .null, .int 0, .int 0, .null, .null, .null, .int 0, .int 0, .int 0, .int 0, .null, .null, .null, .int 0, .null, .int 0, .int 0, .null, .int 0, .null, .null, .null, .null, .null, .null, .null, .null, .null, .null, .null, .int 0, .null, .null, .int 0, .null, .int 0, .int 0, .null, .null, .null, .long 0] : List Value).length = 50 := rfl
  refine lv_aload_n hx hb dX8_init_0 rfl (lv_at hl 0 rfl) ?_
  refine i_obj C0 hl.1 joX8_1 dX8_init_1 ⟨Nat.le_of_ble_eq_true rfl, Nat.le_of_ble_eq_true rfl⟩ ?_
  refine lv_aload_n hx hb dX8_init_4 rfl (lv_at hl 0 rfl) ?_
  refine lv_bipush (v := 6) hx hb dX8_init_5 (by decide) ?_
  refine i_naI2 C0 hmn hA hP hD hS 6 (by decide) (by decide +kernel) (by decide) (Nat.le_of_ble_eq_true rfl) (Nat.le_of_ble_eq_true rfl) dX8_init_7 dX8_init_9 jFX8_7 hfl rfl (fun q1 => [.int 0, .ref (q1), .int 0, .long 0, .long 0, .null, .null, .null, .null, .null, .int 0, .int 0, .null, .null, .null, .int 0, .int 0, .int 0, .int 0, .null, .null, .null, .int 0, .null, .int 0, .int 0, .null, .int 0, .null, .null, .null, .null, .null, .null, .null, .null, .null, .null, .null, .int 0, .null, .null, .int 0, .null, .int 0, .int 0, .null, .null, .null, .long 0]) (fun q1 => [(q1, .inl (cI, 6, .inl z_))]) (fun _ => rfl) (fun _ => rfl) (fun q1 H locs hP hD hS hfl => ?_)
  refine lv_aload_n hx hb dX8_init_12 rfl (lv_at hl 0 rfl) ?_
  refine lv_bipush (v := 6) hx hb dX8_init_13 (by decide) ?_
  refine i_naI2 C0 hmn hA hP hD hS 6 (by decide) (by decide +kernel) (by decide) (Nat.le_of_ble_eq_true rfl) (Nat.le_of_ble_eq_true rfl) dX8_init_15 dX8_init_17 jFX8_13 hfl rfl (fun q2 => [.int 0, .ref (q1), .int 0, .long 0, .long 0, .ref (q2), .null, .null, .null, .null, .int 0, .int 0, .null, .null, .null, .int 0, .int 0, .int 0, .int 0, .null, .null, .null, .int 0, .null, .int 0, .int 0, .null, .int 0, .null, .null, .null, .null, .null, .null, .null, .null, .null, .null, .null, .int 0, .null, .null, .int 0, .null, .int 0, .int 0, .null, .null, .null, .long 0]) (fun q2 => [(q1, .inl (cI, 6, .inl z_)), (q2, .inl (cI, 6, .inl z_))]) (fun _ => rfl) (fun _ => rfl) (fun q2 H locs hP hD hS hfl => ?_)
  refine lv_aload_n hx hb dX8_init_20 rfl (lv_at hl 0 rfl) ?_
  refine lv_sipush (v := 240) hx hb dX8_init_21 (by decide) ?_
  refine i_naI2 C0 hmn hA hP hD hS 240 (by decide) (by decide +kernel) (by decide) (Nat.le_of_ble_eq_true rfl) (Nat.le_of_ble_eq_true rfl) dX8_init_24 dX8_init_26 jFX8_16 hfl rfl (fun q3 => [.int 0, .ref (q1), .int 0, .long 0, .long 0, .ref (q2), .ref (q3), .null, .null, .null, .int 0, .int 0, .null, .null, .null, .int 0, .int 0, .int 0, .int 0, .null, .null, .null, .int 0, .null, .int 0, .int 0, .null, .int 0, .null, .null, .null, .null, .null, .null, .null, .null, .null, .null, .null, .int 0, .null, .null, .int 0, .null, .int 0, .int 0, .null, .null, .null, .long 0]) (fun q3 => [(q1, .inl (cI, 6, .inl z_)), (q2, .inl (cI, 6, .inl z_)), (q3, .inl (cI, 240, .inl z_))]) (fun _ => rfl) (fun _ => rfl) (fun q3 H locs hP hD hS hfl => ?_)
  refine lv_aload_n hx hb dX8_init_29 rfl (lv_at hl 0 rfl) ?_
  refine lv_bipush (v := 40) hx hb dX8_init_30 (by decide) ?_
  refine i_naI2 C0 hmn hA hP hD hS 40 (by decide) (by decide +kernel) (by decide) (Nat.le_of_ble_eq_true rfl) (Nat.le_of_ble_eq_true rfl) dX8_init_32 dX8_init_34 jFX8_19 hfl rfl (fun q4 => [.int 0, .ref (q1), .int 0, .long 0, .long 0, .ref (q2), .ref (q3), .ref (q4), .null, .null, .int 0, .int 0, .null, .null, .null, .int 0, .int 0, .int 0, .int 0, .null, .null, .null, .int 0, .null, .int 0, .int 0, .null, .int 0, .null, .null, .null, .null, .null, .null, .null, .null, .null, .null, .null, .int 0, .null, .null, .int 0, .null, .int 0, .int 0, .null, .null, .null, .long 0]) (fun q4 => [(q1, .inl (cI, 6, .inl z_)), (q2, .inl (cI, 6, .inl z_)), (q3, .inl (cI, 240, .inl z_)), (q4, .inl (cI, 40, .inl z_))]) (fun _ => rfl) (fun _ => rfl) (fun q4 H locs hP hD hS hfl => ?_)
  refine lv_aload_n hx hb dX8_init_37 rfl (lv_at hl 0 rfl) ?_
  refine lv_iconst (v := 4) hx hb dX8_init_38 (by decide) ?_
  refine i_naI2 C0 hmn hA hP hD hS 4 (by decide) (by decide +kernel) (by decide) (Nat.le_of_ble_eq_true rfl) (Nat.le_of_ble_eq_true rfl) dX8_init_39 dX8_init_41 jFX8_22 hfl rfl (fun q5 => [.int 0, .ref (q1), .int 0, .long 0, .long 0, .ref (q2), .ref (q3), .ref (q4), .ref (q5), .null, .int 0, .int 0, .null, .null, .null, .int 0, .int 0, .int 0, .int 0, .null, .null, .null, .int 0, .null, .int 0, .int 0, .null, .int 0, .null, .null, .null, .null, .null, .null, .null, .null, .null, .null, .null, .int 0, .null, .null, .int 0, .null, .int 0, .int 0, .null, .null, .null, .long 0]) (fun q5 => [(q1, .inl (cI, 6, .inl z_)), (q2, .inl (cI, 6, .inl z_)), (q3, .inl (cI, 240, .inl z_)), (q4, .inl (cI, 40, .inl z_)), (q5, .inl (cI, 4, .inl z_))]) (fun _ => rfl) (fun _ => rfl) (fun q5 H locs hP hD hS hfl => ?_)
  refine lv_aload_n hx hb dX8_init_44 rfl (lv_at hl 0 rfl) ?_
  refine lv_sipush (v := 480) hx hb dX8_init_45 (by decide) ?_
  refine i_naB2 C0 hmn hA hP hD hS 480 (by decide) (by decide +kernel) (by decide) (Nat.le_of_ble_eq_true rfl) (Nat.le_of_ble_eq_true rfl) dX8_init_48 dX8_init_50 jFX8_25 hfl rfl (fun q6 => [.int 0, .ref (q1), .int 0, .long 0, .long 0, .ref (q2), .ref (q3), .ref (q4), .ref (q5), .ref (q6), .int 0, .int 0, .null, .null, .null, .int 0, .int 0, .int 0, .int 0, .null, .null, .null, .int 0, .null, .int 0, .int 0, .null, .int 0, .null, .null, .null, .null, .null, .null, .null, .null, .null, .null, .null, .int 0, .null, .null, .int 0, .null, .int 0, .int 0, .null, .null, .null, .long 0]) (fun q6 => [(q1, .inl (cI, 6, .inl z_)), (q2, .inl (cI, 6, .inl z_)), (q3, .inl (cI, 240, .inl z_)), (q4, .inl (cI, 40, .inl z_)), (q5, .inl (cI, 4, .inl z_)), (q6, .inl (cB, 480, .inl z_))]) (fun _ => rfl) (fun _ => rfl) (fun q6 H locs hP hD hS hfl => ?_)
  refine lv_aload_n hx hb dX8_init_53 rfl (lv_at hl 0 rfl) ?_
  refine lv_bipush (v := 6) hx hb dX8_init_54 (by decide) ?_
  refine i_naI2 C0 hmn hA hP hD hS 6 (by decide) (by decide +kernel) (by decide) (Nat.le_of_ble_eq_true rfl) (Nat.le_of_ble_eq_true rfl) dX8_init_56 dX8_init_58 jFX8_29 hfl rfl (fun q7 => [.int 0, .ref (q1), .int 0, .long 0, .long 0, .ref (q2), .ref (q3), .ref (q4), .ref (q5), .ref (q6), .int 0, .int 0, .ref (q7), .null, .null, .int 0, .int 0, .int 0, .int 0, .null, .null, .null, .int 0, .null, .int 0, .int 0, .null, .int 0, .null, .null, .null, .null, .null, .null, .null, .null, .null, .null, .null, .int 0, .null, .null, .int 0, .null, .int 0, .int 0, .null, .null, .null, .long 0]) (fun q7 => [(q1, .inl (cI, 6, .inl z_)), (q2, .inl (cI, 6, .inl z_)), (q3, .inl (cI, 240, .inl z_)), (q4, .inl (cI, 40, .inl z_)), (q5, .inl (cI, 4, .inl z_)), (q6, .inl (cB, 480, .inl z_)), (q7, .inl (cI, 6, .inl z_))]) (fun _ => rfl) (fun _ => rfl) (fun q7 H locs hP hD hS hfl => ?_)
  refine lv_aload_n hx hb dX8_init_61 rfl (lv_at hl 0 rfl) ?_
  refine lv_bipush (v := 12) hx hb dX8_init_62 (by decide) ?_
  refine i_naI2 C0 hmn hA hP hD hS 12 (by decide) (by decide +kernel) (by decide) (Nat.le_of_ble_eq_true rfl) (Nat.le_of_ble_eq_true rfl) dX8_init_64 dX8_init_66 jFX8_32 hfl rfl (fun q8 => [.int 0, .ref (q1), .int 0, .long 0, .long 0, .ref (q2), .ref (q3), .ref (q4), .ref (q5), .ref (q6), .int 0, .int 0, .ref (q7), .ref (q8), .null, .int 0, .int 0, .int 0, .int 0, .null, .null, .null, .int 0, .null, .int 0, .int 0, .null, .int 0, .null, .null, .null, .null, .null, .null, .null, .null, .null, .null, .null, .int 0, .null, .null, .int 0, .null, .int 0, .int 0, .null, .null, .null, .long 0]) (fun q8 => [(q1, .inl (cI, 6, .inl z_)), (q2, .inl (cI, 6, .inl z_)), (q3, .inl (cI, 240, .inl z_)), (q4, .inl (cI, 40, .inl z_)), (q5, .inl (cI, 4, .inl z_)), (q6, .inl (cB, 480, .inl z_)), (q7, .inl (cI, 6, .inl z_)), (q8, .inl (cI, 12, .inl z_))]) (fun _ => rfl) (fun _ => rfl) (fun q8 H locs hP hD hS hfl => ?_)
  refine lv_aload_n hx hb dX8_init_69 rfl (lv_at hl 0 rfl) ?_
  refine lv_bipush (v := 12) hx hb dX8_init_70 (by decide) ?_
  refine i_naI2 C0 hmn hA hP hD hS 12 (by decide) (by decide +kernel) (by decide) (Nat.le_of_ble_eq_true rfl) (Nat.le_of_ble_eq_true rfl) dX8_init_72 dX8_init_74 jFX8_35 hfl rfl (fun q9 => [.int 0, .ref (q1), .int 0, .long 0, .long 0, .ref (q2), .ref (q3), .ref (q4), .ref (q5), .ref (q6), .int 0, .int 0, .ref (q7), .ref (q8), .ref (q9), .int 0, .int 0, .int 0, .int 0, .null, .null, .null, .int 0, .null, .int 0, .int 0, .null, .int 0, .null, .null, .null, .null, .null, .null, .null, .null, .null, .null, .null, .int 0, .null, .null, .int 0, .null, .int 0, .int 0, .null, .null, .null, .long 0]) (fun q9 => [(q1, .inl (cI, 6, .inl z_)), (q2, .inl (cI, 6, .inl z_)), (q3, .inl (cI, 240, .inl z_)), (q4, .inl (cI, 40, .inl z_)), (q5, .inl (cI, 4, .inl z_)), (q6, .inl (cB, 480, .inl z_)), (q7, .inl (cI, 6, .inl z_)), (q8, .inl (cI, 12, .inl z_)), (q9, .inl (cI, 12, .inl z_))]) (fun _ => rfl) (fun _ => rfl) (fun q9 H locs hP hD hS hfl => ?_)
  refine lv_aload_n hx hb dX8_init_77 rfl (lv_at hl 0 rfl) ?_
  refine lv_bipush (v := 6) hx hb dX8_init_78 (by decide) ?_
  refine i_naI2 C0 hmn hA hP hD hS 6 (by decide) (by decide +kernel) (by decide) (Nat.le_of_ble_eq_true rfl) (Nat.le_of_ble_eq_true rfl) dX8_init_80 dX8_init_82 jFX8_38 hfl rfl (fun q10 => [.int 0, .ref (q1), .int 0, .long 0, .long 0, .ref (q2), .ref (q3), .ref (q4), .ref (q5), .ref (q6), .int 0, .int 0, .ref (q7), .ref (q8), .ref (q9), .int 0, .int 0, .int 0, .int 0, .ref (q10), .null, .null, .int 0, .null, .int 0, .int 0, .null, .int 0, .null, .null, .null, .null, .null, .null, .null, .null, .null, .null, .null, .int 0, .null, .null, .int 0, .null, .int 0, .int 0, .null, .null, .null, .long 0]) (fun q10 => [(q1, .inl (cI, 6, .inl z_)), (q2, .inl (cI, 6, .inl z_)), (q3, .inl (cI, 240, .inl z_)), (q4, .inl (cI, 40, .inl z_)), (q5, .inl (cI, 4, .inl z_)), (q6, .inl (cB, 480, .inl z_)), (q7, .inl (cI, 6, .inl z_)), (q8, .inl (cI, 12, .inl z_)), (q9, .inl (cI, 12, .inl z_)), (q10, .inl (cI, 6, .inl z_))]) (fun _ => rfl) (fun _ => rfl) (fun q10 H locs hP hD hS hfl => ?_)
  refine lv_aload_n hx hb dX8_init_85 rfl (lv_at hl 0 rfl) ?_
  refine lv_bipush (v := 12) hx hb dX8_init_86 (by decide) ?_
  refine i_naI2 C0 hmn hA hP hD hS 12 (by decide) (by decide +kernel) (by decide) (Nat.le_of_ble_eq_true rfl) (Nat.le_of_ble_eq_true rfl) dX8_init_88 dX8_init_90 jFX8_41 hfl rfl (fun q11 => [.int 0, .ref (q1), .int 0, .long 0, .long 0, .ref (q2), .ref (q3), .ref (q4), .ref (q5), .ref (q6), .int 0, .int 0, .ref (q7), .ref (q8), .ref (q9), .int 0, .int 0, .int 0, .int 0, .ref (q10), .ref (q11), .null, .int 0, .null, .int 0, .int 0, .null, .int 0, .null, .null, .null, .null, .null, .null, .null, .null, .null, .null, .null, .int 0, .null, .null, .int 0, .null, .int 0, .int 0, .null, .null, .null, .long 0]) (fun q11 => [(q1, .inl (cI, 6, .inl z_)), (q2, .inl (cI, 6, .inl z_)), (q3, .inl (cI, 240, .inl z_)), (q4, .inl (cI, 40, .inl z_)), (q5, .inl (cI, 4, .inl z_)), (q6, .inl (cB, 480, .inl z_)), (q7, .inl (cI, 6, .inl z_)), (q8, .inl (cI, 12, .inl z_)), (q9, .inl (cI, 12, .inl z_)), (q10, .inl (cI, 6, .inl z_)), (q11, .inl (cI, 12, .inl z_))]) (fun _ => rfl) (fun _ => rfl) (fun q11 H locs hP hD hS hfl => ?_)
  refine lv_aload_n hx hb dX8_init_93 rfl (lv_at hl 0 rfl) ?_
  refine lv_bipush (v := 12) hx hb dX8_init_94 (by decide) ?_
  refine i_naI2 C0 hmn hA hP hD hS 12 (by decide) (by decide +kernel) (by decide) (Nat.le_of_ble_eq_true rfl) (Nat.le_of_ble_eq_true rfl) dX8_init_96 dX8_init_98 jFX8_44 hfl rfl (fun q12 => [.int 0, .ref (q1), .int 0, .long 0, .long 0, .ref (q2), .ref (q3), .ref (q4), .ref (q5), .ref (q6), .int 0, .int 0, .ref (q7), .ref (q8), .ref (q9), .int 0, .int 0, .int 0, .int 0, .ref (q10), .ref (q11), .ref (q12), .int 0, .null, .int 0, .int 0, .null, .int 0, .null, .null, .null, .null, .null, .null, .null, .null, .null, .null, .null, .int 0, .null, .null, .int 0, .null, .int 0, .int 0, .null, .null, .null, .long 0]) (fun q12 => [(q1, .inl (cI, 6, .inl z_)), (q2, .inl (cI, 6, .inl z_)), (q3, .inl (cI, 240, .inl z_)), (q4, .inl (cI, 40, .inl z_)), (q5, .inl (cI, 4, .inl z_)), (q6, .inl (cB, 480, .inl z_)), (q7, .inl (cI, 6, .inl z_)), (q8, .inl (cI, 12, .inl z_)), (q9, .inl (cI, 12, .inl z_)), (q10, .inl (cI, 6, .inl z_)), (q11, .inl (cI, 12, .inl z_)), (q12, .inl (cI, 12, .inl z_))]) (fun _ => rfl) (fun _ => rfl) (fun q12 H locs hP hD hS hfl => ?_)
  refine lv_aload_n hx hb dX8_init_101 rfl (lv_at hl 0 rfl) ?_
  refine lv_sipush (v := 160) hx hb dX8_init_102 (by decide) ?_
  refine i_naI2 C0 hmn hA hP hD hS 160 (by decide) (by decide +kernel) (by decide) (Nat.le_of_ble_eq_true rfl) (Nat.le_of_ble_eq_true rfl) dX8_init_105 dX8_init_107 jFX8_47 hfl rfl (fun q13 => [.int 0, .ref (q1), .int 0, .long 0, .long 0, .ref (q2), .ref (q3), .ref (q4), .ref (q5), .ref (q6), .int 0, .int 0, .ref (q7), .ref (q8), .ref (q9), .int 0, .int 0, .int 0, .int 0, .ref (q10), .ref (q11), .ref (q12), .int 0, .ref (q13), .int 0, .int 0, .null, .int 0, .null, .null, .null, .null, .null, .null, .null, .null, .null, .null, .null, .int 0, .null, .null, .int 0, .null, .int 0, .int 0, .null, .null, .null, .long 0]) (fun q13 => [(q1, .inl (cI, 6, .inl z_)), (q2, .inl (cI, 6, .inl z_)), (q3, .inl (cI, 240, .inl z_)), (q4, .inl (cI, 40, .inl z_)), (q5, .inl (cI, 4, .inl z_)), (q6, .inl (cB, 480, .inl z_)), (q7, .inl (cI, 6, .inl z_)), (q8, .inl (cI, 12, .inl z_)), (q9, .inl (cI, 12, .inl z_)), (q10, .inl (cI, 6, .inl z_)), (q11, .inl (cI, 12, .inl z_)), (q12, .inl (cI, 12, .inl z_)), (q13, .inl (cI, 160, .inl z_))]) (fun _ => rfl) (fun _ => rfl) (fun q13 H locs hP hD hS hfl => ?_)
  refine lv_aload_n hx hb dX8_init_110 rfl (lv_at hl 0 rfl) ?_
  refine lv_sipush (v := 160) hx hb dX8_init_111 (by decide) ?_
  refine i_naI2 C0 hmn hA hP hD hS 160 (by decide) (by decide +kernel) (by decide) (Nat.le_of_ble_eq_true rfl) (Nat.le_of_ble_eq_true rfl) dX8_init_114 dX8_init_116 jFX8_50 hfl rfl (fun q14 => [.int 0, .ref (q1), .int 0, .long 0, .long 0, .ref (q2), .ref (q3), .ref (q4), .ref (q5), .ref (q6), .int 0, .int 0, .ref (q7), .ref (q8), .ref (q9), .int 0, .int 0, .int 0, .int 0, .ref (q10), .ref (q11), .ref (q12), .int 0, .ref (q13), .int 0, .int 0, .ref (q14), .int 0, .null, .null, .null, .null, .null, .null, .null, .null, .null, .null, .null, .int 0, .null, .null, .int 0, .null, .int 0, .int 0, .null, .null, .null, .long 0]) (fun q14 => [(q1, .inl (cI, 6, .inl z_)), (q2, .inl (cI, 6, .inl z_)), (q3, .inl (cI, 240, .inl z_)), (q4, .inl (cI, 40, .inl z_)), (q5, .inl (cI, 4, .inl z_)), (q6, .inl (cB, 480, .inl z_)), (q7, .inl (cI, 6, .inl z_)), (q8, .inl (cI, 12, .inl z_)), (q9, .inl (cI, 12, .inl z_)), (q10, .inl (cI, 6, .inl z_)), (q11, .inl (cI, 12, .inl z_)), (q12, .inl (cI, 12, .inl z_)), (q13, .inl (cI, 160, .inl z_)), (q14, .inl (cI, 160, .inl z_))]) (fun _ => rfl) (fun _ => rfl) (fun q14 H locs hP hD hS hfl => ?_)
  refine lv_aload_n hx hb dX8_init_119 rfl (lv_at hl 0 rfl) ?_
  refine lv_bipush (v := 24) hx hb dX8_init_120 (by decide) ?_
  refine i_naI2 C0 hmn hA hP hD hS 24 (by decide) (by decide +kernel) (by decide) (Nat.le_of_ble_eq_true rfl) (Nat.le_of_ble_eq_true rfl) dX8_init_122 dX8_init_124 jFX8_53 hfl rfl (fun q15 => [.int 0, .ref (q1), .int 0, .long 0, .long 0, .ref (q2), .ref (q3), .ref (q4), .ref (q5), .ref (q6), .int 0, .int 0, .ref (q7), .ref (q8), .ref (q9), .int 0, .int 0, .int 0, .int 0, .ref (q10), .ref (q11), .ref (q12), .int 0, .ref (q13), .int 0, .int 0, .ref (q14), .int 0, .ref (q15), .null, .null, .null, .null, .null, .null, .null, .null, .null, .null, .int 0, .null, .null, .int 0, .null, .int 0, .int 0, .null, .null, .null, .long 0]) (fun q15 => [(q1, .inl (cI, 6, .inl z_)), (q2, .inl (cI, 6, .inl z_)), (q3, .inl (cI, 240, .inl z_)), (q4, .inl (cI, 40, .inl z_)), (q5, .inl (cI, 4, .inl z_)), (q6, .inl (cB, 480, .inl z_)), (q7, .inl (cI, 6, .inl z_)), (q8, .inl (cI, 12, .inl z_)), (q9, .inl (cI, 12, .inl z_)), (q10, .inl (cI, 6, .inl z_)), (q11, .inl (cI, 12, .inl z_)), (q12, .inl (cI, 12, .inl z_)), (q13, .inl (cI, 160, .inl z_)), (q14, .inl (cI, 160, .inl z_)), (q15, .inl (cI, 24, .inl z_))]) (fun _ => rfl) (fun _ => rfl) (fun q15 H locs hP hD hS hfl => ?_)
  refine lv_aload_n hx hb dX8_init_127 rfl (lv_at hl 0 rfl) ?_
  refine lv_bipush (v := 24) hx hb dX8_init_128 (by decide) ?_
  refine i_naI2 C0 hmn hA hP hD hS 24 (by decide) (by decide +kernel) (by decide) (Nat.le_of_ble_eq_true rfl) (Nat.le_of_ble_eq_true rfl) dX8_init_130 dX8_init_132 jFX8_56 hfl rfl (fun q16 => [.int 0, .ref (q1), .int 0, .long 0, .long 0, .ref (q2), .ref (q3), .ref (q4), .ref (q5), .ref (q6), .int 0, .int 0, .ref (q7), .ref (q8), .ref (q9), .int 0, .int 0, .int 0, .int 0, .ref (q10), .ref (q11), .ref (q12), .int 0, .ref (q13), .int 0, .int 0, .ref (q14), .int 0, .ref (q15), .ref (q16), .null, .null, .null, .null, .null, .null, .null, .null, .null, .int 0, .null, .null, .int 0, .null, .int 0, .int 0, .null, .null, .null, .long 0]) (fun q16 => [(q1, .inl (cI, 6, .inl z_)), (q2, .inl (cI, 6, .inl z_)), (q3, .inl (cI, 240, .inl z_)), (q4, .inl (cI, 40, .inl z_)), (q5, .inl (cI, 4, .inl z_)), (q6, .inl (cB, 480, .inl z_)), (q7, .inl (cI, 6, .inl z_)), (q8, .inl (cI, 12, .inl z_)), (q9, .inl (cI, 12, .inl z_)), (q10, .inl (cI, 6, .inl z_)), (q11, .inl (cI, 12, .inl z_)), (q12, .inl (cI, 12, .inl z_)), (q13, .inl (cI, 160, .inl z_)), (q14, .inl (cI, 160, .inl z_)), (q15, .inl (cI, 24, .inl z_)), (q16, .inl (cI, 24, .inl z_))]) (fun _ => rfl) (fun _ => rfl) (fun q16 H locs hP hD hS hfl => ?_)
  refine lv_aload_n hx hb dX8_init_135 rfl (lv_at hl 0 rfl) ?_
  refine lv_bipush (v := 24) hx hb dX8_init_136 (by decide) ?_
  refine i_naI2 C0 hmn hA hP hD hS 24 (by decide) (by decide +kernel) (by decide) (Nat.le_of_ble_eq_true rfl) (Nat.le_of_ble_eq_true rfl) dX8_init_138 dX8_init_140 jFX8_59 hfl rfl (fun q17 => [.int 0, .ref (q1), .int 0, .long 0, .long 0, .ref (q2), .ref (q3), .ref (q4), .ref (q5), .ref (q6), .int 0, .int 0, .ref (q7), .ref (q8), .ref (q9), .int 0, .int 0, .int 0, .int 0, .ref (q10), .ref (q11), .ref (q12), .int 0, .ref (q13), .int 0, .int 0, .ref (q14), .int 0, .ref (q15), .ref (q16), .ref (q17), .null, .null, .null, .null, .null, .null, .null, .null, .int 0, .null, .null, .int 0, .null, .int 0, .int 0, .null, .null, .null, .long 0]) (fun q17 => [(q1, .inl (cI, 6, .inl z_)), (q2, .inl (cI, 6, .inl z_)), (q3, .inl (cI, 240, .inl z_)), (q4, .inl (cI, 40, .inl z_)), (q5, .inl (cI, 4, .inl z_)), (q6, .inl (cB, 480, .inl z_)), (q7, .inl (cI, 6, .inl z_)), (q8, .inl (cI, 12, .inl z_)), (q9, .inl (cI, 12, .inl z_)), (q10, .inl (cI, 6, .inl z_)), (q11, .inl (cI, 12, .inl z_)), (q12, .inl (cI, 12, .inl z_)), (q13, .inl (cI, 160, .inl z_)), (q14, .inl (cI, 160, .inl z_)), (q15, .inl (cI, 24, .inl z_)), (q16, .inl (cI, 24, .inl z_)), (q17, .inl (cI, 24, .inl z_))]) (fun _ => rfl) (fun _ => rfl) (fun q17 H locs hP hD hS hfl => ?_)
  refine lv_aload_n hx hb dX8_init_143 rfl (lv_at hl 0 rfl) ?_
  refine lv_bipush (v := 24) hx hb dX8_init_144 (by decide) ?_
  refine i_naI2 C0 hmn hA hP hD hS 24 (by decide) (by decide +kernel) (by decide) (Nat.le_of_ble_eq_true rfl) (Nat.le_of_ble_eq_true rfl) dX8_init_146 dX8_init_148 jFX8_62 hfl rfl (fun q18 => [.int 0, .ref (q1), .int 0, .long 0, .long 0, .ref (q2), .ref (q3), .ref (q4), .ref (q5), .ref (q6), .int 0, .int 0, .ref (q7), .ref (q8), .ref (q9), .int 0, .int 0, .int 0, .int 0, .ref (q10), .ref (q11), .ref (q12), .int 0, .ref (q13), .int 0, .int 0, .ref (q14), .int 0, .ref (q15), .ref (q16), .ref (q17), .ref (q18), .null, .null, .null, .null, .null, .null, .null, .int 0, .null, .null, .int 0, .null, .int 0, .int 0, .null, .null, .null, .long 0]) (fun q18 => [(q1, .inl (cI, 6, .inl z_)), (q2, .inl (cI, 6, .inl z_)), (q3, .inl (cI, 240, .inl z_)), (q4, .inl (cI, 40, .inl z_)), (q5, .inl (cI, 4, .inl z_)), (q6, .inl (cB, 480, .inl z_)), (q7, .inl (cI, 6, .inl z_)), (q8, .inl (cI, 12, .inl z_)), (q9, .inl (cI, 12, .inl z_)), (q10, .inl (cI, 6, .inl z_)), (q11, .inl (cI, 12, .inl z_)), (q12, .inl (cI, 12, .inl z_)), (q13, .inl (cI, 160, .inl z_)), (q14, .inl (cI, 160, .inl z_)), (q15, .inl (cI, 24, .inl z_)), (q16, .inl (cI, 24, .inl z_)), (q17, .inl (cI, 24, .inl z_)), (q18, .inl (cI, 24, .inl z_))]) (fun _ => rfl) (fun _ => rfl) (fun q18 H locs hP hD hS hfl => ?_)
  refine lv_aload_n hx hb dX8_init_151 rfl (lv_at hl 0 rfl) ?_
  refine lv_bipush (v := 24) hx hb dX8_init_152 (by decide) ?_
  refine i_naI2 C0 hmn hA hP hD hS 24 (by decide) (by decide +kernel) (by decide) (Nat.le_of_ble_eq_true rfl) (Nat.le_of_ble_eq_true rfl) dX8_init_154 dX8_init_156 jFX8_65 hfl rfl (fun q19 => [.int 0, .ref (q1), .int 0, .long 0, .long 0, .ref (q2), .ref (q3), .ref (q4), .ref (q5), .ref (q6), .int 0, .int 0, .ref (q7), .ref (q8), .ref (q9), .int 0, .int 0, .int 0, .int 0, .ref (q10), .ref (q11), .ref (q12), .int 0, .ref (q13), .int 0, .int 0, .ref (q14), .int 0, .ref (q15), .ref (q16), .ref (q17), .ref (q18), .ref (q19), .null, .null, .null, .null, .null, .null, .int 0, .null, .null, .int 0, .null, .int 0, .int 0, .null, .null, .null, .long 0]) (fun q19 => [(q1, .inl (cI, 6, .inl z_)), (q2, .inl (cI, 6, .inl z_)), (q3, .inl (cI, 240, .inl z_)), (q4, .inl (cI, 40, .inl z_)), (q5, .inl (cI, 4, .inl z_)), (q6, .inl (cB, 480, .inl z_)), (q7, .inl (cI, 6, .inl z_)), (q8, .inl (cI, 12, .inl z_)), (q9, .inl (cI, 12, .inl z_)), (q10, .inl (cI, 6, .inl z_)), (q11, .inl (cI, 12, .inl z_)), (q12, .inl (cI, 12, .inl z_)), (q13, .inl (cI, 160, .inl z_)), (q14, .inl (cI, 160, .inl z_)), (q15, .inl (cI, 24, .inl z_)), (q16, .inl (cI, 24, .inl z_)), (q17, .inl (cI, 24, .inl z_)), (q18, .inl (cI, 24, .inl z_)), (q19, .inl (cI, 24, .inl z_))]) (fun _ => rfl) (fun _ => rfl) (fun q19 H locs hP hD hS hfl => ?_)
  refine lv_aload_n hx hb dX8_init_159 rfl (lv_at hl 0 rfl) ?_
  refine lv_bipush (v := 40) hx hb dX8_init_160 (by decide) ?_
  refine i_naI2 C0 hmn hA hP hD hS 40 (by decide) (by decide +kernel) (by decide) (Nat.le_of_ble_eq_true rfl) (Nat.le_of_ble_eq_true rfl) dX8_init_162 dX8_init_164 jFX8_68 hfl rfl (fun q20 => [.int 0, .ref (q1), .int 0, .long 0, .long 0, .ref (q2), .ref (q3), .ref (q4), .ref (q5), .ref (q6), .int 0, .int 0, .ref (q7), .ref (q8), .ref (q9), .int 0, .int 0, .int 0, .int 0, .ref (q10), .ref (q11), .ref (q12), .int 0, .ref (q13), .int 0, .int 0, .ref (q14), .int 0, .ref (q15), .ref (q16), .ref (q17), .ref (q18), .ref (q19), .ref (q20), .null, .null, .null, .null, .null, .int 0, .null, .null, .int 0, .null, .int 0, .int 0, .null, .null, .null, .long 0]) (fun q20 => [(q1, .inl (cI, 6, .inl z_)), (q2, .inl (cI, 6, .inl z_)), (q3, .inl (cI, 240, .inl z_)), (q4, .inl (cI, 40, .inl z_)), (q5, .inl (cI, 4, .inl z_)), (q6, .inl (cB, 480, .inl z_)), (q7, .inl (cI, 6, .inl z_)), (q8, .inl (cI, 12, .inl z_)), (q9, .inl (cI, 12, .inl z_)), (q10, .inl (cI, 6, .inl z_)), (q11, .inl (cI, 12, .inl z_)), (q12, .inl (cI, 12, .inl z_)), (q13, .inl (cI, 160, .inl z_)), (q14, .inl (cI, 160, .inl z_)), (q15, .inl (cI, 24, .inl z_)), (q16, .inl (cI, 24, .inl z_)), (q17, .inl (cI, 24, .inl z_)), (q18, .inl (cI, 24, .inl z_)), (q19, .inl (cI, 24, .inl z_)), (q20, .inl (cI, 40, .inl z_))]) (fun _ => rfl) (fun _ => rfl) (fun q20 H locs hP hD hS hfl => ?_)
  refine lv_aload_n hx hb dX8_init_167 rfl (lv_at hl 0 rfl) ?_
  refine lv_bipush (v := 6) hx hb dX8_init_168 (by decide) ?_
  refine i_naI2 C0 hmn hA hP hD hS 6 (by decide) (by decide +kernel) (by decide) (Nat.le_of_ble_eq_true rfl) (Nat.le_of_ble_eq_true rfl) dX8_init_170 dX8_init_172 jFX8_71 hfl rfl (fun q21 => [.int 0, .ref (q1), .int 0, .long 0, .long 0, .ref (q2), .ref (q3), .ref (q4), .ref (q5), .ref (q6), .int 0, .int 0, .ref (q7), .ref (q8), .ref (q9), .int 0, .int 0, .int 0, .int 0, .ref (q10), .ref (q11), .ref (q12), .int 0, .ref (q13), .int 0, .int 0, .ref (q14), .int 0, .ref (q15), .ref (q16), .ref (q17), .ref (q18), .ref (q19), .ref (q20), .ref (q21), .null, .null, .null, .null, .int 0, .null, .null, .int 0, .null, .int 0, .int 0, .null, .null, .null, .long 0]) (fun q21 => [(q1, .inl (cI, 6, .inl z_)), (q2, .inl (cI, 6, .inl z_)), (q3, .inl (cI, 240, .inl z_)), (q4, .inl (cI, 40, .inl z_)), (q5, .inl (cI, 4, .inl z_)), (q6, .inl (cB, 480, .inl z_)), (q7, .inl (cI, 6, .inl z_)), (q8, .inl (cI, 12, .inl z_)), (q9, .inl (cI, 12, .inl z_)), (q10, .inl (cI, 6, .inl z_)), (q11, .inl (cI, 12, .inl z_)), (q12, .inl (cI, 12, .inl z_)), (q13, .inl (cI, 160, .inl z_)), (q14, .inl (cI, 160, .inl z_)), (q15, .inl (cI, 24, .inl z_)), (q16, .inl (cI, 24, .inl z_)), (q17, .inl (cI, 24, .inl z_)), (q18, .inl (cI, 24, .inl z_)), (q19, .inl (cI, 24, .inl z_)), (q20, .inl (cI, 40, .inl z_)), (q21, .inl (cI, 6, .inl z_))]) (fun _ => rfl) (fun _ => rfl) (fun q21 H locs hP hD hS hfl => ?_)
  refine lv_aload_n hx hb dX8_init_175 rfl (lv_at hl 0 rfl) ?_
  refine lv_sipush (v := 144) hx hb dX8_init_176 (by decide) ?_
  refine i_naI2 C0 hmn hA hP hD hS 144 (by decide) (by decide +kernel) (by decide) (Nat.le_of_ble_eq_true rfl) (Nat.le_of_ble_eq_true rfl) dX8_init_179 dX8_init_181 jFX8_74 hfl rfl (fun q22 => [.int 0, .ref (q1), .int 0, .long 0, .long 0, .ref (q2), .ref (q3), .ref (q4), .ref (q5), .ref (q6), .int 0, .int 0, .ref (q7), .ref (q8), .ref (q9), .int 0, .int 0, .int 0, .int 0, .ref (q10), .ref (q11), .ref (q12), .int 0, .ref (q13), .int 0, .int 0, .ref (q14), .int 0, .ref (q15), .ref (q16), .ref (q17), .ref (q18), .ref (q19), .ref (q20), .ref (q21), .ref (q22), .null, .null, .null, .int 0, .null, .null, .int 0, .null, .int 0, .int 0, .null, .null, .null, .long 0]) (fun q22 => [(q1, .inl (cI, 6, .inl z_)), (q2, .inl (cI, 6, .inl z_)), (q3, .inl (cI, 240, .inl z_)), (q4, .inl (cI, 40, .inl z_)), (q5, .inl (cI, 4, .inl z_)), (q6, .inl (cB, 480, .inl z_)), (q7, .inl (cI, 6, .inl z_)), (q8, .inl (cI, 12, .inl z_)), (q9, .inl (cI, 12, .inl z_)), (q10, .inl (cI, 6, .inl z_)), (q11, .inl (cI, 12, .inl z_)), (q12, .inl (cI, 12, .inl z_)), (q13, .inl (cI, 160, .inl z_)), (q14, .inl (cI, 160, .inl z_)), (q15, .inl (cI, 24, .inl z_)), (q16, .inl (cI, 24, .inl z_)), (q17, .inl (cI, 24, .inl z_)), (q18, .inl (cI, 24, .inl z_)), (q19, .inl (cI, 24, .inl z_)), (q20, .inl (cI, 40, .inl z_)), (q21, .inl (cI, 6, .inl z_)), (q22, .inl (cI, 144, .inl z_))]) (fun _ => rfl) (fun _ => rfl) (fun q22 H locs hP hD hS hfl => ?_)
  refine lv_aload_n hx hb dX8_init_184 rfl (lv_at hl 0 rfl) ?_
  refine lv_bipush (v := 6) hx hb dX8_init_185 (by decide) ?_
  refine i_naI2 C0 hmn hA hP hD hS 6 (by decide) (by decide +kernel) (by decide) (Nat.le_of_ble_eq_true rfl) (Nat.le_of_ble_eq_true rfl) dX8_init_187 dX8_init_189 jFX8_77 hfl rfl (fun q23 => [.int 0, .ref (q1), .int 0, .long 0, .long 0, .ref (q2), .ref (q3), .ref (q4), .ref (q5), .ref (q6), .int 0, .int 0, .ref (q7), .ref (q8), .ref (q9), .int 0, .int 0, .int 0, .int 0, .ref (q10), .ref (q11), .ref (q12), .int 0, .ref (q13), .int 0, .int 0, .ref (q14), .int 0, .ref (q15), .ref (q16), .ref (q17), .ref (q18), .ref (q19), .ref (q20), .ref (q21), .ref (q22), .ref (q23), .null, .null, .int 0, .null, .null, .int 0, .null, .int 0, .int 0, .null, .null, .null, .long 0]) (fun q23 => [(q1, .inl (cI, 6, .inl z_)), (q2, .inl (cI, 6, .inl z_)), (q3, .inl (cI, 240, .inl z_)), (q4, .inl (cI, 40, .inl z_)), (q5, .inl (cI, 4, .inl z_)), (q6, .inl (cB, 480, .inl z_)), (q7, .inl (cI, 6, .inl z_)), (q8, .inl (cI, 12, .inl z_)), (q9, .inl (cI, 12, .inl z_)), (q10, .inl (cI, 6, .inl z_)), (q11, .inl (cI, 12, .inl z_)), (q12, .inl (cI, 12, .inl z_)), (q13, .inl (cI, 160, .inl z_)), (q14, .inl (cI, 160, .inl z_)), (q15, .inl (cI, 24, .inl z_)), (q16, .inl (cI, 24, .inl z_)), (q17, .inl (cI, 24, .inl z_)), (q18, .inl (cI, 24, .inl z_)), (q19, .inl (cI, 24, .inl z_)), (q20, .inl (cI, 40, .inl z_)), (q21, .inl (cI, 6, .inl z_)), (q22, .inl (cI, 144, .inl z_)), (q23, .inl (cI, 6, .inl z_))]) (fun _ => rfl) (fun _ => rfl) (fun q23 H locs hP hD hS hfl => ?_)
  refine lv_aload_n hx hb dX8_init_192 rfl (lv_at hl 0 rfl) ?_
  refine lv_bipush (v := 6) hx hb dX8_init_193 (by decide) ?_
  refine i_naI2 C0 hmn hA hP hD hS 6 (by decide) (by decide +kernel) (by decide) (Nat.le_of_ble_eq_true rfl) (Nat.le_of_ble_eq_true rfl) dX8_init_195 dX8_init_197 jFX8_80 hfl rfl (fun q24 => [.int 0, .ref (q1), .int 0, .long 0, .long 0, .ref (q2), .ref (q3), .ref (q4), .ref (q5), .ref (q6), .int 0, .int 0, .ref (q7), .ref (q8), .ref (q9), .int 0, .int 0, .int 0, .int 0, .ref (q10), .ref (q11), .ref (q12), .int 0, .ref (q13), .int 0, .int 0, .ref (q14), .int 0, .ref (q15), .ref (q16), .ref (q17), .ref (q18), .ref (q19), .ref (q20), .ref (q21), .ref (q22), .ref (q23), .ref (q24), .null, .int 0, .null, .null, .int 0, .null, .int 0, .int 0, .null, .null, .null, .long 0]) (fun q24 => [(q1, .inl (cI, 6, .inl z_)), (q2, .inl (cI, 6, .inl z_)), (q3, .inl (cI, 240, .inl z_)), (q4, .inl (cI, 40, .inl z_)), (q5, .inl (cI, 4, .inl z_)), (q6, .inl (cB, 480, .inl z_)), (q7, .inl (cI, 6, .inl z_)), (q8, .inl (cI, 12, .inl z_)), (q9, .inl (cI, 12, .inl z_)), (q10, .inl (cI, 6, .inl z_)), (q11, .inl (cI, 12, .inl z_)), (q12, .inl (cI, 12, .inl z_)), (q13, .inl (cI, 160, .inl z_)), (q14, .inl (cI, 160, .inl z_)), (q15, .inl (cI, 24, .inl z_)), (q16, .inl (cI, 24, .inl z_)), (q17, .inl (cI, 24, .inl z_)), (q18, .inl (cI, 24, .inl z_)), (q19, .inl (cI, 24, .inl z_)), (q20, .inl (cI, 40, .inl z_)), (q21, .inl (cI, 6, .inl z_)), (q22, .inl (cI, 144, .inl z_)), (q23, .inl (cI, 6, .inl z_)), (q24, .inl (cI, 6, .inl z_))]) (fun _ => rfl) (fun _ => rfl) (fun q24 H locs hP hD hS hfl => ?_)
  refine lv_aload_n hx hb dX8_init_200 rfl (lv_at hl 0 rfl) ?_
  refine lv_bipush (v := 6) hx hb dX8_init_201 (by decide) ?_
  refine i_naI2 C0 hmn hA hP hD hS 6 (by decide) (by decide +kernel) (by decide) (Nat.le_of_ble_eq_true rfl) (Nat.le_of_ble_eq_true rfl) dX8_init_203 dX8_init_205 jFX8_83 hfl rfl (fun q25 => [.int 0, .ref (q1), .int 0, .long 0, .long 0, .ref (q2), .ref (q3), .ref (q4), .ref (q5), .ref (q6), .int 0, .int 0, .ref (q7), .ref (q8), .ref (q9), .int 0, .int 0, .int 0, .int 0, .ref (q10), .ref (q11), .ref (q12), .int 0, .ref (q13), .int 0, .int 0, .ref (q14), .int 0, .ref (q15), .ref (q16), .ref (q17), .ref (q18), .ref (q19), .ref (q20), .ref (q21), .ref (q22), .ref (q23), .ref (q24), .ref (q25), .int 0, .null, .null, .int 0, .null, .int 0, .int 0, .null, .null, .null, .long 0]) (fun q25 => [(q1, .inl (cI, 6, .inl z_)), (q2, .inl (cI, 6, .inl z_)), (q3, .inl (cI, 240, .inl z_)), (q4, .inl (cI, 40, .inl z_)), (q5, .inl (cI, 4, .inl z_)), (q6, .inl (cB, 480, .inl z_)), (q7, .inl (cI, 6, .inl z_)), (q8, .inl (cI, 12, .inl z_)), (q9, .inl (cI, 12, .inl z_)), (q10, .inl (cI, 6, .inl z_)), (q11, .inl (cI, 12, .inl z_)), (q12, .inl (cI, 12, .inl z_)), (q13, .inl (cI, 160, .inl z_)), (q14, .inl (cI, 160, .inl z_)), (q15, .inl (cI, 24, .inl z_)), (q16, .inl (cI, 24, .inl z_)), (q17, .inl (cI, 24, .inl z_)), (q18, .inl (cI, 24, .inl z_)), (q19, .inl (cI, 24, .inl z_)), (q20, .inl (cI, 40, .inl z_)), (q21, .inl (cI, 6, .inl z_)), (q22, .inl (cI, 144, .inl z_)), (q23, .inl (cI, 6, .inl z_)), (q24, .inl (cI, 6, .inl z_)), (q25, .inl (cI, 6, .inl z_))]) (fun _ => rfl) (fun _ => rfl) (fun q25 H locs hP hD hS hfl => ?_)
  refine lv_aload_n hx hb dX8_init_208 rfl (lv_at hl 0 rfl) ?_
  refine lv_sipush (v := 24576) hx hb dX8_init_209 (by decide) ?_
  refine i_naI2 C0 hmn hA hP hD hS 24576 (by decide) (by decide +kernel) (by decide) (Nat.le_of_ble_eq_true rfl) (Nat.le_of_ble_eq_true rfl) dX8_init_212 dX8_init_214 jFX8_86 hfl rfl (fun q26 => [.int 0, .ref (q1), .int 0, .long 0, .long 0, .ref (q2), .ref (q3), .ref (q4), .ref (q5), .ref (q6), .int 0, .int 0, .ref (q7), .ref (q8), .ref (q9), .int 0, .int 0, .int 0, .int 0, .ref (q10), .ref (q11), .ref (q12), .int 0, .ref (q13), .int 0, .int 0, .ref (q14), .int 0, .ref (q15), .ref (q16), .ref (q17), .ref (q18), .ref (q19), .ref (q20), .ref (q21), .ref (q22), .ref (q23), .ref (q24), .ref (q25), .int 0, .ref (q26), .null, .int 0, .null, .int 0, .int 0, .null, .null, .null, .long 0]) (fun q26 => [(q1, .inl (cI, 6, .inl z_)), (q2, .inl (cI, 6, .inl z_)), (q3, .inl (cI, 240, .inl z_)), (q4, .inl (cI, 40, .inl z_)), (q5, .inl (cI, 4, .inl z_)), (q6, .inl (cB, 480, .inl z_)), (q7, .inl (cI, 6, .inl z_)), (q8, .inl (cI, 12, .inl z_)), (q9, .inl (cI, 12, .inl z_)), (q10, .inl (cI, 6, .inl z_)), (q11, .inl (cI, 12, .inl z_)), (q12, .inl (cI, 12, .inl z_)), (q13, .inl (cI, 160, .inl z_)), (q14, .inl (cI, 160, .inl z_)), (q15, .inl (cI, 24, .inl z_)), (q16, .inl (cI, 24, .inl z_)), (q17, .inl (cI, 24, .inl z_)), (q18, .inl (cI, 24, .inl z_)), (q19, .inl (cI, 24, .inl z_)), (q20, .inl (cI, 40, .inl z_)), (q21, .inl (cI, 6, .inl z_)), (q22, .inl (cI, 144, .inl z_)), (q23, .inl (cI, 6, .inl z_)), (q24, .inl (cI, 6, .inl z_)), (q25, .inl (cI, 6, .inl z_)), (q26, .inl (cI, 24576, .inl z_))]) (fun _ => rfl) (fun _ => rfl) (fun q26 H locs hP hD hS hfl => ?_)
  refine lv_aload_n hx hb dX8_init_217 rfl (lv_at hl 0 rfl) ?_
  refine lv_sipush (v := 24576) hx hb dX8_init_218 (by decide) ?_
  refine i_naI2 C0 hmn hA hP hD hS 24576 (by decide) (by decide +kernel) (by decide) (Nat.le_of_ble_eq_true rfl) (Nat.le_of_ble_eq_true rfl) dX8_init_221 dX8_init_223 jFX8_89 hfl rfl (fun q27 => [.int 0, .ref (q1), .int 0, .long 0, .long 0, .ref (q2), .ref (q3), .ref (q4), .ref (q5), .ref (q6), .int 0, .int 0, .ref (q7), .ref (q8), .ref (q9), .int 0, .int 0, .int 0, .int 0, .ref (q10), .ref (q11), .ref (q12), .int 0, .ref (q13), .int 0, .int 0, .ref (q14), .int 0, .ref (q15), .ref (q16), .ref (q17), .ref (q18), .ref (q19), .ref (q20), .ref (q21), .ref (q22), .ref (q23), .ref (q24), .ref (q25), .int 0, .ref (q26), .ref (q27), .int 0, .null, .int 0, .int 0, .null, .null, .null, .long 0]) (fun q27 => [(q1, .inl (cI, 6, .inl z_)), (q2, .inl (cI, 6, .inl z_)), (q3, .inl (cI, 240, .inl z_)), (q4, .inl (cI, 40, .inl z_)), (q5, .inl (cI, 4, .inl z_)), (q6, .inl (cB, 480, .inl z_)), (q7, .inl (cI, 6, .inl z_)), (q8, .inl (cI, 12, .inl z_)), (q9, .inl (cI, 12, .inl z_)), (q10, .inl (cI, 6, .inl z_)), (q11, .inl (cI, 12, .inl z_)), (q12, .inl (cI, 12, .inl z_)), (q13, .inl (cI, 160, .inl z_)), (q14, .inl (cI, 160, .inl z_)), (q15, .inl (cI, 24, .inl z_)), (q16, .inl (cI, 24, .inl z_)), (q17, .inl (cI, 24, .inl z_)), (q18, .inl (cI, 24, .inl z_)), (q19, .inl (cI, 24, .inl z_)), (q20, .inl (cI, 40, .inl z_)), (q21, .inl (cI, 6, .inl z_)), (q22, .inl (cI, 144, .inl z_)), (q23, .inl (cI, 6, .inl z_)), (q24, .inl (cI, 6, .inl z_)), (q25, .inl (cI, 6, .inl z_)), (q26, .inl (cI, 24576, .inl z_)), (q27, .inl (cI, 24576, .inl z_))]) (fun _ => rfl) (fun _ => rfl) (fun q27 H locs hP hD hS hfl => ?_)
  refine lv_aload_n hx hb dX8_init_226 rfl (lv_at hl 0 rfl) ?_
  refine lv_bipush (v := 6) hx hb dX8_init_227 (by decide) ?_
  refine i_naI2 C0 hmn hA hP hD hS 6 (by decide) (by decide +kernel) (by decide) (Nat.le_of_ble_eq_true rfl) (Nat.le_of_ble_eq_true rfl) dX8_init_229 dX8_init_231 jFX8_92 hfl rfl (fun q28 => [.int 0, .ref (q1), .int 0, .long 0, .long 0, .ref (q2), .ref (q3), .ref (q4), .ref (q5), .ref (q6), .int 0, .int 0, .ref (q7), .ref (q8), .ref (q9), .int 0, .int 0, .int 0, .int 0, .ref (q10), .ref (q11), .ref (q12), .int 0, .ref (q13), .int 0, .int 0, .ref (q14), .int 0, .ref (q15), .ref (q16), .ref (q17), .ref (q18), .ref (q19), .ref (q20), .ref (q21), .ref (q22), .ref (q23), .ref (q24), .ref (q25), .int 0, .ref (q26), .ref (q27), .int 0, .ref (q28), .int 0, .int 0, .null, .null, .null, .long 0]) (fun q28 => [(q1, .inl (cI, 6, .inl z_)), (q2, .inl (cI, 6, .inl z_)), (q3, .inl (cI, 240, .inl z_)), (q4, .inl (cI, 40, .inl z_)), (q5, .inl (cI, 4, .inl z_)), (q6, .inl (cB, 480, .inl z_)), (q7, .inl (cI, 6, .inl z_)), (q8, .inl (cI, 12, .inl z_)), (q9, .inl (cI, 12, .inl z_)), (q10, .inl (cI, 6, .inl z_)), (q11, .inl (cI, 12, .inl z_)), (q12, .inl (cI, 12, .inl z_)), (q13, .inl (cI, 160, .inl z_)), (q14, .inl (cI, 160, .inl z_)), (q15, .inl (cI, 24, .inl z_)), (q16, .inl (cI, 24, .inl z_)), (q17, .inl (cI, 24, .inl z_)), (q18, .inl (cI, 24, .inl z_)), (q19, .inl (cI, 24, .inl z_)), (q20, .inl (cI, 40, .inl z_)), (q21, .inl (cI, 6, .inl z_)), (q22, .inl (cI, 144, .inl z_)), (q23, .inl (cI, 6, .inl z_)), (q24, .inl (cI, 6, .inl z_)), (q25, .inl (cI, 6, .inl z_)), (q26, .inl (cI, 24576, .inl z_)), (q27, .inl (cI, 24576, .inl z_)), (q28, .inl (cI, 6, .inl z_))]) (fun _ => rfl) (fun _ => rfl) (fun q28 H locs hP hD hS hfl => ?_)
  refine lv_aload_n hx hb dX8_init_234 rfl (lv_at hl 0 rfl) ?_
  refine lv_bipush (v := 6) hx hb dX8_init_235 (by decide) ?_
  refine i_naI2 C0 hmn hA hP hD hS 6 (by decide) (by decide +kernel) (by decide) (Nat.le_of_ble_eq_true rfl) (Nat.le_of_ble_eq_true rfl) dX8_init_237 dX8_init_239 jFX8_95 hfl rfl (fun q29 => [.int 0, .ref (q1), .int 0, .long 0, .long 0, .ref (q2), .ref (q3), .ref (q4), .ref (q5), .ref (q6), .int 0, .int 0, .ref (q7), .ref (q8), .ref (q9), .int 0, .int 0, .int 0, .int 0, .ref (q10), .ref (q11), .ref (q12), .int 0, .ref (q13), .int 0, .int 0, .ref (q14), .int 0, .ref (q15), .ref (q16), .ref (q17), .ref (q18), .ref (q19), .ref (q20), .ref (q21), .ref (q22), .ref (q23), .ref (q24), .ref (q25), .int 0, .ref (q26), .ref (q27), .int 0, .ref (q28), .int 0, .int 0, .ref (q29), .null, .null, .long 0]) (fun q29 => [(q1, .inl (cI, 6, .inl z_)), (q2, .inl (cI, 6, .inl z_)), (q3, .inl (cI, 240, .inl z_)), (q4, .inl (cI, 40, .inl z_)), (q5, .inl (cI, 4, .inl z_)), (q6, .inl (cB, 480, .inl z_)), (q7, .inl (cI, 6, .inl z_)), (q8, .inl (cI, 12, .inl z_)), (q9, .inl (cI, 12, .inl z_)), (q10, .inl (cI, 6, .inl z_)), (q11, .inl (cI, 12, .inl z_)), (q12, .inl (cI, 12, .inl z_)), (q13, .inl (cI, 160, .inl z_)), (q14, .inl (cI, 160, .inl z_)), (q15, .inl (cI, 24, .inl z_)), (q16, .inl (cI, 24, .inl z_)), (q17, .inl (cI, 24, .inl z_)), (q18, .inl (cI, 24, .inl z_)), (q19, .inl (cI, 24, .inl z_)), (q20, .inl (cI, 40, .inl z_)), (q21, .inl (cI, 6, .inl z_)), (q22, .inl (cI, 144, .inl z_)), (q23, .inl (cI, 6, .inl z_)), (q24, .inl (cI, 6, .inl z_)), (q25, .inl (cI, 6, .inl z_)), (q26, .inl (cI, 24576, .inl z_)), (q27, .inl (cI, 24576, .inl z_)), (q28, .inl (cI, 6, .inl z_)), (q29, .inl (cI, 6, .inl z_))]) (fun _ => rfl) (fun _ => rfl) (fun q29 H locs hP hD hS hfl => ?_)
  refine lv_aload_n hx hb dX8_init_242 rfl (lv_at hl 0 rfl) ?_
  refine lv_bipush (v := 6) hx hb dX8_init_243 (by decide) ?_
  refine i_naI2 C0 hmn hA hP hD hS 6 (by decide) (by decide +kernel) (by decide) (Nat.le_of_ble_eq_true rfl) (Nat.le_of_ble_eq_true rfl) dX8_init_245 dX8_init_247 jFX8_98 hfl rfl (fun q30 => [.int 0, .ref (q1), .int 0, .long 0, .long 0, .ref (q2), .ref (q3), .ref (q4), .ref (q5), .ref (q6), .int 0, .int 0, .ref (q7), .ref (q8), .ref (q9), .int 0, .int 0, .int 0, .int 0, .ref (q10), .ref (q11), .ref (q12), .int 0, .ref (q13), .int 0, .int 0, .ref (q14), .int 0, .ref (q15), .ref (q16), .ref (q17), .ref (q18), .ref (q19), .ref (q20), .ref (q21), .ref (q22), .ref (q23), .ref (q24), .ref (q25), .int 0, .ref (q26), .ref (q27), .int 0, .ref (q28), .int 0, .int 0, .ref (q29), .ref (q30), .null, .long 0]) (fun q30 => [(q1, .inl (cI, 6, .inl z_)), (q2, .inl (cI, 6, .inl z_)), (q3, .inl (cI, 240, .inl z_)), (q4, .inl (cI, 40, .inl z_)), (q5, .inl (cI, 4, .inl z_)), (q6, .inl (cB, 480, .inl z_)), (q7, .inl (cI, 6, .inl z_)), (q8, .inl (cI, 12, .inl z_)), (q9, .inl (cI, 12, .inl z_)), (q10, .inl (cI, 6, .inl z_)), (q11, .inl (cI, 12, .inl z_)), (q12, .inl (cI, 12, .inl z_)), (q13, .inl (cI, 160, .inl z_)), (q14, .inl (cI, 160, .inl z_)), (q15, .inl (cI, 24, .inl z_)), (q16, .inl (cI, 24, .inl z_)), (q17, .inl (cI, 24, .inl z_)), (q18, .inl (cI, 24, .inl z_)), (q19, .inl (cI, 24, .inl z_)), (q20, .inl (cI, 40, .inl z_)), (q21, .inl (cI, 6, .inl z_)), (q22, .inl (cI, 144, .inl z_)), (q23, .inl (cI, 6, .inl z_)), (q24, .inl (cI, 6, .inl z_)), (q25, .inl (cI, 6, .inl z_)), (q26, .inl (cI, 24576, .inl z_)), (q27, .inl (cI, 24576, .inl z_)), (q28, .inl (cI, 6, .inl z_)), (q29, .inl (cI, 6, .inl z_)), (q30, .inl (cI, 6, .inl z_))]) (fun _ => rfl) (fun _ => rfl) (fun q30 H locs hP hD hS hfl => ?_)
  refine lv_aload_n hx hb dX8_init_250 rfl (lv_at hl 0 rfl) ?_
  refine lv_bipush (v := 6) hx hb dX8_init_251 (by decide) ?_
  refine i_naI2 C0 hmn hA hP hD hS 6 (by decide) (by decide +kernel) (by decide) (Nat.le_of_ble_eq_true rfl) (Nat.le_of_ble_eq_true rfl) dX8_init_253 dX8_init_255 jFX8_101 hfl rfl (fun q31 => [.int 0, .ref (q1), .int 0, .long 0, .long 0, .ref (q2), .ref (q3), .ref (q4), .ref (q5), .ref (q6), .int 0, .int 0, .ref (q7), .ref (q8), .ref (q9), .int 0, .int 0, .int 0, .int 0, .ref (q10), .ref (q11), .ref (q12), .int 0, .ref (q13), .int 0, .int 0, .ref (q14), .int 0, .ref (q15), .ref (q16), .ref (q17), .ref (q18), .ref (q19), .ref (q20), .ref (q21), .ref (q22), .ref (q23), .ref (q24), .ref (q25), .int 0, .ref (q26), .ref (q27), .int 0, .ref (q28), .int 0, .int 0, .ref (q29), .ref (q30), .ref (q31), .long 0]) (fun q31 => [(q1, .inl (cI, 6, .inl z_)), (q2, .inl (cI, 6, .inl z_)), (q3, .inl (cI, 240, .inl z_)), (q4, .inl (cI, 40, .inl z_)), (q5, .inl (cI, 4, .inl z_)), (q6, .inl (cB, 480, .inl z_)), (q7, .inl (cI, 6, .inl z_)), (q8, .inl (cI, 12, .inl z_)), (q9, .inl (cI, 12, .inl z_)), (q10, .inl (cI, 6, .inl z_)), (q11, .inl (cI, 12, .inl z_)), (q12, .inl (cI, 12, .inl z_)), (q13, .inl (cI, 160, .inl z_)), (q14, .inl (cI, 160, .inl z_)), (q15, .inl (cI, 24, .inl z_)), (q16, .inl (cI, 24, .inl z_)), (q17, .inl (cI, 24, .inl z_)), (q18, .inl (cI, 24, .inl z_)), (q19, .inl (cI, 24, .inl z_)), (q20, .inl (cI, 40, .inl z_)), (q21, .inl (cI, 6, .inl z_)), (q22, .inl (cI, 144, .inl z_)), (q23, .inl (cI, 6, .inl z_)), (q24, .inl (cI, 6, .inl z_)), (q25, .inl (cI, 6, .inl z_)), (q26, .inl (cI, 24576, .inl z_)), (q27, .inl (cI, 24576, .inl z_)), (q28, .inl (cI, 6, .inl z_)), (q29, .inl (cI, 6, .inl z_)), (q30, .inl (cI, 6, .inl z_)), (q31, .inl (cI, 6, .inl z_))]) (fun _ => rfl) (fun _ => rfl) (fun q31 H locs hP hD hS hfl => ?_)
  refine lv_aload_n hx hb dX8_init_258 rfl (lv_at hl 0 rfl) ?_
  refine lv_lconst (v := 1) hx hb dX8_init_259 (by decide) ?_
  refine i_put C0 hP hD hS jPX8_104 rfl rfl hfl rfl dX8_init_260 (fun H locs hP hD hS hfl => ?_)
  refine lv_iconst (v := 0) hx hb dX8_init_263 (by decide) ?_
  refine lv_istore_n (lv' := [(1, .int 0), (0, .ref h0)]) hx hb dX8_init_264 rfl hl (by decide) rfl (fun ls hl => ?_)
  have hP : va_P D vwCl (WX8 cI cB h0 (fun k => ([h0, q1, q2, q3, q4, q5, q6, q7, q8, q9, q10, q11, q12, q13, q14, q15, q16, q17, q18, q19, q20, q21, q22, q23, q24, q25, q26, q27, q28, q29, q30, q31] : List Nat).getD k 0) z_ z_) H := hP
  have hD : va_D A (WX8 cI cB h0 (fun k => ([h0, q1, q2, q3, q4, q5, q6, q7, q8, q9, q10, q11, q12, q13, q14, q15, q16, q17, q18, q19, q20, q21, q22, q23, q24, q25, q26, q27, q28, q29, q30, q31] : List Nat).getD k 0) z_ z_) := hD
  generalize (fun k => ([h0, q1, q2, q3, q4, q5, q6, q7, q8, q9, q10, q11, q12, q13, q14, q15, q16, q17, q18, q19, q20, q21, q22, q23, q24, q25, q26, q27, q28, q29, q30, q31] : List Nat).getD k 0) = u at hP hD
  have hP : va_P D vwCl (WX8 cI cB h0 u z_ z_) H := hP
  have hD : va_D A (WX8 cI cB h0 u z_ z_) := hD
  refine lv_iload_n hx hb dX8_init_265 rfl (lv_at hl 0 rfl) ?_
  refine lv_bipush (v := 6) hx hb dX8_init_266 (by decide) ?_
  refine lv_icmp_ge (tgt := 284) hx hb dX8_init_268 (by decide) (fun h => absurd h (by decide)) (fun _ => ?_)
  refine lv_aload_n hx hb dX8_init_271 rfl (lv_at hl 1 rfl) ?_
  refine i_get (v := .ref (u 2)) C0 hP jLX8_13 rfl dX8_init_272 ?_
  refine lv_iload_n hx hb dX8_init_275 rfl (lv_at hl 0 rfl) ?_
  refine lv_iconst (v := (-1)) hx hb dX8_init_276 (by decide) ?_
  refine i_ast C0 hP hD hS 2 rfl 0 (by decide) (by unfold vp_in; decide) dX8_init_277 (fun H locs hP hD hS => ?_)
  have hP : va_P D vwCl (WX8 cI cB h0 u (upd z_ 0 (-1)) z_) H := hP
  have hD : va_D A (WX8 cI cB h0 u (upd z_ 0 (-1)) z_) := hD
  refine lv_iinc (v := 1) (lv' := [(1, .int 1), (0, .ref h0)]) hx hb dX8_init_278 hl (k := 0) rfl (by decide) (by decide) rfl (fun ls hl => ?_)
  refine lv_goto (tgt := 265) hx hb dX8_init_281 (by decide) ?_
  refine lv_iload_n hx hb dX8_init_265 rfl (lv_at hl 0 rfl) ?_
  refine lv_bipush (v := 6) hx hb dX8_init_266 (by decide) ?_
  refine lv_icmp_ge (tgt := 284) hx hb dX8_init_268 (by decide) (fun h => absurd h (by decide)) (fun _ => ?_)
  refine lv_aload_n hx hb dX8_init_271 rfl (lv_at hl 1 rfl) ?_
  refine i_get (v := .ref (u 2)) C0 hP jLX8_13 rfl dX8_init_272 ?_
  refine lv_iload_n hx hb dX8_init_275 rfl (lv_at hl 0 rfl) ?_
  refine lv_iconst (v := (-1)) hx hb dX8_init_276 (by decide) ?_
  refine i_ast C0 hP hD hS 2 rfl 1 (by decide) (by unfold vp_in; decide) dX8_init_277 (fun H locs hP hD hS => ?_)
  have hP : va_P D vwCl (WX8 cI cB h0 u (upd (upd z_ 0 (-1)) 1 (-1)) z_) H := hP
  have hD : va_D A (WX8 cI cB h0 u (upd (upd z_ 0 (-1)) 1 (-1)) z_) := hD
  refine lv_iinc (v := 2) (lv' := [(1, .int 2), (0, .ref h0)]) hx hb dX8_init_278 hl (k := 0) rfl (by decide) (by decide) rfl (fun ls hl => ?_)
  refine lv_goto (tgt := 265) hx hb dX8_init_281 (by decide) ?_
  refine lv_iload_n hx hb dX8_init_265 rfl (lv_at hl 0 rfl) ?_
  refine lv_bipush (v := 6) hx hb dX8_init_266 (by decide) ?_
  refine lv_icmp_ge (tgt := 284) hx hb dX8_init_268 (by decide) (fun h => absurd h (by decide)) (fun _ => ?_)
  refine lv_aload_n hx hb dX8_init_271 rfl (lv_at hl 1 rfl) ?_
  refine i_get (v := .ref (u 2)) C0 hP jLX8_13 rfl dX8_init_272 ?_
  refine lv_iload_n hx hb dX8_init_275 rfl (lv_at hl 0 rfl) ?_
  refine lv_iconst (v := (-1)) hx hb dX8_init_276 (by decide) ?_
  refine i_ast C0 hP hD hS 2 rfl 2 (by decide) (by unfold vp_in; decide) dX8_init_277 (fun H locs hP hD hS => ?_)
  have hP : va_P D vwCl (WX8 cI cB h0 u (upd (upd (upd z_ 0 (-1)) 1 (-1)) 2 (-1)) z_) H := hP
  have hD : va_D A (WX8 cI cB h0 u (upd (upd (upd z_ 0 (-1)) 1 (-1)) 2 (-1)) z_) := hD
  refine lv_iinc (v := 3) (lv' := [(1, .int 3), (0, .ref h0)]) hx hb dX8_init_278 hl (k := 0) rfl (by decide) (by decide) rfl (fun ls hl => ?_)
  refine lv_goto (tgt := 265) hx hb dX8_init_281 (by decide) ?_
  refine lv_iload_n hx hb dX8_init_265 rfl (lv_at hl 0 rfl) ?_
  refine lv_bipush (v := 6) hx hb dX8_init_266 (by decide) ?_
  refine lv_icmp_ge (tgt := 284) hx hb dX8_init_268 (by decide) (fun h => absurd h (by decide)) (fun _ => ?_)
  refine lv_aload_n hx hb dX8_init_271 rfl (lv_at hl 1 rfl) ?_
  refine i_get (v := .ref (u 2)) C0 hP jLX8_13 rfl dX8_init_272 ?_
  refine lv_iload_n hx hb dX8_init_275 rfl (lv_at hl 0 rfl) ?_
  refine lv_iconst (v := (-1)) hx hb dX8_init_276 (by decide) ?_
  refine i_ast C0 hP hD hS 2 rfl 3 (by decide) (by unfold vp_in; decide) dX8_init_277 (fun H locs hP hD hS => ?_)
  have hP : va_P D vwCl (WX8 cI cB h0 u (upd (upd (upd (upd z_ 0 (-1)) 1 (-1)) 2 (-1)) 3 (-1)) z_) H := hP
  have hD : va_D A (WX8 cI cB h0 u (upd (upd (upd (upd z_ 0 (-1)) 1 (-1)) 2 (-1)) 3 (-1)) z_) := hD
  refine lv_iinc (v := 4) (lv' := [(1, .int 4), (0, .ref h0)]) hx hb dX8_init_278 hl (k := 0) rfl (by decide) (by decide) rfl (fun ls hl => ?_)
  refine lv_goto (tgt := 265) hx hb dX8_init_281 (by decide) ?_
  refine lv_iload_n hx hb dX8_init_265 rfl (lv_at hl 0 rfl) ?_
  refine lv_bipush (v := 6) hx hb dX8_init_266 (by decide) ?_
  refine lv_icmp_ge (tgt := 284) hx hb dX8_init_268 (by decide) (fun h => absurd h (by decide)) (fun _ => ?_)
  refine lv_aload_n hx hb dX8_init_271 rfl (lv_at hl 1 rfl) ?_
  refine i_get (v := .ref (u 2)) C0 hP jLX8_13 rfl dX8_init_272 ?_
  refine lv_iload_n hx hb dX8_init_275 rfl (lv_at hl 0 rfl) ?_
  refine lv_iconst (v := (-1)) hx hb dX8_init_276 (by decide) ?_
  refine i_ast C0 hP hD hS 2 rfl 4 (by decide) (by unfold vp_in; decide) dX8_init_277 (fun H locs hP hD hS => ?_)
  have hP : va_P D vwCl (WX8 cI cB h0 u (upd (upd (upd (upd (upd z_ 0 (-1)) 1 (-1)) 2 (-1)) 3 (-1)) 4 (-1)) z_) H := hP
  have hD : va_D A (WX8 cI cB h0 u (upd (upd (upd (upd (upd z_ 0 (-1)) 1 (-1)) 2 (-1)) 3 (-1)) 4 (-1)) z_) := hD
  refine lv_iinc (v := 5) (lv' := [(1, .int 5), (0, .ref h0)]) hx hb dX8_init_278 hl (k := 0) rfl (by decide) (by decide) rfl (fun ls hl => ?_)
  refine lv_goto (tgt := 265) hx hb dX8_init_281 (by decide) ?_
  refine lv_iload_n hx hb dX8_init_265 rfl (lv_at hl 0 rfl) ?_
  refine lv_bipush (v := 6) hx hb dX8_init_266 (by decide) ?_
  refine lv_icmp_ge (tgt := 284) hx hb dX8_init_268 (by decide) (fun h => absurd h (by decide)) (fun _ => ?_)
  refine lv_aload_n hx hb dX8_init_271 rfl (lv_at hl 1 rfl) ?_
  refine i_get (v := .ref (u 2)) C0 hP jLX8_13 rfl dX8_init_272 ?_
  refine lv_iload_n hx hb dX8_init_275 rfl (lv_at hl 0 rfl) ?_
  refine lv_iconst (v := (-1)) hx hb dX8_init_276 (by decide) ?_
  refine i_ast C0 hP hD hS 2 rfl 5 (by decide) (by unfold vp_in; decide) dX8_init_277 (fun H locs hP hD hS => ?_)
  have hP : va_P D vwCl (WX8 cI cB h0 u (upd (upd (upd (upd (upd (upd z_ 0 (-1)) 1 (-1)) 2 (-1)) 3 (-1)) 4 (-1)) 5 (-1)) z_) H := hP
  have hD : va_D A (WX8 cI cB h0 u (upd (upd (upd (upd (upd (upd z_ 0 (-1)) 1 (-1)) 2 (-1)) 3 (-1)) 4 (-1)) 5 (-1)) z_) := hD
  refine lv_iinc (v := 6) (lv' := [(1, .int 6), (0, .ref h0)]) hx hb dX8_init_278 hl (k := 0) rfl (by decide) (by decide) rfl (fun ls hl => ?_)
  refine lv_goto (tgt := 265) hx hb dX8_init_281 (by decide) ?_
  refine lv_iload_n hx hb dX8_init_265 rfl (lv_at hl 0 rfl) ?_
  refine lv_bipush (v := 6) hx hb dX8_init_266 (by decide) ?_
  refine lv_icmp_ge (tgt := 284) hx hb dX8_init_268 (by decide) (fun _ => ?_) (fun h => absurd (by decide) h)
  refine lv_iconst (v := 0) hx hb dX8_init_284 (by decide) ?_
  refine lv_istore_n (lv' := [(1, .int 0), (0, .ref h0)]) hx hb dX8_init_285 rfl hl (by decide) rfl (fun ls hl => ?_)
  refine lv_iload_n hx hb dX8_init_286 rfl (lv_at hl 0 rfl) ?_
  refine lv_iconst (v := 4) hx hb dX8_init_287 (by decide) ?_
  refine lv_icmp_ge (tgt := 304) hx hb dX8_init_288 (by decide) (fun h => absurd h (by decide)) (fun _ => ?_)
  refine lv_aload_n hx hb dX8_init_291 rfl (lv_at hl 1 rfl) ?_
  refine i_get (v := .ref (u 5)) C0 hP jLX8_22 rfl dX8_init_292 ?_
  refine lv_iload_n hx hb dX8_init_295 rfl (lv_at hl 0 rfl) ?_
  refine lv_iconst (v := (-1)) hx hb dX8_init_296 (by decide) ?_
  refine i_ast C0 hP hD hS 5 rfl 0 (by decide) (by unfold vp_in; decide) dX8_init_297 (fun H locs hP hD hS => ?_)
  have hP : va_P D vwCl (WX8 cI cB h0 u (upd (upd (upd (upd (upd (upd z_ 0 (-1)) 1 (-1)) 2 (-1)) 3 (-1)) 4 (-1)) 5 (-1)) (upd z_ 0 (-1))) H := hP
  have hD : va_D A (WX8 cI cB h0 u (upd (upd (upd (upd (upd (upd z_ 0 (-1)) 1 (-1)) 2 (-1)) 3 (-1)) 4 (-1)) 5 (-1)) (upd z_ 0 (-1))) := hD
  refine lv_iinc (v := 1) (lv' := [(1, .int 1), (0, .ref h0)]) hx hb dX8_init_298 hl (k := 0) rfl (by decide) (by decide) rfl (fun ls hl => ?_)
  refine lv_goto (tgt := 286) hx hb dX8_init_301 (by decide) ?_
  refine lv_iload_n hx hb dX8_init_286 rfl (lv_at hl 0 rfl) ?_
  refine lv_iconst (v := 4) hx hb dX8_init_287 (by decide) ?_
  refine lv_icmp_ge (tgt := 304) hx hb dX8_init_288 (by decide) (fun h => absurd h (by decide)) (fun _ => ?_)
  refine lv_aload_n hx hb dX8_init_291 rfl (lv_at hl 1 rfl) ?_
  refine i_get (v := .ref (u 5)) C0 hP jLX8_22 rfl dX8_init_292 ?_
  refine lv_iload_n hx hb dX8_init_295 rfl (lv_at hl 0 rfl) ?_
  refine lv_iconst (v := (-1)) hx hb dX8_init_296 (by decide) ?_
  refine i_ast C0 hP hD hS 5 rfl 1 (by decide) (by unfold vp_in; decide) dX8_init_297 (fun H locs hP hD hS => ?_)
  have hP : va_P D vwCl (WX8 cI cB h0 u (upd (upd (upd (upd (upd (upd z_ 0 (-1)) 1 (-1)) 2 (-1)) 3 (-1)) 4 (-1)) 5 (-1)) (upd (upd z_ 0 (-1)) 1 (-1))) H := hP
  have hD : va_D A (WX8 cI cB h0 u (upd (upd (upd (upd (upd (upd z_ 0 (-1)) 1 (-1)) 2 (-1)) 3 (-1)) 4 (-1)) 5 (-1)) (upd (upd z_ 0 (-1)) 1 (-1))) := hD
  refine lv_iinc (v := 2) (lv' := [(1, .int 2), (0, .ref h0)]) hx hb dX8_init_298 hl (k := 0) rfl (by decide) (by decide) rfl (fun ls hl => ?_)
  refine lv_goto (tgt := 286) hx hb dX8_init_301 (by decide) ?_
  refine lv_iload_n hx hb dX8_init_286 rfl (lv_at hl 0 rfl) ?_
  refine lv_iconst (v := 4) hx hb dX8_init_287 (by decide) ?_
  refine lv_icmp_ge (tgt := 304) hx hb dX8_init_288 (by decide) (fun h => absurd h (by decide)) (fun _ => ?_)
  refine lv_aload_n hx hb dX8_init_291 rfl (lv_at hl 1 rfl) ?_
  refine i_get (v := .ref (u 5)) C0 hP jLX8_22 rfl dX8_init_292 ?_
  refine lv_iload_n hx hb dX8_init_295 rfl (lv_at hl 0 rfl) ?_
  refine lv_iconst (v := (-1)) hx hb dX8_init_296 (by decide) ?_
  refine i_ast C0 hP hD hS 5 rfl 2 (by decide) (by unfold vp_in; decide) dX8_init_297 (fun H locs hP hD hS => ?_)
  have hP : va_P D vwCl (WX8 cI cB h0 u (upd (upd (upd (upd (upd (upd z_ 0 (-1)) 1 (-1)) 2 (-1)) 3 (-1)) 4 (-1)) 5 (-1)) (upd (upd (upd z_ 0 (-1)) 1 (-1)) 2 (-1))) H := hP
  have hD : va_D A (WX8 cI cB h0 u (upd (upd (upd (upd (upd (upd z_ 0 (-1)) 1 (-1)) 2 (-1)) 3 (-1)) 4 (-1)) 5 (-1)) (upd (upd (upd z_ 0 (-1)) 1 (-1)) 2 (-1))) := hD
  refine lv_iinc (v := 3) (lv' := [(1, .int 3), (0, .ref h0)]) hx hb dX8_init_298 hl (k := 0) rfl (by decide) (by decide) rfl (fun ls hl => ?_)
  refine lv_goto (tgt := 286) hx hb dX8_init_301 (by decide) ?_
  refine lv_iload_n hx hb dX8_init_286 rfl (lv_at hl 0 rfl) ?_
  refine lv_iconst (v := 4) hx hb dX8_init_287 (by decide) ?_
  refine lv_icmp_ge (tgt := 304) hx hb dX8_init_288 (by decide) (fun h => absurd h (by decide)) (fun _ => ?_)
  refine lv_aload_n hx hb dX8_init_291 rfl (lv_at hl 1 rfl) ?_
  refine i_get (v := .ref (u 5)) C0 hP jLX8_22 rfl dX8_init_292 ?_
  refine lv_iload_n hx hb dX8_init_295 rfl (lv_at hl 0 rfl) ?_
  refine lv_iconst (v := (-1)) hx hb dX8_init_296 (by decide) ?_
  refine i_ast C0 hP hD hS 5 rfl 3 (by decide) (by unfold vp_in; decide) dX8_init_297 (fun H locs hP hD hS => ?_)
  have hP : va_P D vwCl (WX8 cI cB h0 u (upd (upd (upd (upd (upd (upd z_ 0 (-1)) 1 (-1)) 2 (-1)) 3 (-1)) 4 (-1)) 5 (-1)) (upd (upd (upd (upd z_ 0 (-1)) 1 (-1)) 2 (-1)) 3 (-1))) H := hP
  have hD : va_D A (WX8 cI cB h0 u (upd (upd (upd (upd (upd (upd z_ 0 (-1)) 1 (-1)) 2 (-1)) 3 (-1)) 4 (-1)) 5 (-1)) (upd (upd (upd (upd z_ 0 (-1)) 1 (-1)) 2 (-1)) 3 (-1))) := hD
  refine lv_iinc (v := 4) (lv' := [(1, .int 4), (0, .ref h0)]) hx hb dX8_init_298 hl (k := 0) rfl (by decide) (by decide) rfl (fun ls hl => ?_)
  refine lv_goto (tgt := 286) hx hb dX8_init_301 (by decide) ?_
  refine lv_iload_n hx hb dX8_init_286 rfl (lv_at hl 0 rfl) ?_
  refine lv_iconst (v := 4) hx hb dX8_init_287 (by decide) ?_
  refine lv_icmp_ge (tgt := 304) hx hb dX8_init_288 (by decide) (fun _ => ?_) (fun h => absurd (by decide) h)
  exact i_ret C0 hr hlk u hP hD hS dX8_init_304
