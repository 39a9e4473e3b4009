/-! the law: its loop -/
section
variable {p : Program} {l : Launch} {e : Env} {s : State} {m : MethodId} {below : List Frame} {meth : Method} {c : Code} {b L : Nat} {xs : Nat → Int32} {ad : Nat → Nat} {D : va_G} {cI cB : ClassId} {nc ns : Nat} {Z : State → Prop}
set_option maxHeartbeats 4000000 in
set_option maxRecDepth 100000 in
theorem law_loop (C0 : LC p s m meth c b ad D cI cB) (hX : va_X b L xs s s.heap) (hbl : b < s.heap.size) (hL : L ≤ 384) (hnc : nc + 0 ≤ room_1.cells ∧ ns + 0 ≤ room_1.slots) (fin : ∀ (lsM : Array Slot) (H : Heap) (locs : List Loc), va_S (hiA s) s.heap H locs → W p l e room_1 s m #[Value.ref b] below meth c H locs nc ns Z (F0 m 1422 lsM [])) :
    ∀ (d i n : Nat) (μ : Mem_) (lsM : Array Slot) (H : Heap) (locs : List Loc), L + 1 ≤ i + d → i ≤ L + 6 → n ≤ i → lv_has lsM 4 [(0, .ref b), (1, .ref (ad 0)), (2, .ref (ad 50)), (3, .int (nI i))] → CI n μ → okM μ → va_P D vwCl (wo ad cI cB μ) H → va_S (hiA s) s.heap H locs → W p l e room_1 s m #[Value.ref b] below meth c H locs nc ns Z (F0 m 18 lsM []) := by
  have hx := C0.1.1
  have hb := C0.1.2.1
  have hbA : ¬ hiA s b := Nat.not_le.mpr hbl
  have e6 : (nI L - 6).toInt = (L : Int) - 6 := by
    have h1 : nI L - 6 = Int32.ofInt ((L : Int) - 6) := by
      rw [Int32.ofInt_sub, show (L : Int) = (nI L).toInt from (nI_toInt (by omega)).symm, Int32.ofInt_toInt]
      rfl
    rw [h1, i32_rt (by omega)]
  have e6' : (Int32.ofNat L - 6).toInt = (L : Int) - 6 := e6
  intro d
  induction d with
  | zero =>
    intro i n μ lsM H locs hd hi hn hl h hμ hP hS
    refine lv_iload_n hx hb dL_law_18 rfl (lv_at hl 3 rfl) ?_
    refine lv_aload_n hx hb dL_law_19 rfl (lv_at hl 0 rfl) ?_
    refine va_slen hx hb hX hbl hbA hS dL_law_20 ?_
    refine lv_bipush (v := 6) hx hb dL_law_21 (by decide) ?_
    refine lv_isub hx hb dL_law_23 ?_
    refine lv_icmp_gt (tgt := 1422) hx hb dL_law_24 (by decide) (fun _ => fin lsM H locs hS) (fun c_ => ?_)
    exfalso
    simp only [Int32.lt_iff_toInt_lt, Int32.le_iff_toInt_le, gt_iff_lt] at c_
    rw [e6', nI_toInt (by omega)] at c_
    omega
  | succ d ih =>
    intro i n μ lsM H locs hd hi hn hl h hμ hP hS
    refine lv_iload_n hx hb dL_law_18 rfl (lv_at hl 3 rfl) ?_
    refine lv_aload_n hx hb dL_law_19 rfl (lv_at hl 0 rfl) ?_
    refine va_slen hx hb hX hbl hbA hS dL_law_20 ?_
    refine lv_bipush (v := 6) hx hb dL_law_21 (by decide) ?_
    refine lv_isub hx hb dL_law_23 ?_
    refine lv_icmp_gt (tgt := 1422) hx hb dL_law_24 (by decide) (fun _ => fin lsM H locs hS) (fun c_ => ?_)
    have hiL : i + 6 ≤ L := by
      simp only [Int32.lt_iff_toInt_lt, Int32.le_iff_toInt_le, gt_iff_lt] at c_
      rw [e6', nI_toInt (by omega)] at c_
      omega
    have next : ∀ (u : Mem_) (H1 : Heap) (locs1 : List Loc), CI (n + 1) u → okM u → va_P D vwCl (wo ad cI cB u) H1 → va_S (hiA s) s.heap H1 locs1 → W p l e room_1 s m #[Value.ref b] below meth c H1 locs1 nc ns Z (F0 m 1416 lsM []) := by
      intro u H1 locs1 h1 h2 h3 h4
      refine lv_iinc (v := nI (i + 6)) (lv' := [(3, .int (nI (i + 6))), (0, .ref b), (1, .ref (ad 0)), (2, .ref (ad 50))]) hx hb dL_law_1416 hl (k := 3) rfl (by rw [← nI_add i 6]; rfl) (by decide) rfl (fun ls hl => ?_)
      refine lv_goto (tgt := 18) hx hb dL_law_1419 (by decide) ?_
      exact ih (i + 6) (n + 1) u ls H1 locs1 (by omega) (by omega) (by omega) (lv_sub hl [1, 2, 3, 0] rfl) h1 h2 h3 h4
    refine lv_aload_n hx hb dL_law_27 rfl (lv_at hl 0 rfl) ?_
    refine lv_iload_n hx hb dL_law_28 rfl (lv_at hl 3 rfl) ?_
    refine va_sld hx hb hX hbl hbA hS (nI_in (by omega) (by omega)) dL_law_29 ?_
    refine lv_bipush (v := 63) hx hb dL_law_30 (by decide) ?_
    refine lv_iand hx hb dL_law_32 ?_
    refine lv_topi (fun x ex => ?_)
    by_cases hr : x.toInt < 0 ∨ 36 < x.toInt
    · refine lv_tableOut (tgt := 1416) hx hb dL_law_33 hr (by decide) ?_
      exact next μ H locs (CI_up h (by omega)) hμ hP hS
    · rcases (show x.toInt = 0 ∨ x.toInt = 1 ∨ x.toInt = 2 ∨ x.toInt = 3 ∨ x.toInt = 4 ∨ x.toInt = 5 ∨ x.toInt = 6 ∨ x.toInt = 7 ∨ x.toInt = 8 ∨ x.toInt = 9 ∨ x.toInt = 10 ∨ x.toInt = 11 ∨ x.toInt = 12 ∨ x.toInt = 13 ∨ x.toInt = 14 ∨ x.toInt = 15 ∨ x.toInt = 16 ∨ x.toInt = 17 ∨ x.toInt = 18 ∨ x.toInt = 19 ∨ x.toInt = 20 ∨ x.toInt = 21 ∨ x.toInt = 22 ∨ x.toInt = 23 ∨ x.toInt = 24 ∨ x.toInt = 25 ∨ x.toInt = 26 ∨ x.toInt = 27 ∨ x.toInt = 28 ∨ x.toInt = 29 ∨ x.toInt = 30 ∨ x.toInt = 31 ∨ x.toInt = 32 ∨ x.toInt = 33 ∨ x.toInt = 34 ∨ x.toInt = 35 ∨ x.toInt = 36 by omega) with hv | hv | hv | hv | hv | hv | hv | hv | hv | hv | hv | hv | hv | hv | hv | hv | hv | hv | hv | hv | hv | hv | hv | hv | hv | hv | hv | hv | hv | hv | hv | hv | hv | hv | hv | hv | hv
      · refine lv_tableIn (off := 163) (tgt := 196) hx hb dL_law_33 (by omega) (by omega) (by rw [hv]; rfl) (by decide) ?_
        exact lc_row C0 hX hbl hL hiL hl h (by omega) hμ hP hS hnc next
      · refine lv_tableIn (off := 196) (tgt := 229) hx hb dL_law_33 (by omega) (by omega) (by rw [hv]; rfl) (by decide) ?_
        exact lc_lay C0 hX hbl hL hiL hl h (by omega) hμ hP hS hnc next
      · refine lv_tableIn (off := 239) (tgt := 272) hx hb dL_law_33 (by omega) (by omega) (by rw [hv]; rfl) (by decide) ?_
        exact lc_at C0 hX hbl hL hiL hl h (by omega) hμ hP hS hnc next
      · refine lv_tableIn (off := 272) (tgt := 305) hx hb dL_law_33 (by omega) (by omega) (by rw [hv]; rfl) (by decide) ?_
        exact lc_tear C0 hX hbl hL hiL hl h (by omega) hμ hP hS hnc next
      · refine lv_tableIn (off := 295) (tgt := 328) hx hb dL_law_33 (by omega) (by omega) (by rw [hv]; rfl) (by decide) ?_
        exact lc_copy C0 hX hbl hL hiL hl h (by omega) hμ hP hS hnc next
      · refine lv_tableIn (off := 358) (tgt := 391) hx hb dL_law_33 (by omega) (by omega) (by rw [hv]; rfl) (by decide) ?_
        exact lc_mean C0 hX hbl hL hiL hl h (by omega) hμ hP hS hnc next
      · refine lv_tableIn (off := 381) (tgt := 414) hx hb dL_law_33 (by omega) (by omega) (by rw [hv]; rfl) (by decide) ?_
        exact lc_text C0 hX hbl hL hiL hl h (by omega) hμ hP hS hnc next
      · refine lv_tableIn (off := 414) (tgt := 447) hx hb dL_law_33 (by omega) (by omega) (by rw [hv]; rfl) (by decide) ?_
        exact lc_put C0 hX hbl hL hiL hl h (by omega) hμ hP hS hnc next
      · refine lv_tableIn (off := 457) (tgt := 490) hx hb dL_law_33 (by omega) (by omega) (by rw [hv]; rfl) (by decide) ?_
        exact lc_fault C0 hX hbl hL hiL hl h (by omega) hμ hP hS hnc next
      · refine lv_tableIn (off := 506) (tgt := 539) hx hb dL_law_33 (by omega) (by omega) (by rw [hv]; rfl) (by decide) ?_
        exact lc_street C0 hX hbl hL hiL hl h (by omega) hμ hP hS hnc next
      · refine lv_tableIn (off := 529) (tgt := 562) hx hb dL_law_33 (by omega) (by omega) (by rw [hv]; rfl) (by decide) ?_
        exact lc_year C0 hX hbl hL hiL hl h (by omega) hμ hP hS hnc next
      · refine lv_tableIn (off := 552) (tgt := 585) hx hb dL_law_33 (by omega) (by omega) (by rw [hv]; rfl) (by decide) ?_
        exact lc_event C0 hX hbl hL hiL hl h (by omega) hμ hP hS hnc next
      · refine lv_tableIn (off := 621) (tgt := 654) hx hb dL_law_33 (by omega) (by omega) (by rw [hv]; rfl) (by decide) ?_
        exact lc_back C0 hX hbl hL hiL hl h (by omega) hμ hP hS hnc next
      · refine lv_tableIn (off := 644) (tgt := 677) hx hb dL_law_33 (by omega) (by omega) (by rw [hv]; rfl) (by decide) ?_
        exact lc_told C0 hX hbl hL hiL hl h (by omega) hμ hP hS hnc next
      · refine lv_tableIn (off := 677) (tgt := 710) hx hb dL_law_33 (by omega) (by omega) (by rw [hv]; rfl) (by decide) ?_
        exact lc_mark C0 hX hbl hL hiL hl h (by omega) hμ hP hS hnc next
      · refine lv_tableIn (off := 710) (tgt := 743) hx hb dL_law_33 (by omega) (by omega) (by rw [hv]; rfl) (by decide) ?_
        exact lc_house C0 hX hbl hL hiL hl h (by omega) hμ hP hS hnc next
      · refine lv_tableIn (off := 743) (tgt := 776) hx hb dL_law_33 (by omega) (by omega) (by rw [hv]; rfl) (by decide) ?_
        exact lc_person C0 hX hbl hL hiL hl h (by omega) hμ hP hS hnc next
      · refine lv_tableIn (off := 776) (tgt := 809) hx hb dL_law_33 (by omega) (by omega) (by rw [hv]; rfl) (by decide) ?_
        exact lc_key C0 hX hbl hL hiL hl h (by omega) hμ hP hS hnc next
      · refine lv_tableIn (off := 809) (tgt := 842) hx hb dL_law_33 (by omega) (by omega) (by rw [hv]; rfl) (by decide) ?_
        exact lc_trust C0 hX hbl hL hiL hl h (by omega) hμ hP hS hnc next
      · refine lv_tableIn (off := 842) (tgt := 875) hx hb dL_law_33 (by omega) (by omega) (by rw [hv]; rfl) (by decide) ?_
        exact lc_alone C0 hX hbl hL hiL hl h (by omega) hμ hP hS hnc next
      · refine lv_tableIn (off := 865) (tgt := 898) hx hb dL_law_33 (by omega) (by omega) (by rw [hv]; rfl) (by decide) ?_
        exact lc_wake C0 hX hbl hL hiL hl h (by omega) hμ hP hS hnc next
      · refine lv_tableIn (off := 924) (tgt := 957) hx hb dL_law_33 (by omega) (by omega) (by rw [hv]; rfl) (by decide) ?_
        exact lc_odds C0 hX hbl hL hiL hl h (by omega) hμ hP hS hnc next
      · refine lv_tableIn (off := 983) (tgt := 1016) hx hb dL_law_33 (by omega) (by omega) (by rw [hv]; rfl) (by decide) ?_
        exact lc_soonest C0 hX hbl hL hiL hl h (by omega) hμ hP hS hnc next
      · refine lv_tableIn (off := 1042) (tgt := 1075) hx hb dL_law_33 (by omega) (by omega) (by rw [hv]; rfl) (by decide) ?_
        exact lc_round C0 hX hbl hL hiL hl h (by omega) hμ hP hS hnc next
      · refine lv_tableIn (off := 1101) (tgt := 1134) hx hb dL_law_33 (by omega) (by omega) (by rw [hv]; rfl) (by decide) ?_
        exact lc_stuck C0 hX hbl hL hiL hl h (by omega) hμ hP hS hnc next
      · refine lv_tableIn (off := 1114) (tgt := 1147) hx hb dL_law_33 (by omega) (by omega) (by rw [hv]; rfl) (by decide) ?_
        exact lc_safe C0 hX hbl hL hiL hl h (by omega) hμ hP hS hnc next
      · refine lv_tableIn (off := 1157) (tgt := 1190) hx hb dL_law_33 (by omega) (by omega) (by rw [hv]; rfl) (by decide) ?_
        exact lc_suspects C0 hX hbl hL hiL hl h (by omega) hμ hP hS hnc next
      · refine lv_tableIn (off := 1180) (tgt := 1213) hx hb dL_law_33 (by omega) (by omega) (by rw [hv]; rfl) (by decide) ?_
        exact lc_copies C0 hX hbl hL hiL hl h (by omega) hμ hP hS hnc next
      · refine lv_tableIn (off := 1213) (tgt := 1246) hx hb dL_law_33 (by omega) (by omega) (by rw [hv]; rfl) (by decide) ?_
        exact lc_dead C0 hX hbl hL hiL hl h (by omega) hμ hP hS hnc next
      · refine lv_tableIn (off := 1236) (tgt := 1269) hx hb dL_law_33 (by omega) (by omega) (by rw [hv]; rfl) (by decide) ?_
        exact lc_lost C0 hX hbl hL hiL hl h (by omega) hμ hP hS hnc next
      · refine lv_tableIn (off := 1269) (tgt := 1302) hx hb dL_law_33 (by omega) (by omega) (by rw [hv]; rfl) (by decide) ?_
        exact lc_asked C0 hX hbl hL hiL hl h (by omega) hμ hP hS hnc next
      · refine lv_tableIn (off := 1282) (tgt := 1315) hx hb dL_law_33 (by omega) (by omega) (by rw [hv]; rfl) (by decide) ?_
        exact lc_upper C0 hX hbl hL hiL hl h (by omega) hμ hP hS hnc next
      · refine lv_tableIn (off := 1296) (tgt := 1329) hx hb dL_law_33 (by omega) (by omega) (by rw [hv]; rfl) (by decide) ?_
        exact lc_lower C0 hX hbl hL hiL hl h (by omega) hμ hP hS hnc next
      · refine lv_tableIn (off := 1310) (tgt := 1343) hx hb dL_law_33 (by omega) (by omega) (by rw [hv]; rfl) (by decide) ?_
        exact lc_count C0 hX hbl hL hiL hl h (by omega) hμ hP hS hnc next
      · refine lv_tableIn (off := 1333) (tgt := 1366) hx hb dL_law_33 (by omega) (by omega) (by rw [hv]; rfl) (by decide) ?_
        exact lc_finding C0 hX hbl hL hiL hl h (by omega) hμ hP hS hnc next
      · refine lv_tableIn (off := 1346) (tgt := 1379) hx hb dL_law_33 (by omega) (by omega) (by rw [hv]; rfl) (by decide) ?_
        exact lc_findings C0 hX hbl hL hiL hl h (by omega) hμ hP hS hnc next
      · refine lv_tableIn (off := 1369) (tgt := 1402) hx hb dL_law_33 (by omega) (by omega) (by rw [hv]; rfl) (by decide) ?_
        exact lc_digest C0 hX hbl hL hiL hl h (by omega) hμ hP hS hnc next
end
