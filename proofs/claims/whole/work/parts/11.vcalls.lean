/-! fields, rows, calls, ends -/
theorem clOK : ∀ (ci : Nat) (C : String) (T : u_T) (N : Nat), vwCl[ci]? = some (C, T, N) → (∀ w ∈ u_ws C T N, w ∈ gt_) ∧ (∃ ty : Nat → FieldType, ∀ k, k < N → parseFieldDescriptor (T k).2.2.1 = some (ty k)) ∧ (∀ a, a < N → ∀ b, b < N → a ≠ b → (T a).2.1 ≠ (T b).2.1) := by
  intro ci C T N h
  match ci, h with
  | 0, h => cases h; exact ⟨inX0, ⟨tyX0, tyX0_ok⟩, nmX0⟩
  | 1, h => cases h; exact ⟨inX1, ⟨tyX1, tyX1_ok⟩, nmX1⟩
  | 2, h => cases h; exact ⟨inX2, ⟨tyX2, tyX2_ok⟩, nmX2⟩
  | 3, h => cases h; exact ⟨inX3, ⟨tyX3, tyX3_ok⟩, nmX3⟩
  | 4, h => cases h; exact ⟨inX4, ⟨tyX4, tyX4_ok⟩, nmX4⟩
  | 5, h => cases h; exact ⟨inX5, ⟨tyX5, tyX5_ok⟩, nmX5⟩
  | 6, h => cases h; exact ⟨inX6, ⟨tyX6, tyX6_ok⟩, nmX6⟩
  | 7, h => cases h; exact ⟨inX7, ⟨tyX7, tyX7_ok⟩, nmX7⟩
  | 8, h => cases h; exact ⟨inX8, ⟨tyX8, tyX8_ok⟩, nmX8⟩
  | k + 9, h => simp [vwCl] at h
section
variable {M : MRec} {pc : Nat} {ls st : List PV} {μ : Mem_} {Q : PV → Mem_ → Prop}
theorem v_get {o ci n k idx : Nat} {v : PV} (hd : decode (mC M) pc = .ok (.getfield idx, 3)) (hl : FL (mY M).cls idx ci k) (hs : shp o = (ci, n)) (h9 : ci < 9) (hk : k < n) (hv : pvf o k μ = v) (hok : okM μ → okv v) (kk : V_ M (pc + 3) ls (v :: st) μ Q) : V_ M pc ls (R_ o :: st) μ Q := by
  intro h1 h2 h3 h4 p l e s m args below meth c ad D cI cB H locs lsM K
  obtain ⟨C, T, N, hc, hkN, hlink, hT⟩ := hl
  have ho := shp_lt hs (by omega)
  have he : (wo ad cI cB μ)[o]? = some (ad o, .inr (ci, (List.range n).map (fun k => emb ad (pvf o k μ)))) := by rw [wo_at ho, cellE_obj hs h9]
  refine va_get (v := emb ad v) K.1.1 K.1.2.1 K.1.2.2.2.2.2.1 (clOK ci C T N hc).1 K.1.2.2.2.2.1 K.2.1.2.1 K.2.2.1 o he hc k hkN (K.1.2.2.2.2.2.1 _ hlink) ?_ ?_ hd (kk h1 (okl_cons (hok h3) (okl_tl h2)) h3 h4 p l e s m args below meth c ad D cI cB H locs lsM K)
  · intro x hx
    rw [hT] at hx
    exact hx
  · simp [hk, hv]
theorem pvf_I {o k : Nat} (h : fk o k = 0) : pvf o k μ = I_ (μ o k) := by unfold pvf; rw [h]
theorem pvf_L {o k : Nat} (h : fk o k = 1) : pvf o k μ = L_ (μ o k) := by unfold pvf; rw [h]
theorem pvf_X {o k : Nat} (h : fk o k = 2) : pvf o k μ = R_ (μ o k).toNat := by unfold pvf; rw [h]
theorem pvf_R {o k c : Nat} (h : fk o k = c + 3) (hc : c < 997) : pvf o k μ = R_ c := by unfold pvf; rw [h]; simp [hc]
theorem pvf_C {o k c : Nat} (h : fk o k = c + 1000) : pvf o k μ = I_ c := by
  unfold pvf
  have : fk o k = (c + 997) + 3 := by omega
  rw [this]
  have h2 : ¬ (c + 997 < 997) := by omega
  simp only [h2, if_false]
  rw [show (((c + 997 : Nat) : Int) - 997) = (c : Int) by omega]
theorem v_getI {o ci n k idx : Nat} (hd : decode (mC M) pc = .ok (.getfield idx, 3)) (hl : FL (mY M).cls idx ci k) (hs : shp o = (ci, n)) (hf : fk o k = 0) (hb : (Nat.ble (ci + 1) 9 && Nat.ble (k + 1) n) = true) (kk : V_ M (pc + 3) ls (I_ (μ o k) :: st) μ Q) : V_ M pc ls (R_ o :: st) μ Q := by
  simp only [Bool.and_eq_true, Nat.ble_eq] at hb
  exact v_get hd hl hs hb.1 hb.2 (pvf_I hf) (fun h => (h o k).2 (by omega)) kk
theorem v_getL {o ci n k idx : Nat} (hd : decode (mC M) pc = .ok (.getfield idx, 3)) (hl : FL (mY M).cls idx ci k) (hs : shp o = (ci, n)) (hf : fk o k = 1) (hb : (Nat.ble (ci + 1) 9 && Nat.ble (k + 1) n) = true) (kk : V_ M (pc + 3) ls (L_ (μ o k) :: st) μ Q) : V_ M pc ls (R_ o :: st) μ Q := by
  simp only [Bool.and_eq_true, Nat.ble_eq] at hb
  exact v_get hd hl hs hb.1 hb.2 (pvf_L hf) (fun h => (h o k).1 hf) kk
theorem v_getX {o ci n k idx : Nat} (hd : decode (mC M) pc = .ok (.getfield idx, 3)) (hl : FL (mY M).cls idx ci k) (hs : shp o = (ci, n)) (hf : fk o k = 2) (hb : (Nat.ble (ci + 1) 9 && Nat.ble (k + 1) n) = true) (kk : V_ M (pc + 3) ls (R_ (μ o k).toNat :: st) μ Q) : V_ M pc ls (R_ o :: st) μ Q := by
  simp only [Bool.and_eq_true, Nat.ble_eq] at hb
  exact v_get hd hl hs hb.1 hb.2 (pvf_X hf) (fun _ => trivial) kk
theorem v_getR {o ci n k idx c : Nat} (hd : decode (mC M) pc = .ok (.getfield idx, 3)) (hl : FL (mY M).cls idx ci k) (hs : shp o = (ci, n)) (hf : fk o k = c + 3) (hb : (Nat.ble (ci + 1) 9 && Nat.ble (k + 1) n && Nat.ble (c + 1) 997) = true) (kk : V_ M (pc + 3) ls (R_ c :: st) μ Q) : V_ M pc ls (R_ o :: st) μ Q := by
  simp only [Bool.and_eq_true, Nat.ble_eq] at hb
  exact v_get hd hl hs hb.1.1 hb.1.2 (pvf_R hf hb.2) (fun _ => trivial) kk
theorem v_getC {o ci n k idx c : Nat} (hd : decode (mC M) pc = .ok (.getfield idx, 3)) (hl : FL (mY M).cls idx ci k) (hs : shp o = (ci, n)) (hf : fk o k = c + 1000) (hb : (Nat.ble (ci + 1) 9 && Nat.ble (k + 1) n && Nat.ble (c + 1) 997) = true) (kk : V_ M (pc + 3) ls (I_ (c : Int) :: st) μ Q) : V_ M pc ls (R_ o :: st) μ Q := by
  simp only [Bool.and_eq_true, Nat.ble_eq] at hb
  exact v_get hd hl hs hb.1.1 hb.1.2 (pvf_C hf) (fun _ => by show inR _; omega) kk
theorem v_put {o ci n k idx : Nat} {x : Int} {v : PV} {ty : FieldType} (hd : decode (mC M) pc = .ok (.putfield idx, 3)) (hl : FP (mY M).cls idx ci k ty) (hs : shp o = (ci, n)) (h9 : ci < 9) (hk : k < n) (hv : pvf o k (mset μ o k x) = v) (hn : ∀ ad, narrow ty (emb ad v) = emb ad v) (hfit : ∀ ad, fits ty (emb ad v) = true) (hok : okv v → okM μ → okM (mset μ o k x)) (kk : V_ M (pc + 3) ls st (mset μ o k x) Q) : V_ M pc ls (v :: R_ o :: st) μ Q := by
  intro h1 h2 h3 h4 p l e s m args below meth c ad D cI cB H locs lsM K
  obtain ⟨C, T, N, hc, hkN, hlink, hT, hfin, hpar⟩ := hl
  have ho := shp_lt hs (by omega)
  have he : (wo ad cI cB μ)[o]? = some (ad o, .inr (ci, (List.range n).map (fun k => emb ad (pvf o k μ)))) := by rw [wo_at ho, cellE_obj hs h9]
  obtain ⟨hin, ⟨ty0, hty0⟩, hnm⟩ := clOK ci C T N hc
  refine va_put (v := emb ad v) (ty := ty) K.1.1 K.1.2.1 K.1.2.2.2.2.2.1 hin ty0 hty0 hnm K.1.2.2.2.2.1 K.2.1.2.1 K.2.2.1 (wo_D μ K.2.1.1) K.2.2.2.1 o he hc k hkN (K.1.2.2.2.2.2.1 _ hlink) ?_ hfin hpar (hn ad) (hfit ad) (by simpa using hk) hd ?_
  · intro x hx
    rw [hT] at hx
    exact hx
  · intro H1 locs1 hP1 _ hS1
    rw [wo_fset hs h9 (by rw [hv])] at hP1
    exact kk h1 (okl_tl (okl_tl h2)) (hok (okl_hd h2) h3) h4 p l e s m args below meth c ad D cI cB H1 locs1 lsM ⟨K.1, K.2.1, hP1, hS1, K.2.2.2.2⟩
theorem v_putI {o ci n k idx : Nat} {x : Int} (hd : decode (mC M) pc = .ok (.putfield idx, 3)) (hl : FP (mY M).cls idx ci k .int) (hs : shp o = (ci, n)) (hf : fk o k = 0) (hb : (Nat.ble (ci + 1) 9 && Nat.ble (k + 1) n) = true) (kk : V_ M (pc + 3) ls st (mset μ o k x) Q) : V_ M pc ls (I_ x :: R_ o :: st) μ Q := by
  simp only [Bool.and_eq_true, Nat.ble_eq] at hb
  exact v_put hd hl hs hb.1 hb.2 (by rw [pvf_I hf, mset_same]) (fun _ => rfl) (fun _ => rfl) (fun h h3 => okM_set h3 (by omega) (fun _ => h)) kk
theorem v_putL {o ci n k idx : Nat} {x : Int} (hd : decode (mC M) pc = .ok (.putfield idx, 3)) (hl : FP (mY M).cls idx ci k .long) (hs : shp o = (ci, n)) (hf : fk o k = 1) (hb : (Nat.ble (ci + 1) 9 && Nat.ble (k + 1) n) = true) (kk : V_ M (pc + 3) ls st (mset μ o k x) Q) : V_ M pc ls (L_ x :: R_ o :: st) μ Q := by
  simp only [Bool.and_eq_true, Nat.ble_eq] at hb
  exact v_put hd hl hs hb.1 hb.2 (by rw [pvf_L hf, mset_same]) (fun _ => rfl) (fun _ => rfl) (fun h h3 => okM_set h3 (fun _ => h) (by omega)) kk
theorem v_putX {o ci n k idx x : Nat} {C : String} (hd : decode (mC M) pc = .ok (.putfield idx, 3)) (hl : FP (mY M).cls idx ci k (.object C)) (hs : shp o = (ci, n)) (hf : fk o k = 2) (hb : (Nat.ble (ci + 1) 9 && Nat.ble (k + 1) n && Nat.ble x 1000) = true) (kk : V_ M (pc + 3) ls st (mset μ o k (x : Int)) Q) : V_ M pc ls (R_ x :: R_ o :: st) μ Q := by
  simp only [Bool.and_eq_true, Nat.ble_eq] at hb
  exact v_put hd hl hs hb.1.1 hb.1.2 (by rw [pvf_X hf, mset_same]; simp) (fun _ => rfl) (fun _ => rfl) (fun h h3 => okM_set h3 (by omega) (fun _ => by omega)) kk
theorem fk_arr {o c n : Nat} (h : shp o = (c, n)) (hc : 9 ≤ c) (hc' : c ≤ 10) (k : Nat) : fk o k = 0 := by
  have ho := shp_lt h (by omega)
  have key : ∀ o, o < NC_ → 9 ≤ (shp o).1 → fkL.getD o [] = [] := by decide +kernel
  unfold fk
  rw [key o ho (by rw [h]; exact hc)]
  rfl
theorem v_iald {o n : Nat} {i : Int} (hd : decode (mC M) pc = .ok (.iaload, 1)) (hs : shp o = (9, n)) (h0 : 0 ≤ i) (hn : i < (n : Int)) (kk : V_ M (pc + 1) ls (I_ (μ o i.toNat) :: st) μ Q) : V_ M pc ls (I_ i :: R_ o :: st) μ Q := by
  intro h1 h2 h3 h4 p l e s m args below meth c ad D cI cB H locs lsM K
  have hi : inR i := okl_hd h2
  have ho := shp_lt hs (by omega)
  refine va_iald K.1.1 K.1.2.1 K.2.1.2.1 K.2.2.1 o 0 (by rw [wo_at ho, cellE_arr hs]) rfl (i32_ix hi h0 hn) hd ?_
  rw [i32_nat hi]
  exact kk h1 (okl_cons (v := I_ _) ((h3 o i.toNat).2 (by rw [fk_arr hs (by omega) (by omega)]; omega)) (okl_tl (okl_tl h2))) h3 h4 p l e s m args below meth c ad D cI cB H locs lsM K
theorem v_bald {o n : Nat} {i : Int} (hd : decode (mC M) pc = .ok (.baload, 1)) (hs : shp o = (10, n)) (h0 : 0 ≤ i) (hn : i < (n : Int)) (kk : V_ M (pc + 1) ls (I_ (μ o i.toNat) :: st) μ Q) : V_ M pc ls (I_ i :: R_ o :: st) μ Q := by
  intro h1 h2 h3 h4 p l e s m args below meth c ad D cI cB H locs lsM K
  have hi : inR i := okl_hd h2
  have ho := shp_lt hs (by omega)
  refine va_bald K.1.1 K.1.2.1 K.2.1.2.1 K.2.2.1 o 1 (by rw [wo_at ho, cellE_byt hs]) rfl (i32_ix hi h0 hn) hd ?_
  rw [i32_nat hi]
  exact kk h1 (okl_cons (v := I_ _) ((h3 o i.toNat).2 (by rw [fk_arr hs (by omega) (by omega)]; omega)) (okl_tl (okl_tl h2))) h3 h4 p l e s m args below meth c ad D cI cB H locs lsM K
theorem v_iast {o n : Nat} {i x : Int} (hd : decode (mC M) pc = .ok (.iastore, 1)) (hs : shp o = (9, n)) (h0 : 0 ≤ i) (hn : i < (n : Int)) (kk : V_ M (pc + 1) ls st (mset μ o i.toNat x) Q) : V_ M pc ls (I_ x :: I_ i :: R_ o :: st) μ Q := by
  intro h1 h2 h3 h4 p l e s m args below meth c ad D cI cB H locs lsM K
  have hi : inR i := okl_hd (okl_tl h2)
  have hx : inR x := okl_hd h2
  have ho := shp_lt hs (by omega)
  refine va_iast K.1.1 K.1.2.1 K.2.1.2.1 K.2.2.1 (wo_D μ K.2.1.1) K.2.2.2.1 o 0 (by rw [wo_at ho, cellE_arr hs]) rfl (i32_ix hi h0 hn) hd ?_
  intro H1 locs1 hP1 _ hS1
  rw [i32_nat hi, wo_iset hs] at hP1
  exact kk h1 (okl_tl (okl_tl (okl_tl h2))) (okM_set h3 (by rw [fk_arr hs (by omega) (by omega)]; omega) (fun _ => hx)) h4 p l e s m args below meth c ad D cI cB H1 locs1 lsM ⟨K.1, K.2.1, hP1, hS1, K.2.2.2.2⟩
theorem nar8 {x : Int} (h1 : -128 ≤ x) (h2 : x < 128) : vp_nar .byte (Int32.ofInt x) = Int32.ofInt x := by
  have key : ∀ n : Fin 256, vp_nar .byte (Int32.ofInt ((n.val : Int) - 128)) = Int32.ofInt ((n.val : Int) - 128) := by decide +kernel
  have := key ⟨(x + 128).toNat, by omega⟩
  simp only at this
  rwa [show (((x + 128).toNat : Nat) : Int) - 128 = x by omega] at this
theorem v_bast {o n : Nat} {i x : Int} (hd : decode (mC M) pc = .ok (.bastore, 1)) (hs : shp o = (10, n)) (h0 : 0 ≤ i) (hn : i < (n : Int)) (hx1 : -128 ≤ x) (hx2 : x < 128) (kk : V_ M (pc + 1) ls st (mset μ o i.toNat x) Q) : V_ M pc ls (I_ x :: I_ i :: R_ o :: st) μ Q := by
  intro h1 h2 h3 h4 p l e s m args below meth c ad D cI cB H locs lsM K
  have hi : inR i := okl_hd (okl_tl h2)
  have hx : inR x := okl_hd h2
  have ho := shp_lt hs (by omega)
  refine va_bast K.1.1 K.1.2.1 K.2.1.2.1 K.2.2.1 (wo_D μ K.2.1.1) K.2.2.2.1 o 1 (by rw [wo_at ho, cellE_byt hs]) rfl (i32_ix hi h0 hn) hd ?_
  intro H1 locs1 hP1 _ hS1
  rw [i32_nat hi, nar8 hx1 hx2, wo_bset hs] at hP1
  exact kk h1 (okl_tl (okl_tl (okl_tl h2))) (okM_set h3 (by rw [fk_arr hs (by omega) (by omega)]; omega) (fun _ => hx)) h4 p l e s m args below meth c ad D cI cB H1 locs1 lsM ⟨K.1, K.2.1, hP1, hS1, K.2.2.2.2⟩
theorem v_alen {o n : Nat} (hd : decode (mC M) pc = .ok (.arraylength, 1)) (hs : shp o = (9, n)) (hn : Nat.ble n 100000 = true) (kk : V_ M (pc + 1) ls (I_ (n : Int) :: st) μ Q) : V_ M pc ls (R_ o :: st) μ Q := by
  intro h1 h2 h3 h4 p l e s m args below meth c ad D cI cB H locs lsM K
  have ho := shp_lt hs (by omega)
  have hn := Nat.le_of_ble_eq_true hn
  refine va_alen (v := Int32.ofInt (n : Int)) K.1.1 K.1.2.1 K.2.1.2.1 K.2.2.1 o 0 (by rw [wo_at ho, cellE_arr hs]) rfl ?_ hd (kk h1 (okl_cons (v := I_ _) (by show inR _; omega) (okl_tl h2)) h3 h4 p l e s m args below meth c ad D cI cB H locs lsM K)
  show Int32.ofNat n = Int32.ofInt (n : Int)
  rfl
-- ends
theorem QcV_int {T : Option FieldType} {ad : Nat → Nat} {D : va_G} {cI cB : ClassId} (h : T = some .int ∨ T = some .boolean) : QcV T ad D cI cB Q = va_Qi (S := Mem_) (fun r u => Q (I_ r.toInt) u) (Bw ad D cI cB) (Aw ad) := by
  rcases h with rfl | rfl <;> rfl
theorem v_ireturn {x : Int} (hd : decode (mC M) pc = .ok (.ireturn, 1)) (hT : mT M = some .int) (k : Q (I_ x) μ) : V_ M pc ls [I_ x] μ Q := by
  intro h1 h2 h3 h4 p l e s m args below meth c ad D cI cB H locs lsM K
  have hlocks := K.1.2.2.2.2.2.2
  have hx : inR x := okl_hd h2
  rw [QcV_int (Or.inl hT)]
  exact W.iret (v := Int32.ofInt x) K.1.1 K.1.2.1 (K.1.2.2.1.trans hT) (fun t ht hW => ⟨⟨Int32.ofInt x, μ, rfl, by show Q (I_ (Int32.ofInt x).toInt) μ; rw [i32_rt hx]; exact k, h3, by rw [ht]; exact K.2.2.1⟩, K.2.2.2.1.F ht⟩) K.2.2.2.1.2.2 hd
theorem v_zreturn {x : Int} (hd : decode (mC M) pc = .ok (.ireturn, 1)) (hT : mT M = some .boolean) (hx01 : x = 0 ∨ x = 1) (k : Q (I_ x) μ) : V_ M pc ls [I_ x] μ Q := by
  intro h1 h2 h3 h4 p l e s m args below meth c ad D cI cB H locs lsM K
  have hlocks := K.1.2.2.2.2.2.2
  have hx : inR x := okl_hd h2
  rw [QcV_int (Or.inr hT)]
  exact W.zret (v := Int32.ofInt x) K.1.1 K.1.2.1 (K.1.2.2.1.trans hT) (by rcases hx01 with rfl | rfl <;> rfl) (fun t ht hW => ⟨⟨Int32.ofInt x, μ, rfl, by show Q (I_ (Int32.ofInt x).toInt) μ; rw [i32_rt hx]; exact k, h3, by rw [ht]; exact K.2.2.1⟩, K.2.2.2.1.F ht⟩) K.2.2.2.1.2.2 hd
theorem v_lreturn {x : Int} (hd : decode (mC M) pc = .ok (.lreturn, 1)) (hT : mT M = some .long) (k : Q (L_ x) μ) : V_ M pc ls [L_ x] μ Q := by
  intro h1 h2 h3 h4 p l e s m args below meth c ad D cI cB H locs lsM K
  have hlocks := K.1.2.2.2.2.2.2
  have hx : inL x := okl_hd h2
  rw [hT]
  exact W.lret (v := Int64.ofInt x) K.1.1 K.1.2.1 (K.1.2.2.1.trans hT) (fun t ht hW => ⟨⟨Int64.ofInt x, μ, rfl, by show Q (L_ (Int64.ofInt x).toInt) μ; rw [i64_rt hx]; exact k, h3, by rw [ht]; exact K.2.2.1⟩, K.2.2.2.1.F ht⟩) K.2.2.2.1.2.2 hd
theorem v_return (hd : decode (mC M) pc = .ok (.return_, 1)) (hT : mT M = none) (k : Q U_ μ) : V_ M pc ls [] μ Q := by
  intro h1 h2 h3 h4 p l e s m args below meth c ad D cI cB H locs lsM K
  have hlocks := K.1.2.2.2.2.2.2
  rw [hT]
  exact W.vret K.1.1 K.1.2.1 (K.1.2.2.1.trans hT) (fun t ht hW => ⟨⟨μ, rfl, k, h3, by rw [ht]; exact K.2.2.1⟩, K.2.2.2.1.F ht⟩) K.2.2.2.1.2.2 hd
-- a weaker end
theorem QcV_mono {T : Option FieldType} {ad : Nat → Nat} {D : va_G} {cI cB : ClassId} {Q' : PV → Mem_ → Prop} (h : ∀ r u, Q r u → Q' r u) {a : Array Value} {s t : State} {o : Outcome} (hq : QcV T ad D cI cB Q a s o t) : QcV T ad D cI cB Q' a s o t := by
  unfold QcV at hq ⊢
  split at hq
  · obtain ⟨⟨u, h1, h2, h3⟩, h4⟩ := hq
    exact ⟨⟨u, h1, h _ _ h2, h3⟩, h4⟩
  · obtain ⟨⟨r, u, h1, h2, h3⟩, h4⟩ := hq
    exact ⟨⟨r, u, h1, h _ _ h2, h3⟩, h4⟩
  · obtain ⟨⟨r, u, h1, h2, h3⟩, h4⟩ := hq
    exact ⟨⟨r, u, h1, h _ _ h2, h3⟩, h4⟩
theorem v_conseq {Q' : PV → Mem_ → Prop} (k : V_ M pc ls st μ Q) (h : ∀ r u, Q r u → Q' r u) : V_ M pc ls st μ Q' := by
  intro h1 h2 h3 h4 p l e s m args below meth c ad D cI cB H locs lsM K T hT X
  obtain ⟨t, a, o, b1, b2, b3, b4⟩ := k h1 h2 h3 h4 p l e s m args below meth c ad D cI cB H locs lsM K T hT X
  exact ⟨t, a, o, b1, b2, QcV_mono h b3, b4⟩
end
/-- a callee's locals -/
def wd : PV → List PV
  | some (.inr (.inl x)) => [some (.inr (.inl x)), none]
  | v => [v]
def ent (n : Nat) (as : List PV) : List PV := as.flatMap wd ++ List.replicate (n - (as.flatMap wd).length) U_
def cats : List PV → Nat
  | [] => 0
  | some (.inr (.inl _)) :: t => 2 + cats t
  | _ :: t => 1 + cats t
theorem cats_eq (ad : Nat → Nat) (st : List PV) : ((st.map (emb ad)).map fun v => v.category).sum = cats st := by
  induction st with
  | nil => rfl
  | cons v t ih =>
    match v with
    | none => simp [cats, emb, Value.category] at ih ⊢; omega
    | some (.inl x) => simp [cats, emb, Value.category] at ih ⊢; omega
    | some (.inr (.inl x)) => simp [cats, emb, Value.category] at ih ⊢; omega
    | some (.inr (.inr x)) => simp [cats, emb, Value.category] at ih ⊢; omega
theorem ent_sl (ad : Nat → Nat) (as : List PV) : (lg_sl (as.map (emb ad))).length = (as.flatMap wd).length ∧ ∀ (k : Nat) (v : Int ⊕ (Int ⊕ Nat)), (as.flatMap wd)[k]? = some (some v) → (lg_sl (as.map (emb ad)))[k]? = some (.val (emb ad (some v))) := by
  induction as with
  | nil => exact ⟨rfl, fun k v h => by simp at h⟩
  | cons a t ih =>
    obtain ⟨ih1, ih2⟩ := ih
    have one : ∀ (z : PV), wd z = [z] → (emb ad z).category ≠ 2 → (lg_sl ((z :: t).map (emb ad))).length = ((z :: t).flatMap wd).length ∧ ∀ (k : Nat) (v : Int ⊕ (Int ⊕ Nat)), ((z :: t).flatMap wd)[k]? = some (some v) → (lg_sl ((z :: t).map (emb ad)))[k]? = some (.val (emb ad (some v))) := by
      intro z hz hc
      have e1 : lg_sl ((z :: t).map (emb ad)) = .val (emb ad z) :: lg_sl (t.map (emb ad)) := by simp [lg_sl, hc]
      have e2 : (z :: t).flatMap wd = z :: t.flatMap wd := by simp [hz]
      rw [e1, e2]
      refine ⟨by simp [ih1], fun k v hk => ?_⟩
      cases k with
      | zero => simp at hk; simp [hk]
      | succ k => simp at hk; simpa using ih2 k v hk
    match a with
    | none => exact one none rfl (by simp [emb, Value.category])
    | some (.inl x) => exact one (I_ x) rfl (by simp [emb, Value.category])
    | some (.inr (.inr x)) => exact one (R_ x) rfl (by simp [emb, Value.category])
    | some (.inr (.inl x)) =>
      have e1 : lg_sl ((L_ x :: t).map (emb ad)) = .val (emb ad (L_ x)) :: .second :: lg_sl (t.map (emb ad)) := by simp [lg_sl, emb, Value.category]
      have e2 : (L_ x :: t).flatMap wd = L_ x :: none :: t.flatMap wd := by simp [wd]
      show (lg_sl ((L_ x :: t).map (emb ad))).length = ((L_ x :: t).flatMap wd).length ∧ ∀ (k : Nat) (v : Int ⊕ (Int ⊕ Nat)), ((L_ x :: t).flatMap wd)[k]? = some (some v) → (lg_sl ((L_ x :: t).map (emb ad)))[k]? = some (.val (emb ad (some v)))
      rw [e1, e2]
      refine ⟨by simp [ih1], fun k v hk => ?_⟩
      match k with
      | 0 => simp at hk; subst hk; rfl
      | 1 => simp at hk
      | k + 2 => simp at hk; simpa using ih2 k v hk
theorem ent_rel {ad : Nat → Nat} {n : Nat} {as : List PV} (h : (as.flatMap wd).length ≤ n) : lsRel ad ((lg_sl (as.map (emb ad)) ++ List.replicate (n - (lg_sl (as.map (emb ad))).length) Slot.unset).toArray) (ent n as) := by
  obtain ⟨e1, e2⟩ := ent_sl ad as
  have hv := lv_entry (as.map (emb ad)) (n := n) (by rw [e1]; exact h)
  refine ⟨?_, hv.2.1, fun k v hk => ?_⟩
  · simp [ent, e1]
  · unfold ent at hk
    by_cases hl : k < (as.flatMap wd).length
    · rw [List.getElem?_append_left hl] at hk
      have := e2 k v hk
      simp only [List.getElem?_toArray]
      rw [List.getElem?_append_left (by rw [e1]; exact hl)]
      exact this
    · rw [List.getElem?_append_right (by omega)] at hk
      rw [List.getElem?_replicate] at hk
      split at hk <;> cases hk
theorem ent_ok {n : Nat} {as : List PV} (h : okl as) : okl (ent n as) := by
  intro v hv
  rcases List.mem_append.mp hv with hv | hv
  · obtain ⟨a, ha, hva⟩ := List.mem_flatMap.mp hv
    have := h a ha
    match a with
    | none => simp [wd] at hva; subst hva; exact this
    | some (.inl x) => simp [wd] at hva; subst hva; exact this
    | some (.inr (.inr x)) => simp [wd] at hva; subst hva; exact this
    | some (.inr (.inl x)) =>
      simp [wd] at hva
      rcases hva with rfl | rfl
      · exact this
      · exact trivial
  · have := (List.mem_replicate.mp hv).2
    subst this
    exact trivial
theorem ent_len {n : Nat} {as : List PV} (h : (as.flatMap wd).length ≤ n) : (ent n as).length = n := by simp [ent]; simp at h; omega
abbrev wsN (N : MRec) : List Cond := Cond.code (mY N) (mC N) (mL N) (mT N) :: gt_
theorem met_V {l : Launch} {N : MRec} {as : List PV} {μ : Mem_} {Q : PV → Mem_ → Prop} {ad : Nat → Nat} {D : va_G} {cI cB : ClassId} (hpl : plainFor (mY N) = true) (hlen : (as.flatMap wd).length ≤ mL N) (has : okl as) (hμ : okM μ) (hinj : ∀ i j, i < NC_ → j < NC_ → ad i = ad j → i = j) (k : V_ N 0 (ent (mL N) as) [] μ Q) :
    Met l (mY N) (wsN N) (rmM N) (va_Pc (as.map (emb ad)) (fun U => va_P D vwCl (wo ad cI cB μ) U.heap ∧ va_K D vwCl [(cI, .int), (cB, .byte)] U ∧ ∀ w ∈ nw_, va_Nw w U)) (QcV (mT N) ad D cI cB Q) 0 0 (Aw ad) := by
  refine va_MetF (cc := mC N) (maxL := mL N) (ret := mT N) hpl rfl ?_
  intro p e s m args below meth c s₁ B hml hv
  obtain ⟨rfl, hP, hK, hN⟩ := hv
  have hts := atoms_spec (ws := wsN N) B.pre
  have hown : s.vm.findClass (mY N).cls = some m.cls := findClass_of_methodNamed B.named
  rw [lg_entry_eq]
  exact k (ent_ok has) (fun v hv => by cases hv) hμ (ent_len hlen) p l e s m _ below meth c ad D cI cB s.heap [] _ ⟨⟨B.exec, B.bytes, B.returns, hml, hown, fun w hw => hts w (List.mem_cons_of_mem _ hw), B.notSynchronized⟩, ⟨hinj, hK, hN⟩, hP, va_S.rf, ent_rel hlen⟩
theorem gt_good : ∀ w ∈ gt_, (w.onTables && w.keeps) = true ∨ ∃ ty, w = .arrayClass ty := fun w hw => good_of_word (List.mem_filter.mp hw).2
theorem nw_warm {s U : State} (hW : s.WarmedH U.vm) (h : ∀ w ∈ nw_, va_Nw w s) : ∀ w ∈ nw_, va_Nw w U := by
  intro w hw
  have h1 := h w hw
  unfold nw_ at hw
  simp only [List.mem_cons, List.not_mem_nil, or_false] at hw
  rcases hw with rfl | rfl | rfl <;> exact va_Nw.warmM hW h1
theorem nw_same {s U : State} (hW : s.vm = U.vm) (h : ∀ w ∈ nw_, va_Nw w s) : ∀ w ∈ nw_, va_Nw w U := by
  intro w hw
  have h1 := h w hw
  unfold nw_ at hw
  simp only [List.mem_cons, List.not_mem_nil, or_false] at hw
  rcases hw with rfl | rfl | rfl <;> exact va_Nw.same rfl hW h1
