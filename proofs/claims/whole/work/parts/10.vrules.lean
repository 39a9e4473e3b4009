/-! the rules of V_: one an instruction -/
theorem v_iconst {M : MRec} {pc : Nat} {ls st : List PV} {μ : Mem_} {Q : PV → Mem_ → Prop} {n : Int} (hd : decode (mC M) pc = .ok (.iconst n, 1)) (hn : inR n) (k : V_ M (pc + 1) ls (I_ n :: st) μ Q) : V_ M pc ls st μ Q :=
  V_.of (fun _ h => okl_cons (v := I_ n) hn h) (fun _ _ hx hb _ kk => lv_iconst hx hb hd rfl kk) k
theorem v_bipush {M : MRec} {pc : Nat} {ls st : List PV} {μ : Mem_} {Q : PV → Mem_ → Prop} {n : Int} (hd : decode (mC M) pc = .ok (.bipush n, 2)) (hn : inR n ∧ (Int8.ofInt n).toInt32 = Int32.ofInt n) (k : V_ M (pc + 2) ls (I_ n :: st) μ Q) : V_ M pc ls st μ Q :=
  V_.of (fun _ h => okl_cons (v := I_ n) hn.1 h) (fun _ _ hx hb _ kk => lv_bipush hx hb hd hn.2 kk) k
theorem v_sipush {M : MRec} {pc : Nat} {ls st : List PV} {μ : Mem_} {Q : PV → Mem_ → Prop} {n : Int} (hd : decode (mC M) pc = .ok (.sipush n, 3)) (hn : inR n ∧ (Int16.ofInt n).toInt32 = Int32.ofInt n) (k : V_ M (pc + 3) ls (I_ n :: st) μ Q) : V_ M pc ls st μ Q :=
  V_.of (fun _ h => okl_cons (v := I_ n) hn.1 h) (fun _ _ hx hb _ kk => lv_sipush hx hb hd hn.2 kk) k
theorem v_lconst {M : MRec} {pc : Nat} {ls st : List PV} {μ : Mem_} {Q : PV → Mem_ → Prop} {n : Fin 2} {x : Int} (hd : decode (mC M) pc = .ok (.lconst n, 1)) (hn : inL x ∧ Int64.ofNat (n : Nat) = Int64.ofInt x) (k : V_ M (pc + 1) ls (L_ x :: st) μ Q) : V_ M pc ls st μ Q :=
  V_.of (fun _ h => okl_cons (v := L_ x) hn.1 h) (fun _ _ hx hb _ kk => lv_lconst hx hb hd hn.2 kk) k
theorem v_ldc2 {M : MRec} {pc : Nat} {ls st : List PV} {μ : Mem_} {Q : PV → Mem_ → Prop} {idx : Nat} {v : Int64} {x : Int} (hd : decode (mC M) pc = .ok (.ldc2_w idx, 3)) (hc : Cond.constantLong (mY M).cls idx v ∈ gt_) (hv : v = Int64.ofInt x) (hi : inL x) (k : V_ M (pc + 3) ls (L_ x :: st) μ Q) : V_ M pc ls st μ Q :=
  fun h1 h2 h3 h4 p l e s m args below meth c ad D cI cB H locs lsM K => lv_ldc2 K.1.1 K.1.2.1 K.1.2.2.2.2.1 (K.1.2.2.2.2.2.1 _ hc) hd (by subst hv; exact k h1 (okl_cons (v := L_ x) hi h2) h3 h4 p l e s m args below meth c ad D cI cB H locs lsM K)
theorem v_ldc {M : MRec} {pc : Nat} {ls st : List PV} {μ : Mem_} {Q : PV → Mem_ → Prop} {idx : Nat} {v : Int32} {x : Int} (hd : decode (mC M) pc = .ok (.ldc idx, 2)) (hc : Cond.constant (mY M).cls idx v ∈ gt_) (hv : v = Int32.ofInt x) (hi : inR x) (k : V_ M (pc + 2) ls (I_ x :: st) μ Q) : V_ M pc ls st μ Q :=
  fun h1 h2 h3 h4 p l e s m args below meth c ad D cI cB H locs lsM K => lv_ldc K.1.1 K.1.2.1 K.1.2.2.2.2.1 (K.1.2.2.2.2.2.1 _ hc) hd (by subst hv; exact k h1 (okl_cons (v := I_ x) hi h2) h3 h4 p l e s m args below meth c ad D cI cB H locs lsM K)
theorem v_iload_n {M : MRec} {pc : Nat} {ls st : List PV} {μ : Mem_} {Q : PV → Mem_ → Prop} {k : Fin 4} {i : Nat} {x : Int} (hd : decode (mC M) pc = .ok (.iload_n k, 1)) (hi : (k : Nat) = i) (hk : lk ls i = I_ x) (k : V_ M (pc + 1) ls (I_ x :: st) μ Q) : V_ M pc ls st μ Q :=
  V_.of (fun h1 h => okl_cons (v := I_ x) (okl_lk h1 hk) h) (fun _ _ hx hb hl kk => lv_iload_n hx hb hd hi (hl.get hk) kk) k
theorem v_iload {M : MRec} {pc : Nat} {ls st : List PV} {μ : Mem_} {Q : PV → Mem_ → Prop} {i : Nat} {x : Int} (hd : decode (mC M) pc = .ok (.iload i, 2)) (hk : lk ls i = I_ x) (k : V_ M (pc + 2) ls (I_ x :: st) μ Q) : V_ M pc ls st μ Q :=
  V_.of (fun h1 h => okl_cons (v := I_ x) (okl_lk h1 hk) h) (fun _ _ hx hb hl kk => lv_iload hx hb hd (hl.get hk) kk) k
theorem v_lload_n {M : MRec} {pc : Nat} {ls st : List PV} {μ : Mem_} {Q : PV → Mem_ → Prop} {k : Fin 4} {i : Nat} {x : Int} (hd : decode (mC M) pc = .ok (.lload_n k, 1)) (hi : (k : Nat) = i) (hk : lk ls i = L_ x) (k : V_ M (pc + 1) ls (L_ x :: st) μ Q) : V_ M pc ls st μ Q :=
  V_.of (fun h1 h => okl_cons (v := L_ x) (okl_lk h1 hk) h) (fun _ _ hx hb hl kk => lv_lload_n hx hb hd hi (hl.get hk) kk) k
theorem v_lload {M : MRec} {pc : Nat} {ls st : List PV} {μ : Mem_} {Q : PV → Mem_ → Prop} {i : Nat} {x : Int} (hd : decode (mC M) pc = .ok (.lload i, 2)) (hk : lk ls i = L_ x) (k : V_ M (pc + 2) ls (L_ x :: st) μ Q) : V_ M pc ls st μ Q :=
  V_.of (fun h1 h => okl_cons (v := L_ x) (okl_lk h1 hk) h) (fun _ _ hx hb hl kk => lv_lload hx hb hd (hl.get hk) kk) k
theorem v_aload_n {M : MRec} {pc : Nat} {ls st : List PV} {μ : Mem_} {Q : PV → Mem_ → Prop} {k : Fin 4} {i : Nat} {x : Nat} (hd : decode (mC M) pc = .ok (.aload_n k, 1)) (hi : (k : Nat) = i) (hk : lk ls i = R_ x) (k : V_ M (pc + 1) ls (R_ x :: st) μ Q) : V_ M pc ls st μ Q :=
  V_.of (fun h1 h => okl_cons (v := R_ x) (okl_lk h1 hk) h) (fun _ _ hx hb hl kk => lv_aload_n hx hb hd hi (hl.get hk) kk) k
theorem v_aload {M : MRec} {pc : Nat} {ls st : List PV} {μ : Mem_} {Q : PV → Mem_ → Prop} {i : Nat} {x : Nat} (hd : decode (mC M) pc = .ok (.aload i, 2)) (hk : lk ls i = R_ x) (k : V_ M (pc + 2) ls (R_ x :: st) μ Q) : V_ M pc ls st μ Q :=
  V_.of (fun h1 h => okl_cons (v := R_ x) (okl_lk h1 hk) h) (fun _ _ hx hb hl kk => lv_aload hx hb hd (hl.get hk) kk) k
theorem v_istore_n {M : MRec} {pc : Nat} {ls st : List PV} {μ : Mem_} {Q : PV → Mem_ → Prop} {ls' : List PV} {k : Fin 4} {i : Nat} {x : Int} (hd : decode (mC M) pc = .ok (.istore_n k, 1)) (hi : (k : Nat) = i) (hn : Nat.ble (i + 1) ls.length = true) (hs : ps ls i (I_ x) = ls') (hnl : nl ls i = true) (k : V_ M (pc + 1) ls' st μ Q) : V_ M pc ls (I_ x :: st) μ Q := by
  subst hs
  exact V_.ofS (fun h1 h2 => ⟨okl_ps h1 (okl_hd h2), okl_tl h2⟩) (ps_len _ _ _) (fun hx hb hl kk => lv_istore_n hx hb hd hi hl.has (Nat.le_of_ble_eq_true hn) rfl (fun ls2 h2 => kk ls2 (lsRel.store (x := emb _ (I_ x)) rfl hnl h2))) k
theorem v_istore {M : MRec} {pc : Nat} {ls st : List PV} {μ : Mem_} {Q : PV → Mem_ → Prop} {ls' : List PV} {i : Nat} {x : Int} (hd : decode (mC M) pc = .ok (.istore i, 2)) (hn : Nat.ble (i + 1) ls.length = true) (hs : ps ls i (I_ x) = ls') (hnl : nl ls i = true) (k : V_ M (pc + 2) ls' st μ Q) : V_ M pc ls (I_ x :: st) μ Q := by
  subst hs
  exact V_.ofS (fun h1 h2 => ⟨okl_ps h1 (okl_hd h2), okl_tl h2⟩) (ps_len _ _ _) (fun hx hb hl kk => lv_istore hx hb hd hl.has (Nat.le_of_ble_eq_true hn) rfl (fun ls2 h2 => kk ls2 (lsRel.store (x := emb _ (I_ x)) rfl hnl h2))) k
theorem v_astore_n {M : MRec} {pc : Nat} {ls st : List PV} {μ : Mem_} {Q : PV → Mem_ → Prop} {ls' : List PV} {k : Fin 4} {i : Nat} {x : Nat} (hd : decode (mC M) pc = .ok (.astore_n k, 1)) (hi : (k : Nat) = i) (hn : Nat.ble (i + 1) ls.length = true) (hs : ps ls i (R_ x) = ls') (hnl : nl ls i = true) (k : V_ M (pc + 1) ls' st μ Q) : V_ M pc ls (R_ x :: st) μ Q := by
  subst hs
  exact V_.ofS (fun h1 h2 => ⟨okl_ps h1 (okl_hd h2), okl_tl h2⟩) (ps_len _ _ _) (fun hx hb hl kk => lv_astore_n hx hb hd hi hl.has (Nat.le_of_ble_eq_true hn) rfl (fun ls2 h2 => kk ls2 (lsRel.store (x := emb _ (R_ x)) rfl hnl h2))) k
theorem v_astore {M : MRec} {pc : Nat} {ls st : List PV} {μ : Mem_} {Q : PV → Mem_ → Prop} {ls' : List PV} {i : Nat} {x : Nat} (hd : decode (mC M) pc = .ok (.astore i, 2)) (hn : Nat.ble (i + 1) ls.length = true) (hs : ps ls i (R_ x) = ls') (hnl : nl ls i = true) (k : V_ M (pc + 2) ls' st μ Q) : V_ M pc ls (R_ x :: st) μ Q := by
  subst hs
  exact V_.ofS (fun h1 h2 => ⟨okl_ps h1 (okl_hd h2), okl_tl h2⟩) (ps_len _ _ _) (fun hx hb hl kk => lv_astore hx hb hd hl.has (Nat.le_of_ble_eq_true hn) rfl (fun ls2 h2 => kk ls2 (lsRel.store (x := emb _ (R_ x)) rfl hnl h2))) k
theorem v_lstore_n {M : MRec} {pc : Nat} {ls st : List PV} {μ : Mem_} {Q : PV → Mem_ → Prop} {ls' : List PV} {k : Fin 4} {i : Nat} {x : Int} (hd : decode (mC M) pc = .ok (.lstore_n k, 1)) (hi : (k : Nat) = i) (hn : Nat.ble (i + 2) ls.length = true) (hs : ps (ps ls i (L_ x)) (i + 1) U_ = ls') (hnl : nl ls i = true) (k : V_ M (pc + 1) ls' st μ Q) : V_ M pc ls (L_ x :: st) μ Q := by
  subst hs
  exact V_.ofS (fun h1 h2 => ⟨okl_ps (v := U_) (okl_ps h1 (okl_hd h2)) trivial, okl_tl h2⟩) (by rw [ps_len, ps_len]) (fun hx hb hl kk => lv_lstore_n hx hb hd hi hl.has (Nat.le_of_ble_eq_true hn) rfl (fun ls2 h2 => kk ls2 (lsRel.store2 (x := emb _ (L_ x)) rfl hnl h2))) k
theorem v_lstore {M : MRec} {pc : Nat} {ls st : List PV} {μ : Mem_} {Q : PV → Mem_ → Prop} {ls' : List PV} {i : Nat} {x : Int} (hd : decode (mC M) pc = .ok (.lstore i, 2)) (hn : Nat.ble (i + 2) ls.length = true) (hs : ps (ps ls i (L_ x)) (i + 1) U_ = ls') (hnl : nl ls i = true) (k : V_ M (pc + 2) ls' st μ Q) : V_ M pc ls (L_ x :: st) μ Q := by
  subst hs
  exact V_.ofS (fun h1 h2 => ⟨okl_ps (v := U_) (okl_ps h1 (okl_hd h2)) trivial, okl_tl h2⟩) (by rw [ps_len, ps_len]) (fun hx hb hl kk => lv_lstore hx hb hd hl.has (Nat.le_of_ble_eq_true hn) rfl (fun ls2 h2 => kk ls2 (lsRel.store2 (x := emb _ (L_ x)) rfl hnl h2))) k
theorem v_kill {M : MRec} {pc : Nat} {ls st : List PV} {μ : Mem_} {Q : PV → Mem_ → Prop} {ls' : List PV} (i : Nat) (hs : ps ls i U_ = ls') (k : V_ M pc ls' st μ Q) : V_ M pc ls st μ Q := by
  subst hs
  exact fun h1 h2 h3 h4 p l e s m args below meth c ad D cI cB H locs lsM K => k (okl_ps (v := U_) h1 trivial) h2 h3 ((ps_len _ _ _).trans h4) p l e s m args below meth c ad D cI cB H locs lsM ⟨K.1, K.2.1, K.2.2.1, K.2.2.2.1, K.2.2.2.2.kill⟩
theorem v_iinc {M : MRec} {pc : Nat} {ls st : List PV} {μ : Mem_} {Q : PV → Mem_ → Prop} {ls' : List PV} {i : Nat} {n x : Int} (hd : decode (mC M) pc = .ok (.iinc i n, 3)) (hk : lk ls i = I_ x) (hr : inR x → inR (x + n)) (hs : ps ls i (I_ (x + n)) = ls') (hnl : nl ls i = true) (k : V_ M (pc + 3) ls' st μ Q) : V_ M pc ls st μ Q := by
  subst hs
  refine V_.ofS (fun h1 h2 => ⟨okl_ps (v := I_ (x + n)) h1 (hr (okl_lk h1 hk)), h2⟩) (ps_len _ _ _) (fun {p l e R s m args below meth c H locs Q' ad lsM} hx hb hl kk => ?_) k
  obtain ⟨j, hj⟩ := List.getElem?_of_mem (lvOf_mem.mpr ⟨_, lk_get hk, rfl⟩ : (i, emb ad (I_ x)) ∈ lvOf ad ls)
  exact lv_iinc (v := Int32.ofInt (x + n)) hx hb hd hl.has hj (by rw [Int32.ofInt_add]) (lk_lt hk) rfl (fun ls2 h2 => kk ls2 (lsRel.store (x := emb _ (I_ (x + n))) rfl hnl h2))
theorem v_iadd {M : MRec} {pc : Nat} {ls st : List PV} {μ : Mem_} {Q : PV → Mem_ → Prop} {a b : Int} (hd : decode (mC M) pc = .ok (.iadd, 1)) (hr : inR a → inR b → inR (a + b)) (k : V_ M (pc + 1) ls (I_ (a + b) :: st) μ Q) : V_ M pc ls (I_ b :: I_ a :: st) μ Q :=
  V_.of (fun _ h => okl_cons (v := I_ (a + b)) (hr (okl_hd (okl_tl h)) (okl_hd h)) (okl_tl (okl_tl h))) (fun _ _ hx hb _ kk => lv_iadd hx hb hd (by rw [← Int32.ofInt_add]; exact kk)) k
theorem v_isub {M : MRec} {pc : Nat} {ls st : List PV} {μ : Mem_} {Q : PV → Mem_ → Prop} {a b : Int} (hd : decode (mC M) pc = .ok (.isub, 1)) (hr : inR a → inR b → inR (a - b)) (k : V_ M (pc + 1) ls (I_ (a - b) :: st) μ Q) : V_ M pc ls (I_ b :: I_ a :: st) μ Q :=
  V_.of (fun _ h => okl_cons (v := I_ (a - b)) (hr (okl_hd (okl_tl h)) (okl_hd h)) (okl_tl (okl_tl h))) (fun _ _ hx hb _ kk => lv_isub hx hb hd (by rw [← Int32.ofInt_sub]; exact kk)) k
theorem v_imul {M : MRec} {pc : Nat} {ls st : List PV} {μ : Mem_} {Q : PV → Mem_ → Prop} {a b : Int} (hd : decode (mC M) pc = .ok (.imul, 1)) (hr : inR a → inR b → inR (a * b)) (k : V_ M (pc + 1) ls (I_ (a * b) :: st) μ Q) : V_ M pc ls (I_ b :: I_ a :: st) μ Q :=
  V_.of (fun _ h => okl_cons (v := I_ (a * b)) (hr (okl_hd (okl_tl h)) (okl_hd h)) (okl_tl (okl_tl h))) (fun _ _ hx hb _ kk => lv_imul hx hb hd (by rw [← Int32.ofInt_mul]; exact kk)) k
def bAnd (a b : Int) : Int := (Int32.ofInt a &&& Int32.ofInt b).toInt
def bOr (a b : Int) : Int := (Int32.ofInt a ||| Int32.ofInt b).toInt
def bXor (a b : Int) : Int := (Int32.ofInt a ^^^ Int32.ofInt b).toInt
def bShl (a b : Int) : Int := (Int32.ofInt a <<< (Int32.ofInt b &&& 31)).toInt
def bShr (a b : Int) : Int := (Int32.ofInt a >>> (Int32.ofInt b &&& 31)).toInt
def w64 (a : Int) : Int := (Int64.ofInt a).toInt
def w32 (a : Int) : Int := (Int32.ofInt a).toInt
def b8 (a : Int) : Int := (Int32.ofInt a).toInt8.toInt32.toInt
theorem v_iand {M : MRec} {pc : Nat} {ls st : List PV} {μ : Mem_} {Q : PV → Mem_ → Prop} {a b : Int} (hd : decode (mC M) pc = .ok (.iand, 1)) (k : V_ M (pc + 1) ls (I_ (bAnd a b) :: st) μ Q) : V_ M pc ls (I_ b :: I_ a :: st) μ Q :=
  V_.of (fun _ h => okl_cons (v := I_ (bAnd a b)) (i32_in _) (okl_tl (okl_tl h))) (fun _ _ hx hb _ kk => lv_iand hx hb hd (by
    have e : Int32.ofInt (bAnd a b) = Int32.ofInt a &&& Int32.ofInt b := Int32.ofInt_toInt _
    rw [← e]; exact kk)) k
theorem v_ior {M : MRec} {pc : Nat} {ls st : List PV} {μ : Mem_} {Q : PV → Mem_ → Prop} {a b : Int} (hd : decode (mC M) pc = .ok (.ior, 1)) (k : V_ M (pc + 1) ls (I_ (bOr a b) :: st) μ Q) : V_ M pc ls (I_ b :: I_ a :: st) μ Q :=
  V_.of (fun _ h => okl_cons (v := I_ (bOr a b)) (i32_in _) (okl_tl (okl_tl h))) (fun _ _ hx hb _ kk => lv_ior hx hb hd (by
    have e : Int32.ofInt (bOr a b) = Int32.ofInt a ||| Int32.ofInt b := Int32.ofInt_toInt _
    rw [← e]; exact kk)) k
theorem v_ixor {M : MRec} {pc : Nat} {ls st : List PV} {μ : Mem_} {Q : PV → Mem_ → Prop} {a b : Int} (hd : decode (mC M) pc = .ok (.ixor, 1)) (k : V_ M (pc + 1) ls (I_ (bXor a b) :: st) μ Q) : V_ M pc ls (I_ b :: I_ a :: st) μ Q :=
  V_.of (fun _ h => okl_cons (v := I_ (bXor a b)) (i32_in _) (okl_tl (okl_tl h))) (fun _ _ hx hb _ kk => lv_ixor hx hb hd (by
    have e : Int32.ofInt (bXor a b) = Int32.ofInt a ^^^ Int32.ofInt b := Int32.ofInt_toInt _
    rw [← e]; exact kk)) k
theorem v_ishl {M : MRec} {pc : Nat} {ls st : List PV} {μ : Mem_} {Q : PV → Mem_ → Prop} {a b : Int} (hd : decode (mC M) pc = .ok (.ishl, 1)) (k : V_ M (pc + 1) ls (I_ (bShl a b) :: st) μ Q) : V_ M pc ls (I_ b :: I_ a :: st) μ Q :=
  V_.of (fun _ h => okl_cons (v := I_ (bShl a b)) (i32_in _) (okl_tl (okl_tl h))) (fun _ _ hx hb _ kk => lv_ishl hx hb hd (by
    have e : Int32.ofInt (bShl a b) = Int32.ofInt a <<< (Int32.ofInt b &&& 31) := Int32.ofInt_toInt _
    rw [← e]; exact kk)) k
theorem v_ishr {M : MRec} {pc : Nat} {ls st : List PV} {μ : Mem_} {Q : PV → Mem_ → Prop} {a b : Int} (hd : decode (mC M) pc = .ok (.ishr, 1)) (k : V_ M (pc + 1) ls (I_ (bShr a b) :: st) μ Q) : V_ M pc ls (I_ b :: I_ a :: st) μ Q :=
  V_.of (fun _ h => okl_cons (v := I_ (bShr a b)) (i32_in _) (okl_tl (okl_tl h))) (fun _ _ hx hb _ kk => lv_ishr hx hb hd (by
    have e : Int32.ofInt (bShr a b) = Int32.ofInt a >>> (Int32.ofInt b &&& 31) := Int32.ofInt_toInt _
    rw [← e]; exact kk)) k
theorem i32_div {a b : Int} (ha : inR a) (hb : inR b) (hb0 : 0 < b) : Int32.ofInt a / Int32.ofInt b = Int32.ofInt (a.tdiv b) ∧ inR (a.tdiv b) := by
  have e : (Int32.ofInt a / Int32.ofInt b).toInt = a.tdiv b := by
    rw [Int32.toInt_div_of_ne_right _ _ (by
      intro h
      have h2 := congrArg Int32.toInt h
      rw [i32_rt hb] at h2
      have h3 : (-1 : Int32).toInt = -1 := by decide
      omega), i32_rt ha, i32_rt hb]
  exact ⟨by rw [← e, Int32.ofInt_toInt], by rw [← e]; exact i32_in _⟩
theorem i32_rem {a b : Int} (ha : inR a) (hb : inR b) (hb0 : 0 < b) : Int32.ofInt a - Int32.ofInt a / Int32.ofInt b * Int32.ofInt b = Int32.ofInt (a.tmod b) ∧ inR (a.tmod b) := by
  have h1 := tmod_bounds (a := a) hb0
  refine ⟨?_, by omega, by omega⟩
  rw [(i32_div ha hb hb0).1, ← Int32.ofInt_mul, ← Int32.ofInt_sub, Int.tmod_def, Int.mul_comm]
theorem i32_ne0 {b : Int} (hb : inR b) (hb0 : 0 < b) : ¬ Int32.ofInt b = 0 := by
  intro q
  have h3 := congrArg Int32.toInt q
  rw [i32_rt hb] at h3
  have : (0 : Int32).toInt = 0 := by decide
  omega
theorem v_idiv {M : MRec} {pc : Nat} {ls st : List PV} {μ : Mem_} {Q : PV → Mem_ → Prop} {a b : Int} (hd : decode (mC M) pc = .ok (.idiv, 1)) (hb0 : 0 < b) (k : V_ M (pc + 1) ls (I_ (a.tdiv b) :: st) μ Q) : V_ M pc ls (I_ b :: I_ a :: st) μ Q :=
  V_.of (fun _ h => okl_cons (v := I_ (a.tdiv b)) (i32_div (okl_hd (okl_tl h)) (okl_hd h) hb0).2 (okl_tl (okl_tl h))) (fun _ h2 hx hb _ kk => lv_idiv hx hb hd (i32_ne0 (okl_hd h2) hb0) (by rw [(i32_div (okl_hd (okl_tl h2)) (okl_hd h2) hb0).1]; exact kk)) k
theorem v_irem {M : MRec} {pc : Nat} {ls st : List PV} {μ : Mem_} {Q : PV → Mem_ → Prop} {a b : Int} (hd : decode (mC M) pc = .ok (.irem, 1)) (hb0 : 0 < b) (k : V_ M (pc + 1) ls (I_ (a.tmod b) :: st) μ Q) : V_ M pc ls (I_ b :: I_ a :: st) μ Q :=
  V_.of (fun _ h => okl_cons (v := I_ (a.tmod b)) (i32_rem (okl_hd (okl_tl h)) (okl_hd h) hb0).2 (okl_tl (okl_tl h))) (fun _ h2 hx hb _ kk => lv_irem hx hb hd (i32_ne0 (okl_hd h2) hb0) (by rw [(i32_rem (okl_hd (okl_tl h2)) (okl_hd h2) hb0).1]; exact kk)) k
theorem i64_div {a b : Int} (ha : inL a) (hb : inL b) (hb0 : 0 < b) : Int64.ofInt a / Int64.ofInt b = Int64.ofInt (a.tdiv b) ∧ inL (a.tdiv b) := by
  have e : (Int64.ofInt a / Int64.ofInt b).toInt = a.tdiv b := by
    rw [Int64.toInt_div_of_ne_right _ _ (by
      intro h
      have h2 := congrArg Int64.toInt h
      rw [i64_rt hb] at h2
      have h3 : (-1 : Int64).toInt = -1 := by decide
      omega), i64_rt ha, i64_rt hb]
  exact ⟨by rw [← e, Int64.ofInt_toInt], by rw [← e]; exact i64_in _⟩
theorem i64_rem {a b : Int} (ha : inL a) (hb : inL b) (hb0 : 0 < b) : Int64.ofInt a - Int64.ofInt a / Int64.ofInt b * Int64.ofInt b = Int64.ofInt (a.tmod b) ∧ inL (a.tmod b) := by
  have h1 := tmod_bounds (a := a) hb0
  refine ⟨?_, by omega, by omega⟩
  rw [(i64_div ha hb hb0).1, ← Int64.ofInt_mul, ← Int64.ofInt_sub, Int.tmod_def, Int.mul_comm]
theorem i64_ne0 {b : Int} (hb : inL b) (hb0 : 0 < b) : ¬ Int64.ofInt b = 0 := by
  intro q
  have h3 := congrArg Int64.toInt q
  rw [i64_rt hb] at h3
  have : (0 : Int64).toInt = 0 := by decide
  omega
theorem v_ldiv {M : MRec} {pc : Nat} {ls st : List PV} {μ : Mem_} {Q : PV → Mem_ → Prop} {a b : Int} (hd : decode (mC M) pc = .ok (.ldiv, 1)) (hb0 : 0 < b) (k : V_ M (pc + 1) ls (L_ (a.tdiv b) :: st) μ Q) : V_ M pc ls (L_ b :: L_ a :: st) μ Q :=
  V_.of (fun _ h => okl_cons (v := L_ (a.tdiv b)) (i64_div (okl_hd (okl_tl h)) (okl_hd h) hb0).2 (okl_tl (okl_tl h))) (fun _ h2 hx hb _ kk => lv_ldiv hx hb hd (i64_ne0 (okl_hd h2) hb0) (by rw [(i64_div (okl_hd (okl_tl h2)) (okl_hd h2) hb0).1]; exact kk)) k
theorem v_lrem {M : MRec} {pc : Nat} {ls st : List PV} {μ : Mem_} {Q : PV → Mem_ → Prop} {a b : Int} (hd : decode (mC M) pc = .ok (.lrem, 1)) (hb0 : 0 < b) (k : V_ M (pc + 1) ls (L_ (a.tmod b) :: st) μ Q) : V_ M pc ls (L_ b :: L_ a :: st) μ Q :=
  V_.of (fun _ h => okl_cons (v := L_ (a.tmod b)) (i64_rem (okl_hd (okl_tl h)) (okl_hd h) hb0).2 (okl_tl (okl_tl h))) (fun _ h2 hx hb _ kk => lv_lrem hx hb hd (i64_ne0 (okl_hd h2) hb0) (by rw [(i64_rem (okl_hd (okl_tl h2)) (okl_hd h2) hb0).1]; exact kk)) k
theorem v_ladd {M : MRec} {pc : Nat} {ls st : List PV} {μ : Mem_} {Q : PV → Mem_ → Prop} {a b : Int} (hd : decode (mC M) pc = .ok (.ladd, 1)) (k : V_ M (pc + 1) ls (L_ (w64 (a + b)) :: st) μ Q) : V_ M pc ls (L_ b :: L_ a :: st) μ Q :=
  V_.of (fun _ h => okl_cons (v := L_ (w64 (a + b))) (i64_in _) (okl_tl (okl_tl h))) (fun _ _ hx hb _ kk => lv_ladd hx hb hd (by
    have e : Int64.ofInt (w64 (a + b)) = Int64.ofInt a + Int64.ofInt b := by unfold w64; rw [Int64.ofInt_toInt, Int64.ofInt_add]
    rw [← e]; exact kk)) k
theorem v_lsub {M : MRec} {pc : Nat} {ls st : List PV} {μ : Mem_} {Q : PV → Mem_ → Prop} {a b : Int} (hd : decode (mC M) pc = .ok (.lsub, 1)) (k : V_ M (pc + 1) ls (L_ (w64 (a - b)) :: st) μ Q) : V_ M pc ls (L_ b :: L_ a :: st) μ Q :=
  V_.of (fun _ h => okl_cons (v := L_ (w64 (a - b))) (i64_in _) (okl_tl (okl_tl h))) (fun _ _ hx hb _ kk => lv_lsub hx hb hd (by
    have e : Int64.ofInt (w64 (a - b)) = Int64.ofInt a - Int64.ofInt b := by unfold w64; rw [Int64.ofInt_toInt, Int64.ofInt_sub]
    rw [← e]; exact kk)) k
theorem v_lmul {M : MRec} {pc : Nat} {ls st : List PV} {μ : Mem_} {Q : PV → Mem_ → Prop} {a b : Int} (hd : decode (mC M) pc = .ok (.lmul, 1)) (k : V_ M (pc + 1) ls (L_ (w64 (a * b)) :: st) μ Q) : V_ M pc ls (L_ b :: L_ a :: st) μ Q :=
  V_.of (fun _ h => okl_cons (v := L_ (w64 (a * b))) (i64_in _) (okl_tl (okl_tl h))) (fun _ _ hx hb _ kk => lv_lmul hx hb hd (by
    have e : Int64.ofInt (w64 (a * b)) = Int64.ofInt a * Int64.ofInt b := by unfold w64; rw [Int64.ofInt_toInt, Int64.ofInt_mul]
    rw [← e]; exact kk)) k
theorem v_i2l {M : MRec} {pc : Nat} {ls st : List PV} {μ : Mem_} {Q : PV → Mem_ → Prop} {a : Int} (hd : decode (mC M) pc = .ok (.i2l, 1)) (k : V_ M (pc + 1) ls (L_ a :: st) μ Q) : V_ M pc ls (I_ a :: st) μ Q :=
  V_.of (fun _ h => okl_cons (v := L_ a) (by have := okl_hd h; simp only [okv] at this ⊢; omega) (okl_tl h)) (fun _ h2 hx hb _ kk => lv_i2l (v := Int64.ofInt a) hx hb hd (by
    have h3 : inR a := okl_hd h2
    apply Int64.toInt_inj.mp
    rw [Int32.toInt_toInt64, i32_rt h3, i64_rt (by omega)]) kk) k
theorem v_l2i {M : MRec} {pc : Nat} {ls st : List PV} {μ : Mem_} {Q : PV → Mem_ → Prop} {a : Int} (hd : decode (mC M) pc = .ok (.l2i, 1)) (k : V_ M (pc + 1) ls (I_ (w32 a) :: st) μ Q) : V_ M pc ls (L_ a :: st) μ Q :=
  V_.of (fun _ h => okl_cons (v := I_ (w32 a)) (i32_in _) (okl_tl h)) (fun _ h2 hx hb _ kk => lv_l2i (v := Int32.ofInt (w32 a)) hx hb hd (by
    have h3 : inL a := okl_hd h2
    unfold w32
    rw [Int32.ofInt_toInt]
    apply Int32.toInt_inj.mp
    rw [Int64.toInt_toInt32, i64_rt h3, Int32.toInt_ofInt]) kk) k
theorem v_i2b {M : MRec} {pc : Nat} {ls st : List PV} {μ : Mem_} {Q : PV → Mem_ → Prop} {a : Int} (hd : decode (mC M) pc = .ok (.i2b, 1)) (k : V_ M (pc + 1) ls (I_ (b8 a) :: st) μ Q) : V_ M pc ls (I_ a :: st) μ Q :=
  V_.of (fun _ h => okl_cons (v := I_ (b8 a)) (i32_in _) (okl_tl h)) (fun _ h2 hx hb _ kk => lv_i2b (v := Int32.ofInt (b8 a)) hx hb hd (by unfold b8; rw [Int32.ofInt_toInt]) kk) k
def cmpI (a b : Int) : Int := if a < b then -1 else if a = b then 0 else 1
theorem cmpI_in (a b : Int) : inR (cmpI a b) := by unfold cmpI; split <;> (try split) <;> decide
theorem v_lcmp {M : MRec} {pc : Nat} {ls st : List PV} {μ : Mem_} {Q : PV → Mem_ → Prop} {a b : Int} (hd : decode (mC M) pc = .ok (.lcmp, 1)) (k : V_ M (pc + 1) ls (I_ (cmpI a b) :: st) μ Q) : V_ M pc ls (L_ b :: L_ a :: st) μ Q :=
  V_.of (fun _ h => okl_cons (v := I_ (cmpI a b)) (cmpI_in _ _) (okl_tl (okl_tl h))) (fun _ h2 hx hb _ kk => W.lcmp hx hb hd (by
    have ha : inL a := okl_hd (okl_tl h2)
    have hb : inL b := okl_hd h2
    have e : lg_cmp (Int64.ofInt a) (Int64.ofInt b) = Int32.ofInt (cmpI a b) := by
      unfold lg_cmp cmpI
      have e1 : (Int64.ofInt a < Int64.ofInt b) ↔ a < b := by rw [Int64.lt_iff_toInt_lt, i64_rt ha, i64_rt hb]
      have e2 : (Int64.ofInt a = Int64.ofInt b) ↔ a = b := by rw [← Int64.toInt_inj, i64_rt ha, i64_rt hb]
      have e3 : (Int64.ofInt b < Int64.ofInt a) ↔ b < a := by rw [Int64.lt_iff_toInt_lt, i64_rt ha, i64_rt hb]
      by_cases h1 : a < b
      · have h5 : ¬ b < a := by omega
        have h6 : ¬ a = b := by omega
        simp [e1, e2, e3, h1, h5, h6]
      · by_cases h2 : a = b
        · subst h2; simp
        · have h4 : b < a := by omega
          simp [e1, e2, e3, h1, h2, h4]
    rw [e]; exact kk)) k
theorem v_dupI_ {M : MRec} {pc : Nat} {ls st : List PV} {μ : Mem_} {Q : PV → Mem_ → Prop} {x : Int} (hd : decode (mC M) pc = .ok (.dup, 1)) (k : V_ M (pc + 1) ls (I_ x :: I_ x :: st) μ Q) : V_ M pc ls (I_ x :: st) μ Q :=
  V_.of (fun _ h => okl_cons (v := I_ x) (okl_hd h) h) (fun _ _ hx hb _ kk => lv_dup hx hb hd rfl kk) k
theorem v_dupR_ {M : MRec} {pc : Nat} {ls st : List PV} {μ : Mem_} {Q : PV → Mem_ → Prop} {x : Nat} (hd : decode (mC M) pc = .ok (.dup, 1)) (k : V_ M (pc + 1) ls (R_ x :: R_ x :: st) μ Q) : V_ M pc ls (R_ x :: st) μ Q :=
  V_.of (fun _ h => okl_cons (v := R_ x) (okl_hd h) h) (fun _ _ hx hb _ kk => lv_dup hx hb hd rfl kk) k
theorem v_pop {M : MRec} {pc : Nat} {ls st : List PV} {μ : Mem_} {Q : PV → Mem_ → Prop} {x : Int} (hd : decode (mC M) pc = .ok (.pop, 1)) (k : V_ M (pc + 1) ls st μ Q) : V_ M pc ls (I_ x :: st) μ Q :=
  V_.of (fun _ h => okl_tl h) (fun _ _ hx hb _ kk => lv_pop hx hb hd rfl kk) k
theorem v_dup2 {M : MRec} {pc : Nat} {ls st : List PV} {μ : Mem_} {Q : PV → Mem_ → Prop} {i : Int} {r : Nat} (hd : decode (mC M) pc = .ok (.dup2, 1)) (k : V_ M (pc + 1) ls (I_ i :: R_ r :: I_ i :: R_ r :: st) μ Q) : V_ M pc ls (I_ i :: R_ r :: st) μ Q :=
  V_.of (fun _ h => okl_cons (v := I_ i) (okl_hd h) (okl_cons (v := R_ r) trivial h)) (fun _ _ hx hb _ kk => lv_dup2_11 hx hb hd rfl rfl kk) k
theorem v_goto {M : MRec} {pc : Nat} {ls st : List PV} {μ : Mem_} {Q : PV → Mem_ → Prop} {off : Int} {tgt : Nat} (hd : decode (mC M) pc = .ok (.goto off, 3)) (ht : (pc : Int) + off = (tgt : Int)) (k : V_ M tgt ls st μ Q) : V_ M pc ls st μ Q :=
  V_.of (fun _ h => h) (fun _ _ hx hb _ kk => lv_goto hx hb hd ht kk) k
theorem v_if_eq {M : MRec} {pc : Nat} {ls st : List PV} {μ : Mem_} {Q : PV → Mem_ → Prop} {a : Int} {off : Int} {tgt : Nat} (hd : decode (mC M) pc = .ok (.ifCond .eq off, 3)) (ht : (pc : Int) + off = (tgt : Int)) (k1 : a = 0 → V_ M tgt ls st μ Q) (k2 : ¬ (a = 0) → V_ M (pc + 3) ls st μ Q) : V_ M pc ls (I_ a :: st) μ Q :=
  V_.of2 (C := a = 0) (fun h => okl_tl h) (fun h2 hx hb k1 k2 => by
    have e : (Int32.ofInt a = 0) ↔ a = 0 := by rw [i32_0, i32_eq (okl_hd h2) in0]
    exact lv_if_eq hx hb hd ht (fun q => k1 (e.mp q)) (fun q => k2 (fun z => q (e.mpr z)))) k1 k2
theorem v_if_ne {M : MRec} {pc : Nat} {ls st : List PV} {μ : Mem_} {Q : PV → Mem_ → Prop} {a : Int} {off : Int} {tgt : Nat} (hd : decode (mC M) pc = .ok (.ifCond .ne off, 3)) (ht : (pc : Int) + off = (tgt : Int)) (k1 : ¬ a = 0 → V_ M tgt ls st μ Q) (k2 : ¬ (¬ a = 0) → V_ M (pc + 3) ls st μ Q) : V_ M pc ls (I_ a :: st) μ Q :=
  V_.of2 (C := ¬ a = 0) (fun h => okl_tl h) (fun h2 hx hb k1 k2 => by
    have e : (¬ Int32.ofInt a = 0) ↔ ¬ a = 0 := by rw [i32_0, i32_eq (okl_hd h2) in0]
    exact lv_if_ne hx hb hd ht (fun q => k1 (e.mp q)) (fun q => k2 (fun z => (e.mpr z) q))) k1 k2
theorem v_if_lt {M : MRec} {pc : Nat} {ls st : List PV} {μ : Mem_} {Q : PV → Mem_ → Prop} {a : Int} {off : Int} {tgt : Nat} (hd : decode (mC M) pc = .ok (.ifCond .lt off, 3)) (ht : (pc : Int) + off = (tgt : Int)) (k1 : a < 0 → V_ M tgt ls st μ Q) (k2 : ¬ (a < 0) → V_ M (pc + 3) ls st μ Q) : V_ M pc ls (I_ a :: st) μ Q :=
  V_.of2 (C := a < 0) (fun h => okl_tl h) (fun h2 hx hb k1 k2 => by
    have e : (Int32.ofInt a < 0) ↔ a < 0 := by rw [i32_0, i32_lt (okl_hd h2) in0]
    exact lv_if_lt hx hb hd ht (fun q => k1 (e.mp q)) (fun q => k2 (fun z => q (e.mpr z)))) k1 k2
theorem v_if_ge {M : MRec} {pc : Nat} {ls st : List PV} {μ : Mem_} {Q : PV → Mem_ → Prop} {a : Int} {off : Int} {tgt : Nat} (hd : decode (mC M) pc = .ok (.ifCond .ge off, 3)) (ht : (pc : Int) + off = (tgt : Int)) (k1 : 0 ≤ a → V_ M tgt ls st μ Q) (k2 : ¬ (0 ≤ a) → V_ M (pc + 3) ls st μ Q) : V_ M pc ls (I_ a :: st) μ Q :=
  V_.of2 (C := 0 ≤ a) (fun h => okl_tl h) (fun h2 hx hb k1 k2 => by
    have e : (0 ≤ Int32.ofInt a) ↔ 0 ≤ a := by rw [i32_0, i32_le in0 (okl_hd h2)]
    exact lv_if_ge hx hb hd ht (fun q => k1 (e.mp q)) (fun q => k2 (fun z => q (e.mpr z)))) k1 k2
theorem v_if_gt {M : MRec} {pc : Nat} {ls st : List PV} {μ : Mem_} {Q : PV → Mem_ → Prop} {a : Int} {off : Int} {tgt : Nat} (hd : decode (mC M) pc = .ok (.ifCond .gt off, 3)) (ht : (pc : Int) + off = (tgt : Int)) (k1 : 0 < a → V_ M tgt ls st μ Q) (k2 : ¬ (0 < a) → V_ M (pc + 3) ls st μ Q) : V_ M pc ls (I_ a :: st) μ Q :=
  V_.of2 (C := 0 < a) (fun h => okl_tl h) (fun h2 hx hb k1 k2 => by
    have e : (0 < Int32.ofInt a) ↔ 0 < a := by rw [i32_0, i32_lt in0 (okl_hd h2)]
    exact lv_if_gt hx hb hd ht (fun q => k1 (e.mp q)) (fun q => k2 (fun z => q (e.mpr z)))) k1 k2
theorem v_if_le {M : MRec} {pc : Nat} {ls st : List PV} {μ : Mem_} {Q : PV → Mem_ → Prop} {a : Int} {off : Int} {tgt : Nat} (hd : decode (mC M) pc = .ok (.ifCond .le off, 3)) (ht : (pc : Int) + off = (tgt : Int)) (k1 : a ≤ 0 → V_ M tgt ls st μ Q) (k2 : ¬ (a ≤ 0) → V_ M (pc + 3) ls st μ Q) : V_ M pc ls (I_ a :: st) μ Q :=
  V_.of2 (C := a ≤ 0) (fun h => okl_tl h) (fun h2 hx hb k1 k2 => by
    have e : (Int32.ofInt a ≤ 0) ↔ a ≤ 0 := by rw [i32_0, i32_le (okl_hd h2) in0]
    exact lv_if_le hx hb hd ht (fun q => k1 (e.mp q)) (fun q => k2 (fun z => q (e.mpr z)))) k1 k2
theorem v_icmp_eq {M : MRec} {pc : Nat} {ls st : List PV} {μ : Mem_} {Q : PV → Mem_ → Prop} {a b : Int} {off : Int} {tgt : Nat} (hd : decode (mC M) pc = .ok (.if_icmp .eq off, 3)) (ht : (pc : Int) + off = (tgt : Int)) (k1 : a = b → V_ M tgt ls st μ Q) (k2 : ¬ (a = b) → V_ M (pc + 3) ls st μ Q) : V_ M pc ls (I_ b :: I_ a :: st) μ Q :=
  V_.of2 (C := a = b) (fun h => okl_tl (okl_tl h)) (fun h2 hx hb k1 k2 => by
    have e : (Int32.ofInt a = Int32.ofInt b) ↔ a = b := by rw [i32_eq (okl_hd (okl_tl h2)) (okl_hd h2)]
    exact lv_icmp_eq hx hb hd ht (fun q => k1 (e.mp q)) (fun q => k2 (fun z => q (e.mpr z)))) k1 k2
theorem v_icmp_ne {M : MRec} {pc : Nat} {ls st : List PV} {μ : Mem_} {Q : PV → Mem_ → Prop} {a b : Int} {off : Int} {tgt : Nat} (hd : decode (mC M) pc = .ok (.if_icmp .ne off, 3)) (ht : (pc : Int) + off = (tgt : Int)) (k1 : ¬ a = b → V_ M tgt ls st μ Q) (k2 : ¬ (¬ a = b) → V_ M (pc + 3) ls st μ Q) : V_ M pc ls (I_ b :: I_ a :: st) μ Q :=
  V_.of2 (C := ¬ a = b) (fun h => okl_tl (okl_tl h)) (fun h2 hx hb k1 k2 => by
    have e : (¬ Int32.ofInt a = Int32.ofInt b) ↔ ¬ a = b := by rw [i32_eq (okl_hd (okl_tl h2)) (okl_hd h2)]
    exact lv_icmp_ne hx hb hd ht (fun q => k1 (e.mp q)) (fun q => k2 (fun z => (e.mpr z) q))) k1 k2
theorem v_icmp_lt {M : MRec} {pc : Nat} {ls st : List PV} {μ : Mem_} {Q : PV → Mem_ → Prop} {a b : Int} {off : Int} {tgt : Nat} (hd : decode (mC M) pc = .ok (.if_icmp .lt off, 3)) (ht : (pc : Int) + off = (tgt : Int)) (k1 : a < b → V_ M tgt ls st μ Q) (k2 : ¬ (a < b) → V_ M (pc + 3) ls st μ Q) : V_ M pc ls (I_ b :: I_ a :: st) μ Q :=
  V_.of2 (C := a < b) (fun h => okl_tl (okl_tl h)) (fun h2 hx hb k1 k2 => by
    have e : (Int32.ofInt a < Int32.ofInt b) ↔ a < b := by rw [i32_lt (okl_hd (okl_tl h2)) (okl_hd h2)]
    exact lv_icmp_lt hx hb hd ht (fun q => k1 (e.mp q)) (fun q => k2 (fun z => q (e.mpr z)))) k1 k2
theorem v_icmp_ge {M : MRec} {pc : Nat} {ls st : List PV} {μ : Mem_} {Q : PV → Mem_ → Prop} {a b : Int} {off : Int} {tgt : Nat} (hd : decode (mC M) pc = .ok (.if_icmp .ge off, 3)) (ht : (pc : Int) + off = (tgt : Int)) (k1 : b ≤ a → V_ M tgt ls st μ Q) (k2 : ¬ (b ≤ a) → V_ M (pc + 3) ls st μ Q) : V_ M pc ls (I_ b :: I_ a :: st) μ Q :=
  V_.of2 (C := b ≤ a) (fun h => okl_tl (okl_tl h)) (fun h2 hx hb k1 k2 => by
    have e : (Int32.ofInt b ≤ Int32.ofInt a) ↔ b ≤ a := by rw [i32_le (okl_hd h2) (okl_hd (okl_tl h2))]
    exact lv_icmp_ge hx hb hd ht (fun q => k1 (e.mp q)) (fun q => k2 (fun z => q (e.mpr z)))) k1 k2
theorem v_icmp_gt {M : MRec} {pc : Nat} {ls st : List PV} {μ : Mem_} {Q : PV → Mem_ → Prop} {a b : Int} {off : Int} {tgt : Nat} (hd : decode (mC M) pc = .ok (.if_icmp .gt off, 3)) (ht : (pc : Int) + off = (tgt : Int)) (k1 : b < a → V_ M tgt ls st μ Q) (k2 : ¬ (b < a) → V_ M (pc + 3) ls st μ Q) : V_ M pc ls (I_ b :: I_ a :: st) μ Q :=
  V_.of2 (C := b < a) (fun h => okl_tl (okl_tl h)) (fun h2 hx hb k1 k2 => by
    have e : (Int32.ofInt b < Int32.ofInt a) ↔ b < a := by rw [i32_lt (okl_hd h2) (okl_hd (okl_tl h2))]
    exact lv_icmp_gt hx hb hd ht (fun q => k1 (e.mp q)) (fun q => k2 (fun z => q (e.mpr z)))) k1 k2
theorem v_icmp_le {M : MRec} {pc : Nat} {ls st : List PV} {μ : Mem_} {Q : PV → Mem_ → Prop} {a b : Int} {off : Int} {tgt : Nat} (hd : decode (mC M) pc = .ok (.if_icmp .le off, 3)) (ht : (pc : Int) + off = (tgt : Int)) (k1 : a ≤ b → V_ M tgt ls st μ Q) (k2 : ¬ (a ≤ b) → V_ M (pc + 3) ls st μ Q) : V_ M pc ls (I_ b :: I_ a :: st) μ Q :=
  V_.of2 (C := a ≤ b) (fun h => okl_tl (okl_tl h)) (fun h2 hx hb k1 k2 => by
    have e : (Int32.ofInt a ≤ Int32.ofInt b) ↔ a ≤ b := by rw [i32_le (okl_hd (okl_tl h2)) (okl_hd h2)]
    exact lv_icmp_le hx hb hd ht (fun q => k1 (e.mp q)) (fun q => k2 (fun z => q (e.mpr z)))) k1 k2
theorem v_tableOut {M : MRec} {pc : Nat} {ls st : List PV} {μ : Mem_} {Q : PV → Mem_ → Prop} {a : Int} {dflt lo hi : Int} {offs : Array Int} {len : Nat} {tgt : Nat} (hd : decode (mC M) pc = .ok (.tableswitch dflt lo hi offs, len)) (h : a < lo ∨ hi < a) (ht : (pc : Int) + dflt = (tgt : Int)) (k : V_ M tgt ls st μ Q) : V_ M pc ls (I_ a :: st) μ Q :=
  V_.of (fun _ h => okl_tl h) (fun _ h2 hx hb _ kk => lv_tableOut hx hb hd (by rw [i32_rt (okl_hd h2)]; exact h) ht kk) k
theorem v_tableIn {M : MRec} {pc : Nat} {ls st : List PV} {μ : Mem_} {Q : PV → Mem_ → Prop} {a : Int} {dflt lo hi : Int} {offs : Array Int} {len : Nat} {off : Int} {tgt : Nat} (hd : decode (mC M) pc = .ok (.tableswitch dflt lo hi offs, len)) (h1 : ¬ a < lo) (h2 : ¬ hi < a) (ho : offs[(a - lo).toNat]? = some off) (ht : (pc : Int) + off = (tgt : Int)) (k : V_ M tgt ls st μ Q) : V_ M pc ls (I_ a :: st) μ Q :=
  V_.of (fun _ h => okl_tl h) (fun _ h3 hx hb _ kk => lv_tableIn hx hb hd (by rw [i32_rt (okl_hd h3)]; exact h1) (by rw [i32_rt (okl_hd h3)]; exact h2) (by rw [i32_rt (okl_hd h3)]; exact ho) ht kk) k
theorem v_lookup {M : MRec} {pc : Nat} {ls st : List PV} {μ : Mem_} {Q : PV → Mem_ → Prop} {a : Int} {dflt : Int} {pp : Array (Int × Int)} {len : Nat} {off : Int} {tgt : Nat} (hd : decode (mC M) pc = .ok (.lookupswitch dflt pp, len)) (hp : (pp.toList.zip (pp.toList.drop 1)).all (fun (a, next) => a.1 < next.1) = true) (ho : Op.lookupswitch.offset pp.toList dflt a = off) (ht : (pc : Int) + off = (tgt : Int)) (k : V_ M tgt ls st μ Q) : V_ M pc ls (I_ a :: st) μ Q :=
  V_.of (fun _ h => okl_tl h) (fun _ h3 hx hb _ kk => lv_lookup hx hb hd hp (by rw [i32_rt (okl_hd h3)]; exact ho) ht kk) k
