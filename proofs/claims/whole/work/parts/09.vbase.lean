/-! the pure layer: values, memory, the world that a memory stands for, the judgement V_ -/
abbrev PV : Type := Option (Int ⊕ (Int ⊕ Nat))
abbrev I_ (x : Int) : PV := some (.inl x)
abbrev L_ (x : Int) : PV := some (.inr (.inl x))
abbrev R_ (o : Nat) : PV := some (.inr (.inr o))
abbrev U_ : PV := none
abbrev Mem_ : Type := Nat → Nat → Int
abbrev inR (x : Int) : Prop := -2147483648 ≤ x ∧ x < 2147483648
abbrev inL (x : Int) : Prop := -9223372036854775808 ≤ x ∧ x < 9223372036854775808
def okv : PV → Prop
  | some (.inl x) => inR x
  | some (.inr (.inl x)) => inL x
  | _ => True
def okl (l : List PV) : Prop := ∀ v ∈ l, okv v
def shp (o : Nat) : Nat × Nat := shpL.getD o (99, 0)
def fk (o k : Nat) : Nat := (fkL.getD o []).getD k 0
def okM (μ : Mem_) : Prop := ∀ o k, (fk o k = 1 → inL (μ o k)) ∧ (fk o k ≠ 1 → inR (μ o k))
def mset (μ : Mem_) (o k : Nat) (x : Int) : Mem_ := fun a b => if a = o ∧ b = k then x else μ a b
def emb (ad : Nat → Nat) : PV → Value
  | some (.inl x) => .int (Int32.ofInt x)
  | some (.inr (.inl x)) => .long (Int64.ofInt x)
  | some (.inr (.inr o)) => .ref (ad o)
  | none => .null
def pvf (o k : Nat) (μ : Mem_) : PV := match fk o k with
  | 0 => I_ (μ o k)
  | 1 => L_ (μ o k)
  | 2 => R_ (μ o k).toNat
  | f + 3 => if f < 997 then R_ f else I_ ((f : Int) - 997)
def cellE (ad : Nat → Nat) (cI cB : ClassId) (μ : Mem_) (o : Nat) : va_E :=
  if (shp o).1 = 9 then .inl (cI, (shp o).2, .inl (fun i => Int32.ofInt (μ o i)))
  else if (shp o).1 = 10 then .inl (cB, (shp o).2, .inl (fun i => Int32.ofInt (μ o i)))
  else .inr ((shp o).1, (List.range (shp o).2).map (fun k => emb ad (pvf o k μ)))
def wo (ad : Nat → Nat) (cI cB : ClassId) (μ : Mem_) : va_W := (List.range NC_).map (fun o => (ad o, cellE ad cI cB μ o))
def Aw (ad : Nat → Nat) : Nat → Prop := fun q => ∃ o, o < NC_ ∧ q = ad o
def Bw (ad : Nat → Nat) (D : va_G) (cI cB : ClassId) (u : Mem_) (t : State) : Prop := okM u ∧ va_P D vwCl (wo ad cI cB u) t.heap
def QcV (T : Option FieldType) (ad : Nat → Nat) (D : va_G) (cI cB : ClassId) (Q : PV → Mem_ → Prop) : Array Value → State → Outcome → State → Prop := match T with
  | none => va_Qv (S := Mem_) (fun u => Q U_ u) (Bw ad D cI cB) (Aw ad)
  | some .long => va_Ql (S := Mem_) (fun r u => Q (L_ r.toInt) u) (Bw ad D cI cB) (Aw ad)
  | some _ => va_Qi (S := Mem_) (fun r u => Q (I_ r.toInt) u) (Bw ad D cI cB) (Aw ad)
def lsRel (ad : Nat → Nat) (lsM : Array Slot) (ls : List PV) : Prop := lsM.size = ls.length ∧ lv_wf lsM ∧ ∀ (k : Nat) (v : Int ⊕ (Int ⊕ Nat)), ls[k]? = some (some v) → lsM[k]? = some (.val (emb ad (some v)))
abbrev rmM (M : MRec) : Room := { frames := mF M, cells := 0, slots := 0, locals := mO M }
def Kx (M : MRec) (μ : Mem_) (ls : List PV) (p : Program) (s : State) (m : MethodId) (args : Array Value) (meth : Method) (c : Code) (ad : Nat → Nat) (D : va_G) (cI cB : ClassId) (H : Heap) (locs : List Loc) (lsM : Array Slot) : Prop :=
  (p.tables.exec = Jvm.exec ∧ c.code = mC M ∧ meth.sig.returnType = mT M ∧ c.maxLocals = mL M ∧ s.vm.findClass (mY M).cls = some m.cls ∧ (∀ w ∈ gt_, w.before args s = true) ∧ meth.locks = false) ∧
  ((∀ i j, i < NC_ → j < NC_ → ad i = ad j → i = j) ∧ va_K D vwCl [(cI, .int), (cB, .byte)] s ∧ (∀ w ∈ nw_, va_Nw w s)) ∧
  va_P D vwCl (wo ad cI cB μ) H ∧ va_S (Aw ad) s.heap H locs ∧ lsRel ad lsM ls
/-- from pc on, with these locals, this stack and this memory, the method comes to its end with Q of its answer and memory -/
def V_ (M : MRec) (pc : Nat) (ls st : List PV) (μ : Mem_) (Q : PV → Mem_ → Prop) : Prop :=
  okl ls → okl st → okM μ → ls.length = mL M →
  ∀ (p : Program) (l : Launch) (e : Env) (s : State) (m : MethodId) (args : Array Value) (below : List Frame) (meth : Method) (c : Code) (ad : Nat → Nat) (D : va_G) (cI cB : ClassId) (H : Heap) (locs : List Loc) (lsM : Array Slot),
    Kx M μ ls p s m args meth c ad D cI cB H locs lsM →
    W p l e (rmM M) s m args below meth c H locs 0 0 (MQ below (QcV (mT M) ad D cI cB Q) args s 0 0 (Aw ad)) (F0 m pc lsM (st.map (emb ad)))
theorem shp_lt {o c n : Nat} (h : shp o = (c, n)) (hc : c ≠ 99) : o < NC_ := by
  by_cases ho : o < NC_
  · exact ho
  · exfalso
    have : shp o = (99, 0) := by
      unfold shp
      have h1 : shpL.length = NC_ := by decide
      have h2 : shpL[o]? = none := List.getElem?_eq_none (by omega)
      rw [List.getD_eq_getElem?_getD, h2]
      rfl
    rw [this] at h
    exact hc (by simpa using (congrArg Prod.fst h).symm)
theorem wo_at {ad : Nat → Nat} {cI cB : ClassId} {μ : Mem_} {o : Nat} (ho : o < NC_) : (wo ad cI cB μ)[o]? = some (ad o, cellE ad cI cB μ o) := by
  simp [wo, ho]
theorem wo_D {ad : Nat → Nat} {cI cB : ClassId} (μ : Mem_) (h : ∀ i j, i < NC_ → j < NC_ → ad i = ad j → i = j) : va_D (Aw ad) (wo ad cI cB μ) := by
  have key : ∀ (i : Nat) (p : Nat × va_E), (wo ad cI cB μ)[i]? = some p → i < NC_ ∧ p.1 = ad i := by
    intro i p hp
    have hl : i < NC_ := by
      have := (List.getElem?_eq_some_iff.mp hp).1
      simpa [wo] using this
    rw [wo_at hl] at hp
    cases hp
    exact ⟨hl, rfl⟩
  refine ⟨fun i j p q hp hq he => ?_, fun k q hq => ?_⟩
  · obtain ⟨h1, e1⟩ := key i p hp
    obtain ⟨h2, e2⟩ := key j q hq
    exact h i j h1 h2 (by rw [← e1, ← e2, he])
  · obtain ⟨h1, e1⟩ := key k q hq
    exact ⟨k, h1, e1⟩
theorem wo_set {ad : Nat → Nat} {cI cB : ClassId} {μ μ' : Mem_} {o : Nat} {e : va_E} (h1 : cellE ad cI cB μ' o = e) (h2 : ∀ o', o' ≠ o → cellE ad cI cB μ' o' = cellE ad cI cB μ o') : (wo ad cI cB μ).set o (ad o, e) = wo ad cI cB μ' := by
  apply List.ext_getElem?
  intro i
  rw [List.getElem?_set]
  by_cases hi : i < NC_
  · by_cases hio : o = i
    · subst hio
      rw [if_pos rfl, wo_at hi, h1]
      have : o < (wo ad cI cB μ).length := by simpa [wo] using hi
      rw [if_pos this]
    · rw [if_neg hio, wo_at hi, wo_at hi, h2 i (fun h => hio h.symm)]
  · have l1 : (wo ad cI cB μ).length = NC_ := by simp [wo]
    have l2 : (wo ad cI cB μ').length = NC_ := by simp [wo]
    have e1 : (wo ad cI cB μ')[i]? = none := List.getElem?_eq_none (by omega)
    have e2 : (wo ad cI cB μ)[i]? = none := List.getElem?_eq_none (by omega)
    rw [e1, e2, l1]
    by_cases hio : o = i
    · rw [if_pos hio, if_neg (by omega)]
    · rw [if_neg hio]
theorem mset_same (μ : Mem_) (o k : Nat) (x : Int) : mset μ o k x o k = x := by simp [mset]
theorem mset_off {μ : Mem_} {o k a b : Nat} {x : Int} (h : ¬ (a = o ∧ b = k)) : mset μ o k x a b = μ a b := by simp [mset, h]
theorem okM_set {μ : Mem_} (h : okM μ) {o k : Nat} {x : Int} (h1 : fk o k = 1 → inL x) (h2 : fk o k ≠ 1 → inR x) : okM (mset μ o k x) := by
  intro a b
  by_cases hab : a = o ∧ b = k
  · obtain ⟨rfl, rfl⟩ := hab
    rw [mset_same]
    exact ⟨h1, h2⟩
  · rw [mset_off hab]
    exact h a b
theorem cellE_arr {ad : Nat → Nat} {cI cB : ClassId} {μ : Mem_} {o n : Nat} (h : shp o = (9, n)) : cellE ad cI cB μ o = .inl (cI, n, .inl (fun i => Int32.ofInt (μ o i))) := by simp [cellE, h]
theorem cellE_byt {ad : Nat → Nat} {cI cB : ClassId} {μ : Mem_} {o n : Nat} (h : shp o = (10, n)) : cellE ad cI cB μ o = .inl (cB, n, .inl (fun i => Int32.ofInt (μ o i))) := by simp [cellE, h]
theorem cellE_obj {ad : Nat → Nat} {cI cB : ClassId} {μ : Mem_} {o c n : Nat} (h : shp o = (c, n)) (h9 : c < 9) : cellE ad cI cB μ o = .inr (c, (List.range n).map (fun k => emb ad (pvf o k μ))) := by
  have h1 : c ≠ 9 := by omega
  have h2 : c ≠ 10 := by omega
  simp [cellE, h, h1, h2]
theorem pvf_off {μ : Mem_} {o k a b : Nat} {x : Int} (h : ¬ (a = o ∧ b = k)) : pvf a b (mset μ o k x) = pvf a b μ := by
  unfold pvf
  rw [mset_off h]
theorem cellE_off {ad : Nat → Nat} {cI cB : ClassId} {μ : Mem_} {o k a : Nat} {x : Int} (h : a ≠ o) : cellE ad cI cB (mset μ o k x) a = cellE ad cI cB μ a := by
  have e1 : (fun i => Int32.ofInt (mset μ o k x a i)) = (fun i => Int32.ofInt (μ a i)) := by
    funext i
    rw [mset_off (fun q => h q.1)]
  have e2 : (fun b => emb ad (pvf a b (mset μ o k x))) = (fun b => emb ad (pvf a b μ)) := by
    funext b
    rw [pvf_off (fun q => h q.1)]
  unfold cellE
  rw [e1, e2]
/-- a cell of ints is written -/
theorem wo_iset {ad : Nat → Nat} {cI cB : ClassId} {μ : Mem_} {o n j : Nat} {x : Int} (h : shp o = (9, n)) : (wo ad cI cB μ).set o (ad o, .inl (cI, n, .inl (upd (fun i => Int32.ofInt (μ o i)) j (Int32.ofInt x)))) = wo ad cI cB (mset μ o j x) := by
  refine wo_set ?_ (fun o' ho => cellE_off ho)
  rw [cellE_arr h]
  congr 4
  funext i
  by_cases hi : i = j
  · subst hi; simp [upd, mset]
  · simp [upd, mset, hi]
theorem wo_bset {ad : Nat → Nat} {cI cB : ClassId} {μ : Mem_} {o n j : Nat} {x : Int} (h : shp o = (10, n)) : (wo ad cI cB μ).set o (ad o, .inl (cB, n, .inl (upd (fun i => Int32.ofInt (μ o i)) j (Int32.ofInt x)))) = wo ad cI cB (mset μ o j x) := by
  refine wo_set ?_ (fun o' ho => cellE_off ho)
  rw [cellE_byt h]
  congr 4
  funext i
  by_cases hi : i = j
  · subst hi; simp [upd, mset]
  · simp [upd, mset, hi]
/-- a field is written -/
theorem wo_fset {ad : Nat → Nat} {cI cB : ClassId} {μ : Mem_} {o c n k : Nat} {x : Int} {v : Value} (h : shp o = (c, n)) (h9 : c < 9) (hv : emb ad (pvf o k (mset μ o k x)) = v) : (wo ad cI cB μ).set o (ad o, .inr (c, ((List.range n).map (fun k => emb ad (pvf o k μ))).set k v)) = wo ad cI cB (mset μ o k x) := by
  refine wo_set ?_ (fun o' ho => cellE_off ho)
  rw [cellE_obj h h9]
  congr 2
  apply List.ext_getElem?
  intro i
  rw [List.getElem?_set]
  by_cases hik : k = i
  · subst hik
    by_cases hn : k < n
    · simp [hn, hv]
    · simp [hn]
  · rw [if_neg hik]
    by_cases hn : i < n
    · simp only [List.getElem?_map, List.getElem?_range hn, Option.map_some]
      rw [pvf_off (fun q => hik q.2.symm)]
    · simp [hn]
theorem i32_rt {a : Int} (h : inR a) : (Int32.ofInt a).toInt = a := Int32.toInt_ofInt_of_le (by have := h.1; omega) (by have := h.2; omega)
theorem i64_rt {a : Int} (h : inL a) : (Int64.ofInt a).toInt = a := Int64.toInt_ofInt_of_le (by have := h.1; omega) (by have := h.2; omega)
theorem i32_in (x : Int32) : inR x.toInt := ⟨by have := x.le_toInt; omega, by have := x.toInt_lt; omega⟩
theorem i64_in (x : Int64) : inL x.toInt := ⟨by have := x.le_toInt; omega, by have := x.toInt_lt; omega⟩
theorem i32_eq {a b : Int} (ha : inR a) (hb : inR b) : Int32.ofInt a = Int32.ofInt b ↔ a = b := ⟨fun h => by rw [← i32_rt ha, ← i32_rt hb, h], fun h => by rw [h]⟩
theorem i32_lt {a b : Int} (ha : inR a) (hb : inR b) : Int32.ofInt a < Int32.ofInt b ↔ a < b := by rw [Int32.lt_iff_toInt_lt, i32_rt ha, i32_rt hb]
theorem i32_le {a b : Int} (ha : inR a) (hb : inR b) : Int32.ofInt a ≤ Int32.ofInt b ↔ a ≤ b := by rw [Int32.le_iff_toInt_le, i32_rt ha, i32_rt hb]
theorem i32_0 : (0 : Int32) = Int32.ofInt 0 := by decide
theorem in0 : inR 0 := by decide
theorem i32_ix {i : Int} (h : inR i) (h0 : 0 ≤ i) {n : Nat} (hn : i < (n : Int)) : vp_in (Int32.ofInt i) n := by
  unfold vp_in
  rw [i32_0, i32_lt h in0]
  intro q
  rcases q with q | q
  · omega
  · rw [Int32.toNatClampNeg_ofInt_of_le (by have := h.1; omega) (by have := h.2; omega)] at q
    omega
theorem i32_nat {i : Int} (h : inR i) : (Int32.ofInt i).toNatClampNeg = i.toNat := Int32.toNatClampNeg_ofInt_of_le (by have := h.1; omega) (by have := h.2; omega)
theorem okl_cons {v : PV} {l : List PV} (h1 : okv v) (h2 : okl l) : okl (v :: l) := fun w hw => by
  rcases List.mem_cons.mp hw with rfl | h
  · exact h1
  · exact h2 w h
theorem okl_hd {v : PV} {l : List PV} (h : okl (v :: l)) : okv v := h v List.mem_cons_self
theorem okl_tl {v : PV} {l : List PV} (h : okl (v :: l)) : okl l := fun w hw => h w (List.mem_cons_of_mem _ hw)
/-- the k-th local, and a store there -/
def lk : List PV → Nat → PV
  | [], _ => none
  | a :: _, 0 => a
  | _ :: t, n + 1 => lk t n
def ps : List PV → Nat → PV → List PV
  | [], _, _ => []
  | _ :: t, 0, v => v :: t
  | a :: t, n + 1, v => a :: ps t n v
def nl (ls : List PV) (k : Nat) : Bool := match k with
  | 0 => true
  | k + 1 => match lk ls k with
    | some (.inr (.inl _)) => false
    | _ => true
theorem lk_get {ls : List PV} {k : Nat} {v : Int ⊕ (Int ⊕ Nat)} (h : lk ls k = some v) : ls[k]? = some (some v) := by
  induction ls generalizing k with
  | nil => simp [lk] at h
  | cons a t ih =>
    cases k with
    | zero => simp [lk] at h; simp [h]
    | succ k => simp [lk] at h; simpa using ih h
theorem lk_of {ls : List PV} {k : Nat} {v : PV} (h : ls[k]? = some v) : lk ls k = v := by
  induction ls generalizing k with
  | nil => simp at h
  | cons a t ih =>
    cases k with
    | zero => simp at h; simp [lk, h]
    | succ k => simp at h; simpa [lk] using ih h
theorem ps_set (ls : List PV) (k : Nat) (v : PV) : ps ls k v = ls.set k v := by
  induction ls generalizing k with
  | nil => rfl
  | cons a t ih =>
    cases k with
    | zero => rfl
    | succ k => simp [ps, ih]
theorem ps_len (ls : List PV) (k : Nat) (v : PV) : (ps ls k v).length = ls.length := by rw [ps_set, List.length_set]
theorem okl_ps {ls : List PV} {k : Nat} {v : PV} (h : okl ls) (hv : okv v) : okl (ps ls k v) := by
  rw [ps_set]
  intro w hw
  rcases List.mem_or_eq_of_mem_set hw with h1 | h1
  · exact h w h1
  · rw [h1]; exact hv
theorem okl_lk {ls : List PV} {k : Nat} {v : Int ⊕ (Int ⊕ Nat)} (h : okl ls) (hk : lk ls k = some v) : okv (some v) := h _ (List.mem_of_getElem? (lk_get hk))
/-- the listed locals, as the kit has them -/
def lvOf (ad : Nat → Nat) (ls : List PV) : List (Nat × Value) := ls.zipIdx.filterMap (fun q => match q.1 with
  | some w => some (q.2, emb ad (some w))
  | none => none)
theorem lvOf_mem {ad : Nat → Nat} {ls : List PV} {q : Nat × Value} : q ∈ lvOf ad ls ↔ ∃ w, ls[q.1]? = some (some w) ∧ q.2 = emb ad (some w) := by
  unfold lvOf
  rw [List.mem_filterMap]
  constructor
  · rintro ⟨⟨v, i⟩, hm, he⟩
    have hm := List.mem_zipIdx_iff_getElem?.mp hm
    cases v with
    | none => simp at he
    | some w =>
      simp at he
      subst he
      exact ⟨w, hm, rfl⟩
  · rintro ⟨w, hw, he⟩
    refine ⟨(some w, q.1), List.mem_zipIdx_iff_getElem?.mpr hw, ?_⟩
    simp only
    rw [← he]
theorem lsRel.has {ad : Nat → Nat} {lsM : Array Slot} {ls : List PV} (h : lsRel ad lsM ls) : lv_has lsM ls.length (lvOf ad ls) := by
  refine ⟨h.1, h.2.1, fun q hq => ?_⟩
  obtain ⟨w, h1, h2⟩ := lvOf_mem.mp hq
  rw [h2]
  exact h.2.2 _ _ h1
theorem lsRel.store {ad : Nat → Nat} {lsM : Array Slot} {ls : List PV} {i : Nat} {v : Int ⊕ (Int ⊕ Nat)} {x : Value} (hx : x = emb ad (some v)) (hnl : nl ls i = true)
    (h : lv_has lsM ls.length ((i, x) :: (lvOf ad ls).filter (fun q => !(q.1 == i) && !(q.1 + 1 == i && q.2.category == 2)))) : lsRel ad lsM (ps ls i (some v)) := by
  refine ⟨by rw [ps_len]; exact h.1, h.2.1, fun k w hk => ?_⟩
  rw [ps_set, List.getElem?_set] at hk
  by_cases hik : i = k
  · subst hik
    rw [if_pos rfl] at hk
    split at hk
    · cases hk
      rw [← hx]
      exact h.2.2 (i, x) List.mem_cons_self
    · cases hk
  · rw [if_neg hik] at hk
    refine h.2.2 (k, emb ad (some w)) (List.mem_cons_of_mem _ (List.mem_filter.mpr ⟨lvOf_mem.mpr ⟨w, hk, rfl⟩, ?_⟩))
    have h1 : (k == i) = false := by simp; exact fun h => hik h.symm
    simp only [h1, Bool.not_false, Bool.true_and]
    by_cases h2 : k + 1 = i
    · subst h2
      have hw := lk_of hk
      simp only [nl, hw] at hnl
      match w, hnl with
      | .inl y, _ => simp [emb, Value.category]
      | .inr (.inr y), _ => simp [emb, Value.category]
    · have : (k + 1 == i) = false := by simpa using h2
      simp [this]
theorem lsRel.store2 {ad : Nat → Nat} {lsM : Array Slot} {ls : List PV} {i : Nat} {v : Int ⊕ (Int ⊕ Nat)} {x : Value} (hx : x = emb ad (some v)) (hnl : nl ls i = true)
    (h : lv_has lsM ls.length ((i, x) :: (lvOf ad ls).filter (fun q => !(q.1 == i) && (!(q.1 == i + 1) && !(q.1 + 1 == i && q.2.category == 2))))) : lsRel ad lsM (ps (ps ls i (some v)) (i + 1) U_) := by
  refine ⟨by rw [ps_len, ps_len]; exact h.1, h.2.1, fun k w hk => ?_⟩
  rw [ps_set, List.getElem?_set] at hk
  by_cases hik1 : i + 1 = k
  · rw [if_pos hik1] at hk
    split at hk <;> cases hk
  rw [if_neg hik1, ps_set, List.getElem?_set] at hk
  by_cases hik : i = k
  · subst hik
    rw [if_pos rfl] at hk
    split at hk
    · cases hk
      rw [← hx]
      exact h.2.2 (i, x) List.mem_cons_self
    · cases hk
  · rw [if_neg hik] at hk
    refine h.2.2 (k, emb ad (some w)) (List.mem_cons_of_mem _ (List.mem_filter.mpr ⟨lvOf_mem.mpr ⟨w, hk, rfl⟩, ?_⟩))
    have h1 : (k == i) = false := by simp; exact fun h => hik h.symm
    have h3 : (k == i + 1) = false := by simp; exact fun h => hik1 h.symm
    simp only [h1, h3, Bool.not_false, Bool.true_and]
    by_cases h2 : k + 1 = i
    · subst h2
      have hw := lk_of hk
      simp only [nl, hw] at hnl
      match w, hnl with
      | .inl y, _ => simp [emb, Value.category]
      | .inr (.inr y), _ => simp [emb, Value.category]
    · have : (k + 1 == i) = false := by simpa using h2
      simp [this]
theorem lsRel.kill {ad : Nat → Nat} {lsM : Array Slot} {ls : List PV} {i : Nat} (h : lsRel ad lsM ls) : lsRel ad lsM (ps ls i U_) := by
  refine ⟨by rw [ps_len]; exact h.1, h.2.1, fun k w hk => ?_⟩
  rw [ps_set, List.getElem?_set] at hk
  by_cases hik : i = k
  · subst hik
    rw [if_pos rfl] at hk
    split at hk <;> cases hk
  · rw [if_neg hik] at hk
    exact h.2.2 k w hk
theorem lsRel.get {ad : Nat → Nat} {lsM : Array Slot} {ls : List PV} {k : Nat} {v : Int ⊕ (Int ⊕ Nat)} (h : lsRel ad lsM ls) (hk : lk ls k = some v) : lsM[k]? = some (.val (emb ad (some v))) := h.2.2 k v (lk_get hk)
theorem lk_lt {ls : List PV} {k : Nat} {v : Int ⊕ (Int ⊕ Nat)} (h : lk ls k = some v) : k < ls.length := (List.getElem?_eq_some_iff.mp (lk_get h)).1
/-- facts that V_ brings along -/
theorem v_mem {M : MRec} {pc : Nat} {ls st : List PV} {μ : Mem_} {Q : PV → Mem_ → Prop} (h : okM μ → V_ M pc ls st μ Q) : V_ M pc ls st μ Q := fun h1 h2 h3 => h h3 h1 h2 h3
theorem v_loc {M : MRec} {pc : Nat} {ls st : List PV} {μ : Mem_} {Q : PV → Mem_ → Prop} (h : okl ls → V_ M pc ls st μ Q) : V_ M pc ls st μ Q := fun h1 => h h1 h1
theorem v_stk {M : MRec} {pc : Nat} {ls st : List PV} {μ : Mem_} {Q : PV → Mem_ → Prop} (h : okl st → V_ M pc ls st μ Q) : V_ M pc ls st μ Q := fun h1 h2 => h h2 h1 h2
theorem V_.of {M : MRec} {pc pc' : Nat} {ls st st' : List PV} {μ : Mem_} {Q : PV → Mem_ → Prop} (hok : okl ls → okl st → okl st')
    (hw : ∀ {p : Program} {l : Launch} {e : Env} {R : Room} {s : State} {m : MethodId} {args : Array Value} {below : List Frame} {meth : Method} {c : Code} {H : Heap} {locs : List Loc} {Q' : State → Prop} {ad : Nat → Nat} {lsM : Array Slot},
      okl ls → okl st → p.tables.exec = Jvm.exec → c.code = mC M → lsRel ad lsM ls → W p l e R s m args below meth c H locs 0 0 Q' (F0 m pc' lsM (st'.map (emb ad))) → W p l e R s m args below meth c H locs 0 0 Q' (F0 m pc lsM (st.map (emb ad))))
    (k : V_ M pc' ls st' μ Q) : V_ M pc ls st μ Q :=
  fun h1 h2 h3 h4 p l e s m args below meth c ad D cI cB H locs lsM K => hw h1 h2 K.1.1 K.1.2.1 K.2.2.2.2 (k h1 (hok h1 h2) h3 h4 p l e s m args below meth c ad D cI cB H locs lsM K)
theorem V_.of2 {M : MRec} {pc pc1 pc2 : Nat} {ls st st' : List PV} {μ : Mem_} {Q : PV → Mem_ → Prop} {C : Prop} (hok : okl st → okl st')
    (hw : ∀ {p : Program} {l : Launch} {e : Env} {R : Room} {s : State} {m : MethodId} {args : Array Value} {below : List Frame} {meth : Method} {c : Code} {H : Heap} {locs : List Loc} {Q' : State → Prop} {ad : Nat → Nat} {lsM : Array Slot},
      okl st → p.tables.exec = Jvm.exec → c.code = mC M → (C → W p l e R s m args below meth c H locs 0 0 Q' (F0 m pc1 lsM (st'.map (emb ad)))) → (¬ C → W p l e R s m args below meth c H locs 0 0 Q' (F0 m pc2 lsM (st'.map (emb ad)))) → W p l e R s m args below meth c H locs 0 0 Q' (F0 m pc lsM (st.map (emb ad))))
    (k1 : C → V_ M pc1 ls st' μ Q) (k2 : ¬ C → V_ M pc2 ls st' μ Q) : V_ M pc ls st μ Q :=
  fun h1 h2 h3 h4 p l e s m args below meth c ad D cI cB H locs lsM K => hw h2 K.1.1 K.1.2.1 (fun hc => k1 hc h1 (hok h2) h3 h4 p l e s m args below meth c ad D cI cB H locs lsM K) (fun hc => k2 hc h1 (hok h2) h3 h4 p l e s m args below meth c ad D cI cB H locs lsM K)
theorem V_.ofS {M : MRec} {pc pc' : Nat} {ls ls' st st' : List PV} {μ : Mem_} {Q : PV → Mem_ → Prop} (hok : okl ls → okl st → okl ls' ∧ okl st') (hlen : ls'.length = ls.length)
    (hw : ∀ {p : Program} {l : Launch} {e : Env} {R : Room} {s : State} {m : MethodId} {args : Array Value} {below : List Frame} {meth : Method} {c : Code} {H : Heap} {locs : List Loc} {Q' : State → Prop} {ad : Nat → Nat} {lsM : Array Slot},
      p.tables.exec = Jvm.exec → c.code = mC M → lsRel ad lsM ls → (∀ lsM', lsRel ad lsM' ls' → W p l e R s m args below meth c H locs 0 0 Q' (F0 m pc' lsM' (st'.map (emb ad)))) → W p l e R s m args below meth c H locs 0 0 Q' (F0 m pc lsM (st.map (emb ad))))
    (k : V_ M pc' ls' st' μ Q) : V_ M pc ls st μ Q :=
  fun h1 h2 h3 h4 p l e s m args below meth c ad D cI cB H locs lsM K => hw K.1.1 K.1.2.1 K.2.2.2.2 (fun lsM' hl => k (hok h1 h2).1 (hok h1 h2).2 h3 (hlen.trans h4) p l e s m args below meth c ad D cI cB H locs lsM' ⟨K.1, K.2.1, K.2.2.1, K.2.2.2.1, hl⟩)
