/-! the model over the class: the quickest way -/
def cdM (a : St3) : Nat := a.1 + 6 * (a.2.1 + 64 * a.2.2)
def vM (n : Nat) (a : St3) : Prop := a.1 < 6 ∧ a.2.1 < 2 ^ n ∧ a.2.2 < 2 ^ n
theorem cdM_1 {a : St3} (h : a.1 < 6) : cdM a % 6 = a.1 := by unfold cdM; omega
theorem cdM_2 {a : St3} (h : a.1 < 6) (h2 : a.2.1 < 64) : cdM a / 6 % 64 = a.2.1 := by unfold cdM; omega
theorem cdM_3 {a : St3} (h : a.1 < 6) (h2 : a.2.1 < 64) : cdM a / 6 / 64 = a.2.2 := by unfold cdM; omega
theorem vM_64 {n : Nat} {a : St3} (hn : n ≤ 6) (h : vM n a) : a.1 < 6 ∧ a.2.1 < 64 ∧ a.2.2 < 64 := by
  have : 2 ^ n ≤ 2 ^ 6 := Nat.pow_le_pow_right (by omega) hn
  unfold vM at h
  omega
theorem cdM_lt {n : Nat} {a : St3} (hn : n ≤ 6) (h : vM n a) : cdM a < 24576 := by
  have := vM_64 hn h
  unfold cdM
  omega
theorem cdM_inj {n : Nat} {a b : St3} (hn : n ≤ 6) (ha : vM n a) (hb : vM n b) (e : cdM a = cdM b) : a = b := by
  have h1 := vM_64 hn ha
  have h2 := vM_64 hn hb
  refine Prod.ext ?_ (Prod.ext ?_ ?_)
  · rw [← cdM_1 h1.1, ← cdM_1 h2.1, e]
  · show a.2.1 = b.2.1
    rw [← cdM_2 h1.1 h1.2.1, ← cdM_2 h2.1 h2.2.1, e]
  · show a.2.2 = b.2.2
    rw [← cdM_3 h1.1 h1.2.1, ← cdM_3 h2.1 h2.2.1, e]
def frQ (μ m : Mem_) : Prop := ∀ o k, ¬ (o = 50 ∧ k = 42) → o ≠ 76 → o ≠ 77 → m o k = μ o k
theorem frQ.y {μ m : Mem_} (h : frQ μ m) : frY μ m := fun o k q q2 => h o k (by omega) (by omega) (by omega)
theorem frQ.wl {μ m w : Mem_} {p own : Int} {n : Nat} (h : frQ μ m) (hw : WLk w p own n μ) : WLk w p own n m := ⟨by rw [h 50 45 (by omega) (by omega) (by omega)]; exact hw.1, by rw [h 50 44 (by omega) (by omega) (by omega)]; exact hw.2.1, fun g hg => by rw [h 78 g (by omega) (by omega) (by omega)]; exact hw.2.2 g hg⟩
def MV (n : Nat) (m : Mem_) (L : Nat) (q : Nat → St3) (mn : Nat → Nat) : Prop := m 50 42 = (L : Int) ∧ (∀ j, j < L → vM n (q j) ∧ m 77 j = (cdM (q j) : Int) ∧ m 76 (cdM (q j)) = (mn j : Int) ∧ mn j ≤ j) ∧ (∀ i j, i < L → j < L → q i = q j → i = j) ∧ ∀ c : Nat, c < 24576 → 0 ≤ m 76 c → ∃ j, j < L ∧ cdM (q j) = c
theorem MV_le {n : Nat} {m : Mem_} {L : Nat} {q : Nat → St3} {mn : Nat → Nat} (hn : n ≤ 6) (h : MV n m L q mn) : L ≤ 24576 := pigeon 24576 L (fun j => cdM (q j)) (fun i hi => cdM_lt hn (h.2.1 i hi).1) (fun i j hi hj e => h.2.2.1 i j hi hj (cdM_inj hn (h.2.1 i hi).1 (h.2.1 j hj).1 e))
theorem MV_new {n : Nat} {m : Mem_} {L : Nat} {q : Nat → St3} {mn : Nat → Nat} {a : St3} {mm : Nat} (hn : n ≤ 6) (h : MV n m L q mn) (ha : vM n a) (hneg : m 76 (cdM a) < 0) (hmm : mm ≤ L) : L < 24576 ∧ MV n (mset (mset (mset m 76 (cdM a) (mm : Int)) 77 L (cdM a : Int)) 50 42 ((L : Int) + 1)) (L + 1) (fun j => if j < L then q j else a) (fun j => if j < L then mn j else mm) := by
  have hno : ∀ j, j < L → cdM (q j) ≠ cdM a := fun j hj e => by
    have := (h.2.1 j hj).2.2.1
    rw [e] at this
    omega
  have hlt : L + 1 ≤ 24576 := pigeon 24576 (L + 1) (fun j => cdM (if j < L then q j else a)) (fun i hi => by
    by_cases e : i < L
    · simp only [e, if_true]; exact cdM_lt hn (h.2.1 i e).1
    · simp only [e, if_false]; exact cdM_lt hn ha) (fun i j hi hj e => by
    by_cases e1 : i < L <;> by_cases e2 : j < L
    · simp only [e1, e2, if_true] at e
      exact h.2.2.1 i j e1 e2 (cdM_inj hn (h.2.1 i e1).1 (h.2.1 j e2).1 e)
    · simp only [e1, e2, if_true, if_false] at e
      exact absurd e (hno i e1)
    · simp only [e1, e2, if_true, if_false] at e
      exact absurd e.symm (hno j e2)
    · omega)
  refine ⟨by omega, by rw [mset_same]; omega, fun j hj => ?_, fun i j hi hj e => ?_, fun c hc h0 => ?_⟩
  · by_cases e : j < L
    · simp only [e, if_true]
      have := h.2.1 j e
      refine ⟨this.1, ?_, ?_, this.2.2.2⟩
      · rw [mset_off (by omega), mset_off (by omega), mset_off (by omega)]; exact this.2.1
      · rw [mset_off (by omega), mset_off (by omega), mset_off (fun q => hno j e q.2)]; exact this.2.2.1
    · simp only [e, if_false]
      have ej : j = L := by omega
      refine ⟨ha, ?_, ?_, by omega⟩
      · rw [ej, mset_off (by omega), mset_same]
      · rw [mset_off (by omega), mset_off (by omega), mset_same]
  · by_cases e1 : i < L <;> by_cases e2 : j < L
    · simp only [e1, e2, if_true] at e
      exact h.2.2.1 i j e1 e2 e
    · simp only [e1, e2, if_true, if_false] at e
      exact absurd (congrArg cdM e) (hno i e1)
    · simp only [e1, e2, if_true, if_false] at e
      exact absurd (congrArg cdM e).symm (hno j e2)
    · omega
  · by_cases ec : c = cdM a
    · exact ⟨L, by omega, by simp [ec]⟩
    · rw [mset_off (by omega), mset_off (by omega), mset_off (by omega)] at h0
      obtain ⟨j, j1, j2⟩ := h.2.2.2 c hc h0
      exact ⟨j, by omega, by simp [j1, j2]⟩
section
variable {μ w : Mem_} {Q : PV → Mem_ → Prop}
set_option maxRecDepth 10000 in
theorem c_X8_stateOf {a : St3} (h : a.1 < 6 ∧ a.2.1 < 64 ∧ a.2.2 < 64) (hq : Q (I_ (cdM a : Int)) μ) : V_ nX8_stateOf 0 [I_ (a.1 : Int), I_ (a.2.1 : Int), I_ (a.2.2 : Int)] [] μ Q := by
  refine v_iload_n dX8_stateOf_0 rfl rfl ?_
  refine v_bipush dX8_stateOf_1 (by decide) ?_
  refine v_iload_n dX8_stateOf_3 rfl rfl ?_
  refine v_bipush dX8_stateOf_4 (by decide) ?_
  refine v_iload_n dX8_stateOf_6 rfl rfl ?_
  refine v_imul dX8_stateOf_7 (fun ha hb => by omega) ?_
  refine v_iadd dX8_stateOf_8 (fun ha hb => by omega) ?_
  refine v_imul dX8_stateOf_9 (fun ha hb => by omega) ?_
  refine v_iadd dX8_stateOf_10 (fun ha hb => by omega) ?_
  refine v_ireturn dX8_stateOf_11 rfl ?_
  have e : (a.1 : Int) + 6 * ((a.2.1 : Int) + 64 * (a.2.2 : Int)) = (cdM a : Int) := by unfold cdM; omega
  rw [e]
  exact hq
set_option maxRecDepth 10000 in
theorem c_X8_reach {n L mm : Nat} {a : St3} {q : Nat → St3} {mn : Nat → Nat} (hn : n ≤ 6) (ha : vM n a) (hm : MV n μ L q mn) (hmm : mm ≤ L) (h1 : (∃ j, j < L ∧ q j = a) → Q U_ μ) (h2 : (¬ ∃ j, j < L ∧ q j = a) → ∀ m : Mem_, frQ μ m → MV n m (L + 1) (fun j => if j < L then q j else a) (fun j => if j < L then mn j else mm) → Q U_ m) : V_ nX8_reach 0 [R_ 50, I_ (cdM a : Int), I_ (mm : Int)] [] μ Q := by
  have hlt := cdM_lt hn ha
  have hnew := fun q => MV_new (mm := mm) hn hm ha q hmm
  have e42 := hm.1
  have hLe := MV_le hn hm
  refine v_aload_n dX8_reach_0 rfl rfl ?_
  refine v_getR dX8_reach_1 fX8_86 rfl rfl rfl ?_
  refine v_iload_n dX8_reach_4 rfl rfl ?_
  refine v_iald dX8_reach_5 rfl (by omega) (by omega) ?_
  refine v_if_ge (tgt := 36) dX8_reach_6 (by decide) (fun hc_6 => ?_) (fun hc_6 => ?_)
  · refine v_return dX8_reach_36 rfl ?_
    refine h1 ?_
    obtain ⟨j, j1, j2⟩ := hm.2.2.2 (cdM a) hlt (by simpa using hc_6)
    exact ⟨j, j1, cdM_inj hn (hm.2.1 j j1).1 ha j2⟩
  · refine v_aload_n dX8_reach_9 rfl rfl ?_
    refine v_getR dX8_reach_10 fX8_86 rfl rfl rfl ?_
    refine v_iload_n dX8_reach_13 rfl rfl ?_
    refine v_iload_n dX8_reach_14 rfl rfl ?_
    refine v_iast dX8_reach_15 rfl (by omega) (by omega) ?_
    refine v_aload_n dX8_reach_16 rfl rfl ?_
    refine v_getR dX8_reach_17 fX8_89 rfl rfl rfl ?_
    refine v_aload_n dX8_reach_20 rfl rfl ?_
    refine v_getI dX8_reach_21 fX8_283 rfl rfl rfl ?_
    refine v_iload_n dX8_reach_24 rfl rfl ?_
    refine v_iast dX8_reach_25 rfl (by have := (hnew (by simpa using hc_6)).1; rw [mset_off (by omega)]; omega) (by have := (hnew (by simpa using hc_6)).1; rw [mset_off (by omega)]; omega) ?_
    refine v_aload_n dX8_reach_26 rfl rfl ?_
    refine v_dupR_ dX8_reach_27 ?_
    refine v_getI dX8_reach_28 fX8_283 rfl rfl rfl ?_
    refine v_iconst dX8_reach_31 (by decide) ?_
    refine v_iadd dX8_reach_32 (fun ha hb => by rw [mset_off (by omega), mset_off (by omega)]; omega) ?_
    refine v_putI dX8_reach_33 fpX8_283 rfl rfl rfl ?_
    refine v_return dX8_reach_36 rfl ?_
    have hneg : μ 76 (cdM a) < 0 := by simpa using hc_6
    have hv := (hnew hneg).2
    rw [mset_off (by omega), mset_off (by omega), mset_off (by omega), e42, Int.toNat_natCast, Int.toNat_natCast]
    refine h2 (fun hex => ?_) _ (fun o k q1 q2 q3 => by rw [mset_off (by omega), mset_off (by omega), mset_off (by omega)]) hv
    obtain ⟨j, j1, j2⟩ := hex
    have := (hm.2.1 j j1).2.2.1
    rw [j2] at this
    omega
theorem c_X8_reachB {n L i : Nat} {a s0 : St3} {q : Nat → St3} {mn : Nat → Nat} {step : St3 → St3 → Prop} {G T : St3 → Prop} (hn : n ≤ 6) (ha : vM n a) (hm : MV n μ L q mn) (hB : BFp step s0 G q mn i L T) (hi : i < L) (hs : step (q i) a) (hQ : ∀ (m : Mem_) (L' : Nat) (q' : Nat → St3) (mn' : Nat → Nat), frQ μ m → MV n m L' q' mn' → BFp step s0 G q' mn' i L' (fun u => T u ∨ u = a) → i < L' → q' i = q i → mn' i = mn i → Q U_ m) : V_ nX8_reach 0 [R_ 50, I_ (cdM a : Int), I_ ((mn i : Int) + 1)] [] μ Q := by
  have hmi := (hm.2.1 i hi).2.2.2
  rw [show (mn i : Int) + 1 = ((mn i + 1 : Nat) : Int) by omega]
  refine c_X8_reach hn ha hm (by omega) (fun hex => ?_) (fun hno m f1 f2 => ?_)
  · exact hQ μ L q mn (fun _ _ _ _ _ => rfl) hm (BFp_old hB hex) hi rfl rfl
  · exact hQ m (L + 1) _ _ f1 f2 (BFp_new hB hi hs (fun j hj => by simp [hj]) (by simp) (fun j hj => by simp [hj]) (by simp)) (by omega) (by simp [hi]) (by simp [hi])
end
