/-! texts read: items, one behind the other -/
def gP {σ : Type} (tx : Nat → Int) (n : Nat) (item : Nat → σ → Nat × Option σ) : Nat → Nat → σ → Int × σ
  | 0, _, s => (-9, s)
  | f + 1, i, s => if n ≤ i then (-9, s) else if tx i = 32 then gP tx n item f (i + 1) s else match item i s with
    | (j, none) => ((j : Int), s)
    | (j, some s') => gP tx n item f j s'
def gUp {σ : Type} (item : Nat → σ → Nat × Option σ) : Prop := ∀ i s j s', item i s = (j, some s') → i < j
theorem gP_fuel {σ : Type} {tx : Nat → Int} {n : Nat} {item : Nat → σ → Nat × Option σ} (hu : gUp item) : ∀ (f g i : Nat) (s : σ), n < f + i → n < g + i → gP tx n item f i s = gP tx n item g i s := by
  intro f
  induction f with
  | zero =>
    intro g i s h1 h2
    cases g with
    | zero => rfl
    | succ g => rw [gP, gP, if_pos (by omega)]
  | succ f ih =>
    intro g i s h1 h2
    cases g with
    | zero => rw [gP, gP, if_pos (by omega)]
    | succ g =>
      rw [gP, gP]
      by_cases q1 : n ≤ i
      · rw [if_pos q1, if_pos q1]
      · rw [if_neg q1, if_neg q1]
        by_cases q2 : tx i = 32
        · rw [if_pos q2, if_pos q2]; exact ih g (i + 1) s (by omega) (by omega)
        · rw [if_neg q2, if_neg q2]
          match e : item i s with
          | (j, none) => rfl
          | (j, some s') =>
            have := hu i s j s' e
            exact ih g j s' (by omega) (by omega)
def gT {σ : Type} (tx : Nat → Int) (n : Nat) (item : Nat → σ → Nat × Option σ) (i : Nat) (s : σ) : Int × σ := gP tx n item (n + 1) i s
theorem gT_end {σ : Type} {tx : Nat → Int} {n : Nat} {item : Nat → σ → Nat × Option σ} {i : Nat} {s : σ} (h : n ≤ i) : gT tx n item i s = (-9, s) := by
  unfold gT
  rw [gP, if_pos h]
theorem gT_blank {σ : Type} {tx : Nat → Int} {n : Nat} {item : Nat → σ → Nat × Option σ} (hu : gUp item) {i : Nat} {s : σ} (h : i < n) (hb : tx i = 32) : gT tx n item i s = gT tx n item (i + 1) s := by
  unfold gT
  rw [gP, if_neg (by omega), if_pos hb]
  exact gP_fuel hu _ _ _ _ (by omega) (by omega)
theorem gT_blanks {σ : Type} {tx : Nat → Int} {n : Nat} {item : Nat → σ → Nat × Option σ} (hu : gUp item) {s : σ} : ∀ (d i : Nat), i + d ≤ n → (∀ j, i ≤ j → j < i + d → tx j = 32) → gT tx n item i s = gT tx n item (i + d) s := by
  intro d
  induction d with
  | zero => intro i _ _; rfl
  | succ d ih =>
    intro i h1 h2
    rw [gT_blank hu (by omega) (h2 i (by omega) (by omega)), ih (i + 1) (by omega) (fun j q1 q2 => h2 j (by omega) (by omega)), show i + 1 + d = i + (d + 1) by omega]
theorem gT_fail {σ : Type} {tx : Nat → Int} {n : Nat} {item : Nat → σ → Nat × Option σ} {i j : Nat} {s : σ} (h : i < n) (hb : tx i ≠ 32) (he : item i s = (j, none)) : gT tx n item i s = ((j : Int), s) := by
  unfold gT
  rw [gP, if_neg (by omega), if_neg hb, he]
theorem gT_ok {σ : Type} {tx : Nat → Int} {n : Nat} {item : Nat → σ → Nat × Option σ} (hu : gUp item) {i j : Nat} {s s' : σ} (h : i < n) (hb : tx i ≠ 32) (he : item i s = (j, some s')) : gT tx n item i s = gT tx n item j s' := by
  unfold gT
  rw [gP, if_neg (by omega), if_neg hb, he]
  have := hu i s j s' he
  exact gP_fuel hu _ _ _ _ (by omega) (by omega)
theorem figP_up {tx : Nat → Int} {n : Nat} {B : Int} {i j : Nat} {v : Int} (h : figP tx n B i = (j, some v)) : i < j := by
  unfold figP at h
  split at h
  · simp at h; omega
  · simp at h
theorem expP_up {tx : Nat → Int} {n : Nat} {B : Int} {i j : Nat} {v : Int} (h : expP tx n B i = (j, some v)) : i < j := by
  unfold expP at h
  split at h
  · simp at h; omega
  · simp at h
theorem numP_up {tx : Nat → Int} {n : Nat} {B : Int} {i j : Nat} {v : Int} (h : numP tx n B i = (j, some v)) : i < j := by
  unfold numP at h
  split at h
  · split at h <;> split at h <;> simp at h <;> omega
  · simp at h
/-- one thing read behind another -/
def andP {α β : Type} (a : Nat × Option α) (f : α → Nat → Nat × Option β) : Nat × Option β := match a with
  | (j, none) => (j, none)
  | (j, some v) => f v j
def stSt : Type := List Int × List (Int × Int)
def hmP (tx : Nat → Int) (n : Nat) (nH : Int) (i : Nat) : Nat × Option Int := if i < n ∧ tx i = 45 then (i + 1, some (-9)) else figP tx n nH i
def itS (tx : Nat → Int) (n : Nat) (i : Nat) (s : List Int × List (Int × Int)) : Nat × Option (List Int × List (Int × Int)) :=
  if tx i = 104 ∧ s.1.length < 6 then andP (numP tx n 100 (i + 1)) (fun c j => (j, some (s.1 ++ [c], s.2)))
  else if tx i = 112 ∧ s.2.length < 12 then andP (hmP tx n s.1.length (i + 1)) (fun h j => andP (expP tx n 58 j) (fun _ k => andP (numP tx n 13 k) (fun a l => (l, some (s.1, s.2 ++ [(h, a)])))))
  else (i, none)
theorem andP_some {α β : Type} {a : Nat × Option α} {f : α → Nat → Nat × Option β} {j : Nat} {w : β} (h : andP a f = (j, some w)) : ∃ v k, a = (k, some v) ∧ f v k = (j, some w) := by
  match a, h with
  | (k, some v), h => exact ⟨v, k, rfl, h⟩
theorem hmP_up {tx : Nat → Int} {n : Nat} {B : Int} {i j : Nat} {v : Int} (h : hmP tx n B i = (j, some v)) : i < j := by
  unfold hmP at h
  split at h
  · simp at h; omega
  · exact figP_up h
theorem itS_up {tx : Nat → Int} {n : Nat} : gUp (itS tx n) := by
  intro i s j s' h
  unfold itS at h
  split at h
  · obtain ⟨v, k, h1, h2⟩ := andP_some h
    have := numP_up h1
    simp at h2
    omega
  · split at h
    · obtain ⟨v, k, h1, h2⟩ := andP_some h
      obtain ⟨v2, k2, h3, h4⟩ := andP_some h2
      obtain ⟨v3, k3, h5, h6⟩ := andP_some h4
      have := hmP_up h1
      have := expP_up h3
      have := numP_up h5
      simp at h6
      omega
    · simp at h
/-- a street as a draft holds it -/
def DrC (m : Mem_) (d : Nat) (s : List Int × List (Int × Int)) : Prop := (m d 0 = (s.1.length : Int) ∧ s.1.length ≤ 6) ∧ (m d 1 = (s.2.length : Int) ∧ s.2.length ≤ 12) ∧ (∀ h : Nat, h < s.1.length → m (d + 1) h = s.1.getD h 0) ∧ ∀ p : Nat, p < s.2.length → m (d + 2) p = (s.2.getD p (0, 0)).1 ∧ m (d + 3) p = (s.2.getD p (0, 0)).2
def frD (d : Nat) (μ m : Mem_) : Prop := ∀ o k, ¬ (o = 26 ∧ (k = 2 ∨ k = 3)) → ¬ (d ≤ o ∧ o ≤ d + 3) → m o k = μ o k
theorem frS.dr {d : Nat} {μ m : Mem_} {s : List Int × List (Int × Int)} (hd : isSt d) (h : frS μ m) (hD : DrC μ d s) : DrC m d s := by
  unfold DrC
  rw [h d 0 (by omega), h d 1 (by omega)]
  refine ⟨hD.1, hD.2.1, fun k hk => by rw [h (d + 1) k (by omega)]; exact hD.2.2.1 k hk, fun p hp => by rw [h (d + 2) p (by omega), h (d + 3) p (by omega)]; exact hD.2.2.2 p hp⟩
theorem frS.D {d : Nat} {μ m : Mem_} (h : frS μ m) : frD d μ m := fun o k q1 _ => h o k q1
theorem frD.tr {d : Nat} {a b c : Mem_} (h1 : frD d a b) (h2 : frD d b c) : frD d a c := fun o k q1 q2 => by rw [h2 o k q1 q2]; exact h1 o k q1 q2
theorem frD.tx {d : Nat} {tx : Nat → Int} {n : Nat} {μ m : Mem_} (hd : isSt d) (h : frD d μ m) (ht : TxC tx n μ) : TxC tx n m := ⟨ht.1, by rw [h 26 1 (by omega) (by omega)]; exact ht.2.1, fun j hj => by rw [h 27 j (by omega) (by omega)]; exact ht.2.2 j hj⟩
theorem getD_app {α : Type} (l : List α) (x d : α) (k : Nat) (hk : k < l.length + 1) : (l ++ [x]).getD k d = if k < l.length then l.getD k d else x := by
  rw [List.getD_eq_getElem?_getD, List.getD_eq_getElem?_getD]
  split
  · rename_i q; rw [List.getElem?_append_left q]
  · rename_i q
    have : k = l.length := by omega
    subst this
    simp
section
variable {μ : Mem_} {Q : PV → Mem_ → Prop} {tx : Nat → Int} {n i d : Nat} {s : List Int × List (Int × Int)}
theorem DrC_h {m : Mem_} (hd : isSt d) (hD : DrC m d s) (h6 : s.1.length < 6) (c : Int) : DrC (mset (mset m (d + 1) (m d 0).toNat c) d 0 (m d 0 + 1)) d (s.1 ++ [c], s.2) := by
  obtain ⟨⟨a1, a2⟩, ⟨b1, b2⟩, c1, e1⟩ := hD
  refine ⟨⟨by rw [mset_same, a1]; simp, by simp; omega⟩, ⟨by rw [mset_off (by omega), mset_off (by omega)]; exact b1, b2⟩, fun k hk => ?_, fun p hp => by rw [mset_off (by omega), mset_off (by omega), mset_off (by omega), mset_off (by omega)]; exact e1 p hp⟩
  have hk : k < s.1.length + 1 := by simpa using hk
  show _ = (s.1 ++ [c]).getD k 0
  rw [getD_app _ _ _ _ hk, mset_off (by omega), a1, Int.toNat_natCast]
  split
  · rename_i q; rw [mset_off (by omega)]; exact c1 k q
  · rename_i q
    have : k = s.1.length := by omega
    rw [this, mset_same]
theorem DrC_p {m : Mem_} (hd : isSt d) (hD : DrC m d s) (h12 : s.2.length < 12) (a b : Int) : DrC (mset (mset (mset m (d + 2) (m d 1).toNat a) (d + 3) (m d 1).toNat b) d 1 (m d 1 + 1)) d (s.1, s.2 ++ [(a, b)]) := by
  obtain ⟨⟨a1, a2⟩, ⟨b1, b2⟩, c1, e1⟩ := hD
  refine ⟨⟨by rw [mset_off (by omega), mset_off (by omega), mset_off (by omega)]; exact a1, a2⟩, ⟨by rw [mset_same, b1]; simp, by simp; omega⟩, fun k hk => by rw [mset_off (by omega), mset_off (by omega), mset_off (by omega)]; exact c1 k hk, fun p hp => ?_⟩
  have hp : p < s.2.length + 1 := by simpa using hp
  show _ = ((s.2 ++ [(a, b)]).getD p (0, 0)).1 ∧ _ = ((s.2 ++ [(a, b)]).getD p (0, 0)).2
  rw [getD_app _ _ _ _ hp, mset_off (by omega), mset_off (by omega), b1, Int.toNat_natCast]
  split
  · rename_i q; rw [mset_off (by omega), mset_off (by omega), mset_off (by omega), mset_off (by omega)]; exact e1 p q
  · rename_i q
    have : p = s.2.length := by omega
    rw [this, mset_same, mset_off (by omega), mset_same]
    exact ⟨rfl, rfl⟩
/-- where an item has been read, or has failed -/
def itPost (tx : Nat → Int) (n d : Nat) (μ m : Mem_) (s : List Int × List (Int × Int)) (r : Nat × Option (List Int × List (Int × Int))) : Prop := frD d μ m ∧ m 26 2 = (r.1 : Int) ∧ m 26 3 = (if r.2 = none then (r.1 : Int) else -9) ∧ DrC m d (r.2.getD s)
set_option maxRecDepth 10000 in
theorem c_X3_readHouse (hd : isSt d) (ht : TxC tx n μ) (hi : μ 26 2 = (i : Int)) (hin : i < n) (hw : μ 26 3 = -9) (hD : DrC μ d s) (h6 : s.1.length < 6) (h : ∀ m : Mem_, itPost tx n d μ m s (andP (numP tx n 100 (i + 1)) (fun c j => (j, some (s.1 ++ [c], s.2)))) → Q U_ m) : V_ nX3_readHouse 0 [R_ 26, R_ d, U_] [] μ Q := by
  have hst := hd
  have ht1 := ht.1
  have f1 : frS μ (mset μ 26 2 ((i : Int) + 1)) := fun o k q => mset_off (by omega)
  refine v_aload_n dX3_readHouse_0 rfl rfl ?_
  refine v_dupR_ dX3_readHouse_1 ?_
  refine v_getI dX3_readHouse_2 fX3_40 rfl rfl rfl ?_
  rw [hi]
  refine v_iconst dX3_readHouse_5 (by decide) ?_
  refine v_iadd dX3_readHouse_6 (fun ha hb => by omega) ?_
  refine v_putI dX3_readHouse_7 fpX3_40 rfl rfl rfl ?_
  refine v_aload_n dX3_readHouse_10 rfl rfl ?_
  refine v_bipush dX3_readHouse_11 (by decide) ?_
  refine v_callVi [_] dX3_readHouse_13 lX3_72 kvX3_number (plX3 _ _) (Or.inl rfl) rfl rfl rfl rfl rfl rfl rfl rfl rfl (c_X3_number0 (i := i + 1) (f1.tx ht) (by rw [mset_same]; omega) (by rw [mset_off (by omega)]; exact hw) (fun m r a1 a2 a3 a4 => ?_))
  have hD2 := (f1.tr a1).dr hd hD
  have d0 := hD2.1.1
  refine v_istore_n (ls' := [_, _, _]) dX3_readHouse_16 rfl rfl rfl rfl ?_
  refine v_aload_n dX3_readHouse_17 rfl rfl ?_
  refine v_getI dX3_readHouse_18 fX3_15 rfl rfl rfl ?_
  rw [a3]
  refine v_bipush dX3_readHouse_21 (by decide) ?_
  refine v_icmp_ne (tgt := 31) dX3_readHouse_23 (by decide) (fun hc_23 => ?_) (fun hc_23 => ?_)
  · refine v_return dX3_readHouse_31 rfl ?_
    refine h m ⟨(f1.tr a1).D, ?_⟩
    match e : numP tx n 100 (i + 1), a2, a3, hc_23 with
    | (j, none), a2, a3, _ => exact ⟨a2, a3, hD2⟩
    | (j, some c), a2, a3, z => exact absurd rfl z
  · refine v_aload_n dX3_readHouse_26 rfl rfl ?_
    refine v_iload_n dX3_readHouse_27 rfl rfl ?_
    refine v_callVv [_] dX3_readHouse_28 lX3_75 kvX5_addHouse (plX5 _ _) rfl (shp_st hst) rfl rfl rfl rfl rfl rfl rfl rfl (c_X5_addHouse hd (by omega) ?_)
    refine v_return dX3_readHouse_31 rfl ?_
    refine h _ ⟨fun o k q1 q2 => by rw [mset_off (by omega), mset_off (by omega)]; exact (f1.tr a1) o k q1, ?_⟩
    rw [mset_off (by omega), mset_off (by omega), mset_off (by omega), mset_off (by omega)]
    match e : numP tx n 100 (i + 1), a2, a3, a4, hc_23 with
    | (j, none), a2, a3, _, z => exact absurd (by show ((j : Nat) : Int) ≠ -9; omega) z
    | (j, some c), a2, a3, a4, _ =>
      have : r = c := a4 c rfl
      subst this
      exact ⟨a2, a3, DrC_h hd hD2 h6 r⟩
end
