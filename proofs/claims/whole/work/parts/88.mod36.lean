/-! the model over the class: who helps whom, what is lacking -/
section
variable {μ w : Mem_} {Q : PV → Mem_ → Prop}
theorem lv_bit {a : Nat} : (lvN w (stc w)).testBit a = true ↔ ∃ p, p < (w (stc w) 1).toNat ∧ w (stc w + 2) p = (a : Int) := by
  unfold lvN
  rw [orR_bit]
  constructor
  · rintro ⟨p, p1, p2⟩
    unfold lvF hmC at p2
    split at p2
    · rename_i h
      have := pw_bit.1 p2
      exact ⟨p, p1, by omega⟩
    · simp at p2
  · rintro ⟨p, p1, p2⟩
    refine ⟨p, p1, ?_⟩
    unfold lvF hmC
    rw [if_pos (by omega)]
    exact pw_bit.2 (by omega)
theorem hs_bit {a b : Nat} : (hsN w (stc w) b).testBit a = true ↔ ∃ p q, p < (w (stc w) 1).toNat ∧ q < (w (stc w) 1).toNat ∧ w (stc w + 2) p = (a : Int) ∧ w (stc w + 2) q = (b : Int) ∧ (w 24 (p * 12 + q) < 0 ∨ w 24 (q * 12 + p) < 0) := by
  unfold hsN
  rw [orR_bit]
  constructor
  · rintro ⟨p, p1, p2⟩
    unfold hpF at p2
    obtain ⟨q, q1, q2⟩ := orR_bit.1 p2
    unfold hqF hmC at q2
    split at q2
    · rename_i h
      rcases or_bit.1 q2 with q3 | q3
      · split at q3
        · rename_i h2
          have := pw_bit.1 q3
          exact ⟨q, p, q1, p1, by omega, h2, Or.inr h.2.2⟩
        · simp at q3
      · split at q3
        · rename_i h2
          have := pw_bit.1 q3
          exact ⟨p, q, p1, q1, by omega, h2, Or.inl h.2.2⟩
        · simp at q3
    · simp at q2
  · rintro ⟨p, q, p1, q1, h1, h2, h3 | h3⟩
    · refine ⟨p, p1, orR_bit.2 ⟨q, q1, ?_⟩⟩
      unfold hqF hmC
      rw [if_pos ⟨by omega, by omega, h3⟩]
      refine or_bit.2 (Or.inr ?_)
      rw [if_pos h2]
      exact pw_bit.2 (by omega)
    · refine ⟨q, q1, orR_bit.2 ⟨p, p1, ?_⟩⟩
      unfold hqF hmC
      rw [if_pos ⟨by omega, by omega, h3⟩]
      refine or_bit.2 (Or.inl ?_)
      rw [if_pos h2]
      exact pw_bit.2 (by omega)
theorem he_bit {a b : Nat} : (heN w (stc w) b).testBit a = true ↔ (lvN w (stc w)).testBit a = true ∧ ¬ (hsN w (stc w) b).testBit a = true ∧ a ≠ b := by
  unfold heN
  simp only
  rw [nx_bit, nx_bit, pw_bit]
  constructor
  · exact fun h => ⟨h.1.1, h.1.2, fun q => h.2 q.symm⟩
  · exact fun h => ⟨⟨h.1, h.2.1⟩, fun q => h.2.2 q.symm⟩
theorem hd_bit {a b : Nat} : (hdN w (stc w) a).testBit b = true ↔ ∃ p : Nat, p < (w (stc w) 1).toNat ∧ w (stc w + 2) p = (a : Int) ∧ (opensC w 0 p).testBit b = true := by
  unfold hdN
  rw [orR_bit]
  constructor
  · rintro ⟨p, p1, p2⟩
    unfold hdF hmC at p2
    split at p2
    · rename_i h; exact ⟨p, p1, h, p2⟩
    · simp at p2
  · rintro ⟨p, p1, p2, p3⟩
    refine ⟨p, p1, ?_⟩
    unfold hdF hmC
    rw [if_pos p2]
    exact p3
theorem lives_0 {a : Nat} : orR (w (stc w) 1).toNat (peF w (stc w) a) = 0 ↔ ¬ (lvN w (stc w)).testBit a = true := by
  rw [lv_bit]
  constructor
  · rintro h ⟨p, p1, p2⟩
    have := (orP_bit (P := fun p => w (stc w + 2) p = (a : Int))).2 ⟨p1, p2⟩
    have e : (0 : Nat).testBit p = true := by rw [← h]; exact this
    simp at e
  · intro h
    apply Nat.eq_of_testBit_eq
    intro k
    rw [Nat.zero_testBit]
    cases hb : (orR (w (stc w) 1).toNat (peF w (stc w) a)).testBit k with
    | false => rfl
    | true => have := (orP_bit (P := fun p => w (stc w + 2) p = (a : Int))).1 hb; exact absurd ⟨k, this.1, this.2⟩ h
set_option maxRecDepth 10000 in
theorem c_X8_helps {a b : Int} (hw : CW w) (hc : CP μ w) (ha : 0 ≤ a) (hb : 0 ≤ b) (h : Q (I_ (b2i ((heN w (stc w) b.toNat).testBit a.toNat = true))) μ) : V_ nX8_helps 0 [R_ 50, I_ a, I_ b, U_, U_, U_, U_] [] μ Q := by
  have c1 := hc.1.1
  have s2 := hw.1.2.2.1
  have ea : ((a.toNat : Nat) : Int) = a := by omega
  have eb : ((b.toNat : Nat) : Int) = b := by omega
  generalize hP0 : (a ≠ b ∧ (lvN w (stc w)).testBit a.toNat = true) = P0 at *
  have fin : ((heN w (stc w) b.toNat).testBit a.toNat = true) ↔ P0 ∧ ∀ p q : Nat, (p : Int) < w (stc w) 1 → (q : Int) < w (stc w) 1 → w (stc w + 2) p = a → w (stc w + 2) q = b → 0 ≤ w 24 (p * 12 + q) ∧ 0 ≤ w 24 (q * 12 + p) := by
    rw [he_bit, hs_bit, ← hP0]
    constructor
    · rintro ⟨h1, h2, h3⟩
      refine ⟨⟨fun q => h3 (by omega), h1⟩, fun p q p1 q1 p2 q2 => ?_⟩
      refine Classical.byContradiction (fun hn => h2 ⟨p, q, by omega, by omega, by omega, by omega, ?_⟩)
      omega
    · rintro ⟨⟨h1, h2⟩, h3⟩
      refine ⟨h2, ?_, fun q => h1 (by omega)⟩
      rintro ⟨p, q, p1, q1, p2, q2, h4⟩
      have := h3 p q (by omega) (by omega) (by omega) (by omega)
      omega
  have lp : ∀ k : Int, 0 ≤ k → k ≤ w (stc w) 1 → ∀ d : Int, ((d = 1 ∧ P0 ∧ ∀ p q : Nat, (p : Int) < k → (q : Int) < w (stc w) 1 → w (stc w + 2) p = a → w (stc w + 2) q = b → 0 ≤ w 24 (p * 12 + q) ∧ 0 ≤ w 24 (q * 12 + p)) ∨ (d = 0 ∧ ¬ (P0 ∧ ∀ p q : Nat, (p : Int) < k → (q : Int) < w (stc w) 1 → w (stc w + 2) p = a → w (stc w + 2) q = b → 0 ≤ w 24 (p * 12 + q) ∧ 0 ≤ w 24 (q * 12 + p)))) → V_ nX8_helps 22 [R_ 50, I_ a, I_ b, I_ d, I_ k, U_, U_] [] μ Q := by
    refine loop_up _ (fun k h0 h1 ih => ?_)
    intro d hd
    have hk : k < w (stc w) 1 → _ := fun q : k < w (stc w) 1 => hc.1.2.2 k.toNat (by omega)
    have ek : ((k.toNat : Nat) : Int) = k := by omega
    have inner : k < w (stc w) 1 → ∀ j : Int, 0 ≤ j → j ≤ w (stc w) 1 → ∀ d : Int, ((d = 1 ∧ P0 ∧ ∀ p q : Nat, ((p : Int) < k ∨ (p = k.toNat ∧ (q : Int) < j)) → (q : Int) < w (stc w) 1 → w (stc w + 2) p = a → w (stc w + 2) q = b → 0 ≤ w 24 (p * 12 + q) ∧ 0 ≤ w 24 (q * 12 + p)) ∨ (d = 0 ∧ ¬ (P0 ∧ ∀ p q : Nat, ((p : Int) < k ∨ (p = k.toNat ∧ (q : Int) < j)) → (q : Int) < w (stc w) 1 → w (stc w + 2) p = a → w (stc w + 2) q = b → 0 ≤ w 24 (p * 12 + q) ∧ 0 ≤ w 24 (q * 12 + p)))) → V_ nX8_helps 34 [R_ 50, I_ a, I_ b, I_ d, I_ k, I_ j, U_] [] μ Q := by
      intro hkl
      have hk := hk hkl
      refine loop_up _ (fun j j0 j1 ihj => ?_)
      intro d hd
      have hj : j < w (stc w) 1 → _ := fun q : j < w (stc w) 1 => hc.1.2.2 j.toNat (by omega)
      have t1 : j < w (stc w) 1 → μ 72 (12 * k + j).toNat = w 24 (k.toNat * 12 + j.toNat) := fun q => by rw [hc.2.1.2.2.2 _ (by omega), show (12 * k + j).toNat = k.toNat * 12 + j.toNat by omega]
      have t2 : j < w (stc w) 1 → μ 72 (12 * j + k).toNat = w 24 (j.toNat * 12 + k.toNat) := fun q => by rw [hc.2.1.2.2.2 _ (by omega), show (12 * j + k).toNat = j.toNat * 12 + k.toNat by omega]
      have d01 : d = 0 ∨ d = 1 := by rcases hd with q | q; exact Or.inr q.1; exact Or.inl q.1
      have stp : ∀ d' : Int, j < w (stc w) 1 → ((d' = 1 ∧ d = 1 ∧ (w (stc w + 2) k.toNat = a → w (stc w + 2) j.toNat = b → 0 ≤ w 24 (k.toNat * 12 + j.toNat) ∧ 0 ≤ w 24 (j.toNat * 12 + k.toNat))) ∨ (d' = 0 ∧ (d = 0 ∨ ¬ (w (stc w + 2) k.toNat = a → w (stc w + 2) j.toNat = b → 0 ≤ w 24 (k.toNat * 12 + j.toNat) ∧ 0 ≤ w 24 (j.toNat * 12 + k.toNat))))) → V_ nX8_helps 34 [R_ 50, I_ a, I_ b, I_ d', I_ k, I_ (j + 1), U_] [] μ Q := by
        intro d' hjl hd'
        refine ihj hjl d' ?_
        rcases hd' with ⟨q1, q2, q3⟩ | ⟨q1, q2⟩
        · have h9 := (hd.resolve_right (fun q => by omega)).2
          refine Or.inl ⟨q1, h9.1, fun p q hpq hq e1 e2 => ?_⟩
          by_cases e : p = k.toNat ∧ q = j.toNat
          · rw [e.1] at e1 ⊢
            rw [e.2] at e2 ⊢
            exact q3 e1 e2
          · exact h9.2 p q (by omega) hq e1 e2
        · refine Or.inr ⟨q1, fun hall => ?_⟩
          rcases q2 with q2 | q2
          · exact (hd.resolve_left (fun q => by omega)).2 ⟨hall.1, fun p q hpq hq e1 e2 => hall.2 p q (by omega) hq e1 e2⟩
          · exact q2 (fun e1 e2 => hall.2 k.toNat j.toNat (Or.inr ⟨rfl, by omega⟩) (by omega) e1 e2)
      refine v_iload dX8_helps_34 rfl ?_
      refine v_aload_n dX8_helps_36 rfl rfl ?_
      refine v_getI dX8_helps_37 fX8_183 rfl rfl rfl ?_
      refine v_icmp_ge (tgt := 125) dX8_helps_40 (by decide) (fun hc_40 => ?_) (fun hc_40 => ?_)
      · refine v_iinc (ls' := [_, _, _, _, _, _, _]) dX8_helps_125 rfl (fun hi_125 => by omega) rfl rfl ?_
        refine v_goto (tgt := 22) dX8_helps_128 (by decide) ?_
        refine v_kill (ls' := [_, _, _, _, _, _, _]) 5 rfl ?_
        refine v_kill (ls' := [_, _, _, _, _, _, _]) 6 rfl ?_
        refine ih hkl d ?_
        rcases hd with ⟨q1, q2, q3⟩ | ⟨q1, q2⟩
        · exact Or.inl ⟨q1, q2, fun p q hpq hq e1 e2 => q3 p q (by omega) hq e1 e2⟩
        · exact Or.inr ⟨q1, fun hall => q2 ⟨hall.1, fun p q hpq hq e1 e2 => hall.2 p q (by omega) hq e1 e2⟩⟩
      · refine v_aload_n dX8_helps_43 rfl rfl ?_
        refine v_getR dX8_helps_44 fX8_32 rfl rfl rfl ?_
        refine v_iload dX8_helps_47 rfl ?_
        refine v_iald dX8_helps_49 rfl (by omega) (by omega) ?_
        rw [hk.1]
        refine v_iload_n dX8_helps_50 rfl rfl ?_
        refine v_icmp_ne (tgt := 69) dX8_helps_51 (by decide) (fun hc_51 => ?_) (fun hc_51 => ?_)
        · refine v_iconst dX8_helps_69 (by decide) ?_
          refine v_istore (ls' := [_, _, _, _, _, _, _]) dX8_helps_70 rfl rfl rfl ?_
          refine v_iload_n dX8_helps_72 rfl rfl ?_
          refine v_if_eq (tgt := 117) dX8_helps_73 (by decide) (fun hc_73 => ?_) (fun hc_73 => ?_)
          · refine v_iconst dX8_helps_117 (by decide) ?_
            refine v_istore_n (ls' := [_, _, _, _, _, _, _]) dX8_helps_118 rfl rfl rfl rfl ?_
            refine v_iinc (ls' := [_, _, _, _, _, _, _]) dX8_helps_119 rfl (fun hi_119 => by omega) rfl rfl ?_
            refine v_goto (tgt := 34) dX8_helps_122 (by decide) ?_
            refine v_kill (ls' := [_, _, _, _, _, _, _]) 6 rfl ?_
            first
              | exact stp 0 (by omega) (Or.inr ⟨rfl, Or.inl (by omega)⟩)
              | exact stp 1 (by omega) (Or.inl ⟨rfl, by omega, fun e1 e2 => by omega⟩)
              | exact stp 0 (by omega) (Or.inr ⟨rfl, Or.inr (fun q => by have := q (by omega) (by omega); omega)⟩)
              | (exfalso; omega)
          · refine v_iload dX8_helps_76 rfl ?_
            refine v_if_eq (tgt := 113) dX8_helps_78 (by decide) (fun _ => ?_) (fun q => absurd (by decide) q)
            refine v_iconst dX8_helps_113 (by decide) ?_
            refine v_goto (tgt := 118) dX8_helps_114 (by decide) ?_
            refine v_istore_n (ls' := [_, _, _, _, _, _, _]) dX8_helps_118 rfl rfl rfl rfl ?_
            refine v_iinc (ls' := [_, _, _, _, _, _, _]) dX8_helps_119 rfl (fun hi_119 => by omega) rfl rfl ?_
            refine v_goto (tgt := 34) dX8_helps_122 (by decide) ?_
            refine v_kill (ls' := [_, _, _, _, _, _, _]) 6 rfl ?_
            first
              | exact stp 0 (by omega) (Or.inr ⟨rfl, Or.inl (by omega)⟩)
              | exact stp 1 (by omega) (Or.inl ⟨rfl, by omega, fun e1 e2 => by omega⟩)
              | exact stp 0 (by omega) (Or.inr ⟨rfl, Or.inr (fun q => by have := q (by omega) (by omega); omega)⟩)
              | (exfalso; omega)
        · refine v_aload_n dX8_helps_54 rfl rfl ?_
          refine v_getR dX8_helps_55 fX8_32 rfl rfl rfl ?_
          refine v_iload dX8_helps_58 rfl ?_
          refine v_iald dX8_helps_60 rfl (by omega) (by omega) ?_
          rw [(hj (by omega)).1]
          refine v_iload_n dX8_helps_61 rfl rfl ?_
          refine v_icmp_ne (tgt := 69) dX8_helps_62 (by decide) (fun hc_62 => ?_) (fun hc_62 => ?_)
          · refine v_iconst dX8_helps_69 (by decide) ?_
            refine v_istore (ls' := [_, _, _, _, _, _, _]) dX8_helps_70 rfl rfl rfl ?_
            refine v_iload_n dX8_helps_72 rfl rfl ?_
            refine v_if_eq (tgt := 117) dX8_helps_73 (by decide) (fun hc_73 => ?_) (fun hc_73 => ?_)
            · refine v_iconst dX8_helps_117 (by decide) ?_
              refine v_istore_n (ls' := [_, _, _, _, _, _, _]) dX8_helps_118 rfl rfl rfl rfl ?_
              refine v_iinc (ls' := [_, _, _, _, _, _, _]) dX8_helps_119 rfl (fun hi_119 => by omega) rfl rfl ?_
              refine v_goto (tgt := 34) dX8_helps_122 (by decide) ?_
              refine v_kill (ls' := [_, _, _, _, _, _, _]) 6 rfl ?_
              first
                | exact stp 0 (by omega) (Or.inr ⟨rfl, Or.inl (by omega)⟩)
                | exact stp 1 (by omega) (Or.inl ⟨rfl, by omega, fun e1 e2 => by omega⟩)
                | exact stp 0 (by omega) (Or.inr ⟨rfl, Or.inr (fun q => by have := q (by omega) (by omega); omega)⟩)
                | (exfalso; omega)
            · refine v_iload dX8_helps_76 rfl ?_
              refine v_if_eq (tgt := 113) dX8_helps_78 (by decide) (fun _ => ?_) (fun q => absurd (by decide) q)
              refine v_iconst dX8_helps_113 (by decide) ?_
              refine v_goto (tgt := 118) dX8_helps_114 (by decide) ?_
              refine v_istore_n (ls' := [_, _, _, _, _, _, _]) dX8_helps_118 rfl rfl rfl rfl ?_
              refine v_iinc (ls' := [_, _, _, _, _, _, _]) dX8_helps_119 rfl (fun hi_119 => by omega) rfl rfl ?_
              refine v_goto (tgt := 34) dX8_helps_122 (by decide) ?_
              refine v_kill (ls' := [_, _, _, _, _, _, _]) 6 rfl ?_
              first
                | exact stp 0 (by omega) (Or.inr ⟨rfl, Or.inl (by omega)⟩)
                | exact stp 1 (by omega) (Or.inl ⟨rfl, by omega, fun e1 e2 => by omega⟩)
                | exact stp 0 (by omega) (Or.inr ⟨rfl, Or.inr (fun q => by have := q (by omega) (by omega); omega)⟩)
                | (exfalso; omega)
          · refine v_iconst dX8_helps_65 (by decide) ?_
            refine v_goto (tgt := 70) dX8_helps_66 (by decide) ?_
            refine v_istore (ls' := [_, _, _, _, _, _, _]) dX8_helps_70 rfl rfl rfl ?_
            refine v_iload_n dX8_helps_72 rfl rfl ?_
            refine v_if_eq (tgt := 117) dX8_helps_73 (by decide) (fun hc_73 => ?_) (fun hc_73 => ?_)
            · refine v_iconst dX8_helps_117 (by decide) ?_
              refine v_istore_n (ls' := [_, _, _, _, _, _, _]) dX8_helps_118 rfl rfl rfl rfl ?_
              refine v_iinc (ls' := [_, _, _, _, _, _, _]) dX8_helps_119 rfl (fun hi_119 => by omega) rfl rfl ?_
              refine v_goto (tgt := 34) dX8_helps_122 (by decide) ?_
              refine v_kill (ls' := [_, _, _, _, _, _, _]) 6 rfl ?_
              first
                | exact stp 0 (by omega) (Or.inr ⟨rfl, Or.inl (by omega)⟩)
                | exact stp 1 (by omega) (Or.inl ⟨rfl, by omega, fun e1 e2 => by omega⟩)
                | exact stp 0 (by omega) (Or.inr ⟨rfl, Or.inr (fun q => by have := q (by omega) (by omega); omega)⟩)
                | (exfalso; omega)
            · refine v_iload dX8_helps_76 rfl ?_
              refine v_if_eq (tgt := 113) dX8_helps_78 (by decide) (fun q => absurd q (by decide)) (fun _ => ?_)
              refine v_aload_n dX8_helps_81 rfl rfl ?_
              refine v_getR dX8_helps_82 fX8_74 rfl rfl rfl ?_
              refine v_bipush dX8_helps_85 (by decide) ?_
              refine v_iload dX8_helps_87 rfl ?_
              refine v_imul dX8_helps_89 (fun ha hb => by omega) ?_
              refine v_iload dX8_helps_90 rfl ?_
              refine v_iadd dX8_helps_92 (fun ha hb => by omega) ?_
              refine v_iald dX8_helps_93 rfl (by omega) (by omega) ?_
              rw [t1 (by omega)]
              refine v_if_lt (tgt := 117) dX8_helps_94 (by decide) (fun hc_94 => ?_) (fun hc_94 => ?_)
              · refine v_iconst dX8_helps_117 (by decide) ?_
                refine v_istore_n (ls' := [_, _, _, _, _, _, _]) dX8_helps_118 rfl rfl rfl rfl ?_
                refine v_iinc (ls' := [_, _, _, _, _, _, _]) dX8_helps_119 rfl (fun hi_119 => by omega) rfl rfl ?_
                refine v_goto (tgt := 34) dX8_helps_122 (by decide) ?_
                refine v_kill (ls' := [_, _, _, _, _, _, _]) 6 rfl ?_
                first
                  | exact stp 0 (by omega) (Or.inr ⟨rfl, Or.inl (by omega)⟩)
                  | exact stp 1 (by omega) (Or.inl ⟨rfl, by omega, fun e1 e2 => by omega⟩)
                  | exact stp 0 (by omega) (Or.inr ⟨rfl, Or.inr (fun q => by have := q (by omega) (by omega); omega)⟩)
                  | (exfalso; omega)
              · refine v_aload_n dX8_helps_97 rfl rfl ?_
                refine v_getR dX8_helps_98 fX8_74 rfl rfl rfl ?_
                refine v_bipush dX8_helps_101 (by decide) ?_
                refine v_iload dX8_helps_103 rfl ?_
                refine v_imul dX8_helps_105 (fun ha hb => by omega) ?_
                refine v_iload dX8_helps_106 rfl ?_
                refine v_iadd dX8_helps_108 (fun ha hb => by omega) ?_
                refine v_iald dX8_helps_109 rfl (by omega) (by omega) ?_
                rw [t2 (by omega)]
                refine v_if_lt (tgt := 117) dX8_helps_110 (by decide) (fun hc_110 => ?_) (fun hc_110 => ?_)
                · refine v_iconst dX8_helps_117 (by decide) ?_
                  refine v_istore_n (ls' := [_, _, _, _, _, _, _]) dX8_helps_118 rfl rfl rfl rfl ?_
                  refine v_iinc (ls' := [_, _, _, _, _, _, _]) dX8_helps_119 rfl (fun hi_119 => by omega) rfl rfl ?_
                  refine v_goto (tgt := 34) dX8_helps_122 (by decide) ?_
                  refine v_kill (ls' := [_, _, _, _, _, _, _]) 6 rfl ?_
                  first
                    | exact stp 0 (by omega) (Or.inr ⟨rfl, Or.inl (by omega)⟩)
                    | exact stp 1 (by omega) (Or.inl ⟨rfl, by omega, fun e1 e2 => by omega⟩)
                    | exact stp 0 (by omega) (Or.inr ⟨rfl, Or.inr (fun q => by have := q (by omega) (by omega); omega)⟩)
                    | (exfalso; omega)
                · refine v_iconst dX8_helps_113 (by decide) ?_
                  refine v_goto (tgt := 118) dX8_helps_114 (by decide) ?_
                  refine v_istore_n (ls' := [_, _, _, _, _, _, _]) dX8_helps_118 rfl rfl rfl rfl ?_
                  refine v_iinc (ls' := [_, _, _, _, _, _, _]) dX8_helps_119 rfl (fun hi_119 => by omega) rfl rfl ?_
                  refine v_goto (tgt := 34) dX8_helps_122 (by decide) ?_
                  refine v_kill (ls' := [_, _, _, _, _, _, _]) 6 rfl ?_
                  first
                    | exact stp 0 (by omega) (Or.inr ⟨rfl, Or.inl (by omega)⟩)
                    | exact stp 1 (by omega) (Or.inl ⟨rfl, by omega, fun e1 e2 => by omega⟩)
                    | exact stp 0 (by omega) (Or.inr ⟨rfl, Or.inr (fun q => by have := q (by omega) (by omega); omega)⟩)
                    | (exfalso; omega)
    have d01 : d = 0 ∨ d = 1 := by rcases hd with q | q; exact Or.inr q.1; exact Or.inl q.1
    refine v_iload dX8_helps_22 rfl ?_
    refine v_aload_n dX8_helps_24 rfl rfl ?_
    refine v_getI dX8_helps_25 fX8_183 rfl rfl rfl ?_
    refine v_icmp_ge (tgt := 131) dX8_helps_28 (by decide) (fun hc_28 => ?_) (fun hc_28 => ?_)
    · refine v_iload_n dX8_helps_131 rfl rfl ?_
      refine v_zreturn dX8_helps_132 rfl (by first | exact Or.inl rfl | exact Or.inr rfl | exact b2i_01 _ | assumption) ?_
      have ekk : k = w (stc w) 1 := by omega
      rw [ekk] at hd
      rcases hd with ⟨q1, q2, q3⟩ | ⟨q1, q2⟩
      · rw [b2i_t (fin.2 ⟨q2, q3⟩)] at h
        rwa [q1]
      · rw [b2i_f (fun q => q2 (fin.1 q))] at h
        rwa [q1]
    · refine v_iconst dX8_helps_31 (by decide) ?_
      refine v_istore (ls' := [_, _, _, _, _, _, _]) dX8_helps_32 rfl rfl rfl ?_
      refine v_kill (ls' := [_, _, _, _, _, _, _]) 6 rfl ?_
      refine inner (by omega) 0 (by omega) (by omega) d ?_
      rcases hd with ⟨q1, q2, q3⟩ | ⟨q1, q2⟩
      · exact Or.inl ⟨q1, q2, fun p q hpq hq e1 e2 => q3 p q (by omega) hq e1 e2⟩
      · exact Or.inr ⟨q1, fun hall => q2 ⟨hall.1, fun p q hpq hq e1 e2 => hall.2 p q (Or.inl hpq) hq e1 e2⟩⟩
  refine v_iload_n dX8_helps_0 rfl rfl ?_
  refine v_iload_n dX8_helps_1 rfl rfl ?_
  refine v_icmp_eq (tgt := 17) dX8_helps_2 (by decide) (fun hc_2 => ?_) (fun hc_2 => ?_)
  · refine v_iconst dX8_helps_17 (by decide) ?_
    refine v_istore_n (ls' := [_, _, _, _, _, _, _]) dX8_helps_18 rfl rfl rfl rfl ?_
    refine v_iconst dX8_helps_19 (by decide) ?_
    refine v_istore (ls' := [_, _, _, _, _, _, _]) dX8_helps_20 rfl rfl rfl ?_
    first
      | exact lp 0 (by omega) (by omega) 0 (Or.inr ⟨rfl, fun q => by have := q.1; rw [← hP0] at this; exact this.1 (by omega)⟩)
      | exact lp 0 (by omega) (by omega) 0 (Or.inr ⟨rfl, fun q => by have := q.1; rw [← hP0] at this; exact lives_0.1 (by omega) this.2⟩)
      | exact lp 0 (by omega) (by omega) 1 (Or.inl ⟨rfl, by rw [← hP0]; exact ⟨by omega, Classical.byContradiction (fun q => hc_10 (by rw [lives_0.2 q]; rfl))⟩, fun p q hpq => by omega⟩)
  · refine v_aload_n dX8_helps_5 rfl rfl ?_
    refine v_iload_n dX8_helps_6 rfl rfl ?_
    refine v_callVi [_] dX8_helps_7 lX8_237 kvX8_livesIn (plX8 _ _) (Or.inl rfl) rfl rfl rfl rfl rfl rfl rfl rfl rfl (c_X8_livesIn hw.1.2 hc.1 ?_)
    rw [show peF w (stc w) a = peF w (stc w) (a.toNat : Int) by rw [ea]]
    refine v_if_eq (tgt := 17) dX8_helps_10 (by decide) (fun hc_10 => ?_) (fun hc_10 => ?_)
    · refine v_iconst dX8_helps_17 (by decide) ?_
      refine v_istore_n (ls' := [_, _, _, _, _, _, _]) dX8_helps_18 rfl rfl rfl rfl ?_
      refine v_iconst dX8_helps_19 (by decide) ?_
      refine v_istore (ls' := [_, _, _, _, _, _, _]) dX8_helps_20 rfl rfl rfl ?_
      first
        | exact lp 0 (by omega) (by omega) 0 (Or.inr ⟨rfl, fun q => by have := q.1; rw [← hP0] at this; exact this.1 (by omega)⟩)
        | exact lp 0 (by omega) (by omega) 0 (Or.inr ⟨rfl, fun q => by have := q.1; rw [← hP0] at this; exact lives_0.1 (by omega) this.2⟩)
        | exact lp 0 (by omega) (by omega) 1 (Or.inl ⟨rfl, by rw [← hP0]; exact ⟨by omega, Classical.byContradiction (fun q => hc_10 (by rw [lives_0.2 q]; rfl))⟩, fun p q hpq => by omega⟩)
    · refine v_iconst dX8_helps_13 (by decide) ?_
      refine v_goto (tgt := 18) dX8_helps_14 (by decide) ?_
      refine v_istore_n (ls' := [_, _, _, _, _, _, _]) dX8_helps_18 rfl rfl rfl rfl ?_
      refine v_iconst dX8_helps_19 (by decide) ?_
      refine v_istore (ls' := [_, _, _, _, _, _, _]) dX8_helps_20 rfl rfl rfl ?_
      first
        | exact lp 0 (by omega) (by omega) 0 (Or.inr ⟨rfl, fun q => by have := q.1; rw [← hP0] at this; exact this.1 (by omega)⟩)
        | exact lp 0 (by omega) (by omega) 0 (Or.inr ⟨rfl, fun q => by have := q.1; rw [← hP0] at this; exact lives_0.1 (by omega) this.2⟩)
        | exact lp 0 (by omega) (by omega) 1 (Or.inl ⟨rfl, by rw [← hP0]; exact ⟨by omega, Classical.byContradiction (fun q => hc_10 (by rw [lives_0.2 q]; rfl))⟩, fun p q hpq => by omega⟩)
set_option maxRecDepth 10000 in
theorem c_X8_hasKeyOf {a b : Int} (hw : CW w) (hc : CP μ w) (ha : 0 ≤ a) (hb : 0 ≤ b ∧ b < 6) (h : Q (I_ (b2i ((hdN w (stc w) a.toNat).testBit b.toNat = true))) μ) : V_ nX8_hasKeyOf 0 [R_ 50, I_ a, I_ b, U_, U_] [] μ Q := by
  have c1 := hc.1.1
  have s2 := hw.1.2.2.1
  have hp := hw.P
  have eLv : μ 73 b.toNat = ((orR (w 17 0).toNat (lkF w (b.toNat : Int)) : Nat) : Int) := hc.2.2.1.1 b.toNat (by omega)
  have b4 := held_lt hp (f := lkF w (b.toNat : Int)) (fun k => if_pw)
  have lp : ∀ k : Int, 0 ≤ k → k ≤ w (stc w) 1 → ∀ d : Int, ((d = 1 ∧ ∃ p : Nat, (p : Int) < k ∧ w (stc w + 2) p = a ∧ (opensC w 0 p).testBit b.toNat = true) ∨ (d = 0 ∧ ¬ ∃ p : Nat, (p : Int) < k ∧ w (stc w + 2) p = a ∧ (opensC w 0 p).testBit b.toNat = true)) → V_ nX8_hasKeyOf 5 [R_ 50, I_ a, I_ b, I_ d, I_ k] [] μ Q := by
    refine loop_up _ (fun k h0 h1 ih => ?_)
    intro d hd
    have hk : k < w (stc w) 1 → _ := fun q : k < w (stc w) 1 => hc.1.2.2 k.toNat (by omega)
    have ek : ((k.toNat : Nat) : Int) = k := by omega
    have b5 := held_lt hp (f := hkF w k) (fun k => if_pw)
    have key := lk_and hp (a := orR (w 17 0).toNat (hkF w k)) (g := b.toNat)
    rw [oh_held h0] at key
    have d01 : d = 0 ∨ d = 1 := by rcases hd with q | q; exact Or.inr q.1; exact Or.inl q.1
    have stp : ∀ d' : Int, k < w (stc w) 1 → ((d' = 1 ∧ (d = 1 ∨ (w (stc w + 2) k.toNat = a ∧ (opensC w 0 k).testBit b.toNat = true))) ∨ (d' = 0 ∧ d = 0 ∧ ¬ (w (stc w + 2) k.toNat = a ∧ (opensC w 0 k).testBit b.toNat = true))) → V_ nX8_hasKeyOf 5 [R_ 50, I_ a, I_ b, I_ d', I_ (k + 1)] [] μ Q := by
      intro d' hkl hd'
      refine ih hkl d' ?_
      rcases hd' with ⟨q1, q2 | q2⟩ | ⟨q1, q2, q3⟩
      · obtain ⟨p, p1, p2⟩ := (hd.resolve_right (fun q => by omega)).2
        exact Or.inl ⟨q1, p, by omega, p2⟩
      · exact Or.inl ⟨q1, k.toNat, by omega, by rw [ek]; exact q2⟩
      · refine Or.inr ⟨q1, fun hex => ?_⟩
        obtain ⟨p, p1, p2⟩ := hex
        by_cases e : p = k.toNat
        · rw [e, ek] at p2; exact q3 p2
        · exact (hd.resolve_left (fun q => by omega)).2 ⟨p, by omega, p2⟩
    refine v_iload dX8_hasKeyOf_5 rfl ?_
    refine v_aload_n dX8_hasKeyOf_7 rfl rfl ?_
    refine v_getI dX8_hasKeyOf_8 fX8_183 rfl rfl rfl ?_
    refine v_icmp_ge (tgt := 57) dX8_hasKeyOf_11 (by decide) (fun hc_11 => ?_) (fun hc_11 => ?_)
    · refine v_iload_n dX8_hasKeyOf_57 rfl rfl ?_
      refine v_zreturn dX8_hasKeyOf_58 rfl (by first | exact Or.inl rfl | exact Or.inr rfl | exact b2i_01 _ | assumption) ?_
      have fin : ((hdN w (stc w) a.toNat).testBit b.toNat = true) ↔ ∃ p : Nat, (p : Int) < k ∧ w (stc w + 2) p = a ∧ (opensC w 0 p).testBit b.toNat = true := by
        rw [hd_bit]
        constructor
        · rintro ⟨p, p1, p2, p3⟩; exact ⟨p, by omega, by omega, p3⟩
        · rintro ⟨p, p1, p2, p3⟩; exact ⟨p, by omega, by omega, p3⟩
      rcases hd with ⟨q1, q2⟩ | ⟨q1, q2⟩
      · rw [b2i_t (fin.2 q2)] at h
        rwa [q1]
      · rw [b2i_f (fun q => q2 (fin.1 q))] at h
        rwa [q1]
    · refine v_iload_n dX8_hasKeyOf_14 rfl rfl ?_
      refine v_if_ne (tgt := 45) dX8_hasKeyOf_15 (by decide) (fun hc_15 => ?_) (fun hc_15 => ?_)
      · refine v_iconst dX8_hasKeyOf_45 (by decide) ?_
        refine v_goto (tgt := 50) dX8_hasKeyOf_46 (by decide) ?_
        refine v_istore_n (ls' := [_, _, _, _, _]) dX8_hasKeyOf_50 rfl rfl rfl rfl ?_
        refine v_iinc (ls' := [_, _, _, _, _]) dX8_hasKeyOf_51 rfl (fun hi_51 => by omega) rfl rfl ?_
        refine v_goto (tgt := 5) dX8_hasKeyOf_54 (by decide) ?_
        first
          | exact stp 1 (by omega) (Or.inl ⟨rfl, Or.inl (by omega)⟩)
          | exact stp 0 (by omega) (Or.inr ⟨rfl, by omega, fun q => by omega⟩)
          | exact stp 0 (by omega) (Or.inr ⟨rfl, by omega, fun q => key.1 (by omega) q.2⟩)
          | exact stp 1 (by omega) (Or.inl ⟨rfl, Or.inr ⟨by omega, Classical.byContradiction (fun q => hc_42 (by rw [key.2 q]; rfl))⟩⟩)
      · refine v_aload_n dX8_hasKeyOf_18 rfl rfl ?_
        refine v_getR dX8_hasKeyOf_19 fX8_32 rfl rfl rfl ?_
        refine v_iload dX8_hasKeyOf_22 rfl ?_
        refine v_iald dX8_hasKeyOf_24 rfl (by omega) (by omega) ?_
        rw [(hk (by omega)).1]
        refine v_iload_n dX8_hasKeyOf_25 rfl rfl ?_
        refine v_icmp_ne (tgt := 49) dX8_hasKeyOf_26 (by decide) (fun hc_26 => ?_) (fun hc_26 => ?_)
        · refine v_iconst dX8_hasKeyOf_49 (by decide) ?_
          refine v_istore_n (ls' := [_, _, _, _, _]) dX8_hasKeyOf_50 rfl rfl rfl rfl ?_
          refine v_iinc (ls' := [_, _, _, _, _]) dX8_hasKeyOf_51 rfl (fun hi_51 => by omega) rfl rfl ?_
          refine v_goto (tgt := 5) dX8_hasKeyOf_54 (by decide) ?_
          first
            | exact stp 1 (by omega) (Or.inl ⟨rfl, Or.inl (by omega)⟩)
            | exact stp 0 (by omega) (Or.inr ⟨rfl, by omega, fun q => by omega⟩)
            | exact stp 0 (by omega) (Or.inr ⟨rfl, by omega, fun q => key.1 (by omega) q.2⟩)
            | exact stp 1 (by omega) (Or.inl ⟨rfl, Or.inr ⟨by omega, Classical.byContradiction (fun q => hc_42 (by rw [key.2 q]; rfl))⟩⟩)
        · refine v_aload_n dX8_hasKeyOf_29 rfl rfl ?_
          refine v_iload dX8_hasKeyOf_30 rfl ?_
          refine v_callVi [_] dX8_hasKeyOf_32 lX8_243 kvX8_heldBy (plX8 _ _) (Or.inl rfl) rfl rfl rfl rfl rfl rfl rfl rfl rfl (c_X8_heldBy hp hc.2.1 ?_)
          refine v_aload_n dX8_hasKeyOf_35 rfl rfl ?_
          refine v_getR dX8_hasKeyOf_36 fX8_77 rfl rfl rfl ?_
          refine v_iload_n dX8_hasKeyOf_39 rfl rfl ?_
          refine v_iald dX8_hasKeyOf_40 rfl (by omega) (by omega) ?_
          rw [eLv]
          refine v_iand dX8_hasKeyOf_41 ?_
          rw [bAnd_nat (by omega) (by omega)]
          refine v_if_eq (tgt := 49) dX8_hasKeyOf_42 (by decide) (fun hc_42 => ?_) (fun hc_42 => ?_)
          · refine v_iconst dX8_hasKeyOf_49 (by decide) ?_
            refine v_istore_n (ls' := [_, _, _, _, _]) dX8_hasKeyOf_50 rfl rfl rfl rfl ?_
            refine v_iinc (ls' := [_, _, _, _, _]) dX8_hasKeyOf_51 rfl (fun hi_51 => by omega) rfl rfl ?_
            refine v_goto (tgt := 5) dX8_hasKeyOf_54 (by decide) ?_
            first
              | exact stp 1 (by omega) (Or.inl ⟨rfl, Or.inl (by omega)⟩)
              | exact stp 0 (by omega) (Or.inr ⟨rfl, by omega, fun q => by omega⟩)
              | exact stp 0 (by omega) (Or.inr ⟨rfl, by omega, fun q => key.1 (by omega) q.2⟩)
              | exact stp 1 (by omega) (Or.inl ⟨rfl, Or.inr ⟨by omega, Classical.byContradiction (fun q => hc_42 (by rw [key.2 q]; rfl))⟩⟩)
          · refine v_iconst dX8_hasKeyOf_45 (by decide) ?_
            refine v_goto (tgt := 50) dX8_hasKeyOf_46 (by decide) ?_
            refine v_istore_n (ls' := [_, _, _, _, _]) dX8_hasKeyOf_50 rfl rfl rfl rfl ?_
            refine v_iinc (ls' := [_, _, _, _, _]) dX8_hasKeyOf_51 rfl (fun hi_51 => by omega) rfl rfl ?_
            refine v_goto (tgt := 5) dX8_hasKeyOf_54 (by decide) ?_
            first
              | exact stp 1 (by omega) (Or.inl ⟨rfl, Or.inl (by omega)⟩)
              | exact stp 0 (by omega) (Or.inr ⟨rfl, by omega, fun q => by omega⟩)
              | exact stp 0 (by omega) (Or.inr ⟨rfl, by omega, fun q => key.1 (by omega) q.2⟩)
              | exact stp 1 (by omega) (Or.inl ⟨rfl, Or.inr ⟨by omega, Classical.byContradiction (fun q => hc_42 (by rw [key.2 q]; rfl))⟩⟩)
  refine v_iconst dX8_hasKeyOf_0 (by decide) ?_
  refine v_istore_n (ls' := [_, _, _, _, _]) dX8_hasKeyOf_1 rfl rfl rfl rfl ?_
  refine v_iconst dX8_hasKeyOf_2 (by decide) ?_
  refine v_istore (ls' := [_, _, _, _, _]) dX8_hasKeyOf_3 rfl rfl rfl ?_
  exact lp 0 (by omega) (by omega) 0 (Or.inr ⟨rfl, fun hex => by obtain ⟨p, p1, _⟩ := hex; omega⟩)
end
