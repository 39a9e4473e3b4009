/-! the model over the class: counts -/
def CR (μ w : Mem_) : Prop := (∀ r : Nat, r < 6 → μ 52 r = w 2 r ∧ (-1 ≤ w 2 r ∧ w 2 r ≤ 40) ∧ ∀ i : Nat, (i : Int) < w 2 r → μ 53 (40 * r + i) = w 3 (40 * r + i)) ∧ (∀ t : Nat, t < 4 → μ 55 t = w 5 t ∧ (-1 ≤ w 5 t ∧ w 5 t ≤ 120) ∧ ∀ i : Nat, (i : Int) < w 5 t → μ 56 (120 * t + i) = w 6 (120 * t + i)) ∧ ∀ j : Nat, (-128 ≤ w 6 j ∧ w 6 j < 128) ∧ (-128 ≤ μ 56 j ∧ μ 56 j < 128)
theorem smI {P : Prop} [Decidable P] {f : Nat → Int} {k a b : Int} {A : Int} (h0 : 0 ≤ k) (ha : a = A + (if P then smR k.toNat f else 0)) (hb : b = if P then f k.toNat else 0) : a + b = A + (if P then smR (k + 1).toNat f else 0) := by
  rw [ha, hb, show (k + 1).toNat = k.toNat + 1 by omega, smR]
  split <;> omega
section
variable {μ w : Mem_} {Q : PV → Mem_ → Prop}
set_option maxRecDepth 10000 in
theorem c_X8_counted {what : Int} (hw : CW w) (hc : CP μ w) (hr : CR μ w) (hwh : 0 ≤ what ∧ what ≤ 7) (h : Q (I_ (ctC w what)) μ) : V_ nX8_counted 0 [R_ 50, I_ what, U_, U_] [] μ Q := by
  have c1 := hc.1.1
  have hp := hw.P
  have hp1 := hp.1
  have hm := hc.2.1
  have hm1 := hm.1
  have hl := hw.2.2.1
  have hl1 := hl.1
  have hv := hc.2.2.2
  have hv1 := hv.1
  have b3 := smb (n := (w 17 0).toNat) (f := fun k => b2i (liveC w k)) (fun k => b2i_01 _)
  have b5 := smb (n := (w 7 0).toNat) (f := fun i => b2i (mkK (w 8 i))) (fun k => b2i_01 _)
  have b6 := smb (n := 6) (f := fun r => b2i (0 ≤ w 2 r)) (fun k => b2i_01 _)
  generalize hA3 : (if what = 3 then smR (w 17 0).toNat (fun k => b2i (liveC w k)) else 0) = A3 at *
  have bA3 : 0 ≤ A3 ∧ A3 ≤ 24 := by rw [← hA3]; split <;> omega
  generalize hA5 : A3 + (if what = 5 then smR (w 7 0).toNat (fun i => b2i (mkK (w 8 i))) else 0) = A5 at *
  have bA5 : 0 ≤ A5 ∧ A5 ≤ 100 := by rw [← hA5]; split <;> omega
  generalize hA6 : A5 + (if what = 6 then smR 6 (fun r => b2i (0 ≤ w 2 r)) else 0) = A6 at *
  have bA6 : 0 ≤ A6 ∧ A6 ≤ 200 := by rw [← hA6]; split <;> omega
  have lp4 : ∀ k : Int, 0 ≤ k → k ≤ 4 → ∀ a : Int, a = A6 + (if what = 7 then smR k.toNat (fun r => b2i (0 ≤ w 5 r)) else 0) → V_ nX8_counted 119 [R_ 50, I_ what, I_ a, I_ k] [] μ Q := by
    refine loop_up _ (fun k h0 h1 ih => ?_)
    intro a ha
    have bb := smb (n := k.toNat) (f := fun r => b2i (0 ≤ w 5 r)) (fun k => b2i_01 _)
    have ba : 0 ≤ a ∧ a ≤ 300 := by rw [ha]; split <;> omega
    have hk : k < 4 → _ := fun q : k < 4 => (hr.2.1 k.toNat (by omega)).1
    unfold ctC at h
    refine v_iload_n dX8_counted_119 rfl rfl ?_
    refine v_iconst dX8_counted_120 (by decide) ?_
    refine v_icmp_ge (tgt := 153) dX8_counted_121 (by decide) (fun hc_121 => ?_) (fun hc_121 => ?_)
    · refine v_iload_n dX8_counted_153 rfl rfl ?_
      refine v_if_ne (tgt := 164) dX8_counted_154 (by decide) (fun hc_154 => ?_) (fun hc_154 => ?_)
      · refine v_iload_n dX8_counted_164 rfl rfl ?_
        refine v_iconst dX8_counted_165 (by decide) ?_
        refine v_icmp_ne (tgt := 176) dX8_counted_166 (by decide) (fun hc_166 => ?_) (fun hc_166 => ?_)
        · refine v_iload_n dX8_counted_176 rfl rfl ?_
          refine v_iconst dX8_counted_177 (by decide) ?_
          refine v_icmp_ne (tgt := 188) dX8_counted_178 (by decide) (fun hc_178 => ?_) (fun hc_178 => ?_)
          · refine v_iload_n dX8_counted_188 rfl rfl ?_
            refine v_iconst dX8_counted_189 (by decide) ?_
            refine v_icmp_ne (tgt := 200) dX8_counted_190 (by decide) (fun hc_190 => ?_) (fun hc_190 => ?_)
            · refine v_iload_n dX8_counted_200 rfl rfl ?_
              refine v_ireturn dX8_counted_201 rfl ?_
              (first
                | rwa [if_pos (by omega), ← c1.1] at h
                | rwa [if_neg (by omega), if_pos (by omega), ← c1.2] at h
                | rwa [if_neg (by omega), if_neg (by omega), if_pos (by omega), ← hm1] at h
                | rwa [if_neg (by omega), if_neg (by omega), if_neg (by omega), if_neg (by omega), if_pos (by omega), ← hv1] at h
                | (have hk4 : k.toNat = 4 := by omega
                   rw [hk4] at ha
                   rcases (show what = 3 ∨ what = 5 ∨ what = 6 ∨ what = 7 by omega) with e | e | e | e
                   · subst e
                     simp at ha hA3 hA5 hA6
                     rw [ha, ← hA6, ← hA5, ← hA3]
                     simpa using h
                   · subst e
                     simp at ha hA3 hA5 hA6
                     rw [ha, ← hA6, ← hA5, ← hA3]
                     simpa [kbC] using h
                   · subst e
                     simp at ha hA3 hA5 hA6
                     rw [ha, ← hA6, ← hA5, ← hA3]
                     simpa using h
                   · subst e
                     simp at ha hA3 hA5 hA6
                     rw [ha, ← hA6, ← hA5, ← hA3]
                     simpa using h))
            · refine v_aload_n dX8_counted_193 rfl rfl ?_
              refine v_getI dX8_counted_194 fX8_186 rfl rfl rfl ?_
              refine v_goto (tgt := 201) dX8_counted_197 (by decide) ?_
              refine v_ireturn dX8_counted_201 rfl ?_
              (first
                | rwa [if_pos (by omega), ← c1.1] at h
                | rwa [if_neg (by omega), if_pos (by omega), ← c1.2] at h
                | rwa [if_neg (by omega), if_neg (by omega), if_pos (by omega), ← hm1] at h
                | rwa [if_neg (by omega), if_neg (by omega), if_neg (by omega), if_neg (by omega), if_pos (by omega), ← hv1] at h
                | (have hk4 : k.toNat = 4 := by omega
                   rw [hk4] at ha
                   rcases (show what = 3 ∨ what = 5 ∨ what = 6 ∨ what = 7 by omega) with e | e | e | e
                   · subst e
                     simp at ha hA3 hA5 hA6
                     rw [ha, ← hA6, ← hA5, ← hA3]
                     simpa using h
                   · subst e
                     simp at ha hA3 hA5 hA6
                     rw [ha, ← hA6, ← hA5, ← hA3]
                     simpa [kbC] using h
                   · subst e
                     simp at ha hA3 hA5 hA6
                     rw [ha, ← hA6, ← hA5, ← hA3]
                     simpa using h
                   · subst e
                     simp at ha hA3 hA5 hA6
                     rw [ha, ← hA6, ← hA5, ← hA3]
                     simpa using h))
          · refine v_aload_n dX8_counted_181 rfl rfl ?_
            refine v_getI dX8_counted_182 fX8_189 rfl rfl rfl ?_
            refine v_goto (tgt := 201) dX8_counted_185 (by decide) ?_
            refine v_ireturn dX8_counted_201 rfl ?_
            (first
              | rwa [if_pos (by omega), ← c1.1] at h
              | rwa [if_neg (by omega), if_pos (by omega), ← c1.2] at h
              | rwa [if_neg (by omega), if_neg (by omega), if_pos (by omega), ← hm1] at h
              | rwa [if_neg (by omega), if_neg (by omega), if_neg (by omega), if_neg (by omega), if_pos (by omega), ← hv1] at h
              | (have hk4 : k.toNat = 4 := by omega
                 rw [hk4] at ha
                 rcases (show what = 3 ∨ what = 5 ∨ what = 6 ∨ what = 7 by omega) with e | e | e | e
                 · subst e
                   simp at ha hA3 hA5 hA6
                   rw [ha, ← hA6, ← hA5, ← hA3]
                   simpa using h
                 · subst e
                   simp at ha hA3 hA5 hA6
                   rw [ha, ← hA6, ← hA5, ← hA3]
                   simpa [kbC] using h
                 · subst e
                   simp at ha hA3 hA5 hA6
                   rw [ha, ← hA6, ← hA5, ← hA3]
                   simpa using h
                 · subst e
                   simp at ha hA3 hA5 hA6
                   rw [ha, ← hA6, ← hA5, ← hA3]
                   simpa using h))
        · refine v_aload_n dX8_counted_169 rfl rfl ?_
          refine v_getI dX8_counted_170 fX8_183 rfl rfl rfl ?_
          refine v_goto (tgt := 201) dX8_counted_173 (by decide) ?_
          refine v_ireturn dX8_counted_201 rfl ?_
          (first
            | rwa [if_pos (by omega), ← c1.1] at h
            | rwa [if_neg (by omega), if_pos (by omega), ← c1.2] at h
            | rwa [if_neg (by omega), if_neg (by omega), if_pos (by omega), ← hm1] at h
            | rwa [if_neg (by omega), if_neg (by omega), if_neg (by omega), if_neg (by omega), if_pos (by omega), ← hv1] at h
            | (have hk4 : k.toNat = 4 := by omega
               rw [hk4] at ha
               rcases (show what = 3 ∨ what = 5 ∨ what = 6 ∨ what = 7 by omega) with e | e | e | e
               · subst e
                 simp at ha hA3 hA5 hA6
                 rw [ha, ← hA6, ← hA5, ← hA3]
                 simpa using h
               · subst e
                 simp at ha hA3 hA5 hA6
                 rw [ha, ← hA6, ← hA5, ← hA3]
                 simpa [kbC] using h
               · subst e
                 simp at ha hA3 hA5 hA6
                 rw [ha, ← hA6, ← hA5, ← hA3]
                 simpa using h
               · subst e
                 simp at ha hA3 hA5 hA6
                 rw [ha, ← hA6, ← hA5, ← hA3]
                 simpa using h))
      · refine v_aload_n dX8_counted_157 rfl rfl ?_
        refine v_getI dX8_counted_158 fX8_180 rfl rfl rfl ?_
        refine v_goto (tgt := 201) dX8_counted_161 (by decide) ?_
        refine v_ireturn dX8_counted_201 rfl ?_
        (first
          | rwa [if_pos (by omega), ← c1.1] at h
          | rwa [if_neg (by omega), if_pos (by omega), ← c1.2] at h
          | rwa [if_neg (by omega), if_neg (by omega), if_pos (by omega), ← hm1] at h
          | rwa [if_neg (by omega), if_neg (by omega), if_neg (by omega), if_neg (by omega), if_pos (by omega), ← hv1] at h
          | (have hk4 : k.toNat = 4 := by omega
             rw [hk4] at ha
             rcases (show what = 3 ∨ what = 5 ∨ what = 6 ∨ what = 7 by omega) with e | e | e | e
             · subst e
               simp at ha hA3 hA5 hA6
               rw [ha, ← hA6, ← hA5, ← hA3]
               simpa using h
             · subst e
               simp at ha hA3 hA5 hA6
               rw [ha, ← hA6, ← hA5, ← hA3]
               simpa [kbC] using h
             · subst e
               simp at ha hA3 hA5 hA6
               rw [ha, ← hA6, ← hA5, ← hA3]
               simpa using h
             · subst e
               simp at ha hA3 hA5 hA6
               rw [ha, ← hA6, ← hA5, ← hA3]
               simpa using h))
    · refine v_iload_n dX8_counted_124 rfl rfl ?_
      refine v_iload_n dX8_counted_125 rfl rfl ?_
      refine v_bipush dX8_counted_126 (by decide) ?_
      refine v_icmp_ne (tgt := 144) dX8_counted_128 (by decide) (fun hc_128 => ?_) (fun hc_128 => ?_)
      · refine v_iconst dX8_counted_144 (by decide) ?_
        refine v_iadd dX8_counted_145 (fun ha hb => by omega) ?_
        refine v_istore_n (ls' := [_, _, _, _]) dX8_counted_146 rfl rfl rfl rfl ?_
        refine v_iinc (ls' := [_, _, _, _]) dX8_counted_147 rfl (fun hi_147 => by omega) rfl rfl ?_
        refine v_goto (tgt := 119) dX8_counted_150 (by decide) ?_
        first
          | exact ih (by omega) _ (smI h0 ha (by rw [if_neg (by omega)]))
          | exact ih (by omega) _ (smI h0 ha (by rw [if_pos (by omega), b2i_f (by omega)]))
          | exact ih (by omega) _ (smI h0 ha (by rw [if_pos (by omega), b2i_t (by omega)]))
      · refine v_aload_n dX8_counted_131 rfl rfl ?_
        refine v_getR dX8_counted_132 fX8_22 rfl rfl rfl ?_
        refine v_iload_n dX8_counted_135 rfl rfl ?_
        refine v_iald dX8_counted_136 rfl (by omega) (by omega) ?_
        rw [hk (by omega)]
        refine v_if_lt (tgt := 144) dX8_counted_137 (by decide) (fun hc_137 => ?_) (fun hc_137 => ?_)
        · refine v_iconst dX8_counted_144 (by decide) ?_
          refine v_iadd dX8_counted_145 (fun ha hb => by omega) ?_
          refine v_istore_n (ls' := [_, _, _, _]) dX8_counted_146 rfl rfl rfl rfl ?_
          refine v_iinc (ls' := [_, _, _, _]) dX8_counted_147 rfl (fun hi_147 => by omega) rfl rfl ?_
          refine v_goto (tgt := 119) dX8_counted_150 (by decide) ?_
          first
            | exact ih (by omega) _ (smI h0 ha (by rw [if_neg (by omega)]))
            | exact ih (by omega) _ (smI h0 ha (by rw [if_pos (by omega), b2i_f (by omega)]))
            | exact ih (by omega) _ (smI h0 ha (by rw [if_pos (by omega), b2i_t (by omega)]))
        · refine v_iconst dX8_counted_140 (by decide) ?_
          refine v_goto (tgt := 145) dX8_counted_141 (by decide) ?_
          refine v_iadd dX8_counted_145 (fun ha hb => by omega) ?_
          refine v_istore_n (ls' := [_, _, _, _]) dX8_counted_146 rfl rfl rfl rfl ?_
          refine v_iinc (ls' := [_, _, _, _]) dX8_counted_147 rfl (fun hi_147 => by omega) rfl rfl ?_
          refine v_goto (tgt := 119) dX8_counted_150 (by decide) ?_
          first
            | exact ih (by omega) _ (smI h0 ha (by rw [if_neg (by omega)]))
            | exact ih (by omega) _ (smI h0 ha (by rw [if_pos (by omega), b2i_f (by omega)]))
            | exact ih (by omega) _ (smI h0 ha (by rw [if_pos (by omega), b2i_t (by omega)]))
  have lp3 : ∀ k : Int, 0 ≤ k → k ≤ 6 → ∀ a : Int, a = A5 + (if what = 6 then smR k.toNat (fun r => b2i (0 ≤ w 2 r)) else 0) → V_ nX8_counted 82 [R_ 50, I_ what, I_ a, I_ k] [] μ Q := by
    refine loop_up _ (fun k h0 h1 ih => ?_)
    intro a ha
    have bb := smb (n := k.toNat) (f := fun r => b2i (0 ≤ w 2 r)) (fun k => b2i_01 _)
    have ba : 0 ≤ a ∧ a ≤ 300 := by rw [ha]; split <;> omega
    have hk : k < 6 → _ := fun q : k < 6 => (hr.1 k.toNat (by omega)).1
    refine v_iload_n dX8_counted_82 rfl rfl ?_
    refine v_bipush dX8_counted_83 (by decide) ?_
    refine v_icmp_ge (tgt := 117) dX8_counted_85 (by decide) (fun hc_85 => ?_) (fun hc_85 => ?_)
    · refine v_iconst dX8_counted_117 (by decide) ?_
      refine v_istore_n (ls' := [_, _, _, _]) dX8_counted_118 rfl rfl rfl rfl ?_
      rw [ha, show k.toNat = 6 by omega, hA6]
      exact lp4 0 (by omega) (by omega) _ (by rw [show smR (0 : Int).toNat (fun r => b2i (0 ≤ w 5 r)) = 0 from rfl]; split <;> omega)
    · refine v_iload_n dX8_counted_88 rfl rfl ?_
      refine v_iload_n dX8_counted_89 rfl rfl ?_
      refine v_bipush dX8_counted_90 (by decide) ?_
      refine v_icmp_ne (tgt := 108) dX8_counted_92 (by decide) (fun hc_92 => ?_) (fun hc_92 => ?_)
      · refine v_iconst dX8_counted_108 (by decide) ?_
        refine v_iadd dX8_counted_109 (fun ha hb => by omega) ?_
        refine v_istore_n (ls' := [_, _, _, _]) dX8_counted_110 rfl rfl rfl rfl ?_
        refine v_iinc (ls' := [_, _, _, _]) dX8_counted_111 rfl (fun hi_111 => by omega) rfl rfl ?_
        refine v_goto (tgt := 82) dX8_counted_114 (by decide) ?_
        first
          | exact ih (by omega) _ (smI h0 ha (by rw [if_neg (by omega)]))
          | exact ih (by omega) _ (smI h0 ha (by rw [if_pos (by omega), b2i_f (by omega)]))
          | exact ih (by omega) _ (smI h0 ha (by rw [if_pos (by omega), b2i_t (by omega)]))
      · refine v_aload_n dX8_counted_95 rfl rfl ?_
        refine v_getR dX8_counted_96 fX8_13 rfl rfl rfl ?_
        refine v_iload_n dX8_counted_99 rfl rfl ?_
        refine v_iald dX8_counted_100 rfl (by omega) (by omega) ?_
        rw [hk (by omega)]
        refine v_if_lt (tgt := 108) dX8_counted_101 (by decide) (fun hc_101 => ?_) (fun hc_101 => ?_)
        · refine v_iconst dX8_counted_108 (by decide) ?_
          refine v_iadd dX8_counted_109 (fun ha hb => by omega) ?_
          refine v_istore_n (ls' := [_, _, _, _]) dX8_counted_110 rfl rfl rfl rfl ?_
          refine v_iinc (ls' := [_, _, _, _]) dX8_counted_111 rfl (fun hi_111 => by omega) rfl rfl ?_
          refine v_goto (tgt := 82) dX8_counted_114 (by decide) ?_
          first
            | exact ih (by omega) _ (smI h0 ha (by rw [if_neg (by omega)]))
            | exact ih (by omega) _ (smI h0 ha (by rw [if_pos (by omega), b2i_f (by omega)]))
            | exact ih (by omega) _ (smI h0 ha (by rw [if_pos (by omega), b2i_t (by omega)]))
        · refine v_iconst dX8_counted_104 (by decide) ?_
          refine v_goto (tgt := 109) dX8_counted_105 (by decide) ?_
          refine v_iadd dX8_counted_109 (fun ha hb => by omega) ?_
          refine v_istore_n (ls' := [_, _, _, _]) dX8_counted_110 rfl rfl rfl rfl ?_
          refine v_iinc (ls' := [_, _, _, _]) dX8_counted_111 rfl (fun hi_111 => by omega) rfl rfl ?_
          refine v_goto (tgt := 82) dX8_counted_114 (by decide) ?_
          first
            | exact ih (by omega) _ (smI h0 ha (by rw [if_neg (by omega)]))
            | exact ih (by omega) _ (smI h0 ha (by rw [if_pos (by omega), b2i_f (by omega)]))
            | exact ih (by omega) _ (smI h0 ha (by rw [if_pos (by omega), b2i_t (by omega)]))
  have lp2 : ∀ k : Int, 0 ≤ k → k ≤ w 7 0 → ∀ a : Int, a = A3 + (if what = 5 then smR k.toNat (fun i => b2i (mkK (w 8 i))) else 0) → V_ nX8_counted 41 [R_ 50, I_ what, I_ a, I_ k] [] μ Q := by
    refine loop_up _ (fun k h0 h1 ih => ?_)
    intro a ha
    have bb := smb (n := k.toNat) (f := fun i => b2i (mkK (w 8 i))) (fun k => b2i_01 _)
    have ba : 0 ≤ a ∧ a ≤ 300 := by rw [ha]; split <;> omega
    have hk : k < w 7 0 → _ := fun q : k < w 7 0 => (hv.2.1 k h0 q).1
    have hk1 : k < w 7 0 → 1 ≤ w 8 k.toNat := fun q => by
      have := hl.2 k.toNat (by omega)
      unfold evOK at this
      rcases this with q | q | q | q | q | q | q <;> omega
    refine v_iload_n dX8_counted_41 rfl rfl ?_
    refine v_aload_n dX8_counted_42 rfl rfl ?_
    refine v_getI dX8_counted_43 fX8_186 rfl rfl rfl ?_
    refine v_icmp_ge (tgt := 80) dX8_counted_46 (by decide) (fun hc_46 => ?_) (fun hc_46 => ?_)
    · refine v_iconst dX8_counted_80 (by decide) ?_
      refine v_istore_n (ls' := [_, _, _, _]) dX8_counted_81 rfl rfl rfl rfl ?_
      rw [ha, show k.toNat = (w 7 0).toNat by omega, hA5]
      exact lp3 0 (by omega) (by omega) _ (by rw [show smR (0 : Int).toNat (fun r => b2i (0 ≤ w 2 r)) = 0 from rfl]; split <;> omega)
    · refine v_iload_n dX8_counted_49 rfl rfl ?_
      refine v_iload_n dX8_counted_50 rfl rfl ?_
      refine v_iconst dX8_counted_51 (by decide) ?_
      refine v_icmp_ne (tgt := 71) dX8_counted_52 (by decide) (fun hc_52 => ?_) (fun hc_52 => ?_)
      · refine v_iconst dX8_counted_71 (by decide) ?_
        refine v_iadd dX8_counted_72 (fun ha hb => by omega) ?_
        refine v_istore_n (ls' := [_, _, _, _]) dX8_counted_73 rfl rfl rfl rfl ?_
        refine v_iinc (ls' := [_, _, _, _]) dX8_counted_74 rfl (fun hi_74 => by omega) rfl rfl ?_
        refine v_goto (tgt := 41) dX8_counted_77 (by decide) ?_
        have hk1 := hk1 (by omega)
        first
          | exact ih (by omega) _ (smI h0 ha (by rw [if_neg (by omega)]))
          | exact ih (by omega) _ (smI h0 ha (by rw [if_pos (by omega), b2i_f (by unfold mkK; omega)]))
          | exact ih (by omega) _ (smI h0 ha (by rw [if_pos (by omega), b2i_t (by unfold mkK; omega)]))
      · refine v_aload_n dX8_counted_55 rfl rfl ?_
        refine v_getR dX8_counted_56 fX8_47 rfl rfl rfl ?_
        refine v_iconst dX8_counted_59 (by decide) ?_
        refine v_iload_n dX8_counted_60 rfl rfl ?_
        refine v_imul dX8_counted_61 (fun ha hb => by omega) ?_
        refine v_iald dX8_counted_62 rfl (by omega) (by omega) ?_
        rw [hk (by omega)]
        refine v_iconst dX8_counted_63 (by decide) ?_
        refine v_icmp_gt (tgt := 71) dX8_counted_64 (by decide) (fun hc_64 => ?_) (fun hc_64 => ?_)
        · refine v_iconst dX8_counted_71 (by decide) ?_
          refine v_iadd dX8_counted_72 (fun ha hb => by omega) ?_
          refine v_istore_n (ls' := [_, _, _, _]) dX8_counted_73 rfl rfl rfl rfl ?_
          refine v_iinc (ls' := [_, _, _, _]) dX8_counted_74 rfl (fun hi_74 => by omega) rfl rfl ?_
          refine v_goto (tgt := 41) dX8_counted_77 (by decide) ?_
          have hk1 := hk1 (by omega)
          first
            | exact ih (by omega) _ (smI h0 ha (by rw [if_neg (by omega)]))
            | exact ih (by omega) _ (smI h0 ha (by rw [if_pos (by omega), b2i_f (by unfold mkK; omega)]))
            | exact ih (by omega) _ (smI h0 ha (by rw [if_pos (by omega), b2i_t (by unfold mkK; omega)]))
        · refine v_iconst dX8_counted_67 (by decide) ?_
          refine v_goto (tgt := 72) dX8_counted_68 (by decide) ?_
          refine v_iadd dX8_counted_72 (fun ha hb => by omega) ?_
          refine v_istore_n (ls' := [_, _, _, _]) dX8_counted_73 rfl rfl rfl rfl ?_
          refine v_iinc (ls' := [_, _, _, _]) dX8_counted_74 rfl (fun hi_74 => by omega) rfl rfl ?_
          refine v_goto (tgt := 41) dX8_counted_77 (by decide) ?_
          have hk1 := hk1 (by omega)
          first
            | exact ih (by omega) _ (smI h0 ha (by rw [if_neg (by omega)]))
            | exact ih (by omega) _ (smI h0 ha (by rw [if_pos (by omega), b2i_f (by unfold mkK; omega)]))
            | exact ih (by omega) _ (smI h0 ha (by rw [if_pos (by omega), b2i_t (by unfold mkK; omega)]))
  have lp1 : ∀ k : Int, 0 ≤ k → k ≤ w 17 0 → ∀ a : Int, a = 0 + (if what = 3 then smR k.toNat (fun k => b2i (liveC w k)) else 0) → V_ nX8_counted 4 [R_ 50, I_ what, I_ a, I_ k] [] μ Q := by
    refine loop_up _ (fun k h0 h1 ih => ?_)
    intro a ha
    have bb := smb (n := k.toNat) (f := fun k => b2i (liveC w k)) (fun k => b2i_01 _)
    have ba : 0 ≤ a ∧ a ≤ 300 := by rw [ha]; split <;> omega
    refine v_iload_n dX8_counted_4 rfl rfl ?_
    refine v_aload_n dX8_counted_5 rfl rfl ?_
    refine v_getI dX8_counted_6 fX8_189 rfl rfl rfl ?_
    refine v_icmp_ge (tgt := 39) dX8_counted_9 (by decide) (fun hc_9 => ?_) (fun hc_9 => ?_)
    · refine v_iconst dX8_counted_39 (by decide) ?_
      refine v_istore_n (ls' := [_, _, _, _]) dX8_counted_40 rfl rfl rfl rfl ?_
      rw [ha, show k.toNat = (w 17 0).toNat by omega, Int.zero_add, hA3]
      exact lp2 0 (by omega) (by omega) _ (by rw [show smR (0 : Int).toNat (fun i => b2i (mkK (w 8 i))) = 0 from rfl]; split <;> omega)
    · refine v_iload_n dX8_counted_12 rfl rfl ?_
      refine v_iload_n dX8_counted_13 rfl rfl ?_
      refine v_iconst dX8_counted_14 (by decide) ?_
      refine v_icmp_ne (tgt := 30) dX8_counted_15 (by decide) (fun hc_15 => ?_) (fun hc_15 => ?_)
      · refine v_iconst dX8_counted_30 (by decide) ?_
        refine v_iadd dX8_counted_31 (fun ha hb => by omega) ?_
        refine v_istore_n (ls' := [_, _, _, _]) dX8_counted_32 rfl rfl rfl rfl ?_
        refine v_iinc (ls' := [_, _, _, _]) dX8_counted_33 rfl (fun hi_33 => by omega) rfl rfl ?_
        refine v_goto (tgt := 4) dX8_counted_36 (by decide) ?_
        first
          | exact ih (by omega) _ (smI h0 ha (by rw [if_neg (by omega)]))
          | exact ih (by omega) _ (smI h0 ha (by rw [if_pos (by omega), b2i_f hc_23]))
          | exact ih (by omega) _ (smI h0 ha (by rw [if_pos (by omega), b2i_t hc_23]))
      · refine v_aload_n dX8_counted_18 rfl rfl ?_
        refine v_iload_n dX8_counted_19 rfl rfl ?_
        refine v_callVi [_] dX8_counted_20 lX8_223 kvX8_isLive (plX8 _ _) (Or.inr rfl) rfl rfl rfl rfl rfl rfl rfl rfl rfl (c_X8_isLive hp hm (by omega) ?_)
        refine v_ifb_eq (tgt := 30) dX8_counted_23 (by decide) (fun hc_23 => ?_) (fun hc_23 => ?_)
        · refine v_iconst dX8_counted_30 (by decide) ?_
          refine v_iadd dX8_counted_31 (fun ha hb => by omega) ?_
          refine v_istore_n (ls' := [_, _, _, _]) dX8_counted_32 rfl rfl rfl rfl ?_
          refine v_iinc (ls' := [_, _, _, _]) dX8_counted_33 rfl (fun hi_33 => by omega) rfl rfl ?_
          refine v_goto (tgt := 4) dX8_counted_36 (by decide) ?_
          first
            | exact ih (by omega) _ (smI h0 ha (by rw [if_neg (by omega)]))
            | exact ih (by omega) _ (smI h0 ha (by rw [if_pos (by omega), b2i_f hc_23]))
            | exact ih (by omega) _ (smI h0 ha (by rw [if_pos (by omega), b2i_t hc_23]))
        · refine v_iconst dX8_counted_26 (by decide) ?_
          refine v_goto (tgt := 31) dX8_counted_27 (by decide) ?_
          refine v_iadd dX8_counted_31 (fun ha hb => by omega) ?_
          refine v_istore_n (ls' := [_, _, _, _]) dX8_counted_32 rfl rfl rfl rfl ?_
          refine v_iinc (ls' := [_, _, _, _]) dX8_counted_33 rfl (fun hi_33 => by omega) rfl rfl ?_
          refine v_goto (tgt := 4) dX8_counted_36 (by decide) ?_
          first
            | exact ih (by omega) _ (smI h0 ha (by rw [if_neg (by omega)]))
            | exact ih (by omega) _ (smI h0 ha (by rw [if_pos (by omega), b2i_f hc_23]))
            | exact ih (by omega) _ (smI h0 ha (by rw [if_pos (by omega), b2i_t hc_23]))
  refine v_iconst dX8_counted_0 (by decide) ?_
  refine v_istore_n (ls' := [_, _, _, _]) dX8_counted_1 rfl rfl rfl rfl ?_
  refine v_iconst dX8_counted_2 (by decide) ?_
  refine v_istore_n (ls' := [_, _, _, _]) dX8_counted_3 rfl rfl rfl rfl ?_
  exact lp1 0 (by omega) (by omega) _ (by rw [show smR (0 : Int).toNat (fun k => b2i (liveC w k)) = 0 from rfl]; split <;> omega)
set_option maxRecDepth 10000 in
theorem c_X8_count {what : Int} (hw : CW w) (hc : CP μ w) (hr : CR μ w) (h1 : ¬ (0 ≤ what ∧ what ≤ 7) → Q (I_ (-1)) μ) (h2 : (0 ≤ what ∧ what ≤ 7) → Q (I_ (ctC w what)) μ) : V_ nX8_count 0 [R_ 50, I_ what] [] μ Q := by
  refine v_iload_n dX8_count_0 rfl rfl ?_
  refine v_iconst dX8_count_1 (by decide) ?_
  refine v_bipush dX8_count_2 (by decide) ?_
  refine v_callSi [_, _, _] dX8_count_4 lX8_112 ksX8_in (plX8 _ _) (Or.inr rfl) rfl rfl rfl rfl rfl rfl (c_X8_in ?_)
  refine v_ifb_eq (tgt := 18) dX8_count_7 (by decide) (fun hc_7 => ?_) (fun hc_7 => ?_)
  · refine v_iconst dX8_count_18 (by decide) ?_
    refine v_ireturn dX8_count_19 rfl ?_
    first | exact h1 (by omega) | exact h2 (by omega)
  · refine v_aload_n dX8_count_10 rfl rfl ?_
    refine v_iload_n dX8_count_11 rfl rfl ?_
    refine v_callVi [_] dX8_count_12 lX8_332 kvX8_counted (plX8 _ _) (Or.inl rfl) rfl rfl rfl rfl rfl rfl rfl rfl rfl (c_X8_counted hw hc hr (by omega) ?_)
    refine v_goto (tgt := 19) dX8_count_15 (by decide) ?_
    refine v_ireturn dX8_count_19 rfl ?_
    first | exact h1 (by omega) | exact h2 (by omega)
end
