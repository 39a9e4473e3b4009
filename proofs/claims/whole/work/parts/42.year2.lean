/-! an event read -/
section
variable {μ : Mem_} {Q : PV → Mem_ → Prop} {tx : Nat → Int} {n i d : Nat} {s : EvL}
def ivPost (μ m : Mem_) (s : EvL) (r : Nat × Option (Int × Int × Int × Int)) : Prop := frL μ m ∧ stS m r ∧ LgC m (match r.2 with | none => s | some ev => s ++ [ev])
set_option maxRecDepth 10000 in
set_option maxHeartbeats 2000000 in
theorem c_X3_readEvent {k made : Int} (hd : isSt d) (ht : TxC tx n μ) (hi : μ 26 2 = (i : Int)) (hin : i < n) (hw : μ 26 3 = -9) (hL : LgC μ s) (h40 : s.length < 40) (h : ∀ m : Mem_, ivPost μ m s (evP tx n (μ d 0) (μ d 1) made k i) → Q U_ m) : V_ nX3_readEvent 0 [R_ 26, R_ 12, I_ k, R_ d, I_ made, U_, U_, U_] [] μ Q := by
  have hst := hd
  have ht1 := ht.1
  have f1 : frS μ (mset μ 26 2 ((i : Int) + 1)) := fun o k q => mset_off (by omega)
  have f149 : ∀ (m : Mem_) (ra rb : Int), frS μ m → stS m (evP tx n (μ d 0) (μ d 1) made k i) → (∀ v, (evP tx n (μ d 0) (μ d 1) made k i).2 = some v → v = (k, ra, rb, chN k (tx i))) → V_ nX3_readEvent 149 [R_ 26, R_ 12, I_ k, R_ d, I_ made, I_ (chN k (tx i)), I_ ra, I_ rb] [] m Q := by
    intro m ra rb a1 a2 a3
    have hL2 := a1.lg hL
    have hl0 := hL2.1.1
    refine v_aload_n dX3_readEvent_149 rfl rfl ?_
    refine v_getI dX3_readEvent_150 fX3_15 rfl rfl rfl ?_
    rw [a2.2]
    refine v_bipush dX3_readEvent_153 (by decide) ?_
    refine v_icmp_ne (tgt := 169) dX3_readEvent_155 (by decide) (fun hc_155 => ?_) (fun hc_155 => ?_)
    · refine v_return dX3_readEvent_169 rfl ?_
      refine h m ⟨a1.L, a2, ?_⟩
      match e : evP tx n (μ d 0) (μ d 1) made k i, hc_155 with
      | (j, none), _ => exact hL2
      | (j, some v), z => exact absurd rfl z
    · refine v_aload_n dX3_readEvent_158 rfl rfl ?_
      refine v_iload_n dX3_readEvent_159 rfl rfl ?_
      refine v_iload dX3_readEvent_160 rfl ?_
      refine v_iload dX3_readEvent_162 rfl ?_
      refine v_iload dX3_readEvent_164 rfl ?_
      refine v_callVv [_, _, _, _] dX3_readEvent_166 lX3_109 kvX0_add (plX0 _ _) rfl rfl rfl rfl rfl rfl rfl rfl rfl rfl (c_X0_add_12 (by omega) ?_)
      refine v_return dX3_readEvent_169 rfl ?_
      refine h _ ⟨fun o k q1 q2 => ?_, ?_, ?_⟩
      · unfold addC_12
        rw [mset_off (by omega), mset_off (by omega), mset_off (by omega), mset_off (by omega), mset_off (by omega)]
        exact a1 o k q1
      · unfold stS addC_12
        rw [mset_off (by omega), mset_off (by omega), mset_off (by omega), mset_off (by omega), mset_off (by omega), mset_off (by omega), mset_off (by omega), mset_off (by omega), mset_off (by omega), mset_off (by omega)]
        exact a2
      · match e : evP tx n (μ d 0) (μ d 1) made k i, a3, hc_155 with
        | (j, none), _, z => exact absurd (by show ((j : Nat) : Int) ≠ -9; omega) z
        | (j, some v), a3, _ =>
          rw [a3 v rfl]
          exact LgC_add hL2 h40 _ _ _ _
  have f132 : ∀ (m : Mem_) (ra rb : Int), frS μ m → stS m (andP (evA tx n (μ d 0) (μ d 1) made k (i + 1)) (fun _ j => evB tx n (μ d 0) (μ d 1) k j)) → (∀ v, (evA tx n (μ d 0) (μ d 1) made k (i + 1)).2 = some v → ra = v) → (∀ v, (andP (evA tx n (μ d 0) (μ d 1) made k (i + 1)) (fun _ j => evB tx n (μ d 0) (μ d 1) k j)).2 = some v → rb = v) → V_ nX3_readEvent 132 [R_ 26, R_ 12, I_ k, R_ d, I_ made, I_ (chN k (tx i)), I_ ra, I_ rb] [] m Q := by
    intro m ra rb a1 a2 a3 a4
    rcases andP2 (evA tx n (μ d 0) (μ d 1) made k (i + 1)) (fun j => evB tx n (μ d 0) (μ d 1) k j) (fun a b l => if k = 7 ∧ a = b then (l, none) else (l, some (k, a, b, chN k (tx i)))) with ⟨l, e1, e2⟩ | ⟨j, v, l, w, e0, e1, e2⟩
    · have e3 : evP tx n (μ d 0) (μ d 1) made k i = (l, none) := e2
      rw [e1] at a2
      refine v_iload_n dX3_readEvent_132 rfl rfl ?_
      refine v_bipush dX3_readEvent_133 (by decide) ?_
      refine v_icmp_ne (tgt := 149) dX3_readEvent_135 (by decide) (fun hc_135 => ?_) (fun hc_135 => ?_)
      · exact f149 m ra rb a1 (by rw [e3]; exact a2) (by rw [e3]; intro v hv; cases hv)
      · refine v_iload dX3_readEvent_138 rfl ?_
        refine v_iload dX3_readEvent_140 rfl ?_
        refine v_icmp_ne (tgt := 149) dX3_readEvent_142 (by decide) (fun hc_142 => ?_) (fun hc_142 => ?_)
        · exact f149 m ra rb a1 (by rw [e3]; exact a2) (by rw [e3]; intro v hv; cases hv)
        · refine v_aload_n dX3_readEvent_145 rfl rfl ?_
          refine v_callVv [] dX3_readEvent_146 lX3_69 kvX3_stop (plX3 _ _) rfl rfl rfl rfl rfl rfl rfl rfl rfl rfl (c_X3_stopC a2 (fun m2 b1 b2 => ?_))
          exact f149 m2 ra rb (a1.tr b1) (by rw [e3]; exact b2) (by rw [e3]; intro v hv; cases hv)
    · have e3 : evP tx n (μ d 0) (μ d 1) made k i = (if k = 7 ∧ v = w then (l, none) else (l, some (k, v, w, chN k (tx i)))) := e2
      rw [e1] at a2 a4
      have q1 : ra = v := a3 v (by rw [e0])
      have q2 : rb = w := a4 w rfl
      subst q1 q2
      refine v_iload_n dX3_readEvent_132 rfl rfl ?_
      refine v_bipush dX3_readEvent_133 (by decide) ?_
      refine v_icmp_ne (tgt := 149) dX3_readEvent_135 (by decide) (fun hc_135 => ?_) (fun hc_135 => ?_)
      · rw [if_neg (by omega)] at e3
        exact f149 m _ _ a1 (by rw [e3]; exact a2) (by rw [e3]; intro v hv; cases hv; rfl)
      · refine v_iload dX3_readEvent_138 rfl ?_
        refine v_iload dX3_readEvent_140 rfl ?_
        refine v_icmp_ne (tgt := 149) dX3_readEvent_142 (by decide) (fun hc_142 => ?_) (fun hc_142 => ?_)
        · rw [if_neg (by omega)] at e3
          exact f149 m _ _ a1 (by rw [e3]; exact a2) (by rw [e3]; intro v hv; cases hv; rfl)
        · refine v_aload_n dX3_readEvent_145 rfl rfl ?_
          refine v_callVv [] dX3_readEvent_146 lX3_69 kvX3_stop (plX3 _ _) rfl rfl rfl rfl rfl rfl rfl rfl rfl rfl (c_X3_stopC a2 (fun m2 b1 b2 => ?_))
          rw [if_pos (by omega)] at e3
          exact f149 m2 _ _ (a1.tr b1) (by rw [e3]; exact b2) (by rw [e3]; intro v hv; cases hv)
  have f87 : ∀ (m : Mem_) (ra : Int), frS μ m → stS m (evA tx n (μ d 0) (μ d 1) made k (i + 1)) → (∀ v, (evA tx n (μ d 0) (μ d 1) made k (i + 1)).2 = some v → ra = v) → V_ nX3_readEvent 87 [R_ 26, R_ 12, I_ k, R_ d, I_ made, I_ (chN k (tx i)), I_ ra, I_ 0] [] m Q := by
    intro m ra a1 a2 a3
    have hasc : ∀ {α β γ : Type} (a : Nat × Option α) (f : Nat → Nat × Option β) (g : Nat → Nat × Option γ), andP (andP a (fun _ j => f j)) (fun _ j => g j) = andP a (fun _ j => andP (f j) (fun _ l => g l)) := by
      intro α β γ a f g
      match a with
      | (j, none) => rfl
      | (j, some v) => rfl
    refine v_iload_n dX3_readEvent_87 rfl rfl ?_
    refine v_bipush dX3_readEvent_88 (by decide) ?_
    refine v_icmp_eq (tgt := 132) dX3_readEvent_90 (by decide) (fun hc_90 => ?_) (fun hc_90 => ?_)
    · have eB : ∀ j, evB tx n (μ d 0) (μ d 1) k j = (j, some 0) := fun j => by
        unfold evB
        rw [if_pos (by omega)]
      refine f132 m ra 0 a1 ?_ a3 ?_
      · simp only [eB]
        match evA tx n (μ d 0) (μ d 1) made k (i + 1), a2 with
        | (j, none), a2 => exact a2
        | (j, some v), a2 => exact a2
      · simp only [eB]
        intro v hv
        match evA tx n (μ d 0) (μ d 1) made k (i + 1), hv with
        | (j, some v), hv => cases hv; rfl
    · refine v_aload_n dX3_readEvent_93 rfl rfl ?_
      refine v_iload_n dX3_readEvent_94 rfl rfl ?_
      refine v_callSi [_] dX3_readEvent_95 lX3_106 ksX3_joint (plX3 _ _) (Or.inl rfl) rfl rfl rfl rfl rfl rfl (c_X3_joint ?_)
      refine v_callVv [_] dX3_readEvent_98 lX3_82 kvX3_expect (plX3 _ _) rfl rfl rfl rfl rfl rfl rfl rfl rfl rfl (c_X3_expectC (a1.tx ht) a2 (by unfold joN; split <;> (try split) <;> omega) (fun m2 b1 b2 => ?_))
      refine v_iload_n dX3_readEvent_101 rfl rfl ?_
      refine v_iconst dX3_readEvent_102 (by decide) ?_
      refine v_icmp_eq (tgt := 111) dX3_readEvent_103 (by decide) (fun hc_103 => ?_) (fun hc_103 => ?_)
      · refine v_aload_n dX3_readEvent_111 rfl rfl ?_
        refine v_aload_n dX3_readEvent_112 rfl rfl ?_
        refine v_getI dX3_readEvent_113 fX3_56 (shp_st hst) (fk_st0 hst) rfl ?_
        rw [(a1.tr b1) d 0 (by omega)]
        refine v_callVi [_] dX3_readEvent_116 lX3_79 kvX3_figure (plX3 _ _) (Or.inl rfl) rfl rfl rfl rfl rfl rfl rfl rfl rfl (c_X3_figureC ((a1.tr b1).tx ht) b2 (fun m3 r3 c1 c2 c3 => ?_))
        refine v_goto (tgt := 130) dX3_readEvent_119 (by decide) ?_
        refine v_istore (ls' := [_, _, _, _, _, _, _, _]) dX3_readEvent_130 rfl rfl rfl ?_
        have eB : ∀ j, evB tx n (μ d 0) (μ d 1) k j = andP (expP tx n (joN k) j) (fun _ l => figP tx n (μ d 0) l) := fun j => by
          unfold evB
          rw [if_neg (by omega)]
          simp only [if_pos (show k = 4 ∨ k = 5 by omega)]
        refine f132 m3 ra r3 ((a1.tr b1).tr c1) ?_ a3 ?_
        · simp only [eB]
          rw [← hasc]
          exact c2
        · simp only [eB]
          rw [← hasc]
          exact c3
      · refine v_iload_n dX3_readEvent_106 rfl rfl ?_
        refine v_iconst dX3_readEvent_107 (by decide) ?_
        refine v_icmp_ne (tgt := 122) dX3_readEvent_108 (by decide) (fun hc_108 => ?_) (fun hc_108 => ?_)
        · refine v_aload_n dX3_readEvent_122 rfl rfl ?_
          refine v_aload_n dX3_readEvent_123 rfl rfl ?_
          refine v_getI dX3_readEvent_124 fX3_63 (shp_st hst) (fk_st1 hst) rfl ?_
          rw [(a1.tr b1) d 1 (by omega)]
          refine v_callVi [_] dX3_readEvent_127 lX3_72 kvX3_number (plX3 _ _) (Or.inl rfl) rfl rfl rfl rfl rfl rfl rfl rfl rfl (c_X3_numberC ((a1.tr b1).tx ht) b2 (fun m3 r3 c1 c2 c3 => ?_))
          refine v_istore (ls' := [_, _, _, _, _, _, _, _]) dX3_readEvent_130 rfl rfl rfl ?_
          have eB : ∀ j, evB tx n (μ d 0) (μ d 1) k j = andP (expP tx n (joN k) j) (fun _ l => numP tx n (μ d 1) l) := fun j => by
            unfold evB
            rw [if_neg (by omega)]
            simp only [if_neg (show ¬ (k = 4 ∨ k = 5) by omega)]
          refine f132 m3 ra r3 ((a1.tr b1).tr c1) ?_ a3 ?_
          · simp only [eB]
            rw [← hasc]
            exact c2
          · simp only [eB]
            rw [← hasc]
            exact c3
        · refine v_aload_n dX3_readEvent_111 rfl rfl ?_
          refine v_aload_n dX3_readEvent_112 rfl rfl ?_
          refine v_getI dX3_readEvent_113 fX3_56 (shp_st hst) (fk_st0 hst) rfl ?_
          rw [(a1.tr b1) d 0 (by omega)]
          refine v_callVi [_] dX3_readEvent_116 lX3_79 kvX3_figure (plX3 _ _) (Or.inl rfl) rfl rfl rfl rfl rfl rfl rfl rfl rfl (c_X3_figureC ((a1.tr b1).tx ht) b2 (fun m3 r3 c1 c2 c3 => ?_))
          refine v_goto (tgt := 130) dX3_readEvent_119 (by decide) ?_
          refine v_istore (ls' := [_, _, _, _, _, _, _, _]) dX3_readEvent_130 rfl rfl rfl ?_
          have eB : ∀ j, evB tx n (μ d 0) (μ d 1) k j = andP (expP tx n (joN k) j) (fun _ l => figP tx n (μ d 0) l) := fun j => by
            unfold evB
            rw [if_neg (by omega)]
            simp only [if_pos (show k = 4 ∨ k = 5 by omega)]
          refine f132 m3 ra r3 ((a1.tr b1).tr c1) ?_ a3 ?_
          · simp only [eB]
            rw [← hasc]
            exact c2
          · simp only [eB]
            rw [← hasc]
            exact c3
  have f42 : V_ nX3_readEvent 42 [R_ 26, R_ 12, I_ k, R_ d, I_ made, I_ (chN k (tx i)), U_, I_ 0] [] (mset μ 26 2 ((i : Int) + 1)) Q := by
    have g0 : mset μ 26 2 ((i : Int) + 1) d 0 = μ d 0 := mset_off (by omega)
    have g1 : mset μ 26 2 ((i : Int) + 1) d 1 = μ d 1 := mset_off (by omega)
    have g2 : stS (mset μ 26 2 ((i : Int) + 1)) (i + 1, some (0 : Int)) := ⟨by rw [mset_same]; show _ = ((i + 1 : Nat) : Int); omega, by rw [mset_off (by omega)]; exact hw⟩
    refine v_iload_n dX3_readEvent_42 rfl rfl ?_
    refine v_iconst dX3_readEvent_43 (by decide) ?_
    refine v_icmp_eq (tgt := 53) dX3_readEvent_44 (by decide) (fun hc_44 => ?_) (fun hc_44 => ?_)
    · refine v_aload_n dX3_readEvent_53 rfl rfl ?_
      refine v_aload_n dX3_readEvent_54 rfl rfl ?_
      refine v_getI dX3_readEvent_55 fX3_56 (shp_st hst) (fk_st0 hst) rfl ?_
      rw [g0]
      refine v_callVi [_] dX3_readEvent_58 lX3_79 kvX3_figure (plX3 _ _) (Or.inl rfl) rfl rfl rfl rfl rfl rfl rfl rfl rfl (c_X3_figureC (f1.tx ht) g2 (fun m2 r2 b1 b2 b3 => ?_))
      refine v_istore (ls' := [_, _, _, _, _, _, _, _]) dX3_readEvent_61 rfl rfl rfl ?_
      refine v_goto (tgt := 87) dX3_readEvent_63 (by decide) ?_
      refine f87 m2 r2 (f1.tr b1) ?_ ?_ <;> unfold evA <;> rw [if_pos (by omega)] <;> assumption
    · refine v_iload_n dX3_readEvent_47 rfl rfl ?_
      refine v_bipush dX3_readEvent_48 (by decide) ?_
      refine v_icmp_ne (tgt := 66) dX3_readEvent_50 (by decide) (fun hc_50 => ?_) (fun hc_50 => ?_)
      · refine v_aload_n dX3_readEvent_66 rfl rfl ?_
        refine v_iload_n dX3_readEvent_67 rfl rfl ?_
        refine v_bipush dX3_readEvent_68 (by decide) ?_
        refine v_icmp_ne (tgt := 80) dX3_readEvent_70 (by decide) (fun hc_70 => ?_) (fun hc_70 => ?_)
        · refine v_iload dX3_readEvent_80 rfl ?_
          refine v_callVi [_] dX3_readEvent_82 lX3_72 kvX3_number (plX3 _ _) (Or.inl rfl) rfl rfl rfl rfl rfl rfl rfl rfl rfl (c_X3_numberC (f1.tx ht) g2 (fun m2 r2 b1 b2 b3 => ?_))
          refine v_istore (ls' := [_, _, _, _, _, _, _, _]) dX3_readEvent_85 rfl rfl rfl ?_
          refine f87 m2 r2 (f1.tr b1) ?_ ?_ <;> unfold evA <;> rw [if_neg (by omega), if_neg (by omega)] <;> assumption
        · refine v_aload_n dX3_readEvent_73 rfl rfl ?_
          refine v_getI dX3_readEvent_74 fX3_63 (shp_st hst) (fk_st1 hst) rfl ?_
          rw [g1]
          refine v_goto (tgt := 82) dX3_readEvent_77 (by decide) ?_
          refine v_callVi [_] dX3_readEvent_82 lX3_72 kvX3_number (plX3 _ _) (Or.inl rfl) rfl rfl rfl rfl rfl rfl rfl rfl rfl (c_X3_numberC (f1.tx ht) g2 (fun m2 r2 b1 b2 b3 => ?_))
          refine v_istore (ls' := [_, _, _, _, _, _, _, _]) dX3_readEvent_85 rfl rfl rfl ?_
          refine f87 m2 r2 (f1.tr b1) ?_ ?_ <;> unfold evA <;> rw [if_neg (by omega), if_pos (by omega)] <;> assumption
      · refine v_aload_n dX3_readEvent_53 rfl rfl ?_
        refine v_aload_n dX3_readEvent_54 rfl rfl ?_
        refine v_getI dX3_readEvent_55 fX3_56 (shp_st hst) (fk_st0 hst) rfl ?_
        rw [g0]
        refine v_callVi [_] dX3_readEvent_58 lX3_79 kvX3_figure (plX3 _ _) (Or.inl rfl) rfl rfl rfl rfl rfl rfl rfl rfl rfl (c_X3_figureC (f1.tx ht) g2 (fun m2 r2 b1 b2 b3 => ?_))
        refine v_istore (ls' := [_, _, _, _, _, _, _, _]) dX3_readEvent_61 rfl rfl rfl ?_
        refine v_goto (tgt := 87) dX3_readEvent_63 (by decide) ?_
        refine f87 m2 r2 (f1.tr b1) ?_ ?_ <;> unfold evA <;> rw [if_pos (by omega)] <;> assumption
  refine v_iload_n dX3_readEvent_0 rfl rfl ?_
  refine v_bipush dX3_readEvent_1 (by decide) ?_
  refine v_icmp_eq (tgt := 10) dX3_readEvent_3 (by decide) (fun hc_3 => ?_) (fun hc_3 => ?_)
  · refine v_aload_n dX3_readEvent_10 rfl rfl ?_
    refine v_callVi [] dX3_readEvent_11 lX3_52 kvX3_sign (plX3 _ _) (Or.inl rfl) rfl rfl rfl rfl rfl rfl rfl rfl rfl (c_X3_sign ht hi ?_)
    rw [if_pos hin]
    refine v_bipush dX3_readEvent_14 (by decide) ?_
    refine v_icmp_ne (tgt := 23) dX3_readEvent_16 (by decide) (fun hc_16 => ?_) (fun hc_16 => ?_)
    · refine v_iconst dX3_readEvent_23 (by decide) ?_
      refine v_istore (ls' := [_, _, _, _, _, _, _, _]) dX3_readEvent_24 rfl rfl rfl ?_
      refine v_iconst dX3_readEvent_26 (by decide) ?_
      refine v_istore (ls' := [_, _, _, _, _, _, _, _]) dX3_readEvent_27 rfl rfl rfl ?_
      refine v_iconst dX3_readEvent_29 (by decide) ?_
      refine v_istore (ls' := [_, _, _, _, _, _, _, _]) dX3_readEvent_30 rfl rfl rfl ?_
      refine v_aload_n dX3_readEvent_32 rfl rfl ?_
      refine v_dupR_ dX3_readEvent_33 ?_
      refine v_getI dX3_readEvent_34 fX3_40 rfl rfl rfl ?_
      rw [hi]
      refine v_iconst dX3_readEvent_37 (by decide) ?_
      refine v_iadd dX3_readEvent_38 (fun ha hb => by omega) ?_
      refine v_putI dX3_readEvent_39 fpX3_40 rfl rfl rfl ?_
      refine v_kill (ls' := [_, _, _, _, _, _, _, _]) 6 rfl ?_
      unfold chN at f42
      first | (rwa [if_neg (by omega)] at f42) | (rwa [if_pos (by omega), if_pos (by omega)] at f42) | (rwa [if_pos (by omega), if_neg (by omega)] at f42)
    · refine v_iconst dX3_readEvent_19 (by decide) ?_
      refine v_goto (tgt := 24) dX3_readEvent_20 (by decide) ?_
      refine v_istore (ls' := [_, _, _, _, _, _, _, _]) dX3_readEvent_24 rfl rfl rfl ?_
      refine v_iconst dX3_readEvent_26 (by decide) ?_
      refine v_istore (ls' := [_, _, _, _, _, _, _, _]) dX3_readEvent_27 rfl rfl rfl ?_
      refine v_iconst dX3_readEvent_29 (by decide) ?_
      refine v_istore (ls' := [_, _, _, _, _, _, _, _]) dX3_readEvent_30 rfl rfl rfl ?_
      refine v_aload_n dX3_readEvent_32 rfl rfl ?_
      refine v_dupR_ dX3_readEvent_33 ?_
      refine v_getI dX3_readEvent_34 fX3_40 rfl rfl rfl ?_
      rw [hi]
      refine v_iconst dX3_readEvent_37 (by decide) ?_
      refine v_iadd dX3_readEvent_38 (fun ha hb => by omega) ?_
      refine v_putI dX3_readEvent_39 fpX3_40 rfl rfl rfl ?_
      refine v_kill (ls' := [_, _, _, _, _, _, _, _]) 6 rfl ?_
      unfold chN at f42
      first | (rwa [if_neg (by omega)] at f42) | (rwa [if_pos (by omega), if_pos (by omega)] at f42) | (rwa [if_pos (by omega), if_neg (by omega)] at f42)
  · refine v_iconst dX3_readEvent_6 (by decide) ?_
    refine v_goto (tgt := 24) dX3_readEvent_7 (by decide) ?_
    refine v_istore (ls' := [_, _, _, _, _, _, _, _]) dX3_readEvent_24 rfl rfl rfl ?_
    refine v_iconst dX3_readEvent_26 (by decide) ?_
    refine v_istore (ls' := [_, _, _, _, _, _, _, _]) dX3_readEvent_27 rfl rfl rfl ?_
    refine v_iconst dX3_readEvent_29 (by decide) ?_
    refine v_istore (ls' := [_, _, _, _, _, _, _, _]) dX3_readEvent_30 rfl rfl rfl ?_
    refine v_aload_n dX3_readEvent_32 rfl rfl ?_
    refine v_dupR_ dX3_readEvent_33 ?_
    refine v_getI dX3_readEvent_34 fX3_40 rfl rfl rfl ?_
    rw [hi]
    refine v_iconst dX3_readEvent_37 (by decide) ?_
    refine v_iadd dX3_readEvent_38 (fun ha hb => by omega) ?_
    refine v_putI dX3_readEvent_39 fpX3_40 rfl rfl rfl ?_
    refine v_kill (ls' := [_, _, _, _, _, _, _, _]) 6 rfl ?_
    unfold chN at f42
    first | (rwa [if_neg (by omega)] at f42) | (rwa [if_pos (by omega), if_pos (by omega)] at f42) | (rwa [if_pos (by omega), if_neg (by omega)] at f42)
end
