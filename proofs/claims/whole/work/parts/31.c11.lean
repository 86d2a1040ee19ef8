/-! methods: their texts as functions, and that the machine does just that -/
abbrev kX7_forcedWithin (rf : Option Value) (hf : Hp) : (Int32 × Hp) → Prop := fun y => rf = some (.int y.1) ∧ hf = y.2
noncomputable def fX7_forcedWithin_35 (h : Hp)  : Option (Int32 × Hp) :=
  some (((-1 : Int32), h))
theorem oX7_forcedWithin_35 {d : Nat} (hd : 5 ≤ d) {h : Hp} {rf : Option Value} {hf : Hp} {x : (Int32 × Hp)} (hs : fX7_forcedWithin_35 h  = some x) (hk : (kX7_forcedWithin rf hf) x) : Go d mX7_forcedWithin 35 [none, none, none, none, none, none, none, none] [] h rf hf := by
  unfold fX7_forcedWithin_35 at hs
  refine go_iconst (v := -1) (by decide) dX7_forcedWithin_35 ?_
  obtain rfl := Option.some.inj hs
  obtain ⟨rfl, rfl⟩ := hk
  exact go_iret rfl dX7_forcedWithin_36
abbrev pX7_forcedWithin_48 (d : Nat) (x0 : Nat) (x1 : Int32) (x2 : Int32) (rf : Option Value) (hf : Hp) : (Int32 × Int32 × Hp) → Prop := fun s => Go d mX7_forcedWithin 48 [some (.ref x0), some (.int x1), some (.int x2), some (.int s.1), some (.int s.2.1), none, none, none] [] s.2.2 rf hf
noncomputable def fX7_forcedWithin_169 (h : Hp)  : Option (Int32 × Hp) :=
  some (((-1 : Int32), h))
theorem oX7_forcedWithin_169 {d : Nat} (hd : 5 ≤ d) {h : Hp} {rf : Option Value} {hf : Hp} {x : (Int32 × Hp)} (hs : fX7_forcedWithin_169 h  = some x) (hk : (kX7_forcedWithin rf hf) x) : Go d mX7_forcedWithin 169 [none, none, none, none, none, none, none, none] [] h rf hf := by
  unfold fX7_forcedWithin_169 at hs
  refine go_iconst (v := -1) (by decide) dX7_forcedWithin_169 ?_
  obtain rfl := Option.some.inj hs
  obtain ⟨rfl, rfl⟩ := hk
  exact go_iret rfl dX7_forcedWithin_170
abbrev pX7_forcedWithin_65 (d : Nat) (x0 : Nat) (x1 : Int32) (x2 : Int32) (x4 : Int32) (rf : Option Value) (hf : Hp) : (Int32 × Int32 × Hp) → Prop := fun s => Go d mX7_forcedWithin 65 [some (.ref x0), some (.int x1), some (.int x2), some (.int s.1), some (.int x4), some (.int s.2.1), none, none] [] s.2.2 rf hf
noncomputable def fX7_forcedWithin_152 (h : Hp) (x0 : Nat) (x1 : Int32) (x2 : Int32) (x3 : Int32) (x4 : Int32) : Option ((Int32 × Int32 × Hp) ⊕ (Int32 × Hp)) :=
  gO h 7 x0 (
  (fX7_linkOf h x0 x1).bind fun y10 =>
  if y10 = 0 then (
    some (.inl (x3, (x4 + Int32.ofInt 1), h))) else (
    some (.inr (x4, h))))
theorem oX7_forcedWithin_152 {d : Nat} (hd : 5 ≤ d) {h : Hp} {x0 : Nat} {x1 : Int32} {x2 : Int32} {x3 : Int32} {x4 : Int32} {rf : Option Value} {hf : Hp} {x : ((Int32 × Int32 × Hp) ⊕ (Int32 × Hp))} (hs : fX7_forcedWithin_152 h x0 x1 x2 x3 x4 = some x) (hk : (Kx (pX7_forcedWithin_48 d x0 x1 x2 rf hf) (kX7_forcedWithin rf hf)) x) : Go d mX7_forcedWithin 152 [some (.ref x0), some (.int x1), some (.int x2), some (.int x3), some (.int x4), none, none, none] [] h rf hf := by
  unfold fX7_forcedWithin_152 at hs
  refine go_aload_n (k4 := 0) rfl (Or.inr ⟨_, rfl⟩) dX7_forcedWithin_152 ?_
  refine go_iload_n (k4 := 1) rfl dX7_forcedWithin_153 ?_
  obtain ⟨g11, hs⟩ := gO_at hs
  obtain ⟨y10, ey10, hs⟩ := bindS hs
  refine go_V1 (As := [.int x1]) (st := []) g11 rfl rfl (oX7_linkOf (d := d - 1) (by omega) ey10) (by omega) mb_X7_linkOf lm_RX7_109 mi_X7_linkOf (Nat.le_of_ble_eq_true rfl) rfl dX7_forcedWithin_154 ?_
  refine go_if_eq (tgt := 163) (by decide) dX7_forcedWithin_157 (fun c => ?_) (fun c => ?_)
  · have hs := if_t c hs
    refine go_iinc (L' := [some (.ref x0), some (.int x1), some (.int x2), some (.int x3), some (.int (x4 + Int32.ofInt 1)), none, none, none]) rfl (by decide) rfl rfl dX7_forcedWithin_163 ?_
    refine go_goto (tgt := 48) (by decide) dX7_forcedWithin_166 ?_
    obtain rfl := Option.some.inj hs
    exact go_subL (L' := [some (.ref x0), some (.int x1), some (.int x2), some (.int x3), some (.int (x4 + Int32.ofInt 1)), none, none, none]) (by simp [subL, va_rf]) hk
  · have hs := if_f c hs
    refine go_iload rfl dX7_forcedWithin_160 ?_
    obtain rfl := Option.some.inj hs
    obtain ⟨rfl, rfl⟩ := hk
    exact go_iret rfl dX7_forcedWithin_162
noncomputable def fX7_forcedWithin_146 (h : Hp) (x0 : Nat) (x1 : Int32) (x2 : Int32) (x3 : Int32) (x4 : Int32) (x5 : Int32) : Option ((Int32 × Int32 × Hp) ⊕ ((Int32 × Int32 × Hp) ⊕ (Int32 × Hp))) :=
  some (.inl (x3, (x5 + Int32.ofInt 1), h))
theorem oX7_forcedWithin_146 {d : Nat} (hd : 5 ≤ d) {h : Hp} {x0 : Nat} {x1 : Int32} {x2 : Int32} {x3 : Int32} {x4 : Int32} {x5 : Int32} {rf : Option Value} {hf : Hp} {x : ((Int32 × Int32 × Hp) ⊕ ((Int32 × Int32 × Hp) ⊕ (Int32 × Hp)))} (hs : fX7_forcedWithin_146 h x0 x1 x2 x3 x4 x5 = some x) (hk : (Kx (pX7_forcedWithin_65 d x0 x1 x2 x4 rf hf) (Kx (pX7_forcedWithin_48 d x0 x1 x2 rf hf) (kX7_forcedWithin rf hf))) x) : Go d mX7_forcedWithin 146 [some (.ref x0), some (.int x1), some (.int x2), some (.int x3), some (.int x4), some (.int x5), none, none] [] h rf hf := by
  unfold fX7_forcedWithin_146 at hs
  refine go_iinc (L' := [some (.ref x0), some (.int x1), some (.int x2), some (.int x3), some (.int x4), some (.int (x5 + Int32.ofInt 1)), none, none]) rfl (by decide) rfl rfl dX7_forcedWithin_146 ?_
  refine go_goto (tgt := 65) (by decide) dX7_forcedWithin_149 ?_
  obtain rfl := Option.some.inj hs
  exact go_subL (L' := [some (.ref x0), some (.int x1), some (.int x2), some (.int x3), some (.int x4), some (.int (x5 + Int32.ofInt 1)), none, none]) (by simp [subL, va_rf]) hk
noncomputable def fX7_forcedWithin_113 (h : Hp) (x0 : Nat) (x1 : Int32) (x2 : Int32) (x3 : Int32) (x4 : Int32) (x5 : Int32) (x6 : Int32) (s0 : Int32) : Option ((Int32 × Int32 × Hp) ⊕ ((Int32 × Int32 × Hp) ⊕ (Int32 × Hp))) :=
  if s0 = 0 then (
  fX7_forcedWithin_146 h x0 x1 x2 x3 x4 x5) else (
    gO h 7 x0 (
    (fX7_forcingLeading h x0 x6 x2 (x4 - (1 : Int32))).bind fun y16 =>
    if y16.1 = (-1 : Int32) then (
    fX7_forcedWithin_146 y16.2 x0 x1 x2 x3 x4 x5) else (
      (gN y16.2 7 x0 6).bind fun v18 =>
      (wI 0 y16.2 v18 x6 x4).bind fun h19 =>
      fX7_forcedWithin_146 h19 x0 x1 x2 (1 : Int32) x4 x5)))
theorem oX7_forcedWithin_113 {d : Nat} (hd : 5 ≤ d) {h : Hp} {x0 : Nat} {x1 : Int32} {x2 : Int32} {x3 : Int32} {x4 : Int32} {x5 : Int32} {x6 : Int32} {s0 : Int32} {rf : Option Value} {hf : Hp} {x : ((Int32 × Int32 × Hp) ⊕ ((Int32 × Int32 × Hp) ⊕ (Int32 × Hp)))} (hs : fX7_forcedWithin_113 h x0 x1 x2 x3 x4 x5 x6 s0 = some x) (hk : (Kx (pX7_forcedWithin_65 d x0 x1 x2 x4 rf hf) (Kx (pX7_forcedWithin_48 d x0 x1 x2 rf hf) (kX7_forcedWithin rf hf))) x) : Go d mX7_forcedWithin 113 [some (.ref x0), some (.int x1), some (.int x2), some (.int x3), some (.int x4), some (.int x5), some (.int x6), none] [.int s0] h rf hf := by
  unfold fX7_forcedWithin_113 at hs
  refine go_istore (L' := [some (.ref x0), some (.int x1), some (.int x2), some (.int x3), some (.int x4), some (.int x5), some (.int x6), some (.int s0)]) (by decide) rfl dX7_forcedWithin_113 ?_
  refine go_iload rfl dX7_forcedWithin_115 ?_
  refine go_if_eq (tgt := 146) (by decide) dX7_forcedWithin_117 (fun c => ?_) (fun c => ?_)
  · have hs := if_t c hs
    exact go_subL (L' := [some (.ref x0), some (.int x1), some (.int x2), some (.int x3), some (.int x4), some (.int x5), none, none]) (by simp [subL, va_rf]) (oX7_forcedWithin_146 hd hs hk)
  · have hs := if_f c hs
    refine go_aload_n (k4 := 0) rfl (Or.inr ⟨_, rfl⟩) dX7_forcedWithin_120 ?_
    refine go_iload rfl dX7_forcedWithin_121 ?_
    refine go_iload_n (k4 := 2) rfl dX7_forcedWithin_123 ?_
    refine go_iload rfl dX7_forcedWithin_124 ?_
    refine go_iconst (v := 1) (by decide) dX7_forcedWithin_126 ?_
    refine go_isub dX7_forcedWithin_127 ?_
    obtain ⟨g17, hs⟩ := gO_at hs
    obtain ⟨y16, ey16, hs⟩ := bindS hs
    refine go_V1 (As := [.int x6, .int x2, .int (x4 - (1 : Int32))]) (st := []) g17 rfl rfl (oX7_forcingLeading (d := d - 1) (by omega) ey16) (by omega) mb_X7_forcingLeading lm_RX7_147 mi_X7_forcingLeading (Nat.le_of_ble_eq_true rfl) rfl dX7_forcedWithin_128 ?_
    refine go_at 131 rfl ?_
    refine go_iconst (v := -1) (by decide) dX7_forcedWithin_131 ?_
    refine go_icmp_eq (tgt := 146) (by decide) dX7_forcedWithin_132 (fun c => ?_) (fun c => ?_)
    · have hs := if_t c hs
      exact go_subL (L' := [some (.ref x0), some (.int x1), some (.int x2), some (.int x3), some (.int x4), some (.int x5), none, none]) (by simp [subL, va_rf]) (oX7_forcedWithin_146 hd hs hk)
    · have hs := if_f c hs
      refine go_aload_n (k4 := 0) rfl (Or.inr ⟨_, rfl⟩) dX7_forcedWithin_135 ?_
      obtain ⟨v18, ev18, hs⟩ := bindS hs
      refine go_gN fl_RX7_25 ev18 dX7_forcedWithin_136 ?_
      refine go_iload rfl dX7_forcedWithin_139 ?_
      refine go_iload rfl dX7_forcedWithin_141 ?_
      obtain ⟨h19, eh19, hs⟩ := bindS hs
      refine go_wIi eh19 dX7_forcedWithin_143 ?_
      refine go_iconst (v := 1) (by decide) dX7_forcedWithin_144 ?_
      refine go_istore_n (k4 := 3) (L' := [some (.ref x0), some (.int x1), some (.int x2), some (.int (1 : Int32)), some (.int x4), some (.int x5), some (.int x6), some (.int s0)]) (by decide) rfl dX7_forcedWithin_145 ?_
      exact go_subL (L' := [some (.ref x0), some (.int x1), some (.int x2), some (.int (1 : Int32)), some (.int x4), some (.int x5), none, none]) (by simp [subL, va_rf]) (oX7_forcedWithin_146 hd hs hk)
noncomputable def fX7_forcedWithin_112 (h : Hp) (x0 : Nat) (x1 : Int32) (x2 : Int32) (x3 : Int32) (x4 : Int32) (x5 : Int32) (x6 : Int32) : Option ((Int32 × Int32 × Hp) ⊕ ((Int32 × Int32 × Hp) ⊕ (Int32 × Hp))) :=
  fX7_forcedWithin_113 h x0 x1 x2 x3 x4 x5 x6 (0 : Int32)
theorem oX7_forcedWithin_112 {d : Nat} (hd : 5 ≤ d) {h : Hp} {x0 : Nat} {x1 : Int32} {x2 : Int32} {x3 : Int32} {x4 : Int32} {x5 : Int32} {x6 : Int32} {rf : Option Value} {hf : Hp} {x : ((Int32 × Int32 × Hp) ⊕ ((Int32 × Int32 × Hp) ⊕ (Int32 × Hp)))} (hs : fX7_forcedWithin_112 h x0 x1 x2 x3 x4 x5 x6 = some x) (hk : (Kx (pX7_forcedWithin_65 d x0 x1 x2 x4 rf hf) (Kx (pX7_forcedWithin_48 d x0 x1 x2 rf hf) (kX7_forcedWithin rf hf))) x) : Go d mX7_forcedWithin 112 [some (.ref x0), some (.int x1), some (.int x2), some (.int x3), some (.int x4), some (.int x5), some (.int x6), none] [] h rf hf := by
  unfold fX7_forcedWithin_112 at hs
  refine go_iconst (v := 0) (by decide) dX7_forcedWithin_112 ?_
  exact go_subL (L' := [some (.ref x0), some (.int x1), some (.int x2), some (.int x3), some (.int x4), some (.int x5), some (.int x6), none]) (by simp [subL, va_rf]) (oX7_forcedWithin_113 hd hs hk)
noncomputable def fX7_forcedWithin_65b (h : Hp) (x0 : Nat) (x1 : Int32) (x2 : Int32) (x4 : Int32) (x3 : Int32) (x5 : Int32) : Option ((Int32 × Int32 × Hp) ⊕ ((Int32 × Int32 × Hp) ⊕ (Int32 × Hp))) :=
  (gI h 7 x0 12).bind fun v9 =>
  if v9 ≤ x5 then (
  (fX7_forcedWithin_152 h x0 x1 x2 x3 x4).map (fun q => .inr q)) else (
    (gN h 7 x0 5).bind fun v12 =>
    (aI 0 h v12 x5).bind fun v13 =>
    gO h 7 x0 (
    (fX7_linkOf h x0 v13).bind fun y14 =>
    if y14 = 0 then (
      (gN h 7 x0 11).bind fun v20 =>
      (fX11_digit h v13 x2).bind fun y21 =>
      (aI 0 h v20 y21).bind fun v22 =>
      if x4 < v22 then (
      fX7_forcedWithin_112 h x0 x1 x2 x3 x4 x5 v13) else (
        fX7_forcedWithin_113 h x0 x1 x2 x3 x4 x5 v13 (1 : Int32))) else (
    fX7_forcedWithin_112 h x0 x1 x2 x3 x4 x5 v13)))
noncomputable def fX7_forcedWithin_65 (h : Hp) (x0 : Nat) (x1 : Int32) (x2 : Int32) (x3 : Int32) (x4 : Int32) (x5 : Int32) : Option ((Int32 × Int32 × Hp) ⊕ (Int32 × Hp)) := lpw (σ := (Int32 × Int32 × Hp)) (fun s => fX7_forcedWithin_65b s.2.2 x0 x1 x2 x4 s.1 s.2.1) (x3, x5, h)
theorem oX7_forcedWithin_65b {d : Nat} (hd : 5 ≤ d) {h : Hp} {x0 : Nat} {x1 : Int32} {x2 : Int32} {x3 : Int32} {x4 : Int32} {x5 : Int32} {rf : Option Value} {hf : Hp} {x : ((Int32 × Int32 × Hp) ⊕ ((Int32 × Int32 × Hp) ⊕ (Int32 × Hp)))} (hs : fX7_forcedWithin_65b h x0 x1 x2 x4 x3 x5 = some x) (hk : (Kx (pX7_forcedWithin_65 d x0 x1 x2 x4 rf hf) (Kx (pX7_forcedWithin_48 d x0 x1 x2 rf hf) (kX7_forcedWithin rf hf))) x) : Go d mX7_forcedWithin 65 [some (.ref x0), some (.int x1), some (.int x2), some (.int x3), some (.int x4), some (.int x5), none, none] [] h rf hf := by
  unfold fX7_forcedWithin_65b at hs
  refine go_iload rfl dX7_forcedWithin_65 ?_
  refine go_aload_n (k4 := 0) rfl (Or.inr ⟨_, rfl⟩) dX7_forcedWithin_67 ?_
  obtain ⟨v9, ev9, hs⟩ := bindS hs
  refine go_gI fl_RX7_44 ev9 dX7_forcedWithin_68 ?_
  refine go_icmp_ge (tgt := 152) (by decide) dX7_forcedWithin_71 (fun c => ?_) (fun c => ?_)
  · have hs := if_t c hs
    obtain ⟨q, hs2, hq⟩ := mapS hs
    clear hs
    subst hq
    exact go_subL (L' := [some (.ref x0), some (.int x1), some (.int x2), some (.int x3), some (.int x4), none, none, none]) (by simp [subL, va_rf]) (oX7_forcedWithin_152 hd hs2 hk)
  · have hs := if_f c hs
    refine go_aload_n (k4 := 0) rfl (Or.inr ⟨_, rfl⟩) dX7_forcedWithin_74 ?_
    obtain ⟨v12, ev12, hs⟩ := bindS hs
    refine go_gN fl_RX7_22 ev12 dX7_forcedWithin_75 ?_
    refine go_iload rfl dX7_forcedWithin_78 ?_
    obtain ⟨v13, ev13, hs⟩ := bindS hs
    refine go_aIi ev13 dX7_forcedWithin_80 ?_
    refine go_istore (L' := [some (.ref x0), some (.int x1), some (.int x2), some (.int x3), some (.int x4), some (.int x5), some (.int v13), none]) (by decide) rfl dX7_forcedWithin_81 ?_
    refine go_aload_n (k4 := 0) rfl (Or.inr ⟨_, rfl⟩) dX7_forcedWithin_83 ?_
    refine go_iload rfl dX7_forcedWithin_84 ?_
    refine go_at 86 rfl ?_
    obtain ⟨g15, hs⟩ := gO_at hs
    obtain ⟨y14, ey14, hs⟩ := bindS hs
    refine go_V1 (As := [.int v13]) (st := []) g15 rfl rfl (oX7_linkOf (d := d - 1) (by omega) ey14) (by omega) mb_X7_linkOf lm_RX7_109 mi_X7_linkOf (Nat.le_of_ble_eq_true rfl) rfl dX7_forcedWithin_86 ?_
    refine go_if_ne (tgt := 112) (by decide) dX7_forcedWithin_89 (fun c => ?_) (fun c => ?_)
    · have hs := if_f c hs
      exact go_subL (L' := [some (.ref x0), some (.int x1), some (.int x2), some (.int x3), some (.int x4), some (.int x5), some (.int v13), none]) (by simp [subL, va_rf]) (oX7_forcedWithin_112 hd hs hk)
    · have hs := if_t c hs
      refine go_aload_n (k4 := 0) rfl (Or.inr ⟨_, rfl⟩) dX7_forcedWithin_92 ?_
      obtain ⟨v20, ev20, hs⟩ := bindS hs
      refine go_gN fl_RX7_41 ev20 dX7_forcedWithin_93 ?_
      refine go_iload rfl dX7_forcedWithin_96 ?_
      refine go_iload_n (k4 := 2) rfl dX7_forcedWithin_98 ?_
      obtain ⟨y21, ey21, hs⟩ := bindS hs
      refine go_SN1 (As := [.int v13, .int x2]) (st := [.ref v20]) (oX11_digit (d := d - 1) (by omega) ey21) (by omega) mb_X11_digit lm_RX7_141 ms_X11_digit (Nat.le_of_ble_eq_true rfl) rfl dX7_forcedWithin_99 ?_
      obtain ⟨v22, ev22, hs⟩ := bindS hs
      refine go_aIi ev22 dX7_forcedWithin_102 ?_
      refine go_iload rfl dX7_forcedWithin_103 ?_
      refine go_at 105 rfl ?_
      refine go_icmp_gt (tgt := 112) (by decide) dX7_forcedWithin_105 (fun c => ?_) (fun c => ?_)
      · have hs := if_t c hs
        exact go_subL (L' := [some (.ref x0), some (.int x1), some (.int x2), some (.int x3), some (.int x4), some (.int x5), some (.int v13), none]) (by simp [subL, va_rf]) (oX7_forcedWithin_112 hd hs hk)
      · have hs := if_f c hs
        refine go_iconst (v := 1) (by decide) dX7_forcedWithin_108 ?_
        refine go_goto (tgt := 113) (by decide) dX7_forcedWithin_109 ?_
        exact go_subL (L' := [some (.ref x0), some (.int x1), some (.int x2), some (.int x3), some (.int x4), some (.int x5), some (.int v13), none]) (by simp [subL, va_rf]) (oX7_forcedWithin_113 hd hs hk)
theorem oX7_forcedWithin_65 {d : Nat} (hd : 5 ≤ d) {h : Hp} {x0 : Nat} {x1 : Int32} {x2 : Int32} {x3 : Int32} {x4 : Int32} {x5 : Int32} {rf : Option Value} {hf : Hp} {x : ((Int32 × Int32 × Hp) ⊕ (Int32 × Hp))} (hs : fX7_forcedWithin_65 h x0 x1 x2 x3 x4 x5 = some x) (hk : (Kx (pX7_forcedWithin_48 d x0 x1 x2 rf hf) (kX7_forcedWithin rf hf)) x) : Go d mX7_forcedWithin 65 [some (.ref x0), some (.int x1), some (.int x2), some (.int x3), some (.int x4), some (.int x5), none, none] [] h rf hf := by
  unfold fX7_forcedWithin_65 at hs
  exact lpw_go (P := pX7_forcedWithin_65 d x0 x1 x2 x4 rf hf) (fun s x hs hk => oX7_forcedWithin_65b hd hs hk) (x3, x5, h) x hs hk
noncomputable def fX7_forcedWithin_48b (h : Hp) (x0 : Nat) (x1 : Int32) (x2 : Int32) (x3 : Int32) (x4 : Int32) : Option ((Int32 × Int32 × Hp) ⊕ (Int32 × Hp)) :=
  if (20000 : Int32) < x4 then (
  (fX7_forcedWithin_169 h ).map (fun q => .inr q)) else (
    if x3 = 0 then (
    (fX7_forcedWithin_169 h ).map (fun q => .inr q)) else (
      fX7_forcedWithin_65 h x0 x1 x2 (0 : Int32) x4 (0 : Int32)))
noncomputable def fX7_forcedWithin_48 (h : Hp) (x0 : Nat) (x1 : Int32) (x2 : Int32) (x3 : Int32) (x4 : Int32) : Option (Int32 × Hp) := lpw (σ := (Int32 × Int32 × Hp)) (fun s => fX7_forcedWithin_48b s.2.2 x0 x1 x2 s.1 s.2.1) (x3, x4, h)
theorem oX7_forcedWithin_48b {d : Nat} (hd : 5 ≤ d) {h : Hp} {x0 : Nat} {x1 : Int32} {x2 : Int32} {x3 : Int32} {x4 : Int32} {rf : Option Value} {hf : Hp} {x : ((Int32 × Int32 × Hp) ⊕ (Int32 × Hp))} (hs : fX7_forcedWithin_48b h x0 x1 x2 x3 x4 = some x) (hk : (Kx (pX7_forcedWithin_48 d x0 x1 x2 rf hf) (kX7_forcedWithin rf hf)) x) : Go d mX7_forcedWithin 48 [some (.ref x0), some (.int x1), some (.int x2), some (.int x3), some (.int x4), none, none, none] [] h rf hf := by
  unfold fX7_forcedWithin_48b at hs
  refine go_iload rfl dX7_forcedWithin_48 ?_
  refine go_sipush (v := 20000) (by decide) dX7_forcedWithin_50 ?_
  refine go_icmp_gt (tgt := 169) (by decide) dX7_forcedWithin_53 (fun c => ?_) (fun c => ?_)
  · have hs := if_t c hs
    obtain ⟨q, hs2, hq⟩ := mapS hs
    clear hs
    subst hq
    exact go_subL (L' := [none, none, none, none, none, none, none, none]) (by simp [subL, va_rf]) (oX7_forcedWithin_169 hd hs2 hk)
  · have hs := if_f c hs
    refine go_iload_n (k4 := 3) rfl dX7_forcedWithin_56 ?_
    refine go_if_eq (tgt := 169) (by decide) dX7_forcedWithin_57 (fun c => ?_) (fun c => ?_)
    · have hs := if_t c hs
      obtain ⟨q, hs2, hq⟩ := mapS hs
      clear hs
      subst hq
      exact go_subL (L' := [none, none, none, none, none, none, none, none]) (by simp [subL, va_rf]) (oX7_forcedWithin_169 hd hs2 hk)
    · have hs := if_f c hs
      refine go_iconst (v := 0) (by decide) dX7_forcedWithin_60 ?_
      refine go_istore_n (k4 := 3) (L' := [some (.ref x0), some (.int x1), some (.int x2), some (.int (0 : Int32)), some (.int x4), none, none, none]) (by decide) rfl dX7_forcedWithin_61 ?_
      refine go_iconst (v := 0) (by decide) dX7_forcedWithin_62 ?_
      refine go_istore (L' := [some (.ref x0), some (.int x1), some (.int x2), some (.int (0 : Int32)), some (.int x4), some (.int (0 : Int32)), none, none]) (by decide) rfl dX7_forcedWithin_63 ?_
      exact go_subL (L' := [some (.ref x0), some (.int x1), some (.int x2), some (.int (0 : Int32)), some (.int x4), some (.int (0 : Int32)), none, none]) (by simp [subL, va_rf]) (oX7_forcedWithin_65 hd hs hk)
theorem oX7_forcedWithin_48 {d : Nat} (hd : 5 ≤ d) {h : Hp} {x0 : Nat} {x1 : Int32} {x2 : Int32} {x3 : Int32} {x4 : Int32} {rf : Option Value} {hf : Hp} {x : (Int32 × Hp)} (hs : fX7_forcedWithin_48 h x0 x1 x2 x3 x4 = some x) (hk : (kX7_forcedWithin rf hf) x) : Go d mX7_forcedWithin 48 [some (.ref x0), some (.int x1), some (.int x2), some (.int x3), some (.int x4), none, none, none] [] h rf hf := by
  unfold fX7_forcedWithin_48 at hs
  exact lpw_go (P := pX7_forcedWithin_48 d x0 x1 x2 rf hf) (fun s x hs hk => oX7_forcedWithin_48b hd hs hk) (x3, x4, h) x hs hk
noncomputable def fX7_forcedWithin (h : Hp) (x0 : Nat) (x1 : Int32) (x2 : Int32) : Option (Int32 × Hp) :=
  gO h 7 x0 (
  (fX7_tellLeastYears h x0 x2).bind fun y1 =>
  (fX7_isState y1 x1).bind fun y3 =>
  if y3 = 0 then (
  fX7_forcedWithin_35 y1 ) else (
    if (10000 : Int32) ≤ x1 then (
    fX7_forcedWithin_35 y1 ) else (
      (gN y1 7 x0 11).bind fun v4 =>
      (fX11_digit y1 x1 x2).bind fun y5 =>
      (aI 0 y1 v4 y5).bind fun v6 =>
      if v6 = (20000 : Int32) then (
      fX7_forcedWithin_35 y1 ) else (
        gO y1 7 x0 (
        (fX7_reachByTurns y1 x0 x1 x2).bind fun y7 =>
        fX7_forcedWithin_48 y7 x0 x1 x2 (1 : Int32) (1 : Int32))))))
theorem oX7_forcedWithin_0 {d : Nat} (hd : 5 ≤ d) {h : Hp} {x0 : Nat} {x1 : Int32} {x2 : Int32} {rf : Option Value} {hf : Hp} {x : (Int32 × Hp)} (hs : fX7_forcedWithin h x0 x1 x2 = some x) (hk : (kX7_forcedWithin rf hf) x) : Go d mX7_forcedWithin 0 [some (.ref x0), some (.int x1), some (.int x2), none, none, none, none, none] [] h rf hf := by
  unfold fX7_forcedWithin at hs
  refine go_aload_n (k4 := 0) rfl (Or.inr ⟨_, rfl⟩) dX7_forcedWithin_0 ?_
  refine go_iload_n (k4 := 2) rfl dX7_forcedWithin_1 ?_
  obtain ⟨g2, hs⟩ := gO_at hs
  obtain ⟨y1, ey1, hs⟩ := bindS hs
  refine go_V0 (As := [.int x2]) (st := []) g2 rfl rfl (oX7_tellLeastYears (d := d - 1) (by omega) ey1) (by omega) mb_X7_tellLeastYears lm_RX7_137 mi_X7_tellLeastYears (Nat.le_of_ble_eq_true rfl) rfl dX7_forcedWithin_2 ?_
  refine go_iload_n (k4 := 1) rfl dX7_forcedWithin_5 ?_
  obtain ⟨y3, ey3, hs⟩ := bindS hs
  refine go_S1 (As := [.int x1]) (st := []) (oX7_isState (d := d - 1) (by omega) ey3) (by omega) mb_X7_isState lm_RX7_74 ms_X7_isState (Nat.le_of_ble_eq_true rfl) rfl dX7_forcedWithin_6 ?_
  refine go_if_eq (tgt := 35) (by decide) dX7_forcedWithin_9 (fun c => ?_) (fun c => ?_)
  · have hs := if_t c hs
    exact go_subL (L' := [none, none, none, none, none, none, none, none]) (by simp [subL, va_rf]) (oX7_forcedWithin_35 hd hs hk)
  · have hs := if_f c hs
    refine go_iload_n (k4 := 1) rfl dX7_forcedWithin_12 ?_
    refine go_sipush (v := 10000) (by decide) dX7_forcedWithin_13 ?_
    refine go_icmp_ge (tgt := 35) (by decide) dX7_forcedWithin_16 (fun c => ?_) (fun c => ?_)
    · have hs := if_t c hs
      exact go_subL (L' := [none, none, none, none, none, none, none, none]) (by simp [subL, va_rf]) (oX7_forcedWithin_35 hd hs hk)
    · have hs := if_f c hs
      refine go_aload_n (k4 := 0) rfl (Or.inr ⟨_, rfl⟩) dX7_forcedWithin_19 ?_
      obtain ⟨v4, ev4, hs⟩ := bindS hs
      refine go_gN fl_RX7_41 ev4 dX7_forcedWithin_20 ?_
      refine go_iload_n (k4 := 1) rfl dX7_forcedWithin_23 ?_
      refine go_iload_n (k4 := 2) rfl dX7_forcedWithin_24 ?_
      obtain ⟨y5, ey5, hs⟩ := bindS hs
      refine go_SN1 (As := [.int x1, .int x2]) (st := [.ref v4]) (oX11_digit (d := d - 1) (by omega) ey5) (by omega) mb_X11_digit lm_RX7_141 ms_X11_digit (Nat.le_of_ble_eq_true rfl) rfl dX7_forcedWithin_25 ?_
      obtain ⟨v6, ev6, hs⟩ := bindS hs
      refine go_aIi ev6 dX7_forcedWithin_28 ?_
      refine go_sipush (v := 20000) (by decide) dX7_forcedWithin_29 ?_
      refine go_at 32 rfl ?_
      refine go_icmp_ne (tgt := 37) (by decide) dX7_forcedWithin_32 (fun c => ?_) (fun c => ?_)
      · have hs := if_f c hs
        refine go_aload_n (k4 := 0) rfl (Or.inr ⟨_, rfl⟩) dX7_forcedWithin_37 ?_
        refine go_iload_n (k4 := 1) rfl dX7_forcedWithin_38 ?_
        refine go_iload_n (k4 := 2) rfl dX7_forcedWithin_39 ?_
        obtain ⟨g8, hs⟩ := gO_at hs
        obtain ⟨y7, ey7, hs⟩ := bindS hs
        refine go_V0 (As := [.int x1, .int x2]) (st := []) g8 rfl rfl (oX7_reachByTurns (d := d - 1) (by omega) ey7) (by omega) mb_X7_reachByTurns lm_RX7_144 mi_X7_reachByTurns (Nat.le_of_ble_eq_true rfl) rfl dX7_forcedWithin_40 ?_
        refine go_iconst (v := 1) (by decide) dX7_forcedWithin_43 ?_
        refine go_istore_n (k4 := 3) (L' := [some (.ref x0), some (.int x1), some (.int x2), some (.int (1 : Int32)), none, none, none, none]) (by decide) rfl dX7_forcedWithin_44 ?_
        refine go_iconst (v := 1) (by decide) dX7_forcedWithin_45 ?_
        refine go_at 46 rfl ?_
        refine go_istore (L' := [some (.ref x0), some (.int x1), some (.int x2), some (.int (1 : Int32)), some (.int (1 : Int32)), none, none, none]) (by decide) rfl dX7_forcedWithin_46 ?_
        exact go_subL (L' := [some (.ref x0), some (.int x1), some (.int x2), some (.int (1 : Int32)), some (.int (1 : Int32)), none, none, none]) (by simp [subL, va_rf]) (oX7_forcedWithin_48 hd hs hk)
      · have hs := if_t c hs
        exact go_subL (L' := [none, none, none, none, none, none, none, none]) (by simp [subL, va_rf]) (oX7_forcedWithin_35 hd hs hk)
theorem oX7_forcedWithin {d : Nat} (hd : 5 ≤ d) {h : Hp} {x0 : Nat} {x1 : Int32} {x2 : Int32} {y : (Int32 × Hp)} (hs : fX7_forcedWithin h x0 x1 x2 = some y) : Call d mX7_forcedWithin [.ref x0, .int x1, .int x2] h (some (.int y.1)) (y.2) := call_of (by decide +kernel) (Nat.le_of_ble_eq_true rfl) (show Go d mX7_forcedWithin 0 [some (.ref x0), some (.int x1), some (.int x2), none, none, none, none, none] [] h _ _ from go_subL (by simp [subL]) (oX7_forcedWithin_0 hd hs ⟨rfl, rfl⟩))
abbrev kX11_forces (rf : Option Value) (hf : Hp) : (Int32 × Hp) → Prop := fun y => rf = some (.int y.1) ∧ hf = y.2
noncomputable def fX11_forces (h : Hp) (x0 : Nat) (x1 : Int32) : Option (Int32 × Hp) :=
  gO h 11 x0 (
  (fX11_isPair h x0 x1).bind fun y1 =>
  if y1 = 0 then (
    some (((-2 : Int32), h))) else (
    (gN h 11 x0 4).bind fun v3 =>
    (gI h 8 v3 0).bind fun v4 =>
    (fX11_digit h v4 x1).bind fun y5 =>
    if y5 = 0 then (
      some (((0 : Int32), h))) else (
      gO h 11 x0 (
      (fX11_searching h x0).bind fun y6 =>
      (gN y6.2 11 x0 4).bind fun v8 =>
      (gI y6.2 8 v8 0).bind fun v9 =>
      gO y6.2 7 y6.1 (
      (fX7_forcedWithin y6.2 y6.1 v9 x1).bind fun y10 =>
      some ((y10.1, y10.2)))))))
theorem oX11_forces_0 {d : Nat} (hd : 6 ≤ d) {h : Hp} {x0 : Nat} {x1 : Int32} {rf : Option Value} {hf : Hp} {x : (Int32 × Hp)} (hs : fX11_forces h x0 x1 = some x) (hk : (kX11_forces rf hf) x) : Go d mX11_forces 0 [some (.ref x0), some (.int x1)] [] h rf hf := by
  unfold fX11_forces at hs
  refine go_aload_n (k4 := 0) rfl (Or.inr ⟨_, rfl⟩) dX11_forces_0 ?_
  refine go_iload_n (k4 := 1) rfl dX11_forces_1 ?_
  obtain ⟨g2, hs⟩ := gO_at hs
  obtain ⟨y1, ey1, hs⟩ := bindS hs
  refine go_V1 (As := [.int x1]) (st := []) g2 rfl rfl (oX11_isPair (d := d - 1) (by omega) ey1) (by omega) mb_X11_isPair lm_RX11_138 mi_X11_isPair (Nat.le_of_ble_eq_true rfl) rfl dX11_forces_2 ?_
  refine go_if_ne (tgt := 11) (by decide) dX11_forces_5 (fun c => ?_) (fun c => ?_)
  · have hs := if_f c hs
    refine go_aload_n (k4 := 0) rfl (Or.inr ⟨_, rfl⟩) dX11_forces_11 ?_
    obtain ⟨v3, ev3, hs⟩ := bindS hs
    refine go_gN fl_RX11_36 ev3 dX11_forces_12 ?_
    obtain ⟨v4, ev4, hs⟩ := bindS hs
    refine go_gI fl_RX11_142 ev4 dX11_forces_15 ?_
    refine go_iload_n (k4 := 1) rfl dX11_forces_18 ?_
    obtain ⟨y5, ey5, hs⟩ := bindS hs
    refine go_S1 (As := [.int v4, .int x1]) (st := []) (oX11_digit (d := d - 1) (by omega) ey5) (by omega) mb_X11_digit lm_RX11_145 ms_X11_digit (Nat.le_of_ble_eq_true rfl) rfl dX11_forces_19 ?_
    refine go_if_ne (tgt := 27) (by decide) dX11_forces_22 (fun c => ?_) (fun c => ?_)
    · have hs := if_f c hs
      refine go_aload_n (k4 := 0) rfl (Or.inr ⟨_, rfl⟩) dX11_forces_27 ?_
      obtain ⟨g7, hs⟩ := gO_at hs
      obtain ⟨y6, ey6, hs⟩ := bindS hs
      refine go_V1 (As := []) (st := []) g7 rfl rfl (oX11_searching (d := d - 1) (by omega) ey6) (by omega) mb_X11_searching lm_RX11_292 mi_X11_searching (Nat.le_of_ble_eq_true rfl) rfl dX11_forces_28 ?_
      refine go_aload_n (k4 := 0) rfl (Or.inr ⟨_, rfl⟩) dX11_forces_31 ?_
      obtain ⟨v8, ev8, hs⟩ := bindS hs
      refine go_gN fl_RX11_36 ev8 dX11_forces_32 ?_
      obtain ⟨v9, ev9, hs⟩ := bindS hs
      refine go_gI fl_RX11_142 ev9 dX11_forces_35 ?_
      refine go_iload_n (k4 := 1) rfl dX11_forces_38 ?_
      obtain ⟨g11, hs⟩ := gO_at hs
      obtain ⟨y10, ey10, hs⟩ := bindS hs
      refine go_V1 (As := [.int v9, .int x1]) (st := []) g11 rfl rfl (oX7_forcedWithin (d := d - 1) (by omega) ey10) (by omega) mb_X7_forcedWithin lm_RX11_373 mi_X7_forcedWithin (Nat.le_of_ble_eq_true rfl) rfl dX11_forces_39 ?_
      refine go_at 42 rfl ?_
      obtain rfl := Option.some.inj hs
      obtain ⟨rfl, rfl⟩ := hk
      exact go_iret rfl dX11_forces_42
    · have hs := if_t c hs
      refine go_iconst (v := 0) (by decide) dX11_forces_25 ?_
      obtain rfl := Option.some.inj hs
      obtain ⟨rfl, rfl⟩ := hk
      exact go_iret rfl dX11_forces_26
  · have hs := if_t c hs
    refine go_bipush (v := -2) (by decide) dX11_forces_8 ?_
    obtain rfl := Option.some.inj hs
    obtain ⟨rfl, rfl⟩ := hk
    exact go_iret rfl dX11_forces_10
theorem oX11_forces {d : Nat} (hd : 6 ≤ d) {h : Hp} {x0 : Nat} {x1 : Int32} {y : (Int32 × Hp)} (hs : fX11_forces h x0 x1 = some y) : Call d mX11_forces [.ref x0, .int x1] h (some (.int y.1)) (y.2) := call_of (by decide +kernel) (Nat.le_of_ble_eq_true rfl) (show Go d mX11_forces 0 [some (.ref x0), some (.int x1)] [] h _ _ from go_subL (by simp [subL]) (oX11_forces_0 hd hs ⟨rfl, rfl⟩))
abbrev kX11_best (rf : Option Value) (hf : Hp) : (Int32 × Hp) → Prop := fun y => rf = some (.int y.1) ∧ hf = y.2
noncomputable def fX11_best_69 (h : Hp) (s0 : Int32) : Option (Int32 × Hp) :=
  some ((s0, h))
theorem oX11_best_69 {d : Nat} (hd : 6 ≤ d) {h : Hp} {s0 : Int32} {rf : Option Value} {hf : Hp} {x : (Int32 × Hp)} (hs : fX11_best_69 h s0 = some x) (hk : (kX11_best rf hf) x) : Go d mX11_best 69 [none, none, none, none] [.int s0] h rf hf := by
  unfold fX11_best_69 at hs
  obtain rfl := Option.some.inj hs
  obtain ⟨rfl, rfl⟩ := hk
  exact go_iret rfl dX11_best_69
noncomputable def fX11_best (h : Hp) (x0 : Nat) (x1 : Int32) : Option (Int32 × Hp) :=
  gO h 11 x0 (
  (fX11_isPair h x0 x1).bind fun y1 =>
  if y1 = 0 then (
    some (((-2 : Int32), h))) else (
    (gN h 11 x0 4).bind fun v3 =>
    (gI h 8 v3 0).bind fun v4 =>
    (fX11_digit h v4 x1).bind fun y5 =>
    if y5 = 0 then (
      some (((-1 : Int32), h))) else (
      gO h 11 x0 (
      (fX11_searching h x0).bind fun y6 =>
      (gN y6.2 11 x0 4).bind fun v8 =>
      (gI y6.2 8 v8 0).bind fun v9 =>
      gO y6.2 7 y6.1 (
      (fX7_forcedWithin y6.2 y6.1 v9 x1).bind fun y10 =>
      if y10.1 = (-1 : Int32) then (
        fX11_best_69 y10.2 (-1 : Int32)) else (
        (gN y10.2 11 x0 4).bind fun v12 =>
        (gI y10.2 8 v12 0).bind fun v13 =>
        gO y10.2 7 y6.1 (
        (fX7_forcingLeading y10.2 y6.1 v13 x1 (y10.1 - (1 : Int32))).bind fun y14 =>
        fX11_best_69 y14.2 y14.1)))))))
theorem oX11_best_0 {d : Nat} (hd : 6 ≤ d) {h : Hp} {x0 : Nat} {x1 : Int32} {rf : Option Value} {hf : Hp} {x : (Int32 × Hp)} (hs : fX11_best h x0 x1 = some x) (hk : (kX11_best rf hf) x) : Go d mX11_best 0 [some (.ref x0), some (.int x1), none, none] [] h rf hf := by
  unfold fX11_best at hs
  refine go_aload_n (k4 := 0) rfl (Or.inr ⟨_, rfl⟩) dX11_best_0 ?_
  refine go_iload_n (k4 := 1) rfl dX11_best_1 ?_
  obtain ⟨g2, hs⟩ := gO_at hs
  obtain ⟨y1, ey1, hs⟩ := bindS hs
  refine go_V1 (As := [.int x1]) (st := []) g2 rfl rfl (oX11_isPair (d := d - 1) (by omega) ey1) (by omega) mb_X11_isPair lm_RX11_138 mi_X11_isPair (Nat.le_of_ble_eq_true rfl) rfl dX11_best_2 ?_
  refine go_if_ne (tgt := 11) (by decide) dX11_best_5 (fun c => ?_) (fun c => ?_)
  · have hs := if_f c hs
    refine go_aload_n (k4 := 0) rfl (Or.inr ⟨_, rfl⟩) dX11_best_11 ?_
    obtain ⟨v3, ev3, hs⟩ := bindS hs
    refine go_gN fl_RX11_36 ev3 dX11_best_12 ?_
    obtain ⟨v4, ev4, hs⟩ := bindS hs
    refine go_gI fl_RX11_142 ev4 dX11_best_15 ?_
    refine go_iload_n (k4 := 1) rfl dX11_best_18 ?_
    obtain ⟨y5, ey5, hs⟩ := bindS hs
    refine go_S1 (As := [.int v4, .int x1]) (st := []) (oX11_digit (d := d - 1) (by omega) ey5) (by omega) mb_X11_digit lm_RX11_145 ms_X11_digit (Nat.le_of_ble_eq_true rfl) rfl dX11_best_19 ?_
    refine go_if_ne (tgt := 27) (by decide) dX11_best_22 (fun c => ?_) (fun c => ?_)
    · have hs := if_f c hs
      refine go_aload_n (k4 := 0) rfl (Or.inr ⟨_, rfl⟩) dX11_best_27 ?_
      obtain ⟨g7, hs⟩ := gO_at hs
      obtain ⟨y6, ey6, hs⟩ := bindS hs
      refine go_V1 (As := []) (st := []) g7 rfl rfl (oX11_searching (d := d - 1) (by omega) ey6) (by omega) mb_X11_searching lm_RX11_292 mi_X11_searching (Nat.le_of_ble_eq_true rfl) rfl dX11_best_28 ?_
      refine go_astore_n (k4 := 2) (L' := [some (.ref x0), some (.int x1), some (.ref y6.1), none]) (by decide) (Or.inr ⟨_, rfl⟩) rfl dX11_best_31 ?_
      refine go_aload_n (k4 := 2) rfl (Or.inr ⟨_, rfl⟩) dX11_best_32 ?_
      refine go_aload_n (k4 := 0) rfl (Or.inr ⟨_, rfl⟩) dX11_best_33 ?_
      obtain ⟨v8, ev8, hs⟩ := bindS hs
      refine go_gN fl_RX11_36 ev8 dX11_best_34 ?_
      obtain ⟨v9, ev9, hs⟩ := bindS hs
      refine go_gI fl_RX11_142 ev9 dX11_best_37 ?_
      refine go_at 40 rfl ?_
      refine go_iload_n (k4 := 1) rfl dX11_best_40 ?_
      obtain ⟨g11, hs⟩ := gO_at hs
      obtain ⟨y10, ey10, hs⟩ := bindS hs
      refine go_V1 (As := [.int v9, .int x1]) (st := []) g11 rfl rfl (oX7_forcedWithin (d := d - 1) (by omega) ey10) (by omega) mb_X7_forcedWithin lm_RX11_373 mi_X7_forcedWithin (Nat.le_of_ble_eq_true rfl) rfl dX11_best_41 ?_
      refine go_istore_n (k4 := 3) (L' := [some (.ref x0), some (.int x1), some (.ref y6.1), some (.int y10.1)]) (by decide) rfl dX11_best_44 ?_
      refine go_iload_n (k4 := 3) rfl dX11_best_45 ?_
      refine go_iconst (v := -1) (by decide) dX11_best_46 ?_
      refine go_icmp_ne (tgt := 54) (by decide) dX11_best_47 (fun c => ?_) (fun c => ?_)
      · have hs := if_f c hs
        refine go_aload_n (k4 := 2) rfl (Or.inr ⟨_, rfl⟩) dX11_best_54 ?_
        refine go_aload_n (k4 := 0) rfl (Or.inr ⟨_, rfl⟩) dX11_best_55 ?_
        obtain ⟨v12, ev12, hs⟩ := bindS hs
        refine go_gN fl_RX11_36 ev12 dX11_best_56 ?_
        obtain ⟨v13, ev13, hs⟩ := bindS hs
        refine go_gI fl_RX11_142 ev13 dX11_best_59 ?_
        refine go_iload_n (k4 := 1) rfl dX11_best_62 ?_
        refine go_iload_n (k4 := 3) rfl dX11_best_63 ?_
        refine go_iconst (v := 1) (by decide) dX11_best_64 ?_
        refine go_at 65 rfl ?_
        refine go_isub dX11_best_65 ?_
        obtain ⟨g15, hs⟩ := gO_at hs
        obtain ⟨y14, ey14, hs⟩ := bindS hs
        refine go_V1 (As := [.int v13, .int x1, .int (y10.1 - (1 : Int32))]) (st := []) g15 rfl rfl (oX7_forcingLeading (d := d - 1) (by omega) ey14) (by omega) mb_X7_forcingLeading lm_RX11_376 mi_X7_forcingLeading (Nat.le_of_ble_eq_true rfl) rfl dX11_best_66 ?_
        exact go_subL (L' := [none, none, none, none]) (by simp [subL, va_rf]) (oX11_best_69 hd hs hk)
      · have hs := if_t c hs
        refine go_iconst (v := -1) (by decide) dX11_best_50 ?_
        refine go_goto (tgt := 69) (by decide) dX11_best_51 ?_
        exact go_subL (L' := [none, none, none, none]) (by simp [subL, va_rf]) (oX11_best_69 hd hs hk)
    · have hs := if_t c hs
      refine go_iconst (v := -1) (by decide) dX11_best_25 ?_
      obtain rfl := Option.some.inj hs
      obtain ⟨rfl, rfl⟩ := hk
      exact go_iret rfl dX11_best_26
  · have hs := if_t c hs
    refine go_bipush (v := -2) (by decide) dX11_best_8 ?_
    obtain rfl := Option.some.inj hs
    obtain ⟨rfl, rfl⟩ := hk
    exact go_iret rfl dX11_best_10
theorem oX11_best {d : Nat} (hd : 6 ≤ d) {h : Hp} {x0 : Nat} {x1 : Int32} {y : (Int32 × Hp)} (hs : fX11_best h x0 x1 = some y) : Call d mX11_best [.ref x0, .int x1] h (some (.int y.1)) (y.2) := call_of (by decide +kernel) (Nat.le_of_ble_eq_true rfl) (show Go d mX11_best 0 [some (.ref x0), some (.int x1), none, none] [] h _ _ from go_subL (by simp [subL]) (oX11_best_0 hd hs ⟨rfl, rfl⟩))
abbrev kX11_isFractionPart (h : Hp) (rf : Option Value) (hf : Hp) : Int32 → Prop := fun y => rf = some (.int y) ∧ hf = h
noncomputable def fX11_isFractionPart_14 (h : Hp) (s0 : Int32) : Option Int32 :=
  bl s0 (some (s0))
theorem oX11_isFractionPart_14 {d : Nat} (hd : 0 ≤ d) {h : Hp} {s0 : Int32} {rf : Option Value} {hf : Hp} {x : Int32} (hs : fX11_isFractionPart_14 h s0 = some x) (hk : (kX11_isFractionPart h rf hf) x) : Go d mX11_isFractionPart 14 [none] [.int s0] h rf hf := by
  unfold fX11_isFractionPart_14 at hs
  obtain ⟨n1, n2, hs⟩ := bl_at hs
  obtain rfl := Option.some.inj hs
  obtain ⟨rfl, rfl⟩ := hk
  exact go_zret (ty := .boolean) rfl n1 dX11_isFractionPart_14
noncomputable def fX11_isFractionPart_9 (h : Hp)  : Option Int32 :=
  fX11_isFractionPart_14 h (1 : Int32)
theorem oX11_isFractionPart_9 {d : Nat} (hd : 0 ≤ d) {h : Hp} {rf : Option Value} {hf : Hp} {x : Int32} (hs : fX11_isFractionPart_9 h  = some x) (hk : (kX11_isFractionPart h rf hf) x) : Go d mX11_isFractionPart 9 [none] [] h rf hf := by
  unfold fX11_isFractionPart_9 at hs
  refine go_iconst (v := 1) (by decide) dX11_isFractionPart_9 ?_
  refine go_goto (tgt := 14) (by decide) dX11_isFractionPart_10 ?_
  exact go_subL (L' := [none]) (by simp [subL, va_rf]) (oX11_isFractionPart_14 hd hs hk)
noncomputable def fX11_isFractionPart (h : Hp) (x0 : Int32) : Option Int32 :=
  if x0 = 0 then (
  fX11_isFractionPart_9 h ) else (
    if x0 = (1 : Int32) then (
    fX11_isFractionPart_9 h ) else (
      fX11_isFractionPart_14 h (0 : Int32)))
theorem oX11_isFractionPart_0 {d : Nat} (hd : 0 ≤ d) {h : Hp} {x0 : Int32} {rf : Option Value} {hf : Hp} {x : Int32} (hs : fX11_isFractionPart h x0 = some x) (hk : (kX11_isFractionPart h rf hf) x) : Go d mX11_isFractionPart 0 [some (.int x0)] [] h rf hf := by
  unfold fX11_isFractionPart at hs
  refine go_iload_n (k4 := 0) rfl dX11_isFractionPart_0 ?_
  refine go_if_eq (tgt := 9) (by decide) dX11_isFractionPart_1 (fun c => ?_) (fun c => ?_)
  · have hs := if_t c hs
    exact go_subL (L' := [none]) (by simp [subL, va_rf]) (oX11_isFractionPart_9 hd hs hk)
  · have hs := if_f c hs
    refine go_iload_n (k4 := 0) rfl dX11_isFractionPart_4 ?_
    refine go_iconst (v := 1) (by decide) dX11_isFractionPart_5 ?_
    refine go_icmp_ne (tgt := 13) (by decide) dX11_isFractionPart_6 (fun c => ?_) (fun c => ?_)
    · have hs := if_f c hs
      refine go_iconst (v := 0) (by decide) dX11_isFractionPart_13 ?_
      exact go_subL (L' := [none]) (by simp [subL, va_rf]) (oX11_isFractionPart_14 hd hs hk)
    · have hs := if_t c hs
      exact go_subL (L' := [none]) (by simp [subL, va_rf]) (oX11_isFractionPart_9 hd hs hk)
theorem oX11_isFractionPart {d : Nat} (hd : 0 ≤ d) {h : Hp} {x0 : Int32} {y : Int32} (hs : fX11_isFractionPart h x0 = some y) : Call d mX11_isFractionPart [.int x0] h (some (.int y)) h := call_of (by decide +kernel) (Nat.le_of_ble_eq_true rfl) (show Go d mX11_isFractionPart 0 [some (.int x0)] [] h _ _ from go_subL (by simp [subL]) (oX11_isFractionPart_0 hd hs ⟨rfl, rfl⟩))
abbrev mgX2_spreadWeight (sel : Nat) : Mt := mX2_spreadWeight
abbrev kX2_spreadWeight (rf : Option Value) (hf : Hp) : Hp → Prop := fun y => rf = none ∧ hf = y
noncomputable def fX2_spreadWeight_12 (rc : Nat → Hp → Nat → Int32 → Int32 → Int64 → Option Hp) (h : Hp)  : Option Hp :=
  some (h)
theorem oX2_spreadWeight_12 {d : Nat} (hd : 4 ≤ d) {rc : Nat → Hp → Nat → Int32 → Int32 → Int64 → Option Hp} (hrc : ∀ (sel : Nat) (h : Hp) (x0 : Nat) (x1 : Int32) (x2 : Int32) (x3 : Int64) (y : Hp), rc sel h x0 x1 x2 x3 = some y → Call (d - 1) (mgX2_spreadWeight sel) [.ref x0, .int x1, .int x2, .long x3] h (none) y) {h : Hp} {rf : Option Value} {hf : Hp} {x : Hp} (hs : fX2_spreadWeight_12 rc h  = some x) (hk : (kX2_spreadWeight rf hf) x) : Go d mX2_spreadWeight 12 [none, none, none, none, none] [] h rf hf := by
  unfold fX2_spreadWeight_12 at hs
  obtain rfl := Option.some.inj hs
  obtain ⟨rfl, rfl⟩ := hk
  exact go_vret rfl dX2_spreadWeight_12
noncomputable def fX2_spreadWeight_89 (rc : Nat → Hp → Nat → Int32 → Int32 → Int64 → Option Hp) (h : Hp) (s0 : Nat) (s1 : Int64) (s2 : Int64) : Option Hp :=
  (sV h 2 s0 10 (.long (s1 + s2))).bind fun h26 =>
  some (h26)
theorem oX2_spreadWeight_89 {d : Nat} (hd : 4 ≤ d) {rc : Nat → Hp → Nat → Int32 → Int32 → Int64 → Option Hp} (hrc : ∀ (sel : Nat) (h : Hp) (x0 : Nat) (x1 : Int32) (x2 : Int32) (x3 : Int64) (y : Hp), rc sel h x0 x1 x2 x3 = some y → Call (d - 1) (mgX2_spreadWeight sel) [.ref x0, .int x1, .int x2, .long x3] h (none) y) {h : Hp} {s0 : Nat} {s1 : Int64} {s2 : Int64} {rf : Option Value} {hf : Hp} {x : Hp} (hs : fX2_spreadWeight_89 rc h s0 s1 s2 = some x) (hk : (kX2_spreadWeight rf hf) x) : Go d mX2_spreadWeight 89 [none, none, none, none, none] [.long s2, .long s1, .ref s0] h rf hf := by
  unfold fX2_spreadWeight_89 at hs
  refine go_ladd dX2_spreadWeight_89 ?_
  obtain ⟨h26, eh26, hs⟩ := bindS hs
  refine go_sV fw_RX2_40 eh26 rfl rfl dX2_spreadWeight_90 ?_
  obtain rfl := Option.some.inj hs
  obtain ⟨rfl, rfl⟩ := hk
  exact go_vret rfl dX2_spreadWeight_93
noncomputable def fX2_spreadWeight_68 (rc : Nat → Hp → Nat → Int32 → Int32 → Int64 → Option Hp) (h : Hp) (x0 : Nat) (x2 : Int32) (x3 : Int64) (s0 : Nat) (s1 : Int64) (s2 : Int64) : Option Hp :=
  (sV h 2 s0 8 (.long (s1 + s2))).bind fun h24 =>
  (gJ h24 2 x0 10).bind fun v25 =>
  if x2 < (10000 : Int32) then (
    fX2_spreadWeight_89 rc h24 x0 v25 (0 : Int64)) else (
    fX2_spreadWeight_89 rc h24 x0 v25 x3)
theorem oX2_spreadWeight_68 {d : Nat} (hd : 4 ≤ d) {rc : Nat → Hp → Nat → Int32 → Int32 → Int64 → Option Hp} (hrc : ∀ (sel : Nat) (h : Hp) (x0 : Nat) (x1 : Int32) (x2 : Int32) (x3 : Int64) (y : Hp), rc sel h x0 x1 x2 x3 = some y → Call (d - 1) (mgX2_spreadWeight sel) [.ref x0, .int x1, .int x2, .long x3] h (none) y) {h : Hp} {x0 : Nat} {x2 : Int32} {x3 : Int64} {s0 : Nat} {s1 : Int64} {s2 : Int64} {rf : Option Value} {hf : Hp} {x : Hp} (hs : fX2_spreadWeight_68 rc h x0 x2 x3 s0 s1 s2 = some x) (hk : (kX2_spreadWeight rf hf) x) : Go d mX2_spreadWeight 68 [some (.ref x0), none, some (.int x2), some (.long x3), none] [.long s2, .long s1, .ref s0] h rf hf := by
  unfold fX2_spreadWeight_68 at hs
  refine go_ladd dX2_spreadWeight_68 ?_
  obtain ⟨h24, eh24, hs⟩ := bindS hs
  refine go_sV fw_RX2_33 eh24 rfl rfl dX2_spreadWeight_69 ?_
  refine go_aload_n (k4 := 0) rfl (Or.inr ⟨_, rfl⟩) dX2_spreadWeight_72 ?_
  refine go_dup rfl dX2_spreadWeight_73 ?_
  obtain ⟨v25, ev25, hs⟩ := bindS hs
  refine go_gJ fl_RX2_40 ev25 dX2_spreadWeight_74 ?_
  refine go_iload_n (k4 := 2) rfl dX2_spreadWeight_77 ?_
  refine go_sipush (v := 10000) (by decide) dX2_spreadWeight_78 ?_
  refine go_at 81 rfl ?_
  refine go_icmp_lt (tgt := 88) (by decide) dX2_spreadWeight_81 (fun c => ?_) (fun c => ?_)
  · have hs := if_t c hs
    refine go_lconst (v := 0) (by decide) dX2_spreadWeight_88 ?_
    exact go_subL (L' := [none, none, none, none, none]) (by simp [subL, va_rf]) (oX2_spreadWeight_89 hd hrc hs hk)
  · have hs := if_f c hs
    refine go_lload_n (k4 := 3) rfl dX2_spreadWeight_84 ?_
    refine go_goto (tgt := 89) (by decide) dX2_spreadWeight_85 ?_
    exact go_subL (L' := [none, none, none, none, none]) (by simp [subL, va_rf]) (oX2_spreadWeight_89 hd hrc hs hk)
noncomputable def fX2_spreadWeight (rc : Nat → Hp → Nat → Int32 → Int32 → Int64 → Option Hp) (h : Hp) (x0 : Nat) (x1 : Int32) (x2 : Int32) (x3 : Int64) : Option Hp :=
  if (lg_cmp x3 (0 : Int64)) = 0 then (
  fX2_spreadWeight_12 rc h ) else (
    if x1 ≤ (8 : Int32) then (
      if 0 < x1 then (
        (gN h 2 x0 0).bind fun v1 =>
        (gI h 2 x0 2).bind fun v2 =>
        gO h 1 v1 (
        (fX1_after h v1 x2 v2 (0 : Int32)).bind fun y3 =>
        (gI y3.2 2 x0 3).bind fun v5 =>
        gO y3.2 2 x0 (
        (rc 0 y3.2 x0 (x1 - (1 : Int32)) y3.1 (x3 * ((10 : Int32) - v5).toInt64)).bind fun y6 =>
        (gN y6 2 x0 0).bind fun v8 =>
        (gI y6 2 x0 2).bind fun v9 =>
        gO y6 1 v8 (
        (fX1_after y6 v8 x2 v9 (1 : Int32)).bind fun y10 =>
        (gI y10.2 2 x0 3).bind fun v12 =>
        gO y10.2 2 x0 (
        (rc 0 y10.2 x0 (x1 - (1 : Int32)) y10.1 (x3 * (v12.toInt64))).bind fun y13 =>
        some (y13)))))) else (
        (gJ h 2 x0 11).bind fun v15 =>
        (sV h 2 x0 11 (.long (v15 + x3))).bind fun h16 =>
        (gJ h16 2 x0 9).bind fun v17 =>
        (gI h16 2 x0 1).bind fun v18 =>
        (fX11_digit h16 x2 v18).bind fun y19 =>
        (sV h16 2 x0 9 (.long (v17 + (x3 * (y19.toInt64))))).bind fun h20 =>
        (gJ h20 2 x0 8).bind fun v21 =>
        (gI h20 2 x0 1).bind fun v22 =>
        (fX11_digit h20 x2 v22).bind fun y23 =>
        if y23 = 0 then (
          fX2_spreadWeight_68 rc h20 x0 x2 x3 x0 v21 x3) else (
          fX2_spreadWeight_68 rc h20 x0 x2 x3 x0 v21 (0 : Int64)))) else (
    fX2_spreadWeight_12 rc h ))
theorem oX2_spreadWeight_0 {d : Nat} (hd : 4 ≤ d) {rc : Nat → Hp → Nat → Int32 → Int32 → Int64 → Option Hp} (hrc : ∀ (sel : Nat) (h : Hp) (x0 : Nat) (x1 : Int32) (x2 : Int32) (x3 : Int64) (y : Hp), rc sel h x0 x1 x2 x3 = some y → Call (d - 1) (mgX2_spreadWeight sel) [.ref x0, .int x1, .int x2, .long x3] h (none) y) {h : Hp} {x0 : Nat} {x1 : Int32} {x2 : Int32} {x3 : Int64} {rf : Option Value} {hf : Hp} {x : Hp} (hs : fX2_spreadWeight rc h x0 x1 x2 x3 = some x) (hk : (kX2_spreadWeight rf hf) x) : Go d mX2_spreadWeight 0 [some (.ref x0), some (.int x1), some (.int x2), some (.long x3), none] [] h rf hf := by
  unfold fX2_spreadWeight at hs
  refine go_lload_n (k4 := 3) rfl dX2_spreadWeight_0 ?_
  refine go_lconst (v := 0) (by decide) dX2_spreadWeight_1 ?_
  refine go_lcmp dX2_spreadWeight_2 ?_
  refine go_if_eq (tgt := 12) (by decide) dX2_spreadWeight_3 (fun c => ?_) (fun c => ?_)
  · have hs := if_t c hs
    exact go_subL (L' := [none, none, none, none, none]) (by simp [subL, va_rf]) (oX2_spreadWeight_12 hd hrc hs hk)
  · have hs := if_f c hs
    refine go_iload_n (k4 := 1) rfl dX2_spreadWeight_6 ?_
    refine go_bipush (v := 8) (by decide) dX2_spreadWeight_7 ?_
    refine go_icmp_le (tgt := 13) (by decide) dX2_spreadWeight_9 (fun c => ?_) (fun c => ?_)
    · have hs := if_t c hs
      refine go_iload_n (k4 := 1) rfl dX2_spreadWeight_13 ?_
      refine go_if_gt (tgt := 94) (by decide) dX2_spreadWeight_14 (fun c => ?_) (fun c => ?_)
      · have hs := if_t c hs
        refine go_aload_n (k4 := 0) rfl (Or.inr ⟨_, rfl⟩) dX2_spreadWeight_94 ?_
        refine go_iload_n (k4 := 1) rfl dX2_spreadWeight_95 ?_
        refine go_iconst (v := 1) (by decide) dX2_spreadWeight_96 ?_
        refine go_isub dX2_spreadWeight_97 ?_
        refine go_aload_n (k4 := 0) rfl (Or.inr ⟨_, rfl⟩) dX2_spreadWeight_98 ?_
        obtain ⟨v1, ev1, hs⟩ := bindS hs
        refine go_gN fl_RX2_46 ev1 dX2_spreadWeight_99 ?_
        refine go_iload_n (k4 := 2) rfl dX2_spreadWeight_102 ?_
        refine go_at 103 rfl ?_
        refine go_aload_n (k4 := 0) rfl (Or.inr ⟨_, rfl⟩) dX2_spreadWeight_103 ?_
        obtain ⟨v2, ev2, hs⟩ := bindS hs
        refine go_gI fl_RX2_15 ev2 dX2_spreadWeight_104 ?_
        refine go_iconst (v := 0) (by decide) dX2_spreadWeight_107 ?_
        obtain ⟨g4, hs⟩ := gO_at hs
        obtain ⟨y3, ey3, hs⟩ := bindS hs
        refine go_V1 (As := [.int x2, .int v2, .int (0 : Int32)]) (st := [.int (x1 - (1 : Int32)), .ref x0]) g4 rfl rfl (oX1_after (d := d - 1) (by omega) ey3) (by omega) mb_X1_after lm_RX2_59 mi_X1_after (Nat.le_of_ble_eq_true rfl) rfl dX2_spreadWeight_108 ?_
        refine go_lload_n (k4 := 3) rfl dX2_spreadWeight_111 ?_
        refine go_bipush (v := 10) (by decide) dX2_spreadWeight_112 ?_
        refine go_aload_n (k4 := 0) rfl (Or.inr ⟨_, rfl⟩) dX2_spreadWeight_114 ?_
        obtain ⟨v5, ev5, hs⟩ := bindS hs
        refine go_gI fl_RX2_18 ev5 dX2_spreadWeight_115 ?_
        refine go_at 118 rfl ?_
        refine go_isub dX2_spreadWeight_118 ?_
        refine go_i2l dX2_spreadWeight_119 ?_
        refine go_lmul dX2_spreadWeight_120 ?_
        obtain ⟨g7, hs⟩ := gO_at hs
        obtain ⟨y6, ey6, hs⟩ := bindS hs
        refine go_V0 (As := [.int (x1 - (1 : Int32)), .int y3.1, .long (x3 * ((10 : Int32) - v5).toInt64)]) (st := []) g7 rfl rfl (show Call (d - 1) mX2_spreadWeight _ _ _ _ from hrc 0 y3.2 x0 (x1 - (1 : Int32)) y3.1 (x3 * ((10 : Int32) - v5).toInt64) _ ey6) (by omega) mb_X2_spreadWeight lm_RX2_82 mi_X2_spreadWeight (Nat.le_of_ble_eq_true rfl) rfl dX2_spreadWeight_121 ?_
        refine go_aload_n (k4 := 0) rfl (Or.inr ⟨_, rfl⟩) dX2_spreadWeight_124 ?_
        refine go_iload_n (k4 := 1) rfl dX2_spreadWeight_125 ?_
        refine go_iconst (v := 1) (by decide) dX2_spreadWeight_126 ?_
        refine go_isub dX2_spreadWeight_127 ?_
        refine go_at 128 rfl ?_
        refine go_aload_n (k4 := 0) rfl (Or.inr ⟨_, rfl⟩) dX2_spreadWeight_128 ?_
        obtain ⟨v8, ev8, hs⟩ := bindS hs
        refine go_gN fl_RX2_46 ev8 dX2_spreadWeight_129 ?_
        refine go_iload_n (k4 := 2) rfl dX2_spreadWeight_132 ?_
        refine go_aload_n (k4 := 0) rfl (Or.inr ⟨_, rfl⟩) dX2_spreadWeight_133 ?_
        obtain ⟨v9, ev9, hs⟩ := bindS hs
        refine go_gI fl_RX2_15 ev9 dX2_spreadWeight_134 ?_
        refine go_iconst (v := 1) (by decide) dX2_spreadWeight_137 ?_
        obtain ⟨g11, hs⟩ := gO_at hs
        obtain ⟨y10, ey10, hs⟩ := bindS hs
        refine go_V1 (As := [.int x2, .int v9, .int (1 : Int32)]) (st := [.int (x1 - (1 : Int32)), .ref x0]) g11 rfl rfl (oX1_after (d := d - 1) (by omega) ey10) (by omega) mb_X1_after lm_RX2_59 mi_X1_after (Nat.le_of_ble_eq_true rfl) rfl dX2_spreadWeight_138 ?_
        refine go_lload_n (k4 := 3) rfl dX2_spreadWeight_141 ?_
        refine go_at 142 rfl ?_
        refine go_aload_n (k4 := 0) rfl (Or.inr ⟨_, rfl⟩) dX2_spreadWeight_142 ?_
        obtain ⟨v12, ev12, hs⟩ := bindS hs
        refine go_gI fl_RX2_18 ev12 dX2_spreadWeight_143 ?_
        refine go_i2l dX2_spreadWeight_146 ?_
        refine go_lmul dX2_spreadWeight_147 ?_
        obtain ⟨g14, hs⟩ := gO_at hs
        obtain ⟨y13, ey13, hs⟩ := bindS hs
        refine go_V0 (As := [.int (x1 - (1 : Int32)), .int y10.1, .long (x3 * (v12.toInt64))]) (st := []) g14 rfl rfl (show Call (d - 1) mX2_spreadWeight _ _ _ _ from hrc 0 y10.2 x0 (x1 - (1 : Int32)) y10.1 (x3 * (v12.toInt64)) _ ey13) (by omega) mb_X2_spreadWeight lm_RX2_82 mi_X2_spreadWeight (Nat.le_of_ble_eq_true rfl) rfl dX2_spreadWeight_148 ?_
        obtain rfl := Option.some.inj hs
        obtain ⟨rfl, rfl⟩ := hk
        exact go_vret rfl dX2_spreadWeight_151
      · have hs := if_f c hs
        refine go_aload_n (k4 := 0) rfl (Or.inr ⟨_, rfl⟩) dX2_spreadWeight_17 ?_
        refine go_dup rfl dX2_spreadWeight_18 ?_
        obtain ⟨v15, ev15, hs⟩ := bindS hs
        refine go_gJ fl_RX2_43 ev15 dX2_spreadWeight_19 ?_
        refine go_lload_n (k4 := 3) rfl dX2_spreadWeight_22 ?_
        refine go_ladd dX2_spreadWeight_23 ?_
        obtain ⟨h16, eh16, hs⟩ := bindS hs
        refine go_sV fw_RX2_43 eh16 rfl rfl dX2_spreadWeight_24 ?_
        refine go_aload_n (k4 := 0) rfl (Or.inr ⟨_, rfl⟩) dX2_spreadWeight_27 ?_
        refine go_at 28 rfl ?_
        refine go_dup rfl dX2_spreadWeight_28 ?_
        obtain ⟨v17, ev17, hs⟩ := bindS hs
        refine go_gJ fl_RX2_37 ev17 dX2_spreadWeight_29 ?_
        refine go_lload_n (k4 := 3) rfl dX2_spreadWeight_32 ?_
        refine go_iload_n (k4 := 2) rfl dX2_spreadWeight_33 ?_
        refine go_aload_n (k4 := 0) rfl (Or.inr ⟨_, rfl⟩) dX2_spreadWeight_34 ?_
        obtain ⟨v18, ev18, hs⟩ := bindS hs
        refine go_gI fl_RX2_9 ev18 dX2_spreadWeight_35 ?_
        obtain ⟨y19, ey19, hs⟩ := bindS hs
        refine go_SN1 (As := [.int x2, .int v18]) (st := [.long x3, .long v17, .ref x0]) (oX11_digit (d := d - 1) (by omega) ey19) (by omega) mb_X11_digit lm_RX2_71 ms_X11_digit (Nat.le_of_ble_eq_true rfl) rfl dX2_spreadWeight_38 ?_
        refine go_i2l dX2_spreadWeight_41 ?_
        refine go_at 42 rfl ?_
        refine go_lmul dX2_spreadWeight_42 ?_
        refine go_ladd dX2_spreadWeight_43 ?_
        obtain ⟨h20, eh20, hs⟩ := bindS hs
        refine go_sV fw_RX2_37 eh20 rfl rfl dX2_spreadWeight_44 ?_
        refine go_aload_n (k4 := 0) rfl (Or.inr ⟨_, rfl⟩) dX2_spreadWeight_47 ?_
        refine go_dup rfl dX2_spreadWeight_48 ?_
        obtain ⟨v21, ev21, hs⟩ := bindS hs
        refine go_gJ fl_RX2_33 ev21 dX2_spreadWeight_49 ?_
        refine go_iload_n (k4 := 2) rfl dX2_spreadWeight_52 ?_
        refine go_aload_n (k4 := 0) rfl (Or.inr ⟨_, rfl⟩) dX2_spreadWeight_53 ?_
        refine go_at 54 rfl ?_
        obtain ⟨v22, ev22, hs⟩ := bindS hs
        refine go_gI fl_RX2_9 ev22 dX2_spreadWeight_54 ?_
        obtain ⟨y23, ey23, hs⟩ := bindS hs
        refine go_SN1 (As := [.int x2, .int v22]) (st := [.long v21, .ref x0]) (oX11_digit (d := d - 1) (by omega) ey23) (by omega) mb_X11_digit lm_RX2_71 ms_X11_digit (Nat.le_of_ble_eq_true rfl) rfl dX2_spreadWeight_57 ?_
        refine go_if_ne (tgt := 67) (by decide) dX2_spreadWeight_60 (fun c => ?_) (fun c => ?_)
        · have hs := if_f c hs
          refine go_lconst (v := 0) (by decide) dX2_spreadWeight_67 ?_
          exact go_subL (L' := [some (.ref x0), none, some (.int x2), some (.long x3), none]) (by simp [subL, va_rf]) (oX2_spreadWeight_68 hd hrc hs hk)
        · have hs := if_t c hs
          refine go_lload_n (k4 := 3) rfl dX2_spreadWeight_63 ?_
          refine go_goto (tgt := 68) (by decide) dX2_spreadWeight_64 ?_
          exact go_subL (L' := [some (.ref x0), none, some (.int x2), some (.long x3), none]) (by simp [subL, va_rf]) (oX2_spreadWeight_68 hd hrc hs hk)
    · have hs := if_f c hs
      exact go_subL (L' := [none, none, none, none, none]) (by simp [subL, va_rf]) (oX2_spreadWeight_12 hd hrc hs hk)
theorem oX2_spreadWeight {d : Nat} (hd : 4 ≤ d) {rc : Nat → Hp → Nat → Int32 → Int32 → Int64 → Option Hp} (hrc : ∀ (sel : Nat) (h : Hp) (x0 : Nat) (x1 : Int32) (x2 : Int32) (x3 : Int64) (y : Hp), rc sel h x0 x1 x2 x3 = some y → Call (d - 1) (mgX2_spreadWeight sel) [.ref x0, .int x1, .int x2, .long x3] h (none) y) {h : Hp} {x0 : Nat} {x1 : Int32} {x2 : Int32} {x3 : Int64} {y : Hp} (hs : fX2_spreadWeight rc h x0 x1 x2 x3 = some y) : Call d mX2_spreadWeight [.ref x0, .int x1, .int x2, .long x3] h (none) y := call_of (by decide +kernel) (Nat.le_of_ble_eq_true rfl) (show Go d mX2_spreadWeight 0 [some (.ref x0), some (.int x1), some (.int x2), some (.long x3), none] [] h _ _ from go_subL (by simp [subL]) (oX2_spreadWeight_0 hd hrc hs ⟨rfl, rfl⟩))
noncomputable def rX2_spreadWeight : Nat → Nat → Hp → Nat → Int32 → Int32 → Int64 → Option Hp
  | 0, _, _, _, _, _, _ => none
  | n + 1, sel, h, x0, x1, x2, x3 => fX2_spreadWeight (rX2_spreadWeight n) h x0 x1 x2 x3
theorem orX2_spreadWeight : ∀ (n d : Nat) (_ : 4 + n ≤ d) (sel : Nat) (h : Hp) (x0 : Nat) (x1 : Int32) (x2 : Int32) (x3 : Int64) (y : Hp), rX2_spreadWeight n sel h x0 x1 x2 x3 = some y → Call d (mgX2_spreadWeight sel) [.ref x0, .int x1, .int x2, .long x3] h (none) y
  | 0, d, hd, sel, h, x0, x1, x2, x3, y, hs => by simp [rX2_spreadWeight] at hs
  | n + 1, d, hd, sel, h, x0, x1, x2, x3, y, hs => by
    have ih := orX2_spreadWeight n (d - 1) (by omega)
    simp only [rX2_spreadWeight] at hs
    exact oX2_spreadWeight (by omega) ih hs
abbrev kX2_weigh (rf : Option Value) (hf : Hp) : Hp → Prop := fun y => rf = none ∧ hf = y
noncomputable def fX2_weigh (h : Hp) (x0 : Nat) (x1 : Int32) (x2 : Int32) (x3 : Int32) (x4 : Int32) : Option Hp :=
  (gN h 2 x0 0).bind fun v1 =>
  gO h 1 v1 (
  (fX1_tunedTo h v1).bind fun y2 =>
  (gI h 0 y2 2).bind fun v4 =>
  (sV h 2 x0 3 (.int v4)).bind fun h5 =>
  (sV h5 2 x0 1 (.int x1)).bind fun h6 =>
  (sV h6 2 x0 2 (.int x4)).bind fun h7 =>
  (sV h7 2 x0 8 (.long (0 : Int64))).bind fun h8 =>
  (sV h8 2 x0 9 (.long (0 : Int64))).bind fun h9 =>
  (sV h9 2 x0 10 (.long (0 : Int64))).bind fun h10 =>
  (sV h10 2 x0 11 (.long (0 : Int64))).bind fun h11 =>
  gO h11 2 x0 (
  (rX2_spreadWeight 100 0 h11 x0 x2 x3 (1 : Int64)).bind fun y12 =>
  some (y12)))
theorem oX2_weigh_0 {d : Nat} (hd : 105 ≤ d) {h : Hp} {x0 : Nat} {x1 : Int32} {x2 : Int32} {x3 : Int32} {x4 : Int32} {rf : Option Value} {hf : Hp} {x : Hp} (hs : fX2_weigh h x0 x1 x2 x3 x4 = some x) (hk : (kX2_weigh rf hf) x) : Go d mX2_weigh 0 [some (.ref x0), some (.int x1), some (.int x2), some (.int x3), some (.int x4)] [] h rf hf := by
  unfold fX2_weigh at hs
  refine go_aload_n (k4 := 0) rfl (Or.inr ⟨_, rfl⟩) dX2_weigh_0 ?_
  refine go_aload_n (k4 := 0) rfl (Or.inr ⟨_, rfl⟩) dX2_weigh_1 ?_
  obtain ⟨v1, ev1, hs⟩ := bindS hs
  refine go_gN fl_RX2_46 ev1 dX2_weigh_2 ?_
  obtain ⟨g3, hs⟩ := gO_at hs
  obtain ⟨y2, ey2, hs⟩ := bindS hs
  refine go_V1 (As := []) (st := [.ref x0]) g3 rfl rfl (oX1_tunedTo (d := d - 1) (by omega) ey2) (by omega) mb_X1_tunedTo lm_RX2_75 mi_X1_tunedTo (Nat.le_of_ble_eq_true rfl) rfl dX2_weigh_5 ?_
  obtain ⟨v4, ev4, hs⟩ := bindS hs
  refine go_gI fl_RX2_79 ev4 dX2_weigh_8 ?_
  obtain ⟨h5, eh5, hs⟩ := bindS hs
  refine go_sV fw_RX2_18 eh5 rfl rfl dX2_weigh_11 ?_
  refine go_aload_n (k4 := 0) rfl (Or.inr ⟨_, rfl⟩) dX2_weigh_14 ?_
  refine go_at 15 rfl ?_
  refine go_iload_n (k4 := 1) rfl dX2_weigh_15 ?_
  obtain ⟨h6, eh6, hs⟩ := bindS hs
  refine go_sV fw_RX2_9 eh6 rfl rfl dX2_weigh_16 ?_
  refine go_aload_n (k4 := 0) rfl (Or.inr ⟨_, rfl⟩) dX2_weigh_19 ?_
  refine go_iload rfl dX2_weigh_20 ?_
  obtain ⟨h7, eh7, hs⟩ := bindS hs
  refine go_sV fw_RX2_15 eh7 rfl rfl dX2_weigh_22 ?_
  refine go_aload_n (k4 := 0) rfl (Or.inr ⟨_, rfl⟩) dX2_weigh_25 ?_
  refine go_lconst (v := 0) (by decide) dX2_weigh_26 ?_
  obtain ⟨h8, eh8, hs⟩ := bindS hs
  refine go_sV fw_RX2_33 eh8 rfl rfl dX2_weigh_27 ?_
  refine go_at 30 rfl ?_
  refine go_aload_n (k4 := 0) rfl (Or.inr ⟨_, rfl⟩) dX2_weigh_30 ?_
  refine go_lconst (v := 0) (by decide) dX2_weigh_31 ?_
  obtain ⟨h9, eh9, hs⟩ := bindS hs
  refine go_sV fw_RX2_37 eh9 rfl rfl dX2_weigh_32 ?_
  refine go_aload_n (k4 := 0) rfl (Or.inr ⟨_, rfl⟩) dX2_weigh_35 ?_
  refine go_lconst (v := 0) (by decide) dX2_weigh_36 ?_
  obtain ⟨h10, eh10, hs⟩ := bindS hs
  refine go_sV fw_RX2_40 eh10 rfl rfl dX2_weigh_37 ?_
  refine go_aload_n (k4 := 0) rfl (Or.inr ⟨_, rfl⟩) dX2_weigh_40 ?_
  refine go_lconst (v := 0) (by decide) dX2_weigh_41 ?_
  refine go_at 42 rfl ?_
  obtain ⟨h11, eh11, hs⟩ := bindS hs
  refine go_sV fw_RX2_43 eh11 rfl rfl dX2_weigh_42 ?_
  refine go_aload_n (k4 := 0) rfl (Or.inr ⟨_, rfl⟩) dX2_weigh_45 ?_
  refine go_iload_n (k4 := 2) rfl dX2_weigh_46 ?_
  refine go_iload_n (k4 := 3) rfl dX2_weigh_47 ?_
  refine go_lconst (v := 1) (by decide) dX2_weigh_48 ?_
  obtain ⟨g13, hs⟩ := gO_at hs
  obtain ⟨y12, ey12, hs⟩ := bindS hs
  refine go_V0 (As := [.int x2, .int x3, .long (1 : Int64)]) (st := []) g13 rfl rfl (show Call (d - 1) mX2_spreadWeight _ _ _ _ from orX2_spreadWeight 100 (d - 1) (by omega) 0 h11 x0 x2 x3 (1 : Int64) _ ey12) (by omega) mb_X2_spreadWeight lm_RX2_82 mi_X2_spreadWeight (Nat.le_of_ble_eq_true rfl) rfl dX2_weigh_49 ?_
  obtain rfl := Option.some.inj hs
  obtain ⟨rfl, rfl⟩ := hk
  exact go_vret rfl dX2_weigh_52
theorem oX2_weigh {d : Nat} (hd : 105 ≤ d) {h : Hp} {x0 : Nat} {x1 : Int32} {x2 : Int32} {x3 : Int32} {x4 : Int32} {y : Hp} (hs : fX2_weigh h x0 x1 x2 x3 x4 = some y) : Call d mX2_weigh [.ref x0, .int x1, .int x2, .int x3, .int x4] h (none) y := call_of (by decide +kernel) (Nat.le_of_ble_eq_true rfl) (show Go d mX2_weigh 0 [some (.ref x0), some (.int x1), some (.int x2), some (.int x3), some (.int x4)] [] h _ _ from go_subL (by simp [subL]) (oX2_weigh_0 hd hs ⟨rfl, rfl⟩))
abbrev kX11_weighYears (rf : Option Value) (hf : Hp) : Hp → Prop := fun y => rf = none ∧ hf = y
noncomputable def fX11_weighYears (h : Hp) (x0 : Nat) (x1 : Int32) (x2 : Int32) : Option Hp :=
  gO h 11 x0 (
  (fX11_tuned h x0).bind fun y1 =>
  (gN y1.2 11 x0 13).bind fun v3 =>
  (gN y1.2 11 x0 4).bind fun v4 =>
  (gI y1.2 8 v4 0).bind fun v5 =>
  (gN y1.2 11 x0 4).bind fun v6 =>
  (gI y1.2 8 v6 2).bind fun v7 =>
  gO y1.2 2 v3 (
  (fX2_weigh y1.2 v3 x1 x2 v5 v7).bind fun y8 =>
  some (y8)))
theorem oX11_weighYears_0 {d : Nat} (hd : 106 ≤ d) {h : Hp} {x0 : Nat} {x1 : Int32} {x2 : Int32} {rf : Option Value} {hf : Hp} {x : Hp} (hs : fX11_weighYears h x0 x1 x2 = some x) (hk : (kX11_weighYears rf hf) x) : Go d mX11_weighYears 0 [some (.ref x0), some (.int x1), some (.int x2)] [] h rf hf := by
  unfold fX11_weighYears at hs
  refine go_aload_n (k4 := 0) rfl (Or.inr ⟨_, rfl⟩) dX11_weighYears_0 ?_
  obtain ⟨g2, hs⟩ := gO_at hs
  obtain ⟨y1, ey1, hs⟩ := bindS hs
  refine go_V1 (As := []) (st := []) g2 rfl rfl (oX11_tuned (d := d - 1) (by omega) ey1) (by omega) mb_X11_tuned lm_RX11_166 mi_X11_tuned (Nat.le_of_ble_eq_true rfl) rfl dX11_weighYears_1 ?_
  refine go_pop rfl dX11_weighYears_4 ?_
  refine go_aload_n (k4 := 0) rfl (Or.inr ⟨_, rfl⟩) dX11_weighYears_5 ?_
  obtain ⟨v3, ev3, hs⟩ := bindS hs
  refine go_gN fl_RX11_88 ev3 dX11_weighYears_6 ?_
  refine go_iload_n (k4 := 1) rfl dX11_weighYears_9 ?_
  refine go_iload_n (k4 := 2) rfl dX11_weighYears_10 ?_
  refine go_at 11 rfl ?_
  refine go_aload_n (k4 := 0) rfl (Or.inr ⟨_, rfl⟩) dX11_weighYears_11 ?_
  obtain ⟨v4, ev4, hs⟩ := bindS hs
  refine go_gN fl_RX11_36 ev4 dX11_weighYears_12 ?_
  obtain ⟨v5, ev5, hs⟩ := bindS hs
  refine go_gI fl_RX11_142 ev5 dX11_weighYears_15 ?_
  refine go_aload_n (k4 := 0) rfl (Or.inr ⟨_, rfl⟩) dX11_weighYears_18 ?_
  obtain ⟨v6, ev6, hs⟩ := bindS hs
  refine go_gN fl_RX11_36 ev6 dX11_weighYears_19 ?_
  obtain ⟨v7, ev7, hs⟩ := bindS hs
  refine go_gI fl_RX11_152 ev7 dX11_weighYears_22 ?_
  obtain ⟨g9, hs⟩ := gO_at hs
  obtain ⟨y8, ey8, hs⟩ := bindS hs
  refine go_V0 (As := [.int x1, .int x2, .int v5, .int v7]) (st := []) g9 rfl rfl (oX2_weigh (d := d - 1) (by omega) ey8) (by omega) mb_X2_weigh lm_RX11_402 mi_X2_weigh (Nat.le_of_ble_eq_true rfl) rfl dX11_weighYears_25 ?_
  obtain rfl := Option.some.inj hs
  obtain ⟨rfl, rfl⟩ := hk
  exact go_vret rfl dX11_weighYears_28
theorem oX11_weighYears {d : Nat} (hd : 106 ≤ d) {h : Hp} {x0 : Nat} {x1 : Int32} {x2 : Int32} {y : Hp} (hs : fX11_weighYears h x0 x1 x2 = some y) : Call d mX11_weighYears [.ref x0, .int x1, .int x2] h (none) y := call_of (by decide +kernel) (Nat.le_of_ble_eq_true rfl) (show Go d mX11_weighYears 0 [some (.ref x0), some (.int x1), some (.int x2)] [] h _ _ from go_subL (by simp [subL]) (oX11_weighYears_0 hd hs ⟨rfl, rfl⟩))
abbrev kX11_fractionPart (h : Hp) (rf : Option Value) (hf : Hp) : Int32 → Prop := fun y => rf = some (.int y) ∧ hf = h
abbrev pX11_fractionPart_9 (d : Nat) (h : Hp) (x0 : Int64) (x2 : Int64) (x4 : Int32) (rf : Option Value) (hf : Hp) : (Int64 × Int64 × Int32) → Prop := fun s => Go d mX11_fractionPart 9 [some (.long x0), none, some (.long x2), none, some (.int x4), some (.long s.1), none, some (.long s.2.1), none, some (.int s.2.2), none, none] [] h rf hf
noncomputable def fX11_fractionPart_63 (h : Hp) (x5 : Int64) (s0 : Int64) : Option Int32 :=
  (dvl s0 x5).bind fun v1 =>
  some ((v1.toInt32))
theorem oX11_fractionPart_63 {d : Nat} (hd : 0 ≤ d) {h : Hp} {x5 : Int64} {s0 : Int64} {rf : Option Value} {hf : Hp} {x : Int32} (hs : fX11_fractionPart_63 h x5 s0 = some x) (hk : (kX11_fractionPart h rf hf) x) : Go d mX11_fractionPart 63 [none, none, none, none, none, some (.long x5), none, none, none, none, none, none] [.long s0] h rf hf := by
  unfold fX11_fractionPart_63 at hs
  refine go_lload rfl dX11_fractionPart_63 ?_
  obtain ⟨v1, ev1, hs⟩ := bindS hs
  refine go_dvl ev1 dX11_fractionPart_65 ?_
  refine go_l2i dX11_fractionPart_66 ?_
  obtain rfl := Option.some.inj hs
  obtain ⟨rfl, rfl⟩ := hk
  exact go_iret rfl dX11_fractionPart_67
noncomputable def fX11_fractionPart_44 (h : Hp) (x0 : Int64) (x2 : Int64) (x4 : Int32) (x5 : Int64) : Option Int32 :=
  if (lg_cmp x5 (0 : Int64)) = 0 then (
    some ((0 : Int32))) else (
    if x4 = 0 then (
      fX11_fractionPart_63 h x5 x0) else (
      fX11_fractionPart_63 h x5 x2))
theorem oX11_fractionPart_44 {d : Nat} (hd : 0 ≤ d) {h : Hp} {x0 : Int64} {x2 : Int64} {x4 : Int32} {x5 : Int64} {rf : Option Value} {hf : Hp} {x : Int32} (hs : fX11_fractionPart_44 h x0 x2 x4 x5 = some x) (hk : (kX11_fractionPart h rf hf) x) : Go d mX11_fractionPart 44 [some (.long x0), none, some (.long x2), none, some (.int x4), some (.long x5), none, none, none, none, none, none] [] h rf hf := by
  unfold fX11_fractionPart_44 at hs
  refine go_lload rfl dX11_fractionPart_44 ?_
  refine go_lconst (v := 0) (by decide) dX11_fractionPart_46 ?_
  refine go_lcmp dX11_fractionPart_47 ?_
  refine go_if_ne (tgt := 53) (by decide) dX11_fractionPart_48 (fun c => ?_) (fun c => ?_)
  · have hs := if_f c hs
    refine go_iload rfl dX11_fractionPart_53 ?_
    refine go_if_ne (tgt := 62) (by decide) dX11_fractionPart_55 (fun c => ?_) (fun c => ?_)
    · have hs := if_f c hs
      refine go_lload_n (k4 := 2) rfl dX11_fractionPart_62 ?_
      exact go_subL (L' := [none, none, none, none, none, some (.long x5), none, none, none, none, none, none]) (by simp [subL, va_rf]) (oX11_fractionPart_63 hd hs hk)
    · have hs := if_t c hs
      refine go_lload_n (k4 := 0) rfl dX11_fractionPart_58 ?_
      refine go_goto (tgt := 63) (by decide) dX11_fractionPart_59 ?_
      exact go_subL (L' := [none, none, none, none, none, some (.long x5), none, none, none, none, none, none]) (by simp [subL, va_rf]) (oX11_fractionPart_63 hd hs hk)
  · have hs := if_t c hs
    refine go_iconst (v := 0) (by decide) dX11_fractionPart_51 ?_
    obtain rfl := Option.some.inj hs
    obtain ⟨rfl, rfl⟩ := hk
    exact go_iret rfl dX11_fractionPart_52
noncomputable def fX11_fractionPart_9b (h : Hp) (x0 : Int64) (x2 : Int64) (x4 : Int32) (x5 : Int64) (x7 : Int64) (x9 : Int32) : Option ((Int64 × Int64 × Int32) ⊕ Int32) :=
  if (100 : Int32) ≤ x9 then (
  (fX11_fractionPart_44 h x0 x2 x4 x5).map (fun q => .inr q)) else (
    if (lg_cmp x7 (0 : Int64)) = 0 then (
    (fX11_fractionPart_44 h x0 x2 x4 x5).map (fun q => .inr q)) else (
      (rml x5 x7).bind fun v2 =>
      some (.inl (x7, v2, (x9 + Int32.ofInt 1)))))
noncomputable def fX11_fractionPart_9 (h : Hp) (x0 : Int64) (x2 : Int64) (x4 : Int32) (x5 : Int64) (x7 : Int64) (x9 : Int32) : Option Int32 := lpw (σ := (Int64 × Int64 × Int32)) (fun s => fX11_fractionPart_9b h x0 x2 x4 s.1 s.2.1 s.2.2) (x5, x7, x9)
theorem oX11_fractionPart_9b {d : Nat} (hd : 0 ≤ d) {h : Hp} {x0 : Int64} {x2 : Int64} {x4 : Int32} {x5 : Int64} {x7 : Int64} {x9 : Int32} {rf : Option Value} {hf : Hp} {x : ((Int64 × Int64 × Int32) ⊕ Int32)} (hs : fX11_fractionPart_9b h x0 x2 x4 x5 x7 x9 = some x) (hk : (Kx (pX11_fractionPart_9 d h x0 x2 x4 rf hf) (kX11_fractionPart h rf hf)) x) : Go d mX11_fractionPart 9 [some (.long x0), none, some (.long x2), none, some (.int x4), some (.long x5), none, some (.long x7), none, some (.int x9), none, none] [] h rf hf := by
  unfold fX11_fractionPart_9b at hs
  refine go_iload rfl dX11_fractionPart_9 ?_
  refine go_bipush (v := 100) (by decide) dX11_fractionPart_11 ?_
  refine go_icmp_ge (tgt := 44) (by decide) dX11_fractionPart_13 (fun c => ?_) (fun c => ?_)
  · have hs := if_t c hs
    obtain ⟨q, hs2, hq⟩ := mapS hs
    clear hs
    subst hq
    exact go_subL (L' := [some (.long x0), none, some (.long x2), none, some (.int x4), some (.long x5), none, none, none, none, none, none]) (by simp [subL, va_rf]) (oX11_fractionPart_44 hd hs2 hk)
  · have hs := if_f c hs
    refine go_lload rfl dX11_fractionPart_16 ?_
    refine go_lconst (v := 0) (by decide) dX11_fractionPart_18 ?_
    refine go_lcmp dX11_fractionPart_19 ?_
    refine go_if_eq (tgt := 44) (by decide) dX11_fractionPart_20 (fun c => ?_) (fun c => ?_)
    · have hs := if_t c hs
      obtain ⟨q, hs2, hq⟩ := mapS hs
      clear hs
      subst hq
      exact go_subL (L' := [some (.long x0), none, some (.long x2), none, some (.int x4), some (.long x5), none, none, none, none, none, none]) (by simp [subL, va_rf]) (oX11_fractionPart_44 hd hs2 hk)
    · have hs := if_f c hs
      refine go_lload rfl dX11_fractionPart_23 ?_
      refine go_lload rfl dX11_fractionPart_25 ?_
      obtain ⟨v2, ev2, hs⟩ := bindS hs
      refine go_rml ev2 dX11_fractionPart_27 ?_
      refine go_lstore (L' := [some (.long x0), none, some (.long x2), none, some (.int x4), some (.long x5), none, some (.long x7), none, some (.int x9), some (.long v2), none]) (by decide) rfl dX11_fractionPart_28 ?_
      refine go_lload rfl dX11_fractionPart_30 ?_
      refine go_lstore (L' := [some (.long x0), none, some (.long x2), none, some (.int x4), some (.long x7), none, some (.long x7), none, some (.int x9), some (.long v2), none]) (by decide) rfl dX11_fractionPart_32 ?_
      refine go_lload rfl dX11_fractionPart_34 ?_
      refine go_at 36 rfl ?_
      refine go_lstore (L' := [some (.long x0), none, some (.long x2), none, some (.int x4), some (.long x7), none, some (.long v2), none, some (.int x9), some (.long v2), none]) (by decide) rfl dX11_fractionPart_36 ?_
      refine go_iinc (L' := [some (.long x0), none, some (.long x2), none, some (.int x4), some (.long x7), none, some (.long v2), none, some (.int (x9 + Int32.ofInt 1)), some (.long v2), none]) rfl (by decide) rfl rfl dX11_fractionPart_38 ?_
      refine go_goto (tgt := 9) (by decide) dX11_fractionPart_41 ?_
      obtain rfl := Option.some.inj hs
      exact go_subL (L' := [some (.long x0), none, some (.long x2), none, some (.int x4), some (.long x7), none, some (.long v2), none, some (.int (x9 + Int32.ofInt 1)), none, none]) (by simp [subL, va_rf]) hk
theorem oX11_fractionPart_9 {d : Nat} (hd : 0 ≤ d) {h : Hp} {x0 : Int64} {x2 : Int64} {x4 : Int32} {x5 : Int64} {x7 : Int64} {x9 : Int32} {rf : Option Value} {hf : Hp} {x : Int32} (hs : fX11_fractionPart_9 h x0 x2 x4 x5 x7 x9 = some x) (hk : (kX11_fractionPart h rf hf) x) : Go d mX11_fractionPart 9 [some (.long x0), none, some (.long x2), none, some (.int x4), some (.long x5), none, some (.long x7), none, some (.int x9), none, none] [] h rf hf := by
  unfold fX11_fractionPart_9 at hs
  exact lpw_go (P := pX11_fractionPart_9 d h x0 x2 x4 rf hf) (fun s x hs hk => oX11_fractionPart_9b hd hs hk) (x5, x7, x9) x hs hk
noncomputable def fX11_fractionPart (h : Hp) (x0 : Int64) (x2 : Int64) (x4 : Int32) : Option Int32 :=
  fX11_fractionPart_9 h x0 x2 x4 x2 x0 (0 : Int32)
theorem oX11_fractionPart_0 {d : Nat} (hd : 0 ≤ d) {h : Hp} {x0 : Int64} {x2 : Int64} {x4 : Int32} {rf : Option Value} {hf : Hp} {x : Int32} (hs : fX11_fractionPart h x0 x2 x4 = some x) (hk : (kX11_fractionPart h rf hf) x) : Go d mX11_fractionPart 0 [some (.long x0), none, some (.long x2), none, some (.int x4), none, none, none, none, none, none, none] [] h rf hf := by
  unfold fX11_fractionPart at hs
  refine go_lload_n (k4 := 2) rfl dX11_fractionPart_0 ?_
  refine go_lstore (L' := [some (.long x0), none, some (.long x2), none, some (.int x4), some (.long x2), none, none, none, none, none, none]) (by decide) rfl dX11_fractionPart_1 ?_
  refine go_lload_n (k4 := 0) rfl dX11_fractionPart_3 ?_
  refine go_lstore (L' := [some (.long x0), none, some (.long x2), none, some (.int x4), some (.long x2), none, some (.long x0), none, none, none, none]) (by decide) rfl dX11_fractionPart_4 ?_
  refine go_iconst (v := 0) (by decide) dX11_fractionPart_6 ?_
  refine go_istore (L' := [some (.long x0), none, some (.long x2), none, some (.int x4), some (.long x2), none, some (.long x0), none, some (.int (0 : Int32)), none, none]) (by decide) rfl dX11_fractionPart_7 ?_
  exact go_subL (L' := [some (.long x0), none, some (.long x2), none, some (.int x4), some (.long x2), none, some (.long x0), none, some (.int (0 : Int32)), none, none]) (by simp [subL, va_rf]) (oX11_fractionPart_9 hd hs hk)
theorem oX11_fractionPart {d : Nat} (hd : 0 ≤ d) {h : Hp} {x0 : Int64} {x2 : Int64} {x4 : Int32} {y : Int32} (hs : fX11_fractionPart h x0 x2 x4 = some y) : Call d mX11_fractionPart [.long x0, .long x2, .int x4] h (some (.int y)) h := call_of (by decide +kernel) (Nat.le_of_ble_eq_true rfl) (show Go d mX11_fractionPart 0 [some (.long x0), none, some (.long x2), none, some (.int x4), none, none, none, none, none, none, none] [] h _ _ from go_subL (by simp [subL]) (oX11_fractionPart_0 hd hs ⟨rfl, rfl⟩))
abbrev kX11_chance (rf : Option Value) (hf : Hp) : (Int32 × Hp) → Prop := fun y => rf = some (.int y.1) ∧ hf = y.2
noncomputable def fX11_chance_15 (h : Hp)  : Option (Int32 × Hp) :=
  some (((-2 : Int32), h))
theorem oX11_chance_15 {d : Nat} (hd : 107 ≤ d) {h : Hp} {rf : Option Value} {hf : Hp} {x : (Int32 × Hp)} (hs : fX11_chance_15 h  = some x) (hk : (kX11_chance rf hf) x) : Go d mX11_chance 15 [none, none, none, none] [] h rf hf := by
  unfold fX11_chance_15 at hs
  refine go_bipush (v := -2) (by decide) dX11_chance_15 ?_
  obtain rfl := Option.some.inj hs
  obtain ⟨rfl, rfl⟩ := hk
  exact go_iret rfl dX11_chance_17
noncomputable def fX11_chance_28 (h : Hp)  : Option (Int32 × Hp) :=
  some (((-3 : Int32), h))
theorem oX11_chance_28 {d : Nat} (hd : 107 ≤ d) {h : Hp} {rf : Option Value} {hf : Hp} {x : (Int32 × Hp)} (hs : fX11_chance_28 h  = some x) (hk : (kX11_chance rf hf) x) : Go d mX11_chance 28 [none, none, none, none] [] h rf hf := by
  unfold fX11_chance_28 at hs
  refine go_bipush (v := -3) (by decide) dX11_chance_28 ?_
  obtain rfl := Option.some.inj hs
  obtain ⟨rfl, rfl⟩ := hk
  exact go_iret rfl dX11_chance_30
noncomputable def fX11_chance (h : Hp) (x0 : Nat) (x1 : Int32) (x2 : Int32) (x3 : Int32) : Option (Int32 × Hp) :=
  gO h 11 x0 (
  (fX11_isPair h x0 x1).bind fun y1 =>
  if y1 = 0 then (
  fX11_chance_15 h ) else (
    (fX11_isFractionPart h x3).bind fun y3 =>
    if y3 = 0 then (
    fX11_chance_15 h ) else (
      if x2 < 0 then (
      fX11_chance_28 h ) else (
        if x2 ≤ (8 : Int32) then (
          gO h 11 x0 (
          (fX11_weighYears h x0 x1 x2).bind fun y4 =>
          (gN y4 11 x0 13).bind fun v6 =>
          (gJ y4 2 v6 8).bind fun v7 =>
          (gN y4 11 x0 13).bind fun v8 =>
          (gJ y4 2 v8 11).bind fun v9 =>
          (fX11_fractionPart y4 v7 v9 x3).bind fun y10 =>
          some ((y10, y4)))) else (
        fX11_chance_28 h )))))
theorem oX11_chance_0 {d : Nat} (hd : 107 ≤ d) {h : Hp} {x0 : Nat} {x1 : Int32} {x2 : Int32} {x3 : Int32} {rf : Option Value} {hf : Hp} {x : (Int32 × Hp)} (hs : fX11_chance h x0 x1 x2 x3 = some x) (hk : (kX11_chance rf hf) x) : Go d mX11_chance 0 [some (.ref x0), some (.int x1), some (.int x2), some (.int x3)] [] h rf hf := by
  unfold fX11_chance at hs
  refine go_aload_n (k4 := 0) rfl (Or.inr ⟨_, rfl⟩) dX11_chance_0 ?_
  refine go_iload_n (k4 := 1) rfl dX11_chance_1 ?_
  obtain ⟨g2, hs⟩ := gO_at hs
  obtain ⟨y1, ey1, hs⟩ := bindS hs
  refine go_V1 (As := [.int x1]) (st := []) g2 rfl rfl (oX11_isPair (d := d - 1) (by omega) ey1) (by omega) mb_X11_isPair lm_RX11_138 mi_X11_isPair (Nat.le_of_ble_eq_true rfl) rfl dX11_chance_2 ?_
  refine go_if_eq (tgt := 15) (by decide) dX11_chance_5 (fun c => ?_) (fun c => ?_)
  · have hs := if_t c hs
    exact go_subL (L' := [none, none, none, none]) (by simp [subL, va_rf]) (oX11_chance_15 hd hs hk)
  · have hs := if_f c hs
    refine go_iload_n (k4 := 3) rfl dX11_chance_8 ?_
    obtain ⟨y3, ey3, hs⟩ := bindS hs
    refine go_S1 (As := [.int x3]) (st := []) (oX11_isFractionPart (d := d - 1) (by omega) ey3) (by omega) mb_X11_isFractionPart lm_RX11_379 ms_X11_isFractionPart (Nat.le_of_ble_eq_true rfl) rfl dX11_chance_9 ?_
    refine go_if_ne (tgt := 18) (by decide) dX11_chance_12 (fun c => ?_) (fun c => ?_)
    · have hs := if_f c hs
      refine go_iload_n (k4 := 2) rfl dX11_chance_18 ?_
      refine go_if_lt (tgt := 28) (by decide) dX11_chance_19 (fun c => ?_) (fun c => ?_)
      · have hs := if_t c hs
        exact go_subL (L' := [none, none, none, none]) (by simp [subL, va_rf]) (oX11_chance_28 hd hs hk)
      · have hs := if_f c hs
        refine go_iload_n (k4 := 2) rfl dX11_chance_22 ?_
        refine go_bipush (v := 8) (by decide) dX11_chance_23 ?_
        refine go_icmp_le (tgt := 31) (by decide) dX11_chance_25 (fun c => ?_) (fun c => ?_)
        · have hs := if_t c hs
          refine go_aload_n (k4 := 0) rfl (Or.inr ⟨_, rfl⟩) dX11_chance_31 ?_
          refine go_iload_n (k4 := 1) rfl dX11_chance_32 ?_
          refine go_iload_n (k4 := 2) rfl dX11_chance_33 ?_
          obtain ⟨g5, hs⟩ := gO_at hs
          obtain ⟨y4, ey4, hs⟩ := bindS hs
          refine go_V0 (As := [.int x1, .int x2]) (st := []) g5 rfl rfl (oX11_weighYears (d := d - 1) (by omega) ey4) (by omega) mb_X11_weighYears lm_RX11_382 mi_X11_weighYears (Nat.le_of_ble_eq_true rfl) rfl dX11_chance_34 ?_
          refine go_aload_n (k4 := 0) rfl (Or.inr ⟨_, rfl⟩) dX11_chance_37 ?_
          obtain ⟨v6, ev6, hs⟩ := bindS hs
          refine go_gN fl_RX11_88 ev6 dX11_chance_38 ?_
          obtain ⟨v7, ev7, hs⟩ := bindS hs
          refine go_gJ fl_RX11_385 ev7 dX11_chance_41 ?_
          refine go_at 44 rfl ?_
          refine go_aload_n (k4 := 0) rfl (Or.inr ⟨_, rfl⟩) dX11_chance_44 ?_
          obtain ⟨v8, ev8, hs⟩ := bindS hs
          refine go_gN fl_RX11_88 ev8 dX11_chance_45 ?_
          obtain ⟨v9, ev9, hs⟩ := bindS hs
          refine go_gJ fl_RX11_389 ev9 dX11_chance_48 ?_
          refine go_iload_n (k4 := 3) rfl dX11_chance_51 ?_
          obtain ⟨y10, ey10, hs⟩ := bindS hs
          refine go_S1 (As := [.long v7, .long v9, .int x3]) (st := []) (oX11_fractionPart (d := d - 1) (by omega) ey10) (by omega) mb_X11_fractionPart lm_RX11_392 ms_X11_fractionPart (Nat.le_of_ble_eq_true rfl) rfl dX11_chance_52 ?_
          obtain rfl := Option.some.inj hs
          obtain ⟨rfl, rfl⟩ := hk
          exact go_iret rfl dX11_chance_55
        · have hs := if_f c hs
          exact go_subL (L' := [none, none, none, none]) (by simp [subL, va_rf]) (oX11_chance_28 hd hs hk)
    · have hs := if_t c hs
      exact go_subL (L' := [none, none, none, none]) (by simp [subL, va_rf]) (oX11_chance_15 hd hs hk)
theorem oX11_chance {d : Nat} (hd : 107 ≤ d) {h : Hp} {x0 : Nat} {x1 : Int32} {x2 : Int32} {x3 : Int32} {y : (Int32 × Hp)} (hs : fX11_chance h x0 x1 x2 x3 = some y) : Call d mX11_chance [.ref x0, .int x1, .int x2, .int x3] h (some (.int y.1)) (y.2) := call_of (by decide +kernel) (Nat.le_of_ble_eq_true rfl) (show Go d mX11_chance 0 [some (.ref x0), some (.int x1), some (.int x2), some (.int x3)] [] h _ _ from go_subL (by simp [subL]) (oX11_chance_0 hd hs ⟨rfl, rfl⟩))
abbrev kX11_mean (rf : Option Value) (hf : Hp) : (Int32 × Hp) → Prop := fun y => rf = some (.int y.1) ∧ hf = y.2
noncomputable def fX11_mean_15 (h : Hp)  : Option (Int32 × Hp) :=
  some (((-2 : Int32), h))
theorem oX11_mean_15 {d : Nat} (hd : 107 ≤ d) {h : Hp} {rf : Option Value} {hf : Hp} {x : (Int32 × Hp)} (hs : fX11_mean_15 h  = some x) (hk : (kX11_mean rf hf) x) : Go d mX11_mean 15 [none, none, none, none] [] h rf hf := by
  unfold fX11_mean_15 at hs
  refine go_bipush (v := -2) (by decide) dX11_mean_15 ?_
  obtain rfl := Option.some.inj hs
  obtain ⟨rfl, rfl⟩ := hk
  exact go_iret rfl dX11_mean_17
noncomputable def fX11_mean_28 (h : Hp)  : Option (Int32 × Hp) :=
  some (((-3 : Int32), h))
theorem oX11_mean_28 {d : Nat} (hd : 107 ≤ d) {h : Hp} {rf : Option Value} {hf : Hp} {x : (Int32 × Hp)} (hs : fX11_mean_28 h  = some x) (hk : (kX11_mean rf hf) x) : Go d mX11_mean 28 [none, none, none, none] [] h rf hf := by
  unfold fX11_mean_28 at hs
  refine go_bipush (v := -3) (by decide) dX11_mean_28 ?_
  obtain rfl := Option.some.inj hs
  obtain ⟨rfl, rfl⟩ := hk
  exact go_iret rfl dX11_mean_30
noncomputable def fX11_mean (h : Hp) (x0 : Nat) (x1 : Int32) (x2 : Int32) (x3 : Int32) : Option (Int32 × Hp) :=
  gO h 11 x0 (
  (fX11_isPair h x0 x1).bind fun y1 =>
  if y1 = 0 then (
  fX11_mean_15 h ) else (
    (fX11_isFractionPart h x3).bind fun y3 =>
    if y3 = 0 then (
    fX11_mean_15 h ) else (
      if x2 < 0 then (
      fX11_mean_28 h ) else (
        if x2 ≤ (8 : Int32) then (
          gO h 11 x0 (
          (fX11_weighYears h x0 x1 x2).bind fun y4 =>
          (gN y4 11 x0 13).bind fun v6 =>
          (gJ y4 2 v6 9).bind fun v7 =>
          (gN y4 11 x0 13).bind fun v8 =>
          (gJ y4 2 v8 11).bind fun v9 =>
          (fX11_fractionPart y4 v7 v9 x3).bind fun y10 =>
          some ((y10, y4)))) else (
        fX11_mean_28 h )))))
theorem oX11_mean_0 {d : Nat} (hd : 107 ≤ d) {h : Hp} {x0 : Nat} {x1 : Int32} {x2 : Int32} {x3 : Int32} {rf : Option Value} {hf : Hp} {x : (Int32 × Hp)} (hs : fX11_mean h x0 x1 x2 x3 = some x) (hk : (kX11_mean rf hf) x) : Go d mX11_mean 0 [some (.ref x0), some (.int x1), some (.int x2), some (.int x3)] [] h rf hf := by
  unfold fX11_mean at hs
  refine go_aload_n (k4 := 0) rfl (Or.inr ⟨_, rfl⟩) dX11_mean_0 ?_
  refine go_iload_n (k4 := 1) rfl dX11_mean_1 ?_
  obtain ⟨g2, hs⟩ := gO_at hs
  obtain ⟨y1, ey1, hs⟩ := bindS hs
  refine go_V1 (As := [.int x1]) (st := []) g2 rfl rfl (oX11_isPair (d := d - 1) (by omega) ey1) (by omega) mb_X11_isPair lm_RX11_138 mi_X11_isPair (Nat.le_of_ble_eq_true rfl) rfl dX11_mean_2 ?_
  refine go_if_eq (tgt := 15) (by decide) dX11_mean_5 (fun c => ?_) (fun c => ?_)
  · have hs := if_t c hs
    exact go_subL (L' := [none, none, none, none]) (by simp [subL, va_rf]) (oX11_mean_15 hd hs hk)
  · have hs := if_f c hs
    refine go_iload_n (k4 := 3) rfl dX11_mean_8 ?_
    obtain ⟨y3, ey3, hs⟩ := bindS hs
    refine go_S1 (As := [.int x3]) (st := []) (oX11_isFractionPart (d := d - 1) (by omega) ey3) (by omega) mb_X11_isFractionPart lm_RX11_379 ms_X11_isFractionPart (Nat.le_of_ble_eq_true rfl) rfl dX11_mean_9 ?_
    refine go_if_ne (tgt := 18) (by decide) dX11_mean_12 (fun c => ?_) (fun c => ?_)
    · have hs := if_f c hs
      refine go_iload_n (k4 := 2) rfl dX11_mean_18 ?_
      refine go_if_lt (tgt := 28) (by decide) dX11_mean_19 (fun c => ?_) (fun c => ?_)
      · have hs := if_t c hs
        exact go_subL (L' := [none, none, none, none]) (by simp [subL, va_rf]) (oX11_mean_28 hd hs hk)
      · have hs := if_f c hs
        refine go_iload_n (k4 := 2) rfl dX11_mean_22 ?_
        refine go_bipush (v := 8) (by decide) dX11_mean_23 ?_
        refine go_icmp_le (tgt := 31) (by decide) dX11_mean_25 (fun c => ?_) (fun c => ?_)
        · have hs := if_t c hs
          refine go_aload_n (k4 := 0) rfl (Or.inr ⟨_, rfl⟩) dX11_mean_31 ?_
          refine go_iload_n (k4 := 1) rfl dX11_mean_32 ?_
          refine go_iload_n (k4 := 2) rfl dX11_mean_33 ?_
          obtain ⟨g5, hs⟩ := gO_at hs
          obtain ⟨y4, ey4, hs⟩ := bindS hs
          refine go_V0 (As := [.int x1, .int x2]) (st := []) g5 rfl rfl (oX11_weighYears (d := d - 1) (by omega) ey4) (by omega) mb_X11_weighYears lm_RX11_382 mi_X11_weighYears (Nat.le_of_ble_eq_true rfl) rfl dX11_mean_34 ?_
          refine go_aload_n (k4 := 0) rfl (Or.inr ⟨_, rfl⟩) dX11_mean_37 ?_
          obtain ⟨v6, ev6, hs⟩ := bindS hs
          refine go_gN fl_RX11_88 ev6 dX11_mean_38 ?_
          obtain ⟨v7, ev7, hs⟩ := bindS hs
          refine go_gJ fl_RX11_396 ev7 dX11_mean_41 ?_
          refine go_at 44 rfl ?_
          refine go_aload_n (k4 := 0) rfl (Or.inr ⟨_, rfl⟩) dX11_mean_44 ?_
          obtain ⟨v8, ev8, hs⟩ := bindS hs
          refine go_gN fl_RX11_88 ev8 dX11_mean_45 ?_
          obtain ⟨v9, ev9, hs⟩ := bindS hs
          refine go_gJ fl_RX11_389 ev9 dX11_mean_48 ?_
          refine go_iload_n (k4 := 3) rfl dX11_mean_51 ?_
          obtain ⟨y10, ey10, hs⟩ := bindS hs
          refine go_S1 (As := [.long v7, .long v9, .int x3]) (st := []) (oX11_fractionPart (d := d - 1) (by omega) ey10) (by omega) mb_X11_fractionPart lm_RX11_392 ms_X11_fractionPart (Nat.le_of_ble_eq_true rfl) rfl dX11_mean_52 ?_
          obtain rfl := Option.some.inj hs
          obtain ⟨rfl, rfl⟩ := hk
          exact go_iret rfl dX11_mean_55
        · have hs := if_f c hs
          exact go_subL (L' := [none, none, none, none]) (by simp [subL, va_rf]) (oX11_mean_28 hd hs hk)
    · have hs := if_t c hs
      exact go_subL (L' := [none, none, none, none]) (by simp [subL, va_rf]) (oX11_mean_15 hd hs hk)
theorem oX11_mean {d : Nat} (hd : 107 ≤ d) {h : Hp} {x0 : Nat} {x1 : Int32} {x2 : Int32} {x3 : Int32} {y : (Int32 × Hp)} (hs : fX11_mean h x0 x1 x2 x3 = some y) : Call d mX11_mean [.ref x0, .int x1, .int x2, .int x3] h (some (.int y.1)) (y.2) := call_of (by decide +kernel) (Nat.le_of_ble_eq_true rfl) (show Go d mX11_mean 0 [some (.ref x0), some (.int x1), some (.int x2), some (.int x3)] [] h _ _ from go_subL (by simp [subL]) (oX11_mean_0 hd hs ⟨rfl, rfl⟩))
abbrev kX11_fallen (rf : Option Value) (hf : Hp) : (Int32 × Hp) → Prop := fun y => rf = some (.int y.1) ∧ hf = y.2
noncomputable def fX11_fallen_20 (h : Hp)  : Option (Int32 × Hp) :=
  some (((-3 : Int32), h))
theorem oX11_fallen_20 {d : Nat} (hd : 107 ≤ d) {h : Hp} {rf : Option Value} {hf : Hp} {x : (Int32 × Hp)} (hs : fX11_fallen_20 h  = some x) (hk : (kX11_fallen rf hf) x) : Go d mX11_fallen 20 [none, none, none] [] h rf hf := by
  unfold fX11_fallen_20 at hs
  refine go_bipush (v := -3) (by decide) dX11_fallen_20 ?_
  obtain rfl := Option.some.inj hs
  obtain ⟨rfl, rfl⟩ := hk
  exact go_iret rfl dX11_fallen_22
noncomputable def fX11_fallen (h : Hp) (x0 : Nat) (x1 : Int32) (x2 : Int32) : Option (Int32 × Hp) :=
  (fX11_isFractionPart h x2).bind fun y1 =>
  if y1 = 0 then (
    some (((-2 : Int32), h))) else (
    if x1 < 0 then (
    fX11_fallen_20 h ) else (
      if x1 ≤ (8 : Int32) then (
        gO h 11 x0 (
        (fX11_weighYears h x0 (0 : Int32) x1).bind fun y2 =>
        (gN y2 11 x0 13).bind fun v4 =>
        (gJ y2 2 v4 10).bind fun v5 =>
        (gN y2 11 x0 13).bind fun v6 =>
        (gJ y2 2 v6 11).bind fun v7 =>
        (fX11_fractionPart y2 v5 v7 x2).bind fun y8 =>
        some ((y8, y2)))) else (
      fX11_fallen_20 h )))
theorem oX11_fallen_0 {d : Nat} (hd : 107 ≤ d) {h : Hp} {x0 : Nat} {x1 : Int32} {x2 : Int32} {rf : Option Value} {hf : Hp} {x : (Int32 × Hp)} (hs : fX11_fallen h x0 x1 x2 = some x) (hk : (kX11_fallen rf hf) x) : Go d mX11_fallen 0 [some (.ref x0), some (.int x1), some (.int x2)] [] h rf hf := by
  unfold fX11_fallen at hs
  refine go_iload_n (k4 := 2) rfl dX11_fallen_0 ?_
  obtain ⟨y1, ey1, hs⟩ := bindS hs
  refine go_S1 (As := [.int x2]) (st := []) (oX11_isFractionPart (d := d - 1) (by omega) ey1) (by omega) mb_X11_isFractionPart lm_RX11_379 ms_X11_isFractionPart (Nat.le_of_ble_eq_true rfl) rfl dX11_fallen_1 ?_
  refine go_if_ne (tgt := 10) (by decide) dX11_fallen_4 (fun c => ?_) (fun c => ?_)
  · have hs := if_f c hs
    refine go_iload_n (k4 := 1) rfl dX11_fallen_10 ?_
    refine go_if_lt (tgt := 20) (by decide) dX11_fallen_11 (fun c => ?_) (fun c => ?_)
    · have hs := if_t c hs
      exact go_subL (L' := [none, none, none]) (by simp [subL, va_rf]) (oX11_fallen_20 hd hs hk)
    · have hs := if_f c hs
      refine go_iload_n (k4 := 1) rfl dX11_fallen_14 ?_
      refine go_bipush (v := 8) (by decide) dX11_fallen_15 ?_
      refine go_icmp_le (tgt := 23) (by decide) dX11_fallen_17 (fun c => ?_) (fun c => ?_)
      · have hs := if_t c hs
        refine go_aload_n (k4 := 0) rfl (Or.inr ⟨_, rfl⟩) dX11_fallen_23 ?_
        refine go_iconst (v := 0) (by decide) dX11_fallen_24 ?_
        refine go_iload_n (k4 := 1) rfl dX11_fallen_25 ?_
        obtain ⟨g3, hs⟩ := gO_at hs
        obtain ⟨y2, ey2, hs⟩ := bindS hs
        refine go_V0 (As := [.int (0 : Int32), .int x1]) (st := []) g3 rfl rfl (oX11_weighYears (d := d - 1) (by omega) ey2) (by omega) mb_X11_weighYears lm_RX11_382 mi_X11_weighYears (Nat.le_of_ble_eq_true rfl) rfl dX11_fallen_26 ?_
        refine go_aload_n (k4 := 0) rfl (Or.inr ⟨_, rfl⟩) dX11_fallen_29 ?_
        obtain ⟨v4, ev4, hs⟩ := bindS hs
        refine go_gN fl_RX11_88 ev4 dX11_fallen_30 ?_
        obtain ⟨v5, ev5, hs⟩ := bindS hs
        refine go_gJ fl_RX11_399 ev5 dX11_fallen_33 ?_
        refine go_at 36 rfl ?_
        refine go_aload_n (k4 := 0) rfl (Or.inr ⟨_, rfl⟩) dX11_fallen_36 ?_
        obtain ⟨v6, ev6, hs⟩ := bindS hs
        refine go_gN fl_RX11_88 ev6 dX11_fallen_37 ?_
        obtain ⟨v7, ev7, hs⟩ := bindS hs
        refine go_gJ fl_RX11_389 ev7 dX11_fallen_40 ?_
        refine go_iload_n (k4 := 2) rfl dX11_fallen_43 ?_
        obtain ⟨y8, ey8, hs⟩ := bindS hs
        refine go_S1 (As := [.long v5, .long v7, .int x2]) (st := []) (oX11_fractionPart (d := d - 1) (by omega) ey8) (by omega) mb_X11_fractionPart lm_RX11_392 ms_X11_fractionPart (Nat.le_of_ble_eq_true rfl) rfl dX11_fallen_44 ?_
        obtain rfl := Option.some.inj hs
        obtain ⟨rfl, rfl⟩ := hk
        exact go_iret rfl dX11_fallen_47
      · have hs := if_f c hs
        exact go_subL (L' := [none, none, none]) (by simp [subL, va_rf]) (oX11_fallen_20 hd hs hk)
  · have hs := if_t c hs
    refine go_bipush (v := -2) (by decide) dX11_fallen_7 ?_
    obtain rfl := Option.some.inj hs
    obtain ⟨rfl, rfl⟩ := hk
    exact go_iret rfl dX11_fallen_9
theorem oX11_fallen {d : Nat} (hd : 107 ≤ d) {h : Hp} {x0 : Nat} {x1 : Int32} {x2 : Int32} {y : (Int32 × Hp)} (hs : fX11_fallen h x0 x1 x2 = some y) : Call d mX11_fallen [.ref x0, .int x1, .int x2] h (some (.int y.1)) (y.2) := call_of (by decide +kernel) (Nat.le_of_ble_eq_true rfl) (show Go d mX11_fallen 0 [some (.ref x0), some (.int x1), some (.int x2)] [] h _ _ from go_subL (by simp [subL]) (oX11_fallen_0 hd hs ⟨rfl, rfl⟩))
abbrev kJ7_fill_d0a16 (rf : Option Value) (hf : Hp) : Hp → Prop := fun y => rf = none ∧ hf = y
abbrev pJ7_fill_d0a16_6 (d : Nat) (x0 : Nat) (x1 : Int64) (x4 : Int32) (rf : Option Value) (hf : Hp) : (Int32 × Hp) → Prop := fun s => Go d mJ7_fill_d0a16 6 [some (.ref x0), some (.long x1), none, some (.int s.1), some (.int x4)] [] s.2 rf hf
noncomputable def fJ7_fill_d0a16_6b (h : Hp) (x0 : Nat) (x1 : Int64) (x4 : Int32) (x3 : Int32) : Option ((Int32 × Hp) ⊕ Hp) :=
  if x4 ≤ x3 then (
    some (.inr h)) else (
    (wJ h x0 x3 x1).bind fun h2 =>
    some (.inl ((x3 + Int32.ofInt 1), h2)))
noncomputable def fJ7_fill_d0a16_6 (h : Hp) (x0 : Nat) (x1 : Int64) (x3 : Int32) (x4 : Int32) : Option Hp := lpw (σ := (Int32 × Hp)) (fun s => fJ7_fill_d0a16_6b s.2 x0 x1 x4 s.1) (x3, h)
theorem oJ7_fill_d0a16_6b {d : Nat} (hd : 0 ≤ d) {h : Hp} {x0 : Nat} {x1 : Int64} {x3 : Int32} {x4 : Int32} {rf : Option Value} {hf : Hp} {x : ((Int32 × Hp) ⊕ Hp)} (hs : fJ7_fill_d0a16_6b h x0 x1 x4 x3 = some x) (hk : (Kx (pJ7_fill_d0a16_6 d x0 x1 x4 rf hf) (kJ7_fill_d0a16 rf hf)) x) : Go d mJ7_fill_d0a16 6 [some (.ref x0), some (.long x1), none, some (.int x3), some (.int x4)] [] h rf hf := by
  unfold fJ7_fill_d0a16_6b at hs
  refine go_iload_n (k4 := 3) rfl dJ7_fill_d0a16_6 ?_
  refine go_iload rfl dJ7_fill_d0a16_7 ?_
  refine go_icmp_ge (tgt := 22) (by decide) dJ7_fill_d0a16_9 (fun c => ?_) (fun c => ?_)
  · have hs := if_t c hs
    obtain rfl := Option.some.inj hs
    obtain ⟨rfl, rfl⟩ := hk
    exact go_vret rfl dJ7_fill_d0a16_22
  · have hs := if_f c hs
    refine go_aload_n (k4 := 0) rfl (Or.inr ⟨_, rfl⟩) dJ7_fill_d0a16_12 ?_
    refine go_iload_n (k4 := 3) rfl dJ7_fill_d0a16_13 ?_
    refine go_lload_n (k4 := 1) rfl dJ7_fill_d0a16_14 ?_
    obtain ⟨h2, eh2, hs⟩ := bindS hs
    refine go_wJ eh2 dJ7_fill_d0a16_15 ?_
    refine go_iinc (L' := [some (.ref x0), some (.long x1), none, some (.int (x3 + Int32.ofInt 1)), some (.int x4)]) rfl (by decide) rfl rfl dJ7_fill_d0a16_16 ?_
    refine go_goto (tgt := 6) (by decide) dJ7_fill_d0a16_19 ?_
    obtain rfl := Option.some.inj hs
    exact go_subL (L' := [some (.ref x0), some (.long x1), none, some (.int (x3 + Int32.ofInt 1)), some (.int x4)]) (by simp [subL, va_rf]) hk
theorem oJ7_fill_d0a16_6 {d : Nat} (hd : 0 ≤ d) {h : Hp} {x0 : Nat} {x1 : Int64} {x3 : Int32} {x4 : Int32} {rf : Option Value} {hf : Hp} {x : Hp} (hs : fJ7_fill_d0a16_6 h x0 x1 x3 x4 = some x) (hk : (kJ7_fill_d0a16 rf hf) x) : Go d mJ7_fill_d0a16 6 [some (.ref x0), some (.long x1), none, some (.int x3), some (.int x4)] [] h rf hf := by
  unfold fJ7_fill_d0a16_6 at hs
  exact lpw_go (P := pJ7_fill_d0a16_6 d x0 x1 x4 rf hf) (fun s x hs hk => oJ7_fill_d0a16_6b hd hs hk) (x3, h) x hs hk
noncomputable def fJ7_fill_d0a16 (h : Hp) (x0 : Nat) (x1 : Int64) : Option Hp :=
  (aL h x0).bind fun v1 =>
  fJ7_fill_d0a16_6 h x0 x1 (0 : Int32) v1
theorem oJ7_fill_d0a16_0 {d : Nat} (hd : 0 ≤ d) {h : Hp} {x0 : Nat} {x1 : Int64} {rf : Option Value} {hf : Hp} {x : Hp} (hs : fJ7_fill_d0a16 h x0 x1 = some x) (hk : (kJ7_fill_d0a16 rf hf) x) : Go d mJ7_fill_d0a16 0 [some (.ref x0), some (.long x1), none, none, none] [] h rf hf := by
  unfold fJ7_fill_d0a16 at hs
  refine go_iconst (v := 0) (by decide) dJ7_fill_d0a16_0 ?_
  refine go_istore_n (k4 := 3) (L' := [some (.ref x0), some (.long x1), none, some (.int (0 : Int32)), none]) (by decide) rfl dJ7_fill_d0a16_1 ?_
  refine go_aload_n (k4 := 0) rfl (Or.inr ⟨_, rfl⟩) dJ7_fill_d0a16_2 ?_
  obtain ⟨v1, ev1, hs⟩ := bindS hs
  refine go_aL ev1 dJ7_fill_d0a16_3 ?_
  refine go_istore (L' := [some (.ref x0), some (.long x1), none, some (.int (0 : Int32)), some (.int v1)]) (by decide) rfl dJ7_fill_d0a16_4 ?_
  exact go_subL (L' := [some (.ref x0), some (.long x1), none, some (.int (0 : Int32)), some (.int v1)]) (by simp [subL, va_rf]) (oJ7_fill_d0a16_6 hd hs hk)
theorem oJ7_fill_d0a16 {d : Nat} (hd : 0 ≤ d) {h : Hp} {x0 : Nat} {x1 : Int64} {y : Hp} (hs : fJ7_fill_d0a16 h x0 x1 = some y) : Call d mJ7_fill_d0a16 [.ref x0, .long x1] h (none) y := call_of (by decide +kernel) (Nat.le_of_ble_eq_true rfl) (show Go d mJ7_fill_d0a16 0 [some (.ref x0), some (.long x1), none, none, none] [] h _ _ from go_subL (by simp [subL]) (oJ7_fill_d0a16_0 hd hs ⟨rfl, rfl⟩))
abbrev kX9_renew (rf : Option Value) (hf : Hp) : Hp → Prop := fun y => rf = none ∧ hf = y
noncomputable def fX9_renew (h : Hp) (x0 : Nat) (x1 : Int32) (x2 : Int32) : Option Hp :=
  (gN h 9 x0 0).bind fun v1 =>
  (fJ7_fill_d0a16 h v1 (0 : Int64)).bind fun y2 =>
  (sV y2 9 x0 1 (.int x1)).bind fun h3 =>
  (sV h3 9 x0 3 (.int (imin x2 (40 : Int32)))).bind fun h4 =>
  (sV h4 9 x0 2 (.int (0 : Int32))).bind fun h5 =>
  some (h5)
theorem oX9_renew_0 {d : Nat} (hd : 1 ≤ d) {h : Hp} {x0 : Nat} {x1 : Int32} {x2 : Int32} {rf : Option Value} {hf : Hp} {x : Hp} (hs : fX9_renew h x0 x1 x2 = some x) (hk : (kX9_renew rf hf) x) : Go d mX9_renew 0 [some (.ref x0), some (.int x1), some (.int x2)] [] h rf hf := by
  unfold fX9_renew at hs
  refine go_aload_n (k4 := 0) rfl (Or.inr ⟨_, rfl⟩) dX9_renew_0 ?_
  obtain ⟨v1, ev1, hs⟩ := bindS hs
  refine go_gN fl_RX9_9 ev1 dX9_renew_1 ?_
  refine go_lconst (v := 0) (by decide) dX9_renew_4 ?_
  obtain ⟨y2, ey2, hs⟩ := bindS hs
  refine go_S0 (As := [.ref v1, .long (0 : Int64)]) (st := []) (oJ7_fill_d0a16 (d := d - 1) (by omega) ey2) (by omega) mb_J7_fill_d0a16 lm_RX9_26 ms_J7_fill_d0a16 (Nat.le_of_ble_eq_true rfl) rfl dX9_renew_5 ?_
  refine go_aload_n (k4 := 0) rfl (Or.inr ⟨_, rfl⟩) dX9_renew_8 ?_
  refine go_iload_n (k4 := 1) rfl dX9_renew_9 ?_
  obtain ⟨h3, eh3, hs⟩ := bindS hs
  refine go_sV fw_RX9_15 eh3 rfl rfl dX9_renew_10 ?_
  refine go_at 13 rfl ?_
  refine go_aload_n (k4 := 0) rfl (Or.inr ⟨_, rfl⟩) dX9_renew_13 ?_
  refine go_iload_n (k4 := 2) rfl dX9_renew_14 ?_
  refine go_bipush (v := 40) (by decide) dX9_renew_15 ?_
  refine go_mmin lx_RX9_32.1 lx_RX9_32.2.1 lx_RX9_32.2.2.1 lx_RX9_32.2.2.2 (by omega) (Nat.le_of_ble_eq_true rfl) dX9_renew_17 ?_
  obtain ⟨h4, eh4, hs⟩ := bindS hs
  refine go_sV fw_RX9_23 eh4 rfl rfl dX9_renew_20 ?_
  refine go_aload_n (k4 := 0) rfl (Or.inr ⟨_, rfl⟩) dX9_renew_23 ?_
  refine go_iconst (v := 0) (by decide) dX9_renew_24 ?_
  obtain ⟨h5, eh5, hs⟩ := bindS hs
  refine go_sV fw_RX9_19 eh5 rfl rfl dX9_renew_25 ?_
  refine go_at 28 rfl ?_
  obtain rfl := Option.some.inj hs
  obtain ⟨rfl, rfl⟩ := hk
  exact go_vret rfl dX9_renew_28
theorem oX9_renew {d : Nat} (hd : 1 ≤ d) {h : Hp} {x0 : Nat} {x1 : Int32} {x2 : Int32} {y : Hp} (hs : fX9_renew h x0 x1 x2 = some y) : Call d mX9_renew [.ref x0, .int x1, .int x2] h (none) y := call_of (by decide +kernel) (Nat.le_of_ble_eq_true rfl) (show Go d mX9_renew 0 [some (.ref x0), some (.int x1), some (.int x2)] [] h _ _ from go_subL (by simp [subL]) (oX9_renew_0 hd hs ⟨rfl, rfl⟩))
abbrev kX11_numbers (rf : Option Value) (hf : Hp) : (Int32 × Hp) → Prop := fun y => rf = some (.int y.1) ∧ hf = y.2
noncomputable def fX11_numbers_16 (h : Hp)  : Option (Int32 × Hp) :=
  some (((-2 : Int32), h))
theorem oX11_numbers_16 {d : Nat} (hd : 2 ≤ d) {h : Hp} {rf : Option Value} {hf : Hp} {x : (Int32 × Hp)} (hs : fX11_numbers_16 h  = some x) (hk : (kX11_numbers rf hf) x) : Go d mX11_numbers 16 [none, none, none, none] [] h rf hf := by
  unfold fX11_numbers_16 at hs
  refine go_bipush (v := -2) (by decide) dX11_numbers_16 ?_
  obtain rfl := Option.some.inj hs
  obtain ⟨rfl, rfl⟩ := hk
  exact go_iret rfl dX11_numbers_18
noncomputable def fX11_numbers_29 (h : Hp)  : Option (Int32 × Hp) :=
  some (((-3 : Int32), h))
theorem oX11_numbers_29 {d : Nat} (hd : 2 ≤ d) {h : Hp} {rf : Option Value} {hf : Hp} {x : (Int32 × Hp)} (hs : fX11_numbers_29 h  = some x) (hk : (kX11_numbers rf hf) x) : Go d mX11_numbers 29 [none, none, none, none] [] h rf hf := by
  unfold fX11_numbers_29 at hs
  refine go_bipush (v := -3) (by decide) dX11_numbers_29 ?_
  obtain rfl := Option.some.inj hs
  obtain ⟨rfl, rfl⟩ := hk
  exact go_iret rfl dX11_numbers_31
noncomputable def fX11_numbers (h : Hp) (x0 : Nat) (x1 : Int32) (x2 : Int32) (x3 : Int32) : Option (Int32 × Hp) :=
  (fX11_isTray h x1).bind fun y1 =>
  if y1 = 0 then (
  fX11_numbers_16 h ) else (
    if x2 < 0 then (
    fX11_numbers_16 h ) else (
      if x2 < (4 : Int32) then (
        if x3 < 0 then (
        fX11_numbers_29 h ) else (
          if x3 ≤ (40 : Int32) then (
            (gN h 11 x0 8).bind fun v2 =>
            (aN h v2 x1).bind fun v3 =>
            gO h 9 v3 (
            (fX9_renew h v3 x2 x3).bind fun y4 =>
            some (((0 : Int32), y4)))) else (
          fX11_numbers_29 h ))) else (
      fX11_numbers_16 h )))
theorem oX11_numbers_0 {d : Nat} (hd : 2 ≤ d) {h : Hp} {x0 : Nat} {x1 : Int32} {x2 : Int32} {x3 : Int32} {rf : Option Value} {hf : Hp} {x : (Int32 × Hp)} (hs : fX11_numbers h x0 x1 x2 x3 = some x) (hk : (kX11_numbers rf hf) x) : Go d mX11_numbers 0 [some (.ref x0), some (.int x1), some (.int x2), some (.int x3)] [] h rf hf := by
  unfold fX11_numbers at hs
  refine go_iload_n (k4 := 1) rfl dX11_numbers_0 ?_
  obtain ⟨y1, ey1, hs⟩ := bindS hs
  refine go_S1 (As := [.int x1]) (st := []) (oX11_isTray (d := d - 1) (by omega) ey1) (by omega) mb_X11_isTray lm_RX11_215 ms_X11_isTray (Nat.le_of_ble_eq_true rfl) rfl dX11_numbers_1 ?_
  refine go_if_eq (tgt := 16) (by decide) dX11_numbers_4 (fun c => ?_) (fun c => ?_)
  · have hs := if_t c hs
    exact go_subL (L' := [none, none, none, none]) (by simp [subL, va_rf]) (oX11_numbers_16 hd hs hk)
  · have hs := if_f c hs
    refine go_iload_n (k4 := 2) rfl dX11_numbers_7 ?_
    refine go_if_lt (tgt := 16) (by decide) dX11_numbers_8 (fun c => ?_) (fun c => ?_)
    · have hs := if_t c hs
      exact go_subL (L' := [none, none, none, none]) (by simp [subL, va_rf]) (oX11_numbers_16 hd hs hk)
    · have hs := if_f c hs
      refine go_iload_n (k4 := 2) rfl dX11_numbers_11 ?_
      refine go_iconst (v := 4) (by decide) dX11_numbers_12 ?_
      refine go_icmp_lt (tgt := 19) (by decide) dX11_numbers_13 (fun c => ?_) (fun c => ?_)
      · have hs := if_t c hs
        refine go_iload_n (k4 := 3) rfl dX11_numbers_19 ?_
        refine go_if_lt (tgt := 29) (by decide) dX11_numbers_20 (fun c => ?_) (fun c => ?_)
        · have hs := if_t c hs
          exact go_subL (L' := [none, none, none, none]) (by simp [subL, va_rf]) (oX11_numbers_29 hd hs hk)
        · have hs := if_f c hs
          refine go_iload_n (k4 := 3) rfl dX11_numbers_23 ?_
          refine go_bipush (v := 40) (by decide) dX11_numbers_24 ?_
          refine go_icmp_le (tgt := 32) (by decide) dX11_numbers_26 (fun c => ?_) (fun c => ?_)
          · have hs := if_t c hs
            refine go_aload_n (k4 := 0) rfl (Or.inr ⟨_, rfl⟩) dX11_numbers_32 ?_
            obtain ⟨v2, ev2, hs⟩ := bindS hs
            refine go_gN fl_RX11_55 ev2 dX11_numbers_33 ?_
            refine go_iload_n (k4 := 1) rfl dX11_numbers_36 ?_
            obtain ⟨v3, ev3, hs⟩ := bindS hs
            refine go_aN ev3 dX11_numbers_37 ?_
            refine go_iload_n (k4 := 2) rfl dX11_numbers_38 ?_
            refine go_iload_n (k4 := 3) rfl dX11_numbers_39 ?_
            obtain ⟨g5, hs⟩ := gO_at hs
            obtain ⟨y4, ey4, hs⟩ := bindS hs
            refine go_V0 (As := [.int x2, .int x3]) (st := []) g5 rfl rfl (oX9_renew (d := d - 1) (by omega) ey4) (by omega) mb_X9_renew lm_RX11_406 mi_X9_renew (Nat.le_of_ble_eq_true rfl) rfl dX11_numbers_40 ?_
            refine go_at 43 rfl ?_
            refine go_iconst (v := 0) (by decide) dX11_numbers_43 ?_
            obtain rfl := Option.some.inj hs
            obtain ⟨rfl, rfl⟩ := hk
            exact go_iret rfl dX11_numbers_44
          · have hs := if_f c hs
            exact go_subL (L' := [none, none, none, none]) (by simp [subL, va_rf]) (oX11_numbers_29 hd hs hk)
      · have hs := if_f c hs
        exact go_subL (L' := [none, none, none, none]) (by simp [subL, va_rf]) (oX11_numbers_16 hd hs hk)
theorem oX11_numbers {d : Nat} (hd : 2 ≤ d) {h : Hp} {x0 : Nat} {x1 : Int32} {x2 : Int32} {x3 : Int32} {y : (Int32 × Hp)} (hs : fX11_numbers h x0 x1 x2 x3 = some y) : Call d mX11_numbers [.ref x0, .int x1, .int x2, .int x3] h (some (.int y.1)) (y.2) := call_of (by decide +kernel) (Nat.le_of_ble_eq_true rfl) (show Go d mX11_numbers 0 [some (.ref x0), some (.int x1), some (.int x2), some (.int x3)] [] h _ _ from go_subL (by simp [subL]) (oX11_numbers_0 hd hs ⟨rfl, rfl⟩))
abbrev kX9_cut (h : Hp) (rf : Option Value) (hf : Hp) : Int64 → Prop := fun y => rf = some (.long y) ∧ hf = h
noncomputable def fX9_cut (h : Hp) (x0 : Nat) (x1 : Int64) : Option Int64 :=
  (gI h 9 x0 1).bind fun v1 =>
  if v1 = 0 then (
    some ((x1.toInt32).toInt8.toInt32.toInt64)) else (
if v1 = 1 then (
    some ((x1.toInt32).toInt16.toInt32.toInt64)) else (
if v1 = 2 then (
    some ((x1.toInt32).toInt64)) else (
    some (x1))))
theorem oX9_cut_0 {d : Nat} (hd : 0 ≤ d) {h : Hp} {x0 : Nat} {x1 : Int64} {rf : Option Value} {hf : Hp} {x : Int64} (hs : fX9_cut h x0 x1 = some x) (hk : (kX9_cut h rf hf) x) : Go d mX9_cut 0 [some (.ref x0), some (.long x1), none] [] h rf hf := by
  unfold fX9_cut at hs
  refine go_aload_n (k4 := 0) rfl (Or.inr ⟨_, rfl⟩) dX9_cut_0 ?_
  obtain ⟨v1, ev1, hs⟩ := bindS hs
  refine go_gI fl_RX9_15 ev1 dX9_cut_1 ?_
  by_cases c0 : v1 = 0
  · have hs := if_t c0 hs
    refine go_tableIn (off := 28) (tgt := 32) (by rw [c0]; decide) (by rw [c0]; decide) (by rw [c0]; rfl) (by decide) dX9_cut_4 ?_
    refine go_lload_n (k4 := 1) rfl dX9_cut_32 ?_
    refine go_l2i dX9_cut_33 ?_
    refine go_i2b dX9_cut_34 ?_
    refine go_i2l dX9_cut_35 ?_
    obtain rfl := Option.some.inj hs
    obtain ⟨rfl, rfl⟩ := hk
    exact go_lret rfl dX9_cut_36
  · have hs := if_f c0 hs
    by_cases c1 : v1 = 1
    · have hs := if_t c1 hs
      refine go_tableIn (off := 33) (tgt := 37) (by rw [c1]; decide) (by rw [c1]; decide) (by rw [c1]; rfl) (by decide) dX9_cut_4 ?_
      refine go_lload_n (k4 := 1) rfl dX9_cut_37 ?_
      refine go_l2i dX9_cut_38 ?_
      refine go_i2s dX9_cut_39 ?_
      refine go_i2l dX9_cut_40 ?_
      obtain rfl := Option.some.inj hs
      obtain ⟨rfl, rfl⟩ := hk
      exact go_lret rfl dX9_cut_41
    · have hs := if_f c1 hs
      by_cases c2 : v1 = 2
      · have hs := if_t c2 hs
        refine go_tableIn (off := 38) (tgt := 42) (by rw [c2]; decide) (by rw [c2]; decide) (by rw [c2]; rfl) (by decide) dX9_cut_4 ?_
        refine go_lload_n (k4 := 1) rfl dX9_cut_42 ?_
        refine go_l2i dX9_cut_43 ?_
        refine go_i2l dX9_cut_44 ?_
        obtain rfl := Option.some.inj hs
        obtain ⟨rfl, rfl⟩ := hk
        exact go_lret rfl dX9_cut_45
      · have hs := if_f c2 hs
        refine go_tableOut (tgt := 46) (tab_out (0) (2) 2 (by decide) (by decide) (by decide) (fun i hi => by
          match i, hi with
          | 0, _ => rw [show Int32.ofInt ((0 : Int) + ((0 : Nat) : Int)) = (0 : Int32) by decide]; exact c0
          | 1, _ => rw [show Int32.ofInt ((0 : Int) + ((1 : Nat) : Int)) = (1 : Int32) by decide]; exact c1
          | 2, _ => rw [show Int32.ofInt ((0 : Int) + ((2 : Nat) : Int)) = (2 : Int32) by decide]; exact c2
          | k + 3, hi => omega)) (by decide) dX9_cut_4 ?_
        refine go_lload_n (k4 := 1) rfl dX9_cut_46 ?_
        obtain rfl := Option.some.inj hs
        obtain ⟨rfl, rfl⟩ := hk
        exact go_lret rfl dX9_cut_47
theorem oX9_cut {d : Nat} (hd : 0 ≤ d) {h : Hp} {x0 : Nat} {x1 : Int64} {y : Int64} (hs : fX9_cut h x0 x1 = some y) : Call d mX9_cut [.ref x0, .long x1] h (some (.long y)) h := call_of (by decide +kernel) (Nat.le_of_ble_eq_true rfl) (show Go d mX9_cut 0 [some (.ref x0), some (.long x1), none] [] h _ _ from go_subL (by simp [subL]) (oX9_cut_0 hd hs ⟨rfl, rfl⟩))
