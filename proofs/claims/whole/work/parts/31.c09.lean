/-! methods: their texts as functions, and that the machine does just that -/
abbrev kX7_longestHold (rf : Option Value) (hf : Hp) : (Int32 × Hp) → Prop := fun y => rf = some (.int y.1) ∧ hf = y.2
abbrev pX7_longestHold_4 (d : Nat) (h : Hp) (x0 : Nat) (x1 : Int32) (rf : Option Value) (hf : Hp) : (Int32 × Int32) → Prop := fun s => Go d mX7_longestHold 4 [some (.ref x0), some (.int x1), some (.int s.1), some (.int s.2), none, none, none] [] h rf hf
noncomputable def fX7_longestHold_54 (h : Hp)  : Option (Int32 × Hp) :=
  some (((-1 : Int32), h))
theorem oX7_longestHold_54 {d : Nat} (hd : 4 ≤ d) {h : Hp} {rf : Option Value} {hf : Hp} {x : (Int32 × Hp)} (hs : fX7_longestHold_54 h  = some x) (hk : (kX7_longestHold rf hf) x) : Go d mX7_longestHold 54 [none, none, none, none, none, none, none] [] h rf hf := by
  unfold fX7_longestHold_54 at hs
  refine go_iconst (v := -1) (by decide) dX7_longestHold_54 ?_
  obtain rfl := Option.some.inj hs
  obtain ⟨rfl, rfl⟩ := hk
  exact go_iret rfl dX7_longestHold_55
abbrev pX7_longestHold_71 (d : Nat) (x0 : Nat) (x2 : Int32) (rf : Option Value) (hf : Hp) : (Int32 × Int32 × Hp) → Prop := fun s => Go d mX7_longestHold 71 [some (.ref x0), none, some (.int x2), some (.int s.1), some (.int s.2.1), none, none] [] s.2.2 rf hf
noncomputable def fX7_longestHold_173 (h : Hp) (s0 : Int32) : Option (Int32 × Hp) :=
  some ((s0, h))
theorem oX7_longestHold_173 {d : Nat} (hd : 4 ≤ d) {h : Hp} {s0 : Int32} {rf : Option Value} {hf : Hp} {x : (Int32 × Hp)} (hs : fX7_longestHold_173 h s0 = some x) (hk : (kX7_longestHold rf hf) x) : Go d mX7_longestHold 173 [none, none, none, none, none, none, none] [.int s0] h rf hf := by
  unfold fX7_longestHold_173 at hs
  obtain rfl := Option.some.inj hs
  obtain ⟨rfl, rfl⟩ := hk
  exact go_iret rfl dX7_longestHold_173
noncomputable def fX7_longestHold_160 (h : Hp) (x0 : Nat) (x2 : Int32) (x3 : Int32) : Option (Int32 × Hp) :=
  (gI h 7 x0 12).bind fun v10 =>
  if x2 ≤ v10 then (
    fX7_longestHold_173 h x3) else (
    fX7_longestHold_173 h (-1 : Int32))
theorem oX7_longestHold_160 {d : Nat} (hd : 4 ≤ d) {h : Hp} {x0 : Nat} {x2 : Int32} {x3 : Int32} {rf : Option Value} {hf : Hp} {x : (Int32 × Hp)} (hs : fX7_longestHold_160 h x0 x2 x3 = some x) (hk : (kX7_longestHold rf hf) x) : Go d mX7_longestHold 160 [some (.ref x0), none, some (.int x2), some (.int x3), none, none, none] [] h rf hf := by
  unfold fX7_longestHold_160 at hs
  refine go_aload_n (k4 := 0) rfl (Or.inr ⟨_, rfl⟩) dX7_longestHold_160 ?_
  obtain ⟨v10, ev10, hs⟩ := bindS hs
  refine go_gI fl_RX7_44 ev10 dX7_longestHold_161 ?_
  refine go_iload_n (k4 := 2) rfl dX7_longestHold_164 ?_
  refine go_icmp_ge (tgt := 172) (by decide) dX7_longestHold_165 (fun c => ?_) (fun c => ?_)
  · have hs := if_t c hs
    refine go_iload_n (k4 := 3) rfl dX7_longestHold_172 ?_
    exact go_subL (L' := [none, none, none, none, none, none, none]) (by simp [subL, va_rf]) (oX7_longestHold_173 hd hs hk)
  · have hs := if_f c hs
    refine go_iconst (v := -1) (by decide) dX7_longestHold_168 ?_
    refine go_goto (tgt := 173) (by decide) dX7_longestHold_169 ?_
    exact go_subL (L' := [none, none, none, none, none, none, none]) (by simp [subL, va_rf]) (oX7_longestHold_173 hd hs hk)
abbrev pX7_longestHold_121 (d : Nat) (x0 : Nat) (x2 : Int32) (x3 : Int32) (x4 : Int32) (rf : Option Value) (hf : Hp) : (Int32 × Hp) → Prop := fun s => Go d mX7_longestHold 121 [some (.ref x0), none, some (.int x2), some (.int x3), some (.int x4), none, some (.int s.1)] [] s.2 rf hf
noncomputable def fX7_longestHold_154 (h : Hp) (x0 : Nat) (x2 : Int32) (x3 : Int32) (x4 : Int32) : Option ((Int32 × Int32 × Hp) ⊕ (Int32 × Hp)) :=
  some (.inl (x3, (x4 + Int32.ofInt 1), h))
theorem oX7_longestHold_154 {d : Nat} (hd : 4 ≤ d) {h : Hp} {x0 : Nat} {x2 : Int32} {x3 : Int32} {x4 : Int32} {rf : Option Value} {hf : Hp} {x : ((Int32 × Int32 × Hp) ⊕ (Int32 × Hp))} (hs : fX7_longestHold_154 h x0 x2 x3 x4 = some x) (hk : (Kx (pX7_longestHold_71 d x0 x2 rf hf) (kX7_longestHold rf hf)) x) : Go d mX7_longestHold 154 [some (.ref x0), none, some (.int x2), some (.int x3), some (.int x4), none, none] [] h rf hf := by
  unfold fX7_longestHold_154 at hs
  refine go_iinc (L' := [some (.ref x0), none, some (.int x2), some (.int x3), some (.int (x4 + Int32.ofInt 1)), none, none]) rfl (by decide) rfl rfl dX7_longestHold_154 ?_
  refine go_goto (tgt := 71) (by decide) dX7_longestHold_157 ?_
  obtain rfl := Option.some.inj hs
  exact go_subL (L' := [some (.ref x0), none, some (.int x2), some (.int x3), some (.int (x4 + Int32.ofInt 1)), none, none]) (by simp [subL, va_rf]) hk
noncomputable def fX7_longestHold_121b (h : Hp) (x0 : Nat) (x2 : Int32) (x3 : Int32) (x4 : Int32) (x6 : Int32) : Option ((Int32 × Hp) ⊕ ((Int32 × Int32 × Hp) ⊕ (Int32 × Hp))) :=
  (gN h 7 x0 1).bind fun v19 =>
  (gN h 0 v19 9).bind fun v20 =>
  (aL h v20).bind fun v21 =>
  if v21 ≤ x6 then (
  (fX7_longestHold_154 h x0 x2 x3 x4).map (fun q => .inr q)) else (
    (gN h 7 x0 9).bind fun v22 =>
    (aI 0 h v22 x6).bind fun v23 =>
    gO h 7 x0 (
    (fX7_leaveFor h x0 v23 (x3 + (1 : Int32))).bind fun y24 =>
    some (.inl ((x6 + Int32.ofInt 1), y24))))
noncomputable def fX7_longestHold_121 (h : Hp) (x0 : Nat) (x2 : Int32) (x3 : Int32) (x4 : Int32) (x6 : Int32) : Option ((Int32 × Int32 × Hp) ⊕ (Int32 × Hp)) := lpw (σ := (Int32 × Hp)) (fun s => fX7_longestHold_121b s.2 x0 x2 x3 x4 s.1) (x6, h)
theorem oX7_longestHold_121b {d : Nat} (hd : 4 ≤ d) {h : Hp} {x0 : Nat} {x2 : Int32} {x3 : Int32} {x4 : Int32} {x6 : Int32} {rf : Option Value} {hf : Hp} {x : ((Int32 × Hp) ⊕ ((Int32 × Int32 × Hp) ⊕ (Int32 × Hp)))} (hs : fX7_longestHold_121b h x0 x2 x3 x4 x6 = some x) (hk : (Kx (pX7_longestHold_121 d x0 x2 x3 x4 rf hf) (Kx (pX7_longestHold_71 d x0 x2 rf hf) (kX7_longestHold rf hf))) x) : Go d mX7_longestHold 121 [some (.ref x0), none, some (.int x2), some (.int x3), some (.int x4), none, some (.int x6)] [] h rf hf := by
  unfold fX7_longestHold_121b at hs
  refine go_iload rfl dX7_longestHold_121 ?_
  refine go_aload_n (k4 := 0) rfl (Or.inr ⟨_, rfl⟩) dX7_longestHold_123 ?_
  obtain ⟨v19, ev19, hs⟩ := bindS hs
  refine go_gN fl_RX7_64 ev19 dX7_longestHold_124 ?_
  obtain ⟨v20, ev20, hs⟩ := bindS hs
  refine go_gN fl_RX7_103 ev20 dX7_longestHold_127 ?_
  obtain ⟨v21, ev21, hs⟩ := bindS hs
  refine go_aL ev21 dX7_longestHold_130 ?_
  refine go_icmp_ge (tgt := 154) (by decide) dX7_longestHold_131 (fun c => ?_) (fun c => ?_)
  · have hs := if_t c hs
    obtain ⟨q, hs2, hq⟩ := mapS hs
    clear hs
    subst hq
    exact go_subL (L' := [some (.ref x0), none, some (.int x2), some (.int x3), some (.int x4), none, none]) (by simp [subL, va_rf]) (oX7_longestHold_154 hd hs2 hk)
  · have hs := if_f c hs
    refine go_aload_n (k4 := 0) rfl (Or.inr ⟨_, rfl⟩) dX7_longestHold_134 ?_
    refine go_aload_n (k4 := 0) rfl (Or.inr ⟨_, rfl⟩) dX7_longestHold_135 ?_
    obtain ⟨v22, ev22, hs⟩ := bindS hs
    refine go_gN fl_RX7_35 ev22 dX7_longestHold_136 ?_
    refine go_iload rfl dX7_longestHold_139 ?_
    obtain ⟨v23, ev23, hs⟩ := bindS hs
    refine go_aIi ev23 dX7_longestHold_141 ?_
    refine go_iload_n (k4 := 3) rfl dX7_longestHold_142 ?_
    refine go_iconst (v := 1) (by decide) dX7_longestHold_143 ?_
    refine go_at 144 rfl ?_
    refine go_iadd dX7_longestHold_144 ?_
    obtain ⟨g25, hs⟩ := gO_at hs
    obtain ⟨y24, ey24, hs⟩ := bindS hs
    refine go_V0 (As := [.int v23, .int (x3 + (1 : Int32))]) (st := []) g25 rfl rfl (oX7_leaveFor (d := d - 1) (by omega) ey24) (by omega) mb_X7_leaveFor lm_RX7_126 mi_X7_leaveFor (Nat.le_of_ble_eq_true rfl) rfl dX7_longestHold_145 ?_
    refine go_iinc (L' := [some (.ref x0), none, some (.int x2), some (.int x3), some (.int x4), none, some (.int (x6 + Int32.ofInt 1))]) rfl (by decide) rfl rfl dX7_longestHold_148 ?_
    refine go_goto (tgt := 121) (by decide) dX7_longestHold_151 ?_
    obtain rfl := Option.some.inj hs
    exact go_subL (L' := [some (.ref x0), none, some (.int x2), some (.int x3), some (.int x4), none, some (.int (x6 + Int32.ofInt 1))]) (by simp [subL, va_rf]) hk
theorem oX7_longestHold_121 {d : Nat} (hd : 4 ≤ d) {h : Hp} {x0 : Nat} {x2 : Int32} {x3 : Int32} {x4 : Int32} {x6 : Int32} {rf : Option Value} {hf : Hp} {x : ((Int32 × Int32 × Hp) ⊕ (Int32 × Hp))} (hs : fX7_longestHold_121 h x0 x2 x3 x4 x6 = some x) (hk : (Kx (pX7_longestHold_71 d x0 x2 rf hf) (kX7_longestHold rf hf)) x) : Go d mX7_longestHold 121 [some (.ref x0), none, some (.int x2), some (.int x3), some (.int x4), none, some (.int x6)] [] h rf hf := by
  unfold fX7_longestHold_121 at hs
  exact lpw_go (P := pX7_longestHold_121 d x0 x2 x3 x4 rf hf) (fun s x hs hk => oX7_longestHold_121b hd hs hk) (x6, h) x hs hk
noncomputable def fX7_longestHold_71b (h : Hp) (x0 : Nat) (x2 : Int32) (x3 : Int32) (x4 : Int32) : Option ((Int32 × Int32 × Hp) ⊕ (Int32 × Hp)) :=
  (gI h 7 x0 12).bind fun v9 =>
  if v9 ≤ x4 then (
  (fX7_longestHold_160 h x0 x2 x3).map (fun q => .inr q)) else (
    if (20000 : Int32) ≤ x4 then (
    (fX7_longestHold_160 h x0 x2 x3).map (fun q => .inr q)) else (
      (gN h 7 x0 5).bind fun v11 =>
      (aI 0 h v11 x4).bind fun v12 =>
      gO h 7 x0 (
      (fX7_linkOf h x0 v12).bind fun y13 =>
      (gN h 7 x0 0).bind fun v15 =>
      (gN h 7 x0 9).bind fun v16 =>
      gO h 1 v15 (
      (fX1_spread h v15 v12 (0 : Int32) v16).bind fun y17 =>
      fX7_longestHold_121 y17 x0 x2 y13 x4 (0 : Int32)))))
noncomputable def fX7_longestHold_71 (h : Hp) (x0 : Nat) (x2 : Int32) (x3 : Int32) (x4 : Int32) : Option (Int32 × Hp) := lpw (σ := (Int32 × Int32 × Hp)) (fun s => fX7_longestHold_71b s.2.2 x0 x2 s.1 s.2.1) (x3, x4, h)
theorem oX7_longestHold_71b {d : Nat} (hd : 4 ≤ d) {h : Hp} {x0 : Nat} {x2 : Int32} {x3 : Int32} {x4 : Int32} {rf : Option Value} {hf : Hp} {x : ((Int32 × Int32 × Hp) ⊕ (Int32 × Hp))} (hs : fX7_longestHold_71b h x0 x2 x3 x4 = some x) (hk : (Kx (pX7_longestHold_71 d x0 x2 rf hf) (kX7_longestHold rf hf)) x) : Go d mX7_longestHold 71 [some (.ref x0), none, some (.int x2), some (.int x3), some (.int x4), none, none] [] h rf hf := by
  unfold fX7_longestHold_71b at hs
  refine go_iload rfl dX7_longestHold_71 ?_
  refine go_aload_n (k4 := 0) rfl (Or.inr ⟨_, rfl⟩) dX7_longestHold_73 ?_
  obtain ⟨v9, ev9, hs⟩ := bindS hs
  refine go_gI fl_RX7_44 ev9 dX7_longestHold_74 ?_
  refine go_icmp_ge (tgt := 160) (by decide) dX7_longestHold_77 (fun c => ?_) (fun c => ?_)
  · have hs := if_t c hs
    obtain ⟨q, hs2, hq⟩ := mapS hs
    clear hs
    subst hq
    exact go_subL (L' := [some (.ref x0), none, some (.int x2), some (.int x3), none, none, none]) (by simp [subL, va_rf]) (oX7_longestHold_160 hd hs2 hk)
  · have hs := if_f c hs
    refine go_iload rfl dX7_longestHold_80 ?_
    refine go_sipush (v := 20000) (by decide) dX7_longestHold_82 ?_
    refine go_icmp_ge (tgt := 160) (by decide) dX7_longestHold_85 (fun c => ?_) (fun c => ?_)
    · have hs := if_t c hs
      obtain ⟨q, hs2, hq⟩ := mapS hs
      clear hs
      subst hq
      exact go_subL (L' := [some (.ref x0), none, some (.int x2), some (.int x3), none, none, none]) (by simp [subL, va_rf]) (oX7_longestHold_160 hd hs2 hk)
    · have hs := if_f c hs
      refine go_aload_n (k4 := 0) rfl (Or.inr ⟨_, rfl⟩) dX7_longestHold_88 ?_
      obtain ⟨v11, ev11, hs⟩ := bindS hs
      refine go_gN fl_RX7_22 ev11 dX7_longestHold_89 ?_
      refine go_iload rfl dX7_longestHold_92 ?_
      obtain ⟨v12, ev12, hs⟩ := bindS hs
      refine go_aIi ev12 dX7_longestHold_94 ?_
      refine go_istore (L' := [some (.ref x0), none, some (.int x2), some (.int x3), some (.int x4), some (.int v12), none]) (by decide) rfl dX7_longestHold_95 ?_
      refine go_aload_n (k4 := 0) rfl (Or.inr ⟨_, rfl⟩) dX7_longestHold_97 ?_
      refine go_iload rfl dX7_longestHold_98 ?_
      refine go_at 100 rfl ?_
      obtain ⟨g14, hs⟩ := gO_at hs
      obtain ⟨y13, ey13, hs⟩ := bindS hs
      refine go_V1 (As := [.int v12]) (st := []) g14 rfl rfl (oX7_linkOf (d := d - 1) (by omega) ey13) (by omega) mb_X7_linkOf lm_RX7_109 mi_X7_linkOf (Nat.le_of_ble_eq_true rfl) rfl dX7_longestHold_100 ?_
      refine go_istore_n (k4 := 3) (L' := [some (.ref x0), none, some (.int x2), some (.int y13), some (.int x4), some (.int v12), none]) (by decide) rfl dX7_longestHold_103 ?_
      refine go_aload_n (k4 := 0) rfl (Or.inr ⟨_, rfl⟩) dX7_longestHold_104 ?_
      obtain ⟨v15, ev15, hs⟩ := bindS hs
      refine go_gN fl_RX7_60 ev15 dX7_longestHold_105 ?_
      refine go_iload rfl dX7_longestHold_108 ?_
      refine go_iconst (v := 0) (by decide) dX7_longestHold_110 ?_
      refine go_aload_n (k4 := 0) rfl (Or.inr ⟨_, rfl⟩) dX7_longestHold_111 ?_
      obtain ⟨v16, ev16, hs⟩ := bindS hs
      refine go_gN fl_RX7_35 ev16 dX7_longestHold_112 ?_
      refine go_at 115 rfl ?_
      obtain ⟨g18, hs⟩ := gO_at hs
      obtain ⟨y17, ey17, hs⟩ := bindS hs
      refine go_V0 (As := [.int v12, .int (0 : Int32), .ref v16]) (st := []) g18 rfl rfl (oX1_spread (d := d - 1) (by omega) ey17) (by omega) mb_X1_spread lm_RX7_99 mi_X1_spread (Nat.le_of_ble_eq_true rfl) rfl dX7_longestHold_115 ?_
      refine go_iconst (v := 0) (by decide) dX7_longestHold_118 ?_
      refine go_istore (L' := [some (.ref x0), none, some (.int x2), some (.int y13), some (.int x4), some (.int v12), some (.int (0 : Int32))]) (by decide) rfl dX7_longestHold_119 ?_
      exact go_subL (L' := [some (.ref x0), none, some (.int x2), some (.int y13), some (.int x4), none, some (.int (0 : Int32))]) (by simp [subL, va_rf]) (oX7_longestHold_121 hd hs hk)
theorem oX7_longestHold_71 {d : Nat} (hd : 4 ≤ d) {h : Hp} {x0 : Nat} {x2 : Int32} {x3 : Int32} {x4 : Int32} {rf : Option Value} {hf : Hp} {x : (Int32 × Hp)} (hs : fX7_longestHold_71 h x0 x2 x3 x4 = some x) (hk : (kX7_longestHold rf hf) x) : Go d mX7_longestHold 71 [some (.ref x0), none, some (.int x2), some (.int x3), some (.int x4), none, none] [] h rf hf := by
  unfold fX7_longestHold_71 at hs
  exact lpw_go (P := pX7_longestHold_71 d x0 x2 rf hf) (fun s x hs hk => oX7_longestHold_71b hd hs hk) (x3, x4, h) x hs hk
noncomputable def fX7_longestHold_38 (h : Hp) (x0 : Nat) (x1 : Int32) (x2 : Int32) : Option (Int32 × Hp) :=
  (fX7_isState h x1).bind fun y2 =>
  if y2 = 0 then (
  fX7_longestHold_54 h ) else (
    (gN h 7 x0 7).bind fun v3 =>
    (aI 0 h v3 x1).bind fun v4 =>
    if v4 ≤ 0 then (
      gO h 7 x0 (
      (fX7_begin h x0).bind fun y5 =>
      gO y5 7 x0 (
      (fX7_reach y5 x0 x1 (0 : Int32)).bind fun y7 =>
      fX7_longestHold_71 y7 x0 x2 (0 : Int32) (0 : Int32)))) else (
    fX7_longestHold_54 h ))
theorem oX7_longestHold_38 {d : Nat} (hd : 4 ≤ d) {h : Hp} {x0 : Nat} {x1 : Int32} {x2 : Int32} {rf : Option Value} {hf : Hp} {x : (Int32 × Hp)} (hs : fX7_longestHold_38 h x0 x1 x2 = some x) (hk : (kX7_longestHold rf hf) x) : Go d mX7_longestHold 38 [some (.ref x0), some (.int x1), some (.int x2), none, none, none, none] [] h rf hf := by
  unfold fX7_longestHold_38 at hs
  refine go_iload_n (k4 := 1) rfl dX7_longestHold_38 ?_
  obtain ⟨y2, ey2, hs⟩ := bindS hs
  refine go_S1 (As := [.int x1]) (st := []) (oX7_isState (d := d - 1) (by omega) ey2) (by omega) mb_X7_isState lm_RX7_74 ms_X7_isState (Nat.le_of_ble_eq_true rfl) rfl dX7_longestHold_39 ?_
  refine go_if_eq (tgt := 54) (by decide) dX7_longestHold_42 (fun c => ?_) (fun c => ?_)
  · have hs := if_t c hs
    exact go_subL (L' := [none, none, none, none, none, none, none]) (by simp [subL, va_rf]) (oX7_longestHold_54 hd hs hk)
  · have hs := if_f c hs
    refine go_aload_n (k4 := 0) rfl (Or.inr ⟨_, rfl⟩) dX7_longestHold_45 ?_
    obtain ⟨v3, ev3, hs⟩ := bindS hs
    refine go_gN fl_RX7_28 ev3 dX7_longestHold_46 ?_
    refine go_iload_n (k4 := 1) rfl dX7_longestHold_49 ?_
    obtain ⟨v4, ev4, hs⟩ := bindS hs
    refine go_aIi ev4 dX7_longestHold_50 ?_
    refine go_if_le (tgt := 56) (by decide) dX7_longestHold_51 (fun c => ?_) (fun c => ?_)
    · have hs := if_t c hs
      refine go_aload_n (k4 := 0) rfl (Or.inr ⟨_, rfl⟩) dX7_longestHold_56 ?_
      obtain ⟨g6, hs⟩ := gO_at hs
      obtain ⟨y5, ey5, hs⟩ := bindS hs
      refine go_V0 (As := []) (st := []) g6 rfl rfl (oX7_begin (d := d - 1) (by omega) ey5) (by omega) mb_X7_begin lm_RX7_88 mi_X7_begin (Nat.le_of_ble_eq_true rfl) rfl dX7_longestHold_57 ?_
      refine go_aload_n (k4 := 0) rfl (Or.inr ⟨_, rfl⟩) dX7_longestHold_60 ?_
      refine go_iload_n (k4 := 1) rfl dX7_longestHold_61 ?_
      refine go_iconst (v := 0) (by decide) dX7_longestHold_62 ?_
      obtain ⟨g8, hs⟩ := gO_at hs
      obtain ⟨y7, ey7, hs⟩ := bindS hs
      refine go_V0 (As := [.int x1, .int (0 : Int32)]) (st := []) g8 rfl rfl (oX7_reach (d := d - 1) (by omega) ey7) (by omega) mb_X7_reach lm_RX7_91 mi_X7_reach (Nat.le_of_ble_eq_true rfl) rfl dX7_longestHold_63 ?_
      refine go_iconst (v := 0) (by decide) dX7_longestHold_66 ?_
      refine go_at 67 rfl ?_
      refine go_istore_n (k4 := 3) (L' := [some (.ref x0), some (.int x1), some (.int x2), some (.int (0 : Int32)), none, none, none]) (by decide) rfl dX7_longestHold_67 ?_
      refine go_iconst (v := 0) (by decide) dX7_longestHold_68 ?_
      refine go_istore (L' := [some (.ref x0), some (.int x1), some (.int x2), some (.int (0 : Int32)), some (.int (0 : Int32)), none, none]) (by decide) rfl dX7_longestHold_69 ?_
      exact go_subL (L' := [some (.ref x0), none, some (.int x2), some (.int (0 : Int32)), some (.int (0 : Int32)), none, none]) (by simp [subL, va_rf]) (oX7_longestHold_71 hd hs hk)
    · have hs := if_f c hs
      exact go_subL (L' := [none, none, none, none, none, none, none]) (by simp [subL, va_rf]) (oX7_longestHold_54 hd hs hk)
noncomputable def fX7_longestHold_30 (h : Hp) (x0 : Nat) (x1 : Int32) (x3 : Int32) (s0 : Int32) (s1 : Int32) : Option ((Int32 × Int32) ⊕ (Int32 × Hp)) :=
  some (.inl ((s0 + s1), (x3 + Int32.ofInt 1)))
theorem oX7_longestHold_30 {d : Nat} (hd : 4 ≤ d) {h : Hp} {x0 : Nat} {x1 : Int32} {x3 : Int32} {s0 : Int32} {s1 : Int32} {rf : Option Value} {hf : Hp} {x : ((Int32 × Int32) ⊕ (Int32 × Hp))} (hs : fX7_longestHold_30 h x0 x1 x3 s0 s1 = some x) (hk : (Kx (pX7_longestHold_4 d h x0 x1 rf hf) (kX7_longestHold rf hf)) x) : Go d mX7_longestHold 30 [some (.ref x0), some (.int x1), none, some (.int x3), none, none, none] [.int s1, .int s0] h rf hf := by
  unfold fX7_longestHold_30 at hs
  refine go_iadd dX7_longestHold_30 ?_
  refine go_istore_n (k4 := 2) (L' := [some (.ref x0), some (.int x1), some (.int (s0 + s1)), some (.int x3), none, none, none]) (by decide) rfl dX7_longestHold_31 ?_
  refine go_iinc (L' := [some (.ref x0), some (.int x1), some (.int (s0 + s1)), some (.int (x3 + Int32.ofInt 1)), none, none, none]) rfl (by decide) rfl rfl dX7_longestHold_32 ?_
  refine go_goto (tgt := 4) (by decide) dX7_longestHold_35 ?_
  obtain rfl := Option.some.inj hs
  exact go_subL (L' := [some (.ref x0), some (.int x1), some (.int (s0 + s1)), some (.int (x3 + Int32.ofInt 1)), none, none, none]) (by simp [subL, va_rf]) hk
noncomputable def fX7_longestHold_4b (h : Hp) (x0 : Nat) (x1 : Int32) (x2 : Int32) (x3 : Int32) : Option ((Int32 × Int32) ⊕ (Int32 × Hp)) :=
  (gI h 7 x0 12).bind fun v1 =>
  if v1 ≤ x3 then (
  (fX7_longestHold_38 h x0 x1 x2).map (fun q => .inr q)) else (
    (gN h 7 x0 5).bind fun v26 =>
    (aI 0 h v26 x3).bind fun v27 =>
    if (10000 : Int32) ≤ v27 then (
      fX7_longestHold_30 h x0 x1 x3 x2 (0 : Int32)) else (
      fX7_longestHold_30 h x0 x1 x3 x2 (1 : Int32)))
noncomputable def fX7_longestHold_4 (h : Hp) (x0 : Nat) (x1 : Int32) (x2 : Int32) (x3 : Int32) : Option (Int32 × Hp) := lpw (σ := (Int32 × Int32)) (fun s => fX7_longestHold_4b h x0 x1 s.1 s.2) (x2, x3)
theorem oX7_longestHold_4b {d : Nat} (hd : 4 ≤ d) {h : Hp} {x0 : Nat} {x1 : Int32} {x2 : Int32} {x3 : Int32} {rf : Option Value} {hf : Hp} {x : ((Int32 × Int32) ⊕ (Int32 × Hp))} (hs : fX7_longestHold_4b h x0 x1 x2 x3 = some x) (hk : (Kx (pX7_longestHold_4 d h x0 x1 rf hf) (kX7_longestHold rf hf)) x) : Go d mX7_longestHold 4 [some (.ref x0), some (.int x1), some (.int x2), some (.int x3), none, none, none] [] h rf hf := by
  unfold fX7_longestHold_4b at hs
  refine go_iload_n (k4 := 3) rfl dX7_longestHold_4 ?_
  refine go_aload_n (k4 := 0) rfl (Or.inr ⟨_, rfl⟩) dX7_longestHold_5 ?_
  obtain ⟨v1, ev1, hs⟩ := bindS hs
  refine go_gI fl_RX7_44 ev1 dX7_longestHold_6 ?_
  refine go_icmp_ge (tgt := 38) (by decide) dX7_longestHold_9 (fun c => ?_) (fun c => ?_)
  · have hs := if_t c hs
    obtain ⟨q, hs2, hq⟩ := mapS hs
    clear hs
    subst hq
    exact go_subL (L' := [some (.ref x0), some (.int x1), some (.int x2), none, none, none, none]) (by simp [subL, va_rf]) (oX7_longestHold_38 hd hs2 hk)
  · have hs := if_f c hs
    refine go_iload_n (k4 := 2) rfl dX7_longestHold_12 ?_
    refine go_aload_n (k4 := 0) rfl (Or.inr ⟨_, rfl⟩) dX7_longestHold_13 ?_
    obtain ⟨v26, ev26, hs⟩ := bindS hs
    refine go_gN fl_RX7_22 ev26 dX7_longestHold_14 ?_
    refine go_iload_n (k4 := 3) rfl dX7_longestHold_17 ?_
    obtain ⟨v27, ev27, hs⟩ := bindS hs
    refine go_aIi ev27 dX7_longestHold_18 ?_
    refine go_sipush (v := 10000) (by decide) dX7_longestHold_19 ?_
    refine go_icmp_ge (tgt := 29) (by decide) dX7_longestHold_22 (fun c => ?_) (fun c => ?_)
    · have hs := if_t c hs
      refine go_iconst (v := 0) (by decide) dX7_longestHold_29 ?_
      exact go_subL (L' := [some (.ref x0), some (.int x1), none, some (.int x3), none, none, none]) (by simp [subL, va_rf]) (oX7_longestHold_30 hd hs hk)
    · have hs := if_f c hs
      refine go_iconst (v := 1) (by decide) dX7_longestHold_25 ?_
      refine go_goto (tgt := 30) (by decide) dX7_longestHold_26 ?_
      exact go_subL (L' := [some (.ref x0), some (.int x1), none, some (.int x3), none, none, none]) (by simp [subL, va_rf]) (oX7_longestHold_30 hd hs hk)
theorem oX7_longestHold_4 {d : Nat} (hd : 4 ≤ d) {h : Hp} {x0 : Nat} {x1 : Int32} {x2 : Int32} {x3 : Int32} {rf : Option Value} {hf : Hp} {x : (Int32 × Hp)} (hs : fX7_longestHold_4 h x0 x1 x2 x3 = some x) (hk : (kX7_longestHold rf hf) x) : Go d mX7_longestHold 4 [some (.ref x0), some (.int x1), some (.int x2), some (.int x3), none, none, none] [] h rf hf := by
  unfold fX7_longestHold_4 at hs
  exact lpw_go (P := pX7_longestHold_4 d h x0 x1 rf hf) (fun s x hs hk => oX7_longestHold_4b hd hs hk) (x2, x3) x hs hk
noncomputable def fX7_longestHold (h : Hp) (x0 : Nat) (x1 : Int32) : Option (Int32 × Hp) :=
  fX7_longestHold_4 h x0 x1 (0 : Int32) (0 : Int32)
theorem oX7_longestHold_0 {d : Nat} (hd : 4 ≤ d) {h : Hp} {x0 : Nat} {x1 : Int32} {rf : Option Value} {hf : Hp} {x : (Int32 × Hp)} (hs : fX7_longestHold h x0 x1 = some x) (hk : (kX7_longestHold rf hf) x) : Go d mX7_longestHold 0 [some (.ref x0), some (.int x1), none, none, none, none, none] [] h rf hf := by
  unfold fX7_longestHold at hs
  refine go_iconst (v := 0) (by decide) dX7_longestHold_0 ?_
  refine go_istore_n (k4 := 2) (L' := [some (.ref x0), some (.int x1), some (.int (0 : Int32)), none, none, none, none]) (by decide) rfl dX7_longestHold_1 ?_
  refine go_iconst (v := 0) (by decide) dX7_longestHold_2 ?_
  refine go_istore_n (k4 := 3) (L' := [some (.ref x0), some (.int x1), some (.int (0 : Int32)), some (.int (0 : Int32)), none, none, none]) (by decide) rfl dX7_longestHold_3 ?_
  exact go_subL (L' := [some (.ref x0), some (.int x1), some (.int (0 : Int32)), some (.int (0 : Int32)), none, none, none]) (by simp [subL, va_rf]) (oX7_longestHold_4 hd hs hk)
theorem oX7_longestHold {d : Nat} (hd : 4 ≤ d) {h : Hp} {x0 : Nat} {x1 : Int32} {y : (Int32 × Hp)} (hs : fX7_longestHold h x0 x1 = some y) : Call d mX7_longestHold [.ref x0, .int x1] h (some (.int y.1)) (y.2) := call_of (by decide +kernel) (Nat.le_of_ble_eq_true rfl) (show Go d mX7_longestHold 0 [some (.ref x0), some (.int x1), none, none, none, none, none] [] h _ _ from go_subL (by simp [subL]) (oX7_longestHold_0 hd hs ⟨rfl, rfl⟩))
abbrev kX11_holding (rf : Option Value) (hf : Hp) : (Int32 × Hp) → Prop := fun y => rf = some (.int y.1) ∧ hf = y.2
noncomputable def fX11_holding (h : Hp) (x0 : Nat) : Option (Int32 × Hp) :=
  (gN h 11 x0 4).bind fun v1 =>
  (gI h 8 v1 0).bind fun v2 =>
  if v2 < (10000 : Int32) then (
    (gN h 11 x0 3).bind fun v3 =>
    (gR h 0 v3 8).bind fun v4 =>
    match v4 with
    | none => (
      some (((-1 : Int32), h)))
    | some n5 => (
      gO h 11 x0 (
      (fX11_searching h x0).bind fun y6 =>
      (gN y6.2 11 x0 4).bind fun v8 =>
      (gI y6.2 8 v8 0).bind fun v9 =>
      gO y6.2 7 y6.1 (
      (fX7_explore y6.2 y6.1 v9 (-2 : Int32)).bind fun y10 =>
      (gN y10.2 11 x0 4).bind fun v12 =>
      (gI y10.2 8 v12 0).bind fun v13 =>
      gO y10.2 7 y6.1 (
      (fX7_longestHold y10.2 y6.1 v13).bind fun y14 =>
      some ((y14.1, y14.2))))))) else (
    some (((-5 : Int32), h)))
theorem oX11_holding_0 {d : Nat} (hd : 6 ≤ d) {h : Hp} {x0 : Nat} {rf : Option Value} {hf : Hp} {x : (Int32 × Hp)} (hs : fX11_holding h x0 = some x) (hk : (kX11_holding rf hf) x) : Go d mX11_holding 0 [some (.ref x0), none] [] h rf hf := by
  unfold fX11_holding at hs
  refine go_aload_n (k4 := 0) rfl (Or.inr ⟨_, rfl⟩) dX11_holding_0 ?_
  obtain ⟨v1, ev1, hs⟩ := bindS hs
  refine go_gN fl_RX11_36 ev1 dX11_holding_1 ?_
  obtain ⟨v2, ev2, hs⟩ := bindS hs
  refine go_gI fl_RX11_142 ev2 dX11_holding_4 ?_
  refine go_sipush (v := 10000) (by decide) dX11_holding_7 ?_
  refine go_icmp_lt (tgt := 16) (by decide) dX11_holding_10 (fun c => ?_) (fun c => ?_)
  · have hs := if_t c hs
    refine go_aload_n (k4 := 0) rfl (Or.inr ⟨_, rfl⟩) dX11_holding_16 ?_
    obtain ⟨v3, ev3, hs⟩ := bindS hs
    refine go_gN fl_RX11_29 ev3 dX11_holding_17 ?_
    obtain ⟨v4, ev4, hs⟩ := bindS hs
    refine go_gR fl_RX11_314 ev4 dX11_holding_20 ?_
    cases v4 with
    | none =>
      dsimp only at hs
      refine go_ifnonnull (o := none) (tgt := 28) (by decide) dX11_holding_23 (fun c => absurd rfl c) (fun _ => ?_)
      refine go_iconst (v := -1) (by decide) dX11_holding_26 ?_
      obtain rfl := Option.some.inj hs
      obtain ⟨rfl, rfl⟩ := hk
      exact go_iret rfl dX11_holding_27
    | some n5 =>
      dsimp only at hs
      refine go_ifnonnull (o := some n5) (tgt := 28) (by decide) dX11_holding_23 (fun _ => ?_) (fun c => by cases c)
      refine go_aload_n (k4 := 0) rfl (Or.inr ⟨_, rfl⟩) dX11_holding_28 ?_
      obtain ⟨g7, hs⟩ := gO_at hs
      obtain ⟨y6, ey6, hs⟩ := bindS hs
      refine go_V1 (As := []) (st := []) g7 rfl rfl (oX11_searching (d := d - 1) (by omega) ey6) (by omega) mb_X11_searching lm_RX11_292 mi_X11_searching (Nat.le_of_ble_eq_true rfl) rfl dX11_holding_29 ?_
      refine go_astore_n (k4 := 1) (L' := [some (.ref x0), some (.ref y6.1)]) (by decide) (Or.inr ⟨_, rfl⟩) rfl dX11_holding_32 ?_
      refine go_aload_n (k4 := 1) rfl (Or.inr ⟨_, rfl⟩) dX11_holding_33 ?_
      refine go_aload_n (k4 := 0) rfl (Or.inr ⟨_, rfl⟩) dX11_holding_34 ?_
      obtain ⟨v8, ev8, hs⟩ := bindS hs
      refine go_gN fl_RX11_36 ev8 dX11_holding_35 ?_
      obtain ⟨v9, ev9, hs⟩ := bindS hs
      refine go_gI fl_RX11_142 ev9 dX11_holding_38 ?_
      refine go_at 41 rfl ?_
      refine go_bipush (v := -2) (by decide) dX11_holding_41 ?_
      obtain ⟨g11, hs⟩ := gO_at hs
      obtain ⟨y10, ey10, hs⟩ := bindS hs
      refine go_V1 (As := [.int v9, .int (-2 : Int32)]) (st := []) g11 rfl rfl (oX7_explore (d := d - 1) (by omega) ey10) (by omega) mb_X7_explore lm_RX11_296 mi_X7_explore (Nat.le_of_ble_eq_true rfl) rfl dX11_holding_43 ?_
      refine go_pop rfl dX11_holding_46 ?_
      refine go_aload_n (k4 := 1) rfl (Or.inr ⟨_, rfl⟩) dX11_holding_47 ?_
      refine go_aload_n (k4 := 0) rfl (Or.inr ⟨_, rfl⟩) dX11_holding_48 ?_
      obtain ⟨v12, ev12, hs⟩ := bindS hs
      refine go_gN fl_RX11_36 ev12 dX11_holding_49 ?_
      obtain ⟨v13, ev13, hs⟩ := bindS hs
      refine go_gI fl_RX11_142 ev13 dX11_holding_52 ?_
      obtain ⟨g15, hs⟩ := gO_at hs
      obtain ⟨y14, ey14, hs⟩ := bindS hs
      refine go_V1 (As := [.int v13]) (st := []) g15 rfl rfl (oX7_longestHold (d := d - 1) (by omega) ey14) (by omega) mb_X7_longestHold lm_RX11_318 mi_X7_longestHold (Nat.le_of_ble_eq_true rfl) rfl dX11_holding_55 ?_
      refine go_at 58 rfl ?_
      obtain rfl := Option.some.inj hs
      obtain ⟨rfl, rfl⟩ := hk
      exact go_iret rfl dX11_holding_58
  · have hs := if_f c hs
    refine go_bipush (v := -5) (by decide) dX11_holding_13 ?_
    obtain rfl := Option.some.inj hs
    obtain ⟨rfl, rfl⟩ := hk
    exact go_iret rfl dX11_holding_15
theorem oX11_holding {d : Nat} (hd : 6 ≤ d) {h : Hp} {x0 : Nat} {y : (Int32 × Hp)} (hs : fX11_holding h x0 = some y) : Call d mX11_holding [.ref x0] h (some (.int y.1)) (y.2) := call_of (by decide +kernel) (Nat.le_of_ble_eq_true rfl) (show Go d mX11_holding 0 [some (.ref x0), none] [] h _ _ from go_subL (by simp [subL]) (oX11_holding_0 hd hs ⟨rfl, rfl⟩))
abbrev kX11_felling (rf : Option Value) (hf : Hp) : (Int32 × Hp) → Prop := fun y => rf = some (.int y.1) ∧ hf = y.2
noncomputable def fX11_felling (h : Hp) (x0 : Nat) : Option (Int32 × Hp) :=
  (gN h 11 x0 4).bind fun v1 =>
  (gI h 8 v1 0).bind fun v2 =>
  if v2 < (10000 : Int32) then (
    (gN h 11 x0 3).bind fun v3 =>
    (gR h 0 v3 8).bind fun v4 =>
    match v4 with
    | none => (
      some (((-1 : Int32), h)))
    | some n5 => (
      gO h 11 x0 (
      (fX11_searching h x0).bind fun y6 =>
      (gN y6.2 11 x0 4).bind fun v8 =>
      (gI y6.2 8 v8 0).bind fun v9 =>
      gO y6.2 7 y6.1 (
      (fX7_explore y6.2 y6.1 v9 (-1 : Int32)).bind fun y10 =>
      gO y10.2 7 y6.1 (
      (fX7_lengthTo y10.2 y6.1 y10.1).bind fun y12 =>
      some ((y12, y10.2))))))) else (
    some (((-5 : Int32), h)))
theorem oX11_felling_0 {d : Nat} (hd : 6 ≤ d) {h : Hp} {x0 : Nat} {rf : Option Value} {hf : Hp} {x : (Int32 × Hp)} (hs : fX11_felling h x0 = some x) (hk : (kX11_felling rf hf) x) : Go d mX11_felling 0 [some (.ref x0), none] [] h rf hf := by
  unfold fX11_felling at hs
  refine go_aload_n (k4 := 0) rfl (Or.inr ⟨_, rfl⟩) dX11_felling_0 ?_
  obtain ⟨v1, ev1, hs⟩ := bindS hs
  refine go_gN fl_RX11_36 ev1 dX11_felling_1 ?_
  obtain ⟨v2, ev2, hs⟩ := bindS hs
  refine go_gI fl_RX11_142 ev2 dX11_felling_4 ?_
  refine go_sipush (v := 10000) (by decide) dX11_felling_7 ?_
  refine go_icmp_lt (tgt := 16) (by decide) dX11_felling_10 (fun c => ?_) (fun c => ?_)
  · have hs := if_t c hs
    refine go_aload_n (k4 := 0) rfl (Or.inr ⟨_, rfl⟩) dX11_felling_16 ?_
    obtain ⟨v3, ev3, hs⟩ := bindS hs
    refine go_gN fl_RX11_29 ev3 dX11_felling_17 ?_
    obtain ⟨v4, ev4, hs⟩ := bindS hs
    refine go_gR fl_RX11_314 ev4 dX11_felling_20 ?_
    cases v4 with
    | none =>
      dsimp only at hs
      refine go_ifnonnull (o := none) (tgt := 28) (by decide) dX11_felling_23 (fun c => absurd rfl c) (fun _ => ?_)
      refine go_iconst (v := -1) (by decide) dX11_felling_26 ?_
      obtain rfl := Option.some.inj hs
      obtain ⟨rfl, rfl⟩ := hk
      exact go_iret rfl dX11_felling_27
    | some n5 =>
      dsimp only at hs
      refine go_ifnonnull (o := some n5) (tgt := 28) (by decide) dX11_felling_23 (fun _ => ?_) (fun c => by cases c)
      refine go_aload_n (k4 := 0) rfl (Or.inr ⟨_, rfl⟩) dX11_felling_28 ?_
      obtain ⟨g7, hs⟩ := gO_at hs
      obtain ⟨y6, ey6, hs⟩ := bindS hs
      refine go_V1 (As := []) (st := []) g7 rfl rfl (oX11_searching (d := d - 1) (by omega) ey6) (by omega) mb_X11_searching lm_RX11_292 mi_X11_searching (Nat.le_of_ble_eq_true rfl) rfl dX11_felling_29 ?_
      refine go_astore_n (k4 := 1) (L' := [some (.ref x0), some (.ref y6.1)]) (by decide) (Or.inr ⟨_, rfl⟩) rfl dX11_felling_32 ?_
      refine go_aload_n (k4 := 1) rfl (Or.inr ⟨_, rfl⟩) dX11_felling_33 ?_
      refine go_aload_n (k4 := 1) rfl (Or.inr ⟨_, rfl⟩) dX11_felling_34 ?_
      refine go_aload_n (k4 := 0) rfl (Or.inr ⟨_, rfl⟩) dX11_felling_35 ?_
      obtain ⟨v8, ev8, hs⟩ := bindS hs
      refine go_gN fl_RX11_36 ev8 dX11_felling_36 ?_
      refine go_at 39 rfl ?_
      obtain ⟨v9, ev9, hs⟩ := bindS hs
      refine go_gI fl_RX11_142 ev9 dX11_felling_39 ?_
      refine go_iconst (v := -1) (by decide) dX11_felling_42 ?_
      obtain ⟨g11, hs⟩ := gO_at hs
      obtain ⟨y10, ey10, hs⟩ := bindS hs
      refine go_V1 (As := [.int v9, .int (-1 : Int32)]) (st := [.ref y6.1]) g11 rfl rfl (oX7_explore (d := d - 1) (by omega) ey10) (by omega) mb_X7_explore lm_RX11_296 mi_X7_explore (Nat.le_of_ble_eq_true rfl) rfl dX11_felling_43 ?_
      obtain ⟨g13, hs⟩ := gO_at hs
      obtain ⟨y12, ey12, hs⟩ := bindS hs
      refine go_V1 (As := [.int y10.1]) (st := []) g13 rfl rfl (oX7_lengthTo (d := d - 1) (by omega) ey12) (by omega) mb_X7_lengthTo lm_RX11_299 mi_X7_lengthTo (Nat.le_of_ble_eq_true rfl) rfl dX11_felling_46 ?_
      obtain rfl := Option.some.inj hs
      obtain ⟨rfl, rfl⟩ := hk
      exact go_iret rfl dX11_felling_49
  · have hs := if_f c hs
    refine go_bipush (v := -5) (by decide) dX11_felling_13 ?_
    obtain rfl := Option.some.inj hs
    obtain ⟨rfl, rfl⟩ := hk
    exact go_iret rfl dX11_felling_15
theorem oX11_felling {d : Nat} (hd : 6 ≤ d) {h : Hp} {x0 : Nat} {y : (Int32 × Hp)} (hs : fX11_felling h x0 = some y) : Call d mX11_felling [.ref x0] h (some (.int y.1)) (y.2) := call_of (by decide +kernel) (Nat.le_of_ble_eq_true rfl) (show Go d mX11_felling 0 [some (.ref x0), none] [] h _ _ from go_subL (by simp [subL]) (oX11_felling_0 hd hs ⟨rfl, rfl⟩))
abbrev kX11_stands (rf : Option Value) (hf : Hp) : (Int32 × Hp) → Prop := fun y => rf = some (.int y.1) ∧ hf = y.2
noncomputable def fX11_stands (h : Hp) (x0 : Nat) : Option (Int32 × Hp) :=
  gO h 11 x0 (
  (fX11_searching h x0).bind fun y1 =>
  (gN y1.2 11 x0 4).bind fun v3 =>
  (gI y1.2 8 v3 0).bind fun v4 =>
  gO y1.2 7 y1.1 (
  (fX7_explore y1.2 y1.1 v4 (-2 : Int32)).bind fun y5 =>
  (gI y5.2 7 y1.1 12).bind fun v7 =>
  some ((v7, y5.2))))
theorem oX11_stands_0 {d : Nat} (hd : 6 ≤ d) {h : Hp} {x0 : Nat} {rf : Option Value} {hf : Hp} {x : (Int32 × Hp)} (hs : fX11_stands h x0 = some x) (hk : (kX11_stands rf hf) x) : Go d mX11_stands 0 [some (.ref x0), none] [] h rf hf := by
  unfold fX11_stands at hs
  refine go_aload_n (k4 := 0) rfl (Or.inr ⟨_, rfl⟩) dX11_stands_0 ?_
  obtain ⟨g2, hs⟩ := gO_at hs
  obtain ⟨y1, ey1, hs⟩ := bindS hs
  refine go_V1 (As := []) (st := []) g2 rfl rfl (oX11_searching (d := d - 1) (by omega) ey1) (by omega) mb_X11_searching lm_RX11_292 mi_X11_searching (Nat.le_of_ble_eq_true rfl) rfl dX11_stands_1 ?_
  refine go_astore_n (k4 := 1) (L' := [some (.ref x0), some (.ref y1.1)]) (by decide) (Or.inr ⟨_, rfl⟩) rfl dX11_stands_4 ?_
  refine go_aload_n (k4 := 1) rfl (Or.inr ⟨_, rfl⟩) dX11_stands_5 ?_
  refine go_aload_n (k4 := 0) rfl (Or.inr ⟨_, rfl⟩) dX11_stands_6 ?_
  obtain ⟨v3, ev3, hs⟩ := bindS hs
  refine go_gN fl_RX11_36 ev3 dX11_stands_7 ?_
  obtain ⟨v4, ev4, hs⟩ := bindS hs
  refine go_gI fl_RX11_142 ev4 dX11_stands_10 ?_
  refine go_at 13 rfl ?_
  refine go_bipush (v := -2) (by decide) dX11_stands_13 ?_
  obtain ⟨g6, hs⟩ := gO_at hs
  obtain ⟨y5, ey5, hs⟩ := bindS hs
  refine go_V1 (As := [.int v4, .int (-2 : Int32)]) (st := []) g6 rfl rfl (oX7_explore (d := d - 1) (by omega) ey5) (by omega) mb_X7_explore lm_RX11_296 mi_X7_explore (Nat.le_of_ble_eq_true rfl) rfl dX11_stands_15 ?_
  refine go_pop rfl dX11_stands_18 ?_
  refine go_aload_n (k4 := 1) rfl (Or.inr ⟨_, rfl⟩) dX11_stands_19 ?_
  obtain ⟨v7, ev7, hs⟩ := bindS hs
  refine go_gI fl_RX11_321 ev7 dX11_stands_20 ?_
  obtain rfl := Option.some.inj hs
  obtain ⟨rfl, rfl⟩ := hk
  exact go_iret rfl dX11_stands_23
theorem oX11_stands {d : Nat} (hd : 6 ≤ d) {h : Hp} {x0 : Nat} {y : (Int32 × Hp)} (hs : fX11_stands h x0 = some y) : Call d mX11_stands [.ref x0] h (some (.int y.1)) (y.2) := call_of (by decide +kernel) (Nat.le_of_ble_eq_true rfl) (show Go d mX11_stands 0 [some (.ref x0), none] [] h _ _ from go_subL (by simp [subL]) (oX11_stands_0 hd hs ⟨rfl, rfl⟩))
abbrev kX11_seenRefusal (h : Hp) (rf : Option Value) (hf : Hp) : Int32 → Prop := fun y => rf = some (.int y) ∧ hf = h
noncomputable def fX11_seenRefusal_15 (h : Hp)  : Option Int32 :=
  some ((-2 : Int32))
theorem oX11_seenRefusal_15 {d : Nat} (hd : 1 ≤ d) {h : Hp} {rf : Option Value} {hf : Hp} {x : Int32} (hs : fX11_seenRefusal_15 h  = some x) (hk : (kX11_seenRefusal h rf hf) x) : Go d mX11_seenRefusal 15 [none, none, none, none, none] [] h rf hf := by
  unfold fX11_seenRefusal_15 at hs
  refine go_bipush (v := -2) (by decide) dX11_seenRefusal_15 ?_
  obtain rfl := Option.some.inj hs
  obtain ⟨rfl, rfl⟩ := hk
  exact go_iret rfl dX11_seenRefusal_17
noncomputable def fX11_seenRefusal_52 (h : Hp)  : Option Int32 :=
  some ((-4 : Int32))
theorem oX11_seenRefusal_52 {d : Nat} (hd : 1 ≤ d) {h : Hp} {rf : Option Value} {hf : Hp} {x : Int32} (hs : fX11_seenRefusal_52 h  = some x) (hk : (kX11_seenRefusal h rf hf) x) : Go d mX11_seenRefusal 52 [none, none, none, none, none] [] h rf hf := by
  unfold fX11_seenRefusal_52 at hs
  refine go_bipush (v := -4) (by decide) dX11_seenRefusal_52 ?_
  obtain rfl := Option.some.inj hs
  obtain ⟨rfl, rfl⟩ := hk
  exact go_iret rfl dX11_seenRefusal_54
abbrev pX11_seenRefusal_58 (d : Nat) (h : Hp) (x3 : Nat) (rf : Option Value) (hf : Hp) : Int32 → Prop := fun s => Go d mX11_seenRefusal 58 [none, none, none, some (.ref x3), some (.int s)] [] h rf hf
noncomputable def fX11_seenRefusal_93 (h : Hp)  : Option Int32 :=
  some ((-3 : Int32))
theorem oX11_seenRefusal_93 {d : Nat} (hd : 1 ≤ d) {h : Hp} {rf : Option Value} {hf : Hp} {x : Int32} (hs : fX11_seenRefusal_93 h  = some x) (hk : (kX11_seenRefusal h rf hf) x) : Go d mX11_seenRefusal 93 [none, none, none, none, none] [] h rf hf := by
  unfold fX11_seenRefusal_93 at hs
  refine go_bipush (v := -3) (by decide) dX11_seenRefusal_93 ?_
  obtain rfl := Option.some.inj hs
  obtain ⟨rfl, rfl⟩ := hk
  exact go_iret rfl dX11_seenRefusal_95
noncomputable def fX11_seenRefusal_58b (h : Hp) (x3 : Nat) (x4 : Int32) : Option (Int32 ⊕ Int32) :=
  (gI h 9 x3 3).bind fun v9 =>
  if v9 ≤ x4 then (
    some (.inr (0 : Int32))) else (
    gO h 9 x3 (
    (fX9_at h x3 x4).bind fun y10 =>
    if (lg_cmp y10 (-1 : Int64)) < 0 then (
    (fX11_seenRefusal_93 h ).map (fun q => .inr q)) else (
      gO h 9 x3 (
      (fX9_at h x3 x4).bind fun y12 =>
      if (lg_cmp y12 (9 : Int64)) ≤ 0 then (
        some (.inl (x4 + Int32.ofInt 1))) else (
      (fX11_seenRefusal_93 h ).map (fun q => .inr q))))))
noncomputable def fX11_seenRefusal_58 (h : Hp) (x3 : Nat) (x4 : Int32) : Option Int32 := lpw (σ := Int32) (fun s => fX11_seenRefusal_58b h x3 s) x4
theorem oX11_seenRefusal_58b {d : Nat} (hd : 1 ≤ d) {h : Hp} {x3 : Nat} {x4 : Int32} {rf : Option Value} {hf : Hp} {x : (Int32 ⊕ Int32)} (hs : fX11_seenRefusal_58b h x3 x4 = some x) (hk : (Kx (pX11_seenRefusal_58 d h x3 rf hf) (kX11_seenRefusal h rf hf)) x) : Go d mX11_seenRefusal 58 [none, none, none, some (.ref x3), some (.int x4)] [] h rf hf := by
  unfold fX11_seenRefusal_58b at hs
  refine go_iload rfl dX11_seenRefusal_58 ?_
  refine go_aload_n (k4 := 3) rfl (Or.inr ⟨_, rfl⟩) dX11_seenRefusal_60 ?_
  obtain ⟨v9, ev9, hs⟩ := bindS hs
  refine go_gI fl_RX11_222 ev9 dX11_seenRefusal_61 ?_
  refine go_icmp_ge (tgt := 102) (by decide) dX11_seenRefusal_64 (fun c => ?_) (fun c => ?_)
  · have hs := if_t c hs
    refine go_iconst (v := 0) (by decide) dX11_seenRefusal_102 ?_
    obtain rfl := Option.some.inj hs
    obtain ⟨rfl, rfl⟩ := hk
    exact go_iret rfl dX11_seenRefusal_103
  · have hs := if_f c hs
    refine go_aload_n (k4 := 3) rfl (Or.inr ⟨_, rfl⟩) dX11_seenRefusal_67 ?_
    refine go_iload rfl dX11_seenRefusal_68 ?_
    obtain ⟨g11, hs⟩ := gO_at hs
    obtain ⟨y10, ey10, hs⟩ := bindS hs
    refine go_V1 (As := [.int x4]) (st := []) g11 rfl rfl (oX9_at (d := d - 1) (by omega) ey10) (by omega) mb_X9_at lm_RX11_223 mi_X9_at (Nat.le_of_ble_eq_true rfl) rfl dX11_seenRefusal_70 ?_
    refine go_ldc2 lc_RX11_350 dX11_seenRefusal_73 ?_
    refine go_lcmp dX11_seenRefusal_76 ?_
    refine go_if_lt (tgt := 93) (by decide) dX11_seenRefusal_77 (fun c => ?_) (fun c => ?_)
    · have hs := if_t c hs
      obtain ⟨q, hs2, hq⟩ := mapS hs
      clear hs
      subst hq
      exact go_subL (L' := [none, none, none, none, none]) (by simp [subL, va_rf]) (oX11_seenRefusal_93 hd hs2 hk)
    · have hs := if_f c hs
      refine go_aload_n (k4 := 3) rfl (Or.inr ⟨_, rfl⟩) dX11_seenRefusal_80 ?_
      refine go_iload rfl dX11_seenRefusal_81 ?_
      obtain ⟨g13, hs⟩ := gO_at hs
      obtain ⟨y12, ey12, hs⟩ := bindS hs
      refine go_V1 (As := [.int x4]) (st := []) g13 rfl rfl (oX9_at (d := d - 1) (by omega) ey12) (by omega) mb_X9_at lm_RX11_223 mi_X9_at (Nat.le_of_ble_eq_true rfl) rfl dX11_seenRefusal_83 ?_
      refine go_ldc2 lc_RX11_352 dX11_seenRefusal_86 ?_
      refine go_lcmp dX11_seenRefusal_89 ?_
      refine go_if_le (tgt := 96) (by decide) dX11_seenRefusal_90 (fun c => ?_) (fun c => ?_)
      · have hs := if_t c hs
        refine go_iinc (L' := [none, none, none, some (.ref x3), some (.int (x4 + Int32.ofInt 1))]) rfl (by decide) rfl rfl dX11_seenRefusal_96 ?_
        refine go_goto (tgt := 58) (by decide) dX11_seenRefusal_99 ?_
        obtain rfl := Option.some.inj hs
        exact go_subL (L' := [none, none, none, some (.ref x3), some (.int (x4 + Int32.ofInt 1))]) (by simp [subL, va_rf]) hk
      · have hs := if_f c hs
        obtain ⟨q, hs2, hq⟩ := mapS hs
        clear hs
        subst hq
        exact go_subL (L' := [none, none, none, none, none]) (by simp [subL, va_rf]) (oX11_seenRefusal_93 hd hs2 hk)
theorem oX11_seenRefusal_58 {d : Nat} (hd : 1 ≤ d) {h : Hp} {x3 : Nat} {x4 : Int32} {rf : Option Value} {hf : Hp} {x : Int32} (hs : fX11_seenRefusal_58 h x3 x4 = some x) (hk : (kX11_seenRefusal h rf hf) x) : Go d mX11_seenRefusal 58 [none, none, none, some (.ref x3), some (.int x4)] [] h rf hf := by
  unfold fX11_seenRefusal_58 at hs
  exact lpw_go (P := pX11_seenRefusal_58 d h x3 rf hf) (fun s x hs hk => oX11_seenRefusal_58b hd hs hk) x4 x hs hk
noncomputable def fX11_seenRefusal (h : Hp) (x0 : Nat) (x1 : Int32) (x2 : Int32) : Option Int32 :=
  (fX11_isTray h x1).bind fun y1 =>
  if y1 = 0 then (
  fX11_seenRefusal_15 h ) else (
    gO h 11 x0 (
    (fX11_isPair h x0 x2).bind fun y2 =>
    if y2 = 0 then (
    fX11_seenRefusal_15 h ) else (
      (gN h 11 x0 8).bind fun v4 =>
      (aN h v4 x1).bind fun v5 =>
      (gI h 9 v5 2).bind fun v6 =>
      if v6 = 0 then (
        (gI h 9 v5 3).bind fun v7 =>
        if v7 < (1 : Int32) then (
        fX11_seenRefusal_52 h ) else (
          (gI h 9 v5 3).bind fun v8 =>
          if v8 ≤ (10 : Int32) then (
            fX11_seenRefusal_58 h v5 (0 : Int32)) else (
          fX11_seenRefusal_52 h ))) else (
        some ((-6 : Int32))))))
theorem oX11_seenRefusal_0 {d : Nat} (hd : 1 ≤ d) {h : Hp} {x0 : Nat} {x1 : Int32} {x2 : Int32} {rf : Option Value} {hf : Hp} {x : Int32} (hs : fX11_seenRefusal h x0 x1 x2 = some x) (hk : (kX11_seenRefusal h rf hf) x) : Go d mX11_seenRefusal 0 [some (.ref x0), some (.int x1), some (.int x2), none, none] [] h rf hf := by
  unfold fX11_seenRefusal at hs
  refine go_iload_n (k4 := 1) rfl dX11_seenRefusal_0 ?_
  obtain ⟨y1, ey1, hs⟩ := bindS hs
  refine go_S1 (As := [.int x1]) (st := []) (oX11_isTray (d := d - 1) (by omega) ey1) (by omega) mb_X11_isTray lm_RX11_215 ms_X11_isTray (Nat.le_of_ble_eq_true rfl) rfl dX11_seenRefusal_1 ?_
  refine go_if_eq (tgt := 15) (by decide) dX11_seenRefusal_4 (fun c => ?_) (fun c => ?_)
  · have hs := if_t c hs
    exact go_subL (L' := [none, none, none, none, none]) (by simp [subL, va_rf]) (oX11_seenRefusal_15 hd hs hk)
  · have hs := if_f c hs
    refine go_aload_n (k4 := 0) rfl (Or.inr ⟨_, rfl⟩) dX11_seenRefusal_7 ?_
    refine go_iload_n (k4 := 2) rfl dX11_seenRefusal_8 ?_
    obtain ⟨g3, hs⟩ := gO_at hs
    obtain ⟨y2, ey2, hs⟩ := bindS hs
    refine go_V1 (As := [.int x2]) (st := []) g3 rfl rfl (oX11_isPair (d := d - 1) (by omega) ey2) (by omega) mb_X11_isPair lm_RX11_138 mi_X11_isPair (Nat.le_of_ble_eq_true rfl) rfl dX11_seenRefusal_9 ?_
    refine go_if_ne (tgt := 18) (by decide) dX11_seenRefusal_12 (fun c => ?_) (fun c => ?_)
    · have hs := if_f c hs
      refine go_aload_n (k4 := 0) rfl (Or.inr ⟨_, rfl⟩) dX11_seenRefusal_18 ?_
      obtain ⟨v4, ev4, hs⟩ := bindS hs
      refine go_gN fl_RX11_55 ev4 dX11_seenRefusal_19 ?_
      refine go_iload_n (k4 := 1) rfl dX11_seenRefusal_22 ?_
      obtain ⟨v5, ev5, hs⟩ := bindS hs
      refine go_aN ev5 dX11_seenRefusal_23 ?_
      refine go_astore_n (k4 := 3) (L' := [some (.ref x0), some (.int x1), some (.int x2), some (.ref v5), none]) (by decide) (Or.inr ⟨_, rfl⟩) rfl dX11_seenRefusal_24 ?_
      refine go_aload_n (k4 := 3) rfl (Or.inr ⟨_, rfl⟩) dX11_seenRefusal_25 ?_
      obtain ⟨v6, ev6, hs⟩ := bindS hs
      refine go_gI fl_RX11_218 ev6 dX11_seenRefusal_26 ?_
      refine go_at 29 rfl ?_
      refine go_if_eq (tgt := 35) (by decide) dX11_seenRefusal_29 (fun c => ?_) (fun c => ?_)
      · have hs := if_t c hs
        refine go_aload_n (k4 := 3) rfl (Or.inr ⟨_, rfl⟩) dX11_seenRefusal_35 ?_
        obtain ⟨v7, ev7, hs⟩ := bindS hs
        refine go_gI fl_RX11_222 ev7 dX11_seenRefusal_36 ?_
        refine go_iconst (v := 1) (by decide) dX11_seenRefusal_39 ?_
        refine go_icmp_lt (tgt := 52) (by decide) dX11_seenRefusal_40 (fun c => ?_) (fun c => ?_)
        · have hs := if_t c hs
          exact go_subL (L' := [none, none, none, none, none]) (by simp [subL, va_rf]) (oX11_seenRefusal_52 hd hs hk)
        · have hs := if_f c hs
          refine go_aload_n (k4 := 3) rfl (Or.inr ⟨_, rfl⟩) dX11_seenRefusal_43 ?_
          obtain ⟨v8, ev8, hs⟩ := bindS hs
          refine go_gI fl_RX11_222 ev8 dX11_seenRefusal_44 ?_
          refine go_bipush (v := 10) (by decide) dX11_seenRefusal_47 ?_
          refine go_icmp_le (tgt := 55) (by decide) dX11_seenRefusal_49 (fun c => ?_) (fun c => ?_)
          · have hs := if_t c hs
            refine go_iconst (v := 0) (by decide) dX11_seenRefusal_55 ?_
            refine go_istore (L' := [some (.ref x0), some (.int x1), some (.int x2), some (.ref v5), some (.int (0 : Int32))]) (by decide) rfl dX11_seenRefusal_56 ?_
            exact go_subL (L' := [none, none, none, some (.ref v5), some (.int (0 : Int32))]) (by simp [subL, va_rf]) (oX11_seenRefusal_58 hd hs hk)
          · have hs := if_f c hs
            exact go_subL (L' := [none, none, none, none, none]) (by simp [subL, va_rf]) (oX11_seenRefusal_52 hd hs hk)
      · have hs := if_f c hs
        refine go_bipush (v := -6) (by decide) dX11_seenRefusal_32 ?_
        obtain rfl := Option.some.inj hs
        obtain ⟨rfl, rfl⟩ := hk
        exact go_iret rfl dX11_seenRefusal_34
    · have hs := if_t c hs
      exact go_subL (L' := [none, none, none, none, none]) (by simp [subL, va_rf]) (oX11_seenRefusal_15 hd hs hk)
theorem oX11_seenRefusal {d : Nat} (hd : 1 ≤ d) {h : Hp} {x0 : Nat} {x1 : Int32} {x2 : Int32} {y : Int32} (hs : fX11_seenRefusal h x0 x1 x2 = some y) : Call d mX11_seenRefusal [.ref x0, .int x1, .int x2] h (some (.int y)) h := call_of (by decide +kernel) (Nat.le_of_ble_eq_true rfl) (show Go d mX11_seenRefusal 0 [some (.ref x0), some (.int x1), some (.int x2), none, none] [] h _ _ from go_subL (by simp [subL]) (oX11_seenRefusal_0 hd hs ⟨rfl, rfl⟩))
abbrev mgX2_follow (sel : Nat) : Mt := mX2_follow
abbrev kX2_follow (rf : Option Value) (hf : Hp) : Hp → Prop := fun y => rf = none ∧ hf = y
abbrev pX2_follow_73 (d : Nat) (x0 : Nat) (x1 : Nat) (x2 : Int32) (x3 : Int32) (x4 : Int32) (rf : Option Value) (hf : Hp) : (Int32 × Hp) → Prop := fun s => Go d mX2_follow 73 [some (.ref x0), some (.ref x1), some (.int x2), some (.int x3), some (.int x4), some (.int s.1), none] [] s.2 rf hf
noncomputable def fX2_follow_143 (rc : Nat → Hp → Nat → Nat → Int32 → Int32 → Int32 → Option Hp) (h : Hp) (x0 : Nat) (x1 : Nat) (x2 : Int32) (x3 : Int32) (x4 : Int32) (x5 : Int32) : Option ((Int32 × Hp) ⊕ Hp) :=
  some (.inl ((x5 + Int32.ofInt 1), h))
theorem oX2_follow_143 {d : Nat} (hd : 4 ≤ d) {rc : Nat → Hp → Nat → Nat → Int32 → Int32 → Int32 → Option Hp} (hrc : ∀ (sel : Nat) (h : Hp) (x0 : Nat) (x1 : Nat) (x2 : Int32) (x3 : Int32) (x4 : Int32) (y : Hp), rc sel h x0 x1 x2 x3 x4 = some y → Call (d - 1) (mgX2_follow sel) [.ref x0, .ref x1, .int x2, .int x3, .int x4] h (none) y) {h : Hp} {x0 : Nat} {x1 : Nat} {x2 : Int32} {x3 : Int32} {x4 : Int32} {x5 : Int32} {rf : Option Value} {hf : Hp} {x : ((Int32 × Hp) ⊕ Hp)} (hs : fX2_follow_143 rc h x0 x1 x2 x3 x4 x5 = some x) (hk : (Kx (pX2_follow_73 d x0 x1 x2 x3 x4 rf hf) (kX2_follow rf hf)) x) : Go d mX2_follow 143 [some (.ref x0), some (.ref x1), some (.int x2), some (.int x3), some (.int x4), some (.int x5), none] [] h rf hf := by
  unfold fX2_follow_143 at hs
  refine go_iinc (L' := [some (.ref x0), some (.ref x1), some (.int x2), some (.int x3), some (.int x4), some (.int (x5 + Int32.ofInt 1)), none]) rfl (by decide) rfl rfl dX2_follow_143 ?_
  refine go_goto (tgt := 73) (by decide) dX2_follow_146 ?_
  obtain rfl := Option.some.inj hs
  exact go_subL (L' := [some (.ref x0), some (.ref x1), some (.int x2), some (.int x3), some (.int x4), some (.int (x5 + Int32.ofInt 1)), none]) (by simp [subL, va_rf]) hk
noncomputable def fX2_follow_126 (rc : Nat → Hp → Nat → Nat → Int32 → Int32 → Int32 → Option Hp) (h : Hp) (x0 : Nat) (x1 : Nat) (x2 : Int32) (x3 : Int32) (x4 : Int32) (x5 : Int32) (x6 : Int32) : Option ((Int32 × Hp) ⊕ Hp) :=
  gO h 2 x0 (
  (rc 0 h x0 x1 (x2 + (1 : Int32)) x6 (x4 ||| (x5 <<< (x2 &&& 31)))).bind fun y8 =>
  fX2_follow_143 rc y8 x0 x1 x2 x3 x4 x5)
theorem oX2_follow_126 {d : Nat} (hd : 4 ≤ d) {rc : Nat → Hp → Nat → Nat → Int32 → Int32 → Int32 → Option Hp} (hrc : ∀ (sel : Nat) (h : Hp) (x0 : Nat) (x1 : Nat) (x2 : Int32) (x3 : Int32) (x4 : Int32) (y : Hp), rc sel h x0 x1 x2 x3 x4 = some y → Call (d - 1) (mgX2_follow sel) [.ref x0, .ref x1, .int x2, .int x3, .int x4] h (none) y) {h : Hp} {x0 : Nat} {x1 : Nat} {x2 : Int32} {x3 : Int32} {x4 : Int32} {x5 : Int32} {x6 : Int32} {rf : Option Value} {hf : Hp} {x : ((Int32 × Hp) ⊕ Hp)} (hs : fX2_follow_126 rc h x0 x1 x2 x3 x4 x5 x6 = some x) (hk : (Kx (pX2_follow_73 d x0 x1 x2 x3 x4 rf hf) (kX2_follow rf hf)) x) : Go d mX2_follow 126 [some (.ref x0), some (.ref x1), some (.int x2), some (.int x3), some (.int x4), some (.int x5), some (.int x6)] [] h rf hf := by
  unfold fX2_follow_126 at hs
  refine go_aload_n (k4 := 0) rfl (Or.inr ⟨_, rfl⟩) dX2_follow_126 ?_
  refine go_aload_n (k4 := 1) rfl (Or.inr ⟨_, rfl⟩) dX2_follow_127 ?_
  refine go_iload_n (k4 := 2) rfl dX2_follow_128 ?_
  refine go_iconst (v := 1) (by decide) dX2_follow_129 ?_
  refine go_iadd dX2_follow_130 ?_
  refine go_iload rfl dX2_follow_131 ?_
  refine go_iload rfl dX2_follow_133 ?_
  refine go_at 135 rfl ?_
  refine go_iload rfl dX2_follow_135 ?_
  refine go_iload_n (k4 := 2) rfl dX2_follow_137 ?_
  refine go_ishl dX2_follow_138 ?_
  refine go_ior dX2_follow_139 ?_
  obtain ⟨g9, hs⟩ := gO_at hs
  obtain ⟨y8, ey8, hs⟩ := bindS hs
  refine go_V0 (As := [.ref x1, .int (x2 + (1 : Int32)), .int x6, .int (x4 ||| (x5 <<< (x2 &&& 31)))]) (st := []) g9 rfl rfl (show Call (d - 1) mX2_follow _ _ _ _ from hrc 0 h x0 x1 (x2 + (1 : Int32)) x6 (x4 ||| (x5 <<< (x2 &&& 31))) _ ey8) (by omega) mb_X2_follow lm_RX2_55 mi_X2_follow (Nat.le_of_ble_eq_true rfl) rfl dX2_follow_140 ?_
  exact go_subL (L' := [some (.ref x0), some (.ref x1), some (.int x2), some (.int x3), some (.int x4), some (.int x5), none]) (by simp [subL, va_rf]) (oX2_follow_143 hd hrc hs hk)
noncomputable def fX2_follow_73b (rc : Nat → Hp → Nat → Nat → Int32 → Int32 → Int32 → Option Hp) (h : Hp) (x0 : Nat) (x1 : Nat) (x2 : Int32) (x3 : Int32) (x4 : Int32) (x5 : Int32) : Option ((Int32 × Hp) ⊕ Hp) :=
  if (1 : Int32) < x5 then (
    some (.inr h)) else (
    (gN h 2 x0 0).bind fun v2 =>
    (gI h 2 x0 2).bind fun v3 =>
    gO h 1 v2 (
    (fX1_after h v2 x3 v3 x5).bind fun y4 =>
    gO y4.2 9 x1 (
    (fX9_at y4.2 x1 x2).bind fun y6 =>
    if (lg_cmp y6 (-1 : Int64)) = 0 then (
    fX2_follow_126 rc y4.2 x0 x1 x2 x3 x4 x5 y4.1) else (
      gO y4.2 9 x1 (
      (fX9_at y4.2 x1 x2).bind fun y10 =>
      (gI y4.2 2 x0 1).bind fun v12 =>
      (fX11_digit y4.2 y4.1 v12).bind fun y13 =>
      if (lg_cmp y10 (y13.toInt64)) = 0 then (
      fX2_follow_126 rc y4.2 x0 x1 x2 x3 x4 x5 y4.1) else (
      fX2_follow_143 rc y4.2 x0 x1 x2 x3 x4 x5))))))
noncomputable def fX2_follow_73 (rc : Nat → Hp → Nat → Nat → Int32 → Int32 → Int32 → Option Hp) (h : Hp) (x0 : Nat) (x1 : Nat) (x2 : Int32) (x3 : Int32) (x4 : Int32) (x5 : Int32) : Option Hp := lpw (σ := (Int32 × Hp)) (fun s => fX2_follow_73b rc s.2 x0 x1 x2 x3 x4 s.1) (x5, h)
theorem oX2_follow_73b {d : Nat} (hd : 4 ≤ d) {rc : Nat → Hp → Nat → Nat → Int32 → Int32 → Int32 → Option Hp} (hrc : ∀ (sel : Nat) (h : Hp) (x0 : Nat) (x1 : Nat) (x2 : Int32) (x3 : Int32) (x4 : Int32) (y : Hp), rc sel h x0 x1 x2 x3 x4 = some y → Call (d - 1) (mgX2_follow sel) [.ref x0, .ref x1, .int x2, .int x3, .int x4] h (none) y) {h : Hp} {x0 : Nat} {x1 : Nat} {x2 : Int32} {x3 : Int32} {x4 : Int32} {x5 : Int32} {rf : Option Value} {hf : Hp} {x : ((Int32 × Hp) ⊕ Hp)} (hs : fX2_follow_73b rc h x0 x1 x2 x3 x4 x5 = some x) (hk : (Kx (pX2_follow_73 d x0 x1 x2 x3 x4 rf hf) (kX2_follow rf hf)) x) : Go d mX2_follow 73 [some (.ref x0), some (.ref x1), some (.int x2), some (.int x3), some (.int x4), some (.int x5), none] [] h rf hf := by
  unfold fX2_follow_73b at hs
  refine go_iload rfl dX2_follow_73 ?_
  refine go_iconst (v := 1) (by decide) dX2_follow_75 ?_
  refine go_icmp_gt (tgt := 149) (by decide) dX2_follow_76 (fun c => ?_) (fun c => ?_)
  · have hs := if_t c hs
    obtain rfl := Option.some.inj hs
    obtain ⟨rfl, rfl⟩ := hk
    exact go_vret rfl dX2_follow_149
  · have hs := if_f c hs
    refine go_aload_n (k4 := 0) rfl (Or.inr ⟨_, rfl⟩) dX2_follow_79 ?_
    obtain ⟨v2, ev2, hs⟩ := bindS hs
    refine go_gN fl_RX2_46 ev2 dX2_follow_80 ?_
    refine go_iload_n (k4 := 3) rfl dX2_follow_83 ?_
    refine go_aload_n (k4 := 0) rfl (Or.inr ⟨_, rfl⟩) dX2_follow_84 ?_
    obtain ⟨v3, ev3, hs⟩ := bindS hs
    refine go_gI fl_RX2_15 ev3 dX2_follow_85 ?_
    refine go_iload rfl dX2_follow_88 ?_
    obtain ⟨g5, hs⟩ := gO_at hs
    obtain ⟨y4, ey4, hs⟩ := bindS hs
    refine go_V1 (As := [.int x3, .int v3, .int x5]) (st := []) g5 rfl rfl (oX1_after (d := d - 1) (by omega) ey4) (by omega) mb_X1_after lm_RX2_59 mi_X1_after (Nat.le_of_ble_eq_true rfl) rfl dX2_follow_90 ?_
    refine go_at 93 rfl ?_
    refine go_istore (L' := [some (.ref x0), some (.ref x1), some (.int x2), some (.int x3), some (.int x4), some (.int x5), some (.int y4.1)]) (by decide) rfl dX2_follow_93 ?_
    refine go_aload_n (k4 := 1) rfl (Or.inr ⟨_, rfl⟩) dX2_follow_95 ?_
    refine go_iload_n (k4 := 2) rfl dX2_follow_96 ?_
    obtain ⟨g7, hs⟩ := gO_at hs
    obtain ⟨y6, ey6, hs⟩ := bindS hs
    refine go_V1 (As := [.int x2]) (st := []) g7 rfl rfl (oX9_at (d := d - 1) (by omega) ey6) (by omega) mb_X9_at lm_RX2_65 mi_X9_at (Nat.le_of_ble_eq_true rfl) rfl dX2_follow_97 ?_
    refine go_ldc2 lc_RX2_69 dX2_follow_100 ?_
    refine go_lcmp dX2_follow_103 ?_
    refine go_if_eq (tgt := 126) (by decide) dX2_follow_104 (fun c => ?_) (fun c => ?_)
    · have hs := if_t c hs
      exact go_subL (L' := [some (.ref x0), some (.ref x1), some (.int x2), some (.int x3), some (.int x4), some (.int x5), some (.int y4.1)]) (by simp [subL, va_rf]) (oX2_follow_126 hd hrc hs hk)
    · have hs := if_f c hs
      refine go_aload_n (k4 := 1) rfl (Or.inr ⟨_, rfl⟩) dX2_follow_107 ?_
      refine go_iload_n (k4 := 2) rfl dX2_follow_108 ?_
      obtain ⟨g11, hs⟩ := gO_at hs
      obtain ⟨y10, ey10, hs⟩ := bindS hs
      refine go_V1 (As := [.int x2]) (st := []) g11 rfl rfl (oX9_at (d := d - 1) (by omega) ey10) (by omega) mb_X9_at lm_RX2_65 mi_X9_at (Nat.le_of_ble_eq_true rfl) rfl dX2_follow_109 ?_
      refine go_iload rfl dX2_follow_112 ?_
      refine go_aload_n (k4 := 0) rfl (Or.inr ⟨_, rfl⟩) dX2_follow_114 ?_
      obtain ⟨v12, ev12, hs⟩ := bindS hs
      refine go_gI fl_RX2_9 ev12 dX2_follow_115 ?_
      obtain ⟨y13, ey13, hs⟩ := bindS hs
      refine go_SN1 (As := [.int y4.1, .int v12]) (st := [.long y10]) (oX11_digit (d := d - 1) (by omega) ey13) (by omega) mb_X11_digit lm_RX2_71 ms_X11_digit (Nat.le_of_ble_eq_true rfl) rfl dX2_follow_118 ?_
      refine go_at 121 rfl ?_
      refine go_i2l dX2_follow_121 ?_
      refine go_lcmp dX2_follow_122 ?_
      refine go_if_ne (tgt := 143) (by decide) dX2_follow_123 (fun c => ?_) (fun c => ?_)
      · have hs := if_f c hs
        exact go_subL (L' := [some (.ref x0), some (.ref x1), some (.int x2), some (.int x3), some (.int x4), some (.int x5), none]) (by simp [subL, va_rf]) (oX2_follow_143 hd hrc hs hk)
      · have hs := if_t c hs
        exact go_subL (L' := [some (.ref x0), some (.ref x1), some (.int x2), some (.int x3), some (.int x4), some (.int x5), some (.int y4.1)]) (by simp [subL, va_rf]) (oX2_follow_126 hd hrc hs hk)
theorem oX2_follow_73 {d : Nat} (hd : 4 ≤ d) {rc : Nat → Hp → Nat → Nat → Int32 → Int32 → Int32 → Option Hp} (hrc : ∀ (sel : Nat) (h : Hp) (x0 : Nat) (x1 : Nat) (x2 : Int32) (x3 : Int32) (x4 : Int32) (y : Hp), rc sel h x0 x1 x2 x3 x4 = some y → Call (d - 1) (mgX2_follow sel) [.ref x0, .ref x1, .int x2, .int x3, .int x4] h (none) y) {h : Hp} {x0 : Nat} {x1 : Nat} {x2 : Int32} {x3 : Int32} {x4 : Int32} {x5 : Int32} {rf : Option Value} {hf : Hp} {x : Hp} (hs : fX2_follow_73 rc h x0 x1 x2 x3 x4 x5 = some x) (hk : (kX2_follow rf hf) x) : Go d mX2_follow 73 [some (.ref x0), some (.ref x1), some (.int x2), some (.int x3), some (.int x4), some (.int x5), none] [] h rf hf := by
  unfold fX2_follow_73 at hs
  exact lpw_go (P := pX2_follow_73 d x0 x1 x2 x3 x4 rf hf) (fun s x hs hk => oX2_follow_73b hd hrc hs hk) (x5, h) x hs hk
noncomputable def fX2_follow_32 (rc : Nat → Hp → Nat → Nat → Int32 → Int32 → Int32 → Option Hp) (h : Hp) (x0 : Nat) (x4 : Int32) (s0 : Nat) (s1 : Int32) : Option Hp :=
  (sV h 2 s0 5 (.int s1)).bind fun h16 =>
  (gI h16 2 x0 4).bind fun v17 =>
  (sV h16 2 x0 4 (.int (v17 + (1 : Int32)))).bind fun h18 =>
  (gI h18 2 x0 6).bind fun v19 =>
  (sV h18 2 x0 6 (.int (v19 &&& x4))).bind fun h20 =>
  (gI h20 2 x0 7).bind fun v21 =>
  (sV h20 2 x0 7 (.int (v21 &&& (x4 ^^^ (-1 : Int32))))).bind fun h22 =>
  some (h22)
theorem oX2_follow_32 {d : Nat} (hd : 4 ≤ d) {rc : Nat → Hp → Nat → Nat → Int32 → Int32 → Int32 → Option Hp} (hrc : ∀ (sel : Nat) (h : Hp) (x0 : Nat) (x1 : Nat) (x2 : Int32) (x3 : Int32) (x4 : Int32) (y : Hp), rc sel h x0 x1 x2 x3 x4 = some y → Call (d - 1) (mgX2_follow sel) [.ref x0, .ref x1, .int x2, .int x3, .int x4] h (none) y) {h : Hp} {x0 : Nat} {x4 : Int32} {s0 : Nat} {s1 : Int32} {rf : Option Value} {hf : Hp} {x : Hp} (hs : fX2_follow_32 rc h x0 x4 s0 s1 = some x) (hk : (kX2_follow rf hf) x) : Go d mX2_follow 32 [some (.ref x0), none, none, none, some (.int x4), none, none] [.int s1, .ref s0] h rf hf := by
  unfold fX2_follow_32 at hs
  obtain ⟨h16, eh16, hs⟩ := bindS hs
  refine go_sV fw_RX2_24 eh16 rfl rfl dX2_follow_32 ?_
  refine go_aload_n (k4 := 0) rfl (Or.inr ⟨_, rfl⟩) dX2_follow_35 ?_
  refine go_dup rfl dX2_follow_36 ?_
  obtain ⟨v17, ev17, hs⟩ := bindS hs
  refine go_gI fl_RX2_21 ev17 dX2_follow_37 ?_
  refine go_iconst (v := 1) (by decide) dX2_follow_40 ?_
  refine go_iadd dX2_follow_41 ?_
  obtain ⟨h18, eh18, hs⟩ := bindS hs
  refine go_sV fw_RX2_21 eh18 rfl rfl dX2_follow_42 ?_
  refine go_at 45 rfl ?_
  refine go_aload_n (k4 := 0) rfl (Or.inr ⟨_, rfl⟩) dX2_follow_45 ?_
  refine go_dup rfl dX2_follow_46 ?_
  obtain ⟨v19, ev19, hs⟩ := bindS hs
  refine go_gI fl_RX2_27 ev19 dX2_follow_47 ?_
  refine go_iload rfl dX2_follow_50 ?_
  refine go_iand dX2_follow_52 ?_
  obtain ⟨h20, eh20, hs⟩ := bindS hs
  refine go_sV fw_RX2_27 eh20 rfl rfl dX2_follow_53 ?_
  refine go_aload_n (k4 := 0) rfl (Or.inr ⟨_, rfl⟩) dX2_follow_56 ?_
  refine go_dup rfl dX2_follow_57 ?_
  refine go_at 58 rfl ?_
  obtain ⟨v21, ev21, hs⟩ := bindS hs
  refine go_gI fl_RX2_30 ev21 dX2_follow_58 ?_
  refine go_iload rfl dX2_follow_61 ?_
  refine go_iconst (v := -1) (by decide) dX2_follow_63 ?_
  refine go_ixor dX2_follow_64 ?_
  refine go_iand dX2_follow_65 ?_
  obtain ⟨h22, eh22, hs⟩ := bindS hs
  refine go_sV fw_RX2_30 eh22 rfl rfl dX2_follow_66 ?_
  obtain rfl := Option.some.inj hs
  obtain ⟨rfl, rfl⟩ := hk
  exact go_vret rfl dX2_follow_69
noncomputable def fX2_follow (rc : Nat → Hp → Nat → Nat → Int32 → Int32 → Int32 → Option Hp) (h : Hp) (x0 : Nat) (x1 : Nat) (x2 : Int32) (x3 : Int32) (x4 : Int32) : Option Hp :=
  if x2 ≤ (10 : Int32) then (
    (gI h 9 x1 3).bind fun v1 =>
    if x2 < v1 then (
      fX2_follow_73 rc h x0 x1 x2 x3 x4 (0 : Int32)) else (
      (gI h 2 x0 4).bind fun v14 =>
      if v14 = 0 then (
        fX2_follow_32 rc h x0 x4 x0 x4) else (
        (gI h 2 x0 5).bind fun v15 =>
        fX2_follow_32 rc h x0 x4 x0 v15))) else (
    some (h))
theorem oX2_follow_0 {d : Nat} (hd : 4 ≤ d) {rc : Nat → Hp → Nat → Nat → Int32 → Int32 → Int32 → Option Hp} (hrc : ∀ (sel : Nat) (h : Hp) (x0 : Nat) (x1 : Nat) (x2 : Int32) (x3 : Int32) (x4 : Int32) (y : Hp), rc sel h x0 x1 x2 x3 x4 = some y → Call (d - 1) (mgX2_follow sel) [.ref x0, .ref x1, .int x2, .int x3, .int x4] h (none) y) {h : Hp} {x0 : Nat} {x1 : Nat} {x2 : Int32} {x3 : Int32} {x4 : Int32} {rf : Option Value} {hf : Hp} {x : Hp} (hs : fX2_follow rc h x0 x1 x2 x3 x4 = some x) (hk : (kX2_follow rf hf) x) : Go d mX2_follow 0 [some (.ref x0), some (.ref x1), some (.int x2), some (.int x3), some (.int x4), none, none] [] h rf hf := by
  unfold fX2_follow at hs
  refine go_iload_n (k4 := 2) rfl dX2_follow_0 ?_
  refine go_bipush (v := 10) (by decide) dX2_follow_1 ?_
  refine go_icmp_le (tgt := 7) (by decide) dX2_follow_3 (fun c => ?_) (fun c => ?_)
  · have hs := if_t c hs
    refine go_iload_n (k4 := 2) rfl dX2_follow_7 ?_
    refine go_aload_n (k4 := 1) rfl (Or.inr ⟨_, rfl⟩) dX2_follow_8 ?_
    obtain ⟨v1, ev1, hs⟩ := bindS hs
    refine go_gI fl_RX2_50 ev1 dX2_follow_9 ?_
    refine go_icmp_lt (tgt := 70) (by decide) dX2_follow_12 (fun c => ?_) (fun c => ?_)
    · have hs := if_t c hs
      refine go_iconst (v := 0) (by decide) dX2_follow_70 ?_
      refine go_istore (L' := [some (.ref x0), some (.ref x1), some (.int x2), some (.int x3), some (.int x4), some (.int (0 : Int32)), none]) (by decide) rfl dX2_follow_71 ?_
      exact go_subL (L' := [some (.ref x0), some (.ref x1), some (.int x2), some (.int x3), some (.int x4), some (.int (0 : Int32)), none]) (by simp [subL, va_rf]) (oX2_follow_73 hd hrc hs hk)
    · have hs := if_f c hs
      refine go_aload_n (k4 := 0) rfl (Or.inr ⟨_, rfl⟩) dX2_follow_15 ?_
      refine go_aload_n (k4 := 0) rfl (Or.inr ⟨_, rfl⟩) dX2_follow_16 ?_
      obtain ⟨v14, ev14, hs⟩ := bindS hs
      refine go_gI fl_RX2_21 ev14 dX2_follow_17 ?_
      refine go_if_ne (tgt := 28) (by decide) dX2_follow_20 (fun c => ?_) (fun c => ?_)
      · have hs := if_f c hs
        refine go_aload_n (k4 := 0) rfl (Or.inr ⟨_, rfl⟩) dX2_follow_28 ?_
        obtain ⟨v15, ev15, hs⟩ := bindS hs
        refine go_gI fl_RX2_24 ev15 dX2_follow_29 ?_
        exact go_subL (L' := [some (.ref x0), none, none, none, some (.int x4), none, none]) (by simp [subL, va_rf]) (oX2_follow_32 hd hrc hs hk)
      · have hs := if_t c hs
        refine go_iload rfl dX2_follow_23 ?_
        refine go_goto (tgt := 32) (by decide) dX2_follow_25 ?_
        exact go_subL (L' := [some (.ref x0), none, none, none, some (.int x4), none, none]) (by simp [subL, va_rf]) (oX2_follow_32 hd hrc hs hk)
  · have hs := if_f c hs
    obtain rfl := Option.some.inj hs
    obtain ⟨rfl, rfl⟩ := hk
    exact go_vret rfl dX2_follow_6
theorem oX2_follow {d : Nat} (hd : 4 ≤ d) {rc : Nat → Hp → Nat → Nat → Int32 → Int32 → Int32 → Option Hp} (hrc : ∀ (sel : Nat) (h : Hp) (x0 : Nat) (x1 : Nat) (x2 : Int32) (x3 : Int32) (x4 : Int32) (y : Hp), rc sel h x0 x1 x2 x3 x4 = some y → Call (d - 1) (mgX2_follow sel) [.ref x0, .ref x1, .int x2, .int x3, .int x4] h (none) y) {h : Hp} {x0 : Nat} {x1 : Nat} {x2 : Int32} {x3 : Int32} {x4 : Int32} {y : Hp} (hs : fX2_follow rc h x0 x1 x2 x3 x4 = some y) : Call d mX2_follow [.ref x0, .ref x1, .int x2, .int x3, .int x4] h (none) y := call_of (by decide +kernel) (Nat.le_of_ble_eq_true rfl) (show Go d mX2_follow 0 [some (.ref x0), some (.ref x1), some (.int x2), some (.int x3), some (.int x4), none, none] [] h _ _ from go_subL (by simp [subL]) (oX2_follow_0 hd hrc hs ⟨rfl, rfl⟩))
noncomputable def rX2_follow : Nat → Nat → Hp → Nat → Nat → Int32 → Int32 → Int32 → Option Hp
  | 0, _, _, _, _, _, _, _ => none
  | n + 1, sel, h, x0, x1, x2, x3, x4 => fX2_follow (rX2_follow n) h x0 x1 x2 x3 x4
theorem orX2_follow : ∀ (n d : Nat) (_ : 4 + n ≤ d) (sel : Nat) (h : Hp) (x0 : Nat) (x1 : Nat) (x2 : Int32) (x3 : Int32) (x4 : Int32) (y : Hp), rX2_follow n sel h x0 x1 x2 x3 x4 = some y → Call d (mgX2_follow sel) [.ref x0, .ref x1, .int x2, .int x3, .int x4] h (none) y
  | 0, d, hd, sel, h, x0, x1, x2, x3, x4, y, hs => by simp [rX2_follow] at hs
  | n + 1, d, hd, sel, h, x0, x1, x2, x3, x4, y, hs => by
    have ih := orX2_follow n (d - 1) (by omega)
    simp only [rX2_follow] at hs
    exact oX2_follow (by omega) ih hs
abbrev kX2_trace (rf : Option Value) (hf : Hp) : Hp → Prop := fun y => rf = none ∧ hf = y
noncomputable def fX2_trace (h : Hp) (x0 : Nat) (x1 : Nat) (x2 : Int32) (x3 : Int32) (x4 : Int32) : Option Hp :=
  (sV h 2 x0 1 (.int x2)).bind fun h1 =>
  (sV h1 2 x0 2 (.int x4)).bind fun h2 =>
  (sV h2 2 x0 4 (.int (0 : Int32))).bind fun h3 =>
  (sV h3 2 x0 5 (.int (0 : Int32))).bind fun h4 =>
  (gI h4 9 x1 3).bind fun v5 =>
  (sV h4 2 x0 6 (.int (((1 : Int32) <<< (v5 &&& 31)) - (1 : Int32)))).bind fun h6 =>
  (gI h6 2 x0 6).bind fun v7 =>
  (sV h6 2 x0 7 (.int v7)).bind fun h8 =>
  gO h8 2 x0 (
  (rX2_follow 100 0 h8 x0 x1 (0 : Int32) x3 (0 : Int32)).bind fun y9 =>
  some (y9))
theorem oX2_trace_0 {d : Nat} (hd : 105 ≤ d) {h : Hp} {x0 : Nat} {x1 : Nat} {x2 : Int32} {x3 : Int32} {x4 : Int32} {rf : Option Value} {hf : Hp} {x : Hp} (hs : fX2_trace h x0 x1 x2 x3 x4 = some x) (hk : (kX2_trace rf hf) x) : Go d mX2_trace 0 [some (.ref x0), some (.ref x1), some (.int x2), some (.int x3), some (.int x4)] [] h rf hf := by
  unfold fX2_trace at hs
  refine go_aload_n (k4 := 0) rfl (Or.inr ⟨_, rfl⟩) dX2_trace_0 ?_
  refine go_iload_n (k4 := 2) rfl dX2_trace_1 ?_
  obtain ⟨h1, eh1, hs⟩ := bindS hs
  refine go_sV fw_RX2_9 eh1 rfl rfl dX2_trace_2 ?_
  refine go_aload_n (k4 := 0) rfl (Or.inr ⟨_, rfl⟩) dX2_trace_5 ?_
  refine go_iload rfl dX2_trace_6 ?_
  obtain ⟨h2, eh2, hs⟩ := bindS hs
  refine go_sV fw_RX2_15 eh2 rfl rfl dX2_trace_8 ?_
  refine go_aload_n (k4 := 0) rfl (Or.inr ⟨_, rfl⟩) dX2_trace_11 ?_
  refine go_at 12 rfl ?_
  refine go_iconst (v := 0) (by decide) dX2_trace_12 ?_
  obtain ⟨h3, eh3, hs⟩ := bindS hs
  refine go_sV fw_RX2_21 eh3 rfl rfl dX2_trace_13 ?_
  refine go_aload_n (k4 := 0) rfl (Or.inr ⟨_, rfl⟩) dX2_trace_16 ?_
  refine go_iconst (v := 0) (by decide) dX2_trace_17 ?_
  obtain ⟨h4, eh4, hs⟩ := bindS hs
  refine go_sV fw_RX2_24 eh4 rfl rfl dX2_trace_18 ?_
  refine go_aload_n (k4 := 0) rfl (Or.inr ⟨_, rfl⟩) dX2_trace_21 ?_
  refine go_iconst (v := 1) (by decide) dX2_trace_22 ?_
  refine go_aload_n (k4 := 1) rfl (Or.inr ⟨_, rfl⟩) dX2_trace_23 ?_
  refine go_at 24 rfl ?_
  obtain ⟨v5, ev5, hs⟩ := bindS hs
  refine go_gI fl_RX2_50 ev5 dX2_trace_24 ?_
  refine go_ishl dX2_trace_27 ?_
  refine go_iconst (v := 1) (by decide) dX2_trace_28 ?_
  refine go_isub dX2_trace_29 ?_
  obtain ⟨h6, eh6, hs⟩ := bindS hs
  refine go_sV fw_RX2_27 eh6 rfl rfl dX2_trace_30 ?_
  refine go_aload_n (k4 := 0) rfl (Or.inr ⟨_, rfl⟩) dX2_trace_33 ?_
  refine go_aload_n (k4 := 0) rfl (Or.inr ⟨_, rfl⟩) dX2_trace_34 ?_
  obtain ⟨v7, ev7, hs⟩ := bindS hs
  refine go_gI fl_RX2_27 ev7 dX2_trace_35 ?_
  refine go_at 38 rfl ?_
  obtain ⟨h8, eh8, hs⟩ := bindS hs
  refine go_sV fw_RX2_30 eh8 rfl rfl dX2_trace_38 ?_
  refine go_aload_n (k4 := 0) rfl (Or.inr ⟨_, rfl⟩) dX2_trace_41 ?_
  refine go_aload_n (k4 := 1) rfl (Or.inr ⟨_, rfl⟩) dX2_trace_42 ?_
  refine go_iconst (v := 0) (by decide) dX2_trace_43 ?_
  refine go_iload_n (k4 := 3) rfl dX2_trace_44 ?_
  refine go_iconst (v := 0) (by decide) dX2_trace_45 ?_
  obtain ⟨g10, hs⟩ := gO_at hs
  obtain ⟨y9, ey9, hs⟩ := bindS hs
  refine go_V0 (As := [.ref x1, .int (0 : Int32), .int x3, .int (0 : Int32)]) (st := []) g10 rfl rfl (show Call (d - 1) mX2_follow _ _ _ _ from orX2_follow 100 (d - 1) (by omega) 0 h8 x0 x1 (0 : Int32) x3 (0 : Int32) _ ey9) (by omega) mb_X2_follow lm_RX2_55 mi_X2_follow (Nat.le_of_ble_eq_true rfl) rfl dX2_trace_46 ?_
  obtain rfl := Option.some.inj hs
  obtain ⟨rfl, rfl⟩ := hk
  exact go_vret rfl dX2_trace_49
theorem oX2_trace {d : Nat} (hd : 105 ≤ d) {h : Hp} {x0 : Nat} {x1 : Nat} {x2 : Int32} {x3 : Int32} {x4 : Int32} {y : Hp} (hs : fX2_trace h x0 x1 x2 x3 x4 = some y) : Call d mX2_trace [.ref x0, .ref x1, .int x2, .int x3, .int x4] h (none) y := call_of (by decide +kernel) (Nat.le_of_ble_eq_true rfl) (show Go d mX2_trace 0 [some (.ref x0), some (.ref x1), some (.int x2), some (.int x3), some (.int x4)] [] h _ _ from go_subL (by simp [subL]) (oX2_trace_0 hd hs ⟨rfl, rfl⟩))
abbrev kX11_traceSeen (rf : Option Value) (hf : Hp) : Hp → Prop := fun y => rf = none ∧ hf = y
noncomputable def fX11_traceSeen (h : Hp) (x0 : Nat) (x1 : Int32) (x2 : Int32) : Option Hp :=
  gO h 11 x0 (
  (fX11_tuned h x0).bind fun y1 =>
  (gN y1.2 11 x0 13).bind fun v3 =>
  (gN y1.2 11 x0 8).bind fun v4 =>
  (aN y1.2 v4 x1).bind fun v5 =>
  (gN y1.2 11 x0 4).bind fun v6 =>
  (gI y1.2 8 v6 0).bind fun v7 =>
  (gN y1.2 11 x0 4).bind fun v8 =>
  (gI y1.2 8 v8 2).bind fun v9 =>
  gO y1.2 2 v3 (
  (fX2_trace y1.2 v3 v5 x2 v7 v9).bind fun y10 =>
  some (y10)))
theorem oX11_traceSeen_0 {d : Nat} (hd : 106 ≤ d) {h : Hp} {x0 : Nat} {x1 : Int32} {x2 : Int32} {rf : Option Value} {hf : Hp} {x : Hp} (hs : fX11_traceSeen h x0 x1 x2 = some x) (hk : (kX11_traceSeen rf hf) x) : Go d mX11_traceSeen 0 [some (.ref x0), some (.int x1), some (.int x2)] [] h rf hf := by
  unfold fX11_traceSeen at hs
  refine go_aload_n (k4 := 0) rfl (Or.inr ⟨_, rfl⟩) dX11_traceSeen_0 ?_
  obtain ⟨g2, hs⟩ := gO_at hs
  obtain ⟨y1, ey1, hs⟩ := bindS hs
  refine go_V1 (As := []) (st := []) g2 rfl rfl (oX11_tuned (d := d - 1) (by omega) ey1) (by omega) mb_X11_tuned lm_RX11_166 mi_X11_tuned (Nat.le_of_ble_eq_true rfl) rfl dX11_traceSeen_1 ?_
  refine go_pop rfl dX11_traceSeen_4 ?_
  refine go_aload_n (k4 := 0) rfl (Or.inr ⟨_, rfl⟩) dX11_traceSeen_5 ?_
  obtain ⟨v3, ev3, hs⟩ := bindS hs
  refine go_gN fl_RX11_88 ev3 dX11_traceSeen_6 ?_
  refine go_aload_n (k4 := 0) rfl (Or.inr ⟨_, rfl⟩) dX11_traceSeen_9 ?_
  obtain ⟨v4, ev4, hs⟩ := bindS hs
  refine go_gN fl_RX11_55 ev4 dX11_traceSeen_10 ?_
  refine go_at 13 rfl ?_
  refine go_iload_n (k4 := 1) rfl dX11_traceSeen_13 ?_
  obtain ⟨v5, ev5, hs⟩ := bindS hs
  refine go_aN ev5 dX11_traceSeen_14 ?_
  refine go_iload_n (k4 := 2) rfl dX11_traceSeen_15 ?_
  refine go_aload_n (k4 := 0) rfl (Or.inr ⟨_, rfl⟩) dX11_traceSeen_16 ?_
  obtain ⟨v6, ev6, hs⟩ := bindS hs
  refine go_gN fl_RX11_36 ev6 dX11_traceSeen_17 ?_
  obtain ⟨v7, ev7, hs⟩ := bindS hs
  refine go_gI fl_RX11_142 ev7 dX11_traceSeen_20 ?_
  refine go_aload_n (k4 := 0) rfl (Or.inr ⟨_, rfl⟩) dX11_traceSeen_23 ?_
  obtain ⟨v8, ev8, hs⟩ := bindS hs
  refine go_gN fl_RX11_36 ev8 dX11_traceSeen_24 ?_
  refine go_at 27 rfl ?_
  obtain ⟨v9, ev9, hs⟩ := bindS hs
  refine go_gI fl_RX11_152 ev9 dX11_traceSeen_27 ?_
  obtain ⟨g11, hs⟩ := gO_at hs
  obtain ⟨y10, ey10, hs⟩ := bindS hs
  refine go_V0 (As := [.ref v5, .int x2, .int v7, .int v9]) (st := []) g11 rfl rfl (oX2_trace (d := d - 1) (by omega) ey10) (by omega) mb_X2_trace lm_RX11_354 mi_X2_trace (Nat.le_of_ble_eq_true rfl) rfl dX11_traceSeen_30 ?_
  obtain rfl := Option.some.inj hs
  obtain ⟨rfl, rfl⟩ := hk
  exact go_vret rfl dX11_traceSeen_33
theorem oX11_traceSeen {d : Nat} (hd : 106 ≤ d) {h : Hp} {x0 : Nat} {x1 : Int32} {x2 : Int32} {y : Hp} (hs : fX11_traceSeen h x0 x1 x2 = some y) : Call d mX11_traceSeen [.ref x0, .int x1, .int x2] h (none) y := call_of (by decide +kernel) (Nat.le_of_ble_eq_true rfl) (show Go d mX11_traceSeen 0 [some (.ref x0), some (.int x1), some (.int x2)] [] h _ _ from go_subL (by simp [subL]) (oX11_traceSeen_0 hd hs ⟨rfl, rfl⟩))
abbrev kX11_seen (rf : Option Value) (hf : Hp) : (Int32 × Hp) → Prop := fun y => rf = some (.int y.1) ∧ hf = y.2
noncomputable def fX11_seen (h : Hp) (x0 : Nat) (x1 : Int32) (x2 : Int32) : Option (Int32 × Hp) :=
  gO h 11 x0 (
  (fX11_seenRefusal h x0 x1 x2).bind fun y1 =>
  if y1 = 0 then (
    gO h 11 x0 (
    (fX11_traceSeen h x0 x1 x2).bind fun y3 =>
    (gN y3 11 x0 13).bind fun v5 =>
    (gI y3 2 v5 4).bind fun v6 =>
    some ((v6, y3)))) else (
    some ((y1, h))))
theorem oX11_seen_0 {d : Nat} (hd : 107 ≤ d) {h : Hp} {x0 : Nat} {x1 : Int32} {x2 : Int32} {rf : Option Value} {hf : Hp} {x : (Int32 × Hp)} (hs : fX11_seen h x0 x1 x2 = some x) (hk : (kX11_seen rf hf) x) : Go d mX11_seen 0 [some (.ref x0), some (.int x1), some (.int x2), none] [] h rf hf := by
  unfold fX11_seen at hs
  refine go_aload_n (k4 := 0) rfl (Or.inr ⟨_, rfl⟩) dX11_seen_0 ?_
  refine go_iload_n (k4 := 1) rfl dX11_seen_1 ?_
  refine go_iload_n (k4 := 2) rfl dX11_seen_2 ?_
  obtain ⟨g2, hs⟩ := gO_at hs
  obtain ⟨y1, ey1, hs⟩ := bindS hs
  refine go_V1 (As := [.int x1, .int x2]) (st := []) g2 rfl rfl (oX11_seenRefusal (d := d - 1) (by omega) ey1) (by omega) mb_X11_seenRefusal lm_RX11_325 mi_X11_seenRefusal (Nat.le_of_ble_eq_true rfl) rfl dX11_seen_3 ?_
  refine go_istore_n (k4 := 3) (L' := [some (.ref x0), some (.int x1), some (.int x2), some (.int y1)]) (by decide) rfl dX11_seen_6 ?_
  refine go_iload_n (k4 := 3) rfl dX11_seen_7 ?_
  refine go_if_eq (tgt := 13) (by decide) dX11_seen_8 (fun c => ?_) (fun c => ?_)
  · have hs := if_t c hs
    refine go_aload_n (k4 := 0) rfl (Or.inr ⟨_, rfl⟩) dX11_seen_13 ?_
    refine go_iload_n (k4 := 1) rfl dX11_seen_14 ?_
    refine go_iload_n (k4 := 2) rfl dX11_seen_15 ?_
    obtain ⟨g4, hs⟩ := gO_at hs
    obtain ⟨y3, ey3, hs⟩ := bindS hs
    refine go_V0 (As := [.int x1, .int x2]) (st := []) g4 rfl rfl (oX11_traceSeen (d := d - 1) (by omega) ey3) (by omega) mb_X11_traceSeen lm_RX11_328 mi_X11_traceSeen (Nat.le_of_ble_eq_true rfl) rfl dX11_seen_16 ?_
    refine go_aload_n (k4 := 0) rfl (Or.inr ⟨_, rfl⟩) dX11_seen_19 ?_
    obtain ⟨v5, ev5, hs⟩ := bindS hs
    refine go_gN fl_RX11_88 ev5 dX11_seen_20 ?_
    obtain ⟨v6, ev6, hs⟩ := bindS hs
    refine go_gI fl_RX11_332 ev6 dX11_seen_23 ?_
    refine go_at 26 rfl ?_
    obtain rfl := Option.some.inj hs
    obtain ⟨rfl, rfl⟩ := hk
    exact go_iret rfl dX11_seen_26
  · have hs := if_f c hs
    refine go_iload_n (k4 := 3) rfl dX11_seen_11 ?_
    obtain rfl := Option.some.inj hs
    obtain ⟨rfl, rfl⟩ := hk
    exact go_iret rfl dX11_seen_12
theorem oX11_seen {d : Nat} (hd : 107 ≤ d) {h : Hp} {x0 : Nat} {x1 : Int32} {x2 : Int32} {y : (Int32 × Hp)} (hs : fX11_seen h x0 x1 x2 = some y) : Call d mX11_seen [.ref x0, .int x1, .int x2] h (some (.int y.1)) (y.2) := call_of (by decide +kernel) (Nat.le_of_ble_eq_true rfl) (show Go d mX11_seen 0 [some (.ref x0), some (.int x1), some (.int x2), none] [] h _ _ from go_subL (by simp [subL]) (oX11_seen_0 hd hs ⟨rfl, rfl⟩))
abbrev kX11_seenDry (rf : Option Value) (hf : Hp) : (Int32 × Hp) → Prop := fun y => rf = some (.int y.1) ∧ hf = y.2
noncomputable def fX11_seenDry_52 (h : Hp)  : Option (Int32 × Hp) :=
  some (((-1 : Int32), h))
theorem oX11_seenDry_52 {d : Nat} (hd : 107 ≤ d) {h : Hp} {rf : Option Value} {hf : Hp} {x : (Int32 × Hp)} (hs : fX11_seenDry_52 h  = some x) (hk : (kX11_seenDry rf hf) x) : Go d mX11_seenDry 52 [none, none, none, none, none] [] h rf hf := by
  unfold fX11_seenDry_52 at hs
  refine go_iconst (v := -1) (by decide) dX11_seenDry_52 ?_
  obtain rfl := Option.some.inj hs
  obtain ⟨rfl, rfl⟩ := hk
  exact go_iret rfl dX11_seenDry_53
noncomputable def fX11_seenDry (h : Hp) (x0 : Nat) (x1 : Int32) (x2 : Int32) (x3 : Int32) : Option (Int32 × Hp) :=
  gO h 11 x0 (
  (fX11_seenRefusal h x0 x1 x2).bind fun y1 =>
  if y1 = 0 then (
    if 0 ≤ x3 then (
      gO h 11 x0 (
      (fX11_traceSeen h x0 x1 x2).bind fun y3 =>
      (gN y3 11 x0 13).bind fun v5 =>
      (gI y3 2 v5 4).bind fun v6 =>
      if v6 = 0 then (
      fX11_seenDry_52 y3 ) else (
        (gN y3 11 x0 8).bind fun v7 =>
        (aN y3 v7 x1).bind fun v8 =>
        (gI y3 9 v8 3).bind fun v9 =>
        if x3 < v9 then (
          (gN y3 11 x0 13).bind fun v10 =>
          (gI y3 2 v10 5).bind fun v11 =>
          some ((((v11 >>> (x3 &&& 31)) &&& (1 : Int32)), y3))) else (
        fX11_seenDry_52 y3 )))) else (
      some (((-3 : Int32), h)))) else (
    some ((y1, h))))
theorem oX11_seenDry_0 {d : Nat} (hd : 107 ≤ d) {h : Hp} {x0 : Nat} {x1 : Int32} {x2 : Int32} {x3 : Int32} {rf : Option Value} {hf : Hp} {x : (Int32 × Hp)} (hs : fX11_seenDry h x0 x1 x2 x3 = some x) (hk : (kX11_seenDry rf hf) x) : Go d mX11_seenDry 0 [some (.ref x0), some (.int x1), some (.int x2), some (.int x3), none] [] h rf hf := by
  unfold fX11_seenDry at hs
  refine go_aload_n (k4 := 0) rfl (Or.inr ⟨_, rfl⟩) dX11_seenDry_0 ?_
  refine go_iload_n (k4 := 1) rfl dX11_seenDry_1 ?_
  refine go_iload_n (k4 := 2) rfl dX11_seenDry_2 ?_
  obtain ⟨g2, hs⟩ := gO_at hs
  obtain ⟨y1, ey1, hs⟩ := bindS hs
  refine go_V1 (As := [.int x1, .int x2]) (st := []) g2 rfl rfl (oX11_seenRefusal (d := d - 1) (by omega) ey1) (by omega) mb_X11_seenRefusal lm_RX11_325 mi_X11_seenRefusal (Nat.le_of_ble_eq_true rfl) rfl dX11_seenDry_3 ?_
  refine go_istore (L' := [some (.ref x0), some (.int x1), some (.int x2), some (.int x3), some (.int y1)]) (by decide) rfl dX11_seenDry_6 ?_
  refine go_iload rfl dX11_seenDry_8 ?_
  refine go_if_eq (tgt := 16) (by decide) dX11_seenDry_10 (fun c => ?_) (fun c => ?_)
  · have hs := if_t c hs
    refine go_iload_n (k4 := 3) rfl dX11_seenDry_16 ?_
    refine go_if_ge (tgt := 23) (by decide) dX11_seenDry_17 (fun c => ?_) (fun c => ?_)
    · have hs := if_t c hs
      refine go_aload_n (k4 := 0) rfl (Or.inr ⟨_, rfl⟩) dX11_seenDry_23 ?_
      refine go_iload_n (k4 := 1) rfl dX11_seenDry_24 ?_
      refine go_iload_n (k4 := 2) rfl dX11_seenDry_25 ?_
      obtain ⟨g4, hs⟩ := gO_at hs
      obtain ⟨y3, ey3, hs⟩ := bindS hs
      refine go_V0 (As := [.int x1, .int x2]) (st := []) g4 rfl rfl (oX11_traceSeen (d := d - 1) (by omega) ey3) (by omega) mb_X11_traceSeen lm_RX11_328 mi_X11_traceSeen (Nat.le_of_ble_eq_true rfl) rfl dX11_seenDry_26 ?_
      refine go_aload_n (k4 := 0) rfl (Or.inr ⟨_, rfl⟩) dX11_seenDry_29 ?_
      obtain ⟨v5, ev5, hs⟩ := bindS hs
      refine go_gN fl_RX11_88 ev5 dX11_seenDry_30 ?_
      obtain ⟨v6, ev6, hs⟩ := bindS hs
      refine go_gI fl_RX11_332 ev6 dX11_seenDry_33 ?_
      refine go_at 36 rfl ?_
      refine go_if_eq (tgt := 52) (by decide) dX11_seenDry_36 (fun c => ?_) (fun c => ?_)
      · have hs := if_t c hs
        exact go_subL (L' := [none, none, none, none, none]) (by simp [subL, va_rf]) (oX11_seenDry_52 hd hs hk)
      · have hs := if_f c hs
        refine go_iload_n (k4 := 3) rfl dX11_seenDry_39 ?_
        refine go_aload_n (k4 := 0) rfl (Or.inr ⟨_, rfl⟩) dX11_seenDry_40 ?_
        obtain ⟨v7, ev7, hs⟩ := bindS hs
        refine go_gN fl_RX11_55 ev7 dX11_seenDry_41 ?_
        refine go_iload_n (k4 := 1) rfl dX11_seenDry_44 ?_
        obtain ⟨v8, ev8, hs⟩ := bindS hs
        refine go_aN ev8 dX11_seenDry_45 ?_
        obtain ⟨v9, ev9, hs⟩ := bindS hs
        refine go_gI fl_RX11_222 ev9 dX11_seenDry_46 ?_
        refine go_icmp_lt (tgt := 54) (by decide) dX11_seenDry_49 (fun c => ?_) (fun c => ?_)
        · have hs := if_t c hs
          refine go_aload_n (k4 := 0) rfl (Or.inr ⟨_, rfl⟩) dX11_seenDry_54 ?_
          obtain ⟨v10, ev10, hs⟩ := bindS hs
          refine go_gN fl_RX11_88 ev10 dX11_seenDry_55 ?_
          obtain ⟨v11, ev11, hs⟩ := bindS hs
          refine go_gI fl_RX11_335 ev11 dX11_seenDry_58 ?_
          refine go_iload_n (k4 := 3) rfl dX11_seenDry_61 ?_
          refine go_ishr dX11_seenDry_62 ?_
          refine go_iconst (v := 1) (by decide) dX11_seenDry_63 ?_
          refine go_iand dX11_seenDry_64 ?_
          refine go_at 65 rfl ?_
          obtain rfl := Option.some.inj hs
          obtain ⟨rfl, rfl⟩ := hk
          exact go_iret rfl dX11_seenDry_65
        · have hs := if_f c hs
          exact go_subL (L' := [none, none, none, none, none]) (by simp [subL, va_rf]) (oX11_seenDry_52 hd hs hk)
    · have hs := if_f c hs
      refine go_bipush (v := -3) (by decide) dX11_seenDry_20 ?_
      obtain rfl := Option.some.inj hs
      obtain ⟨rfl, rfl⟩ := hk
      exact go_iret rfl dX11_seenDry_22
  · have hs := if_f c hs
    refine go_iload rfl dX11_seenDry_13 ?_
    obtain rfl := Option.some.inj hs
    obtain ⟨rfl, rfl⟩ := hk
    exact go_iret rfl dX11_seenDry_15
theorem oX11_seenDry {d : Nat} (hd : 107 ≤ d) {h : Hp} {x0 : Nat} {x1 : Int32} {x2 : Int32} {x3 : Int32} {y : (Int32 × Hp)} (hs : fX11_seenDry h x0 x1 x2 x3 = some y) : Call d mX11_seenDry [.ref x0, .int x1, .int x2, .int x3] h (some (.int y.1)) (y.2) := call_of (by decide +kernel) (Nat.le_of_ble_eq_true rfl) (show Go d mX11_seenDry 0 [some (.ref x0), some (.int x1), some (.int x2), some (.int x3), none] [] h _ _ from go_subL (by simp [subL]) (oX11_seenDry_0 hd hs ⟨rfl, rfl⟩))
abbrev kX11_surely (rf : Option Value) (hf : Hp) : (Int32 × Hp) → Prop := fun y => rf = some (.int y.1) ∧ hf = y.2
noncomputable def fX11_surely_66 (h : Hp) (s0 : Int32) : Option (Int32 × Hp) :=
  some ((s0, h))
theorem oX11_surely_66 {d : Nat} (hd : 107 ≤ d) {h : Hp} {s0 : Int32} {rf : Option Value} {hf : Hp} {x : (Int32 × Hp)} (hs : fX11_surely_66 h s0 = some x) (hk : (kX11_surely rf hf) x) : Go d mX11_surely 66 [none, none, none, none, none] [.int s0] h rf hf := by
  unfold fX11_surely_66 at hs
  obtain rfl := Option.some.inj hs
  obtain ⟨rfl, rfl⟩ := hk
  exact go_iret rfl dX11_surely_66
noncomputable def fX11_surely (h : Hp) (x0 : Nat) (x1 : Int32) (x2 : Int32) (x3 : Int32) : Option (Int32 × Hp) :=
  (fX11_isDryness h x3).bind fun y1 =>
  if y1 = 0 then (
    some (((-2 : Int32), h))) else (
    gO h 11 x0 (
    (fX11_seenRefusal h x0 x1 x2).bind fun y2 =>
    if y2 = 0 then (
      gO h 11 x0 (
      (fX11_traceSeen h x0 x1 x2).bind fun y4 =>
      (gN y4 11 x0 13).bind fun v6 =>
      (gI y4 2 v6 4).bind fun v7 =>
      if v7 = 0 then (
        some (((0 : Int32), y4))) else (
        if x3 = (1 : Int32) then (
          (gN y4 11 x0 13).bind fun v10 =>
          (gI y4 2 v10 6).bind fun v11 =>
          fX11_surely_66 y4 v11) else (
          (gN y4 11 x0 13).bind fun v8 =>
          (gI y4 2 v8 7).bind fun v9 =>
          fX11_surely_66 y4 v9)))) else (
      some ((y2, h)))))
theorem oX11_surely_0 {d : Nat} (hd : 107 ≤ d) {h : Hp} {x0 : Nat} {x1 : Int32} {x2 : Int32} {x3 : Int32} {rf : Option Value} {hf : Hp} {x : (Int32 × Hp)} (hs : fX11_surely h x0 x1 x2 x3 = some x) (hk : (kX11_surely rf hf) x) : Go d mX11_surely 0 [some (.ref x0), some (.int x1), some (.int x2), some (.int x3), none] [] h rf hf := by
  unfold fX11_surely at hs
  refine go_iload_n (k4 := 3) rfl dX11_surely_0 ?_
  obtain ⟨y1, ey1, hs⟩ := bindS hs
  refine go_S1 (As := [.int x3]) (st := []) (oX11_isDryness (d := d - 1) (by omega) ey1) (by omega) mb_X11_isDryness lm_RX11_162 ms_X11_isDryness (Nat.le_of_ble_eq_true rfl) rfl dX11_surely_1 ?_
  refine go_if_ne (tgt := 10) (by decide) dX11_surely_4 (fun c => ?_) (fun c => ?_)
  · have hs := if_f c hs
    refine go_aload_n (k4 := 0) rfl (Or.inr ⟨_, rfl⟩) dX11_surely_10 ?_
    refine go_iload_n (k4 := 1) rfl dX11_surely_11 ?_
    refine go_iload_n (k4 := 2) rfl dX11_surely_12 ?_
    obtain ⟨g3, hs⟩ := gO_at hs
    obtain ⟨y2, ey2, hs⟩ := bindS hs
    refine go_V1 (As := [.int x1, .int x2]) (st := []) g3 rfl rfl (oX11_seenRefusal (d := d - 1) (by omega) ey2) (by omega) mb_X11_seenRefusal lm_RX11_325 mi_X11_seenRefusal (Nat.le_of_ble_eq_true rfl) rfl dX11_surely_13 ?_
    refine go_istore (L' := [some (.ref x0), some (.int x1), some (.int x2), some (.int x3), some (.int y2)]) (by decide) rfl dX11_surely_16 ?_
    refine go_iload rfl dX11_surely_18 ?_
    refine go_if_eq (tgt := 26) (by decide) dX11_surely_20 (fun c => ?_) (fun c => ?_)
    · have hs := if_t c hs
      refine go_aload_n (k4 := 0) rfl (Or.inr ⟨_, rfl⟩) dX11_surely_26 ?_
      refine go_iload_n (k4 := 1) rfl dX11_surely_27 ?_
      refine go_iload_n (k4 := 2) rfl dX11_surely_28 ?_
      obtain ⟨g5, hs⟩ := gO_at hs
      obtain ⟨y4, ey4, hs⟩ := bindS hs
      refine go_V0 (As := [.int x1, .int x2]) (st := []) g5 rfl rfl (oX11_traceSeen (d := d - 1) (by omega) ey4) (by omega) mb_X11_traceSeen lm_RX11_328 mi_X11_traceSeen (Nat.le_of_ble_eq_true rfl) rfl dX11_surely_29 ?_
      refine go_aload_n (k4 := 0) rfl (Or.inr ⟨_, rfl⟩) dX11_surely_32 ?_
      obtain ⟨v6, ev6, hs⟩ := bindS hs
      refine go_gN fl_RX11_88 ev6 dX11_surely_33 ?_
      obtain ⟨v7, ev7, hs⟩ := bindS hs
      refine go_gI fl_RX11_332 ev7 dX11_surely_36 ?_
      refine go_at 39 rfl ?_
      refine go_if_ne (tgt := 44) (by decide) dX11_surely_39 (fun c => ?_) (fun c => ?_)
      · have hs := if_f c hs
        refine go_iload_n (k4 := 3) rfl dX11_surely_44 ?_
        refine go_iconst (v := 1) (by decide) dX11_surely_45 ?_
        refine go_icmp_ne (tgt := 59) (by decide) dX11_surely_46 (fun c => ?_) (fun c => ?_)
        · have hs := if_f c hs
          refine go_aload_n (k4 := 0) rfl (Or.inr ⟨_, rfl⟩) dX11_surely_59 ?_
          obtain ⟨v8, ev8, hs⟩ := bindS hs
          refine go_gN fl_RX11_88 ev8 dX11_surely_60 ?_
          obtain ⟨v9, ev9, hs⟩ := bindS hs
          refine go_gI fl_RX11_341 ev9 dX11_surely_63 ?_
          exact go_subL (L' := [none, none, none, none, none]) (by simp [subL, va_rf]) (oX11_surely_66 hd hs hk)
        · have hs := if_t c hs
          refine go_aload_n (k4 := 0) rfl (Or.inr ⟨_, rfl⟩) dX11_surely_49 ?_
          obtain ⟨v10, ev10, hs⟩ := bindS hs
          refine go_gN fl_RX11_88 ev10 dX11_surely_50 ?_
          obtain ⟨v11, ev11, hs⟩ := bindS hs
          refine go_gI fl_RX11_338 ev11 dX11_surely_53 ?_
          refine go_goto (tgt := 66) (by decide) dX11_surely_56 ?_
          exact go_subL (L' := [none, none, none, none, none]) (by simp [subL, va_rf]) (oX11_surely_66 hd hs hk)
      · have hs := if_t c hs
        refine go_iconst (v := 0) (by decide) dX11_surely_42 ?_
        obtain rfl := Option.some.inj hs
        obtain ⟨rfl, rfl⟩ := hk
        exact go_iret rfl dX11_surely_43
    · have hs := if_f c hs
      refine go_iload rfl dX11_surely_23 ?_
      obtain rfl := Option.some.inj hs
      obtain ⟨rfl, rfl⟩ := hk
      exact go_iret rfl dX11_surely_25
  · have hs := if_t c hs
    refine go_bipush (v := -2) (by decide) dX11_surely_7 ?_
    obtain rfl := Option.some.inj hs
    obtain ⟨rfl, rfl⟩ := hk
    exact go_iret rfl dX11_surely_9
theorem oX11_surely {d : Nat} (hd : 107 ≤ d) {h : Hp} {x0 : Nat} {x1 : Int32} {x2 : Int32} {x3 : Int32} {y : (Int32 × Hp)} (hs : fX11_surely h x0 x1 x2 x3 = some y) : Call d mX11_surely [.ref x0, .int x1, .int x2, .int x3] h (some (.int y.1)) (y.2) := call_of (by decide +kernel) (Nat.le_of_ble_eq_true rfl) (show Go d mX11_surely 0 [some (.ref x0), some (.int x1), some (.int x2), some (.int x3), none] [] h _ _ from go_subL (by simp [subL]) (oX11_surely_0 hd hs ⟨rfl, rfl⟩))
abbrev kX10_isSeenSo (rf : Option Value) (hf : Hp) : (Int32 × Hp) → Prop := fun y => rf = some (.int y.1) ∧ hf = y.2
abbrev pX10_isSeenSo_6 (d : Nat) (x0 : Nat) (x1 : Nat) (x2 : Int32) (x4 : Int32) (rf : Option Value) (hf : Hp) : (Int32 × Int32 × Hp) → Prop := fun s => Go d mX10_isSeenSo 6 [some (.ref x0), some (.ref x1), some (.int x2), none, some (.int x4), some (.int s.1), some (.int s.2.1)] [] s.2.2 rf hf
noncomputable def fX10_isSeenSo_61 (h : Hp) (x0 : Nat) (x1 : Nat) (x2 : Int32) (x4 : Int32) (x5 : Int32) (x6 : Int32) : Option ((Int32 × Int32 × Hp) ⊕ (Int32 × Hp)) :=
  some (.inl (x5, (x6 + Int32.ofInt 1), h))
theorem oX10_isSeenSo_61 {d : Nat} (hd : 4 ≤ d) {h : Hp} {x0 : Nat} {x1 : Nat} {x2 : Int32} {x4 : Int32} {x5 : Int32} {x6 : Int32} {rf : Option Value} {hf : Hp} {x : ((Int32 × Int32 × Hp) ⊕ (Int32 × Hp))} (hs : fX10_isSeenSo_61 h x0 x1 x2 x4 x5 x6 = some x) (hk : (Kx (pX10_isSeenSo_6 d x0 x1 x2 x4 rf hf) (kX10_isSeenSo rf hf)) x) : Go d mX10_isSeenSo 61 [some (.ref x0), some (.ref x1), some (.int x2), none, some (.int x4), some (.int x5), some (.int x6)] [] h rf hf := by
  unfold fX10_isSeenSo_61 at hs
  refine go_iinc (L' := [some (.ref x0), some (.ref x1), some (.int x2), none, some (.int x4), some (.int x5), some (.int (x6 + Int32.ofInt 1))]) rfl (by decide) rfl rfl dX10_isSeenSo_61 ?_
  refine go_goto (tgt := 6) (by decide) dX10_isSeenSo_64 ?_
  obtain rfl := Option.some.inj hs
  exact go_subL (L' := [some (.ref x0), some (.ref x1), some (.int x2), none, some (.int x4), some (.int x5), some (.int (x6 + Int32.ofInt 1))]) (by simp [subL, va_rf]) hk
noncomputable def fX10_isSeenSo_6b (h : Hp) (x0 : Nat) (x1 : Nat) (x2 : Int32) (x4 : Int32) (x5 : Int32) (x6 : Int32) : Option ((Int32 × Int32 × Hp) ⊕ (Int32 × Hp)) :=
  (gI h 9 x1 3).bind fun v1 =>
  if v1 ≤ x6 then (
    some (.inr ((1 : Int32), h))) else (
    (gN h 10 x0 0).bind fun v2 =>
    gO h 1 v2 (
    (fX1_after h v2 x5 x4 (0 : Int32)).bind fun y3 =>
    gO y3.2 9 x1 (
    (fX9_at y3.2 x1 x6).bind fun y5 =>
    if (lg_cmp y5 (-1 : Int64)) = 0 then (
    fX10_isSeenSo_61 y3.2 x0 x1 x2 x4 y3.1 x6) else (
      gO y3.2 9 x1 (
      (fX9_at y3.2 x1 x6).bind fun y7 =>
      (fX11_digit y3.2 y3.1 x2).bind fun y9 =>
      if (lg_cmp y7 (y9.toInt64)) = 0 then (
      fX10_isSeenSo_61 y3.2 x0 x1 x2 x4 y3.1 x6) else (
        some (.inr ((0 : Int32), y3.2))))))))
noncomputable def fX10_isSeenSo_6 (h : Hp) (x0 : Nat) (x1 : Nat) (x2 : Int32) (x4 : Int32) (x5 : Int32) (x6 : Int32) : Option (Int32 × Hp) := lpw (σ := (Int32 × Int32 × Hp)) (fun s => fX10_isSeenSo_6b s.2.2 x0 x1 x2 x4 s.1 s.2.1) (x5, x6, h)
theorem oX10_isSeenSo_6b {d : Nat} (hd : 4 ≤ d) {h : Hp} {x0 : Nat} {x1 : Nat} {x2 : Int32} {x4 : Int32} {x5 : Int32} {x6 : Int32} {rf : Option Value} {hf : Hp} {x : ((Int32 × Int32 × Hp) ⊕ (Int32 × Hp))} (hs : fX10_isSeenSo_6b h x0 x1 x2 x4 x5 x6 = some x) (hk : (Kx (pX10_isSeenSo_6 d x0 x1 x2 x4 rf hf) (kX10_isSeenSo rf hf)) x) : Go d mX10_isSeenSo 6 [some (.ref x0), some (.ref x1), some (.int x2), none, some (.int x4), some (.int x5), some (.int x6)] [] h rf hf := by
  unfold fX10_isSeenSo_6b at hs
  refine go_iload rfl dX10_isSeenSo_6 ?_
  refine go_aload_n (k4 := 1) rfl (Or.inr ⟨_, rfl⟩) dX10_isSeenSo_8 ?_
  obtain ⟨v1, ev1, hs⟩ := bindS hs
  refine go_gI fl_RX10_72 ev1 dX10_isSeenSo_9 ?_
  refine go_icmp_ge (tgt := 67) (by decide) dX10_isSeenSo_12 (fun c => ?_) (fun c => ?_)
  · have hs := if_t c hs
    refine go_iconst (v := 1) (by decide) dX10_isSeenSo_67 ?_
    obtain rfl := Option.some.inj hs
    obtain ⟨rfl, rfl⟩ := hk
    exact go_zret (ty := .boolean) rfl rfl dX10_isSeenSo_68
  · have hs := if_f c hs
    refine go_aload_n (k4 := 0) rfl (Or.inr ⟨_, rfl⟩) dX10_isSeenSo_15 ?_
    obtain ⟨v2, ev2, hs⟩ := bindS hs
    refine go_gN fl_RX10_30 ev2 dX10_isSeenSo_16 ?_
    refine go_iload rfl dX10_isSeenSo_19 ?_
    refine go_iload rfl dX10_isSeenSo_21 ?_
    refine go_iconst (v := 0) (by decide) dX10_isSeenSo_23 ?_
    obtain ⟨g4, hs⟩ := gO_at hs
    obtain ⟨y3, ey3, hs⟩ := bindS hs
    refine go_V1 (As := [.int x5, .int x4, .int (0 : Int32)]) (st := []) g4 rfl rfl (oX1_after (d := d - 1) (by omega) ey3) (by omega) mb_X1_after lm_RX10_34 mi_X1_after (Nat.le_of_ble_eq_true rfl) rfl dX10_isSeenSo_24 ?_
    refine go_istore (L' := [some (.ref x0), some (.ref x1), some (.int x2), none, some (.int x4), some (.int y3.1), some (.int x6)]) (by decide) rfl dX10_isSeenSo_27 ?_
    refine go_at 29 rfl ?_
    refine go_aload_n (k4 := 1) rfl (Or.inr ⟨_, rfl⟩) dX10_isSeenSo_29 ?_
    refine go_iload rfl dX10_isSeenSo_30 ?_
    obtain ⟨g6, hs⟩ := gO_at hs
    obtain ⟨y5, ey5, hs⟩ := bindS hs
    refine go_V1 (As := [.int x6]) (st := []) g6 rfl rfl (oX9_at (d := d - 1) (by omega) ey5) (by omega) mb_X9_at lm_RX10_77 mi_X9_at (Nat.le_of_ble_eq_true rfl) rfl dX10_isSeenSo_32 ?_
    refine go_ldc2 lc_RX10_81 dX10_isSeenSo_35 ?_
    refine go_lcmp dX10_isSeenSo_38 ?_
    refine go_if_eq (tgt := 61) (by decide) dX10_isSeenSo_39 (fun c => ?_) (fun c => ?_)
    · have hs := if_t c hs
      exact go_subL (L' := [some (.ref x0), some (.ref x1), some (.int x2), none, some (.int x4), some (.int y3.1), some (.int x6)]) (by simp [subL, va_rf]) (oX10_isSeenSo_61 hd hs hk)
    · have hs := if_f c hs
      refine go_aload_n (k4 := 1) rfl (Or.inr ⟨_, rfl⟩) dX10_isSeenSo_42 ?_
      refine go_iload rfl dX10_isSeenSo_43 ?_
      obtain ⟨g8, hs⟩ := gO_at hs
      obtain ⟨y7, ey7, hs⟩ := bindS hs
      refine go_V1 (As := [.int x6]) (st := []) g8 rfl rfl (oX9_at (d := d - 1) (by omega) ey7) (by omega) mb_X9_at lm_RX10_77 mi_X9_at (Nat.le_of_ble_eq_true rfl) rfl dX10_isSeenSo_45 ?_
      refine go_iload rfl dX10_isSeenSo_48 ?_
      refine go_iload_n (k4 := 2) rfl dX10_isSeenSo_50 ?_
      obtain ⟨y9, ey9, hs⟩ := bindS hs
      refine go_SN1 (As := [.int y3.1, .int x2]) (st := [.long y7]) (oX11_digit (d := d - 1) (by omega) ey9) (by omega) mb_X11_digit lm_RX10_64 ms_X11_digit (Nat.le_of_ble_eq_true rfl) rfl dX10_isSeenSo_51 ?_
      refine go_i2l dX10_isSeenSo_54 ?_
      refine go_at 55 rfl ?_
      refine go_lcmp dX10_isSeenSo_55 ?_
      refine go_if_eq (tgt := 61) (by decide) dX10_isSeenSo_56 (fun c => ?_) (fun c => ?_)
      · have hs := if_t c hs
        exact go_subL (L' := [some (.ref x0), some (.ref x1), some (.int x2), none, some (.int x4), some (.int y3.1), some (.int x6)]) (by simp [subL, va_rf]) (oX10_isSeenSo_61 hd hs hk)
      · have hs := if_f c hs
        refine go_iconst (v := 0) (by decide) dX10_isSeenSo_59 ?_
        obtain rfl := Option.some.inj hs
        obtain ⟨rfl, rfl⟩ := hk
        exact go_zret (ty := .boolean) rfl rfl dX10_isSeenSo_60
theorem oX10_isSeenSo_6 {d : Nat} (hd : 4 ≤ d) {h : Hp} {x0 : Nat} {x1 : Nat} {x2 : Int32} {x4 : Int32} {x5 : Int32} {x6 : Int32} {rf : Option Value} {hf : Hp} {x : (Int32 × Hp)} (hs : fX10_isSeenSo_6 h x0 x1 x2 x4 x5 x6 = some x) (hk : (kX10_isSeenSo rf hf) x) : Go d mX10_isSeenSo 6 [some (.ref x0), some (.ref x1), some (.int x2), none, some (.int x4), some (.int x5), some (.int x6)] [] h rf hf := by
  unfold fX10_isSeenSo_6 at hs
  exact lpw_go (P := pX10_isSeenSo_6 d x0 x1 x2 x4 rf hf) (fun s x hs hk => oX10_isSeenSo_6b hd hs hk) (x5, x6, h) x hs hk
noncomputable def fX10_isSeenSo (h : Hp) (x0 : Nat) (x1 : Nat) (x2 : Int32) (x3 : Int32) (x4 : Int32) : Option (Int32 × Hp) :=
  fX10_isSeenSo_6 h x0 x1 x2 x4 x3 (0 : Int32)
theorem oX10_isSeenSo_0 {d : Nat} (hd : 4 ≤ d) {h : Hp} {x0 : Nat} {x1 : Nat} {x2 : Int32} {x3 : Int32} {x4 : Int32} {rf : Option Value} {hf : Hp} {x : (Int32 × Hp)} (hs : fX10_isSeenSo h x0 x1 x2 x3 x4 = some x) (hk : (kX10_isSeenSo rf hf) x) : Go d mX10_isSeenSo 0 [some (.ref x0), some (.ref x1), some (.int x2), some (.int x3), some (.int x4), none, none] [] h rf hf := by
  unfold fX10_isSeenSo at hs
  refine go_iload_n (k4 := 3) rfl dX10_isSeenSo_0 ?_
  refine go_istore (L' := [some (.ref x0), some (.ref x1), some (.int x2), some (.int x3), some (.int x4), some (.int x3), none]) (by decide) rfl dX10_isSeenSo_1 ?_
  refine go_iconst (v := 0) (by decide) dX10_isSeenSo_3 ?_
  refine go_istore (L' := [some (.ref x0), some (.ref x1), some (.int x2), some (.int x3), some (.int x4), some (.int x3), some (.int (0 : Int32))]) (by decide) rfl dX10_isSeenSo_4 ?_
  exact go_subL (L' := [some (.ref x0), some (.ref x1), some (.int x2), none, some (.int x4), some (.int x3), some (.int (0 : Int32))]) (by simp [subL, va_rf]) (oX10_isSeenSo_6 hd hs hk)
theorem oX10_isSeenSo {d : Nat} (hd : 4 ≤ d) {h : Hp} {x0 : Nat} {x1 : Nat} {x2 : Int32} {x3 : Int32} {x4 : Int32} {y : (Int32 × Hp)} (hs : fX10_isSeenSo h x0 x1 x2 x3 x4 = some y) : Call d mX10_isSeenSo [.ref x0, .ref x1, .int x2, .int x3, .int x4] h (some (.int y.1)) (y.2) := call_of (by decide +kernel) (Nat.le_of_ble_eq_true rfl) (show Go d mX10_isSeenSo 0 [some (.ref x0), some (.ref x1), some (.int x2), some (.int x3), some (.int x4), none, none] [] h _ _ from go_subL (by simp [subL]) (oX10_isSeenSo_0 hd hs ⟨rfl, rfl⟩))
