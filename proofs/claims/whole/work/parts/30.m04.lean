/-! methods: their texts as functions, and that the machine does just that -/
abbrev kX12_yearTo (rf : Option Value) (hf : Hp) : (Int32 × Hp) → Prop := fun y => rf = some (.int y.1) ∧ hf = y.2
abbrev pX12_yearTo_28 (d : Nat) (x0 : Nat) (x1 : Int32) (x2 : Int32) (x3 : Int32) (x4 : Int32) (rf : Option Value) (hf : Hp) : (Int32 × Int32 × Int32 × Hp) → Prop := fun s => Go d mX12_yearTo 28 [some (.ref x0), some (.int x1), some (.int x2), some (.int x3), some (.int x4), some (.int s.1), some (.int s.2.1), some (.int s.2.2.1), none, none] [] s.2.2.2 rf hf
noncomputable def fX12_yearTo_153 (h : Hp) (s0 : Int32) : Option (Int32 × Hp) :=
  some ((s0, h))
theorem oX12_yearTo_153 {d : Nat} (hd : 3 ≤ d) {h : Hp} {s0 : Int32} {rf : Option Value} {hf : Hp} {x : (Int32 × Hp)} (hs : fX12_yearTo_153 h s0 = some x) (hk : (kX12_yearTo rf hf) x) : Go d mX12_yearTo 153 [none, none, none, none, none, none, none, none, none, none] [.int s0] h rf hf := by
  unfold fX12_yearTo_153 at hs
  obtain rfl := Option.some.inj hs
  obtain ⟨rfl, rfl⟩ := hk
  exact go_iret rfl dX12_yearTo_153
noncomputable def fX12_yearTo_132 (h : Hp) (x0 : Nat) (x3 : Int32) (x5 : Int32) : Option (Int32 × Hp) :=
  gO h 12 x0 (
  (fX12_fallsBy h x0 x5 x3).bind fun y7 =>
  if y7.1 = 0 then (
    fX12_yearTo_153 y7.2 x5) else (
    fX12_yearTo_153 y7.2 (x5 + (10000 : Int32))))
theorem oX12_yearTo_132 {d : Nat} (hd : 3 ≤ d) {h : Hp} {x0 : Nat} {x3 : Int32} {x5 : Int32} {rf : Option Value} {hf : Hp} {x : (Int32 × Hp)} (hs : fX12_yearTo_132 h x0 x3 x5 = some x) (hk : (kX12_yearTo rf hf) x) : Go d mX12_yearTo 132 [some (.ref x0), none, none, some (.int x3), none, some (.int x5), none, none, none, none] [] h rf hf := by
  unfold fX12_yearTo_132 at hs
  refine go_aload_n (k4 := 0) rfl (Or.inr ⟨_, rfl⟩) dX12_yearTo_132 ?_
  refine go_iload rfl dX12_yearTo_133 ?_
  refine go_iload_n (k4 := 3) rfl dX12_yearTo_135 ?_
  obtain ⟨g8, hs⟩ := gO_at hs
  obtain ⟨y7, ey7, hs⟩ := bindS hs
  refine go_V1 (As := [.int x5, .int x3]) (st := []) g8 rfl rfl (oX12_fallsBy (d := d - 1) (by omega) ey7) (by omega) mb_X12_fallsBy lm_RX12_255 mi_X12_fallsBy (Nat.le_of_ble_eq_true rfl) rfl dX12_yearTo_136 ?_
  refine go_if_eq (tgt := 151) (by decide) dX12_yearTo_139 (fun c => ?_) (fun c => ?_)
  · have hs := if_t c hs
    refine go_iload rfl dX12_yearTo_151 ?_
    exact go_subL (L' := [none, none, none, none, none, none, none, none, none, none]) (by simp [subL, va_rf]) (oX12_yearTo_153 hd hs hk)
  · have hs := if_f c hs
    refine go_iload rfl dX12_yearTo_142 ?_
    refine go_sipush (v := 10000) (by decide) dX12_yearTo_144 ?_
    refine go_iadd dX12_yearTo_147 ?_
    refine go_goto (tgt := 153) (by decide) dX12_yearTo_148 ?_
    exact go_subL (L' := [none, none, none, none, none, none, none, none, none, none]) (by simp [subL, va_rf]) (oX12_yearTo_153 hd hs hk)
noncomputable def fX12_yearTo_115 (h : Hp) (x0 : Nat) (x1 : Int32) (x2 : Int32) (x3 : Int32) (x4 : Int32) (x6 : Int32) (x7 : Int32) (s0 : Int32) (s1 : Int32) (s2 : Int32) : Option ((Int32 × Int32 × Int32 × Hp) ⊕ (Int32 × Hp)) :=
  some (.inl ((s0 + (s1 * s2)), (x6 * (10 : Int32)), (x7 + Int32.ofInt 1), h))
theorem oX12_yearTo_115 {d : Nat} (hd : 3 ≤ d) {h : Hp} {x0 : Nat} {x1 : Int32} {x2 : Int32} {x3 : Int32} {x4 : Int32} {x6 : Int32} {x7 : Int32} {s0 : Int32} {s1 : Int32} {s2 : Int32} {rf : Option Value} {hf : Hp} {x : ((Int32 × Int32 × Int32 × Hp) ⊕ (Int32 × Hp))} (hs : fX12_yearTo_115 h x0 x1 x2 x3 x4 x6 x7 s0 s1 s2 = some x) (hk : (Kx (pX12_yearTo_28 d x0 x1 x2 x3 x4 rf hf) (kX12_yearTo rf hf)) x) : Go d mX12_yearTo 115 [some (.ref x0), some (.int x1), some (.int x2), some (.int x3), some (.int x4), none, some (.int x6), some (.int x7), none, none] [.int s2, .int s1, .int s0] h rf hf := by
  unfold fX12_yearTo_115 at hs
  refine go_imul dX12_yearTo_115 ?_
  refine go_iadd dX12_yearTo_116 ?_
  refine go_istore (L' := [some (.ref x0), some (.int x1), some (.int x2), some (.int x3), some (.int x4), some (.int (s0 + (s1 * s2))), some (.int x6), some (.int x7), none, none]) (by decide) rfl dX12_yearTo_117 ?_
  refine go_iload rfl dX12_yearTo_119 ?_
  refine go_bipush (v := 10) (by decide) dX12_yearTo_121 ?_
  refine go_imul dX12_yearTo_123 ?_
  refine go_istore (L' := [some (.ref x0), some (.int x1), some (.int x2), some (.int x3), some (.int x4), some (.int (s0 + (s1 * s2))), some (.int (x6 * (10 : Int32))), some (.int x7), none, none]) (by decide) rfl dX12_yearTo_124 ?_
  refine go_at 126 rfl ?_
  refine go_iinc (L' := [some (.ref x0), some (.int x1), some (.int x2), some (.int x3), some (.int x4), some (.int (s0 + (s1 * s2))), some (.int (x6 * (10 : Int32))), some (.int (x7 + Int32.ofInt 1)), none, none]) rfl (by decide) rfl rfl dX12_yearTo_126 ?_
  refine go_goto (tgt := 28) (by decide) dX12_yearTo_129 ?_
  obtain rfl := Option.some.inj hs
  exact go_subL (L' := [some (.ref x0), some (.int x1), some (.int x2), some (.int x3), some (.int x4), some (.int (s0 + (s1 * s2))), some (.int (x6 * (10 : Int32))), some (.int (x7 + Int32.ofInt 1)), none, none]) (by simp [subL, va_rf]) hk
noncomputable def fX12_yearTo_86 (h : Hp) (x0 : Nat) (x1 : Int32) (x2 : Int32) (x3 : Int32) (x4 : Int32) (x5 : Int32) (x6 : Int32) (x7 : Int32) (s0 : Int32) : Option ((Int32 × Int32 × Int32 × Hp) ⊕ (Int32 × Hp)) :=
  if 0 ≤ s0 then (
    if s0 ≤ (9 : Int32) then (
      fX12_yearTo_115 h x0 x1 x2 x3 x4 x6 x7 x5 x6 s0) else (
      fX12_yearTo_115 h x0 x1 x2 x3 x4 x6 x7 x5 x6 (9 : Int32))) else (
    fX12_yearTo_115 h x0 x1 x2 x3 x4 x6 x7 x5 x6 (0 : Int32))
theorem oX12_yearTo_86 {d : Nat} (hd : 3 ≤ d) {h : Hp} {x0 : Nat} {x1 : Int32} {x2 : Int32} {x3 : Int32} {x4 : Int32} {x5 : Int32} {x6 : Int32} {x7 : Int32} {s0 : Int32} {rf : Option Value} {hf : Hp} {x : ((Int32 × Int32 × Int32 × Hp) ⊕ (Int32 × Hp))} (hs : fX12_yearTo_86 h x0 x1 x2 x3 x4 x5 x6 x7 s0 = some x) (hk : (Kx (pX12_yearTo_28 d x0 x1 x2 x3 x4 rf hf) (kX12_yearTo rf hf)) x) : Go d mX12_yearTo 86 [some (.ref x0), some (.int x1), some (.int x2), some (.int x3), some (.int x4), some (.int x5), some (.int x6), some (.int x7), none, none] [.int s0] h rf hf := by
  unfold fX12_yearTo_86 at hs
  refine go_istore (L' := [some (.ref x0), some (.int x1), some (.int x2), some (.int x3), some (.int x4), some (.int x5), some (.int x6), some (.int x7), none, some (.int s0)]) (by decide) rfl dX12_yearTo_86 ?_
  refine go_iload rfl dX12_yearTo_88 ?_
  refine go_iload rfl dX12_yearTo_90 ?_
  refine go_iload rfl dX12_yearTo_92 ?_
  refine go_if_ge (tgt := 101) (by decide) dX12_yearTo_94 (fun c => ?_) (fun c => ?_)
  · have hs := if_t c hs
    refine go_iload rfl dX12_yearTo_101 ?_
    refine go_bipush (v := 9) (by decide) dX12_yearTo_103 ?_
    refine go_icmp_le (tgt := 113) (by decide) dX12_yearTo_105 (fun c => ?_) (fun c => ?_)
    · have hs := if_t c hs
      refine go_iload rfl dX12_yearTo_113 ?_
      exact go_subL (L' := [some (.ref x0), some (.int x1), some (.int x2), some (.int x3), some (.int x4), none, some (.int x6), some (.int x7), none, none]) (by simp [subL, va_rf]) (oX12_yearTo_115 hd hs hk)
    · have hs := if_f c hs
      refine go_bipush (v := 9) (by decide) dX12_yearTo_108 ?_
      refine go_goto (tgt := 115) (by decide) dX12_yearTo_110 ?_
      exact go_subL (L' := [some (.ref x0), some (.int x1), some (.int x2), some (.int x3), some (.int x4), none, some (.int x6), some (.int x7), none, none]) (by simp [subL, va_rf]) (oX12_yearTo_115 hd hs hk)
  · have hs := if_f c hs
    refine go_iconst (v := 0) (by decide) dX12_yearTo_97 ?_
    refine go_goto (tgt := 115) (by decide) dX12_yearTo_98 ?_
    exact go_subL (L' := [some (.ref x0), some (.int x1), some (.int x2), some (.int x3), some (.int x4), none, some (.int x6), some (.int x7), none, none]) (by simp [subL, va_rf]) (oX12_yearTo_115 hd hs hk)
noncomputable def fX12_yearTo_28b (h : Hp) (x0 : Nat) (x1 : Int32) (x2 : Int32) (x3 : Int32) (x4 : Int32) (x5 : Int32) (x6 : Int32) (x7 : Int32) : Option ((Int32 × Int32 × Int32 × Hp) ⊕ (Int32 × Hp)) :=
  (gN h 12 x0 1).bind fun v5 =>
  (aI 0 h v5 (1 : Int32)).bind fun v6 =>
  if v6 ≤ x7 then (
  (fX12_yearTo_132 h x0 x3 x5).map (fun q => .inr q)) else (
    (fX12_gapIn h x1 x7).bind fun y9 =>
    if y9 = 0 then (
      fX12_yearTo_86 h x0 x1 x2 x3 x4 x5 x6 x7 (0 : Int32)) else (
      (gN h 12 x0 1).bind fun v10 =>
      (aI 0 h v10 ((19 : Int32) + x7)).bind fun v11 =>
      (fX12_dropsIn h x2 x7).bind fun y12 =>
      gO h 12 x0 (
      (fX12_growsBy h x0 x7 v11 y12 y9 x4 x3).bind fun y13 =>
      fX12_yearTo_86 y13.2 x0 x1 x2 x3 x4 x5 x6 x7 (y9 - y13.1))))
noncomputable def fX12_yearTo_28 (h : Hp) (x0 : Nat) (x1 : Int32) (x2 : Int32) (x3 : Int32) (x4 : Int32) (x5 : Int32) (x6 : Int32) (x7 : Int32) : Option (Int32 × Hp) := lpw (σ := (Int32 × Int32 × Int32 × Hp)) (fun s => fX12_yearTo_28b s.2.2.2 x0 x1 x2 x3 x4 s.1 s.2.1 s.2.2.1) (x5, x6, x7, h)
theorem oX12_yearTo_28b {d : Nat} (hd : 3 ≤ d) {h : Hp} {x0 : Nat} {x1 : Int32} {x2 : Int32} {x3 : Int32} {x4 : Int32} {x5 : Int32} {x6 : Int32} {x7 : Int32} {rf : Option Value} {hf : Hp} {x : ((Int32 × Int32 × Int32 × Hp) ⊕ (Int32 × Hp))} (hs : fX12_yearTo_28b h x0 x1 x2 x3 x4 x5 x6 x7 = some x) (hk : (Kx (pX12_yearTo_28 d x0 x1 x2 x3 x4 rf hf) (kX12_yearTo rf hf)) x) : Go d mX12_yearTo 28 [some (.ref x0), some (.int x1), some (.int x2), some (.int x3), some (.int x4), some (.int x5), some (.int x6), some (.int x7), none, none] [] h rf hf := by
  unfold fX12_yearTo_28b at hs
  refine go_iload rfl dX12_yearTo_28 ?_
  refine go_aload_n (k4 := 0) rfl (Or.inr ⟨_, rfl⟩) dX12_yearTo_30 ?_
  obtain ⟨v5, ev5, hs⟩ := bindS hs
  refine go_gN fl_RX12_13 ev5 dX12_yearTo_31 ?_
  refine go_iconst (v := 1) (by decide) dX12_yearTo_34 ?_
  obtain ⟨v6, ev6, hs⟩ := bindS hs
  refine go_aIi ev6 dX12_yearTo_35 ?_
  refine go_icmp_ge (tgt := 132) (by decide) dX12_yearTo_36 (fun c => ?_) (fun c => ?_)
  · have hs := if_t c hs
    obtain ⟨q, hs2, hq⟩ := mapS hs
    clear hs
    subst hq
    exact go_subL (L' := [some (.ref x0), none, none, some (.int x3), none, some (.int x5), none, none, none, none]) (by simp [subL, va_rf]) (oX12_yearTo_132 hd hs2 hk)
  · have hs := if_f c hs
    refine go_iload_n (k4 := 1) rfl dX12_yearTo_39 ?_
    refine go_iload rfl dX12_yearTo_40 ?_
    obtain ⟨y9, ey9, hs⟩ := bindS hs
    refine go_S1 (As := [.int x1, .int x7]) (st := []) (oX12_gapIn (d := d - 1) (by omega) ey9) (by omega) mb_X12_gapIn lm_RX12_217 ms_X12_gapIn (Nat.le_of_ble_eq_true rfl) rfl dX12_yearTo_42 ?_
    refine go_istore (L' := [some (.ref x0), some (.int x1), some (.int x2), some (.int x3), some (.int x4), some (.int x5), some (.int x6), some (.int x7), some (.int y9), none]) (by decide) rfl dX12_yearTo_45 ?_
    refine go_iload rfl dX12_yearTo_47 ?_
    refine go_if_ne (tgt := 56) (by decide) dX12_yearTo_49 (fun c => ?_) (fun c => ?_)
    · have hs := if_f c hs
      refine go_iload rfl dX12_yearTo_56 ?_
      refine go_aload_n (k4 := 0) rfl (Or.inr ⟨_, rfl⟩) dX12_yearTo_58 ?_
      refine go_iload rfl dX12_yearTo_59 ?_
      refine go_aload_n (k4 := 0) rfl (Or.inr ⟨_, rfl⟩) dX12_yearTo_61 ?_
      obtain ⟨v10, ev10, hs⟩ := bindS hs
      refine go_gN fl_RX12_13 ev10 dX12_yearTo_62 ?_
      refine go_bipush (v := 19) (by decide) dX12_yearTo_65 ?_
      refine go_iload rfl dX12_yearTo_67 ?_
      refine go_at 69 rfl ?_
      refine go_iadd dX12_yearTo_69 ?_
      obtain ⟨v11, ev11, hs⟩ := bindS hs
      refine go_aIi ev11 dX12_yearTo_70 ?_
      refine go_iload_n (k4 := 2) rfl dX12_yearTo_71 ?_
      refine go_iload rfl dX12_yearTo_72 ?_
      obtain ⟨y12, ey12, hs⟩ := bindS hs
      refine go_S1 (As := [.int x2, .int x7]) (st := [.int v11, .int x7, .ref x0, .int y9]) (oX12_dropsIn (d := d - 1) (by omega) ey12) (by omega) mb_X12_dropsIn lm_RX12_248 ms_X12_dropsIn (Nat.le_of_ble_eq_true rfl) rfl dX12_yearTo_74 ?_
      refine go_iload rfl dX12_yearTo_77 ?_
      refine go_iload rfl dX12_yearTo_79 ?_
      refine go_iload_n (k4 := 3) rfl dX12_yearTo_81 ?_
      refine go_at 82 rfl ?_
      obtain ⟨g14, hs⟩ := gO_at hs
      obtain ⟨y13, ey13, hs⟩ := bindS hs
      refine go_V1 (As := [.int x7, .int v11, .int y12, .int y9, .int x4, .int x3]) (st := [.int y9]) g14 rfl rfl (oX12_growsBy (d := d - 1) (by omega) ey13) (by omega) mb_X12_growsBy lm_RX12_251 mi_X12_growsBy (Nat.le_of_ble_eq_true rfl) rfl dX12_yearTo_82 ?_
      refine go_isub dX12_yearTo_85 ?_
      exact go_subL (L' := [some (.ref x0), some (.int x1), some (.int x2), some (.int x3), some (.int x4), some (.int x5), some (.int x6), some (.int x7), none, none]) (by simp [subL, va_rf]) (oX12_yearTo_86 hd hs hk)
    · have hs := if_t c hs
      refine go_iconst (v := 0) (by decide) dX12_yearTo_52 ?_
      refine go_goto (tgt := 86) (by decide) dX12_yearTo_53 ?_
      exact go_subL (L' := [some (.ref x0), some (.int x1), some (.int x2), some (.int x3), some (.int x4), some (.int x5), some (.int x6), some (.int x7), none, none]) (by simp [subL, va_rf]) (oX12_yearTo_86 hd hs hk)
theorem oX12_yearTo_28 {d : Nat} (hd : 3 ≤ d) {h : Hp} {x0 : Nat} {x1 : Int32} {x2 : Int32} {x3 : Int32} {x4 : Int32} {x5 : Int32} {x6 : Int32} {x7 : Int32} {rf : Option Value} {hf : Hp} {x : (Int32 × Hp)} (hs : fX12_yearTo_28 h x0 x1 x2 x3 x4 x5 x6 x7 = some x) (hk : (kX12_yearTo rf hf) x) : Go d mX12_yearTo 28 [some (.ref x0), some (.int x1), some (.int x2), some (.int x3), some (.int x4), some (.int x5), some (.int x6), some (.int x7), none, none] [] h rf hf := by
  unfold fX12_yearTo_28 at hs
  exact lpw_go (P := pX12_yearTo_28 d x0 x1 x2 x3 x4 rf hf) (fun s x hs hk => oX12_yearTo_28b hd hs hk) (x5, x6, x7, h) x hs hk
noncomputable def fX12_yearTo (h : Hp) (x0 : Nat) (x1 : Int32) (x2 : Int32) (x3 : Int32) : Option (Int32 × Hp) :=
  (fX12_hasFallen h x1).bind fun y1 =>
  if y1 = 0 then (
    gO h 12 x0 (
    (fX12_metIn h x0 x1).bind fun y2 =>
    (fX12_bitsOf h y2).bind fun y4 =>
    fX12_yearTo_28 h x0 x1 x2 x3 y4 (0 : Int32) (1 : Int32) (0 : Int32))) else (
    some ((x1, h)))
theorem oX12_yearTo_0 {d : Nat} (hd : 3 ≤ d) {h : Hp} {x0 : Nat} {x1 : Int32} {x2 : Int32} {x3 : Int32} {rf : Option Value} {hf : Hp} {x : (Int32 × Hp)} (hs : fX12_yearTo h x0 x1 x2 x3 = some x) (hk : (kX12_yearTo rf hf) x) : Go d mX12_yearTo 0 [some (.ref x0), some (.int x1), some (.int x2), some (.int x3), none, none, none, none, none, none] [] h rf hf := by
  unfold fX12_yearTo at hs
  refine go_iload_n (k4 := 1) rfl dX12_yearTo_0 ?_
  obtain ⟨y1, ey1, hs⟩ := bindS hs
  refine go_S1 (As := [.int x1]) (st := []) (oX12_hasFallen (d := d - 1) (by omega) ey1) (by omega) mb_X12_hasFallen lm_RX12_245 ms_X12_hasFallen (Nat.le_of_ble_eq_true rfl) rfl dX12_yearTo_1 ?_
  refine go_if_eq (tgt := 9) (by decide) dX12_yearTo_4 (fun c => ?_) (fun c => ?_)
  · have hs := if_t c hs
    refine go_aload_n (k4 := 0) rfl (Or.inr ⟨_, rfl⟩) dX12_yearTo_9 ?_
    refine go_iload_n (k4 := 1) rfl dX12_yearTo_10 ?_
    obtain ⟨g3, hs⟩ := gO_at hs
    obtain ⟨y2, ey2, hs⟩ := bindS hs
    refine go_V1 (As := [.int x1]) (st := []) g3 rfl rfl (oX12_metIn (d := d - 1) (by omega) ey2) (by omega) mb_X12_metIn lm_RX12_233 mi_X12_metIn (Nat.le_of_ble_eq_true rfl) rfl dX12_yearTo_11 ?_
    obtain ⟨y4, ey4, hs⟩ := bindS hs
    refine go_S1 (As := [.int y2]) (st := []) (oX12_bitsOf (d := d - 1) (by omega) ey4) (by omega) mb_X12_bitsOf lm_RX12_236 ms_X12_bitsOf (Nat.le_of_ble_eq_true rfl) rfl dX12_yearTo_14 ?_
    refine go_istore (L' := [some (.ref x0), some (.int x1), some (.int x2), some (.int x3), some (.int y4), none, none, none, none, none]) (by decide) rfl dX12_yearTo_17 ?_
    refine go_iconst (v := 0) (by decide) dX12_yearTo_19 ?_
    refine go_istore (L' := [some (.ref x0), some (.int x1), some (.int x2), some (.int x3), some (.int y4), some (.int (0 : Int32)), none, none, none, none]) (by decide) rfl dX12_yearTo_20 ?_
    refine go_at 22 rfl ?_
    refine go_iconst (v := 1) (by decide) dX12_yearTo_22 ?_
    refine go_istore (L' := [some (.ref x0), some (.int x1), some (.int x2), some (.int x3), some (.int y4), some (.int (0 : Int32)), some (.int (1 : Int32)), none, none, none]) (by decide) rfl dX12_yearTo_23 ?_
    refine go_iconst (v := 0) (by decide) dX12_yearTo_25 ?_
    refine go_istore (L' := [some (.ref x0), some (.int x1), some (.int x2), some (.int x3), some (.int y4), some (.int (0 : Int32)), some (.int (1 : Int32)), some (.int (0 : Int32)), none, none]) (by decide) rfl dX12_yearTo_26 ?_
    exact go_subL (L' := [some (.ref x0), some (.int x1), some (.int x2), some (.int x3), some (.int y4), some (.int (0 : Int32)), some (.int (1 : Int32)), some (.int (0 : Int32)), none, none]) (by simp [subL, va_rf]) (oX12_yearTo_28 hd hs hk)
  · have hs := if_f c hs
    refine go_iload_n (k4 := 1) rfl dX12_yearTo_7 ?_
    obtain rfl := Option.some.inj hs
    obtain ⟨rfl, rfl⟩ := hk
    exact go_iret rfl dX12_yearTo_8
theorem oX12_yearTo {d : Nat} (hd : 3 ≤ d) {h : Hp} {x0 : Nat} {x1 : Int32} {x2 : Int32} {x3 : Int32} {y : (Int32 × Hp)} (hs : fX12_yearTo h x0 x1 x2 x3 = some y) : Call d mX12_yearTo [.ref x0, .int x1, .int x2, .int x3] h (some (.int y.1)) (y.2) := call_of (by decide +kernel) (Nat.le_of_ble_eq_true rfl) (show Go d mX12_yearTo 0 [some (.ref x0), some (.int x1), some (.int x2), some (.int x3), none, none, none, none, none, none] [] h _ _ from go_subL (by simp [subL]) (oX12_yearTo_0 hd hs ⟨rfl, rfl⟩))
abbrev kX12_growOf (h : Hp) (rf : Option Value) (hf : Hp) : Int32 → Prop := fun y => rf = some (.int y) ∧ hf = h
noncomputable def fX12_growOf (h : Hp) (x0 : Int32) (x1 : Int32) (x2 : Int32) (x3 : Int32) (x4 : Int32) : Option Int32 :=
  lt ((((((x0 * (4 : Int32)) + x1) * (5 : Int32)) + x2) * (10 : Int32)) + x3) fun w1 =>
  some (((w1 * (5 : Int32)) + x4))
theorem oX12_growOf_0 {d : Nat} (hd : 0 ≤ d) {h : Hp} {x0 : Int32} {x1 : Int32} {x2 : Int32} {x3 : Int32} {x4 : Int32} {rf : Option Value} {hf : Hp} {x : Int32} (hs : fX12_growOf h x0 x1 x2 x3 x4 = some x) (hk : (kX12_growOf h rf hf) x) : Go d mX12_growOf 0 [some (.int x0), some (.int x1), some (.int x2), some (.int x3), some (.int x4)] [] h rf hf := by
  unfold fX12_growOf at hs
  refine go_iload_n (k4 := 0) rfl dX12_growOf_0 ?_
  refine go_iconst (v := 4) (by decide) dX12_growOf_1 ?_
  refine go_imul dX12_growOf_2 ?_
  refine go_iload_n (k4 := 1) rfl dX12_growOf_3 ?_
  refine go_iadd dX12_growOf_4 ?_
  refine go_iconst (v := 5) (by decide) dX12_growOf_5 ?_
  refine go_imul dX12_growOf_6 ?_
  refine go_at 7 rfl ?_
  refine go_iload_n (k4 := 2) rfl dX12_growOf_7 ?_
  refine go_iadd dX12_growOf_8 ?_
  refine go_bipush (v := 10) (by decide) dX12_growOf_9 ?_
  refine go_imul dX12_growOf_11 ?_
  refine go_iload_n (k4 := 3) rfl dX12_growOf_12 ?_
  refine go_iadd dX12_growOf_13 ?_
  obtain ⟨w1, ew1, hs⟩ := lt_at hs
  rw [← ew1]
  refine go_iconst (v := 5) (by decide) dX12_growOf_14 ?_
  refine go_imul dX12_growOf_15 ?_
  refine go_at 16 rfl ?_
  refine go_iload rfl dX12_growOf_16 ?_
  refine go_iadd dX12_growOf_18 ?_
  obtain rfl := Option.some.inj hs
  obtain ⟨rfl, rfl⟩ := hk
  exact go_iret rfl dX12_growOf_19
theorem oX12_growOf {d : Nat} (hd : 0 ≤ d) {h : Hp} {x0 : Int32} {x1 : Int32} {x2 : Int32} {x3 : Int32} {x4 : Int32} {y : Int32} (hs : fX12_growOf h x0 x1 x2 x3 x4 = some y) : Call d mX12_growOf [.int x0, .int x1, .int x2, .int x3, .int x4] h (some (.int y)) h := call_of (by decide +kernel) (Nat.le_of_ble_eq_true rfl) (show Go d mX12_growOf 0 [some (.int x0), some (.int x1), some (.int x2), some (.int x3), some (.int x4)] [] h _ _ from go_subL (by simp [subL]) (oX12_growOf_0 hd hs ⟨rfl, rfl⟩))
abbrev kX12_fallOf (h : Hp) (rf : Option Value) (hf : Hp) : Int32 → Prop := fun y => rf = some (.int y) ∧ hf = h
noncomputable def fX12_fallOf (h : Hp) (x0 : Int32) (x1 : Int32) (x2 : Int32) (x3 : Int32) : Option Int32 :=
  lt ((((((x0 * (5 : Int32)) + x1) * (37 : Int32)) + x2) * (10 : Int32)) + x3) fun w1 =>
  some (w1)
theorem oX12_fallOf_0 {d : Nat} (hd : 0 ≤ d) {h : Hp} {x0 : Int32} {x1 : Int32} {x2 : Int32} {x3 : Int32} {rf : Option Value} {hf : Hp} {x : Int32} (hs : fX12_fallOf h x0 x1 x2 x3 = some x) (hk : (kX12_fallOf h rf hf) x) : Go d mX12_fallOf 0 [some (.int x0), some (.int x1), some (.int x2), some (.int x3)] [] h rf hf := by
  unfold fX12_fallOf at hs
  refine go_iload_n (k4 := 0) rfl dX12_fallOf_0 ?_
  refine go_iconst (v := 5) (by decide) dX12_fallOf_1 ?_
  refine go_imul dX12_fallOf_2 ?_
  refine go_iload_n (k4 := 1) rfl dX12_fallOf_3 ?_
  refine go_iadd dX12_fallOf_4 ?_
  refine go_bipush (v := 37) (by decide) dX12_fallOf_5 ?_
  refine go_imul dX12_fallOf_7 ?_
  refine go_at 8 rfl ?_
  refine go_iload_n (k4 := 2) rfl dX12_fallOf_8 ?_
  refine go_iadd dX12_fallOf_9 ?_
  refine go_bipush (v := 10) (by decide) dX12_fallOf_10 ?_
  refine go_imul dX12_fallOf_12 ?_
  refine go_iload_n (k4 := 3) rfl dX12_fallOf_13 ?_
  refine go_iadd dX12_fallOf_14 ?_
  obtain ⟨w1, ew1, hs⟩ := lt_at hs
  rw [← ew1]
  obtain rfl := Option.some.inj hs
  obtain ⟨rfl, rfl⟩ := hk
  exact go_iret rfl dX12_fallOf_15
theorem oX12_fallOf {d : Nat} (hd : 0 ≤ d) {h : Hp} {x0 : Int32} {x1 : Int32} {x2 : Int32} {x3 : Int32} {y : Int32} (hs : fX12_fallOf h x0 x1 x2 x3 = some y) : Call d mX12_fallOf [.int x0, .int x1, .int x2, .int x3] h (some (.int y)) h := call_of (by decide +kernel) (Nat.le_of_ble_eq_true rfl) (show Go d mX12_fallOf 0 [some (.int x0), some (.int x1), some (.int x2), some (.int x3)] [] h _ _ from go_subL (by simp [subL]) (oX12_fallOf_0 hd hs ⟨rfl, rfl⟩))
abbrev kX12_fallsSo (rf : Option Value) (hf : Hp) : (Int32 × Hp) → Prop := fun y => rf = some (.int y.1) ∧ hf = y.2
noncomputable def fX12_fallsSo_45 (h : Hp) (s0 : Int32) : Option (Int32 × Hp) :=
  bl s0 (some ((s0, h)))
theorem oX12_fallsSo_45 {d : Nat} (hd : 2 ≤ d) {h : Hp} {s0 : Int32} {rf : Option Value} {hf : Hp} {x : (Int32 × Hp)} (hs : fX12_fallsSo_45 h s0 = some x) (hk : (kX12_fallsSo rf hf) x) : Go d mX12_fallsSo 45 [none, none, none, none, none] [.int s0] h rf hf := by
  unfold fX12_fallsSo_45 at hs
  obtain ⟨n1, n2, hs⟩ := bl_at hs
  obtain rfl := Option.some.inj hs
  obtain ⟨rfl, rfl⟩ := hk
  exact go_zret (ty := .boolean) rfl n1 dX12_fallsSo_45
noncomputable def fX12_fallsSo (h : Hp) (x0 : Nat) (x1 : Int32) (x2 : Int32) (x3 : Int32) (x4 : Int32) : Option (Int32 × Hp) :=
  (gN h 12 x0 17).bind fun v1 =>
  (wI 0 h v1 (0 : Int32) x2).bind fun h2 =>
  (gN h2 12 x0 17).bind fun v3 =>
  (wI 0 h2 v3 (1 : Int32) x1).bind fun h4 =>
  (gN h4 12 x0 17).bind fun v5 =>
  (wI 0 h4 v5 (6 : Int32) x3).bind fun h6 =>
  (gN h6 12 x0 17).bind fun v7 =>
  (wI 0 h6 v7 (7 : Int32) x4).bind fun h8 =>
  gO h8 12 x0 (
  (fX12_reckons h8 x0 (1 : Int32)).bind fun y9 =>
  if y9.1 = (1 : Int32) then (
    fX12_fallsSo_45 y9.2 (1 : Int32)) else (
    fX12_fallsSo_45 y9.2 (0 : Int32)))
theorem oX12_fallsSo_0 {d : Nat} (hd : 2 ≤ d) {h : Hp} {x0 : Nat} {x1 : Int32} {x2 : Int32} {x3 : Int32} {x4 : Int32} {rf : Option Value} {hf : Hp} {x : (Int32 × Hp)} (hs : fX12_fallsSo h x0 x1 x2 x3 x4 = some x) (hk : (kX12_fallsSo rf hf) x) : Go d mX12_fallsSo 0 [some (.ref x0), some (.int x1), some (.int x2), some (.int x3), some (.int x4)] [] h rf hf := by
  unfold fX12_fallsSo at hs
  refine go_aload_n (k4 := 0) rfl (Or.inr ⟨_, rfl⟩) dX12_fallsSo_0 ?_
  obtain ⟨v1, ev1, hs⟩ := bindS hs
  refine go_gN fl_RX12_33 ev1 dX12_fallsSo_1 ?_
  refine go_iconst (v := 0) (by decide) dX12_fallsSo_4 ?_
  refine go_iload_n (k4 := 2) rfl dX12_fallsSo_5 ?_
  obtain ⟨h2, eh2, hs⟩ := bindS hs
  refine go_wIi eh2 dX12_fallsSo_6 ?_
  refine go_aload_n (k4 := 0) rfl (Or.inr ⟨_, rfl⟩) dX12_fallsSo_7 ?_
  obtain ⟨v3, ev3, hs⟩ := bindS hs
  refine go_gN fl_RX12_33 ev3 dX12_fallsSo_8 ?_
  refine go_at 11 rfl ?_
  refine go_iconst (v := 1) (by decide) dX12_fallsSo_11 ?_
  refine go_iload_n (k4 := 1) rfl dX12_fallsSo_12 ?_
  obtain ⟨h4, eh4, hs⟩ := bindS hs
  refine go_wIi eh4 dX12_fallsSo_13 ?_
  refine go_aload_n (k4 := 0) rfl (Or.inr ⟨_, rfl⟩) dX12_fallsSo_14 ?_
  obtain ⟨v5, ev5, hs⟩ := bindS hs
  refine go_gN fl_RX12_33 ev5 dX12_fallsSo_15 ?_
  refine go_bipush (v := 6) (by decide) dX12_fallsSo_18 ?_
  refine go_iload_n (k4 := 3) rfl dX12_fallsSo_20 ?_
  obtain ⟨h6, eh6, hs⟩ := bindS hs
  refine go_wIi eh6 dX12_fallsSo_21 ?_
  refine go_at 22 rfl ?_
  refine go_aload_n (k4 := 0) rfl (Or.inr ⟨_, rfl⟩) dX12_fallsSo_22 ?_
  obtain ⟨v7, ev7, hs⟩ := bindS hs
  refine go_gN fl_RX12_33 ev7 dX12_fallsSo_23 ?_
  refine go_bipush (v := 7) (by decide) dX12_fallsSo_26 ?_
  refine go_iload rfl dX12_fallsSo_28 ?_
  obtain ⟨h8, eh8, hs⟩ := bindS hs
  refine go_wIi eh8 dX12_fallsSo_30 ?_
  refine go_aload_n (k4 := 0) rfl (Or.inr ⟨_, rfl⟩) dX12_fallsSo_31 ?_
  refine go_iconst (v := 1) (by decide) dX12_fallsSo_32 ?_
  obtain ⟨g10, hs⟩ := gO_at hs
  obtain ⟨y9, ey9, hs⟩ := bindS hs
  refine go_V1 (As := [.int (1 : Int32)]) (st := []) g10 rfl rfl (oX12_reckons (d := d - 1) (by omega) ey9) (by omega) mb_X12_reckons lm_RX12_230 mi_X12_reckons (Nat.le_of_ble_eq_true rfl) rfl dX12_fallsSo_33 ?_
  refine go_at 36 rfl ?_
  refine go_iconst (v := 1) (by decide) dX12_fallsSo_36 ?_
  refine go_icmp_ne (tgt := 44) (by decide) dX12_fallsSo_37 (fun c => ?_) (fun c => ?_)
  · have hs := if_f c hs
    refine go_iconst (v := 0) (by decide) dX12_fallsSo_44 ?_
    exact go_subL (L' := [none, none, none, none, none]) (by simp [subL, va_rf]) (oX12_fallsSo_45 hd hs hk)
  · have hs := if_t c hs
    refine go_iconst (v := 1) (by decide) dX12_fallsSo_40 ?_
    refine go_goto (tgt := 45) (by decide) dX12_fallsSo_41 ?_
    exact go_subL (L' := [none, none, none, none, none]) (by simp [subL, va_rf]) (oX12_fallsSo_45 hd hs hk)
theorem oX12_fallsSo {d : Nat} (hd : 2 ≤ d) {h : Hp} {x0 : Nat} {x1 : Int32} {x2 : Int32} {x3 : Int32} {x4 : Int32} {y : (Int32 × Hp)} (hs : fX12_fallsSo h x0 x1 x2 x3 x4 = some y) : Call d mX12_fallsSo [.ref x0, .int x1, .int x2, .int x3, .int x4] h (some (.int y.1)) (y.2) := call_of (by decide +kernel) (Nat.le_of_ble_eq_true rfl) (show Go d mX12_fallsSo 0 [some (.ref x0), some (.int x1), some (.int x2), some (.int x3), some (.int x4)] [] h _ _ from go_subL (by simp [subL]) (oX12_fallsSo_0 hd hs ⟨rfl, rfl⟩))
abbrev kX12_laysTables (rf : Option Value) (hf : Hp) : Hp → Prop := fun y => rf = none ∧ hf = y
abbrev pX12_laysTables_2 (d : Nat) (x0 : Nat) (rf : Option Value) (hf : Hp) : (Int32 × Hp) → Prop := fun s => Go d mX12_laysTables 2 [some (.ref x0), some (.int s.1), none, none, none, none] [] s.2 rf hf
abbrev pX12_laysTables_9 (d : Nat) (x0 : Nat) (x1 : Int32) (rf : Option Value) (hf : Hp) : (Int32 × Hp) → Prop := fun s => Go d mX12_laysTables 9 [some (.ref x0), some (.int x1), some (.int s.1), none, none, none] [] s.2 rf hf
noncomputable def fX12_laysTables_175 (h : Hp) (x0 : Nat) (x1 : Int32) : Option ((Int32 × Hp) ⊕ Hp) :=
  some (.inl ((x1 + Int32.ofInt 1), h))
theorem oX12_laysTables_175 {d : Nat} (hd : 3 ≤ d) {h : Hp} {x0 : Nat} {x1 : Int32} {rf : Option Value} {hf : Hp} {x : ((Int32 × Hp) ⊕ Hp)} (hs : fX12_laysTables_175 h x0 x1 = some x) (hk : (Kx (pX12_laysTables_2 d x0 rf hf) (kX12_laysTables rf hf)) x) : Go d mX12_laysTables 175 [some (.ref x0), some (.int x1), none, none, none, none] [] h rf hf := by
  unfold fX12_laysTables_175 at hs
  refine go_iinc (L' := [some (.ref x0), some (.int (x1 + Int32.ofInt 1)), none, none, none, none]) rfl (by decide) rfl rfl dX12_laysTables_175 ?_
  refine go_goto (tgt := 2) (by decide) dX12_laysTables_178 ?_
  obtain rfl := Option.some.inj hs
  exact go_subL (L' := [some (.ref x0), some (.int (x1 + Int32.ofInt 1)), none, none, none, none]) (by simp [subL, va_rf]) hk
abbrev pX12_laysTables_16 (d : Nat) (x0 : Nat) (x1 : Int32) (x2 : Int32) (rf : Option Value) (hf : Hp) : (Int32 × Hp) → Prop := fun s => Go d mX12_laysTables 16 [some (.ref x0), some (.int x1), some (.int x2), some (.int s.1), none, none] [] s.2 rf hf
abbrev pX12_laysTables_100 (d : Nat) (x0 : Nat) (x1 : Int32) (x2 : Int32) (rf : Option Value) (hf : Hp) : (Int32 × Hp) → Prop := fun s => Go d mX12_laysTables 100 [some (.ref x0), some (.int x1), some (.int x2), some (.int s.1), none, none] [] s.2 rf hf
noncomputable def fX12_laysTables_169 (h : Hp) (x0 : Nat) (x1 : Int32) (x2 : Int32) : Option ((Int32 × Hp) ⊕ ((Int32 × Hp) ⊕ Hp)) :=
  some (.inl ((x2 + Int32.ofInt 1), h))
theorem oX12_laysTables_169 {d : Nat} (hd : 3 ≤ d) {h : Hp} {x0 : Nat} {x1 : Int32} {x2 : Int32} {rf : Option Value} {hf : Hp} {x : ((Int32 × Hp) ⊕ ((Int32 × Hp) ⊕ Hp))} (hs : fX12_laysTables_169 h x0 x1 x2 = some x) (hk : (Kx (pX12_laysTables_9 d x0 x1 rf hf) (Kx (pX12_laysTables_2 d x0 rf hf) (kX12_laysTables rf hf))) x) : Go d mX12_laysTables 169 [some (.ref x0), some (.int x1), some (.int x2), none, none, none] [] h rf hf := by
  unfold fX12_laysTables_169 at hs
  refine go_iinc (L' := [some (.ref x0), some (.int x1), some (.int (x2 + Int32.ofInt 1)), none, none, none]) rfl (by decide) rfl rfl dX12_laysTables_169 ?_
  refine go_goto (tgt := 9) (by decide) dX12_laysTables_172 ?_
  obtain rfl := Option.some.inj hs
  exact go_subL (L' := [some (.ref x0), some (.int x1), some (.int (x2 + Int32.ofInt 1)), none, none, none]) (by simp [subL, va_rf]) hk
abbrev pX12_laysTables_109 (d : Nat) (x0 : Nat) (x1 : Int32) (x2 : Int32) (x3 : Int32) (rf : Option Value) (hf : Hp) : (Int32 × Hp) → Prop := fun s => Go d mX12_laysTables 109 [some (.ref x0), some (.int x1), some (.int x2), some (.int x3), some (.int s.1), none] [] s.2 rf hf
noncomputable def fX12_laysTables_163 (h : Hp) (x0 : Nat) (x1 : Int32) (x2 : Int32) (x3 : Int32) : Option ((Int32 × Hp) ⊕ ((Int32 × Hp) ⊕ ((Int32 × Hp) ⊕ Hp))) :=
  some (.inl ((x3 + Int32.ofInt 1), h))
theorem oX12_laysTables_163 {d : Nat} (hd : 3 ≤ d) {h : Hp} {x0 : Nat} {x1 : Int32} {x2 : Int32} {x3 : Int32} {rf : Option Value} {hf : Hp} {x : ((Int32 × Hp) ⊕ ((Int32 × Hp) ⊕ ((Int32 × Hp) ⊕ Hp)))} (hs : fX12_laysTables_163 h x0 x1 x2 x3 = some x) (hk : (Kx (pX12_laysTables_100 d x0 x1 x2 rf hf) (Kx (pX12_laysTables_9 d x0 x1 rf hf) (Kx (pX12_laysTables_2 d x0 rf hf) (kX12_laysTables rf hf)))) x) : Go d mX12_laysTables 163 [some (.ref x0), some (.int x1), some (.int x2), some (.int x3), none, none] [] h rf hf := by
  unfold fX12_laysTables_163 at hs
  refine go_iinc (L' := [some (.ref x0), some (.int x1), some (.int x2), some (.int (x3 + Int32.ofInt 1)), none, none]) rfl (by decide) rfl rfl dX12_laysTables_163 ?_
  refine go_goto (tgt := 100) (by decide) dX12_laysTables_166 ?_
  obtain rfl := Option.some.inj hs
  exact go_subL (L' := [some (.ref x0), some (.int x1), some (.int x2), some (.int (x3 + Int32.ofInt 1)), none, none]) (by simp [subL, va_rf]) hk
noncomputable def fX12_laysTables_156 (h : Hp) (x0 : Nat) (x1 : Int32) (x2 : Int32) (x3 : Int32) (x4 : Int32) (s0 : Nat) (s1 : Int32) (s2 : Int32) : Option ((Int32 × Hp) ⊕ ((Int32 × Hp) ⊕ ((Int32 × Hp) ⊕ ((Int32 × Hp) ⊕ Hp)))) :=
  (wI 3 h s0 s1 s2).bind fun h7 =>
  some (.inl ((x4 + Int32.ofInt 1), h7))
theorem oX12_laysTables_156 {d : Nat} (hd : 3 ≤ d) {h : Hp} {x0 : Nat} {x1 : Int32} {x2 : Int32} {x3 : Int32} {x4 : Int32} {s0 : Nat} {s1 : Int32} {s2 : Int32} {rf : Option Value} {hf : Hp} {x : ((Int32 × Hp) ⊕ ((Int32 × Hp) ⊕ ((Int32 × Hp) ⊕ ((Int32 × Hp) ⊕ Hp))))} (hs : fX12_laysTables_156 h x0 x1 x2 x3 x4 s0 s1 s2 = some x) (hk : (Kx (pX12_laysTables_109 d x0 x1 x2 x3 rf hf) (Kx (pX12_laysTables_100 d x0 x1 x2 rf hf) (Kx (pX12_laysTables_9 d x0 x1 rf hf) (Kx (pX12_laysTables_2 d x0 rf hf) (kX12_laysTables rf hf))))) x) : Go d mX12_laysTables 156 [some (.ref x0), some (.int x1), some (.int x2), some (.int x3), some (.int x4), none] [.int s2, .int s1, .ref s0] h rf hf := by
  unfold fX12_laysTables_156 at hs
  obtain ⟨h7, eh7, hs⟩ := bindS hs
  refine go_wIz eh7 dX12_laysTables_156 ?_
  refine go_iinc (L' := [some (.ref x0), some (.int x1), some (.int x2), some (.int x3), some (.int (x4 + Int32.ofInt 1)), none]) rfl (by decide) rfl rfl dX12_laysTables_157 ?_
  refine go_goto (tgt := 109) (by decide) dX12_laysTables_160 ?_
  obtain rfl := Option.some.inj hs
  exact go_subL (L' := [some (.ref x0), some (.int x1), some (.int x2), some (.int x3), some (.int (x4 + Int32.ofInt 1)), none]) (by simp [subL, va_rf]) hk
noncomputable def fX12_laysTables_155 (h : Hp) (x0 : Nat) (x1 : Int32) (x2 : Int32) (x3 : Int32) (x4 : Int32) (s0 : Nat) (s1 : Int32) : Option ((Int32 × Hp) ⊕ ((Int32 × Hp) ⊕ ((Int32 × Hp) ⊕ ((Int32 × Hp) ⊕ Hp)))) :=
  fX12_laysTables_156 h x0 x1 x2 x3 x4 s0 s1 (0 : Int32)
theorem oX12_laysTables_155 {d : Nat} (hd : 3 ≤ d) {h : Hp} {x0 : Nat} {x1 : Int32} {x2 : Int32} {x3 : Int32} {x4 : Int32} {s0 : Nat} {s1 : Int32} {rf : Option Value} {hf : Hp} {x : ((Int32 × Hp) ⊕ ((Int32 × Hp) ⊕ ((Int32 × Hp) ⊕ ((Int32 × Hp) ⊕ Hp))))} (hs : fX12_laysTables_155 h x0 x1 x2 x3 x4 s0 s1 = some x) (hk : (Kx (pX12_laysTables_109 d x0 x1 x2 x3 rf hf) (Kx (pX12_laysTables_100 d x0 x1 x2 rf hf) (Kx (pX12_laysTables_9 d x0 x1 rf hf) (Kx (pX12_laysTables_2 d x0 rf hf) (kX12_laysTables rf hf))))) x) : Go d mX12_laysTables 155 [some (.ref x0), some (.int x1), some (.int x2), some (.int x3), some (.int x4), none] [.int s1, .ref s0] h rf hf := by
  unfold fX12_laysTables_155 at hs
  refine go_iconst (v := 0) (by decide) dX12_laysTables_155 ?_
  exact go_subL (L' := [some (.ref x0), some (.int x1), some (.int x2), some (.int x3), some (.int x4), none]) (by simp [subL, va_rf]) (oX12_laysTables_156 hd hs hk)
noncomputable def fX12_laysTables_109b (h : Hp) (x0 : Nat) (x1 : Int32) (x2 : Int32) (x3 : Int32) (x4 : Int32) : Option ((Int32 × Hp) ⊕ ((Int32 × Hp) ⊕ ((Int32 × Hp) ⊕ ((Int32 × Hp) ⊕ Hp)))) :=
  if (9 : Int32) < x4 then (
  (fX12_laysTables_163 h x0 x1 x2 x3).map (fun q => .inr q)) else (
    (gN h 12 x0 19).bind fun v3 =>
    (fX12_fallOf h x1 x2 x3 x4).bind fun y4 =>
    (gN h 12 x0 1).bind fun v5 =>
    (aI 0 h v5 (6 : Int32)).bind fun v6 =>
    if v6 = (1 : Int32) then (
      gO h 12 x0 (
      (fX12_fallsSo h x0 x1 x2 x3 x4).bind fun y8 =>
      if y8.1 = 0 then (
      fX12_laysTables_155 y8.2 x0 x1 x2 x3 x4 v3 y4) else (
        fX12_laysTables_156 y8.2 x0 x1 x2 x3 x4 v3 y4 (1 : Int32)))) else (
    fX12_laysTables_155 h x0 x1 x2 x3 x4 v3 y4))
noncomputable def fX12_laysTables_109 (h : Hp) (x0 : Nat) (x1 : Int32) (x2 : Int32) (x3 : Int32) (x4 : Int32) : Option ((Int32 × Hp) ⊕ ((Int32 × Hp) ⊕ ((Int32 × Hp) ⊕ Hp))) := lpw (σ := (Int32 × Hp)) (fun s => fX12_laysTables_109b s.2 x0 x1 x2 x3 s.1) (x4, h)
theorem oX12_laysTables_109b {d : Nat} (hd : 3 ≤ d) {h : Hp} {x0 : Nat} {x1 : Int32} {x2 : Int32} {x3 : Int32} {x4 : Int32} {rf : Option Value} {hf : Hp} {x : ((Int32 × Hp) ⊕ ((Int32 × Hp) ⊕ ((Int32 × Hp) ⊕ ((Int32 × Hp) ⊕ Hp))))} (hs : fX12_laysTables_109b h x0 x1 x2 x3 x4 = some x) (hk : (Kx (pX12_laysTables_109 d x0 x1 x2 x3 rf hf) (Kx (pX12_laysTables_100 d x0 x1 x2 rf hf) (Kx (pX12_laysTables_9 d x0 x1 rf hf) (Kx (pX12_laysTables_2 d x0 rf hf) (kX12_laysTables rf hf))))) x) : Go d mX12_laysTables 109 [some (.ref x0), some (.int x1), some (.int x2), some (.int x3), some (.int x4), none] [] h rf hf := by
  unfold fX12_laysTables_109b at hs
  refine go_iload rfl dX12_laysTables_109 ?_
  refine go_bipush (v := 9) (by decide) dX12_laysTables_111 ?_
  refine go_icmp_gt (tgt := 163) (by decide) dX12_laysTables_113 (fun c => ?_) (fun c => ?_)
  · have hs := if_t c hs
    obtain ⟨q, hs2, hq⟩ := mapS hs
    clear hs
    subst hq
    exact go_subL (L' := [some (.ref x0), some (.int x1), some (.int x2), some (.int x3), none, none]) (by simp [subL, va_rf]) (oX12_laysTables_163 hd hs2 hk)
  · have hs := if_f c hs
    refine go_aload_n (k4 := 0) rfl (Or.inr ⟨_, rfl⟩) dX12_laysTables_116 ?_
    obtain ⟨v3, ev3, hs⟩ := bindS hs
    refine go_gN fl_RX12_39 ev3 dX12_laysTables_117 ?_
    refine go_iload_n (k4 := 1) rfl dX12_laysTables_120 ?_
    refine go_iload_n (k4 := 2) rfl dX12_laysTables_121 ?_
    refine go_iload_n (k4 := 3) rfl dX12_laysTables_122 ?_
    refine go_iload rfl dX12_laysTables_123 ?_
    obtain ⟨y4, ey4, hs⟩ := bindS hs
    refine go_S1 (As := [.int x1, .int x2, .int x3, .int x4]) (st := [.ref v3]) (oX12_fallOf (d := d - 1) (by omega) ey4) (by omega) mb_X12_fallOf lm_RX12_263 ms_X12_fallOf (Nat.le_of_ble_eq_true rfl) rfl dX12_laysTables_125 ?_
    refine go_at 128 rfl ?_
    refine go_aload_n (k4 := 0) rfl (Or.inr ⟨_, rfl⟩) dX12_laysTables_128 ?_
    obtain ⟨v5, ev5, hs⟩ := bindS hs
    refine go_gN fl_RX12_13 ev5 dX12_laysTables_129 ?_
    refine go_bipush (v := 6) (by decide) dX12_laysTables_132 ?_
    obtain ⟨v6, ev6, hs⟩ := bindS hs
    refine go_aIi ev6 dX12_laysTables_134 ?_
    refine go_iconst (v := 1) (by decide) dX12_laysTables_135 ?_
    refine go_icmp_ne (tgt := 155) (by decide) dX12_laysTables_136 (fun c => ?_) (fun c => ?_)
    · have hs := if_f c hs
      exact go_subL (L' := [some (.ref x0), some (.int x1), some (.int x2), some (.int x3), some (.int x4), none]) (by simp [subL, va_rf]) (oX12_laysTables_155 hd hs hk)
    · have hs := if_t c hs
      refine go_aload_n (k4 := 0) rfl (Or.inr ⟨_, rfl⟩) dX12_laysTables_139 ?_
      refine go_iload_n (k4 := 1) rfl dX12_laysTables_140 ?_
      refine go_iload_n (k4 := 2) rfl dX12_laysTables_141 ?_
      refine go_iload_n (k4 := 3) rfl dX12_laysTables_142 ?_
      refine go_iload rfl dX12_laysTables_143 ?_
      obtain ⟨g9, hs⟩ := gO_at hs
      obtain ⟨y8, ey8, hs⟩ := bindS hs
      refine go_V1 (As := [.int x1, .int x2, .int x3, .int x4]) (st := [.int y4, .ref v3]) g9 rfl rfl (oX12_fallsSo (d := d - 1) (by omega) ey8) (by omega) mb_X12_fallsSo lm_RX12_267 mi_X12_fallsSo (Nat.le_of_ble_eq_true rfl) rfl dX12_laysTables_145 ?_
      refine go_if_eq (tgt := 155) (by decide) dX12_laysTables_148 (fun c => ?_) (fun c => ?_)
      · have hs := if_t c hs
        exact go_subL (L' := [some (.ref x0), some (.int x1), some (.int x2), some (.int x3), some (.int x4), none]) (by simp [subL, va_rf]) (oX12_laysTables_155 hd hs hk)
      · have hs := if_f c hs
        refine go_iconst (v := 1) (by decide) dX12_laysTables_151 ?_
        refine go_goto (tgt := 156) (by decide) dX12_laysTables_152 ?_
        exact go_subL (L' := [some (.ref x0), some (.int x1), some (.int x2), some (.int x3), some (.int x4), none]) (by simp [subL, va_rf]) (oX12_laysTables_156 hd hs hk)
theorem oX12_laysTables_109 {d : Nat} (hd : 3 ≤ d) {h : Hp} {x0 : Nat} {x1 : Int32} {x2 : Int32} {x3 : Int32} {x4 : Int32} {rf : Option Value} {hf : Hp} {x : ((Int32 × Hp) ⊕ ((Int32 × Hp) ⊕ ((Int32 × Hp) ⊕ Hp)))} (hs : fX12_laysTables_109 h x0 x1 x2 x3 x4 = some x) (hk : (Kx (pX12_laysTables_100 d x0 x1 x2 rf hf) (Kx (pX12_laysTables_9 d x0 x1 rf hf) (Kx (pX12_laysTables_2 d x0 rf hf) (kX12_laysTables rf hf)))) x) : Go d mX12_laysTables 109 [some (.ref x0), some (.int x1), some (.int x2), some (.int x3), some (.int x4), none] [] h rf hf := by
  unfold fX12_laysTables_109 at hs
  exact lpw_go (P := pX12_laysTables_109 d x0 x1 x2 x3 rf hf) (fun s x hs hk => oX12_laysTables_109b hd hs hk) (x4, h) x hs hk
noncomputable def fX12_laysTables_100b (h : Hp) (x0 : Nat) (x1 : Int32) (x2 : Int32) (x3 : Int32) : Option ((Int32 × Hp) ⊕ ((Int32 × Hp) ⊕ ((Int32 × Hp) ⊕ Hp))) :=
  if (36 : Int32) < x3 then (
  (fX12_laysTables_169 h x0 x1 x2).map (fun q => .inr q)) else (
    fX12_laysTables_109 h x0 x1 x2 x3 (0 : Int32))
noncomputable def fX12_laysTables_100 (h : Hp) (x0 : Nat) (x1 : Int32) (x2 : Int32) (x3 : Int32) : Option ((Int32 × Hp) ⊕ ((Int32 × Hp) ⊕ Hp)) := lpw (σ := (Int32 × Hp)) (fun s => fX12_laysTables_100b s.2 x0 x1 x2 s.1) (x3, h)
theorem oX12_laysTables_100b {d : Nat} (hd : 3 ≤ d) {h : Hp} {x0 : Nat} {x1 : Int32} {x2 : Int32} {x3 : Int32} {rf : Option Value} {hf : Hp} {x : ((Int32 × Hp) ⊕ ((Int32 × Hp) ⊕ ((Int32 × Hp) ⊕ Hp)))} (hs : fX12_laysTables_100b h x0 x1 x2 x3 = some x) (hk : (Kx (pX12_laysTables_100 d x0 x1 x2 rf hf) (Kx (pX12_laysTables_9 d x0 x1 rf hf) (Kx (pX12_laysTables_2 d x0 rf hf) (kX12_laysTables rf hf)))) x) : Go d mX12_laysTables 100 [some (.ref x0), some (.int x1), some (.int x2), some (.int x3), none, none] [] h rf hf := by
  unfold fX12_laysTables_100b at hs
  refine go_iload_n (k4 := 3) rfl dX12_laysTables_100 ?_
  refine go_bipush (v := 36) (by decide) dX12_laysTables_101 ?_
  refine go_icmp_gt (tgt := 169) (by decide) dX12_laysTables_103 (fun c => ?_) (fun c => ?_)
  · have hs := if_t c hs
    obtain ⟨q, hs2, hq⟩ := mapS hs
    clear hs
    subst hq
    exact go_subL (L' := [some (.ref x0), some (.int x1), some (.int x2), none, none, none]) (by simp [subL, va_rf]) (oX12_laysTables_169 hd hs2 hk)
  · have hs := if_f c hs
    refine go_iconst (v := 0) (by decide) dX12_laysTables_106 ?_
    refine go_istore (L' := [some (.ref x0), some (.int x1), some (.int x2), some (.int x3), some (.int (0 : Int32)), none]) (by decide) rfl dX12_laysTables_107 ?_
    exact go_subL (L' := [some (.ref x0), some (.int x1), some (.int x2), some (.int x3), some (.int (0 : Int32)), none]) (by simp [subL, va_rf]) (oX12_laysTables_109 hd hs hk)
theorem oX12_laysTables_100 {d : Nat} (hd : 3 ≤ d) {h : Hp} {x0 : Nat} {x1 : Int32} {x2 : Int32} {x3 : Int32} {rf : Option Value} {hf : Hp} {x : ((Int32 × Hp) ⊕ ((Int32 × Hp) ⊕ Hp))} (hs : fX12_laysTables_100 h x0 x1 x2 x3 = some x) (hk : (Kx (pX12_laysTables_9 d x0 x1 rf hf) (Kx (pX12_laysTables_2 d x0 rf hf) (kX12_laysTables rf hf))) x) : Go d mX12_laysTables 100 [some (.ref x0), some (.int x1), some (.int x2), some (.int x3), none, none] [] h rf hf := by
  unfold fX12_laysTables_100 at hs
  exact lpw_go (P := pX12_laysTables_100 d x0 x1 x2 rf hf) (fun s x hs hk => oX12_laysTables_100b hd hs hk) (x3, h) x hs hk
noncomputable def fX12_laysTables_98 (h : Hp) (x0 : Nat) (x1 : Int32) (x2 : Int32) : Option ((Int32 × Hp) ⊕ ((Int32 × Hp) ⊕ Hp)) :=
  fX12_laysTables_100 h x0 x1 x2 (0 : Int32)
theorem oX12_laysTables_98 {d : Nat} (hd : 3 ≤ d) {h : Hp} {x0 : Nat} {x1 : Int32} {x2 : Int32} {rf : Option Value} {hf : Hp} {x : ((Int32 × Hp) ⊕ ((Int32 × Hp) ⊕ Hp))} (hs : fX12_laysTables_98 h x0 x1 x2 = some x) (hk : (Kx (pX12_laysTables_9 d x0 x1 rf hf) (Kx (pX12_laysTables_2 d x0 rf hf) (kX12_laysTables rf hf))) x) : Go d mX12_laysTables 98 [some (.ref x0), some (.int x1), some (.int x2), none, none, none] [] h rf hf := by
  unfold fX12_laysTables_98 at hs
  refine go_iconst (v := 0) (by decide) dX12_laysTables_98 ?_
  refine go_istore_n (k4 := 3) (L' := [some (.ref x0), some (.int x1), some (.int x2), some (.int (0 : Int32)), none, none]) (by decide) rfl dX12_laysTables_99 ?_
  exact go_subL (L' := [some (.ref x0), some (.int x1), some (.int x2), some (.int (0 : Int32)), none, none]) (by simp [subL, va_rf]) (oX12_laysTables_100 hd hs hk)
abbrev pX12_laysTables_29 (d : Nat) (x0 : Nat) (x1 : Int32) (x2 : Int32) (x3 : Int32) (rf : Option Value) (hf : Hp) : (Int32 × Hp) → Prop := fun s => Go d mX12_laysTables 29 [some (.ref x0), some (.int x1), some (.int x2), some (.int x3), some (.int s.1), none] [] s.2 rf hf
noncomputable def fX12_laysTables_92 (h : Hp) (x0 : Nat) (x1 : Int32) (x2 : Int32) (x3 : Int32) : Option ((Int32 × Hp) ⊕ ((Int32 × Hp) ⊕ ((Int32 × Hp) ⊕ Hp))) :=
  some (.inl ((x3 + Int32.ofInt 1), h))
theorem oX12_laysTables_92 {d : Nat} (hd : 3 ≤ d) {h : Hp} {x0 : Nat} {x1 : Int32} {x2 : Int32} {x3 : Int32} {rf : Option Value} {hf : Hp} {x : ((Int32 × Hp) ⊕ ((Int32 × Hp) ⊕ ((Int32 × Hp) ⊕ Hp)))} (hs : fX12_laysTables_92 h x0 x1 x2 x3 = some x) (hk : (Kx (pX12_laysTables_16 d x0 x1 x2 rf hf) (Kx (pX12_laysTables_9 d x0 x1 rf hf) (Kx (pX12_laysTables_2 d x0 rf hf) (kX12_laysTables rf hf)))) x) : Go d mX12_laysTables 92 [some (.ref x0), some (.int x1), some (.int x2), some (.int x3), none, none] [] h rf hf := by
  unfold fX12_laysTables_92 at hs
  refine go_iinc (L' := [some (.ref x0), some (.int x1), some (.int x2), some (.int (x3 + Int32.ofInt 1)), none, none]) rfl (by decide) rfl rfl dX12_laysTables_92 ?_
  refine go_goto (tgt := 16) (by decide) dX12_laysTables_95 ?_
  obtain rfl := Option.some.inj hs
  exact go_subL (L' := [some (.ref x0), some (.int x1), some (.int x2), some (.int (x3 + Int32.ofInt 1)), none, none]) (by simp [subL, va_rf]) hk
abbrev pX12_laysTables_38 (d : Nat) (x0 : Nat) (x1 : Int32) (x2 : Int32) (x3 : Int32) (x4 : Int32) (rf : Option Value) (hf : Hp) : (Int32 × Hp) → Prop := fun s => Go d mX12_laysTables 38 [some (.ref x0), some (.int x1), some (.int x2), some (.int x3), some (.int x4), some (.int s.1)] [] s.2 rf hf
noncomputable def fX12_laysTables_86 (h : Hp) (x0 : Nat) (x1 : Int32) (x2 : Int32) (x3 : Int32) (x4 : Int32) : Option ((Int32 × Hp) ⊕ ((Int32 × Hp) ⊕ ((Int32 × Hp) ⊕ ((Int32 × Hp) ⊕ Hp)))) :=
  some (.inl ((x4 + Int32.ofInt 1), h))
theorem oX12_laysTables_86 {d : Nat} (hd : 3 ≤ d) {h : Hp} {x0 : Nat} {x1 : Int32} {x2 : Int32} {x3 : Int32} {x4 : Int32} {rf : Option Value} {hf : Hp} {x : ((Int32 × Hp) ⊕ ((Int32 × Hp) ⊕ ((Int32 × Hp) ⊕ ((Int32 × Hp) ⊕ Hp))))} (hs : fX12_laysTables_86 h x0 x1 x2 x3 x4 = some x) (hk : (Kx (pX12_laysTables_29 d x0 x1 x2 x3 rf hf) (Kx (pX12_laysTables_16 d x0 x1 x2 rf hf) (Kx (pX12_laysTables_9 d x0 x1 rf hf) (Kx (pX12_laysTables_2 d x0 rf hf) (kX12_laysTables rf hf))))) x) : Go d mX12_laysTables 86 [some (.ref x0), some (.int x1), some (.int x2), some (.int x3), some (.int x4), none] [] h rf hf := by
  unfold fX12_laysTables_86 at hs
  refine go_iinc (L' := [some (.ref x0), some (.int x1), some (.int x2), some (.int x3), some (.int (x4 + Int32.ofInt 1)), none]) rfl (by decide) rfl rfl dX12_laysTables_86 ?_
  refine go_goto (tgt := 29) (by decide) dX12_laysTables_89 ?_
  obtain rfl := Option.some.inj hs
  exact go_subL (L' := [some (.ref x0), some (.int x1), some (.int x2), some (.int x3), some (.int (x4 + Int32.ofInt 1)), none]) (by simp [subL, va_rf]) hk
noncomputable def fX12_laysTables_38b (h : Hp) (x0 : Nat) (x1 : Int32) (x2 : Int32) (x3 : Int32) (x4 : Int32) (x5 : Int32) : Option ((Int32 × Hp) ⊕ ((Int32 × Hp) ⊕ ((Int32 × Hp) ⊕ ((Int32 × Hp) ⊕ ((Int32 × Hp) ⊕ Hp))))) :=
  if (9 : Int32) < x5 then (
  (fX12_laysTables_86 h x0 x1 x2 x3 x4).map (fun q => .inr q)) else (
    (gN h 12 x0 18).bind fun v10 =>
    (fX12_growOf h x1 x3 x4 x5 x2).bind fun y11 =>
    (gN h 12 x0 1).bind fun v12 =>
    (aI 0 h v12 ((19 : Int32) + x3)).bind fun v13 =>
    gO h 12 x0 (
    (fX12_growsBy h x0 x3 v13 x4 x5 x2 x1).bind fun y14 =>
    (wI 0 y14.2 v10 y11 y14.1).bind fun h16 =>
    some (.inl ((x5 + Int32.ofInt 1), h16))))
noncomputable def fX12_laysTables_38 (h : Hp) (x0 : Nat) (x1 : Int32) (x2 : Int32) (x3 : Int32) (x4 : Int32) (x5 : Int32) : Option ((Int32 × Hp) ⊕ ((Int32 × Hp) ⊕ ((Int32 × Hp) ⊕ ((Int32 × Hp) ⊕ Hp)))) := lpw (σ := (Int32 × Hp)) (fun s => fX12_laysTables_38b s.2 x0 x1 x2 x3 x4 s.1) (x5, h)
theorem oX12_laysTables_38b {d : Nat} (hd : 3 ≤ d) {h : Hp} {x0 : Nat} {x1 : Int32} {x2 : Int32} {x3 : Int32} {x4 : Int32} {x5 : Int32} {rf : Option Value} {hf : Hp} {x : ((Int32 × Hp) ⊕ ((Int32 × Hp) ⊕ ((Int32 × Hp) ⊕ ((Int32 × Hp) ⊕ ((Int32 × Hp) ⊕ Hp)))))} (hs : fX12_laysTables_38b h x0 x1 x2 x3 x4 x5 = some x) (hk : (Kx (pX12_laysTables_38 d x0 x1 x2 x3 x4 rf hf) (Kx (pX12_laysTables_29 d x0 x1 x2 x3 rf hf) (Kx (pX12_laysTables_16 d x0 x1 x2 rf hf) (Kx (pX12_laysTables_9 d x0 x1 rf hf) (Kx (pX12_laysTables_2 d x0 rf hf) (kX12_laysTables rf hf)))))) x) : Go d mX12_laysTables 38 [some (.ref x0), some (.int x1), some (.int x2), some (.int x3), some (.int x4), some (.int x5)] [] h rf hf := by
  unfold fX12_laysTables_38b at hs
  refine go_iload rfl dX12_laysTables_38 ?_
  refine go_bipush (v := 9) (by decide) dX12_laysTables_40 ?_
  refine go_icmp_gt (tgt := 86) (by decide) dX12_laysTables_42 (fun c => ?_) (fun c => ?_)
  · have hs := if_t c hs
    obtain ⟨q, hs2, hq⟩ := mapS hs
    clear hs
    subst hq
    exact go_subL (L' := [some (.ref x0), some (.int x1), some (.int x2), some (.int x3), some (.int x4), none]) (by simp [subL, va_rf]) (oX12_laysTables_86 hd hs2 hk)
  · have hs := if_f c hs
    refine go_aload_n (k4 := 0) rfl (Or.inr ⟨_, rfl⟩) dX12_laysTables_45 ?_
    obtain ⟨v10, ev10, hs⟩ := bindS hs
    refine go_gN fl_RX12_36 ev10 dX12_laysTables_46 ?_
    refine go_iload_n (k4 := 1) rfl dX12_laysTables_49 ?_
    refine go_iload_n (k4 := 3) rfl dX12_laysTables_50 ?_
    refine go_iload rfl dX12_laysTables_51 ?_
    refine go_iload rfl dX12_laysTables_53 ?_
    refine go_iload_n (k4 := 2) rfl dX12_laysTables_55 ?_
    refine go_at 56 rfl ?_
    obtain ⟨y11, ey11, hs⟩ := bindS hs
    refine go_S1 (As := [.int x1, .int x3, .int x4, .int x5, .int x2]) (st := [.ref v10]) (oX12_growOf (d := d - 1) (by omega) ey11) (by omega) mb_X12_growOf lm_RX12_259 ms_X12_growOf (Nat.le_of_ble_eq_true rfl) rfl dX12_laysTables_56 ?_
    refine go_aload_n (k4 := 0) rfl (Or.inr ⟨_, rfl⟩) dX12_laysTables_59 ?_
    refine go_iload_n (k4 := 3) rfl dX12_laysTables_60 ?_
    refine go_aload_n (k4 := 0) rfl (Or.inr ⟨_, rfl⟩) dX12_laysTables_61 ?_
    obtain ⟨v12, ev12, hs⟩ := bindS hs
    refine go_gN fl_RX12_13 ev12 dX12_laysTables_62 ?_
    refine go_bipush (v := 19) (by decide) dX12_laysTables_65 ?_
    refine go_iload_n (k4 := 3) rfl dX12_laysTables_67 ?_
    refine go_iadd dX12_laysTables_68 ?_
    refine go_at 69 rfl ?_
    obtain ⟨v13, ev13, hs⟩ := bindS hs
    refine go_aIi ev13 dX12_laysTables_69 ?_
    refine go_iload rfl dX12_laysTables_70 ?_
    refine go_iload rfl dX12_laysTables_72 ?_
    refine go_iload_n (k4 := 2) rfl dX12_laysTables_74 ?_
    refine go_iload_n (k4 := 1) rfl dX12_laysTables_75 ?_
    obtain ⟨g15, hs⟩ := gO_at hs
    obtain ⟨y14, ey14, hs⟩ := bindS hs
    refine go_V1 (As := [.int x3, .int v13, .int x4, .int x5, .int x2, .int x1]) (st := [.int y11, .ref v10]) g15 rfl rfl (oX12_growsBy (d := d - 1) (by omega) ey14) (by omega) mb_X12_growsBy lm_RX12_251 mi_X12_growsBy (Nat.le_of_ble_eq_true rfl) rfl dX12_laysTables_76 ?_
    obtain ⟨h16, eh16, hs⟩ := bindS hs
    refine go_wIi eh16 dX12_laysTables_79 ?_
    refine go_iinc (L' := [some (.ref x0), some (.int x1), some (.int x2), some (.int x3), some (.int x4), some (.int (x5 + Int32.ofInt 1))]) rfl (by decide) rfl rfl dX12_laysTables_80 ?_
    refine go_at 83 rfl ?_
    refine go_goto (tgt := 38) (by decide) dX12_laysTables_83 ?_
    obtain rfl := Option.some.inj hs
    exact go_subL (L' := [some (.ref x0), some (.int x1), some (.int x2), some (.int x3), some (.int x4), some (.int (x5 + Int32.ofInt 1))]) (by simp [subL, va_rf]) hk
theorem oX12_laysTables_38 {d : Nat} (hd : 3 ≤ d) {h : Hp} {x0 : Nat} {x1 : Int32} {x2 : Int32} {x3 : Int32} {x4 : Int32} {x5 : Int32} {rf : Option Value} {hf : Hp} {x : ((Int32 × Hp) ⊕ ((Int32 × Hp) ⊕ ((Int32 × Hp) ⊕ ((Int32 × Hp) ⊕ Hp))))} (hs : fX12_laysTables_38 h x0 x1 x2 x3 x4 x5 = some x) (hk : (Kx (pX12_laysTables_29 d x0 x1 x2 x3 rf hf) (Kx (pX12_laysTables_16 d x0 x1 x2 rf hf) (Kx (pX12_laysTables_9 d x0 x1 rf hf) (Kx (pX12_laysTables_2 d x0 rf hf) (kX12_laysTables rf hf))))) x) : Go d mX12_laysTables 38 [some (.ref x0), some (.int x1), some (.int x2), some (.int x3), some (.int x4), some (.int x5)] [] h rf hf := by
  unfold fX12_laysTables_38 at hs
  exact lpw_go (P := pX12_laysTables_38 d x0 x1 x2 x3 x4 rf hf) (fun s x hs hk => oX12_laysTables_38b hd hs hk) (x5, h) x hs hk
noncomputable def fX12_laysTables_29b (h : Hp) (x0 : Nat) (x1 : Int32) (x2 : Int32) (x3 : Int32) (x4 : Int32) : Option ((Int32 × Hp) ⊕ ((Int32 × Hp) ⊕ ((Int32 × Hp) ⊕ ((Int32 × Hp) ⊕ Hp)))) :=
  if (4 : Int32) < x4 then (
  (fX12_laysTables_92 h x0 x1 x2 x3).map (fun q => .inr q)) else (
    fX12_laysTables_38 h x0 x1 x2 x3 x4 (1 : Int32))
noncomputable def fX12_laysTables_29 (h : Hp) (x0 : Nat) (x1 : Int32) (x2 : Int32) (x3 : Int32) (x4 : Int32) : Option ((Int32 × Hp) ⊕ ((Int32 × Hp) ⊕ ((Int32 × Hp) ⊕ Hp))) := lpw (σ := (Int32 × Hp)) (fun s => fX12_laysTables_29b s.2 x0 x1 x2 x3 s.1) (x4, h)
theorem oX12_laysTables_29b {d : Nat} (hd : 3 ≤ d) {h : Hp} {x0 : Nat} {x1 : Int32} {x2 : Int32} {x3 : Int32} {x4 : Int32} {rf : Option Value} {hf : Hp} {x : ((Int32 × Hp) ⊕ ((Int32 × Hp) ⊕ ((Int32 × Hp) ⊕ ((Int32 × Hp) ⊕ Hp))))} (hs : fX12_laysTables_29b h x0 x1 x2 x3 x4 = some x) (hk : (Kx (pX12_laysTables_29 d x0 x1 x2 x3 rf hf) (Kx (pX12_laysTables_16 d x0 x1 x2 rf hf) (Kx (pX12_laysTables_9 d x0 x1 rf hf) (Kx (pX12_laysTables_2 d x0 rf hf) (kX12_laysTables rf hf))))) x) : Go d mX12_laysTables 29 [some (.ref x0), some (.int x1), some (.int x2), some (.int x3), some (.int x4), none] [] h rf hf := by
  unfold fX12_laysTables_29b at hs
  refine go_iload rfl dX12_laysTables_29 ?_
  refine go_iconst (v := 4) (by decide) dX12_laysTables_31 ?_
  refine go_icmp_gt (tgt := 92) (by decide) dX12_laysTables_32 (fun c => ?_) (fun c => ?_)
  · have hs := if_t c hs
    obtain ⟨q, hs2, hq⟩ := mapS hs
    clear hs
    subst hq
    exact go_subL (L' := [some (.ref x0), some (.int x1), some (.int x2), some (.int x3), none, none]) (by simp [subL, va_rf]) (oX12_laysTables_92 hd hs2 hk)
  · have hs := if_f c hs
    refine go_iconst (v := 1) (by decide) dX12_laysTables_35 ?_
    refine go_istore (L' := [some (.ref x0), some (.int x1), some (.int x2), some (.int x3), some (.int x4), some (.int (1 : Int32))]) (by decide) rfl dX12_laysTables_36 ?_
    exact go_subL (L' := [some (.ref x0), some (.int x1), some (.int x2), some (.int x3), some (.int x4), some (.int (1 : Int32))]) (by simp [subL, va_rf]) (oX12_laysTables_38 hd hs hk)
theorem oX12_laysTables_29 {d : Nat} (hd : 3 ≤ d) {h : Hp} {x0 : Nat} {x1 : Int32} {x2 : Int32} {x3 : Int32} {x4 : Int32} {rf : Option Value} {hf : Hp} {x : ((Int32 × Hp) ⊕ ((Int32 × Hp) ⊕ ((Int32 × Hp) ⊕ Hp)))} (hs : fX12_laysTables_29 h x0 x1 x2 x3 x4 = some x) (hk : (Kx (pX12_laysTables_16 d x0 x1 x2 rf hf) (Kx (pX12_laysTables_9 d x0 x1 rf hf) (Kx (pX12_laysTables_2 d x0 rf hf) (kX12_laysTables rf hf)))) x) : Go d mX12_laysTables 29 [some (.ref x0), some (.int x1), some (.int x2), some (.int x3), some (.int x4), none] [] h rf hf := by
  unfold fX12_laysTables_29 at hs
  exact lpw_go (P := pX12_laysTables_29 d x0 x1 x2 x3 rf hf) (fun s x hs hk => oX12_laysTables_29b hd hs hk) (x4, h) x hs hk
noncomputable def fX12_laysTables_16b (h : Hp) (x0 : Nat) (x1 : Int32) (x2 : Int32) (x3 : Int32) : Option ((Int32 × Hp) ⊕ ((Int32 × Hp) ⊕ ((Int32 × Hp) ⊕ Hp))) :=
  (gN h 12 x0 1).bind fun v1 =>
  (aI 0 h v1 (1 : Int32)).bind fun v2 =>
  if v2 ≤ x3 then (
  (fX12_laysTables_98 h x0 x1 x2).map (fun q => .inr q)) else (
    fX12_laysTables_29 h x0 x1 x2 x3 (0 : Int32))
noncomputable def fX12_laysTables_16 (h : Hp) (x0 : Nat) (x1 : Int32) (x2 : Int32) (x3 : Int32) : Option ((Int32 × Hp) ⊕ ((Int32 × Hp) ⊕ Hp)) := lpw (σ := (Int32 × Hp)) (fun s => fX12_laysTables_16b s.2 x0 x1 x2 s.1) (x3, h)
theorem oX12_laysTables_16b {d : Nat} (hd : 3 ≤ d) {h : Hp} {x0 : Nat} {x1 : Int32} {x2 : Int32} {x3 : Int32} {rf : Option Value} {hf : Hp} {x : ((Int32 × Hp) ⊕ ((Int32 × Hp) ⊕ ((Int32 × Hp) ⊕ Hp)))} (hs : fX12_laysTables_16b h x0 x1 x2 x3 = some x) (hk : (Kx (pX12_laysTables_16 d x0 x1 x2 rf hf) (Kx (pX12_laysTables_9 d x0 x1 rf hf) (Kx (pX12_laysTables_2 d x0 rf hf) (kX12_laysTables rf hf)))) x) : Go d mX12_laysTables 16 [some (.ref x0), some (.int x1), some (.int x2), some (.int x3), none, none] [] h rf hf := by
  unfold fX12_laysTables_16b at hs
  refine go_iload_n (k4 := 3) rfl dX12_laysTables_16 ?_
  refine go_aload_n (k4 := 0) rfl (Or.inr ⟨_, rfl⟩) dX12_laysTables_17 ?_
  obtain ⟨v1, ev1, hs⟩ := bindS hs
  refine go_gN fl_RX12_13 ev1 dX12_laysTables_18 ?_
  refine go_iconst (v := 1) (by decide) dX12_laysTables_21 ?_
  obtain ⟨v2, ev2, hs⟩ := bindS hs
  refine go_aIi ev2 dX12_laysTables_22 ?_
  refine go_icmp_ge (tgt := 98) (by decide) dX12_laysTables_23 (fun c => ?_) (fun c => ?_)
  · have hs := if_t c hs
    obtain ⟨q, hs2, hq⟩ := mapS hs
    clear hs
    subst hq
    exact go_subL (L' := [some (.ref x0), some (.int x1), some (.int x2), none, none, none]) (by simp [subL, va_rf]) (oX12_laysTables_98 hd hs2 hk)
  · have hs := if_f c hs
    refine go_iconst (v := 0) (by decide) dX12_laysTables_26 ?_
    refine go_istore (L' := [some (.ref x0), some (.int x1), some (.int x2), some (.int x3), some (.int (0 : Int32)), none]) (by decide) rfl dX12_laysTables_27 ?_
    exact go_subL (L' := [some (.ref x0), some (.int x1), some (.int x2), some (.int x3), some (.int (0 : Int32)), none]) (by simp [subL, va_rf]) (oX12_laysTables_29 hd hs hk)
theorem oX12_laysTables_16 {d : Nat} (hd : 3 ≤ d) {h : Hp} {x0 : Nat} {x1 : Int32} {x2 : Int32} {x3 : Int32} {rf : Option Value} {hf : Hp} {x : ((Int32 × Hp) ⊕ ((Int32 × Hp) ⊕ Hp))} (hs : fX12_laysTables_16 h x0 x1 x2 x3 = some x) (hk : (Kx (pX12_laysTables_9 d x0 x1 rf hf) (Kx (pX12_laysTables_2 d x0 rf hf) (kX12_laysTables rf hf))) x) : Go d mX12_laysTables 16 [some (.ref x0), some (.int x1), some (.int x2), some (.int x3), none, none] [] h rf hf := by
  unfold fX12_laysTables_16 at hs
  exact lpw_go (P := pX12_laysTables_16 d x0 x1 x2 rf hf) (fun s x hs hk => oX12_laysTables_16b hd hs hk) (x3, h) x hs hk
noncomputable def fX12_laysTables_9b (h : Hp) (x0 : Nat) (x1 : Int32) (x2 : Int32) : Option ((Int32 × Hp) ⊕ ((Int32 × Hp) ⊕ Hp)) :=
  if (4 : Int32) < x2 then (
  (fX12_laysTables_175 h x0 x1).map (fun q => .inr q)) else (
    fX12_laysTables_16 h x0 x1 x2 (0 : Int32))
noncomputable def fX12_laysTables_9 (h : Hp) (x0 : Nat) (x1 : Int32) (x2 : Int32) : Option ((Int32 × Hp) ⊕ Hp) := lpw (σ := (Int32 × Hp)) (fun s => fX12_laysTables_9b s.2 x0 x1 s.1) (x2, h)
theorem oX12_laysTables_9b {d : Nat} (hd : 3 ≤ d) {h : Hp} {x0 : Nat} {x1 : Int32} {x2 : Int32} {rf : Option Value} {hf : Hp} {x : ((Int32 × Hp) ⊕ ((Int32 × Hp) ⊕ Hp))} (hs : fX12_laysTables_9b h x0 x1 x2 = some x) (hk : (Kx (pX12_laysTables_9 d x0 x1 rf hf) (Kx (pX12_laysTables_2 d x0 rf hf) (kX12_laysTables rf hf))) x) : Go d mX12_laysTables 9 [some (.ref x0), some (.int x1), some (.int x2), none, none, none] [] h rf hf := by
  unfold fX12_laysTables_9b at hs
  refine go_iload_n (k4 := 2) rfl dX12_laysTables_9 ?_
  refine go_iconst (v := 4) (by decide) dX12_laysTables_10 ?_
  refine go_icmp_gt (tgt := 175) (by decide) dX12_laysTables_11 (fun c => ?_) (fun c => ?_)
  · have hs := if_t c hs
    obtain ⟨q, hs2, hq⟩ := mapS hs
    clear hs
    subst hq
    exact go_subL (L' := [some (.ref x0), some (.int x1), none, none, none, none]) (by simp [subL, va_rf]) (oX12_laysTables_175 hd hs2 hk)
  · have hs := if_f c hs
    refine go_iconst (v := 0) (by decide) dX12_laysTables_14 ?_
    refine go_istore_n (k4 := 3) (L' := [some (.ref x0), some (.int x1), some (.int x2), some (.int (0 : Int32)), none, none]) (by decide) rfl dX12_laysTables_15 ?_
    exact go_subL (L' := [some (.ref x0), some (.int x1), some (.int x2), some (.int (0 : Int32)), none, none]) (by simp [subL, va_rf]) (oX12_laysTables_16 hd hs hk)
theorem oX12_laysTables_9 {d : Nat} (hd : 3 ≤ d) {h : Hp} {x0 : Nat} {x1 : Int32} {x2 : Int32} {rf : Option Value} {hf : Hp} {x : ((Int32 × Hp) ⊕ Hp)} (hs : fX12_laysTables_9 h x0 x1 x2 = some x) (hk : (Kx (pX12_laysTables_2 d x0 rf hf) (kX12_laysTables rf hf)) x) : Go d mX12_laysTables 9 [some (.ref x0), some (.int x1), some (.int x2), none, none, none] [] h rf hf := by
  unfold fX12_laysTables_9 at hs
  exact lpw_go (P := pX12_laysTables_9 d x0 x1 rf hf) (fun s x hs hk => oX12_laysTables_9b hd hs hk) (x2, h) x hs hk
noncomputable def fX12_laysTables_2b (h : Hp) (x0 : Nat) (x1 : Int32) : Option ((Int32 × Hp) ⊕ Hp) :=
  if (2 : Int32) ≤ x1 then (
    some (.inr h)) else (
    fX12_laysTables_9 h x0 x1 (0 : Int32))
noncomputable def fX12_laysTables_2 (h : Hp) (x0 : Nat) (x1 : Int32) : Option Hp := lpw (σ := (Int32 × Hp)) (fun s => fX12_laysTables_2b s.2 x0 s.1) (x1, h)
theorem oX12_laysTables_2b {d : Nat} (hd : 3 ≤ d) {h : Hp} {x0 : Nat} {x1 : Int32} {rf : Option Value} {hf : Hp} {x : ((Int32 × Hp) ⊕ Hp)} (hs : fX12_laysTables_2b h x0 x1 = some x) (hk : (Kx (pX12_laysTables_2 d x0 rf hf) (kX12_laysTables rf hf)) x) : Go d mX12_laysTables 2 [some (.ref x0), some (.int x1), none, none, none, none] [] h rf hf := by
  unfold fX12_laysTables_2b at hs
  refine go_iload_n (k4 := 1) rfl dX12_laysTables_2 ?_
  refine go_iconst (v := 2) (by decide) dX12_laysTables_3 ?_
  refine go_icmp_ge (tgt := 181) (by decide) dX12_laysTables_4 (fun c => ?_) (fun c => ?_)
  · have hs := if_t c hs
    obtain rfl := Option.some.inj hs
    obtain ⟨rfl, rfl⟩ := hk
    exact go_vret rfl dX12_laysTables_181
  · have hs := if_f c hs
    refine go_iconst (v := 0) (by decide) dX12_laysTables_7 ?_
    refine go_istore_n (k4 := 2) (L' := [some (.ref x0), some (.int x1), some (.int (0 : Int32)), none, none, none]) (by decide) rfl dX12_laysTables_8 ?_
    exact go_subL (L' := [some (.ref x0), some (.int x1), some (.int (0 : Int32)), none, none, none]) (by simp [subL, va_rf]) (oX12_laysTables_9 hd hs hk)
theorem oX12_laysTables_2 {d : Nat} (hd : 3 ≤ d) {h : Hp} {x0 : Nat} {x1 : Int32} {rf : Option Value} {hf : Hp} {x : Hp} (hs : fX12_laysTables_2 h x0 x1 = some x) (hk : (kX12_laysTables rf hf) x) : Go d mX12_laysTables 2 [some (.ref x0), some (.int x1), none, none, none, none] [] h rf hf := by
  unfold fX12_laysTables_2 at hs
  exact lpw_go (P := pX12_laysTables_2 d x0 rf hf) (fun s x hs hk => oX12_laysTables_2b hd hs hk) (x1, h) x hs hk
noncomputable def fX12_laysTables (h : Hp) (x0 : Nat) : Option Hp :=
  fX12_laysTables_2 h x0 (0 : Int32)
theorem oX12_laysTables_0 {d : Nat} (hd : 3 ≤ d) {h : Hp} {x0 : Nat} {rf : Option Value} {hf : Hp} {x : Hp} (hs : fX12_laysTables h x0 = some x) (hk : (kX12_laysTables rf hf) x) : Go d mX12_laysTables 0 [some (.ref x0), none, none, none, none, none] [] h rf hf := by
  unfold fX12_laysTables at hs
  refine go_iconst (v := 0) (by decide) dX12_laysTables_0 ?_
  refine go_istore_n (k4 := 1) (L' := [some (.ref x0), some (.int (0 : Int32)), none, none, none, none]) (by decide) rfl dX12_laysTables_1 ?_
  exact go_subL (L' := [some (.ref x0), some (.int (0 : Int32)), none, none, none, none]) (by simp [subL, va_rf]) (oX12_laysTables_2 hd hs hk)
theorem oX12_laysTables {d : Nat} (hd : 3 ≤ d) {h : Hp} {x0 : Nat} {y : Hp} (hs : fX12_laysTables h x0 = some y) : Call d mX12_laysTables [.ref x0] h (none) y := call_of (by decide +kernel) (Nat.le_of_ble_eq_true rfl) (show Go d mX12_laysTables 0 [some (.ref x0), none, none, none, none, none] [] h _ _ from go_subL (by simp [subL]) (oX12_laysTables_0 hd hs ⟨rfl, rfl⟩))
abbrev kX12_yearBy (h : Hp) (rf : Option Value) (hf : Hp) : Int32 → Prop := fun y => rf = some (.int y) ∧ hf = h
abbrev pX12_yearBy_37 (d : Nat) (h : Hp) (x0 : Nat) (x1 : Int32) (x2 : Int32) (x3 : Int32) (x4 : Int32) (rf : Option Value) (hf : Hp) : (Int32 × Int32 × Int32 × Int32 × Int32 × Int32) → Prop := fun s => Go d mX12_yearBy 37 [some (.ref x0), some (.int x1), some (.int x2), some (.int x3), some (.int x4), some (.int s.1), some (.int s.2.1), some (.int s.2.2.1), some (.int s.2.2.2.1), some (.int s.2.2.2.2.1), some (.int s.2.2.2.2.2), none, none] [] h rf hf
noncomputable def fX12_yearBy_207 (h : Hp) (s0 : Int32) : Option Int32 :=
  some (s0)
theorem oX12_yearBy_207 {d : Nat} (hd : 2 ≤ d) {h : Hp} {s0 : Int32} {rf : Option Value} {hf : Hp} {x : Int32} (hs : fX12_yearBy_207 h s0 = some x) (hk : (kX12_yearBy h rf hf) x) : Go d mX12_yearBy 207 [none, none, none, none, none, none, none, none, none, none, none, none, none] [.int s0] h rf hf := by
  unfold fX12_yearBy_207 at hs
  obtain rfl := Option.some.inj hs
  obtain ⟨rfl, rfl⟩ := hk
  exact go_iret rfl dX12_yearBy_207
noncomputable def fX12_yearBy_178 (h : Hp) (x0 : Nat) (x3 : Int32) (x5 : Int32) (x7 : Int32) (x8 : Int32) (x9 : Int32) : Option Int32 :=
  (gN h 12 x0 19).bind fun v7 =>
  (fX12_fallOf h x3 x9 x7 x8).bind fun y8 =>
  (aI 3 h v7 y8).bind fun v9 =>
  if v9 = 0 then (
    fX12_yearBy_207 h x5) else (
    fX12_yearBy_207 h (x5 + (10000 : Int32)))
theorem oX12_yearBy_178 {d : Nat} (hd : 2 ≤ d) {h : Hp} {x0 : Nat} {x3 : Int32} {x5 : Int32} {x7 : Int32} {x8 : Int32} {x9 : Int32} {rf : Option Value} {hf : Hp} {x : Int32} (hs : fX12_yearBy_178 h x0 x3 x5 x7 x8 x9 = some x) (hk : (kX12_yearBy h rf hf) x) : Go d mX12_yearBy 178 [some (.ref x0), none, none, some (.int x3), none, some (.int x5), none, some (.int x7), some (.int x8), some (.int x9), none, none, none] [] h rf hf := by
  unfold fX12_yearBy_178 at hs
  refine go_aload_n (k4 := 0) rfl (Or.inr ⟨_, rfl⟩) dX12_yearBy_178 ?_
  obtain ⟨v7, ev7, hs⟩ := bindS hs
  refine go_gN fl_RX12_39 ev7 dX12_yearBy_179 ?_
  refine go_iload_n (k4 := 3) rfl dX12_yearBy_182 ?_
  refine go_iload rfl dX12_yearBy_183 ?_
  refine go_iload rfl dX12_yearBy_185 ?_
  refine go_iload rfl dX12_yearBy_187 ?_
  obtain ⟨y8, ey8, hs⟩ := bindS hs
  refine go_S1 (As := [.int x3, .int x9, .int x7, .int x8]) (st := [.ref v7]) (oX12_fallOf (d := d - 1) (by omega) ey8) (by omega) mb_X12_fallOf lm_RX12_263 ms_X12_fallOf (Nat.le_of_ble_eq_true rfl) rfl dX12_yearBy_189 ?_
  refine go_at 192 rfl ?_
  obtain ⟨v9, ev9, hs⟩ := bindS hs
  refine go_aIz ev9 dX12_yearBy_192 ?_
  refine go_if_eq (tgt := 205) (by decide) dX12_yearBy_193 (fun c => ?_) (fun c => ?_)
  · have hs := if_t c hs
    refine go_iload rfl dX12_yearBy_205 ?_
    exact go_subL (L' := [none, none, none, none, none, none, none, none, none, none, none, none, none]) (by simp [subL, va_rf]) (oX12_yearBy_207 hd hs hk)
  · have hs := if_f c hs
    refine go_iload rfl dX12_yearBy_196 ?_
    refine go_sipush (v := 10000) (by decide) dX12_yearBy_198 ?_
    refine go_iadd dX12_yearBy_201 ?_
    refine go_goto (tgt := 207) (by decide) dX12_yearBy_202 ?_
    exact go_subL (L' := [none, none, none, none, none, none, none, none, none, none, none, none, none]) (by simp [subL, va_rf]) (oX12_yearBy_207 hd hs hk)
noncomputable def fX12_yearBy_162 (h : Hp) (x0 : Nat) (x1 : Int32) (x2 : Int32) (x3 : Int32) (x4 : Int32) (x5 : Int32) (x6 : Int32) (x7 : Int32) (x8 : Int32) (x10 : Int32) (s0 : Int32) (s1 : Int32) : Option ((Int32 × Int32 × Int32 × Int32 × Int32 × Int32) ⊕ Int32) :=
  some (.inl (x5, (x6 * (10 : Int32)), x7, x8, (s0 + s1), (x10 + Int32.ofInt 1)))
theorem oX12_yearBy_162 {d : Nat} (hd : 2 ≤ d) {h : Hp} {x0 : Nat} {x1 : Int32} {x2 : Int32} {x3 : Int32} {x4 : Int32} {x5 : Int32} {x6 : Int32} {x7 : Int32} {x8 : Int32} {x10 : Int32} {s0 : Int32} {s1 : Int32} {rf : Option Value} {hf : Hp} {x : ((Int32 × Int32 × Int32 × Int32 × Int32 × Int32) ⊕ Int32)} (hs : fX12_yearBy_162 h x0 x1 x2 x3 x4 x5 x6 x7 x8 x10 s0 s1 = some x) (hk : (Kx (pX12_yearBy_37 d h x0 x1 x2 x3 x4 rf hf) (kX12_yearBy h rf hf)) x) : Go d mX12_yearBy 162 [some (.ref x0), some (.int x1), some (.int x2), some (.int x3), some (.int x4), some (.int x5), some (.int x6), some (.int x7), some (.int x8), none, some (.int x10), none, none] [.int s1, .int s0] h rf hf := by
  unfold fX12_yearBy_162 at hs
  refine go_iadd dX12_yearBy_162 ?_
  refine go_istore (L' := [some (.ref x0), some (.int x1), some (.int x2), some (.int x3), some (.int x4), some (.int x5), some (.int x6), some (.int x7), some (.int x8), some (.int (s0 + s1)), some (.int x10), none, none]) (by decide) rfl dX12_yearBy_163 ?_
  refine go_iload rfl dX12_yearBy_165 ?_
  refine go_bipush (v := 10) (by decide) dX12_yearBy_167 ?_
  refine go_imul dX12_yearBy_169 ?_
  refine go_istore (L' := [some (.ref x0), some (.int x1), some (.int x2), some (.int x3), some (.int x4), some (.int x5), some (.int (x6 * (10 : Int32))), some (.int x7), some (.int x8), some (.int (s0 + s1)), some (.int x10), none, none]) (by decide) rfl dX12_yearBy_170 ?_
  refine go_iinc (L' := [some (.ref x0), some (.int x1), some (.int x2), some (.int x3), some (.int x4), some (.int x5), some (.int (x6 * (10 : Int32))), some (.int x7), some (.int x8), some (.int (s0 + s1)), some (.int (x10 + Int32.ofInt 1)), none, none]) rfl (by decide) rfl rfl dX12_yearBy_172 ?_
  refine go_at 175 rfl ?_
  refine go_goto (tgt := 37) (by decide) dX12_yearBy_175 ?_
  obtain rfl := Option.some.inj hs
  exact go_subL (L' := [some (.ref x0), some (.int x1), some (.int x2), some (.int x3), some (.int x4), some (.int x5), some (.int (x6 * (10 : Int32))), some (.int x7), some (.int x8), some (.int (s0 + s1)), some (.int (x10 + Int32.ofInt 1)), none, none]) (by simp [subL, va_rf]) hk
noncomputable def fX12_yearBy_148 (h : Hp) (x0 : Nat) (x1 : Int32) (x2 : Int32) (x3 : Int32) (x4 : Int32) (x5 : Int32) (x6 : Int32) (x7 : Int32) (x9 : Int32) (x10 : Int32) (x12 : Int32) (s0 : Int32) : Option ((Int32 × Int32 × Int32 × Int32 × Int32 × Int32) ⊕ Int32) :=
  if x12 = 0 then (
    fX12_yearBy_162 h x0 x1 x2 x3 x4 x5 x6 x7 s0 x10 x9 (1 : Int32)) else (
    fX12_yearBy_162 h x0 x1 x2 x3 x4 x5 x6 x7 s0 x10 x9 (0 : Int32))
theorem oX12_yearBy_148 {d : Nat} (hd : 2 ≤ d) {h : Hp} {x0 : Nat} {x1 : Int32} {x2 : Int32} {x3 : Int32} {x4 : Int32} {x5 : Int32} {x6 : Int32} {x7 : Int32} {x9 : Int32} {x10 : Int32} {x12 : Int32} {s0 : Int32} {rf : Option Value} {hf : Hp} {x : ((Int32 × Int32 × Int32 × Int32 × Int32 × Int32) ⊕ Int32)} (hs : fX12_yearBy_148 h x0 x1 x2 x3 x4 x5 x6 x7 x9 x10 x12 s0 = some x) (hk : (Kx (pX12_yearBy_37 d h x0 x1 x2 x3 x4 rf hf) (kX12_yearBy h rf hf)) x) : Go d mX12_yearBy 148 [some (.ref x0), some (.int x1), some (.int x2), some (.int x3), some (.int x4), some (.int x5), some (.int x6), some (.int x7), none, some (.int x9), some (.int x10), none, some (.int x12)] [.int s0] h rf hf := by
  unfold fX12_yearBy_148 at hs
  refine go_istore (L' := [some (.ref x0), some (.int x1), some (.int x2), some (.int x3), some (.int x4), some (.int x5), some (.int x6), some (.int x7), some (.int s0), some (.int x9), some (.int x10), none, some (.int x12)]) (by decide) rfl dX12_yearBy_148 ?_
  refine go_iload rfl dX12_yearBy_150 ?_
  refine go_iload rfl dX12_yearBy_152 ?_
  refine go_if_ne (tgt := 161) (by decide) dX12_yearBy_154 (fun c => ?_) (fun c => ?_)
  · have hs := if_f c hs
    refine go_iconst (v := 0) (by decide) dX12_yearBy_161 ?_
    exact go_subL (L' := [some (.ref x0), some (.int x1), some (.int x2), some (.int x3), some (.int x4), some (.int x5), some (.int x6), some (.int x7), some (.int s0), none, some (.int x10), none, none]) (by simp [subL, va_rf]) (oX12_yearBy_162 hd hs hk)
  · have hs := if_t c hs
    refine go_iconst (v := 1) (by decide) dX12_yearBy_157 ?_
    refine go_goto (tgt := 162) (by decide) dX12_yearBy_158 ?_
    exact go_subL (L' := [some (.ref x0), some (.int x1), some (.int x2), some (.int x3), some (.int x4), some (.int x5), some (.int x6), some (.int x7), some (.int s0), none, some (.int x10), none, none]) (by simp [subL, va_rf]) (oX12_yearBy_162 hd hs hk)
noncomputable def fX12_yearBy_115 (h : Hp) (x0 : Nat) (x1 : Int32) (x2 : Int32) (x3 : Int32) (x4 : Int32) (x5 : Int32) (x6 : Int32) (x7 : Int32) (x8 : Int32) (x9 : Int32) (x10 : Int32) (s0 : Int32) : Option ((Int32 × Int32 × Int32 × Int32 × Int32 × Int32) ⊕ Int32) :=
  if s0 ≤ x8 then (
    fX12_yearBy_148 h x0 x1 x2 x3 x4 (x5 + (x6 * s0)) x6 (x7 + s0) x9 x10 s0 x8) else (
    fX12_yearBy_148 h x0 x1 x2 x3 x4 (x5 + (x6 * s0)) x6 (x7 + s0) x9 x10 s0 s0)
theorem oX12_yearBy_115 {d : Nat} (hd : 2 ≤ d) {h : Hp} {x0 : Nat} {x1 : Int32} {x2 : Int32} {x3 : Int32} {x4 : Int32} {x5 : Int32} {x6 : Int32} {x7 : Int32} {x8 : Int32} {x9 : Int32} {x10 : Int32} {s0 : Int32} {rf : Option Value} {hf : Hp} {x : ((Int32 × Int32 × Int32 × Int32 × Int32 × Int32) ⊕ Int32)} (hs : fX12_yearBy_115 h x0 x1 x2 x3 x4 x5 x6 x7 x8 x9 x10 s0 = some x) (hk : (Kx (pX12_yearBy_37 d h x0 x1 x2 x3 x4 rf hf) (kX12_yearBy h rf hf)) x) : Go d mX12_yearBy 115 [some (.ref x0), some (.int x1), some (.int x2), some (.int x3), some (.int x4), some (.int x5), some (.int x6), some (.int x7), some (.int x8), some (.int x9), some (.int x10), none, none] [.int s0] h rf hf := by
  unfold fX12_yearBy_115 at hs
  refine go_istore (L' := [some (.ref x0), some (.int x1), some (.int x2), some (.int x3), some (.int x4), some (.int x5), some (.int x6), some (.int x7), some (.int x8), some (.int x9), some (.int x10), none, some (.int s0)]) (by decide) rfl dX12_yearBy_115 ?_
  refine go_iload rfl dX12_yearBy_117 ?_
  refine go_iload rfl dX12_yearBy_119 ?_
  refine go_iload rfl dX12_yearBy_121 ?_
  refine go_imul dX12_yearBy_123 ?_
  refine go_iadd dX12_yearBy_124 ?_
  refine go_istore (L' := [some (.ref x0), some (.int x1), some (.int x2), some (.int x3), some (.int x4), some (.int (x5 + (x6 * s0))), some (.int x6), some (.int x7), some (.int x8), some (.int x9), some (.int x10), none, some (.int s0)]) (by decide) rfl dX12_yearBy_125 ?_
  refine go_at 127 rfl ?_
  refine go_iload rfl dX12_yearBy_127 ?_
  refine go_iload rfl dX12_yearBy_129 ?_
  refine go_iadd dX12_yearBy_131 ?_
  refine go_istore (L' := [some (.ref x0), some (.int x1), some (.int x2), some (.int x3), some (.int x4), some (.int (x5 + (x6 * s0))), some (.int x6), some (.int (x7 + s0)), some (.int x8), some (.int x9), some (.int x10), none, some (.int s0)]) (by decide) rfl dX12_yearBy_132 ?_
  refine go_iload rfl dX12_yearBy_134 ?_
  refine go_iload rfl dX12_yearBy_136 ?_
  refine go_icmp_le (tgt := 146) (by decide) dX12_yearBy_138 (fun c => ?_) (fun c => ?_)
  · have hs := if_t c hs
    refine go_iload rfl dX12_yearBy_146 ?_
    exact go_subL (L' := [some (.ref x0), some (.int x1), some (.int x2), some (.int x3), some (.int x4), some (.int (x5 + (x6 * s0))), some (.int x6), some (.int (x7 + s0)), none, some (.int x9), some (.int x10), none, some (.int s0)]) (by simp [subL, va_rf]) (oX12_yearBy_148 hd hs hk)
  · have hs := if_f c hs
    refine go_iload rfl dX12_yearBy_141 ?_
    refine go_goto (tgt := 148) (by decide) dX12_yearBy_143 ?_
    exact go_subL (L' := [some (.ref x0), some (.int x1), some (.int x2), some (.int x3), some (.int x4), some (.int (x5 + (x6 * s0))), some (.int x6), some (.int (x7 + s0)), none, some (.int x9), some (.int x10), none, some (.int s0)]) (by simp [subL, va_rf]) (oX12_yearBy_148 hd hs hk)
noncomputable def fX12_yearBy_90 (h : Hp) (x0 : Nat) (x1 : Int32) (x2 : Int32) (x3 : Int32) (x4 : Int32) (x5 : Int32) (x6 : Int32) (x7 : Int32) (x8 : Int32) (x9 : Int32) (x10 : Int32) (s0 : Int32) : Option ((Int32 × Int32 × Int32 × Int32 × Int32 × Int32) ⊕ Int32) :=
  if 0 ≤ s0 then (
    if s0 ≤ (9 : Int32) then (
      fX12_yearBy_115 h x0 x1 x2 x3 x4 x5 x6 x7 x8 x9 x10 s0) else (
      fX12_yearBy_115 h x0 x1 x2 x3 x4 x5 x6 x7 x8 x9 x10 (9 : Int32))) else (
    fX12_yearBy_115 h x0 x1 x2 x3 x4 x5 x6 x7 x8 x9 x10 (0 : Int32))
theorem oX12_yearBy_90 {d : Nat} (hd : 2 ≤ d) {h : Hp} {x0 : Nat} {x1 : Int32} {x2 : Int32} {x3 : Int32} {x4 : Int32} {x5 : Int32} {x6 : Int32} {x7 : Int32} {x8 : Int32} {x9 : Int32} {x10 : Int32} {s0 : Int32} {rf : Option Value} {hf : Hp} {x : ((Int32 × Int32 × Int32 × Int32 × Int32 × Int32) ⊕ Int32)} (hs : fX12_yearBy_90 h x0 x1 x2 x3 x4 x5 x6 x7 x8 x9 x10 s0 = some x) (hk : (Kx (pX12_yearBy_37 d h x0 x1 x2 x3 x4 rf hf) (kX12_yearBy h rf hf)) x) : Go d mX12_yearBy 90 [some (.ref x0), some (.int x1), some (.int x2), some (.int x3), some (.int x4), some (.int x5), some (.int x6), some (.int x7), some (.int x8), some (.int x9), some (.int x10), none, none] [.int s0] h rf hf := by
  unfold fX12_yearBy_90 at hs
  refine go_istore (L' := [some (.ref x0), some (.int x1), some (.int x2), some (.int x3), some (.int x4), some (.int x5), some (.int x6), some (.int x7), some (.int x8), some (.int x9), some (.int x10), none, some (.int s0)]) (by decide) rfl dX12_yearBy_90 ?_
  refine go_iload rfl dX12_yearBy_92 ?_
  refine go_if_ge (tgt := 101) (by decide) dX12_yearBy_94 (fun c => ?_) (fun c => ?_)
  · have hs := if_t c hs
    refine go_iload rfl dX12_yearBy_101 ?_
    refine go_bipush (v := 9) (by decide) dX12_yearBy_103 ?_
    refine go_icmp_le (tgt := 113) (by decide) dX12_yearBy_105 (fun c => ?_) (fun c => ?_)
    · have hs := if_t c hs
      refine go_iload rfl dX12_yearBy_113 ?_
      exact go_subL (L' := [some (.ref x0), some (.int x1), some (.int x2), some (.int x3), some (.int x4), some (.int x5), some (.int x6), some (.int x7), some (.int x8), some (.int x9), some (.int x10), none, none]) (by simp [subL, va_rf]) (oX12_yearBy_115 hd hs hk)
    · have hs := if_f c hs
      refine go_bipush (v := 9) (by decide) dX12_yearBy_108 ?_
      refine go_goto (tgt := 115) (by decide) dX12_yearBy_110 ?_
      exact go_subL (L' := [some (.ref x0), some (.int x1), some (.int x2), some (.int x3), some (.int x4), some (.int x5), some (.int x6), some (.int x7), some (.int x8), some (.int x9), some (.int x10), none, none]) (by simp [subL, va_rf]) (oX12_yearBy_115 hd hs hk)
  · have hs := if_f c hs
    refine go_iconst (v := 0) (by decide) dX12_yearBy_97 ?_
    refine go_goto (tgt := 115) (by decide) dX12_yearBy_98 ?_
    exact go_subL (L' := [some (.ref x0), some (.int x1), some (.int x2), some (.int x3), some (.int x4), some (.int x5), some (.int x6), some (.int x7), some (.int x8), some (.int x9), some (.int x10), none, none]) (by simp [subL, va_rf]) (oX12_yearBy_115 hd hs hk)
noncomputable def fX12_yearBy_37b (h : Hp) (x0 : Nat) (x1 : Int32) (x2 : Int32) (x3 : Int32) (x4 : Int32) (x5 : Int32) (x6 : Int32) (x7 : Int32) (x8 : Int32) (x9 : Int32) (x10 : Int32) : Option ((Int32 × Int32 × Int32 × Int32 × Int32 × Int32) ⊕ Int32) :=
  (gN h 12 x0 1).bind fun v5 =>
  (aI 0 h v5 (1 : Int32)).bind fun v6 =>
  if v6 ≤ x10 then (
  (fX12_yearBy_178 h x0 x3 x5 x7 x8 x9).map (fun q => .inr q)) else (
    (dv x1 x6).bind fun v10 =>
    (rm v10 (10 : Int32)).bind fun v11 =>
    if v11 = 0 then (
      fX12_yearBy_90 h x0 x1 x2 x3 x4 x5 x6 x7 x8 x9 x10 (0 : Int32)) else (
      (gN h 12 x0 18).bind fun v12 =>
      (fX12_dropsIn h x2 x10).bind fun y13 =>
      (fX12_growOf h x3 x10 y13 v11 x4).bind fun y14 =>
      (aI 0 h v12 y14).bind fun v15 =>
      fX12_yearBy_90 h x0 x1 x2 x3 x4 x5 x6 x7 x8 x9 x10 (v11 - v15)))
noncomputable def fX12_yearBy_37 (h : Hp) (x0 : Nat) (x1 : Int32) (x2 : Int32) (x3 : Int32) (x4 : Int32) (x5 : Int32) (x6 : Int32) (x7 : Int32) (x8 : Int32) (x9 : Int32) (x10 : Int32) : Option Int32 := lpw (σ := (Int32 × Int32 × Int32 × Int32 × Int32 × Int32)) (fun s => fX12_yearBy_37b h x0 x1 x2 x3 x4 s.1 s.2.1 s.2.2.1 s.2.2.2.1 s.2.2.2.2.1 s.2.2.2.2.2) (x5, x6, x7, x8, x9, x10)
theorem oX12_yearBy_37b {d : Nat} (hd : 2 ≤ d) {h : Hp} {x0 : Nat} {x1 : Int32} {x2 : Int32} {x3 : Int32} {x4 : Int32} {x5 : Int32} {x6 : Int32} {x7 : Int32} {x8 : Int32} {x9 : Int32} {x10 : Int32} {rf : Option Value} {hf : Hp} {x : ((Int32 × Int32 × Int32 × Int32 × Int32 × Int32) ⊕ Int32)} (hs : fX12_yearBy_37b h x0 x1 x2 x3 x4 x5 x6 x7 x8 x9 x10 = some x) (hk : (Kx (pX12_yearBy_37 d h x0 x1 x2 x3 x4 rf hf) (kX12_yearBy h rf hf)) x) : Go d mX12_yearBy 37 [some (.ref x0), some (.int x1), some (.int x2), some (.int x3), some (.int x4), some (.int x5), some (.int x6), some (.int x7), some (.int x8), some (.int x9), some (.int x10), none, none] [] h rf hf := by
  unfold fX12_yearBy_37b at hs
  refine go_iload rfl dX12_yearBy_37 ?_
  refine go_aload_n (k4 := 0) rfl (Or.inr ⟨_, rfl⟩) dX12_yearBy_39 ?_
  obtain ⟨v5, ev5, hs⟩ := bindS hs
  refine go_gN fl_RX12_13 ev5 dX12_yearBy_40 ?_
  refine go_iconst (v := 1) (by decide) dX12_yearBy_43 ?_
  obtain ⟨v6, ev6, hs⟩ := bindS hs
  refine go_aIi ev6 dX12_yearBy_44 ?_
  refine go_icmp_ge (tgt := 178) (by decide) dX12_yearBy_45 (fun c => ?_) (fun c => ?_)
  · have hs := if_t c hs
    obtain ⟨q, hs2, hq⟩ := mapS hs
    clear hs
    subst hq
    exact go_subL (L' := [some (.ref x0), none, none, some (.int x3), none, some (.int x5), none, some (.int x7), some (.int x8), some (.int x9), none, none, none]) (by simp [subL, va_rf]) (oX12_yearBy_178 hd hs2 hk)
  · have hs := if_f c hs
    refine go_iload_n (k4 := 1) rfl dX12_yearBy_48 ?_
    refine go_iload rfl dX12_yearBy_49 ?_
    obtain ⟨v10, ev10, hs⟩ := bindS hs
    refine go_dv ev10 dX12_yearBy_51 ?_
    refine go_bipush (v := 10) (by decide) dX12_yearBy_52 ?_
    obtain ⟨v11, ev11, hs⟩ := bindS hs
    refine go_rm ev11 dX12_yearBy_54 ?_
    refine go_istore (L' := [some (.ref x0), some (.int x1), some (.int x2), some (.int x3), some (.int x4), some (.int x5), some (.int x6), some (.int x7), some (.int x8), some (.int x9), some (.int x10), some (.int v11), none]) (by decide) rfl dX12_yearBy_55 ?_
    refine go_iload rfl dX12_yearBy_57 ?_
    refine go_at 59 rfl ?_
    refine go_if_ne (tgt := 66) (by decide) dX12_yearBy_59 (fun c => ?_) (fun c => ?_)
    · have hs := if_f c hs
      refine go_iload rfl dX12_yearBy_66 ?_
      refine go_aload_n (k4 := 0) rfl (Or.inr ⟨_, rfl⟩) dX12_yearBy_68 ?_
      obtain ⟨v12, ev12, hs⟩ := bindS hs
      refine go_gN fl_RX12_36 ev12 dX12_yearBy_69 ?_
      refine go_iload_n (k4 := 3) rfl dX12_yearBy_72 ?_
      refine go_iload rfl dX12_yearBy_73 ?_
      refine go_iload_n (k4 := 2) rfl dX12_yearBy_75 ?_
      refine go_iload rfl dX12_yearBy_76 ?_
      refine go_at 78 rfl ?_
      obtain ⟨y13, ey13, hs⟩ := bindS hs
      refine go_S1 (As := [.int x2, .int x10]) (st := [.int x10, .int x3, .ref v12, .int v11]) (oX12_dropsIn (d := d - 1) (by omega) ey13) (by omega) mb_X12_dropsIn lm_RX12_248 ms_X12_dropsIn (Nat.le_of_ble_eq_true rfl) rfl dX12_yearBy_78 ?_
      refine go_iload rfl dX12_yearBy_81 ?_
      refine go_iload rfl dX12_yearBy_83 ?_
      obtain ⟨y14, ey14, hs⟩ := bindS hs
      refine go_S1 (As := [.int x3, .int x10, .int y13, .int v11, .int x4]) (st := [.ref v12, .int v11]) (oX12_growOf (d := d - 1) (by omega) ey14) (by omega) mb_X12_growOf lm_RX12_259 ms_X12_growOf (Nat.le_of_ble_eq_true rfl) rfl dX12_yearBy_85 ?_
      obtain ⟨v15, ev15, hs⟩ := bindS hs
      refine go_aIi ev15 dX12_yearBy_88 ?_
      refine go_isub dX12_yearBy_89 ?_
      exact go_subL (L' := [some (.ref x0), some (.int x1), some (.int x2), some (.int x3), some (.int x4), some (.int x5), some (.int x6), some (.int x7), some (.int x8), some (.int x9), some (.int x10), none, none]) (by simp [subL, va_rf]) (oX12_yearBy_90 hd hs hk)
    · have hs := if_t c hs
      refine go_iconst (v := 0) (by decide) dX12_yearBy_62 ?_
      refine go_goto (tgt := 90) (by decide) dX12_yearBy_63 ?_
      exact go_subL (L' := [some (.ref x0), some (.int x1), some (.int x2), some (.int x3), some (.int x4), some (.int x5), some (.int x6), some (.int x7), some (.int x8), some (.int x9), some (.int x10), none, none]) (by simp [subL, va_rf]) (oX12_yearBy_90 hd hs hk)
theorem oX12_yearBy_37 {d : Nat} (hd : 2 ≤ d) {h : Hp} {x0 : Nat} {x1 : Int32} {x2 : Int32} {x3 : Int32} {x4 : Int32} {x5 : Int32} {x6 : Int32} {x7 : Int32} {x8 : Int32} {x9 : Int32} {x10 : Int32} {rf : Option Value} {hf : Hp} {x : Int32} (hs : fX12_yearBy_37 h x0 x1 x2 x3 x4 x5 x6 x7 x8 x9 x10 = some x) (hk : (kX12_yearBy h rf hf) x) : Go d mX12_yearBy 37 [some (.ref x0), some (.int x1), some (.int x2), some (.int x3), some (.int x4), some (.int x5), some (.int x6), some (.int x7), some (.int x8), some (.int x9), some (.int x10), none, none] [] h rf hf := by
  unfold fX12_yearBy_37 at hs
  exact lpw_go (P := pX12_yearBy_37 d h x0 x1 x2 x3 x4 rf hf) (fun s x hs hk => oX12_yearBy_37b hd hs hk) (x5, x6, x7, x8, x9, x10) x hs hk
noncomputable def fX12_yearBy (h : Hp) (x0 : Nat) (x1 : Int32) (x2 : Int32) (x3 : Int32) : Option Int32 :=
  (fX12_hasFallen h x1).bind fun y1 =>
  if y1 = 0 then (
    gO h 12 x0 (
    (fX12_metIn h x0 x1).bind fun y2 =>
    (fX12_bitsOf h y2).bind fun y4 =>
    fX12_yearBy_37 h x0 x1 x2 x3 y4 (0 : Int32) (1 : Int32) (0 : Int32) (0 : Int32) (0 : Int32) (0 : Int32))) else (
    some (x1))
theorem oX12_yearBy_0 {d : Nat} (hd : 2 ≤ d) {h : Hp} {x0 : Nat} {x1 : Int32} {x2 : Int32} {x3 : Int32} {rf : Option Value} {hf : Hp} {x : Int32} (hs : fX12_yearBy h x0 x1 x2 x3 = some x) (hk : (kX12_yearBy h rf hf) x) : Go d mX12_yearBy 0 [some (.ref x0), some (.int x1), some (.int x2), some (.int x3), none, none, none, none, none, none, none, none, none] [] h rf hf := by
  unfold fX12_yearBy at hs
  refine go_iload_n (k4 := 1) rfl dX12_yearBy_0 ?_
  obtain ⟨y1, ey1, hs⟩ := bindS hs
  refine go_S1 (As := [.int x1]) (st := []) (oX12_hasFallen (d := d - 1) (by omega) ey1) (by omega) mb_X12_hasFallen lm_RX12_245 ms_X12_hasFallen (Nat.le_of_ble_eq_true rfl) rfl dX12_yearBy_1 ?_
  refine go_if_eq (tgt := 9) (by decide) dX12_yearBy_4 (fun c => ?_) (fun c => ?_)
  · have hs := if_t c hs
    refine go_aload_n (k4 := 0) rfl (Or.inr ⟨_, rfl⟩) dX12_yearBy_9 ?_
    refine go_iload_n (k4 := 1) rfl dX12_yearBy_10 ?_
    obtain ⟨g3, hs⟩ := gO_at hs
    obtain ⟨y2, ey2, hs⟩ := bindS hs
    refine go_V1 (As := [.int x1]) (st := []) g3 rfl rfl (oX12_metIn (d := d - 1) (by omega) ey2) (by omega) mb_X12_metIn lm_RX12_233 mi_X12_metIn (Nat.le_of_ble_eq_true rfl) rfl dX12_yearBy_11 ?_
    obtain ⟨y4, ey4, hs⟩ := bindS hs
    refine go_S1 (As := [.int y2]) (st := []) (oX12_bitsOf (d := d - 1) (by omega) ey4) (by omega) mb_X12_bitsOf lm_RX12_236 ms_X12_bitsOf (Nat.le_of_ble_eq_true rfl) rfl dX12_yearBy_14 ?_
    refine go_istore (L' := [some (.ref x0), some (.int x1), some (.int x2), some (.int x3), some (.int y4), none, none, none, none, none, none, none, none]) (by decide) rfl dX12_yearBy_17 ?_
    refine go_iconst (v := 0) (by decide) dX12_yearBy_19 ?_
    refine go_istore (L' := [some (.ref x0), some (.int x1), some (.int x2), some (.int x3), some (.int y4), some (.int (0 : Int32)), none, none, none, none, none, none, none]) (by decide) rfl dX12_yearBy_20 ?_
    refine go_at 22 rfl ?_
    refine go_iconst (v := 1) (by decide) dX12_yearBy_22 ?_
    refine go_istore (L' := [some (.ref x0), some (.int x1), some (.int x2), some (.int x3), some (.int y4), some (.int (0 : Int32)), some (.int (1 : Int32)), none, none, none, none, none, none]) (by decide) rfl dX12_yearBy_23 ?_
    refine go_iconst (v := 0) (by decide) dX12_yearBy_25 ?_
    refine go_istore (L' := [some (.ref x0), some (.int x1), some (.int x2), some (.int x3), some (.int y4), some (.int (0 : Int32)), some (.int (1 : Int32)), some (.int (0 : Int32)), none, none, none, none, none]) (by decide) rfl dX12_yearBy_26 ?_
    refine go_iconst (v := 0) (by decide) dX12_yearBy_28 ?_
    refine go_istore (L' := [some (.ref x0), some (.int x1), some (.int x2), some (.int x3), some (.int y4), some (.int (0 : Int32)), some (.int (1 : Int32)), some (.int (0 : Int32)), some (.int (0 : Int32)), none, none, none, none]) (by decide) rfl dX12_yearBy_29 ?_
    refine go_iconst (v := 0) (by decide) dX12_yearBy_31 ?_
    refine go_istore (L' := [some (.ref x0), some (.int x1), some (.int x2), some (.int x3), some (.int y4), some (.int (0 : Int32)), some (.int (1 : Int32)), some (.int (0 : Int32)), some (.int (0 : Int32)), some (.int (0 : Int32)), none, none, none]) (by decide) rfl dX12_yearBy_32 ?_
    refine go_at 34 rfl ?_
    refine go_iconst (v := 0) (by decide) dX12_yearBy_34 ?_
    refine go_istore (L' := [some (.ref x0), some (.int x1), some (.int x2), some (.int x3), some (.int y4), some (.int (0 : Int32)), some (.int (1 : Int32)), some (.int (0 : Int32)), some (.int (0 : Int32)), some (.int (0 : Int32)), some (.int (0 : Int32)), none, none]) (by decide) rfl dX12_yearBy_35 ?_
    exact go_subL (L' := [some (.ref x0), some (.int x1), some (.int x2), some (.int x3), some (.int y4), some (.int (0 : Int32)), some (.int (1 : Int32)), some (.int (0 : Int32)), some (.int (0 : Int32)), some (.int (0 : Int32)), some (.int (0 : Int32)), none, none]) (by simp [subL, va_rf]) (oX12_yearBy_37 hd hs hk)
  · have hs := if_f c hs
    refine go_iload_n (k4 := 1) rfl dX12_yearBy_7 ?_
    obtain rfl := Option.some.inj hs
    obtain ⟨rfl, rfl⟩ := hk
    exact go_iret rfl dX12_yearBy_8
theorem oX12_yearBy {d : Nat} (hd : 2 ≤ d) {h : Hp} {x0 : Nat} {x1 : Int32} {x2 : Int32} {x3 : Int32} {y : Int32} (hs : fX12_yearBy h x0 x1 x2 x3 = some y) : Call d mX12_yearBy [.ref x0, .int x1, .int x2, .int x3] h (some (.int y)) h := call_of (by decide +kernel) (Nat.le_of_ble_eq_true rfl) (show Go d mX12_yearBy 0 [some (.ref x0), some (.int x1), some (.int x2), some (.int x3), none, none, none, none, none, none, none, none, none] [] h _ _ from go_subL (by simp [subL]) (oX12_yearBy_0 hd hs ⟨rfl, rfl⟩))
abbrev kX12_pair (rf : Option Value) (hf : Hp) : (Int32 × Hp) → Prop := fun y => rf = some (.int y.1) ∧ hf = y.2
noncomputable def fX12_pair (h : Hp) (x0 : Nat) (x1 : Int32) (x2 : Int32) : Option (Int32 × Hp) :=
  (sV h 12 x0 0 (.int (0 : Int32))).bind fun h1 =>
  gO h1 12 x0 (
  (fX12_isPair h1 x0 (x1.toInt64)).bind fun y2 =>
  if y2 = 0 then (
    some (((-2 : Int32), h1))) else (
    if x2 = 0 then (
      (gN h1 12 x0 1).bind fun v4 =>
      (aI 0 h1 v4 ((15 : Int32) + x1)).bind fun v5 =>
      some ((v5, h1))) else (
  if x2 = 1 then (
      (gN h1 12 x0 1).bind fun v6 =>
      (aI 0 h1 v6 ((19 : Int32) + x1)).bind fun v7 =>
      some ((v7, h1))) else (
  if x2 = 2 then (
      (gN h1 12 x0 1).bind fun v8 =>
      (aI 0 h1 v8 (23 : Int32)).bind fun v9 =>
      (fX12_dropsIn h1 v9 x1).bind fun y10 =>
      some ((y10, h1))) else (
  if x2 = 3 then (
      (gN h1 12 x0 1).bind fun v11 =>
      (aI 0 h1 v11 ((11 : Int32) + x1)).bind fun v12 =>
      some ((v12, h1))) else (
      some (((-2 : Int32), h1))))))))
theorem oX12_pair_0 {d : Nat} (hd : 2 ≤ d) {h : Hp} {x0 : Nat} {x1 : Int32} {x2 : Int32} {rf : Option Value} {hf : Hp} {x : (Int32 × Hp)} (hs : fX12_pair h x0 x1 x2 = some x) (hk : (kX12_pair rf hf) x) : Go d mX12_pair 0 [some (.ref x0), some (.int x1), some (.int x2)] [] h rf hf := by
  unfold fX12_pair at hs
  refine go_aload_n (k4 := 0) rfl (Or.inr ⟨_, rfl⟩) dX12_pair_0 ?_
  refine go_iconst (v := 0) (by decide) dX12_pair_1 ?_
  obtain ⟨h1, eh1, hs⟩ := bindS hs
  refine go_sV fw_RX12_1 eh1 rfl rfl dX12_pair_2 ?_
  refine go_aload_n (k4 := 0) rfl (Or.inr ⟨_, rfl⟩) dX12_pair_5 ?_
  refine go_iload_n (k4 := 1) rfl dX12_pair_6 ?_
  refine go_i2l dX12_pair_7 ?_
  obtain ⟨g3, hs⟩ := gO_at hs
  obtain ⟨y2, ey2, hs⟩ := bindS hs
  refine go_V1 (As := [.long (x1.toInt64)]) (st := []) g3 rfl rfl (oX12_isPair (d := d - 1) (by omega) ey2) (by omega) mb_X12_isPair lm_RX12_271 mi_X12_isPair (Nat.le_of_ble_eq_true rfl) rfl dX12_pair_8 ?_
  refine go_at 11 rfl ?_
  refine go_if_ne (tgt := 17) (by decide) dX12_pair_11 (fun c => ?_) (fun c => ?_)
  · have hs := if_f c hs
    refine go_iload_n (k4 := 2) rfl dX12_pair_17 ?_
    by_cases c0 : x2 = 0
    · have hs := if_t c0 hs
      refine go_tableIn (off := 30) (tgt := 48) (by rw [c0]; decide) (by rw [c0]; decide) (by rw [c0]; rfl) (by decide) dX12_pair_18 ?_
      refine go_aload_n (k4 := 0) rfl (Or.inr ⟨_, rfl⟩) dX12_pair_48 ?_
      obtain ⟨v4, ev4, hs⟩ := bindS hs
      refine go_gN fl_RX12_13 ev4 dX12_pair_49 ?_
      refine go_bipush (v := 15) (by decide) dX12_pair_52 ?_
      refine go_iload_n (k4 := 1) rfl dX12_pair_54 ?_
      refine go_iadd dX12_pair_55 ?_
      obtain ⟨v5, ev5, hs⟩ := bindS hs
      refine go_aIi ev5 dX12_pair_56 ?_
      obtain rfl := Option.some.inj hs
      obtain ⟨rfl, rfl⟩ := hk
      exact go_iret rfl dX12_pair_57
    · have hs := if_f c0 hs
      by_cases c1 : x2 = 1
      · have hs := if_t c1 hs
        refine go_tableIn (off := 40) (tgt := 58) (by rw [c1]; decide) (by rw [c1]; decide) (by rw [c1]; rfl) (by decide) dX12_pair_18 ?_
        refine go_aload_n (k4 := 0) rfl (Or.inr ⟨_, rfl⟩) dX12_pair_58 ?_
        obtain ⟨v6, ev6, hs⟩ := bindS hs
        refine go_gN fl_RX12_13 ev6 dX12_pair_59 ?_
        refine go_bipush (v := 19) (by decide) dX12_pair_62 ?_
        refine go_iload_n (k4 := 1) rfl dX12_pair_64 ?_
        refine go_iadd dX12_pair_65 ?_
        obtain ⟨v7, ev7, hs⟩ := bindS hs
        refine go_aIi ev7 dX12_pair_66 ?_
        obtain rfl := Option.some.inj hs
        obtain ⟨rfl, rfl⟩ := hk
        exact go_iret rfl dX12_pair_67
      · have hs := if_f c1 hs
        by_cases c2 : x2 = 2
        · have hs := if_t c2 hs
          refine go_tableIn (off := 50) (tgt := 68) (by rw [c2]; decide) (by rw [c2]; decide) (by rw [c2]; rfl) (by decide) dX12_pair_18 ?_
          refine go_aload_n (k4 := 0) rfl (Or.inr ⟨_, rfl⟩) dX12_pair_68 ?_
          obtain ⟨v8, ev8, hs⟩ := bindS hs
          refine go_gN fl_RX12_13 ev8 dX12_pair_69 ?_
          refine go_bipush (v := 23) (by decide) dX12_pair_72 ?_
          obtain ⟨v9, ev9, hs⟩ := bindS hs
          refine go_aIi ev9 dX12_pair_74 ?_
          refine go_iload_n (k4 := 1) rfl dX12_pair_75 ?_
          obtain ⟨y10, ey10, hs⟩ := bindS hs
          refine go_S1 (As := [.int v9, .int x1]) (st := []) (oX12_dropsIn (d := d - 1) (by omega) ey10) (by omega) mb_X12_dropsIn lm_RX12_248 ms_X12_dropsIn (Nat.le_of_ble_eq_true rfl) rfl dX12_pair_76 ?_
          obtain rfl := Option.some.inj hs
          obtain ⟨rfl, rfl⟩ := hk
          exact go_iret rfl dX12_pair_79
        · have hs := if_f c2 hs
          by_cases c3 : x2 = 3
          · have hs := if_t c3 hs
            refine go_tableIn (off := 62) (tgt := 80) (by rw [c3]; decide) (by rw [c3]; decide) (by rw [c3]; rfl) (by decide) dX12_pair_18 ?_
            refine go_aload_n (k4 := 0) rfl (Or.inr ⟨_, rfl⟩) dX12_pair_80 ?_
            obtain ⟨v11, ev11, hs⟩ := bindS hs
            refine go_gN fl_RX12_13 ev11 dX12_pair_81 ?_
            refine go_bipush (v := 11) (by decide) dX12_pair_84 ?_
            refine go_iload_n (k4 := 1) rfl dX12_pair_86 ?_
            refine go_iadd dX12_pair_87 ?_
            obtain ⟨v12, ev12, hs⟩ := bindS hs
            refine go_aIi ev12 dX12_pair_88 ?_
            obtain rfl := Option.some.inj hs
            obtain ⟨rfl, rfl⟩ := hk
            exact go_iret rfl dX12_pair_89
          · have hs := if_f c3 hs
            refine go_tableOut (tgt := 90) (tab_out (0) (3) 3 (by decide) (by decide) (by decide) (fun i hi => by
              match i, hi with
              | 0, _ => rw [show Int32.ofInt ((0 : Int) + ((0 : Nat) : Int)) = (0 : Int32) by decide]; exact c0
              | 1, _ => rw [show Int32.ofInt ((0 : Int) + ((1 : Nat) : Int)) = (1 : Int32) by decide]; exact c1
              | 2, _ => rw [show Int32.ofInt ((0 : Int) + ((2 : Nat) : Int)) = (2 : Int32) by decide]; exact c2
              | 3, _ => rw [show Int32.ofInt ((0 : Int) + ((3 : Nat) : Int)) = (3 : Int32) by decide]; exact c3
              | k + 4, hi => omega)) (by decide) dX12_pair_18 ?_
            refine go_bipush (v := -2) (by decide) dX12_pair_90 ?_
            obtain rfl := Option.some.inj hs
            obtain ⟨rfl, rfl⟩ := hk
            exact go_iret rfl dX12_pair_92
  · have hs := if_t c hs
    refine go_bipush (v := -2) (by decide) dX12_pair_14 ?_
    obtain rfl := Option.some.inj hs
    obtain ⟨rfl, rfl⟩ := hk
    exact go_iret rfl dX12_pair_16
theorem oX12_pair {d : Nat} (hd : 2 ≤ d) {h : Hp} {x0 : Nat} {x1 : Int32} {x2 : Int32} {y : (Int32 × Hp)} (hs : fX12_pair h x0 x1 x2 = some y) : Call d mX12_pair [.ref x0, .int x1, .int x2] h (some (.int y.1)) (y.2) := call_of (by decide +kernel) (Nat.le_of_ble_eq_true rfl) (show Go d mX12_pair 0 [some (.ref x0), some (.int x1), some (.int x2)] [] h _ _ from go_subL (by simp [subL]) (oX12_pair_0 hd hs ⟨rfl, rfl⟩))
abbrev kX12_grown (rf : Option Value) (hf : Hp) : (Int32 × Hp) → Prop := fun y => rf = some (.int y.1) ∧ hf = y.2
noncomputable def fX12_grown_38 (h : Hp)  : Option (Int32 × Hp) :=
  some (((-99000003 : Int32), h))
theorem oX12_grown_38 {d : Nat} (hd : 3 ≤ d) {h : Hp} {rf : Option Value} {hf : Hp} {x : (Int32 × Hp)} (hs : fX12_grown_38 h  = some x) (hk : (kX12_grown rf hf) x) : Go d mX12_grown 38 [none, none, none, none] [] h rf hf := by
  unfold fX12_grown_38 at hs
  refine go_ldcw lc_RX12_281 dX12_grown_38 ?_
  obtain rfl := Option.some.inj hs
  obtain ⟨rfl, rfl⟩ := hk
  exact go_iret rfl dX12_grown_41
noncomputable def fX12_grown_94 (h : Hp) (s0 : Int32) : Option (Int32 × Hp) :=
  some ((s0, h))
theorem oX12_grown_94 {d : Nat} (hd : 3 ≤ d) {h : Hp} {s0 : Int32} {rf : Option Value} {hf : Hp} {x : (Int32 × Hp)} (hs : fX12_grown_94 h s0 = some x) (hk : (kX12_grown rf hf) x) : Go d mX12_grown 94 [none, none, none, none] [.int s0] h rf hf := by
  unfold fX12_grown_94 at hs
  obtain rfl := Option.some.inj hs
  obtain ⟨rfl, rfl⟩ := hk
  exact go_iret rfl dX12_grown_94
noncomputable def fX12_grown (h : Hp) (x0 : Nat) (x1 : Int32) (x2 : Int32) (x3 : Int32) : Option (Int32 × Hp) :=
  (sV h 12 x0 0 (.int (0 : Int32))).bind fun h1 =>
  gO h1 12 x0 (
  (fX12_isPair h1 x0 (x1.toInt64)).bind fun y2 =>
  if y2 = 0 then (
    some (((-99000002 : Int32), h1))) else (
    (fX12_within h1 (x2.toInt64) (0 : Int64) (4 : Int64)).bind fun y4 =>
    if y4 = 0 then (
    fX12_grown_38 h1 ) else (
      (fX12_isDry h1 (x3.toInt64)).bind fun y5 =>
      if y5 = 0 then (
      fX12_grown_38 h1 ) else (
        (gN h1 12 x0 1).bind fun v6 =>
        (aI 0 h1 v6 ((15 : Int32) + x1)).bind fun v7 =>
        if v7 = 0 then (
          fX12_grown_94 h1 (0 : Int32)) else (
          (gN h1 12 x0 1).bind fun v8 =>
          (aI 0 h1 v8 ((19 : Int32) + x1)).bind fun v9 =>
          (gN h1 12 x0 1).bind fun v10 =>
          (aI 0 h1 v10 ((15 : Int32) + x1)).bind fun v11 =>
          gO h1 12 x0 (
          (fX12_standNow h1 x0).bind fun y12 =>
          gO h1 12 x0 (
          (fX12_metIn h1 x0 y12).bind fun y14 =>
          (fX12_bitsOf h1 y14).bind fun y16 =>
          gO h1 12 x0 (
          (fX12_growsBy h1 x0 x1 v9 x2 v11 y16 x3).bind fun y17 =>
          fX12_grown_94 y17.2 y17.1))))))))
theorem oX12_grown_0 {d : Nat} (hd : 3 ≤ d) {h : Hp} {x0 : Nat} {x1 : Int32} {x2 : Int32} {x3 : Int32} {rf : Option Value} {hf : Hp} {x : (Int32 × Hp)} (hs : fX12_grown h x0 x1 x2 x3 = some x) (hk : (kX12_grown rf hf) x) : Go d mX12_grown 0 [some (.ref x0), some (.int x1), some (.int x2), some (.int x3)] [] h rf hf := by
  unfold fX12_grown at hs
  refine go_aload_n (k4 := 0) rfl (Or.inr ⟨_, rfl⟩) dX12_grown_0 ?_
  refine go_iconst (v := 0) (by decide) dX12_grown_1 ?_
  obtain ⟨h1, eh1, hs⟩ := bindS hs
  refine go_sV fw_RX12_1 eh1 rfl rfl dX12_grown_2 ?_
  refine go_aload_n (k4 := 0) rfl (Or.inr ⟨_, rfl⟩) dX12_grown_5 ?_
  refine go_iload_n (k4 := 1) rfl dX12_grown_6 ?_
  refine go_i2l dX12_grown_7 ?_
  obtain ⟨g3, hs⟩ := gO_at hs
  obtain ⟨y2, ey2, hs⟩ := bindS hs
  refine go_V1 (As := [.long (x1.toInt64)]) (st := []) g3 rfl rfl (oX12_isPair (d := d - 1) (by omega) ey2) (by omega) mb_X12_isPair lm_RX12_271 mi_X12_isPair (Nat.le_of_ble_eq_true rfl) rfl dX12_grown_8 ?_
  refine go_at 11 rfl ?_
  refine go_if_ne (tgt := 18) (by decide) dX12_grown_11 (fun c => ?_) (fun c => ?_)
  · have hs := if_f c hs
    refine go_iload_n (k4 := 2) rfl dX12_grown_18 ?_
    refine go_i2l dX12_grown_19 ?_
    refine go_lconst (v := 0) (by decide) dX12_grown_20 ?_
    refine go_ldc2 lc_RX12_276 dX12_grown_21 ?_
    obtain ⟨y4, ey4, hs⟩ := bindS hs
    refine go_S1 (As := [.long (x2.toInt64), .long (0 : Int64), .long (4 : Int64)]) (st := []) (oX12_within (d := d - 1) (by omega) ey4) (by omega) mb_X12_within lm_RX12_155 ms_X12_within (Nat.le_of_ble_eq_true rfl) rfl dX12_grown_24 ?_
    refine go_if_eq (tgt := 38) (by decide) dX12_grown_27 (fun c => ?_) (fun c => ?_)
    · have hs := if_t c hs
      exact go_subL (L' := [none, none, none, none]) (by simp [subL, va_rf]) (oX12_grown_38 hd hs hk)
    · have hs := if_f c hs
      refine go_iload_n (k4 := 3) rfl dX12_grown_30 ?_
      refine go_i2l dX12_grown_31 ?_
      obtain ⟨y5, ey5, hs⟩ := bindS hs
      refine go_S1 (As := [.long (x3.toInt64)]) (st := []) (oX12_isDry (d := d - 1) (by omega) ey5) (by omega) mb_X12_isDry lm_RX12_278 ms_X12_isDry (Nat.le_of_ble_eq_true rfl) rfl dX12_grown_32 ?_
      refine go_if_ne (tgt := 42) (by decide) dX12_grown_35 (fun c => ?_) (fun c => ?_)
      · have hs := if_f c hs
        refine go_aload_n (k4 := 0) rfl (Or.inr ⟨_, rfl⟩) dX12_grown_42 ?_
        obtain ⟨v6, ev6, hs⟩ := bindS hs
        refine go_gN fl_RX12_13 ev6 dX12_grown_43 ?_
        refine go_bipush (v := 15) (by decide) dX12_grown_46 ?_
        refine go_iload_n (k4 := 1) rfl dX12_grown_48 ?_
        refine go_iadd dX12_grown_49 ?_
        obtain ⟨v7, ev7, hs⟩ := bindS hs
        refine go_aIi ev7 dX12_grown_50 ?_
        refine go_if_ne (tgt := 58) (by decide) dX12_grown_51 (fun c => ?_) (fun c => ?_)
        · have hs := if_f c hs
          refine go_aload_n (k4 := 0) rfl (Or.inr ⟨_, rfl⟩) dX12_grown_58 ?_
          refine go_iload_n (k4 := 1) rfl dX12_grown_59 ?_
          refine go_aload_n (k4 := 0) rfl (Or.inr ⟨_, rfl⟩) dX12_grown_60 ?_
          obtain ⟨v8, ev8, hs⟩ := bindS hs
          refine go_gN fl_RX12_13 ev8 dX12_grown_61 ?_
          refine go_bipush (v := 19) (by decide) dX12_grown_64 ?_
          refine go_iload_n (k4 := 1) rfl dX12_grown_66 ?_
          refine go_iadd dX12_grown_67 ?_
          refine go_at 68 rfl ?_
          obtain ⟨v9, ev9, hs⟩ := bindS hs
          refine go_aIi ev9 dX12_grown_68 ?_
          refine go_iload_n (k4 := 2) rfl dX12_grown_69 ?_
          refine go_aload_n (k4 := 0) rfl (Or.inr ⟨_, rfl⟩) dX12_grown_70 ?_
          obtain ⟨v10, ev10, hs⟩ := bindS hs
          refine go_gN fl_RX12_13 ev10 dX12_grown_71 ?_
          refine go_bipush (v := 15) (by decide) dX12_grown_74 ?_
          refine go_iload_n (k4 := 1) rfl dX12_grown_76 ?_
          refine go_iadd dX12_grown_77 ?_
          obtain ⟨v11, ev11, hs⟩ := bindS hs
          refine go_aIi ev11 dX12_grown_78 ?_
          refine go_at 79 rfl ?_
          refine go_aload_n (k4 := 0) rfl (Or.inr ⟨_, rfl⟩) dX12_grown_79 ?_
          refine go_aload_n (k4 := 0) rfl (Or.inr ⟨_, rfl⟩) dX12_grown_80 ?_
          obtain ⟨g13, hs⟩ := gO_at hs
          obtain ⟨y12, ey12, hs⟩ := bindS hs
          refine go_V1 (As := []) (st := [.ref x0, .int v11, .int x2, .int v9, .int x1, .ref x0]) g13 rfl rfl (oX12_standNow (d := d - 1) (by omega) ey12) (by omega) mb_X12_standNow lm_RX12_282 mi_X12_standNow (Nat.le_of_ble_eq_true rfl) rfl dX12_grown_81 ?_
          obtain ⟨g15, hs⟩ := gO_at hs
          obtain ⟨y14, ey14, hs⟩ := bindS hs
          refine go_V1 (As := [.int y12]) (st := [.int v11, .int x2, .int v9, .int x1, .ref x0]) g15 rfl rfl (oX12_metIn (d := d - 1) (by omega) ey14) (by omega) mb_X12_metIn lm_RX12_233 mi_X12_metIn (Nat.le_of_ble_eq_true rfl) rfl dX12_grown_84 ?_
          obtain ⟨y16, ey16, hs⟩ := bindS hs
          refine go_S1 (As := [.int y14]) (st := [.int v11, .int x2, .int v9, .int x1, .ref x0]) (oX12_bitsOf (d := d - 1) (by omega) ey16) (by omega) mb_X12_bitsOf lm_RX12_236 ms_X12_bitsOf (Nat.le_of_ble_eq_true rfl) rfl dX12_grown_87 ?_
          refine go_iload_n (k4 := 3) rfl dX12_grown_90 ?_
          obtain ⟨g18, hs⟩ := gO_at hs
          obtain ⟨y17, ey17, hs⟩ := bindS hs
          refine go_V1 (As := [.int x1, .int v9, .int x2, .int v11, .int y16, .int x3]) (st := []) g18 rfl rfl (oX12_growsBy (d := d - 1) (by omega) ey17) (by omega) mb_X12_growsBy lm_RX12_251 mi_X12_growsBy (Nat.le_of_ble_eq_true rfl) rfl dX12_grown_91 ?_
          exact go_subL (L' := [none, none, none, none]) (by simp [subL, va_rf]) (oX12_grown_94 hd hs hk)
        · have hs := if_t c hs
          refine go_iconst (v := 0) (by decide) dX12_grown_54 ?_
          refine go_goto (tgt := 94) (by decide) dX12_grown_55 ?_
          exact go_subL (L' := [none, none, none, none]) (by simp [subL, va_rf]) (oX12_grown_94 hd hs hk)
      · have hs := if_t c hs
        exact go_subL (L' := [none, none, none, none]) (by simp [subL, va_rf]) (oX12_grown_38 hd hs hk)
  · have hs := if_t c hs
    refine go_ldcw lc_RX12_275 dX12_grown_14 ?_
    obtain rfl := Option.some.inj hs
    obtain ⟨rfl, rfl⟩ := hk
    exact go_iret rfl dX12_grown_17
theorem oX12_grown {d : Nat} (hd : 3 ≤ d) {h : Hp} {x0 : Nat} {x1 : Int32} {x2 : Int32} {x3 : Int32} {y : (Int32 × Hp)} (hs : fX12_grown h x0 x1 x2 x3 = some y) : Call d mX12_grown [.ref x0, .int x1, .int x2, .int x3] h (some (.int y.1)) (y.2) := call_of (by decide +kernel) (Nat.le_of_ble_eq_true rfl) (show Go d mX12_grown 0 [some (.ref x0), some (.int x1), some (.int x2), some (.int x3)] [] h _ _ from go_subL (by simp [subL]) (oX12_grown_0 hd hs ⟨rfl, rfl⟩))
abbrev kX12_laysLeads (rf : Option Value) (hf : Hp) : Hp → Prop := fun y => rf = none ∧ hf = y
abbrev pX12_laysLeads_7 (d : Nat) (x0 : Nat) (rf : Option Value) (hf : Hp) : (Int32 × Hp) → Prop := fun s => Go d mX12_laysLeads 7 [some (.ref x0), some (.int s.1)] [] s.2 rf hf
noncomputable def fX12_laysLeads_46 (h : Hp) (x0 : Nat) (x1 : Int32) : Option ((Int32 × Hp) ⊕ Hp) :=
  some (.inl ((x1 + Int32.ofInt 1), h))
theorem oX12_laysLeads_46 {d : Nat} (hd : 1 ≤ d) {h : Hp} {x0 : Nat} {x1 : Int32} {rf : Option Value} {hf : Hp} {x : ((Int32 × Hp) ⊕ Hp)} (hs : fX12_laysLeads_46 h x0 x1 = some x) (hk : (Kx (pX12_laysLeads_7 d x0 rf hf) (kX12_laysLeads rf hf)) x) : Go d mX12_laysLeads 46 [some (.ref x0), some (.int x1)] [] h rf hf := by
  unfold fX12_laysLeads_46 at hs
  refine go_iinc (L' := [some (.ref x0), some (.int (x1 + Int32.ofInt 1))]) rfl (by decide) rfl rfl dX12_laysLeads_46 ?_
  refine go_goto (tgt := 7) (by decide) dX12_laysLeads_49 ?_
  obtain rfl := Option.some.inj hs
  exact go_subL (L' := [some (.ref x0), some (.int (x1 + Int32.ofInt 1))]) (by simp [subL, va_rf]) hk
noncomputable def fX12_laysLeads_7b (h : Hp) (x0 : Nat) (x1 : Int32) : Option ((Int32 × Hp) ⊕ Hp) :=
  if (625 : Int32) ≤ x1 then (
    some (.inr h)) else (
    gO h 12 x0 (
    (fX12_isLead h x0 (x1.toInt64)).bind fun y2 =>
    if y2 = 0 then (
      fX12_laysLeads_46 h x0 x1) else (
      (gN h 12 x0 20).bind fun v4 =>
      (gI h 12 x0 21).bind fun v5 =>
      (wI 0 h v4 v5 x1).bind fun h6 =>
      (gI h6 12 x0 21).bind fun v7 =>
      (sV h6 12 x0 21 (.int (v7 + (1 : Int32)))).bind fun h8 =>
      fX12_laysLeads_46 h8 x0 x1)))
noncomputable def fX12_laysLeads_7 (h : Hp) (x0 : Nat) (x1 : Int32) : Option Hp := lpw (σ := (Int32 × Hp)) (fun s => fX12_laysLeads_7b s.2 x0 s.1) (x1, h)
theorem oX12_laysLeads_7b {d : Nat} (hd : 1 ≤ d) {h : Hp} {x0 : Nat} {x1 : Int32} {rf : Option Value} {hf : Hp} {x : ((Int32 × Hp) ⊕ Hp)} (hs : fX12_laysLeads_7b h x0 x1 = some x) (hk : (Kx (pX12_laysLeads_7 d x0 rf hf) (kX12_laysLeads rf hf)) x) : Go d mX12_laysLeads 7 [some (.ref x0), some (.int x1)] [] h rf hf := by
  unfold fX12_laysLeads_7b at hs
  refine go_iload_n (k4 := 1) rfl dX12_laysLeads_7 ?_
  refine go_sipush (v := 625) (by decide) dX12_laysLeads_8 ?_
  refine go_icmp_ge (tgt := 52) (by decide) dX12_laysLeads_11 (fun c => ?_) (fun c => ?_)
  · have hs := if_t c hs
    obtain rfl := Option.some.inj hs
    obtain ⟨rfl, rfl⟩ := hk
    exact go_vret rfl dX12_laysLeads_52
  · have hs := if_f c hs
    refine go_aload_n (k4 := 0) rfl (Or.inr ⟨_, rfl⟩) dX12_laysLeads_14 ?_
    refine go_iload_n (k4 := 1) rfl dX12_laysLeads_15 ?_
    refine go_i2l dX12_laysLeads_16 ?_
    obtain ⟨g3, hs⟩ := gO_at hs
    obtain ⟨y2, ey2, hs⟩ := bindS hs
    refine go_V1 (As := [.long (x1.toInt64)]) (st := []) g3 rfl rfl (oX12_isLead (d := d - 1) (by omega) ey2) (by omega) mb_X12_isLead lm_RX12_288 mi_X12_isLead (Nat.le_of_ble_eq_true rfl) rfl dX12_laysLeads_17 ?_
    refine go_if_ne (tgt := 26) (by decide) dX12_laysLeads_20 (fun c => ?_) (fun c => ?_)
    · have hs := if_f c hs
      refine go_aload_n (k4 := 0) rfl (Or.inr ⟨_, rfl⟩) dX12_laysLeads_26 ?_
      obtain ⟨v4, ev4, hs⟩ := bindS hs
      refine go_gN fl_RX12_42 ev4 dX12_laysLeads_27 ?_
      refine go_aload_n (k4 := 0) rfl (Or.inr ⟨_, rfl⟩) dX12_laysLeads_30 ?_
      obtain ⟨v5, ev5, hs⟩ := bindS hs
      refine go_gI fl_RX12_285 ev5 dX12_laysLeads_31 ?_
      refine go_iload_n (k4 := 1) rfl dX12_laysLeads_34 ?_
      obtain ⟨h6, eh6, hs⟩ := bindS hs
      refine go_wIi eh6 dX12_laysLeads_35 ?_
      refine go_aload_n (k4 := 0) rfl (Or.inr ⟨_, rfl⟩) dX12_laysLeads_36 ?_
      refine go_at 37 rfl ?_
      refine go_dup rfl dX12_laysLeads_37 ?_
      obtain ⟨v7, ev7, hs⟩ := bindS hs
      refine go_gI fl_RX12_285 ev7 dX12_laysLeads_38 ?_
      refine go_iconst (v := 1) (by decide) dX12_laysLeads_41 ?_
      refine go_iadd dX12_laysLeads_42 ?_
      obtain ⟨h8, eh8, hs⟩ := bindS hs
      refine go_sV fw_RX12_285 eh8 rfl rfl dX12_laysLeads_43 ?_
      exact go_subL (L' := [some (.ref x0), some (.int x1)]) (by simp [subL, va_rf]) (oX12_laysLeads_46 hd hs hk)
    · have hs := if_t c hs
      refine go_goto (tgt := 46) (by decide) dX12_laysLeads_23 ?_
      exact go_subL (L' := [some (.ref x0), some (.int x1)]) (by simp [subL, va_rf]) (oX12_laysLeads_46 hd hs hk)
theorem oX12_laysLeads_7 {d : Nat} (hd : 1 ≤ d) {h : Hp} {x0 : Nat} {x1 : Int32} {rf : Option Value} {hf : Hp} {x : Hp} (hs : fX12_laysLeads_7 h x0 x1 = some x) (hk : (kX12_laysLeads rf hf) x) : Go d mX12_laysLeads 7 [some (.ref x0), some (.int x1)] [] h rf hf := by
  unfold fX12_laysLeads_7 at hs
  exact lpw_go (P := pX12_laysLeads_7 d x0 rf hf) (fun s x hs hk => oX12_laysLeads_7b hd hs hk) (x1, h) x hs hk
noncomputable def fX12_laysLeads (h : Hp) (x0 : Nat) : Option Hp :=
  (sV h 12 x0 21 (.int (0 : Int32))).bind fun h1 =>
  fX12_laysLeads_7 h1 x0 (0 : Int32)
theorem oX12_laysLeads_0 {d : Nat} (hd : 1 ≤ d) {h : Hp} {x0 : Nat} {rf : Option Value} {hf : Hp} {x : Hp} (hs : fX12_laysLeads h x0 = some x) (hk : (kX12_laysLeads rf hf) x) : Go d mX12_laysLeads 0 [some (.ref x0), none] [] h rf hf := by
  unfold fX12_laysLeads at hs
  refine go_aload_n (k4 := 0) rfl (Or.inr ⟨_, rfl⟩) dX12_laysLeads_0 ?_
  refine go_iconst (v := 0) (by decide) dX12_laysLeads_1 ?_
  obtain ⟨h1, eh1, hs⟩ := bindS hs
  refine go_sV fw_RX12_285 eh1 rfl rfl dX12_laysLeads_2 ?_
  refine go_iconst (v := 0) (by decide) dX12_laysLeads_5 ?_
  refine go_istore_n (k4 := 1) (L' := [some (.ref x0), some (.int (0 : Int32))]) (by decide) rfl dX12_laysLeads_6 ?_
  exact go_subL (L' := [some (.ref x0), some (.int (0 : Int32))]) (by simp [subL, va_rf]) (oX12_laysLeads_7 hd hs hk)
theorem oX12_laysLeads {d : Nat} (hd : 1 ≤ d) {h : Hp} {x0 : Nat} {y : Hp} (hs : fX12_laysLeads h x0 = some y) : Call d mX12_laysLeads [.ref x0] h (none) y := call_of (by decide +kernel) (Nat.le_of_ble_eq_true rfl) (show Go d mX12_laysLeads 0 [some (.ref x0), none] [] h _ _ from go_subL (by simp [subL]) (oX12_laysLeads_0 hd hs ⟨rfl, rfl⟩))
abbrev kX12_leadings (rf : Option Value) (hf : Hp) : (Int32 × Hp) → Prop := fun y => rf = some (.int y.1) ∧ hf = y.2
noncomputable def fX12_leadings (h : Hp) (x0 : Nat) : Option (Int32 × Hp) :=
  (sV h 12 x0 0 (.int (0 : Int32))).bind fun h1 =>
  gO h1 12 x0 (
  (fX12_laysLeads h1 x0).bind fun y2 =>
  (gI y2 12 x0 21).bind fun v4 =>
  some ((v4, y2)))
theorem oX12_leadings_0 {d : Nat} (hd : 2 ≤ d) {h : Hp} {x0 : Nat} {rf : Option Value} {hf : Hp} {x : (Int32 × Hp)} (hs : fX12_leadings h x0 = some x) (hk : (kX12_leadings rf hf) x) : Go d mX12_leadings 0 [some (.ref x0)] [] h rf hf := by
  unfold fX12_leadings at hs
  refine go_aload_n (k4 := 0) rfl (Or.inr ⟨_, rfl⟩) dX12_leadings_0 ?_
  refine go_iconst (v := 0) (by decide) dX12_leadings_1 ?_
  obtain ⟨h1, eh1, hs⟩ := bindS hs
  refine go_sV fw_RX12_1 eh1 rfl rfl dX12_leadings_2 ?_
  refine go_aload_n (k4 := 0) rfl (Or.inr ⟨_, rfl⟩) dX12_leadings_5 ?_
  obtain ⟨g3, hs⟩ := gO_at hs
  obtain ⟨y2, ey2, hs⟩ := bindS hs
  refine go_V0 (As := []) (st := []) g3 rfl rfl (oX12_laysLeads (d := d - 1) (by omega) ey2) (by omega) mb_X12_laysLeads lm_RX12_291 mi_X12_laysLeads (Nat.le_of_ble_eq_true rfl) rfl dX12_leadings_6 ?_
  refine go_aload_n (k4 := 0) rfl (Or.inr ⟨_, rfl⟩) dX12_leadings_9 ?_
  obtain ⟨v4, ev4, hs⟩ := bindS hs
  refine go_gI fl_RX12_285 ev4 dX12_leadings_10 ?_
  refine go_at 13 rfl ?_
  obtain rfl := Option.some.inj hs
  obtain ⟨rfl, rfl⟩ := hk
  exact go_iret rfl dX12_leadings_13
theorem oX12_leadings {d : Nat} (hd : 2 ≤ d) {h : Hp} {x0 : Nat} {y : (Int32 × Hp)} (hs : fX12_leadings h x0 = some y) : Call d mX12_leadings [.ref x0] h (some (.int y.1)) (y.2) := call_of (by decide +kernel) (Nat.le_of_ble_eq_true rfl) (show Go d mX12_leadings 0 [some (.ref x0)] [] h _ _ from go_subL (by simp [subL]) (oX12_leadings_0 hd hs ⟨rfl, rfl⟩))
abbrev kX12_keeps (rf : Option Value) (hf : Hp) : Hp → Prop := fun y => rf = none ∧ hf = y
abbrev pX12_keeps_2 (d : Nat) (x0 : Nat) (rf : Option Value) (hf : Hp) : (Int32 × Hp) → Prop := fun s => Go d mX12_keeps 2 [some (.ref x0), some (.int s.1)] [] s.2 rf hf
noncomputable def fX12_keeps_2b (h : Hp) (x0 : Nat) (x1 : Int32) : Option ((Int32 × Hp) ⊕ Hp) :=
  if (11 : Int32) ≤ x1 then (
    some (.inr h)) else (
    (gN h 12 x0 22).bind fun v1 =>
    (gN h 12 x0 1).bind fun v2 =>
    (aI 0 h v2 ((15 : Int32) + x1)).bind fun v3 =>
    (wI 0 h v1 x1 v3).bind fun h4 =>
    some (.inl ((x1 + Int32.ofInt 1), h4)))
noncomputable def fX12_keeps_2 (h : Hp) (x0 : Nat) (x1 : Int32) : Option Hp := lpw (σ := (Int32 × Hp)) (fun s => fX12_keeps_2b s.2 x0 s.1) (x1, h)
theorem oX12_keeps_2b {d : Nat} (hd : 0 ≤ d) {h : Hp} {x0 : Nat} {x1 : Int32} {rf : Option Value} {hf : Hp} {x : ((Int32 × Hp) ⊕ Hp)} (hs : fX12_keeps_2b h x0 x1 = some x) (hk : (Kx (pX12_keeps_2 d x0 rf hf) (kX12_keeps rf hf)) x) : Go d mX12_keeps 2 [some (.ref x0), some (.int x1)] [] h rf hf := by
  unfold fX12_keeps_2b at hs
  refine go_iload_n (k4 := 1) rfl dX12_keeps_2 ?_
  refine go_bipush (v := 11) (by decide) dX12_keeps_3 ?_
  refine go_icmp_ge (tgt := 29) (by decide) dX12_keeps_5 (fun c => ?_) (fun c => ?_)
  · have hs := if_t c hs
    obtain rfl := Option.some.inj hs
    obtain ⟨rfl, rfl⟩ := hk
    exact go_vret rfl dX12_keeps_29
  · have hs := if_f c hs
    refine go_aload_n (k4 := 0) rfl (Or.inr ⟨_, rfl⟩) dX12_keeps_8 ?_
    obtain ⟨v1, ev1, hs⟩ := bindS hs
    refine go_gN fl_RX12_45 ev1 dX12_keeps_9 ?_
    refine go_iload_n (k4 := 1) rfl dX12_keeps_12 ?_
    refine go_aload_n (k4 := 0) rfl (Or.inr ⟨_, rfl⟩) dX12_keeps_13 ?_
    obtain ⟨v2, ev2, hs⟩ := bindS hs
    refine go_gN fl_RX12_13 ev2 dX12_keeps_14 ?_
    refine go_bipush (v := 15) (by decide) dX12_keeps_17 ?_
    refine go_iload_n (k4 := 1) rfl dX12_keeps_19 ?_
    refine go_at 20 rfl ?_
    refine go_iadd dX12_keeps_20 ?_
    obtain ⟨v3, ev3, hs⟩ := bindS hs
    refine go_aIi ev3 dX12_keeps_21 ?_
    obtain ⟨h4, eh4, hs⟩ := bindS hs
    refine go_wIi eh4 dX12_keeps_22 ?_
    refine go_iinc (L' := [some (.ref x0), some (.int (x1 + Int32.ofInt 1))]) rfl (by decide) rfl rfl dX12_keeps_23 ?_
    refine go_goto (tgt := 2) (by decide) dX12_keeps_26 ?_
    obtain rfl := Option.some.inj hs
    exact go_subL (L' := [some (.ref x0), some (.int (x1 + Int32.ofInt 1))]) (by simp [subL, va_rf]) hk
theorem oX12_keeps_2 {d : Nat} (hd : 0 ≤ d) {h : Hp} {x0 : Nat} {x1 : Int32} {rf : Option Value} {hf : Hp} {x : Hp} (hs : fX12_keeps_2 h x0 x1 = some x) (hk : (kX12_keeps rf hf) x) : Go d mX12_keeps 2 [some (.ref x0), some (.int x1)] [] h rf hf := by
  unfold fX12_keeps_2 at hs
  exact lpw_go (P := pX12_keeps_2 d x0 rf hf) (fun s x hs hk => oX12_keeps_2b hd hs hk) (x1, h) x hs hk
noncomputable def fX12_keeps (h : Hp) (x0 : Nat) : Option Hp :=
  fX12_keeps_2 h x0 (0 : Int32)
theorem oX12_keeps_0 {d : Nat} (hd : 0 ≤ d) {h : Hp} {x0 : Nat} {rf : Option Value} {hf : Hp} {x : Hp} (hs : fX12_keeps h x0 = some x) (hk : (kX12_keeps rf hf) x) : Go d mX12_keeps 0 [some (.ref x0), none] [] h rf hf := by
  unfold fX12_keeps at hs
  refine go_iconst (v := 0) (by decide) dX12_keeps_0 ?_
  refine go_istore_n (k4 := 1) (L' := [some (.ref x0), some (.int (0 : Int32))]) (by decide) rfl dX12_keeps_1 ?_
  exact go_subL (L' := [some (.ref x0), some (.int (0 : Int32))]) (by simp [subL, va_rf]) (oX12_keeps_2 hd hs hk)
theorem oX12_keeps {d : Nat} (hd : 0 ≤ d) {h : Hp} {x0 : Nat} {y : Hp} (hs : fX12_keeps h x0 = some y) : Call d mX12_keeps [.ref x0] h (none) y := call_of (by decide +kernel) (Nat.le_of_ble_eq_true rfl) (show Go d mX12_keeps 0 [some (.ref x0), none] [] h _ _ from go_subL (by simp [subL]) (oX12_keeps_0 hd hs ⟨rfl, rfl⟩))
