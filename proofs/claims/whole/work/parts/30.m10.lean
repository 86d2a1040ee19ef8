/-! methods: their texts as functions, and that the machine does just that -/
abbrev kX12_laysLikely (rf : Option Value) (hf : Hp) : (Int32 × Hp) → Prop := fun y => rf = some (.int y.1) ∧ hf = y.2
abbrev pX12_laysLikely_12 (d : Nat) (x0 : Nat) (x1 : Int32) (rf : Option Value) (hf : Hp) : (Int32 × Int32 × Hp) → Prop := fun s => Go d mX12_laysLikely 12 [some (.ref x0), some (.int x1), some (.int s.1), some (.int s.2.1), none] [] s.2.2 rf hf
abbrev pX12_laysLikely_20 (d : Nat) (x0 : Nat) (x1 : Int32) (x2 : Int32) (x3 : Int32) (rf : Option Value) (hf : Hp) : (Int32 × Hp) → Prop := fun s => Go d mX12_laysLikely 20 [some (.ref x0), some (.int x1), some (.int x2), some (.int x3), some (.int s.1)] [] s.2 rf hf
noncomputable def fX12_laysLikely_126 (h : Hp) (x0 : Nat) (x1 : Int32) (x2 : Int32) (x3 : Int32) : Option ((Int32 × Int32 × Hp) ⊕ (Int32 × Hp)) :=
  gO h 12 x0 (
  (fX12_isThen h x0).bind fun y5 =>
  some (.inl ((x2 * (10 : Int32)), (x3 + Int32.ofInt 1), y5)))
theorem oX12_laysLikely_126 {d : Nat} (hd : 4 ≤ d) {h : Hp} {x0 : Nat} {x1 : Int32} {x2 : Int32} {x3 : Int32} {rf : Option Value} {hf : Hp} {x : ((Int32 × Int32 × Hp) ⊕ (Int32 × Hp))} (hs : fX12_laysLikely_126 h x0 x1 x2 x3 = some x) (hk : (Kx (pX12_laysLikely_12 d x0 x1 rf hf) (kX12_laysLikely rf hf)) x) : Go d mX12_laysLikely 126 [some (.ref x0), some (.int x1), some (.int x2), some (.int x3), none] [] h rf hf := by
  unfold fX12_laysLikely_126 at hs
  refine go_aload_n (k4 := 0) rfl (Or.inr ⟨_, rfl⟩) dX12_laysLikely_126 ?_
  obtain ⟨g6, hs⟩ := gO_at hs
  obtain ⟨y5, ey5, hs⟩ := bindS hs
  refine go_V0 (As := []) (st := []) g6 rfl rfl (oX12_isThen (d := d - 1) (by omega) ey5) (by omega) mb_X12_isThen lm_RX12_417 mi_X12_isThen (Nat.le_of_ble_eq_true rfl) rfl dX12_laysLikely_127 ?_
  refine go_iload_n (k4 := 2) rfl dX12_laysLikely_130 ?_
  refine go_bipush (v := 10) (by decide) dX12_laysLikely_131 ?_
  refine go_imul dX12_laysLikely_133 ?_
  refine go_istore_n (k4 := 2) (L' := [some (.ref x0), some (.int x1), some (.int (x2 * (10 : Int32))), some (.int x3), none]) (by decide) rfl dX12_laysLikely_134 ?_
  refine go_iinc (L' := [some (.ref x0), some (.int x1), some (.int (x2 * (10 : Int32))), some (.int (x3 + Int32.ofInt 1)), none]) rfl (by decide) rfl rfl dX12_laysLikely_135 ?_
  refine go_at 138 rfl ?_
  refine go_goto (tgt := 12) (by decide) dX12_laysLikely_138 ?_
  obtain rfl := Option.some.inj hs
  exact go_subL (L' := [some (.ref x0), some (.int x1), some (.int (x2 * (10 : Int32))), some (.int (x3 + Int32.ofInt 1)), none]) (by simp [subL, va_rf]) hk
noncomputable def fX12_laysLikely_120 (h : Hp) (x0 : Nat) (x1 : Int32) (x2 : Int32) (x3 : Int32) (x4 : Int32) : Option ((Int32 × Hp) ⊕ ((Int32 × Int32 × Hp) ⊕ (Int32 × Hp))) :=
  some (.inl ((x4 + Int32.ofInt 1), h))
theorem oX12_laysLikely_120 {d : Nat} (hd : 4 ≤ d) {h : Hp} {x0 : Nat} {x1 : Int32} {x2 : Int32} {x3 : Int32} {x4 : Int32} {rf : Option Value} {hf : Hp} {x : ((Int32 × Hp) ⊕ ((Int32 × Int32 × Hp) ⊕ (Int32 × Hp)))} (hs : fX12_laysLikely_120 h x0 x1 x2 x3 x4 = some x) (hk : (Kx (pX12_laysLikely_20 d x0 x1 x2 x3 rf hf) (Kx (pX12_laysLikely_12 d x0 x1 rf hf) (kX12_laysLikely rf hf))) x) : Go d mX12_laysLikely 120 [some (.ref x0), some (.int x1), some (.int x2), some (.int x3), some (.int x4)] [] h rf hf := by
  unfold fX12_laysLikely_120 at hs
  refine go_iinc (L' := [some (.ref x0), some (.int x1), some (.int x2), some (.int x3), some (.int (x4 + Int32.ofInt 1))]) rfl (by decide) rfl rfl dX12_laysLikely_120 ?_
  refine go_goto (tgt := 20) (by decide) dX12_laysLikely_123 ?_
  obtain rfl := Option.some.inj hs
  exact go_subL (L' := [some (.ref x0), some (.int x1), some (.int x2), some (.int x3), some (.int (x4 + Int32.ofInt 1))]) (by simp [subL, va_rf]) hk
noncomputable def fX12_laysLikely_20b (h : Hp) (x0 : Nat) (x1 : Int32) (x2 : Int32) (x3 : Int32) (x4 : Int32) : Option ((Int32 × Hp) ⊕ ((Int32 × Int32 × Hp) ⊕ (Int32 × Hp))) :=
  if (20000 : Int32) ≤ x4 then (
  (fX12_laysLikely_126 h x0 x1 x2 x3).map (fun q => .inr q)) else (
    (gN h 12 x0 34).bind fun v7 =>
    (aJ h v7 x4).bind fun v8 =>
    if (lg_cmp v8 (0 : Int64)) = 0 then (
      fX12_laysLikely_120 h x0 x1 x2 x3 x4) else (
      (gN h 12 x0 35).bind fun v9 =>
      (gN h 12 x0 1).bind fun v10 =>
      (aI 0 h v10 (23 : Int32)).bind fun v11 =>
      gO h 12 x0 (
      (fX12_yearBy h x0 x4 v11 (0 : Int32)).bind fun y12 =>
      (aJ h v9 y12).bind fun v14 =>
      (gN h 12 x0 34).bind fun v15 =>
      (aJ h v15 x4).bind fun v16 =>
      (gN h 12 x0 1).bind fun v17 =>
      (aI 0 h v17 (4 : Int32)).bind fun v18 =>
      (wJ h v9 y12 (v14 + (v16 * ((10 : Int32) - v18).toInt64))).bind fun h19 =>
      (gN h19 12 x0 35).bind fun v20 =>
      (gN h19 12 x0 1).bind fun v21 =>
      (aI 0 h19 v21 (23 : Int32)).bind fun v22 =>
      gO h19 12 x0 (
      (fX12_yearBy h19 x0 x4 v22 (1 : Int32)).bind fun y23 =>
      (aJ h19 v20 y23).bind fun v25 =>
      (gN h19 12 x0 34).bind fun v26 =>
      (aJ h19 v26 x4).bind fun v27 =>
      (gN h19 12 x0 1).bind fun v28 =>
      (aI 0 h19 v28 (4 : Int32)).bind fun v29 =>
      (wJ h19 v20 y23 (v25 + (v27 * (v29.toInt64)))).bind fun h30 =>
      fX12_laysLikely_120 h30 x0 x1 x2 x3 x4))))
noncomputable def fX12_laysLikely_20 (h : Hp) (x0 : Nat) (x1 : Int32) (x2 : Int32) (x3 : Int32) (x4 : Int32) : Option ((Int32 × Int32 × Hp) ⊕ (Int32 × Hp)) := lpw (σ := (Int32 × Hp)) (fun s => fX12_laysLikely_20b s.2 x0 x1 x2 x3 s.1) (x4, h)
theorem oX12_laysLikely_20b {d : Nat} (hd : 4 ≤ d) {h : Hp} {x0 : Nat} {x1 : Int32} {x2 : Int32} {x3 : Int32} {x4 : Int32} {rf : Option Value} {hf : Hp} {x : ((Int32 × Hp) ⊕ ((Int32 × Int32 × Hp) ⊕ (Int32 × Hp)))} (hs : fX12_laysLikely_20b h x0 x1 x2 x3 x4 = some x) (hk : (Kx (pX12_laysLikely_20 d x0 x1 x2 x3 rf hf) (Kx (pX12_laysLikely_12 d x0 x1 rf hf) (kX12_laysLikely rf hf))) x) : Go d mX12_laysLikely 20 [some (.ref x0), some (.int x1), some (.int x2), some (.int x3), some (.int x4)] [] h rf hf := by
  unfold fX12_laysLikely_20b at hs
  refine go_iload rfl dX12_laysLikely_20 ?_
  refine go_sipush (v := 20000) (by decide) dX12_laysLikely_22 ?_
  refine go_icmp_ge (tgt := 126) (by decide) dX12_laysLikely_25 (fun c => ?_) (fun c => ?_)
  · have hs := if_t c hs
    obtain ⟨q, hs2, hq⟩ := mapS hs
    clear hs
    subst hq
    exact go_subL (L' := [some (.ref x0), some (.int x1), some (.int x2), some (.int x3), none]) (by simp [subL, va_rf]) (oX12_laysLikely_126 hd hs2 hk)
  · have hs := if_f c hs
    refine go_aload_n (k4 := 0) rfl (Or.inr ⟨_, rfl⟩) dX12_laysLikely_28 ?_
    obtain ⟨v7, ev7, hs⟩ := bindS hs
    refine go_gN fl_RX12_67 ev7 dX12_laysLikely_29 ?_
    refine go_iload rfl dX12_laysLikely_32 ?_
    obtain ⟨v8, ev8, hs⟩ := bindS hs
    refine go_aJ ev8 dX12_laysLikely_34 ?_
    refine go_lconst (v := 0) (by decide) dX12_laysLikely_35 ?_
    refine go_lcmp dX12_laysLikely_36 ?_
    refine go_if_ne (tgt := 43) (by decide) dX12_laysLikely_37 (fun c => ?_) (fun c => ?_)
    · have hs := if_f c hs
      refine go_aload_n (k4 := 0) rfl (Or.inr ⟨_, rfl⟩) dX12_laysLikely_43 ?_
      obtain ⟨v9, ev9, hs⟩ := bindS hs
      refine go_gN fl_RX12_71 ev9 dX12_laysLikely_44 ?_
      refine go_aload_n (k4 := 0) rfl (Or.inr ⟨_, rfl⟩) dX12_laysLikely_47 ?_
      refine go_iload rfl dX12_laysLikely_48 ?_
      refine go_aload_n (k4 := 0) rfl (Or.inr ⟨_, rfl⟩) dX12_laysLikely_50 ?_
      obtain ⟨v10, ev10, hs⟩ := bindS hs
      refine go_gN fl_RX12_13 ev10 dX12_laysLikely_51 ?_
      refine go_bipush (v := 23) (by decide) dX12_laysLikely_54 ?_
      refine go_at 56 rfl ?_
      obtain ⟨v11, ev11, hs⟩ := bindS hs
      refine go_aIi ev11 dX12_laysLikely_56 ?_
      refine go_iconst (v := 0) (by decide) dX12_laysLikely_57 ?_
      obtain ⟨g13, hs⟩ := gO_at hs
      obtain ⟨y12, ey12, hs⟩ := bindS hs
      refine go_V1 (As := [.int x4, .int v11, .int (0 : Int32)]) (st := [.ref v9]) g13 rfl rfl (oX12_yearBy (d := d - 1) (by omega) ey12) (by omega) mb_X12_yearBy lm_RX12_359 mi_X12_yearBy (Nat.le_of_ble_eq_true rfl) rfl dX12_laysLikely_58 ?_
      refine go_dup2_11 rfl rfl dX12_laysLikely_61 ?_
      obtain ⟨v14, ev14, hs⟩ := bindS hs
      refine go_aJ ev14 dX12_laysLikely_62 ?_
      refine go_aload_n (k4 := 0) rfl (Or.inr ⟨_, rfl⟩) dX12_laysLikely_63 ?_
      obtain ⟨v15, ev15, hs⟩ := bindS hs
      refine go_gN fl_RX12_67 ev15 dX12_laysLikely_64 ?_
      refine go_iload rfl dX12_laysLikely_67 ?_
      refine go_at 69 rfl ?_
      obtain ⟨v16, ev16, hs⟩ := bindS hs
      refine go_aJ ev16 dX12_laysLikely_69 ?_
      refine go_bipush (v := 10) (by decide) dX12_laysLikely_70 ?_
      refine go_aload_n (k4 := 0) rfl (Or.inr ⟨_, rfl⟩) dX12_laysLikely_72 ?_
      obtain ⟨v17, ev17, hs⟩ := bindS hs
      refine go_gN fl_RX12_13 ev17 dX12_laysLikely_73 ?_
      refine go_iconst (v := 4) (by decide) dX12_laysLikely_76 ?_
      obtain ⟨v18, ev18, hs⟩ := bindS hs
      refine go_aIi ev18 dX12_laysLikely_77 ?_
      refine go_isub dX12_laysLikely_78 ?_
      refine go_i2l dX12_laysLikely_79 ?_
      refine go_at 80 rfl ?_
      refine go_lmul dX12_laysLikely_80 ?_
      refine go_ladd dX12_laysLikely_81 ?_
      obtain ⟨h19, eh19, hs⟩ := bindS hs
      refine go_wJ eh19 dX12_laysLikely_82 ?_
      refine go_aload_n (k4 := 0) rfl (Or.inr ⟨_, rfl⟩) dX12_laysLikely_83 ?_
      obtain ⟨v20, ev20, hs⟩ := bindS hs
      refine go_gN fl_RX12_71 ev20 dX12_laysLikely_84 ?_
      refine go_aload_n (k4 := 0) rfl (Or.inr ⟨_, rfl⟩) dX12_laysLikely_87 ?_
      refine go_iload rfl dX12_laysLikely_88 ?_
      refine go_aload_n (k4 := 0) rfl (Or.inr ⟨_, rfl⟩) dX12_laysLikely_90 ?_
      refine go_at 91 rfl ?_
      obtain ⟨v21, ev21, hs⟩ := bindS hs
      refine go_gN fl_RX12_13 ev21 dX12_laysLikely_91 ?_
      refine go_bipush (v := 23) (by decide) dX12_laysLikely_94 ?_
      obtain ⟨v22, ev22, hs⟩ := bindS hs
      refine go_aIi ev22 dX12_laysLikely_96 ?_
      refine go_iconst (v := 1) (by decide) dX12_laysLikely_97 ?_
      obtain ⟨g24, hs⟩ := gO_at hs
      obtain ⟨y23, ey23, hs⟩ := bindS hs
      refine go_V1 (As := [.int x4, .int v22, .int (1 : Int32)]) (st := [.ref v20]) g24 rfl rfl (oX12_yearBy (d := d - 1) (by omega) ey23) (by omega) mb_X12_yearBy lm_RX12_359 mi_X12_yearBy (Nat.le_of_ble_eq_true rfl) rfl dX12_laysLikely_98 ?_
      refine go_dup2_11 rfl rfl dX12_laysLikely_101 ?_
      obtain ⟨v25, ev25, hs⟩ := bindS hs
      refine go_aJ ev25 dX12_laysLikely_102 ?_
      refine go_aload_n (k4 := 0) rfl (Or.inr ⟨_, rfl⟩) dX12_laysLikely_103 ?_
      refine go_at 104 rfl ?_
      obtain ⟨v26, ev26, hs⟩ := bindS hs
      refine go_gN fl_RX12_67 ev26 dX12_laysLikely_104 ?_
      refine go_iload rfl dX12_laysLikely_107 ?_
      obtain ⟨v27, ev27, hs⟩ := bindS hs
      refine go_aJ ev27 dX12_laysLikely_109 ?_
      refine go_aload_n (k4 := 0) rfl (Or.inr ⟨_, rfl⟩) dX12_laysLikely_110 ?_
      obtain ⟨v28, ev28, hs⟩ := bindS hs
      refine go_gN fl_RX12_13 ev28 dX12_laysLikely_111 ?_
      refine go_iconst (v := 4) (by decide) dX12_laysLikely_114 ?_
      obtain ⟨v29, ev29, hs⟩ := bindS hs
      refine go_aIi ev29 dX12_laysLikely_115 ?_
      refine go_i2l dX12_laysLikely_116 ?_
      refine go_at 117 rfl ?_
      refine go_lmul dX12_laysLikely_117 ?_
      refine go_ladd dX12_laysLikely_118 ?_
      obtain ⟨h30, eh30, hs⟩ := bindS hs
      refine go_wJ eh30 dX12_laysLikely_119 ?_
      exact go_subL (L' := [some (.ref x0), some (.int x1), some (.int x2), some (.int x3), some (.int x4)]) (by simp [subL, va_rf]) (oX12_laysLikely_120 hd hs hk)
    · have hs := if_t c hs
      refine go_goto (tgt := 120) (by decide) dX12_laysLikely_40 ?_
      exact go_subL (L' := [some (.ref x0), some (.int x1), some (.int x2), some (.int x3), some (.int x4)]) (by simp [subL, va_rf]) (oX12_laysLikely_120 hd hs hk)
theorem oX12_laysLikely_20 {d : Nat} (hd : 4 ≤ d) {h : Hp} {x0 : Nat} {x1 : Int32} {x2 : Int32} {x3 : Int32} {x4 : Int32} {rf : Option Value} {hf : Hp} {x : ((Int32 × Int32 × Hp) ⊕ (Int32 × Hp))} (hs : fX12_laysLikely_20 h x0 x1 x2 x3 x4 = some x) (hk : (Kx (pX12_laysLikely_12 d x0 x1 rf hf) (kX12_laysLikely rf hf)) x) : Go d mX12_laysLikely 20 [some (.ref x0), some (.int x1), some (.int x2), some (.int x3), some (.int x4)] [] h rf hf := by
  unfold fX12_laysLikely_20 at hs
  exact lpw_go (P := pX12_laysLikely_20 d x0 x1 x2 x3 rf hf) (fun s x hs hk => oX12_laysLikely_20b hd hs hk) (x4, h) x hs hk
noncomputable def fX12_laysLikely_12b (h : Hp) (x0 : Nat) (x1 : Int32) (x2 : Int32) (x3 : Int32) : Option ((Int32 × Int32 × Hp) ⊕ (Int32 × Hp)) :=
  if x1 ≤ x3 then (
    some (.inr (x2, h))) else (
    fX12_laysLikely_20 h x0 x1 x2 x3 (0 : Int32))
noncomputable def fX12_laysLikely_12 (h : Hp) (x0 : Nat) (x1 : Int32) (x2 : Int32) (x3 : Int32) : Option (Int32 × Hp) := lpw (σ := (Int32 × Int32 × Hp)) (fun s => fX12_laysLikely_12b s.2.2 x0 x1 s.1 s.2.1) (x2, x3, h)
theorem oX12_laysLikely_12b {d : Nat} (hd : 4 ≤ d) {h : Hp} {x0 : Nat} {x1 : Int32} {x2 : Int32} {x3 : Int32} {rf : Option Value} {hf : Hp} {x : ((Int32 × Int32 × Hp) ⊕ (Int32 × Hp))} (hs : fX12_laysLikely_12b h x0 x1 x2 x3 = some x) (hk : (Kx (pX12_laysLikely_12 d x0 x1 rf hf) (kX12_laysLikely rf hf)) x) : Go d mX12_laysLikely 12 [some (.ref x0), some (.int x1), some (.int x2), some (.int x3), none] [] h rf hf := by
  unfold fX12_laysLikely_12b at hs
  refine go_iload_n (k4 := 3) rfl dX12_laysLikely_12 ?_
  refine go_iload_n (k4 := 1) rfl dX12_laysLikely_13 ?_
  refine go_icmp_ge (tgt := 141) (by decide) dX12_laysLikely_14 (fun c => ?_) (fun c => ?_)
  · have hs := if_t c hs
    refine go_iload_n (k4 := 2) rfl dX12_laysLikely_141 ?_
    obtain rfl := Option.some.inj hs
    obtain ⟨rfl, rfl⟩ := hk
    exact go_iret rfl dX12_laysLikely_142
  · have hs := if_f c hs
    refine go_iconst (v := 0) (by decide) dX12_laysLikely_17 ?_
    refine go_istore (L' := [some (.ref x0), some (.int x1), some (.int x2), some (.int x3), some (.int (0 : Int32))]) (by decide) rfl dX12_laysLikely_18 ?_
    exact go_subL (L' := [some (.ref x0), some (.int x1), some (.int x2), some (.int x3), some (.int (0 : Int32))]) (by simp [subL, va_rf]) (oX12_laysLikely_20 hd hs hk)
theorem oX12_laysLikely_12 {d : Nat} (hd : 4 ≤ d) {h : Hp} {x0 : Nat} {x1 : Int32} {x2 : Int32} {x3 : Int32} {rf : Option Value} {hf : Hp} {x : (Int32 × Hp)} (hs : fX12_laysLikely_12 h x0 x1 x2 x3 = some x) (hk : (kX12_laysLikely rf hf) x) : Go d mX12_laysLikely 12 [some (.ref x0), some (.int x1), some (.int x2), some (.int x3), none] [] h rf hf := by
  unfold fX12_laysLikely_12 at hs
  exact lpw_go (P := pX12_laysLikely_12 d x0 x1 rf hf) (fun s x hs hk => oX12_laysLikely_12b hd hs hk) (x2, x3, h) x hs hk
noncomputable def fX12_laysLikely (h : Hp) (x0 : Nat) (x1 : Int32) : Option (Int32 × Hp) :=
  gO h 12 x0 (
  (fX12_laysTables h x0).bind fun y1 =>
  gO y1 12 x0 (
  (fX12_beginsMany y1 x0).bind fun y3 =>
  fX12_laysLikely_12 y3 x0 x1 (1 : Int32) (0 : Int32)))
theorem oX12_laysLikely_0 {d : Nat} (hd : 4 ≤ d) {h : Hp} {x0 : Nat} {x1 : Int32} {rf : Option Value} {hf : Hp} {x : (Int32 × Hp)} (hs : fX12_laysLikely h x0 x1 = some x) (hk : (kX12_laysLikely rf hf) x) : Go d mX12_laysLikely 0 [some (.ref x0), some (.int x1), none, none, none] [] h rf hf := by
  unfold fX12_laysLikely at hs
  refine go_aload_n (k4 := 0) rfl (Or.inr ⟨_, rfl⟩) dX12_laysLikely_0 ?_
  obtain ⟨g2, hs⟩ := gO_at hs
  obtain ⟨y1, ey1, hs⟩ := bindS hs
  refine go_V0 (As := []) (st := []) g2 rfl rfl (oX12_laysTables (d := d - 1) (by omega) ey1) (by omega) mb_X12_laysTables lm_RX12_356 mi_X12_laysTables (Nat.le_of_ble_eq_true rfl) rfl dX12_laysLikely_1 ?_
  refine go_aload_n (k4 := 0) rfl (Or.inr ⟨_, rfl⟩) dX12_laysLikely_4 ?_
  obtain ⟨g4, hs⟩ := gO_at hs
  obtain ⟨y3, ey3, hs⟩ := bindS hs
  refine go_V0 (As := []) (st := []) g4 rfl rfl (oX12_beginsMany (d := d - 1) (by omega) ey3) (by omega) mb_X12_beginsMany lm_RX12_414 mi_X12_beginsMany (Nat.le_of_ble_eq_true rfl) rfl dX12_laysLikely_5 ?_
  refine go_iconst (v := 1) (by decide) dX12_laysLikely_8 ?_
  refine go_istore_n (k4 := 2) (L' := [some (.ref x0), some (.int x1), some (.int (1 : Int32)), none, none]) (by decide) rfl dX12_laysLikely_9 ?_
  refine go_iconst (v := 0) (by decide) dX12_laysLikely_10 ?_
  refine go_at 11 rfl ?_
  refine go_istore_n (k4 := 3) (L' := [some (.ref x0), some (.int x1), some (.int (1 : Int32)), some (.int (0 : Int32)), none]) (by decide) rfl dX12_laysLikely_11 ?_
  exact go_subL (L' := [some (.ref x0), some (.int x1), some (.int (1 : Int32)), some (.int (0 : Int32)), none]) (by simp [subL, va_rf]) (oX12_laysLikely_12 hd hs hk)
theorem oX12_laysLikely {d : Nat} (hd : 4 ≤ d) {h : Hp} {x0 : Nat} {x1 : Int32} {y : (Int32 × Hp)} (hs : fX12_laysLikely h x0 x1 = some y) : Call d mX12_laysLikely [.ref x0, .int x1] h (some (.int y.1)) (y.2) := call_of (by decide +kernel) (Nat.le_of_ble_eq_true rfl) (show Go d mX12_laysLikely 0 [some (.ref x0), some (.int x1), none, none, none] [] h _ _ from go_subL (by simp [subL]) (oX12_laysLikely_0 hd hs ⟨rfl, rfl⟩))
abbrev mgX12_common (sel : Nat) : Mt := mX12_common
abbrev kX12_common (h : Hp) (rf : Option Value) (hf : Hp) : Int32 → Prop := fun y => rf = some (.int y) ∧ hf = h
noncomputable def fX12_common_15 (rc : Nat → Hp → Int32 → Int32 → Option Int32) (h : Hp) (s0 : Int32) : Option Int32 :=
  some (s0)
theorem oX12_common_15 {d : Nat} (hd : 2 ≤ d) {rc : Nat → Hp → Int32 → Int32 → Option Int32} (hrc : ∀ (sel : Nat) (h : Hp) (x0 : Int32) (x1 : Int32) (y : Int32), rc sel h x0 x1 = some y → Call (d - 1) (mgX12_common sel) [.int x0, .int x1] h (some (.int y)) h) {h : Hp} {s0 : Int32} {rf : Option Value} {hf : Hp} {x : Int32} (hs : fX12_common_15 rc h s0 = some x) (hk : (kX12_common h rf hf) x) : Go d mX12_common 15 [none, none] [.int s0] h rf hf := by
  unfold fX12_common_15 at hs
  obtain rfl := Option.some.inj hs
  obtain ⟨rfl, rfl⟩ := hk
  exact go_iret rfl dX12_common_15
noncomputable def fX12_common (rc : Nat → Hp → Int32 → Int32 → Option Int32) (h : Hp) (x0 : Int32) (x1 : Int32) : Option Int32 :=
  if x1 = 0 then (
    fX12_common_15 rc h x0) else (
    (rm x0 x1).bind fun v1 =>
    (rc 0 h x1 v1).bind fun y2 =>
    fX12_common_15 rc h y2)
theorem oX12_common_0 {d : Nat} (hd : 2 ≤ d) {rc : Nat → Hp → Int32 → Int32 → Option Int32} (hrc : ∀ (sel : Nat) (h : Hp) (x0 : Int32) (x1 : Int32) (y : Int32), rc sel h x0 x1 = some y → Call (d - 1) (mgX12_common sel) [.int x0, .int x1] h (some (.int y)) h) {h : Hp} {x0 : Int32} {x1 : Int32} {rf : Option Value} {hf : Hp} {x : Int32} (hs : fX12_common rc h x0 x1 = some x) (hk : (kX12_common h rf hf) x) : Go d mX12_common 0 [some (.int x0), some (.int x1)] [] h rf hf := by
  unfold fX12_common at hs
  refine go_iload_n (k4 := 1) rfl dX12_common_0 ?_
  refine go_if_ne (tgt := 8) (by decide) dX12_common_1 (fun c => ?_) (fun c => ?_)
  · have hs := if_f c hs
    refine go_iload_n (k4 := 1) rfl dX12_common_8 ?_
    refine go_iload_n (k4 := 0) rfl dX12_common_9 ?_
    refine go_iload_n (k4 := 1) rfl dX12_common_10 ?_
    obtain ⟨v1, ev1, hs⟩ := bindS hs
    refine go_rm ev1 dX12_common_11 ?_
    obtain ⟨y2, ey2, hs⟩ := bindS hs
    refine go_S1 (As := [.int x1, .int v1]) (st := []) (show Call (d - 1) mX12_common _ _ _ _ from hrc 0 h x1 v1 _ ey2) (by omega) mb_X12_common lm_RX12_448 ms_X12_common (Nat.le_of_ble_eq_true rfl) rfl dX12_common_12 ?_
    exact go_subL (L' := [none, none]) (by simp [subL, va_rf]) (oX12_common_15 hd hrc hs hk)
  · have hs := if_t c hs
    refine go_iload_n (k4 := 0) rfl dX12_common_4 ?_
    refine go_goto (tgt := 15) (by decide) dX12_common_5 ?_
    exact go_subL (L' := [none, none]) (by simp [subL, va_rf]) (oX12_common_15 hd hrc hs hk)
theorem oX12_common {d : Nat} (hd : 2 ≤ d) {rc : Nat → Hp → Int32 → Int32 → Option Int32} (hrc : ∀ (sel : Nat) (h : Hp) (x0 : Int32) (x1 : Int32) (y : Int32), rc sel h x0 x1 = some y → Call (d - 1) (mgX12_common sel) [.int x0, .int x1] h (some (.int y)) h) {h : Hp} {x0 : Int32} {x1 : Int32} {y : Int32} (hs : fX12_common rc h x0 x1 = some y) : Call d mX12_common [.int x0, .int x1] h (some (.int y)) h := call_of (by decide +kernel) (Nat.le_of_ble_eq_true rfl) (show Go d mX12_common 0 [some (.int x0), some (.int x1)] [] h _ _ from go_subL (by simp [subL]) (oX12_common_0 hd hrc hs ⟨rfl, rfl⟩))
noncomputable def rX12_common : Nat → Nat → Hp → Int32 → Int32 → Option Int32
  | 0, _, _, _, _ => none
  | n + 1, sel, h, x0, x1 => fX12_common (rX12_common n) h x0 x1
theorem orX12_common : ∀ (n d : Nat) (_ : 2 + n ≤ d) (sel : Nat) (h : Hp) (x0 : Int32) (x1 : Int32) (y : Int32), rX12_common n sel h x0 x1 = some y → Call d (mgX12_common sel) [.int x0, .int x1] h (some (.int y)) h
  | 0, d, hd, sel, h, x0, x1, y, hs => by simp [rX12_common] at hs
  | n + 1, d, hd, sel, h, x0, x1, y, hs => by
    have ih := orX12_common n (d - 1) (by omega)
    simp only [rX12_common] at hs
    exact oX12_common (by omega) ih hs
abbrev kX12_part (h : Hp) (rf : Option Value) (hf : Hp) : Int32 → Prop := fun y => rf = some (.int y) ∧ hf = h
noncomputable def fX12_part_14 (h : Hp) (x2 : Int32) (x4 : Int32) (s0 : Int32) : Option Int32 :=
  (rX12_common 100 0 h x4 x2).bind fun y1 =>
  (dv s0 y1).bind fun v2 =>
  some (v2)
theorem oX12_part_14 {d : Nat} (hd : 103 ≤ d) {h : Hp} {x2 : Int32} {x4 : Int32} {s0 : Int32} {rf : Option Value} {hf : Hp} {x : Int32} (hs : fX12_part_14 h x2 x4 s0 = some x) (hk : (kX12_part h rf hf) x) : Go d mX12_part 14 [none, none, some (.int x2), none, some (.int x4)] [.int s0] h rf hf := by
  unfold fX12_part_14 at hs
  refine go_iload rfl dX12_part_14 ?_
  refine go_iload_n (k4 := 2) rfl dX12_part_16 ?_
  obtain ⟨y1, ey1, hs⟩ := bindS hs
  refine go_S1 (As := [.int x4, .int x2]) (st := [.int s0]) (show Call (d - 1) mX12_common _ _ _ _ from orX12_common 100 (d - 1) (by omega) 0 h x4 x2 _ ey1) (by omega) mb_X12_common lm_RX12_448 ms_X12_common (Nat.le_of_ble_eq_true rfl) rfl dX12_part_17 ?_
  obtain ⟨v2, ev2, hs⟩ := bindS hs
  refine go_dv ev2 dX12_part_20 ?_
  obtain rfl := Option.some.inj hs
  obtain ⟨rfl, rfl⟩ := hk
  exact go_iret rfl dX12_part_21
noncomputable def fX12_part (h : Hp) (x0 : Int64) (x2 : Int32) (x3 : Int32) : Option Int32 :=
  if x3 = 0 then (
    fX12_part_14 h x2 (x0.toInt32) (x0.toInt32)) else (
    fX12_part_14 h x2 (x0.toInt32) x2)
theorem oX12_part_0 {d : Nat} (hd : 103 ≤ d) {h : Hp} {x0 : Int64} {x2 : Int32} {x3 : Int32} {rf : Option Value} {hf : Hp} {x : Int32} (hs : fX12_part h x0 x2 x3 = some x) (hk : (kX12_part h rf hf) x) : Go d mX12_part 0 [some (.long x0), none, some (.int x2), some (.int x3), none] [] h rf hf := by
  unfold fX12_part at hs
  refine go_lload_n (k4 := 0) rfl dX12_part_0 ?_
  refine go_l2i dX12_part_1 ?_
  refine go_istore (L' := [some (.long x0), none, some (.int x2), some (.int x3), some (.int (x0.toInt32))]) (by decide) rfl dX12_part_2 ?_
  refine go_iload_n (k4 := 3) rfl dX12_part_4 ?_
  refine go_if_ne (tgt := 13) (by decide) dX12_part_5 (fun c => ?_) (fun c => ?_)
  · have hs := if_f c hs
    refine go_iload_n (k4 := 2) rfl dX12_part_13 ?_
    exact go_subL (L' := [none, none, some (.int x2), none, some (.int (x0.toInt32))]) (by simp [subL, va_rf]) (oX12_part_14 hd hs hk)
  · have hs := if_t c hs
    refine go_iload rfl dX12_part_8 ?_
    refine go_goto (tgt := 14) (by decide) dX12_part_10 ?_
    exact go_subL (L' := [none, none, some (.int x2), none, some (.int (x0.toInt32))]) (by simp [subL, va_rf]) (oX12_part_14 hd hs hk)
theorem oX12_part {d : Nat} (hd : 103 ≤ d) {h : Hp} {x0 : Int64} {x2 : Int32} {x3 : Int32} {y : Int32} (hs : fX12_part h x0 x2 x3 = some y) : Call d mX12_part [.long x0, .int x2, .int x3] h (some (.int y)) h := call_of (by decide +kernel) (Nat.le_of_ble_eq_true rfl) (show Go d mX12_part 0 [some (.long x0), none, some (.int x2), some (.int x3), none] [] h _ _ from go_subL (by simp [subL]) (oX12_part_0 hd hs ⟨rfl, rfl⟩))
abbrev kX12_noChance (h : Hp) (rf : Option Value) (hf : Hp) : Int32 → Prop := fun y => rf = some (.int y) ∧ hf = h
noncomputable def fX12_noChance_37 (h : Hp) (s0 : Int32) : Option Int32 :=
  some (s0)
theorem oX12_noChance_37 {d : Nat} (hd : 1 ≤ d) {h : Hp} {s0 : Int32} {rf : Option Value} {hf : Hp} {x : Int32} (hs : fX12_noChance_37 h s0 = some x) (hk : (kX12_noChance h rf hf) x) : Go d mX12_noChance 37 [none, none, none, none] [.int s0] h rf hf := by
  unfold fX12_noChance_37 at hs
  obtain rfl := Option.some.inj hs
  obtain ⟨rfl, rfl⟩ := hk
  exact go_iret rfl dX12_noChance_37
noncomputable def fX12_noChance_14 (h : Hp)  : Option Int32 :=
  fX12_noChance_37 h (-2 : Int32)
theorem oX12_noChance_14 {d : Nat} (hd : 1 ≤ d) {h : Hp} {rf : Option Value} {hf : Hp} {x : Int32} (hs : fX12_noChance_14 h  = some x) (hk : (kX12_noChance h rf hf) x) : Go d mX12_noChance 14 [none, none, none, none] [] h rf hf := by
  unfold fX12_noChance_14 at hs
  refine go_bipush (v := -2) (by decide) dX12_noChance_14 ?_
  refine go_goto (tgt := 37) (by decide) dX12_noChance_16 ?_
  exact go_subL (L' := [none, none, none, none]) (by simp [subL, va_rf]) (oX12_noChance_37 hd hs hk)
noncomputable def fX12_noChance (h : Hp) (x1 : Int32) (x2 : Int32) (x3 : Int32) : Option Int32 :=
  if x1 = 0 then (
  fX12_noChance_14 h ) else (
    (fX12_within h (x3.toInt64) (0 : Int64) (1 : Int64)).bind fun y1 =>
    if y1 = 0 then (
    fX12_noChance_14 h ) else (
      (fX12_within h (x2.toInt64) (0 : Int64) (8 : Int64)).bind fun y2 =>
      if y2 = 0 then (
        fX12_noChance_37 h (-3 : Int32)) else (
        fX12_noChance_37 h (0 : Int32))))
theorem oX12_noChance_0 {d : Nat} (hd : 1 ≤ d) {h : Hp} {x1 : Int32} {x2 : Int32} {x3 : Int32} {rf : Option Value} {hf : Hp} {x : Int32} (hs : fX12_noChance h x1 x2 x3 = some x) (hk : (kX12_noChance h rf hf) x) : Go d mX12_noChance 0 [none, some (.int x1), some (.int x2), some (.int x3)] [] h rf hf := by
  unfold fX12_noChance at hs
  refine go_iload_n (k4 := 1) rfl dX12_noChance_0 ?_
  refine go_if_eq (tgt := 14) (by decide) dX12_noChance_1 (fun c => ?_) (fun c => ?_)
  · have hs := if_t c hs
    exact go_subL (L' := [none, none, none, none]) (by simp [subL, va_rf]) (oX12_noChance_14 hd hs hk)
  · have hs := if_f c hs
    refine go_iload_n (k4 := 3) rfl dX12_noChance_4 ?_
    refine go_i2l dX12_noChance_5 ?_
    refine go_lconst (v := 0) (by decide) dX12_noChance_6 ?_
    refine go_lconst (v := 1) (by decide) dX12_noChance_7 ?_
    obtain ⟨y1, ey1, hs⟩ := bindS hs
    refine go_S1 (As := [.long (x3.toInt64), .long (0 : Int64), .long (1 : Int64)]) (st := []) (oX12_within (d := d - 1) (by omega) ey1) (by omega) mb_X12_within lm_RX12_155 ms_X12_within (Nat.le_of_ble_eq_true rfl) rfl dX12_noChance_8 ?_
    refine go_if_ne (tgt := 19) (by decide) dX12_noChance_11 (fun c => ?_) (fun c => ?_)
    · have hs := if_f c hs
      refine go_iload_n (k4 := 2) rfl dX12_noChance_19 ?_
      refine go_i2l dX12_noChance_20 ?_
      refine go_lconst (v := 0) (by decide) dX12_noChance_21 ?_
      refine go_ldc2 lc_RX12_410 dX12_noChance_22 ?_
      obtain ⟨y2, ey2, hs⟩ := bindS hs
      refine go_S1 (As := [.long (x2.toInt64), .long (0 : Int64), .long (8 : Int64)]) (st := []) (oX12_within (d := d - 1) (by omega) ey2) (by omega) mb_X12_within lm_RX12_155 ms_X12_within (Nat.le_of_ble_eq_true rfl) rfl dX12_noChance_25 ?_
      refine go_if_eq (tgt := 35) (by decide) dX12_noChance_28 (fun c => ?_) (fun c => ?_)
      · have hs := if_t c hs
        refine go_bipush (v := -3) (by decide) dX12_noChance_35 ?_
        exact go_subL (L' := [none, none, none, none]) (by simp [subL, va_rf]) (oX12_noChance_37 hd hs hk)
      · have hs := if_f c hs
        refine go_iconst (v := 0) (by decide) dX12_noChance_31 ?_
        refine go_goto (tgt := 37) (by decide) dX12_noChance_32 ?_
        exact go_subL (L' := [none, none, none, none]) (by simp [subL, va_rf]) (oX12_noChance_37 hd hs hk)
    · have hs := if_t c hs
      exact go_subL (L' := [none, none, none, none]) (by simp [subL, va_rf]) (oX12_noChance_14 hd hs hk)
theorem oX12_noChance {d : Nat} (hd : 1 ≤ d) {h : Hp} {x0 : Nat} {x1 : Int32} {x2 : Int32} {x3 : Int32} {y : Int32} (hs : fX12_noChance h x1 x2 x3 = some y) : Call d mX12_noChance [.ref x0, .int x1, .int x2, .int x3] h (some (.int y)) h := call_of (by decide +kernel) (Nat.le_of_ble_eq_true rfl) (show Go d mX12_noChance 0 [some (.ref x0), some (.int x1), some (.int x2), some (.int x3)] [] h _ _ from go_subL (by simp [subL]) (oX12_noChance_0 hd hs ⟨rfl, rfl⟩))
abbrev kX12_chance (rf : Option Value) (hf : Hp) : (Int32 × Hp) → Prop := fun y => rf = some (.int y.1) ∧ hf = y.2
abbrev pX12_chance_40 (d : Nat) (h : Hp) (x0 : Nat) (x1 : Int32) (x3 : Int32) (x5 : Int32) (rf : Option Value) (hf : Hp) : (Int64 × Int32) → Prop := fun s => Go d mX12_chance 40 [some (.ref x0), some (.int x1), none, some (.int x3), none, some (.int x5), some (.long s.1), none, some (.int s.2)] [] h rf hf
noncomputable def fX12_chance_82 (h : Hp) (x0 : Nat) (x1 : Int32) (x3 : Int32) (x5 : Int32) (x8 : Int32) (s0 : Int64) (s1 : Int64) : Option ((Int64 × Int32) ⊕ (Int32 × Hp)) :=
  some (.inl ((s0 + s1), (x8 + Int32.ofInt 1)))
theorem oX12_chance_82 {d : Nat} (hd : 104 ≤ d) {h : Hp} {x0 : Nat} {x1 : Int32} {x3 : Int32} {x5 : Int32} {x8 : Int32} {s0 : Int64} {s1 : Int64} {rf : Option Value} {hf : Hp} {x : ((Int64 × Int32) ⊕ (Int32 × Hp))} (hs : fX12_chance_82 h x0 x1 x3 x5 x8 s0 s1 = some x) (hk : (Kx (pX12_chance_40 d h x0 x1 x3 x5 rf hf) (kX12_chance rf hf)) x) : Go d mX12_chance 82 [some (.ref x0), some (.int x1), none, some (.int x3), none, some (.int x5), none, none, some (.int x8)] [.long s1, .long s0] h rf hf := by
  unfold fX12_chance_82 at hs
  refine go_ladd dX12_chance_82 ?_
  refine go_lstore (L' := [some (.ref x0), some (.int x1), none, some (.int x3), none, some (.int x5), some (.long (s0 + s1)), none, some (.int x8)]) (by decide) rfl dX12_chance_83 ?_
  refine go_iinc (L' := [some (.ref x0), some (.int x1), none, some (.int x3), none, some (.int x5), some (.long (s0 + s1)), none, some (.int (x8 + Int32.ofInt 1))]) rfl (by decide) rfl rfl dX12_chance_85 ?_
  refine go_goto (tgt := 40) (by decide) dX12_chance_88 ?_
  obtain rfl := Option.some.inj hs
  exact go_subL (L' := [some (.ref x0), some (.int x1), none, some (.int x3), none, some (.int x5), some (.long (s0 + s1)), none, some (.int (x8 + Int32.ofInt 1))]) (by simp [subL, va_rf]) hk
noncomputable def fX12_chance_81 (h : Hp) (x0 : Nat) (x1 : Int32) (x3 : Int32) (x5 : Int32) (x8 : Int32) (s0 : Int64) : Option ((Int64 × Int32) ⊕ (Int32 × Hp)) :=
  fX12_chance_82 h x0 x1 x3 x5 x8 s0 (0 : Int64)
theorem oX12_chance_81 {d : Nat} (hd : 104 ≤ d) {h : Hp} {x0 : Nat} {x1 : Int32} {x3 : Int32} {x5 : Int32} {x8 : Int32} {s0 : Int64} {rf : Option Value} {hf : Hp} {x : ((Int64 × Int32) ⊕ (Int32 × Hp))} (hs : fX12_chance_81 h x0 x1 x3 x5 x8 s0 = some x) (hk : (Kx (pX12_chance_40 d h x0 x1 x3 x5 rf hf) (kX12_chance rf hf)) x) : Go d mX12_chance 81 [some (.ref x0), some (.int x1), none, some (.int x3), none, some (.int x5), none, none, some (.int x8)] [.long s0] h rf hf := by
  unfold fX12_chance_81 at hs
  refine go_lconst (v := 0) (by decide) dX12_chance_81 ?_
  exact go_subL (L' := [some (.ref x0), some (.int x1), none, some (.int x3), none, some (.int x5), none, none, some (.int x8)]) (by simp [subL, va_rf]) (oX12_chance_82 hd hs hk)
noncomputable def fX12_chance_40b (h : Hp) (x0 : Nat) (x1 : Int32) (x3 : Int32) (x5 : Int32) (x6 : Int64) (x8 : Int32) : Option ((Int64 × Int32) ⊕ (Int32 × Hp)) :=
  if (20000 : Int32) ≤ x8 then (
    (fX12_part h x6 x5 x3).bind fun y8 =>
    some (.inr (y8, h))) else (
    (gN h 12 x0 34).bind fun v9 =>
    (aJ h v9 x8).bind fun v10 =>
    if (lg_cmp v10 (0 : Int64)) ≤ 0 then (
    fX12_chance_81 h x0 x1 x3 x5 x8 x6) else (
      (fX12_gapIn h x8 x1).bind fun y11 =>
      if y11 = 0 then (
        (gN h 12 x0 34).bind fun v12 =>
        (aJ h v12 x8).bind fun v13 =>
        fX12_chance_82 h x0 x1 x3 x5 x8 x6 v13) else (
      fX12_chance_81 h x0 x1 x3 x5 x8 x6)))
noncomputable def fX12_chance_40 (h : Hp) (x0 : Nat) (x1 : Int32) (x3 : Int32) (x5 : Int32) (x6 : Int64) (x8 : Int32) : Option (Int32 × Hp) := lpw (σ := (Int64 × Int32)) (fun s => fX12_chance_40b h x0 x1 x3 x5 s.1 s.2) (x6, x8)
theorem oX12_chance_40b {d : Nat} (hd : 104 ≤ d) {h : Hp} {x0 : Nat} {x1 : Int32} {x3 : Int32} {x5 : Int32} {x6 : Int64} {x8 : Int32} {rf : Option Value} {hf : Hp} {x : ((Int64 × Int32) ⊕ (Int32 × Hp))} (hs : fX12_chance_40b h x0 x1 x3 x5 x6 x8 = some x) (hk : (Kx (pX12_chance_40 d h x0 x1 x3 x5 rf hf) (kX12_chance rf hf)) x) : Go d mX12_chance 40 [some (.ref x0), some (.int x1), none, some (.int x3), none, some (.int x5), some (.long x6), none, some (.int x8)] [] h rf hf := by
  unfold fX12_chance_40b at hs
  refine go_iload rfl dX12_chance_40 ?_
  refine go_sipush (v := 20000) (by decide) dX12_chance_42 ?_
  refine go_icmp_ge (tgt := 91) (by decide) dX12_chance_45 (fun c => ?_) (fun c => ?_)
  · have hs := if_t c hs
    refine go_lload rfl dX12_chance_91 ?_
    refine go_iload rfl dX12_chance_93 ?_
    refine go_iload_n (k4 := 3) rfl dX12_chance_95 ?_
    obtain ⟨y8, ey8, hs⟩ := bindS hs
    refine go_S1 (As := [.long x6, .int x5, .int x3]) (st := []) (oX12_part (d := d - 1) (by omega) ey8) (by omega) mb_X12_part lm_RX12_458 ms_X12_part (Nat.le_of_ble_eq_true rfl) rfl dX12_chance_96 ?_
    obtain rfl := Option.some.inj hs
    obtain ⟨rfl, rfl⟩ := hk
    exact go_iret rfl dX12_chance_99
  · have hs := if_f c hs
    refine go_lload rfl dX12_chance_48 ?_
    refine go_aload_n (k4 := 0) rfl (Or.inr ⟨_, rfl⟩) dX12_chance_50 ?_
    obtain ⟨v9, ev9, hs⟩ := bindS hs
    refine go_gN fl_RX12_67 ev9 dX12_chance_51 ?_
    refine go_iload rfl dX12_chance_54 ?_
    obtain ⟨v10, ev10, hs⟩ := bindS hs
    refine go_aJ ev10 dX12_chance_56 ?_
    refine go_lconst (v := 0) (by decide) dX12_chance_57 ?_
    refine go_lcmp dX12_chance_58 ?_
    refine go_at 59 rfl ?_
    refine go_if_le (tgt := 81) (by decide) dX12_chance_59 (fun c => ?_) (fun c => ?_)
    · have hs := if_t c hs
      exact go_subL (L' := [some (.ref x0), some (.int x1), none, some (.int x3), none, some (.int x5), none, none, some (.int x8)]) (by simp [subL, va_rf]) (oX12_chance_81 hd hs hk)
    · have hs := if_f c hs
      refine go_iload rfl dX12_chance_62 ?_
      refine go_iload_n (k4 := 1) rfl dX12_chance_64 ?_
      obtain ⟨y11, ey11, hs⟩ := bindS hs
      refine go_S1 (As := [.int x8, .int x1]) (st := [.long x6]) (oX12_gapIn (d := d - 1) (by omega) ey11) (by omega) mb_X12_gapIn lm_RX12_217 ms_X12_gapIn (Nat.le_of_ble_eq_true rfl) rfl dX12_chance_65 ?_
      refine go_if_ne (tgt := 81) (by decide) dX12_chance_68 (fun c => ?_) (fun c => ?_)
      · have hs := if_f c hs
        exact go_subL (L' := [some (.ref x0), some (.int x1), none, some (.int x3), none, some (.int x5), none, none, some (.int x8)]) (by simp [subL, va_rf]) (oX12_chance_81 hd hs hk)
      · have hs := if_t c hs
        refine go_aload_n (k4 := 0) rfl (Or.inr ⟨_, rfl⟩) dX12_chance_71 ?_
        obtain ⟨v12, ev12, hs⟩ := bindS hs
        refine go_gN fl_RX12_67 ev12 dX12_chance_72 ?_
        refine go_iload rfl dX12_chance_75 ?_
        obtain ⟨v13, ev13, hs⟩ := bindS hs
        refine go_aJ ev13 dX12_chance_77 ?_
        refine go_goto (tgt := 82) (by decide) dX12_chance_78 ?_
        exact go_subL (L' := [some (.ref x0), some (.int x1), none, some (.int x3), none, some (.int x5), none, none, some (.int x8)]) (by simp [subL, va_rf]) (oX12_chance_82 hd hs hk)
theorem oX12_chance_40 {d : Nat} (hd : 104 ≤ d) {h : Hp} {x0 : Nat} {x1 : Int32} {x3 : Int32} {x5 : Int32} {x6 : Int64} {x8 : Int32} {rf : Option Value} {hf : Hp} {x : (Int32 × Hp)} (hs : fX12_chance_40 h x0 x1 x3 x5 x6 x8 = some x) (hk : (kX12_chance rf hf) x) : Go d mX12_chance 40 [some (.ref x0), some (.int x1), none, some (.int x3), none, some (.int x5), some (.long x6), none, some (.int x8)] [] h rf hf := by
  unfold fX12_chance_40 at hs
  exact lpw_go (P := pX12_chance_40 d h x0 x1 x3 x5 rf hf) (fun s x hs hk => oX12_chance_40b hd hs hk) (x6, x8) x hs hk
noncomputable def fX12_chance (h : Hp) (x0 : Nat) (x1 : Int32) (x2 : Int32) (x3 : Int32) : Option (Int32 × Hp) :=
  (sV h 12 x0 0 (.int (0 : Int32))).bind fun h1 =>
  gO h1 12 x0 (
  (fX12_isPair h1 x0 (x1.toInt64)).bind fun y2 =>
  gO h1 12 x0 (
  (fX12_noChance h1 y2 x2 x3).bind fun y4 =>
  if y4 = 0 then (
    gO h1 12 x0 (
    (fX12_laysLikely h1 x0 x2).bind fun y6 =>
    fX12_chance_40 y6.2 x0 x1 x3 y6.1 (0 : Int64) (0 : Int32))) else (
    some ((y4, h1)))))
theorem oX12_chance_0 {d : Nat} (hd : 104 ≤ d) {h : Hp} {x0 : Nat} {x1 : Int32} {x2 : Int32} {x3 : Int32} {rf : Option Value} {hf : Hp} {x : (Int32 × Hp)} (hs : fX12_chance h x0 x1 x2 x3 = some x) (hk : (kX12_chance rf hf) x) : Go d mX12_chance 0 [some (.ref x0), some (.int x1), some (.int x2), some (.int x3), none, none, none, none, none] [] h rf hf := by
  unfold fX12_chance at hs
  refine go_aload_n (k4 := 0) rfl (Or.inr ⟨_, rfl⟩) dX12_chance_0 ?_
  refine go_iconst (v := 0) (by decide) dX12_chance_1 ?_
  obtain ⟨h1, eh1, hs⟩ := bindS hs
  refine go_sV fw_RX12_1 eh1 rfl rfl dX12_chance_2 ?_
  refine go_aload_n (k4 := 0) rfl (Or.inr ⟨_, rfl⟩) dX12_chance_5 ?_
  refine go_aload_n (k4 := 0) rfl (Or.inr ⟨_, rfl⟩) dX12_chance_6 ?_
  refine go_iload_n (k4 := 1) rfl dX12_chance_7 ?_
  refine go_i2l dX12_chance_8 ?_
  refine go_at 9 rfl ?_
  obtain ⟨g3, hs⟩ := gO_at hs
  obtain ⟨y2, ey2, hs⟩ := bindS hs
  refine go_V1 (As := [.long (x1.toInt64)]) (st := [.ref x0]) g3 rfl rfl (oX12_isPair (d := d - 1) (by omega) ey2) (by omega) mb_X12_isPair lm_RX12_271 mi_X12_isPair (Nat.le_of_ble_eq_true rfl) rfl dX12_chance_9 ?_
  refine go_iload_n (k4 := 2) rfl dX12_chance_12 ?_
  refine go_iload_n (k4 := 3) rfl dX12_chance_13 ?_
  obtain ⟨g5, hs⟩ := gO_at hs
  obtain ⟨y4, ey4, hs⟩ := bindS hs
  refine go_V1 (As := [.int y2, .int x2, .int x3]) (st := []) g5 rfl rfl (oX12_noChance (d := d - 1) (by omega) ey4) (by omega) mb_X12_noChance lm_RX12_451 mi_X12_noChance (Nat.le_of_ble_eq_true rfl) rfl dX12_chance_14 ?_
  refine go_istore (L' := [some (.ref x0), some (.int x1), some (.int x2), some (.int x3), some (.int y4), none, none, none, none]) (by decide) rfl dX12_chance_17 ?_
  refine go_iload rfl dX12_chance_19 ?_
  refine go_if_eq (tgt := 27) (by decide) dX12_chance_21 (fun c => ?_) (fun c => ?_)
  · have hs := if_t c hs
    refine go_aload_n (k4 := 0) rfl (Or.inr ⟨_, rfl⟩) dX12_chance_27 ?_
    refine go_iload_n (k4 := 2) rfl dX12_chance_28 ?_
    obtain ⟨g7, hs⟩ := gO_at hs
    obtain ⟨y6, ey6, hs⟩ := bindS hs
    refine go_V1 (As := [.int x2]) (st := []) g7 rfl rfl (oX12_laysLikely (d := d - 1) (by omega) ey6) (by omega) mb_X12_laysLikely lm_RX12_455 mi_X12_laysLikely (Nat.le_of_ble_eq_true rfl) rfl dX12_chance_29 ?_
    refine go_istore (L' := [some (.ref x0), some (.int x1), some (.int x2), some (.int x3), some (.int y4), some (.int y6.1), none, none, none]) (by decide) rfl dX12_chance_32 ?_
    refine go_lconst (v := 0) (by decide) dX12_chance_34 ?_
    refine go_lstore (L' := [some (.ref x0), some (.int x1), some (.int x2), some (.int x3), some (.int y4), some (.int y6.1), some (.long (0 : Int64)), none, none]) (by decide) rfl dX12_chance_35 ?_
    refine go_iconst (v := 0) (by decide) dX12_chance_37 ?_
    refine go_at 38 rfl ?_
    refine go_istore (L' := [some (.ref x0), some (.int x1), some (.int x2), some (.int x3), some (.int y4), some (.int y6.1), some (.long (0 : Int64)), none, some (.int (0 : Int32))]) (by decide) rfl dX12_chance_38 ?_
    exact go_subL (L' := [some (.ref x0), some (.int x1), none, some (.int x3), none, some (.int y6.1), some (.long (0 : Int64)), none, some (.int (0 : Int32))]) (by simp [subL, va_rf]) (oX12_chance_40 hd hs hk)
  · have hs := if_f c hs
    refine go_iload rfl dX12_chance_24 ?_
    obtain rfl := Option.some.inj hs
    obtain ⟨rfl, rfl⟩ := hk
    exact go_iret rfl dX12_chance_26
theorem oX12_chance {d : Nat} (hd : 104 ≤ d) {h : Hp} {x0 : Nat} {x1 : Int32} {x2 : Int32} {x3 : Int32} {y : (Int32 × Hp)} (hs : fX12_chance h x0 x1 x2 x3 = some y) : Call d mX12_chance [.ref x0, .int x1, .int x2, .int x3] h (some (.int y.1)) (y.2) := call_of (by decide +kernel) (Nat.le_of_ble_eq_true rfl) (show Go d mX12_chance 0 [some (.ref x0), some (.int x1), some (.int x2), some (.int x3), none, none, none, none, none] [] h _ _ from go_subL (by simp [subL]) (oX12_chance_0 hd hs ⟨rfl, rfl⟩))
abbrev kX12_mean (rf : Option Value) (hf : Hp) : (Int32 × Hp) → Prop := fun y => rf = some (.int y.1) ∧ hf = y.2
abbrev pX12_mean_40 (d : Nat) (h : Hp) (x0 : Nat) (x1 : Int32) (x3 : Int32) (x5 : Int32) (rf : Option Value) (hf : Hp) : (Int64 × Int32) → Prop := fun s => Go d mX12_mean 40 [some (.ref x0), some (.int x1), none, some (.int x3), none, some (.int x5), some (.long s.1), none, some (.int s.2)] [] h rf hf
noncomputable def fX12_mean_81 (h : Hp) (x0 : Nat) (x1 : Int32) (x3 : Int32) (x5 : Int32) (x8 : Int32) (s0 : Int64) (s1 : Int64) : Option ((Int64 × Int32) ⊕ (Int32 × Hp)) :=
  some (.inl ((s0 + s1), (x8 + Int32.ofInt 1)))
theorem oX12_mean_81 {d : Nat} (hd : 104 ≤ d) {h : Hp} {x0 : Nat} {x1 : Int32} {x3 : Int32} {x5 : Int32} {x8 : Int32} {s0 : Int64} {s1 : Int64} {rf : Option Value} {hf : Hp} {x : ((Int64 × Int32) ⊕ (Int32 × Hp))} (hs : fX12_mean_81 h x0 x1 x3 x5 x8 s0 s1 = some x) (hk : (Kx (pX12_mean_40 d h x0 x1 x3 x5 rf hf) (kX12_mean rf hf)) x) : Go d mX12_mean 81 [some (.ref x0), some (.int x1), none, some (.int x3), none, some (.int x5), none, none, some (.int x8)] [.long s1, .long s0] h rf hf := by
  unfold fX12_mean_81 at hs
  refine go_ladd dX12_mean_81 ?_
  refine go_lstore (L' := [some (.ref x0), some (.int x1), none, some (.int x3), none, some (.int x5), some (.long (s0 + s1)), none, some (.int x8)]) (by decide) rfl dX12_mean_82 ?_
  refine go_iinc (L' := [some (.ref x0), some (.int x1), none, some (.int x3), none, some (.int x5), some (.long (s0 + s1)), none, some (.int (x8 + Int32.ofInt 1))]) rfl (by decide) rfl rfl dX12_mean_84 ?_
  refine go_goto (tgt := 40) (by decide) dX12_mean_87 ?_
  obtain rfl := Option.some.inj hs
  exact go_subL (L' := [some (.ref x0), some (.int x1), none, some (.int x3), none, some (.int x5), some (.long (s0 + s1)), none, some (.int (x8 + Int32.ofInt 1))]) (by simp [subL, va_rf]) hk
noncomputable def fX12_mean_40b (h : Hp) (x0 : Nat) (x1 : Int32) (x3 : Int32) (x5 : Int32) (x6 : Int64) (x8 : Int32) : Option ((Int64 × Int32) ⊕ (Int32 × Hp)) :=
  if (20000 : Int32) ≤ x8 then (
    (fX12_part h x6 x5 x3).bind fun y8 =>
    some (.inr (y8, h))) else (
    (gN h 12 x0 34).bind fun v9 =>
    (aJ h v9 x8).bind fun v10 =>
    if (lg_cmp v10 (0 : Int64)) ≤ 0 then (
      fX12_mean_81 h x0 x1 x3 x5 x8 x6 (0 : Int64)) else (
      (gN h 12 x0 34).bind fun v11 =>
      (aJ h v11 x8).bind fun v12 =>
      (fX12_gapIn h x8 x1).bind fun y13 =>
      fX12_mean_81 h x0 x1 x3 x5 x8 x6 (v12 * (y13.toInt64))))
noncomputable def fX12_mean_40 (h : Hp) (x0 : Nat) (x1 : Int32) (x3 : Int32) (x5 : Int32) (x6 : Int64) (x8 : Int32) : Option (Int32 × Hp) := lpw (σ := (Int64 × Int32)) (fun s => fX12_mean_40b h x0 x1 x3 x5 s.1 s.2) (x6, x8)
theorem oX12_mean_40b {d : Nat} (hd : 104 ≤ d) {h : Hp} {x0 : Nat} {x1 : Int32} {x3 : Int32} {x5 : Int32} {x6 : Int64} {x8 : Int32} {rf : Option Value} {hf : Hp} {x : ((Int64 × Int32) ⊕ (Int32 × Hp))} (hs : fX12_mean_40b h x0 x1 x3 x5 x6 x8 = some x) (hk : (Kx (pX12_mean_40 d h x0 x1 x3 x5 rf hf) (kX12_mean rf hf)) x) : Go d mX12_mean 40 [some (.ref x0), some (.int x1), none, some (.int x3), none, some (.int x5), some (.long x6), none, some (.int x8)] [] h rf hf := by
  unfold fX12_mean_40b at hs
  refine go_iload rfl dX12_mean_40 ?_
  refine go_sipush (v := 20000) (by decide) dX12_mean_42 ?_
  refine go_icmp_ge (tgt := 90) (by decide) dX12_mean_45 (fun c => ?_) (fun c => ?_)
  · have hs := if_t c hs
    refine go_lload rfl dX12_mean_90 ?_
    refine go_iload rfl dX12_mean_92 ?_
    refine go_iload_n (k4 := 3) rfl dX12_mean_94 ?_
    obtain ⟨y8, ey8, hs⟩ := bindS hs
    refine go_S1 (As := [.long x6, .int x5, .int x3]) (st := []) (oX12_part (d := d - 1) (by omega) ey8) (by omega) mb_X12_part lm_RX12_458 ms_X12_part (Nat.le_of_ble_eq_true rfl) rfl dX12_mean_95 ?_
    obtain rfl := Option.some.inj hs
    obtain ⟨rfl, rfl⟩ := hk
    exact go_iret rfl dX12_mean_98
  · have hs := if_f c hs
    refine go_lload rfl dX12_mean_48 ?_
    refine go_aload_n (k4 := 0) rfl (Or.inr ⟨_, rfl⟩) dX12_mean_50 ?_
    obtain ⟨v9, ev9, hs⟩ := bindS hs
    refine go_gN fl_RX12_67 ev9 dX12_mean_51 ?_
    refine go_iload rfl dX12_mean_54 ?_
    obtain ⟨v10, ev10, hs⟩ := bindS hs
    refine go_aJ ev10 dX12_mean_56 ?_
    refine go_lconst (v := 0) (by decide) dX12_mean_57 ?_
    refine go_lcmp dX12_mean_58 ?_
    refine go_at 59 rfl ?_
    refine go_if_le (tgt := 80) (by decide) dX12_mean_59 (fun c => ?_) (fun c => ?_)
    · have hs := if_t c hs
      refine go_lconst (v := 0) (by decide) dX12_mean_80 ?_
      exact go_subL (L' := [some (.ref x0), some (.int x1), none, some (.int x3), none, some (.int x5), none, none, some (.int x8)]) (by simp [subL, va_rf]) (oX12_mean_81 hd hs hk)
    · have hs := if_f c hs
      refine go_aload_n (k4 := 0) rfl (Or.inr ⟨_, rfl⟩) dX12_mean_62 ?_
      obtain ⟨v11, ev11, hs⟩ := bindS hs
      refine go_gN fl_RX12_67 ev11 dX12_mean_63 ?_
      refine go_iload rfl dX12_mean_66 ?_
      obtain ⟨v12, ev12, hs⟩ := bindS hs
      refine go_aJ ev12 dX12_mean_68 ?_
      refine go_iload rfl dX12_mean_69 ?_
      refine go_iload_n (k4 := 1) rfl dX12_mean_71 ?_
      obtain ⟨y13, ey13, hs⟩ := bindS hs
      refine go_S1 (As := [.int x8, .int x1]) (st := [.long v12, .long x6]) (oX12_gapIn (d := d - 1) (by omega) ey13) (by omega) mb_X12_gapIn lm_RX12_217 ms_X12_gapIn (Nat.le_of_ble_eq_true rfl) rfl dX12_mean_72 ?_
      refine go_at 75 rfl ?_
      refine go_i2l dX12_mean_75 ?_
      refine go_lmul dX12_mean_76 ?_
      refine go_goto (tgt := 81) (by decide) dX12_mean_77 ?_
      exact go_subL (L' := [some (.ref x0), some (.int x1), none, some (.int x3), none, some (.int x5), none, none, some (.int x8)]) (by simp [subL, va_rf]) (oX12_mean_81 hd hs hk)
theorem oX12_mean_40 {d : Nat} (hd : 104 ≤ d) {h : Hp} {x0 : Nat} {x1 : Int32} {x3 : Int32} {x5 : Int32} {x6 : Int64} {x8 : Int32} {rf : Option Value} {hf : Hp} {x : (Int32 × Hp)} (hs : fX12_mean_40 h x0 x1 x3 x5 x6 x8 = some x) (hk : (kX12_mean rf hf) x) : Go d mX12_mean 40 [some (.ref x0), some (.int x1), none, some (.int x3), none, some (.int x5), some (.long x6), none, some (.int x8)] [] h rf hf := by
  unfold fX12_mean_40 at hs
  exact lpw_go (P := pX12_mean_40 d h x0 x1 x3 x5 rf hf) (fun s x hs hk => oX12_mean_40b hd hs hk) (x6, x8) x hs hk
noncomputable def fX12_mean (h : Hp) (x0 : Nat) (x1 : Int32) (x2 : Int32) (x3 : Int32) : Option (Int32 × Hp) :=
  (sV h 12 x0 0 (.int (0 : Int32))).bind fun h1 =>
  gO h1 12 x0 (
  (fX12_isPair h1 x0 (x1.toInt64)).bind fun y2 =>
  gO h1 12 x0 (
  (fX12_noChance h1 y2 x2 x3).bind fun y4 =>
  if y4 = 0 then (
    gO h1 12 x0 (
    (fX12_laysLikely h1 x0 x2).bind fun y6 =>
    fX12_mean_40 y6.2 x0 x1 x3 y6.1 (0 : Int64) (0 : Int32))) else (
    some ((y4, h1)))))
theorem oX12_mean_0 {d : Nat} (hd : 104 ≤ d) {h : Hp} {x0 : Nat} {x1 : Int32} {x2 : Int32} {x3 : Int32} {rf : Option Value} {hf : Hp} {x : (Int32 × Hp)} (hs : fX12_mean h x0 x1 x2 x3 = some x) (hk : (kX12_mean rf hf) x) : Go d mX12_mean 0 [some (.ref x0), some (.int x1), some (.int x2), some (.int x3), none, none, none, none, none] [] h rf hf := by
  unfold fX12_mean at hs
  refine go_aload_n (k4 := 0) rfl (Or.inr ⟨_, rfl⟩) dX12_mean_0 ?_
  refine go_iconst (v := 0) (by decide) dX12_mean_1 ?_
  obtain ⟨h1, eh1, hs⟩ := bindS hs
  refine go_sV fw_RX12_1 eh1 rfl rfl dX12_mean_2 ?_
  refine go_aload_n (k4 := 0) rfl (Or.inr ⟨_, rfl⟩) dX12_mean_5 ?_
  refine go_aload_n (k4 := 0) rfl (Or.inr ⟨_, rfl⟩) dX12_mean_6 ?_
  refine go_iload_n (k4 := 1) rfl dX12_mean_7 ?_
  refine go_i2l dX12_mean_8 ?_
  refine go_at 9 rfl ?_
  obtain ⟨g3, hs⟩ := gO_at hs
  obtain ⟨y2, ey2, hs⟩ := bindS hs
  refine go_V1 (As := [.long (x1.toInt64)]) (st := [.ref x0]) g3 rfl rfl (oX12_isPair (d := d - 1) (by omega) ey2) (by omega) mb_X12_isPair lm_RX12_271 mi_X12_isPair (Nat.le_of_ble_eq_true rfl) rfl dX12_mean_9 ?_
  refine go_iload_n (k4 := 2) rfl dX12_mean_12 ?_
  refine go_iload_n (k4 := 3) rfl dX12_mean_13 ?_
  obtain ⟨g5, hs⟩ := gO_at hs
  obtain ⟨y4, ey4, hs⟩ := bindS hs
  refine go_V1 (As := [.int y2, .int x2, .int x3]) (st := []) g5 rfl rfl (oX12_noChance (d := d - 1) (by omega) ey4) (by omega) mb_X12_noChance lm_RX12_451 mi_X12_noChance (Nat.le_of_ble_eq_true rfl) rfl dX12_mean_14 ?_
  refine go_istore (L' := [some (.ref x0), some (.int x1), some (.int x2), some (.int x3), some (.int y4), none, none, none, none]) (by decide) rfl dX12_mean_17 ?_
  refine go_iload rfl dX12_mean_19 ?_
  refine go_if_eq (tgt := 27) (by decide) dX12_mean_21 (fun c => ?_) (fun c => ?_)
  · have hs := if_t c hs
    refine go_aload_n (k4 := 0) rfl (Or.inr ⟨_, rfl⟩) dX12_mean_27 ?_
    refine go_iload_n (k4 := 2) rfl dX12_mean_28 ?_
    obtain ⟨g7, hs⟩ := gO_at hs
    obtain ⟨y6, ey6, hs⟩ := bindS hs
    refine go_V1 (As := [.int x2]) (st := []) g7 rfl rfl (oX12_laysLikely (d := d - 1) (by omega) ey6) (by omega) mb_X12_laysLikely lm_RX12_455 mi_X12_laysLikely (Nat.le_of_ble_eq_true rfl) rfl dX12_mean_29 ?_
    refine go_istore (L' := [some (.ref x0), some (.int x1), some (.int x2), some (.int x3), some (.int y4), some (.int y6.1), none, none, none]) (by decide) rfl dX12_mean_32 ?_
    refine go_lconst (v := 0) (by decide) dX12_mean_34 ?_
    refine go_lstore (L' := [some (.ref x0), some (.int x1), some (.int x2), some (.int x3), some (.int y4), some (.int y6.1), some (.long (0 : Int64)), none, none]) (by decide) rfl dX12_mean_35 ?_
    refine go_iconst (v := 0) (by decide) dX12_mean_37 ?_
    refine go_at 38 rfl ?_
    refine go_istore (L' := [some (.ref x0), some (.int x1), some (.int x2), some (.int x3), some (.int y4), some (.int y6.1), some (.long (0 : Int64)), none, some (.int (0 : Int32))]) (by decide) rfl dX12_mean_38 ?_
    exact go_subL (L' := [some (.ref x0), some (.int x1), none, some (.int x3), none, some (.int y6.1), some (.long (0 : Int64)), none, some (.int (0 : Int32))]) (by simp [subL, va_rf]) (oX12_mean_40 hd hs hk)
  · have hs := if_f c hs
    refine go_iload rfl dX12_mean_24 ?_
    obtain rfl := Option.some.inj hs
    obtain ⟨rfl, rfl⟩ := hk
    exact go_iret rfl dX12_mean_26
theorem oX12_mean {d : Nat} (hd : 104 ≤ d) {h : Hp} {x0 : Nat} {x1 : Int32} {x2 : Int32} {x3 : Int32} {y : (Int32 × Hp)} (hs : fX12_mean h x0 x1 x2 x3 = some y) : Call d mX12_mean [.ref x0, .int x1, .int x2, .int x3] h (some (.int y.1)) (y.2) := call_of (by decide +kernel) (Nat.le_of_ble_eq_true rfl) (show Go d mX12_mean 0 [some (.ref x0), some (.int x1), some (.int x2), some (.int x3), none, none, none, none, none] [] h _ _ from go_subL (by simp [subL]) (oX12_mean_0 hd hs ⟨rfl, rfl⟩))
abbrev kX12_fallen (rf : Option Value) (hf : Hp) : (Int32 × Hp) → Prop := fun y => rf = some (.int y.1) ∧ hf = y.2
abbrev pX12_fallen_34 (d : Nat) (h : Hp) (x0 : Nat) (x2 : Int32) (x4 : Int32) (rf : Option Value) (hf : Hp) : (Int64 × Int32) → Prop := fun s => Go d mX12_fallen 34 [some (.ref x0), none, some (.int x2), none, some (.int x4), some (.long s.1), none, some (.int s.2)] [] h rf hf
noncomputable def fX12_fallen_34b (h : Hp) (x0 : Nat) (x2 : Int32) (x4 : Int32) (x5 : Int64) (x7 : Int32) : Option ((Int64 × Int32) ⊕ (Int32 × Hp)) :=
  if (20000 : Int32) ≤ x7 then (
    (fX12_part h x5 x4 x2).bind fun y6 =>
    some (.inr (y6, h))) else (
    (gN h 12 x0 34).bind fun v7 =>
    (aJ h v7 x7).bind fun v8 =>
    some (.inl ((x5 + v8), (x7 + Int32.ofInt 1))))
noncomputable def fX12_fallen_34 (h : Hp) (x0 : Nat) (x2 : Int32) (x4 : Int32) (x5 : Int64) (x7 : Int32) : Option (Int32 × Hp) := lpw (σ := (Int64 × Int32)) (fun s => fX12_fallen_34b h x0 x2 x4 s.1 s.2) (x5, x7)
theorem oX12_fallen_34b {d : Nat} (hd : 104 ≤ d) {h : Hp} {x0 : Nat} {x2 : Int32} {x4 : Int32} {x5 : Int64} {x7 : Int32} {rf : Option Value} {hf : Hp} {x : ((Int64 × Int32) ⊕ (Int32 × Hp))} (hs : fX12_fallen_34b h x0 x2 x4 x5 x7 = some x) (hk : (Kx (pX12_fallen_34 d h x0 x2 x4 rf hf) (kX12_fallen rf hf)) x) : Go d mX12_fallen 34 [some (.ref x0), none, some (.int x2), none, some (.int x4), some (.long x5), none, some (.int x7)] [] h rf hf := by
  unfold fX12_fallen_34b at hs
  refine go_iload rfl dX12_fallen_34 ?_
  refine go_sipush (v := 20000) (by decide) dX12_fallen_36 ?_
  refine go_icmp_ge (tgt := 60) (by decide) dX12_fallen_39 (fun c => ?_) (fun c => ?_)
  · have hs := if_t c hs
    refine go_lload rfl dX12_fallen_60 ?_
    refine go_iload rfl dX12_fallen_62 ?_
    refine go_iload_n (k4 := 2) rfl dX12_fallen_64 ?_
    obtain ⟨y6, ey6, hs⟩ := bindS hs
    refine go_S1 (As := [.long x5, .int x4, .int x2]) (st := []) (oX12_part (d := d - 1) (by omega) ey6) (by omega) mb_X12_part lm_RX12_458 ms_X12_part (Nat.le_of_ble_eq_true rfl) rfl dX12_fallen_65 ?_
    obtain rfl := Option.some.inj hs
    obtain ⟨rfl, rfl⟩ := hk
    exact go_iret rfl dX12_fallen_68
  · have hs := if_f c hs
    refine go_lload rfl dX12_fallen_42 ?_
    refine go_aload_n (k4 := 0) rfl (Or.inr ⟨_, rfl⟩) dX12_fallen_44 ?_
    obtain ⟨v7, ev7, hs⟩ := bindS hs
    refine go_gN fl_RX12_67 ev7 dX12_fallen_45 ?_
    refine go_iload rfl dX12_fallen_48 ?_
    obtain ⟨v8, ev8, hs⟩ := bindS hs
    refine go_aJ ev8 dX12_fallen_50 ?_
    refine go_ladd dX12_fallen_51 ?_
    refine go_lstore (L' := [some (.ref x0), none, some (.int x2), none, some (.int x4), some (.long (x5 + v8)), none, some (.int x7)]) (by decide) rfl dX12_fallen_52 ?_
    refine go_at 54 rfl ?_
    refine go_iinc (L' := [some (.ref x0), none, some (.int x2), none, some (.int x4), some (.long (x5 + v8)), none, some (.int (x7 + Int32.ofInt 1))]) rfl (by decide) rfl rfl dX12_fallen_54 ?_
    refine go_goto (tgt := 34) (by decide) dX12_fallen_57 ?_
    obtain rfl := Option.some.inj hs
    exact go_subL (L' := [some (.ref x0), none, some (.int x2), none, some (.int x4), some (.long (x5 + v8)), none, some (.int (x7 + Int32.ofInt 1))]) (by simp [subL, va_rf]) hk
theorem oX12_fallen_34 {d : Nat} (hd : 104 ≤ d) {h : Hp} {x0 : Nat} {x2 : Int32} {x4 : Int32} {x5 : Int64} {x7 : Int32} {rf : Option Value} {hf : Hp} {x : (Int32 × Hp)} (hs : fX12_fallen_34 h x0 x2 x4 x5 x7 = some x) (hk : (kX12_fallen rf hf) x) : Go d mX12_fallen 34 [some (.ref x0), none, some (.int x2), none, some (.int x4), some (.long x5), none, some (.int x7)] [] h rf hf := by
  unfold fX12_fallen_34 at hs
  exact lpw_go (P := pX12_fallen_34 d h x0 x2 x4 rf hf) (fun s x hs hk => oX12_fallen_34b hd hs hk) (x5, x7) x hs hk
noncomputable def fX12_fallen (h : Hp) (x0 : Nat) (x1 : Int32) (x2 : Int32) : Option (Int32 × Hp) :=
  (sV h 12 x0 0 (.int (0 : Int32))).bind fun h1 =>
  gO h1 12 x0 (
  (fX12_noChance h1 (1 : Int32) x1 x2).bind fun y2 =>
  if y2 = 0 then (
    gO h1 12 x0 (
    (fX12_laysLikely h1 x0 x1).bind fun y4 =>
    fX12_fallen_34 y4.2 x0 x2 y4.1 (0 : Int64) (10000 : Int32))) else (
    some ((y2, h1))))
theorem oX12_fallen_0 {d : Nat} (hd : 104 ≤ d) {h : Hp} {x0 : Nat} {x1 : Int32} {x2 : Int32} {rf : Option Value} {hf : Hp} {x : (Int32 × Hp)} (hs : fX12_fallen h x0 x1 x2 = some x) (hk : (kX12_fallen rf hf) x) : Go d mX12_fallen 0 [some (.ref x0), some (.int x1), some (.int x2), none, none, none, none, none] [] h rf hf := by
  unfold fX12_fallen at hs
  refine go_aload_n (k4 := 0) rfl (Or.inr ⟨_, rfl⟩) dX12_fallen_0 ?_
  refine go_iconst (v := 0) (by decide) dX12_fallen_1 ?_
  obtain ⟨h1, eh1, hs⟩ := bindS hs
  refine go_sV fw_RX12_1 eh1 rfl rfl dX12_fallen_2 ?_
  refine go_aload_n (k4 := 0) rfl (Or.inr ⟨_, rfl⟩) dX12_fallen_5 ?_
  refine go_iconst (v := 1) (by decide) dX12_fallen_6 ?_
  refine go_iload_n (k4 := 1) rfl dX12_fallen_7 ?_
  refine go_iload_n (k4 := 2) rfl dX12_fallen_8 ?_
  refine go_at 9 rfl ?_
  obtain ⟨g3, hs⟩ := gO_at hs
  obtain ⟨y2, ey2, hs⟩ := bindS hs
  refine go_V1 (As := [.int (1 : Int32), .int x1, .int x2]) (st := []) g3 rfl rfl (oX12_noChance (d := d - 1) (by omega) ey2) (by omega) mb_X12_noChance lm_RX12_451 mi_X12_noChance (Nat.le_of_ble_eq_true rfl) rfl dX12_fallen_9 ?_
  refine go_istore_n (k4 := 3) (L' := [some (.ref x0), some (.int x1), some (.int x2), some (.int y2), none, none, none, none]) (by decide) rfl dX12_fallen_12 ?_
  refine go_iload_n (k4 := 3) rfl dX12_fallen_13 ?_
  refine go_if_eq (tgt := 19) (by decide) dX12_fallen_14 (fun c => ?_) (fun c => ?_)
  · have hs := if_t c hs
    refine go_aload_n (k4 := 0) rfl (Or.inr ⟨_, rfl⟩) dX12_fallen_19 ?_
    refine go_iload_n (k4 := 1) rfl dX12_fallen_20 ?_
    obtain ⟨g5, hs⟩ := gO_at hs
    obtain ⟨y4, ey4, hs⟩ := bindS hs
    refine go_V1 (As := [.int x1]) (st := []) g5 rfl rfl (oX12_laysLikely (d := d - 1) (by omega) ey4) (by omega) mb_X12_laysLikely lm_RX12_455 mi_X12_laysLikely (Nat.le_of_ble_eq_true rfl) rfl dX12_fallen_21 ?_
    refine go_istore (L' := [some (.ref x0), some (.int x1), some (.int x2), some (.int y2), some (.int y4.1), none, none, none]) (by decide) rfl dX12_fallen_24 ?_
    refine go_lconst (v := 0) (by decide) dX12_fallen_26 ?_
    refine go_lstore (L' := [some (.ref x0), some (.int x1), some (.int x2), some (.int y2), some (.int y4.1), some (.long (0 : Int64)), none, none]) (by decide) rfl dX12_fallen_27 ?_
    refine go_sipush (v := 10000) (by decide) dX12_fallen_29 ?_
    refine go_at 32 rfl ?_
    refine go_istore (L' := [some (.ref x0), some (.int x1), some (.int x2), some (.int y2), some (.int y4.1), some (.long (0 : Int64)), none, some (.int (10000 : Int32))]) (by decide) rfl dX12_fallen_32 ?_
    exact go_subL (L' := [some (.ref x0), none, some (.int x2), none, some (.int y4.1), some (.long (0 : Int64)), none, some (.int (10000 : Int32))]) (by simp [subL, va_rf]) (oX12_fallen_34 hd hs hk)
  · have hs := if_f c hs
    refine go_iload_n (k4 := 3) rfl dX12_fallen_17 ?_
    obtain rfl := Option.some.inj hs
    obtain ⟨rfl, rfl⟩ := hk
    exact go_iret rfl dX12_fallen_18
theorem oX12_fallen {d : Nat} (hd : 104 ≤ d) {h : Hp} {x0 : Nat} {x1 : Int32} {x2 : Int32} {y : (Int32 × Hp)} (hs : fX12_fallen h x0 x1 x2 = some y) : Call d mX12_fallen [.ref x0, .int x1, .int x2] h (some (.int y.1)) (y.2) := call_of (by decide +kernel) (Nat.le_of_ble_eq_true rfl) (show Go d mX12_fallen 0 [some (.ref x0), some (.int x1), some (.int x2), none, none, none, none, none] [] h _ _ from go_subL (by simp [subL]) (oX12_fallen_0 hd hs ⟨rfl, rfl⟩))
abbrev kX12_cut (h : Hp) (rf : Option Value) (hf : Hp) : Int64 → Prop := fun y => rf = some (.long y) ∧ hf = h
noncomputable def fX12_cut_35 (h : Hp) (s0 : Int64) : Option Int64 :=
  some (s0)
theorem oX12_cut_35 {d : Nat} (hd : 0 ≤ d) {h : Hp} {s0 : Int64} {rf : Option Value} {hf : Hp} {x : Int64} (hs : fX12_cut_35 h s0 = some x) (hk : (kX12_cut h rf hf) x) : Go d mX12_cut 35 [none, none, none] [.long s0] h rf hf := by
  unfold fX12_cut_35 at hs
  obtain rfl := Option.some.inj hs
  obtain ⟨rfl, rfl⟩ := hk
  exact go_lret rfl dX12_cut_35
noncomputable def fX12_cut (h : Hp) (x0 : Int64) (x2 : Int32) : Option Int64 :=
  if x2 = 0 then (
    fX12_cut_35 h (x0.toInt32).toInt8.toInt32.toInt64) else (
    if x2 = (1 : Int32) then (
      fX12_cut_35 h (x0.toInt32).toInt16.toInt32.toInt64) else (
      if x2 = (2 : Int32) then (
        fX12_cut_35 h (x0.toInt32).toInt64) else (
        fX12_cut_35 h x0)))
theorem oX12_cut_0 {d : Nat} (hd : 0 ≤ d) {h : Hp} {x0 : Int64} {x2 : Int32} {rf : Option Value} {hf : Hp} {x : Int64} (hs : fX12_cut h x0 x2 = some x) (hk : (kX12_cut h rf hf) x) : Go d mX12_cut 0 [some (.long x0), none, some (.int x2)] [] h rf hf := by
  unfold fX12_cut at hs
  refine go_iload_n (k4 := 2) rfl dX12_cut_0 ?_
  refine go_if_ne (tgt := 11) (by decide) dX12_cut_1 (fun c => ?_) (fun c => ?_)
  · have hs := if_f c hs
    refine go_iload_n (k4 := 2) rfl dX12_cut_11 ?_
    refine go_iconst (v := 1) (by decide) dX12_cut_12 ?_
    refine go_icmp_ne (tgt := 23) (by decide) dX12_cut_13 (fun c => ?_) (fun c => ?_)
    · have hs := if_f c hs
      refine go_iload_n (k4 := 2) rfl dX12_cut_23 ?_
      refine go_iconst (v := 2) (by decide) dX12_cut_24 ?_
      refine go_icmp_ne (tgt := 34) (by decide) dX12_cut_25 (fun c => ?_) (fun c => ?_)
      · have hs := if_f c hs
        refine go_lload_n (k4 := 0) rfl dX12_cut_34 ?_
        exact go_subL (L' := [none, none, none]) (by simp [subL, va_rf]) (oX12_cut_35 hd hs hk)
      · have hs := if_t c hs
        refine go_lload_n (k4 := 0) rfl dX12_cut_28 ?_
        refine go_l2i dX12_cut_29 ?_
        refine go_i2l dX12_cut_30 ?_
        refine go_goto (tgt := 35) (by decide) dX12_cut_31 ?_
        exact go_subL (L' := [none, none, none]) (by simp [subL, va_rf]) (oX12_cut_35 hd hs hk)
    · have hs := if_t c hs
      refine go_lload_n (k4 := 0) rfl dX12_cut_16 ?_
      refine go_l2i dX12_cut_17 ?_
      refine go_i2s dX12_cut_18 ?_
      refine go_i2l dX12_cut_19 ?_
      refine go_goto (tgt := 35) (by decide) dX12_cut_20 ?_
      exact go_subL (L' := [none, none, none]) (by simp [subL, va_rf]) (oX12_cut_35 hd hs hk)
  · have hs := if_t c hs
    refine go_lload_n (k4 := 0) rfl dX12_cut_4 ?_
    refine go_l2i dX12_cut_5 ?_
    refine go_i2b dX12_cut_6 ?_
    refine go_i2l dX12_cut_7 ?_
    refine go_goto (tgt := 35) (by decide) dX12_cut_8 ?_
    exact go_subL (L' := [none, none, none]) (by simp [subL, va_rf]) (oX12_cut_35 hd hs hk)
theorem oX12_cut {d : Nat} (hd : 0 ≤ d) {h : Hp} {x0 : Int64} {x2 : Int32} {y : Int64} (hs : fX12_cut h x0 x2 = some y) : Call d mX12_cut [.long x0, .int x2] h (some (.long y)) h := call_of (by decide +kernel) (Nat.le_of_ble_eq_true rfl) (show Go d mX12_cut 0 [some (.long x0), none, some (.int x2)] [] h _ _ from go_subL (by simp [subL]) (oX12_cut_0 hd hs ⟨rfl, rfl⟩))
abbrev kX12_numbers (rf : Option Value) (hf : Hp) : (Int32 × Hp) → Prop := fun y => rf = some (.int y.1) ∧ hf = y.2
noncomputable def fX12_numbers_29 (h : Hp)  : Option (Int32 × Hp) :=
  some (((-2 : Int32), h))
theorem oX12_numbers_29 {d : Nat} (hd : 1 ≤ d) {h : Hp} {rf : Option Value} {hf : Hp} {x : (Int32 × Hp)} (hs : fX12_numbers_29 h  = some x) (hk : (kX12_numbers rf hf) x) : Go d mX12_numbers 29 [none, none, none, none, none] [] h rf hf := by
  unfold fX12_numbers_29 at hs
  refine go_bipush (v := -2) (by decide) dX12_numbers_29 ?_
  obtain rfl := Option.some.inj hs
  obtain ⟨rfl, rfl⟩ := hk
  exact go_iret rfl dX12_numbers_31
abbrev pX12_numbers_64 (d : Nat) (x0 : Nat) (x1 : Int32) (x3 : Int32) (rf : Option Value) (hf : Hp) : (Int32 × Hp) → Prop := fun s => Go d mX12_numbers 64 [some (.ref x0), some (.int x1), none, some (.int x3), some (.int s.1)] [] s.2 rf hf
noncomputable def fX12_numbers_64b (h : Hp) (x0 : Nat) (x1 : Int32) (x3 : Int32) (x4 : Int32) : Option ((Int32 × Hp) ⊕ (Int32 × Hp)) :=
  if x3 ≤ x4 then (
    some (.inr ((0 : Int32), h))) else (
    (gN h 12 x0 40).bind fun v9 =>
    (wJ h v9 (((40 : Int32) * x1) + x4) (0 : Int64)).bind fun h10 =>
    some (.inl ((x4 + Int32.ofInt 1), h10)))
noncomputable def fX12_numbers_64 (h : Hp) (x0 : Nat) (x1 : Int32) (x3 : Int32) (x4 : Int32) : Option (Int32 × Hp) := lpw (σ := (Int32 × Hp)) (fun s => fX12_numbers_64b s.2 x0 x1 x3 s.1) (x4, h)
theorem oX12_numbers_64b {d : Nat} (hd : 1 ≤ d) {h : Hp} {x0 : Nat} {x1 : Int32} {x3 : Int32} {x4 : Int32} {rf : Option Value} {hf : Hp} {x : ((Int32 × Hp) ⊕ (Int32 × Hp))} (hs : fX12_numbers_64b h x0 x1 x3 x4 = some x) (hk : (Kx (pX12_numbers_64 d x0 x1 x3 rf hf) (kX12_numbers rf hf)) x) : Go d mX12_numbers 64 [some (.ref x0), some (.int x1), none, some (.int x3), some (.int x4)] [] h rf hf := by
  unfold fX12_numbers_64b at hs
  refine go_iload rfl dX12_numbers_64 ?_
  refine go_iload_n (k4 := 3) rfl dX12_numbers_66 ?_
  refine go_icmp_ge (tgt := 89) (by decide) dX12_numbers_67 (fun c => ?_) (fun c => ?_)
  · have hs := if_t c hs
    refine go_iconst (v := 0) (by decide) dX12_numbers_89 ?_
    obtain rfl := Option.some.inj hs
    obtain ⟨rfl, rfl⟩ := hk
    exact go_iret rfl dX12_numbers_90
  · have hs := if_f c hs
    refine go_aload_n (k4 := 0) rfl (Or.inr ⟨_, rfl⟩) dX12_numbers_70 ?_
    obtain ⟨v9, ev9, hs⟩ := bindS hs
    refine go_gN fl_RX12_86 ev9 dX12_numbers_71 ?_
    refine go_bipush (v := 40) (by decide) dX12_numbers_74 ?_
    refine go_iload_n (k4 := 1) rfl dX12_numbers_76 ?_
    refine go_imul dX12_numbers_77 ?_
    refine go_iload rfl dX12_numbers_78 ?_
    refine go_iadd dX12_numbers_80 ?_
    refine go_at 81 rfl ?_
    refine go_lconst (v := 0) (by decide) dX12_numbers_81 ?_
    obtain ⟨h10, eh10, hs⟩ := bindS hs
    refine go_wJ eh10 dX12_numbers_82 ?_
    refine go_iinc (L' := [some (.ref x0), some (.int x1), none, some (.int x3), some (.int (x4 + Int32.ofInt 1))]) rfl (by decide) rfl rfl dX12_numbers_83 ?_
    refine go_goto (tgt := 64) (by decide) dX12_numbers_86 ?_
    obtain rfl := Option.some.inj hs
    exact go_subL (L' := [some (.ref x0), some (.int x1), none, some (.int x3), some (.int (x4 + Int32.ofInt 1))]) (by simp [subL, va_rf]) hk
theorem oX12_numbers_64 {d : Nat} (hd : 1 ≤ d) {h : Hp} {x0 : Nat} {x1 : Int32} {x3 : Int32} {x4 : Int32} {rf : Option Value} {hf : Hp} {x : (Int32 × Hp)} (hs : fX12_numbers_64 h x0 x1 x3 x4 = some x) (hk : (kX12_numbers rf hf) x) : Go d mX12_numbers 64 [some (.ref x0), some (.int x1), none, some (.int x3), some (.int x4)] [] h rf hf := by
  unfold fX12_numbers_64 at hs
  exact lpw_go (P := pX12_numbers_64 d x0 x1 x3 rf hf) (fun s x hs hk => oX12_numbers_64b hd hs hk) (x4, h) x hs hk
noncomputable def fX12_numbers (h : Hp) (x0 : Nat) (x1 : Int32) (x2 : Int32) (x3 : Int32) : Option (Int32 × Hp) :=
  (sV h 12 x0 0 (.int (0 : Int32))).bind fun h1 =>
  (fX12_within h1 (x1.toInt64) (0 : Int64) (3 : Int64)).bind fun y2 =>
  if y2 = 0 then (
  fX12_numbers_29 h1 ) else (
    (fX12_within h1 (x2.toInt64) (0 : Int64) (3 : Int64)).bind fun y3 =>
    if y3 = 0 then (
    fX12_numbers_29 h1 ) else (
      (fX12_within h1 (x3.toInt64) (0 : Int64) (40 : Int64)).bind fun y4 =>
      if y4 = 0 then (
        some (((-3 : Int32), h1))) else (
        (gN h1 12 x0 38).bind fun v5 =>
        (wI 0 h1 v5 x1 x2).bind fun h6 =>
        (gN h6 12 x0 39).bind fun v7 =>
        (wI 0 h6 v7 x1 x3).bind fun h8 =>
        fX12_numbers_64 h8 x0 x1 x3 (0 : Int32))))
theorem oX12_numbers_0 {d : Nat} (hd : 1 ≤ d) {h : Hp} {x0 : Nat} {x1 : Int32} {x2 : Int32} {x3 : Int32} {rf : Option Value} {hf : Hp} {x : (Int32 × Hp)} (hs : fX12_numbers h x0 x1 x2 x3 = some x) (hk : (kX12_numbers rf hf) x) : Go d mX12_numbers 0 [some (.ref x0), some (.int x1), some (.int x2), some (.int x3), none] [] h rf hf := by
  unfold fX12_numbers at hs
  refine go_aload_n (k4 := 0) rfl (Or.inr ⟨_, rfl⟩) dX12_numbers_0 ?_
  refine go_iconst (v := 0) (by decide) dX12_numbers_1 ?_
  obtain ⟨h1, eh1, hs⟩ := bindS hs
  refine go_sV fw_RX12_1 eh1 rfl rfl dX12_numbers_2 ?_
  refine go_iload_n (k4 := 1) rfl dX12_numbers_5 ?_
  refine go_i2l dX12_numbers_6 ?_
  refine go_lconst (v := 0) (by decide) dX12_numbers_7 ?_
  refine go_ldc2 lc_RX12_333 dX12_numbers_8 ?_
  refine go_at 11 rfl ?_
  obtain ⟨y2, ey2, hs⟩ := bindS hs
  refine go_S1 (As := [.long (x1.toInt64), .long (0 : Int64), .long (3 : Int64)]) (st := []) (oX12_within (d := d - 1) (by omega) ey2) (by omega) mb_X12_within lm_RX12_155 ms_X12_within (Nat.le_of_ble_eq_true rfl) rfl dX12_numbers_11 ?_
  refine go_if_eq (tgt := 29) (by decide) dX12_numbers_14 (fun c => ?_) (fun c => ?_)
  · have hs := if_t c hs
    exact go_subL (L' := [none, none, none, none, none]) (by simp [subL, va_rf]) (oX12_numbers_29 hd hs hk)
  · have hs := if_f c hs
    refine go_iload_n (k4 := 2) rfl dX12_numbers_17 ?_
    refine go_i2l dX12_numbers_18 ?_
    refine go_lconst (v := 0) (by decide) dX12_numbers_19 ?_
    refine go_ldc2 lc_RX12_333 dX12_numbers_20 ?_
    obtain ⟨y3, ey3, hs⟩ := bindS hs
    refine go_S1 (As := [.long (x2.toInt64), .long (0 : Int64), .long (3 : Int64)]) (st := []) (oX12_within (d := d - 1) (by omega) ey3) (by omega) mb_X12_within lm_RX12_155 ms_X12_within (Nat.le_of_ble_eq_true rfl) rfl dX12_numbers_23 ?_
    refine go_if_ne (tgt := 32) (by decide) dX12_numbers_26 (fun c => ?_) (fun c => ?_)
    · have hs := if_f c hs
      refine go_iload_n (k4 := 3) rfl dX12_numbers_32 ?_
      refine go_i2l dX12_numbers_33 ?_
      refine go_lconst (v := 0) (by decide) dX12_numbers_34 ?_
      refine go_ldc2 lc_RX12_351 dX12_numbers_35 ?_
      obtain ⟨y4, ey4, hs⟩ := bindS hs
      refine go_S1 (As := [.long (x3.toInt64), .long (0 : Int64), .long (40 : Int64)]) (st := []) (oX12_within (d := d - 1) (by omega) ey4) (by omega) mb_X12_within lm_RX12_155 ms_X12_within (Nat.le_of_ble_eq_true rfl) rfl dX12_numbers_38 ?_
      refine go_if_ne (tgt := 47) (by decide) dX12_numbers_41 (fun c => ?_) (fun c => ?_)
      · have hs := if_f c hs
        refine go_aload_n (k4 := 0) rfl (Or.inr ⟨_, rfl⟩) dX12_numbers_47 ?_
        obtain ⟨v5, ev5, hs⟩ := bindS hs
        refine go_gN fl_RX12_80 ev5 dX12_numbers_48 ?_
        refine go_iload_n (k4 := 1) rfl dX12_numbers_51 ?_
        refine go_iload_n (k4 := 2) rfl dX12_numbers_52 ?_
        obtain ⟨h6, eh6, hs⟩ := bindS hs
        refine go_wIi eh6 dX12_numbers_53 ?_
        refine go_aload_n (k4 := 0) rfl (Or.inr ⟨_, rfl⟩) dX12_numbers_54 ?_
        obtain ⟨v7, ev7, hs⟩ := bindS hs
        refine go_gN fl_RX12_83 ev7 dX12_numbers_55 ?_
        refine go_at 58 rfl ?_
        refine go_iload_n (k4 := 1) rfl dX12_numbers_58 ?_
        refine go_iload_n (k4 := 3) rfl dX12_numbers_59 ?_
        obtain ⟨h8, eh8, hs⟩ := bindS hs
        refine go_wIi eh8 dX12_numbers_60 ?_
        refine go_iconst (v := 0) (by decide) dX12_numbers_61 ?_
        refine go_istore (L' := [some (.ref x0), some (.int x1), some (.int x2), some (.int x3), some (.int (0 : Int32))]) (by decide) rfl dX12_numbers_62 ?_
        exact go_subL (L' := [some (.ref x0), some (.int x1), none, some (.int x3), some (.int (0 : Int32))]) (by simp [subL, va_rf]) (oX12_numbers_64 hd hs hk)
      · have hs := if_t c hs
        refine go_bipush (v := -3) (by decide) dX12_numbers_44 ?_
        obtain rfl := Option.some.inj hs
        obtain ⟨rfl, rfl⟩ := hk
        exact go_iret rfl dX12_numbers_46
    · have hs := if_t c hs
      exact go_subL (L' := [none, none, none, none, none]) (by simp [subL, va_rf]) (oX12_numbers_29 hd hs hk)
theorem oX12_numbers {d : Nat} (hd : 1 ≤ d) {h : Hp} {x0 : Nat} {x1 : Int32} {x2 : Int32} {x3 : Int32} {y : (Int32 × Hp)} (hs : fX12_numbers h x0 x1 x2 x3 = some y) : Call d mX12_numbers [.ref x0, .int x1, .int x2, .int x3] h (some (.int y.1)) (y.2) := call_of (by decide +kernel) (Nat.le_of_ble_eq_true rfl) (show Go d mX12_numbers 0 [some (.ref x0), some (.int x1), some (.int x2), some (.int x3), none] [] h _ _ from go_subL (by simp [subL]) (oX12_numbers_0 hd hs ⟨rfl, rfl⟩))
abbrev kX12_write (rf : Option Value) (hf : Hp) : (Int64 × Hp) → Prop := fun y => rf = some (.long y.1) ∧ hf = y.2
noncomputable def fX12_write (h : Hp) (x0 : Nat) (x1 : Int32) (x2 : Int32) (x3 : Int64) : Option (Int64 × Hp) :=
  (sV h 12 x0 0 (.int (0 : Int32))).bind fun h1 =>
  gO h1 12 x0 (
  (fX12_noTray h1 x0 x1).bind fun y2 =>
  if y2 = 0 then (
    (gN h1 12 x0 39).bind fun v4 =>
    (aI 0 h1 v4 x1).bind fun v5 =>
    (fX12_within h1 (x2.toInt64) (0 : Int64) (v5 - (1 : Int32)).toInt64).bind fun y6 =>
    if y6 = 0 then (
      some (((-7 : Int64), h1))) else (
      (gN h1 12 x0 40).bind fun v7 =>
      (gN h1 12 x0 38).bind fun v8 =>
      (aI 0 h1 v8 x1).bind fun v9 =>
      (fX12_cut h1 x3 v9).bind fun y10 =>
      (wJ h1 v7 (((40 : Int32) * x1) + x2) y10).bind fun h11 =>
      (gN h11 12 x0 40).bind fun v12 =>
      (aJ h11 v12 (((40 : Int32) * x1) + x2)).bind fun v13 =>
      some ((v13, h11)))) else (
    some (((y2.toInt64), h1))))
theorem oX12_write_0 {d : Nat} (hd : 2 ≤ d) {h : Hp} {x0 : Nat} {x1 : Int32} {x2 : Int32} {x3 : Int64} {rf : Option Value} {hf : Hp} {x : (Int64 × Hp)} (hs : fX12_write h x0 x1 x2 x3 = some x) (hk : (kX12_write rf hf) x) : Go d mX12_write 0 [some (.ref x0), some (.int x1), some (.int x2), some (.long x3), none, none] [] h rf hf := by
  unfold fX12_write at hs
  refine go_aload_n (k4 := 0) rfl (Or.inr ⟨_, rfl⟩) dX12_write_0 ?_
  refine go_iconst (v := 0) (by decide) dX12_write_1 ?_
  obtain ⟨h1, eh1, hs⟩ := bindS hs
  refine go_sV fw_RX12_1 eh1 rfl rfl dX12_write_2 ?_
  refine go_aload_n (k4 := 0) rfl (Or.inr ⟨_, rfl⟩) dX12_write_5 ?_
  refine go_iload_n (k4 := 1) rfl dX12_write_6 ?_
  obtain ⟨g3, hs⟩ := gO_at hs
  obtain ⟨y2, ey2, hs⟩ := bindS hs
  refine go_V1 (As := [.int x1]) (st := []) g3 rfl rfl (oX12_noTray (d := d - 1) (by omega) ey2) (by omega) mb_X12_noTray lm_RX12_335 mi_X12_noTray (Nat.le_of_ble_eq_true rfl) rfl dX12_write_7 ?_
  refine go_istore (L' := [some (.ref x0), some (.int x1), some (.int x2), some (.long x3), none, some (.int y2)]) (by decide) rfl dX12_write_10 ?_
  refine go_at 12 rfl ?_
  refine go_iload rfl dX12_write_12 ?_
  refine go_if_eq (tgt := 21) (by decide) dX12_write_14 (fun c => ?_) (fun c => ?_)
  · have hs := if_t c hs
    refine go_iload_n (k4 := 2) rfl dX12_write_21 ?_
    refine go_i2l dX12_write_22 ?_
    refine go_lconst (v := 0) (by decide) dX12_write_23 ?_
    refine go_aload_n (k4 := 0) rfl (Or.inr ⟨_, rfl⟩) dX12_write_24 ?_
    obtain ⟨v4, ev4, hs⟩ := bindS hs
    refine go_gN fl_RX12_83 ev4 dX12_write_25 ?_
    refine go_iload_n (k4 := 1) rfl dX12_write_28 ?_
    obtain ⟨v5, ev5, hs⟩ := bindS hs
    refine go_aIi ev5 dX12_write_29 ?_
    refine go_at 30 rfl ?_
    refine go_iconst (v := 1) (by decide) dX12_write_30 ?_
    refine go_isub dX12_write_31 ?_
    refine go_i2l dX12_write_32 ?_
    obtain ⟨y6, ey6, hs⟩ := bindS hs
    refine go_S1 (As := [.long (x2.toInt64), .long (0 : Int64), .long (v5 - (1 : Int32)).toInt64]) (st := []) (oX12_within (d := d - 1) (by omega) ey6) (by omega) mb_X12_within lm_RX12_155 ms_X12_within (Nat.le_of_ble_eq_true rfl) rfl dX12_write_33 ?_
    refine go_if_ne (tgt := 43) (by decide) dX12_write_36 (fun c => ?_) (fun c => ?_)
    · have hs := if_f c hs
      refine go_aload_n (k4 := 0) rfl (Or.inr ⟨_, rfl⟩) dX12_write_43 ?_
      obtain ⟨v7, ev7, hs⟩ := bindS hs
      refine go_gN fl_RX12_86 ev7 dX12_write_44 ?_
      refine go_bipush (v := 40) (by decide) dX12_write_47 ?_
      refine go_iload_n (k4 := 1) rfl dX12_write_49 ?_
      refine go_imul dX12_write_50 ?_
      refine go_iload_n (k4 := 2) rfl dX12_write_51 ?_
      refine go_iadd dX12_write_52 ?_
      refine go_at 53 rfl ?_
      refine go_lload_n (k4 := 3) rfl dX12_write_53 ?_
      refine go_aload_n (k4 := 0) rfl (Or.inr ⟨_, rfl⟩) dX12_write_54 ?_
      obtain ⟨v8, ev8, hs⟩ := bindS hs
      refine go_gN fl_RX12_80 ev8 dX12_write_55 ?_
      refine go_iload_n (k4 := 1) rfl dX12_write_58 ?_
      obtain ⟨v9, ev9, hs⟩ := bindS hs
      refine go_aIi ev9 dX12_write_59 ?_
      obtain ⟨y10, ey10, hs⟩ := bindS hs
      refine go_S1 (As := [.long x3, .int v9]) (st := [.int (((40 : Int32) * x1) + x2), .ref v7]) (oX12_cut (d := d - 1) (by omega) ey10) (by omega) mb_X12_cut lm_RX12_464 ms_X12_cut (Nat.le_of_ble_eq_true rfl) rfl dX12_write_60 ?_
      obtain ⟨h11, eh11, hs⟩ := bindS hs
      refine go_wJ eh11 dX12_write_63 ?_
      refine go_aload_n (k4 := 0) rfl (Or.inr ⟨_, rfl⟩) dX12_write_64 ?_
      refine go_at 65 rfl ?_
      obtain ⟨v12, ev12, hs⟩ := bindS hs
      refine go_gN fl_RX12_86 ev12 dX12_write_65 ?_
      refine go_bipush (v := 40) (by decide) dX12_write_68 ?_
      refine go_iload_n (k4 := 1) rfl dX12_write_70 ?_
      refine go_imul dX12_write_71 ?_
      refine go_iload_n (k4 := 2) rfl dX12_write_72 ?_
      refine go_iadd dX12_write_73 ?_
      obtain ⟨v13, ev13, hs⟩ := bindS hs
      refine go_aJ ev13 dX12_write_74 ?_
      obtain rfl := Option.some.inj hs
      obtain ⟨rfl, rfl⟩ := hk
      exact go_lret rfl dX12_write_75
    · have hs := if_t c hs
      refine go_ldc2 lc_RX12_462 dX12_write_39 ?_
      obtain rfl := Option.some.inj hs
      obtain ⟨rfl, rfl⟩ := hk
      exact go_lret rfl dX12_write_42
  · have hs := if_f c hs
    refine go_iload rfl dX12_write_17 ?_
    refine go_i2l dX12_write_19 ?_
    obtain rfl := Option.some.inj hs
    obtain ⟨rfl, rfl⟩ := hk
    exact go_lret rfl dX12_write_20
theorem oX12_write {d : Nat} (hd : 2 ≤ d) {h : Hp} {x0 : Nat} {x1 : Int32} {x2 : Int32} {x3 : Int64} {y : (Int64 × Hp)} (hs : fX12_write h x0 x1 x2 x3 = some y) : Call d mX12_write [.ref x0, .int x1, .int x2, .long x3] h (some (.long y.1)) (y.2) := call_of (by decide +kernel) (Nat.le_of_ble_eq_true rfl) (show Go d mX12_write 0 [some (.ref x0), some (.int x1), some (.int x2), some (.long x3), none, none] [] h _ _ from go_subL (by simp [subL]) (oX12_write_0 hd hs ⟨rfl, rfl⟩))
abbrev kX12_lists (rf : Option Value) (hf : Hp) : (Int32 × Hp) → Prop := fun y => rf = some (.int y.1) ∧ hf = y.2
noncomputable def fX12_lists_26 (h : Hp)  : Option (Int32 × Hp) :=
  some (((-2 : Int32), h))
theorem oX12_lists_26 {d : Nat} (hd : 4 ≤ d) {h : Hp} {rf : Option Value} {hf : Hp} {x : (Int32 × Hp)} (hs : fX12_lists_26 h  = some x) (hk : (kX12_lists rf hf) x) : Go d mX12_lists 26 [none, none, none, none, none, none] [] h rf hf := by
  unfold fX12_lists_26 at hs
  refine go_bipush (v := -2) (by decide) dX12_lists_26 ?_
  obtain rfl := Option.some.inj hs
  obtain ⟨rfl, rfl⟩ := hk
  exact go_iret rfl dX12_lists_28
abbrev pX12_lists_50 (d : Nat) (x0 : Nat) (x1 : Int32) (x2 : Int32) (rf : Option Value) (hf : Hp) : (Int32 × Int32 × Hp) → Prop := fun s => Go d mX12_lists 50 [some (.ref x0), some (.int x1), some (.int x2), none, some (.int s.1), some (.int s.2.1)] [] s.2.2 rf hf
noncomputable def fX12_lists_50b (h : Hp) (x0 : Nat) (x1 : Int32) (x2 : Int32) (x4 : Int32) (x5 : Int32) : Option ((Int32 × Int32 × Hp) ⊕ (Int32 × Hp)) :=
  (gN h 12 x0 39).bind fun v9 =>
  (aI 0 h v9 x1).bind fun v10 =>
  if v10 ≤ x5 then (
    (gN h 12 x0 39).bind fun v11 =>
    (aI 0 h v11 x1).bind fun v12 =>
    some (.inr (v12, h))) else (
    (gN h 12 x0 1).bind fun v13 =>
    (aI 0 h v13 (23 : Int32)).bind fun v14 =>
    gO h 12 x0 (
    (fX12_yearTo h x0 x4 v14 (0 : Int32)).bind fun y15 =>
    (gN y15.2 12 x0 40).bind fun v17 =>
    (fX12_gapIn y15.2 y15.1 x2).bind fun y18 =>
    (wJ y15.2 v17 (((40 : Int32) * x1) + x5) (y18.toInt64)).bind fun h19 =>
    some (.inl (y15.1, (x5 + Int32.ofInt 1), h19))))
noncomputable def fX12_lists_50 (h : Hp) (x0 : Nat) (x1 : Int32) (x2 : Int32) (x4 : Int32) (x5 : Int32) : Option (Int32 × Hp) := lpw (σ := (Int32 × Int32 × Hp)) (fun s => fX12_lists_50b s.2.2 x0 x1 x2 s.1 s.2.1) (x4, x5, h)
theorem oX12_lists_50b {d : Nat} (hd : 4 ≤ d) {h : Hp} {x0 : Nat} {x1 : Int32} {x2 : Int32} {x4 : Int32} {x5 : Int32} {rf : Option Value} {hf : Hp} {x : ((Int32 × Int32 × Hp) ⊕ (Int32 × Hp))} (hs : fX12_lists_50b h x0 x1 x2 x4 x5 = some x) (hk : (Kx (pX12_lists_50 d x0 x1 x2 rf hf) (kX12_lists rf hf)) x) : Go d mX12_lists 50 [some (.ref x0), some (.int x1), some (.int x2), none, some (.int x4), some (.int x5)] [] h rf hf := by
  unfold fX12_lists_50b at hs
  refine go_iload rfl dX12_lists_50 ?_
  refine go_aload_n (k4 := 0) rfl (Or.inr ⟨_, rfl⟩) dX12_lists_52 ?_
  obtain ⟨v9, ev9, hs⟩ := bindS hs
  refine go_gN fl_RX12_83 ev9 dX12_lists_53 ?_
  refine go_iload_n (k4 := 1) rfl dX12_lists_56 ?_
  obtain ⟨v10, ev10, hs⟩ := bindS hs
  refine go_aIi ev10 dX12_lists_57 ?_
  refine go_icmp_ge (tgt := 102) (by decide) dX12_lists_58 (fun c => ?_) (fun c => ?_)
  · have hs := if_t c hs
    refine go_aload_n (k4 := 0) rfl (Or.inr ⟨_, rfl⟩) dX12_lists_102 ?_
    obtain ⟨v11, ev11, hs⟩ := bindS hs
    refine go_gN fl_RX12_83 ev11 dX12_lists_103 ?_
    refine go_iload_n (k4 := 1) rfl dX12_lists_106 ?_
    obtain ⟨v12, ev12, hs⟩ := bindS hs
    refine go_aIi ev12 dX12_lists_107 ?_
    obtain rfl := Option.some.inj hs
    obtain ⟨rfl, rfl⟩ := hk
    exact go_iret rfl dX12_lists_108
  · have hs := if_f c hs
    refine go_aload_n (k4 := 0) rfl (Or.inr ⟨_, rfl⟩) dX12_lists_61 ?_
    refine go_iload rfl dX12_lists_62 ?_
    refine go_aload_n (k4 := 0) rfl (Or.inr ⟨_, rfl⟩) dX12_lists_64 ?_
    obtain ⟨v13, ev13, hs⟩ := bindS hs
    refine go_gN fl_RX12_13 ev13 dX12_lists_65 ?_
    refine go_bipush (v := 23) (by decide) dX12_lists_68 ?_
    obtain ⟨v14, ev14, hs⟩ := bindS hs
    refine go_aIi ev14 dX12_lists_70 ?_
    refine go_iconst (v := 0) (by decide) dX12_lists_71 ?_
    refine go_at 72 rfl ?_
    obtain ⟨g16, hs⟩ := gO_at hs
    obtain ⟨y15, ey15, hs⟩ := bindS hs
    refine go_V1 (As := [.int x4, .int v14, .int (0 : Int32)]) (st := []) g16 rfl rfl (oX12_yearTo (d := d - 1) (by omega) ey15) (by omega) mb_X12_yearTo lm_RX12_294 mi_X12_yearTo (Nat.le_of_ble_eq_true rfl) rfl dX12_lists_72 ?_
    refine go_istore (L' := [some (.ref x0), some (.int x1), some (.int x2), none, some (.int y15.1), some (.int x5)]) (by decide) rfl dX12_lists_75 ?_
    refine go_aload_n (k4 := 0) rfl (Or.inr ⟨_, rfl⟩) dX12_lists_77 ?_
    obtain ⟨v17, ev17, hs⟩ := bindS hs
    refine go_gN fl_RX12_86 ev17 dX12_lists_78 ?_
    refine go_bipush (v := 40) (by decide) dX12_lists_81 ?_
    refine go_iload_n (k4 := 1) rfl dX12_lists_83 ?_
    refine go_imul dX12_lists_84 ?_
    refine go_iload rfl dX12_lists_85 ?_
    refine go_at 87 rfl ?_
    refine go_iadd dX12_lists_87 ?_
    refine go_iload rfl dX12_lists_88 ?_
    refine go_iload_n (k4 := 2) rfl dX12_lists_90 ?_
    obtain ⟨y18, ey18, hs⟩ := bindS hs
    refine go_S1 (As := [.int y15.1, .int x2]) (st := [.int (((40 : Int32) * x1) + x5), .ref v17]) (oX12_gapIn (d := d - 1) (by omega) ey18) (by omega) mb_X12_gapIn lm_RX12_217 ms_X12_gapIn (Nat.le_of_ble_eq_true rfl) rfl dX12_lists_91 ?_
    refine go_i2l dX12_lists_94 ?_
    obtain ⟨h19, eh19, hs⟩ := bindS hs
    refine go_wJ eh19 dX12_lists_95 ?_
    refine go_iinc (L' := [some (.ref x0), some (.int x1), some (.int x2), none, some (.int y15.1), some (.int (x5 + Int32.ofInt 1))]) rfl (by decide) rfl rfl dX12_lists_96 ?_
    refine go_goto (tgt := 50) (by decide) dX12_lists_99 ?_
    obtain rfl := Option.some.inj hs
    exact go_subL (L' := [some (.ref x0), some (.int x1), some (.int x2), none, some (.int y15.1), some (.int (x5 + Int32.ofInt 1))]) (by simp [subL, va_rf]) hk
theorem oX12_lists_50 {d : Nat} (hd : 4 ≤ d) {h : Hp} {x0 : Nat} {x1 : Int32} {x2 : Int32} {x4 : Int32} {x5 : Int32} {rf : Option Value} {hf : Hp} {x : (Int32 × Hp)} (hs : fX12_lists_50 h x0 x1 x2 x4 x5 = some x) (hk : (kX12_lists rf hf) x) : Go d mX12_lists 50 [some (.ref x0), some (.int x1), some (.int x2), none, some (.int x4), some (.int x5)] [] h rf hf := by
  unfold fX12_lists_50 at hs
  exact lpw_go (P := pX12_lists_50 d x0 x1 x2 rf hf) (fun s x hs hk => oX12_lists_50b hd hs hk) (x4, x5, h) x hs hk
noncomputable def fX12_lists (h : Hp) (x0 : Nat) (x1 : Int32) (x2 : Int32) : Option (Int32 × Hp) :=
  (sV h 12 x0 0 (.int (0 : Int32))).bind fun h1 =>
  (fX12_within h1 (x1.toInt64) (0 : Int64) (3 : Int64)).bind fun y2 =>
  if y2 = 0 then (
  fX12_lists_26 h1 ) else (
    gO h1 12 x0 (
    (fX12_isPair h1 x0 (x2.toInt64)).bind fun y3 =>
    if y3 = 0 then (
    fX12_lists_26 h1 ) else (
      gO h1 12 x0 (
      (fX12_noTray h1 x0 x1).bind fun y5 =>
      if y5 = 0 then (
        gO h1 12 x0 (
        (fX12_standNow h1 x0).bind fun y7 =>
        fX12_lists_50 h1 x0 x1 x2 y7 (0 : Int32))) else (
        some ((y5, h1)))))))
theorem oX12_lists_0 {d : Nat} (hd : 4 ≤ d) {h : Hp} {x0 : Nat} {x1 : Int32} {x2 : Int32} {rf : Option Value} {hf : Hp} {x : (Int32 × Hp)} (hs : fX12_lists h x0 x1 x2 = some x) (hk : (kX12_lists rf hf) x) : Go d mX12_lists 0 [some (.ref x0), some (.int x1), some (.int x2), none, none, none] [] h rf hf := by
  unfold fX12_lists at hs
  refine go_aload_n (k4 := 0) rfl (Or.inr ⟨_, rfl⟩) dX12_lists_0 ?_
  refine go_iconst (v := 0) (by decide) dX12_lists_1 ?_
  obtain ⟨h1, eh1, hs⟩ := bindS hs
  refine go_sV fw_RX12_1 eh1 rfl rfl dX12_lists_2 ?_
  refine go_iload_n (k4 := 1) rfl dX12_lists_5 ?_
  refine go_i2l dX12_lists_6 ?_
  refine go_lconst (v := 0) (by decide) dX12_lists_7 ?_
  refine go_ldc2 lc_RX12_333 dX12_lists_8 ?_
  refine go_at 11 rfl ?_
  obtain ⟨y2, ey2, hs⟩ := bindS hs
  refine go_S1 (As := [.long (x1.toInt64), .long (0 : Int64), .long (3 : Int64)]) (st := []) (oX12_within (d := d - 1) (by omega) ey2) (by omega) mb_X12_within lm_RX12_155 ms_X12_within (Nat.le_of_ble_eq_true rfl) rfl dX12_lists_11 ?_
  refine go_if_eq (tgt := 26) (by decide) dX12_lists_14 (fun c => ?_) (fun c => ?_)
  · have hs := if_t c hs
    exact go_subL (L' := [none, none, none, none, none, none]) (by simp [subL, va_rf]) (oX12_lists_26 hd hs hk)
  · have hs := if_f c hs
    refine go_aload_n (k4 := 0) rfl (Or.inr ⟨_, rfl⟩) dX12_lists_17 ?_
    refine go_iload_n (k4 := 2) rfl dX12_lists_18 ?_
    refine go_i2l dX12_lists_19 ?_
    obtain ⟨g4, hs⟩ := gO_at hs
    obtain ⟨y3, ey3, hs⟩ := bindS hs
    refine go_V1 (As := [.long (x2.toInt64)]) (st := []) g4 rfl rfl (oX12_isPair (d := d - 1) (by omega) ey3) (by omega) mb_X12_isPair lm_RX12_271 mi_X12_isPair (Nat.le_of_ble_eq_true rfl) rfl dX12_lists_20 ?_
    refine go_if_ne (tgt := 29) (by decide) dX12_lists_23 (fun c => ?_) (fun c => ?_)
    · have hs := if_f c hs
      refine go_aload_n (k4 := 0) rfl (Or.inr ⟨_, rfl⟩) dX12_lists_29 ?_
      refine go_iload_n (k4 := 1) rfl dX12_lists_30 ?_
      obtain ⟨g6, hs⟩ := gO_at hs
      obtain ⟨y5, ey5, hs⟩ := bindS hs
      refine go_V1 (As := [.int x1]) (st := []) g6 rfl rfl (oX12_noTray (d := d - 1) (by omega) ey5) (by omega) mb_X12_noTray lm_RX12_335 mi_X12_noTray (Nat.le_of_ble_eq_true rfl) rfl dX12_lists_31 ?_
      refine go_istore_n (k4 := 3) (L' := [some (.ref x0), some (.int x1), some (.int x2), some (.int y5), none, none]) (by decide) rfl dX12_lists_34 ?_
      refine go_iload_n (k4 := 3) rfl dX12_lists_35 ?_
      refine go_if_eq (tgt := 41) (by decide) dX12_lists_36 (fun c => ?_) (fun c => ?_)
      · have hs := if_t c hs
        refine go_aload_n (k4 := 0) rfl (Or.inr ⟨_, rfl⟩) dX12_lists_41 ?_
        obtain ⟨g8, hs⟩ := gO_at hs
        obtain ⟨y7, ey7, hs⟩ := bindS hs
        refine go_V1 (As := []) (st := []) g8 rfl rfl (oX12_standNow (d := d - 1) (by omega) ey7) (by omega) mb_X12_standNow lm_RX12_282 mi_X12_standNow (Nat.le_of_ble_eq_true rfl) rfl dX12_lists_42 ?_
        refine go_istore (L' := [some (.ref x0), some (.int x1), some (.int x2), some (.int y5), some (.int y7), none]) (by decide) rfl dX12_lists_45 ?_
        refine go_iconst (v := 0) (by decide) dX12_lists_47 ?_
        refine go_istore (L' := [some (.ref x0), some (.int x1), some (.int x2), some (.int y5), some (.int y7), some (.int (0 : Int32))]) (by decide) rfl dX12_lists_48 ?_
        exact go_subL (L' := [some (.ref x0), some (.int x1), some (.int x2), none, some (.int y7), some (.int (0 : Int32))]) (by simp [subL, va_rf]) (oX12_lists_50 hd hs hk)
      · have hs := if_f c hs
        refine go_iload_n (k4 := 3) rfl dX12_lists_39 ?_
        obtain rfl := Option.some.inj hs
        obtain ⟨rfl, rfl⟩ := hk
        exact go_iret rfl dX12_lists_40
    · have hs := if_t c hs
      exact go_subL (L' := [none, none, none, none, none, none]) (by simp [subL, va_rf]) (oX12_lists_26 hd hs hk)
theorem oX12_lists {d : Nat} (hd : 4 ≤ d) {h : Hp} {x0 : Nat} {x1 : Int32} {x2 : Int32} {y : (Int32 × Hp)} (hs : fX12_lists h x0 x1 x2 = some y) : Call d mX12_lists [.ref x0, .int x1, .int x2] h (some (.int y.1)) (y.2) := call_of (by decide +kernel) (Nat.le_of_ble_eq_true rfl) (show Go d mX12_lists 0 [some (.ref x0), some (.int x1), some (.int x2), none, none, none] [] h _ _ from go_subL (by simp [subL]) (oX12_lists_0 hd hs ⟨rfl, rfl⟩))
