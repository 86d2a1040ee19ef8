/-! methods: their texts as functions, and that the machine does just that -/
abbrev kX12_adds (rf : Option Value) (hf : Hp) : Hp → Prop := fun y => rf = none ∧ hf = y
noncomputable def fX12_adds (h : Hp) (x0 : Nat) (x1 : Int32) : Option Hp :=
  (gN h 12 x0 32).bind fun v1 =>
  (aI 3 h v1 x1).bind fun v2 =>
  if v2 = 0 then (
    (gN h 12 x0 32).bind fun v3 =>
    (wI 3 h v3 x1 (1 : Int32)).bind fun h4 =>
    (gN h4 12 x0 29).bind fun v5 =>
    (gI h4 12 x0 33).bind fun v6 =>
    (wI 0 h4 v5 v6 x1).bind fun h7 =>
    (gI h7 12 x0 33).bind fun v8 =>
    (sV h7 12 x0 33 (.int (v8 + (1 : Int32)))).bind fun h9 =>
    some (h9)) else (
    some (h))
theorem oX12_adds_0 {d : Nat} (hd : 0 ≤ d) {h : Hp} {x0 : Nat} {x1 : Int32} {rf : Option Value} {hf : Hp} {x : Hp} (hs : fX12_adds h x0 x1 = some x) (hk : (kX12_adds rf hf) x) : Go d mX12_adds 0 [some (.ref x0), some (.int x1)] [] h rf hf := by
  unfold fX12_adds at hs
  refine go_aload_n (k4 := 0) rfl (Or.inr ⟨_, rfl⟩) dX12_adds_0 ?_
  obtain ⟨v1, ev1, hs⟩ := bindS hs
  refine go_gN fl_RX12_64 ev1 dX12_adds_1 ?_
  refine go_iload_n (k4 := 1) rfl dX12_adds_4 ?_
  obtain ⟨v2, ev2, hs⟩ := bindS hs
  refine go_aIz ev2 dX12_adds_5 ?_
  refine go_if_eq (tgt := 10) (by decide) dX12_adds_6 (fun c => ?_) (fun c => ?_)
  · have hs := if_t c hs
    refine go_aload_n (k4 := 0) rfl (Or.inr ⟨_, rfl⟩) dX12_adds_10 ?_
    obtain ⟨v3, ev3, hs⟩ := bindS hs
    refine go_gN fl_RX12_64 ev3 dX12_adds_11 ?_
    refine go_iload_n (k4 := 1) rfl dX12_adds_14 ?_
    refine go_iconst (v := 1) (by decide) dX12_adds_15 ?_
    obtain ⟨h4, eh4, hs⟩ := bindS hs
    refine go_wIz eh4 dX12_adds_16 ?_
    refine go_aload_n (k4 := 0) rfl (Or.inr ⟨_, rfl⟩) dX12_adds_17 ?_
    obtain ⟨v5, ev5, hs⟩ := bindS hs
    refine go_gN fl_RX12_54 ev5 dX12_adds_18 ?_
    refine go_at 21 rfl ?_
    refine go_aload_n (k4 := 0) rfl (Or.inr ⟨_, rfl⟩) dX12_adds_21 ?_
    obtain ⟨v6, ev6, hs⟩ := bindS hs
    refine go_gI fl_RX12_384 ev6 dX12_adds_22 ?_
    refine go_iload_n (k4 := 1) rfl dX12_adds_25 ?_
    obtain ⟨h7, eh7, hs⟩ := bindS hs
    refine go_wIi eh7 dX12_adds_26 ?_
    refine go_aload_n (k4 := 0) rfl (Or.inr ⟨_, rfl⟩) dX12_adds_27 ?_
    refine go_dup rfl dX12_adds_28 ?_
    obtain ⟨v8, ev8, hs⟩ := bindS hs
    refine go_gI fl_RX12_384 ev8 dX12_adds_29 ?_
    refine go_iconst (v := 1) (by decide) dX12_adds_32 ?_
    refine go_at 33 rfl ?_
    refine go_iadd dX12_adds_33 ?_
    obtain ⟨h9, eh9, hs⟩ := bindS hs
    refine go_sV fw_RX12_384 eh9 rfl rfl dX12_adds_34 ?_
    obtain rfl := Option.some.inj hs
    obtain ⟨rfl, rfl⟩ := hk
    exact go_vret rfl dX12_adds_37
  · have hs := if_f c hs
    obtain rfl := Option.some.inj hs
    obtain ⟨rfl, rfl⟩ := hk
    exact go_vret rfl dX12_adds_9
theorem oX12_adds {d : Nat} (hd : 0 ≤ d) {h : Hp} {x0 : Nat} {x1 : Int32} {y : Hp} (hs : fX12_adds h x0 x1 = some y) : Call d mX12_adds [.ref x0, .int x1] h (none) y := call_of (by decide +kernel) (Nat.le_of_ble_eq_true rfl) (show Go d mX12_adds 0 [some (.ref x0), some (.int x1)] [] h _ _ from go_subL (by simp [subL]) (oX12_adds_0 hd hs ⟨rfl, rfl⟩))
abbrev kX12_laysStands (rf : Option Value) (hf : Hp) : Hp → Prop := fun y => rf = none ∧ hf = y
abbrev pX12_laysStands_10 (d : Nat) (x0 : Nat) (x1 : Int32) (rf : Option Value) (hf : Hp) : (Int32 × Hp) → Prop := fun s => Go d mX12_laysStands 10 [some (.ref x0), some (.int x1), some (.int s.1), none] [] s.2 rf hf
abbrev pX12_laysStands_45 (d : Nat) (x0 : Nat) (x1 : Int32) (rf : Option Value) (hf : Hp) : (Int32 × Hp) → Prop := fun s => Go d mX12_laysStands 45 [some (.ref x0), some (.int x1), some (.int s.1), none] [] s.2 rf hf
abbrev pX12_laysStands_55 (d : Nat) (x0 : Nat) (x1 : Int32) (x2 : Int32) (rf : Option Value) (hf : Hp) : (Int32 × Hp) → Prop := fun s => Go d mX12_laysStands 55 [some (.ref x0), some (.int x1), some (.int x2), some (.int s.1)] [] s.2 rf hf
noncomputable def fX12_laysStands_147 (h : Hp) (x0 : Nat) (x1 : Int32) (x2 : Int32) : Option ((Int32 × Hp) ⊕ Hp) :=
  some (.inl ((x2 + Int32.ofInt 1), h))
theorem oX12_laysStands_147 {d : Nat} (hd : 4 ≤ d) {h : Hp} {x0 : Nat} {x1 : Int32} {x2 : Int32} {rf : Option Value} {hf : Hp} {x : ((Int32 × Hp) ⊕ Hp)} (hs : fX12_laysStands_147 h x0 x1 x2 = some x) (hk : (Kx (pX12_laysStands_45 d x0 x1 rf hf) (kX12_laysStands rf hf)) x) : Go d mX12_laysStands 147 [some (.ref x0), some (.int x1), some (.int x2), none] [] h rf hf := by
  unfold fX12_laysStands_147 at hs
  refine go_iinc (L' := [some (.ref x0), some (.int x1), some (.int (x2 + Int32.ofInt 1)), none]) rfl (by decide) rfl rfl dX12_laysStands_147 ?_
  refine go_goto (tgt := 45) (by decide) dX12_laysStands_150 ?_
  obtain rfl := Option.some.inj hs
  exact go_subL (L' := [some (.ref x0), some (.int x1), some (.int (x2 + Int32.ofInt 1)), none]) (by simp [subL, va_rf]) hk
noncomputable def fX12_laysStands_141 (h : Hp) (x0 : Nat) (x1 : Int32) (x2 : Int32) (x3 : Int32) : Option ((Int32 × Hp) ⊕ ((Int32 × Hp) ⊕ Hp)) :=
  some (.inl ((x3 + Int32.ofInt 1), h))
theorem oX12_laysStands_141 {d : Nat} (hd : 4 ≤ d) {h : Hp} {x0 : Nat} {x1 : Int32} {x2 : Int32} {x3 : Int32} {rf : Option Value} {hf : Hp} {x : ((Int32 × Hp) ⊕ ((Int32 × Hp) ⊕ Hp))} (hs : fX12_laysStands_141 h x0 x1 x2 x3 = some x) (hk : (Kx (pX12_laysStands_55 d x0 x1 x2 rf hf) (Kx (pX12_laysStands_45 d x0 x1 rf hf) (kX12_laysStands rf hf))) x) : Go d mX12_laysStands 141 [some (.ref x0), some (.int x1), some (.int x2), some (.int x3)] [] h rf hf := by
  unfold fX12_laysStands_141 at hs
  refine go_iinc (L' := [some (.ref x0), some (.int x1), some (.int x2), some (.int (x3 + Int32.ofInt 1))]) rfl (by decide) rfl rfl dX12_laysStands_141 ?_
  refine go_goto (tgt := 55) (by decide) dX12_laysStands_144 ?_
  obtain rfl := Option.some.inj hs
  exact go_subL (L' := [some (.ref x0), some (.int x1), some (.int x2), some (.int (x3 + Int32.ofInt 1))]) (by simp [subL, va_rf]) hk
noncomputable def fX12_laysStands_55b (h : Hp) (x0 : Nat) (x1 : Int32) (x2 : Int32) (x3 : Int32) : Option ((Int32 × Hp) ⊕ ((Int32 × Hp) ⊕ Hp)) :=
  (gI h 12 x0 21).bind fun v11 =>
  if v11 ≤ x3 then (
  (fX12_laysStands_147 h x0 x1 x2).map (fun q => .inr q)) else (
    (gN h 12 x0 30).bind fun v12 =>
    (gN h 12 x0 29).bind fun v13 =>
    (aI 0 h v13 x2).bind fun v14 =>
    (gN h 12 x0 29).bind fun v15 =>
    (aI 0 h v15 x2).bind fun v16 =>
    (gN h 12 x0 20).bind fun v17 =>
    (aI 0 h v17 x3).bind fun v18 =>
    gO h 12 x0 (
    (fX12_yearBy h x0 v16 v18 (0 : Int32)).bind fun y19 =>
    (wI 0 h v12 (((35 : Int32) * v14) + x3) y19).bind fun h21 =>
    (gN h21 12 x0 30).bind fun v22 =>
    (gN h21 12 x0 29).bind fun v23 =>
    (aI 0 h21 v23 x2).bind fun v24 =>
    (aI 0 h21 v22 (((35 : Int32) * v24) + x3)).bind fun v25 =>
    gO h21 12 x0 (
    (fX12_adds h21 x0 v25).bind fun y26 =>
    if x1 = 0 then (
    fX12_laysStands_141 y26 x0 x1 x2 x3) else (
      (gN y26 12 x0 29).bind fun v28 =>
      (aI 0 y26 v28 x2).bind fun v29 =>
      (gN y26 12 x0 20).bind fun v30 =>
      (aI 0 y26 v30 x3).bind fun v31 =>
      gO y26 12 x0 (
      (fX12_yearBy y26 x0 v29 v31 (1 : Int32)).bind fun y32 =>
      gO y26 12 x0 (
      (fX12_adds y26 x0 y32).bind fun y34 =>
      fX12_laysStands_141 y34 x0 x1 x2 x3))))))
noncomputable def fX12_laysStands_55 (h : Hp) (x0 : Nat) (x1 : Int32) (x2 : Int32) (x3 : Int32) : Option ((Int32 × Hp) ⊕ Hp) := lpw (σ := (Int32 × Hp)) (fun s => fX12_laysStands_55b s.2 x0 x1 x2 s.1) (x3, h)
theorem oX12_laysStands_55b {d : Nat} (hd : 4 ≤ d) {h : Hp} {x0 : Nat} {x1 : Int32} {x2 : Int32} {x3 : Int32} {rf : Option Value} {hf : Hp} {x : ((Int32 × Hp) ⊕ ((Int32 × Hp) ⊕ Hp))} (hs : fX12_laysStands_55b h x0 x1 x2 x3 = some x) (hk : (Kx (pX12_laysStands_55 d x0 x1 x2 rf hf) (Kx (pX12_laysStands_45 d x0 x1 rf hf) (kX12_laysStands rf hf))) x) : Go d mX12_laysStands 55 [some (.ref x0), some (.int x1), some (.int x2), some (.int x3)] [] h rf hf := by
  unfold fX12_laysStands_55b at hs
  refine go_iload_n (k4 := 3) rfl dX12_laysStands_55 ?_
  refine go_aload_n (k4 := 0) rfl (Or.inr ⟨_, rfl⟩) dX12_laysStands_56 ?_
  obtain ⟨v11, ev11, hs⟩ := bindS hs
  refine go_gI fl_RX12_285 ev11 dX12_laysStands_57 ?_
  refine go_icmp_ge (tgt := 147) (by decide) dX12_laysStands_60 (fun c => ?_) (fun c => ?_)
  · have hs := if_t c hs
    obtain ⟨q, hs2, hq⟩ := mapS hs
    clear hs
    subst hq
    exact go_subL (L' := [some (.ref x0), some (.int x1), some (.int x2), none]) (by simp [subL, va_rf]) (oX12_laysStands_147 hd hs2 hk)
  · have hs := if_f c hs
    refine go_aload_n (k4 := 0) rfl (Or.inr ⟨_, rfl⟩) dX12_laysStands_63 ?_
    obtain ⟨v12, ev12, hs⟩ := bindS hs
    refine go_gN fl_RX12_58 ev12 dX12_laysStands_64 ?_
    refine go_bipush (v := 35) (by decide) dX12_laysStands_67 ?_
    refine go_aload_n (k4 := 0) rfl (Or.inr ⟨_, rfl⟩) dX12_laysStands_69 ?_
    obtain ⟨v13, ev13, hs⟩ := bindS hs
    refine go_gN fl_RX12_54 ev13 dX12_laysStands_70 ?_
    refine go_iload_n (k4 := 2) rfl dX12_laysStands_73 ?_
    obtain ⟨v14, ev14, hs⟩ := bindS hs
    refine go_aIi ev14 dX12_laysStands_74 ?_
    refine go_at 75 rfl ?_
    refine go_imul dX12_laysStands_75 ?_
    refine go_iload_n (k4 := 3) rfl dX12_laysStands_76 ?_
    refine go_iadd dX12_laysStands_77 ?_
    refine go_aload_n (k4 := 0) rfl (Or.inr ⟨_, rfl⟩) dX12_laysStands_78 ?_
    refine go_aload_n (k4 := 0) rfl (Or.inr ⟨_, rfl⟩) dX12_laysStands_79 ?_
    obtain ⟨v15, ev15, hs⟩ := bindS hs
    refine go_gN fl_RX12_54 ev15 dX12_laysStands_80 ?_
    refine go_iload_n (k4 := 2) rfl dX12_laysStands_83 ?_
    obtain ⟨v16, ev16, hs⟩ := bindS hs
    refine go_aIi ev16 dX12_laysStands_84 ?_
    refine go_at 85 rfl ?_
    refine go_aload_n (k4 := 0) rfl (Or.inr ⟨_, rfl⟩) dX12_laysStands_85 ?_
    obtain ⟨v17, ev17, hs⟩ := bindS hs
    refine go_gN fl_RX12_42 ev17 dX12_laysStands_86 ?_
    refine go_iload_n (k4 := 3) rfl dX12_laysStands_89 ?_
    obtain ⟨v18, ev18, hs⟩ := bindS hs
    refine go_aIi ev18 dX12_laysStands_90 ?_
    refine go_iconst (v := 0) (by decide) dX12_laysStands_91 ?_
    obtain ⟨g20, hs⟩ := gO_at hs
    obtain ⟨y19, ey19, hs⟩ := bindS hs
    refine go_V1 (As := [.int v16, .int v18, .int (0 : Int32)]) (st := [.int (((35 : Int32) * v14) + x3), .ref v12]) g20 rfl rfl (oX12_yearBy (d := d - 1) (by omega) ey19) (by omega) mb_X12_yearBy lm_RX12_359 mi_X12_yearBy (Nat.le_of_ble_eq_true rfl) rfl dX12_laysStands_92 ?_
    obtain ⟨h21, eh21, hs⟩ := bindS hs
    refine go_wIi eh21 dX12_laysStands_95 ?_
    refine go_aload_n (k4 := 0) rfl (Or.inr ⟨_, rfl⟩) dX12_laysStands_96 ?_
    refine go_at 97 rfl ?_
    refine go_aload_n (k4 := 0) rfl (Or.inr ⟨_, rfl⟩) dX12_laysStands_97 ?_
    obtain ⟨v22, ev22, hs⟩ := bindS hs
    refine go_gN fl_RX12_58 ev22 dX12_laysStands_98 ?_
    refine go_bipush (v := 35) (by decide) dX12_laysStands_101 ?_
    refine go_aload_n (k4 := 0) rfl (Or.inr ⟨_, rfl⟩) dX12_laysStands_103 ?_
    obtain ⟨v23, ev23, hs⟩ := bindS hs
    refine go_gN fl_RX12_54 ev23 dX12_laysStands_104 ?_
    refine go_iload_n (k4 := 2) rfl dX12_laysStands_107 ?_
    obtain ⟨v24, ev24, hs⟩ := bindS hs
    refine go_aIi ev24 dX12_laysStands_108 ?_
    refine go_imul dX12_laysStands_109 ?_
    refine go_at 110 rfl ?_
    refine go_iload_n (k4 := 3) rfl dX12_laysStands_110 ?_
    refine go_iadd dX12_laysStands_111 ?_
    obtain ⟨v25, ev25, hs⟩ := bindS hs
    refine go_aIi ev25 dX12_laysStands_112 ?_
    obtain ⟨g27, hs⟩ := gO_at hs
    obtain ⟨y26, ey26, hs⟩ := bindS hs
    refine go_V0 (As := [.int v25]) (st := []) g27 rfl rfl (oX12_adds (d := d - 1) (by omega) ey26) (by omega) mb_X12_adds lm_RX12_387 mi_X12_adds (Nat.le_of_ble_eq_true rfl) rfl dX12_laysStands_113 ?_
    refine go_iload_n (k4 := 1) rfl dX12_laysStands_116 ?_
    refine go_if_eq (tgt := 141) (by decide) dX12_laysStands_117 (fun c => ?_) (fun c => ?_)
    · have hs := if_t c hs
      exact go_subL (L' := [some (.ref x0), some (.int x1), some (.int x2), some (.int x3)]) (by simp [subL, va_rf]) (oX12_laysStands_141 hd hs hk)
    · have hs := if_f c hs
      refine go_aload_n (k4 := 0) rfl (Or.inr ⟨_, rfl⟩) dX12_laysStands_120 ?_
      refine go_aload_n (k4 := 0) rfl (Or.inr ⟨_, rfl⟩) dX12_laysStands_121 ?_
      refine go_aload_n (k4 := 0) rfl (Or.inr ⟨_, rfl⟩) dX12_laysStands_122 ?_
      obtain ⟨v28, ev28, hs⟩ := bindS hs
      refine go_gN fl_RX12_54 ev28 dX12_laysStands_123 ?_
      refine go_iload_n (k4 := 2) rfl dX12_laysStands_126 ?_
      obtain ⟨v29, ev29, hs⟩ := bindS hs
      refine go_aIi ev29 dX12_laysStands_127 ?_
      refine go_aload_n (k4 := 0) rfl (Or.inr ⟨_, rfl⟩) dX12_laysStands_128 ?_
      refine go_at 129 rfl ?_
      obtain ⟨v30, ev30, hs⟩ := bindS hs
      refine go_gN fl_RX12_42 ev30 dX12_laysStands_129 ?_
      refine go_iload_n (k4 := 3) rfl dX12_laysStands_132 ?_
      obtain ⟨v31, ev31, hs⟩ := bindS hs
      refine go_aIi ev31 dX12_laysStands_133 ?_
      refine go_iconst (v := 1) (by decide) dX12_laysStands_134 ?_
      obtain ⟨g33, hs⟩ := gO_at hs
      obtain ⟨y32, ey32, hs⟩ := bindS hs
      refine go_V1 (As := [.int v29, .int v31, .int (1 : Int32)]) (st := [.ref x0]) g33 rfl rfl (oX12_yearBy (d := d - 1) (by omega) ey32) (by omega) mb_X12_yearBy lm_RX12_359 mi_X12_yearBy (Nat.le_of_ble_eq_true rfl) rfl dX12_laysStands_135 ?_
      obtain ⟨g35, hs⟩ := gO_at hs
      obtain ⟨y34, ey34, hs⟩ := bindS hs
      refine go_V0 (As := [.int y32]) (st := []) g35 rfl rfl (oX12_adds (d := d - 1) (by omega) ey34) (by omega) mb_X12_adds lm_RX12_387 mi_X12_adds (Nat.le_of_ble_eq_true rfl) rfl dX12_laysStands_138 ?_
      exact go_subL (L' := [some (.ref x0), some (.int x1), some (.int x2), some (.int x3)]) (by simp [subL, va_rf]) (oX12_laysStands_141 hd hs hk)
theorem oX12_laysStands_55 {d : Nat} (hd : 4 ≤ d) {h : Hp} {x0 : Nat} {x1 : Int32} {x2 : Int32} {x3 : Int32} {rf : Option Value} {hf : Hp} {x : ((Int32 × Hp) ⊕ Hp)} (hs : fX12_laysStands_55 h x0 x1 x2 x3 = some x) (hk : (Kx (pX12_laysStands_45 d x0 x1 rf hf) (kX12_laysStands rf hf)) x) : Go d mX12_laysStands 55 [some (.ref x0), some (.int x1), some (.int x2), some (.int x3)] [] h rf hf := by
  unfold fX12_laysStands_55 at hs
  exact lpw_go (P := pX12_laysStands_55 d x0 x1 x2 rf hf) (fun s x hs hk => oX12_laysStands_55b hd hs hk) (x3, h) x hs hk
noncomputable def fX12_laysStands_45b (h : Hp) (x0 : Nat) (x1 : Int32) (x2 : Int32) : Option ((Int32 × Hp) ⊕ Hp) :=
  (gI h 12 x0 33).bind fun v10 =>
  if v10 ≤ x2 then (
    some (.inr h)) else (
    fX12_laysStands_55 h x0 x1 x2 (0 : Int32))
noncomputable def fX12_laysStands_45 (h : Hp) (x0 : Nat) (x1 : Int32) (x2 : Int32) : Option Hp := lpw (σ := (Int32 × Hp)) (fun s => fX12_laysStands_45b s.2 x0 x1 s.1) (x2, h)
theorem oX12_laysStands_45b {d : Nat} (hd : 4 ≤ d) {h : Hp} {x0 : Nat} {x1 : Int32} {x2 : Int32} {rf : Option Value} {hf : Hp} {x : ((Int32 × Hp) ⊕ Hp)} (hs : fX12_laysStands_45b h x0 x1 x2 = some x) (hk : (Kx (pX12_laysStands_45 d x0 x1 rf hf) (kX12_laysStands rf hf)) x) : Go d mX12_laysStands 45 [some (.ref x0), some (.int x1), some (.int x2), none] [] h rf hf := by
  unfold fX12_laysStands_45b at hs
  refine go_iload_n (k4 := 2) rfl dX12_laysStands_45 ?_
  refine go_aload_n (k4 := 0) rfl (Or.inr ⟨_, rfl⟩) dX12_laysStands_46 ?_
  obtain ⟨v10, ev10, hs⟩ := bindS hs
  refine go_gI fl_RX12_384 ev10 dX12_laysStands_47 ?_
  refine go_icmp_ge (tgt := 153) (by decide) dX12_laysStands_50 (fun c => ?_) (fun c => ?_)
  · have hs := if_t c hs
    obtain rfl := Option.some.inj hs
    obtain ⟨rfl, rfl⟩ := hk
    exact go_vret rfl dX12_laysStands_153
  · have hs := if_f c hs
    refine go_iconst (v := 0) (by decide) dX12_laysStands_53 ?_
    refine go_istore_n (k4 := 3) (L' := [some (.ref x0), some (.int x1), some (.int x2), some (.int (0 : Int32))]) (by decide) rfl dX12_laysStands_54 ?_
    exact go_subL (L' := [some (.ref x0), some (.int x1), some (.int x2), some (.int (0 : Int32))]) (by simp [subL, va_rf]) (oX12_laysStands_55 hd hs hk)
theorem oX12_laysStands_45 {d : Nat} (hd : 4 ≤ d) {h : Hp} {x0 : Nat} {x1 : Int32} {x2 : Int32} {rf : Option Value} {hf : Hp} {x : Hp} (hs : fX12_laysStands_45 h x0 x1 x2 = some x) (hk : (kX12_laysStands rf hf) x) : Go d mX12_laysStands 45 [some (.ref x0), some (.int x1), some (.int x2), none] [] h rf hf := by
  unfold fX12_laysStands_45 at hs
  exact lpw_go (P := pX12_laysStands_45 d x0 x1 rf hf) (fun s x hs hk => oX12_laysStands_45b hd hs hk) (x2, h) x hs hk
noncomputable def fX12_laysStands_30 (h : Hp) (x0 : Nat) (x1 : Int32) : Option Hp :=
  (sV h 12 x0 33 (.int (0 : Int32))).bind fun h5 =>
  gO h5 12 x0 (
  (fX12_standNow h5 x0).bind fun y6 =>
  gO h5 12 x0 (
  (fX12_adds h5 x0 y6).bind fun y8 =>
  fX12_laysStands_45 y8 x0 x1 (0 : Int32)))
theorem oX12_laysStands_30 {d : Nat} (hd : 4 ≤ d) {h : Hp} {x0 : Nat} {x1 : Int32} {rf : Option Value} {hf : Hp} {x : Hp} (hs : fX12_laysStands_30 h x0 x1 = some x) (hk : (kX12_laysStands rf hf) x) : Go d mX12_laysStands 30 [some (.ref x0), some (.int x1), none, none] [] h rf hf := by
  unfold fX12_laysStands_30 at hs
  refine go_aload_n (k4 := 0) rfl (Or.inr ⟨_, rfl⟩) dX12_laysStands_30 ?_
  refine go_iconst (v := 0) (by decide) dX12_laysStands_31 ?_
  obtain ⟨h5, eh5, hs⟩ := bindS hs
  refine go_sV fw_RX12_384 eh5 rfl rfl dX12_laysStands_32 ?_
  refine go_aload_n (k4 := 0) rfl (Or.inr ⟨_, rfl⟩) dX12_laysStands_35 ?_
  refine go_aload_n (k4 := 0) rfl (Or.inr ⟨_, rfl⟩) dX12_laysStands_36 ?_
  obtain ⟨g7, hs⟩ := gO_at hs
  obtain ⟨y6, ey6, hs⟩ := bindS hs
  refine go_V1 (As := []) (st := [.ref x0]) g7 rfl rfl (oX12_standNow (d := d - 1) (by omega) ey6) (by omega) mb_X12_standNow lm_RX12_282 mi_X12_standNow (Nat.le_of_ble_eq_true rfl) rfl dX12_laysStands_37 ?_
  obtain ⟨g9, hs⟩ := gO_at hs
  obtain ⟨y8, ey8, hs⟩ := bindS hs
  refine go_V0 (As := [.int y6]) (st := []) g9 rfl rfl (oX12_adds (d := d - 1) (by omega) ey8) (by omega) mb_X12_adds lm_RX12_387 mi_X12_adds (Nat.le_of_ble_eq_true rfl) rfl dX12_laysStands_40 ?_
  refine go_at 43 rfl ?_
  refine go_iconst (v := 0) (by decide) dX12_laysStands_43 ?_
  refine go_istore_n (k4 := 2) (L' := [some (.ref x0), some (.int x1), some (.int (0 : Int32)), none]) (by decide) rfl dX12_laysStands_44 ?_
  exact go_subL (L' := [some (.ref x0), some (.int x1), some (.int (0 : Int32)), none]) (by simp [subL, va_rf]) (oX12_laysStands_45 hd hs hk)
noncomputable def fX12_laysStands_10b (h : Hp) (x0 : Nat) (x1 : Int32) (x2 : Int32) : Option ((Int32 × Hp) ⊕ Hp) :=
  if (20000 : Int32) ≤ x2 then (
  (fX12_laysStands_30 h x0 x1).map (fun q => .inr q)) else (
    (gN h 12 x0 32).bind fun v36 =>
    (wI 3 h v36 x2 (0 : Int32)).bind fun h37 =>
    some (.inl ((x2 + Int32.ofInt 1), h37)))
noncomputable def fX12_laysStands_10 (h : Hp) (x0 : Nat) (x1 : Int32) (x2 : Int32) : Option Hp := lpw (σ := (Int32 × Hp)) (fun s => fX12_laysStands_10b s.2 x0 x1 s.1) (x2, h)
theorem oX12_laysStands_10b {d : Nat} (hd : 4 ≤ d) {h : Hp} {x0 : Nat} {x1 : Int32} {x2 : Int32} {rf : Option Value} {hf : Hp} {x : ((Int32 × Hp) ⊕ Hp)} (hs : fX12_laysStands_10b h x0 x1 x2 = some x) (hk : (Kx (pX12_laysStands_10 d x0 x1 rf hf) (kX12_laysStands rf hf)) x) : Go d mX12_laysStands 10 [some (.ref x0), some (.int x1), some (.int x2), none] [] h rf hf := by
  unfold fX12_laysStands_10b at hs
  refine go_iload_n (k4 := 2) rfl dX12_laysStands_10 ?_
  refine go_sipush (v := 20000) (by decide) dX12_laysStands_11 ?_
  refine go_icmp_ge (tgt := 30) (by decide) dX12_laysStands_14 (fun c => ?_) (fun c => ?_)
  · have hs := if_t c hs
    obtain ⟨q, hs2, hq⟩ := mapS hs
    clear hs
    subst hq
    exact go_subL (L' := [some (.ref x0), some (.int x1), none, none]) (by simp [subL, va_rf]) (oX12_laysStands_30 hd hs2 hk)
  · have hs := if_f c hs
    refine go_aload_n (k4 := 0) rfl (Or.inr ⟨_, rfl⟩) dX12_laysStands_17 ?_
    obtain ⟨v36, ev36, hs⟩ := bindS hs
    refine go_gN fl_RX12_64 ev36 dX12_laysStands_18 ?_
    refine go_iload_n (k4 := 2) rfl dX12_laysStands_21 ?_
    refine go_iconst (v := 0) (by decide) dX12_laysStands_22 ?_
    obtain ⟨h37, eh37, hs⟩ := bindS hs
    refine go_wIz eh37 dX12_laysStands_23 ?_
    refine go_iinc (L' := [some (.ref x0), some (.int x1), some (.int (x2 + Int32.ofInt 1)), none]) rfl (by decide) rfl rfl dX12_laysStands_24 ?_
    refine go_goto (tgt := 10) (by decide) dX12_laysStands_27 ?_
    obtain rfl := Option.some.inj hs
    exact go_subL (L' := [some (.ref x0), some (.int x1), some (.int (x2 + Int32.ofInt 1)), none]) (by simp [subL, va_rf]) hk
theorem oX12_laysStands_10 {d : Nat} (hd : 4 ≤ d) {h : Hp} {x0 : Nat} {x1 : Int32} {x2 : Int32} {rf : Option Value} {hf : Hp} {x : Hp} (hs : fX12_laysStands_10 h x0 x1 x2 = some x) (hk : (kX12_laysStands rf hf) x) : Go d mX12_laysStands 10 [some (.ref x0), some (.int x1), some (.int x2), none] [] h rf hf := by
  unfold fX12_laysStands_10 at hs
  exact lpw_go (P := pX12_laysStands_10 d x0 x1 rf hf) (fun s x hs hk => oX12_laysStands_10b hd hs hk) (x2, h) x hs hk
noncomputable def fX12_laysStands (h : Hp) (x0 : Nat) (x1 : Int32) : Option Hp :=
  gO h 12 x0 (
  (fX12_laysTables h x0).bind fun y1 =>
  gO y1 12 x0 (
  (fX12_laysLeads y1 x0).bind fun y3 =>
  fX12_laysStands_10 y3 x0 x1 (0 : Int32)))
theorem oX12_laysStands_0 {d : Nat} (hd : 4 ≤ d) {h : Hp} {x0 : Nat} {x1 : Int32} {rf : Option Value} {hf : Hp} {x : Hp} (hs : fX12_laysStands h x0 x1 = some x) (hk : (kX12_laysStands rf hf) x) : Go d mX12_laysStands 0 [some (.ref x0), some (.int x1), none, none] [] h rf hf := by
  unfold fX12_laysStands at hs
  refine go_aload_n (k4 := 0) rfl (Or.inr ⟨_, rfl⟩) dX12_laysStands_0 ?_
  obtain ⟨g2, hs⟩ := gO_at hs
  obtain ⟨y1, ey1, hs⟩ := bindS hs
  refine go_V0 (As := []) (st := []) g2 rfl rfl (oX12_laysTables (d := d - 1) (by omega) ey1) (by omega) mb_X12_laysTables lm_RX12_356 mi_X12_laysTables (Nat.le_of_ble_eq_true rfl) rfl dX12_laysStands_1 ?_
  refine go_aload_n (k4 := 0) rfl (Or.inr ⟨_, rfl⟩) dX12_laysStands_4 ?_
  obtain ⟨g4, hs⟩ := gO_at hs
  obtain ⟨y3, ey3, hs⟩ := bindS hs
  refine go_V0 (As := []) (st := []) g4 rfl rfl (oX12_laysLeads (d := d - 1) (by omega) ey3) (by omega) mb_X12_laysLeads lm_RX12_291 mi_X12_laysLeads (Nat.le_of_ble_eq_true rfl) rfl dX12_laysStands_5 ?_
  refine go_iconst (v := 0) (by decide) dX12_laysStands_8 ?_
  refine go_istore_n (k4 := 2) (L' := [some (.ref x0), some (.int x1), some (.int (0 : Int32)), none]) (by decide) rfl dX12_laysStands_9 ?_
  exact go_subL (L' := [some (.ref x0), some (.int x1), some (.int (0 : Int32)), none]) (by simp [subL, va_rf]) (oX12_laysStands_10 hd hs hk)
theorem oX12_laysStands {d : Nat} (hd : 4 ≤ d) {h : Hp} {x0 : Nat} {x1 : Int32} {y : Hp} (hs : fX12_laysStands h x0 x1 = some y) : Call d mX12_laysStands [.ref x0, .int x1] h (none) y := call_of (by decide +kernel) (Nat.le_of_ble_eq_true rfl) (show Go d mX12_laysStands 0 [some (.ref x0), some (.int x1), none, none] [] h _ _ from go_subL (by simp [subL]) (oX12_laysStands_0 hd hs ⟨rfl, rfl⟩))
abbrev kX12_leastBy (h : Hp) (rf : Option Value) (hf : Hp) : Int32 → Prop := fun y => rf = some (.int y) ∧ hf = h
abbrev pX12_leastBy_6 (d : Nat) (h : Hp) (x0 : Nat) (x1 : Int32) (rf : Option Value) (hf : Hp) : (Int32 × Int32) → Prop := fun s => Go d mX12_leastBy 6 [some (.ref x0), some (.int x1), some (.int s.1), some (.int s.2)] [] h rf hf
noncomputable def fX12_leastBy_77 (h : Hp) (s0 : Int32) : Option Int32 :=
  some (s0)
theorem oX12_leastBy_77 {d : Nat} (hd : 0 ≤ d) {h : Hp} {s0 : Int32} {rf : Option Value} {hf : Hp} {x : Int32} (hs : fX12_leastBy_77 h s0 = some x) (hk : (kX12_leastBy h rf hf) x) : Go d mX12_leastBy 77 [none, none, none, none] [.int s0] h rf hf := by
  unfold fX12_leastBy_77 at hs
  obtain rfl := Option.some.inj hs
  obtain ⟨rfl, rfl⟩ := hk
  exact go_iret rfl dX12_leastBy_77
noncomputable def fX12_leastBy_61 (h : Hp) (x2 : Int32) : Option Int32 :=
  if x2 = (268435456 : Int32) then (
    fX12_leastBy_77 h (268435456 : Int32)) else (
    fX12_leastBy_77 h (x2 + (1 : Int32)))
theorem oX12_leastBy_61 {d : Nat} (hd : 0 ≤ d) {h : Hp} {x2 : Int32} {rf : Option Value} {hf : Hp} {x : Int32} (hs : fX12_leastBy_61 h x2 = some x) (hk : (kX12_leastBy h rf hf) x) : Go d mX12_leastBy 61 [none, none, some (.int x2), none] [] h rf hf := by
  unfold fX12_leastBy_61 at hs
  refine go_iload_n (k4 := 2) rfl dX12_leastBy_61 ?_
  refine go_ldcw lc_RX12_390 dX12_leastBy_62 ?_
  refine go_icmp_ne (tgt := 74) (by decide) dX12_leastBy_65 (fun c => ?_) (fun c => ?_)
  · have hs := if_f c hs
    refine go_iload_n (k4 := 2) rfl dX12_leastBy_74 ?_
    refine go_iconst (v := 1) (by decide) dX12_leastBy_75 ?_
    refine go_iadd dX12_leastBy_76 ?_
    exact go_subL (L' := [none, none, none, none]) (by simp [subL, va_rf]) (oX12_leastBy_77 hd hs hk)
  · have hs := if_t c hs
    refine go_ldcw lc_RX12_390 dX12_leastBy_68 ?_
    refine go_goto (tgt := 77) (by decide) dX12_leastBy_71 ?_
    exact go_subL (L' := [none, none, none, none]) (by simp [subL, va_rf]) (oX12_leastBy_77 hd hs hk)
noncomputable def fX12_leastBy_54 (h : Hp) (x0 : Nat) (x1 : Int32) (x3 : Int32) (s0 : Int32) : Option ((Int32 × Int32) ⊕ Int32) :=
  some (.inl (s0, (x3 + Int32.ofInt 1)))
theorem oX12_leastBy_54 {d : Nat} (hd : 0 ≤ d) {h : Hp} {x0 : Nat} {x1 : Int32} {x3 : Int32} {s0 : Int32} {rf : Option Value} {hf : Hp} {x : ((Int32 × Int32) ⊕ Int32)} (hs : fX12_leastBy_54 h x0 x1 x3 s0 = some x) (hk : (Kx (pX12_leastBy_6 d h x0 x1 rf hf) (kX12_leastBy h rf hf)) x) : Go d mX12_leastBy 54 [some (.ref x0), some (.int x1), none, some (.int x3)] [.int s0] h rf hf := by
  unfold fX12_leastBy_54 at hs
  refine go_istore_n (k4 := 2) (L' := [some (.ref x0), some (.int x1), some (.int s0), some (.int x3)]) (by decide) rfl dX12_leastBy_54 ?_
  refine go_iinc (L' := [some (.ref x0), some (.int x1), some (.int s0), some (.int (x3 + Int32.ofInt 1))]) rfl (by decide) rfl rfl dX12_leastBy_55 ?_
  refine go_goto (tgt := 6) (by decide) dX12_leastBy_58 ?_
  obtain rfl := Option.some.inj hs
  exact go_subL (L' := [some (.ref x0), some (.int x1), some (.int s0), some (.int (x3 + Int32.ofInt 1))]) (by simp [subL, va_rf]) hk
noncomputable def fX12_leastBy_6b (h : Hp) (x0 : Nat) (x1 : Int32) (x2 : Int32) (x3 : Int32) : Option ((Int32 × Int32) ⊕ Int32) :=
  (gI h 12 x0 21).bind fun v1 =>
  if v1 ≤ x3 then (
  (fX12_leastBy_61 h x2).map (fun q => .inr q)) else (
    (gN h 12 x0 31).bind fun v2 =>
    (gN h 12 x0 30).bind fun v3 =>
    (aI 0 h v3 (((35 : Int32) * x1) + x3)).bind fun v4 =>
    (aI 0 h v2 v4).bind fun v5 =>
    if x2 ≤ v5 then (
      fX12_leastBy_54 h x0 x1 x3 x2) else (
      (gN h 12 x0 31).bind fun v6 =>
      (gN h 12 x0 30).bind fun v7 =>
      (aI 0 h v7 (((35 : Int32) * x1) + x3)).bind fun v8 =>
      (aI 0 h v6 v8).bind fun v9 =>
      fX12_leastBy_54 h x0 x1 x3 v9))
noncomputable def fX12_leastBy_6 (h : Hp) (x0 : Nat) (x1 : Int32) (x2 : Int32) (x3 : Int32) : Option Int32 := lpw (σ := (Int32 × Int32)) (fun s => fX12_leastBy_6b h x0 x1 s.1 s.2) (x2, x3)
theorem oX12_leastBy_6b {d : Nat} (hd : 0 ≤ d) {h : Hp} {x0 : Nat} {x1 : Int32} {x2 : Int32} {x3 : Int32} {rf : Option Value} {hf : Hp} {x : ((Int32 × Int32) ⊕ Int32)} (hs : fX12_leastBy_6b h x0 x1 x2 x3 = some x) (hk : (Kx (pX12_leastBy_6 d h x0 x1 rf hf) (kX12_leastBy h rf hf)) x) : Go d mX12_leastBy 6 [some (.ref x0), some (.int x1), some (.int x2), some (.int x3)] [] h rf hf := by
  unfold fX12_leastBy_6b at hs
  refine go_iload_n (k4 := 3) rfl dX12_leastBy_6 ?_
  refine go_aload_n (k4 := 0) rfl (Or.inr ⟨_, rfl⟩) dX12_leastBy_7 ?_
  obtain ⟨v1, ev1, hs⟩ := bindS hs
  refine go_gI fl_RX12_285 ev1 dX12_leastBy_8 ?_
  refine go_icmp_ge (tgt := 61) (by decide) dX12_leastBy_11 (fun c => ?_) (fun c => ?_)
  · have hs := if_t c hs
    obtain ⟨q, hs2, hq⟩ := mapS hs
    clear hs
    subst hq
    exact go_subL (L' := [none, none, some (.int x2), none]) (by simp [subL, va_rf]) (oX12_leastBy_61 hd hs2 hk)
  · have hs := if_f c hs
    refine go_aload_n (k4 := 0) rfl (Or.inr ⟨_, rfl⟩) dX12_leastBy_14 ?_
    obtain ⟨v2, ev2, hs⟩ := bindS hs
    refine go_gN fl_RX12_61 ev2 dX12_leastBy_15 ?_
    refine go_aload_n (k4 := 0) rfl (Or.inr ⟨_, rfl⟩) dX12_leastBy_18 ?_
    obtain ⟨v3, ev3, hs⟩ := bindS hs
    refine go_gN fl_RX12_58 ev3 dX12_leastBy_19 ?_
    refine go_bipush (v := 35) (by decide) dX12_leastBy_22 ?_
    refine go_iload_n (k4 := 1) rfl dX12_leastBy_24 ?_
    refine go_imul dX12_leastBy_25 ?_
    refine go_at 26 rfl ?_
    refine go_iload_n (k4 := 3) rfl dX12_leastBy_26 ?_
    refine go_iadd dX12_leastBy_27 ?_
    obtain ⟨v4, ev4, hs⟩ := bindS hs
    refine go_aIi ev4 dX12_leastBy_28 ?_
    obtain ⟨v5, ev5, hs⟩ := bindS hs
    refine go_aIi ev5 dX12_leastBy_29 ?_
    refine go_iload_n (k4 := 2) rfl dX12_leastBy_30 ?_
    refine go_icmp_ge (tgt := 53) (by decide) dX12_leastBy_31 (fun c => ?_) (fun c => ?_)
    · have hs := if_t c hs
      refine go_iload_n (k4 := 2) rfl dX12_leastBy_53 ?_
      exact go_subL (L' := [some (.ref x0), some (.int x1), none, some (.int x3)]) (by simp [subL, va_rf]) (oX12_leastBy_54 hd hs hk)
    · have hs := if_f c hs
      refine go_aload_n (k4 := 0) rfl (Or.inr ⟨_, rfl⟩) dX12_leastBy_34 ?_
      obtain ⟨v6, ev6, hs⟩ := bindS hs
      refine go_gN fl_RX12_61 ev6 dX12_leastBy_35 ?_
      refine go_aload_n (k4 := 0) rfl (Or.inr ⟨_, rfl⟩) dX12_leastBy_38 ?_
      obtain ⟨v7, ev7, hs⟩ := bindS hs
      refine go_gN fl_RX12_58 ev7 dX12_leastBy_39 ?_
      refine go_bipush (v := 35) (by decide) dX12_leastBy_42 ?_
      refine go_iload_n (k4 := 1) rfl dX12_leastBy_44 ?_
      refine go_imul dX12_leastBy_45 ?_
      refine go_at 46 rfl ?_
      refine go_iload_n (k4 := 3) rfl dX12_leastBy_46 ?_
      refine go_iadd dX12_leastBy_47 ?_
      obtain ⟨v8, ev8, hs⟩ := bindS hs
      refine go_aIi ev8 dX12_leastBy_48 ?_
      obtain ⟨v9, ev9, hs⟩ := bindS hs
      refine go_aIi ev9 dX12_leastBy_49 ?_
      refine go_goto (tgt := 54) (by decide) dX12_leastBy_50 ?_
      exact go_subL (L' := [some (.ref x0), some (.int x1), none, some (.int x3)]) (by simp [subL, va_rf]) (oX12_leastBy_54 hd hs hk)
theorem oX12_leastBy_6 {d : Nat} (hd : 0 ≤ d) {h : Hp} {x0 : Nat} {x1 : Int32} {x2 : Int32} {x3 : Int32} {rf : Option Value} {hf : Hp} {x : Int32} (hs : fX12_leastBy_6 h x0 x1 x2 x3 = some x) (hk : (kX12_leastBy h rf hf) x) : Go d mX12_leastBy 6 [some (.ref x0), some (.int x1), some (.int x2), some (.int x3)] [] h rf hf := by
  unfold fX12_leastBy_6 at hs
  exact lpw_go (P := pX12_leastBy_6 d h x0 x1 rf hf) (fun s x hs hk => oX12_leastBy_6b hd hs hk) (x2, x3) x hs hk
noncomputable def fX12_leastBy (h : Hp) (x0 : Nat) (x1 : Int32) : Option Int32 :=
  fX12_leastBy_6 h x0 x1 (268435456 : Int32) (0 : Int32)
theorem oX12_leastBy_0 {d : Nat} (hd : 0 ≤ d) {h : Hp} {x0 : Nat} {x1 : Int32} {rf : Option Value} {hf : Hp} {x : Int32} (hs : fX12_leastBy h x0 x1 = some x) (hk : (kX12_leastBy h rf hf) x) : Go d mX12_leastBy 0 [some (.ref x0), some (.int x1), none, none] [] h rf hf := by
  unfold fX12_leastBy at hs
  refine go_ldcw lc_RX12_390 dX12_leastBy_0 ?_
  refine go_istore_n (k4 := 2) (L' := [some (.ref x0), some (.int x1), some (.int (268435456 : Int32)), none]) (by decide) rfl dX12_leastBy_3 ?_
  refine go_iconst (v := 0) (by decide) dX12_leastBy_4 ?_
  refine go_istore_n (k4 := 3) (L' := [some (.ref x0), some (.int x1), some (.int (268435456 : Int32)), some (.int (0 : Int32))]) (by decide) rfl dX12_leastBy_5 ?_
  exact go_subL (L' := [some (.ref x0), some (.int x1), some (.int (268435456 : Int32)), some (.int (0 : Int32))]) (by simp [subL, va_rf]) (oX12_leastBy_6 hd hs hk)
theorem oX12_leastBy {d : Nat} (hd : 0 ≤ d) {h : Hp} {x0 : Nat} {x1 : Int32} {y : Int32} (hs : fX12_leastBy h x0 x1 = some y) : Call d mX12_leastBy [.ref x0, .int x1] h (some (.int y)) h := call_of (by decide +kernel) (Nat.le_of_ble_eq_true rfl) (show Go d mX12_leastBy 0 [some (.ref x0), some (.int x1), none, none] [] h _ _ from go_subL (by simp [subL]) (oX12_leastBy_0 hd hs ⟨rfl, rfl⟩))
abbrev kX12_laysFar (rf : Option Value) (hf : Hp) : (Int32 × Hp) → Prop := fun y => rf = some (.int y.1) ∧ hf = y.2
abbrev pX12_laysFar_2 (d : Nat) (x0 : Nat) (rf : Option Value) (hf : Hp) : (Int32 × Hp) → Prop := fun s => Go d mX12_laysFar 2 [some (.ref x0), some (.int s.1), none, none] [] s.2 rf hf
noncomputable def fX12_laysFar_71 (h : Hp) (x0 : Nat) : Option (Int32 × Hp) :=
  (gN h 12 x0 31).bind fun v1 =>
  gO h 12 x0 (
  (fX12_standNow h x0).bind fun y2 =>
  (aI 0 h v1 y2).bind fun v4 =>
  some ((v4, h)))
theorem oX12_laysFar_71 {d : Nat} (hd : 1 ≤ d) {h : Hp} {x0 : Nat} {rf : Option Value} {hf : Hp} {x : (Int32 × Hp)} (hs : fX12_laysFar_71 h x0 = some x) (hk : (kX12_laysFar rf hf) x) : Go d mX12_laysFar 71 [some (.ref x0), none, none, none] [] h rf hf := by
  unfold fX12_laysFar_71 at hs
  refine go_aload_n (k4 := 0) rfl (Or.inr ⟨_, rfl⟩) dX12_laysFar_71 ?_
  obtain ⟨v1, ev1, hs⟩ := bindS hs
  refine go_gN fl_RX12_61 ev1 dX12_laysFar_72 ?_
  refine go_aload_n (k4 := 0) rfl (Or.inr ⟨_, rfl⟩) dX12_laysFar_75 ?_
  obtain ⟨g3, hs⟩ := gO_at hs
  obtain ⟨y2, ey2, hs⟩ := bindS hs
  refine go_V1 (As := []) (st := [.ref v1]) g3 rfl rfl (oX12_standNow (d := d - 1) (by omega) ey2) (by omega) mb_X12_standNow lm_RX12_282 mi_X12_standNow (Nat.le_of_ble_eq_true rfl) rfl dX12_laysFar_76 ?_
  obtain ⟨v4, ev4, hs⟩ := bindS hs
  refine go_aIi ev4 dX12_laysFar_79 ?_
  obtain rfl := Option.some.inj hs
  obtain ⟨rfl, rfl⟩ := hk
  exact go_iret rfl dX12_laysFar_80
abbrev pX12_laysFar_15 (d : Nat) (x0 : Nat) (rf : Option Value) (hf : Hp) : (Int32 × Int32 × Hp) → Prop := fun s => Go d mX12_laysFar 15 [some (.ref x0), some (.int s.1), some (.int s.2.1), none] [] s.2.2 rf hf
noncomputable def fX12_laysFar_62 (h : Hp) (x0 : Nat) (x1 : Int32) (x2 : Int32) : Option ((Int32 × Int32 × Hp) ⊕ ((Int32 × Hp) ⊕ (Int32 × Hp))) :=
  some (.inl (x1, (x2 + Int32.ofInt (-1)), h))
theorem oX12_laysFar_62 {d : Nat} (hd : 1 ≤ d) {h : Hp} {x0 : Nat} {x1 : Int32} {x2 : Int32} {rf : Option Value} {hf : Hp} {x : ((Int32 × Int32 × Hp) ⊕ ((Int32 × Hp) ⊕ (Int32 × Hp)))} (hs : fX12_laysFar_62 h x0 x1 x2 = some x) (hk : (Kx (pX12_laysFar_15 d x0 rf hf) (Kx (pX12_laysFar_2 d x0 rf hf) (kX12_laysFar rf hf))) x) : Go d mX12_laysFar 62 [some (.ref x0), some (.int x1), some (.int x2), none] [] h rf hf := by
  unfold fX12_laysFar_62 at hs
  refine go_iinc (L' := [some (.ref x0), some (.int x1), some (.int (x2 + Int32.ofInt (-1))), none]) rfl (by decide) rfl rfl dX12_laysFar_62 ?_
  refine go_goto (tgt := 15) (by decide) dX12_laysFar_65 ?_
  obtain rfl := Option.some.inj hs
  exact go_subL (L' := [some (.ref x0), some (.int x1), some (.int (x2 + Int32.ofInt (-1))), none]) (by simp [subL, va_rf]) hk
noncomputable def fX12_laysFar_15b (h : Hp) (x0 : Nat) (x1 : Int32) (x2 : Int32) : Option ((Int32 × Int32 × Hp) ⊕ ((Int32 × Hp) ⊕ (Int32 × Hp))) :=
  if x2 < 0 then (
    some (.inr (.inl (x1, h)))) else (
    (gN h 12 x0 29).bind fun v6 =>
    (aI 0 h v6 x2).bind fun v7 =>
    gO h 12 x0 (
    (fX12_leastBy h x0 v7).bind fun y8 =>
    (gN h 12 x0 31).bind fun v10 =>
    (gN h 12 x0 29).bind fun v11 =>
    (aI 0 h v11 x2).bind fun v12 =>
    (aI 0 h v10 v12).bind fun v13 =>
    if y8 < v13 then (
      (gN h 12 x0 31).bind fun v14 =>
      (gN h 12 x0 29).bind fun v15 =>
      (aI 0 h v15 x2).bind fun v16 =>
      (wI 0 h v14 v16 y8).bind fun h17 =>
      fX12_laysFar_62 h17 x0 (1 : Int32) x2) else (
      fX12_laysFar_62 h x0 x1 x2)))
noncomputable def fX12_laysFar_15 (h : Hp) (x0 : Nat) (x1 : Int32) (x2 : Int32) : Option ((Int32 × Hp) ⊕ (Int32 × Hp)) := lpw (σ := (Int32 × Int32 × Hp)) (fun s => fX12_laysFar_15b s.2.2 x0 s.1 s.2.1) (x1, x2, h)
theorem oX12_laysFar_15b {d : Nat} (hd : 1 ≤ d) {h : Hp} {x0 : Nat} {x1 : Int32} {x2 : Int32} {rf : Option Value} {hf : Hp} {x : ((Int32 × Int32 × Hp) ⊕ ((Int32 × Hp) ⊕ (Int32 × Hp)))} (hs : fX12_laysFar_15b h x0 x1 x2 = some x) (hk : (Kx (pX12_laysFar_15 d x0 rf hf) (Kx (pX12_laysFar_2 d x0 rf hf) (kX12_laysFar rf hf))) x) : Go d mX12_laysFar 15 [some (.ref x0), some (.int x1), some (.int x2), none] [] h rf hf := by
  unfold fX12_laysFar_15b at hs
  refine go_iload_n (k4 := 2) rfl dX12_laysFar_15 ?_
  refine go_if_lt (tgt := 68) (by decide) dX12_laysFar_16 (fun c => ?_) (fun c => ?_)
  · have hs := if_t c hs
    refine go_goto (tgt := 2) (by decide) dX12_laysFar_68 ?_
    obtain rfl := Option.some.inj hs
    exact go_subL (L' := [some (.ref x0), some (.int x1), none, none]) (by simp [subL, va_rf]) hk
  · have hs := if_f c hs
    refine go_aload_n (k4 := 0) rfl (Or.inr ⟨_, rfl⟩) dX12_laysFar_19 ?_
    refine go_aload_n (k4 := 0) rfl (Or.inr ⟨_, rfl⟩) dX12_laysFar_20 ?_
    obtain ⟨v6, ev6, hs⟩ := bindS hs
    refine go_gN fl_RX12_54 ev6 dX12_laysFar_21 ?_
    refine go_iload_n (k4 := 2) rfl dX12_laysFar_24 ?_
    obtain ⟨v7, ev7, hs⟩ := bindS hs
    refine go_aIi ev7 dX12_laysFar_25 ?_
    obtain ⟨g9, hs⟩ := gO_at hs
    obtain ⟨y8, ey8, hs⟩ := bindS hs
    refine go_V1 (As := [.int v7]) (st := []) g9 rfl rfl (oX12_leastBy (d := d - 1) (by omega) ey8) (by omega) mb_X12_leastBy lm_RX12_391 mi_X12_leastBy (Nat.le_of_ble_eq_true rfl) rfl dX12_laysFar_26 ?_
    refine go_istore_n (k4 := 3) (L' := [some (.ref x0), some (.int x1), some (.int x2), some (.int y8)]) (by decide) rfl dX12_laysFar_29 ?_
    refine go_at 30 rfl ?_
    refine go_iload_n (k4 := 3) rfl dX12_laysFar_30 ?_
    refine go_aload_n (k4 := 0) rfl (Or.inr ⟨_, rfl⟩) dX12_laysFar_31 ?_
    obtain ⟨v10, ev10, hs⟩ := bindS hs
    refine go_gN fl_RX12_61 ev10 dX12_laysFar_32 ?_
    refine go_aload_n (k4 := 0) rfl (Or.inr ⟨_, rfl⟩) dX12_laysFar_35 ?_
    obtain ⟨v11, ev11, hs⟩ := bindS hs
    refine go_gN fl_RX12_54 ev11 dX12_laysFar_36 ?_
    refine go_iload_n (k4 := 2) rfl dX12_laysFar_39 ?_
    obtain ⟨v12, ev12, hs⟩ := bindS hs
    refine go_aIi ev12 dX12_laysFar_40 ?_
    obtain ⟨v13, ev13, hs⟩ := bindS hs
    refine go_aIi ev13 dX12_laysFar_41 ?_
    refine go_at 42 rfl ?_
    refine go_icmp_lt (tgt := 48) (by decide) dX12_laysFar_42 (fun c => ?_) (fun c => ?_)
    · have hs := if_t c hs
      refine go_aload_n (k4 := 0) rfl (Or.inr ⟨_, rfl⟩) dX12_laysFar_48 ?_
      obtain ⟨v14, ev14, hs⟩ := bindS hs
      refine go_gN fl_RX12_61 ev14 dX12_laysFar_49 ?_
      refine go_aload_n (k4 := 0) rfl (Or.inr ⟨_, rfl⟩) dX12_laysFar_52 ?_
      obtain ⟨v15, ev15, hs⟩ := bindS hs
      refine go_gN fl_RX12_54 ev15 dX12_laysFar_53 ?_
      refine go_iload_n (k4 := 2) rfl dX12_laysFar_56 ?_
      obtain ⟨v16, ev16, hs⟩ := bindS hs
      refine go_aIi ev16 dX12_laysFar_57 ?_
      refine go_iload_n (k4 := 3) rfl dX12_laysFar_58 ?_
      refine go_at 59 rfl ?_
      obtain ⟨h17, eh17, hs⟩ := bindS hs
      refine go_wIi eh17 dX12_laysFar_59 ?_
      refine go_iconst (v := 1) (by decide) dX12_laysFar_60 ?_
      refine go_istore_n (k4 := 1) (L' := [some (.ref x0), some (.int (1 : Int32)), some (.int x2), some (.int y8)]) (by decide) rfl dX12_laysFar_61 ?_
      exact go_subL (L' := [some (.ref x0), some (.int (1 : Int32)), some (.int x2), none]) (by simp [subL, va_rf]) (oX12_laysFar_62 hd hs hk)
    · have hs := if_f c hs
      refine go_goto (tgt := 62) (by decide) dX12_laysFar_45 ?_
      exact go_subL (L' := [some (.ref x0), some (.int x1), some (.int x2), none]) (by simp [subL, va_rf]) (oX12_laysFar_62 hd hs hk)
theorem oX12_laysFar_15 {d : Nat} (hd : 1 ≤ d) {h : Hp} {x0 : Nat} {x1 : Int32} {x2 : Int32} {rf : Option Value} {hf : Hp} {x : ((Int32 × Hp) ⊕ (Int32 × Hp))} (hs : fX12_laysFar_15 h x0 x1 x2 = some x) (hk : (Kx (pX12_laysFar_2 d x0 rf hf) (kX12_laysFar rf hf)) x) : Go d mX12_laysFar 15 [some (.ref x0), some (.int x1), some (.int x2), none] [] h rf hf := by
  unfold fX12_laysFar_15 at hs
  exact lpw_go (P := pX12_laysFar_15 d x0 rf hf) (fun s x hs hk => oX12_laysFar_15b hd hs hk) (x1, x2, h) x hs hk
noncomputable def fX12_laysFar_2b (h : Hp) (x0 : Nat) (x1 : Int32) : Option ((Int32 × Hp) ⊕ (Int32 × Hp)) :=
  if x1 = 0 then (
  (fX12_laysFar_71 h x0).map (fun q => .inr q)) else (
    (gI h 12 x0 33).bind fun v5 =>
    fX12_laysFar_15 h x0 (0 : Int32) (v5 - (1 : Int32)))
noncomputable def fX12_laysFar_2 (h : Hp) (x0 : Nat) (x1 : Int32) : Option (Int32 × Hp) := lpw (σ := (Int32 × Hp)) (fun s => fX12_laysFar_2b s.2 x0 s.1) (x1, h)
theorem oX12_laysFar_2b {d : Nat} (hd : 1 ≤ d) {h : Hp} {x0 : Nat} {x1 : Int32} {rf : Option Value} {hf : Hp} {x : ((Int32 × Hp) ⊕ (Int32 × Hp))} (hs : fX12_laysFar_2b h x0 x1 = some x) (hk : (Kx (pX12_laysFar_2 d x0 rf hf) (kX12_laysFar rf hf)) x) : Go d mX12_laysFar 2 [some (.ref x0), some (.int x1), none, none] [] h rf hf := by
  unfold fX12_laysFar_2b at hs
  refine go_iload_n (k4 := 1) rfl dX12_laysFar_2 ?_
  refine go_if_eq (tgt := 71) (by decide) dX12_laysFar_3 (fun c => ?_) (fun c => ?_)
  · have hs := if_t c hs
    obtain ⟨q, hs2, hq⟩ := mapS hs
    clear hs
    subst hq
    exact go_subL (L' := [some (.ref x0), none, none, none]) (by simp [subL, va_rf]) (oX12_laysFar_71 hd hs2 hk)
  · have hs := if_f c hs
    refine go_iconst (v := 0) (by decide) dX12_laysFar_6 ?_
    refine go_istore_n (k4 := 1) (L' := [some (.ref x0), some (.int (0 : Int32)), none, none]) (by decide) rfl dX12_laysFar_7 ?_
    refine go_aload_n (k4 := 0) rfl (Or.inr ⟨_, rfl⟩) dX12_laysFar_8 ?_
    obtain ⟨v5, ev5, hs⟩ := bindS hs
    refine go_gI fl_RX12_384 ev5 dX12_laysFar_9 ?_
    refine go_iconst (v := 1) (by decide) dX12_laysFar_12 ?_
    refine go_isub dX12_laysFar_13 ?_
    refine go_istore_n (k4 := 2) (L' := [some (.ref x0), some (.int (0 : Int32)), some (.int (v5 - (1 : Int32))), none]) (by decide) rfl dX12_laysFar_14 ?_
    exact go_subL (L' := [some (.ref x0), some (.int (0 : Int32)), some (.int (v5 - (1 : Int32))), none]) (by simp [subL, va_rf]) (oX12_laysFar_15 hd hs hk)
theorem oX12_laysFar_2 {d : Nat} (hd : 1 ≤ d) {h : Hp} {x0 : Nat} {x1 : Int32} {rf : Option Value} {hf : Hp} {x : (Int32 × Hp)} (hs : fX12_laysFar_2 h x0 x1 = some x) (hk : (kX12_laysFar rf hf) x) : Go d mX12_laysFar 2 [some (.ref x0), some (.int x1), none, none] [] h rf hf := by
  unfold fX12_laysFar_2 at hs
  exact lpw_go (P := pX12_laysFar_2 d x0 rf hf) (fun s x hs hk => oX12_laysFar_2b hd hs hk) (x1, h) x hs hk
noncomputable def fX12_laysFar (h : Hp) (x0 : Nat) : Option (Int32 × Hp) :=
  fX12_laysFar_2 h x0 (1 : Int32)
theorem oX12_laysFar_0 {d : Nat} (hd : 1 ≤ d) {h : Hp} {x0 : Nat} {rf : Option Value} {hf : Hp} {x : (Int32 × Hp)} (hs : fX12_laysFar h x0 = some x) (hk : (kX12_laysFar rf hf) x) : Go d mX12_laysFar 0 [some (.ref x0), none, none, none] [] h rf hf := by
  unfold fX12_laysFar at hs
  refine go_iconst (v := 1) (by decide) dX12_laysFar_0 ?_
  refine go_istore_n (k4 := 1) (L' := [some (.ref x0), some (.int (1 : Int32)), none, none]) (by decide) rfl dX12_laysFar_1 ?_
  exact go_subL (L' := [some (.ref x0), some (.int (1 : Int32)), none, none]) (by simp [subL, va_rf]) (oX12_laysFar_2 hd hs hk)
theorem oX12_laysFar {d : Nat} (hd : 1 ≤ d) {h : Hp} {x0 : Nat} {y : (Int32 × Hp)} (hs : fX12_laysFar h x0 = some y) : Call d mX12_laysFar [.ref x0] h (some (.int y.1)) (y.2) := call_of (by decide +kernel) (Nat.le_of_ble_eq_true rfl) (show Go d mX12_laysFar 0 [some (.ref x0), none, none, none] [] h _ _ from go_subL (by simp [subL]) (oX12_laysFar_0 hd hs ⟨rfl, rfl⟩))
abbrev kX12_laysMeeting (rf : Option Value) (hf : Hp) : (Int32 × Hp) → Prop := fun y => rf = some (.int y.1) ∧ hf = y.2
abbrev pX12_laysMeeting_7 (d : Nat) (x0 : Nat) (x1 : Int32) (rf : Option Value) (hf : Hp) : (Int32 × Hp) → Prop := fun s => Go d mX12_laysMeeting 7 [some (.ref x0), some (.int x1), some (.int s.1)] [] s.2 rf hf
noncomputable def fX12_laysMeeting_48 (h : Hp) (x0 : Nat) (x1 : Int32) (x2 : Int32) (s0 : Nat) (s1 : Int32) (s2 : Int32) : Option ((Int32 × Hp) ⊕ (Int32 × Hp)) :=
  (wI 0 h s0 s1 s2).bind fun h13 =>
  some (.inl ((x2 + Int32.ofInt 1), h13))
theorem oX12_laysMeeting_48 {d : Nat} (hd : 5 ≤ d) {h : Hp} {x0 : Nat} {x1 : Int32} {x2 : Int32} {s0 : Nat} {s1 : Int32} {s2 : Int32} {rf : Option Value} {hf : Hp} {x : ((Int32 × Hp) ⊕ (Int32 × Hp))} (hs : fX12_laysMeeting_48 h x0 x1 x2 s0 s1 s2 = some x) (hk : (Kx (pX12_laysMeeting_7 d x0 x1 rf hf) (kX12_laysMeeting rf hf)) x) : Go d mX12_laysMeeting 48 [some (.ref x0), some (.int x1), some (.int x2)] [.int s2, .int s1, .ref s0] h rf hf := by
  unfold fX12_laysMeeting_48 at hs
  obtain ⟨h13, eh13, hs⟩ := bindS hs
  refine go_wIi eh13 dX12_laysMeeting_48 ?_
  refine go_iinc (L' := [some (.ref x0), some (.int x1), some (.int (x2 + Int32.ofInt 1))]) rfl (by decide) rfl rfl dX12_laysMeeting_49 ?_
  refine go_goto (tgt := 7) (by decide) dX12_laysMeeting_52 ?_
  obtain rfl := Option.some.inj hs
  exact go_subL (L' := [some (.ref x0), some (.int x1), some (.int (x2 + Int32.ofInt 1))]) (by simp [subL, va_rf]) hk
noncomputable def fX12_laysMeeting_7b (h : Hp) (x0 : Nat) (x1 : Int32) (x2 : Int32) : Option ((Int32 × Hp) ⊕ (Int32 × Hp)) :=
  (gI h 12 x0 33).bind fun v3 =>
  if v3 ≤ x2 then (
    gO h 12 x0 (
    (fX12_laysFar h x0).bind fun y4 =>
    some (.inr (y4.1, y4.2)))) else (
    (gN h 12 x0 31).bind fun v6 =>
    (gN h 12 x0 29).bind fun v7 =>
    (aI 0 h v7 x2).bind fun v8 =>
    (gN h 12 x0 29).bind fun v9 =>
    (aI 0 h v9 x2).bind fun v10 =>
    gO h 12 x0 (
    (fX12_metIn h x0 v10).bind fun y11 =>
    if (y11 &&& x1) = x1 then (
      fX12_laysMeeting_48 h x0 x1 x2 v6 v8 (0 : Int32)) else (
      fX12_laysMeeting_48 h x0 x1 x2 v6 v8 (268435456 : Int32))))
noncomputable def fX12_laysMeeting_7 (h : Hp) (x0 : Nat) (x1 : Int32) (x2 : Int32) : Option (Int32 × Hp) := lpw (σ := (Int32 × Hp)) (fun s => fX12_laysMeeting_7b s.2 x0 x1 s.1) (x2, h)
theorem oX12_laysMeeting_7b {d : Nat} (hd : 5 ≤ d) {h : Hp} {x0 : Nat} {x1 : Int32} {x2 : Int32} {rf : Option Value} {hf : Hp} {x : ((Int32 × Hp) ⊕ (Int32 × Hp))} (hs : fX12_laysMeeting_7b h x0 x1 x2 = some x) (hk : (Kx (pX12_laysMeeting_7 d x0 x1 rf hf) (kX12_laysMeeting rf hf)) x) : Go d mX12_laysMeeting 7 [some (.ref x0), some (.int x1), some (.int x2)] [] h rf hf := by
  unfold fX12_laysMeeting_7b at hs
  refine go_iload_n (k4 := 2) rfl dX12_laysMeeting_7 ?_
  refine go_aload_n (k4 := 0) rfl (Or.inr ⟨_, rfl⟩) dX12_laysMeeting_8 ?_
  obtain ⟨v3, ev3, hs⟩ := bindS hs
  refine go_gI fl_RX12_384 ev3 dX12_laysMeeting_9 ?_
  refine go_icmp_ge (tgt := 55) (by decide) dX12_laysMeeting_12 (fun c => ?_) (fun c => ?_)
  · have hs := if_t c hs
    refine go_aload_n (k4 := 0) rfl (Or.inr ⟨_, rfl⟩) dX12_laysMeeting_55 ?_
    obtain ⟨g5, hs⟩ := gO_at hs
    obtain ⟨y4, ey4, hs⟩ := bindS hs
    refine go_V1 (As := []) (st := []) g5 rfl rfl (oX12_laysFar (d := d - 1) (by omega) ey4) (by omega) mb_X12_laysFar lm_RX12_398 mi_X12_laysFar (Nat.le_of_ble_eq_true rfl) rfl dX12_laysMeeting_56 ?_
    obtain rfl := Option.some.inj hs
    obtain ⟨rfl, rfl⟩ := hk
    exact go_iret rfl dX12_laysMeeting_59
  · have hs := if_f c hs
    refine go_aload_n (k4 := 0) rfl (Or.inr ⟨_, rfl⟩) dX12_laysMeeting_15 ?_
    obtain ⟨v6, ev6, hs⟩ := bindS hs
    refine go_gN fl_RX12_61 ev6 dX12_laysMeeting_16 ?_
    refine go_aload_n (k4 := 0) rfl (Or.inr ⟨_, rfl⟩) dX12_laysMeeting_19 ?_
    obtain ⟨v7, ev7, hs⟩ := bindS hs
    refine go_gN fl_RX12_54 ev7 dX12_laysMeeting_20 ?_
    refine go_iload_n (k4 := 2) rfl dX12_laysMeeting_23 ?_
    obtain ⟨v8, ev8, hs⟩ := bindS hs
    refine go_aIi ev8 dX12_laysMeeting_24 ?_
    refine go_aload_n (k4 := 0) rfl (Or.inr ⟨_, rfl⟩) dX12_laysMeeting_25 ?_
    refine go_at 26 rfl ?_
    refine go_aload_n (k4 := 0) rfl (Or.inr ⟨_, rfl⟩) dX12_laysMeeting_26 ?_
    obtain ⟨v9, ev9, hs⟩ := bindS hs
    refine go_gN fl_RX12_54 ev9 dX12_laysMeeting_27 ?_
    refine go_iload_n (k4 := 2) rfl dX12_laysMeeting_30 ?_
    obtain ⟨v10, ev10, hs⟩ := bindS hs
    refine go_aIi ev10 dX12_laysMeeting_31 ?_
    obtain ⟨g12, hs⟩ := gO_at hs
    obtain ⟨y11, ey11, hs⟩ := bindS hs
    refine go_V1 (As := [.int v10]) (st := [.int v8, .ref v6]) g12 rfl rfl (oX12_metIn (d := d - 1) (by omega) ey11) (by omega) mb_X12_metIn lm_RX12_233 mi_X12_metIn (Nat.le_of_ble_eq_true rfl) rfl dX12_laysMeeting_32 ?_
    refine go_iload_n (k4 := 1) rfl dX12_laysMeeting_35 ?_
    refine go_iand dX12_laysMeeting_36 ?_
    refine go_iload_n (k4 := 1) rfl dX12_laysMeeting_37 ?_
    refine go_at 38 rfl ?_
    refine go_icmp_ne (tgt := 45) (by decide) dX12_laysMeeting_38 (fun c => ?_) (fun c => ?_)
    · have hs := if_f c hs
      refine go_ldcw lc_RX12_390 dX12_laysMeeting_45 ?_
      exact go_subL (L' := [some (.ref x0), some (.int x1), some (.int x2)]) (by simp [subL, va_rf]) (oX12_laysMeeting_48 hd hs hk)
    · have hs := if_t c hs
      refine go_iconst (v := 0) (by decide) dX12_laysMeeting_41 ?_
      refine go_goto (tgt := 48) (by decide) dX12_laysMeeting_42 ?_
      exact go_subL (L' := [some (.ref x0), some (.int x1), some (.int x2)]) (by simp [subL, va_rf]) (oX12_laysMeeting_48 hd hs hk)
theorem oX12_laysMeeting_7 {d : Nat} (hd : 5 ≤ d) {h : Hp} {x0 : Nat} {x1 : Int32} {x2 : Int32} {rf : Option Value} {hf : Hp} {x : (Int32 × Hp)} (hs : fX12_laysMeeting_7 h x0 x1 x2 = some x) (hk : (kX12_laysMeeting rf hf) x) : Go d mX12_laysMeeting 7 [some (.ref x0), some (.int x1), some (.int x2)] [] h rf hf := by
  unfold fX12_laysMeeting_7 at hs
  exact lpw_go (P := pX12_laysMeeting_7 d x0 x1 rf hf) (fun s x hs hk => oX12_laysMeeting_7b hd hs hk) (x2, h) x hs hk
noncomputable def fX12_laysMeeting (h : Hp) (x0 : Nat) (x1 : Int32) : Option (Int32 × Hp) :=
  gO h 12 x0 (
  (fX12_laysStands h x0 (0 : Int32)).bind fun y1 =>
  fX12_laysMeeting_7 y1 x0 x1 (0 : Int32))
theorem oX12_laysMeeting_0 {d : Nat} (hd : 5 ≤ d) {h : Hp} {x0 : Nat} {x1 : Int32} {rf : Option Value} {hf : Hp} {x : (Int32 × Hp)} (hs : fX12_laysMeeting h x0 x1 = some x) (hk : (kX12_laysMeeting rf hf) x) : Go d mX12_laysMeeting 0 [some (.ref x0), some (.int x1), none] [] h rf hf := by
  unfold fX12_laysMeeting at hs
  refine go_aload_n (k4 := 0) rfl (Or.inr ⟨_, rfl⟩) dX12_laysMeeting_0 ?_
  refine go_iconst (v := 0) (by decide) dX12_laysMeeting_1 ?_
  obtain ⟨g2, hs⟩ := gO_at hs
  obtain ⟨y1, ey1, hs⟩ := bindS hs
  refine go_V0 (As := [.int (0 : Int32)]) (st := []) g2 rfl rfl (oX12_laysStands (d := d - 1) (by omega) ey1) (by omega) mb_X12_laysStands lm_RX12_394 mi_X12_laysStands (Nat.le_of_ble_eq_true rfl) rfl dX12_laysMeeting_2 ?_
  refine go_iconst (v := 0) (by decide) dX12_laysMeeting_5 ?_
  refine go_istore_n (k4 := 2) (L' := [some (.ref x0), some (.int x1), some (.int (0 : Int32))]) (by decide) rfl dX12_laysMeeting_6 ?_
  exact go_subL (L' := [some (.ref x0), some (.int x1), some (.int (0 : Int32))]) (by simp [subL, va_rf]) (oX12_laysMeeting_7 hd hs hk)
theorem oX12_laysMeeting {d : Nat} (hd : 5 ≤ d) {h : Hp} {x0 : Nat} {x1 : Int32} {y : (Int32 × Hp)} (hs : fX12_laysMeeting h x0 x1 = some y) : Call d mX12_laysMeeting [.ref x0, .int x1] h (some (.int y.1)) (y.2) := call_of (by decide +kernel) (Nat.le_of_ble_eq_true rfl) (show Go d mX12_laysMeeting 0 [some (.ref x0), some (.int x1), none] [] h _ _ from go_subL (by simp [subL]) (oX12_laysMeeting_0 hd hs ⟨rfl, rfl⟩))
abbrev kX12_toldFar (h : Hp) (rf : Option Value) (hf : Hp) : Int32 → Prop := fun y => rf = some (.int y) ∧ hf = h
noncomputable def fX12_toldFar_12 (h : Hp) (s0 : Int32) : Option Int32 :=
  some (s0)
theorem oX12_toldFar_12 {d : Nat} (hd : 0 ≤ d) {h : Hp} {s0 : Int32} {rf : Option Value} {hf : Hp} {x : Int32} (hs : fX12_toldFar_12 h s0 = some x) (hk : (kX12_toldFar h rf hf) x) : Go d mX12_toldFar 12 [none] [.int s0] h rf hf := by
  unfold fX12_toldFar_12 at hs
  obtain rfl := Option.some.inj hs
  obtain ⟨rfl, rfl⟩ := hk
  exact go_iret rfl dX12_toldFar_12
noncomputable def fX12_toldFar (h : Hp) (x0 : Int32) : Option Int32 :=
  if x0 = (268435456 : Int32) then (
    fX12_toldFar_12 h (-1 : Int32)) else (
    fX12_toldFar_12 h x0)
theorem oX12_toldFar_0 {d : Nat} (hd : 0 ≤ d) {h : Hp} {x0 : Int32} {rf : Option Value} {hf : Hp} {x : Int32} (hs : fX12_toldFar h x0 = some x) (hk : (kX12_toldFar h rf hf) x) : Go d mX12_toldFar 0 [some (.int x0)] [] h rf hf := by
  unfold fX12_toldFar at hs
  refine go_iload_n (k4 := 0) rfl dX12_toldFar_0 ?_
  refine go_ldcw lc_RX12_390 dX12_toldFar_1 ?_
  refine go_icmp_ne (tgt := 11) (by decide) dX12_toldFar_4 (fun c => ?_) (fun c => ?_)
  · have hs := if_f c hs
    refine go_iload_n (k4 := 0) rfl dX12_toldFar_11 ?_
    exact go_subL (L' := [none]) (by simp [subL, va_rf]) (oX12_toldFar_12 hd hs hk)
  · have hs := if_t c hs
    refine go_iconst (v := -1) (by decide) dX12_toldFar_7 ?_
    refine go_goto (tgt := 12) (by decide) dX12_toldFar_8 ?_
    exact go_subL (L' := [none]) (by simp [subL, va_rf]) (oX12_toldFar_12 hd hs hk)
theorem oX12_toldFar {d : Nat} (hd : 0 ≤ d) {h : Hp} {x0 : Int32} {y : Int32} (hs : fX12_toldFar h x0 = some y) : Call d mX12_toldFar [.int x0] h (some (.int y)) h := call_of (by decide +kernel) (Nat.le_of_ble_eq_true rfl) (show Go d mX12_toldFar 0 [some (.int x0)] [] h _ _ from go_subL (by simp [subL]) (oX12_toldFar_0 hd hs ⟨rfl, rfl⟩))
abbrev kX12_soonest (rf : Option Value) (hf : Hp) : (Int32 × Hp) → Prop := fun y => rf = some (.int y.1) ∧ hf = y.2
noncomputable def fX12_soonest_26 (h : Hp) (s0 : Int32) : Option (Int32 × Hp) :=
  some ((s0, h))
theorem oX12_soonest_26 {d : Nat} (hd : 6 ≤ d) {h : Hp} {s0 : Int32} {rf : Option Value} {hf : Hp} {x : (Int32 × Hp)} (hs : fX12_soonest_26 h s0 = some x) (hk : (kX12_soonest rf hf) x) : Go d mX12_soonest 26 [none, none] [.int s0] h rf hf := by
  unfold fX12_soonest_26 at hs
  obtain rfl := Option.some.inj hs
  obtain ⟨rfl, rfl⟩ := hk
  exact go_iret rfl dX12_soonest_26
noncomputable def fX12_soonest (h : Hp) (x0 : Nat) (x1 : Int32) : Option (Int32 × Hp) :=
  (sV h 12 x0 0 (.int (0 : Int32))).bind fun h1 =>
  gO h1 12 x0 (
  (fX12_isSet h1 x0 x1).bind fun y2 =>
  if y2 = 0 then (
    fX12_soonest_26 h1 (-3 : Int32)) else (
    gO h1 12 x0 (
    (fX12_laysMeeting h1 x0 x1).bind fun y4 =>
    (fX12_toldFar y4.2 y4.1).bind fun y6 =>
    fX12_soonest_26 y4.2 y6)))
theorem oX12_soonest_0 {d : Nat} (hd : 6 ≤ d) {h : Hp} {x0 : Nat} {x1 : Int32} {rf : Option Value} {hf : Hp} {x : (Int32 × Hp)} (hs : fX12_soonest h x0 x1 = some x) (hk : (kX12_soonest rf hf) x) : Go d mX12_soonest 0 [some (.ref x0), some (.int x1)] [] h rf hf := by
  unfold fX12_soonest at hs
  refine go_aload_n (k4 := 0) rfl (Or.inr ⟨_, rfl⟩) dX12_soonest_0 ?_
  refine go_iconst (v := 0) (by decide) dX12_soonest_1 ?_
  obtain ⟨h1, eh1, hs⟩ := bindS hs
  refine go_sV fw_RX12_1 eh1 rfl rfl dX12_soonest_2 ?_
  refine go_aload_n (k4 := 0) rfl (Or.inr ⟨_, rfl⟩) dX12_soonest_5 ?_
  refine go_iload_n (k4 := 1) rfl dX12_soonest_6 ?_
  obtain ⟨g3, hs⟩ := gO_at hs
  obtain ⟨y2, ey2, hs⟩ := bindS hs
  refine go_V1 (As := [.int x1]) (st := []) g3 rfl rfl (oX12_isSet (d := d - 1) (by omega) ey2) (by omega) mb_X12_isSet lm_RX12_401 mi_X12_isSet (Nat.le_of_ble_eq_true rfl) rfl dX12_soonest_7 ?_
  refine go_if_eq (tgt := 24) (by decide) dX12_soonest_10 (fun c => ?_) (fun c => ?_)
  · have hs := if_t c hs
    refine go_bipush (v := -3) (by decide) dX12_soonest_24 ?_
    exact go_subL (L' := [none, none]) (by simp [subL, va_rf]) (oX12_soonest_26 hd hs hk)
  · have hs := if_f c hs
    refine go_aload_n (k4 := 0) rfl (Or.inr ⟨_, rfl⟩) dX12_soonest_13 ?_
    refine go_iload_n (k4 := 1) rfl dX12_soonest_14 ?_
    obtain ⟨g5, hs⟩ := gO_at hs
    obtain ⟨y4, ey4, hs⟩ := bindS hs
    refine go_V1 (As := [.int x1]) (st := []) g5 rfl rfl (oX12_laysMeeting (d := d - 1) (by omega) ey4) (by omega) mb_X12_laysMeeting lm_RX12_404 mi_X12_laysMeeting (Nat.le_of_ble_eq_true rfl) rfl dX12_soonest_15 ?_
    obtain ⟨y6, ey6, hs⟩ := bindS hs
    refine go_S1 (As := [.int y4.1]) (st := []) (oX12_toldFar (d := d - 1) (by omega) ey6) (by omega) mb_X12_toldFar lm_RX12_407 ms_X12_toldFar (Nat.le_of_ble_eq_true rfl) rfl dX12_soonest_18 ?_
    refine go_goto (tgt := 26) (by decide) dX12_soonest_21 ?_
    exact go_subL (L' := [none, none]) (by simp [subL, va_rf]) (oX12_soonest_26 hd hs hk)
theorem oX12_soonest {d : Nat} (hd : 6 ≤ d) {h : Hp} {x0 : Nat} {x1 : Int32} {y : (Int32 × Hp)} (hs : fX12_soonest h x0 x1 = some y) : Call d mX12_soonest [.ref x0, .int x1] h (some (.int y.1)) (y.2) := call_of (by decide +kernel) (Nat.le_of_ble_eq_true rfl) (show Go d mX12_soonest 0 [some (.ref x0), some (.int x1)] [] h _ _ from go_subL (by simp [subL]) (oX12_soonest_0 hd hs ⟨rfl, rfl⟩))
abbrev kX12_way (rf : Option Value) (hf : Hp) : (Int32 × Hp) → Prop := fun y => rf = some (.int y.1) ∧ hf = y.2
noncomputable def fX12_way_17 (h : Hp)  : Option (Int32 × Hp) :=
  some (((-3 : Int32), h))
theorem oX12_way_17 {d : Nat} (hd : 6 ≤ d) {h : Hp} {rf : Option Value} {hf : Hp} {x : (Int32 × Hp)} (hs : fX12_way_17 h  = some x) (hk : (kX12_way rf hf) x) : Go d mX12_way 17 [none, none, none, none, none, none, none] [] h rf hf := by
  unfold fX12_way_17 at hs
  refine go_bipush (v := -3) (by decide) dX12_way_17 ?_
  obtain rfl := Option.some.inj hs
  obtain ⟨rfl, rfl⟩ := hk
  exact go_iret rfl dX12_way_19
noncomputable def fX12_way_38 (h : Hp)  : Option (Int32 × Hp) :=
  some (((-1 : Int32), h))
theorem oX12_way_38 {d : Nat} (hd : 6 ≤ d) {h : Hp} {rf : Option Value} {hf : Hp} {x : (Int32 × Hp)} (hs : fX12_way_38 h  = some x) (hk : (kX12_way rf hf) x) : Go d mX12_way 38 [none, none, none, none, none, none, none] [] h rf hf := by
  unfold fX12_way_38 at hs
  refine go_iconst (v := -1) (by decide) dX12_way_38 ?_
  obtain rfl := Option.some.inj hs
  obtain ⟨rfl, rfl⟩ := hk
  exact go_iret rfl dX12_way_39
abbrev pX12_way_49 (d : Nat) (h : Hp) (x0 : Nat) (x2 : Int32) (x3 : Int32) (rf : Option Value) (hf : Hp) : (Int32 × Int32) → Prop := fun s => Go d mX12_way 49 [some (.ref x0), none, some (.int x2), some (.int x3), some (.int s.1), some (.int s.2), none] [] h rf hf
abbrev pX12_way_52 (d : Nat) (h : Hp) (x0 : Nat) (x2 : Int32) (x3 : Int32) (x4 : Int32) (x5 : Int32) (rf : Option Value) (hf : Hp) : Int32 → Prop := fun s => Go d mX12_way 52 [some (.ref x0), none, some (.int x2), some (.int x3), some (.int x4), some (.int x5), some (.int s)] [] h rf hf
noncomputable def fX12_way_85 (h : Hp) (x0 : Nat) (x2 : Int32) (x3 : Int32) (x4 : Int32) (x5 : Int32) (x6 : Int32) : Option ((Int32 × Int32) ⊕ (Int32 × Hp)) :=
  if x5 = x2 then (
    (gN h 12 x0 20).bind fun v14 =>
    (aI 0 h v14 x6).bind fun v15 =>
    some (.inr (v15, h))) else (
    (gN h 12 x0 30).bind fun v12 =>
    (aI 0 h v12 (((35 : Int32) * x4) + x6)).bind fun v13 =>
    some (.inl (v13, (x5 + Int32.ofInt 1))))
theorem oX12_way_85 {d : Nat} (hd : 6 ≤ d) {h : Hp} {x0 : Nat} {x2 : Int32} {x3 : Int32} {x4 : Int32} {x5 : Int32} {x6 : Int32} {rf : Option Value} {hf : Hp} {x : ((Int32 × Int32) ⊕ (Int32 × Hp))} (hs : fX12_way_85 h x0 x2 x3 x4 x5 x6 = some x) (hk : (Kx (pX12_way_49 d h x0 x2 x3 rf hf) (kX12_way rf hf)) x) : Go d mX12_way 85 [some (.ref x0), none, some (.int x2), some (.int x3), some (.int x4), some (.int x5), some (.int x6)] [] h rf hf := by
  unfold fX12_way_85 at hs
  refine go_iload rfl dX12_way_85 ?_
  refine go_iload_n (k4 := 2) rfl dX12_way_87 ?_
  refine go_icmp_ne (tgt := 99) (by decide) dX12_way_88 (fun c => ?_) (fun c => ?_)
  · have hs := if_f c hs
    refine go_aload_n (k4 := 0) rfl (Or.inr ⟨_, rfl⟩) dX12_way_99 ?_
    obtain ⟨v12, ev12, hs⟩ := bindS hs
    refine go_gN fl_RX12_58 ev12 dX12_way_100 ?_
    refine go_bipush (v := 35) (by decide) dX12_way_103 ?_
    refine go_iload rfl dX12_way_105 ?_
    refine go_imul dX12_way_107 ?_
    refine go_iload rfl dX12_way_108 ?_
    refine go_iadd dX12_way_110 ?_
    refine go_at 111 rfl ?_
    obtain ⟨v13, ev13, hs⟩ := bindS hs
    refine go_aIi ev13 dX12_way_111 ?_
    refine go_istore (L' := [some (.ref x0), none, some (.int x2), some (.int x3), some (.int v13), some (.int x5), some (.int x6)]) (by decide) rfl dX12_way_112 ?_
    refine go_iinc (L' := [some (.ref x0), none, some (.int x2), some (.int x3), some (.int v13), some (.int (x5 + Int32.ofInt 1)), some (.int x6)]) rfl (by decide) rfl rfl dX12_way_114 ?_
    refine go_goto (tgt := 49) (by decide) dX12_way_117 ?_
    obtain rfl := Option.some.inj hs
    exact go_subL (L' := [some (.ref x0), none, some (.int x2), some (.int x3), some (.int v13), some (.int (x5 + Int32.ofInt 1)), none]) (by simp [subL, va_rf]) hk
  · have hs := if_t c hs
    refine go_aload_n (k4 := 0) rfl (Or.inr ⟨_, rfl⟩) dX12_way_91 ?_
    obtain ⟨v14, ev14, hs⟩ := bindS hs
    refine go_gN fl_RX12_42 ev14 dX12_way_92 ?_
    refine go_iload rfl dX12_way_95 ?_
    obtain ⟨v15, ev15, hs⟩ := bindS hs
    refine go_aIi ev15 dX12_way_97 ?_
    obtain rfl := Option.some.inj hs
    obtain ⟨rfl, rfl⟩ := hk
    exact go_iret rfl dX12_way_98
noncomputable def fX12_way_52b (h : Hp) (x0 : Nat) (x2 : Int32) (x3 : Int32) (x4 : Int32) (x5 : Int32) (x6 : Int32) : Option (Int32 ⊕ ((Int32 × Int32) ⊕ (Int32 × Hp))) :=
  (gN h 12 x0 31).bind fun v8 =>
  (gN h 12 x0 30).bind fun v9 =>
  (aI 0 h v9 (((35 : Int32) * x4) + x6)).bind fun v10 =>
  (aI 0 h v8 v10).bind fun v11 =>
  if v11 = ((x3 - x5) - (1 : Int32)) then (
  (fX12_way_85 h x0 x2 x3 x4 x5 x6).map (fun q => .inr q)) else (
    some (.inl (x6 + Int32.ofInt 1)))
noncomputable def fX12_way_52 (h : Hp) (x0 : Nat) (x2 : Int32) (x3 : Int32) (x4 : Int32) (x5 : Int32) (x6 : Int32) : Option ((Int32 × Int32) ⊕ (Int32 × Hp)) := lpw (σ := Int32) (fun s => fX12_way_52b h x0 x2 x3 x4 x5 s) x6
theorem oX12_way_52b {d : Nat} (hd : 6 ≤ d) {h : Hp} {x0 : Nat} {x2 : Int32} {x3 : Int32} {x4 : Int32} {x5 : Int32} {x6 : Int32} {rf : Option Value} {hf : Hp} {x : (Int32 ⊕ ((Int32 × Int32) ⊕ (Int32 × Hp)))} (hs : fX12_way_52b h x0 x2 x3 x4 x5 x6 = some x) (hk : (Kx (pX12_way_52 d h x0 x2 x3 x4 x5 rf hf) (Kx (pX12_way_49 d h x0 x2 x3 rf hf) (kX12_way rf hf))) x) : Go d mX12_way 52 [some (.ref x0), none, some (.int x2), some (.int x3), some (.int x4), some (.int x5), some (.int x6)] [] h rf hf := by
  unfold fX12_way_52b at hs
  refine go_aload_n (k4 := 0) rfl (Or.inr ⟨_, rfl⟩) dX12_way_52 ?_
  obtain ⟨v8, ev8, hs⟩ := bindS hs
  refine go_gN fl_RX12_61 ev8 dX12_way_53 ?_
  refine go_aload_n (k4 := 0) rfl (Or.inr ⟨_, rfl⟩) dX12_way_56 ?_
  obtain ⟨v9, ev9, hs⟩ := bindS hs
  refine go_gN fl_RX12_58 ev9 dX12_way_57 ?_
  refine go_bipush (v := 35) (by decide) dX12_way_60 ?_
  refine go_iload rfl dX12_way_62 ?_
  refine go_imul dX12_way_64 ?_
  refine go_at 65 rfl ?_
  refine go_iload rfl dX12_way_65 ?_
  refine go_iadd dX12_way_67 ?_
  obtain ⟨v10, ev10, hs⟩ := bindS hs
  refine go_aIi ev10 dX12_way_68 ?_
  obtain ⟨v11, ev11, hs⟩ := bindS hs
  refine go_aIi ev11 dX12_way_69 ?_
  refine go_iload_n (k4 := 3) rfl dX12_way_70 ?_
  refine go_iload rfl dX12_way_71 ?_
  refine go_isub dX12_way_73 ?_
  refine go_iconst (v := 1) (by decide) dX12_way_74 ?_
  refine go_at 75 rfl ?_
  refine go_isub dX12_way_75 ?_
  refine go_icmp_eq (tgt := 85) (by decide) dX12_way_76 (fun c => ?_) (fun c => ?_)
  · have hs := if_t c hs
    obtain ⟨q, hs2, hq⟩ := mapS hs
    clear hs
    subst hq
    exact go_subL (L' := [some (.ref x0), none, some (.int x2), some (.int x3), some (.int x4), some (.int x5), some (.int x6)]) (by simp [subL, va_rf]) (oX12_way_85 hd hs2 hk)
  · have hs := if_f c hs
    refine go_iinc (L' := [some (.ref x0), none, some (.int x2), some (.int x3), some (.int x4), some (.int x5), some (.int (x6 + Int32.ofInt 1))]) rfl (by decide) rfl rfl dX12_way_79 ?_
    refine go_goto (tgt := 52) (by decide) dX12_way_82 ?_
    obtain rfl := Option.some.inj hs
    exact go_subL (L' := [some (.ref x0), none, some (.int x2), some (.int x3), some (.int x4), some (.int x5), some (.int (x6 + Int32.ofInt 1))]) (by simp [subL, va_rf]) hk
theorem oX12_way_52 {d : Nat} (hd : 6 ≤ d) {h : Hp} {x0 : Nat} {x2 : Int32} {x3 : Int32} {x4 : Int32} {x5 : Int32} {x6 : Int32} {rf : Option Value} {hf : Hp} {x : ((Int32 × Int32) ⊕ (Int32 × Hp))} (hs : fX12_way_52 h x0 x2 x3 x4 x5 x6 = some x) (hk : (Kx (pX12_way_49 d h x0 x2 x3 rf hf) (kX12_way rf hf)) x) : Go d mX12_way 52 [some (.ref x0), none, some (.int x2), some (.int x3), some (.int x4), some (.int x5), some (.int x6)] [] h rf hf := by
  unfold fX12_way_52 at hs
  exact lpw_go (P := pX12_way_52 d h x0 x2 x3 x4 x5 rf hf) (fun s x hs hk => oX12_way_52b hd hs hk) x6 x hs hk
noncomputable def fX12_way_49b (h : Hp) (x0 : Nat) (x2 : Int32) (x3 : Int32) (x4 : Int32) (x5 : Int32) : Option ((Int32 × Int32) ⊕ (Int32 × Hp)) :=
  fX12_way_52 h x0 x2 x3 x4 x5 (0 : Int32)
noncomputable def fX12_way_49 (h : Hp) (x0 : Nat) (x2 : Int32) (x3 : Int32) (x4 : Int32) (x5 : Int32) : Option (Int32 × Hp) := lpw (σ := (Int32 × Int32)) (fun s => fX12_way_49b h x0 x2 x3 s.1 s.2) (x4, x5)
theorem oX12_way_49b {d : Nat} (hd : 6 ≤ d) {h : Hp} {x0 : Nat} {x2 : Int32} {x3 : Int32} {x4 : Int32} {x5 : Int32} {rf : Option Value} {hf : Hp} {x : ((Int32 × Int32) ⊕ (Int32 × Hp))} (hs : fX12_way_49b h x0 x2 x3 x4 x5 = some x) (hk : (Kx (pX12_way_49 d h x0 x2 x3 rf hf) (kX12_way rf hf)) x) : Go d mX12_way 49 [some (.ref x0), none, some (.int x2), some (.int x3), some (.int x4), some (.int x5), none] [] h rf hf := by
  unfold fX12_way_49b at hs
  refine go_iconst (v := 0) (by decide) dX12_way_49 ?_
  refine go_istore (L' := [some (.ref x0), none, some (.int x2), some (.int x3), some (.int x4), some (.int x5), some (.int (0 : Int32))]) (by decide) rfl dX12_way_50 ?_
  exact go_subL (L' := [some (.ref x0), none, some (.int x2), some (.int x3), some (.int x4), some (.int x5), some (.int (0 : Int32))]) (by simp [subL, va_rf]) (oX12_way_52 hd hs hk)
theorem oX12_way_49 {d : Nat} (hd : 6 ≤ d) {h : Hp} {x0 : Nat} {x2 : Int32} {x3 : Int32} {x4 : Int32} {x5 : Int32} {rf : Option Value} {hf : Hp} {x : (Int32 × Hp)} (hs : fX12_way_49 h x0 x2 x3 x4 x5 = some x) (hk : (kX12_way rf hf) x) : Go d mX12_way 49 [some (.ref x0), none, some (.int x2), some (.int x3), some (.int x4), some (.int x5), none] [] h rf hf := by
  unfold fX12_way_49 at hs
  exact lpw_go (P := pX12_way_49 d h x0 x2 x3 rf hf) (fun s x hs hk => oX12_way_49b hd hs hk) (x4, x5) x hs hk
noncomputable def fX12_way (h : Hp) (x0 : Nat) (x1 : Int32) (x2 : Int32) : Option (Int32 × Hp) :=
  (sV h 12 x0 0 (.int (0 : Int32))).bind fun h1 =>
  gO h1 12 x0 (
  (fX12_isSet h1 x0 x1).bind fun y2 =>
  if y2 = 0 then (
  fX12_way_17 h1 ) else (
    if 0 ≤ x2 then (
      gO h1 12 x0 (
      (fX12_laysMeeting h1 x0 x1).bind fun y4 =>
      if y4.1 = (268435456 : Int32) then (
      fX12_way_38 y4.2 ) else (
        if x2 < y4.1 then (
          gO y4.2 12 x0 (
          (fX12_standNow y4.2 x0).bind fun y6 =>
          fX12_way_49 y4.2 x0 x2 y4.1 y6 (0 : Int32))) else (
        fX12_way_38 y4.2 )))) else (
    fX12_way_17 h1 )))
theorem oX12_way_0 {d : Nat} (hd : 6 ≤ d) {h : Hp} {x0 : Nat} {x1 : Int32} {x2 : Int32} {rf : Option Value} {hf : Hp} {x : (Int32 × Hp)} (hs : fX12_way h x0 x1 x2 = some x) (hk : (kX12_way rf hf) x) : Go d mX12_way 0 [some (.ref x0), some (.int x1), some (.int x2), none, none, none, none] [] h rf hf := by
  unfold fX12_way at hs
  refine go_aload_n (k4 := 0) rfl (Or.inr ⟨_, rfl⟩) dX12_way_0 ?_
  refine go_iconst (v := 0) (by decide) dX12_way_1 ?_
  obtain ⟨h1, eh1, hs⟩ := bindS hs
  refine go_sV fw_RX12_1 eh1 rfl rfl dX12_way_2 ?_
  refine go_aload_n (k4 := 0) rfl (Or.inr ⟨_, rfl⟩) dX12_way_5 ?_
  refine go_iload_n (k4 := 1) rfl dX12_way_6 ?_
  obtain ⟨g3, hs⟩ := gO_at hs
  obtain ⟨y2, ey2, hs⟩ := bindS hs
  refine go_V1 (As := [.int x1]) (st := []) g3 rfl rfl (oX12_isSet (d := d - 1) (by omega) ey2) (by omega) mb_X12_isSet lm_RX12_401 mi_X12_isSet (Nat.le_of_ble_eq_true rfl) rfl dX12_way_7 ?_
  refine go_if_eq (tgt := 17) (by decide) dX12_way_10 (fun c => ?_) (fun c => ?_)
  · have hs := if_t c hs
    exact go_subL (L' := [none, none, none, none, none, none, none]) (by simp [subL, va_rf]) (oX12_way_17 hd hs hk)
  · have hs := if_f c hs
    refine go_iload_n (k4 := 2) rfl dX12_way_13 ?_
    refine go_if_ge (tgt := 20) (by decide) dX12_way_14 (fun c => ?_) (fun c => ?_)
    · have hs := if_t c hs
      refine go_aload_n (k4 := 0) rfl (Or.inr ⟨_, rfl⟩) dX12_way_20 ?_
      refine go_iload_n (k4 := 1) rfl dX12_way_21 ?_
      obtain ⟨g5, hs⟩ := gO_at hs
      obtain ⟨y4, ey4, hs⟩ := bindS hs
      refine go_V1 (As := [.int x1]) (st := []) g5 rfl rfl (oX12_laysMeeting (d := d - 1) (by omega) ey4) (by omega) mb_X12_laysMeeting lm_RX12_404 mi_X12_laysMeeting (Nat.le_of_ble_eq_true rfl) rfl dX12_way_22 ?_
      refine go_istore_n (k4 := 3) (L' := [some (.ref x0), some (.int x1), some (.int x2), some (.int y4.1), none, none, none]) (by decide) rfl dX12_way_25 ?_
      refine go_iload_n (k4 := 3) rfl dX12_way_26 ?_
      refine go_ldcw lc_RX12_390 dX12_way_27 ?_
      refine go_icmp_eq (tgt := 38) (by decide) dX12_way_30 (fun c => ?_) (fun c => ?_)
      · have hs := if_t c hs
        exact go_subL (L' := [none, none, none, none, none, none, none]) (by simp [subL, va_rf]) (oX12_way_38 hd hs hk)
      · have hs := if_f c hs
        refine go_iload_n (k4 := 2) rfl dX12_way_33 ?_
        refine go_iload_n (k4 := 3) rfl dX12_way_34 ?_
        refine go_icmp_lt (tgt := 40) (by decide) dX12_way_35 (fun c => ?_) (fun c => ?_)
        · have hs := if_t c hs
          refine go_aload_n (k4 := 0) rfl (Or.inr ⟨_, rfl⟩) dX12_way_40 ?_
          obtain ⟨g7, hs⟩ := gO_at hs
          obtain ⟨y6, ey6, hs⟩ := bindS hs
          refine go_V1 (As := []) (st := []) g7 rfl rfl (oX12_standNow (d := d - 1) (by omega) ey6) (by omega) mb_X12_standNow lm_RX12_282 mi_X12_standNow (Nat.le_of_ble_eq_true rfl) rfl dX12_way_41 ?_
          refine go_istore (L' := [some (.ref x0), some (.int x1), some (.int x2), some (.int y4.1), some (.int y6), none, none]) (by decide) rfl dX12_way_44 ?_
          refine go_iconst (v := 0) (by decide) dX12_way_46 ?_
          refine go_istore (L' := [some (.ref x0), some (.int x1), some (.int x2), some (.int y4.1), some (.int y6), some (.int (0 : Int32)), none]) (by decide) rfl dX12_way_47 ?_
          exact go_subL (L' := [some (.ref x0), none, some (.int x2), some (.int y4.1), some (.int y6), some (.int (0 : Int32)), none]) (by simp [subL, va_rf]) (oX12_way_49 hd hs hk)
        · have hs := if_f c hs
          exact go_subL (L' := [none, none, none, none, none, none, none]) (by simp [subL, va_rf]) (oX12_way_38 hd hs hk)
    · have hs := if_f c hs
      exact go_subL (L' := [none, none, none, none, none, none, none]) (by simp [subL, va_rf]) (oX12_way_17 hd hs hk)
theorem oX12_way {d : Nat} (hd : 6 ≤ d) {h : Hp} {x0 : Nat} {x1 : Int32} {x2 : Int32} {y : (Int32 × Hp)} (hs : fX12_way h x0 x1 x2 = some y) : Call d mX12_way [.ref x0, .int x1, .int x2] h (some (.int y.1)) (y.2) := call_of (by decide +kernel) (Nat.le_of_ble_eq_true rfl) (show Go d mX12_way 0 [some (.ref x0), some (.int x1), some (.int x2), none, none, none, none] [] h _ _ from go_subL (by simp [subL]) (oX12_way_0 hd hs ⟨rfl, rfl⟩))
abbrev kX12_beginsMany (rf : Option Value) (hf : Hp) : Hp → Prop := fun y => rf = none ∧ hf = y
abbrev pX12_beginsMany_2 (d : Nat) (x0 : Nat) (rf : Option Value) (hf : Hp) : (Int32 × Hp) → Prop := fun s => Go d mX12_beginsMany 2 [some (.ref x0), some (.int s.1)] [] s.2 rf hf
noncomputable def fX12_beginsMany_27 (h : Hp) (x0 : Nat) (x1 : Int32) (s0 : Nat) (s1 : Int32) (s2 : Int64) : Option ((Int32 × Hp) ⊕ Hp) :=
  (wJ h s0 s1 s2).bind fun h4 =>
  (gN h4 12 x0 35).bind fun v5 =>
  (wJ h4 v5 x1 (0 : Int64)).bind fun h6 =>
  some (.inl ((x1 + Int32.ofInt 1), h6))
theorem oX12_beginsMany_27 {d : Nat} (hd : 1 ≤ d) {h : Hp} {x0 : Nat} {x1 : Int32} {s0 : Nat} {s1 : Int32} {s2 : Int64} {rf : Option Value} {hf : Hp} {x : ((Int32 × Hp) ⊕ Hp)} (hs : fX12_beginsMany_27 h x0 x1 s0 s1 s2 = some x) (hk : (Kx (pX12_beginsMany_2 d x0 rf hf) (kX12_beginsMany rf hf)) x) : Go d mX12_beginsMany 27 [some (.ref x0), some (.int x1)] [.long s2, .int s1, .ref s0] h rf hf := by
  unfold fX12_beginsMany_27 at hs
  obtain ⟨h4, eh4, hs⟩ := bindS hs
  refine go_wJ eh4 dX12_beginsMany_27 ?_
  refine go_aload_n (k4 := 0) rfl (Or.inr ⟨_, rfl⟩) dX12_beginsMany_28 ?_
  obtain ⟨v5, ev5, hs⟩ := bindS hs
  refine go_gN fl_RX12_71 ev5 dX12_beginsMany_29 ?_
  refine go_iload_n (k4 := 1) rfl dX12_beginsMany_32 ?_
  refine go_lconst (v := 0) (by decide) dX12_beginsMany_33 ?_
  obtain ⟨h6, eh6, hs⟩ := bindS hs
  refine go_wJ eh6 dX12_beginsMany_34 ?_
  refine go_iinc (L' := [some (.ref x0), some (.int (x1 + Int32.ofInt 1))]) rfl (by decide) rfl rfl dX12_beginsMany_35 ?_
  refine go_at 38 rfl ?_
  refine go_goto (tgt := 2) (by decide) dX12_beginsMany_38 ?_
  obtain rfl := Option.some.inj hs
  exact go_subL (L' := [some (.ref x0), some (.int (x1 + Int32.ofInt 1))]) (by simp [subL, va_rf]) hk
noncomputable def fX12_beginsMany_2b (h : Hp) (x0 : Nat) (x1 : Int32) : Option ((Int32 × Hp) ⊕ Hp) :=
  if (20000 : Int32) ≤ x1 then (
    some (.inr h)) else (
    (gN h 12 x0 34).bind fun v1 =>
    gO h 12 x0 (
    (fX12_standNow h x0).bind fun y2 =>
    if x1 = y2 then (
      fX12_beginsMany_27 h x0 x1 v1 x1 (1 : Int64)) else (
      fX12_beginsMany_27 h x0 x1 v1 x1 (0 : Int64))))
noncomputable def fX12_beginsMany_2 (h : Hp) (x0 : Nat) (x1 : Int32) : Option Hp := lpw (σ := (Int32 × Hp)) (fun s => fX12_beginsMany_2b s.2 x0 s.1) (x1, h)
theorem oX12_beginsMany_2b {d : Nat} (hd : 1 ≤ d) {h : Hp} {x0 : Nat} {x1 : Int32} {rf : Option Value} {hf : Hp} {x : ((Int32 × Hp) ⊕ Hp)} (hs : fX12_beginsMany_2b h x0 x1 = some x) (hk : (Kx (pX12_beginsMany_2 d x0 rf hf) (kX12_beginsMany rf hf)) x) : Go d mX12_beginsMany 2 [some (.ref x0), some (.int x1)] [] h rf hf := by
  unfold fX12_beginsMany_2b at hs
  refine go_iload_n (k4 := 1) rfl dX12_beginsMany_2 ?_
  refine go_sipush (v := 20000) (by decide) dX12_beginsMany_3 ?_
  refine go_icmp_ge (tgt := 41) (by decide) dX12_beginsMany_6 (fun c => ?_) (fun c => ?_)
  · have hs := if_t c hs
    obtain rfl := Option.some.inj hs
    obtain ⟨rfl, rfl⟩ := hk
    exact go_vret rfl dX12_beginsMany_41
  · have hs := if_f c hs
    refine go_aload_n (k4 := 0) rfl (Or.inr ⟨_, rfl⟩) dX12_beginsMany_9 ?_
    obtain ⟨v1, ev1, hs⟩ := bindS hs
    refine go_gN fl_RX12_67 ev1 dX12_beginsMany_10 ?_
    refine go_iload_n (k4 := 1) rfl dX12_beginsMany_13 ?_
    refine go_iload_n (k4 := 1) rfl dX12_beginsMany_14 ?_
    refine go_aload_n (k4 := 0) rfl (Or.inr ⟨_, rfl⟩) dX12_beginsMany_15 ?_
    obtain ⟨g3, hs⟩ := gO_at hs
    obtain ⟨y2, ey2, hs⟩ := bindS hs
    refine go_V1 (As := []) (st := [.int x1, .int x1, .ref v1]) g3 rfl rfl (oX12_standNow (d := d - 1) (by omega) ey2) (by omega) mb_X12_standNow lm_RX12_282 mi_X12_standNow (Nat.le_of_ble_eq_true rfl) rfl dX12_beginsMany_16 ?_
    refine go_icmp_ne (tgt := 26) (by decide) dX12_beginsMany_19 (fun c => ?_) (fun c => ?_)
    · have hs := if_f c hs
      refine go_lconst (v := 0) (by decide) dX12_beginsMany_26 ?_
      exact go_subL (L' := [some (.ref x0), some (.int x1)]) (by simp [subL, va_rf]) (oX12_beginsMany_27 hd hs hk)
    · have hs := if_t c hs
      refine go_lconst (v := 1) (by decide) dX12_beginsMany_22 ?_
      refine go_goto (tgt := 27) (by decide) dX12_beginsMany_23 ?_
      exact go_subL (L' := [some (.ref x0), some (.int x1)]) (by simp [subL, va_rf]) (oX12_beginsMany_27 hd hs hk)
theorem oX12_beginsMany_2 {d : Nat} (hd : 1 ≤ d) {h : Hp} {x0 : Nat} {x1 : Int32} {rf : Option Value} {hf : Hp} {x : Hp} (hs : fX12_beginsMany_2 h x0 x1 = some x) (hk : (kX12_beginsMany rf hf) x) : Go d mX12_beginsMany 2 [some (.ref x0), some (.int x1)] [] h rf hf := by
  unfold fX12_beginsMany_2 at hs
  exact lpw_go (P := pX12_beginsMany_2 d x0 rf hf) (fun s x hs hk => oX12_beginsMany_2b hd hs hk) (x1, h) x hs hk
noncomputable def fX12_beginsMany (h : Hp) (x0 : Nat) : Option Hp :=
  fX12_beginsMany_2 h x0 (0 : Int32)
theorem oX12_beginsMany_0 {d : Nat} (hd : 1 ≤ d) {h : Hp} {x0 : Nat} {rf : Option Value} {hf : Hp} {x : Hp} (hs : fX12_beginsMany h x0 = some x) (hk : (kX12_beginsMany rf hf) x) : Go d mX12_beginsMany 0 [some (.ref x0), none] [] h rf hf := by
  unfold fX12_beginsMany at hs
  refine go_iconst (v := 0) (by decide) dX12_beginsMany_0 ?_
  refine go_istore_n (k4 := 1) (L' := [some (.ref x0), some (.int (0 : Int32))]) (by decide) rfl dX12_beginsMany_1 ?_
  exact go_subL (L' := [some (.ref x0), some (.int (0 : Int32))]) (by simp [subL, va_rf]) (oX12_beginsMany_2 hd hs hk)
theorem oX12_beginsMany {d : Nat} (hd : 1 ≤ d) {h : Hp} {x0 : Nat} {y : Hp} (hs : fX12_beginsMany h x0 = some y) : Call d mX12_beginsMany [.ref x0] h (none) y := call_of (by decide +kernel) (Nat.le_of_ble_eq_true rfl) (show Go d mX12_beginsMany 0 [some (.ref x0), none] [] h _ _ from go_subL (by simp [subL]) (oX12_beginsMany_0 hd hs ⟨rfl, rfl⟩))
abbrev kX12_isThen (rf : Option Value) (hf : Hp) : Hp → Prop := fun y => rf = none ∧ hf = y
abbrev pX12_isThen_2 (d : Nat) (x0 : Nat) (rf : Option Value) (hf : Hp) : (Int32 × Hp) → Prop := fun s => Go d mX12_isThen 2 [some (.ref x0), some (.int s.1)] [] s.2 rf hf
noncomputable def fX12_isThen_2b (h : Hp) (x0 : Nat) (x1 : Int32) : Option ((Int32 × Hp) ⊕ Hp) :=
  if (20000 : Int32) ≤ x1 then (
    some (.inr h)) else (
    (gN h 12 x0 34).bind fun v1 =>
    (gN h 12 x0 35).bind fun v2 =>
    (aJ h v2 x1).bind fun v3 =>
    (wJ h v1 x1 v3).bind fun h4 =>
    (gN h4 12 x0 35).bind fun v5 =>
    (wJ h4 v5 x1 (0 : Int64)).bind fun h6 =>
    some (.inl ((x1 + Int32.ofInt 1), h6)))
noncomputable def fX12_isThen_2 (h : Hp) (x0 : Nat) (x1 : Int32) : Option Hp := lpw (σ := (Int32 × Hp)) (fun s => fX12_isThen_2b s.2 x0 s.1) (x1, h)
theorem oX12_isThen_2b {d : Nat} (hd : 0 ≤ d) {h : Hp} {x0 : Nat} {x1 : Int32} {rf : Option Value} {hf : Hp} {x : ((Int32 × Hp) ⊕ Hp)} (hs : fX12_isThen_2b h x0 x1 = some x) (hk : (Kx (pX12_isThen_2 d x0 rf hf) (kX12_isThen rf hf)) x) : Go d mX12_isThen 2 [some (.ref x0), some (.int x1)] [] h rf hf := by
  unfold fX12_isThen_2b at hs
  refine go_iload_n (k4 := 1) rfl dX12_isThen_2 ?_
  refine go_sipush (v := 20000) (by decide) dX12_isThen_3 ?_
  refine go_icmp_ge (tgt := 34) (by decide) dX12_isThen_6 (fun c => ?_) (fun c => ?_)
  · have hs := if_t c hs
    obtain rfl := Option.some.inj hs
    obtain ⟨rfl, rfl⟩ := hk
    exact go_vret rfl dX12_isThen_34
  · have hs := if_f c hs
    refine go_aload_n (k4 := 0) rfl (Or.inr ⟨_, rfl⟩) dX12_isThen_9 ?_
    obtain ⟨v1, ev1, hs⟩ := bindS hs
    refine go_gN fl_RX12_67 ev1 dX12_isThen_10 ?_
    refine go_iload_n (k4 := 1) rfl dX12_isThen_13 ?_
    refine go_aload_n (k4 := 0) rfl (Or.inr ⟨_, rfl⟩) dX12_isThen_14 ?_
    obtain ⟨v2, ev2, hs⟩ := bindS hs
    refine go_gN fl_RX12_71 ev2 dX12_isThen_15 ?_
    refine go_iload_n (k4 := 1) rfl dX12_isThen_18 ?_
    obtain ⟨v3, ev3, hs⟩ := bindS hs
    refine go_aJ ev3 dX12_isThen_19 ?_
    refine go_at 20 rfl ?_
    obtain ⟨h4, eh4, hs⟩ := bindS hs
    refine go_wJ eh4 dX12_isThen_20 ?_
    refine go_aload_n (k4 := 0) rfl (Or.inr ⟨_, rfl⟩) dX12_isThen_21 ?_
    obtain ⟨v5, ev5, hs⟩ := bindS hs
    refine go_gN fl_RX12_71 ev5 dX12_isThen_22 ?_
    refine go_iload_n (k4 := 1) rfl dX12_isThen_25 ?_
    refine go_lconst (v := 0) (by decide) dX12_isThen_26 ?_
    obtain ⟨h6, eh6, hs⟩ := bindS hs
    refine go_wJ eh6 dX12_isThen_27 ?_
    refine go_iinc (L' := [some (.ref x0), some (.int (x1 + Int32.ofInt 1))]) rfl (by decide) rfl rfl dX12_isThen_28 ?_
    refine go_goto (tgt := 2) (by decide) dX12_isThen_31 ?_
    obtain rfl := Option.some.inj hs
    exact go_subL (L' := [some (.ref x0), some (.int (x1 + Int32.ofInt 1))]) (by simp [subL, va_rf]) hk
theorem oX12_isThen_2 {d : Nat} (hd : 0 ≤ d) {h : Hp} {x0 : Nat} {x1 : Int32} {rf : Option Value} {hf : Hp} {x : Hp} (hs : fX12_isThen_2 h x0 x1 = some x) (hk : (kX12_isThen rf hf) x) : Go d mX12_isThen 2 [some (.ref x0), some (.int x1)] [] h rf hf := by
  unfold fX12_isThen_2 at hs
  exact lpw_go (P := pX12_isThen_2 d x0 rf hf) (fun s x hs hk => oX12_isThen_2b hd hs hk) (x1, h) x hs hk
noncomputable def fX12_isThen (h : Hp) (x0 : Nat) : Option Hp :=
  fX12_isThen_2 h x0 (0 : Int32)
theorem oX12_isThen_0 {d : Nat} (hd : 0 ≤ d) {h : Hp} {x0 : Nat} {rf : Option Value} {hf : Hp} {x : Hp} (hs : fX12_isThen h x0 = some x) (hk : (kX12_isThen rf hf) x) : Go d mX12_isThen 0 [some (.ref x0), none] [] h rf hf := by
  unfold fX12_isThen at hs
  refine go_iconst (v := 0) (by decide) dX12_isThen_0 ?_
  refine go_istore_n (k4 := 1) (L' := [some (.ref x0), some (.int (0 : Int32))]) (by decide) rfl dX12_isThen_1 ?_
  exact go_subL (L' := [some (.ref x0), some (.int (0 : Int32))]) (by simp [subL, va_rf]) (oX12_isThen_2 hd hs hk)
theorem oX12_isThen {d : Nat} (hd : 0 ≤ d) {h : Hp} {x0 : Nat} {y : Hp} (hs : fX12_isThen h x0 = some y) : Call d mX12_isThen [.ref x0] h (none) y := call_of (by decide +kernel) (Nat.le_of_ble_eq_true rfl) (show Go d mX12_isThen 0 [some (.ref x0), none] [] h _ _ from go_subL (by simp [subL]) (oX12_isThen_0 hd hs ⟨rfl, rfl⟩))
abbrev kX12_rows (rf : Option Value) (hf : Hp) : (Int64 × Hp) → Prop := fun y => rf = some (.long y.1) ∧ hf = y.2
noncomputable def fX12_rows_25 (h : Hp)  : Option (Int64 × Hp) :=
  some (((-3 : Int64), h))
theorem oX12_rows_25 {d : Nat} (hd : 5 ≤ d) {h : Hp} {rf : Option Value} {hf : Hp} {x : (Int64 × Hp)} (hs : fX12_rows_25 h  = some x) (hk : (kX12_rows rf hf) x) : Go d mX12_rows 25 [none, none, none, none, none, none] [] h rf hf := by
  unfold fX12_rows_25 at hs
  refine go_ldc2 lc_RX12_412 dX12_rows_25 ?_
  obtain rfl := Option.some.inj hs
  obtain ⟨rfl, rfl⟩ := hk
  exact go_lret rfl dX12_rows_28
abbrev pX12_rows_40 (d : Nat) (x0 : Nat) (x1 : Int32) (x2 : Int32) (rf : Option Value) (hf : Hp) : (Int32 × Hp) → Prop := fun s => Go d mX12_rows 40 [some (.ref x0), some (.int x1), some (.int x2), some (.int s.1), none, none] [] s.2 rf hf
abbrev pX12_rows_151 (d : Nat) (h : Hp) (x0 : Nat) (x1 : Int32) (rf : Option Value) (hf : Hp) : (Int64 × Int32) → Prop := fun s => Go d mX12_rows 151 [some (.ref x0), some (.int x1), none, some (.long s.1), none, some (.int s.2)] [] h rf hf
noncomputable def fX12_rows_194 (h : Hp) (x0 : Nat) (x1 : Int32) (x5 : Int32) (s0 : Int64) (s1 : Int64) : Option ((Int64 × Int32) ⊕ (Int64 × Hp)) :=
  some (.inl ((s0 + s1), (x5 + Int32.ofInt 1)))
theorem oX12_rows_194 {d : Nat} (hd : 5 ≤ d) {h : Hp} {x0 : Nat} {x1 : Int32} {x5 : Int32} {s0 : Int64} {s1 : Int64} {rf : Option Value} {hf : Hp} {x : ((Int64 × Int32) ⊕ (Int64 × Hp))} (hs : fX12_rows_194 h x0 x1 x5 s0 s1 = some x) (hk : (Kx (pX12_rows_151 d h x0 x1 rf hf) (kX12_rows rf hf)) x) : Go d mX12_rows 194 [some (.ref x0), some (.int x1), none, none, none, some (.int x5)] [.long s1, .long s0] h rf hf := by
  unfold fX12_rows_194 at hs
  refine go_ladd dX12_rows_194 ?_
  refine go_lstore_n (k4 := 3) (L' := [some (.ref x0), some (.int x1), none, some (.long (s0 + s1)), none, some (.int x5)]) (by decide) rfl dX12_rows_195 ?_
  refine go_iinc (L' := [some (.ref x0), some (.int x1), none, some (.long (s0 + s1)), none, some (.int (x5 + Int32.ofInt 1))]) rfl (by decide) rfl rfl dX12_rows_196 ?_
  refine go_goto (tgt := 151) (by decide) dX12_rows_199 ?_
  obtain rfl := Option.some.inj hs
  exact go_subL (L' := [some (.ref x0), some (.int x1), none, some (.long (s0 + s1)), none, some (.int (x5 + Int32.ofInt 1))]) (by simp [subL, va_rf]) hk
noncomputable def fX12_rows_151b (h : Hp) (x0 : Nat) (x1 : Int32) (x3 : Int64) (x5 : Int32) : Option ((Int64 × Int32) ⊕ (Int64 × Hp)) :=
  (gI h 12 x0 33).bind fun v9 =>
  if v9 ≤ x5 then (
    some (.inr (x3, h))) else (
    (gN h 12 x0 29).bind fun v10 =>
    (aI 0 h v10 x5).bind fun v11 =>
    gO h 12 x0 (
    (fX12_metIn h x0 v11).bind fun y12 =>
    if (y12 &&& x1) = x1 then (
      (gN h 12 x0 34).bind fun v14 =>
      (gN h 12 x0 29).bind fun v15 =>
      (aI 0 h v15 x5).bind fun v16 =>
      (aJ h v14 v16).bind fun v17 =>
      fX12_rows_194 h x0 x1 x5 x3 v17) else (
      fX12_rows_194 h x0 x1 x5 x3 (0 : Int64))))
noncomputable def fX12_rows_151 (h : Hp) (x0 : Nat) (x1 : Int32) (x3 : Int64) (x5 : Int32) : Option (Int64 × Hp) := lpw (σ := (Int64 × Int32)) (fun s => fX12_rows_151b h x0 x1 s.1 s.2) (x3, x5)
theorem oX12_rows_151b {d : Nat} (hd : 5 ≤ d) {h : Hp} {x0 : Nat} {x1 : Int32} {x3 : Int64} {x5 : Int32} {rf : Option Value} {hf : Hp} {x : ((Int64 × Int32) ⊕ (Int64 × Hp))} (hs : fX12_rows_151b h x0 x1 x3 x5 = some x) (hk : (Kx (pX12_rows_151 d h x0 x1 rf hf) (kX12_rows rf hf)) x) : Go d mX12_rows 151 [some (.ref x0), some (.int x1), none, some (.long x3), none, some (.int x5)] [] h rf hf := by
  unfold fX12_rows_151b at hs
  refine go_iload rfl dX12_rows_151 ?_
  refine go_aload_n (k4 := 0) rfl (Or.inr ⟨_, rfl⟩) dX12_rows_153 ?_
  obtain ⟨v9, ev9, hs⟩ := bindS hs
  refine go_gI fl_RX12_384 ev9 dX12_rows_154 ?_
  refine go_icmp_ge (tgt := 202) (by decide) dX12_rows_157 (fun c => ?_) (fun c => ?_)
  · have hs := if_t c hs
    refine go_lload_n (k4 := 3) rfl dX12_rows_202 ?_
    obtain rfl := Option.some.inj hs
    obtain ⟨rfl, rfl⟩ := hk
    exact go_lret rfl dX12_rows_203
  · have hs := if_f c hs
    refine go_lload_n (k4 := 3) rfl dX12_rows_160 ?_
    refine go_aload_n (k4 := 0) rfl (Or.inr ⟨_, rfl⟩) dX12_rows_161 ?_
    refine go_aload_n (k4 := 0) rfl (Or.inr ⟨_, rfl⟩) dX12_rows_162 ?_
    obtain ⟨v10, ev10, hs⟩ := bindS hs
    refine go_gN fl_RX12_54 ev10 dX12_rows_163 ?_
    refine go_iload rfl dX12_rows_166 ?_
    obtain ⟨v11, ev11, hs⟩ := bindS hs
    refine go_aIi ev11 dX12_rows_168 ?_
    obtain ⟨g13, hs⟩ := gO_at hs
    obtain ⟨y12, ey12, hs⟩ := bindS hs
    refine go_V1 (As := [.int v11]) (st := [.long x3]) g13 rfl rfl (oX12_metIn (d := d - 1) (by omega) ey12) (by omega) mb_X12_metIn lm_RX12_233 mi_X12_metIn (Nat.le_of_ble_eq_true rfl) rfl dX12_rows_169 ?_
    refine go_at 172 rfl ?_
    refine go_iload_n (k4 := 1) rfl dX12_rows_172 ?_
    refine go_iand dX12_rows_173 ?_
    refine go_iload_n (k4 := 1) rfl dX12_rows_174 ?_
    refine go_icmp_ne (tgt := 193) (by decide) dX12_rows_175 (fun c => ?_) (fun c => ?_)
    · have hs := if_f c hs
      refine go_lconst (v := 0) (by decide) dX12_rows_193 ?_
      exact go_subL (L' := [some (.ref x0), some (.int x1), none, none, none, some (.int x5)]) (by simp [subL, va_rf]) (oX12_rows_194 hd hs hk)
    · have hs := if_t c hs
      refine go_aload_n (k4 := 0) rfl (Or.inr ⟨_, rfl⟩) dX12_rows_178 ?_
      obtain ⟨v14, ev14, hs⟩ := bindS hs
      refine go_gN fl_RX12_67 ev14 dX12_rows_179 ?_
      refine go_aload_n (k4 := 0) rfl (Or.inr ⟨_, rfl⟩) dX12_rows_182 ?_
      obtain ⟨v15, ev15, hs⟩ := bindS hs
      refine go_gN fl_RX12_54 ev15 dX12_rows_183 ?_
      refine go_iload rfl dX12_rows_186 ?_
      obtain ⟨v16, ev16, hs⟩ := bindS hs
      refine go_aIi ev16 dX12_rows_188 ?_
      obtain ⟨v17, ev17, hs⟩ := bindS hs
      refine go_aJ ev17 dX12_rows_189 ?_
      refine go_at 190 rfl ?_
      refine go_goto (tgt := 194) (by decide) dX12_rows_190 ?_
      exact go_subL (L' := [some (.ref x0), some (.int x1), none, none, none, some (.int x5)]) (by simp [subL, va_rf]) (oX12_rows_194 hd hs hk)
theorem oX12_rows_151 {d : Nat} (hd : 5 ≤ d) {h : Hp} {x0 : Nat} {x1 : Int32} {x3 : Int64} {x5 : Int32} {rf : Option Value} {hf : Hp} {x : (Int64 × Hp)} (hs : fX12_rows_151 h x0 x1 x3 x5 = some x) (hk : (kX12_rows rf hf) x) : Go d mX12_rows 151 [some (.ref x0), some (.int x1), none, some (.long x3), none, some (.int x5)] [] h rf hf := by
  unfold fX12_rows_151 at hs
  exact lpw_go (P := pX12_rows_151 d h x0 x1 rf hf) (fun s x hs hk => oX12_rows_151b hd hs hk) (x3, x5) x hs hk
noncomputable def fX12_rows_146 (h : Hp) (x0 : Nat) (x1 : Int32) : Option (Int64 × Hp) :=
  fX12_rows_151 h x0 x1 (0 : Int64) (0 : Int32)
theorem oX12_rows_146 {d : Nat} (hd : 5 ≤ d) {h : Hp} {x0 : Nat} {x1 : Int32} {rf : Option Value} {hf : Hp} {x : (Int64 × Hp)} (hs : fX12_rows_146 h x0 x1 = some x) (hk : (kX12_rows rf hf) x) : Go d mX12_rows 146 [some (.ref x0), some (.int x1), none, none, none, none] [] h rf hf := by
  unfold fX12_rows_146 at hs
  refine go_lconst (v := 0) (by decide) dX12_rows_146 ?_
  refine go_lstore_n (k4 := 3) (L' := [some (.ref x0), some (.int x1), none, some (.long (0 : Int64)), none, none]) (by decide) rfl dX12_rows_147 ?_
  refine go_iconst (v := 0) (by decide) dX12_rows_148 ?_
  refine go_istore (L' := [some (.ref x0), some (.int x1), none, some (.long (0 : Int64)), none, some (.int (0 : Int32))]) (by decide) rfl dX12_rows_149 ?_
  exact go_subL (L' := [some (.ref x0), some (.int x1), none, some (.long (0 : Int64)), none, some (.int (0 : Int32))]) (by simp [subL, va_rf]) (oX12_rows_151 hd hs hk)
abbrev pX12_rows_48 (d : Nat) (x0 : Nat) (x1 : Int32) (x2 : Int32) (x3 : Int32) (rf : Option Value) (hf : Hp) : (Int32 × Hp) → Prop := fun s => Go d mX12_rows 48 [some (.ref x0), some (.int x1), some (.int x2), some (.int x3), some (.int s.1), none] [] s.2 rf hf
noncomputable def fX12_rows_136 (h : Hp) (x0 : Nat) (x1 : Int32) (x2 : Int32) (x3 : Int32) : Option ((Int32 × Hp) ⊕ (Int64 × Hp)) :=
  gO h 12 x0 (
  (fX12_isThen h x0).bind fun y19 =>
  some (.inl ((x3 + Int32.ofInt 1), y19)))
theorem oX12_rows_136 {d : Nat} (hd : 5 ≤ d) {h : Hp} {x0 : Nat} {x1 : Int32} {x2 : Int32} {x3 : Int32} {rf : Option Value} {hf : Hp} {x : ((Int32 × Hp) ⊕ (Int64 × Hp))} (hs : fX12_rows_136 h x0 x1 x2 x3 = some x) (hk : (Kx (pX12_rows_40 d x0 x1 x2 rf hf) (kX12_rows rf hf)) x) : Go d mX12_rows 136 [some (.ref x0), some (.int x1), some (.int x2), some (.int x3), none, none] [] h rf hf := by
  unfold fX12_rows_136 at hs
  refine go_aload_n (k4 := 0) rfl (Or.inr ⟨_, rfl⟩) dX12_rows_136 ?_
  obtain ⟨g20, hs⟩ := gO_at hs
  obtain ⟨y19, ey19, hs⟩ := bindS hs
  refine go_V0 (As := []) (st := []) g20 rfl rfl (oX12_isThen (d := d - 1) (by omega) ey19) (by omega) mb_X12_isThen lm_RX12_417 mi_X12_isThen (Nat.le_of_ble_eq_true rfl) rfl dX12_rows_137 ?_
  refine go_iinc (L' := [some (.ref x0), some (.int x1), some (.int x2), some (.int (x3 + Int32.ofInt 1)), none, none]) rfl (by decide) rfl rfl dX12_rows_140 ?_
  refine go_goto (tgt := 40) (by decide) dX12_rows_143 ?_
  obtain rfl := Option.some.inj hs
  exact go_subL (L' := [some (.ref x0), some (.int x1), some (.int x2), some (.int (x3 + Int32.ofInt 1)), none, none]) (by simp [subL, va_rf]) hk
abbrev pX12_rows_60 (d : Nat) (x0 : Nat) (x1 : Int32) (x2 : Int32) (x3 : Int32) (x4 : Int32) (rf : Option Value) (hf : Hp) : (Int32 × Hp) → Prop := fun s => Go d mX12_rows 60 [some (.ref x0), some (.int x1), some (.int x2), some (.int x3), some (.int x4), some (.int s.1)] [] s.2 rf hf
noncomputable def fX12_rows_130 (h : Hp) (x0 : Nat) (x1 : Int32) (x2 : Int32) (x3 : Int32) (x4 : Int32) : Option ((Int32 × Hp) ⊕ ((Int32 × Hp) ⊕ (Int64 × Hp))) :=
  some (.inl ((x4 + Int32.ofInt 1), h))
theorem oX12_rows_130 {d : Nat} (hd : 5 ≤ d) {h : Hp} {x0 : Nat} {x1 : Int32} {x2 : Int32} {x3 : Int32} {x4 : Int32} {rf : Option Value} {hf : Hp} {x : ((Int32 × Hp) ⊕ ((Int32 × Hp) ⊕ (Int64 × Hp)))} (hs : fX12_rows_130 h x0 x1 x2 x3 x4 = some x) (hk : (Kx (pX12_rows_48 d x0 x1 x2 x3 rf hf) (Kx (pX12_rows_40 d x0 x1 x2 rf hf) (kX12_rows rf hf))) x) : Go d mX12_rows 130 [some (.ref x0), some (.int x1), some (.int x2), some (.int x3), some (.int x4), none] [] h rf hf := by
  unfold fX12_rows_130 at hs
  refine go_iinc (L' := [some (.ref x0), some (.int x1), some (.int x2), some (.int x3), some (.int (x4 + Int32.ofInt 1)), none]) rfl (by decide) rfl rfl dX12_rows_130 ?_
  refine go_goto (tgt := 48) (by decide) dX12_rows_133 ?_
  obtain rfl := Option.some.inj hs
  exact go_subL (L' := [some (.ref x0), some (.int x1), some (.int x2), some (.int x3), some (.int (x4 + Int32.ofInt 1)), none]) (by simp [subL, va_rf]) hk
noncomputable def fX12_rows_60b (h : Hp) (x0 : Nat) (x1 : Int32) (x2 : Int32) (x3 : Int32) (x4 : Int32) (x5 : Int32) : Option ((Int32 × Hp) ⊕ ((Int32 × Hp) ⊕ ((Int32 × Hp) ⊕ (Int64 × Hp)))) :=
  (gI h 12 x0 21).bind fun v21 =>
  if v21 ≤ x5 then (
  (fX12_rows_130 h x0 x1 x2 x3 x4).map (fun q => .inr q)) else (
    (gN h 12 x0 34).bind fun v22 =>
    (gN h 12 x0 29).bind fun v23 =>
    (aI 0 h v23 x4).bind fun v24 =>
    (aJ h v22 v24).bind fun v25 =>
    if (lg_cmp v25 (0 : Int64)) ≤ 0 then (
    (fX12_rows_130 h x0 x1 x2 x3 x4).map (fun q => .inr q)) else (
      (gN h 12 x0 35).bind fun v26 =>
      (gN h 12 x0 30).bind fun v27 =>
      (gN h 12 x0 29).bind fun v28 =>
      (aI 0 h v28 x4).bind fun v29 =>
      (aI 0 h v27 (((35 : Int32) * v29) + x5)).bind fun v30 =>
      (aJ h v26 v30).bind fun v31 =>
      (gN h 12 x0 34).bind fun v32 =>
      (gN h 12 x0 29).bind fun v33 =>
      (aI 0 h v33 x4).bind fun v34 =>
      (aJ h v32 v34).bind fun v35 =>
      (wJ h v26 v30 (v31 + v35)).bind fun h36 =>
      some (.inl ((x5 + Int32.ofInt 1), h36))))
noncomputable def fX12_rows_60 (h : Hp) (x0 : Nat) (x1 : Int32) (x2 : Int32) (x3 : Int32) (x4 : Int32) (x5 : Int32) : Option ((Int32 × Hp) ⊕ ((Int32 × Hp) ⊕ (Int64 × Hp))) := lpw (σ := (Int32 × Hp)) (fun s => fX12_rows_60b s.2 x0 x1 x2 x3 x4 s.1) (x5, h)
theorem oX12_rows_60b {d : Nat} (hd : 5 ≤ d) {h : Hp} {x0 : Nat} {x1 : Int32} {x2 : Int32} {x3 : Int32} {x4 : Int32} {x5 : Int32} {rf : Option Value} {hf : Hp} {x : ((Int32 × Hp) ⊕ ((Int32 × Hp) ⊕ ((Int32 × Hp) ⊕ (Int64 × Hp))))} (hs : fX12_rows_60b h x0 x1 x2 x3 x4 x5 = some x) (hk : (Kx (pX12_rows_60 d x0 x1 x2 x3 x4 rf hf) (Kx (pX12_rows_48 d x0 x1 x2 x3 rf hf) (Kx (pX12_rows_40 d x0 x1 x2 rf hf) (kX12_rows rf hf)))) x) : Go d mX12_rows 60 [some (.ref x0), some (.int x1), some (.int x2), some (.int x3), some (.int x4), some (.int x5)] [] h rf hf := by
  unfold fX12_rows_60b at hs
  refine go_iload rfl dX12_rows_60 ?_
  refine go_aload_n (k4 := 0) rfl (Or.inr ⟨_, rfl⟩) dX12_rows_62 ?_
  obtain ⟨v21, ev21, hs⟩ := bindS hs
  refine go_gI fl_RX12_285 ev21 dX12_rows_63 ?_
  refine go_icmp_ge (tgt := 130) (by decide) dX12_rows_66 (fun c => ?_) (fun c => ?_)
  · have hs := if_t c hs
    obtain ⟨q, hs2, hq⟩ := mapS hs
    clear hs
    subst hq
    exact go_subL (L' := [some (.ref x0), some (.int x1), some (.int x2), some (.int x3), some (.int x4), none]) (by simp [subL, va_rf]) (oX12_rows_130 hd hs2 hk)
  · have hs := if_f c hs
    refine go_aload_n (k4 := 0) rfl (Or.inr ⟨_, rfl⟩) dX12_rows_69 ?_
    obtain ⟨v22, ev22, hs⟩ := bindS hs
    refine go_gN fl_RX12_67 ev22 dX12_rows_70 ?_
    refine go_aload_n (k4 := 0) rfl (Or.inr ⟨_, rfl⟩) dX12_rows_73 ?_
    obtain ⟨v23, ev23, hs⟩ := bindS hs
    refine go_gN fl_RX12_54 ev23 dX12_rows_74 ?_
    refine go_iload rfl dX12_rows_77 ?_
    obtain ⟨v24, ev24, hs⟩ := bindS hs
    refine go_aIi ev24 dX12_rows_79 ?_
    obtain ⟨v25, ev25, hs⟩ := bindS hs
    refine go_aJ ev25 dX12_rows_80 ?_
    refine go_at 81 rfl ?_
    refine go_lconst (v := 0) (by decide) dX12_rows_81 ?_
    refine go_lcmp dX12_rows_82 ?_
    refine go_if_le (tgt := 130) (by decide) dX12_rows_83 (fun c => ?_) (fun c => ?_)
    · have hs := if_t c hs
      obtain ⟨q, hs2, hq⟩ := mapS hs
      clear hs
      subst hq
      exact go_subL (L' := [some (.ref x0), some (.int x1), some (.int x2), some (.int x3), some (.int x4), none]) (by simp [subL, va_rf]) (oX12_rows_130 hd hs2 hk)
    · have hs := if_f c hs
      refine go_aload_n (k4 := 0) rfl (Or.inr ⟨_, rfl⟩) dX12_rows_86 ?_
      obtain ⟨v26, ev26, hs⟩ := bindS hs
      refine go_gN fl_RX12_71 ev26 dX12_rows_87 ?_
      refine go_aload_n (k4 := 0) rfl (Or.inr ⟨_, rfl⟩) dX12_rows_90 ?_
      obtain ⟨v27, ev27, hs⟩ := bindS hs
      refine go_gN fl_RX12_58 ev27 dX12_rows_91 ?_
      refine go_bipush (v := 35) (by decide) dX12_rows_94 ?_
      refine go_aload_n (k4 := 0) rfl (Or.inr ⟨_, rfl⟩) dX12_rows_96 ?_
      obtain ⟨v28, ev28, hs⟩ := bindS hs
      refine go_gN fl_RX12_54 ev28 dX12_rows_97 ?_
      refine go_at 100 rfl ?_
      refine go_iload rfl dX12_rows_100 ?_
      obtain ⟨v29, ev29, hs⟩ := bindS hs
      refine go_aIi ev29 dX12_rows_102 ?_
      refine go_imul dX12_rows_103 ?_
      refine go_iload rfl dX12_rows_104 ?_
      refine go_iadd dX12_rows_106 ?_
      obtain ⟨v30, ev30, hs⟩ := bindS hs
      refine go_aIi ev30 dX12_rows_107 ?_
      refine go_dup2_11 rfl rfl dX12_rows_108 ?_
      obtain ⟨v31, ev31, hs⟩ := bindS hs
      refine go_aJ ev31 dX12_rows_109 ?_
      refine go_at 110 rfl ?_
      refine go_aload_n (k4 := 0) rfl (Or.inr ⟨_, rfl⟩) dX12_rows_110 ?_
      obtain ⟨v32, ev32, hs⟩ := bindS hs
      refine go_gN fl_RX12_67 ev32 dX12_rows_111 ?_
      refine go_aload_n (k4 := 0) rfl (Or.inr ⟨_, rfl⟩) dX12_rows_114 ?_
      obtain ⟨v33, ev33, hs⟩ := bindS hs
      refine go_gN fl_RX12_54 ev33 dX12_rows_115 ?_
      refine go_iload rfl dX12_rows_118 ?_
      obtain ⟨v34, ev34, hs⟩ := bindS hs
      refine go_aIi ev34 dX12_rows_120 ?_
      obtain ⟨v35, ev35, hs⟩ := bindS hs
      refine go_aJ ev35 dX12_rows_121 ?_
      refine go_ladd dX12_rows_122 ?_
      refine go_at 123 rfl ?_
      obtain ⟨h36, eh36, hs⟩ := bindS hs
      refine go_wJ eh36 dX12_rows_123 ?_
      refine go_iinc (L' := [some (.ref x0), some (.int x1), some (.int x2), some (.int x3), some (.int x4), some (.int (x5 + Int32.ofInt 1))]) rfl (by decide) rfl rfl dX12_rows_124 ?_
      refine go_goto (tgt := 60) (by decide) dX12_rows_127 ?_
      obtain rfl := Option.some.inj hs
      exact go_subL (L' := [some (.ref x0), some (.int x1), some (.int x2), some (.int x3), some (.int x4), some (.int (x5 + Int32.ofInt 1))]) (by simp [subL, va_rf]) hk
theorem oX12_rows_60 {d : Nat} (hd : 5 ≤ d) {h : Hp} {x0 : Nat} {x1 : Int32} {x2 : Int32} {x3 : Int32} {x4 : Int32} {x5 : Int32} {rf : Option Value} {hf : Hp} {x : ((Int32 × Hp) ⊕ ((Int32 × Hp) ⊕ (Int64 × Hp)))} (hs : fX12_rows_60 h x0 x1 x2 x3 x4 x5 = some x) (hk : (Kx (pX12_rows_48 d x0 x1 x2 x3 rf hf) (Kx (pX12_rows_40 d x0 x1 x2 rf hf) (kX12_rows rf hf))) x) : Go d mX12_rows 60 [some (.ref x0), some (.int x1), some (.int x2), some (.int x3), some (.int x4), some (.int x5)] [] h rf hf := by
  unfold fX12_rows_60 at hs
  exact lpw_go (P := pX12_rows_60 d x0 x1 x2 x3 x4 rf hf) (fun s x hs hk => oX12_rows_60b hd hs hk) (x5, h) x hs hk
noncomputable def fX12_rows_48b (h : Hp) (x0 : Nat) (x1 : Int32) (x2 : Int32) (x3 : Int32) (x4 : Int32) : Option ((Int32 × Hp) ⊕ ((Int32 × Hp) ⊕ (Int64 × Hp))) :=
  (gI h 12 x0 33).bind fun v18 =>
  if v18 ≤ x4 then (
  (fX12_rows_136 h x0 x1 x2 x3).map (fun q => .inr q)) else (
    fX12_rows_60 h x0 x1 x2 x3 x4 (0 : Int32))
noncomputable def fX12_rows_48 (h : Hp) (x0 : Nat) (x1 : Int32) (x2 : Int32) (x3 : Int32) (x4 : Int32) : Option ((Int32 × Hp) ⊕ (Int64 × Hp)) := lpw (σ := (Int32 × Hp)) (fun s => fX12_rows_48b s.2 x0 x1 x2 x3 s.1) (x4, h)
theorem oX12_rows_48b {d : Nat} (hd : 5 ≤ d) {h : Hp} {x0 : Nat} {x1 : Int32} {x2 : Int32} {x3 : Int32} {x4 : Int32} {rf : Option Value} {hf : Hp} {x : ((Int32 × Hp) ⊕ ((Int32 × Hp) ⊕ (Int64 × Hp)))} (hs : fX12_rows_48b h x0 x1 x2 x3 x4 = some x) (hk : (Kx (pX12_rows_48 d x0 x1 x2 x3 rf hf) (Kx (pX12_rows_40 d x0 x1 x2 rf hf) (kX12_rows rf hf))) x) : Go d mX12_rows 48 [some (.ref x0), some (.int x1), some (.int x2), some (.int x3), some (.int x4), none] [] h rf hf := by
  unfold fX12_rows_48b at hs
  refine go_iload rfl dX12_rows_48 ?_
  refine go_aload_n (k4 := 0) rfl (Or.inr ⟨_, rfl⟩) dX12_rows_50 ?_
  obtain ⟨v18, ev18, hs⟩ := bindS hs
  refine go_gI fl_RX12_384 ev18 dX12_rows_51 ?_
  refine go_icmp_ge (tgt := 136) (by decide) dX12_rows_54 (fun c => ?_) (fun c => ?_)
  · have hs := if_t c hs
    obtain ⟨q, hs2, hq⟩ := mapS hs
    clear hs
    subst hq
    exact go_subL (L' := [some (.ref x0), some (.int x1), some (.int x2), some (.int x3), none, none]) (by simp [subL, va_rf]) (oX12_rows_136 hd hs2 hk)
  · have hs := if_f c hs
    refine go_iconst (v := 0) (by decide) dX12_rows_57 ?_
    refine go_istore (L' := [some (.ref x0), some (.int x1), some (.int x2), some (.int x3), some (.int x4), some (.int (0 : Int32))]) (by decide) rfl dX12_rows_58 ?_
    exact go_subL (L' := [some (.ref x0), some (.int x1), some (.int x2), some (.int x3), some (.int x4), some (.int (0 : Int32))]) (by simp [subL, va_rf]) (oX12_rows_60 hd hs hk)
theorem oX12_rows_48 {d : Nat} (hd : 5 ≤ d) {h : Hp} {x0 : Nat} {x1 : Int32} {x2 : Int32} {x3 : Int32} {x4 : Int32} {rf : Option Value} {hf : Hp} {x : ((Int32 × Hp) ⊕ (Int64 × Hp))} (hs : fX12_rows_48 h x0 x1 x2 x3 x4 = some x) (hk : (Kx (pX12_rows_40 d x0 x1 x2 rf hf) (kX12_rows rf hf)) x) : Go d mX12_rows 48 [some (.ref x0), some (.int x1), some (.int x2), some (.int x3), some (.int x4), none] [] h rf hf := by
  unfold fX12_rows_48 at hs
  exact lpw_go (P := pX12_rows_48 d x0 x1 x2 x3 rf hf) (fun s x hs hk => oX12_rows_48b hd hs hk) (x4, h) x hs hk
noncomputable def fX12_rows_40b (h : Hp) (x0 : Nat) (x1 : Int32) (x2 : Int32) (x3 : Int32) : Option ((Int32 × Hp) ⊕ (Int64 × Hp)) :=
  if x2 ≤ x3 then (
  (fX12_rows_146 h x0 x1).map (fun q => .inr q)) else (
    fX12_rows_48 h x0 x1 x2 x3 (0 : Int32))
noncomputable def fX12_rows_40 (h : Hp) (x0 : Nat) (x1 : Int32) (x2 : Int32) (x3 : Int32) : Option (Int64 × Hp) := lpw (σ := (Int32 × Hp)) (fun s => fX12_rows_40b s.2 x0 x1 x2 s.1) (x3, h)
theorem oX12_rows_40b {d : Nat} (hd : 5 ≤ d) {h : Hp} {x0 : Nat} {x1 : Int32} {x2 : Int32} {x3 : Int32} {rf : Option Value} {hf : Hp} {x : ((Int32 × Hp) ⊕ (Int64 × Hp))} (hs : fX12_rows_40b h x0 x1 x2 x3 = some x) (hk : (Kx (pX12_rows_40 d x0 x1 x2 rf hf) (kX12_rows rf hf)) x) : Go d mX12_rows 40 [some (.ref x0), some (.int x1), some (.int x2), some (.int x3), none, none] [] h rf hf := by
  unfold fX12_rows_40b at hs
  refine go_iload_n (k4 := 3) rfl dX12_rows_40 ?_
  refine go_iload_n (k4 := 2) rfl dX12_rows_41 ?_
  refine go_icmp_ge (tgt := 146) (by decide) dX12_rows_42 (fun c => ?_) (fun c => ?_)
  · have hs := if_t c hs
    obtain ⟨q, hs2, hq⟩ := mapS hs
    clear hs
    subst hq
    exact go_subL (L' := [some (.ref x0), some (.int x1), none, none, none, none]) (by simp [subL, va_rf]) (oX12_rows_146 hd hs2 hk)
  · have hs := if_f c hs
    refine go_iconst (v := 0) (by decide) dX12_rows_45 ?_
    refine go_istore (L' := [some (.ref x0), some (.int x1), some (.int x2), some (.int x3), some (.int (0 : Int32)), none]) (by decide) rfl dX12_rows_46 ?_
    exact go_subL (L' := [some (.ref x0), some (.int x1), some (.int x2), some (.int x3), some (.int (0 : Int32)), none]) (by simp [subL, va_rf]) (oX12_rows_48 hd hs hk)
theorem oX12_rows_40 {d : Nat} (hd : 5 ≤ d) {h : Hp} {x0 : Nat} {x1 : Int32} {x2 : Int32} {x3 : Int32} {rf : Option Value} {hf : Hp} {x : (Int64 × Hp)} (hs : fX12_rows_40 h x0 x1 x2 x3 = some x) (hk : (kX12_rows rf hf) x) : Go d mX12_rows 40 [some (.ref x0), some (.int x1), some (.int x2), some (.int x3), none, none] [] h rf hf := by
  unfold fX12_rows_40 at hs
  exact lpw_go (P := pX12_rows_40 d x0 x1 x2 rf hf) (fun s x hs hk => oX12_rows_40b hd hs hk) (x3, h) x hs hk
noncomputable def fX12_rows (h : Hp) (x0 : Nat) (x1 : Int32) (x2 : Int32) : Option (Int64 × Hp) :=
  (sV h 12 x0 0 (.int (0 : Int32))).bind fun h1 =>
  gO h1 12 x0 (
  (fX12_isSet h1 x0 x1).bind fun y2 =>
  if y2 = 0 then (
  fX12_rows_25 h1 ) else (
    (fX12_within h1 (x2.toInt64) (0 : Int64) (8 : Int64)).bind fun y4 =>
    if y4 = 0 then (
    fX12_rows_25 h1 ) else (
      gO h1 12 x0 (
      (fX12_laysStands h1 x0 (0 : Int32)).bind fun y5 =>
      gO y5 12 x0 (
      (fX12_beginsMany y5 x0).bind fun y7 =>
      fX12_rows_40 y7 x0 x1 x2 (0 : Int32))))))
theorem oX12_rows_0 {d : Nat} (hd : 5 ≤ d) {h : Hp} {x0 : Nat} {x1 : Int32} {x2 : Int32} {rf : Option Value} {hf : Hp} {x : (Int64 × Hp)} (hs : fX12_rows h x0 x1 x2 = some x) (hk : (kX12_rows rf hf) x) : Go d mX12_rows 0 [some (.ref x0), some (.int x1), some (.int x2), none, none, none] [] h rf hf := by
  unfold fX12_rows at hs
  refine go_aload_n (k4 := 0) rfl (Or.inr ⟨_, rfl⟩) dX12_rows_0 ?_
  refine go_iconst (v := 0) (by decide) dX12_rows_1 ?_
  obtain ⟨h1, eh1, hs⟩ := bindS hs
  refine go_sV fw_RX12_1 eh1 rfl rfl dX12_rows_2 ?_
  refine go_aload_n (k4 := 0) rfl (Or.inr ⟨_, rfl⟩) dX12_rows_5 ?_
  refine go_iload_n (k4 := 1) rfl dX12_rows_6 ?_
  obtain ⟨g3, hs⟩ := gO_at hs
  obtain ⟨y2, ey2, hs⟩ := bindS hs
  refine go_V1 (As := [.int x1]) (st := []) g3 rfl rfl (oX12_isSet (d := d - 1) (by omega) ey2) (by omega) mb_X12_isSet lm_RX12_401 mi_X12_isSet (Nat.le_of_ble_eq_true rfl) rfl dX12_rows_7 ?_
  refine go_if_eq (tgt := 25) (by decide) dX12_rows_10 (fun c => ?_) (fun c => ?_)
  · have hs := if_t c hs
    exact go_subL (L' := [none, none, none, none, none, none]) (by simp [subL, va_rf]) (oX12_rows_25 hd hs hk)
  · have hs := if_f c hs
    refine go_iload_n (k4 := 2) rfl dX12_rows_13 ?_
    refine go_i2l dX12_rows_14 ?_
    refine go_lconst (v := 0) (by decide) dX12_rows_15 ?_
    refine go_ldc2 lc_RX12_410 dX12_rows_16 ?_
    obtain ⟨y4, ey4, hs⟩ := bindS hs
    refine go_S1 (As := [.long (x2.toInt64), .long (0 : Int64), .long (8 : Int64)]) (st := []) (oX12_within (d := d - 1) (by omega) ey4) (by omega) mb_X12_within lm_RX12_155 ms_X12_within (Nat.le_of_ble_eq_true rfl) rfl dX12_rows_19 ?_
    refine go_if_ne (tgt := 29) (by decide) dX12_rows_22 (fun c => ?_) (fun c => ?_)
    · have hs := if_f c hs
      refine go_aload_n (k4 := 0) rfl (Or.inr ⟨_, rfl⟩) dX12_rows_29 ?_
      refine go_iconst (v := 0) (by decide) dX12_rows_30 ?_
      obtain ⟨g6, hs⟩ := gO_at hs
      obtain ⟨y5, ey5, hs⟩ := bindS hs
      refine go_V0 (As := [.int (0 : Int32)]) (st := []) g6 rfl rfl (oX12_laysStands (d := d - 1) (by omega) ey5) (by omega) mb_X12_laysStands lm_RX12_394 mi_X12_laysStands (Nat.le_of_ble_eq_true rfl) rfl dX12_rows_31 ?_
      refine go_aload_n (k4 := 0) rfl (Or.inr ⟨_, rfl⟩) dX12_rows_34 ?_
      obtain ⟨g8, hs⟩ := gO_at hs
      obtain ⟨y7, ey7, hs⟩ := bindS hs
      refine go_V0 (As := []) (st := []) g8 rfl rfl (oX12_beginsMany (d := d - 1) (by omega) ey7) (by omega) mb_X12_beginsMany lm_RX12_414 mi_X12_beginsMany (Nat.le_of_ble_eq_true rfl) rfl dX12_rows_35 ?_
      refine go_iconst (v := 0) (by decide) dX12_rows_38 ?_
      refine go_istore_n (k4 := 3) (L' := [some (.ref x0), some (.int x1), some (.int x2), some (.int (0 : Int32)), none, none]) (by decide) rfl dX12_rows_39 ?_
      exact go_subL (L' := [some (.ref x0), some (.int x1), some (.int x2), some (.int (0 : Int32)), none, none]) (by simp [subL, va_rf]) (oX12_rows_40 hd hs hk)
    · have hs := if_t c hs
      exact go_subL (L' := [none, none, none, none, none, none]) (by simp [subL, va_rf]) (oX12_rows_25 hd hs hk)
theorem oX12_rows {d : Nat} (hd : 5 ≤ d) {h : Hp} {x0 : Nat} {x1 : Int32} {x2 : Int32} {y : (Int64 × Hp)} (hs : fX12_rows h x0 x1 x2 = some y) : Call d mX12_rows [.ref x0, .int x1, .int x2] h (some (.long y.1)) (y.2) := call_of (by decide +kernel) (Nat.le_of_ble_eq_true rfl) (show Go d mX12_rows 0 [some (.ref x0), some (.int x1), some (.int x2), none, none, none] [] h _ _ from go_subL (by simp [subL]) (oX12_rows_0 hd hs ⟨rfl, rfl⟩))
