/-! methods: their texts as functions, and that the machine does just that -/
abbrev kX12_readPair (rf : Option Value) (hf : Hp) : Hp → Prop := fun y => rf = none ∧ hf = y
abbrev pX12_readPair_83 (d : Nat) (x0 : Nat) (x1 : Int32) (rf : Option Value) (hf : Hp) : Hp → Prop := fun s => Go d mX12_readPair 83 [some (.ref x0), some (.int x1)] [] s rf hf
noncomputable def fX12_readPair_134 (h : Hp)  : Option Hp :=
  some (h)
theorem oX12_readPair_134 {d : Nat} (hd : 7 ≤ d) {h : Hp} {rf : Option Value} {hf : Hp} {x : Hp} (hs : fX12_readPair_134 h  = some x) (hk : (kX12_readPair rf hf) x) : Go d mX12_readPair 134 [none, none] [] h rf hf := by
  unfold fX12_readPair_134 at hs
  obtain rfl := Option.some.inj hs
  obtain ⟨rfl, rfl⟩ := hk
  exact go_vret rfl dX12_readPair_134
noncomputable def fX12_readPair_117 (h : Hp) (x0 : Nat) : Option Hp :=
  (gI h 12 x0 11).bind fun v17 =>
  if v17 = 0 then (
    (gN h 12 x0 4).bind fun v18 =>
    (aI 0 h v18 (1 : Int32)).bind fun v19 =>
    (wI 0 h v18 (1 : Int32) (v19 + (1 : Int32))).bind fun h20 =>
    fX12_readPair_134 h20 ) else (
  fX12_readPair_134 h )
theorem oX12_readPair_117 {d : Nat} (hd : 7 ≤ d) {h : Hp} {x0 : Nat} {rf : Option Value} {hf : Hp} {x : Hp} (hs : fX12_readPair_117 h x0 = some x) (hk : (kX12_readPair rf hf) x) : Go d mX12_readPair 117 [some (.ref x0), none] [] h rf hf := by
  unfold fX12_readPair_117 at hs
  refine go_aload_n (k4 := 0) rfl (Or.inr ⟨_, rfl⟩) dX12_readPair_117 ?_
  obtain ⟨v17, ev17, hs⟩ := bindS hs
  refine go_gI fl_RX12_139 ev17 dX12_readPair_118 ?_
  refine go_if_ne (tgt := 134) (by decide) dX12_readPair_121 (fun c => ?_) (fun c => ?_)
  · have hs := if_f c hs
    exact go_subL (L' := [none, none]) (by simp [subL, va_rf]) (oX12_readPair_134 hd hs hk)
  · have hs := if_t c hs
    refine go_aload_n (k4 := 0) rfl (Or.inr ⟨_, rfl⟩) dX12_readPair_124 ?_
    obtain ⟨v18, ev18, hs⟩ := bindS hs
    refine go_gN fl_RX12_24 ev18 dX12_readPair_125 ?_
    refine go_iconst (v := 1) (by decide) dX12_readPair_128 ?_
    refine go_dup2_11 rfl rfl dX12_readPair_129 ?_
    obtain ⟨v19, ev19, hs⟩ := bindS hs
    refine go_aIi ev19 dX12_readPair_130 ?_
    refine go_iconst (v := 1) (by decide) dX12_readPair_131 ?_
    refine go_iadd dX12_readPair_132 ?_
    refine go_at 133 rfl ?_
    obtain ⟨h20, eh20, hs⟩ := bindS hs
    refine go_wIi eh20 dX12_readPair_133 ?_
    exact go_subL (L' := [none, none]) (by simp [subL, va_rf]) (oX12_readPair_134 hd hs hk)
noncomputable def fX12_readPair_83b (h : Hp) (x0 : Nat) (x1 : Int32) : Option (Hp ⊕ Hp) :=
  (gI h 12 x0 11).bind fun v16 =>
  if v16 = 0 then (
    gO h 12 x0 (
    (fX12_eats h x0 (4 : Int32)).bind fun y21 =>
    if y21.1 = 0 then (
    (fX12_readPair_117 y21.2 x0).map (fun q => .inr q)) else (
      (gN y21.2 12 x0 4).bind fun v23 =>
      gO y21.2 12 x0 (
      (fX12_takes y21.2 x0 (0 : Int32) (9 : Int32)).bind fun y24 =>
      (wI 0 y24.2 v23 ((19 : Int32) + x1) y24.1).bind fun h26 =>
      some (.inl h26))))) else (
  (fX12_readPair_117 h x0).map (fun q => .inr q))
noncomputable def fX12_readPair_83 (h : Hp) (x0 : Nat) (x1 : Int32) : Option Hp := lpw (σ := Hp) (fun s => fX12_readPair_83b s x0 x1 ) h
theorem oX12_readPair_83b {d : Nat} (hd : 7 ≤ d) {h : Hp} {x0 : Nat} {x1 : Int32} {rf : Option Value} {hf : Hp} {x : (Hp ⊕ Hp)} (hs : fX12_readPair_83b h x0 x1 = some x) (hk : (Kx (pX12_readPair_83 d x0 x1 rf hf) (kX12_readPair rf hf)) x) : Go d mX12_readPair 83 [some (.ref x0), some (.int x1)] [] h rf hf := by
  unfold fX12_readPair_83b at hs
  refine go_aload_n (k4 := 0) rfl (Or.inr ⟨_, rfl⟩) dX12_readPair_83 ?_
  obtain ⟨v16, ev16, hs⟩ := bindS hs
  refine go_gI fl_RX12_139 ev16 dX12_readPair_84 ?_
  refine go_if_ne (tgt := 117) (by decide) dX12_readPair_87 (fun c => ?_) (fun c => ?_)
  · have hs := if_f c hs
    obtain ⟨q, hs2, hq⟩ := mapS hs
    clear hs
    subst hq
    exact go_subL (L' := [some (.ref x0), none]) (by simp [subL, va_rf]) (oX12_readPair_117 hd hs2 hk)
  · have hs := if_t c hs
    refine go_aload_n (k4 := 0) rfl (Or.inr ⟨_, rfl⟩) dX12_readPair_90 ?_
    refine go_iconst (v := 4) (by decide) dX12_readPair_91 ?_
    obtain ⟨g22, hs⟩ := gO_at hs
    obtain ⟨y21, ey21, hs⟩ := bindS hs
    refine go_V1 (As := [.int (4 : Int32)]) (st := []) g22 rfl rfl (oX12_eats (d := d - 1) (by omega) ey21) (by omega) mb_X12_eats lm_RX12_174 mi_X12_eats (Nat.le_of_ble_eq_true rfl) rfl dX12_readPair_92 ?_
    refine go_if_eq (tgt := 117) (by decide) dX12_readPair_95 (fun c => ?_) (fun c => ?_)
    · have hs := if_t c hs
      obtain ⟨q, hs2, hq⟩ := mapS hs
      clear hs
      subst hq
      exact go_subL (L' := [some (.ref x0), none]) (by simp [subL, va_rf]) (oX12_readPair_117 hd hs2 hk)
    · have hs := if_f c hs
      refine go_aload_n (k4 := 0) rfl (Or.inr ⟨_, rfl⟩) dX12_readPair_98 ?_
      obtain ⟨v23, ev23, hs⟩ := bindS hs
      refine go_gN fl_RX12_24 ev23 dX12_readPair_99 ?_
      refine go_bipush (v := 19) (by decide) dX12_readPair_102 ?_
      refine go_iload_n (k4 := 1) rfl dX12_readPair_104 ?_
      refine go_iadd dX12_readPair_105 ?_
      refine go_aload_n (k4 := 0) rfl (Or.inr ⟨_, rfl⟩) dX12_readPair_106 ?_
      refine go_iconst (v := 0) (by decide) dX12_readPair_107 ?_
      refine go_at 108 rfl ?_
      refine go_bipush (v := 9) (by decide) dX12_readPair_108 ?_
      obtain ⟨g25, hs⟩ := gO_at hs
      obtain ⟨y24, ey24, hs⟩ := bindS hs
      refine go_V1 (As := [.int (0 : Int32), .int (9 : Int32)]) (st := [.int ((19 : Int32) + x1), .ref v23]) g25 rfl rfl (oX12_takes (d := d - 1) (by omega) ey24) (by omega) mb_X12_takes lm_RX12_195 mi_X12_takes (Nat.le_of_ble_eq_true rfl) rfl dX12_readPair_110 ?_
      obtain ⟨h26, eh26, hs⟩ := bindS hs
      refine go_wIi eh26 dX12_readPair_113 ?_
      refine go_goto (tgt := 83) (by decide) dX12_readPair_114 ?_
      obtain rfl := Option.some.inj hs
      exact go_subL (L' := [some (.ref x0), some (.int x1)]) (by simp [subL, va_rf]) hk
theorem oX12_readPair_83 {d : Nat} (hd : 7 ≤ d) {h : Hp} {x0 : Nat} {x1 : Int32} {rf : Option Value} {hf : Hp} {x : Hp} (hs : fX12_readPair_83 h x0 x1 = some x) (hk : (kX12_readPair rf hf) x) : Go d mX12_readPair 83 [some (.ref x0), some (.int x1)] [] h rf hf := by
  unfold fX12_readPair_83 at hs
  exact lpw_go (P := pX12_readPair_83 d x0 x1 rf hf) (fun s x hs hk => oX12_readPair_83b hd hs hk) h x hs hk
noncomputable def fX12_readPair_57 (h : Hp) (x0 : Nat) (x1 : Int32) : Option Hp :=
  (gN h 12 x0 4).bind fun v10 =>
  gO h 12 x0 (
  (fX12_takes h x0 (0 : Int32) (9 : Int32)).bind fun y11 =>
  (wI 0 y11.2 v10 ((11 : Int32) + x1) y11.1).bind fun h13 =>
  (gN h13 12 x0 4).bind fun v14 =>
  (wI 0 h13 v14 ((19 : Int32) + x1) (1 : Int32)).bind fun h15 =>
  fX12_readPair_83 h15 x0 x1)
theorem oX12_readPair_57 {d : Nat} (hd : 7 ≤ d) {h : Hp} {x0 : Nat} {x1 : Int32} {rf : Option Value} {hf : Hp} {x : Hp} (hs : fX12_readPair_57 h x0 x1 = some x) (hk : (kX12_readPair rf hf) x) : Go d mX12_readPair 57 [some (.ref x0), some (.int x1)] [] h rf hf := by
  unfold fX12_readPair_57 at hs
  refine go_aload_n (k4 := 0) rfl (Or.inr ⟨_, rfl⟩) dX12_readPair_57 ?_
  obtain ⟨v10, ev10, hs⟩ := bindS hs
  refine go_gN fl_RX12_24 ev10 dX12_readPair_58 ?_
  refine go_bipush (v := 11) (by decide) dX12_readPair_61 ?_
  refine go_iload_n (k4 := 1) rfl dX12_readPair_63 ?_
  refine go_iadd dX12_readPair_64 ?_
  refine go_aload_n (k4 := 0) rfl (Or.inr ⟨_, rfl⟩) dX12_readPair_65 ?_
  refine go_iconst (v := 0) (by decide) dX12_readPair_66 ?_
  refine go_at 67 rfl ?_
  refine go_bipush (v := 9) (by decide) dX12_readPair_67 ?_
  obtain ⟨g12, hs⟩ := gO_at hs
  obtain ⟨y11, ey11, hs⟩ := bindS hs
  refine go_V1 (As := [.int (0 : Int32), .int (9 : Int32)]) (st := [.int ((11 : Int32) + x1), .ref v10]) g12 rfl rfl (oX12_takes (d := d - 1) (by omega) ey11) (by omega) mb_X12_takes lm_RX12_195 mi_X12_takes (Nat.le_of_ble_eq_true rfl) rfl dX12_readPair_69 ?_
  obtain ⟨h13, eh13, hs⟩ := bindS hs
  refine go_wIi eh13 dX12_readPair_72 ?_
  refine go_aload_n (k4 := 0) rfl (Or.inr ⟨_, rfl⟩) dX12_readPair_73 ?_
  obtain ⟨v14, ev14, hs⟩ := bindS hs
  refine go_gN fl_RX12_24 ev14 dX12_readPair_74 ?_
  refine go_bipush (v := 19) (by decide) dX12_readPair_77 ?_
  refine go_iload_n (k4 := 1) rfl dX12_readPair_79 ?_
  refine go_iadd dX12_readPair_80 ?_
  refine go_at 81 rfl ?_
  refine go_iconst (v := 1) (by decide) dX12_readPair_81 ?_
  obtain ⟨h15, eh15, hs⟩ := bindS hs
  refine go_wIi eh15 dX12_readPair_82 ?_
  exact go_subL (L' := [some (.ref x0), some (.int x1)]) (by simp [subL, va_rf]) (oX12_readPair_83 hd hs hk)
noncomputable def fX12_readPair_32 (h : Hp) (x0 : Nat) (x1 : Int32) : Option Hp :=
  (gI h 12 x0 11).bind fun v5 =>
  if v5 = 0 then (
    gO h 12 x0 (
    (fX12_next h x0).bind fun y6 =>
    gO y6 12 x0 (
    (fX12_eats y6 x0 (3 : Int32)).bind fun y8 =>
    if y8.1 = 0 then (
      gO y8.2 12 x0 (
      (fX12_fails y8.2 x0 (2 : Int32)).bind fun y27 =>
      fX12_readPair_57 y27 x0 x1)) else (
    fX12_readPair_57 y8.2 x0 x1)))) else (
    some (h))
theorem oX12_readPair_32 {d : Nat} (hd : 7 ≤ d) {h : Hp} {x0 : Nat} {x1 : Int32} {rf : Option Value} {hf : Hp} {x : Hp} (hs : fX12_readPair_32 h x0 x1 = some x) (hk : (kX12_readPair rf hf) x) : Go d mX12_readPair 32 [some (.ref x0), some (.int x1)] [] h rf hf := by
  unfold fX12_readPair_32 at hs
  refine go_aload_n (k4 := 0) rfl (Or.inr ⟨_, rfl⟩) dX12_readPair_32 ?_
  obtain ⟨v5, ev5, hs⟩ := bindS hs
  refine go_gI fl_RX12_139 ev5 dX12_readPair_33 ?_
  refine go_if_eq (tgt := 40) (by decide) dX12_readPair_36 (fun c => ?_) (fun c => ?_)
  · have hs := if_t c hs
    refine go_aload_n (k4 := 0) rfl (Or.inr ⟨_, rfl⟩) dX12_readPair_40 ?_
    obtain ⟨g7, hs⟩ := gO_at hs
    obtain ⟨y6, ey6, hs⟩ := bindS hs
    refine go_V0 (As := []) (st := []) g7 rfl rfl (oX12_next (d := d - 1) (by omega) ey6) (by omega) mb_X12_next lm_RX12_148 mi_X12_next (Nat.le_of_ble_eq_true rfl) rfl dX12_readPair_41 ?_
    refine go_aload_n (k4 := 0) rfl (Or.inr ⟨_, rfl⟩) dX12_readPair_44 ?_
    refine go_iconst (v := 3) (by decide) dX12_readPair_45 ?_
    obtain ⟨g9, hs⟩ := gO_at hs
    obtain ⟨y8, ey8, hs⟩ := bindS hs
    refine go_V1 (As := [.int (3 : Int32)]) (st := []) g9 rfl rfl (oX12_eats (d := d - 1) (by omega) ey8) (by omega) mb_X12_eats lm_RX12_174 mi_X12_eats (Nat.le_of_ble_eq_true rfl) rfl dX12_readPair_46 ?_
    refine go_if_ne (tgt := 57) (by decide) dX12_readPair_49 (fun c => ?_) (fun c => ?_)
    · have hs := if_f c hs
      exact go_subL (L' := [some (.ref x0), some (.int x1)]) (by simp [subL, va_rf]) (oX12_readPair_57 hd hs hk)
    · have hs := if_t c hs
      refine go_aload_n (k4 := 0) rfl (Or.inr ⟨_, rfl⟩) dX12_readPair_52 ?_
      refine go_iconst (v := 2) (by decide) dX12_readPair_53 ?_
      obtain ⟨g28, hs⟩ := gO_at hs
      obtain ⟨y27, ey27, hs⟩ := bindS hs
      refine go_V0 (As := [.int (2 : Int32)]) (st := []) g28 rfl rfl (oX12_fails (d := d - 1) (by omega) ey27) (by omega) mb_X12_fails lm_RX12_151 mi_X12_fails (Nat.le_of_ble_eq_true rfl) rfl dX12_readPair_54 ?_
      exact go_subL (L' := [some (.ref x0), some (.int x1)]) (by simp [subL, va_rf]) (oX12_readPair_57 hd hs hk)
  · have hs := if_f c hs
    obtain rfl := Option.some.inj hs
    obtain ⟨rfl, rfl⟩ := hk
    exact go_vret rfl dX12_readPair_39
noncomputable def fX12_readPair_22 (h : Hp) (x0 : Nat) (x1 : Int32) : Option Hp :=
  if x1 = (4 : Int32) then (
    gO h 12 x0 (
    (fX12_fails h x0 (4 : Int32)).bind fun y29 =>
    fX12_readPair_32 y29 x0 x1)) else (
  fX12_readPair_32 h x0 x1)
theorem oX12_readPair_22 {d : Nat} (hd : 7 ≤ d) {h : Hp} {x0 : Nat} {x1 : Int32} {rf : Option Value} {hf : Hp} {x : Hp} (hs : fX12_readPair_22 h x0 x1 = some x) (hk : (kX12_readPair rf hf) x) : Go d mX12_readPair 22 [some (.ref x0), some (.int x1)] [] h rf hf := by
  unfold fX12_readPair_22 at hs
  refine go_iload_n (k4 := 1) rfl dX12_readPair_22 ?_
  refine go_iconst (v := 4) (by decide) dX12_readPair_23 ?_
  refine go_icmp_ne (tgt := 32) (by decide) dX12_readPair_24 (fun c => ?_) (fun c => ?_)
  · have hs := if_f c hs
    exact go_subL (L' := [some (.ref x0), some (.int x1)]) (by simp [subL, va_rf]) (oX12_readPair_32 hd hs hk)
  · have hs := if_t c hs
    refine go_aload_n (k4 := 0) rfl (Or.inr ⟨_, rfl⟩) dX12_readPair_27 ?_
    refine go_iconst (v := 4) (by decide) dX12_readPair_28 ?_
    obtain ⟨g30, hs⟩ := gO_at hs
    obtain ⟨y29, ey29, hs⟩ := bindS hs
    refine go_V0 (As := [.int (4 : Int32)]) (st := []) g30 rfl rfl (oX12_fails (d := d - 1) (by omega) ey29) (by omega) mb_X12_fails lm_RX12_151 mi_X12_fails (Nat.le_of_ble_eq_true rfl) rfl dX12_readPair_29 ?_
    exact go_subL (L' := [some (.ref x0), some (.int x1)]) (by simp [subL, va_rf]) (oX12_readPair_32 hd hs hk)
noncomputable def fX12_readPair (h : Hp) (x0 : Nat) : Option Hp :=
  (gN h 12 x0 4).bind fun v1 =>
  (aI 0 h v1 (1 : Int32)).bind fun v2 =>
  (gN h 12 x0 4).bind fun v3 =>
  (aI 0 h v3 (3 : Int32)).bind fun v4 =>
  if v4 = (1 : Int32) then (
    gO h 12 x0 (
    (fX12_fails h x0 (2 : Int32)).bind fun y31 =>
    fX12_readPair_22 y31 x0 v2)) else (
  fX12_readPair_22 h x0 v2)
theorem oX12_readPair_0 {d : Nat} (hd : 7 ≤ d) {h : Hp} {x0 : Nat} {rf : Option Value} {hf : Hp} {x : Hp} (hs : fX12_readPair h x0 = some x) (hk : (kX12_readPair rf hf) x) : Go d mX12_readPair 0 [some (.ref x0), none] [] h rf hf := by
  unfold fX12_readPair at hs
  refine go_aload_n (k4 := 0) rfl (Or.inr ⟨_, rfl⟩) dX12_readPair_0 ?_
  obtain ⟨v1, ev1, hs⟩ := bindS hs
  refine go_gN fl_RX12_24 ev1 dX12_readPair_1 ?_
  refine go_iconst (v := 1) (by decide) dX12_readPair_4 ?_
  obtain ⟨v2, ev2, hs⟩ := bindS hs
  refine go_aIi ev2 dX12_readPair_5 ?_
  refine go_istore_n (k4 := 1) (L' := [some (.ref x0), some (.int v2)]) (by decide) rfl dX12_readPair_6 ?_
  refine go_aload_n (k4 := 0) rfl (Or.inr ⟨_, rfl⟩) dX12_readPair_7 ?_
  obtain ⟨v3, ev3, hs⟩ := bindS hs
  refine go_gN fl_RX12_24 ev3 dX12_readPair_8 ?_
  refine go_at 11 rfl ?_
  refine go_iconst (v := 3) (by decide) dX12_readPair_11 ?_
  obtain ⟨v4, ev4, hs⟩ := bindS hs
  refine go_aIi ev4 dX12_readPair_12 ?_
  refine go_iconst (v := 1) (by decide) dX12_readPair_13 ?_
  refine go_icmp_ne (tgt := 22) (by decide) dX12_readPair_14 (fun c => ?_) (fun c => ?_)
  · have hs := if_f c hs
    exact go_subL (L' := [some (.ref x0), some (.int v2)]) (by simp [subL, va_rf]) (oX12_readPair_22 hd hs hk)
  · have hs := if_t c hs
    refine go_aload_n (k4 := 0) rfl (Or.inr ⟨_, rfl⟩) dX12_readPair_17 ?_
    refine go_iconst (v := 2) (by decide) dX12_readPair_18 ?_
    obtain ⟨g32, hs⟩ := gO_at hs
    obtain ⟨y31, ey31, hs⟩ := bindS hs
    refine go_V0 (As := [.int (2 : Int32)]) (st := []) g32 rfl rfl (oX12_fails (d := d - 1) (by omega) ey31) (by omega) mb_X12_fails lm_RX12_151 mi_X12_fails (Nat.le_of_ble_eq_true rfl) rfl dX12_readPair_19 ?_
    exact go_subL (L' := [some (.ref x0), some (.int v2)]) (by simp [subL, va_rf]) (oX12_readPair_22 hd hs hk)
theorem oX12_readPair {d : Nat} (hd : 7 ≤ d) {h : Hp} {x0 : Nat} {y : Hp} (hs : fX12_readPair h x0 = some y) : Call d mX12_readPair [.ref x0] h (none) y := call_of (by decide +kernel) (Nat.le_of_ble_eq_true rfl) (show Go d mX12_readPair 0 [some (.ref x0), none] [] h _ _ from go_subL (by simp [subL]) (oX12_readPair_0 hd hs ⟨rfl, rfl⟩))
abbrev kX12_readLead (rf : Option Value) (hf : Hp) : Hp → Prop := fun y => rf = none ∧ hf = y
abbrev pX12_readLead_40 (d : Nat) (x0 : Nat) (rf : Option Value) (hf : Hp) : (Int32 × Int32 × Int32 × Int32 × Hp) → Prop := fun s => Go d mX12_readLead 40 [some (.ref x0), some (.int s.1), some (.int s.2.1), some (.int s.2.2.1), some (.int s.2.2.2.1), none] [] s.2.2.2.2 rf hf
noncomputable def fX12_readLead_105 (h : Hp) (x0 : Nat) (x2 : Int32) : Option Hp :=
  (gI h 12 x0 11).bind fun v10 =>
  if v10 = 0 then (
    (gN h 12 x0 4).bind fun v11 =>
    (wI 0 h v11 (23 : Int32) x2).bind fun h12 =>
    (gN h12 12 x0 4).bind fun v13 =>
    (wI 0 h12 v13 (3 : Int32) (1 : Int32)).bind fun h14 =>
    some (h14)) else (
    some (h))
theorem oX12_readLead_105 {d : Nat} (hd : 7 ≤ d) {h : Hp} {x0 : Nat} {x2 : Int32} {rf : Option Value} {hf : Hp} {x : Hp} (hs : fX12_readLead_105 h x0 x2 = some x) (hk : (kX12_readLead rf hf) x) : Go d mX12_readLead 105 [some (.ref x0), none, some (.int x2), none, none, none] [] h rf hf := by
  unfold fX12_readLead_105 at hs
  refine go_aload_n (k4 := 0) rfl (Or.inr ⟨_, rfl⟩) dX12_readLead_105 ?_
  obtain ⟨v10, ev10, hs⟩ := bindS hs
  refine go_gI fl_RX12_139 ev10 dX12_readLead_106 ?_
  refine go_if_eq (tgt := 113) (by decide) dX12_readLead_109 (fun c => ?_) (fun c => ?_)
  · have hs := if_t c hs
    refine go_aload_n (k4 := 0) rfl (Or.inr ⟨_, rfl⟩) dX12_readLead_113 ?_
    obtain ⟨v11, ev11, hs⟩ := bindS hs
    refine go_gN fl_RX12_24 ev11 dX12_readLead_114 ?_
    refine go_bipush (v := 23) (by decide) dX12_readLead_117 ?_
    refine go_iload_n (k4 := 2) rfl dX12_readLead_119 ?_
    obtain ⟨h12, eh12, hs⟩ := bindS hs
    refine go_wIi eh12 dX12_readLead_120 ?_
    refine go_aload_n (k4 := 0) rfl (Or.inr ⟨_, rfl⟩) dX12_readLead_121 ?_
    obtain ⟨v13, ev13, hs⟩ := bindS hs
    refine go_gN fl_RX12_24 ev13 dX12_readLead_122 ?_
    refine go_at 125 rfl ?_
    refine go_iconst (v := 3) (by decide) dX12_readLead_125 ?_
    refine go_iconst (v := 1) (by decide) dX12_readLead_126 ?_
    obtain ⟨h14, eh14, hs⟩ := bindS hs
    refine go_wIi eh14 dX12_readLead_127 ?_
    obtain rfl := Option.some.inj hs
    obtain ⟨rfl, rfl⟩ := hk
    exact go_vret rfl dX12_readLead_128
  · have hs := if_f c hs
    obtain rfl := Option.some.inj hs
    obtain ⟨rfl, rfl⟩ := hk
    exact go_vret rfl dX12_readLead_112
noncomputable def fX12_readLead_77 (h : Hp) (x0 : Nat) (x1 : Int32) (x2 : Int32) (x3 : Int32) (x4 : Int32) (s0 : Nat) (s1 : Int32) : Option ((Int32 × Int32 × Int32 × Int32 × Hp) ⊕ Hp) :=
  gO h 12 s0 (
  (fX12_takes h s0 s1 x1).bind fun y18 =>
  some (.inl ((x1 - y18.1), (x2 + (x3 * y18.1)), (x3 * (5 : Int32)), (x4 + Int32.ofInt 1), y18.2)))
theorem oX12_readLead_77 {d : Nat} (hd : 7 ≤ d) {h : Hp} {x0 : Nat} {x1 : Int32} {x2 : Int32} {x3 : Int32} {x4 : Int32} {s0 : Nat} {s1 : Int32} {rf : Option Value} {hf : Hp} {x : ((Int32 × Int32 × Int32 × Int32 × Hp) ⊕ Hp)} (hs : fX12_readLead_77 h x0 x1 x2 x3 x4 s0 s1 = some x) (hk : (Kx (pX12_readLead_40 d x0 rf hf) (kX12_readLead rf hf)) x) : Go d mX12_readLead 77 [some (.ref x0), some (.int x1), some (.int x2), some (.int x3), some (.int x4), none] [.int s1, .ref s0] h rf hf := by
  unfold fX12_readLead_77 at hs
  refine go_iload_n (k4 := 1) rfl dX12_readLead_77 ?_
  obtain ⟨g19, hs⟩ := gO_at hs
  obtain ⟨y18, ey18, hs⟩ := bindS hs
  refine go_V1 (As := [.int s1, .int x1]) (st := []) g19 rfl rfl (oX12_takes (d := d - 1) (by omega) ey18) (by omega) mb_X12_takes lm_RX12_195 mi_X12_takes (Nat.le_of_ble_eq_true rfl) rfl dX12_readLead_78 ?_
  refine go_istore (L' := [some (.ref x0), some (.int x1), some (.int x2), some (.int x3), some (.int x4), some (.int y18.1)]) (by decide) rfl dX12_readLead_81 ?_
  refine go_iload_n (k4 := 1) rfl dX12_readLead_83 ?_
  refine go_iload rfl dX12_readLead_84 ?_
  refine go_isub dX12_readLead_86 ?_
  refine go_istore_n (k4 := 1) (L' := [some (.ref x0), some (.int (x1 - y18.1)), some (.int x2), some (.int x3), some (.int x4), some (.int y18.1)]) (by decide) rfl dX12_readLead_87 ?_
  refine go_at 88 rfl ?_
  refine go_iload_n (k4 := 2) rfl dX12_readLead_88 ?_
  refine go_iload_n (k4 := 3) rfl dX12_readLead_89 ?_
  refine go_iload rfl dX12_readLead_90 ?_
  refine go_imul dX12_readLead_92 ?_
  refine go_iadd dX12_readLead_93 ?_
  refine go_istore_n (k4 := 2) (L' := [some (.ref x0), some (.int (x1 - y18.1)), some (.int (x2 + (x3 * y18.1))), some (.int x3), some (.int x4), some (.int y18.1)]) (by decide) rfl dX12_readLead_94 ?_
  refine go_iload_n (k4 := 3) rfl dX12_readLead_95 ?_
  refine go_iconst (v := 5) (by decide) dX12_readLead_96 ?_
  refine go_at 97 rfl ?_
  refine go_imul dX12_readLead_97 ?_
  refine go_istore_n (k4 := 3) (L' := [some (.ref x0), some (.int (x1 - y18.1)), some (.int (x2 + (x3 * y18.1))), some (.int (x3 * (5 : Int32))), some (.int x4), some (.int y18.1)]) (by decide) rfl dX12_readLead_98 ?_
  refine go_iinc (L' := [some (.ref x0), some (.int (x1 - y18.1)), some (.int (x2 + (x3 * y18.1))), some (.int (x3 * (5 : Int32))), some (.int (x4 + Int32.ofInt 1)), some (.int y18.1)]) rfl (by decide) rfl rfl dX12_readLead_99 ?_
  refine go_goto (tgt := 40) (by decide) dX12_readLead_102 ?_
  obtain rfl := Option.some.inj hs
  exact go_subL (L' := [some (.ref x0), some (.int (x1 - y18.1)), some (.int (x2 + (x3 * y18.1))), some (.int (x3 * (5 : Int32))), some (.int (x4 + Int32.ofInt 1)), none]) (by simp [subL, va_rf]) hk
noncomputable def fX12_readLead_40b (h : Hp) (x0 : Nat) (x1 : Int32) (x2 : Int32) (x3 : Int32) (x4 : Int32) : Option ((Int32 × Int32 × Int32 × Int32 × Hp) ⊕ Hp) :=
  (gN h 12 x0 4).bind fun v8 =>
  (aI 0 h v8 (1 : Int32)).bind fun v9 =>
  if v9 ≤ x4 then (
  (fX12_readLead_105 h x0 x2).map (fun q => .inr q)) else (
    (gI h 12 x0 11).bind fun v15 =>
    if v15 = 0 then (
      (gN h 12 x0 4).bind fun v16 =>
      (aI 0 h v16 (1 : Int32)).bind fun v17 =>
      if x4 = (v17 - (1 : Int32)) then (
        fX12_readLead_77 h x0 x1 x2 x3 x4 x0 x1) else (
        fX12_readLead_77 h x0 x1 x2 x3 x4 x0 (0 : Int32))) else (
    (fX12_readLead_105 h x0 x2).map (fun q => .inr q)))
noncomputable def fX12_readLead_40 (h : Hp) (x0 : Nat) (x1 : Int32) (x2 : Int32) (x3 : Int32) (x4 : Int32) : Option Hp := lpw (σ := (Int32 × Int32 × Int32 × Int32 × Hp)) (fun s => fX12_readLead_40b s.2.2.2.2 x0 s.1 s.2.1 s.2.2.1 s.2.2.2.1) (x1, x2, x3, x4, h)
theorem oX12_readLead_40b {d : Nat} (hd : 7 ≤ d) {h : Hp} {x0 : Nat} {x1 : Int32} {x2 : Int32} {x3 : Int32} {x4 : Int32} {rf : Option Value} {hf : Hp} {x : ((Int32 × Int32 × Int32 × Int32 × Hp) ⊕ Hp)} (hs : fX12_readLead_40b h x0 x1 x2 x3 x4 = some x) (hk : (Kx (pX12_readLead_40 d x0 rf hf) (kX12_readLead rf hf)) x) : Go d mX12_readLead 40 [some (.ref x0), some (.int x1), some (.int x2), some (.int x3), some (.int x4), none] [] h rf hf := by
  unfold fX12_readLead_40b at hs
  refine go_iload rfl dX12_readLead_40 ?_
  refine go_aload_n (k4 := 0) rfl (Or.inr ⟨_, rfl⟩) dX12_readLead_42 ?_
  obtain ⟨v8, ev8, hs⟩ := bindS hs
  refine go_gN fl_RX12_24 ev8 dX12_readLead_43 ?_
  refine go_iconst (v := 1) (by decide) dX12_readLead_46 ?_
  obtain ⟨v9, ev9, hs⟩ := bindS hs
  refine go_aIi ev9 dX12_readLead_47 ?_
  refine go_icmp_ge (tgt := 105) (by decide) dX12_readLead_48 (fun c => ?_) (fun c => ?_)
  · have hs := if_t c hs
    obtain ⟨q, hs2, hq⟩ := mapS hs
    clear hs
    subst hq
    exact go_subL (L' := [some (.ref x0), none, some (.int x2), none, none, none]) (by simp [subL, va_rf]) (oX12_readLead_105 hd hs2 hk)
  · have hs := if_f c hs
    refine go_aload_n (k4 := 0) rfl (Or.inr ⟨_, rfl⟩) dX12_readLead_51 ?_
    obtain ⟨v15, ev15, hs⟩ := bindS hs
    refine go_gI fl_RX12_139 ev15 dX12_readLead_52 ?_
    refine go_if_ne (tgt := 105) (by decide) dX12_readLead_55 (fun c => ?_) (fun c => ?_)
    · have hs := if_f c hs
      obtain ⟨q, hs2, hq⟩ := mapS hs
      clear hs
      subst hq
      exact go_subL (L' := [some (.ref x0), none, some (.int x2), none, none, none]) (by simp [subL, va_rf]) (oX12_readLead_105 hd hs2 hk)
    · have hs := if_t c hs
      refine go_aload_n (k4 := 0) rfl (Or.inr ⟨_, rfl⟩) dX12_readLead_58 ?_
      refine go_iload rfl dX12_readLead_59 ?_
      refine go_aload_n (k4 := 0) rfl (Or.inr ⟨_, rfl⟩) dX12_readLead_61 ?_
      obtain ⟨v16, ev16, hs⟩ := bindS hs
      refine go_gN fl_RX12_24 ev16 dX12_readLead_62 ?_
      refine go_iconst (v := 1) (by decide) dX12_readLead_65 ?_
      obtain ⟨v17, ev17, hs⟩ := bindS hs
      refine go_aIi ev17 dX12_readLead_66 ?_
      refine go_iconst (v := 1) (by decide) dX12_readLead_67 ?_
      refine go_at 68 rfl ?_
      refine go_isub dX12_readLead_68 ?_
      refine go_icmp_ne (tgt := 76) (by decide) dX12_readLead_69 (fun c => ?_) (fun c => ?_)
      · have hs := if_f c hs
        refine go_iconst (v := 0) (by decide) dX12_readLead_76 ?_
        exact go_subL (L' := [some (.ref x0), some (.int x1), some (.int x2), some (.int x3), some (.int x4), none]) (by simp [subL, va_rf]) (oX12_readLead_77 hd hs hk)
      · have hs := if_t c hs
        refine go_iload_n (k4 := 1) rfl dX12_readLead_72 ?_
        refine go_goto (tgt := 77) (by decide) dX12_readLead_73 ?_
        exact go_subL (L' := [some (.ref x0), some (.int x1), some (.int x2), some (.int x3), some (.int x4), none]) (by simp [subL, va_rf]) (oX12_readLead_77 hd hs hk)
theorem oX12_readLead_40 {d : Nat} (hd : 7 ≤ d) {h : Hp} {x0 : Nat} {x1 : Int32} {x2 : Int32} {x3 : Int32} {x4 : Int32} {rf : Option Value} {hf : Hp} {x : Hp} (hs : fX12_readLead_40 h x0 x1 x2 x3 x4 = some x) (hk : (kX12_readLead rf hf) x) : Go d mX12_readLead 40 [some (.ref x0), some (.int x1), some (.int x2), some (.int x3), some (.int x4), none] [] h rf hf := by
  unfold fX12_readLead_40 at hs
  exact lpw_go (P := pX12_readLead_40 d x0 rf hf) (fun s x hs hk => oX12_readLead_40b hd hs hk) (x1, x2, x3, x4, h) x hs hk
noncomputable def fX12_readLead_14 (h : Hp) (x0 : Nat) : Option Hp :=
  (gI h 12 x0 11).bind fun v3 =>
  if v3 = 0 then (
    gO h 12 x0 (
    (fX12_next h x0).bind fun y4 =>
    (gN y4 12 x0 4).bind fun v6 =>
    (aI 0 y4 v6 (2 : Int32)).bind fun v7 =>
    fX12_readLead_40 y4 x0 v7 (0 : Int32) (1 : Int32) (0 : Int32))) else (
    some (h))
theorem oX12_readLead_14 {d : Nat} (hd : 7 ≤ d) {h : Hp} {x0 : Nat} {rf : Option Value} {hf : Hp} {x : Hp} (hs : fX12_readLead_14 h x0 = some x) (hk : (kX12_readLead rf hf) x) : Go d mX12_readLead 14 [some (.ref x0), none, none, none, none, none] [] h rf hf := by
  unfold fX12_readLead_14 at hs
  refine go_aload_n (k4 := 0) rfl (Or.inr ⟨_, rfl⟩) dX12_readLead_14 ?_
  obtain ⟨v3, ev3, hs⟩ := bindS hs
  refine go_gI fl_RX12_139 ev3 dX12_readLead_15 ?_
  refine go_if_eq (tgt := 22) (by decide) dX12_readLead_18 (fun c => ?_) (fun c => ?_)
  · have hs := if_t c hs
    refine go_aload_n (k4 := 0) rfl (Or.inr ⟨_, rfl⟩) dX12_readLead_22 ?_
    obtain ⟨g5, hs⟩ := gO_at hs
    obtain ⟨y4, ey4, hs⟩ := bindS hs
    refine go_V0 (As := []) (st := []) g5 rfl rfl (oX12_next (d := d - 1) (by omega) ey4) (by omega) mb_X12_next lm_RX12_148 mi_X12_next (Nat.le_of_ble_eq_true rfl) rfl dX12_readLead_23 ?_
    refine go_aload_n (k4 := 0) rfl (Or.inr ⟨_, rfl⟩) dX12_readLead_26 ?_
    obtain ⟨v6, ev6, hs⟩ := bindS hs
    refine go_gN fl_RX12_24 ev6 dX12_readLead_27 ?_
    refine go_iconst (v := 2) (by decide) dX12_readLead_30 ?_
    obtain ⟨v7, ev7, hs⟩ := bindS hs
    refine go_aIi ev7 dX12_readLead_31 ?_
    refine go_istore_n (k4 := 1) (L' := [some (.ref x0), some (.int v7), none, none, none, none]) (by decide) rfl dX12_readLead_32 ?_
    refine go_at 33 rfl ?_
    refine go_iconst (v := 0) (by decide) dX12_readLead_33 ?_
    refine go_istore_n (k4 := 2) (L' := [some (.ref x0), some (.int v7), some (.int (0 : Int32)), none, none, none]) (by decide) rfl dX12_readLead_34 ?_
    refine go_iconst (v := 1) (by decide) dX12_readLead_35 ?_
    refine go_istore_n (k4 := 3) (L' := [some (.ref x0), some (.int v7), some (.int (0 : Int32)), some (.int (1 : Int32)), none, none]) (by decide) rfl dX12_readLead_36 ?_
    refine go_iconst (v := 0) (by decide) dX12_readLead_37 ?_
    refine go_istore (L' := [some (.ref x0), some (.int v7), some (.int (0 : Int32)), some (.int (1 : Int32)), some (.int (0 : Int32)), none]) (by decide) rfl dX12_readLead_38 ?_
    exact go_subL (L' := [some (.ref x0), some (.int v7), some (.int (0 : Int32)), some (.int (1 : Int32)), some (.int (0 : Int32)), none]) (by simp [subL, va_rf]) (oX12_readLead_40 hd hs hk)
  · have hs := if_f c hs
    obtain rfl := Option.some.inj hs
    obtain ⟨rfl, rfl⟩ := hk
    exact go_vret rfl dX12_readLead_21
noncomputable def fX12_readLead (h : Hp) (x0 : Nat) : Option Hp :=
  (gN h 12 x0 4).bind fun v1 =>
  (aI 0 h v1 (1 : Int32)).bind fun v2 =>
  if v2 = 0 then (
    gO h 12 x0 (
    (fX12_fails h x0 (2 : Int32)).bind fun y20 =>
    fX12_readLead_14 y20 x0)) else (
  fX12_readLead_14 h x0)
theorem oX12_readLead_0 {d : Nat} (hd : 7 ≤ d) {h : Hp} {x0 : Nat} {rf : Option Value} {hf : Hp} {x : Hp} (hs : fX12_readLead h x0 = some x) (hk : (kX12_readLead rf hf) x) : Go d mX12_readLead 0 [some (.ref x0), none, none, none, none, none] [] h rf hf := by
  unfold fX12_readLead at hs
  refine go_aload_n (k4 := 0) rfl (Or.inr ⟨_, rfl⟩) dX12_readLead_0 ?_
  obtain ⟨v1, ev1, hs⟩ := bindS hs
  refine go_gN fl_RX12_24 ev1 dX12_readLead_1 ?_
  refine go_iconst (v := 1) (by decide) dX12_readLead_4 ?_
  obtain ⟨v2, ev2, hs⟩ := bindS hs
  refine go_aIi ev2 dX12_readLead_5 ?_
  refine go_if_ne (tgt := 14) (by decide) dX12_readLead_6 (fun c => ?_) (fun c => ?_)
  · have hs := if_f c hs
    exact go_subL (L' := [some (.ref x0), none, none, none, none, none]) (by simp [subL, va_rf]) (oX12_readLead_14 hd hs hk)
  · have hs := if_t c hs
    refine go_aload_n (k4 := 0) rfl (Or.inr ⟨_, rfl⟩) dX12_readLead_9 ?_
    refine go_iconst (v := 2) (by decide) dX12_readLead_10 ?_
    obtain ⟨g21, hs⟩ := gO_at hs
    obtain ⟨y20, ey20, hs⟩ := bindS hs
    refine go_V0 (As := [.int (2 : Int32)]) (st := []) g21 rfl rfl (oX12_fails (d := d - 1) (by omega) ey20) (by omega) mb_X12_fails lm_RX12_151 mi_X12_fails (Nat.le_of_ble_eq_true rfl) rfl dX12_readLead_11 ?_
    exact go_subL (L' := [some (.ref x0), none, none, none, none, none]) (by simp [subL, va_rf]) (oX12_readLead_14 hd hs hk)
theorem oX12_readLead {d : Nat} (hd : 7 ≤ d) {h : Hp} {x0 : Nat} {y : Hp} (hs : fX12_readLead h x0 = some y) : Call d mX12_readLead [.ref x0] h (none) y := call_of (by decide +kernel) (Nat.le_of_ble_eq_true rfl) (show Go d mX12_readLead 0 [some (.ref x0), none, none, none, none, none] [] h _ _ from go_subL (by simp [subL]) (oX12_readLead_0 hd hs ⟨rfl, rfl⟩))
abbrev kX12_readLaw (rf : Option Value) (hf : Hp) : Hp → Prop := fun y => rf = none ∧ hf = y
noncomputable def fX12_readLaw_49 (h : Hp) (x0 : Nat) (x1 : Int32) (x2 : Int32) : Option Hp :=
  (gI h 12 x0 11).bind fun v10 =>
  if v10 = 0 then (
    (gN h 12 x0 4).bind fun v11 =>
    (wI 0 h v11 ((5 : Int32) + x1) (1 : Int32)).bind fun h12 =>
    (gN h12 12 x0 4).bind fun v13 =>
    (wI 0 h12 v13 ((7 : Int32) + x1) x2).bind fun h14 =>
    (gN h14 12 x0 4).bind fun v15 =>
    (gN h14 12 x0 4).bind fun v16 =>
    (aI 0 h14 v16 (137 : Int32)).bind fun v17 =>
    (wI 0 h14 v15 ((9 : Int32) + x1) (v17 - x2)).bind fun h18 =>
    some (h18)) else (
    some (h))
theorem oX12_readLaw_49 {d : Nat} (hd : 108 ≤ d) {h : Hp} {x0 : Nat} {x1 : Int32} {x2 : Int32} {rf : Option Value} {hf : Hp} {x : Hp} (hs : fX12_readLaw_49 h x0 x1 x2 = some x) (hk : (kX12_readLaw rf hf) x) : Go d mX12_readLaw 49 [some (.ref x0), some (.int x1), some (.int x2)] [] h rf hf := by
  unfold fX12_readLaw_49 at hs
  refine go_aload_n (k4 := 0) rfl (Or.inr ⟨_, rfl⟩) dX12_readLaw_49 ?_
  obtain ⟨v10, ev10, hs⟩ := bindS hs
  refine go_gI fl_RX12_139 ev10 dX12_readLaw_50 ?_
  refine go_if_eq (tgt := 57) (by decide) dX12_readLaw_53 (fun c => ?_) (fun c => ?_)
  · have hs := if_t c hs
    refine go_aload_n (k4 := 0) rfl (Or.inr ⟨_, rfl⟩) dX12_readLaw_57 ?_
    obtain ⟨v11, ev11, hs⟩ := bindS hs
    refine go_gN fl_RX12_24 ev11 dX12_readLaw_58 ?_
    refine go_iconst (v := 5) (by decide) dX12_readLaw_61 ?_
    refine go_iload_n (k4 := 1) rfl dX12_readLaw_62 ?_
    refine go_iadd dX12_readLaw_63 ?_
    refine go_iconst (v := 1) (by decide) dX12_readLaw_64 ?_
    obtain ⟨h12, eh12, hs⟩ := bindS hs
    refine go_wIi eh12 dX12_readLaw_65 ?_
    refine go_at 66 rfl ?_
    refine go_aload_n (k4 := 0) rfl (Or.inr ⟨_, rfl⟩) dX12_readLaw_66 ?_
    obtain ⟨v13, ev13, hs⟩ := bindS hs
    refine go_gN fl_RX12_24 ev13 dX12_readLaw_67 ?_
    refine go_bipush (v := 7) (by decide) dX12_readLaw_70 ?_
    refine go_iload_n (k4 := 1) rfl dX12_readLaw_72 ?_
    refine go_iadd dX12_readLaw_73 ?_
    refine go_iload_n (k4 := 2) rfl dX12_readLaw_74 ?_
    obtain ⟨h14, eh14, hs⟩ := bindS hs
    refine go_wIi eh14 dX12_readLaw_75 ?_
    refine go_aload_n (k4 := 0) rfl (Or.inr ⟨_, rfl⟩) dX12_readLaw_76 ?_
    refine go_at 77 rfl ?_
    obtain ⟨v15, ev15, hs⟩ := bindS hs
    refine go_gN fl_RX12_24 ev15 dX12_readLaw_77 ?_
    refine go_bipush (v := 9) (by decide) dX12_readLaw_80 ?_
    refine go_iload_n (k4 := 1) rfl dX12_readLaw_82 ?_
    refine go_iadd dX12_readLaw_83 ?_
    refine go_aload_n (k4 := 0) rfl (Or.inr ⟨_, rfl⟩) dX12_readLaw_84 ?_
    obtain ⟨v16, ev16, hs⟩ := bindS hs
    refine go_gN fl_RX12_24 ev16 dX12_readLaw_85 ?_
    refine go_sipush (v := 137) (by decide) dX12_readLaw_88 ?_
    obtain ⟨v17, ev17, hs⟩ := bindS hs
    refine go_aIi ev17 dX12_readLaw_91 ?_
    refine go_at 92 rfl ?_
    refine go_iload_n (k4 := 2) rfl dX12_readLaw_92 ?_
    refine go_isub dX12_readLaw_93 ?_
    obtain ⟨h18, eh18, hs⟩ := bindS hs
    refine go_wIi eh18 dX12_readLaw_94 ?_
    obtain rfl := Option.some.inj hs
    obtain ⟨rfl, rfl⟩ := hk
    exact go_vret rfl dX12_readLaw_95
  · have hs := if_f c hs
    obtain rfl := Option.some.inj hs
    obtain ⟨rfl, rfl⟩ := hk
    exact go_vret rfl dX12_readLaw_56
noncomputable def fX12_readLaw_18 (h : Hp) (x0 : Nat) (x1 : Int32) : Option Hp :=
  (gN h 12 x0 4).bind fun v5 =>
  (aI 0 h v5 (137 : Int32)).bind fun v6 =>
  (sV h 12 x0 15 (.int x1)).bind fun h7 =>
  if x1 = 0 then (
    gO h7 12 x0 (
    (rX12_readAtom 100 3 h7 x0 (0 : Int32)).bind fun y19 =>
    fX12_readLaw_49 y19 x0 x1 v6)) else (
    gO h7 12 x0 (
    (rX12_readAtom 100 6 h7 x0 (0 : Int32)).bind fun y8 =>
    fX12_readLaw_49 y8 x0 x1 v6))
theorem oX12_readLaw_18 {d : Nat} (hd : 108 ≤ d) {h : Hp} {x0 : Nat} {x1 : Int32} {rf : Option Value} {hf : Hp} {x : Hp} (hs : fX12_readLaw_18 h x0 x1 = some x) (hk : (kX12_readLaw rf hf) x) : Go d mX12_readLaw 18 [some (.ref x0), some (.int x1), none] [] h rf hf := by
  unfold fX12_readLaw_18 at hs
  refine go_aload_n (k4 := 0) rfl (Or.inr ⟨_, rfl⟩) dX12_readLaw_18 ?_
  obtain ⟨v5, ev5, hs⟩ := bindS hs
  refine go_gN fl_RX12_24 ev5 dX12_readLaw_19 ?_
  refine go_sipush (v := 137) (by decide) dX12_readLaw_22 ?_
  obtain ⟨v6, ev6, hs⟩ := bindS hs
  refine go_aIi ev6 dX12_readLaw_25 ?_
  refine go_istore_n (k4 := 2) (L' := [some (.ref x0), some (.int x1), some (.int v6)]) (by decide) rfl dX12_readLaw_26 ?_
  refine go_aload_n (k4 := 0) rfl (Or.inr ⟨_, rfl⟩) dX12_readLaw_27 ?_
  refine go_iload_n (k4 := 1) rfl dX12_readLaw_28 ?_
  refine go_at 29 rfl ?_
  obtain ⟨h7, eh7, hs⟩ := bindS hs
  refine go_sV fw_RX12_159 eh7 rfl rfl dX12_readLaw_29 ?_
  refine go_iload_n (k4 := 1) rfl dX12_readLaw_32 ?_
  refine go_if_ne (tgt := 44) (by decide) dX12_readLaw_33 (fun c => ?_) (fun c => ?_)
  · have hs := if_f c hs
    refine go_aload_n (k4 := 0) rfl (Or.inr ⟨_, rfl⟩) dX12_readLaw_44 ?_
    refine go_iconst (v := 0) (by decide) dX12_readLaw_45 ?_
    obtain ⟨g9, hs⟩ := gO_at hs
    obtain ⟨y8, ey8, hs⟩ := bindS hs
    refine go_V0 (As := [.int (0 : Int32)]) (st := []) g9 rfl rfl (show Call (d - 1) mX12_readTruth _ _ _ _ from orX12_readAtom 100 (d - 1) (by omega) 6 h7 x0 (0 : Int32) _ ey8) (by omega) mb_X12_readTruth lm_RX12_180 mi_X12_readTruth (Nat.le_of_ble_eq_true rfl) rfl dX12_readLaw_46 ?_
    exact go_subL (L' := [some (.ref x0), some (.int x1), some (.int v6)]) (by simp [subL, va_rf]) (oX12_readLaw_49 hd hs hk)
  · have hs := if_t c hs
    refine go_aload_n (k4 := 0) rfl (Or.inr ⟨_, rfl⟩) dX12_readLaw_36 ?_
    refine go_iconst (v := 0) (by decide) dX12_readLaw_37 ?_
    obtain ⟨g20, hs⟩ := gO_at hs
    obtain ⟨y19, ey19, hs⟩ := bindS hs
    refine go_V0 (As := [.int (0 : Int32)]) (st := []) g20 rfl rfl (show Call (d - 1) mX12_readSum _ _ _ _ from orX12_readAtom 100 (d - 1) (by omega) 3 h7 x0 (0 : Int32) _ ey19) (by omega) mb_X12_readSum lm_RX12_171 mi_X12_readSum (Nat.le_of_ble_eq_true rfl) rfl dX12_readLaw_38 ?_
    refine go_goto (tgt := 49) (by decide) dX12_readLaw_41 ?_
    exact go_subL (L' := [some (.ref x0), some (.int x1), some (.int v6)]) (by simp [subL, va_rf]) (oX12_readLaw_49 hd hs hk)
noncomputable def fX12_readLaw (h : Hp) (x0 : Nat) (x1 : Int32) : Option Hp :=
  gO h 12 x0 (
  (fX12_next h x0).bind fun y1 =>
  gO y1 12 x0 (
  (fX12_eats y1 x0 (31 : Int32)).bind fun y3 =>
  if y3.1 = 0 then (
    gO y3.2 12 x0 (
    (fX12_fails y3.2 x0 (2 : Int32)).bind fun y21 =>
    fX12_readLaw_18 y21 x0 x1)) else (
  fX12_readLaw_18 y3.2 x0 x1)))
theorem oX12_readLaw_0 {d : Nat} (hd : 108 ≤ d) {h : Hp} {x0 : Nat} {x1 : Int32} {rf : Option Value} {hf : Hp} {x : Hp} (hs : fX12_readLaw h x0 x1 = some x) (hk : (kX12_readLaw rf hf) x) : Go d mX12_readLaw 0 [some (.ref x0), some (.int x1), none] [] h rf hf := by
  unfold fX12_readLaw at hs
  refine go_aload_n (k4 := 0) rfl (Or.inr ⟨_, rfl⟩) dX12_readLaw_0 ?_
  obtain ⟨g2, hs⟩ := gO_at hs
  obtain ⟨y1, ey1, hs⟩ := bindS hs
  refine go_V0 (As := []) (st := []) g2 rfl rfl (oX12_next (d := d - 1) (by omega) ey1) (by omega) mb_X12_next lm_RX12_148 mi_X12_next (Nat.le_of_ble_eq_true rfl) rfl dX12_readLaw_1 ?_
  refine go_aload_n (k4 := 0) rfl (Or.inr ⟨_, rfl⟩) dX12_readLaw_4 ?_
  refine go_bipush (v := 31) (by decide) dX12_readLaw_5 ?_
  obtain ⟨g4, hs⟩ := gO_at hs
  obtain ⟨y3, ey3, hs⟩ := bindS hs
  refine go_V1 (As := [.int (31 : Int32)]) (st := []) g4 rfl rfl (oX12_eats (d := d - 1) (by omega) ey3) (by omega) mb_X12_eats lm_RX12_174 mi_X12_eats (Nat.le_of_ble_eq_true rfl) rfl dX12_readLaw_7 ?_
  refine go_if_ne (tgt := 18) (by decide) dX12_readLaw_10 (fun c => ?_) (fun c => ?_)
  · have hs := if_f c hs
    exact go_subL (L' := [some (.ref x0), some (.int x1), none]) (by simp [subL, va_rf]) (oX12_readLaw_18 hd hs hk)
  · have hs := if_t c hs
    refine go_aload_n (k4 := 0) rfl (Or.inr ⟨_, rfl⟩) dX12_readLaw_13 ?_
    refine go_iconst (v := 2) (by decide) dX12_readLaw_14 ?_
    obtain ⟨g22, hs⟩ := gO_at hs
    obtain ⟨y21, ey21, hs⟩ := bindS hs
    refine go_V0 (As := [.int (2 : Int32)]) (st := []) g22 rfl rfl (oX12_fails (d := d - 1) (by omega) ey21) (by omega) mb_X12_fails lm_RX12_151 mi_X12_fails (Nat.le_of_ble_eq_true rfl) rfl dX12_readLaw_15 ?_
    exact go_subL (L' := [some (.ref x0), some (.int x1), none]) (by simp [subL, va_rf]) (oX12_readLaw_18 hd hs hk)
theorem oX12_readLaw {d : Nat} (hd : 108 ≤ d) {h : Hp} {x0 : Nat} {x1 : Int32} {y : Hp} (hs : fX12_readLaw h x0 x1 = some y) : Call d mX12_readLaw [.ref x0, .int x1] h (none) y := call_of (by decide +kernel) (Nat.le_of_ble_eq_true rfl) (show Go d mX12_readLaw 0 [some (.ref x0), some (.int x1), none] [] h _ _ from go_subL (by simp [subL]) (oX12_readLaw_0 hd hs ⟨rfl, rfl⟩))
abbrev kX12_readLine (rf : Option Value) (hf : Hp) : Hp → Prop := fun y => rf = none ∧ hf = y
noncomputable def fX12_readLine_100 (h : Hp)  : Option Hp :=
  some (h)
theorem oX12_readLine_100 {d : Nat} (hd : 109 ≤ d) {h : Hp} {rf : Option Value} {hf : Hp} {x : Hp} (hs : fX12_readLine_100 h  = some x) (hk : (kX12_readLine rf hf) x) : Go d mX12_readLine 100 [none] [] h rf hf := by
  unfold fX12_readLine_100 at hs
  obtain rfl := Option.some.inj hs
  obtain ⟨rfl, rfl⟩ := hk
  exact go_vret rfl dX12_readLine_100
noncomputable def fX12_readLine_81 (h : Hp) (x0 : Nat) : Option Hp :=
  (gI h 12 x0 9).bind fun v10 =>
  gO h 12 x0 (
  (fX12_readLaw h x0 (v10 - (7 : Int32))).bind fun y11 =>
  fX12_readLine_100 y11 )
theorem oX12_readLine_81 {d : Nat} (hd : 109 ≤ d) {h : Hp} {x0 : Nat} {rf : Option Value} {hf : Hp} {x : Hp} (hs : fX12_readLine_81 h x0 = some x) (hk : (kX12_readLine rf hf) x) : Go d mX12_readLine 81 [some (.ref x0)] [] h rf hf := by
  unfold fX12_readLine_81 at hs
  refine go_aload_n (k4 := 0) rfl (Or.inr ⟨_, rfl⟩) dX12_readLine_81 ?_
  refine go_aload_n (k4 := 0) rfl (Or.inr ⟨_, rfl⟩) dX12_readLine_82 ?_
  obtain ⟨v10, ev10, hs⟩ := bindS hs
  refine go_gI fl_RX12_121 ev10 dX12_readLine_83 ?_
  refine go_bipush (v := 7) (by decide) dX12_readLine_86 ?_
  refine go_isub dX12_readLine_88 ?_
  obtain ⟨g12, hs⟩ := gO_at hs
  obtain ⟨y11, ey11, hs⟩ := bindS hs
  refine go_V0 (As := [.int (v10 - (7 : Int32))]) (st := []) g12 rfl rfl (oX12_readLaw (d := d - 1) (by omega) ey11) (by omega) mb_X12_readLaw lm_RX12_205 mi_X12_readLaw (Nat.le_of_ble_eq_true rfl) rfl dX12_readLine_89 ?_
  refine go_goto (tgt := 100) (by decide) dX12_readLine_92 ?_
  exact go_subL (L' := [none]) (by simp [subL, va_rf]) (oX12_readLine_100 hd hs hk)
noncomputable def fX12_readLine (h : Hp) (x0 : Nat) : Option Hp :=
  (gI h 12 x0 11).bind fun v1 =>
  if v1 = 0 then (
    gO h 12 x0 (
    (fX12_is h x0 (2 : Int32)).bind fun y2 =>
    if y2 = 0 then (
      gO h 12 x0 (
      (fX12_is h x0 (5 : Int32)).bind fun y4 =>
      if y4 = 0 then (
        gO h 12 x0 (
        (fX12_eats h x0 (6 : Int32)).bind fun y6 =>
        if y6.1 = 0 then (
          gO y6.2 12 x0 (
          (fX12_is y6.2 x0 (7 : Int32)).bind fun y8 =>
          if y8 = 0 then (
            gO y6.2 12 x0 (
            (fX12_is y6.2 x0 (8 : Int32)).bind fun y13 =>
            if y13 = 0 then (
              gO y6.2 12 x0 (
              (fX12_fails y6.2 x0 (2 : Int32)).bind fun y15 =>
              fX12_readLine_100 y15 )) else (
            fX12_readLine_81 y6.2 x0))) else (
          fX12_readLine_81 y6.2 x0))) else (
          (gN y6.2 12 x0 4).bind fun v17 =>
          gO y6.2 12 x0 (
          (fX12_takes y6.2 x0 (0 : Int32) (10 : Int32)).bind fun y18 =>
          (wI 0 y18.2 v17 (4 : Int32) y18.1).bind fun h20 =>
          fX12_readLine_100 h20 )))) else (
        gO h 12 x0 (
        (fX12_readLead h x0).bind fun y21 =>
        fX12_readLine_100 y21 )))) else (
      gO h 12 x0 (
      (fX12_readPair h x0).bind fun y23 =>
      fX12_readLine_100 y23 )))) else (
    some (h))
theorem oX12_readLine_0 {d : Nat} (hd : 109 ≤ d) {h : Hp} {x0 : Nat} {rf : Option Value} {hf : Hp} {x : Hp} (hs : fX12_readLine h x0 = some x) (hk : (kX12_readLine rf hf) x) : Go d mX12_readLine 0 [some (.ref x0)] [] h rf hf := by
  unfold fX12_readLine at hs
  refine go_aload_n (k4 := 0) rfl (Or.inr ⟨_, rfl⟩) dX12_readLine_0 ?_
  obtain ⟨v1, ev1, hs⟩ := bindS hs
  refine go_gI fl_RX12_139 ev1 dX12_readLine_1 ?_
  refine go_if_eq (tgt := 8) (by decide) dX12_readLine_4 (fun c => ?_) (fun c => ?_)
  · have hs := if_t c hs
    refine go_aload_n (k4 := 0) rfl (Or.inr ⟨_, rfl⟩) dX12_readLine_8 ?_
    refine go_iconst (v := 2) (by decide) dX12_readLine_9 ?_
    obtain ⟨g3, hs⟩ := gO_at hs
    obtain ⟨y2, ey2, hs⟩ := bindS hs
    refine go_V1 (As := [.int (2 : Int32)]) (st := []) g3 rfl rfl (oX12_is (d := d - 1) (by omega) ey2) (by omega) mb_X12_is lm_RX12_145 mi_X12_is (Nat.le_of_ble_eq_true rfl) rfl dX12_readLine_10 ?_
    refine go_if_eq (tgt := 23) (by decide) dX12_readLine_13 (fun c => ?_) (fun c => ?_)
    · have hs := if_t c hs
      refine go_aload_n (k4 := 0) rfl (Or.inr ⟨_, rfl⟩) dX12_readLine_23 ?_
      refine go_iconst (v := 5) (by decide) dX12_readLine_24 ?_
      obtain ⟨g5, hs⟩ := gO_at hs
      obtain ⟨y4, ey4, hs⟩ := bindS hs
      refine go_V1 (As := [.int (5 : Int32)]) (st := []) g5 rfl rfl (oX12_is (d := d - 1) (by omega) ey4) (by omega) mb_X12_is lm_RX12_145 mi_X12_is (Nat.le_of_ble_eq_true rfl) rfl dX12_readLine_25 ?_
      refine go_if_eq (tgt := 38) (by decide) dX12_readLine_28 (fun c => ?_) (fun c => ?_)
      · have hs := if_t c hs
        refine go_aload_n (k4 := 0) rfl (Or.inr ⟨_, rfl⟩) dX12_readLine_38 ?_
        refine go_bipush (v := 6) (by decide) dX12_readLine_39 ?_
        obtain ⟨g7, hs⟩ := gO_at hs
        obtain ⟨y6, ey6, hs⟩ := bindS hs
        refine go_V1 (As := [.int (6 : Int32)]) (st := []) g7 rfl rfl (oX12_eats (d := d - 1) (by omega) ey6) (by omega) mb_X12_eats lm_RX12_174 mi_X12_eats (Nat.le_of_ble_eq_true rfl) rfl dX12_readLine_41 ?_
        refine go_if_eq (tgt := 63) (by decide) dX12_readLine_44 (fun c => ?_) (fun c => ?_)
        · have hs := if_t c hs
          refine go_aload_n (k4 := 0) rfl (Or.inr ⟨_, rfl⟩) dX12_readLine_63 ?_
          refine go_bipush (v := 7) (by decide) dX12_readLine_64 ?_
          obtain ⟨g9, hs⟩ := gO_at hs
          obtain ⟨y8, ey8, hs⟩ := bindS hs
          refine go_V1 (As := [.int (7 : Int32)]) (st := []) g9 rfl rfl (oX12_is (d := d - 1) (by omega) ey8) (by omega) mb_X12_is lm_RX12_145 mi_X12_is (Nat.le_of_ble_eq_true rfl) rfl dX12_readLine_66 ?_
          refine go_if_ne (tgt := 81) (by decide) dX12_readLine_69 (fun c => ?_) (fun c => ?_)
          · have hs := if_f c hs
            exact go_subL (L' := [some (.ref x0)]) (by simp [subL, va_rf]) (oX12_readLine_81 hd hs hk)
          · have hs := if_t c hs
            refine go_aload_n (k4 := 0) rfl (Or.inr ⟨_, rfl⟩) dX12_readLine_72 ?_
            refine go_bipush (v := 8) (by decide) dX12_readLine_73 ?_
            obtain ⟨g14, hs⟩ := gO_at hs
            obtain ⟨y13, ey13, hs⟩ := bindS hs
            refine go_V1 (As := [.int (8 : Int32)]) (st := []) g14 rfl rfl (oX12_is (d := d - 1) (by omega) ey13) (by omega) mb_X12_is lm_RX12_145 mi_X12_is (Nat.le_of_ble_eq_true rfl) rfl dX12_readLine_75 ?_
            refine go_if_eq (tgt := 95) (by decide) dX12_readLine_78 (fun c => ?_) (fun c => ?_)
            · have hs := if_t c hs
              refine go_aload_n (k4 := 0) rfl (Or.inr ⟨_, rfl⟩) dX12_readLine_95 ?_
              refine go_iconst (v := 2) (by decide) dX12_readLine_96 ?_
              obtain ⟨g16, hs⟩ := gO_at hs
              obtain ⟨y15, ey15, hs⟩ := bindS hs
              refine go_V0 (As := [.int (2 : Int32)]) (st := []) g16 rfl rfl (oX12_fails (d := d - 1) (by omega) ey15) (by omega) mb_X12_fails lm_RX12_151 mi_X12_fails (Nat.le_of_ble_eq_true rfl) rfl dX12_readLine_97 ?_
              exact go_subL (L' := [none]) (by simp [subL, va_rf]) (oX12_readLine_100 hd hs hk)
            · have hs := if_f c hs
              exact go_subL (L' := [some (.ref x0)]) (by simp [subL, va_rf]) (oX12_readLine_81 hd hs hk)
        · have hs := if_f c hs
          refine go_aload_n (k4 := 0) rfl (Or.inr ⟨_, rfl⟩) dX12_readLine_47 ?_
          obtain ⟨v17, ev17, hs⟩ := bindS hs
          refine go_gN fl_RX12_24 ev17 dX12_readLine_48 ?_
          refine go_iconst (v := 4) (by decide) dX12_readLine_51 ?_
          refine go_aload_n (k4 := 0) rfl (Or.inr ⟨_, rfl⟩) dX12_readLine_52 ?_
          refine go_iconst (v := 0) (by decide) dX12_readLine_53 ?_
          refine go_bipush (v := 10) (by decide) dX12_readLine_54 ?_
          obtain ⟨g19, hs⟩ := gO_at hs
          obtain ⟨y18, ey18, hs⟩ := bindS hs
          refine go_V1 (As := [.int (0 : Int32), .int (10 : Int32)]) (st := [.int (4 : Int32), .ref v17]) g19 rfl rfl (oX12_takes (d := d - 1) (by omega) ey18) (by omega) mb_X12_takes lm_RX12_195 mi_X12_takes (Nat.le_of_ble_eq_true rfl) rfl dX12_readLine_56 ?_
          refine go_at 59 rfl ?_
          obtain ⟨h20, eh20, hs⟩ := bindS hs
          refine go_wIi eh20 dX12_readLine_59 ?_
          refine go_goto (tgt := 100) (by decide) dX12_readLine_60 ?_
          exact go_subL (L' := [none]) (by simp [subL, va_rf]) (oX12_readLine_100 hd hs hk)
      · have hs := if_f c hs
        refine go_aload_n (k4 := 0) rfl (Or.inr ⟨_, rfl⟩) dX12_readLine_31 ?_
        obtain ⟨g22, hs⟩ := gO_at hs
        obtain ⟨y21, ey21, hs⟩ := bindS hs
        refine go_V0 (As := []) (st := []) g22 rfl rfl (oX12_readLead (d := d - 1) (by omega) ey21) (by omega) mb_X12_readLead lm_RX12_202 mi_X12_readLead (Nat.le_of_ble_eq_true rfl) rfl dX12_readLine_32 ?_
        refine go_goto (tgt := 100) (by decide) dX12_readLine_35 ?_
        exact go_subL (L' := [none]) (by simp [subL, va_rf]) (oX12_readLine_100 hd hs hk)
    · have hs := if_f c hs
      refine go_aload_n (k4 := 0) rfl (Or.inr ⟨_, rfl⟩) dX12_readLine_16 ?_
      obtain ⟨g24, hs⟩ := gO_at hs
      obtain ⟨y23, ey23, hs⟩ := bindS hs
      refine go_V0 (As := []) (st := []) g24 rfl rfl (oX12_readPair (d := d - 1) (by omega) ey23) (by omega) mb_X12_readPair lm_RX12_199 mi_X12_readPair (Nat.le_of_ble_eq_true rfl) rfl dX12_readLine_17 ?_
      refine go_goto (tgt := 100) (by decide) dX12_readLine_20 ?_
      exact go_subL (L' := [none]) (by simp [subL, va_rf]) (oX12_readLine_100 hd hs hk)
  · have hs := if_f c hs
    obtain rfl := Option.some.inj hs
    obtain ⟨rfl, rfl⟩ := hk
    exact go_vret rfl dX12_readLine_7
theorem oX12_readLine {d : Nat} (hd : 109 ≤ d) {h : Hp} {x0 : Nat} {y : Hp} (hs : fX12_readLine h x0 = some y) : Call d mX12_readLine [.ref x0] h (none) y := call_of (by decide +kernel) (Nat.le_of_ble_eq_true rfl) (show Go d mX12_readLine 0 [some (.ref x0)] [] h _ _ from go_subL (by simp [subL]) (oX12_readLine_0 hd hs ⟨rfl, rfl⟩))
abbrev kX12_ends (rf : Option Value) (hf : Hp) : Hp → Prop := fun y => rf = none ∧ hf = y
noncomputable def fX12_ends_14 (h : Hp) (x0 : Nat) : Option Hp :=
  (gN h 12 x0 4).bind fun v3 =>
  (aI 0 h v3 (0 : Int32)).bind fun v4 =>
  (wI 0 h v3 (0 : Int32) (v4 + (1 : Int32))).bind fun h5 =>
  some (h5)
theorem oX12_ends_14 {d : Nat} (hd : 7 ≤ d) {h : Hp} {x0 : Nat} {rf : Option Value} {hf : Hp} {x : Hp} (hs : fX12_ends_14 h x0 = some x) (hk : (kX12_ends rf hf) x) : Go d mX12_ends 14 [some (.ref x0)] [] h rf hf := by
  unfold fX12_ends_14 at hs
  refine go_aload_n (k4 := 0) rfl (Or.inr ⟨_, rfl⟩) dX12_ends_14 ?_
  obtain ⟨v3, ev3, hs⟩ := bindS hs
  refine go_gN fl_RX12_24 ev3 dX12_ends_15 ?_
  refine go_iconst (v := 0) (by decide) dX12_ends_18 ?_
  refine go_dup2_11 rfl rfl dX12_ends_19 ?_
  obtain ⟨v4, ev4, hs⟩ := bindS hs
  refine go_aIi ev4 dX12_ends_20 ?_
  refine go_iconst (v := 1) (by decide) dX12_ends_21 ?_
  refine go_iadd dX12_ends_22 ?_
  refine go_at 23 rfl ?_
  obtain ⟨h5, eh5, hs⟩ := bindS hs
  refine go_wIi eh5 dX12_ends_23 ?_
  obtain rfl := Option.some.inj hs
  obtain ⟨rfl, rfl⟩ := hk
  exact go_vret rfl dX12_ends_24
noncomputable def fX12_ends (h : Hp) (x0 : Nat) : Option Hp :=
  gO h 12 x0 (
  (fX12_eats h x0 (30 : Int32)).bind fun y1 =>
  if y1.1 = 0 then (
    gO y1.2 12 x0 (
    (fX12_fails y1.2 x0 (2 : Int32)).bind fun y6 =>
    fX12_ends_14 y6 x0)) else (
  fX12_ends_14 y1.2 x0))
theorem oX12_ends_0 {d : Nat} (hd : 7 ≤ d) {h : Hp} {x0 : Nat} {rf : Option Value} {hf : Hp} {x : Hp} (hs : fX12_ends h x0 = some x) (hk : (kX12_ends rf hf) x) : Go d mX12_ends 0 [some (.ref x0)] [] h rf hf := by
  unfold fX12_ends at hs
  refine go_aload_n (k4 := 0) rfl (Or.inr ⟨_, rfl⟩) dX12_ends_0 ?_
  refine go_bipush (v := 30) (by decide) dX12_ends_1 ?_
  obtain ⟨g2, hs⟩ := gO_at hs
  obtain ⟨y1, ey1, hs⟩ := bindS hs
  refine go_V1 (As := [.int (30 : Int32)]) (st := []) g2 rfl rfl (oX12_eats (d := d - 1) (by omega) ey1) (by omega) mb_X12_eats lm_RX12_174 mi_X12_eats (Nat.le_of_ble_eq_true rfl) rfl dX12_ends_3 ?_
  refine go_if_ne (tgt := 14) (by decide) dX12_ends_6 (fun c => ?_) (fun c => ?_)
  · have hs := if_f c hs
    exact go_subL (L' := [some (.ref x0)]) (by simp [subL, va_rf]) (oX12_ends_14 hd hs hk)
  · have hs := if_t c hs
    refine go_aload_n (k4 := 0) rfl (Or.inr ⟨_, rfl⟩) dX12_ends_9 ?_
    refine go_iconst (v := 2) (by decide) dX12_ends_10 ?_
    obtain ⟨g7, hs⟩ := gO_at hs
    obtain ⟨y6, ey6, hs⟩ := bindS hs
    refine go_V0 (As := [.int (2 : Int32)]) (st := []) g7 rfl rfl (oX12_fails (d := d - 1) (by omega) ey6) (by omega) mb_X12_fails lm_RX12_151 mi_X12_fails (Nat.le_of_ble_eq_true rfl) rfl dX12_ends_11 ?_
    exact go_subL (L' := [some (.ref x0)]) (by simp [subL, va_rf]) (oX12_ends_14 hd hs hk)
theorem oX12_ends {d : Nat} (hd : 7 ≤ d) {h : Hp} {x0 : Nat} {y : Hp} (hs : fX12_ends h x0 = some y) : Call d mX12_ends [.ref x0] h (none) y := call_of (by decide +kernel) (Nat.le_of_ble_eq_true rfl) (show Go d mX12_ends 0 [some (.ref x0)] [] h _ _ from go_subL (by simp [subL]) (oX12_ends_0 hd hs ⟨rfl, rfl⟩))
abbrev kX12_cave (rf : Option Value) (hf : Hp) : (Int32 × Hp) → Prop := fun y => rf = some (.int y.1) ∧ hf = y.2
abbrev pX12_cave_95 (d : Nat) (x0 : Nat) (rf : Option Value) (hf : Hp) : Hp → Prop := fun s => Go d mX12_cave 95 [some (.ref x0), none, none] [] s rf hf
abbrev pX12_cave_166 (d : Nat) (x0 : Nat) (rf : Option Value) (hf : Hp) : (Int32 × Hp) → Prop := fun s => Go d mX12_cave 166 [some (.ref x0), none, some (.int s.1)] [] s.2 rf hf
abbrev pX12_cave_193 (d : Nat) (x0 : Nat) (rf : Option Value) (hf : Hp) : (Int32 × Hp) → Prop := fun s => Go d mX12_cave 193 [some (.ref x0), none, some (.int s.1)] [] s.2 rf hf
noncomputable def fX12_cave_253 (h : Hp) (x0 : Nat) : Option (Int32 × Hp) :=
  (gN h 12 x0 1).bind fun v31 =>
  (aI 0 h v31 (0 : Int32)).bind fun v32 =>
  some ((v32, h))
theorem oX12_cave_253 {d : Nat} (hd : 110 ≤ d) {h : Hp} {x0 : Nat} {rf : Option Value} {hf : Hp} {x : (Int32 × Hp)} (hs : fX12_cave_253 h x0 = some x) (hk : (kX12_cave rf hf) x) : Go d mX12_cave 253 [some (.ref x0), none, none] [] h rf hf := by
  unfold fX12_cave_253 at hs
  refine go_aload_n (k4 := 0) rfl (Or.inr ⟨_, rfl⟩) dX12_cave_253 ?_
  obtain ⟨v31, ev31, hs⟩ := bindS hs
  refine go_gN fl_RX12_13 ev31 dX12_cave_254 ?_
  refine go_iconst (v := 0) (by decide) dX12_cave_257 ?_
  obtain ⟨v32, ev32, hs⟩ := bindS hs
  refine go_aIi ev32 dX12_cave_258 ?_
  obtain rfl := Option.some.inj hs
  obtain ⟨rfl, rfl⟩ := hk
  exact go_iret rfl dX12_cave_259
noncomputable def fX12_cave_222 (h : Hp) (x0 : Nat) : Option (Int32 × Hp) :=
  (gN h 12 x0 1).bind fun v29 =>
  (aI 0 h v29 (3 : Int32)).bind fun v30 =>
  if v30 = 0 then (
    (gN h 12 x0 1).bind fun v33 =>
    (aI 0 h v33 (1 : Int32)).bind fun v34 =>
    if v34 ≤ 0 then (
    fX12_cave_253 h x0) else (
      (gN h 12 x0 1).bind fun v35 =>
      (gN h 12 x0 1).bind fun v36 =>
      (aI 0 h v36 (2 : Int32)).bind fun v37 =>
      (wI 0 h v35 (23 : Int32) v37).bind fun h38 =>
      fX12_cave_253 h38 x0)) else (
  fX12_cave_253 h x0)
theorem oX12_cave_222 {d : Nat} (hd : 110 ≤ d) {h : Hp} {x0 : Nat} {rf : Option Value} {hf : Hp} {x : (Int32 × Hp)} (hs : fX12_cave_222 h x0 = some x) (hk : (kX12_cave rf hf) x) : Go d mX12_cave 222 [some (.ref x0), none, none] [] h rf hf := by
  unfold fX12_cave_222 at hs
  refine go_aload_n (k4 := 0) rfl (Or.inr ⟨_, rfl⟩) dX12_cave_222 ?_
  obtain ⟨v29, ev29, hs⟩ := bindS hs
  refine go_gN fl_RX12_13 ev29 dX12_cave_223 ?_
  refine go_iconst (v := 3) (by decide) dX12_cave_226 ?_
  obtain ⟨v30, ev30, hs⟩ := bindS hs
  refine go_aIi ev30 dX12_cave_227 ?_
  refine go_if_ne (tgt := 253) (by decide) dX12_cave_228 (fun c => ?_) (fun c => ?_)
  · have hs := if_f c hs
    exact go_subL (L' := [some (.ref x0), none, none]) (by simp [subL, va_rf]) (oX12_cave_253 hd hs hk)
  · have hs := if_t c hs
    refine go_aload_n (k4 := 0) rfl (Or.inr ⟨_, rfl⟩) dX12_cave_231 ?_
    obtain ⟨v33, ev33, hs⟩ := bindS hs
    refine go_gN fl_RX12_13 ev33 dX12_cave_232 ?_
    refine go_iconst (v := 1) (by decide) dX12_cave_235 ?_
    obtain ⟨v34, ev34, hs⟩ := bindS hs
    refine go_aIi ev34 dX12_cave_236 ?_
    refine go_if_le (tgt := 253) (by decide) dX12_cave_237 (fun c => ?_) (fun c => ?_)
    · have hs := if_t c hs
      exact go_subL (L' := [some (.ref x0), none, none]) (by simp [subL, va_rf]) (oX12_cave_253 hd hs hk)
    · have hs := if_f c hs
      refine go_aload_n (k4 := 0) rfl (Or.inr ⟨_, rfl⟩) dX12_cave_240 ?_
      obtain ⟨v35, ev35, hs⟩ := bindS hs
      refine go_gN fl_RX12_13 ev35 dX12_cave_241 ?_
      refine go_bipush (v := 23) (by decide) dX12_cave_244 ?_
      refine go_aload_n (k4 := 0) rfl (Or.inr ⟨_, rfl⟩) dX12_cave_246 ?_
      obtain ⟨v36, ev36, hs⟩ := bindS hs
      refine go_gN fl_RX12_13 ev36 dX12_cave_247 ?_
      refine go_iconst (v := 2) (by decide) dX12_cave_250 ?_
      obtain ⟨v37, ev37, hs⟩ := bindS hs
      refine go_aIi ev37 dX12_cave_251 ?_
      refine go_at 252 rfl ?_
      obtain ⟨h38, eh38, hs⟩ := bindS hs
      refine go_wIi eh38 dX12_cave_252 ?_
      exact go_subL (L' := [some (.ref x0), none, none]) (by simp [subL, va_rf]) (oX12_cave_253 hd hs hk)
noncomputable def fX12_cave_193b (h : Hp) (x0 : Nat) (x2 : Int32) : Option ((Int32 × Hp) ⊕ (Int32 × Hp)) :=
  if (4 : Int32) ≤ x2 then (
  (fX12_cave_222 h x0).map (fun q => .inr q)) else (
    (gN h 12 x0 1).bind fun v39 =>
    (gN h 12 x0 1).bind fun v40 =>
    (aI 0 h v40 ((11 : Int32) + x2)).bind fun v41 =>
    (wI 0 h v39 ((15 : Int32) + x2) v41).bind fun h42 =>
    some (.inl ((x2 + Int32.ofInt 1), h42)))
noncomputable def fX12_cave_193 (h : Hp) (x0 : Nat) (x2 : Int32) : Option (Int32 × Hp) := lpw (σ := (Int32 × Hp)) (fun s => fX12_cave_193b s.2 x0 s.1) (x2, h)
theorem oX12_cave_193b {d : Nat} (hd : 110 ≤ d) {h : Hp} {x0 : Nat} {x2 : Int32} {rf : Option Value} {hf : Hp} {x : ((Int32 × Hp) ⊕ (Int32 × Hp))} (hs : fX12_cave_193b h x0 x2 = some x) (hk : (Kx (pX12_cave_193 d x0 rf hf) (kX12_cave rf hf)) x) : Go d mX12_cave 193 [some (.ref x0), none, some (.int x2)] [] h rf hf := by
  unfold fX12_cave_193b at hs
  refine go_iload_n (k4 := 2) rfl dX12_cave_193 ?_
  refine go_iconst (v := 4) (by decide) dX12_cave_194 ?_
  refine go_icmp_ge (tgt := 222) (by decide) dX12_cave_195 (fun c => ?_) (fun c => ?_)
  · have hs := if_t c hs
    obtain ⟨q, hs2, hq⟩ := mapS hs
    clear hs
    subst hq
    exact go_subL (L' := [some (.ref x0), none, none]) (by simp [subL, va_rf]) (oX12_cave_222 hd hs2 hk)
  · have hs := if_f c hs
    refine go_aload_n (k4 := 0) rfl (Or.inr ⟨_, rfl⟩) dX12_cave_198 ?_
    obtain ⟨v39, ev39, hs⟩ := bindS hs
    refine go_gN fl_RX12_13 ev39 dX12_cave_199 ?_
    refine go_bipush (v := 15) (by decide) dX12_cave_202 ?_
    refine go_iload_n (k4 := 2) rfl dX12_cave_204 ?_
    refine go_iadd dX12_cave_205 ?_
    refine go_aload_n (k4 := 0) rfl (Or.inr ⟨_, rfl⟩) dX12_cave_206 ?_
    obtain ⟨v40, ev40, hs⟩ := bindS hs
    refine go_gN fl_RX12_13 ev40 dX12_cave_207 ?_
    refine go_at 210 rfl ?_
    refine go_bipush (v := 11) (by decide) dX12_cave_210 ?_
    refine go_iload_n (k4 := 2) rfl dX12_cave_212 ?_
    refine go_iadd dX12_cave_213 ?_
    obtain ⟨v41, ev41, hs⟩ := bindS hs
    refine go_aIi ev41 dX12_cave_214 ?_
    obtain ⟨h42, eh42, hs⟩ := bindS hs
    refine go_wIi eh42 dX12_cave_215 ?_
    refine go_iinc (L' := [some (.ref x0), none, some (.int (x2 + Int32.ofInt 1))]) rfl (by decide) rfl rfl dX12_cave_216 ?_
    refine go_goto (tgt := 193) (by decide) dX12_cave_219 ?_
    obtain rfl := Option.some.inj hs
    exact go_subL (L' := [some (.ref x0), none, some (.int (x2 + Int32.ofInt 1))]) (by simp [subL, va_rf]) hk
theorem oX12_cave_193 {d : Nat} (hd : 110 ≤ d) {h : Hp} {x0 : Nat} {x2 : Int32} {rf : Option Value} {hf : Hp} {x : (Int32 × Hp)} (hs : fX12_cave_193 h x0 x2 = some x) (hk : (kX12_cave rf hf) x) : Go d mX12_cave 193 [some (.ref x0), none, some (.int x2)] [] h rf hf := by
  unfold fX12_cave_193 at hs
  exact lpw_go (P := pX12_cave_193 d x0 rf hf) (fun s x hs hk => oX12_cave_193b hd hs hk) (x2, h) x hs hk
noncomputable def fX12_cave_191 (h : Hp) (x0 : Nat) : Option (Int32 × Hp) :=
  fX12_cave_193 h x0 (0 : Int32)
theorem oX12_cave_191 {d : Nat} (hd : 110 ≤ d) {h : Hp} {x0 : Nat} {rf : Option Value} {hf : Hp} {x : (Int32 × Hp)} (hs : fX12_cave_191 h x0 = some x) (hk : (kX12_cave rf hf) x) : Go d mX12_cave 191 [some (.ref x0), none, none] [] h rf hf := by
  unfold fX12_cave_191 at hs
  refine go_iconst (v := 0) (by decide) dX12_cave_191 ?_
  refine go_istore_n (k4 := 2) (L' := [some (.ref x0), none, some (.int (0 : Int32))]) (by decide) rfl dX12_cave_192 ?_
  exact go_subL (L' := [some (.ref x0), none, some (.int (0 : Int32))]) (by simp [subL, va_rf]) (oX12_cave_193 hd hs hk)
noncomputable def fX12_cave_166b (h : Hp) (x0 : Nat) (x2 : Int32) : Option ((Int32 × Hp) ⊕ (Int32 × Hp)) :=
  if (1038 : Int32) ≤ x2 then (
  (fX12_cave_191 h x0).map (fun q => .inr q)) else (
    (gN h 12 x0 1).bind fun v43 =>
    (gN h 12 x0 4).bind fun v44 =>
    (aI 0 h v44 x2).bind fun v45 =>
    (wI 0 h v43 x2 v45).bind fun h46 =>
    some (.inl ((x2 + Int32.ofInt 1), h46)))
noncomputable def fX12_cave_166 (h : Hp) (x0 : Nat) (x2 : Int32) : Option (Int32 × Hp) := lpw (σ := (Int32 × Hp)) (fun s => fX12_cave_166b s.2 x0 s.1) (x2, h)
theorem oX12_cave_166b {d : Nat} (hd : 110 ≤ d) {h : Hp} {x0 : Nat} {x2 : Int32} {rf : Option Value} {hf : Hp} {x : ((Int32 × Hp) ⊕ (Int32 × Hp))} (hs : fX12_cave_166b h x0 x2 = some x) (hk : (Kx (pX12_cave_166 d x0 rf hf) (kX12_cave rf hf)) x) : Go d mX12_cave 166 [some (.ref x0), none, some (.int x2)] [] h rf hf := by
  unfold fX12_cave_166b at hs
  refine go_iload_n (k4 := 2) rfl dX12_cave_166 ?_
  refine go_sipush (v := 1038) (by decide) dX12_cave_167 ?_
  refine go_icmp_ge (tgt := 191) (by decide) dX12_cave_170 (fun c => ?_) (fun c => ?_)
  · have hs := if_t c hs
    obtain ⟨q, hs2, hq⟩ := mapS hs
    clear hs
    subst hq
    exact go_subL (L' := [some (.ref x0), none, none]) (by simp [subL, va_rf]) (oX12_cave_191 hd hs2 hk)
  · have hs := if_f c hs
    refine go_aload_n (k4 := 0) rfl (Or.inr ⟨_, rfl⟩) dX12_cave_173 ?_
    obtain ⟨v43, ev43, hs⟩ := bindS hs
    refine go_gN fl_RX12_13 ev43 dX12_cave_174 ?_
    refine go_iload_n (k4 := 2) rfl dX12_cave_177 ?_
    refine go_aload_n (k4 := 0) rfl (Or.inr ⟨_, rfl⟩) dX12_cave_178 ?_
    obtain ⟨v44, ev44, hs⟩ := bindS hs
    refine go_gN fl_RX12_24 ev44 dX12_cave_179 ?_
    refine go_iload_n (k4 := 2) rfl dX12_cave_182 ?_
    obtain ⟨v45, ev45, hs⟩ := bindS hs
    refine go_aIi ev45 dX12_cave_183 ?_
    refine go_at 184 rfl ?_
    obtain ⟨h46, eh46, hs⟩ := bindS hs
    refine go_wIi eh46 dX12_cave_184 ?_
    refine go_iinc (L' := [some (.ref x0), none, some (.int (x2 + Int32.ofInt 1))]) rfl (by decide) rfl rfl dX12_cave_185 ?_
    refine go_goto (tgt := 166) (by decide) dX12_cave_188 ?_
    obtain rfl := Option.some.inj hs
    exact go_subL (L' := [some (.ref x0), none, some (.int (x2 + Int32.ofInt 1))]) (by simp [subL, va_rf]) hk
theorem oX12_cave_166 {d : Nat} (hd : 110 ≤ d) {h : Hp} {x0 : Nat} {x2 : Int32} {rf : Option Value} {hf : Hp} {x : (Int32 × Hp)} (hs : fX12_cave_166 h x0 x2 = some x) (hk : (kX12_cave rf hf) x) : Go d mX12_cave 166 [some (.ref x0), none, some (.int x2)] [] h rf hf := by
  unfold fX12_cave_166 at hs
  exact lpw_go (P := pX12_cave_166 d x0 rf hf) (fun s x hs hk => oX12_cave_166b hd hs hk) (x2, h) x hs hk
noncomputable def fX12_cave_146 (h : Hp) (x0 : Nat) (s0 : Nat) (s1 : Int32) : Option (Int32 × Hp) :=
  (sV h 12 s0 14 (.int s1)).bind fun h27 =>
  (gI h27 12 x0 11).bind fun v28 =>
  if v28 = 0 then (
    fX12_cave_166 h27 x0 (0 : Int32)) else (
    (gI h27 12 x0 11).bind fun v47 =>
    some ((((-30 : Int32) - v47), h27)))
theorem oX12_cave_146 {d : Nat} (hd : 110 ≤ d) {h : Hp} {x0 : Nat} {s0 : Nat} {s1 : Int32} {rf : Option Value} {hf : Hp} {x : (Int32 × Hp)} (hs : fX12_cave_146 h x0 s0 s1 = some x) (hk : (kX12_cave rf hf) x) : Go d mX12_cave 146 [some (.ref x0), none, none] [.int s1, .ref s0] h rf hf := by
  unfold fX12_cave_146 at hs
  obtain ⟨h27, eh27, hs⟩ := bindS hs
  refine go_sV fw_RX12_27 eh27 rfl rfl dX12_cave_146 ?_
  refine go_aload_n (k4 := 0) rfl (Or.inr ⟨_, rfl⟩) dX12_cave_149 ?_
  obtain ⟨v28, ev28, hs⟩ := bindS hs
  refine go_gI fl_RX12_139 ev28 dX12_cave_150 ?_
  refine go_if_eq (tgt := 164) (by decide) dX12_cave_153 (fun c => ?_) (fun c => ?_)
  · have hs := if_t c hs
    refine go_iconst (v := 0) (by decide) dX12_cave_164 ?_
    refine go_istore_n (k4 := 2) (L' := [some (.ref x0), none, some (.int (0 : Int32))]) (by decide) rfl dX12_cave_165 ?_
    exact go_subL (L' := [some (.ref x0), none, some (.int (0 : Int32))]) (by simp [subL, va_rf]) (oX12_cave_166 hd hs hk)
  · have hs := if_f c hs
    refine go_bipush (v := -30) (by decide) dX12_cave_156 ?_
    refine go_aload_n (k4 := 0) rfl (Or.inr ⟨_, rfl⟩) dX12_cave_158 ?_
    obtain ⟨v47, ev47, hs⟩ := bindS hs
    refine go_gI fl_RX12_139 ev47 dX12_cave_159 ?_
    refine go_isub dX12_cave_162 ?_
    obtain rfl := Option.some.inj hs
    obtain ⟨rfl, rfl⟩ := hk
    exact go_iret rfl dX12_cave_163
noncomputable def fX12_cave_122 (h : Hp) (x0 : Nat) : Option (Int32 × Hp) :=
  (gI h 12 x0 11).bind fun v23 =>
  (sV h 12 x0 13 (.int v23)).bind fun h24 =>
  (gI h24 12 x0 11).bind fun v25 =>
  if v25 = 0 then (
    fX12_cave_146 h24 x0 x0 (-1 : Int32)) else (
    (gI h24 12 x0 12).bind fun v26 =>
    fX12_cave_146 h24 x0 x0 v26)
theorem oX12_cave_122 {d : Nat} (hd : 110 ≤ d) {h : Hp} {x0 : Nat} {rf : Option Value} {hf : Hp} {x : (Int32 × Hp)} (hs : fX12_cave_122 h x0 = some x) (hk : (kX12_cave rf hf) x) : Go d mX12_cave 122 [some (.ref x0), none, none] [] h rf hf := by
  unfold fX12_cave_122 at hs
  refine go_aload_n (k4 := 0) rfl (Or.inr ⟨_, rfl⟩) dX12_cave_122 ?_
  refine go_aload_n (k4 := 0) rfl (Or.inr ⟨_, rfl⟩) dX12_cave_123 ?_
  obtain ⟨v23, ev23, hs⟩ := bindS hs
  refine go_gI fl_RX12_139 ev23 dX12_cave_124 ?_
  obtain ⟨h24, eh24, hs⟩ := bindS hs
  refine go_sV fw_RX12_214 eh24 rfl rfl dX12_cave_127 ?_
  refine go_aload_n (k4 := 0) rfl (Or.inr ⟨_, rfl⟩) dX12_cave_130 ?_
  refine go_aload_n (k4 := 0) rfl (Or.inr ⟨_, rfl⟩) dX12_cave_131 ?_
  obtain ⟨v25, ev25, hs⟩ := bindS hs
  refine go_gI fl_RX12_139 ev25 dX12_cave_132 ?_
  refine go_at 135 rfl ?_
  refine go_if_ne (tgt := 142) (by decide) dX12_cave_135 (fun c => ?_) (fun c => ?_)
  · have hs := if_f c hs
    refine go_aload_n (k4 := 0) rfl (Or.inr ⟨_, rfl⟩) dX12_cave_142 ?_
    obtain ⟨v26, ev26, hs⟩ := bindS hs
    refine go_gI fl_RX12_142 ev26 dX12_cave_143 ?_
    exact go_subL (L' := [some (.ref x0), none, none]) (by simp [subL, va_rf]) (oX12_cave_146 hd hs hk)
  · have hs := if_t c hs
    refine go_iconst (v := -1) (by decide) dX12_cave_138 ?_
    refine go_goto (tgt := 146) (by decide) dX12_cave_139 ?_
    exact go_subL (L' := [some (.ref x0), none, none]) (by simp [subL, va_rf]) (oX12_cave_146 hd hs hk)
noncomputable def fX12_cave_95b (h : Hp) (x0 : Nat) : Option (Hp ⊕ (Int32 × Hp)) :=
  (gI h 12 x0 11).bind fun v22 =>
  if v22 = 0 then (
    (gI h 12 x0 9).bind fun v48 =>
    if v48 = (24 : Int32) then (
    (fX12_cave_122 h x0).map (fun q => .inr q)) else (
      gO h 12 x0 (
      (fX12_readLine h x0).bind fun y49 =>
      gO y49 12 x0 (
      (fX12_ends y49 x0).bind fun y51 =>
      some (.inl y51))))) else (
  (fX12_cave_122 h x0).map (fun q => .inr q))
noncomputable def fX12_cave_95 (h : Hp) (x0 : Nat) : Option (Int32 × Hp) := lpw (σ := Hp) (fun s => fX12_cave_95b s x0 ) h
theorem oX12_cave_95b {d : Nat} (hd : 110 ≤ d) {h : Hp} {x0 : Nat} {rf : Option Value} {hf : Hp} {x : (Hp ⊕ (Int32 × Hp))} (hs : fX12_cave_95b h x0 = some x) (hk : (Kx (pX12_cave_95 d x0 rf hf) (kX12_cave rf hf)) x) : Go d mX12_cave 95 [some (.ref x0), none, none] [] h rf hf := by
  unfold fX12_cave_95b at hs
  refine go_aload_n (k4 := 0) rfl (Or.inr ⟨_, rfl⟩) dX12_cave_95 ?_
  obtain ⟨v22, ev22, hs⟩ := bindS hs
  refine go_gI fl_RX12_139 ev22 dX12_cave_96 ?_
  refine go_if_ne (tgt := 122) (by decide) dX12_cave_99 (fun c => ?_) (fun c => ?_)
  · have hs := if_f c hs
    obtain ⟨q, hs2, hq⟩ := mapS hs
    clear hs
    subst hq
    exact go_subL (L' := [some (.ref x0), none, none]) (by simp [subL, va_rf]) (oX12_cave_122 hd hs2 hk)
  · have hs := if_t c hs
    refine go_aload_n (k4 := 0) rfl (Or.inr ⟨_, rfl⟩) dX12_cave_102 ?_
    obtain ⟨v48, ev48, hs⟩ := bindS hs
    refine go_gI fl_RX12_121 ev48 dX12_cave_103 ?_
    refine go_bipush (v := 24) (by decide) dX12_cave_106 ?_
    refine go_icmp_eq (tgt := 122) (by decide) dX12_cave_108 (fun c => ?_) (fun c => ?_)
    · have hs := if_t c hs
      obtain ⟨q, hs2, hq⟩ := mapS hs
      clear hs
      subst hq
      exact go_subL (L' := [some (.ref x0), none, none]) (by simp [subL, va_rf]) (oX12_cave_122 hd hs2 hk)
    · have hs := if_f c hs
      refine go_aload_n (k4 := 0) rfl (Or.inr ⟨_, rfl⟩) dX12_cave_111 ?_
      obtain ⟨g50, hs⟩ := gO_at hs
      obtain ⟨y49, ey49, hs⟩ := bindS hs
      refine go_V0 (As := []) (st := []) g50 rfl rfl (oX12_readLine (d := d - 1) (by omega) ey49) (by omega) mb_X12_readLine lm_RX12_211 mi_X12_readLine (Nat.le_of_ble_eq_true rfl) rfl dX12_cave_112 ?_
      refine go_aload_n (k4 := 0) rfl (Or.inr ⟨_, rfl⟩) dX12_cave_115 ?_
      obtain ⟨g52, hs⟩ := gO_at hs
      obtain ⟨y51, ey51, hs⟩ := bindS hs
      refine go_V0 (As := []) (st := []) g52 rfl rfl (oX12_ends (d := d - 1) (by omega) ey51) (by omega) mb_X12_ends lm_RX12_208 mi_X12_ends (Nat.le_of_ble_eq_true rfl) rfl dX12_cave_116 ?_
      refine go_goto (tgt := 95) (by decide) dX12_cave_119 ?_
      obtain rfl := Option.some.inj hs
      exact go_subL (L' := [some (.ref x0), none, none]) (by simp [subL, va_rf]) hk
theorem oX12_cave_95 {d : Nat} (hd : 110 ≤ d) {h : Hp} {x0 : Nat} {rf : Option Value} {hf : Hp} {x : (Int32 × Hp)} (hs : fX12_cave_95 h x0 = some x) (hk : (kX12_cave rf hf) x) : Go d mX12_cave 95 [some (.ref x0), none, none] [] h rf hf := by
  unfold fX12_cave_95 at hs
  exact lpw_go (P := pX12_cave_95 d x0 rf hf) (fun s x hs hk => oX12_cave_95b hd hs hk) h x hs hk
noncomputable def fX12_cave_79 (h : Hp) (x0 : Nat) : Option (Int32 × Hp) :=
  (gN h 12 x0 4).bind fun v16 =>
  gO h 12 x0 (
  (fX12_takes h x0 (0 : Int32) (4 : Int32)).bind fun y17 =>
  (wI 0 y17.2 v16 (2 : Int32) y17.1).bind fun h19 =>
  gO h19 12 x0 (
  (fX12_ends h19 x0).bind fun y20 =>
  fX12_cave_95 y20 x0))
theorem oX12_cave_79 {d : Nat} (hd : 110 ≤ d) {h : Hp} {x0 : Nat} {rf : Option Value} {hf : Hp} {x : (Int32 × Hp)} (hs : fX12_cave_79 h x0 = some x) (hk : (kX12_cave rf hf) x) : Go d mX12_cave 79 [some (.ref x0), none, none] [] h rf hf := by
  unfold fX12_cave_79 at hs
  refine go_aload_n (k4 := 0) rfl (Or.inr ⟨_, rfl⟩) dX12_cave_79 ?_
  obtain ⟨v16, ev16, hs⟩ := bindS hs
  refine go_gN fl_RX12_24 ev16 dX12_cave_80 ?_
  refine go_iconst (v := 2) (by decide) dX12_cave_83 ?_
  refine go_aload_n (k4 := 0) rfl (Or.inr ⟨_, rfl⟩) dX12_cave_84 ?_
  refine go_iconst (v := 0) (by decide) dX12_cave_85 ?_
  refine go_iconst (v := 4) (by decide) dX12_cave_86 ?_
  obtain ⟨g18, hs⟩ := gO_at hs
  obtain ⟨y17, ey17, hs⟩ := bindS hs
  refine go_V1 (As := [.int (0 : Int32), .int (4 : Int32)]) (st := [.int (2 : Int32), .ref v16]) g18 rfl rfl (oX12_takes (d := d - 1) (by omega) ey17) (by omega) mb_X12_takes lm_RX12_195 mi_X12_takes (Nat.le_of_ble_eq_true rfl) rfl dX12_cave_87 ?_
  refine go_at 90 rfl ?_
  obtain ⟨h19, eh19, hs⟩ := bindS hs
  refine go_wIi eh19 dX12_cave_90 ?_
  refine go_aload_n (k4 := 0) rfl (Or.inr ⟨_, rfl⟩) dX12_cave_91 ?_
  obtain ⟨g21, hs⟩ := gO_at hs
  obtain ⟨y20, ey20, hs⟩ := bindS hs
  refine go_V0 (As := []) (st := []) g21 rfl rfl (oX12_ends (d := d - 1) (by omega) ey20) (by omega) mb_X12_ends lm_RX12_208 mi_X12_ends (Nat.le_of_ble_eq_true rfl) rfl dX12_cave_92 ?_
  exact go_subL (L' := [some (.ref x0), none, none]) (by simp [subL, va_rf]) (oX12_cave_95 hd hs hk)
noncomputable def fX12_cave_66 (h : Hp) (x0 : Nat) : Option (Int32 × Hp) :=
  gO h 12 x0 (
  (fX12_eats h x0 (1 : Int32)).bind fun y14 =>
  if y14.1 = 0 then (
    gO y14.2 12 x0 (
    (fX12_fails y14.2 x0 (2 : Int32)).bind fun y53 =>
    fX12_cave_79 y53 x0)) else (
  fX12_cave_79 y14.2 x0))
theorem oX12_cave_66 {d : Nat} (hd : 110 ≤ d) {h : Hp} {x0 : Nat} {rf : Option Value} {hf : Hp} {x : (Int32 × Hp)} (hs : fX12_cave_66 h x0 = some x) (hk : (kX12_cave rf hf) x) : Go d mX12_cave 66 [some (.ref x0), none, none] [] h rf hf := by
  unfold fX12_cave_66 at hs
  refine go_aload_n (k4 := 0) rfl (Or.inr ⟨_, rfl⟩) dX12_cave_66 ?_
  refine go_iconst (v := 1) (by decide) dX12_cave_67 ?_
  obtain ⟨g15, hs⟩ := gO_at hs
  obtain ⟨y14, ey14, hs⟩ := bindS hs
  refine go_V1 (As := [.int (1 : Int32)]) (st := []) g15 rfl rfl (oX12_eats (d := d - 1) (by omega) ey14) (by omega) mb_X12_eats lm_RX12_174 mi_X12_eats (Nat.le_of_ble_eq_true rfl) rfl dX12_cave_68 ?_
  refine go_if_ne (tgt := 79) (by decide) dX12_cave_71 (fun c => ?_) (fun c => ?_)
  · have hs := if_f c hs
    exact go_subL (L' := [some (.ref x0), none, none]) (by simp [subL, va_rf]) (oX12_cave_79 hd hs hk)
  · have hs := if_t c hs
    refine go_aload_n (k4 := 0) rfl (Or.inr ⟨_, rfl⟩) dX12_cave_74 ?_
    refine go_iconst (v := 2) (by decide) dX12_cave_75 ?_
    obtain ⟨g54, hs⟩ := gO_at hs
    obtain ⟨y53, ey53, hs⟩ := bindS hs
    refine go_V0 (As := [.int (2 : Int32)]) (st := []) g54 rfl rfl (oX12_fails (d := d - 1) (by omega) ey53) (by omega) mb_X12_fails lm_RX12_151 mi_X12_fails (Nat.le_of_ble_eq_true rfl) rfl dX12_cave_76 ?_
    exact go_subL (L' := [some (.ref x0), none, none]) (by simp [subL, va_rf]) (oX12_cave_79 hd hs hk)
noncomputable def fX12_cave (h : Hp) (x0 : Nat) (x1 : Int32) : Option (Int32 × Hp) :=
  (sV h 12 x0 0 (.int (0 : Int32))).bind fun h1 =>
  (gI h1 12 x0 5).bind fun v2 =>
  (fX12_within h1 (x1.toInt64) (0 : Int64) (v2.toInt64)).bind fun y3 =>
  if y3 = 0 then (
    some (((-3 : Int32), h1))) else (
    (sV h1 12 x0 8 (.int x1)).bind fun h4 =>
    (sV h4 12 x0 5 (.int (0 : Int32))).bind fun h5 =>
    (sV h5 12 x0 7 (.int (0 : Int32))).bind fun h6 =>
    (sV h6 12 x0 11 (.int (0 : Int32))).bind fun h7 =>
    (gN h7 12 x0 4).bind fun v8 =>
    (fX12_plain h7 v8).bind fun y9 =>
    gO y9 12 x0 (
    (fX12_next y9 x0).bind fun y10 =>
    gO y10 12 x0 (
    (fX12_eats y10 x0 (0 : Int32)).bind fun y12 =>
    if y12.1 = 0 then (
      gO y12.2 12 x0 (
      (fX12_fails y12.2 x0 (2 : Int32)).bind fun y55 =>
      fX12_cave_66 y55 x0)) else (
    fX12_cave_66 y12.2 x0))))
theorem oX12_cave_0 {d : Nat} (hd : 110 ≤ d) {h : Hp} {x0 : Nat} {x1 : Int32} {rf : Option Value} {hf : Hp} {x : (Int32 × Hp)} (hs : fX12_cave h x0 x1 = some x) (hk : (kX12_cave rf hf) x) : Go d mX12_cave 0 [some (.ref x0), some (.int x1), none] [] h rf hf := by
  unfold fX12_cave at hs
  refine go_aload_n (k4 := 0) rfl (Or.inr ⟨_, rfl⟩) dX12_cave_0 ?_
  refine go_iconst (v := 0) (by decide) dX12_cave_1 ?_
  obtain ⟨h1, eh1, hs⟩ := bindS hs
  refine go_sV fw_RX12_1 eh1 rfl rfl dX12_cave_2 ?_
  refine go_iload_n (k4 := 1) rfl dX12_cave_5 ?_
  refine go_i2l dX12_cave_6 ?_
  refine go_lconst (v := 0) (by decide) dX12_cave_7 ?_
  refine go_aload_n (k4 := 0) rfl (Or.inr ⟨_, rfl⟩) dX12_cave_8 ?_
  refine go_at 9 rfl ?_
  obtain ⟨v2, ev2, hs⟩ := bindS hs
  refine go_gI fl_RX12_93 ev2 dX12_cave_9 ?_
  refine go_i2l dX12_cave_12 ?_
  obtain ⟨y3, ey3, hs⟩ := bindS hs
  refine go_S1 (As := [.long (x1.toInt64), .long (0 : Int64), .long (v2.toInt64)]) (st := []) (oX12_within (d := d - 1) (by omega) ey3) (by omega) mb_X12_within lm_RX12_155 ms_X12_within (Nat.le_of_ble_eq_true rfl) rfl dX12_cave_13 ?_
  refine go_if_ne (tgt := 22) (by decide) dX12_cave_16 (fun c => ?_) (fun c => ?_)
  · have hs := if_f c hs
    refine go_aload_n (k4 := 0) rfl (Or.inr ⟨_, rfl⟩) dX12_cave_22 ?_
    refine go_iload_n (k4 := 1) rfl dX12_cave_23 ?_
    obtain ⟨h4, eh4, hs⟩ := bindS hs
    refine go_sV fw_RX12_96 eh4 rfl rfl dX12_cave_24 ?_
    refine go_aload_n (k4 := 0) rfl (Or.inr ⟨_, rfl⟩) dX12_cave_27 ?_
    refine go_iconst (v := 0) (by decide) dX12_cave_28 ?_
    obtain ⟨h5, eh5, hs⟩ := bindS hs
    refine go_sV fw_RX12_93 eh5 rfl rfl dX12_cave_29 ?_
    refine go_aload_n (k4 := 0) rfl (Or.inr ⟨_, rfl⟩) dX12_cave_32 ?_
    refine go_at 33 rfl ?_
    refine go_iconst (v := 0) (by decide) dX12_cave_33 ?_
    obtain ⟨h6, eh6, hs⟩ := bindS hs
    refine go_sV fw_RX12_114 eh6 rfl rfl dX12_cave_34 ?_
    refine go_aload_n (k4 := 0) rfl (Or.inr ⟨_, rfl⟩) dX12_cave_37 ?_
    refine go_iconst (v := 0) (by decide) dX12_cave_38 ?_
    obtain ⟨h7, eh7, hs⟩ := bindS hs
    refine go_sV fw_RX12_139 eh7 rfl rfl dX12_cave_39 ?_
    refine go_aload_n (k4 := 0) rfl (Or.inr ⟨_, rfl⟩) dX12_cave_42 ?_
    obtain ⟨v8, ev8, hs⟩ := bindS hs
    refine go_gN fl_RX12_24 ev8 dX12_cave_43 ?_
    obtain ⟨y9, ey9, hs⟩ := bindS hs
    refine go_S0 (As := [.ref v8]) (st := []) (oX12_plain (d := d - 1) (by omega) ey9) (by omega) mb_X12_plain lm_RX12_89 ms_X12_plain (Nat.le_of_ble_eq_true rfl) rfl dX12_cave_46 ?_
    refine go_at 49 rfl ?_
    refine go_aload_n (k4 := 0) rfl (Or.inr ⟨_, rfl⟩) dX12_cave_49 ?_
    obtain ⟨g11, hs⟩ := gO_at hs
    obtain ⟨y10, ey10, hs⟩ := bindS hs
    refine go_V0 (As := []) (st := []) g11 rfl rfl (oX12_next (d := d - 1) (by omega) ey10) (by omega) mb_X12_next lm_RX12_148 mi_X12_next (Nat.le_of_ble_eq_true rfl) rfl dX12_cave_50 ?_
    refine go_aload_n (k4 := 0) rfl (Or.inr ⟨_, rfl⟩) dX12_cave_53 ?_
    refine go_iconst (v := 0) (by decide) dX12_cave_54 ?_
    obtain ⟨g13, hs⟩ := gO_at hs
    obtain ⟨y12, ey12, hs⟩ := bindS hs
    refine go_V1 (As := [.int (0 : Int32)]) (st := []) g13 rfl rfl (oX12_eats (d := d - 1) (by omega) ey12) (by omega) mb_X12_eats lm_RX12_174 mi_X12_eats (Nat.le_of_ble_eq_true rfl) rfl dX12_cave_55 ?_
    refine go_if_ne (tgt := 66) (by decide) dX12_cave_58 (fun c => ?_) (fun c => ?_)
    · have hs := if_f c hs
      exact go_subL (L' := [some (.ref x0), none, none]) (by simp [subL, va_rf]) (oX12_cave_66 hd hs hk)
    · have hs := if_t c hs
      refine go_aload_n (k4 := 0) rfl (Or.inr ⟨_, rfl⟩) dX12_cave_61 ?_
      refine go_iconst (v := 2) (by decide) dX12_cave_62 ?_
      obtain ⟨g56, hs⟩ := gO_at hs
      obtain ⟨y55, ey55, hs⟩ := bindS hs
      refine go_V0 (As := [.int (2 : Int32)]) (st := []) g56 rfl rfl (oX12_fails (d := d - 1) (by omega) ey55) (by omega) mb_X12_fails lm_RX12_151 mi_X12_fails (Nat.le_of_ble_eq_true rfl) rfl dX12_cave_63 ?_
      exact go_subL (L' := [some (.ref x0), none, none]) (by simp [subL, va_rf]) (oX12_cave_66 hd hs hk)
  · have hs := if_t c hs
    refine go_bipush (v := -3) (by decide) dX12_cave_19 ?_
    obtain rfl := Option.some.inj hs
    obtain ⟨rfl, rfl⟩ := hk
    exact go_iret rfl dX12_cave_21
theorem oX12_cave {d : Nat} (hd : 110 ≤ d) {h : Hp} {x0 : Nat} {x1 : Int32} {y : (Int32 × Hp)} (hs : fX12_cave h x0 x1 = some y) : Call d mX12_cave [.ref x0, .int x1] h (some (.int y.1)) (y.2) := call_of (by decide +kernel) (Nat.le_of_ble_eq_true rfl) (show Go d mX12_cave 0 [some (.ref x0), some (.int x1), none] [] h _ _ from go_subL (by simp [subL]) (oX12_cave_0 hd hs ⟨rfl, rfl⟩))
abbrev kX12_fault (rf : Option Value) (hf : Hp) : (Int32 × Hp) → Prop := fun y => rf = some (.int y.1) ∧ hf = y.2
noncomputable def fX12_fault_29 (h : Hp) (s0 : Int32) : Option (Int32 × Hp) :=
  some ((s0, h))
theorem oX12_fault_29 {d : Nat} (hd : 0 ≤ d) {h : Hp} {s0 : Int32} {rf : Option Value} {hf : Hp} {x : (Int32 × Hp)} (hs : fX12_fault_29 h s0 = some x) (hk : (kX12_fault rf hf) x) : Go d mX12_fault 29 [none, none] [.int s0] h rf hf := by
  unfold fX12_fault_29 at hs
  obtain rfl := Option.some.inj hs
  obtain ⟨rfl, rfl⟩ := hk
  exact go_iret rfl dX12_fault_29
noncomputable def fX12_fault (h : Hp) (x0 : Nat) (x1 : Int32) : Option (Int32 × Hp) :=
  (sV h 12 x0 0 (.int (0 : Int32))).bind fun h1 =>
  if x1 = 0 then (
    (gI h1 12 x0 13).bind fun v3 =>
    fX12_fault_29 h1 v3) else (
    if x1 = (1 : Int32) then (
      (gI h1 12 x0 14).bind fun v2 =>
      fX12_fault_29 h1 v2) else (
      fX12_fault_29 h1 (-1 : Int32)))
theorem oX12_fault_0 {d : Nat} (hd : 0 ≤ d) {h : Hp} {x0 : Nat} {x1 : Int32} {rf : Option Value} {hf : Hp} {x : (Int32 × Hp)} (hs : fX12_fault h x0 x1 = some x) (hk : (kX12_fault rf hf) x) : Go d mX12_fault 0 [some (.ref x0), some (.int x1)] [] h rf hf := by
  unfold fX12_fault at hs
  refine go_aload_n (k4 := 0) rfl (Or.inr ⟨_, rfl⟩) dX12_fault_0 ?_
  refine go_iconst (v := 0) (by decide) dX12_fault_1 ?_
  obtain ⟨h1, eh1, hs⟩ := bindS hs
  refine go_sV fw_RX12_1 eh1 rfl rfl dX12_fault_2 ?_
  refine go_iload_n (k4 := 1) rfl dX12_fault_5 ?_
  refine go_if_ne (tgt := 16) (by decide) dX12_fault_6 (fun c => ?_) (fun c => ?_)
  · have hs := if_f c hs
    refine go_iload_n (k4 := 1) rfl dX12_fault_16 ?_
    refine go_iconst (v := 1) (by decide) dX12_fault_17 ?_
    refine go_icmp_ne (tgt := 28) (by decide) dX12_fault_18 (fun c => ?_) (fun c => ?_)
    · have hs := if_f c hs
      refine go_iconst (v := -1) (by decide) dX12_fault_28 ?_
      exact go_subL (L' := [none, none]) (by simp [subL, va_rf]) (oX12_fault_29 hd hs hk)
    · have hs := if_t c hs
      refine go_aload_n (k4 := 0) rfl (Or.inr ⟨_, rfl⟩) dX12_fault_21 ?_
      obtain ⟨v2, ev2, hs⟩ := bindS hs
      refine go_gI fl_RX12_27 ev2 dX12_fault_22 ?_
      refine go_goto (tgt := 29) (by decide) dX12_fault_25 ?_
      exact go_subL (L' := [none, none]) (by simp [subL, va_rf]) (oX12_fault_29 hd hs hk)
  · have hs := if_t c hs
    refine go_aload_n (k4 := 0) rfl (Or.inr ⟨_, rfl⟩) dX12_fault_9 ?_
    obtain ⟨v3, ev3, hs⟩ := bindS hs
    refine go_gI fl_RX12_214 ev3 dX12_fault_10 ?_
    refine go_goto (tgt := 29) (by decide) dX12_fault_13 ?_
    exact go_subL (L' := [none, none]) (by simp [subL, va_rf]) (oX12_fault_29 hd hs hk)
theorem oX12_fault {d : Nat} (hd : 0 ≤ d) {h : Hp} {x0 : Nat} {x1 : Int32} {y : (Int32 × Hp)} (hs : fX12_fault h x0 x1 = some y) : Call d mX12_fault [.ref x0, .int x1] h (some (.int y.1)) (y.2) := call_of (by decide +kernel) (Nat.le_of_ble_eq_true rfl) (show Go d mX12_fault 0 [some (.ref x0), some (.int x1)] [] h _ _ from go_subL (by simp [subL]) (oX12_fault_0 hd hs ⟨rfl, rfl⟩))
abbrev kX12_isPair (h : Hp) (rf : Option Value) (hf : Hp) : Int32 → Prop := fun y => rf = some (.int y) ∧ hf = h
noncomputable def fX12_isPair (h : Hp) (x0 : Nat) (x1 : Int64) : Option Int32 :=
  (gN h 12 x0 1).bind fun v1 =>
  (aI 0 h v1 (1 : Int32)).bind fun v2 =>
  (fX12_within h x1 (0 : Int64) (v2 - (1 : Int32)).toInt64).bind fun y3 =>
  bl y3 (some (y3))
theorem oX12_isPair_0 {d : Nat} (hd : 1 ≤ d) {h : Hp} {x0 : Nat} {x1 : Int64} {rf : Option Value} {hf : Hp} {x : Int32} (hs : fX12_isPair h x0 x1 = some x) (hk : (kX12_isPair h rf hf) x) : Go d mX12_isPair 0 [some (.ref x0), some (.long x1), none] [] h rf hf := by
  unfold fX12_isPair at hs
  refine go_lload_n (k4 := 1) rfl dX12_isPair_0 ?_
  refine go_lconst (v := 0) (by decide) dX12_isPair_1 ?_
  refine go_aload_n (k4 := 0) rfl (Or.inr ⟨_, rfl⟩) dX12_isPair_2 ?_
  obtain ⟨v1, ev1, hs⟩ := bindS hs
  refine go_gN fl_RX12_13 ev1 dX12_isPair_3 ?_
  refine go_iconst (v := 1) (by decide) dX12_isPair_6 ?_
  obtain ⟨v2, ev2, hs⟩ := bindS hs
  refine go_aIi ev2 dX12_isPair_7 ?_
  refine go_iconst (v := 1) (by decide) dX12_isPair_8 ?_
  refine go_at 9 rfl ?_
  refine go_isub dX12_isPair_9 ?_
  refine go_i2l dX12_isPair_10 ?_
  obtain ⟨y3, ey3, hs⟩ := bindS hs
  refine go_S1 (As := [.long x1, .long (0 : Int64), .long (v2 - (1 : Int32)).toInt64]) (st := []) (oX12_within (d := d - 1) (by omega) ey3) (by omega) mb_X12_within lm_RX12_155 ms_X12_within (Nat.le_of_ble_eq_true rfl) rfl dX12_isPair_11 ?_
  obtain ⟨n1, n2, hs⟩ := bl_at hs
  obtain rfl := Option.some.inj hs
  obtain ⟨rfl, rfl⟩ := hk
  exact go_zret (ty := .boolean) rfl n1 dX12_isPair_14
theorem oX12_isPair {d : Nat} (hd : 1 ≤ d) {h : Hp} {x0 : Nat} {x1 : Int64} {y : Int32} (hs : fX12_isPair h x0 x1 = some y) : Call d mX12_isPair [.ref x0, .long x1] h (some (.int y)) h := call_of (by decide +kernel) (Nat.le_of_ble_eq_true rfl) (show Go d mX12_isPair 0 [some (.ref x0), some (.long x1), none] [] h _ _ from go_subL (by simp [subL]) (oX12_isPair_0 hd hs ⟨rfl, rfl⟩))
abbrev kX12_isSet (h : Hp) (rf : Option Value) (hf : Hp) : Int32 → Prop := fun y => rf = some (.int y) ∧ hf = h
noncomputable def fX12_isSet_21 (h : Hp) (s0 : Int32) : Option Int32 :=
  bl s0 (some (s0))
theorem oX12_isSet_21 {d : Nat} (hd : 0 ≤ d) {h : Hp} {s0 : Int32} {rf : Option Value} {hf : Hp} {x : Int32} (hs : fX12_isSet_21 h s0 = some x) (hk : (kX12_isSet h rf hf) x) : Go d mX12_isSet 21 [none, none] [.int s0] h rf hf := by
  unfold fX12_isSet_21 at hs
  obtain ⟨n1, n2, hs⟩ := bl_at hs
  obtain rfl := Option.some.inj hs
  obtain ⟨rfl, rfl⟩ := hk
  exact go_zret (ty := .boolean) rfl n1 dX12_isSet_21
noncomputable def fX12_isSet_20 (h : Hp)  : Option Int32 :=
  fX12_isSet_21 h (0 : Int32)
theorem oX12_isSet_20 {d : Nat} (hd : 0 ≤ d) {h : Hp} {rf : Option Value} {hf : Hp} {x : Int32} (hs : fX12_isSet_20 h  = some x) (hk : (kX12_isSet h rf hf) x) : Go d mX12_isSet 20 [none, none] [] h rf hf := by
  unfold fX12_isSet_20 at hs
  refine go_iconst (v := 0) (by decide) dX12_isSet_20 ?_
  exact go_subL (L' := [none, none]) (by simp [subL, va_rf]) (oX12_isSet_21 hd hs hk)
noncomputable def fX12_isSet (h : Hp) (x0 : Nat) (x1 : Int32) : Option Int32 :=
  if x1 < 0 then (
  fX12_isSet_20 h ) else (
    (gN h 12 x0 1).bind fun v1 =>
    (aI 0 h v1 (1 : Int32)).bind fun v2 =>
    if ((1 : Int32) <<< (v2 &&& 31)) ≤ x1 then (
    fX12_isSet_20 h ) else (
      fX12_isSet_21 h (1 : Int32)))
theorem oX12_isSet_0 {d : Nat} (hd : 0 ≤ d) {h : Hp} {x0 : Nat} {x1 : Int32} {rf : Option Value} {hf : Hp} {x : Int32} (hs : fX12_isSet h x0 x1 = some x) (hk : (kX12_isSet h rf hf) x) : Go d mX12_isSet 0 [some (.ref x0), some (.int x1)] [] h rf hf := by
  unfold fX12_isSet at hs
  refine go_iload_n (k4 := 1) rfl dX12_isSet_0 ?_
  refine go_if_lt (tgt := 20) (by decide) dX12_isSet_1 (fun c => ?_) (fun c => ?_)
  · have hs := if_t c hs
    exact go_subL (L' := [none, none]) (by simp [subL, va_rf]) (oX12_isSet_20 hd hs hk)
  · have hs := if_f c hs
    refine go_iload_n (k4 := 1) rfl dX12_isSet_4 ?_
    refine go_iconst (v := 1) (by decide) dX12_isSet_5 ?_
    refine go_aload_n (k4 := 0) rfl (Or.inr ⟨_, rfl⟩) dX12_isSet_6 ?_
    obtain ⟨v1, ev1, hs⟩ := bindS hs
    refine go_gN fl_RX12_13 ev1 dX12_isSet_7 ?_
    refine go_iconst (v := 1) (by decide) dX12_isSet_10 ?_
    obtain ⟨v2, ev2, hs⟩ := bindS hs
    refine go_aIi ev2 dX12_isSet_11 ?_
    refine go_ishl dX12_isSet_12 ?_
    refine go_at 13 rfl ?_
    refine go_icmp_ge (tgt := 20) (by decide) dX12_isSet_13 (fun c => ?_) (fun c => ?_)
    · have hs := if_t c hs
      exact go_subL (L' := [none, none]) (by simp [subL, va_rf]) (oX12_isSet_20 hd hs hk)
    · have hs := if_f c hs
      refine go_iconst (v := 1) (by decide) dX12_isSet_16 ?_
      refine go_goto (tgt := 21) (by decide) dX12_isSet_17 ?_
      exact go_subL (L' := [none, none]) (by simp [subL, va_rf]) (oX12_isSet_21 hd hs hk)
theorem oX12_isSet {d : Nat} (hd : 0 ≤ d) {h : Hp} {x0 : Nat} {x1 : Int32} {y : Int32} (hs : fX12_isSet h x0 x1 = some y) : Call d mX12_isSet [.ref x0, .int x1] h (some (.int y)) h := call_of (by decide +kernel) (Nat.le_of_ble_eq_true rfl) (show Go d mX12_isSet 0 [some (.ref x0), some (.int x1)] [] h _ _ from go_subL (by simp [subL]) (oX12_isSet_0 hd hs ⟨rfl, rfl⟩))
abbrev kX12_isDry (h : Hp) (rf : Option Value) (hf : Hp) : Int32 → Prop := fun y => rf = some (.int y) ∧ hf = h
noncomputable def fX12_isDry (h : Hp) (x0 : Int64) : Option Int32 :=
  (fX12_within h x0 (0 : Int64) (1 : Int64)).bind fun y1 =>
  bl y1 (some (y1))
theorem oX12_isDry_0 {d : Nat} (hd : 1 ≤ d) {h : Hp} {x0 : Int64} {rf : Option Value} {hf : Hp} {x : Int32} (hs : fX12_isDry h x0 = some x) (hk : (kX12_isDry h rf hf) x) : Go d mX12_isDry 0 [some (.long x0), none] [] h rf hf := by
  unfold fX12_isDry at hs
  refine go_lload_n (k4 := 0) rfl dX12_isDry_0 ?_
  refine go_lconst (v := 0) (by decide) dX12_isDry_1 ?_
  refine go_lconst (v := 1) (by decide) dX12_isDry_2 ?_
  obtain ⟨y1, ey1, hs⟩ := bindS hs
  refine go_S1 (As := [.long x0, .long (0 : Int64), .long (1 : Int64)]) (st := []) (oX12_within (d := d - 1) (by omega) ey1) (by omega) mb_X12_within lm_RX12_155 ms_X12_within (Nat.le_of_ble_eq_true rfl) rfl dX12_isDry_3 ?_
  obtain ⟨n1, n2, hs⟩ := bl_at hs
  obtain rfl := Option.some.inj hs
  obtain ⟨rfl, rfl⟩ := hk
  exact go_zret (ty := .boolean) rfl n1 dX12_isDry_6
theorem oX12_isDry {d : Nat} (hd : 1 ≤ d) {h : Hp} {x0 : Int64} {y : Int32} (hs : fX12_isDry h x0 = some y) : Call d mX12_isDry [.long x0] h (some (.int y)) h := call_of (by decide +kernel) (Nat.le_of_ble_eq_true rfl) (show Go d mX12_isDry 0 [some (.long x0), none] [] h _ _ from go_subL (by simp [subL]) (oX12_isDry_0 hd hs ⟨rfl, rfl⟩))
abbrev kX12_bitsOf (h : Hp) (rf : Option Value) (hf : Hp) : Int32 → Prop := fun y => rf = some (.int y) ∧ hf = h
abbrev pX12_bitsOf_4 (d : Nat) (h : Hp) (x0 : Int32) (rf : Option Value) (hf : Hp) : (Int32 × Int32) → Prop := fun s => Go d mX12_bitsOf 4 [some (.int x0), some (.int s.1), some (.int s.2)] [] h rf hf
noncomputable def fX12_bitsOf_4b (h : Hp) (x0 : Int32) (x1 : Int32) (x2 : Int32) : Option ((Int32 × Int32) ⊕ Int32) :=
  if (10 : Int32) ≤ x2 then (
    some (.inr x1)) else (
    some (.inl ((x1 + ((x0 >>> (x2 &&& 31)) &&& (1 : Int32))), (x2 + Int32.ofInt 1))))
noncomputable def fX12_bitsOf_4 (h : Hp) (x0 : Int32) (x1 : Int32) (x2 : Int32) : Option Int32 := lpw (σ := (Int32 × Int32)) (fun s => fX12_bitsOf_4b h x0 s.1 s.2) (x1, x2)
theorem oX12_bitsOf_4b {d : Nat} (hd : 0 ≤ d) {h : Hp} {x0 : Int32} {x1 : Int32} {x2 : Int32} {rf : Option Value} {hf : Hp} {x : ((Int32 × Int32) ⊕ Int32)} (hs : fX12_bitsOf_4b h x0 x1 x2 = some x) (hk : (Kx (pX12_bitsOf_4 d h x0 rf hf) (kX12_bitsOf h rf hf)) x) : Go d mX12_bitsOf 4 [some (.int x0), some (.int x1), some (.int x2)] [] h rf hf := by
  unfold fX12_bitsOf_4b at hs
  refine go_iload_n (k4 := 2) rfl dX12_bitsOf_4 ?_
  refine go_bipush (v := 10) (by decide) dX12_bitsOf_5 ?_
  refine go_icmp_ge (tgt := 24) (by decide) dX12_bitsOf_7 (fun c => ?_) (fun c => ?_)
  · have hs := if_t c hs
    refine go_iload_n (k4 := 1) rfl dX12_bitsOf_24 ?_
    obtain rfl := Option.some.inj hs
    obtain ⟨rfl, rfl⟩ := hk
    exact go_iret rfl dX12_bitsOf_25
  · have hs := if_f c hs
    refine go_iload_n (k4 := 1) rfl dX12_bitsOf_10 ?_
    refine go_iload_n (k4 := 0) rfl dX12_bitsOf_11 ?_
    refine go_iload_n (k4 := 2) rfl dX12_bitsOf_12 ?_
    refine go_ishr dX12_bitsOf_13 ?_
    refine go_iconst (v := 1) (by decide) dX12_bitsOf_14 ?_
    refine go_iand dX12_bitsOf_15 ?_
    refine go_iadd dX12_bitsOf_16 ?_
    refine go_at 17 rfl ?_
    refine go_istore_n (k4 := 1) (L' := [some (.int x0), some (.int (x1 + ((x0 >>> (x2 &&& 31)) &&& (1 : Int32)))), some (.int x2)]) (by decide) rfl dX12_bitsOf_17 ?_
    refine go_iinc (L' := [some (.int x0), some (.int (x1 + ((x0 >>> (x2 &&& 31)) &&& (1 : Int32)))), some (.int (x2 + Int32.ofInt 1))]) rfl (by decide) rfl rfl dX12_bitsOf_18 ?_
    refine go_goto (tgt := 4) (by decide) dX12_bitsOf_21 ?_
    obtain rfl := Option.some.inj hs
    exact go_subL (L' := [some (.int x0), some (.int (x1 + ((x0 >>> (x2 &&& 31)) &&& (1 : Int32)))), some (.int (x2 + Int32.ofInt 1))]) (by simp [subL, va_rf]) hk
theorem oX12_bitsOf_4 {d : Nat} (hd : 0 ≤ d) {h : Hp} {x0 : Int32} {x1 : Int32} {x2 : Int32} {rf : Option Value} {hf : Hp} {x : Int32} (hs : fX12_bitsOf_4 h x0 x1 x2 = some x) (hk : (kX12_bitsOf h rf hf) x) : Go d mX12_bitsOf 4 [some (.int x0), some (.int x1), some (.int x2)] [] h rf hf := by
  unfold fX12_bitsOf_4 at hs
  exact lpw_go (P := pX12_bitsOf_4 d h x0 rf hf) (fun s x hs hk => oX12_bitsOf_4b hd hs hk) (x1, x2) x hs hk
noncomputable def fX12_bitsOf (h : Hp) (x0 : Int32) : Option Int32 :=
  fX12_bitsOf_4 h x0 (0 : Int32) (0 : Int32)
theorem oX12_bitsOf_0 {d : Nat} (hd : 0 ≤ d) {h : Hp} {x0 : Int32} {rf : Option Value} {hf : Hp} {x : Int32} (hs : fX12_bitsOf h x0 = some x) (hk : (kX12_bitsOf h rf hf) x) : Go d mX12_bitsOf 0 [some (.int x0), none, none] [] h rf hf := by
  unfold fX12_bitsOf at hs
  refine go_iconst (v := 0) (by decide) dX12_bitsOf_0 ?_
  refine go_istore_n (k4 := 1) (L' := [some (.int x0), some (.int (0 : Int32)), none]) (by decide) rfl dX12_bitsOf_1 ?_
  refine go_iconst (v := 0) (by decide) dX12_bitsOf_2 ?_
  refine go_istore_n (k4 := 2) (L' := [some (.int x0), some (.int (0 : Int32)), some (.int (0 : Int32))]) (by decide) rfl dX12_bitsOf_3 ?_
  exact go_subL (L' := [some (.int x0), some (.int (0 : Int32)), some (.int (0 : Int32))]) (by simp [subL, va_rf]) (oX12_bitsOf_4 hd hs hk)
theorem oX12_bitsOf {d : Nat} (hd : 0 ≤ d) {h : Hp} {x0 : Int32} {y : Int32} (hs : fX12_bitsOf h x0 = some y) : Call d mX12_bitsOf [.int x0] h (some (.int y)) h := call_of (by decide +kernel) (Nat.le_of_ble_eq_true rfl) (show Go d mX12_bitsOf 0 [some (.int x0), none, none] [] h _ _ from go_subL (by simp [subL]) (oX12_bitsOf_0 hd hs ⟨rfl, rfl⟩))
