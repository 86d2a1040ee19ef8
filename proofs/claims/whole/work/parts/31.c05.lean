/-! methods: their texts as functions, and that the machine does just that -/
abbrev kX5_remember (rf : Option Value) (hf : Hp) : Hp → Prop := fun y => rf = none ∧ hf = y
noncomputable def fX5_remember (h : Hp) (x0 : Nat) (x1 : Nat) : Option Hp :=
  (gN h 5 x0 0).bind fun v1 =>
  (gI h 5 x0 1).bind fun v2 =>
  (aN h v1 v2).bind fun v3 =>
  gO h 8 v3 (
  (fX8_copy h v3 x1).bind fun y4 =>
  (gI y4 5 x0 1).bind fun v6 =>
  (rm (v6 + (1 : Int32)) (10 : Int32)).bind fun v7 =>
  (sV y4 5 x0 1 (.int v7)).bind fun h8 =>
  (gI h8 5 x0 2).bind fun v9 =>
  (sV h8 5 x0 2 (.int (imin (v9 + (1 : Int32)) (10 : Int32)))).bind fun h10 =>
  some (h10))
theorem oX5_remember_0 {d : Nat} (hd : 1 ≤ d) {h : Hp} {x0 : Nat} {x1 : Nat} {rf : Option Value} {hf : Hp} {x : Hp} (hs : fX5_remember h x0 x1 = some x) (hk : (kX5_remember rf hf) x) : Go d mX5_remember 0 [some (.ref x0), some (.ref x1)] [] h rf hf := by
  unfold fX5_remember at hs
  refine go_aload_n (k4 := 0) rfl (Or.inr ⟨_, rfl⟩) dX5_remember_0 ?_
  obtain ⟨v1, ev1, hs⟩ := bindS hs
  refine go_gN fl_RX5_11 ev1 dX5_remember_1 ?_
  refine go_aload_n (k4 := 0) rfl (Or.inr ⟨_, rfl⟩) dX5_remember_4 ?_
  obtain ⟨v2, ev2, hs⟩ := bindS hs
  refine go_gI fl_RX5_17 ev2 dX5_remember_5 ?_
  obtain ⟨v3, ev3, hs⟩ := bindS hs
  refine go_aN ev3 dX5_remember_8 ?_
  refine go_aload_n (k4 := 1) rfl (Or.inr ⟨_, rfl⟩) dX5_remember_9 ?_
  obtain ⟨g5, hs⟩ := gO_at hs
  obtain ⟨y4, ey4, hs⟩ := bindS hs
  refine go_V0 (As := [.ref x1]) (st := []) g5 rfl rfl (oX8_copy (d := d - 1) (by omega) ey4) (by omega) mb_X8_copy lm_RX5_25 mi_X8_copy (Nat.le_of_ble_eq_true rfl) rfl dX5_remember_10 ?_
  refine go_at 13 rfl ?_
  refine go_aload_n (k4 := 0) rfl (Or.inr ⟨_, rfl⟩) dX5_remember_13 ?_
  refine go_aload_n (k4 := 0) rfl (Or.inr ⟨_, rfl⟩) dX5_remember_14 ?_
  obtain ⟨v6, ev6, hs⟩ := bindS hs
  refine go_gI fl_RX5_17 ev6 dX5_remember_15 ?_
  refine go_iconst (v := 1) (by decide) dX5_remember_18 ?_
  refine go_iadd dX5_remember_19 ?_
  refine go_bipush (v := 10) (by decide) dX5_remember_20 ?_
  obtain ⟨v7, ev7, hs⟩ := bindS hs
  refine go_rm ev7 dX5_remember_22 ?_
  obtain ⟨h8, eh8, hs⟩ := bindS hs
  refine go_sV fw_RX5_17 eh8 rfl rfl dX5_remember_23 ?_
  refine go_at 26 rfl ?_
  refine go_aload_n (k4 := 0) rfl (Or.inr ⟨_, rfl⟩) dX5_remember_26 ?_
  refine go_aload_n (k4 := 0) rfl (Or.inr ⟨_, rfl⟩) dX5_remember_27 ?_
  obtain ⟨v9, ev9, hs⟩ := bindS hs
  refine go_gI fl_RX5_21 ev9 dX5_remember_28 ?_
  refine go_iconst (v := 1) (by decide) dX5_remember_31 ?_
  refine go_iadd dX5_remember_32 ?_
  refine go_bipush (v := 10) (by decide) dX5_remember_33 ?_
  refine go_mmin lx_RX5_29.1 lx_RX5_29.2.1 lx_RX5_29.2.2.1 lx_RX5_29.2.2.2 (by omega) (Nat.le_of_ble_eq_true rfl) dX5_remember_35 ?_
  obtain ⟨h10, eh10, hs⟩ := bindS hs
  refine go_sV fw_RX5_21 eh10 rfl rfl dX5_remember_38 ?_
  refine go_at 41 rfl ?_
  obtain rfl := Option.some.inj hs
  obtain ⟨rfl, rfl⟩ := hk
  exact go_vret rfl dX5_remember_41
theorem oX5_remember {d : Nat} (hd : 1 ≤ d) {h : Hp} {x0 : Nat} {x1 : Nat} {y : Hp} (hs : fX5_remember h x0 x1 = some y) : Call d mX5_remember [.ref x0, .ref x1] h (none) y := call_of (by decide +kernel) (Nat.le_of_ble_eq_true rfl) (show Go d mX5_remember 0 [some (.ref x0), some (.ref x1)] [] h _ _ from go_subL (by simp [subL]) (oX5_remember_0 hd hs ⟨rfl, rfl⟩))
abbrev kX11_year (rf : Option Value) (hf : Hp) : (Int32 × Hp) → Prop := fun y => rf = some (.int y.1) ∧ hf = y.2
noncomputable def fX11_year (h : Hp) (x0 : Nat) (x1 : Int32) : Option (Int32 × Hp) :=
  (gN h 11 x0 5).bind fun v1 =>
  (gN h 11 x0 4).bind fun v2 =>
  gO h 8 v1 (
  (fX8_copy h v1 v2).bind fun y3 =>
  (gN y3 11 x0 4).bind fun v5 =>
  gO y3 11 x0 (
  (fX11_passYear y3 x0 v5 x1).bind fun y6 =>
  if y6.1 = 0 then (
    (gN y6.2 11 x0 7).bind fun v8 =>
    (gN y6.2 11 x0 5).bind fun v9 =>
    gO y6.2 5 v8 (
    (fX5_remember y6.2 v8 v9).bind fun y10 =>
    (gN y10 11 x0 3).bind fun v12 =>
    (gN y10 11 x0 4).bind fun v13 =>
    (gI y10 8 v13 0).bind fun v14 =>
    gO y10 0 v12 (
    (fX0_metCount y10 v12 v14).bind fun y15 =>
    (gN y10 11 x0 3).bind fun v17 =>
    (gN y10 11 x0 5).bind fun v18 =>
    (gI y10 8 v18 0).bind fun v19 =>
    gO y10 0 v17 (
    (fX0_metCount y10 v17 v19).bind fun y20 =>
    some (((y15 - y20), y10)))))) else (
    some ((((-10 : Int32) - y6.1), y6.2)))))
theorem oX11_year_0 {d : Nat} (hd : 5 ≤ d) {h : Hp} {x0 : Nat} {x1 : Int32} {rf : Option Value} {hf : Hp} {x : (Int32 × Hp)} (hs : fX11_year h x0 x1 = some x) (hk : (kX11_year rf hf) x) : Go d mX11_year 0 [some (.ref x0), some (.int x1), none] [] h rf hf := by
  unfold fX11_year at hs
  refine go_aload_n (k4 := 0) rfl (Or.inr ⟨_, rfl⟩) dX11_year_0 ?_
  obtain ⟨v1, ev1, hs⟩ := bindS hs
  refine go_gN fl_RX11_40 ev1 dX11_year_1 ?_
  refine go_aload_n (k4 := 0) rfl (Or.inr ⟨_, rfl⟩) dX11_year_4 ?_
  obtain ⟨v2, ev2, hs⟩ := bindS hs
  refine go_gN fl_RX11_36 ev2 dX11_year_5 ?_
  obtain ⟨g4, hs⟩ := gO_at hs
  obtain ⟨y3, ey3, hs⟩ := bindS hs
  refine go_V0 (As := [.ref v2]) (st := []) g4 rfl rfl (oX8_copy (d := d - 1) (by omega) ey3) (by omega) mb_X8_copy lm_RX11_188 mi_X8_copy (Nat.le_of_ble_eq_true rfl) rfl dX11_year_8 ?_
  refine go_aload_n (k4 := 0) rfl (Or.inr ⟨_, rfl⟩) dX11_year_11 ?_
  refine go_aload_n (k4 := 0) rfl (Or.inr ⟨_, rfl⟩) dX11_year_12 ?_
  refine go_at 13 rfl ?_
  obtain ⟨v5, ev5, hs⟩ := bindS hs
  refine go_gN fl_RX11_36 ev5 dX11_year_13 ?_
  refine go_iload_n (k4 := 1) rfl dX11_year_16 ?_
  obtain ⟨g7, hs⟩ := gO_at hs
  obtain ⟨y6, ey6, hs⟩ := bindS hs
  refine go_V1 (As := [.ref v5, .int x1]) (st := []) g7 rfl rfl (oX11_passYear (d := d - 1) (by omega) ey6) (by omega) mb_X11_passYear lm_RX11_192 mi_X11_passYear (Nat.le_of_ble_eq_true rfl) rfl dX11_year_17 ?_
  refine go_istore_n (k4 := 2) (L' := [some (.ref x0), some (.int x1), some (.int y6.1)]) (by decide) rfl dX11_year_20 ?_
  refine go_iload_n (k4 := 2) rfl dX11_year_21 ?_
  refine go_if_eq (tgt := 30) (by decide) dX11_year_22 (fun c => ?_) (fun c => ?_)
  · have hs := if_t c hs
    refine go_aload_n (k4 := 0) rfl (Or.inr ⟨_, rfl⟩) dX11_year_30 ?_
    obtain ⟨v8, ev8, hs⟩ := bindS hs
    refine go_gN fl_RX11_49 ev8 dX11_year_31 ?_
    refine go_aload_n (k4 := 0) rfl (Or.inr ⟨_, rfl⟩) dX11_year_34 ?_
    obtain ⟨v9, ev9, hs⟩ := bindS hs
    refine go_gN fl_RX11_40 ev9 dX11_year_35 ?_
    obtain ⟨g11, hs⟩ := gO_at hs
    obtain ⟨y10, ey10, hs⟩ := bindS hs
    refine go_V0 (As := [.ref v9]) (st := []) g11 rfl rfl (oX5_remember (d := d - 1) (by omega) ey10) (by omega) mb_X5_remember lm_RX11_196 mi_X5_remember (Nat.le_of_ble_eq_true rfl) rfl dX11_year_38 ?_
    refine go_aload_n (k4 := 0) rfl (Or.inr ⟨_, rfl⟩) dX11_year_41 ?_
    obtain ⟨v12, ev12, hs⟩ := bindS hs
    refine go_gN fl_RX11_29 ev12 dX11_year_42 ?_
    refine go_at 45 rfl ?_
    refine go_aload_n (k4 := 0) rfl (Or.inr ⟨_, rfl⟩) dX11_year_45 ?_
    obtain ⟨v13, ev13, hs⟩ := bindS hs
    refine go_gN fl_RX11_36 ev13 dX11_year_46 ?_
    obtain ⟨v14, ev14, hs⟩ := bindS hs
    refine go_gI fl_RX11_142 ev14 dX11_year_49 ?_
    obtain ⟨g16, hs⟩ := gO_at hs
    obtain ⟨y15, ey15, hs⟩ := bindS hs
    refine go_V1 (As := [.int v14]) (st := []) g16 rfl rfl (oX0_metCount (d := d - 1) (by omega) ey15) (by omega) mb_X0_metCount lm_RX11_170 mi_X0_metCount (Nat.le_of_ble_eq_true rfl) rfl dX11_year_52 ?_
    refine go_aload_n (k4 := 0) rfl (Or.inr ⟨_, rfl⟩) dX11_year_55 ?_
    obtain ⟨v17, ev17, hs⟩ := bindS hs
    refine go_gN fl_RX11_29 ev17 dX11_year_56 ?_
    refine go_aload_n (k4 := 0) rfl (Or.inr ⟨_, rfl⟩) dX11_year_59 ?_
    obtain ⟨v18, ev18, hs⟩ := bindS hs
    refine go_gN fl_RX11_40 ev18 dX11_year_60 ?_
    refine go_at 63 rfl ?_
    obtain ⟨v19, ev19, hs⟩ := bindS hs
    refine go_gI fl_RX11_142 ev19 dX11_year_63 ?_
    obtain ⟨g21, hs⟩ := gO_at hs
    obtain ⟨y20, ey20, hs⟩ := bindS hs
    refine go_V1 (As := [.int v19]) (st := [.int y15]) g21 rfl rfl (oX0_metCount (d := d - 1) (by omega) ey20) (by omega) mb_X0_metCount lm_RX11_170 mi_X0_metCount (Nat.le_of_ble_eq_true rfl) rfl dX11_year_66 ?_
    refine go_isub dX11_year_69 ?_
    obtain rfl := Option.some.inj hs
    obtain ⟨rfl, rfl⟩ := hk
    exact go_iret rfl dX11_year_70
  · have hs := if_f c hs
    refine go_bipush (v := -10) (by decide) dX11_year_25 ?_
    refine go_iload_n (k4 := 2) rfl dX11_year_27 ?_
    refine go_isub dX11_year_28 ?_
    obtain rfl := Option.some.inj hs
    obtain ⟨rfl, rfl⟩ := hk
    exact go_iret rfl dX11_year_29
theorem oX11_year {d : Nat} (hd : 5 ≤ d) {h : Hp} {x0 : Nat} {x1 : Int32} {y : (Int32 × Hp)} (hs : fX11_year h x0 x1 = some y) : Call d mX11_year [.ref x0, .int x1] h (some (.int y.1)) (y.2) := call_of (by decide +kernel) (Nat.le_of_ble_eq_true rfl) (show Go d mX11_year 0 [some (.ref x0), some (.int x1), none] [] h _ _ from go_subL (by simp [subL]) (oX11_year_0 hd hs ⟨rfl, rfl⟩))
abbrev kX0_isLeading (h : Hp) (rf : Option Value) (hf : Hp) : Int32 → Prop := fun y => rf = some (.int y) ∧ hf = h
abbrev pX0_isLeading_2 (d : Nat) (h : Hp) (x0 : Nat) (x1 : Int32) (rf : Option Value) (hf : Hp) : Int32 → Prop := fun s => Go d mX0_isLeading 2 [some (.ref x0), some (.int x1), some (.int s)] [] h rf hf
noncomputable def fX0_isLeading_2b (h : Hp) (x0 : Nat) (x1 : Int32) (x2 : Int32) : Option (Int32 ⊕ Int32) :=
  (gN h 0 x0 9).bind fun v1 =>
  (aL h v1).bind fun v2 =>
  if v2 ≤ x2 then (
    some (.inr (0 : Int32))) else (
    (gN h 0 x0 9).bind fun v3 =>
    (aI 0 h v3 x2).bind fun v4 =>
    if v4 = x1 then (
      some (.inr (1 : Int32))) else (
      some (.inl (x2 + Int32.ofInt 1))))
noncomputable def fX0_isLeading_2 (h : Hp) (x0 : Nat) (x1 : Int32) (x2 : Int32) : Option Int32 := lpw (σ := Int32) (fun s => fX0_isLeading_2b h x0 x1 s) x2
theorem oX0_isLeading_2b {d : Nat} (hd : 0 ≤ d) {h : Hp} {x0 : Nat} {x1 : Int32} {x2 : Int32} {rf : Option Value} {hf : Hp} {x : (Int32 ⊕ Int32)} (hs : fX0_isLeading_2b h x0 x1 x2 = some x) (hk : (Kx (pX0_isLeading_2 d h x0 x1 rf hf) (kX0_isLeading h rf hf)) x) : Go d mX0_isLeading 2 [some (.ref x0), some (.int x1), some (.int x2)] [] h rf hf := by
  unfold fX0_isLeading_2b at hs
  refine go_iload_n (k4 := 2) rfl dX0_isLeading_2 ?_
  refine go_aload_n (k4 := 0) rfl (Or.inr ⟨_, rfl⟩) dX0_isLeading_3 ?_
  obtain ⟨v1, ev1, hs⟩ := bindS hs
  refine go_gN fl_RX0_61 ev1 dX0_isLeading_4 ?_
  obtain ⟨v2, ev2, hs⟩ := bindS hs
  refine go_aL ev2 dX0_isLeading_7 ?_
  refine go_icmp_ge (tgt := 29) (by decide) dX0_isLeading_8 (fun c => ?_) (fun c => ?_)
  · have hs := if_t c hs
    refine go_iconst (v := 0) (by decide) dX0_isLeading_29 ?_
    obtain rfl := Option.some.inj hs
    obtain ⟨rfl, rfl⟩ := hk
    exact go_zret (ty := .boolean) rfl rfl dX0_isLeading_30
  · have hs := if_f c hs
    refine go_aload_n (k4 := 0) rfl (Or.inr ⟨_, rfl⟩) dX0_isLeading_11 ?_
    obtain ⟨v3, ev3, hs⟩ := bindS hs
    refine go_gN fl_RX0_61 ev3 dX0_isLeading_12 ?_
    refine go_iload_n (k4 := 2) rfl dX0_isLeading_15 ?_
    obtain ⟨v4, ev4, hs⟩ := bindS hs
    refine go_aIi ev4 dX0_isLeading_16 ?_
    refine go_iload_n (k4 := 1) rfl dX0_isLeading_17 ?_
    refine go_icmp_ne (tgt := 23) (by decide) dX0_isLeading_18 (fun c => ?_) (fun c => ?_)
    · have hs := if_f c hs
      refine go_iinc (L' := [some (.ref x0), some (.int x1), some (.int (x2 + Int32.ofInt 1))]) rfl (by decide) rfl rfl dX0_isLeading_23 ?_
      refine go_goto (tgt := 2) (by decide) dX0_isLeading_26 ?_
      obtain rfl := Option.some.inj hs
      exact go_subL (L' := [some (.ref x0), some (.int x1), some (.int (x2 + Int32.ofInt 1))]) (by simp [subL, va_rf]) hk
    · have hs := if_t c hs
      refine go_iconst (v := 1) (by decide) dX0_isLeading_21 ?_
      obtain rfl := Option.some.inj hs
      obtain ⟨rfl, rfl⟩ := hk
      exact go_zret (ty := .boolean) rfl rfl dX0_isLeading_22
theorem oX0_isLeading_2 {d : Nat} (hd : 0 ≤ d) {h : Hp} {x0 : Nat} {x1 : Int32} {x2 : Int32} {rf : Option Value} {hf : Hp} {x : Int32} (hs : fX0_isLeading_2 h x0 x1 x2 = some x) (hk : (kX0_isLeading h rf hf) x) : Go d mX0_isLeading 2 [some (.ref x0), some (.int x1), some (.int x2)] [] h rf hf := by
  unfold fX0_isLeading_2 at hs
  exact lpw_go (P := pX0_isLeading_2 d h x0 x1 rf hf) (fun s x hs hk => oX0_isLeading_2b hd hs hk) x2 x hs hk
noncomputable def fX0_isLeading (h : Hp) (x0 : Nat) (x1 : Int32) : Option Int32 :=
  fX0_isLeading_2 h x0 x1 (0 : Int32)
theorem oX0_isLeading_0 {d : Nat} (hd : 0 ≤ d) {h : Hp} {x0 : Nat} {x1 : Int32} {rf : Option Value} {hf : Hp} {x : Int32} (hs : fX0_isLeading h x0 x1 = some x) (hk : (kX0_isLeading h rf hf) x) : Go d mX0_isLeading 0 [some (.ref x0), some (.int x1), none] [] h rf hf := by
  unfold fX0_isLeading at hs
  refine go_iconst (v := 0) (by decide) dX0_isLeading_0 ?_
  refine go_istore_n (k4 := 2) (L' := [some (.ref x0), some (.int x1), some (.int (0 : Int32))]) (by decide) rfl dX0_isLeading_1 ?_
  exact go_subL (L' := [some (.ref x0), some (.int x1), some (.int (0 : Int32))]) (by simp [subL, va_rf]) (oX0_isLeading_2 hd hs hk)
theorem oX0_isLeading {d : Nat} (hd : 0 ≤ d) {h : Hp} {x0 : Nat} {x1 : Int32} {y : Int32} (hs : fX0_isLeading h x0 x1 = some y) : Call d mX0_isLeading [.ref x0, .int x1] h (some (.int y)) h := call_of (by decide +kernel) (Nat.le_of_ble_eq_true rfl) (show Go d mX0_isLeading 0 [some (.ref x0), some (.int x1), none] [] h _ _ from go_subL (by simp [subL]) (oX0_isLeading_0 hd hs ⟨rfl, rfl⟩))
abbrev kX11_leadOtherwise (rf : Option Value) (hf : Hp) : (Int32 × Hp) → Prop := fun y => rf = some (.int y.1) ∧ hf = y.2
noncomputable def fX11_leadOtherwise (h : Hp) (x0 : Nat) (x1 : Nat) (x2 : Int32) : Option (Int32 × Hp) :=
  (gN h 11 x0 3).bind fun v1 =>
  gO h 0 v1 (
  (fX0_isLeading h v1 x2).bind fun y2 =>
  if y2 = 0 then (
    some (((1 : Int32), h))) else (
    (sV h 8 x1 2 (.int x2)).bind fun h4 =>
    some (((0 : Int32), h4))))
theorem oX11_leadOtherwise_0 {d : Nat} (hd : 1 ≤ d) {h : Hp} {x0 : Nat} {x1 : Nat} {x2 : Int32} {rf : Option Value} {hf : Hp} {x : (Int32 × Hp)} (hs : fX11_leadOtherwise h x0 x1 x2 = some x) (hk : (kX11_leadOtherwise rf hf) x) : Go d mX11_leadOtherwise 0 [some (.ref x0), some (.ref x1), some (.int x2)] [] h rf hf := by
  unfold fX11_leadOtherwise at hs
  refine go_aload_n (k4 := 0) rfl (Or.inr ⟨_, rfl⟩) dX11_leadOtherwise_0 ?_
  obtain ⟨v1, ev1, hs⟩ := bindS hs
  refine go_gN fl_RX11_29 ev1 dX11_leadOtherwise_1 ?_
  refine go_iload_n (k4 := 2) rfl dX11_leadOtherwise_4 ?_
  obtain ⟨g3, hs⟩ := gO_at hs
  obtain ⟨y2, ey2, hs⟩ := bindS hs
  refine go_V1 (As := [.int x2]) (st := []) g3 rfl rfl (oX0_isLeading (d := d - 1) (by omega) ey2) (by omega) mb_X0_isLeading lm_RX11_264 mi_X0_isLeading (Nat.le_of_ble_eq_true rfl) rfl dX11_leadOtherwise_5 ?_
  refine go_if_ne (tgt := 13) (by decide) dX11_leadOtherwise_8 (fun c => ?_) (fun c => ?_)
  · have hs := if_f c hs
    refine go_aload_n (k4 := 1) rfl (Or.inr ⟨_, rfl⟩) dX11_leadOtherwise_13 ?_
    refine go_iload_n (k4 := 2) rfl dX11_leadOtherwise_14 ?_
    obtain ⟨h4, eh4, hs⟩ := bindS hs
    refine go_sV fw_RX11_152 eh4 rfl rfl dX11_leadOtherwise_15 ?_
    refine go_iconst (v := 0) (by decide) dX11_leadOtherwise_18 ?_
    obtain rfl := Option.some.inj hs
    obtain ⟨rfl, rfl⟩ := hk
    exact go_iret rfl dX11_leadOtherwise_19
  · have hs := if_t c hs
    refine go_iconst (v := 1) (by decide) dX11_leadOtherwise_11 ?_
    obtain rfl := Option.some.inj hs
    obtain ⟨rfl, rfl⟩ := hk
    exact go_iret rfl dX11_leadOtherwise_12
theorem oX11_leadOtherwise {d : Nat} (hd : 1 ≤ d) {h : Hp} {x0 : Nat} {x1 : Nat} {x2 : Int32} {y : (Int32 × Hp)} (hs : fX11_leadOtherwise h x0 x1 x2 = some y) : Call d mX11_leadOtherwise [.ref x0, .ref x1, .int x2] h (some (.int y.1)) (y.2) := call_of (by decide +kernel) (Nat.le_of_ble_eq_true rfl) (show Go d mX11_leadOtherwise 0 [some (.ref x0), some (.ref x1), some (.int x2)] [] h _ _ from go_subL (by simp [subL]) (oX11_leadOtherwise_0 hd hs ⟨rfl, rfl⟩))
abbrev kX11_lead (rf : Option Value) (hf : Hp) : (Int32 × Hp) → Prop := fun y => rf = some (.int y.1) ∧ hf = y.2
noncomputable def fX11_lead (h : Hp) (x0 : Nat) (x1 : Int32) : Option (Int32 × Hp) :=
  (gN h 11 x0 5).bind fun v1 =>
  (gN h 11 x0 4).bind fun v2 =>
  gO h 8 v1 (
  (fX8_copy h v1 v2).bind fun y3 =>
  (gN y3 11 x0 4).bind fun v5 =>
  gO y3 11 x0 (
  (fX11_leadOtherwise y3 x0 v5 x1).bind fun y6 =>
  if y6.1 = 0 then (
    (gN y6.2 11 x0 7).bind fun v8 =>
    (gN y6.2 11 x0 5).bind fun v9 =>
    gO y6.2 5 v8 (
    (fX5_remember y6.2 v8 v9).bind fun y10 =>
    (gN y10 11 x0 5).bind fun v12 =>
    (gI y10 8 v12 2).bind fun v13 =>
    some ((v13, y10)))) else (
    some ((((-10 : Int32) - y6.1), y6.2)))))
theorem oX11_lead_0 {d : Nat} (hd : 2 ≤ d) {h : Hp} {x0 : Nat} {x1 : Int32} {rf : Option Value} {hf : Hp} {x : (Int32 × Hp)} (hs : fX11_lead h x0 x1 = some x) (hk : (kX11_lead rf hf) x) : Go d mX11_lead 0 [some (.ref x0), some (.int x1), none] [] h rf hf := by
  unfold fX11_lead at hs
  refine go_aload_n (k4 := 0) rfl (Or.inr ⟨_, rfl⟩) dX11_lead_0 ?_
  obtain ⟨v1, ev1, hs⟩ := bindS hs
  refine go_gN fl_RX11_40 ev1 dX11_lead_1 ?_
  refine go_aload_n (k4 := 0) rfl (Or.inr ⟨_, rfl⟩) dX11_lead_4 ?_
  obtain ⟨v2, ev2, hs⟩ := bindS hs
  refine go_gN fl_RX11_36 ev2 dX11_lead_5 ?_
  obtain ⟨g4, hs⟩ := gO_at hs
  obtain ⟨y3, ey3, hs⟩ := bindS hs
  refine go_V0 (As := [.ref v2]) (st := []) g4 rfl rfl (oX8_copy (d := d - 1) (by omega) ey3) (by omega) mb_X8_copy lm_RX11_188 mi_X8_copy (Nat.le_of_ble_eq_true rfl) rfl dX11_lead_8 ?_
  refine go_aload_n (k4 := 0) rfl (Or.inr ⟨_, rfl⟩) dX11_lead_11 ?_
  refine go_aload_n (k4 := 0) rfl (Or.inr ⟨_, rfl⟩) dX11_lead_12 ?_
  refine go_at 13 rfl ?_
  obtain ⟨v5, ev5, hs⟩ := bindS hs
  refine go_gN fl_RX11_36 ev5 dX11_lead_13 ?_
  refine go_iload_n (k4 := 1) rfl dX11_lead_16 ?_
  obtain ⟨g7, hs⟩ := gO_at hs
  obtain ⟨y6, ey6, hs⟩ := bindS hs
  refine go_V1 (As := [.ref v5, .int x1]) (st := []) g7 rfl rfl (oX11_leadOtherwise (d := d - 1) (by omega) ey6) (by omega) mb_X11_leadOtherwise lm_RX11_199 mi_X11_leadOtherwise (Nat.le_of_ble_eq_true rfl) rfl dX11_lead_17 ?_
  refine go_istore_n (k4 := 2) (L' := [some (.ref x0), some (.int x1), some (.int y6.1)]) (by decide) rfl dX11_lead_20 ?_
  refine go_iload_n (k4 := 2) rfl dX11_lead_21 ?_
  refine go_if_eq (tgt := 30) (by decide) dX11_lead_22 (fun c => ?_) (fun c => ?_)
  · have hs := if_t c hs
    refine go_aload_n (k4 := 0) rfl (Or.inr ⟨_, rfl⟩) dX11_lead_30 ?_
    obtain ⟨v8, ev8, hs⟩ := bindS hs
    refine go_gN fl_RX11_49 ev8 dX11_lead_31 ?_
    refine go_aload_n (k4 := 0) rfl (Or.inr ⟨_, rfl⟩) dX11_lead_34 ?_
    obtain ⟨v9, ev9, hs⟩ := bindS hs
    refine go_gN fl_RX11_40 ev9 dX11_lead_35 ?_
    obtain ⟨g11, hs⟩ := gO_at hs
    obtain ⟨y10, ey10, hs⟩ := bindS hs
    refine go_V0 (As := [.ref v9]) (st := []) g11 rfl rfl (oX5_remember (d := d - 1) (by omega) ey10) (by omega) mb_X5_remember lm_RX11_196 mi_X5_remember (Nat.le_of_ble_eq_true rfl) rfl dX11_lead_38 ?_
    refine go_aload_n (k4 := 0) rfl (Or.inr ⟨_, rfl⟩) dX11_lead_41 ?_
    obtain ⟨v12, ev12, hs⟩ := bindS hs
    refine go_gN fl_RX11_40 ev12 dX11_lead_42 ?_
    refine go_at 45 rfl ?_
    obtain ⟨v13, ev13, hs⟩ := bindS hs
    refine go_gI fl_RX11_152 ev13 dX11_lead_45 ?_
    obtain rfl := Option.some.inj hs
    obtain ⟨rfl, rfl⟩ := hk
    exact go_iret rfl dX11_lead_48
  · have hs := if_f c hs
    refine go_bipush (v := -10) (by decide) dX11_lead_25 ?_
    refine go_iload_n (k4 := 2) rfl dX11_lead_27 ?_
    refine go_isub dX11_lead_28 ?_
    obtain rfl := Option.some.inj hs
    obtain ⟨rfl, rfl⟩ := hk
    exact go_iret rfl dX11_lead_29
theorem oX11_lead {d : Nat} (hd : 2 ≤ d) {h : Hp} {x0 : Nat} {x1 : Int32} {y : (Int32 × Hp)} (hs : fX11_lead h x0 x1 = some y) : Call d mX11_lead [.ref x0, .int x1] h (some (.int y.1)) (y.2) := call_of (by decide +kernel) (Nat.le_of_ble_eq_true rfl) (show Go d mX11_lead 0 [some (.ref x0), some (.int x1), none] [] h _ _ from go_subL (by simp [subL]) (oX11_lead_0 hd hs ⟨rfl, rfl⟩))
abbrev kX11_withDigit (h : Hp) (rf : Option Value) (hf : Hp) : Int32 → Prop := fun y => rf = some (.int y) ∧ hf = h
noncomputable def fX11_withDigit_28 (h : Hp) (s0 : Int32) : Option Int32 :=
  some (s0)
theorem oX11_withDigit_28 {d : Nat} (hd : 1 ≤ d) {h : Hp} {s0 : Int32} {rf : Option Value} {hf : Hp} {x : Int32} (hs : fX11_withDigit_28 h s0 = some x) (hk : (kX11_withDigit h rf hf) x) : Go d mX11_withDigit 28 [none, none, none] [.int s0] h rf hf := by
  unfold fX11_withDigit_28 at hs
  obtain rfl := Option.some.inj hs
  obtain ⟨rfl, rfl⟩ := hk
  exact go_iret rfl dX11_withDigit_28
noncomputable def fX11_withDigit_9 (h : Hp) (x0 : Int32) : Option Int32 :=
  fX11_withDigit_28 h x0
theorem oX11_withDigit_9 {d : Nat} (hd : 1 ≤ d) {h : Hp} {x0 : Int32} {rf : Option Value} {hf : Hp} {x : Int32} (hs : fX11_withDigit_9 h x0 = some x) (hk : (kX11_withDigit h rf hf) x) : Go d mX11_withDigit 9 [some (.int x0), none, none] [] h rf hf := by
  unfold fX11_withDigit_9 at hs
  refine go_iload_n (k4 := 0) rfl dX11_withDigit_9 ?_
  refine go_goto (tgt := 28) (by decide) dX11_withDigit_10 ?_
  exact go_subL (L' := [none, none, none]) (by simp [subL, va_rf]) (oX11_withDigit_28 hd hs hk)
noncomputable def fX11_withDigit (h : Hp) (x0 : Int32) (x1 : Int32) (x2 : Int32) : Option Int32 :=
  if x1 < 0 then (
  fX11_withDigit_9 h x0) else (
    if x1 < (4 : Int32) then (
      (fX11_digit h x0 x1).bind fun y1 =>
      (tT 1 x1).bind fun v2 =>
      fX11_withDigit_28 h (x0 + ((x2 - y1) * v2))) else (
    fX11_withDigit_9 h x0))
theorem oX11_withDigit_0 {d : Nat} (hd : 1 ≤ d) {h : Hp} {x0 : Int32} {x1 : Int32} {x2 : Int32} {rf : Option Value} {hf : Hp} {x : Int32} (hs : fX11_withDigit h x0 x1 x2 = some x) (hk : (kX11_withDigit h rf hf) x) : Go d mX11_withDigit 0 [some (.int x0), some (.int x1), some (.int x2)] [] h rf hf := by
  unfold fX11_withDigit at hs
  refine go_iload_n (k4 := 1) rfl dX11_withDigit_0 ?_
  refine go_if_lt (tgt := 9) (by decide) dX11_withDigit_1 (fun c => ?_) (fun c => ?_)
  · have hs := if_t c hs
    exact go_subL (L' := [some (.int x0), none, none]) (by simp [subL, va_rf]) (oX11_withDigit_9 hd hs hk)
  · have hs := if_f c hs
    refine go_iload_n (k4 := 1) rfl dX11_withDigit_4 ?_
    refine go_iconst (v := 4) (by decide) dX11_withDigit_5 ?_
    refine go_icmp_lt (tgt := 13) (by decide) dX11_withDigit_6 (fun c => ?_) (fun c => ?_)
    · have hs := if_t c hs
      refine go_iload_n (k4 := 0) rfl dX11_withDigit_13 ?_
      refine go_iload_n (k4 := 2) rfl dX11_withDigit_14 ?_
      refine go_iload_n (k4 := 0) rfl dX11_withDigit_15 ?_
      refine go_iload_n (k4 := 1) rfl dX11_withDigit_16 ?_
      obtain ⟨y1, ey1, hs⟩ := bindS hs
      refine go_S1 (As := [.int x0, .int x1]) (st := [.int x2, .int x0]) (oX11_digit (d := d - 1) (by omega) ey1) (by omega) mb_X11_digit lm_RX11_145 ms_X11_digit (Nat.le_of_ble_eq_true rfl) rfl dX11_withDigit_17 ?_
      refine go_isub dX11_withDigit_20 ?_
      refine go_stat (j := 1) rfl lz_RX11_422.1 lz_RX11_422.2.1 lz_RX11_422.2.2 dX11_withDigit_21 ?_
      refine go_at 24 rfl ?_
      refine go_iload_n (k4 := 1) rfl dX11_withDigit_24 ?_
      obtain ⟨v2, ev2, hs⟩ := bindS hs
      refine go_tT (by decide) ev2 dX11_withDigit_25 ?_
      refine go_imul dX11_withDigit_26 ?_
      refine go_iadd dX11_withDigit_27 ?_
      exact go_subL (L' := [none, none, none]) (by simp [subL, va_rf]) (oX11_withDigit_28 hd hs hk)
    · have hs := if_f c hs
      exact go_subL (L' := [some (.int x0), none, none]) (by simp [subL, va_rf]) (oX11_withDigit_9 hd hs hk)
theorem oX11_withDigit {d : Nat} (hd : 1 ≤ d) {h : Hp} {x0 : Int32} {x1 : Int32} {x2 : Int32} {y : Int32} (hs : fX11_withDigit h x0 x1 x2 = some y) : Call d mX11_withDigit [.int x0, .int x1, .int x2] h (some (.int y)) h := call_of (by decide +kernel) (Nat.le_of_ble_eq_true rfl) (show Go d mX11_withDigit 0 [some (.int x0), some (.int x1), some (.int x2)] [] h _ _ from go_subL (by simp [subL]) (oX11_withDigit_0 hd hs ⟨rfl, rfl⟩))
abbrev kX11_sawOff (rf : Option Value) (hf : Hp) : (Int32 × Hp) → Prop := fun y => rf = some (.int y.1) ∧ hf = y.2
noncomputable def fX11_sawOff (h : Hp) (x0 : Nat) (x1 : Nat) (x2 : Int32) : Option (Int32 × Hp) :=
  gO h 11 x0 (
  (fX11_isPair h x0 x2).bind fun y1 =>
  if y1 = 0 then (
    some (((1 : Int32), h))) else (
    (gI h 8 x1 0).bind fun v3 =>
    if v3 < (10000 : Int32) then (
      (gI h 8 x1 0).bind fun v4 =>
      (gN h 11 x0 3).bind fun v5 =>
      (gI h 0 v5 4).bind fun v6 =>
      (fX11_digit h v6 x2).bind fun y7 =>
      (fX11_withDigit h v4 x2 y7).bind fun y8 =>
      (sV h 8 x1 0 (.int y8)).bind fun h9 =>
      some (((0 : Int32), h9))) else (
      some (((2 : Int32), h)))))
theorem oX11_sawOff_0 {d : Nat} (hd : 2 ≤ d) {h : Hp} {x0 : Nat} {x1 : Nat} {x2 : Int32} {rf : Option Value} {hf : Hp} {x : (Int32 × Hp)} (hs : fX11_sawOff h x0 x1 x2 = some x) (hk : (kX11_sawOff rf hf) x) : Go d mX11_sawOff 0 [some (.ref x0), some (.ref x1), some (.int x2)] [] h rf hf := by
  unfold fX11_sawOff at hs
  refine go_aload_n (k4 := 0) rfl (Or.inr ⟨_, rfl⟩) dX11_sawOff_0 ?_
  refine go_iload_n (k4 := 2) rfl dX11_sawOff_1 ?_
  obtain ⟨g2, hs⟩ := gO_at hs
  obtain ⟨y1, ey1, hs⟩ := bindS hs
  refine go_V1 (As := [.int x2]) (st := []) g2 rfl rfl (oX11_isPair (d := d - 1) (by omega) ey1) (by omega) mb_X11_isPair lm_RX11_138 mi_X11_isPair (Nat.le_of_ble_eq_true rfl) rfl dX11_sawOff_2 ?_
  refine go_if_ne (tgt := 10) (by decide) dX11_sawOff_5 (fun c => ?_) (fun c => ?_)
  · have hs := if_f c hs
    refine go_aload_n (k4 := 1) rfl (Or.inr ⟨_, rfl⟩) dX11_sawOff_10 ?_
    obtain ⟨v3, ev3, hs⟩ := bindS hs
    refine go_gI fl_RX11_142 ev3 dX11_sawOff_11 ?_
    refine go_sipush (v := 10000) (by decide) dX11_sawOff_14 ?_
    refine go_icmp_lt (tgt := 22) (by decide) dX11_sawOff_17 (fun c => ?_) (fun c => ?_)
    · have hs := if_t c hs
      refine go_aload_n (k4 := 1) rfl (Or.inr ⟨_, rfl⟩) dX11_sawOff_22 ?_
      refine go_aload_n (k4 := 1) rfl (Or.inr ⟨_, rfl⟩) dX11_sawOff_23 ?_
      obtain ⟨v4, ev4, hs⟩ := bindS hs
      refine go_gI fl_RX11_142 ev4 dX11_sawOff_24 ?_
      refine go_iload_n (k4 := 2) rfl dX11_sawOff_27 ?_
      refine go_aload_n (k4 := 0) rfl (Or.inr ⟨_, rfl⟩) dX11_sawOff_28 ?_
      obtain ⟨v5, ev5, hs⟩ := bindS hs
      refine go_gN fl_RX11_29 ev5 dX11_sawOff_29 ?_
      obtain ⟨v6, ev6, hs⟩ := bindS hs
      refine go_gI fl_RX11_158 ev6 dX11_sawOff_32 ?_
      refine go_at 35 rfl ?_
      refine go_iload_n (k4 := 2) rfl dX11_sawOff_35 ?_
      obtain ⟨y7, ey7, hs⟩ := bindS hs
      refine go_S1 (As := [.int v6, .int x2]) (st := [.int x2, .int v4, .ref x1]) (oX11_digit (d := d - 1) (by omega) ey7) (by omega) mb_X11_digit lm_RX11_145 ms_X11_digit (Nat.le_of_ble_eq_true rfl) rfl dX11_sawOff_36 ?_
      obtain ⟨y8, ey8, hs⟩ := bindS hs
      refine go_S1 (As := [.int v4, .int x2, .int y7]) (st := [.ref x1]) (oX11_withDigit (d := d - 1) (by omega) ey8) (by omega) mb_X11_withDigit lm_RX11_267 ms_X11_withDigit (Nat.le_of_ble_eq_true rfl) rfl dX11_sawOff_39 ?_
      obtain ⟨h9, eh9, hs⟩ := bindS hs
      refine go_sV fw_RX11_142 eh9 rfl rfl dX11_sawOff_42 ?_
      refine go_iconst (v := 0) (by decide) dX11_sawOff_45 ?_
      obtain rfl := Option.some.inj hs
      obtain ⟨rfl, rfl⟩ := hk
      exact go_iret rfl dX11_sawOff_46
    · have hs := if_f c hs
      refine go_iconst (v := 2) (by decide) dX11_sawOff_20 ?_
      obtain rfl := Option.some.inj hs
      obtain ⟨rfl, rfl⟩ := hk
      exact go_iret rfl dX11_sawOff_21
  · have hs := if_t c hs
    refine go_iconst (v := 1) (by decide) dX11_sawOff_8 ?_
    obtain rfl := Option.some.inj hs
    obtain ⟨rfl, rfl⟩ := hk
    exact go_iret rfl dX11_sawOff_9
theorem oX11_sawOff {d : Nat} (hd : 2 ≤ d) {h : Hp} {x0 : Nat} {x1 : Nat} {x2 : Int32} {y : (Int32 × Hp)} (hs : fX11_sawOff h x0 x1 x2 = some y) : Call d mX11_sawOff [.ref x0, .ref x1, .int x2] h (some (.int y.1)) (y.2) := call_of (by decide +kernel) (Nat.le_of_ble_eq_true rfl) (show Go d mX11_sawOff 0 [some (.ref x0), some (.ref x1), some (.int x2)] [] h _ _ from go_subL (by simp [subL]) (oX11_sawOff_0 hd hs ⟨rfl, rfl⟩))
abbrev kX11_saw (rf : Option Value) (hf : Hp) : (Int32 × Hp) → Prop := fun y => rf = some (.int y.1) ∧ hf = y.2
noncomputable def fX11_saw (h : Hp) (x0 : Nat) (x1 : Int32) : Option (Int32 × Hp) :=
  (gN h 11 x0 5).bind fun v1 =>
  (gN h 11 x0 4).bind fun v2 =>
  gO h 8 v1 (
  (fX8_copy h v1 v2).bind fun y3 =>
  (gN y3 11 x0 4).bind fun v5 =>
  gO y3 11 x0 (
  (fX11_sawOff y3 x0 v5 x1).bind fun y6 =>
  if y6.1 = 0 then (
    (gN y6.2 11 x0 7).bind fun v8 =>
    (gN y6.2 11 x0 5).bind fun v9 =>
    gO y6.2 5 v8 (
    (fX5_remember y6.2 v8 v9).bind fun y10 =>
    (gN y10 11 x0 5).bind fun v12 =>
    (gI y10 8 v12 0).bind fun v13 =>
    (fX11_digit y10 v13 x1).bind fun y14 =>
    some ((y14, y10)))) else (
    some ((((-10 : Int32) - y6.1), y6.2)))))
theorem oX11_saw_0 {d : Nat} (hd : 3 ≤ d) {h : Hp} {x0 : Nat} {x1 : Int32} {rf : Option Value} {hf : Hp} {x : (Int32 × Hp)} (hs : fX11_saw h x0 x1 = some x) (hk : (kX11_saw rf hf) x) : Go d mX11_saw 0 [some (.ref x0), some (.int x1), none] [] h rf hf := by
  unfold fX11_saw at hs
  refine go_aload_n (k4 := 0) rfl (Or.inr ⟨_, rfl⟩) dX11_saw_0 ?_
  obtain ⟨v1, ev1, hs⟩ := bindS hs
  refine go_gN fl_RX11_40 ev1 dX11_saw_1 ?_
  refine go_aload_n (k4 := 0) rfl (Or.inr ⟨_, rfl⟩) dX11_saw_4 ?_
  obtain ⟨v2, ev2, hs⟩ := bindS hs
  refine go_gN fl_RX11_36 ev2 dX11_saw_5 ?_
  obtain ⟨g4, hs⟩ := gO_at hs
  obtain ⟨y3, ey3, hs⟩ := bindS hs
  refine go_V0 (As := [.ref v2]) (st := []) g4 rfl rfl (oX8_copy (d := d - 1) (by omega) ey3) (by omega) mb_X8_copy lm_RX11_188 mi_X8_copy (Nat.le_of_ble_eq_true rfl) rfl dX11_saw_8 ?_
  refine go_aload_n (k4 := 0) rfl (Or.inr ⟨_, rfl⟩) dX11_saw_11 ?_
  refine go_aload_n (k4 := 0) rfl (Or.inr ⟨_, rfl⟩) dX11_saw_12 ?_
  refine go_at 13 rfl ?_
  obtain ⟨v5, ev5, hs⟩ := bindS hs
  refine go_gN fl_RX11_36 ev5 dX11_saw_13 ?_
  refine go_iload_n (k4 := 1) rfl dX11_saw_16 ?_
  obtain ⟨g7, hs⟩ := gO_at hs
  obtain ⟨y6, ey6, hs⟩ := bindS hs
  refine go_V1 (As := [.ref v5, .int x1]) (st := []) g7 rfl rfl (oX11_sawOff (d := d - 1) (by omega) ey6) (by omega) mb_X11_sawOff lm_RX11_202 mi_X11_sawOff (Nat.le_of_ble_eq_true rfl) rfl dX11_saw_17 ?_
  refine go_istore_n (k4 := 2) (L' := [some (.ref x0), some (.int x1), some (.int y6.1)]) (by decide) rfl dX11_saw_20 ?_
  refine go_iload_n (k4 := 2) rfl dX11_saw_21 ?_
  refine go_if_eq (tgt := 30) (by decide) dX11_saw_22 (fun c => ?_) (fun c => ?_)
  · have hs := if_t c hs
    refine go_aload_n (k4 := 0) rfl (Or.inr ⟨_, rfl⟩) dX11_saw_30 ?_
    obtain ⟨v8, ev8, hs⟩ := bindS hs
    refine go_gN fl_RX11_49 ev8 dX11_saw_31 ?_
    refine go_aload_n (k4 := 0) rfl (Or.inr ⟨_, rfl⟩) dX11_saw_34 ?_
    obtain ⟨v9, ev9, hs⟩ := bindS hs
    refine go_gN fl_RX11_40 ev9 dX11_saw_35 ?_
    obtain ⟨g11, hs⟩ := gO_at hs
    obtain ⟨y10, ey10, hs⟩ := bindS hs
    refine go_V0 (As := [.ref v9]) (st := []) g11 rfl rfl (oX5_remember (d := d - 1) (by omega) ey10) (by omega) mb_X5_remember lm_RX11_196 mi_X5_remember (Nat.le_of_ble_eq_true rfl) rfl dX11_saw_38 ?_
    refine go_aload_n (k4 := 0) rfl (Or.inr ⟨_, rfl⟩) dX11_saw_41 ?_
    obtain ⟨v12, ev12, hs⟩ := bindS hs
    refine go_gN fl_RX11_40 ev12 dX11_saw_42 ?_
    refine go_at 45 rfl ?_
    obtain ⟨v13, ev13, hs⟩ := bindS hs
    refine go_gI fl_RX11_142 ev13 dX11_saw_45 ?_
    refine go_iload_n (k4 := 1) rfl dX11_saw_48 ?_
    obtain ⟨y14, ey14, hs⟩ := bindS hs
    refine go_S1 (As := [.int v13, .int x1]) (st := []) (oX11_digit (d := d - 1) (by omega) ey14) (by omega) mb_X11_digit lm_RX11_145 ms_X11_digit (Nat.le_of_ble_eq_true rfl) rfl dX11_saw_49 ?_
    obtain rfl := Option.some.inj hs
    obtain ⟨rfl, rfl⟩ := hk
    exact go_iret rfl dX11_saw_52
  · have hs := if_f c hs
    refine go_bipush (v := -10) (by decide) dX11_saw_25 ?_
    refine go_iload_n (k4 := 2) rfl dX11_saw_27 ?_
    refine go_isub dX11_saw_28 ?_
    obtain rfl := Option.some.inj hs
    obtain ⟨rfl, rfl⟩ := hk
    exact go_iret rfl dX11_saw_29
theorem oX11_saw {d : Nat} (hd : 3 ≤ d) {h : Hp} {x0 : Nat} {x1 : Int32} {y : (Int32 × Hp)} (hs : fX11_saw h x0 x1 = some y) : Call d mX11_saw [.ref x0, .int x1] h (some (.int y.1)) (y.2) := call_of (by decide +kernel) (Nat.le_of_ble_eq_true rfl) (show Go d mX11_saw 0 [some (.ref x0), some (.int x1), none] [] h _ _ from go_subL (by simp [subL]) (oX11_saw_0 hd hs ⟨rfl, rfl⟩))
abbrev kX11_giveChalk (rf : Option Value) (hf : Hp) : (Int32 × Hp) → Prop := fun y => rf = some (.int y.1) ∧ hf = y.2
noncomputable def fX11_giveChalk_18 (h : Hp)  : Option (Int32 × Hp) :=
  some (((1 : Int32), h))
theorem oX11_giveChalk_18 {d : Nat} (hd : 2 ≤ d) {h : Hp} {rf : Option Value} {hf : Hp} {x : (Int32 × Hp)} (hs : fX11_giveChalk_18 h  = some x) (hk : (kX11_giveChalk rf hf) x) : Go d mX11_giveChalk 18 [none, none, none, none] [] h rf hf := by
  unfold fX11_giveChalk_18 at hs
  refine go_iconst (v := 1) (by decide) dX11_giveChalk_18 ?_
  obtain rfl := Option.some.inj hs
  obtain ⟨rfl, rfl⟩ := hk
  exact go_iret rfl dX11_giveChalk_19
noncomputable def fX11_giveChalk (h : Hp) (x0 : Nat) (x1 : Nat) (x2 : Int32) (x3 : Int32) : Option (Int32 × Hp) :=
  gO h 11 x0 (
  (fX11_isPair h x0 x2).bind fun y1 =>
  if y1 = 0 then (
  fX11_giveChalk_18 h ) else (
    if x3 < 0 then (
    fX11_giveChalk_18 h ) else (
      if x3 ≤ (9 : Int32) then (
        (gI h 8 x1 1).bind fun v3 =>
        (fX11_withDigit h v3 x2 x3).bind fun y4 =>
        (sV h 8 x1 1 (.int y4)).bind fun h5 =>
        some (((0 : Int32), h5))) else (
      fX11_giveChalk_18 h ))))
theorem oX11_giveChalk_0 {d : Nat} (hd : 2 ≤ d) {h : Hp} {x0 : Nat} {x1 : Nat} {x2 : Int32} {x3 : Int32} {rf : Option Value} {hf : Hp} {x : (Int32 × Hp)} (hs : fX11_giveChalk h x0 x1 x2 x3 = some x) (hk : (kX11_giveChalk rf hf) x) : Go d mX11_giveChalk 0 [some (.ref x0), some (.ref x1), some (.int x2), some (.int x3)] [] h rf hf := by
  unfold fX11_giveChalk at hs
  refine go_aload_n (k4 := 0) rfl (Or.inr ⟨_, rfl⟩) dX11_giveChalk_0 ?_
  refine go_iload_n (k4 := 2) rfl dX11_giveChalk_1 ?_
  obtain ⟨g2, hs⟩ := gO_at hs
  obtain ⟨y1, ey1, hs⟩ := bindS hs
  refine go_V1 (As := [.int x2]) (st := []) g2 rfl rfl (oX11_isPair (d := d - 1) (by omega) ey1) (by omega) mb_X11_isPair lm_RX11_138 mi_X11_isPair (Nat.le_of_ble_eq_true rfl) rfl dX11_giveChalk_2 ?_
  refine go_if_eq (tgt := 18) (by decide) dX11_giveChalk_5 (fun c => ?_) (fun c => ?_)
  · have hs := if_t c hs
    exact go_subL (L' := [none, none, none, none]) (by simp [subL, va_rf]) (oX11_giveChalk_18 hd hs hk)
  · have hs := if_f c hs
    refine go_iload_n (k4 := 3) rfl dX11_giveChalk_8 ?_
    refine go_if_lt (tgt := 18) (by decide) dX11_giveChalk_9 (fun c => ?_) (fun c => ?_)
    · have hs := if_t c hs
      exact go_subL (L' := [none, none, none, none]) (by simp [subL, va_rf]) (oX11_giveChalk_18 hd hs hk)
    · have hs := if_f c hs
      refine go_iload_n (k4 := 3) rfl dX11_giveChalk_12 ?_
      refine go_bipush (v := 9) (by decide) dX11_giveChalk_13 ?_
      refine go_icmp_le (tgt := 20) (by decide) dX11_giveChalk_15 (fun c => ?_) (fun c => ?_)
      · have hs := if_t c hs
        refine go_aload_n (k4 := 1) rfl (Or.inr ⟨_, rfl⟩) dX11_giveChalk_20 ?_
        refine go_aload_n (k4 := 1) rfl (Or.inr ⟨_, rfl⟩) dX11_giveChalk_21 ?_
        obtain ⟨v3, ev3, hs⟩ := bindS hs
        refine go_gI fl_RX11_149 ev3 dX11_giveChalk_22 ?_
        refine go_iload_n (k4 := 2) rfl dX11_giveChalk_25 ?_
        refine go_iload_n (k4 := 3) rfl dX11_giveChalk_26 ?_
        obtain ⟨y4, ey4, hs⟩ := bindS hs
        refine go_S1 (As := [.int v3, .int x2, .int x3]) (st := [.ref x1]) (oX11_withDigit (d := d - 1) (by omega) ey4) (by omega) mb_X11_withDigit lm_RX11_267 ms_X11_withDigit (Nat.le_of_ble_eq_true rfl) rfl dX11_giveChalk_27 ?_
        obtain ⟨h5, eh5, hs⟩ := bindS hs
        refine go_sV fw_RX11_149 eh5 rfl rfl dX11_giveChalk_30 ?_
        refine go_at 33 rfl ?_
        refine go_iconst (v := 0) (by decide) dX11_giveChalk_33 ?_
        obtain rfl := Option.some.inj hs
        obtain ⟨rfl, rfl⟩ := hk
        exact go_iret rfl dX11_giveChalk_34
      · have hs := if_f c hs
        exact go_subL (L' := [none, none, none, none]) (by simp [subL, va_rf]) (oX11_giveChalk_18 hd hs hk)
theorem oX11_giveChalk {d : Nat} (hd : 2 ≤ d) {h : Hp} {x0 : Nat} {x1 : Nat} {x2 : Int32} {x3 : Int32} {y : (Int32 × Hp)} (hs : fX11_giveChalk h x0 x1 x2 x3 = some y) : Call d mX11_giveChalk [.ref x0, .ref x1, .int x2, .int x3] h (some (.int y.1)) (y.2) := call_of (by decide +kernel) (Nat.le_of_ble_eq_true rfl) (show Go d mX11_giveChalk 0 [some (.ref x0), some (.ref x1), some (.int x2), some (.int x3)] [] h _ _ from go_subL (by simp [subL]) (oX11_giveChalk_0 hd hs ⟨rfl, rfl⟩))
abbrev kX11_chalk (rf : Option Value) (hf : Hp) : (Int32 × Hp) → Prop := fun y => rf = some (.int y.1) ∧ hf = y.2
noncomputable def fX11_chalk (h : Hp) (x0 : Nat) (x1 : Int32) (x2 : Int32) : Option (Int32 × Hp) :=
  (gN h 11 x0 5).bind fun v1 =>
  (gN h 11 x0 4).bind fun v2 =>
  gO h 8 v1 (
  (fX8_copy h v1 v2).bind fun y3 =>
  (gN y3 11 x0 4).bind fun v5 =>
  gO y3 11 x0 (
  (fX11_giveChalk y3 x0 v5 x1 x2).bind fun y6 =>
  if y6.1 = 0 then (
    (gN y6.2 11 x0 7).bind fun v8 =>
    (gN y6.2 11 x0 5).bind fun v9 =>
    gO y6.2 5 v8 (
    (fX5_remember y6.2 v8 v9).bind fun y10 =>
    (gN y10 11 x0 5).bind fun v12 =>
    (gI y10 8 v12 1).bind fun v13 =>
    (fX11_digit y10 v13 x1).bind fun y14 =>
    some ((y14, y10)))) else (
    some ((((-10 : Int32) - y6.1), y6.2)))))
theorem oX11_chalk_0 {d : Nat} (hd : 3 ≤ d) {h : Hp} {x0 : Nat} {x1 : Int32} {x2 : Int32} {rf : Option Value} {hf : Hp} {x : (Int32 × Hp)} (hs : fX11_chalk h x0 x1 x2 = some x) (hk : (kX11_chalk rf hf) x) : Go d mX11_chalk 0 [some (.ref x0), some (.int x1), some (.int x2), none] [] h rf hf := by
  unfold fX11_chalk at hs
  refine go_aload_n (k4 := 0) rfl (Or.inr ⟨_, rfl⟩) dX11_chalk_0 ?_
  obtain ⟨v1, ev1, hs⟩ := bindS hs
  refine go_gN fl_RX11_40 ev1 dX11_chalk_1 ?_
  refine go_aload_n (k4 := 0) rfl (Or.inr ⟨_, rfl⟩) dX11_chalk_4 ?_
  obtain ⟨v2, ev2, hs⟩ := bindS hs
  refine go_gN fl_RX11_36 ev2 dX11_chalk_5 ?_
  obtain ⟨g4, hs⟩ := gO_at hs
  obtain ⟨y3, ey3, hs⟩ := bindS hs
  refine go_V0 (As := [.ref v2]) (st := []) g4 rfl rfl (oX8_copy (d := d - 1) (by omega) ey3) (by omega) mb_X8_copy lm_RX11_188 mi_X8_copy (Nat.le_of_ble_eq_true rfl) rfl dX11_chalk_8 ?_
  refine go_aload_n (k4 := 0) rfl (Or.inr ⟨_, rfl⟩) dX11_chalk_11 ?_
  refine go_aload_n (k4 := 0) rfl (Or.inr ⟨_, rfl⟩) dX11_chalk_12 ?_
  refine go_at 13 rfl ?_
  obtain ⟨v5, ev5, hs⟩ := bindS hs
  refine go_gN fl_RX11_36 ev5 dX11_chalk_13 ?_
  refine go_iload_n (k4 := 1) rfl dX11_chalk_16 ?_
  refine go_iload_n (k4 := 2) rfl dX11_chalk_17 ?_
  obtain ⟨g7, hs⟩ := gO_at hs
  obtain ⟨y6, ey6, hs⟩ := bindS hs
  refine go_V1 (As := [.ref v5, .int x1, .int x2]) (st := []) g7 rfl rfl (oX11_giveChalk (d := d - 1) (by omega) ey6) (by omega) mb_X11_giveChalk lm_RX11_205 mi_X11_giveChalk (Nat.le_of_ble_eq_true rfl) rfl dX11_chalk_18 ?_
  refine go_istore_n (k4 := 3) (L' := [some (.ref x0), some (.int x1), some (.int x2), some (.int y6.1)]) (by decide) rfl dX11_chalk_21 ?_
  refine go_iload_n (k4 := 3) rfl dX11_chalk_22 ?_
  refine go_if_eq (tgt := 31) (by decide) dX11_chalk_23 (fun c => ?_) (fun c => ?_)
  · have hs := if_t c hs
    refine go_aload_n (k4 := 0) rfl (Or.inr ⟨_, rfl⟩) dX11_chalk_31 ?_
    obtain ⟨v8, ev8, hs⟩ := bindS hs
    refine go_gN fl_RX11_49 ev8 dX11_chalk_32 ?_
    refine go_aload_n (k4 := 0) rfl (Or.inr ⟨_, rfl⟩) dX11_chalk_35 ?_
    obtain ⟨v9, ev9, hs⟩ := bindS hs
    refine go_gN fl_RX11_40 ev9 dX11_chalk_36 ?_
    obtain ⟨g11, hs⟩ := gO_at hs
    obtain ⟨y10, ey10, hs⟩ := bindS hs
    refine go_V0 (As := [.ref v9]) (st := []) g11 rfl rfl (oX5_remember (d := d - 1) (by omega) ey10) (by omega) mb_X5_remember lm_RX11_196 mi_X5_remember (Nat.le_of_ble_eq_true rfl) rfl dX11_chalk_39 ?_
    refine go_aload_n (k4 := 0) rfl (Or.inr ⟨_, rfl⟩) dX11_chalk_42 ?_
    obtain ⟨v12, ev12, hs⟩ := bindS hs
    refine go_gN fl_RX11_40 ev12 dX11_chalk_43 ?_
    refine go_at 46 rfl ?_
    obtain ⟨v13, ev13, hs⟩ := bindS hs
    refine go_gI fl_RX11_149 ev13 dX11_chalk_46 ?_
    refine go_iload_n (k4 := 1) rfl dX11_chalk_49 ?_
    obtain ⟨y14, ey14, hs⟩ := bindS hs
    refine go_S1 (As := [.int v13, .int x1]) (st := []) (oX11_digit (d := d - 1) (by omega) ey14) (by omega) mb_X11_digit lm_RX11_145 ms_X11_digit (Nat.le_of_ble_eq_true rfl) rfl dX11_chalk_50 ?_
    obtain rfl := Option.some.inj hs
    obtain ⟨rfl, rfl⟩ := hk
    exact go_iret rfl dX11_chalk_53
  · have hs := if_f c hs
    refine go_bipush (v := -10) (by decide) dX11_chalk_26 ?_
    refine go_iload_n (k4 := 3) rfl dX11_chalk_28 ?_
    refine go_isub dX11_chalk_29 ?_
    obtain rfl := Option.some.inj hs
    obtain ⟨rfl, rfl⟩ := hk
    exact go_iret rfl dX11_chalk_30
theorem oX11_chalk {d : Nat} (hd : 3 ≤ d) {h : Hp} {x0 : Nat} {x1 : Int32} {x2 : Int32} {y : (Int32 × Hp)} (hs : fX11_chalk h x0 x1 x2 = some y) : Call d mX11_chalk [.ref x0, .int x1, .int x2] h (some (.int y.1)) (y.2) := call_of (by decide +kernel) (Nat.le_of_ble_eq_true rfl) (show Go d mX11_chalk 0 [some (.ref x0), some (.int x1), some (.int x2), none] [] h _ _ from go_subL (by simp [subL]) (oX11_chalk_0 hd hs ⟨rfl, rfl⟩))
abbrev kX5_bringBack (rf : Option Value) (hf : Hp) : Hp → Prop := fun y => rf = none ∧ hf = y
noncomputable def fX5_bringBack_46 (h : Hp)  : Option Hp :=
  some (h)
theorem oX5_bringBack_46 {d : Nat} (hd : 1 ≤ d) {h : Hp} {rf : Option Value} {hf : Hp} {x : Hp} (hs : fX5_bringBack_46 h  = some x) (hk : (kX5_bringBack rf hf) x) : Go d mX5_bringBack 46 [none, none] [] h rf hf := by
  unfold fX5_bringBack_46 at hs
  obtain rfl := Option.some.inj hs
  obtain ⟨rfl, rfl⟩ := hk
  exact go_vret rfl dX5_bringBack_46
noncomputable def fX5_bringBack (h : Hp) (x0 : Nat) (x1 : Nat) : Option Hp :=
  (gI h 5 x0 2).bind fun v1 =>
  if v1 ≤ 0 then (
  fX5_bringBack_46 h ) else (
    (gI h 5 x0 1).bind fun v2 =>
    (rm ((v2 + (10 : Int32)) - (1 : Int32)) (10 : Int32)).bind fun v3 =>
    (sV h 5 x0 1 (.int v3)).bind fun h4 =>
    (gN h4 5 x0 0).bind fun v5 =>
    (gI h4 5 x0 1).bind fun v6 =>
    (aN h4 v5 v6).bind fun v7 =>
    gO h4 8 x1 (
    (fX8_copy h4 x1 v7).bind fun y8 =>
    (gI y8 5 x0 2).bind fun v10 =>
    (sV y8 5 x0 2 (.int (v10 - (1 : Int32)))).bind fun h11 =>
    fX5_bringBack_46 h11 ))
theorem oX5_bringBack_0 {d : Nat} (hd : 1 ≤ d) {h : Hp} {x0 : Nat} {x1 : Nat} {rf : Option Value} {hf : Hp} {x : Hp} (hs : fX5_bringBack h x0 x1 = some x) (hk : (kX5_bringBack rf hf) x) : Go d mX5_bringBack 0 [some (.ref x0), some (.ref x1)] [] h rf hf := by
  unfold fX5_bringBack at hs
  refine go_aload_n (k4 := 0) rfl (Or.inr ⟨_, rfl⟩) dX5_bringBack_0 ?_
  obtain ⟨v1, ev1, hs⟩ := bindS hs
  refine go_gI fl_RX5_21 ev1 dX5_bringBack_1 ?_
  refine go_if_le (tgt := 46) (by decide) dX5_bringBack_4 (fun c => ?_) (fun c => ?_)
  · have hs := if_t c hs
    exact go_subL (L' := [none, none]) (by simp [subL, va_rf]) (oX5_bringBack_46 hd hs hk)
  · have hs := if_f c hs
    refine go_aload_n (k4 := 0) rfl (Or.inr ⟨_, rfl⟩) dX5_bringBack_7 ?_
    refine go_aload_n (k4 := 0) rfl (Or.inr ⟨_, rfl⟩) dX5_bringBack_8 ?_
    obtain ⟨v2, ev2, hs⟩ := bindS hs
    refine go_gI fl_RX5_17 ev2 dX5_bringBack_9 ?_
    refine go_bipush (v := 10) (by decide) dX5_bringBack_12 ?_
    refine go_iadd dX5_bringBack_14 ?_
    refine go_iconst (v := 1) (by decide) dX5_bringBack_15 ?_
    refine go_isub dX5_bringBack_16 ?_
    refine go_at 17 rfl ?_
    refine go_bipush (v := 10) (by decide) dX5_bringBack_17 ?_
    obtain ⟨v3, ev3, hs⟩ := bindS hs
    refine go_rm ev3 dX5_bringBack_19 ?_
    obtain ⟨h4, eh4, hs⟩ := bindS hs
    refine go_sV fw_RX5_17 eh4 rfl rfl dX5_bringBack_20 ?_
    refine go_aload_n (k4 := 1) rfl (Or.inr ⟨_, rfl⟩) dX5_bringBack_23 ?_
    refine go_aload_n (k4 := 0) rfl (Or.inr ⟨_, rfl⟩) dX5_bringBack_24 ?_
    obtain ⟨v5, ev5, hs⟩ := bindS hs
    refine go_gN fl_RX5_11 ev5 dX5_bringBack_25 ?_
    refine go_aload_n (k4 := 0) rfl (Or.inr ⟨_, rfl⟩) dX5_bringBack_28 ?_
    obtain ⟨v6, ev6, hs⟩ := bindS hs
    refine go_gI fl_RX5_17 ev6 dX5_bringBack_29 ?_
    refine go_at 32 rfl ?_
    obtain ⟨v7, ev7, hs⟩ := bindS hs
    refine go_aN ev7 dX5_bringBack_32 ?_
    obtain ⟨g9, hs⟩ := gO_at hs
    obtain ⟨y8, ey8, hs⟩ := bindS hs
    refine go_V0 (As := [.ref v7]) (st := []) g9 rfl rfl (oX8_copy (d := d - 1) (by omega) ey8) (by omega) mb_X8_copy lm_RX5_25 mi_X8_copy (Nat.le_of_ble_eq_true rfl) rfl dX5_bringBack_33 ?_
    refine go_aload_n (k4 := 0) rfl (Or.inr ⟨_, rfl⟩) dX5_bringBack_36 ?_
    refine go_dup rfl dX5_bringBack_37 ?_
    obtain ⟨v10, ev10, hs⟩ := bindS hs
    refine go_gI fl_RX5_21 ev10 dX5_bringBack_38 ?_
    refine go_iconst (v := 1) (by decide) dX5_bringBack_41 ?_
    refine go_isub dX5_bringBack_42 ?_
    obtain ⟨h11, eh11, hs⟩ := bindS hs
    refine go_sV fw_RX5_21 eh11 rfl rfl dX5_bringBack_43 ?_
    exact go_subL (L' := [none, none]) (by simp [subL, va_rf]) (oX5_bringBack_46 hd hs hk)
theorem oX5_bringBack {d : Nat} (hd : 1 ≤ d) {h : Hp} {x0 : Nat} {x1 : Nat} {y : Hp} (hs : fX5_bringBack h x0 x1 = some y) : Call d mX5_bringBack [.ref x0, .ref x1] h (none) y := call_of (by decide +kernel) (Nat.le_of_ble_eq_true rfl) (show Go d mX5_bringBack 0 [some (.ref x0), some (.ref x1)] [] h _ _ from go_subL (by simp [subL]) (oX5_bringBack_0 hd hs ⟨rfl, rfl⟩))
abbrev kX11_undo (rf : Option Value) (hf : Hp) : (Int32 × Hp) → Prop := fun y => rf = some (.int y.1) ∧ hf = y.2
noncomputable def fX11_undo_16 (h : Hp)  : Option (Int32 × Hp) :=
  some (((-3 : Int32), h))
theorem oX11_undo_16 {d : Nat} (hd : 2 ≤ d) {h : Hp} {rf : Option Value} {hf : Hp} {x : (Int32 × Hp)} (hs : fX11_undo_16 h  = some x) (hk : (kX11_undo rf hf) x) : Go d mX11_undo 16 [none, none, none] [] h rf hf := by
  unfold fX11_undo_16 at hs
  refine go_bipush (v := -3) (by decide) dX11_undo_16 ?_
  obtain rfl := Option.some.inj hs
  obtain ⟨rfl, rfl⟩ := hk
  exact go_iret rfl dX11_undo_18
abbrev pX11_undo_21 (d : Nat) (x0 : Nat) (x1 : Int32) (rf : Option Value) (hf : Hp) : (Int32 × Hp) → Prop := fun s => Go d mX11_undo 21 [some (.ref x0), some (.int x1), some (.int s.1)] [] s.2 rf hf
noncomputable def fX11_undo_21b (h : Hp) (x0 : Nat) (x1 : Int32) (x2 : Int32) : Option ((Int32 × Hp) ⊕ (Int32 × Hp)) :=
  if x1 ≤ x2 then (
    (gN h 11 x0 7).bind fun v3 =>
    (gI h 5 v3 2).bind fun v4 =>
    some (.inr (v4, h))) else (
    (gN h 11 x0 7).bind fun v5 =>
    (gN h 11 x0 4).bind fun v6 =>
    gO h 5 v5 (
    (fX5_bringBack h v5 v6).bind fun y7 =>
    some (.inl ((x2 + Int32.ofInt 1), y7))))
noncomputable def fX11_undo_21 (h : Hp) (x0 : Nat) (x1 : Int32) (x2 : Int32) : Option (Int32 × Hp) := lpw (σ := (Int32 × Hp)) (fun s => fX11_undo_21b s.2 x0 x1 s.1) (x2, h)
theorem oX11_undo_21b {d : Nat} (hd : 2 ≤ d) {h : Hp} {x0 : Nat} {x1 : Int32} {x2 : Int32} {rf : Option Value} {hf : Hp} {x : ((Int32 × Hp) ⊕ (Int32 × Hp))} (hs : fX11_undo_21b h x0 x1 x2 = some x) (hk : (Kx (pX11_undo_21 d x0 x1 rf hf) (kX11_undo rf hf)) x) : Go d mX11_undo 21 [some (.ref x0), some (.int x1), some (.int x2)] [] h rf hf := by
  unfold fX11_undo_21b at hs
  refine go_iload_n (k4 := 2) rfl dX11_undo_21 ?_
  refine go_iload_n (k4 := 1) rfl dX11_undo_22 ?_
  refine go_icmp_ge (tgt := 43) (by decide) dX11_undo_23 (fun c => ?_) (fun c => ?_)
  · have hs := if_t c hs
    refine go_aload_n (k4 := 0) rfl (Or.inr ⟨_, rfl⟩) dX11_undo_43 ?_
    obtain ⟨v3, ev3, hs⟩ := bindS hs
    refine go_gN fl_RX11_49 ev3 dX11_undo_44 ?_
    obtain ⟨v4, ev4, hs⟩ := bindS hs
    refine go_gI fl_RX11_209 ev4 dX11_undo_47 ?_
    obtain rfl := Option.some.inj hs
    obtain ⟨rfl, rfl⟩ := hk
    exact go_iret rfl dX11_undo_50
  · have hs := if_f c hs
    refine go_aload_n (k4 := 0) rfl (Or.inr ⟨_, rfl⟩) dX11_undo_26 ?_
    obtain ⟨v5, ev5, hs⟩ := bindS hs
    refine go_gN fl_RX11_49 ev5 dX11_undo_27 ?_
    refine go_aload_n (k4 := 0) rfl (Or.inr ⟨_, rfl⟩) dX11_undo_30 ?_
    obtain ⟨v6, ev6, hs⟩ := bindS hs
    refine go_gN fl_RX11_36 ev6 dX11_undo_31 ?_
    obtain ⟨g8, hs⟩ := gO_at hs
    obtain ⟨y7, ey7, hs⟩ := bindS hs
    refine go_V0 (As := [.ref v6]) (st := []) g8 rfl rfl (oX5_bringBack (d := d - 1) (by omega) ey7) (by omega) mb_X5_bringBack lm_RX11_212 mi_X5_bringBack (Nat.le_of_ble_eq_true rfl) rfl dX11_undo_34 ?_
    refine go_iinc (L' := [some (.ref x0), some (.int x1), some (.int (x2 + Int32.ofInt 1))]) rfl (by decide) rfl rfl dX11_undo_37 ?_
    refine go_goto (tgt := 21) (by decide) dX11_undo_40 ?_
    obtain rfl := Option.some.inj hs
    exact go_subL (L' := [some (.ref x0), some (.int x1), some (.int (x2 + Int32.ofInt 1))]) (by simp [subL, va_rf]) hk
theorem oX11_undo_21 {d : Nat} (hd : 2 ≤ d) {h : Hp} {x0 : Nat} {x1 : Int32} {x2 : Int32} {rf : Option Value} {hf : Hp} {x : (Int32 × Hp)} (hs : fX11_undo_21 h x0 x1 x2 = some x) (hk : (kX11_undo rf hf) x) : Go d mX11_undo 21 [some (.ref x0), some (.int x1), some (.int x2)] [] h rf hf := by
  unfold fX11_undo_21 at hs
  exact lpw_go (P := pX11_undo_21 d x0 x1 rf hf) (fun s x hs hk => oX11_undo_21b hd hs hk) (x2, h) x hs hk
noncomputable def fX11_undo (h : Hp) (x0 : Nat) (x1 : Int32) : Option (Int32 × Hp) :=
  if x1 < (1 : Int32) then (
  fX11_undo_16 h ) else (
    (gN h 11 x0 7).bind fun v1 =>
    (gI h 5 v1 2).bind fun v2 =>
    if x1 ≤ v2 then (
      fX11_undo_21 h x0 x1 (0 : Int32)) else (
    fX11_undo_16 h ))
theorem oX11_undo_0 {d : Nat} (hd : 2 ≤ d) {h : Hp} {x0 : Nat} {x1 : Int32} {rf : Option Value} {hf : Hp} {x : (Int32 × Hp)} (hs : fX11_undo h x0 x1 = some x) (hk : (kX11_undo rf hf) x) : Go d mX11_undo 0 [some (.ref x0), some (.int x1), none] [] h rf hf := by
  unfold fX11_undo at hs
  refine go_iload_n (k4 := 1) rfl dX11_undo_0 ?_
  refine go_iconst (v := 1) (by decide) dX11_undo_1 ?_
  refine go_icmp_lt (tgt := 16) (by decide) dX11_undo_2 (fun c => ?_) (fun c => ?_)
  · have hs := if_t c hs
    exact go_subL (L' := [none, none, none]) (by simp [subL, va_rf]) (oX11_undo_16 hd hs hk)
  · have hs := if_f c hs
    refine go_iload_n (k4 := 1) rfl dX11_undo_5 ?_
    refine go_aload_n (k4 := 0) rfl (Or.inr ⟨_, rfl⟩) dX11_undo_6 ?_
    obtain ⟨v1, ev1, hs⟩ := bindS hs
    refine go_gN fl_RX11_49 ev1 dX11_undo_7 ?_
    obtain ⟨v2, ev2, hs⟩ := bindS hs
    refine go_gI fl_RX11_209 ev2 dX11_undo_10 ?_
    refine go_icmp_le (tgt := 19) (by decide) dX11_undo_13 (fun c => ?_) (fun c => ?_)
    · have hs := if_t c hs
      refine go_iconst (v := 0) (by decide) dX11_undo_19 ?_
      refine go_istore_n (k4 := 2) (L' := [some (.ref x0), some (.int x1), some (.int (0 : Int32))]) (by decide) rfl dX11_undo_20 ?_
      exact go_subL (L' := [some (.ref x0), some (.int x1), some (.int (0 : Int32))]) (by simp [subL, va_rf]) (oX11_undo_21 hd hs hk)
    · have hs := if_f c hs
      exact go_subL (L' := [none, none, none]) (by simp [subL, va_rf]) (oX11_undo_16 hd hs hk)
theorem oX11_undo {d : Nat} (hd : 2 ≤ d) {h : Hp} {x0 : Nat} {x1 : Int32} {y : (Int32 × Hp)} (hs : fX11_undo h x0 x1 = some y) : Call d mX11_undo [.ref x0, .int x1] h (some (.int y.1)) (y.2) := call_of (by decide +kernel) (Nat.le_of_ble_eq_true rfl) (show Go d mX11_undo 0 [some (.ref x0), some (.int x1), none] [] h _ _ from go_subL (by simp [subL]) (oX11_undo_0 hd hs ⟨rfl, rfl⟩))
abbrev kX11_isTray (h : Hp) (rf : Option Value) (hf : Hp) : Int32 → Prop := fun y => rf = some (.int y) ∧ hf = h
noncomputable def fX11_isTray_14 (h : Hp) (s0 : Int32) : Option Int32 :=
  bl s0 (some (s0))
theorem oX11_isTray_14 {d : Nat} (hd : 0 ≤ d) {h : Hp} {s0 : Int32} {rf : Option Value} {hf : Hp} {x : Int32} (hs : fX11_isTray_14 h s0 = some x) (hk : (kX11_isTray h rf hf) x) : Go d mX11_isTray 14 [none] [.int s0] h rf hf := by
  unfold fX11_isTray_14 at hs
  obtain ⟨n1, n2, hs⟩ := bl_at hs
  obtain rfl := Option.some.inj hs
  obtain ⟨rfl, rfl⟩ := hk
  exact go_zret (ty := .boolean) rfl n1 dX11_isTray_14
noncomputable def fX11_isTray_13 (h : Hp)  : Option Int32 :=
  fX11_isTray_14 h (0 : Int32)
theorem oX11_isTray_13 {d : Nat} (hd : 0 ≤ d) {h : Hp} {rf : Option Value} {hf : Hp} {x : Int32} (hs : fX11_isTray_13 h  = some x) (hk : (kX11_isTray h rf hf) x) : Go d mX11_isTray 13 [none] [] h rf hf := by
  unfold fX11_isTray_13 at hs
  refine go_iconst (v := 0) (by decide) dX11_isTray_13 ?_
  exact go_subL (L' := [none]) (by simp [subL, va_rf]) (oX11_isTray_14 hd hs hk)
noncomputable def fX11_isTray (h : Hp) (x0 : Int32) : Option Int32 :=
  if x0 < 0 then (
  fX11_isTray_13 h ) else (
    if (4 : Int32) ≤ x0 then (
    fX11_isTray_13 h ) else (
      fX11_isTray_14 h (1 : Int32)))
theorem oX11_isTray_0 {d : Nat} (hd : 0 ≤ d) {h : Hp} {x0 : Int32} {rf : Option Value} {hf : Hp} {x : Int32} (hs : fX11_isTray h x0 = some x) (hk : (kX11_isTray h rf hf) x) : Go d mX11_isTray 0 [some (.int x0)] [] h rf hf := by
  unfold fX11_isTray at hs
  refine go_iload_n (k4 := 0) rfl dX11_isTray_0 ?_
  refine go_if_lt (tgt := 13) (by decide) dX11_isTray_1 (fun c => ?_) (fun c => ?_)
  · have hs := if_t c hs
    exact go_subL (L' := [none]) (by simp [subL, va_rf]) (oX11_isTray_13 hd hs hk)
  · have hs := if_f c hs
    refine go_iload_n (k4 := 0) rfl dX11_isTray_4 ?_
    refine go_iconst (v := 4) (by decide) dX11_isTray_5 ?_
    refine go_icmp_ge (tgt := 13) (by decide) dX11_isTray_6 (fun c => ?_) (fun c => ?_)
    · have hs := if_t c hs
      exact go_subL (L' := [none]) (by simp [subL, va_rf]) (oX11_isTray_13 hd hs hk)
    · have hs := if_f c hs
      refine go_iconst (v := 1) (by decide) dX11_isTray_9 ?_
      refine go_goto (tgt := 14) (by decide) dX11_isTray_10 ?_
      exact go_subL (L' := [none]) (by simp [subL, va_rf]) (oX11_isTray_14 hd hs hk)
theorem oX11_isTray {d : Nat} (hd : 0 ≤ d) {h : Hp} {x0 : Int32} {y : Int32} (hs : fX11_isTray h x0 = some y) : Call d mX11_isTray [.int x0] h (some (.int y)) h := call_of (by decide +kernel) (Nat.le_of_ble_eq_true rfl) (show Go d mX11_isTray 0 [some (.int x0)] [] h _ _ from go_subL (by simp [subL]) (oX11_isTray_0 hd hs ⟨rfl, rfl⟩))
abbrev kX9_at (h : Hp) (rf : Option Value) (hf : Hp) : Int64 → Prop := fun y => rf = some (.long y) ∧ hf = h
noncomputable def fX9_at_22 (h : Hp) (s0 : Int64) : Option Int64 :=
  some (s0)
theorem oX9_at_22 {d : Nat} (hd : 0 ≤ d) {h : Hp} {s0 : Int64} {rf : Option Value} {hf : Hp} {x : Int64} (hs : fX9_at_22 h s0 = some x) (hk : (kX9_at h rf hf) x) : Go d mX9_at 22 [none, none] [.long s0] h rf hf := by
  unfold fX9_at_22 at hs
  obtain rfl := Option.some.inj hs
  obtain ⟨rfl, rfl⟩ := hk
  exact go_lret rfl dX9_at_22
noncomputable def fX9_at_21 (h : Hp)  : Option Int64 :=
  fX9_at_22 h (0 : Int64)
theorem oX9_at_21 {d : Nat} (hd : 0 ≤ d) {h : Hp} {rf : Option Value} {hf : Hp} {x : Int64} (hs : fX9_at_21 h  = some x) (hk : (kX9_at h rf hf) x) : Go d mX9_at 21 [none, none] [] h rf hf := by
  unfold fX9_at_21 at hs
  refine go_lconst (v := 0) (by decide) dX9_at_21 ?_
  exact go_subL (L' := [none, none]) (by simp [subL, va_rf]) (oX9_at_22 hd hs hk)
noncomputable def fX9_at (h : Hp) (x0 : Nat) (x1 : Int32) : Option Int64 :=
  if x1 < 0 then (
  fX9_at_21 h ) else (
    (gI h 9 x0 3).bind fun v1 =>
    if v1 ≤ x1 then (
    fX9_at_21 h ) else (
      (gN h 9 x0 0).bind fun v2 =>
      (aJ h v2 x1).bind fun v3 =>
      fX9_at_22 h v3))
theorem oX9_at_0 {d : Nat} (hd : 0 ≤ d) {h : Hp} {x0 : Nat} {x1 : Int32} {rf : Option Value} {hf : Hp} {x : Int64} (hs : fX9_at h x0 x1 = some x) (hk : (kX9_at h rf hf) x) : Go d mX9_at 0 [some (.ref x0), some (.int x1)] [] h rf hf := by
  unfold fX9_at at hs
  refine go_iload_n (k4 := 1) rfl dX9_at_0 ?_
  refine go_if_lt (tgt := 21) (by decide) dX9_at_1 (fun c => ?_) (fun c => ?_)
  · have hs := if_t c hs
    exact go_subL (L' := [none, none]) (by simp [subL, va_rf]) (oX9_at_21 hd hs hk)
  · have hs := if_f c hs
    refine go_iload_n (k4 := 1) rfl dX9_at_4 ?_
    refine go_aload_n (k4 := 0) rfl (Or.inr ⟨_, rfl⟩) dX9_at_5 ?_
    obtain ⟨v1, ev1, hs⟩ := bindS hs
    refine go_gI fl_RX9_23 ev1 dX9_at_6 ?_
    refine go_icmp_ge (tgt := 21) (by decide) dX9_at_9 (fun c => ?_) (fun c => ?_)
    · have hs := if_t c hs
      exact go_subL (L' := [none, none]) (by simp [subL, va_rf]) (oX9_at_21 hd hs hk)
    · have hs := if_f c hs
      refine go_aload_n (k4 := 0) rfl (Or.inr ⟨_, rfl⟩) dX9_at_12 ?_
      obtain ⟨v2, ev2, hs⟩ := bindS hs
      refine go_gN fl_RX9_9 ev2 dX9_at_13 ?_
      refine go_iload_n (k4 := 1) rfl dX9_at_16 ?_
      obtain ⟨v3, ev3, hs⟩ := bindS hs
      refine go_aJ ev3 dX9_at_17 ?_
      refine go_goto (tgt := 22) (by decide) dX9_at_18 ?_
      exact go_subL (L' := [none, none]) (by simp [subL, va_rf]) (oX9_at_22 hd hs hk)
theorem oX9_at {d : Nat} (hd : 0 ≤ d) {h : Hp} {x0 : Nat} {x1 : Int32} {y : Int64} (hs : fX9_at h x0 x1 = some y) : Call d mX9_at [.ref x0, .int x1] h (some (.long y)) h := call_of (by decide +kernel) (Nat.le_of_ble_eq_true rfl) (show Go d mX9_at 0 [some (.ref x0), some (.int x1)] [] h _ _ from go_subL (by simp [subL]) (oX9_at_0 hd hs ⟨rfl, rfl⟩))
abbrev kX11_act (rf : Option Value) (hf : Hp) : (Int32 × Hp) → Prop := fun y => rf = some (.int y.1) ∧ hf = y.2
noncomputable def fX11_act_12 (h : Hp) (x0 : Nat) (x1 : Nat) (x2 : Int64) : Option (Int32 × Hp) :=
  gO h 11 x0 (
  (fX11_passYear h x0 x1 (x2.toInt32)).bind fun y1 =>
  some ((y1.1, y1.2)))
theorem oX11_act_12 {d : Nat} (hd : 5 ≤ d) {h : Hp} {x0 : Nat} {x1 : Nat} {x2 : Int64} {rf : Option Value} {hf : Hp} {x : (Int32 × Hp)} (hs : fX11_act_12 h x0 x1 x2 = some x) (hk : (kX11_act rf hf) x) : Go d mX11_act 12 [some (.ref x0), some (.ref x1), some (.long x2), none, none] [] h rf hf := by
  unfold fX11_act_12 at hs
  refine go_aload_n (k4 := 0) rfl (Or.inr ⟨_, rfl⟩) dX11_act_12 ?_
  refine go_aload_n (k4 := 1) rfl (Or.inr ⟨_, rfl⟩) dX11_act_13 ?_
  refine go_lload_n (k4 := 2) rfl dX11_act_14 ?_
  refine go_l2i dX11_act_15 ?_
  obtain ⟨g2, hs⟩ := gO_at hs
  obtain ⟨y1, ey1, hs⟩ := bindS hs
  refine go_V1 (As := [.ref x1, .int (x2.toInt32)]) (st := []) g2 rfl rfl (oX11_passYear (d := d - 1) (by omega) ey1) (by omega) mb_X11_passYear lm_RX11_192 mi_X11_passYear (Nat.le_of_ble_eq_true rfl) rfl dX11_act_16 ?_
  obtain rfl := Option.some.inj hs
  obtain ⟨rfl, rfl⟩ := hk
  exact go_iret rfl dX11_act_19
noncomputable def fX11_act_114 (h : Hp)  : Option (Int32 × Hp) :=
  some (((1 : Int32), h))
theorem oX11_act_114 {d : Nat} (hd : 5 ≤ d) {h : Hp} {rf : Option Value} {hf : Hp} {x : (Int32 × Hp)} (hs : fX11_act_114 h  = some x) (hk : (kX11_act rf hf) x) : Go d mX11_act 114 [none, none, none, none, none] [] h rf hf := by
  unfold fX11_act_114 at hs
  refine go_iconst (v := 1) (by decide) dX11_act_114 ?_
  obtain rfl := Option.some.inj hs
  obtain ⟨rfl, rfl⟩ := hk
  exact go_iret rfl dX11_act_115
noncomputable def fX11_act_86 (h : Hp) (x0 : Nat) (x1 : Nat) (x2 : Int64) : Option (Int32 × Hp) :=
  if (lg_cmp x2 (1000 : Int64)) < 0 then (
  fX11_act_114 h ) else (
    if 0 < (lg_cmp x2 (1999 : Int64)) then (
    fX11_act_114 h ) else (
      gO h 11 x0 (
      (fX11_leadOtherwise h x0 x1 ((x2.toInt32) - (1000 : Int32))).bind fun y3 =>
      some ((y3.1, y3.2)))))
theorem oX11_act_86 {d : Nat} (hd : 5 ≤ d) {h : Hp} {x0 : Nat} {x1 : Nat} {x2 : Int64} {rf : Option Value} {hf : Hp} {x : (Int32 × Hp)} (hs : fX11_act_86 h x0 x1 x2 = some x) (hk : (kX11_act rf hf) x) : Go d mX11_act 86 [some (.ref x0), some (.ref x1), some (.long x2), none, none] [] h rf hf := by
  unfold fX11_act_86 at hs
  refine go_lload_n (k4 := 2) rfl dX11_act_86 ?_
  refine go_ldc2 lc_RX11_253 dX11_act_87 ?_
  refine go_lcmp dX11_act_90 ?_
  refine go_if_lt (tgt := 114) (by decide) dX11_act_91 (fun c => ?_) (fun c => ?_)
  · have hs := if_t c hs
    exact go_subL (L' := [none, none, none, none, none]) (by simp [subL, va_rf]) (oX11_act_114 hd hs hk)
  · have hs := if_f c hs
    refine go_lload_n (k4 := 2) rfl dX11_act_94 ?_
    refine go_ldc2 lc_RX11_255 dX11_act_95 ?_
    refine go_lcmp dX11_act_98 ?_
    refine go_if_gt (tgt := 114) (by decide) dX11_act_99 (fun c => ?_) (fun c => ?_)
    · have hs := if_t c hs
      exact go_subL (L' := [none, none, none, none, none]) (by simp [subL, va_rf]) (oX11_act_114 hd hs hk)
    · have hs := if_f c hs
      refine go_aload_n (k4 := 0) rfl (Or.inr ⟨_, rfl⟩) dX11_act_102 ?_
      refine go_aload_n (k4 := 1) rfl (Or.inr ⟨_, rfl⟩) dX11_act_103 ?_
      refine go_lload_n (k4 := 2) rfl dX11_act_104 ?_
      refine go_l2i dX11_act_105 ?_
      refine go_sipush (v := 1000) (by decide) dX11_act_106 ?_
      refine go_isub dX11_act_109 ?_
      obtain ⟨g4, hs⟩ := gO_at hs
      obtain ⟨y3, ey3, hs⟩ := bindS hs
      refine go_V1 (As := [.ref x1, .int ((x2.toInt32) - (1000 : Int32))]) (st := []) g4 rfl rfl (oX11_leadOtherwise (d := d - 1) (by omega) ey3) (by omega) mb_X11_leadOtherwise lm_RX11_199 mi_X11_leadOtherwise (Nat.le_of_ble_eq_true rfl) rfl dX11_act_110 ?_
      refine go_at 113 rfl ?_
      obtain rfl := Option.some.inj hs
      obtain ⟨rfl, rfl⟩ := hk
      exact go_iret rfl dX11_act_113
noncomputable def fX11_act_47 (h : Hp) (x0 : Nat) (x1 : Nat) (x2 : Int64) : Option (Int32 × Hp) :=
  if (lg_cmp x2 (100 : Int64)) < 0 then (
  fX11_act_86 h x0 x1 x2) else (
    if 0 < (lg_cmp x2 (199 : Int64)) then (
    fX11_act_86 h x0 x1 x2) else (
      (dv ((x2.toInt32) - (100 : Int32)) (10 : Int32)).bind fun v5 =>
      (rm ((x2.toInt32) - (100 : Int32)) (10 : Int32)).bind fun v6 =>
      gO h 11 x0 (
      (fX11_giveChalk h x0 x1 v5 v6).bind fun y7 =>
      some ((y7.1, y7.2)))))
theorem oX11_act_47 {d : Nat} (hd : 5 ≤ d) {h : Hp} {x0 : Nat} {x1 : Nat} {x2 : Int64} {rf : Option Value} {hf : Hp} {x : (Int32 × Hp)} (hs : fX11_act_47 h x0 x1 x2 = some x) (hk : (kX11_act rf hf) x) : Go d mX11_act 47 [some (.ref x0), some (.ref x1), some (.long x2), none, none] [] h rf hf := by
  unfold fX11_act_47 at hs
  refine go_lload_n (k4 := 2) rfl dX11_act_47 ?_
  refine go_ldc2 lc_RX11_249 dX11_act_48 ?_
  refine go_lcmp dX11_act_51 ?_
  refine go_if_lt (tgt := 86) (by decide) dX11_act_52 (fun c => ?_) (fun c => ?_)
  · have hs := if_t c hs
    exact go_subL (L' := [some (.ref x0), some (.ref x1), some (.long x2), none, none]) (by simp [subL, va_rf]) (oX11_act_86 hd hs hk)
  · have hs := if_f c hs
    refine go_lload_n (k4 := 2) rfl dX11_act_55 ?_
    refine go_ldc2 lc_RX11_251 dX11_act_56 ?_
    refine go_lcmp dX11_act_59 ?_
    refine go_if_gt (tgt := 86) (by decide) dX11_act_60 (fun c => ?_) (fun c => ?_)
    · have hs := if_t c hs
      exact go_subL (L' := [some (.ref x0), some (.ref x1), some (.long x2), none, none]) (by simp [subL, va_rf]) (oX11_act_86 hd hs hk)
    · have hs := if_f c hs
      refine go_lload_n (k4 := 2) rfl dX11_act_63 ?_
      refine go_l2i dX11_act_64 ?_
      refine go_bipush (v := 100) (by decide) dX11_act_65 ?_
      refine go_isub dX11_act_67 ?_
      refine go_istore (L' := [some (.ref x0), some (.ref x1), some (.long x2), none, some (.int ((x2.toInt32) - (100 : Int32)))]) (by decide) rfl dX11_act_68 ?_
      refine go_aload_n (k4 := 0) rfl (Or.inr ⟨_, rfl⟩) dX11_act_70 ?_
      refine go_aload_n (k4 := 1) rfl (Or.inr ⟨_, rfl⟩) dX11_act_71 ?_
      refine go_at 72 rfl ?_
      refine go_iload rfl dX11_act_72 ?_
      refine go_bipush (v := 10) (by decide) dX11_act_74 ?_
      obtain ⟨v5, ev5, hs⟩ := bindS hs
      refine go_dv ev5 dX11_act_76 ?_
      refine go_iload rfl dX11_act_77 ?_
      refine go_bipush (v := 10) (by decide) dX11_act_79 ?_
      obtain ⟨v6, ev6, hs⟩ := bindS hs
      refine go_rm ev6 dX11_act_81 ?_
      obtain ⟨g8, hs⟩ := gO_at hs
      obtain ⟨y7, ey7, hs⟩ := bindS hs
      refine go_V1 (As := [.ref x1, .int v5, .int v6]) (st := []) g8 rfl rfl (oX11_giveChalk (d := d - 1) (by omega) ey7) (by omega) mb_X11_giveChalk lm_RX11_205 mi_X11_giveChalk (Nat.le_of_ble_eq_true rfl) rfl dX11_act_82 ?_
      obtain rfl := Option.some.inj hs
      obtain ⟨rfl, rfl⟩ := hk
      exact go_iret rfl dX11_act_85
noncomputable def fX11_act (h : Hp) (x0 : Nat) (x1 : Nat) (x2 : Int64) : Option (Int32 × Hp) :=
  if (lg_cmp x2 (0 : Int64)) = 0 then (
  fX11_act_12 h x0 x1 x2) else (
    if (lg_cmp x2 (1 : Int64)) = 0 then (
    fX11_act_12 h x0 x1 x2) else (
      if (lg_cmp x2 (10 : Int64)) < 0 then (
      fX11_act_47 h x0 x1 x2) else (
        if 0 < (lg_cmp x2 (19 : Int64)) then (
        fX11_act_47 h x0 x1 x2) else (
          gO h 11 x0 (
          (fX11_sawOff h x0 x1 ((x2.toInt32) - (10 : Int32))).bind fun y9 =>
          some ((y9.1, y9.2)))))))
theorem oX11_act_0 {d : Nat} (hd : 5 ≤ d) {h : Hp} {x0 : Nat} {x1 : Nat} {x2 : Int64} {rf : Option Value} {hf : Hp} {x : (Int32 × Hp)} (hs : fX11_act h x0 x1 x2 = some x) (hk : (kX11_act rf hf) x) : Go d mX11_act 0 [some (.ref x0), some (.ref x1), some (.long x2), none, none] [] h rf hf := by
  unfold fX11_act at hs
  refine go_lload_n (k4 := 2) rfl dX11_act_0 ?_
  refine go_lconst (v := 0) (by decide) dX11_act_1 ?_
  refine go_lcmp dX11_act_2 ?_
  refine go_if_eq (tgt := 12) (by decide) dX11_act_3 (fun c => ?_) (fun c => ?_)
  · have hs := if_t c hs
    exact go_subL (L' := [some (.ref x0), some (.ref x1), some (.long x2), none, none]) (by simp [subL, va_rf]) (oX11_act_12 hd hs hk)
  · have hs := if_f c hs
    refine go_lload_n (k4 := 2) rfl dX11_act_6 ?_
    refine go_lconst (v := 1) (by decide) dX11_act_7 ?_
    refine go_lcmp dX11_act_8 ?_
    refine go_if_ne (tgt := 20) (by decide) dX11_act_9 (fun c => ?_) (fun c => ?_)
    · have hs := if_f c hs
      refine go_lload_n (k4 := 2) rfl dX11_act_20 ?_
      refine go_ldc2 lc_RX11_245 dX11_act_21 ?_
      refine go_lcmp dX11_act_24 ?_
      refine go_if_lt (tgt := 47) (by decide) dX11_act_25 (fun c => ?_) (fun c => ?_)
      · have hs := if_t c hs
        exact go_subL (L' := [some (.ref x0), some (.ref x1), some (.long x2), none, none]) (by simp [subL, va_rf]) (oX11_act_47 hd hs hk)
      · have hs := if_f c hs
        refine go_lload_n (k4 := 2) rfl dX11_act_28 ?_
        refine go_ldc2 lc_RX11_247 dX11_act_29 ?_
        refine go_lcmp dX11_act_32 ?_
        refine go_if_gt (tgt := 47) (by decide) dX11_act_33 (fun c => ?_) (fun c => ?_)
        · have hs := if_t c hs
          exact go_subL (L' := [some (.ref x0), some (.ref x1), some (.long x2), none, none]) (by simp [subL, va_rf]) (oX11_act_47 hd hs hk)
        · have hs := if_f c hs
          refine go_aload_n (k4 := 0) rfl (Or.inr ⟨_, rfl⟩) dX11_act_36 ?_
          refine go_aload_n (k4 := 1) rfl (Or.inr ⟨_, rfl⟩) dX11_act_37 ?_
          refine go_lload_n (k4 := 2) rfl dX11_act_38 ?_
          refine go_l2i dX11_act_39 ?_
          refine go_bipush (v := 10) (by decide) dX11_act_40 ?_
          refine go_isub dX11_act_42 ?_
          obtain ⟨g10, hs⟩ := gO_at hs
          obtain ⟨y9, ey9, hs⟩ := bindS hs
          refine go_V1 (As := [.ref x1, .int ((x2.toInt32) - (10 : Int32))]) (st := []) g10 rfl rfl (oX11_sawOff (d := d - 1) (by omega) ey9) (by omega) mb_X11_sawOff lm_RX11_202 mi_X11_sawOff (Nat.le_of_ble_eq_true rfl) rfl dX11_act_43 ?_
          refine go_at 46 rfl ?_
          obtain rfl := Option.some.inj hs
          obtain ⟨rfl, rfl⟩ := hk
          exact go_iret rfl dX11_act_46
    · have hs := if_t c hs
      exact go_subL (L' := [some (.ref x0), some (.ref x1), some (.long x2), none, none]) (by simp [subL, va_rf]) (oX11_act_12 hd hs hk)
theorem oX11_act {d : Nat} (hd : 5 ≤ d) {h : Hp} {x0 : Nat} {x1 : Nat} {x2 : Int64} {y : (Int32 × Hp)} (hs : fX11_act h x0 x1 x2 = some y) : Call d mX11_act [.ref x0, .ref x1, .long x2] h (some (.int y.1)) (y.2) := call_of (by decide +kernel) (Nat.le_of_ble_eq_true rfl) (show Go d mX11_act 0 [some (.ref x0), some (.ref x1), some (.long x2), none, none] [] h _ _ from go_subL (by simp [subL]) (oX11_act_0 hd hs ⟨rfl, rfl⟩))
abbrev kX0_metBits (h : Hp) (rf : Option Value) (hf : Hp) : Int32 → Prop := fun y => rf = some (.int y) ∧ hf = h
abbrev pX0_metBits_4 (d : Nat) (h : Hp) (x0 : Nat) (x1 : Int32) (rf : Option Value) (hf : Hp) : (Int32 × Int32) → Prop := fun s => Go d mX0_metBits 4 [some (.ref x0), some (.int x1), some (.int s.1), some (.int s.2)] [] h rf hf
noncomputable def fX0_metBits_26 (h : Hp) (x0 : Nat) (x1 : Int32) (x2 : Int32) (x3 : Int32) : Option ((Int32 × Int32) ⊕ Int32) :=
  some (.inl (x2, (x3 + Int32.ofInt 1)))
theorem oX0_metBits_26 {d : Nat} (hd : 1 ≤ d) {h : Hp} {x0 : Nat} {x1 : Int32} {x2 : Int32} {x3 : Int32} {rf : Option Value} {hf : Hp} {x : ((Int32 × Int32) ⊕ Int32)} (hs : fX0_metBits_26 h x0 x1 x2 x3 = some x) (hk : (Kx (pX0_metBits_4 d h x0 x1 rf hf) (kX0_metBits h rf hf)) x) : Go d mX0_metBits 26 [some (.ref x0), some (.int x1), some (.int x2), some (.int x3)] [] h rf hf := by
  unfold fX0_metBits_26 at hs
  refine go_iinc (L' := [some (.ref x0), some (.int x1), some (.int x2), some (.int (x3 + Int32.ofInt 1))]) rfl (by decide) rfl rfl dX0_metBits_26 ?_
  refine go_goto (tgt := 4) (by decide) dX0_metBits_29 ?_
  obtain rfl := Option.some.inj hs
  exact go_subL (L' := [some (.ref x0), some (.int x1), some (.int x2), some (.int (x3 + Int32.ofInt 1))]) (by simp [subL, va_rf]) hk
noncomputable def fX0_metBits_4b (h : Hp) (x0 : Nat) (x1 : Int32) (x2 : Int32) (x3 : Int32) : Option ((Int32 × Int32) ⊕ Int32) :=
  (gI h 0 x0 0).bind fun v1 =>
  if v1 ≤ x3 then (
    some (.inr x2)) else (
    (fX11_digit h x1 x3).bind fun y2 =>
    if y2 = 0 then (
      fX0_metBits_26 h x0 x1 (x2 ||| ((1 : Int32) <<< (x3 &&& 31))) x3) else (
    fX0_metBits_26 h x0 x1 x2 x3))
noncomputable def fX0_metBits_4 (h : Hp) (x0 : Nat) (x1 : Int32) (x2 : Int32) (x3 : Int32) : Option Int32 := lpw (σ := (Int32 × Int32)) (fun s => fX0_metBits_4b h x0 x1 s.1 s.2) (x2, x3)
theorem oX0_metBits_4b {d : Nat} (hd : 1 ≤ d) {h : Hp} {x0 : Nat} {x1 : Int32} {x2 : Int32} {x3 : Int32} {rf : Option Value} {hf : Hp} {x : ((Int32 × Int32) ⊕ Int32)} (hs : fX0_metBits_4b h x0 x1 x2 x3 = some x) (hk : (Kx (pX0_metBits_4 d h x0 x1 rf hf) (kX0_metBits h rf hf)) x) : Go d mX0_metBits 4 [some (.ref x0), some (.int x1), some (.int x2), some (.int x3)] [] h rf hf := by
  unfold fX0_metBits_4b at hs
  refine go_iload_n (k4 := 3) rfl dX0_metBits_4 ?_
  refine go_aload_n (k4 := 0) rfl (Or.inr ⟨_, rfl⟩) dX0_metBits_5 ?_
  obtain ⟨v1, ev1, hs⟩ := bindS hs
  refine go_gI fl_RX0_21 ev1 dX0_metBits_6 ?_
  refine go_icmp_ge (tgt := 32) (by decide) dX0_metBits_9 (fun c => ?_) (fun c => ?_)
  · have hs := if_t c hs
    refine go_iload_n (k4 := 2) rfl dX0_metBits_32 ?_
    obtain rfl := Option.some.inj hs
    obtain ⟨rfl, rfl⟩ := hk
    exact go_iret rfl dX0_metBits_33
  · have hs := if_f c hs
    refine go_iload_n (k4 := 1) rfl dX0_metBits_12 ?_
    refine go_iload_n (k4 := 3) rfl dX0_metBits_13 ?_
    obtain ⟨y2, ey2, hs⟩ := bindS hs
    refine go_SN1 (As := [.int x1, .int x3]) (st := []) (oX11_digit (d := d - 1) (by omega) ey2) (by omega) mb_X11_digit lm_RX0_87 ms_X11_digit (Nat.le_of_ble_eq_true rfl) rfl dX0_metBits_14 ?_
    refine go_if_ne (tgt := 26) (by decide) dX0_metBits_17 (fun c => ?_) (fun c => ?_)
    · have hs := if_f c hs
      exact go_subL (L' := [some (.ref x0), some (.int x1), some (.int x2), some (.int x3)]) (by simp [subL, va_rf]) (oX0_metBits_26 hd hs hk)
    · have hs := if_t c hs
      refine go_iload_n (k4 := 2) rfl dX0_metBits_20 ?_
      refine go_iconst (v := 1) (by decide) dX0_metBits_21 ?_
      refine go_iload_n (k4 := 3) rfl dX0_metBits_22 ?_
      refine go_ishl dX0_metBits_23 ?_
      refine go_ior dX0_metBits_24 ?_
      refine go_istore_n (k4 := 2) (L' := [some (.ref x0), some (.int x1), some (.int (x2 ||| ((1 : Int32) <<< (x3 &&& 31)))), some (.int x3)]) (by decide) rfl dX0_metBits_25 ?_
      exact go_subL (L' := [some (.ref x0), some (.int x1), some (.int (x2 ||| ((1 : Int32) <<< (x3 &&& 31)))), some (.int x3)]) (by simp [subL, va_rf]) (oX0_metBits_26 hd hs hk)
theorem oX0_metBits_4 {d : Nat} (hd : 1 ≤ d) {h : Hp} {x0 : Nat} {x1 : Int32} {x2 : Int32} {x3 : Int32} {rf : Option Value} {hf : Hp} {x : Int32} (hs : fX0_metBits_4 h x0 x1 x2 x3 = some x) (hk : (kX0_metBits h rf hf) x) : Go d mX0_metBits 4 [some (.ref x0), some (.int x1), some (.int x2), some (.int x3)] [] h rf hf := by
  unfold fX0_metBits_4 at hs
  exact lpw_go (P := pX0_metBits_4 d h x0 x1 rf hf) (fun s x hs hk => oX0_metBits_4b hd hs hk) (x2, x3) x hs hk
noncomputable def fX0_metBits (h : Hp) (x0 : Nat) (x1 : Int32) : Option Int32 :=
  fX0_metBits_4 h x0 x1 (0 : Int32) (0 : Int32)
theorem oX0_metBits_0 {d : Nat} (hd : 1 ≤ d) {h : Hp} {x0 : Nat} {x1 : Int32} {rf : Option Value} {hf : Hp} {x : Int32} (hs : fX0_metBits h x0 x1 = some x) (hk : (kX0_metBits h rf hf) x) : Go d mX0_metBits 0 [some (.ref x0), some (.int x1), none, none] [] h rf hf := by
  unfold fX0_metBits at hs
  refine go_iconst (v := 0) (by decide) dX0_metBits_0 ?_
  refine go_istore_n (k4 := 2) (L' := [some (.ref x0), some (.int x1), some (.int (0 : Int32)), none]) (by decide) rfl dX0_metBits_1 ?_
  refine go_iconst (v := 0) (by decide) dX0_metBits_2 ?_
  refine go_istore_n (k4 := 3) (L' := [some (.ref x0), some (.int x1), some (.int (0 : Int32)), some (.int (0 : Int32))]) (by decide) rfl dX0_metBits_3 ?_
  exact go_subL (L' := [some (.ref x0), some (.int x1), some (.int (0 : Int32)), some (.int (0 : Int32))]) (by simp [subL, va_rf]) (oX0_metBits_4 hd hs hk)
theorem oX0_metBits {d : Nat} (hd : 1 ≤ d) {h : Hp} {x0 : Nat} {x1 : Int32} {y : Int32} (hs : fX0_metBits h x0 x1 = some y) : Call d mX0_metBits [.ref x0, .int x1] h (some (.int y)) h := call_of (by decide +kernel) (Nat.le_of_ble_eq_true rfl) (show Go d mX0_metBits 0 [some (.ref x0), some (.int x1), none, none] [] h _ _ from go_subL (by simp [subL]) (oX0_metBits_0 hd hs ⟨rfl, rfl⟩))
abbrev kX11_judge (rf : Option Value) (hf : Hp) : (Int32 × Hp) → Prop := fun y => rf = some (.int y.1) ∧ hf = y.2
noncomputable def fX11_judge_16 (h : Hp)  : Option (Int32 × Hp) :=
  some (((-2 : Int32), h))
theorem oX11_judge_16 {d : Nat} (hd : 6 ≤ d) {h : Hp} {rf : Option Value} {hf : Hp} {x : (Int32 × Hp)} (hs : fX11_judge_16 h  = some x) (hk : (kX11_judge rf hf) x) : Go d mX11_judge 16 [none, none, none, none, none, none] [] h rf hf := by
  unfold fX11_judge_16 at hs
  refine go_bipush (v := -2) (by decide) dX11_judge_16 ?_
  obtain rfl := Option.some.inj hs
  obtain ⟨rfl, rfl⟩ := hk
  exact go_iret rfl dX11_judge_18
abbrev pX11_judge_53 (d : Nat) (x0 : Nat) (x2 : Int32) (x3 : Nat) (rf : Option Value) (hf : Hp) : (Int32 × Int32 × Hp) → Prop := fun s => Go d mX11_judge 53 [some (.ref x0), none, some (.int x2), some (.ref x3), some (.int s.1), some (.int s.2.1)] [] s.2.2 rf hf
noncomputable def fX11_judge_129 (h : Hp) (s0 : Int32) : Option (Int32 × Hp) :=
  some ((s0, h))
theorem oX11_judge_129 {d : Nat} (hd : 6 ≤ d) {h : Hp} {s0 : Int32} {rf : Option Value} {hf : Hp} {x : (Int32 × Hp)} (hs : fX11_judge_129 h s0 = some x) (hk : (kX11_judge rf hf) x) : Go d mX11_judge 129 [none, none, none, none, none, none] [.int s0] h rf hf := by
  unfold fX11_judge_129 at hs
  obtain rfl := Option.some.inj hs
  obtain ⟨rfl, rfl⟩ := hk
  exact go_iret rfl dX11_judge_129
noncomputable def fX11_judge_89 (h : Hp) (x0 : Nat) (x2 : Int32) (x4 : Int32) (x5 : Int32) : Option (Int32 × Hp) :=
  if x2 = 0 then (
    if x5 = 0 then (
      fX11_judge_129 h (-1 : Int32)) else (
      fX11_judge_129 h (x4 - (1 : Int32)))) else (
if x2 = 1 then (
    some ((x5, h))) else (
if x2 = 2 then (
    (gN h 11 x0 3).bind fun v10 =>
    (gN h 11 x0 6).bind fun v11 =>
    (gI h 8 v11 0).bind fun v12 =>
    gO h 0 v10 (
    (fX0_metBits h v10 v12).bind fun y13 =>
    some ((y13, h)))) else (
    (gN h 11 x0 3).bind fun v15 =>
    (gN h 11 x0 6).bind fun v16 =>
    (gI h 8 v16 0).bind fun v17 =>
    gO h 0 v15 (
    (fX0_gapSum h v15 v17).bind fun y18 =>
    some ((y18, h))))))
theorem oX11_judge_89 {d : Nat} (hd : 6 ≤ d) {h : Hp} {x0 : Nat} {x2 : Int32} {x4 : Int32} {x5 : Int32} {rf : Option Value} {hf : Hp} {x : (Int32 × Hp)} (hs : fX11_judge_89 h x0 x2 x4 x5 = some x) (hk : (kX11_judge rf hf) x) : Go d mX11_judge 89 [some (.ref x0), none, some (.int x2), none, some (.int x4), some (.int x5)] [] h rf hf := by
  unfold fX11_judge_89 at hs
  refine go_iload_n (k4 := 2) rfl dX11_judge_89 ?_
  by_cases c0 : x2 = 0
  · have hs := if_t c0 hs
    refine go_tableIn (off := 26) (tgt := 116) (by rw [c0]; decide) (by rw [c0]; decide) (by rw [c0]; rfl) (by decide) dX11_judge_90 ?_
    refine go_iload rfl dX11_judge_116 ?_
    refine go_if_ne (tgt := 125) (by decide) dX11_judge_118 (fun c => ?_) (fun c => ?_)
    · have hs := if_f c hs
      refine go_iload rfl dX11_judge_125 ?_
      refine go_iconst (v := 1) (by decide) dX11_judge_127 ?_
      refine go_isub dX11_judge_128 ?_
      exact go_subL (L' := [none, none, none, none, none, none]) (by simp [subL, va_rf]) (oX11_judge_129 hd hs hk)
    · have hs := if_t c hs
      refine go_iconst (v := -1) (by decide) dX11_judge_121 ?_
      refine go_goto (tgt := 129) (by decide) dX11_judge_122 ?_
      exact go_subL (L' := [none, none, none, none, none, none]) (by simp [subL, va_rf]) (oX11_judge_129 hd hs hk)
  · have hs := if_f c0 hs
    by_cases c1 : x2 = 1
    · have hs := if_t c1 hs
      refine go_tableIn (off := 40) (tgt := 130) (by rw [c1]; decide) (by rw [c1]; decide) (by rw [c1]; rfl) (by decide) dX11_judge_90 ?_
      refine go_iload rfl dX11_judge_130 ?_
      obtain rfl := Option.some.inj hs
      obtain ⟨rfl, rfl⟩ := hk
      exact go_iret rfl dX11_judge_132
    · have hs := if_f c1 hs
      by_cases c2 : x2 = 2
      · have hs := if_t c2 hs
        refine go_tableIn (off := 43) (tgt := 133) (by rw [c2]; decide) (by rw [c2]; decide) (by rw [c2]; rfl) (by decide) dX11_judge_90 ?_
        refine go_aload_n (k4 := 0) rfl (Or.inr ⟨_, rfl⟩) dX11_judge_133 ?_
        obtain ⟨v10, ev10, hs⟩ := bindS hs
        refine go_gN fl_RX11_29 ev10 dX11_judge_134 ?_
        refine go_aload_n (k4 := 0) rfl (Or.inr ⟨_, rfl⟩) dX11_judge_137 ?_
        obtain ⟨v11, ev11, hs⟩ := bindS hs
        refine go_gN fl_RX11_43 ev11 dX11_judge_138 ?_
        obtain ⟨v12, ev12, hs⟩ := bindS hs
        refine go_gI fl_RX11_142 ev12 dX11_judge_141 ?_
        obtain ⟨g14, hs⟩ := gO_at hs
        obtain ⟨y13, ey13, hs⟩ := bindS hs
        refine go_V1 (As := [.int v12]) (st := []) g14 rfl rfl (oX0_metBits (d := d - 1) (by omega) ey13) (by omega) mb_X0_metBits lm_RX11_231 mi_X0_metBits (Nat.le_of_ble_eq_true rfl) rfl dX11_judge_144 ?_
        obtain rfl := Option.some.inj hs
        obtain ⟨rfl, rfl⟩ := hk
        exact go_iret rfl dX11_judge_147
      · have hs := if_f c2 hs
        refine go_tableOut (tgt := 148) (tab_out (0) (2) 2 (by decide) (by decide) (by decide) (fun i hi => by
          match i, hi with
          | 0, _ => rw [show Int32.ofInt ((0 : Int) + ((0 : Nat) : Int)) = (0 : Int32) by decide]; exact c0
          | 1, _ => rw [show Int32.ofInt ((0 : Int) + ((1 : Nat) : Int)) = (1 : Int32) by decide]; exact c1
          | 2, _ => rw [show Int32.ofInt ((0 : Int) + ((2 : Nat) : Int)) = (2 : Int32) by decide]; exact c2
          | k + 3, hi => omega)) (by decide) dX11_judge_90 ?_
        refine go_aload_n (k4 := 0) rfl (Or.inr ⟨_, rfl⟩) dX11_judge_148 ?_
        obtain ⟨v15, ev15, hs⟩ := bindS hs
        refine go_gN fl_RX11_29 ev15 dX11_judge_149 ?_
        refine go_aload_n (k4 := 0) rfl (Or.inr ⟨_, rfl⟩) dX11_judge_152 ?_
        obtain ⟨v16, ev16, hs⟩ := bindS hs
        refine go_gN fl_RX11_43 ev16 dX11_judge_153 ?_
        obtain ⟨v17, ev17, hs⟩ := bindS hs
        refine go_gI fl_RX11_142 ev17 dX11_judge_156 ?_
        obtain ⟨g19, hs⟩ := gO_at hs
        obtain ⟨y18, ey18, hs⟩ := bindS hs
        refine go_V1 (As := [.int v17]) (st := []) g19 rfl rfl (oX0_gapSum (d := d - 1) (by omega) ey18) (by omega) mb_X0_gapSum lm_RX11_234 mi_X0_gapSum (Nat.le_of_ble_eq_true rfl) rfl dX11_judge_159 ?_
        obtain rfl := Option.some.inj hs
        obtain ⟨rfl, rfl⟩ := hk
        exact go_iret rfl dX11_judge_162
noncomputable def fX11_judge_53b (h : Hp) (x0 : Nat) (x2 : Int32) (x3 : Nat) (x4 : Int32) (x5 : Int32) : Option ((Int32 × Int32 × Hp) ⊕ (Int32 × Hp)) :=
  (gI h 9 x3 3).bind fun v9 =>
  if v9 ≤ x4 then (
  (fX11_judge_89 h x0 x2 x4 x5).map (fun q => .inr q)) else (
    if x5 = 0 then (
      (gN h 11 x0 6).bind fun v20 =>
      gO h 9 x3 (
      (fX9_at h x3 x4).bind fun y21 =>
      gO h 11 x0 (
      (fX11_act h x0 v20 y21).bind fun y23 =>
      some (.inl ((x4 + Int32.ofInt 1), y23.1, y23.2))))) else (
    (fX11_judge_89 h x0 x2 x4 x5).map (fun q => .inr q)))
noncomputable def fX11_judge_53 (h : Hp) (x0 : Nat) (x2 : Int32) (x3 : Nat) (x4 : Int32) (x5 : Int32) : Option (Int32 × Hp) := lpw (σ := (Int32 × Int32 × Hp)) (fun s => fX11_judge_53b s.2.2 x0 x2 x3 s.1 s.2.1) (x4, x5, h)
theorem oX11_judge_53b {d : Nat} (hd : 6 ≤ d) {h : Hp} {x0 : Nat} {x2 : Int32} {x3 : Nat} {x4 : Int32} {x5 : Int32} {rf : Option Value} {hf : Hp} {x : ((Int32 × Int32 × Hp) ⊕ (Int32 × Hp))} (hs : fX11_judge_53b h x0 x2 x3 x4 x5 = some x) (hk : (Kx (pX11_judge_53 d x0 x2 x3 rf hf) (kX11_judge rf hf)) x) : Go d mX11_judge 53 [some (.ref x0), none, some (.int x2), some (.ref x3), some (.int x4), some (.int x5)] [] h rf hf := by
  unfold fX11_judge_53b at hs
  refine go_iload rfl dX11_judge_53 ?_
  refine go_aload_n (k4 := 3) rfl (Or.inr ⟨_, rfl⟩) dX11_judge_55 ?_
  obtain ⟨v9, ev9, hs⟩ := bindS hs
  refine go_gI fl_RX11_222 ev9 dX11_judge_56 ?_
  refine go_icmp_ge (tgt := 89) (by decide) dX11_judge_59 (fun c => ?_) (fun c => ?_)
  · have hs := if_t c hs
    obtain ⟨q, hs2, hq⟩ := mapS hs
    clear hs
    subst hq
    exact go_subL (L' := [some (.ref x0), none, some (.int x2), none, some (.int x4), some (.int x5)]) (by simp [subL, va_rf]) (oX11_judge_89 hd hs2 hk)
  · have hs := if_f c hs
    refine go_iload rfl dX11_judge_62 ?_
    refine go_if_ne (tgt := 89) (by decide) dX11_judge_64 (fun c => ?_) (fun c => ?_)
    · have hs := if_f c hs
      obtain ⟨q, hs2, hq⟩ := mapS hs
      clear hs
      subst hq
      exact go_subL (L' := [some (.ref x0), none, some (.int x2), none, some (.int x4), some (.int x5)]) (by simp [subL, va_rf]) (oX11_judge_89 hd hs2 hk)
    · have hs := if_t c hs
      refine go_aload_n (k4 := 0) rfl (Or.inr ⟨_, rfl⟩) dX11_judge_67 ?_
      refine go_aload_n (k4 := 0) rfl (Or.inr ⟨_, rfl⟩) dX11_judge_68 ?_
      obtain ⟨v20, ev20, hs⟩ := bindS hs
      refine go_gN fl_RX11_43 ev20 dX11_judge_69 ?_
      refine go_aload_n (k4 := 3) rfl (Or.inr ⟨_, rfl⟩) dX11_judge_72 ?_
      refine go_iload rfl dX11_judge_73 ?_
      obtain ⟨g22, hs⟩ := gO_at hs
      obtain ⟨y21, ey21, hs⟩ := bindS hs
      refine go_V1 (As := [.int x4]) (st := [.ref v20, .ref x0]) g22 rfl rfl (oX9_at (d := d - 1) (by omega) ey21) (by omega) mb_X9_at lm_RX11_223 mi_X9_at (Nat.le_of_ble_eq_true rfl) rfl dX11_judge_75 ?_
      obtain ⟨g24, hs⟩ := gO_at hs
      obtain ⟨y23, ey23, hs⟩ := bindS hs
      refine go_V1 (As := [.ref v20, .long y21]) (st := []) g24 rfl rfl (oX11_act (d := d - 1) (by omega) ey23) (by omega) mb_X11_act lm_RX11_227 mi_X11_act (Nat.le_of_ble_eq_true rfl) rfl dX11_judge_78 ?_
      refine go_at 81 rfl ?_
      refine go_istore (L' := [some (.ref x0), none, some (.int x2), some (.ref x3), some (.int x4), some (.int y23.1)]) (by decide) rfl dX11_judge_81 ?_
      refine go_iinc (L' := [some (.ref x0), none, some (.int x2), some (.ref x3), some (.int (x4 + Int32.ofInt 1)), some (.int y23.1)]) rfl (by decide) rfl rfl dX11_judge_83 ?_
      refine go_goto (tgt := 53) (by decide) dX11_judge_86 ?_
      obtain rfl := Option.some.inj hs
      exact go_subL (L' := [some (.ref x0), none, some (.int x2), some (.ref x3), some (.int (x4 + Int32.ofInt 1)), some (.int y23.1)]) (by simp [subL, va_rf]) hk
theorem oX11_judge_53 {d : Nat} (hd : 6 ≤ d) {h : Hp} {x0 : Nat} {x2 : Int32} {x3 : Nat} {x4 : Int32} {x5 : Int32} {rf : Option Value} {hf : Hp} {x : (Int32 × Hp)} (hs : fX11_judge_53 h x0 x2 x3 x4 x5 = some x) (hk : (kX11_judge rf hf) x) : Go d mX11_judge 53 [some (.ref x0), none, some (.int x2), some (.ref x3), some (.int x4), some (.int x5)] [] h rf hf := by
  unfold fX11_judge_53 at hs
  exact lpw_go (P := pX11_judge_53 d x0 x2 x3 rf hf) (fun s x hs hk => oX11_judge_53b hd hs hk) (x4, x5, h) x hs hk
noncomputable def fX11_judge (h : Hp) (x0 : Nat) (x1 : Int32) (x2 : Int32) : Option (Int32 × Hp) :=
  (fX11_isTray h x1).bind fun y1 =>
  if y1 = 0 then (
  fX11_judge_16 h ) else (
    if x2 < 0 then (
    fX11_judge_16 h ) else (
      if x2 ≤ (3 : Int32) then (
        (gN h 11 x0 8).bind fun v2 =>
        (aN h v2 x1).bind fun v3 =>
        (gI h 9 v3 2).bind fun v4 =>
        if v4 = 0 then (
          (gN h 11 x0 6).bind fun v5 =>
          (gN h 11 x0 4).bind fun v6 =>
          gO h 8 v5 (
          (fX8_copy h v5 v6).bind fun y7 =>
          fX11_judge_53 y7 x0 x2 v3 (0 : Int32) (0 : Int32))) else (
          some (((-6 : Int32), h)))) else (
      fX11_judge_16 h )))
theorem oX11_judge_0 {d : Nat} (hd : 6 ≤ d) {h : Hp} {x0 : Nat} {x1 : Int32} {x2 : Int32} {rf : Option Value} {hf : Hp} {x : (Int32 × Hp)} (hs : fX11_judge h x0 x1 x2 = some x) (hk : (kX11_judge rf hf) x) : Go d mX11_judge 0 [some (.ref x0), some (.int x1), some (.int x2), none, none, none] [] h rf hf := by
  unfold fX11_judge at hs
  refine go_iload_n (k4 := 1) rfl dX11_judge_0 ?_
  obtain ⟨y1, ey1, hs⟩ := bindS hs
  refine go_S1 (As := [.int x1]) (st := []) (oX11_isTray (d := d - 1) (by omega) ey1) (by omega) mb_X11_isTray lm_RX11_215 ms_X11_isTray (Nat.le_of_ble_eq_true rfl) rfl dX11_judge_1 ?_
  refine go_if_eq (tgt := 16) (by decide) dX11_judge_4 (fun c => ?_) (fun c => ?_)
  · have hs := if_t c hs
    exact go_subL (L' := [none, none, none, none, none, none]) (by simp [subL, va_rf]) (oX11_judge_16 hd hs hk)
  · have hs := if_f c hs
    refine go_iload_n (k4 := 2) rfl dX11_judge_7 ?_
    refine go_if_lt (tgt := 16) (by decide) dX11_judge_8 (fun c => ?_) (fun c => ?_)
    · have hs := if_t c hs
      exact go_subL (L' := [none, none, none, none, none, none]) (by simp [subL, va_rf]) (oX11_judge_16 hd hs hk)
    · have hs := if_f c hs
      refine go_iload_n (k4 := 2) rfl dX11_judge_11 ?_
      refine go_iconst (v := 3) (by decide) dX11_judge_12 ?_
      refine go_icmp_le (tgt := 19) (by decide) dX11_judge_13 (fun c => ?_) (fun c => ?_)
      · have hs := if_t c hs
        refine go_aload_n (k4 := 0) rfl (Or.inr ⟨_, rfl⟩) dX11_judge_19 ?_
        obtain ⟨v2, ev2, hs⟩ := bindS hs
        refine go_gN fl_RX11_55 ev2 dX11_judge_20 ?_
        refine go_iload_n (k4 := 1) rfl dX11_judge_23 ?_
        obtain ⟨v3, ev3, hs⟩ := bindS hs
        refine go_aN ev3 dX11_judge_24 ?_
        refine go_astore_n (k4 := 3) (L' := [some (.ref x0), some (.int x1), some (.int x2), some (.ref v3), none, none]) (by decide) (Or.inr ⟨_, rfl⟩) rfl dX11_judge_25 ?_
        refine go_aload_n (k4 := 3) rfl (Or.inr ⟨_, rfl⟩) dX11_judge_26 ?_
        obtain ⟨v4, ev4, hs⟩ := bindS hs
        refine go_gI fl_RX11_218 ev4 dX11_judge_27 ?_
        refine go_at 30 rfl ?_
        refine go_if_eq (tgt := 36) (by decide) dX11_judge_30 (fun c => ?_) (fun c => ?_)
        · have hs := if_t c hs
          refine go_aload_n (k4 := 0) rfl (Or.inr ⟨_, rfl⟩) dX11_judge_36 ?_
          obtain ⟨v5, ev5, hs⟩ := bindS hs
          refine go_gN fl_RX11_43 ev5 dX11_judge_37 ?_
          refine go_aload_n (k4 := 0) rfl (Or.inr ⟨_, rfl⟩) dX11_judge_40 ?_
          obtain ⟨v6, ev6, hs⟩ := bindS hs
          refine go_gN fl_RX11_36 ev6 dX11_judge_41 ?_
          obtain ⟨g8, hs⟩ := gO_at hs
          obtain ⟨y7, ey7, hs⟩ := bindS hs
          refine go_V0 (As := [.ref v6]) (st := []) g8 rfl rfl (oX8_copy (d := d - 1) (by omega) ey7) (by omega) mb_X8_copy lm_RX11_188 mi_X8_copy (Nat.le_of_ble_eq_true rfl) rfl dX11_judge_44 ?_
          refine go_iconst (v := 0) (by decide) dX11_judge_47 ?_
          refine go_istore (L' := [some (.ref x0), some (.int x1), some (.int x2), some (.ref v3), some (.int (0 : Int32)), none]) (by decide) rfl dX11_judge_48 ?_
          refine go_at 50 rfl ?_
          refine go_iconst (v := 0) (by decide) dX11_judge_50 ?_
          refine go_istore (L' := [some (.ref x0), some (.int x1), some (.int x2), some (.ref v3), some (.int (0 : Int32)), some (.int (0 : Int32))]) (by decide) rfl dX11_judge_51 ?_
          exact go_subL (L' := [some (.ref x0), none, some (.int x2), some (.ref v3), some (.int (0 : Int32)), some (.int (0 : Int32))]) (by simp [subL, va_rf]) (oX11_judge_53 hd hs hk)
        · have hs := if_f c hs
          refine go_bipush (v := -6) (by decide) dX11_judge_33 ?_
          obtain rfl := Option.some.inj hs
          obtain ⟨rfl, rfl⟩ := hk
          exact go_iret rfl dX11_judge_35
      · have hs := if_f c hs
        exact go_subL (L' := [none, none, none, none, none, none]) (by simp [subL, va_rf]) (oX11_judge_16 hd hs hk)
theorem oX11_judge {d : Nat} (hd : 6 ≤ d) {h : Hp} {x0 : Nat} {x1 : Int32} {x2 : Int32} {y : (Int32 × Hp)} (hs : fX11_judge h x0 x1 x2 = some y) : Call d mX11_judge [.ref x0, .int x1, .int x2] h (some (.int y.1)) (y.2) := call_of (by decide +kernel) (Nat.le_of_ble_eq_true rfl) (show Go d mX11_judge 0 [some (.ref x0), some (.int x1), some (.int x2), none, none, none] [] h _ _ from go_subL (by simp [subL]) (oX11_judge_0 hd hs ⟨rfl, rfl⟩))
