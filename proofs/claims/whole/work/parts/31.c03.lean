/-! methods: their texts as functions, and that the machine does just that -/
abbrev kX3_init (rf : Option Value) (hf : Hp) : Hp → Prop := fun y => rf = none ∧ hf = y
noncomputable def fX3_init (h : Hp) (x0 : Nat) (x1 : Nat) (x2 : Int32) : Option Hp :=
  (fJ7_copyOf_59c91 h x1 x2).bind fun y1 =>
  (sV y1.2 3 x0 0 (.ref y1.1)).bind fun h2 =>
  some (h2)
theorem oX3_init_0 {d : Nat} (hd : 2 ≤ d) {h : Hp} {x0 : Nat} {x1 : Nat} {x2 : Int32} {rf : Option Value} {hf : Hp} {x : Hp} (hs : fX3_init h x0 x1 x2 = some x) (hk : (kX3_init rf hf) x) : Go d mX3_init 0 [some (.ref x0), some (.ref x1), some (.int x2)] [] h rf hf := by
  unfold fX3_init at hs
  refine go_aload_n (k4 := 0) rfl (Or.inr ⟨_, rfl⟩) dX3_init_0 ?_
  refine go_objInit lo_RX3_1.1 lo_RX3_1.2.1 lo_RX3_1.2.2 (by omega) (Nat.le_of_ble_eq_true rfl) dX3_init_1 ?_
  refine go_aload_n (k4 := 0) rfl (Or.inr ⟨_, rfl⟩) dX3_init_4 ?_
  refine go_aload_n (k4 := 1) rfl (Or.inr ⟨_, rfl⟩) dX3_init_5 ?_
  refine go_iload_n (k4 := 2) rfl dX3_init_6 ?_
  obtain ⟨y1, ey1, hs⟩ := bindS hs
  refine go_S1 (As := [.ref x1, .int x2]) (st := [.ref x0]) (oJ7_copyOf_59c91 (d := d - 1) (by omega) ey1) (by omega) mb_J7_copyOf_59c91 lm_RX3_7 ms_J7_copyOf_59c91 (Nat.le_of_ble_eq_true rfl) rfl dX3_init_7 ?_
  obtain ⟨h2, eh2, hs⟩ := bindS hs
  refine go_sVF ff_RX3_13 rfl eh2 rfl rfl dX3_init_10 ?_
  refine go_at 13 rfl ?_
  obtain rfl := Option.some.inj hs
  obtain ⟨rfl, rfl⟩ := hk
  exact go_vret rfl dX3_init_13
theorem oX3_init {d : Nat} (hd : 2 ≤ d) {h : Hp} {x0 : Nat} {x1 : Nat} {x2 : Int32} {y : Hp} (hs : fX3_init h x0 x1 x2 = some y) : Call d mX3_init [.ref x0, .ref x1, .int x2] h (none) y := call_of (by decide +kernel) (Nat.le_of_ble_eq_true rfl) (show Go d mX3_init 0 [some (.ref x0), some (.ref x1), some (.int x2)] [] h _ _ from go_subL (by simp [subL]) (oX3_init_0 hd hs ⟨rfl, rfl⟩))
abbrev kX4_tellGrows (rf : Option Value) (hf : Hp) : (Int32 × Hp) → Prop := fun y => rf = some (.int y.1) ∧ hf = y.2
noncomputable def fX4_tellGrows_34 (h : Hp)  : Option (Int32 × Hp) :=
  some (((0 : Int32), h))
theorem oX4_tellGrows_34 {d : Nat} (hd : 108 ≤ d) {h : Hp} {rf : Option Value} {hf : Hp} {x : (Int32 × Hp)} (hs : fX4_tellGrows_34 h  = some x) (hk : (kX4_tellGrows rf hf) x) : Go d mX4_tellGrows 34 [none] [] h rf hf := by
  unfold fX4_tellGrows_34 at hs
  refine go_iconst (v := 0) (by decide) dX4_tellGrows_34 ?_
  obtain rfl := Option.some.inj hs
  obtain ⟨rfl, rfl⟩ := hk
  exact go_zret (ty := .boolean) rfl rfl dX4_tellGrows_35
noncomputable def fX4_tellGrows (h : Hp) (x0 : Nat) : Option (Int32 × Hp) :=
  (gN h 4 x0 0).bind fun v1 =>
  gO h 6 v1 (
  (fX6_advance h v1).bind fun y2 =>
  (sV y2 4 x0 2 (.int (0 : Int32))).bind fun h4 =>
  (sV h4 4 x0 3 (.int (1 : Int32))).bind fun h5 =>
  gO h5 4 x0 (
  (fX4_take h5 x0 13).bind fun y6 =>
  if y6.1 = 0 then (
  fX4_tellGrows_34 y6.2 ) else (
    gO y6.2 4 x0 (
    (rX4_sum 100 0 y6.2 x0 (0 : Int32)).bind fun y8 =>
    if y8.1 = 0 then (
    fX4_tellGrows_34 y8.2 ) else (
      lt y8.2.1 fun a10 =>
      lt (nO y8.2 3 1) fun h11 =>
      (gN h11 4 x0 1).bind fun v12 =>
      (gI h11 4 x0 2).bind fun v13 =>
      (fX3_init h11 a10 v12 v13).bind fun y14 =>
      (sV y14 4 x0 14 (.ref a10)).bind fun h15 =>
      some (((1 : Int32), h15)))))))
theorem oX4_tellGrows_0 {d : Nat} (hd : 108 ≤ d) {h : Hp} {x0 : Nat} {rf : Option Value} {hf : Hp} {x : (Int32 × Hp)} (hs : fX4_tellGrows h x0 = some x) (hk : (kX4_tellGrows rf hf) x) : Go d mX4_tellGrows 0 [some (.ref x0)] [] h rf hf := by
  unfold fX4_tellGrows at hs
  refine go_aload_n (k4 := 0) rfl (Or.inr ⟨_, rfl⟩) dX4_tellGrows_0 ?_
  obtain ⟨v1, ev1, hs⟩ := bindS hs
  refine go_gN fl_RX4_12 ev1 dX4_tellGrows_1 ?_
  obtain ⟨g3, hs⟩ := gO_at hs
  obtain ⟨y2, ey2, hs⟩ := bindS hs
  refine go_V0 (As := []) (st := []) g3 rfl rfl (oX6_advance (d := d - 1) (by omega) ey2) (by omega) mb_X6_advance lm_RX4_100 mi_X6_advance (Nat.le_of_ble_eq_true rfl) rfl dX4_tellGrows_4 ?_
  refine go_aload_n (k4 := 0) rfl (Or.inr ⟨_, rfl⟩) dX4_tellGrows_7 ?_
  refine go_iconst (v := 0) (by decide) dX4_tellGrows_8 ?_
  obtain ⟨h4, eh4, hs⟩ := bindS hs
  refine go_sV fw_RX4_22 eh4 rfl rfl dX4_tellGrows_9 ?_
  refine go_aload_n (k4 := 0) rfl (Or.inr ⟨_, rfl⟩) dX4_tellGrows_12 ?_
  refine go_at 13 rfl ?_
  refine go_iconst (v := 1) (by decide) dX4_tellGrows_13 ?_
  obtain ⟨h5, eh5, hs⟩ := bindS hs
  refine go_sV fw_RX4_26 eh5 rfl rfl dX4_tellGrows_14 ?_
  refine go_aload_n (k4 := 0) rfl (Or.inr ⟨_, rfl⟩) dX4_tellGrows_17 ?_
  refine go_str (j := 13) ls_RX4_150 dX4_tellGrows_18 ?_
  obtain ⟨g7, hs⟩ := gO_at hs
  obtain ⟨y6, ey6, hs⟩ := bindS hs
  refine go_V1 (As := [.ref 13]) (st := []) g7 rfl rfl (oX4_take (d := d - 1) (by omega) ey6) (by omega) mb_X4_take lm_RX4_108 mi_X4_take (Nat.le_of_ble_eq_true rfl) rfl dX4_tellGrows_20 ?_
  refine go_if_eq (tgt := 34) (by decide) dX4_tellGrows_23 (fun c => ?_) (fun c => ?_)
  · have hs := if_t c hs
    exact go_subL (L' := [none]) (by simp [subL, va_rf]) (oX4_tellGrows_34 hd hs hk)
  · have hs := if_f c hs
    refine go_aload_n (k4 := 0) rfl (Or.inr ⟨_, rfl⟩) dX4_tellGrows_26 ?_
    refine go_iconst (v := 0) (by decide) dX4_tellGrows_27 ?_
    obtain ⟨g9, hs⟩ := gO_at hs
    obtain ⟨y8, ey8, hs⟩ := bindS hs
    refine go_V1 (As := [.int (0 : Int32)]) (st := []) g9 rfl rfl (show Call (d - 1) mX4_sum _ _ _ _ from orX4_sum 100 (d - 1) (by omega) 0 y6.2 x0 (0 : Int32) _ ey8) (by omega) mb_X4_sum lm_RX4_152 mi_X4_sum (Nat.le_of_ble_eq_true rfl) rfl dX4_tellGrows_28 ?_
    refine go_if_ne (tgt := 36) (by decide) dX4_tellGrows_31 (fun c => ?_) (fun c => ?_)
    · have hs := if_f c hs
      refine go_aload_n (k4 := 0) rfl (Or.inr ⟨_, rfl⟩) dX4_tellGrows_36 ?_
      obtain ⟨a10, ea10, hs⟩ := lt_at hs
      obtain ⟨h11, eh11, hs⟩ := lt_at hs
      refine go_nO (ci := 3) rfl ln_RX4_155.1 ln_RX4_155.2.1 ln_RX4_155.2.2 dX4_tellGrows_37 ?_
      rw [← ea10]
      refine go_hp eh11.symm ?_
      refine go_dup rfl dX4_tellGrows_40 ?_
      refine go_aload_n (k4 := 0) rfl (Or.inr ⟨_, rfl⟩) dX4_tellGrows_41 ?_
      obtain ⟨v12, ev12, hs⟩ := bindS hs
      refine go_gN fl_RX4_18 ev12 dX4_tellGrows_42 ?_
      refine go_aload_n (k4 := 0) rfl (Or.inr ⟨_, rfl⟩) dX4_tellGrows_45 ?_
      obtain ⟨v13, ev13, hs⟩ := bindS hs
      refine go_gI fl_RX4_22 ev13 dX4_tellGrows_46 ?_
      refine go_at 49 rfl ?_
      obtain ⟨y14, ey14, hs⟩ := bindS hs
      refine go_I0 (As := [.ref v12, .int v13]) (st := [.ref a10, .ref x0]) rfl rfl (oX3_init (d := d - 1) (by omega) ey14) (by omega) mb_X3_init lm_RX4_157 mi_X3_init (Nat.le_of_ble_eq_true rfl) rfl dX4_tellGrows_49 ?_
      obtain ⟨h15, eh15, hs⟩ := bindS hs
      refine go_sV fw_RX4_60 eh15 rfl rfl dX4_tellGrows_52 ?_
      refine go_iconst (v := 1) (by decide) dX4_tellGrows_55 ?_
      obtain rfl := Option.some.inj hs
      obtain ⟨rfl, rfl⟩ := hk
      exact go_zret (ty := .boolean) rfl rfl dX4_tellGrows_56
    · have hs := if_t c hs
      exact go_subL (L' := [none]) (by simp [subL, va_rf]) (oX4_tellGrows_34 hd hs hk)
theorem oX4_tellGrows {d : Nat} (hd : 108 ≤ d) {h : Hp} {x0 : Nat} {y : (Int32 × Hp)} (hs : fX4_tellGrows h x0 = some y) : Call d mX4_tellGrows [.ref x0] h (some (.int y.1)) (y.2) := call_of (by decide +kernel) (Nat.le_of_ble_eq_true rfl) (show Go d mX4_tellGrows 0 [some (.ref x0)] [] h _ _ from go_subL (by simp [subL]) (oX4_tellGrows_0 hd hs ⟨rfl, rfl⟩))
abbrev kX4_tellFalls (rf : Option Value) (hf : Hp) : (Int32 × Hp) → Prop := fun y => rf = some (.int y.1) ∧ hf = y.2
noncomputable def fX4_tellFalls_34 (h : Hp)  : Option (Int32 × Hp) :=
  some (((0 : Int32), h))
theorem oX4_tellFalls_34 {d : Nat} (hd : 108 ≤ d) {h : Hp} {rf : Option Value} {hf : Hp} {x : (Int32 × Hp)} (hs : fX4_tellFalls_34 h  = some x) (hk : (kX4_tellFalls rf hf) x) : Go d mX4_tellFalls 34 [none] [] h rf hf := by
  unfold fX4_tellFalls_34 at hs
  refine go_iconst (v := 0) (by decide) dX4_tellFalls_34 ?_
  obtain rfl := Option.some.inj hs
  obtain ⟨rfl, rfl⟩ := hk
  exact go_zret (ty := .boolean) rfl rfl dX4_tellFalls_35
noncomputable def fX4_tellFalls (h : Hp) (x0 : Nat) : Option (Int32 × Hp) :=
  (gN h 4 x0 0).bind fun v1 =>
  gO h 6 v1 (
  (fX6_advance h v1).bind fun y2 =>
  (sV y2 4 x0 2 (.int (0 : Int32))).bind fun h4 =>
  (sV h4 4 x0 3 (.int (0 : Int32))).bind fun h5 =>
  gO h5 4 x0 (
  (fX4_take h5 x0 13).bind fun y6 =>
  if y6.1 = 0 then (
  fX4_tellFalls_34 y6.2 ) else (
    gO y6.2 4 x0 (
    (rX4_sum 100 4 y6.2 x0 (0 : Int32)).bind fun y8 =>
    if y8.1 = 0 then (
    fX4_tellFalls_34 y8.2 ) else (
      lt y8.2.1 fun a10 =>
      lt (nO y8.2 3 1) fun h11 =>
      (gN h11 4 x0 1).bind fun v12 =>
      (gI h11 4 x0 2).bind fun v13 =>
      (fX3_init h11 a10 v12 v13).bind fun y14 =>
      (sV y14 4 x0 15 (.ref a10)).bind fun h15 =>
      some (((1 : Int32), h15)))))))
theorem oX4_tellFalls_0 {d : Nat} (hd : 108 ≤ d) {h : Hp} {x0 : Nat} {rf : Option Value} {hf : Hp} {x : (Int32 × Hp)} (hs : fX4_tellFalls h x0 = some x) (hk : (kX4_tellFalls rf hf) x) : Go d mX4_tellFalls 0 [some (.ref x0)] [] h rf hf := by
  unfold fX4_tellFalls at hs
  refine go_aload_n (k4 := 0) rfl (Or.inr ⟨_, rfl⟩) dX4_tellFalls_0 ?_
  obtain ⟨v1, ev1, hs⟩ := bindS hs
  refine go_gN fl_RX4_12 ev1 dX4_tellFalls_1 ?_
  obtain ⟨g3, hs⟩ := gO_at hs
  obtain ⟨y2, ey2, hs⟩ := bindS hs
  refine go_V0 (As := []) (st := []) g3 rfl rfl (oX6_advance (d := d - 1) (by omega) ey2) (by omega) mb_X6_advance lm_RX4_100 mi_X6_advance (Nat.le_of_ble_eq_true rfl) rfl dX4_tellFalls_4 ?_
  refine go_aload_n (k4 := 0) rfl (Or.inr ⟨_, rfl⟩) dX4_tellFalls_7 ?_
  refine go_iconst (v := 0) (by decide) dX4_tellFalls_8 ?_
  obtain ⟨h4, eh4, hs⟩ := bindS hs
  refine go_sV fw_RX4_22 eh4 rfl rfl dX4_tellFalls_9 ?_
  refine go_aload_n (k4 := 0) rfl (Or.inr ⟨_, rfl⟩) dX4_tellFalls_12 ?_
  refine go_at 13 rfl ?_
  refine go_iconst (v := 0) (by decide) dX4_tellFalls_13 ?_
  obtain ⟨h5, eh5, hs⟩ := bindS hs
  refine go_sV fw_RX4_26 eh5 rfl rfl dX4_tellFalls_14 ?_
  refine go_aload_n (k4 := 0) rfl (Or.inr ⟨_, rfl⟩) dX4_tellFalls_17 ?_
  refine go_str (j := 13) ls_RX4_150 dX4_tellFalls_18 ?_
  obtain ⟨g7, hs⟩ := gO_at hs
  obtain ⟨y6, ey6, hs⟩ := bindS hs
  refine go_V1 (As := [.ref 13]) (st := []) g7 rfl rfl (oX4_take (d := d - 1) (by omega) ey6) (by omega) mb_X4_take lm_RX4_108 mi_X4_take (Nat.le_of_ble_eq_true rfl) rfl dX4_tellFalls_20 ?_
  refine go_if_eq (tgt := 34) (by decide) dX4_tellFalls_23 (fun c => ?_) (fun c => ?_)
  · have hs := if_t c hs
    exact go_subL (L' := [none]) (by simp [subL, va_rf]) (oX4_tellFalls_34 hd hs hk)
  · have hs := if_f c hs
    refine go_aload_n (k4 := 0) rfl (Or.inr ⟨_, rfl⟩) dX4_tellFalls_26 ?_
    refine go_iconst (v := 0) (by decide) dX4_tellFalls_27 ?_
    obtain ⟨g9, hs⟩ := gO_at hs
    obtain ⟨y8, ey8, hs⟩ := bindS hs
    refine go_V1 (As := [.int (0 : Int32)]) (st := []) g9 rfl rfl (show Call (d - 1) mX4_truth _ _ _ _ from orX4_sum 100 (d - 1) (by omega) 4 y6.2 x0 (0 : Int32) _ ey8) (by omega) mb_X4_truth lm_RX4_160 mi_X4_truth (Nat.le_of_ble_eq_true rfl) rfl dX4_tellFalls_28 ?_
    refine go_if_ne (tgt := 36) (by decide) dX4_tellFalls_31 (fun c => ?_) (fun c => ?_)
    · have hs := if_f c hs
      refine go_aload_n (k4 := 0) rfl (Or.inr ⟨_, rfl⟩) dX4_tellFalls_36 ?_
      obtain ⟨a10, ea10, hs⟩ := lt_at hs
      obtain ⟨h11, eh11, hs⟩ := lt_at hs
      refine go_nO (ci := 3) rfl ln_RX4_155.1 ln_RX4_155.2.1 ln_RX4_155.2.2 dX4_tellFalls_37 ?_
      rw [← ea10]
      refine go_hp eh11.symm ?_
      refine go_dup rfl dX4_tellFalls_40 ?_
      refine go_aload_n (k4 := 0) rfl (Or.inr ⟨_, rfl⟩) dX4_tellFalls_41 ?_
      obtain ⟨v12, ev12, hs⟩ := bindS hs
      refine go_gN fl_RX4_18 ev12 dX4_tellFalls_42 ?_
      refine go_aload_n (k4 := 0) rfl (Or.inr ⟨_, rfl⟩) dX4_tellFalls_45 ?_
      obtain ⟨v13, ev13, hs⟩ := bindS hs
      refine go_gI fl_RX4_22 ev13 dX4_tellFalls_46 ?_
      refine go_at 49 rfl ?_
      obtain ⟨y14, ey14, hs⟩ := bindS hs
      refine go_I0 (As := [.ref v12, .int v13]) (st := [.ref a10, .ref x0]) rfl rfl (oX3_init (d := d - 1) (by omega) ey14) (by omega) mb_X3_init lm_RX4_157 mi_X3_init (Nat.le_of_ble_eq_true rfl) rfl dX4_tellFalls_49 ?_
      obtain ⟨h15, eh15, hs⟩ := bindS hs
      refine go_sV fw_RX4_64 eh15 rfl rfl dX4_tellFalls_52 ?_
      refine go_iconst (v := 1) (by decide) dX4_tellFalls_55 ?_
      obtain rfl := Option.some.inj hs
      obtain ⟨rfl, rfl⟩ := hk
      exact go_zret (ty := .boolean) rfl rfl dX4_tellFalls_56
    · have hs := if_t c hs
      exact go_subL (L' := [none]) (by simp [subL, va_rf]) (oX4_tellFalls_34 hd hs hk)
theorem oX4_tellFalls {d : Nat} (hd : 108 ≤ d) {h : Hp} {x0 : Nat} {y : (Int32 × Hp)} (hs : fX4_tellFalls h x0 = some y) : Call d mX4_tellFalls [.ref x0] h (some (.int y.1)) (y.2) := call_of (by decide +kernel) (Nat.le_of_ble_eq_true rfl) (show Go d mX4_tellFalls 0 [some (.ref x0)] [] h _ _ from go_subL (by simp [subL]) (oX4_tellFalls_0 hd hs ⟨rfl, rfl⟩))
abbrev kX4_tellLine (rf : Option Value) (hf : Hp) : (Int32 × Hp) → Prop := fun y => rf = some (.int y.1) ∧ hf = y.2
noncomputable def fX4_tellLine_134 (h : Hp) (s0 : Int32) : Option (Int32 × Hp) :=
  bl s0 (some ((s0, h)))
theorem oX4_tellLine_134 {d : Nat} (hd : 109 ≤ d) {h : Hp} {s0 : Int32} {rf : Option Value} {hf : Hp} {x : (Int32 × Hp)} (hs : fX4_tellLine_134 h s0 = some x) (hk : (kX4_tellLine rf hf) x) : Go d mX4_tellLine 134 [none, none] [.int s0] h rf hf := by
  unfold fX4_tellLine_134 at hs
  obtain ⟨n1, n2, hs⟩ := bl_at hs
  obtain rfl := Option.some.inj hs
  obtain ⟨rfl, rfl⟩ := hk
  exact go_zret (ty := .boolean) rfl n1 dX4_tellLine_134
noncomputable def fX4_tellLine_133 (h : Hp)  : Option (Int32 × Hp) :=
  fX4_tellLine_134 h (0 : Int32)
theorem oX4_tellLine_133 {d : Nat} (hd : 109 ≤ d) {h : Hp} {rf : Option Value} {hf : Hp} {x : (Int32 × Hp)} (hs : fX4_tellLine_133 h  = some x) (hk : (kX4_tellLine rf hf) x) : Go d mX4_tellLine 133 [none, none] [] h rf hf := by
  unfold fX4_tellLine_133 at hs
  refine go_iconst (v := 0) (by decide) dX4_tellLine_133 ?_
  exact go_subL (L' := [none, none]) (by simp [subL, va_rf]) (oX4_tellLine_134 hd hs hk)
noncomputable def fX4_tellLine_106 (h : Hp) (x0 : Nat) (x1 : Int32) : Option (Int32 × Hp) :=
  (gI h 4 x0 7).bind fun v18 =>
  (sV h 4 x0 7 (.int (v18 + (1 : Int32)))).bind fun h19 =>
  if x1 = 0 then (
  fX4_tellLine_133 h19 ) else (
    gO h19 4 x0 (
    (fX4_take h19 x0 6).bind fun y20 =>
    if y20.1 = 0 then (
    fX4_tellLine_133 y20.2 ) else (
      fX4_tellLine_134 y20.2 (1 : Int32))))
theorem oX4_tellLine_106 {d : Nat} (hd : 109 ≤ d) {h : Hp} {x0 : Nat} {x1 : Int32} {rf : Option Value} {hf : Hp} {x : (Int32 × Hp)} (hs : fX4_tellLine_106 h x0 x1 = some x) (hk : (kX4_tellLine rf hf) x) : Go d mX4_tellLine 106 [some (.ref x0), some (.int x1)] [] h rf hf := by
  unfold fX4_tellLine_106 at hs
  refine go_aload_n (k4 := 0) rfl (Or.inr ⟨_, rfl⟩) dX4_tellLine_106 ?_
  refine go_dup rfl dX4_tellLine_107 ?_
  obtain ⟨v18, ev18, hs⟩ := bindS hs
  refine go_gI fl_RX4_39 ev18 dX4_tellLine_108 ?_
  refine go_iconst (v := 1) (by decide) dX4_tellLine_111 ?_
  refine go_iadd dX4_tellLine_112 ?_
  obtain ⟨h19, eh19, hs⟩ := bindS hs
  refine go_sV fw_RX4_39 eh19 rfl rfl dX4_tellLine_113 ?_
  refine go_iload_n (k4 := 1) rfl dX4_tellLine_116 ?_
  refine go_at 117 rfl ?_
  refine go_if_eq (tgt := 133) (by decide) dX4_tellLine_117 (fun c => ?_) (fun c => ?_)
  · have hs := if_t c hs
    exact go_subL (L' := [none, none]) (by simp [subL, va_rf]) (oX4_tellLine_133 hd hs hk)
  · have hs := if_f c hs
    refine go_aload_n (k4 := 0) rfl (Or.inr ⟨_, rfl⟩) dX4_tellLine_120 ?_
    refine go_str (j := 6) ls_RX4_115 dX4_tellLine_121 ?_
    obtain ⟨g21, hs⟩ := gO_at hs
    obtain ⟨y20, ey20, hs⟩ := bindS hs
    refine go_V1 (As := [.ref 6]) (st := []) g21 rfl rfl (oX4_take (d := d - 1) (by omega) ey20) (by omega) mb_X4_take lm_RX4_108 mi_X4_take (Nat.le_of_ble_eq_true rfl) rfl dX4_tellLine_123 ?_
    refine go_if_eq (tgt := 133) (by decide) dX4_tellLine_126 (fun c => ?_) (fun c => ?_)
    · have hs := if_t c hs
      exact go_subL (L' := [none, none]) (by simp [subL, va_rf]) (oX4_tellLine_133 hd hs hk)
    · have hs := if_f c hs
      refine go_iconst (v := 1) (by decide) dX4_tellLine_129 ?_
      refine go_goto (tgt := 134) (by decide) dX4_tellLine_130 ?_
      exact go_subL (L' := [none, none]) (by simp [subL, va_rf]) (oX4_tellLine_134 hd hs hk)
noncomputable def fX4_tellLine (h : Hp) (x0 : Nat) : Option (Int32 × Hp) :=
  (gN h 4 x0 0).bind fun v1 =>
  gO h 6 v1 (
  (fX6_isAt h v1 7).bind fun y2 =>
  if y2 = 0 then (
    (gN h 4 x0 0).bind fun v4 =>
    gO h 6 v4 (
    (fX6_isAt h v4 10).bind fun y5 =>
    if y5 = 0 then (
      (gN h 4 x0 0).bind fun v7 =>
      gO h 6 v7 (
      (fX6_isAt h v7 11).bind fun y8 =>
      if y8 = 0 then (
        (gN h 4 x0 0).bind fun v10 =>
        gO h 6 v10 (
        (fX6_isAt h v10 12).bind fun y11 =>
        if y11 = 0 then (
          (gN h 4 x0 0).bind fun v13 =>
          gO h 6 v13 (
          (fX6_isAt h v13 34).bind fun y14 =>
          if y14 = 0 then (
            gO h 4 x0 (
            (fX4_refuse h x0 (2 : Int32)).bind fun y16 =>
            fX4_tellLine_106 y16.2 x0 y16.1)) else (
            gO h 4 x0 (
            (fX4_tellFalls h x0).bind fun y22 =>
            fX4_tellLine_106 y22.2 x0 y22.1)))) else (
          gO h 4 x0 (
          (fX4_tellGrows h x0).bind fun y24 =>
          fX4_tellLine_106 y24.2 x0 y24.1)))) else (
        gO h 4 x0 (
        (fX4_tellDry h x0).bind fun y26 =>
        fX4_tellLine_106 y26.2 x0 y26.1)))) else (
      gO h 4 x0 (
      (fX4_tellLead h x0).bind fun y28 =>
      fX4_tellLine_106 y28.2 x0 y28.1)))) else (
    gO h 4 x0 (
    (fX4_tellPair h x0).bind fun y30 =>
    fX4_tellLine_106 y30.2 x0 y30.1)))
theorem oX4_tellLine_0 {d : Nat} (hd : 109 ≤ d) {h : Hp} {x0 : Nat} {rf : Option Value} {hf : Hp} {x : (Int32 × Hp)} (hs : fX4_tellLine h x0 = some x) (hk : (kX4_tellLine rf hf) x) : Go d mX4_tellLine 0 [some (.ref x0), none] [] h rf hf := by
  unfold fX4_tellLine at hs
  refine go_aload_n (k4 := 0) rfl (Or.inr ⟨_, rfl⟩) dX4_tellLine_0 ?_
  obtain ⟨v1, ev1, hs⟩ := bindS hs
  refine go_gN fl_RX4_12 ev1 dX4_tellLine_1 ?_
  refine go_str (j := 7) ls_RX4_117 dX4_tellLine_4 ?_
  obtain ⟨g3, hs⟩ := gO_at hs
  obtain ⟨y2, ey2, hs⟩ := bindS hs
  refine go_V1 (As := [.ref 7]) (st := []) g3 rfl rfl (oX6_isAt (d := d - 1) (by omega) ey2) (by omega) mb_X6_isAt lm_RX4_92 mi_X6_isAt (Nat.le_of_ble_eq_true rfl) rfl dX4_tellLine_6 ?_
  refine go_if_eq (tgt := 20) (by decide) dX4_tellLine_9 (fun c => ?_) (fun c => ?_)
  · have hs := if_t c hs
    refine go_aload_n (k4 := 0) rfl (Or.inr ⟨_, rfl⟩) dX4_tellLine_20 ?_
    obtain ⟨v4, ev4, hs⟩ := bindS hs
    refine go_gN fl_RX4_12 ev4 dX4_tellLine_21 ?_
    refine go_str (j := 10) ls_RX4_122 dX4_tellLine_24 ?_
    obtain ⟨g6, hs⟩ := gO_at hs
    obtain ⟨y5, ey5, hs⟩ := bindS hs
    refine go_V1 (As := [.ref 10]) (st := []) g6 rfl rfl (oX6_isAt (d := d - 1) (by omega) ey5) (by omega) mb_X6_isAt lm_RX4_92 mi_X6_isAt (Nat.le_of_ble_eq_true rfl) rfl dX4_tellLine_26 ?_
    refine go_if_eq (tgt := 40) (by decide) dX4_tellLine_29 (fun c => ?_) (fun c => ?_)
    · have hs := if_t c hs
      refine go_aload_n (k4 := 0) rfl (Or.inr ⟨_, rfl⟩) dX4_tellLine_40 ?_
      obtain ⟨v7, ev7, hs⟩ := bindS hs
      refine go_gN fl_RX4_12 ev7 dX4_tellLine_41 ?_
      refine go_str (j := 11) ls_RX4_127 dX4_tellLine_44 ?_
      obtain ⟨g9, hs⟩ := gO_at hs
      obtain ⟨y8, ey8, hs⟩ := bindS hs
      refine go_V1 (As := [.ref 11]) (st := []) g9 rfl rfl (oX6_isAt (d := d - 1) (by omega) ey8) (by omega) mb_X6_isAt lm_RX4_92 mi_X6_isAt (Nat.le_of_ble_eq_true rfl) rfl dX4_tellLine_46 ?_
      refine go_if_eq (tgt := 60) (by decide) dX4_tellLine_49 (fun c => ?_) (fun c => ?_)
      · have hs := if_t c hs
        refine go_aload_n (k4 := 0) rfl (Or.inr ⟨_, rfl⟩) dX4_tellLine_60 ?_
        obtain ⟨v10, ev10, hs⟩ := bindS hs
        refine go_gN fl_RX4_12 ev10 dX4_tellLine_61 ?_
        refine go_str (j := 12) ls_RX4_132 dX4_tellLine_64 ?_
        obtain ⟨g12, hs⟩ := gO_at hs
        obtain ⟨y11, ey11, hs⟩ := bindS hs
        refine go_V1 (As := [.ref 12]) (st := []) g12 rfl rfl (oX6_isAt (d := d - 1) (by omega) ey11) (by omega) mb_X6_isAt lm_RX4_92 mi_X6_isAt (Nat.le_of_ble_eq_true rfl) rfl dX4_tellLine_66 ?_
        refine go_if_eq (tgt := 80) (by decide) dX4_tellLine_69 (fun c => ?_) (fun c => ?_)
        · have hs := if_t c hs
          refine go_aload_n (k4 := 0) rfl (Or.inr ⟨_, rfl⟩) dX4_tellLine_80 ?_
          obtain ⟨v13, ev13, hs⟩ := bindS hs
          refine go_gN fl_RX4_12 ev13 dX4_tellLine_81 ?_
          refine go_str (j := 34) ls_RX4_136 dX4_tellLine_84 ?_
          obtain ⟨g15, hs⟩ := gO_at hs
          obtain ⟨y14, ey14, hs⟩ := bindS hs
          refine go_V1 (As := [.ref 34]) (st := []) g15 rfl rfl (oX6_isAt (d := d - 1) (by omega) ey14) (by omega) mb_X6_isAt lm_RX4_92 mi_X6_isAt (Nat.le_of_ble_eq_true rfl) rfl dX4_tellLine_86 ?_
          refine go_if_eq (tgt := 100) (by decide) dX4_tellLine_89 (fun c => ?_) (fun c => ?_)
          · have hs := if_t c hs
            refine go_aload_n (k4 := 0) rfl (Or.inr ⟨_, rfl⟩) dX4_tellLine_100 ?_
            refine go_iconst (v := 2) (by decide) dX4_tellLine_101 ?_
            obtain ⟨g17, hs⟩ := gO_at hs
            obtain ⟨y16, ey16, hs⟩ := bindS hs
            refine go_V1 (As := [.int (2 : Int32)]) (st := []) g17 rfl rfl (oX4_refuse (d := d - 1) (by omega) ey16) (by omega) mb_X4_refuse lm_RX4_96 mi_X4_refuse (Nat.le_of_ble_eq_true rfl) rfl dX4_tellLine_102 ?_
            refine go_istore_n (k4 := 1) (L' := [some (.ref x0), some (.int y16.1)]) (by decide) rfl dX4_tellLine_105 ?_
            exact go_subL (L' := [some (.ref x0), some (.int y16.1)]) (by simp [subL, va_rf]) (oX4_tellLine_106 hd hs hk)
          · have hs := if_f c hs
            refine go_aload_n (k4 := 0) rfl (Or.inr ⟨_, rfl⟩) dX4_tellLine_92 ?_
            obtain ⟨g23, hs⟩ := gO_at hs
            obtain ⟨y22, ey22, hs⟩ := bindS hs
            refine go_V1 (As := []) (st := []) g23 rfl rfl (oX4_tellFalls (d := d - 1) (by omega) ey22) (by omega) mb_X4_tellFalls lm_RX4_137 mi_X4_tellFalls (Nat.le_of_ble_eq_true rfl) rfl dX4_tellLine_93 ?_
            refine go_istore_n (k4 := 1) (L' := [some (.ref x0), some (.int y22.1)]) (by decide) rfl dX4_tellLine_96 ?_
            refine go_goto (tgt := 106) (by decide) dX4_tellLine_97 ?_
            exact go_subL (L' := [some (.ref x0), some (.int y22.1)]) (by simp [subL, va_rf]) (oX4_tellLine_106 hd hs hk)
        · have hs := if_f c hs
          refine go_aload_n (k4 := 0) rfl (Or.inr ⟨_, rfl⟩) dX4_tellLine_72 ?_
          obtain ⟨g25, hs⟩ := gO_at hs
          obtain ⟨y24, ey24, hs⟩ := bindS hs
          refine go_V1 (As := []) (st := []) g25 rfl rfl (oX4_tellGrows (d := d - 1) (by omega) ey24) (by omega) mb_X4_tellGrows lm_RX4_133 mi_X4_tellGrows (Nat.le_of_ble_eq_true rfl) rfl dX4_tellLine_73 ?_
          refine go_istore_n (k4 := 1) (L' := [some (.ref x0), some (.int y24.1)]) (by decide) rfl dX4_tellLine_76 ?_
          refine go_goto (tgt := 106) (by decide) dX4_tellLine_77 ?_
          exact go_subL (L' := [some (.ref x0), some (.int y24.1)]) (by simp [subL, va_rf]) (oX4_tellLine_106 hd hs hk)
      · have hs := if_f c hs
        refine go_aload_n (k4 := 0) rfl (Or.inr ⟨_, rfl⟩) dX4_tellLine_52 ?_
        obtain ⟨g27, hs⟩ := gO_at hs
        obtain ⟨y26, ey26, hs⟩ := bindS hs
        refine go_V1 (As := []) (st := []) g27 rfl rfl (oX4_tellDry (d := d - 1) (by omega) ey26) (by omega) mb_X4_tellDry lm_RX4_129 mi_X4_tellDry (Nat.le_of_ble_eq_true rfl) rfl dX4_tellLine_53 ?_
        refine go_istore_n (k4 := 1) (L' := [some (.ref x0), some (.int y26.1)]) (by decide) rfl dX4_tellLine_56 ?_
        refine go_goto (tgt := 106) (by decide) dX4_tellLine_57 ?_
        exact go_subL (L' := [some (.ref x0), some (.int y26.1)]) (by simp [subL, va_rf]) (oX4_tellLine_106 hd hs hk)
    · have hs := if_f c hs
      refine go_aload_n (k4 := 0) rfl (Or.inr ⟨_, rfl⟩) dX4_tellLine_32 ?_
      obtain ⟨g29, hs⟩ := gO_at hs
      obtain ⟨y28, ey28, hs⟩ := bindS hs
      refine go_V1 (As := []) (st := []) g29 rfl rfl (oX4_tellLead (d := d - 1) (by omega) ey28) (by omega) mb_X4_tellLead lm_RX4_124 mi_X4_tellLead (Nat.le_of_ble_eq_true rfl) rfl dX4_tellLine_33 ?_
      refine go_istore_n (k4 := 1) (L' := [some (.ref x0), some (.int y28.1)]) (by decide) rfl dX4_tellLine_36 ?_
      refine go_goto (tgt := 106) (by decide) dX4_tellLine_37 ?_
      exact go_subL (L' := [some (.ref x0), some (.int y28.1)]) (by simp [subL, va_rf]) (oX4_tellLine_106 hd hs hk)
  · have hs := if_f c hs
    refine go_aload_n (k4 := 0) rfl (Or.inr ⟨_, rfl⟩) dX4_tellLine_12 ?_
    obtain ⟨g31, hs⟩ := gO_at hs
    obtain ⟨y30, ey30, hs⟩ := bindS hs
    refine go_V1 (As := []) (st := []) g31 rfl rfl (oX4_tellPair (d := d - 1) (by omega) ey30) (by omega) mb_X4_tellPair lm_RX4_119 mi_X4_tellPair (Nat.le_of_ble_eq_true rfl) rfl dX4_tellLine_13 ?_
    refine go_istore_n (k4 := 1) (L' := [some (.ref x0), some (.int y30.1)]) (by decide) rfl dX4_tellLine_16 ?_
    refine go_goto (tgt := 106) (by decide) dX4_tellLine_17 ?_
    exact go_subL (L' := [some (.ref x0), some (.int y30.1)]) (by simp [subL, va_rf]) (oX4_tellLine_106 hd hs hk)
theorem oX4_tellLine {d : Nat} (hd : 109 ≤ d) {h : Hp} {x0 : Nat} {y : (Int32 × Hp)} (hs : fX4_tellLine h x0 = some y) : Call d mX4_tellLine [.ref x0] h (some (.int y.1)) (y.2) := call_of (by decide +kernel) (Nat.le_of_ble_eq_true rfl) (show Go d mX4_tellLine 0 [some (.ref x0), none] [] h _ _ from go_subL (by simp [subL]) (oX4_tellLine_0 hd hs ⟨rfl, rfl⟩))
abbrev kX4_read (rf : Option Value) (hf : Hp) : ((Option Nat) × Hp) → Prop := fun y => rf = some (va_rf y.1) ∧ hf = y.2
abbrev pX4_read_21 (d : Nat) (x0 : Nat) (x2 : Int32) (rf : Option Value) (hf : Hp) : (Int32 × Int32 × Hp) → Prop := fun s => Go d mX4_read 21 [some (.ref x0), none, some (.int x2), some (.int s.1), some (.int s.2.1)] [] s.2.2 rf hf
noncomputable def fX4_read_68 (h : Hp) (s0 : Option Nat) : Option ((Option Nat) × Hp) :=
  some ((s0, h))
theorem oX4_read_68 {d : Nat} (hd : 110 ≤ d) {h : Hp} {s0 : Option Nat} {rf : Option Value} {hf : Hp} {x : ((Option Nat) × Hp)} (hs : fX4_read_68 h s0 = some x) (hk : (kX4_read rf hf) x) : Go d mX4_read 68 [none, none, none, none, none] [va_rf s0] h rf hf := by
  unfold fX4_read_68 at hs
  obtain rfl := Option.some.inj hs
  obtain ⟨rfl, rfl⟩ := hk
  exact go_aret rfl (Or.inl ⟨_, rfl⟩) (isR _) dX4_read_68
noncomputable def fX4_read_52 (h : Hp) (x0 : Nat) (x3 : Int32) : Option ((Option Nat) × Hp) :=
  if x3 = 0 then (
    fX4_read_68 h none) else (
    lt h.1 fun a8 =>
    lt (nO h 0 11) fun h9 =>
    (fX0_init h9 a8 x0).bind fun y10 =>
    fX4_read_68 y10 (some a8))
theorem oX4_read_52 {d : Nat} (hd : 110 ≤ d) {h : Hp} {x0 : Nat} {x3 : Int32} {rf : Option Value} {hf : Hp} {x : ((Option Nat) × Hp)} (hs : fX4_read_52 h x0 x3 = some x) (hk : (kX4_read rf hf) x) : Go d mX4_read 52 [some (.ref x0), none, none, some (.int x3), none] [] h rf hf := by
  unfold fX4_read_52 at hs
  refine go_iload_n (k4 := 3) rfl dX4_read_52 ?_
  refine go_if_eq (tgt := 67) (by decide) dX4_read_53 (fun c => ?_) (fun c => ?_)
  · have hs := if_t c hs
    refine go_null dX4_read_67 ?_
    exact go_subL (L' := [none, none, none, none, none]) (by simp [subL, va_rf]) (oX4_read_68 hd hs hk)
  · have hs := if_f c hs
    obtain ⟨a8, ea8, hs⟩ := lt_at hs
    obtain ⟨h9, eh9, hs⟩ := lt_at hs
    refine go_nO (ci := 0) rfl ln_RX4_84.1 ln_RX4_84.2.1 ln_RX4_84.2.2 dX4_read_56 ?_
    rw [← ea8]
    refine go_hp eh9.symm ?_
    refine go_dup rfl dX4_read_59 ?_
    refine go_aload_n (k4 := 0) rfl (Or.inr ⟨_, rfl⟩) dX4_read_60 ?_
    obtain ⟨y10, ey10, hs⟩ := bindS hs
    refine go_I0 (As := [.ref x0]) (st := [.ref a8]) rfl rfl (oX0_init (d := d - 1) (by omega) ey10) (by omega) mb_X0_init lm_RX4_86 mi_X0_init (Nat.le_of_ble_eq_true rfl) rfl dX4_read_61 ?_
    refine go_goto (tgt := 68) (by decide) dX4_read_64 ?_
    exact go_subL (L' := [none, none, none, none, none]) (by simp [subL, va_rf]) (oX4_read_68 hd hs hk)
noncomputable def fX4_read_21b (h : Hp) (x0 : Nat) (x2 : Int32) (x3 : Int32) (x4 : Int32) : Option ((Int32 × Int32 × Hp) ⊕ ((Option Nat) × Hp)) :=
  if x2 ≤ x4 then (
  (fX4_read_52 h x0 x3).map (fun q => .inr q)) else (
    if x3 = 0 then (
    (fX4_read_52 h x0 x3).map (fun q => .inr q)) else (
      (gN h 4 x0 0).bind fun v11 =>
      (gI h 6 v11 3).bind fun v12 =>
      if v12 = 0 then (
      (fX4_read_52 h x0 x3).map (fun q => .inr q)) else (
        gO h 4 x0 (
        (fX4_tellLine h x0).bind fun y13 =>
        some (.inl (y13.1, (x4 + Int32.ofInt 1), y13.2))))))
noncomputable def fX4_read_21 (h : Hp) (x0 : Nat) (x2 : Int32) (x3 : Int32) (x4 : Int32) : Option ((Option Nat) × Hp) := lpw (σ := (Int32 × Int32 × Hp)) (fun s => fX4_read_21b s.2.2 x0 x2 s.1 s.2.1) (x3, x4, h)
theorem oX4_read_21b {d : Nat} (hd : 110 ≤ d) {h : Hp} {x0 : Nat} {x2 : Int32} {x3 : Int32} {x4 : Int32} {rf : Option Value} {hf : Hp} {x : ((Int32 × Int32 × Hp) ⊕ ((Option Nat) × Hp))} (hs : fX4_read_21b h x0 x2 x3 x4 = some x) (hk : (Kx (pX4_read_21 d x0 x2 rf hf) (kX4_read rf hf)) x) : Go d mX4_read 21 [some (.ref x0), none, some (.int x2), some (.int x3), some (.int x4)] [] h rf hf := by
  unfold fX4_read_21b at hs
  refine go_iload rfl dX4_read_21 ?_
  refine go_iload_n (k4 := 2) rfl dX4_read_23 ?_
  refine go_icmp_ge (tgt := 52) (by decide) dX4_read_24 (fun c => ?_) (fun c => ?_)
  · have hs := if_t c hs
    obtain ⟨q, hs2, hq⟩ := mapS hs
    clear hs
    subst hq
    exact go_subL (L' := [some (.ref x0), none, none, some (.int x3), none]) (by simp [subL, va_rf]) (oX4_read_52 hd hs2 hk)
  · have hs := if_f c hs
    refine go_iload_n (k4 := 3) rfl dX4_read_27 ?_
    refine go_if_eq (tgt := 52) (by decide) dX4_read_28 (fun c => ?_) (fun c => ?_)
    · have hs := if_t c hs
      obtain ⟨q, hs2, hq⟩ := mapS hs
      clear hs
      subst hq
      exact go_subL (L' := [some (.ref x0), none, none, some (.int x3), none]) (by simp [subL, va_rf]) (oX4_read_52 hd hs2 hk)
    · have hs := if_f c hs
      refine go_aload_n (k4 := 0) rfl (Or.inr ⟨_, rfl⟩) dX4_read_31 ?_
      obtain ⟨v11, ev11, hs⟩ := bindS hs
      refine go_gN fl_RX4_12 ev11 dX4_read_32 ?_
      obtain ⟨v12, ev12, hs⟩ := bindS hs
      refine go_gI fl_RX4_78 ev12 dX4_read_35 ?_
      refine go_if_eq (tgt := 52) (by decide) dX4_read_38 (fun c => ?_) (fun c => ?_)
      · have hs := if_t c hs
        obtain ⟨q, hs2, hq⟩ := mapS hs
        clear hs
        subst hq
        exact go_subL (L' := [some (.ref x0), none, none, some (.int x3), none]) (by simp [subL, va_rf]) (oX4_read_52 hd hs2 hk)
      · have hs := if_f c hs
        refine go_aload_n (k4 := 0) rfl (Or.inr ⟨_, rfl⟩) dX4_read_41 ?_
        obtain ⟨g14, hs⟩ := gO_at hs
        obtain ⟨y13, ey13, hs⟩ := bindS hs
        refine go_V1 (As := []) (st := []) g14 rfl rfl (oX4_tellLine (d := d - 1) (by omega) ey13) (by omega) mb_X4_tellLine lm_RX4_81 mi_X4_tellLine (Nat.le_of_ble_eq_true rfl) rfl dX4_read_42 ?_
        refine go_istore_n (k4 := 3) (L' := [some (.ref x0), none, some (.int x2), some (.int y13.1), some (.int x4)]) (by decide) rfl dX4_read_45 ?_
        refine go_iinc (L' := [some (.ref x0), none, some (.int x2), some (.int y13.1), some (.int (x4 + Int32.ofInt 1))]) rfl (by decide) rfl rfl dX4_read_46 ?_
        refine go_goto (tgt := 21) (by decide) dX4_read_49 ?_
        obtain rfl := Option.some.inj hs
        exact go_subL (L' := [some (.ref x0), none, some (.int x2), some (.int y13.1), some (.int (x4 + Int32.ofInt 1))]) (by simp [subL, va_rf]) hk
theorem oX4_read_21 {d : Nat} (hd : 110 ≤ d) {h : Hp} {x0 : Nat} {x2 : Int32} {x3 : Int32} {x4 : Int32} {rf : Option Value} {hf : Hp} {x : ((Option Nat) × Hp)} (hs : fX4_read_21 h x0 x2 x3 x4 = some x) (hk : (kX4_read rf hf) x) : Go d mX4_read 21 [some (.ref x0), none, some (.int x2), some (.int x3), some (.int x4)] [] h rf hf := by
  unfold fX4_read_21 at hs
  exact lpw_go (P := pX4_read_21 d x0 x2 rf hf) (fun s x hs hk => oX4_read_21b hd hs hk) (x3, x4, h) x hs hk
noncomputable def fX4_read (h : Hp) (x0 : Nat) (x1 : Nat) (x2 : Int32) : Option ((Option Nat) × Hp) :=
  gO h 4 x0 (
  (fX4_forget h x0).bind fun y1 =>
  (gN y1 4 x0 0).bind fun v3 =>
  gO y1 6 v3 (
  (fX6_open y1 v3 x1 x2).bind fun y4 =>
  gO y4 4 x0 (
  (fX4_tellCave y4 x0).bind fun y6 =>
  fX4_read_21 y6.2 x0 x2 y6.1 (0 : Int32))))
theorem oX4_read_0 {d : Nat} (hd : 110 ≤ d) {h : Hp} {x0 : Nat} {x1 : Nat} {x2 : Int32} {rf : Option Value} {hf : Hp} {x : ((Option Nat) × Hp)} (hs : fX4_read h x0 x1 x2 = some x) (hk : (kX4_read rf hf) x) : Go d mX4_read 0 [some (.ref x0), some (.ref x1), some (.int x2), none, none] [] h rf hf := by
  unfold fX4_read at hs
  refine go_aload_n (k4 := 0) rfl (Or.inr ⟨_, rfl⟩) dX4_read_0 ?_
  obtain ⟨g2, hs⟩ := gO_at hs
  obtain ⟨y1, ey1, hs⟩ := bindS hs
  refine go_V0 (As := []) (st := []) g2 rfl rfl (oX4_forget (d := d - 1) (by omega) ey1) (by omega) mb_X4_forget lm_RX4_67 mi_X4_forget (Nat.le_of_ble_eq_true rfl) rfl dX4_read_1 ?_
  refine go_aload_n (k4 := 0) rfl (Or.inr ⟨_, rfl⟩) dX4_read_4 ?_
  obtain ⟨v3, ev3, hs⟩ := bindS hs
  refine go_gN fl_RX4_12 ev3 dX4_read_5 ?_
  refine go_aload_n (k4 := 1) rfl (Or.inr ⟨_, rfl⟩) dX4_read_8 ?_
  refine go_iload_n (k4 := 2) rfl dX4_read_9 ?_
  obtain ⟨g5, hs⟩ := gO_at hs
  obtain ⟨y4, ey4, hs⟩ := bindS hs
  refine go_V0 (As := [.ref x1, .int x2]) (st := []) g5 rfl rfl (oX6_open (d := d - 1) (by omega) ey4) (by omega) mb_X6_open lm_RX4_70 mi_X6_open (Nat.le_of_ble_eq_true rfl) rfl dX4_read_10 ?_
  refine go_at 13 rfl ?_
  refine go_aload_n (k4 := 0) rfl (Or.inr ⟨_, rfl⟩) dX4_read_13 ?_
  obtain ⟨g7, hs⟩ := gO_at hs
  obtain ⟨y6, ey6, hs⟩ := bindS hs
  refine go_V1 (As := []) (st := []) g7 rfl rfl (oX4_tellCave (d := d - 1) (by omega) ey6) (by omega) mb_X4_tellCave lm_RX4_74 mi_X4_tellCave (Nat.le_of_ble_eq_true rfl) rfl dX4_read_14 ?_
  refine go_istore_n (k4 := 3) (L' := [some (.ref x0), some (.ref x1), some (.int x2), some (.int y6.1), none]) (by decide) rfl dX4_read_17 ?_
  refine go_iconst (v := 0) (by decide) dX4_read_18 ?_
  refine go_istore (L' := [some (.ref x0), some (.ref x1), some (.int x2), some (.int y6.1), some (.int (0 : Int32))]) (by decide) rfl dX4_read_19 ?_
  exact go_subL (L' := [some (.ref x0), none, some (.int x2), some (.int y6.1), some (.int (0 : Int32))]) (by simp [subL, va_rf]) (oX4_read_21 hd hs hk)
theorem oX4_read {d : Nat} (hd : 110 ≤ d) {h : Hp} {x0 : Nat} {x1 : Nat} {x2 : Int32} {y : ((Option Nat) × Hp)} (hs : fX4_read h x0 x1 x2 = some y) : Call d mX4_read [.ref x0, .ref x1, .int x2] h (some (va_rf y.1)) (y.2) := call_of (by decide +kernel) (Nat.le_of_ble_eq_true rfl) (show Go d mX4_read 0 [some (.ref x0), some (.ref x1), some (.int x2), none, none] [] h _ _ from go_subL (by simp [subL]) (oX4_read_0 hd hs ⟨rfl, rfl⟩))
abbrev kX8_begin (rf : Option Value) (hf : Hp) : Hp → Prop := fun y => rf = none ∧ hf = y
noncomputable def fX8_begin (h : Hp) (x0 : Nat) (x1 : Nat) : Option Hp :=
  (gI h 0 x1 4).bind fun v1 =>
  (sV h 8 x0 0 (.int v1)).bind fun h2 =>
  (gI h2 0 x1 5).bind fun v3 =>
  (sV h2 8 x0 1 (.int v3)).bind fun h4 =>
  (gI h4 0 x1 6).bind fun v5 =>
  (sV h4 8 x0 2 (.int v5)).bind fun h6 =>
  (sV h6 8 x0 3 (.int (0 : Int32))).bind fun h7 =>
  some (h7)
theorem oX8_begin_0 {d : Nat} (hd : 0 ≤ d) {h : Hp} {x0 : Nat} {x1 : Nat} {rf : Option Value} {hf : Hp} {x : Hp} (hs : fX8_begin h x0 x1 = some x) (hk : (kX8_begin rf hf) x) : Go d mX8_begin 0 [some (.ref x0), some (.ref x1)] [] h rf hf := by
  unfold fX8_begin at hs
  refine go_aload_n (k4 := 0) rfl (Or.inr ⟨_, rfl⟩) dX8_begin_0 ?_
  refine go_aload_n (k4 := 1) rfl (Or.inr ⟨_, rfl⟩) dX8_begin_1 ?_
  obtain ⟨v1, ev1, hs⟩ := bindS hs
  refine go_gI fl_RX8_22 ev1 dX8_begin_2 ?_
  obtain ⟨h2, eh2, hs⟩ := bindS hs
  refine go_sV fw_RX8_7 eh2 rfl rfl dX8_begin_5 ?_
  refine go_aload_n (k4 := 0) rfl (Or.inr ⟨_, rfl⟩) dX8_begin_8 ?_
  refine go_aload_n (k4 := 1) rfl (Or.inr ⟨_, rfl⟩) dX8_begin_9 ?_
  obtain ⟨v3, ev3, hs⟩ := bindS hs
  refine go_gI fl_RX8_27 ev3 dX8_begin_10 ?_
  refine go_at 13 rfl ?_
  obtain ⟨h4, eh4, hs⟩ := bindS hs
  refine go_sV fw_RX8_13 eh4 rfl rfl dX8_begin_13 ?_
  refine go_aload_n (k4 := 0) rfl (Or.inr ⟨_, rfl⟩) dX8_begin_16 ?_
  refine go_aload_n (k4 := 1) rfl (Or.inr ⟨_, rfl⟩) dX8_begin_17 ?_
  obtain ⟨v5, ev5, hs⟩ := bindS hs
  refine go_gI fl_RX8_28 ev5 dX8_begin_18 ?_
  obtain ⟨h6, eh6, hs⟩ := bindS hs
  refine go_sV fw_RX8_16 eh6 rfl rfl dX8_begin_21 ?_
  refine go_aload_n (k4 := 0) rfl (Or.inr ⟨_, rfl⟩) dX8_begin_24 ?_
  refine go_iconst (v := 0) (by decide) dX8_begin_25 ?_
  obtain ⟨h7, eh7, hs⟩ := bindS hs
  refine go_sV fw_RX8_19 eh7 rfl rfl dX8_begin_26 ?_
  refine go_at 29 rfl ?_
  obtain rfl := Option.some.inj hs
  obtain ⟨rfl, rfl⟩ := hk
  exact go_vret rfl dX8_begin_29
theorem oX8_begin {d : Nat} (hd : 0 ≤ d) {h : Hp} {x0 : Nat} {x1 : Nat} {y : Hp} (hs : fX8_begin h x0 x1 = some y) : Call d mX8_begin [.ref x0, .ref x1] h (none) y := call_of (by decide +kernel) (Nat.le_of_ble_eq_true rfl) (show Go d mX8_begin 0 [some (.ref x0), some (.ref x1)] [] h _ _ from go_subL (by simp [subL]) (oX8_begin_0 hd hs ⟨rfl, rfl⟩))
abbrev kX5_forget (rf : Option Value) (hf : Hp) : Hp → Prop := fun y => rf = none ∧ hf = y
noncomputable def fX5_forget (h : Hp) (x0 : Nat) : Option Hp :=
  (sV h 5 x0 2 (.int (0 : Int32))).bind fun h1 =>
  some (h1)
theorem oX5_forget_0 {d : Nat} (hd : 0 ≤ d) {h : Hp} {x0 : Nat} {rf : Option Value} {hf : Hp} {x : Hp} (hs : fX5_forget h x0 = some x) (hk : (kX5_forget rf hf) x) : Go d mX5_forget 0 [some (.ref x0)] [] h rf hf := by
  unfold fX5_forget at hs
  refine go_aload_n (k4 := 0) rfl (Or.inr ⟨_, rfl⟩) dX5_forget_0 ?_
  refine go_iconst (v := 0) (by decide) dX5_forget_1 ?_
  obtain ⟨h1, eh1, hs⟩ := bindS hs
  refine go_sV fw_RX5_21 eh1 rfl rfl dX5_forget_2 ?_
  obtain rfl := Option.some.inj hs
  obtain ⟨rfl, rfl⟩ := hk
  exact go_vret rfl dX5_forget_5
theorem oX5_forget {d : Nat} (hd : 0 ≤ d) {h : Hp} {x0 : Nat} {y : Hp} (hs : fX5_forget h x0 = some y) : Call d mX5_forget [.ref x0] h (none) y := call_of (by decide +kernel) (Nat.le_of_ble_eq_true rfl) (show Go d mX5_forget 0 [some (.ref x0)] [] h _ _ from go_subL (by simp [subL]) (oX5_forget_0 hd hs ⟨rfl, rfl⟩))
abbrev kX11_cave (rf : Option Value) (hf : Hp) : (Int32 × Hp) → Prop := fun y => rf = some (.int y.1) ∧ hf = y.2
noncomputable def fX11_cave_12 (h : Hp)  : Option (Int32 × Hp) :=
  some (((-3 : Int32), h))
theorem oX11_cave_12 {d : Nat} (hd : 111 ≤ d) {h : Hp} {rf : Option Value} {hf : Hp} {x : (Int32 × Hp)} (hs : fX11_cave_12 h  = some x) (hk : (kX11_cave rf hf) x) : Go d mX11_cave 12 [none, none, none] [] h rf hf := by
  unfold fX11_cave_12 at hs
  refine go_bipush (v := -3) (by decide) dX11_cave_12 ?_
  obtain rfl := Option.some.inj hs
  obtain ⟨rfl, rfl⟩ := hk
  exact go_iret rfl dX11_cave_14
noncomputable def fX11_cave (h : Hp) (x0 : Nat) (x1 : Int32) : Option (Int32 × Hp) :=
  if x1 < 0 then (
  fX11_cave_12 h ) else (
    (gI h 11 x0 1).bind fun v1 =>
    if x1 ≤ v1 then (
      (sV h 11 x0 1 (.int (0 : Int32))).bind fun h2 =>
      (gN h2 11 x0 2).bind fun v3 =>
      (gN h2 11 x0 0).bind fun v4 =>
      gO h2 4 v3 (
      (fX4_read h2 v3 v4 x1).bind fun y5 =>
      lt y5.1 fun o7 =>
      match o7 with
      | none => (
        (gN y5.2 11 x0 2).bind fun v9 =>
        (gI y5.2 4 v9 5).bind fun v10 =>
        some ((((-30 : Int32) - v10), y5.2)))
      | some n8 => (
        (sV y5.2 11 x0 3 (.ref n8)).bind fun h11 =>
        (gN h11 11 x0 4).bind fun v12 =>
        gO h11 8 v12 (
        (fX8_begin h11 v12 n8).bind fun y13 =>
        (gN y13 11 x0 7).bind fun v15 =>
        gO y13 5 v15 (
        (fX5_forget y13 v15).bind fun y16 =>
        (gI y16 0 n8 3).bind fun v18 =>
        some ((v18, y16))))))) else (
    fX11_cave_12 h ))
theorem oX11_cave_0 {d : Nat} (hd : 111 ≤ d) {h : Hp} {x0 : Nat} {x1 : Int32} {rf : Option Value} {hf : Hp} {x : (Int32 × Hp)} (hs : fX11_cave h x0 x1 = some x) (hk : (kX11_cave rf hf) x) : Go d mX11_cave 0 [some (.ref x0), some (.int x1), none] [] h rf hf := by
  unfold fX11_cave at hs
  refine go_iload_n (k4 := 1) rfl dX11_cave_0 ?_
  refine go_if_lt (tgt := 12) (by decide) dX11_cave_1 (fun c => ?_) (fun c => ?_)
  · have hs := if_t c hs
    exact go_subL (L' := [none, none, none]) (by simp [subL, va_rf]) (oX11_cave_12 hd hs hk)
  · have hs := if_f c hs
    refine go_iload_n (k4 := 1) rfl dX11_cave_4 ?_
    refine go_aload_n (k4 := 0) rfl (Or.inr ⟨_, rfl⟩) dX11_cave_5 ?_
    obtain ⟨v1, ev1, hs⟩ := bindS hs
    refine go_gI fl_RX11_13 ev1 dX11_cave_6 ?_
    refine go_icmp_le (tgt := 15) (by decide) dX11_cave_9 (fun c => ?_) (fun c => ?_)
    · have hs := if_t c hs
      refine go_aload_n (k4 := 0) rfl (Or.inr ⟨_, rfl⟩) dX11_cave_15 ?_
      refine go_iconst (v := 0) (by decide) dX11_cave_16 ?_
      obtain ⟨h2, eh2, hs⟩ := bindS hs
      refine go_sV fw_RX11_13 eh2 rfl rfl dX11_cave_17 ?_
      refine go_aload_n (k4 := 0) rfl (Or.inr ⟨_, rfl⟩) dX11_cave_20 ?_
      obtain ⟨v3, ev3, hs⟩ := bindS hs
      refine go_gN fl_RX11_20 ev3 dX11_cave_21 ?_
      refine go_aload_n (k4 := 0) rfl (Or.inr ⟨_, rfl⟩) dX11_cave_24 ?_
      obtain ⟨v4, ev4, hs⟩ := bindS hs
      refine go_gN fl_RX11_9 ev4 dX11_cave_25 ?_
      refine go_at 28 rfl ?_
      refine go_iload_n (k4 := 1) rfl dX11_cave_28 ?_
      obtain ⟨g6, hs⟩ := gO_at hs
      obtain ⟨y5, ey5, hs⟩ := bindS hs
      refine go_V1 (As := [.ref v4, .int x1]) (st := []) g6 rfl rfl (oX4_read (d := d - 1) (by omega) ey5) (by omega) mb_X4_read lm_RX11_119 mi_X4_read (Nat.le_of_ble_eq_true rfl) rfl dX11_cave_29 ?_
      obtain ⟨o7, eo7, hs⟩ := lt_at hs
      rw [← eo7]
      refine go_astore_n (k4 := 2) (L' := [some (.ref x0), some (.int x1), some (va_rf o7)]) (by decide) (isR _) rfl dX11_cave_32 ?_
      refine go_aload_n (k4 := 2) rfl (isR _) dX11_cave_33 ?_
      cases o7 with
      | none =>
        dsimp only at hs
        refine go_ifnonnull (o := none) (tgt := 48) (by decide) dX11_cave_34 (fun c => absurd rfl c) (fun _ => ?_)
        refine go_bipush (v := -30) (by decide) dX11_cave_37 ?_
        refine go_aload_n (k4 := 0) rfl (Or.inr ⟨_, rfl⟩) dX11_cave_39 ?_
        obtain ⟨v9, ev9, hs⟩ := bindS hs
        refine go_gN fl_RX11_20 ev9 dX11_cave_40 ?_
        obtain ⟨v10, ev10, hs⟩ := bindS hs
        refine go_gI fl_RX11_123 ev10 dX11_cave_43 ?_
        refine go_isub dX11_cave_46 ?_
        obtain rfl := Option.some.inj hs
        obtain ⟨rfl, rfl⟩ := hk
        exact go_iret rfl dX11_cave_47
      | some n8 =>
        dsimp only at hs
        refine go_ifnonnull (o := some n8) (tgt := 48) (by decide) dX11_cave_34 (fun _ => ?_) (fun c => by cases c)
        refine go_aload_n (k4 := 0) rfl (Or.inr ⟨_, rfl⟩) dX11_cave_48 ?_
        refine go_aload_n (k4 := 2) rfl (Or.inr ⟨_, rfl⟩) dX11_cave_49 ?_
        obtain ⟨h11, eh11, hs⟩ := bindS hs
        refine go_sV fw_RX11_29 eh11 rfl rfl dX11_cave_50 ?_
        refine go_aload_n (k4 := 0) rfl (Or.inr ⟨_, rfl⟩) dX11_cave_53 ?_
        obtain ⟨v12, ev12, hs⟩ := bindS hs
        refine go_gN fl_RX11_36 ev12 dX11_cave_54 ?_
        refine go_aload_n (k4 := 2) rfl (Or.inr ⟨_, rfl⟩) dX11_cave_57 ?_
        obtain ⟨g14, hs⟩ := gO_at hs
        obtain ⟨y13, ey13, hs⟩ := bindS hs
        refine go_V0 (As := [.ref n8]) (st := []) g14 rfl rfl (oX8_begin (d := d - 1) (by omega) ey13) (by omega) mb_X8_begin lm_RX11_126 mi_X8_begin (Nat.le_of_ble_eq_true rfl) rfl dX11_cave_58 ?_
        refine go_at 61 rfl ?_
        refine go_aload_n (k4 := 0) rfl (Or.inr ⟨_, rfl⟩) dX11_cave_61 ?_
        obtain ⟨v15, ev15, hs⟩ := bindS hs
        refine go_gN fl_RX11_49 ev15 dX11_cave_62 ?_
        obtain ⟨g17, hs⟩ := gO_at hs
        obtain ⟨y16, ey16, hs⟩ := bindS hs
        refine go_V0 (As := []) (st := []) g17 rfl rfl (oX5_forget (d := d - 1) (by omega) ey16) (by omega) mb_X5_forget lm_RX11_129 mi_X5_forget (Nat.le_of_ble_eq_true rfl) rfl dX11_cave_65 ?_
        refine go_aload_n (k4 := 2) rfl (Or.inr ⟨_, rfl⟩) dX11_cave_68 ?_
        obtain ⟨v18, ev18, hs⟩ := bindS hs
        refine go_gI fl_RX11_132 ev18 dX11_cave_69 ?_
        obtain rfl := Option.some.inj hs
        obtain ⟨rfl, rfl⟩ := hk
        exact go_iret rfl dX11_cave_72
    · have hs := if_f c hs
      exact go_subL (L' := [none, none, none]) (by simp [subL, va_rf]) (oX11_cave_12 hd hs hk)
theorem oX11_cave {d : Nat} (hd : 111 ≤ d) {h : Hp} {x0 : Nat} {x1 : Int32} {y : (Int32 × Hp)} (hs : fX11_cave h x0 x1 = some y) : Call d mX11_cave [.ref x0, .int x1] h (some (.int y.1)) (y.2) := call_of (by decide +kernel) (Nat.le_of_ble_eq_true rfl) (show Go d mX11_cave 0 [some (.ref x0), some (.int x1), none] [] h _ _ from go_subL (by simp [subL]) (oX11_cave_0 hd hs ⟨rfl, rfl⟩))
abbrev kX11_fault (h : Hp) (rf : Option Value) (hf : Hp) : Int32 → Prop := fun y => rf = some (.int y) ∧ hf = h
noncomputable def fX11_fault_28 (h : Hp) (s0 : Int32) : Option Int32 :=
  some (s0)
theorem oX11_fault_28 {d : Nat} (hd : 0 ≤ d) {h : Hp} {s0 : Int32} {rf : Option Value} {hf : Hp} {x : Int32} (hs : fX11_fault_28 h s0 = some x) (hk : (kX11_fault h rf hf) x) : Go d mX11_fault 28 [none, none] [.int s0] h rf hf := by
  unfold fX11_fault_28 at hs
  obtain rfl := Option.some.inj hs
  obtain ⟨rfl, rfl⟩ := hk
  exact go_iret rfl dX11_fault_28
noncomputable def fX11_fault (h : Hp) (x0 : Nat) (x1 : Int32) : Option Int32 :=
  if x1 = 0 then (
    (gN h 11 x0 2).bind fun v3 =>
    (gI h 4 v3 5).bind fun v4 =>
    some (v4)) else (
    if x1 = (1 : Int32) then (
      (gN h 11 x0 2).bind fun v1 =>
      (gI h 4 v1 6).bind fun v2 =>
      fX11_fault_28 h v2) else (
      fX11_fault_28 h (-1 : Int32)))
theorem oX11_fault_0 {d : Nat} (hd : 0 ≤ d) {h : Hp} {x0 : Nat} {x1 : Int32} {rf : Option Value} {hf : Hp} {x : Int32} (hs : fX11_fault h x0 x1 = some x) (hk : (kX11_fault h rf hf) x) : Go d mX11_fault 0 [some (.ref x0), some (.int x1)] [] h rf hf := by
  unfold fX11_fault at hs
  refine go_iload_n (k4 := 1) rfl dX11_fault_0 ?_
  refine go_if_ne (tgt := 12) (by decide) dX11_fault_1 (fun c => ?_) (fun c => ?_)
  · have hs := if_f c hs
    refine go_iload_n (k4 := 1) rfl dX11_fault_12 ?_
    refine go_iconst (v := 1) (by decide) dX11_fault_13 ?_
    refine go_icmp_ne (tgt := 27) (by decide) dX11_fault_14 (fun c => ?_) (fun c => ?_)
    · have hs := if_f c hs
      refine go_iconst (v := -1) (by decide) dX11_fault_27 ?_
      exact go_subL (L' := [none, none]) (by simp [subL, va_rf]) (oX11_fault_28 hd hs hk)
    · have hs := if_t c hs
      refine go_aload_n (k4 := 0) rfl (Or.inr ⟨_, rfl⟩) dX11_fault_17 ?_
      obtain ⟨v1, ev1, hs⟩ := bindS hs
      refine go_gN fl_RX11_20 ev1 dX11_fault_18 ?_
      obtain ⟨v2, ev2, hs⟩ := bindS hs
      refine go_gI fl_RX11_135 ev2 dX11_fault_21 ?_
      refine go_goto (tgt := 28) (by decide) dX11_fault_24 ?_
      exact go_subL (L' := [none, none]) (by simp [subL, va_rf]) (oX11_fault_28 hd hs hk)
  · have hs := if_t c hs
    refine go_aload_n (k4 := 0) rfl (Or.inr ⟨_, rfl⟩) dX11_fault_4 ?_
    obtain ⟨v3, ev3, hs⟩ := bindS hs
    refine go_gN fl_RX11_20 ev3 dX11_fault_5 ?_
    obtain ⟨v4, ev4, hs⟩ := bindS hs
    refine go_gI fl_RX11_123 ev4 dX11_fault_8 ?_
    obtain rfl := Option.some.inj hs
    obtain ⟨rfl, rfl⟩ := hk
    exact go_iret rfl dX11_fault_11
theorem oX11_fault {d : Nat} (hd : 0 ≤ d) {h : Hp} {x0 : Nat} {x1 : Int32} {y : Int32} (hs : fX11_fault h x0 x1 = some y) : Call d mX11_fault [.ref x0, .int x1] h (some (.int y)) h := call_of (by decide +kernel) (Nat.le_of_ble_eq_true rfl) (show Go d mX11_fault 0 [some (.ref x0), some (.int x1)] [] h _ _ from go_subL (by simp [subL]) (oX11_fault_0 hd hs ⟨rfl, rfl⟩))
abbrev kX11_isPair (h : Hp) (rf : Option Value) (hf : Hp) : Int32 → Prop := fun y => rf = some (.int y) ∧ hf = h
noncomputable def fX11_isPair_20 (h : Hp) (s0 : Int32) : Option Int32 :=
  bl s0 (some (s0))
theorem oX11_isPair_20 {d : Nat} (hd : 0 ≤ d) {h : Hp} {s0 : Int32} {rf : Option Value} {hf : Hp} {x : Int32} (hs : fX11_isPair_20 h s0 = some x) (hk : (kX11_isPair h rf hf) x) : Go d mX11_isPair 20 [none, none] [.int s0] h rf hf := by
  unfold fX11_isPair_20 at hs
  obtain ⟨n1, n2, hs⟩ := bl_at hs
  obtain rfl := Option.some.inj hs
  obtain ⟨rfl, rfl⟩ := hk
  exact go_zret (ty := .boolean) rfl n1 dX11_isPair_20
noncomputable def fX11_isPair_19 (h : Hp)  : Option Int32 :=
  fX11_isPair_20 h (0 : Int32)
theorem oX11_isPair_19 {d : Nat} (hd : 0 ≤ d) {h : Hp} {rf : Option Value} {hf : Hp} {x : Int32} (hs : fX11_isPair_19 h  = some x) (hk : (kX11_isPair h rf hf) x) : Go d mX11_isPair 19 [none, none] [] h rf hf := by
  unfold fX11_isPair_19 at hs
  refine go_iconst (v := 0) (by decide) dX11_isPair_19 ?_
  exact go_subL (L' := [none, none]) (by simp [subL, va_rf]) (oX11_isPair_20 hd hs hk)
noncomputable def fX11_isPair (h : Hp) (x0 : Nat) (x1 : Int32) : Option Int32 :=
  if x1 < 0 then (
  fX11_isPair_19 h ) else (
    (gN h 11 x0 3).bind fun v1 =>
    (gI h 0 v1 0).bind fun v2 =>
    if v2 ≤ x1 then (
    fX11_isPair_19 h ) else (
      fX11_isPair_20 h (1 : Int32)))
theorem oX11_isPair_0 {d : Nat} (hd : 0 ≤ d) {h : Hp} {x0 : Nat} {x1 : Int32} {rf : Option Value} {hf : Hp} {x : Int32} (hs : fX11_isPair h x0 x1 = some x) (hk : (kX11_isPair h rf hf) x) : Go d mX11_isPair 0 [some (.ref x0), some (.int x1)] [] h rf hf := by
  unfold fX11_isPair at hs
  refine go_iload_n (k4 := 1) rfl dX11_isPair_0 ?_
  refine go_if_lt (tgt := 19) (by decide) dX11_isPair_1 (fun c => ?_) (fun c => ?_)
  · have hs := if_t c hs
    exact go_subL (L' := [none, none]) (by simp [subL, va_rf]) (oX11_isPair_19 hd hs hk)
  · have hs := if_f c hs
    refine go_iload_n (k4 := 1) rfl dX11_isPair_4 ?_
    refine go_aload_n (k4 := 0) rfl (Or.inr ⟨_, rfl⟩) dX11_isPair_5 ?_
    obtain ⟨v1, ev1, hs⟩ := bindS hs
    refine go_gN fl_RX11_29 ev1 dX11_isPair_6 ?_
    obtain ⟨v2, ev2, hs⟩ := bindS hs
    refine go_gI fl_RX11_181 ev2 dX11_isPair_9 ?_
    refine go_icmp_ge (tgt := 19) (by decide) dX11_isPair_12 (fun c => ?_) (fun c => ?_)
    · have hs := if_t c hs
      exact go_subL (L' := [none, none]) (by simp [subL, va_rf]) (oX11_isPair_19 hd hs hk)
    · have hs := if_f c hs
      refine go_iconst (v := 1) (by decide) dX11_isPair_15 ?_
      refine go_goto (tgt := 20) (by decide) dX11_isPair_16 ?_
      exact go_subL (L' := [none, none]) (by simp [subL, va_rf]) (oX11_isPair_20 hd hs hk)
theorem oX11_isPair {d : Nat} (hd : 0 ≤ d) {h : Hp} {x0 : Nat} {x1 : Int32} {y : Int32} (hs : fX11_isPair h x0 x1 = some y) : Call d mX11_isPair [.ref x0, .int x1] h (some (.int y)) h := call_of (by decide +kernel) (Nat.le_of_ble_eq_true rfl) (show Go d mX11_isPair 0 [some (.ref x0), some (.int x1)] [] h _ _ from go_subL (by simp [subL]) (oX11_isPair_0 hd hs ⟨rfl, rfl⟩))
abbrev kX11_digit (h : Hp) (rf : Option Value) (hf : Hp) : Int32 → Prop := fun y => rf = some (.int y) ∧ hf = h
noncomputable def fX11_digit_23 (h : Hp) (s0 : Int32) : Option Int32 :=
  some (s0)
theorem oX11_digit_23 {d : Nat} (hd : 0 ≤ d) {h : Hp} {s0 : Int32} {rf : Option Value} {hf : Hp} {x : Int32} (hs : fX11_digit_23 h s0 = some x) (hk : (kX11_digit h rf hf) x) : Go d mX11_digit 23 [none, none] [.int s0] h rf hf := by
  unfold fX11_digit_23 at hs
  obtain rfl := Option.some.inj hs
  obtain ⟨rfl, rfl⟩ := hk
  exact go_iret rfl dX11_digit_23
noncomputable def fX11_digit_9 (h : Hp)  : Option Int32 :=
  fX11_digit_23 h (0 : Int32)
theorem oX11_digit_9 {d : Nat} (hd : 0 ≤ d) {h : Hp} {rf : Option Value} {hf : Hp} {x : Int32} (hs : fX11_digit_9 h  = some x) (hk : (kX11_digit h rf hf) x) : Go d mX11_digit 9 [none, none] [] h rf hf := by
  unfold fX11_digit_9 at hs
  refine go_iconst (v := 0) (by decide) dX11_digit_9 ?_
  refine go_goto (tgt := 23) (by decide) dX11_digit_10 ?_
  exact go_subL (L' := [none, none]) (by simp [subL, va_rf]) (oX11_digit_23 hd hs hk)
noncomputable def fX11_digit (h : Hp) (x0 : Int32) (x1 : Int32) : Option Int32 :=
  if x1 < 0 then (
  fX11_digit_9 h ) else (
    if x1 < (4 : Int32) then (
      (tT 1 x1).bind fun v1 =>
      (dv x0 v1).bind fun v2 =>
      (rm v2 (10 : Int32)).bind fun v3 =>
      fX11_digit_23 h v3) else (
    fX11_digit_9 h ))
theorem oX11_digit_0 {d : Nat} (hd : 0 ≤ d) {h : Hp} {x0 : Int32} {x1 : Int32} {rf : Option Value} {hf : Hp} {x : Int32} (hs : fX11_digit h x0 x1 = some x) (hk : (kX11_digit h rf hf) x) : Go d mX11_digit 0 [some (.int x0), some (.int x1)] [] h rf hf := by
  unfold fX11_digit at hs
  refine go_iload_n (k4 := 1) rfl dX11_digit_0 ?_
  refine go_if_lt (tgt := 9) (by decide) dX11_digit_1 (fun c => ?_) (fun c => ?_)
  · have hs := if_t c hs
    exact go_subL (L' := [none, none]) (by simp [subL, va_rf]) (oX11_digit_9 hd hs hk)
  · have hs := if_f c hs
    refine go_iload_n (k4 := 1) rfl dX11_digit_4 ?_
    refine go_iconst (v := 4) (by decide) dX11_digit_5 ?_
    refine go_icmp_lt (tgt := 13) (by decide) dX11_digit_6 (fun c => ?_) (fun c => ?_)
    · have hs := if_t c hs
      refine go_iload_n (k4 := 0) rfl dX11_digit_13 ?_
      refine go_stat (j := 1) rfl lz_RX11_422.1 lz_RX11_422.2.1 lz_RX11_422.2.2 dX11_digit_14 ?_
      refine go_iload_n (k4 := 1) rfl dX11_digit_17 ?_
      obtain ⟨v1, ev1, hs⟩ := bindS hs
      refine go_tT (by decide) ev1 dX11_digit_18 ?_
      obtain ⟨v2, ev2, hs⟩ := bindS hs
      refine go_dv ev2 dX11_digit_19 ?_
      refine go_bipush (v := 10) (by decide) dX11_digit_20 ?_
      obtain ⟨v3, ev3, hs⟩ := bindS hs
      refine go_rm ev3 dX11_digit_22 ?_
      exact go_subL (L' := [none, none]) (by simp [subL, va_rf]) (oX11_digit_23 hd hs hk)
    · have hs := if_f c hs
      exact go_subL (L' := [none, none]) (by simp [subL, va_rf]) (oX11_digit_9 hd hs hk)
theorem oX11_digit {d : Nat} (hd : 0 ≤ d) {h : Hp} {x0 : Int32} {x1 : Int32} {y : Int32} (hs : fX11_digit h x0 x1 = some y) : Call d mX11_digit [.int x0, .int x1] h (some (.int y)) h := call_of (by decide +kernel) (Nat.le_of_ble_eq_true rfl) (show Go d mX11_digit 0 [some (.int x0), some (.int x1)] [] h _ _ from go_subL (by simp [subL]) (oX11_digit_0 hd hs ⟨rfl, rfl⟩))
abbrev kX11_pair (h : Hp) (rf : Option Value) (hf : Hp) : Int32 → Prop := fun y => rf = some (.int y) ∧ hf = h
noncomputable def fX11_pair (h : Hp) (x0 : Nat) (x1 : Int32) (x2 : Int32) : Option Int32 :=
  gO h 11 x0 (
  (fX11_isPair h x0 x1).bind fun y1 =>
  if y1 = 0 then (
    some ((-2 : Int32))) else (
    if x2 = 0 then (
      (gN h 11 x0 4).bind fun v3 =>
      (gI h 8 v3 0).bind fun v4 =>
      (fX11_digit h v4 x1).bind fun y5 =>
      some (y5)) else (
  if x2 = 1 then (
      (gN h 11 x0 4).bind fun v6 =>
      (gI h 8 v6 1).bind fun v7 =>
      (fX11_digit h v7 x1).bind fun y8 =>
      some (y8)) else (
  if x2 = 2 then (
      (gN h 11 x0 4).bind fun v9 =>
      (gI h 8 v9 2).bind fun v10 =>
      (fX11_dropsOf h v10 x1).bind fun y11 =>
      some (y11)) else (
  if x2 = 3 then (
      (gN h 11 x0 3).bind fun v12 =>
      (gI h 0 v12 4).bind fun v13 =>
      (fX11_digit h v13 x1).bind fun y14 =>
      some (y14)) else (
      some ((-2 : Int32))))))))
theorem oX11_pair_0 {d : Nat} (hd : 1 ≤ d) {h : Hp} {x0 : Nat} {x1 : Int32} {x2 : Int32} {rf : Option Value} {hf : Hp} {x : Int32} (hs : fX11_pair h x0 x1 x2 = some x) (hk : (kX11_pair h rf hf) x) : Go d mX11_pair 0 [some (.ref x0), some (.int x1), some (.int x2)] [] h rf hf := by
  unfold fX11_pair at hs
  refine go_aload_n (k4 := 0) rfl (Or.inr ⟨_, rfl⟩) dX11_pair_0 ?_
  refine go_iload_n (k4 := 1) rfl dX11_pair_1 ?_
  obtain ⟨g2, hs⟩ := gO_at hs
  obtain ⟨y1, ey1, hs⟩ := bindS hs
  refine go_V1 (As := [.int x1]) (st := []) g2 rfl rfl (oX11_isPair (d := d - 1) (by omega) ey1) (by omega) mb_X11_isPair lm_RX11_138 mi_X11_isPair (Nat.le_of_ble_eq_true rfl) rfl dX11_pair_2 ?_
  refine go_if_ne (tgt := 11) (by decide) dX11_pair_5 (fun c => ?_) (fun c => ?_)
  · have hs := if_f c hs
    refine go_iload_n (k4 := 2) rfl dX11_pair_11 ?_
    by_cases c0 : x2 = 0
    · have hs := if_t c0 hs
      refine go_tableIn (off := 32) (tgt := 44) (by rw [c0]; decide) (by rw [c0]; decide) (by rw [c0]; rfl) (by decide) dX11_pair_12 ?_
      refine go_aload_n (k4 := 0) rfl (Or.inr ⟨_, rfl⟩) dX11_pair_44 ?_
      obtain ⟨v3, ev3, hs⟩ := bindS hs
      refine go_gN fl_RX11_36 ev3 dX11_pair_45 ?_
      obtain ⟨v4, ev4, hs⟩ := bindS hs
      refine go_gI fl_RX11_142 ev4 dX11_pair_48 ?_
      refine go_iload_n (k4 := 1) rfl dX11_pair_51 ?_
      obtain ⟨y5, ey5, hs⟩ := bindS hs
      refine go_S1 (As := [.int v4, .int x1]) (st := []) (oX11_digit (d := d - 1) (by omega) ey5) (by omega) mb_X11_digit lm_RX11_145 ms_X11_digit (Nat.le_of_ble_eq_true rfl) rfl dX11_pair_52 ?_
      obtain rfl := Option.some.inj hs
      obtain ⟨rfl, rfl⟩ := hk
      exact go_iret rfl dX11_pair_55
    · have hs := if_f c0 hs
      by_cases c1 : x2 = 1
      · have hs := if_t c1 hs
        refine go_tableIn (off := 44) (tgt := 56) (by rw [c1]; decide) (by rw [c1]; decide) (by rw [c1]; rfl) (by decide) dX11_pair_12 ?_
        refine go_aload_n (k4 := 0) rfl (Or.inr ⟨_, rfl⟩) dX11_pair_56 ?_
        obtain ⟨v6, ev6, hs⟩ := bindS hs
        refine go_gN fl_RX11_36 ev6 dX11_pair_57 ?_
        obtain ⟨v7, ev7, hs⟩ := bindS hs
        refine go_gI fl_RX11_149 ev7 dX11_pair_60 ?_
        refine go_iload_n (k4 := 1) rfl dX11_pair_63 ?_
        obtain ⟨y8, ey8, hs⟩ := bindS hs
        refine go_S1 (As := [.int v7, .int x1]) (st := []) (oX11_digit (d := d - 1) (by omega) ey8) (by omega) mb_X11_digit lm_RX11_145 ms_X11_digit (Nat.le_of_ble_eq_true rfl) rfl dX11_pair_64 ?_
        obtain rfl := Option.some.inj hs
        obtain ⟨rfl, rfl⟩ := hk
        exact go_iret rfl dX11_pair_67
      · have hs := if_f c1 hs
        by_cases c2 : x2 = 2
        · have hs := if_t c2 hs
          refine go_tableIn (off := 56) (tgt := 68) (by rw [c2]; decide) (by rw [c2]; decide) (by rw [c2]; rfl) (by decide) dX11_pair_12 ?_
          refine go_aload_n (k4 := 0) rfl (Or.inr ⟨_, rfl⟩) dX11_pair_68 ?_
          obtain ⟨v9, ev9, hs⟩ := bindS hs
          refine go_gN fl_RX11_36 ev9 dX11_pair_69 ?_
          obtain ⟨v10, ev10, hs⟩ := bindS hs
          refine go_gI fl_RX11_152 ev10 dX11_pair_72 ?_
          refine go_iload_n (k4 := 1) rfl dX11_pair_75 ?_
          obtain ⟨y11, ey11, hs⟩ := bindS hs
          refine go_S1 (As := [.int v10, .int x1]) (st := []) (oX11_dropsOf (d := d - 1) (by omega) ey11) (by omega) mb_X11_dropsOf lm_RX11_155 ms_X11_dropsOf (Nat.le_of_ble_eq_true rfl) rfl dX11_pair_76 ?_
          obtain rfl := Option.some.inj hs
          obtain ⟨rfl, rfl⟩ := hk
          exact go_iret rfl dX11_pair_79
        · have hs := if_f c2 hs
          by_cases c3 : x2 = 3
          · have hs := if_t c3 hs
            refine go_tableIn (off := 68) (tgt := 80) (by rw [c3]; decide) (by rw [c3]; decide) (by rw [c3]; rfl) (by decide) dX11_pair_12 ?_
            refine go_aload_n (k4 := 0) rfl (Or.inr ⟨_, rfl⟩) dX11_pair_80 ?_
            obtain ⟨v12, ev12, hs⟩ := bindS hs
            refine go_gN fl_RX11_29 ev12 dX11_pair_81 ?_
            obtain ⟨v13, ev13, hs⟩ := bindS hs
            refine go_gI fl_RX11_158 ev13 dX11_pair_84 ?_
            refine go_iload_n (k4 := 1) rfl dX11_pair_87 ?_
            obtain ⟨y14, ey14, hs⟩ := bindS hs
            refine go_S1 (As := [.int v13, .int x1]) (st := []) (oX11_digit (d := d - 1) (by omega) ey14) (by omega) mb_X11_digit lm_RX11_145 ms_X11_digit (Nat.le_of_ble_eq_true rfl) rfl dX11_pair_88 ?_
            obtain rfl := Option.some.inj hs
            obtain ⟨rfl, rfl⟩ := hk
            exact go_iret rfl dX11_pair_91
          · have hs := if_f c3 hs
            refine go_tableOut (tgt := 92) (tab_out (0) (3) 3 (by decide) (by decide) (by decide) (fun i hi => by
              match i, hi with
              | 0, _ => rw [show Int32.ofInt ((0 : Int) + ((0 : Nat) : Int)) = (0 : Int32) by decide]; exact c0
              | 1, _ => rw [show Int32.ofInt ((0 : Int) + ((1 : Nat) : Int)) = (1 : Int32) by decide]; exact c1
              | 2, _ => rw [show Int32.ofInt ((0 : Int) + ((2 : Nat) : Int)) = (2 : Int32) by decide]; exact c2
              | 3, _ => rw [show Int32.ofInt ((0 : Int) + ((3 : Nat) : Int)) = (3 : Int32) by decide]; exact c3
              | k + 4, hi => omega)) (by decide) dX11_pair_12 ?_
            refine go_bipush (v := -2) (by decide) dX11_pair_92 ?_
            obtain rfl := Option.some.inj hs
            obtain ⟨rfl, rfl⟩ := hk
            exact go_iret rfl dX11_pair_94
  · have hs := if_t c hs
    refine go_bipush (v := -2) (by decide) dX11_pair_8 ?_
    obtain rfl := Option.some.inj hs
    obtain ⟨rfl, rfl⟩ := hk
    exact go_iret rfl dX11_pair_10
theorem oX11_pair {d : Nat} (hd : 1 ≤ d) {h : Hp} {x0 : Nat} {x1 : Int32} {x2 : Int32} {y : Int32} (hs : fX11_pair h x0 x1 x2 = some y) : Call d mX11_pair [.ref x0, .int x1, .int x2] h (some (.int y)) h := call_of (by decide +kernel) (Nat.le_of_ble_eq_true rfl) (show Go d mX11_pair 0 [some (.ref x0), some (.int x1), some (.int x2)] [] h _ _ from go_subL (by simp [subL]) (oX11_pair_0 hd hs ⟨rfl, rfl⟩))
abbrev kX11_isDryness (h : Hp) (rf : Option Value) (hf : Hp) : Int32 → Prop := fun y => rf = some (.int y) ∧ hf = h
noncomputable def fX11_isDryness_14 (h : Hp) (s0 : Int32) : Option Int32 :=
  bl s0 (some (s0))
theorem oX11_isDryness_14 {d : Nat} (hd : 0 ≤ d) {h : Hp} {s0 : Int32} {rf : Option Value} {hf : Hp} {x : Int32} (hs : fX11_isDryness_14 h s0 = some x) (hk : (kX11_isDryness h rf hf) x) : Go d mX11_isDryness 14 [none] [.int s0] h rf hf := by
  unfold fX11_isDryness_14 at hs
  obtain ⟨n1, n2, hs⟩ := bl_at hs
  obtain rfl := Option.some.inj hs
  obtain ⟨rfl, rfl⟩ := hk
  exact go_zret (ty := .boolean) rfl n1 dX11_isDryness_14
noncomputable def fX11_isDryness_9 (h : Hp)  : Option Int32 :=
  fX11_isDryness_14 h (1 : Int32)
theorem oX11_isDryness_9 {d : Nat} (hd : 0 ≤ d) {h : Hp} {rf : Option Value} {hf : Hp} {x : Int32} (hs : fX11_isDryness_9 h  = some x) (hk : (kX11_isDryness h rf hf) x) : Go d mX11_isDryness 9 [none] [] h rf hf := by
  unfold fX11_isDryness_9 at hs
  refine go_iconst (v := 1) (by decide) dX11_isDryness_9 ?_
  refine go_goto (tgt := 14) (by decide) dX11_isDryness_10 ?_
  exact go_subL (L' := [none]) (by simp [subL, va_rf]) (oX11_isDryness_14 hd hs hk)
noncomputable def fX11_isDryness (h : Hp) (x0 : Int32) : Option Int32 :=
  if x0 = 0 then (
  fX11_isDryness_9 h ) else (
    if x0 = (1 : Int32) then (
    fX11_isDryness_9 h ) else (
      fX11_isDryness_14 h (0 : Int32)))
theorem oX11_isDryness_0 {d : Nat} (hd : 0 ≤ d) {h : Hp} {x0 : Int32} {rf : Option Value} {hf : Hp} {x : Int32} (hs : fX11_isDryness h x0 = some x) (hk : (kX11_isDryness h rf hf) x) : Go d mX11_isDryness 0 [some (.int x0)] [] h rf hf := by
  unfold fX11_isDryness at hs
  refine go_iload_n (k4 := 0) rfl dX11_isDryness_0 ?_
  refine go_if_eq (tgt := 9) (by decide) dX11_isDryness_1 (fun c => ?_) (fun c => ?_)
  · have hs := if_t c hs
    exact go_subL (L' := [none]) (by simp [subL, va_rf]) (oX11_isDryness_9 hd hs hk)
  · have hs := if_f c hs
    refine go_iload_n (k4 := 0) rfl dX11_isDryness_4 ?_
    refine go_iconst (v := 1) (by decide) dX11_isDryness_5 ?_
    refine go_icmp_ne (tgt := 13) (by decide) dX11_isDryness_6 (fun c => ?_) (fun c => ?_)
    · have hs := if_f c hs
      refine go_iconst (v := 0) (by decide) dX11_isDryness_13 ?_
      exact go_subL (L' := [none]) (by simp [subL, va_rf]) (oX11_isDryness_14 hd hs hk)
    · have hs := if_t c hs
      exact go_subL (L' := [none]) (by simp [subL, va_rf]) (oX11_isDryness_9 hd hs hk)
theorem oX11_isDryness {d : Nat} (hd : 0 ≤ d) {h : Hp} {x0 : Int32} {y : Int32} (hs : fX11_isDryness h x0 = some y) : Call d mX11_isDryness [.int x0] h (some (.int y)) h := call_of (by decide +kernel) (Nat.le_of_ble_eq_true rfl) (show Go d mX11_isDryness 0 [some (.int x0)] [] h _ _ from go_subL (by simp [subL]) (oX11_isDryness_0 hd hs ⟨rfl, rfl⟩))
abbrev kJ7_fill_031fb (rf : Option Value) (hf : Hp) : Hp → Prop := fun y => rf = none ∧ hf = y
abbrev pJ7_fill_031fb_5 (d : Nat) (x0 : Nat) (x1 : Int32) (x3 : Int32) (rf : Option Value) (hf : Hp) : (Int32 × Hp) → Prop := fun s => Go d mJ7_fill_031fb 5 [some (.ref x0), some (.int x1), some (.int s.1), some (.int x3)] [] s.2 rf hf
noncomputable def fJ7_fill_031fb_5b (h : Hp) (x0 : Nat) (x1 : Int32) (x3 : Int32) (x2 : Int32) : Option ((Int32 × Hp) ⊕ Hp) :=
  if x3 ≤ x2 then (
    some (.inr h)) else (
    (wI 1 h x0 x2 x1).bind fun h2 =>
    some (.inl ((x2 + Int32.ofInt 1), h2)))
noncomputable def fJ7_fill_031fb_5 (h : Hp) (x0 : Nat) (x1 : Int32) (x2 : Int32) (x3 : Int32) : Option Hp := lpw (σ := (Int32 × Hp)) (fun s => fJ7_fill_031fb_5b s.2 x0 x1 x3 s.1) (x2, h)
theorem oJ7_fill_031fb_5b {d : Nat} (hd : 0 ≤ d) {h : Hp} {x0 : Nat} {x1 : Int32} {x2 : Int32} {x3 : Int32} {rf : Option Value} {hf : Hp} {x : ((Int32 × Hp) ⊕ Hp)} (hs : fJ7_fill_031fb_5b h x0 x1 x3 x2 = some x) (hk : (Kx (pJ7_fill_031fb_5 d x0 x1 x3 rf hf) (kJ7_fill_031fb rf hf)) x) : Go d mJ7_fill_031fb 5 [some (.ref x0), some (.int x1), some (.int x2), some (.int x3)] [] h rf hf := by
  unfold fJ7_fill_031fb_5b at hs
  refine go_iload_n (k4 := 2) rfl dJ7_fill_031fb_5 ?_
  refine go_iload_n (k4 := 3) rfl dJ7_fill_031fb_6 ?_
  refine go_icmp_ge (tgt := 20) (by decide) dJ7_fill_031fb_7 (fun c => ?_) (fun c => ?_)
  · have hs := if_t c hs
    obtain rfl := Option.some.inj hs
    obtain ⟨rfl, rfl⟩ := hk
    exact go_vret rfl dJ7_fill_031fb_20
  · have hs := if_f c hs
    refine go_aload_n (k4 := 0) rfl (Or.inr ⟨_, rfl⟩) dJ7_fill_031fb_10 ?_
    refine go_iload_n (k4 := 2) rfl dJ7_fill_031fb_11 ?_
    refine go_iload_n (k4 := 1) rfl dJ7_fill_031fb_12 ?_
    obtain ⟨h2, eh2, hs⟩ := bindS hs
    refine go_wIb eh2 dJ7_fill_031fb_13 ?_
    refine go_iinc (L' := [some (.ref x0), some (.int x1), some (.int (x2 + Int32.ofInt 1)), some (.int x3)]) rfl (by decide) rfl rfl dJ7_fill_031fb_14 ?_
    refine go_goto (tgt := 5) (by decide) dJ7_fill_031fb_17 ?_
    obtain rfl := Option.some.inj hs
    exact go_subL (L' := [some (.ref x0), some (.int x1), some (.int (x2 + Int32.ofInt 1)), some (.int x3)]) (by simp [subL, va_rf]) hk
theorem oJ7_fill_031fb_5 {d : Nat} (hd : 0 ≤ d) {h : Hp} {x0 : Nat} {x1 : Int32} {x2 : Int32} {x3 : Int32} {rf : Option Value} {hf : Hp} {x : Hp} (hs : fJ7_fill_031fb_5 h x0 x1 x2 x3 = some x) (hk : (kJ7_fill_031fb rf hf) x) : Go d mJ7_fill_031fb 5 [some (.ref x0), some (.int x1), some (.int x2), some (.int x3)] [] h rf hf := by
  unfold fJ7_fill_031fb_5 at hs
  exact lpw_go (P := pJ7_fill_031fb_5 d x0 x1 x3 rf hf) (fun s x hs hk => oJ7_fill_031fb_5b hd hs hk) (x2, h) x hs hk
noncomputable def fJ7_fill_031fb (h : Hp) (x0 : Nat) (x1 : Int32) : Option Hp :=
  (aL h x0).bind fun v1 =>
  fJ7_fill_031fb_5 h x0 x1 (0 : Int32) v1
theorem oJ7_fill_031fb_0 {d : Nat} (hd : 0 ≤ d) {h : Hp} {x0 : Nat} {x1 : Int32} {rf : Option Value} {hf : Hp} {x : Hp} (hs : fJ7_fill_031fb h x0 x1 = some x) (hk : (kJ7_fill_031fb rf hf) x) : Go d mJ7_fill_031fb 0 [some (.ref x0), some (.int x1), none, none] [] h rf hf := by
  unfold fJ7_fill_031fb at hs
  refine go_iconst (v := 0) (by decide) dJ7_fill_031fb_0 ?_
  refine go_istore_n (k4 := 2) (L' := [some (.ref x0), some (.int x1), some (.int (0 : Int32)), none]) (by decide) rfl dJ7_fill_031fb_1 ?_
  refine go_aload_n (k4 := 0) rfl (Or.inr ⟨_, rfl⟩) dJ7_fill_031fb_2 ?_
  obtain ⟨v1, ev1, hs⟩ := bindS hs
  refine go_aL ev1 dJ7_fill_031fb_3 ?_
  refine go_istore_n (k4 := 3) (L' := [some (.ref x0), some (.int x1), some (.int (0 : Int32)), some (.int v1)]) (by decide) rfl dJ7_fill_031fb_4 ?_
  exact go_subL (L' := [some (.ref x0), some (.int x1), some (.int (0 : Int32)), some (.int v1)]) (by simp [subL, va_rf]) (oJ7_fill_031fb_5 hd hs hk)
theorem oJ7_fill_031fb {d : Nat} (hd : 0 ≤ d) {h : Hp} {x0 : Nat} {x1 : Int32} {y : Hp} (hs : fJ7_fill_031fb h x0 x1 = some y) : Call d mJ7_fill_031fb [.ref x0, .int x1] h (none) y := call_of (by decide +kernel) (Nat.le_of_ble_eq_true rfl) (show Go d mJ7_fill_031fb 0 [some (.ref x0), some (.int x1), none, none] [] h _ _ from go_subL (by simp [subL]) (oJ7_fill_031fb_0 hd hs ⟨rfl, rfl⟩))
abbrev kX1_tune (rf : Option Value) (hf : Hp) : Hp → Prop := fun y => rf = none ∧ hf = y
noncomputable def fX1_tune_60 (h : Hp) (x0 : Nat) (x1 : Nat) (x2 : Int32) : Option Hp :=
  (sV h 1 x0 5 (.ref x1)).bind fun h6 =>
  (sV h6 1 x0 6 (.int x2)).bind fun h7 =>
  some (h7)
theorem oX1_tune_60 {d : Nat} (hd : 1 ≤ d) {h : Hp} {x0 : Nat} {x1 : Nat} {x2 : Int32} {rf : Option Value} {hf : Hp} {x : Hp} (hs : fX1_tune_60 h x0 x1 x2 = some x) (hk : (kX1_tune rf hf) x) : Go d mX1_tune 60 [some (.ref x0), some (.ref x1), some (.int x2)] [] h rf hf := by
  unfold fX1_tune_60 at hs
  refine go_aload_n (k4 := 0) rfl (Or.inr ⟨_, rfl⟩) dX1_tune_60 ?_
  refine go_aload_n (k4 := 1) rfl (Or.inr ⟨_, rfl⟩) dX1_tune_61 ?_
  obtain ⟨h6, eh6, hs⟩ := bindS hs
  refine go_sV fw_RX1_34 eh6 rfl rfl dX1_tune_62 ?_
  refine go_aload_n (k4 := 0) rfl (Or.inr ⟨_, rfl⟩) dX1_tune_65 ?_
  refine go_iload_n (k4 := 2) rfl dX1_tune_66 ?_
  obtain ⟨h7, eh7, hs⟩ := bindS hs
  refine go_sV fw_RX1_30 eh7 rfl rfl dX1_tune_67 ?_
  obtain rfl := Option.some.inj hs
  obtain ⟨rfl, rfl⟩ := hk
  exact go_vret rfl dX1_tune_70
noncomputable def fX1_tune_42 (h : Hp) (x0 : Nat) (x1 : Nat) (x2 : Int32) : Option Hp :=
  (gN h 1 x0 5).bind fun v3 =>
  (gR h 0 v3 7).bind fun v4 =>
  match v4 with
  | none => (
  fX1_tune_60 h x0 x1 x2)
  | some n5 => (
    (gN h 1 x0 2).bind fun v8 =>
    (fJ7_fill_031fb h v8 (0 : Int32)).bind fun y9 =>
    fX1_tune_60 y9 x0 x1 x2)
theorem oX1_tune_42 {d : Nat} (hd : 1 ≤ d) {h : Hp} {x0 : Nat} {x1 : Nat} {x2 : Int32} {rf : Option Value} {hf : Hp} {x : Hp} (hs : fX1_tune_42 h x0 x1 x2 = some x) (hk : (kX1_tune rf hf) x) : Go d mX1_tune 42 [some (.ref x0), some (.ref x1), some (.int x2)] [] h rf hf := by
  unfold fX1_tune_42 at hs
  refine go_aload_n (k4 := 0) rfl (Or.inr ⟨_, rfl⟩) dX1_tune_42 ?_
  obtain ⟨v3, ev3, hs⟩ := bindS hs
  refine go_gN fl_RX1_34 ev3 dX1_tune_43 ?_
  obtain ⟨v4, ev4, hs⟩ := bindS hs
  refine go_gR fl_RX1_50 ev4 dX1_tune_46 ?_
  cases v4 with
  | none =>
    dsimp only at hs
    refine go_ifnull (o := none) (tgt := 60) (by decide) dX1_tune_49 (fun _ => ?_) (fun c => absurd rfl c)
    exact go_subL (L' := [some (.ref x0), some (.ref x1), some (.int x2)]) (by simp [subL, va_rf]) (oX1_tune_60 hd hs hk)
  | some n5 =>
    dsimp only at hs
    refine go_ifnull (o := some n5) (tgt := 60) (by decide) dX1_tune_49 (fun c => by cases c) (fun _ => ?_)
    refine go_aload_n (k4 := 0) rfl (Or.inr ⟨_, rfl⟩) dX1_tune_52 ?_
    obtain ⟨v8, ev8, hs⟩ := bindS hs
    refine go_gN fl_RX1_20 ev8 dX1_tune_53 ?_
    refine go_iconst (v := 0) (by decide) dX1_tune_56 ?_
    obtain ⟨y9, ey9, hs⟩ := bindS hs
    refine go_S0 (As := [.ref v8, .int (0 : Int32)]) (st := []) (oJ7_fill_031fb (d := d - 1) (by omega) ey9) (by omega) mb_J7_fill_031fb lm_RX1_44 ms_J7_fill_031fb (Nat.le_of_ble_eq_true rfl) rfl dX1_tune_57 ?_
    exact go_subL (L' := [some (.ref x0), some (.ref x1), some (.int x2)]) (by simp [subL, va_rf]) (oX1_tune_60 hd hs hk)
noncomputable def fX1_tune_26 (h : Hp) (x0 : Nat) (x1 : Nat) (x2 : Int32) : Option Hp :=
  (gN h 1 x0 5).bind fun v2 =>
  gH2 (some v2) (some x1) (if (some v2) = (some x1) then (
    (gI h 1 x0 6).bind fun v10 =>
    if v10 = x2 then (
    fX1_tune_60 h x0 x1 x2) else (
    fX1_tune_42 h x0 x1 x2)) else (
  fX1_tune_42 h x0 x1 x2))
theorem oX1_tune_26 {d : Nat} (hd : 1 ≤ d) {h : Hp} {x0 : Nat} {x1 : Nat} {x2 : Int32} {rf : Option Value} {hf : Hp} {x : Hp} (hs : fX1_tune_26 h x0 x1 x2 = some x) (hk : (kX1_tune rf hf) x) : Go d mX1_tune 26 [some (.ref x0), some (.ref x1), some (.int x2)] [] h rf hf := by
  unfold fX1_tune_26 at hs
  refine go_aload_n (k4 := 0) rfl (Or.inr ⟨_, rfl⟩) dX1_tune_26 ?_
  obtain ⟨v2, ev2, hs⟩ := bindS hs
  refine go_gN fl_RX1_34 ev2 dX1_tune_27 ?_
  refine go_aload_n (k4 := 1) rfl (Or.inr ⟨_, rfl⟩) dX1_tune_30 ?_
  obtain ⟨g11, g11b, hs⟩ := gH2_at hs
  refine go_acmp_ne (a := (some v2)) (b := (some x1)) (tgt := 42) g11 g11b (by decide) dX1_tune_31 (fun c => ?_) (fun c => ?_)
  · have hs := if_f c hs
    exact go_subL (L' := [some (.ref x0), some (.ref x1), some (.int x2)]) (by simp [subL, va_rf]) (oX1_tune_42 hd hs hk)
  · have hs := if_t c hs
    refine go_aload_n (k4 := 0) rfl (Or.inr ⟨_, rfl⟩) dX1_tune_34 ?_
    obtain ⟨v10, ev10, hs⟩ := bindS hs
    refine go_gI fl_RX1_30 ev10 dX1_tune_35 ?_
    refine go_iload_n (k4 := 2) rfl dX1_tune_38 ?_
    refine go_icmp_eq (tgt := 60) (by decide) dX1_tune_39 (fun c => ?_) (fun c => ?_)
    · have hs := if_t c hs
      exact go_subL (L' := [some (.ref x0), some (.ref x1), some (.int x2)]) (by simp [subL, va_rf]) (oX1_tune_60 hd hs hk)
    · have hs := if_f c hs
      exact go_subL (L' := [some (.ref x0), some (.ref x1), some (.int x2)]) (by simp [subL, va_rf]) (oX1_tune_42 hd hs hk)
noncomputable def fX1_tune (h : Hp) (x0 : Nat) (x1 : Nat) (x2 : Int32) : Option Hp :=
  (gN h 1 x0 5).bind fun v1 =>
  gH2 (some v1) (some x1) (if (some v1) = (some x1) then (
  fX1_tune_26 h x0 x1 x2) else (
    (gN h 1 x0 5).bind fun v12 =>
    (gR h 0 v12 8).bind fun v13 =>
    match v13 with
    | none => (
    fX1_tune_26 h x0 x1 x2)
    | some n14 => (
      (gN h 1 x0 3).bind fun v15 =>
      (fJ7_fill_031fb h v15 (0 : Int32)).bind fun y16 =>
      fX1_tune_26 y16 x0 x1 x2)))
theorem oX1_tune_0 {d : Nat} (hd : 1 ≤ d) {h : Hp} {x0 : Nat} {x1 : Nat} {x2 : Int32} {rf : Option Value} {hf : Hp} {x : Hp} (hs : fX1_tune h x0 x1 x2 = some x) (hk : (kX1_tune rf hf) x) : Go d mX1_tune 0 [some (.ref x0), some (.ref x1), some (.int x2)] [] h rf hf := by
  unfold fX1_tune at hs
  refine go_aload_n (k4 := 0) rfl (Or.inr ⟨_, rfl⟩) dX1_tune_0 ?_
  obtain ⟨v1, ev1, hs⟩ := bindS hs
  refine go_gN fl_RX1_34 ev1 dX1_tune_1 ?_
  refine go_aload_n (k4 := 1) rfl (Or.inr ⟨_, rfl⟩) dX1_tune_4 ?_
  obtain ⟨g17, g17b, hs⟩ := gH2_at hs
  refine go_acmp_eq (a := (some v1)) (b := (some x1)) (tgt := 26) g17 g17b (by decide) dX1_tune_5 (fun c => ?_) (fun c => ?_)
  · have hs := if_t c hs
    exact go_subL (L' := [some (.ref x0), some (.ref x1), some (.int x2)]) (by simp [subL, va_rf]) (oX1_tune_26 hd hs hk)
  · have hs := if_f c hs
    refine go_aload_n (k4 := 0) rfl (Or.inr ⟨_, rfl⟩) dX1_tune_8 ?_
    obtain ⟨v12, ev12, hs⟩ := bindS hs
    refine go_gN fl_RX1_34 ev12 dX1_tune_9 ?_
    obtain ⟨v13, ev13, hs⟩ := bindS hs
    refine go_gR fl_RX1_38 ev13 dX1_tune_12 ?_
    cases v13 with
    | none =>
      dsimp only at hs
      refine go_ifnull (o := none) (tgt := 26) (by decide) dX1_tune_15 (fun _ => ?_) (fun c => absurd rfl c)
      exact go_subL (L' := [some (.ref x0), some (.ref x1), some (.int x2)]) (by simp [subL, va_rf]) (oX1_tune_26 hd hs hk)
    | some n14 =>
      dsimp only at hs
      refine go_ifnull (o := some n14) (tgt := 26) (by decide) dX1_tune_15 (fun c => by cases c) (fun _ => ?_)
      refine go_aload_n (k4 := 0) rfl (Or.inr ⟨_, rfl⟩) dX1_tune_18 ?_
      obtain ⟨v15, ev15, hs⟩ := bindS hs
      refine go_gN fl_RX1_24 ev15 dX1_tune_19 ?_
      refine go_iconst (v := 0) (by decide) dX1_tune_22 ?_
      obtain ⟨y16, ey16, hs⟩ := bindS hs
      refine go_S0 (As := [.ref v15, .int (0 : Int32)]) (st := []) (oJ7_fill_031fb (d := d - 1) (by omega) ey16) (by omega) mb_J7_fill_031fb lm_RX1_44 ms_J7_fill_031fb (Nat.le_of_ble_eq_true rfl) rfl dX1_tune_23 ?_
      exact go_subL (L' := [some (.ref x0), some (.ref x1), some (.int x2)]) (by simp [subL, va_rf]) (oX1_tune_26 hd hs hk)
theorem oX1_tune {d : Nat} (hd : 1 ≤ d) {h : Hp} {x0 : Nat} {x1 : Nat} {x2 : Int32} {y : Hp} (hs : fX1_tune h x0 x1 x2 = some y) : Call d mX1_tune [.ref x0, .ref x1, .int x2] h (none) y := call_of (by decide +kernel) (Nat.le_of_ble_eq_true rfl) (show Go d mX1_tune 0 [some (.ref x0), some (.ref x1), some (.int x2)] [] h _ _ from go_subL (by simp [subL]) (oX1_tune_0 hd hs ⟨rfl, rfl⟩))
abbrev kX11_tuned (rf : Option Value) (hf : Hp) : (Nat × Hp) → Prop := fun y => rf = some (.ref y.1) ∧ hf = y.2
noncomputable def fX11_tuned (h : Hp) (x0 : Nat) : Option (Nat × Hp) :=
  (gN h 11 x0 11).bind fun v1 =>
  (gN h 11 x0 3).bind fun v2 =>
  (gN h 11 x0 4).bind fun v3 =>
  (gI h 8 v3 1).bind fun v4 =>
  gO h 1 v1 (
  (fX1_tune h v1 v2 v4).bind fun y5 =>
  (gN y5 11 x0 11).bind fun v7 =>
  some ((v7, y5)))
theorem oX11_tuned_0 {d : Nat} (hd : 2 ≤ d) {h : Hp} {x0 : Nat} {rf : Option Value} {hf : Hp} {x : (Nat × Hp)} (hs : fX11_tuned h x0 = some x) (hk : (kX11_tuned rf hf) x) : Go d mX11_tuned 0 [some (.ref x0)] [] h rf hf := by
  unfold fX11_tuned at hs
  refine go_aload_n (k4 := 0) rfl (Or.inr ⟨_, rfl⟩) dX11_tuned_0 ?_
  obtain ⟨v1, ev1, hs⟩ := bindS hs
  refine go_gN fl_RX11_72 ev1 dX11_tuned_1 ?_
  refine go_aload_n (k4 := 0) rfl (Or.inr ⟨_, rfl⟩) dX11_tuned_4 ?_
  obtain ⟨v2, ev2, hs⟩ := bindS hs
  refine go_gN fl_RX11_29 ev2 dX11_tuned_5 ?_
  refine go_aload_n (k4 := 0) rfl (Or.inr ⟨_, rfl⟩) dX11_tuned_8 ?_
  obtain ⟨v3, ev3, hs⟩ := bindS hs
  refine go_gN fl_RX11_36 ev3 dX11_tuned_9 ?_
  obtain ⟨v4, ev4, hs⟩ := bindS hs
  refine go_gI fl_RX11_149 ev4 dX11_tuned_12 ?_
  refine go_at 15 rfl ?_
  obtain ⟨g6, hs⟩ := gO_at hs
  obtain ⟨y5, ey5, hs⟩ := bindS hs
  refine go_V0 (As := [.ref v2, .int v4]) (st := []) g6 rfl rfl (oX1_tune (d := d - 1) (by omega) ey5) (by omega) mb_X1_tune lm_RX11_184 mi_X1_tune (Nat.le_of_ble_eq_true rfl) rfl dX11_tuned_15 ?_
  refine go_aload_n (k4 := 0) rfl (Or.inr ⟨_, rfl⟩) dX11_tuned_18 ?_
  obtain ⟨v7, ev7, hs⟩ := bindS hs
  refine go_gN fl_RX11_72 ev7 dX11_tuned_19 ?_
  obtain rfl := Option.some.inj hs
  obtain ⟨rfl, rfl⟩ := hk
  exact go_aret rfl (Or.inl ⟨_, rfl⟩) (Or.inr ⟨_, rfl⟩) dX11_tuned_22
theorem oX11_tuned {d : Nat} (hd : 2 ≤ d) {h : Hp} {x0 : Nat} {y : (Nat × Hp)} (hs : fX11_tuned h x0 = some y) : Call d mX11_tuned [.ref x0] h (some (.ref y.1)) (y.2) := call_of (by decide +kernel) (Nat.le_of_ble_eq_true rfl) (show Go d mX11_tuned 0 [some (.ref x0)] [] h _ _ from go_subL (by simp [subL]) (oX11_tuned_0 hd hs ⟨rfl, rfl⟩))
abbrev kX0_metCount (h : Hp) (rf : Option Value) (hf : Hp) : Int32 → Prop := fun y => rf = some (.int y) ∧ hf = h
abbrev pX0_metCount_4 (d : Nat) (h : Hp) (x0 : Nat) (x1 : Int32) (rf : Option Value) (hf : Hp) : (Int32 × Int32) → Prop := fun s => Go d mX0_metCount 4 [some (.ref x0), some (.int x1), some (.int s.1), some (.int s.2)] [] h rf hf
noncomputable def fX0_metCount_26 (h : Hp) (x0 : Nat) (x1 : Int32) (x3 : Int32) (s0 : Int32) (s1 : Int32) : Option ((Int32 × Int32) ⊕ Int32) :=
  some (.inl ((s0 + s1), (x3 + Int32.ofInt 1)))
theorem oX0_metCount_26 {d : Nat} (hd : 1 ≤ d) {h : Hp} {x0 : Nat} {x1 : Int32} {x3 : Int32} {s0 : Int32} {s1 : Int32} {rf : Option Value} {hf : Hp} {x : ((Int32 × Int32) ⊕ Int32)} (hs : fX0_metCount_26 h x0 x1 x3 s0 s1 = some x) (hk : (Kx (pX0_metCount_4 d h x0 x1 rf hf) (kX0_metCount h rf hf)) x) : Go d mX0_metCount 26 [some (.ref x0), some (.int x1), none, some (.int x3)] [.int s1, .int s0] h rf hf := by
  unfold fX0_metCount_26 at hs
  refine go_iadd dX0_metCount_26 ?_
  refine go_istore_n (k4 := 2) (L' := [some (.ref x0), some (.int x1), some (.int (s0 + s1)), some (.int x3)]) (by decide) rfl dX0_metCount_27 ?_
  refine go_iinc (L' := [some (.ref x0), some (.int x1), some (.int (s0 + s1)), some (.int (x3 + Int32.ofInt 1))]) rfl (by decide) rfl rfl dX0_metCount_28 ?_
  refine go_goto (tgt := 4) (by decide) dX0_metCount_31 ?_
  obtain rfl := Option.some.inj hs
  exact go_subL (L' := [some (.ref x0), some (.int x1), some (.int (s0 + s1)), some (.int (x3 + Int32.ofInt 1))]) (by simp [subL, va_rf]) hk
noncomputable def fX0_metCount_4b (h : Hp) (x0 : Nat) (x1 : Int32) (x2 : Int32) (x3 : Int32) : Option ((Int32 × Int32) ⊕ Int32) :=
  (gI h 0 x0 0).bind fun v1 =>
  if v1 ≤ x3 then (
    some (.inr x2)) else (
    (fX11_digit h x1 x3).bind fun y2 =>
    if y2 = 0 then (
      fX0_metCount_26 h x0 x1 x3 x2 (1 : Int32)) else (
      fX0_metCount_26 h x0 x1 x3 x2 (0 : Int32)))
noncomputable def fX0_metCount_4 (h : Hp) (x0 : Nat) (x1 : Int32) (x2 : Int32) (x3 : Int32) : Option Int32 := lpw (σ := (Int32 × Int32)) (fun s => fX0_metCount_4b h x0 x1 s.1 s.2) (x2, x3)
theorem oX0_metCount_4b {d : Nat} (hd : 1 ≤ d) {h : Hp} {x0 : Nat} {x1 : Int32} {x2 : Int32} {x3 : Int32} {rf : Option Value} {hf : Hp} {x : ((Int32 × Int32) ⊕ Int32)} (hs : fX0_metCount_4b h x0 x1 x2 x3 = some x) (hk : (Kx (pX0_metCount_4 d h x0 x1 rf hf) (kX0_metCount h rf hf)) x) : Go d mX0_metCount 4 [some (.ref x0), some (.int x1), some (.int x2), some (.int x3)] [] h rf hf := by
  unfold fX0_metCount_4b at hs
  refine go_iload_n (k4 := 3) rfl dX0_metCount_4 ?_
  refine go_aload_n (k4 := 0) rfl (Or.inr ⟨_, rfl⟩) dX0_metCount_5 ?_
  obtain ⟨v1, ev1, hs⟩ := bindS hs
  refine go_gI fl_RX0_21 ev1 dX0_metCount_6 ?_
  refine go_icmp_ge (tgt := 34) (by decide) dX0_metCount_9 (fun c => ?_) (fun c => ?_)
  · have hs := if_t c hs
    refine go_iload_n (k4 := 2) rfl dX0_metCount_34 ?_
    obtain rfl := Option.some.inj hs
    obtain ⟨rfl, rfl⟩ := hk
    exact go_iret rfl dX0_metCount_35
  · have hs := if_f c hs
    refine go_iload_n (k4 := 2) rfl dX0_metCount_12 ?_
    refine go_iload_n (k4 := 1) rfl dX0_metCount_13 ?_
    refine go_iload_n (k4 := 3) rfl dX0_metCount_14 ?_
    obtain ⟨y2, ey2, hs⟩ := bindS hs
    refine go_SN1 (As := [.int x1, .int x3]) (st := [.int x2]) (oX11_digit (d := d - 1) (by omega) ey2) (by omega) mb_X11_digit lm_RX0_87 ms_X11_digit (Nat.le_of_ble_eq_true rfl) rfl dX0_metCount_15 ?_
    refine go_if_ne (tgt := 25) (by decide) dX0_metCount_18 (fun c => ?_) (fun c => ?_)
    · have hs := if_f c hs
      refine go_iconst (v := 0) (by decide) dX0_metCount_25 ?_
      exact go_subL (L' := [some (.ref x0), some (.int x1), none, some (.int x3)]) (by simp [subL, va_rf]) (oX0_metCount_26 hd hs hk)
    · have hs := if_t c hs
      refine go_iconst (v := 1) (by decide) dX0_metCount_21 ?_
      refine go_goto (tgt := 26) (by decide) dX0_metCount_22 ?_
      exact go_subL (L' := [some (.ref x0), some (.int x1), none, some (.int x3)]) (by simp [subL, va_rf]) (oX0_metCount_26 hd hs hk)
theorem oX0_metCount_4 {d : Nat} (hd : 1 ≤ d) {h : Hp} {x0 : Nat} {x1 : Int32} {x2 : Int32} {x3 : Int32} {rf : Option Value} {hf : Hp} {x : Int32} (hs : fX0_metCount_4 h x0 x1 x2 x3 = some x) (hk : (kX0_metCount h rf hf) x) : Go d mX0_metCount 4 [some (.ref x0), some (.int x1), some (.int x2), some (.int x3)] [] h rf hf := by
  unfold fX0_metCount_4 at hs
  exact lpw_go (P := pX0_metCount_4 d h x0 x1 rf hf) (fun s x hs hk => oX0_metCount_4b hd hs hk) (x2, x3) x hs hk
noncomputable def fX0_metCount (h : Hp) (x0 : Nat) (x1 : Int32) : Option Int32 :=
  fX0_metCount_4 h x0 x1 (0 : Int32) (0 : Int32)
theorem oX0_metCount_0 {d : Nat} (hd : 1 ≤ d) {h : Hp} {x0 : Nat} {x1 : Int32} {rf : Option Value} {hf : Hp} {x : Int32} (hs : fX0_metCount h x0 x1 = some x) (hk : (kX0_metCount h rf hf) x) : Go d mX0_metCount 0 [some (.ref x0), some (.int x1), none, none] [] h rf hf := by
  unfold fX0_metCount at hs
  refine go_iconst (v := 0) (by decide) dX0_metCount_0 ?_
  refine go_istore_n (k4 := 2) (L' := [some (.ref x0), some (.int x1), some (.int (0 : Int32)), none]) (by decide) rfl dX0_metCount_1 ?_
  refine go_iconst (v := 0) (by decide) dX0_metCount_2 ?_
  refine go_istore_n (k4 := 3) (L' := [some (.ref x0), some (.int x1), some (.int (0 : Int32)), some (.int (0 : Int32))]) (by decide) rfl dX0_metCount_3 ?_
  exact go_subL (L' := [some (.ref x0), some (.int x1), some (.int (0 : Int32)), some (.int (0 : Int32))]) (by simp [subL, va_rf]) (oX0_metCount_4 hd hs hk)
theorem oX0_metCount {d : Nat} (hd : 1 ≤ d) {h : Hp} {x0 : Nat} {x1 : Int32} {y : Int32} (hs : fX0_metCount h x0 x1 = some y) : Call d mX0_metCount [.ref x0, .int x1] h (some (.int y)) h := call_of (by decide +kernel) (Nat.le_of_ble_eq_true rfl) (show Go d mX0_metCount 0 [some (.ref x0), some (.int x1), none, none] [] h _ _ from go_subL (by simp [subL]) (oX0_metCount_0 hd hs ⟨rfl, rfl⟩))
abbrev kX3_placeOf (h : Hp) (rf : Option Value) (hf : Hp) : Int32 → Prop := fun y => rf = some (.int y) ∧ hf = h
noncomputable def fX3_placeOf (h : Hp) (x0 : Int32) : Option Int32 :=
  some (((-1 : Int32) - x0))
theorem oX3_placeOf_0 {d : Nat} (hd : 0 ≤ d) {h : Hp} {x0 : Int32} {rf : Option Value} {hf : Hp} {x : Int32} (hs : fX3_placeOf h x0 = some x) (hk : (kX3_placeOf h rf hf) x) : Go d mX3_placeOf 0 [some (.int x0)] [] h rf hf := by
  unfold fX3_placeOf at hs
  refine go_iconst (v := -1) (by decide) dX3_placeOf_0 ?_
  refine go_iload_n (k4 := 0) rfl dX3_placeOf_1 ?_
  refine go_isub dX3_placeOf_2 ?_
  obtain rfl := Option.some.inj hs
  obtain ⟨rfl, rfl⟩ := hk
  exact go_iret rfl dX3_placeOf_3
theorem oX3_placeOf {d : Nat} (hd : 0 ≤ d) {h : Hp} {x0 : Int32} {y : Int32} (hs : fX3_placeOf h x0 = some y) : Call d mX3_placeOf [.int x0] h (some (.int y)) h := call_of (by decide +kernel) (Nat.le_of_ble_eq_true rfl) (show Go d mX3_placeOf 0 [some (.int x0)] [] h _ _ from go_subL (by simp [subL]) (oX3_placeOf_0 hd hs ⟨rfl, rfl⟩))
abbrev kX1_know (rf : Option Value) (hf : Hp) : Hp → Prop := fun y => rf = none ∧ hf = y
noncomputable def fX1_know (h : Hp) (x0 : Nat) (x1 : Int32) (x2 : Int32) : Option Hp :=
  (gN h 1 x0 0).bind fun v1 =>
  (fX3_placeOf h x1).bind fun y2 =>
  (wI 0 h v1 y2 x2).bind fun h3 =>
  some (h3)
theorem oX1_know_0 {d : Nat} (hd : 1 ≤ d) {h : Hp} {x0 : Nat} {x1 : Int32} {x2 : Int32} {rf : Option Value} {hf : Hp} {x : Hp} (hs : fX1_know h x0 x1 x2 = some x) (hk : (kX1_know rf hf) x) : Go d mX1_know 0 [some (.ref x0), some (.int x1), some (.int x2)] [] h rf hf := by
  unfold fX1_know at hs
  refine go_aload_n (k4 := 0) rfl (Or.inr ⟨_, rfl⟩) dX1_know_0 ?_
  obtain ⟨v1, ev1, hs⟩ := bindS hs
  refine go_gN fl_RX1_11 ev1 dX1_know_1 ?_
  refine go_iload_n (k4 := 1) rfl dX1_know_4 ?_
  obtain ⟨y2, ey2, hs⟩ := bindS hs
  refine go_S1 (As := [.int x1]) (st := [.ref v1]) (oX3_placeOf (d := d - 1) (by omega) ey2) (by omega) mb_X3_placeOf lm_RX1_73 ms_X3_placeOf (Nat.le_of_ble_eq_true rfl) rfl dX1_know_5 ?_
  refine go_iload_n (k4 := 2) rfl dX1_know_8 ?_
  obtain ⟨h3, eh3, hs⟩ := bindS hs
  refine go_wIi eh3 dX1_know_9 ?_
  obtain rfl := Option.some.inj hs
  obtain ⟨rfl, rfl⟩ := hk
  exact go_vret rfl dX1_know_10
theorem oX1_know {d : Nat} (hd : 1 ≤ d) {h : Hp} {x0 : Nat} {x1 : Int32} {x2 : Int32} {y : Hp} (hs : fX1_know h x0 x1 x2 = some y) : Call d mX1_know [.ref x0, .int x1, .int x2] h (none) y := call_of (by decide +kernel) (Nat.le_of_ble_eq_true rfl) (show Go d mX1_know 0 [some (.ref x0), some (.int x1), some (.int x2)] [] h _ _ from go_subL (by simp [subL]) (oX1_know_0 hd hs ⟨rfl, rfl⟩))
abbrev kX3_takes (h : Hp) (rf : Option Value) (hf : Hp) : Int32 → Prop := fun y => rf = some (.int y) ∧ hf = h
noncomputable def fX3_takes_27 (h : Hp) (s0 : Int32) : Option Int32 :=
  some (s0)
theorem oX3_takes_27 {d : Nat} (hd : 0 ≤ d) {h : Hp} {s0 : Int32} {rf : Option Value} {hf : Hp} {x : Int32} (hs : fX3_takes_27 h s0 = some x) (hk : (kX3_takes h rf hf) x) : Go d mX3_takes 27 [none] [.int s0] h rf hf := by
  unfold fX3_takes_27 at hs
  obtain rfl := Option.some.inj hs
  obtain ⟨rfl, rfl⟩ := hk
  exact go_iret rfl dX3_takes_27
noncomputable def fX3_takes (h : Hp) (x0 : Int32) : Option Int32 :=
  if x0 ≤ (-11 : Int32) then (
    if x0 = (-19 : Int32) then (
      some ((1 : Int32))) else (
      if x0 = (-20 : Int32) then (
        fX3_takes_27 h (3 : Int32)) else (
        fX3_takes_27 h (2 : Int32)))) else (
    some ((0 : Int32)))
theorem oX3_takes_0 {d : Nat} (hd : 0 ≤ d) {h : Hp} {x0 : Int32} {rf : Option Value} {hf : Hp} {x : Int32} (hs : fX3_takes h x0 = some x) (hk : (kX3_takes h rf hf) x) : Go d mX3_takes 0 [some (.int x0)] [] h rf hf := by
  unfold fX3_takes at hs
  refine go_iload_n (k4 := 0) rfl dX3_takes_0 ?_
  refine go_bipush (v := -11) (by decide) dX3_takes_1 ?_
  refine go_icmp_le (tgt := 8) (by decide) dX3_takes_3 (fun c => ?_) (fun c => ?_)
  · have hs := if_t c hs
    refine go_iload_n (k4 := 0) rfl dX3_takes_8 ?_
    refine go_bipush (v := -19) (by decide) dX3_takes_9 ?_
    refine go_icmp_ne (tgt := 16) (by decide) dX3_takes_11 (fun c => ?_) (fun c => ?_)
    · have hs := if_f c hs
      refine go_iload_n (k4 := 0) rfl dX3_takes_16 ?_
      refine go_bipush (v := -20) (by decide) dX3_takes_17 ?_
      refine go_icmp_ne (tgt := 26) (by decide) dX3_takes_19 (fun c => ?_) (fun c => ?_)
      · have hs := if_f c hs
        refine go_iconst (v := 2) (by decide) dX3_takes_26 ?_
        exact go_subL (L' := [none]) (by simp [subL, va_rf]) (oX3_takes_27 hd hs hk)
      · have hs := if_t c hs
        refine go_iconst (v := 3) (by decide) dX3_takes_22 ?_
        refine go_goto (tgt := 27) (by decide) dX3_takes_23 ?_
        exact go_subL (L' := [none]) (by simp [subL, va_rf]) (oX3_takes_27 hd hs hk)
    · have hs := if_t c hs
      refine go_iconst (v := 1) (by decide) dX3_takes_14 ?_
      obtain rfl := Option.some.inj hs
      obtain ⟨rfl, rfl⟩ := hk
      exact go_iret rfl dX3_takes_15
  · have hs := if_f c hs
    refine go_iconst (v := 0) (by decide) dX3_takes_6 ?_
    obtain rfl := Option.some.inj hs
    obtain ⟨rfl, rfl⟩ := hk
    exact go_iret rfl dX3_takes_7
theorem oX3_takes {d : Nat} (hd : 0 ≤ d) {h : Hp} {x0 : Int32} {y : Int32} (hs : fX3_takes h x0 = some y) : Call d mX3_takes [.int x0] h (some (.int y)) h := call_of (by decide +kernel) (Nat.le_of_ble_eq_true rfl) (show Go d mX3_takes 0 [some (.int x0)] [] h _ _ from go_subL (by simp [subL]) (oX3_takes_0 hd hs ⟨rfl, rfl⟩))
abbrev kX3_join (h : Hp) (rf : Option Value) (hf : Hp) : Int32 → Prop := fun y => rf = some (.int y) ∧ hf = h
noncomputable def fX3_join_158 (h : Hp) (s0 : Int32) : Option Int32 :=
  some (s0)
theorem oX3_join_158 {d : Nat} (hd : 0 ≤ d) {h : Hp} {s0 : Int32} {rf : Option Value} {hf : Hp} {x : Int32} (hs : fX3_join_158 h s0 = some x) (hk : (kX3_join h rf hf) x) : Go d mX3_join 158 [none, none, none, none, none, none, none] [.int s0] h rf hf := by
  unfold fX3_join_158 at hs
  obtain rfl := Option.some.inj hs
  obtain ⟨rfl, rfl⟩ := hk
  exact go_iret rfl dX3_join_158
noncomputable def fX3_join_129 (h : Hp) (x5 : Int64) : Option Int32 :=
  if (lg_cmp x5 (1000000 : Int64)) ≤ 0 then (
    if 0 ≤ (lg_cmp x5 (-1000000 : Int64)) then (
      fX3_join_158 h (x5.toInt32)) else (
      fX3_join_158 h (-1000000 : Int32))) else (
    some ((1000000 : Int32)))
theorem oX3_join_129 {d : Nat} (hd : 0 ≤ d) {h : Hp} {x5 : Int64} {rf : Option Value} {hf : Hp} {x : Int32} (hs : fX3_join_129 h x5 = some x) (hk : (kX3_join h rf hf) x) : Go d mX3_join 129 [none, none, none, none, none, some (.long x5), none] [] h rf hf := by
  unfold fX3_join_129 at hs
  refine go_lload rfl dX3_join_129 ?_
  refine go_ldc2 lc_RX3_36 dX3_join_131 ?_
  refine go_lcmp dX3_join_134 ?_
  refine go_if_le (tgt := 141) (by decide) dX3_join_135 (fun c => ?_) (fun c => ?_)
  · have hs := if_t c hs
    refine go_lload rfl dX3_join_141 ?_
    refine go_ldc2 lc_RX3_39 dX3_join_143 ?_
    refine go_lcmp dX3_join_146 ?_
    refine go_if_ge (tgt := 155) (by decide) dX3_join_147 (fun c => ?_) (fun c => ?_)
    · have hs := if_t c hs
      refine go_lload rfl dX3_join_155 ?_
      refine go_l2i dX3_join_157 ?_
      exact go_subL (L' := [none, none, none, none, none, none, none]) (by simp [subL, va_rf]) (oX3_join_158 hd hs hk)
    · have hs := if_f c hs
      refine go_ldc lc_RX3_41 dX3_join_150 ?_
      refine go_goto (tgt := 158) (by decide) dX3_join_152 ?_
      exact go_subL (L' := [none, none, none, none, none, none, none]) (by simp [subL, va_rf]) (oX3_join_158 hd hs hk)
  · have hs := if_f c hs
    refine go_ldc lc_RX3_38 dX3_join_138 ?_
    obtain rfl := Option.some.inj hs
    obtain ⟨rfl, rfl⟩ := hk
    exact go_iret rfl dX3_join_140
noncomputable def fX3_join_111 (h : Hp) (s0 : Int64) : Option Int32 :=
  fX3_join_129 h s0
theorem oX3_join_111 {d : Nat} (hd : 0 ≤ d) {h : Hp} {s0 : Int64} {rf : Option Value} {hf : Hp} {x : Int32} (hs : fX3_join_111 h s0 = some x) (hk : (kX3_join h rf hf) x) : Go d mX3_join 111 [none, none, none, none, none, none, none] [.long s0] h rf hf := by
  unfold fX3_join_111 at hs
  refine go_lstore (L' := [none, none, none, none, none, some (.long s0), none]) (by decide) rfl dX3_join_111 ?_
  refine go_goto (tgt := 129) (by decide) dX3_join_113 ?_
  exact go_subL (L' := [none, none, none, none, none, some (.long s0), none]) (by simp [subL, va_rf]) (oX3_join_129 hd hs hk)
noncomputable def fX3_join_95 (h : Hp) (s0 : Int64) : Option Int32 :=
  fX3_join_129 h s0
theorem oX3_join_95 {d : Nat} (hd : 0 ≤ d) {h : Hp} {s0 : Int64} {rf : Option Value} {hf : Hp} {x : Int32} (hs : fX3_join_95 h s0 = some x) (hk : (kX3_join h rf hf) x) : Go d mX3_join 95 [none, none, none, none, none, none, none] [.long s0] h rf hf := by
  unfold fX3_join_95 at hs
  refine go_lstore (L' := [none, none, none, none, none, some (.long s0), none]) (by decide) rfl dX3_join_95 ?_
  refine go_goto (tgt := 129) (by decide) dX3_join_97 ?_
  exact go_subL (L' := [none, none, none, none, none, some (.long s0), none]) (by simp [subL, va_rf]) (oX3_join_129 hd hs hk)
noncomputable def fX3_join_79 (h : Hp) (s0 : Int64) : Option Int32 :=
  fX3_join_129 h s0
theorem oX3_join_79 {d : Nat} (hd : 0 ≤ d) {h : Hp} {s0 : Int64} {rf : Option Value} {hf : Hp} {x : Int32} (hs : fX3_join_79 h s0 = some x) (hk : (kX3_join h rf hf) x) : Go d mX3_join 79 [none, none, none, none, none, none, none] [.long s0] h rf hf := by
  unfold fX3_join_79 at hs
  refine go_lstore (L' := [none, none, none, none, none, some (.long s0), none]) (by decide) rfl dX3_join_79 ?_
  refine go_goto (tgt := 129) (by decide) dX3_join_81 ?_
  exact go_subL (L' := [none, none, none, none, none, some (.long s0), none]) (by simp [subL, va_rf]) (oX3_join_129 hd hs hk)
noncomputable def fX3_join (h : Hp) (x0 : Int32) (x1 : Int64) (x3 : Int64) : Option Int32 :=
  if x0 = -17 then (
    fX3_join_129 h (x1 &&& x3)) else (
if x0 = -16 then (
    if (lg_cmp x1 x3) ≤ 0 then (
      fX3_join_111 h (0 : Int64)) else (
      fX3_join_111 h (1 : Int64))) else (
if x0 = -15 then (
    if 0 ≤ (lg_cmp x1 x3) then (
      fX3_join_95 h (0 : Int64)) else (
      fX3_join_95 h (1 : Int64))) else (
if x0 = -14 then (
    if (lg_cmp x1 x3) = 0 then (
      fX3_join_79 h (1 : Int64)) else (
      fX3_join_79 h (0 : Int64))) else (
if x0 = -13 then (
    fX3_join_129 h (x1 * x3)) else (
if x0 = -12 then (
    fX3_join_129 h (x1 - x3)) else (
if x0 = -11 then (
    fX3_join_129 h (x1 + x3)) else (
    fX3_join_129 h (x1 ||| x3))))))))
theorem oX3_join_0 {d : Nat} (hd : 0 ≤ d) {h : Hp} {x0 : Int32} {x1 : Int64} {x3 : Int64} {rf : Option Value} {hf : Hp} {x : Int32} (hs : fX3_join h x0 x1 x3 = some x) (hk : (kX3_join h rf hf) x) : Go d mX3_join 0 [some (.int x0), some (.long x1), none, some (.long x3), none, none, none] [] h rf hf := by
  unfold fX3_join at hs
  refine go_iload_n (k4 := 0) rfl dX3_join_0 ?_
  by_cases cm17 : x0 = -17
  · have hs := if_t cm17 hs
    refine go_tableIn (off := 115) (tgt := 116) (by rw [cm17]; decide) (by rw [cm17]; decide) (by rw [cm17]; rfl) (by decide) dX3_join_1 ?_
    refine go_lload_n (k4 := 1) rfl dX3_join_116 ?_
    refine go_lload_n (k4 := 3) rfl dX3_join_117 ?_
    refine go_land dX3_join_118 ?_
    refine go_lstore (L' := [some (.int x0), some (.long x1), none, some (.long x3), none, some (.long (x1 &&& x3)), none]) (by decide) rfl dX3_join_119 ?_
    refine go_goto (tgt := 129) (by decide) dX3_join_121 ?_
    exact go_subL (L' := [none, none, none, none, none, some (.long (x1 &&& x3)), none]) (by simp [subL, va_rf]) (oX3_join_129 hd hs hk)
  · have hs := if_f cm17 hs
    by_cases cm16 : x0 = -16
    · have hs := if_t cm16 hs
      refine go_tableIn (off := 99) (tgt := 100) (by rw [cm16]; decide) (by rw [cm16]; decide) (by rw [cm16]; rfl) (by decide) dX3_join_1 ?_
      refine go_lload_n (k4 := 1) rfl dX3_join_100 ?_
      refine go_lload_n (k4 := 3) rfl dX3_join_101 ?_
      refine go_lcmp dX3_join_102 ?_
      refine go_if_le (tgt := 110) (by decide) dX3_join_103 (fun c => ?_) (fun c => ?_)
      · have hs := if_t c hs
        refine go_lconst (v := 0) (by decide) dX3_join_110 ?_
        exact go_subL (L' := [none, none, none, none, none, none, none]) (by simp [subL, va_rf]) (oX3_join_111 hd hs hk)
      · have hs := if_f c hs
        refine go_lconst (v := 1) (by decide) dX3_join_106 ?_
        refine go_goto (tgt := 111) (by decide) dX3_join_107 ?_
        exact go_subL (L' := [none, none, none, none, none, none, none]) (by simp [subL, va_rf]) (oX3_join_111 hd hs hk)
    · have hs := if_f cm16 hs
      by_cases cm15 : x0 = -15
      · have hs := if_t cm15 hs
        refine go_tableIn (off := 83) (tgt := 84) (by rw [cm15]; decide) (by rw [cm15]; decide) (by rw [cm15]; rfl) (by decide) dX3_join_1 ?_
        refine go_lload_n (k4 := 1) rfl dX3_join_84 ?_
        refine go_lload_n (k4 := 3) rfl dX3_join_85 ?_
        refine go_lcmp dX3_join_86 ?_
        refine go_if_ge (tgt := 94) (by decide) dX3_join_87 (fun c => ?_) (fun c => ?_)
        · have hs := if_t c hs
          refine go_lconst (v := 0) (by decide) dX3_join_94 ?_
          exact go_subL (L' := [none, none, none, none, none, none, none]) (by simp [subL, va_rf]) (oX3_join_95 hd hs hk)
        · have hs := if_f c hs
          refine go_lconst (v := 1) (by decide) dX3_join_90 ?_
          refine go_goto (tgt := 95) (by decide) dX3_join_91 ?_
          exact go_subL (L' := [none, none, none, none, none, none, none]) (by simp [subL, va_rf]) (oX3_join_95 hd hs hk)
      · have hs := if_f cm15 hs
        by_cases cm14 : x0 = -14
        · have hs := if_t cm14 hs
          refine go_tableIn (off := 67) (tgt := 68) (by rw [cm14]; decide) (by rw [cm14]; decide) (by rw [cm14]; rfl) (by decide) dX3_join_1 ?_
          refine go_lload_n (k4 := 1) rfl dX3_join_68 ?_
          refine go_lload_n (k4 := 3) rfl dX3_join_69 ?_
          refine go_lcmp dX3_join_70 ?_
          refine go_if_ne (tgt := 78) (by decide) dX3_join_71 (fun c => ?_) (fun c => ?_)
          · have hs := if_f c hs
            refine go_lconst (v := 0) (by decide) dX3_join_78 ?_
            exact go_subL (L' := [none, none, none, none, none, none, none]) (by simp [subL, va_rf]) (oX3_join_79 hd hs hk)
          · have hs := if_t c hs
            refine go_lconst (v := 1) (by decide) dX3_join_74 ?_
            refine go_goto (tgt := 79) (by decide) dX3_join_75 ?_
            exact go_subL (L' := [none, none, none, none, none, none, none]) (by simp [subL, va_rf]) (oX3_join_79 hd hs hk)
        · have hs := if_f cm14 hs
          by_cases cm13 : x0 = -13
          · have hs := if_t cm13 hs
            refine go_tableIn (off := 59) (tgt := 60) (by rw [cm13]; decide) (by rw [cm13]; decide) (by rw [cm13]; rfl) (by decide) dX3_join_1 ?_
            refine go_lload_n (k4 := 1) rfl dX3_join_60 ?_
            refine go_lload_n (k4 := 3) rfl dX3_join_61 ?_
            refine go_lmul dX3_join_62 ?_
            refine go_lstore (L' := [some (.int x0), some (.long x1), none, some (.long x3), none, some (.long (x1 * x3)), none]) (by decide) rfl dX3_join_63 ?_
            refine go_goto (tgt := 129) (by decide) dX3_join_65 ?_
            exact go_subL (L' := [none, none, none, none, none, some (.long (x1 * x3)), none]) (by simp [subL, va_rf]) (oX3_join_129 hd hs hk)
          · have hs := if_f cm13 hs
            by_cases cm12 : x0 = -12
            · have hs := if_t cm12 hs
              refine go_tableIn (off := 51) (tgt := 52) (by rw [cm12]; decide) (by rw [cm12]; decide) (by rw [cm12]; rfl) (by decide) dX3_join_1 ?_
              refine go_lload_n (k4 := 1) rfl dX3_join_52 ?_
              refine go_lload_n (k4 := 3) rfl dX3_join_53 ?_
              refine go_lsub dX3_join_54 ?_
              refine go_lstore (L' := [some (.int x0), some (.long x1), none, some (.long x3), none, some (.long (x1 - x3)), none]) (by decide) rfl dX3_join_55 ?_
              refine go_goto (tgt := 129) (by decide) dX3_join_57 ?_
              exact go_subL (L' := [none, none, none, none, none, some (.long (x1 - x3)), none]) (by simp [subL, va_rf]) (oX3_join_129 hd hs hk)
            · have hs := if_f cm12 hs
              by_cases cm11 : x0 = -11
              · have hs := if_t cm11 hs
                refine go_tableIn (off := 43) (tgt := 44) (by rw [cm11]; decide) (by rw [cm11]; decide) (by rw [cm11]; rfl) (by decide) dX3_join_1 ?_
                refine go_lload_n (k4 := 1) rfl dX3_join_44 ?_
                refine go_lload_n (k4 := 3) rfl dX3_join_45 ?_
                refine go_ladd dX3_join_46 ?_
                refine go_lstore (L' := [some (.int x0), some (.long x1), none, some (.long x3), none, some (.long (x1 + x3)), none]) (by decide) rfl dX3_join_47 ?_
                refine go_goto (tgt := 129) (by decide) dX3_join_49 ?_
                exact go_subL (L' := [none, none, none, none, none, some (.long (x1 + x3)), none]) (by simp [subL, va_rf]) (oX3_join_129 hd hs hk)
              · have hs := if_f cm11 hs
                refine go_tableOut (tgt := 124) (tab_out (-17) (-11) 6 (by decide) (by decide) (by decide) (fun i hi => by
                  match i, hi with
                  | 0, _ => rw [show Int32.ofInt ((-17 : Int) + ((0 : Nat) : Int)) = (-17 : Int32) by decide]; exact cm17
                  | 1, _ => rw [show Int32.ofInt ((-17 : Int) + ((1 : Nat) : Int)) = (-16 : Int32) by decide]; exact cm16
                  | 2, _ => rw [show Int32.ofInt ((-17 : Int) + ((2 : Nat) : Int)) = (-15 : Int32) by decide]; exact cm15
                  | 3, _ => rw [show Int32.ofInt ((-17 : Int) + ((3 : Nat) : Int)) = (-14 : Int32) by decide]; exact cm14
                  | 4, _ => rw [show Int32.ofInt ((-17 : Int) + ((4 : Nat) : Int)) = (-13 : Int32) by decide]; exact cm13
                  | 5, _ => rw [show Int32.ofInt ((-17 : Int) + ((5 : Nat) : Int)) = (-12 : Int32) by decide]; exact cm12
                  | 6, _ => rw [show Int32.ofInt ((-17 : Int) + ((6 : Nat) : Int)) = (-11 : Int32) by decide]; exact cm11
                  | k + 7, hi => omega)) (by decide) dX3_join_1 ?_
                refine go_lload_n (k4 := 1) rfl dX3_join_124 ?_
                refine go_lload_n (k4 := 3) rfl dX3_join_125 ?_
                refine go_lor dX3_join_126 ?_
                refine go_lstore (L' := [some (.int x0), some (.long x1), none, some (.long x3), none, some (.long (x1 ||| x3)), none]) (by decide) rfl dX3_join_127 ?_
                exact go_subL (L' := [none, none, none, none, none, some (.long (x1 ||| x3)), none]) (by simp [subL, va_rf]) (oX3_join_129 hd hs hk)
theorem oX3_join {d : Nat} (hd : 0 ≤ d) {h : Hp} {x0 : Int32} {x1 : Int64} {x3 : Int64} {y : Int32} (hs : fX3_join h x0 x1 x3 = some y) : Call d mX3_join [.int x0, .long x1, .long x3] h (some (.int y)) h := call_of (by decide +kernel) (Nat.le_of_ble_eq_true rfl) (show Go d mX3_join 0 [some (.int x0), some (.long x1), none, some (.long x3), none, none, none] [] h _ _ from go_subL (by simp [subL]) (oX3_join_0 hd hs ⟨rfl, rfl⟩))
