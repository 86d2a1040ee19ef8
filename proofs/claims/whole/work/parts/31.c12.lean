/-! methods: their texts as functions, and that the machine does just that -/
abbrev kX9_put (rf : Option Value) (hf : Hp) : Hp → Prop := fun y => rf = none ∧ hf = y
noncomputable def fX9_put_23 (h : Hp)  : Option Hp :=
  some (h)
theorem oX9_put_23 {d : Nat} (hd : 1 ≤ d) {h : Hp} {rf : Option Value} {hf : Hp} {x : Hp} (hs : fX9_put_23 h  = some x) (hk : (kX9_put rf hf) x) : Go d mX9_put 23 [none, none, none, none] [] h rf hf := by
  unfold fX9_put_23 at hs
  obtain rfl := Option.some.inj hs
  obtain ⟨rfl, rfl⟩ := hk
  exact go_vret rfl dX9_put_23
noncomputable def fX9_put (h : Hp) (x0 : Nat) (x1 : Int32) (x2 : Int64) : Option Hp :=
  if x1 < 0 then (
  fX9_put_23 h ) else (
    (gI h 9 x0 3).bind fun v1 =>
    if v1 ≤ x1 then (
    fX9_put_23 h ) else (
      (gN h 9 x0 0).bind fun v2 =>
      gO h 9 x0 (
      (fX9_cut h x0 x2).bind fun y3 =>
      (wJ h v2 x1 y3).bind fun h5 =>
      fX9_put_23 h5 )))
theorem oX9_put_0 {d : Nat} (hd : 1 ≤ d) {h : Hp} {x0 : Nat} {x1 : Int32} {x2 : Int64} {rf : Option Value} {hf : Hp} {x : Hp} (hs : fX9_put h x0 x1 x2 = some x) (hk : (kX9_put rf hf) x) : Go d mX9_put 0 [some (.ref x0), some (.int x1), some (.long x2), none] [] h rf hf := by
  unfold fX9_put at hs
  refine go_iload_n (k4 := 1) rfl dX9_put_0 ?_
  refine go_if_lt (tgt := 23) (by decide) dX9_put_1 (fun c => ?_) (fun c => ?_)
  · have hs := if_t c hs
    exact go_subL (L' := [none, none, none, none]) (by simp [subL, va_rf]) (oX9_put_23 hd hs hk)
  · have hs := if_f c hs
    refine go_iload_n (k4 := 1) rfl dX9_put_4 ?_
    refine go_aload_n (k4 := 0) rfl (Or.inr ⟨_, rfl⟩) dX9_put_5 ?_
    obtain ⟨v1, ev1, hs⟩ := bindS hs
    refine go_gI fl_RX9_23 ev1 dX9_put_6 ?_
    refine go_icmp_ge (tgt := 23) (by decide) dX9_put_9 (fun c => ?_) (fun c => ?_)
    · have hs := if_t c hs
      exact go_subL (L' := [none, none, none, none]) (by simp [subL, va_rf]) (oX9_put_23 hd hs hk)
    · have hs := if_f c hs
      refine go_aload_n (k4 := 0) rfl (Or.inr ⟨_, rfl⟩) dX9_put_12 ?_
      obtain ⟨v2, ev2, hs⟩ := bindS hs
      refine go_gN fl_RX9_9 ev2 dX9_put_13 ?_
      refine go_iload_n (k4 := 1) rfl dX9_put_16 ?_
      refine go_aload_n (k4 := 0) rfl (Or.inr ⟨_, rfl⟩) dX9_put_17 ?_
      refine go_lload_n (k4 := 2) rfl dX9_put_18 ?_
      obtain ⟨g4, hs⟩ := gO_at hs
      obtain ⟨y3, ey3, hs⟩ := bindS hs
      refine go_V1 (As := [.long x2]) (st := [.int x1, .ref v2]) g4 rfl rfl (oX9_cut (d := d - 1) (by omega) ey3) (by omega) mb_X9_cut lm_RX9_38 mi_X9_cut (Nat.le_of_ble_eq_true rfl) rfl dX9_put_19 ?_
      obtain ⟨h5, eh5, hs⟩ := bindS hs
      refine go_wJ eh5 dX9_put_22 ?_
      exact go_subL (L' := [none, none, none, none]) (by simp [subL, va_rf]) (oX9_put_23 hd hs hk)
theorem oX9_put {d : Nat} (hd : 1 ≤ d) {h : Hp} {x0 : Nat} {x1 : Int32} {x2 : Int64} {y : Hp} (hs : fX9_put h x0 x1 x2 = some y) : Call d mX9_put [.ref x0, .int x1, .long x2] h (none) y := call_of (by decide +kernel) (Nat.le_of_ble_eq_true rfl) (show Go d mX9_put 0 [some (.ref x0), some (.int x1), some (.long x2), none] [] h _ _ from go_subL (by simp [subL]) (oX9_put_0 hd hs ⟨rfl, rfl⟩))
abbrev kX11_write (rf : Option Value) (hf : Hp) : (Int64 × Hp) → Prop := fun y => rf = some (.long y.1) ∧ hf = y.2
noncomputable def fX11_write_44 (h : Hp)  : Option (Int64 × Hp) :=
  some (((-7 : Int64), h))
theorem oX11_write_44 {d : Nat} (hd : 2 ≤ d) {h : Hp} {rf : Option Value} {hf : Hp} {x : (Int64 × Hp)} (hs : fX11_write_44 h  = some x) (hk : (kX11_write rf hf) x) : Go d mX11_write 44 [none, none, none, none, none, none] [] h rf hf := by
  unfold fX11_write_44 at hs
  refine go_ldc2 lc_RX11_413 dX11_write_44 ?_
  obtain rfl := Option.some.inj hs
  obtain ⟨rfl, rfl⟩ := hk
  exact go_lret rfl dX11_write_47
noncomputable def fX11_write (h : Hp) (x0 : Nat) (x1 : Int32) (x2 : Int32) (x3 : Int64) : Option (Int64 × Hp) :=
  (fX11_isTray h x1).bind fun y1 =>
  if y1 = 0 then (
    some (((-2 : Int64), h))) else (
    (gN h 11 x0 8).bind fun v2 =>
    (aN h v2 x1).bind fun v3 =>
    (gI h 9 v3 2).bind fun v4 =>
    if v4 = 0 then (
      if x2 < 0 then (
      fX11_write_44 h ) else (
        (gI h 9 v3 3).bind fun v5 =>
        if x2 < v5 then (
          gO h 9 v3 (
          (fX9_put h v3 x2 x3).bind fun y6 =>
          gO y6 9 v3 (
          (fX9_at y6 v3 x2).bind fun y8 =>
          some ((y8, y6))))) else (
        fX11_write_44 h ))) else (
      some (((-6 : Int64), h))))
theorem oX11_write_0 {d : Nat} (hd : 2 ≤ d) {h : Hp} {x0 : Nat} {x1 : Int32} {x2 : Int32} {x3 : Int64} {rf : Option Value} {hf : Hp} {x : (Int64 × Hp)} (hs : fX11_write h x0 x1 x2 x3 = some x) (hk : (kX11_write rf hf) x) : Go d mX11_write 0 [some (.ref x0), some (.int x1), some (.int x2), some (.long x3), none, none] [] h rf hf := by
  unfold fX11_write at hs
  refine go_iload_n (k4 := 1) rfl dX11_write_0 ?_
  obtain ⟨y1, ey1, hs⟩ := bindS hs
  refine go_S1 (As := [.int x1]) (st := []) (oX11_isTray (d := d - 1) (by omega) ey1) (by omega) mb_X11_isTray lm_RX11_215 ms_X11_isTray (Nat.le_of_ble_eq_true rfl) rfl dX11_write_1 ?_
  refine go_if_ne (tgt := 11) (by decide) dX11_write_4 (fun c => ?_) (fun c => ?_)
  · have hs := if_f c hs
    refine go_aload_n (k4 := 0) rfl (Or.inr ⟨_, rfl⟩) dX11_write_11 ?_
    obtain ⟨v2, ev2, hs⟩ := bindS hs
    refine go_gN fl_RX11_55 ev2 dX11_write_12 ?_
    refine go_iload_n (k4 := 1) rfl dX11_write_15 ?_
    obtain ⟨v3, ev3, hs⟩ := bindS hs
    refine go_aN ev3 dX11_write_16 ?_
    refine go_astore (L' := [some (.ref x0), some (.int x1), some (.int x2), some (.long x3), none, some (.ref v3)]) (by decide) (Or.inr ⟨_, rfl⟩) rfl dX11_write_17 ?_
    refine go_aload rfl (Or.inr ⟨_, rfl⟩) dX11_write_19 ?_
    obtain ⟨v4, ev4, hs⟩ := bindS hs
    refine go_gI fl_RX11_218 ev4 dX11_write_21 ?_
    refine go_at 24 rfl ?_
    refine go_if_eq (tgt := 31) (by decide) dX11_write_24 (fun c => ?_) (fun c => ?_)
    · have hs := if_t c hs
      refine go_iload_n (k4 := 2) rfl dX11_write_31 ?_
      refine go_if_lt (tgt := 44) (by decide) dX11_write_32 (fun c => ?_) (fun c => ?_)
      · have hs := if_t c hs
        exact go_subL (L' := [none, none, none, none, none, none]) (by simp [subL, va_rf]) (oX11_write_44 hd hs hk)
      · have hs := if_f c hs
        refine go_iload_n (k4 := 2) rfl dX11_write_35 ?_
        refine go_aload rfl (Or.inr ⟨_, rfl⟩) dX11_write_36 ?_
        obtain ⟨v5, ev5, hs⟩ := bindS hs
        refine go_gI fl_RX11_222 ev5 dX11_write_38 ?_
        refine go_icmp_lt (tgt := 48) (by decide) dX11_write_41 (fun c => ?_) (fun c => ?_)
        · have hs := if_t c hs
          refine go_aload rfl (Or.inr ⟨_, rfl⟩) dX11_write_48 ?_
          refine go_iload_n (k4 := 2) rfl dX11_write_50 ?_
          refine go_lload_n (k4 := 3) rfl dX11_write_51 ?_
          obtain ⟨g7, hs⟩ := gO_at hs
          obtain ⟨y6, ey6, hs⟩ := bindS hs
          refine go_V0 (As := [.int x2, .long x3]) (st := []) g7 rfl rfl (oX9_put (d := d - 1) (by omega) ey6) (by omega) mb_X9_put lm_RX11_415 mi_X9_put (Nat.le_of_ble_eq_true rfl) rfl dX11_write_52 ?_
          refine go_aload rfl (Or.inr ⟨_, rfl⟩) dX11_write_55 ?_
          refine go_iload_n (k4 := 2) rfl dX11_write_57 ?_
          obtain ⟨g9, hs⟩ := gO_at hs
          obtain ⟨y8, ey8, hs⟩ := bindS hs
          refine go_V1 (As := [.int x2]) (st := []) g9 rfl rfl (oX9_at (d := d - 1) (by omega) ey8) (by omega) mb_X9_at lm_RX11_223 mi_X9_at (Nat.le_of_ble_eq_true rfl) rfl dX11_write_58 ?_
          refine go_at 61 rfl ?_
          obtain rfl := Option.some.inj hs
          obtain ⟨rfl, rfl⟩ := hk
          exact go_lret rfl dX11_write_61
        · have hs := if_f c hs
          exact go_subL (L' := [none, none, none, none, none, none]) (by simp [subL, va_rf]) (oX11_write_44 hd hs hk)
    · have hs := if_f c hs
      refine go_ldc2 lc_RX11_411 dX11_write_27 ?_
      obtain rfl := Option.some.inj hs
      obtain ⟨rfl, rfl⟩ := hk
      exact go_lret rfl dX11_write_30
  · have hs := if_t c hs
    refine go_ldc2 lc_RX11_409 dX11_write_7 ?_
    obtain rfl := Option.some.inj hs
    obtain ⟨rfl, rfl⟩ := hk
    exact go_lret rfl dX11_write_10
theorem oX11_write {d : Nat} (hd : 2 ≤ d) {h : Hp} {x0 : Nat} {x1 : Int32} {x2 : Int32} {x3 : Int64} {y : (Int64 × Hp)} (hs : fX11_write h x0 x1 x2 x3 = some y) : Call d mX11_write [.ref x0, .int x1, .int x2, .long x3] h (some (.long y.1)) (y.2) := call_of (by decide +kernel) (Nat.le_of_ble_eq_true rfl) (show Go d mX11_write 0 [some (.ref x0), some (.int x1), some (.int x2), some (.long x3), none, none] [] h _ _ from go_subL (by simp [subL]) (oX11_write_0 hd hs ⟨rfl, rfl⟩))
abbrev kX11_lists (rf : Option Value) (hf : Hp) : (Int32 × Hp) → Prop := fun y => rf = some (.int y.1) ∧ hf = y.2
noncomputable def fX11_lists_15 (h : Hp)  : Option (Int32 × Hp) :=
  some (((-2 : Int32), h))
theorem oX11_lists_15 {d : Nat} (hd : 4 ≤ d) {h : Hp} {rf : Option Value} {hf : Hp} {x : (Int32 × Hp)} (hs : fX11_lists_15 h  = some x) (hk : (kX11_lists rf hf) x) : Go d mX11_lists 15 [none, none, none, none, none, none] [] h rf hf := by
  unfold fX11_lists_15 at hs
  refine go_bipush (v := -2) (by decide) dX11_lists_15 ?_
  obtain rfl := Option.some.inj hs
  obtain ⟨rfl, rfl⟩ := hk
  exact go_iret rfl dX11_lists_17
abbrev pX11_lists_52 (d : Nat) (x0 : Nat) (x2 : Int32) (x3 : Nat) (rf : Option Value) (hf : Hp) : (Int32 × Int32 × Hp) → Prop := fun s => Go d mX11_lists 52 [some (.ref x0), none, some (.int x2), some (.ref x3), some (.int s.1), some (.int s.2.1)] [] s.2.2 rf hf
noncomputable def fX11_lists_52b (h : Hp) (x0 : Nat) (x2 : Int32) (x3 : Nat) (x4 : Int32) (x5 : Int32) : Option ((Int32 × Int32 × Hp) ⊕ (Int32 × Hp)) :=
  (gI h 9 x3 3).bind fun v11 =>
  if v11 ≤ x5 then (
    (gI h 9 x3 3).bind fun v12 =>
    some (.inr (v12, h))) else (
    (gN h 11 x0 11).bind fun v13 =>
    (gN h 11 x0 4).bind fun v14 =>
    (gI h 8 v14 2).bind fun v15 =>
    gO h 1 v13 (
    (fX1_after h v13 x4 v15 (0 : Int32)).bind fun y16 =>
    (fX11_digit y16.2 y16.1 x2).bind fun y18 =>
    gO y16.2 9 x3 (
    (fX9_put y16.2 x3 x5 (y18.toInt64)).bind fun y19 =>
    some (.inl (y16.1, (x5 + Int32.ofInt 1), y19)))))
noncomputable def fX11_lists_52 (h : Hp) (x0 : Nat) (x2 : Int32) (x3 : Nat) (x4 : Int32) (x5 : Int32) : Option (Int32 × Hp) := lpw (σ := (Int32 × Int32 × Hp)) (fun s => fX11_lists_52b s.2.2 x0 x2 x3 s.1 s.2.1) (x4, x5, h)
theorem oX11_lists_52b {d : Nat} (hd : 4 ≤ d) {h : Hp} {x0 : Nat} {x2 : Int32} {x3 : Nat} {x4 : Int32} {x5 : Int32} {rf : Option Value} {hf : Hp} {x : ((Int32 × Int32 × Hp) ⊕ (Int32 × Hp))} (hs : fX11_lists_52b h x0 x2 x3 x4 x5 = some x) (hk : (Kx (pX11_lists_52 d x0 x2 x3 rf hf) (kX11_lists rf hf)) x) : Go d mX11_lists 52 [some (.ref x0), none, some (.int x2), some (.ref x3), some (.int x4), some (.int x5)] [] h rf hf := by
  unfold fX11_lists_52b at hs
  refine go_iload rfl dX11_lists_52 ?_
  refine go_aload_n (k4 := 3) rfl (Or.inr ⟨_, rfl⟩) dX11_lists_54 ?_
  obtain ⟨v11, ev11, hs⟩ := bindS hs
  refine go_gI fl_RX11_222 ev11 dX11_lists_55 ?_
  refine go_icmp_ge (tgt := 99) (by decide) dX11_lists_58 (fun c => ?_) (fun c => ?_)
  · have hs := if_t c hs
    refine go_aload_n (k4 := 3) rfl (Or.inr ⟨_, rfl⟩) dX11_lists_99 ?_
    obtain ⟨v12, ev12, hs⟩ := bindS hs
    refine go_gI fl_RX11_222 ev12 dX11_lists_100 ?_
    obtain rfl := Option.some.inj hs
    obtain ⟨rfl, rfl⟩ := hk
    exact go_iret rfl dX11_lists_103
  · have hs := if_f c hs
    refine go_aload_n (k4 := 0) rfl (Or.inr ⟨_, rfl⟩) dX11_lists_61 ?_
    obtain ⟨v13, ev13, hs⟩ := bindS hs
    refine go_gN fl_RX11_72 ev13 dX11_lists_62 ?_
    refine go_iload rfl dX11_lists_65 ?_
    refine go_aload_n (k4 := 0) rfl (Or.inr ⟨_, rfl⟩) dX11_lists_67 ?_
    obtain ⟨v14, ev14, hs⟩ := bindS hs
    refine go_gN fl_RX11_36 ev14 dX11_lists_68 ?_
    obtain ⟨v15, ev15, hs⟩ := bindS hs
    refine go_gI fl_RX11_152 ev15 dX11_lists_71 ?_
    refine go_iconst (v := 0) (by decide) dX11_lists_74 ?_
    refine go_at 75 rfl ?_
    obtain ⟨g17, hs⟩ := gO_at hs
    obtain ⟨y16, ey16, hs⟩ := bindS hs
    refine go_V1 (As := [.int x4, .int v15, .int (0 : Int32)]) (st := []) g17 rfl rfl (oX1_after (d := d - 1) (by omega) ey16) (by omega) mb_X1_after lm_RX11_257 mi_X1_after (Nat.le_of_ble_eq_true rfl) rfl dX11_lists_75 ?_
    refine go_istore (L' := [some (.ref x0), none, some (.int x2), some (.ref x3), some (.int y16.1), some (.int x5)]) (by decide) rfl dX11_lists_78 ?_
    refine go_aload_n (k4 := 3) rfl (Or.inr ⟨_, rfl⟩) dX11_lists_80 ?_
    refine go_iload rfl dX11_lists_81 ?_
    refine go_iload rfl dX11_lists_83 ?_
    refine go_iload_n (k4 := 2) rfl dX11_lists_85 ?_
    obtain ⟨y18, ey18, hs⟩ := bindS hs
    refine go_S1 (As := [.int y16.1, .int x2]) (st := [.int x5, .ref x3]) (oX11_digit (d := d - 1) (by omega) ey18) (by omega) mb_X11_digit lm_RX11_145 ms_X11_digit (Nat.le_of_ble_eq_true rfl) rfl dX11_lists_86 ?_
    refine go_i2l dX11_lists_89 ?_
    refine go_at 90 rfl ?_
    obtain ⟨g20, hs⟩ := gO_at hs
    obtain ⟨y19, ey19, hs⟩ := bindS hs
    refine go_V0 (As := [.int x5, .long (y18.toInt64)]) (st := []) g20 rfl rfl (oX9_put (d := d - 1) (by omega) ey19) (by omega) mb_X9_put lm_RX11_415 mi_X9_put (Nat.le_of_ble_eq_true rfl) rfl dX11_lists_90 ?_
    refine go_iinc (L' := [some (.ref x0), none, some (.int x2), some (.ref x3), some (.int y16.1), some (.int (x5 + Int32.ofInt 1))]) rfl (by decide) rfl rfl dX11_lists_93 ?_
    refine go_goto (tgt := 52) (by decide) dX11_lists_96 ?_
    obtain rfl := Option.some.inj hs
    exact go_subL (L' := [some (.ref x0), none, some (.int x2), some (.ref x3), some (.int y16.1), some (.int (x5 + Int32.ofInt 1))]) (by simp [subL, va_rf]) hk
theorem oX11_lists_52 {d : Nat} (hd : 4 ≤ d) {h : Hp} {x0 : Nat} {x2 : Int32} {x3 : Nat} {x4 : Int32} {x5 : Int32} {rf : Option Value} {hf : Hp} {x : (Int32 × Hp)} (hs : fX11_lists_52 h x0 x2 x3 x4 x5 = some x) (hk : (kX11_lists rf hf) x) : Go d mX11_lists 52 [some (.ref x0), none, some (.int x2), some (.ref x3), some (.int x4), some (.int x5)] [] h rf hf := by
  unfold fX11_lists_52 at hs
  exact lpw_go (P := pX11_lists_52 d x0 x2 x3 rf hf) (fun s x hs hk => oX11_lists_52b hd hs hk) (x4, x5, h) x hs hk
noncomputable def fX11_lists (h : Hp) (x0 : Nat) (x1 : Int32) (x2 : Int32) : Option (Int32 × Hp) :=
  (fX11_isTray h x1).bind fun y1 =>
  if y1 = 0 then (
  fX11_lists_15 h ) else (
    gO h 11 x0 (
    (fX11_isPair h x0 x2).bind fun y2 =>
    if y2 = 0 then (
    fX11_lists_15 h ) else (
      (gN h 11 x0 8).bind fun v4 =>
      (aN h v4 x1).bind fun v5 =>
      (gI h 9 v5 2).bind fun v6 =>
      if v6 = 0 then (
        gO h 11 x0 (
        (fX11_tuned h x0).bind fun y7 =>
        (gN y7.2 11 x0 4).bind fun v9 =>
        (gI y7.2 8 v9 0).bind fun v10 =>
        fX11_lists_52 y7.2 x0 x2 v5 v10 (0 : Int32))) else (
        some (((-6 : Int32), h))))))
theorem oX11_lists_0 {d : Nat} (hd : 4 ≤ d) {h : Hp} {x0 : Nat} {x1 : Int32} {x2 : Int32} {rf : Option Value} {hf : Hp} {x : (Int32 × Hp)} (hs : fX11_lists h x0 x1 x2 = some x) (hk : (kX11_lists rf hf) x) : Go d mX11_lists 0 [some (.ref x0), some (.int x1), some (.int x2), none, none, none] [] h rf hf := by
  unfold fX11_lists at hs
  refine go_iload_n (k4 := 1) rfl dX11_lists_0 ?_
  obtain ⟨y1, ey1, hs⟩ := bindS hs
  refine go_S1 (As := [.int x1]) (st := []) (oX11_isTray (d := d - 1) (by omega) ey1) (by omega) mb_X11_isTray lm_RX11_215 ms_X11_isTray (Nat.le_of_ble_eq_true rfl) rfl dX11_lists_1 ?_
  refine go_if_eq (tgt := 15) (by decide) dX11_lists_4 (fun c => ?_) (fun c => ?_)
  · have hs := if_t c hs
    exact go_subL (L' := [none, none, none, none, none, none]) (by simp [subL, va_rf]) (oX11_lists_15 hd hs hk)
  · have hs := if_f c hs
    refine go_aload_n (k4 := 0) rfl (Or.inr ⟨_, rfl⟩) dX11_lists_7 ?_
    refine go_iload_n (k4 := 2) rfl dX11_lists_8 ?_
    obtain ⟨g3, hs⟩ := gO_at hs
    obtain ⟨y2, ey2, hs⟩ := bindS hs
    refine go_V1 (As := [.int x2]) (st := []) g3 rfl rfl (oX11_isPair (d := d - 1) (by omega) ey2) (by omega) mb_X11_isPair lm_RX11_138 mi_X11_isPair (Nat.le_of_ble_eq_true rfl) rfl dX11_lists_9 ?_
    refine go_if_ne (tgt := 18) (by decide) dX11_lists_12 (fun c => ?_) (fun c => ?_)
    · have hs := if_f c hs
      refine go_aload_n (k4 := 0) rfl (Or.inr ⟨_, rfl⟩) dX11_lists_18 ?_
      obtain ⟨v4, ev4, hs⟩ := bindS hs
      refine go_gN fl_RX11_55 ev4 dX11_lists_19 ?_
      refine go_iload_n (k4 := 1) rfl dX11_lists_22 ?_
      obtain ⟨v5, ev5, hs⟩ := bindS hs
      refine go_aN ev5 dX11_lists_23 ?_
      refine go_astore_n (k4 := 3) (L' := [some (.ref x0), some (.int x1), some (.int x2), some (.ref v5), none, none]) (by decide) (Or.inr ⟨_, rfl⟩) rfl dX11_lists_24 ?_
      refine go_aload_n (k4 := 3) rfl (Or.inr ⟨_, rfl⟩) dX11_lists_25 ?_
      obtain ⟨v6, ev6, hs⟩ := bindS hs
      refine go_gI fl_RX11_218 ev6 dX11_lists_26 ?_
      refine go_at 29 rfl ?_
      refine go_if_eq (tgt := 35) (by decide) dX11_lists_29 (fun c => ?_) (fun c => ?_)
      · have hs := if_t c hs
        refine go_aload_n (k4 := 0) rfl (Or.inr ⟨_, rfl⟩) dX11_lists_35 ?_
        obtain ⟨g8, hs⟩ := gO_at hs
        obtain ⟨y7, ey7, hs⟩ := bindS hs
        refine go_V1 (As := []) (st := []) g8 rfl rfl (oX11_tuned (d := d - 1) (by omega) ey7) (by omega) mb_X11_tuned lm_RX11_166 mi_X11_tuned (Nat.le_of_ble_eq_true rfl) rfl dX11_lists_36 ?_
        refine go_pop rfl dX11_lists_39 ?_
        refine go_aload_n (k4 := 0) rfl (Or.inr ⟨_, rfl⟩) dX11_lists_40 ?_
        obtain ⟨v9, ev9, hs⟩ := bindS hs
        refine go_gN fl_RX11_36 ev9 dX11_lists_41 ?_
        obtain ⟨v10, ev10, hs⟩ := bindS hs
        refine go_gI fl_RX11_142 ev10 dX11_lists_44 ?_
        refine go_istore (L' := [some (.ref x0), some (.int x1), some (.int x2), some (.ref v5), some (.int v10), none]) (by decide) rfl dX11_lists_47 ?_
        refine go_at 49 rfl ?_
        refine go_iconst (v := 0) (by decide) dX11_lists_49 ?_
        refine go_istore (L' := [some (.ref x0), some (.int x1), some (.int x2), some (.ref v5), some (.int v10), some (.int (0 : Int32))]) (by decide) rfl dX11_lists_50 ?_
        exact go_subL (L' := [some (.ref x0), none, some (.int x2), some (.ref v5), some (.int v10), some (.int (0 : Int32))]) (by simp [subL, va_rf]) (oX11_lists_52 hd hs hk)
      · have hs := if_f c hs
        refine go_bipush (v := -6) (by decide) dX11_lists_32 ?_
        obtain rfl := Option.some.inj hs
        obtain ⟨rfl, rfl⟩ := hk
        exact go_iret rfl dX11_lists_34
    · have hs := if_t c hs
      exact go_subL (L' := [none, none, none, none, none, none]) (by simp [subL, va_rf]) (oX11_lists_15 hd hs hk)
theorem oX11_lists {d : Nat} (hd : 4 ≤ d) {h : Hp} {x0 : Nat} {x1 : Int32} {x2 : Int32} {y : (Int32 × Hp)} (hs : fX11_lists h x0 x1 x2 = some y) : Call d mX11_lists [.ref x0, .int x1, .int x2] h (some (.int y.1)) (y.2) := call_of (by decide +kernel) (Nat.le_of_ble_eq_true rfl) (show Go d mX11_lists 0 [some (.ref x0), some (.int x1), some (.int x2), none, none, none] [] h _ _ from go_subL (by simp [subL]) (oX11_lists_0 hd hs ⟨rfl, rfl⟩))
abbrev kX11_image (rf : Option Value) (hf : Hp) : (Int32 × Hp) → Prop := fun y => rf = some (.int y.1) ∧ hf = y.2
noncomputable def fX11_image_9 (h : Hp)  : Option (Int32 × Hp) :=
  some (((-2 : Int32), h))
theorem oX11_image_9 {d : Nat} (hd : 1 ≤ d) {h : Hp} {rf : Option Value} {hf : Hp} {x : (Int32 × Hp)} (hs : fX11_image_9 h  = some x) (hk : (kX11_image rf hf) x) : Go d mX11_image 9 [none, none] [] h rf hf := by
  unfold fX11_image_9 at hs
  refine go_bipush (v := -2) (by decide) dX11_image_9 ?_
  obtain rfl := Option.some.inj hs
  obtain ⟨rfl, rfl⟩ := hk
  exact go_iret rfl dX11_image_11
noncomputable def fX11_image (h : Hp) (x0 : Nat) (x1 : Int32) : Option (Int32 × Hp) :=
  if x1 < 0 then (
  fX11_image_9 h ) else (
    if x1 < (2 : Int32) then (
      (gN h 11 x0 9).bind fun v1 =>
      (gN h 11 x0 3).bind fun v2 =>
      (wR 6 0 h v1 x1 v2).bind fun h3 =>
      (gN h3 11 x0 10).bind fun v4 =>
      (aN h3 v4 x1).bind fun v5 =>
      (gN h3 11 x0 4).bind fun v6 =>
      gO h3 8 v5 (
      (fX8_copy h3 v5 v6).bind fun y7 =>
      some (((0 : Int32), y7)))) else (
    fX11_image_9 h ))
theorem oX11_image_0 {d : Nat} (hd : 1 ≤ d) {h : Hp} {x0 : Nat} {x1 : Int32} {rf : Option Value} {hf : Hp} {x : (Int32 × Hp)} (hs : fX11_image h x0 x1 = some x) (hk : (kX11_image rf hf) x) : Go d mX11_image 0 [some (.ref x0), some (.int x1)] [] h rf hf := by
  unfold fX11_image at hs
  refine go_iload_n (k4 := 1) rfl dX11_image_0 ?_
  refine go_if_lt (tgt := 9) (by decide) dX11_image_1 (fun c => ?_) (fun c => ?_)
  · have hs := if_t c hs
    exact go_subL (L' := [none, none]) (by simp [subL, va_rf]) (oX11_image_9 hd hs hk)
  · have hs := if_f c hs
    refine go_iload_n (k4 := 1) rfl dX11_image_4 ?_
    refine go_iconst (v := 2) (by decide) dX11_image_5 ?_
    refine go_icmp_lt (tgt := 12) (by decide) dX11_image_6 (fun c => ?_) (fun c => ?_)
    · have hs := if_t c hs
      refine go_aload_n (k4 := 0) rfl (Or.inr ⟨_, rfl⟩) dX11_image_12 ?_
      obtain ⟨v1, ev1, hs⟩ := bindS hs
      refine go_gN fl_RX11_59 ev1 dX11_image_13 ?_
      refine go_iload_n (k4 := 1) rfl dX11_image_16 ?_
      refine go_aload_n (k4 := 0) rfl (Or.inr ⟨_, rfl⟩) dX11_image_17 ?_
      obtain ⟨v2, ev2, hs⟩ := bindS hs
      refine go_gN fl_RX11_29 ev2 dX11_image_18 ?_
      obtain ⟨h3, eh3, hs⟩ := bindS hs
      refine go_wR (by decide) rfl rfl eh3 dX11_image_21 ?_
      refine go_aload_n (k4 := 0) rfl (Or.inr ⟨_, rfl⟩) dX11_image_22 ?_
      refine go_at 23 rfl ?_
      obtain ⟨v4, ev4, hs⟩ := bindS hs
      refine go_gN fl_RX11_63 ev4 dX11_image_23 ?_
      refine go_iload_n (k4 := 1) rfl dX11_image_26 ?_
      obtain ⟨v5, ev5, hs⟩ := bindS hs
      refine go_aN ev5 dX11_image_27 ?_
      refine go_aload_n (k4 := 0) rfl (Or.inr ⟨_, rfl⟩) dX11_image_28 ?_
      obtain ⟨v6, ev6, hs⟩ := bindS hs
      refine go_gN fl_RX11_36 ev6 dX11_image_29 ?_
      obtain ⟨g8, hs⟩ := gO_at hs
      obtain ⟨y7, ey7, hs⟩ := bindS hs
      refine go_V0 (As := [.ref v6]) (st := []) g8 rfl rfl (oX8_copy (d := d - 1) (by omega) ey7) (by omega) mb_X8_copy lm_RX11_188 mi_X8_copy (Nat.le_of_ble_eq_true rfl) rfl dX11_image_32 ?_
      refine go_iconst (v := 0) (by decide) dX11_image_35 ?_
      obtain rfl := Option.some.inj hs
      obtain ⟨rfl, rfl⟩ := hk
      exact go_iret rfl dX11_image_36
    · have hs := if_f c hs
      exact go_subL (L' := [none, none]) (by simp [subL, va_rf]) (oX11_image_9 hd hs hk)
theorem oX11_image {d : Nat} (hd : 1 ≤ d) {h : Hp} {x0 : Nat} {x1 : Int32} {y : (Int32 × Hp)} (hs : fX11_image h x0 x1 = some y) : Call d mX11_image [.ref x0, .int x1] h (some (.int y.1)) (y.2) := call_of (by decide +kernel) (Nat.le_of_ble_eq_true rfl) (show Go d mX11_image 0 [some (.ref x0), some (.int x1)] [] h _ _ from go_subL (by simp [subL]) (oX11_image_0 hd hs ⟨rfl, rfl⟩))
abbrev kX11_restore (rf : Option Value) (hf : Hp) : (Int32 × Hp) → Prop := fun y => rf = some (.int y.1) ∧ hf = y.2
noncomputable def fX11_restore_9 (h : Hp)  : Option (Int32 × Hp) :=
  some (((-2 : Int32), h))
theorem oX11_restore_9 {d : Nat} (hd : 1 ≤ d) {h : Hp} {rf : Option Value} {hf : Hp} {x : (Int32 × Hp)} (hs : fX11_restore_9 h  = some x) (hk : (kX11_restore rf hf) x) : Go d mX11_restore 9 [none, none, none] [] h rf hf := by
  unfold fX11_restore_9 at hs
  refine go_bipush (v := -2) (by decide) dX11_restore_9 ?_
  obtain rfl := Option.some.inj hs
  obtain ⟨rfl, rfl⟩ := hk
  exact go_iret rfl dX11_restore_11
noncomputable def fX11_restore (h : Hp) (x0 : Nat) (x1 : Int32) : Option (Int32 × Hp) :=
  if x1 < 0 then (
  fX11_restore_9 h ) else (
    if x1 < (2 : Int32) then (
      (gN h 11 x0 9).bind fun v1 =>
      (aR h v1 x1).bind fun v2 =>
      match v2 with
      | none => (
        some (((-5 : Int32), h)))
      | some n3 => (
        (sV h 11 x0 3 (.ref n3)).bind fun h4 =>
        (gN h4 11 x0 4).bind fun v5 =>
        (gN h4 11 x0 10).bind fun v6 =>
        (aN h4 v6 x1).bind fun v7 =>
        gO h4 8 v5 (
        (fX8_copy h4 v5 v7).bind fun y8 =>
        (gN y8 11 x0 7).bind fun v10 =>
        gO y8 5 v10 (
        (fX5_forget y8 v10).bind fun y11 =>
        some (((0 : Int32), y11)))))) else (
    fX11_restore_9 h ))
theorem oX11_restore_0 {d : Nat} (hd : 1 ≤ d) {h : Hp} {x0 : Nat} {x1 : Int32} {rf : Option Value} {hf : Hp} {x : (Int32 × Hp)} (hs : fX11_restore h x0 x1 = some x) (hk : (kX11_restore rf hf) x) : Go d mX11_restore 0 [some (.ref x0), some (.int x1), none] [] h rf hf := by
  unfold fX11_restore at hs
  refine go_iload_n (k4 := 1) rfl dX11_restore_0 ?_
  refine go_if_lt (tgt := 9) (by decide) dX11_restore_1 (fun c => ?_) (fun c => ?_)
  · have hs := if_t c hs
    exact go_subL (L' := [none, none, none]) (by simp [subL, va_rf]) (oX11_restore_9 hd hs hk)
  · have hs := if_f c hs
    refine go_iload_n (k4 := 1) rfl dX11_restore_4 ?_
    refine go_iconst (v := 2) (by decide) dX11_restore_5 ?_
    refine go_icmp_lt (tgt := 12) (by decide) dX11_restore_6 (fun c => ?_) (fun c => ?_)
    · have hs := if_t c hs
      refine go_aload_n (k4 := 0) rfl (Or.inr ⟨_, rfl⟩) dX11_restore_12 ?_
      obtain ⟨v1, ev1, hs⟩ := bindS hs
      refine go_gN fl_RX11_59 ev1 dX11_restore_13 ?_
      refine go_iload_n (k4 := 1) rfl dX11_restore_16 ?_
      obtain ⟨v2, ev2, hs⟩ := bindS hs
      refine go_aR ev2 dX11_restore_17 ?_
      refine go_astore_n (k4 := 2) (L' := [some (.ref x0), some (.int x1), some (va_rf v2)]) (by decide) (isR _) rfl dX11_restore_18 ?_
      refine go_aload_n (k4 := 2) rfl (isR _) dX11_restore_19 ?_
      cases v2 with
      | none =>
        dsimp only at hs
        refine go_ifnonnull (o := none) (tgt := 26) (by decide) dX11_restore_20 (fun c => absurd rfl c) (fun _ => ?_)
        refine go_bipush (v := -5) (by decide) dX11_restore_23 ?_
        obtain rfl := Option.some.inj hs
        obtain ⟨rfl, rfl⟩ := hk
        exact go_iret rfl dX11_restore_25
      | some n3 =>
        dsimp only at hs
        refine go_ifnonnull (o := some n3) (tgt := 26) (by decide) dX11_restore_20 (fun _ => ?_) (fun c => by cases c)
        refine go_aload_n (k4 := 0) rfl (Or.inr ⟨_, rfl⟩) dX11_restore_26 ?_
        refine go_aload_n (k4 := 2) rfl (Or.inr ⟨_, rfl⟩) dX11_restore_27 ?_
        obtain ⟨h4, eh4, hs⟩ := bindS hs
        refine go_sV fw_RX11_29 eh4 rfl rfl dX11_restore_28 ?_
        refine go_aload_n (k4 := 0) rfl (Or.inr ⟨_, rfl⟩) dX11_restore_31 ?_
        obtain ⟨v5, ev5, hs⟩ := bindS hs
        refine go_gN fl_RX11_36 ev5 dX11_restore_32 ?_
        refine go_aload_n (k4 := 0) rfl (Or.inr ⟨_, rfl⟩) dX11_restore_35 ?_
        obtain ⟨v6, ev6, hs⟩ := bindS hs
        refine go_gN fl_RX11_63 ev6 dX11_restore_36 ?_
        refine go_at 39 rfl ?_
        refine go_iload_n (k4 := 1) rfl dX11_restore_39 ?_
        obtain ⟨v7, ev7, hs⟩ := bindS hs
        refine go_aN ev7 dX11_restore_40 ?_
        obtain ⟨g9, hs⟩ := gO_at hs
        obtain ⟨y8, ey8, hs⟩ := bindS hs
        refine go_V0 (As := [.ref v7]) (st := []) g9 rfl rfl (oX8_copy (d := d - 1) (by omega) ey8) (by omega) mb_X8_copy lm_RX11_188 mi_X8_copy (Nat.le_of_ble_eq_true rfl) rfl dX11_restore_41 ?_
        refine go_aload_n (k4 := 0) rfl (Or.inr ⟨_, rfl⟩) dX11_restore_44 ?_
        obtain ⟨v10, ev10, hs⟩ := bindS hs
        refine go_gN fl_RX11_49 ev10 dX11_restore_45 ?_
        obtain ⟨g12, hs⟩ := gO_at hs
        obtain ⟨y11, ey11, hs⟩ := bindS hs
        refine go_V0 (As := []) (st := []) g12 rfl rfl (oX5_forget (d := d - 1) (by omega) ey11) (by omega) mb_X5_forget lm_RX11_129 mi_X5_forget (Nat.le_of_ble_eq_true rfl) rfl dX11_restore_48 ?_
        refine go_iconst (v := 0) (by decide) dX11_restore_51 ?_
        obtain rfl := Option.some.inj hs
        obtain ⟨rfl, rfl⟩ := hk
        exact go_iret rfl dX11_restore_52
    · have hs := if_f c hs
      exact go_subL (L' := [none, none, none]) (by simp [subL, va_rf]) (oX11_restore_9 hd hs hk)
theorem oX11_restore {d : Nat} (hd : 1 ≤ d) {h : Hp} {x0 : Nat} {x1 : Int32} {y : (Int32 × Hp)} (hs : fX11_restore h x0 x1 = some y) : Call d mX11_restore [.ref x0, .int x1] h (some (.int y.1)) (y.2) := call_of (by decide +kernel) (Nat.le_of_ble_eq_true rfl) (show Go d mX11_restore 0 [some (.ref x0), some (.int x1), none] [] h _ _ from go_subL (by simp [subL]) (oX11_restore_0 hd hs ⟨rfl, rfl⟩))
abbrev kX11_count (h : Hp) (rf : Option Value) (hf : Hp) : Int32 → Prop := fun y => rf = some (.int y) ∧ hf = h
noncomputable def fX11_count_128 (h : Hp) (s0 : Int32) : Option Int32 :=
  some (s0)
theorem oX11_count_128 {d : Nat} (hd : 2 ≤ d) {h : Hp} {s0 : Int32} {rf : Option Value} {hf : Hp} {x : Int32} (hs : fX11_count_128 h s0 = some x) (hk : (kX11_count h rf hf) x) : Go d mX11_count 128 [none, none] [.int s0] h rf hf := by
  unfold fX11_count_128 at hs
  obtain rfl := Option.some.inj hs
  obtain ⟨rfl, rfl⟩ := hk
  exact go_iret rfl dX11_count_128
noncomputable def fX11_count (h : Hp) (x0 : Nat) (x1 : Int32) : Option Int32 :=
  if x1 = 0 then (
    (gN h 11 x0 3).bind fun v1 =>
    (gI h 0 v1 0).bind fun v2 =>
    some (v2)) else (
if x1 = 1 then (
    (gN h 11 x0 3).bind fun v3 =>
    (gI h 0 v3 1).bind fun v4 =>
    some (v4)) else (
if x1 = 2 then (
    (gN h 11 x0 3).bind fun v5 =>
    (gN h 11 x0 4).bind fun v6 =>
    (gI h 8 v6 0).bind fun v7 =>
    gO h 0 v5 (
    (fX0_metBits h v5 v7).bind fun y8 =>
    some (y8))) else (
if x1 = 3 then (
    (gN h 11 x0 3).bind fun v10 =>
    (gN h 11 x0 4).bind fun v11 =>
    (gI h 8 v11 0).bind fun v12 =>
    gO h 0 v10 (
    (fX0_gapSum h v10 v12).bind fun y13 =>
    some (y13))) else (
if x1 = 4 then (
    (gN h 11 x0 4).bind fun v15 =>
    (gI h 8 v15 2).bind fun v16 =>
    some (v16)) else (
if x1 = 5 then (
    (gN h 11 x0 4).bind fun v17 =>
    (gI h 8 v17 0).bind fun v18 =>
    if v18 < (10000 : Int32) then (
      fX11_count_128 h (0 : Int32)) else (
      fX11_count_128 h (1 : Int32))) else (
if x1 = 6 then (
    (gN h 11 x0 4).bind fun v19 =>
    (gI h 8 v19 3).bind fun v20 =>
    some (v20)) else (
if x1 = 7 then (
    (gN h 11 x0 7).bind fun v21 =>
    (gI h 5 v21 2).bind fun v22 =>
    some (v22)) else (
if x1 = 8 then (
    (gI h 11 x0 1).bind fun v23 =>
    some (v23)) else (
if x1 = 9 then (
    (gN h 11 x0 3).bind fun v24 =>
    (gI h 0 v24 3).bind fun v25 =>
    some (v25)) else (
    some ((-1 : Int32))))))))))))
theorem oX11_count_0 {d : Nat} (hd : 2 ≤ d) {h : Hp} {x0 : Nat} {x1 : Int32} {rf : Option Value} {hf : Hp} {x : Int32} (hs : fX11_count h x0 x1 = some x) (hk : (kX11_count h rf hf) x) : Go d mX11_count 0 [some (.ref x0), some (.int x1)] [] h rf hf := by
  unfold fX11_count at hs
  refine go_iload_n (k4 := 1) rfl dX11_count_0 ?_
  by_cases c0 : x1 = 0
  · have hs := if_t c0 hs
    refine go_tableIn (off := 55) (tgt := 56) (by rw [c0]; decide) (by rw [c0]; decide) (by rw [c0]; rfl) (by decide) dX11_count_1 ?_
    refine go_aload_n (k4 := 0) rfl (Or.inr ⟨_, rfl⟩) dX11_count_56 ?_
    obtain ⟨v1, ev1, hs⟩ := bindS hs
    refine go_gN fl_RX11_29 ev1 dX11_count_57 ?_
    obtain ⟨v2, ev2, hs⟩ := bindS hs
    refine go_gI fl_RX11_181 ev2 dX11_count_60 ?_
    obtain rfl := Option.some.inj hs
    obtain ⟨rfl, rfl⟩ := hk
    exact go_iret rfl dX11_count_63
  · have hs := if_f c0 hs
    by_cases c1 : x1 = 1
    · have hs := if_t c1 hs
      refine go_tableIn (off := 63) (tgt := 64) (by rw [c1]; decide) (by rw [c1]; decide) (by rw [c1]; rfl) (by decide) dX11_count_1 ?_
      refine go_aload_n (k4 := 0) rfl (Or.inr ⟨_, rfl⟩) dX11_count_64 ?_
      obtain ⟨v3, ev3, hs⟩ := bindS hs
      refine go_gN fl_RX11_29 ev3 dX11_count_65 ?_
      obtain ⟨v4, ev4, hs⟩ := bindS hs
      refine go_gI fl_RX11_419 ev4 dX11_count_68 ?_
      obtain rfl := Option.some.inj hs
      obtain ⟨rfl, rfl⟩ := hk
      exact go_iret rfl dX11_count_71
    · have hs := if_f c1 hs
      by_cases c2 : x1 = 2
      · have hs := if_t c2 hs
        refine go_tableIn (off := 71) (tgt := 72) (by rw [c2]; decide) (by rw [c2]; decide) (by rw [c2]; rfl) (by decide) dX11_count_1 ?_
        refine go_aload_n (k4 := 0) rfl (Or.inr ⟨_, rfl⟩) dX11_count_72 ?_
        obtain ⟨v5, ev5, hs⟩ := bindS hs
        refine go_gN fl_RX11_29 ev5 dX11_count_73 ?_
        refine go_aload_n (k4 := 0) rfl (Or.inr ⟨_, rfl⟩) dX11_count_76 ?_
        obtain ⟨v6, ev6, hs⟩ := bindS hs
        refine go_gN fl_RX11_36 ev6 dX11_count_77 ?_
        obtain ⟨v7, ev7, hs⟩ := bindS hs
        refine go_gI fl_RX11_142 ev7 dX11_count_80 ?_
        obtain ⟨g9, hs⟩ := gO_at hs
        obtain ⟨y8, ey8, hs⟩ := bindS hs
        refine go_V1 (As := [.int v7]) (st := []) g9 rfl rfl (oX0_metBits (d := d - 1) (by omega) ey8) (by omega) mb_X0_metBits lm_RX11_231 mi_X0_metBits (Nat.le_of_ble_eq_true rfl) rfl dX11_count_83 ?_
        obtain rfl := Option.some.inj hs
        obtain ⟨rfl, rfl⟩ := hk
        exact go_iret rfl dX11_count_86
      · have hs := if_f c2 hs
        by_cases c3 : x1 = 3
        · have hs := if_t c3 hs
          refine go_tableIn (off := 86) (tgt := 87) (by rw [c3]; decide) (by rw [c3]; decide) (by rw [c3]; rfl) (by decide) dX11_count_1 ?_
          refine go_aload_n (k4 := 0) rfl (Or.inr ⟨_, rfl⟩) dX11_count_87 ?_
          obtain ⟨v10, ev10, hs⟩ := bindS hs
          refine go_gN fl_RX11_29 ev10 dX11_count_88 ?_
          refine go_aload_n (k4 := 0) rfl (Or.inr ⟨_, rfl⟩) dX11_count_91 ?_
          obtain ⟨v11, ev11, hs⟩ := bindS hs
          refine go_gN fl_RX11_36 ev11 dX11_count_92 ?_
          obtain ⟨v12, ev12, hs⟩ := bindS hs
          refine go_gI fl_RX11_142 ev12 dX11_count_95 ?_
          obtain ⟨g14, hs⟩ := gO_at hs
          obtain ⟨y13, ey13, hs⟩ := bindS hs
          refine go_V1 (As := [.int v12]) (st := []) g14 rfl rfl (oX0_gapSum (d := d - 1) (by omega) ey13) (by omega) mb_X0_gapSum lm_RX11_234 mi_X0_gapSum (Nat.le_of_ble_eq_true rfl) rfl dX11_count_98 ?_
          obtain rfl := Option.some.inj hs
          obtain ⟨rfl, rfl⟩ := hk
          exact go_iret rfl dX11_count_101
        · have hs := if_f c3 hs
          by_cases c4 : x1 = 4
          · have hs := if_t c4 hs
            refine go_tableIn (off := 101) (tgt := 102) (by rw [c4]; decide) (by rw [c4]; decide) (by rw [c4]; rfl) (by decide) dX11_count_1 ?_
            refine go_aload_n (k4 := 0) rfl (Or.inr ⟨_, rfl⟩) dX11_count_102 ?_
            obtain ⟨v15, ev15, hs⟩ := bindS hs
            refine go_gN fl_RX11_36 ev15 dX11_count_103 ?_
            obtain ⟨v16, ev16, hs⟩ := bindS hs
            refine go_gI fl_RX11_152 ev16 dX11_count_106 ?_
            obtain rfl := Option.some.inj hs
            obtain ⟨rfl, rfl⟩ := hk
            exact go_iret rfl dX11_count_109
          · have hs := if_f c4 hs
            by_cases c5 : x1 = 5
            · have hs := if_t c5 hs
              refine go_tableIn (off := 109) (tgt := 110) (by rw [c5]; decide) (by rw [c5]; decide) (by rw [c5]; rfl) (by decide) dX11_count_1 ?_
              refine go_aload_n (k4 := 0) rfl (Or.inr ⟨_, rfl⟩) dX11_count_110 ?_
              obtain ⟨v17, ev17, hs⟩ := bindS hs
              refine go_gN fl_RX11_36 ev17 dX11_count_111 ?_
              obtain ⟨v18, ev18, hs⟩ := bindS hs
              refine go_gI fl_RX11_142 ev18 dX11_count_114 ?_
              refine go_sipush (v := 10000) (by decide) dX11_count_117 ?_
              refine go_icmp_lt (tgt := 127) (by decide) dX11_count_120 (fun c => ?_) (fun c => ?_)
              · have hs := if_t c hs
                refine go_iconst (v := 0) (by decide) dX11_count_127 ?_
                exact go_subL (L' := [none, none]) (by simp [subL, va_rf]) (oX11_count_128 hd hs hk)
              · have hs := if_f c hs
                refine go_iconst (v := 1) (by decide) dX11_count_123 ?_
                refine go_goto (tgt := 128) (by decide) dX11_count_124 ?_
                exact go_subL (L' := [none, none]) (by simp [subL, va_rf]) (oX11_count_128 hd hs hk)
            · have hs := if_f c5 hs
              by_cases c6 : x1 = 6
              · have hs := if_t c6 hs
                refine go_tableIn (off := 128) (tgt := 129) (by rw [c6]; decide) (by rw [c6]; decide) (by rw [c6]; rfl) (by decide) dX11_count_1 ?_
                refine go_aload_n (k4 := 0) rfl (Or.inr ⟨_, rfl⟩) dX11_count_129 ?_
                obtain ⟨v19, ev19, hs⟩ := bindS hs
                refine go_gN fl_RX11_36 ev19 dX11_count_130 ?_
                obtain ⟨v20, ev20, hs⟩ := bindS hs
                refine go_gI fl_RX11_261 ev20 dX11_count_133 ?_
                obtain rfl := Option.some.inj hs
                obtain ⟨rfl, rfl⟩ := hk
                exact go_iret rfl dX11_count_136
              · have hs := if_f c6 hs
                by_cases c7 : x1 = 7
                · have hs := if_t c7 hs
                  refine go_tableIn (off := 136) (tgt := 137) (by rw [c7]; decide) (by rw [c7]; decide) (by rw [c7]; rfl) (by decide) dX11_count_1 ?_
                  refine go_aload_n (k4 := 0) rfl (Or.inr ⟨_, rfl⟩) dX11_count_137 ?_
                  obtain ⟨v21, ev21, hs⟩ := bindS hs
                  refine go_gN fl_RX11_49 ev21 dX11_count_138 ?_
                  obtain ⟨v22, ev22, hs⟩ := bindS hs
                  refine go_gI fl_RX11_209 ev22 dX11_count_141 ?_
                  obtain rfl := Option.some.inj hs
                  obtain ⟨rfl, rfl⟩ := hk
                  exact go_iret rfl dX11_count_144
                · have hs := if_f c7 hs
                  by_cases c8 : x1 = 8
                  · have hs := if_t c8 hs
                    refine go_tableIn (off := 144) (tgt := 145) (by rw [c8]; decide) (by rw [c8]; decide) (by rw [c8]; rfl) (by decide) dX11_count_1 ?_
                    refine go_aload_n (k4 := 0) rfl (Or.inr ⟨_, rfl⟩) dX11_count_145 ?_
                    obtain ⟨v23, ev23, hs⟩ := bindS hs
                    refine go_gI fl_RX11_13 ev23 dX11_count_146 ?_
                    obtain rfl := Option.some.inj hs
                    obtain ⟨rfl, rfl⟩ := hk
                    exact go_iret rfl dX11_count_149
                  · have hs := if_f c8 hs
                    by_cases c9 : x1 = 9
                    · have hs := if_t c9 hs
                      refine go_tableIn (off := 149) (tgt := 150) (by rw [c9]; decide) (by rw [c9]; decide) (by rw [c9]; rfl) (by decide) dX11_count_1 ?_
                      refine go_aload_n (k4 := 0) rfl (Or.inr ⟨_, rfl⟩) dX11_count_150 ?_
                      obtain ⟨v24, ev24, hs⟩ := bindS hs
                      refine go_gN fl_RX11_29 ev24 dX11_count_151 ?_
                      obtain ⟨v25, ev25, hs⟩ := bindS hs
                      refine go_gI fl_RX11_132 ev25 dX11_count_154 ?_
                      obtain rfl := Option.some.inj hs
                      obtain ⟨rfl, rfl⟩ := hk
                      exact go_iret rfl dX11_count_157
                    · have hs := if_f c9 hs
                      refine go_tableOut (tgt := 158) (tab_out (0) (9) 9 (by decide) (by decide) (by decide) (fun i hi => by
                        match i, hi with
                        | 0, _ => rw [show Int32.ofInt ((0 : Int) + ((0 : Nat) : Int)) = (0 : Int32) by decide]; exact c0
                        | 1, _ => rw [show Int32.ofInt ((0 : Int) + ((1 : Nat) : Int)) = (1 : Int32) by decide]; exact c1
                        | 2, _ => rw [show Int32.ofInt ((0 : Int) + ((2 : Nat) : Int)) = (2 : Int32) by decide]; exact c2
                        | 3, _ => rw [show Int32.ofInt ((0 : Int) + ((3 : Nat) : Int)) = (3 : Int32) by decide]; exact c3
                        | 4, _ => rw [show Int32.ofInt ((0 : Int) + ((4 : Nat) : Int)) = (4 : Int32) by decide]; exact c4
                        | 5, _ => rw [show Int32.ofInt ((0 : Int) + ((5 : Nat) : Int)) = (5 : Int32) by decide]; exact c5
                        | 6, _ => rw [show Int32.ofInt ((0 : Int) + ((6 : Nat) : Int)) = (6 : Int32) by decide]; exact c6
                        | 7, _ => rw [show Int32.ofInt ((0 : Int) + ((7 : Nat) : Int)) = (7 : Int32) by decide]; exact c7
                        | 8, _ => rw [show Int32.ofInt ((0 : Int) + ((8 : Nat) : Int)) = (8 : Int32) by decide]; exact c8
                        | 9, _ => rw [show Int32.ofInt ((0 : Int) + ((9 : Nat) : Int)) = (9 : Int32) by decide]; exact c9
                        | k + 10, hi => omega)) (by decide) dX11_count_1 ?_
                      refine go_iconst (v := -1) (by decide) dX11_count_158 ?_
                      obtain rfl := Option.some.inj hs
                      obtain ⟨rfl, rfl⟩ := hk
                      exact go_iret rfl dX11_count_159
theorem oX11_count {d : Nat} (hd : 2 ≤ d) {h : Hp} {x0 : Nat} {x1 : Int32} {y : Int32} (hs : fX11_count h x0 x1 = some y) : Call d mX11_count [.ref x0, .int x1] h (some (.int y)) h := call_of (by decide +kernel) (Nat.le_of_ble_eq_true rfl) (show Go d mX11_count 0 [some (.ref x0), some (.int x1)] [] h _ _ from go_subL (by simp [subL]) (oX11_count_0 hd hs ⟨rfl, rfl⟩))
