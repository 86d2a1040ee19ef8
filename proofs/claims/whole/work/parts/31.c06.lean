/-! methods: their texts as functions, and that the machine does just that -/
abbrev kX11_perform (rf : Option Value) (hf : Hp) : (Int32 × Hp) → Prop := fun y => rf = some (.int y.1) ∧ hf = y.2
abbrev pX11_perform_40 (d : Nat) (x0 : Nat) (x2 : Nat) (rf : Option Value) (hf : Hp) : (Int32 × Hp) → Prop := fun s => Go d mX11_perform 40 [some (.ref x0), none, some (.ref x2), some (.int s.1)] [] s.2 rf hf
noncomputable def fX11_perform_85 (h : Hp) (x3 : Int32) : Option (Int32 × Hp) :=
  some ((x3, h))
theorem oX11_perform_85 {d : Nat} (hd : 6 ≤ d) {h : Hp} {x3 : Int32} {rf : Option Value} {hf : Hp} {x : (Int32 × Hp)} (hs : fX11_perform_85 h x3 = some x) (hk : (kX11_perform rf hf) x) : Go d mX11_perform 85 [none, none, none, some (.int x3)] [] h rf hf := by
  unfold fX11_perform_85 at hs
  refine go_iload_n (k4 := 3) rfl dX11_perform_85 ?_
  obtain rfl := Option.some.inj hs
  obtain ⟨rfl, rfl⟩ := hk
  exact go_iret rfl dX11_perform_86
noncomputable def fX11_perform_70 (h : Hp) (x0 : Nat) (x3 : Int32) : Option (Int32 × Hp) :=
  if x3 ≤ 0 then (
  fX11_perform_85 h x3) else (
    (gN h 11 x0 7).bind fun v10 =>
    (gN h 11 x0 5).bind fun v11 =>
    gO h 5 v10 (
    (fX5_remember h v10 v11).bind fun y12 =>
    fX11_perform_85 y12 x3))
theorem oX11_perform_70 {d : Nat} (hd : 6 ≤ d) {h : Hp} {x0 : Nat} {x3 : Int32} {rf : Option Value} {hf : Hp} {x : (Int32 × Hp)} (hs : fX11_perform_70 h x0 x3 = some x) (hk : (kX11_perform rf hf) x) : Go d mX11_perform 70 [some (.ref x0), none, none, some (.int x3)] [] h rf hf := by
  unfold fX11_perform_70 at hs
  refine go_iload_n (k4 := 3) rfl dX11_perform_70 ?_
  refine go_if_le (tgt := 85) (by decide) dX11_perform_71 (fun c => ?_) (fun c => ?_)
  · have hs := if_t c hs
    exact go_subL (L' := [none, none, none, some (.int x3)]) (by simp [subL, va_rf]) (oX11_perform_85 hd hs hk)
  · have hs := if_f c hs
    refine go_aload_n (k4 := 0) rfl (Or.inr ⟨_, rfl⟩) dX11_perform_74 ?_
    obtain ⟨v10, ev10, hs⟩ := bindS hs
    refine go_gN fl_RX11_49 ev10 dX11_perform_75 ?_
    refine go_aload_n (k4 := 0) rfl (Or.inr ⟨_, rfl⟩) dX11_perform_78 ?_
    obtain ⟨v11, ev11, hs⟩ := bindS hs
    refine go_gN fl_RX11_40 ev11 dX11_perform_79 ?_
    obtain ⟨g13, hs⟩ := gO_at hs
    obtain ⟨y12, ey12, hs⟩ := bindS hs
    refine go_V0 (As := [.ref v11]) (st := []) g13 rfl rfl (oX5_remember (d := d - 1) (by omega) ey12) (by omega) mb_X5_remember lm_RX11_196 mi_X5_remember (Nat.le_of_ble_eq_true rfl) rfl dX11_perform_82 ?_
    exact go_subL (L' := [none, none, none, some (.int x3)]) (by simp [subL, va_rf]) (oX11_perform_85 hd hs hk)
noncomputable def fX11_perform_40b (h : Hp) (x0 : Nat) (x2 : Nat) (x3 : Int32) : Option ((Int32 × Hp) ⊕ (Int32 × Hp)) :=
  (gI h 9 x2 3).bind fun v9 =>
  if v9 ≤ x3 then (
  (fX11_perform_70 h x0 x3).map (fun q => .inr q)) else (
    (gN h 11 x0 4).bind fun v14 =>
    gO h 9 x2 (
    (fX9_at h x2 x3).bind fun y15 =>
    gO h 11 x0 (
    (fX11_act h x0 v14 y15).bind fun y17 =>
    if y17.1 = 0 then (
      some (.inl ((x3 + Int32.ofInt 1), y17.2))) else (
    (fX11_perform_70 y17.2 x0 x3).map (fun q => .inr q)))))
noncomputable def fX11_perform_40 (h : Hp) (x0 : Nat) (x2 : Nat) (x3 : Int32) : Option (Int32 × Hp) := lpw (σ := (Int32 × Hp)) (fun s => fX11_perform_40b s.2 x0 x2 s.1) (x3, h)
theorem oX11_perform_40b {d : Nat} (hd : 6 ≤ d) {h : Hp} {x0 : Nat} {x2 : Nat} {x3 : Int32} {rf : Option Value} {hf : Hp} {x : ((Int32 × Hp) ⊕ (Int32 × Hp))} (hs : fX11_perform_40b h x0 x2 x3 = some x) (hk : (Kx (pX11_perform_40 d x0 x2 rf hf) (kX11_perform rf hf)) x) : Go d mX11_perform 40 [some (.ref x0), none, some (.ref x2), some (.int x3)] [] h rf hf := by
  unfold fX11_perform_40b at hs
  refine go_iload_n (k4 := 3) rfl dX11_perform_40 ?_
  refine go_aload_n (k4 := 2) rfl (Or.inr ⟨_, rfl⟩) dX11_perform_41 ?_
  obtain ⟨v9, ev9, hs⟩ := bindS hs
  refine go_gI fl_RX11_222 ev9 dX11_perform_42 ?_
  refine go_icmp_ge (tgt := 70) (by decide) dX11_perform_45 (fun c => ?_) (fun c => ?_)
  · have hs := if_t c hs
    obtain ⟨q, hs2, hq⟩ := mapS hs
    clear hs
    subst hq
    exact go_subL (L' := [some (.ref x0), none, none, some (.int x3)]) (by simp [subL, va_rf]) (oX11_perform_70 hd hs2 hk)
  · have hs := if_f c hs
    refine go_aload_n (k4 := 0) rfl (Or.inr ⟨_, rfl⟩) dX11_perform_48 ?_
    refine go_aload_n (k4 := 0) rfl (Or.inr ⟨_, rfl⟩) dX11_perform_49 ?_
    obtain ⟨v14, ev14, hs⟩ := bindS hs
    refine go_gN fl_RX11_36 ev14 dX11_perform_50 ?_
    refine go_aload_n (k4 := 2) rfl (Or.inr ⟨_, rfl⟩) dX11_perform_53 ?_
    refine go_iload_n (k4 := 3) rfl dX11_perform_54 ?_
    obtain ⟨g16, hs⟩ := gO_at hs
    obtain ⟨y15, ey15, hs⟩ := bindS hs
    refine go_V1 (As := [.int x3]) (st := [.ref v14, .ref x0]) g16 rfl rfl (oX9_at (d := d - 1) (by omega) ey15) (by omega) mb_X9_at lm_RX11_223 mi_X9_at (Nat.le_of_ble_eq_true rfl) rfl dX11_perform_55 ?_
    obtain ⟨g18, hs⟩ := gO_at hs
    obtain ⟨y17, ey17, hs⟩ := bindS hs
    refine go_V1 (As := [.ref v14, .long y15]) (st := []) g18 rfl rfl (oX11_act (d := d - 1) (by omega) ey17) (by omega) mb_X11_act lm_RX11_227 mi_X11_act (Nat.le_of_ble_eq_true rfl) rfl dX11_perform_58 ?_
    refine go_at 61 rfl ?_
    refine go_if_ne (tgt := 70) (by decide) dX11_perform_61 (fun c => ?_) (fun c => ?_)
    · have hs := if_f c hs
      obtain ⟨q, hs2, hq⟩ := mapS hs
      clear hs
      subst hq
      exact go_subL (L' := [some (.ref x0), none, none, some (.int x3)]) (by simp [subL, va_rf]) (oX11_perform_70 hd hs2 hk)
    · have hs := if_t c hs
      refine go_iinc (L' := [some (.ref x0), none, some (.ref x2), some (.int (x3 + Int32.ofInt 1))]) rfl (by decide) rfl rfl dX11_perform_64 ?_
      refine go_goto (tgt := 40) (by decide) dX11_perform_67 ?_
      obtain rfl := Option.some.inj hs
      exact go_subL (L' := [some (.ref x0), none, some (.ref x2), some (.int (x3 + Int32.ofInt 1))]) (by simp [subL, va_rf]) hk
theorem oX11_perform_40 {d : Nat} (hd : 6 ≤ d) {h : Hp} {x0 : Nat} {x2 : Nat} {x3 : Int32} {rf : Option Value} {hf : Hp} {x : (Int32 × Hp)} (hs : fX11_perform_40 h x0 x2 x3 = some x) (hk : (kX11_perform rf hf) x) : Go d mX11_perform 40 [some (.ref x0), none, some (.ref x2), some (.int x3)] [] h rf hf := by
  unfold fX11_perform_40 at hs
  exact lpw_go (P := pX11_perform_40 d x0 x2 rf hf) (fun s x hs hk => oX11_perform_40b hd hs hk) (x3, h) x hs hk
noncomputable def fX11_perform (h : Hp) (x0 : Nat) (x1 : Int32) : Option (Int32 × Hp) :=
  (fX11_isTray h x1).bind fun y1 =>
  if y1 = 0 then (
    some (((-2 : Int32), h))) else (
    (gN h 11 x0 8).bind fun v2 =>
    (aN h v2 x1).bind fun v3 =>
    (gI h 9 v3 2).bind fun v4 =>
    if v4 = 0 then (
      (gN h 11 x0 5).bind fun v5 =>
      (gN h 11 x0 4).bind fun v6 =>
      gO h 8 v5 (
      (fX8_copy h v5 v6).bind fun y7 =>
      fX11_perform_40 y7 x0 v3 (0 : Int32))) else (
      some (((-6 : Int32), h))))
theorem oX11_perform_0 {d : Nat} (hd : 6 ≤ d) {h : Hp} {x0 : Nat} {x1 : Int32} {rf : Option Value} {hf : Hp} {x : (Int32 × Hp)} (hs : fX11_perform h x0 x1 = some x) (hk : (kX11_perform rf hf) x) : Go d mX11_perform 0 [some (.ref x0), some (.int x1), none, none] [] h rf hf := by
  unfold fX11_perform at hs
  refine go_iload_n (k4 := 1) rfl dX11_perform_0 ?_
  obtain ⟨y1, ey1, hs⟩ := bindS hs
  refine go_S1 (As := [.int x1]) (st := []) (oX11_isTray (d := d - 1) (by omega) ey1) (by omega) mb_X11_isTray lm_RX11_215 ms_X11_isTray (Nat.le_of_ble_eq_true rfl) rfl dX11_perform_1 ?_
  refine go_if_ne (tgt := 10) (by decide) dX11_perform_4 (fun c => ?_) (fun c => ?_)
  · have hs := if_f c hs
    refine go_aload_n (k4 := 0) rfl (Or.inr ⟨_, rfl⟩) dX11_perform_10 ?_
    obtain ⟨v2, ev2, hs⟩ := bindS hs
    refine go_gN fl_RX11_55 ev2 dX11_perform_11 ?_
    refine go_iload_n (k4 := 1) rfl dX11_perform_14 ?_
    obtain ⟨v3, ev3, hs⟩ := bindS hs
    refine go_aN ev3 dX11_perform_15 ?_
    refine go_astore_n (k4 := 2) (L' := [some (.ref x0), some (.int x1), some (.ref v3), none]) (by decide) (Or.inr ⟨_, rfl⟩) rfl dX11_perform_16 ?_
    refine go_aload_n (k4 := 2) rfl (Or.inr ⟨_, rfl⟩) dX11_perform_17 ?_
    obtain ⟨v4, ev4, hs⟩ := bindS hs
    refine go_gI fl_RX11_218 ev4 dX11_perform_18 ?_
    refine go_at 21 rfl ?_
    refine go_if_eq (tgt := 27) (by decide) dX11_perform_21 (fun c => ?_) (fun c => ?_)
    · have hs := if_t c hs
      refine go_aload_n (k4 := 0) rfl (Or.inr ⟨_, rfl⟩) dX11_perform_27 ?_
      obtain ⟨v5, ev5, hs⟩ := bindS hs
      refine go_gN fl_RX11_40 ev5 dX11_perform_28 ?_
      refine go_aload_n (k4 := 0) rfl (Or.inr ⟨_, rfl⟩) dX11_perform_31 ?_
      obtain ⟨v6, ev6, hs⟩ := bindS hs
      refine go_gN fl_RX11_36 ev6 dX11_perform_32 ?_
      obtain ⟨g8, hs⟩ := gO_at hs
      obtain ⟨y7, ey7, hs⟩ := bindS hs
      refine go_V0 (As := [.ref v6]) (st := []) g8 rfl rfl (oX8_copy (d := d - 1) (by omega) ey7) (by omega) mb_X8_copy lm_RX11_188 mi_X8_copy (Nat.le_of_ble_eq_true rfl) rfl dX11_perform_35 ?_
      refine go_iconst (v := 0) (by decide) dX11_perform_38 ?_
      refine go_istore_n (k4 := 3) (L' := [some (.ref x0), some (.int x1), some (.ref v3), some (.int (0 : Int32))]) (by decide) rfl dX11_perform_39 ?_
      exact go_subL (L' := [some (.ref x0), none, some (.ref v3), some (.int (0 : Int32))]) (by simp [subL, va_rf]) (oX11_perform_40 hd hs hk)
    · have hs := if_f c hs
      refine go_bipush (v := -6) (by decide) dX11_perform_24 ?_
      obtain rfl := Option.some.inj hs
      obtain ⟨rfl, rfl⟩ := hk
      exact go_iret rfl dX11_perform_26
  · have hs := if_t c hs
    refine go_bipush (v := -2) (by decide) dX11_perform_7 ?_
    obtain rfl := Option.some.inj hs
    obtain ⟨rfl, rfl⟩ := hk
    exact go_iret rfl dX11_perform_9
theorem oX11_perform {d : Nat} (hd : 6 ≤ d) {h : Hp} {x0 : Nat} {x1 : Int32} {y : (Int32 × Hp)} (hs : fX11_perform h x0 x1 = some y) : Call d mX11_perform [.ref x0, .int x1] h (some (.int y.1)) (y.2) := call_of (by decide +kernel) (Nat.le_of_ble_eq_true rfl) (show Go d mX11_perform 0 [some (.ref x0), some (.int x1), none, none] [] h _ _ from go_subL (by simp [subL]) (oX11_perform_0 hd hs ⟨rfl, rfl⟩))
abbrev kX11_draw (rf : Option Value) (hf : Hp) : (Int32 × Hp) → Prop := fun y => rf = some (.int y.1) ∧ hf = y.2
noncomputable def fX11_draw (h : Hp) (x0 : Nat) : Option (Int32 × Hp) :=
  (gI h 11 x0 18).bind fun v1 =>
  (sV h 11 x0 18 (.int (((1103515245 : Int32) * v1) + (12345 : Int32)))).bind fun h2 =>
  (gI h2 11 x0 18).bind fun v3 =>
  lt ((v3.toUInt32 >>> ((16 : Int32).toUInt32 &&& Int32.toUInt32 31)).toInt32) fun w4 =>
  some ((w4, h2))
theorem oX11_draw_0 {d : Nat} (hd : 0 ≤ d) {h : Hp} {x0 : Nat} {rf : Option Value} {hf : Hp} {x : (Int32 × Hp)} (hs : fX11_draw h x0 = some x) (hk : (kX11_draw rf hf) x) : Go d mX11_draw 0 [some (.ref x0)] [] h rf hf := by
  unfold fX11_draw at hs
  refine go_aload_n (k4 := 0) rfl (Or.inr ⟨_, rfl⟩) dX11_draw_0 ?_
  refine go_ldc lc_RX11_244 dX11_draw_1 ?_
  refine go_aload_n (k4 := 0) rfl (Or.inr ⟨_, rfl⟩) dX11_draw_3 ?_
  obtain ⟨v1, ev1, hs⟩ := bindS hs
  refine go_gI fl_RX11_111 ev1 dX11_draw_4 ?_
  refine go_imul dX11_draw_7 ?_
  refine go_sipush (v := 12345) (by decide) dX11_draw_8 ?_
  refine go_iadd dX11_draw_11 ?_
  refine go_at 12 rfl ?_
  obtain ⟨h2, eh2, hs⟩ := bindS hs
  refine go_sV fw_RX11_111 eh2 rfl rfl dX11_draw_12 ?_
  refine go_aload_n (k4 := 0) rfl (Or.inr ⟨_, rfl⟩) dX11_draw_15 ?_
  obtain ⟨v3, ev3, hs⟩ := bindS hs
  refine go_gI fl_RX11_111 ev3 dX11_draw_16 ?_
  refine go_bipush (v := 16) (by decide) dX11_draw_19 ?_
  refine go_iushr dX11_draw_21 ?_
  obtain ⟨w4, ew4, hs⟩ := lt_at hs
  rw [← ew4]
  obtain rfl := Option.some.inj hs
  obtain ⟨rfl, rfl⟩ := hk
  exact go_iret rfl dX11_draw_22
theorem oX11_draw {d : Nat} (hd : 0 ≤ d) {h : Hp} {x0 : Nat} {y : (Int32 × Hp)} (hs : fX11_draw h x0 = some y) : Call d mX11_draw [.ref x0] h (some (.int y.1)) (y.2) := call_of (by decide +kernel) (Nat.le_of_ble_eq_true rfl) (show Go d mX11_draw 0 [some (.ref x0)] [] h _ _ from go_subL (by simp [subL]) (oX11_draw_0 hd hs ⟨rfl, rfl⟩))
abbrev kX11_drawDeed (rf : Option Value) (hf : Hp) : (Int32 × Hp) → Prop := fun y => rf = some (.int y.1) ∧ hf = y.2
noncomputable def fX11_drawDeed_27 (h : Hp) (s0 : Int32) : Option (Int32 × Hp) :=
  some ((s0, h))
theorem oX11_drawDeed_27 {d : Nat} (hd : 1 ≤ d) {h : Hp} {s0 : Int32} {rf : Option Value} {hf : Hp} {x : (Int32 × Hp)} (hs : fX11_drawDeed_27 h s0 = some x) (hk : (kX11_drawDeed rf hf) x) : Go d mX11_drawDeed 27 [none, none, none] [.int s0] h rf hf := by
  unfold fX11_drawDeed_27 at hs
  obtain rfl := Option.some.inj hs
  obtain ⟨rfl, rfl⟩ := hk
  exact go_iret rfl dX11_drawDeed_27
noncomputable def fX11_drawDeed (h : Hp) (x0 : Nat) : Option (Int32 × Hp) :=
  gO h 11 x0 (
  (fX11_draw h x0).bind fun y1 =>
  (rm y1.1 (6 : Int32)).bind fun v3 =>
  if (2 : Int32) < v3 then (
    if v3 = (3 : Int32) then (
      gO y1.2 11 x0 (
      (fX11_draw y1.2 x0).bind fun y13 =>
      (rm y13.1 (4 : Int32)).bind fun v15 =>
      some ((((10 : Int32) + v15), y13.2)))) else (
      if v3 = (4 : Int32) then (
        gO y1.2 11 x0 (
        (fX11_draw y1.2 x0).bind fun y7 =>
        (rm y7.1 (4 : Int32)).bind fun v9 =>
        gO y7.2 11 x0 (
        (fX11_draw y7.2 x0).bind fun y10 =>
        (rm y10.1 (10 : Int32)).bind fun v12 =>
        some (((((100 : Int32) + ((10 : Int32) * v9)) + v12), y10.2))))) else (
        gO y1.2 11 x0 (
        (fX11_draw y1.2 x0).bind fun y4 =>
        (rm y4.1 (625 : Int32)).bind fun v6 =>
        some ((((1000 : Int32) + v6), y4.2)))))) else (
    gO y1.2 11 x0 (
    (fX11_draw y1.2 x0).bind fun y16 =>
    (rm y16.1 (3 : Int32)).bind fun v18 =>
    if v18 = 0 then (
      fX11_drawDeed_27 y16.2 (1 : Int32)) else (
      fX11_drawDeed_27 y16.2 (0 : Int32)))))
theorem oX11_drawDeed_0 {d : Nat} (hd : 1 ≤ d) {h : Hp} {x0 : Nat} {rf : Option Value} {hf : Hp} {x : (Int32 × Hp)} (hs : fX11_drawDeed h x0 = some x) (hk : (kX11_drawDeed rf hf) x) : Go d mX11_drawDeed 0 [some (.ref x0), none, none] [] h rf hf := by
  unfold fX11_drawDeed at hs
  refine go_aload_n (k4 := 0) rfl (Or.inr ⟨_, rfl⟩) dX11_drawDeed_0 ?_
  obtain ⟨g2, hs⟩ := gO_at hs
  obtain ⟨y1, ey1, hs⟩ := bindS hs
  refine go_V1 (As := []) (st := []) g2 rfl rfl (oX11_draw (d := d - 1) (by omega) ey1) (by omega) mb_X11_draw lm_RX11_241 mi_X11_draw (Nat.le_of_ble_eq_true rfl) rfl dX11_drawDeed_1 ?_
  refine go_bipush (v := 6) (by decide) dX11_drawDeed_4 ?_
  obtain ⟨v3, ev3, hs⟩ := bindS hs
  refine go_rm ev3 dX11_drawDeed_6 ?_
  refine go_istore_n (k4 := 1) (L' := [some (.ref x0), some (.int v3), none]) (by decide) rfl dX11_drawDeed_7 ?_
  refine go_iload_n (k4 := 1) rfl dX11_drawDeed_8 ?_
  refine go_iconst (v := 2) (by decide) dX11_drawDeed_9 ?_
  refine go_at 10 rfl ?_
  refine go_icmp_gt (tgt := 28) (by decide) dX11_drawDeed_10 (fun c => ?_) (fun c => ?_)
  · have hs := if_t c hs
    refine go_iload_n (k4 := 1) rfl dX11_drawDeed_28 ?_
    refine go_iconst (v := 3) (by decide) dX11_drawDeed_29 ?_
    refine go_icmp_ne (tgt := 43) (by decide) dX11_drawDeed_30 (fun c => ?_) (fun c => ?_)
    · have hs := if_f c hs
      refine go_iload_n (k4 := 1) rfl dX11_drawDeed_43 ?_
      refine go_iconst (v := 4) (by decide) dX11_drawDeed_44 ?_
      refine go_icmp_ne (tgt := 71) (by decide) dX11_drawDeed_45 (fun c => ?_) (fun c => ?_)
      · have hs := if_f c hs
        refine go_sipush (v := 1000) (by decide) dX11_drawDeed_71 ?_
        refine go_aload_n (k4 := 0) rfl (Or.inr ⟨_, rfl⟩) dX11_drawDeed_74 ?_
        obtain ⟨g5, hs⟩ := gO_at hs
        obtain ⟨y4, ey4, hs⟩ := bindS hs
        refine go_V1 (As := []) (st := [.int (1000 : Int32)]) g5 rfl rfl (oX11_draw (d := d - 1) (by omega) ey4) (by omega) mb_X11_draw lm_RX11_241 mi_X11_draw (Nat.le_of_ble_eq_true rfl) rfl dX11_drawDeed_75 ?_
        refine go_sipush (v := 625) (by decide) dX11_drawDeed_78 ?_
        obtain ⟨v6, ev6, hs⟩ := bindS hs
        refine go_rm ev6 dX11_drawDeed_81 ?_
        refine go_iadd dX11_drawDeed_82 ?_
        obtain rfl := Option.some.inj hs
        obtain ⟨rfl, rfl⟩ := hk
        exact go_iret rfl dX11_drawDeed_83
      · have hs := if_t c hs
        refine go_aload_n (k4 := 0) rfl (Or.inr ⟨_, rfl⟩) dX11_drawDeed_48 ?_
        obtain ⟨g8, hs⟩ := gO_at hs
        obtain ⟨y7, ey7, hs⟩ := bindS hs
        refine go_V1 (As := []) (st := []) g8 rfl rfl (oX11_draw (d := d - 1) (by omega) ey7) (by omega) mb_X11_draw lm_RX11_241 mi_X11_draw (Nat.le_of_ble_eq_true rfl) rfl dX11_drawDeed_49 ?_
        refine go_iconst (v := 4) (by decide) dX11_drawDeed_52 ?_
        obtain ⟨v9, ev9, hs⟩ := bindS hs
        refine go_rm ev9 dX11_drawDeed_53 ?_
        refine go_istore_n (k4 := 2) (L' := [some (.ref x0), some (.int v3), some (.int v9)]) (by decide) rfl dX11_drawDeed_54 ?_
        refine go_bipush (v := 100) (by decide) dX11_drawDeed_55 ?_
        refine go_bipush (v := 10) (by decide) dX11_drawDeed_57 ?_
        refine go_at 59 rfl ?_
        refine go_iload_n (k4 := 2) rfl dX11_drawDeed_59 ?_
        refine go_imul dX11_drawDeed_60 ?_
        refine go_iadd dX11_drawDeed_61 ?_
        refine go_aload_n (k4 := 0) rfl (Or.inr ⟨_, rfl⟩) dX11_drawDeed_62 ?_
        obtain ⟨g11, hs⟩ := gO_at hs
        obtain ⟨y10, ey10, hs⟩ := bindS hs
        refine go_V1 (As := []) (st := [.int ((100 : Int32) + ((10 : Int32) * v9))]) g11 rfl rfl (oX11_draw (d := d - 1) (by omega) ey10) (by omega) mb_X11_draw lm_RX11_241 mi_X11_draw (Nat.le_of_ble_eq_true rfl) rfl dX11_drawDeed_63 ?_
        refine go_bipush (v := 10) (by decide) dX11_drawDeed_66 ?_
        obtain ⟨v12, ev12, hs⟩ := bindS hs
        refine go_rm ev12 dX11_drawDeed_68 ?_
        refine go_iadd dX11_drawDeed_69 ?_
        refine go_at 70 rfl ?_
        obtain rfl := Option.some.inj hs
        obtain ⟨rfl, rfl⟩ := hk
        exact go_iret rfl dX11_drawDeed_70
    · have hs := if_t c hs
      refine go_bipush (v := 10) (by decide) dX11_drawDeed_33 ?_
      refine go_aload_n (k4 := 0) rfl (Or.inr ⟨_, rfl⟩) dX11_drawDeed_35 ?_
      obtain ⟨g14, hs⟩ := gO_at hs
      obtain ⟨y13, ey13, hs⟩ := bindS hs
      refine go_V1 (As := []) (st := [.int (10 : Int32)]) g14 rfl rfl (oX11_draw (d := d - 1) (by omega) ey13) (by omega) mb_X11_draw lm_RX11_241 mi_X11_draw (Nat.le_of_ble_eq_true rfl) rfl dX11_drawDeed_36 ?_
      refine go_iconst (v := 4) (by decide) dX11_drawDeed_39 ?_
      obtain ⟨v15, ev15, hs⟩ := bindS hs
      refine go_rm ev15 dX11_drawDeed_40 ?_
      refine go_iadd dX11_drawDeed_41 ?_
      obtain rfl := Option.some.inj hs
      obtain ⟨rfl, rfl⟩ := hk
      exact go_iret rfl dX11_drawDeed_42
  · have hs := if_f c hs
    refine go_aload_n (k4 := 0) rfl (Or.inr ⟨_, rfl⟩) dX11_drawDeed_13 ?_
    obtain ⟨g17, hs⟩ := gO_at hs
    obtain ⟨y16, ey16, hs⟩ := bindS hs
    refine go_V1 (As := []) (st := []) g17 rfl rfl (oX11_draw (d := d - 1) (by omega) ey16) (by omega) mb_X11_draw lm_RX11_241 mi_X11_draw (Nat.le_of_ble_eq_true rfl) rfl dX11_drawDeed_14 ?_
    refine go_iconst (v := 3) (by decide) dX11_drawDeed_17 ?_
    obtain ⟨v18, ev18, hs⟩ := bindS hs
    refine go_rm ev18 dX11_drawDeed_18 ?_
    refine go_if_ne (tgt := 26) (by decide) dX11_drawDeed_19 (fun c => ?_) (fun c => ?_)
    · have hs := if_f c hs
      refine go_iconst (v := 0) (by decide) dX11_drawDeed_26 ?_
      exact go_subL (L' := [none, none, none]) (by simp [subL, va_rf]) (oX11_drawDeed_27 hd hs hk)
    · have hs := if_t c hs
      refine go_iconst (v := 1) (by decide) dX11_drawDeed_22 ?_
      refine go_goto (tgt := 27) (by decide) dX11_drawDeed_23 ?_
      exact go_subL (L' := [none, none, none]) (by simp [subL, va_rf]) (oX11_drawDeed_27 hd hs hk)
theorem oX11_drawDeed {d : Nat} (hd : 1 ≤ d) {h : Hp} {x0 : Nat} {y : (Int32 × Hp)} (hs : fX11_drawDeed h x0 = some y) : Call d mX11_drawDeed [.ref x0] h (some (.int y.1)) (y.2) := call_of (by decide +kernel) (Nat.le_of_ble_eq_true rfl) (show Go d mX11_drawDeed 0 [some (.ref x0), none, none] [] h _ _ from go_subL (by simp [subL]) (oX11_drawDeed_0 hd hs ⟨rfl, rfl⟩))
abbrev kX11_age (rf : Option Value) (hf : Hp) : (Int32 × Hp) → Prop := fun y => rf = some (.int y.1) ∧ hf = y.2
noncomputable def fX11_age_11 (h : Hp)  : Option (Int32 × Hp) :=
  some (((-3 : Int32), h))
theorem oX11_age_11 {d : Nat} (hd : 6 ≤ d) {h : Hp} {rf : Option Value} {hf : Hp} {x : (Int32 × Hp)} (hs : fX11_age_11 h  = some x) (hk : (kX11_age rf hf) x) : Go d mX11_age 11 [none, none, none, none, none] [] h rf hf := by
  unfold fX11_age_11 at hs
  refine go_bipush (v := -3) (by decide) dX11_age_11 ?_
  obtain rfl := Option.some.inj hs
  obtain ⟨rfl, rfl⟩ := hk
  exact go_iret rfl dX11_age_13
abbrev pX11_age_35 (d : Nat) (x0 : Nat) (x2 : Int32) (rf : Option Value) (hf : Hp) : (Int32 × Int32 × Hp) → Prop := fun s => Go d mX11_age 35 [some (.ref x0), none, some (.int x2), some (.int s.1), some (.int s.2.1)] [] s.2.2 rf hf
noncomputable def fX11_age_81 (h : Hp) (x3 : Int32) : Option (Int32 × Hp) :=
  some ((x3, h))
theorem oX11_age_81 {d : Nat} (hd : 6 ≤ d) {h : Hp} {x3 : Int32} {rf : Option Value} {hf : Hp} {x : (Int32 × Hp)} (hs : fX11_age_81 h x3 = some x) (hk : (kX11_age rf hf) x) : Go d mX11_age 81 [none, none, none, some (.int x3), none] [] h rf hf := by
  unfold fX11_age_81 at hs
  refine go_iload_n (k4 := 3) rfl dX11_age_81 ?_
  obtain rfl := Option.some.inj hs
  obtain ⟨rfl, rfl⟩ := hk
  exact go_iret rfl dX11_age_82
noncomputable def fX11_age_66 (h : Hp) (x0 : Nat) (x3 : Int32) : Option (Int32 × Hp) :=
  if x3 ≤ 0 then (
  fX11_age_81 h x3) else (
    (gN h 11 x0 7).bind fun v6 =>
    (gN h 11 x0 5).bind fun v7 =>
    gO h 5 v6 (
    (fX5_remember h v6 v7).bind fun y8 =>
    fX11_age_81 y8 x3))
theorem oX11_age_66 {d : Nat} (hd : 6 ≤ d) {h : Hp} {x0 : Nat} {x3 : Int32} {rf : Option Value} {hf : Hp} {x : (Int32 × Hp)} (hs : fX11_age_66 h x0 x3 = some x) (hk : (kX11_age rf hf) x) : Go d mX11_age 66 [some (.ref x0), none, none, some (.int x3), none] [] h rf hf := by
  unfold fX11_age_66 at hs
  refine go_iload_n (k4 := 3) rfl dX11_age_66 ?_
  refine go_if_le (tgt := 81) (by decide) dX11_age_67 (fun c => ?_) (fun c => ?_)
  · have hs := if_t c hs
    exact go_subL (L' := [none, none, none, some (.int x3), none]) (by simp [subL, va_rf]) (oX11_age_81 hd hs hk)
  · have hs := if_f c hs
    refine go_aload_n (k4 := 0) rfl (Or.inr ⟨_, rfl⟩) dX11_age_70 ?_
    obtain ⟨v6, ev6, hs⟩ := bindS hs
    refine go_gN fl_RX11_49 ev6 dX11_age_71 ?_
    refine go_aload_n (k4 := 0) rfl (Or.inr ⟨_, rfl⟩) dX11_age_74 ?_
    obtain ⟨v7, ev7, hs⟩ := bindS hs
    refine go_gN fl_RX11_40 ev7 dX11_age_75 ?_
    obtain ⟨g9, hs⟩ := gO_at hs
    obtain ⟨y8, ey8, hs⟩ := bindS hs
    refine go_V0 (As := [.ref v7]) (st := []) g9 rfl rfl (oX5_remember (d := d - 1) (by omega) ey8) (by omega) mb_X5_remember lm_RX11_196 mi_X5_remember (Nat.le_of_ble_eq_true rfl) rfl dX11_age_78 ?_
    exact go_subL (L' := [none, none, none, some (.int x3), none]) (by simp [subL, va_rf]) (oX11_age_81 hd hs hk)
noncomputable def fX11_age_60 (h : Hp) (x0 : Nat) (x2 : Int32) (x3 : Int32) (x4 : Int32) : Option ((Int32 × Int32 × Hp) ⊕ (Int32 × Hp)) :=
  some (.inl (x3, (x4 + Int32.ofInt 1), h))
theorem oX11_age_60 {d : Nat} (hd : 6 ≤ d) {h : Hp} {x0 : Nat} {x2 : Int32} {x3 : Int32} {x4 : Int32} {rf : Option Value} {hf : Hp} {x : ((Int32 × Int32 × Hp) ⊕ (Int32 × Hp))} (hs : fX11_age_60 h x0 x2 x3 x4 = some x) (hk : (Kx (pX11_age_35 d x0 x2 rf hf) (kX11_age rf hf)) x) : Go d mX11_age 60 [some (.ref x0), none, some (.int x2), some (.int x3), some (.int x4)] [] h rf hf := by
  unfold fX11_age_60 at hs
  refine go_iinc (L' := [some (.ref x0), none, some (.int x2), some (.int x3), some (.int (x4 + Int32.ofInt 1))]) rfl (by decide) rfl rfl dX11_age_60 ?_
  refine go_goto (tgt := 35) (by decide) dX11_age_63 ?_
  obtain rfl := Option.some.inj hs
  exact go_subL (L' := [some (.ref x0), none, some (.int x2), some (.int x3), some (.int (x4 + Int32.ofInt 1))]) (by simp [subL, va_rf]) hk
noncomputable def fX11_age_35b (h : Hp) (x0 : Nat) (x2 : Int32) (x3 : Int32) (x4 : Int32) : Option ((Int32 × Int32 × Hp) ⊕ (Int32 × Hp)) :=
  if x2 ≤ x4 then (
  (fX11_age_66 h x0 x3).map (fun q => .inr q)) else (
    (gN h 11 x0 4).bind fun v10 =>
    gO h 11 x0 (
    (fX11_drawDeed h x0).bind fun y11 =>
    gO y11.2 11 x0 (
    (fX11_act y11.2 x0 v10 (y11.1.toInt64)).bind fun y13 =>
    if y13.1 = 0 then (
      fX11_age_60 y13.2 x0 x2 (x3 + Int32.ofInt 1) x4) else (
    fX11_age_60 y13.2 x0 x2 x3 x4))))
noncomputable def fX11_age_35 (h : Hp) (x0 : Nat) (x2 : Int32) (x3 : Int32) (x4 : Int32) : Option (Int32 × Hp) := lpw (σ := (Int32 × Int32 × Hp)) (fun s => fX11_age_35b s.2.2 x0 x2 s.1 s.2.1) (x3, x4, h)
theorem oX11_age_35b {d : Nat} (hd : 6 ≤ d) {h : Hp} {x0 : Nat} {x2 : Int32} {x3 : Int32} {x4 : Int32} {rf : Option Value} {hf : Hp} {x : ((Int32 × Int32 × Hp) ⊕ (Int32 × Hp))} (hs : fX11_age_35b h x0 x2 x3 x4 = some x) (hk : (Kx (pX11_age_35 d x0 x2 rf hf) (kX11_age rf hf)) x) : Go d mX11_age 35 [some (.ref x0), none, some (.int x2), some (.int x3), some (.int x4)] [] h rf hf := by
  unfold fX11_age_35b at hs
  refine go_iload rfl dX11_age_35 ?_
  refine go_iload_n (k4 := 2) rfl dX11_age_37 ?_
  refine go_icmp_ge (tgt := 66) (by decide) dX11_age_38 (fun c => ?_) (fun c => ?_)
  · have hs := if_t c hs
    obtain ⟨q, hs2, hq⟩ := mapS hs
    clear hs
    subst hq
    exact go_subL (L' := [some (.ref x0), none, none, some (.int x3), none]) (by simp [subL, va_rf]) (oX11_age_66 hd hs2 hk)
  · have hs := if_f c hs
    refine go_aload_n (k4 := 0) rfl (Or.inr ⟨_, rfl⟩) dX11_age_41 ?_
    refine go_aload_n (k4 := 0) rfl (Or.inr ⟨_, rfl⟩) dX11_age_42 ?_
    obtain ⟨v10, ev10, hs⟩ := bindS hs
    refine go_gN fl_RX11_36 ev10 dX11_age_43 ?_
    refine go_aload_n (k4 := 0) rfl (Or.inr ⟨_, rfl⟩) dX11_age_46 ?_
    obtain ⟨g12, hs⟩ := gO_at hs
    obtain ⟨y11, ey11, hs⟩ := bindS hs
    refine go_V1 (As := []) (st := [.ref v10, .ref x0]) g12 rfl rfl (oX11_drawDeed (d := d - 1) (by omega) ey11) (by omega) mb_X11_drawDeed lm_RX11_237 mi_X11_drawDeed (Nat.le_of_ble_eq_true rfl) rfl dX11_age_47 ?_
    refine go_i2l dX11_age_50 ?_
    obtain ⟨g14, hs⟩ := gO_at hs
    obtain ⟨y13, ey13, hs⟩ := bindS hs
    refine go_V1 (As := [.ref v10, .long (y11.1.toInt64)]) (st := []) g14 rfl rfl (oX11_act (d := d - 1) (by omega) ey13) (by omega) mb_X11_act lm_RX11_227 mi_X11_act (Nat.le_of_ble_eq_true rfl) rfl dX11_age_51 ?_
    refine go_at 54 rfl ?_
    refine go_if_ne (tgt := 60) (by decide) dX11_age_54 (fun c => ?_) (fun c => ?_)
    · have hs := if_f c hs
      exact go_subL (L' := [some (.ref x0), none, some (.int x2), some (.int x3), some (.int x4)]) (by simp [subL, va_rf]) (oX11_age_60 hd hs hk)
    · have hs := if_t c hs
      refine go_iinc (L' := [some (.ref x0), none, some (.int x2), some (.int (x3 + Int32.ofInt 1)), some (.int x4)]) rfl (by decide) rfl rfl dX11_age_57 ?_
      exact go_subL (L' := [some (.ref x0), none, some (.int x2), some (.int (x3 + Int32.ofInt 1)), some (.int x4)]) (by simp [subL, va_rf]) (oX11_age_60 hd hs hk)
theorem oX11_age_35 {d : Nat} (hd : 6 ≤ d) {h : Hp} {x0 : Nat} {x2 : Int32} {x3 : Int32} {x4 : Int32} {rf : Option Value} {hf : Hp} {x : (Int32 × Hp)} (hs : fX11_age_35 h x0 x2 x3 x4 = some x) (hk : (kX11_age rf hf) x) : Go d mX11_age 35 [some (.ref x0), none, some (.int x2), some (.int x3), some (.int x4)] [] h rf hf := by
  unfold fX11_age_35 at hs
  exact lpw_go (P := pX11_age_35 d x0 x2 rf hf) (fun s x hs hk => oX11_age_35b hd hs hk) (x3, x4, h) x hs hk
noncomputable def fX11_age (h : Hp) (x0 : Nat) (x1 : Int32) (x2 : Int32) : Option (Int32 × Hp) :=
  if x2 < (1 : Int32) then (
  fX11_age_11 h ) else (
    if x2 ≤ (40 : Int32) then (
      (gN h 11 x0 5).bind fun v1 =>
      (gN h 11 x0 4).bind fun v2 =>
      gO h 8 v1 (
      (fX8_copy h v1 v2).bind fun y3 =>
      (sV y3 11 x0 18 (.int x1)).bind fun h5 =>
      fX11_age_35 h5 x0 x2 (0 : Int32) (0 : Int32))) else (
    fX11_age_11 h ))
theorem oX11_age_0 {d : Nat} (hd : 6 ≤ d) {h : Hp} {x0 : Nat} {x1 : Int32} {x2 : Int32} {rf : Option Value} {hf : Hp} {x : (Int32 × Hp)} (hs : fX11_age h x0 x1 x2 = some x) (hk : (kX11_age rf hf) x) : Go d mX11_age 0 [some (.ref x0), some (.int x1), some (.int x2), none, none] [] h rf hf := by
  unfold fX11_age at hs
  refine go_iload_n (k4 := 2) rfl dX11_age_0 ?_
  refine go_iconst (v := 1) (by decide) dX11_age_1 ?_
  refine go_icmp_lt (tgt := 11) (by decide) dX11_age_2 (fun c => ?_) (fun c => ?_)
  · have hs := if_t c hs
    exact go_subL (L' := [none, none, none, none, none]) (by simp [subL, va_rf]) (oX11_age_11 hd hs hk)
  · have hs := if_f c hs
    refine go_iload_n (k4 := 2) rfl dX11_age_5 ?_
    refine go_bipush (v := 40) (by decide) dX11_age_6 ?_
    refine go_icmp_le (tgt := 14) (by decide) dX11_age_8 (fun c => ?_) (fun c => ?_)
    · have hs := if_t c hs
      refine go_aload_n (k4 := 0) rfl (Or.inr ⟨_, rfl⟩) dX11_age_14 ?_
      obtain ⟨v1, ev1, hs⟩ := bindS hs
      refine go_gN fl_RX11_40 ev1 dX11_age_15 ?_
      refine go_aload_n (k4 := 0) rfl (Or.inr ⟨_, rfl⟩) dX11_age_18 ?_
      obtain ⟨v2, ev2, hs⟩ := bindS hs
      refine go_gN fl_RX11_36 ev2 dX11_age_19 ?_
      obtain ⟨g4, hs⟩ := gO_at hs
      obtain ⟨y3, ey3, hs⟩ := bindS hs
      refine go_V0 (As := [.ref v2]) (st := []) g4 rfl rfl (oX8_copy (d := d - 1) (by omega) ey3) (by omega) mb_X8_copy lm_RX11_188 mi_X8_copy (Nat.le_of_ble_eq_true rfl) rfl dX11_age_22 ?_
      refine go_aload_n (k4 := 0) rfl (Or.inr ⟨_, rfl⟩) dX11_age_25 ?_
      refine go_iload_n (k4 := 1) rfl dX11_age_26 ?_
      refine go_at 27 rfl ?_
      obtain ⟨h5, eh5, hs⟩ := bindS hs
      refine go_sV fw_RX11_111 eh5 rfl rfl dX11_age_27 ?_
      refine go_iconst (v := 0) (by decide) dX11_age_30 ?_
      refine go_istore_n (k4 := 3) (L' := [some (.ref x0), some (.int x1), some (.int x2), some (.int (0 : Int32)), none]) (by decide) rfl dX11_age_31 ?_
      refine go_iconst (v := 0) (by decide) dX11_age_32 ?_
      refine go_istore (L' := [some (.ref x0), some (.int x1), some (.int x2), some (.int (0 : Int32)), some (.int (0 : Int32))]) (by decide) rfl dX11_age_33 ?_
      exact go_subL (L' := [some (.ref x0), none, some (.int x2), some (.int (0 : Int32)), some (.int (0 : Int32))]) (by simp [subL, va_rf]) (oX11_age_35 hd hs hk)
    · have hs := if_f c hs
      exact go_subL (L' := [none, none, none, none, none]) (by simp [subL, va_rf]) (oX11_age_11 hd hs hk)
theorem oX11_age {d : Nat} (hd : 6 ≤ d) {h : Hp} {x0 : Nat} {x1 : Int32} {x2 : Int32} {y : (Int32 × Hp)} (hs : fX11_age h x0 x1 x2 = some y) : Call d mX11_age [.ref x0, .int x1, .int x2] h (some (.int y.1)) (y.2) := call_of (by decide +kernel) (Nat.le_of_ble_eq_true rfl) (show Go d mX11_age 0 [some (.ref x0), some (.int x1), some (.int x2), none, none] [] h _ _ from go_subL (by simp [subL]) (oX11_age_0 hd hs ⟨rfl, rfl⟩))
abbrev kX10_start (rf : Option Value) (hf : Hp) : Hp → Prop := fun y => rf = none ∧ hf = y
noncomputable def fX10_start (h : Hp) (x0 : Nat) (x1 : Int32) (x2 : Int32) : Option Hp :=
  (sV h 10 x0 1 (.int x2)).bind fun h1 =>
  (sV h1 10 x0 2 (.int x1)).bind fun h2 =>
  (sV h2 10 x0 3 (.int (0 : Int32))).bind fun h3 =>
  (sV h3 10 x0 4 (.int x1)).bind fun h4 =>
  (sV h4 10 x0 5 (.int (0 : Int32))).bind fun h5 =>
  (sV h5 10 x0 6 (.int (1 : Int32))).bind fun h6 =>
  some (h6)
theorem oX10_start_0 {d : Nat} (hd : 0 ≤ d) {h : Hp} {x0 : Nat} {x1 : Int32} {x2 : Int32} {rf : Option Value} {hf : Hp} {x : Hp} (hs : fX10_start h x0 x1 x2 = some x) (hk : (kX10_start rf hf) x) : Go d mX10_start 0 [some (.ref x0), some (.int x1), some (.int x2)] [] h rf hf := by
  unfold fX10_start at hs
  refine go_aload_n (k4 := 0) rfl (Or.inr ⟨_, rfl⟩) dX10_start_0 ?_
  refine go_iload_n (k4 := 2) rfl dX10_start_1 ?_
  obtain ⟨h1, eh1, hs⟩ := bindS hs
  refine go_sV fw_RX10_9 eh1 rfl rfl dX10_start_2 ?_
  refine go_aload_n (k4 := 0) rfl (Or.inr ⟨_, rfl⟩) dX10_start_5 ?_
  refine go_iload_n (k4 := 1) rfl dX10_start_6 ?_
  obtain ⟨h2, eh2, hs⟩ := bindS hs
  refine go_sV fw_RX10_15 eh2 rfl rfl dX10_start_7 ?_
  refine go_aload_n (k4 := 0) rfl (Or.inr ⟨_, rfl⟩) dX10_start_10 ?_
  refine go_at 11 rfl ?_
  refine go_iconst (v := 0) (by decide) dX10_start_11 ?_
  obtain ⟨h3, eh3, hs⟩ := bindS hs
  refine go_sV fw_RX10_18 eh3 rfl rfl dX10_start_12 ?_
  refine go_aload_n (k4 := 0) rfl (Or.inr ⟨_, rfl⟩) dX10_start_15 ?_
  refine go_iload_n (k4 := 1) rfl dX10_start_16 ?_
  obtain ⟨h4, eh4, hs⟩ := bindS hs
  refine go_sV fw_RX10_21 eh4 rfl rfl dX10_start_17 ?_
  refine go_aload_n (k4 := 0) rfl (Or.inr ⟨_, rfl⟩) dX10_start_20 ?_
  refine go_iconst (v := 0) (by decide) dX10_start_21 ?_
  obtain ⟨h5, eh5, hs⟩ := bindS hs
  refine go_sV fw_RX10_24 eh5 rfl rfl dX10_start_22 ?_
  refine go_at 25 rfl ?_
  refine go_aload_n (k4 := 0) rfl (Or.inr ⟨_, rfl⟩) dX10_start_25 ?_
  refine go_iconst (v := 1) (by decide) dX10_start_26 ?_
  obtain ⟨h6, eh6, hs⟩ := bindS hs
  refine go_sV fw_RX10_27 eh6 rfl rfl dX10_start_27 ?_
  obtain rfl := Option.some.inj hs
  obtain ⟨rfl, rfl⟩ := hk
  exact go_vret rfl dX10_start_30
theorem oX10_start {d : Nat} (hd : 0 ≤ d) {h : Hp} {x0 : Nat} {x1 : Int32} {x2 : Int32} {y : Hp} (hs : fX10_start h x0 x1 x2 = some y) : Call d mX10_start [.ref x0, .int x1, .int x2] h (none) y := call_of (by decide +kernel) (Nat.le_of_ble_eq_true rfl) (show Go d mX10_start 0 [some (.ref x0), some (.int x1), some (.int x2)] [] h _ _ from go_subL (by simp [subL]) (oX10_start_0 hd hs ⟨rfl, rfl⟩))
abbrev kX10_step (rf : Option Value) (hf : Hp) : (Int32 × Hp) → Prop := fun y => rf = some (.int y.1) ∧ hf = y.2
noncomputable def fX10_step_85 (h : Hp)  : Option (Int32 × Hp) :=
  some (((1 : Int32), h))
theorem oX10_step_85 {d : Nat} (hd : 4 ≤ d) {h : Hp} {rf : Option Value} {hf : Hp} {x : (Int32 × Hp)} (hs : fX10_step_85 h  = some x) (hk : (kX10_step rf hf) x) : Go d mX10_step 85 [none] [] h rf hf := by
  unfold fX10_step_85 at hs
  refine go_iconst (v := 1) (by decide) dX10_step_85 ?_
  obtain rfl := Option.some.inj hs
  obtain ⟨rfl, rfl⟩ := hk
  exact go_zret (ty := .boolean) rfl rfl dX10_step_86
noncomputable def fX10_step (h : Hp) (x0 : Nat) : Option (Int32 × Hp) :=
  (gN h 10 x0 0).bind fun v1 =>
  (gI h 10 x0 2).bind fun v2 =>
  (gI h 10 x0 1).bind fun v3 =>
  gO h 1 v1 (
  (fX1_after h v1 v2 v3 (0 : Int32)).bind fun y4 =>
  (sV y4.2 10 x0 2 (.int y4.1)).bind fun h6 =>
  (gI h6 10 x0 3).bind fun v7 =>
  (sV h6 10 x0 3 (.int (v7 + (1 : Int32)))).bind fun h8 =>
  (gI h8 10 x0 2).bind fun v9 =>
  (gI h8 10 x0 4).bind fun v10 =>
  if v9 = v10 then (
    some (((0 : Int32), h8))) else (
    (gI h8 10 x0 3).bind fun v11 =>
    (gI h8 10 x0 5).bind fun v12 =>
    (gI h8 10 x0 6).bind fun v13 =>
    if (v11 - v12) = v13 then (
      (gI h8 10 x0 2).bind fun v14 =>
      (sV h8 10 x0 4 (.int v14)).bind fun h15 =>
      (gI h15 10 x0 3).bind fun v16 =>
      (sV h15 10 x0 5 (.int v16)).bind fun h17 =>
      (gI h17 10 x0 6).bind fun v18 =>
      (sV h17 10 x0 6 (.int (v18 * (2 : Int32)))).bind fun h19 =>
      fX10_step_85 h19 ) else (
    fX10_step_85 h8 )))
theorem oX10_step_0 {d : Nat} (hd : 4 ≤ d) {h : Hp} {x0 : Nat} {rf : Option Value} {hf : Hp} {x : (Int32 × Hp)} (hs : fX10_step h x0 = some x) (hk : (kX10_step rf hf) x) : Go d mX10_step 0 [some (.ref x0)] [] h rf hf := by
  unfold fX10_step at hs
  refine go_aload_n (k4 := 0) rfl (Or.inr ⟨_, rfl⟩) dX10_step_0 ?_
  refine go_aload_n (k4 := 0) rfl (Or.inr ⟨_, rfl⟩) dX10_step_1 ?_
  obtain ⟨v1, ev1, hs⟩ := bindS hs
  refine go_gN fl_RX10_30 ev1 dX10_step_2 ?_
  refine go_aload_n (k4 := 0) rfl (Or.inr ⟨_, rfl⟩) dX10_step_5 ?_
  obtain ⟨v2, ev2, hs⟩ := bindS hs
  refine go_gI fl_RX10_15 ev2 dX10_step_6 ?_
  refine go_aload_n (k4 := 0) rfl (Or.inr ⟨_, rfl⟩) dX10_step_9 ?_
  obtain ⟨v3, ev3, hs⟩ := bindS hs
  refine go_gI fl_RX10_9 ev3 dX10_step_10 ?_
  refine go_at 13 rfl ?_
  refine go_iconst (v := 0) (by decide) dX10_step_13 ?_
  obtain ⟨g5, hs⟩ := gO_at hs
  obtain ⟨y4, ey4, hs⟩ := bindS hs
  refine go_V1 (As := [.int v2, .int v3, .int (0 : Int32)]) (st := [.ref x0]) g5 rfl rfl (oX1_after (d := d - 1) (by omega) ey4) (by omega) mb_X1_after lm_RX10_34 mi_X1_after (Nat.le_of_ble_eq_true rfl) rfl dX10_step_14 ?_
  obtain ⟨h6, eh6, hs⟩ := bindS hs
  refine go_sV fw_RX10_15 eh6 rfl rfl dX10_step_17 ?_
  refine go_aload_n (k4 := 0) rfl (Or.inr ⟨_, rfl⟩) dX10_step_20 ?_
  refine go_dup rfl dX10_step_21 ?_
  obtain ⟨v7, ev7, hs⟩ := bindS hs
  refine go_gI fl_RX10_18 ev7 dX10_step_22 ?_
  refine go_iconst (v := 1) (by decide) dX10_step_25 ?_
  refine go_iadd dX10_step_26 ?_
  refine go_at 27 rfl ?_
  obtain ⟨h8, eh8, hs⟩ := bindS hs
  refine go_sV fw_RX10_18 eh8 rfl rfl dX10_step_27 ?_
  refine go_aload_n (k4 := 0) rfl (Or.inr ⟨_, rfl⟩) dX10_step_30 ?_
  obtain ⟨v9, ev9, hs⟩ := bindS hs
  refine go_gI fl_RX10_15 ev9 dX10_step_31 ?_
  refine go_aload_n (k4 := 0) rfl (Or.inr ⟨_, rfl⟩) dX10_step_34 ?_
  obtain ⟨v10, ev10, hs⟩ := bindS hs
  refine go_gI fl_RX10_21 ev10 dX10_step_35 ?_
  refine go_icmp_ne (tgt := 43) (by decide) dX10_step_38 (fun c => ?_) (fun c => ?_)
  · have hs := if_f c hs
    refine go_aload_n (k4 := 0) rfl (Or.inr ⟨_, rfl⟩) dX10_step_43 ?_
    obtain ⟨v11, ev11, hs⟩ := bindS hs
    refine go_gI fl_RX10_18 ev11 dX10_step_44 ?_
    refine go_aload_n (k4 := 0) rfl (Or.inr ⟨_, rfl⟩) dX10_step_47 ?_
    obtain ⟨v12, ev12, hs⟩ := bindS hs
    refine go_gI fl_RX10_24 ev12 dX10_step_48 ?_
    refine go_isub dX10_step_51 ?_
    refine go_aload_n (k4 := 0) rfl (Or.inr ⟨_, rfl⟩) dX10_step_52 ?_
    obtain ⟨v13, ev13, hs⟩ := bindS hs
    refine go_gI fl_RX10_27 ev13 dX10_step_53 ?_
    refine go_at 56 rfl ?_
    refine go_icmp_ne (tgt := 85) (by decide) dX10_step_56 (fun c => ?_) (fun c => ?_)
    · have hs := if_f c hs
      exact go_subL (L' := [none]) (by simp [subL, va_rf]) (oX10_step_85 hd hs hk)
    · have hs := if_t c hs
      refine go_aload_n (k4 := 0) rfl (Or.inr ⟨_, rfl⟩) dX10_step_59 ?_
      refine go_aload_n (k4 := 0) rfl (Or.inr ⟨_, rfl⟩) dX10_step_60 ?_
      obtain ⟨v14, ev14, hs⟩ := bindS hs
      refine go_gI fl_RX10_15 ev14 dX10_step_61 ?_
      obtain ⟨h15, eh15, hs⟩ := bindS hs
      refine go_sV fw_RX10_21 eh15 rfl rfl dX10_step_64 ?_
      refine go_aload_n (k4 := 0) rfl (Or.inr ⟨_, rfl⟩) dX10_step_67 ?_
      refine go_aload_n (k4 := 0) rfl (Or.inr ⟨_, rfl⟩) dX10_step_68 ?_
      obtain ⟨v16, ev16, hs⟩ := bindS hs
      refine go_gI fl_RX10_18 ev16 dX10_step_69 ?_
      refine go_at 72 rfl ?_
      obtain ⟨h17, eh17, hs⟩ := bindS hs
      refine go_sV fw_RX10_24 eh17 rfl rfl dX10_step_72 ?_
      refine go_aload_n (k4 := 0) rfl (Or.inr ⟨_, rfl⟩) dX10_step_75 ?_
      refine go_dup rfl dX10_step_76 ?_
      obtain ⟨v18, ev18, hs⟩ := bindS hs
      refine go_gI fl_RX10_27 ev18 dX10_step_77 ?_
      refine go_iconst (v := 2) (by decide) dX10_step_80 ?_
      refine go_imul dX10_step_81 ?_
      obtain ⟨h19, eh19, hs⟩ := bindS hs
      refine go_sV fw_RX10_27 eh19 rfl rfl dX10_step_82 ?_
      exact go_subL (L' := [none]) (by simp [subL, va_rf]) (oX10_step_85 hd hs hk)
  · have hs := if_t c hs
    refine go_iconst (v := 0) (by decide) dX10_step_41 ?_
    obtain rfl := Option.some.inj hs
    obtain ⟨rfl, rfl⟩ := hk
    exact go_zret (ty := .boolean) rfl rfl dX10_step_42
theorem oX10_step {d : Nat} (hd : 4 ≤ d) {h : Hp} {x0 : Nat} {y : (Int32 × Hp)} (hs : fX10_step h x0 = some y) : Call d mX10_step [.ref x0] h (some (.int y.1)) (y.2) := call_of (by decide +kernel) (Nat.le_of_ble_eq_true rfl) (show Go d mX10_step 0 [some (.ref x0)] [] h _ _ from go_subL (by simp [subL]) (oX10_step_0 hd hs ⟨rfl, rfl⟩))
abbrev kX10_stateBehind (rf : Option Value) (hf : Hp) : (Int32 × Hp) → Prop := fun y => rf = some (.int y.1) ∧ hf = y.2
abbrev pX10_stateBehind_12 (d : Nat) (x0 : Nat) (x3 : Int32) (rf : Option Value) (hf : Hp) : (Int32 × Int32 × Hp) → Prop := fun s => Go d mX10_stateBehind 12 [some (.ref x0), none, none, some (.int x3), some (.int s.1), some (.int s.2.1), none, none] [] s.2.2 rf hf
abbrev pX10_stateBehind_74 (d : Nat) (x0 : Nat) (x6 : Int32) (rf : Option Value) (hf : Hp) : (Int32 × Hp) → Prop := fun s => Go d mX10_stateBehind 74 [some (.ref x0), none, none, none, none, none, some (.int x6), some (.int s.1)] [] s.2 rf hf
noncomputable def fX10_stateBehind_74b (h : Hp) (x0 : Nat) (x6 : Int32) (x7 : Int32) : Option ((Int32 × Hp) ⊕ (Int32 × Hp)) :=
  if x6 ≤ x7 then (
    (gI h 10 x0 2).bind fun v5 =>
    some (.inr (v5, h))) else (
    (gN h 10 x0 0).bind fun v6 =>
    (gI h 10 x0 2).bind fun v7 =>
    (gI h 10 x0 1).bind fun v8 =>
    gO h 1 v6 (
    (fX1_after h v6 v7 v8 (0 : Int32)).bind fun y9 =>
    (sV y9.2 10 x0 2 (.int y9.1)).bind fun h11 =>
    some (.inl ((x7 + Int32.ofInt 1), h11))))
noncomputable def fX10_stateBehind_74 (h : Hp) (x0 : Nat) (x6 : Int32) (x7 : Int32) : Option (Int32 × Hp) := lpw (σ := (Int32 × Hp)) (fun s => fX10_stateBehind_74b s.2 x0 x6 s.1) (x7, h)
theorem oX10_stateBehind_74b {d : Nat} (hd : 5 ≤ d) {h : Hp} {x0 : Nat} {x6 : Int32} {x7 : Int32} {rf : Option Value} {hf : Hp} {x : ((Int32 × Hp) ⊕ (Int32 × Hp))} (hs : fX10_stateBehind_74b h x0 x6 x7 = some x) (hk : (Kx (pX10_stateBehind_74 d x0 x6 rf hf) (kX10_stateBehind rf hf)) x) : Go d mX10_stateBehind 74 [some (.ref x0), none, none, none, none, none, some (.int x6), some (.int x7)] [] h rf hf := by
  unfold fX10_stateBehind_74b at hs
  refine go_iload rfl dX10_stateBehind_74 ?_
  refine go_iload rfl dX10_stateBehind_76 ?_
  refine go_icmp_ge (tgt := 107) (by decide) dX10_stateBehind_78 (fun c => ?_) (fun c => ?_)
  · have hs := if_t c hs
    refine go_aload_n (k4 := 0) rfl (Or.inr ⟨_, rfl⟩) dX10_stateBehind_107 ?_
    obtain ⟨v5, ev5, hs⟩ := bindS hs
    refine go_gI fl_RX10_15 ev5 dX10_stateBehind_108 ?_
    obtain rfl := Option.some.inj hs
    obtain ⟨rfl, rfl⟩ := hk
    exact go_iret rfl dX10_stateBehind_111
  · have hs := if_f c hs
    refine go_aload_n (k4 := 0) rfl (Or.inr ⟨_, rfl⟩) dX10_stateBehind_81 ?_
    refine go_aload_n (k4 := 0) rfl (Or.inr ⟨_, rfl⟩) dX10_stateBehind_82 ?_
    obtain ⟨v6, ev6, hs⟩ := bindS hs
    refine go_gN fl_RX10_30 ev6 dX10_stateBehind_83 ?_
    refine go_aload_n (k4 := 0) rfl (Or.inr ⟨_, rfl⟩) dX10_stateBehind_86 ?_
    obtain ⟨v7, ev7, hs⟩ := bindS hs
    refine go_gI fl_RX10_15 ev7 dX10_stateBehind_87 ?_
    refine go_aload_n (k4 := 0) rfl (Or.inr ⟨_, rfl⟩) dX10_stateBehind_90 ?_
    obtain ⟨v8, ev8, hs⟩ := bindS hs
    refine go_gI fl_RX10_9 ev8 dX10_stateBehind_91 ?_
    refine go_at 94 rfl ?_
    refine go_iconst (v := 0) (by decide) dX10_stateBehind_94 ?_
    obtain ⟨g10, hs⟩ := gO_at hs
    obtain ⟨y9, ey9, hs⟩ := bindS hs
    refine go_V1 (As := [.int v7, .int v8, .int (0 : Int32)]) (st := [.ref x0]) g10 rfl rfl (oX1_after (d := d - 1) (by omega) ey9) (by omega) mb_X1_after lm_RX10_34 mi_X1_after (Nat.le_of_ble_eq_true rfl) rfl dX10_stateBehind_95 ?_
    obtain ⟨h11, eh11, hs⟩ := bindS hs
    refine go_sV fw_RX10_15 eh11 rfl rfl dX10_stateBehind_98 ?_
    refine go_iinc (L' := [some (.ref x0), none, none, none, none, none, some (.int x6), some (.int (x7 + Int32.ofInt 1))]) rfl (by decide) rfl rfl dX10_stateBehind_101 ?_
    refine go_goto (tgt := 74) (by decide) dX10_stateBehind_104 ?_
    obtain rfl := Option.some.inj hs
    exact go_subL (L' := [some (.ref x0), none, none, none, none, none, some (.int x6), some (.int (x7 + Int32.ofInt 1))]) (by simp [subL, va_rf]) hk
theorem oX10_stateBehind_74 {d : Nat} (hd : 5 ≤ d) {h : Hp} {x0 : Nat} {x6 : Int32} {x7 : Int32} {rf : Option Value} {hf : Hp} {x : (Int32 × Hp)} (hs : fX10_stateBehind_74 h x0 x6 x7 = some x) (hk : (kX10_stateBehind rf hf) x) : Go d mX10_stateBehind 74 [some (.ref x0), none, none, none, none, none, some (.int x6), some (.int x7)] [] h rf hf := by
  unfold fX10_stateBehind_74 at hs
  exact lpw_go (P := pX10_stateBehind_74 d x0 x6 rf hf) (fun s x hs hk => oX10_stateBehind_74b hd hs hk) (x7, h) x hs hk
noncomputable def fX10_stateBehind_69 (h : Hp) (x0 : Nat) (s0 : Int32) : Option (Int32 × Hp) :=
  fX10_stateBehind_74 h x0 s0 (0 : Int32)
theorem oX10_stateBehind_69 {d : Nat} (hd : 5 ≤ d) {h : Hp} {x0 : Nat} {s0 : Int32} {rf : Option Value} {hf : Hp} {x : (Int32 × Hp)} (hs : fX10_stateBehind_69 h x0 s0 = some x) (hk : (kX10_stateBehind rf hf) x) : Go d mX10_stateBehind 69 [some (.ref x0), none, none, none, none, none, none, none] [.int s0] h rf hf := by
  unfold fX10_stateBehind_69 at hs
  refine go_istore (L' := [some (.ref x0), none, none, none, none, none, some (.int s0), none]) (by decide) rfl dX10_stateBehind_69 ?_
  refine go_iconst (v := 0) (by decide) dX10_stateBehind_71 ?_
  refine go_istore (L' := [some (.ref x0), none, none, none, none, none, some (.int s0), some (.int (0 : Int32))]) (by decide) rfl dX10_stateBehind_72 ?_
  exact go_subL (L' := [some (.ref x0), none, none, none, none, none, some (.int s0), some (.int (0 : Int32))]) (by simp [subL, va_rf]) (oX10_stateBehind_74 hd hs hk)
noncomputable def fX10_stateBehind_56 (h : Hp) (x0 : Nat) : Option (Int32 × Hp) :=
  fX10_stateBehind_69 h x0 (0 : Int32)
theorem oX10_stateBehind_56 {d : Nat} (hd : 5 ≤ d) {h : Hp} {x0 : Nat} {rf : Option Value} {hf : Hp} {x : (Int32 × Hp)} (hs : fX10_stateBehind_56 h x0 = some x) (hk : (kX10_stateBehind rf hf) x) : Go d mX10_stateBehind 56 [some (.ref x0), none, none, none, none, none, none, none] [] h rf hf := by
  unfold fX10_stateBehind_56 at hs
  refine go_iconst (v := 0) (by decide) dX10_stateBehind_56 ?_
  refine go_goto (tgt := 69) (by decide) dX10_stateBehind_57 ?_
  exact go_subL (L' := [some (.ref x0), none, none, none, none, none, none, none]) (by simp [subL, va_rf]) (oX10_stateBehind_69 hd hs hk)
noncomputable def fX10_stateBehind_35 (h : Hp) (x0 : Nat) (x3 : Int32) (x4 : Int32) : Option (Int32 × Hp) :=
  (gI h 10 x0 3).bind fun v3 =>
  (gI h 10 x0 5).bind fun v4 =>
  if x4 = 0 then (
    if 0 < (v3 - v4) then (
      (gI h 10 x0 3).bind fun v12 =>
      (rm (x3 - v12) (v3 - v4)).bind fun v13 =>
      fX10_stateBehind_69 h x0 v13) else (
    fX10_stateBehind_56 h x0)) else (
  fX10_stateBehind_56 h x0)
theorem oX10_stateBehind_35 {d : Nat} (hd : 5 ≤ d) {h : Hp} {x0 : Nat} {x3 : Int32} {x4 : Int32} {rf : Option Value} {hf : Hp} {x : (Int32 × Hp)} (hs : fX10_stateBehind_35 h x0 x3 x4 = some x) (hk : (kX10_stateBehind rf hf) x) : Go d mX10_stateBehind 35 [some (.ref x0), none, none, some (.int x3), some (.int x4), none, none, none] [] h rf hf := by
  unfold fX10_stateBehind_35 at hs
  refine go_aload_n (k4 := 0) rfl (Or.inr ⟨_, rfl⟩) dX10_stateBehind_35 ?_
  obtain ⟨v3, ev3, hs⟩ := bindS hs
  refine go_gI fl_RX10_18 ev3 dX10_stateBehind_36 ?_
  refine go_aload_n (k4 := 0) rfl (Or.inr ⟨_, rfl⟩) dX10_stateBehind_39 ?_
  obtain ⟨v4, ev4, hs⟩ := bindS hs
  refine go_gI fl_RX10_24 ev4 dX10_stateBehind_40 ?_
  refine go_isub dX10_stateBehind_43 ?_
  refine go_istore (L' := [some (.ref x0), none, none, some (.int x3), some (.int x4), some (.int (v3 - v4)), none, none]) (by decide) rfl dX10_stateBehind_44 ?_
  refine go_iload rfl dX10_stateBehind_46 ?_
  refine go_at 48 rfl ?_
  refine go_if_ne (tgt := 56) (by decide) dX10_stateBehind_48 (fun c => ?_) (fun c => ?_)
  · have hs := if_f c hs
    exact go_subL (L' := [some (.ref x0), none, none, none, none, none, none, none]) (by simp [subL, va_rf]) (oX10_stateBehind_56 hd hs hk)
  · have hs := if_t c hs
    refine go_iload rfl dX10_stateBehind_51 ?_
    refine go_if_gt (tgt := 60) (by decide) dX10_stateBehind_53 (fun c => ?_) (fun c => ?_)
    · have hs := if_t c hs
      refine go_iload_n (k4 := 3) rfl dX10_stateBehind_60 ?_
      refine go_aload_n (k4 := 0) rfl (Or.inr ⟨_, rfl⟩) dX10_stateBehind_61 ?_
      obtain ⟨v12, ev12, hs⟩ := bindS hs
      refine go_gI fl_RX10_18 ev12 dX10_stateBehind_62 ?_
      refine go_isub dX10_stateBehind_65 ?_
      refine go_iload rfl dX10_stateBehind_66 ?_
      obtain ⟨v13, ev13, hs⟩ := bindS hs
      refine go_rm ev13 dX10_stateBehind_68 ?_
      exact go_subL (L' := [some (.ref x0), none, none, none, none, none, none, none]) (by simp [subL, va_rf]) (oX10_stateBehind_69 hd hs hk)
    · have hs := if_f c hs
      exact go_subL (L' := [some (.ref x0), none, none, none, none, none, none, none]) (by simp [subL, va_rf]) (oX10_stateBehind_56 hd hs hk)
noncomputable def fX10_stateBehind_12b (h : Hp) (x0 : Nat) (x3 : Int32) (x4 : Int32) (x5 : Int32) : Option ((Int32 × Int32 × Hp) ⊕ (Int32 × Hp)) :=
  if x3 ≤ x5 then (
  (fX10_stateBehind_35 h x0 x3 x4).map (fun q => .inr q)) else (
    if x4 = 0 then (
    (fX10_stateBehind_35 h x0 x3 x4).map (fun q => .inr q)) else (
      gO h 10 x0 (
      (fX10_step h x0).bind fun y14 =>
      some (.inl (y14.1, (x5 + Int32.ofInt 1), y14.2)))))
noncomputable def fX10_stateBehind_12 (h : Hp) (x0 : Nat) (x3 : Int32) (x4 : Int32) (x5 : Int32) : Option (Int32 × Hp) := lpw (σ := (Int32 × Int32 × Hp)) (fun s => fX10_stateBehind_12b s.2.2 x0 x3 s.1 s.2.1) (x4, x5, h)
theorem oX10_stateBehind_12b {d : Nat} (hd : 5 ≤ d) {h : Hp} {x0 : Nat} {x3 : Int32} {x4 : Int32} {x5 : Int32} {rf : Option Value} {hf : Hp} {x : ((Int32 × Int32 × Hp) ⊕ (Int32 × Hp))} (hs : fX10_stateBehind_12b h x0 x3 x4 x5 = some x) (hk : (Kx (pX10_stateBehind_12 d x0 x3 rf hf) (kX10_stateBehind rf hf)) x) : Go d mX10_stateBehind 12 [some (.ref x0), none, none, some (.int x3), some (.int x4), some (.int x5), none, none] [] h rf hf := by
  unfold fX10_stateBehind_12b at hs
  refine go_iload rfl dX10_stateBehind_12 ?_
  refine go_iload_n (k4 := 3) rfl dX10_stateBehind_14 ?_
  refine go_icmp_ge (tgt := 35) (by decide) dX10_stateBehind_15 (fun c => ?_) (fun c => ?_)
  · have hs := if_t c hs
    obtain ⟨q, hs2, hq⟩ := mapS hs
    clear hs
    subst hq
    exact go_subL (L' := [some (.ref x0), none, none, some (.int x3), some (.int x4), none, none, none]) (by simp [subL, va_rf]) (oX10_stateBehind_35 hd hs2 hk)
  · have hs := if_f c hs
    refine go_iload rfl dX10_stateBehind_18 ?_
    refine go_if_eq (tgt := 35) (by decide) dX10_stateBehind_20 (fun c => ?_) (fun c => ?_)
    · have hs := if_t c hs
      obtain ⟨q, hs2, hq⟩ := mapS hs
      clear hs
      subst hq
      exact go_subL (L' := [some (.ref x0), none, none, some (.int x3), some (.int x4), none, none, none]) (by simp [subL, va_rf]) (oX10_stateBehind_35 hd hs2 hk)
    · have hs := if_f c hs
      refine go_aload_n (k4 := 0) rfl (Or.inr ⟨_, rfl⟩) dX10_stateBehind_23 ?_
      obtain ⟨g15, hs⟩ := gO_at hs
      obtain ⟨y14, ey14, hs⟩ := bindS hs
      refine go_V1 (As := []) (st := []) g15 rfl rfl (oX10_step (d := d - 1) (by omega) ey14) (by omega) mb_X10_step lm_RX10_44 mi_X10_step (Nat.le_of_ble_eq_true rfl) rfl dX10_stateBehind_24 ?_
      refine go_istore (L' := [some (.ref x0), none, none, some (.int x3), some (.int y14.1), some (.int x5), none, none]) (by decide) rfl dX10_stateBehind_27 ?_
      refine go_iinc (L' := [some (.ref x0), none, none, some (.int x3), some (.int y14.1), some (.int (x5 + Int32.ofInt 1)), none, none]) rfl (by decide) rfl rfl dX10_stateBehind_29 ?_
      refine go_goto (tgt := 12) (by decide) dX10_stateBehind_32 ?_
      obtain rfl := Option.some.inj hs
      exact go_subL (L' := [some (.ref x0), none, none, some (.int x3), some (.int y14.1), some (.int (x5 + Int32.ofInt 1)), none, none]) (by simp [subL, va_rf]) hk
theorem oX10_stateBehind_12 {d : Nat} (hd : 5 ≤ d) {h : Hp} {x0 : Nat} {x3 : Int32} {x4 : Int32} {x5 : Int32} {rf : Option Value} {hf : Hp} {x : (Int32 × Hp)} (hs : fX10_stateBehind_12 h x0 x3 x4 x5 = some x) (hk : (kX10_stateBehind rf hf) x) : Go d mX10_stateBehind 12 [some (.ref x0), none, none, some (.int x3), some (.int x4), some (.int x5), none, none] [] h rf hf := by
  unfold fX10_stateBehind_12 at hs
  exact lpw_go (P := pX10_stateBehind_12 d x0 x3 rf hf) (fun s x hs hk => oX10_stateBehind_12b hd hs hk) (x4, x5, h) x hs hk
noncomputable def fX10_stateBehind (h : Hp) (x0 : Nat) (x1 : Int32) (x2 : Int32) (x3 : Int32) : Option (Int32 × Hp) :=
  gO h 10 x0 (
  (fX10_start h x0 x1 x2).bind fun y1 =>
  fX10_stateBehind_12 y1 x0 x3 (1 : Int32) (0 : Int32))
theorem oX10_stateBehind_0 {d : Nat} (hd : 5 ≤ d) {h : Hp} {x0 : Nat} {x1 : Int32} {x2 : Int32} {x3 : Int32} {rf : Option Value} {hf : Hp} {x : (Int32 × Hp)} (hs : fX10_stateBehind h x0 x1 x2 x3 = some x) (hk : (kX10_stateBehind rf hf) x) : Go d mX10_stateBehind 0 [some (.ref x0), some (.int x1), some (.int x2), some (.int x3), none, none, none, none] [] h rf hf := by
  unfold fX10_stateBehind at hs
  refine go_aload_n (k4 := 0) rfl (Or.inr ⟨_, rfl⟩) dX10_stateBehind_0 ?_
  refine go_iload_n (k4 := 1) rfl dX10_stateBehind_1 ?_
  refine go_iload_n (k4 := 2) rfl dX10_stateBehind_2 ?_
  obtain ⟨g2, hs⟩ := gO_at hs
  obtain ⟨y1, ey1, hs⟩ := bindS hs
  refine go_V0 (As := [.int x1, .int x2]) (st := []) g2 rfl rfl (oX10_start (d := d - 1) (by omega) ey1) (by omega) mb_X10_start lm_RX10_40 mi_X10_start (Nat.le_of_ble_eq_true rfl) rfl dX10_stateBehind_3 ?_
  refine go_iconst (v := 1) (by decide) dX10_stateBehind_6 ?_
  refine go_istore (L' := [some (.ref x0), some (.int x1), some (.int x2), some (.int x3), some (.int (1 : Int32)), none, none, none]) (by decide) rfl dX10_stateBehind_7 ?_
  refine go_iconst (v := 0) (by decide) dX10_stateBehind_9 ?_
  refine go_at 10 rfl ?_
  refine go_istore (L' := [some (.ref x0), some (.int x1), some (.int x2), some (.int x3), some (.int (1 : Int32)), some (.int (0 : Int32)), none, none]) (by decide) rfl dX10_stateBehind_10 ?_
  exact go_subL (L' := [some (.ref x0), none, none, some (.int x3), some (.int (1 : Int32)), some (.int (0 : Int32)), none, none]) (by simp [subL, va_rf]) (oX10_stateBehind_12 hd hs hk)
theorem oX10_stateBehind {d : Nat} (hd : 5 ≤ d) {h : Hp} {x0 : Nat} {x1 : Int32} {x2 : Int32} {x3 : Int32} {y : (Int32 × Hp)} (hs : fX10_stateBehind h x0 x1 x2 x3 = some y) : Call d mX10_stateBehind [.ref x0, .int x1, .int x2, .int x3] h (some (.int y.1)) (y.2) := call_of (by decide +kernel) (Nat.le_of_ble_eq_true rfl) (show Go d mX10_stateBehind 0 [some (.ref x0), some (.int x1), some (.int x2), some (.int x3), none, none, none, none] [] h _ _ from go_subL (by simp [subL]) (oX10_stateBehind_0 hd hs ⟨rfl, rfl⟩))
abbrev kX11_lies (rf : Option Value) (hf : Hp) : (Int32 × Hp) → Prop := fun y => rf = some (.int y.1) ∧ hf = y.2
noncomputable def fX11_lies_22 (h : Hp)  : Option (Int32 × Hp) :=
  some (((-3 : Int32), h))
theorem oX11_lies_22 {d : Nat} (hd : 6 ≤ d) {h : Hp} {rf : Option Value} {hf : Hp} {x : (Int32 × Hp)} (hs : fX11_lies_22 h  = some x) (hk : (kX11_lies rf hf) x) : Go d mX11_lies 22 [none, none, none] [] h rf hf := by
  unfold fX11_lies_22 at hs
  refine go_bipush (v := -3) (by decide) dX11_lies_22 ?_
  obtain rfl := Option.some.inj hs
  obtain ⟨rfl, rfl⟩ := hk
  exact go_iret rfl dX11_lies_24
noncomputable def fX11_lies (h : Hp) (x0 : Nat) (x1 : Int32) (x2 : Int32) : Option (Int32 × Hp) :=
  gO h 11 x0 (
  (fX11_isPair h x0 x1).bind fun y1 =>
  if y1 = 0 then (
    some (((-2 : Int32), h))) else (
    if x2 < 0 then (
    fX11_lies_22 h ) else (
      if x2 ≤ (99999 : Int32) then (
        gO h 11 x0 (
        (fX11_tuned h x0).bind fun y3 =>
        (gN y3.2 11 x0 12).bind fun v5 =>
        (gN y3.2 11 x0 4).bind fun v6 =>
        (gI y3.2 8 v6 0).bind fun v7 =>
        (gN y3.2 11 x0 4).bind fun v8 =>
        (gI y3.2 8 v8 2).bind fun v9 =>
        gO y3.2 10 v5 (
        (fX10_stateBehind y3.2 v5 v7 v9 x2).bind fun y10 =>
        (fX11_digit y10.2 y10.1 x1).bind fun y12 =>
        some ((y12, y10.2))))) else (
      fX11_lies_22 h ))))
theorem oX11_lies_0 {d : Nat} (hd : 6 ≤ d) {h : Hp} {x0 : Nat} {x1 : Int32} {x2 : Int32} {rf : Option Value} {hf : Hp} {x : (Int32 × Hp)} (hs : fX11_lies h x0 x1 x2 = some x) (hk : (kX11_lies rf hf) x) : Go d mX11_lies 0 [some (.ref x0), some (.int x1), some (.int x2)] [] h rf hf := by
  unfold fX11_lies at hs
  refine go_aload_n (k4 := 0) rfl (Or.inr ⟨_, rfl⟩) dX11_lies_0 ?_
  refine go_iload_n (k4 := 1) rfl dX11_lies_1 ?_
  obtain ⟨g2, hs⟩ := gO_at hs
  obtain ⟨y1, ey1, hs⟩ := bindS hs
  refine go_V1 (As := [.int x1]) (st := []) g2 rfl rfl (oX11_isPair (d := d - 1) (by omega) ey1) (by omega) mb_X11_isPair lm_RX11_138 mi_X11_isPair (Nat.le_of_ble_eq_true rfl) rfl dX11_lies_2 ?_
  refine go_if_ne (tgt := 11) (by decide) dX11_lies_5 (fun c => ?_) (fun c => ?_)
  · have hs := if_f c hs
    refine go_iload_n (k4 := 2) rfl dX11_lies_11 ?_
    refine go_if_lt (tgt := 22) (by decide) dX11_lies_12 (fun c => ?_) (fun c => ?_)
    · have hs := if_t c hs
      exact go_subL (L' := [none, none, none]) (by simp [subL, va_rf]) (oX11_lies_22 hd hs hk)
    · have hs := if_f c hs
      refine go_iload_n (k4 := 2) rfl dX11_lies_15 ?_
      refine go_ldcw lc_RX11_270 dX11_lies_16 ?_
      refine go_icmp_le (tgt := 25) (by decide) dX11_lies_19 (fun c => ?_) (fun c => ?_)
      · have hs := if_t c hs
        refine go_aload_n (k4 := 0) rfl (Or.inr ⟨_, rfl⟩) dX11_lies_25 ?_
        obtain ⟨g4, hs⟩ := gO_at hs
        obtain ⟨y3, ey3, hs⟩ := bindS hs
        refine go_V1 (As := []) (st := []) g4 rfl rfl (oX11_tuned (d := d - 1) (by omega) ey3) (by omega) mb_X11_tuned lm_RX11_166 mi_X11_tuned (Nat.le_of_ble_eq_true rfl) rfl dX11_lies_26 ?_
        refine go_pop rfl dX11_lies_29 ?_
        refine go_aload_n (k4 := 0) rfl (Or.inr ⟨_, rfl⟩) dX11_lies_30 ?_
        obtain ⟨v5, ev5, hs⟩ := bindS hs
        refine go_gN fl_RX11_81 ev5 dX11_lies_31 ?_
        refine go_aload_n (k4 := 0) rfl (Or.inr ⟨_, rfl⟩) dX11_lies_34 ?_
        obtain ⟨v6, ev6, hs⟩ := bindS hs
        refine go_gN fl_RX11_36 ev6 dX11_lies_35 ?_
        refine go_at 38 rfl ?_
        obtain ⟨v7, ev7, hs⟩ := bindS hs
        refine go_gI fl_RX11_142 ev7 dX11_lies_38 ?_
        refine go_aload_n (k4 := 0) rfl (Or.inr ⟨_, rfl⟩) dX11_lies_41 ?_
        obtain ⟨v8, ev8, hs⟩ := bindS hs
        refine go_gN fl_RX11_36 ev8 dX11_lies_42 ?_
        obtain ⟨v9, ev9, hs⟩ := bindS hs
        refine go_gI fl_RX11_152 ev9 dX11_lies_45 ?_
        refine go_iload_n (k4 := 2) rfl dX11_lies_48 ?_
        obtain ⟨g11, hs⟩ := gO_at hs
        obtain ⟨y10, ey10, hs⟩ := bindS hs
        refine go_V1 (As := [.int v7, .int v9, .int x2]) (st := []) g11 rfl rfl (oX10_stateBehind (d := d - 1) (by omega) ey10) (by omega) mb_X10_stateBehind lm_RX11_271 mi_X10_stateBehind (Nat.le_of_ble_eq_true rfl) rfl dX11_lies_49 ?_
        refine go_iload_n (k4 := 1) rfl dX11_lies_52 ?_
        obtain ⟨y12, ey12, hs⟩ := bindS hs
        refine go_S1 (As := [.int y10.1, .int x1]) (st := []) (oX11_digit (d := d - 1) (by omega) ey12) (by omega) mb_X11_digit lm_RX11_145 ms_X11_digit (Nat.le_of_ble_eq_true rfl) rfl dX11_lies_53 ?_
        refine go_at 56 rfl ?_
        obtain rfl := Option.some.inj hs
        obtain ⟨rfl, rfl⟩ := hk
        exact go_iret rfl dX11_lies_56
      · have hs := if_f c hs
        exact go_subL (L' := [none, none, none]) (by simp [subL, va_rf]) (oX11_lies_22 hd hs hk)
  · have hs := if_t c hs
    refine go_bipush (v := -2) (by decide) dX11_lies_8 ?_
    obtain rfl := Option.some.inj hs
    obtain ⟨rfl, rfl⟩ := hk
    exact go_iret rfl dX11_lies_10
theorem oX11_lies {d : Nat} (hd : 6 ≤ d) {h : Hp} {x0 : Nat} {x1 : Int32} {x2 : Int32} {y : (Int32 × Hp)} (hs : fX11_lies h x0 x1 x2 = some y) : Call d mX11_lies [.ref x0, .int x1, .int x2] h (some (.int y.1)) (y.2) := call_of (by decide +kernel) (Nat.le_of_ble_eq_true rfl) (show Go d mX11_lies 0 [some (.ref x0), some (.int x1), some (.int x2)] [] h _ _ from go_subL (by simp [subL]) (oX11_lies_0 hd hs ⟨rfl, rfl⟩))
abbrev kJ7_fill_53178 (rf : Option Value) (hf : Hp) : Hp → Prop := fun y => rf = none ∧ hf = y
abbrev pJ7_fill_53178_5 (d : Nat) (x0 : Nat) (x1 : Int32) (x3 : Int32) (rf : Option Value) (hf : Hp) : (Int32 × Hp) → Prop := fun s => Go d mJ7_fill_53178 5 [some (.ref x0), some (.int x1), some (.int s.1), some (.int x3)] [] s.2 rf hf
noncomputable def fJ7_fill_53178_5b (h : Hp) (x0 : Nat) (x1 : Int32) (x3 : Int32) (x2 : Int32) : Option ((Int32 × Hp) ⊕ Hp) :=
  if x3 ≤ x2 then (
    some (.inr h)) else (
    (wI 0 h x0 x2 x1).bind fun h2 =>
    some (.inl ((x2 + Int32.ofInt 1), h2)))
noncomputable def fJ7_fill_53178_5 (h : Hp) (x0 : Nat) (x1 : Int32) (x2 : Int32) (x3 : Int32) : Option Hp := lpw (σ := (Int32 × Hp)) (fun s => fJ7_fill_53178_5b s.2 x0 x1 x3 s.1) (x2, h)
theorem oJ7_fill_53178_5b {d : Nat} (hd : 0 ≤ d) {h : Hp} {x0 : Nat} {x1 : Int32} {x2 : Int32} {x3 : Int32} {rf : Option Value} {hf : Hp} {x : ((Int32 × Hp) ⊕ Hp)} (hs : fJ7_fill_53178_5b h x0 x1 x3 x2 = some x) (hk : (Kx (pJ7_fill_53178_5 d x0 x1 x3 rf hf) (kJ7_fill_53178 rf hf)) x) : Go d mJ7_fill_53178 5 [some (.ref x0), some (.int x1), some (.int x2), some (.int x3)] [] h rf hf := by
  unfold fJ7_fill_53178_5b at hs
  refine go_iload_n (k4 := 2) rfl dJ7_fill_53178_5 ?_
  refine go_iload_n (k4 := 3) rfl dJ7_fill_53178_6 ?_
  refine go_icmp_ge (tgt := 20) (by decide) dJ7_fill_53178_7 (fun c => ?_) (fun c => ?_)
  · have hs := if_t c hs
    obtain rfl := Option.some.inj hs
    obtain ⟨rfl, rfl⟩ := hk
    exact go_vret rfl dJ7_fill_53178_20
  · have hs := if_f c hs
    refine go_aload_n (k4 := 0) rfl (Or.inr ⟨_, rfl⟩) dJ7_fill_53178_10 ?_
    refine go_iload_n (k4 := 2) rfl dJ7_fill_53178_11 ?_
    refine go_iload_n (k4 := 1) rfl dJ7_fill_53178_12 ?_
    obtain ⟨h2, eh2, hs⟩ := bindS hs
    refine go_wIi eh2 dJ7_fill_53178_13 ?_
    refine go_iinc (L' := [some (.ref x0), some (.int x1), some (.int (x2 + Int32.ofInt 1)), some (.int x3)]) rfl (by decide) rfl rfl dJ7_fill_53178_14 ?_
    refine go_goto (tgt := 5) (by decide) dJ7_fill_53178_17 ?_
    obtain rfl := Option.some.inj hs
    exact go_subL (L' := [some (.ref x0), some (.int x1), some (.int (x2 + Int32.ofInt 1)), some (.int x3)]) (by simp [subL, va_rf]) hk
theorem oJ7_fill_53178_5 {d : Nat} (hd : 0 ≤ d) {h : Hp} {x0 : Nat} {x1 : Int32} {x2 : Int32} {x3 : Int32} {rf : Option Value} {hf : Hp} {x : Hp} (hs : fJ7_fill_53178_5 h x0 x1 x2 x3 = some x) (hk : (kJ7_fill_53178 rf hf) x) : Go d mJ7_fill_53178 5 [some (.ref x0), some (.int x1), some (.int x2), some (.int x3)] [] h rf hf := by
  unfold fJ7_fill_53178_5 at hs
  exact lpw_go (P := pJ7_fill_53178_5 d x0 x1 x3 rf hf) (fun s x hs hk => oJ7_fill_53178_5b hd hs hk) (x2, h) x hs hk
noncomputable def fJ7_fill_53178 (h : Hp) (x0 : Nat) (x1 : Int32) : Option Hp :=
  (aL h x0).bind fun v1 =>
  fJ7_fill_53178_5 h x0 x1 (0 : Int32) v1
theorem oJ7_fill_53178_0 {d : Nat} (hd : 0 ≤ d) {h : Hp} {x0 : Nat} {x1 : Int32} {rf : Option Value} {hf : Hp} {x : Hp} (hs : fJ7_fill_53178 h x0 x1 = some x) (hk : (kJ7_fill_53178 rf hf) x) : Go d mJ7_fill_53178 0 [some (.ref x0), some (.int x1), none, none] [] h rf hf := by
  unfold fJ7_fill_53178 at hs
  refine go_iconst (v := 0) (by decide) dJ7_fill_53178_0 ?_
  refine go_istore_n (k4 := 2) (L' := [some (.ref x0), some (.int x1), some (.int (0 : Int32)), none]) (by decide) rfl dJ7_fill_53178_1 ?_
  refine go_aload_n (k4 := 0) rfl (Or.inr ⟨_, rfl⟩) dJ7_fill_53178_2 ?_
  obtain ⟨v1, ev1, hs⟩ := bindS hs
  refine go_aL ev1 dJ7_fill_53178_3 ?_
  refine go_istore_n (k4 := 3) (L' := [some (.ref x0), some (.int x1), some (.int (0 : Int32)), some (.int v1)]) (by decide) rfl dJ7_fill_53178_4 ?_
  exact go_subL (L' := [some (.ref x0), some (.int x1), some (.int (0 : Int32)), some (.int v1)]) (by simp [subL, va_rf]) (oJ7_fill_53178_5 hd hs hk)
theorem oJ7_fill_53178 {d : Nat} (hd : 0 ≤ d) {h : Hp} {x0 : Nat} {x1 : Int32} {y : Hp} (hs : fJ7_fill_53178 h x0 x1 = some y) : Call d mJ7_fill_53178 [.ref x0, .int x1] h (none) y := call_of (by decide +kernel) (Nat.le_of_ble_eq_true rfl) (show Go d mJ7_fill_53178 0 [some (.ref x0), some (.int x1), none, none] [] h _ _ from go_subL (by simp [subL]) (oJ7_fill_53178_0 hd hs ⟨rfl, rfl⟩))
abbrev kX1_tunedTo (h : Hp) (rf : Option Value) (hf : Hp) : Nat → Prop := fun y => rf = some (.ref y) ∧ hf = h
noncomputable def fX1_tunedTo (h : Hp) (x0 : Nat) : Option Nat :=
  (gN h 1 x0 5).bind fun v1 =>
  some (v1)
theorem oX1_tunedTo_0 {d : Nat} (hd : 0 ≤ d) {h : Hp} {x0 : Nat} {rf : Option Value} {hf : Hp} {x : Nat} (hs : fX1_tunedTo h x0 = some x) (hk : (kX1_tunedTo h rf hf) x) : Go d mX1_tunedTo 0 [some (.ref x0)] [] h rf hf := by
  unfold fX1_tunedTo at hs
  refine go_aload_n (k4 := 0) rfl (Or.inr ⟨_, rfl⟩) dX1_tunedTo_0 ?_
  obtain ⟨v1, ev1, hs⟩ := bindS hs
  refine go_gN fl_RX1_34 ev1 dX1_tunedTo_1 ?_
  obtain rfl := Option.some.inj hs
  obtain ⟨rfl, rfl⟩ := hk
  exact go_aret rfl (Or.inl ⟨_, rfl⟩) (Or.inr ⟨_, rfl⟩) dX1_tunedTo_4
theorem oX1_tunedTo {d : Nat} (hd : 0 ≤ d) {h : Hp} {x0 : Nat} {y : Nat} (hs : fX1_tunedTo h x0 = some y) : Call d mX1_tunedTo [.ref x0] h (some (.ref y)) h := call_of (by decide +kernel) (Nat.le_of_ble_eq_true rfl) (show Go d mX1_tunedTo 0 [some (.ref x0)] [] h _ _ from go_subL (by simp [subL]) (oX1_tunedTo_0 hd hs ⟨rfl, rfl⟩))
abbrev kX10_tellMeetings (rf : Option Value) (hf : Hp) : Hp → Prop := fun y => rf = none ∧ hf = y
abbrev pX10_tellMeetings_26 (d : Nat) (x0 : Nat) (x3 : Nat) (x4 : Nat) (rf : Option Value) (hf : Hp) : (Int32 × Int32 × Hp) → Prop := fun s => Go d mX10_tellMeetings 26 [some (.ref x0), none, none, some (.ref x3), some (.ref x4), some (.int s.1), some (.int s.2.1), none] [] s.2.2 rf hf
noncomputable def fX10_tellMeetings_124 (h : Hp)  : Option Hp :=
  some (h)
theorem oX10_tellMeetings_124 {d : Nat} (hd : 5 ≤ d) {h : Hp} {rf : Option Value} {hf : Hp} {x : Hp} (hs : fX10_tellMeetings_124 h  = some x) (hk : (kX10_tellMeetings rf hf) x) : Go d mX10_tellMeetings 124 [none, none, none, none, none, none, none, none] [] h rf hf := by
  unfold fX10_tellMeetings_124 at hs
  obtain rfl := Option.some.inj hs
  obtain ⟨rfl, rfl⟩ := hk
  exact go_vret rfl dX10_tellMeetings_124
abbrev pX10_tellMeetings_41 (d : Nat) (x0 : Nat) (x3 : Nat) (x4 : Nat) (x6 : Int32) (rf : Option Value) (hf : Hp) : (Int32 × Hp) → Prop := fun s => Go d mX10_tellMeetings 41 [some (.ref x0), none, none, some (.ref x3), some (.ref x4), none, some (.int x6), some (.int s.1)] [] s.2 rf hf
noncomputable def fX10_tellMeetings_116 (h : Hp) (x0 : Nat) (x3 : Nat) (x4 : Nat) (x6 : Int32) (s0 : Int32) : Option ((Int32 × Int32 × Hp) ⊕ Hp) :=
  some (.inl (s0, (x6 + Int32.ofInt 1), h))
theorem oX10_tellMeetings_116 {d : Nat} (hd : 5 ≤ d) {h : Hp} {x0 : Nat} {x3 : Nat} {x4 : Nat} {x6 : Int32} {s0 : Int32} {rf : Option Value} {hf : Hp} {x : ((Int32 × Int32 × Hp) ⊕ Hp)} (hs : fX10_tellMeetings_116 h x0 x3 x4 x6 s0 = some x) (hk : (Kx (pX10_tellMeetings_26 d x0 x3 x4 rf hf) (kX10_tellMeetings rf hf)) x) : Go d mX10_tellMeetings 116 [some (.ref x0), none, none, some (.ref x3), some (.ref x4), none, some (.int x6), none] [.int s0] h rf hf := by
  unfold fX10_tellMeetings_116 at hs
  refine go_istore (L' := [some (.ref x0), none, none, some (.ref x3), some (.ref x4), some (.int s0), some (.int x6), none]) (by decide) rfl dX10_tellMeetings_116 ?_
  refine go_iinc (L' := [some (.ref x0), none, none, some (.ref x3), some (.ref x4), some (.int s0), some (.int (x6 + Int32.ofInt 1)), none]) rfl (by decide) rfl rfl dX10_tellMeetings_118 ?_
  refine go_goto (tgt := 26) (by decide) dX10_tellMeetings_121 ?_
  obtain rfl := Option.some.inj hs
  exact go_subL (L' := [some (.ref x0), none, none, some (.ref x3), some (.ref x4), some (.int s0), some (.int (x6 + Int32.ofInt 1)), none]) (by simp [subL, va_rf]) hk
noncomputable def fX10_tellMeetings_115 (h : Hp) (x0 : Nat) (x3 : Nat) (x4 : Nat) (x6 : Int32) : Option ((Int32 × Int32 × Hp) ⊕ Hp) :=
  fX10_tellMeetings_116 h x0 x3 x4 x6 (0 : Int32)
theorem oX10_tellMeetings_115 {d : Nat} (hd : 5 ≤ d) {h : Hp} {x0 : Nat} {x3 : Nat} {x4 : Nat} {x6 : Int32} {rf : Option Value} {hf : Hp} {x : ((Int32 × Int32 × Hp) ⊕ Hp)} (hs : fX10_tellMeetings_115 h x0 x3 x4 x6 = some x) (hk : (Kx (pX10_tellMeetings_26 d x0 x3 x4 rf hf) (kX10_tellMeetings rf hf)) x) : Go d mX10_tellMeetings 115 [some (.ref x0), none, none, some (.ref x3), some (.ref x4), none, some (.int x6), none] [] h rf hf := by
  unfold fX10_tellMeetings_115 at hs
  refine go_iconst (v := 0) (by decide) dX10_tellMeetings_115 ?_
  exact go_subL (L' := [some (.ref x0), none, none, some (.ref x3), some (.ref x4), none, some (.int x6), none]) (by simp [subL, va_rf]) (oX10_tellMeetings_116 hd hs hk)
noncomputable def fX10_tellMeetings_92 (h : Hp) (x0 : Nat) (x3 : Nat) (x4 : Nat) (x6 : Int32) : Option ((Int32 × Int32 × Hp) ⊕ Hp) :=
  (gI h 10 x0 2).bind fun v8 =>
  gO h 0 x4 (
  (fX0_gapSum h x4 v8).bind fun y9 =>
  if y9 ≤ 0 then (
  fX10_tellMeetings_115 h x0 x3 x4 x6) else (
    gO h 10 x0 (
    (fX10_step h x0).bind fun y11 =>
    if y11.1 = 0 then (
    fX10_tellMeetings_115 y11.2 x0 x3 x4 x6) else (
      fX10_tellMeetings_116 y11.2 x0 x3 x4 x6 (1 : Int32)))))
theorem oX10_tellMeetings_92 {d : Nat} (hd : 5 ≤ d) {h : Hp} {x0 : Nat} {x3 : Nat} {x4 : Nat} {x6 : Int32} {rf : Option Value} {hf : Hp} {x : ((Int32 × Int32 × Hp) ⊕ Hp)} (hs : fX10_tellMeetings_92 h x0 x3 x4 x6 = some x) (hk : (Kx (pX10_tellMeetings_26 d x0 x3 x4 rf hf) (kX10_tellMeetings rf hf)) x) : Go d mX10_tellMeetings 92 [some (.ref x0), none, none, some (.ref x3), some (.ref x4), none, some (.int x6), none] [] h rf hf := by
  unfold fX10_tellMeetings_92 at hs
  refine go_aload rfl (Or.inr ⟨_, rfl⟩) dX10_tellMeetings_92 ?_
  refine go_aload_n (k4 := 0) rfl (Or.inr ⟨_, rfl⟩) dX10_tellMeetings_94 ?_
  obtain ⟨v8, ev8, hs⟩ := bindS hs
  refine go_gI fl_RX10_15 ev8 dX10_tellMeetings_95 ?_
  obtain ⟨g10, hs⟩ := gO_at hs
  obtain ⟨y9, ey9, hs⟩ := bindS hs
  refine go_V1 (As := [.int v8]) (st := []) g10 rfl rfl (oX0_gapSum (d := d - 1) (by omega) ey9) (by omega) mb_X0_gapSum lm_RX10_68 mi_X0_gapSum (Nat.le_of_ble_eq_true rfl) rfl dX10_tellMeetings_98 ?_
  refine go_if_le (tgt := 115) (by decide) dX10_tellMeetings_101 (fun c => ?_) (fun c => ?_)
  · have hs := if_t c hs
    exact go_subL (L' := [some (.ref x0), none, none, some (.ref x3), some (.ref x4), none, some (.int x6), none]) (by simp [subL, va_rf]) (oX10_tellMeetings_115 hd hs hk)
  · have hs := if_f c hs
    refine go_aload_n (k4 := 0) rfl (Or.inr ⟨_, rfl⟩) dX10_tellMeetings_104 ?_
    obtain ⟨g12, hs⟩ := gO_at hs
    obtain ⟨y11, ey11, hs⟩ := bindS hs
    refine go_V1 (As := []) (st := []) g12 rfl rfl (oX10_step (d := d - 1) (by omega) ey11) (by omega) mb_X10_step lm_RX10_44 mi_X10_step (Nat.le_of_ble_eq_true rfl) rfl dX10_tellMeetings_105 ?_
    refine go_if_eq (tgt := 115) (by decide) dX10_tellMeetings_108 (fun c => ?_) (fun c => ?_)
    · have hs := if_t c hs
      exact go_subL (L' := [some (.ref x0), none, none, some (.ref x3), some (.ref x4), none, some (.int x6), none]) (by simp [subL, va_rf]) (oX10_tellMeetings_115 hd hs hk)
    · have hs := if_f c hs
      refine go_iconst (v := 1) (by decide) dX10_tellMeetings_111 ?_
      refine go_goto (tgt := 116) (by decide) dX10_tellMeetings_112 ?_
      exact go_subL (L' := [some (.ref x0), none, none, some (.ref x3), some (.ref x4), none, some (.int x6), none]) (by simp [subL, va_rf]) (oX10_tellMeetings_116 hd hs hk)
noncomputable def fX10_tellMeetings_86 (h : Hp) (x0 : Nat) (x3 : Nat) (x4 : Nat) (x6 : Int32) (x7 : Int32) : Option ((Int32 × Hp) ⊕ ((Int32 × Int32 × Hp) ⊕ Hp)) :=
  some (.inl ((x7 + Int32.ofInt 1), h))
theorem oX10_tellMeetings_86 {d : Nat} (hd : 5 ≤ d) {h : Hp} {x0 : Nat} {x3 : Nat} {x4 : Nat} {x6 : Int32} {x7 : Int32} {rf : Option Value} {hf : Hp} {x : ((Int32 × Hp) ⊕ ((Int32 × Int32 × Hp) ⊕ Hp))} (hs : fX10_tellMeetings_86 h x0 x3 x4 x6 x7 = some x) (hk : (Kx (pX10_tellMeetings_41 d x0 x3 x4 x6 rf hf) (Kx (pX10_tellMeetings_26 d x0 x3 x4 rf hf) (kX10_tellMeetings rf hf))) x) : Go d mX10_tellMeetings 86 [some (.ref x0), none, none, some (.ref x3), some (.ref x4), none, some (.int x6), some (.int x7)] [] h rf hf := by
  unfold fX10_tellMeetings_86 at hs
  refine go_iinc (L' := [some (.ref x0), none, none, some (.ref x3), some (.ref x4), none, some (.int x6), some (.int (x7 + Int32.ofInt 1))]) rfl (by decide) rfl rfl dX10_tellMeetings_86 ?_
  refine go_goto (tgt := 41) (by decide) dX10_tellMeetings_89 ?_
  obtain rfl := Option.some.inj hs
  exact go_subL (L' := [some (.ref x0), none, none, some (.ref x3), some (.ref x4), none, some (.int x6), some (.int (x7 + Int32.ofInt 1))]) (by simp [subL, va_rf]) hk
noncomputable def fX10_tellMeetings_41b (h : Hp) (x0 : Nat) (x3 : Nat) (x4 : Nat) (x6 : Int32) (x7 : Int32) : Option ((Int32 × Hp) ⊕ ((Int32 × Int32 × Hp) ⊕ Hp)) :=
  (gI h 0 x4 0).bind fun v7 =>
  if v7 ≤ x7 then (
  (fX10_tellMeetings_92 h x0 x3 x4 x6).map (fun q => .inr q)) else (
    (aL h x3).bind fun v13 =>
    if v13 ≤ x7 then (
    (fX10_tellMeetings_92 h x0 x3 x4 x6).map (fun q => .inr q)) else (
      (aI 0 h x3 x7).bind fun v14 =>
      if v14 = (-1 : Int32) then (
        (gI h 10 x0 2).bind fun v15 =>
        (fX11_digit h v15 x7).bind fun y16 =>
        if y16 = 0 then (
          (gI h 10 x0 3).bind fun v17 =>
          (wI 0 h x3 x7 v17).bind fun h18 =>
          fX10_tellMeetings_86 h18 x0 x3 x4 x6 x7) else (
        fX10_tellMeetings_86 h x0 x3 x4 x6 x7)) else (
      fX10_tellMeetings_86 h x0 x3 x4 x6 x7)))
noncomputable def fX10_tellMeetings_41 (h : Hp) (x0 : Nat) (x3 : Nat) (x4 : Nat) (x6 : Int32) (x7 : Int32) : Option ((Int32 × Int32 × Hp) ⊕ Hp) := lpw (σ := (Int32 × Hp)) (fun s => fX10_tellMeetings_41b s.2 x0 x3 x4 x6 s.1) (x7, h)
theorem oX10_tellMeetings_41b {d : Nat} (hd : 5 ≤ d) {h : Hp} {x0 : Nat} {x3 : Nat} {x4 : Nat} {x6 : Int32} {x7 : Int32} {rf : Option Value} {hf : Hp} {x : ((Int32 × Hp) ⊕ ((Int32 × Int32 × Hp) ⊕ Hp))} (hs : fX10_tellMeetings_41b h x0 x3 x4 x6 x7 = some x) (hk : (Kx (pX10_tellMeetings_41 d x0 x3 x4 x6 rf hf) (Kx (pX10_tellMeetings_26 d x0 x3 x4 rf hf) (kX10_tellMeetings rf hf))) x) : Go d mX10_tellMeetings 41 [some (.ref x0), none, none, some (.ref x3), some (.ref x4), none, some (.int x6), some (.int x7)] [] h rf hf := by
  unfold fX10_tellMeetings_41b at hs
  refine go_iload rfl dX10_tellMeetings_41 ?_
  refine go_aload rfl (Or.inr ⟨_, rfl⟩) dX10_tellMeetings_43 ?_
  obtain ⟨v7, ev7, hs⟩ := bindS hs
  refine go_gI fl_RX10_59 ev7 dX10_tellMeetings_45 ?_
  refine go_icmp_ge (tgt := 92) (by decide) dX10_tellMeetings_48 (fun c => ?_) (fun c => ?_)
  · have hs := if_t c hs
    obtain ⟨q, hs2, hq⟩ := mapS hs
    clear hs
    subst hq
    exact go_subL (L' := [some (.ref x0), none, none, some (.ref x3), some (.ref x4), none, some (.int x6), none]) (by simp [subL, va_rf]) (oX10_tellMeetings_92 hd hs2 hk)
  · have hs := if_f c hs
    refine go_iload rfl dX10_tellMeetings_51 ?_
    refine go_aload_n (k4 := 3) rfl (Or.inr ⟨_, rfl⟩) dX10_tellMeetings_53 ?_
    obtain ⟨v13, ev13, hs⟩ := bindS hs
    refine go_aL ev13 dX10_tellMeetings_54 ?_
    refine go_icmp_ge (tgt := 92) (by decide) dX10_tellMeetings_55 (fun c => ?_) (fun c => ?_)
    · have hs := if_t c hs
      obtain ⟨q, hs2, hq⟩ := mapS hs
      clear hs
      subst hq
      exact go_subL (L' := [some (.ref x0), none, none, some (.ref x3), some (.ref x4), none, some (.int x6), none]) (by simp [subL, va_rf]) (oX10_tellMeetings_92 hd hs2 hk)
    · have hs := if_f c hs
      refine go_aload_n (k4 := 3) rfl (Or.inr ⟨_, rfl⟩) dX10_tellMeetings_58 ?_
      refine go_iload rfl dX10_tellMeetings_59 ?_
      obtain ⟨v14, ev14, hs⟩ := bindS hs
      refine go_aIi ev14 dX10_tellMeetings_61 ?_
      refine go_iconst (v := -1) (by decide) dX10_tellMeetings_62 ?_
      refine go_icmp_ne (tgt := 86) (by decide) dX10_tellMeetings_63 (fun c => ?_) (fun c => ?_)
      · have hs := if_f c hs
        exact go_subL (L' := [some (.ref x0), none, none, some (.ref x3), some (.ref x4), none, some (.int x6), some (.int x7)]) (by simp [subL, va_rf]) (oX10_tellMeetings_86 hd hs hk)
      · have hs := if_t c hs
        refine go_aload_n (k4 := 0) rfl (Or.inr ⟨_, rfl⟩) dX10_tellMeetings_66 ?_
        obtain ⟨v15, ev15, hs⟩ := bindS hs
        refine go_gI fl_RX10_15 ev15 dX10_tellMeetings_67 ?_
        refine go_iload rfl dX10_tellMeetings_70 ?_
        obtain ⟨y16, ey16, hs⟩ := bindS hs
        refine go_SN1 (As := [.int v15, .int x7]) (st := []) (oX11_digit (d := d - 1) (by omega) ey16) (by omega) mb_X11_digit lm_RX10_64 ms_X11_digit (Nat.le_of_ble_eq_true rfl) rfl dX10_tellMeetings_72 ?_
        refine go_if_ne (tgt := 86) (by decide) dX10_tellMeetings_75 (fun c => ?_) (fun c => ?_)
        · have hs := if_f c hs
          exact go_subL (L' := [some (.ref x0), none, none, some (.ref x3), some (.ref x4), none, some (.int x6), some (.int x7)]) (by simp [subL, va_rf]) (oX10_tellMeetings_86 hd hs hk)
        · have hs := if_t c hs
          refine go_aload_n (k4 := 3) rfl (Or.inr ⟨_, rfl⟩) dX10_tellMeetings_78 ?_
          refine go_iload rfl dX10_tellMeetings_79 ?_
          refine go_aload_n (k4 := 0) rfl (Or.inr ⟨_, rfl⟩) dX10_tellMeetings_81 ?_
          obtain ⟨v17, ev17, hs⟩ := bindS hs
          refine go_gI fl_RX10_18 ev17 dX10_tellMeetings_82 ?_
          obtain ⟨h18, eh18, hs⟩ := bindS hs
          refine go_wIi eh18 dX10_tellMeetings_85 ?_
          exact go_subL (L' := [some (.ref x0), none, none, some (.ref x3), some (.ref x4), none, some (.int x6), some (.int x7)]) (by simp [subL, va_rf]) (oX10_tellMeetings_86 hd hs hk)
theorem oX10_tellMeetings_41 {d : Nat} (hd : 5 ≤ d) {h : Hp} {x0 : Nat} {x3 : Nat} {x4 : Nat} {x6 : Int32} {x7 : Int32} {rf : Option Value} {hf : Hp} {x : ((Int32 × Int32 × Hp) ⊕ Hp)} (hs : fX10_tellMeetings_41 h x0 x3 x4 x6 x7 = some x) (hk : (Kx (pX10_tellMeetings_26 d x0 x3 x4 rf hf) (kX10_tellMeetings rf hf)) x) : Go d mX10_tellMeetings 41 [some (.ref x0), none, none, some (.ref x3), some (.ref x4), none, some (.int x6), some (.int x7)] [] h rf hf := by
  unfold fX10_tellMeetings_41 at hs
  exact lpw_go (P := pX10_tellMeetings_41 d x0 x3 x4 x6 rf hf) (fun s x hs hk => oX10_tellMeetings_41b hd hs hk) (x7, h) x hs hk
noncomputable def fX10_tellMeetings_26b (h : Hp) (x0 : Nat) (x3 : Nat) (x4 : Nat) (x5 : Int32) (x6 : Int32) : Option ((Int32 × Int32 × Hp) ⊕ Hp) :=
  if (99999 : Int32) < x6 then (
  (fX10_tellMeetings_124 h ).map (fun q => .inr q)) else (
    if x5 = 0 then (
    (fX10_tellMeetings_124 h ).map (fun q => .inr q)) else (
      fX10_tellMeetings_41 h x0 x3 x4 x6 (0 : Int32)))
noncomputable def fX10_tellMeetings_26 (h : Hp) (x0 : Nat) (x3 : Nat) (x4 : Nat) (x5 : Int32) (x6 : Int32) : Option Hp := lpw (σ := (Int32 × Int32 × Hp)) (fun s => fX10_tellMeetings_26b s.2.2 x0 x3 x4 s.1 s.2.1) (x5, x6, h)
theorem oX10_tellMeetings_26b {d : Nat} (hd : 5 ≤ d) {h : Hp} {x0 : Nat} {x3 : Nat} {x4 : Nat} {x5 : Int32} {x6 : Int32} {rf : Option Value} {hf : Hp} {x : ((Int32 × Int32 × Hp) ⊕ Hp)} (hs : fX10_tellMeetings_26b h x0 x3 x4 x5 x6 = some x) (hk : (Kx (pX10_tellMeetings_26 d x0 x3 x4 rf hf) (kX10_tellMeetings rf hf)) x) : Go d mX10_tellMeetings 26 [some (.ref x0), none, none, some (.ref x3), some (.ref x4), some (.int x5), some (.int x6), none] [] h rf hf := by
  unfold fX10_tellMeetings_26b at hs
  refine go_iload rfl dX10_tellMeetings_26 ?_
  refine go_ldc lc_RX10_58 dX10_tellMeetings_28 ?_
  refine go_icmp_gt (tgt := 124) (by decide) dX10_tellMeetings_30 (fun c => ?_) (fun c => ?_)
  · have hs := if_t c hs
    obtain ⟨q, hs2, hq⟩ := mapS hs
    clear hs
    subst hq
    exact go_subL (L' := [none, none, none, none, none, none, none, none]) (by simp [subL, va_rf]) (oX10_tellMeetings_124 hd hs2 hk)
  · have hs := if_f c hs
    refine go_iload rfl dX10_tellMeetings_33 ?_
    refine go_if_eq (tgt := 124) (by decide) dX10_tellMeetings_35 (fun c => ?_) (fun c => ?_)
    · have hs := if_t c hs
      obtain ⟨q, hs2, hq⟩ := mapS hs
      clear hs
      subst hq
      exact go_subL (L' := [none, none, none, none, none, none, none, none]) (by simp [subL, va_rf]) (oX10_tellMeetings_124 hd hs2 hk)
    · have hs := if_f c hs
      refine go_iconst (v := 0) (by decide) dX10_tellMeetings_38 ?_
      refine go_istore (L' := [some (.ref x0), none, none, some (.ref x3), some (.ref x4), some (.int x5), some (.int x6), some (.int (0 : Int32))]) (by decide) rfl dX10_tellMeetings_39 ?_
      exact go_subL (L' := [some (.ref x0), none, none, some (.ref x3), some (.ref x4), none, some (.int x6), some (.int (0 : Int32))]) (by simp [subL, va_rf]) (oX10_tellMeetings_41 hd hs hk)
theorem oX10_tellMeetings_26 {d : Nat} (hd : 5 ≤ d) {h : Hp} {x0 : Nat} {x3 : Nat} {x4 : Nat} {x5 : Int32} {x6 : Int32} {rf : Option Value} {hf : Hp} {x : Hp} (hs : fX10_tellMeetings_26 h x0 x3 x4 x5 x6 = some x) (hk : (kX10_tellMeetings rf hf) x) : Go d mX10_tellMeetings 26 [some (.ref x0), none, none, some (.ref x3), some (.ref x4), some (.int x5), some (.int x6), none] [] h rf hf := by
  unfold fX10_tellMeetings_26 at hs
  exact lpw_go (P := pX10_tellMeetings_26 d x0 x3 x4 rf hf) (fun s x hs hk => oX10_tellMeetings_26b hd hs hk) (x5, x6, h) x hs hk
noncomputable def fX10_tellMeetings (h : Hp) (x0 : Nat) (x1 : Int32) (x2 : Int32) (x3 : Nat) : Option Hp :=
  (fJ7_fill_53178 h x3 (-1 : Int32)).bind fun y1 =>
  gO y1 10 x0 (
  (fX10_start y1 x0 x1 x2).bind fun y2 =>
  (gN y2 10 x0 0).bind fun v4 =>
  gO y2 1 v4 (
  (fX1_tunedTo y2 v4).bind fun y5 =>
  fX10_tellMeetings_26 y2 x0 x3 y5 (1 : Int32) (0 : Int32)))
theorem oX10_tellMeetings_0 {d : Nat} (hd : 5 ≤ d) {h : Hp} {x0 : Nat} {x1 : Int32} {x2 : Int32} {x3 : Nat} {rf : Option Value} {hf : Hp} {x : Hp} (hs : fX10_tellMeetings h x0 x1 x2 x3 = some x) (hk : (kX10_tellMeetings rf hf) x) : Go d mX10_tellMeetings 0 [some (.ref x0), some (.int x1), some (.int x2), some (.ref x3), none, none, none, none] [] h rf hf := by
  unfold fX10_tellMeetings at hs
  refine go_aload_n (k4 := 3) rfl (Or.inr ⟨_, rfl⟩) dX10_tellMeetings_0 ?_
  refine go_iconst (v := -1) (by decide) dX10_tellMeetings_1 ?_
  obtain ⟨y1, ey1, hs⟩ := bindS hs
  refine go_S0 (As := [.ref x3, .int (-1 : Int32)]) (st := []) (oJ7_fill_53178 (d := d - 1) (by omega) ey1) (by omega) mb_J7_fill_53178 lm_RX10_48 ms_J7_fill_53178 (Nat.le_of_ble_eq_true rfl) rfl dX10_tellMeetings_2 ?_
  refine go_aload_n (k4 := 0) rfl (Or.inr ⟨_, rfl⟩) dX10_tellMeetings_5 ?_
  refine go_iload_n (k4 := 1) rfl dX10_tellMeetings_6 ?_
  refine go_iload_n (k4 := 2) rfl dX10_tellMeetings_7 ?_
  obtain ⟨g3, hs⟩ := gO_at hs
  obtain ⟨y2, ey2, hs⟩ := bindS hs
  refine go_V0 (As := [.int x1, .int x2]) (st := []) g3 rfl rfl (oX10_start (d := d - 1) (by omega) ey2) (by omega) mb_X10_start lm_RX10_40 mi_X10_start (Nat.le_of_ble_eq_true rfl) rfl dX10_tellMeetings_8 ?_
  refine go_at 11 rfl ?_
  refine go_aload_n (k4 := 0) rfl (Or.inr ⟨_, rfl⟩) dX10_tellMeetings_11 ?_
  obtain ⟨v4, ev4, hs⟩ := bindS hs
  refine go_gN fl_RX10_30 ev4 dX10_tellMeetings_12 ?_
  obtain ⟨g6, hs⟩ := gO_at hs
  obtain ⟨y5, ey5, hs⟩ := bindS hs
  refine go_V1 (As := []) (st := []) g6 rfl rfl (oX1_tunedTo (d := d - 1) (by omega) ey5) (by omega) mb_X1_tunedTo lm_RX10_54 mi_X1_tunedTo (Nat.le_of_ble_eq_true rfl) rfl dX10_tellMeetings_15 ?_
  refine go_astore (L' := [some (.ref x0), some (.int x1), some (.int x2), some (.ref x3), some (.ref y5), none, none, none]) (by decide) (Or.inr ⟨_, rfl⟩) rfl dX10_tellMeetings_18 ?_
  refine go_iconst (v := 1) (by decide) dX10_tellMeetings_20 ?_
  refine go_istore (L' := [some (.ref x0), some (.int x1), some (.int x2), some (.ref x3), some (.ref y5), some (.int (1 : Int32)), none, none]) (by decide) rfl dX10_tellMeetings_21 ?_
  refine go_iconst (v := 0) (by decide) dX10_tellMeetings_23 ?_
  refine go_istore (L' := [some (.ref x0), some (.int x1), some (.int x2), some (.ref x3), some (.ref y5), some (.int (1 : Int32)), some (.int (0 : Int32)), none]) (by decide) rfl dX10_tellMeetings_24 ?_
  exact go_subL (L' := [some (.ref x0), none, none, some (.ref x3), some (.ref y5), some (.int (1 : Int32)), some (.int (0 : Int32)), none]) (by simp [subL, va_rf]) (oX10_tellMeetings_26 hd hs hk)
theorem oX10_tellMeetings {d : Nat} (hd : 5 ≤ d) {h : Hp} {x0 : Nat} {x1 : Int32} {x2 : Int32} {x3 : Nat} {y : Hp} (hs : fX10_tellMeetings h x0 x1 x2 x3 = some y) : Call d mX10_tellMeetings [.ref x0, .int x1, .int x2, .ref x3] h (none) y := call_of (by decide +kernel) (Nat.le_of_ble_eq_true rfl) (show Go d mX10_tellMeetings 0 [some (.ref x0), some (.int x1), some (.int x2), some (.ref x3), none, none, none, none] [] h _ _ from go_subL (by simp [subL]) (oX10_tellMeetings_0 hd hs ⟨rfl, rfl⟩))
abbrev kX11_meets (rf : Option Value) (hf : Hp) : (Int32 × Hp) → Prop := fun y => rf = some (.int y.1) ∧ hf = y.2
noncomputable def fX11_meets (h : Hp) (x0 : Nat) (x1 : Int32) : Option (Int32 × Hp) :=
  gO h 11 x0 (
  (fX11_isPair h x0 x1).bind fun y1 =>
  if y1 = 0 then (
    some (((-2 : Int32), h))) else (
    gO h 11 x0 (
    (fX11_tuned h x0).bind fun y3 =>
    (gN y3.2 11 x0 12).bind fun v5 =>
    (gN y3.2 11 x0 4).bind fun v6 =>
    (gI y3.2 8 v6 0).bind fun v7 =>
    (gN y3.2 11 x0 4).bind fun v8 =>
    (gI y3.2 8 v8 2).bind fun v9 =>
    (gN y3.2 11 x0 15).bind fun v10 =>
    gO y3.2 10 v5 (
    (fX10_tellMeetings y3.2 v5 v7 v9 v10).bind fun y11 =>
    (gN y11 11 x0 15).bind fun v13 =>
    (aI 0 y11 v13 x1).bind fun v14 =>
    some ((v14, y11))))))
theorem oX11_meets_0 {d : Nat} (hd : 6 ≤ d) {h : Hp} {x0 : Nat} {x1 : Int32} {rf : Option Value} {hf : Hp} {x : (Int32 × Hp)} (hs : fX11_meets h x0 x1 = some x) (hk : (kX11_meets rf hf) x) : Go d mX11_meets 0 [some (.ref x0), some (.int x1)] [] h rf hf := by
  unfold fX11_meets at hs
  refine go_aload_n (k4 := 0) rfl (Or.inr ⟨_, rfl⟩) dX11_meets_0 ?_
  refine go_iload_n (k4 := 1) rfl dX11_meets_1 ?_
  obtain ⟨g2, hs⟩ := gO_at hs
  obtain ⟨y1, ey1, hs⟩ := bindS hs
  refine go_V1 (As := [.int x1]) (st := []) g2 rfl rfl (oX11_isPair (d := d - 1) (by omega) ey1) (by omega) mb_X11_isPair lm_RX11_138 mi_X11_isPair (Nat.le_of_ble_eq_true rfl) rfl dX11_meets_2 ?_
  refine go_if_ne (tgt := 11) (by decide) dX11_meets_5 (fun c => ?_) (fun c => ?_)
  · have hs := if_f c hs
    refine go_aload_n (k4 := 0) rfl (Or.inr ⟨_, rfl⟩) dX11_meets_11 ?_
    obtain ⟨g4, hs⟩ := gO_at hs
    obtain ⟨y3, ey3, hs⟩ := bindS hs
    refine go_V1 (As := []) (st := []) g4 rfl rfl (oX11_tuned (d := d - 1) (by omega) ey3) (by omega) mb_X11_tuned lm_RX11_166 mi_X11_tuned (Nat.le_of_ble_eq_true rfl) rfl dX11_meets_12 ?_
    refine go_pop rfl dX11_meets_15 ?_
    refine go_aload_n (k4 := 0) rfl (Or.inr ⟨_, rfl⟩) dX11_meets_16 ?_
    obtain ⟨v5, ev5, hs⟩ := bindS hs
    refine go_gN fl_RX11_81 ev5 dX11_meets_17 ?_
    refine go_aload_n (k4 := 0) rfl (Or.inr ⟨_, rfl⟩) dX11_meets_20 ?_
    obtain ⟨v6, ev6, hs⟩ := bindS hs
    refine go_gN fl_RX11_36 ev6 dX11_meets_21 ?_
    refine go_at 24 rfl ?_
    obtain ⟨v7, ev7, hs⟩ := bindS hs
    refine go_gI fl_RX11_142 ev7 dX11_meets_24 ?_
    refine go_aload_n (k4 := 0) rfl (Or.inr ⟨_, rfl⟩) dX11_meets_27 ?_
    obtain ⟨v8, ev8, hs⟩ := bindS hs
    refine go_gN fl_RX11_36 ev8 dX11_meets_28 ?_
    obtain ⟨v9, ev9, hs⟩ := bindS hs
    refine go_gI fl_RX11_152 ev9 dX11_meets_31 ?_
    refine go_aload_n (k4 := 0) rfl (Or.inr ⟨_, rfl⟩) dX11_meets_34 ?_
    obtain ⟨v10, ev10, hs⟩ := bindS hs
    refine go_gN fl_RX11_101 ev10 dX11_meets_35 ?_
    obtain ⟨g12, hs⟩ := gO_at hs
    obtain ⟨y11, ey11, hs⟩ := bindS hs
    refine go_V0 (As := [.int v7, .int v9, .ref v10]) (st := []) g12 rfl rfl (oX10_tellMeetings (d := d - 1) (by omega) ey11) (by omega) mb_X10_tellMeetings lm_RX11_274 mi_X10_tellMeetings (Nat.le_of_ble_eq_true rfl) rfl dX11_meets_38 ?_
    refine go_aload_n (k4 := 0) rfl (Or.inr ⟨_, rfl⟩) dX11_meets_41 ?_
    refine go_at 42 rfl ?_
    obtain ⟨v13, ev13, hs⟩ := bindS hs
    refine go_gN fl_RX11_101 ev13 dX11_meets_42 ?_
    refine go_iload_n (k4 := 1) rfl dX11_meets_45 ?_
    obtain ⟨v14, ev14, hs⟩ := bindS hs
    refine go_aIi ev14 dX11_meets_46 ?_
    obtain rfl := Option.some.inj hs
    obtain ⟨rfl, rfl⟩ := hk
    exact go_iret rfl dX11_meets_47
  · have hs := if_t c hs
    refine go_bipush (v := -2) (by decide) dX11_meets_8 ?_
    obtain rfl := Option.some.inj hs
    obtain ⟨rfl, rfl⟩ := hk
    exact go_iret rfl dX11_meets_10
theorem oX11_meets {d : Nat} (hd : 6 ≤ d) {h : Hp} {x0 : Nat} {x1 : Int32} {y : (Int32 × Hp)} (hs : fX11_meets h x0 x1 = some y) : Call d mX11_meets [.ref x0, .int x1] h (some (.int y.1)) (y.2) := call_of (by decide +kernel) (Nat.le_of_ble_eq_true rfl) (show Go d mX11_meets 0 [some (.ref x0), some (.int x1)] [] h _ _ from go_subL (by simp [subL]) (oX11_meets_0 hd hs ⟨rfl, rfl⟩))
abbrev kX11_countEarlier (h : Hp) (rf : Option Value) (hf : Hp) : Int32 → Prop := fun y => rf = some (.int y) ∧ hf = h
abbrev pX11_countEarlier_4 (d : Nat) (h : Hp) (x0 : Nat) (x1 : Int32) (rf : Option Value) (hf : Hp) : (Int32 × Int32) → Prop := fun s => Go d mX11_countEarlier 4 [some (.ref x0), some (.int x1), some (.int s.1), some (.int s.2), none] [] h rf hf
noncomputable def fX11_countEarlier_75 (h : Hp) (x0 : Nat) (x1 : Int32) (x2 : Int32) (x3 : Int32) : Option ((Int32 × Int32) ⊕ Int32) :=
  some (.inl (x2, (x3 + Int32.ofInt 1)))
theorem oX11_countEarlier_75 {d : Nat} (hd : 0 ≤ d) {h : Hp} {x0 : Nat} {x1 : Int32} {x2 : Int32} {x3 : Int32} {rf : Option Value} {hf : Hp} {x : ((Int32 × Int32) ⊕ Int32)} (hs : fX11_countEarlier_75 h x0 x1 x2 x3 = some x) (hk : (Kx (pX11_countEarlier_4 d h x0 x1 rf hf) (kX11_countEarlier h rf hf)) x) : Go d mX11_countEarlier 75 [some (.ref x0), some (.int x1), some (.int x2), some (.int x3), none] [] h rf hf := by
  unfold fX11_countEarlier_75 at hs
  refine go_iinc (L' := [some (.ref x0), some (.int x1), some (.int x2), some (.int (x3 + Int32.ofInt 1)), none]) rfl (by decide) rfl rfl dX11_countEarlier_75 ?_
  refine go_goto (tgt := 4) (by decide) dX11_countEarlier_78 ?_
  obtain rfl := Option.some.inj hs
  exact go_subL (L' := [some (.ref x0), some (.int x1), some (.int x2), some (.int (x3 + Int32.ofInt 1)), none]) (by simp [subL, va_rf]) hk
noncomputable def fX11_countEarlier_55 (h : Hp) (x0 : Nat) (x1 : Int32) (x2 : Int32) (x3 : Int32) (s0 : Int32) : Option ((Int32 × Int32) ⊕ Int32) :=
  (gN h 11 x0 15).bind fun v7 =>
  (aI 0 h v7 x3).bind fun v8 =>
  if v8 = (-1 : Int32) then (
  fX11_countEarlier_75 h x0 x1 x2 x3) else (
    if s0 = 0 then (
    fX11_countEarlier_75 h x0 x1 x2 x3) else (
      fX11_countEarlier_75 h x0 x1 (x2 + Int32.ofInt 1) x3))
theorem oX11_countEarlier_55 {d : Nat} (hd : 0 ≤ d) {h : Hp} {x0 : Nat} {x1 : Int32} {x2 : Int32} {x3 : Int32} {s0 : Int32} {rf : Option Value} {hf : Hp} {x : ((Int32 × Int32) ⊕ Int32)} (hs : fX11_countEarlier_55 h x0 x1 x2 x3 s0 = some x) (hk : (Kx (pX11_countEarlier_4 d h x0 x1 rf hf) (kX11_countEarlier h rf hf)) x) : Go d mX11_countEarlier 55 [some (.ref x0), some (.int x1), some (.int x2), some (.int x3), none] [.int s0] h rf hf := by
  unfold fX11_countEarlier_55 at hs
  refine go_istore (L' := [some (.ref x0), some (.int x1), some (.int x2), some (.int x3), some (.int s0)]) (by decide) rfl dX11_countEarlier_55 ?_
  refine go_aload_n (k4 := 0) rfl (Or.inr ⟨_, rfl⟩) dX11_countEarlier_57 ?_
  obtain ⟨v7, ev7, hs⟩ := bindS hs
  refine go_gN fl_RX11_101 ev7 dX11_countEarlier_58 ?_
  refine go_iload_n (k4 := 3) rfl dX11_countEarlier_61 ?_
  obtain ⟨v8, ev8, hs⟩ := bindS hs
  refine go_aIi ev8 dX11_countEarlier_62 ?_
  refine go_iconst (v := -1) (by decide) dX11_countEarlier_63 ?_
  refine go_icmp_eq (tgt := 75) (by decide) dX11_countEarlier_64 (fun c => ?_) (fun c => ?_)
  · have hs := if_t c hs
    exact go_subL (L' := [some (.ref x0), some (.int x1), some (.int x2), some (.int x3), none]) (by simp [subL, va_rf]) (oX11_countEarlier_75 hd hs hk)
  · have hs := if_f c hs
    refine go_iload rfl dX11_countEarlier_67 ?_
    refine go_if_eq (tgt := 75) (by decide) dX11_countEarlier_69 (fun c => ?_) (fun c => ?_)
    · have hs := if_t c hs
      exact go_subL (L' := [some (.ref x0), some (.int x1), some (.int x2), some (.int x3), none]) (by simp [subL, va_rf]) (oX11_countEarlier_75 hd hs hk)
    · have hs := if_f c hs
      refine go_iinc (L' := [some (.ref x0), some (.int x1), some (.int (x2 + Int32.ofInt 1)), some (.int x3), some (.int s0)]) rfl (by decide) rfl rfl dX11_countEarlier_72 ?_
      exact go_subL (L' := [some (.ref x0), some (.int x1), some (.int (x2 + Int32.ofInt 1)), some (.int x3), none]) (by simp [subL, va_rf]) (oX11_countEarlier_75 hd hs hk)
noncomputable def fX11_countEarlier_50 (h : Hp) (x0 : Nat) (x1 : Int32) (x2 : Int32) (x3 : Int32) : Option ((Int32 × Int32) ⊕ Int32) :=
  fX11_countEarlier_55 h x0 x1 x2 x3 (1 : Int32)
theorem oX11_countEarlier_50 {d : Nat} (hd : 0 ≤ d) {h : Hp} {x0 : Nat} {x1 : Int32} {x2 : Int32} {x3 : Int32} {rf : Option Value} {hf : Hp} {x : ((Int32 × Int32) ⊕ Int32)} (hs : fX11_countEarlier_50 h x0 x1 x2 x3 = some x) (hk : (Kx (pX11_countEarlier_4 d h x0 x1 rf hf) (kX11_countEarlier h rf hf)) x) : Go d mX11_countEarlier 50 [some (.ref x0), some (.int x1), some (.int x2), some (.int x3), none] [] h rf hf := by
  unfold fX11_countEarlier_50 at hs
  refine go_iconst (v := 1) (by decide) dX11_countEarlier_50 ?_
  refine go_goto (tgt := 55) (by decide) dX11_countEarlier_51 ?_
  exact go_subL (L' := [some (.ref x0), some (.int x1), some (.int x2), some (.int x3), none]) (by simp [subL, va_rf]) (oX11_countEarlier_55 hd hs hk)
noncomputable def fX11_countEarlier_54 (h : Hp) (x0 : Nat) (x1 : Int32) (x2 : Int32) (x3 : Int32) : Option ((Int32 × Int32) ⊕ Int32) :=
  fX11_countEarlier_55 h x0 x1 x2 x3 (0 : Int32)
theorem oX11_countEarlier_54 {d : Nat} (hd : 0 ≤ d) {h : Hp} {x0 : Nat} {x1 : Int32} {x2 : Int32} {x3 : Int32} {rf : Option Value} {hf : Hp} {x : ((Int32 × Int32) ⊕ Int32)} (hs : fX11_countEarlier_54 h x0 x1 x2 x3 = some x) (hk : (Kx (pX11_countEarlier_4 d h x0 x1 rf hf) (kX11_countEarlier h rf hf)) x) : Go d mX11_countEarlier 54 [some (.ref x0), some (.int x1), some (.int x2), some (.int x3), none] [] h rf hf := by
  unfold fX11_countEarlier_54 at hs
  refine go_iconst (v := 0) (by decide) dX11_countEarlier_54 ?_
  exact go_subL (L' := [some (.ref x0), some (.int x1), some (.int x2), some (.int x3), none]) (by simp [subL, va_rf]) (oX11_countEarlier_55 hd hs hk)
noncomputable def fX11_countEarlier_4b (h : Hp) (x0 : Nat) (x1 : Int32) (x2 : Int32) (x3 : Int32) : Option ((Int32 × Int32) ⊕ Int32) :=
  (gN h 11 x0 3).bind fun v1 =>
  (gI h 0 v1 0).bind fun v2 =>
  if v2 ≤ x3 then (
    some (.inr x2)) else (
    (gN h 11 x0 15).bind fun v3 =>
    (aI 0 h v3 x3).bind fun v4 =>
    (gN h 11 x0 15).bind fun v5 =>
    (aI 0 h v5 x1).bind fun v6 =>
    if v4 < v6 then (
    fX11_countEarlier_50 h x0 x1 x2 x3) else (
      (gN h 11 x0 15).bind fun v9 =>
      (aI 0 h v9 x3).bind fun v10 =>
      (gN h 11 x0 15).bind fun v11 =>
      (aI 0 h v11 x1).bind fun v12 =>
      if v10 = v12 then (
        if x1 ≤ x3 then (
        fX11_countEarlier_54 h x0 x1 x2 x3) else (
        fX11_countEarlier_50 h x0 x1 x2 x3)) else (
      fX11_countEarlier_54 h x0 x1 x2 x3)))
noncomputable def fX11_countEarlier_4 (h : Hp) (x0 : Nat) (x1 : Int32) (x2 : Int32) (x3 : Int32) : Option Int32 := lpw (σ := (Int32 × Int32)) (fun s => fX11_countEarlier_4b h x0 x1 s.1 s.2) (x2, x3)
theorem oX11_countEarlier_4b {d : Nat} (hd : 0 ≤ d) {h : Hp} {x0 : Nat} {x1 : Int32} {x2 : Int32} {x3 : Int32} {rf : Option Value} {hf : Hp} {x : ((Int32 × Int32) ⊕ Int32)} (hs : fX11_countEarlier_4b h x0 x1 x2 x3 = some x) (hk : (Kx (pX11_countEarlier_4 d h x0 x1 rf hf) (kX11_countEarlier h rf hf)) x) : Go d mX11_countEarlier 4 [some (.ref x0), some (.int x1), some (.int x2), some (.int x3), none] [] h rf hf := by
  unfold fX11_countEarlier_4b at hs
  refine go_iload_n (k4 := 3) rfl dX11_countEarlier_4 ?_
  refine go_aload_n (k4 := 0) rfl (Or.inr ⟨_, rfl⟩) dX11_countEarlier_5 ?_
  obtain ⟨v1, ev1, hs⟩ := bindS hs
  refine go_gN fl_RX11_29 ev1 dX11_countEarlier_6 ?_
  obtain ⟨v2, ev2, hs⟩ := bindS hs
  refine go_gI fl_RX11_181 ev2 dX11_countEarlier_9 ?_
  refine go_icmp_ge (tgt := 81) (by decide) dX11_countEarlier_12 (fun c => ?_) (fun c => ?_)
  · have hs := if_t c hs
    refine go_iload_n (k4 := 2) rfl dX11_countEarlier_81 ?_
    obtain rfl := Option.some.inj hs
    obtain ⟨rfl, rfl⟩ := hk
    exact go_iret rfl dX11_countEarlier_82
  · have hs := if_f c hs
    refine go_aload_n (k4 := 0) rfl (Or.inr ⟨_, rfl⟩) dX11_countEarlier_15 ?_
    obtain ⟨v3, ev3, hs⟩ := bindS hs
    refine go_gN fl_RX11_101 ev3 dX11_countEarlier_16 ?_
    refine go_iload_n (k4 := 3) rfl dX11_countEarlier_19 ?_
    obtain ⟨v4, ev4, hs⟩ := bindS hs
    refine go_aIi ev4 dX11_countEarlier_20 ?_
    refine go_aload_n (k4 := 0) rfl (Or.inr ⟨_, rfl⟩) dX11_countEarlier_21 ?_
    obtain ⟨v5, ev5, hs⟩ := bindS hs
    refine go_gN fl_RX11_101 ev5 dX11_countEarlier_22 ?_
    refine go_iload_n (k4 := 1) rfl dX11_countEarlier_25 ?_
    refine go_at 26 rfl ?_
    obtain ⟨v6, ev6, hs⟩ := bindS hs
    refine go_aIi ev6 dX11_countEarlier_26 ?_
    refine go_icmp_lt (tgt := 50) (by decide) dX11_countEarlier_27 (fun c => ?_) (fun c => ?_)
    · have hs := if_t c hs
      exact go_subL (L' := [some (.ref x0), some (.int x1), some (.int x2), some (.int x3), none]) (by simp [subL, va_rf]) (oX11_countEarlier_50 hd hs hk)
    · have hs := if_f c hs
      refine go_aload_n (k4 := 0) rfl (Or.inr ⟨_, rfl⟩) dX11_countEarlier_30 ?_
      obtain ⟨v9, ev9, hs⟩ := bindS hs
      refine go_gN fl_RX11_101 ev9 dX11_countEarlier_31 ?_
      refine go_iload_n (k4 := 3) rfl dX11_countEarlier_34 ?_
      obtain ⟨v10, ev10, hs⟩ := bindS hs
      refine go_aIi ev10 dX11_countEarlier_35 ?_
      refine go_aload_n (k4 := 0) rfl (Or.inr ⟨_, rfl⟩) dX11_countEarlier_36 ?_
      obtain ⟨v11, ev11, hs⟩ := bindS hs
      refine go_gN fl_RX11_101 ev11 dX11_countEarlier_37 ?_
      refine go_iload_n (k4 := 1) rfl dX11_countEarlier_40 ?_
      refine go_at 41 rfl ?_
      obtain ⟨v12, ev12, hs⟩ := bindS hs
      refine go_aIi ev12 dX11_countEarlier_41 ?_
      refine go_icmp_ne (tgt := 54) (by decide) dX11_countEarlier_42 (fun c => ?_) (fun c => ?_)
      · have hs := if_f c hs
        exact go_subL (L' := [some (.ref x0), some (.int x1), some (.int x2), some (.int x3), none]) (by simp [subL, va_rf]) (oX11_countEarlier_54 hd hs hk)
      · have hs := if_t c hs
        refine go_iload_n (k4 := 3) rfl dX11_countEarlier_45 ?_
        refine go_iload_n (k4 := 1) rfl dX11_countEarlier_46 ?_
        refine go_icmp_ge (tgt := 54) (by decide) dX11_countEarlier_47 (fun c => ?_) (fun c => ?_)
        · have hs := if_t c hs
          exact go_subL (L' := [some (.ref x0), some (.int x1), some (.int x2), some (.int x3), none]) (by simp [subL, va_rf]) (oX11_countEarlier_54 hd hs hk)
        · have hs := if_f c hs
          exact go_subL (L' := [some (.ref x0), some (.int x1), some (.int x2), some (.int x3), none]) (by simp [subL, va_rf]) (oX11_countEarlier_50 hd hs hk)
theorem oX11_countEarlier_4 {d : Nat} (hd : 0 ≤ d) {h : Hp} {x0 : Nat} {x1 : Int32} {x2 : Int32} {x3 : Int32} {rf : Option Value} {hf : Hp} {x : Int32} (hs : fX11_countEarlier_4 h x0 x1 x2 x3 = some x) (hk : (kX11_countEarlier h rf hf) x) : Go d mX11_countEarlier 4 [some (.ref x0), some (.int x1), some (.int x2), some (.int x3), none] [] h rf hf := by
  unfold fX11_countEarlier_4 at hs
  exact lpw_go (P := pX11_countEarlier_4 d h x0 x1 rf hf) (fun s x hs hk => oX11_countEarlier_4b hd hs hk) (x2, x3) x hs hk
noncomputable def fX11_countEarlier (h : Hp) (x0 : Nat) (x1 : Int32) : Option Int32 :=
  fX11_countEarlier_4 h x0 x1 (0 : Int32) (0 : Int32)
theorem oX11_countEarlier_0 {d : Nat} (hd : 0 ≤ d) {h : Hp} {x0 : Nat} {x1 : Int32} {rf : Option Value} {hf : Hp} {x : Int32} (hs : fX11_countEarlier h x0 x1 = some x) (hk : (kX11_countEarlier h rf hf) x) : Go d mX11_countEarlier 0 [some (.ref x0), some (.int x1), none, none, none] [] h rf hf := by
  unfold fX11_countEarlier at hs
  refine go_iconst (v := 0) (by decide) dX11_countEarlier_0 ?_
  refine go_istore_n (k4 := 2) (L' := [some (.ref x0), some (.int x1), some (.int (0 : Int32)), none, none]) (by decide) rfl dX11_countEarlier_1 ?_
  refine go_iconst (v := 0) (by decide) dX11_countEarlier_2 ?_
  refine go_istore_n (k4 := 3) (L' := [some (.ref x0), some (.int x1), some (.int (0 : Int32)), some (.int (0 : Int32)), none]) (by decide) rfl dX11_countEarlier_3 ?_
  exact go_subL (L' := [some (.ref x0), some (.int x1), some (.int (0 : Int32)), some (.int (0 : Int32)), none]) (by simp [subL, va_rf]) (oX11_countEarlier_4 hd hs hk)
theorem oX11_countEarlier {d : Nat} (hd : 0 ≤ d) {h : Hp} {x0 : Nat} {x1 : Int32} {y : Int32} (hs : fX11_countEarlier h x0 x1 = some y) : Call d mX11_countEarlier [.ref x0, .int x1] h (some (.int y)) h := call_of (by decide +kernel) (Nat.le_of_ble_eq_true rfl) (show Go d mX11_countEarlier 0 [some (.ref x0), some (.int x1), none, none, none] [] h _ _ from go_subL (by simp [subL]) (oX11_countEarlier_0 hd hs ⟨rfl, rfl⟩))
abbrev kX11_order (rf : Option Value) (hf : Hp) : (Int32 × Hp) → Prop := fun y => rf = some (.int y.1) ∧ hf = y.2
abbrev pX11_order_39 (d : Nat) (h : Hp) (x0 : Nat) (x1 : Int32) (rf : Option Value) (hf : Hp) : Int32 → Prop := fun s => Go d mX11_order 39 [some (.ref x0), some (.int x1), some (.int s)] [] h rf hf
noncomputable def fX11_order_71 (h : Hp) (x0 : Nat) (x1 : Int32) (x2 : Int32) : Option (Int32 ⊕ (Int32 × Hp)) :=
  some (.inl (x2 + Int32.ofInt 1))
theorem oX11_order_71 {d : Nat} (hd : 6 ≤ d) {h : Hp} {x0 : Nat} {x1 : Int32} {x2 : Int32} {rf : Option Value} {hf : Hp} {x : (Int32 ⊕ (Int32 × Hp))} (hs : fX11_order_71 h x0 x1 x2 = some x) (hk : (Kx (pX11_order_39 d h x0 x1 rf hf) (kX11_order rf hf)) x) : Go d mX11_order 71 [some (.ref x0), some (.int x1), some (.int x2)] [] h rf hf := by
  unfold fX11_order_71 at hs
  refine go_iinc (L' := [some (.ref x0), some (.int x1), some (.int (x2 + Int32.ofInt 1))]) rfl (by decide) rfl rfl dX11_order_71 ?_
  refine go_goto (tgt := 39) (by decide) dX11_order_74 ?_
  obtain rfl := Option.some.inj hs
  exact go_subL (L' := [some (.ref x0), some (.int x1), some (.int (x2 + Int32.ofInt 1))]) (by simp [subL, va_rf]) hk
noncomputable def fX11_order_39b (h : Hp) (x0 : Nat) (x1 : Int32) (x2 : Int32) : Option (Int32 ⊕ (Int32 × Hp)) :=
  (gN h 11 x0 3).bind fun v11 =>
  (gI h 0 v11 0).bind fun v12 =>
  if v12 ≤ x2 then (
    some (.inr ((-1 : Int32), h))) else (
    (gN h 11 x0 15).bind fun v13 =>
    (aI 0 h v13 x2).bind fun v14 =>
    if v14 = (-1 : Int32) then (
    fX11_order_71 h x0 x1 x2) else (
      gO h 11 x0 (
      (fX11_countEarlier h x0 x2).bind fun y15 =>
      if y15 = x1 then (
        some (.inr (x2, h))) else (
      fX11_order_71 h x0 x1 x2))))
noncomputable def fX11_order_39 (h : Hp) (x0 : Nat) (x1 : Int32) (x2 : Int32) : Option (Int32 × Hp) := lpw (σ := Int32) (fun s => fX11_order_39b h x0 x1 s) x2
theorem oX11_order_39b {d : Nat} (hd : 6 ≤ d) {h : Hp} {x0 : Nat} {x1 : Int32} {x2 : Int32} {rf : Option Value} {hf : Hp} {x : (Int32 ⊕ (Int32 × Hp))} (hs : fX11_order_39b h x0 x1 x2 = some x) (hk : (Kx (pX11_order_39 d h x0 x1 rf hf) (kX11_order rf hf)) x) : Go d mX11_order 39 [some (.ref x0), some (.int x1), some (.int x2)] [] h rf hf := by
  unfold fX11_order_39b at hs
  refine go_iload_n (k4 := 2) rfl dX11_order_39 ?_
  refine go_aload_n (k4 := 0) rfl (Or.inr ⟨_, rfl⟩) dX11_order_40 ?_
  obtain ⟨v11, ev11, hs⟩ := bindS hs
  refine go_gN fl_RX11_29 ev11 dX11_order_41 ?_
  obtain ⟨v12, ev12, hs⟩ := bindS hs
  refine go_gI fl_RX11_181 ev12 dX11_order_44 ?_
  refine go_icmp_ge (tgt := 77) (by decide) dX11_order_47 (fun c => ?_) (fun c => ?_)
  · have hs := if_t c hs
    refine go_iconst (v := -1) (by decide) dX11_order_77 ?_
    obtain rfl := Option.some.inj hs
    obtain ⟨rfl, rfl⟩ := hk
    exact go_iret rfl dX11_order_78
  · have hs := if_f c hs
    refine go_aload_n (k4 := 0) rfl (Or.inr ⟨_, rfl⟩) dX11_order_50 ?_
    obtain ⟨v13, ev13, hs⟩ := bindS hs
    refine go_gN fl_RX11_101 ev13 dX11_order_51 ?_
    refine go_iload_n (k4 := 2) rfl dX11_order_54 ?_
    obtain ⟨v14, ev14, hs⟩ := bindS hs
    refine go_aIi ev14 dX11_order_55 ?_
    refine go_iconst (v := -1) (by decide) dX11_order_56 ?_
    refine go_icmp_eq (tgt := 71) (by decide) dX11_order_57 (fun c => ?_) (fun c => ?_)
    · have hs := if_t c hs
      exact go_subL (L' := [some (.ref x0), some (.int x1), some (.int x2)]) (by simp [subL, va_rf]) (oX11_order_71 hd hs hk)
    · have hs := if_f c hs
      refine go_aload_n (k4 := 0) rfl (Or.inr ⟨_, rfl⟩) dX11_order_60 ?_
      refine go_iload_n (k4 := 2) rfl dX11_order_61 ?_
      obtain ⟨g16, hs⟩ := gO_at hs
      obtain ⟨y15, ey15, hs⟩ := bindS hs
      refine go_V1 (As := [.int x2]) (st := []) g16 rfl rfl (oX11_countEarlier (d := d - 1) (by omega) ey15) (by omega) mb_X11_countEarlier lm_RX11_278 mi_X11_countEarlier (Nat.le_of_ble_eq_true rfl) rfl dX11_order_62 ?_
      refine go_iload_n (k4 := 1) rfl dX11_order_65 ?_
      refine go_icmp_ne (tgt := 71) (by decide) dX11_order_66 (fun c => ?_) (fun c => ?_)
      · have hs := if_f c hs
        exact go_subL (L' := [some (.ref x0), some (.int x1), some (.int x2)]) (by simp [subL, va_rf]) (oX11_order_71 hd hs hk)
      · have hs := if_t c hs
        refine go_iload_n (k4 := 2) rfl dX11_order_69 ?_
        obtain rfl := Option.some.inj hs
        obtain ⟨rfl, rfl⟩ := hk
        exact go_iret rfl dX11_order_70
theorem oX11_order_39 {d : Nat} (hd : 6 ≤ d) {h : Hp} {x0 : Nat} {x1 : Int32} {x2 : Int32} {rf : Option Value} {hf : Hp} {x : (Int32 × Hp)} (hs : fX11_order_39 h x0 x1 x2 = some x) (hk : (kX11_order rf hf) x) : Go d mX11_order 39 [some (.ref x0), some (.int x1), some (.int x2)] [] h rf hf := by
  unfold fX11_order_39 at hs
  exact lpw_go (P := pX11_order_39 d h x0 x1 rf hf) (fun s x hs hk => oX11_order_39b hd hs hk) x2 x hs hk
noncomputable def fX11_order (h : Hp) (x0 : Nat) (x1 : Int32) : Option (Int32 × Hp) :=
  if 0 ≤ x1 then (
    gO h 11 x0 (
    (fX11_tuned h x0).bind fun y1 =>
    (gN y1.2 11 x0 12).bind fun v3 =>
    (gN y1.2 11 x0 4).bind fun v4 =>
    (gI y1.2 8 v4 0).bind fun v5 =>
    (gN y1.2 11 x0 4).bind fun v6 =>
    (gI y1.2 8 v6 2).bind fun v7 =>
    (gN y1.2 11 x0 15).bind fun v8 =>
    gO y1.2 10 v3 (
    (fX10_tellMeetings y1.2 v3 v5 v7 v8).bind fun y9 =>
    fX11_order_39 y9 x0 x1 (0 : Int32)))) else (
    some (((-3 : Int32), h)))
theorem oX11_order_0 {d : Nat} (hd : 6 ≤ d) {h : Hp} {x0 : Nat} {x1 : Int32} {rf : Option Value} {hf : Hp} {x : (Int32 × Hp)} (hs : fX11_order h x0 x1 = some x) (hk : (kX11_order rf hf) x) : Go d mX11_order 0 [some (.ref x0), some (.int x1), none] [] h rf hf := by
  unfold fX11_order at hs
  refine go_iload_n (k4 := 1) rfl dX11_order_0 ?_
  refine go_if_ge (tgt := 7) (by decide) dX11_order_1 (fun c => ?_) (fun c => ?_)
  · have hs := if_t c hs
    refine go_aload_n (k4 := 0) rfl (Or.inr ⟨_, rfl⟩) dX11_order_7 ?_
    obtain ⟨g2, hs⟩ := gO_at hs
    obtain ⟨y1, ey1, hs⟩ := bindS hs
    refine go_V1 (As := []) (st := []) g2 rfl rfl (oX11_tuned (d := d - 1) (by omega) ey1) (by omega) mb_X11_tuned lm_RX11_166 mi_X11_tuned (Nat.le_of_ble_eq_true rfl) rfl dX11_order_8 ?_
    refine go_pop rfl dX11_order_11 ?_
    refine go_aload_n (k4 := 0) rfl (Or.inr ⟨_, rfl⟩) dX11_order_12 ?_
    obtain ⟨v3, ev3, hs⟩ := bindS hs
    refine go_gN fl_RX11_81 ev3 dX11_order_13 ?_
    refine go_aload_n (k4 := 0) rfl (Or.inr ⟨_, rfl⟩) dX11_order_16 ?_
    obtain ⟨v4, ev4, hs⟩ := bindS hs
    refine go_gN fl_RX11_36 ev4 dX11_order_17 ?_
    refine go_at 20 rfl ?_
    obtain ⟨v5, ev5, hs⟩ := bindS hs
    refine go_gI fl_RX11_142 ev5 dX11_order_20 ?_
    refine go_aload_n (k4 := 0) rfl (Or.inr ⟨_, rfl⟩) dX11_order_23 ?_
    obtain ⟨v6, ev6, hs⟩ := bindS hs
    refine go_gN fl_RX11_36 ev6 dX11_order_24 ?_
    obtain ⟨v7, ev7, hs⟩ := bindS hs
    refine go_gI fl_RX11_152 ev7 dX11_order_27 ?_
    refine go_aload_n (k4 := 0) rfl (Or.inr ⟨_, rfl⟩) dX11_order_30 ?_
    obtain ⟨v8, ev8, hs⟩ := bindS hs
    refine go_gN fl_RX11_101 ev8 dX11_order_31 ?_
    obtain ⟨g10, hs⟩ := gO_at hs
    obtain ⟨y9, ey9, hs⟩ := bindS hs
    refine go_V0 (As := [.int v5, .int v7, .ref v8]) (st := []) g10 rfl rfl (oX10_tellMeetings (d := d - 1) (by omega) ey9) (by omega) mb_X10_tellMeetings lm_RX11_274 mi_X10_tellMeetings (Nat.le_of_ble_eq_true rfl) rfl dX11_order_34 ?_
    refine go_iconst (v := 0) (by decide) dX11_order_37 ?_
    refine go_at 38 rfl ?_
    refine go_istore_n (k4 := 2) (L' := [some (.ref x0), some (.int x1), some (.int (0 : Int32))]) (by decide) rfl dX11_order_38 ?_
    exact go_subL (L' := [some (.ref x0), some (.int x1), some (.int (0 : Int32))]) (by simp [subL, va_rf]) (oX11_order_39 hd hs hk)
  · have hs := if_f c hs
    refine go_bipush (v := -3) (by decide) dX11_order_4 ?_
    obtain rfl := Option.some.inj hs
    obtain ⟨rfl, rfl⟩ := hk
    exact go_iret rfl dX11_order_6
theorem oX11_order {d : Nat} (hd : 6 ≤ d) {h : Hp} {x0 : Nat} {x1 : Int32} {y : (Int32 × Hp)} (hs : fX11_order h x0 x1 = some y) : Call d mX11_order [.ref x0, .int x1] h (some (.int y.1)) (y.2) := call_of (by decide +kernel) (Nat.le_of_ble_eq_true rfl) (show Go d mX11_order 0 [some (.ref x0), some (.int x1), none] [] h _ _ from go_subL (by simp [subL]) (oX11_order_0 hd hs ⟨rfl, rfl⟩))
