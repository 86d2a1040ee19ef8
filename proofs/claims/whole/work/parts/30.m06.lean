/-! methods: their texts as functions, and that the machine does just that -/
abbrev kX12_judge (rf : Option Value) (hf : Hp) : (Int32 × Hp) → Prop := fun y => rf = some (.int y.1) ∧ hf = y.2
noncomputable def fX12_judge_105 (h : Hp) (s0 : Int32) : Option (Int32 × Hp) :=
  some ((s0, h))
theorem oX12_judge_105 {d : Nat} (hd : 7 ≤ d) {h : Hp} {s0 : Int32} {rf : Option Value} {hf : Hp} {x : (Int32 × Hp)} (hs : fX12_judge_105 h s0 = some x) (hk : (kX12_judge rf hf) x) : Go d mX12_judge 105 [none, none, none, none, none, none] [.int s0] h rf hf := by
  unfold fX12_judge_105 at hs
  obtain rfl := Option.some.inj hs
  obtain ⟨rfl, rfl⟩ := hk
  exact go_iret rfl dX12_judge_105
noncomputable def fX12_judge (h : Hp) (x0 : Nat) (x1 : Int32) (x2 : Int32) : Option (Int32 × Hp) :=
  (sV h 12 x0 0 (.int (0 : Int32))).bind fun h1 =>
  (fX12_within h1 (x2.toInt64) (0 : Int64) (3 : Int64)).bind fun y2 =>
  if y2 = 0 then (
    some (((-2 : Int32), h1))) else (
    gO h1 12 x0 (
    (fX12_noTray h1 x0 x1).bind fun y3 =>
    if y3 = 0 then (
      gO h1 12 x0 (
      (fX12_keeps h1 x0).bind fun y5 =>
      gO y5 12 x0 (
      (fX12_tells y5 x0 x1).bind fun y7 =>
      gO y7.2 12 x0 (
      (fX12_standNow y7.2 x0).bind fun y9 =>
      gO y7.2 12 x0 (
      (fX12_isAgain y7.2 x0).bind fun y11 =>
      if x2 = 0 then (
        (gI y11 12 x0 23).bind fun v18 =>
        if v18 = 0 then (
          fX12_judge_105 y11 (-1 : Int32)) else (
          fX12_judge_105 y11 y7.1)) else (
        if x2 = (1 : Int32) then (
          (gI y11 12 x0 23).bind fun v17 =>
          fX12_judge_105 y11 v17) else (
          if x2 = (2 : Int32) then (
            gO y11 12 x0 (
            (fX12_metIn y11 x0 y9).bind fun y15 =>
            fX12_judge_105 y11 y15)) else (
            gO y11 12 x0 (
            (fX12_gapsIn y11 x0 y9).bind fun y13 =>
            fX12_judge_105 y11 y13))))))))) else (
      some ((y3, h1)))))
theorem oX12_judge_0 {d : Nat} (hd : 7 ≤ d) {h : Hp} {x0 : Nat} {x1 : Int32} {x2 : Int32} {rf : Option Value} {hf : Hp} {x : (Int32 × Hp)} (hs : fX12_judge h x0 x1 x2 = some x) (hk : (kX12_judge rf hf) x) : Go d mX12_judge 0 [some (.ref x0), some (.int x1), some (.int x2), none, none, none] [] h rf hf := by
  unfold fX12_judge at hs
  refine go_aload_n (k4 := 0) rfl (Or.inr ⟨_, rfl⟩) dX12_judge_0 ?_
  refine go_iconst (v := 0) (by decide) dX12_judge_1 ?_
  obtain ⟨h1, eh1, hs⟩ := bindS hs
  refine go_sV fw_RX12_1 eh1 rfl rfl dX12_judge_2 ?_
  refine go_iload_n (k4 := 2) rfl dX12_judge_5 ?_
  refine go_i2l dX12_judge_6 ?_
  refine go_lconst (v := 0) (by decide) dX12_judge_7 ?_
  refine go_ldc2 lc_RX12_333 dX12_judge_8 ?_
  refine go_at 11 rfl ?_
  obtain ⟨y2, ey2, hs⟩ := bindS hs
  refine go_S1 (As := [.long (x2.toInt64), .long (0 : Int64), .long (3 : Int64)]) (st := []) (oX12_within (d := d - 1) (by omega) ey2) (by omega) mb_X12_within lm_RX12_155 ms_X12_within (Nat.le_of_ble_eq_true rfl) rfl dX12_judge_11 ?_
  refine go_if_ne (tgt := 20) (by decide) dX12_judge_14 (fun c => ?_) (fun c => ?_)
  · have hs := if_f c hs
    refine go_aload_n (k4 := 0) rfl (Or.inr ⟨_, rfl⟩) dX12_judge_20 ?_
    refine go_iload_n (k4 := 1) rfl dX12_judge_21 ?_
    obtain ⟨g4, hs⟩ := gO_at hs
    obtain ⟨y3, ey3, hs⟩ := bindS hs
    refine go_V1 (As := [.int x1]) (st := []) g4 rfl rfl (oX12_noTray (d := d - 1) (by omega) ey3) (by omega) mb_X12_noTray lm_RX12_335 mi_X12_noTray (Nat.le_of_ble_eq_true rfl) rfl dX12_judge_22 ?_
    refine go_istore_n (k4 := 3) (L' := [some (.ref x0), some (.int x1), some (.int x2), some (.int y3), none, none]) (by decide) rfl dX12_judge_25 ?_
    refine go_iload_n (k4 := 3) rfl dX12_judge_26 ?_
    refine go_if_eq (tgt := 32) (by decide) dX12_judge_27 (fun c => ?_) (fun c => ?_)
    · have hs := if_t c hs
      refine go_aload_n (k4 := 0) rfl (Or.inr ⟨_, rfl⟩) dX12_judge_32 ?_
      obtain ⟨g6, hs⟩ := gO_at hs
      obtain ⟨y5, ey5, hs⟩ := bindS hs
      refine go_V0 (As := []) (st := []) g6 rfl rfl (oX12_keeps (d := d - 1) (by omega) ey5) (by omega) mb_X12_keeps lm_RX12_297 mi_X12_keeps (Nat.le_of_ble_eq_true rfl) rfl dX12_judge_33 ?_
      refine go_aload_n (k4 := 0) rfl (Or.inr ⟨_, rfl⟩) dX12_judge_36 ?_
      refine go_iload_n (k4 := 1) rfl dX12_judge_37 ?_
      obtain ⟨g8, hs⟩ := gO_at hs
      obtain ⟨y7, ey7, hs⟩ := bindS hs
      refine go_V1 (As := [.int x1]) (st := []) g8 rfl rfl (oX12_tells (d := d - 1) (by omega) ey7) (by omega) mb_X12_tells lm_RX12_338 mi_X12_tells (Nat.le_of_ble_eq_true rfl) rfl dX12_judge_38 ?_
      refine go_istore (L' := [some (.ref x0), some (.int x1), some (.int x2), some (.int y3), some (.int y7.1), none]) (by decide) rfl dX12_judge_41 ?_
      refine go_aload_n (k4 := 0) rfl (Or.inr ⟨_, rfl⟩) dX12_judge_43 ?_
      refine go_at 44 rfl ?_
      obtain ⟨g10, hs⟩ := gO_at hs
      obtain ⟨y9, ey9, hs⟩ := bindS hs
      refine go_V1 (As := []) (st := []) g10 rfl rfl (oX12_standNow (d := d - 1) (by omega) ey9) (by omega) mb_X12_standNow lm_RX12_282 mi_X12_standNow (Nat.le_of_ble_eq_true rfl) rfl dX12_judge_44 ?_
      refine go_istore (L' := [some (.ref x0), some (.int x1), some (.int x2), some (.int y3), some (.int y7.1), some (.int y9)]) (by decide) rfl dX12_judge_47 ?_
      refine go_aload_n (k4 := 0) rfl (Or.inr ⟨_, rfl⟩) dX12_judge_49 ?_
      obtain ⟨g12, hs⟩ := gO_at hs
      obtain ⟨y11, ey11, hs⟩ := bindS hs
      refine go_V0 (As := []) (st := []) g12 rfl rfl (oX12_isAgain (d := d - 1) (by omega) ey11) (by omega) mb_X12_isAgain lm_RX12_341 mi_X12_isAgain (Nat.le_of_ble_eq_true rfl) rfl dX12_judge_50 ?_
      refine go_iload_n (k4 := 2) rfl dX12_judge_53 ?_
      refine go_if_ne (tgt := 73) (by decide) dX12_judge_54 (fun c => ?_) (fun c => ?_)
      · have hs := if_f c hs
        refine go_iload_n (k4 := 2) rfl dX12_judge_73 ?_
        refine go_iconst (v := 1) (by decide) dX12_judge_74 ?_
        refine go_icmp_ne (tgt := 85) (by decide) dX12_judge_75 (fun c => ?_) (fun c => ?_)
        · have hs := if_f c hs
          refine go_iload_n (k4 := 2) rfl dX12_judge_85 ?_
          refine go_iconst (v := 2) (by decide) dX12_judge_86 ?_
          refine go_icmp_ne (tgt := 99) (by decide) dX12_judge_87 (fun c => ?_) (fun c => ?_)
          · have hs := if_f c hs
            refine go_aload_n (k4 := 0) rfl (Or.inr ⟨_, rfl⟩) dX12_judge_99 ?_
            refine go_iload rfl dX12_judge_100 ?_
            obtain ⟨g14, hs⟩ := gO_at hs
            obtain ⟨y13, ey13, hs⟩ := bindS hs
            refine go_V1 (As := [.int y9]) (st := []) g14 rfl rfl (oX12_gapsIn (d := d - 1) (by omega) ey13) (by omega) mb_X12_gapsIn lm_RX12_239 mi_X12_gapsIn (Nat.le_of_ble_eq_true rfl) rfl dX12_judge_102 ?_
            exact go_subL (L' := [none, none, none, none, none, none]) (by simp [subL, va_rf]) (oX12_judge_105 hd hs hk)
          · have hs := if_t c hs
            refine go_aload_n (k4 := 0) rfl (Or.inr ⟨_, rfl⟩) dX12_judge_90 ?_
            refine go_iload rfl dX12_judge_91 ?_
            obtain ⟨g16, hs⟩ := gO_at hs
            obtain ⟨y15, ey15, hs⟩ := bindS hs
            refine go_V1 (As := [.int y9]) (st := []) g16 rfl rfl (oX12_metIn (d := d - 1) (by omega) ey15) (by omega) mb_X12_metIn lm_RX12_233 mi_X12_metIn (Nat.le_of_ble_eq_true rfl) rfl dX12_judge_93 ?_
            refine go_goto (tgt := 105) (by decide) dX12_judge_96 ?_
            exact go_subL (L' := [none, none, none, none, none, none]) (by simp [subL, va_rf]) (oX12_judge_105 hd hs hk)
        · have hs := if_t c hs
          refine go_aload_n (k4 := 0) rfl (Or.inr ⟨_, rfl⟩) dX12_judge_78 ?_
          obtain ⟨v17, ev17, hs⟩ := bindS hs
          refine go_gI fl_RX12_324 ev17 dX12_judge_79 ?_
          refine go_goto (tgt := 105) (by decide) dX12_judge_82 ?_
          exact go_subL (L' := [none, none, none, none, none, none]) (by simp [subL, va_rf]) (oX12_judge_105 hd hs hk)
      · have hs := if_t c hs
        refine go_aload_n (k4 := 0) rfl (Or.inr ⟨_, rfl⟩) dX12_judge_57 ?_
        obtain ⟨v18, ev18, hs⟩ := bindS hs
        refine go_gI fl_RX12_324 ev18 dX12_judge_58 ?_
        refine go_if_ne (tgt := 68) (by decide) dX12_judge_61 (fun c => ?_) (fun c => ?_)
        · have hs := if_f c hs
          refine go_iload rfl dX12_judge_68 ?_
          refine go_goto (tgt := 105) (by decide) dX12_judge_70 ?_
          exact go_subL (L' := [none, none, none, none, none, none]) (by simp [subL, va_rf]) (oX12_judge_105 hd hs hk)
        · have hs := if_t c hs
          refine go_iconst (v := -1) (by decide) dX12_judge_64 ?_
          refine go_goto (tgt := 105) (by decide) dX12_judge_65 ?_
          exact go_subL (L' := [none, none, none, none, none, none]) (by simp [subL, va_rf]) (oX12_judge_105 hd hs hk)
    · have hs := if_f c hs
      refine go_iload_n (k4 := 3) rfl dX12_judge_30 ?_
      obtain rfl := Option.some.inj hs
      obtain ⟨rfl, rfl⟩ := hk
      exact go_iret rfl dX12_judge_31
  · have hs := if_t c hs
    refine go_bipush (v := -2) (by decide) dX12_judge_17 ?_
    obtain rfl := Option.some.inj hs
    obtain ⟨rfl, rfl⟩ := hk
    exact go_iret rfl dX12_judge_19
theorem oX12_judge {d : Nat} (hd : 7 ≤ d) {h : Hp} {x0 : Nat} {x1 : Int32} {x2 : Int32} {y : (Int32 × Hp)} (hs : fX12_judge h x0 x1 x2 = some y) : Call d mX12_judge [.ref x0, .int x1, .int x2] h (some (.int y.1)) (y.2) := call_of (by decide +kernel) (Nat.le_of_ble_eq_true rfl) (show Go d mX12_judge 0 [some (.ref x0), some (.int x1), some (.int x2), none, none, none] [] h _ _ from go_subL (by simp [subL]) (oX12_judge_0 hd hs ⟨rfl, rfl⟩))
abbrev kX12_perform (rf : Option Value) (hf : Hp) : (Int32 × Hp) → Prop := fun y => rf = some (.int y.1) ∧ hf = y.2
noncomputable def fX12_perform_35 (h : Hp) (x3 : Int32) : Option (Int32 × Hp) :=
  some ((x3, h))
theorem oX12_perform_35 {d : Nat} (hd : 7 ≤ d) {h : Hp} {x3 : Int32} {rf : Option Value} {hf : Hp} {x : (Int32 × Hp)} (hs : fX12_perform_35 h x3 = some x) (hk : (kX12_perform rf hf) x) : Go d mX12_perform 35 [none, none, none, some (.int x3)] [] h rf hf := by
  unfold fX12_perform_35 at hs
  refine go_iload_n (k4 := 3) rfl dX12_perform_35 ?_
  obtain rfl := Option.some.inj hs
  obtain ⟨rfl, rfl⟩ := hk
  exact go_iret rfl dX12_perform_36
noncomputable def fX12_perform (h : Hp) (x0 : Nat) (x1 : Int32) : Option (Int32 × Hp) :=
  (sV h 12 x0 0 (.int (0 : Int32))).bind fun h1 =>
  gO h1 12 x0 (
  (fX12_noTray h1 x0 x1).bind fun y2 =>
  if y2 = 0 then (
    gO h1 12 x0 (
    (fX12_keeps h1 x0).bind fun y4 =>
    gO y4 12 x0 (
    (fX12_tells y4 x0 x1).bind fun y6 =>
    if y6.1 ≤ 0 then (
    fX12_perform_35 y6.2 y6.1) else (
      gO y6.2 12 x0 (
      (fX12_notes y6.2 x0).bind fun y8 =>
      fX12_perform_35 y8 y6.1))))) else (
    some ((y2, h1))))
theorem oX12_perform_0 {d : Nat} (hd : 7 ≤ d) {h : Hp} {x0 : Nat} {x1 : Int32} {rf : Option Value} {hf : Hp} {x : (Int32 × Hp)} (hs : fX12_perform h x0 x1 = some x) (hk : (kX12_perform rf hf) x) : Go d mX12_perform 0 [some (.ref x0), some (.int x1), none, none] [] h rf hf := by
  unfold fX12_perform at hs
  refine go_aload_n (k4 := 0) rfl (Or.inr ⟨_, rfl⟩) dX12_perform_0 ?_
  refine go_iconst (v := 0) (by decide) dX12_perform_1 ?_
  obtain ⟨h1, eh1, hs⟩ := bindS hs
  refine go_sV fw_RX12_1 eh1 rfl rfl dX12_perform_2 ?_
  refine go_aload_n (k4 := 0) rfl (Or.inr ⟨_, rfl⟩) dX12_perform_5 ?_
  refine go_iload_n (k4 := 1) rfl dX12_perform_6 ?_
  obtain ⟨g3, hs⟩ := gO_at hs
  obtain ⟨y2, ey2, hs⟩ := bindS hs
  refine go_V1 (As := [.int x1]) (st := []) g3 rfl rfl (oX12_noTray (d := d - 1) (by omega) ey2) (by omega) mb_X12_noTray lm_RX12_335 mi_X12_noTray (Nat.le_of_ble_eq_true rfl) rfl dX12_perform_7 ?_
  refine go_istore_n (k4 := 2) (L' := [some (.ref x0), some (.int x1), some (.int y2), none]) (by decide) rfl dX12_perform_10 ?_
  refine go_at 11 rfl ?_
  refine go_iload_n (k4 := 2) rfl dX12_perform_11 ?_
  refine go_if_eq (tgt := 17) (by decide) dX12_perform_12 (fun c => ?_) (fun c => ?_)
  · have hs := if_t c hs
    refine go_aload_n (k4 := 0) rfl (Or.inr ⟨_, rfl⟩) dX12_perform_17 ?_
    obtain ⟨g5, hs⟩ := gO_at hs
    obtain ⟨y4, ey4, hs⟩ := bindS hs
    refine go_V0 (As := []) (st := []) g5 rfl rfl (oX12_keeps (d := d - 1) (by omega) ey4) (by omega) mb_X12_keeps lm_RX12_297 mi_X12_keeps (Nat.le_of_ble_eq_true rfl) rfl dX12_perform_18 ?_
    refine go_aload_n (k4 := 0) rfl (Or.inr ⟨_, rfl⟩) dX12_perform_21 ?_
    refine go_iload_n (k4 := 1) rfl dX12_perform_22 ?_
    obtain ⟨g7, hs⟩ := gO_at hs
    obtain ⟨y6, ey6, hs⟩ := bindS hs
    refine go_V1 (As := [.int x1]) (st := []) g7 rfl rfl (oX12_tells (d := d - 1) (by omega) ey6) (by omega) mb_X12_tells lm_RX12_338 mi_X12_tells (Nat.le_of_ble_eq_true rfl) rfl dX12_perform_23 ?_
    refine go_istore_n (k4 := 3) (L' := [some (.ref x0), some (.int x1), some (.int y2), some (.int y6.1)]) (by decide) rfl dX12_perform_26 ?_
    refine go_iload_n (k4 := 3) rfl dX12_perform_27 ?_
    refine go_at 28 rfl ?_
    refine go_if_le (tgt := 35) (by decide) dX12_perform_28 (fun c => ?_) (fun c => ?_)
    · have hs := if_t c hs
      exact go_subL (L' := [none, none, none, some (.int y6.1)]) (by simp [subL, va_rf]) (oX12_perform_35 hd hs hk)
    · have hs := if_f c hs
      refine go_aload_n (k4 := 0) rfl (Or.inr ⟨_, rfl⟩) dX12_perform_31 ?_
      obtain ⟨g9, hs⟩ := gO_at hs
      obtain ⟨y8, ey8, hs⟩ := bindS hs
      refine go_V0 (As := []) (st := []) g9 rfl rfl (oX12_notes (d := d - 1) (by omega) ey8) (by omega) mb_X12_notes lm_RX12_303 mi_X12_notes (Nat.le_of_ble_eq_true rfl) rfl dX12_perform_32 ?_
      exact go_subL (L' := [none, none, none, some (.int y6.1)]) (by simp [subL, va_rf]) (oX12_perform_35 hd hs hk)
  · have hs := if_f c hs
    refine go_iload_n (k4 := 2) rfl dX12_perform_15 ?_
    obtain rfl := Option.some.inj hs
    obtain ⟨rfl, rfl⟩ := hk
    exact go_iret rfl dX12_perform_16
theorem oX12_perform {d : Nat} (hd : 7 ≤ d) {h : Hp} {x0 : Nat} {x1 : Int32} {y : (Int32 × Hp)} (hs : fX12_perform h x0 x1 = some y) : Call d mX12_perform [.ref x0, .int x1] h (some (.int y.1)) (y.2) := call_of (by decide +kernel) (Nat.le_of_ble_eq_true rfl) (show Go d mX12_perform 0 [some (.ref x0), some (.int x1), none, none] [] h _ _ from go_subL (by simp [subL]) (oX12_perform_0 hd hs ⟨rfl, rfl⟩))
abbrev kX12_draw (rf : Option Value) (hf : Hp) : (Int32 × Hp) → Prop := fun y => rf = some (.int y.1) ∧ hf = y.2
noncomputable def fX12_draw (h : Hp) (x0 : Nat) (x1 : Int32) : Option (Int32 × Hp) :=
  (gI h 12 x0 24).bind fun v1 =>
  (sV h 12 x0 24 (.int (((1103515245 : Int32) * v1) + (12345 : Int32)))).bind fun h2 =>
  (gI h2 12 x0 24).bind fun v3 =>
  lt ((v3.toUInt32 >>> ((16 : Int32).toUInt32 &&& Int32.toUInt32 31)).toInt32) fun w4 =>
  (rm w4 x1).bind fun v5 =>
  some ((v5, h2))
theorem oX12_draw_0 {d : Nat} (hd : 0 ≤ d) {h : Hp} {x0 : Nat} {x1 : Int32} {rf : Option Value} {hf : Hp} {x : (Int32 × Hp)} (hs : fX12_draw h x0 x1 = some x) (hk : (kX12_draw rf hf) x) : Go d mX12_draw 0 [some (.ref x0), some (.int x1)] [] h rf hf := by
  unfold fX12_draw at hs
  refine go_aload_n (k4 := 0) rfl (Or.inr ⟨_, rfl⟩) dX12_draw_0 ?_
  refine go_ldcw lc_RX12_344 dX12_draw_1 ?_
  refine go_aload_n (k4 := 0) rfl (Or.inr ⟨_, rfl⟩) dX12_draw_4 ?_
  obtain ⟨v1, ev1, hs⟩ := bindS hs
  refine go_gI fl_RX12_345 ev1 dX12_draw_5 ?_
  refine go_imul dX12_draw_8 ?_
  refine go_sipush (v := 12345) (by decide) dX12_draw_9 ?_
  refine go_iadd dX12_draw_12 ?_
  refine go_at 13 rfl ?_
  obtain ⟨h2, eh2, hs⟩ := bindS hs
  refine go_sV fw_RX12_345 eh2 rfl rfl dX12_draw_13 ?_
  refine go_aload_n (k4 := 0) rfl (Or.inr ⟨_, rfl⟩) dX12_draw_16 ?_
  obtain ⟨v3, ev3, hs⟩ := bindS hs
  refine go_gI fl_RX12_345 ev3 dX12_draw_17 ?_
  refine go_bipush (v := 16) (by decide) dX12_draw_20 ?_
  refine go_iushr dX12_draw_22 ?_
  obtain ⟨w4, ew4, hs⟩ := lt_at hs
  rw [← ew4]
  refine go_iload_n (k4 := 1) rfl dX12_draw_23 ?_
  obtain ⟨v5, ev5, hs⟩ := bindS hs
  refine go_rm ev5 dX12_draw_24 ?_
  obtain rfl := Option.some.inj hs
  obtain ⟨rfl, rfl⟩ := hk
  exact go_iret rfl dX12_draw_25
theorem oX12_draw {d : Nat} (hd : 0 ≤ d) {h : Hp} {x0 : Nat} {x1 : Int32} {y : (Int32 × Hp)} (hs : fX12_draw h x0 x1 = some y) : Call d mX12_draw [.ref x0, .int x1] h (some (.int y.1)) (y.2) := call_of (by decide +kernel) (Nat.le_of_ble_eq_true rfl) (show Go d mX12_draw 0 [some (.ref x0), some (.int x1)] [] h _ _ from go_subL (by simp [subL]) (oX12_draw_0 hd hs ⟨rfl, rfl⟩))
abbrev kX12_drawn (rf : Option Value) (hf : Hp) : (Int32 × Hp) → Prop := fun y => rf = some (.int y.1) ∧ hf = y.2
noncomputable def fX12_drawn_75 (h : Hp) (s0 : Int32) : Option (Int32 × Hp) :=
  some ((s0, h))
theorem oX12_drawn_75 {d : Nat} (hd : 1 ≤ d) {h : Hp} {s0 : Int32} {rf : Option Value} {hf : Hp} {x : (Int32 × Hp)} (hs : fX12_drawn_75 h s0 = some x) (hk : (kX12_drawn rf hf) x) : Go d mX12_drawn 75 [none, none, none] [.int s0] h rf hf := by
  unfold fX12_drawn_75 at hs
  obtain rfl := Option.some.inj hs
  obtain ⟨rfl, rfl⟩ := hk
  exact go_iret rfl dX12_drawn_75
noncomputable def fX12_drawn_25 (h : Hp) (s0 : Int32) : Option (Int32 × Hp) :=
  some ((s0, h))
theorem oX12_drawn_25 {d : Nat} (hd : 1 ≤ d) {h : Hp} {s0 : Int32} {rf : Option Value} {hf : Hp} {x : (Int32 × Hp)} (hs : fX12_drawn_25 h s0 = some x) (hk : (kX12_drawn rf hf) x) : Go d mX12_drawn 25 [none, none, none] [.int s0] h rf hf := by
  unfold fX12_drawn_25 at hs
  obtain rfl := Option.some.inj hs
  obtain ⟨rfl, rfl⟩ := hk
  exact go_iret rfl dX12_drawn_25
noncomputable def fX12_drawn (h : Hp) (x0 : Nat) : Option (Int32 × Hp) :=
  gO h 12 x0 (
  (fX12_draw h x0 (6 : Int32)).bind fun y1 =>
  if (3 : Int32) ≤ y1.1 then (
    if y1.1 = (5 : Int32) then (
      gO y1.2 12 x0 (
      (fX12_draw y1.2 x0 (625 : Int32)).bind fun y7 =>
      some ((((1000 : Int32) + y7.1), y7.2)))) else (
      gO y1.2 12 x0 (
      (fX12_draw y1.2 x0 (4 : Int32)).bind fun y3 =>
      if y1.1 = (3 : Int32) then (
        fX12_drawn_75 y3.2 ((10 : Int32) + y3.1)) else (
        gO y3.2 12 x0 (
        (fX12_draw y3.2 x0 (10 : Int32)).bind fun y5 =>
        fX12_drawn_75 y5.2 (((100 : Int32) + ((10 : Int32) * y3.1)) + y5.1)))))) else (
    gO y1.2 12 x0 (
    (fX12_draw y1.2 x0 (3 : Int32)).bind fun y9 =>
    if y9.1 = 0 then (
      fX12_drawn_25 y9.2 (1 : Int32)) else (
      fX12_drawn_25 y9.2 (0 : Int32)))))
theorem oX12_drawn_0 {d : Nat} (hd : 1 ≤ d) {h : Hp} {x0 : Nat} {rf : Option Value} {hf : Hp} {x : (Int32 × Hp)} (hs : fX12_drawn h x0 = some x) (hk : (kX12_drawn rf hf) x) : Go d mX12_drawn 0 [some (.ref x0), none, none] [] h rf hf := by
  unfold fX12_drawn at hs
  refine go_aload_n (k4 := 0) rfl (Or.inr ⟨_, rfl⟩) dX12_drawn_0 ?_
  refine go_bipush (v := 6) (by decide) dX12_drawn_1 ?_
  obtain ⟨g2, hs⟩ := gO_at hs
  obtain ⟨y1, ey1, hs⟩ := bindS hs
  refine go_V1 (As := [.int (6 : Int32)]) (st := []) g2 rfl rfl (oX12_draw (d := d - 1) (by omega) ey1) (by omega) mb_X12_draw lm_RX12_348 mi_X12_draw (Nat.le_of_ble_eq_true rfl) rfl dX12_drawn_3 ?_
  refine go_istore_n (k4 := 1) (L' := [some (.ref x0), some (.int y1.1), none]) (by decide) rfl dX12_drawn_6 ?_
  refine go_iload_n (k4 := 1) rfl dX12_drawn_7 ?_
  refine go_iconst (v := 3) (by decide) dX12_drawn_8 ?_
  refine go_icmp_ge (tgt := 26) (by decide) dX12_drawn_9 (fun c => ?_) (fun c => ?_)
  · have hs := if_t c hs
    refine go_iload_n (k4 := 1) rfl dX12_drawn_26 ?_
    refine go_iconst (v := 5) (by decide) dX12_drawn_27 ?_
    refine go_icmp_ne (tgt := 43) (by decide) dX12_drawn_28 (fun c => ?_) (fun c => ?_)
    · have hs := if_f c hs
      refine go_aload_n (k4 := 0) rfl (Or.inr ⟨_, rfl⟩) dX12_drawn_43 ?_
      refine go_iconst (v := 4) (by decide) dX12_drawn_44 ?_
      obtain ⟨g4, hs⟩ := gO_at hs
      obtain ⟨y3, ey3, hs⟩ := bindS hs
      refine go_V1 (As := [.int (4 : Int32)]) (st := []) g4 rfl rfl (oX12_draw (d := d - 1) (by omega) ey3) (by omega) mb_X12_draw lm_RX12_348 mi_X12_draw (Nat.le_of_ble_eq_true rfl) rfl dX12_drawn_45 ?_
      refine go_istore_n (k4 := 2) (L' := [some (.ref x0), some (.int y1.1), some (.int y3.1)]) (by decide) rfl dX12_drawn_48 ?_
      refine go_iload_n (k4 := 1) rfl dX12_drawn_49 ?_
      refine go_iconst (v := 3) (by decide) dX12_drawn_50 ?_
      refine go_icmp_ne (tgt := 61) (by decide) dX12_drawn_51 (fun c => ?_) (fun c => ?_)
      · have hs := if_f c hs
        refine go_bipush (v := 100) (by decide) dX12_drawn_61 ?_
        refine go_bipush (v := 10) (by decide) dX12_drawn_63 ?_
        refine go_iload_n (k4 := 2) rfl dX12_drawn_65 ?_
        refine go_imul dX12_drawn_66 ?_
        refine go_iadd dX12_drawn_67 ?_
        refine go_aload_n (k4 := 0) rfl (Or.inr ⟨_, rfl⟩) dX12_drawn_68 ?_
        refine go_bipush (v := 10) (by decide) dX12_drawn_69 ?_
        refine go_at 71 rfl ?_
        obtain ⟨g6, hs⟩ := gO_at hs
        obtain ⟨y5, ey5, hs⟩ := bindS hs
        refine go_V1 (As := [.int (10 : Int32)]) (st := [.int ((100 : Int32) + ((10 : Int32) * y3.1))]) g6 rfl rfl (oX12_draw (d := d - 1) (by omega) ey5) (by omega) mb_X12_draw lm_RX12_348 mi_X12_draw (Nat.le_of_ble_eq_true rfl) rfl dX12_drawn_71 ?_
        refine go_iadd dX12_drawn_74 ?_
        exact go_subL (L' := [none, none, none]) (by simp [subL, va_rf]) (oX12_drawn_75 hd hs hk)
      · have hs := if_t c hs
        refine go_bipush (v := 10) (by decide) dX12_drawn_54 ?_
        refine go_iload_n (k4 := 2) rfl dX12_drawn_56 ?_
        refine go_iadd dX12_drawn_57 ?_
        refine go_goto (tgt := 75) (by decide) dX12_drawn_58 ?_
        exact go_subL (L' := [none, none, none]) (by simp [subL, va_rf]) (oX12_drawn_75 hd hs hk)
    · have hs := if_t c hs
      refine go_sipush (v := 1000) (by decide) dX12_drawn_31 ?_
      refine go_aload_n (k4 := 0) rfl (Or.inr ⟨_, rfl⟩) dX12_drawn_34 ?_
      refine go_sipush (v := 625) (by decide) dX12_drawn_35 ?_
      obtain ⟨g8, hs⟩ := gO_at hs
      obtain ⟨y7, ey7, hs⟩ := bindS hs
      refine go_V1 (As := [.int (625 : Int32)]) (st := [.int (1000 : Int32)]) g8 rfl rfl (oX12_draw (d := d - 1) (by omega) ey7) (by omega) mb_X12_draw lm_RX12_348 mi_X12_draw (Nat.le_of_ble_eq_true rfl) rfl dX12_drawn_38 ?_
      refine go_iadd dX12_drawn_41 ?_
      obtain rfl := Option.some.inj hs
      obtain ⟨rfl, rfl⟩ := hk
      exact go_iret rfl dX12_drawn_42
  · have hs := if_f c hs
    refine go_aload_n (k4 := 0) rfl (Or.inr ⟨_, rfl⟩) dX12_drawn_12 ?_
    refine go_iconst (v := 3) (by decide) dX12_drawn_13 ?_
    obtain ⟨g10, hs⟩ := gO_at hs
    obtain ⟨y9, ey9, hs⟩ := bindS hs
    refine go_V1 (As := [.int (3 : Int32)]) (st := []) g10 rfl rfl (oX12_draw (d := d - 1) (by omega) ey9) (by omega) mb_X12_draw lm_RX12_348 mi_X12_draw (Nat.le_of_ble_eq_true rfl) rfl dX12_drawn_14 ?_
    refine go_if_ne (tgt := 24) (by decide) dX12_drawn_17 (fun c => ?_) (fun c => ?_)
    · have hs := if_f c hs
      refine go_iconst (v := 0) (by decide) dX12_drawn_24 ?_
      exact go_subL (L' := [none, none, none]) (by simp [subL, va_rf]) (oX12_drawn_25 hd hs hk)
    · have hs := if_t c hs
      refine go_iconst (v := 1) (by decide) dX12_drawn_20 ?_
      refine go_goto (tgt := 25) (by decide) dX12_drawn_21 ?_
      exact go_subL (L' := [none, none, none]) (by simp [subL, va_rf]) (oX12_drawn_25 hd hs hk)
theorem oX12_drawn {d : Nat} (hd : 1 ≤ d) {h : Hp} {x0 : Nat} {y : (Int32 × Hp)} (hs : fX12_drawn h x0 = some y) : Call d mX12_drawn [.ref x0] h (some (.int y.1)) (y.2) := call_of (by decide +kernel) (Nat.le_of_ble_eq_true rfl) (show Go d mX12_drawn 0 [some (.ref x0), none, none] [] h _ _ from go_subL (by simp [subL]) (oX12_drawn_0 hd hs ⟨rfl, rfl⟩))
abbrev kX12_age (rf : Option Value) (hf : Hp) : (Int32 × Hp) → Prop := fun y => rf = some (.int y.1) ∧ hf = y.2
abbrev pX12_age_34 (d : Nat) (x0 : Nat) (x2 : Int32) (rf : Option Value) (hf : Hp) : (Int32 × Int32 × Hp) → Prop := fun s => Go d mX12_age 34 [some (.ref x0), none, some (.int x2), some (.int s.1), some (.int s.2.1), none] [] s.2.2 rf hf
noncomputable def fX12_age_82 (h : Hp) (x3 : Int32) : Option (Int32 × Hp) :=
  some ((x3, h))
theorem oX12_age_82 {d : Nat} (hd : 6 ≤ d) {h : Hp} {x3 : Int32} {rf : Option Value} {hf : Hp} {x : (Int32 × Hp)} (hs : fX12_age_82 h x3 = some x) (hk : (kX12_age rf hf) x) : Go d mX12_age 82 [none, none, none, some (.int x3), none, none] [] h rf hf := by
  unfold fX12_age_82 at hs
  refine go_iload_n (k4 := 3) rfl dX12_age_82 ?_
  obtain rfl := Option.some.inj hs
  obtain ⟨rfl, rfl⟩ := hk
  exact go_iret rfl dX12_age_83
noncomputable def fX12_age_74 (h : Hp) (x0 : Nat) (x3 : Int32) : Option (Int32 × Hp) :=
  if x3 ≤ 0 then (
  fX12_age_82 h x3) else (
    gO h 12 x0 (
    (fX12_notes h x0).bind fun y6 =>
    fX12_age_82 y6 x3))
theorem oX12_age_74 {d : Nat} (hd : 6 ≤ d) {h : Hp} {x0 : Nat} {x3 : Int32} {rf : Option Value} {hf : Hp} {x : (Int32 × Hp)} (hs : fX12_age_74 h x0 x3 = some x) (hk : (kX12_age rf hf) x) : Go d mX12_age 74 [some (.ref x0), none, none, some (.int x3), none, none] [] h rf hf := by
  unfold fX12_age_74 at hs
  refine go_iload_n (k4 := 3) rfl dX12_age_74 ?_
  refine go_if_le (tgt := 82) (by decide) dX12_age_75 (fun c => ?_) (fun c => ?_)
  · have hs := if_t c hs
    exact go_subL (L' := [none, none, none, some (.int x3), none, none]) (by simp [subL, va_rf]) (oX12_age_82 hd hs hk)
  · have hs := if_f c hs
    refine go_aload_n (k4 := 0) rfl (Or.inr ⟨_, rfl⟩) dX12_age_78 ?_
    obtain ⟨g7, hs⟩ := gO_at hs
    obtain ⟨y6, ey6, hs⟩ := bindS hs
    refine go_V0 (As := []) (st := []) g7 rfl rfl (oX12_notes (d := d - 1) (by omega) ey6) (by omega) mb_X12_notes lm_RX12_303 mi_X12_notes (Nat.le_of_ble_eq_true rfl) rfl dX12_age_79 ?_
    exact go_subL (L' := [none, none, none, some (.int x3), none, none]) (by simp [subL, va_rf]) (oX12_age_82 hd hs hk)
noncomputable def fX12_age_68 (h : Hp) (x0 : Nat) (x2 : Int32) (x3 : Int32) (x4 : Int32) : Option ((Int32 × Int32 × Hp) ⊕ (Int32 × Hp)) :=
  some (.inl (x3, (x4 + Int32.ofInt 1), h))
theorem oX12_age_68 {d : Nat} (hd : 6 ≤ d) {h : Hp} {x0 : Nat} {x2 : Int32} {x3 : Int32} {x4 : Int32} {rf : Option Value} {hf : Hp} {x : ((Int32 × Int32 × Hp) ⊕ (Int32 × Hp))} (hs : fX12_age_68 h x0 x2 x3 x4 = some x) (hk : (Kx (pX12_age_34 d x0 x2 rf hf) (kX12_age rf hf)) x) : Go d mX12_age 68 [some (.ref x0), none, some (.int x2), some (.int x3), some (.int x4), none] [] h rf hf := by
  unfold fX12_age_68 at hs
  refine go_iinc (L' := [some (.ref x0), none, some (.int x2), some (.int x3), some (.int (x4 + Int32.ofInt 1)), none]) rfl (by decide) rfl rfl dX12_age_68 ?_
  refine go_goto (tgt := 34) (by decide) dX12_age_71 ?_
  obtain rfl := Option.some.inj hs
  exact go_subL (L' := [some (.ref x0), none, some (.int x2), some (.int x3), some (.int (x4 + Int32.ofInt 1)), none]) (by simp [subL, va_rf]) hk
noncomputable def fX12_age_34b (h : Hp) (x0 : Nat) (x2 : Int32) (x3 : Int32) (x4 : Int32) : Option ((Int32 × Int32 × Hp) ⊕ (Int32 × Hp)) :=
  if x2 ≤ x4 then (
  (fX12_age_74 h x0 x3).map (fun q => .inr q)) else (
    gO h 12 x0 (
    (fX12_drawn h x0).bind fun y8 =>
    gO y8.2 12 x0 (
    (fX12_whyNot y8.2 x0 (y8.1.toInt64)).bind fun y10 =>
    if y10 = 0 then (
      gO y8.2 12 x0 (
      (fX12_does y8.2 x0 y8.1).bind fun y12 =>
      fX12_age_68 y12 x0 x2 (x3 + Int32.ofInt 1) x4)) else (
      fX12_age_68 y8.2 x0 x2 x3 x4))))
noncomputable def fX12_age_34 (h : Hp) (x0 : Nat) (x2 : Int32) (x3 : Int32) (x4 : Int32) : Option (Int32 × Hp) := lpw (σ := (Int32 × Int32 × Hp)) (fun s => fX12_age_34b s.2.2 x0 x2 s.1 s.2.1) (x3, x4, h)
theorem oX12_age_34b {d : Nat} (hd : 6 ≤ d) {h : Hp} {x0 : Nat} {x2 : Int32} {x3 : Int32} {x4 : Int32} {rf : Option Value} {hf : Hp} {x : ((Int32 × Int32 × Hp) ⊕ (Int32 × Hp))} (hs : fX12_age_34b h x0 x2 x3 x4 = some x) (hk : (Kx (pX12_age_34 d x0 x2 rf hf) (kX12_age rf hf)) x) : Go d mX12_age 34 [some (.ref x0), none, some (.int x2), some (.int x3), some (.int x4), none] [] h rf hf := by
  unfold fX12_age_34b at hs
  refine go_iload rfl dX12_age_34 ?_
  refine go_iload_n (k4 := 2) rfl dX12_age_36 ?_
  refine go_icmp_ge (tgt := 74) (by decide) dX12_age_37 (fun c => ?_) (fun c => ?_)
  · have hs := if_t c hs
    obtain ⟨q, hs2, hq⟩ := mapS hs
    clear hs
    subst hq
    exact go_subL (L' := [some (.ref x0), none, none, some (.int x3), none, none]) (by simp [subL, va_rf]) (oX12_age_74 hd hs2 hk)
  · have hs := if_f c hs
    refine go_aload_n (k4 := 0) rfl (Or.inr ⟨_, rfl⟩) dX12_age_40 ?_
    obtain ⟨g9, hs⟩ := gO_at hs
    obtain ⟨y8, ey8, hs⟩ := bindS hs
    refine go_V1 (As := []) (st := []) g9 rfl rfl (oX12_drawn (d := d - 1) (by omega) ey8) (by omega) mb_X12_drawn lm_RX12_353 mi_X12_drawn (Nat.le_of_ble_eq_true rfl) rfl dX12_age_41 ?_
    refine go_istore (L' := [some (.ref x0), none, some (.int x2), some (.int x3), some (.int x4), some (.int y8.1)]) (by decide) rfl dX12_age_44 ?_
    refine go_aload_n (k4 := 0) rfl (Or.inr ⟨_, rfl⟩) dX12_age_46 ?_
    refine go_iload rfl dX12_age_47 ?_
    refine go_i2l dX12_age_49 ?_
    obtain ⟨g11, hs⟩ := gO_at hs
    obtain ⟨y10, ey10, hs⟩ := bindS hs
    refine go_V1 (As := [.long (y8.1.toInt64)]) (st := []) g11 rfl rfl (oX12_whyNot (d := d - 1) (by omega) ey10) (by omega) mb_X12_whyNot lm_RX12_327 mi_X12_whyNot (Nat.le_of_ble_eq_true rfl) rfl dX12_age_50 ?_
    refine go_at 53 rfl ?_
    refine go_if_eq (tgt := 59) (by decide) dX12_age_53 (fun c => ?_) (fun c => ?_)
    · have hs := if_t c hs
      refine go_aload_n (k4 := 0) rfl (Or.inr ⟨_, rfl⟩) dX12_age_59 ?_
      refine go_iload rfl dX12_age_60 ?_
      obtain ⟨g13, hs⟩ := gO_at hs
      obtain ⟨y12, ey12, hs⟩ := bindS hs
      refine go_V0 (As := [.int y8.1]) (st := []) g13 rfl rfl (oX12_does (d := d - 1) (by omega) ey12) (by omega) mb_X12_does lm_RX12_330 mi_X12_does (Nat.le_of_ble_eq_true rfl) rfl dX12_age_62 ?_
      refine go_iinc (L' := [some (.ref x0), none, some (.int x2), some (.int (x3 + Int32.ofInt 1)), some (.int x4), some (.int y8.1)]) rfl (by decide) rfl rfl dX12_age_65 ?_
      exact go_subL (L' := [some (.ref x0), none, some (.int x2), some (.int (x3 + Int32.ofInt 1)), some (.int x4), none]) (by simp [subL, va_rf]) (oX12_age_68 hd hs hk)
    · have hs := if_f c hs
      refine go_goto (tgt := 68) (by decide) dX12_age_56 ?_
      exact go_subL (L' := [some (.ref x0), none, some (.int x2), some (.int x3), some (.int x4), none]) (by simp [subL, va_rf]) (oX12_age_68 hd hs hk)
theorem oX12_age_34 {d : Nat} (hd : 6 ≤ d) {h : Hp} {x0 : Nat} {x2 : Int32} {x3 : Int32} {x4 : Int32} {rf : Option Value} {hf : Hp} {x : (Int32 × Hp)} (hs : fX12_age_34 h x0 x2 x3 x4 = some x) (hk : (kX12_age rf hf) x) : Go d mX12_age 34 [some (.ref x0), none, some (.int x2), some (.int x3), some (.int x4), none] [] h rf hf := by
  unfold fX12_age_34 at hs
  exact lpw_go (P := pX12_age_34 d x0 x2 rf hf) (fun s x hs hk => oX12_age_34b hd hs hk) (x3, x4, h) x hs hk
noncomputable def fX12_age (h : Hp) (x0 : Nat) (x1 : Int32) (x2 : Int32) : Option (Int32 × Hp) :=
  (sV h 12 x0 0 (.int (0 : Int32))).bind fun h1 =>
  (fX12_within h1 (x2.toInt64) (1 : Int64) (40 : Int64)).bind fun y2 =>
  if y2 = 0 then (
    some (((-3 : Int32), h1))) else (
    gO h1 12 x0 (
    (fX12_keeps h1 x0).bind fun y3 =>
    (sV y3 12 x0 24 (.int x1)).bind fun h5 =>
    fX12_age_34 h5 x0 x2 (0 : Int32) (0 : Int32)))
theorem oX12_age_0 {d : Nat} (hd : 6 ≤ d) {h : Hp} {x0 : Nat} {x1 : Int32} {x2 : Int32} {rf : Option Value} {hf : Hp} {x : (Int32 × Hp)} (hs : fX12_age h x0 x1 x2 = some x) (hk : (kX12_age rf hf) x) : Go d mX12_age 0 [some (.ref x0), some (.int x1), some (.int x2), none, none, none] [] h rf hf := by
  unfold fX12_age at hs
  refine go_aload_n (k4 := 0) rfl (Or.inr ⟨_, rfl⟩) dX12_age_0 ?_
  refine go_iconst (v := 0) (by decide) dX12_age_1 ?_
  obtain ⟨h1, eh1, hs⟩ := bindS hs
  refine go_sV fw_RX12_1 eh1 rfl rfl dX12_age_2 ?_
  refine go_iload_n (k4 := 2) rfl dX12_age_5 ?_
  refine go_i2l dX12_age_6 ?_
  refine go_lconst (v := 1) (by decide) dX12_age_7 ?_
  refine go_ldc2 lc_RX12_351 dX12_age_8 ?_
  refine go_at 11 rfl ?_
  obtain ⟨y2, ey2, hs⟩ := bindS hs
  refine go_S1 (As := [.long (x2.toInt64), .long (1 : Int64), .long (40 : Int64)]) (st := []) (oX12_within (d := d - 1) (by omega) ey2) (by omega) mb_X12_within lm_RX12_155 ms_X12_within (Nat.le_of_ble_eq_true rfl) rfl dX12_age_11 ?_
  refine go_if_ne (tgt := 20) (by decide) dX12_age_14 (fun c => ?_) (fun c => ?_)
  · have hs := if_f c hs
    refine go_aload_n (k4 := 0) rfl (Or.inr ⟨_, rfl⟩) dX12_age_20 ?_
    obtain ⟨g4, hs⟩ := gO_at hs
    obtain ⟨y3, ey3, hs⟩ := bindS hs
    refine go_V0 (As := []) (st := []) g4 rfl rfl (oX12_keeps (d := d - 1) (by omega) ey3) (by omega) mb_X12_keeps lm_RX12_297 mi_X12_keeps (Nat.le_of_ble_eq_true rfl) rfl dX12_age_21 ?_
    refine go_aload_n (k4 := 0) rfl (Or.inr ⟨_, rfl⟩) dX12_age_24 ?_
    refine go_iload_n (k4 := 1) rfl dX12_age_25 ?_
    obtain ⟨h5, eh5, hs⟩ := bindS hs
    refine go_sV fw_RX12_345 eh5 rfl rfl dX12_age_26 ?_
    refine go_iconst (v := 0) (by decide) dX12_age_29 ?_
    refine go_istore_n (k4 := 3) (L' := [some (.ref x0), some (.int x1), some (.int x2), some (.int (0 : Int32)), none, none]) (by decide) rfl dX12_age_30 ?_
    refine go_at 31 rfl ?_
    refine go_iconst (v := 0) (by decide) dX12_age_31 ?_
    refine go_istore (L' := [some (.ref x0), some (.int x1), some (.int x2), some (.int (0 : Int32)), some (.int (0 : Int32)), none]) (by decide) rfl dX12_age_32 ?_
    exact go_subL (L' := [some (.ref x0), none, some (.int x2), some (.int (0 : Int32)), some (.int (0 : Int32)), none]) (by simp [subL, va_rf]) (oX12_age_34 hd hs hk)
  · have hs := if_t c hs
    refine go_bipush (v := -3) (by decide) dX12_age_17 ?_
    obtain rfl := Option.some.inj hs
    obtain ⟨rfl, rfl⟩ := hk
    exact go_iret rfl dX12_age_19
theorem oX12_age {d : Nat} (hd : 6 ≤ d) {h : Hp} {x0 : Nat} {x1 : Int32} {x2 : Int32} {y : (Int32 × Hp)} (hs : fX12_age h x0 x1 x2 = some y) : Call d mX12_age [.ref x0, .int x1, .int x2] h (some (.int y.1)) (y.2) := call_of (by decide +kernel) (Nat.le_of_ble_eq_true rfl) (show Go d mX12_age 0 [some (.ref x0), some (.int x1), some (.int x2), none, none, none] [] h _ _ from go_subL (by simp [subL]) (oX12_age_0 hd hs ⟨rfl, rfl⟩))
abbrev kX12_laysLed (rf : Option Value) (hf : Hp) : Hp → Prop := fun y => rf = none ∧ hf = y
abbrev pX12_laysLed_6 (d : Nat) (x0 : Nat) (x1 : Int32) (rf : Option Value) (hf : Hp) : (Int32 × Hp) → Prop := fun s => Go d mX12_laysLed 6 [some (.ref x0), some (.int x1), some (.int s.1), none] [] s.2 rf hf
abbrev pX12_laysLed_33 (d : Nat) (x0 : Nat) (x1 : Int32) (rf : Option Value) (hf : Hp) : (Int32 × Int32 × Hp) → Prop := fun s => Go d mX12_laysLed 33 [some (.ref x0), some (.int x1), some (.int s.1), some (.int s.2.1)] [] s.2.2 rf hf
noncomputable def fX12_laysLed_71 (h : Hp) (x0 : Nat) (x2 : Int32) (x3 : Int32) : Option Hp :=
  (gN h 12 x0 26).bind fun v7 =>
  (aI 0 h v7 x2).bind fun v8 =>
  (sV h 12 x0 27 (.int v8)).bind fun h9 =>
  (gI h9 12 x0 27).bind fun v10 =>
  (sV h9 12 x0 28 (.int (x3 - v10))).bind fun h11 =>
  some (h11)
theorem oX12_laysLed_71 {d : Nat} (hd : 4 ≤ d) {h : Hp} {x0 : Nat} {x2 : Int32} {x3 : Int32} {rf : Option Value} {hf : Hp} {x : Hp} (hs : fX12_laysLed_71 h x0 x2 x3 = some x) (hk : (kX12_laysLed rf hf) x) : Go d mX12_laysLed 71 [some (.ref x0), none, some (.int x2), some (.int x3)] [] h rf hf := by
  unfold fX12_laysLed_71 at hs
  refine go_aload_n (k4 := 0) rfl (Or.inr ⟨_, rfl⟩) dX12_laysLed_71 ?_
  refine go_aload_n (k4 := 0) rfl (Or.inr ⟨_, rfl⟩) dX12_laysLed_72 ?_
  obtain ⟨v7, ev7, hs⟩ := bindS hs
  refine go_gN fl_RX12_51 ev7 dX12_laysLed_73 ?_
  refine go_iload_n (k4 := 2) rfl dX12_laysLed_76 ?_
  obtain ⟨v8, ev8, hs⟩ := bindS hs
  refine go_aIi ev8 dX12_laysLed_77 ?_
  obtain ⟨h9, eh9, hs⟩ := bindS hs
  refine go_sV fw_RX12_362 eh9 rfl rfl dX12_laysLed_78 ?_
  refine go_aload_n (k4 := 0) rfl (Or.inr ⟨_, rfl⟩) dX12_laysLed_81 ?_
  refine go_at 82 rfl ?_
  refine go_iload_n (k4 := 3) rfl dX12_laysLed_82 ?_
  refine go_aload_n (k4 := 0) rfl (Or.inr ⟨_, rfl⟩) dX12_laysLed_83 ?_
  obtain ⟨v10, ev10, hs⟩ := bindS hs
  refine go_gI fl_RX12_362 ev10 dX12_laysLed_84 ?_
  refine go_isub dX12_laysLed_87 ?_
  obtain ⟨h11, eh11, hs⟩ := bindS hs
  refine go_sV fw_RX12_365 eh11 rfl rfl dX12_laysLed_88 ?_
  obtain rfl := Option.some.inj hs
  obtain ⟨rfl, rfl⟩ := hk
  exact go_vret rfl dX12_laysLed_91
noncomputable def fX12_laysLed_33b (h : Hp) (x0 : Nat) (x1 : Int32) (x2 : Int32) (x3 : Int32) : Option ((Int32 × Int32 × Hp) ⊕ Hp) :=
  (gN h 12 x0 26).bind fun v5 =>
  (aI 0 h v5 x2).bind fun v6 =>
  if v6 = (-1 : Int32) then (
    (gN h 12 x0 26).bind fun v12 =>
    (wI 0 h v12 x2 x3).bind fun h13 =>
    (gN h13 12 x0 25).bind fun v14 =>
    (wI 0 h13 v14 x3 x2).bind fun h15 =>
    gO h15 12 x0 (
    (fX12_yearBy h15 x0 x2 x1 (0 : Int32)).bind fun y16 =>
    some (.inl (y16, (x3 + Int32.ofInt 1), h15)))) else (
  (fX12_laysLed_71 h x0 x2 x3).map (fun q => .inr q))
noncomputable def fX12_laysLed_33 (h : Hp) (x0 : Nat) (x1 : Int32) (x2 : Int32) (x3 : Int32) : Option Hp := lpw (σ := (Int32 × Int32 × Hp)) (fun s => fX12_laysLed_33b s.2.2 x0 x1 s.1 s.2.1) (x2, x3, h)
theorem oX12_laysLed_33b {d : Nat} (hd : 4 ≤ d) {h : Hp} {x0 : Nat} {x1 : Int32} {x2 : Int32} {x3 : Int32} {rf : Option Value} {hf : Hp} {x : ((Int32 × Int32 × Hp) ⊕ Hp)} (hs : fX12_laysLed_33b h x0 x1 x2 x3 = some x) (hk : (Kx (pX12_laysLed_33 d x0 x1 rf hf) (kX12_laysLed rf hf)) x) : Go d mX12_laysLed 33 [some (.ref x0), some (.int x1), some (.int x2), some (.int x3)] [] h rf hf := by
  unfold fX12_laysLed_33b at hs
  refine go_aload_n (k4 := 0) rfl (Or.inr ⟨_, rfl⟩) dX12_laysLed_33 ?_
  obtain ⟨v5, ev5, hs⟩ := bindS hs
  refine go_gN fl_RX12_51 ev5 dX12_laysLed_34 ?_
  refine go_iload_n (k4 := 2) rfl dX12_laysLed_37 ?_
  obtain ⟨v6, ev6, hs⟩ := bindS hs
  refine go_aIi ev6 dX12_laysLed_38 ?_
  refine go_iconst (v := -1) (by decide) dX12_laysLed_39 ?_
  refine go_icmp_ne (tgt := 71) (by decide) dX12_laysLed_40 (fun c => ?_) (fun c => ?_)
  · have hs := if_f c hs
    obtain ⟨q, hs2, hq⟩ := mapS hs
    clear hs
    subst hq
    exact go_subL (L' := [some (.ref x0), none, some (.int x2), some (.int x3)]) (by simp [subL, va_rf]) (oX12_laysLed_71 hd hs2 hk)
  · have hs := if_t c hs
    refine go_aload_n (k4 := 0) rfl (Or.inr ⟨_, rfl⟩) dX12_laysLed_43 ?_
    obtain ⟨v12, ev12, hs⟩ := bindS hs
    refine go_gN fl_RX12_51 ev12 dX12_laysLed_44 ?_
    refine go_iload_n (k4 := 2) rfl dX12_laysLed_47 ?_
    refine go_iload_n (k4 := 3) rfl dX12_laysLed_48 ?_
    obtain ⟨h13, eh13, hs⟩ := bindS hs
    refine go_wIi eh13 dX12_laysLed_49 ?_
    refine go_aload_n (k4 := 0) rfl (Or.inr ⟨_, rfl⟩) dX12_laysLed_50 ?_
    obtain ⟨v14, ev14, hs⟩ := bindS hs
    refine go_gN fl_RX12_48 ev14 dX12_laysLed_51 ?_
    refine go_at 54 rfl ?_
    refine go_iload_n (k4 := 3) rfl dX12_laysLed_54 ?_
    refine go_iload_n (k4 := 2) rfl dX12_laysLed_55 ?_
    obtain ⟨h15, eh15, hs⟩ := bindS hs
    refine go_wIi eh15 dX12_laysLed_56 ?_
    refine go_iinc (L' := [some (.ref x0), some (.int x1), some (.int x2), some (.int (x3 + Int32.ofInt 1))]) rfl (by decide) rfl rfl dX12_laysLed_57 ?_
    refine go_aload_n (k4 := 0) rfl (Or.inr ⟨_, rfl⟩) dX12_laysLed_60 ?_
    refine go_iload_n (k4 := 2) rfl dX12_laysLed_61 ?_
    refine go_iload_n (k4 := 1) rfl dX12_laysLed_62 ?_
    refine go_iconst (v := 0) (by decide) dX12_laysLed_63 ?_
    refine go_at 64 rfl ?_
    obtain ⟨g17, hs⟩ := gO_at hs
    obtain ⟨y16, ey16, hs⟩ := bindS hs
    refine go_V1 (As := [.int x2, .int x1, .int (0 : Int32)]) (st := []) g17 rfl rfl (oX12_yearBy (d := d - 1) (by omega) ey16) (by omega) mb_X12_yearBy lm_RX12_359 mi_X12_yearBy (Nat.le_of_ble_eq_true rfl) rfl dX12_laysLed_64 ?_
    refine go_istore_n (k4 := 2) (L' := [some (.ref x0), some (.int x1), some (.int y16), some (.int (x3 + Int32.ofInt 1))]) (by decide) rfl dX12_laysLed_67 ?_
    refine go_goto (tgt := 33) (by decide) dX12_laysLed_68 ?_
    obtain rfl := Option.some.inj hs
    exact go_subL (L' := [some (.ref x0), some (.int x1), some (.int y16), some (.int (x3 + Int32.ofInt 1))]) (by simp [subL, va_rf]) hk
theorem oX12_laysLed_33 {d : Nat} (hd : 4 ≤ d) {h : Hp} {x0 : Nat} {x1 : Int32} {x2 : Int32} {x3 : Int32} {rf : Option Value} {hf : Hp} {x : Hp} (hs : fX12_laysLed_33 h x0 x1 x2 x3 = some x) (hk : (kX12_laysLed rf hf) x) : Go d mX12_laysLed 33 [some (.ref x0), some (.int x1), some (.int x2), some (.int x3)] [] h rf hf := by
  unfold fX12_laysLed_33 at hs
  exact lpw_go (P := pX12_laysLed_33 d x0 x1 rf hf) (fun s x hs hk => oX12_laysLed_33b hd hs hk) (x2, x3, h) x hs hk
noncomputable def fX12_laysLed_26 (h : Hp) (x0 : Nat) (x1 : Int32) : Option Hp :=
  gO h 12 x0 (
  (fX12_standNow h x0).bind fun y3 =>
  fX12_laysLed_33 h x0 x1 y3 (0 : Int32))
theorem oX12_laysLed_26 {d : Nat} (hd : 4 ≤ d) {h : Hp} {x0 : Nat} {x1 : Int32} {rf : Option Value} {hf : Hp} {x : Hp} (hs : fX12_laysLed_26 h x0 x1 = some x) (hk : (kX12_laysLed rf hf) x) : Go d mX12_laysLed 26 [some (.ref x0), some (.int x1), none, none] [] h rf hf := by
  unfold fX12_laysLed_26 at hs
  refine go_aload_n (k4 := 0) rfl (Or.inr ⟨_, rfl⟩) dX12_laysLed_26 ?_
  obtain ⟨g4, hs⟩ := gO_at hs
  obtain ⟨y3, ey3, hs⟩ := bindS hs
  refine go_V1 (As := []) (st := []) g4 rfl rfl (oX12_standNow (d := d - 1) (by omega) ey3) (by omega) mb_X12_standNow lm_RX12_282 mi_X12_standNow (Nat.le_of_ble_eq_true rfl) rfl dX12_laysLed_27 ?_
  refine go_istore_n (k4 := 2) (L' := [some (.ref x0), some (.int x1), some (.int y3), none]) (by decide) rfl dX12_laysLed_30 ?_
  refine go_iconst (v := 0) (by decide) dX12_laysLed_31 ?_
  refine go_istore_n (k4 := 3) (L' := [some (.ref x0), some (.int x1), some (.int y3), some (.int (0 : Int32))]) (by decide) rfl dX12_laysLed_32 ?_
  exact go_subL (L' := [some (.ref x0), some (.int x1), some (.int y3), some (.int (0 : Int32))]) (by simp [subL, va_rf]) (oX12_laysLed_33 hd hs hk)
noncomputable def fX12_laysLed_6b (h : Hp) (x0 : Nat) (x1 : Int32) (x2 : Int32) : Option ((Int32 × Hp) ⊕ Hp) :=
  if (20000 : Int32) ≤ x2 then (
  (fX12_laysLed_26 h x0 x1).map (fun q => .inr q)) else (
    (gN h 12 x0 26).bind fun v18 =>
    (wI 0 h v18 x2 (-1 : Int32)).bind fun h19 =>
    some (.inl ((x2 + Int32.ofInt 1), h19)))
noncomputable def fX12_laysLed_6 (h : Hp) (x0 : Nat) (x1 : Int32) (x2 : Int32) : Option Hp := lpw (σ := (Int32 × Hp)) (fun s => fX12_laysLed_6b s.2 x0 x1 s.1) (x2, h)
theorem oX12_laysLed_6b {d : Nat} (hd : 4 ≤ d) {h : Hp} {x0 : Nat} {x1 : Int32} {x2 : Int32} {rf : Option Value} {hf : Hp} {x : ((Int32 × Hp) ⊕ Hp)} (hs : fX12_laysLed_6b h x0 x1 x2 = some x) (hk : (Kx (pX12_laysLed_6 d x0 x1 rf hf) (kX12_laysLed rf hf)) x) : Go d mX12_laysLed 6 [some (.ref x0), some (.int x1), some (.int x2), none] [] h rf hf := by
  unfold fX12_laysLed_6b at hs
  refine go_iload_n (k4 := 2) rfl dX12_laysLed_6 ?_
  refine go_sipush (v := 20000) (by decide) dX12_laysLed_7 ?_
  refine go_icmp_ge (tgt := 26) (by decide) dX12_laysLed_10 (fun c => ?_) (fun c => ?_)
  · have hs := if_t c hs
    obtain ⟨q, hs2, hq⟩ := mapS hs
    clear hs
    subst hq
    exact go_subL (L' := [some (.ref x0), some (.int x1), none, none]) (by simp [subL, va_rf]) (oX12_laysLed_26 hd hs2 hk)
  · have hs := if_f c hs
    refine go_aload_n (k4 := 0) rfl (Or.inr ⟨_, rfl⟩) dX12_laysLed_13 ?_
    obtain ⟨v18, ev18, hs⟩ := bindS hs
    refine go_gN fl_RX12_51 ev18 dX12_laysLed_14 ?_
    refine go_iload_n (k4 := 2) rfl dX12_laysLed_17 ?_
    refine go_iconst (v := -1) (by decide) dX12_laysLed_18 ?_
    obtain ⟨h19, eh19, hs⟩ := bindS hs
    refine go_wIi eh19 dX12_laysLed_19 ?_
    refine go_iinc (L' := [some (.ref x0), some (.int x1), some (.int (x2 + Int32.ofInt 1)), none]) rfl (by decide) rfl rfl dX12_laysLed_20 ?_
    refine go_goto (tgt := 6) (by decide) dX12_laysLed_23 ?_
    obtain rfl := Option.some.inj hs
    exact go_subL (L' := [some (.ref x0), some (.int x1), some (.int (x2 + Int32.ofInt 1)), none]) (by simp [subL, va_rf]) hk
theorem oX12_laysLed_6 {d : Nat} (hd : 4 ≤ d) {h : Hp} {x0 : Nat} {x1 : Int32} {x2 : Int32} {rf : Option Value} {hf : Hp} {x : Hp} (hs : fX12_laysLed_6 h x0 x1 x2 = some x) (hk : (kX12_laysLed rf hf) x) : Go d mX12_laysLed 6 [some (.ref x0), some (.int x1), some (.int x2), none] [] h rf hf := by
  unfold fX12_laysLed_6 at hs
  exact lpw_go (P := pX12_laysLed_6 d x0 x1 rf hf) (fun s x hs hk => oX12_laysLed_6b hd hs hk) (x2, h) x hs hk
noncomputable def fX12_laysLed (h : Hp) (x0 : Nat) (x1 : Int32) : Option Hp :=
  gO h 12 x0 (
  (fX12_laysTables h x0).bind fun y1 =>
  fX12_laysLed_6 y1 x0 x1 (0 : Int32))
theorem oX12_laysLed_0 {d : Nat} (hd : 4 ≤ d) {h : Hp} {x0 : Nat} {x1 : Int32} {rf : Option Value} {hf : Hp} {x : Hp} (hs : fX12_laysLed h x0 x1 = some x) (hk : (kX12_laysLed rf hf) x) : Go d mX12_laysLed 0 [some (.ref x0), some (.int x1), none, none] [] h rf hf := by
  unfold fX12_laysLed at hs
  refine go_aload_n (k4 := 0) rfl (Or.inr ⟨_, rfl⟩) dX12_laysLed_0 ?_
  obtain ⟨g2, hs⟩ := gO_at hs
  obtain ⟨y1, ey1, hs⟩ := bindS hs
  refine go_V0 (As := []) (st := []) g2 rfl rfl (oX12_laysTables (d := d - 1) (by omega) ey1) (by omega) mb_X12_laysTables lm_RX12_356 mi_X12_laysTables (Nat.le_of_ble_eq_true rfl) rfl dX12_laysLed_1 ?_
  refine go_iconst (v := 0) (by decide) dX12_laysLed_4 ?_
  refine go_istore_n (k4 := 2) (L' := [some (.ref x0), some (.int x1), some (.int (0 : Int32)), none]) (by decide) rfl dX12_laysLed_5 ?_
  exact go_subL (L' := [some (.ref x0), some (.int x1), some (.int (0 : Int32)), none]) (by simp [subL, va_rf]) (oX12_laysLed_6 hd hs hk)
theorem oX12_laysLed {d : Nat} (hd : 4 ≤ d) {h : Hp} {x0 : Nat} {x1 : Int32} {y : Hp} (hs : fX12_laysLed h x0 x1 = some y) : Call d mX12_laysLed [.ref x0, .int x1] h (none) y := call_of (by decide +kernel) (Nat.le_of_ble_eq_true rfl) (show Go d mX12_laysLed 0 [some (.ref x0), some (.int x1), none, none] [] h _ _ from go_subL (by simp [subL]) (oX12_laysLed_0 hd hs ⟨rfl, rfl⟩))
abbrev kX12_ledAt (h : Hp) (rf : Option Value) (hf : Hp) : Int32 → Prop := fun y => rf = some (.int y) ∧ hf = h
noncomputable def fX12_ledAt_32 (h : Hp) (s0 : Nat) (s1 : Int32) : Option Int32 :=
  (aI 0 h s0 s1).bind fun v7 =>
  some (v7)
theorem oX12_ledAt_32 {d : Nat} (hd : 0 ≤ d) {h : Hp} {s0 : Nat} {s1 : Int32} {rf : Option Value} {hf : Hp} {x : Int32} (hs : fX12_ledAt_32 h s0 s1 = some x) (hk : (kX12_ledAt h rf hf) x) : Go d mX12_ledAt 32 [none, none] [.int s1, .ref s0] h rf hf := by
  unfold fX12_ledAt_32 at hs
  obtain ⟨v7, ev7, hs⟩ := bindS hs
  refine go_aIi ev7 dX12_ledAt_32 ?_
  obtain rfl := Option.some.inj hs
  obtain ⟨rfl, rfl⟩ := hk
  exact go_iret rfl dX12_ledAt_33
noncomputable def fX12_ledAt (h : Hp) (x0 : Nat) (x1 : Int32) : Option Int32 :=
  (gN h 12 x0 25).bind fun v1 =>
  (gI h 12 x0 27).bind fun v2 =>
  if v2 ≤ x1 then (
    (gI h 12 x0 27).bind fun v3 =>
    (gI h 12 x0 27).bind fun v4 =>
    (gI h 12 x0 28).bind fun v5 =>
    (rm (x1 - v4) v5).bind fun v6 =>
    fX12_ledAt_32 h v1 (v3 + v6)) else (
    fX12_ledAt_32 h v1 x1)
theorem oX12_ledAt_0 {d : Nat} (hd : 0 ≤ d) {h : Hp} {x0 : Nat} {x1 : Int32} {rf : Option Value} {hf : Hp} {x : Int32} (hs : fX12_ledAt h x0 x1 = some x) (hk : (kX12_ledAt h rf hf) x) : Go d mX12_ledAt 0 [some (.ref x0), some (.int x1)] [] h rf hf := by
  unfold fX12_ledAt at hs
  refine go_aload_n (k4 := 0) rfl (Or.inr ⟨_, rfl⟩) dX12_ledAt_0 ?_
  obtain ⟨v1, ev1, hs⟩ := bindS hs
  refine go_gN fl_RX12_48 ev1 dX12_ledAt_1 ?_
  refine go_iload_n (k4 := 1) rfl dX12_ledAt_4 ?_
  refine go_aload_n (k4 := 0) rfl (Or.inr ⟨_, rfl⟩) dX12_ledAt_5 ?_
  obtain ⟨v2, ev2, hs⟩ := bindS hs
  refine go_gI fl_RX12_362 ev2 dX12_ledAt_6 ?_
  refine go_icmp_ge (tgt := 16) (by decide) dX12_ledAt_9 (fun c => ?_) (fun c => ?_)
  · have hs := if_t c hs
    refine go_aload_n (k4 := 0) rfl (Or.inr ⟨_, rfl⟩) dX12_ledAt_16 ?_
    obtain ⟨v3, ev3, hs⟩ := bindS hs
    refine go_gI fl_RX12_362 ev3 dX12_ledAt_17 ?_
    refine go_iload_n (k4 := 1) rfl dX12_ledAt_20 ?_
    refine go_aload_n (k4 := 0) rfl (Or.inr ⟨_, rfl⟩) dX12_ledAt_21 ?_
    obtain ⟨v4, ev4, hs⟩ := bindS hs
    refine go_gI fl_RX12_362 ev4 dX12_ledAt_22 ?_
    refine go_isub dX12_ledAt_25 ?_
    refine go_aload_n (k4 := 0) rfl (Or.inr ⟨_, rfl⟩) dX12_ledAt_26 ?_
    refine go_at 27 rfl ?_
    obtain ⟨v5, ev5, hs⟩ := bindS hs
    refine go_gI fl_RX12_365 ev5 dX12_ledAt_27 ?_
    obtain ⟨v6, ev6, hs⟩ := bindS hs
    refine go_rm ev6 dX12_ledAt_30 ?_
    refine go_iadd dX12_ledAt_31 ?_
    exact go_subL (L' := [none, none]) (by simp [subL, va_rf]) (oX12_ledAt_32 hd hs hk)
  · have hs := if_f c hs
    refine go_iload_n (k4 := 1) rfl dX12_ledAt_12 ?_
    refine go_goto (tgt := 32) (by decide) dX12_ledAt_13 ?_
    exact go_subL (L' := [none, none]) (by simp [subL, va_rf]) (oX12_ledAt_32 hd hs hk)
theorem oX12_ledAt {d : Nat} (hd : 0 ≤ d) {h : Hp} {x0 : Nat} {x1 : Int32} {y : Int32} (hs : fX12_ledAt h x0 x1 = some y) : Call d mX12_ledAt [.ref x0, .int x1] h (some (.int y)) h := call_of (by decide +kernel) (Nat.le_of_ble_eq_true rfl) (show Go d mX12_ledAt 0 [some (.ref x0), some (.int x1)] [] h _ _ from go_subL (by simp [subL]) (oX12_ledAt_0 hd hs ⟨rfl, rfl⟩))
abbrev kX12_lies (rf : Option Value) (hf : Hp) : (Int32 × Hp) → Prop := fun y => rf = some (.int y.1) ∧ hf = y.2
noncomputable def fX12_lies (h : Hp) (x0 : Nat) (x1 : Int32) (x2 : Int32) : Option (Int32 × Hp) :=
  (sV h 12 x0 0 (.int (0 : Int32))).bind fun h1 =>
  gO h1 12 x0 (
  (fX12_isPair h1 x0 (x1.toInt64)).bind fun y2 =>
  if y2 = 0 then (
    some (((-2 : Int32), h1))) else (
    (fX12_within h1 (x2.toInt64) (0 : Int64) (99999 : Int64)).bind fun y4 =>
    if y4 = 0 then (
      some (((-3 : Int32), h1))) else (
      (gN h1 12 x0 1).bind fun v5 =>
      (aI 0 h1 v5 (23 : Int32)).bind fun v6 =>
      gO h1 12 x0 (
      (fX12_laysLed h1 x0 v6).bind fun y7 =>
      gO y7 12 x0 (
      (fX12_ledAt y7 x0 x2).bind fun y9 =>
      (fX12_gapIn y7 y9 x1).bind fun y11 =>
      some ((y11, y7)))))))
theorem oX12_lies_0 {d : Nat} (hd : 5 ≤ d) {h : Hp} {x0 : Nat} {x1 : Int32} {x2 : Int32} {rf : Option Value} {hf : Hp} {x : (Int32 × Hp)} (hs : fX12_lies h x0 x1 x2 = some x) (hk : (kX12_lies rf hf) x) : Go d mX12_lies 0 [some (.ref x0), some (.int x1), some (.int x2)] [] h rf hf := by
  unfold fX12_lies at hs
  refine go_aload_n (k4 := 0) rfl (Or.inr ⟨_, rfl⟩) dX12_lies_0 ?_
  refine go_iconst (v := 0) (by decide) dX12_lies_1 ?_
  obtain ⟨h1, eh1, hs⟩ := bindS hs
  refine go_sV fw_RX12_1 eh1 rfl rfl dX12_lies_2 ?_
  refine go_aload_n (k4 := 0) rfl (Or.inr ⟨_, rfl⟩) dX12_lies_5 ?_
  refine go_iload_n (k4 := 1) rfl dX12_lies_6 ?_
  refine go_i2l dX12_lies_7 ?_
  obtain ⟨g3, hs⟩ := gO_at hs
  obtain ⟨y2, ey2, hs⟩ := bindS hs
  refine go_V1 (As := [.long (x1.toInt64)]) (st := []) g3 rfl rfl (oX12_isPair (d := d - 1) (by omega) ey2) (by omega) mb_X12_isPair lm_RX12_271 mi_X12_isPair (Nat.le_of_ble_eq_true rfl) rfl dX12_lies_8 ?_
  refine go_at 11 rfl ?_
  refine go_if_ne (tgt := 17) (by decide) dX12_lies_11 (fun c => ?_) (fun c => ?_)
  · have hs := if_f c hs
    refine go_iload_n (k4 := 2) rfl dX12_lies_17 ?_
    refine go_i2l dX12_lies_18 ?_
    refine go_lconst (v := 0) (by decide) dX12_lies_19 ?_
    refine go_ldc2 lc_RX12_368 dX12_lies_20 ?_
    obtain ⟨y4, ey4, hs⟩ := bindS hs
    refine go_S1 (As := [.long (x2.toInt64), .long (0 : Int64), .long (99999 : Int64)]) (st := []) (oX12_within (d := d - 1) (by omega) ey4) (by omega) mb_X12_within lm_RX12_155 ms_X12_within (Nat.le_of_ble_eq_true rfl) rfl dX12_lies_23 ?_
    refine go_if_ne (tgt := 32) (by decide) dX12_lies_26 (fun c => ?_) (fun c => ?_)
    · have hs := if_f c hs
      refine go_aload_n (k4 := 0) rfl (Or.inr ⟨_, rfl⟩) dX12_lies_32 ?_
      refine go_aload_n (k4 := 0) rfl (Or.inr ⟨_, rfl⟩) dX12_lies_33 ?_
      obtain ⟨v5, ev5, hs⟩ := bindS hs
      refine go_gN fl_RX12_13 ev5 dX12_lies_34 ?_
      refine go_bipush (v := 23) (by decide) dX12_lies_37 ?_
      obtain ⟨v6, ev6, hs⟩ := bindS hs
      refine go_aIi ev6 dX12_lies_39 ?_
      obtain ⟨g8, hs⟩ := gO_at hs
      obtain ⟨y7, ey7, hs⟩ := bindS hs
      refine go_V0 (As := [.int v6]) (st := []) g8 rfl rfl (oX12_laysLed (d := d - 1) (by omega) ey7) (by omega) mb_X12_laysLed lm_RX12_370 mi_X12_laysLed (Nat.le_of_ble_eq_true rfl) rfl dX12_lies_40 ?_
      refine go_aload_n (k4 := 0) rfl (Or.inr ⟨_, rfl⟩) dX12_lies_43 ?_
      refine go_at 44 rfl ?_
      refine go_iload_n (k4 := 2) rfl dX12_lies_44 ?_
      obtain ⟨g10, hs⟩ := gO_at hs
      obtain ⟨y9, ey9, hs⟩ := bindS hs
      refine go_V1 (As := [.int x2]) (st := []) g10 rfl rfl (oX12_ledAt (d := d - 1) (by omega) ey9) (by omega) mb_X12_ledAt lm_RX12_373 mi_X12_ledAt (Nat.le_of_ble_eq_true rfl) rfl dX12_lies_45 ?_
      refine go_iload_n (k4 := 1) rfl dX12_lies_48 ?_
      obtain ⟨y11, ey11, hs⟩ := bindS hs
      refine go_S1 (As := [.int y9, .int x1]) (st := []) (oX12_gapIn (d := d - 1) (by omega) ey11) (by omega) mb_X12_gapIn lm_RX12_217 ms_X12_gapIn (Nat.le_of_ble_eq_true rfl) rfl dX12_lies_49 ?_
      obtain rfl := Option.some.inj hs
      obtain ⟨rfl, rfl⟩ := hk
      exact go_iret rfl dX12_lies_52
    · have hs := if_t c hs
      refine go_bipush (v := -3) (by decide) dX12_lies_29 ?_
      obtain rfl := Option.some.inj hs
      obtain ⟨rfl, rfl⟩ := hk
      exact go_iret rfl dX12_lies_31
  · have hs := if_t c hs
    refine go_bipush (v := -2) (by decide) dX12_lies_14 ?_
    obtain rfl := Option.some.inj hs
    obtain ⟨rfl, rfl⟩ := hk
    exact go_iret rfl dX12_lies_16
theorem oX12_lies {d : Nat} (hd : 5 ≤ d) {h : Hp} {x0 : Nat} {x1 : Int32} {x2 : Int32} {y : (Int32 × Hp)} (hs : fX12_lies h x0 x1 x2 = some y) : Call d mX12_lies [.ref x0, .int x1, .int x2] h (some (.int y.1)) (y.2) := call_of (by decide +kernel) (Nat.le_of_ble_eq_true rfl) (show Go d mX12_lies 0 [some (.ref x0), some (.int x1), some (.int x2)] [] h _ _ from go_subL (by simp [subL]) (oX12_lies_0 hd hs ⟨rfl, rfl⟩))
abbrev kX12_metAt (h : Hp) (rf : Option Value) (hf : Hp) : Int32 → Prop := fun y => rf = some (.int y) ∧ hf = h
abbrev pX12_metAt_2 (d : Nat) (h : Hp) (x0 : Nat) (x1 : Int32) (rf : Option Value) (hf : Hp) : Int32 → Prop := fun s => Go d mX12_metAt 2 [some (.ref x0), some (.int x1), some (.int s)] [] h rf hf
noncomputable def fX12_metAt_2b (h : Hp) (x0 : Nat) (x1 : Int32) (x2 : Int32) : Option (Int32 ⊕ Int32) :=
  (gI h 12 x0 27).bind fun v1 =>
  (gI h 12 x0 28).bind fun v2 =>
  if (v1 + v2) ≤ x2 then (
    some (.inr (-1 : Int32))) else (
    (gN h 12 x0 25).bind fun v3 =>
    (aI 0 h v3 x2).bind fun v4 =>
    (fX12_gapIn h v4 x1).bind fun y5 =>
    if y5 = 0 then (
      some (.inr x2)) else (
      some (.inl (x2 + Int32.ofInt 1))))
noncomputable def fX12_metAt_2 (h : Hp) (x0 : Nat) (x1 : Int32) (x2 : Int32) : Option Int32 := lpw (σ := Int32) (fun s => fX12_metAt_2b h x0 x1 s) x2
theorem oX12_metAt_2b {d : Nat} (hd : 1 ≤ d) {h : Hp} {x0 : Nat} {x1 : Int32} {x2 : Int32} {rf : Option Value} {hf : Hp} {x : (Int32 ⊕ Int32)} (hs : fX12_metAt_2b h x0 x1 x2 = some x) (hk : (Kx (pX12_metAt_2 d h x0 x1 rf hf) (kX12_metAt h rf hf)) x) : Go d mX12_metAt 2 [some (.ref x0), some (.int x1), some (.int x2)] [] h rf hf := by
  unfold fX12_metAt_2b at hs
  refine go_iload_n (k4 := 2) rfl dX12_metAt_2 ?_
  refine go_aload_n (k4 := 0) rfl (Or.inr ⟨_, rfl⟩) dX12_metAt_3 ?_
  obtain ⟨v1, ev1, hs⟩ := bindS hs
  refine go_gI fl_RX12_362 ev1 dX12_metAt_4 ?_
  refine go_aload_n (k4 := 0) rfl (Or.inr ⟨_, rfl⟩) dX12_metAt_7 ?_
  obtain ⟨v2, ev2, hs⟩ := bindS hs
  refine go_gI fl_RX12_365 ev2 dX12_metAt_8 ?_
  refine go_iadd dX12_metAt_11 ?_
  refine go_icmp_ge (tgt := 36) (by decide) dX12_metAt_12 (fun c => ?_) (fun c => ?_)
  · have hs := if_t c hs
    refine go_iconst (v := -1) (by decide) dX12_metAt_36 ?_
    obtain rfl := Option.some.inj hs
    obtain ⟨rfl, rfl⟩ := hk
    exact go_iret rfl dX12_metAt_37
  · have hs := if_f c hs
    refine go_aload_n (k4 := 0) rfl (Or.inr ⟨_, rfl⟩) dX12_metAt_15 ?_
    obtain ⟨v3, ev3, hs⟩ := bindS hs
    refine go_gN fl_RX12_48 ev3 dX12_metAt_16 ?_
    refine go_iload_n (k4 := 2) rfl dX12_metAt_19 ?_
    obtain ⟨v4, ev4, hs⟩ := bindS hs
    refine go_aIi ev4 dX12_metAt_20 ?_
    refine go_iload_n (k4 := 1) rfl dX12_metAt_21 ?_
    obtain ⟨y5, ey5, hs⟩ := bindS hs
    refine go_S1 (As := [.int v4, .int x1]) (st := []) (oX12_gapIn (d := d - 1) (by omega) ey5) (by omega) mb_X12_gapIn lm_RX12_217 ms_X12_gapIn (Nat.le_of_ble_eq_true rfl) rfl dX12_metAt_22 ?_
    refine go_if_ne (tgt := 30) (by decide) dX12_metAt_25 (fun c => ?_) (fun c => ?_)
    · have hs := if_f c hs
      refine go_iinc (L' := [some (.ref x0), some (.int x1), some (.int (x2 + Int32.ofInt 1))]) rfl (by decide) rfl rfl dX12_metAt_30 ?_
      refine go_goto (tgt := 2) (by decide) dX12_metAt_33 ?_
      obtain rfl := Option.some.inj hs
      exact go_subL (L' := [some (.ref x0), some (.int x1), some (.int (x2 + Int32.ofInt 1))]) (by simp [subL, va_rf]) hk
    · have hs := if_t c hs
      refine go_iload_n (k4 := 2) rfl dX12_metAt_28 ?_
      obtain rfl := Option.some.inj hs
      obtain ⟨rfl, rfl⟩ := hk
      exact go_iret rfl dX12_metAt_29
theorem oX12_metAt_2 {d : Nat} (hd : 1 ≤ d) {h : Hp} {x0 : Nat} {x1 : Int32} {x2 : Int32} {rf : Option Value} {hf : Hp} {x : Int32} (hs : fX12_metAt_2 h x0 x1 x2 = some x) (hk : (kX12_metAt h rf hf) x) : Go d mX12_metAt 2 [some (.ref x0), some (.int x1), some (.int x2)] [] h rf hf := by
  unfold fX12_metAt_2 at hs
  exact lpw_go (P := pX12_metAt_2 d h x0 x1 rf hf) (fun s x hs hk => oX12_metAt_2b hd hs hk) x2 x hs hk
noncomputable def fX12_metAt (h : Hp) (x0 : Nat) (x1 : Int32) : Option Int32 :=
  fX12_metAt_2 h x0 x1 (0 : Int32)
theorem oX12_metAt_0 {d : Nat} (hd : 1 ≤ d) {h : Hp} {x0 : Nat} {x1 : Int32} {rf : Option Value} {hf : Hp} {x : Int32} (hs : fX12_metAt h x0 x1 = some x) (hk : (kX12_metAt h rf hf) x) : Go d mX12_metAt 0 [some (.ref x0), some (.int x1), none] [] h rf hf := by
  unfold fX12_metAt at hs
  refine go_iconst (v := 0) (by decide) dX12_metAt_0 ?_
  refine go_istore_n (k4 := 2) (L' := [some (.ref x0), some (.int x1), some (.int (0 : Int32))]) (by decide) rfl dX12_metAt_1 ?_
  exact go_subL (L' := [some (.ref x0), some (.int x1), some (.int (0 : Int32))]) (by simp [subL, va_rf]) (oX12_metAt_2 hd hs hk)
theorem oX12_metAt {d : Nat} (hd : 1 ≤ d) {h : Hp} {x0 : Nat} {x1 : Int32} {y : Int32} (hs : fX12_metAt h x0 x1 = some y) : Call d mX12_metAt [.ref x0, .int x1] h (some (.int y)) h := call_of (by decide +kernel) (Nat.le_of_ble_eq_true rfl) (show Go d mX12_metAt 0 [some (.ref x0), some (.int x1), none] [] h _ _ from go_subL (by simp [subL]) (oX12_metAt_0 hd hs ⟨rfl, rfl⟩))
abbrev kX12_meets (rf : Option Value) (hf : Hp) : (Int32 × Hp) → Prop := fun y => rf = some (.int y.1) ∧ hf = y.2
noncomputable def fX12_meets (h : Hp) (x0 : Nat) (x1 : Int32) : Option (Int32 × Hp) :=
  (sV h 12 x0 0 (.int (0 : Int32))).bind fun h1 =>
  gO h1 12 x0 (
  (fX12_isPair h1 x0 (x1.toInt64)).bind fun y2 =>
  if y2 = 0 then (
    some (((-2 : Int32), h1))) else (
    (gN h1 12 x0 1).bind fun v4 =>
    (aI 0 h1 v4 (23 : Int32)).bind fun v5 =>
    gO h1 12 x0 (
    (fX12_laysLed h1 x0 v5).bind fun y6 =>
    gO y6 12 x0 (
    (fX12_metAt y6 x0 x1).bind fun y8 =>
    some ((y8, y6))))))
theorem oX12_meets_0 {d : Nat} (hd : 5 ≤ d) {h : Hp} {x0 : Nat} {x1 : Int32} {rf : Option Value} {hf : Hp} {x : (Int32 × Hp)} (hs : fX12_meets h x0 x1 = some x) (hk : (kX12_meets rf hf) x) : Go d mX12_meets 0 [some (.ref x0), some (.int x1)] [] h rf hf := by
  unfold fX12_meets at hs
  refine go_aload_n (k4 := 0) rfl (Or.inr ⟨_, rfl⟩) dX12_meets_0 ?_
  refine go_iconst (v := 0) (by decide) dX12_meets_1 ?_
  obtain ⟨h1, eh1, hs⟩ := bindS hs
  refine go_sV fw_RX12_1 eh1 rfl rfl dX12_meets_2 ?_
  refine go_aload_n (k4 := 0) rfl (Or.inr ⟨_, rfl⟩) dX12_meets_5 ?_
  refine go_iload_n (k4 := 1) rfl dX12_meets_6 ?_
  refine go_i2l dX12_meets_7 ?_
  obtain ⟨g3, hs⟩ := gO_at hs
  obtain ⟨y2, ey2, hs⟩ := bindS hs
  refine go_V1 (As := [.long (x1.toInt64)]) (st := []) g3 rfl rfl (oX12_isPair (d := d - 1) (by omega) ey2) (by omega) mb_X12_isPair lm_RX12_271 mi_X12_isPair (Nat.le_of_ble_eq_true rfl) rfl dX12_meets_8 ?_
  refine go_at 11 rfl ?_
  refine go_if_ne (tgt := 17) (by decide) dX12_meets_11 (fun c => ?_) (fun c => ?_)
  · have hs := if_f c hs
    refine go_aload_n (k4 := 0) rfl (Or.inr ⟨_, rfl⟩) dX12_meets_17 ?_
    refine go_aload_n (k4 := 0) rfl (Or.inr ⟨_, rfl⟩) dX12_meets_18 ?_
    obtain ⟨v4, ev4, hs⟩ := bindS hs
    refine go_gN fl_RX12_13 ev4 dX12_meets_19 ?_
    refine go_bipush (v := 23) (by decide) dX12_meets_22 ?_
    obtain ⟨v5, ev5, hs⟩ := bindS hs
    refine go_aIi ev5 dX12_meets_24 ?_
    obtain ⟨g7, hs⟩ := gO_at hs
    obtain ⟨y6, ey6, hs⟩ := bindS hs
    refine go_V0 (As := [.int v5]) (st := []) g7 rfl rfl (oX12_laysLed (d := d - 1) (by omega) ey6) (by omega) mb_X12_laysLed lm_RX12_370 mi_X12_laysLed (Nat.le_of_ble_eq_true rfl) rfl dX12_meets_25 ?_
    refine go_aload_n (k4 := 0) rfl (Or.inr ⟨_, rfl⟩) dX12_meets_28 ?_
    refine go_at 29 rfl ?_
    refine go_iload_n (k4 := 1) rfl dX12_meets_29 ?_
    obtain ⟨g9, hs⟩ := gO_at hs
    obtain ⟨y8, ey8, hs⟩ := bindS hs
    refine go_V1 (As := [.int x1]) (st := []) g9 rfl rfl (oX12_metAt (d := d - 1) (by omega) ey8) (by omega) mb_X12_metAt lm_RX12_376 mi_X12_metAt (Nat.le_of_ble_eq_true rfl) rfl dX12_meets_30 ?_
    obtain rfl := Option.some.inj hs
    obtain ⟨rfl, rfl⟩ := hk
    exact go_iret rfl dX12_meets_33
  · have hs := if_t c hs
    refine go_bipush (v := -2) (by decide) dX12_meets_14 ?_
    obtain rfl := Option.some.inj hs
    obtain ⟨rfl, rfl⟩ := hk
    exact go_iret rfl dX12_meets_16
theorem oX12_meets {d : Nat} (hd : 5 ≤ d) {h : Hp} {x0 : Nat} {x1 : Int32} {y : (Int32 × Hp)} (hs : fX12_meets h x0 x1 = some y) : Call d mX12_meets [.ref x0, .int x1] h (some (.int y.1)) (y.2) := call_of (by decide +kernel) (Nat.le_of_ble_eq_true rfl) (show Go d mX12_meets 0 [some (.ref x0), some (.int x1)] [] h _ _ from go_subL (by simp [subL]) (oX12_meets_0 hd hs ⟨rfl, rfl⟩))
abbrev kX12_order (rf : Option Value) (hf : Hp) : (Int32 × Hp) → Prop := fun y => rf = some (.int y.1) ∧ hf = y.2
abbrev pX12_order_27 (d : Nat) (h : Hp) (x0 : Nat) (x1 : Int32) (rf : Option Value) (hf : Hp) : (Int32 × Int32) → Prop := fun s => Go d mX12_order 27 [some (.ref x0), some (.int x1), some (.int s.1), some (.int s.2), none] [] h rf hf
abbrev pX12_order_43 (d : Nat) (h : Hp) (x0 : Nat) (x1 : Int32) (x3 : Int32) (rf : Option Value) (hf : Hp) : (Int32 × Int32) → Prop := fun s => Go d mX12_order 43 [some (.ref x0), some (.int x1), some (.int s.1), some (.int x3), some (.int s.2)] [] h rf hf
noncomputable def fX12_order_84 (h : Hp) (x0 : Nat) (x1 : Int32) (x2 : Int32) (x3 : Int32) : Option ((Int32 × Int32) ⊕ (Int32 × Hp)) :=
  some (.inl (x2, (x3 + Int32.ofInt 1)))
theorem oX12_order_84 {d : Nat} (hd : 5 ≤ d) {h : Hp} {x0 : Nat} {x1 : Int32} {x2 : Int32} {x3 : Int32} {rf : Option Value} {hf : Hp} {x : ((Int32 × Int32) ⊕ (Int32 × Hp))} (hs : fX12_order_84 h x0 x1 x2 x3 = some x) (hk : (Kx (pX12_order_27 d h x0 x1 rf hf) (kX12_order rf hf)) x) : Go d mX12_order 84 [some (.ref x0), some (.int x1), some (.int x2), some (.int x3), none] [] h rf hf := by
  unfold fX12_order_84 at hs
  refine go_iinc (L' := [some (.ref x0), some (.int x1), some (.int x2), some (.int (x3 + Int32.ofInt 1)), none]) rfl (by decide) rfl rfl dX12_order_84 ?_
  refine go_goto (tgt := 27) (by decide) dX12_order_87 ?_
  obtain rfl := Option.some.inj hs
  exact go_subL (L' := [some (.ref x0), some (.int x1), some (.int x2), some (.int (x3 + Int32.ofInt 1)), none]) (by simp [subL, va_rf]) hk
noncomputable def fX12_order_78 (h : Hp) (x0 : Nat) (x1 : Int32) (x2 : Int32) (x3 : Int32) (x4 : Int32) : Option ((Int32 × Int32) ⊕ ((Int32 × Int32) ⊕ (Int32 × Hp))) :=
  some (.inl (x2, (x4 + Int32.ofInt 1)))
theorem oX12_order_78 {d : Nat} (hd : 5 ≤ d) {h : Hp} {x0 : Nat} {x1 : Int32} {x2 : Int32} {x3 : Int32} {x4 : Int32} {rf : Option Value} {hf : Hp} {x : ((Int32 × Int32) ⊕ ((Int32 × Int32) ⊕ (Int32 × Hp)))} (hs : fX12_order_78 h x0 x1 x2 x3 x4 = some x) (hk : (Kx (pX12_order_43 d h x0 x1 x3 rf hf) (Kx (pX12_order_27 d h x0 x1 rf hf) (kX12_order rf hf))) x) : Go d mX12_order 78 [some (.ref x0), some (.int x1), some (.int x2), some (.int x3), some (.int x4)] [] h rf hf := by
  unfold fX12_order_78 at hs
  refine go_iinc (L' := [some (.ref x0), some (.int x1), some (.int x2), some (.int x3), some (.int (x4 + Int32.ofInt 1))]) rfl (by decide) rfl rfl dX12_order_78 ?_
  refine go_goto (tgt := 43) (by decide) dX12_order_81 ?_
  obtain rfl := Option.some.inj hs
  exact go_subL (L' := [some (.ref x0), some (.int x1), some (.int x2), some (.int x3), some (.int (x4 + Int32.ofInt 1))]) (by simp [subL, va_rf]) hk
noncomputable def fX12_order_43b (h : Hp) (x0 : Nat) (x1 : Int32) (x3 : Int32) (x2 : Int32) (x4 : Int32) : Option ((Int32 × Int32) ⊕ ((Int32 × Int32) ⊕ (Int32 × Hp))) :=
  (gN h 12 x0 1).bind fun v8 =>
  (aI 0 h v8 (1 : Int32)).bind fun v9 =>
  if v9 ≤ x4 then (
  (fX12_order_84 h x0 x1 x2 x3).map (fun q => .inr q)) else (
    gO h 12 x0 (
    (fX12_metAt h x0 x4).bind fun y10 =>
    if y10 = x3 then (
      if x2 = x1 then (
        some (.inr (.inr (x4, h)))) else (
        fX12_order_78 h x0 x1 (x2 + Int32.ofInt 1) x3 x4)) else (
      fX12_order_78 h x0 x1 x2 x3 x4)))
noncomputable def fX12_order_43 (h : Hp) (x0 : Nat) (x1 : Int32) (x2 : Int32) (x3 : Int32) (x4 : Int32) : Option ((Int32 × Int32) ⊕ (Int32 × Hp)) := lpw (σ := (Int32 × Int32)) (fun s => fX12_order_43b h x0 x1 x3 s.1 s.2) (x2, x4)
theorem oX12_order_43b {d : Nat} (hd : 5 ≤ d) {h : Hp} {x0 : Nat} {x1 : Int32} {x2 : Int32} {x3 : Int32} {x4 : Int32} {rf : Option Value} {hf : Hp} {x : ((Int32 × Int32) ⊕ ((Int32 × Int32) ⊕ (Int32 × Hp)))} (hs : fX12_order_43b h x0 x1 x3 x2 x4 = some x) (hk : (Kx (pX12_order_43 d h x0 x1 x3 rf hf) (Kx (pX12_order_27 d h x0 x1 rf hf) (kX12_order rf hf))) x) : Go d mX12_order 43 [some (.ref x0), some (.int x1), some (.int x2), some (.int x3), some (.int x4)] [] h rf hf := by
  unfold fX12_order_43b at hs
  refine go_iload rfl dX12_order_43 ?_
  refine go_aload_n (k4 := 0) rfl (Or.inr ⟨_, rfl⟩) dX12_order_45 ?_
  obtain ⟨v8, ev8, hs⟩ := bindS hs
  refine go_gN fl_RX12_13 ev8 dX12_order_46 ?_
  refine go_iconst (v := 1) (by decide) dX12_order_49 ?_
  obtain ⟨v9, ev9, hs⟩ := bindS hs
  refine go_aIi ev9 dX12_order_50 ?_
  refine go_icmp_ge (tgt := 84) (by decide) dX12_order_51 (fun c => ?_) (fun c => ?_)
  · have hs := if_t c hs
    obtain ⟨q, hs2, hq⟩ := mapS hs
    clear hs
    subst hq
    exact go_subL (L' := [some (.ref x0), some (.int x1), some (.int x2), some (.int x3), none]) (by simp [subL, va_rf]) (oX12_order_84 hd hs2 hk)
  · have hs := if_f c hs
    refine go_aload_n (k4 := 0) rfl (Or.inr ⟨_, rfl⟩) dX12_order_54 ?_
    refine go_iload rfl dX12_order_55 ?_
    obtain ⟨g11, hs⟩ := gO_at hs
    obtain ⟨y10, ey10, hs⟩ := bindS hs
    refine go_V1 (As := [.int x4]) (st := []) g11 rfl rfl (oX12_metAt (d := d - 1) (by omega) ey10) (by omega) mb_X12_metAt lm_RX12_376 mi_X12_metAt (Nat.le_of_ble_eq_true rfl) rfl dX12_order_57 ?_
    refine go_iload_n (k4 := 3) rfl dX12_order_60 ?_
    refine go_icmp_eq (tgt := 67) (by decide) dX12_order_61 (fun c => ?_) (fun c => ?_)
    · have hs := if_t c hs
      refine go_iload_n (k4 := 2) rfl dX12_order_67 ?_
      refine go_iload_n (k4 := 1) rfl dX12_order_68 ?_
      refine go_icmp_ne (tgt := 75) (by decide) dX12_order_69 (fun c => ?_) (fun c => ?_)
      · have hs := if_f c hs
        refine go_iinc (L' := [some (.ref x0), some (.int x1), some (.int (x2 + Int32.ofInt 1)), some (.int x3), some (.int x4)]) rfl (by decide) rfl rfl dX12_order_75 ?_
        exact go_subL (L' := [some (.ref x0), some (.int x1), some (.int (x2 + Int32.ofInt 1)), some (.int x3), some (.int x4)]) (by simp [subL, va_rf]) (oX12_order_78 hd hs hk)
      · have hs := if_t c hs
        refine go_iload rfl dX12_order_72 ?_
        obtain rfl := Option.some.inj hs
        obtain ⟨rfl, rfl⟩ := hk
        exact go_iret rfl dX12_order_74
    · have hs := if_f c hs
      refine go_goto (tgt := 78) (by decide) dX12_order_64 ?_
      exact go_subL (L' := [some (.ref x0), some (.int x1), some (.int x2), some (.int x3), some (.int x4)]) (by simp [subL, va_rf]) (oX12_order_78 hd hs hk)
theorem oX12_order_43 {d : Nat} (hd : 5 ≤ d) {h : Hp} {x0 : Nat} {x1 : Int32} {x2 : Int32} {x3 : Int32} {x4 : Int32} {rf : Option Value} {hf : Hp} {x : ((Int32 × Int32) ⊕ (Int32 × Hp))} (hs : fX12_order_43 h x0 x1 x2 x3 x4 = some x) (hk : (Kx (pX12_order_27 d h x0 x1 rf hf) (kX12_order rf hf)) x) : Go d mX12_order 43 [some (.ref x0), some (.int x1), some (.int x2), some (.int x3), some (.int x4)] [] h rf hf := by
  unfold fX12_order_43 at hs
  exact lpw_go (P := pX12_order_43 d h x0 x1 x3 rf hf) (fun s x hs hk => oX12_order_43b hd hs hk) (x2, x4) x hs hk
noncomputable def fX12_order_27b (h : Hp) (x0 : Nat) (x1 : Int32) (x2 : Int32) (x3 : Int32) : Option ((Int32 × Int32) ⊕ (Int32 × Hp)) :=
  (gI h 12 x0 27).bind fun v6 =>
  (gI h 12 x0 28).bind fun v7 =>
  if (v6 + v7) ≤ x3 then (
    some (.inr ((-1 : Int32), h))) else (
    fX12_order_43 h x0 x1 x2 x3 (0 : Int32))
noncomputable def fX12_order_27 (h : Hp) (x0 : Nat) (x1 : Int32) (x2 : Int32) (x3 : Int32) : Option (Int32 × Hp) := lpw (σ := (Int32 × Int32)) (fun s => fX12_order_27b h x0 x1 s.1 s.2) (x2, x3)
theorem oX12_order_27b {d : Nat} (hd : 5 ≤ d) {h : Hp} {x0 : Nat} {x1 : Int32} {x2 : Int32} {x3 : Int32} {rf : Option Value} {hf : Hp} {x : ((Int32 × Int32) ⊕ (Int32 × Hp))} (hs : fX12_order_27b h x0 x1 x2 x3 = some x) (hk : (Kx (pX12_order_27 d h x0 x1 rf hf) (kX12_order rf hf)) x) : Go d mX12_order 27 [some (.ref x0), some (.int x1), some (.int x2), some (.int x3), none] [] h rf hf := by
  unfold fX12_order_27b at hs
  refine go_iload_n (k4 := 3) rfl dX12_order_27 ?_
  refine go_aload_n (k4 := 0) rfl (Or.inr ⟨_, rfl⟩) dX12_order_28 ?_
  obtain ⟨v6, ev6, hs⟩ := bindS hs
  refine go_gI fl_RX12_362 ev6 dX12_order_29 ?_
  refine go_aload_n (k4 := 0) rfl (Or.inr ⟨_, rfl⟩) dX12_order_32 ?_
  obtain ⟨v7, ev7, hs⟩ := bindS hs
  refine go_gI fl_RX12_365 ev7 dX12_order_33 ?_
  refine go_iadd dX12_order_36 ?_
  refine go_icmp_ge (tgt := 90) (by decide) dX12_order_37 (fun c => ?_) (fun c => ?_)
  · have hs := if_t c hs
    refine go_iconst (v := -1) (by decide) dX12_order_90 ?_
    obtain rfl := Option.some.inj hs
    obtain ⟨rfl, rfl⟩ := hk
    exact go_iret rfl dX12_order_91
  · have hs := if_f c hs
    refine go_iconst (v := 0) (by decide) dX12_order_40 ?_
    refine go_istore (L' := [some (.ref x0), some (.int x1), some (.int x2), some (.int x3), some (.int (0 : Int32))]) (by decide) rfl dX12_order_41 ?_
    exact go_subL (L' := [some (.ref x0), some (.int x1), some (.int x2), some (.int x3), some (.int (0 : Int32))]) (by simp [subL, va_rf]) (oX12_order_43 hd hs hk)
theorem oX12_order_27 {d : Nat} (hd : 5 ≤ d) {h : Hp} {x0 : Nat} {x1 : Int32} {x2 : Int32} {x3 : Int32} {rf : Option Value} {hf : Hp} {x : (Int32 × Hp)} (hs : fX12_order_27 h x0 x1 x2 x3 = some x) (hk : (kX12_order rf hf) x) : Go d mX12_order 27 [some (.ref x0), some (.int x1), some (.int x2), some (.int x3), none] [] h rf hf := by
  unfold fX12_order_27 at hs
  exact lpw_go (P := pX12_order_27 d h x0 x1 rf hf) (fun s x hs hk => oX12_order_27b hd hs hk) (x2, x3) x hs hk
noncomputable def fX12_order (h : Hp) (x0 : Nat) (x1 : Int32) : Option (Int32 × Hp) :=
  (sV h 12 x0 0 (.int (0 : Int32))).bind fun h1 =>
  if 0 ≤ x1 then (
    (gN h1 12 x0 1).bind fun v2 =>
    (aI 0 h1 v2 (23 : Int32)).bind fun v3 =>
    gO h1 12 x0 (
    (fX12_laysLed h1 x0 v3).bind fun y4 =>
    fX12_order_27 y4 x0 x1 (0 : Int32) (0 : Int32))) else (
    some (((-3 : Int32), h1)))
theorem oX12_order_0 {d : Nat} (hd : 5 ≤ d) {h : Hp} {x0 : Nat} {x1 : Int32} {rf : Option Value} {hf : Hp} {x : (Int32 × Hp)} (hs : fX12_order h x0 x1 = some x) (hk : (kX12_order rf hf) x) : Go d mX12_order 0 [some (.ref x0), some (.int x1), none, none, none] [] h rf hf := by
  unfold fX12_order at hs
  refine go_aload_n (k4 := 0) rfl (Or.inr ⟨_, rfl⟩) dX12_order_0 ?_
  refine go_iconst (v := 0) (by decide) dX12_order_1 ?_
  obtain ⟨h1, eh1, hs⟩ := bindS hs
  refine go_sV fw_RX12_1 eh1 rfl rfl dX12_order_2 ?_
  refine go_iload_n (k4 := 1) rfl dX12_order_5 ?_
  refine go_if_ge (tgt := 12) (by decide) dX12_order_6 (fun c => ?_) (fun c => ?_)
  · have hs := if_t c hs
    refine go_aload_n (k4 := 0) rfl (Or.inr ⟨_, rfl⟩) dX12_order_12 ?_
    refine go_aload_n (k4 := 0) rfl (Or.inr ⟨_, rfl⟩) dX12_order_13 ?_
    obtain ⟨v2, ev2, hs⟩ := bindS hs
    refine go_gN fl_RX12_13 ev2 dX12_order_14 ?_
    refine go_bipush (v := 23) (by decide) dX12_order_17 ?_
    obtain ⟨v3, ev3, hs⟩ := bindS hs
    refine go_aIi ev3 dX12_order_19 ?_
    obtain ⟨g5, hs⟩ := gO_at hs
    obtain ⟨y4, ey4, hs⟩ := bindS hs
    refine go_V0 (As := [.int v3]) (st := []) g5 rfl rfl (oX12_laysLed (d := d - 1) (by omega) ey4) (by omega) mb_X12_laysLed lm_RX12_370 mi_X12_laysLed (Nat.le_of_ble_eq_true rfl) rfl dX12_order_20 ?_
    refine go_iconst (v := 0) (by decide) dX12_order_23 ?_
    refine go_at 24 rfl ?_
    refine go_istore_n (k4 := 2) (L' := [some (.ref x0), some (.int x1), some (.int (0 : Int32)), none, none]) (by decide) rfl dX12_order_24 ?_
    refine go_iconst (v := 0) (by decide) dX12_order_25 ?_
    refine go_istore_n (k4 := 3) (L' := [some (.ref x0), some (.int x1), some (.int (0 : Int32)), some (.int (0 : Int32)), none]) (by decide) rfl dX12_order_26 ?_
    exact go_subL (L' := [some (.ref x0), some (.int x1), some (.int (0 : Int32)), some (.int (0 : Int32)), none]) (by simp [subL, va_rf]) (oX12_order_27 hd hs hk)
  · have hs := if_f c hs
    refine go_bipush (v := -3) (by decide) dX12_order_9 ?_
    obtain rfl := Option.some.inj hs
    obtain ⟨rfl, rfl⟩ := hk
    exact go_iret rfl dX12_order_11
theorem oX12_order {d : Nat} (hd : 5 ≤ d) {h : Hp} {x0 : Nat} {x1 : Int32} {y : (Int32 × Hp)} (hs : fX12_order h x0 x1 = some y) : Call d mX12_order [.ref x0, .int x1] h (some (.int y.1)) (y.2) := call_of (by decide +kernel) (Nat.le_of_ble_eq_true rfl) (show Go d mX12_order 0 [some (.ref x0), some (.int x1), none, none, none] [] h _ _ from go_subL (by simp [subL]) (oX12_order_0 hd hs ⟨rfl, rfl⟩))
abbrev kX12_falls (rf : Option Value) (hf : Hp) : (Int32 × Hp) → Prop := fun y => rf = some (.int y.1) ∧ hf = y.2
abbrev pX12_falls_18 (d : Nat) (h : Hp) (x0 : Nat) (rf : Option Value) (hf : Hp) : Int32 → Prop := fun s => Go d mX12_falls 18 [some (.ref x0), some (.int s)] [] h rf hf
noncomputable def fX12_falls_18b (h : Hp) (x0 : Nat) (x1 : Int32) : Option (Int32 ⊕ (Int32 × Hp)) :=
  (gI h 12 x0 27).bind fun v6 =>
  (gI h 12 x0 28).bind fun v7 =>
  if (v6 + v7) ≤ x1 then (
    some (.inr ((-1 : Int32), h))) else (
    (gN h 12 x0 25).bind fun v8 =>
    (aI 0 h v8 x1).bind fun v9 =>
    (fX12_hasFallen h v9).bind fun y10 =>
    if y10 = 0 then (
      some (.inl (x1 + Int32.ofInt 1))) else (
      some (.inr (x1, h))))
noncomputable def fX12_falls_18 (h : Hp) (x0 : Nat) (x1 : Int32) : Option (Int32 × Hp) := lpw (σ := Int32) (fun s => fX12_falls_18b h x0 s) x1
theorem oX12_falls_18b {d : Nat} (hd : 5 ≤ d) {h : Hp} {x0 : Nat} {x1 : Int32} {rf : Option Value} {hf : Hp} {x : (Int32 ⊕ (Int32 × Hp))} (hs : fX12_falls_18b h x0 x1 = some x) (hk : (Kx (pX12_falls_18 d h x0 rf hf) (kX12_falls rf hf)) x) : Go d mX12_falls 18 [some (.ref x0), some (.int x1)] [] h rf hf := by
  unfold fX12_falls_18b at hs
  refine go_iload_n (k4 := 1) rfl dX12_falls_18 ?_
  refine go_aload_n (k4 := 0) rfl (Or.inr ⟨_, rfl⟩) dX12_falls_19 ?_
  obtain ⟨v6, ev6, hs⟩ := bindS hs
  refine go_gI fl_RX12_362 ev6 dX12_falls_20 ?_
  refine go_aload_n (k4 := 0) rfl (Or.inr ⟨_, rfl⟩) dX12_falls_23 ?_
  obtain ⟨v7, ev7, hs⟩ := bindS hs
  refine go_gI fl_RX12_365 ev7 dX12_falls_24 ?_
  refine go_iadd dX12_falls_27 ?_
  refine go_icmp_ge (tgt := 51) (by decide) dX12_falls_28 (fun c => ?_) (fun c => ?_)
  · have hs := if_t c hs
    refine go_iconst (v := -1) (by decide) dX12_falls_51 ?_
    obtain rfl := Option.some.inj hs
    obtain ⟨rfl, rfl⟩ := hk
    exact go_iret rfl dX12_falls_52
  · have hs := if_f c hs
    refine go_aload_n (k4 := 0) rfl (Or.inr ⟨_, rfl⟩) dX12_falls_31 ?_
    obtain ⟨v8, ev8, hs⟩ := bindS hs
    refine go_gN fl_RX12_48 ev8 dX12_falls_32 ?_
    refine go_iload_n (k4 := 1) rfl dX12_falls_35 ?_
    obtain ⟨v9, ev9, hs⟩ := bindS hs
    refine go_aIi ev9 dX12_falls_36 ?_
    obtain ⟨y10, ey10, hs⟩ := bindS hs
    refine go_S1 (As := [.int v9]) (st := []) (oX12_hasFallen (d := d - 1) (by omega) ey10) (by omega) mb_X12_hasFallen lm_RX12_245 ms_X12_hasFallen (Nat.le_of_ble_eq_true rfl) rfl dX12_falls_37 ?_
    refine go_if_eq (tgt := 45) (by decide) dX12_falls_40 (fun c => ?_) (fun c => ?_)
    · have hs := if_t c hs
      refine go_iinc (L' := [some (.ref x0), some (.int (x1 + Int32.ofInt 1))]) rfl (by decide) rfl rfl dX12_falls_45 ?_
      refine go_goto (tgt := 18) (by decide) dX12_falls_48 ?_
      obtain rfl := Option.some.inj hs
      exact go_subL (L' := [some (.ref x0), some (.int (x1 + Int32.ofInt 1))]) (by simp [subL, va_rf]) hk
    · have hs := if_f c hs
      refine go_iload_n (k4 := 1) rfl dX12_falls_43 ?_
      obtain rfl := Option.some.inj hs
      obtain ⟨rfl, rfl⟩ := hk
      exact go_iret rfl dX12_falls_44
theorem oX12_falls_18 {d : Nat} (hd : 5 ≤ d) {h : Hp} {x0 : Nat} {x1 : Int32} {rf : Option Value} {hf : Hp} {x : (Int32 × Hp)} (hs : fX12_falls_18 h x0 x1 = some x) (hk : (kX12_falls rf hf) x) : Go d mX12_falls 18 [some (.ref x0), some (.int x1)] [] h rf hf := by
  unfold fX12_falls_18 at hs
  exact lpw_go (P := pX12_falls_18 d h x0 rf hf) (fun s x hs hk => oX12_falls_18b hd hs hk) x1 x hs hk
noncomputable def fX12_falls (h : Hp) (x0 : Nat) : Option (Int32 × Hp) :=
  (sV h 12 x0 0 (.int (0 : Int32))).bind fun h1 =>
  (gN h1 12 x0 1).bind fun v2 =>
  (aI 0 h1 v2 (23 : Int32)).bind fun v3 =>
  gO h1 12 x0 (
  (fX12_laysLed h1 x0 v3).bind fun y4 =>
  fX12_falls_18 y4 x0 (0 : Int32))
theorem oX12_falls_0 {d : Nat} (hd : 5 ≤ d) {h : Hp} {x0 : Nat} {rf : Option Value} {hf : Hp} {x : (Int32 × Hp)} (hs : fX12_falls h x0 = some x) (hk : (kX12_falls rf hf) x) : Go d mX12_falls 0 [some (.ref x0), none] [] h rf hf := by
  unfold fX12_falls at hs
  refine go_aload_n (k4 := 0) rfl (Or.inr ⟨_, rfl⟩) dX12_falls_0 ?_
  refine go_iconst (v := 0) (by decide) dX12_falls_1 ?_
  obtain ⟨h1, eh1, hs⟩ := bindS hs
  refine go_sV fw_RX12_1 eh1 rfl rfl dX12_falls_2 ?_
  refine go_aload_n (k4 := 0) rfl (Or.inr ⟨_, rfl⟩) dX12_falls_5 ?_
  refine go_aload_n (k4 := 0) rfl (Or.inr ⟨_, rfl⟩) dX12_falls_6 ?_
  obtain ⟨v2, ev2, hs⟩ := bindS hs
  refine go_gN fl_RX12_13 ev2 dX12_falls_7 ?_
  refine go_bipush (v := 23) (by decide) dX12_falls_10 ?_
  refine go_at 12 rfl ?_
  obtain ⟨v3, ev3, hs⟩ := bindS hs
  refine go_aIi ev3 dX12_falls_12 ?_
  obtain ⟨g5, hs⟩ := gO_at hs
  obtain ⟨y4, ey4, hs⟩ := bindS hs
  refine go_V0 (As := [.int v3]) (st := []) g5 rfl rfl (oX12_laysLed (d := d - 1) (by omega) ey4) (by omega) mb_X12_laysLed lm_RX12_370 mi_X12_laysLed (Nat.le_of_ble_eq_true rfl) rfl dX12_falls_13 ?_
  refine go_iconst (v := 0) (by decide) dX12_falls_16 ?_
  refine go_istore_n (k4 := 1) (L' := [some (.ref x0), some (.int (0 : Int32))]) (by decide) rfl dX12_falls_17 ?_
  exact go_subL (L' := [some (.ref x0), some (.int (0 : Int32))]) (by simp [subL, va_rf]) (oX12_falls_18 hd hs hk)
theorem oX12_falls {d : Nat} (hd : 5 ≤ d) {h : Hp} {x0 : Nat} {y : (Int32 × Hp)} (hs : fX12_falls h x0 = some y) : Call d mX12_falls [.ref x0] h (some (.int y.1)) (y.2) := call_of (by decide +kernel) (Nat.le_of_ble_eq_true rfl) (show Go d mX12_falls 0 [some (.ref x0), none] [] h _ _ from go_subL (by simp [subL]) (oX12_falls_0 hd hs ⟨rfl, rfl⟩))
abbrev kX12_placeOf (h : Hp) (rf : Option Value) (hf : Hp) : Int32 → Prop := fun y => rf = some (.int y) ∧ hf = h
abbrev pX12_placeOf_4 (d : Nat) (h : Hp) (x0 : Int32) (rf : Option Value) (hf : Hp) : (Int32 × Int32) → Prop := fun s => Go d mX12_placeOf 4 [some (.int x0), some (.int s.1), some (.int s.2)] [] h rf hf
noncomputable def fX12_placeOf_4b (h : Hp) (x0 : Int32) (x1 : Int32) (x2 : Int32) : Option ((Int32 × Int32) ⊕ Int32) :=
  if x0 ≤ x2 then (
    some (.inr x1)) else (
    some (.inl ((x1 * (5 : Int32)), (x2 + Int32.ofInt 1))))
noncomputable def fX12_placeOf_4 (h : Hp) (x0 : Int32) (x1 : Int32) (x2 : Int32) : Option Int32 := lpw (σ := (Int32 × Int32)) (fun s => fX12_placeOf_4b h x0 s.1 s.2) (x1, x2)
theorem oX12_placeOf_4b {d : Nat} (hd : 0 ≤ d) {h : Hp} {x0 : Int32} {x1 : Int32} {x2 : Int32} {rf : Option Value} {hf : Hp} {x : ((Int32 × Int32) ⊕ Int32)} (hs : fX12_placeOf_4b h x0 x1 x2 = some x) (hk : (Kx (pX12_placeOf_4 d h x0 rf hf) (kX12_placeOf h rf hf)) x) : Go d mX12_placeOf 4 [some (.int x0), some (.int x1), some (.int x2)] [] h rf hf := by
  unfold fX12_placeOf_4b at hs
  refine go_iload_n (k4 := 2) rfl dX12_placeOf_4 ?_
  refine go_iload_n (k4 := 0) rfl dX12_placeOf_5 ?_
  refine go_icmp_ge (tgt := 19) (by decide) dX12_placeOf_6 (fun c => ?_) (fun c => ?_)
  · have hs := if_t c hs
    refine go_iload_n (k4 := 1) rfl dX12_placeOf_19 ?_
    obtain rfl := Option.some.inj hs
    obtain ⟨rfl, rfl⟩ := hk
    exact go_iret rfl dX12_placeOf_20
  · have hs := if_f c hs
    refine go_iload_n (k4 := 1) rfl dX12_placeOf_9 ?_
    refine go_iconst (v := 5) (by decide) dX12_placeOf_10 ?_
    refine go_imul dX12_placeOf_11 ?_
    refine go_istore_n (k4 := 1) (L' := [some (.int x0), some (.int (x1 * (5 : Int32))), some (.int x2)]) (by decide) rfl dX12_placeOf_12 ?_
    refine go_iinc (L' := [some (.int x0), some (.int (x1 * (5 : Int32))), some (.int (x2 + Int32.ofInt 1))]) rfl (by decide) rfl rfl dX12_placeOf_13 ?_
    refine go_goto (tgt := 4) (by decide) dX12_placeOf_16 ?_
    obtain rfl := Option.some.inj hs
    exact go_subL (L' := [some (.int x0), some (.int (x1 * (5 : Int32))), some (.int (x2 + Int32.ofInt 1))]) (by simp [subL, va_rf]) hk
theorem oX12_placeOf_4 {d : Nat} (hd : 0 ≤ d) {h : Hp} {x0 : Int32} {x1 : Int32} {x2 : Int32} {rf : Option Value} {hf : Hp} {x : Int32} (hs : fX12_placeOf_4 h x0 x1 x2 = some x) (hk : (kX12_placeOf h rf hf) x) : Go d mX12_placeOf 4 [some (.int x0), some (.int x1), some (.int x2)] [] h rf hf := by
  unfold fX12_placeOf_4 at hs
  exact lpw_go (P := pX12_placeOf_4 d h x0 rf hf) (fun s x hs hk => oX12_placeOf_4b hd hs hk) (x1, x2) x hs hk
noncomputable def fX12_placeOf (h : Hp) (x0 : Int32) : Option Int32 :=
  fX12_placeOf_4 h x0 (1 : Int32) (0 : Int32)
theorem oX12_placeOf_0 {d : Nat} (hd : 0 ≤ d) {h : Hp} {x0 : Int32} {rf : Option Value} {hf : Hp} {x : Int32} (hs : fX12_placeOf h x0 = some x) (hk : (kX12_placeOf h rf hf) x) : Go d mX12_placeOf 0 [some (.int x0), none, none] [] h rf hf := by
  unfold fX12_placeOf at hs
  refine go_iconst (v := 1) (by decide) dX12_placeOf_0 ?_
  refine go_istore_n (k4 := 1) (L' := [some (.int x0), some (.int (1 : Int32)), none]) (by decide) rfl dX12_placeOf_1 ?_
  refine go_iconst (v := 0) (by decide) dX12_placeOf_2 ?_
  refine go_istore_n (k4 := 2) (L' := [some (.int x0), some (.int (1 : Int32)), some (.int (0 : Int32))]) (by decide) rfl dX12_placeOf_3 ?_
  exact go_subL (L' := [some (.int x0), some (.int (1 : Int32)), some (.int (0 : Int32))]) (by simp [subL, va_rf]) (oX12_placeOf_4 hd hs hk)
theorem oX12_placeOf {d : Nat} (hd : 0 ≤ d) {h : Hp} {x0 : Int32} {y : Int32} (hs : fX12_placeOf h x0 = some y) : Call d mX12_placeOf [.int x0] h (some (.int y)) h := call_of (by decide +kernel) (Nat.le_of_ble_eq_true rfl) (show Go d mX12_placeOf 0 [some (.int x0), none, none] [] h _ _ from go_subL (by simp [subL]) (oX12_placeOf_0 hd hs ⟨rfl, rfl⟩))
abbrev kX12_moved (rf : Option Value) (hf : Hp) : (Int32 × Hp) → Prop := fun y => rf = some (.int y.1) ∧ hf = y.2
noncomputable def fX12_moved_37 (h : Hp)  : Option (Int32 × Hp) :=
  some (((-99000002 : Int32), h))
theorem oX12_moved_37 {d : Nat} (hd : 5 ≤ d) {h : Hp} {rf : Option Value} {hf : Hp} {x : (Int32 × Hp)} (hs : fX12_moved_37 h  = some x) (hk : (kX12_moved rf hf) x) : Go d mX12_moved 37 [none, none, none, none, none, none] [] h rf hf := by
  unfold fX12_moved_37 at hs
  refine go_ldcw lc_RX12_275 dX12_moved_37 ?_
  obtain rfl := Option.some.inj hs
  obtain ⟨rfl, rfl⟩ := hk
  exact go_iret rfl dX12_moved_40
noncomputable def fX12_moved_128 (h : Hp) (s0 : Int32) : Option (Int32 × Hp) :=
  some ((s0, h))
theorem oX12_moved_128 {d : Nat} (hd : 5 ≤ d) {h : Hp} {s0 : Int32} {rf : Option Value} {hf : Hp} {x : (Int32 × Hp)} (hs : fX12_moved_128 h s0 = some x) (hk : (kX12_moved rf hf) x) : Go d mX12_moved 128 [none, none, none, none, none, none] [.int s0] h rf hf := by
  unfold fX12_moved_128 at hs
  obtain rfl := Option.some.inj hs
  obtain ⟨rfl, rfl⟩ := hk
  exact go_iret rfl dX12_moved_128
noncomputable def fX12_moved_117 (h : Hp)  : Option (Int32 × Hp) :=
  fX12_moved_128 h (-99000001 : Int32)
theorem oX12_moved_117 {d : Nat} (hd : 5 ≤ d) {h : Hp} {rf : Option Value} {hf : Hp} {x : (Int32 × Hp)} (hs : fX12_moved_117 h  = some x) (hk : (kX12_moved rf hf) x) : Go d mX12_moved 117 [none, none, none, none, none, none] [] h rf hf := by
  unfold fX12_moved_117 at hs
  refine go_ldcw lc_RX12_383 dX12_moved_117 ?_
  refine go_goto (tgt := 128) (by decide) dX12_moved_120 ?_
  exact go_subL (L' := [none, none, none, none, none, none]) (by simp [subL, va_rf]) (oX12_moved_128 hd hs hk)
noncomputable def fX12_moved (h : Hp) (x0 : Nat) (x1 : Int32) (x2 : Int32) (x3 : Int32) : Option (Int32 × Hp) :=
  (sV h 12 x0 0 (.int (0 : Int32))).bind fun h1 =>
  gO h1 12 x0 (
  (fX12_isPair h1 x0 (x1.toInt64)).bind fun y2 =>
  if y2 = 0 then (
  fX12_moved_37 h1 ) else (
    gO h1 12 x0 (
    (fX12_isPair h1 x0 (x2.toInt64)).bind fun y4 =>
    if y4 = 0 then (
    fX12_moved_37 h1 ) else (
      gO h1 12 x0 (
      (fX12_isPair h1 x0 (x3.toInt64)).bind fun y6 =>
      if y6 = 0 then (
      fX12_moved_37 h1 ) else (
        if x2 = x3 then (
        fX12_moved_37 h1 ) else (
          (gN h1 12 x0 1).bind fun v8 =>
          (aI 0 h1 v8 (23 : Int32)).bind fun v9 =>
          (fX12_dropsIn h1 v9 x2).bind fun y10 =>
          if y10 = 0 then (
            some (((-99000005 : Int32), h1))) else (
            (gN h1 12 x0 1).bind fun v11 =>
            (aI 0 h1 v11 (23 : Int32)).bind fun v12 =>
            gO h1 12 x0 (
            (fX12_laysLed h1 x0 v12).bind fun y13 =>
            gO y13 12 x0 (
            (fX12_metAt y13 x0 x1).bind fun y15 =>
            (gN y13 12 x0 1).bind fun v17 =>
            (aI 0 y13 v17 (23 : Int32)).bind fun v18 =>
            (fX12_placeOf y13 x2).bind fun y19 =>
            (fX12_placeOf y13 x3).bind fun y20 =>
            gO y13 12 x0 (
            (fX12_laysLed y13 x0 ((v18 - y19) + y20)).bind fun y21 =>
            gO y21 12 x0 (
            (fX12_metAt y21 x0 x1).bind fun y23 =>
            if y15 = (-1 : Int32) then (
            fX12_moved_117 y21 ) else (
              if y23 = (-1 : Int32) then (
              fX12_moved_117 y21 ) else (
                fX12_moved_128 y21 (y23 - y15)))))))))))))))
theorem oX12_moved_0 {d : Nat} (hd : 5 ≤ d) {h : Hp} {x0 : Nat} {x1 : Int32} {x2 : Int32} {x3 : Int32} {rf : Option Value} {hf : Hp} {x : (Int32 × Hp)} (hs : fX12_moved h x0 x1 x2 x3 = some x) (hk : (kX12_moved rf hf) x) : Go d mX12_moved 0 [some (.ref x0), some (.int x1), some (.int x2), some (.int x3), none, none] [] h rf hf := by
  unfold fX12_moved at hs
  refine go_aload_n (k4 := 0) rfl (Or.inr ⟨_, rfl⟩) dX12_moved_0 ?_
  refine go_iconst (v := 0) (by decide) dX12_moved_1 ?_
  obtain ⟨h1, eh1, hs⟩ := bindS hs
  refine go_sV fw_RX12_1 eh1 rfl rfl dX12_moved_2 ?_
  refine go_aload_n (k4 := 0) rfl (Or.inr ⟨_, rfl⟩) dX12_moved_5 ?_
  refine go_iload_n (k4 := 1) rfl dX12_moved_6 ?_
  refine go_i2l dX12_moved_7 ?_
  obtain ⟨g3, hs⟩ := gO_at hs
  obtain ⟨y2, ey2, hs⟩ := bindS hs
  refine go_V1 (As := [.long (x1.toInt64)]) (st := []) g3 rfl rfl (oX12_isPair (d := d - 1) (by omega) ey2) (by omega) mb_X12_isPair lm_RX12_271 mi_X12_isPair (Nat.le_of_ble_eq_true rfl) rfl dX12_moved_8 ?_
  refine go_at 11 rfl ?_
  refine go_if_eq (tgt := 37) (by decide) dX12_moved_11 (fun c => ?_) (fun c => ?_)
  · have hs := if_t c hs
    exact go_subL (L' := [none, none, none, none, none, none]) (by simp [subL, va_rf]) (oX12_moved_37 hd hs hk)
  · have hs := if_f c hs
    refine go_aload_n (k4 := 0) rfl (Or.inr ⟨_, rfl⟩) dX12_moved_14 ?_
    refine go_iload_n (k4 := 2) rfl dX12_moved_15 ?_
    refine go_i2l dX12_moved_16 ?_
    obtain ⟨g5, hs⟩ := gO_at hs
    obtain ⟨y4, ey4, hs⟩ := bindS hs
    refine go_V1 (As := [.long (x2.toInt64)]) (st := []) g5 rfl rfl (oX12_isPair (d := d - 1) (by omega) ey4) (by omega) mb_X12_isPair lm_RX12_271 mi_X12_isPair (Nat.le_of_ble_eq_true rfl) rfl dX12_moved_17 ?_
    refine go_if_eq (tgt := 37) (by decide) dX12_moved_20 (fun c => ?_) (fun c => ?_)
    · have hs := if_t c hs
      exact go_subL (L' := [none, none, none, none, none, none]) (by simp [subL, va_rf]) (oX12_moved_37 hd hs hk)
    · have hs := if_f c hs
      refine go_aload_n (k4 := 0) rfl (Or.inr ⟨_, rfl⟩) dX12_moved_23 ?_
      refine go_iload_n (k4 := 3) rfl dX12_moved_24 ?_
      refine go_i2l dX12_moved_25 ?_
      obtain ⟨g7, hs⟩ := gO_at hs
      obtain ⟨y6, ey6, hs⟩ := bindS hs
      refine go_V1 (As := [.long (x3.toInt64)]) (st := []) g7 rfl rfl (oX12_isPair (d := d - 1) (by omega) ey6) (by omega) mb_X12_isPair lm_RX12_271 mi_X12_isPair (Nat.le_of_ble_eq_true rfl) rfl dX12_moved_26 ?_
      refine go_if_eq (tgt := 37) (by decide) dX12_moved_29 (fun c => ?_) (fun c => ?_)
      · have hs := if_t c hs
        exact go_subL (L' := [none, none, none, none, none, none]) (by simp [subL, va_rf]) (oX12_moved_37 hd hs hk)
      · have hs := if_f c hs
        refine go_iload_n (k4 := 2) rfl dX12_moved_32 ?_
        refine go_iload_n (k4 := 3) rfl dX12_moved_33 ?_
        refine go_icmp_ne (tgt := 41) (by decide) dX12_moved_34 (fun c => ?_) (fun c => ?_)
        · have hs := if_f c hs
          refine go_aload_n (k4 := 0) rfl (Or.inr ⟨_, rfl⟩) dX12_moved_41 ?_
          obtain ⟨v8, ev8, hs⟩ := bindS hs
          refine go_gN fl_RX12_13 ev8 dX12_moved_42 ?_
          refine go_bipush (v := 23) (by decide) dX12_moved_45 ?_
          obtain ⟨v9, ev9, hs⟩ := bindS hs
          refine go_aIi ev9 dX12_moved_47 ?_
          refine go_iload_n (k4 := 2) rfl dX12_moved_48 ?_
          obtain ⟨y10, ey10, hs⟩ := bindS hs
          refine go_S1 (As := [.int v9, .int x2]) (st := []) (oX12_dropsIn (d := d - 1) (by omega) ey10) (by omega) mb_X12_dropsIn lm_RX12_248 ms_X12_dropsIn (Nat.le_of_ble_eq_true rfl) rfl dX12_moved_49 ?_
          refine go_if_ne (tgt := 59) (by decide) dX12_moved_52 (fun c => ?_) (fun c => ?_)
          · have hs := if_f c hs
            refine go_aload_n (k4 := 0) rfl (Or.inr ⟨_, rfl⟩) dX12_moved_59 ?_
            refine go_aload_n (k4 := 0) rfl (Or.inr ⟨_, rfl⟩) dX12_moved_60 ?_
            obtain ⟨v11, ev11, hs⟩ := bindS hs
            refine go_gN fl_RX12_13 ev11 dX12_moved_61 ?_
            refine go_bipush (v := 23) (by decide) dX12_moved_64 ?_
            obtain ⟨v12, ev12, hs⟩ := bindS hs
            refine go_aIi ev12 dX12_moved_66 ?_
            obtain ⟨g14, hs⟩ := gO_at hs
            obtain ⟨y13, ey13, hs⟩ := bindS hs
            refine go_V0 (As := [.int v12]) (st := []) g14 rfl rfl (oX12_laysLed (d := d - 1) (by omega) ey13) (by omega) mb_X12_laysLed lm_RX12_370 mi_X12_laysLed (Nat.le_of_ble_eq_true rfl) rfl dX12_moved_67 ?_
            refine go_aload_n (k4 := 0) rfl (Or.inr ⟨_, rfl⟩) dX12_moved_70 ?_
            refine go_at 71 rfl ?_
            refine go_iload_n (k4 := 1) rfl dX12_moved_71 ?_
            obtain ⟨g16, hs⟩ := gO_at hs
            obtain ⟨y15, ey15, hs⟩ := bindS hs
            refine go_V1 (As := [.int x1]) (st := []) g16 rfl rfl (oX12_metAt (d := d - 1) (by omega) ey15) (by omega) mb_X12_metAt lm_RX12_376 mi_X12_metAt (Nat.le_of_ble_eq_true rfl) rfl dX12_moved_72 ?_
            refine go_istore (L' := [some (.ref x0), some (.int x1), some (.int x2), some (.int x3), some (.int y15), none]) (by decide) rfl dX12_moved_75 ?_
            refine go_aload_n (k4 := 0) rfl (Or.inr ⟨_, rfl⟩) dX12_moved_77 ?_
            refine go_aload_n (k4 := 0) rfl (Or.inr ⟨_, rfl⟩) dX12_moved_78 ?_
            obtain ⟨v17, ev17, hs⟩ := bindS hs
            refine go_gN fl_RX12_13 ev17 dX12_moved_79 ?_
            refine go_bipush (v := 23) (by decide) dX12_moved_82 ?_
            obtain ⟨v18, ev18, hs⟩ := bindS hs
            refine go_aIi ev18 dX12_moved_84 ?_
            refine go_at 85 rfl ?_
            refine go_iload_n (k4 := 2) rfl dX12_moved_85 ?_
            obtain ⟨y19, ey19, hs⟩ := bindS hs
            refine go_S1 (As := [.int x2]) (st := [.int v18, .ref x0]) (oX12_placeOf (d := d - 1) (by omega) ey19) (by omega) mb_X12_placeOf lm_RX12_380 ms_X12_placeOf (Nat.le_of_ble_eq_true rfl) rfl dX12_moved_86 ?_
            refine go_isub dX12_moved_89 ?_
            refine go_iload_n (k4 := 3) rfl dX12_moved_90 ?_
            obtain ⟨y20, ey20, hs⟩ := bindS hs
            refine go_S1 (As := [.int x3]) (st := [.int (v18 - y19), .ref x0]) (oX12_placeOf (d := d - 1) (by omega) ey20) (by omega) mb_X12_placeOf lm_RX12_380 ms_X12_placeOf (Nat.le_of_ble_eq_true rfl) rfl dX12_moved_91 ?_
            refine go_iadd dX12_moved_94 ?_
            obtain ⟨g22, hs⟩ := gO_at hs
            obtain ⟨y21, ey21, hs⟩ := bindS hs
            refine go_V0 (As := [.int ((v18 - y19) + y20)]) (st := []) g22 rfl rfl (oX12_laysLed (d := d - 1) (by omega) ey21) (by omega) mb_X12_laysLed lm_RX12_370 mi_X12_laysLed (Nat.le_of_ble_eq_true rfl) rfl dX12_moved_95 ?_
            refine go_aload_n (k4 := 0) rfl (Or.inr ⟨_, rfl⟩) dX12_moved_98 ?_
            refine go_at 99 rfl ?_
            refine go_iload_n (k4 := 1) rfl dX12_moved_99 ?_
            obtain ⟨g24, hs⟩ := gO_at hs
            obtain ⟨y23, ey23, hs⟩ := bindS hs
            refine go_V1 (As := [.int x1]) (st := []) g24 rfl rfl (oX12_metAt (d := d - 1) (by omega) ey23) (by omega) mb_X12_metAt lm_RX12_376 mi_X12_metAt (Nat.le_of_ble_eq_true rfl) rfl dX12_moved_100 ?_
            refine go_istore (L' := [some (.ref x0), some (.int x1), some (.int x2), some (.int x3), some (.int y15), some (.int y23)]) (by decide) rfl dX12_moved_103 ?_
            refine go_iload rfl dX12_moved_105 ?_
            refine go_iconst (v := -1) (by decide) dX12_moved_107 ?_
            refine go_icmp_eq (tgt := 117) (by decide) dX12_moved_108 (fun c => ?_) (fun c => ?_)
            · have hs := if_t c hs
              exact go_subL (L' := [none, none, none, none, none, none]) (by simp [subL, va_rf]) (oX12_moved_117 hd hs hk)
            · have hs := if_f c hs
              refine go_iload rfl dX12_moved_111 ?_
              refine go_iconst (v := -1) (by decide) dX12_moved_113 ?_
              refine go_icmp_ne (tgt := 123) (by decide) dX12_moved_114 (fun c => ?_) (fun c => ?_)
              · have hs := if_f c hs
                refine go_iload rfl dX12_moved_123 ?_
                refine go_iload rfl dX12_moved_125 ?_
                refine go_isub dX12_moved_127 ?_
                exact go_subL (L' := [none, none, none, none, none, none]) (by simp [subL, va_rf]) (oX12_moved_128 hd hs hk)
              · have hs := if_t c hs
                exact go_subL (L' := [none, none, none, none, none, none]) (by simp [subL, va_rf]) (oX12_moved_117 hd hs hk)
          · have hs := if_t c hs
            refine go_ldcw lc_RX12_379 dX12_moved_55 ?_
            obtain rfl := Option.some.inj hs
            obtain ⟨rfl, rfl⟩ := hk
            exact go_iret rfl dX12_moved_58
        · have hs := if_t c hs
          exact go_subL (L' := [none, none, none, none, none, none]) (by simp [subL, va_rf]) (oX12_moved_37 hd hs hk)
theorem oX12_moved {d : Nat} (hd : 5 ≤ d) {h : Hp} {x0 : Nat} {x1 : Int32} {x2 : Int32} {x3 : Int32} {y : (Int32 × Hp)} (hs : fX12_moved h x0 x1 x2 x3 = some y) : Call d mX12_moved [.ref x0, .int x1, .int x2, .int x3] h (some (.int y.1)) (y.2) := call_of (by decide +kernel) (Nat.le_of_ble_eq_true rfl) (show Go d mX12_moved 0 [some (.ref x0), some (.int x1), some (.int x2), some (.int x3), none, none] [] h _ _ from go_subL (by simp [subL]) (oX12_moved_0 hd hs ⟨rfl, rfl⟩))
