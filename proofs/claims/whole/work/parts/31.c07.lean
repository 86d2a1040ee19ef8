/-! methods: their texts as functions, and that the machine does just that -/
abbrev kX10_yearsTillFall (rf : Option Value) (hf : Hp) : (Int32 × Hp) → Prop := fun y => rf = some (.int y.1) ∧ hf = y.2
abbrev pX10_yearsTillFall_11 (d : Nat) (x0 : Nat) (rf : Option Value) (hf : Hp) : (Int32 × Int32 × Hp) → Prop := fun s => Go d mX10_yearsTillFall 11 [some (.ref x0), none, none, some (.int s.1), some (.int s.2.1)] [] s.2.2 rf hf
noncomputable def fX10_yearsTillFall_48 (h : Hp)  : Option (Int32 × Hp) :=
  some (((-1 : Int32), h))
theorem oX10_yearsTillFall_48 {d : Nat} (hd : 5 ≤ d) {h : Hp} {rf : Option Value} {hf : Hp} {x : (Int32 × Hp)} (hs : fX10_yearsTillFall_48 h  = some x) (hk : (kX10_yearsTillFall rf hf) x) : Go d mX10_yearsTillFall 48 [none, none, none, none, none] [] h rf hf := by
  unfold fX10_yearsTillFall_48 at hs
  refine go_iconst (v := -1) (by decide) dX10_yearsTillFall_48 ?_
  obtain rfl := Option.some.inj hs
  obtain ⟨rfl, rfl⟩ := hk
  exact go_iret rfl dX10_yearsTillFall_49
noncomputable def fX10_yearsTillFall_11b (h : Hp) (x0 : Nat) (x3 : Int32) (x4 : Int32) : Option ((Int32 × Int32 × Hp) ⊕ (Int32 × Hp)) :=
  if (99999 : Int32) < x4 then (
  (fX10_yearsTillFall_48 h ).map (fun q => .inr q)) else (
    if x3 = 0 then (
    (fX10_yearsTillFall_48 h ).map (fun q => .inr q)) else (
      (gI h 10 x0 2).bind fun v3 =>
      if v3 < (10000 : Int32) then (
        gO h 10 x0 (
        (fX10_step h x0).bind fun y4 =>
        some (.inl (y4.1, (x4 + Int32.ofInt 1), y4.2)))) else (
        (gI h 10 x0 3).bind fun v6 =>
        some (.inr (v6, h)))))
noncomputable def fX10_yearsTillFall_11 (h : Hp) (x0 : Nat) (x3 : Int32) (x4 : Int32) : Option (Int32 × Hp) := lpw (σ := (Int32 × Int32 × Hp)) (fun s => fX10_yearsTillFall_11b s.2.2 x0 s.1 s.2.1) (x3, x4, h)
theorem oX10_yearsTillFall_11b {d : Nat} (hd : 5 ≤ d) {h : Hp} {x0 : Nat} {x3 : Int32} {x4 : Int32} {rf : Option Value} {hf : Hp} {x : ((Int32 × Int32 × Hp) ⊕ (Int32 × Hp))} (hs : fX10_yearsTillFall_11b h x0 x3 x4 = some x) (hk : (Kx (pX10_yearsTillFall_11 d x0 rf hf) (kX10_yearsTillFall rf hf)) x) : Go d mX10_yearsTillFall 11 [some (.ref x0), none, none, some (.int x3), some (.int x4)] [] h rf hf := by
  unfold fX10_yearsTillFall_11b at hs
  refine go_iload rfl dX10_yearsTillFall_11 ?_
  refine go_ldc lc_RX10_58 dX10_yearsTillFall_13 ?_
  refine go_icmp_gt (tgt := 48) (by decide) dX10_yearsTillFall_15 (fun c => ?_) (fun c => ?_)
  · have hs := if_t c hs
    obtain ⟨q, hs2, hq⟩ := mapS hs
    clear hs
    subst hq
    exact go_subL (L' := [none, none, none, none, none]) (by simp [subL, va_rf]) (oX10_yearsTillFall_48 hd hs2 hk)
  · have hs := if_f c hs
    refine go_iload_n (k4 := 3) rfl dX10_yearsTillFall_18 ?_
    refine go_if_eq (tgt := 48) (by decide) dX10_yearsTillFall_19 (fun c => ?_) (fun c => ?_)
    · have hs := if_t c hs
      obtain ⟨q, hs2, hq⟩ := mapS hs
      clear hs
      subst hq
      exact go_subL (L' := [none, none, none, none, none]) (by simp [subL, va_rf]) (oX10_yearsTillFall_48 hd hs2 hk)
    · have hs := if_f c hs
      refine go_aload_n (k4 := 0) rfl (Or.inr ⟨_, rfl⟩) dX10_yearsTillFall_22 ?_
      obtain ⟨v3, ev3, hs⟩ := bindS hs
      refine go_gI fl_RX10_15 ev3 dX10_yearsTillFall_23 ?_
      refine go_sipush (v := 10000) (by decide) dX10_yearsTillFall_26 ?_
      refine go_icmp_lt (tgt := 37) (by decide) dX10_yearsTillFall_29 (fun c => ?_) (fun c => ?_)
      · have hs := if_t c hs
        refine go_aload_n (k4 := 0) rfl (Or.inr ⟨_, rfl⟩) dX10_yearsTillFall_37 ?_
        obtain ⟨g5, hs⟩ := gO_at hs
        obtain ⟨y4, ey4, hs⟩ := bindS hs
        refine go_V1 (As := []) (st := []) g5 rfl rfl (oX10_step (d := d - 1) (by omega) ey4) (by omega) mb_X10_step lm_RX10_44 mi_X10_step (Nat.le_of_ble_eq_true rfl) rfl dX10_yearsTillFall_38 ?_
        refine go_istore_n (k4 := 3) (L' := [some (.ref x0), none, none, some (.int y4.1), some (.int x4)]) (by decide) rfl dX10_yearsTillFall_41 ?_
        refine go_iinc (L' := [some (.ref x0), none, none, some (.int y4.1), some (.int (x4 + Int32.ofInt 1))]) rfl (by decide) rfl rfl dX10_yearsTillFall_42 ?_
        refine go_goto (tgt := 11) (by decide) dX10_yearsTillFall_45 ?_
        obtain rfl := Option.some.inj hs
        exact go_subL (L' := [some (.ref x0), none, none, some (.int y4.1), some (.int (x4 + Int32.ofInt 1))]) (by simp [subL, va_rf]) hk
      · have hs := if_f c hs
        refine go_aload_n (k4 := 0) rfl (Or.inr ⟨_, rfl⟩) dX10_yearsTillFall_32 ?_
        obtain ⟨v6, ev6, hs⟩ := bindS hs
        refine go_gI fl_RX10_18 ev6 dX10_yearsTillFall_33 ?_
        obtain rfl := Option.some.inj hs
        obtain ⟨rfl, rfl⟩ := hk
        exact go_iret rfl dX10_yearsTillFall_36
theorem oX10_yearsTillFall_11 {d : Nat} (hd : 5 ≤ d) {h : Hp} {x0 : Nat} {x3 : Int32} {x4 : Int32} {rf : Option Value} {hf : Hp} {x : (Int32 × Hp)} (hs : fX10_yearsTillFall_11 h x0 x3 x4 = some x) (hk : (kX10_yearsTillFall rf hf) x) : Go d mX10_yearsTillFall 11 [some (.ref x0), none, none, some (.int x3), some (.int x4)] [] h rf hf := by
  unfold fX10_yearsTillFall_11 at hs
  exact lpw_go (P := pX10_yearsTillFall_11 d x0 rf hf) (fun s x hs hk => oX10_yearsTillFall_11b hd hs hk) (x3, x4, h) x hs hk
noncomputable def fX10_yearsTillFall (h : Hp) (x0 : Nat) (x1 : Int32) (x2 : Int32) : Option (Int32 × Hp) :=
  gO h 10 x0 (
  (fX10_start h x0 x1 x2).bind fun y1 =>
  fX10_yearsTillFall_11 y1 x0 (1 : Int32) (0 : Int32))
theorem oX10_yearsTillFall_0 {d : Nat} (hd : 5 ≤ d) {h : Hp} {x0 : Nat} {x1 : Int32} {x2 : Int32} {rf : Option Value} {hf : Hp} {x : (Int32 × Hp)} (hs : fX10_yearsTillFall h x0 x1 x2 = some x) (hk : (kX10_yearsTillFall rf hf) x) : Go d mX10_yearsTillFall 0 [some (.ref x0), some (.int x1), some (.int x2), none, none] [] h rf hf := by
  unfold fX10_yearsTillFall at hs
  refine go_aload_n (k4 := 0) rfl (Or.inr ⟨_, rfl⟩) dX10_yearsTillFall_0 ?_
  refine go_iload_n (k4 := 1) rfl dX10_yearsTillFall_1 ?_
  refine go_iload_n (k4 := 2) rfl dX10_yearsTillFall_2 ?_
  obtain ⟨g2, hs⟩ := gO_at hs
  obtain ⟨y1, ey1, hs⟩ := bindS hs
  refine go_V0 (As := [.int x1, .int x2]) (st := []) g2 rfl rfl (oX10_start (d := d - 1) (by omega) ey1) (by omega) mb_X10_start lm_RX10_40 mi_X10_start (Nat.le_of_ble_eq_true rfl) rfl dX10_yearsTillFall_3 ?_
  refine go_iconst (v := 1) (by decide) dX10_yearsTillFall_6 ?_
  refine go_istore_n (k4 := 3) (L' := [some (.ref x0), some (.int x1), some (.int x2), some (.int (1 : Int32)), none]) (by decide) rfl dX10_yearsTillFall_7 ?_
  refine go_iconst (v := 0) (by decide) dX10_yearsTillFall_8 ?_
  refine go_at 9 rfl ?_
  refine go_istore (L' := [some (.ref x0), some (.int x1), some (.int x2), some (.int (1 : Int32)), some (.int (0 : Int32))]) (by decide) rfl dX10_yearsTillFall_9 ?_
  exact go_subL (L' := [some (.ref x0), none, none, some (.int (1 : Int32)), some (.int (0 : Int32))]) (by simp [subL, va_rf]) (oX10_yearsTillFall_11 hd hs hk)
theorem oX10_yearsTillFall {d : Nat} (hd : 5 ≤ d) {h : Hp} {x0 : Nat} {x1 : Int32} {x2 : Int32} {y : (Int32 × Hp)} (hs : fX10_yearsTillFall h x0 x1 x2 = some y) : Call d mX10_yearsTillFall [.ref x0, .int x1, .int x2] h (some (.int y.1)) (y.2) := call_of (by decide +kernel) (Nat.le_of_ble_eq_true rfl) (show Go d mX10_yearsTillFall 0 [some (.ref x0), some (.int x1), some (.int x2), none, none] [] h _ _ from go_subL (by simp [subL]) (oX10_yearsTillFall_0 hd hs ⟨rfl, rfl⟩))
abbrev kX11_falls (rf : Option Value) (hf : Hp) : (Int32 × Hp) → Prop := fun y => rf = some (.int y.1) ∧ hf = y.2
noncomputable def fX11_falls (h : Hp) (x0 : Nat) : Option (Int32 × Hp) :=
  gO h 11 x0 (
  (fX11_tuned h x0).bind fun y1 =>
  (gN y1.2 11 x0 12).bind fun v3 =>
  (gN y1.2 11 x0 4).bind fun v4 =>
  (gI y1.2 8 v4 0).bind fun v5 =>
  (gN y1.2 11 x0 4).bind fun v6 =>
  (gI y1.2 8 v6 2).bind fun v7 =>
  gO y1.2 10 v3 (
  (fX10_yearsTillFall y1.2 v3 v5 v7).bind fun y8 =>
  some ((y8.1, y8.2))))
theorem oX11_falls_0 {d : Nat} (hd : 6 ≤ d) {h : Hp} {x0 : Nat} {rf : Option Value} {hf : Hp} {x : (Int32 × Hp)} (hs : fX11_falls h x0 = some x) (hk : (kX11_falls rf hf) x) : Go d mX11_falls 0 [some (.ref x0)] [] h rf hf := by
  unfold fX11_falls at hs
  refine go_aload_n (k4 := 0) rfl (Or.inr ⟨_, rfl⟩) dX11_falls_0 ?_
  obtain ⟨g2, hs⟩ := gO_at hs
  obtain ⟨y1, ey1, hs⟩ := bindS hs
  refine go_V1 (As := []) (st := []) g2 rfl rfl (oX11_tuned (d := d - 1) (by omega) ey1) (by omega) mb_X11_tuned lm_RX11_166 mi_X11_tuned (Nat.le_of_ble_eq_true rfl) rfl dX11_falls_1 ?_
  refine go_pop rfl dX11_falls_4 ?_
  refine go_aload_n (k4 := 0) rfl (Or.inr ⟨_, rfl⟩) dX11_falls_5 ?_
  obtain ⟨v3, ev3, hs⟩ := bindS hs
  refine go_gN fl_RX11_81 ev3 dX11_falls_6 ?_
  refine go_aload_n (k4 := 0) rfl (Or.inr ⟨_, rfl⟩) dX11_falls_9 ?_
  obtain ⟨v4, ev4, hs⟩ := bindS hs
  refine go_gN fl_RX11_36 ev4 dX11_falls_10 ?_
  refine go_at 13 rfl ?_
  obtain ⟨v5, ev5, hs⟩ := bindS hs
  refine go_gI fl_RX11_142 ev5 dX11_falls_13 ?_
  refine go_aload_n (k4 := 0) rfl (Or.inr ⟨_, rfl⟩) dX11_falls_16 ?_
  obtain ⟨v6, ev6, hs⟩ := bindS hs
  refine go_gN fl_RX11_36 ev6 dX11_falls_17 ?_
  obtain ⟨v7, ev7, hs⟩ := bindS hs
  refine go_gI fl_RX11_152 ev7 dX11_falls_20 ?_
  obtain ⟨g9, hs⟩ := gO_at hs
  obtain ⟨y8, ey8, hs⟩ := bindS hs
  refine go_V1 (As := [.int v5, .int v7]) (st := []) g9 rfl rfl (oX10_yearsTillFall (d := d - 1) (by omega) ey8) (by omega) mb_X10_yearsTillFall lm_RX11_281 mi_X10_yearsTillFall (Nat.le_of_ble_eq_true rfl) rfl dX11_falls_23 ?_
  obtain rfl := Option.some.inj hs
  obtain ⟨rfl, rfl⟩ := hk
  exact go_iret rfl dX11_falls_26
theorem oX11_falls {d : Nat} (hd : 6 ≤ d) {h : Hp} {x0 : Nat} {y : (Int32 × Hp)} (hs : fX11_falls h x0 = some y) : Call d mX11_falls [.ref x0] h (some (.int y.1)) (y.2) := call_of (by decide +kernel) (Nat.le_of_ble_eq_true rfl) (show Go d mX11_falls 0 [some (.ref x0)] [] h _ _ from go_subL (by simp [subL]) (oX11_falls_0 hd hs ⟨rfl, rfl⟩))
abbrev kX11_moved (rf : Option Value) (hf : Hp) : (Int32 × Hp) → Prop := fun y => rf = some (.int y.1) ∧ hf = y.2
noncomputable def fX11_moved_29 (h : Hp)  : Option (Int32 × Hp) :=
  some (((-99000002 : Int32), h))
theorem oX11_moved_29 {d : Nat} (hd : 6 ≤ d) {h : Hp} {rf : Option Value} {hf : Hp} {x : (Int32 × Hp)} (hs : fX11_moved_29 h  = some x) (hk : (kX11_moved rf hf) x) : Go d mX11_moved 29 [none, none, none, none, none] [] h rf hf := by
  unfold fX11_moved_29 at hs
  refine go_ldc lc_RX11_161 dX11_moved_29 ?_
  obtain rfl := Option.some.inj hs
  obtain ⟨rfl, rfl⟩ := hk
  exact go_iret rfl dX11_moved_31
noncomputable def fX11_moved_141 (h : Hp)  : Option (Int32 × Hp) :=
  some (((-99000001 : Int32), h))
theorem oX11_moved_141 {d : Nat} (hd : 6 ≤ d) {h : Hp} {rf : Option Value} {hf : Hp} {x : (Int32 × Hp)} (hs : fX11_moved_141 h  = some x) (hk : (kX11_moved rf hf) x) : Go d mX11_moved 141 [none, none, none, none, none] [] h rf hf := by
  unfold fX11_moved_141 at hs
  refine go_ldcw lc_RX11_288 dX11_moved_141 ?_
  obtain rfl := Option.some.inj hs
  obtain ⟨rfl, rfl⟩ := hk
  exact go_iret rfl dX11_moved_144
noncomputable def fX11_moved (h : Hp) (x0 : Nat) (x1 : Int32) (x2 : Int32) (x3 : Int32) : Option (Int32 × Hp) :=
  gO h 11 x0 (
  (fX11_isPair h x0 x1).bind fun y1 =>
  if y1 = 0 then (
  fX11_moved_29 h ) else (
    gO h 11 x0 (
    (fX11_isPair h x0 x2).bind fun y3 =>
    if y3 = 0 then (
    fX11_moved_29 h ) else (
      gO h 11 x0 (
      (fX11_isPair h x0 x3).bind fun y5 =>
      if y5 = 0 then (
      fX11_moved_29 h ) else (
        if x2 = x3 then (
        fX11_moved_29 h ) else (
          (gN h 11 x0 4).bind fun v7 =>
          (gI h 8 v7 2).bind fun v8 =>
          (fX11_dropsOf h v8 x2).bind fun y9 =>
          if y9 = 0 then (
            some (((-99000005 : Int32), h))) else (
            gO h 11 x0 (
            (fX11_tuned h x0).bind fun y10 =>
            (gN y10.2 11 x0 4).bind fun v12 =>
            (gI y10.2 8 v12 2).bind fun v13 =>
            (tT 2 x2).bind fun v14 =>
            (tT 2 x3).bind fun v15 =>
            (gN y10.2 11 x0 12).bind fun v16 =>
            (gN y10.2 11 x0 4).bind fun v17 =>
            (gI y10.2 8 v17 0).bind fun v18 =>
            (gN y10.2 11 x0 4).bind fun v19 =>
            (gI y10.2 8 v19 2).bind fun v20 =>
            (gN y10.2 11 x0 15).bind fun v21 =>
            gO y10.2 10 v16 (
            (fX10_tellMeetings y10.2 v16 v18 v20 v21).bind fun y22 =>
            (gN y22 11 x0 12).bind fun v24 =>
            (gN y22 11 x0 4).bind fun v25 =>
            (gI y22 8 v25 0).bind fun v26 =>
            (gN y22 11 x0 16).bind fun v27 =>
            gO y22 10 v24 (
            (fX10_tellMeetings y22 v24 v26 ((v13 - v14) + v15) v27).bind fun y28 =>
            (gN y28 11 x0 15).bind fun v30 =>
            (aI 0 y28 v30 x1).bind fun v31 =>
            if v31 = (-1 : Int32) then (
            fX11_moved_141 y28 ) else (
              (gN y28 11 x0 16).bind fun v32 =>
              (aI 0 y28 v32 x1).bind fun v33 =>
              if v33 = (-1 : Int32) then (
              fX11_moved_141 y28 ) else (
                (gN y28 11 x0 16).bind fun v34 =>
                (aI 0 y28 v34 x1).bind fun v35 =>
                (gN y28 11 x0 15).bind fun v36 =>
                (aI 0 y28 v36 x1).bind fun v37 =>
                some (((v35 - v37), y28)))))))))))))))
theorem oX11_moved_0 {d : Nat} (hd : 6 ≤ d) {h : Hp} {x0 : Nat} {x1 : Int32} {x2 : Int32} {x3 : Int32} {rf : Option Value} {hf : Hp} {x : (Int32 × Hp)} (hs : fX11_moved h x0 x1 x2 x3 = some x) (hk : (kX11_moved rf hf) x) : Go d mX11_moved 0 [some (.ref x0), some (.int x1), some (.int x2), some (.int x3), none] [] h rf hf := by
  unfold fX11_moved at hs
  refine go_aload_n (k4 := 0) rfl (Or.inr ⟨_, rfl⟩) dX11_moved_0 ?_
  refine go_iload_n (k4 := 1) rfl dX11_moved_1 ?_
  obtain ⟨g2, hs⟩ := gO_at hs
  obtain ⟨y1, ey1, hs⟩ := bindS hs
  refine go_V1 (As := [.int x1]) (st := []) g2 rfl rfl (oX11_isPair (d := d - 1) (by omega) ey1) (by omega) mb_X11_isPair lm_RX11_138 mi_X11_isPair (Nat.le_of_ble_eq_true rfl) rfl dX11_moved_2 ?_
  refine go_if_eq (tgt := 29) (by decide) dX11_moved_5 (fun c => ?_) (fun c => ?_)
  · have hs := if_t c hs
    exact go_subL (L' := [none, none, none, none, none]) (by simp [subL, va_rf]) (oX11_moved_29 hd hs hk)
  · have hs := if_f c hs
    refine go_aload_n (k4 := 0) rfl (Or.inr ⟨_, rfl⟩) dX11_moved_8 ?_
    refine go_iload_n (k4 := 2) rfl dX11_moved_9 ?_
    obtain ⟨g4, hs⟩ := gO_at hs
    obtain ⟨y3, ey3, hs⟩ := bindS hs
    refine go_V1 (As := [.int x2]) (st := []) g4 rfl rfl (oX11_isPair (d := d - 1) (by omega) ey3) (by omega) mb_X11_isPair lm_RX11_138 mi_X11_isPair (Nat.le_of_ble_eq_true rfl) rfl dX11_moved_10 ?_
    refine go_if_eq (tgt := 29) (by decide) dX11_moved_13 (fun c => ?_) (fun c => ?_)
    · have hs := if_t c hs
      exact go_subL (L' := [none, none, none, none, none]) (by simp [subL, va_rf]) (oX11_moved_29 hd hs hk)
    · have hs := if_f c hs
      refine go_aload_n (k4 := 0) rfl (Or.inr ⟨_, rfl⟩) dX11_moved_16 ?_
      refine go_iload_n (k4 := 3) rfl dX11_moved_17 ?_
      obtain ⟨g6, hs⟩ := gO_at hs
      obtain ⟨y5, ey5, hs⟩ := bindS hs
      refine go_V1 (As := [.int x3]) (st := []) g6 rfl rfl (oX11_isPair (d := d - 1) (by omega) ey5) (by omega) mb_X11_isPair lm_RX11_138 mi_X11_isPair (Nat.le_of_ble_eq_true rfl) rfl dX11_moved_18 ?_
      refine go_if_eq (tgt := 29) (by decide) dX11_moved_21 (fun c => ?_) (fun c => ?_)
      · have hs := if_t c hs
        exact go_subL (L' := [none, none, none, none, none]) (by simp [subL, va_rf]) (oX11_moved_29 hd hs hk)
      · have hs := if_f c hs
        refine go_iload_n (k4 := 2) rfl dX11_moved_24 ?_
        refine go_iload_n (k4 := 3) rfl dX11_moved_25 ?_
        refine go_icmp_ne (tgt := 32) (by decide) dX11_moved_26 (fun c => ?_) (fun c => ?_)
        · have hs := if_f c hs
          refine go_aload_n (k4 := 0) rfl (Or.inr ⟨_, rfl⟩) dX11_moved_32 ?_
          obtain ⟨v7, ev7, hs⟩ := bindS hs
          refine go_gN fl_RX11_36 ev7 dX11_moved_33 ?_
          obtain ⟨v8, ev8, hs⟩ := bindS hs
          refine go_gI fl_RX11_152 ev8 dX11_moved_36 ?_
          refine go_iload_n (k4 := 2) rfl dX11_moved_39 ?_
          obtain ⟨y9, ey9, hs⟩ := bindS hs
          refine go_S1 (As := [.int v8, .int x2]) (st := []) (oX11_dropsOf (d := d - 1) (by omega) ey9) (by omega) mb_X11_dropsOf lm_RX11_155 ms_X11_dropsOf (Nat.le_of_ble_eq_true rfl) rfl dX11_moved_40 ?_
          refine go_if_ne (tgt := 50) (by decide) dX11_moved_43 (fun c => ?_) (fun c => ?_)
          · have hs := if_f c hs
            refine go_aload_n (k4 := 0) rfl (Or.inr ⟨_, rfl⟩) dX11_moved_50 ?_
            obtain ⟨g11, hs⟩ := gO_at hs
            obtain ⟨y10, ey10, hs⟩ := bindS hs
            refine go_V1 (As := []) (st := []) g11 rfl rfl (oX11_tuned (d := d - 1) (by omega) ey10) (by omega) mb_X11_tuned lm_RX11_166 mi_X11_tuned (Nat.le_of_ble_eq_true rfl) rfl dX11_moved_51 ?_
            refine go_pop rfl dX11_moved_54 ?_
            refine go_aload_n (k4 := 0) rfl (Or.inr ⟨_, rfl⟩) dX11_moved_55 ?_
            obtain ⟨v12, ev12, hs⟩ := bindS hs
            refine go_gN fl_RX11_36 ev12 dX11_moved_56 ?_
            obtain ⟨v13, ev13, hs⟩ := bindS hs
            refine go_gI fl_RX11_152 ev13 dX11_moved_59 ?_
            refine go_stat (j := 2) rfl lz_RX11_285.1 lz_RX11_285.2.1 lz_RX11_285.2.2 dX11_moved_62 ?_
            refine go_at 65 rfl ?_
            refine go_iload_n (k4 := 2) rfl dX11_moved_65 ?_
            obtain ⟨v14, ev14, hs⟩ := bindS hs
            refine go_tT (by decide) ev14 dX11_moved_66 ?_
            refine go_isub dX11_moved_67 ?_
            refine go_stat (j := 2) rfl lz_RX11_285.1 lz_RX11_285.2.1 lz_RX11_285.2.2 dX11_moved_68 ?_
            refine go_iload_n (k4 := 3) rfl dX11_moved_71 ?_
            obtain ⟨v15, ev15, hs⟩ := bindS hs
            refine go_tT (by decide) ev15 dX11_moved_72 ?_
            refine go_iadd dX11_moved_73 ?_
            refine go_istore (L' := [some (.ref x0), some (.int x1), some (.int x2), some (.int x3), some (.int ((v13 - v14) + v15))]) (by decide) rfl dX11_moved_74 ?_
            refine go_at 76 rfl ?_
            refine go_aload_n (k4 := 0) rfl (Or.inr ⟨_, rfl⟩) dX11_moved_76 ?_
            obtain ⟨v16, ev16, hs⟩ := bindS hs
            refine go_gN fl_RX11_81 ev16 dX11_moved_77 ?_
            refine go_aload_n (k4 := 0) rfl (Or.inr ⟨_, rfl⟩) dX11_moved_80 ?_
            obtain ⟨v17, ev17, hs⟩ := bindS hs
            refine go_gN fl_RX11_36 ev17 dX11_moved_81 ?_
            obtain ⟨v18, ev18, hs⟩ := bindS hs
            refine go_gI fl_RX11_142 ev18 dX11_moved_84 ?_
            refine go_aload_n (k4 := 0) rfl (Or.inr ⟨_, rfl⟩) dX11_moved_87 ?_
            obtain ⟨v19, ev19, hs⟩ := bindS hs
            refine go_gN fl_RX11_36 ev19 dX11_moved_88 ?_
            obtain ⟨v20, ev20, hs⟩ := bindS hs
            refine go_gI fl_RX11_152 ev20 dX11_moved_91 ?_
            refine go_at 94 rfl ?_
            refine go_aload_n (k4 := 0) rfl (Or.inr ⟨_, rfl⟩) dX11_moved_94 ?_
            obtain ⟨v21, ev21, hs⟩ := bindS hs
            refine go_gN fl_RX11_101 ev21 dX11_moved_95 ?_
            obtain ⟨g23, hs⟩ := gO_at hs
            obtain ⟨y22, ey22, hs⟩ := bindS hs
            refine go_V0 (As := [.int v18, .int v20, .ref v21]) (st := []) g23 rfl rfl (oX10_tellMeetings (d := d - 1) (by omega) ey22) (by omega) mb_X10_tellMeetings lm_RX11_274 mi_X10_tellMeetings (Nat.le_of_ble_eq_true rfl) rfl dX11_moved_98 ?_
            refine go_aload_n (k4 := 0) rfl (Or.inr ⟨_, rfl⟩) dX11_moved_101 ?_
            obtain ⟨v24, ev24, hs⟩ := bindS hs
            refine go_gN fl_RX11_81 ev24 dX11_moved_102 ?_
            refine go_aload_n (k4 := 0) rfl (Or.inr ⟨_, rfl⟩) dX11_moved_105 ?_
            obtain ⟨v25, ev25, hs⟩ := bindS hs
            refine go_gN fl_RX11_36 ev25 dX11_moved_106 ?_
            obtain ⟨v26, ev26, hs⟩ := bindS hs
            refine go_gI fl_RX11_142 ev26 dX11_moved_109 ?_
            refine go_at 112 rfl ?_
            refine go_iload rfl dX11_moved_112 ?_
            refine go_aload_n (k4 := 0) rfl (Or.inr ⟨_, rfl⟩) dX11_moved_114 ?_
            obtain ⟨v27, ev27, hs⟩ := bindS hs
            refine go_gN fl_RX11_105 ev27 dX11_moved_115 ?_
            obtain ⟨g29, hs⟩ := gO_at hs
            obtain ⟨y28, ey28, hs⟩ := bindS hs
            refine go_V0 (As := [.int v26, .int ((v13 - v14) + v15), .ref v27]) (st := []) g29 rfl rfl (oX10_tellMeetings (d := d - 1) (by omega) ey28) (by omega) mb_X10_tellMeetings lm_RX11_274 mi_X10_tellMeetings (Nat.le_of_ble_eq_true rfl) rfl dX11_moved_118 ?_
            refine go_aload_n (k4 := 0) rfl (Or.inr ⟨_, rfl⟩) dX11_moved_121 ?_
            obtain ⟨v30, ev30, hs⟩ := bindS hs
            refine go_gN fl_RX11_101 ev30 dX11_moved_122 ?_
            refine go_iload_n (k4 := 1) rfl dX11_moved_125 ?_
            obtain ⟨v31, ev31, hs⟩ := bindS hs
            refine go_aIi ev31 dX11_moved_126 ?_
            refine go_at 127 rfl ?_
            refine go_iconst (v := -1) (by decide) dX11_moved_127 ?_
            refine go_icmp_eq (tgt := 141) (by decide) dX11_moved_128 (fun c => ?_) (fun c => ?_)
            · have hs := if_t c hs
              exact go_subL (L' := [none, none, none, none, none]) (by simp [subL, va_rf]) (oX11_moved_141 hd hs hk)
            · have hs := if_f c hs
              refine go_aload_n (k4 := 0) rfl (Or.inr ⟨_, rfl⟩) dX11_moved_131 ?_
              obtain ⟨v32, ev32, hs⟩ := bindS hs
              refine go_gN fl_RX11_105 ev32 dX11_moved_132 ?_
              refine go_iload_n (k4 := 1) rfl dX11_moved_135 ?_
              obtain ⟨v33, ev33, hs⟩ := bindS hs
              refine go_aIi ev33 dX11_moved_136 ?_
              refine go_iconst (v := -1) (by decide) dX11_moved_137 ?_
              refine go_icmp_ne (tgt := 145) (by decide) dX11_moved_138 (fun c => ?_) (fun c => ?_)
              · have hs := if_f c hs
                refine go_aload_n (k4 := 0) rfl (Or.inr ⟨_, rfl⟩) dX11_moved_145 ?_
                obtain ⟨v34, ev34, hs⟩ := bindS hs
                refine go_gN fl_RX11_105 ev34 dX11_moved_146 ?_
                refine go_iload_n (k4 := 1) rfl dX11_moved_149 ?_
                obtain ⟨v35, ev35, hs⟩ := bindS hs
                refine go_aIi ev35 dX11_moved_150 ?_
                refine go_aload_n (k4 := 0) rfl (Or.inr ⟨_, rfl⟩) dX11_moved_151 ?_
                obtain ⟨v36, ev36, hs⟩ := bindS hs
                refine go_gN fl_RX11_101 ev36 dX11_moved_152 ?_
                refine go_iload_n (k4 := 1) rfl dX11_moved_155 ?_
                refine go_at 156 rfl ?_
                obtain ⟨v37, ev37, hs⟩ := bindS hs
                refine go_aIi ev37 dX11_moved_156 ?_
                refine go_isub dX11_moved_157 ?_
                obtain rfl := Option.some.inj hs
                obtain ⟨rfl, rfl⟩ := hk
                exact go_iret rfl dX11_moved_158
              · have hs := if_t c hs
                exact go_subL (L' := [none, none, none, none, none]) (by simp [subL, va_rf]) (oX11_moved_141 hd hs hk)
          · have hs := if_t c hs
            refine go_ldcw lc_RX11_284 dX11_moved_46 ?_
            obtain rfl := Option.some.inj hs
            obtain ⟨rfl, rfl⟩ := hk
            exact go_iret rfl dX11_moved_49
        · have hs := if_t c hs
          exact go_subL (L' := [none, none, none, none, none]) (by simp [subL, va_rf]) (oX11_moved_29 hd hs hk)
theorem oX11_moved {d : Nat} (hd : 6 ≤ d) {h : Hp} {x0 : Nat} {x1 : Int32} {x2 : Int32} {x3 : Int32} {y : (Int32 × Hp)} (hs : fX11_moved h x0 x1 x2 x3 = some y) : Call d mX11_moved [.ref x0, .int x1, .int x2, .int x3] h (some (.int y.1)) (y.2) := call_of (by decide +kernel) (Nat.le_of_ble_eq_true rfl) (show Go d mX11_moved 0 [some (.ref x0), some (.int x1), some (.int x2), some (.int x3), none] [] h _ _ from go_subL (by simp [subL]) (oX11_moved_0 hd hs ⟨rfl, rfl⟩))
abbrev kX11_isSet (h : Hp) (rf : Option Value) (hf : Hp) : Int32 → Prop := fun y => rf = some (.int y) ∧ hf = h
noncomputable def fX11_isSet_22 (h : Hp) (s0 : Int32) : Option Int32 :=
  bl s0 (some (s0))
theorem oX11_isSet_22 {d : Nat} (hd : 0 ≤ d) {h : Hp} {s0 : Int32} {rf : Option Value} {hf : Hp} {x : Int32} (hs : fX11_isSet_22 h s0 = some x) (hk : (kX11_isSet h rf hf) x) : Go d mX11_isSet 22 [none, none] [.int s0] h rf hf := by
  unfold fX11_isSet_22 at hs
  obtain ⟨n1, n2, hs⟩ := bl_at hs
  obtain rfl := Option.some.inj hs
  obtain ⟨rfl, rfl⟩ := hk
  exact go_zret (ty := .boolean) rfl n1 dX11_isSet_22
noncomputable def fX11_isSet_21 (h : Hp)  : Option Int32 :=
  fX11_isSet_22 h (0 : Int32)
theorem oX11_isSet_21 {d : Nat} (hd : 0 ≤ d) {h : Hp} {rf : Option Value} {hf : Hp} {x : Int32} (hs : fX11_isSet_21 h  = some x) (hk : (kX11_isSet h rf hf) x) : Go d mX11_isSet 21 [none, none] [] h rf hf := by
  unfold fX11_isSet_21 at hs
  refine go_iconst (v := 0) (by decide) dX11_isSet_21 ?_
  exact go_subL (L' := [none, none]) (by simp [subL, va_rf]) (oX11_isSet_22 hd hs hk)
noncomputable def fX11_isSet (h : Hp) (x0 : Nat) (x1 : Int32) : Option Int32 :=
  if x1 < 0 then (
  fX11_isSet_21 h ) else (
    (gN h 11 x0 3).bind fun v1 =>
    (gI h 0 v1 0).bind fun v2 =>
    if ((1 : Int32) <<< (v2 &&& 31)) ≤ x1 then (
    fX11_isSet_21 h ) else (
      fX11_isSet_22 h (1 : Int32)))
theorem oX11_isSet_0 {d : Nat} (hd : 0 ≤ d) {h : Hp} {x0 : Nat} {x1 : Int32} {rf : Option Value} {hf : Hp} {x : Int32} (hs : fX11_isSet h x0 x1 = some x) (hk : (kX11_isSet h rf hf) x) : Go d mX11_isSet 0 [some (.ref x0), some (.int x1)] [] h rf hf := by
  unfold fX11_isSet at hs
  refine go_iload_n (k4 := 1) rfl dX11_isSet_0 ?_
  refine go_if_lt (tgt := 21) (by decide) dX11_isSet_1 (fun c => ?_) (fun c => ?_)
  · have hs := if_t c hs
    exact go_subL (L' := [none, none]) (by simp [subL, va_rf]) (oX11_isSet_21 hd hs hk)
  · have hs := if_f c hs
    refine go_iload_n (k4 := 1) rfl dX11_isSet_4 ?_
    refine go_iconst (v := 1) (by decide) dX11_isSet_5 ?_
    refine go_aload_n (k4 := 0) rfl (Or.inr ⟨_, rfl⟩) dX11_isSet_6 ?_
    obtain ⟨v1, ev1, hs⟩ := bindS hs
    refine go_gN fl_RX11_29 ev1 dX11_isSet_7 ?_
    obtain ⟨v2, ev2, hs⟩ := bindS hs
    refine go_gI fl_RX11_181 ev2 dX11_isSet_10 ?_
    refine go_ishl dX11_isSet_13 ?_
    refine go_icmp_ge (tgt := 21) (by decide) dX11_isSet_14 (fun c => ?_) (fun c => ?_)
    · have hs := if_t c hs
      exact go_subL (L' := [none, none]) (by simp [subL, va_rf]) (oX11_isSet_21 hd hs hk)
    · have hs := if_f c hs
      refine go_iconst (v := 1) (by decide) dX11_isSet_17 ?_
      refine go_goto (tgt := 22) (by decide) dX11_isSet_18 ?_
      exact go_subL (L' := [none, none]) (by simp [subL, va_rf]) (oX11_isSet_22 hd hs hk)
theorem oX11_isSet {d : Nat} (hd : 0 ≤ d) {h : Hp} {x0 : Nat} {x1 : Int32} {y : Int32} (hs : fX11_isSet h x0 x1 = some y) : Call d mX11_isSet [.ref x0, .int x1] h (some (.int y)) h := call_of (by decide +kernel) (Nat.le_of_ble_eq_true rfl) (show Go d mX11_isSet 0 [some (.ref x0), some (.int x1)] [] h _ _ from go_subL (by simp [subL]) (oX11_isSet_0 hd hs ⟨rfl, rfl⟩))
abbrev kX7_tune (rf : Option Value) (hf : Hp) : Hp → Prop := fun y => rf = none ∧ hf = y
noncomputable def fX7_tune_38 (h : Hp) (x0 : Nat) (x1 : Nat) (x2 : Int32) (s0 : Nat) (s1 : Int32) : Option Hp :=
  bl s1 (
  (sV h 7 s0 13 (.int s1)).bind fun h5 =>
  (sV h5 7 x0 1 (.ref x1)).bind fun h7 =>
  (sV h7 7 x0 2 (.int x2)).bind fun h8 =>
  some (h8))
theorem oX7_tune_38 {d : Nat} (hd : 2 ≤ d) {h : Hp} {x0 : Nat} {x1 : Nat} {x2 : Int32} {s0 : Nat} {s1 : Int32} {rf : Option Value} {hf : Hp} {x : Hp} (hs : fX7_tune_38 h x0 x1 x2 s0 s1 = some x) (hk : (kX7_tune rf hf) x) : Go d mX7_tune 38 [some (.ref x0), some (.ref x1), some (.int x2)] [.int s1, .ref s0] h rf hf := by
  unfold fX7_tune_38 at hs
  obtain ⟨n6, n6b, hs⟩ := bl_at hs
  obtain ⟨h5, eh5, hs⟩ := bindS hs
  refine go_sV fw_RX7_47 eh5 n6 n6b dX7_tune_38 ?_
  refine go_aload_n (k4 := 0) rfl (Or.inr ⟨_, rfl⟩) dX7_tune_41 ?_
  refine go_aload_n (k4 := 1) rfl (Or.inr ⟨_, rfl⟩) dX7_tune_42 ?_
  obtain ⟨h7, eh7, hs⟩ := bindS hs
  refine go_sV fw_RX7_64 eh7 rfl rfl dX7_tune_43 ?_
  refine go_aload_n (k4 := 0) rfl (Or.inr ⟨_, rfl⟩) dX7_tune_46 ?_
  refine go_iload_n (k4 := 2) rfl dX7_tune_47 ?_
  obtain ⟨h8, eh8, hs⟩ := bindS hs
  refine go_sV fw_RX7_9 eh8 rfl rfl dX7_tune_48 ?_
  refine go_at 51 rfl ?_
  obtain rfl := Option.some.inj hs
  obtain ⟨rfl, rfl⟩ := hk
  exact go_vret rfl dX7_tune_51
noncomputable def fX7_tune_37 (h : Hp) (x0 : Nat) (x1 : Nat) (x2 : Int32) (s0 : Nat) : Option Hp :=
  fX7_tune_38 h x0 x1 x2 s0 (0 : Int32)
theorem oX7_tune_37 {d : Nat} (hd : 2 ≤ d) {h : Hp} {x0 : Nat} {x1 : Nat} {x2 : Int32} {s0 : Nat} {rf : Option Value} {hf : Hp} {x : Hp} (hs : fX7_tune_37 h x0 x1 x2 s0 = some x) (hk : (kX7_tune rf hf) x) : Go d mX7_tune 37 [some (.ref x0), some (.ref x1), some (.int x2)] [.ref s0] h rf hf := by
  unfold fX7_tune_37 at hs
  refine go_iconst (v := 0) (by decide) dX7_tune_37 ?_
  exact go_subL (L' := [some (.ref x0), some (.ref x1), some (.int x2)]) (by simp [subL, va_rf]) (oX7_tune_38 hd hs hk)
noncomputable def fX7_tune (h : Hp) (x0 : Nat) (x1 : Nat) (x2 : Int32) : Option Hp :=
  (gN h 7 x0 0).bind fun v1 =>
  gO h 1 v1 (
  (fX1_tune h v1 x1 x2).bind fun y2 =>
  (gI y2 7 x0 13).bind fun v4 =>
  if v4 = 0 then (
  fX7_tune_37 y2 x0 x1 x2 x0) else (
    (gN y2 7 x0 1).bind fun v9 =>
    gH2 (some v9) (some x1) (if (some v9) = (some x1) then (
      (gI y2 7 x0 2).bind fun v10 =>
      if v10 = x2 then (
        fX7_tune_38 y2 x0 x1 x2 x0 (1 : Int32)) else (
      fX7_tune_37 y2 x0 x1 x2 x0)) else (
    fX7_tune_37 y2 x0 x1 x2 x0))))
theorem oX7_tune_0 {d : Nat} (hd : 2 ≤ d) {h : Hp} {x0 : Nat} {x1 : Nat} {x2 : Int32} {rf : Option Value} {hf : Hp} {x : Hp} (hs : fX7_tune h x0 x1 x2 = some x) (hk : (kX7_tune rf hf) x) : Go d mX7_tune 0 [some (.ref x0), some (.ref x1), some (.int x2)] [] h rf hf := by
  unfold fX7_tune at hs
  refine go_aload_n (k4 := 0) rfl (Or.inr ⟨_, rfl⟩) dX7_tune_0 ?_
  obtain ⟨v1, ev1, hs⟩ := bindS hs
  refine go_gN fl_RX7_60 ev1 dX7_tune_1 ?_
  refine go_aload_n (k4 := 1) rfl (Or.inr ⟨_, rfl⟩) dX7_tune_4 ?_
  refine go_iload_n (k4 := 2) rfl dX7_tune_5 ?_
  obtain ⟨g3, hs⟩ := gO_at hs
  obtain ⟨y2, ey2, hs⟩ := bindS hs
  refine go_V0 (As := [.ref x1, .int x2]) (st := []) g3 rfl rfl (oX1_tune (d := d - 1) (by omega) ey2) (by omega) mb_X1_tune lm_RX7_68 mi_X1_tune (Nat.le_of_ble_eq_true rfl) rfl dX7_tune_6 ?_
  refine go_aload_n (k4 := 0) rfl (Or.inr ⟨_, rfl⟩) dX7_tune_9 ?_
  refine go_aload_n (k4 := 0) rfl (Or.inr ⟨_, rfl⟩) dX7_tune_10 ?_
  refine go_at 11 rfl ?_
  obtain ⟨v4, ev4, hs⟩ := bindS hs
  refine go_gI fl_RX7_47 ev4 dX7_tune_11 ?_
  refine go_if_eq (tgt := 37) (by decide) dX7_tune_14 (fun c => ?_) (fun c => ?_)
  · have hs := if_t c hs
    exact go_subL (L' := [some (.ref x0), some (.ref x1), some (.int x2)]) (by simp [subL, va_rf]) (oX7_tune_37 hd hs hk)
  · have hs := if_f c hs
    refine go_aload_n (k4 := 0) rfl (Or.inr ⟨_, rfl⟩) dX7_tune_17 ?_
    obtain ⟨v9, ev9, hs⟩ := bindS hs
    refine go_gN fl_RX7_64 ev9 dX7_tune_18 ?_
    refine go_aload_n (k4 := 1) rfl (Or.inr ⟨_, rfl⟩) dX7_tune_21 ?_
    obtain ⟨g11, g11b, hs⟩ := gH2_at hs
    refine go_acmp_ne (a := (some v9)) (b := (some x1)) (tgt := 37) g11 g11b (by decide) dX7_tune_22 (fun c => ?_) (fun c => ?_)
    · have hs := if_f c hs
      exact go_subL (L' := [some (.ref x0), some (.ref x1), some (.int x2)]) (by simp [subL, va_rf]) (oX7_tune_37 hd hs hk)
    · have hs := if_t c hs
      refine go_aload_n (k4 := 0) rfl (Or.inr ⟨_, rfl⟩) dX7_tune_25 ?_
      obtain ⟨v10, ev10, hs⟩ := bindS hs
      refine go_gI fl_RX7_9 ev10 dX7_tune_26 ?_
      refine go_iload_n (k4 := 2) rfl dX7_tune_29 ?_
      refine go_icmp_ne (tgt := 37) (by decide) dX7_tune_30 (fun c => ?_) (fun c => ?_)
      · have hs := if_f c hs
        exact go_subL (L' := [some (.ref x0), some (.ref x1), some (.int x2)]) (by simp [subL, va_rf]) (oX7_tune_37 hd hs hk)
      · have hs := if_t c hs
        refine go_iconst (v := 1) (by decide) dX7_tune_33 ?_
        refine go_goto (tgt := 38) (by decide) dX7_tune_34 ?_
        exact go_subL (L' := [some (.ref x0), some (.ref x1), some (.int x2)]) (by simp [subL, va_rf]) (oX7_tune_38 hd hs hk)
theorem oX7_tune {d : Nat} (hd : 2 ≤ d) {h : Hp} {x0 : Nat} {x1 : Nat} {x2 : Int32} {y : Hp} (hs : fX7_tune h x0 x1 x2 = some y) : Call d mX7_tune [.ref x0, .ref x1, .int x2] h (none) y := call_of (by decide +kernel) (Nat.le_of_ble_eq_true rfl) (show Go d mX7_tune 0 [some (.ref x0), some (.ref x1), some (.int x2)] [] h _ _ from go_subL (by simp [subL]) (oX7_tune_0 hd hs ⟨rfl, rfl⟩))
abbrev kX11_searching (rf : Option Value) (hf : Hp) : (Nat × Hp) → Prop := fun y => rf = some (.ref y.1) ∧ hf = y.2
noncomputable def fX11_searching (h : Hp) (x0 : Nat) : Option (Nat × Hp) :=
  (gN h 11 x0 14).bind fun v1 =>
  (gN h 11 x0 3).bind fun v2 =>
  (gN h 11 x0 4).bind fun v3 =>
  (gI h 8 v3 1).bind fun v4 =>
  gO h 7 v1 (
  (fX7_tune h v1 v2 v4).bind fun y5 =>
  (gN y5 11 x0 14).bind fun v7 =>
  some ((v7, y5)))
theorem oX11_searching_0 {d : Nat} (hd : 3 ≤ d) {h : Hp} {x0 : Nat} {rf : Option Value} {hf : Hp} {x : (Nat × Hp)} (hs : fX11_searching h x0 = some x) (hk : (kX11_searching rf hf) x) : Go d mX11_searching 0 [some (.ref x0)] [] h rf hf := by
  unfold fX11_searching at hs
  refine go_aload_n (k4 := 0) rfl (Or.inr ⟨_, rfl⟩) dX11_searching_0 ?_
  obtain ⟨v1, ev1, hs⟩ := bindS hs
  refine go_gN fl_RX11_97 ev1 dX11_searching_1 ?_
  refine go_aload_n (k4 := 0) rfl (Or.inr ⟨_, rfl⟩) dX11_searching_4 ?_
  obtain ⟨v2, ev2, hs⟩ := bindS hs
  refine go_gN fl_RX11_29 ev2 dX11_searching_5 ?_
  refine go_aload_n (k4 := 0) rfl (Or.inr ⟨_, rfl⟩) dX11_searching_8 ?_
  obtain ⟨v3, ev3, hs⟩ := bindS hs
  refine go_gN fl_RX11_36 ev3 dX11_searching_9 ?_
  obtain ⟨v4, ev4, hs⟩ := bindS hs
  refine go_gI fl_RX11_149 ev4 dX11_searching_12 ?_
  refine go_at 15 rfl ?_
  obtain ⟨g6, hs⟩ := gO_at hs
  obtain ⟨y5, ey5, hs⟩ := bindS hs
  refine go_V0 (As := [.ref v2, .int v4]) (st := []) g6 rfl rfl (oX7_tune (d := d - 1) (by omega) ey5) (by omega) mb_X7_tune lm_RX11_324 mi_X7_tune (Nat.le_of_ble_eq_true rfl) rfl dX11_searching_15 ?_
  refine go_aload_n (k4 := 0) rfl (Or.inr ⟨_, rfl⟩) dX11_searching_18 ?_
  obtain ⟨v7, ev7, hs⟩ := bindS hs
  refine go_gN fl_RX11_97 ev7 dX11_searching_19 ?_
  obtain rfl := Option.some.inj hs
  obtain ⟨rfl, rfl⟩ := hk
  exact go_aret rfl (Or.inl ⟨_, rfl⟩) (Or.inr ⟨_, rfl⟩) dX11_searching_22
theorem oX11_searching {d : Nat} (hd : 3 ≤ d) {h : Hp} {x0 : Nat} {y : (Nat × Hp)} (hs : fX11_searching h x0 = some y) : Call d mX11_searching [.ref x0] h (some (.ref y.1)) (y.2) := call_of (by decide +kernel) (Nat.le_of_ble_eq_true rfl) (show Go d mX11_searching 0 [some (.ref x0)] [] h _ _ from go_subL (by simp [subL]) (oX11_searching_0 hd hs ⟨rfl, rfl⟩))
abbrev kX7_begin (rf : Option Value) (hf : Hp) : Hp → Prop := fun y => rf = none ∧ hf = y
noncomputable def fX7_begin (h : Hp) (x0 : Nat) : Option Hp :=
  (sV h 7 x0 13 (.int (0 : Int32))).bind fun h1 =>
  (gI h1 7 x0 4).bind fun v2 =>
  (sV h1 7 x0 4 (.int (v2 + (1 : Int32)))).bind fun h3 =>
  (sV h3 7 x0 12 (.int (0 : Int32))).bind fun h4 =>
  some (h4)
theorem oX7_begin_0 {d : Nat} (hd : 0 ≤ d) {h : Hp} {x0 : Nat} {rf : Option Value} {hf : Hp} {x : Hp} (hs : fX7_begin h x0 = some x) (hk : (kX7_begin rf hf) x) : Go d mX7_begin 0 [some (.ref x0)] [] h rf hf := by
  unfold fX7_begin at hs
  refine go_aload_n (k4 := 0) rfl (Or.inr ⟨_, rfl⟩) dX7_begin_0 ?_
  refine go_iconst (v := 0) (by decide) dX7_begin_1 ?_
  obtain ⟨h1, eh1, hs⟩ := bindS hs
  refine go_sV fw_RX7_47 eh1 rfl rfl dX7_begin_2 ?_
  refine go_aload_n (k4 := 0) rfl (Or.inr ⟨_, rfl⟩) dX7_begin_5 ?_
  refine go_dup rfl dX7_begin_6 ?_
  obtain ⟨v2, ev2, hs⟩ := bindS hs
  refine go_gI fl_RX7_19 ev2 dX7_begin_7 ?_
  refine go_iconst (v := 1) (by decide) dX7_begin_10 ?_
  refine go_at 11 rfl ?_
  refine go_iadd dX7_begin_11 ?_
  obtain ⟨h3, eh3, hs⟩ := bindS hs
  refine go_sV fw_RX7_19 eh3 rfl rfl dX7_begin_12 ?_
  refine go_aload_n (k4 := 0) rfl (Or.inr ⟨_, rfl⟩) dX7_begin_15 ?_
  refine go_iconst (v := 0) (by decide) dX7_begin_16 ?_
  obtain ⟨h4, eh4, hs⟩ := bindS hs
  refine go_sV fw_RX7_44 eh4 rfl rfl dX7_begin_17 ?_
  obtain rfl := Option.some.inj hs
  obtain ⟨rfl, rfl⟩ := hk
  exact go_vret rfl dX7_begin_20
theorem oX7_begin {d : Nat} (hd : 0 ≤ d) {h : Hp} {x0 : Nat} {y : Hp} (hs : fX7_begin h x0 = some y) : Call d mX7_begin [.ref x0] h (none) y := call_of (by decide +kernel) (Nat.le_of_ble_eq_true rfl) (show Go d mX7_begin 0 [some (.ref x0)] [] h _ _ from go_subL (by simp [subL]) (oX7_begin_0 hd hs ⟨rfl, rfl⟩))
abbrev kX7_isState (h : Hp) (rf : Option Value) (hf : Hp) : Int32 → Prop := fun y => rf = some (.int y) ∧ hf = h
noncomputable def fX7_isState_16 (h : Hp) (s0 : Int32) : Option Int32 :=
  bl s0 (some (s0))
theorem oX7_isState_16 {d : Nat} (hd : 0 ≤ d) {h : Hp} {s0 : Int32} {rf : Option Value} {hf : Hp} {x : Int32} (hs : fX7_isState_16 h s0 = some x) (hk : (kX7_isState h rf hf) x) : Go d mX7_isState 16 [none] [.int s0] h rf hf := by
  unfold fX7_isState_16 at hs
  obtain ⟨n1, n2, hs⟩ := bl_at hs
  obtain rfl := Option.some.inj hs
  obtain ⟨rfl, rfl⟩ := hk
  exact go_zret (ty := .boolean) rfl n1 dX7_isState_16
noncomputable def fX7_isState_15 (h : Hp)  : Option Int32 :=
  fX7_isState_16 h (0 : Int32)
theorem oX7_isState_15 {d : Nat} (hd : 0 ≤ d) {h : Hp} {rf : Option Value} {hf : Hp} {x : Int32} (hs : fX7_isState_15 h  = some x) (hk : (kX7_isState h rf hf) x) : Go d mX7_isState 15 [none] [] h rf hf := by
  unfold fX7_isState_15 at hs
  refine go_iconst (v := 0) (by decide) dX7_isState_15 ?_
  exact go_subL (L' := [none]) (by simp [subL, va_rf]) (oX7_isState_16 hd hs hk)
noncomputable def fX7_isState (h : Hp) (x0 : Int32) : Option Int32 :=
  if x0 < 0 then (
  fX7_isState_15 h ) else (
    if (20000 : Int32) ≤ x0 then (
    fX7_isState_15 h ) else (
      fX7_isState_16 h (1 : Int32)))
theorem oX7_isState_0 {d : Nat} (hd : 0 ≤ d) {h : Hp} {x0 : Int32} {rf : Option Value} {hf : Hp} {x : Int32} (hs : fX7_isState h x0 = some x) (hk : (kX7_isState h rf hf) x) : Go d mX7_isState 0 [some (.int x0)] [] h rf hf := by
  unfold fX7_isState at hs
  refine go_iload_n (k4 := 0) rfl dX7_isState_0 ?_
  refine go_if_lt (tgt := 15) (by decide) dX7_isState_1 (fun c => ?_) (fun c => ?_)
  · have hs := if_t c hs
    exact go_subL (L' := [none]) (by simp [subL, va_rf]) (oX7_isState_15 hd hs hk)
  · have hs := if_f c hs
    refine go_iload_n (k4 := 0) rfl dX7_isState_4 ?_
    refine go_sipush (v := 20000) (by decide) dX7_isState_5 ?_
    refine go_icmp_ge (tgt := 15) (by decide) dX7_isState_8 (fun c => ?_) (fun c => ?_)
    · have hs := if_t c hs
      exact go_subL (L' := [none]) (by simp [subL, va_rf]) (oX7_isState_15 hd hs hk)
    · have hs := if_f c hs
      refine go_iconst (v := 1) (by decide) dX7_isState_11 ?_
      refine go_goto (tgt := 16) (by decide) dX7_isState_12 ?_
      exact go_subL (L' := [none]) (by simp [subL, va_rf]) (oX7_isState_16 hd hs hk)
theorem oX7_isState {d : Nat} (hd : 0 ≤ d) {h : Hp} {x0 : Int32} {y : Int32} (hs : fX7_isState h x0 = some y) : Call d mX7_isState [.int x0] h (some (.int y)) h := call_of (by decide +kernel) (Nat.le_of_ble_eq_true rfl) (show Go d mX7_isState 0 [some (.int x0)] [] h _ _ from go_subL (by simp [subL]) (oX7_isState_0 hd hs ⟨rfl, rfl⟩))
abbrev kX7_reach (rf : Option Value) (hf : Hp) : Hp → Prop := fun y => rf = none ∧ hf = y
noncomputable def fX7_reach_61 (h : Hp)  : Option Hp :=
  some (h)
theorem oX7_reach_61 {d : Nat} (hd : 1 ≤ d) {h : Hp} {rf : Option Value} {hf : Hp} {x : Hp} (hs : fX7_reach_61 h  = some x) (hk : (kX7_reach rf hf) x) : Go d mX7_reach 61 [none, none, none] [] h rf hf := by
  unfold fX7_reach_61 at hs
  obtain rfl := Option.some.inj hs
  obtain ⟨rfl, rfl⟩ := hk
  exact go_vret rfl dX7_reach_61
noncomputable def fX7_reach (h : Hp) (x0 : Nat) (x1 : Int32) (x2 : Int32) : Option Hp :=
  (fX7_isState h x1).bind fun y1 =>
  if y1 = 0 then (
  fX7_reach_61 h ) else (
    (gI h 7 x0 12).bind fun v2 =>
    if (20000 : Int32) ≤ v2 then (
    fX7_reach_61 h ) else (
      (gN h 7 x0 3).bind fun v3 =>
      (gI h 7 x0 4).bind fun v4 =>
      (wI 0 h v3 x1 v4).bind fun h5 =>
      (gN h5 7 x0 6).bind fun v6 =>
      (wI 0 h5 v6 x1 x2).bind fun h7 =>
      (gN h7 7 x0 7).bind fun v8 =>
      (wI 0 h7 v8 x1 (0 : Int32)).bind fun h9 =>
      (gN h9 7 x0 5).bind fun v10 =>
      (gI h9 7 x0 12).bind fun v11 =>
      (wI 0 h9 v10 v11 x1).bind fun h12 =>
      (gI h12 7 x0 12).bind fun v13 =>
      (sV h12 7 x0 12 (.int (v13 + (1 : Int32)))).bind fun h14 =>
      fX7_reach_61 h14 ))
theorem oX7_reach_0 {d : Nat} (hd : 1 ≤ d) {h : Hp} {x0 : Nat} {x1 : Int32} {x2 : Int32} {rf : Option Value} {hf : Hp} {x : Hp} (hs : fX7_reach h x0 x1 x2 = some x) (hk : (kX7_reach rf hf) x) : Go d mX7_reach 0 [some (.ref x0), some (.int x1), some (.int x2)] [] h rf hf := by
  unfold fX7_reach at hs
  refine go_iload_n (k4 := 1) rfl dX7_reach_0 ?_
  obtain ⟨y1, ey1, hs⟩ := bindS hs
  refine go_S1 (As := [.int x1]) (st := []) (oX7_isState (d := d - 1) (by omega) ey1) (by omega) mb_X7_isState lm_RX7_74 ms_X7_isState (Nat.le_of_ble_eq_true rfl) rfl dX7_reach_1 ?_
  refine go_if_eq (tgt := 61) (by decide) dX7_reach_4 (fun c => ?_) (fun c => ?_)
  · have hs := if_t c hs
    exact go_subL (L' := [none, none, none]) (by simp [subL, va_rf]) (oX7_reach_61 hd hs hk)
  · have hs := if_f c hs
    refine go_aload_n (k4 := 0) rfl (Or.inr ⟨_, rfl⟩) dX7_reach_7 ?_
    obtain ⟨v2, ev2, hs⟩ := bindS hs
    refine go_gI fl_RX7_44 ev2 dX7_reach_8 ?_
    refine go_sipush (v := 20000) (by decide) dX7_reach_11 ?_
    refine go_icmp_ge (tgt := 61) (by decide) dX7_reach_14 (fun c => ?_) (fun c => ?_)
    · have hs := if_t c hs
      exact go_subL (L' := [none, none, none]) (by simp [subL, va_rf]) (oX7_reach_61 hd hs hk)
    · have hs := if_f c hs
      refine go_aload_n (k4 := 0) rfl (Or.inr ⟨_, rfl⟩) dX7_reach_17 ?_
      obtain ⟨v3, ev3, hs⟩ := bindS hs
      refine go_gN fl_RX7_15 ev3 dX7_reach_18 ?_
      refine go_iload_n (k4 := 1) rfl dX7_reach_21 ?_
      refine go_aload_n (k4 := 0) rfl (Or.inr ⟨_, rfl⟩) dX7_reach_22 ?_
      obtain ⟨v4, ev4, hs⟩ := bindS hs
      refine go_gI fl_RX7_19 ev4 dX7_reach_23 ?_
      obtain ⟨h5, eh5, hs⟩ := bindS hs
      refine go_wIi eh5 dX7_reach_26 ?_
      refine go_aload_n (k4 := 0) rfl (Or.inr ⟨_, rfl⟩) dX7_reach_27 ?_
      refine go_at 28 rfl ?_
      obtain ⟨v6, ev6, hs⟩ := bindS hs
      refine go_gN fl_RX7_25 ev6 dX7_reach_28 ?_
      refine go_iload_n (k4 := 1) rfl dX7_reach_31 ?_
      refine go_iload_n (k4 := 2) rfl dX7_reach_32 ?_
      obtain ⟨h7, eh7, hs⟩ := bindS hs
      refine go_wIi eh7 dX7_reach_33 ?_
      refine go_aload_n (k4 := 0) rfl (Or.inr ⟨_, rfl⟩) dX7_reach_34 ?_
      obtain ⟨v8, ev8, hs⟩ := bindS hs
      refine go_gN fl_RX7_28 ev8 dX7_reach_35 ?_
      refine go_iload_n (k4 := 1) rfl dX7_reach_38 ?_
      refine go_iconst (v := 0) (by decide) dX7_reach_39 ?_
      refine go_at 40 rfl ?_
      obtain ⟨h9, eh9, hs⟩ := bindS hs
      refine go_wIi eh9 dX7_reach_40 ?_
      refine go_aload_n (k4 := 0) rfl (Or.inr ⟨_, rfl⟩) dX7_reach_41 ?_
      obtain ⟨v10, ev10, hs⟩ := bindS hs
      refine go_gN fl_RX7_22 ev10 dX7_reach_42 ?_
      refine go_aload_n (k4 := 0) rfl (Or.inr ⟨_, rfl⟩) dX7_reach_45 ?_
      obtain ⟨v11, ev11, hs⟩ := bindS hs
      refine go_gI fl_RX7_44 ev11 dX7_reach_46 ?_
      refine go_iload_n (k4 := 1) rfl dX7_reach_49 ?_
      obtain ⟨h12, eh12, hs⟩ := bindS hs
      refine go_wIi eh12 dX7_reach_50 ?_
      refine go_aload_n (k4 := 0) rfl (Or.inr ⟨_, rfl⟩) dX7_reach_51 ?_
      refine go_at 52 rfl ?_
      refine go_dup rfl dX7_reach_52 ?_
      obtain ⟨v13, ev13, hs⟩ := bindS hs
      refine go_gI fl_RX7_44 ev13 dX7_reach_53 ?_
      refine go_iconst (v := 1) (by decide) dX7_reach_56 ?_
      refine go_iadd dX7_reach_57 ?_
      obtain ⟨h14, eh14, hs⟩ := bindS hs
      refine go_sV fw_RX7_44 eh14 rfl rfl dX7_reach_58 ?_
      exact go_subL (L' := [none, none, none]) (by simp [subL, va_rf]) (oX7_reach_61 hd hs hk)
theorem oX7_reach {d : Nat} (hd : 1 ≤ d) {h : Hp} {x0 : Nat} {x1 : Int32} {x2 : Int32} {y : Hp} (hs : fX7_reach h x0 x1 x2 = some y) : Call d mX7_reach [.ref x0, .int x1, .int x2] h (none) y := call_of (by decide +kernel) (Nat.le_of_ble_eq_true rfl) (show Go d mX7_reach 0 [some (.ref x0), some (.int x1), some (.int x2)] [] h _ _ from go_subL (by simp [subL]) (oX7_reach_0 hd hs ⟨rfl, rfl⟩))
abbrev kX7_isGoal (h : Hp) (rf : Option Value) (hf : Hp) : Int32 → Prop := fun y => rf = some (.int y) ∧ hf = h
noncomputable def fX7_isGoal_41 (h : Hp) (s0 : Int32) : Option Int32 :=
  bl s0 (some (s0))
theorem oX7_isGoal_41 {d : Nat} (hd : 2 ≤ d) {h : Hp} {s0 : Int32} {rf : Option Value} {hf : Hp} {x : Int32} (hs : fX7_isGoal_41 h s0 = some x) (hk : (kX7_isGoal h rf hf) x) : Go d mX7_isGoal 41 [none, none, none] [.int s0] h rf hf := by
  unfold fX7_isGoal_41 at hs
  obtain ⟨n1, n2, hs⟩ := bl_at hs
  obtain rfl := Option.some.inj hs
  obtain ⟨rfl, rfl⟩ := hk
  exact go_zret (ty := .boolean) rfl n1 dX7_isGoal_41
noncomputable def fX7_isGoal_40 (h : Hp)  : Option Int32 :=
  fX7_isGoal_41 h (0 : Int32)
theorem oX7_isGoal_40 {d : Nat} (hd : 2 ≤ d) {h : Hp} {rf : Option Value} {hf : Hp} {x : Int32} (hs : fX7_isGoal_40 h  = some x) (hk : (kX7_isGoal h rf hf) x) : Go d mX7_isGoal 40 [none, none, none] [] h rf hf := by
  unfold fX7_isGoal_40 at hs
  refine go_iconst (v := 0) (by decide) dX7_isGoal_40 ?_
  exact go_subL (L' := [none, none, none]) (by simp [subL, va_rf]) (oX7_isGoal_41 hd hs hk)
noncomputable def fX7_isGoal_23 (h : Hp) (s0 : Int32) : Option Int32 :=
  bl s0 (some (s0))
theorem oX7_isGoal_23 {d : Nat} (hd : 2 ≤ d) {h : Hp} {s0 : Int32} {rf : Option Value} {hf : Hp} {x : Int32} (hs : fX7_isGoal_23 h s0 = some x) (hk : (kX7_isGoal h rf hf) x) : Go d mX7_isGoal 23 [none, none, none] [.int s0] h rf hf := by
  unfold fX7_isGoal_23 at hs
  obtain ⟨n1, n2, hs⟩ := bl_at hs
  obtain rfl := Option.some.inj hs
  obtain ⟨rfl, rfl⟩ := hk
  exact go_zret (ty := .boolean) rfl n1 dX7_isGoal_23
noncomputable def fX7_isGoal (h : Hp) (x0 : Nat) (x1 : Int32) (x2 : Int32) : Option Int32 :=
  if x2 < 0 then (
    if x2 = (-1 : Int32) then (
      if x1 < (10000 : Int32) then (
      fX7_isGoal_40 h ) else (
        fX7_isGoal_41 h (1 : Int32))) else (
    fX7_isGoal_40 h )) else (
    (gN h 7 x0 1).bind fun v1 =>
    gO h 0 v1 (
    (fX0_metBits h v1 x1).bind fun y2 =>
    if (y2 &&& x2) = x2 then (
      fX7_isGoal_23 h (1 : Int32)) else (
      fX7_isGoal_23 h (0 : Int32))))
theorem oX7_isGoal_0 {d : Nat} (hd : 2 ≤ d) {h : Hp} {x0 : Nat} {x1 : Int32} {x2 : Int32} {rf : Option Value} {hf : Hp} {x : Int32} (hs : fX7_isGoal h x0 x1 x2 = some x) (hk : (kX7_isGoal h rf hf) x) : Go d mX7_isGoal 0 [some (.ref x0), some (.int x1), some (.int x2)] [] h rf hf := by
  unfold fX7_isGoal at hs
  refine go_iload_n (k4 := 2) rfl dX7_isGoal_0 ?_
  refine go_if_lt (tgt := 24) (by decide) dX7_isGoal_1 (fun c => ?_) (fun c => ?_)
  · have hs := if_t c hs
    refine go_iload_n (k4 := 2) rfl dX7_isGoal_24 ?_
    refine go_iconst (v := -1) (by decide) dX7_isGoal_25 ?_
    refine go_icmp_ne (tgt := 40) (by decide) dX7_isGoal_26 (fun c => ?_) (fun c => ?_)
    · have hs := if_f c hs
      exact go_subL (L' := [none, none, none]) (by simp [subL, va_rf]) (oX7_isGoal_40 hd hs hk)
    · have hs := if_t c hs
      refine go_iload_n (k4 := 1) rfl dX7_isGoal_29 ?_
      refine go_sipush (v := 10000) (by decide) dX7_isGoal_30 ?_
      refine go_icmp_lt (tgt := 40) (by decide) dX7_isGoal_33 (fun c => ?_) (fun c => ?_)
      · have hs := if_t c hs
        exact go_subL (L' := [none, none, none]) (by simp [subL, va_rf]) (oX7_isGoal_40 hd hs hk)
      · have hs := if_f c hs
        refine go_iconst (v := 1) (by decide) dX7_isGoal_36 ?_
        refine go_goto (tgt := 41) (by decide) dX7_isGoal_37 ?_
        exact go_subL (L' := [none, none, none]) (by simp [subL, va_rf]) (oX7_isGoal_41 hd hs hk)
  · have hs := if_f c hs
    refine go_aload_n (k4 := 0) rfl (Or.inr ⟨_, rfl⟩) dX7_isGoal_4 ?_
    obtain ⟨v1, ev1, hs⟩ := bindS hs
    refine go_gN fl_RX7_64 ev1 dX7_isGoal_5 ?_
    refine go_iload_n (k4 := 1) rfl dX7_isGoal_8 ?_
    obtain ⟨g3, hs⟩ := gO_at hs
    obtain ⟨y2, ey2, hs⟩ := bindS hs
    refine go_V1 (As := [.int x1]) (st := []) g3 rfl rfl (oX0_metBits (d := d - 1) (by omega) ey2) (by omega) mb_X0_metBits lm_RX7_78 mi_X0_metBits (Nat.le_of_ble_eq_true rfl) rfl dX7_isGoal_9 ?_
    refine go_iload_n (k4 := 2) rfl dX7_isGoal_12 ?_
    refine go_iand dX7_isGoal_13 ?_
    refine go_iload_n (k4 := 2) rfl dX7_isGoal_14 ?_
    refine go_at 15 rfl ?_
    refine go_icmp_ne (tgt := 22) (by decide) dX7_isGoal_15 (fun c => ?_) (fun c => ?_)
    · have hs := if_f c hs
      refine go_iconst (v := 0) (by decide) dX7_isGoal_22 ?_
      exact go_subL (L' := [none, none, none]) (by simp [subL, va_rf]) (oX7_isGoal_23 hd hs hk)
    · have hs := if_t c hs
      refine go_iconst (v := 1) (by decide) dX7_isGoal_18 ?_
      refine go_goto (tgt := 23) (by decide) dX7_isGoal_19 ?_
      exact go_subL (L' := [none, none, none]) (by simp [subL, va_rf]) (oX7_isGoal_23 hd hs hk)
theorem oX7_isGoal {d : Nat} (hd : 2 ≤ d) {h : Hp} {x0 : Nat} {x1 : Int32} {x2 : Int32} {y : Int32} (hs : fX7_isGoal h x0 x1 x2 = some y) : Call d mX7_isGoal [.ref x0, .int x1, .int x2] h (some (.int y)) h := call_of (by decide +kernel) (Nat.le_of_ble_eq_true rfl) (show Go d mX7_isGoal 0 [some (.ref x0), some (.int x1), some (.int x2)] [] h _ _ from go_subL (by simp [subL]) (oX7_isGoal_0 hd hs ⟨rfl, rfl⟩))
abbrev kX1_spread (rf : Option Value) (hf : Hp) : Hp → Prop := fun y => rf = none ∧ hf = y
abbrev pX1_spread_27 (d : Nat) (x0 : Nat) (x1 : Int32) (x2 : Int32) (x3 : Nat) (x4 : Int32) (rf : Option Value) (hf : Hp) : (Int32 × Hp) → Prop := fun s => Go d mX1_spread 27 [some (.ref x0), some (.int x1), some (.int x2), some (.ref x3), some (.int x4), some (.int s.1), none, none, none, none] [] s.2 rf hf
abbrev pX1_spread_154 (d : Nat) (x0 : Nat) (x2 : Int32) (x3 : Nat) (x5 : Nat) (x6 : Int32) (rf : Option Value) (hf : Hp) : (Int32 × Hp) → Prop := fun s => Go d mX1_spread 154 [some (.ref x0), none, some (.int x2), some (.ref x3), none, some (.ref x5), some (.int x6), some (.int s.1), none, none] [] s.2 rf hf
abbrev pX1_spread_176 (d : Nat) (h : Hp) (x0 : Nat) (x2 : Int32) (x3 : Nat) (x5 : Nat) (x6 : Int32) (x7 : Int32) (rf : Option Value) (hf : Hp) : (Int32 × Int32) → Prop := fun s => Go d mX1_spread 176 [some (.ref x0), none, some (.int x2), some (.ref x3), none, some (.ref x5), some (.int x6), some (.int x7), some (.int s.1), some (.int s.2)] [] h rf hf
noncomputable def fX1_spread_243 (h : Hp) (x0 : Nat) (x2 : Int32) (x3 : Nat) (x5 : Nat) (x6 : Int32) (x7 : Int32) (s0 : Nat) (s1 : Int32) (s2 : Int32) : Option ((Int32 × Hp) ⊕ Hp) :=
  (wI 0 h s0 s1 s2).bind fun h20 =>
  some (.inl ((x7 + Int32.ofInt 1), h20))
theorem oX1_spread_243 {d : Nat} (hd : 3 ≤ d) {h : Hp} {x0 : Nat} {x2 : Int32} {x3 : Nat} {x5 : Nat} {x6 : Int32} {x7 : Int32} {s0 : Nat} {s1 : Int32} {s2 : Int32} {rf : Option Value} {hf : Hp} {x : ((Int32 × Hp) ⊕ Hp)} (hs : fX1_spread_243 h x0 x2 x3 x5 x6 x7 s0 s1 s2 = some x) (hk : (Kx (pX1_spread_154 d x0 x2 x3 x5 x6 rf hf) (kX1_spread rf hf)) x) : Go d mX1_spread 243 [some (.ref x0), none, some (.int x2), some (.ref x3), none, some (.ref x5), some (.int x6), some (.int x7), none, none] [.int s2, .int s1, .ref s0] h rf hf := by
  unfold fX1_spread_243 at hs
  obtain ⟨h20, eh20, hs⟩ := bindS hs
  refine go_wIi eh20 dX1_spread_243 ?_
  refine go_iinc (L' := [some (.ref x0), none, some (.int x2), some (.ref x3), none, some (.ref x5), some (.int x6), some (.int (x7 + Int32.ofInt 1)), none, none]) rfl (by decide) rfl rfl dX1_spread_244 ?_
  refine go_goto (tgt := 154) (by decide) dX1_spread_247 ?_
  obtain rfl := Option.some.inj hs
  exact go_subL (L' := [some (.ref x0), none, some (.int x2), some (.ref x3), none, some (.ref x5), some (.int x6), some (.int (x7 + Int32.ofInt 1)), none, none]) (by simp [subL, va_rf]) hk
noncomputable def fX1_spread_241 (h : Hp) (x0 : Nat) (x2 : Int32) (x3 : Nat) (x5 : Nat) (x6 : Int32) (x7 : Int32) (x8 : Int32) (s0 : Nat) (s1 : Int32) : Option ((Int32 × Hp) ⊕ Hp) :=
  fX1_spread_243 h x0 x2 x3 x5 x6 x7 s0 s1 x8
theorem oX1_spread_241 {d : Nat} (hd : 3 ≤ d) {h : Hp} {x0 : Nat} {x2 : Int32} {x3 : Nat} {x5 : Nat} {x6 : Int32} {x7 : Int32} {x8 : Int32} {s0 : Nat} {s1 : Int32} {rf : Option Value} {hf : Hp} {x : ((Int32 × Hp) ⊕ Hp)} (hs : fX1_spread_241 h x0 x2 x3 x5 x6 x7 x8 s0 s1 = some x) (hk : (Kx (pX1_spread_154 d x0 x2 x3 x5 x6 rf hf) (kX1_spread rf hf)) x) : Go d mX1_spread 241 [some (.ref x0), none, some (.int x2), some (.ref x3), none, some (.ref x5), some (.int x6), some (.int x7), some (.int x8), none] [.int s1, .ref s0] h rf hf := by
  unfold fX1_spread_241 at hs
  refine go_iload rfl dX1_spread_241 ?_
  exact go_subL (L' := [some (.ref x0), none, some (.int x2), some (.ref x3), none, some (.ref x5), some (.int x6), some (.int x7), none, none]) (by simp [subL, va_rf]) (oX1_spread_243 hd hs hk)
noncomputable def fX1_spread_214 (h : Hp) (x0 : Nat) (x2 : Int32) (x3 : Nat) (x5 : Nat) (x6 : Int32) (x7 : Int32) (x8 : Int32) : Option ((Int32 × Hp) ⊕ Hp) :=
  if x6 = 0 then (
  fX1_spread_241 h x0 x2 x3 x5 x6 x7 x8 x3 x7) else (
    gO h 1 x0 (
    (fX1_collapses h x0 x8 x2).bind fun y21 =>
    if y21.1 = 0 then (
    fX1_spread_241 y21.2 x0 x2 x3 x5 x6 x7 x8 x3 x7) else (
      fX1_spread_243 y21.2 x0 x2 x3 x5 x6 x7 x3 x7 (x8 + (10000 : Int32)))))
theorem oX1_spread_214 {d : Nat} (hd : 3 ≤ d) {h : Hp} {x0 : Nat} {x2 : Int32} {x3 : Nat} {x5 : Nat} {x6 : Int32} {x7 : Int32} {x8 : Int32} {rf : Option Value} {hf : Hp} {x : ((Int32 × Hp) ⊕ Hp)} (hs : fX1_spread_214 h x0 x2 x3 x5 x6 x7 x8 = some x) (hk : (Kx (pX1_spread_154 d x0 x2 x3 x5 x6 rf hf) (kX1_spread rf hf)) x) : Go d mX1_spread 214 [some (.ref x0), none, some (.int x2), some (.ref x3), none, some (.ref x5), some (.int x6), some (.int x7), some (.int x8), none] [] h rf hf := by
  unfold fX1_spread_214 at hs
  refine go_aload_n (k4 := 3) rfl (Or.inr ⟨_, rfl⟩) dX1_spread_214 ?_
  refine go_iload rfl dX1_spread_215 ?_
  refine go_iload rfl dX1_spread_217 ?_
  refine go_if_eq (tgt := 241) (by decide) dX1_spread_219 (fun c => ?_) (fun c => ?_)
  · have hs := if_t c hs
    exact go_subL (L' := [some (.ref x0), none, some (.int x2), some (.ref x3), none, some (.ref x5), some (.int x6), some (.int x7), some (.int x8), none]) (by simp [subL, va_rf]) (oX1_spread_241 hd hs hk)
  · have hs := if_f c hs
    refine go_aload_n (k4 := 0) rfl (Or.inr ⟨_, rfl⟩) dX1_spread_222 ?_
    refine go_iload rfl dX1_spread_223 ?_
    refine go_iload_n (k4 := 2) rfl dX1_spread_225 ?_
    obtain ⟨g22, hs⟩ := gO_at hs
    obtain ⟨y21, ey21, hs⟩ := bindS hs
    refine go_V1 (As := [.int x8, .int x2]) (st := [.int x7, .ref x3]) g22 rfl rfl (oX1_collapses (d := d - 1) (by omega) ey21) (by omega) mb_X1_collapses lm_RX1_102 mi_X1_collapses (Nat.le_of_ble_eq_true rfl) rfl dX1_spread_226 ?_
    refine go_if_eq (tgt := 241) (by decide) dX1_spread_229 (fun c => ?_) (fun c => ?_)
    · have hs := if_t c hs
      exact go_subL (L' := [some (.ref x0), none, some (.int x2), some (.ref x3), none, some (.ref x5), some (.int x6), some (.int x7), some (.int x8), none]) (by simp [subL, va_rf]) (oX1_spread_241 hd hs hk)
    · have hs := if_f c hs
      refine go_iload rfl dX1_spread_232 ?_
      refine go_sipush (v := 10000) (by decide) dX1_spread_234 ?_
      refine go_iadd dX1_spread_237 ?_
      refine go_goto (tgt := 243) (by decide) dX1_spread_238 ?_
      exact go_subL (L' := [some (.ref x0), none, some (.int x2), some (.ref x3), none, some (.ref x5), some (.int x6), some (.int x7), none, none]) (by simp [subL, va_rf]) (oX1_spread_243 hd hs hk)
noncomputable def fX1_spread_176b (h : Hp) (x0 : Nat) (x2 : Int32) (x3 : Nat) (x5 : Nat) (x6 : Int32) (x7 : Int32) (x8 : Int32) (x9 : Int32) : Option ((Int32 × Int32) ⊕ ((Int32 × Hp) ⊕ Hp)) :=
  (gN h 1 x0 5).bind fun v18 =>
  (gI h 0 v18 0).bind fun v19 =>
  if ((x7 * (4 : Int32)) + v19) ≤ x9 then (
  (fX1_spread_214 h x0 x2 x3 x5 x6 x7 x8).map (fun q => .inr q)) else (
    (gN h 1 x0 4).bind fun v23 =>
    (aI 0 h x5 x9).bind fun v24 =>
    (aI 0 h v23 v24).bind fun v25 =>
    some (.inl ((x8 + v25), (x9 + Int32.ofInt 1))))
noncomputable def fX1_spread_176 (h : Hp) (x0 : Nat) (x2 : Int32) (x3 : Nat) (x5 : Nat) (x6 : Int32) (x7 : Int32) (x8 : Int32) (x9 : Int32) : Option ((Int32 × Hp) ⊕ Hp) := lpw (σ := (Int32 × Int32)) (fun s => fX1_spread_176b h x0 x2 x3 x5 x6 x7 s.1 s.2) (x8, x9)
theorem oX1_spread_176b {d : Nat} (hd : 3 ≤ d) {h : Hp} {x0 : Nat} {x2 : Int32} {x3 : Nat} {x5 : Nat} {x6 : Int32} {x7 : Int32} {x8 : Int32} {x9 : Int32} {rf : Option Value} {hf : Hp} {x : ((Int32 × Int32) ⊕ ((Int32 × Hp) ⊕ Hp))} (hs : fX1_spread_176b h x0 x2 x3 x5 x6 x7 x8 x9 = some x) (hk : (Kx (pX1_spread_176 d h x0 x2 x3 x5 x6 x7 rf hf) (Kx (pX1_spread_154 d x0 x2 x3 x5 x6 rf hf) (kX1_spread rf hf))) x) : Go d mX1_spread 176 [some (.ref x0), none, some (.int x2), some (.ref x3), none, some (.ref x5), some (.int x6), some (.int x7), some (.int x8), some (.int x9)] [] h rf hf := by
  unfold fX1_spread_176b at hs
  refine go_iload rfl dX1_spread_176 ?_
  refine go_iload rfl dX1_spread_178 ?_
  refine go_iconst (v := 4) (by decide) dX1_spread_180 ?_
  refine go_imul dX1_spread_181 ?_
  refine go_aload_n (k4 := 0) rfl (Or.inr ⟨_, rfl⟩) dX1_spread_182 ?_
  obtain ⟨v18, ev18, hs⟩ := bindS hs
  refine go_gN fl_RX1_34 ev18 dX1_spread_183 ?_
  obtain ⟨v19, ev19, hs⟩ := bindS hs
  refine go_gI fl_RX1_86 ev19 dX1_spread_186 ?_
  refine go_at 189 rfl ?_
  refine go_iadd dX1_spread_189 ?_
  refine go_icmp_ge (tgt := 214) (by decide) dX1_spread_190 (fun c => ?_) (fun c => ?_)
  · have hs := if_t c hs
    obtain ⟨q, hs2, hq⟩ := mapS hs
    clear hs
    subst hq
    exact go_subL (L' := [some (.ref x0), none, some (.int x2), some (.ref x3), none, some (.ref x5), some (.int x6), some (.int x7), some (.int x8), none]) (by simp [subL, va_rf]) (oX1_spread_214 hd hs2 hk)
  · have hs := if_f c hs
    refine go_iload rfl dX1_spread_193 ?_
    refine go_aload_n (k4 := 0) rfl (Or.inr ⟨_, rfl⟩) dX1_spread_195 ?_
    obtain ⟨v23, ev23, hs⟩ := bindS hs
    refine go_gN fl_RX1_27 ev23 dX1_spread_196 ?_
    refine go_aload rfl (Or.inr ⟨_, rfl⟩) dX1_spread_199 ?_
    refine go_iload rfl dX1_spread_201 ?_
    obtain ⟨v24, ev24, hs⟩ := bindS hs
    refine go_aIi ev24 dX1_spread_203 ?_
    obtain ⟨v25, ev25, hs⟩ := bindS hs
    refine go_aIi ev25 dX1_spread_204 ?_
    refine go_at 205 rfl ?_
    refine go_iadd dX1_spread_205 ?_
    refine go_istore (L' := [some (.ref x0), none, some (.int x2), some (.ref x3), none, some (.ref x5), some (.int x6), some (.int x7), some (.int (x8 + v25)), some (.int x9)]) (by decide) rfl dX1_spread_206 ?_
    refine go_iinc (L' := [some (.ref x0), none, some (.int x2), some (.ref x3), none, some (.ref x5), some (.int x6), some (.int x7), some (.int (x8 + v25)), some (.int (x9 + Int32.ofInt 1))]) rfl (by decide) rfl rfl dX1_spread_208 ?_
    refine go_goto (tgt := 176) (by decide) dX1_spread_211 ?_
    obtain rfl := Option.some.inj hs
    exact go_subL (L' := [some (.ref x0), none, some (.int x2), some (.ref x3), none, some (.ref x5), some (.int x6), some (.int x7), some (.int (x8 + v25)), some (.int (x9 + Int32.ofInt 1))]) (by simp [subL, va_rf]) hk
theorem oX1_spread_176 {d : Nat} (hd : 3 ≤ d) {h : Hp} {x0 : Nat} {x2 : Int32} {x3 : Nat} {x5 : Nat} {x6 : Int32} {x7 : Int32} {x8 : Int32} {x9 : Int32} {rf : Option Value} {hf : Hp} {x : ((Int32 × Hp) ⊕ Hp)} (hs : fX1_spread_176 h x0 x2 x3 x5 x6 x7 x8 x9 = some x) (hk : (Kx (pX1_spread_154 d x0 x2 x3 x5 x6 rf hf) (kX1_spread rf hf)) x) : Go d mX1_spread 176 [some (.ref x0), none, some (.int x2), some (.ref x3), none, some (.ref x5), some (.int x6), some (.int x7), some (.int x8), some (.int x9)] [] h rf hf := by
  unfold fX1_spread_176 at hs
  exact lpw_go (P := pX1_spread_176 d h x0 x2 x3 x5 x6 x7 rf hf) (fun s x hs hk => oX1_spread_176b hd hs hk) (x8, x9) x hs hk
noncomputable def fX1_spread_154b (h : Hp) (x0 : Nat) (x2 : Int32) (x3 : Nat) (x5 : Nat) (x6 : Int32) (x7 : Int32) : Option ((Int32 × Hp) ⊕ Hp) :=
  (gN h 1 x0 5).bind fun v15 =>
  (gN h 0 v15 9).bind fun v16 =>
  (aL h v16).bind fun v17 =>
  if v17 ≤ x7 then (
    some (.inr h)) else (
    fX1_spread_176 h x0 x2 x3 x5 x6 x7 (0 : Int32) (x7 * (4 : Int32)))
noncomputable def fX1_spread_154 (h : Hp) (x0 : Nat) (x2 : Int32) (x3 : Nat) (x5 : Nat) (x6 : Int32) (x7 : Int32) : Option Hp := lpw (σ := (Int32 × Hp)) (fun s => fX1_spread_154b s.2 x0 x2 x3 x5 x6 s.1) (x7, h)
theorem oX1_spread_154b {d : Nat} (hd : 3 ≤ d) {h : Hp} {x0 : Nat} {x2 : Int32} {x3 : Nat} {x5 : Nat} {x6 : Int32} {x7 : Int32} {rf : Option Value} {hf : Hp} {x : ((Int32 × Hp) ⊕ Hp)} (hs : fX1_spread_154b h x0 x2 x3 x5 x6 x7 = some x) (hk : (Kx (pX1_spread_154 d x0 x2 x3 x5 x6 rf hf) (kX1_spread rf hf)) x) : Go d mX1_spread 154 [some (.ref x0), none, some (.int x2), some (.ref x3), none, some (.ref x5), some (.int x6), some (.int x7), none, none] [] h rf hf := by
  unfold fX1_spread_154b at hs
  refine go_iload rfl dX1_spread_154 ?_
  refine go_aload_n (k4 := 0) rfl (Or.inr ⟨_, rfl⟩) dX1_spread_156 ?_
  obtain ⟨v15, ev15, hs⟩ := bindS hs
  refine go_gN fl_RX1_34 ev15 dX1_spread_157 ?_
  obtain ⟨v16, ev16, hs⟩ := bindS hs
  refine go_gN fl_RX1_106 ev16 dX1_spread_160 ?_
  obtain ⟨v17, ev17, hs⟩ := bindS hs
  refine go_aL ev17 dX1_spread_163 ?_
  refine go_icmp_ge (tgt := 250) (by decide) dX1_spread_164 (fun c => ?_) (fun c => ?_)
  · have hs := if_t c hs
    obtain rfl := Option.some.inj hs
    obtain ⟨rfl, rfl⟩ := hk
    exact go_vret rfl dX1_spread_250
  · have hs := if_f c hs
    refine go_iconst (v := 0) (by decide) dX1_spread_167 ?_
    refine go_istore (L' := [some (.ref x0), none, some (.int x2), some (.ref x3), none, some (.ref x5), some (.int x6), some (.int x7), some (.int (0 : Int32)), none]) (by decide) rfl dX1_spread_168 ?_
    refine go_iload rfl dX1_spread_170 ?_
    refine go_iconst (v := 4) (by decide) dX1_spread_172 ?_
    refine go_imul dX1_spread_173 ?_
    refine go_istore (L' := [some (.ref x0), none, some (.int x2), some (.ref x3), none, some (.ref x5), some (.int x6), some (.int x7), some (.int (0 : Int32)), some (.int (x7 * (4 : Int32)))]) (by decide) rfl dX1_spread_174 ?_
    exact go_subL (L' := [some (.ref x0), none, some (.int x2), some (.ref x3), none, some (.ref x5), some (.int x6), some (.int x7), some (.int (0 : Int32)), some (.int (x7 * (4 : Int32)))]) (by simp [subL, va_rf]) (oX1_spread_176 hd hs hk)
theorem oX1_spread_154 {d : Nat} (hd : 3 ≤ d) {h : Hp} {x0 : Nat} {x2 : Int32} {x3 : Nat} {x5 : Nat} {x6 : Int32} {x7 : Int32} {rf : Option Value} {hf : Hp} {x : Hp} (hs : fX1_spread_154 h x0 x2 x3 x5 x6 x7 = some x) (hk : (kX1_spread rf hf) x) : Go d mX1_spread 154 [some (.ref x0), none, some (.int x2), some (.ref x3), none, some (.ref x5), some (.int x6), some (.int x7), none, none] [] h rf hf := by
  unfold fX1_spread_154 at hs
  exact lpw_go (P := pX1_spread_154 d x0 x2 x3 x5 x6 rf hf) (fun s x hs hk => oX1_spread_154b hd hs hk) (x7, h) x hs hk
noncomputable def fX1_spread_149 (h : Hp) (x0 : Nat) (x2 : Int32) (x3 : Nat) (x5 : Nat) (s0 : Int32) : Option Hp :=
  fX1_spread_154 h x0 x2 x3 x5 s0 (0 : Int32)
theorem oX1_spread_149 {d : Nat} (hd : 3 ≤ d) {h : Hp} {x0 : Nat} {x2 : Int32} {x3 : Nat} {x5 : Nat} {s0 : Int32} {rf : Option Value} {hf : Hp} {x : Hp} (hs : fX1_spread_149 h x0 x2 x3 x5 s0 = some x) (hk : (kX1_spread rf hf) x) : Go d mX1_spread 149 [some (.ref x0), none, some (.int x2), some (.ref x3), none, some (.ref x5), none, none, none, none] [.int s0] h rf hf := by
  unfold fX1_spread_149 at hs
  refine go_istore (L' := [some (.ref x0), none, some (.int x2), some (.ref x3), none, some (.ref x5), some (.int s0), none, none, none]) (by decide) rfl dX1_spread_149 ?_
  refine go_iconst (v := 0) (by decide) dX1_spread_151 ?_
  refine go_istore (L' := [some (.ref x0), none, some (.int x2), some (.ref x3), none, some (.ref x5), some (.int s0), some (.int (0 : Int32)), none, none]) (by decide) rfl dX1_spread_152 ?_
  exact go_subL (L' := [some (.ref x0), none, some (.int x2), some (.ref x3), none, some (.ref x5), some (.int s0), some (.int (0 : Int32)), none, none]) (by simp [subL, va_rf]) (oX1_spread_154 hd hs hk)
noncomputable def fX1_spread_125 (h : Hp) (x0 : Nat) (x2 : Int32) (x3 : Nat) : Option Hp :=
  (gN h 1 x0 5).bind fun v10 =>
  (gN h 0 v10 10).bind fun v11 =>
  (gN h 1 x0 5).bind fun v12 =>
  (gR h 0 v12 8).bind fun v13 =>
  match v13 with
  | none => (
    fX1_spread_149 h x0 x2 x3 v11 (0 : Int32))
  | some n14 => (
    fX1_spread_149 h x0 x2 x3 v11 (1 : Int32))
theorem oX1_spread_125 {d : Nat} (hd : 3 ≤ d) {h : Hp} {x0 : Nat} {x2 : Int32} {x3 : Nat} {rf : Option Value} {hf : Hp} {x : Hp} (hs : fX1_spread_125 h x0 x2 x3 = some x) (hk : (kX1_spread rf hf) x) : Go d mX1_spread 125 [some (.ref x0), none, some (.int x2), some (.ref x3), none, none, none, none, none, none] [] h rf hf := by
  unfold fX1_spread_125 at hs
  refine go_aload_n (k4 := 0) rfl (Or.inr ⟨_, rfl⟩) dX1_spread_125 ?_
  obtain ⟨v10, ev10, hs⟩ := bindS hs
  refine go_gN fl_RX1_34 ev10 dX1_spread_126 ?_
  obtain ⟨v11, ev11, hs⟩ := bindS hs
  refine go_gN fl_RX1_112 ev11 dX1_spread_129 ?_
  refine go_astore (L' := [some (.ref x0), none, some (.int x2), some (.ref x3), none, some (.ref v11), none, none, none, none]) (by decide) (Or.inr ⟨_, rfl⟩) rfl dX1_spread_132 ?_
  refine go_aload_n (k4 := 0) rfl (Or.inr ⟨_, rfl⟩) dX1_spread_134 ?_
  obtain ⟨v12, ev12, hs⟩ := bindS hs
  refine go_gN fl_RX1_34 ev12 dX1_spread_135 ?_
  obtain ⟨v13, ev13, hs⟩ := bindS hs
  refine go_gR fl_RX1_38 ev13 dX1_spread_138 ?_
  refine go_at 141 rfl ?_
  cases v13 with
  | none =>
    dsimp only at hs
    refine go_ifnull (o := none) (tgt := 148) (by decide) dX1_spread_141 (fun _ => ?_) (fun c => absurd rfl c)
    refine go_iconst (v := 0) (by decide) dX1_spread_148 ?_
    exact go_subL (L' := [some (.ref x0), none, some (.int x2), some (.ref x3), none, some (.ref v11), none, none, none, none]) (by simp [subL, va_rf]) (oX1_spread_149 hd hs hk)
  | some n14 =>
    dsimp only at hs
    refine go_ifnull (o := some n14) (tgt := 148) (by decide) dX1_spread_141 (fun c => by cases c) (fun _ => ?_)
    refine go_iconst (v := 1) (by decide) dX1_spread_144 ?_
    refine go_goto (tgt := 149) (by decide) dX1_spread_145 ?_
    exact go_subL (L' := [some (.ref x0), none, some (.int x2), some (.ref x3), none, some (.ref v11), none, none, none, none]) (by simp [subL, va_rf]) (oX1_spread_149 hd hs hk)
abbrev pX1_spread_50 (d : Nat) (x0 : Nat) (x1 : Int32) (x2 : Int32) (x3 : Nat) (x4 : Int32) (x5 : Int32) (x6 : Int32) (rf : Option Value) (hf : Hp) : (Int32 × Hp) → Prop := fun s => Go d mX1_spread 50 [some (.ref x0), some (.int x1), some (.int x2), some (.ref x3), some (.int x4), some (.int x5), some (.int x6), some (.int s.1), none, none] [] s.2 rf hf
noncomputable def fX1_spread_119 (h : Hp) (x0 : Nat) (x1 : Int32) (x2 : Int32) (x3 : Nat) (x4 : Int32) (x5 : Int32) : Option ((Int32 × Hp) ⊕ Hp) :=
  some (.inl ((x5 + Int32.ofInt 1), h))
theorem oX1_spread_119 {d : Nat} (hd : 3 ≤ d) {h : Hp} {x0 : Nat} {x1 : Int32} {x2 : Int32} {x3 : Nat} {x4 : Int32} {x5 : Int32} {rf : Option Value} {hf : Hp} {x : ((Int32 × Hp) ⊕ Hp)} (hs : fX1_spread_119 h x0 x1 x2 x3 x4 x5 = some x) (hk : (Kx (pX1_spread_27 d x0 x1 x2 x3 x4 rf hf) (kX1_spread rf hf)) x) : Go d mX1_spread 119 [some (.ref x0), some (.int x1), some (.int x2), some (.ref x3), some (.int x4), some (.int x5), none, none, none, none] [] h rf hf := by
  unfold fX1_spread_119 at hs
  refine go_iinc (L' := [some (.ref x0), some (.int x1), some (.int x2), some (.ref x3), some (.int x4), some (.int (x5 + Int32.ofInt 1)), none, none, none, none]) rfl (by decide) rfl rfl dX1_spread_119 ?_
  refine go_goto (tgt := 27) (by decide) dX1_spread_122 ?_
  obtain rfl := Option.some.inj hs
  exact go_subL (L' := [some (.ref x0), some (.int x1), some (.int x2), some (.ref x3), some (.int x4), some (.int (x5 + Int32.ofInt 1)), none, none, none, none]) (by simp [subL, va_rf]) hk
noncomputable def fX1_spread_90 (h : Hp) (x0 : Nat) (x1 : Int32) (x2 : Int32) (x3 : Nat) (x4 : Int32) (x5 : Int32) (x6 : Int32) (x7 : Int32) (s0 : Int32) : Option ((Int32 × Hp) ⊕ ((Int32 × Hp) ⊕ Hp)) :=
  (gN h 1 x0 4).bind fun v32 =>
  (tT 1 x5).bind fun v33 =>
  (wI 0 h v32 ((x5 * (5 : Int32)) + x7) (s0 * v33)).bind fun h34 =>
  some (.inl ((x7 + Int32.ofInt 1), h34))
theorem oX1_spread_90 {d : Nat} (hd : 3 ≤ d) {h : Hp} {x0 : Nat} {x1 : Int32} {x2 : Int32} {x3 : Nat} {x4 : Int32} {x5 : Int32} {x6 : Int32} {x7 : Int32} {s0 : Int32} {rf : Option Value} {hf : Hp} {x : ((Int32 × Hp) ⊕ ((Int32 × Hp) ⊕ Hp))} (hs : fX1_spread_90 h x0 x1 x2 x3 x4 x5 x6 x7 s0 = some x) (hk : (Kx (pX1_spread_50 d x0 x1 x2 x3 x4 x5 x6 rf hf) (Kx (pX1_spread_27 d x0 x1 x2 x3 x4 rf hf) (kX1_spread rf hf))) x) : Go d mX1_spread 90 [some (.ref x0), some (.int x1), some (.int x2), some (.ref x3), some (.int x4), some (.int x5), some (.int x6), some (.int x7), none, none] [.int s0] h rf hf := by
  unfold fX1_spread_90 at hs
  refine go_istore (L' := [some (.ref x0), some (.int x1), some (.int x2), some (.ref x3), some (.int x4), some (.int x5), some (.int x6), some (.int x7), some (.int s0), none]) (by decide) rfl dX1_spread_90 ?_
  refine go_aload_n (k4 := 0) rfl (Or.inr ⟨_, rfl⟩) dX1_spread_92 ?_
  obtain ⟨v32, ev32, hs⟩ := bindS hs
  refine go_gN fl_RX1_27 ev32 dX1_spread_93 ?_
  refine go_iload rfl dX1_spread_96 ?_
  refine go_iconst (v := 5) (by decide) dX1_spread_98 ?_
  refine go_imul dX1_spread_99 ?_
  refine go_iload rfl dX1_spread_100 ?_
  refine go_at 102 rfl ?_
  refine go_iadd dX1_spread_102 ?_
  refine go_iload rfl dX1_spread_103 ?_
  refine go_statN (j := 1) rfl lz_RX1_99.1 lz_RX1_99.2.1 lz_RX1_99.2.2 dX1_spread_105 ?_
  refine go_iload rfl dX1_spread_108 ?_
  obtain ⟨v33, ev33, hs⟩ := bindS hs
  refine go_tT (by decide) ev33 dX1_spread_110 ?_
  refine go_imul dX1_spread_111 ?_
  obtain ⟨h34, eh34, hs⟩ := bindS hs
  refine go_wIi eh34 dX1_spread_112 ?_
  refine go_iinc (L' := [some (.ref x0), some (.int x1), some (.int x2), some (.ref x3), some (.int x4), some (.int x5), some (.int x6), some (.int (x7 + Int32.ofInt 1)), some (.int s0), none]) rfl (by decide) rfl rfl dX1_spread_113 ?_
  refine go_at 116 rfl ?_
  refine go_goto (tgt := 50) (by decide) dX1_spread_116 ?_
  obtain rfl := Option.some.inj hs
  exact go_subL (L' := [some (.ref x0), some (.int x1), some (.int x2), some (.ref x3), some (.int x4), some (.int x5), some (.int x6), some (.int (x7 + Int32.ofInt 1)), none, none]) (by simp [subL, va_rf]) hk
noncomputable def fX1_spread_50b (h : Hp) (x0 : Nat) (x1 : Int32) (x2 : Int32) (x3 : Nat) (x4 : Int32) (x5 : Int32) (x6 : Int32) (x7 : Int32) : Option ((Int32 × Hp) ⊕ ((Int32 × Hp) ⊕ Hp)) :=
  (gN h 1 x0 5).bind fun v27 =>
  (gI h 0 v27 1).bind fun v28 =>
  if v28 < x7 then (
  (fX1_spread_119 h x0 x1 x2 x3 x4 x5).map (fun q => .inr q)) else (
    if x6 = 0 then (
      fX1_spread_90 h x0 x1 x2 x3 x4 x5 x6 x7 (0 : Int32)) else (
      gO h 1 x0 (
      (fX1_growth h x0 x5 x7 x6 x4 x2).bind fun y29 =>
      (fX1_kept y29.2 (x6 - y29.1)).bind fun y31 =>
      fX1_spread_90 y29.2 x0 x1 x2 x3 x4 x5 x6 x7 y31)))
noncomputable def fX1_spread_50 (h : Hp) (x0 : Nat) (x1 : Int32) (x2 : Int32) (x3 : Nat) (x4 : Int32) (x5 : Int32) (x6 : Int32) (x7 : Int32) : Option ((Int32 × Hp) ⊕ Hp) := lpw (σ := (Int32 × Hp)) (fun s => fX1_spread_50b s.2 x0 x1 x2 x3 x4 x5 x6 s.1) (x7, h)
theorem oX1_spread_50b {d : Nat} (hd : 3 ≤ d) {h : Hp} {x0 : Nat} {x1 : Int32} {x2 : Int32} {x3 : Nat} {x4 : Int32} {x5 : Int32} {x6 : Int32} {x7 : Int32} {rf : Option Value} {hf : Hp} {x : ((Int32 × Hp) ⊕ ((Int32 × Hp) ⊕ Hp))} (hs : fX1_spread_50b h x0 x1 x2 x3 x4 x5 x6 x7 = some x) (hk : (Kx (pX1_spread_50 d x0 x1 x2 x3 x4 x5 x6 rf hf) (Kx (pX1_spread_27 d x0 x1 x2 x3 x4 rf hf) (kX1_spread rf hf))) x) : Go d mX1_spread 50 [some (.ref x0), some (.int x1), some (.int x2), some (.ref x3), some (.int x4), some (.int x5), some (.int x6), some (.int x7), none, none] [] h rf hf := by
  unfold fX1_spread_50b at hs
  refine go_iload rfl dX1_spread_50 ?_
  refine go_aload_n (k4 := 0) rfl (Or.inr ⟨_, rfl⟩) dX1_spread_52 ?_
  obtain ⟨v27, ev27, hs⟩ := bindS hs
  refine go_gN fl_RX1_34 ev27 dX1_spread_53 ?_
  obtain ⟨v28, ev28, hs⟩ := bindS hs
  refine go_gI fl_RX1_109 ev28 dX1_spread_56 ?_
  refine go_icmp_gt (tgt := 119) (by decide) dX1_spread_59 (fun c => ?_) (fun c => ?_)
  · have hs := if_t c hs
    obtain ⟨q, hs2, hq⟩ := mapS hs
    clear hs
    subst hq
    exact go_subL (L' := [some (.ref x0), some (.int x1), some (.int x2), some (.ref x3), some (.int x4), some (.int x5), none, none, none, none]) (by simp [subL, va_rf]) (oX1_spread_119 hd hs2 hk)
  · have hs := if_f c hs
    refine go_iload rfl dX1_spread_62 ?_
    refine go_if_ne (tgt := 71) (by decide) dX1_spread_64 (fun c => ?_) (fun c => ?_)
    · have hs := if_f c hs
      refine go_iload rfl dX1_spread_71 ?_
      refine go_aload_n (k4 := 0) rfl (Or.inr ⟨_, rfl⟩) dX1_spread_73 ?_
      refine go_iload rfl dX1_spread_74 ?_
      refine go_iload rfl dX1_spread_76 ?_
      refine go_iload rfl dX1_spread_78 ?_
      refine go_iload rfl dX1_spread_80 ?_
      refine go_iload_n (k4 := 2) rfl dX1_spread_82 ?_
      refine go_at 83 rfl ?_
      obtain ⟨g30, hs⟩ := gO_at hs
      obtain ⟨y29, ey29, hs⟩ := bindS hs
      refine go_V1 (As := [.int x5, .int x7, .int x6, .int x4, .int x2]) (st := [.int x6]) g30 rfl rfl (oX1_growth (d := d - 1) (by omega) ey29) (by omega) mb_X1_growth lm_RX1_92 mi_X1_growth (Nat.le_of_ble_eq_true rfl) rfl dX1_spread_83 ?_
      refine go_isub dX1_spread_86 ?_
      obtain ⟨y31, ey31, hs⟩ := bindS hs
      refine go_S1 (As := [.int (x6 - y29.1)]) (st := []) (oX1_kept (d := d - 1) (by omega) ey31) (by omega) mb_X1_kept lm_RX1_96 ms_X1_kept (Nat.le_of_ble_eq_true rfl) rfl dX1_spread_87 ?_
      exact go_subL (L' := [some (.ref x0), some (.int x1), some (.int x2), some (.ref x3), some (.int x4), some (.int x5), some (.int x6), some (.int x7), none, none]) (by simp [subL, va_rf]) (oX1_spread_90 hd hs hk)
    · have hs := if_t c hs
      refine go_iconst (v := 0) (by decide) dX1_spread_67 ?_
      refine go_goto (tgt := 90) (by decide) dX1_spread_68 ?_
      exact go_subL (L' := [some (.ref x0), some (.int x1), some (.int x2), some (.ref x3), some (.int x4), some (.int x5), some (.int x6), some (.int x7), none, none]) (by simp [subL, va_rf]) (oX1_spread_90 hd hs hk)
theorem oX1_spread_50 {d : Nat} (hd : 3 ≤ d) {h : Hp} {x0 : Nat} {x1 : Int32} {x2 : Int32} {x3 : Nat} {x4 : Int32} {x5 : Int32} {x6 : Int32} {x7 : Int32} {rf : Option Value} {hf : Hp} {x : ((Int32 × Hp) ⊕ Hp)} (hs : fX1_spread_50 h x0 x1 x2 x3 x4 x5 x6 x7 = some x) (hk : (Kx (pX1_spread_27 d x0 x1 x2 x3 x4 rf hf) (kX1_spread rf hf)) x) : Go d mX1_spread 50 [some (.ref x0), some (.int x1), some (.int x2), some (.ref x3), some (.int x4), some (.int x5), some (.int x6), some (.int x7), none, none] [] h rf hf := by
  unfold fX1_spread_50 at hs
  exact lpw_go (P := pX1_spread_50 d x0 x1 x2 x3 x4 x5 x6 rf hf) (fun s x hs hk => oX1_spread_50b hd hs hk) (x7, h) x hs hk
noncomputable def fX1_spread_27b (h : Hp) (x0 : Nat) (x1 : Int32) (x2 : Int32) (x3 : Nat) (x4 : Int32) (x5 : Int32) : Option ((Int32 × Hp) ⊕ Hp) :=
  (gN h 1 x0 5).bind fun v8 =>
  (gI h 0 v8 0).bind fun v9 =>
  if v9 ≤ x5 then (
  (fX1_spread_125 h x0 x2 x3).map (fun q => .inr q)) else (
    (fX11_digit h x1 x5).bind fun y26 =>
    fX1_spread_50 h x0 x1 x2 x3 x4 x5 y26 (0 : Int32))
noncomputable def fX1_spread_27 (h : Hp) (x0 : Nat) (x1 : Int32) (x2 : Int32) (x3 : Nat) (x4 : Int32) (x5 : Int32) : Option Hp := lpw (σ := (Int32 × Hp)) (fun s => fX1_spread_27b s.2 x0 x1 x2 x3 x4 s.1) (x5, h)
theorem oX1_spread_27b {d : Nat} (hd : 3 ≤ d) {h : Hp} {x0 : Nat} {x1 : Int32} {x2 : Int32} {x3 : Nat} {x4 : Int32} {x5 : Int32} {rf : Option Value} {hf : Hp} {x : ((Int32 × Hp) ⊕ Hp)} (hs : fX1_spread_27b h x0 x1 x2 x3 x4 x5 = some x) (hk : (Kx (pX1_spread_27 d x0 x1 x2 x3 x4 rf hf) (kX1_spread rf hf)) x) : Go d mX1_spread 27 [some (.ref x0), some (.int x1), some (.int x2), some (.ref x3), some (.int x4), some (.int x5), none, none, none, none] [] h rf hf := by
  unfold fX1_spread_27b at hs
  refine go_iload rfl dX1_spread_27 ?_
  refine go_aload_n (k4 := 0) rfl (Or.inr ⟨_, rfl⟩) dX1_spread_29 ?_
  obtain ⟨v8, ev8, hs⟩ := bindS hs
  refine go_gN fl_RX1_34 ev8 dX1_spread_30 ?_
  obtain ⟨v9, ev9, hs⟩ := bindS hs
  refine go_gI fl_RX1_86 ev9 dX1_spread_33 ?_
  refine go_icmp_ge (tgt := 125) (by decide) dX1_spread_36 (fun c => ?_) (fun c => ?_)
  · have hs := if_t c hs
    obtain ⟨q, hs2, hq⟩ := mapS hs
    clear hs
    subst hq
    exact go_subL (L' := [some (.ref x0), none, some (.int x2), some (.ref x3), none, none, none, none, none, none]) (by simp [subL, va_rf]) (oX1_spread_125 hd hs2 hk)
  · have hs := if_f c hs
    refine go_iload_n (k4 := 1) rfl dX1_spread_39 ?_
    refine go_iload rfl dX1_spread_40 ?_
    obtain ⟨y26, ey26, hs⟩ := bindS hs
    refine go_SN1 (As := [.int x1, .int x5]) (st := []) (oX11_digit (d := d - 1) (by omega) ey26) (by omega) mb_X11_digit lm_RX1_57 ms_X11_digit (Nat.le_of_ble_eq_true rfl) rfl dX1_spread_42 ?_
    refine go_istore (L' := [some (.ref x0), some (.int x1), some (.int x2), some (.ref x3), some (.int x4), some (.int x5), some (.int y26), none, none, none]) (by decide) rfl dX1_spread_45 ?_
    refine go_iconst (v := 0) (by decide) dX1_spread_47 ?_
    refine go_istore (L' := [some (.ref x0), some (.int x1), some (.int x2), some (.ref x3), some (.int x4), some (.int x5), some (.int y26), some (.int (0 : Int32)), none, none]) (by decide) rfl dX1_spread_48 ?_
    exact go_subL (L' := [some (.ref x0), some (.int x1), some (.int x2), some (.ref x3), some (.int x4), some (.int x5), some (.int y26), some (.int (0 : Int32)), none, none]) (by simp [subL, va_rf]) (oX1_spread_50 hd hs hk)
theorem oX1_spread_27 {d : Nat} (hd : 3 ≤ d) {h : Hp} {x0 : Nat} {x1 : Int32} {x2 : Int32} {x3 : Nat} {x4 : Int32} {x5 : Int32} {rf : Option Value} {hf : Hp} {x : Hp} (hs : fX1_spread_27 h x0 x1 x2 x3 x4 x5 = some x) (hk : (kX1_spread rf hf) x) : Go d mX1_spread 27 [some (.ref x0), some (.int x1), some (.int x2), some (.ref x3), some (.int x4), some (.int x5), none, none, none, none] [] h rf hf := by
  unfold fX1_spread_27 at hs
  exact lpw_go (P := pX1_spread_27 d x0 x1 x2 x3 x4 rf hf) (fun s x hs hk => oX1_spread_27b hd hs hk) (x5, h) x hs hk
noncomputable def fX1_spread (h : Hp) (x0 : Nat) (x1 : Int32) (x2 : Int32) (x3 : Nat) : Option Hp :=
  (aL h x3).bind fun v1 =>
  (gN h 1 x0 5).bind fun v2 =>
  (gN h 0 v2 9).bind fun v3 =>
  (aL h v3).bind fun v4 =>
  if v4 ≤ v1 then (
    (gN h 1 x0 5).bind fun v5 =>
    gO h 0 v5 (
    (fX0_metCount h v5 x1).bind fun y6 =>
    fX1_spread_27 h x0 x1 x2 x3 y6 (0 : Int32))) else (
    some (h))
theorem oX1_spread_0 {d : Nat} (hd : 3 ≤ d) {h : Hp} {x0 : Nat} {x1 : Int32} {x2 : Int32} {x3 : Nat} {rf : Option Value} {hf : Hp} {x : Hp} (hs : fX1_spread h x0 x1 x2 x3 = some x) (hk : (kX1_spread rf hf) x) : Go d mX1_spread 0 [some (.ref x0), some (.int x1), some (.int x2), some (.ref x3), none, none, none, none, none, none] [] h rf hf := by
  unfold fX1_spread at hs
  refine go_aload_n (k4 := 3) rfl (Or.inr ⟨_, rfl⟩) dX1_spread_0 ?_
  obtain ⟨v1, ev1, hs⟩ := bindS hs
  refine go_aL ev1 dX1_spread_1 ?_
  refine go_aload_n (k4 := 0) rfl (Or.inr ⟨_, rfl⟩) dX1_spread_2 ?_
  obtain ⟨v2, ev2, hs⟩ := bindS hs
  refine go_gN fl_RX1_34 ev2 dX1_spread_3 ?_
  obtain ⟨v3, ev3, hs⟩ := bindS hs
  refine go_gN fl_RX1_106 ev3 dX1_spread_6 ?_
  obtain ⟨v4, ev4, hs⟩ := bindS hs
  refine go_aL ev4 dX1_spread_9 ?_
  refine go_icmp_ge (tgt := 14) (by decide) dX1_spread_10 (fun c => ?_) (fun c => ?_)
  · have hs := if_t c hs
    refine go_aload_n (k4 := 0) rfl (Or.inr ⟨_, rfl⟩) dX1_spread_14 ?_
    obtain ⟨v5, ev5, hs⟩ := bindS hs
    refine go_gN fl_RX1_34 ev5 dX1_spread_15 ?_
    refine go_iload_n (k4 := 1) rfl dX1_spread_18 ?_
    obtain ⟨g7, hs⟩ := gO_at hs
    obtain ⟨y6, ey6, hs⟩ := bindS hs
    refine go_V1 (As := [.int x1]) (st := []) g7 rfl rfl (oX0_metCount (d := d - 1) (by omega) ey6) (by omega) mb_X0_metCount lm_RX1_77 mi_X0_metCount (Nat.le_of_ble_eq_true rfl) rfl dX1_spread_19 ?_
    refine go_istore (L' := [some (.ref x0), some (.int x1), some (.int x2), some (.ref x3), some (.int y6), none, none, none, none, none]) (by decide) rfl dX1_spread_22 ?_
    refine go_iconst (v := 0) (by decide) dX1_spread_24 ?_
    refine go_istore (L' := [some (.ref x0), some (.int x1), some (.int x2), some (.ref x3), some (.int y6), some (.int (0 : Int32)), none, none, none, none]) (by decide) rfl dX1_spread_25 ?_
    exact go_subL (L' := [some (.ref x0), some (.int x1), some (.int x2), some (.ref x3), some (.int y6), some (.int (0 : Int32)), none, none, none, none]) (by simp [subL, va_rf]) (oX1_spread_27 hd hs hk)
  · have hs := if_f c hs
    obtain rfl := Option.some.inj hs
    obtain ⟨rfl, rfl⟩ := hk
    exact go_vret rfl dX1_spread_13
theorem oX1_spread {d : Nat} (hd : 3 ≤ d) {h : Hp} {x0 : Nat} {x1 : Int32} {x2 : Int32} {x3 : Nat} {y : Hp} (hs : fX1_spread h x0 x1 x2 x3 = some y) : Call d mX1_spread [.ref x0, .int x1, .int x2, .ref x3] h (none) y := call_of (by decide +kernel) (Nat.le_of_ble_eq_true rfl) (show Go d mX1_spread 0 [some (.ref x0), some (.int x1), some (.int x2), some (.ref x3), none, none, none, none, none, none] [] h _ _ from go_subL (by simp [subL]) (oX1_spread_0 hd hs ⟨rfl, rfl⟩))
abbrev kX7_isNew (h : Hp) (rf : Option Value) (hf : Hp) : Int32 → Prop := fun y => rf = some (.int y) ∧ hf = h
noncomputable def fX7_isNew_25 (h : Hp) (s0 : Int32) : Option Int32 :=
  bl s0 (some (s0))
theorem oX7_isNew_25 {d : Nat} (hd : 1 ≤ d) {h : Hp} {s0 : Int32} {rf : Option Value} {hf : Hp} {x : Int32} (hs : fX7_isNew_25 h s0 = some x) (hk : (kX7_isNew h rf hf) x) : Go d mX7_isNew 25 [none, none] [.int s0] h rf hf := by
  unfold fX7_isNew_25 at hs
  obtain ⟨n1, n2, hs⟩ := bl_at hs
  obtain rfl := Option.some.inj hs
  obtain ⟨rfl, rfl⟩ := hk
  exact go_zret (ty := .boolean) rfl n1 dX7_isNew_25
noncomputable def fX7_isNew_24 (h : Hp)  : Option Int32 :=
  fX7_isNew_25 h (0 : Int32)
theorem oX7_isNew_24 {d : Nat} (hd : 1 ≤ d) {h : Hp} {rf : Option Value} {hf : Hp} {x : Int32} (hs : fX7_isNew_24 h  = some x) (hk : (kX7_isNew h rf hf) x) : Go d mX7_isNew 24 [none, none] [] h rf hf := by
  unfold fX7_isNew_24 at hs
  refine go_iconst (v := 0) (by decide) dX7_isNew_24 ?_
  exact go_subL (L' := [none, none]) (by simp [subL, va_rf]) (oX7_isNew_25 hd hs hk)
noncomputable def fX7_isNew (h : Hp) (x0 : Nat) (x1 : Int32) : Option Int32 :=
  (fX7_isState h x1).bind fun y1 =>
  if y1 = 0 then (
  fX7_isNew_24 h ) else (
    (gN h 7 x0 3).bind fun v2 =>
    (aI 0 h v2 x1).bind fun v3 =>
    (gI h 7 x0 4).bind fun v4 =>
    if v3 = v4 then (
    fX7_isNew_24 h ) else (
      fX7_isNew_25 h (1 : Int32)))
theorem oX7_isNew_0 {d : Nat} (hd : 1 ≤ d) {h : Hp} {x0 : Nat} {x1 : Int32} {rf : Option Value} {hf : Hp} {x : Int32} (hs : fX7_isNew h x0 x1 = some x) (hk : (kX7_isNew h rf hf) x) : Go d mX7_isNew 0 [some (.ref x0), some (.int x1)] [] h rf hf := by
  unfold fX7_isNew at hs
  refine go_iload_n (k4 := 1) rfl dX7_isNew_0 ?_
  obtain ⟨y1, ey1, hs⟩ := bindS hs
  refine go_S1 (As := [.int x1]) (st := []) (oX7_isState (d := d - 1) (by omega) ey1) (by omega) mb_X7_isState lm_RX7_74 ms_X7_isState (Nat.le_of_ble_eq_true rfl) rfl dX7_isNew_1 ?_
  refine go_if_eq (tgt := 24) (by decide) dX7_isNew_4 (fun c => ?_) (fun c => ?_)
  · have hs := if_t c hs
    exact go_subL (L' := [none, none]) (by simp [subL, va_rf]) (oX7_isNew_24 hd hs hk)
  · have hs := if_f c hs
    refine go_aload_n (k4 := 0) rfl (Or.inr ⟨_, rfl⟩) dX7_isNew_7 ?_
    obtain ⟨v2, ev2, hs⟩ := bindS hs
    refine go_gN fl_RX7_15 ev2 dX7_isNew_8 ?_
    refine go_iload_n (k4 := 1) rfl dX7_isNew_11 ?_
    obtain ⟨v3, ev3, hs⟩ := bindS hs
    refine go_aIi ev3 dX7_isNew_12 ?_
    refine go_aload_n (k4 := 0) rfl (Or.inr ⟨_, rfl⟩) dX7_isNew_13 ?_
    obtain ⟨v4, ev4, hs⟩ := bindS hs
    refine go_gI fl_RX7_19 ev4 dX7_isNew_14 ?_
    refine go_icmp_eq (tgt := 24) (by decide) dX7_isNew_17 (fun c => ?_) (fun c => ?_)
    · have hs := if_t c hs
      exact go_subL (L' := [none, none]) (by simp [subL, va_rf]) (oX7_isNew_24 hd hs hk)
    · have hs := if_f c hs
      refine go_iconst (v := 1) (by decide) dX7_isNew_20 ?_
      refine go_goto (tgt := 25) (by decide) dX7_isNew_21 ?_
      exact go_subL (L' := [none, none]) (by simp [subL, va_rf]) (oX7_isNew_25 hd hs hk)
theorem oX7_isNew {d : Nat} (hd : 1 ≤ d) {h : Hp} {x0 : Nat} {x1 : Int32} {y : Int32} (hs : fX7_isNew h x0 x1 = some y) : Call d mX7_isNew [.ref x0, .int x1] h (some (.int y)) h := call_of (by decide +kernel) (Nat.le_of_ble_eq_true rfl) (show Go d mX7_isNew 0 [some (.ref x0), some (.int x1)] [] h _ _ from go_subL (by simp [subL]) (oX7_isNew_0 hd hs ⟨rfl, rfl⟩))
abbrev kX7_reachGoal (rf : Option Value) (hf : Hp) : (Int32 × Hp) → Prop := fun y => rf = some (.int y.1) ∧ hf = y.2
abbrev pX7_reachGoal_23 (d : Nat) (x0 : Nat) (x2 : Int32) (rf : Option Value) (hf : Hp) : (Int32 × Hp) → Prop := fun s => Go d mX7_reachGoal 23 [some (.ref x0), none, some (.int x2), some (.int s.1), none, none, none] [] s.2 rf hf
noncomputable def fX7_reachGoal_163 (h : Hp)  : Option (Int32 × Hp) :=
  some (((-1 : Int32), h))
theorem oX7_reachGoal_163 {d : Nat} (hd : 4 ≤ d) {h : Hp} {rf : Option Value} {hf : Hp} {x : (Int32 × Hp)} (hs : fX7_reachGoal_163 h  = some x) (hk : (kX7_reachGoal rf hf) x) : Go d mX7_reachGoal 163 [none, none, none, none, none, none, none] [] h rf hf := by
  unfold fX7_reachGoal_163 at hs
  refine go_iconst (v := -1) (by decide) dX7_reachGoal_163 ?_
  obtain rfl := Option.some.inj hs
  obtain ⟨rfl, rfl⟩ := hk
  exact go_iret rfl dX7_reachGoal_164
abbrev pX7_reachGoal_74 (d : Nat) (x0 : Nat) (x2 : Int32) (x3 : Int32) (x4 : Int32) (rf : Option Value) (hf : Hp) : (Int32 × Hp) → Prop := fun s => Go d mX7_reachGoal 74 [some (.ref x0), none, some (.int x2), some (.int x3), some (.int x4), some (.int s.1), none] [] s.2 rf hf
noncomputable def fX7_reachGoal_157 (h : Hp) (x0 : Nat) (x2 : Int32) (x3 : Int32) : Option ((Int32 × Hp) ⊕ (Int32 × Hp)) :=
  some (.inl ((x3 + Int32.ofInt 1), h))
theorem oX7_reachGoal_157 {d : Nat} (hd : 4 ≤ d) {h : Hp} {x0 : Nat} {x2 : Int32} {x3 : Int32} {rf : Option Value} {hf : Hp} {x : ((Int32 × Hp) ⊕ (Int32 × Hp))} (hs : fX7_reachGoal_157 h x0 x2 x3 = some x) (hk : (Kx (pX7_reachGoal_23 d x0 x2 rf hf) (kX7_reachGoal rf hf)) x) : Go d mX7_reachGoal 157 [some (.ref x0), none, some (.int x2), some (.int x3), none, none, none] [] h rf hf := by
  unfold fX7_reachGoal_157 at hs
  refine go_iinc (L' := [some (.ref x0), none, some (.int x2), some (.int (x3 + Int32.ofInt 1)), none, none, none]) rfl (by decide) rfl rfl dX7_reachGoal_157 ?_
  refine go_goto (tgt := 23) (by decide) dX7_reachGoal_160 ?_
  obtain rfl := Option.some.inj hs
  exact go_subL (L' := [some (.ref x0), none, some (.int x2), some (.int (x3 + Int32.ofInt 1)), none, none, none]) (by simp [subL, va_rf]) hk
noncomputable def fX7_reachGoal_151 (h : Hp) (x0 : Nat) (x2 : Int32) (x3 : Int32) (x4 : Int32) (x5 : Int32) : Option ((Int32 × Hp) ⊕ ((Int32 × Hp) ⊕ (Int32 × Hp))) :=
  some (.inl ((x5 + Int32.ofInt 1), h))
theorem oX7_reachGoal_151 {d : Nat} (hd : 4 ≤ d) {h : Hp} {x0 : Nat} {x2 : Int32} {x3 : Int32} {x4 : Int32} {x5 : Int32} {rf : Option Value} {hf : Hp} {x : ((Int32 × Hp) ⊕ ((Int32 × Hp) ⊕ (Int32 × Hp)))} (hs : fX7_reachGoal_151 h x0 x2 x3 x4 x5 = some x) (hk : (Kx (pX7_reachGoal_74 d x0 x2 x3 x4 rf hf) (Kx (pX7_reachGoal_23 d x0 x2 rf hf) (kX7_reachGoal rf hf))) x) : Go d mX7_reachGoal 151 [some (.ref x0), none, some (.int x2), some (.int x3), some (.int x4), some (.int x5), none] [] h rf hf := by
  unfold fX7_reachGoal_151 at hs
  refine go_iinc (L' := [some (.ref x0), none, some (.int x2), some (.int x3), some (.int x4), some (.int (x5 + Int32.ofInt 1)), none]) rfl (by decide) rfl rfl dX7_reachGoal_151 ?_
  refine go_goto (tgt := 74) (by decide) dX7_reachGoal_154 ?_
  obtain rfl := Option.some.inj hs
  exact go_subL (L' := [some (.ref x0), none, some (.int x2), some (.int x3), some (.int x4), some (.int (x5 + Int32.ofInt 1)), none]) (by simp [subL, va_rf]) hk
noncomputable def fX7_reachGoal_132 (h : Hp) (x0 : Nat) (x2 : Int32) (x3 : Int32) (x4 : Int32) (x5 : Int32) (x6 : Int32) : Option ((Int32 × Hp) ⊕ ((Int32 × Hp) ⊕ (Int32 × Hp))) :=
  (fX7_isState h x6).bind fun y21 =>
  if y21 = 0 then (
  fX7_reachGoal_151 h x0 x2 x3 x4 x5) else (
    (gN h 7 x0 7).bind fun v22 =>
    (aI 0 h v22 x6).bind fun v23 =>
    (wI 0 h v22 x6 (v23 + (1 : Int32))).bind fun h24 =>
    fX7_reachGoal_151 h24 x0 x2 x3 x4 x5)
theorem oX7_reachGoal_132 {d : Nat} (hd : 4 ≤ d) {h : Hp} {x0 : Nat} {x2 : Int32} {x3 : Int32} {x4 : Int32} {x5 : Int32} {x6 : Int32} {rf : Option Value} {hf : Hp} {x : ((Int32 × Hp) ⊕ ((Int32 × Hp) ⊕ (Int32 × Hp)))} (hs : fX7_reachGoal_132 h x0 x2 x3 x4 x5 x6 = some x) (hk : (Kx (pX7_reachGoal_74 d x0 x2 x3 x4 rf hf) (Kx (pX7_reachGoal_23 d x0 x2 rf hf) (kX7_reachGoal rf hf))) x) : Go d mX7_reachGoal 132 [some (.ref x0), none, some (.int x2), some (.int x3), some (.int x4), some (.int x5), some (.int x6)] [] h rf hf := by
  unfold fX7_reachGoal_132 at hs
  refine go_iload rfl dX7_reachGoal_132 ?_
  obtain ⟨y21, ey21, hs⟩ := bindS hs
  refine go_S1 (As := [.int x6]) (st := []) (oX7_isState (d := d - 1) (by omega) ey21) (by omega) mb_X7_isState lm_RX7_74 ms_X7_isState (Nat.le_of_ble_eq_true rfl) rfl dX7_reachGoal_134 ?_
  refine go_if_eq (tgt := 151) (by decide) dX7_reachGoal_137 (fun c => ?_) (fun c => ?_)
  · have hs := if_t c hs
    exact go_subL (L' := [some (.ref x0), none, some (.int x2), some (.int x3), some (.int x4), some (.int x5), none]) (by simp [subL, va_rf]) (oX7_reachGoal_151 hd hs hk)
  · have hs := if_f c hs
    refine go_aload_n (k4 := 0) rfl (Or.inr ⟨_, rfl⟩) dX7_reachGoal_140 ?_
    obtain ⟨v22, ev22, hs⟩ := bindS hs
    refine go_gN fl_RX7_28 ev22 dX7_reachGoal_141 ?_
    refine go_iload rfl dX7_reachGoal_144 ?_
    refine go_dup2_11 rfl rfl dX7_reachGoal_146 ?_
    obtain ⟨v23, ev23, hs⟩ := bindS hs
    refine go_aIi ev23 dX7_reachGoal_147 ?_
    refine go_iconst (v := 1) (by decide) dX7_reachGoal_148 ?_
    refine go_iadd dX7_reachGoal_149 ?_
    refine go_at 150 rfl ?_
    obtain ⟨h24, eh24, hs⟩ := bindS hs
    refine go_wIi eh24 dX7_reachGoal_150 ?_
    exact go_subL (L' := [some (.ref x0), none, some (.int x2), some (.int x3), some (.int x4), some (.int x5), none]) (by simp [subL, va_rf]) (oX7_reachGoal_151 hd hs hk)
noncomputable def fX7_reachGoal_74b (h : Hp) (x0 : Nat) (x2 : Int32) (x3 : Int32) (x4 : Int32) (x5 : Int32) : Option ((Int32 × Hp) ⊕ ((Int32 × Hp) ⊕ (Int32 × Hp))) :=
  (gN h 7 x0 1).bind fun v14 =>
  (gN h 0 v14 9).bind fun v15 =>
  (aL h v15).bind fun v16 =>
  if v16 ≤ x5 then (
  (fX7_reachGoal_157 h x0 x2 x3).map (fun q => .inr q)) else (
    (gN h 7 x0 9).bind fun v17 =>
    (aI 0 h v17 x5).bind fun v18 =>
    gO h 7 x0 (
    (fX7_isNew h x0 v18).bind fun y19 =>
    if y19 = 0 then (
    fX7_reachGoal_132 h x0 x2 x3 x4 x5 v18) else (
      gO h 7 x0 (
      (fX7_reach h x0 v18 ((x4 * (35 : Int32)) + x5)).bind fun y25 =>
      gO y25 7 x0 (
      (fX7_isGoal y25 x0 v18 x2).bind fun y27 =>
      if y27 = 0 then (
      fX7_reachGoal_132 y25 x0 x2 x3 x4 x5 v18) else (
        some (.inr (.inr (v18, y25)))))))))
noncomputable def fX7_reachGoal_74 (h : Hp) (x0 : Nat) (x2 : Int32) (x3 : Int32) (x4 : Int32) (x5 : Int32) : Option ((Int32 × Hp) ⊕ (Int32 × Hp)) := lpw (σ := (Int32 × Hp)) (fun s => fX7_reachGoal_74b s.2 x0 x2 x3 x4 s.1) (x5, h)
theorem oX7_reachGoal_74b {d : Nat} (hd : 4 ≤ d) {h : Hp} {x0 : Nat} {x2 : Int32} {x3 : Int32} {x4 : Int32} {x5 : Int32} {rf : Option Value} {hf : Hp} {x : ((Int32 × Hp) ⊕ ((Int32 × Hp) ⊕ (Int32 × Hp)))} (hs : fX7_reachGoal_74b h x0 x2 x3 x4 x5 = some x) (hk : (Kx (pX7_reachGoal_74 d x0 x2 x3 x4 rf hf) (Kx (pX7_reachGoal_23 d x0 x2 rf hf) (kX7_reachGoal rf hf))) x) : Go d mX7_reachGoal 74 [some (.ref x0), none, some (.int x2), some (.int x3), some (.int x4), some (.int x5), none] [] h rf hf := by
  unfold fX7_reachGoal_74b at hs
  refine go_iload rfl dX7_reachGoal_74 ?_
  refine go_aload_n (k4 := 0) rfl (Or.inr ⟨_, rfl⟩) dX7_reachGoal_76 ?_
  obtain ⟨v14, ev14, hs⟩ := bindS hs
  refine go_gN fl_RX7_64 ev14 dX7_reachGoal_77 ?_
  obtain ⟨v15, ev15, hs⟩ := bindS hs
  refine go_gN fl_RX7_103 ev15 dX7_reachGoal_80 ?_
  obtain ⟨v16, ev16, hs⟩ := bindS hs
  refine go_aL ev16 dX7_reachGoal_83 ?_
  refine go_icmp_ge (tgt := 157) (by decide) dX7_reachGoal_84 (fun c => ?_) (fun c => ?_)
  · have hs := if_t c hs
    obtain ⟨q, hs2, hq⟩ := mapS hs
    clear hs
    subst hq
    exact go_subL (L' := [some (.ref x0), none, some (.int x2), some (.int x3), none, none, none]) (by simp [subL, va_rf]) (oX7_reachGoal_157 hd hs2 hk)
  · have hs := if_f c hs
    refine go_aload_n (k4 := 0) rfl (Or.inr ⟨_, rfl⟩) dX7_reachGoal_87 ?_
    obtain ⟨v17, ev17, hs⟩ := bindS hs
    refine go_gN fl_RX7_35 ev17 dX7_reachGoal_88 ?_
    refine go_iload rfl dX7_reachGoal_91 ?_
    obtain ⟨v18, ev18, hs⟩ := bindS hs
    refine go_aIi ev18 dX7_reachGoal_93 ?_
    refine go_istore (L' := [some (.ref x0), none, some (.int x2), some (.int x3), some (.int x4), some (.int x5), some (.int v18)]) (by decide) rfl dX7_reachGoal_94 ?_
    refine go_aload_n (k4 := 0) rfl (Or.inr ⟨_, rfl⟩) dX7_reachGoal_96 ?_
    refine go_iload rfl dX7_reachGoal_97 ?_
    refine go_at 99 rfl ?_
    obtain ⟨g20, hs⟩ := gO_at hs
    obtain ⟨y19, ey19, hs⟩ := bindS hs
    refine go_V1 (As := [.int v18]) (st := []) g20 rfl rfl (oX7_isNew (d := d - 1) (by omega) ey19) (by omega) mb_X7_isNew lm_RX7_106 mi_X7_isNew (Nat.le_of_ble_eq_true rfl) rfl dX7_reachGoal_99 ?_
    refine go_if_eq (tgt := 132) (by decide) dX7_reachGoal_102 (fun c => ?_) (fun c => ?_)
    · have hs := if_t c hs
      exact go_subL (L' := [some (.ref x0), none, some (.int x2), some (.int x3), some (.int x4), some (.int x5), some (.int v18)]) (by simp [subL, va_rf]) (oX7_reachGoal_132 hd hs hk)
    · have hs := if_f c hs
      refine go_aload_n (k4 := 0) rfl (Or.inr ⟨_, rfl⟩) dX7_reachGoal_105 ?_
      refine go_iload rfl dX7_reachGoal_106 ?_
      refine go_iload rfl dX7_reachGoal_108 ?_
      refine go_bipush (v := 35) (by decide) dX7_reachGoal_110 ?_
      refine go_imul dX7_reachGoal_112 ?_
      refine go_iload rfl dX7_reachGoal_113 ?_
      refine go_iadd dX7_reachGoal_115 ?_
      refine go_at 116 rfl ?_
      obtain ⟨g26, hs⟩ := gO_at hs
      obtain ⟨y25, ey25, hs⟩ := bindS hs
      refine go_V0 (As := [.int v18, .int ((x4 * (35 : Int32)) + x5)]) (st := []) g26 rfl rfl (oX7_reach (d := d - 1) (by omega) ey25) (by omega) mb_X7_reach lm_RX7_91 mi_X7_reach (Nat.le_of_ble_eq_true rfl) rfl dX7_reachGoal_116 ?_
      refine go_aload_n (k4 := 0) rfl (Or.inr ⟨_, rfl⟩) dX7_reachGoal_119 ?_
      refine go_iload rfl dX7_reachGoal_120 ?_
      refine go_iload_n (k4 := 2) rfl dX7_reachGoal_122 ?_
      obtain ⟨g28, hs⟩ := gO_at hs
      obtain ⟨y27, ey27, hs⟩ := bindS hs
      refine go_V1 (As := [.int v18, .int x2]) (st := []) g28 rfl rfl (oX7_isGoal (d := d - 1) (by omega) ey27) (by omega) mb_X7_isGoal lm_RX7_95 mi_X7_isGoal (Nat.le_of_ble_eq_true rfl) rfl dX7_reachGoal_123 ?_
      refine go_if_eq (tgt := 132) (by decide) dX7_reachGoal_126 (fun c => ?_) (fun c => ?_)
      · have hs := if_t c hs
        exact go_subL (L' := [some (.ref x0), none, some (.int x2), some (.int x3), some (.int x4), some (.int x5), some (.int v18)]) (by simp [subL, va_rf]) (oX7_reachGoal_132 hd hs hk)
      · have hs := if_f c hs
        refine go_iload rfl dX7_reachGoal_129 ?_
        obtain rfl := Option.some.inj hs
        obtain ⟨rfl, rfl⟩ := hk
        exact go_iret rfl dX7_reachGoal_131
theorem oX7_reachGoal_74 {d : Nat} (hd : 4 ≤ d) {h : Hp} {x0 : Nat} {x2 : Int32} {x3 : Int32} {x4 : Int32} {x5 : Int32} {rf : Option Value} {hf : Hp} {x : ((Int32 × Hp) ⊕ (Int32 × Hp))} (hs : fX7_reachGoal_74 h x0 x2 x3 x4 x5 = some x) (hk : (Kx (pX7_reachGoal_23 d x0 x2 rf hf) (kX7_reachGoal rf hf)) x) : Go d mX7_reachGoal 74 [some (.ref x0), none, some (.int x2), some (.int x3), some (.int x4), some (.int x5), none] [] h rf hf := by
  unfold fX7_reachGoal_74 at hs
  exact lpw_go (P := pX7_reachGoal_74 d x0 x2 x3 x4 rf hf) (fun s x hs hk => oX7_reachGoal_74b hd hs hk) (x5, h) x hs hk
noncomputable def fX7_reachGoal_23b (h : Hp) (x0 : Nat) (x2 : Int32) (x3 : Int32) : Option ((Int32 × Hp) ⊕ (Int32 × Hp)) :=
  (gI h 7 x0 12).bind fun v7 =>
  if v7 ≤ x3 then (
  (fX7_reachGoal_163 h ).map (fun q => .inr q)) else (
    if (20000 : Int32) ≤ x3 then (
    (fX7_reachGoal_163 h ).map (fun q => .inr q)) else (
      (gN h 7 x0 5).bind fun v8 =>
      (aI 0 h v8 x3).bind fun v9 =>
      if v9 < (10000 : Int32) then (
        (gN h 7 x0 0).bind fun v10 =>
        (gN h 7 x0 9).bind fun v11 =>
        gO h 1 v10 (
        (fX1_spread h v10 v9 (0 : Int32) v11).bind fun y12 =>
        fX7_reachGoal_74 y12 x0 x2 x3 v9 (0 : Int32))) else (
        fX7_reachGoal_157 h x0 x2 x3)))
noncomputable def fX7_reachGoal_23 (h : Hp) (x0 : Nat) (x2 : Int32) (x3 : Int32) : Option (Int32 × Hp) := lpw (σ := (Int32 × Hp)) (fun s => fX7_reachGoal_23b s.2 x0 x2 s.1) (x3, h)
theorem oX7_reachGoal_23b {d : Nat} (hd : 4 ≤ d) {h : Hp} {x0 : Nat} {x2 : Int32} {x3 : Int32} {rf : Option Value} {hf : Hp} {x : ((Int32 × Hp) ⊕ (Int32 × Hp))} (hs : fX7_reachGoal_23b h x0 x2 x3 = some x) (hk : (Kx (pX7_reachGoal_23 d x0 x2 rf hf) (kX7_reachGoal rf hf)) x) : Go d mX7_reachGoal 23 [some (.ref x0), none, some (.int x2), some (.int x3), none, none, none] [] h rf hf := by
  unfold fX7_reachGoal_23b at hs
  refine go_iload_n (k4 := 3) rfl dX7_reachGoal_23 ?_
  refine go_aload_n (k4 := 0) rfl (Or.inr ⟨_, rfl⟩) dX7_reachGoal_24 ?_
  obtain ⟨v7, ev7, hs⟩ := bindS hs
  refine go_gI fl_RX7_44 ev7 dX7_reachGoal_25 ?_
  refine go_icmp_ge (tgt := 163) (by decide) dX7_reachGoal_28 (fun c => ?_) (fun c => ?_)
  · have hs := if_t c hs
    obtain ⟨q, hs2, hq⟩ := mapS hs
    clear hs
    subst hq
    exact go_subL (L' := [none, none, none, none, none, none, none]) (by simp [subL, va_rf]) (oX7_reachGoal_163 hd hs2 hk)
  · have hs := if_f c hs
    refine go_iload_n (k4 := 3) rfl dX7_reachGoal_31 ?_
    refine go_sipush (v := 20000) (by decide) dX7_reachGoal_32 ?_
    refine go_icmp_ge (tgt := 163) (by decide) dX7_reachGoal_35 (fun c => ?_) (fun c => ?_)
    · have hs := if_t c hs
      obtain ⟨q, hs2, hq⟩ := mapS hs
      clear hs
      subst hq
      exact go_subL (L' := [none, none, none, none, none, none, none]) (by simp [subL, va_rf]) (oX7_reachGoal_163 hd hs2 hk)
    · have hs := if_f c hs
      refine go_aload_n (k4 := 0) rfl (Or.inr ⟨_, rfl⟩) dX7_reachGoal_38 ?_
      obtain ⟨v8, ev8, hs⟩ := bindS hs
      refine go_gN fl_RX7_22 ev8 dX7_reachGoal_39 ?_
      refine go_iload_n (k4 := 3) rfl dX7_reachGoal_42 ?_
      obtain ⟨v9, ev9, hs⟩ := bindS hs
      refine go_aIi ev9 dX7_reachGoal_43 ?_
      refine go_istore (L' := [some (.ref x0), none, some (.int x2), some (.int x3), some (.int v9), none, none]) (by decide) rfl dX7_reachGoal_44 ?_
      refine go_iload rfl dX7_reachGoal_46 ?_
      refine go_sipush (v := 10000) (by decide) dX7_reachGoal_48 ?_
      refine go_at 51 rfl ?_
      refine go_icmp_lt (tgt := 57) (by decide) dX7_reachGoal_51 (fun c => ?_) (fun c => ?_)
      · have hs := if_t c hs
        refine go_aload_n (k4 := 0) rfl (Or.inr ⟨_, rfl⟩) dX7_reachGoal_57 ?_
        obtain ⟨v10, ev10, hs⟩ := bindS hs
        refine go_gN fl_RX7_60 ev10 dX7_reachGoal_58 ?_
        refine go_iload rfl dX7_reachGoal_61 ?_
        refine go_iconst (v := 0) (by decide) dX7_reachGoal_63 ?_
        refine go_aload_n (k4 := 0) rfl (Or.inr ⟨_, rfl⟩) dX7_reachGoal_64 ?_
        obtain ⟨v11, ev11, hs⟩ := bindS hs
        refine go_gN fl_RX7_35 ev11 dX7_reachGoal_65 ?_
        obtain ⟨g13, hs⟩ := gO_at hs
        obtain ⟨y12, ey12, hs⟩ := bindS hs
        refine go_V0 (As := [.int v9, .int (0 : Int32), .ref v11]) (st := []) g13 rfl rfl (oX1_spread (d := d - 1) (by omega) ey12) (by omega) mb_X1_spread lm_RX7_99 mi_X1_spread (Nat.le_of_ble_eq_true rfl) rfl dX7_reachGoal_68 ?_
        refine go_at 71 rfl ?_
        refine go_iconst (v := 0) (by decide) dX7_reachGoal_71 ?_
        refine go_istore (L' := [some (.ref x0), none, some (.int x2), some (.int x3), some (.int v9), some (.int (0 : Int32)), none]) (by decide) rfl dX7_reachGoal_72 ?_
        exact go_subL (L' := [some (.ref x0), none, some (.int x2), some (.int x3), some (.int v9), some (.int (0 : Int32)), none]) (by simp [subL, va_rf]) (oX7_reachGoal_74 hd hs hk)
      · have hs := if_f c hs
        refine go_goto (tgt := 157) (by decide) dX7_reachGoal_54 ?_
        exact go_subL (L' := [some (.ref x0), none, some (.int x2), some (.int x3), none, none, none]) (by simp [subL, va_rf]) (oX7_reachGoal_157 hd hs hk)
theorem oX7_reachGoal_23 {d : Nat} (hd : 4 ≤ d) {h : Hp} {x0 : Nat} {x2 : Int32} {x3 : Int32} {rf : Option Value} {hf : Hp} {x : (Int32 × Hp)} (hs : fX7_reachGoal_23 h x0 x2 x3 = some x) (hk : (kX7_reachGoal rf hf) x) : Go d mX7_reachGoal 23 [some (.ref x0), none, some (.int x2), some (.int x3), none, none, none] [] h rf hf := by
  unfold fX7_reachGoal_23 at hs
  exact lpw_go (P := pX7_reachGoal_23 d x0 x2 rf hf) (fun s x hs hk => oX7_reachGoal_23b hd hs hk) (x3, h) x hs hk
noncomputable def fX7_reachGoal (h : Hp) (x0 : Nat) (x1 : Int32) (x2 : Int32) : Option (Int32 × Hp) :=
  gO h 7 x0 (
  (fX7_begin h x0).bind fun y1 =>
  gO y1 7 x0 (
  (fX7_reach y1 x0 x1 (-1 : Int32)).bind fun y3 =>
  gO y3 7 x0 (
  (fX7_isGoal y3 x0 x1 x2).bind fun y5 =>
  if y5 = 0 then (
    fX7_reachGoal_23 y3 x0 x2 (0 : Int32)) else (
    some ((x1, y3))))))
theorem oX7_reachGoal_0 {d : Nat} (hd : 4 ≤ d) {h : Hp} {x0 : Nat} {x1 : Int32} {x2 : Int32} {rf : Option Value} {hf : Hp} {x : (Int32 × Hp)} (hs : fX7_reachGoal h x0 x1 x2 = some x) (hk : (kX7_reachGoal rf hf) x) : Go d mX7_reachGoal 0 [some (.ref x0), some (.int x1), some (.int x2), none, none, none, none] [] h rf hf := by
  unfold fX7_reachGoal at hs
  refine go_aload_n (k4 := 0) rfl (Or.inr ⟨_, rfl⟩) dX7_reachGoal_0 ?_
  obtain ⟨g2, hs⟩ := gO_at hs
  obtain ⟨y1, ey1, hs⟩ := bindS hs
  refine go_V0 (As := []) (st := []) g2 rfl rfl (oX7_begin (d := d - 1) (by omega) ey1) (by omega) mb_X7_begin lm_RX7_88 mi_X7_begin (Nat.le_of_ble_eq_true rfl) rfl dX7_reachGoal_1 ?_
  refine go_aload_n (k4 := 0) rfl (Or.inr ⟨_, rfl⟩) dX7_reachGoal_4 ?_
  refine go_iload_n (k4 := 1) rfl dX7_reachGoal_5 ?_
  refine go_iconst (v := -1) (by decide) dX7_reachGoal_6 ?_
  obtain ⟨g4, hs⟩ := gO_at hs
  obtain ⟨y3, ey3, hs⟩ := bindS hs
  refine go_V0 (As := [.int x1, .int (-1 : Int32)]) (st := []) g4 rfl rfl (oX7_reach (d := d - 1) (by omega) ey3) (by omega) mb_X7_reach lm_RX7_91 mi_X7_reach (Nat.le_of_ble_eq_true rfl) rfl dX7_reachGoal_7 ?_
  refine go_aload_n (k4 := 0) rfl (Or.inr ⟨_, rfl⟩) dX7_reachGoal_10 ?_
  refine go_at 11 rfl ?_
  refine go_iload_n (k4 := 1) rfl dX7_reachGoal_11 ?_
  refine go_iload_n (k4 := 2) rfl dX7_reachGoal_12 ?_
  obtain ⟨g6, hs⟩ := gO_at hs
  obtain ⟨y5, ey5, hs⟩ := bindS hs
  refine go_V1 (As := [.int x1, .int x2]) (st := []) g6 rfl rfl (oX7_isGoal (d := d - 1) (by omega) ey5) (by omega) mb_X7_isGoal lm_RX7_95 mi_X7_isGoal (Nat.le_of_ble_eq_true rfl) rfl dX7_reachGoal_13 ?_
  refine go_if_eq (tgt := 21) (by decide) dX7_reachGoal_16 (fun c => ?_) (fun c => ?_)
  · have hs := if_t c hs
    refine go_iconst (v := 0) (by decide) dX7_reachGoal_21 ?_
    refine go_istore_n (k4 := 3) (L' := [some (.ref x0), some (.int x1), some (.int x2), some (.int (0 : Int32)), none, none, none]) (by decide) rfl dX7_reachGoal_22 ?_
    exact go_subL (L' := [some (.ref x0), none, some (.int x2), some (.int (0 : Int32)), none, none, none]) (by simp [subL, va_rf]) (oX7_reachGoal_23 hd hs hk)
  · have hs := if_f c hs
    refine go_iload_n (k4 := 1) rfl dX7_reachGoal_19 ?_
    obtain rfl := Option.some.inj hs
    obtain ⟨rfl, rfl⟩ := hk
    exact go_iret rfl dX7_reachGoal_20
theorem oX7_reachGoal {d : Nat} (hd : 4 ≤ d) {h : Hp} {x0 : Nat} {x1 : Int32} {x2 : Int32} {y : (Int32 × Hp)} (hs : fX7_reachGoal h x0 x1 x2 = some y) : Call d mX7_reachGoal [.ref x0, .int x1, .int x2] h (some (.int y.1)) (y.2) := call_of (by decide +kernel) (Nat.le_of_ble_eq_true rfl) (show Go d mX7_reachGoal 0 [some (.ref x0), some (.int x1), some (.int x2), none, none, none, none] [] h _ _ from go_subL (by simp [subL]) (oX7_reachGoal_0 hd hs ⟨rfl, rfl⟩))
