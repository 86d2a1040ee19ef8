/-! methods: their texts as functions, and that the machine does just that -/
abbrev kX7_explore (rf : Option Value) (hf : Hp) : (Int32 × Hp) → Prop := fun y => rf = some (.int y.1) ∧ hf = y.2
noncomputable def fX7_explore_48 (h : Hp) (x0 : Nat) : Option (Int32 × Hp) :=
  (gI h 7 x0 16).bind fun v8 =>
  some ((v8, h))
theorem oX7_explore_48 {d : Nat} (hd : 5 ≤ d) {h : Hp} {x0 : Nat} {rf : Option Value} {hf : Hp} {x : (Int32 × Hp)} (hs : fX7_explore_48 h x0 = some x) (hk : (kX7_explore rf hf) x) : Go d mX7_explore 48 [some (.ref x0), none, none] [] h rf hf := by
  unfold fX7_explore_48 at hs
  refine go_aload_n (k4 := 0) rfl (Or.inr ⟨_, rfl⟩) dX7_explore_48 ?_
  obtain ⟨v8, ev8, hs⟩ := bindS hs
  refine go_gI fl_RX7_57 ev8 dX7_explore_49 ?_
  obtain rfl := Option.some.inj hs
  obtain ⟨rfl, rfl⟩ := hk
  exact go_iret rfl dX7_explore_52
noncomputable def fX7_explore_23 (h : Hp) (x0 : Nat) (x1 : Int32) (x2 : Int32) : Option (Int32 × Hp) :=
  gO h 7 x0 (
  (fX7_reachGoal h x0 x1 x2).bind fun y2 =>
  (sV y2.2 7 x0 16 (.int y2.1)).bind fun h4 =>
  (sV h4 7 x0 14 (.int x1)).bind fun h5 =>
  (sV h5 7 x0 15 (.int x2)).bind fun h6 =>
  (sV h6 7 x0 13 (.int (1 : Int32))).bind fun h7 =>
  fX7_explore_48 h7 x0)
theorem oX7_explore_23 {d : Nat} (hd : 5 ≤ d) {h : Hp} {x0 : Nat} {x1 : Int32} {x2 : Int32} {rf : Option Value} {hf : Hp} {x : (Int32 × Hp)} (hs : fX7_explore_23 h x0 x1 x2 = some x) (hk : (kX7_explore rf hf) x) : Go d mX7_explore 23 [some (.ref x0), some (.int x1), some (.int x2)] [] h rf hf := by
  unfold fX7_explore_23 at hs
  refine go_aload_n (k4 := 0) rfl (Or.inr ⟨_, rfl⟩) dX7_explore_23 ?_
  refine go_aload_n (k4 := 0) rfl (Or.inr ⟨_, rfl⟩) dX7_explore_24 ?_
  refine go_iload_n (k4 := 1) rfl dX7_explore_25 ?_
  refine go_iload_n (k4 := 2) rfl dX7_explore_26 ?_
  obtain ⟨g3, hs⟩ := gO_at hs
  obtain ⟨y2, ey2, hs⟩ := bindS hs
  refine go_V1 (As := [.int x1, .int x2]) (st := [.ref x0]) g3 rfl rfl (oX7_reachGoal (d := d - 1) (by omega) ey2) (by omega) mb_X7_reachGoal lm_RX7_84 mi_X7_reachGoal (Nat.le_of_ble_eq_true rfl) rfl dX7_explore_27 ?_
  obtain ⟨h4, eh4, hs⟩ := bindS hs
  refine go_sV fw_RX7_57 eh4 rfl rfl dX7_explore_30 ?_
  refine go_aload_n (k4 := 0) rfl (Or.inr ⟨_, rfl⟩) dX7_explore_33 ?_
  refine go_at 34 rfl ?_
  refine go_iload_n (k4 := 1) rfl dX7_explore_34 ?_
  obtain ⟨h5, eh5, hs⟩ := bindS hs
  refine go_sV fw_RX7_51 eh5 rfl rfl dX7_explore_35 ?_
  refine go_aload_n (k4 := 0) rfl (Or.inr ⟨_, rfl⟩) dX7_explore_38 ?_
  refine go_iload_n (k4 := 2) rfl dX7_explore_39 ?_
  obtain ⟨h6, eh6, hs⟩ := bindS hs
  refine go_sV fw_RX7_54 eh6 rfl rfl dX7_explore_40 ?_
  refine go_aload_n (k4 := 0) rfl (Or.inr ⟨_, rfl⟩) dX7_explore_43 ?_
  refine go_iconst (v := 1) (by decide) dX7_explore_44 ?_
  obtain ⟨h7, eh7, hs⟩ := bindS hs
  refine go_sV fw_RX7_47 eh7 rfl rfl dX7_explore_45 ?_
  exact go_subL (L' := [some (.ref x0), none, none]) (by simp [subL, va_rf]) (oX7_explore_48 hd hs hk)
noncomputable def fX7_explore (h : Hp) (x0 : Nat) (x1 : Int32) (x2 : Int32) : Option (Int32 × Hp) :=
  (gI h 7 x0 13).bind fun v1 =>
  if v1 = 0 then (
  fX7_explore_23 h x0 x1 x2) else (
    (gI h 7 x0 14).bind fun v9 =>
    if v9 = x1 then (
      (gI h 7 x0 15).bind fun v10 =>
      if v10 = x2 then (
      fX7_explore_48 h x0) else (
      fX7_explore_23 h x0 x1 x2)) else (
    fX7_explore_23 h x0 x1 x2))
theorem oX7_explore_0 {d : Nat} (hd : 5 ≤ d) {h : Hp} {x0 : Nat} {x1 : Int32} {x2 : Int32} {rf : Option Value} {hf : Hp} {x : (Int32 × Hp)} (hs : fX7_explore h x0 x1 x2 = some x) (hk : (kX7_explore rf hf) x) : Go d mX7_explore 0 [some (.ref x0), some (.int x1), some (.int x2)] [] h rf hf := by
  unfold fX7_explore at hs
  refine go_aload_n (k4 := 0) rfl (Or.inr ⟨_, rfl⟩) dX7_explore_0 ?_
  obtain ⟨v1, ev1, hs⟩ := bindS hs
  refine go_gI fl_RX7_47 ev1 dX7_explore_1 ?_
  refine go_if_eq (tgt := 23) (by decide) dX7_explore_4 (fun c => ?_) (fun c => ?_)
  · have hs := if_t c hs
    exact go_subL (L' := [some (.ref x0), some (.int x1), some (.int x2)]) (by simp [subL, va_rf]) (oX7_explore_23 hd hs hk)
  · have hs := if_f c hs
    refine go_aload_n (k4 := 0) rfl (Or.inr ⟨_, rfl⟩) dX7_explore_7 ?_
    obtain ⟨v9, ev9, hs⟩ := bindS hs
    refine go_gI fl_RX7_51 ev9 dX7_explore_8 ?_
    refine go_iload_n (k4 := 1) rfl dX7_explore_11 ?_
    refine go_icmp_ne (tgt := 23) (by decide) dX7_explore_12 (fun c => ?_) (fun c => ?_)
    · have hs := if_f c hs
      exact go_subL (L' := [some (.ref x0), some (.int x1), some (.int x2)]) (by simp [subL, va_rf]) (oX7_explore_23 hd hs hk)
    · have hs := if_t c hs
      refine go_aload_n (k4 := 0) rfl (Or.inr ⟨_, rfl⟩) dX7_explore_15 ?_
      obtain ⟨v10, ev10, hs⟩ := bindS hs
      refine go_gI fl_RX7_54 ev10 dX7_explore_16 ?_
      refine go_iload_n (k4 := 2) rfl dX7_explore_19 ?_
      refine go_icmp_eq (tgt := 48) (by decide) dX7_explore_20 (fun c => ?_) (fun c => ?_)
      · have hs := if_t c hs
        exact go_subL (L' := [some (.ref x0), none, none]) (by simp [subL, va_rf]) (oX7_explore_48 hd hs hk)
      · have hs := if_f c hs
        exact go_subL (L' := [some (.ref x0), some (.int x1), some (.int x2)]) (by simp [subL, va_rf]) (oX7_explore_23 hd hs hk)
theorem oX7_explore {d : Nat} (hd : 5 ≤ d) {h : Hp} {x0 : Nat} {x1 : Int32} {x2 : Int32} {y : (Int32 × Hp)} (hs : fX7_explore h x0 x1 x2 = some y) : Call d mX7_explore [.ref x0, .int x1, .int x2] h (some (.int y.1)) (y.2) := call_of (by decide +kernel) (Nat.le_of_ble_eq_true rfl) (show Go d mX7_explore 0 [some (.ref x0), some (.int x1), some (.int x2)] [] h _ _ from go_subL (by simp [subL]) (oX7_explore_0 hd hs ⟨rfl, rfl⟩))
abbrev kX7_linkOf (h : Hp) (rf : Option Value) (hf : Hp) : Int32 → Prop := fun y => rf = some (.int y) ∧ hf = h
noncomputable def fX7_linkOf_17 (h : Hp) (s0 : Int32) : Option Int32 :=
  some (s0)
theorem oX7_linkOf_17 {d : Nat} (hd : 1 ≤ d) {h : Hp} {s0 : Int32} {rf : Option Value} {hf : Hp} {x : Int32} (hs : fX7_linkOf_17 h s0 = some x) (hk : (kX7_linkOf h rf hf) x) : Go d mX7_linkOf 17 [none, none] [.int s0] h rf hf := by
  unfold fX7_linkOf_17 at hs
  obtain rfl := Option.some.inj hs
  obtain ⟨rfl, rfl⟩ := hk
  exact go_iret rfl dX7_linkOf_17
noncomputable def fX7_linkOf (h : Hp) (x0 : Nat) (x1 : Int32) : Option Int32 :=
  (fX7_isState h x1).bind fun y1 =>
  if y1 = 0 then (
    fX7_linkOf_17 h (-1 : Int32)) else (
    (gN h 7 x0 6).bind fun v2 =>
    (aI 0 h v2 x1).bind fun v3 =>
    fX7_linkOf_17 h v3)
theorem oX7_linkOf_0 {d : Nat} (hd : 1 ≤ d) {h : Hp} {x0 : Nat} {x1 : Int32} {rf : Option Value} {hf : Hp} {x : Int32} (hs : fX7_linkOf h x0 x1 = some x) (hk : (kX7_linkOf h rf hf) x) : Go d mX7_linkOf 0 [some (.ref x0), some (.int x1)] [] h rf hf := by
  unfold fX7_linkOf at hs
  refine go_iload_n (k4 := 1) rfl dX7_linkOf_0 ?_
  obtain ⟨y1, ey1, hs⟩ := bindS hs
  refine go_S1 (As := [.int x1]) (st := []) (oX7_isState (d := d - 1) (by omega) ey1) (by omega) mb_X7_isState lm_RX7_74 ms_X7_isState (Nat.le_of_ble_eq_true rfl) rfl dX7_linkOf_1 ?_
  refine go_if_eq (tgt := 16) (by decide) dX7_linkOf_4 (fun c => ?_) (fun c => ?_)
  · have hs := if_t c hs
    refine go_iconst (v := -1) (by decide) dX7_linkOf_16 ?_
    exact go_subL (L' := [none, none]) (by simp [subL, va_rf]) (oX7_linkOf_17 hd hs hk)
  · have hs := if_f c hs
    refine go_aload_n (k4 := 0) rfl (Or.inr ⟨_, rfl⟩) dX7_linkOf_7 ?_
    obtain ⟨v2, ev2, hs⟩ := bindS hs
    refine go_gN fl_RX7_25 ev2 dX7_linkOf_8 ?_
    refine go_iload_n (k4 := 1) rfl dX7_linkOf_11 ?_
    obtain ⟨v3, ev3, hs⟩ := bindS hs
    refine go_aIi ev3 dX7_linkOf_12 ?_
    refine go_goto (tgt := 17) (by decide) dX7_linkOf_13 ?_
    exact go_subL (L' := [none, none]) (by simp [subL, va_rf]) (oX7_linkOf_17 hd hs hk)
theorem oX7_linkOf {d : Nat} (hd : 1 ≤ d) {h : Hp} {x0 : Nat} {x1 : Int32} {y : Int32} (hs : fX7_linkOf h x0 x1 = some y) : Call d mX7_linkOf [.ref x0, .int x1] h (some (.int y)) h := call_of (by decide +kernel) (Nat.le_of_ble_eq_true rfl) (show Go d mX7_linkOf 0 [some (.ref x0), some (.int x1)] [] h _ _ from go_subL (by simp [subL]) (oX7_linkOf_0 hd hs ⟨rfl, rfl⟩))
abbrev kX7_lengthTo (h : Hp) (rf : Option Value) (hf : Hp) : Int32 → Prop := fun y => rf = some (.int y) ∧ hf = h
abbrev pX7_lengthTo_15 (d : Nat) (h : Hp) (x0 : Nat) (rf : Option Value) (hf : Hp) : (Int32 × Int32) → Prop := fun s => Go d mX7_lengthTo 15 [some (.ref x0), none, some (.int s.1), some (.int s.2)] [] h rf hf
noncomputable def fX7_lengthTo_42 (h : Hp) (x2 : Int32) : Option Int32 :=
  some (x2)
theorem oX7_lengthTo_42 {d : Nat} (hd : 2 ≤ d) {h : Hp} {x2 : Int32} {rf : Option Value} {hf : Hp} {x : Int32} (hs : fX7_lengthTo_42 h x2 = some x) (hk : (kX7_lengthTo h rf hf) x) : Go d mX7_lengthTo 42 [none, none, some (.int x2), none] [] h rf hf := by
  unfold fX7_lengthTo_42 at hs
  refine go_iload_n (k4 := 2) rfl dX7_lengthTo_42 ?_
  obtain rfl := Option.some.inj hs
  obtain ⟨rfl, rfl⟩ := hk
  exact go_iret rfl dX7_lengthTo_43
noncomputable def fX7_lengthTo_15b (h : Hp) (x0 : Nat) (x2 : Int32) (x3 : Int32) : Option ((Int32 × Int32) ⊕ Int32) :=
  if x3 = (-1 : Int32) then (
  (fX7_lengthTo_42 h x2).map (fun q => .inr q)) else (
    if (20000 : Int32) ≤ x2 then (
    (fX7_lengthTo_42 h x2).map (fun q => .inr q)) else (
      (dv x3 (35 : Int32)).bind fun v3 =>
      gO h 7 x0 (
      (fX7_linkOf h x0 v3).bind fun y4 =>
      some (.inl ((x2 + Int32.ofInt 1), y4)))))
noncomputable def fX7_lengthTo_15 (h : Hp) (x0 : Nat) (x2 : Int32) (x3 : Int32) : Option Int32 := lpw (σ := (Int32 × Int32)) (fun s => fX7_lengthTo_15b h x0 s.1 s.2) (x2, x3)
theorem oX7_lengthTo_15b {d : Nat} (hd : 2 ≤ d) {h : Hp} {x0 : Nat} {x2 : Int32} {x3 : Int32} {rf : Option Value} {hf : Hp} {x : ((Int32 × Int32) ⊕ Int32)} (hs : fX7_lengthTo_15b h x0 x2 x3 = some x) (hk : (Kx (pX7_lengthTo_15 d h x0 rf hf) (kX7_lengthTo h rf hf)) x) : Go d mX7_lengthTo 15 [some (.ref x0), none, some (.int x2), some (.int x3)] [] h rf hf := by
  unfold fX7_lengthTo_15b at hs
  refine go_iload_n (k4 := 3) rfl dX7_lengthTo_15 ?_
  refine go_iconst (v := -1) (by decide) dX7_lengthTo_16 ?_
  refine go_icmp_eq (tgt := 42) (by decide) dX7_lengthTo_17 (fun c => ?_) (fun c => ?_)
  · have hs := if_t c hs
    obtain ⟨q, hs2, hq⟩ := mapS hs
    clear hs
    subst hq
    exact go_subL (L' := [none, none, some (.int x2), none]) (by simp [subL, va_rf]) (oX7_lengthTo_42 hd hs2 hk)
  · have hs := if_f c hs
    refine go_iload_n (k4 := 2) rfl dX7_lengthTo_20 ?_
    refine go_sipush (v := 20000) (by decide) dX7_lengthTo_21 ?_
    refine go_icmp_ge (tgt := 42) (by decide) dX7_lengthTo_24 (fun c => ?_) (fun c => ?_)
    · have hs := if_t c hs
      obtain ⟨q, hs2, hq⟩ := mapS hs
      clear hs
      subst hq
      exact go_subL (L' := [none, none, some (.int x2), none]) (by simp [subL, va_rf]) (oX7_lengthTo_42 hd hs2 hk)
    · have hs := if_f c hs
      refine go_aload_n (k4 := 0) rfl (Or.inr ⟨_, rfl⟩) dX7_lengthTo_27 ?_
      refine go_iload_n (k4 := 3) rfl dX7_lengthTo_28 ?_
      refine go_bipush (v := 35) (by decide) dX7_lengthTo_29 ?_
      obtain ⟨v3, ev3, hs⟩ := bindS hs
      refine go_dv ev3 dX7_lengthTo_31 ?_
      obtain ⟨g5, hs⟩ := gO_at hs
      obtain ⟨y4, ey4, hs⟩ := bindS hs
      refine go_V1 (As := [.int v3]) (st := []) g5 rfl rfl (oX7_linkOf (d := d - 1) (by omega) ey4) (by omega) mb_X7_linkOf lm_RX7_109 mi_X7_linkOf (Nat.le_of_ble_eq_true rfl) rfl dX7_lengthTo_32 ?_
      refine go_istore_n (k4 := 3) (L' := [some (.ref x0), none, some (.int x2), some (.int y4)]) (by decide) rfl dX7_lengthTo_35 ?_
      refine go_iinc (L' := [some (.ref x0), none, some (.int (x2 + Int32.ofInt 1)), some (.int y4)]) rfl (by decide) rfl rfl dX7_lengthTo_36 ?_
      refine go_at 39 rfl ?_
      refine go_goto (tgt := 15) (by decide) dX7_lengthTo_39 ?_
      obtain rfl := Option.some.inj hs
      exact go_subL (L' := [some (.ref x0), none, some (.int (x2 + Int32.ofInt 1)), some (.int y4)]) (by simp [subL, va_rf]) hk
theorem oX7_lengthTo_15 {d : Nat} (hd : 2 ≤ d) {h : Hp} {x0 : Nat} {x2 : Int32} {x3 : Int32} {rf : Option Value} {hf : Hp} {x : Int32} (hs : fX7_lengthTo_15 h x0 x2 x3 = some x) (hk : (kX7_lengthTo h rf hf) x) : Go d mX7_lengthTo 15 [some (.ref x0), none, some (.int x2), some (.int x3)] [] h rf hf := by
  unfold fX7_lengthTo_15 at hs
  exact lpw_go (P := pX7_lengthTo_15 d h x0 rf hf) (fun s x hs hk => oX7_lengthTo_15b hd hs hk) (x2, x3) x hs hk
noncomputable def fX7_lengthTo (h : Hp) (x0 : Nat) (x1 : Int32) : Option Int32 :=
  if x1 = (-1 : Int32) then (
    some ((-1 : Int32))) else (
    gO h 7 x0 (
    (fX7_linkOf h x0 x1).bind fun y1 =>
    fX7_lengthTo_15 h x0 (0 : Int32) y1))
theorem oX7_lengthTo_0 {d : Nat} (hd : 2 ≤ d) {h : Hp} {x0 : Nat} {x1 : Int32} {rf : Option Value} {hf : Hp} {x : Int32} (hs : fX7_lengthTo h x0 x1 = some x) (hk : (kX7_lengthTo h rf hf) x) : Go d mX7_lengthTo 0 [some (.ref x0), some (.int x1), none, none] [] h rf hf := by
  unfold fX7_lengthTo at hs
  refine go_iload_n (k4 := 1) rfl dX7_lengthTo_0 ?_
  refine go_iconst (v := -1) (by decide) dX7_lengthTo_1 ?_
  refine go_icmp_ne (tgt := 7) (by decide) dX7_lengthTo_2 (fun c => ?_) (fun c => ?_)
  · have hs := if_f c hs
    refine go_iconst (v := 0) (by decide) dX7_lengthTo_7 ?_
    refine go_istore_n (k4 := 2) (L' := [some (.ref x0), some (.int x1), some (.int (0 : Int32)), none]) (by decide) rfl dX7_lengthTo_8 ?_
    refine go_aload_n (k4 := 0) rfl (Or.inr ⟨_, rfl⟩) dX7_lengthTo_9 ?_
    refine go_iload_n (k4 := 1) rfl dX7_lengthTo_10 ?_
    obtain ⟨g2, hs⟩ := gO_at hs
    obtain ⟨y1, ey1, hs⟩ := bindS hs
    refine go_V1 (As := [.int x1]) (st := []) g2 rfl rfl (oX7_linkOf (d := d - 1) (by omega) ey1) (by omega) mb_X7_linkOf lm_RX7_109 mi_X7_linkOf (Nat.le_of_ble_eq_true rfl) rfl dX7_lengthTo_11 ?_
    refine go_istore_n (k4 := 3) (L' := [some (.ref x0), some (.int x1), some (.int (0 : Int32)), some (.int y1)]) (by decide) rfl dX7_lengthTo_14 ?_
    exact go_subL (L' := [some (.ref x0), none, some (.int (0 : Int32)), some (.int y1)]) (by simp [subL, va_rf]) (oX7_lengthTo_15 hd hs hk)
  · have hs := if_t c hs
    refine go_iconst (v := -1) (by decide) dX7_lengthTo_5 ?_
    obtain rfl := Option.some.inj hs
    obtain ⟨rfl, rfl⟩ := hk
    exact go_iret rfl dX7_lengthTo_6
theorem oX7_lengthTo {d : Nat} (hd : 2 ≤ d) {h : Hp} {x0 : Nat} {x1 : Int32} {y : Int32} (hs : fX7_lengthTo h x0 x1 = some y) : Call d mX7_lengthTo [.ref x0, .int x1] h (some (.int y)) h := call_of (by decide +kernel) (Nat.le_of_ble_eq_true rfl) (show Go d mX7_lengthTo 0 [some (.ref x0), some (.int x1), none, none] [] h _ _ from go_subL (by simp [subL]) (oX7_lengthTo_0 hd hs ⟨rfl, rfl⟩))
abbrev kX11_soonest (rf : Option Value) (hf : Hp) : (Int32 × Hp) → Prop := fun y => rf = some (.int y.1) ∧ hf = y.2
noncomputable def fX11_soonest (h : Hp) (x0 : Nat) (x1 : Int32) : Option (Int32 × Hp) :=
  gO h 11 x0 (
  (fX11_isSet h x0 x1).bind fun y1 =>
  if y1 = 0 then (
    some (((-3 : Int32), h))) else (
    gO h 11 x0 (
    (fX11_searching h x0).bind fun y3 =>
    (gN y3.2 11 x0 4).bind fun v5 =>
    (gI y3.2 8 v5 0).bind fun v6 =>
    gO y3.2 7 y3.1 (
    (fX7_explore y3.2 y3.1 v6 x1).bind fun y7 =>
    gO y7.2 7 y3.1 (
    (fX7_lengthTo y7.2 y3.1 y7.1).bind fun y9 =>
    some ((y9, y7.2)))))))
theorem oX11_soonest_0 {d : Nat} (hd : 6 ≤ d) {h : Hp} {x0 : Nat} {x1 : Int32} {rf : Option Value} {hf : Hp} {x : (Int32 × Hp)} (hs : fX11_soonest h x0 x1 = some x) (hk : (kX11_soonest rf hf) x) : Go d mX11_soonest 0 [some (.ref x0), some (.int x1), none] [] h rf hf := by
  unfold fX11_soonest at hs
  refine go_aload_n (k4 := 0) rfl (Or.inr ⟨_, rfl⟩) dX11_soonest_0 ?_
  refine go_iload_n (k4 := 1) rfl dX11_soonest_1 ?_
  obtain ⟨g2, hs⟩ := gO_at hs
  obtain ⟨y1, ey1, hs⟩ := bindS hs
  refine go_V1 (As := [.int x1]) (st := []) g2 rfl rfl (oX11_isSet (d := d - 1) (by omega) ey1) (by omega) mb_X11_isSet lm_RX11_289 mi_X11_isSet (Nat.le_of_ble_eq_true rfl) rfl dX11_soonest_2 ?_
  refine go_if_ne (tgt := 11) (by decide) dX11_soonest_5 (fun c => ?_) (fun c => ?_)
  · have hs := if_f c hs
    refine go_aload_n (k4 := 0) rfl (Or.inr ⟨_, rfl⟩) dX11_soonest_11 ?_
    obtain ⟨g4, hs⟩ := gO_at hs
    obtain ⟨y3, ey3, hs⟩ := bindS hs
    refine go_V1 (As := []) (st := []) g4 rfl rfl (oX11_searching (d := d - 1) (by omega) ey3) (by omega) mb_X11_searching lm_RX11_292 mi_X11_searching (Nat.le_of_ble_eq_true rfl) rfl dX11_soonest_12 ?_
    refine go_astore_n (k4 := 2) (L' := [some (.ref x0), some (.int x1), some (.ref y3.1)]) (by decide) (Or.inr ⟨_, rfl⟩) rfl dX11_soonest_15 ?_
    refine go_aload_n (k4 := 2) rfl (Or.inr ⟨_, rfl⟩) dX11_soonest_16 ?_
    refine go_aload_n (k4 := 2) rfl (Or.inr ⟨_, rfl⟩) dX11_soonest_17 ?_
    refine go_aload_n (k4 := 0) rfl (Or.inr ⟨_, rfl⟩) dX11_soonest_18 ?_
    obtain ⟨v5, ev5, hs⟩ := bindS hs
    refine go_gN fl_RX11_36 ev5 dX11_soonest_19 ?_
    refine go_at 22 rfl ?_
    obtain ⟨v6, ev6, hs⟩ := bindS hs
    refine go_gI fl_RX11_142 ev6 dX11_soonest_22 ?_
    refine go_iload_n (k4 := 1) rfl dX11_soonest_25 ?_
    obtain ⟨g8, hs⟩ := gO_at hs
    obtain ⟨y7, ey7, hs⟩ := bindS hs
    refine go_V1 (As := [.int v6, .int x1]) (st := [.ref y3.1]) g8 rfl rfl (oX7_explore (d := d - 1) (by omega) ey7) (by omega) mb_X7_explore lm_RX11_296 mi_X7_explore (Nat.le_of_ble_eq_true rfl) rfl dX11_soonest_26 ?_
    obtain ⟨g10, hs⟩ := gO_at hs
    obtain ⟨y9, ey9, hs⟩ := bindS hs
    refine go_V1 (As := [.int y7.1]) (st := []) g10 rfl rfl (oX7_lengthTo (d := d - 1) (by omega) ey9) (by omega) mb_X7_lengthTo lm_RX11_299 mi_X7_lengthTo (Nat.le_of_ble_eq_true rfl) rfl dX11_soonest_29 ?_
    obtain rfl := Option.some.inj hs
    obtain ⟨rfl, rfl⟩ := hk
    exact go_iret rfl dX11_soonest_32
  · have hs := if_t c hs
    refine go_bipush (v := -3) (by decide) dX11_soonest_8 ?_
    obtain rfl := Option.some.inj hs
    obtain ⟨rfl, rfl⟩ := hk
    exact go_iret rfl dX11_soonest_10
theorem oX11_soonest {d : Nat} (hd : 6 ≤ d) {h : Hp} {x0 : Nat} {x1 : Int32} {y : (Int32 × Hp)} (hs : fX11_soonest h x0 x1 = some y) : Call d mX11_soonest [.ref x0, .int x1] h (some (.int y.1)) (y.2) := call_of (by decide +kernel) (Nat.le_of_ble_eq_true rfl) (show Go d mX11_soonest 0 [some (.ref x0), some (.int x1), none] [] h _ _ from go_subL (by simp [subL]) (oX11_soonest_0 hd hs ⟨rfl, rfl⟩))
abbrev kX0_leadingAt (h : Hp) (rf : Option Value) (hf : Hp) : Int32 → Prop := fun y => rf = some (.int y) ∧ hf = h
noncomputable def fX0_leadingAt_23 (h : Hp) (s0 : Int32) : Option Int32 :=
  some (s0)
theorem oX0_leadingAt_23 {d : Nat} (hd : 0 ≤ d) {h : Hp} {s0 : Int32} {rf : Option Value} {hf : Hp} {x : Int32} (hs : fX0_leadingAt_23 h s0 = some x) (hk : (kX0_leadingAt h rf hf) x) : Go d mX0_leadingAt 23 [none, none] [.int s0] h rf hf := by
  unfold fX0_leadingAt_23 at hs
  obtain rfl := Option.some.inj hs
  obtain ⟨rfl, rfl⟩ := hk
  exact go_iret rfl dX0_leadingAt_23
noncomputable def fX0_leadingAt_22 (h : Hp)  : Option Int32 :=
  fX0_leadingAt_23 h (-1 : Int32)
theorem oX0_leadingAt_22 {d : Nat} (hd : 0 ≤ d) {h : Hp} {rf : Option Value} {hf : Hp} {x : Int32} (hs : fX0_leadingAt_22 h  = some x) (hk : (kX0_leadingAt h rf hf) x) : Go d mX0_leadingAt 22 [none, none] [] h rf hf := by
  unfold fX0_leadingAt_22 at hs
  refine go_iconst (v := -1) (by decide) dX0_leadingAt_22 ?_
  exact go_subL (L' := [none, none]) (by simp [subL, va_rf]) (oX0_leadingAt_23 hd hs hk)
noncomputable def fX0_leadingAt (h : Hp) (x0 : Nat) (x1 : Int32) : Option Int32 :=
  if x1 < 0 then (
  fX0_leadingAt_22 h ) else (
    (gN h 0 x0 9).bind fun v1 =>
    (aL h v1).bind fun v2 =>
    if v2 ≤ x1 then (
    fX0_leadingAt_22 h ) else (
      (gN h 0 x0 9).bind fun v3 =>
      (aI 0 h v3 x1).bind fun v4 =>
      fX0_leadingAt_23 h v4))
theorem oX0_leadingAt_0 {d : Nat} (hd : 0 ≤ d) {h : Hp} {x0 : Nat} {x1 : Int32} {rf : Option Value} {hf : Hp} {x : Int32} (hs : fX0_leadingAt h x0 x1 = some x) (hk : (kX0_leadingAt h rf hf) x) : Go d mX0_leadingAt 0 [some (.ref x0), some (.int x1)] [] h rf hf := by
  unfold fX0_leadingAt at hs
  refine go_iload_n (k4 := 1) rfl dX0_leadingAt_0 ?_
  refine go_if_lt (tgt := 22) (by decide) dX0_leadingAt_1 (fun c => ?_) (fun c => ?_)
  · have hs := if_t c hs
    exact go_subL (L' := [none, none]) (by simp [subL, va_rf]) (oX0_leadingAt_22 hd hs hk)
  · have hs := if_f c hs
    refine go_iload_n (k4 := 1) rfl dX0_leadingAt_4 ?_
    refine go_aload_n (k4 := 0) rfl (Or.inr ⟨_, rfl⟩) dX0_leadingAt_5 ?_
    obtain ⟨v1, ev1, hs⟩ := bindS hs
    refine go_gN fl_RX0_61 ev1 dX0_leadingAt_6 ?_
    obtain ⟨v2, ev2, hs⟩ := bindS hs
    refine go_aL ev2 dX0_leadingAt_9 ?_
    refine go_icmp_ge (tgt := 22) (by decide) dX0_leadingAt_10 (fun c => ?_) (fun c => ?_)
    · have hs := if_t c hs
      exact go_subL (L' := [none, none]) (by simp [subL, va_rf]) (oX0_leadingAt_22 hd hs hk)
    · have hs := if_f c hs
      refine go_aload_n (k4 := 0) rfl (Or.inr ⟨_, rfl⟩) dX0_leadingAt_13 ?_
      obtain ⟨v3, ev3, hs⟩ := bindS hs
      refine go_gN fl_RX0_61 ev3 dX0_leadingAt_14 ?_
      refine go_iload_n (k4 := 1) rfl dX0_leadingAt_17 ?_
      obtain ⟨v4, ev4, hs⟩ := bindS hs
      refine go_aIi ev4 dX0_leadingAt_18 ?_
      refine go_goto (tgt := 23) (by decide) dX0_leadingAt_19 ?_
      exact go_subL (L' := [none, none]) (by simp [subL, va_rf]) (oX0_leadingAt_23 hd hs hk)
theorem oX0_leadingAt {d : Nat} (hd : 0 ≤ d) {h : Hp} {x0 : Nat} {x1 : Int32} {y : Int32} (hs : fX0_leadingAt h x0 x1 = some y) : Call d mX0_leadingAt [.ref x0, .int x1] h (some (.int y)) h := call_of (by decide +kernel) (Nat.le_of_ble_eq_true rfl) (show Go d mX0_leadingAt 0 [some (.ref x0), some (.int x1)] [] h _ _ from go_subL (by simp [subL]) (oX0_leadingAt_0 hd hs ⟨rfl, rfl⟩))
abbrev kX7_leadingTo (h : Hp) (rf : Option Value) (hf : Hp) : Int32 → Prop := fun y => rf = some (.int y) ∧ hf = h
abbrev pX7_leadingTo_25 (d : Nat) (h : Hp) (x0 : Nat) (x2 : Int32) (rf : Option Value) (hf : Hp) : (Int32 × Int32) → Prop := fun s => Go d mX7_leadingTo 25 [some (.ref x0), none, some (.int x2), none, some (.int s.1), some (.int s.2)] [] h rf hf
noncomputable def fX7_leadingTo_48 (h : Hp) (x0 : Nat) (x4 : Int32) : Option Int32 :=
  (gN h 7 x0 1).bind fun v5 =>
  (rm x4 (35 : Int32)).bind fun v6 =>
  gO h 0 v5 (
  (fX0_leadingAt h v5 v6).bind fun y7 =>
  some (y7))
theorem oX7_leadingTo_48 {d : Nat} (hd : 3 ≤ d) {h : Hp} {x0 : Nat} {x4 : Int32} {rf : Option Value} {hf : Hp} {x : Int32} (hs : fX7_leadingTo_48 h x0 x4 = some x) (hk : (kX7_leadingTo h rf hf) x) : Go d mX7_leadingTo 48 [some (.ref x0), none, none, none, some (.int x4), none] [] h rf hf := by
  unfold fX7_leadingTo_48 at hs
  refine go_aload_n (k4 := 0) rfl (Or.inr ⟨_, rfl⟩) dX7_leadingTo_48 ?_
  obtain ⟨v5, ev5, hs⟩ := bindS hs
  refine go_gN fl_RX7_64 ev5 dX7_leadingTo_49 ?_
  refine go_iload rfl dX7_leadingTo_52 ?_
  refine go_bipush (v := 35) (by decide) dX7_leadingTo_54 ?_
  obtain ⟨v6, ev6, hs⟩ := bindS hs
  refine go_rm ev6 dX7_leadingTo_56 ?_
  obtain ⟨g8, hs⟩ := gO_at hs
  obtain ⟨y7, ey7, hs⟩ := bindS hs
  refine go_V1 (As := [.int v6]) (st := []) g8 rfl rfl (oX0_leadingAt (d := d - 1) (by omega) ey7) (by omega) mb_X0_leadingAt lm_RX7_115 mi_X0_leadingAt (Nat.le_of_ble_eq_true rfl) rfl dX7_leadingTo_57 ?_
  obtain rfl := Option.some.inj hs
  obtain ⟨rfl, rfl⟩ := hk
  exact go_iret rfl dX7_leadingTo_60
noncomputable def fX7_leadingTo_25b (h : Hp) (x0 : Nat) (x2 : Int32) (x4 : Int32) (x5 : Int32) : Option ((Int32 × Int32) ⊕ Int32) :=
  if x5 ≤ x2 then (
  (fX7_leadingTo_48 h x0 x4).map (fun q => .inr q)) else (
    (dv x4 (35 : Int32)).bind fun v9 =>
    gO h 7 x0 (
    (fX7_linkOf h x0 v9).bind fun y10 =>
    some (.inl (y10, (x5 + Int32.ofInt (-1))))))
noncomputable def fX7_leadingTo_25 (h : Hp) (x0 : Nat) (x2 : Int32) (x4 : Int32) (x5 : Int32) : Option Int32 := lpw (σ := (Int32 × Int32)) (fun s => fX7_leadingTo_25b h x0 x2 s.1 s.2) (x4, x5)
theorem oX7_leadingTo_25b {d : Nat} (hd : 3 ≤ d) {h : Hp} {x0 : Nat} {x2 : Int32} {x4 : Int32} {x5 : Int32} {rf : Option Value} {hf : Hp} {x : ((Int32 × Int32) ⊕ Int32)} (hs : fX7_leadingTo_25b h x0 x2 x4 x5 = some x) (hk : (Kx (pX7_leadingTo_25 d h x0 x2 rf hf) (kX7_leadingTo h rf hf)) x) : Go d mX7_leadingTo 25 [some (.ref x0), none, some (.int x2), none, some (.int x4), some (.int x5)] [] h rf hf := by
  unfold fX7_leadingTo_25b at hs
  refine go_iload rfl dX7_leadingTo_25 ?_
  refine go_iload_n (k4 := 2) rfl dX7_leadingTo_27 ?_
  refine go_icmp_le (tgt := 48) (by decide) dX7_leadingTo_28 (fun c => ?_) (fun c => ?_)
  · have hs := if_t c hs
    obtain ⟨q, hs2, hq⟩ := mapS hs
    clear hs
    subst hq
    exact go_subL (L' := [some (.ref x0), none, none, none, some (.int x4), none]) (by simp [subL, va_rf]) (oX7_leadingTo_48 hd hs2 hk)
  · have hs := if_f c hs
    refine go_aload_n (k4 := 0) rfl (Or.inr ⟨_, rfl⟩) dX7_leadingTo_31 ?_
    refine go_iload rfl dX7_leadingTo_32 ?_
    refine go_bipush (v := 35) (by decide) dX7_leadingTo_34 ?_
    obtain ⟨v9, ev9, hs⟩ := bindS hs
    refine go_dv ev9 dX7_leadingTo_36 ?_
    obtain ⟨g11, hs⟩ := gO_at hs
    obtain ⟨y10, ey10, hs⟩ := bindS hs
    refine go_V1 (As := [.int v9]) (st := []) g11 rfl rfl (oX7_linkOf (d := d - 1) (by omega) ey10) (by omega) mb_X7_linkOf lm_RX7_109 mi_X7_linkOf (Nat.le_of_ble_eq_true rfl) rfl dX7_leadingTo_37 ?_
    refine go_istore (L' := [some (.ref x0), none, some (.int x2), none, some (.int y10), some (.int x5)]) (by decide) rfl dX7_leadingTo_40 ?_
    refine go_iinc (L' := [some (.ref x0), none, some (.int x2), none, some (.int y10), some (.int (x5 + Int32.ofInt (-1)))]) rfl (by decide) rfl rfl dX7_leadingTo_42 ?_
    refine go_at 45 rfl ?_
    refine go_goto (tgt := 25) (by decide) dX7_leadingTo_45 ?_
    obtain rfl := Option.some.inj hs
    exact go_subL (L' := [some (.ref x0), none, some (.int x2), none, some (.int y10), some (.int (x5 + Int32.ofInt (-1)))]) (by simp [subL, va_rf]) hk
theorem oX7_leadingTo_25 {d : Nat} (hd : 3 ≤ d) {h : Hp} {x0 : Nat} {x2 : Int32} {x4 : Int32} {x5 : Int32} {rf : Option Value} {hf : Hp} {x : Int32} (hs : fX7_leadingTo_25 h x0 x2 x4 x5 = some x) (hk : (kX7_leadingTo h rf hf) x) : Go d mX7_leadingTo 25 [some (.ref x0), none, some (.int x2), none, some (.int x4), some (.int x5)] [] h rf hf := by
  unfold fX7_leadingTo_25 at hs
  exact lpw_go (P := pX7_leadingTo_25 d h x0 x2 rf hf) (fun s x hs hk => oX7_leadingTo_25b hd hs hk) (x4, x5) x hs hk
noncomputable def fX7_leadingTo (h : Hp) (x0 : Nat) (x1 : Int32) (x2 : Int32) : Option Int32 :=
  gO h 7 x0 (
  (fX7_lengthTo h x0 x1).bind fun y1 =>
  if x2 < y1 then (
    gO h 7 x0 (
    (fX7_linkOf h x0 x1).bind fun y3 =>
    fX7_leadingTo_25 h x0 x2 y3 (y1 - (1 : Int32)))) else (
    some ((-1 : Int32))))
theorem oX7_leadingTo_0 {d : Nat} (hd : 3 ≤ d) {h : Hp} {x0 : Nat} {x1 : Int32} {x2 : Int32} {rf : Option Value} {hf : Hp} {x : Int32} (hs : fX7_leadingTo h x0 x1 x2 = some x) (hk : (kX7_leadingTo h rf hf) x) : Go d mX7_leadingTo 0 [some (.ref x0), some (.int x1), some (.int x2), none, none, none] [] h rf hf := by
  unfold fX7_leadingTo at hs
  refine go_aload_n (k4 := 0) rfl (Or.inr ⟨_, rfl⟩) dX7_leadingTo_0 ?_
  refine go_iload_n (k4 := 1) rfl dX7_leadingTo_1 ?_
  obtain ⟨g2, hs⟩ := gO_at hs
  obtain ⟨y1, ey1, hs⟩ := bindS hs
  refine go_V1 (As := [.int x1]) (st := []) g2 rfl rfl (oX7_lengthTo (d := d - 1) (by omega) ey1) (by omega) mb_X7_lengthTo lm_RX7_112 mi_X7_lengthTo (Nat.le_of_ble_eq_true rfl) rfl dX7_leadingTo_2 ?_
  refine go_istore_n (k4 := 3) (L' := [some (.ref x0), some (.int x1), some (.int x2), some (.int y1), none, none]) (by decide) rfl dX7_leadingTo_5 ?_
  refine go_iload_n (k4 := 2) rfl dX7_leadingTo_6 ?_
  refine go_iload_n (k4 := 3) rfl dX7_leadingTo_7 ?_
  refine go_icmp_lt (tgt := 13) (by decide) dX7_leadingTo_8 (fun c => ?_) (fun c => ?_)
  · have hs := if_t c hs
    refine go_aload_n (k4 := 0) rfl (Or.inr ⟨_, rfl⟩) dX7_leadingTo_13 ?_
    refine go_iload_n (k4 := 1) rfl dX7_leadingTo_14 ?_
    obtain ⟨g4, hs⟩ := gO_at hs
    obtain ⟨y3, ey3, hs⟩ := bindS hs
    refine go_V1 (As := [.int x1]) (st := []) g4 rfl rfl (oX7_linkOf (d := d - 1) (by omega) ey3) (by omega) mb_X7_linkOf lm_RX7_109 mi_X7_linkOf (Nat.le_of_ble_eq_true rfl) rfl dX7_leadingTo_15 ?_
    refine go_istore (L' := [some (.ref x0), some (.int x1), some (.int x2), some (.int y1), some (.int y3), none]) (by decide) rfl dX7_leadingTo_18 ?_
    refine go_iload_n (k4 := 3) rfl dX7_leadingTo_20 ?_
    refine go_iconst (v := 1) (by decide) dX7_leadingTo_21 ?_
    refine go_isub dX7_leadingTo_22 ?_
    refine go_at 23 rfl ?_
    refine go_istore (L' := [some (.ref x0), some (.int x1), some (.int x2), some (.int y1), some (.int y3), some (.int (y1 - (1 : Int32)))]) (by decide) rfl dX7_leadingTo_23 ?_
    exact go_subL (L' := [some (.ref x0), none, some (.int x2), none, some (.int y3), some (.int (y1 - (1 : Int32)))]) (by simp [subL, va_rf]) (oX7_leadingTo_25 hd hs hk)
  · have hs := if_f c hs
    refine go_iconst (v := -1) (by decide) dX7_leadingTo_11 ?_
    obtain rfl := Option.some.inj hs
    obtain ⟨rfl, rfl⟩ := hk
    exact go_iret rfl dX7_leadingTo_12
theorem oX7_leadingTo {d : Nat} (hd : 3 ≤ d) {h : Hp} {x0 : Nat} {x1 : Int32} {x2 : Int32} {y : Int32} (hs : fX7_leadingTo h x0 x1 x2 = some y) : Call d mX7_leadingTo [.ref x0, .int x1, .int x2] h (some (.int y)) h := call_of (by decide +kernel) (Nat.le_of_ble_eq_true rfl) (show Go d mX7_leadingTo 0 [some (.ref x0), some (.int x1), some (.int x2), none, none, none] [] h _ _ from go_subL (by simp [subL]) (oX7_leadingTo_0 hd hs ⟨rfl, rfl⟩))
abbrev kX11_way (rf : Option Value) (hf : Hp) : (Int32 × Hp) → Prop := fun y => rf = some (.int y.1) ∧ hf = y.2
noncomputable def fX11_way_12 (h : Hp)  : Option (Int32 × Hp) :=
  some (((-3 : Int32), h))
theorem oX11_way_12 {d : Nat} (hd : 6 ≤ d) {h : Hp} {rf : Option Value} {hf : Hp} {x : (Int32 × Hp)} (hs : fX11_way_12 h  = some x) (hk : (kX11_way rf hf) x) : Go d mX11_way 12 [none, none, none, none] [] h rf hf := by
  unfold fX11_way_12 at hs
  refine go_bipush (v := -3) (by decide) dX11_way_12 ?_
  obtain rfl := Option.some.inj hs
  obtain ⟨rfl, rfl⟩ := hk
  exact go_iret rfl dX11_way_14
noncomputable def fX11_way (h : Hp) (x0 : Nat) (x1 : Int32) (x2 : Int32) : Option (Int32 × Hp) :=
  gO h 11 x0 (
  (fX11_isSet h x0 x1).bind fun y1 =>
  if y1 = 0 then (
  fX11_way_12 h ) else (
    if 0 ≤ x2 then (
      gO h 11 x0 (
      (fX11_searching h x0).bind fun y3 =>
      (gN y3.2 11 x0 4).bind fun v5 =>
      (gI y3.2 8 v5 0).bind fun v6 =>
      gO y3.2 7 y3.1 (
      (fX7_explore y3.2 y3.1 v6 x1).bind fun y7 =>
      gO y7.2 7 y3.1 (
      (fX7_leadingTo y7.2 y3.1 y7.1 x2).bind fun y9 =>
      some ((y9, y7.2)))))) else (
    fX11_way_12 h )))
theorem oX11_way_0 {d : Nat} (hd : 6 ≤ d) {h : Hp} {x0 : Nat} {x1 : Int32} {x2 : Int32} {rf : Option Value} {hf : Hp} {x : (Int32 × Hp)} (hs : fX11_way h x0 x1 x2 = some x) (hk : (kX11_way rf hf) x) : Go d mX11_way 0 [some (.ref x0), some (.int x1), some (.int x2), none] [] h rf hf := by
  unfold fX11_way at hs
  refine go_aload_n (k4 := 0) rfl (Or.inr ⟨_, rfl⟩) dX11_way_0 ?_
  refine go_iload_n (k4 := 1) rfl dX11_way_1 ?_
  obtain ⟨g2, hs⟩ := gO_at hs
  obtain ⟨y1, ey1, hs⟩ := bindS hs
  refine go_V1 (As := [.int x1]) (st := []) g2 rfl rfl (oX11_isSet (d := d - 1) (by omega) ey1) (by omega) mb_X11_isSet lm_RX11_289 mi_X11_isSet (Nat.le_of_ble_eq_true rfl) rfl dX11_way_2 ?_
  refine go_if_eq (tgt := 12) (by decide) dX11_way_5 (fun c => ?_) (fun c => ?_)
  · have hs := if_t c hs
    exact go_subL (L' := [none, none, none, none]) (by simp [subL, va_rf]) (oX11_way_12 hd hs hk)
  · have hs := if_f c hs
    refine go_iload_n (k4 := 2) rfl dX11_way_8 ?_
    refine go_if_ge (tgt := 15) (by decide) dX11_way_9 (fun c => ?_) (fun c => ?_)
    · have hs := if_t c hs
      refine go_aload_n (k4 := 0) rfl (Or.inr ⟨_, rfl⟩) dX11_way_15 ?_
      obtain ⟨g4, hs⟩ := gO_at hs
      obtain ⟨y3, ey3, hs⟩ := bindS hs
      refine go_V1 (As := []) (st := []) g4 rfl rfl (oX11_searching (d := d - 1) (by omega) ey3) (by omega) mb_X11_searching lm_RX11_292 mi_X11_searching (Nat.le_of_ble_eq_true rfl) rfl dX11_way_16 ?_
      refine go_astore_n (k4 := 3) (L' := [some (.ref x0), some (.int x1), some (.int x2), some (.ref y3.1)]) (by decide) (Or.inr ⟨_, rfl⟩) rfl dX11_way_19 ?_
      refine go_aload_n (k4 := 3) rfl (Or.inr ⟨_, rfl⟩) dX11_way_20 ?_
      refine go_aload_n (k4 := 3) rfl (Or.inr ⟨_, rfl⟩) dX11_way_21 ?_
      refine go_aload_n (k4 := 0) rfl (Or.inr ⟨_, rfl⟩) dX11_way_22 ?_
      obtain ⟨v5, ev5, hs⟩ := bindS hs
      refine go_gN fl_RX11_36 ev5 dX11_way_23 ?_
      refine go_at 26 rfl ?_
      obtain ⟨v6, ev6, hs⟩ := bindS hs
      refine go_gI fl_RX11_142 ev6 dX11_way_26 ?_
      refine go_iload_n (k4 := 1) rfl dX11_way_29 ?_
      obtain ⟨g8, hs⟩ := gO_at hs
      obtain ⟨y7, ey7, hs⟩ := bindS hs
      refine go_V1 (As := [.int v6, .int x1]) (st := [.ref y3.1]) g8 rfl rfl (oX7_explore (d := d - 1) (by omega) ey7) (by omega) mb_X7_explore lm_RX11_296 mi_X7_explore (Nat.le_of_ble_eq_true rfl) rfl dX11_way_30 ?_
      refine go_iload_n (k4 := 2) rfl dX11_way_33 ?_
      obtain ⟨g10, hs⟩ := gO_at hs
      obtain ⟨y9, ey9, hs⟩ := bindS hs
      refine go_V1 (As := [.int y7.1, .int x2]) (st := []) g10 rfl rfl (oX7_leadingTo (d := d - 1) (by omega) ey9) (by omega) mb_X7_leadingTo lm_RX11_302 mi_X7_leadingTo (Nat.le_of_ble_eq_true rfl) rfl dX11_way_34 ?_
      obtain rfl := Option.some.inj hs
      obtain ⟨rfl, rfl⟩ := hk
      exact go_iret rfl dX11_way_37
    · have hs := if_f c hs
      exact go_subL (L' := [none, none, none, none]) (by simp [subL, va_rf]) (oX11_way_12 hd hs hk)
theorem oX11_way {d : Nat} (hd : 6 ≤ d) {h : Hp} {x0 : Nat} {x1 : Int32} {x2 : Int32} {y : (Int32 × Hp)} (hs : fX11_way h x0 x1 x2 = some y) : Call d mX11_way [.ref x0, .int x1, .int x2] h (some (.int y.1)) (y.2) := call_of (by decide +kernel) (Nat.le_of_ble_eq_true rfl) (show Go d mX11_way 0 [some (.ref x0), some (.int x1), some (.int x2), none] [] h _ _ from go_subL (by simp [subL]) (oX11_way_0 hd hs ⟨rfl, rfl⟩))
abbrev kX7_rowsOf (h : Hp) (rf : Option Value) (hf : Hp) : Int64 → Prop := fun y => rf = some (.long y) ∧ hf = h
abbrev pX7_rowsOf_5 (d : Nat) (h : Hp) (x0 : Nat) (x1 : Int32) (rf : Option Value) (hf : Hp) : (Int64 × Int32) → Prop := fun s => Go d mX7_rowsOf 5 [some (.ref x0), some (.int x1), some (.long s.1), none, some (.int s.2)] [] h rf hf
noncomputable def fX7_rowsOf_5b (h : Hp) (x0 : Nat) (x1 : Int32) (x2 : Int64) (x4 : Int32) : Option ((Int64 × Int32) ⊕ Int64) :=
  if x1 ≤ x4 then (
    some (.inr x2)) else (
    (gN h 7 x0 1).bind fun v1 =>
    (gN h 0 v1 9).bind fun v2 =>
    (aL h v2).bind fun v3 =>
    some (.inl ((x2 * (v3.toInt64)), (x4 + Int32.ofInt 1))))
noncomputable def fX7_rowsOf_5 (h : Hp) (x0 : Nat) (x1 : Int32) (x2 : Int64) (x4 : Int32) : Option Int64 := lpw (σ := (Int64 × Int32)) (fun s => fX7_rowsOf_5b h x0 x1 s.1 s.2) (x2, x4)
theorem oX7_rowsOf_5b {d : Nat} (hd : 0 ≤ d) {h : Hp} {x0 : Nat} {x1 : Int32} {x2 : Int64} {x4 : Int32} {rf : Option Value} {hf : Hp} {x : ((Int64 × Int32) ⊕ Int64)} (hs : fX7_rowsOf_5b h x0 x1 x2 x4 = some x) (hk : (Kx (pX7_rowsOf_5 d h x0 x1 rf hf) (kX7_rowsOf h rf hf)) x) : Go d mX7_rowsOf 5 [some (.ref x0), some (.int x1), some (.long x2), none, some (.int x4)] [] h rf hf := by
  unfold fX7_rowsOf_5b at hs
  refine go_iload rfl dX7_rowsOf_5 ?_
  refine go_iload_n (k4 := 1) rfl dX7_rowsOf_7 ?_
  refine go_icmp_ge (tgt := 29) (by decide) dX7_rowsOf_8 (fun c => ?_) (fun c => ?_)
  · have hs := if_t c hs
    refine go_lload_n (k4 := 2) rfl dX7_rowsOf_29 ?_
    obtain rfl := Option.some.inj hs
    obtain ⟨rfl, rfl⟩ := hk
    exact go_lret rfl dX7_rowsOf_30
  · have hs := if_f c hs
    refine go_lload_n (k4 := 2) rfl dX7_rowsOf_11 ?_
    refine go_aload_n (k4 := 0) rfl (Or.inr ⟨_, rfl⟩) dX7_rowsOf_12 ?_
    obtain ⟨v1, ev1, hs⟩ := bindS hs
    refine go_gN fl_RX7_64 ev1 dX7_rowsOf_13 ?_
    obtain ⟨v2, ev2, hs⟩ := bindS hs
    refine go_gN fl_RX7_103 ev2 dX7_rowsOf_16 ?_
    obtain ⟨v3, ev3, hs⟩ := bindS hs
    refine go_aL ev3 dX7_rowsOf_19 ?_
    refine go_i2l dX7_rowsOf_20 ?_
    refine go_lmul dX7_rowsOf_21 ?_
    refine go_at 22 rfl ?_
    refine go_lstore_n (k4 := 2) (L' := [some (.ref x0), some (.int x1), some (.long (x2 * (v3.toInt64))), none, some (.int x4)]) (by decide) rfl dX7_rowsOf_22 ?_
    refine go_iinc (L' := [some (.ref x0), some (.int x1), some (.long (x2 * (v3.toInt64))), none, some (.int (x4 + Int32.ofInt 1))]) rfl (by decide) rfl rfl dX7_rowsOf_23 ?_
    refine go_goto (tgt := 5) (by decide) dX7_rowsOf_26 ?_
    obtain rfl := Option.some.inj hs
    exact go_subL (L' := [some (.ref x0), some (.int x1), some (.long (x2 * (v3.toInt64))), none, some (.int (x4 + Int32.ofInt 1))]) (by simp [subL, va_rf]) hk
theorem oX7_rowsOf_5 {d : Nat} (hd : 0 ≤ d) {h : Hp} {x0 : Nat} {x1 : Int32} {x2 : Int64} {x4 : Int32} {rf : Option Value} {hf : Hp} {x : Int64} (hs : fX7_rowsOf_5 h x0 x1 x2 x4 = some x) (hk : (kX7_rowsOf h rf hf) x) : Go d mX7_rowsOf 5 [some (.ref x0), some (.int x1), some (.long x2), none, some (.int x4)] [] h rf hf := by
  unfold fX7_rowsOf_5 at hs
  exact lpw_go (P := pX7_rowsOf_5 d h x0 x1 rf hf) (fun s x hs hk => oX7_rowsOf_5b hd hs hk) (x2, x4) x hs hk
noncomputable def fX7_rowsOf (h : Hp) (x0 : Nat) (x1 : Int32) : Option Int64 :=
  fX7_rowsOf_5 h x0 x1 (1 : Int64) (0 : Int32)
theorem oX7_rowsOf_0 {d : Nat} (hd : 0 ≤ d) {h : Hp} {x0 : Nat} {x1 : Int32} {rf : Option Value} {hf : Hp} {x : Int64} (hs : fX7_rowsOf h x0 x1 = some x) (hk : (kX7_rowsOf h rf hf) x) : Go d mX7_rowsOf 0 [some (.ref x0), some (.int x1), none, none, none] [] h rf hf := by
  unfold fX7_rowsOf at hs
  refine go_lconst (v := 1) (by decide) dX7_rowsOf_0 ?_
  refine go_lstore_n (k4 := 2) (L' := [some (.ref x0), some (.int x1), some (.long (1 : Int64)), none, none]) (by decide) rfl dX7_rowsOf_1 ?_
  refine go_iconst (v := 0) (by decide) dX7_rowsOf_2 ?_
  refine go_istore (L' := [some (.ref x0), some (.int x1), some (.long (1 : Int64)), none, some (.int (0 : Int32))]) (by decide) rfl dX7_rowsOf_3 ?_
  exact go_subL (L' := [some (.ref x0), some (.int x1), some (.long (1 : Int64)), none, some (.int (0 : Int32))]) (by simp [subL, va_rf]) (oX7_rowsOf_5 hd hs hk)
theorem oX7_rowsOf {d : Nat} (hd : 0 ≤ d) {h : Hp} {x0 : Nat} {x1 : Int32} {y : Int64} (hs : fX7_rowsOf h x0 x1 = some y) : Call d mX7_rowsOf [.ref x0, .int x1] h (some (.long y)) h := call_of (by decide +kernel) (Nat.le_of_ble_eq_true rfl) (show Go d mX7_rowsOf 0 [some (.ref x0), some (.int x1), none, none, none] [] h _ _ from go_subL (by simp [subL]) (oX7_rowsOf_0 hd hs ⟨rfl, rfl⟩))
abbrev kX7_passOn (rf : Option Value) (hf : Hp) : Hp → Prop := fun y => rf = none ∧ hf = y
abbrev pX7_passOn_16 (d : Nat) (x0 : Nat) (x2 : Int64) (x4 : Int32) (rf : Option Value) (hf : Hp) : (Int32 × Hp) → Prop := fun s => Go d mX7_passOn 16 [some (.ref x0), none, some (.long x2), none, some (.int x4), some (.int s.1), none, none] [] s.2 rf hf
noncomputable def fX7_passOn_130 (h : Hp) (x0 : Nat) (x2 : Int64) (x4 : Int32) (x5 : Int32) : Option ((Int32 × Hp) ⊕ Hp) :=
  some (.inl ((x5 + Int32.ofInt 1), h))
theorem oX7_passOn_130 {d : Nat} (hd : 4 ≤ d) {h : Hp} {x0 : Nat} {x2 : Int64} {x4 : Int32} {x5 : Int32} {rf : Option Value} {hf : Hp} {x : ((Int32 × Hp) ⊕ Hp)} (hs : fX7_passOn_130 h x0 x2 x4 x5 = some x) (hk : (Kx (pX7_passOn_16 d x0 x2 x4 rf hf) (kX7_passOn rf hf)) x) : Go d mX7_passOn 130 [some (.ref x0), none, some (.long x2), none, some (.int x4), some (.int x5), none, none] [] h rf hf := by
  unfold fX7_passOn_130 at hs
  refine go_iinc (L' := [some (.ref x0), none, some (.long x2), none, some (.int x4), some (.int (x5 + Int32.ofInt 1)), none, none]) rfl (by decide) rfl rfl dX7_passOn_130 ?_
  refine go_goto (tgt := 16) (by decide) dX7_passOn_133 ?_
  obtain rfl := Option.some.inj hs
  exact go_subL (L' := [some (.ref x0), none, some (.long x2), none, some (.int x4), some (.int (x5 + Int32.ofInt 1)), none, none]) (by simp [subL, va_rf]) hk
noncomputable def fX7_passOn_111 (h : Hp) (x0 : Nat) (x2 : Int64) (x4 : Int32) (x5 : Int32) (x7 : Int32) : Option ((Int32 × Hp) ⊕ Hp) :=
  (fX7_isState h x7).bind fun y13 =>
  if y13 = 0 then (
  fX7_passOn_130 h x0 x2 x4 x5) else (
    (gN h 7 x0 8).bind fun v14 =>
    (aJ h v14 x7).bind fun v15 =>
    (wJ h v14 x7 (v15 + x2)).bind fun h16 =>
    fX7_passOn_130 h16 x0 x2 x4 x5)
theorem oX7_passOn_111 {d : Nat} (hd : 4 ≤ d) {h : Hp} {x0 : Nat} {x2 : Int64} {x4 : Int32} {x5 : Int32} {x7 : Int32} {rf : Option Value} {hf : Hp} {x : ((Int32 × Hp) ⊕ Hp)} (hs : fX7_passOn_111 h x0 x2 x4 x5 x7 = some x) (hk : (Kx (pX7_passOn_16 d x0 x2 x4 rf hf) (kX7_passOn rf hf)) x) : Go d mX7_passOn 111 [some (.ref x0), none, some (.long x2), none, some (.int x4), some (.int x5), none, some (.int x7)] [] h rf hf := by
  unfold fX7_passOn_111 at hs
  refine go_iload rfl dX7_passOn_111 ?_
  obtain ⟨y13, ey13, hs⟩ := bindS hs
  refine go_S1 (As := [.int x7]) (st := []) (oX7_isState (d := d - 1) (by omega) ey13) (by omega) mb_X7_isState lm_RX7_74 ms_X7_isState (Nat.le_of_ble_eq_true rfl) rfl dX7_passOn_113 ?_
  refine go_if_eq (tgt := 130) (by decide) dX7_passOn_116 (fun c => ?_) (fun c => ?_)
  · have hs := if_t c hs
    exact go_subL (L' := [some (.ref x0), none, some (.long x2), none, some (.int x4), some (.int x5), none, none]) (by simp [subL, va_rf]) (oX7_passOn_130 hd hs hk)
  · have hs := if_f c hs
    refine go_aload_n (k4 := 0) rfl (Or.inr ⟨_, rfl⟩) dX7_passOn_119 ?_
    obtain ⟨v14, ev14, hs⟩ := bindS hs
    refine go_gN fl_RX7_31 ev14 dX7_passOn_120 ?_
    refine go_iload rfl dX7_passOn_123 ?_
    refine go_dup2_11 rfl rfl dX7_passOn_125 ?_
    obtain ⟨v15, ev15, hs⟩ := bindS hs
    refine go_aJ ev15 dX7_passOn_126 ?_
    refine go_lload_n (k4 := 2) rfl dX7_passOn_127 ?_
    refine go_ladd dX7_passOn_128 ?_
    refine go_at 129 rfl ?_
    obtain ⟨h16, eh16, hs⟩ := bindS hs
    refine go_wJ eh16 dX7_passOn_129 ?_
    exact go_subL (L' := [some (.ref x0), none, some (.long x2), none, some (.int x4), some (.int x5), none, none]) (by simp [subL, va_rf]) (oX7_passOn_130 hd hs hk)
noncomputable def fX7_passOn_16b (h : Hp) (x0 : Nat) (x2 : Int64) (x4 : Int32) (x5 : Int32) : Option ((Int32 × Hp) ⊕ Hp) :=
  (gN h 7 x0 1).bind fun v5 =>
  (gN h 0 v5 9).bind fun v6 =>
  (aL h v6).bind fun v7 =>
  if v7 ≤ x5 then (
    some (.inr h)) else (
    (gN h 7 x0 9).bind fun v8 =>
    (aI 0 h v8 x5).bind fun v9 =>
    (rm v9 (10000 : Int32)).bind fun v10 =>
    gO h 7 x0 (
    (fX7_isNew h x0 v9).bind fun y11 =>
    if y11 = 0 then (
    fX7_passOn_111 h x0 x2 x4 x5 (x4 + v10)) else (
      (gI h 7 x0 12).bind fun v17 =>
      if (10000 : Int32) ≤ v17 then (
      fX7_passOn_111 h x0 x2 x4 x5 (x4 + v10)) else (
        (gN h 7 x0 3).bind fun v18 =>
        (gI h 7 x0 4).bind fun v19 =>
        (wI 0 h v18 v9 v19).bind fun h20 =>
        (gN h20 7 x0 5).bind fun v21 =>
        (gI h20 7 x0 12).bind fun v22 =>
        (wI 0 h20 v21 (x4 + v22) v9).bind fun h23 =>
        (gI h23 7 x0 12).bind fun v24 =>
        (sV h23 7 x0 12 (.int (v24 + (1 : Int32)))).bind fun h25 =>
        (gN h25 7 x0 8).bind fun v26 =>
        (wJ h25 v26 (x4 + v10) (0 : Int64)).bind fun h27 =>
        fX7_passOn_111 h27 x0 x2 x4 x5 (x4 + v10)))))
noncomputable def fX7_passOn_16 (h : Hp) (x0 : Nat) (x2 : Int64) (x4 : Int32) (x5 : Int32) : Option Hp := lpw (σ := (Int32 × Hp)) (fun s => fX7_passOn_16b s.2 x0 x2 x4 s.1) (x5, h)
theorem oX7_passOn_16b {d : Nat} (hd : 4 ≤ d) {h : Hp} {x0 : Nat} {x2 : Int64} {x4 : Int32} {x5 : Int32} {rf : Option Value} {hf : Hp} {x : ((Int32 × Hp) ⊕ Hp)} (hs : fX7_passOn_16b h x0 x2 x4 x5 = some x) (hk : (Kx (pX7_passOn_16 d x0 x2 x4 rf hf) (kX7_passOn rf hf)) x) : Go d mX7_passOn 16 [some (.ref x0), none, some (.long x2), none, some (.int x4), some (.int x5), none, none] [] h rf hf := by
  unfold fX7_passOn_16b at hs
  refine go_iload rfl dX7_passOn_16 ?_
  refine go_aload_n (k4 := 0) rfl (Or.inr ⟨_, rfl⟩) dX7_passOn_18 ?_
  obtain ⟨v5, ev5, hs⟩ := bindS hs
  refine go_gN fl_RX7_64 ev5 dX7_passOn_19 ?_
  obtain ⟨v6, ev6, hs⟩ := bindS hs
  refine go_gN fl_RX7_103 ev6 dX7_passOn_22 ?_
  obtain ⟨v7, ev7, hs⟩ := bindS hs
  refine go_aL ev7 dX7_passOn_25 ?_
  refine go_icmp_ge (tgt := 136) (by decide) dX7_passOn_26 (fun c => ?_) (fun c => ?_)
  · have hs := if_t c hs
    obtain rfl := Option.some.inj hs
    obtain ⟨rfl, rfl⟩ := hk
    exact go_vret rfl dX7_passOn_136
  · have hs := if_f c hs
    refine go_aload_n (k4 := 0) rfl (Or.inr ⟨_, rfl⟩) dX7_passOn_29 ?_
    obtain ⟨v8, ev8, hs⟩ := bindS hs
    refine go_gN fl_RX7_35 ev8 dX7_passOn_30 ?_
    refine go_iload rfl dX7_passOn_33 ?_
    obtain ⟨v9, ev9, hs⟩ := bindS hs
    refine go_aIi ev9 dX7_passOn_35 ?_
    refine go_istore (L' := [some (.ref x0), none, some (.long x2), none, some (.int x4), some (.int x5), some (.int v9), none]) (by decide) rfl dX7_passOn_36 ?_
    refine go_iload rfl dX7_passOn_38 ?_
    refine go_iload rfl dX7_passOn_40 ?_
    refine go_at 42 rfl ?_
    refine go_sipush (v := 10000) (by decide) dX7_passOn_42 ?_
    obtain ⟨v10, ev10, hs⟩ := bindS hs
    refine go_rm ev10 dX7_passOn_45 ?_
    refine go_iadd dX7_passOn_46 ?_
    refine go_istore (L' := [some (.ref x0), none, some (.long x2), none, some (.int x4), some (.int x5), some (.int v9), some (.int (x4 + v10))]) (by decide) rfl dX7_passOn_47 ?_
    refine go_aload_n (k4 := 0) rfl (Or.inr ⟨_, rfl⟩) dX7_passOn_49 ?_
    refine go_iload rfl dX7_passOn_50 ?_
    obtain ⟨g12, hs⟩ := gO_at hs
    obtain ⟨y11, ey11, hs⟩ := bindS hs
    refine go_V1 (As := [.int v9]) (st := []) g12 rfl rfl (oX7_isNew (d := d - 1) (by omega) ey11) (by omega) mb_X7_isNew lm_RX7_106 mi_X7_isNew (Nat.le_of_ble_eq_true rfl) rfl dX7_passOn_52 ?_
    refine go_if_eq (tgt := 111) (by decide) dX7_passOn_55 (fun c => ?_) (fun c => ?_)
    · have hs := if_t c hs
      exact go_subL (L' := [some (.ref x0), none, some (.long x2), none, some (.int x4), some (.int x5), none, some (.int (x4 + v10))]) (by simp [subL, va_rf]) (oX7_passOn_111 hd hs hk)
    · have hs := if_f c hs
      refine go_aload_n (k4 := 0) rfl (Or.inr ⟨_, rfl⟩) dX7_passOn_58 ?_
      obtain ⟨v17, ev17, hs⟩ := bindS hs
      refine go_gI fl_RX7_44 ev17 dX7_passOn_59 ?_
      refine go_sipush (v := 10000) (by decide) dX7_passOn_62 ?_
      refine go_icmp_ge (tgt := 111) (by decide) dX7_passOn_65 (fun c => ?_) (fun c => ?_)
      · have hs := if_t c hs
        exact go_subL (L' := [some (.ref x0), none, some (.long x2), none, some (.int x4), some (.int x5), none, some (.int (x4 + v10))]) (by simp [subL, va_rf]) (oX7_passOn_111 hd hs hk)
      · have hs := if_f c hs
        refine go_aload_n (k4 := 0) rfl (Or.inr ⟨_, rfl⟩) dX7_passOn_68 ?_
        obtain ⟨v18, ev18, hs⟩ := bindS hs
        refine go_gN fl_RX7_15 ev18 dX7_passOn_69 ?_
        refine go_iload rfl dX7_passOn_72 ?_
        refine go_aload_n (k4 := 0) rfl (Or.inr ⟨_, rfl⟩) dX7_passOn_74 ?_
        obtain ⟨v19, ev19, hs⟩ := bindS hs
        refine go_gI fl_RX7_19 ev19 dX7_passOn_75 ?_
        obtain ⟨h20, eh20, hs⟩ := bindS hs
        refine go_wIi eh20 dX7_passOn_78 ?_
        refine go_aload_n (k4 := 0) rfl (Or.inr ⟨_, rfl⟩) dX7_passOn_79 ?_
        refine go_at 80 rfl ?_
        obtain ⟨v21, ev21, hs⟩ := bindS hs
        refine go_gN fl_RX7_22 ev21 dX7_passOn_80 ?_
        refine go_iload rfl dX7_passOn_83 ?_
        refine go_aload_n (k4 := 0) rfl (Or.inr ⟨_, rfl⟩) dX7_passOn_85 ?_
        obtain ⟨v22, ev22, hs⟩ := bindS hs
        refine go_gI fl_RX7_44 ev22 dX7_passOn_86 ?_
        refine go_iadd dX7_passOn_89 ?_
        refine go_iload rfl dX7_passOn_90 ?_
        obtain ⟨h23, eh23, hs⟩ := bindS hs
        refine go_wIi eh23 dX7_passOn_92 ?_
        refine go_aload_n (k4 := 0) rfl (Or.inr ⟨_, rfl⟩) dX7_passOn_93 ?_
        refine go_at 94 rfl ?_
        refine go_dup rfl dX7_passOn_94 ?_
        obtain ⟨v24, ev24, hs⟩ := bindS hs
        refine go_gI fl_RX7_44 ev24 dX7_passOn_95 ?_
        refine go_iconst (v := 1) (by decide) dX7_passOn_98 ?_
        refine go_iadd dX7_passOn_99 ?_
        obtain ⟨h25, eh25, hs⟩ := bindS hs
        refine go_sV fw_RX7_44 eh25 rfl rfl dX7_passOn_100 ?_
        refine go_aload_n (k4 := 0) rfl (Or.inr ⟨_, rfl⟩) dX7_passOn_103 ?_
        obtain ⟨v26, ev26, hs⟩ := bindS hs
        refine go_gN fl_RX7_31 ev26 dX7_passOn_104 ?_
        refine go_iload rfl dX7_passOn_107 ?_
        refine go_at 109 rfl ?_
        refine go_lconst (v := 0) (by decide) dX7_passOn_109 ?_
        obtain ⟨h27, eh27, hs⟩ := bindS hs
        refine go_wJ eh27 dX7_passOn_110 ?_
        exact go_subL (L' := [some (.ref x0), none, some (.long x2), none, some (.int x4), some (.int x5), none, some (.int (x4 + v10))]) (by simp [subL, va_rf]) (oX7_passOn_111 hd hs hk)
theorem oX7_passOn_16 {d : Nat} (hd : 4 ≤ d) {h : Hp} {x0 : Nat} {x2 : Int64} {x4 : Int32} {x5 : Int32} {rf : Option Value} {hf : Hp} {x : Hp} (hs : fX7_passOn_16 h x0 x2 x4 x5 = some x) (hk : (kX7_passOn rf hf) x) : Go d mX7_passOn 16 [some (.ref x0), none, some (.long x2), none, some (.int x4), some (.int x5), none, none] [] h rf hf := by
  unfold fX7_passOn_16 at hs
  exact lpw_go (P := pX7_passOn_16 d x0 x2 x4 rf hf) (fun s x hs hk => oX7_passOn_16b hd hs hk) (x5, h) x hs hk
noncomputable def fX7_passOn (h : Hp) (x0 : Nat) (x1 : Int32) (x2 : Int64) (x4 : Int32) : Option Hp :=
  (gN h 7 x0 0).bind fun v1 =>
  (gN h 7 x0 9).bind fun v2 =>
  gO h 1 v1 (
  (fX1_spread h v1 x1 (0 : Int32) v2).bind fun y3 =>
  fX7_passOn_16 y3 x0 x2 x4 (0 : Int32))
theorem oX7_passOn_0 {d : Nat} (hd : 4 ≤ d) {h : Hp} {x0 : Nat} {x1 : Int32} {x2 : Int64} {x4 : Int32} {rf : Option Value} {hf : Hp} {x : Hp} (hs : fX7_passOn h x0 x1 x2 x4 = some x) (hk : (kX7_passOn rf hf) x) : Go d mX7_passOn 0 [some (.ref x0), some (.int x1), some (.long x2), none, some (.int x4), none, none, none] [] h rf hf := by
  unfold fX7_passOn at hs
  refine go_aload_n (k4 := 0) rfl (Or.inr ⟨_, rfl⟩) dX7_passOn_0 ?_
  obtain ⟨v1, ev1, hs⟩ := bindS hs
  refine go_gN fl_RX7_60 ev1 dX7_passOn_1 ?_
  refine go_iload_n (k4 := 1) rfl dX7_passOn_4 ?_
  refine go_iconst (v := 0) (by decide) dX7_passOn_5 ?_
  refine go_aload_n (k4 := 0) rfl (Or.inr ⟨_, rfl⟩) dX7_passOn_6 ?_
  obtain ⟨v2, ev2, hs⟩ := bindS hs
  refine go_gN fl_RX7_35 ev2 dX7_passOn_7 ?_
  obtain ⟨g4, hs⟩ := gO_at hs
  obtain ⟨y3, ey3, hs⟩ := bindS hs
  refine go_V0 (As := [.int x1, .int (0 : Int32), .ref v2]) (st := []) g4 rfl rfl (oX1_spread (d := d - 1) (by omega) ey3) (by omega) mb_X1_spread lm_RX7_99 mi_X1_spread (Nat.le_of_ble_eq_true rfl) rfl dX7_passOn_10 ?_
  refine go_at 13 rfl ?_
  refine go_iconst (v := 0) (by decide) dX7_passOn_13 ?_
  refine go_istore (L' := [some (.ref x0), some (.int x1), some (.long x2), none, some (.int x4), some (.int (0 : Int32)), none, none]) (by decide) rfl dX7_passOn_14 ?_
  exact go_subL (L' := [some (.ref x0), none, some (.long x2), none, some (.int x4), some (.int (0 : Int32)), none, none]) (by simp [subL, va_rf]) (oX7_passOn_16 hd hs hk)
theorem oX7_passOn {d : Nat} (hd : 4 ≤ d) {h : Hp} {x0 : Nat} {x1 : Int32} {x2 : Int64} {x4 : Int32} {y : Hp} (hs : fX7_passOn h x0 x1 x2 x4 = some y) : Call d mX7_passOn [.ref x0, .int x1, .long x2, .int x4] h (none) y := call_of (by decide +kernel) (Nat.le_of_ble_eq_true rfl) (show Go d mX7_passOn 0 [some (.ref x0), some (.int x1), some (.long x2), none, some (.int x4), none, none, none] [] h _ _ from go_subL (by simp [subL]) (oX7_passOn_0 hd hs ⟨rfl, rfl⟩))
abbrev kX7_countRows (rf : Option Value) (hf : Hp) : (Int64 × Hp) → Prop := fun y => rf = some (.long y.1) ∧ hf = y.2
abbrev pX7_countRows_39 (d : Nat) (x0 : Nat) (x2 : Int32) (rf : Option Value) (hf : Hp) : (Int64 × Int32 × Int32 × Int32 × Hp) → Prop := fun s => Go d mX7_countRows 39 [some (.ref x0), none, some (.int x2), none, some (.long s.1), none, some (.int s.2.1), some (.int s.2.2.1), some (.int s.2.2.2.1), none, none, none, none, none] [] s.2.2.2.2 rf hf
abbrev pX7_countRows_59 (d : Nat) (x0 : Nat) (x2 : Int32) (x6 : Int32) (x7 : Int32) (x8 : Int32) (x9 : Int32) (rf : Option Value) (hf : Hp) : (Int64 × Int32 × Hp) → Prop := fun s => Go d mX7_countRows 59 [some (.ref x0), none, some (.int x2), none, some (.long s.1), none, some (.int x6), some (.int x7), some (.int x8), some (.int x9), some (.int s.2.1), none, none, none] [] s.2.2 rf hf
noncomputable def fX7_countRows_150 (h : Hp) (x0 : Nat) (x2 : Int32) (x4 : Int64) (x8 : Int32) (x9 : Int32) : Option ((Int64 × Int32 × Int32 × Int32 × Hp) ⊕ (Int64 × Hp)) :=
  (gI h 7 x0 12).bind fun v9 =>
  some (.inl (x4, x9, v9, (x8 + Int32.ofInt (-1)), h))
theorem oX7_countRows_150 {d : Nat} (hd : 5 ≤ d) {h : Hp} {x0 : Nat} {x2 : Int32} {x4 : Int64} {x8 : Int32} {x9 : Int32} {rf : Option Value} {hf : Hp} {x : ((Int64 × Int32 × Int32 × Int32 × Hp) ⊕ (Int64 × Hp))} (hs : fX7_countRows_150 h x0 x2 x4 x8 x9 = some x) (hk : (Kx (pX7_countRows_39 d x0 x2 rf hf) (kX7_countRows rf hf)) x) : Go d mX7_countRows 150 [some (.ref x0), none, some (.int x2), none, some (.long x4), none, none, none, some (.int x8), some (.int x9), none, none, none, none] [] h rf hf := by
  unfold fX7_countRows_150 at hs
  refine go_iload rfl dX7_countRows_150 ?_
  refine go_istore (L' := [some (.ref x0), none, some (.int x2), none, some (.long x4), none, some (.int x9), none, some (.int x8), some (.int x9), none, none, none, none]) (by decide) rfl dX7_countRows_152 ?_
  refine go_aload_n (k4 := 0) rfl (Or.inr ⟨_, rfl⟩) dX7_countRows_154 ?_
  obtain ⟨v9, ev9, hs⟩ := bindS hs
  refine go_gI fl_RX7_44 ev9 dX7_countRows_155 ?_
  refine go_istore (L' := [some (.ref x0), none, some (.int x2), none, some (.long x4), none, some (.int x9), some (.int v9), some (.int x8), some (.int x9), none, none, none, none]) (by decide) rfl dX7_countRows_158 ?_
  refine go_iinc (L' := [some (.ref x0), none, some (.int x2), none, some (.long x4), none, some (.int x9), some (.int v9), some (.int (x8 + Int32.ofInt (-1))), some (.int x9), none, none, none, none]) rfl (by decide) rfl rfl dX7_countRows_160 ?_
  refine go_goto (tgt := 39) (by decide) dX7_countRows_163 ?_
  obtain rfl := Option.some.inj hs
  exact go_subL (L' := [some (.ref x0), none, some (.int x2), none, some (.long x4), none, some (.int x9), some (.int v9), some (.int (x8 + Int32.ofInt (-1))), none, none, none, none, none]) (by simp [subL, va_rf]) hk
noncomputable def fX7_countRows_144 (h : Hp) (x0 : Nat) (x2 : Int32) (x4 : Int64) (x6 : Int32) (x7 : Int32) (x8 : Int32) (x9 : Int32) (x10 : Int32) : Option ((Int64 × Int32 × Hp) ⊕ ((Int64 × Int32 × Int32 × Int32 × Hp) ⊕ (Int64 × Hp))) :=
  some (.inl (x4, (x10 + Int32.ofInt 1), h))
theorem oX7_countRows_144 {d : Nat} (hd : 5 ≤ d) {h : Hp} {x0 : Nat} {x2 : Int32} {x4 : Int64} {x6 : Int32} {x7 : Int32} {x8 : Int32} {x9 : Int32} {x10 : Int32} {rf : Option Value} {hf : Hp} {x : ((Int64 × Int32 × Hp) ⊕ ((Int64 × Int32 × Int32 × Int32 × Hp) ⊕ (Int64 × Hp)))} (hs : fX7_countRows_144 h x0 x2 x4 x6 x7 x8 x9 x10 = some x) (hk : (Kx (pX7_countRows_59 d x0 x2 x6 x7 x8 x9 rf hf) (Kx (pX7_countRows_39 d x0 x2 rf hf) (kX7_countRows rf hf))) x) : Go d mX7_countRows 144 [some (.ref x0), none, some (.int x2), none, some (.long x4), none, some (.int x6), some (.int x7), some (.int x8), some (.int x9), some (.int x10), none, none, none] [] h rf hf := by
  unfold fX7_countRows_144 at hs
  refine go_iinc (L' := [some (.ref x0), none, some (.int x2), none, some (.long x4), none, some (.int x6), some (.int x7), some (.int x8), some (.int x9), some (.int (x10 + Int32.ofInt 1)), none, none, none]) rfl (by decide) rfl rfl dX7_countRows_144 ?_
  refine go_goto (tgt := 59) (by decide) dX7_countRows_147 ?_
  obtain rfl := Option.some.inj hs
  exact go_subL (L' := [some (.ref x0), none, some (.int x2), none, some (.long x4), none, some (.int x6), some (.int x7), some (.int x8), some (.int x9), some (.int (x10 + Int32.ofInt 1)), none, none, none]) (by simp [subL, va_rf]) hk
noncomputable def fX7_countRows_59b (h : Hp) (x0 : Nat) (x2 : Int32) (x6 : Int32) (x7 : Int32) (x8 : Int32) (x9 : Int32) (x4 : Int64) (x10 : Int32) : Option ((Int64 × Int32 × Hp) ⊕ ((Int64 × Int32 × Int32 × Int32 × Hp) ⊕ (Int64 × Hp))) :=
  if x7 ≤ x10 then (
  (fX7_countRows_150 h x0 x2 x4 x8 x9).map (fun q => .inr q)) else (
    (gN h 7 x0 5).bind fun v10 =>
    (aI 0 h v10 (x6 + x10)).bind fun v11 =>
    (gN h 7 x0 8).bind fun v12 =>
    (rm v11 (10000 : Int32)).bind fun v13 =>
    (aJ h v12 (x6 + v13)).bind fun v14 =>
    gO h 7 x0 (
    (fX7_isGoal h x0 v11 x2).bind fun y15 =>
    if y15 = 0 then (
      if (10000 : Int32) ≤ v11 then (
      fX7_countRows_144 h x0 x2 x4 x6 x7 x8 x9 x10) else (
        if x8 ≤ 0 then (
        fX7_countRows_144 h x0 x2 x4 x6 x7 x8 x9 x10) else (
          gO h 7 x0 (
          (fX7_passOn h x0 v11 v14 x9).bind fun y17 =>
          fX7_countRows_144 y17 x0 x2 x4 x6 x7 x8 x9 x10)))) else (
      gO h 7 x0 (
      (fX7_rowsOf h x0 x8).bind fun y19 =>
      fX7_countRows_144 h x0 x2 (x4 + (v14 * y19)) x6 x7 x8 x9 x10))))
noncomputable def fX7_countRows_59 (h : Hp) (x0 : Nat) (x2 : Int32) (x4 : Int64) (x6 : Int32) (x7 : Int32) (x8 : Int32) (x9 : Int32) (x10 : Int32) : Option ((Int64 × Int32 × Int32 × Int32 × Hp) ⊕ (Int64 × Hp)) := lpw (σ := (Int64 × Int32 × Hp)) (fun s => fX7_countRows_59b s.2.2 x0 x2 x6 x7 x8 x9 s.1 s.2.1) (x4, x10, h)
theorem oX7_countRows_59b {d : Nat} (hd : 5 ≤ d) {h : Hp} {x0 : Nat} {x2 : Int32} {x4 : Int64} {x6 : Int32} {x7 : Int32} {x8 : Int32} {x9 : Int32} {x10 : Int32} {rf : Option Value} {hf : Hp} {x : ((Int64 × Int32 × Hp) ⊕ ((Int64 × Int32 × Int32 × Int32 × Hp) ⊕ (Int64 × Hp)))} (hs : fX7_countRows_59b h x0 x2 x6 x7 x8 x9 x4 x10 = some x) (hk : (Kx (pX7_countRows_59 d x0 x2 x6 x7 x8 x9 rf hf) (Kx (pX7_countRows_39 d x0 x2 rf hf) (kX7_countRows rf hf))) x) : Go d mX7_countRows 59 [some (.ref x0), none, some (.int x2), none, some (.long x4), none, some (.int x6), some (.int x7), some (.int x8), some (.int x9), some (.int x10), none, none, none] [] h rf hf := by
  unfold fX7_countRows_59b at hs
  refine go_iload rfl dX7_countRows_59 ?_
  refine go_iload rfl dX7_countRows_61 ?_
  refine go_icmp_ge (tgt := 150) (by decide) dX7_countRows_63 (fun c => ?_) (fun c => ?_)
  · have hs := if_t c hs
    obtain ⟨q, hs2, hq⟩ := mapS hs
    clear hs
    subst hq
    exact go_subL (L' := [some (.ref x0), none, some (.int x2), none, some (.long x4), none, none, none, some (.int x8), some (.int x9), none, none, none, none]) (by simp [subL, va_rf]) (oX7_countRows_150 hd hs2 hk)
  · have hs := if_f c hs
    refine go_aload_n (k4 := 0) rfl (Or.inr ⟨_, rfl⟩) dX7_countRows_66 ?_
    obtain ⟨v10, ev10, hs⟩ := bindS hs
    refine go_gN fl_RX7_22 ev10 dX7_countRows_67 ?_
    refine go_iload rfl dX7_countRows_70 ?_
    refine go_iload rfl dX7_countRows_72 ?_
    refine go_iadd dX7_countRows_74 ?_
    obtain ⟨v11, ev11, hs⟩ := bindS hs
    refine go_aIi ev11 dX7_countRows_75 ?_
    refine go_istore (L' := [some (.ref x0), none, some (.int x2), none, some (.long x4), none, some (.int x6), some (.int x7), some (.int x8), some (.int x9), some (.int x10), some (.int v11), none, none]) (by decide) rfl dX7_countRows_76 ?_
    refine go_at 78 rfl ?_
    refine go_aload_n (k4 := 0) rfl (Or.inr ⟨_, rfl⟩) dX7_countRows_78 ?_
    obtain ⟨v12, ev12, hs⟩ := bindS hs
    refine go_gN fl_RX7_31 ev12 dX7_countRows_79 ?_
    refine go_iload rfl dX7_countRows_82 ?_
    refine go_iload rfl dX7_countRows_84 ?_
    refine go_sipush (v := 10000) (by decide) dX7_countRows_86 ?_
    obtain ⟨v13, ev13, hs⟩ := bindS hs
    refine go_rm ev13 dX7_countRows_89 ?_
    refine go_iadd dX7_countRows_90 ?_
    obtain ⟨v14, ev14, hs⟩ := bindS hs
    refine go_aJ ev14 dX7_countRows_91 ?_
    refine go_at 92 rfl ?_
    refine go_lstore (L' := [some (.ref x0), none, some (.int x2), none, some (.long x4), none, some (.int x6), some (.int x7), some (.int x8), some (.int x9), some (.int x10), some (.int v11), some (.long v14), none]) (by decide) rfl dX7_countRows_92 ?_
    refine go_aload_n (k4 := 0) rfl (Or.inr ⟨_, rfl⟩) dX7_countRows_94 ?_
    refine go_iload rfl dX7_countRows_95 ?_
    refine go_iload_n (k4 := 2) rfl dX7_countRows_97 ?_
    obtain ⟨g16, hs⟩ := gO_at hs
    obtain ⟨y15, ey15, hs⟩ := bindS hs
    refine go_V1 (As := [.int v11, .int x2]) (st := []) g16 rfl rfl (oX7_isGoal (d := d - 1) (by omega) ey15) (by omega) mb_X7_isGoal lm_RX7_95 mi_X7_isGoal (Nat.le_of_ble_eq_true rfl) rfl dX7_countRows_98 ?_
    refine go_if_eq (tgt := 121) (by decide) dX7_countRows_101 (fun c => ?_) (fun c => ?_)
    · have hs := if_t c hs
      refine go_iload rfl dX7_countRows_121 ?_
      refine go_sipush (v := 10000) (by decide) dX7_countRows_123 ?_
      refine go_icmp_ge (tgt := 144) (by decide) dX7_countRows_126 (fun c => ?_) (fun c => ?_)
      · have hs := if_t c hs
        exact go_subL (L' := [some (.ref x0), none, some (.int x2), none, some (.long x4), none, some (.int x6), some (.int x7), some (.int x8), some (.int x9), some (.int x10), none, none, none]) (by simp [subL, va_rf]) (oX7_countRows_144 hd hs hk)
      · have hs := if_f c hs
        refine go_iload rfl dX7_countRows_129 ?_
        refine go_if_le (tgt := 144) (by decide) dX7_countRows_131 (fun c => ?_) (fun c => ?_)
        · have hs := if_t c hs
          exact go_subL (L' := [some (.ref x0), none, some (.int x2), none, some (.long x4), none, some (.int x6), some (.int x7), some (.int x8), some (.int x9), some (.int x10), none, none, none]) (by simp [subL, va_rf]) (oX7_countRows_144 hd hs hk)
        · have hs := if_f c hs
          refine go_aload_n (k4 := 0) rfl (Or.inr ⟨_, rfl⟩) dX7_countRows_134 ?_
          refine go_iload rfl dX7_countRows_135 ?_
          refine go_lload rfl dX7_countRows_137 ?_
          refine go_iload rfl dX7_countRows_139 ?_
          obtain ⟨g18, hs⟩ := gO_at hs
          obtain ⟨y17, ey17, hs⟩ := bindS hs
          refine go_V0 (As := [.int v11, .long v14, .int x9]) (st := []) g18 rfl rfl (oX7_passOn (d := d - 1) (by omega) ey17) (by omega) mb_X7_passOn lm_RX7_133 mi_X7_passOn (Nat.le_of_ble_eq_true rfl) rfl dX7_countRows_141 ?_
          exact go_subL (L' := [some (.ref x0), none, some (.int x2), none, some (.long x4), none, some (.int x6), some (.int x7), some (.int x8), some (.int x9), some (.int x10), none, none, none]) (by simp [subL, va_rf]) (oX7_countRows_144 hd hs hk)
    · have hs := if_f c hs
      refine go_lload rfl dX7_countRows_104 ?_
      refine go_lload rfl dX7_countRows_106 ?_
      refine go_aload_n (k4 := 0) rfl (Or.inr ⟨_, rfl⟩) dX7_countRows_108 ?_
      refine go_iload rfl dX7_countRows_109 ?_
      obtain ⟨g20, hs⟩ := gO_at hs
      obtain ⟨y19, ey19, hs⟩ := bindS hs
      refine go_V1 (As := [.int x8]) (st := [.long v14, .long x4]) g20 rfl rfl (oX7_rowsOf (d := d - 1) (by omega) ey19) (by omega) mb_X7_rowsOf lm_RX7_129 mi_X7_rowsOf (Nat.le_of_ble_eq_true rfl) rfl dX7_countRows_111 ?_
      refine go_lmul dX7_countRows_114 ?_
      refine go_ladd dX7_countRows_115 ?_
      refine go_at 116 rfl ?_
      refine go_lstore (L' := [some (.ref x0), none, some (.int x2), none, some (.long (x4 + (v14 * y19))), none, some (.int x6), some (.int x7), some (.int x8), some (.int x9), some (.int x10), some (.int v11), some (.long v14), none]) (by decide) rfl dX7_countRows_116 ?_
      refine go_goto (tgt := 144) (by decide) dX7_countRows_118 ?_
      exact go_subL (L' := [some (.ref x0), none, some (.int x2), none, some (.long (x4 + (v14 * y19))), none, some (.int x6), some (.int x7), some (.int x8), some (.int x9), some (.int x10), none, none, none]) (by simp [subL, va_rf]) (oX7_countRows_144 hd hs hk)
theorem oX7_countRows_59 {d : Nat} (hd : 5 ≤ d) {h : Hp} {x0 : Nat} {x2 : Int32} {x4 : Int64} {x6 : Int32} {x7 : Int32} {x8 : Int32} {x9 : Int32} {x10 : Int32} {rf : Option Value} {hf : Hp} {x : ((Int64 × Int32 × Int32 × Int32 × Hp) ⊕ (Int64 × Hp))} (hs : fX7_countRows_59 h x0 x2 x4 x6 x7 x8 x9 x10 = some x) (hk : (Kx (pX7_countRows_39 d x0 x2 rf hf) (kX7_countRows rf hf)) x) : Go d mX7_countRows 59 [some (.ref x0), none, some (.int x2), none, some (.long x4), none, some (.int x6), some (.int x7), some (.int x8), some (.int x9), some (.int x10), none, none, none] [] h rf hf := by
  unfold fX7_countRows_59 at hs
  exact lpw_go (P := pX7_countRows_59 d x0 x2 x6 x7 x8 x9 rf hf) (fun s x hs hk => oX7_countRows_59b hd hs hk) (x4, x10, h) x hs hk
noncomputable def fX7_countRows_39b (h : Hp) (x0 : Nat) (x2 : Int32) (x4 : Int64) (x6 : Int32) (x7 : Int32) (x8 : Int32) : Option ((Int64 × Int32 × Int32 × Int32 × Hp) ⊕ (Int64 × Hp)) :=
  if x8 < 0 then (
    some (.inr (x4, h))) else (
    gO h 7 x0 (
    (fX7_begin h x0).bind fun y7 =>
    fX7_countRows_59 y7 x0 x2 x4 x6 x7 x8 ((10000 : Int32) - x6) (0 : Int32)))
noncomputable def fX7_countRows_39 (h : Hp) (x0 : Nat) (x2 : Int32) (x4 : Int64) (x6 : Int32) (x7 : Int32) (x8 : Int32) : Option (Int64 × Hp) := lpw (σ := (Int64 × Int32 × Int32 × Int32 × Hp)) (fun s => fX7_countRows_39b s.2.2.2.2 x0 x2 s.1 s.2.1 s.2.2.1 s.2.2.2.1) (x4, x6, x7, x8, h)
theorem oX7_countRows_39b {d : Nat} (hd : 5 ≤ d) {h : Hp} {x0 : Nat} {x2 : Int32} {x4 : Int64} {x6 : Int32} {x7 : Int32} {x8 : Int32} {rf : Option Value} {hf : Hp} {x : ((Int64 × Int32 × Int32 × Int32 × Hp) ⊕ (Int64 × Hp))} (hs : fX7_countRows_39b h x0 x2 x4 x6 x7 x8 = some x) (hk : (Kx (pX7_countRows_39 d x0 x2 rf hf) (kX7_countRows rf hf)) x) : Go d mX7_countRows 39 [some (.ref x0), none, some (.int x2), none, some (.long x4), none, some (.int x6), some (.int x7), some (.int x8), none, none, none, none, none] [] h rf hf := by
  unfold fX7_countRows_39b at hs
  refine go_iload rfl dX7_countRows_39 ?_
  refine go_if_lt (tgt := 166) (by decide) dX7_countRows_41 (fun c => ?_) (fun c => ?_)
  · have hs := if_t c hs
    refine go_lload rfl dX7_countRows_166 ?_
    obtain rfl := Option.some.inj hs
    obtain ⟨rfl, rfl⟩ := hk
    exact go_lret rfl dX7_countRows_168
  · have hs := if_f c hs
    refine go_sipush (v := 10000) (by decide) dX7_countRows_44 ?_
    refine go_iload rfl dX7_countRows_47 ?_
    refine go_isub dX7_countRows_49 ?_
    refine go_istore (L' := [some (.ref x0), none, some (.int x2), none, some (.long x4), none, some (.int x6), some (.int x7), some (.int x8), some (.int ((10000 : Int32) - x6)), none, none, none, none]) (by decide) rfl dX7_countRows_50 ?_
    refine go_aload_n (k4 := 0) rfl (Or.inr ⟨_, rfl⟩) dX7_countRows_52 ?_
    obtain ⟨g8, hs⟩ := gO_at hs
    obtain ⟨y7, ey7, hs⟩ := bindS hs
    refine go_V0 (As := []) (st := []) g8 rfl rfl (oX7_begin (d := d - 1) (by omega) ey7) (by omega) mb_X7_begin lm_RX7_88 mi_X7_begin (Nat.le_of_ble_eq_true rfl) rfl dX7_countRows_53 ?_
    refine go_iconst (v := 0) (by decide) dX7_countRows_56 ?_
    refine go_at 57 rfl ?_
    refine go_istore (L' := [some (.ref x0), none, some (.int x2), none, some (.long x4), none, some (.int x6), some (.int x7), some (.int x8), some (.int ((10000 : Int32) - x6)), some (.int (0 : Int32)), none, none, none]) (by decide) rfl dX7_countRows_57 ?_
    exact go_subL (L' := [some (.ref x0), none, some (.int x2), none, some (.long x4), none, some (.int x6), some (.int x7), some (.int x8), some (.int ((10000 : Int32) - x6)), some (.int (0 : Int32)), none, none, none]) (by simp [subL, va_rf]) (oX7_countRows_59 hd hs hk)
theorem oX7_countRows_39 {d : Nat} (hd : 5 ≤ d) {h : Hp} {x0 : Nat} {x2 : Int32} {x4 : Int64} {x6 : Int32} {x7 : Int32} {x8 : Int32} {rf : Option Value} {hf : Hp} {x : (Int64 × Hp)} (hs : fX7_countRows_39 h x0 x2 x4 x6 x7 x8 = some x) (hk : (kX7_countRows rf hf) x) : Go d mX7_countRows 39 [some (.ref x0), none, some (.int x2), none, some (.long x4), none, some (.int x6), some (.int x7), some (.int x8), none, none, none, none, none] [] h rf hf := by
  unfold fX7_countRows_39 at hs
  exact lpw_go (P := pX7_countRows_39 d x0 x2 rf hf) (fun s x hs hk => oX7_countRows_39b hd hs hk) (x4, x6, x7, x8, h) x hs hk
noncomputable def fX7_countRows (h : Hp) (x0 : Nat) (x1 : Int32) (x2 : Int32) (x3 : Int32) : Option (Int64 × Hp) :=
  (fX7_isState h x1).bind fun y1 =>
  if y1 = 0 then (
    some (((0 : Int64), h))) else (
    (gN h 7 x0 5).bind fun v2 =>
    (wI 0 h v2 (0 : Int32) x1).bind fun h3 =>
    (gN h3 7 x0 8).bind fun v4 =>
    (rm x1 (10000 : Int32)).bind fun v5 =>
    (wJ h3 v4 v5 (1 : Int64)).bind fun h6 =>
    fX7_countRows_39 h6 x0 x2 (0 : Int64) (0 : Int32) (1 : Int32) x3)
theorem oX7_countRows_0 {d : Nat} (hd : 5 ≤ d) {h : Hp} {x0 : Nat} {x1 : Int32} {x2 : Int32} {x3 : Int32} {rf : Option Value} {hf : Hp} {x : (Int64 × Hp)} (hs : fX7_countRows h x0 x1 x2 x3 = some x) (hk : (kX7_countRows rf hf) x) : Go d mX7_countRows 0 [some (.ref x0), some (.int x1), some (.int x2), some (.int x3), none, none, none, none, none, none, none, none, none, none] [] h rf hf := by
  unfold fX7_countRows at hs
  refine go_iload_n (k4 := 1) rfl dX7_countRows_0 ?_
  obtain ⟨y1, ey1, hs⟩ := bindS hs
  refine go_S1 (As := [.int x1]) (st := []) (oX7_isState (d := d - 1) (by omega) ey1) (by omega) mb_X7_isState lm_RX7_74 ms_X7_isState (Nat.le_of_ble_eq_true rfl) rfl dX7_countRows_1 ?_
  refine go_if_ne (tgt := 9) (by decide) dX7_countRows_4 (fun c => ?_) (fun c => ?_)
  · have hs := if_f c hs
    refine go_lconst (v := 0) (by decide) dX7_countRows_9 ?_
    refine go_lstore (L' := [some (.ref x0), some (.int x1), some (.int x2), some (.int x3), some (.long (0 : Int64)), none, none, none, none, none, none, none, none, none]) (by decide) rfl dX7_countRows_10 ?_
    refine go_iconst (v := 0) (by decide) dX7_countRows_12 ?_
    refine go_istore (L' := [some (.ref x0), some (.int x1), some (.int x2), some (.int x3), some (.long (0 : Int64)), none, some (.int (0 : Int32)), none, none, none, none, none, none, none]) (by decide) rfl dX7_countRows_13 ?_
    refine go_iconst (v := 1) (by decide) dX7_countRows_15 ?_
    refine go_istore (L' := [some (.ref x0), some (.int x1), some (.int x2), some (.int x3), some (.long (0 : Int64)), none, some (.int (0 : Int32)), some (.int (1 : Int32)), none, none, none, none, none, none]) (by decide) rfl dX7_countRows_16 ?_
    refine go_aload_n (k4 := 0) rfl (Or.inr ⟨_, rfl⟩) dX7_countRows_18 ?_
    refine go_at 19 rfl ?_
    obtain ⟨v2, ev2, hs⟩ := bindS hs
    refine go_gN fl_RX7_22 ev2 dX7_countRows_19 ?_
    refine go_iconst (v := 0) (by decide) dX7_countRows_22 ?_
    refine go_iload_n (k4 := 1) rfl dX7_countRows_23 ?_
    obtain ⟨h3, eh3, hs⟩ := bindS hs
    refine go_wIi eh3 dX7_countRows_24 ?_
    refine go_aload_n (k4 := 0) rfl (Or.inr ⟨_, rfl⟩) dX7_countRows_25 ?_
    obtain ⟨v4, ev4, hs⟩ := bindS hs
    refine go_gN fl_RX7_31 ev4 dX7_countRows_26 ?_
    refine go_iload_n (k4 := 1) rfl dX7_countRows_29 ?_
    refine go_sipush (v := 10000) (by decide) dX7_countRows_30 ?_
    refine go_at 33 rfl ?_
    obtain ⟨v5, ev5, hs⟩ := bindS hs
    refine go_rm ev5 dX7_countRows_33 ?_
    refine go_lconst (v := 1) (by decide) dX7_countRows_34 ?_
    obtain ⟨h6, eh6, hs⟩ := bindS hs
    refine go_wJ eh6 dX7_countRows_35 ?_
    refine go_iload_n (k4 := 3) rfl dX7_countRows_36 ?_
    refine go_istore (L' := [some (.ref x0), some (.int x1), some (.int x2), some (.int x3), some (.long (0 : Int64)), none, some (.int (0 : Int32)), some (.int (1 : Int32)), some (.int x3), none, none, none, none, none]) (by decide) rfl dX7_countRows_37 ?_
    exact go_subL (L' := [some (.ref x0), none, some (.int x2), none, some (.long (0 : Int64)), none, some (.int (0 : Int32)), some (.int (1 : Int32)), some (.int x3), none, none, none, none, none]) (by simp [subL, va_rf]) (oX7_countRows_39 hd hs hk)
  · have hs := if_t c hs
    refine go_lconst (v := 0) (by decide) dX7_countRows_7 ?_
    obtain rfl := Option.some.inj hs
    obtain ⟨rfl, rfl⟩ := hk
    exact go_lret rfl dX7_countRows_8
theorem oX7_countRows {d : Nat} (hd : 5 ≤ d) {h : Hp} {x0 : Nat} {x1 : Int32} {x2 : Int32} {x3 : Int32} {y : (Int64 × Hp)} (hs : fX7_countRows h x0 x1 x2 x3 = some y) : Call d mX7_countRows [.ref x0, .int x1, .int x2, .int x3] h (some (.long y.1)) (y.2) := call_of (by decide +kernel) (Nat.le_of_ble_eq_true rfl) (show Go d mX7_countRows 0 [some (.ref x0), some (.int x1), some (.int x2), some (.int x3), none, none, none, none, none, none, none, none, none, none] [] h _ _ from go_subL (by simp [subL]) (oX7_countRows_0 hd hs ⟨rfl, rfl⟩))
abbrev kX11_rows (rf : Option Value) (hf : Hp) : (Int64 × Hp) → Prop := fun y => rf = some (.long y.1) ∧ hf = y.2
noncomputable def fX11_rows_18 (h : Hp)  : Option (Int64 × Hp) :=
  some (((-3 : Int64), h))
theorem oX11_rows_18 {d : Nat} (hd : 6 ≤ d) {h : Hp} {rf : Option Value} {hf : Hp} {x : (Int64 × Hp)} (hs : fX11_rows_18 h  = some x) (hk : (kX11_rows rf hf) x) : Go d mX11_rows 18 [none, none, none] [] h rf hf := by
  unfold fX11_rows_18 at hs
  refine go_ldc2 lc_RX11_305 dX11_rows_18 ?_
  obtain rfl := Option.some.inj hs
  obtain ⟨rfl, rfl⟩ := hk
  exact go_lret rfl dX11_rows_21
noncomputable def fX11_rows (h : Hp) (x0 : Nat) (x1 : Int32) (x2 : Int32) : Option (Int64 × Hp) :=
  gO h 11 x0 (
  (fX11_isSet h x0 x1).bind fun y1 =>
  if y1 = 0 then (
  fX11_rows_18 h ) else (
    if x2 < 0 then (
    fX11_rows_18 h ) else (
      if x2 ≤ (8 : Int32) then (
        gO h 11 x0 (
        (fX11_searching h x0).bind fun y3 =>
        (gN y3.2 11 x0 4).bind fun v5 =>
        (gI y3.2 8 v5 0).bind fun v6 =>
        gO y3.2 7 y3.1 (
        (fX7_countRows y3.2 y3.1 v6 x1 x2).bind fun y7 =>
        some ((y7.1, y7.2))))) else (
      fX11_rows_18 h ))))
theorem oX11_rows_0 {d : Nat} (hd : 6 ≤ d) {h : Hp} {x0 : Nat} {x1 : Int32} {x2 : Int32} {rf : Option Value} {hf : Hp} {x : (Int64 × Hp)} (hs : fX11_rows h x0 x1 x2 = some x) (hk : (kX11_rows rf hf) x) : Go d mX11_rows 0 [some (.ref x0), some (.int x1), some (.int x2)] [] h rf hf := by
  unfold fX11_rows at hs
  refine go_aload_n (k4 := 0) rfl (Or.inr ⟨_, rfl⟩) dX11_rows_0 ?_
  refine go_iload_n (k4 := 1) rfl dX11_rows_1 ?_
  obtain ⟨g2, hs⟩ := gO_at hs
  obtain ⟨y1, ey1, hs⟩ := bindS hs
  refine go_V1 (As := [.int x1]) (st := []) g2 rfl rfl (oX11_isSet (d := d - 1) (by omega) ey1) (by omega) mb_X11_isSet lm_RX11_289 mi_X11_isSet (Nat.le_of_ble_eq_true rfl) rfl dX11_rows_2 ?_
  refine go_if_eq (tgt := 18) (by decide) dX11_rows_5 (fun c => ?_) (fun c => ?_)
  · have hs := if_t c hs
    exact go_subL (L' := [none, none, none]) (by simp [subL, va_rf]) (oX11_rows_18 hd hs hk)
  · have hs := if_f c hs
    refine go_iload_n (k4 := 2) rfl dX11_rows_8 ?_
    refine go_if_lt (tgt := 18) (by decide) dX11_rows_9 (fun c => ?_) (fun c => ?_)
    · have hs := if_t c hs
      exact go_subL (L' := [none, none, none]) (by simp [subL, va_rf]) (oX11_rows_18 hd hs hk)
    · have hs := if_f c hs
      refine go_iload_n (k4 := 2) rfl dX11_rows_12 ?_
      refine go_bipush (v := 8) (by decide) dX11_rows_13 ?_
      refine go_icmp_le (tgt := 22) (by decide) dX11_rows_15 (fun c => ?_) (fun c => ?_)
      · have hs := if_t c hs
        refine go_aload_n (k4 := 0) rfl (Or.inr ⟨_, rfl⟩) dX11_rows_22 ?_
        obtain ⟨g4, hs⟩ := gO_at hs
        obtain ⟨y3, ey3, hs⟩ := bindS hs
        refine go_V1 (As := []) (st := []) g4 rfl rfl (oX11_searching (d := d - 1) (by omega) ey3) (by omega) mb_X11_searching lm_RX11_292 mi_X11_searching (Nat.le_of_ble_eq_true rfl) rfl dX11_rows_23 ?_
        refine go_aload_n (k4 := 0) rfl (Or.inr ⟨_, rfl⟩) dX11_rows_26 ?_
        obtain ⟨v5, ev5, hs⟩ := bindS hs
        refine go_gN fl_RX11_36 ev5 dX11_rows_27 ?_
        obtain ⟨v6, ev6, hs⟩ := bindS hs
        refine go_gI fl_RX11_142 ev6 dX11_rows_30 ?_
        refine go_iload_n (k4 := 1) rfl dX11_rows_33 ?_
        refine go_iload_n (k4 := 2) rfl dX11_rows_34 ?_
        refine go_at 35 rfl ?_
        obtain ⟨g8, hs⟩ := gO_at hs
        obtain ⟨y7, ey7, hs⟩ := bindS hs
        refine go_V1 (As := [.int v6, .int x1, .int x2]) (st := []) g8 rfl rfl (oX7_countRows (d := d - 1) (by omega) ey7) (by omega) mb_X7_countRows lm_RX11_307 mi_X7_countRows (Nat.le_of_ble_eq_true rfl) rfl dX11_rows_35 ?_
        obtain rfl := Option.some.inj hs
        obtain ⟨rfl, rfl⟩ := hk
        exact go_lret rfl dX11_rows_38
      · have hs := if_f c hs
        exact go_subL (L' := [none, none, none]) (by simp [subL, va_rf]) (oX11_rows_18 hd hs hk)
theorem oX11_rows {d : Nat} (hd : 6 ≤ d) {h : Hp} {x0 : Nat} {x1 : Int32} {x2 : Int32} {y : (Int64 × Hp)} (hs : fX11_rows h x0 x1 x2 = some y) : Call d mX11_rows [.ref x0, .int x1, .int x2] h (some (.long y.1)) (y.2) := call_of (by decide +kernel) (Nat.le_of_ble_eq_true rfl) (show Go d mX11_rows 0 [some (.ref x0), some (.int x1), some (.int x2)] [] h _ _ from go_subL (by simp [subL]) (oX11_rows_0 hd hs ⟨rfl, rfl⟩))
abbrev kX7_mostMet (h : Hp) (rf : Option Value) (hf : Hp) : Int32 → Prop := fun y => rf = some (.int y) ∧ hf = h
abbrev pX7_mostMet_4 (d : Nat) (h : Hp) (x0 : Nat) (rf : Option Value) (hf : Hp) : (Int32 × Int32) → Prop := fun s => Go d mX7_mostMet 4 [some (.ref x0), some (.int s.1), some (.int s.2)] [] h rf hf
noncomputable def fX7_mostMet_4b (h : Hp) (x0 : Nat) (x1 : Int32) (x2 : Int32) : Option ((Int32 × Int32) ⊕ Int32) :=
  (gI h 7 x0 12).bind fun v1 =>
  if v1 ≤ x2 then (
    some (.inr x1)) else (
    (gN h 7 x0 1).bind fun v2 =>
    (gN h 7 x0 5).bind fun v3 =>
    (aI 0 h v3 x2).bind fun v4 =>
    gO h 0 v2 (
    (fX0_metCount h v2 v4).bind fun y5 =>
    some (.inl ((imax x1 y5), (x2 + Int32.ofInt 1)))))
noncomputable def fX7_mostMet_4 (h : Hp) (x0 : Nat) (x1 : Int32) (x2 : Int32) : Option Int32 := lpw (σ := (Int32 × Int32)) (fun s => fX7_mostMet_4b h x0 s.1 s.2) (x1, x2)
theorem oX7_mostMet_4b {d : Nat} (hd : 2 ≤ d) {h : Hp} {x0 : Nat} {x1 : Int32} {x2 : Int32} {rf : Option Value} {hf : Hp} {x : ((Int32 × Int32) ⊕ Int32)} (hs : fX7_mostMet_4b h x0 x1 x2 = some x) (hk : (Kx (pX7_mostMet_4 d h x0 rf hf) (kX7_mostMet h rf hf)) x) : Go d mX7_mostMet 4 [some (.ref x0), some (.int x1), some (.int x2)] [] h rf hf := by
  unfold fX7_mostMet_4b at hs
  refine go_iload_n (k4 := 2) rfl dX7_mostMet_4 ?_
  refine go_aload_n (k4 := 0) rfl (Or.inr ⟨_, rfl⟩) dX7_mostMet_5 ?_
  obtain ⟨v1, ev1, hs⟩ := bindS hs
  refine go_gI fl_RX7_44 ev1 dX7_mostMet_6 ?_
  refine go_icmp_ge (tgt := 36) (by decide) dX7_mostMet_9 (fun c => ?_) (fun c => ?_)
  · have hs := if_t c hs
    refine go_iload_n (k4 := 1) rfl dX7_mostMet_36 ?_
    obtain rfl := Option.some.inj hs
    obtain ⟨rfl, rfl⟩ := hk
    exact go_iret rfl dX7_mostMet_37
  · have hs := if_f c hs
    refine go_iload_n (k4 := 1) rfl dX7_mostMet_12 ?_
    refine go_aload_n (k4 := 0) rfl (Or.inr ⟨_, rfl⟩) dX7_mostMet_13 ?_
    obtain ⟨v2, ev2, hs⟩ := bindS hs
    refine go_gN fl_RX7_64 ev2 dX7_mostMet_14 ?_
    refine go_aload_n (k4 := 0) rfl (Or.inr ⟨_, rfl⟩) dX7_mostMet_17 ?_
    obtain ⟨v3, ev3, hs⟩ := bindS hs
    refine go_gN fl_RX7_22 ev3 dX7_mostMet_18 ?_
    refine go_iload_n (k4 := 2) rfl dX7_mostMet_21 ?_
    obtain ⟨v4, ev4, hs⟩ := bindS hs
    refine go_aIi ev4 dX7_mostMet_22 ?_
    refine go_at 23 rfl ?_
    obtain ⟨g6, hs⟩ := gO_at hs
    obtain ⟨y5, ey5, hs⟩ := bindS hs
    refine go_V1 (As := [.int v4]) (st := [.int x1]) g6 rfl rfl (oX0_metCount (d := d - 1) (by omega) ey5) (by omega) mb_X0_metCount lm_RX7_118 mi_X0_metCount (Nat.le_of_ble_eq_true rfl) rfl dX7_mostMet_23 ?_
    refine go_mmax lx_RX7_121.1 lx_RX7_121.2.1 lx_RX7_121.2.2.1 lx_RX7_121.2.2.2 (by omega) (Nat.le_of_ble_eq_true rfl) dX7_mostMet_26 ?_
    refine go_istore_n (k4 := 1) (L' := [some (.ref x0), some (.int (imax x1 y5)), some (.int x2)]) (by decide) rfl dX7_mostMet_29 ?_
    refine go_iinc (L' := [some (.ref x0), some (.int (imax x1 y5)), some (.int (x2 + Int32.ofInt 1))]) rfl (by decide) rfl rfl dX7_mostMet_30 ?_
    refine go_goto (tgt := 4) (by decide) dX7_mostMet_33 ?_
    obtain rfl := Option.some.inj hs
    exact go_subL (L' := [some (.ref x0), some (.int (imax x1 y5)), some (.int (x2 + Int32.ofInt 1))]) (by simp [subL, va_rf]) hk
theorem oX7_mostMet_4 {d : Nat} (hd : 2 ≤ d) {h : Hp} {x0 : Nat} {x1 : Int32} {x2 : Int32} {rf : Option Value} {hf : Hp} {x : Int32} (hs : fX7_mostMet_4 h x0 x1 x2 = some x) (hk : (kX7_mostMet h rf hf) x) : Go d mX7_mostMet 4 [some (.ref x0), some (.int x1), some (.int x2)] [] h rf hf := by
  unfold fX7_mostMet_4 at hs
  exact lpw_go (P := pX7_mostMet_4 d h x0 rf hf) (fun s x hs hk => oX7_mostMet_4b hd hs hk) (x1, x2) x hs hk
noncomputable def fX7_mostMet (h : Hp) (x0 : Nat) : Option Int32 :=
  fX7_mostMet_4 h x0 (0 : Int32) (0 : Int32)
theorem oX7_mostMet_0 {d : Nat} (hd : 2 ≤ d) {h : Hp} {x0 : Nat} {rf : Option Value} {hf : Hp} {x : Int32} (hs : fX7_mostMet h x0 = some x) (hk : (kX7_mostMet h rf hf) x) : Go d mX7_mostMet 0 [some (.ref x0), none, none] [] h rf hf := by
  unfold fX7_mostMet at hs
  refine go_iconst (v := 0) (by decide) dX7_mostMet_0 ?_
  refine go_istore_n (k4 := 1) (L' := [some (.ref x0), some (.int (0 : Int32)), none]) (by decide) rfl dX7_mostMet_1 ?_
  refine go_iconst (v := 0) (by decide) dX7_mostMet_2 ?_
  refine go_istore_n (k4 := 2) (L' := [some (.ref x0), some (.int (0 : Int32)), some (.int (0 : Int32))]) (by decide) rfl dX7_mostMet_3 ?_
  exact go_subL (L' := [some (.ref x0), some (.int (0 : Int32)), some (.int (0 : Int32))]) (by simp [subL, va_rf]) (oX7_mostMet_4 hd hs hk)
theorem oX7_mostMet {d : Nat} (hd : 2 ≤ d) {h : Hp} {x0 : Nat} {y : Int32} (hs : fX7_mostMet h x0 = some y) : Call d mX7_mostMet [.ref x0] h (some (.int y)) h := call_of (by decide +kernel) (Nat.le_of_ble_eq_true rfl) (show Go d mX7_mostMet 0 [some (.ref x0), none, none] [] h _ _ from go_subL (by simp [subL]) (oX7_mostMet_0 hd hs ⟨rfl, rfl⟩))
abbrev kX11_most (rf : Option Value) (hf : Hp) : (Int32 × Hp) → Prop := fun y => rf = some (.int y.1) ∧ hf = y.2
noncomputable def fX11_most (h : Hp) (x0 : Nat) : Option (Int32 × Hp) :=
  gO h 11 x0 (
  (fX11_searching h x0).bind fun y1 =>
  (gN y1.2 11 x0 4).bind fun v3 =>
  (gI y1.2 8 v3 0).bind fun v4 =>
  gO y1.2 7 y1.1 (
  (fX7_explore y1.2 y1.1 v4 (-2 : Int32)).bind fun y5 =>
  gO y5.2 7 y1.1 (
  (fX7_mostMet y5.2 y1.1).bind fun y7 =>
  some ((y7, y5.2)))))
theorem oX11_most_0 {d : Nat} (hd : 6 ≤ d) {h : Hp} {x0 : Nat} {rf : Option Value} {hf : Hp} {x : (Int32 × Hp)} (hs : fX11_most h x0 = some x) (hk : (kX11_most rf hf) x) : Go d mX11_most 0 [some (.ref x0), none] [] h rf hf := by
  unfold fX11_most at hs
  refine go_aload_n (k4 := 0) rfl (Or.inr ⟨_, rfl⟩) dX11_most_0 ?_
  obtain ⟨g2, hs⟩ := gO_at hs
  obtain ⟨y1, ey1, hs⟩ := bindS hs
  refine go_V1 (As := []) (st := []) g2 rfl rfl (oX11_searching (d := d - 1) (by omega) ey1) (by omega) mb_X11_searching lm_RX11_292 mi_X11_searching (Nat.le_of_ble_eq_true rfl) rfl dX11_most_1 ?_
  refine go_astore_n (k4 := 1) (L' := [some (.ref x0), some (.ref y1.1)]) (by decide) (Or.inr ⟨_, rfl⟩) rfl dX11_most_4 ?_
  refine go_aload_n (k4 := 1) rfl (Or.inr ⟨_, rfl⟩) dX11_most_5 ?_
  refine go_aload_n (k4 := 0) rfl (Or.inr ⟨_, rfl⟩) dX11_most_6 ?_
  obtain ⟨v3, ev3, hs⟩ := bindS hs
  refine go_gN fl_RX11_36 ev3 dX11_most_7 ?_
  obtain ⟨v4, ev4, hs⟩ := bindS hs
  refine go_gI fl_RX11_142 ev4 dX11_most_10 ?_
  refine go_at 13 rfl ?_
  refine go_bipush (v := -2) (by decide) dX11_most_13 ?_
  obtain ⟨g6, hs⟩ := gO_at hs
  obtain ⟨y5, ey5, hs⟩ := bindS hs
  refine go_V1 (As := [.int v4, .int (-2 : Int32)]) (st := []) g6 rfl rfl (oX7_explore (d := d - 1) (by omega) ey5) (by omega) mb_X7_explore lm_RX11_296 mi_X7_explore (Nat.le_of_ble_eq_true rfl) rfl dX11_most_15 ?_
  refine go_pop rfl dX11_most_18 ?_
  refine go_aload_n (k4 := 1) rfl (Or.inr ⟨_, rfl⟩) dX11_most_19 ?_
  obtain ⟨g8, hs⟩ := gO_at hs
  obtain ⟨y7, ey7, hs⟩ := bindS hs
  refine go_V1 (As := []) (st := []) g8 rfl rfl (oX7_mostMet (d := d - 1) (by omega) ey7) (by omega) mb_X7_mostMet lm_RX11_311 mi_X7_mostMet (Nat.le_of_ble_eq_true rfl) rfl dX11_most_20 ?_
  obtain rfl := Option.some.inj hs
  obtain ⟨rfl, rfl⟩ := hk
  exact go_iret rfl dX11_most_23
theorem oX11_most {d : Nat} (hd : 6 ≤ d) {h : Hp} {x0 : Nat} {y : (Int32 × Hp)} (hs : fX11_most h x0 = some y) : Call d mX11_most [.ref x0] h (some (.int y.1)) (y.2) := call_of (by decide +kernel) (Nat.le_of_ble_eq_true rfl) (show Go d mX11_most 0 [some (.ref x0), none] [] h _ _ from go_subL (by simp [subL]) (oX11_most_0 hd hs ⟨rfl, rfl⟩))
abbrev kX7_leaveFor (rf : Option Value) (hf : Hp) : Hp → Prop := fun y => rf = none ∧ hf = y
noncomputable def fX7_leaveFor_39 (h : Hp)  : Option Hp :=
  some (h)
theorem oX7_leaveFor_39 {d : Nat} (hd : 2 ≤ d) {h : Hp} {rf : Option Value} {hf : Hp} {x : Hp} (hs : fX7_leaveFor_39 h  = some x) (hk : (kX7_leaveFor rf hf) x) : Go d mX7_leaveFor 39 [none, none, none] [] h rf hf := by
  unfold fX7_leaveFor_39 at hs
  obtain rfl := Option.some.inj hs
  obtain ⟨rfl, rfl⟩ := hk
  exact go_vret rfl dX7_leaveFor_39
noncomputable def fX7_leaveFor (h : Hp) (x0 : Nat) (x1 : Int32) (x2 : Int32) : Option Hp :=
  (fX7_isState h x1).bind fun y1 =>
  if y1 = 0 then (
  fX7_leaveFor_39 h ) else (
    (gN h 7 x0 7).bind fun v2 =>
    (aI 0 h v2 x1).bind fun v3 =>
    (wI 0 h v2 x1 (v3 - (1 : Int32))).bind fun h4 =>
    if (10000 : Int32) ≤ x1 then (
    fX7_leaveFor_39 h4 ) else (
      (gN h4 7 x0 7).bind fun v5 =>
      (aI 0 h4 v5 x1).bind fun v6 =>
      if v6 = 0 then (
        gO h4 7 x0 (
        (fX7_reach h4 x0 x1 x2).bind fun y7 =>
        fX7_leaveFor_39 y7 )) else (
      fX7_leaveFor_39 h4 )))
theorem oX7_leaveFor_0 {d : Nat} (hd : 2 ≤ d) {h : Hp} {x0 : Nat} {x1 : Int32} {x2 : Int32} {rf : Option Value} {hf : Hp} {x : Hp} (hs : fX7_leaveFor h x0 x1 x2 = some x) (hk : (kX7_leaveFor rf hf) x) : Go d mX7_leaveFor 0 [some (.ref x0), some (.int x1), some (.int x2)] [] h rf hf := by
  unfold fX7_leaveFor at hs
  refine go_iload_n (k4 := 1) rfl dX7_leaveFor_0 ?_
  obtain ⟨y1, ey1, hs⟩ := bindS hs
  refine go_S1 (As := [.int x1]) (st := []) (oX7_isState (d := d - 1) (by omega) ey1) (by omega) mb_X7_isState lm_RX7_74 ms_X7_isState (Nat.le_of_ble_eq_true rfl) rfl dX7_leaveFor_1 ?_
  refine go_if_eq (tgt := 39) (by decide) dX7_leaveFor_4 (fun c => ?_) (fun c => ?_)
  · have hs := if_t c hs
    exact go_subL (L' := [none, none, none]) (by simp [subL, va_rf]) (oX7_leaveFor_39 hd hs hk)
  · have hs := if_f c hs
    refine go_aload_n (k4 := 0) rfl (Or.inr ⟨_, rfl⟩) dX7_leaveFor_7 ?_
    obtain ⟨v2, ev2, hs⟩ := bindS hs
    refine go_gN fl_RX7_28 ev2 dX7_leaveFor_8 ?_
    refine go_iload_n (k4 := 1) rfl dX7_leaveFor_11 ?_
    refine go_dup2_11 rfl rfl dX7_leaveFor_12 ?_
    obtain ⟨v3, ev3, hs⟩ := bindS hs
    refine go_aIi ev3 dX7_leaveFor_13 ?_
    refine go_iconst (v := 1) (by decide) dX7_leaveFor_14 ?_
    refine go_isub dX7_leaveFor_15 ?_
    refine go_at 16 rfl ?_
    obtain ⟨h4, eh4, hs⟩ := bindS hs
    refine go_wIi eh4 dX7_leaveFor_16 ?_
    refine go_iload_n (k4 := 1) rfl dX7_leaveFor_17 ?_
    refine go_sipush (v := 10000) (by decide) dX7_leaveFor_18 ?_
    refine go_icmp_ge (tgt := 39) (by decide) dX7_leaveFor_21 (fun c => ?_) (fun c => ?_)
    · have hs := if_t c hs
      exact go_subL (L' := [none, none, none]) (by simp [subL, va_rf]) (oX7_leaveFor_39 hd hs hk)
    · have hs := if_f c hs
      refine go_aload_n (k4 := 0) rfl (Or.inr ⟨_, rfl⟩) dX7_leaveFor_24 ?_
      obtain ⟨v5, ev5, hs⟩ := bindS hs
      refine go_gN fl_RX7_28 ev5 dX7_leaveFor_25 ?_
      refine go_iload_n (k4 := 1) rfl dX7_leaveFor_28 ?_
      obtain ⟨v6, ev6, hs⟩ := bindS hs
      refine go_aIi ev6 dX7_leaveFor_29 ?_
      refine go_if_ne (tgt := 39) (by decide) dX7_leaveFor_30 (fun c => ?_) (fun c => ?_)
      · have hs := if_f c hs
        exact go_subL (L' := [none, none, none]) (by simp [subL, va_rf]) (oX7_leaveFor_39 hd hs hk)
      · have hs := if_t c hs
        refine go_aload_n (k4 := 0) rfl (Or.inr ⟨_, rfl⟩) dX7_leaveFor_33 ?_
        refine go_iload_n (k4 := 1) rfl dX7_leaveFor_34 ?_
        refine go_iload_n (k4 := 2) rfl dX7_leaveFor_35 ?_
        obtain ⟨g8, hs⟩ := gO_at hs
        obtain ⟨y7, ey7, hs⟩ := bindS hs
        refine go_V0 (As := [.int x1, .int x2]) (st := []) g8 rfl rfl (oX7_reach (d := d - 1) (by omega) ey7) (by omega) mb_X7_reach lm_RX7_91 mi_X7_reach (Nat.le_of_ble_eq_true rfl) rfl dX7_leaveFor_36 ?_
        exact go_subL (L' := [none, none, none]) (by simp [subL, va_rf]) (oX7_leaveFor_39 hd hs hk)
theorem oX7_leaveFor {d : Nat} (hd : 2 ≤ d) {h : Hp} {x0 : Nat} {x1 : Int32} {x2 : Int32} {y : Hp} (hs : fX7_leaveFor h x0 x1 x2 = some y) : Call d mX7_leaveFor [.ref x0, .int x1, .int x2] h (none) y := call_of (by decide +kernel) (Nat.le_of_ble_eq_true rfl) (show Go d mX7_leaveFor 0 [some (.ref x0), some (.int x1), some (.int x2)] [] h _ _ from go_subL (by simp [subL]) (oX7_leaveFor_0 hd hs ⟨rfl, rfl⟩))
