/-! methods: their texts as functions, and that the machine does just that -/
abbrev kX11_chalkBits (rf : Option Value) (hf : Hp) : (Int32 × Hp) → Prop := fun y => rf = some (.int y.1) ∧ hf = y.2
abbrev pX11_chalkBits_5 (d : Nat) (x0 : Nat) (x1 : Int32) (x2 : Int32) (rf : Option Value) (hf : Hp) : (Int32 × Int32 × Hp) → Prop := fun s => Go d mX11_chalkBits 5 [some (.ref x0), some (.int x1), some (.int x2), some (.int s.1), some (.int s.2.1)] [] s.2.2 rf hf
noncomputable def fX11_chalkBits_74 (h : Hp) (x0 : Nat) (x1 : Int32) (x2 : Int32) (x3 : Int32) (x4 : Int32) : Option ((Int32 × Int32 × Hp) ⊕ (Int32 × Hp)) :=
  some (.inl (x3, (x4 + Int32.ofInt 1), h))
theorem oX11_chalkBits_74 {d : Nat} (hd : 5 ≤ d) {h : Hp} {x0 : Nat} {x1 : Int32} {x2 : Int32} {x3 : Int32} {x4 : Int32} {rf : Option Value} {hf : Hp} {x : ((Int32 × Int32 × Hp) ⊕ (Int32 × Hp))} (hs : fX11_chalkBits_74 h x0 x1 x2 x3 x4 = some x) (hk : (Kx (pX11_chalkBits_5 d x0 x1 x2 rf hf) (kX11_chalkBits rf hf)) x) : Go d mX11_chalkBits 74 [some (.ref x0), some (.int x1), some (.int x2), some (.int x3), some (.int x4)] [] h rf hf := by
  unfold fX11_chalkBits_74 at hs
  refine go_iinc (L' := [some (.ref x0), some (.int x1), some (.int x2), some (.int x3), some (.int (x4 + Int32.ofInt 1))]) rfl (by decide) rfl rfl dX11_chalkBits_74 ?_
  refine go_goto (tgt := 5) (by decide) dX11_chalkBits_77 ?_
  obtain rfl := Option.some.inj hs
  exact go_subL (L' := [some (.ref x0), some (.int x1), some (.int x2), some (.int x3), some (.int (x4 + Int32.ofInt 1))]) (by simp [subL, va_rf]) hk
noncomputable def fX11_chalkBits_5b (h : Hp) (x0 : Nat) (x1 : Int32) (x2 : Int32) (x3 : Int32) (x4 : Int32) : Option ((Int32 × Int32 × Hp) ⊕ (Int32 × Hp)) :=
  if (9 : Int32) < x4 then (
    some (.inr (x3, h))) else (
    (gN h 11 x0 11).bind fun v1 =>
    (gN h 11 x0 3).bind fun v2 =>
    (gN h 11 x0 4).bind fun v3 =>
    (gI h 8 v3 1).bind fun v4 =>
    (fX11_withDigit h v4 x2 x4).bind fun y5 =>
    gO h 1 v1 (
    (fX1_tune h v1 v2 y5).bind fun y6 =>
    (gN y6 11 x0 12).bind fun v8 =>
    (gN y6 11 x0 8).bind fun v9 =>
    (aN y6 v9 x1).bind fun v10 =>
    (gN y6 11 x0 4).bind fun v11 =>
    (gI y6 8 v11 0).bind fun v12 =>
    (gN y6 11 x0 4).bind fun v13 =>
    (gI y6 8 v13 2).bind fun v14 =>
    gO y6 10 v8 (
    (fX10_isSeenSo y6 v8 v10 x2 v12 v14).bind fun y15 =>
    if y15.1 = 0 then (
    fX11_chalkBits_74 y15.2 x0 x1 x2 x3 x4) else (
      fX11_chalkBits_74 y15.2 x0 x1 x2 (x3 ||| ((1 : Int32) <<< (x4 &&& 31))) x4))))
noncomputable def fX11_chalkBits_5 (h : Hp) (x0 : Nat) (x1 : Int32) (x2 : Int32) (x3 : Int32) (x4 : Int32) : Option (Int32 × Hp) := lpw (σ := (Int32 × Int32 × Hp)) (fun s => fX11_chalkBits_5b s.2.2 x0 x1 x2 s.1 s.2.1) (x3, x4, h)
theorem oX11_chalkBits_5b {d : Nat} (hd : 5 ≤ d) {h : Hp} {x0 : Nat} {x1 : Int32} {x2 : Int32} {x3 : Int32} {x4 : Int32} {rf : Option Value} {hf : Hp} {x : ((Int32 × Int32 × Hp) ⊕ (Int32 × Hp))} (hs : fX11_chalkBits_5b h x0 x1 x2 x3 x4 = some x) (hk : (Kx (pX11_chalkBits_5 d x0 x1 x2 rf hf) (kX11_chalkBits rf hf)) x) : Go d mX11_chalkBits 5 [some (.ref x0), some (.int x1), some (.int x2), some (.int x3), some (.int x4)] [] h rf hf := by
  unfold fX11_chalkBits_5b at hs
  refine go_iload rfl dX11_chalkBits_5 ?_
  refine go_bipush (v := 9) (by decide) dX11_chalkBits_7 ?_
  refine go_icmp_gt (tgt := 80) (by decide) dX11_chalkBits_9 (fun c => ?_) (fun c => ?_)
  · have hs := if_t c hs
    refine go_iload_n (k4 := 3) rfl dX11_chalkBits_80 ?_
    obtain rfl := Option.some.inj hs
    obtain ⟨rfl, rfl⟩ := hk
    exact go_iret rfl dX11_chalkBits_81
  · have hs := if_f c hs
    refine go_aload_n (k4 := 0) rfl (Or.inr ⟨_, rfl⟩) dX11_chalkBits_12 ?_
    obtain ⟨v1, ev1, hs⟩ := bindS hs
    refine go_gN fl_RX11_72 ev1 dX11_chalkBits_13 ?_
    refine go_aload_n (k4 := 0) rfl (Or.inr ⟨_, rfl⟩) dX11_chalkBits_16 ?_
    obtain ⟨v2, ev2, hs⟩ := bindS hs
    refine go_gN fl_RX11_29 ev2 dX11_chalkBits_17 ?_
    refine go_aload_n (k4 := 0) rfl (Or.inr ⟨_, rfl⟩) dX11_chalkBits_20 ?_
    obtain ⟨v3, ev3, hs⟩ := bindS hs
    refine go_gN fl_RX11_36 ev3 dX11_chalkBits_21 ?_
    obtain ⟨v4, ev4, hs⟩ := bindS hs
    refine go_gI fl_RX11_149 ev4 dX11_chalkBits_24 ?_
    refine go_at 27 rfl ?_
    refine go_iload_n (k4 := 2) rfl dX11_chalkBits_27 ?_
    refine go_iload rfl dX11_chalkBits_28 ?_
    obtain ⟨y5, ey5, hs⟩ := bindS hs
    refine go_S1 (As := [.int v4, .int x2, .int x4]) (st := [.ref v2, .ref v1]) (oX11_withDigit (d := d - 1) (by omega) ey5) (by omega) mb_X11_withDigit lm_RX11_267 ms_X11_withDigit (Nat.le_of_ble_eq_true rfl) rfl dX11_chalkBits_30 ?_
    obtain ⟨g7, hs⟩ := gO_at hs
    obtain ⟨y6, ey6, hs⟩ := bindS hs
    refine go_V0 (As := [.ref v2, .int y5]) (st := []) g7 rfl rfl (oX1_tune (d := d - 1) (by omega) ey6) (by omega) mb_X1_tune lm_RX11_184 mi_X1_tune (Nat.le_of_ble_eq_true rfl) rfl dX11_chalkBits_33 ?_
    refine go_aload_n (k4 := 0) rfl (Or.inr ⟨_, rfl⟩) dX11_chalkBits_36 ?_
    obtain ⟨v8, ev8, hs⟩ := bindS hs
    refine go_gN fl_RX11_81 ev8 dX11_chalkBits_37 ?_
    refine go_aload_n (k4 := 0) rfl (Or.inr ⟨_, rfl⟩) dX11_chalkBits_40 ?_
    obtain ⟨v9, ev9, hs⟩ := bindS hs
    refine go_gN fl_RX11_55 ev9 dX11_chalkBits_41 ?_
    refine go_at 44 rfl ?_
    refine go_iload_n (k4 := 1) rfl dX11_chalkBits_44 ?_
    obtain ⟨v10, ev10, hs⟩ := bindS hs
    refine go_aN ev10 dX11_chalkBits_45 ?_
    refine go_iload_n (k4 := 2) rfl dX11_chalkBits_46 ?_
    refine go_aload_n (k4 := 0) rfl (Or.inr ⟨_, rfl⟩) dX11_chalkBits_47 ?_
    obtain ⟨v11, ev11, hs⟩ := bindS hs
    refine go_gN fl_RX11_36 ev11 dX11_chalkBits_48 ?_
    obtain ⟨v12, ev12, hs⟩ := bindS hs
    refine go_gI fl_RX11_142 ev12 dX11_chalkBits_51 ?_
    refine go_aload_n (k4 := 0) rfl (Or.inr ⟨_, rfl⟩) dX11_chalkBits_54 ?_
    obtain ⟨v13, ev13, hs⟩ := bindS hs
    refine go_gN fl_RX11_36 ev13 dX11_chalkBits_55 ?_
    refine go_at 58 rfl ?_
    obtain ⟨v14, ev14, hs⟩ := bindS hs
    refine go_gI fl_RX11_152 ev14 dX11_chalkBits_58 ?_
    obtain ⟨g16, hs⟩ := gO_at hs
    obtain ⟨y15, ey15, hs⟩ := bindS hs
    refine go_V1 (As := [.ref v10, .int x2, .int v12, .int v14]) (st := []) g16 rfl rfl (oX10_isSeenSo (d := d - 1) (by omega) ey15) (by omega) mb_X10_isSeenSo lm_RX11_358 mi_X10_isSeenSo (Nat.le_of_ble_eq_true rfl) rfl dX11_chalkBits_61 ?_
    refine go_if_eq (tgt := 74) (by decide) dX11_chalkBits_64 (fun c => ?_) (fun c => ?_)
    · have hs := if_t c hs
      exact go_subL (L' := [some (.ref x0), some (.int x1), some (.int x2), some (.int x3), some (.int x4)]) (by simp [subL, va_rf]) (oX11_chalkBits_74 hd hs hk)
    · have hs := if_f c hs
      refine go_iload_n (k4 := 3) rfl dX11_chalkBits_67 ?_
      refine go_iconst (v := 1) (by decide) dX11_chalkBits_68 ?_
      refine go_iload rfl dX11_chalkBits_69 ?_
      refine go_ishl dX11_chalkBits_71 ?_
      refine go_ior dX11_chalkBits_72 ?_
      refine go_istore_n (k4 := 3) (L' := [some (.ref x0), some (.int x1), some (.int x2), some (.int (x3 ||| ((1 : Int32) <<< (x4 &&& 31)))), some (.int x4)]) (by decide) rfl dX11_chalkBits_73 ?_
      exact go_subL (L' := [some (.ref x0), some (.int x1), some (.int x2), some (.int (x3 ||| ((1 : Int32) <<< (x4 &&& 31)))), some (.int x4)]) (by simp [subL, va_rf]) (oX11_chalkBits_74 hd hs hk)
theorem oX11_chalkBits_5 {d : Nat} (hd : 5 ≤ d) {h : Hp} {x0 : Nat} {x1 : Int32} {x2 : Int32} {x3 : Int32} {x4 : Int32} {rf : Option Value} {hf : Hp} {x : (Int32 × Hp)} (hs : fX11_chalkBits_5 h x0 x1 x2 x3 x4 = some x) (hk : (kX11_chalkBits rf hf) x) : Go d mX11_chalkBits 5 [some (.ref x0), some (.int x1), some (.int x2), some (.int x3), some (.int x4)] [] h rf hf := by
  unfold fX11_chalkBits_5 at hs
  exact lpw_go (P := pX11_chalkBits_5 d x0 x1 x2 rf hf) (fun s x hs hk => oX11_chalkBits_5b hd hs hk) (x3, x4, h) x hs hk
noncomputable def fX11_chalkBits (h : Hp) (x0 : Nat) (x1 : Int32) (x2 : Int32) : Option (Int32 × Hp) :=
  fX11_chalkBits_5 h x0 x1 x2 (0 : Int32) (0 : Int32)
theorem oX11_chalkBits_0 {d : Nat} (hd : 5 ≤ d) {h : Hp} {x0 : Nat} {x1 : Int32} {x2 : Int32} {rf : Option Value} {hf : Hp} {x : (Int32 × Hp)} (hs : fX11_chalkBits h x0 x1 x2 = some x) (hk : (kX11_chalkBits rf hf) x) : Go d mX11_chalkBits 0 [some (.ref x0), some (.int x1), some (.int x2), none, none] [] h rf hf := by
  unfold fX11_chalkBits at hs
  refine go_iconst (v := 0) (by decide) dX11_chalkBits_0 ?_
  refine go_istore_n (k4 := 3) (L' := [some (.ref x0), some (.int x1), some (.int x2), some (.int (0 : Int32)), none]) (by decide) rfl dX11_chalkBits_1 ?_
  refine go_iconst (v := 0) (by decide) dX11_chalkBits_2 ?_
  refine go_istore (L' := [some (.ref x0), some (.int x1), some (.int x2), some (.int (0 : Int32)), some (.int (0 : Int32))]) (by decide) rfl dX11_chalkBits_3 ?_
  exact go_subL (L' := [some (.ref x0), some (.int x1), some (.int x2), some (.int (0 : Int32)), some (.int (0 : Int32))]) (by simp [subL, va_rf]) (oX11_chalkBits_5 hd hs hk)
theorem oX11_chalkBits {d : Nat} (hd : 5 ≤ d) {h : Hp} {x0 : Nat} {x1 : Int32} {x2 : Int32} {y : (Int32 × Hp)} (hs : fX11_chalkBits h x0 x1 x2 = some y) : Call d mX11_chalkBits [.ref x0, .int x1, .int x2] h (some (.int y.1)) (y.2) := call_of (by decide +kernel) (Nat.le_of_ble_eq_true rfl) (show Go d mX11_chalkBits 0 [some (.ref x0), some (.int x1), some (.int x2), none, none] [] h _ _ from go_subL (by simp [subL]) (oX11_chalkBits_0 hd hs ⟨rfl, rfl⟩))
abbrev kX11_chalks (rf : Option Value) (hf : Hp) : (Int32 × Hp) → Prop := fun y => rf = some (.int y.1) ∧ hf = y.2
noncomputable def fX11_chalks_21 (h : Hp) (s0 : Int32) : Option (Int32 × Hp) :=
  some ((s0, h))
theorem oX11_chalks_21 {d : Nat} (hd : 6 ≤ d) {h : Hp} {s0 : Int32} {rf : Option Value} {hf : Hp} {x : (Int32 × Hp)} (hs : fX11_chalks_21 h s0 = some x) (hk : (kX11_chalks rf hf) x) : Go d mX11_chalks 21 [none, none, none, none] [.int s0] h rf hf := by
  unfold fX11_chalks_21 at hs
  obtain rfl := Option.some.inj hs
  obtain ⟨rfl, rfl⟩ := hk
  exact go_iret rfl dX11_chalks_21
noncomputable def fX11_chalks (h : Hp) (x0 : Nat) (x1 : Int32) (x2 : Int32) : Option (Int32 × Hp) :=
  gO h 11 x0 (
  (fX11_seenRefusal h x0 x1 x2).bind fun y1 =>
  if y1 = 0 then (
    gO h 11 x0 (
    (fX11_chalkBits h x0 x1 x2).bind fun y3 =>
    fX11_chalks_21 y3.2 y3.1)) else (
    fX11_chalks_21 h y1))
theorem oX11_chalks_0 {d : Nat} (hd : 6 ≤ d) {h : Hp} {x0 : Nat} {x1 : Int32} {x2 : Int32} {rf : Option Value} {hf : Hp} {x : (Int32 × Hp)} (hs : fX11_chalks h x0 x1 x2 = some x) (hk : (kX11_chalks rf hf) x) : Go d mX11_chalks 0 [some (.ref x0), some (.int x1), some (.int x2), none] [] h rf hf := by
  unfold fX11_chalks at hs
  refine go_aload_n (k4 := 0) rfl (Or.inr ⟨_, rfl⟩) dX11_chalks_0 ?_
  refine go_iload_n (k4 := 1) rfl dX11_chalks_1 ?_
  refine go_iload_n (k4 := 2) rfl dX11_chalks_2 ?_
  obtain ⟨g2, hs⟩ := gO_at hs
  obtain ⟨y1, ey1, hs⟩ := bindS hs
  refine go_V1 (As := [.int x1, .int x2]) (st := []) g2 rfl rfl (oX11_seenRefusal (d := d - 1) (by omega) ey1) (by omega) mb_X11_seenRefusal lm_RX11_325 mi_X11_seenRefusal (Nat.le_of_ble_eq_true rfl) rfl dX11_chalks_3 ?_
  refine go_istore_n (k4 := 3) (L' := [some (.ref x0), some (.int x1), some (.int x2), some (.int y1)]) (by decide) rfl dX11_chalks_6 ?_
  refine go_iload_n (k4 := 3) rfl dX11_chalks_7 ?_
  refine go_if_eq (tgt := 15) (by decide) dX11_chalks_8 (fun c => ?_) (fun c => ?_)
  · have hs := if_t c hs
    refine go_aload_n (k4 := 0) rfl (Or.inr ⟨_, rfl⟩) dX11_chalks_15 ?_
    refine go_iload_n (k4 := 1) rfl dX11_chalks_16 ?_
    refine go_iload_n (k4 := 2) rfl dX11_chalks_17 ?_
    obtain ⟨g4, hs⟩ := gO_at hs
    obtain ⟨y3, ey3, hs⟩ := bindS hs
    refine go_V1 (As := [.int x1, .int x2]) (st := []) g4 rfl rfl (oX11_chalkBits (d := d - 1) (by omega) ey3) (by omega) mb_X11_chalkBits lm_RX11_344 mi_X11_chalkBits (Nat.le_of_ble_eq_true rfl) rfl dX11_chalks_18 ?_
    exact go_subL (L' := [none, none, none, none]) (by simp [subL, va_rf]) (oX11_chalks_21 hd hs hk)
  · have hs := if_f c hs
    refine go_iload_n (k4 := 3) rfl dX11_chalks_11 ?_
    refine go_goto (tgt := 21) (by decide) dX11_chalks_12 ?_
    exact go_subL (L' := [none, none, none, none]) (by simp [subL, va_rf]) (oX11_chalks_21 hd hs hk)
theorem oX11_chalks {d : Nat} (hd : 6 ≤ d) {h : Hp} {x0 : Nat} {x1 : Int32} {x2 : Int32} {y : (Int32 × Hp)} (hs : fX11_chalks h x0 x1 x2 = some y) : Call d mX11_chalks [.ref x0, .int x1, .int x2] h (some (.int y.1)) (y.2) := call_of (by decide +kernel) (Nat.le_of_ble_eq_true rfl) (show Go d mX11_chalks 0 [some (.ref x0), some (.int x1), some (.int x2), none] [] h _ _ from go_subL (by simp [subL]) (oX11_chalks_0 hd hs ⟨rfl, rfl⟩))
abbrev kX11_mostAlike (rf : Option Value) (hf : Hp) : (Int32 × Hp) → Prop := fun y => rf = some (.int y.1) ∧ hf = y.2
abbrev pX11_mostAlike_14 (d : Nat) (x0 : Nat) (x1 : Int32) (x2 : Int32) (x3 : Int32) (rf : Option Value) (hf : Hp) : (Int32 × Int32 × Hp) → Prop := fun s => Go d mX11_mostAlike 14 [some (.ref x0), some (.int x1), some (.int x2), some (.int x3), some (.int s.1), some (.int s.2.1), none, none] [] s.2.2 rf hf
noncomputable def fX11_mostAlike_139 (h : Hp) (x0 : Nat) (x1 : Int32) (x2 : Int32) (x3 : Int32) (x4 : Int32) (x5 : Int32) : Option ((Int32 × Int32 × Hp) ⊕ (Int32 × Hp)) :=
  some (.inl (x4, (x5 + Int32.ofInt 1), h))
theorem oX11_mostAlike_139 {d : Nat} (hd : 3 ≤ d) {h : Hp} {x0 : Nat} {x1 : Int32} {x2 : Int32} {x3 : Int32} {x4 : Int32} {x5 : Int32} {rf : Option Value} {hf : Hp} {x : ((Int32 × Int32 × Hp) ⊕ (Int32 × Hp))} (hs : fX11_mostAlike_139 h x0 x1 x2 x3 x4 x5 = some x) (hk : (Kx (pX11_mostAlike_14 d x0 x1 x2 x3 rf hf) (kX11_mostAlike rf hf)) x) : Go d mX11_mostAlike 139 [some (.ref x0), some (.int x1), some (.int x2), some (.int x3), some (.int x4), some (.int x5), none, none] [] h rf hf := by
  unfold fX11_mostAlike_139 at hs
  refine go_iinc (L' := [some (.ref x0), some (.int x1), some (.int x2), some (.int x3), some (.int x4), some (.int (x5 + Int32.ofInt 1)), none, none]) rfl (by decide) rfl rfl dX11_mostAlike_139 ?_
  refine go_goto (tgt := 14) (by decide) dX11_mostAlike_142 ?_
  obtain rfl := Option.some.inj hs
  exact go_subL (L' := [some (.ref x0), some (.int x1), some (.int x2), some (.int x3), some (.int x4), some (.int (x5 + Int32.ofInt 1)), none, none]) (by simp [subL, va_rf]) hk
noncomputable def fX11_mostAlike_14b (h : Hp) (x0 : Nat) (x1 : Int32) (x2 : Int32) (x3 : Int32) (x4 : Int32) (x5 : Int32) : Option ((Int32 × Int32 × Hp) ⊕ (Int32 × Hp)) :=
  if (9 : Int32) < x5 then (
    some (.inr (x4, h))) else (
    if ((x1 >>> (x5 &&& 31)) &&& (1 : Int32)) = (1 : Int32) then (
      (gN h 11 x0 11).bind fun v3 =>
      (gN h 11 x0 3).bind fun v4 =>
      (gN h 11 x0 4).bind fun v5 =>
      (gI h 8 v5 1).bind fun v6 =>
      (fX11_withDigit h v6 x2 x5).bind fun y7 =>
      gO h 1 v3 (
      (fX1_tune h v3 v4 y7).bind fun y8 =>
      (gN y8 11 x0 11).bind fun v10 =>
      (gN y8 11 x0 4).bind fun v11 =>
      (gI y8 8 v11 0).bind fun v12 =>
      (fX11_digit y8 v12 x2).bind fun y13 =>
      (gN y8 11 x0 3).bind fun v14 =>
      (gN y8 11 x0 4).bind fun v15 =>
      (gI y8 8 v15 0).bind fun v16 =>
      gO y8 0 v14 (
      (fX0_metCount y8 v14 v16).bind fun y17 =>
      gO y8 1 v10 (
      (fX1_growth y8 v10 x2 x3 y13 y17 (0 : Int32)).bind fun y19 =>
      if (y19.1 + (9 : Int32)) < 0 then (
      fX11_mostAlike_139 y19.2 x0 x1 x2 x3 x4 x5) else (
        (gN y19.2 11 x0 17).bind fun v21 =>
        (aL y19.2 v21).bind fun v22 =>
        if v22 ≤ (y19.1 + (9 : Int32)) then (
        fX11_mostAlike_139 y19.2 x0 x1 x2 x3 x4 x5) else (
          (gN y19.2 11 x0 17).bind fun v23 =>
          (aI 0 y19.2 v23 (y19.1 + (9 : Int32))).bind fun v24 =>
          (wI 0 y19.2 v23 (y19.1 + (9 : Int32)) (v24 + (1 : Int32))).bind fun h25 =>
          (gN h25 11 x0 17).bind fun v26 =>
          (aI 0 h25 v26 (y19.1 + (9 : Int32))).bind fun v27 =>
          fX11_mostAlike_139 h25 x0 x1 x2 x3 (imax x4 v27) x5)))))) else (
    fX11_mostAlike_139 h x0 x1 x2 x3 x4 x5))
noncomputable def fX11_mostAlike_14 (h : Hp) (x0 : Nat) (x1 : Int32) (x2 : Int32) (x3 : Int32) (x4 : Int32) (x5 : Int32) : Option (Int32 × Hp) := lpw (σ := (Int32 × Int32 × Hp)) (fun s => fX11_mostAlike_14b s.2.2 x0 x1 x2 x3 s.1 s.2.1) (x4, x5, h)
theorem oX11_mostAlike_14b {d : Nat} (hd : 3 ≤ d) {h : Hp} {x0 : Nat} {x1 : Int32} {x2 : Int32} {x3 : Int32} {x4 : Int32} {x5 : Int32} {rf : Option Value} {hf : Hp} {x : ((Int32 × Int32 × Hp) ⊕ (Int32 × Hp))} (hs : fX11_mostAlike_14b h x0 x1 x2 x3 x4 x5 = some x) (hk : (Kx (pX11_mostAlike_14 d x0 x1 x2 x3 rf hf) (kX11_mostAlike rf hf)) x) : Go d mX11_mostAlike 14 [some (.ref x0), some (.int x1), some (.int x2), some (.int x3), some (.int x4), some (.int x5), none, none] [] h rf hf := by
  unfold fX11_mostAlike_14b at hs
  refine go_iload rfl dX11_mostAlike_14 ?_
  refine go_bipush (v := 9) (by decide) dX11_mostAlike_16 ?_
  refine go_icmp_gt (tgt := 145) (by decide) dX11_mostAlike_18 (fun c => ?_) (fun c => ?_)
  · have hs := if_t c hs
    refine go_iload rfl dX11_mostAlike_145 ?_
    obtain rfl := Option.some.inj hs
    obtain ⟨rfl, rfl⟩ := hk
    exact go_iret rfl dX11_mostAlike_147
  · have hs := if_f c hs
    refine go_iload_n (k4 := 1) rfl dX11_mostAlike_21 ?_
    refine go_iload rfl dX11_mostAlike_22 ?_
    refine go_ishr dX11_mostAlike_24 ?_
    refine go_iconst (v := 1) (by decide) dX11_mostAlike_25 ?_
    refine go_iand dX11_mostAlike_26 ?_
    refine go_iconst (v := 1) (by decide) dX11_mostAlike_27 ?_
    refine go_icmp_ne (tgt := 139) (by decide) dX11_mostAlike_28 (fun c => ?_) (fun c => ?_)
    · have hs := if_f c hs
      exact go_subL (L' := [some (.ref x0), some (.int x1), some (.int x2), some (.int x3), some (.int x4), some (.int x5), none, none]) (by simp [subL, va_rf]) (oX11_mostAlike_139 hd hs hk)
    · have hs := if_t c hs
      refine go_aload_n (k4 := 0) rfl (Or.inr ⟨_, rfl⟩) dX11_mostAlike_31 ?_
      obtain ⟨v3, ev3, hs⟩ := bindS hs
      refine go_gN fl_RX11_72 ev3 dX11_mostAlike_32 ?_
      refine go_aload_n (k4 := 0) rfl (Or.inr ⟨_, rfl⟩) dX11_mostAlike_35 ?_
      obtain ⟨v4, ev4, hs⟩ := bindS hs
      refine go_gN fl_RX11_29 ev4 dX11_mostAlike_36 ?_
      refine go_aload_n (k4 := 0) rfl (Or.inr ⟨_, rfl⟩) dX11_mostAlike_39 ?_
      obtain ⟨v5, ev5, hs⟩ := bindS hs
      refine go_gN fl_RX11_36 ev5 dX11_mostAlike_40 ?_
      obtain ⟨v6, ev6, hs⟩ := bindS hs
      refine go_gI fl_RX11_149 ev6 dX11_mostAlike_43 ?_
      refine go_at 46 rfl ?_
      refine go_iload_n (k4 := 2) rfl dX11_mostAlike_46 ?_
      refine go_iload rfl dX11_mostAlike_47 ?_
      obtain ⟨y7, ey7, hs⟩ := bindS hs
      refine go_S1 (As := [.int v6, .int x2, .int x5]) (st := [.ref v4, .ref v3]) (oX11_withDigit (d := d - 1) (by omega) ey7) (by omega) mb_X11_withDigit lm_RX11_267 ms_X11_withDigit (Nat.le_of_ble_eq_true rfl) rfl dX11_mostAlike_49 ?_
      obtain ⟨g9, hs⟩ := gO_at hs
      obtain ⟨y8, ey8, hs⟩ := bindS hs
      refine go_V0 (As := [.ref v4, .int y7]) (st := []) g9 rfl rfl (oX1_tune (d := d - 1) (by omega) ey8) (by omega) mb_X1_tune lm_RX11_184 mi_X1_tune (Nat.le_of_ble_eq_true rfl) rfl dX11_mostAlike_52 ?_
      refine go_aload_n (k4 := 0) rfl (Or.inr ⟨_, rfl⟩) dX11_mostAlike_55 ?_
      obtain ⟨v10, ev10, hs⟩ := bindS hs
      refine go_gN fl_RX11_72 ev10 dX11_mostAlike_56 ?_
      refine go_iload_n (k4 := 2) rfl dX11_mostAlike_59 ?_
      refine go_iload_n (k4 := 3) rfl dX11_mostAlike_60 ?_
      refine go_at 61 rfl ?_
      refine go_aload_n (k4 := 0) rfl (Or.inr ⟨_, rfl⟩) dX11_mostAlike_61 ?_
      obtain ⟨v11, ev11, hs⟩ := bindS hs
      refine go_gN fl_RX11_36 ev11 dX11_mostAlike_62 ?_
      obtain ⟨v12, ev12, hs⟩ := bindS hs
      refine go_gI fl_RX11_142 ev12 dX11_mostAlike_65 ?_
      refine go_iload_n (k4 := 2) rfl dX11_mostAlike_68 ?_
      obtain ⟨y13, ey13, hs⟩ := bindS hs
      refine go_S1 (As := [.int v12, .int x2]) (st := [.int x3, .int x2, .ref v10]) (oX11_digit (d := d - 1) (by omega) ey13) (by omega) mb_X11_digit lm_RX11_145 ms_X11_digit (Nat.le_of_ble_eq_true rfl) rfl dX11_mostAlike_69 ?_
      refine go_aload_n (k4 := 0) rfl (Or.inr ⟨_, rfl⟩) dX11_mostAlike_72 ?_
      obtain ⟨v14, ev14, hs⟩ := bindS hs
      refine go_gN fl_RX11_29 ev14 dX11_mostAlike_73 ?_
      refine go_aload_n (k4 := 0) rfl (Or.inr ⟨_, rfl⟩) dX11_mostAlike_76 ?_
      refine go_at 77 rfl ?_
      obtain ⟨v15, ev15, hs⟩ := bindS hs
      refine go_gN fl_RX11_36 ev15 dX11_mostAlike_77 ?_
      obtain ⟨v16, ev16, hs⟩ := bindS hs
      refine go_gI fl_RX11_142 ev16 dX11_mostAlike_80 ?_
      obtain ⟨g18, hs⟩ := gO_at hs
      obtain ⟨y17, ey17, hs⟩ := bindS hs
      refine go_V1 (As := [.int v16]) (st := [.int y13, .int x3, .int x2, .ref v10]) g18 rfl rfl (oX0_metCount (d := d - 1) (by omega) ey17) (by omega) mb_X0_metCount lm_RX11_170 mi_X0_metCount (Nat.le_of_ble_eq_true rfl) rfl dX11_mostAlike_83 ?_
      refine go_iconst (v := 0) (by decide) dX11_mostAlike_86 ?_
      obtain ⟨g20, hs⟩ := gO_at hs
      obtain ⟨y19, ey19, hs⟩ := bindS hs
      refine go_V1 (As := [.int x2, .int x3, .int y13, .int y17, .int (0 : Int32)]) (st := []) g20 rfl rfl (oX1_growth (d := d - 1) (by omega) ey19) (by omega) mb_X1_growth lm_RX11_174 mi_X1_growth (Nat.le_of_ble_eq_true rfl) rfl dX11_mostAlike_87 ?_
      refine go_istore (L' := [some (.ref x0), some (.int x1), some (.int x2), some (.int x3), some (.int x4), some (.int x5), some (.int y19.1), none]) (by decide) rfl dX11_mostAlike_90 ?_
      refine go_iload rfl dX11_mostAlike_92 ?_
      refine go_bipush (v := 9) (by decide) dX11_mostAlike_94 ?_
      refine go_at 96 rfl ?_
      refine go_iadd dX11_mostAlike_96 ?_
      refine go_istore (L' := [some (.ref x0), some (.int x1), some (.int x2), some (.int x3), some (.int x4), some (.int x5), some (.int y19.1), some (.int (y19.1 + (9 : Int32)))]) (by decide) rfl dX11_mostAlike_97 ?_
      refine go_iload rfl dX11_mostAlike_99 ?_
      refine go_if_lt (tgt := 139) (by decide) dX11_mostAlike_101 (fun c => ?_) (fun c => ?_)
      · have hs := if_t c hs
        exact go_subL (L' := [some (.ref x0), some (.int x1), some (.int x2), some (.int x3), some (.int x4), some (.int x5), none, none]) (by simp [subL, va_rf]) (oX11_mostAlike_139 hd hs hk)
      · have hs := if_f c hs
        refine go_iload rfl dX11_mostAlike_104 ?_
        refine go_aload_n (k4 := 0) rfl (Or.inr ⟨_, rfl⟩) dX11_mostAlike_106 ?_
        obtain ⟨v21, ev21, hs⟩ := bindS hs
        refine go_gN fl_RX11_108 ev21 dX11_mostAlike_107 ?_
        obtain ⟨v22, ev22, hs⟩ := bindS hs
        refine go_aL ev22 dX11_mostAlike_110 ?_
        refine go_icmp_ge (tgt := 139) (by decide) dX11_mostAlike_111 (fun c => ?_) (fun c => ?_)
        · have hs := if_t c hs
          exact go_subL (L' := [some (.ref x0), some (.int x1), some (.int x2), some (.int x3), some (.int x4), some (.int x5), none, none]) (by simp [subL, va_rf]) (oX11_mostAlike_139 hd hs hk)
        · have hs := if_f c hs
          refine go_aload_n (k4 := 0) rfl (Or.inr ⟨_, rfl⟩) dX11_mostAlike_114 ?_
          obtain ⟨v23, ev23, hs⟩ := bindS hs
          refine go_gN fl_RX11_108 ev23 dX11_mostAlike_115 ?_
          refine go_iload rfl dX11_mostAlike_118 ?_
          refine go_dup2_11 rfl rfl dX11_mostAlike_120 ?_
          obtain ⟨v24, ev24, hs⟩ := bindS hs
          refine go_aIi ev24 dX11_mostAlike_121 ?_
          refine go_iconst (v := 1) (by decide) dX11_mostAlike_122 ?_
          refine go_iadd dX11_mostAlike_123 ?_
          refine go_at 124 rfl ?_
          obtain ⟨h25, eh25, hs⟩ := bindS hs
          refine go_wIi eh25 dX11_mostAlike_124 ?_
          refine go_iload rfl dX11_mostAlike_125 ?_
          refine go_aload_n (k4 := 0) rfl (Or.inr ⟨_, rfl⟩) dX11_mostAlike_127 ?_
          obtain ⟨v26, ev26, hs⟩ := bindS hs
          refine go_gN fl_RX11_108 ev26 dX11_mostAlike_128 ?_
          refine go_iload rfl dX11_mostAlike_131 ?_
          obtain ⟨v27, ev27, hs⟩ := bindS hs
          refine go_aIi ev27 dX11_mostAlike_133 ?_
          refine go_mmax lx_RX11_368.1 lx_RX11_368.2.1 lx_RX11_368.2.2.1 lx_RX11_368.2.2.2 (by omega) (Nat.le_of_ble_eq_true rfl) dX11_mostAlike_134 ?_
          refine go_istore (L' := [some (.ref x0), some (.int x1), some (.int x2), some (.int x3), some (.int (imax x4 v27)), some (.int x5), some (.int y19.1), some (.int (y19.1 + (9 : Int32)))]) (by decide) rfl dX11_mostAlike_137 ?_
          exact go_subL (L' := [some (.ref x0), some (.int x1), some (.int x2), some (.int x3), some (.int (imax x4 v27)), some (.int x5), none, none]) (by simp [subL, va_rf]) (oX11_mostAlike_139 hd hs hk)
theorem oX11_mostAlike_14 {d : Nat} (hd : 3 ≤ d) {h : Hp} {x0 : Nat} {x1 : Int32} {x2 : Int32} {x3 : Int32} {x4 : Int32} {x5 : Int32} {rf : Option Value} {hf : Hp} {x : (Int32 × Hp)} (hs : fX11_mostAlike_14 h x0 x1 x2 x3 x4 x5 = some x) (hk : (kX11_mostAlike rf hf) x) : Go d mX11_mostAlike 14 [some (.ref x0), some (.int x1), some (.int x2), some (.int x3), some (.int x4), some (.int x5), none, none] [] h rf hf := by
  unfold fX11_mostAlike_14 at hs
  exact lpw_go (P := pX11_mostAlike_14 d x0 x1 x2 x3 rf hf) (fun s x hs hk => oX11_mostAlike_14b hd hs hk) (x4, x5, h) x hs hk
noncomputable def fX11_mostAlike (h : Hp) (x0 : Nat) (x1 : Int32) (x2 : Int32) (x3 : Int32) : Option (Int32 × Hp) :=
  (gN h 11 x0 17).bind fun v1 =>
  (fJ7_fill_53178 h v1 (0 : Int32)).bind fun y2 =>
  fX11_mostAlike_14 y2 x0 x1 x2 x3 (0 : Int32) (0 : Int32)
theorem oX11_mostAlike_0 {d : Nat} (hd : 3 ≤ d) {h : Hp} {x0 : Nat} {x1 : Int32} {x2 : Int32} {x3 : Int32} {rf : Option Value} {hf : Hp} {x : (Int32 × Hp)} (hs : fX11_mostAlike h x0 x1 x2 x3 = some x) (hk : (kX11_mostAlike rf hf) x) : Go d mX11_mostAlike 0 [some (.ref x0), some (.int x1), some (.int x2), some (.int x3), none, none, none, none] [] h rf hf := by
  unfold fX11_mostAlike at hs
  refine go_aload_n (k4 := 0) rfl (Or.inr ⟨_, rfl⟩) dX11_mostAlike_0 ?_
  obtain ⟨v1, ev1, hs⟩ := bindS hs
  refine go_gN fl_RX11_108 ev1 dX11_mostAlike_1 ?_
  refine go_iconst (v := 0) (by decide) dX11_mostAlike_4 ?_
  obtain ⟨y2, ey2, hs⟩ := bindS hs
  refine go_S0 (As := [.ref v1, .int (0 : Int32)]) (st := []) (oJ7_fill_53178 (d := d - 1) (by omega) ey2) (by omega) mb_J7_fill_53178 lm_RX11_362 ms_J7_fill_53178 (Nat.le_of_ble_eq_true rfl) rfl dX11_mostAlike_5 ?_
  refine go_iconst (v := 0) (by decide) dX11_mostAlike_8 ?_
  refine go_istore (L' := [some (.ref x0), some (.int x1), some (.int x2), some (.int x3), some (.int (0 : Int32)), none, none, none]) (by decide) rfl dX11_mostAlike_9 ?_
  refine go_iconst (v := 0) (by decide) dX11_mostAlike_11 ?_
  refine go_at 12 rfl ?_
  refine go_istore (L' := [some (.ref x0), some (.int x1), some (.int x2), some (.int x3), some (.int (0 : Int32)), some (.int (0 : Int32)), none, none]) (by decide) rfl dX11_mostAlike_12 ?_
  exact go_subL (L' := [some (.ref x0), some (.int x1), some (.int x2), some (.int x3), some (.int (0 : Int32)), some (.int (0 : Int32)), none, none]) (by simp [subL, va_rf]) (oX11_mostAlike_14 hd hs hk)
theorem oX11_mostAlike {d : Nat} (hd : 3 ≤ d) {h : Hp} {x0 : Nat} {x1 : Int32} {x2 : Int32} {x3 : Int32} {y : (Int32 × Hp)} (hs : fX11_mostAlike h x0 x1 x2 x3 = some y) : Call d mX11_mostAlike [.ref x0, .int x1, .int x2, .int x3] h (some (.int y.1)) (y.2) := call_of (by decide +kernel) (Nat.le_of_ble_eq_true rfl) (show Go d mX11_mostAlike 0 [some (.ref x0), some (.int x1), some (.int x2), some (.int x3), none, none, none, none] [] h _ _ from go_subL (by simp [subL]) (oX11_mostAlike_0 hd hs ⟨rfl, rfl⟩))
abbrev kX11_attempt (rf : Option Value) (hf : Hp) : (Int32 × Hp) → Prop := fun y => rf = some (.int y.1) ∧ hf = y.2
abbrev pX11_attempt_55 (d : Nat) (x0 : Nat) (x2 : Int32) (x4 : Int32) (rf : Option Value) (hf : Hp) : (Int32 × Int32 × Int32 × Hp) → Prop := fun s => Go d mX11_attempt 55 [some (.ref x0), none, some (.int x2), none, some (.int x4), some (.int s.1), some (.int s.2.1), some (.int s.2.2.1), none] [] s.2.2.2 rf hf
noncomputable def fX11_attempt_87 (h : Hp) (x0 : Nat) (x2 : Int32) (x4 : Int32) (x5 : Int32) (x6 : Int32) (x7 : Int32) : Option ((Int32 × Int32 × Int32 × Hp) ⊕ (Int32 × Hp)) :=
  some (.inl (x5, x6, (x7 + Int32.ofInt 1), h))
theorem oX11_attempt_87 {d : Nat} (hd : 6 ≤ d) {h : Hp} {x0 : Nat} {x2 : Int32} {x4 : Int32} {x5 : Int32} {x6 : Int32} {x7 : Int32} {rf : Option Value} {hf : Hp} {x : ((Int32 × Int32 × Int32 × Hp) ⊕ (Int32 × Hp))} (hs : fX11_attempt_87 h x0 x2 x4 x5 x6 x7 = some x) (hk : (Kx (pX11_attempt_55 d x0 x2 x4 rf hf) (kX11_attempt rf hf)) x) : Go d mX11_attempt 87 [some (.ref x0), none, some (.int x2), none, some (.int x4), some (.int x5), some (.int x6), some (.int x7), none] [] h rf hf := by
  unfold fX11_attempt_87 at hs
  refine go_iinc (L' := [some (.ref x0), none, some (.int x2), none, some (.int x4), some (.int x5), some (.int x6), some (.int (x7 + Int32.ofInt 1)), none]) rfl (by decide) rfl rfl dX11_attempt_87 ?_
  refine go_goto (tgt := 55) (by decide) dX11_attempt_90 ?_
  obtain rfl := Option.some.inj hs
  exact go_subL (L' := [some (.ref x0), none, some (.int x2), none, some (.int x4), some (.int x5), some (.int x6), some (.int (x7 + Int32.ofInt 1)), none]) (by simp [subL, va_rf]) hk
noncomputable def fX11_attempt_55b (h : Hp) (x0 : Nat) (x2 : Int32) (x4 : Int32) (x5 : Int32) (x6 : Int32) (x7 : Int32) : Option ((Int32 × Int32 × Int32 × Hp) ⊕ (Int32 × Hp)) :=
  if (4 : Int32) < x7 then (
    some (.inr (x5, h))) else (
    gO h 11 x0 (
    (fX11_mostAlike h x0 x4 x2 x7).bind fun y8 =>
    if x6 ≤ y8.1 then (
    fX11_attempt_87 y8.2 x0 x2 x4 x5 x6 x7) else (
      fX11_attempt_87 y8.2 x0 x2 x4 x7 y8.1 x7)))
noncomputable def fX11_attempt_55 (h : Hp) (x0 : Nat) (x2 : Int32) (x4 : Int32) (x5 : Int32) (x6 : Int32) (x7 : Int32) : Option (Int32 × Hp) := lpw (σ := (Int32 × Int32 × Int32 × Hp)) (fun s => fX11_attempt_55b s.2.2.2 x0 x2 x4 s.1 s.2.1 s.2.2.1) (x5, x6, x7, h)
theorem oX11_attempt_55b {d : Nat} (hd : 6 ≤ d) {h : Hp} {x0 : Nat} {x2 : Int32} {x4 : Int32} {x5 : Int32} {x6 : Int32} {x7 : Int32} {rf : Option Value} {hf : Hp} {x : ((Int32 × Int32 × Int32 × Hp) ⊕ (Int32 × Hp))} (hs : fX11_attempt_55b h x0 x2 x4 x5 x6 x7 = some x) (hk : (Kx (pX11_attempt_55 d x0 x2 x4 rf hf) (kX11_attempt rf hf)) x) : Go d mX11_attempt 55 [some (.ref x0), none, some (.int x2), none, some (.int x4), some (.int x5), some (.int x6), some (.int x7), none] [] h rf hf := by
  unfold fX11_attempt_55b at hs
  refine go_iload rfl dX11_attempt_55 ?_
  refine go_iconst (v := 4) (by decide) dX11_attempt_57 ?_
  refine go_icmp_gt (tgt := 93) (by decide) dX11_attempt_58 (fun c => ?_) (fun c => ?_)
  · have hs := if_t c hs
    refine go_iload rfl dX11_attempt_93 ?_
    obtain rfl := Option.some.inj hs
    obtain ⟨rfl, rfl⟩ := hk
    exact go_iret rfl dX11_attempt_95
  · have hs := if_f c hs
    refine go_aload_n (k4 := 0) rfl (Or.inr ⟨_, rfl⟩) dX11_attempt_61 ?_
    refine go_iload rfl dX11_attempt_62 ?_
    refine go_iload_n (k4 := 2) rfl dX11_attempt_64 ?_
    refine go_iload rfl dX11_attempt_65 ?_
    obtain ⟨g9, hs⟩ := gO_at hs
    obtain ⟨y8, ey8, hs⟩ := bindS hs
    refine go_V1 (As := [.int x4, .int x2, .int x7]) (st := []) g9 rfl rfl (oX11_mostAlike (d := d - 1) (by omega) ey8) (by omega) mb_X11_mostAlike lm_RX11_347 mi_X11_mostAlike (Nat.le_of_ble_eq_true rfl) rfl dX11_attempt_67 ?_
    refine go_istore (L' := [some (.ref x0), none, some (.int x2), none, some (.int x4), some (.int x5), some (.int x6), some (.int x7), some (.int y8.1)]) (by decide) rfl dX11_attempt_70 ?_
    refine go_iload rfl dX11_attempt_72 ?_
    refine go_at 74 rfl ?_
    refine go_iload rfl dX11_attempt_74 ?_
    refine go_icmp_ge (tgt := 87) (by decide) dX11_attempt_76 (fun c => ?_) (fun c => ?_)
    · have hs := if_t c hs
      exact go_subL (L' := [some (.ref x0), none, some (.int x2), none, some (.int x4), some (.int x5), some (.int x6), some (.int x7), none]) (by simp [subL, va_rf]) (oX11_attempt_87 hd hs hk)
    · have hs := if_f c hs
      refine go_iload rfl dX11_attempt_79 ?_
      refine go_istore (L' := [some (.ref x0), none, some (.int x2), none, some (.int x4), some (.int x5), some (.int y8.1), some (.int x7), some (.int y8.1)]) (by decide) rfl dX11_attempt_81 ?_
      refine go_iload rfl dX11_attempt_83 ?_
      refine go_istore (L' := [some (.ref x0), none, some (.int x2), none, some (.int x4), some (.int x7), some (.int y8.1), some (.int x7), some (.int y8.1)]) (by decide) rfl dX11_attempt_85 ?_
      exact go_subL (L' := [some (.ref x0), none, some (.int x2), none, some (.int x4), some (.int x7), some (.int y8.1), some (.int x7), none]) (by simp [subL, va_rf]) (oX11_attempt_87 hd hs hk)
theorem oX11_attempt_55 {d : Nat} (hd : 6 ≤ d) {h : Hp} {x0 : Nat} {x2 : Int32} {x4 : Int32} {x5 : Int32} {x6 : Int32} {x7 : Int32} {rf : Option Value} {hf : Hp} {x : (Int32 × Hp)} (hs : fX11_attempt_55 h x0 x2 x4 x5 x6 x7 = some x) (hk : (kX11_attempt rf hf) x) : Go d mX11_attempt 55 [some (.ref x0), none, some (.int x2), none, some (.int x4), some (.int x5), some (.int x6), some (.int x7), none] [] h rf hf := by
  unfold fX11_attempt_55 at hs
  exact lpw_go (P := pX11_attempt_55 d x0 x2 x4 rf hf) (fun s x hs hk => oX11_attempt_55b hd hs hk) (x5, x6, x7, h) x hs hk
noncomputable def fX11_attempt (h : Hp) (x0 : Nat) (x1 : Int32) (x2 : Int32) : Option (Int32 × Hp) :=
  gO h 11 x0 (
  (fX11_seenRefusal h x0 x1 x2).bind fun y1 =>
  if y1 = 0 then (
    (gN h 11 x0 4).bind fun v3 =>
    (gI h 8 v3 0).bind fun v4 =>
    (fX11_digit h v4 x2).bind fun y5 =>
    if y5 = 0 then (
      some (((-5 : Int32), h))) else (
      gO h 11 x0 (
      (fX11_chalkBits h x0 x1 x2).bind fun y6 =>
      if y6.1 = 0 then (
        some (((-1 : Int32), y6.2))) else (
        fX11_attempt_55 y6.2 x0 x2 y6.1 (0 : Int32) (11 : Int32) (0 : Int32))))) else (
    some ((y1, h))))
theorem oX11_attempt_0 {d : Nat} (hd : 6 ≤ d) {h : Hp} {x0 : Nat} {x1 : Int32} {x2 : Int32} {rf : Option Value} {hf : Hp} {x : (Int32 × Hp)} (hs : fX11_attempt h x0 x1 x2 = some x) (hk : (kX11_attempt rf hf) x) : Go d mX11_attempt 0 [some (.ref x0), some (.int x1), some (.int x2), none, none, none, none, none, none] [] h rf hf := by
  unfold fX11_attempt at hs
  refine go_aload_n (k4 := 0) rfl (Or.inr ⟨_, rfl⟩) dX11_attempt_0 ?_
  refine go_iload_n (k4 := 1) rfl dX11_attempt_1 ?_
  refine go_iload_n (k4 := 2) rfl dX11_attempt_2 ?_
  obtain ⟨g2, hs⟩ := gO_at hs
  obtain ⟨y1, ey1, hs⟩ := bindS hs
  refine go_V1 (As := [.int x1, .int x2]) (st := []) g2 rfl rfl (oX11_seenRefusal (d := d - 1) (by omega) ey1) (by omega) mb_X11_seenRefusal lm_RX11_325 mi_X11_seenRefusal (Nat.le_of_ble_eq_true rfl) rfl dX11_attempt_3 ?_
  refine go_istore_n (k4 := 3) (L' := [some (.ref x0), some (.int x1), some (.int x2), some (.int y1), none, none, none, none, none]) (by decide) rfl dX11_attempt_6 ?_
  refine go_iload_n (k4 := 3) rfl dX11_attempt_7 ?_
  refine go_if_eq (tgt := 13) (by decide) dX11_attempt_8 (fun c => ?_) (fun c => ?_)
  · have hs := if_t c hs
    refine go_aload_n (k4 := 0) rfl (Or.inr ⟨_, rfl⟩) dX11_attempt_13 ?_
    obtain ⟨v3, ev3, hs⟩ := bindS hs
    refine go_gN fl_RX11_36 ev3 dX11_attempt_14 ?_
    obtain ⟨v4, ev4, hs⟩ := bindS hs
    refine go_gI fl_RX11_142 ev4 dX11_attempt_17 ?_
    refine go_iload_n (k4 := 2) rfl dX11_attempt_20 ?_
    obtain ⟨y5, ey5, hs⟩ := bindS hs
    refine go_S1 (As := [.int v4, .int x2]) (st := []) (oX11_digit (d := d - 1) (by omega) ey5) (by omega) mb_X11_digit lm_RX11_145 ms_X11_digit (Nat.le_of_ble_eq_true rfl) rfl dX11_attempt_21 ?_
    refine go_if_ne (tgt := 30) (by decide) dX11_attempt_24 (fun c => ?_) (fun c => ?_)
    · have hs := if_f c hs
      refine go_aload_n (k4 := 0) rfl (Or.inr ⟨_, rfl⟩) dX11_attempt_30 ?_
      refine go_iload_n (k4 := 1) rfl dX11_attempt_31 ?_
      refine go_iload_n (k4 := 2) rfl dX11_attempt_32 ?_
      obtain ⟨g7, hs⟩ := gO_at hs
      obtain ⟨y6, ey6, hs⟩ := bindS hs
      refine go_V1 (As := [.int x1, .int x2]) (st := []) g7 rfl rfl (oX11_chalkBits (d := d - 1) (by omega) ey6) (by omega) mb_X11_chalkBits lm_RX11_344 mi_X11_chalkBits (Nat.le_of_ble_eq_true rfl) rfl dX11_attempt_33 ?_
      refine go_istore (L' := [some (.ref x0), some (.int x1), some (.int x2), some (.int y1), some (.int y6.1), none, none, none, none]) (by decide) rfl dX11_attempt_36 ?_
      refine go_iload rfl dX11_attempt_38 ?_
      refine go_if_ne (tgt := 45) (by decide) dX11_attempt_40 (fun c => ?_) (fun c => ?_)
      · have hs := if_f c hs
        refine go_iconst (v := 0) (by decide) dX11_attempt_45 ?_
        refine go_istore (L' := [some (.ref x0), some (.int x1), some (.int x2), some (.int y1), some (.int y6.1), some (.int (0 : Int32)), none, none, none]) (by decide) rfl dX11_attempt_46 ?_
        refine go_bipush (v := 11) (by decide) dX11_attempt_48 ?_
        refine go_istore (L' := [some (.ref x0), some (.int x1), some (.int x2), some (.int y1), some (.int y6.1), some (.int (0 : Int32)), some (.int (11 : Int32)), none, none]) (by decide) rfl dX11_attempt_50 ?_
        refine go_iconst (v := 0) (by decide) dX11_attempt_52 ?_
        refine go_istore (L' := [some (.ref x0), some (.int x1), some (.int x2), some (.int y1), some (.int y6.1), some (.int (0 : Int32)), some (.int (11 : Int32)), some (.int (0 : Int32)), none]) (by decide) rfl dX11_attempt_53 ?_
        exact go_subL (L' := [some (.ref x0), none, some (.int x2), none, some (.int y6.1), some (.int (0 : Int32)), some (.int (11 : Int32)), some (.int (0 : Int32)), none]) (by simp [subL, va_rf]) (oX11_attempt_55 hd hs hk)
      · have hs := if_t c hs
        refine go_iconst (v := -1) (by decide) dX11_attempt_43 ?_
        obtain rfl := Option.some.inj hs
        obtain ⟨rfl, rfl⟩ := hk
        exact go_iret rfl dX11_attempt_44
    · have hs := if_t c hs
      refine go_bipush (v := -5) (by decide) dX11_attempt_27 ?_
      obtain rfl := Option.some.inj hs
      obtain ⟨rfl, rfl⟩ := hk
      exact go_iret rfl dX11_attempt_29
  · have hs := if_f c hs
    refine go_iload_n (k4 := 3) rfl dX11_attempt_11 ?_
    obtain rfl := Option.some.inj hs
    obtain ⟨rfl, rfl⟩ := hk
    exact go_iret rfl dX11_attempt_12
theorem oX11_attempt {d : Nat} (hd : 6 ≤ d) {h : Hp} {x0 : Nat} {x1 : Int32} {x2 : Int32} {y : (Int32 × Hp)} (hs : fX11_attempt h x0 x1 x2 = some y) : Call d mX11_attempt [.ref x0, .int x1, .int x2] h (some (.int y.1)) (y.2) := call_of (by decide +kernel) (Nat.le_of_ble_eq_true rfl) (show Go d mX11_attempt 0 [some (.ref x0), some (.int x1), some (.int x2), none, none, none, none, none, none] [] h _ _ from go_subL (by simp [subL]) (oX11_attempt_0 hd hs ⟨rfl, rfl⟩))
abbrev kX7_mayBeForced (rf : Option Value) (hf : Hp) : (Int32 × Hp) → Prop := fun y => rf = some (.int y.1) ∧ hf = y.2
abbrev pX7_mayBeForced_3 (d : Nat) (x0 : Nat) (x1 : Int32) (x2 : Int32) (x3 : Int32) (rf : Option Value) (hf : Hp) : (Int32 × Hp) → Prop := fun s => Go d mX7_mayBeForced 3 [some (.ref x0), some (.int x1), some (.int x2), some (.int x3), some (.int s.1), none, none, none] [] s.2 rf hf
abbrev pX7_mayBeForced_18 (d : Nat) (x0 : Nat) (x1 : Int32) (x2 : Int32) (x3 : Int32) (x4 : Int32) (rf : Option Value) (hf : Hp) : (Int32 × Hp) → Prop := fun s => Go d mX7_mayBeForced 18 [some (.ref x0), some (.int x1), some (.int x2), some (.int x3), some (.int x4), some (.int s.1), none, none] [] s.2 rf hf
noncomputable def fX7_mayBeForced_102 (h : Hp) (x0 : Nat) (x1 : Int32) (x2 : Int32) (x3 : Int32) (x4 : Int32) : Option ((Int32 × Hp) ⊕ (Int32 × Hp)) :=
  some (.inl ((x4 + Int32.ofInt 1), h))
theorem oX7_mayBeForced_102 {d : Nat} (hd : 3 ≤ d) {h : Hp} {x0 : Nat} {x1 : Int32} {x2 : Int32} {x3 : Int32} {x4 : Int32} {rf : Option Value} {hf : Hp} {x : ((Int32 × Hp) ⊕ (Int32 × Hp))} (hs : fX7_mayBeForced_102 h x0 x1 x2 x3 x4 = some x) (hk : (Kx (pX7_mayBeForced_3 d x0 x1 x2 x3 rf hf) (kX7_mayBeForced rf hf)) x) : Go d mX7_mayBeForced 102 [some (.ref x0), some (.int x1), some (.int x2), some (.int x3), some (.int x4), none, none, none] [] h rf hf := by
  unfold fX7_mayBeForced_102 at hs
  refine go_iinc (L' := [some (.ref x0), some (.int x1), some (.int x2), some (.int x3), some (.int (x4 + Int32.ofInt 1)), none, none, none]) rfl (by decide) rfl rfl dX7_mayBeForced_102 ?_
  refine go_goto (tgt := 3) (by decide) dX7_mayBeForced_105 ?_
  obtain rfl := Option.some.inj hs
  exact go_subL (L' := [some (.ref x0), some (.int x1), some (.int x2), some (.int x3), some (.int (x4 + Int32.ofInt 1)), none, none, none]) (by simp [subL, va_rf]) hk
noncomputable def fX7_mayBeForced_96 (h : Hp) (x0 : Nat) (x1 : Int32) (x2 : Int32) (x3 : Int32) (x4 : Int32) (x5 : Int32) : Option ((Int32 × Hp) ⊕ ((Int32 × Hp) ⊕ (Int32 × Hp))) :=
  some (.inl ((x5 + Int32.ofInt 1), h))
theorem oX7_mayBeForced_96 {d : Nat} (hd : 3 ≤ d) {h : Hp} {x0 : Nat} {x1 : Int32} {x2 : Int32} {x3 : Int32} {x4 : Int32} {x5 : Int32} {rf : Option Value} {hf : Hp} {x : ((Int32 × Hp) ⊕ ((Int32 × Hp) ⊕ (Int32 × Hp)))} (hs : fX7_mayBeForced_96 h x0 x1 x2 x3 x4 x5 = some x) (hk : (Kx (pX7_mayBeForced_18 d x0 x1 x2 x3 x4 rf hf) (Kx (pX7_mayBeForced_3 d x0 x1 x2 x3 rf hf) (kX7_mayBeForced rf hf))) x) : Go d mX7_mayBeForced 96 [some (.ref x0), some (.int x1), some (.int x2), some (.int x3), some (.int x4), some (.int x5), none, none] [] h rf hf := by
  unfold fX7_mayBeForced_96 at hs
  refine go_iinc (L' := [some (.ref x0), some (.int x1), some (.int x2), some (.int x3), some (.int x4), some (.int (x5 + Int32.ofInt 1)), none, none]) rfl (by decide) rfl rfl dX7_mayBeForced_96 ?_
  refine go_goto (tgt := 18) (by decide) dX7_mayBeForced_99 ?_
  obtain rfl := Option.some.inj hs
  exact go_subL (L' := [some (.ref x0), some (.int x1), some (.int x2), some (.int x3), some (.int x4), some (.int (x5 + Int32.ofInt 1)), none, none]) (by simp [subL, va_rf]) hk
noncomputable def fX7_mayBeForced_18b (h : Hp) (x0 : Nat) (x1 : Int32) (x2 : Int32) (x3 : Int32) (x4 : Int32) (x5 : Int32) : Option ((Int32 × Hp) ⊕ ((Int32 × Hp) ⊕ (Int32 × Hp))) :=
  (gN h 7 x0 1).bind fun v3 =>
  (gI h 0 v3 1).bind fun v4 =>
  if v4 < x5 then (
  (fX7_mayBeForced_102 h x0 x1 x2 x3 x4).map (fun q => .inr q)) else (
    (gN h 7 x0 0).bind fun v5 =>
    gO h 1 v5 (
    (fX1_growth h v5 x1 x5 x2 x4 (0 : Int32)).bind fun y6 =>
    (fX1_kept y6.2 (x2 - y6.1)).bind fun y8 =>
    (gN y6.2 7 x0 0).bind fun v9 =>
    gO y6.2 1 v9 (
    (fX1_growth y6.2 v9 x1 x5 x2 x4 (1 : Int32)).bind fun y10 =>
    (fX1_kept y10.2 (x2 - y10.1)).bind fun y12 =>
    (gN y10.2 7 x0 11).bind fun v13 =>
    (aI 0 y10.2 v13 y8).bind fun v14 =>
    if x3 < v14 then (
    fX7_mayBeForced_96 y10.2 x0 x1 x2 x3 x4 x5) else (
      (gN y10.2 7 x0 11).bind fun v15 =>
      (aI 0 y10.2 v15 y12).bind fun v16 =>
      if x3 < v16 then (
      fX7_mayBeForced_96 y10.2 x0 x1 x2 x3 x4 x5) else (
        some (.inr (.inr ((1 : Int32), y10.2))))))))
noncomputable def fX7_mayBeForced_18 (h : Hp) (x0 : Nat) (x1 : Int32) (x2 : Int32) (x3 : Int32) (x4 : Int32) (x5 : Int32) : Option ((Int32 × Hp) ⊕ (Int32 × Hp)) := lpw (σ := (Int32 × Hp)) (fun s => fX7_mayBeForced_18b s.2 x0 x1 x2 x3 x4 s.1) (x5, h)
theorem oX7_mayBeForced_18b {d : Nat} (hd : 3 ≤ d) {h : Hp} {x0 : Nat} {x1 : Int32} {x2 : Int32} {x3 : Int32} {x4 : Int32} {x5 : Int32} {rf : Option Value} {hf : Hp} {x : ((Int32 × Hp) ⊕ ((Int32 × Hp) ⊕ (Int32 × Hp)))} (hs : fX7_mayBeForced_18b h x0 x1 x2 x3 x4 x5 = some x) (hk : (Kx (pX7_mayBeForced_18 d x0 x1 x2 x3 x4 rf hf) (Kx (pX7_mayBeForced_3 d x0 x1 x2 x3 rf hf) (kX7_mayBeForced rf hf))) x) : Go d mX7_mayBeForced 18 [some (.ref x0), some (.int x1), some (.int x2), some (.int x3), some (.int x4), some (.int x5), none, none] [] h rf hf := by
  unfold fX7_mayBeForced_18b at hs
  refine go_iload rfl dX7_mayBeForced_18 ?_
  refine go_aload_n (k4 := 0) rfl (Or.inr ⟨_, rfl⟩) dX7_mayBeForced_20 ?_
  obtain ⟨v3, ev3, hs⟩ := bindS hs
  refine go_gN fl_RX7_64 ev3 dX7_mayBeForced_21 ?_
  obtain ⟨v4, ev4, hs⟩ := bindS hs
  refine go_gI fl_RX7_164 ev4 dX7_mayBeForced_24 ?_
  refine go_icmp_gt (tgt := 102) (by decide) dX7_mayBeForced_27 (fun c => ?_) (fun c => ?_)
  · have hs := if_t c hs
    obtain ⟨q, hs2, hq⟩ := mapS hs
    clear hs
    subst hq
    exact go_subL (L' := [some (.ref x0), some (.int x1), some (.int x2), some (.int x3), some (.int x4), none, none, none]) (by simp [subL, va_rf]) (oX7_mayBeForced_102 hd hs2 hk)
  · have hs := if_f c hs
    refine go_iload_n (k4 := 2) rfl dX7_mayBeForced_30 ?_
    refine go_aload_n (k4 := 0) rfl (Or.inr ⟨_, rfl⟩) dX7_mayBeForced_31 ?_
    obtain ⟨v5, ev5, hs⟩ := bindS hs
    refine go_gN fl_RX7_60 ev5 dX7_mayBeForced_32 ?_
    refine go_iload_n (k4 := 1) rfl dX7_mayBeForced_35 ?_
    refine go_iload rfl dX7_mayBeForced_36 ?_
    refine go_iload_n (k4 := 2) rfl dX7_mayBeForced_38 ?_
    refine go_iload rfl dX7_mayBeForced_39 ?_
    refine go_at 41 rfl ?_
    refine go_iconst (v := 0) (by decide) dX7_mayBeForced_41 ?_
    obtain ⟨g7, hs⟩ := gO_at hs
    obtain ⟨y6, ey6, hs⟩ := bindS hs
    refine go_V1 (As := [.int x1, .int x5, .int x2, .int x4, .int (0 : Int32)]) (st := [.int x2]) g7 rfl rfl (oX1_growth (d := d - 1) (by omega) ey6) (by omega) mb_X1_growth lm_RX7_167 mi_X1_growth (Nat.le_of_ble_eq_true rfl) rfl dX7_mayBeForced_42 ?_
    refine go_isub dX7_mayBeForced_45 ?_
    obtain ⟨y8, ey8, hs⟩ := bindS hs
    refine go_S1 (As := [.int (x2 - y6.1)]) (st := []) (oX1_kept (d := d - 1) (by omega) ey8) (by omega) mb_X1_kept lm_RX7_171 ms_X1_kept (Nat.le_of_ble_eq_true rfl) rfl dX7_mayBeForced_46 ?_
    refine go_istore (L' := [some (.ref x0), some (.int x1), some (.int x2), some (.int x3), some (.int x4), some (.int x5), some (.int y8), none]) (by decide) rfl dX7_mayBeForced_49 ?_
    refine go_iload_n (k4 := 2) rfl dX7_mayBeForced_51 ?_
    refine go_aload_n (k4 := 0) rfl (Or.inr ⟨_, rfl⟩) dX7_mayBeForced_52 ?_
    obtain ⟨v9, ev9, hs⟩ := bindS hs
    refine go_gN fl_RX7_60 ev9 dX7_mayBeForced_53 ?_
    refine go_at 56 rfl ?_
    refine go_iload_n (k4 := 1) rfl dX7_mayBeForced_56 ?_
    refine go_iload rfl dX7_mayBeForced_57 ?_
    refine go_iload_n (k4 := 2) rfl dX7_mayBeForced_59 ?_
    refine go_iload rfl dX7_mayBeForced_60 ?_
    refine go_iconst (v := 1) (by decide) dX7_mayBeForced_62 ?_
    obtain ⟨g11, hs⟩ := gO_at hs
    obtain ⟨y10, ey10, hs⟩ := bindS hs
    refine go_V1 (As := [.int x1, .int x5, .int x2, .int x4, .int (1 : Int32)]) (st := [.int x2]) g11 rfl rfl (oX1_growth (d := d - 1) (by omega) ey10) (by omega) mb_X1_growth lm_RX7_167 mi_X1_growth (Nat.le_of_ble_eq_true rfl) rfl dX7_mayBeForced_63 ?_
    refine go_isub dX7_mayBeForced_66 ?_
    obtain ⟨y12, ey12, hs⟩ := bindS hs
    refine go_S1 (As := [.int (x2 - y10.1)]) (st := []) (oX1_kept (d := d - 1) (by omega) ey12) (by omega) mb_X1_kept lm_RX7_171 ms_X1_kept (Nat.le_of_ble_eq_true rfl) rfl dX7_mayBeForced_67 ?_
    refine go_at 70 rfl ?_
    refine go_istore (L' := [some (.ref x0), some (.int x1), some (.int x2), some (.int x3), some (.int x4), some (.int x5), some (.int y8), some (.int y12)]) (by decide) rfl dX7_mayBeForced_70 ?_
    refine go_aload_n (k4 := 0) rfl (Or.inr ⟨_, rfl⟩) dX7_mayBeForced_72 ?_
    obtain ⟨v13, ev13, hs⟩ := bindS hs
    refine go_gN fl_RX7_41 ev13 dX7_mayBeForced_73 ?_
    refine go_iload rfl dX7_mayBeForced_76 ?_
    obtain ⟨v14, ev14, hs⟩ := bindS hs
    refine go_aIi ev14 dX7_mayBeForced_78 ?_
    refine go_iload_n (k4 := 3) rfl dX7_mayBeForced_79 ?_
    refine go_icmp_gt (tgt := 96) (by decide) dX7_mayBeForced_80 (fun c => ?_) (fun c => ?_)
    · have hs := if_t c hs
      exact go_subL (L' := [some (.ref x0), some (.int x1), some (.int x2), some (.int x3), some (.int x4), some (.int x5), none, none]) (by simp [subL, va_rf]) (oX7_mayBeForced_96 hd hs hk)
    · have hs := if_f c hs
      refine go_aload_n (k4 := 0) rfl (Or.inr ⟨_, rfl⟩) dX7_mayBeForced_83 ?_
      obtain ⟨v15, ev15, hs⟩ := bindS hs
      refine go_gN fl_RX7_41 ev15 dX7_mayBeForced_84 ?_
      refine go_iload rfl dX7_mayBeForced_87 ?_
      obtain ⟨v16, ev16, hs⟩ := bindS hs
      refine go_aIi ev16 dX7_mayBeForced_89 ?_
      refine go_iload_n (k4 := 3) rfl dX7_mayBeForced_90 ?_
      refine go_icmp_gt (tgt := 96) (by decide) dX7_mayBeForced_91 (fun c => ?_) (fun c => ?_)
      · have hs := if_t c hs
        exact go_subL (L' := [some (.ref x0), some (.int x1), some (.int x2), some (.int x3), some (.int x4), some (.int x5), none, none]) (by simp [subL, va_rf]) (oX7_mayBeForced_96 hd hs hk)
      · have hs := if_f c hs
        refine go_iconst (v := 1) (by decide) dX7_mayBeForced_94 ?_
        obtain rfl := Option.some.inj hs
        obtain ⟨rfl, rfl⟩ := hk
        exact go_zret (ty := .boolean) rfl rfl dX7_mayBeForced_95
theorem oX7_mayBeForced_18 {d : Nat} (hd : 3 ≤ d) {h : Hp} {x0 : Nat} {x1 : Int32} {x2 : Int32} {x3 : Int32} {x4 : Int32} {x5 : Int32} {rf : Option Value} {hf : Hp} {x : ((Int32 × Hp) ⊕ (Int32 × Hp))} (hs : fX7_mayBeForced_18 h x0 x1 x2 x3 x4 x5 = some x) (hk : (Kx (pX7_mayBeForced_3 d x0 x1 x2 x3 rf hf) (kX7_mayBeForced rf hf)) x) : Go d mX7_mayBeForced 18 [some (.ref x0), some (.int x1), some (.int x2), some (.int x3), some (.int x4), some (.int x5), none, none] [] h rf hf := by
  unfold fX7_mayBeForced_18 at hs
  exact lpw_go (P := pX7_mayBeForced_18 d x0 x1 x2 x3 x4 rf hf) (fun s x hs hk => oX7_mayBeForced_18b hd hs hk) (x5, h) x hs hk
noncomputable def fX7_mayBeForced_3b (h : Hp) (x0 : Nat) (x1 : Int32) (x2 : Int32) (x3 : Int32) (x4 : Int32) : Option ((Int32 × Hp) ⊕ (Int32 × Hp)) :=
  (gN h 7 x0 1).bind fun v1 =>
  (gI h 0 v1 0).bind fun v2 =>
  if v2 ≤ x4 then (
    some (.inr ((0 : Int32), h))) else (
    fX7_mayBeForced_18 h x0 x1 x2 x3 x4 (0 : Int32))
noncomputable def fX7_mayBeForced_3 (h : Hp) (x0 : Nat) (x1 : Int32) (x2 : Int32) (x3 : Int32) (x4 : Int32) : Option (Int32 × Hp) := lpw (σ := (Int32 × Hp)) (fun s => fX7_mayBeForced_3b s.2 x0 x1 x2 x3 s.1) (x4, h)
theorem oX7_mayBeForced_3b {d : Nat} (hd : 3 ≤ d) {h : Hp} {x0 : Nat} {x1 : Int32} {x2 : Int32} {x3 : Int32} {x4 : Int32} {rf : Option Value} {hf : Hp} {x : ((Int32 × Hp) ⊕ (Int32 × Hp))} (hs : fX7_mayBeForced_3b h x0 x1 x2 x3 x4 = some x) (hk : (Kx (pX7_mayBeForced_3 d x0 x1 x2 x3 rf hf) (kX7_mayBeForced rf hf)) x) : Go d mX7_mayBeForced 3 [some (.ref x0), some (.int x1), some (.int x2), some (.int x3), some (.int x4), none, none, none] [] h rf hf := by
  unfold fX7_mayBeForced_3b at hs
  refine go_iload rfl dX7_mayBeForced_3 ?_
  refine go_aload_n (k4 := 0) rfl (Or.inr ⟨_, rfl⟩) dX7_mayBeForced_5 ?_
  obtain ⟨v1, ev1, hs⟩ := bindS hs
  refine go_gN fl_RX7_64 ev1 dX7_mayBeForced_6 ?_
  obtain ⟨v2, ev2, hs⟩ := bindS hs
  refine go_gI fl_RX7_161 ev2 dX7_mayBeForced_9 ?_
  refine go_icmp_ge (tgt := 108) (by decide) dX7_mayBeForced_12 (fun c => ?_) (fun c => ?_)
  · have hs := if_t c hs
    refine go_iconst (v := 0) (by decide) dX7_mayBeForced_108 ?_
    obtain rfl := Option.some.inj hs
    obtain ⟨rfl, rfl⟩ := hk
    exact go_zret (ty := .boolean) rfl rfl dX7_mayBeForced_109
  · have hs := if_f c hs
    refine go_iconst (v := 0) (by decide) dX7_mayBeForced_15 ?_
    refine go_istore (L' := [some (.ref x0), some (.int x1), some (.int x2), some (.int x3), some (.int x4), some (.int (0 : Int32)), none, none]) (by decide) rfl dX7_mayBeForced_16 ?_
    exact go_subL (L' := [some (.ref x0), some (.int x1), some (.int x2), some (.int x3), some (.int x4), some (.int (0 : Int32)), none, none]) (by simp [subL, va_rf]) (oX7_mayBeForced_18 hd hs hk)
theorem oX7_mayBeForced_3 {d : Nat} (hd : 3 ≤ d) {h : Hp} {x0 : Nat} {x1 : Int32} {x2 : Int32} {x3 : Int32} {x4 : Int32} {rf : Option Value} {hf : Hp} {x : (Int32 × Hp)} (hs : fX7_mayBeForced_3 h x0 x1 x2 x3 x4 = some x) (hk : (kX7_mayBeForced rf hf) x) : Go d mX7_mayBeForced 3 [some (.ref x0), some (.int x1), some (.int x2), some (.int x3), some (.int x4), none, none, none] [] h rf hf := by
  unfold fX7_mayBeForced_3 at hs
  exact lpw_go (P := pX7_mayBeForced_3 d x0 x1 x2 x3 rf hf) (fun s x hs hk => oX7_mayBeForced_3b hd hs hk) (x4, h) x hs hk
noncomputable def fX7_mayBeForced (h : Hp) (x0 : Nat) (x1 : Int32) (x2 : Int32) (x3 : Int32) : Option (Int32 × Hp) :=
  fX7_mayBeForced_3 h x0 x1 x2 x3 (0 : Int32)
theorem oX7_mayBeForced_0 {d : Nat} (hd : 3 ≤ d) {h : Hp} {x0 : Nat} {x1 : Int32} {x2 : Int32} {x3 : Int32} {rf : Option Value} {hf : Hp} {x : (Int32 × Hp)} (hs : fX7_mayBeForced h x0 x1 x2 x3 = some x) (hk : (kX7_mayBeForced rf hf) x) : Go d mX7_mayBeForced 0 [some (.ref x0), some (.int x1), some (.int x2), some (.int x3), none, none, none, none] [] h rf hf := by
  unfold fX7_mayBeForced at hs
  refine go_iconst (v := 0) (by decide) dX7_mayBeForced_0 ?_
  refine go_istore (L' := [some (.ref x0), some (.int x1), some (.int x2), some (.int x3), some (.int (0 : Int32)), none, none, none]) (by decide) rfl dX7_mayBeForced_1 ?_
  exact go_subL (L' := [some (.ref x0), some (.int x1), some (.int x2), some (.int x3), some (.int (0 : Int32)), none, none, none]) (by simp [subL, va_rf]) (oX7_mayBeForced_3 hd hs hk)
theorem oX7_mayBeForced {d : Nat} (hd : 3 ≤ d) {h : Hp} {x0 : Nat} {x1 : Int32} {x2 : Int32} {x3 : Int32} {y : (Int32 × Hp)} (hs : fX7_mayBeForced h x0 x1 x2 x3 = some y) : Call d mX7_mayBeForced [.ref x0, .int x1, .int x2, .int x3] h (some (.int y.1)) (y.2) := call_of (by decide +kernel) (Nat.le_of_ble_eq_true rfl) (show Go d mX7_mayBeForced 0 [some (.ref x0), some (.int x1), some (.int x2), some (.int x3), none, none, none, none] [] h _ _ from go_subL (by simp [subL]) (oX7_mayBeForced_0 hd hs ⟨rfl, rfl⟩))
abbrev kX7_tellLeastYears (rf : Option Value) (hf : Hp) : Hp → Prop := fun y => rf = none ∧ hf = y
abbrev pX7_tellLeastYears_19 (d : Nat) (x0 : Nat) (x1 : Int32) (rf : Option Value) (hf : Hp) : (Int32 × Hp) → Prop := fun s => Go d mX7_tellLeastYears 19 [some (.ref x0), some (.int x1), some (.int s.1), none] [] s.2 rf hf
abbrev pX7_tellLeastYears_27 (d : Nat) (x0 : Nat) (x1 : Int32) (x2 : Int32) (rf : Option Value) (hf : Hp) : (Int32 × Hp) → Prop := fun s => Go d mX7_tellLeastYears 27 [some (.ref x0), some (.int x1), some (.int x2), some (.int s.1)] [] s.2 rf hf
noncomputable def fX7_tellLeastYears_70 (h : Hp) (x0 : Nat) (x1 : Int32) (x2 : Int32) : Option ((Int32 × Hp) ⊕ Hp) :=
  some (.inl ((x2 + Int32.ofInt 1), h))
theorem oX7_tellLeastYears_70 {d : Nat} (hd : 4 ≤ d) {h : Hp} {x0 : Nat} {x1 : Int32} {x2 : Int32} {rf : Option Value} {hf : Hp} {x : ((Int32 × Hp) ⊕ Hp)} (hs : fX7_tellLeastYears_70 h x0 x1 x2 = some x) (hk : (Kx (pX7_tellLeastYears_19 d x0 x1 rf hf) (kX7_tellLeastYears rf hf)) x) : Go d mX7_tellLeastYears 70 [some (.ref x0), some (.int x1), some (.int x2), none] [] h rf hf := by
  unfold fX7_tellLeastYears_70 at hs
  refine go_iinc (L' := [some (.ref x0), some (.int x1), some (.int (x2 + Int32.ofInt 1)), none]) rfl (by decide) rfl rfl dX7_tellLeastYears_70 ?_
  refine go_goto (tgt := 19) (by decide) dX7_tellLeastYears_73 ?_
  obtain rfl := Option.some.inj hs
  exact go_subL (L' := [some (.ref x0), some (.int x1), some (.int (x2 + Int32.ofInt 1)), none]) (by simp [subL, va_rf]) hk
noncomputable def fX7_tellLeastYears_64 (h : Hp) (x0 : Nat) (x1 : Int32) (x2 : Int32) (x3 : Int32) : Option ((Int32 × Hp) ⊕ ((Int32 × Hp) ⊕ Hp)) :=
  some (.inl ((x3 + Int32.ofInt 1), h))
theorem oX7_tellLeastYears_64 {d : Nat} (hd : 4 ≤ d) {h : Hp} {x0 : Nat} {x1 : Int32} {x2 : Int32} {x3 : Int32} {rf : Option Value} {hf : Hp} {x : ((Int32 × Hp) ⊕ ((Int32 × Hp) ⊕ Hp))} (hs : fX7_tellLeastYears_64 h x0 x1 x2 x3 = some x) (hk : (Kx (pX7_tellLeastYears_27 d x0 x1 x2 rf hf) (Kx (pX7_tellLeastYears_19 d x0 x1 rf hf) (kX7_tellLeastYears rf hf))) x) : Go d mX7_tellLeastYears 64 [some (.ref x0), some (.int x1), some (.int x2), some (.int x3)] [] h rf hf := by
  unfold fX7_tellLeastYears_64 at hs
  refine go_iinc (L' := [some (.ref x0), some (.int x1), some (.int x2), some (.int (x3 + Int32.ofInt 1))]) rfl (by decide) rfl rfl dX7_tellLeastYears_64 ?_
  refine go_goto (tgt := 27) (by decide) dX7_tellLeastYears_67 ?_
  obtain rfl := Option.some.inj hs
  exact go_subL (L' := [some (.ref x0), some (.int x1), some (.int x2), some (.int (x3 + Int32.ofInt 1))]) (by simp [subL, va_rf]) hk
noncomputable def fX7_tellLeastYears_27b (h : Hp) (x0 : Nat) (x1 : Int32) (x2 : Int32) (x3 : Int32) : Option ((Int32 × Hp) ⊕ ((Int32 × Hp) ⊕ Hp)) :=
  if (9 : Int32) < x3 then (
  (fX7_tellLeastYears_70 h x0 x1 x2).map (fun q => .inr q)) else (
    (gN h 7 x0 11).bind fun v5 =>
    (aI 0 h v5 x3).bind fun v6 =>
    if v6 = (20000 : Int32) then (
      gO h 7 x0 (
      (fX7_mayBeForced h x0 x1 x3 (x2 - (1 : Int32))).bind fun y7 =>
      if y7.1 = 0 then (
      fX7_tellLeastYears_64 y7.2 x0 x1 x2 x3) else (
        (gN y7.2 7 x0 11).bind fun v9 =>
        (wI 0 y7.2 v9 x3 x2).bind fun h10 =>
        fX7_tellLeastYears_64 h10 x0 x1 x2 x3))) else (
    fX7_tellLeastYears_64 h x0 x1 x2 x3))
noncomputable def fX7_tellLeastYears_27 (h : Hp) (x0 : Nat) (x1 : Int32) (x2 : Int32) (x3 : Int32) : Option ((Int32 × Hp) ⊕ Hp) := lpw (σ := (Int32 × Hp)) (fun s => fX7_tellLeastYears_27b s.2 x0 x1 x2 s.1) (x3, h)
theorem oX7_tellLeastYears_27b {d : Nat} (hd : 4 ≤ d) {h : Hp} {x0 : Nat} {x1 : Int32} {x2 : Int32} {x3 : Int32} {rf : Option Value} {hf : Hp} {x : ((Int32 × Hp) ⊕ ((Int32 × Hp) ⊕ Hp))} (hs : fX7_tellLeastYears_27b h x0 x1 x2 x3 = some x) (hk : (Kx (pX7_tellLeastYears_27 d x0 x1 x2 rf hf) (Kx (pX7_tellLeastYears_19 d x0 x1 rf hf) (kX7_tellLeastYears rf hf))) x) : Go d mX7_tellLeastYears 27 [some (.ref x0), some (.int x1), some (.int x2), some (.int x3)] [] h rf hf := by
  unfold fX7_tellLeastYears_27b at hs
  refine go_iload_n (k4 := 3) rfl dX7_tellLeastYears_27 ?_
  refine go_bipush (v := 9) (by decide) dX7_tellLeastYears_28 ?_
  refine go_icmp_gt (tgt := 70) (by decide) dX7_tellLeastYears_30 (fun c => ?_) (fun c => ?_)
  · have hs := if_t c hs
    obtain ⟨q, hs2, hq⟩ := mapS hs
    clear hs
    subst hq
    exact go_subL (L' := [some (.ref x0), some (.int x1), some (.int x2), none]) (by simp [subL, va_rf]) (oX7_tellLeastYears_70 hd hs2 hk)
  · have hs := if_f c hs
    refine go_aload_n (k4 := 0) rfl (Or.inr ⟨_, rfl⟩) dX7_tellLeastYears_33 ?_
    obtain ⟨v5, ev5, hs⟩ := bindS hs
    refine go_gN fl_RX7_41 ev5 dX7_tellLeastYears_34 ?_
    refine go_iload_n (k4 := 3) rfl dX7_tellLeastYears_37 ?_
    obtain ⟨v6, ev6, hs⟩ := bindS hs
    refine go_aIi ev6 dX7_tellLeastYears_38 ?_
    refine go_sipush (v := 20000) (by decide) dX7_tellLeastYears_39 ?_
    refine go_icmp_ne (tgt := 64) (by decide) dX7_tellLeastYears_42 (fun c => ?_) (fun c => ?_)
    · have hs := if_f c hs
      exact go_subL (L' := [some (.ref x0), some (.int x1), some (.int x2), some (.int x3)]) (by simp [subL, va_rf]) (oX7_tellLeastYears_64 hd hs hk)
    · have hs := if_t c hs
      refine go_aload_n (k4 := 0) rfl (Or.inr ⟨_, rfl⟩) dX7_tellLeastYears_45 ?_
      refine go_iload_n (k4 := 1) rfl dX7_tellLeastYears_46 ?_
      refine go_iload_n (k4 := 3) rfl dX7_tellLeastYears_47 ?_
      refine go_iload_n (k4 := 2) rfl dX7_tellLeastYears_48 ?_
      refine go_iconst (v := 1) (by decide) dX7_tellLeastYears_49 ?_
      refine go_isub dX7_tellLeastYears_50 ?_
      obtain ⟨g8, hs⟩ := gO_at hs
      obtain ⟨y7, ey7, hs⟩ := bindS hs
      refine go_V1 (As := [.int x1, .int x3, .int (x2 - (1 : Int32))]) (st := []) g8 rfl rfl (oX7_mayBeForced (d := d - 1) (by omega) ey7) (by omega) mb_X7_mayBeForced lm_RX7_157 mi_X7_mayBeForced (Nat.le_of_ble_eq_true rfl) rfl dX7_tellLeastYears_51 ?_
      refine go_at 54 rfl ?_
      refine go_if_eq (tgt := 64) (by decide) dX7_tellLeastYears_54 (fun c => ?_) (fun c => ?_)
      · have hs := if_t c hs
        exact go_subL (L' := [some (.ref x0), some (.int x1), some (.int x2), some (.int x3)]) (by simp [subL, va_rf]) (oX7_tellLeastYears_64 hd hs hk)
      · have hs := if_f c hs
        refine go_aload_n (k4 := 0) rfl (Or.inr ⟨_, rfl⟩) dX7_tellLeastYears_57 ?_
        obtain ⟨v9, ev9, hs⟩ := bindS hs
        refine go_gN fl_RX7_41 ev9 dX7_tellLeastYears_58 ?_
        refine go_iload_n (k4 := 3) rfl dX7_tellLeastYears_61 ?_
        refine go_iload_n (k4 := 2) rfl dX7_tellLeastYears_62 ?_
        obtain ⟨h10, eh10, hs⟩ := bindS hs
        refine go_wIi eh10 dX7_tellLeastYears_63 ?_
        exact go_subL (L' := [some (.ref x0), some (.int x1), some (.int x2), some (.int x3)]) (by simp [subL, va_rf]) (oX7_tellLeastYears_64 hd hs hk)
theorem oX7_tellLeastYears_27 {d : Nat} (hd : 4 ≤ d) {h : Hp} {x0 : Nat} {x1 : Int32} {x2 : Int32} {x3 : Int32} {rf : Option Value} {hf : Hp} {x : ((Int32 × Hp) ⊕ Hp)} (hs : fX7_tellLeastYears_27 h x0 x1 x2 x3 = some x) (hk : (Kx (pX7_tellLeastYears_19 d x0 x1 rf hf) (kX7_tellLeastYears rf hf)) x) : Go d mX7_tellLeastYears 27 [some (.ref x0), some (.int x1), some (.int x2), some (.int x3)] [] h rf hf := by
  unfold fX7_tellLeastYears_27 at hs
  exact lpw_go (P := pX7_tellLeastYears_27 d x0 x1 x2 rf hf) (fun s x hs hk => oX7_tellLeastYears_27b hd hs hk) (x3, h) x hs hk
noncomputable def fX7_tellLeastYears_19b (h : Hp) (x0 : Nat) (x1 : Int32) (x2 : Int32) : Option ((Int32 × Hp) ⊕ Hp) :=
  if (9 : Int32) < x2 then (
    some (.inr h)) else (
    fX7_tellLeastYears_27 h x0 x1 x2 (1 : Int32))
noncomputable def fX7_tellLeastYears_19 (h : Hp) (x0 : Nat) (x1 : Int32) (x2 : Int32) : Option Hp := lpw (σ := (Int32 × Hp)) (fun s => fX7_tellLeastYears_19b s.2 x0 x1 s.1) (x2, h)
theorem oX7_tellLeastYears_19b {d : Nat} (hd : 4 ≤ d) {h : Hp} {x0 : Nat} {x1 : Int32} {x2 : Int32} {rf : Option Value} {hf : Hp} {x : ((Int32 × Hp) ⊕ Hp)} (hs : fX7_tellLeastYears_19b h x0 x1 x2 = some x) (hk : (Kx (pX7_tellLeastYears_19 d x0 x1 rf hf) (kX7_tellLeastYears rf hf)) x) : Go d mX7_tellLeastYears 19 [some (.ref x0), some (.int x1), some (.int x2), none] [] h rf hf := by
  unfold fX7_tellLeastYears_19b at hs
  refine go_iload_n (k4 := 2) rfl dX7_tellLeastYears_19 ?_
  refine go_bipush (v := 9) (by decide) dX7_tellLeastYears_20 ?_
  refine go_icmp_gt (tgt := 76) (by decide) dX7_tellLeastYears_22 (fun c => ?_) (fun c => ?_)
  · have hs := if_t c hs
    obtain rfl := Option.some.inj hs
    obtain ⟨rfl, rfl⟩ := hk
    exact go_vret rfl dX7_tellLeastYears_76
  · have hs := if_f c hs
    refine go_iconst (v := 1) (by decide) dX7_tellLeastYears_25 ?_
    refine go_istore_n (k4 := 3) (L' := [some (.ref x0), some (.int x1), some (.int x2), some (.int (1 : Int32))]) (by decide) rfl dX7_tellLeastYears_26 ?_
    exact go_subL (L' := [some (.ref x0), some (.int x1), some (.int x2), some (.int (1 : Int32))]) (by simp [subL, va_rf]) (oX7_tellLeastYears_27 hd hs hk)
theorem oX7_tellLeastYears_19 {d : Nat} (hd : 4 ≤ d) {h : Hp} {x0 : Nat} {x1 : Int32} {x2 : Int32} {rf : Option Value} {hf : Hp} {x : Hp} (hs : fX7_tellLeastYears_19 h x0 x1 x2 = some x) (hk : (kX7_tellLeastYears rf hf) x) : Go d mX7_tellLeastYears 19 [some (.ref x0), some (.int x1), some (.int x2), none] [] h rf hf := by
  unfold fX7_tellLeastYears_19 at hs
  exact lpw_go (P := pX7_tellLeastYears_19 d x0 x1 rf hf) (fun s x hs hk => oX7_tellLeastYears_19b hd hs hk) (x2, h) x hs hk
noncomputable def fX7_tellLeastYears (h : Hp) (x0 : Nat) (x1 : Int32) : Option Hp :=
  (gN h 7 x0 11).bind fun v1 =>
  (fJ7_fill_53178 h v1 (20000 : Int32)).bind fun y2 =>
  (gN y2 7 x0 11).bind fun v3 =>
  (wI 0 y2 v3 (0 : Int32) (0 : Int32)).bind fun h4 =>
  fX7_tellLeastYears_19 h4 x0 x1 (1 : Int32)
theorem oX7_tellLeastYears_0 {d : Nat} (hd : 4 ≤ d) {h : Hp} {x0 : Nat} {x1 : Int32} {rf : Option Value} {hf : Hp} {x : Hp} (hs : fX7_tellLeastYears h x0 x1 = some x) (hk : (kX7_tellLeastYears rf hf) x) : Go d mX7_tellLeastYears 0 [some (.ref x0), some (.int x1), none, none] [] h rf hf := by
  unfold fX7_tellLeastYears at hs
  refine go_aload_n (k4 := 0) rfl (Or.inr ⟨_, rfl⟩) dX7_tellLeastYears_0 ?_
  obtain ⟨v1, ev1, hs⟩ := bindS hs
  refine go_gN fl_RX7_41 ev1 dX7_tellLeastYears_1 ?_
  refine go_sipush (v := 20000) (by decide) dX7_tellLeastYears_4 ?_
  obtain ⟨y2, ey2, hs⟩ := bindS hs
  refine go_S0 (As := [.ref v1, .int (20000 : Int32)]) (st := []) (oJ7_fill_53178 (d := d - 1) (by omega) ey2) (by omega) mb_J7_fill_53178 lm_RX7_151 ms_J7_fill_53178 (Nat.le_of_ble_eq_true rfl) rfl dX7_tellLeastYears_7 ?_
  refine go_aload_n (k4 := 0) rfl (Or.inr ⟨_, rfl⟩) dX7_tellLeastYears_10 ?_
  obtain ⟨v3, ev3, hs⟩ := bindS hs
  refine go_gN fl_RX7_41 ev3 dX7_tellLeastYears_11 ?_
  refine go_iconst (v := 0) (by decide) dX7_tellLeastYears_14 ?_
  refine go_at 15 rfl ?_
  refine go_iconst (v := 0) (by decide) dX7_tellLeastYears_15 ?_
  obtain ⟨h4, eh4, hs⟩ := bindS hs
  refine go_wIi eh4 dX7_tellLeastYears_16 ?_
  refine go_iconst (v := 1) (by decide) dX7_tellLeastYears_17 ?_
  refine go_istore_n (k4 := 2) (L' := [some (.ref x0), some (.int x1), some (.int (1 : Int32)), none]) (by decide) rfl dX7_tellLeastYears_18 ?_
  exact go_subL (L' := [some (.ref x0), some (.int x1), some (.int (1 : Int32)), none]) (by simp [subL, va_rf]) (oX7_tellLeastYears_19 hd hs hk)
theorem oX7_tellLeastYears {d : Nat} (hd : 4 ≤ d) {h : Hp} {x0 : Nat} {x1 : Int32} {y : Hp} (hs : fX7_tellLeastYears h x0 x1 = some y) : Call d mX7_tellLeastYears [.ref x0, .int x1] h (none) y := call_of (by decide +kernel) (Nat.le_of_ble_eq_true rfl) (show Go d mX7_tellLeastYears 0 [some (.ref x0), some (.int x1), none, none] [] h _ _ from go_subL (by simp [subL]) (oX7_tellLeastYears_0 hd hs ⟨rfl, rfl⟩))
abbrev kX7_reachOpen (rf : Option Value) (hf : Hp) : Hp → Prop := fun y => rf = none ∧ hf = y
noncomputable def fX7_reachOpen_43 (h : Hp)  : Option Hp :=
  some (h)
theorem oX7_reachOpen_43 {d : Nat} (hd : 2 ≤ d) {h : Hp} {rf : Option Value} {hf : Hp} {x : Hp} (hs : fX7_reachOpen_43 h  = some x) (hk : (kX7_reachOpen rf hf) x) : Go d mX7_reachOpen 43 [none, none, none, none] [] h rf hf := by
  unfold fX7_reachOpen_43 at hs
  obtain rfl := Option.some.inj hs
  obtain ⟨rfl, rfl⟩ := hk
  exact go_vret rfl dX7_reachOpen_43
noncomputable def fX7_reachOpen (h : Hp) (x0 : Nat) (x1 : Int32) (x2 : Int32) : Option Hp :=
  (fX11_digit h x1 x2).bind fun y1 =>
  if (10000 : Int32) ≤ x1 then (
  fX7_reachOpen_43 h ) else (
    if y1 ≤ 0 then (
    fX7_reachOpen_43 h ) else (
      (gN h 7 x0 11).bind fun v2 =>
      (aI 0 h v2 y1).bind fun v3 =>
      if v3 = (20000 : Int32) then (
      fX7_reachOpen_43 h ) else (
        gO h 7 x0 (
        (fX7_isNew h x0 x1).bind fun y4 =>
        if y4 = 0 then (
        fX7_reachOpen_43 h ) else (
          gO h 7 x0 (
          (fX7_reach h x0 x1 (0 : Int32)).bind fun y6 =>
          fX7_reachOpen_43 y6 ))))))
theorem oX7_reachOpen_0 {d : Nat} (hd : 2 ≤ d) {h : Hp} {x0 : Nat} {x1 : Int32} {x2 : Int32} {rf : Option Value} {hf : Hp} {x : Hp} (hs : fX7_reachOpen h x0 x1 x2 = some x) (hk : (kX7_reachOpen rf hf) x) : Go d mX7_reachOpen 0 [some (.ref x0), some (.int x1), some (.int x2), none] [] h rf hf := by
  unfold fX7_reachOpen at hs
  refine go_iload_n (k4 := 1) rfl dX7_reachOpen_0 ?_
  refine go_iload_n (k4 := 2) rfl dX7_reachOpen_1 ?_
  obtain ⟨y1, ey1, hs⟩ := bindS hs
  refine go_SN1 (As := [.int x1, .int x2]) (st := []) (oX11_digit (d := d - 1) (by omega) ey1) (by omega) mb_X11_digit lm_RX7_141 ms_X11_digit (Nat.le_of_ble_eq_true rfl) rfl dX7_reachOpen_2 ?_
  refine go_istore_n (k4 := 3) (L' := [some (.ref x0), some (.int x1), some (.int x2), some (.int y1)]) (by decide) rfl dX7_reachOpen_5 ?_
  refine go_iload_n (k4 := 1) rfl dX7_reachOpen_6 ?_
  refine go_sipush (v := 10000) (by decide) dX7_reachOpen_7 ?_
  refine go_icmp_ge (tgt := 43) (by decide) dX7_reachOpen_10 (fun c => ?_) (fun c => ?_)
  · have hs := if_t c hs
    exact go_subL (L' := [none, none, none, none]) (by simp [subL, va_rf]) (oX7_reachOpen_43 hd hs hk)
  · have hs := if_f c hs
    refine go_iload_n (k4 := 3) rfl dX7_reachOpen_13 ?_
    refine go_if_le (tgt := 43) (by decide) dX7_reachOpen_14 (fun c => ?_) (fun c => ?_)
    · have hs := if_t c hs
      exact go_subL (L' := [none, none, none, none]) (by simp [subL, va_rf]) (oX7_reachOpen_43 hd hs hk)
    · have hs := if_f c hs
      refine go_aload_n (k4 := 0) rfl (Or.inr ⟨_, rfl⟩) dX7_reachOpen_17 ?_
      obtain ⟨v2, ev2, hs⟩ := bindS hs
      refine go_gN fl_RX7_41 ev2 dX7_reachOpen_18 ?_
      refine go_iload_n (k4 := 3) rfl dX7_reachOpen_21 ?_
      obtain ⟨v3, ev3, hs⟩ := bindS hs
      refine go_aIi ev3 dX7_reachOpen_22 ?_
      refine go_sipush (v := 20000) (by decide) dX7_reachOpen_23 ?_
      refine go_icmp_eq (tgt := 43) (by decide) dX7_reachOpen_26 (fun c => ?_) (fun c => ?_)
      · have hs := if_t c hs
        exact go_subL (L' := [none, none, none, none]) (by simp [subL, va_rf]) (oX7_reachOpen_43 hd hs hk)
      · have hs := if_f c hs
        refine go_aload_n (k4 := 0) rfl (Or.inr ⟨_, rfl⟩) dX7_reachOpen_29 ?_
        refine go_iload_n (k4 := 1) rfl dX7_reachOpen_30 ?_
        obtain ⟨g5, hs⟩ := gO_at hs
        obtain ⟨y4, ey4, hs⟩ := bindS hs
        refine go_V1 (As := [.int x1]) (st := []) g5 rfl rfl (oX7_isNew (d := d - 1) (by omega) ey4) (by omega) mb_X7_isNew lm_RX7_106 mi_X7_isNew (Nat.le_of_ble_eq_true rfl) rfl dX7_reachOpen_31 ?_
        refine go_if_eq (tgt := 43) (by decide) dX7_reachOpen_34 (fun c => ?_) (fun c => ?_)
        · have hs := if_t c hs
          exact go_subL (L' := [none, none, none, none]) (by simp [subL, va_rf]) (oX7_reachOpen_43 hd hs hk)
        · have hs := if_f c hs
          refine go_aload_n (k4 := 0) rfl (Or.inr ⟨_, rfl⟩) dX7_reachOpen_37 ?_
          refine go_iload_n (k4 := 1) rfl dX7_reachOpen_38 ?_
          refine go_iconst (v := 0) (by decide) dX7_reachOpen_39 ?_
          obtain ⟨g7, hs⟩ := gO_at hs
          obtain ⟨y6, ey6, hs⟩ := bindS hs
          refine go_V0 (As := [.int x1, .int (0 : Int32)]) (st := []) g7 rfl rfl (oX7_reach (d := d - 1) (by omega) ey6) (by omega) mb_X7_reach lm_RX7_91 mi_X7_reach (Nat.le_of_ble_eq_true rfl) rfl dX7_reachOpen_40 ?_
          exact go_subL (L' := [none, none, none, none]) (by simp [subL, va_rf]) (oX7_reachOpen_43 hd hs hk)
theorem oX7_reachOpen {d : Nat} (hd : 2 ≤ d) {h : Hp} {x0 : Nat} {x1 : Int32} {x2 : Int32} {y : Hp} (hs : fX7_reachOpen h x0 x1 x2 = some y) : Call d mX7_reachOpen [.ref x0, .int x1, .int x2] h (none) y := call_of (by decide +kernel) (Nat.le_of_ble_eq_true rfl) (show Go d mX7_reachOpen 0 [some (.ref x0), some (.int x1), some (.int x2), none] [] h _ _ from go_subL (by simp [subL]) (oX7_reachOpen_0 hd hs ⟨rfl, rfl⟩))
abbrev kX7_reachByTurns (rf : Option Value) (hf : Hp) : Hp → Prop := fun y => rf = none ∧ hf = y
abbrev pX7_reachByTurns_12 (d : Nat) (x0 : Nat) (x2 : Int32) (rf : Option Value) (hf : Hp) : (Int32 × Hp) → Prop := fun s => Go d mX7_reachByTurns 12 [some (.ref x0), none, some (.int x2), some (.int s.1), none] [] s.2 rf hf
noncomputable def fX7_reachByTurns_115 (h : Hp)  : Option Hp :=
  some (h)
theorem oX7_reachByTurns_115 {d : Nat} (hd : 4 ≤ d) {h : Hp} {rf : Option Value} {hf : Hp} {x : Hp} (hs : fX7_reachByTurns_115 h  = some x) (hk : (kX7_reachByTurns rf hf) x) : Go d mX7_reachByTurns 115 [none, none, none, none, none] [] h rf hf := by
  unfold fX7_reachByTurns_115 at hs
  obtain rfl := Option.some.inj hs
  obtain ⟨rfl, rfl⟩ := hk
  exact go_vret rfl dX7_reachByTurns_115
abbrev pX7_reachByTurns_66 (d : Nat) (x0 : Nat) (x2 : Int32) (x3 : Int32) (rf : Option Value) (hf : Hp) : (Int32 × Hp) → Prop := fun s => Go d mX7_reachByTurns 66 [some (.ref x0), none, some (.int x2), some (.int x3), some (.int s.1)] [] s.2 rf hf
noncomputable def fX7_reachByTurns_109 (h : Hp) (x0 : Nat) (x2 : Int32) (x3 : Int32) : Option ((Int32 × Hp) ⊕ Hp) :=
  some (.inl ((x3 + Int32.ofInt 1), h))
theorem oX7_reachByTurns_109 {d : Nat} (hd : 4 ≤ d) {h : Hp} {x0 : Nat} {x2 : Int32} {x3 : Int32} {rf : Option Value} {hf : Hp} {x : ((Int32 × Hp) ⊕ Hp)} (hs : fX7_reachByTurns_109 h x0 x2 x3 = some x) (hk : (Kx (pX7_reachByTurns_12 d x0 x2 rf hf) (kX7_reachByTurns rf hf)) x) : Go d mX7_reachByTurns 109 [some (.ref x0), none, some (.int x2), some (.int x3), none] [] h rf hf := by
  unfold fX7_reachByTurns_109 at hs
  refine go_iinc (L' := [some (.ref x0), none, some (.int x2), some (.int (x3 + Int32.ofInt 1)), none]) rfl (by decide) rfl rfl dX7_reachByTurns_109 ?_
  refine go_goto (tgt := 12) (by decide) dX7_reachByTurns_112 ?_
  obtain rfl := Option.some.inj hs
  exact go_subL (L' := [some (.ref x0), none, some (.int x2), some (.int (x3 + Int32.ofInt 1)), none]) (by simp [subL, va_rf]) hk
noncomputable def fX7_reachByTurns_66b (h : Hp) (x0 : Nat) (x2 : Int32) (x3 : Int32) (x4 : Int32) : Option ((Int32 × Hp) ⊕ ((Int32 × Hp) ⊕ Hp)) :=
  (gN h 7 x0 1).bind fun v18 =>
  (gN h 0 v18 9).bind fun v19 =>
  (aL h v19).bind fun v20 =>
  if v20 ≤ x4 then (
  (fX7_reachByTurns_109 h x0 x2 x3).map (fun q => .inr q)) else (
    (gN h 7 x0 9).bind fun v21 =>
    (aI 0 h v21 x4).bind fun v22 =>
    gO h 7 x0 (
    (fX7_reachOpen h x0 v22 x2).bind fun y23 =>
    (gN y23 7 x0 10).bind fun v25 =>
    (aI 0 y23 v25 x4).bind fun v26 =>
    gO y23 7 x0 (
    (fX7_reachOpen y23 x0 v26 x2).bind fun y27 =>
    some (.inl ((x4 + Int32.ofInt 1), y27)))))
noncomputable def fX7_reachByTurns_66 (h : Hp) (x0 : Nat) (x2 : Int32) (x3 : Int32) (x4 : Int32) : Option ((Int32 × Hp) ⊕ Hp) := lpw (σ := (Int32 × Hp)) (fun s => fX7_reachByTurns_66b s.2 x0 x2 x3 s.1) (x4, h)
theorem oX7_reachByTurns_66b {d : Nat} (hd : 4 ≤ d) {h : Hp} {x0 : Nat} {x2 : Int32} {x3 : Int32} {x4 : Int32} {rf : Option Value} {hf : Hp} {x : ((Int32 × Hp) ⊕ ((Int32 × Hp) ⊕ Hp))} (hs : fX7_reachByTurns_66b h x0 x2 x3 x4 = some x) (hk : (Kx (pX7_reachByTurns_66 d x0 x2 x3 rf hf) (Kx (pX7_reachByTurns_12 d x0 x2 rf hf) (kX7_reachByTurns rf hf))) x) : Go d mX7_reachByTurns 66 [some (.ref x0), none, some (.int x2), some (.int x3), some (.int x4)] [] h rf hf := by
  unfold fX7_reachByTurns_66b at hs
  refine go_iload rfl dX7_reachByTurns_66 ?_
  refine go_aload_n (k4 := 0) rfl (Or.inr ⟨_, rfl⟩) dX7_reachByTurns_68 ?_
  obtain ⟨v18, ev18, hs⟩ := bindS hs
  refine go_gN fl_RX7_64 ev18 dX7_reachByTurns_69 ?_
  obtain ⟨v19, ev19, hs⟩ := bindS hs
  refine go_gN fl_RX7_103 ev19 dX7_reachByTurns_72 ?_
  obtain ⟨v20, ev20, hs⟩ := bindS hs
  refine go_aL ev20 dX7_reachByTurns_75 ?_
  refine go_icmp_ge (tgt := 109) (by decide) dX7_reachByTurns_76 (fun c => ?_) (fun c => ?_)
  · have hs := if_t c hs
    obtain ⟨q, hs2, hq⟩ := mapS hs
    clear hs
    subst hq
    exact go_subL (L' := [some (.ref x0), none, some (.int x2), some (.int x3), none]) (by simp [subL, va_rf]) (oX7_reachByTurns_109 hd hs2 hk)
  · have hs := if_f c hs
    refine go_aload_n (k4 := 0) rfl (Or.inr ⟨_, rfl⟩) dX7_reachByTurns_79 ?_
    refine go_aload_n (k4 := 0) rfl (Or.inr ⟨_, rfl⟩) dX7_reachByTurns_80 ?_
    obtain ⟨v21, ev21, hs⟩ := bindS hs
    refine go_gN fl_RX7_35 ev21 dX7_reachByTurns_81 ?_
    refine go_iload rfl dX7_reachByTurns_84 ?_
    obtain ⟨v22, ev22, hs⟩ := bindS hs
    refine go_aIi ev22 dX7_reachByTurns_86 ?_
    refine go_iload_n (k4 := 2) rfl dX7_reachByTurns_87 ?_
    obtain ⟨g24, hs⟩ := gO_at hs
    obtain ⟨y23, ey23, hs⟩ := bindS hs
    refine go_V0 (As := [.int v22, .int x2]) (st := []) g24 rfl rfl (oX7_reachOpen (d := d - 1) (by omega) ey23) (by omega) mb_X7_reachOpen lm_RX7_174 mi_X7_reachOpen (Nat.le_of_ble_eq_true rfl) rfl dX7_reachByTurns_88 ?_
    refine go_at 91 rfl ?_
    refine go_aload_n (k4 := 0) rfl (Or.inr ⟨_, rfl⟩) dX7_reachByTurns_91 ?_
    refine go_aload_n (k4 := 0) rfl (Or.inr ⟨_, rfl⟩) dX7_reachByTurns_92 ?_
    obtain ⟨v25, ev25, hs⟩ := bindS hs
    refine go_gN fl_RX7_38 ev25 dX7_reachByTurns_93 ?_
    refine go_iload rfl dX7_reachByTurns_96 ?_
    obtain ⟨v26, ev26, hs⟩ := bindS hs
    refine go_aIi ev26 dX7_reachByTurns_98 ?_
    refine go_iload_n (k4 := 2) rfl dX7_reachByTurns_99 ?_
    obtain ⟨g28, hs⟩ := gO_at hs
    obtain ⟨y27, ey27, hs⟩ := bindS hs
    refine go_V0 (As := [.int v26, .int x2]) (st := []) g28 rfl rfl (oX7_reachOpen (d := d - 1) (by omega) ey27) (by omega) mb_X7_reachOpen lm_RX7_174 mi_X7_reachOpen (Nat.le_of_ble_eq_true rfl) rfl dX7_reachByTurns_100 ?_
    refine go_iinc (L' := [some (.ref x0), none, some (.int x2), some (.int x3), some (.int (x4 + Int32.ofInt 1))]) rfl (by decide) rfl rfl dX7_reachByTurns_103 ?_
    refine go_at 106 rfl ?_
    refine go_goto (tgt := 66) (by decide) dX7_reachByTurns_106 ?_
    obtain rfl := Option.some.inj hs
    exact go_subL (L' := [some (.ref x0), none, some (.int x2), some (.int x3), some (.int (x4 + Int32.ofInt 1))]) (by simp [subL, va_rf]) hk
theorem oX7_reachByTurns_66 {d : Nat} (hd : 4 ≤ d) {h : Hp} {x0 : Nat} {x2 : Int32} {x3 : Int32} {x4 : Int32} {rf : Option Value} {hf : Hp} {x : ((Int32 × Hp) ⊕ Hp)} (hs : fX7_reachByTurns_66 h x0 x2 x3 x4 = some x) (hk : (Kx (pX7_reachByTurns_12 d x0 x2 rf hf) (kX7_reachByTurns rf hf)) x) : Go d mX7_reachByTurns 66 [some (.ref x0), none, some (.int x2), some (.int x3), some (.int x4)] [] h rf hf := by
  unfold fX7_reachByTurns_66 at hs
  exact lpw_go (P := pX7_reachByTurns_66 d x0 x2 x3 rf hf) (fun s x hs hk => oX7_reachByTurns_66b hd hs hk) (x4, h) x hs hk
noncomputable def fX7_reachByTurns_12b (h : Hp) (x0 : Nat) (x2 : Int32) (x3 : Int32) : Option ((Int32 × Hp) ⊕ Hp) :=
  (gI h 7 x0 12).bind fun v5 =>
  if v5 ≤ x3 then (
  (fX7_reachByTurns_115 h ).map (fun q => .inr q)) else (
    if (20000 : Int32) ≤ x3 then (
    (fX7_reachByTurns_115 h ).map (fun q => .inr q)) else (
      (gN h 7 x0 0).bind fun v6 =>
      (gN h 7 x0 5).bind fun v7 =>
      (aI 0 h v7 x3).bind fun v8 =>
      (gN h 7 x0 9).bind fun v9 =>
      gO h 1 v6 (
      (fX1_spread h v6 v8 (0 : Int32) v9).bind fun y10 =>
      (gN y10 7 x0 0).bind fun v12 =>
      (gN y10 7 x0 5).bind fun v13 =>
      (aI 0 y10 v13 x3).bind fun v14 =>
      (gN y10 7 x0 10).bind fun v15 =>
      gO y10 1 v12 (
      (fX1_spread y10 v12 v14 (1 : Int32) v15).bind fun y16 =>
      fX7_reachByTurns_66 y16 x0 x2 x3 (0 : Int32)))))
noncomputable def fX7_reachByTurns_12 (h : Hp) (x0 : Nat) (x2 : Int32) (x3 : Int32) : Option Hp := lpw (σ := (Int32 × Hp)) (fun s => fX7_reachByTurns_12b s.2 x0 x2 s.1) (x3, h)
theorem oX7_reachByTurns_12b {d : Nat} (hd : 4 ≤ d) {h : Hp} {x0 : Nat} {x2 : Int32} {x3 : Int32} {rf : Option Value} {hf : Hp} {x : ((Int32 × Hp) ⊕ Hp)} (hs : fX7_reachByTurns_12b h x0 x2 x3 = some x) (hk : (Kx (pX7_reachByTurns_12 d x0 x2 rf hf) (kX7_reachByTurns rf hf)) x) : Go d mX7_reachByTurns 12 [some (.ref x0), none, some (.int x2), some (.int x3), none] [] h rf hf := by
  unfold fX7_reachByTurns_12b at hs
  refine go_iload_n (k4 := 3) rfl dX7_reachByTurns_12 ?_
  refine go_aload_n (k4 := 0) rfl (Or.inr ⟨_, rfl⟩) dX7_reachByTurns_13 ?_
  obtain ⟨v5, ev5, hs⟩ := bindS hs
  refine go_gI fl_RX7_44 ev5 dX7_reachByTurns_14 ?_
  refine go_icmp_ge (tgt := 115) (by decide) dX7_reachByTurns_17 (fun c => ?_) (fun c => ?_)
  · have hs := if_t c hs
    obtain ⟨q, hs2, hq⟩ := mapS hs
    clear hs
    subst hq
    exact go_subL (L' := [none, none, none, none, none]) (by simp [subL, va_rf]) (oX7_reachByTurns_115 hd hs2 hk)
  · have hs := if_f c hs
    refine go_iload_n (k4 := 3) rfl dX7_reachByTurns_20 ?_
    refine go_sipush (v := 20000) (by decide) dX7_reachByTurns_21 ?_
    refine go_icmp_ge (tgt := 115) (by decide) dX7_reachByTurns_24 (fun c => ?_) (fun c => ?_)
    · have hs := if_t c hs
      obtain ⟨q, hs2, hq⟩ := mapS hs
      clear hs
      subst hq
      exact go_subL (L' := [none, none, none, none, none]) (by simp [subL, va_rf]) (oX7_reachByTurns_115 hd hs2 hk)
    · have hs := if_f c hs
      refine go_aload_n (k4 := 0) rfl (Or.inr ⟨_, rfl⟩) dX7_reachByTurns_27 ?_
      obtain ⟨v6, ev6, hs⟩ := bindS hs
      refine go_gN fl_RX7_60 ev6 dX7_reachByTurns_28 ?_
      refine go_aload_n (k4 := 0) rfl (Or.inr ⟨_, rfl⟩) dX7_reachByTurns_31 ?_
      obtain ⟨v7, ev7, hs⟩ := bindS hs
      refine go_gN fl_RX7_22 ev7 dX7_reachByTurns_32 ?_
      refine go_iload_n (k4 := 3) rfl dX7_reachByTurns_35 ?_
      obtain ⟨v8, ev8, hs⟩ := bindS hs
      refine go_aIi ev8 dX7_reachByTurns_36 ?_
      refine go_iconst (v := 0) (by decide) dX7_reachByTurns_37 ?_
      refine go_at 38 rfl ?_
      refine go_aload_n (k4 := 0) rfl (Or.inr ⟨_, rfl⟩) dX7_reachByTurns_38 ?_
      obtain ⟨v9, ev9, hs⟩ := bindS hs
      refine go_gN fl_RX7_35 ev9 dX7_reachByTurns_39 ?_
      obtain ⟨g11, hs⟩ := gO_at hs
      obtain ⟨y10, ey10, hs⟩ := bindS hs
      refine go_V0 (As := [.int v8, .int (0 : Int32), .ref v9]) (st := []) g11 rfl rfl (oX1_spread (d := d - 1) (by omega) ey10) (by omega) mb_X1_spread lm_RX7_99 mi_X1_spread (Nat.le_of_ble_eq_true rfl) rfl dX7_reachByTurns_42 ?_
      refine go_aload_n (k4 := 0) rfl (Or.inr ⟨_, rfl⟩) dX7_reachByTurns_45 ?_
      obtain ⟨v12, ev12, hs⟩ := bindS hs
      refine go_gN fl_RX7_60 ev12 dX7_reachByTurns_46 ?_
      refine go_aload_n (k4 := 0) rfl (Or.inr ⟨_, rfl⟩) dX7_reachByTurns_49 ?_
      obtain ⟨v13, ev13, hs⟩ := bindS hs
      refine go_gN fl_RX7_22 ev13 dX7_reachByTurns_50 ?_
      refine go_iload_n (k4 := 3) rfl dX7_reachByTurns_53 ?_
      refine go_at 54 rfl ?_
      obtain ⟨v14, ev14, hs⟩ := bindS hs
      refine go_aIi ev14 dX7_reachByTurns_54 ?_
      refine go_iconst (v := 1) (by decide) dX7_reachByTurns_55 ?_
      refine go_aload_n (k4 := 0) rfl (Or.inr ⟨_, rfl⟩) dX7_reachByTurns_56 ?_
      obtain ⟨v15, ev15, hs⟩ := bindS hs
      refine go_gN fl_RX7_38 ev15 dX7_reachByTurns_57 ?_
      obtain ⟨g17, hs⟩ := gO_at hs
      obtain ⟨y16, ey16, hs⟩ := bindS hs
      refine go_V0 (As := [.int v14, .int (1 : Int32), .ref v15]) (st := []) g17 rfl rfl (oX1_spread (d := d - 1) (by omega) ey16) (by omega) mb_X1_spread lm_RX7_99 mi_X1_spread (Nat.le_of_ble_eq_true rfl) rfl dX7_reachByTurns_60 ?_
      refine go_iconst (v := 0) (by decide) dX7_reachByTurns_63 ?_
      refine go_istore (L' := [some (.ref x0), none, some (.int x2), some (.int x3), some (.int (0 : Int32))]) (by decide) rfl dX7_reachByTurns_64 ?_
      exact go_subL (L' := [some (.ref x0), none, some (.int x2), some (.int x3), some (.int (0 : Int32))]) (by simp [subL, va_rf]) (oX7_reachByTurns_66 hd hs hk)
theorem oX7_reachByTurns_12 {d : Nat} (hd : 4 ≤ d) {h : Hp} {x0 : Nat} {x2 : Int32} {x3 : Int32} {rf : Option Value} {hf : Hp} {x : Hp} (hs : fX7_reachByTurns_12 h x0 x2 x3 = some x) (hk : (kX7_reachByTurns rf hf) x) : Go d mX7_reachByTurns 12 [some (.ref x0), none, some (.int x2), some (.int x3), none] [] h rf hf := by
  unfold fX7_reachByTurns_12 at hs
  exact lpw_go (P := pX7_reachByTurns_12 d x0 x2 rf hf) (fun s x hs hk => oX7_reachByTurns_12b hd hs hk) (x3, h) x hs hk
noncomputable def fX7_reachByTurns (h : Hp) (x0 : Nat) (x1 : Int32) (x2 : Int32) : Option Hp :=
  gO h 7 x0 (
  (fX7_begin h x0).bind fun y1 =>
  gO y1 7 x0 (
  (fX7_reach y1 x0 x1 (0 : Int32)).bind fun y3 =>
  fX7_reachByTurns_12 y3 x0 x2 (0 : Int32)))
theorem oX7_reachByTurns_0 {d : Nat} (hd : 4 ≤ d) {h : Hp} {x0 : Nat} {x1 : Int32} {x2 : Int32} {rf : Option Value} {hf : Hp} {x : Hp} (hs : fX7_reachByTurns h x0 x1 x2 = some x) (hk : (kX7_reachByTurns rf hf) x) : Go d mX7_reachByTurns 0 [some (.ref x0), some (.int x1), some (.int x2), none, none] [] h rf hf := by
  unfold fX7_reachByTurns at hs
  refine go_aload_n (k4 := 0) rfl (Or.inr ⟨_, rfl⟩) dX7_reachByTurns_0 ?_
  obtain ⟨g2, hs⟩ := gO_at hs
  obtain ⟨y1, ey1, hs⟩ := bindS hs
  refine go_V0 (As := []) (st := []) g2 rfl rfl (oX7_begin (d := d - 1) (by omega) ey1) (by omega) mb_X7_begin lm_RX7_88 mi_X7_begin (Nat.le_of_ble_eq_true rfl) rfl dX7_reachByTurns_1 ?_
  refine go_aload_n (k4 := 0) rfl (Or.inr ⟨_, rfl⟩) dX7_reachByTurns_4 ?_
  refine go_iload_n (k4 := 1) rfl dX7_reachByTurns_5 ?_
  refine go_iconst (v := 0) (by decide) dX7_reachByTurns_6 ?_
  obtain ⟨g4, hs⟩ := gO_at hs
  obtain ⟨y3, ey3, hs⟩ := bindS hs
  refine go_V0 (As := [.int x1, .int (0 : Int32)]) (st := []) g4 rfl rfl (oX7_reach (d := d - 1) (by omega) ey3) (by omega) mb_X7_reach lm_RX7_91 mi_X7_reach (Nat.le_of_ble_eq_true rfl) rfl dX7_reachByTurns_7 ?_
  refine go_iconst (v := 0) (by decide) dX7_reachByTurns_10 ?_
  refine go_at 11 rfl ?_
  refine go_istore_n (k4 := 3) (L' := [some (.ref x0), some (.int x1), some (.int x2), some (.int (0 : Int32)), none]) (by decide) rfl dX7_reachByTurns_11 ?_
  exact go_subL (L' := [some (.ref x0), none, some (.int x2), some (.int (0 : Int32)), none]) (by simp [subL, va_rf]) (oX7_reachByTurns_12 hd hs hk)
theorem oX7_reachByTurns {d : Nat} (hd : 4 ≤ d) {h : Hp} {x0 : Nat} {x1 : Int32} {x2 : Int32} {y : Hp} (hs : fX7_reachByTurns h x0 x1 x2 = some y) : Call d mX7_reachByTurns [.ref x0, .int x1, .int x2] h (none) y := call_of (by decide +kernel) (Nat.le_of_ble_eq_true rfl) (show Go d mX7_reachByTurns 0 [some (.ref x0), some (.int x1), some (.int x2), none, none] [] h _ _ from go_subL (by simp [subL]) (oX7_reachByTurns_0 hd hs ⟨rfl, rfl⟩))
abbrev kX7_isForced (h : Hp) (rf : Option Value) (hf : Hp) : Int32 → Prop := fun y => rf = some (.int y) ∧ hf = h
noncomputable def fX7_isForced_73 (h : Hp) (s0 : Int32) : Option Int32 :=
  bl s0 (some (s0))
theorem oX7_isForced_73 {d : Nat} (hd : 1 ≤ d) {h : Hp} {s0 : Int32} {rf : Option Value} {hf : Hp} {x : Int32} (hs : fX7_isForced_73 h s0 = some x) (hk : (kX7_isForced h rf hf) x) : Go d mX7_isForced 73 [none, none, none, none, none] [.int s0] h rf hf := by
  unfold fX7_isForced_73 at hs
  obtain ⟨n1, n2, hs⟩ := bl_at hs
  obtain rfl := Option.some.inj hs
  obtain ⟨rfl, rfl⟩ := hk
  exact go_zret (ty := .boolean) rfl n1 dX7_isForced_73
noncomputable def fX7_isForced_72 (h : Hp)  : Option Int32 :=
  fX7_isForced_73 h (0 : Int32)
theorem oX7_isForced_72 {d : Nat} (hd : 1 ≤ d) {h : Hp} {rf : Option Value} {hf : Hp} {x : Int32} (hs : fX7_isForced_72 h  = some x) (hk : (kX7_isForced h rf hf) x) : Go d mX7_isForced 72 [none, none, none, none, none] [] h rf hf := by
  unfold fX7_isForced_72 at hs
  refine go_iconst (v := 0) (by decide) dX7_isForced_72 ?_
  exact go_subL (L' := [none, none, none, none, none]) (by simp [subL, va_rf]) (oX7_isForced_73 hd hs hk)
noncomputable def fX7_isForced_42 (h : Hp) (x0 : Nat) (x1 : Int32) (x3 : Int32) (s0 : Int32) : Option Int32 :=
  if s0 = 0 then (
  fX7_isForced_72 h ) else (
    (gN h 7 x0 6).bind fun v3 =>
    (aI 0 h v3 x1).bind fun v4 =>
    if v4 = 0 then (
    fX7_isForced_72 h ) else (
      (gN h 7 x0 6).bind fun v5 =>
      (aI 0 h v5 x1).bind fun v6 =>
      if x3 < v6 then (
      fX7_isForced_72 h ) else (
        fX7_isForced_73 h (1 : Int32))))
theorem oX7_isForced_42 {d : Nat} (hd : 1 ≤ d) {h : Hp} {x0 : Nat} {x1 : Int32} {x3 : Int32} {s0 : Int32} {rf : Option Value} {hf : Hp} {x : Int32} (hs : fX7_isForced_42 h x0 x1 x3 s0 = some x) (hk : (kX7_isForced h rf hf) x) : Go d mX7_isForced 42 [some (.ref x0), some (.int x1), none, some (.int x3), none] [.int s0] h rf hf := by
  unfold fX7_isForced_42 at hs
  refine go_istore (L' := [some (.ref x0), some (.int x1), none, some (.int x3), some (.int s0)]) (by decide) rfl dX7_isForced_42 ?_
  refine go_iload rfl dX7_isForced_44 ?_
  refine go_if_eq (tgt := 72) (by decide) dX7_isForced_46 (fun c => ?_) (fun c => ?_)
  · have hs := if_t c hs
    exact go_subL (L' := [none, none, none, none, none]) (by simp [subL, va_rf]) (oX7_isForced_72 hd hs hk)
  · have hs := if_f c hs
    refine go_aload_n (k4 := 0) rfl (Or.inr ⟨_, rfl⟩) dX7_isForced_49 ?_
    obtain ⟨v3, ev3, hs⟩ := bindS hs
    refine go_gN fl_RX7_25 ev3 dX7_isForced_50 ?_
    refine go_iload_n (k4 := 1) rfl dX7_isForced_53 ?_
    obtain ⟨v4, ev4, hs⟩ := bindS hs
    refine go_aIi ev4 dX7_isForced_54 ?_
    refine go_if_eq (tgt := 72) (by decide) dX7_isForced_55 (fun c => ?_) (fun c => ?_)
    · have hs := if_t c hs
      exact go_subL (L' := [none, none, none, none, none]) (by simp [subL, va_rf]) (oX7_isForced_72 hd hs hk)
    · have hs := if_f c hs
      refine go_aload_n (k4 := 0) rfl (Or.inr ⟨_, rfl⟩) dX7_isForced_58 ?_
      obtain ⟨v5, ev5, hs⟩ := bindS hs
      refine go_gN fl_RX7_25 ev5 dX7_isForced_59 ?_
      refine go_iload_n (k4 := 1) rfl dX7_isForced_62 ?_
      obtain ⟨v6, ev6, hs⟩ := bindS hs
      refine go_aIi ev6 dX7_isForced_63 ?_
      refine go_iload_n (k4 := 3) rfl dX7_isForced_64 ?_
      refine go_icmp_gt (tgt := 72) (by decide) dX7_isForced_65 (fun c => ?_) (fun c => ?_)
      · have hs := if_t c hs
        exact go_subL (L' := [none, none, none, none, none]) (by simp [subL, va_rf]) (oX7_isForced_72 hd hs hk)
      · have hs := if_f c hs
        refine go_iconst (v := 1) (by decide) dX7_isForced_68 ?_
        refine go_goto (tgt := 73) (by decide) dX7_isForced_69 ?_
        exact go_subL (L' := [none, none, none, none, none]) (by simp [subL, va_rf]) (oX7_isForced_73 hd hs hk)
noncomputable def fX7_isForced_41 (h : Hp) (x0 : Nat) (x1 : Int32) (x3 : Int32) : Option Int32 :=
  fX7_isForced_42 h x0 x1 x3 (0 : Int32)
theorem oX7_isForced_41 {d : Nat} (hd : 1 ≤ d) {h : Hp} {x0 : Nat} {x1 : Int32} {x3 : Int32} {rf : Option Value} {hf : Hp} {x : Int32} (hs : fX7_isForced_41 h x0 x1 x3 = some x) (hk : (kX7_isForced h rf hf) x) : Go d mX7_isForced 41 [some (.ref x0), some (.int x1), none, some (.int x3), none] [] h rf hf := by
  unfold fX7_isForced_41 at hs
  refine go_iconst (v := 0) (by decide) dX7_isForced_41 ?_
  exact go_subL (L' := [some (.ref x0), some (.int x1), none, some (.int x3), none]) (by simp [subL, va_rf]) (oX7_isForced_42 hd hs hk)
noncomputable def fX7_isForced (h : Hp) (x0 : Nat) (x1 : Int32) (x2 : Int32) (x3 : Int32) : Option Int32 :=
  (fX11_digit h x1 x2).bind fun y1 =>
  if y1 = 0 then (
    some ((1 : Int32))) else (
    (fX7_isState h x1).bind fun y2 =>
    if y2 = 0 then (
    fX7_isForced_41 h x0 x1 x3) else (
      if (10000 : Int32) ≤ x1 then (
      fX7_isForced_41 h x0 x1 x3) else (
        (gN h 7 x0 3).bind fun v7 =>
        (aI 0 h v7 x1).bind fun v8 =>
        (gI h 7 x0 4).bind fun v9 =>
        if v8 = v9 then (
          fX7_isForced_42 h x0 x1 x3 (1 : Int32)) else (
        fX7_isForced_41 h x0 x1 x3))))
theorem oX7_isForced_0 {d : Nat} (hd : 1 ≤ d) {h : Hp} {x0 : Nat} {x1 : Int32} {x2 : Int32} {x3 : Int32} {rf : Option Value} {hf : Hp} {x : Int32} (hs : fX7_isForced h x0 x1 x2 x3 = some x) (hk : (kX7_isForced h rf hf) x) : Go d mX7_isForced 0 [some (.ref x0), some (.int x1), some (.int x2), some (.int x3), none] [] h rf hf := by
  unfold fX7_isForced at hs
  refine go_iload_n (k4 := 1) rfl dX7_isForced_0 ?_
  refine go_iload_n (k4 := 2) rfl dX7_isForced_1 ?_
  obtain ⟨y1, ey1, hs⟩ := bindS hs
  refine go_SN1 (As := [.int x1, .int x2]) (st := []) (oX11_digit (d := d - 1) (by omega) ey1) (by omega) mb_X11_digit lm_RX7_141 ms_X11_digit (Nat.le_of_ble_eq_true rfl) rfl dX7_isForced_2 ?_
  refine go_if_ne (tgt := 10) (by decide) dX7_isForced_5 (fun c => ?_) (fun c => ?_)
  · have hs := if_f c hs
    refine go_iload_n (k4 := 1) rfl dX7_isForced_10 ?_
    obtain ⟨y2, ey2, hs⟩ := bindS hs
    refine go_S1 (As := [.int x1]) (st := []) (oX7_isState (d := d - 1) (by omega) ey2) (by omega) mb_X7_isState lm_RX7_74 ms_X7_isState (Nat.le_of_ble_eq_true rfl) rfl dX7_isForced_11 ?_
    refine go_if_eq (tgt := 41) (by decide) dX7_isForced_14 (fun c => ?_) (fun c => ?_)
    · have hs := if_t c hs
      exact go_subL (L' := [some (.ref x0), some (.int x1), none, some (.int x3), none]) (by simp [subL, va_rf]) (oX7_isForced_41 hd hs hk)
    · have hs := if_f c hs
      refine go_iload_n (k4 := 1) rfl dX7_isForced_17 ?_
      refine go_sipush (v := 10000) (by decide) dX7_isForced_18 ?_
      refine go_icmp_ge (tgt := 41) (by decide) dX7_isForced_21 (fun c => ?_) (fun c => ?_)
      · have hs := if_t c hs
        exact go_subL (L' := [some (.ref x0), some (.int x1), none, some (.int x3), none]) (by simp [subL, va_rf]) (oX7_isForced_41 hd hs hk)
      · have hs := if_f c hs
        refine go_aload_n (k4 := 0) rfl (Or.inr ⟨_, rfl⟩) dX7_isForced_24 ?_
        obtain ⟨v7, ev7, hs⟩ := bindS hs
        refine go_gN fl_RX7_15 ev7 dX7_isForced_25 ?_
        refine go_iload_n (k4 := 1) rfl dX7_isForced_28 ?_
        obtain ⟨v8, ev8, hs⟩ := bindS hs
        refine go_aIi ev8 dX7_isForced_29 ?_
        refine go_aload_n (k4 := 0) rfl (Or.inr ⟨_, rfl⟩) dX7_isForced_30 ?_
        obtain ⟨v9, ev9, hs⟩ := bindS hs
        refine go_gI fl_RX7_19 ev9 dX7_isForced_31 ?_
        refine go_icmp_ne (tgt := 41) (by decide) dX7_isForced_34 (fun c => ?_) (fun c => ?_)
        · have hs := if_f c hs
          exact go_subL (L' := [some (.ref x0), some (.int x1), none, some (.int x3), none]) (by simp [subL, va_rf]) (oX7_isForced_41 hd hs hk)
        · have hs := if_t c hs
          refine go_iconst (v := 1) (by decide) dX7_isForced_37 ?_
          refine go_goto (tgt := 42) (by decide) dX7_isForced_38 ?_
          exact go_subL (L' := [some (.ref x0), some (.int x1), none, some (.int x3), none]) (by simp [subL, va_rf]) (oX7_isForced_42 hd hs hk)
  · have hs := if_t c hs
    refine go_iconst (v := 1) (by decide) dX7_isForced_8 ?_
    obtain rfl := Option.some.inj hs
    obtain ⟨rfl, rfl⟩ := hk
    exact go_zret (ty := .boolean) rfl rfl dX7_isForced_9
theorem oX7_isForced {d : Nat} (hd : 1 ≤ d) {h : Hp} {x0 : Nat} {x1 : Int32} {x2 : Int32} {x3 : Int32} {y : Int32} (hs : fX7_isForced h x0 x1 x2 x3 = some y) : Call d mX7_isForced [.ref x0, .int x1, .int x2, .int x3] h (some (.int y)) h := call_of (by decide +kernel) (Nat.le_of_ble_eq_true rfl) (show Go d mX7_isForced 0 [some (.ref x0), some (.int x1), some (.int x2), some (.int x3), none] [] h _ _ from go_subL (by simp [subL]) (oX7_isForced_0 hd hs ⟨rfl, rfl⟩))
abbrev kX7_forcingLeading (rf : Option Value) (hf : Hp) : (Int32 × Hp) → Prop := fun y => rf = some (.int y.1) ∧ hf = y.2
abbrev pX7_forcingLeading_29 (d : Nat) (h : Hp) (x0 : Nat) (x2 : Int32) (x3 : Int32) (rf : Option Value) (hf : Hp) : Int32 → Prop := fun s => Go d mX7_forcingLeading 29 [some (.ref x0), none, some (.int x2), some (.int x3), some (.int s)] [] h rf hf
noncomputable def fX7_forcingLeading_85 (h : Hp) (x0 : Nat) (x2 : Int32) (x3 : Int32) (x4 : Int32) : Option (Int32 ⊕ (Int32 × Hp)) :=
  some (.inl (x4 + Int32.ofInt 1))
theorem oX7_forcingLeading_85 {d : Nat} (hd : 4 ≤ d) {h : Hp} {x0 : Nat} {x2 : Int32} {x3 : Int32} {x4 : Int32} {rf : Option Value} {hf : Hp} {x : (Int32 ⊕ (Int32 × Hp))} (hs : fX7_forcingLeading_85 h x0 x2 x3 x4 = some x) (hk : (Kx (pX7_forcingLeading_29 d h x0 x2 x3 rf hf) (kX7_forcingLeading rf hf)) x) : Go d mX7_forcingLeading 85 [some (.ref x0), none, some (.int x2), some (.int x3), some (.int x4)] [] h rf hf := by
  unfold fX7_forcingLeading_85 at hs
  refine go_iinc (L' := [some (.ref x0), none, some (.int x2), some (.int x3), some (.int (x4 + Int32.ofInt 1))]) rfl (by decide) rfl rfl dX7_forcingLeading_85 ?_
  refine go_goto (tgt := 29) (by decide) dX7_forcingLeading_88 ?_
  obtain rfl := Option.some.inj hs
  exact go_subL (L' := [some (.ref x0), none, some (.int x2), some (.int x3), some (.int (x4 + Int32.ofInt 1))]) (by simp [subL, va_rf]) hk
noncomputable def fX7_forcingLeading_74 (h : Hp) (x0 : Nat) (x4 : Int32) : Option (Int32 × Hp) :=
  (gN h 7 x0 1).bind fun v20 =>
  (gN h 0 v20 9).bind fun v21 =>
  (aI 0 h v21 x4).bind fun v22 =>
  some ((v22, h))
theorem oX7_forcingLeading_74 {d : Nat} (hd : 4 ≤ d) {h : Hp} {x0 : Nat} {x4 : Int32} {rf : Option Value} {hf : Hp} {x : (Int32 × Hp)} (hs : fX7_forcingLeading_74 h x0 x4 = some x) (hk : (kX7_forcingLeading rf hf) x) : Go d mX7_forcingLeading 74 [some (.ref x0), none, none, none, some (.int x4)] [] h rf hf := by
  unfold fX7_forcingLeading_74 at hs
  refine go_aload_n (k4 := 0) rfl (Or.inr ⟨_, rfl⟩) dX7_forcingLeading_74 ?_
  obtain ⟨v20, ev20, hs⟩ := bindS hs
  refine go_gN fl_RX7_64 ev20 dX7_forcingLeading_75 ?_
  obtain ⟨v21, ev21, hs⟩ := bindS hs
  refine go_gN fl_RX7_103 ev21 dX7_forcingLeading_78 ?_
  refine go_iload rfl dX7_forcingLeading_81 ?_
  obtain ⟨v22, ev22, hs⟩ := bindS hs
  refine go_aIi ev22 dX7_forcingLeading_83 ?_
  obtain rfl := Option.some.inj hs
  obtain ⟨rfl, rfl⟩ := hk
  exact go_iret rfl dX7_forcingLeading_84
noncomputable def fX7_forcingLeading_29b (h : Hp) (x0 : Nat) (x2 : Int32) (x3 : Int32) (x4 : Int32) : Option (Int32 ⊕ (Int32 × Hp)) :=
  (gN h 7 x0 1).bind fun v9 =>
  (gN h 0 v9 9).bind fun v10 =>
  (aL h v10).bind fun v11 =>
  if v11 ≤ x4 then (
    some (.inr ((-1 : Int32), h))) else (
    (gN h 7 x0 9).bind fun v12 =>
    (aI 0 h v12 x4).bind fun v13 =>
    gO h 7 x0 (
    (fX7_isForced h x0 v13 x2 x3).bind fun y14 =>
    if y14 = 0 then (
    fX7_forcingLeading_85 h x0 x2 x3 x4) else (
      (gN h 7 x0 10).bind fun v16 =>
      (aI 0 h v16 x4).bind fun v17 =>
      gO h 7 x0 (
      (fX7_isForced h x0 v17 x2 x3).bind fun y18 =>
      if y18 = 0 then (
      fX7_forcingLeading_85 h x0 x2 x3 x4) else (
      (fX7_forcingLeading_74 h x0 x4).map (fun q => .inr q))))))
noncomputable def fX7_forcingLeading_29 (h : Hp) (x0 : Nat) (x2 : Int32) (x3 : Int32) (x4 : Int32) : Option (Int32 × Hp) := lpw (σ := Int32) (fun s => fX7_forcingLeading_29b h x0 x2 x3 s) x4
theorem oX7_forcingLeading_29b {d : Nat} (hd : 4 ≤ d) {h : Hp} {x0 : Nat} {x2 : Int32} {x3 : Int32} {x4 : Int32} {rf : Option Value} {hf : Hp} {x : (Int32 ⊕ (Int32 × Hp))} (hs : fX7_forcingLeading_29b h x0 x2 x3 x4 = some x) (hk : (Kx (pX7_forcingLeading_29 d h x0 x2 x3 rf hf) (kX7_forcingLeading rf hf)) x) : Go d mX7_forcingLeading 29 [some (.ref x0), none, some (.int x2), some (.int x3), some (.int x4)] [] h rf hf := by
  unfold fX7_forcingLeading_29b at hs
  refine go_iload rfl dX7_forcingLeading_29 ?_
  refine go_aload_n (k4 := 0) rfl (Or.inr ⟨_, rfl⟩) dX7_forcingLeading_31 ?_
  obtain ⟨v9, ev9, hs⟩ := bindS hs
  refine go_gN fl_RX7_64 ev9 dX7_forcingLeading_32 ?_
  obtain ⟨v10, ev10, hs⟩ := bindS hs
  refine go_gN fl_RX7_103 ev10 dX7_forcingLeading_35 ?_
  obtain ⟨v11, ev11, hs⟩ := bindS hs
  refine go_aL ev11 dX7_forcingLeading_38 ?_
  refine go_icmp_ge (tgt := 91) (by decide) dX7_forcingLeading_39 (fun c => ?_) (fun c => ?_)
  · have hs := if_t c hs
    refine go_iconst (v := -1) (by decide) dX7_forcingLeading_91 ?_
    obtain rfl := Option.some.inj hs
    obtain ⟨rfl, rfl⟩ := hk
    exact go_iret rfl dX7_forcingLeading_92
  · have hs := if_f c hs
    refine go_aload_n (k4 := 0) rfl (Or.inr ⟨_, rfl⟩) dX7_forcingLeading_42 ?_
    refine go_aload_n (k4 := 0) rfl (Or.inr ⟨_, rfl⟩) dX7_forcingLeading_43 ?_
    obtain ⟨v12, ev12, hs⟩ := bindS hs
    refine go_gN fl_RX7_35 ev12 dX7_forcingLeading_44 ?_
    refine go_iload rfl dX7_forcingLeading_47 ?_
    obtain ⟨v13, ev13, hs⟩ := bindS hs
    refine go_aIi ev13 dX7_forcingLeading_49 ?_
    refine go_iload_n (k4 := 2) rfl dX7_forcingLeading_50 ?_
    refine go_iload_n (k4 := 3) rfl dX7_forcingLeading_51 ?_
    refine go_at 52 rfl ?_
    obtain ⟨g15, hs⟩ := gO_at hs
    obtain ⟨y14, ey14, hs⟩ := bindS hs
    refine go_V1 (As := [.int v13, .int x2, .int x3]) (st := []) g15 rfl rfl (oX7_isForced (d := d - 1) (by omega) ey14) (by omega) mb_X7_isForced lm_RX7_177 mi_X7_isForced (Nat.le_of_ble_eq_true rfl) rfl dX7_forcingLeading_52 ?_
    refine go_if_eq (tgt := 85) (by decide) dX7_forcingLeading_55 (fun c => ?_) (fun c => ?_)
    · have hs := if_t c hs
      exact go_subL (L' := [some (.ref x0), none, some (.int x2), some (.int x3), some (.int x4)]) (by simp [subL, va_rf]) (oX7_forcingLeading_85 hd hs hk)
    · have hs := if_f c hs
      refine go_aload_n (k4 := 0) rfl (Or.inr ⟨_, rfl⟩) dX7_forcingLeading_58 ?_
      refine go_aload_n (k4 := 0) rfl (Or.inr ⟨_, rfl⟩) dX7_forcingLeading_59 ?_
      obtain ⟨v16, ev16, hs⟩ := bindS hs
      refine go_gN fl_RX7_38 ev16 dX7_forcingLeading_60 ?_
      refine go_iload rfl dX7_forcingLeading_63 ?_
      obtain ⟨v17, ev17, hs⟩ := bindS hs
      refine go_aIi ev17 dX7_forcingLeading_65 ?_
      refine go_iload_n (k4 := 2) rfl dX7_forcingLeading_66 ?_
      refine go_iload_n (k4 := 3) rfl dX7_forcingLeading_67 ?_
      refine go_at 68 rfl ?_
      obtain ⟨g19, hs⟩ := gO_at hs
      obtain ⟨y18, ey18, hs⟩ := bindS hs
      refine go_V1 (As := [.int v17, .int x2, .int x3]) (st := []) g19 rfl rfl (oX7_isForced (d := d - 1) (by omega) ey18) (by omega) mb_X7_isForced lm_RX7_177 mi_X7_isForced (Nat.le_of_ble_eq_true rfl) rfl dX7_forcingLeading_68 ?_
      refine go_if_eq (tgt := 85) (by decide) dX7_forcingLeading_71 (fun c => ?_) (fun c => ?_)
      · have hs := if_t c hs
        exact go_subL (L' := [some (.ref x0), none, some (.int x2), some (.int x3), some (.int x4)]) (by simp [subL, va_rf]) (oX7_forcingLeading_85 hd hs hk)
      · have hs := if_f c hs
        obtain ⟨q, hs2, hq⟩ := mapS hs
        clear hs
        subst hq
        exact go_subL (L' := [some (.ref x0), none, none, none, some (.int x4)]) (by simp [subL, va_rf]) (oX7_forcingLeading_74 hd hs2 hk)
theorem oX7_forcingLeading_29 {d : Nat} (hd : 4 ≤ d) {h : Hp} {x0 : Nat} {x2 : Int32} {x3 : Int32} {x4 : Int32} {rf : Option Value} {hf : Hp} {x : (Int32 × Hp)} (hs : fX7_forcingLeading_29 h x0 x2 x3 x4 = some x) (hk : (kX7_forcingLeading rf hf) x) : Go d mX7_forcingLeading 29 [some (.ref x0), none, some (.int x2), some (.int x3), some (.int x4)] [] h rf hf := by
  unfold fX7_forcingLeading_29 at hs
  exact lpw_go (P := pX7_forcingLeading_29 d h x0 x2 x3 rf hf) (fun s x hs hk => oX7_forcingLeading_29b hd hs hk) x4 x hs hk
noncomputable def fX7_forcingLeading (h : Hp) (x0 : Nat) (x1 : Int32) (x2 : Int32) (x3 : Int32) : Option (Int32 × Hp) :=
  (gN h 7 x0 0).bind fun v1 =>
  (gN h 7 x0 9).bind fun v2 =>
  gO h 1 v1 (
  (fX1_spread h v1 x1 (0 : Int32) v2).bind fun y3 =>
  (gN y3 7 x0 0).bind fun v5 =>
  (gN y3 7 x0 10).bind fun v6 =>
  gO y3 1 v5 (
  (fX1_spread y3 v5 x1 (1 : Int32) v6).bind fun y7 =>
  fX7_forcingLeading_29 y7 x0 x2 x3 (0 : Int32)))
theorem oX7_forcingLeading_0 {d : Nat} (hd : 4 ≤ d) {h : Hp} {x0 : Nat} {x1 : Int32} {x2 : Int32} {x3 : Int32} {rf : Option Value} {hf : Hp} {x : (Int32 × Hp)} (hs : fX7_forcingLeading h x0 x1 x2 x3 = some x) (hk : (kX7_forcingLeading rf hf) x) : Go d mX7_forcingLeading 0 [some (.ref x0), some (.int x1), some (.int x2), some (.int x3), none] [] h rf hf := by
  unfold fX7_forcingLeading at hs
  refine go_aload_n (k4 := 0) rfl (Or.inr ⟨_, rfl⟩) dX7_forcingLeading_0 ?_
  obtain ⟨v1, ev1, hs⟩ := bindS hs
  refine go_gN fl_RX7_60 ev1 dX7_forcingLeading_1 ?_
  refine go_iload_n (k4 := 1) rfl dX7_forcingLeading_4 ?_
  refine go_iconst (v := 0) (by decide) dX7_forcingLeading_5 ?_
  refine go_aload_n (k4 := 0) rfl (Or.inr ⟨_, rfl⟩) dX7_forcingLeading_6 ?_
  obtain ⟨v2, ev2, hs⟩ := bindS hs
  refine go_gN fl_RX7_35 ev2 dX7_forcingLeading_7 ?_
  obtain ⟨g4, hs⟩ := gO_at hs
  obtain ⟨y3, ey3, hs⟩ := bindS hs
  refine go_V0 (As := [.int x1, .int (0 : Int32), .ref v2]) (st := []) g4 rfl rfl (oX1_spread (d := d - 1) (by omega) ey3) (by omega) mb_X1_spread lm_RX7_99 mi_X1_spread (Nat.le_of_ble_eq_true rfl) rfl dX7_forcingLeading_10 ?_
  refine go_at 13 rfl ?_
  refine go_aload_n (k4 := 0) rfl (Or.inr ⟨_, rfl⟩) dX7_forcingLeading_13 ?_
  obtain ⟨v5, ev5, hs⟩ := bindS hs
  refine go_gN fl_RX7_60 ev5 dX7_forcingLeading_14 ?_
  refine go_iload_n (k4 := 1) rfl dX7_forcingLeading_17 ?_
  refine go_iconst (v := 1) (by decide) dX7_forcingLeading_18 ?_
  refine go_aload_n (k4 := 0) rfl (Or.inr ⟨_, rfl⟩) dX7_forcingLeading_19 ?_
  obtain ⟨v6, ev6, hs⟩ := bindS hs
  refine go_gN fl_RX7_38 ev6 dX7_forcingLeading_20 ?_
  obtain ⟨g8, hs⟩ := gO_at hs
  obtain ⟨y7, ey7, hs⟩ := bindS hs
  refine go_V0 (As := [.int x1, .int (1 : Int32), .ref v6]) (st := []) g8 rfl rfl (oX1_spread (d := d - 1) (by omega) ey7) (by omega) mb_X1_spread lm_RX7_99 mi_X1_spread (Nat.le_of_ble_eq_true rfl) rfl dX7_forcingLeading_23 ?_
  refine go_iconst (v := 0) (by decide) dX7_forcingLeading_26 ?_
  refine go_at 27 rfl ?_
  refine go_istore (L' := [some (.ref x0), some (.int x1), some (.int x2), some (.int x3), some (.int (0 : Int32))]) (by decide) rfl dX7_forcingLeading_27 ?_
  exact go_subL (L' := [some (.ref x0), none, some (.int x2), some (.int x3), some (.int (0 : Int32))]) (by simp [subL, va_rf]) (oX7_forcingLeading_29 hd hs hk)
theorem oX7_forcingLeading {d : Nat} (hd : 4 ≤ d) {h : Hp} {x0 : Nat} {x1 : Int32} {x2 : Int32} {x3 : Int32} {y : (Int32 × Hp)} (hs : fX7_forcingLeading h x0 x1 x2 x3 = some y) : Call d mX7_forcingLeading [.ref x0, .int x1, .int x2, .int x3] h (some (.int y.1)) (y.2) := call_of (by decide +kernel) (Nat.le_of_ble_eq_true rfl) (show Go d mX7_forcingLeading 0 [some (.ref x0), some (.int x1), some (.int x2), some (.int x3), none] [] h _ _ from go_subL (by simp [subL]) (oX7_forcingLeading_0 hd hs ⟨rfl, rfl⟩))
