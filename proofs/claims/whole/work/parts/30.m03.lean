/-! methods: their texts as functions, and that the machine does just that -/
abbrev kX12_gapIn (h : Hp) (rf : Option Value) (hf : Hp) : Int32 → Prop := fun y => rf = some (.int y) ∧ hf = h
abbrev pX12_gapIn_4 (d : Nat) (h : Hp) (x1 : Int32) (rf : Option Value) (hf : Hp) : (Int32 × Int32) → Prop := fun s => Go d mX12_gapIn 4 [none, some (.int x1), some (.int s.1), some (.int s.2)] [] h rf hf
noncomputable def fX12_gapIn_4b (h : Hp) (x1 : Int32) (x2 : Int32) (x3 : Int32) : Option ((Int32 × Int32) ⊕ Int32) :=
  if x1 ≤ x3 then (
    (rm x2 (10 : Int32)).bind fun v1 =>
    some (.inr v1)) else (
    (dv x2 (10 : Int32)).bind fun v2 =>
    some (.inl (v2, (x3 + Int32.ofInt 1))))
noncomputable def fX12_gapIn_4 (h : Hp) (x1 : Int32) (x2 : Int32) (x3 : Int32) : Option Int32 := lpw (σ := (Int32 × Int32)) (fun s => fX12_gapIn_4b h x1 s.1 s.2) (x2, x3)
theorem oX12_gapIn_4b {d : Nat} (hd : 0 ≤ d) {h : Hp} {x1 : Int32} {x2 : Int32} {x3 : Int32} {rf : Option Value} {hf : Hp} {x : ((Int32 × Int32) ⊕ Int32)} (hs : fX12_gapIn_4b h x1 x2 x3 = some x) (hk : (Kx (pX12_gapIn_4 d h x1 rf hf) (kX12_gapIn h rf hf)) x) : Go d mX12_gapIn 4 [none, some (.int x1), some (.int x2), some (.int x3)] [] h rf hf := by
  unfold fX12_gapIn_4b at hs
  refine go_iload_n (k4 := 3) rfl dX12_gapIn_4 ?_
  refine go_iload_n (k4 := 1) rfl dX12_gapIn_5 ?_
  refine go_icmp_ge (tgt := 20) (by decide) dX12_gapIn_6 (fun c => ?_) (fun c => ?_)
  · have hs := if_t c hs
    refine go_iload_n (k4 := 2) rfl dX12_gapIn_20 ?_
    refine go_bipush (v := 10) (by decide) dX12_gapIn_21 ?_
    obtain ⟨v1, ev1, hs⟩ := bindS hs
    refine go_rm ev1 dX12_gapIn_23 ?_
    obtain rfl := Option.some.inj hs
    obtain ⟨rfl, rfl⟩ := hk
    exact go_iret rfl dX12_gapIn_24
  · have hs := if_f c hs
    refine go_iload_n (k4 := 2) rfl dX12_gapIn_9 ?_
    refine go_bipush (v := 10) (by decide) dX12_gapIn_10 ?_
    obtain ⟨v2, ev2, hs⟩ := bindS hs
    refine go_dv ev2 dX12_gapIn_12 ?_
    refine go_istore_n (k4 := 2) (L' := [none, some (.int x1), some (.int v2), some (.int x3)]) (by decide) rfl dX12_gapIn_13 ?_
    refine go_iinc (L' := [none, some (.int x1), some (.int v2), some (.int (x3 + Int32.ofInt 1))]) rfl (by decide) rfl rfl dX12_gapIn_14 ?_
    refine go_goto (tgt := 4) (by decide) dX12_gapIn_17 ?_
    obtain rfl := Option.some.inj hs
    exact go_subL (L' := [none, some (.int x1), some (.int v2), some (.int (x3 + Int32.ofInt 1))]) (by simp [subL, va_rf]) hk
theorem oX12_gapIn_4 {d : Nat} (hd : 0 ≤ d) {h : Hp} {x1 : Int32} {x2 : Int32} {x3 : Int32} {rf : Option Value} {hf : Hp} {x : Int32} (hs : fX12_gapIn_4 h x1 x2 x3 = some x) (hk : (kX12_gapIn h rf hf) x) : Go d mX12_gapIn 4 [none, some (.int x1), some (.int x2), some (.int x3)] [] h rf hf := by
  unfold fX12_gapIn_4 at hs
  exact lpw_go (P := pX12_gapIn_4 d h x1 rf hf) (fun s x hs hk => oX12_gapIn_4b hd hs hk) (x2, x3) x hs hk
noncomputable def fX12_gapIn (h : Hp) (x0 : Int32) (x1 : Int32) : Option Int32 :=
  fX12_gapIn_4 h x1 x0 (0 : Int32)
theorem oX12_gapIn_0 {d : Nat} (hd : 0 ≤ d) {h : Hp} {x0 : Int32} {x1 : Int32} {rf : Option Value} {hf : Hp} {x : Int32} (hs : fX12_gapIn h x0 x1 = some x) (hk : (kX12_gapIn h rf hf) x) : Go d mX12_gapIn 0 [some (.int x0), some (.int x1), none, none] [] h rf hf := by
  unfold fX12_gapIn at hs
  refine go_iload_n (k4 := 0) rfl dX12_gapIn_0 ?_
  refine go_istore_n (k4 := 2) (L' := [some (.int x0), some (.int x1), some (.int x0), none]) (by decide) rfl dX12_gapIn_1 ?_
  refine go_iconst (v := 0) (by decide) dX12_gapIn_2 ?_
  refine go_istore_n (k4 := 3) (L' := [some (.int x0), some (.int x1), some (.int x0), some (.int (0 : Int32))]) (by decide) rfl dX12_gapIn_3 ?_
  exact go_subL (L' := [none, some (.int x1), some (.int x0), some (.int (0 : Int32))]) (by simp [subL, va_rf]) (oX12_gapIn_4 hd hs hk)
theorem oX12_gapIn {d : Nat} (hd : 0 ≤ d) {h : Hp} {x0 : Int32} {x1 : Int32} {y : Int32} (hs : fX12_gapIn h x0 x1 = some y) : Call d mX12_gapIn [.int x0, .int x1] h (some (.int y)) h := call_of (by decide +kernel) (Nat.le_of_ble_eq_true rfl) (show Go d mX12_gapIn 0 [some (.int x0), some (.int x1), none, none] [] h _ _ from go_subL (by simp [subL]) (oX12_gapIn_0 hd hs ⟨rfl, rfl⟩))
abbrev kX12_dropsIn (h : Hp) (rf : Option Value) (hf : Hp) : Int32 → Prop := fun y => rf = some (.int y) ∧ hf = h
abbrev pX12_dropsIn_4 (d : Nat) (h : Hp) (x1 : Int32) (rf : Option Value) (hf : Hp) : (Int32 × Int32) → Prop := fun s => Go d mX12_dropsIn 4 [none, some (.int x1), some (.int s.1), some (.int s.2)] [] h rf hf
noncomputable def fX12_dropsIn_4b (h : Hp) (x1 : Int32) (x2 : Int32) (x3 : Int32) : Option ((Int32 × Int32) ⊕ Int32) :=
  if x1 ≤ x3 then (
    (rm x2 (5 : Int32)).bind fun v1 =>
    some (.inr v1)) else (
    (dv x2 (5 : Int32)).bind fun v2 =>
    some (.inl (v2, (x3 + Int32.ofInt 1))))
noncomputable def fX12_dropsIn_4 (h : Hp) (x1 : Int32) (x2 : Int32) (x3 : Int32) : Option Int32 := lpw (σ := (Int32 × Int32)) (fun s => fX12_dropsIn_4b h x1 s.1 s.2) (x2, x3)
theorem oX12_dropsIn_4b {d : Nat} (hd : 0 ≤ d) {h : Hp} {x1 : Int32} {x2 : Int32} {x3 : Int32} {rf : Option Value} {hf : Hp} {x : ((Int32 × Int32) ⊕ Int32)} (hs : fX12_dropsIn_4b h x1 x2 x3 = some x) (hk : (Kx (pX12_dropsIn_4 d h x1 rf hf) (kX12_dropsIn h rf hf)) x) : Go d mX12_dropsIn 4 [none, some (.int x1), some (.int x2), some (.int x3)] [] h rf hf := by
  unfold fX12_dropsIn_4b at hs
  refine go_iload_n (k4 := 3) rfl dX12_dropsIn_4 ?_
  refine go_iload_n (k4 := 1) rfl dX12_dropsIn_5 ?_
  refine go_icmp_ge (tgt := 19) (by decide) dX12_dropsIn_6 (fun c => ?_) (fun c => ?_)
  · have hs := if_t c hs
    refine go_iload_n (k4 := 2) rfl dX12_dropsIn_19 ?_
    refine go_iconst (v := 5) (by decide) dX12_dropsIn_20 ?_
    obtain ⟨v1, ev1, hs⟩ := bindS hs
    refine go_rm ev1 dX12_dropsIn_21 ?_
    obtain rfl := Option.some.inj hs
    obtain ⟨rfl, rfl⟩ := hk
    exact go_iret rfl dX12_dropsIn_22
  · have hs := if_f c hs
    refine go_iload_n (k4 := 2) rfl dX12_dropsIn_9 ?_
    refine go_iconst (v := 5) (by decide) dX12_dropsIn_10 ?_
    obtain ⟨v2, ev2, hs⟩ := bindS hs
    refine go_dv ev2 dX12_dropsIn_11 ?_
    refine go_istore_n (k4 := 2) (L' := [none, some (.int x1), some (.int v2), some (.int x3)]) (by decide) rfl dX12_dropsIn_12 ?_
    refine go_iinc (L' := [none, some (.int x1), some (.int v2), some (.int (x3 + Int32.ofInt 1))]) rfl (by decide) rfl rfl dX12_dropsIn_13 ?_
    refine go_goto (tgt := 4) (by decide) dX12_dropsIn_16 ?_
    obtain rfl := Option.some.inj hs
    exact go_subL (L' := [none, some (.int x1), some (.int v2), some (.int (x3 + Int32.ofInt 1))]) (by simp [subL, va_rf]) hk
theorem oX12_dropsIn_4 {d : Nat} (hd : 0 ≤ d) {h : Hp} {x1 : Int32} {x2 : Int32} {x3 : Int32} {rf : Option Value} {hf : Hp} {x : Int32} (hs : fX12_dropsIn_4 h x1 x2 x3 = some x) (hk : (kX12_dropsIn h rf hf) x) : Go d mX12_dropsIn 4 [none, some (.int x1), some (.int x2), some (.int x3)] [] h rf hf := by
  unfold fX12_dropsIn_4 at hs
  exact lpw_go (P := pX12_dropsIn_4 d h x1 rf hf) (fun s x hs hk => oX12_dropsIn_4b hd hs hk) (x2, x3) x hs hk
noncomputable def fX12_dropsIn (h : Hp) (x0 : Int32) (x1 : Int32) : Option Int32 :=
  fX12_dropsIn_4 h x1 x0 (0 : Int32)
theorem oX12_dropsIn_0 {d : Nat} (hd : 0 ≤ d) {h : Hp} {x0 : Int32} {x1 : Int32} {rf : Option Value} {hf : Hp} {x : Int32} (hs : fX12_dropsIn h x0 x1 = some x) (hk : (kX12_dropsIn h rf hf) x) : Go d mX12_dropsIn 0 [some (.int x0), some (.int x1), none, none] [] h rf hf := by
  unfold fX12_dropsIn at hs
  refine go_iload_n (k4 := 0) rfl dX12_dropsIn_0 ?_
  refine go_istore_n (k4 := 2) (L' := [some (.int x0), some (.int x1), some (.int x0), none]) (by decide) rfl dX12_dropsIn_1 ?_
  refine go_iconst (v := 0) (by decide) dX12_dropsIn_2 ?_
  refine go_istore_n (k4 := 3) (L' := [some (.int x0), some (.int x1), some (.int x0), some (.int (0 : Int32))]) (by decide) rfl dX12_dropsIn_3 ?_
  exact go_subL (L' := [none, some (.int x1), some (.int x0), some (.int (0 : Int32))]) (by simp [subL, va_rf]) (oX12_dropsIn_4 hd hs hk)
theorem oX12_dropsIn {d : Nat} (hd : 0 ≤ d) {h : Hp} {x0 : Int32} {x1 : Int32} {y : Int32} (hs : fX12_dropsIn h x0 x1 = some y) : Call d mX12_dropsIn [.int x0, .int x1] h (some (.int y)) h := call_of (by decide +kernel) (Nat.le_of_ble_eq_true rfl) (show Go d mX12_dropsIn 0 [some (.int x0), some (.int x1), none, none] [] h _ _ from go_subL (by simp [subL]) (oX12_dropsIn_0 hd hs ⟨rfl, rfl⟩))
abbrev kX12_hasFallen (h : Hp) (rf : Option Value) (hf : Hp) : Int32 → Prop := fun y => rf = some (.int y) ∧ hf = h
noncomputable def fX12_hasFallen_12 (h : Hp) (s0 : Int32) : Option Int32 :=
  bl s0 (some (s0))
theorem oX12_hasFallen_12 {d : Nat} (hd : 0 ≤ d) {h : Hp} {s0 : Int32} {rf : Option Value} {hf : Hp} {x : Int32} (hs : fX12_hasFallen_12 h s0 = some x) (hk : (kX12_hasFallen h rf hf) x) : Go d mX12_hasFallen 12 [none] [.int s0] h rf hf := by
  unfold fX12_hasFallen_12 at hs
  obtain ⟨n1, n2, hs⟩ := bl_at hs
  obtain rfl := Option.some.inj hs
  obtain ⟨rfl, rfl⟩ := hk
  exact go_zret (ty := .boolean) rfl n1 dX12_hasFallen_12
noncomputable def fX12_hasFallen (h : Hp) (x0 : Int32) : Option Int32 :=
  if x0 < (10000 : Int32) then (
    fX12_hasFallen_12 h (0 : Int32)) else (
    fX12_hasFallen_12 h (1 : Int32))
theorem oX12_hasFallen_0 {d : Nat} (hd : 0 ≤ d) {h : Hp} {x0 : Int32} {rf : Option Value} {hf : Hp} {x : Int32} (hs : fX12_hasFallen h x0 = some x) (hk : (kX12_hasFallen h rf hf) x) : Go d mX12_hasFallen 0 [some (.int x0)] [] h rf hf := by
  unfold fX12_hasFallen at hs
  refine go_iload_n (k4 := 0) rfl dX12_hasFallen_0 ?_
  refine go_sipush (v := 10000) (by decide) dX12_hasFallen_1 ?_
  refine go_icmp_lt (tgt := 11) (by decide) dX12_hasFallen_4 (fun c => ?_) (fun c => ?_)
  · have hs := if_t c hs
    refine go_iconst (v := 0) (by decide) dX12_hasFallen_11 ?_
    exact go_subL (L' := [none]) (by simp [subL, va_rf]) (oX12_hasFallen_12 hd hs hk)
  · have hs := if_f c hs
    refine go_iconst (v := 1) (by decide) dX12_hasFallen_7 ?_
    refine go_goto (tgt := 12) (by decide) dX12_hasFallen_8 ?_
    exact go_subL (L' := [none]) (by simp [subL, va_rf]) (oX12_hasFallen_12 hd hs hk)
theorem oX12_hasFallen {d : Nat} (hd : 0 ≤ d) {h : Hp} {x0 : Int32} {y : Int32} (hs : fX12_hasFallen h x0 = some y) : Call d mX12_hasFallen [.int x0] h (some (.int y)) h := call_of (by decide +kernel) (Nat.le_of_ble_eq_true rfl) (show Go d mX12_hasFallen 0 [some (.int x0)] [] h _ _ from go_subL (by simp [subL]) (oX12_hasFallen_0 hd hs ⟨rfl, rfl⟩))
abbrev kX12_standNow (h : Hp) (rf : Option Value) (hf : Hp) : Int32 → Prop := fun y => rf = some (.int y) ∧ hf = h
abbrev pX12_standNow_16 (d : Nat) (h : Hp) (x0 : Nat) (rf : Option Value) (hf : Hp) : (Int32 × Int32 × Int32) → Prop := fun s => Go d mX12_standNow 16 [some (.ref x0), some (.int s.1), some (.int s.2.1), some (.int s.2.2)] [] h rf hf
noncomputable def fX12_standNow_16b (h : Hp) (x0 : Nat) (x1 : Int32) (x2 : Int32) (x3 : Int32) : Option ((Int32 × Int32 × Int32) ⊕ Int32) :=
  (gN h 12 x0 1).bind fun v3 =>
  (aI 0 h v3 (1 : Int32)).bind fun v4 =>
  if v4 ≤ x3 then (
    some (.inr x1)) else (
    (gN h 12 x0 1).bind fun v5 =>
    (aI 0 h v5 ((15 : Int32) + x3)).bind fun v6 =>
    some (.inl ((x1 + (x2 * v6)), (x2 * (10 : Int32)), (x3 + Int32.ofInt 1))))
noncomputable def fX12_standNow_16 (h : Hp) (x0 : Nat) (x1 : Int32) (x2 : Int32) (x3 : Int32) : Option Int32 := lpw (σ := (Int32 × Int32 × Int32)) (fun s => fX12_standNow_16b h x0 s.1 s.2.1 s.2.2) (x1, x2, x3)
theorem oX12_standNow_16b {d : Nat} (hd : 0 ≤ d) {h : Hp} {x0 : Nat} {x1 : Int32} {x2 : Int32} {x3 : Int32} {rf : Option Value} {hf : Hp} {x : ((Int32 × Int32 × Int32) ⊕ Int32)} (hs : fX12_standNow_16b h x0 x1 x2 x3 = some x) (hk : (Kx (pX12_standNow_16 d h x0 rf hf) (kX12_standNow h rf hf)) x) : Go d mX12_standNow 16 [some (.ref x0), some (.int x1), some (.int x2), some (.int x3)] [] h rf hf := by
  unfold fX12_standNow_16b at hs
  refine go_iload_n (k4 := 3) rfl dX12_standNow_16 ?_
  refine go_aload_n (k4 := 0) rfl (Or.inr ⟨_, rfl⟩) dX12_standNow_17 ?_
  obtain ⟨v3, ev3, hs⟩ := bindS hs
  refine go_gN fl_RX12_13 ev3 dX12_standNow_18 ?_
  refine go_iconst (v := 1) (by decide) dX12_standNow_21 ?_
  obtain ⟨v4, ev4, hs⟩ := bindS hs
  refine go_aIi ev4 dX12_standNow_22 ?_
  refine go_icmp_ge (tgt := 51) (by decide) dX12_standNow_23 (fun c => ?_) (fun c => ?_)
  · have hs := if_t c hs
    refine go_iload_n (k4 := 1) rfl dX12_standNow_51 ?_
    obtain rfl := Option.some.inj hs
    obtain ⟨rfl, rfl⟩ := hk
    exact go_iret rfl dX12_standNow_52
  · have hs := if_f c hs
    refine go_iload_n (k4 := 1) rfl dX12_standNow_26 ?_
    refine go_iload_n (k4 := 2) rfl dX12_standNow_27 ?_
    refine go_aload_n (k4 := 0) rfl (Or.inr ⟨_, rfl⟩) dX12_standNow_28 ?_
    obtain ⟨v5, ev5, hs⟩ := bindS hs
    refine go_gN fl_RX12_13 ev5 dX12_standNow_29 ?_
    refine go_bipush (v := 15) (by decide) dX12_standNow_32 ?_
    refine go_iload_n (k4 := 3) rfl dX12_standNow_34 ?_
    refine go_iadd dX12_standNow_35 ?_
    refine go_at 36 rfl ?_
    obtain ⟨v6, ev6, hs⟩ := bindS hs
    refine go_aIi ev6 dX12_standNow_36 ?_
    refine go_imul dX12_standNow_37 ?_
    refine go_iadd dX12_standNow_38 ?_
    refine go_istore_n (k4 := 1) (L' := [some (.ref x0), some (.int (x1 + (x2 * v6))), some (.int x2), some (.int x3)]) (by decide) rfl dX12_standNow_39 ?_
    refine go_iload_n (k4 := 2) rfl dX12_standNow_40 ?_
    refine go_bipush (v := 10) (by decide) dX12_standNow_41 ?_
    refine go_imul dX12_standNow_43 ?_
    refine go_istore_n (k4 := 2) (L' := [some (.ref x0), some (.int (x1 + (x2 * v6))), some (.int (x2 * (10 : Int32))), some (.int x3)]) (by decide) rfl dX12_standNow_44 ?_
    refine go_at 45 rfl ?_
    refine go_iinc (L' := [some (.ref x0), some (.int (x1 + (x2 * v6))), some (.int (x2 * (10 : Int32))), some (.int (x3 + Int32.ofInt 1))]) rfl (by decide) rfl rfl dX12_standNow_45 ?_
    refine go_goto (tgt := 16) (by decide) dX12_standNow_48 ?_
    obtain rfl := Option.some.inj hs
    exact go_subL (L' := [some (.ref x0), some (.int (x1 + (x2 * v6))), some (.int (x2 * (10 : Int32))), some (.int (x3 + Int32.ofInt 1))]) (by simp [subL, va_rf]) hk
theorem oX12_standNow_16 {d : Nat} (hd : 0 ≤ d) {h : Hp} {x0 : Nat} {x1 : Int32} {x2 : Int32} {x3 : Int32} {rf : Option Value} {hf : Hp} {x : Int32} (hs : fX12_standNow_16 h x0 x1 x2 x3 = some x) (hk : (kX12_standNow h rf hf) x) : Go d mX12_standNow 16 [some (.ref x0), some (.int x1), some (.int x2), some (.int x3)] [] h rf hf := by
  unfold fX12_standNow_16 at hs
  exact lpw_go (P := pX12_standNow_16 d h x0 rf hf) (fun s x hs hk => oX12_standNow_16b hd hs hk) (x1, x2, x3) x hs hk
noncomputable def fX12_standNow (h : Hp) (x0 : Nat) : Option Int32 :=
  (gN h 12 x0 1).bind fun v1 =>
  (aI 0 h v1 (24 : Int32)).bind fun v2 =>
  fX12_standNow_16 h x0 (v2 * (10000 : Int32)) (1 : Int32) (0 : Int32)
theorem oX12_standNow_0 {d : Nat} (hd : 0 ≤ d) {h : Hp} {x0 : Nat} {rf : Option Value} {hf : Hp} {x : Int32} (hs : fX12_standNow h x0 = some x) (hk : (kX12_standNow h rf hf) x) : Go d mX12_standNow 0 [some (.ref x0), none, none, none] [] h rf hf := by
  unfold fX12_standNow at hs
  refine go_aload_n (k4 := 0) rfl (Or.inr ⟨_, rfl⟩) dX12_standNow_0 ?_
  obtain ⟨v1, ev1, hs⟩ := bindS hs
  refine go_gN fl_RX12_13 ev1 dX12_standNow_1 ?_
  refine go_bipush (v := 24) (by decide) dX12_standNow_4 ?_
  obtain ⟨v2, ev2, hs⟩ := bindS hs
  refine go_aIi ev2 dX12_standNow_6 ?_
  refine go_sipush (v := 10000) (by decide) dX12_standNow_7 ?_
  refine go_imul dX12_standNow_10 ?_
  refine go_istore_n (k4 := 1) (L' := [some (.ref x0), some (.int (v2 * (10000 : Int32))), none, none]) (by decide) rfl dX12_standNow_11 ?_
  refine go_at 12 rfl ?_
  refine go_iconst (v := 1) (by decide) dX12_standNow_12 ?_
  refine go_istore_n (k4 := 2) (L' := [some (.ref x0), some (.int (v2 * (10000 : Int32))), some (.int (1 : Int32)), none]) (by decide) rfl dX12_standNow_13 ?_
  refine go_iconst (v := 0) (by decide) dX12_standNow_14 ?_
  refine go_istore_n (k4 := 3) (L' := [some (.ref x0), some (.int (v2 * (10000 : Int32))), some (.int (1 : Int32)), some (.int (0 : Int32))]) (by decide) rfl dX12_standNow_15 ?_
  exact go_subL (L' := [some (.ref x0), some (.int (v2 * (10000 : Int32))), some (.int (1 : Int32)), some (.int (0 : Int32))]) (by simp [subL, va_rf]) (oX12_standNow_16 hd hs hk)
theorem oX12_standNow {d : Nat} (hd : 0 ≤ d) {h : Hp} {x0 : Nat} {y : Int32} (hs : fX12_standNow h x0 = some y) : Call d mX12_standNow [.ref x0] h (some (.int y)) h := call_of (by decide +kernel) (Nat.le_of_ble_eq_true rfl) (show Go d mX12_standNow 0 [some (.ref x0), none, none, none] [] h _ _ from go_subL (by simp [subL]) (oX12_standNow_0 hd hs ⟨rfl, rfl⟩))
abbrev kX12_metIn (h : Hp) (rf : Option Value) (hf : Hp) : Int32 → Prop := fun y => rf = some (.int y) ∧ hf = h
abbrev pX12_metIn_4 (d : Nat) (h : Hp) (x0 : Nat) (x1 : Int32) (rf : Option Value) (hf : Hp) : (Int32 × Int32) → Prop := fun s => Go d mX12_metIn 4 [some (.ref x0), some (.int x1), some (.int s.1), some (.int s.2)] [] h rf hf
noncomputable def fX12_metIn_30 (h : Hp) (x0 : Nat) (x1 : Int32) (x3 : Int32) (s0 : Int32) (s1 : Int32) : Option ((Int32 × Int32) ⊕ Int32) :=
  some (.inl ((s0 ||| s1), (x3 + Int32.ofInt 1)))
theorem oX12_metIn_30 {d : Nat} (hd : 1 ≤ d) {h : Hp} {x0 : Nat} {x1 : Int32} {x3 : Int32} {s0 : Int32} {s1 : Int32} {rf : Option Value} {hf : Hp} {x : ((Int32 × Int32) ⊕ Int32)} (hs : fX12_metIn_30 h x0 x1 x3 s0 s1 = some x) (hk : (Kx (pX12_metIn_4 d h x0 x1 rf hf) (kX12_metIn h rf hf)) x) : Go d mX12_metIn 30 [some (.ref x0), some (.int x1), none, some (.int x3)] [.int s1, .int s0] h rf hf := by
  unfold fX12_metIn_30 at hs
  refine go_ior dX12_metIn_30 ?_
  refine go_istore_n (k4 := 2) (L' := [some (.ref x0), some (.int x1), some (.int (s0 ||| s1)), some (.int x3)]) (by decide) rfl dX12_metIn_31 ?_
  refine go_iinc (L' := [some (.ref x0), some (.int x1), some (.int (s0 ||| s1)), some (.int (x3 + Int32.ofInt 1))]) rfl (by decide) rfl rfl dX12_metIn_32 ?_
  refine go_goto (tgt := 4) (by decide) dX12_metIn_35 ?_
  obtain rfl := Option.some.inj hs
  exact go_subL (L' := [some (.ref x0), some (.int x1), some (.int (s0 ||| s1)), some (.int (x3 + Int32.ofInt 1))]) (by simp [subL, va_rf]) hk
noncomputable def fX12_metIn_4b (h : Hp) (x0 : Nat) (x1 : Int32) (x2 : Int32) (x3 : Int32) : Option ((Int32 × Int32) ⊕ Int32) :=
  (gN h 12 x0 1).bind fun v1 =>
  (aI 0 h v1 (1 : Int32)).bind fun v2 =>
  if v2 ≤ x3 then (
    some (.inr x2)) else (
    (fX12_gapIn h x1 x3).bind fun y3 =>
    if y3 = 0 then (
      fX12_metIn_30 h x0 x1 x3 x2 ((1 : Int32) <<< (x3 &&& 31))) else (
      fX12_metIn_30 h x0 x1 x3 x2 (0 : Int32)))
noncomputable def fX12_metIn_4 (h : Hp) (x0 : Nat) (x1 : Int32) (x2 : Int32) (x3 : Int32) : Option Int32 := lpw (σ := (Int32 × Int32)) (fun s => fX12_metIn_4b h x0 x1 s.1 s.2) (x2, x3)
theorem oX12_metIn_4b {d : Nat} (hd : 1 ≤ d) {h : Hp} {x0 : Nat} {x1 : Int32} {x2 : Int32} {x3 : Int32} {rf : Option Value} {hf : Hp} {x : ((Int32 × Int32) ⊕ Int32)} (hs : fX12_metIn_4b h x0 x1 x2 x3 = some x) (hk : (Kx (pX12_metIn_4 d h x0 x1 rf hf) (kX12_metIn h rf hf)) x) : Go d mX12_metIn 4 [some (.ref x0), some (.int x1), some (.int x2), some (.int x3)] [] h rf hf := by
  unfold fX12_metIn_4b at hs
  refine go_iload_n (k4 := 3) rfl dX12_metIn_4 ?_
  refine go_aload_n (k4 := 0) rfl (Or.inr ⟨_, rfl⟩) dX12_metIn_5 ?_
  obtain ⟨v1, ev1, hs⟩ := bindS hs
  refine go_gN fl_RX12_13 ev1 dX12_metIn_6 ?_
  refine go_iconst (v := 1) (by decide) dX12_metIn_9 ?_
  obtain ⟨v2, ev2, hs⟩ := bindS hs
  refine go_aIi ev2 dX12_metIn_10 ?_
  refine go_icmp_ge (tgt := 38) (by decide) dX12_metIn_11 (fun c => ?_) (fun c => ?_)
  · have hs := if_t c hs
    refine go_iload_n (k4 := 2) rfl dX12_metIn_38 ?_
    obtain rfl := Option.some.inj hs
    obtain ⟨rfl, rfl⟩ := hk
    exact go_iret rfl dX12_metIn_39
  · have hs := if_f c hs
    refine go_iload_n (k4 := 2) rfl dX12_metIn_14 ?_
    refine go_iload_n (k4 := 1) rfl dX12_metIn_15 ?_
    refine go_iload_n (k4 := 3) rfl dX12_metIn_16 ?_
    obtain ⟨y3, ey3, hs⟩ := bindS hs
    refine go_S1 (As := [.int x1, .int x3]) (st := [.int x2]) (oX12_gapIn (d := d - 1) (by omega) ey3) (by omega) mb_X12_gapIn lm_RX12_217 ms_X12_gapIn (Nat.le_of_ble_eq_true rfl) rfl dX12_metIn_17 ?_
    refine go_if_ne (tgt := 29) (by decide) dX12_metIn_20 (fun c => ?_) (fun c => ?_)
    · have hs := if_f c hs
      refine go_iconst (v := 0) (by decide) dX12_metIn_29 ?_
      exact go_subL (L' := [some (.ref x0), some (.int x1), none, some (.int x3)]) (by simp [subL, va_rf]) (oX12_metIn_30 hd hs hk)
    · have hs := if_t c hs
      refine go_iconst (v := 1) (by decide) dX12_metIn_23 ?_
      refine go_iload_n (k4 := 3) rfl dX12_metIn_24 ?_
      refine go_ishl dX12_metIn_25 ?_
      refine go_goto (tgt := 30) (by decide) dX12_metIn_26 ?_
      exact go_subL (L' := [some (.ref x0), some (.int x1), none, some (.int x3)]) (by simp [subL, va_rf]) (oX12_metIn_30 hd hs hk)
theorem oX12_metIn_4 {d : Nat} (hd : 1 ≤ d) {h : Hp} {x0 : Nat} {x1 : Int32} {x2 : Int32} {x3 : Int32} {rf : Option Value} {hf : Hp} {x : Int32} (hs : fX12_metIn_4 h x0 x1 x2 x3 = some x) (hk : (kX12_metIn h rf hf) x) : Go d mX12_metIn 4 [some (.ref x0), some (.int x1), some (.int x2), some (.int x3)] [] h rf hf := by
  unfold fX12_metIn_4 at hs
  exact lpw_go (P := pX12_metIn_4 d h x0 x1 rf hf) (fun s x hs hk => oX12_metIn_4b hd hs hk) (x2, x3) x hs hk
noncomputable def fX12_metIn (h : Hp) (x0 : Nat) (x1 : Int32) : Option Int32 :=
  fX12_metIn_4 h x0 x1 (0 : Int32) (0 : Int32)
theorem oX12_metIn_0 {d : Nat} (hd : 1 ≤ d) {h : Hp} {x0 : Nat} {x1 : Int32} {rf : Option Value} {hf : Hp} {x : Int32} (hs : fX12_metIn h x0 x1 = some x) (hk : (kX12_metIn h rf hf) x) : Go d mX12_metIn 0 [some (.ref x0), some (.int x1), none, none] [] h rf hf := by
  unfold fX12_metIn at hs
  refine go_iconst (v := 0) (by decide) dX12_metIn_0 ?_
  refine go_istore_n (k4 := 2) (L' := [some (.ref x0), some (.int x1), some (.int (0 : Int32)), none]) (by decide) rfl dX12_metIn_1 ?_
  refine go_iconst (v := 0) (by decide) dX12_metIn_2 ?_
  refine go_istore_n (k4 := 3) (L' := [some (.ref x0), some (.int x1), some (.int (0 : Int32)), some (.int (0 : Int32))]) (by decide) rfl dX12_metIn_3 ?_
  exact go_subL (L' := [some (.ref x0), some (.int x1), some (.int (0 : Int32)), some (.int (0 : Int32))]) (by simp [subL, va_rf]) (oX12_metIn_4 hd hs hk)
theorem oX12_metIn {d : Nat} (hd : 1 ≤ d) {h : Hp} {x0 : Nat} {x1 : Int32} {y : Int32} (hs : fX12_metIn h x0 x1 = some y) : Call d mX12_metIn [.ref x0, .int x1] h (some (.int y)) h := call_of (by decide +kernel) (Nat.le_of_ble_eq_true rfl) (show Go d mX12_metIn 0 [some (.ref x0), some (.int x1), none, none] [] h _ _ from go_subL (by simp [subL]) (oX12_metIn_0 hd hs ⟨rfl, rfl⟩))
abbrev kX12_gapsIn (h : Hp) (rf : Option Value) (hf : Hp) : Int32 → Prop := fun y => rf = some (.int y) ∧ hf = h
abbrev pX12_gapsIn_4 (d : Nat) (h : Hp) (x0 : Nat) (x1 : Int32) (rf : Option Value) (hf : Hp) : (Int32 × Int32) → Prop := fun s => Go d mX12_gapsIn 4 [some (.ref x0), some (.int x1), some (.int s.1), some (.int s.2)] [] h rf hf
noncomputable def fX12_gapsIn_4b (h : Hp) (x0 : Nat) (x1 : Int32) (x2 : Int32) (x3 : Int32) : Option ((Int32 × Int32) ⊕ Int32) :=
  (gN h 12 x0 1).bind fun v1 =>
  (aI 0 h v1 (1 : Int32)).bind fun v2 =>
  if v2 ≤ x3 then (
    some (.inr x2)) else (
    (fX12_gapIn h x1 x3).bind fun y3 =>
    some (.inl ((x2 + y3), (x3 + Int32.ofInt 1))))
noncomputable def fX12_gapsIn_4 (h : Hp) (x0 : Nat) (x1 : Int32) (x2 : Int32) (x3 : Int32) : Option Int32 := lpw (σ := (Int32 × Int32)) (fun s => fX12_gapsIn_4b h x0 x1 s.1 s.2) (x2, x3)
theorem oX12_gapsIn_4b {d : Nat} (hd : 1 ≤ d) {h : Hp} {x0 : Nat} {x1 : Int32} {x2 : Int32} {x3 : Int32} {rf : Option Value} {hf : Hp} {x : ((Int32 × Int32) ⊕ Int32)} (hs : fX12_gapsIn_4b h x0 x1 x2 x3 = some x) (hk : (Kx (pX12_gapsIn_4 d h x0 x1 rf hf) (kX12_gapsIn h rf hf)) x) : Go d mX12_gapsIn 4 [some (.ref x0), some (.int x1), some (.int x2), some (.int x3)] [] h rf hf := by
  unfold fX12_gapsIn_4b at hs
  refine go_iload_n (k4 := 3) rfl dX12_gapsIn_4 ?_
  refine go_aload_n (k4 := 0) rfl (Or.inr ⟨_, rfl⟩) dX12_gapsIn_5 ?_
  obtain ⟨v1, ev1, hs⟩ := bindS hs
  refine go_gN fl_RX12_13 ev1 dX12_gapsIn_6 ?_
  refine go_iconst (v := 1) (by decide) dX12_gapsIn_9 ?_
  obtain ⟨v2, ev2, hs⟩ := bindS hs
  refine go_aIi ev2 dX12_gapsIn_10 ?_
  refine go_icmp_ge (tgt := 28) (by decide) dX12_gapsIn_11 (fun c => ?_) (fun c => ?_)
  · have hs := if_t c hs
    refine go_iload_n (k4 := 2) rfl dX12_gapsIn_28 ?_
    obtain rfl := Option.some.inj hs
    obtain ⟨rfl, rfl⟩ := hk
    exact go_iret rfl dX12_gapsIn_29
  · have hs := if_f c hs
    refine go_iload_n (k4 := 2) rfl dX12_gapsIn_14 ?_
    refine go_iload_n (k4 := 1) rfl dX12_gapsIn_15 ?_
    refine go_iload_n (k4 := 3) rfl dX12_gapsIn_16 ?_
    obtain ⟨y3, ey3, hs⟩ := bindS hs
    refine go_S1 (As := [.int x1, .int x3]) (st := [.int x2]) (oX12_gapIn (d := d - 1) (by omega) ey3) (by omega) mb_X12_gapIn lm_RX12_217 ms_X12_gapIn (Nat.le_of_ble_eq_true rfl) rfl dX12_gapsIn_17 ?_
    refine go_iadd dX12_gapsIn_20 ?_
    refine go_istore_n (k4 := 2) (L' := [some (.ref x0), some (.int x1), some (.int (x2 + y3)), some (.int x3)]) (by decide) rfl dX12_gapsIn_21 ?_
    refine go_iinc (L' := [some (.ref x0), some (.int x1), some (.int (x2 + y3)), some (.int (x3 + Int32.ofInt 1))]) rfl (by decide) rfl rfl dX12_gapsIn_22 ?_
    refine go_at 25 rfl ?_
    refine go_goto (tgt := 4) (by decide) dX12_gapsIn_25 ?_
    obtain rfl := Option.some.inj hs
    exact go_subL (L' := [some (.ref x0), some (.int x1), some (.int (x2 + y3)), some (.int (x3 + Int32.ofInt 1))]) (by simp [subL, va_rf]) hk
theorem oX12_gapsIn_4 {d : Nat} (hd : 1 ≤ d) {h : Hp} {x0 : Nat} {x1 : Int32} {x2 : Int32} {x3 : Int32} {rf : Option Value} {hf : Hp} {x : Int32} (hs : fX12_gapsIn_4 h x0 x1 x2 x3 = some x) (hk : (kX12_gapsIn h rf hf) x) : Go d mX12_gapsIn 4 [some (.ref x0), some (.int x1), some (.int x2), some (.int x3)] [] h rf hf := by
  unfold fX12_gapsIn_4 at hs
  exact lpw_go (P := pX12_gapsIn_4 d h x0 x1 rf hf) (fun s x hs hk => oX12_gapsIn_4b hd hs hk) (x2, x3) x hs hk
noncomputable def fX12_gapsIn (h : Hp) (x0 : Nat) (x1 : Int32) : Option Int32 :=
  fX12_gapsIn_4 h x0 x1 (0 : Int32) (0 : Int32)
theorem oX12_gapsIn_0 {d : Nat} (hd : 1 ≤ d) {h : Hp} {x0 : Nat} {x1 : Int32} {rf : Option Value} {hf : Hp} {x : Int32} (hs : fX12_gapsIn h x0 x1 = some x) (hk : (kX12_gapsIn h rf hf) x) : Go d mX12_gapsIn 0 [some (.ref x0), some (.int x1), none, none] [] h rf hf := by
  unfold fX12_gapsIn at hs
  refine go_iconst (v := 0) (by decide) dX12_gapsIn_0 ?_
  refine go_istore_n (k4 := 2) (L' := [some (.ref x0), some (.int x1), some (.int (0 : Int32)), none]) (by decide) rfl dX12_gapsIn_1 ?_
  refine go_iconst (v := 0) (by decide) dX12_gapsIn_2 ?_
  refine go_istore_n (k4 := 3) (L' := [some (.ref x0), some (.int x1), some (.int (0 : Int32)), some (.int (0 : Int32))]) (by decide) rfl dX12_gapsIn_3 ?_
  exact go_subL (L' := [some (.ref x0), some (.int x1), some (.int (0 : Int32)), some (.int (0 : Int32))]) (by simp [subL, va_rf]) (oX12_gapsIn_4 hd hs hk)
theorem oX12_gapsIn {d : Nat} (hd : 1 ≤ d) {h : Hp} {x0 : Nat} {x1 : Int32} {y : Int32} (hs : fX12_gapsIn h x0 x1 = some y) : Call d mX12_gapsIn [.ref x0, .int x1] h (some (.int y)) h := call_of (by decide +kernel) (Nat.le_of_ble_eq_true rfl) (show Go d mX12_gapsIn 0 [some (.ref x0), some (.int x1), none, none] [] h _ _ from go_subL (by simp [subL]) (oX12_gapsIn_0 hd hs ⟨rfl, rfl⟩))
abbrev kX12_widestIn (h : Hp) (rf : Option Value) (hf : Hp) : Int32 → Prop := fun y => rf = some (.int y) ∧ hf = h
abbrev pX12_widestIn_4 (d : Nat) (h : Hp) (x0 : Nat) (x1 : Int32) (rf : Option Value) (hf : Hp) : (Int32 × Int32) → Prop := fun s => Go d mX12_widestIn 4 [some (.ref x0), some (.int x1), some (.int s.1), some (.int s.2)] [] h rf hf
noncomputable def fX12_widestIn_32 (h : Hp) (x0 : Nat) (x1 : Int32) (x3 : Int32) (s0 : Int32) : Option ((Int32 × Int32) ⊕ Int32) :=
  some (.inl (s0, (x3 + Int32.ofInt 1)))
theorem oX12_widestIn_32 {d : Nat} (hd : 1 ≤ d) {h : Hp} {x0 : Nat} {x1 : Int32} {x3 : Int32} {s0 : Int32} {rf : Option Value} {hf : Hp} {x : ((Int32 × Int32) ⊕ Int32)} (hs : fX12_widestIn_32 h x0 x1 x3 s0 = some x) (hk : (Kx (pX12_widestIn_4 d h x0 x1 rf hf) (kX12_widestIn h rf hf)) x) : Go d mX12_widestIn 32 [some (.ref x0), some (.int x1), none, some (.int x3)] [.int s0] h rf hf := by
  unfold fX12_widestIn_32 at hs
  refine go_istore_n (k4 := 2) (L' := [some (.ref x0), some (.int x1), some (.int s0), some (.int x3)]) (by decide) rfl dX12_widestIn_32 ?_
  refine go_iinc (L' := [some (.ref x0), some (.int x1), some (.int s0), some (.int (x3 + Int32.ofInt 1))]) rfl (by decide) rfl rfl dX12_widestIn_33 ?_
  refine go_goto (tgt := 4) (by decide) dX12_widestIn_36 ?_
  obtain rfl := Option.some.inj hs
  exact go_subL (L' := [some (.ref x0), some (.int x1), some (.int s0), some (.int (x3 + Int32.ofInt 1))]) (by simp [subL, va_rf]) hk
noncomputable def fX12_widestIn_4b (h : Hp) (x0 : Nat) (x1 : Int32) (x2 : Int32) (x3 : Int32) : Option ((Int32 × Int32) ⊕ Int32) :=
  (gN h 12 x0 1).bind fun v1 =>
  (aI 0 h v1 (1 : Int32)).bind fun v2 =>
  if v2 ≤ x3 then (
    some (.inr x2)) else (
    (fX12_gapIn h x1 x3).bind fun y3 =>
    if y3 ≤ x2 then (
      fX12_widestIn_32 h x0 x1 x3 x2) else (
      (fX12_gapIn h x1 x3).bind fun y4 =>
      fX12_widestIn_32 h x0 x1 x3 y4))
noncomputable def fX12_widestIn_4 (h : Hp) (x0 : Nat) (x1 : Int32) (x2 : Int32) (x3 : Int32) : Option Int32 := lpw (σ := (Int32 × Int32)) (fun s => fX12_widestIn_4b h x0 x1 s.1 s.2) (x2, x3)
theorem oX12_widestIn_4b {d : Nat} (hd : 1 ≤ d) {h : Hp} {x0 : Nat} {x1 : Int32} {x2 : Int32} {x3 : Int32} {rf : Option Value} {hf : Hp} {x : ((Int32 × Int32) ⊕ Int32)} (hs : fX12_widestIn_4b h x0 x1 x2 x3 = some x) (hk : (Kx (pX12_widestIn_4 d h x0 x1 rf hf) (kX12_widestIn h rf hf)) x) : Go d mX12_widestIn 4 [some (.ref x0), some (.int x1), some (.int x2), some (.int x3)] [] h rf hf := by
  unfold fX12_widestIn_4b at hs
  refine go_iload_n (k4 := 3) rfl dX12_widestIn_4 ?_
  refine go_aload_n (k4 := 0) rfl (Or.inr ⟨_, rfl⟩) dX12_widestIn_5 ?_
  obtain ⟨v1, ev1, hs⟩ := bindS hs
  refine go_gN fl_RX12_13 ev1 dX12_widestIn_6 ?_
  refine go_iconst (v := 1) (by decide) dX12_widestIn_9 ?_
  obtain ⟨v2, ev2, hs⟩ := bindS hs
  refine go_aIi ev2 dX12_widestIn_10 ?_
  refine go_icmp_ge (tgt := 39) (by decide) dX12_widestIn_11 (fun c => ?_) (fun c => ?_)
  · have hs := if_t c hs
    refine go_iload_n (k4 := 2) rfl dX12_widestIn_39 ?_
    obtain rfl := Option.some.inj hs
    obtain ⟨rfl, rfl⟩ := hk
    exact go_iret rfl dX12_widestIn_40
  · have hs := if_f c hs
    refine go_iload_n (k4 := 1) rfl dX12_widestIn_14 ?_
    refine go_iload_n (k4 := 3) rfl dX12_widestIn_15 ?_
    obtain ⟨y3, ey3, hs⟩ := bindS hs
    refine go_S1 (As := [.int x1, .int x3]) (st := []) (oX12_gapIn (d := d - 1) (by omega) ey3) (by omega) mb_X12_gapIn lm_RX12_217 ms_X12_gapIn (Nat.le_of_ble_eq_true rfl) rfl dX12_widestIn_16 ?_
    refine go_iload_n (k4 := 2) rfl dX12_widestIn_19 ?_
    refine go_icmp_le (tgt := 31) (by decide) dX12_widestIn_20 (fun c => ?_) (fun c => ?_)
    · have hs := if_t c hs
      refine go_iload_n (k4 := 2) rfl dX12_widestIn_31 ?_
      exact go_subL (L' := [some (.ref x0), some (.int x1), none, some (.int x3)]) (by simp [subL, va_rf]) (oX12_widestIn_32 hd hs hk)
    · have hs := if_f c hs
      refine go_iload_n (k4 := 1) rfl dX12_widestIn_23 ?_
      refine go_iload_n (k4 := 3) rfl dX12_widestIn_24 ?_
      obtain ⟨y4, ey4, hs⟩ := bindS hs
      refine go_S1 (As := [.int x1, .int x3]) (st := []) (oX12_gapIn (d := d - 1) (by omega) ey4) (by omega) mb_X12_gapIn lm_RX12_217 ms_X12_gapIn (Nat.le_of_ble_eq_true rfl) rfl dX12_widestIn_25 ?_
      refine go_goto (tgt := 32) (by decide) dX12_widestIn_28 ?_
      exact go_subL (L' := [some (.ref x0), some (.int x1), none, some (.int x3)]) (by simp [subL, va_rf]) (oX12_widestIn_32 hd hs hk)
theorem oX12_widestIn_4 {d : Nat} (hd : 1 ≤ d) {h : Hp} {x0 : Nat} {x1 : Int32} {x2 : Int32} {x3 : Int32} {rf : Option Value} {hf : Hp} {x : Int32} (hs : fX12_widestIn_4 h x0 x1 x2 x3 = some x) (hk : (kX12_widestIn h rf hf) x) : Go d mX12_widestIn 4 [some (.ref x0), some (.int x1), some (.int x2), some (.int x3)] [] h rf hf := by
  unfold fX12_widestIn_4 at hs
  exact lpw_go (P := pX12_widestIn_4 d h x0 x1 rf hf) (fun s x hs hk => oX12_widestIn_4b hd hs hk) (x2, x3) x hs hk
noncomputable def fX12_widestIn (h : Hp) (x0 : Nat) (x1 : Int32) : Option Int32 :=
  fX12_widestIn_4 h x0 x1 (0 : Int32) (0 : Int32)
theorem oX12_widestIn_0 {d : Nat} (hd : 1 ≤ d) {h : Hp} {x0 : Nat} {x1 : Int32} {rf : Option Value} {hf : Hp} {x : Int32} (hs : fX12_widestIn h x0 x1 = some x) (hk : (kX12_widestIn h rf hf) x) : Go d mX12_widestIn 0 [some (.ref x0), some (.int x1), none, none] [] h rf hf := by
  unfold fX12_widestIn at hs
  refine go_iconst (v := 0) (by decide) dX12_widestIn_0 ?_
  refine go_istore_n (k4 := 2) (L' := [some (.ref x0), some (.int x1), some (.int (0 : Int32)), none]) (by decide) rfl dX12_widestIn_1 ?_
  refine go_iconst (v := 0) (by decide) dX12_widestIn_2 ?_
  refine go_istore_n (k4 := 3) (L' := [some (.ref x0), some (.int x1), some (.int (0 : Int32)), some (.int (0 : Int32))]) (by decide) rfl dX12_widestIn_3 ?_
  exact go_subL (L' := [some (.ref x0), some (.int x1), some (.int (0 : Int32)), some (.int (0 : Int32))]) (by simp [subL, va_rf]) (oX12_widestIn_4 hd hs hk)
theorem oX12_widestIn {d : Nat} (hd : 1 ≤ d) {h : Hp} {x0 : Nat} {x1 : Int32} {y : Int32} (hs : fX12_widestIn h x0 x1 = some y) : Call d mX12_widestIn [.ref x0, .int x1] h (some (.int y)) h := call_of (by decide +kernel) (Nat.le_of_ble_eq_true rfl) (show Go d mX12_widestIn 0 [some (.ref x0), some (.int x1), none, none] [] h _ _ from go_subL (by simp [subL]) (oX12_widestIn_0 hd hs ⟨rfl, rfl⟩))
abbrev kX12_isLead (h : Hp) (rf : Option Value) (hf : Hp) : Int32 → Prop := fun y => rf = some (.int y) ∧ hf = h
noncomputable def fX12_isLead_14 (h : Hp)  : Option Int32 :=
  some ((0 : Int32))
theorem oX12_isLead_14 {d : Nat} (hd : 0 ≤ d) {h : Hp} {rf : Option Value} {hf : Hp} {x : Int32} (hs : fX12_isLead_14 h  = some x) (hk : (kX12_isLead h rf hf) x) : Go d mX12_isLead 14 [none, none, none, none, none, none] [] h rf hf := by
  unfold fX12_isLead_14 at hs
  refine go_iconst (v := 0) (by decide) dX12_isLead_14 ?_
  obtain rfl := Option.some.inj hs
  obtain ⟨rfl, rfl⟩ := hk
  exact go_zret (ty := .boolean) rfl rfl dX12_isLead_15
abbrev pX12_isLead_25 (d : Nat) (h : Hp) (x0 : Nat) (rf : Option Value) (hf : Hp) : (Int32 × Int32 × Int32) → Prop := fun s => Go d mX12_isLead 25 [some (.ref x0), none, none, some (.int s.1), some (.int s.2.1), some (.int s.2.2)] [] h rf hf
noncomputable def fX12_isLead_84 (h : Hp) (s0 : Int32) : Option Int32 :=
  bl s0 (some (s0))
theorem oX12_isLead_84 {d : Nat} (hd : 0 ≤ d) {h : Hp} {s0 : Int32} {rf : Option Value} {hf : Hp} {x : Int32} (hs : fX12_isLead_84 h s0 = some x) (hk : (kX12_isLead h rf hf) x) : Go d mX12_isLead 84 [none, none, none, none, none, none] [.int s0] h rf hf := by
  unfold fX12_isLead_84 at hs
  obtain ⟨n1, n2, hs⟩ := bl_at hs
  obtain rfl := Option.some.inj hs
  obtain ⟨rfl, rfl⟩ := hk
  exact go_zret (ty := .boolean) rfl n1 dX12_isLead_84
noncomputable def fX12_isLead_83 (h : Hp)  : Option Int32 :=
  fX12_isLead_84 h (0 : Int32)
theorem oX12_isLead_83 {d : Nat} (hd : 0 ≤ d) {h : Hp} {rf : Option Value} {hf : Hp} {x : Int32} (hs : fX12_isLead_83 h  = some x) (hk : (kX12_isLead h rf hf) x) : Go d mX12_isLead 83 [none, none, none, none, none, none] [] h rf hf := by
  unfold fX12_isLead_83 at hs
  refine go_iconst (v := 0) (by decide) dX12_isLead_83 ?_
  exact go_subL (L' := [none, none, none, none, none, none]) (by simp [subL, va_rf]) (oX12_isLead_84 hd hs hk)
noncomputable def fX12_isLead_79 (h : Hp)  : Option Int32 :=
  fX12_isLead_84 h (1 : Int32)
theorem oX12_isLead_79 {d : Nat} (hd : 0 ≤ d) {h : Hp} {rf : Option Value} {hf : Hp} {x : Int32} (hs : fX12_isLead_79 h  = some x) (hk : (kX12_isLead h rf hf) x) : Go d mX12_isLead 79 [none, none, none, none, none, none] [] h rf hf := by
  unfold fX12_isLead_79 at hs
  refine go_iconst (v := 1) (by decide) dX12_isLead_79 ?_
  refine go_goto (tgt := 84) (by decide) dX12_isLead_80 ?_
  exact go_subL (L' := [none, none, none, none, none, none]) (by simp [subL, va_rf]) (oX12_isLead_84 hd hs hk)
noncomputable def fX12_isLead_55 (h : Hp) (x0 : Nat) (x3 : Int32) (x4 : Int32) : Option Int32 :=
  if x4 = 0 then (
    (gN h 12 x0 1).bind fun v3 =>
    (aI 0 h v3 (1 : Int32)).bind fun v4 =>
    if v4 = 0 then (
    fX12_isLead_79 h ) else (
      (gN h 12 x0 1).bind fun v5 =>
      (aI 0 h v5 (2 : Int32)).bind fun v6 =>
      if x3 = v6 then (
      fX12_isLead_79 h ) else (
      fX12_isLead_83 h ))) else (
  fX12_isLead_83 h )
theorem oX12_isLead_55 {d : Nat} (hd : 0 ≤ d) {h : Hp} {x0 : Nat} {x3 : Int32} {x4 : Int32} {rf : Option Value} {hf : Hp} {x : Int32} (hs : fX12_isLead_55 h x0 x3 x4 = some x) (hk : (kX12_isLead h rf hf) x) : Go d mX12_isLead 55 [some (.ref x0), none, none, some (.int x3), some (.int x4), none] [] h rf hf := by
  unfold fX12_isLead_55 at hs
  refine go_iload rfl dX12_isLead_55 ?_
  refine go_if_ne (tgt := 83) (by decide) dX12_isLead_57 (fun c => ?_) (fun c => ?_)
  · have hs := if_f c hs
    exact go_subL (L' := [none, none, none, none, none, none]) (by simp [subL, va_rf]) (oX12_isLead_83 hd hs hk)
  · have hs := if_t c hs
    refine go_aload_n (k4 := 0) rfl (Or.inr ⟨_, rfl⟩) dX12_isLead_60 ?_
    obtain ⟨v3, ev3, hs⟩ := bindS hs
    refine go_gN fl_RX12_13 ev3 dX12_isLead_61 ?_
    refine go_iconst (v := 1) (by decide) dX12_isLead_64 ?_
    obtain ⟨v4, ev4, hs⟩ := bindS hs
    refine go_aIi ev4 dX12_isLead_65 ?_
    refine go_if_eq (tgt := 79) (by decide) dX12_isLead_66 (fun c => ?_) (fun c => ?_)
    · have hs := if_t c hs
      exact go_subL (L' := [none, none, none, none, none, none]) (by simp [subL, va_rf]) (oX12_isLead_79 hd hs hk)
    · have hs := if_f c hs
      refine go_iload_n (k4 := 3) rfl dX12_isLead_69 ?_
      refine go_aload_n (k4 := 0) rfl (Or.inr ⟨_, rfl⟩) dX12_isLead_70 ?_
      obtain ⟨v5, ev5, hs⟩ := bindS hs
      refine go_gN fl_RX12_13 ev5 dX12_isLead_71 ?_
      refine go_iconst (v := 2) (by decide) dX12_isLead_74 ?_
      obtain ⟨v6, ev6, hs⟩ := bindS hs
      refine go_aIi ev6 dX12_isLead_75 ?_
      refine go_icmp_ne (tgt := 83) (by decide) dX12_isLead_76 (fun c => ?_) (fun c => ?_)
      · have hs := if_f c hs
        exact go_subL (L' := [none, none, none, none, none, none]) (by simp [subL, va_rf]) (oX12_isLead_83 hd hs hk)
      · have hs := if_t c hs
        exact go_subL (L' := [none, none, none, none, none, none]) (by simp [subL, va_rf]) (oX12_isLead_79 hd hs hk)
noncomputable def fX12_isLead_25b (h : Hp) (x0 : Nat) (x3 : Int32) (x4 : Int32) (x5 : Int32) : Option ((Int32 × Int32 × Int32) ⊕ Int32) :=
  (gN h 12 x0 1).bind fun v1 =>
  (aI 0 h v1 (1 : Int32)).bind fun v2 =>
  if v2 ≤ x5 then (
  (fX12_isLead_55 h x0 x3 x4).map (fun q => .inr q)) else (
    (rm x4 (5 : Int32)).bind fun v7 =>
    (dv x4 (5 : Int32)).bind fun v8 =>
    some (.inl ((x3 + v7), v8, (x5 + Int32.ofInt 1))))
noncomputable def fX12_isLead_25 (h : Hp) (x0 : Nat) (x3 : Int32) (x4 : Int32) (x5 : Int32) : Option Int32 := lpw (σ := (Int32 × Int32 × Int32)) (fun s => fX12_isLead_25b h x0 s.1 s.2.1 s.2.2) (x3, x4, x5)
theorem oX12_isLead_25b {d : Nat} (hd : 0 ≤ d) {h : Hp} {x0 : Nat} {x3 : Int32} {x4 : Int32} {x5 : Int32} {rf : Option Value} {hf : Hp} {x : ((Int32 × Int32 × Int32) ⊕ Int32)} (hs : fX12_isLead_25b h x0 x3 x4 x5 = some x) (hk : (Kx (pX12_isLead_25 d h x0 rf hf) (kX12_isLead h rf hf)) x) : Go d mX12_isLead 25 [some (.ref x0), none, none, some (.int x3), some (.int x4), some (.int x5)] [] h rf hf := by
  unfold fX12_isLead_25b at hs
  refine go_iload rfl dX12_isLead_25 ?_
  refine go_aload_n (k4 := 0) rfl (Or.inr ⟨_, rfl⟩) dX12_isLead_27 ?_
  obtain ⟨v1, ev1, hs⟩ := bindS hs
  refine go_gN fl_RX12_13 ev1 dX12_isLead_28 ?_
  refine go_iconst (v := 1) (by decide) dX12_isLead_31 ?_
  obtain ⟨v2, ev2, hs⟩ := bindS hs
  refine go_aIi ev2 dX12_isLead_32 ?_
  refine go_icmp_ge (tgt := 55) (by decide) dX12_isLead_33 (fun c => ?_) (fun c => ?_)
  · have hs := if_t c hs
    obtain ⟨q, hs2, hq⟩ := mapS hs
    clear hs
    subst hq
    exact go_subL (L' := [some (.ref x0), none, none, some (.int x3), some (.int x4), none]) (by simp [subL, va_rf]) (oX12_isLead_55 hd hs2 hk)
  · have hs := if_f c hs
    refine go_iload_n (k4 := 3) rfl dX12_isLead_36 ?_
    refine go_iload rfl dX12_isLead_37 ?_
    refine go_iconst (v := 5) (by decide) dX12_isLead_39 ?_
    obtain ⟨v7, ev7, hs⟩ := bindS hs
    refine go_rm ev7 dX12_isLead_40 ?_
    refine go_iadd dX12_isLead_41 ?_
    refine go_istore_n (k4 := 3) (L' := [some (.ref x0), none, none, some (.int (x3 + v7)), some (.int x4), some (.int x5)]) (by decide) rfl dX12_isLead_42 ?_
    refine go_iload rfl dX12_isLead_43 ?_
    refine go_at 45 rfl ?_
    refine go_iconst (v := 5) (by decide) dX12_isLead_45 ?_
    obtain ⟨v8, ev8, hs⟩ := bindS hs
    refine go_dv ev8 dX12_isLead_46 ?_
    refine go_istore (L' := [some (.ref x0), none, none, some (.int (x3 + v7)), some (.int v8), some (.int x5)]) (by decide) rfl dX12_isLead_47 ?_
    refine go_iinc (L' := [some (.ref x0), none, none, some (.int (x3 + v7)), some (.int v8), some (.int (x5 + Int32.ofInt 1))]) rfl (by decide) rfl rfl dX12_isLead_49 ?_
    refine go_goto (tgt := 25) (by decide) dX12_isLead_52 ?_
    obtain rfl := Option.some.inj hs
    exact go_subL (L' := [some (.ref x0), none, none, some (.int (x3 + v7)), some (.int v8), some (.int (x5 + Int32.ofInt 1))]) (by simp [subL, va_rf]) hk
theorem oX12_isLead_25 {d : Nat} (hd : 0 ≤ d) {h : Hp} {x0 : Nat} {x3 : Int32} {x4 : Int32} {x5 : Int32} {rf : Option Value} {hf : Hp} {x : Int32} (hs : fX12_isLead_25 h x0 x3 x4 x5 = some x) (hk : (kX12_isLead h rf hf) x) : Go d mX12_isLead 25 [some (.ref x0), none, none, some (.int x3), some (.int x4), some (.int x5)] [] h rf hf := by
  unfold fX12_isLead_25 at hs
  exact lpw_go (P := pX12_isLead_25 d h x0 rf hf) (fun s x hs hk => oX12_isLead_25b hd hs hk) (x3, x4, x5) x hs hk
noncomputable def fX12_isLead (h : Hp) (x0 : Nat) (x1 : Int64) : Option Int32 :=
  if (lg_cmp x1 (0 : Int64)) < 0 then (
  fX12_isLead_14 h ) else (
    if (lg_cmp x1 (624 : Int64)) ≤ 0 then (
      fX12_isLead_25 h x0 (0 : Int32) (x1.toInt32) (0 : Int32)) else (
    fX12_isLead_14 h ))
theorem oX12_isLead_0 {d : Nat} (hd : 0 ≤ d) {h : Hp} {x0 : Nat} {x1 : Int64} {rf : Option Value} {hf : Hp} {x : Int32} (hs : fX12_isLead h x0 x1 = some x) (hk : (kX12_isLead h rf hf) x) : Go d mX12_isLead 0 [some (.ref x0), some (.long x1), none, none, none, none] [] h rf hf := by
  unfold fX12_isLead at hs
  refine go_lload_n (k4 := 1) rfl dX12_isLead_0 ?_
  refine go_lconst (v := 0) (by decide) dX12_isLead_1 ?_
  refine go_lcmp dX12_isLead_2 ?_
  refine go_if_lt (tgt := 14) (by decide) dX12_isLead_3 (fun c => ?_) (fun c => ?_)
  · have hs := if_t c hs
    exact go_subL (L' := [none, none, none, none, none, none]) (by simp [subL, va_rf]) (oX12_isLead_14 hd hs hk)
  · have hs := if_f c hs
    refine go_lload_n (k4 := 1) rfl dX12_isLead_6 ?_
    refine go_ldc2 lc_RX12_220 dX12_isLead_7 ?_
    refine go_lcmp dX12_isLead_10 ?_
    refine go_if_le (tgt := 16) (by decide) dX12_isLead_11 (fun c => ?_) (fun c => ?_)
    · have hs := if_t c hs
      refine go_iconst (v := 0) (by decide) dX12_isLead_16 ?_
      refine go_istore_n (k4 := 3) (L' := [some (.ref x0), some (.long x1), none, some (.int (0 : Int32)), none, none]) (by decide) rfl dX12_isLead_17 ?_
      refine go_lload_n (k4 := 1) rfl dX12_isLead_18 ?_
      refine go_l2i dX12_isLead_19 ?_
      refine go_istore (L' := [some (.ref x0), some (.long x1), none, some (.int (0 : Int32)), some (.int (x1.toInt32)), none]) (by decide) rfl dX12_isLead_20 ?_
      refine go_iconst (v := 0) (by decide) dX12_isLead_22 ?_
      refine go_istore (L' := [some (.ref x0), some (.long x1), none, some (.int (0 : Int32)), some (.int (x1.toInt32)), some (.int (0 : Int32))]) (by decide) rfl dX12_isLead_23 ?_
      exact go_subL (L' := [some (.ref x0), none, none, some (.int (0 : Int32)), some (.int (x1.toInt32)), some (.int (0 : Int32))]) (by simp [subL, va_rf]) (oX12_isLead_25 hd hs hk)
    · have hs := if_f c hs
      exact go_subL (L' := [none, none, none, none, none, none]) (by simp [subL, va_rf]) (oX12_isLead_14 hd hs hk)
theorem oX12_isLead {d : Nat} (hd : 0 ≤ d) {h : Hp} {x0 : Nat} {x1 : Int64} {y : Int32} (hs : fX12_isLead h x0 x1 = some y) : Call d mX12_isLead [.ref x0, .long x1] h (some (.int y)) h := call_of (by decide +kernel) (Nat.le_of_ble_eq_true rfl) (show Go d mX12_isLead 0 [some (.ref x0), some (.long x1), none, none, none, none] [] h _ _ from go_subL (by simp [subL]) (oX12_isLead_0 hd hs ⟨rfl, rfl⟩))
abbrev kX12_between (h : Hp) (rf : Option Value) (hf : Hp) : Int32 → Prop := fun y => rf = some (.int y) ∧ hf = h
noncomputable def fX12_between_50 (h : Hp) (s0 : Int32) : Option Int32 :=
  some (s0)
theorem oX12_between_50 {d : Nat} (hd : 0 ≤ d) {h : Hp} {s0 : Int32} {rf : Option Value} {hf : Hp} {x : Int32} (hs : fX12_between_50 h s0 = some x) (hk : (kX12_between h rf hf) x) : Go d mX12_between 50 [none, none, none, none, none] [.int s0] h rf hf := by
  unfold fX12_between_50 at hs
  obtain rfl := Option.some.inj hs
  obtain ⟨rfl, rfl⟩ := hk
  exact go_iret rfl dX12_between_50
noncomputable def fX12_between_61 (h : Hp) (s0 : Int32) : Option Int32 :=
  some (s0)
theorem oX12_between_61 {d : Nat} (hd : 0 ≤ d) {h : Hp} {s0 : Int32} {rf : Option Value} {hf : Hp} {x : Int32} (hs : fX12_between_61 h s0 = some x) (hk : (kX12_between h rf hf) x) : Go d mX12_between 61 [none, none, none, none, none] [.int s0] h rf hf := by
  unfold fX12_between_61 at hs
  obtain rfl := Option.some.inj hs
  obtain ⟨rfl, rfl⟩ := hk
  exact go_iret rfl dX12_between_61
noncomputable def fX12_between_72 (h : Hp) (s0 : Int32) : Option Int32 :=
  some (s0)
theorem oX12_between_72 {d : Nat} (hd : 0 ≤ d) {h : Hp} {s0 : Int32} {rf : Option Value} {hf : Hp} {x : Int32} (hs : fX12_between_72 h s0 = some x) (hk : (kX12_between h rf hf) x) : Go d mX12_between 72 [none, none, none, none, none] [.int s0] h rf hf := by
  unfold fX12_between_72 at hs
  obtain rfl := Option.some.inj hs
  obtain ⟨rfl, rfl⟩ := hk
  exact go_iret rfl dX12_between_72
noncomputable def fX12_between_146 (h : Hp) (s0 : Int64) : Option Int32 :=
  some ((s0.toInt32))
theorem oX12_between_146 {d : Nat} (hd : 0 ≤ d) {h : Hp} {s0 : Int64} {rf : Option Value} {hf : Hp} {x : Int32} (hs : fX12_between_146 h s0 = some x) (hk : (kX12_between h rf hf) x) : Go d mX12_between 146 [none, none, none, none, none] [.long s0] h rf hf := by
  unfold fX12_between_146 at hs
  refine go_l2i dX12_between_146 ?_
  obtain rfl := Option.some.inj hs
  obtain ⟨rfl, rfl⟩ := hk
  exact go_iret rfl dX12_between_147
noncomputable def fX12_between_116 (h : Hp) (s0 : Int64) : Option Int32 :=
  if (lg_cmp s0 (1000000 : Int64)) ≤ 0 then (
    if 0 ≤ (lg_cmp s0 (-1000000 : Int64)) then (
      fX12_between_146 h s0) else (
      fX12_between_146 h (-1000000 : Int64))) else (
    fX12_between_146 h (1000000 : Int64))
theorem oX12_between_116 {d : Nat} (hd : 0 ≤ d) {h : Hp} {s0 : Int64} {rf : Option Value} {hf : Hp} {x : Int32} (hs : fX12_between_116 h s0 = some x) (hk : (kX12_between h rf hf) x) : Go d mX12_between 116 [none, none, none, none, none] [.long s0] h rf hf := by
  unfold fX12_between_116 at hs
  refine go_lstore_n (k4 := 3) (L' := [none, none, none, some (.long s0), none]) (by decide) rfl dX12_between_116 ?_
  refine go_lload_n (k4 := 3) rfl dX12_between_117 ?_
  refine go_ldc2 lc_RX12_222 dX12_between_118 ?_
  refine go_lcmp dX12_between_121 ?_
  refine go_if_le (tgt := 131) (by decide) dX12_between_122 (fun c => ?_) (fun c => ?_)
  · have hs := if_t c hs
    refine go_lload_n (k4 := 3) rfl dX12_between_131 ?_
    refine go_ldc2 lc_RX12_224 dX12_between_132 ?_
    refine go_lcmp dX12_between_135 ?_
    refine go_if_ge (tgt := 145) (by decide) dX12_between_136 (fun c => ?_) (fun c => ?_)
    · have hs := if_t c hs
      refine go_lload_n (k4 := 3) rfl dX12_between_145 ?_
      exact go_subL (L' := [none, none, none, none, none]) (by simp [subL, va_rf]) (oX12_between_146 hd hs hk)
    · have hs := if_f c hs
      refine go_ldc2 lc_RX12_224 dX12_between_139 ?_
      refine go_goto (tgt := 146) (by decide) dX12_between_142 ?_
      exact go_subL (L' := [none, none, none, none, none]) (by simp [subL, va_rf]) (oX12_between_146 hd hs hk)
  · have hs := if_f c hs
    refine go_ldc2 lc_RX12_222 dX12_between_125 ?_
    refine go_goto (tgt := 146) (by decide) dX12_between_128 ?_
    exact go_subL (L' := [none, none, none, none, none]) (by simp [subL, va_rf]) (oX12_between_146 hd hs hk)
noncomputable def fX12_between (h : Hp) (x0 : Int32) (x1 : Int32) (x2 : Int32) : Option Int32 :=
  if x0 = 3003 then (
    if x1 = x2 then (
      fX12_between_50 h (1 : Int32)) else (
      fX12_between_50 h (0 : Int32))) else (
if x0 = 3004 then (
    if x2 ≤ x1 then (
      fX12_between_61 h (0 : Int32)) else (
      fX12_between_61 h (1 : Int32))) else (
if x0 = 3005 then (
    if x1 ≤ x2 then (
      fX12_between_72 h (0 : Int32)) else (
      fX12_between_72 h (1 : Int32))) else (
if x0 = 3006 then (
    if x0 = (3000 : Int32) then (
      fX12_between_116 h ((x1.toInt64) + (x2.toInt64))) else (
      if x0 = (3001 : Int32) then (
        fX12_between_116 h ((x1.toInt64) - (x2.toInt64))) else (
        fX12_between_116 h ((x1.toInt64) * (x2.toInt64))))) else (
if x0 = 3007 then (
    some ((x1 &&& x2))) else (
if x0 = 3008 then (
    some ((x1 ||| x2))) else (
    if x0 = (3000 : Int32) then (
      fX12_between_116 h ((x1.toInt64) + (x2.toInt64))) else (
      if x0 = (3001 : Int32) then (
        fX12_between_116 h ((x1.toInt64) - (x2.toInt64))) else (
        fX12_between_116 h ((x1.toInt64) * (x2.toInt64))))))))))
theorem oX12_between_0 {d : Nat} (hd : 0 ≤ d) {h : Hp} {x0 : Int32} {x1 : Int32} {x2 : Int32} {rf : Option Value} {hf : Hp} {x : Int32} (hs : fX12_between h x0 x1 x2 = some x) (hk : (kX12_between h rf hf) x) : Go d mX12_between 0 [some (.int x0), some (.int x1), some (.int x2), none, none] [] h rf hf := by
  unfold fX12_between at hs
  refine go_iload_n (k4 := 0) rfl dX12_between_0 ?_
  by_cases c3003 : x0 = 3003
  · have hs := if_t c3003 hs
    refine go_tableIn (off := 39) (tgt := 40) (by rw [c3003]; decide) (by rw [c3003]; decide) (by rw [c3003]; rfl) (by decide) dX12_between_1 ?_
    refine go_iload_n (k4 := 1) rfl dX12_between_40 ?_
    refine go_iload_n (k4 := 2) rfl dX12_between_41 ?_
    refine go_icmp_ne (tgt := 49) (by decide) dX12_between_42 (fun c => ?_) (fun c => ?_)
    · have hs := if_f c hs
      refine go_iconst (v := 0) (by decide) dX12_between_49 ?_
      exact go_subL (L' := [none, none, none, none, none]) (by simp [subL, va_rf]) (oX12_between_50 hd hs hk)
    · have hs := if_t c hs
      refine go_iconst (v := 1) (by decide) dX12_between_45 ?_
      refine go_goto (tgt := 50) (by decide) dX12_between_46 ?_
      exact go_subL (L' := [none, none, none, none, none]) (by simp [subL, va_rf]) (oX12_between_50 hd hs hk)
  · have hs := if_f c3003 hs
    by_cases c3004 : x0 = 3004
    · have hs := if_t c3004 hs
      refine go_tableIn (off := 50) (tgt := 51) (by rw [c3004]; decide) (by rw [c3004]; decide) (by rw [c3004]; rfl) (by decide) dX12_between_1 ?_
      refine go_iload_n (k4 := 1) rfl dX12_between_51 ?_
      refine go_iload_n (k4 := 2) rfl dX12_between_52 ?_
      refine go_icmp_ge (tgt := 60) (by decide) dX12_between_53 (fun c => ?_) (fun c => ?_)
      · have hs := if_t c hs
        refine go_iconst (v := 0) (by decide) dX12_between_60 ?_
        exact go_subL (L' := [none, none, none, none, none]) (by simp [subL, va_rf]) (oX12_between_61 hd hs hk)
      · have hs := if_f c hs
        refine go_iconst (v := 1) (by decide) dX12_between_56 ?_
        refine go_goto (tgt := 61) (by decide) dX12_between_57 ?_
        exact go_subL (L' := [none, none, none, none, none]) (by simp [subL, va_rf]) (oX12_between_61 hd hs hk)
    · have hs := if_f c3004 hs
      by_cases c3005 : x0 = 3005
      · have hs := if_t c3005 hs
        refine go_tableIn (off := 61) (tgt := 62) (by rw [c3005]; decide) (by rw [c3005]; decide) (by rw [c3005]; rfl) (by decide) dX12_between_1 ?_
        refine go_iload_n (k4 := 1) rfl dX12_between_62 ?_
        refine go_iload_n (k4 := 2) rfl dX12_between_63 ?_
        refine go_icmp_le (tgt := 71) (by decide) dX12_between_64 (fun c => ?_) (fun c => ?_)
        · have hs := if_t c hs
          refine go_iconst (v := 0) (by decide) dX12_between_71 ?_
          exact go_subL (L' := [none, none, none, none, none]) (by simp [subL, va_rf]) (oX12_between_72 hd hs hk)
        · have hs := if_f c hs
          refine go_iconst (v := 1) (by decide) dX12_between_67 ?_
          refine go_goto (tgt := 72) (by decide) dX12_between_68 ?_
          exact go_subL (L' := [none, none, none, none, none]) (by simp [subL, va_rf]) (oX12_between_72 hd hs hk)
      · have hs := if_f c3005 hs
        by_cases c3006 : x0 = 3006
        · have hs := if_t c3006 hs
          refine go_tableIn (off := 80) (tgt := 81) (by rw [c3006]; decide) (by rw [c3006]; decide) (by rw [c3006]; rfl) (by decide) dX12_between_1 ?_
          refine go_iload_n (k4 := 0) rfl dX12_between_81 ?_
          refine go_sipush (v := 3000) (by decide) dX12_between_82 ?_
          refine go_icmp_ne (tgt := 96) (by decide) dX12_between_85 (fun c => ?_) (fun c => ?_)
          · have hs := if_f c hs
            refine go_iload_n (k4 := 0) rfl dX12_between_96 ?_
            refine go_sipush (v := 3001) (by decide) dX12_between_97 ?_
            refine go_icmp_ne (tgt := 111) (by decide) dX12_between_100 (fun c => ?_) (fun c => ?_)
            · have hs := if_f c hs
              refine go_iload_n (k4 := 1) rfl dX12_between_111 ?_
              refine go_i2l dX12_between_112 ?_
              refine go_iload_n (k4 := 2) rfl dX12_between_113 ?_
              refine go_i2l dX12_between_114 ?_
              refine go_lmul dX12_between_115 ?_
              exact go_subL (L' := [none, none, none, none, none]) (by simp [subL, va_rf]) (oX12_between_116 hd hs hk)
            · have hs := if_t c hs
              refine go_iload_n (k4 := 1) rfl dX12_between_103 ?_
              refine go_i2l dX12_between_104 ?_
              refine go_iload_n (k4 := 2) rfl dX12_between_105 ?_
              refine go_i2l dX12_between_106 ?_
              refine go_lsub dX12_between_107 ?_
              refine go_goto (tgt := 116) (by decide) dX12_between_108 ?_
              exact go_subL (L' := [none, none, none, none, none]) (by simp [subL, va_rf]) (oX12_between_116 hd hs hk)
          · have hs := if_t c hs
            refine go_iload_n (k4 := 1) rfl dX12_between_88 ?_
            refine go_i2l dX12_between_89 ?_
            refine go_iload_n (k4 := 2) rfl dX12_between_90 ?_
            refine go_i2l dX12_between_91 ?_
            refine go_ladd dX12_between_92 ?_
            refine go_goto (tgt := 116) (by decide) dX12_between_93 ?_
            exact go_subL (L' := [none, none, none, none, none]) (by simp [subL, va_rf]) (oX12_between_116 hd hs hk)
        · have hs := if_f c3006 hs
          by_cases c3007 : x0 = 3007
          · have hs := if_t c3007 hs
            refine go_tableIn (off := 72) (tgt := 73) (by rw [c3007]; decide) (by rw [c3007]; decide) (by rw [c3007]; rfl) (by decide) dX12_between_1 ?_
            refine go_iload_n (k4 := 1) rfl dX12_between_73 ?_
            refine go_iload_n (k4 := 2) rfl dX12_between_74 ?_
            refine go_iand dX12_between_75 ?_
            obtain rfl := Option.some.inj hs
            obtain ⟨rfl, rfl⟩ := hk
            exact go_iret rfl dX12_between_76
          · have hs := if_f c3007 hs
            by_cases c3008 : x0 = 3008
            · have hs := if_t c3008 hs
              refine go_tableIn (off := 76) (tgt := 77) (by rw [c3008]; decide) (by rw [c3008]; decide) (by rw [c3008]; rfl) (by decide) dX12_between_1 ?_
              refine go_iload_n (k4 := 1) rfl dX12_between_77 ?_
              refine go_iload_n (k4 := 2) rfl dX12_between_78 ?_
              refine go_ior dX12_between_79 ?_
              obtain rfl := Option.some.inj hs
              obtain ⟨rfl, rfl⟩ := hk
              exact go_iret rfl dX12_between_80
            · have hs := if_f c3008 hs
              refine go_tableOut (tgt := 81) (tab_out (3003) (3008) 5 (by decide) (by decide) (by decide) (fun i hi => by
                match i, hi with
                | 0, _ => rw [show Int32.ofInt ((3003 : Int) + ((0 : Nat) : Int)) = (3003 : Int32) by decide]; exact c3003
                | 1, _ => rw [show Int32.ofInt ((3003 : Int) + ((1 : Nat) : Int)) = (3004 : Int32) by decide]; exact c3004
                | 2, _ => rw [show Int32.ofInt ((3003 : Int) + ((2 : Nat) : Int)) = (3005 : Int32) by decide]; exact c3005
                | 3, _ => rw [show Int32.ofInt ((3003 : Int) + ((3 : Nat) : Int)) = (3006 : Int32) by decide]; exact c3006
                | 4, _ => rw [show Int32.ofInt ((3003 : Int) + ((4 : Nat) : Int)) = (3007 : Int32) by decide]; exact c3007
                | 5, _ => rw [show Int32.ofInt ((3003 : Int) + ((5 : Nat) : Int)) = (3008 : Int32) by decide]; exact c3008
                | k + 6, hi => omega)) (by decide) dX12_between_1 ?_
              refine go_iload_n (k4 := 0) rfl dX12_between_81 ?_
              refine go_sipush (v := 3000) (by decide) dX12_between_82 ?_
              refine go_icmp_ne (tgt := 96) (by decide) dX12_between_85 (fun c => ?_) (fun c => ?_)
              · have hs := if_f c hs
                refine go_iload_n (k4 := 0) rfl dX12_between_96 ?_
                refine go_sipush (v := 3001) (by decide) dX12_between_97 ?_
                refine go_icmp_ne (tgt := 111) (by decide) dX12_between_100 (fun c => ?_) (fun c => ?_)
                · have hs := if_f c hs
                  refine go_iload_n (k4 := 1) rfl dX12_between_111 ?_
                  refine go_i2l dX12_between_112 ?_
                  refine go_iload_n (k4 := 2) rfl dX12_between_113 ?_
                  refine go_i2l dX12_between_114 ?_
                  refine go_lmul dX12_between_115 ?_
                  exact go_subL (L' := [none, none, none, none, none]) (by simp [subL, va_rf]) (oX12_between_116 hd hs hk)
                · have hs := if_t c hs
                  refine go_iload_n (k4 := 1) rfl dX12_between_103 ?_
                  refine go_i2l dX12_between_104 ?_
                  refine go_iload_n (k4 := 2) rfl dX12_between_105 ?_
                  refine go_i2l dX12_between_106 ?_
                  refine go_lsub dX12_between_107 ?_
                  refine go_goto (tgt := 116) (by decide) dX12_between_108 ?_
                  exact go_subL (L' := [none, none, none, none, none]) (by simp [subL, va_rf]) (oX12_between_116 hd hs hk)
              · have hs := if_t c hs
                refine go_iload_n (k4 := 1) rfl dX12_between_88 ?_
                refine go_i2l dX12_between_89 ?_
                refine go_iload_n (k4 := 2) rfl dX12_between_90 ?_
                refine go_i2l dX12_between_91 ?_
                refine go_ladd dX12_between_92 ?_
                refine go_goto (tgt := 116) (by decide) dX12_between_93 ?_
                exact go_subL (L' := [none, none, none, none, none]) (by simp [subL, va_rf]) (oX12_between_116 hd hs hk)
theorem oX12_between {d : Nat} (hd : 0 ≤ d) {h : Hp} {x0 : Int32} {x1 : Int32} {x2 : Int32} {y : Int32} (hs : fX12_between h x0 x1 x2 = some y) : Call d mX12_between [.int x0, .int x1, .int x2] h (some (.int y)) h := call_of (by decide +kernel) (Nat.le_of_ble_eq_true rfl) (show Go d mX12_between 0 [some (.int x0), some (.int x1), some (.int x2), none, none] [] h _ _ from go_subL (by simp [subL]) (oX12_between_0 hd hs ⟨rfl, rfl⟩))
abbrev kX12_reckons (rf : Option Value) (hf : Hp) : (Int32 × Hp) → Prop := fun y => rf = some (.int y.1) ∧ hf = y.2
abbrev pX12_reckons_4 (d : Nat) (x0 : Nat) (x1 : Int32) (rf : Option Value) (hf : Hp) : (Int32 × Int32 × Hp) → Prop := fun s => Go d mX12_reckons 4 [some (.ref x0), some (.int x1), some (.int s.1), some (.int s.2.1), none] [] s.2.2 rf hf
noncomputable def fX12_reckons_193 (h : Hp) (x0 : Nat) (x1 : Int32) (x2 : Int32) (x3 : Int32) : Option ((Int32 × Int32 × Hp) ⊕ (Int32 × Hp)) :=
  some (.inl (x2, (x3 + Int32.ofInt 1), h))
theorem oX12_reckons_193 {d : Nat} (hd : 1 ≤ d) {h : Hp} {x0 : Nat} {x1 : Int32} {x2 : Int32} {x3 : Int32} {rf : Option Value} {hf : Hp} {x : ((Int32 × Int32 × Hp) ⊕ (Int32 × Hp))} (hs : fX12_reckons_193 h x0 x1 x2 x3 = some x) (hk : (Kx (pX12_reckons_4 d x0 x1 rf hf) (kX12_reckons rf hf)) x) : Go d mX12_reckons 193 [some (.ref x0), some (.int x1), some (.int x2), some (.int x3), none] [] h rf hf := by
  unfold fX12_reckons_193 at hs
  refine go_iinc (L' := [some (.ref x0), some (.int x1), some (.int x2), some (.int (x3 + Int32.ofInt 1)), none]) rfl (by decide) rfl rfl dX12_reckons_193 ?_
  refine go_goto (tgt := 4) (by decide) dX12_reckons_196 ?_
  obtain rfl := Option.some.inj hs
  exact go_subL (L' := [some (.ref x0), some (.int x1), some (.int x2), some (.int (x3 + Int32.ofInt 1)), none]) (by simp [subL, va_rf]) hk
noncomputable def fX12_reckons_159 (h : Hp) (x0 : Nat) (x1 : Int32) (x2 : Int32) (x3 : Int32) (s0 : Nat) (s1 : Int32) (s2 : Int32) : Option ((Int32 × Int32 × Hp) ⊕ (Int32 × Hp)) :=
  (wI 0 h s0 s1 s2).bind fun h21 =>
  fX12_reckons_193 h21 x0 x1 x2 x3
theorem oX12_reckons_159 {d : Nat} (hd : 1 ≤ d) {h : Hp} {x0 : Nat} {x1 : Int32} {x2 : Int32} {x3 : Int32} {s0 : Nat} {s1 : Int32} {s2 : Int32} {rf : Option Value} {hf : Hp} {x : ((Int32 × Int32 × Hp) ⊕ (Int32 × Hp))} (hs : fX12_reckons_159 h x0 x1 x2 x3 s0 s1 s2 = some x) (hk : (Kx (pX12_reckons_4 d x0 x1 rf hf) (kX12_reckons rf hf)) x) : Go d mX12_reckons 159 [some (.ref x0), some (.int x1), some (.int x2), some (.int x3), none] [.int s2, .int s1, .ref s0] h rf hf := by
  unfold fX12_reckons_159 at hs
  obtain ⟨h21, eh21, hs⟩ := bindS hs
  refine go_wIi eh21 dX12_reckons_159 ?_
  refine go_goto (tgt := 193) (by decide) dX12_reckons_160 ?_
  exact go_subL (L' := [some (.ref x0), some (.int x1), some (.int x2), some (.int x3), none]) (by simp [subL, va_rf]) (oX12_reckons_193 hd hs hk)
noncomputable def fX12_reckons_76 (h : Hp) (x0 : Nat) (x1 : Int32) (x2 : Int32) (x3 : Int32) (s0 : Nat) (s1 : Int32) (s2 : Int32) : Option ((Int32 × Int32 × Hp) ⊕ (Int32 × Hp)) :=
  (wI 0 h s0 s1 s2).bind fun h31 =>
  fX12_reckons_193 h31 x0 x1 (x2 + Int32.ofInt 1) x3
theorem oX12_reckons_76 {d : Nat} (hd : 1 ≤ d) {h : Hp} {x0 : Nat} {x1 : Int32} {x2 : Int32} {x3 : Int32} {s0 : Nat} {s1 : Int32} {s2 : Int32} {rf : Option Value} {hf : Hp} {x : ((Int32 × Int32 × Hp) ⊕ (Int32 × Hp))} (hs : fX12_reckons_76 h x0 x1 x2 x3 s0 s1 s2 = some x) (hk : (Kx (pX12_reckons_4 d x0 x1 rf hf) (kX12_reckons rf hf)) x) : Go d mX12_reckons 76 [some (.ref x0), some (.int x1), some (.int x2), some (.int x3), none] [.int s2, .int s1, .ref s0] h rf hf := by
  unfold fX12_reckons_76 at hs
  obtain ⟨h31, eh31, hs⟩ := bindS hs
  refine go_wIi eh31 dX12_reckons_76 ?_
  refine go_iinc (L' := [some (.ref x0), some (.int x1), some (.int (x2 + Int32.ofInt 1)), some (.int x3), none]) rfl (by decide) rfl rfl dX12_reckons_77 ?_
  refine go_goto (tgt := 193) (by decide) dX12_reckons_80 ?_
  exact go_subL (L' := [some (.ref x0), some (.int x1), some (.int (x2 + Int32.ofInt 1)), some (.int x3), none]) (by simp [subL, va_rf]) (oX12_reckons_193 hd hs hk)
noncomputable def fX12_reckons_4b (h : Hp) (x0 : Nat) (x1 : Int32) (x2 : Int32) (x3 : Int32) : Option ((Int32 × Int32 × Hp) ⊕ (Int32 × Hp)) :=
  (gN h 12 x0 1).bind fun v1 =>
  (aI 0 h v1 ((9 : Int32) + x1)).bind fun v2 =>
  if v2 ≤ x3 then (
    (gN h 12 x0 16).bind fun v3 =>
    (aI 0 h v3 (0 : Int32)).bind fun v4 =>
    some (.inr (v4, h))) else (
    (gN h 12 x0 1).bind fun v5 =>
    (gN h 12 x0 1).bind fun v6 =>
    (aI 0 h v6 ((7 : Int32) + x1)).bind fun v7 =>
    (aI 0 h v5 (((138 : Int32) + v7) + x3)).bind fun v8 =>
    if (3000 : Int32) ≤ v8 then (
      if v8 = (3006 : Int32) then (
        (gN h 12 x0 16).bind fun v24 =>
        (gN h 12 x0 16).bind fun v25 =>
        (aI 0 h v25 (x2 - (1 : Int32))).bind fun v26 =>
        (wI 0 h v24 (x2 - (1 : Int32)) ((1 : Int32) - v26)).bind fun h27 =>
        fX12_reckons_193 h27 x0 x1 x2 x3) else (
        if v8 = (3009 : Int32) then (
          (gN h 12 x0 16).bind fun v16 =>
          (gN h 12 x0 16).bind fun v17 =>
          (aI 0 h v17 ((x2 + Int32.ofInt (-2)) - (1 : Int32))).bind fun v18 =>
          if v18 = (1 : Int32) then (
            (gN h 12 x0 16).bind fun v22 =>
            (aI 0 h v22 (x2 + Int32.ofInt (-2))).bind fun v23 =>
            fX12_reckons_159 h x0 x1 (x2 + Int32.ofInt (-2)) x3 v16 ((x2 + Int32.ofInt (-2)) - (1 : Int32)) v23) else (
            (gN h 12 x0 16).bind fun v19 =>
            (aI 0 h v19 ((x2 + Int32.ofInt (-2)) + (1 : Int32))).bind fun v20 =>
            fX12_reckons_159 h x0 x1 (x2 + Int32.ofInt (-2)) x3 v16 ((x2 + Int32.ofInt (-2)) - (1 : Int32)) v20)) else (
          (gN h 12 x0 16).bind fun v9 =>
          (gN h 12 x0 16).bind fun v10 =>
          (aI 0 h v10 ((x2 + Int32.ofInt (-1)) - (1 : Int32))).bind fun v11 =>
          (gN h 12 x0 16).bind fun v12 =>
          (aI 0 h v12 (x2 + Int32.ofInt (-1))).bind fun v13 =>
          (fX12_between h v8 v11 v13).bind fun y14 =>
          (wI 0 h v9 ((x2 + Int32.ofInt (-1)) - (1 : Int32)) y14).bind fun h15 =>
          fX12_reckons_193 h15 x0 x1 (x2 + Int32.ofInt (-1)) x3))) else (
      (gN h 12 x0 16).bind fun v28 =>
      if (1000 : Int32) ≤ v8 then (
        (gN h 12 x0 17).bind fun v29 =>
        (aI 0 h v29 (v8 - (1000 : Int32))).bind fun v30 =>
        fX12_reckons_76 h x0 x1 x2 x3 v28 x2 v30) else (
        fX12_reckons_76 h x0 x1 x2 x3 v28 x2 v8)))
noncomputable def fX12_reckons_4 (h : Hp) (x0 : Nat) (x1 : Int32) (x2 : Int32) (x3 : Int32) : Option (Int32 × Hp) := lpw (σ := (Int32 × Int32 × Hp)) (fun s => fX12_reckons_4b s.2.2 x0 x1 s.1 s.2.1) (x2, x3, h)
theorem oX12_reckons_4b {d : Nat} (hd : 1 ≤ d) {h : Hp} {x0 : Nat} {x1 : Int32} {x2 : Int32} {x3 : Int32} {rf : Option Value} {hf : Hp} {x : ((Int32 × Int32 × Hp) ⊕ (Int32 × Hp))} (hs : fX12_reckons_4b h x0 x1 x2 x3 = some x) (hk : (Kx (pX12_reckons_4 d x0 x1 rf hf) (kX12_reckons rf hf)) x) : Go d mX12_reckons 4 [some (.ref x0), some (.int x1), some (.int x2), some (.int x3), none] [] h rf hf := by
  unfold fX12_reckons_4b at hs
  refine go_iload_n (k4 := 3) rfl dX12_reckons_4 ?_
  refine go_aload_n (k4 := 0) rfl (Or.inr ⟨_, rfl⟩) dX12_reckons_5 ?_
  obtain ⟨v1, ev1, hs⟩ := bindS hs
  refine go_gN fl_RX12_13 ev1 dX12_reckons_6 ?_
  refine go_bipush (v := 9) (by decide) dX12_reckons_9 ?_
  refine go_iload_n (k4 := 1) rfl dX12_reckons_11 ?_
  refine go_iadd dX12_reckons_12 ?_
  obtain ⟨v2, ev2, hs⟩ := bindS hs
  refine go_aIi ev2 dX12_reckons_13 ?_
  refine go_at 14 rfl ?_
  refine go_icmp_ge (tgt := 199) (by decide) dX12_reckons_14 (fun c => ?_) (fun c => ?_)
  · have hs := if_t c hs
    refine go_aload_n (k4 := 0) rfl (Or.inr ⟨_, rfl⟩) dX12_reckons_199 ?_
    obtain ⟨v3, ev3, hs⟩ := bindS hs
    refine go_gN fl_RX12_30 ev3 dX12_reckons_200 ?_
    refine go_iconst (v := 0) (by decide) dX12_reckons_203 ?_
    obtain ⟨v4, ev4, hs⟩ := bindS hs
    refine go_aIi ev4 dX12_reckons_204 ?_
    obtain rfl := Option.some.inj hs
    obtain ⟨rfl, rfl⟩ := hk
    exact go_iret rfl dX12_reckons_205
  · have hs := if_f c hs
    refine go_aload_n (k4 := 0) rfl (Or.inr ⟨_, rfl⟩) dX12_reckons_17 ?_
    obtain ⟨v5, ev5, hs⟩ := bindS hs
    refine go_gN fl_RX12_13 ev5 dX12_reckons_18 ?_
    refine go_sipush (v := 138) (by decide) dX12_reckons_21 ?_
    refine go_aload_n (k4 := 0) rfl (Or.inr ⟨_, rfl⟩) dX12_reckons_24 ?_
    obtain ⟨v6, ev6, hs⟩ := bindS hs
    refine go_gN fl_RX12_13 ev6 dX12_reckons_25 ?_
    refine go_bipush (v := 7) (by decide) dX12_reckons_28 ?_
    refine go_iload_n (k4 := 1) rfl dX12_reckons_30 ?_
    refine go_at 31 rfl ?_
    refine go_iadd dX12_reckons_31 ?_
    obtain ⟨v7, ev7, hs⟩ := bindS hs
    refine go_aIi ev7 dX12_reckons_32 ?_
    refine go_iadd dX12_reckons_33 ?_
    refine go_iload_n (k4 := 3) rfl dX12_reckons_34 ?_
    refine go_iadd dX12_reckons_35 ?_
    obtain ⟨v8, ev8, hs⟩ := bindS hs
    refine go_aIi ev8 dX12_reckons_36 ?_
    refine go_istore (L' := [some (.ref x0), some (.int x1), some (.int x2), some (.int x3), some (.int v8)]) (by decide) rfl dX12_reckons_37 ?_
    refine go_iload rfl dX12_reckons_39 ?_
    refine go_at 41 rfl ?_
    refine go_sipush (v := 3000) (by decide) dX12_reckons_41 ?_
    refine go_icmp_ge (tgt := 83) (by decide) dX12_reckons_44 (fun c => ?_) (fun c => ?_)
    · have hs := if_t c hs
      refine go_iload rfl dX12_reckons_83 ?_
      refine go_sipush (v := 3006) (by decide) dX12_reckons_85 ?_
      refine go_icmp_ne (tgt := 112) (by decide) dX12_reckons_88 (fun c => ?_) (fun c => ?_)
      · have hs := if_f c hs
        refine go_iload rfl dX12_reckons_112 ?_
        refine go_sipush (v := 3009) (by decide) dX12_reckons_114 ?_
        refine go_icmp_ne (tgt := 163) (by decide) dX12_reckons_117 (fun c => ?_) (fun c => ?_)
        · have hs := if_f c hs
          refine go_iinc (L' := [some (.ref x0), some (.int x1), some (.int (x2 + Int32.ofInt (-1))), some (.int x3), some (.int v8)]) rfl (by decide) rfl rfl dX12_reckons_163 ?_
          refine go_aload_n (k4 := 0) rfl (Or.inr ⟨_, rfl⟩) dX12_reckons_166 ?_
          obtain ⟨v9, ev9, hs⟩ := bindS hs
          refine go_gN fl_RX12_30 ev9 dX12_reckons_167 ?_
          refine go_iload_n (k4 := 2) rfl dX12_reckons_170 ?_
          refine go_iconst (v := 1) (by decide) dX12_reckons_171 ?_
          refine go_isub dX12_reckons_172 ?_
          refine go_iload rfl dX12_reckons_173 ?_
          refine go_at 175 rfl ?_
          refine go_aload_n (k4 := 0) rfl (Or.inr ⟨_, rfl⟩) dX12_reckons_175 ?_
          obtain ⟨v10, ev10, hs⟩ := bindS hs
          refine go_gN fl_RX12_30 ev10 dX12_reckons_176 ?_
          refine go_iload_n (k4 := 2) rfl dX12_reckons_179 ?_
          refine go_iconst (v := 1) (by decide) dX12_reckons_180 ?_
          refine go_isub dX12_reckons_181 ?_
          obtain ⟨v11, ev11, hs⟩ := bindS hs
          refine go_aIi ev11 dX12_reckons_182 ?_
          refine go_aload_n (k4 := 0) rfl (Or.inr ⟨_, rfl⟩) dX12_reckons_183 ?_
          obtain ⟨v12, ev12, hs⟩ := bindS hs
          refine go_gN fl_RX12_30 ev12 dX12_reckons_184 ?_
          refine go_at 187 rfl ?_
          refine go_iload_n (k4 := 2) rfl dX12_reckons_187 ?_
          obtain ⟨v13, ev13, hs⟩ := bindS hs
          refine go_aIi ev13 dX12_reckons_188 ?_
          obtain ⟨y14, ey14, hs⟩ := bindS hs
          refine go_S1 (As := [.int v8, .int v11, .int v13]) (st := [.int ((x2 + Int32.ofInt (-1)) - (1 : Int32)), .ref v9]) (oX12_between (d := d - 1) (by omega) ey14) (by omega) mb_X12_between lm_RX12_226 ms_X12_between (Nat.le_of_ble_eq_true rfl) rfl dX12_reckons_189 ?_
          obtain ⟨h15, eh15, hs⟩ := bindS hs
          refine go_wIi eh15 dX12_reckons_192 ?_
          exact go_subL (L' := [some (.ref x0), some (.int x1), some (.int (x2 + Int32.ofInt (-1))), some (.int x3), none]) (by simp [subL, va_rf]) (oX12_reckons_193 hd hs hk)
        · have hs := if_t c hs
          refine go_iinc (L' := [some (.ref x0), some (.int x1), some (.int (x2 + Int32.ofInt (-2))), some (.int x3), some (.int v8)]) rfl (by decide) rfl rfl dX12_reckons_120 ?_
          refine go_aload_n (k4 := 0) rfl (Or.inr ⟨_, rfl⟩) dX12_reckons_123 ?_
          obtain ⟨v16, ev16, hs⟩ := bindS hs
          refine go_gN fl_RX12_30 ev16 dX12_reckons_124 ?_
          refine go_iload_n (k4 := 2) rfl dX12_reckons_127 ?_
          refine go_iconst (v := 1) (by decide) dX12_reckons_128 ?_
          refine go_isub dX12_reckons_129 ?_
          refine go_aload_n (k4 := 0) rfl (Or.inr ⟨_, rfl⟩) dX12_reckons_130 ?_
          refine go_at 131 rfl ?_
          obtain ⟨v17, ev17, hs⟩ := bindS hs
          refine go_gN fl_RX12_30 ev17 dX12_reckons_131 ?_
          refine go_iload_n (k4 := 2) rfl dX12_reckons_134 ?_
          refine go_iconst (v := 1) (by decide) dX12_reckons_135 ?_
          refine go_isub dX12_reckons_136 ?_
          obtain ⟨v18, ev18, hs⟩ := bindS hs
          refine go_aIi ev18 dX12_reckons_137 ?_
          refine go_iconst (v := 1) (by decide) dX12_reckons_138 ?_
          refine go_icmp_ne (tgt := 151) (by decide) dX12_reckons_139 (fun c => ?_) (fun c => ?_)
          · have hs := if_f c hs
            refine go_aload_n (k4 := 0) rfl (Or.inr ⟨_, rfl⟩) dX12_reckons_151 ?_
            obtain ⟨v19, ev19, hs⟩ := bindS hs
            refine go_gN fl_RX12_30 ev19 dX12_reckons_152 ?_
            refine go_iload_n (k4 := 2) rfl dX12_reckons_155 ?_
            refine go_iconst (v := 1) (by decide) dX12_reckons_156 ?_
            refine go_iadd dX12_reckons_157 ?_
            obtain ⟨v20, ev20, hs⟩ := bindS hs
            refine go_aIi ev20 dX12_reckons_158 ?_
            exact go_subL (L' := [some (.ref x0), some (.int x1), some (.int (x2 + Int32.ofInt (-2))), some (.int x3), none]) (by simp [subL, va_rf]) (oX12_reckons_159 hd hs hk)
          · have hs := if_t c hs
            refine go_aload_n (k4 := 0) rfl (Or.inr ⟨_, rfl⟩) dX12_reckons_142 ?_
            obtain ⟨v22, ev22, hs⟩ := bindS hs
            refine go_gN fl_RX12_30 ev22 dX12_reckons_143 ?_
            refine go_iload_n (k4 := 2) rfl dX12_reckons_146 ?_
            obtain ⟨v23, ev23, hs⟩ := bindS hs
            refine go_aIi ev23 dX12_reckons_147 ?_
            refine go_goto (tgt := 159) (by decide) dX12_reckons_148 ?_
            exact go_subL (L' := [some (.ref x0), some (.int x1), some (.int (x2 + Int32.ofInt (-2))), some (.int x3), none]) (by simp [subL, va_rf]) (oX12_reckons_159 hd hs hk)
      · have hs := if_t c hs
        refine go_aload_n (k4 := 0) rfl (Or.inr ⟨_, rfl⟩) dX12_reckons_91 ?_
        obtain ⟨v24, ev24, hs⟩ := bindS hs
        refine go_gN fl_RX12_30 ev24 dX12_reckons_92 ?_
        refine go_iload_n (k4 := 2) rfl dX12_reckons_95 ?_
        refine go_iconst (v := 1) (by decide) dX12_reckons_96 ?_
        refine go_isub dX12_reckons_97 ?_
        refine go_iconst (v := 1) (by decide) dX12_reckons_98 ?_
        refine go_aload_n (k4 := 0) rfl (Or.inr ⟨_, rfl⟩) dX12_reckons_99 ?_
        refine go_at 100 rfl ?_
        obtain ⟨v25, ev25, hs⟩ := bindS hs
        refine go_gN fl_RX12_30 ev25 dX12_reckons_100 ?_
        refine go_iload_n (k4 := 2) rfl dX12_reckons_103 ?_
        refine go_iconst (v := 1) (by decide) dX12_reckons_104 ?_
        refine go_isub dX12_reckons_105 ?_
        obtain ⟨v26, ev26, hs⟩ := bindS hs
        refine go_aIi ev26 dX12_reckons_106 ?_
        refine go_isub dX12_reckons_107 ?_
        obtain ⟨h27, eh27, hs⟩ := bindS hs
        refine go_wIi eh27 dX12_reckons_108 ?_
        refine go_goto (tgt := 193) (by decide) dX12_reckons_109 ?_
        exact go_subL (L' := [some (.ref x0), some (.int x1), some (.int x2), some (.int x3), none]) (by simp [subL, va_rf]) (oX12_reckons_193 hd hs hk)
    · have hs := if_f c hs
      refine go_aload_n (k4 := 0) rfl (Or.inr ⟨_, rfl⟩) dX12_reckons_47 ?_
      obtain ⟨v28, ev28, hs⟩ := bindS hs
      refine go_gN fl_RX12_30 ev28 dX12_reckons_48 ?_
      refine go_iload_n (k4 := 2) rfl dX12_reckons_51 ?_
      refine go_iload rfl dX12_reckons_52 ?_
      refine go_sipush (v := 1000) (by decide) dX12_reckons_54 ?_
      refine go_icmp_ge (tgt := 65) (by decide) dX12_reckons_57 (fun c => ?_) (fun c => ?_)
      · have hs := if_t c hs
        refine go_aload_n (k4 := 0) rfl (Or.inr ⟨_, rfl⟩) dX12_reckons_65 ?_
        obtain ⟨v29, ev29, hs⟩ := bindS hs
        refine go_gN fl_RX12_33 ev29 dX12_reckons_66 ?_
        refine go_iload rfl dX12_reckons_69 ?_
        refine go_sipush (v := 1000) (by decide) dX12_reckons_71 ?_
        refine go_isub dX12_reckons_74 ?_
        obtain ⟨v30, ev30, hs⟩ := bindS hs
        refine go_aIi ev30 dX12_reckons_75 ?_
        exact go_subL (L' := [some (.ref x0), some (.int x1), some (.int x2), some (.int x3), none]) (by simp [subL, va_rf]) (oX12_reckons_76 hd hs hk)
      · have hs := if_f c hs
        refine go_iload rfl dX12_reckons_60 ?_
        refine go_goto (tgt := 76) (by decide) dX12_reckons_62 ?_
        exact go_subL (L' := [some (.ref x0), some (.int x1), some (.int x2), some (.int x3), none]) (by simp [subL, va_rf]) (oX12_reckons_76 hd hs hk)
theorem oX12_reckons_4 {d : Nat} (hd : 1 ≤ d) {h : Hp} {x0 : Nat} {x1 : Int32} {x2 : Int32} {x3 : Int32} {rf : Option Value} {hf : Hp} {x : (Int32 × Hp)} (hs : fX12_reckons_4 h x0 x1 x2 x3 = some x) (hk : (kX12_reckons rf hf) x) : Go d mX12_reckons 4 [some (.ref x0), some (.int x1), some (.int x2), some (.int x3), none] [] h rf hf := by
  unfold fX12_reckons_4 at hs
  exact lpw_go (P := pX12_reckons_4 d x0 x1 rf hf) (fun s x hs hk => oX12_reckons_4b hd hs hk) (x2, x3, h) x hs hk
noncomputable def fX12_reckons (h : Hp) (x0 : Nat) (x1 : Int32) : Option (Int32 × Hp) :=
  fX12_reckons_4 h x0 x1 (0 : Int32) (0 : Int32)
theorem oX12_reckons_0 {d : Nat} (hd : 1 ≤ d) {h : Hp} {x0 : Nat} {x1 : Int32} {rf : Option Value} {hf : Hp} {x : (Int32 × Hp)} (hs : fX12_reckons h x0 x1 = some x) (hk : (kX12_reckons rf hf) x) : Go d mX12_reckons 0 [some (.ref x0), some (.int x1), none, none, none] [] h rf hf := by
  unfold fX12_reckons at hs
  refine go_iconst (v := 0) (by decide) dX12_reckons_0 ?_
  refine go_istore_n (k4 := 2) (L' := [some (.ref x0), some (.int x1), some (.int (0 : Int32)), none, none]) (by decide) rfl dX12_reckons_1 ?_
  refine go_iconst (v := 0) (by decide) dX12_reckons_2 ?_
  refine go_istore_n (k4 := 3) (L' := [some (.ref x0), some (.int x1), some (.int (0 : Int32)), some (.int (0 : Int32)), none]) (by decide) rfl dX12_reckons_3 ?_
  exact go_subL (L' := [some (.ref x0), some (.int x1), some (.int (0 : Int32)), some (.int (0 : Int32)), none]) (by simp [subL, va_rf]) (oX12_reckons_4 hd hs hk)
theorem oX12_reckons {d : Nat} (hd : 1 ≤ d) {h : Hp} {x0 : Nat} {x1 : Int32} {y : (Int32 × Hp)} (hs : fX12_reckons h x0 x1 = some y) : Call d mX12_reckons [.ref x0, .int x1] h (some (.int y.1)) (y.2) := call_of (by decide +kernel) (Nat.le_of_ble_eq_true rfl) (show Go d mX12_reckons 0 [some (.ref x0), some (.int x1), none, none, none] [] h _ _ from go_subL (by simp [subL]) (oX12_reckons_0 hd hs ⟨rfl, rfl⟩))
abbrev kX12_growsBy (rf : Option Value) (hf : Hp) : (Int32 × Hp) → Prop := fun y => rf = some (.int y.1) ∧ hf = y.2
noncomputable def fX12_growsBy_99 (h : Hp) (s0 : Int32) : Option (Int32 × Hp) :=
  some ((s0, h))
theorem oX12_growsBy_99 {d : Nat} (hd : 2 ≤ d) {h : Hp} {s0 : Int32} {rf : Option Value} {hf : Hp} {x : (Int32 × Hp)} (hs : fX12_growsBy_99 h s0 = some x) (hk : (kX12_growsBy rf hf) x) : Go d mX12_growsBy 99 [none, none, none, none, none, none, none, none] [.int s0] h rf hf := by
  unfold fX12_growsBy_99 at hs
  obtain rfl := Option.some.inj hs
  obtain ⟨rfl, rfl⟩ := hk
  exact go_iret rfl dX12_growsBy_99
noncomputable def fX12_growsBy_20 (h : Hp) (s0 : Int32) : Option (Int32 × Hp) :=
  some ((s0, h))
theorem oX12_growsBy_20 {d : Nat} (hd : 2 ≤ d) {h : Hp} {s0 : Int32} {rf : Option Value} {hf : Hp} {x : (Int32 × Hp)} (hs : fX12_growsBy_20 h s0 = some x) (hk : (kX12_growsBy rf hf) x) : Go d mX12_growsBy 20 [none, none, none, none, none, none, none, none] [.int s0] h rf hf := by
  unfold fX12_growsBy_20 at hs
  obtain rfl := Option.some.inj hs
  obtain ⟨rfl, rfl⟩ := hk
  exact go_iret rfl dX12_growsBy_20
noncomputable def fX12_growsBy (h : Hp) (x0 : Nat) (x1 : Int32) (x2 : Int32) (x3 : Int32) (x4 : Int32) (x5 : Int32) (x6 : Int32) : Option (Int32 × Hp) :=
  (gN h 12 x0 1).bind fun v1 =>
  (aI 0 h v1 (5 : Int32)).bind fun v2 =>
  if v2 = 0 then (
    if x6 = (1 : Int32) then (
      fX12_growsBy_20 h (0 : Int32)) else (
      fX12_growsBy_20 h x3)) else (
    (gN h 12 x0 17).bind fun v3 =>
    (wI 0 h v3 (0 : Int32) x5).bind fun h4 =>
    (gN h4 12 x0 17).bind fun v5 =>
    (wI 0 h4 v5 (1 : Int32) x6).bind fun h6 =>
    (gN h6 12 x0 17).bind fun v7 =>
    (wI 0 h6 v7 (2 : Int32) x1).bind fun h8 =>
    (gN h8 12 x0 17).bind fun v9 =>
    (wI 0 h8 v9 (3 : Int32) x2).bind fun h10 =>
    (gN h10 12 x0 17).bind fun v11 =>
    (wI 0 h10 v11 (4 : Int32) x3).bind fun h12 =>
    (gN h12 12 x0 17).bind fun v13 =>
    (wI 0 h12 v13 (5 : Int32) x4).bind fun h14 =>
    gO h14 12 x0 (
    (fX12_reckons h14 x0 (0 : Int32)).bind fun y15 =>
    if (-9 : Int32) ≤ y15.1 then (
      if y15.1 ≤ (9 : Int32) then (
        fX12_growsBy_99 y15.2 y15.1) else (
        fX12_growsBy_99 y15.2 (9 : Int32))) else (
      fX12_growsBy_99 y15.2 (-9 : Int32))))
theorem oX12_growsBy_0 {d : Nat} (hd : 2 ≤ d) {h : Hp} {x0 : Nat} {x1 : Int32} {x2 : Int32} {x3 : Int32} {x4 : Int32} {x5 : Int32} {x6 : Int32} {rf : Option Value} {hf : Hp} {x : (Int32 × Hp)} (hs : fX12_growsBy h x0 x1 x2 x3 x4 x5 x6 = some x) (hk : (kX12_growsBy rf hf) x) : Go d mX12_growsBy 0 [some (.ref x0), some (.int x1), some (.int x2), some (.int x3), some (.int x4), some (.int x5), some (.int x6), none] [] h rf hf := by
  unfold fX12_growsBy at hs
  refine go_aload_n (k4 := 0) rfl (Or.inr ⟨_, rfl⟩) dX12_growsBy_0 ?_
  obtain ⟨v1, ev1, hs⟩ := bindS hs
  refine go_gN fl_RX12_13 ev1 dX12_growsBy_1 ?_
  refine go_iconst (v := 5) (by decide) dX12_growsBy_4 ?_
  obtain ⟨v2, ev2, hs⟩ := bindS hs
  refine go_aIi ev2 dX12_growsBy_5 ?_
  refine go_if_ne (tgt := 21) (by decide) dX12_growsBy_6 (fun c => ?_) (fun c => ?_)
  · have hs := if_f c hs
    refine go_aload_n (k4 := 0) rfl (Or.inr ⟨_, rfl⟩) dX12_growsBy_21 ?_
    obtain ⟨v3, ev3, hs⟩ := bindS hs
    refine go_gN fl_RX12_33 ev3 dX12_growsBy_22 ?_
    refine go_iconst (v := 0) (by decide) dX12_growsBy_25 ?_
    refine go_iload rfl dX12_growsBy_26 ?_
    obtain ⟨h4, eh4, hs⟩ := bindS hs
    refine go_wIi eh4 dX12_growsBy_28 ?_
    refine go_aload_n (k4 := 0) rfl (Or.inr ⟨_, rfl⟩) dX12_growsBy_29 ?_
    obtain ⟨v5, ev5, hs⟩ := bindS hs
    refine go_gN fl_RX12_33 ev5 dX12_growsBy_30 ?_
    refine go_at 33 rfl ?_
    refine go_iconst (v := 1) (by decide) dX12_growsBy_33 ?_
    refine go_iload rfl dX12_growsBy_34 ?_
    obtain ⟨h6, eh6, hs⟩ := bindS hs
    refine go_wIi eh6 dX12_growsBy_36 ?_
    refine go_aload_n (k4 := 0) rfl (Or.inr ⟨_, rfl⟩) dX12_growsBy_37 ?_
    obtain ⟨v7, ev7, hs⟩ := bindS hs
    refine go_gN fl_RX12_33 ev7 dX12_growsBy_38 ?_
    refine go_iconst (v := 2) (by decide) dX12_growsBy_41 ?_
    refine go_iload_n (k4 := 1) rfl dX12_growsBy_42 ?_
    obtain ⟨h8, eh8, hs⟩ := bindS hs
    refine go_wIi eh8 dX12_growsBy_43 ?_
    refine go_at 44 rfl ?_
    refine go_aload_n (k4 := 0) rfl (Or.inr ⟨_, rfl⟩) dX12_growsBy_44 ?_
    obtain ⟨v9, ev9, hs⟩ := bindS hs
    refine go_gN fl_RX12_33 ev9 dX12_growsBy_45 ?_
    refine go_iconst (v := 3) (by decide) dX12_growsBy_48 ?_
    refine go_iload_n (k4 := 2) rfl dX12_growsBy_49 ?_
    obtain ⟨h10, eh10, hs⟩ := bindS hs
    refine go_wIi eh10 dX12_growsBy_50 ?_
    refine go_aload_n (k4 := 0) rfl (Or.inr ⟨_, rfl⟩) dX12_growsBy_51 ?_
    obtain ⟨v11, ev11, hs⟩ := bindS hs
    refine go_gN fl_RX12_33 ev11 dX12_growsBy_52 ?_
    refine go_iconst (v := 4) (by decide) dX12_growsBy_55 ?_
    refine go_at 56 rfl ?_
    refine go_iload_n (k4 := 3) rfl dX12_growsBy_56 ?_
    obtain ⟨h12, eh12, hs⟩ := bindS hs
    refine go_wIi eh12 dX12_growsBy_57 ?_
    refine go_aload_n (k4 := 0) rfl (Or.inr ⟨_, rfl⟩) dX12_growsBy_58 ?_
    obtain ⟨v13, ev13, hs⟩ := bindS hs
    refine go_gN fl_RX12_33 ev13 dX12_growsBy_59 ?_
    refine go_iconst (v := 5) (by decide) dX12_growsBy_62 ?_
    refine go_iload rfl dX12_growsBy_63 ?_
    obtain ⟨h14, eh14, hs⟩ := bindS hs
    refine go_wIi eh14 dX12_growsBy_65 ?_
    refine go_aload_n (k4 := 0) rfl (Or.inr ⟨_, rfl⟩) dX12_growsBy_66 ?_
    refine go_at 67 rfl ?_
    refine go_iconst (v := 0) (by decide) dX12_growsBy_67 ?_
    obtain ⟨g16, hs⟩ := gO_at hs
    obtain ⟨y15, ey15, hs⟩ := bindS hs
    refine go_V1 (As := [.int (0 : Int32)]) (st := []) g16 rfl rfl (oX12_reckons (d := d - 1) (by omega) ey15) (by omega) mb_X12_reckons lm_RX12_230 mi_X12_reckons (Nat.le_of_ble_eq_true rfl) rfl dX12_growsBy_68 ?_
    refine go_istore (L' := [some (.ref x0), some (.int x1), some (.int x2), some (.int x3), some (.int x4), some (.int x5), some (.int x6), some (.int y15.1)]) (by decide) rfl dX12_growsBy_71 ?_
    refine go_iload rfl dX12_growsBy_73 ?_
    refine go_bipush (v := -9) (by decide) dX12_growsBy_75 ?_
    refine go_icmp_ge (tgt := 85) (by decide) dX12_growsBy_77 (fun c => ?_) (fun c => ?_)
    · have hs := if_t c hs
      refine go_iload rfl dX12_growsBy_85 ?_
      refine go_bipush (v := 9) (by decide) dX12_growsBy_87 ?_
      refine go_icmp_le (tgt := 97) (by decide) dX12_growsBy_89 (fun c => ?_) (fun c => ?_)
      · have hs := if_t c hs
        refine go_iload rfl dX12_growsBy_97 ?_
        exact go_subL (L' := [none, none, none, none, none, none, none, none]) (by simp [subL, va_rf]) (oX12_growsBy_99 hd hs hk)
      · have hs := if_f c hs
        refine go_bipush (v := 9) (by decide) dX12_growsBy_92 ?_
        refine go_goto (tgt := 99) (by decide) dX12_growsBy_94 ?_
        exact go_subL (L' := [none, none, none, none, none, none, none, none]) (by simp [subL, va_rf]) (oX12_growsBy_99 hd hs hk)
    · have hs := if_f c hs
      refine go_bipush (v := -9) (by decide) dX12_growsBy_80 ?_
      refine go_goto (tgt := 99) (by decide) dX12_growsBy_82 ?_
      exact go_subL (L' := [none, none, none, none, none, none, none, none]) (by simp [subL, va_rf]) (oX12_growsBy_99 hd hs hk)
  · have hs := if_t c hs
    refine go_iload rfl dX12_growsBy_9 ?_
    refine go_iconst (v := 1) (by decide) dX12_growsBy_11 ?_
    refine go_icmp_ne (tgt := 19) (by decide) dX12_growsBy_12 (fun c => ?_) (fun c => ?_)
    · have hs := if_f c hs
      refine go_iload_n (k4 := 3) rfl dX12_growsBy_19 ?_
      exact go_subL (L' := [none, none, none, none, none, none, none, none]) (by simp [subL, va_rf]) (oX12_growsBy_20 hd hs hk)
    · have hs := if_t c hs
      refine go_iconst (v := 0) (by decide) dX12_growsBy_15 ?_
      refine go_goto (tgt := 20) (by decide) dX12_growsBy_16 ?_
      exact go_subL (L' := [none, none, none, none, none, none, none, none]) (by simp [subL, va_rf]) (oX12_growsBy_20 hd hs hk)
theorem oX12_growsBy {d : Nat} (hd : 2 ≤ d) {h : Hp} {x0 : Nat} {x1 : Int32} {x2 : Int32} {x3 : Int32} {x4 : Int32} {x5 : Int32} {x6 : Int32} {y : (Int32 × Hp)} (hs : fX12_growsBy h x0 x1 x2 x3 x4 x5 x6 = some y) : Call d mX12_growsBy [.ref x0, .int x1, .int x2, .int x3, .int x4, .int x5, .int x6] h (some (.int y.1)) (y.2) := call_of (by decide +kernel) (Nat.le_of_ble_eq_true rfl) (show Go d mX12_growsBy 0 [some (.ref x0), some (.int x1), some (.int x2), some (.int x3), some (.int x4), some (.int x5), some (.int x6), none] [] h _ _ from go_subL (by simp [subL]) (oX12_growsBy_0 hd hs ⟨rfl, rfl⟩))
abbrev kX12_fallsBy (rf : Option Value) (hf : Hp) : (Int32 × Hp) → Prop := fun y => rf = some (.int y.1) ∧ hf = y.2
noncomputable def fX12_fallsBy_71 (h : Hp) (s0 : Int32) : Option (Int32 × Hp) :=
  bl s0 (some ((s0, h)))
theorem oX12_fallsBy_71 {d : Nat} (hd : 2 ≤ d) {h : Hp} {s0 : Int32} {rf : Option Value} {hf : Hp} {x : (Int32 × Hp)} (hs : fX12_fallsBy_71 h s0 = some x) (hk : (kX12_fallsBy rf hf) x) : Go d mX12_fallsBy 71 [none, none, none] [.int s0] h rf hf := by
  unfold fX12_fallsBy_71 at hs
  obtain ⟨n1, n2, hs⟩ := bl_at hs
  obtain rfl := Option.some.inj hs
  obtain ⟨rfl, rfl⟩ := hk
  exact go_zret (ty := .boolean) rfl n1 dX12_fallsBy_71
noncomputable def fX12_fallsBy (h : Hp) (x0 : Nat) (x1 : Int32) (x2 : Int32) : Option (Int32 × Hp) :=
  (gN h 12 x0 1).bind fun v1 =>
  (aI 0 h v1 (6 : Int32)).bind fun v2 =>
  if v2 = 0 then (
    some (((0 : Int32), h))) else (
    (gN h 12 x0 17).bind fun v3 =>
    gO h 12 x0 (
    (fX12_metIn h x0 x1).bind fun y4 =>
    (fX12_bitsOf h y4).bind fun y6 =>
    (wI 0 h v3 (0 : Int32) y6).bind fun h7 =>
    (gN h7 12 x0 17).bind fun v8 =>
    (wI 0 h7 v8 (1 : Int32) x2).bind fun h9 =>
    (gN h9 12 x0 17).bind fun v10 =>
    gO h9 12 x0 (
    (fX12_gapsIn h9 x0 x1).bind fun y11 =>
    (wI 0 h9 v10 (6 : Int32) y11).bind fun h13 =>
    (gN h13 12 x0 17).bind fun v14 =>
    gO h13 12 x0 (
    (fX12_widestIn h13 x0 x1).bind fun y15 =>
    (wI 0 h13 v14 (7 : Int32) y15).bind fun h17 =>
    gO h17 12 x0 (
    (fX12_reckons h17 x0 (1 : Int32)).bind fun y18 =>
    if y18.1 = (1 : Int32) then (
      fX12_fallsBy_71 y18.2 (1 : Int32)) else (
      fX12_fallsBy_71 y18.2 (0 : Int32)))))))
theorem oX12_fallsBy_0 {d : Nat} (hd : 2 ≤ d) {h : Hp} {x0 : Nat} {x1 : Int32} {x2 : Int32} {rf : Option Value} {hf : Hp} {x : (Int32 × Hp)} (hs : fX12_fallsBy h x0 x1 x2 = some x) (hk : (kX12_fallsBy rf hf) x) : Go d mX12_fallsBy 0 [some (.ref x0), some (.int x1), some (.int x2)] [] h rf hf := by
  unfold fX12_fallsBy at hs
  refine go_aload_n (k4 := 0) rfl (Or.inr ⟨_, rfl⟩) dX12_fallsBy_0 ?_
  obtain ⟨v1, ev1, hs⟩ := bindS hs
  refine go_gN fl_RX12_13 ev1 dX12_fallsBy_1 ?_
  refine go_bipush (v := 6) (by decide) dX12_fallsBy_4 ?_
  obtain ⟨v2, ev2, hs⟩ := bindS hs
  refine go_aIi ev2 dX12_fallsBy_6 ?_
  refine go_if_ne (tgt := 12) (by decide) dX12_fallsBy_7 (fun c => ?_) (fun c => ?_)
  · have hs := if_f c hs
    refine go_aload_n (k4 := 0) rfl (Or.inr ⟨_, rfl⟩) dX12_fallsBy_12 ?_
    obtain ⟨v3, ev3, hs⟩ := bindS hs
    refine go_gN fl_RX12_33 ev3 dX12_fallsBy_13 ?_
    refine go_iconst (v := 0) (by decide) dX12_fallsBy_16 ?_
    refine go_aload_n (k4 := 0) rfl (Or.inr ⟨_, rfl⟩) dX12_fallsBy_17 ?_
    refine go_iload_n (k4 := 1) rfl dX12_fallsBy_18 ?_
    obtain ⟨g5, hs⟩ := gO_at hs
    obtain ⟨y4, ey4, hs⟩ := bindS hs
    refine go_V1 (As := [.int x1]) (st := [.int (0 : Int32), .ref v3]) g5 rfl rfl (oX12_metIn (d := d - 1) (by omega) ey4) (by omega) mb_X12_metIn lm_RX12_233 mi_X12_metIn (Nat.le_of_ble_eq_true rfl) rfl dX12_fallsBy_19 ?_
    obtain ⟨y6, ey6, hs⟩ := bindS hs
    refine go_S1 (As := [.int y4]) (st := [.int (0 : Int32), .ref v3]) (oX12_bitsOf (d := d - 1) (by omega) ey6) (by omega) mb_X12_bitsOf lm_RX12_236 ms_X12_bitsOf (Nat.le_of_ble_eq_true rfl) rfl dX12_fallsBy_22 ?_
    refine go_at 25 rfl ?_
    obtain ⟨h7, eh7, hs⟩ := bindS hs
    refine go_wIi eh7 dX12_fallsBy_25 ?_
    refine go_aload_n (k4 := 0) rfl (Or.inr ⟨_, rfl⟩) dX12_fallsBy_26 ?_
    obtain ⟨v8, ev8, hs⟩ := bindS hs
    refine go_gN fl_RX12_33 ev8 dX12_fallsBy_27 ?_
    refine go_iconst (v := 1) (by decide) dX12_fallsBy_30 ?_
    refine go_iload_n (k4 := 2) rfl dX12_fallsBy_31 ?_
    obtain ⟨h9, eh9, hs⟩ := bindS hs
    refine go_wIi eh9 dX12_fallsBy_32 ?_
    refine go_aload_n (k4 := 0) rfl (Or.inr ⟨_, rfl⟩) dX12_fallsBy_33 ?_
    obtain ⟨v10, ev10, hs⟩ := bindS hs
    refine go_gN fl_RX12_33 ev10 dX12_fallsBy_34 ?_
    refine go_at 37 rfl ?_
    refine go_bipush (v := 6) (by decide) dX12_fallsBy_37 ?_
    refine go_aload_n (k4 := 0) rfl (Or.inr ⟨_, rfl⟩) dX12_fallsBy_39 ?_
    refine go_iload_n (k4 := 1) rfl dX12_fallsBy_40 ?_
    obtain ⟨g12, hs⟩ := gO_at hs
    obtain ⟨y11, ey11, hs⟩ := bindS hs
    refine go_V1 (As := [.int x1]) (st := [.int (6 : Int32), .ref v10]) g12 rfl rfl (oX12_gapsIn (d := d - 1) (by omega) ey11) (by omega) mb_X12_gapsIn lm_RX12_239 mi_X12_gapsIn (Nat.le_of_ble_eq_true rfl) rfl dX12_fallsBy_41 ?_
    obtain ⟨h13, eh13, hs⟩ := bindS hs
    refine go_wIi eh13 dX12_fallsBy_44 ?_
    refine go_aload_n (k4 := 0) rfl (Or.inr ⟨_, rfl⟩) dX12_fallsBy_45 ?_
    obtain ⟨v14, ev14, hs⟩ := bindS hs
    refine go_gN fl_RX12_33 ev14 dX12_fallsBy_46 ?_
    refine go_bipush (v := 7) (by decide) dX12_fallsBy_49 ?_
    refine go_at 51 rfl ?_
    refine go_aload_n (k4 := 0) rfl (Or.inr ⟨_, rfl⟩) dX12_fallsBy_51 ?_
    refine go_iload_n (k4 := 1) rfl dX12_fallsBy_52 ?_
    obtain ⟨g16, hs⟩ := gO_at hs
    obtain ⟨y15, ey15, hs⟩ := bindS hs
    refine go_V1 (As := [.int x1]) (st := [.int (7 : Int32), .ref v14]) g16 rfl rfl (oX12_widestIn (d := d - 1) (by omega) ey15) (by omega) mb_X12_widestIn lm_RX12_242 mi_X12_widestIn (Nat.le_of_ble_eq_true rfl) rfl dX12_fallsBy_53 ?_
    obtain ⟨h17, eh17, hs⟩ := bindS hs
    refine go_wIi eh17 dX12_fallsBy_56 ?_
    refine go_aload_n (k4 := 0) rfl (Or.inr ⟨_, rfl⟩) dX12_fallsBy_57 ?_
    refine go_iconst (v := 1) (by decide) dX12_fallsBy_58 ?_
    obtain ⟨g19, hs⟩ := gO_at hs
    obtain ⟨y18, ey18, hs⟩ := bindS hs
    refine go_V1 (As := [.int (1 : Int32)]) (st := []) g19 rfl rfl (oX12_reckons (d := d - 1) (by omega) ey18) (by omega) mb_X12_reckons lm_RX12_230 mi_X12_reckons (Nat.le_of_ble_eq_true rfl) rfl dX12_fallsBy_59 ?_
    refine go_iconst (v := 1) (by decide) dX12_fallsBy_62 ?_
    refine go_at 63 rfl ?_
    refine go_icmp_ne (tgt := 70) (by decide) dX12_fallsBy_63 (fun c => ?_) (fun c => ?_)
    · have hs := if_f c hs
      refine go_iconst (v := 0) (by decide) dX12_fallsBy_70 ?_
      exact go_subL (L' := [none, none, none]) (by simp [subL, va_rf]) (oX12_fallsBy_71 hd hs hk)
    · have hs := if_t c hs
      refine go_iconst (v := 1) (by decide) dX12_fallsBy_66 ?_
      refine go_goto (tgt := 71) (by decide) dX12_fallsBy_67 ?_
      exact go_subL (L' := [none, none, none]) (by simp [subL, va_rf]) (oX12_fallsBy_71 hd hs hk)
  · have hs := if_t c hs
    refine go_iconst (v := 0) (by decide) dX12_fallsBy_10 ?_
    obtain rfl := Option.some.inj hs
    obtain ⟨rfl, rfl⟩ := hk
    exact go_zret (ty := .boolean) rfl rfl dX12_fallsBy_11
theorem oX12_fallsBy {d : Nat} (hd : 2 ≤ d) {h : Hp} {x0 : Nat} {x1 : Int32} {x2 : Int32} {y : (Int32 × Hp)} (hs : fX12_fallsBy h x0 x1 x2 = some y) : Call d mX12_fallsBy [.ref x0, .int x1, .int x2] h (some (.int y.1)) (y.2) := call_of (by decide +kernel) (Nat.le_of_ble_eq_true rfl) (show Go d mX12_fallsBy 0 [some (.ref x0), some (.int x1), some (.int x2)] [] h _ _ from go_subL (by simp [subL]) (oX12_fallsBy_0 hd hs ⟨rfl, rfl⟩))
