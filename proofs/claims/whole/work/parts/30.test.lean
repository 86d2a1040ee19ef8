/-! methods: their texts as functions, and that the machine does just that -/
abbrev kX12_within (h : Hp) (rf : Option Value) (hf : Hp) : Int32 → Prop := fun y => rf = some (.int y) ∧ hf = h
noncomputable def fX12_within_18 (h : Hp) (s0 : Int32) : Option Int32 :=
  bl s0 (some (s0))
theorem oX12_within_18 {d : Nat} (hd : 0 ≤ d) {h : Hp} {s0 : Int32} {rf : Option Value} {hf : Hp} {x : Int32} (hs : fX12_within_18 h s0 = some x) (hk : (kX12_within h rf hf) x) : Go d mX12_within 18 [none, none, none, none, none, none] [.int s0] h rf hf := by
  unfold fX12_within_18 at hs
  obtain ⟨n1, n2, hs⟩ := bl_at hs
  cases hs
  obtain ⟨rfl, rfl⟩ := hk
  exact go_zret (ty := .boolean) rfl n1 dX12_within_18
noncomputable def fX12_within_17 (h : Hp)  : Option Int32 :=
  fX12_within_18 h (0 : Int32)
theorem oX12_within_17 {d : Nat} (hd : 0 ≤ d) {h : Hp} {rf : Option Value} {hf : Hp} {x : Int32} (hs : fX12_within_17 h  = some x) (hk : (kX12_within h rf hf) x) : Go d mX12_within 17 [none, none, none, none, none, none] [] h rf hf := by
  unfold fX12_within_17 at hs
  refine go_iconst (v := 0) (by decide) dX12_within_17 ?_
  exact go_subL (L' := [none, none, none, none, none, none]) (by simp [subL, va_rf]) (oX12_within_18 hd hs hk)
noncomputable def fX12_within (h : Hp) (x0 : Int64) (x2 : Int64) (x4 : Int64) : Option Int32 :=
  if (lg_cmp x0 x2) < 0 then (
  fX12_within_17 h ) else (
    if 0 < (lg_cmp x0 x4) then (
    fX12_within_17 h ) else (
      fX12_within_18 h (1 : Int32)))
theorem oX12_within_0 {d : Nat} (hd : 0 ≤ d) {h : Hp} {x0 : Int64} {x2 : Int64} {x4 : Int64} {rf : Option Value} {hf : Hp} {x : Int32} (hs : fX12_within h x0 x2 x4 = some x) (hk : (kX12_within h rf hf) x) : Go d mX12_within 0 [some (.long x0), none, some (.long x2), none, some (.long x4), none] [] h rf hf := by
  unfold fX12_within at hs
  refine go_lload_n (k4 := 0) rfl dX12_within_0 ?_
  refine go_lload_n (k4 := 2) rfl dX12_within_1 ?_
  refine go_lcmp dX12_within_2 ?_
  refine go_if_lt (tgt := 17) (by decide) dX12_within_3 (fun c => ?_) (fun c => ?_)
  · have hs := if_t c hs
    exact go_subL (L' := [none, none, none, none, none, none]) (by simp [subL, va_rf]) (oX12_within_17 hd hs hk)
  · have hs := if_f c hs
    refine go_lload_n (k4 := 0) rfl dX12_within_6 ?_
    refine go_lload rfl dX12_within_7 ?_
    refine go_lcmp dX12_within_9 ?_
    refine go_if_gt (tgt := 17) (by decide) dX12_within_10 (fun c => ?_) (fun c => ?_)
    · have hs := if_t c hs
      exact go_subL (L' := [none, none, none, none, none, none]) (by simp [subL, va_rf]) (oX12_within_17 hd hs hk)
    · have hs := if_f c hs
      refine go_iconst (v := 1) (by decide) dX12_within_13 ?_
      refine go_goto (tgt := 18) (by decide) dX12_within_14 ?_
      exact go_subL (L' := [none, none, none, none, none, none]) (by simp [subL, va_rf]) (oX12_within_18 hd hs hk)
theorem oX12_within {d : Nat} (hd : 0 ≤ d) {h : Hp} {x0 : Int64} {x2 : Int64} {x4 : Int64} {y : Int32} (hs : fX12_within h x0 x2 x4 = some y) : Call d mX12_within [.long x0, .long x2, .long x4] h (some (.int y)) h := call_of (by decide +kernel) (Nat.le_of_ble_eq_true rfl) (show Go d mX12_within 0 [some (.long x0), none, some (.long x2), none, some (.long x4), none] [] h _ _ from go_subL (by simp [subL]) (oX12_within_0 hd hs ⟨rfl, rfl⟩))
abbrev kX12_isDigit (h : Hp) (rf : Option Value) (hf : Hp) : Int32 → Prop := fun y => rf = some (.int y) ∧ hf = h
noncomputable def fX12_isDigit_17 (h : Hp) (s0 : Int32) : Option Int32 :=
  bl s0 (some (s0))
theorem oX12_isDigit_17 {d : Nat} (hd : 0 ≤ d) {h : Hp} {s0 : Int32} {rf : Option Value} {hf : Hp} {x : Int32} (hs : fX12_isDigit_17 h s0 = some x) (hk : (kX12_isDigit h rf hf) x) : Go d mX12_isDigit 17 [none] [.int s0] h rf hf := by
  unfold fX12_isDigit_17 at hs
  obtain ⟨n1, n2, hs⟩ := bl_at hs
  cases hs
  obtain ⟨rfl, rfl⟩ := hk
  exact go_zret (ty := .boolean) rfl n1 dX12_isDigit_17
noncomputable def fX12_isDigit_16 (h : Hp)  : Option Int32 :=
  fX12_isDigit_17 h (0 : Int32)
theorem oX12_isDigit_16 {d : Nat} (hd : 0 ≤ d) {h : Hp} {rf : Option Value} {hf : Hp} {x : Int32} (hs : fX12_isDigit_16 h  = some x) (hk : (kX12_isDigit h rf hf) x) : Go d mX12_isDigit 16 [none] [] h rf hf := by
  unfold fX12_isDigit_16 at hs
  refine go_iconst (v := 0) (by decide) dX12_isDigit_16 ?_
  exact go_subL (L' := [none]) (by simp [subL, va_rf]) (oX12_isDigit_17 hd hs hk)
noncomputable def fX12_isDigit (h : Hp) (x0 : Int32) : Option Int32 :=
  if x0 < (48 : Int32) then (
  fX12_isDigit_16 h ) else (
    if (57 : Int32) < x0 then (
    fX12_isDigit_16 h ) else (
      fX12_isDigit_17 h (1 : Int32)))
theorem oX12_isDigit_0 {d : Nat} (hd : 0 ≤ d) {h : Hp} {x0 : Int32} {rf : Option Value} {hf : Hp} {x : Int32} (hs : fX12_isDigit h x0 = some x) (hk : (kX12_isDigit h rf hf) x) : Go d mX12_isDigit 0 [some (.int x0)] [] h rf hf := by
  unfold fX12_isDigit at hs
  refine go_iload_n (k4 := 0) rfl dX12_isDigit_0 ?_
  refine go_bipush (v := 48) (by decide) dX12_isDigit_1 ?_
  refine go_icmp_lt (tgt := 16) (by decide) dX12_isDigit_3 (fun c => ?_) (fun c => ?_)
  · have hs := if_t c hs
    exact go_subL (L' := [none]) (by simp [subL, va_rf]) (oX12_isDigit_16 hd hs hk)
  · have hs := if_f c hs
    refine go_iload_n (k4 := 0) rfl dX12_isDigit_6 ?_
    refine go_bipush (v := 57) (by decide) dX12_isDigit_7 ?_
    refine go_icmp_gt (tgt := 16) (by decide) dX12_isDigit_9 (fun c => ?_) (fun c => ?_)
    · have hs := if_t c hs
      exact go_subL (L' := [none]) (by simp [subL, va_rf]) (oX12_isDigit_16 hd hs hk)
    · have hs := if_f c hs
      refine go_iconst (v := 1) (by decide) dX12_isDigit_12 ?_
      refine go_goto (tgt := 17) (by decide) dX12_isDigit_13 ?_
      exact go_subL (L' := [none]) (by simp [subL, va_rf]) (oX12_isDigit_17 hd hs hk)
theorem oX12_isDigit {d : Nat} (hd : 0 ≤ d) {h : Hp} {x0 : Int32} {y : Int32} (hs : fX12_isDigit h x0 = some y) : Call d mX12_isDigit [.int x0] h (some (.int y)) h := call_of (by decide +kernel) (Nat.le_of_ble_eq_true rfl) (show Go d mX12_isDigit 0 [some (.int x0)] [] h _ _ from go_subL (by simp [subL]) (oX12_isDigit_0 hd hs ⟨rfl, rfl⟩))
abbrev kX12_isPair (h : Hp) (rf : Option Value) (hf : Hp) : Int32 → Prop := fun y => rf = some (.int y) ∧ hf = h
noncomputable def fX12_isPair (h : Hp) (x0 : Nat) (x1 : Int64) : Option Int32 :=
  (gN h 12 x0 1).bind fun v1 =>
  (aI 0 h v1 (1 : Int32)).bind fun v2 =>
  (fX12_within h x1 (0 : Int64) (v2 - (1 : Int32)).toInt64).bind fun y3 =>
  bl y3 (some (y3))
theorem oX12_isPair_0 {d : Nat} (hd : 1 ≤ d) {h : Hp} {x0 : Nat} {x1 : Int64} {rf : Option Value} {hf : Hp} {x : Int32} (hs : fX12_isPair h x0 x1 = some x) (hk : (kX12_isPair h rf hf) x) : Go d mX12_isPair 0 [some (.ref x0), some (.long x1), none] [] h rf hf := by
  unfold fX12_isPair at hs
  refine go_lload_n (k4 := 1) rfl dX12_isPair_0 ?_
  refine go_lconst (v := 0) (by decide) dX12_isPair_1 ?_
  refine go_aload_n (k4 := 0) rfl (Or.inr ⟨_, rfl⟩) dX12_isPair_2 ?_
  obtain ⟨v1, ev1, hs⟩ := bindS hs
  refine go_gN fl_RX12_13 ev1 dX12_isPair_3 ?_
  refine go_iconst (v := 1) (by decide) dX12_isPair_6 ?_
  obtain ⟨v2, ev2, hs⟩ := bindS hs
  refine go_aIi ev2 dX12_isPair_7 ?_
  refine go_iconst (v := 1) (by decide) dX12_isPair_8 ?_
  refine go_at 9 rfl ?_
  refine go_isub dX12_isPair_9 ?_
  refine go_i2l dX12_isPair_10 ?_
  obtain ⟨y3, ey3, hs⟩ := bindS hs
  refine go_S1 (As := [.long x1, .long (0 : Int64), .long (v2 - (1 : Int32)).toInt64]) (st := []) (oX12_within (d := d - 1) (by omega) ey3) (by omega) mb_X12_within lm_RX12_155 ms_X12_within (Nat.le_of_ble_eq_true rfl) rfl dX12_isPair_11 ?_
  obtain ⟨n1, n2, hs⟩ := bl_at hs
  cases hs
  obtain ⟨rfl, rfl⟩ := hk
  exact go_zret (ty := .boolean) rfl n1 dX12_isPair_14
theorem oX12_isPair {d : Nat} (hd : 1 ≤ d) {h : Hp} {x0 : Nat} {x1 : Int64} {y : Int32} (hs : fX12_isPair h x0 x1 = some y) : Call d mX12_isPair [.ref x0, .long x1] h (some (.int y)) h := call_of (by decide +kernel) (Nat.le_of_ble_eq_true rfl) (show Go d mX12_isPair 0 [some (.ref x0), some (.long x1), none] [] h _ _ from go_subL (by simp [subL]) (oX12_isPair_0 hd hs ⟨rfl, rfl⟩))
abbrev kX12_hasFallen (h : Hp) (rf : Option Value) (hf : Hp) : Int32 → Prop := fun y => rf = some (.int y) ∧ hf = h
noncomputable def fX12_hasFallen_12 (h : Hp) (s0 : Int32) : Option Int32 :=
  bl s0 (some (s0))
theorem oX12_hasFallen_12 {d : Nat} (hd : 0 ≤ d) {h : Hp} {s0 : Int32} {rf : Option Value} {hf : Hp} {x : Int32} (hs : fX12_hasFallen_12 h s0 = some x) (hk : (kX12_hasFallen h rf hf) x) : Go d mX12_hasFallen 12 [none] [.int s0] h rf hf := by
  unfold fX12_hasFallen_12 at hs
  obtain ⟨n1, n2, hs⟩ := bl_at hs
  cases hs
  obtain ⟨rfl, rfl⟩ := hk
  exact go_zret (ty := .boolean) rfl n1 dX12_hasFallen_12
noncomputable def fX12_hasFallen (h : Hp) (x0 : Int32) : Option Int32 :=
  if x0 < (10000 : Int32) then (
    fX12_hasFallen_12 h (0 : Int32)) else (
    fX12_hasFallen_12 h (1 : Int32))
theorem oX12_hasFallen_0 {d : Nat} (hd : 0 ≤ d) {h : Hp} {x0 : Int32} {rf : Option Value} {hf : Hp} {x : Int32} (hs : fX12_hasFallen h x0 = some x) (hk : (kX12_hasFallen h rf hf) x) : Go d mX12_hasFallen 0 [some (.int x0)] [] h rf hf := by
  unfold fX12_hasFallen at hs
  refine go_iload_n (k4 := 0) rfl dX12_hasFallen_0 ?_
  refine go_sipush (v := 10000) (by decide) dX12_hasFallen_1 ?_
  refine go_icmp_lt (tgt := 11) (by decide) dX12_hasFallen_4 (fun c => ?_) (fun c => ?_)
  · have hs := if_t c hs
    refine go_iconst (v := 0) (by decide) dX12_hasFallen_11 ?_
    exact go_subL (L' := [none]) (by simp [subL, va_rf]) (oX12_hasFallen_12 hd hs hk)
  · have hs := if_f c hs
    refine go_iconst (v := 1) (by decide) dX12_hasFallen_7 ?_
    refine go_goto (tgt := 12) (by decide) dX12_hasFallen_8 ?_
    exact go_subL (L' := [none]) (by simp [subL, va_rf]) (oX12_hasFallen_12 hd hs hk)
theorem oX12_hasFallen {d : Nat} (hd : 0 ≤ d) {h : Hp} {x0 : Int32} {y : Int32} (hs : fX12_hasFallen h x0 = some y) : Call d mX12_hasFallen [.int x0] h (some (.int y)) h := call_of (by decide +kernel) (Nat.le_of_ble_eq_true rfl) (show Go d mX12_hasFallen 0 [some (.int x0)] [] h _ _ from go_subL (by simp [subL]) (oX12_hasFallen_0 hd hs ⟨rfl, rfl⟩))
abbrev kX12_gapIn (h : Hp) (rf : Option Value) (hf : Hp) : Int32 → Prop := fun y => rf = some (.int y) ∧ hf = h
abbrev pX12_gapIn_4 (d : Nat) (h : Hp) (x1 : Int32) (rf : Option Value) (hf : Hp) : (Int32 × Int32) → Prop := fun s => Go d mX12_gapIn 4 [none, some (.int x1), some (.int s.1), some (.int s.2)] [] h rf hf
noncomputable def fX12_gapIn_4b (h : Hp) (x1 : Int32) (x2 : Int32) (x3 : Int32) : Option ((Int32 × Int32) ⊕ Int32) :=
  if x1 ≤ x3 then (
    (rm x2 (10 : Int32)).bind fun v1 =>
    some (.inr v1)) else (
    (dv x2 (10 : Int32)).bind fun v2 =>
    some (.inl (v2, (x3 + Int32.ofInt 1))))
noncomputable def fX12_gapIn_4 (h : Hp) (x1 : Int32) (x2 : Int32) (x3 : Int32) : Option Int32 := lpw (σ := (Int32 × Int32)) (fun s => fX12_gapIn_4b h x1 s.1 s.2) (x2, x3)
theorem oX12_gapIn_4b {d : Nat} (hd : 0 ≤ d) {h : Hp} {x1 : Int32} {x2 : Int32} {x3 : Int32} {rf : Option Value} {hf : Hp} {x : ((Int32 × Int32) ⊕ Int32)} (hs : fX12_gapIn_4b h x1 x2 x3 = some x) (hk : (Kx (pX12_gapIn_4 d h x1 rf hf) (kX12_gapIn h rf hf)) x) : Go d mX12_gapIn 4 [none, some (.int x1), some (.int x2), some (.int x3)] [] h rf hf := by
  unfold fX12_gapIn_4b at hs
  refine go_iload_n (k4 := 3) rfl dX12_gapIn_4 ?_
  refine go_iload_n (k4 := 1) rfl dX12_gapIn_5 ?_
  refine go_icmp_ge (tgt := 20) (by decide) dX12_gapIn_6 (fun c => ?_) (fun c => ?_)
  · have hs := if_t c hs
    refine go_iload_n (k4 := 2) rfl dX12_gapIn_20 ?_
    refine go_bipush (v := 10) (by decide) dX12_gapIn_21 ?_
    obtain ⟨v1, ev1, hs⟩ := bindS hs
    refine go_rm ev1 dX12_gapIn_23 ?_
    cases hs
    obtain ⟨rfl, rfl⟩ := hk
    exact go_iret rfl dX12_gapIn_24
  · have hs := if_f c hs
    refine go_iload_n (k4 := 2) rfl dX12_gapIn_9 ?_
    refine go_bipush (v := 10) (by decide) dX12_gapIn_10 ?_
    obtain ⟨v2, ev2, hs⟩ := bindS hs
    refine go_dv ev2 dX12_gapIn_12 ?_
    refine go_istore_n (k4 := 2) (L' := [none, some (.int x1), some (.int v2), some (.int x3)]) (by decide) rfl dX12_gapIn_13 ?_
    refine go_iinc (L' := [none, some (.int x1), some (.int v2), some (.int (x3 + Int32.ofInt 1))]) rfl (by decide) rfl rfl dX12_gapIn_14 ?_
    refine go_goto (tgt := 4) (by decide) dX12_gapIn_17 ?_
    cases hs
    exact go_subL (L' := [none, some (.int x1), some (.int v2), some (.int (x3 + Int32.ofInt 1))]) (by simp [subL, va_rf]) hk
theorem oX12_gapIn_4 {d : Nat} (hd : 0 ≤ d) {h : Hp} {x1 : Int32} {x2 : Int32} {x3 : Int32} {rf : Option Value} {hf : Hp} {x : Int32} (hs : fX12_gapIn_4 h x1 x2 x3 = some x) (hk : (kX12_gapIn h rf hf) x) : Go d mX12_gapIn 4 [none, some (.int x1), some (.int x2), some (.int x3)] [] h rf hf := by
  unfold fX12_gapIn_4 at hs
  exact lpw_go (P := pX12_gapIn_4 d h x1 rf hf) (fun s x hs hk => oX12_gapIn_4b hd hs hk) (x2, x3) x hs hk
noncomputable def fX12_gapIn (h : Hp) (x0 : Int32) (x1 : Int32) : Option Int32 :=
  fX12_gapIn_4 h x1 x0 (0 : Int32)
theorem oX12_gapIn_0 {d : Nat} (hd : 0 ≤ d) {h : Hp} {x0 : Int32} {x1 : Int32} {rf : Option Value} {hf : Hp} {x : Int32} (hs : fX12_gapIn h x0 x1 = some x) (hk : (kX12_gapIn h rf hf) x) : Go d mX12_gapIn 0 [some (.int x0), some (.int x1), none, none] [] h rf hf := by
  unfold fX12_gapIn at hs
  refine go_iload_n (k4 := 0) rfl dX12_gapIn_0 ?_
  refine go_istore_n (k4 := 2) (L' := [some (.int x0), some (.int x1), some (.int x0), none]) (by decide) rfl dX12_gapIn_1 ?_
  refine go_iconst (v := 0) (by decide) dX12_gapIn_2 ?_
  refine go_istore_n (k4 := 3) (L' := [some (.int x0), some (.int x1), some (.int x0), some (.int (0 : Int32))]) (by decide) rfl dX12_gapIn_3 ?_
  exact go_subL (L' := [none, some (.int x1), some (.int x0), some (.int (0 : Int32))]) (by simp [subL, va_rf]) (oX12_gapIn_4 hd hs hk)
theorem oX12_gapIn {d : Nat} (hd : 0 ≤ d) {h : Hp} {x0 : Int32} {x1 : Int32} {y : Int32} (hs : fX12_gapIn h x0 x1 = some y) : Call d mX12_gapIn [.int x0, .int x1] h (some (.int y)) h := call_of (by decide +kernel) (Nat.le_of_ble_eq_true rfl) (show Go d mX12_gapIn 0 [some (.int x0), some (.int x1), none, none] [] h _ _ from go_subL (by simp [subL]) (oX12_gapIn_0 hd hs ⟨rfl, rfl⟩))
abbrev kX12_metIn (h : Hp) (rf : Option Value) (hf : Hp) : Int32 → Prop := fun y => rf = some (.int y) ∧ hf = h
abbrev pX12_metIn_4 (d : Nat) (h : Hp) (x0 : Nat) (x1 : Int32) (rf : Option Value) (hf : Hp) : (Int32 × Int32) → Prop := fun s => Go d mX12_metIn 4 [some (.ref x0), some (.int x1), some (.int s.1), some (.int s.2)] [] h rf hf
noncomputable def fX12_metIn_30 (h : Hp) (x0 : Nat) (x1 : Int32) (x3 : Int32) (s0 : Int32) (s1 : Int32) : Option ((Int32 × Int32) ⊕ Int32) :=
  some (.inl ((s0 ||| s1), (x3 + Int32.ofInt 1)))
theorem oX12_metIn_30 {d : Nat} (hd : 1 ≤ d) {h : Hp} {x0 : Nat} {x1 : Int32} {x3 : Int32} {s0 : Int32} {s1 : Int32} {rf : Option Value} {hf : Hp} {x : ((Int32 × Int32) ⊕ Int32)} (hs : fX12_metIn_30 h x0 x1 x3 s0 s1 = some x) (hk : (Kx (pX12_metIn_4 d h x0 x1 rf hf) (kX12_metIn h rf hf)) x) : Go d mX12_metIn 30 [some (.ref x0), some (.int x1), none, some (.int x3)] [.int s1, .int s0] h rf hf := by
  unfold fX12_metIn_30 at hs
  refine go_ior dX12_metIn_30 ?_
  refine go_istore_n (k4 := 2) (L' := [some (.ref x0), some (.int x1), some (.int (s0 ||| s1)), some (.int x3)]) (by decide) rfl dX12_metIn_31 ?_
  refine go_iinc (L' := [some (.ref x0), some (.int x1), some (.int (s0 ||| s1)), some (.int (x3 + Int32.ofInt 1))]) rfl (by decide) rfl rfl dX12_metIn_32 ?_
  refine go_goto (tgt := 4) (by decide) dX12_metIn_35 ?_
  cases hs
  exact go_subL (L' := [some (.ref x0), some (.int x1), some (.int (s0 ||| s1)), some (.int (x3 + Int32.ofInt 1))]) (by simp [subL, va_rf]) hk
noncomputable def fX12_metIn_4b (h : Hp) (x0 : Nat) (x1 : Int32) (x2 : Int32) (x3 : Int32) : Option ((Int32 × Int32) ⊕ Int32) :=
  (gN h 12 x0 1).bind fun v1 =>
  (aI 0 h v1 (1 : Int32)).bind fun v2 =>
  if v2 ≤ x3 then (
    some (.inr x2)) else (
    (fX12_gapIn h x1 x3).bind fun y3 =>
    if y3 = 0 then (
      fX12_metIn_30 h x0 x1 x3 x2 ((1 : Int32) <<< (x3 &&& 31))) else (
      fX12_metIn_30 h x0 x1 x3 x2 (0 : Int32)))
noncomputable def fX12_metIn_4 (h : Hp) (x0 : Nat) (x1 : Int32) (x2 : Int32) (x3 : Int32) : Option Int32 := lpw (σ := (Int32 × Int32)) (fun s => fX12_metIn_4b h x0 x1 s.1 s.2) (x2, x3)
theorem oX12_metIn_4b {d : Nat} (hd : 1 ≤ d) {h : Hp} {x0 : Nat} {x1 : Int32} {x2 : Int32} {x3 : Int32} {rf : Option Value} {hf : Hp} {x : ((Int32 × Int32) ⊕ Int32)} (hs : fX12_metIn_4b h x0 x1 x2 x3 = some x) (hk : (Kx (pX12_metIn_4 d h x0 x1 rf hf) (kX12_metIn h rf hf)) x) : Go d mX12_metIn 4 [some (.ref x0), some (.int x1), some (.int x2), some (.int x3)] [] h rf hf := by
  unfold fX12_metIn_4b at hs
  refine go_iload_n (k4 := 3) rfl dX12_metIn_4 ?_
  refine go_aload_n (k4 := 0) rfl (Or.inr ⟨_, rfl⟩) dX12_metIn_5 ?_
  obtain ⟨v1, ev1, hs⟩ := bindS hs
  refine go_gN fl_RX12_13 ev1 dX12_metIn_6 ?_
  refine go_iconst (v := 1) (by decide) dX12_metIn_9 ?_
  obtain ⟨v2, ev2, hs⟩ := bindS hs
  refine go_aIi ev2 dX12_metIn_10 ?_
  refine go_icmp_ge (tgt := 38) (by decide) dX12_metIn_11 (fun c => ?_) (fun c => ?_)
  · have hs := if_t c hs
    refine go_iload_n (k4 := 2) rfl dX12_metIn_38 ?_
    cases hs
    obtain ⟨rfl, rfl⟩ := hk
    exact go_iret rfl dX12_metIn_39
  · have hs := if_f c hs
    refine go_iload_n (k4 := 2) rfl dX12_metIn_14 ?_
    refine go_iload_n (k4 := 1) rfl dX12_metIn_15 ?_
    refine go_iload_n (k4 := 3) rfl dX12_metIn_16 ?_
    obtain ⟨y3, ey3, hs⟩ := bindS hs
    refine go_S1 (As := [.int x1, .int x3]) (st := [.int x2]) (oX12_gapIn (d := d - 1) (by omega) ey3) (by omega) mb_X12_gapIn lm_RX12_217 ms_X12_gapIn (Nat.le_of_ble_eq_true rfl) rfl dX12_metIn_17 ?_
    refine go_if_ne (tgt := 29) (by decide) dX12_metIn_20 (fun c => ?_) (fun c => ?_)
    · have hs := if_f c hs
      refine go_iconst (v := 0) (by decide) dX12_metIn_29 ?_
      exact go_subL (L' := [some (.ref x0), some (.int x1), none, some (.int x3)]) (by simp [subL, va_rf]) (oX12_metIn_30 hd hs hk)
    · have hs := if_t c hs
      refine go_iconst (v := 1) (by decide) dX12_metIn_23 ?_
      refine go_iload_n (k4 := 3) rfl dX12_metIn_24 ?_
      refine go_ishl dX12_metIn_25 ?_
      refine go_goto (tgt := 30) (by decide) dX12_metIn_26 ?_
      exact go_subL (L' := [some (.ref x0), some (.int x1), none, some (.int x3)]) (by simp [subL, va_rf]) (oX12_metIn_30 hd hs hk)
theorem oX12_metIn_4 {d : Nat} (hd : 1 ≤ d) {h : Hp} {x0 : Nat} {x1 : Int32} {x2 : Int32} {x3 : Int32} {rf : Option Value} {hf : Hp} {x : Int32} (hs : fX12_metIn_4 h x0 x1 x2 x3 = some x) (hk : (kX12_metIn h rf hf) x) : Go d mX12_metIn 4 [some (.ref x0), some (.int x1), some (.int x2), some (.int x3)] [] h rf hf := by
  unfold fX12_metIn_4 at hs
  exact lpw_go (P := pX12_metIn_4 d h x0 x1 rf hf) (fun s x hs hk => oX12_metIn_4b hd hs hk) (x2, x3) x hs hk
noncomputable def fX12_metIn (h : Hp) (x0 : Nat) (x1 : Int32) : Option Int32 :=
  fX12_metIn_4 h x0 x1 (0 : Int32) (0 : Int32)
theorem oX12_metIn_0 {d : Nat} (hd : 1 ≤ d) {h : Hp} {x0 : Nat} {x1 : Int32} {rf : Option Value} {hf : Hp} {x : Int32} (hs : fX12_metIn h x0 x1 = some x) (hk : (kX12_metIn h rf hf) x) : Go d mX12_metIn 0 [some (.ref x0), some (.int x1), none, none] [] h rf hf := by
  unfold fX12_metIn at hs
  refine go_iconst (v := 0) (by decide) dX12_metIn_0 ?_
  refine go_istore_n (k4 := 2) (L' := [some (.ref x0), some (.int x1), some (.int (0 : Int32)), none]) (by decide) rfl dX12_metIn_1 ?_
  refine go_iconst (v := 0) (by decide) dX12_metIn_2 ?_
  refine go_istore_n (k4 := 3) (L' := [some (.ref x0), some (.int x1), some (.int (0 : Int32)), some (.int (0 : Int32))]) (by decide) rfl dX12_metIn_3 ?_
  exact go_subL (L' := [some (.ref x0), some (.int x1), some (.int (0 : Int32)), some (.int (0 : Int32))]) (by simp [subL, va_rf]) (oX12_metIn_4 hd hs hk)
theorem oX12_metIn {d : Nat} (hd : 1 ≤ d) {h : Hp} {x0 : Nat} {x1 : Int32} {y : Int32} (hs : fX12_metIn h x0 x1 = some y) : Call d mX12_metIn [.ref x0, .int x1] h (some (.int y)) h := call_of (by decide +kernel) (Nat.le_of_ble_eq_true rfl) (show Go d mX12_metIn 0 [some (.ref x0), some (.int x1), none, none] [] h _ _ from go_subL (by simp [subL]) (oX12_metIn_0 hd hs ⟨rfl, rfl⟩))
abbrev kX12_gapsIn (h : Hp) (rf : Option Value) (hf : Hp) : Int32 → Prop := fun y => rf = some (.int y) ∧ hf = h
abbrev pX12_gapsIn_4 (d : Nat) (h : Hp) (x0 : Nat) (x1 : Int32) (rf : Option Value) (hf : Hp) : (Int32 × Int32) → Prop := fun s => Go d mX12_gapsIn 4 [some (.ref x0), some (.int x1), some (.int s.1), some (.int s.2)] [] h rf hf
noncomputable def fX12_gapsIn_4b (h : Hp) (x0 : Nat) (x1 : Int32) (x2 : Int32) (x3 : Int32) : Option ((Int32 × Int32) ⊕ Int32) :=
  (gN h 12 x0 1).bind fun v1 =>
  (aI 0 h v1 (1 : Int32)).bind fun v2 =>
  if v2 ≤ x3 then (
    some (.inr x2)) else (
    (fX12_gapIn h x1 x3).bind fun y3 =>
    some (.inl ((x2 + y3), (x3 + Int32.ofInt 1))))
noncomputable def fX12_gapsIn_4 (h : Hp) (x0 : Nat) (x1 : Int32) (x2 : Int32) (x3 : Int32) : Option Int32 := lpw (σ := (Int32 × Int32)) (fun s => fX12_gapsIn_4b h x0 x1 s.1 s.2) (x2, x3)
theorem oX12_gapsIn_4b {d : Nat} (hd : 1 ≤ d) {h : Hp} {x0 : Nat} {x1 : Int32} {x2 : Int32} {x3 : Int32} {rf : Option Value} {hf : Hp} {x : ((Int32 × Int32) ⊕ Int32)} (hs : fX12_gapsIn_4b h x0 x1 x2 x3 = some x) (hk : (Kx (pX12_gapsIn_4 d h x0 x1 rf hf) (kX12_gapsIn h rf hf)) x) : Go d mX12_gapsIn 4 [some (.ref x0), some (.int x1), some (.int x2), some (.int x3)] [] h rf hf := by
  unfold fX12_gapsIn_4b at hs
  refine go_iload_n (k4 := 3) rfl dX12_gapsIn_4 ?_
  refine go_aload_n (k4 := 0) rfl (Or.inr ⟨_, rfl⟩) dX12_gapsIn_5 ?_
  obtain ⟨v1, ev1, hs⟩ := bindS hs
  refine go_gN fl_RX12_13 ev1 dX12_gapsIn_6 ?_
  refine go_iconst (v := 1) (by decide) dX12_gapsIn_9 ?_
  obtain ⟨v2, ev2, hs⟩ := bindS hs
  refine go_aIi ev2 dX12_gapsIn_10 ?_
  refine go_icmp_ge (tgt := 28) (by decide) dX12_gapsIn_11 (fun c => ?_) (fun c => ?_)
  · have hs := if_t c hs
    refine go_iload_n (k4 := 2) rfl dX12_gapsIn_28 ?_
    cases hs
    obtain ⟨rfl, rfl⟩ := hk
    exact go_iret rfl dX12_gapsIn_29
  · have hs := if_f c hs
    refine go_iload_n (k4 := 2) rfl dX12_gapsIn_14 ?_
    refine go_iload_n (k4 := 1) rfl dX12_gapsIn_15 ?_
    refine go_iload_n (k4 := 3) rfl dX12_gapsIn_16 ?_
    obtain ⟨y3, ey3, hs⟩ := bindS hs
    refine go_S1 (As := [.int x1, .int x3]) (st := [.int x2]) (oX12_gapIn (d := d - 1) (by omega) ey3) (by omega) mb_X12_gapIn lm_RX12_217 ms_X12_gapIn (Nat.le_of_ble_eq_true rfl) rfl dX12_gapsIn_17 ?_
    refine go_iadd dX12_gapsIn_20 ?_
    refine go_istore_n (k4 := 2) (L' := [some (.ref x0), some (.int x1), some (.int (x2 + y3)), some (.int x3)]) (by decide) rfl dX12_gapsIn_21 ?_
    refine go_iinc (L' := [some (.ref x0), some (.int x1), some (.int (x2 + y3)), some (.int (x3 + Int32.ofInt 1))]) rfl (by decide) rfl rfl dX12_gapsIn_22 ?_
    refine go_at 25 rfl ?_
    refine go_goto (tgt := 4) (by decide) dX12_gapsIn_25 ?_
    cases hs
    exact go_subL (L' := [some (.ref x0), some (.int x1), some (.int (x2 + y3)), some (.int (x3 + Int32.ofInt 1))]) (by simp [subL, va_rf]) hk
theorem oX12_gapsIn_4 {d : Nat} (hd : 1 ≤ d) {h : Hp} {x0 : Nat} {x1 : Int32} {x2 : Int32} {x3 : Int32} {rf : Option Value} {hf : Hp} {x : Int32} (hs : fX12_gapsIn_4 h x0 x1 x2 x3 = some x) (hk : (kX12_gapsIn h rf hf) x) : Go d mX12_gapsIn 4 [some (.ref x0), some (.int x1), some (.int x2), some (.int x3)] [] h rf hf := by
  unfold fX12_gapsIn_4 at hs
  exact lpw_go (P := pX12_gapsIn_4 d h x0 x1 rf hf) (fun s x hs hk => oX12_gapsIn_4b hd hs hk) (x2, x3) x hs hk
noncomputable def fX12_gapsIn (h : Hp) (x0 : Nat) (x1 : Int32) : Option Int32 :=
  fX12_gapsIn_4 h x0 x1 (0 : Int32) (0 : Int32)
theorem oX12_gapsIn_0 {d : Nat} (hd : 1 ≤ d) {h : Hp} {x0 : Nat} {x1 : Int32} {rf : Option Value} {hf : Hp} {x : Int32} (hs : fX12_gapsIn h x0 x1 = some x) (hk : (kX12_gapsIn h rf hf) x) : Go d mX12_gapsIn 0 [some (.ref x0), some (.int x1), none, none] [] h rf hf := by
  unfold fX12_gapsIn at hs
  refine go_iconst (v := 0) (by decide) dX12_gapsIn_0 ?_
  refine go_istore_n (k4 := 2) (L' := [some (.ref x0), some (.int x1), some (.int (0 : Int32)), none]) (by decide) rfl dX12_gapsIn_1 ?_
  refine go_iconst (v := 0) (by decide) dX12_gapsIn_2 ?_
  refine go_istore_n (k4 := 3) (L' := [some (.ref x0), some (.int x1), some (.int (0 : Int32)), some (.int (0 : Int32))]) (by decide) rfl dX12_gapsIn_3 ?_
  exact go_subL (L' := [some (.ref x0), some (.int x1), some (.int (0 : Int32)), some (.int (0 : Int32))]) (by simp [subL, va_rf]) (oX12_gapsIn_4 hd hs hk)
theorem oX12_gapsIn {d : Nat} (hd : 1 ≤ d) {h : Hp} {x0 : Nat} {x1 : Int32} {y : Int32} (hs : fX12_gapsIn h x0 x1 = some y) : Call d mX12_gapsIn [.ref x0, .int x1] h (some (.int y)) h := call_of (by decide +kernel) (Nat.le_of_ble_eq_true rfl) (show Go d mX12_gapsIn 0 [some (.ref x0), some (.int x1), none, none] [] h _ _ from go_subL (by simp [subL]) (oX12_gapsIn_0 hd hs ⟨rfl, rfl⟩))
abbrev kX12_widestIn (h : Hp) (rf : Option Value) (hf : Hp) : Int32 → Prop := fun y => rf = some (.int y) ∧ hf = h
abbrev pX12_widestIn_4 (d : Nat) (h : Hp) (x0 : Nat) (x1 : Int32) (rf : Option Value) (hf : Hp) : (Int32 × Int32) → Prop := fun s => Go d mX12_widestIn 4 [some (.ref x0), some (.int x1), some (.int s.1), some (.int s.2)] [] h rf hf
noncomputable def fX12_widestIn_32 (h : Hp) (x0 : Nat) (x1 : Int32) (x3 : Int32) (s0 : Int32) : Option ((Int32 × Int32) ⊕ Int32) :=
  some (.inl (s0, (x3 + Int32.ofInt 1)))
theorem oX12_widestIn_32 {d : Nat} (hd : 1 ≤ d) {h : Hp} {x0 : Nat} {x1 : Int32} {x3 : Int32} {s0 : Int32} {rf : Option Value} {hf : Hp} {x : ((Int32 × Int32) ⊕ Int32)} (hs : fX12_widestIn_32 h x0 x1 x3 s0 = some x) (hk : (Kx (pX12_widestIn_4 d h x0 x1 rf hf) (kX12_widestIn h rf hf)) x) : Go d mX12_widestIn 32 [some (.ref x0), some (.int x1), none, some (.int x3)] [.int s0] h rf hf := by
  unfold fX12_widestIn_32 at hs
  refine go_istore_n (k4 := 2) (L' := [some (.ref x0), some (.int x1), some (.int s0), some (.int x3)]) (by decide) rfl dX12_widestIn_32 ?_
  refine go_iinc (L' := [some (.ref x0), some (.int x1), some (.int s0), some (.int (x3 + Int32.ofInt 1))]) rfl (by decide) rfl rfl dX12_widestIn_33 ?_
  refine go_goto (tgt := 4) (by decide) dX12_widestIn_36 ?_
  cases hs
  exact go_subL (L' := [some (.ref x0), some (.int x1), some (.int s0), some (.int (x3 + Int32.ofInt 1))]) (by simp [subL, va_rf]) hk
noncomputable def fX12_widestIn_4b (h : Hp) (x0 : Nat) (x1 : Int32) (x2 : Int32) (x3 : Int32) : Option ((Int32 × Int32) ⊕ Int32) :=
  (gN h 12 x0 1).bind fun v1 =>
  (aI 0 h v1 (1 : Int32)).bind fun v2 =>
  if v2 ≤ x3 then (
    some (.inr x2)) else (
    (fX12_gapIn h x1 x3).bind fun y3 =>
    if y3 ≤ x2 then (
      fX12_widestIn_32 h x0 x1 x3 x2) else (
      (fX12_gapIn h x1 x3).bind fun y4 =>
      fX12_widestIn_32 h x0 x1 x3 y4))
noncomputable def fX12_widestIn_4 (h : Hp) (x0 : Nat) (x1 : Int32) (x2 : Int32) (x3 : Int32) : Option Int32 := lpw (σ := (Int32 × Int32)) (fun s => fX12_widestIn_4b h x0 x1 s.1 s.2) (x2, x3)
theorem oX12_widestIn_4b {d : Nat} (hd : 1 ≤ d) {h : Hp} {x0 : Nat} {x1 : Int32} {x2 : Int32} {x3 : Int32} {rf : Option Value} {hf : Hp} {x : ((Int32 × Int32) ⊕ Int32)} (hs : fX12_widestIn_4b h x0 x1 x2 x3 = some x) (hk : (Kx (pX12_widestIn_4 d h x0 x1 rf hf) (kX12_widestIn h rf hf)) x) : Go d mX12_widestIn 4 [some (.ref x0), some (.int x1), some (.int x2), some (.int x3)] [] h rf hf := by
  unfold fX12_widestIn_4b at hs
  refine go_iload_n (k4 := 3) rfl dX12_widestIn_4 ?_
  refine go_aload_n (k4 := 0) rfl (Or.inr ⟨_, rfl⟩) dX12_widestIn_5 ?_
  obtain ⟨v1, ev1, hs⟩ := bindS hs
  refine go_gN fl_RX12_13 ev1 dX12_widestIn_6 ?_
  refine go_iconst (v := 1) (by decide) dX12_widestIn_9 ?_
  obtain ⟨v2, ev2, hs⟩ := bindS hs
  refine go_aIi ev2 dX12_widestIn_10 ?_
  refine go_icmp_ge (tgt := 39) (by decide) dX12_widestIn_11 (fun c => ?_) (fun c => ?_)
  · have hs := if_t c hs
    refine go_iload_n (k4 := 2) rfl dX12_widestIn_39 ?_
    cases hs
    obtain ⟨rfl, rfl⟩ := hk
    exact go_iret rfl dX12_widestIn_40
  · have hs := if_f c hs
    refine go_iload_n (k4 := 1) rfl dX12_widestIn_14 ?_
    refine go_iload_n (k4 := 3) rfl dX12_widestIn_15 ?_
    obtain ⟨y3, ey3, hs⟩ := bindS hs
    refine go_S1 (As := [.int x1, .int x3]) (st := []) (oX12_gapIn (d := d - 1) (by omega) ey3) (by omega) mb_X12_gapIn lm_RX12_217 ms_X12_gapIn (Nat.le_of_ble_eq_true rfl) rfl dX12_widestIn_16 ?_
    refine go_iload_n (k4 := 2) rfl dX12_widestIn_19 ?_
    refine go_icmp_le (tgt := 31) (by decide) dX12_widestIn_20 (fun c => ?_) (fun c => ?_)
    · have hs := if_t c hs
      refine go_iload_n (k4 := 2) rfl dX12_widestIn_31 ?_
      exact go_subL (L' := [some (.ref x0), some (.int x1), none, some (.int x3)]) (by simp [subL, va_rf]) (oX12_widestIn_32 hd hs hk)
    · have hs := if_f c hs
      refine go_iload_n (k4 := 1) rfl dX12_widestIn_23 ?_
      refine go_iload_n (k4 := 3) rfl dX12_widestIn_24 ?_
      obtain ⟨y4, ey4, hs⟩ := bindS hs
      refine go_S1 (As := [.int x1, .int x3]) (st := []) (oX12_gapIn (d := d - 1) (by omega) ey4) (by omega) mb_X12_gapIn lm_RX12_217 ms_X12_gapIn (Nat.le_of_ble_eq_true rfl) rfl dX12_widestIn_25 ?_
      refine go_goto (tgt := 32) (by decide) dX12_widestIn_28 ?_
      exact go_subL (L' := [some (.ref x0), some (.int x1), none, some (.int x3)]) (by simp [subL, va_rf]) (oX12_widestIn_32 hd hs hk)
theorem oX12_widestIn_4 {d : Nat} (hd : 1 ≤ d) {h : Hp} {x0 : Nat} {x1 : Int32} {x2 : Int32} {x3 : Int32} {rf : Option Value} {hf : Hp} {x : Int32} (hs : fX12_widestIn_4 h x0 x1 x2 x3 = some x) (hk : (kX12_widestIn h rf hf) x) : Go d mX12_widestIn 4 [some (.ref x0), some (.int x1), some (.int x2), some (.int x3)] [] h rf hf := by
  unfold fX12_widestIn_4 at hs
  exact lpw_go (P := pX12_widestIn_4 d h x0 x1 rf hf) (fun s x hs hk => oX12_widestIn_4b hd hs hk) (x2, x3) x hs hk
noncomputable def fX12_widestIn (h : Hp) (x0 : Nat) (x1 : Int32) : Option Int32 :=
  fX12_widestIn_4 h x0 x1 (0 : Int32) (0 : Int32)
theorem oX12_widestIn_0 {d : Nat} (hd : 1 ≤ d) {h : Hp} {x0 : Nat} {x1 : Int32} {rf : Option Value} {hf : Hp} {x : Int32} (hs : fX12_widestIn h x0 x1 = some x) (hk : (kX12_widestIn h rf hf) x) : Go d mX12_widestIn 0 [some (.ref x0), some (.int x1), none, none] [] h rf hf := by
  unfold fX12_widestIn at hs
  refine go_iconst (v := 0) (by decide) dX12_widestIn_0 ?_
  refine go_istore_n (k4 := 2) (L' := [some (.ref x0), some (.int x1), some (.int (0 : Int32)), none]) (by decide) rfl dX12_widestIn_1 ?_
  refine go_iconst (v := 0) (by decide) dX12_widestIn_2 ?_
  refine go_istore_n (k4 := 3) (L' := [some (.ref x0), some (.int x1), some (.int (0 : Int32)), some (.int (0 : Int32))]) (by decide) rfl dX12_widestIn_3 ?_
  exact go_subL (L' := [some (.ref x0), some (.int x1), some (.int (0 : Int32)), some (.int (0 : Int32))]) (by simp [subL, va_rf]) (oX12_widestIn_4 hd hs hk)
theorem oX12_widestIn {d : Nat} (hd : 1 ≤ d) {h : Hp} {x0 : Nat} {x1 : Int32} {y : Int32} (hs : fX12_widestIn h x0 x1 = some y) : Call d mX12_widestIn [.ref x0, .int x1] h (some (.int y)) h := call_of (by decide +kernel) (Nat.le_of_ble_eq_true rfl) (show Go d mX12_widestIn 0 [some (.ref x0), some (.int x1), none, none] [] h _ _ from go_subL (by simp [subL]) (oX12_widestIn_0 hd hs ⟨rfl, rfl⟩))
abbrev kX12_keeps (rf : Option Value) (hf : Hp) : Hp → Prop := fun y => rf = none ∧ hf = y
abbrev pX12_keeps_2 (d : Nat) (x0 : Nat) (rf : Option Value) (hf : Hp) : (Int32 × Hp) → Prop := fun s => Go d mX12_keeps 2 [some (.ref x0), some (.int s.1)] [] s.2 rf hf
noncomputable def fX12_keeps_2b (h : Hp) (x0 : Nat) (x1 : Int32) : Option ((Int32 × Hp) ⊕ Hp) :=
  if (11 : Int32) ≤ x1 then (
    some (.inr h)) else (
    (gN h 12 x0 22).bind fun v1 =>
    (gN h 12 x0 1).bind fun v2 =>
    (aI 0 h v2 ((15 : Int32) + x1)).bind fun v3 =>
    (wI 0 h v1 x1 v3).bind fun h4 =>
    some (.inl ((x1 + Int32.ofInt 1), h4)))
noncomputable def fX12_keeps_2 (h : Hp) (x0 : Nat) (x1 : Int32) : Option Hp := lpw (σ := (Int32 × Hp)) (fun s => fX12_keeps_2b s.2 x0 s.1) (x1, h)
theorem oX12_keeps_2b {d : Nat} (hd : 0 ≤ d) {h : Hp} {x0 : Nat} {x1 : Int32} {rf : Option Value} {hf : Hp} {x : ((Int32 × Hp) ⊕ Hp)} (hs : fX12_keeps_2b h x0 x1 = some x) (hk : (Kx (pX12_keeps_2 d x0 rf hf) (kX12_keeps rf hf)) x) : Go d mX12_keeps 2 [some (.ref x0), some (.int x1)] [] h rf hf := by
  unfold fX12_keeps_2b at hs
  refine go_iload_n (k4 := 1) rfl dX12_keeps_2 ?_
  refine go_bipush (v := 11) (by decide) dX12_keeps_3 ?_
  refine go_icmp_ge (tgt := 29) (by decide) dX12_keeps_5 (fun c => ?_) (fun c => ?_)
  · have hs := if_t c hs
    cases hs
    obtain ⟨rfl, rfl⟩ := hk
    exact go_vret rfl dX12_keeps_29
  · have hs := if_f c hs
    refine go_aload_n (k4 := 0) rfl (Or.inr ⟨_, rfl⟩) dX12_keeps_8 ?_
    obtain ⟨v1, ev1, hs⟩ := bindS hs
    refine go_gN fl_RX12_45 ev1 dX12_keeps_9 ?_
    refine go_iload_n (k4 := 1) rfl dX12_keeps_12 ?_
    refine go_aload_n (k4 := 0) rfl (Or.inr ⟨_, rfl⟩) dX12_keeps_13 ?_
    obtain ⟨v2, ev2, hs⟩ := bindS hs
    refine go_gN fl_RX12_13 ev2 dX12_keeps_14 ?_
    refine go_bipush (v := 15) (by decide) dX12_keeps_17 ?_
    refine go_iload_n (k4 := 1) rfl dX12_keeps_19 ?_
    refine go_at 20 rfl ?_
    refine go_iadd dX12_keeps_20 ?_
    obtain ⟨v3, ev3, hs⟩ := bindS hs
    refine go_aIi ev3 dX12_keeps_21 ?_
    obtain ⟨h4, eh4, hs⟩ := bindS hs
    refine go_wIi eh4 dX12_keeps_22 ?_
    refine go_iinc (L' := [some (.ref x0), some (.int (x1 + Int32.ofInt 1))]) rfl (by decide) rfl rfl dX12_keeps_23 ?_
    refine go_goto (tgt := 2) (by decide) dX12_keeps_26 ?_
    cases hs
    exact go_subL (L' := [some (.ref x0), some (.int (x1 + Int32.ofInt 1))]) (by simp [subL, va_rf]) hk
theorem oX12_keeps_2 {d : Nat} (hd : 0 ≤ d) {h : Hp} {x0 : Nat} {x1 : Int32} {rf : Option Value} {hf : Hp} {x : Hp} (hs : fX12_keeps_2 h x0 x1 = some x) (hk : (kX12_keeps rf hf) x) : Go d mX12_keeps 2 [some (.ref x0), some (.int x1)] [] h rf hf := by
  unfold fX12_keeps_2 at hs
  exact lpw_go (P := pX12_keeps_2 d x0 rf hf) (fun s x hs hk => oX12_keeps_2b hd hs hk) (x1, h) x hs hk
noncomputable def fX12_keeps (h : Hp) (x0 : Nat) : Option Hp :=
  fX12_keeps_2 h x0 (0 : Int32)
theorem oX12_keeps_0 {d : Nat} (hd : 0 ≤ d) {h : Hp} {x0 : Nat} {rf : Option Value} {hf : Hp} {x : Hp} (hs : fX12_keeps h x0 = some x) (hk : (kX12_keeps rf hf) x) : Go d mX12_keeps 0 [some (.ref x0), none] [] h rf hf := by
  unfold fX12_keeps at hs
  refine go_iconst (v := 0) (by decide) dX12_keeps_0 ?_
  refine go_istore_n (k4 := 1) (L' := [some (.ref x0), some (.int (0 : Int32))]) (by decide) rfl dX12_keeps_1 ?_
  exact go_subL (L' := [some (.ref x0), some (.int (0 : Int32))]) (by simp [subL, va_rf]) (oX12_keeps_2 hd hs hk)
theorem oX12_keeps {d : Nat} (hd : 0 ≤ d) {h : Hp} {x0 : Nat} {y : Hp} (hs : fX12_keeps h x0 = some y) : Call d mX12_keeps [.ref x0] h (none) y := call_of (by decide +kernel) (Nat.le_of_ble_eq_true rfl) (show Go d mX12_keeps 0 [some (.ref x0), none] [] h _ _ from go_subL (by simp [subL]) (oX12_keeps_0 hd hs ⟨rfl, rfl⟩))
