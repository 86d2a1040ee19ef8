/-! methods: their texts as functions, and that the machine does just that -/
abbrev kX6_open (rf : Option Value) (hf : Hp) : Hp → Prop := fun y => rf = none ∧ hf = y
noncomputable def fX6_open (h : Hp) (x0 : Nat) (x1 : Nat) (x2 : Int32) : Option Hp :=
  (sV h 6 x0 0 (.ref x1)).bind fun h1 =>
  (aL h1 x1).bind fun v2 =>
  (sV h1 6 x0 1 (.int (imin x2 v2))).bind fun h3 =>
  (sV h3 6 x0 2 (.int (0 : Int32))).bind fun h4 =>
  gO h4 6 x0 (
  (fX6_advance h4 x0).bind fun y5 =>
  some (y5))
theorem oX6_open_0 {d : Nat} (hd : 5 ≤ d) {h : Hp} {x0 : Nat} {x1 : Nat} {x2 : Int32} {rf : Option Value} {hf : Hp} {x : Hp} (hs : fX6_open h x0 x1 x2 = some x) (hk : (kX6_open rf hf) x) : Go d mX6_open 0 [some (.ref x0), some (.ref x1), some (.int x2)] [] h rf hf := by
  unfold fX6_open at hs
  refine go_aload_n (k4 := 0) rfl (Or.inr ⟨_, rfl⟩) dX6_open_0 ?_
  refine go_aload_n (k4 := 1) rfl (Or.inr ⟨_, rfl⟩) dX6_open_1 ?_
  obtain ⟨h1, eh1, hs⟩ := bindS hs
  refine go_sV fw_RX6_7 eh1 rfl rfl dX6_open_2 ?_
  refine go_aload_n (k4 := 0) rfl (Or.inr ⟨_, rfl⟩) dX6_open_5 ?_
  refine go_iload_n (k4 := 2) rfl dX6_open_6 ?_
  refine go_aload_n (k4 := 1) rfl (Or.inr ⟨_, rfl⟩) dX6_open_7 ?_
  obtain ⟨v2, ev2, hs⟩ := bindS hs
  refine go_aL ev2 dX6_open_8 ?_
  refine go_at 9 rfl ?_
  refine go_mmin lx_RX6_29.1 lx_RX6_29.2.1 lx_RX6_29.2.2.1 lx_RX6_29.2.2.2 (by omega) (Nat.le_of_ble_eq_true rfl) dX6_open_9 ?_
  obtain ⟨h3, eh3, hs⟩ := bindS hs
  refine go_sV fw_RX6_13 eh3 rfl rfl dX6_open_12 ?_
  refine go_aload_n (k4 := 0) rfl (Or.inr ⟨_, rfl⟩) dX6_open_15 ?_
  refine go_iconst (v := 0) (by decide) dX6_open_16 ?_
  obtain ⟨h4, eh4, hs⟩ := bindS hs
  refine go_sV fw_RX6_17 eh4 rfl rfl dX6_open_17 ?_
  refine go_aload_n (k4 := 0) rfl (Or.inr ⟨_, rfl⟩) dX6_open_20 ?_
  obtain ⟨g6, hs⟩ := gO_at hs
  obtain ⟨y5, ey5, hs⟩ := bindS hs
  refine go_V0 (As := []) (st := []) g6 rfl rfl (oX6_advance (d := d - 1) (by omega) ey5) (by omega) mb_X6_advance lm_RX6_35 mi_X6_advance (Nat.le_of_ble_eq_true rfl) rfl dX6_open_21 ?_
  obtain rfl := Option.some.inj hs
  obtain ⟨rfl, rfl⟩ := hk
  exact go_vret rfl dX6_open_24
theorem oX6_open {d : Nat} (hd : 5 ≤ d) {h : Hp} {x0 : Nat} {x1 : Nat} {x2 : Int32} {y : Hp} (hs : fX6_open h x0 x1 x2 = some y) : Call d mX6_open [.ref x0, .ref x1, .int x2] h (none) y := call_of (by decide +kernel) (Nat.le_of_ble_eq_true rfl) (show Go d mX6_open 0 [some (.ref x0), some (.ref x1), some (.int x2)] [] h _ _ from go_subL (by simp [subL]) (oX6_open_0 hd hs ⟨rfl, rfl⟩))
abbrev kX6_isAt (h : Hp) (rf : Option Value) (hf : Hp) : Int32 → Prop := fun y => rf = some (.int y) ∧ hf = h
abbrev pX6_isAt_36 (d : Nat) (h : Hp) (x0 : Nat) (x1 : Nat) (rf : Option Value) (hf : Hp) : Int32 → Prop := fun s => Go d mX6_isAt 36 [some (.ref x0), some (.ref x1), some (.int s)] [] h rf hf
noncomputable def fX6_isAt_84 (h : Hp)  : Option Int32 :=
  some ((1 : Int32))
theorem oX6_isAt_84 {d : Nat} (hd : 4 ≤ d) {h : Hp} {rf : Option Value} {hf : Hp} {x : Int32} (hs : fX6_isAt_84 h  = some x) (hk : (kX6_isAt h rf hf) x) : Go d mX6_isAt 84 [none, none, none] [] h rf hf := by
  unfold fX6_isAt_84 at hs
  refine go_iconst (v := 1) (by decide) dX6_isAt_84 ?_
  obtain rfl := Option.some.inj hs
  obtain ⟨rfl, rfl⟩ := hk
  exact go_zret (ty := .boolean) rfl rfl dX6_isAt_85
noncomputable def fX6_isAt_36b (h : Hp) (x0 : Nat) (x1 : Nat) (x2 : Int32) : Option (Int32 ⊕ Int32) :=
  gT x1 (
  (fJ0_length_8abf5 h x1).bind fun y6 =>
  if y6 ≤ x2 then (
  (fX6_isAt_84 h ).map (fun q => .inr q)) else (
    (gI h 6 x0 4).bind fun v8 =>
    (gI h 6 x0 1).bind fun v9 =>
    if v9 ≤ (v8 + x2) then (
    (fX6_isAt_84 h ).map (fun q => .inr q)) else (
      (gN h 6 x0 0).bind fun v10 =>
      (gI h 6 x0 4).bind fun v11 =>
      (aI 1 h v10 (v11 + x2)).bind fun v12 =>
      gT x1 (
      (fJ0_charAt_5068e h x1 x2).bind fun y13 =>
      if v12 = y13 then (
        some (.inl (x2 + Int32.ofInt 1))) else (
        some (.inr (0 : Int32)))))))
noncomputable def fX6_isAt_36 (h : Hp) (x0 : Nat) (x1 : Nat) (x2 : Int32) : Option Int32 := lpw (σ := Int32) (fun s => fX6_isAt_36b h x0 x1 s) x2
theorem oX6_isAt_36b {d : Nat} (hd : 4 ≤ d) {h : Hp} {x0 : Nat} {x1 : Nat} {x2 : Int32} {rf : Option Value} {hf : Hp} {x : (Int32 ⊕ Int32)} (hs : fX6_isAt_36b h x0 x1 x2 = some x) (hk : (Kx (pX6_isAt_36 d h x0 x1 rf hf) (kX6_isAt h rf hf)) x) : Go d mX6_isAt 36 [some (.ref x0), some (.ref x1), some (.int x2)] [] h rf hf := by
  unfold fX6_isAt_36b at hs
  refine go_iload_n (k4 := 2) rfl dX6_isAt_36 ?_
  refine go_aload_n (k4 := 1) rfl (Or.inr ⟨_, rfl⟩) dX6_isAt_37 ?_
  obtain ⟨g7, hs⟩ := gT_at hs
  obtain ⟨y6, ey6, hs⟩ := bindS hs
  refine go_T1 (As := []) (st := [.int x2]) g7 rfl (oJ0_length_8abf5 (d := d - 1) (by omega) ey6) (by omega) mb_J0_length_8abf5 lm_RX6_52 mi_J0_length_8abf5 (Nat.le_of_ble_eq_true rfl) rfl dX6_isAt_38 ?_
  refine go_icmp_ge (tgt := 84) (by decide) dX6_isAt_41 (fun c => ?_) (fun c => ?_)
  · have hs := if_t c hs
    obtain ⟨q, hs2, hq⟩ := mapS hs
    clear hs
    subst hq
    exact go_subL (L' := [none, none, none]) (by simp [subL, va_rf]) (oX6_isAt_84 hd hs2 hk)
  · have hs := if_f c hs
    refine go_aload_n (k4 := 0) rfl (Or.inr ⟨_, rfl⟩) dX6_isAt_44 ?_
    obtain ⟨v8, ev8, hs⟩ := bindS hs
    refine go_gI fl_RX6_23 ev8 dX6_isAt_45 ?_
    refine go_iload_n (k4 := 2) rfl dX6_isAt_48 ?_
    refine go_iadd dX6_isAt_49 ?_
    refine go_aload_n (k4 := 0) rfl (Or.inr ⟨_, rfl⟩) dX6_isAt_50 ?_
    obtain ⟨v9, ev9, hs⟩ := bindS hs
    refine go_gI fl_RX6_13 ev9 dX6_isAt_51 ?_
    refine go_icmp_ge (tgt := 84) (by decide) dX6_isAt_54 (fun c => ?_) (fun c => ?_)
    · have hs := if_t c hs
      obtain ⟨q, hs2, hq⟩ := mapS hs
      clear hs
      subst hq
      exact go_subL (L' := [none, none, none]) (by simp [subL, va_rf]) (oX6_isAt_84 hd hs2 hk)
    · have hs := if_f c hs
      refine go_aload_n (k4 := 0) rfl (Or.inr ⟨_, rfl⟩) dX6_isAt_57 ?_
      obtain ⟨v10, ev10, hs⟩ := bindS hs
      refine go_gN fl_RX6_7 ev10 dX6_isAt_58 ?_
      refine go_aload_n (k4 := 0) rfl (Or.inr ⟨_, rfl⟩) dX6_isAt_61 ?_
      obtain ⟨v11, ev11, hs⟩ := bindS hs
      refine go_gI fl_RX6_23 ev11 dX6_isAt_62 ?_
      refine go_iload_n (k4 := 2) rfl dX6_isAt_65 ?_
      refine go_iadd dX6_isAt_66 ?_
      obtain ⟨v12, ev12, hs⟩ := bindS hs
      refine go_aIb ev12 dX6_isAt_67 ?_
      refine go_at 68 rfl ?_
      refine go_aload_n (k4 := 1) rfl (Or.inr ⟨_, rfl⟩) dX6_isAt_68 ?_
      refine go_iload_n (k4 := 2) rfl dX6_isAt_69 ?_
      obtain ⟨g14, hs⟩ := gT_at hs
      obtain ⟨y13, ey13, hs⟩ := bindS hs
      refine go_T1 (As := [.int x2]) (st := [.int v12]) g14 rfl (oJ0_charAt_5068e (d := d - 1) (by omega) ey13) (by omega) mb_J0_charAt_5068e lm_RX6_55 mi_J0_charAt_5068e (Nat.le_of_ble_eq_true rfl) rfl dX6_isAt_70 ?_
      refine go_icmp_eq (tgt := 78) (by decide) dX6_isAt_73 (fun c => ?_) (fun c => ?_)
      · have hs := if_t c hs
        refine go_iinc (L' := [some (.ref x0), some (.ref x1), some (.int (x2 + Int32.ofInt 1))]) rfl (by decide) rfl rfl dX6_isAt_78 ?_
        refine go_goto (tgt := 36) (by decide) dX6_isAt_81 ?_
        obtain rfl := Option.some.inj hs
        exact go_subL (L' := [some (.ref x0), some (.ref x1), some (.int (x2 + Int32.ofInt 1))]) (by simp [subL, va_rf]) hk
      · have hs := if_f c hs
        refine go_iconst (v := 0) (by decide) dX6_isAt_76 ?_
        obtain rfl := Option.some.inj hs
        obtain ⟨rfl, rfl⟩ := hk
        exact go_zret (ty := .boolean) rfl rfl dX6_isAt_77
theorem oX6_isAt_36 {d : Nat} (hd : 4 ≤ d) {h : Hp} {x0 : Nat} {x1 : Nat} {x2 : Int32} {rf : Option Value} {hf : Hp} {x : Int32} (hs : fX6_isAt_36 h x0 x1 x2 = some x) (hk : (kX6_isAt h rf hf) x) : Go d mX6_isAt 36 [some (.ref x0), some (.ref x1), some (.int x2)] [] h rf hf := by
  unfold fX6_isAt_36 at hs
  exact lpw_go (P := pX6_isAt_36 d h x0 x1 rf hf) (fun s x hs hk => oX6_isAt_36b hd hs hk) x2 x hs hk
noncomputable def fX6_isAt_32 (h : Hp)  : Option Int32 :=
  some ((0 : Int32))
theorem oX6_isAt_32 {d : Nat} (hd : 4 ≤ d) {h : Hp} {rf : Option Value} {hf : Hp} {x : Int32} (hs : fX6_isAt_32 h  = some x) (hk : (kX6_isAt h rf hf) x) : Go d mX6_isAt 32 [none, none, none] [] h rf hf := by
  unfold fX6_isAt_32 at hs
  refine go_iconst (v := 0) (by decide) dX6_isAt_32 ?_
  obtain rfl := Option.some.inj hs
  obtain ⟨rfl, rfl⟩ := hk
  exact go_zret (ty := .boolean) rfl rfl dX6_isAt_33
noncomputable def fX6_isAt_16 (h : Hp) (x0 : Nat) (x1 : Nat) : Option Int32 :=
  gT x1 (
  (fJ0_length_8abf5 h x1).bind fun y2 =>
  (gI h 6 x0 2).bind fun v4 =>
  (gI h 6 x0 4).bind fun v5 =>
  if y2 = (v4 - v5) then (
    fX6_isAt_36 h x0 x1 (0 : Int32)) else (
  fX6_isAt_32 h ))
theorem oX6_isAt_16 {d : Nat} (hd : 4 ≤ d) {h : Hp} {x0 : Nat} {x1 : Nat} {rf : Option Value} {hf : Hp} {x : Int32} (hs : fX6_isAt_16 h x0 x1 = some x) (hk : (kX6_isAt h rf hf) x) : Go d mX6_isAt 16 [some (.ref x0), some (.ref x1), none] [] h rf hf := by
  unfold fX6_isAt_16 at hs
  refine go_aload_n (k4 := 1) rfl (Or.inr ⟨_, rfl⟩) dX6_isAt_16 ?_
  obtain ⟨g3, hs⟩ := gT_at hs
  obtain ⟨y2, ey2, hs⟩ := bindS hs
  refine go_T1 (As := []) (st := []) g3 rfl (oJ0_length_8abf5 (d := d - 1) (by omega) ey2) (by omega) mb_J0_length_8abf5 lm_RX6_52 mi_J0_length_8abf5 (Nat.le_of_ble_eq_true rfl) rfl dX6_isAt_17 ?_
  refine go_aload_n (k4 := 0) rfl (Or.inr ⟨_, rfl⟩) dX6_isAt_20 ?_
  obtain ⟨v4, ev4, hs⟩ := bindS hs
  refine go_gI fl_RX6_17 ev4 dX6_isAt_21 ?_
  refine go_aload_n (k4 := 0) rfl (Or.inr ⟨_, rfl⟩) dX6_isAt_24 ?_
  obtain ⟨v5, ev5, hs⟩ := bindS hs
  refine go_gI fl_RX6_23 ev5 dX6_isAt_25 ?_
  refine go_isub dX6_isAt_28 ?_
  refine go_at 29 rfl ?_
  refine go_icmp_eq (tgt := 34) (by decide) dX6_isAt_29 (fun c => ?_) (fun c => ?_)
  · have hs := if_t c hs
    refine go_iconst (v := 0) (by decide) dX6_isAt_34 ?_
    refine go_istore_n (k4 := 2) (L' := [some (.ref x0), some (.ref x1), some (.int (0 : Int32))]) (by decide) rfl dX6_isAt_35 ?_
    exact go_subL (L' := [some (.ref x0), some (.ref x1), some (.int (0 : Int32))]) (by simp [subL, va_rf]) (oX6_isAt_36 hd hs hk)
  · have hs := if_f c hs
    exact go_subL (L' := [none, none, none]) (by simp [subL, va_rf]) (oX6_isAt_32 hd hs hk)
noncomputable def fX6_isAt (h : Hp) (x0 : Nat) (x1 : Nat) : Option Int32 :=
  (gI h 6 x0 3).bind fun v1 =>
  if v1 = (1 : Int32) then (
  fX6_isAt_16 h x0 x1) else (
    (gI h 6 x0 3).bind fun v15 =>
    if v15 = (3 : Int32) then (
    fX6_isAt_16 h x0 x1) else (
    fX6_isAt_32 h ))
theorem oX6_isAt_0 {d : Nat} (hd : 4 ≤ d) {h : Hp} {x0 : Nat} {x1 : Nat} {rf : Option Value} {hf : Hp} {x : Int32} (hs : fX6_isAt h x0 x1 = some x) (hk : (kX6_isAt h rf hf) x) : Go d mX6_isAt 0 [some (.ref x0), some (.ref x1), none] [] h rf hf := by
  unfold fX6_isAt at hs
  refine go_aload_n (k4 := 0) rfl (Or.inr ⟨_, rfl⟩) dX6_isAt_0 ?_
  obtain ⟨v1, ev1, hs⟩ := bindS hs
  refine go_gI fl_RX6_20 ev1 dX6_isAt_1 ?_
  refine go_iconst (v := 1) (by decide) dX6_isAt_4 ?_
  refine go_icmp_eq (tgt := 16) (by decide) dX6_isAt_5 (fun c => ?_) (fun c => ?_)
  · have hs := if_t c hs
    exact go_subL (L' := [some (.ref x0), some (.ref x1), none]) (by simp [subL, va_rf]) (oX6_isAt_16 hd hs hk)
  · have hs := if_f c hs
    refine go_aload_n (k4 := 0) rfl (Or.inr ⟨_, rfl⟩) dX6_isAt_8 ?_
    obtain ⟨v15, ev15, hs⟩ := bindS hs
    refine go_gI fl_RX6_20 ev15 dX6_isAt_9 ?_
    refine go_iconst (v := 3) (by decide) dX6_isAt_12 ?_
    refine go_icmp_ne (tgt := 32) (by decide) dX6_isAt_13 (fun c => ?_) (fun c => ?_)
    · have hs := if_f c hs
      exact go_subL (L' := [none, none, none]) (by simp [subL, va_rf]) (oX6_isAt_32 hd hs hk)
    · have hs := if_t c hs
      exact go_subL (L' := [some (.ref x0), some (.ref x1), none]) (by simp [subL, va_rf]) (oX6_isAt_16 hd hs hk)
theorem oX6_isAt {d : Nat} (hd : 4 ≤ d) {h : Hp} {x0 : Nat} {x1 : Nat} {y : Int32} (hs : fX6_isAt h x0 x1 = some y) : Call d mX6_isAt [.ref x0, .ref x1] h (some (.int y)) h := call_of (by decide +kernel) (Nat.le_of_ble_eq_true rfl) (show Go d mX6_isAt 0 [some (.ref x0), some (.ref x1), none] [] h _ _ from go_subL (by simp [subL]) (oX6_isAt_0 hd hs ⟨rfl, rfl⟩))
abbrev kX4_refuse (rf : Option Value) (hf : Hp) : (Int32 × Hp) → Prop := fun y => rf = some (.int y.1) ∧ hf = y.2
noncomputable def fX4_refuse_17 (h : Hp) (x0 : Nat) (s0 : Nat) (s1 : Int32) : Option (Int32 × Hp) :=
  (sV h 4 s0 5 (.int s1)).bind fun h3 =>
  (gN h3 4 x0 0).bind fun v4 =>
  (gI h3 6 v4 4).bind fun v5 =>
  (sV h3 4 x0 6 (.int v5)).bind fun h6 =>
  some (((0 : Int32), h6))
theorem oX4_refuse_17 {d : Nat} (hd : 0 ≤ d) {h : Hp} {x0 : Nat} {s0 : Nat} {s1 : Int32} {rf : Option Value} {hf : Hp} {x : (Int32 × Hp)} (hs : fX4_refuse_17 h x0 s0 s1 = some x) (hk : (kX4_refuse rf hf) x) : Go d mX4_refuse 17 [some (.ref x0), none] [.int s1, .ref s0] h rf hf := by
  unfold fX4_refuse_17 at hs
  obtain ⟨h3, eh3, hs⟩ := bindS hs
  refine go_sV fw_RX4_33 eh3 rfl rfl dX4_refuse_17 ?_
  refine go_aload_n (k4 := 0) rfl (Or.inr ⟨_, rfl⟩) dX4_refuse_20 ?_
  refine go_aload_n (k4 := 0) rfl (Or.inr ⟨_, rfl⟩) dX4_refuse_21 ?_
  obtain ⟨v4, ev4, hs⟩ := bindS hs
  refine go_gN fl_RX4_12 ev4 dX4_refuse_22 ?_
  obtain ⟨v5, ev5, hs⟩ := bindS hs
  refine go_gI fl_RX4_89 ev5 dX4_refuse_25 ?_
  obtain ⟨h6, eh6, hs⟩ := bindS hs
  refine go_sV fw_RX4_36 eh6 rfl rfl dX4_refuse_28 ?_
  refine go_iconst (v := 0) (by decide) dX4_refuse_31 ?_
  refine go_at 32 rfl ?_
  obtain rfl := Option.some.inj hs
  obtain ⟨rfl, rfl⟩ := hk
  exact go_zret (ty := .boolean) rfl rfl dX4_refuse_32
noncomputable def fX4_refuse (h : Hp) (x0 : Nat) (x1 : Int32) : Option (Int32 × Hp) :=
  (gN h 4 x0 0).bind fun v1 =>
  (gI h 6 v1 3).bind fun v2 =>
  if v2 = (4 : Int32) then (
    fX4_refuse_17 h x0 x0 (1 : Int32)) else (
    fX4_refuse_17 h x0 x0 x1)
theorem oX4_refuse_0 {d : Nat} (hd : 0 ≤ d) {h : Hp} {x0 : Nat} {x1 : Int32} {rf : Option Value} {hf : Hp} {x : (Int32 × Hp)} (hs : fX4_refuse h x0 x1 = some x) (hk : (kX4_refuse rf hf) x) : Go d mX4_refuse 0 [some (.ref x0), some (.int x1)] [] h rf hf := by
  unfold fX4_refuse at hs
  refine go_aload_n (k4 := 0) rfl (Or.inr ⟨_, rfl⟩) dX4_refuse_0 ?_
  refine go_aload_n (k4 := 0) rfl (Or.inr ⟨_, rfl⟩) dX4_refuse_1 ?_
  obtain ⟨v1, ev1, hs⟩ := bindS hs
  refine go_gN fl_RX4_12 ev1 dX4_refuse_2 ?_
  obtain ⟨v2, ev2, hs⟩ := bindS hs
  refine go_gI fl_RX4_78 ev2 dX4_refuse_5 ?_
  refine go_iconst (v := 4) (by decide) dX4_refuse_8 ?_
  refine go_icmp_ne (tgt := 16) (by decide) dX4_refuse_9 (fun c => ?_) (fun c => ?_)
  · have hs := if_f c hs
    refine go_iload_n (k4 := 1) rfl dX4_refuse_16 ?_
    exact go_subL (L' := [some (.ref x0), none]) (by simp [subL, va_rf]) (oX4_refuse_17 hd hs hk)
  · have hs := if_t c hs
    refine go_iconst (v := 1) (by decide) dX4_refuse_12 ?_
    refine go_goto (tgt := 17) (by decide) dX4_refuse_13 ?_
    exact go_subL (L' := [some (.ref x0), none]) (by simp [subL, va_rf]) (oX4_refuse_17 hd hs hk)
theorem oX4_refuse {d : Nat} (hd : 0 ≤ d) {h : Hp} {x0 : Nat} {x1 : Int32} {y : (Int32 × Hp)} (hs : fX4_refuse h x0 x1 = some y) : Call d mX4_refuse [.ref x0, .int x1] h (some (.int y.1)) (y.2) := call_of (by decide +kernel) (Nat.le_of_ble_eq_true rfl) (show Go d mX4_refuse 0 [some (.ref x0), some (.int x1)] [] h _ _ from go_subL (by simp [subL]) (oX4_refuse_0 hd hs ⟨rfl, rfl⟩))
abbrev kX4_take (rf : Option Value) (hf : Hp) : (Int32 × Hp) → Prop := fun y => rf = some (.int y.1) ∧ hf = y.2
noncomputable def fX4_take (h : Hp) (x0 : Nat) (x1 : Nat) : Option (Int32 × Hp) :=
  (gN h 4 x0 0).bind fun v1 =>
  gO h 6 v1 (
  (fX6_isAt h v1 x1).bind fun y2 =>
  if y2 = 0 then (
    gO h 4 x0 (
    (fX4_refuse h x0 (2 : Int32)).bind fun y7 =>
    bl y7.1 (some ((y7.1, y7.2))))) else (
    (gN h 4 x0 0).bind fun v4 =>
    gO h 6 v4 (
    (fX6_advance h v4).bind fun y5 =>
    some (((1 : Int32), y5)))))
theorem oX4_take_0 {d : Nat} (hd : 5 ≤ d) {h : Hp} {x0 : Nat} {x1 : Nat} {rf : Option Value} {hf : Hp} {x : (Int32 × Hp)} (hs : fX4_take h x0 x1 = some x) (hk : (kX4_take rf hf) x) : Go d mX4_take 0 [some (.ref x0), some (.ref x1)] [] h rf hf := by
  unfold fX4_take at hs
  refine go_aload_n (k4 := 0) rfl (Or.inr ⟨_, rfl⟩) dX4_take_0 ?_
  obtain ⟨v1, ev1, hs⟩ := bindS hs
  refine go_gN fl_RX4_12 ev1 dX4_take_1 ?_
  refine go_aload_n (k4 := 1) rfl (Or.inr ⟨_, rfl⟩) dX4_take_4 ?_
  obtain ⟨g3, hs⟩ := gO_at hs
  obtain ⟨y2, ey2, hs⟩ := bindS hs
  refine go_V1 (As := [.ref x1]) (st := []) g3 rfl rfl (oX6_isAt (d := d - 1) (by omega) ey2) (by omega) mb_X6_isAt lm_RX4_92 mi_X6_isAt (Nat.le_of_ble_eq_true rfl) rfl dX4_take_5 ?_
  refine go_if_ne (tgt := 17) (by decide) dX4_take_8 (fun c => ?_) (fun c => ?_)
  · have hs := if_f c hs
    refine go_aload_n (k4 := 0) rfl (Or.inr ⟨_, rfl⟩) dX4_take_17 ?_
    obtain ⟨v4, ev4, hs⟩ := bindS hs
    refine go_gN fl_RX4_12 ev4 dX4_take_18 ?_
    obtain ⟨g6, hs⟩ := gO_at hs
    obtain ⟨y5, ey5, hs⟩ := bindS hs
    refine go_V0 (As := []) (st := []) g6 rfl rfl (oX6_advance (d := d - 1) (by omega) ey5) (by omega) mb_X6_advance lm_RX4_100 mi_X6_advance (Nat.le_of_ble_eq_true rfl) rfl dX4_take_21 ?_
    refine go_iconst (v := 1) (by decide) dX4_take_24 ?_
    obtain rfl := Option.some.inj hs
    obtain ⟨rfl, rfl⟩ := hk
    exact go_zret (ty := .boolean) rfl rfl dX4_take_25
  · have hs := if_t c hs
    refine go_aload_n (k4 := 0) rfl (Or.inr ⟨_, rfl⟩) dX4_take_11 ?_
    refine go_iconst (v := 2) (by decide) dX4_take_12 ?_
    obtain ⟨g8, hs⟩ := gO_at hs
    obtain ⟨y7, ey7, hs⟩ := bindS hs
    refine go_V1 (As := [.int (2 : Int32)]) (st := []) g8 rfl rfl (oX4_refuse (d := d - 1) (by omega) ey7) (by omega) mb_X4_refuse lm_RX4_96 mi_X4_refuse (Nat.le_of_ble_eq_true rfl) rfl dX4_take_13 ?_
    obtain ⟨n1, n2, hs⟩ := bl_at hs
    obtain rfl := Option.some.inj hs
    obtain ⟨rfl, rfl⟩ := hk
    exact go_zret (ty := .boolean) rfl n1 dX4_take_16
theorem oX4_take {d : Nat} (hd : 5 ≤ d) {h : Hp} {x0 : Nat} {x1 : Nat} {y : (Int32 × Hp)} (hs : fX4_take h x0 x1 = some y) : Call d mX4_take [.ref x0, .ref x1] h (some (.int y.1)) (y.2) := call_of (by decide +kernel) (Nat.le_of_ble_eq_true rfl) (show Go d mX4_take 0 [some (.ref x0), some (.ref x1)] [] h _ _ from go_subL (by simp [subL]) (oX4_take_0 hd hs ⟨rfl, rfl⟩))
abbrev kX4_takeNumber (rf : Option Value) (hf : Hp) : (Int32 × Hp) → Prop := fun y => rf = some (.int y.1) ∧ hf = y.2
noncomputable def fX4_takeNumber (h : Hp) (x0 : Nat) (x1 : Int32) : Option (Int32 × Hp) :=
  (gN h 4 x0 0).bind fun v1 =>
  (gI h 6 v1 3).bind fun v2 =>
  if v2 = (2 : Int32) then (
    (gN h 4 x0 0).bind fun v3 =>
    (gI h 6 v3 5).bind fun v4 =>
    if v4 ≤ x1 then (
      (gN h 4 x0 0).bind fun v5 =>
      (gI h 6 v5 5).bind fun v6 =>
      (sV h 4 x0 4 (.int v6)).bind fun h7 =>
      (gN h7 4 x0 0).bind fun v8 =>
      gO h7 6 v8 (
      (fX6_advance h7 v8).bind fun y9 =>
      some (((1 : Int32), y9)))) else (
      gO h 4 x0 (
      (fX4_refuse h x0 (3 : Int32)).bind fun y11 =>
      bl y11.1 (some ((y11.1, y11.2)))))) else (
    gO h 4 x0 (
    (fX4_refuse h x0 (2 : Int32)).bind fun y13 =>
    bl y13.1 (some ((y13.1, y13.2)))))
theorem oX4_takeNumber_0 {d : Nat} (hd : 5 ≤ d) {h : Hp} {x0 : Nat} {x1 : Int32} {rf : Option Value} {hf : Hp} {x : (Int32 × Hp)} (hs : fX4_takeNumber h x0 x1 = some x) (hk : (kX4_takeNumber rf hf) x) : Go d mX4_takeNumber 0 [some (.ref x0), some (.int x1)] [] h rf hf := by
  unfold fX4_takeNumber at hs
  refine go_aload_n (k4 := 0) rfl (Or.inr ⟨_, rfl⟩) dX4_takeNumber_0 ?_
  obtain ⟨v1, ev1, hs⟩ := bindS hs
  refine go_gN fl_RX4_12 ev1 dX4_takeNumber_1 ?_
  obtain ⟨v2, ev2, hs⟩ := bindS hs
  refine go_gI fl_RX4_78 ev2 dX4_takeNumber_4 ?_
  refine go_iconst (v := 2) (by decide) dX4_takeNumber_7 ?_
  refine go_icmp_eq (tgt := 17) (by decide) dX4_takeNumber_8 (fun c => ?_) (fun c => ?_)
  · have hs := if_t c hs
    refine go_aload_n (k4 := 0) rfl (Or.inr ⟨_, rfl⟩) dX4_takeNumber_17 ?_
    obtain ⟨v3, ev3, hs⟩ := bindS hs
    refine go_gN fl_RX4_12 ev3 dX4_takeNumber_18 ?_
    obtain ⟨v4, ev4, hs⟩ := bindS hs
    refine go_gI fl_RX4_103 ev4 dX4_takeNumber_21 ?_
    refine go_iload_n (k4 := 1) rfl dX4_takeNumber_24 ?_
    refine go_icmp_le (tgt := 34) (by decide) dX4_takeNumber_25 (fun c => ?_) (fun c => ?_)
    · have hs := if_t c hs
      refine go_aload_n (k4 := 0) rfl (Or.inr ⟨_, rfl⟩) dX4_takeNumber_34 ?_
      refine go_aload_n (k4 := 0) rfl (Or.inr ⟨_, rfl⟩) dX4_takeNumber_35 ?_
      obtain ⟨v5, ev5, hs⟩ := bindS hs
      refine go_gN fl_RX4_12 ev5 dX4_takeNumber_36 ?_
      obtain ⟨v6, ev6, hs⟩ := bindS hs
      refine go_gI fl_RX4_103 ev6 dX4_takeNumber_39 ?_
      obtain ⟨h7, eh7, hs⟩ := bindS hs
      refine go_sV fw_RX4_30 eh7 rfl rfl dX4_takeNumber_42 ?_
      refine go_aload_n (k4 := 0) rfl (Or.inr ⟨_, rfl⟩) dX4_takeNumber_45 ?_
      obtain ⟨v8, ev8, hs⟩ := bindS hs
      refine go_gN fl_RX4_12 ev8 dX4_takeNumber_46 ?_
      refine go_at 49 rfl ?_
      obtain ⟨g10, hs⟩ := gO_at hs
      obtain ⟨y9, ey9, hs⟩ := bindS hs
      refine go_V0 (As := []) (st := []) g10 rfl rfl (oX6_advance (d := d - 1) (by omega) ey9) (by omega) mb_X6_advance lm_RX4_100 mi_X6_advance (Nat.le_of_ble_eq_true rfl) rfl dX4_takeNumber_49 ?_
      refine go_iconst (v := 1) (by decide) dX4_takeNumber_52 ?_
      obtain rfl := Option.some.inj hs
      obtain ⟨rfl, rfl⟩ := hk
      exact go_zret (ty := .boolean) rfl rfl dX4_takeNumber_53
    · have hs := if_f c hs
      refine go_aload_n (k4 := 0) rfl (Or.inr ⟨_, rfl⟩) dX4_takeNumber_28 ?_
      refine go_iconst (v := 3) (by decide) dX4_takeNumber_29 ?_
      obtain ⟨g12, hs⟩ := gO_at hs
      obtain ⟨y11, ey11, hs⟩ := bindS hs
      refine go_V1 (As := [.int (3 : Int32)]) (st := []) g12 rfl rfl (oX4_refuse (d := d - 1) (by omega) ey11) (by omega) mb_X4_refuse lm_RX4_96 mi_X4_refuse (Nat.le_of_ble_eq_true rfl) rfl dX4_takeNumber_30 ?_
      obtain ⟨n1, n2, hs⟩ := bl_at hs
      obtain rfl := Option.some.inj hs
      obtain ⟨rfl, rfl⟩ := hk
      exact go_zret (ty := .boolean) rfl n1 dX4_takeNumber_33
  · have hs := if_f c hs
    refine go_aload_n (k4 := 0) rfl (Or.inr ⟨_, rfl⟩) dX4_takeNumber_11 ?_
    refine go_iconst (v := 2) (by decide) dX4_takeNumber_12 ?_
    obtain ⟨g14, hs⟩ := gO_at hs
    obtain ⟨y13, ey13, hs⟩ := bindS hs
    refine go_V1 (As := [.int (2 : Int32)]) (st := []) g14 rfl rfl (oX4_refuse (d := d - 1) (by omega) ey13) (by omega) mb_X4_refuse lm_RX4_96 mi_X4_refuse (Nat.le_of_ble_eq_true rfl) rfl dX4_takeNumber_13 ?_
    obtain ⟨n1, n2, hs⟩ := bl_at hs
    obtain rfl := Option.some.inj hs
    obtain ⟨rfl, rfl⟩ := hk
    exact go_zret (ty := .boolean) rfl n1 dX4_takeNumber_16
theorem oX4_takeNumber {d : Nat} (hd : 5 ≤ d) {h : Hp} {x0 : Nat} {x1 : Int32} {y : (Int32 × Hp)} (hs : fX4_takeNumber h x0 x1 = some y) : Call d mX4_takeNumber [.ref x0, .int x1] h (some (.int y.1)) (y.2) := call_of (by decide +kernel) (Nat.le_of_ble_eq_true rfl) (show Go d mX4_takeNumber 0 [some (.ref x0), some (.int x1)] [] h _ _ from go_subL (by simp [subL]) (oX4_takeNumber_0 hd hs ⟨rfl, rfl⟩))
abbrev kX4_tellCave (rf : Option Value) (hf : Hp) : (Int32 × Hp) → Prop := fun y => rf = some (.int y.1) ∧ hf = y.2
noncomputable def fX4_tellCave_26 (h : Hp)  : Option (Int32 × Hp) :=
  some (((0 : Int32), h))
theorem oX4_tellCave_26 {d : Nat} (hd : 6 ≤ d) {h : Hp} {rf : Option Value} {hf : Hp} {x : (Int32 × Hp)} (hs : fX4_tellCave_26 h  = some x) (hk : (kX4_tellCave rf hf) x) : Go d mX4_tellCave 26 [none] [] h rf hf := by
  unfold fX4_tellCave_26 at hs
  refine go_iconst (v := 0) (by decide) dX4_tellCave_26 ?_
  obtain rfl := Option.some.inj hs
  obtain ⟨rfl, rfl⟩ := hk
  exact go_zret (ty := .boolean) rfl rfl dX4_tellCave_27
noncomputable def fX4_tellCave (h : Hp) (x0 : Nat) : Option (Int32 × Hp) :=
  gO h 4 x0 (
  (fX4_take h x0 4).bind fun y1 =>
  if y1.1 = 0 then (
  fX4_tellCave_26 y1.2 ) else (
    gO y1.2 4 x0 (
    (fX4_take y1.2 x0 5).bind fun y3 =>
    if y3.1 = 0 then (
    fX4_tellCave_26 y3.2 ) else (
      gO y3.2 4 x0 (
      (fX4_takeNumber y3.2 x0 (4 : Int32)).bind fun y5 =>
      if y5.1 = 0 then (
      fX4_tellCave_26 y5.2 ) else (
        (gI y5.2 4 x0 4).bind fun v7 =>
        (sV y5.2 4 x0 9 (.int v7)).bind fun h8 =>
        (sV h8 4 x0 7 (.int (1 : Int32))).bind fun h9 =>
        gO h9 4 x0 (
        (fX4_take h9 x0 6).bind fun y10 =>
        bl y10.1 (some ((y10.1, y10.2))))))))))
theorem oX4_tellCave_0 {d : Nat} (hd : 6 ≤ d) {h : Hp} {x0 : Nat} {rf : Option Value} {hf : Hp} {x : (Int32 × Hp)} (hs : fX4_tellCave h x0 = some x) (hk : (kX4_tellCave rf hf) x) : Go d mX4_tellCave 0 [some (.ref x0)] [] h rf hf := by
  unfold fX4_tellCave at hs
  refine go_aload_n (k4 := 0) rfl (Or.inr ⟨_, rfl⟩) dX4_tellCave_0 ?_
  refine go_str (j := 4) ls_RX4_106 dX4_tellCave_1 ?_
  obtain ⟨g2, hs⟩ := gO_at hs
  obtain ⟨y1, ey1, hs⟩ := bindS hs
  refine go_V1 (As := [.ref 4]) (st := []) g2 rfl rfl (oX4_take (d := d - 1) (by omega) ey1) (by omega) mb_X4_take lm_RX4_108 mi_X4_take (Nat.le_of_ble_eq_true rfl) rfl dX4_tellCave_3 ?_
  refine go_if_eq (tgt := 26) (by decide) dX4_tellCave_6 (fun c => ?_) (fun c => ?_)
  · have hs := if_t c hs
    exact go_subL (L' := [none]) (by simp [subL, va_rf]) (oX4_tellCave_26 hd hs hk)
  · have hs := if_f c hs
    refine go_aload_n (k4 := 0) rfl (Or.inr ⟨_, rfl⟩) dX4_tellCave_9 ?_
    refine go_str (j := 5) ls_RX4_111 dX4_tellCave_10 ?_
    obtain ⟨g4, hs⟩ := gO_at hs
    obtain ⟨y3, ey3, hs⟩ := bindS hs
    refine go_V1 (As := [.ref 5]) (st := []) g4 rfl rfl (oX4_take (d := d - 1) (by omega) ey3) (by omega) mb_X4_take lm_RX4_108 mi_X4_take (Nat.le_of_ble_eq_true rfl) rfl dX4_tellCave_12 ?_
    refine go_if_eq (tgt := 26) (by decide) dX4_tellCave_15 (fun c => ?_) (fun c => ?_)
    · have hs := if_t c hs
      exact go_subL (L' := [none]) (by simp [subL, va_rf]) (oX4_tellCave_26 hd hs hk)
    · have hs := if_f c hs
      refine go_aload_n (k4 := 0) rfl (Or.inr ⟨_, rfl⟩) dX4_tellCave_18 ?_
      refine go_iconst (v := 4) (by decide) dX4_tellCave_19 ?_
      obtain ⟨g6, hs⟩ := gO_at hs
      obtain ⟨y5, ey5, hs⟩ := bindS hs
      refine go_V1 (As := [.int (4 : Int32)]) (st := []) g6 rfl rfl (oX4_takeNumber (d := d - 1) (by omega) ey5) (by omega) mb_X4_takeNumber lm_RX4_112 mi_X4_takeNumber (Nat.le_of_ble_eq_true rfl) rfl dX4_tellCave_20 ?_
      refine go_if_ne (tgt := 28) (by decide) dX4_tellCave_23 (fun c => ?_) (fun c => ?_)
      · have hs := if_f c hs
        refine go_aload_n (k4 := 0) rfl (Or.inr ⟨_, rfl⟩) dX4_tellCave_28 ?_
        refine go_aload_n (k4 := 0) rfl (Or.inr ⟨_, rfl⟩) dX4_tellCave_29 ?_
        obtain ⟨v7, ev7, hs⟩ := bindS hs
        refine go_gI fl_RX4_30 ev7 dX4_tellCave_30 ?_
        obtain ⟨h8, eh8, hs⟩ := bindS hs
        refine go_sV fw_RX4_45 eh8 rfl rfl dX4_tellCave_33 ?_
        refine go_aload_n (k4 := 0) rfl (Or.inr ⟨_, rfl⟩) dX4_tellCave_36 ?_
        refine go_iconst (v := 1) (by decide) dX4_tellCave_37 ?_
        obtain ⟨h9, eh9, hs⟩ := bindS hs
        refine go_sV fw_RX4_39 eh9 rfl rfl dX4_tellCave_38 ?_
        refine go_at 41 rfl ?_
        refine go_aload_n (k4 := 0) rfl (Or.inr ⟨_, rfl⟩) dX4_tellCave_41 ?_
        refine go_str (j := 6) ls_RX4_115 dX4_tellCave_42 ?_
        obtain ⟨g11, hs⟩ := gO_at hs
        obtain ⟨y10, ey10, hs⟩ := bindS hs
        refine go_V1 (As := [.ref 6]) (st := []) g11 rfl rfl (oX4_take (d := d - 1) (by omega) ey10) (by omega) mb_X4_take lm_RX4_108 mi_X4_take (Nat.le_of_ble_eq_true rfl) rfl dX4_tellCave_44 ?_
        obtain ⟨n1, n2, hs⟩ := bl_at hs
        obtain rfl := Option.some.inj hs
        obtain ⟨rfl, rfl⟩ := hk
        exact go_zret (ty := .boolean) rfl n1 dX4_tellCave_47
      · have hs := if_t c hs
        exact go_subL (L' := [none]) (by simp [subL, va_rf]) (oX4_tellCave_26 hd hs hk)
theorem oX4_tellCave {d : Nat} (hd : 6 ≤ d) {h : Hp} {x0 : Nat} {y : (Int32 × Hp)} (hs : fX4_tellCave h x0 = some y) : Call d mX4_tellCave [.ref x0] h (some (.int y.1)) (y.2) := call_of (by decide +kernel) (Nat.le_of_ble_eq_true rfl) (show Go d mX4_tellCave 0 [some (.ref x0)] [] h _ _ from go_subL (by simp [subL]) (oX4_tellCave_0 hd hs ⟨rfl, rfl⟩))
abbrev kX4_tellPair (rf : Option Value) (hf : Hp) : (Int32 × Hp) → Prop := fun y => rf = some (.int y.1) ∧ hf = y.2
noncomputable def fX4_tellPair_53 (h : Hp)  : Option (Int32 × Hp) :=
  some (((0 : Int32), h))
theorem oX4_tellPair_53 {d : Nat} (hd : 6 ≤ d) {h : Hp} {rf : Option Value} {hf : Hp} {x : (Int32 × Hp)} (hs : fX4_tellPair_53 h  = some x) (hk : (kX4_tellPair rf hf) x) : Go d mX4_tellPair 53 [none, none, none] [] h rf hf := by
  unfold fX4_tellPair_53 at hs
  refine go_iconst (v := 0) (by decide) dX4_tellPair_53 ?_
  obtain rfl := Option.some.inj hs
  obtain ⟨rfl, rfl⟩ := hk
  exact go_zret (ty := .boolean) rfl rfl dX4_tellPair_54
abbrev pX4_tellPair_81 (d : Nat) (x0 : Nat) (rf : Option Value) (hf : Hp) : (Int32 × Int32 × Hp) → Prop := fun s => Go d mX4_tellPair 81 [some (.ref x0), some (.int s.1), some (.int s.2.1)] [] s.2.2 rf hf
noncomputable def fX4_tellPair_129 (h : Hp) (x0 : Nat) (x1 : Int32) : Option (Int32 × Hp) :=
  (gI h 4 x0 12).bind fun v15 =>
  (gI h 4 x0 8).bind fun v16 =>
  (tT 1 v16).bind fun v17 =>
  (sV h 4 x0 12 (.int (v15 + (x1 * v17)))).bind fun h18 =>
  (gI h18 4 x0 8).bind fun v19 =>
  (sV h18 4 x0 8 (.int (v19 + (1 : Int32)))).bind fun h20 =>
  some (((1 : Int32), h20))
theorem oX4_tellPair_129 {d : Nat} (hd : 6 ≤ d) {h : Hp} {x0 : Nat} {x1 : Int32} {rf : Option Value} {hf : Hp} {x : (Int32 × Hp)} (hs : fX4_tellPair_129 h x0 x1 = some x) (hk : (kX4_tellPair rf hf) x) : Go d mX4_tellPair 129 [some (.ref x0), some (.int x1), none] [] h rf hf := by
  unfold fX4_tellPair_129 at hs
  refine go_aload_n (k4 := 0) rfl (Or.inr ⟨_, rfl⟩) dX4_tellPair_129 ?_
  refine go_dup rfl dX4_tellPair_130 ?_
  obtain ⟨v15, ev15, hs⟩ := bindS hs
  refine go_gI fl_RX4_54 ev15 dX4_tellPair_131 ?_
  refine go_iload_n (k4 := 1) rfl dX4_tellPair_134 ?_
  refine go_statN (j := 1) rfl lz_RX4_142.1 lz_RX4_142.2.1 lz_RX4_142.2.2 dX4_tellPair_135 ?_
  refine go_aload_n (k4 := 0) rfl (Or.inr ⟨_, rfl⟩) dX4_tellPair_138 ?_
  obtain ⟨v16, ev16, hs⟩ := bindS hs
  refine go_gI fl_RX4_42 ev16 dX4_tellPair_139 ?_
  refine go_at 142 rfl ?_
  obtain ⟨v17, ev17, hs⟩ := bindS hs
  refine go_tT (by decide) ev17 dX4_tellPair_142 ?_
  refine go_imul dX4_tellPair_143 ?_
  refine go_iadd dX4_tellPair_144 ?_
  obtain ⟨h18, eh18, hs⟩ := bindS hs
  refine go_sV fw_RX4_54 eh18 rfl rfl dX4_tellPair_145 ?_
  refine go_aload_n (k4 := 0) rfl (Or.inr ⟨_, rfl⟩) dX4_tellPair_148 ?_
  refine go_dup rfl dX4_tellPair_149 ?_
  obtain ⟨v19, ev19, hs⟩ := bindS hs
  refine go_gI fl_RX4_42 ev19 dX4_tellPair_150 ?_
  refine go_iconst (v := 1) (by decide) dX4_tellPair_153 ?_
  refine go_at 154 rfl ?_
  refine go_iadd dX4_tellPair_154 ?_
  obtain ⟨h20, eh20, hs⟩ := bindS hs
  refine go_sV fw_RX4_42 eh20 rfl rfl dX4_tellPair_155 ?_
  refine go_iconst (v := 1) (by decide) dX4_tellPair_158 ?_
  obtain rfl := Option.some.inj hs
  obtain ⟨rfl, rfl⟩ := hk
  exact go_zret (ty := .boolean) rfl rfl dX4_tellPair_159
noncomputable def fX4_tellPair_81b (h : Hp) (x0 : Nat) (x1 : Int32) (x2 : Int32) : Option ((Int32 × Int32 × Hp) ⊕ (Int32 × Hp)) :=
  if (900 : Int32) ≤ x2 then (
  (fX4_tellPair_129 h x0 x1).map (fun q => .inr q)) else (
    (gN h 4 x0 0).bind fun v21 =>
    gO h 6 v21 (
    (fX6_isAt h v21 9).bind fun y22 =>
    if y22 = 0 then (
    (fX4_tellPair_129 h x0 x1).map (fun q => .inr q)) else (
      (gN h 4 x0 0).bind fun v24 =>
      gO h 6 v24 (
      (fX6_advance h v24).bind fun y25 =>
      gO y25 4 x0 (
      (fX4_takeNumber y25 x0 (9 : Int32)).bind fun y27 =>
      if y27.1 = 0 then (
        some (.inr ((0 : Int32), y27.2))) else (
        (gI y27.2 4 x0 4).bind fun v29 =>
        some (.inl (v29, (x2 + Int32.ofInt 1), y27.2))))))))
noncomputable def fX4_tellPair_81 (h : Hp) (x0 : Nat) (x1 : Int32) (x2 : Int32) : Option (Int32 × Hp) := lpw (σ := (Int32 × Int32 × Hp)) (fun s => fX4_tellPair_81b s.2.2 x0 s.1 s.2.1) (x1, x2, h)
theorem oX4_tellPair_81b {d : Nat} (hd : 6 ≤ d) {h : Hp} {x0 : Nat} {x1 : Int32} {x2 : Int32} {rf : Option Value} {hf : Hp} {x : ((Int32 × Int32 × Hp) ⊕ (Int32 × Hp))} (hs : fX4_tellPair_81b h x0 x1 x2 = some x) (hk : (Kx (pX4_tellPair_81 d x0 rf hf) (kX4_tellPair rf hf)) x) : Go d mX4_tellPair 81 [some (.ref x0), some (.int x1), some (.int x2)] [] h rf hf := by
  unfold fX4_tellPair_81b at hs
  refine go_iload_n (k4 := 2) rfl dX4_tellPair_81 ?_
  refine go_sipush (v := 900) (by decide) dX4_tellPair_82 ?_
  refine go_icmp_ge (tgt := 129) (by decide) dX4_tellPair_85 (fun c => ?_) (fun c => ?_)
  · have hs := if_t c hs
    obtain ⟨q, hs2, hq⟩ := mapS hs
    clear hs
    subst hq
    exact go_subL (L' := [some (.ref x0), some (.int x1), none]) (by simp [subL, va_rf]) (oX4_tellPair_129 hd hs2 hk)
  · have hs := if_f c hs
    refine go_aload_n (k4 := 0) rfl (Or.inr ⟨_, rfl⟩) dX4_tellPair_88 ?_
    obtain ⟨v21, ev21, hs⟩ := bindS hs
    refine go_gN fl_RX4_12 ev21 dX4_tellPair_89 ?_
    refine go_str (j := 9) ls_RX4_145 dX4_tellPair_92 ?_
    obtain ⟨g23, hs⟩ := gO_at hs
    obtain ⟨y22, ey22, hs⟩ := bindS hs
    refine go_V1 (As := [.ref 9]) (st := []) g23 rfl rfl (oX6_isAt (d := d - 1) (by omega) ey22) (by omega) mb_X6_isAt lm_RX4_92 mi_X6_isAt (Nat.le_of_ble_eq_true rfl) rfl dX4_tellPair_94 ?_
    refine go_if_eq (tgt := 129) (by decide) dX4_tellPair_97 (fun c => ?_) (fun c => ?_)
    · have hs := if_t c hs
      obtain ⟨q, hs2, hq⟩ := mapS hs
      clear hs
      subst hq
      exact go_subL (L' := [some (.ref x0), some (.int x1), none]) (by simp [subL, va_rf]) (oX4_tellPair_129 hd hs2 hk)
    · have hs := if_f c hs
      refine go_aload_n (k4 := 0) rfl (Or.inr ⟨_, rfl⟩) dX4_tellPair_100 ?_
      obtain ⟨v24, ev24, hs⟩ := bindS hs
      refine go_gN fl_RX4_12 ev24 dX4_tellPair_101 ?_
      obtain ⟨g26, hs⟩ := gO_at hs
      obtain ⟨y25, ey25, hs⟩ := bindS hs
      refine go_V0 (As := []) (st := []) g26 rfl rfl (oX6_advance (d := d - 1) (by omega) ey25) (by omega) mb_X6_advance lm_RX4_100 mi_X6_advance (Nat.le_of_ble_eq_true rfl) rfl dX4_tellPair_104 ?_
      refine go_aload_n (k4 := 0) rfl (Or.inr ⟨_, rfl⟩) dX4_tellPair_107 ?_
      refine go_bipush (v := 9) (by decide) dX4_tellPair_108 ?_
      obtain ⟨g28, hs⟩ := gO_at hs
      obtain ⟨y27, ey27, hs⟩ := bindS hs
      refine go_V1 (As := [.int (9 : Int32)]) (st := []) g28 rfl rfl (oX4_takeNumber (d := d - 1) (by omega) ey27) (by omega) mb_X4_takeNumber lm_RX4_112 mi_X4_takeNumber (Nat.le_of_ble_eq_true rfl) rfl dX4_tellPair_110 ?_
      refine go_if_ne (tgt := 118) (by decide) dX4_tellPair_113 (fun c => ?_) (fun c => ?_)
      · have hs := if_f c hs
        refine go_aload_n (k4 := 0) rfl (Or.inr ⟨_, rfl⟩) dX4_tellPair_118 ?_
        obtain ⟨v29, ev29, hs⟩ := bindS hs
        refine go_gI fl_RX4_30 ev29 dX4_tellPair_119 ?_
        refine go_istore_n (k4 := 1) (L' := [some (.ref x0), some (.int v29), some (.int x2)]) (by decide) rfl dX4_tellPair_122 ?_
        refine go_iinc (L' := [some (.ref x0), some (.int v29), some (.int (x2 + Int32.ofInt 1))]) rfl (by decide) rfl rfl dX4_tellPair_123 ?_
        refine go_goto (tgt := 81) (by decide) dX4_tellPair_126 ?_
        obtain rfl := Option.some.inj hs
        exact go_subL (L' := [some (.ref x0), some (.int v29), some (.int (x2 + Int32.ofInt 1))]) (by simp [subL, va_rf]) hk
      · have hs := if_t c hs
        refine go_iconst (v := 0) (by decide) dX4_tellPair_116 ?_
        obtain rfl := Option.some.inj hs
        obtain ⟨rfl, rfl⟩ := hk
        exact go_zret (ty := .boolean) rfl rfl dX4_tellPair_117
theorem oX4_tellPair_81 {d : Nat} (hd : 6 ≤ d) {h : Hp} {x0 : Nat} {x1 : Int32} {x2 : Int32} {rf : Option Value} {hf : Hp} {x : (Int32 × Hp)} (hs : fX4_tellPair_81 h x0 x1 x2 = some x) (hk : (kX4_tellPair rf hf) x) : Go d mX4_tellPair 81 [some (.ref x0), some (.int x1), some (.int x2)] [] h rf hf := by
  unfold fX4_tellPair_81 at hs
  exact lpw_go (P := pX4_tellPair_81 d x0 rf hf) (fun s x hs hk => oX4_tellPair_81b hd hs hk) (x1, x2, h) x hs hk
noncomputable def fX4_tellPair (h : Hp) (x0 : Nat) : Option (Int32 × Hp) :=
  (gI h 4 x0 13).bind fun v1 =>
  if v1 = (-1 : Int32) then (
    (gI h 4 x0 8).bind fun v2 =>
    if v2 < (4 : Int32) then (
      (gN h 4 x0 0).bind fun v3 =>
      gO h 6 v3 (
      (fX6_advance h v3).bind fun y4 =>
      gO y4 4 x0 (
      (fX4_take y4 x0 8).bind fun y6 =>
      if y6.1 = 0 then (
      fX4_tellPair_53 y6.2 ) else (
        gO y6.2 4 x0 (
        (fX4_takeNumber y6.2 x0 (9 : Int32)).bind fun y8 =>
        if y8.1 = 0 then (
        fX4_tellPair_53 y8.2 ) else (
          (gI y8.2 4 x0 11).bind fun v10 =>
          (gI y8.2 4 x0 4).bind fun v11 =>
          (gI y8.2 4 x0 8).bind fun v12 =>
          (tT 1 v12).bind fun v13 =>
          (sV y8.2 4 x0 11 (.int (v10 + (v11 * v13)))).bind fun h14 =>
          fX4_tellPair_81 h14 x0 (1 : Int32) (0 : Int32))))))) else (
      gO h 4 x0 (
      (fX4_refuse h x0 (4 : Int32)).bind fun y30 =>
      bl y30.1 (some ((y30.1, y30.2)))))) else (
    gO h 4 x0 (
    (fX4_refuse h x0 (2 : Int32)).bind fun y32 =>
    bl y32.1 (some ((y32.1, y32.2)))))
theorem oX4_tellPair_0 {d : Nat} (hd : 6 ≤ d) {h : Hp} {x0 : Nat} {rf : Option Value} {hf : Hp} {x : (Int32 × Hp)} (hs : fX4_tellPair h x0 = some x) (hk : (kX4_tellPair rf hf) x) : Go d mX4_tellPair 0 [some (.ref x0), none, none] [] h rf hf := by
  unfold fX4_tellPair at hs
  refine go_aload_n (k4 := 0) rfl (Or.inr ⟨_, rfl⟩) dX4_tellPair_0 ?_
  obtain ⟨v1, ev1, hs⟩ := bindS hs
  refine go_gI fl_RX4_57 ev1 dX4_tellPair_1 ?_
  refine go_iconst (v := -1) (by decide) dX4_tellPair_4 ?_
  refine go_icmp_eq (tgt := 14) (by decide) dX4_tellPair_5 (fun c => ?_) (fun c => ?_)
  · have hs := if_t c hs
    refine go_aload_n (k4 := 0) rfl (Or.inr ⟨_, rfl⟩) dX4_tellPair_14 ?_
    obtain ⟨v2, ev2, hs⟩ := bindS hs
    refine go_gI fl_RX4_42 ev2 dX4_tellPair_15 ?_
    refine go_iconst (v := 4) (by decide) dX4_tellPair_18 ?_
    refine go_icmp_lt (tgt := 28) (by decide) dX4_tellPair_19 (fun c => ?_) (fun c => ?_)
    · have hs := if_t c hs
      refine go_aload_n (k4 := 0) rfl (Or.inr ⟨_, rfl⟩) dX4_tellPair_28 ?_
      obtain ⟨v3, ev3, hs⟩ := bindS hs
      refine go_gN fl_RX4_12 ev3 dX4_tellPair_29 ?_
      obtain ⟨g5, hs⟩ := gO_at hs
      obtain ⟨y4, ey4, hs⟩ := bindS hs
      refine go_V0 (As := []) (st := []) g5 rfl rfl (oX6_advance (d := d - 1) (by omega) ey4) (by omega) mb_X6_advance lm_RX4_100 mi_X6_advance (Nat.le_of_ble_eq_true rfl) rfl dX4_tellPair_32 ?_
      refine go_aload_n (k4 := 0) rfl (Or.inr ⟨_, rfl⟩) dX4_tellPair_35 ?_
      refine go_str (j := 8) ls_RX4_140 dX4_tellPair_36 ?_
      obtain ⟨g7, hs⟩ := gO_at hs
      obtain ⟨y6, ey6, hs⟩ := bindS hs
      refine go_V1 (As := [.ref 8]) (st := []) g7 rfl rfl (oX4_take (d := d - 1) (by omega) ey6) (by omega) mb_X4_take lm_RX4_108 mi_X4_take (Nat.le_of_ble_eq_true rfl) rfl dX4_tellPair_38 ?_
      refine go_if_eq (tgt := 53) (by decide) dX4_tellPair_41 (fun c => ?_) (fun c => ?_)
      · have hs := if_t c hs
        exact go_subL (L' := [none, none, none]) (by simp [subL, va_rf]) (oX4_tellPair_53 hd hs hk)
      · have hs := if_f c hs
        refine go_aload_n (k4 := 0) rfl (Or.inr ⟨_, rfl⟩) dX4_tellPair_44 ?_
        refine go_bipush (v := 9) (by decide) dX4_tellPair_45 ?_
        obtain ⟨g9, hs⟩ := gO_at hs
        obtain ⟨y8, ey8, hs⟩ := bindS hs
        refine go_V1 (As := [.int (9 : Int32)]) (st := []) g9 rfl rfl (oX4_takeNumber (d := d - 1) (by omega) ey8) (by omega) mb_X4_takeNumber lm_RX4_112 mi_X4_takeNumber (Nat.le_of_ble_eq_true rfl) rfl dX4_tellPair_47 ?_
        refine go_if_ne (tgt := 55) (by decide) dX4_tellPair_50 (fun c => ?_) (fun c => ?_)
        · have hs := if_f c hs
          refine go_aload_n (k4 := 0) rfl (Or.inr ⟨_, rfl⟩) dX4_tellPair_55 ?_
          refine go_dup rfl dX4_tellPair_56 ?_
          obtain ⟨v10, ev10, hs⟩ := bindS hs
          refine go_gI fl_RX4_51 ev10 dX4_tellPair_57 ?_
          refine go_aload_n (k4 := 0) rfl (Or.inr ⟨_, rfl⟩) dX4_tellPair_60 ?_
          obtain ⟨v11, ev11, hs⟩ := bindS hs
          refine go_gI fl_RX4_30 ev11 dX4_tellPair_61 ?_
          refine go_statN (j := 1) rfl lz_RX4_142.1 lz_RX4_142.2.1 lz_RX4_142.2.2 dX4_tellPair_64 ?_
          refine go_aload_n (k4 := 0) rfl (Or.inr ⟨_, rfl⟩) dX4_tellPair_67 ?_
          refine go_at 68 rfl ?_
          obtain ⟨v12, ev12, hs⟩ := bindS hs
          refine go_gI fl_RX4_42 ev12 dX4_tellPair_68 ?_
          obtain ⟨v13, ev13, hs⟩ := bindS hs
          refine go_tT (by decide) ev13 dX4_tellPair_71 ?_
          refine go_imul dX4_tellPair_72 ?_
          refine go_iadd dX4_tellPair_73 ?_
          obtain ⟨h14, eh14, hs⟩ := bindS hs
          refine go_sV fw_RX4_51 eh14 rfl rfl dX4_tellPair_74 ?_
          refine go_iconst (v := 1) (by decide) dX4_tellPair_77 ?_
          refine go_istore_n (k4 := 1) (L' := [some (.ref x0), some (.int (1 : Int32)), none]) (by decide) rfl dX4_tellPair_78 ?_
          refine go_iconst (v := 0) (by decide) dX4_tellPair_79 ?_
          refine go_at 80 rfl ?_
          refine go_istore_n (k4 := 2) (L' := [some (.ref x0), some (.int (1 : Int32)), some (.int (0 : Int32))]) (by decide) rfl dX4_tellPair_80 ?_
          exact go_subL (L' := [some (.ref x0), some (.int (1 : Int32)), some (.int (0 : Int32))]) (by simp [subL, va_rf]) (oX4_tellPair_81 hd hs hk)
        · have hs := if_t c hs
          exact go_subL (L' := [none, none, none]) (by simp [subL, va_rf]) (oX4_tellPair_53 hd hs hk)
    · have hs := if_f c hs
      refine go_aload_n (k4 := 0) rfl (Or.inr ⟨_, rfl⟩) dX4_tellPair_22 ?_
      refine go_iconst (v := 4) (by decide) dX4_tellPair_23 ?_
      obtain ⟨g31, hs⟩ := gO_at hs
      obtain ⟨y30, ey30, hs⟩ := bindS hs
      refine go_V1 (As := [.int (4 : Int32)]) (st := []) g31 rfl rfl (oX4_refuse (d := d - 1) (by omega) ey30) (by omega) mb_X4_refuse lm_RX4_96 mi_X4_refuse (Nat.le_of_ble_eq_true rfl) rfl dX4_tellPair_24 ?_
      obtain ⟨n1, n2, hs⟩ := bl_at hs
      obtain rfl := Option.some.inj hs
      obtain ⟨rfl, rfl⟩ := hk
      exact go_zret (ty := .boolean) rfl n1 dX4_tellPair_27
  · have hs := if_f c hs
    refine go_aload_n (k4 := 0) rfl (Or.inr ⟨_, rfl⟩) dX4_tellPair_8 ?_
    refine go_iconst (v := 2) (by decide) dX4_tellPair_9 ?_
    obtain ⟨g33, hs⟩ := gO_at hs
    obtain ⟨y32, ey32, hs⟩ := bindS hs
    refine go_V1 (As := [.int (2 : Int32)]) (st := []) g33 rfl rfl (oX4_refuse (d := d - 1) (by omega) ey32) (by omega) mb_X4_refuse lm_RX4_96 mi_X4_refuse (Nat.le_of_ble_eq_true rfl) rfl dX4_tellPair_10 ?_
    obtain ⟨n1, n2, hs⟩ := bl_at hs
    obtain rfl := Option.some.inj hs
    obtain ⟨rfl, rfl⟩ := hk
    exact go_zret (ty := .boolean) rfl n1 dX4_tellPair_13
theorem oX4_tellPair {d : Nat} (hd : 6 ≤ d) {h : Hp} {x0 : Nat} {y : (Int32 × Hp)} (hs : fX4_tellPair h x0 = some y) : Call d mX4_tellPair [.ref x0] h (some (.int y.1)) (y.2) := call_of (by decide +kernel) (Nat.le_of_ble_eq_true rfl) (show Go d mX4_tellPair 0 [some (.ref x0), none, none] [] h _ _ from go_subL (by simp [subL]) (oX4_tellPair_0 hd hs ⟨rfl, rfl⟩))
abbrev kX4_tellLead (rf : Option Value) (hf : Hp) : (Int32 × Hp) → Prop := fun y => rf = some (.int y.1) ∧ hf = y.2
abbrev pX4_tellLead_26 (d : Nat) (x0 : Nat) (rf : Option Value) (hf : Hp) : (Int32 × Int32 × Int32 × Hp) → Prop := fun s => Go d mX4_tellLead 26 [some (.ref x0), some (.int s.1), some (.int s.2.1), some (.int s.2.2.1), none] [] s.2.2.2 rf hf
noncomputable def fX4_tellLead_135 (h : Hp) (x0 : Nat) (x2 : Int32) : Option (Int32 × Hp) :=
  (sV h 4 x0 13 (.int x2)).bind fun h6 =>
  some (((1 : Int32), h6))
theorem oX4_tellLead_135 {d : Nat} (hd : 6 ≤ d) {h : Hp} {x0 : Nat} {x2 : Int32} {rf : Option Value} {hf : Hp} {x : (Int32 × Hp)} (hs : fX4_tellLead_135 h x0 x2 = some x) (hk : (kX4_tellLead rf hf) x) : Go d mX4_tellLead 135 [some (.ref x0), none, some (.int x2), none, none] [] h rf hf := by
  unfold fX4_tellLead_135 at hs
  refine go_aload_n (k4 := 0) rfl (Or.inr ⟨_, rfl⟩) dX4_tellLead_135 ?_
  refine go_iload_n (k4 := 2) rfl dX4_tellLead_136 ?_
  obtain ⟨h6, eh6, hs⟩ := bindS hs
  refine go_sV fw_RX4_57 eh6 rfl rfl dX4_tellLead_137 ?_
  refine go_iconst (v := 1) (by decide) dX4_tellLead_140 ?_
  obtain rfl := Option.some.inj hs
  obtain ⟨rfl, rfl⟩ := hk
  exact go_zret (ty := .boolean) rfl rfl dX4_tellLead_141
noncomputable def fX4_tellLead_94 (h : Hp) (x0 : Nat) (x1 : Int32) (x2 : Int32) (x3 : Int32) : Option ((Int32 × Int32 × Int32 × Hp) ⊕ (Int32 × Hp)) :=
  (gI h 4 x0 9).bind fun v8 =>
  gO h 4 x0 (
  (fX4_takeNumber h x0 (v8 - x1)).bind fun y9 =>
  if y9.1 = 0 then (
    some (.inr ((0 : Int32), y9.2))) else (
    (gI y9.2 4 x0 4).bind fun v11 =>
    (gI y9.2 4 x0 4).bind fun v12 =>
    (tT 2 x3).bind fun v13 =>
    some (.inl ((x1 + v11), (x2 + (v12 * v13)), (x3 + Int32.ofInt 1), y9.2))))
theorem oX4_tellLead_94 {d : Nat} (hd : 6 ≤ d) {h : Hp} {x0 : Nat} {x1 : Int32} {x2 : Int32} {x3 : Int32} {rf : Option Value} {hf : Hp} {x : ((Int32 × Int32 × Int32 × Hp) ⊕ (Int32 × Hp))} (hs : fX4_tellLead_94 h x0 x1 x2 x3 = some x) (hk : (Kx (pX4_tellLead_26 d x0 rf hf) (kX4_tellLead rf hf)) x) : Go d mX4_tellLead 94 [some (.ref x0), some (.int x1), some (.int x2), some (.int x3), none] [] h rf hf := by
  unfold fX4_tellLead_94 at hs
  refine go_aload_n (k4 := 0) rfl (Or.inr ⟨_, rfl⟩) dX4_tellLead_94 ?_
  refine go_aload_n (k4 := 0) rfl (Or.inr ⟨_, rfl⟩) dX4_tellLead_95 ?_
  obtain ⟨v8, ev8, hs⟩ := bindS hs
  refine go_gI fl_RX4_45 ev8 dX4_tellLead_96 ?_
  refine go_iload_n (k4 := 1) rfl dX4_tellLead_99 ?_
  refine go_isub dX4_tellLead_100 ?_
  obtain ⟨g10, hs⟩ := gO_at hs
  obtain ⟨y9, ey9, hs⟩ := bindS hs
  refine go_V1 (As := [.int (v8 - x1)]) (st := []) g10 rfl rfl (oX4_takeNumber (d := d - 1) (by omega) ey9) (by omega) mb_X4_takeNumber lm_RX4_112 mi_X4_takeNumber (Nat.le_of_ble_eq_true rfl) rfl dX4_tellLead_101 ?_
  refine go_if_ne (tgt := 109) (by decide) dX4_tellLead_104 (fun c => ?_) (fun c => ?_)
  · have hs := if_f c hs
    refine go_iload_n (k4 := 1) rfl dX4_tellLead_109 ?_
    refine go_aload_n (k4 := 0) rfl (Or.inr ⟨_, rfl⟩) dX4_tellLead_110 ?_
    obtain ⟨v11, ev11, hs⟩ := bindS hs
    refine go_gI fl_RX4_30 ev11 dX4_tellLead_111 ?_
    refine go_iadd dX4_tellLead_114 ?_
    refine go_istore_n (k4 := 1) (L' := [some (.ref x0), some (.int (x1 + v11)), some (.int x2), some (.int x3), none]) (by decide) rfl dX4_tellLead_115 ?_
    refine go_iload_n (k4 := 2) rfl dX4_tellLead_116 ?_
    refine go_aload_n (k4 := 0) rfl (Or.inr ⟨_, rfl⟩) dX4_tellLead_117 ?_
    refine go_at 118 rfl ?_
    obtain ⟨v12, ev12, hs⟩ := bindS hs
    refine go_gI fl_RX4_30 ev12 dX4_tellLead_118 ?_
    refine go_statN (j := 2) rfl lz_RX4_147.1 lz_RX4_147.2.1 lz_RX4_147.2.2 dX4_tellLead_121 ?_
    refine go_iload_n (k4 := 3) rfl dX4_tellLead_124 ?_
    obtain ⟨v13, ev13, hs⟩ := bindS hs
    refine go_tT (by decide) ev13 dX4_tellLead_125 ?_
    refine go_imul dX4_tellLead_126 ?_
    refine go_iadd dX4_tellLead_127 ?_
    refine go_istore_n (k4 := 2) (L' := [some (.ref x0), some (.int (x1 + v11)), some (.int (x2 + (v12 * v13))), some (.int x3), none]) (by decide) rfl dX4_tellLead_128 ?_
    refine go_iinc (L' := [some (.ref x0), some (.int (x1 + v11)), some (.int (x2 + (v12 * v13))), some (.int (x3 + Int32.ofInt 1)), none]) rfl (by decide) rfl rfl dX4_tellLead_129 ?_
    refine go_at 132 rfl ?_
    refine go_goto (tgt := 26) (by decide) dX4_tellLead_132 ?_
    obtain rfl := Option.some.inj hs
    exact go_subL (L' := [some (.ref x0), some (.int (x1 + v11)), some (.int (x2 + (v12 * v13))), some (.int (x3 + Int32.ofInt 1)), none]) (by simp [subL, va_rf]) hk
  · have hs := if_t c hs
    refine go_iconst (v := 0) (by decide) dX4_tellLead_107 ?_
    obtain rfl := Option.some.inj hs
    obtain ⟨rfl, rfl⟩ := hk
    exact go_zret (ty := .boolean) rfl rfl dX4_tellLead_108
noncomputable def fX4_tellLead_54 (h : Hp) (x0 : Nat) (x1 : Int32) (x2 : Int32) (x3 : Int32) (s0 : Int32) : Option ((Int32 × Int32 × Int32 × Hp) ⊕ (Int32 × Hp)) :=
  if s0 = 0 then (
  fX4_tellLead_94 h x0 x1 x2 x3) else (
    (gN h 4 x0 0).bind fun v14 =>
    (gI h 6 v14 3).bind fun v15 =>
    if v15 = (2 : Int32) then (
      (gN h 4 x0 0).bind fun v16 =>
      (gI h 6 v16 5).bind fun v17 =>
      (gI h 4 x0 9).bind fun v18 =>
      if v18 ≤ (x1 + v17) then (
      fX4_tellLead_94 h x0 x1 x2 x3) else (
        gO h 4 x0 (
        (fX4_refuse h x0 (3 : Int32)).bind fun y19 =>
        bl y19.1 (some (.inr (y19.1, y19.2)))))) else (
    fX4_tellLead_94 h x0 x1 x2 x3))
theorem oX4_tellLead_54 {d : Nat} (hd : 6 ≤ d) {h : Hp} {x0 : Nat} {x1 : Int32} {x2 : Int32} {x3 : Int32} {s0 : Int32} {rf : Option Value} {hf : Hp} {x : ((Int32 × Int32 × Int32 × Hp) ⊕ (Int32 × Hp))} (hs : fX4_tellLead_54 h x0 x1 x2 x3 s0 = some x) (hk : (Kx (pX4_tellLead_26 d x0 rf hf) (kX4_tellLead rf hf)) x) : Go d mX4_tellLead 54 [some (.ref x0), some (.int x1), some (.int x2), some (.int x3), none] [.int s0] h rf hf := by
  unfold fX4_tellLead_54 at hs
  refine go_istore (L' := [some (.ref x0), some (.int x1), some (.int x2), some (.int x3), some (.int s0)]) (by decide) rfl dX4_tellLead_54 ?_
  refine go_iload rfl dX4_tellLead_56 ?_
  refine go_if_eq (tgt := 94) (by decide) dX4_tellLead_58 (fun c => ?_) (fun c => ?_)
  · have hs := if_t c hs
    exact go_subL (L' := [some (.ref x0), some (.int x1), some (.int x2), some (.int x3), none]) (by simp [subL, va_rf]) (oX4_tellLead_94 hd hs hk)
  · have hs := if_f c hs
    refine go_aload_n (k4 := 0) rfl (Or.inr ⟨_, rfl⟩) dX4_tellLead_61 ?_
    obtain ⟨v14, ev14, hs⟩ := bindS hs
    refine go_gN fl_RX4_12 ev14 dX4_tellLead_62 ?_
    obtain ⟨v15, ev15, hs⟩ := bindS hs
    refine go_gI fl_RX4_78 ev15 dX4_tellLead_65 ?_
    refine go_iconst (v := 2) (by decide) dX4_tellLead_68 ?_
    refine go_icmp_ne (tgt := 94) (by decide) dX4_tellLead_69 (fun c => ?_) (fun c => ?_)
    · have hs := if_f c hs
      exact go_subL (L' := [some (.ref x0), some (.int x1), some (.int x2), some (.int x3), none]) (by simp [subL, va_rf]) (oX4_tellLead_94 hd hs hk)
    · have hs := if_t c hs
      refine go_iload_n (k4 := 1) rfl dX4_tellLead_72 ?_
      refine go_aload_n (k4 := 0) rfl (Or.inr ⟨_, rfl⟩) dX4_tellLead_73 ?_
      obtain ⟨v16, ev16, hs⟩ := bindS hs
      refine go_gN fl_RX4_12 ev16 dX4_tellLead_74 ?_
      obtain ⟨v17, ev17, hs⟩ := bindS hs
      refine go_gI fl_RX4_103 ev17 dX4_tellLead_77 ?_
      refine go_iadd dX4_tellLead_80 ?_
      refine go_aload_n (k4 := 0) rfl (Or.inr ⟨_, rfl⟩) dX4_tellLead_81 ?_
      obtain ⟨v18, ev18, hs⟩ := bindS hs
      refine go_gI fl_RX4_45 ev18 dX4_tellLead_82 ?_
      refine go_at 85 rfl ?_
      refine go_icmp_ge (tgt := 94) (by decide) dX4_tellLead_85 (fun c => ?_) (fun c => ?_)
      · have hs := if_t c hs
        exact go_subL (L' := [some (.ref x0), some (.int x1), some (.int x2), some (.int x3), none]) (by simp [subL, va_rf]) (oX4_tellLead_94 hd hs hk)
      · have hs := if_f c hs
        refine go_aload_n (k4 := 0) rfl (Or.inr ⟨_, rfl⟩) dX4_tellLead_88 ?_
        refine go_iconst (v := 3) (by decide) dX4_tellLead_89 ?_
        obtain ⟨g20, hs⟩ := gO_at hs
        obtain ⟨y19, ey19, hs⟩ := bindS hs
        refine go_V1 (As := [.int (3 : Int32)]) (st := []) g20 rfl rfl (oX4_refuse (d := d - 1) (by omega) ey19) (by omega) mb_X4_refuse lm_RX4_96 mi_X4_refuse (Nat.le_of_ble_eq_true rfl) rfl dX4_tellLead_90 ?_
        obtain ⟨n1, n2, hs⟩ := bl_at hs
        obtain rfl := Option.some.inj hs
        obtain ⟨rfl, rfl⟩ := hk
        exact go_zret (ty := .boolean) rfl n1 dX4_tellLead_93
noncomputable def fX4_tellLead_26b (h : Hp) (x0 : Nat) (x1 : Int32) (x2 : Int32) (x3 : Int32) : Option ((Int32 × Int32 × Int32 × Hp) ⊕ (Int32 × Hp)) :=
  (gI h 4 x0 8).bind fun v5 =>
  if v5 ≤ x3 then (
  (fX4_tellLead_135 h x0 x2).map (fun q => .inr q)) else (
    if (4 : Int32) ≤ x3 then (
    (fX4_tellLead_135 h x0 x2).map (fun q => .inr q)) else (
      (gI h 4 x0 8).bind fun v7 =>
      if x3 = (v7 - (1 : Int32)) then (
        fX4_tellLead_54 h x0 x1 x2 x3 (1 : Int32)) else (
        fX4_tellLead_54 h x0 x1 x2 x3 (0 : Int32))))
noncomputable def fX4_tellLead_26 (h : Hp) (x0 : Nat) (x1 : Int32) (x2 : Int32) (x3 : Int32) : Option (Int32 × Hp) := lpw (σ := (Int32 × Int32 × Int32 × Hp)) (fun s => fX4_tellLead_26b s.2.2.2 x0 s.1 s.2.1 s.2.2.1) (x1, x2, x3, h)
theorem oX4_tellLead_26b {d : Nat} (hd : 6 ≤ d) {h : Hp} {x0 : Nat} {x1 : Int32} {x2 : Int32} {x3 : Int32} {rf : Option Value} {hf : Hp} {x : ((Int32 × Int32 × Int32 × Hp) ⊕ (Int32 × Hp))} (hs : fX4_tellLead_26b h x0 x1 x2 x3 = some x) (hk : (Kx (pX4_tellLead_26 d x0 rf hf) (kX4_tellLead rf hf)) x) : Go d mX4_tellLead 26 [some (.ref x0), some (.int x1), some (.int x2), some (.int x3), none] [] h rf hf := by
  unfold fX4_tellLead_26b at hs
  refine go_iload_n (k4 := 3) rfl dX4_tellLead_26 ?_
  refine go_aload_n (k4 := 0) rfl (Or.inr ⟨_, rfl⟩) dX4_tellLead_27 ?_
  obtain ⟨v5, ev5, hs⟩ := bindS hs
  refine go_gI fl_RX4_42 ev5 dX4_tellLead_28 ?_
  refine go_icmp_ge (tgt := 135) (by decide) dX4_tellLead_31 (fun c => ?_) (fun c => ?_)
  · have hs := if_t c hs
    obtain ⟨q, hs2, hq⟩ := mapS hs
    clear hs
    subst hq
    exact go_subL (L' := [some (.ref x0), none, some (.int x2), none, none]) (by simp [subL, va_rf]) (oX4_tellLead_135 hd hs2 hk)
  · have hs := if_f c hs
    refine go_iload_n (k4 := 3) rfl dX4_tellLead_34 ?_
    refine go_iconst (v := 4) (by decide) dX4_tellLead_35 ?_
    refine go_icmp_ge (tgt := 135) (by decide) dX4_tellLead_36 (fun c => ?_) (fun c => ?_)
    · have hs := if_t c hs
      obtain ⟨q, hs2, hq⟩ := mapS hs
      clear hs
      subst hq
      exact go_subL (L' := [some (.ref x0), none, some (.int x2), none, none]) (by simp [subL, va_rf]) (oX4_tellLead_135 hd hs2 hk)
    · have hs := if_f c hs
      refine go_iload_n (k4 := 3) rfl dX4_tellLead_39 ?_
      refine go_aload_n (k4 := 0) rfl (Or.inr ⟨_, rfl⟩) dX4_tellLead_40 ?_
      obtain ⟨v7, ev7, hs⟩ := bindS hs
      refine go_gI fl_RX4_42 ev7 dX4_tellLead_41 ?_
      refine go_iconst (v := 1) (by decide) dX4_tellLead_44 ?_
      refine go_isub dX4_tellLead_45 ?_
      refine go_icmp_ne (tgt := 53) (by decide) dX4_tellLead_46 (fun c => ?_) (fun c => ?_)
      · have hs := if_f c hs
        refine go_iconst (v := 0) (by decide) dX4_tellLead_53 ?_
        exact go_subL (L' := [some (.ref x0), some (.int x1), some (.int x2), some (.int x3), none]) (by simp [subL, va_rf]) (oX4_tellLead_54 hd hs hk)
      · have hs := if_t c hs
        refine go_iconst (v := 1) (by decide) dX4_tellLead_49 ?_
        refine go_goto (tgt := 54) (by decide) dX4_tellLead_50 ?_
        exact go_subL (L' := [some (.ref x0), some (.int x1), some (.int x2), some (.int x3), none]) (by simp [subL, va_rf]) (oX4_tellLead_54 hd hs hk)
theorem oX4_tellLead_26 {d : Nat} (hd : 6 ≤ d) {h : Hp} {x0 : Nat} {x1 : Int32} {x2 : Int32} {x3 : Int32} {rf : Option Value} {hf : Hp} {x : (Int32 × Hp)} (hs : fX4_tellLead_26 h x0 x1 x2 x3 = some x) (hk : (kX4_tellLead rf hf) x) : Go d mX4_tellLead 26 [some (.ref x0), some (.int x1), some (.int x2), some (.int x3), none] [] h rf hf := by
  unfold fX4_tellLead_26 at hs
  exact lpw_go (P := pX4_tellLead_26 d x0 rf hf) (fun s x hs hk => oX4_tellLead_26b hd hs hk) (x1, x2, x3, h) x hs hk
noncomputable def fX4_tellLead (h : Hp) (x0 : Nat) : Option (Int32 × Hp) :=
  (gI h 4 x0 8).bind fun v1 =>
  if v1 = 0 then (
    gO h 4 x0 (
    (fX4_refuse h x0 (2 : Int32)).bind fun y21 =>
    bl y21.1 (some ((y21.1, y21.2))))) else (
    (gN h 4 x0 0).bind fun v2 =>
    gO h 6 v2 (
    (fX6_advance h v2).bind fun y3 =>
    fX4_tellLead_26 y3 x0 (0 : Int32) (0 : Int32) (0 : Int32)))
theorem oX4_tellLead_0 {d : Nat} (hd : 6 ≤ d) {h : Hp} {x0 : Nat} {rf : Option Value} {hf : Hp} {x : (Int32 × Hp)} (hs : fX4_tellLead h x0 = some x) (hk : (kX4_tellLead rf hf) x) : Go d mX4_tellLead 0 [some (.ref x0), none, none, none, none] [] h rf hf := by
  unfold fX4_tellLead at hs
  refine go_aload_n (k4 := 0) rfl (Or.inr ⟨_, rfl⟩) dX4_tellLead_0 ?_
  obtain ⟨v1, ev1, hs⟩ := bindS hs
  refine go_gI fl_RX4_42 ev1 dX4_tellLead_1 ?_
  refine go_if_ne (tgt := 13) (by decide) dX4_tellLead_4 (fun c => ?_) (fun c => ?_)
  · have hs := if_f c hs
    refine go_aload_n (k4 := 0) rfl (Or.inr ⟨_, rfl⟩) dX4_tellLead_13 ?_
    obtain ⟨v2, ev2, hs⟩ := bindS hs
    refine go_gN fl_RX4_12 ev2 dX4_tellLead_14 ?_
    obtain ⟨g4, hs⟩ := gO_at hs
    obtain ⟨y3, ey3, hs⟩ := bindS hs
    refine go_V0 (As := []) (st := []) g4 rfl rfl (oX6_advance (d := d - 1) (by omega) ey3) (by omega) mb_X6_advance lm_RX4_100 mi_X6_advance (Nat.le_of_ble_eq_true rfl) rfl dX4_tellLead_17 ?_
    refine go_iconst (v := 0) (by decide) dX4_tellLead_20 ?_
    refine go_istore_n (k4 := 1) (L' := [some (.ref x0), some (.int (0 : Int32)), none, none, none]) (by decide) rfl dX4_tellLead_21 ?_
    refine go_iconst (v := 0) (by decide) dX4_tellLead_22 ?_
    refine go_istore_n (k4 := 2) (L' := [some (.ref x0), some (.int (0 : Int32)), some (.int (0 : Int32)), none, none]) (by decide) rfl dX4_tellLead_23 ?_
    refine go_at 24 rfl ?_
    refine go_iconst (v := 0) (by decide) dX4_tellLead_24 ?_
    refine go_istore_n (k4 := 3) (L' := [some (.ref x0), some (.int (0 : Int32)), some (.int (0 : Int32)), some (.int (0 : Int32)), none]) (by decide) rfl dX4_tellLead_25 ?_
    exact go_subL (L' := [some (.ref x0), some (.int (0 : Int32)), some (.int (0 : Int32)), some (.int (0 : Int32)), none]) (by simp [subL, va_rf]) (oX4_tellLead_26 hd hs hk)
  · have hs := if_t c hs
    refine go_aload_n (k4 := 0) rfl (Or.inr ⟨_, rfl⟩) dX4_tellLead_7 ?_
    refine go_iconst (v := 2) (by decide) dX4_tellLead_8 ?_
    obtain ⟨g22, hs⟩ := gO_at hs
    obtain ⟨y21, ey21, hs⟩ := bindS hs
    refine go_V1 (As := [.int (2 : Int32)]) (st := []) g22 rfl rfl (oX4_refuse (d := d - 1) (by omega) ey21) (by omega) mb_X4_refuse lm_RX4_96 mi_X4_refuse (Nat.le_of_ble_eq_true rfl) rfl dX4_tellLead_9 ?_
    obtain ⟨n1, n2, hs⟩ := bl_at hs
    obtain rfl := Option.some.inj hs
    obtain ⟨rfl, rfl⟩ := hk
    exact go_zret (ty := .boolean) rfl n1 dX4_tellLead_12
theorem oX4_tellLead {d : Nat} (hd : 6 ≤ d) {h : Hp} {x0 : Nat} {y : (Int32 × Hp)} (hs : fX4_tellLead h x0 = some y) : Call d mX4_tellLead [.ref x0] h (some (.int y.1)) (y.2) := call_of (by decide +kernel) (Nat.le_of_ble_eq_true rfl) (show Go d mX4_tellLead 0 [some (.ref x0), none, none, none, none] [] h _ _ from go_subL (by simp [subL]) (oX4_tellLead_0 hd hs ⟨rfl, rfl⟩))
abbrev kX4_tellDry (rf : Option Value) (hf : Hp) : (Int32 × Hp) → Prop := fun y => rf = some (.int y.1) ∧ hf = y.2
noncomputable def fX4_tellDry (h : Hp) (x0 : Nat) : Option (Int32 × Hp) :=
  (gN h 4 x0 0).bind fun v1 =>
  gO h 6 v1 (
  (fX6_advance h v1).bind fun y2 =>
  gO y2 4 x0 (
  (fX4_takeNumber y2 x0 (10 : Int32)).bind fun y4 =>
  if y4.1 = 0 then (
    some (((0 : Int32), y4.2))) else (
    (gI y4.2 4 x0 4).bind fun v6 =>
    (sV y4.2 4 x0 10 (.int v6)).bind fun h7 =>
    some (((1 : Int32), h7)))))
theorem oX4_tellDry_0 {d : Nat} (hd : 6 ≤ d) {h : Hp} {x0 : Nat} {rf : Option Value} {hf : Hp} {x : (Int32 × Hp)} (hs : fX4_tellDry h x0 = some x) (hk : (kX4_tellDry rf hf) x) : Go d mX4_tellDry 0 [some (.ref x0)] [] h rf hf := by
  unfold fX4_tellDry at hs
  refine go_aload_n (k4 := 0) rfl (Or.inr ⟨_, rfl⟩) dX4_tellDry_0 ?_
  obtain ⟨v1, ev1, hs⟩ := bindS hs
  refine go_gN fl_RX4_12 ev1 dX4_tellDry_1 ?_
  obtain ⟨g3, hs⟩ := gO_at hs
  obtain ⟨y2, ey2, hs⟩ := bindS hs
  refine go_V0 (As := []) (st := []) g3 rfl rfl (oX6_advance (d := d - 1) (by omega) ey2) (by omega) mb_X6_advance lm_RX4_100 mi_X6_advance (Nat.le_of_ble_eq_true rfl) rfl dX4_tellDry_4 ?_
  refine go_aload_n (k4 := 0) rfl (Or.inr ⟨_, rfl⟩) dX4_tellDry_7 ?_
  refine go_bipush (v := 10) (by decide) dX4_tellDry_8 ?_
  obtain ⟨g5, hs⟩ := gO_at hs
  obtain ⟨y4, ey4, hs⟩ := bindS hs
  refine go_V1 (As := [.int (10 : Int32)]) (st := []) g5 rfl rfl (oX4_takeNumber (d := d - 1) (by omega) ey4) (by omega) mb_X4_takeNumber lm_RX4_112 mi_X4_takeNumber (Nat.le_of_ble_eq_true rfl) rfl dX4_tellDry_10 ?_
  refine go_if_ne (tgt := 18) (by decide) dX4_tellDry_13 (fun c => ?_) (fun c => ?_)
  · have hs := if_f c hs
    refine go_aload_n (k4 := 0) rfl (Or.inr ⟨_, rfl⟩) dX4_tellDry_18 ?_
    refine go_aload_n (k4 := 0) rfl (Or.inr ⟨_, rfl⟩) dX4_tellDry_19 ?_
    obtain ⟨v6, ev6, hs⟩ := bindS hs
    refine go_gI fl_RX4_30 ev6 dX4_tellDry_20 ?_
    obtain ⟨h7, eh7, hs⟩ := bindS hs
    refine go_sV fw_RX4_48 eh7 rfl rfl dX4_tellDry_23 ?_
    refine go_iconst (v := 1) (by decide) dX4_tellDry_26 ?_
    obtain rfl := Option.some.inj hs
    obtain ⟨rfl, rfl⟩ := hk
    exact go_zret (ty := .boolean) rfl rfl dX4_tellDry_27
  · have hs := if_t c hs
    refine go_iconst (v := 0) (by decide) dX4_tellDry_16 ?_
    obtain rfl := Option.some.inj hs
    obtain ⟨rfl, rfl⟩ := hk
    exact go_zret (ty := .boolean) rfl rfl dX4_tellDry_17
theorem oX4_tellDry {d : Nat} (hd : 6 ≤ d) {h : Hp} {x0 : Nat} {y : (Int32 × Hp)} (hs : fX4_tellDry h x0 = some y) : Call d mX4_tellDry [.ref x0] h (some (.int y.1)) (y.2) := call_of (by decide +kernel) (Nat.le_of_ble_eq_true rfl) (show Go d mX4_tellDry 0 [some (.ref x0)] [] h _ _ from go_subL (by simp [subL]) (oX4_tellDry_0 hd hs ⟨rfl, rfl⟩))
abbrev kX4_isAtPlusOrMinus (h : Hp) (rf : Option Value) (hf : Hp) : Int32 → Prop := fun y => rf = some (.int y) ∧ hf = h
noncomputable def fX4_isAtPlusOrMinus_29 (h : Hp) (s0 : Int32) : Option Int32 :=
  bl s0 (some (s0))
theorem oX4_isAtPlusOrMinus_29 {d : Nat} (hd : 5 ≤ d) {h : Hp} {s0 : Int32} {rf : Option Value} {hf : Hp} {x : Int32} (hs : fX4_isAtPlusOrMinus_29 h s0 = some x) (hk : (kX4_isAtPlusOrMinus h rf hf) x) : Go d mX4_isAtPlusOrMinus 29 [none] [.int s0] h rf hf := by
  unfold fX4_isAtPlusOrMinus_29 at hs
  obtain ⟨n1, n2, hs⟩ := bl_at hs
  obtain rfl := Option.some.inj hs
  obtain ⟨rfl, rfl⟩ := hk
  exact go_zret (ty := .boolean) rfl n1 dX4_isAtPlusOrMinus_29
noncomputable def fX4_isAtPlusOrMinus_24 (h : Hp)  : Option Int32 :=
  fX4_isAtPlusOrMinus_29 h (1 : Int32)
theorem oX4_isAtPlusOrMinus_24 {d : Nat} (hd : 5 ≤ d) {h : Hp} {rf : Option Value} {hf : Hp} {x : Int32} (hs : fX4_isAtPlusOrMinus_24 h  = some x) (hk : (kX4_isAtPlusOrMinus h rf hf) x) : Go d mX4_isAtPlusOrMinus 24 [none] [] h rf hf := by
  unfold fX4_isAtPlusOrMinus_24 at hs
  refine go_iconst (v := 1) (by decide) dX4_isAtPlusOrMinus_24 ?_
  refine go_goto (tgt := 29) (by decide) dX4_isAtPlusOrMinus_25 ?_
  exact go_subL (L' := [none]) (by simp [subL, va_rf]) (oX4_isAtPlusOrMinus_29 hd hs hk)
noncomputable def fX4_isAtPlusOrMinus (h : Hp) (x0 : Nat) : Option Int32 :=
  (gN h 4 x0 0).bind fun v1 =>
  gO h 6 v1 (
  (fX6_isAt h v1 32).bind fun y2 =>
  if y2 = 0 then (
    (gN h 4 x0 0).bind fun v4 =>
    gO h 6 v4 (
    (fX6_isAt h v4 33).bind fun y5 =>
    if y5 = 0 then (
      fX4_isAtPlusOrMinus_29 h (0 : Int32)) else (
    fX4_isAtPlusOrMinus_24 h ))) else (
  fX4_isAtPlusOrMinus_24 h ))
theorem oX4_isAtPlusOrMinus_0 {d : Nat} (hd : 5 ≤ d) {h : Hp} {x0 : Nat} {rf : Option Value} {hf : Hp} {x : Int32} (hs : fX4_isAtPlusOrMinus h x0 = some x) (hk : (kX4_isAtPlusOrMinus h rf hf) x) : Go d mX4_isAtPlusOrMinus 0 [some (.ref x0)] [] h rf hf := by
  unfold fX4_isAtPlusOrMinus at hs
  refine go_aload_n (k4 := 0) rfl (Or.inr ⟨_, rfl⟩) dX4_isAtPlusOrMinus_0 ?_
  obtain ⟨v1, ev1, hs⟩ := bindS hs
  refine go_gN fl_RX4_12 ev1 dX4_isAtPlusOrMinus_1 ?_
  refine go_str (j := 32) ls_RX4_169 dX4_isAtPlusOrMinus_4 ?_
  obtain ⟨g3, hs⟩ := gO_at hs
  obtain ⟨y2, ey2, hs⟩ := bindS hs
  refine go_V1 (As := [.ref 32]) (st := []) g3 rfl rfl (oX6_isAt (d := d - 1) (by omega) ey2) (by omega) mb_X6_isAt lm_RX4_92 mi_X6_isAt (Nat.le_of_ble_eq_true rfl) rfl dX4_isAtPlusOrMinus_6 ?_
  refine go_if_ne (tgt := 24) (by decide) dX4_isAtPlusOrMinus_9 (fun c => ?_) (fun c => ?_)
  · have hs := if_f c hs
    exact go_subL (L' := [none]) (by simp [subL, va_rf]) (oX4_isAtPlusOrMinus_24 hd hs hk)
  · have hs := if_t c hs
    refine go_aload_n (k4 := 0) rfl (Or.inr ⟨_, rfl⟩) dX4_isAtPlusOrMinus_12 ?_
    obtain ⟨v4, ev4, hs⟩ := bindS hs
    refine go_gN fl_RX4_12 ev4 dX4_isAtPlusOrMinus_13 ?_
    refine go_str (j := 33) ls_RX4_175 dX4_isAtPlusOrMinus_16 ?_
    obtain ⟨g6, hs⟩ := gO_at hs
    obtain ⟨y5, ey5, hs⟩ := bindS hs
    refine go_V1 (As := [.ref 33]) (st := []) g6 rfl rfl (oX6_isAt (d := d - 1) (by omega) ey5) (by omega) mb_X6_isAt lm_RX4_92 mi_X6_isAt (Nat.le_of_ble_eq_true rfl) rfl dX4_isAtPlusOrMinus_18 ?_
    refine go_if_eq (tgt := 28) (by decide) dX4_isAtPlusOrMinus_21 (fun c => ?_) (fun c => ?_)
    · have hs := if_t c hs
      refine go_iconst (v := 0) (by decide) dX4_isAtPlusOrMinus_28 ?_
      exact go_subL (L' := [none]) (by simp [subL, va_rf]) (oX4_isAtPlusOrMinus_29 hd hs hk)
    · have hs := if_f c hs
      exact go_subL (L' := [none]) (by simp [subL, va_rf]) (oX4_isAtPlusOrMinus_24 hd hs hk)
theorem oX4_isAtPlusOrMinus {d : Nat} (hd : 5 ≤ d) {h : Hp} {x0 : Nat} {y : Int32} (hs : fX4_isAtPlusOrMinus h x0 = some y) : Call d mX4_isAtPlusOrMinus [.ref x0] h (some (.int y)) h := call_of (by decide +kernel) (Nat.le_of_ble_eq_true rfl) (show Go d mX4_isAtPlusOrMinus 0 [some (.ref x0)] [] h _ _ from go_subL (by simp [subL]) (oX4_isAtPlusOrMinus_0 hd hs ⟨rfl, rfl⟩))
abbrev kX4_put (rf : Option Value) (hf : Hp) : Hp → Prop := fun y => rf = none ∧ hf = y
noncomputable def fX4_put_32 (h : Hp)  : Option Hp :=
  some (h)
theorem oX4_put_32 {d : Nat} (hd : 0 ≤ d) {h : Hp} {rf : Option Value} {hf : Hp} {x : Hp} (hs : fX4_put_32 h  = some x) (hk : (kX4_put rf hf) x) : Go d mX4_put 32 [none, none] [] h rf hf := by
  unfold fX4_put_32 at hs
  obtain rfl := Option.some.inj hs
  obtain ⟨rfl, rfl⟩ := hk
  exact go_vret rfl dX4_put_32
noncomputable def fX4_put (h : Hp) (x0 : Nat) (x1 : Int32) : Option Hp :=
  (gI h 4 x0 2).bind fun v1 =>
  (gN h 4 x0 1).bind fun v2 =>
  (aL h v2).bind fun v3 =>
  if v3 ≤ v1 then (
  fX4_put_32 h ) else (
    (gN h 4 x0 1).bind fun v4 =>
    (gI h 4 x0 2).bind fun v5 =>
    (wI 0 h v4 v5 x1).bind fun h6 =>
    (gI h6 4 x0 2).bind fun v7 =>
    (sV h6 4 x0 2 (.int (v7 + (1 : Int32)))).bind fun h8 =>
    fX4_put_32 h8 )
theorem oX4_put_0 {d : Nat} (hd : 0 ≤ d) {h : Hp} {x0 : Nat} {x1 : Int32} {rf : Option Value} {hf : Hp} {x : Hp} (hs : fX4_put h x0 x1 = some x) (hk : (kX4_put rf hf) x) : Go d mX4_put 0 [some (.ref x0), some (.int x1)] [] h rf hf := by
  unfold fX4_put at hs
  refine go_aload_n (k4 := 0) rfl (Or.inr ⟨_, rfl⟩) dX4_put_0 ?_
  obtain ⟨v1, ev1, hs⟩ := bindS hs
  refine go_gI fl_RX4_22 ev1 dX4_put_1 ?_
  refine go_aload_n (k4 := 0) rfl (Or.inr ⟨_, rfl⟩) dX4_put_4 ?_
  obtain ⟨v2, ev2, hs⟩ := bindS hs
  refine go_gN fl_RX4_18 ev2 dX4_put_5 ?_
  obtain ⟨v3, ev3, hs⟩ := bindS hs
  refine go_aL ev3 dX4_put_8 ?_
  refine go_icmp_ge (tgt := 32) (by decide) dX4_put_9 (fun c => ?_) (fun c => ?_)
  · have hs := if_t c hs
    exact go_subL (L' := [none, none]) (by simp [subL, va_rf]) (oX4_put_32 hd hs hk)
  · have hs := if_f c hs
    refine go_aload_n (k4 := 0) rfl (Or.inr ⟨_, rfl⟩) dX4_put_12 ?_
    obtain ⟨v4, ev4, hs⟩ := bindS hs
    refine go_gN fl_RX4_18 ev4 dX4_put_13 ?_
    refine go_aload_n (k4 := 0) rfl (Or.inr ⟨_, rfl⟩) dX4_put_16 ?_
    obtain ⟨v5, ev5, hs⟩ := bindS hs
    refine go_gI fl_RX4_22 ev5 dX4_put_17 ?_
    refine go_iload_n (k4 := 1) rfl dX4_put_20 ?_
    obtain ⟨h6, eh6, hs⟩ := bindS hs
    refine go_wIi eh6 dX4_put_21 ?_
    refine go_aload_n (k4 := 0) rfl (Or.inr ⟨_, rfl⟩) dX4_put_22 ?_
    refine go_at 23 rfl ?_
    refine go_dup rfl dX4_put_23 ?_
    obtain ⟨v7, ev7, hs⟩ := bindS hs
    refine go_gI fl_RX4_22 ev7 dX4_put_24 ?_
    refine go_iconst (v := 1) (by decide) dX4_put_27 ?_
    refine go_iadd dX4_put_28 ?_
    obtain ⟨h8, eh8, hs⟩ := bindS hs
    refine go_sV fw_RX4_22 eh8 rfl rfl dX4_put_29 ?_
    exact go_subL (L' := [none, none]) (by simp [subL, va_rf]) (oX4_put_32 hd hs hk)
theorem oX4_put {d : Nat} (hd : 0 ≤ d) {h : Hp} {x0 : Nat} {x1 : Int32} {y : Hp} (hs : fX4_put h x0 x1 = some y) : Call d mX4_put [.ref x0, .int x1] h (none) y := call_of (by decide +kernel) (Nat.le_of_ble_eq_true rfl) (show Go d mX4_put 0 [some (.ref x0), some (.int x1)] [] h _ _ from go_subL (by simp [subL]) (oX4_put_0 hd hs ⟨rfl, rfl⟩))
abbrev kX4_goInto (rf : Option Value) (hf : Hp) : (Int32 × Hp) → Prop := fun y => rf = some (.int y.1) ∧ hf = y.2
noncomputable def fX4_goInto (h : Hp) (x0 : Nat) (x1 : Int32) : Option (Int32 × Hp) :=
  if x1 < (6 : Int32) then (
    (gN h 4 x0 0).bind fun v1 =>
    gO h 6 v1 (
    (fX6_advance h v1).bind fun y2 =>
    some (((1 : Int32), y2)))) else (
    gO h 4 x0 (
    (fX4_refuse h x0 (4 : Int32)).bind fun y4 =>
    bl y4.1 (some ((y4.1, y4.2)))))
theorem oX4_goInto_0 {d : Nat} (hd : 5 ≤ d) {h : Hp} {x0 : Nat} {x1 : Int32} {rf : Option Value} {hf : Hp} {x : (Int32 × Hp)} (hs : fX4_goInto h x0 x1 = some x) (hk : (kX4_goInto rf hf) x) : Go d mX4_goInto 0 [some (.ref x0), some (.int x1)] [] h rf hf := by
  unfold fX4_goInto at hs
  refine go_iload_n (k4 := 1) rfl dX4_goInto_0 ?_
  refine go_bipush (v := 6) (by decide) dX4_goInto_1 ?_
  refine go_icmp_lt (tgt := 12) (by decide) dX4_goInto_3 (fun c => ?_) (fun c => ?_)
  · have hs := if_t c hs
    refine go_aload_n (k4 := 0) rfl (Or.inr ⟨_, rfl⟩) dX4_goInto_12 ?_
    obtain ⟨v1, ev1, hs⟩ := bindS hs
    refine go_gN fl_RX4_12 ev1 dX4_goInto_13 ?_
    obtain ⟨g3, hs⟩ := gO_at hs
    obtain ⟨y2, ey2, hs⟩ := bindS hs
    refine go_V0 (As := []) (st := []) g3 rfl rfl (oX6_advance (d := d - 1) (by omega) ey2) (by omega) mb_X6_advance lm_RX4_100 mi_X6_advance (Nat.le_of_ble_eq_true rfl) rfl dX4_goInto_16 ?_
    refine go_iconst (v := 1) (by decide) dX4_goInto_19 ?_
    obtain rfl := Option.some.inj hs
    obtain ⟨rfl, rfl⟩ := hk
    exact go_zret (ty := .boolean) rfl rfl dX4_goInto_20
  · have hs := if_f c hs
    refine go_aload_n (k4 := 0) rfl (Or.inr ⟨_, rfl⟩) dX4_goInto_6 ?_
    refine go_iconst (v := 4) (by decide) dX4_goInto_7 ?_
    obtain ⟨g5, hs⟩ := gO_at hs
    obtain ⟨y4, ey4, hs⟩ := bindS hs
    refine go_V1 (As := [.int (4 : Int32)]) (st := []) g5 rfl rfl (oX4_refuse (d := d - 1) (by omega) ey4) (by omega) mb_X4_refuse lm_RX4_96 mi_X4_refuse (Nat.le_of_ble_eq_true rfl) rfl dX4_goInto_8 ?_
    obtain ⟨n1, n2, hs⟩ := bl_at hs
    obtain rfl := Option.some.inj hs
    obtain ⟨rfl, rfl⟩ := hk
    exact go_zret (ty := .boolean) rfl n1 dX4_goInto_11
theorem oX4_goInto {d : Nat} (hd : 5 ≤ d) {h : Hp} {x0 : Nat} {x1 : Int32} {y : (Int32 × Hp)} (hs : fX4_goInto h x0 x1 = some y) : Call d mX4_goInto [.ref x0, .int x1] h (some (.int y.1)) (y.2) := call_of (by decide +kernel) (Nat.le_of_ble_eq_true rfl) (show Go d mX4_goInto 0 [some (.ref x0), some (.int x1)] [] h _ _ from go_subL (by simp [subL]) (oX4_goInto_0 hd hs ⟨rfl, rfl⟩))
abbrev kX4_wordOfGrows (h : Hp) (rf : Option Value) (hf : Hp) : Int32 → Prop := fun y => rf = some (.int y) ∧ hf = h
noncomputable def fX4_wordOfGrows_64 (h : Hp) (s0 : Int32) : Option Int32 :=
  some (s0)
theorem oX4_wordOfGrows_64 {d : Nat} (hd : 5 ≤ d) {h : Hp} {s0 : Int32} {rf : Option Value} {hf : Hp} {x : Int32} (hs : fX4_wordOfGrows_64 h s0 = some x) (hk : (kX4_wordOfGrows h rf hf) x) : Go d mX4_wordOfGrows 64 [none] [.int s0] h rf hf := by
  unfold fX4_wordOfGrows_64 at hs
  obtain rfl := Option.some.inj hs
  obtain ⟨rfl, rfl⟩ := hk
  exact go_iret rfl dX4_wordOfGrows_64
noncomputable def fX4_wordOfGrows (h : Hp) (x0 : Nat) : Option Int32 :=
  (gN h 4 x0 0).bind fun v1 =>
  gO h 6 v1 (
  (fX6_isAt h v1 7).bind fun y2 =>
  if y2 = 0 then (
    (gN h 4 x0 0).bind fun v4 =>
    gO h 6 v4 (
    (fX6_isAt h v4 9).bind fun y5 =>
    if y5 = 0 then (
      (gN h 4 x0 0).bind fun v7 =>
      gO h 6 v7 (
      (fX6_isAt h v7 5).bind fun y8 =>
      if y8 = 0 then (
        (gN h 4 x0 0).bind fun v10 =>
        gO h 6 v10 (
        (fX6_isAt h v10 8).bind fun y11 =>
        if y11 = 0 then (
          fX4_wordOfGrows_64 h (-19 : Int32)) else (
          fX4_wordOfGrows_64 h (-6 : Int32)))) else (
        some ((-5 : Int32))))) else (
      some ((-4 : Int32))))) else (
    some ((-3 : Int32))))
theorem oX4_wordOfGrows_0 {d : Nat} (hd : 5 ≤ d) {h : Hp} {x0 : Nat} {rf : Option Value} {hf : Hp} {x : Int32} (hs : fX4_wordOfGrows h x0 = some x) (hk : (kX4_wordOfGrows h rf hf) x) : Go d mX4_wordOfGrows 0 [some (.ref x0)] [] h rf hf := by
  unfold fX4_wordOfGrows at hs
  refine go_aload_n (k4 := 0) rfl (Or.inr ⟨_, rfl⟩) dX4_wordOfGrows_0 ?_
  obtain ⟨v1, ev1, hs⟩ := bindS hs
  refine go_gN fl_RX4_12 ev1 dX4_wordOfGrows_1 ?_
  refine go_str (j := 7) ls_RX4_117 dX4_wordOfGrows_4 ?_
  obtain ⟨g3, hs⟩ := gO_at hs
  obtain ⟨y2, ey2, hs⟩ := bindS hs
  refine go_V1 (As := [.ref 7]) (st := []) g3 rfl rfl (oX6_isAt (d := d - 1) (by omega) ey2) (by omega) mb_X6_isAt lm_RX4_92 mi_X6_isAt (Nat.le_of_ble_eq_true rfl) rfl dX4_wordOfGrows_6 ?_
  refine go_if_eq (tgt := 15) (by decide) dX4_wordOfGrows_9 (fun c => ?_) (fun c => ?_)
  · have hs := if_t c hs
    refine go_aload_n (k4 := 0) rfl (Or.inr ⟨_, rfl⟩) dX4_wordOfGrows_15 ?_
    obtain ⟨v4, ev4, hs⟩ := bindS hs
    refine go_gN fl_RX4_12 ev4 dX4_wordOfGrows_16 ?_
    refine go_str (j := 9) ls_RX4_145 dX4_wordOfGrows_19 ?_
    obtain ⟨g6, hs⟩ := gO_at hs
    obtain ⟨y5, ey5, hs⟩ := bindS hs
    refine go_V1 (As := [.ref 9]) (st := []) g6 rfl rfl (oX6_isAt (d := d - 1) (by omega) ey5) (by omega) mb_X6_isAt lm_RX4_92 mi_X6_isAt (Nat.le_of_ble_eq_true rfl) rfl dX4_wordOfGrows_21 ?_
    refine go_if_eq (tgt := 30) (by decide) dX4_wordOfGrows_24 (fun c => ?_) (fun c => ?_)
    · have hs := if_t c hs
      refine go_aload_n (k4 := 0) rfl (Or.inr ⟨_, rfl⟩) dX4_wordOfGrows_30 ?_
      obtain ⟨v7, ev7, hs⟩ := bindS hs
      refine go_gN fl_RX4_12 ev7 dX4_wordOfGrows_31 ?_
      refine go_str (j := 5) ls_RX4_111 dX4_wordOfGrows_34 ?_
      obtain ⟨g9, hs⟩ := gO_at hs
      obtain ⟨y8, ey8, hs⟩ := bindS hs
      refine go_V1 (As := [.ref 5]) (st := []) g9 rfl rfl (oX6_isAt (d := d - 1) (by omega) ey8) (by omega) mb_X6_isAt lm_RX4_92 mi_X6_isAt (Nat.le_of_ble_eq_true rfl) rfl dX4_wordOfGrows_36 ?_
      refine go_if_eq (tgt := 45) (by decide) dX4_wordOfGrows_39 (fun c => ?_) (fun c => ?_)
      · have hs := if_t c hs
        refine go_aload_n (k4 := 0) rfl (Or.inr ⟨_, rfl⟩) dX4_wordOfGrows_45 ?_
        obtain ⟨v10, ev10, hs⟩ := bindS hs
        refine go_gN fl_RX4_12 ev10 dX4_wordOfGrows_46 ?_
        refine go_str (j := 8) ls_RX4_140 dX4_wordOfGrows_49 ?_
        obtain ⟨g12, hs⟩ := gO_at hs
        obtain ⟨y11, ey11, hs⟩ := bindS hs
        refine go_V1 (As := [.ref 8]) (st := []) g12 rfl rfl (oX6_isAt (d := d - 1) (by omega) ey11) (by omega) mb_X6_isAt lm_RX4_92 mi_X6_isAt (Nat.le_of_ble_eq_true rfl) rfl dX4_wordOfGrows_51 ?_
        refine go_if_eq (tgt := 62) (by decide) dX4_wordOfGrows_54 (fun c => ?_) (fun c => ?_)
        · have hs := if_t c hs
          refine go_bipush (v := -19) (by decide) dX4_wordOfGrows_62 ?_
          exact go_subL (L' := [none]) (by simp [subL, va_rf]) (oX4_wordOfGrows_64 hd hs hk)
        · have hs := if_f c hs
          refine go_bipush (v := -6) (by decide) dX4_wordOfGrows_57 ?_
          refine go_goto (tgt := 64) (by decide) dX4_wordOfGrows_59 ?_
          exact go_subL (L' := [none]) (by simp [subL, va_rf]) (oX4_wordOfGrows_64 hd hs hk)
      · have hs := if_f c hs
        refine go_bipush (v := -5) (by decide) dX4_wordOfGrows_42 ?_
        obtain rfl := Option.some.inj hs
        obtain ⟨rfl, rfl⟩ := hk
        exact go_iret rfl dX4_wordOfGrows_44
    · have hs := if_f c hs
      refine go_bipush (v := -4) (by decide) dX4_wordOfGrows_27 ?_
      obtain rfl := Option.some.inj hs
      obtain ⟨rfl, rfl⟩ := hk
      exact go_iret rfl dX4_wordOfGrows_29
  · have hs := if_f c hs
    refine go_bipush (v := -3) (by decide) dX4_wordOfGrows_12 ?_
    obtain rfl := Option.some.inj hs
    obtain ⟨rfl, rfl⟩ := hk
    exact go_iret rfl dX4_wordOfGrows_14
theorem oX4_wordOfGrows {d : Nat} (hd : 5 ≤ d) {h : Hp} {x0 : Nat} {y : Int32} (hs : fX4_wordOfGrows h x0 = some y) : Call d mX4_wordOfGrows [.ref x0] h (some (.int y)) h := call_of (by decide +kernel) (Nat.le_of_ble_eq_true rfl) (show Go d mX4_wordOfGrows 0 [some (.ref x0)] [] h _ _ from go_subL (by simp [subL]) (oX4_wordOfGrows_0 hd hs ⟨rfl, rfl⟩))
abbrev kX4_wordOfFalls (h : Hp) (rf : Option Value) (hf : Hp) : Int32 → Prop := fun y => rf = some (.int y) ∧ hf = h
noncomputable def fX4_wordOfFalls_34 (h : Hp) (s0 : Int32) : Option Int32 :=
  some (s0)
theorem oX4_wordOfFalls_34 {d : Nat} (hd : 5 ≤ d) {h : Hp} {s0 : Int32} {rf : Option Value} {hf : Hp} {x : Int32} (hs : fX4_wordOfFalls_34 h s0 = some x) (hk : (kX4_wordOfFalls h rf hf) x) : Go d mX4_wordOfFalls 34 [none] [.int s0] h rf hf := by
  unfold fX4_wordOfFalls_34 at hs
  obtain rfl := Option.some.inj hs
  obtain ⟨rfl, rfl⟩ := hk
  exact go_iret rfl dX4_wordOfFalls_34
noncomputable def fX4_wordOfFalls (h : Hp) (x0 : Nat) : Option Int32 :=
  (gN h 4 x0 0).bind fun v1 =>
  gO h 6 v1 (
  (fX6_isAt h v1 29).bind fun y2 =>
  if y2 = 0 then (
    (gN h 4 x0 0).bind fun v4 =>
    gO h 6 v4 (
    (fX6_isAt h v4 30).bind fun y5 =>
    if y5 = 0 then (
      fX4_wordOfFalls_34 h (-19 : Int32)) else (
      fX4_wordOfFalls_34 h (-8 : Int32)))) else (
    some ((-7 : Int32))))
theorem oX4_wordOfFalls_0 {d : Nat} (hd : 5 ≤ d) {h : Hp} {x0 : Nat} {rf : Option Value} {hf : Hp} {x : Int32} (hs : fX4_wordOfFalls h x0 = some x) (hk : (kX4_wordOfFalls h rf hf) x) : Go d mX4_wordOfFalls 0 [some (.ref x0)] [] h rf hf := by
  unfold fX4_wordOfFalls at hs
  refine go_aload_n (k4 := 0) rfl (Or.inr ⟨_, rfl⟩) dX4_wordOfFalls_0 ?_
  obtain ⟨v1, ev1, hs⟩ := bindS hs
  refine go_gN fl_RX4_12 ev1 dX4_wordOfFalls_1 ?_
  refine go_str (j := 29) ls_RX4_212 dX4_wordOfFalls_4 ?_
  obtain ⟨g3, hs⟩ := gO_at hs
  obtain ⟨y2, ey2, hs⟩ := bindS hs
  refine go_V1 (As := [.ref 29]) (st := []) g3 rfl rfl (oX6_isAt (d := d - 1) (by omega) ey2) (by omega) mb_X6_isAt lm_RX4_92 mi_X6_isAt (Nat.le_of_ble_eq_true rfl) rfl dX4_wordOfFalls_6 ?_
  refine go_if_eq (tgt := 15) (by decide) dX4_wordOfFalls_9 (fun c => ?_) (fun c => ?_)
  · have hs := if_t c hs
    refine go_aload_n (k4 := 0) rfl (Or.inr ⟨_, rfl⟩) dX4_wordOfFalls_15 ?_
    obtain ⟨v4, ev4, hs⟩ := bindS hs
    refine go_gN fl_RX4_12 ev4 dX4_wordOfFalls_16 ?_
    refine go_str (j := 30) ls_RX4_213 dX4_wordOfFalls_19 ?_
    obtain ⟨g6, hs⟩ := gO_at hs
    obtain ⟨y5, ey5, hs⟩ := bindS hs
    refine go_V1 (As := [.ref 30]) (st := []) g6 rfl rfl (oX6_isAt (d := d - 1) (by omega) ey5) (by omega) mb_X6_isAt lm_RX4_92 mi_X6_isAt (Nat.le_of_ble_eq_true rfl) rfl dX4_wordOfFalls_21 ?_
    refine go_if_eq (tgt := 32) (by decide) dX4_wordOfFalls_24 (fun c => ?_) (fun c => ?_)
    · have hs := if_t c hs
      refine go_bipush (v := -19) (by decide) dX4_wordOfFalls_32 ?_
      exact go_subL (L' := [none]) (by simp [subL, va_rf]) (oX4_wordOfFalls_34 hd hs hk)
    · have hs := if_f c hs
      refine go_bipush (v := -8) (by decide) dX4_wordOfFalls_27 ?_
      refine go_goto (tgt := 34) (by decide) dX4_wordOfFalls_29 ?_
      exact go_subL (L' := [none]) (by simp [subL, va_rf]) (oX4_wordOfFalls_34 hd hs hk)
  · have hs := if_f c hs
    refine go_bipush (v := -7) (by decide) dX4_wordOfFalls_12 ?_
    obtain rfl := Option.some.inj hs
    obtain ⟨rfl, rfl⟩ := hk
    exact go_iret rfl dX4_wordOfFalls_14
theorem oX4_wordOfFalls {d : Nat} (hd : 5 ≤ d) {h : Hp} {x0 : Nat} {y : Int32} (hs : fX4_wordOfFalls h x0 = some y) : Call d mX4_wordOfFalls [.ref x0] h (some (.int y)) h := call_of (by decide +kernel) (Nat.le_of_ble_eq_true rfl) (show Go d mX4_wordOfFalls 0 [some (.ref x0)] [] h _ _ from go_subL (by simp [subL]) (oX4_wordOfFalls_0 hd hs ⟨rfl, rfl⟩))
abbrev kX4_word (h : Hp) (rf : Option Value) (hf : Hp) : Int32 → Prop := fun y => rf = some (.int y) ∧ hf = h
noncomputable def fX4_word_47 (h : Hp) (s0 : Int32) : Option Int32 :=
  some (s0)
theorem oX4_word_47 {d : Nat} (hd : 6 ≤ d) {h : Hp} {s0 : Int32} {rf : Option Value} {hf : Hp} {x : Int32} (hs : fX4_word_47 h s0 = some x) (hk : (kX4_word h rf hf) x) : Go d mX4_word 47 [none] [.int s0] h rf hf := by
  unfold fX4_word_47 at hs
  obtain rfl := Option.some.inj hs
  obtain ⟨rfl, rfl⟩ := hk
  exact go_iret rfl dX4_word_47
noncomputable def fX4_word (h : Hp) (x0 : Nat) : Option Int32 :=
  (gN h 4 x0 0).bind fun v1 =>
  gO h 6 v1 (
  (fX6_isAt h v1 28).bind fun y2 =>
  if y2 = 0 then (
    (gN h 4 x0 0).bind fun v4 =>
    gO h 6 v4 (
    (fX6_isAt h v4 11).bind fun y5 =>
    if y5 = 0 then (
      (gI h 4 x0 3).bind fun v7 =>
      if v7 = 0 then (
        gO h 4 x0 (
        (fX4_wordOfFalls h x0).bind fun y8 =>
        fX4_word_47 h y8)) else (
        gO h 4 x0 (
        (fX4_wordOfGrows h x0).bind fun y10 =>
        fX4_word_47 h y10))) else (
      some ((-2 : Int32))))) else (
    some ((-1 : Int32))))
theorem oX4_word_0 {d : Nat} (hd : 6 ≤ d) {h : Hp} {x0 : Nat} {rf : Option Value} {hf : Hp} {x : Int32} (hs : fX4_word h x0 = some x) (hk : (kX4_word h rf hf) x) : Go d mX4_word 0 [some (.ref x0)] [] h rf hf := by
  unfold fX4_word at hs
  refine go_aload_n (k4 := 0) rfl (Or.inr ⟨_, rfl⟩) dX4_word_0 ?_
  obtain ⟨v1, ev1, hs⟩ := bindS hs
  refine go_gN fl_RX4_12 ev1 dX4_word_1 ?_
  refine go_str (j := 28) ls_RX4_204 dX4_word_4 ?_
  obtain ⟨g3, hs⟩ := gO_at hs
  obtain ⟨y2, ey2, hs⟩ := bindS hs
  refine go_V1 (As := [.ref 28]) (st := []) g3 rfl rfl (oX6_isAt (d := d - 1) (by omega) ey2) (by omega) mb_X6_isAt lm_RX4_92 mi_X6_isAt (Nat.le_of_ble_eq_true rfl) rfl dX4_word_6 ?_
  refine go_if_eq (tgt := 14) (by decide) dX4_word_9 (fun c => ?_) (fun c => ?_)
  · have hs := if_t c hs
    refine go_aload_n (k4 := 0) rfl (Or.inr ⟨_, rfl⟩) dX4_word_14 ?_
    obtain ⟨v4, ev4, hs⟩ := bindS hs
    refine go_gN fl_RX4_12 ev4 dX4_word_15 ?_
    refine go_str (j := 11) ls_RX4_127 dX4_word_18 ?_
    obtain ⟨g6, hs⟩ := gO_at hs
    obtain ⟨y5, ey5, hs⟩ := bindS hs
    refine go_V1 (As := [.ref 11]) (st := []) g6 rfl rfl (oX6_isAt (d := d - 1) (by omega) ey5) (by omega) mb_X6_isAt lm_RX4_92 mi_X6_isAt (Nat.le_of_ble_eq_true rfl) rfl dX4_word_20 ?_
    refine go_if_eq (tgt := 29) (by decide) dX4_word_23 (fun c => ?_) (fun c => ?_)
    · have hs := if_t c hs
      refine go_aload_n (k4 := 0) rfl (Or.inr ⟨_, rfl⟩) dX4_word_29 ?_
      obtain ⟨v7, ev7, hs⟩ := bindS hs
      refine go_gI fl_RX4_26 ev7 dX4_word_30 ?_
      refine go_if_eq (tgt := 43) (by decide) dX4_word_33 (fun c => ?_) (fun c => ?_)
      · have hs := if_t c hs
        refine go_aload_n (k4 := 0) rfl (Or.inr ⟨_, rfl⟩) dX4_word_43 ?_
        obtain ⟨g9, hs⟩ := gO_at hs
        obtain ⟨y8, ey8, hs⟩ := bindS hs
        refine go_V1 (As := []) (st := []) g9 rfl rfl (oX4_wordOfFalls (d := d - 1) (by omega) ey8) (by omega) mb_X4_wordOfFalls lm_RX4_209 mi_X4_wordOfFalls (Nat.le_of_ble_eq_true rfl) rfl dX4_word_44 ?_
        exact go_subL (L' := [none]) (by simp [subL, va_rf]) (oX4_word_47 hd hs hk)
      · have hs := if_f c hs
        refine go_aload_n (k4 := 0) rfl (Or.inr ⟨_, rfl⟩) dX4_word_36 ?_
        obtain ⟨g11, hs⟩ := gO_at hs
        obtain ⟨y10, ey10, hs⟩ := bindS hs
        refine go_V1 (As := []) (st := []) g11 rfl rfl (oX4_wordOfGrows (d := d - 1) (by omega) ey10) (by omega) mb_X4_wordOfGrows lm_RX4_206 mi_X4_wordOfGrows (Nat.le_of_ble_eq_true rfl) rfl dX4_word_37 ?_
        refine go_goto (tgt := 47) (by decide) dX4_word_40 ?_
        exact go_subL (L' := [none]) (by simp [subL, va_rf]) (oX4_word_47 hd hs hk)
    · have hs := if_f c hs
      refine go_bipush (v := -2) (by decide) dX4_word_26 ?_
      obtain rfl := Option.some.inj hs
      obtain ⟨rfl, rfl⟩ := hk
      exact go_iret rfl dX4_word_28
  · have hs := if_f c hs
    refine go_iconst (v := -1) (by decide) dX4_word_12 ?_
    obtain rfl := Option.some.inj hs
    obtain ⟨rfl, rfl⟩ := hk
    exact go_iret rfl dX4_word_13
theorem oX4_word {d : Nat} (hd : 6 ≤ d) {h : Hp} {x0 : Nat} {y : Int32} (hs : fX4_word h x0 = some y) : Call d mX4_word [.ref x0] h (some (.int y)) h := call_of (by decide +kernel) (Nat.le_of_ble_eq_true rfl) (show Go d mX4_word 0 [some (.ref x0)] [] h _ _ from go_subL (by simp [subL]) (oX4_word_0 hd hs ⟨rfl, rfl⟩))
abbrev mgX4_sum (sel : Nat) : Mt := if sel = 0 then mX4_sum else if sel = 1 then mX4_term else if sel = 2 then mX4_atom else if sel = 3 then mX4_choice else if sel = 4 then mX4_truth else if sel = 5 then mX4_both else if sel = 6 then mX4_unit else mX4_comparison
abbrev kX4_sum (rf : Option Value) (hf : Hp) : (Int32 × Hp) → Prop := fun y => rf = some (.int y.1) ∧ hf = y.2
abbrev pX4_sum_8 (d : Nat) (x0 : Nat) (x1 : Int32) (rf : Option Value) (hf : Hp) : (Int32 × Int32 × Hp) → Prop := fun s => Go d mX4_sum 8 [some (.ref x0), some (.int x1), some (.int s.1), some (.int s.2.1), none] [] s.2.2 rf hf
noncomputable def fX4_sum_72 (rc : Nat → Hp → Nat → Int32 → Option (Int32 × Hp)) (h : Hp) (x2 : Int32) : Option (Int32 × Hp) :=
  bl x2 (some ((x2, h)))
theorem oX4_sum_72 {d : Nat} (hd : 7 ≤ d) {rc : Nat → Hp → Nat → Int32 → Option (Int32 × Hp)} (hrc : ∀ (sel : Nat) (h : Hp) (x0 : Nat) (x1 : Int32) (y : (Int32 × Hp)), rc sel h x0 x1 = some y → Call (d - 1) (mgX4_sum sel) [.ref x0, .int x1] h (some (.int y.1)) (y.2)) {h : Hp} {x2 : Int32} {rf : Option Value} {hf : Hp} {x : (Int32 × Hp)} (hs : fX4_sum_72 rc h x2 = some x) (hk : (kX4_sum rf hf) x) : Go d mX4_sum 72 [none, none, some (.int x2), none, none] [] h rf hf := by
  unfold fX4_sum_72 at hs
  refine go_iload_n (k4 := 2) rfl dX4_sum_72 ?_
  obtain ⟨n1, n2, hs⟩ := bl_at hs
  obtain rfl := Option.some.inj hs
  obtain ⟨rfl, rfl⟩ := hk
  exact go_zret (ty := .boolean) rfl n1 dX4_sum_73
noncomputable def fX4_sum_45 (rc : Nat → Hp → Nat → Int32 → Option (Int32 × Hp)) (h : Hp) (x0 : Nat) (x1 : Int32) (x3 : Int32) (s0 : Int32) : Option ((Int32 × Int32 × Hp) ⊕ (Int32 × Hp)) :=
  (gN h 4 x0 0).bind fun v8 =>
  gO h 6 v8 (
  (fX6_advance h v8).bind fun y9 =>
  gO y9 4 x0 (
  (rc 1 y9 x0 x1).bind fun y11 =>
  gO y11.2 4 x0 (
  (fX4_put y11.2 x0 s0).bind fun y13 =>
  some (.inl (y11.1, (x3 + Int32.ofInt 1), y13)))))
theorem oX4_sum_45 {d : Nat} (hd : 7 ≤ d) {rc : Nat → Hp → Nat → Int32 → Option (Int32 × Hp)} (hrc : ∀ (sel : Nat) (h : Hp) (x0 : Nat) (x1 : Int32) (y : (Int32 × Hp)), rc sel h x0 x1 = some y → Call (d - 1) (mgX4_sum sel) [.ref x0, .int x1] h (some (.int y.1)) (y.2)) {h : Hp} {x0 : Nat} {x1 : Int32} {x3 : Int32} {s0 : Int32} {rf : Option Value} {hf : Hp} {x : ((Int32 × Int32 × Hp) ⊕ (Int32 × Hp))} (hs : fX4_sum_45 rc h x0 x1 x3 s0 = some x) (hk : (Kx (pX4_sum_8 d x0 x1 rf hf) (kX4_sum rf hf)) x) : Go d mX4_sum 45 [some (.ref x0), some (.int x1), none, some (.int x3), none] [.int s0] h rf hf := by
  unfold fX4_sum_45 at hs
  refine go_istore (L' := [some (.ref x0), some (.int x1), none, some (.int x3), some (.int s0)]) (by decide) rfl dX4_sum_45 ?_
  refine go_aload_n (k4 := 0) rfl (Or.inr ⟨_, rfl⟩) dX4_sum_47 ?_
  obtain ⟨v8, ev8, hs⟩ := bindS hs
  refine go_gN fl_RX4_12 ev8 dX4_sum_48 ?_
  obtain ⟨g10, hs⟩ := gO_at hs
  obtain ⟨y9, ey9, hs⟩ := bindS hs
  refine go_V0 (As := []) (st := []) g10 rfl rfl (oX6_advance (d := d - 1) (by omega) ey9) (by omega) mb_X6_advance lm_RX4_100 mi_X6_advance (Nat.le_of_ble_eq_true rfl) rfl dX4_sum_51 ?_
  refine go_aload_n (k4 := 0) rfl (Or.inr ⟨_, rfl⟩) dX4_sum_54 ?_
  refine go_iload_n (k4 := 1) rfl dX4_sum_55 ?_
  obtain ⟨g12, hs⟩ := gO_at hs
  obtain ⟨y11, ey11, hs⟩ := bindS hs
  refine go_V1 (As := [.int x1]) (st := []) g12 rfl rfl (show Call (d - 1) mX4_term _ _ _ _ from hrc 1 y9 x0 x1 _ ey11) (by omega) mb_X4_term lm_RX4_163 mi_X4_term (Nat.le_of_ble_eq_true rfl) rfl dX4_sum_56 ?_
  refine go_at 59 rfl ?_
  refine go_istore_n (k4 := 2) (L' := [some (.ref x0), some (.int x1), some (.int y11.1), some (.int x3), some (.int s0)]) (by decide) rfl dX4_sum_59 ?_
  refine go_aload_n (k4 := 0) rfl (Or.inr ⟨_, rfl⟩) dX4_sum_60 ?_
  refine go_iload rfl dX4_sum_61 ?_
  obtain ⟨g14, hs⟩ := gO_at hs
  obtain ⟨y13, ey13, hs⟩ := bindS hs
  refine go_V0 (As := [.int s0]) (st := []) g14 rfl rfl (oX4_put (d := d - 1) (by omega) ey13) (by omega) mb_X4_put lm_RX4_171 mi_X4_put (Nat.le_of_ble_eq_true rfl) rfl dX4_sum_63 ?_
  refine go_iinc (L' := [some (.ref x0), some (.int x1), some (.int y11.1), some (.int (x3 + Int32.ofInt 1)), some (.int s0)]) rfl (by decide) rfl rfl dX4_sum_66 ?_
  refine go_goto (tgt := 8) (by decide) dX4_sum_69 ?_
  obtain rfl := Option.some.inj hs
  exact go_subL (L' := [some (.ref x0), some (.int x1), some (.int y11.1), some (.int (x3 + Int32.ofInt 1)), none]) (by simp [subL, va_rf]) hk
noncomputable def fX4_sum_8b (rc : Nat → Hp → Nat → Int32 → Option (Int32 × Hp)) (h : Hp) (x0 : Nat) (x1 : Int32) (x2 : Int32) (x3 : Int32) : Option ((Int32 × Int32 × Hp) ⊕ (Int32 × Hp)) :=
  if (900 : Int32) ≤ x3 then (
  (fX4_sum_72 rc h x2).map (fun q => .inr q)) else (
    if x2 = 0 then (
    (fX4_sum_72 rc h x2).map (fun q => .inr q)) else (
      gO h 4 x0 (
      (fX4_isAtPlusOrMinus h x0).bind fun y3 =>
      if y3 = 0 then (
      (fX4_sum_72 rc h x2).map (fun q => .inr q)) else (
        (gN h 4 x0 0).bind fun v5 =>
        gO h 6 v5 (
        (fX6_isAt h v5 32).bind fun y6 =>
        if y6 = 0 then (
          fX4_sum_45 rc h x0 x1 x3 (-12 : Int32)) else (
          fX4_sum_45 rc h x0 x1 x3 (-11 : Int32)))))))
noncomputable def fX4_sum_8 (rc : Nat → Hp → Nat → Int32 → Option (Int32 × Hp)) (h : Hp) (x0 : Nat) (x1 : Int32) (x2 : Int32) (x3 : Int32) : Option (Int32 × Hp) := lpw (σ := (Int32 × Int32 × Hp)) (fun s => fX4_sum_8b rc s.2.2 x0 x1 s.1 s.2.1) (x2, x3, h)
theorem oX4_sum_8b {d : Nat} (hd : 7 ≤ d) {rc : Nat → Hp → Nat → Int32 → Option (Int32 × Hp)} (hrc : ∀ (sel : Nat) (h : Hp) (x0 : Nat) (x1 : Int32) (y : (Int32 × Hp)), rc sel h x0 x1 = some y → Call (d - 1) (mgX4_sum sel) [.ref x0, .int x1] h (some (.int y.1)) (y.2)) {h : Hp} {x0 : Nat} {x1 : Int32} {x2 : Int32} {x3 : Int32} {rf : Option Value} {hf : Hp} {x : ((Int32 × Int32 × Hp) ⊕ (Int32 × Hp))} (hs : fX4_sum_8b rc h x0 x1 x2 x3 = some x) (hk : (Kx (pX4_sum_8 d x0 x1 rf hf) (kX4_sum rf hf)) x) : Go d mX4_sum 8 [some (.ref x0), some (.int x1), some (.int x2), some (.int x3), none] [] h rf hf := by
  unfold fX4_sum_8b at hs
  refine go_iload_n (k4 := 3) rfl dX4_sum_8 ?_
  refine go_sipush (v := 900) (by decide) dX4_sum_9 ?_
  refine go_icmp_ge (tgt := 72) (by decide) dX4_sum_12 (fun c => ?_) (fun c => ?_)
  · have hs := if_t c hs
    obtain ⟨q, hs2, hq⟩ := mapS hs
    clear hs
    subst hq
    exact go_subL (L' := [none, none, some (.int x2), none, none]) (by simp [subL, va_rf]) (oX4_sum_72 hd hrc hs2 hk)
  · have hs := if_f c hs
    refine go_iload_n (k4 := 2) rfl dX4_sum_15 ?_
    refine go_if_eq (tgt := 72) (by decide) dX4_sum_16 (fun c => ?_) (fun c => ?_)
    · have hs := if_t c hs
      obtain ⟨q, hs2, hq⟩ := mapS hs
      clear hs
      subst hq
      exact go_subL (L' := [none, none, some (.int x2), none, none]) (by simp [subL, va_rf]) (oX4_sum_72 hd hrc hs2 hk)
    · have hs := if_f c hs
      refine go_aload_n (k4 := 0) rfl (Or.inr ⟨_, rfl⟩) dX4_sum_19 ?_
      obtain ⟨g4, hs⟩ := gO_at hs
      obtain ⟨y3, ey3, hs⟩ := bindS hs
      refine go_V1 (As := []) (st := []) g4 rfl rfl (oX4_isAtPlusOrMinus (d := d - 1) (by omega) ey3) (by omega) mb_X4_isAtPlusOrMinus lm_RX4_166 mi_X4_isAtPlusOrMinus (Nat.le_of_ble_eq_true rfl) rfl dX4_sum_20 ?_
      refine go_if_eq (tgt := 72) (by decide) dX4_sum_23 (fun c => ?_) (fun c => ?_)
      · have hs := if_t c hs
        obtain ⟨q, hs2, hq⟩ := mapS hs
        clear hs
        subst hq
        exact go_subL (L' := [none, none, some (.int x2), none, none]) (by simp [subL, va_rf]) (oX4_sum_72 hd hrc hs2 hk)
      · have hs := if_f c hs
        refine go_aload_n (k4 := 0) rfl (Or.inr ⟨_, rfl⟩) dX4_sum_26 ?_
        obtain ⟨v5, ev5, hs⟩ := bindS hs
        refine go_gN fl_RX4_12 ev5 dX4_sum_27 ?_
        refine go_str (j := 32) ls_RX4_169 dX4_sum_30 ?_
        obtain ⟨g7, hs⟩ := gO_at hs
        obtain ⟨y6, ey6, hs⟩ := bindS hs
        refine go_V1 (As := [.ref 32]) (st := []) g7 rfl rfl (oX6_isAt (d := d - 1) (by omega) ey6) (by omega) mb_X6_isAt lm_RX4_92 mi_X6_isAt (Nat.le_of_ble_eq_true rfl) rfl dX4_sum_32 ?_
        refine go_if_eq (tgt := 43) (by decide) dX4_sum_35 (fun c => ?_) (fun c => ?_)
        · have hs := if_t c hs
          refine go_bipush (v := -12) (by decide) dX4_sum_43 ?_
          exact go_subL (L' := [some (.ref x0), some (.int x1), none, some (.int x3), none]) (by simp [subL, va_rf]) (oX4_sum_45 hd hrc hs hk)
        · have hs := if_f c hs
          refine go_bipush (v := -11) (by decide) dX4_sum_38 ?_
          refine go_goto (tgt := 45) (by decide) dX4_sum_40 ?_
          exact go_subL (L' := [some (.ref x0), some (.int x1), none, some (.int x3), none]) (by simp [subL, va_rf]) (oX4_sum_45 hd hrc hs hk)
theorem oX4_sum_8 {d : Nat} (hd : 7 ≤ d) {rc : Nat → Hp → Nat → Int32 → Option (Int32 × Hp)} (hrc : ∀ (sel : Nat) (h : Hp) (x0 : Nat) (x1 : Int32) (y : (Int32 × Hp)), rc sel h x0 x1 = some y → Call (d - 1) (mgX4_sum sel) [.ref x0, .int x1] h (some (.int y.1)) (y.2)) {h : Hp} {x0 : Nat} {x1 : Int32} {x2 : Int32} {x3 : Int32} {rf : Option Value} {hf : Hp} {x : (Int32 × Hp)} (hs : fX4_sum_8 rc h x0 x1 x2 x3 = some x) (hk : (kX4_sum rf hf) x) : Go d mX4_sum 8 [some (.ref x0), some (.int x1), some (.int x2), some (.int x3), none] [] h rf hf := by
  unfold fX4_sum_8 at hs
  exact lpw_go (P := pX4_sum_8 d x0 x1 rf hf) (fun s x hs hk => oX4_sum_8b hd hrc hs hk) (x2, x3, h) x hs hk
noncomputable def fX4_sum (rc : Nat → Hp → Nat → Int32 → Option (Int32 × Hp)) (h : Hp) (x0 : Nat) (x1 : Int32) : Option (Int32 × Hp) :=
  gO h 4 x0 (
  (rc 1 h x0 x1).bind fun y1 =>
  fX4_sum_8 rc y1.2 x0 x1 y1.1 (0 : Int32))
theorem oX4_sum_0 {d : Nat} (hd : 7 ≤ d) {rc : Nat → Hp → Nat → Int32 → Option (Int32 × Hp)} (hrc : ∀ (sel : Nat) (h : Hp) (x0 : Nat) (x1 : Int32) (y : (Int32 × Hp)), rc sel h x0 x1 = some y → Call (d - 1) (mgX4_sum sel) [.ref x0, .int x1] h (some (.int y.1)) (y.2)) {h : Hp} {x0 : Nat} {x1 : Int32} {rf : Option Value} {hf : Hp} {x : (Int32 × Hp)} (hs : fX4_sum rc h x0 x1 = some x) (hk : (kX4_sum rf hf) x) : Go d mX4_sum 0 [some (.ref x0), some (.int x1), none, none, none] [] h rf hf := by
  unfold fX4_sum at hs
  refine go_aload_n (k4 := 0) rfl (Or.inr ⟨_, rfl⟩) dX4_sum_0 ?_
  refine go_iload_n (k4 := 1) rfl dX4_sum_1 ?_
  obtain ⟨g2, hs⟩ := gO_at hs
  obtain ⟨y1, ey1, hs⟩ := bindS hs
  refine go_V1 (As := [.int x1]) (st := []) g2 rfl rfl (show Call (d - 1) mX4_term _ _ _ _ from hrc 1 h x0 x1 _ ey1) (by omega) mb_X4_term lm_RX4_163 mi_X4_term (Nat.le_of_ble_eq_true rfl) rfl dX4_sum_2 ?_
  refine go_istore_n (k4 := 2) (L' := [some (.ref x0), some (.int x1), some (.int y1.1), none, none]) (by decide) rfl dX4_sum_5 ?_
  refine go_iconst (v := 0) (by decide) dX4_sum_6 ?_
  refine go_istore_n (k4 := 3) (L' := [some (.ref x0), some (.int x1), some (.int y1.1), some (.int (0 : Int32)), none]) (by decide) rfl dX4_sum_7 ?_
  exact go_subL (L' := [some (.ref x0), some (.int x1), some (.int y1.1), some (.int (0 : Int32)), none]) (by simp [subL, va_rf]) (oX4_sum_8 hd hrc hs hk)
theorem oX4_sum {d : Nat} (hd : 7 ≤ d) {rc : Nat → Hp → Nat → Int32 → Option (Int32 × Hp)} (hrc : ∀ (sel : Nat) (h : Hp) (x0 : Nat) (x1 : Int32) (y : (Int32 × Hp)), rc sel h x0 x1 = some y → Call (d - 1) (mgX4_sum sel) [.ref x0, .int x1] h (some (.int y.1)) (y.2)) {h : Hp} {x0 : Nat} {x1 : Int32} {y : (Int32 × Hp)} (hs : fX4_sum rc h x0 x1 = some y) : Call d mX4_sum [.ref x0, .int x1] h (some (.int y.1)) (y.2) := call_of (by decide +kernel) (Nat.le_of_ble_eq_true rfl) (show Go d mX4_sum 0 [some (.ref x0), some (.int x1), none, none, none] [] h _ _ from go_subL (by simp [subL]) (oX4_sum_0 hd hrc hs ⟨rfl, rfl⟩))
abbrev kX4_term (rf : Option Value) (hf : Hp) : (Int32 × Hp) → Prop := fun y => rf = some (.int y.1) ∧ hf = y.2
abbrev pX4_term_8 (d : Nat) (x0 : Nat) (x1 : Int32) (rf : Option Value) (hf : Hp) : (Int32 × Int32 × Hp) → Prop := fun s => Go d mX4_term 8 [some (.ref x0), some (.int x1), some (.int s.1), some (.int s.2.1)] [] s.2.2 rf hf
noncomputable def fX4_term_56 (rc : Nat → Hp → Nat → Int32 → Option (Int32 × Hp)) (h : Hp) (x2 : Int32) : Option (Int32 × Hp) :=
  bl x2 (some ((x2, h)))
theorem oX4_term_56 {d : Nat} (hd : 7 ≤ d) {rc : Nat → Hp → Nat → Int32 → Option (Int32 × Hp)} (hrc : ∀ (sel : Nat) (h : Hp) (x0 : Nat) (x1 : Int32) (y : (Int32 × Hp)), rc sel h x0 x1 = some y → Call (d - 1) (mgX4_sum sel) [.ref x0, .int x1] h (some (.int y.1)) (y.2)) {h : Hp} {x2 : Int32} {rf : Option Value} {hf : Hp} {x : (Int32 × Hp)} (hs : fX4_term_56 rc h x2 = some x) (hk : (kX4_term rf hf) x) : Go d mX4_term 56 [none, none, some (.int x2), none] [] h rf hf := by
  unfold fX4_term_56 at hs
  refine go_iload_n (k4 := 2) rfl dX4_term_56 ?_
  obtain ⟨n1, n2, hs⟩ := bl_at hs
  obtain rfl := Option.some.inj hs
  obtain ⟨rfl, rfl⟩ := hk
  exact go_zret (ty := .boolean) rfl n1 dX4_term_57
noncomputable def fX4_term_8b (rc : Nat → Hp → Nat → Int32 → Option (Int32 × Hp)) (h : Hp) (x0 : Nat) (x1 : Int32) (x2 : Int32) (x3 : Int32) : Option ((Int32 × Int32 × Hp) ⊕ (Int32 × Hp)) :=
  if (900 : Int32) ≤ x3 then (
  (fX4_term_56 rc h x2).map (fun q => .inr q)) else (
    if x2 = 0 then (
    (fX4_term_56 rc h x2).map (fun q => .inr q)) else (
      (gN h 4 x0 0).bind fun v3 =>
      gO h 6 v3 (
      (fX6_isAt h v3 31).bind fun y4 =>
      if y4 = 0 then (
      (fX4_term_56 rc h x2).map (fun q => .inr q)) else (
        (gN h 4 x0 0).bind fun v6 =>
        gO h 6 v6 (
        (fX6_advance h v6).bind fun y7 =>
        gO y7 4 x0 (
        (rc 2 y7 x0 x1).bind fun y9 =>
        gO y9.2 4 x0 (
        (fX4_put y9.2 x0 (-13 : Int32)).bind fun y11 =>
        some (.inl (y9.1, (x3 + Int32.ofInt 1), y11)))))))))
noncomputable def fX4_term_8 (rc : Nat → Hp → Nat → Int32 → Option (Int32 × Hp)) (h : Hp) (x0 : Nat) (x1 : Int32) (x2 : Int32) (x3 : Int32) : Option (Int32 × Hp) := lpw (σ := (Int32 × Int32 × Hp)) (fun s => fX4_term_8b rc s.2.2 x0 x1 s.1 s.2.1) (x2, x3, h)
theorem oX4_term_8b {d : Nat} (hd : 7 ≤ d) {rc : Nat → Hp → Nat → Int32 → Option (Int32 × Hp)} (hrc : ∀ (sel : Nat) (h : Hp) (x0 : Nat) (x1 : Int32) (y : (Int32 × Hp)), rc sel h x0 x1 = some y → Call (d - 1) (mgX4_sum sel) [.ref x0, .int x1] h (some (.int y.1)) (y.2)) {h : Hp} {x0 : Nat} {x1 : Int32} {x2 : Int32} {x3 : Int32} {rf : Option Value} {hf : Hp} {x : ((Int32 × Int32 × Hp) ⊕ (Int32 × Hp))} (hs : fX4_term_8b rc h x0 x1 x2 x3 = some x) (hk : (Kx (pX4_term_8 d x0 x1 rf hf) (kX4_term rf hf)) x) : Go d mX4_term 8 [some (.ref x0), some (.int x1), some (.int x2), some (.int x3)] [] h rf hf := by
  unfold fX4_term_8b at hs
  refine go_iload_n (k4 := 3) rfl dX4_term_8 ?_
  refine go_sipush (v := 900) (by decide) dX4_term_9 ?_
  refine go_icmp_ge (tgt := 56) (by decide) dX4_term_12 (fun c => ?_) (fun c => ?_)
  · have hs := if_t c hs
    obtain ⟨q, hs2, hq⟩ := mapS hs
    clear hs
    subst hq
    exact go_subL (L' := [none, none, some (.int x2), none]) (by simp [subL, va_rf]) (oX4_term_56 hd hrc hs2 hk)
  · have hs := if_f c hs
    refine go_iload_n (k4 := 2) rfl dX4_term_15 ?_
    refine go_if_eq (tgt := 56) (by decide) dX4_term_16 (fun c => ?_) (fun c => ?_)
    · have hs := if_t c hs
      obtain ⟨q, hs2, hq⟩ := mapS hs
      clear hs
      subst hq
      exact go_subL (L' := [none, none, some (.int x2), none]) (by simp [subL, va_rf]) (oX4_term_56 hd hrc hs2 hk)
    · have hs := if_f c hs
      refine go_aload_n (k4 := 0) rfl (Or.inr ⟨_, rfl⟩) dX4_term_19 ?_
      obtain ⟨v3, ev3, hs⟩ := bindS hs
      refine go_gN fl_RX4_12 ev3 dX4_term_20 ?_
      refine go_str (j := 31) ls_RX4_180 dX4_term_23 ?_
      obtain ⟨g5, hs⟩ := gO_at hs
      obtain ⟨y4, ey4, hs⟩ := bindS hs
      refine go_V1 (As := [.ref 31]) (st := []) g5 rfl rfl (oX6_isAt (d := d - 1) (by omega) ey4) (by omega) mb_X6_isAt lm_RX4_92 mi_X6_isAt (Nat.le_of_ble_eq_true rfl) rfl dX4_term_25 ?_
      refine go_if_eq (tgt := 56) (by decide) dX4_term_28 (fun c => ?_) (fun c => ?_)
      · have hs := if_t c hs
        obtain ⟨q, hs2, hq⟩ := mapS hs
        clear hs
        subst hq
        exact go_subL (L' := [none, none, some (.int x2), none]) (by simp [subL, va_rf]) (oX4_term_56 hd hrc hs2 hk)
      · have hs := if_f c hs
        refine go_aload_n (k4 := 0) rfl (Or.inr ⟨_, rfl⟩) dX4_term_31 ?_
        obtain ⟨v6, ev6, hs⟩ := bindS hs
        refine go_gN fl_RX4_12 ev6 dX4_term_32 ?_
        obtain ⟨g8, hs⟩ := gO_at hs
        obtain ⟨y7, ey7, hs⟩ := bindS hs
        refine go_V0 (As := []) (st := []) g8 rfl rfl (oX6_advance (d := d - 1) (by omega) ey7) (by omega) mb_X6_advance lm_RX4_100 mi_X6_advance (Nat.le_of_ble_eq_true rfl) rfl dX4_term_35 ?_
        refine go_aload_n (k4 := 0) rfl (Or.inr ⟨_, rfl⟩) dX4_term_38 ?_
        refine go_iload_n (k4 := 1) rfl dX4_term_39 ?_
        obtain ⟨g10, hs⟩ := gO_at hs
        obtain ⟨y9, ey9, hs⟩ := bindS hs
        refine go_V1 (As := [.int x1]) (st := []) g10 rfl rfl (show Call (d - 1) mX4_atom _ _ _ _ from hrc 2 y7 x0 x1 _ ey9) (by omega) mb_X4_atom lm_RX4_177 mi_X4_atom (Nat.le_of_ble_eq_true rfl) rfl dX4_term_40 ?_
        refine go_istore_n (k4 := 2) (L' := [some (.ref x0), some (.int x1), some (.int y9.1), some (.int x3)]) (by decide) rfl dX4_term_43 ?_
        refine go_at 44 rfl ?_
        refine go_aload_n (k4 := 0) rfl (Or.inr ⟨_, rfl⟩) dX4_term_44 ?_
        refine go_bipush (v := -13) (by decide) dX4_term_45 ?_
        obtain ⟨g12, hs⟩ := gO_at hs
        obtain ⟨y11, ey11, hs⟩ := bindS hs
        refine go_V0 (As := [.int (-13 : Int32)]) (st := []) g12 rfl rfl (oX4_put (d := d - 1) (by omega) ey11) (by omega) mb_X4_put lm_RX4_171 mi_X4_put (Nat.le_of_ble_eq_true rfl) rfl dX4_term_47 ?_
        refine go_iinc (L' := [some (.ref x0), some (.int x1), some (.int y9.1), some (.int (x3 + Int32.ofInt 1))]) rfl (by decide) rfl rfl dX4_term_50 ?_
        refine go_goto (tgt := 8) (by decide) dX4_term_53 ?_
        obtain rfl := Option.some.inj hs
        exact go_subL (L' := [some (.ref x0), some (.int x1), some (.int y9.1), some (.int (x3 + Int32.ofInt 1))]) (by simp [subL, va_rf]) hk
theorem oX4_term_8 {d : Nat} (hd : 7 ≤ d) {rc : Nat → Hp → Nat → Int32 → Option (Int32 × Hp)} (hrc : ∀ (sel : Nat) (h : Hp) (x0 : Nat) (x1 : Int32) (y : (Int32 × Hp)), rc sel h x0 x1 = some y → Call (d - 1) (mgX4_sum sel) [.ref x0, .int x1] h (some (.int y.1)) (y.2)) {h : Hp} {x0 : Nat} {x1 : Int32} {x2 : Int32} {x3 : Int32} {rf : Option Value} {hf : Hp} {x : (Int32 × Hp)} (hs : fX4_term_8 rc h x0 x1 x2 x3 = some x) (hk : (kX4_term rf hf) x) : Go d mX4_term 8 [some (.ref x0), some (.int x1), some (.int x2), some (.int x3)] [] h rf hf := by
  unfold fX4_term_8 at hs
  exact lpw_go (P := pX4_term_8 d x0 x1 rf hf) (fun s x hs hk => oX4_term_8b hd hrc hs hk) (x2, x3, h) x hs hk
noncomputable def fX4_term (rc : Nat → Hp → Nat → Int32 → Option (Int32 × Hp)) (h : Hp) (x0 : Nat) (x1 : Int32) : Option (Int32 × Hp) :=
  gO h 4 x0 (
  (rc 2 h x0 x1).bind fun y1 =>
  fX4_term_8 rc y1.2 x0 x1 y1.1 (0 : Int32))
theorem oX4_term_0 {d : Nat} (hd : 7 ≤ d) {rc : Nat → Hp → Nat → Int32 → Option (Int32 × Hp)} (hrc : ∀ (sel : Nat) (h : Hp) (x0 : Nat) (x1 : Int32) (y : (Int32 × Hp)), rc sel h x0 x1 = some y → Call (d - 1) (mgX4_sum sel) [.ref x0, .int x1] h (some (.int y.1)) (y.2)) {h : Hp} {x0 : Nat} {x1 : Int32} {rf : Option Value} {hf : Hp} {x : (Int32 × Hp)} (hs : fX4_term rc h x0 x1 = some x) (hk : (kX4_term rf hf) x) : Go d mX4_term 0 [some (.ref x0), some (.int x1), none, none] [] h rf hf := by
  unfold fX4_term at hs
  refine go_aload_n (k4 := 0) rfl (Or.inr ⟨_, rfl⟩) dX4_term_0 ?_
  refine go_iload_n (k4 := 1) rfl dX4_term_1 ?_
  obtain ⟨g2, hs⟩ := gO_at hs
  obtain ⟨y1, ey1, hs⟩ := bindS hs
  refine go_V1 (As := [.int x1]) (st := []) g2 rfl rfl (show Call (d - 1) mX4_atom _ _ _ _ from hrc 2 h x0 x1 _ ey1) (by omega) mb_X4_atom lm_RX4_177 mi_X4_atom (Nat.le_of_ble_eq_true rfl) rfl dX4_term_2 ?_
  refine go_istore_n (k4 := 2) (L' := [some (.ref x0), some (.int x1), some (.int y1.1), none]) (by decide) rfl dX4_term_5 ?_
  refine go_iconst (v := 0) (by decide) dX4_term_6 ?_
  refine go_istore_n (k4 := 3) (L' := [some (.ref x0), some (.int x1), some (.int y1.1), some (.int (0 : Int32))]) (by decide) rfl dX4_term_7 ?_
  exact go_subL (L' := [some (.ref x0), some (.int x1), some (.int y1.1), some (.int (0 : Int32))]) (by simp [subL, va_rf]) (oX4_term_8 hd hrc hs hk)
theorem oX4_term {d : Nat} (hd : 7 ≤ d) {rc : Nat → Hp → Nat → Int32 → Option (Int32 × Hp)} (hrc : ∀ (sel : Nat) (h : Hp) (x0 : Nat) (x1 : Int32) (y : (Int32 × Hp)), rc sel h x0 x1 = some y → Call (d - 1) (mgX4_sum sel) [.ref x0, .int x1] h (some (.int y.1)) (y.2)) {h : Hp} {x0 : Nat} {x1 : Int32} {y : (Int32 × Hp)} (hs : fX4_term rc h x0 x1 = some y) : Call d mX4_term [.ref x0, .int x1] h (some (.int y.1)) (y.2) := call_of (by decide +kernel) (Nat.le_of_ble_eq_true rfl) (show Go d mX4_term 0 [some (.ref x0), some (.int x1), none, none] [] h _ _ from go_subL (by simp [subL]) (oX4_term_0 hd hrc hs ⟨rfl, rfl⟩))
abbrev kX4_atom (rf : Option Value) (hf : Hp) : (Int32 × Hp) → Prop := fun y => rf = some (.int y.1) ∧ hf = y.2
noncomputable def fX4_atom_88 (rc : Nat → Hp → Nat → Int32 → Option (Int32 × Hp)) (h : Hp) (x0 : Nat) (s0 : Int32) : Option (Int32 × Hp) :=
  if s0 = (-19 : Int32) then (
    gO h 4 x0 (
    (fX4_refuse h x0 (2 : Int32)).bind fun y16 =>
    bl y16.1 (some ((y16.1, y16.2))))) else (
    gO h 4 x0 (
    (fX4_put h x0 s0).bind fun y11 =>
    (gN y11 4 x0 0).bind fun v13 =>
    gO y11 6 v13 (
    (fX6_advance y11 v13).bind fun y14 =>
    some (((1 : Int32), y14)))))
theorem oX4_atom_88 {d : Nat} (hd : 7 ≤ d) {rc : Nat → Hp → Nat → Int32 → Option (Int32 × Hp)} (hrc : ∀ (sel : Nat) (h : Hp) (x0 : Nat) (x1 : Int32) (y : (Int32 × Hp)), rc sel h x0 x1 = some y → Call (d - 1) (mgX4_sum sel) [.ref x0, .int x1] h (some (.int y.1)) (y.2)) {h : Hp} {x0 : Nat} {s0 : Int32} {rf : Option Value} {hf : Hp} {x : (Int32 × Hp)} (hs : fX4_atom_88 rc h x0 s0 = some x) (hk : (kX4_atom rf hf) x) : Go d mX4_atom 88 [some (.ref x0), none, none] [.int s0] h rf hf := by
  unfold fX4_atom_88 at hs
  refine go_istore_n (k4 := 2) (L' := [some (.ref x0), none, some (.int s0)]) (by decide) rfl dX4_atom_88 ?_
  refine go_iload_n (k4 := 2) rfl dX4_atom_89 ?_
  refine go_bipush (v := -19) (by decide) dX4_atom_90 ?_
  refine go_icmp_ne (tgt := 101) (by decide) dX4_atom_92 (fun c => ?_) (fun c => ?_)
  · have hs := if_f c hs
    refine go_aload_n (k4 := 0) rfl (Or.inr ⟨_, rfl⟩) dX4_atom_101 ?_
    refine go_iload_n (k4 := 2) rfl dX4_atom_102 ?_
    obtain ⟨g12, hs⟩ := gO_at hs
    obtain ⟨y11, ey11, hs⟩ := bindS hs
    refine go_V0 (As := [.int s0]) (st := []) g12 rfl rfl (oX4_put (d := d - 1) (by omega) ey11) (by omega) mb_X4_put lm_RX4_171 mi_X4_put (Nat.le_of_ble_eq_true rfl) rfl dX4_atom_103 ?_
    refine go_aload_n (k4 := 0) rfl (Or.inr ⟨_, rfl⟩) dX4_atom_106 ?_
    obtain ⟨v13, ev13, hs⟩ := bindS hs
    refine go_gN fl_RX4_12 ev13 dX4_atom_107 ?_
    obtain ⟨g15, hs⟩ := gO_at hs
    obtain ⟨y14, ey14, hs⟩ := bindS hs
    refine go_V0 (As := []) (st := []) g15 rfl rfl (oX6_advance (d := d - 1) (by omega) ey14) (by omega) mb_X6_advance lm_RX4_100 mi_X6_advance (Nat.le_of_ble_eq_true rfl) rfl dX4_atom_110 ?_
    refine go_iconst (v := 1) (by decide) dX4_atom_113 ?_
    refine go_at 114 rfl ?_
    obtain rfl := Option.some.inj hs
    obtain ⟨rfl, rfl⟩ := hk
    exact go_zret (ty := .boolean) rfl rfl dX4_atom_114
  · have hs := if_t c hs
    refine go_aload_n (k4 := 0) rfl (Or.inr ⟨_, rfl⟩) dX4_atom_95 ?_
    refine go_iconst (v := 2) (by decide) dX4_atom_96 ?_
    obtain ⟨g17, hs⟩ := gO_at hs
    obtain ⟨y16, ey16, hs⟩ := bindS hs
    refine go_V1 (As := [.int (2 : Int32)]) (st := []) g17 rfl rfl (oX4_refuse (d := d - 1) (by omega) ey16) (by omega) mb_X4_refuse lm_RX4_96 mi_X4_refuse (Nat.le_of_ble_eq_true rfl) rfl dX4_atom_97 ?_
    obtain ⟨n1, n2, hs⟩ := bl_at hs
    obtain rfl := Option.some.inj hs
    obtain ⟨rfl, rfl⟩ := hk
    exact go_zret (ty := .boolean) rfl n1 dX4_atom_100
noncomputable def fX4_atom_44 (rc : Nat → Hp → Nat → Int32 → Option (Int32 × Hp)) (h : Hp) (s0 : Int32) : Option (Int32 × Hp) :=
  bl s0 (some ((s0, h)))
theorem oX4_atom_44 {d : Nat} (hd : 7 ≤ d) {rc : Nat → Hp → Nat → Int32 → Option (Int32 × Hp)} (hrc : ∀ (sel : Nat) (h : Hp) (x0 : Nat) (x1 : Int32) (y : (Int32 × Hp)), rc sel h x0 x1 = some y → Call (d - 1) (mgX4_sum sel) [.ref x0, .int x1] h (some (.int y.1)) (y.2)) {h : Hp} {s0 : Int32} {rf : Option Value} {hf : Hp} {x : (Int32 × Hp)} (hs : fX4_atom_44 rc h s0 = some x) (hk : (kX4_atom rf hf) x) : Go d mX4_atom 44 [none, none, none] [.int s0] h rf hf := by
  unfold fX4_atom_44 at hs
  obtain ⟨n1, n2, hs⟩ := bl_at hs
  obtain rfl := Option.some.inj hs
  obtain ⟨rfl, rfl⟩ := hk
  exact go_zret (ty := .boolean) rfl n1 dX4_atom_44
noncomputable def fX4_atom_43 (rc : Nat → Hp → Nat → Int32 → Option (Int32 × Hp)) (h : Hp)  : Option (Int32 × Hp) :=
  fX4_atom_44 rc h (0 : Int32)
theorem oX4_atom_43 {d : Nat} (hd : 7 ≤ d) {rc : Nat → Hp → Nat → Int32 → Option (Int32 × Hp)} (hrc : ∀ (sel : Nat) (h : Hp) (x0 : Nat) (x1 : Int32) (y : (Int32 × Hp)), rc sel h x0 x1 = some y → Call (d - 1) (mgX4_sum sel) [.ref x0, .int x1] h (some (.int y.1)) (y.2)) {h : Hp} {rf : Option Value} {hf : Hp} {x : (Int32 × Hp)} (hs : fX4_atom_43 rc h  = some x) (hk : (kX4_atom rf hf) x) : Go d mX4_atom 43 [none, none, none] [] h rf hf := by
  unfold fX4_atom_43 at hs
  refine go_iconst (v := 0) (by decide) dX4_atom_43 ?_
  exact go_subL (L' := [none, none, none]) (by simp [subL, va_rf]) (oX4_atom_44 hd hrc hs hk)
noncomputable def fX4_atom (rc : Nat → Hp → Nat → Int32 → Option (Int32 × Hp)) (h : Hp) (x0 : Nat) (x1 : Int32) : Option (Int32 × Hp) :=
  (gN h 4 x0 0).bind fun v1 =>
  gO h 6 v1 (
  (fX6_isAt h v1 14).bind fun y2 =>
  if y2 = 0 then (
    (gN h 4 x0 0).bind fun v4 =>
    gO h 6 v4 (
    (fX6_isAt h v4 16).bind fun y5 =>
    if y5 = 0 then (
      (gN h 4 x0 0).bind fun v7 =>
      (gI h 6 v7 3).bind fun v8 =>
      if v8 = (2 : Int32) then (
        (gN h 4 x0 0).bind fun v18 =>
        (gI h 6 v18 5).bind fun v19 =>
        fX4_atom_88 rc h x0 v19) else (
        gO h 4 x0 (
        (fX4_word h x0).bind fun y9 =>
        fX4_atom_88 rc h x0 y9))) else (
      gO h 4 x0 (
      (rc 3 h x0 x1).bind fun y20 =>
      bl y20.1 (some ((y20.1, y20.2))))))) else (
    gO h 4 x0 (
    (fX4_goInto h x0 x1).bind fun y22 =>
    if y22.1 = 0 then (
    fX4_atom_43 rc y22.2 ) else (
      gO y22.2 4 x0 (
      (rc 0 y22.2 x0 (x1 + (1 : Int32))).bind fun y24 =>
      if y24.1 = 0 then (
      fX4_atom_43 rc y24.2 ) else (
        gO y24.2 4 x0 (
        (fX4_take y24.2 x0 15).bind fun y26 =>
        if y26.1 = 0 then (
        fX4_atom_43 rc y26.2 ) else (
          fX4_atom_44 rc y26.2 (1 : Int32)))))))))
theorem oX4_atom_0 {d : Nat} (hd : 7 ≤ d) {rc : Nat → Hp → Nat → Int32 → Option (Int32 × Hp)} (hrc : ∀ (sel : Nat) (h : Hp) (x0 : Nat) (x1 : Int32) (y : (Int32 × Hp)), rc sel h x0 x1 = some y → Call (d - 1) (mgX4_sum sel) [.ref x0, .int x1] h (some (.int y.1)) (y.2)) {h : Hp} {x0 : Nat} {x1 : Int32} {rf : Option Value} {hf : Hp} {x : (Int32 × Hp)} (hs : fX4_atom rc h x0 x1 = some x) (hk : (kX4_atom rf hf) x) : Go d mX4_atom 0 [some (.ref x0), some (.int x1), none] [] h rf hf := by
  unfold fX4_atom at hs
  refine go_aload_n (k4 := 0) rfl (Or.inr ⟨_, rfl⟩) dX4_atom_0 ?_
  obtain ⟨v1, ev1, hs⟩ := bindS hs
  refine go_gN fl_RX4_12 ev1 dX4_atom_1 ?_
  refine go_str (j := 14) ls_RX4_182 dX4_atom_4 ?_
  obtain ⟨g3, hs⟩ := gO_at hs
  obtain ⟨y2, ey2, hs⟩ := bindS hs
  refine go_V1 (As := [.ref 14]) (st := []) g3 rfl rfl (oX6_isAt (d := d - 1) (by omega) ey2) (by omega) mb_X6_isAt lm_RX4_92 mi_X6_isAt (Nat.le_of_ble_eq_true rfl) rfl dX4_atom_6 ?_
  refine go_if_eq (tgt := 45) (by decide) dX4_atom_9 (fun c => ?_) (fun c => ?_)
  · have hs := if_t c hs
    refine go_aload_n (k4 := 0) rfl (Or.inr ⟨_, rfl⟩) dX4_atom_45 ?_
    obtain ⟨v4, ev4, hs⟩ := bindS hs
    refine go_gN fl_RX4_12 ev4 dX4_atom_46 ?_
    refine go_str (j := 16) ls_RX4_189 dX4_atom_49 ?_
    obtain ⟨g6, hs⟩ := gO_at hs
    obtain ⟨y5, ey5, hs⟩ := bindS hs
    refine go_V1 (As := [.ref 16]) (st := []) g6 rfl rfl (oX6_isAt (d := d - 1) (by omega) ey5) (by omega) mb_X6_isAt lm_RX4_92 mi_X6_isAt (Nat.le_of_ble_eq_true rfl) rfl dX4_atom_51 ?_
    refine go_if_eq (tgt := 63) (by decide) dX4_atom_54 (fun c => ?_) (fun c => ?_)
    · have hs := if_t c hs
      refine go_aload_n (k4 := 0) rfl (Or.inr ⟨_, rfl⟩) dX4_atom_63 ?_
      obtain ⟨v7, ev7, hs⟩ := bindS hs
      refine go_gN fl_RX4_12 ev7 dX4_atom_64 ?_
      obtain ⟨v8, ev8, hs⟩ := bindS hs
      refine go_gI fl_RX4_78 ev8 dX4_atom_67 ?_
      refine go_iconst (v := 2) (by decide) dX4_atom_70 ?_
      refine go_icmp_ne (tgt := 84) (by decide) dX4_atom_71 (fun c => ?_) (fun c => ?_)
      · have hs := if_f c hs
        refine go_aload_n (k4 := 0) rfl (Or.inr ⟨_, rfl⟩) dX4_atom_84 ?_
        obtain ⟨g10, hs⟩ := gO_at hs
        obtain ⟨y9, ey9, hs⟩ := bindS hs
        refine go_V1 (As := []) (st := []) g10 rfl rfl (oX4_word (d := d - 1) (by omega) ey9) (by omega) mb_X4_word lm_RX4_194 mi_X4_word (Nat.le_of_ble_eq_true rfl) rfl dX4_atom_85 ?_
        exact go_subL (L' := [some (.ref x0), none, none]) (by simp [subL, va_rf]) (oX4_atom_88 hd hrc hs hk)
      · have hs := if_t c hs
        refine go_aload_n (k4 := 0) rfl (Or.inr ⟨_, rfl⟩) dX4_atom_74 ?_
        obtain ⟨v18, ev18, hs⟩ := bindS hs
        refine go_gN fl_RX4_12 ev18 dX4_atom_75 ?_
        obtain ⟨v19, ev19, hs⟩ := bindS hs
        refine go_gI fl_RX4_103 ev19 dX4_atom_78 ?_
        refine go_goto (tgt := 88) (by decide) dX4_atom_81 ?_
        exact go_subL (L' := [some (.ref x0), none, none]) (by simp [subL, va_rf]) (oX4_atom_88 hd hrc hs hk)
    · have hs := if_f c hs
      refine go_aload_n (k4 := 0) rfl (Or.inr ⟨_, rfl⟩) dX4_atom_57 ?_
      refine go_iload_n (k4 := 1) rfl dX4_atom_58 ?_
      obtain ⟨g21, hs⟩ := gO_at hs
      obtain ⟨y20, ey20, hs⟩ := bindS hs
      refine go_V1 (As := [.int x1]) (st := []) g21 rfl rfl (show Call (d - 1) mX4_choice _ _ _ _ from hrc 3 h x0 x1 _ ey20) (by omega) mb_X4_choice lm_RX4_191 mi_X4_choice (Nat.le_of_ble_eq_true rfl) rfl dX4_atom_59 ?_
      obtain ⟨n1, n2, hs⟩ := bl_at hs
      obtain rfl := Option.some.inj hs
      obtain ⟨rfl, rfl⟩ := hk
      exact go_zret (ty := .boolean) rfl n1 dX4_atom_62
  · have hs := if_f c hs
    refine go_aload_n (k4 := 0) rfl (Or.inr ⟨_, rfl⟩) dX4_atom_12 ?_
    refine go_iload_n (k4 := 1) rfl dX4_atom_13 ?_
    obtain ⟨g23, hs⟩ := gO_at hs
    obtain ⟨y22, ey22, hs⟩ := bindS hs
    refine go_V1 (As := [.int x1]) (st := []) g23 rfl rfl (oX4_goInto (d := d - 1) (by omega) ey22) (by omega) mb_X4_goInto lm_RX4_184 mi_X4_goInto (Nat.le_of_ble_eq_true rfl) rfl dX4_atom_14 ?_
    refine go_if_eq (tgt := 43) (by decide) dX4_atom_17 (fun c => ?_) (fun c => ?_)
    · have hs := if_t c hs
      exact go_subL (L' := [none, none, none]) (by simp [subL, va_rf]) (oX4_atom_43 hd hrc hs hk)
    · have hs := if_f c hs
      refine go_aload_n (k4 := 0) rfl (Or.inr ⟨_, rfl⟩) dX4_atom_20 ?_
      refine go_iload_n (k4 := 1) rfl dX4_atom_21 ?_
      refine go_iconst (v := 1) (by decide) dX4_atom_22 ?_
      refine go_iadd dX4_atom_23 ?_
      obtain ⟨g25, hs⟩ := gO_at hs
      obtain ⟨y24, ey24, hs⟩ := bindS hs
      refine go_V1 (As := [.int (x1 + (1 : Int32))]) (st := []) g25 rfl rfl (show Call (d - 1) mX4_sum _ _ _ _ from hrc 0 y22.2 x0 (x1 + (1 : Int32)) _ ey24) (by omega) mb_X4_sum lm_RX4_152 mi_X4_sum (Nat.le_of_ble_eq_true rfl) rfl dX4_atom_24 ?_
      refine go_if_eq (tgt := 43) (by decide) dX4_atom_27 (fun c => ?_) (fun c => ?_)
      · have hs := if_t c hs
        exact go_subL (L' := [none, none, none]) (by simp [subL, va_rf]) (oX4_atom_43 hd hrc hs hk)
      · have hs := if_f c hs
        refine go_aload_n (k4 := 0) rfl (Or.inr ⟨_, rfl⟩) dX4_atom_30 ?_
        refine go_str (j := 15) ls_RX4_187 dX4_atom_31 ?_
        obtain ⟨g27, hs⟩ := gO_at hs
        obtain ⟨y26, ey26, hs⟩ := bindS hs
        refine go_V1 (As := [.ref 15]) (st := []) g27 rfl rfl (oX4_take (d := d - 1) (by omega) ey26) (by omega) mb_X4_take lm_RX4_108 mi_X4_take (Nat.le_of_ble_eq_true rfl) rfl dX4_atom_33 ?_
        refine go_if_eq (tgt := 43) (by decide) dX4_atom_36 (fun c => ?_) (fun c => ?_)
        · have hs := if_t c hs
          exact go_subL (L' := [none, none, none]) (by simp [subL, va_rf]) (oX4_atom_43 hd hrc hs hk)
        · have hs := if_f c hs
          refine go_iconst (v := 1) (by decide) dX4_atom_39 ?_
          refine go_goto (tgt := 44) (by decide) dX4_atom_40 ?_
          exact go_subL (L' := [none, none, none]) (by simp [subL, va_rf]) (oX4_atom_44 hd hrc hs hk)
theorem oX4_atom {d : Nat} (hd : 7 ≤ d) {rc : Nat → Hp → Nat → Int32 → Option (Int32 × Hp)} (hrc : ∀ (sel : Nat) (h : Hp) (x0 : Nat) (x1 : Int32) (y : (Int32 × Hp)), rc sel h x0 x1 = some y → Call (d - 1) (mgX4_sum sel) [.ref x0, .int x1] h (some (.int y.1)) (y.2)) {h : Hp} {x0 : Nat} {x1 : Int32} {y : (Int32 × Hp)} (hs : fX4_atom rc h x0 x1 = some y) : Call d mX4_atom [.ref x0, .int x1] h (some (.int y.1)) (y.2) := call_of (by decide +kernel) (Nat.le_of_ble_eq_true rfl) (show Go d mX4_atom 0 [some (.ref x0), some (.int x1), none] [] h _ _ from go_subL (by simp [subL]) (oX4_atom_0 hd hrc hs ⟨rfl, rfl⟩))
abbrev kX4_choice (rf : Option Value) (hf : Hp) : (Int32 × Hp) → Prop := fun y => rf = some (.int y.1) ∧ hf = y.2
noncomputable def fX4_choice_37 (rc : Nat → Hp → Nat → Int32 → Option (Int32 × Hp)) (h : Hp)  : Option (Int32 × Hp) :=
  some (((0 : Int32), h))
theorem oX4_choice_37 {d : Nat} (hd : 7 ≤ d) {rc : Nat → Hp → Nat → Int32 → Option (Int32 × Hp)} (hrc : ∀ (sel : Nat) (h : Hp) (x0 : Nat) (x1 : Int32) (y : (Int32 × Hp)), rc sel h x0 x1 = some y → Call (d - 1) (mgX4_sum sel) [.ref x0, .int x1] h (some (.int y.1)) (y.2)) {h : Hp} {rf : Option Value} {hf : Hp} {x : (Int32 × Hp)} (hs : fX4_choice_37 rc h  = some x) (hk : (kX4_choice rf hf) x) : Go d mX4_choice 37 [none, none] [] h rf hf := by
  unfold fX4_choice_37 at hs
  refine go_iconst (v := 0) (by decide) dX4_choice_37 ?_
  obtain rfl := Option.some.inj hs
  obtain ⟨rfl, rfl⟩ := hk
  exact go_zret (ty := .boolean) rfl rfl dX4_choice_38
noncomputable def fX4_choice_67 (rc : Nat → Hp → Nat → Int32 → Option (Int32 × Hp)) (h : Hp)  : Option (Int32 × Hp) :=
  some (((0 : Int32), h))
theorem oX4_choice_67 {d : Nat} (hd : 7 ≤ d) {rc : Nat → Hp → Nat → Int32 → Option (Int32 × Hp)} (hrc : ∀ (sel : Nat) (h : Hp) (x0 : Nat) (x1 : Int32) (y : (Int32 × Hp)), rc sel h x0 x1 = some y → Call (d - 1) (mgX4_sum sel) [.ref x0, .int x1] h (some (.int y.1)) (y.2)) {h : Hp} {rf : Option Value} {hf : Hp} {x : (Int32 × Hp)} (hs : fX4_choice_67 rc h  = some x) (hk : (kX4_choice rf hf) x) : Go d mX4_choice 67 [none, none] [] h rf hf := by
  unfold fX4_choice_67 at hs
  refine go_iconst (v := 0) (by decide) dX4_choice_67 ?_
  obtain rfl := Option.some.inj hs
  obtain ⟨rfl, rfl⟩ := hk
  exact go_zret (ty := .boolean) rfl rfl dX4_choice_68
noncomputable def fX4_choice (rc : Nat → Hp → Nat → Int32 → Option (Int32 × Hp)) (h : Hp) (x0 : Nat) (x1 : Int32) : Option (Int32 × Hp) :=
  gO h 4 x0 (
  (fX4_goInto h x0 x1).bind fun y1 =>
  if y1.1 = 0 then (
  fX4_choice_37 rc y1.2 ) else (
    gO y1.2 4 x0 (
    (rc 4 y1.2 x0 (x1 + (1 : Int32))).bind fun y3 =>
    if y3.1 = 0 then (
    fX4_choice_37 rc y3.2 ) else (
      gO y3.2 4 x0 (
      (fX4_take y3.2 x0 25).bind fun y5 =>
      if y5.1 = 0 then (
      fX4_choice_37 rc y5.2 ) else (
        gO y5.2 4 x0 (
        (rc 0 y5.2 x0 (x1 + (1 : Int32))).bind fun y7 =>
        if y7.1 = 0 then (
        fX4_choice_37 rc y7.2 ) else (
          gO y7.2 4 x0 (
          (fX4_take y7.2 x0 26).bind fun y9 =>
          if y9.1 = 0 then (
          fX4_choice_67 rc y9.2 ) else (
            gO y9.2 4 x0 (
            (rc 0 y9.2 x0 (x1 + (1 : Int32))).bind fun y11 =>
            if y11.1 = 0 then (
            fX4_choice_67 rc y11.2 ) else (
              gO y11.2 4 x0 (
              (fX4_take y11.2 x0 27).bind fun y13 =>
              if y13.1 = 0 then (
              fX4_choice_67 rc y13.2 ) else (
                gO y13.2 4 x0 (
                (fX4_put y13.2 x0 (-20 : Int32)).bind fun y15 =>
                some (((1 : Int32), y15)))))))))))))))))
theorem oX4_choice_0 {d : Nat} (hd : 7 ≤ d) {rc : Nat → Hp → Nat → Int32 → Option (Int32 × Hp)} (hrc : ∀ (sel : Nat) (h : Hp) (x0 : Nat) (x1 : Int32) (y : (Int32 × Hp)), rc sel h x0 x1 = some y → Call (d - 1) (mgX4_sum sel) [.ref x0, .int x1] h (some (.int y.1)) (y.2)) {h : Hp} {x0 : Nat} {x1 : Int32} {rf : Option Value} {hf : Hp} {x : (Int32 × Hp)} (hs : fX4_choice rc h x0 x1 = some x) (hk : (kX4_choice rf hf) x) : Go d mX4_choice 0 [some (.ref x0), some (.int x1)] [] h rf hf := by
  unfold fX4_choice at hs
  refine go_aload_n (k4 := 0) rfl (Or.inr ⟨_, rfl⟩) dX4_choice_0 ?_
  refine go_iload_n (k4 := 1) rfl dX4_choice_1 ?_
  obtain ⟨g2, hs⟩ := gO_at hs
  obtain ⟨y1, ey1, hs⟩ := bindS hs
  refine go_V1 (As := [.int x1]) (st := []) g2 rfl rfl (oX4_goInto (d := d - 1) (by omega) ey1) (by omega) mb_X4_goInto lm_RX4_184 mi_X4_goInto (Nat.le_of_ble_eq_true rfl) rfl dX4_choice_2 ?_
  refine go_if_eq (tgt := 37) (by decide) dX4_choice_5 (fun c => ?_) (fun c => ?_)
  · have hs := if_t c hs
    exact go_subL (L' := [none, none]) (by simp [subL, va_rf]) (oX4_choice_37 hd hrc hs hk)
  · have hs := if_f c hs
    refine go_aload_n (k4 := 0) rfl (Or.inr ⟨_, rfl⟩) dX4_choice_8 ?_
    refine go_iload_n (k4 := 1) rfl dX4_choice_9 ?_
    refine go_iconst (v := 1) (by decide) dX4_choice_10 ?_
    refine go_iadd dX4_choice_11 ?_
    obtain ⟨g4, hs⟩ := gO_at hs
    obtain ⟨y3, ey3, hs⟩ := bindS hs
    refine go_V1 (As := [.int (x1 + (1 : Int32))]) (st := []) g4 rfl rfl (show Call (d - 1) mX4_truth _ _ _ _ from hrc 4 y1.2 x0 (x1 + (1 : Int32)) _ ey3) (by omega) mb_X4_truth lm_RX4_160 mi_X4_truth (Nat.le_of_ble_eq_true rfl) rfl dX4_choice_12 ?_
    refine go_if_eq (tgt := 37) (by decide) dX4_choice_15 (fun c => ?_) (fun c => ?_)
    · have hs := if_t c hs
      exact go_subL (L' := [none, none]) (by simp [subL, va_rf]) (oX4_choice_37 hd hrc hs hk)
    · have hs := if_f c hs
      refine go_aload_n (k4 := 0) rfl (Or.inr ⟨_, rfl⟩) dX4_choice_18 ?_
      refine go_str (j := 25) ls_RX4_198 dX4_choice_19 ?_
      obtain ⟨g6, hs⟩ := gO_at hs
      obtain ⟨y5, ey5, hs⟩ := bindS hs
      refine go_V1 (As := [.ref 25]) (st := []) g6 rfl rfl (oX4_take (d := d - 1) (by omega) ey5) (by omega) mb_X4_take lm_RX4_108 mi_X4_take (Nat.le_of_ble_eq_true rfl) rfl dX4_choice_21 ?_
      refine go_if_eq (tgt := 37) (by decide) dX4_choice_24 (fun c => ?_) (fun c => ?_)
      · have hs := if_t c hs
        exact go_subL (L' := [none, none]) (by simp [subL, va_rf]) (oX4_choice_37 hd hrc hs hk)
      · have hs := if_f c hs
        refine go_aload_n (k4 := 0) rfl (Or.inr ⟨_, rfl⟩) dX4_choice_27 ?_
        refine go_iload_n (k4 := 1) rfl dX4_choice_28 ?_
        refine go_iconst (v := 1) (by decide) dX4_choice_29 ?_
        refine go_iadd dX4_choice_30 ?_
        obtain ⟨g8, hs⟩ := gO_at hs
        obtain ⟨y7, ey7, hs⟩ := bindS hs
        refine go_V1 (As := [.int (x1 + (1 : Int32))]) (st := []) g8 rfl rfl (show Call (d - 1) mX4_sum _ _ _ _ from hrc 0 y5.2 x0 (x1 + (1 : Int32)) _ ey7) (by omega) mb_X4_sum lm_RX4_152 mi_X4_sum (Nat.le_of_ble_eq_true rfl) rfl dX4_choice_31 ?_
        refine go_if_ne (tgt := 39) (by decide) dX4_choice_34 (fun c => ?_) (fun c => ?_)
        · have hs := if_f c hs
          refine go_aload_n (k4 := 0) rfl (Or.inr ⟨_, rfl⟩) dX4_choice_39 ?_
          refine go_str (j := 26) ls_RX4_200 dX4_choice_40 ?_
          obtain ⟨g10, hs⟩ := gO_at hs
          obtain ⟨y9, ey9, hs⟩ := bindS hs
          refine go_V1 (As := [.ref 26]) (st := []) g10 rfl rfl (oX4_take (d := d - 1) (by omega) ey9) (by omega) mb_X4_take lm_RX4_108 mi_X4_take (Nat.le_of_ble_eq_true rfl) rfl dX4_choice_42 ?_
          refine go_if_eq (tgt := 67) (by decide) dX4_choice_45 (fun c => ?_) (fun c => ?_)
          · have hs := if_t c hs
            exact go_subL (L' := [none, none]) (by simp [subL, va_rf]) (oX4_choice_67 hd hrc hs hk)
          · have hs := if_f c hs
            refine go_aload_n (k4 := 0) rfl (Or.inr ⟨_, rfl⟩) dX4_choice_48 ?_
            refine go_iload_n (k4 := 1) rfl dX4_choice_49 ?_
            refine go_iconst (v := 1) (by decide) dX4_choice_50 ?_
            refine go_iadd dX4_choice_51 ?_
            obtain ⟨g12, hs⟩ := gO_at hs
            obtain ⟨y11, ey11, hs⟩ := bindS hs
            refine go_V1 (As := [.int (x1 + (1 : Int32))]) (st := []) g12 rfl rfl (show Call (d - 1) mX4_sum _ _ _ _ from hrc 0 y9.2 x0 (x1 + (1 : Int32)) _ ey11) (by omega) mb_X4_sum lm_RX4_152 mi_X4_sum (Nat.le_of_ble_eq_true rfl) rfl dX4_choice_52 ?_
            refine go_if_eq (tgt := 67) (by decide) dX4_choice_55 (fun c => ?_) (fun c => ?_)
            · have hs := if_t c hs
              exact go_subL (L' := [none, none]) (by simp [subL, va_rf]) (oX4_choice_67 hd hrc hs hk)
            · have hs := if_f c hs
              refine go_aload_n (k4 := 0) rfl (Or.inr ⟨_, rfl⟩) dX4_choice_58 ?_
              refine go_str (j := 27) ls_RX4_202 dX4_choice_59 ?_
              obtain ⟨g14, hs⟩ := gO_at hs
              obtain ⟨y13, ey13, hs⟩ := bindS hs
              refine go_V1 (As := [.ref 27]) (st := []) g14 rfl rfl (oX4_take (d := d - 1) (by omega) ey13) (by omega) mb_X4_take lm_RX4_108 mi_X4_take (Nat.le_of_ble_eq_true rfl) rfl dX4_choice_61 ?_
              refine go_if_ne (tgt := 69) (by decide) dX4_choice_64 (fun c => ?_) (fun c => ?_)
              · have hs := if_f c hs
                refine go_aload_n (k4 := 0) rfl (Or.inr ⟨_, rfl⟩) dX4_choice_69 ?_
                refine go_bipush (v := -20) (by decide) dX4_choice_70 ?_
                obtain ⟨g16, hs⟩ := gO_at hs
                obtain ⟨y15, ey15, hs⟩ := bindS hs
                refine go_V0 (As := [.int (-20 : Int32)]) (st := []) g16 rfl rfl (oX4_put (d := d - 1) (by omega) ey15) (by omega) mb_X4_put lm_RX4_171 mi_X4_put (Nat.le_of_ble_eq_true rfl) rfl dX4_choice_72 ?_
                refine go_iconst (v := 1) (by decide) dX4_choice_75 ?_
                obtain rfl := Option.some.inj hs
                obtain ⟨rfl, rfl⟩ := hk
                exact go_zret (ty := .boolean) rfl rfl dX4_choice_76
              · have hs := if_t c hs
                exact go_subL (L' := [none, none]) (by simp [subL, va_rf]) (oX4_choice_67 hd hrc hs hk)
        · have hs := if_t c hs
          exact go_subL (L' := [none, none]) (by simp [subL, va_rf]) (oX4_choice_37 hd hrc hs hk)
theorem oX4_choice {d : Nat} (hd : 7 ≤ d) {rc : Nat → Hp → Nat → Int32 → Option (Int32 × Hp)} (hrc : ∀ (sel : Nat) (h : Hp) (x0 : Nat) (x1 : Int32) (y : (Int32 × Hp)), rc sel h x0 x1 = some y → Call (d - 1) (mgX4_sum sel) [.ref x0, .int x1] h (some (.int y.1)) (y.2)) {h : Hp} {x0 : Nat} {x1 : Int32} {y : (Int32 × Hp)} (hs : fX4_choice rc h x0 x1 = some y) : Call d mX4_choice [.ref x0, .int x1] h (some (.int y.1)) (y.2) := call_of (by decide +kernel) (Nat.le_of_ble_eq_true rfl) (show Go d mX4_choice 0 [some (.ref x0), some (.int x1)] [] h _ _ from go_subL (by simp [subL]) (oX4_choice_0 hd hrc hs ⟨rfl, rfl⟩))
abbrev kX4_truth (rf : Option Value) (hf : Hp) : (Int32 × Hp) → Prop := fun y => rf = some (.int y.1) ∧ hf = y.2
abbrev pX4_truth_8 (d : Nat) (x0 : Nat) (x1 : Int32) (rf : Option Value) (hf : Hp) : (Int32 × Int32 × Hp) → Prop := fun s => Go d mX4_truth 8 [some (.ref x0), some (.int x1), some (.int s.1), some (.int s.2.1)] [] s.2.2 rf hf
noncomputable def fX4_truth_56 (rc : Nat → Hp → Nat → Int32 → Option (Int32 × Hp)) (h : Hp) (x2 : Int32) : Option (Int32 × Hp) :=
  bl x2 (some ((x2, h)))
theorem oX4_truth_56 {d : Nat} (hd : 7 ≤ d) {rc : Nat → Hp → Nat → Int32 → Option (Int32 × Hp)} (hrc : ∀ (sel : Nat) (h : Hp) (x0 : Nat) (x1 : Int32) (y : (Int32 × Hp)), rc sel h x0 x1 = some y → Call (d - 1) (mgX4_sum sel) [.ref x0, .int x1] h (some (.int y.1)) (y.2)) {h : Hp} {x2 : Int32} {rf : Option Value} {hf : Hp} {x : (Int32 × Hp)} (hs : fX4_truth_56 rc h x2 = some x) (hk : (kX4_truth rf hf) x) : Go d mX4_truth 56 [none, none, some (.int x2), none] [] h rf hf := by
  unfold fX4_truth_56 at hs
  refine go_iload_n (k4 := 2) rfl dX4_truth_56 ?_
  obtain ⟨n1, n2, hs⟩ := bl_at hs
  obtain rfl := Option.some.inj hs
  obtain ⟨rfl, rfl⟩ := hk
  exact go_zret (ty := .boolean) rfl n1 dX4_truth_57
noncomputable def fX4_truth_8b (rc : Nat → Hp → Nat → Int32 → Option (Int32 × Hp)) (h : Hp) (x0 : Nat) (x1 : Int32) (x2 : Int32) (x3 : Int32) : Option ((Int32 × Int32 × Hp) ⊕ (Int32 × Hp)) :=
  if (900 : Int32) ≤ x3 then (
  (fX4_truth_56 rc h x2).map (fun q => .inr q)) else (
    if x2 = 0 then (
    (fX4_truth_56 rc h x2).map (fun q => .inr q)) else (
      (gN h 4 x0 0).bind fun v3 =>
      gO h 6 v3 (
      (fX6_isAt h v3 24).bind fun y4 =>
      if y4 = 0 then (
      (fX4_truth_56 rc h x2).map (fun q => .inr q)) else (
        (gN h 4 x0 0).bind fun v6 =>
        gO h 6 v6 (
        (fX6_advance h v6).bind fun y7 =>
        gO y7 4 x0 (
        (rc 5 y7 x0 x1).bind fun y9 =>
        gO y9.2 4 x0 (
        (fX4_put y9.2 x0 (-18 : Int32)).bind fun y11 =>
        some (.inl (y9.1, (x3 + Int32.ofInt 1), y11)))))))))
noncomputable def fX4_truth_8 (rc : Nat → Hp → Nat → Int32 → Option (Int32 × Hp)) (h : Hp) (x0 : Nat) (x1 : Int32) (x2 : Int32) (x3 : Int32) : Option (Int32 × Hp) := lpw (σ := (Int32 × Int32 × Hp)) (fun s => fX4_truth_8b rc s.2.2 x0 x1 s.1 s.2.1) (x2, x3, h)
theorem oX4_truth_8b {d : Nat} (hd : 7 ≤ d) {rc : Nat → Hp → Nat → Int32 → Option (Int32 × Hp)} (hrc : ∀ (sel : Nat) (h : Hp) (x0 : Nat) (x1 : Int32) (y : (Int32 × Hp)), rc sel h x0 x1 = some y → Call (d - 1) (mgX4_sum sel) [.ref x0, .int x1] h (some (.int y.1)) (y.2)) {h : Hp} {x0 : Nat} {x1 : Int32} {x2 : Int32} {x3 : Int32} {rf : Option Value} {hf : Hp} {x : ((Int32 × Int32 × Hp) ⊕ (Int32 × Hp))} (hs : fX4_truth_8b rc h x0 x1 x2 x3 = some x) (hk : (Kx (pX4_truth_8 d x0 x1 rf hf) (kX4_truth rf hf)) x) : Go d mX4_truth 8 [some (.ref x0), some (.int x1), some (.int x2), some (.int x3)] [] h rf hf := by
  unfold fX4_truth_8b at hs
  refine go_iload_n (k4 := 3) rfl dX4_truth_8 ?_
  refine go_sipush (v := 900) (by decide) dX4_truth_9 ?_
  refine go_icmp_ge (tgt := 56) (by decide) dX4_truth_12 (fun c => ?_) (fun c => ?_)
  · have hs := if_t c hs
    obtain ⟨q, hs2, hq⟩ := mapS hs
    clear hs
    subst hq
    exact go_subL (L' := [none, none, some (.int x2), none]) (by simp [subL, va_rf]) (oX4_truth_56 hd hrc hs2 hk)
  · have hs := if_f c hs
    refine go_iload_n (k4 := 2) rfl dX4_truth_15 ?_
    refine go_if_eq (tgt := 56) (by decide) dX4_truth_16 (fun c => ?_) (fun c => ?_)
    · have hs := if_t c hs
      obtain ⟨q, hs2, hq⟩ := mapS hs
      clear hs
      subst hq
      exact go_subL (L' := [none, none, some (.int x2), none]) (by simp [subL, va_rf]) (oX4_truth_56 hd hrc hs2 hk)
    · have hs := if_f c hs
      refine go_aload_n (k4 := 0) rfl (Or.inr ⟨_, rfl⟩) dX4_truth_19 ?_
      obtain ⟨v3, ev3, hs⟩ := bindS hs
      refine go_gN fl_RX4_12 ev3 dX4_truth_20 ?_
      refine go_str (j := 24) ls_RX4_218 dX4_truth_23 ?_
      obtain ⟨g5, hs⟩ := gO_at hs
      obtain ⟨y4, ey4, hs⟩ := bindS hs
      refine go_V1 (As := [.ref 24]) (st := []) g5 rfl rfl (oX6_isAt (d := d - 1) (by omega) ey4) (by omega) mb_X6_isAt lm_RX4_92 mi_X6_isAt (Nat.le_of_ble_eq_true rfl) rfl dX4_truth_25 ?_
      refine go_if_eq (tgt := 56) (by decide) dX4_truth_28 (fun c => ?_) (fun c => ?_)
      · have hs := if_t c hs
        obtain ⟨q, hs2, hq⟩ := mapS hs
        clear hs
        subst hq
        exact go_subL (L' := [none, none, some (.int x2), none]) (by simp [subL, va_rf]) (oX4_truth_56 hd hrc hs2 hk)
      · have hs := if_f c hs
        refine go_aload_n (k4 := 0) rfl (Or.inr ⟨_, rfl⟩) dX4_truth_31 ?_
        obtain ⟨v6, ev6, hs⟩ := bindS hs
        refine go_gN fl_RX4_12 ev6 dX4_truth_32 ?_
        obtain ⟨g8, hs⟩ := gO_at hs
        obtain ⟨y7, ey7, hs⟩ := bindS hs
        refine go_V0 (As := []) (st := []) g8 rfl rfl (oX6_advance (d := d - 1) (by omega) ey7) (by omega) mb_X6_advance lm_RX4_100 mi_X6_advance (Nat.le_of_ble_eq_true rfl) rfl dX4_truth_35 ?_
        refine go_aload_n (k4 := 0) rfl (Or.inr ⟨_, rfl⟩) dX4_truth_38 ?_
        refine go_iload_n (k4 := 1) rfl dX4_truth_39 ?_
        obtain ⟨g10, hs⟩ := gO_at hs
        obtain ⟨y9, ey9, hs⟩ := bindS hs
        refine go_V1 (As := [.int x1]) (st := []) g10 rfl rfl (show Call (d - 1) mX4_both _ _ _ _ from hrc 5 y7 x0 x1 _ ey9) (by omega) mb_X4_both lm_RX4_215 mi_X4_both (Nat.le_of_ble_eq_true rfl) rfl dX4_truth_40 ?_
        refine go_istore_n (k4 := 2) (L' := [some (.ref x0), some (.int x1), some (.int y9.1), some (.int x3)]) (by decide) rfl dX4_truth_43 ?_
        refine go_at 44 rfl ?_
        refine go_aload_n (k4 := 0) rfl (Or.inr ⟨_, rfl⟩) dX4_truth_44 ?_
        refine go_bipush (v := -18) (by decide) dX4_truth_45 ?_
        obtain ⟨g12, hs⟩ := gO_at hs
        obtain ⟨y11, ey11, hs⟩ := bindS hs
        refine go_V0 (As := [.int (-18 : Int32)]) (st := []) g12 rfl rfl (oX4_put (d := d - 1) (by omega) ey11) (by omega) mb_X4_put lm_RX4_171 mi_X4_put (Nat.le_of_ble_eq_true rfl) rfl dX4_truth_47 ?_
        refine go_iinc (L' := [some (.ref x0), some (.int x1), some (.int y9.1), some (.int (x3 + Int32.ofInt 1))]) rfl (by decide) rfl rfl dX4_truth_50 ?_
        refine go_goto (tgt := 8) (by decide) dX4_truth_53 ?_
        obtain rfl := Option.some.inj hs
        exact go_subL (L' := [some (.ref x0), some (.int x1), some (.int y9.1), some (.int (x3 + Int32.ofInt 1))]) (by simp [subL, va_rf]) hk
theorem oX4_truth_8 {d : Nat} (hd : 7 ≤ d) {rc : Nat → Hp → Nat → Int32 → Option (Int32 × Hp)} (hrc : ∀ (sel : Nat) (h : Hp) (x0 : Nat) (x1 : Int32) (y : (Int32 × Hp)), rc sel h x0 x1 = some y → Call (d - 1) (mgX4_sum sel) [.ref x0, .int x1] h (some (.int y.1)) (y.2)) {h : Hp} {x0 : Nat} {x1 : Int32} {x2 : Int32} {x3 : Int32} {rf : Option Value} {hf : Hp} {x : (Int32 × Hp)} (hs : fX4_truth_8 rc h x0 x1 x2 x3 = some x) (hk : (kX4_truth rf hf) x) : Go d mX4_truth 8 [some (.ref x0), some (.int x1), some (.int x2), some (.int x3)] [] h rf hf := by
  unfold fX4_truth_8 at hs
  exact lpw_go (P := pX4_truth_8 d x0 x1 rf hf) (fun s x hs hk => oX4_truth_8b hd hrc hs hk) (x2, x3, h) x hs hk
noncomputable def fX4_truth (rc : Nat → Hp → Nat → Int32 → Option (Int32 × Hp)) (h : Hp) (x0 : Nat) (x1 : Int32) : Option (Int32 × Hp) :=
  gO h 4 x0 (
  (rc 5 h x0 x1).bind fun y1 =>
  fX4_truth_8 rc y1.2 x0 x1 y1.1 (0 : Int32))
theorem oX4_truth_0 {d : Nat} (hd : 7 ≤ d) {rc : Nat → Hp → Nat → Int32 → Option (Int32 × Hp)} (hrc : ∀ (sel : Nat) (h : Hp) (x0 : Nat) (x1 : Int32) (y : (Int32 × Hp)), rc sel h x0 x1 = some y → Call (d - 1) (mgX4_sum sel) [.ref x0, .int x1] h (some (.int y.1)) (y.2)) {h : Hp} {x0 : Nat} {x1 : Int32} {rf : Option Value} {hf : Hp} {x : (Int32 × Hp)} (hs : fX4_truth rc h x0 x1 = some x) (hk : (kX4_truth rf hf) x) : Go d mX4_truth 0 [some (.ref x0), some (.int x1), none, none] [] h rf hf := by
  unfold fX4_truth at hs
  refine go_aload_n (k4 := 0) rfl (Or.inr ⟨_, rfl⟩) dX4_truth_0 ?_
  refine go_iload_n (k4 := 1) rfl dX4_truth_1 ?_
  obtain ⟨g2, hs⟩ := gO_at hs
  obtain ⟨y1, ey1, hs⟩ := bindS hs
  refine go_V1 (As := [.int x1]) (st := []) g2 rfl rfl (show Call (d - 1) mX4_both _ _ _ _ from hrc 5 h x0 x1 _ ey1) (by omega) mb_X4_both lm_RX4_215 mi_X4_both (Nat.le_of_ble_eq_true rfl) rfl dX4_truth_2 ?_
  refine go_istore_n (k4 := 2) (L' := [some (.ref x0), some (.int x1), some (.int y1.1), none]) (by decide) rfl dX4_truth_5 ?_
  refine go_iconst (v := 0) (by decide) dX4_truth_6 ?_
  refine go_istore_n (k4 := 3) (L' := [some (.ref x0), some (.int x1), some (.int y1.1), some (.int (0 : Int32))]) (by decide) rfl dX4_truth_7 ?_
  exact go_subL (L' := [some (.ref x0), some (.int x1), some (.int y1.1), some (.int (0 : Int32))]) (by simp [subL, va_rf]) (oX4_truth_8 hd hrc hs hk)
theorem oX4_truth {d : Nat} (hd : 7 ≤ d) {rc : Nat → Hp → Nat → Int32 → Option (Int32 × Hp)} (hrc : ∀ (sel : Nat) (h : Hp) (x0 : Nat) (x1 : Int32) (y : (Int32 × Hp)), rc sel h x0 x1 = some y → Call (d - 1) (mgX4_sum sel) [.ref x0, .int x1] h (some (.int y.1)) (y.2)) {h : Hp} {x0 : Nat} {x1 : Int32} {y : (Int32 × Hp)} (hs : fX4_truth rc h x0 x1 = some y) : Call d mX4_truth [.ref x0, .int x1] h (some (.int y.1)) (y.2) := call_of (by decide +kernel) (Nat.le_of_ble_eq_true rfl) (show Go d mX4_truth 0 [some (.ref x0), some (.int x1), none, none] [] h _ _ from go_subL (by simp [subL]) (oX4_truth_0 hd hrc hs ⟨rfl, rfl⟩))
abbrev kX4_both (rf : Option Value) (hf : Hp) : (Int32 × Hp) → Prop := fun y => rf = some (.int y.1) ∧ hf = y.2
abbrev pX4_both_8 (d : Nat) (x0 : Nat) (x1 : Int32) (rf : Option Value) (hf : Hp) : (Int32 × Int32 × Hp) → Prop := fun s => Go d mX4_both 8 [some (.ref x0), some (.int x1), some (.int s.1), some (.int s.2.1)] [] s.2.2 rf hf
noncomputable def fX4_both_56 (rc : Nat → Hp → Nat → Int32 → Option (Int32 × Hp)) (h : Hp) (x2 : Int32) : Option (Int32 × Hp) :=
  bl x2 (some ((x2, h)))
theorem oX4_both_56 {d : Nat} (hd : 7 ≤ d) {rc : Nat → Hp → Nat → Int32 → Option (Int32 × Hp)} (hrc : ∀ (sel : Nat) (h : Hp) (x0 : Nat) (x1 : Int32) (y : (Int32 × Hp)), rc sel h x0 x1 = some y → Call (d - 1) (mgX4_sum sel) [.ref x0, .int x1] h (some (.int y.1)) (y.2)) {h : Hp} {x2 : Int32} {rf : Option Value} {hf : Hp} {x : (Int32 × Hp)} (hs : fX4_both_56 rc h x2 = some x) (hk : (kX4_both rf hf) x) : Go d mX4_both 56 [none, none, some (.int x2), none] [] h rf hf := by
  unfold fX4_both_56 at hs
  refine go_iload_n (k4 := 2) rfl dX4_both_56 ?_
  obtain ⟨n1, n2, hs⟩ := bl_at hs
  obtain rfl := Option.some.inj hs
  obtain ⟨rfl, rfl⟩ := hk
  exact go_zret (ty := .boolean) rfl n1 dX4_both_57
noncomputable def fX4_both_8b (rc : Nat → Hp → Nat → Int32 → Option (Int32 × Hp)) (h : Hp) (x0 : Nat) (x1 : Int32) (x2 : Int32) (x3 : Int32) : Option ((Int32 × Int32 × Hp) ⊕ (Int32 × Hp)) :=
  if (900 : Int32) ≤ x3 then (
  (fX4_both_56 rc h x2).map (fun q => .inr q)) else (
    if x2 = 0 then (
    (fX4_both_56 rc h x2).map (fun q => .inr q)) else (
      (gN h 4 x0 0).bind fun v3 =>
      gO h 6 v3 (
      (fX6_isAt h v3 23).bind fun y4 =>
      if y4 = 0 then (
      (fX4_both_56 rc h x2).map (fun q => .inr q)) else (
        (gN h 4 x0 0).bind fun v6 =>
        gO h 6 v6 (
        (fX6_advance h v6).bind fun y7 =>
        gO y7 4 x0 (
        (rc 6 y7 x0 x1).bind fun y9 =>
        gO y9.2 4 x0 (
        (fX4_put y9.2 x0 (-17 : Int32)).bind fun y11 =>
        some (.inl (y9.1, (x3 + Int32.ofInt 1), y11)))))))))
noncomputable def fX4_both_8 (rc : Nat → Hp → Nat → Int32 → Option (Int32 × Hp)) (h : Hp) (x0 : Nat) (x1 : Int32) (x2 : Int32) (x3 : Int32) : Option (Int32 × Hp) := lpw (σ := (Int32 × Int32 × Hp)) (fun s => fX4_both_8b rc s.2.2 x0 x1 s.1 s.2.1) (x2, x3, h)
theorem oX4_both_8b {d : Nat} (hd : 7 ≤ d) {rc : Nat → Hp → Nat → Int32 → Option (Int32 × Hp)} (hrc : ∀ (sel : Nat) (h : Hp) (x0 : Nat) (x1 : Int32) (y : (Int32 × Hp)), rc sel h x0 x1 = some y → Call (d - 1) (mgX4_sum sel) [.ref x0, .int x1] h (some (.int y.1)) (y.2)) {h : Hp} {x0 : Nat} {x1 : Int32} {x2 : Int32} {x3 : Int32} {rf : Option Value} {hf : Hp} {x : ((Int32 × Int32 × Hp) ⊕ (Int32 × Hp))} (hs : fX4_both_8b rc h x0 x1 x2 x3 = some x) (hk : (Kx (pX4_both_8 d x0 x1 rf hf) (kX4_both rf hf)) x) : Go d mX4_both 8 [some (.ref x0), some (.int x1), some (.int x2), some (.int x3)] [] h rf hf := by
  unfold fX4_both_8b at hs
  refine go_iload_n (k4 := 3) rfl dX4_both_8 ?_
  refine go_sipush (v := 900) (by decide) dX4_both_9 ?_
  refine go_icmp_ge (tgt := 56) (by decide) dX4_both_12 (fun c => ?_) (fun c => ?_)
  · have hs := if_t c hs
    obtain ⟨q, hs2, hq⟩ := mapS hs
    clear hs
    subst hq
    exact go_subL (L' := [none, none, some (.int x2), none]) (by simp [subL, va_rf]) (oX4_both_56 hd hrc hs2 hk)
  · have hs := if_f c hs
    refine go_iload_n (k4 := 2) rfl dX4_both_15 ?_
    refine go_if_eq (tgt := 56) (by decide) dX4_both_16 (fun c => ?_) (fun c => ?_)
    · have hs := if_t c hs
      obtain ⟨q, hs2, hq⟩ := mapS hs
      clear hs
      subst hq
      exact go_subL (L' := [none, none, some (.int x2), none]) (by simp [subL, va_rf]) (oX4_both_56 hd hrc hs2 hk)
    · have hs := if_f c hs
      refine go_aload_n (k4 := 0) rfl (Or.inr ⟨_, rfl⟩) dX4_both_19 ?_
      obtain ⟨v3, ev3, hs⟩ := bindS hs
      refine go_gN fl_RX4_12 ev3 dX4_both_20 ?_
      refine go_str (j := 23) ls_RX4_223 dX4_both_23 ?_
      obtain ⟨g5, hs⟩ := gO_at hs
      obtain ⟨y4, ey4, hs⟩ := bindS hs
      refine go_V1 (As := [.ref 23]) (st := []) g5 rfl rfl (oX6_isAt (d := d - 1) (by omega) ey4) (by omega) mb_X6_isAt lm_RX4_92 mi_X6_isAt (Nat.le_of_ble_eq_true rfl) rfl dX4_both_25 ?_
      refine go_if_eq (tgt := 56) (by decide) dX4_both_28 (fun c => ?_) (fun c => ?_)
      · have hs := if_t c hs
        obtain ⟨q, hs2, hq⟩ := mapS hs
        clear hs
        subst hq
        exact go_subL (L' := [none, none, some (.int x2), none]) (by simp [subL, va_rf]) (oX4_both_56 hd hrc hs2 hk)
      · have hs := if_f c hs
        refine go_aload_n (k4 := 0) rfl (Or.inr ⟨_, rfl⟩) dX4_both_31 ?_
        obtain ⟨v6, ev6, hs⟩ := bindS hs
        refine go_gN fl_RX4_12 ev6 dX4_both_32 ?_
        obtain ⟨g8, hs⟩ := gO_at hs
        obtain ⟨y7, ey7, hs⟩ := bindS hs
        refine go_V0 (As := []) (st := []) g8 rfl rfl (oX6_advance (d := d - 1) (by omega) ey7) (by omega) mb_X6_advance lm_RX4_100 mi_X6_advance (Nat.le_of_ble_eq_true rfl) rfl dX4_both_35 ?_
        refine go_aload_n (k4 := 0) rfl (Or.inr ⟨_, rfl⟩) dX4_both_38 ?_
        refine go_iload_n (k4 := 1) rfl dX4_both_39 ?_
        obtain ⟨g10, hs⟩ := gO_at hs
        obtain ⟨y9, ey9, hs⟩ := bindS hs
        refine go_V1 (As := [.int x1]) (st := []) g10 rfl rfl (show Call (d - 1) mX4_unit _ _ _ _ from hrc 6 y7 x0 x1 _ ey9) (by omega) mb_X4_unit lm_RX4_220 mi_X4_unit (Nat.le_of_ble_eq_true rfl) rfl dX4_both_40 ?_
        refine go_istore_n (k4 := 2) (L' := [some (.ref x0), some (.int x1), some (.int y9.1), some (.int x3)]) (by decide) rfl dX4_both_43 ?_
        refine go_at 44 rfl ?_
        refine go_aload_n (k4 := 0) rfl (Or.inr ⟨_, rfl⟩) dX4_both_44 ?_
        refine go_bipush (v := -17) (by decide) dX4_both_45 ?_
        obtain ⟨g12, hs⟩ := gO_at hs
        obtain ⟨y11, ey11, hs⟩ := bindS hs
        refine go_V0 (As := [.int (-17 : Int32)]) (st := []) g12 rfl rfl (oX4_put (d := d - 1) (by omega) ey11) (by omega) mb_X4_put lm_RX4_171 mi_X4_put (Nat.le_of_ble_eq_true rfl) rfl dX4_both_47 ?_
        refine go_iinc (L' := [some (.ref x0), some (.int x1), some (.int y9.1), some (.int (x3 + Int32.ofInt 1))]) rfl (by decide) rfl rfl dX4_both_50 ?_
        refine go_goto (tgt := 8) (by decide) dX4_both_53 ?_
        obtain rfl := Option.some.inj hs
        exact go_subL (L' := [some (.ref x0), some (.int x1), some (.int y9.1), some (.int (x3 + Int32.ofInt 1))]) (by simp [subL, va_rf]) hk
theorem oX4_both_8 {d : Nat} (hd : 7 ≤ d) {rc : Nat → Hp → Nat → Int32 → Option (Int32 × Hp)} (hrc : ∀ (sel : Nat) (h : Hp) (x0 : Nat) (x1 : Int32) (y : (Int32 × Hp)), rc sel h x0 x1 = some y → Call (d - 1) (mgX4_sum sel) [.ref x0, .int x1] h (some (.int y.1)) (y.2)) {h : Hp} {x0 : Nat} {x1 : Int32} {x2 : Int32} {x3 : Int32} {rf : Option Value} {hf : Hp} {x : (Int32 × Hp)} (hs : fX4_both_8 rc h x0 x1 x2 x3 = some x) (hk : (kX4_both rf hf) x) : Go d mX4_both 8 [some (.ref x0), some (.int x1), some (.int x2), some (.int x3)] [] h rf hf := by
  unfold fX4_both_8 at hs
  exact lpw_go (P := pX4_both_8 d x0 x1 rf hf) (fun s x hs hk => oX4_both_8b hd hrc hs hk) (x2, x3, h) x hs hk
noncomputable def fX4_both (rc : Nat → Hp → Nat → Int32 → Option (Int32 × Hp)) (h : Hp) (x0 : Nat) (x1 : Int32) : Option (Int32 × Hp) :=
  gO h 4 x0 (
  (rc 6 h x0 x1).bind fun y1 =>
  fX4_both_8 rc y1.2 x0 x1 y1.1 (0 : Int32))
theorem oX4_both_0 {d : Nat} (hd : 7 ≤ d) {rc : Nat → Hp → Nat → Int32 → Option (Int32 × Hp)} (hrc : ∀ (sel : Nat) (h : Hp) (x0 : Nat) (x1 : Int32) (y : (Int32 × Hp)), rc sel h x0 x1 = some y → Call (d - 1) (mgX4_sum sel) [.ref x0, .int x1] h (some (.int y.1)) (y.2)) {h : Hp} {x0 : Nat} {x1 : Int32} {rf : Option Value} {hf : Hp} {x : (Int32 × Hp)} (hs : fX4_both rc h x0 x1 = some x) (hk : (kX4_both rf hf) x) : Go d mX4_both 0 [some (.ref x0), some (.int x1), none, none] [] h rf hf := by
  unfold fX4_both at hs
  refine go_aload_n (k4 := 0) rfl (Or.inr ⟨_, rfl⟩) dX4_both_0 ?_
  refine go_iload_n (k4 := 1) rfl dX4_both_1 ?_
  obtain ⟨g2, hs⟩ := gO_at hs
  obtain ⟨y1, ey1, hs⟩ := bindS hs
  refine go_V1 (As := [.int x1]) (st := []) g2 rfl rfl (show Call (d - 1) mX4_unit _ _ _ _ from hrc 6 h x0 x1 _ ey1) (by omega) mb_X4_unit lm_RX4_220 mi_X4_unit (Nat.le_of_ble_eq_true rfl) rfl dX4_both_2 ?_
  refine go_istore_n (k4 := 2) (L' := [some (.ref x0), some (.int x1), some (.int y1.1), none]) (by decide) rfl dX4_both_5 ?_
  refine go_iconst (v := 0) (by decide) dX4_both_6 ?_
  refine go_istore_n (k4 := 3) (L' := [some (.ref x0), some (.int x1), some (.int y1.1), some (.int (0 : Int32))]) (by decide) rfl dX4_both_7 ?_
  exact go_subL (L' := [some (.ref x0), some (.int x1), some (.int y1.1), some (.int (0 : Int32))]) (by simp [subL, va_rf]) (oX4_both_8 hd hrc hs hk)
theorem oX4_both {d : Nat} (hd : 7 ≤ d) {rc : Nat → Hp → Nat → Int32 → Option (Int32 × Hp)} (hrc : ∀ (sel : Nat) (h : Hp) (x0 : Nat) (x1 : Int32) (y : (Int32 × Hp)), rc sel h x0 x1 = some y → Call (d - 1) (mgX4_sum sel) [.ref x0, .int x1] h (some (.int y.1)) (y.2)) {h : Hp} {x0 : Nat} {x1 : Int32} {y : (Int32 × Hp)} (hs : fX4_both rc h x0 x1 = some y) : Call d mX4_both [.ref x0, .int x1] h (some (.int y.1)) (y.2) := call_of (by decide +kernel) (Nat.le_of_ble_eq_true rfl) (show Go d mX4_both 0 [some (.ref x0), some (.int x1), none, none] [] h _ _ from go_subL (by simp [subL]) (oX4_both_0 hd hrc hs ⟨rfl, rfl⟩))
abbrev kX4_unit (rf : Option Value) (hf : Hp) : (Int32 × Hp) → Prop := fun y => rf = some (.int y.1) ∧ hf = y.2
noncomputable def fX4_unit_110 (rc : Nat → Hp → Nat → Int32 → Option (Int32 × Hp)) (h : Hp) (s0 : Int32) : Option (Int32 × Hp) :=
  bl s0 (some ((s0, h)))
theorem oX4_unit_110 {d : Nat} (hd : 7 ≤ d) {rc : Nat → Hp → Nat → Int32 → Option (Int32 × Hp)} (hrc : ∀ (sel : Nat) (h : Hp) (x0 : Nat) (x1 : Int32) (y : (Int32 × Hp)), rc sel h x0 x1 = some y → Call (d - 1) (mgX4_sum sel) [.ref x0, .int x1] h (some (.int y.1)) (y.2)) {h : Hp} {s0 : Int32} {rf : Option Value} {hf : Hp} {x : (Int32 × Hp)} (hs : fX4_unit_110 rc h s0 = some x) (hk : (kX4_unit rf hf) x) : Go d mX4_unit 110 [none, none, none] [.int s0] h rf hf := by
  unfold fX4_unit_110 at hs
  obtain ⟨n1, n2, hs⟩ := bl_at hs
  obtain rfl := Option.some.inj hs
  obtain ⟨rfl, rfl⟩ := hk
  exact go_zret (ty := .boolean) rfl n1 dX4_unit_110
noncomputable def fX4_unit_109 (rc : Nat → Hp → Nat → Int32 → Option (Int32 × Hp)) (h : Hp)  : Option (Int32 × Hp) :=
  fX4_unit_110 rc h (0 : Int32)
theorem oX4_unit_109 {d : Nat} (hd : 7 ≤ d) {rc : Nat → Hp → Nat → Int32 → Option (Int32 × Hp)} (hrc : ∀ (sel : Nat) (h : Hp) (x0 : Nat) (x1 : Int32) (y : (Int32 × Hp)), rc sel h x0 x1 = some y → Call (d - 1) (mgX4_sum sel) [.ref x0, .int x1] h (some (.int y.1)) (y.2)) {h : Hp} {rf : Option Value} {hf : Hp} {x : (Int32 × Hp)} (hs : fX4_unit_109 rc h  = some x) (hk : (kX4_unit rf hf) x) : Go d mX4_unit 109 [none, none, none] [] h rf hf := by
  unfold fX4_unit_109 at hs
  refine go_iconst (v := 0) (by decide) dX4_unit_109 ?_
  exact go_subL (L' := [none, none, none]) (by simp [subL, va_rf]) (oX4_unit_110 hd hrc hs hk)
noncomputable def fX4_unit_88 (rc : Nat → Hp → Nat → Int32 → Option (Int32 × Hp)) (h : Hp) (s0 : Int32) : Option (Int32 × Hp) :=
  bl s0 (some ((s0, h)))
theorem oX4_unit_88 {d : Nat} (hd : 7 ≤ d) {rc : Nat → Hp → Nat → Int32 → Option (Int32 × Hp)} (hrc : ∀ (sel : Nat) (h : Hp) (x0 : Nat) (x1 : Int32) (y : (Int32 × Hp)), rc sel h x0 x1 = some y → Call (d - 1) (mgX4_sum sel) [.ref x0, .int x1] h (some (.int y.1)) (y.2)) {h : Hp} {s0 : Int32} {rf : Option Value} {hf : Hp} {x : (Int32 × Hp)} (hs : fX4_unit_88 rc h s0 = some x) (hk : (kX4_unit rf hf) x) : Go d mX4_unit 88 [none, none, none] [.int s0] h rf hf := by
  unfold fX4_unit_88 at hs
  obtain ⟨n1, n2, hs⟩ := bl_at hs
  obtain rfl := Option.some.inj hs
  obtain ⟨rfl, rfl⟩ := hk
  exact go_zret (ty := .boolean) rfl n1 dX4_unit_88
noncomputable def fX4_unit_87 (rc : Nat → Hp → Nat → Int32 → Option (Int32 × Hp)) (h : Hp)  : Option (Int32 × Hp) :=
  fX4_unit_88 rc h (0 : Int32)
theorem oX4_unit_87 {d : Nat} (hd : 7 ≤ d) {rc : Nat → Hp → Nat → Int32 → Option (Int32 × Hp)} (hrc : ∀ (sel : Nat) (h : Hp) (x0 : Nat) (x1 : Int32) (y : (Int32 × Hp)), rc sel h x0 x1 = some y → Call (d - 1) (mgX4_sum sel) [.ref x0, .int x1] h (some (.int y.1)) (y.2)) {h : Hp} {rf : Option Value} {hf : Hp} {x : (Int32 × Hp)} (hs : fX4_unit_87 rc h  = some x) (hk : (kX4_unit rf hf) x) : Go d mX4_unit 87 [none, none, none] [] h rf hf := by
  unfold fX4_unit_87 at hs
  refine go_iconst (v := 0) (by decide) dX4_unit_87 ?_
  exact go_subL (L' := [none, none, none]) (by simp [subL, va_rf]) (oX4_unit_88 hd hrc hs hk)
noncomputable def fX4_unit_35 (rc : Nat → Hp → Nat → Int32 → Option (Int32 × Hp)) (h : Hp) (x0 : Nat) (s0 : Int32) : Option (Int32 × Hp) :=
  gO h 4 x0 (
  (fX4_put h x0 (-19 : Int32)).bind fun y19 =>
  bl s0 (some ((s0, y19))))
theorem oX4_unit_35 {d : Nat} (hd : 7 ≤ d) {rc : Nat → Hp → Nat → Int32 → Option (Int32 × Hp)} (hrc : ∀ (sel : Nat) (h : Hp) (x0 : Nat) (x1 : Int32) (y : (Int32 × Hp)), rc sel h x0 x1 = some y → Call (d - 1) (mgX4_sum sel) [.ref x0, .int x1] h (some (.int y.1)) (y.2)) {h : Hp} {x0 : Nat} {s0 : Int32} {rf : Option Value} {hf : Hp} {x : (Int32 × Hp)} (hs : fX4_unit_35 rc h x0 s0 = some x) (hk : (kX4_unit rf hf) x) : Go d mX4_unit 35 [some (.ref x0), none, none] [.int s0] h rf hf := by
  unfold fX4_unit_35 at hs
  refine go_istore_n (k4 := 2) (L' := [some (.ref x0), none, some (.int s0)]) (by decide) rfl dX4_unit_35 ?_
  refine go_aload_n (k4 := 0) rfl (Or.inr ⟨_, rfl⟩) dX4_unit_36 ?_
  refine go_bipush (v := -19) (by decide) dX4_unit_37 ?_
  obtain ⟨g20, hs⟩ := gO_at hs
  obtain ⟨y19, ey19, hs⟩ := bindS hs
  refine go_V0 (As := [.int (-19 : Int32)]) (st := []) g20 rfl rfl (oX4_put (d := d - 1) (by omega) ey19) (by omega) mb_X4_put lm_RX4_171 mi_X4_put (Nat.le_of_ble_eq_true rfl) rfl dX4_unit_39 ?_
  refine go_iload_n (k4 := 2) rfl dX4_unit_42 ?_
  obtain ⟨n1, n2, hs⟩ := bl_at hs
  obtain rfl := Option.some.inj hs
  obtain ⟨rfl, rfl⟩ := hk
  exact go_zret (ty := .boolean) rfl n1 dX4_unit_43
noncomputable def fX4_unit_34 (rc : Nat → Hp → Nat → Int32 → Option (Int32 × Hp)) (h : Hp) (x0 : Nat) : Option (Int32 × Hp) :=
  fX4_unit_35 rc h x0 (0 : Int32)
theorem oX4_unit_34 {d : Nat} (hd : 7 ≤ d) {rc : Nat → Hp → Nat → Int32 → Option (Int32 × Hp)} (hrc : ∀ (sel : Nat) (h : Hp) (x0 : Nat) (x1 : Int32) (y : (Int32 × Hp)), rc sel h x0 x1 = some y → Call (d - 1) (mgX4_sum sel) [.ref x0, .int x1] h (some (.int y.1)) (y.2)) {h : Hp} {x0 : Nat} {rf : Option Value} {hf : Hp} {x : (Int32 × Hp)} (hs : fX4_unit_34 rc h x0 = some x) (hk : (kX4_unit rf hf) x) : Go d mX4_unit 34 [some (.ref x0), none, none] [] h rf hf := by
  unfold fX4_unit_34 at hs
  refine go_iconst (v := 0) (by decide) dX4_unit_34 ?_
  exact go_subL (L' := [some (.ref x0), none, none]) (by simp [subL, va_rf]) (oX4_unit_35 hd hrc hs hk)
noncomputable def fX4_unit (rc : Nat → Hp → Nat → Int32 → Option (Int32 × Hp)) (h : Hp) (x0 : Nat) (x1 : Int32) : Option (Int32 × Hp) :=
  (gN h 4 x0 0).bind fun v1 =>
  gO h 6 v1 (
  (fX6_isAt h v1 17).bind fun y2 =>
  if y2 = 0 then (
    (gN h 4 x0 0).bind fun v4 =>
    gO h 6 v4 (
    (fX6_isAt h v4 18).bind fun y5 =>
    if y5 = 0 then (
      gO h 4 x0 (
      (rc 0 h x0 x1).bind fun y7 =>
      if y7.1 = 0 then (
      fX4_unit_109 rc y7.2 ) else (
        gO y7.2 4 x0 (
        (rc 7 y7.2 x0 x1).bind fun y9 =>
        if y9.1 = 0 then (
        fX4_unit_109 rc y9.2 ) else (
          fX4_unit_110 rc y9.2 (1 : Int32)))))) else (
      gO h 4 x0 (
      (fX4_goInto h x0 x1).bind fun y11 =>
      if y11.1 = 0 then (
      fX4_unit_87 rc y11.2 ) else (
        gO y11.2 4 x0 (
        (rc 4 y11.2 x0 (x1 + (1 : Int32))).bind fun y13 =>
        if y13.1 = 0 then (
        fX4_unit_87 rc y13.2 ) else (
          gO y13.2 4 x0 (
          (fX4_take y13.2 x0 19).bind fun y15 =>
          if y15.1 = 0 then (
          fX4_unit_87 rc y15.2 ) else (
            fX4_unit_88 rc y15.2 (1 : Int32)))))))))) else (
    gO h 4 x0 (
    (fX4_goInto h x0 x1).bind fun y17 =>
    if y17.1 = 0 then (
    fX4_unit_34 rc y17.2 x0) else (
      gO y17.2 4 x0 (
      (rc 6 y17.2 x0 (x1 + (1 : Int32))).bind fun y21 =>
      if y21.1 = 0 then (
      fX4_unit_34 rc y21.2 x0) else (
        fX4_unit_35 rc y21.2 x0 (1 : Int32)))))))
theorem oX4_unit_0 {d : Nat} (hd : 7 ≤ d) {rc : Nat → Hp → Nat → Int32 → Option (Int32 × Hp)} (hrc : ∀ (sel : Nat) (h : Hp) (x0 : Nat) (x1 : Int32) (y : (Int32 × Hp)), rc sel h x0 x1 = some y → Call (d - 1) (mgX4_sum sel) [.ref x0, .int x1] h (some (.int y.1)) (y.2)) {h : Hp} {x0 : Nat} {x1 : Int32} {rf : Option Value} {hf : Hp} {x : (Int32 × Hp)} (hs : fX4_unit rc h x0 x1 = some x) (hk : (kX4_unit rf hf) x) : Go d mX4_unit 0 [some (.ref x0), some (.int x1), none] [] h rf hf := by
  unfold fX4_unit at hs
  refine go_aload_n (k4 := 0) rfl (Or.inr ⟨_, rfl⟩) dX4_unit_0 ?_
  obtain ⟨v1, ev1, hs⟩ := bindS hs
  refine go_gN fl_RX4_12 ev1 dX4_unit_1 ?_
  refine go_str (j := 17) ls_RX4_225 dX4_unit_4 ?_
  obtain ⟨g3, hs⟩ := gO_at hs
  obtain ⟨y2, ey2, hs⟩ := bindS hs
  refine go_V1 (As := [.ref 17]) (st := []) g3 rfl rfl (oX6_isAt (d := d - 1) (by omega) ey2) (by omega) mb_X6_isAt lm_RX4_92 mi_X6_isAt (Nat.le_of_ble_eq_true rfl) rfl dX4_unit_6 ?_
  refine go_if_eq (tgt := 44) (by decide) dX4_unit_9 (fun c => ?_) (fun c => ?_)
  · have hs := if_t c hs
    refine go_aload_n (k4 := 0) rfl (Or.inr ⟨_, rfl⟩) dX4_unit_44 ?_
    obtain ⟨v4, ev4, hs⟩ := bindS hs
    refine go_gN fl_RX4_12 ev4 dX4_unit_45 ?_
    refine go_str (j := 18) ls_RX4_227 dX4_unit_48 ?_
    obtain ⟨g6, hs⟩ := gO_at hs
    obtain ⟨y5, ey5, hs⟩ := bindS hs
    refine go_V1 (As := [.ref 18]) (st := []) g6 rfl rfl (oX6_isAt (d := d - 1) (by omega) ey5) (by omega) mb_X6_isAt lm_RX4_92 mi_X6_isAt (Nat.le_of_ble_eq_true rfl) rfl dX4_unit_50 ?_
    refine go_if_eq (tgt := 89) (by decide) dX4_unit_53 (fun c => ?_) (fun c => ?_)
    · have hs := if_t c hs
      refine go_aload_n (k4 := 0) rfl (Or.inr ⟨_, rfl⟩) dX4_unit_89 ?_
      refine go_iload_n (k4 := 1) rfl dX4_unit_90 ?_
      obtain ⟨g8, hs⟩ := gO_at hs
      obtain ⟨y7, ey7, hs⟩ := bindS hs
      refine go_V1 (As := [.int x1]) (st := []) g8 rfl rfl (show Call (d - 1) mX4_sum _ _ _ _ from hrc 0 h x0 x1 _ ey7) (by omega) mb_X4_sum lm_RX4_152 mi_X4_sum (Nat.le_of_ble_eq_true rfl) rfl dX4_unit_91 ?_
      refine go_if_eq (tgt := 109) (by decide) dX4_unit_94 (fun c => ?_) (fun c => ?_)
      · have hs := if_t c hs
        exact go_subL (L' := [none, none, none]) (by simp [subL, va_rf]) (oX4_unit_109 hd hrc hs hk)
      · have hs := if_f c hs
        refine go_aload_n (k4 := 0) rfl (Or.inr ⟨_, rfl⟩) dX4_unit_97 ?_
        refine go_iload_n (k4 := 1) rfl dX4_unit_98 ?_
        obtain ⟨g10, hs⟩ := gO_at hs
        obtain ⟨y9, ey9, hs⟩ := bindS hs
        refine go_V1 (As := [.int x1]) (st := []) g10 rfl rfl (show Call (d - 1) mX4_comparison _ _ _ _ from hrc 7 y7.2 x0 x1 _ ey9) (by omega) mb_X4_comparison lm_RX4_231 mi_X4_comparison (Nat.le_of_ble_eq_true rfl) rfl dX4_unit_99 ?_
        refine go_if_eq (tgt := 109) (by decide) dX4_unit_102 (fun c => ?_) (fun c => ?_)
        · have hs := if_t c hs
          exact go_subL (L' := [none, none, none]) (by simp [subL, va_rf]) (oX4_unit_109 hd hrc hs hk)
        · have hs := if_f c hs
          refine go_iconst (v := 1) (by decide) dX4_unit_105 ?_
          refine go_goto (tgt := 110) (by decide) dX4_unit_106 ?_
          exact go_subL (L' := [none, none, none]) (by simp [subL, va_rf]) (oX4_unit_110 hd hrc hs hk)
    · have hs := if_f c hs
      refine go_aload_n (k4 := 0) rfl (Or.inr ⟨_, rfl⟩) dX4_unit_56 ?_
      refine go_iload_n (k4 := 1) rfl dX4_unit_57 ?_
      obtain ⟨g12, hs⟩ := gO_at hs
      obtain ⟨y11, ey11, hs⟩ := bindS hs
      refine go_V1 (As := [.int x1]) (st := []) g12 rfl rfl (oX4_goInto (d := d - 1) (by omega) ey11) (by omega) mb_X4_goInto lm_RX4_184 mi_X4_goInto (Nat.le_of_ble_eq_true rfl) rfl dX4_unit_58 ?_
      refine go_if_eq (tgt := 87) (by decide) dX4_unit_61 (fun c => ?_) (fun c => ?_)
      · have hs := if_t c hs
        exact go_subL (L' := [none, none, none]) (by simp [subL, va_rf]) (oX4_unit_87 hd hrc hs hk)
      · have hs := if_f c hs
        refine go_aload_n (k4 := 0) rfl (Or.inr ⟨_, rfl⟩) dX4_unit_64 ?_
        refine go_iload_n (k4 := 1) rfl dX4_unit_65 ?_
        refine go_iconst (v := 1) (by decide) dX4_unit_66 ?_
        refine go_iadd dX4_unit_67 ?_
        obtain ⟨g14, hs⟩ := gO_at hs
        obtain ⟨y13, ey13, hs⟩ := bindS hs
        refine go_V1 (As := [.int (x1 + (1 : Int32))]) (st := []) g14 rfl rfl (show Call (d - 1) mX4_truth _ _ _ _ from hrc 4 y11.2 x0 (x1 + (1 : Int32)) _ ey13) (by omega) mb_X4_truth lm_RX4_160 mi_X4_truth (Nat.le_of_ble_eq_true rfl) rfl dX4_unit_68 ?_
        refine go_if_eq (tgt := 87) (by decide) dX4_unit_71 (fun c => ?_) (fun c => ?_)
        · have hs := if_t c hs
          exact go_subL (L' := [none, none, none]) (by simp [subL, va_rf]) (oX4_unit_87 hd hrc hs hk)
        · have hs := if_f c hs
          refine go_aload_n (k4 := 0) rfl (Or.inr ⟨_, rfl⟩) dX4_unit_74 ?_
          refine go_str (j := 19) ls_RX4_229 dX4_unit_75 ?_
          obtain ⟨g16, hs⟩ := gO_at hs
          obtain ⟨y15, ey15, hs⟩ := bindS hs
          refine go_V1 (As := [.ref 19]) (st := []) g16 rfl rfl (oX4_take (d := d - 1) (by omega) ey15) (by omega) mb_X4_take lm_RX4_108 mi_X4_take (Nat.le_of_ble_eq_true rfl) rfl dX4_unit_77 ?_
          refine go_if_eq (tgt := 87) (by decide) dX4_unit_80 (fun c => ?_) (fun c => ?_)
          · have hs := if_t c hs
            exact go_subL (L' := [none, none, none]) (by simp [subL, va_rf]) (oX4_unit_87 hd hrc hs hk)
          · have hs := if_f c hs
            refine go_iconst (v := 1) (by decide) dX4_unit_83 ?_
            refine go_goto (tgt := 88) (by decide) dX4_unit_84 ?_
            exact go_subL (L' := [none, none, none]) (by simp [subL, va_rf]) (oX4_unit_88 hd hrc hs hk)
  · have hs := if_f c hs
    refine go_aload_n (k4 := 0) rfl (Or.inr ⟨_, rfl⟩) dX4_unit_12 ?_
    refine go_iload_n (k4 := 1) rfl dX4_unit_13 ?_
    obtain ⟨g18, hs⟩ := gO_at hs
    obtain ⟨y17, ey17, hs⟩ := bindS hs
    refine go_V1 (As := [.int x1]) (st := []) g18 rfl rfl (oX4_goInto (d := d - 1) (by omega) ey17) (by omega) mb_X4_goInto lm_RX4_184 mi_X4_goInto (Nat.le_of_ble_eq_true rfl) rfl dX4_unit_14 ?_
    refine go_if_eq (tgt := 34) (by decide) dX4_unit_17 (fun c => ?_) (fun c => ?_)
    · have hs := if_t c hs
      exact go_subL (L' := [some (.ref x0), none, none]) (by simp [subL, va_rf]) (oX4_unit_34 hd hrc hs hk)
    · have hs := if_f c hs
      refine go_aload_n (k4 := 0) rfl (Or.inr ⟨_, rfl⟩) dX4_unit_20 ?_
      refine go_iload_n (k4 := 1) rfl dX4_unit_21 ?_
      refine go_iconst (v := 1) (by decide) dX4_unit_22 ?_
      refine go_iadd dX4_unit_23 ?_
      obtain ⟨g22, hs⟩ := gO_at hs
      obtain ⟨y21, ey21, hs⟩ := bindS hs
      refine go_V1 (As := [.int (x1 + (1 : Int32))]) (st := []) g22 rfl rfl (show Call (d - 1) mX4_unit _ _ _ _ from hrc 6 y17.2 x0 (x1 + (1 : Int32)) _ ey21) (by omega) mb_X4_unit lm_RX4_220 mi_X4_unit (Nat.le_of_ble_eq_true rfl) rfl dX4_unit_24 ?_
      refine go_if_eq (tgt := 34) (by decide) dX4_unit_27 (fun c => ?_) (fun c => ?_)
      · have hs := if_t c hs
        exact go_subL (L' := [some (.ref x0), none, none]) (by simp [subL, va_rf]) (oX4_unit_34 hd hrc hs hk)
      · have hs := if_f c hs
        refine go_iconst (v := 1) (by decide) dX4_unit_30 ?_
        refine go_goto (tgt := 35) (by decide) dX4_unit_31 ?_
        exact go_subL (L' := [some (.ref x0), none, none]) (by simp [subL, va_rf]) (oX4_unit_35 hd hrc hs hk)
theorem oX4_unit {d : Nat} (hd : 7 ≤ d) {rc : Nat → Hp → Nat → Int32 → Option (Int32 × Hp)} (hrc : ∀ (sel : Nat) (h : Hp) (x0 : Nat) (x1 : Int32) (y : (Int32 × Hp)), rc sel h x0 x1 = some y → Call (d - 1) (mgX4_sum sel) [.ref x0, .int x1] h (some (.int y.1)) (y.2)) {h : Hp} {x0 : Nat} {x1 : Int32} {y : (Int32 × Hp)} (hs : fX4_unit rc h x0 x1 = some y) : Call d mX4_unit [.ref x0, .int x1] h (some (.int y.1)) (y.2) := call_of (by decide +kernel) (Nat.le_of_ble_eq_true rfl) (show Go d mX4_unit 0 [some (.ref x0), some (.int x1), none] [] h _ _ from go_subL (by simp [subL]) (oX4_unit_0 hd hrc hs ⟨rfl, rfl⟩))
abbrev kX4_comparison (rf : Option Value) (hf : Hp) : (Int32 × Hp) → Prop := fun y => rf = some (.int y.1) ∧ hf = y.2
noncomputable def fX4_comparison_57 (rc : Nat → Hp → Nat → Int32 → Option (Int32 × Hp)) (h : Hp) (x0 : Nat) (x1 : Int32) (x2 : Int32) : Option (Int32 × Hp) :=
  (gN h 4 x0 0).bind fun v10 =>
  gO h 6 v10 (
  (fX6_advance h v10).bind fun y11 =>
  gO y11 4 x0 (
  (rc 0 y11 x0 x1).bind fun y13 =>
  gO y13.2 4 x0 (
  (fX4_put y13.2 x0 x2).bind fun y15 =>
  bl y13.1 (some ((y13.1, y15))))))
theorem oX4_comparison_57 {d : Nat} (hd : 7 ≤ d) {rc : Nat → Hp → Nat → Int32 → Option (Int32 × Hp)} (hrc : ∀ (sel : Nat) (h : Hp) (x0 : Nat) (x1 : Int32) (y : (Int32 × Hp)), rc sel h x0 x1 = some y → Call (d - 1) (mgX4_sum sel) [.ref x0, .int x1] h (some (.int y.1)) (y.2)) {h : Hp} {x0 : Nat} {x1 : Int32} {x2 : Int32} {rf : Option Value} {hf : Hp} {x : (Int32 × Hp)} (hs : fX4_comparison_57 rc h x0 x1 x2 = some x) (hk : (kX4_comparison rf hf) x) : Go d mX4_comparison 57 [some (.ref x0), some (.int x1), some (.int x2), none] [] h rf hf := by
  unfold fX4_comparison_57 at hs
  refine go_aload_n (k4 := 0) rfl (Or.inr ⟨_, rfl⟩) dX4_comparison_57 ?_
  obtain ⟨v10, ev10, hs⟩ := bindS hs
  refine go_gN fl_RX4_12 ev10 dX4_comparison_58 ?_
  obtain ⟨g12, hs⟩ := gO_at hs
  obtain ⟨y11, ey11, hs⟩ := bindS hs
  refine go_V0 (As := []) (st := []) g12 rfl rfl (oX6_advance (d := d - 1) (by omega) ey11) (by omega) mb_X6_advance lm_RX4_100 mi_X6_advance (Nat.le_of_ble_eq_true rfl) rfl dX4_comparison_61 ?_
  refine go_aload_n (k4 := 0) rfl (Or.inr ⟨_, rfl⟩) dX4_comparison_64 ?_
  refine go_iload_n (k4 := 1) rfl dX4_comparison_65 ?_
  obtain ⟨g14, hs⟩ := gO_at hs
  obtain ⟨y13, ey13, hs⟩ := bindS hs
  refine go_V1 (As := [.int x1]) (st := []) g14 rfl rfl (show Call (d - 1) mX4_sum _ _ _ _ from hrc 0 y11 x0 x1 _ ey13) (by omega) mb_X4_sum lm_RX4_152 mi_X4_sum (Nat.le_of_ble_eq_true rfl) rfl dX4_comparison_66 ?_
  refine go_istore_n (k4 := 3) (L' := [some (.ref x0), some (.int x1), some (.int x2), some (.int y13.1)]) (by decide) rfl dX4_comparison_69 ?_
  refine go_at 70 rfl ?_
  refine go_aload_n (k4 := 0) rfl (Or.inr ⟨_, rfl⟩) dX4_comparison_70 ?_
  refine go_iload_n (k4 := 2) rfl dX4_comparison_71 ?_
  obtain ⟨g16, hs⟩ := gO_at hs
  obtain ⟨y15, ey15, hs⟩ := bindS hs
  refine go_V0 (As := [.int x2]) (st := []) g16 rfl rfl (oX4_put (d := d - 1) (by omega) ey15) (by omega) mb_X4_put lm_RX4_171 mi_X4_put (Nat.le_of_ble_eq_true rfl) rfl dX4_comparison_72 ?_
  refine go_iload_n (k4 := 3) rfl dX4_comparison_75 ?_
  obtain ⟨n1, n2, hs⟩ := bl_at hs
  obtain rfl := Option.some.inj hs
  obtain ⟨rfl, rfl⟩ := hk
  exact go_zret (ty := .boolean) rfl n1 dX4_comparison_76
noncomputable def fX4_comparison (rc : Nat → Hp → Nat → Int32 → Option (Int32 × Hp)) (h : Hp) (x0 : Nat) (x1 : Int32) : Option (Int32 × Hp) :=
  (gN h 4 x0 0).bind fun v1 =>
  gO h 6 v1 (
  (fX6_isAt h v1 20).bind fun y2 =>
  if y2 = 0 then (
    (gN h 4 x0 0).bind fun v4 =>
    gO h 6 v4 (
    (fX6_isAt h v4 21).bind fun y5 =>
    if y5 = 0 then (
      (gN h 4 x0 0).bind fun v7 =>
      gO h 6 v7 (
      (fX6_isAt h v7 22).bind fun y8 =>
      if y8 = 0 then (
        gO h 4 x0 (
        (fX4_refuse h x0 (2 : Int32)).bind fun y17 =>
        bl y17.1 (some ((y17.1, y17.2))))) else (
      fX4_comparison_57 rc h x0 x1 (-14 : Int32)))) else (
      fX4_comparison_57 rc h x0 x1 (-16 : Int32)))) else (
    fX4_comparison_57 rc h x0 x1 (-15 : Int32)))
theorem oX4_comparison_0 {d : Nat} (hd : 7 ≤ d) {rc : Nat → Hp → Nat → Int32 → Option (Int32 × Hp)} (hrc : ∀ (sel : Nat) (h : Hp) (x0 : Nat) (x1 : Int32) (y : (Int32 × Hp)), rc sel h x0 x1 = some y → Call (d - 1) (mgX4_sum sel) [.ref x0, .int x1] h (some (.int y.1)) (y.2)) {h : Hp} {x0 : Nat} {x1 : Int32} {rf : Option Value} {hf : Hp} {x : (Int32 × Hp)} (hs : fX4_comparison rc h x0 x1 = some x) (hk : (kX4_comparison rf hf) x) : Go d mX4_comparison 0 [some (.ref x0), some (.int x1), none, none] [] h rf hf := by
  unfold fX4_comparison at hs
  refine go_bipush (v := -14) (by decide) dX4_comparison_0 ?_
  refine go_istore_n (k4 := 2) (L' := [some (.ref x0), some (.int x1), some (.int (-14 : Int32)), none]) (by decide) rfl dX4_comparison_2 ?_
  refine go_aload_n (k4 := 0) rfl (Or.inr ⟨_, rfl⟩) dX4_comparison_3 ?_
  obtain ⟨v1, ev1, hs⟩ := bindS hs
  refine go_gN fl_RX4_12 ev1 dX4_comparison_4 ?_
  refine go_str (j := 20) ls_RX4_234 dX4_comparison_7 ?_
  obtain ⟨g3, hs⟩ := gO_at hs
  obtain ⟨y2, ey2, hs⟩ := bindS hs
  refine go_V1 (As := [.ref 20]) (st := []) g3 rfl rfl (oX6_isAt (d := d - 1) (by omega) ey2) (by omega) mb_X6_isAt lm_RX4_92 mi_X6_isAt (Nat.le_of_ble_eq_true rfl) rfl dX4_comparison_9 ?_
  refine go_if_eq (tgt := 21) (by decide) dX4_comparison_12 (fun c => ?_) (fun c => ?_)
  · have hs := if_t c hs
    refine go_aload_n (k4 := 0) rfl (Or.inr ⟨_, rfl⟩) dX4_comparison_21 ?_
    obtain ⟨v4, ev4, hs⟩ := bindS hs
    refine go_gN fl_RX4_12 ev4 dX4_comparison_22 ?_
    refine go_str (j := 21) ls_RX4_236 dX4_comparison_25 ?_
    obtain ⟨g6, hs⟩ := gO_at hs
    obtain ⟨y5, ey5, hs⟩ := bindS hs
    refine go_V1 (As := [.ref 21]) (st := []) g6 rfl rfl (oX6_isAt (d := d - 1) (by omega) ey5) (by omega) mb_X6_isAt lm_RX4_92 mi_X6_isAt (Nat.le_of_ble_eq_true rfl) rfl dX4_comparison_27 ?_
    refine go_if_eq (tgt := 39) (by decide) dX4_comparison_30 (fun c => ?_) (fun c => ?_)
    · have hs := if_t c hs
      refine go_aload_n (k4 := 0) rfl (Or.inr ⟨_, rfl⟩) dX4_comparison_39 ?_
      obtain ⟨v7, ev7, hs⟩ := bindS hs
      refine go_gN fl_RX4_12 ev7 dX4_comparison_40 ?_
      refine go_str (j := 22) ls_RX4_238 dX4_comparison_43 ?_
      obtain ⟨g9, hs⟩ := gO_at hs
      obtain ⟨y8, ey8, hs⟩ := bindS hs
      refine go_V1 (As := [.ref 22]) (st := []) g9 rfl rfl (oX6_isAt (d := d - 1) (by omega) ey8) (by omega) mb_X6_isAt lm_RX4_92 mi_X6_isAt (Nat.le_of_ble_eq_true rfl) rfl dX4_comparison_45 ?_
      refine go_if_ne (tgt := 57) (by decide) dX4_comparison_48 (fun c => ?_) (fun c => ?_)
      · have hs := if_f c hs
        exact go_subL (L' := [some (.ref x0), some (.int x1), some (.int (-14 : Int32)), none]) (by simp [subL, va_rf]) (oX4_comparison_57 hd hrc hs hk)
      · have hs := if_t c hs
        refine go_aload_n (k4 := 0) rfl (Or.inr ⟨_, rfl⟩) dX4_comparison_51 ?_
        refine go_iconst (v := 2) (by decide) dX4_comparison_52 ?_
        obtain ⟨g18, hs⟩ := gO_at hs
        obtain ⟨y17, ey17, hs⟩ := bindS hs
        refine go_V1 (As := [.int (2 : Int32)]) (st := []) g18 rfl rfl (oX4_refuse (d := d - 1) (by omega) ey17) (by omega) mb_X4_refuse lm_RX4_96 mi_X4_refuse (Nat.le_of_ble_eq_true rfl) rfl dX4_comparison_53 ?_
        obtain ⟨n1, n2, hs⟩ := bl_at hs
        obtain rfl := Option.some.inj hs
        obtain ⟨rfl, rfl⟩ := hk
        exact go_zret (ty := .boolean) rfl n1 dX4_comparison_56
    · have hs := if_f c hs
      refine go_bipush (v := -16) (by decide) dX4_comparison_33 ?_
      refine go_istore_n (k4 := 2) (L' := [some (.ref x0), some (.int x1), some (.int (-16 : Int32)), none]) (by decide) rfl dX4_comparison_35 ?_
      refine go_goto (tgt := 57) (by decide) dX4_comparison_36 ?_
      exact go_subL (L' := [some (.ref x0), some (.int x1), some (.int (-16 : Int32)), none]) (by simp [subL, va_rf]) (oX4_comparison_57 hd hrc hs hk)
  · have hs := if_f c hs
    refine go_bipush (v := -15) (by decide) dX4_comparison_15 ?_
    refine go_istore_n (k4 := 2) (L' := [some (.ref x0), some (.int x1), some (.int (-15 : Int32)), none]) (by decide) rfl dX4_comparison_17 ?_
    refine go_goto (tgt := 57) (by decide) dX4_comparison_18 ?_
    exact go_subL (L' := [some (.ref x0), some (.int x1), some (.int (-15 : Int32)), none]) (by simp [subL, va_rf]) (oX4_comparison_57 hd hrc hs hk)
theorem oX4_comparison {d : Nat} (hd : 7 ≤ d) {rc : Nat → Hp → Nat → Int32 → Option (Int32 × Hp)} (hrc : ∀ (sel : Nat) (h : Hp) (x0 : Nat) (x1 : Int32) (y : (Int32 × Hp)), rc sel h x0 x1 = some y → Call (d - 1) (mgX4_sum sel) [.ref x0, .int x1] h (some (.int y.1)) (y.2)) {h : Hp} {x0 : Nat} {x1 : Int32} {y : (Int32 × Hp)} (hs : fX4_comparison rc h x0 x1 = some y) : Call d mX4_comparison [.ref x0, .int x1] h (some (.int y.1)) (y.2) := call_of (by decide +kernel) (Nat.le_of_ble_eq_true rfl) (show Go d mX4_comparison 0 [some (.ref x0), some (.int x1), none, none] [] h _ _ from go_subL (by simp [subL]) (oX4_comparison_0 hd hrc hs ⟨rfl, rfl⟩))
noncomputable def rX4_sum : Nat → Nat → Hp → Nat → Int32 → Option (Int32 × Hp)
  | 0, _, _, _, _ => none
  | n + 1, sel, h, x0, x1 => if sel = 0 then fX4_sum (rX4_sum n) h x0 x1 else if sel = 1 then fX4_term (rX4_sum n) h x0 x1 else if sel = 2 then fX4_atom (rX4_sum n) h x0 x1 else if sel = 3 then fX4_choice (rX4_sum n) h x0 x1 else if sel = 4 then fX4_truth (rX4_sum n) h x0 x1 else if sel = 5 then fX4_both (rX4_sum n) h x0 x1 else if sel = 6 then fX4_unit (rX4_sum n) h x0 x1 else fX4_comparison (rX4_sum n) h x0 x1
theorem orX4_sum : ∀ (n d : Nat) (_ : 7 + n ≤ d) (sel : Nat) (h : Hp) (x0 : Nat) (x1 : Int32) (y : (Int32 × Hp)), rX4_sum n sel h x0 x1 = some y → Call d (mgX4_sum sel) [.ref x0, .int x1] h (some (.int y.1)) (y.2)
  | 0, d, hd, sel, h, x0, x1, y, hs => by simp [rX4_sum] at hs
  | n + 1, d, hd, sel, h, x0, x1, y, hs => by
    have ih := orX4_sum n (d - 1) (by omega)
    simp only [rX4_sum] at hs
    by_cases c0 : sel = 0
    · have hs := if_t c0 hs
      subst c0
      exact oX4_sum (by omega) ih hs
    · have hs := if_f c0 hs
      by_cases c1 : sel = 1
      · have hs := if_t c1 hs
        subst c1
        exact oX4_term (by omega) ih hs
      · have hs := if_f c1 hs
        by_cases c2 : sel = 2
        · have hs := if_t c2 hs
          subst c2
          exact oX4_atom (by omega) ih hs
        · have hs := if_f c2 hs
          by_cases c3 : sel = 3
          · have hs := if_t c3 hs
            subst c3
            exact oX4_choice (by omega) ih hs
          · have hs := if_f c3 hs
            by_cases c4 : sel = 4
            · have hs := if_t c4 hs
              subst c4
              exact oX4_truth (by omega) ih hs
            · have hs := if_f c4 hs
              by_cases c5 : sel = 5
              · have hs := if_t c5 hs
                subst c5
                exact oX4_both (by omega) ih hs
              · have hs := if_f c5 hs
                by_cases c6 : sel = 6
                · have hs := if_t c6 hs
                  subst c6
                  exact oX4_unit (by omega) ih hs
                · have hs := if_f c6 hs
                  have e : mgX4_sum sel = mX4_comparison := by simp [mgX4_sum, c0, c1, c2, c3, c4, c5, c6]
                  rw [e]
                  exact oX4_comparison (by omega) ih hs
