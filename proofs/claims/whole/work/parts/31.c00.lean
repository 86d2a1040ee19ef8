/-! methods: their texts as functions, and that the machine does just that -/
abbrev kX6_init (rf : Option Value) (hf : Hp) : Hp → Prop := fun y => rf = none ∧ hf = y
noncomputable def fX6_init (h : Hp) (x0 : Nat) : Option Hp :=
  lt h.1 fun a2 =>
  (nA 1 h (0 : Int32)).bind fun h1 =>
  (sV h1 6 x0 0 (.ref a2)).bind fun h3 =>
  (sV h3 6 x0 1 (.int (0 : Int32))).bind fun h4 =>
  (sV h4 6 x0 2 (.int (0 : Int32))).bind fun h5 =>
  (sV h5 6 x0 3 (.int (0 : Int32))).bind fun h6 =>
  (sV h6 6 x0 4 (.int (0 : Int32))).bind fun h7 =>
  (sV h7 6 x0 5 (.int (0 : Int32))).bind fun h8 =>
  some (h8)
theorem oX6_init_0 {d : Nat} (hd : 1 ≤ d) {h : Hp} {x0 : Nat} {rf : Option Value} {hf : Hp} {x : Hp} (hs : fX6_init h x0 = some x) (hk : (kX6_init rf hf) x) : Go d mX6_init 0 [some (.ref x0)] [] h rf hf := by
  unfold fX6_init at hs
  refine go_aload_n (k4 := 0) rfl (Or.inr ⟨_, rfl⟩) dX6_init_0 ?_
  refine go_objInit lo_RX6_1.1 lo_RX6_1.2.1 lo_RX6_1.2.2 (by omega) (Nat.le_of_ble_eq_true rfl) dX6_init_1 ?_
  refine go_aload_n (k4 := 0) rfl (Or.inr ⟨_, rfl⟩) dX6_init_4 ?_
  refine go_iconst (v := 0) (by decide) dX6_init_5 ?_
  obtain ⟨a2, ea2, hs⟩ := lt_at hs
  obtain ⟨h1, eh1, hs⟩ := bindS hs
  refine go_nAb lt_byte eh1 dX6_init_6 ?_
  rw [← ea2]
  obtain ⟨h3, eh3, hs⟩ := bindS hs
  refine go_sV fw_RX6_7 eh3 rfl rfl dX6_init_8 ?_
  refine go_aload_n (k4 := 0) rfl (Or.inr ⟨_, rfl⟩) dX6_init_11 ?_
  refine go_at 12 rfl ?_
  refine go_iconst (v := 0) (by decide) dX6_init_12 ?_
  obtain ⟨h4, eh4, hs⟩ := bindS hs
  refine go_sV fw_RX6_13 eh4 rfl rfl dX6_init_13 ?_
  refine go_aload_n (k4 := 0) rfl (Or.inr ⟨_, rfl⟩) dX6_init_16 ?_
  refine go_iconst (v := 0) (by decide) dX6_init_17 ?_
  obtain ⟨h5, eh5, hs⟩ := bindS hs
  refine go_sV fw_RX6_17 eh5 rfl rfl dX6_init_18 ?_
  refine go_aload_n (k4 := 0) rfl (Or.inr ⟨_, rfl⟩) dX6_init_21 ?_
  refine go_iconst (v := 0) (by decide) dX6_init_22 ?_
  obtain ⟨h6, eh6, hs⟩ := bindS hs
  refine go_sV fw_RX6_20 eh6 rfl rfl dX6_init_23 ?_
  refine go_at 26 rfl ?_
  refine go_aload_n (k4 := 0) rfl (Or.inr ⟨_, rfl⟩) dX6_init_26 ?_
  refine go_iconst (v := 0) (by decide) dX6_init_27 ?_
  obtain ⟨h7, eh7, hs⟩ := bindS hs
  refine go_sV fw_RX6_23 eh7 rfl rfl dX6_init_28 ?_
  refine go_aload_n (k4 := 0) rfl (Or.inr ⟨_, rfl⟩) dX6_init_31 ?_
  refine go_iconst (v := 0) (by decide) dX6_init_32 ?_
  obtain ⟨h8, eh8, hs⟩ := bindS hs
  refine go_sV fw_RX6_26 eh8 rfl rfl dX6_init_33 ?_
  obtain rfl := Option.some.inj hs
  obtain ⟨rfl, rfl⟩ := hk
  exact go_vret rfl dX6_init_36
theorem oX6_init {d : Nat} (hd : 1 ≤ d) {h : Hp} {x0 : Nat} {y : Hp} (hs : fX6_init h x0 = some y) : Call d mX6_init [.ref x0] h (none) y := call_of (by decide +kernel) (Nat.le_of_ble_eq_true rfl) (show Go d mX6_init 0 [some (.ref x0)] [] h _ _ from go_subL (by simp [subL]) (oX6_init_0 hd hs ⟨rfl, rfl⟩))
abbrev kX4_init (rf : Option Value) (hf : Hp) : Hp → Prop := fun y => rf = none ∧ hf = y
noncomputable def fX4_init (h : Hp) (x0 : Nat) : Option Hp :=
  lt h.1 fun a1 =>
  lt (nO h 6 6) fun h2 =>
  (fX6_init h2 a1).bind fun y3 =>
  (sV y3 4 x0 0 (.ref a1)).bind fun h4 =>
  lt h4.1 fun a6 =>
  (nA 0 h4 (900 : Int32)).bind fun h5 =>
  (sV h5 4 x0 1 (.ref a6)).bind fun h7 =>
  (sV h7 4 x0 2 (.int (0 : Int32))).bind fun h8 =>
  (sV h8 4 x0 3 (.int (0 : Int32))).bind fun h9 =>
  (sV h9 4 x0 4 (.int (0 : Int32))).bind fun h10 =>
  (sV h10 4 x0 5 (.int (0 : Int32))).bind fun h11 =>
  (sV h11 4 x0 6 (.int (-1 : Int32))).bind fun h12 =>
  (sV h12 4 x0 7 (.int (0 : Int32))).bind fun h13 =>
  (sV h13 4 x0 8 (.int (0 : Int32))).bind fun h14 =>
  (sV h14 4 x0 9 (.int (0 : Int32))).bind fun h15 =>
  (sV h15 4 x0 10 (.int (0 : Int32))).bind fun h16 =>
  (sV h16 4 x0 11 (.int (0 : Int32))).bind fun h17 =>
  (sV h17 4 x0 12 (.int (0 : Int32))).bind fun h18 =>
  (sV h18 4 x0 13 (.int (-1 : Int32))).bind fun h19 =>
  (sV h19 4 x0 14 (.null)).bind fun h20 =>
  (sV h20 4 x0 15 (.null)).bind fun h21 =>
  some (h21)
theorem oX4_init_0 {d : Nat} (hd : 2 ≤ d) {h : Hp} {x0 : Nat} {rf : Option Value} {hf : Hp} {x : Hp} (hs : fX4_init h x0 = some x) (hk : (kX4_init rf hf) x) : Go d mX4_init 0 [some (.ref x0)] [] h rf hf := by
  unfold fX4_init at hs
  refine go_aload_n (k4 := 0) rfl (Or.inr ⟨_, rfl⟩) dX4_init_0 ?_
  refine go_objInit lo_RX4_3.1 lo_RX4_3.2.1 lo_RX4_3.2.2 (by omega) (Nat.le_of_ble_eq_true rfl) dX4_init_1 ?_
  refine go_aload_n (k4 := 0) rfl (Or.inr ⟨_, rfl⟩) dX4_init_4 ?_
  obtain ⟨a1, ea1, hs⟩ := lt_at hs
  obtain ⟨h2, eh2, hs⟩ := lt_at hs
  refine go_nO (ci := 6) rfl ln_RX4_9.1 ln_RX4_9.2.1 ln_RX4_9.2.2 dX4_init_5 ?_
  rw [← ea1]
  refine go_hp eh2.symm ?_
  refine go_dup rfl dX4_init_8 ?_
  obtain ⟨y3, ey3, hs⟩ := bindS hs
  refine go_IN0 (As := []) (st := [.ref a1, .ref x0]) rfl rfl (oX6_init (d := d - 1) (by omega) ey3) (by omega) mb_X6_init lm_RX4_11 mi_X6_init (Nat.le_of_ble_eq_true rfl) rfl dX4_init_9 ?_
  obtain ⟨h4, eh4, hs⟩ := bindS hs
  refine go_sVF ff_RX4_12 rfl eh4 rfl rfl dX4_init_12 ?_
  refine go_at 15 rfl ?_
  refine go_aload_n (k4 := 0) rfl (Or.inr ⟨_, rfl⟩) dX4_init_15 ?_
  refine go_sipush (v := 900) (by decide) dX4_init_16 ?_
  obtain ⟨a6, ea6, hs⟩ := lt_at hs
  obtain ⟨h5, eh5, hs⟩ := bindS hs
  refine go_nAi lt_int eh5 dX4_init_19 ?_
  rw [← ea6]
  obtain ⟨h7, eh7, hs⟩ := bindS hs
  refine go_sVF ff_RX4_18 rfl eh7 rfl rfl dX4_init_21 ?_
  refine go_aload_n (k4 := 0) rfl (Or.inr ⟨_, rfl⟩) dX4_init_24 ?_
  refine go_iconst (v := 0) (by decide) dX4_init_25 ?_
  obtain ⟨h8, eh8, hs⟩ := bindS hs
  refine go_sV fw_RX4_22 eh8 rfl rfl dX4_init_26 ?_
  refine go_aload_n (k4 := 0) rfl (Or.inr ⟨_, rfl⟩) dX4_init_29 ?_
  refine go_at 30 rfl ?_
  refine go_iconst (v := 0) (by decide) dX4_init_30 ?_
  obtain ⟨h9, eh9, hs⟩ := bindS hs
  refine go_sV fw_RX4_26 eh9 rfl rfl dX4_init_31 ?_
  refine go_aload_n (k4 := 0) rfl (Or.inr ⟨_, rfl⟩) dX4_init_34 ?_
  refine go_iconst (v := 0) (by decide) dX4_init_35 ?_
  obtain ⟨h10, eh10, hs⟩ := bindS hs
  refine go_sV fw_RX4_30 eh10 rfl rfl dX4_init_36 ?_
  refine go_aload_n (k4 := 0) rfl (Or.inr ⟨_, rfl⟩) dX4_init_39 ?_
  refine go_iconst (v := 0) (by decide) dX4_init_40 ?_
  obtain ⟨h11, eh11, hs⟩ := bindS hs
  refine go_sV fw_RX4_33 eh11 rfl rfl dX4_init_41 ?_
  refine go_at 44 rfl ?_
  refine go_aload_n (k4 := 0) rfl (Or.inr ⟨_, rfl⟩) dX4_init_44 ?_
  refine go_iconst (v := -1) (by decide) dX4_init_45 ?_
  obtain ⟨h12, eh12, hs⟩ := bindS hs
  refine go_sV fw_RX4_36 eh12 rfl rfl dX4_init_46 ?_
  refine go_aload_n (k4 := 0) rfl (Or.inr ⟨_, rfl⟩) dX4_init_49 ?_
  refine go_iconst (v := 0) (by decide) dX4_init_50 ?_
  obtain ⟨h13, eh13, hs⟩ := bindS hs
  refine go_sV fw_RX4_39 eh13 rfl rfl dX4_init_51 ?_
  refine go_aload_n (k4 := 0) rfl (Or.inr ⟨_, rfl⟩) dX4_init_54 ?_
  refine go_iconst (v := 0) (by decide) dX4_init_55 ?_
  refine go_at 56 rfl ?_
  obtain ⟨h14, eh14, hs⟩ := bindS hs
  refine go_sV fw_RX4_42 eh14 rfl rfl dX4_init_56 ?_
  refine go_aload_n (k4 := 0) rfl (Or.inr ⟨_, rfl⟩) dX4_init_59 ?_
  refine go_iconst (v := 0) (by decide) dX4_init_60 ?_
  obtain ⟨h15, eh15, hs⟩ := bindS hs
  refine go_sV fw_RX4_45 eh15 rfl rfl dX4_init_61 ?_
  refine go_aload_n (k4 := 0) rfl (Or.inr ⟨_, rfl⟩) dX4_init_64 ?_
  refine go_iconst (v := 0) (by decide) dX4_init_65 ?_
  obtain ⟨h16, eh16, hs⟩ := bindS hs
  refine go_sV fw_RX4_48 eh16 rfl rfl dX4_init_66 ?_
  refine go_aload_n (k4 := 0) rfl (Or.inr ⟨_, rfl⟩) dX4_init_69 ?_
  refine go_at 70 rfl ?_
  refine go_iconst (v := 0) (by decide) dX4_init_70 ?_
  obtain ⟨h17, eh17, hs⟩ := bindS hs
  refine go_sV fw_RX4_51 eh17 rfl rfl dX4_init_71 ?_
  refine go_aload_n (k4 := 0) rfl (Or.inr ⟨_, rfl⟩) dX4_init_74 ?_
  refine go_iconst (v := 0) (by decide) dX4_init_75 ?_
  obtain ⟨h18, eh18, hs⟩ := bindS hs
  refine go_sV fw_RX4_54 eh18 rfl rfl dX4_init_76 ?_
  refine go_aload_n (k4 := 0) rfl (Or.inr ⟨_, rfl⟩) dX4_init_79 ?_
  refine go_iconst (v := -1) (by decide) dX4_init_80 ?_
  obtain ⟨h19, eh19, hs⟩ := bindS hs
  refine go_sV fw_RX4_57 eh19 rfl rfl dX4_init_81 ?_
  refine go_at 84 rfl ?_
  refine go_aload_n (k4 := 0) rfl (Or.inr ⟨_, rfl⟩) dX4_init_84 ?_
  refine go_null dX4_init_85 ?_
  obtain ⟨h20, eh20, hs⟩ := bindS hs
  refine go_sV fw_RX4_60 eh20 rfl rfl dX4_init_86 ?_
  refine go_aload_n (k4 := 0) rfl (Or.inr ⟨_, rfl⟩) dX4_init_89 ?_
  refine go_null dX4_init_90 ?_
  obtain ⟨h21, eh21, hs⟩ := bindS hs
  refine go_sV fw_RX4_64 eh21 rfl rfl dX4_init_91 ?_
  obtain rfl := Option.some.inj hs
  obtain ⟨rfl, rfl⟩ := hk
  exact go_vret rfl dX4_init_94
theorem oX4_init {d : Nat} (hd : 2 ≤ d) {h : Hp} {x0 : Nat} {y : Hp} (hs : fX4_init h x0 = some y) : Call d mX4_init [.ref x0] h (none) y := call_of (by decide +kernel) (Nat.le_of_ble_eq_true rfl) (show Go d mX4_init 0 [some (.ref x0)] [] h _ _ from go_subL (by simp [subL]) (oX4_init_0 hd hs ⟨rfl, rfl⟩))
abbrev kX11_dropsOf (h : Hp) (rf : Option Value) (hf : Hp) : Int32 → Prop := fun y => rf = some (.int y) ∧ hf = h
noncomputable def fX11_dropsOf_22 (h : Hp) (s0 : Int32) : Option Int32 :=
  some (s0)
theorem oX11_dropsOf_22 {d : Nat} (hd : 0 ≤ d) {h : Hp} {s0 : Int32} {rf : Option Value} {hf : Hp} {x : Int32} (hs : fX11_dropsOf_22 h s0 = some x) (hk : (kX11_dropsOf h rf hf) x) : Go d mX11_dropsOf 22 [none, none] [.int s0] h rf hf := by
  unfold fX11_dropsOf_22 at hs
  obtain rfl := Option.some.inj hs
  obtain ⟨rfl, rfl⟩ := hk
  exact go_iret rfl dX11_dropsOf_22
noncomputable def fX11_dropsOf_9 (h : Hp)  : Option Int32 :=
  fX11_dropsOf_22 h (0 : Int32)
theorem oX11_dropsOf_9 {d : Nat} (hd : 0 ≤ d) {h : Hp} {rf : Option Value} {hf : Hp} {x : Int32} (hs : fX11_dropsOf_9 h  = some x) (hk : (kX11_dropsOf h rf hf) x) : Go d mX11_dropsOf 9 [none, none] [] h rf hf := by
  unfold fX11_dropsOf_9 at hs
  refine go_iconst (v := 0) (by decide) dX11_dropsOf_9 ?_
  refine go_goto (tgt := 22) (by decide) dX11_dropsOf_10 ?_
  exact go_subL (L' := [none, none]) (by simp [subL, va_rf]) (oX11_dropsOf_22 hd hs hk)
noncomputable def fX11_dropsOf (h : Hp) (x0 : Int32) (x1 : Int32) : Option Int32 :=
  if x1 < 0 then (
  fX11_dropsOf_9 h ) else (
    if x1 < (4 : Int32) then (
      (tT 2 x1).bind fun v1 =>
      (dv x0 v1).bind fun v2 =>
      (rm v2 (5 : Int32)).bind fun v3 =>
      fX11_dropsOf_22 h v3) else (
    fX11_dropsOf_9 h ))
theorem oX11_dropsOf_0 {d : Nat} (hd : 0 ≤ d) {h : Hp} {x0 : Int32} {x1 : Int32} {rf : Option Value} {hf : Hp} {x : Int32} (hs : fX11_dropsOf h x0 x1 = some x) (hk : (kX11_dropsOf h rf hf) x) : Go d mX11_dropsOf 0 [some (.int x0), some (.int x1)] [] h rf hf := by
  unfold fX11_dropsOf at hs
  refine go_iload_n (k4 := 1) rfl dX11_dropsOf_0 ?_
  refine go_if_lt (tgt := 9) (by decide) dX11_dropsOf_1 (fun c => ?_) (fun c => ?_)
  · have hs := if_t c hs
    exact go_subL (L' := [none, none]) (by simp [subL, va_rf]) (oX11_dropsOf_9 hd hs hk)
  · have hs := if_f c hs
    refine go_iload_n (k4 := 1) rfl dX11_dropsOf_4 ?_
    refine go_iconst (v := 4) (by decide) dX11_dropsOf_5 ?_
    refine go_icmp_lt (tgt := 13) (by decide) dX11_dropsOf_6 (fun c => ?_) (fun c => ?_)
    · have hs := if_t c hs
      refine go_iload_n (k4 := 0) rfl dX11_dropsOf_13 ?_
      refine go_stat (j := 2) rfl lz_RX11_285.1 lz_RX11_285.2.1 lz_RX11_285.2.2 dX11_dropsOf_14 ?_
      refine go_iload_n (k4 := 1) rfl dX11_dropsOf_17 ?_
      obtain ⟨v1, ev1, hs⟩ := bindS hs
      refine go_tT (by decide) ev1 dX11_dropsOf_18 ?_
      obtain ⟨v2, ev2, hs⟩ := bindS hs
      refine go_dv ev2 dX11_dropsOf_19 ?_
      refine go_iconst (v := 5) (by decide) dX11_dropsOf_20 ?_
      obtain ⟨v3, ev3, hs⟩ := bindS hs
      refine go_rm ev3 dX11_dropsOf_21 ?_
      exact go_subL (L' := [none, none]) (by simp [subL, va_rf]) (oX11_dropsOf_22 hd hs hk)
    · have hs := if_f c hs
      exact go_subL (L' := [none, none]) (by simp [subL, va_rf]) (oX11_dropsOf_9 hd hs hk)
theorem oX11_dropsOf {d : Nat} (hd : 0 ≤ d) {h : Hp} {x0 : Int32} {x1 : Int32} {y : Int32} (hs : fX11_dropsOf h x0 x1 = some y) : Call d mX11_dropsOf [.int x0, .int x1] h (some (.int y)) h := call_of (by decide +kernel) (Nat.le_of_ble_eq_true rfl) (show Go d mX11_dropsOf 0 [some (.int x0), some (.int x1)] [] h _ _ from go_subL (by simp [subL]) (oX11_dropsOf_0 hd hs ⟨rfl, rfl⟩))
abbrev kX0_allDrops (h : Hp) (rf : Option Value) (hf : Hp) : Int32 → Prop := fun y => rf = some (.int y) ∧ hf = h
abbrev pX0_allDrops_4 (d : Nat) (h : Hp) (x0 : Int32) (rf : Option Value) (hf : Hp) : (Int32 × Int32) → Prop := fun s => Go d mX0_allDrops 4 [some (.int x0), some (.int s.1), some (.int s.2)] [] h rf hf
noncomputable def fX0_allDrops_4b (h : Hp) (x0 : Int32) (x1 : Int32) (x2 : Int32) : Option ((Int32 × Int32) ⊕ Int32) :=
  if (4 : Int32) ≤ x2 then (
    some (.inr x1)) else (
    (fX11_dropsOf h x0 x2).bind fun y1 =>
    some (.inl ((x1 + y1), (x2 + Int32.ofInt 1))))
noncomputable def fX0_allDrops_4 (h : Hp) (x0 : Int32) (x1 : Int32) (x2 : Int32) : Option Int32 := lpw (σ := (Int32 × Int32)) (fun s => fX0_allDrops_4b h x0 s.1 s.2) (x1, x2)
theorem oX0_allDrops_4b {d : Nat} (hd : 1 ≤ d) {h : Hp} {x0 : Int32} {x1 : Int32} {x2 : Int32} {rf : Option Value} {hf : Hp} {x : ((Int32 × Int32) ⊕ Int32)} (hs : fX0_allDrops_4b h x0 x1 x2 = some x) (hk : (Kx (pX0_allDrops_4 d h x0 rf hf) (kX0_allDrops h rf hf)) x) : Go d mX0_allDrops 4 [some (.int x0), some (.int x1), some (.int x2)] [] h rf hf := by
  unfold fX0_allDrops_4b at hs
  refine go_iload_n (k4 := 2) rfl dX0_allDrops_4 ?_
  refine go_iconst (v := 4) (by decide) dX0_allDrops_5 ?_
  refine go_icmp_ge (tgt := 23) (by decide) dX0_allDrops_6 (fun c => ?_) (fun c => ?_)
  · have hs := if_t c hs
    refine go_iload_n (k4 := 1) rfl dX0_allDrops_23 ?_
    obtain rfl := Option.some.inj hs
    obtain ⟨rfl, rfl⟩ := hk
    exact go_iret rfl dX0_allDrops_24
  · have hs := if_f c hs
    refine go_iload_n (k4 := 1) rfl dX0_allDrops_9 ?_
    refine go_iload_n (k4 := 0) rfl dX0_allDrops_10 ?_
    refine go_iload_n (k4 := 2) rfl dX0_allDrops_11 ?_
    obtain ⟨y1, ey1, hs⟩ := bindS hs
    refine go_SN1 (As := [.int x0, .int x2]) (st := [.int x1]) (oX11_dropsOf (d := d - 1) (by omega) ey1) (by omega) mb_X11_dropsOf lm_RX0_68 ms_X11_dropsOf (Nat.le_of_ble_eq_true rfl) rfl dX0_allDrops_12 ?_
    refine go_iadd dX0_allDrops_15 ?_
    refine go_istore_n (k4 := 1) (L' := [some (.int x0), some (.int (x1 + y1)), some (.int x2)]) (by decide) rfl dX0_allDrops_16 ?_
    refine go_iinc (L' := [some (.int x0), some (.int (x1 + y1)), some (.int (x2 + Int32.ofInt 1))]) rfl (by decide) rfl rfl dX0_allDrops_17 ?_
    refine go_at 20 rfl ?_
    refine go_goto (tgt := 4) (by decide) dX0_allDrops_20 ?_
    obtain rfl := Option.some.inj hs
    exact go_subL (L' := [some (.int x0), some (.int (x1 + y1)), some (.int (x2 + Int32.ofInt 1))]) (by simp [subL, va_rf]) hk
theorem oX0_allDrops_4 {d : Nat} (hd : 1 ≤ d) {h : Hp} {x0 : Int32} {x1 : Int32} {x2 : Int32} {rf : Option Value} {hf : Hp} {x : Int32} (hs : fX0_allDrops_4 h x0 x1 x2 = some x) (hk : (kX0_allDrops h rf hf) x) : Go d mX0_allDrops 4 [some (.int x0), some (.int x1), some (.int x2)] [] h rf hf := by
  unfold fX0_allDrops_4 at hs
  exact lpw_go (P := pX0_allDrops_4 d h x0 rf hf) (fun s x hs hk => oX0_allDrops_4b hd hs hk) (x1, x2) x hs hk
noncomputable def fX0_allDrops (h : Hp) (x0 : Int32) : Option Int32 :=
  fX0_allDrops_4 h x0 (0 : Int32) (0 : Int32)
theorem oX0_allDrops_0 {d : Nat} (hd : 1 ≤ d) {h : Hp} {x0 : Int32} {rf : Option Value} {hf : Hp} {x : Int32} (hs : fX0_allDrops h x0 = some x) (hk : (kX0_allDrops h rf hf) x) : Go d mX0_allDrops 0 [some (.int x0), none, none] [] h rf hf := by
  unfold fX0_allDrops at hs
  refine go_iconst (v := 0) (by decide) dX0_allDrops_0 ?_
  refine go_istore_n (k4 := 1) (L' := [some (.int x0), some (.int (0 : Int32)), none]) (by decide) rfl dX0_allDrops_1 ?_
  refine go_iconst (v := 0) (by decide) dX0_allDrops_2 ?_
  refine go_istore_n (k4 := 2) (L' := [some (.int x0), some (.int (0 : Int32)), some (.int (0 : Int32))]) (by decide) rfl dX0_allDrops_3 ?_
  exact go_subL (L' := [some (.int x0), some (.int (0 : Int32)), some (.int (0 : Int32))]) (by simp [subL, va_rf]) (oX0_allDrops_4 hd hs hk)
theorem oX0_allDrops {d : Nat} (hd : 1 ≤ d) {h : Hp} {x0 : Int32} {y : Int32} (hs : fX0_allDrops h x0 = some y) : Call d mX0_allDrops [.int x0] h (some (.int y)) h := call_of (by decide +kernel) (Nat.le_of_ble_eq_true rfl) (show Go d mX0_allDrops 0 [some (.int x0), none, none] [] h _ _ from go_subL (by simp [subL]) (oX0_allDrops_0 hd hs ⟨rfl, rfl⟩))
abbrev kJ7_copyOf_59c91 (rf : Option Value) (hf : Hp) : (Nat × Hp) → Prop := fun y => rf = some (.ref y.1) ∧ hf = y.2
noncomputable def fJ7_copyOf_59c91 (h : Hp) (x0 : Nat) (x1 : Int32) : Option (Nat × Hp) :=
  (aL h x0).bind fun v1 =>
  if x1 = v1 then (
    lt h.1 fun a6 =>
    (cln h x0).bind fun h7 =>
    gA h7 a6 (
    some ((a6, h7)))) else (
    lt h.1 fun a3 =>
    (nA 0 h x1).bind fun h2 =>
    (aL h2 x0).bind fun v4 =>
    (acp h2 x0 (0 : Int32) a3 (0 : Int32) (imin v4 x1)).bind fun h5 =>
    some ((a3, h5)))
theorem oJ7_copyOf_59c91_0 {d : Nat} (hd : 1 ≤ d) {h : Hp} {x0 : Nat} {x1 : Int32} {rf : Option Value} {hf : Hp} {x : (Nat × Hp)} (hs : fJ7_copyOf_59c91 h x0 x1 = some x) (hk : (kJ7_copyOf_59c91 rf hf) x) : Go d mJ7_copyOf_59c91 0 [some (.ref x0), some (.int x1), none] [] h rf hf := by
  unfold fJ7_copyOf_59c91 at hs
  refine go_iload_n (k4 := 1) rfl dJ7_copyOf_59c91_0 ?_
  refine go_aload_n (k4 := 0) rfl (Or.inr ⟨_, rfl⟩) dJ7_copyOf_59c91_1 ?_
  obtain ⟨v1, ev1, hs⟩ := bindS hs
  refine go_aL ev1 dJ7_copyOf_59c91_2 ?_
  refine go_icmp_ne (tgt := 14) (by decide) dJ7_copyOf_59c91_3 (fun c => ?_) (fun c => ?_)
  · have hs := if_f c hs
    refine go_iload_n (k4 := 1) rfl dJ7_copyOf_59c91_14 ?_
    obtain ⟨a3, ea3, hs⟩ := lt_at hs
    obtain ⟨h2, eh2, hs⟩ := bindS hs
    refine go_nAi lt_int eh2 dJ7_copyOf_59c91_15 ?_
    rw [← ea3]
    refine go_astore_n (k4 := 2) (L' := [some (.ref x0), some (.int x1), some (.ref a3)]) (by decide) (Or.inr ⟨_, rfl⟩) rfl dJ7_copyOf_59c91_17 ?_
    refine go_aload_n (k4 := 0) rfl (Or.inr ⟨_, rfl⟩) dJ7_copyOf_59c91_18 ?_
    refine go_iconst (v := 0) (by decide) dJ7_copyOf_59c91_19 ?_
    refine go_aload_n (k4 := 2) rfl (Or.inr ⟨_, rfl⟩) dJ7_copyOf_59c91_20 ?_
    refine go_iconst (v := 0) (by decide) dJ7_copyOf_59c91_21 ?_
    refine go_at 22 rfl ?_
    refine go_aload_n (k4 := 0) rfl (Or.inr ⟨_, rfl⟩) dJ7_copyOf_59c91_22 ?_
    obtain ⟨v4, ev4, hs⟩ := bindS hs
    refine go_aL ev4 dJ7_copyOf_59c91_23 ?_
    refine go_iload_n (k4 := 1) rfl dJ7_copyOf_59c91_24 ?_
    refine go_mmin lx_RJ7_304.1 lx_RJ7_304.2.1 lx_RJ7_304.2.2.1 lx_RJ7_304.2.2.2 (by omega) (Nat.le_of_ble_eq_true rfl) dJ7_copyOf_59c91_25 ?_
    obtain ⟨h5, eh5, hs⟩ := bindS hs
    refine go_acp rfl (by omega) eh5 (Nat.le_of_ble_eq_true rfl) dJ7_copyOf_59c91_28 ?_
    refine go_aload_n (k4 := 2) rfl (Or.inr ⟨_, rfl⟩) dJ7_copyOf_59c91_31 ?_
    obtain rfl := Option.some.inj hs
    obtain ⟨rfl, rfl⟩ := hk
    exact go_aret rfl (Or.inr ⟨_, rfl⟩) (Or.inr ⟨_, rfl⟩) dJ7_copyOf_59c91_32
  · have hs := if_t c hs
    refine go_aload_n (k4 := 0) rfl (Or.inr ⟨_, rfl⟩) dJ7_copyOf_59c91_6 ?_
    obtain ⟨a6, ea6, hs⟩ := lt_at hs
    obtain ⟨h7, eh7, hs⟩ := bindS hs
    refine go_cln rfl (by omega) eh7 (Nat.le_of_ble_eq_true rfl) dJ7_copyOf_59c91_7 ?_
    rw [← ea6]
    obtain ⟨g8, hs⟩ := gA_at hs
    refine go_castI rfl g8 dJ7_copyOf_59c91_10 ?_
    obtain rfl := Option.some.inj hs
    obtain ⟨rfl, rfl⟩ := hk
    exact go_aret rfl (Or.inr ⟨_, rfl⟩) (Or.inr ⟨_, rfl⟩) dJ7_copyOf_59c91_13
theorem oJ7_copyOf_59c91 {d : Nat} (hd : 1 ≤ d) {h : Hp} {x0 : Nat} {x1 : Int32} {y : (Nat × Hp)} (hs : fJ7_copyOf_59c91 h x0 x1 = some y) : Call d mJ7_copyOf_59c91 [.ref x0, .int x1] h (some (.ref y.1)) (y.2) := call_of (by decide +kernel) (Nat.le_of_ble_eq_true rfl) (show Go d mJ7_copyOf_59c91 0 [some (.ref x0), some (.int x1), none] [] h _ _ from go_subL (by simp [subL]) (oJ7_copyOf_59c91_0 hd hs ⟨rfl, rfl⟩))
abbrev kX0_listLeadings (rf : Option Value) (hf : Hp) : (Nat × Hp) → Prop := fun y => rf = some (.ref y.1) ∧ hf = y.2
abbrev pX0_listLeadings_43 (d : Nat) (x2 : Nat) (x4 : Int32) (x5 : Int32) (rf : Option Value) (hf : Hp) : (Int32 × Int32 × Hp) → Prop := fun s => Go d mX0_listLeadings 43 [none, none, some (.ref x2), some (.int s.1), some (.int x4), some (.int x5), some (.int s.2.1)] [] s.2.2 rf hf
noncomputable def fX0_listLeadings_80 (h : Hp) (x2 : Nat) (x3 : Int32) : Option (Nat × Hp) :=
  (fJ7_copyOf_59c91 h x2 x3).bind fun y3 =>
  some ((y3.1, y3.2))
theorem oX0_listLeadings_80 {d : Nat} (hd : 2 ≤ d) {h : Hp} {x2 : Nat} {x3 : Int32} {rf : Option Value} {hf : Hp} {x : (Nat × Hp)} (hs : fX0_listLeadings_80 h x2 x3 = some x) (hk : (kX0_listLeadings rf hf) x) : Go d mX0_listLeadings 80 [none, none, some (.ref x2), some (.int x3), none, none, none] [] h rf hf := by
  unfold fX0_listLeadings_80 at hs
  refine go_aload_n (k4 := 2) rfl (Or.inr ⟨_, rfl⟩) dX0_listLeadings_80 ?_
  refine go_iload_n (k4 := 3) rfl dX0_listLeadings_81 ?_
  obtain ⟨y3, ey3, hs⟩ := bindS hs
  refine go_S1 (As := [.ref x2, .int x3]) (st := []) (oJ7_copyOf_59c91 (d := d - 1) (by omega) ey3) (by omega) mb_J7_copyOf_59c91 lm_RX0_81 ms_J7_copyOf_59c91 (Nat.le_of_ble_eq_true rfl) rfl dX0_listLeadings_82 ?_
  obtain rfl := Option.some.inj hs
  obtain ⟨rfl, rfl⟩ := hk
  exact go_aret rfl (Or.inr ⟨_, rfl⟩) (Or.inr ⟨_, rfl⟩) dX0_listLeadings_85
noncomputable def fX0_listLeadings_74 (h : Hp) (x2 : Nat) (x3 : Int32) (x4 : Int32) (x5 : Int32) (x6 : Int32) : Option ((Int32 × Int32 × Hp) ⊕ (Nat × Hp)) :=
  some (.inl (x3, (x6 + Int32.ofInt 1), h))
theorem oX0_listLeadings_74 {d : Nat} (hd : 2 ≤ d) {h : Hp} {x2 : Nat} {x3 : Int32} {x4 : Int32} {x5 : Int32} {x6 : Int32} {rf : Option Value} {hf : Hp} {x : ((Int32 × Int32 × Hp) ⊕ (Nat × Hp))} (hs : fX0_listLeadings_74 h x2 x3 x4 x5 x6 = some x) (hk : (Kx (pX0_listLeadings_43 d x2 x4 x5 rf hf) (kX0_listLeadings rf hf)) x) : Go d mX0_listLeadings 74 [none, none, some (.ref x2), some (.int x3), some (.int x4), some (.int x5), some (.int x6)] [] h rf hf := by
  unfold fX0_listLeadings_74 at hs
  refine go_iinc (L' := [none, none, some (.ref x2), some (.int x3), some (.int x4), some (.int x5), some (.int (x6 + Int32.ofInt 1))]) rfl (by decide) rfl rfl dX0_listLeadings_74 ?_
  refine go_goto (tgt := 43) (by decide) dX0_listLeadings_77 ?_
  obtain rfl := Option.some.inj hs
  exact go_subL (L' := [none, none, some (.ref x2), some (.int x3), some (.int x4), some (.int x5), some (.int (x6 + Int32.ofInt 1))]) (by simp [subL, va_rf]) hk
noncomputable def fX0_listLeadings_43b (h : Hp) (x2 : Nat) (x4 : Int32) (x5 : Int32) (x3 : Int32) (x6 : Int32) : Option ((Int32 × Int32 × Hp) ⊕ (Nat × Hp)) :=
  if x4 ≤ x6 then (
  (fX0_listLeadings_80 h x2 x3).map (fun q => .inr q)) else (
    if (35 : Int32) ≤ x3 then (
    (fX0_listLeadings_80 h x2 x3).map (fun q => .inr q)) else (
      (fX0_allDrops h x6).bind fun y4 =>
      if y4 = x5 then (
        (wI 0 h x2 x3 x6).bind fun h5 =>
        fX0_listLeadings_74 h5 x2 (x3 + Int32.ofInt 1) x4 x5 x6) else (
      fX0_listLeadings_74 h x2 x3 x4 x5 x6)))
noncomputable def fX0_listLeadings_43 (h : Hp) (x2 : Nat) (x3 : Int32) (x4 : Int32) (x5 : Int32) (x6 : Int32) : Option (Nat × Hp) := lpw (σ := (Int32 × Int32 × Hp)) (fun s => fX0_listLeadings_43b s.2.2 x2 x4 x5 s.1 s.2.1) (x3, x6, h)
theorem oX0_listLeadings_43b {d : Nat} (hd : 2 ≤ d) {h : Hp} {x2 : Nat} {x3 : Int32} {x4 : Int32} {x5 : Int32} {x6 : Int32} {rf : Option Value} {hf : Hp} {x : ((Int32 × Int32 × Hp) ⊕ (Nat × Hp))} (hs : fX0_listLeadings_43b h x2 x4 x5 x3 x6 = some x) (hk : (Kx (pX0_listLeadings_43 d x2 x4 x5 rf hf) (kX0_listLeadings rf hf)) x) : Go d mX0_listLeadings 43 [none, none, some (.ref x2), some (.int x3), some (.int x4), some (.int x5), some (.int x6)] [] h rf hf := by
  unfold fX0_listLeadings_43b at hs
  refine go_iload rfl dX0_listLeadings_43 ?_
  refine go_iload rfl dX0_listLeadings_45 ?_
  refine go_icmp_ge (tgt := 80) (by decide) dX0_listLeadings_47 (fun c => ?_) (fun c => ?_)
  · have hs := if_t c hs
    obtain ⟨q, hs2, hq⟩ := mapS hs
    clear hs
    subst hq
    exact go_subL (L' := [none, none, some (.ref x2), some (.int x3), none, none, none]) (by simp [subL, va_rf]) (oX0_listLeadings_80 hd hs2 hk)
  · have hs := if_f c hs
    refine go_iload_n (k4 := 3) rfl dX0_listLeadings_50 ?_
    refine go_bipush (v := 35) (by decide) dX0_listLeadings_51 ?_
    refine go_icmp_ge (tgt := 80) (by decide) dX0_listLeadings_53 (fun c => ?_) (fun c => ?_)
    · have hs := if_t c hs
      obtain ⟨q, hs2, hq⟩ := mapS hs
      clear hs
      subst hq
      exact go_subL (L' := [none, none, some (.ref x2), some (.int x3), none, none, none]) (by simp [subL, va_rf]) (oX0_listLeadings_80 hd hs2 hk)
    · have hs := if_f c hs
      refine go_iload rfl dX0_listLeadings_56 ?_
      obtain ⟨y4, ey4, hs⟩ := bindS hs
      refine go_S1 (As := [.int x6]) (st := []) (oX0_allDrops (d := d - 1) (by omega) ey4) (by omega) mb_X0_allDrops lm_RX0_77 ms_X0_allDrops (Nat.le_of_ble_eq_true rfl) rfl dX0_listLeadings_58 ?_
      refine go_iload rfl dX0_listLeadings_61 ?_
      refine go_icmp_ne (tgt := 74) (by decide) dX0_listLeadings_63 (fun c => ?_) (fun c => ?_)
      · have hs := if_f c hs
        exact go_subL (L' := [none, none, some (.ref x2), some (.int x3), some (.int x4), some (.int x5), some (.int x6)]) (by simp [subL, va_rf]) (oX0_listLeadings_74 hd hs hk)
      · have hs := if_t c hs
        refine go_aload_n (k4 := 2) rfl (Or.inr ⟨_, rfl⟩) dX0_listLeadings_66 ?_
        refine go_iload_n (k4 := 3) rfl dX0_listLeadings_67 ?_
        refine go_iload rfl dX0_listLeadings_68 ?_
        obtain ⟨h5, eh5, hs⟩ := bindS hs
        refine go_wIi eh5 dX0_listLeadings_70 ?_
        refine go_iinc (L' := [none, none, some (.ref x2), some (.int (x3 + Int32.ofInt 1)), some (.int x4), some (.int x5), some (.int x6)]) rfl (by decide) rfl rfl dX0_listLeadings_71 ?_
        exact go_subL (L' := [none, none, some (.ref x2), some (.int (x3 + Int32.ofInt 1)), some (.int x4), some (.int x5), some (.int x6)]) (by simp [subL, va_rf]) (oX0_listLeadings_74 hd hs hk)
theorem oX0_listLeadings_43 {d : Nat} (hd : 2 ≤ d) {h : Hp} {x2 : Nat} {x3 : Int32} {x4 : Int32} {x5 : Int32} {x6 : Int32} {rf : Option Value} {hf : Hp} {x : (Nat × Hp)} (hs : fX0_listLeadings_43 h x2 x3 x4 x5 x6 = some x) (hk : (kX0_listLeadings rf hf) x) : Go d mX0_listLeadings 43 [none, none, some (.ref x2), some (.int x3), some (.int x4), some (.int x5), some (.int x6)] [] h rf hf := by
  unfold fX0_listLeadings_43 at hs
  exact lpw_go (P := pX0_listLeadings_43 d x2 x4 x5 rf hf) (fun s x hs hk => oX0_listLeadings_43b hd hs hk) (x3, x6, h) x hs hk
noncomputable def fX0_listLeadings_38 (h : Hp) (x2 : Nat) (x3 : Int32) (x4 : Int32) (s0 : Int32) : Option (Nat × Hp) :=
  fX0_listLeadings_43 h x2 x3 x4 s0 (0 : Int32)
theorem oX0_listLeadings_38 {d : Nat} (hd : 2 ≤ d) {h : Hp} {x2 : Nat} {x3 : Int32} {x4 : Int32} {s0 : Int32} {rf : Option Value} {hf : Hp} {x : (Nat × Hp)} (hs : fX0_listLeadings_38 h x2 x3 x4 s0 = some x) (hk : (kX0_listLeadings rf hf) x) : Go d mX0_listLeadings 38 [none, none, some (.ref x2), some (.int x3), some (.int x4), none, none] [.int s0] h rf hf := by
  unfold fX0_listLeadings_38 at hs
  refine go_istore (L' := [none, none, some (.ref x2), some (.int x3), some (.int x4), some (.int s0), none]) (by decide) rfl dX0_listLeadings_38 ?_
  refine go_iconst (v := 0) (by decide) dX0_listLeadings_40 ?_
  refine go_istore (L' := [none, none, some (.ref x2), some (.int x3), some (.int x4), some (.int s0), some (.int (0 : Int32))]) (by decide) rfl dX0_listLeadings_41 ?_
  exact go_subL (L' := [none, none, some (.ref x2), some (.int x3), some (.int x4), some (.int s0), some (.int (0 : Int32))]) (by simp [subL, va_rf]) (oX0_listLeadings_43 hd hs hk)
noncomputable def fX0_listLeadings_27 (h : Hp) (x0 : Int32) (x1 : Int32) (x2 : Nat) (x3 : Int32) (s0 : Int32) : Option (Nat × Hp) :=
  if x0 ≤ 0 then (
    fX0_listLeadings_38 h x2 x3 s0 (0 : Int32)) else (
    fX0_listLeadings_38 h x2 x3 s0 x1)
theorem oX0_listLeadings_27 {d : Nat} (hd : 2 ≤ d) {h : Hp} {x0 : Int32} {x1 : Int32} {x2 : Nat} {x3 : Int32} {s0 : Int32} {rf : Option Value} {hf : Hp} {x : (Nat × Hp)} (hs : fX0_listLeadings_27 h x0 x1 x2 x3 s0 = some x) (hk : (kX0_listLeadings rf hf) x) : Go d mX0_listLeadings 27 [some (.int x0), some (.int x1), some (.ref x2), some (.int x3), none, none, none] [.int s0] h rf hf := by
  unfold fX0_listLeadings_27 at hs
  refine go_istore (L' := [some (.int x0), some (.int x1), some (.ref x2), some (.int x3), some (.int s0), none, none]) (by decide) rfl dX0_listLeadings_27 ?_
  refine go_iload_n (k4 := 0) rfl dX0_listLeadings_29 ?_
  refine go_if_le (tgt := 37) (by decide) dX0_listLeadings_30 (fun c => ?_) (fun c => ?_)
  · have hs := if_t c hs
    refine go_iconst (v := 0) (by decide) dX0_listLeadings_37 ?_
    exact go_subL (L' := [none, none, some (.ref x2), some (.int x3), some (.int s0), none, none]) (by simp [subL, va_rf]) (oX0_listLeadings_38 hd hs hk)
  · have hs := if_f c hs
    refine go_iload_n (k4 := 1) rfl dX0_listLeadings_33 ?_
    refine go_goto (tgt := 38) (by decide) dX0_listLeadings_34 ?_
    exact go_subL (L' := [none, none, some (.ref x2), some (.int x3), some (.int s0), none, none]) (by simp [subL, va_rf]) (oX0_listLeadings_38 hd hs hk)
noncomputable def fX0_listLeadings (h : Hp) (x0 : Int32) (x1 : Int32) : Option (Nat × Hp) :=
  lt h.1 fun a2 =>
  (nA 0 h (35 : Int32)).bind fun h1 =>
  if (4 : Int32) ≤ x0 then (
    fX0_listLeadings_27 h1 x0 x1 a2 (0 : Int32) (625 : Int32)) else (
    (tT 2 (imax x0 (0 : Int32))).bind fun v6 =>
    fX0_listLeadings_27 h1 x0 x1 a2 (0 : Int32) v6)
theorem oX0_listLeadings_0 {d : Nat} (hd : 2 ≤ d) {h : Hp} {x0 : Int32} {x1 : Int32} {rf : Option Value} {hf : Hp} {x : (Nat × Hp)} (hs : fX0_listLeadings h x0 x1 = some x) (hk : (kX0_listLeadings rf hf) x) : Go d mX0_listLeadings 0 [some (.int x0), some (.int x1), none, none, none, none, none] [] h rf hf := by
  unfold fX0_listLeadings at hs
  refine go_bipush (v := 35) (by decide) dX0_listLeadings_0 ?_
  obtain ⟨a2, ea2, hs⟩ := lt_at hs
  obtain ⟨h1, eh1, hs⟩ := bindS hs
  refine go_nAi lt_int eh1 dX0_listLeadings_2 ?_
  rw [← ea2]
  refine go_astore_n (k4 := 2) (L' := [some (.int x0), some (.int x1), some (.ref a2), none, none, none, none]) (by decide) (Or.inr ⟨_, rfl⟩) rfl dX0_listLeadings_4 ?_
  refine go_iconst (v := 0) (by decide) dX0_listLeadings_5 ?_
  refine go_istore_n (k4 := 3) (L' := [some (.int x0), some (.int x1), some (.ref a2), some (.int (0 : Int32)), none, none, none]) (by decide) rfl dX0_listLeadings_6 ?_
  refine go_iload_n (k4 := 0) rfl dX0_listLeadings_7 ?_
  refine go_iconst (v := 4) (by decide) dX0_listLeadings_8 ?_
  refine go_at 9 rfl ?_
  refine go_icmp_ge (tgt := 24) (by decide) dX0_listLeadings_9 (fun c => ?_) (fun c => ?_)
  · have hs := if_t c hs
    refine go_sipush (v := 625) (by decide) dX0_listLeadings_24 ?_
    exact go_subL (L' := [some (.int x0), some (.int x1), some (.ref a2), some (.int (0 : Int32)), none, none, none]) (by simp [subL, va_rf]) (oX0_listLeadings_27 hd hs hk)
  · have hs := if_f c hs
    refine go_statN (j := 2) rfl lz_RX0_71.1 lz_RX0_71.2.1 lz_RX0_71.2.2 dX0_listLeadings_12 ?_
    refine go_iload_n (k4 := 0) rfl dX0_listLeadings_15 ?_
    refine go_iconst (v := 0) (by decide) dX0_listLeadings_16 ?_
    refine go_mmax lx_RX0_74.1 lx_RX0_74.2.1 lx_RX0_74.2.2.1 lx_RX0_74.2.2.2 (by omega) (Nat.le_of_ble_eq_true rfl) dX0_listLeadings_17 ?_
    obtain ⟨v6, ev6, hs⟩ := bindS hs
    refine go_tT (by decide) ev6 dX0_listLeadings_20 ?_
    refine go_goto (tgt := 27) (by decide) dX0_listLeadings_21 ?_
    exact go_subL (L' := [some (.int x0), some (.int x1), some (.ref a2), some (.int (0 : Int32)), none, none, none]) (by simp [subL, va_rf]) (oX0_listLeadings_27 hd hs hk)
theorem oX0_listLeadings {d : Nat} (hd : 2 ≤ d) {h : Hp} {x0 : Int32} {x1 : Int32} {y : (Nat × Hp)} (hs : fX0_listLeadings h x0 x1 = some y) : Call d mX0_listLeadings [.int x0, .int x1] h (some (.ref y.1)) (y.2) := call_of (by decide +kernel) (Nat.le_of_ble_eq_true rfl) (show Go d mX0_listLeadings 0 [some (.int x0), some (.int x1), none, none, none, none, none] [] h _ _ from go_subL (by simp [subL]) (oX0_listLeadings_0 hd hs ⟨rfl, rfl⟩))
abbrev kX0_init (rf : Option Value) (hf : Hp) : Hp → Prop := fun y => rf = none ∧ hf = y
abbrev pX0_init_142 (d : Nat) (x0 : Nat) (rf : Option Value) (hf : Hp) : (Int32 × Hp) → Prop := fun s => Go d mX0_init 142 [some (.ref x0), none, none, some (.int s.1), none] [] s.2 rf hf
noncomputable def fX0_init_142b (h : Hp) (x0 : Nat) (x3 : Int32) : Option ((Int32 × Hp) ⊕ Hp) :=
  (gN h 0 x0 10).bind fun v30 =>
  (aL h v30).bind fun v31 =>
  if v31 ≤ x3 then (
    some (.inr h)) else (
    (rm x3 (4 : Int32)).bind fun v32 =>
    (gN h 0 x0 10).bind fun v33 =>
    (gN h 0 x0 9).bind fun v34 =>
    (dv x3 (4 : Int32)).bind fun v35 =>
    (aI 0 h v34 v35).bind fun v36 =>
    (fX11_dropsOf h v36 v32).bind fun y37 =>
    (wI 0 h v33 x3 ((v32 * (5 : Int32)) + y37)).bind fun h38 =>
    some (.inl ((x3 + Int32.ofInt 1), h38)))
noncomputable def fX0_init_142 (h : Hp) (x0 : Nat) (x3 : Int32) : Option Hp := lpw (σ := (Int32 × Hp)) (fun s => fX0_init_142b s.2 x0 s.1) (x3, h)
theorem oX0_init_142b {d : Nat} (hd : 3 ≤ d) {h : Hp} {x0 : Nat} {x3 : Int32} {rf : Option Value} {hf : Hp} {x : ((Int32 × Hp) ⊕ Hp)} (hs : fX0_init_142b h x0 x3 = some x) (hk : (Kx (pX0_init_142 d x0 rf hf) (kX0_init rf hf)) x) : Go d mX0_init 142 [some (.ref x0), none, none, some (.int x3), none] [] h rf hf := by
  unfold fX0_init_142b at hs
  refine go_iload_n (k4 := 3) rfl dX0_init_142 ?_
  refine go_aload_n (k4 := 0) rfl (Or.inr ⟨_, rfl⟩) dX0_init_143 ?_
  obtain ⟨v30, ev30, hs⟩ := bindS hs
  refine go_gN fl_RX0_65 ev30 dX0_init_144 ?_
  obtain ⟨v31, ev31, hs⟩ := bindS hs
  refine go_aL ev31 dX0_init_147 ?_
  refine go_icmp_ge (tgt := 186) (by decide) dX0_init_148 (fun c => ?_) (fun c => ?_)
  · have hs := if_t c hs
    obtain rfl := Option.some.inj hs
    obtain ⟨rfl, rfl⟩ := hk
    exact go_vret rfl dX0_init_186
  · have hs := if_f c hs
    refine go_iload_n (k4 := 3) rfl dX0_init_151 ?_
    refine go_iconst (v := 4) (by decide) dX0_init_152 ?_
    obtain ⟨v32, ev32, hs⟩ := bindS hs
    refine go_rm ev32 dX0_init_153 ?_
    refine go_istore (L' := [some (.ref x0), none, none, some (.int x3), some (.int v32)]) (by decide) rfl dX0_init_154 ?_
    refine go_aload_n (k4 := 0) rfl (Or.inr ⟨_, rfl⟩) dX0_init_156 ?_
    obtain ⟨v33, ev33, hs⟩ := bindS hs
    refine go_gN fl_RX0_65 ev33 dX0_init_157 ?_
    refine go_iload_n (k4 := 3) rfl dX0_init_160 ?_
    refine go_at 161 rfl ?_
    refine go_iload rfl dX0_init_161 ?_
    refine go_iconst (v := 5) (by decide) dX0_init_163 ?_
    refine go_imul dX0_init_164 ?_
    refine go_aload_n (k4 := 0) rfl (Or.inr ⟨_, rfl⟩) dX0_init_165 ?_
    obtain ⟨v34, ev34, hs⟩ := bindS hs
    refine go_gN fl_RX0_61 ev34 dX0_init_166 ?_
    refine go_iload_n (k4 := 3) rfl dX0_init_169 ?_
    refine go_iconst (v := 4) (by decide) dX0_init_170 ?_
    obtain ⟨v35, ev35, hs⟩ := bindS hs
    refine go_dv ev35 dX0_init_171 ?_
    refine go_at 172 rfl ?_
    obtain ⟨v36, ev36, hs⟩ := bindS hs
    refine go_aIi ev36 dX0_init_172 ?_
    refine go_iload rfl dX0_init_173 ?_
    obtain ⟨y37, ey37, hs⟩ := bindS hs
    refine go_SN1 (As := [.int v36, .int v32]) (st := [.int (v32 * (5 : Int32)), .int x3, .ref v33]) (oX11_dropsOf (d := d - 1) (by omega) ey37) (by omega) mb_X11_dropsOf lm_RX0_68 ms_X11_dropsOf (Nat.le_of_ble_eq_true rfl) rfl dX0_init_175 ?_
    refine go_iadd dX0_init_178 ?_
    obtain ⟨h38, eh38, hs⟩ := bindS hs
    refine go_wIi eh38 dX0_init_179 ?_
    refine go_iinc (L' := [some (.ref x0), none, none, some (.int (x3 + Int32.ofInt 1)), some (.int v32)]) rfl (by decide) rfl rfl dX0_init_180 ?_
    refine go_goto (tgt := 142) (by decide) dX0_init_183 ?_
    obtain rfl := Option.some.inj hs
    exact go_subL (L' := [some (.ref x0), none, none, some (.int (x3 + Int32.ofInt 1)), none]) (by simp [subL, va_rf]) hk
theorem oX0_init_142 {d : Nat} (hd : 3 ≤ d) {h : Hp} {x0 : Nat} {x3 : Int32} {rf : Option Value} {hf : Hp} {x : Hp} (hs : fX0_init_142 h x0 x3 = some x) (hk : (kX0_init rf hf) x) : Go d mX0_init 142 [some (.ref x0), none, none, some (.int x3), none] [] h rf hf := by
  unfold fX0_init_142 at hs
  exact lpw_go (P := pX0_init_142 d x0 rf hf) (fun s x hs hk => oX0_init_142b hd hs hk) (x3, h) x hs hk
noncomputable def fX0_init_109 (h : Hp) (x0 : Nat) (s0 : Nat) (s1 : Int32) : Option Hp :=
  (sV h 0 s0 6 (.int s1)).bind fun h20 =>
  (gI h20 0 x0 0).bind fun v21 =>
  (gI h20 0 x0 1).bind fun v22 =>
  (fX0_listLeadings h20 v21 v22).bind fun y23 =>
  (sV y23.2 0 x0 9 (.ref y23.1)).bind fun h24 =>
  (gN h24 0 x0 9).bind fun v25 =>
  (aL h24 v25).bind fun v26 =>
  lt h24.1 fun a28 =>
  (nA 0 h24 (v26 * (4 : Int32))).bind fun h27 =>
  (sV h27 0 x0 10 (.ref a28)).bind fun h29 =>
  fX0_init_142 h29 x0 (0 : Int32)
theorem oX0_init_109 {d : Nat} (hd : 3 ≤ d) {h : Hp} {x0 : Nat} {s0 : Nat} {s1 : Int32} {rf : Option Value} {hf : Hp} {x : Hp} (hs : fX0_init_109 h x0 s0 s1 = some x) (hk : (kX0_init rf hf) x) : Go d mX0_init 109 [some (.ref x0), none, none, none, none] [.int s1, .ref s0] h rf hf := by
  unfold fX0_init_109 at hs
  obtain ⟨h20, eh20, hs⟩ := bindS hs
  refine go_sVF ff_RX0_56 rfl eh20 rfl rfl dX0_init_109 ?_
  refine go_aload_n (k4 := 0) rfl (Or.inr ⟨_, rfl⟩) dX0_init_112 ?_
  refine go_aload_n (k4 := 0) rfl (Or.inr ⟨_, rfl⟩) dX0_init_113 ?_
  obtain ⟨v21, ev21, hs⟩ := bindS hs
  refine go_gI fl_RX0_21 ev21 dX0_init_114 ?_
  refine go_aload_n (k4 := 0) rfl (Or.inr ⟨_, rfl⟩) dX0_init_117 ?_
  obtain ⟨v22, ev22, hs⟩ := bindS hs
  refine go_gI fl_RX0_27 ev22 dX0_init_118 ?_
  obtain ⟨y23, ey23, hs⟩ := bindS hs
  refine go_S1 (As := [.int v21, .int v22]) (st := [.ref x0]) (oX0_listLeadings (d := d - 1) (by omega) ey23) (by omega) mb_X0_listLeadings lm_RX0_57 ms_X0_listLeadings (Nat.le_of_ble_eq_true rfl) rfl dX0_init_121 ?_
  refine go_at 124 rfl ?_
  obtain ⟨h24, eh24, hs⟩ := bindS hs
  refine go_sVF ff_RX0_61 rfl eh24 rfl rfl dX0_init_124 ?_
  refine go_aload_n (k4 := 0) rfl (Or.inr ⟨_, rfl⟩) dX0_init_127 ?_
  refine go_aload_n (k4 := 0) rfl (Or.inr ⟨_, rfl⟩) dX0_init_128 ?_
  obtain ⟨v25, ev25, hs⟩ := bindS hs
  refine go_gN fl_RX0_61 ev25 dX0_init_129 ?_
  obtain ⟨v26, ev26, hs⟩ := bindS hs
  refine go_aL ev26 dX0_init_132 ?_
  refine go_iconst (v := 4) (by decide) dX0_init_133 ?_
  refine go_imul dX0_init_134 ?_
  obtain ⟨a28, ea28, hs⟩ := lt_at hs
  obtain ⟨h27, eh27, hs⟩ := bindS hs
  refine go_nAi lt_int eh27 dX0_init_135 ?_
  rw [← ea28]
  refine go_at 137 rfl ?_
  obtain ⟨h29, eh29, hs⟩ := bindS hs
  refine go_sVF ff_RX0_65 rfl eh29 rfl rfl dX0_init_137 ?_
  refine go_iconst (v := 0) (by decide) dX0_init_140 ?_
  refine go_istore_n (k4 := 3) (L' := [some (.ref x0), none, none, some (.int (0 : Int32)), none]) (by decide) rfl dX0_init_141 ?_
  exact go_subL (L' := [some (.ref x0), none, none, some (.int (0 : Int32)), none]) (by simp [subL, va_rf]) (oX0_init_142 hd hs hk)
noncomputable def fX0_init_91 (h : Hp) (x0 : Nat) (x1 : Nat) (s0 : Int32) : Option Hp :=
  (gI h 4 x1 13).bind fun v18 =>
  if v18 = (-1 : Int32) then (
    fX0_init_109 h x0 x0 s0) else (
    (gI h 4 x1 13).bind fun v19 =>
    fX0_init_109 h x0 x0 v19)
theorem oX0_init_91 {d : Nat} (hd : 3 ≤ d) {h : Hp} {x0 : Nat} {x1 : Nat} {s0 : Int32} {rf : Option Value} {hf : Hp} {x : Hp} (hs : fX0_init_91 h x0 x1 s0 = some x) (hk : (kX0_init rf hf) x) : Go d mX0_init 91 [some (.ref x0), some (.ref x1), none, none, none] [.int s0] h rf hf := by
  unfold fX0_init_91 at hs
  refine go_istore_n (k4 := 2) (L' := [some (.ref x0), some (.ref x1), some (.int s0), none, none]) (by decide) rfl dX0_init_91 ?_
  refine go_aload_n (k4 := 0) rfl (Or.inr ⟨_, rfl⟩) dX0_init_92 ?_
  refine go_aload_n (k4 := 1) rfl (Or.inr ⟨_, rfl⟩) dX0_init_93 ?_
  obtain ⟨v18, ev18, hs⟩ := bindS hs
  refine go_gI fl_RX0_53 ev18 dX0_init_94 ?_
  refine go_iconst (v := -1) (by decide) dX0_init_97 ?_
  refine go_icmp_ne (tgt := 105) (by decide) dX0_init_98 (fun c => ?_) (fun c => ?_)
  · have hs := if_f c hs
    refine go_aload_n (k4 := 1) rfl (Or.inr ⟨_, rfl⟩) dX0_init_105 ?_
    obtain ⟨v19, ev19, hs⟩ := bindS hs
    refine go_gI fl_RX0_53 ev19 dX0_init_106 ?_
    exact go_subL (L' := [some (.ref x0), none, none, none, none]) (by simp [subL, va_rf]) (oX0_init_109 hd hs hk)
  · have hs := if_t c hs
    refine go_iload_n (k4 := 2) rfl dX0_init_101 ?_
    refine go_goto (tgt := 109) (by decide) dX0_init_102 ?_
    exact go_subL (L' := [some (.ref x0), none, none, none, none]) (by simp [subL, va_rf]) (oX0_init_109 hd hs hk)
noncomputable def fX0_init (h : Hp) (x0 : Nat) (x1 : Nat) : Option Hp :=
  (gI h 4 x1 8).bind fun v1 =>
  (sV h 0 x0 0 (.int (imin v1 (4 : Int32)))).bind fun h2 =>
  (gI h2 4 x1 9).bind fun v3 =>
  (sV h2 0 x0 1 (.int (imin v3 (4 : Int32)))).bind fun h4 =>
  (gI h4 4 x1 10).bind fun v5 =>
  (sV h4 0 x0 2 (.int v5)).bind fun h6 =>
  (gI h6 4 x1 7).bind fun v7 =>
  (sV h6 0 x0 3 (.int v7)).bind fun h8 =>
  (gI h8 4 x1 11).bind fun v9 =>
  (sV h8 0 x0 4 (.int v9)).bind fun h10 =>
  (gI h10 4 x1 12).bind fun v11 =>
  (sV h10 0 x0 5 (.int v11)).bind fun h12 =>
  (gR h12 4 x1 14).bind fun v13 =>
  (sV h12 0 x0 7 (va_rf v13)).bind fun h14 =>
  (gR h14 4 x1 15).bind fun v15 =>
  (sV h14 0 x0 8 (va_rf v15)).bind fun h16 =>
  (gI h16 0 x0 0).bind fun v17 =>
  if v17 ≤ 0 then (
    fX0_init_91 h16 x0 x1 (0 : Int32)) else (
    (gI h16 0 x0 1).bind fun v39 =>
    fX0_init_91 h16 x0 x1 v39)
theorem oX0_init_0 {d : Nat} (hd : 3 ≤ d) {h : Hp} {x0 : Nat} {x1 : Nat} {rf : Option Value} {hf : Hp} {x : Hp} (hs : fX0_init h x0 x1 = some x) (hk : (kX0_init rf hf) x) : Go d mX0_init 0 [some (.ref x0), some (.ref x1), none, none, none] [] h rf hf := by
  unfold fX0_init at hs
  refine go_aload_n (k4 := 0) rfl (Or.inr ⟨_, rfl⟩) dX0_init_0 ?_
  refine go_objInit lo_RX0_3.1 lo_RX0_3.2.1 lo_RX0_3.2.2 (by omega) (Nat.le_of_ble_eq_true rfl) dX0_init_1 ?_
  refine go_aload_n (k4 := 0) rfl (Or.inr ⟨_, rfl⟩) dX0_init_4 ?_
  refine go_aload_n (k4 := 1) rfl (Or.inr ⟨_, rfl⟩) dX0_init_5 ?_
  obtain ⟨v1, ev1, hs⟩ := bindS hs
  refine go_gI fl_RX0_9 ev1 dX0_init_6 ?_
  refine go_iconst (v := 4) (by decide) dX0_init_9 ?_
  refine go_mmin lx_RX0_15.1 lx_RX0_15.2.1 lx_RX0_15.2.2.1 lx_RX0_15.2.2.2 (by omega) (Nat.le_of_ble_eq_true rfl) dX0_init_10 ?_
  refine go_at 13 rfl ?_
  obtain ⟨h2, eh2, hs⟩ := bindS hs
  refine go_sVF ff_RX0_21 rfl eh2 rfl rfl dX0_init_13 ?_
  refine go_aload_n (k4 := 0) rfl (Or.inr ⟨_, rfl⟩) dX0_init_16 ?_
  refine go_aload_n (k4 := 1) rfl (Or.inr ⟨_, rfl⟩) dX0_init_17 ?_
  obtain ⟨v3, ev3, hs⟩ := bindS hs
  refine go_gI fl_RX0_24 ev3 dX0_init_18 ?_
  refine go_iconst (v := 4) (by decide) dX0_init_21 ?_
  refine go_mmin lx_RX0_15.1 lx_RX0_15.2.1 lx_RX0_15.2.2.1 lx_RX0_15.2.2.2 (by omega) (Nat.le_of_ble_eq_true rfl) dX0_init_22 ?_
  obtain ⟨h4, eh4, hs⟩ := bindS hs
  refine go_sVF ff_RX0_27 rfl eh4 rfl rfl dX0_init_25 ?_
  refine go_aload_n (k4 := 0) rfl (Or.inr ⟨_, rfl⟩) dX0_init_28 ?_
  refine go_at 29 rfl ?_
  refine go_aload_n (k4 := 1) rfl (Or.inr ⟨_, rfl⟩) dX0_init_29 ?_
  obtain ⟨v5, ev5, hs⟩ := bindS hs
  refine go_gI fl_RX0_28 ev5 dX0_init_30 ?_
  obtain ⟨h6, eh6, hs⟩ := bindS hs
  refine go_sVF ff_RX0_31 rfl eh6 rfl rfl dX0_init_33 ?_
  refine go_aload_n (k4 := 0) rfl (Or.inr ⟨_, rfl⟩) dX0_init_36 ?_
  refine go_aload_n (k4 := 1) rfl (Or.inr ⟨_, rfl⟩) dX0_init_37 ?_
  obtain ⟨v7, ev7, hs⟩ := bindS hs
  refine go_gI fl_RX0_32 ev7 dX0_init_38 ?_
  obtain ⟨h8, eh8, hs⟩ := bindS hs
  refine go_sVF ff_RX0_35 rfl eh8 rfl rfl dX0_init_41 ?_
  refine go_aload_n (k4 := 0) rfl (Or.inr ⟨_, rfl⟩) dX0_init_44 ?_
  refine go_at 45 rfl ?_
  refine go_aload_n (k4 := 1) rfl (Or.inr ⟨_, rfl⟩) dX0_init_45 ?_
  obtain ⟨v9, ev9, hs⟩ := bindS hs
  refine go_gI fl_RX0_36 ev9 dX0_init_46 ?_
  obtain ⟨h10, eh10, hs⟩ := bindS hs
  refine go_sVF ff_RX0_39 rfl eh10 rfl rfl dX0_init_49 ?_
  refine go_aload_n (k4 := 0) rfl (Or.inr ⟨_, rfl⟩) dX0_init_52 ?_
  refine go_aload_n (k4 := 1) rfl (Or.inr ⟨_, rfl⟩) dX0_init_53 ?_
  obtain ⟨v11, ev11, hs⟩ := bindS hs
  refine go_gI fl_RX0_40 ev11 dX0_init_54 ?_
  obtain ⟨h12, eh12, hs⟩ := bindS hs
  refine go_sVF ff_RX0_43 rfl eh12 rfl rfl dX0_init_57 ?_
  refine go_aload_n (k4 := 0) rfl (Or.inr ⟨_, rfl⟩) dX0_init_60 ?_
  refine go_at 61 rfl ?_
  refine go_aload_n (k4 := 1) rfl (Or.inr ⟨_, rfl⟩) dX0_init_61 ?_
  obtain ⟨v13, ev13, hs⟩ := bindS hs
  refine go_gR fl_RX0_44 ev13 dX0_init_62 ?_
  obtain ⟨h14, eh14, hs⟩ := bindS hs
  refine go_sVF ff_RX0_48 rfl eh14 (by cases v13 <;> rfl) (by cases v13 <;> rfl) dX0_init_65 ?_
  refine go_aload_n (k4 := 0) rfl (Or.inr ⟨_, rfl⟩) dX0_init_68 ?_
  refine go_aload_n (k4 := 1) rfl (Or.inr ⟨_, rfl⟩) dX0_init_69 ?_
  obtain ⟨v15, ev15, hs⟩ := bindS hs
  refine go_gR fl_RX0_49 ev15 dX0_init_70 ?_
  obtain ⟨h16, eh16, hs⟩ := bindS hs
  refine go_sVF ff_RX0_52 rfl eh16 (by cases v15 <;> rfl) (by cases v15 <;> rfl) dX0_init_73 ?_
  refine go_aload_n (k4 := 0) rfl (Or.inr ⟨_, rfl⟩) dX0_init_76 ?_
  refine go_at 77 rfl ?_
  obtain ⟨v17, ev17, hs⟩ := bindS hs
  refine go_gI fl_RX0_21 ev17 dX0_init_77 ?_
  refine go_if_le (tgt := 90) (by decide) dX0_init_80 (fun c => ?_) (fun c => ?_)
  · have hs := if_t c hs
    refine go_iconst (v := 0) (by decide) dX0_init_90 ?_
    exact go_subL (L' := [some (.ref x0), some (.ref x1), none, none, none]) (by simp [subL, va_rf]) (oX0_init_91 hd hs hk)
  · have hs := if_f c hs
    refine go_aload_n (k4 := 0) rfl (Or.inr ⟨_, rfl⟩) dX0_init_83 ?_
    obtain ⟨v39, ev39, hs⟩ := bindS hs
    refine go_gI fl_RX0_27 ev39 dX0_init_84 ?_
    refine go_goto (tgt := 91) (by decide) dX0_init_87 ?_
    exact go_subL (L' := [some (.ref x0), some (.ref x1), none, none, none]) (by simp [subL, va_rf]) (oX0_init_91 hd hs hk)
theorem oX0_init {d : Nat} (hd : 3 ≤ d) {h : Hp} {x0 : Nat} {x1 : Nat} {y : Hp} (hs : fX0_init h x0 x1 = some y) : Call d mX0_init [.ref x0, .ref x1] h (none) y := call_of (by decide +kernel) (Nat.le_of_ble_eq_true rfl) (show Go d mX0_init 0 [some (.ref x0), some (.ref x1), none, none, none] [] h _ _ from go_subL (by simp [subL]) (oX0_init_0 hd hs ⟨rfl, rfl⟩))
abbrev kX8_init (rf : Option Value) (hf : Hp) : Hp → Prop := fun y => rf = none ∧ hf = y
noncomputable def fX8_init (h : Hp) (x0 : Nat) : Option Hp :=
  (sV h 8 x0 0 (.int (0 : Int32))).bind fun h1 =>
  (sV h1 8 x0 1 (.int (0 : Int32))).bind fun h2 =>
  (sV h2 8 x0 2 (.int (0 : Int32))).bind fun h3 =>
  (sV h3 8 x0 3 (.int (0 : Int32))).bind fun h4 =>
  some (h4)
theorem oX8_init_0 {d : Nat} (hd : 1 ≤ d) {h : Hp} {x0 : Nat} {rf : Option Value} {hf : Hp} {x : Hp} (hs : fX8_init h x0 = some x) (hk : (kX8_init rf hf) x) : Go d mX8_init 0 [some (.ref x0)] [] h rf hf := by
  unfold fX8_init at hs
  refine go_aload_n (k4 := 0) rfl (Or.inr ⟨_, rfl⟩) dX8_init_0 ?_
  refine go_objInit lo_RX8_1.1 lo_RX8_1.2.1 lo_RX8_1.2.2 (by omega) (Nat.le_of_ble_eq_true rfl) dX8_init_1 ?_
  refine go_aload_n (k4 := 0) rfl (Or.inr ⟨_, rfl⟩) dX8_init_4 ?_
  refine go_iconst (v := 0) (by decide) dX8_init_5 ?_
  obtain ⟨h1, eh1, hs⟩ := bindS hs
  refine go_sV fw_RX8_7 eh1 rfl rfl dX8_init_6 ?_
  refine go_aload_n (k4 := 0) rfl (Or.inr ⟨_, rfl⟩) dX8_init_9 ?_
  refine go_iconst (v := 0) (by decide) dX8_init_10 ?_
  refine go_at 11 rfl ?_
  obtain ⟨h2, eh2, hs⟩ := bindS hs
  refine go_sV fw_RX8_13 eh2 rfl rfl dX8_init_11 ?_
  refine go_aload_n (k4 := 0) rfl (Or.inr ⟨_, rfl⟩) dX8_init_14 ?_
  refine go_iconst (v := 0) (by decide) dX8_init_15 ?_
  obtain ⟨h3, eh3, hs⟩ := bindS hs
  refine go_sV fw_RX8_16 eh3 rfl rfl dX8_init_16 ?_
  refine go_aload_n (k4 := 0) rfl (Or.inr ⟨_, rfl⟩) dX8_init_19 ?_
  refine go_iconst (v := 0) (by decide) dX8_init_20 ?_
  obtain ⟨h4, eh4, hs⟩ := bindS hs
  refine go_sV fw_RX8_19 eh4 rfl rfl dX8_init_21 ?_
  obtain rfl := Option.some.inj hs
  obtain ⟨rfl, rfl⟩ := hk
  exact go_vret rfl dX8_init_24
theorem oX8_init {d : Nat} (hd : 1 ≤ d) {h : Hp} {x0 : Nat} {y : Hp} (hs : fX8_init h x0 = some y) : Call d mX8_init [.ref x0] h (none) y := call_of (by decide +kernel) (Nat.le_of_ble_eq_true rfl) (show Go d mX8_init 0 [some (.ref x0)] [] h _ _ from go_subL (by simp [subL]) (oX8_init_0 hd hs ⟨rfl, rfl⟩))
abbrev kX5_init (rf : Option Value) (hf : Hp) : Hp → Prop := fun y => rf = none ∧ hf = y
abbrev pX5_init_25 (d : Nat) (x0 : Nat) (rf : Option Value) (hf : Hp) : (Int32 × Hp) → Prop := fun s => Go d mX5_init 25 [some (.ref x0), some (.int s.1)] [] s.2 rf hf
noncomputable def fX5_init_25b (h : Hp) (x0 : Nat) (x1 : Int32) : Option ((Int32 × Hp) ⊕ Hp) :=
  if (10 : Int32) ≤ x1 then (
    some (.inr h)) else (
    (gN h 5 x0 0).bind fun v6 =>
    lt h.1 fun a7 =>
    lt (nO h 8 4) fun h8 =>
    (fX8_init h8 a7).bind fun y9 =>
    (wR 4 8 y9 v6 x1 a7).bind fun h10 =>
    some (.inl ((x1 + Int32.ofInt 1), h10)))
noncomputable def fX5_init_25 (h : Hp) (x0 : Nat) (x1 : Int32) : Option Hp := lpw (σ := (Int32 × Hp)) (fun s => fX5_init_25b s.2 x0 s.1) (x1, h)
theorem oX5_init_25b {d : Nat} (hd : 2 ≤ d) {h : Hp} {x0 : Nat} {x1 : Int32} {rf : Option Value} {hf : Hp} {x : ((Int32 × Hp) ⊕ Hp)} (hs : fX5_init_25b h x0 x1 = some x) (hk : (Kx (pX5_init_25 d x0 rf hf) (kX5_init rf hf)) x) : Go d mX5_init 25 [some (.ref x0), some (.int x1)] [] h rf hf := by
  unfold fX5_init_25b at hs
  refine go_iload_n (k4 := 1) rfl dX5_init_25 ?_
  refine go_bipush (v := 10) (by decide) dX5_init_26 ?_
  refine go_icmp_ge (tgt := 50) (by decide) dX5_init_28 (fun c => ?_) (fun c => ?_)
  · have hs := if_t c hs
    obtain rfl := Option.some.inj hs
    obtain ⟨rfl, rfl⟩ := hk
    exact go_vret rfl dX5_init_50
  · have hs := if_f c hs
    refine go_aload_n (k4 := 0) rfl (Or.inr ⟨_, rfl⟩) dX5_init_31 ?_
    obtain ⟨v6, ev6, hs⟩ := bindS hs
    refine go_gN fl_RX5_11 ev6 dX5_init_32 ?_
    refine go_iload_n (k4 := 1) rfl dX5_init_35 ?_
    obtain ⟨a7, ea7, hs⟩ := lt_at hs
    obtain ⟨h8, eh8, hs⟩ := lt_at hs
    refine go_nO (ci := 8) rfl ln_RX5_9.1 ln_RX5_9.2.1 ln_RX5_9.2.2 dX5_init_36 ?_
    rw [← ea7]
    refine go_hp eh8.symm ?_
    refine go_dup rfl dX5_init_39 ?_
    obtain ⟨y9, ey9, hs⟩ := bindS hs
    refine go_IN0 (As := []) (st := [.ref a7, .int x1, .ref v6]) rfl rfl (oX8_init (d := d - 1) (by omega) ey9) (by omega) mb_X8_init lm_RX5_24 mi_X8_init (Nat.le_of_ble_eq_true rfl) rfl dX5_init_40 ?_
    obtain ⟨h10, eh10, hs⟩ := bindS hs
    refine go_wR (by decide) rfl rfl eh10 dX5_init_43 ?_
    refine go_at 44 rfl ?_
    refine go_iinc (L' := [some (.ref x0), some (.int (x1 + Int32.ofInt 1))]) rfl (by decide) rfl rfl dX5_init_44 ?_
    refine go_goto (tgt := 25) (by decide) dX5_init_47 ?_
    obtain rfl := Option.some.inj hs
    exact go_subL (L' := [some (.ref x0), some (.int (x1 + Int32.ofInt 1))]) (by simp [subL, va_rf]) hk
theorem oX5_init_25 {d : Nat} (hd : 2 ≤ d) {h : Hp} {x0 : Nat} {x1 : Int32} {rf : Option Value} {hf : Hp} {x : Hp} (hs : fX5_init_25 h x0 x1 = some x) (hk : (kX5_init rf hf) x) : Go d mX5_init 25 [some (.ref x0), some (.int x1)] [] h rf hf := by
  unfold fX5_init_25 at hs
  exact lpw_go (P := pX5_init_25 d x0 rf hf) (fun s x hs hk => oX5_init_25b hd hs hk) (x1, h) x hs hk
noncomputable def fX5_init (h : Hp) (x0 : Nat) : Option Hp :=
  lt h.1 fun a2 =>
  (nA 4 h (10 : Int32)).bind fun h1 =>
  (sV h1 5 x0 0 (.ref a2)).bind fun h3 =>
  (sV h3 5 x0 1 (.int (0 : Int32))).bind fun h4 =>
  (sV h4 5 x0 2 (.int (0 : Int32))).bind fun h5 =>
  fX5_init_25 h5 x0 (0 : Int32)
theorem oX5_init_0 {d : Nat} (hd : 2 ≤ d) {h : Hp} {x0 : Nat} {rf : Option Value} {hf : Hp} {x : Hp} (hs : fX5_init h x0 = some x) (hk : (kX5_init rf hf) x) : Go d mX5_init 0 [some (.ref x0), none] [] h rf hf := by
  unfold fX5_init at hs
  refine go_aload_n (k4 := 0) rfl (Or.inr ⟨_, rfl⟩) dX5_init_0 ?_
  refine go_objInit lo_RX5_3.1 lo_RX5_3.2.1 lo_RX5_3.2.2 (by omega) (Nat.le_of_ble_eq_true rfl) dX5_init_1 ?_
  refine go_aload_n (k4 := 0) rfl (Or.inr ⟨_, rfl⟩) dX5_init_4 ?_
  refine go_bipush (v := 10) (by decide) dX5_init_5 ?_
  obtain ⟨a2, ea2, hs⟩ := lt_at hs
  obtain ⟨h1, eh1, hs⟩ := bindS hs
  refine go_nAr (t := 4) (by decide) rfl la_RX5_9.1 la_RX5_9.2 eh1 dX5_init_7 ?_
  rw [← ea2]
  obtain ⟨h3, eh3, hs⟩ := bindS hs
  refine go_sVF ff_RX5_11 rfl eh3 rfl rfl dX5_init_10 ?_
  refine go_aload_n (k4 := 0) rfl (Or.inr ⟨_, rfl⟩) dX5_init_13 ?_
  refine go_at 14 rfl ?_
  refine go_iconst (v := 0) (by decide) dX5_init_14 ?_
  obtain ⟨h4, eh4, hs⟩ := bindS hs
  refine go_sV fw_RX5_17 eh4 rfl rfl dX5_init_15 ?_
  refine go_aload_n (k4 := 0) rfl (Or.inr ⟨_, rfl⟩) dX5_init_18 ?_
  refine go_iconst (v := 0) (by decide) dX5_init_19 ?_
  obtain ⟨h5, eh5, hs⟩ := bindS hs
  refine go_sV fw_RX5_21 eh5 rfl rfl dX5_init_20 ?_
  refine go_iconst (v := 0) (by decide) dX5_init_23 ?_
  refine go_istore_n (k4 := 1) (L' := [some (.ref x0), some (.int (0 : Int32))]) (by decide) rfl dX5_init_24 ?_
  exact go_subL (L' := [some (.ref x0), some (.int (0 : Int32))]) (by simp [subL, va_rf]) (oX5_init_25 hd hs hk)
theorem oX5_init {d : Nat} (hd : 2 ≤ d) {h : Hp} {x0 : Nat} {y : Hp} (hs : fX5_init h x0 = some y) : Call d mX5_init [.ref x0] h (none) y := call_of (by decide +kernel) (Nat.le_of_ble_eq_true rfl) (show Go d mX5_init 0 [some (.ref x0), none] [] h _ _ from go_subL (by simp [subL]) (oX5_init_0 hd hs ⟨rfl, rfl⟩))
abbrev kX1_init (rf : Option Value) (hf : Hp) : Hp → Prop := fun y => rf = none ∧ hf = y
noncomputable def fX1_init (h : Hp) (x0 : Nat) (x1 : Nat) : Option Hp :=
  lt h.1 fun a2 =>
  (nA 0 h (8 : Int32)).bind fun h1 =>
  (sV h1 1 x0 0 (.ref a2)).bind fun h3 =>
  lt h3.1 fun a5 =>
  (nA 0 h3 (64 : Int32)).bind fun h4 =>
  (sV h4 1 x0 1 (.ref a5)).bind fun h6 =>
  lt h6.1 fun a8 =>
  (nA 1 h6 (2000 : Int32)).bind fun h7 =>
  (sV h7 1 x0 2 (.ref a8)).bind fun h9 =>
  lt h9.1 fun a11 =>
  (nA 1 h9 (20000 : Int32)).bind fun h10 =>
  (sV h10 1 x0 3 (.ref a11)).bind fun h12 =>
  lt h12.1 fun a14 =>
  (nA 0 h12 (20 : Int32)).bind fun h13 =>
  (sV h13 1 x0 4 (.ref a14)).bind fun h15 =>
  (sV h15 1 x0 6 (.int (0 : Int32))).bind fun h16 =>
  (sV h16 1 x0 5 (.ref x1)).bind fun h17 =>
  some (h17)
theorem oX1_init_0 {d : Nat} (hd : 1 ≤ d) {h : Hp} {x0 : Nat} {x1 : Nat} {rf : Option Value} {hf : Hp} {x : Hp} (hs : fX1_init h x0 x1 = some x) (hk : (kX1_init rf hf) x) : Go d mX1_init 0 [some (.ref x0), some (.ref x1)] [] h rf hf := by
  unfold fX1_init at hs
  refine go_aload_n (k4 := 0) rfl (Or.inr ⟨_, rfl⟩) dX1_init_0 ?_
  refine go_objInit lo_RX1_3.1 lo_RX1_3.2.1 lo_RX1_3.2.2 (by omega) (Nat.le_of_ble_eq_true rfl) dX1_init_1 ?_
  refine go_aload_n (k4 := 0) rfl (Or.inr ⟨_, rfl⟩) dX1_init_4 ?_
  refine go_bipush (v := 8) (by decide) dX1_init_5 ?_
  obtain ⟨a2, ea2, hs⟩ := lt_at hs
  obtain ⟨h1, eh1, hs⟩ := bindS hs
  refine go_nAi lt_int eh1 dX1_init_7 ?_
  rw [← ea2]
  obtain ⟨h3, eh3, hs⟩ := bindS hs
  refine go_sVF ff_RX1_11 rfl eh3 rfl rfl dX1_init_9 ?_
  refine go_aload_n (k4 := 0) rfl (Or.inr ⟨_, rfl⟩) dX1_init_12 ?_
  refine go_at 13 rfl ?_
  refine go_bipush (v := 64) (by decide) dX1_init_13 ?_
  obtain ⟨a5, ea5, hs⟩ := lt_at hs
  obtain ⟨h4, eh4, hs⟩ := bindS hs
  refine go_nAi lt_int eh4 dX1_init_15 ?_
  rw [← ea5]
  obtain ⟨h6, eh6, hs⟩ := bindS hs
  refine go_sVF ff_RX1_17 rfl eh6 rfl rfl dX1_init_17 ?_
  refine go_aload_n (k4 := 0) rfl (Or.inr ⟨_, rfl⟩) dX1_init_20 ?_
  refine go_sipush (v := 2000) (by decide) dX1_init_21 ?_
  obtain ⟨a8, ea8, hs⟩ := lt_at hs
  obtain ⟨h7, eh7, hs⟩ := bindS hs
  refine go_nAb lt_byte eh7 dX1_init_24 ?_
  rw [← ea8]
  obtain ⟨h9, eh9, hs⟩ := bindS hs
  refine go_sVF ff_RX1_20 rfl eh9 rfl rfl dX1_init_26 ?_
  refine go_aload_n (k4 := 0) rfl (Or.inr ⟨_, rfl⟩) dX1_init_29 ?_
  refine go_at 30 rfl ?_
  refine go_sipush (v := 20000) (by decide) dX1_init_30 ?_
  obtain ⟨a11, ea11, hs⟩ := lt_at hs
  obtain ⟨h10, eh10, hs⟩ := bindS hs
  refine go_nAb lt_byte eh10 dX1_init_33 ?_
  rw [← ea11]
  obtain ⟨h12, eh12, hs⟩ := bindS hs
  refine go_sVF ff_RX1_24 rfl eh12 rfl rfl dX1_init_35 ?_
  refine go_aload_n (k4 := 0) rfl (Or.inr ⟨_, rfl⟩) dX1_init_38 ?_
  refine go_bipush (v := 20) (by decide) dX1_init_39 ?_
  obtain ⟨a14, ea14, hs⟩ := lt_at hs
  obtain ⟨h13, eh13, hs⟩ := bindS hs
  refine go_nAi lt_int eh13 dX1_init_41 ?_
  rw [← ea14]
  obtain ⟨h15, eh15, hs⟩ := bindS hs
  refine go_sVF ff_RX1_27 rfl eh15 rfl rfl dX1_init_43 ?_
  refine go_aload_n (k4 := 0) rfl (Or.inr ⟨_, rfl⟩) dX1_init_46 ?_
  refine go_at 47 rfl ?_
  refine go_iconst (v := 0) (by decide) dX1_init_47 ?_
  obtain ⟨h16, eh16, hs⟩ := bindS hs
  refine go_sV fw_RX1_30 eh16 rfl rfl dX1_init_48 ?_
  refine go_aload_n (k4 := 0) rfl (Or.inr ⟨_, rfl⟩) dX1_init_51 ?_
  refine go_aload_n (k4 := 1) rfl (Or.inr ⟨_, rfl⟩) dX1_init_52 ?_
  obtain ⟨h17, eh17, hs⟩ := bindS hs
  refine go_sV fw_RX1_34 eh17 rfl rfl dX1_init_53 ?_
  obtain rfl := Option.some.inj hs
  obtain ⟨rfl, rfl⟩ := hk
  exact go_vret rfl dX1_init_56
theorem oX1_init {d : Nat} (hd : 1 ≤ d) {h : Hp} {x0 : Nat} {x1 : Nat} {y : Hp} (hs : fX1_init h x0 x1 = some y) : Call d mX1_init [.ref x0, .ref x1] h (none) y := call_of (by decide +kernel) (Nat.le_of_ble_eq_true rfl) (show Go d mX1_init 0 [some (.ref x0), some (.ref x1)] [] h _ _ from go_subL (by simp [subL]) (oX1_init_0 hd hs ⟨rfl, rfl⟩))
abbrev kX10_init (rf : Option Value) (hf : Hp) : Hp → Prop := fun y => rf = none ∧ hf = y
noncomputable def fX10_init (h : Hp) (x0 : Nat) (x1 : Nat) : Option Hp :=
  (sV h 10 x0 1 (.int (0 : Int32))).bind fun h1 =>
  (sV h1 10 x0 2 (.int (0 : Int32))).bind fun h2 =>
  (sV h2 10 x0 3 (.int (0 : Int32))).bind fun h3 =>
  (sV h3 10 x0 4 (.int (0 : Int32))).bind fun h4 =>
  (sV h4 10 x0 5 (.int (0 : Int32))).bind fun h5 =>
  (sV h5 10 x0 6 (.int (1 : Int32))).bind fun h6 =>
  (sV h6 10 x0 0 (.ref x1)).bind fun h7 =>
  some (h7)
theorem oX10_init_0 {d : Nat} (hd : 1 ≤ d) {h : Hp} {x0 : Nat} {x1 : Nat} {rf : Option Value} {hf : Hp} {x : Hp} (hs : fX10_init h x0 x1 = some x) (hk : (kX10_init rf hf) x) : Go d mX10_init 0 [some (.ref x0), some (.ref x1)] [] h rf hf := by
  unfold fX10_init at hs
  refine go_aload_n (k4 := 0) rfl (Or.inr ⟨_, rfl⟩) dX10_init_0 ?_
  refine go_objInit lo_RX10_3.1 lo_RX10_3.2.1 lo_RX10_3.2.2 (by omega) (Nat.le_of_ble_eq_true rfl) dX10_init_1 ?_
  refine go_aload_n (k4 := 0) rfl (Or.inr ⟨_, rfl⟩) dX10_init_4 ?_
  refine go_iconst (v := 0) (by decide) dX10_init_5 ?_
  obtain ⟨h1, eh1, hs⟩ := bindS hs
  refine go_sV fw_RX10_9 eh1 rfl rfl dX10_init_6 ?_
  refine go_aload_n (k4 := 0) rfl (Or.inr ⟨_, rfl⟩) dX10_init_9 ?_
  refine go_iconst (v := 0) (by decide) dX10_init_10 ?_
  refine go_at 11 rfl ?_
  obtain ⟨h2, eh2, hs⟩ := bindS hs
  refine go_sV fw_RX10_15 eh2 rfl rfl dX10_init_11 ?_
  refine go_aload_n (k4 := 0) rfl (Or.inr ⟨_, rfl⟩) dX10_init_14 ?_
  refine go_iconst (v := 0) (by decide) dX10_init_15 ?_
  obtain ⟨h3, eh3, hs⟩ := bindS hs
  refine go_sV fw_RX10_18 eh3 rfl rfl dX10_init_16 ?_
  refine go_aload_n (k4 := 0) rfl (Or.inr ⟨_, rfl⟩) dX10_init_19 ?_
  refine go_iconst (v := 0) (by decide) dX10_init_20 ?_
  obtain ⟨h4, eh4, hs⟩ := bindS hs
  refine go_sV fw_RX10_21 eh4 rfl rfl dX10_init_21 ?_
  refine go_aload_n (k4 := 0) rfl (Or.inr ⟨_, rfl⟩) dX10_init_24 ?_
  refine go_at 25 rfl ?_
  refine go_iconst (v := 0) (by decide) dX10_init_25 ?_
  obtain ⟨h5, eh5, hs⟩ := bindS hs
  refine go_sV fw_RX10_24 eh5 rfl rfl dX10_init_26 ?_
  refine go_aload_n (k4 := 0) rfl (Or.inr ⟨_, rfl⟩) dX10_init_29 ?_
  refine go_iconst (v := 1) (by decide) dX10_init_30 ?_
  obtain ⟨h6, eh6, hs⟩ := bindS hs
  refine go_sV fw_RX10_27 eh6 rfl rfl dX10_init_31 ?_
  refine go_aload_n (k4 := 0) rfl (Or.inr ⟨_, rfl⟩) dX10_init_34 ?_
  refine go_aload_n (k4 := 1) rfl (Or.inr ⟨_, rfl⟩) dX10_init_35 ?_
  obtain ⟨h7, eh7, hs⟩ := bindS hs
  refine go_sVF ff_RX10_30 rfl eh7 rfl rfl dX10_init_36 ?_
  refine go_at 39 rfl ?_
  obtain rfl := Option.some.inj hs
  obtain ⟨rfl, rfl⟩ := hk
  exact go_vret rfl dX10_init_39
theorem oX10_init {d : Nat} (hd : 1 ≤ d) {h : Hp} {x0 : Nat} {x1 : Nat} {y : Hp} (hs : fX10_init h x0 x1 = some y) : Call d mX10_init [.ref x0, .ref x1] h (none) y := call_of (by decide +kernel) (Nat.le_of_ble_eq_true rfl) (show Go d mX10_init 0 [some (.ref x0), some (.ref x1)] [] h _ _ from go_subL (by simp [subL]) (oX10_init_0 hd hs ⟨rfl, rfl⟩))
abbrev kX2_init (rf : Option Value) (hf : Hp) : Hp → Prop := fun y => rf = none ∧ hf = y
noncomputable def fX2_init (h : Hp) (x0 : Nat) (x1 : Nat) : Option Hp :=
  (sV h 2 x0 1 (.int (0 : Int32))).bind fun h1 =>
  (sV h1 2 x0 2 (.int (0 : Int32))).bind fun h2 =>
  (sV h2 2 x0 3 (.int (0 : Int32))).bind fun h3 =>
  (sV h3 2 x0 4 (.int (0 : Int32))).bind fun h4 =>
  (sV h4 2 x0 5 (.int (0 : Int32))).bind fun h5 =>
  (sV h5 2 x0 6 (.int (0 : Int32))).bind fun h6 =>
  (sV h6 2 x0 7 (.int (0 : Int32))).bind fun h7 =>
  (sV h7 2 x0 8 (.long (0 : Int64))).bind fun h8 =>
  (sV h8 2 x0 9 (.long (0 : Int64))).bind fun h9 =>
  (sV h9 2 x0 10 (.long (0 : Int64))).bind fun h10 =>
  (sV h10 2 x0 11 (.long (0 : Int64))).bind fun h11 =>
  (sV h11 2 x0 0 (.ref x1)).bind fun h12 =>
  some (h12)
theorem oX2_init_0 {d : Nat} (hd : 1 ≤ d) {h : Hp} {x0 : Nat} {x1 : Nat} {rf : Option Value} {hf : Hp} {x : Hp} (hs : fX2_init h x0 x1 = some x) (hk : (kX2_init rf hf) x) : Go d mX2_init 0 [some (.ref x0), some (.ref x1)] [] h rf hf := by
  unfold fX2_init at hs
  refine go_aload_n (k4 := 0) rfl (Or.inr ⟨_, rfl⟩) dX2_init_0 ?_
  refine go_objInit lo_RX2_3.1 lo_RX2_3.2.1 lo_RX2_3.2.2 (by omega) (Nat.le_of_ble_eq_true rfl) dX2_init_1 ?_
  refine go_aload_n (k4 := 0) rfl (Or.inr ⟨_, rfl⟩) dX2_init_4 ?_
  refine go_iconst (v := 0) (by decide) dX2_init_5 ?_
  obtain ⟨h1, eh1, hs⟩ := bindS hs
  refine go_sV fw_RX2_9 eh1 rfl rfl dX2_init_6 ?_
  refine go_aload_n (k4 := 0) rfl (Or.inr ⟨_, rfl⟩) dX2_init_9 ?_
  refine go_iconst (v := 0) (by decide) dX2_init_10 ?_
  refine go_at 11 rfl ?_
  obtain ⟨h2, eh2, hs⟩ := bindS hs
  refine go_sV fw_RX2_15 eh2 rfl rfl dX2_init_11 ?_
  refine go_aload_n (k4 := 0) rfl (Or.inr ⟨_, rfl⟩) dX2_init_14 ?_
  refine go_iconst (v := 0) (by decide) dX2_init_15 ?_
  obtain ⟨h3, eh3, hs⟩ := bindS hs
  refine go_sV fw_RX2_18 eh3 rfl rfl dX2_init_16 ?_
  refine go_aload_n (k4 := 0) rfl (Or.inr ⟨_, rfl⟩) dX2_init_19 ?_
  refine go_iconst (v := 0) (by decide) dX2_init_20 ?_
  obtain ⟨h4, eh4, hs⟩ := bindS hs
  refine go_sV fw_RX2_21 eh4 rfl rfl dX2_init_21 ?_
  refine go_aload_n (k4 := 0) rfl (Or.inr ⟨_, rfl⟩) dX2_init_24 ?_
  refine go_at 25 rfl ?_
  refine go_iconst (v := 0) (by decide) dX2_init_25 ?_
  obtain ⟨h5, eh5, hs⟩ := bindS hs
  refine go_sV fw_RX2_24 eh5 rfl rfl dX2_init_26 ?_
  refine go_aload_n (k4 := 0) rfl (Or.inr ⟨_, rfl⟩) dX2_init_29 ?_
  refine go_iconst (v := 0) (by decide) dX2_init_30 ?_
  obtain ⟨h6, eh6, hs⟩ := bindS hs
  refine go_sV fw_RX2_27 eh6 rfl rfl dX2_init_31 ?_
  refine go_aload_n (k4 := 0) rfl (Or.inr ⟨_, rfl⟩) dX2_init_34 ?_
  refine go_iconst (v := 0) (by decide) dX2_init_35 ?_
  obtain ⟨h7, eh7, hs⟩ := bindS hs
  refine go_sV fw_RX2_30 eh7 rfl rfl dX2_init_36 ?_
  refine go_at 39 rfl ?_
  refine go_aload_n (k4 := 0) rfl (Or.inr ⟨_, rfl⟩) dX2_init_39 ?_
  refine go_lconst (v := 0) (by decide) dX2_init_40 ?_
  obtain ⟨h8, eh8, hs⟩ := bindS hs
  refine go_sV fw_RX2_33 eh8 rfl rfl dX2_init_41 ?_
  refine go_aload_n (k4 := 0) rfl (Or.inr ⟨_, rfl⟩) dX2_init_44 ?_
  refine go_lconst (v := 0) (by decide) dX2_init_45 ?_
  obtain ⟨h9, eh9, hs⟩ := bindS hs
  refine go_sV fw_RX2_37 eh9 rfl rfl dX2_init_46 ?_
  refine go_aload_n (k4 := 0) rfl (Or.inr ⟨_, rfl⟩) dX2_init_49 ?_
  refine go_lconst (v := 0) (by decide) dX2_init_50 ?_
  refine go_at 51 rfl ?_
  obtain ⟨h10, eh10, hs⟩ := bindS hs
  refine go_sV fw_RX2_40 eh10 rfl rfl dX2_init_51 ?_
  refine go_aload_n (k4 := 0) rfl (Or.inr ⟨_, rfl⟩) dX2_init_54 ?_
  refine go_lconst (v := 0) (by decide) dX2_init_55 ?_
  obtain ⟨h11, eh11, hs⟩ := bindS hs
  refine go_sV fw_RX2_43 eh11 rfl rfl dX2_init_56 ?_
  refine go_aload_n (k4 := 0) rfl (Or.inr ⟨_, rfl⟩) dX2_init_59 ?_
  refine go_aload_n (k4 := 1) rfl (Or.inr ⟨_, rfl⟩) dX2_init_60 ?_
  obtain ⟨h12, eh12, hs⟩ := bindS hs
  refine go_sVF ff_RX2_46 rfl eh12 rfl rfl dX2_init_61 ?_
  obtain rfl := Option.some.inj hs
  obtain ⟨rfl, rfl⟩ := hk
  exact go_vret rfl dX2_init_64
theorem oX2_init {d : Nat} (hd : 1 ≤ d) {h : Hp} {x0 : Nat} {x1 : Nat} {y : Hp} (hs : fX2_init h x0 x1 = some y) : Call d mX2_init [.ref x0, .ref x1] h (none) y := call_of (by decide +kernel) (Nat.le_of_ble_eq_true rfl) (show Go d mX2_init 0 [some (.ref x0), some (.ref x1)] [] h _ _ from go_subL (by simp [subL]) (oX2_init_0 hd hs ⟨rfl, rfl⟩))
abbrev kX7_init (rf : Option Value) (hf : Hp) : Hp → Prop := fun y => rf = none ∧ hf = y
noncomputable def fX7_init (h : Hp) (x0 : Nat) (x1 : Nat) (x2 : Nat) : Option Hp :=
  (sV h 7 x0 2 (.int (0 : Int32))).bind fun h1 =>
  lt h1.1 fun a3 =>
  (nA 0 h1 (20000 : Int32)).bind fun h2 =>
  (sV h2 7 x0 3 (.ref a3)).bind fun h4 =>
  (sV h4 7 x0 4 (.int (0 : Int32))).bind fun h5 =>
  lt h5.1 fun a7 =>
  (nA 0 h5 (20000 : Int32)).bind fun h6 =>
  (sV h6 7 x0 5 (.ref a7)).bind fun h8 =>
  lt h8.1 fun a10 =>
  (nA 0 h8 (20000 : Int32)).bind fun h9 =>
  (sV h9 7 x0 6 (.ref a10)).bind fun h11 =>
  lt h11.1 fun a13 =>
  (nA 0 h11 (20000 : Int32)).bind fun h12 =>
  (sV h12 7 x0 7 (.ref a13)).bind fun h14 =>
  lt h14.1 fun a16 =>
  (nA 2 h14 (20000 : Int32)).bind fun h15 =>
  (sV h15 7 x0 8 (.ref a16)).bind fun h17 =>
  lt h17.1 fun a19 =>
  (nA 0 h17 (35 : Int32)).bind fun h18 =>
  (sV h18 7 x0 9 (.ref a19)).bind fun h20 =>
  lt h20.1 fun a22 =>
  (nA 0 h20 (35 : Int32)).bind fun h21 =>
  (sV h21 7 x0 10 (.ref a22)).bind fun h23 =>
  lt h23.1 fun a25 =>
  (nA 0 h23 (10 : Int32)).bind fun h24 =>
  (sV h24 7 x0 11 (.ref a25)).bind fun h26 =>
  (sV h26 7 x0 12 (.int (0 : Int32))).bind fun h27 =>
  (sV h27 7 x0 13 (.int (0 : Int32))).bind fun h28 =>
  (sV h28 7 x0 14 (.int (0 : Int32))).bind fun h29 =>
  (sV h29 7 x0 15 (.int (0 : Int32))).bind fun h30 =>
  (sV h30 7 x0 16 (.int (-1 : Int32))).bind fun h31 =>
  (sV h31 7 x0 0 (.ref x1)).bind fun h32 =>
  (sV h32 7 x0 1 (.ref x2)).bind fun h33 =>
  some (h33)
theorem oX7_init_0 {d : Nat} (hd : 1 ≤ d) {h : Hp} {x0 : Nat} {x1 : Nat} {x2 : Nat} {rf : Option Value} {hf : Hp} {x : Hp} (hs : fX7_init h x0 x1 x2 = some x) (hk : (kX7_init rf hf) x) : Go d mX7_init 0 [some (.ref x0), some (.ref x1), some (.ref x2)] [] h rf hf := by
  unfold fX7_init at hs
  refine go_aload_n (k4 := 0) rfl (Or.inr ⟨_, rfl⟩) dX7_init_0 ?_
  refine go_objInit lo_RX7_3.1 lo_RX7_3.2.1 lo_RX7_3.2.2 (by omega) (Nat.le_of_ble_eq_true rfl) dX7_init_1 ?_
  refine go_aload_n (k4 := 0) rfl (Or.inr ⟨_, rfl⟩) dX7_init_4 ?_
  refine go_iconst (v := 0) (by decide) dX7_init_5 ?_
  obtain ⟨h1, eh1, hs⟩ := bindS hs
  refine go_sV fw_RX7_9 eh1 rfl rfl dX7_init_6 ?_
  refine go_aload_n (k4 := 0) rfl (Or.inr ⟨_, rfl⟩) dX7_init_9 ?_
  refine go_sipush (v := 20000) (by decide) dX7_init_10 ?_
  refine go_at 13 rfl ?_
  obtain ⟨a3, ea3, hs⟩ := lt_at hs
  obtain ⟨h2, eh2, hs⟩ := bindS hs
  refine go_nAi lt_int eh2 dX7_init_13 ?_
  rw [← ea3]
  obtain ⟨h4, eh4, hs⟩ := bindS hs
  refine go_sVF ff_RX7_15 rfl eh4 rfl rfl dX7_init_15 ?_
  refine go_aload_n (k4 := 0) rfl (Or.inr ⟨_, rfl⟩) dX7_init_18 ?_
  refine go_iconst (v := 0) (by decide) dX7_init_19 ?_
  obtain ⟨h5, eh5, hs⟩ := bindS hs
  refine go_sV fw_RX7_19 eh5 rfl rfl dX7_init_20 ?_
  refine go_aload_n (k4 := 0) rfl (Or.inr ⟨_, rfl⟩) dX7_init_23 ?_
  refine go_sipush (v := 20000) (by decide) dX7_init_24 ?_
  obtain ⟨a7, ea7, hs⟩ := lt_at hs
  obtain ⟨h6, eh6, hs⟩ := bindS hs
  refine go_nAi lt_int eh6 dX7_init_27 ?_
  rw [← ea7]
  refine go_at 29 rfl ?_
  obtain ⟨h8, eh8, hs⟩ := bindS hs
  refine go_sVF ff_RX7_22 rfl eh8 rfl rfl dX7_init_29 ?_
  refine go_aload_n (k4 := 0) rfl (Or.inr ⟨_, rfl⟩) dX7_init_32 ?_
  refine go_sipush (v := 20000) (by decide) dX7_init_33 ?_
  obtain ⟨a10, ea10, hs⟩ := lt_at hs
  obtain ⟨h9, eh9, hs⟩ := bindS hs
  refine go_nAi lt_int eh9 dX7_init_36 ?_
  rw [← ea10]
  obtain ⟨h11, eh11, hs⟩ := bindS hs
  refine go_sVF ff_RX7_25 rfl eh11 rfl rfl dX7_init_38 ?_
  refine go_aload_n (k4 := 0) rfl (Or.inr ⟨_, rfl⟩) dX7_init_41 ?_
  refine go_sipush (v := 20000) (by decide) dX7_init_42 ?_
  obtain ⟨a13, ea13, hs⟩ := lt_at hs
  obtain ⟨h12, eh12, hs⟩ := bindS hs
  refine go_nAi lt_int eh12 dX7_init_45 ?_
  rw [← ea13]
  refine go_at 47 rfl ?_
  obtain ⟨h14, eh14, hs⟩ := bindS hs
  refine go_sVF ff_RX7_28 rfl eh14 rfl rfl dX7_init_47 ?_
  refine go_aload_n (k4 := 0) rfl (Or.inr ⟨_, rfl⟩) dX7_init_50 ?_
  refine go_sipush (v := 20000) (by decide) dX7_init_51 ?_
  obtain ⟨a16, ea16, hs⟩ := lt_at hs
  obtain ⟨h15, eh15, hs⟩ := bindS hs
  refine go_nAl lt_long eh15 dX7_init_54 ?_
  rw [← ea16]
  obtain ⟨h17, eh17, hs⟩ := bindS hs
  refine go_sVF ff_RX7_31 rfl eh17 rfl rfl dX7_init_56 ?_
  refine go_aload_n (k4 := 0) rfl (Or.inr ⟨_, rfl⟩) dX7_init_59 ?_
  refine go_bipush (v := 35) (by decide) dX7_init_60 ?_
  obtain ⟨a19, ea19, hs⟩ := lt_at hs
  obtain ⟨h18, eh18, hs⟩ := bindS hs
  refine go_nAi lt_int eh18 dX7_init_62 ?_
  rw [← ea19]
  refine go_at 64 rfl ?_
  obtain ⟨h20, eh20, hs⟩ := bindS hs
  refine go_sVF ff_RX7_35 rfl eh20 rfl rfl dX7_init_64 ?_
  refine go_aload_n (k4 := 0) rfl (Or.inr ⟨_, rfl⟩) dX7_init_67 ?_
  refine go_bipush (v := 35) (by decide) dX7_init_68 ?_
  obtain ⟨a22, ea22, hs⟩ := lt_at hs
  obtain ⟨h21, eh21, hs⟩ := bindS hs
  refine go_nAi lt_int eh21 dX7_init_70 ?_
  rw [← ea22]
  obtain ⟨h23, eh23, hs⟩ := bindS hs
  refine go_sVF ff_RX7_38 rfl eh23 rfl rfl dX7_init_72 ?_
  refine go_aload_n (k4 := 0) rfl (Or.inr ⟨_, rfl⟩) dX7_init_75 ?_
  refine go_bipush (v := 10) (by decide) dX7_init_76 ?_
  obtain ⟨a25, ea25, hs⟩ := lt_at hs
  obtain ⟨h24, eh24, hs⟩ := bindS hs
  refine go_nAi lt_int eh24 dX7_init_78 ?_
  rw [← ea25]
  refine go_at 80 rfl ?_
  obtain ⟨h26, eh26, hs⟩ := bindS hs
  refine go_sVF ff_RX7_41 rfl eh26 rfl rfl dX7_init_80 ?_
  refine go_aload_n (k4 := 0) rfl (Or.inr ⟨_, rfl⟩) dX7_init_83 ?_
  refine go_iconst (v := 0) (by decide) dX7_init_84 ?_
  obtain ⟨h27, eh27, hs⟩ := bindS hs
  refine go_sV fw_RX7_44 eh27 rfl rfl dX7_init_85 ?_
  refine go_aload_n (k4 := 0) rfl (Or.inr ⟨_, rfl⟩) dX7_init_88 ?_
  refine go_iconst (v := 0) (by decide) dX7_init_89 ?_
  obtain ⟨h28, eh28, hs⟩ := bindS hs
  refine go_sV fw_RX7_47 eh28 rfl rfl dX7_init_90 ?_
  refine go_aload_n (k4 := 0) rfl (Or.inr ⟨_, rfl⟩) dX7_init_93 ?_
  refine go_at 94 rfl ?_
  refine go_iconst (v := 0) (by decide) dX7_init_94 ?_
  obtain ⟨h29, eh29, hs⟩ := bindS hs
  refine go_sV fw_RX7_51 eh29 rfl rfl dX7_init_95 ?_
  refine go_aload_n (k4 := 0) rfl (Or.inr ⟨_, rfl⟩) dX7_init_98 ?_
  refine go_iconst (v := 0) (by decide) dX7_init_99 ?_
  obtain ⟨h30, eh30, hs⟩ := bindS hs
  refine go_sV fw_RX7_54 eh30 rfl rfl dX7_init_100 ?_
  refine go_aload_n (k4 := 0) rfl (Or.inr ⟨_, rfl⟩) dX7_init_103 ?_
  refine go_iconst (v := -1) (by decide) dX7_init_104 ?_
  obtain ⟨h31, eh31, hs⟩ := bindS hs
  refine go_sV fw_RX7_57 eh31 rfl rfl dX7_init_105 ?_
  refine go_at 108 rfl ?_
  refine go_aload_n (k4 := 0) rfl (Or.inr ⟨_, rfl⟩) dX7_init_108 ?_
  refine go_aload_n (k4 := 1) rfl (Or.inr ⟨_, rfl⟩) dX7_init_109 ?_
  obtain ⟨h32, eh32, hs⟩ := bindS hs
  refine go_sVF ff_RX7_60 rfl eh32 rfl rfl dX7_init_110 ?_
  refine go_aload_n (k4 := 0) rfl (Or.inr ⟨_, rfl⟩) dX7_init_113 ?_
  refine go_aload_n (k4 := 2) rfl (Or.inr ⟨_, rfl⟩) dX7_init_114 ?_
  obtain ⟨h33, eh33, hs⟩ := bindS hs
  refine go_sV fw_RX7_64 eh33 rfl rfl dX7_init_115 ?_
  obtain rfl := Option.some.inj hs
  obtain ⟨rfl, rfl⟩ := hk
  exact go_vret rfl dX7_init_118
theorem oX7_init {d : Nat} (hd : 1 ≤ d) {h : Hp} {x0 : Nat} {x1 : Nat} {x2 : Nat} {y : Hp} (hs : fX7_init h x0 x1 x2 = some y) : Call d mX7_init [.ref x0, .ref x1, .ref x2] h (none) y := call_of (by decide +kernel) (Nat.le_of_ble_eq_true rfl) (show Go d mX7_init 0 [some (.ref x0), some (.ref x1), some (.ref x2)] [] h _ _ from go_subL (by simp [subL]) (oX7_init_0 hd hs ⟨rfl, rfl⟩))
abbrev kX9_init (rf : Option Value) (hf : Hp) : Hp → Prop := fun y => rf = none ∧ hf = y
noncomputable def fX9_init (h : Hp) (x0 : Nat) : Option Hp :=
  lt h.1 fun a2 =>
  (nA 2 h (40 : Int32)).bind fun h1 =>
  (sV h1 9 x0 0 (.ref a2)).bind fun h3 =>
  (sV h3 9 x0 1 (.int (0 : Int32))).bind fun h4 =>
  (sV h4 9 x0 2 (.int (1 : Int32))).bind fun h5 =>
  (sV h5 9 x0 3 (.int (0 : Int32))).bind fun h6 =>
  some (h6)
theorem oX9_init_0 {d : Nat} (hd : 1 ≤ d) {h : Hp} {x0 : Nat} {rf : Option Value} {hf : Hp} {x : Hp} (hs : fX9_init h x0 = some x) (hk : (kX9_init rf hf) x) : Go d mX9_init 0 [some (.ref x0)] [] h rf hf := by
  unfold fX9_init at hs
  refine go_aload_n (k4 := 0) rfl (Or.inr ⟨_, rfl⟩) dX9_init_0 ?_
  refine go_objInit lo_RX9_3.1 lo_RX9_3.2.1 lo_RX9_3.2.2 (by omega) (Nat.le_of_ble_eq_true rfl) dX9_init_1 ?_
  refine go_aload_n (k4 := 0) rfl (Or.inr ⟨_, rfl⟩) dX9_init_4 ?_
  refine go_bipush (v := 40) (by decide) dX9_init_5 ?_
  obtain ⟨a2, ea2, hs⟩ := lt_at hs
  obtain ⟨h1, eh1, hs⟩ := bindS hs
  refine go_nAl lt_long eh1 dX9_init_7 ?_
  rw [← ea2]
  obtain ⟨h3, eh3, hs⟩ := bindS hs
  refine go_sVF ff_RX9_9 rfl eh3 rfl rfl dX9_init_9 ?_
  refine go_aload_n (k4 := 0) rfl (Or.inr ⟨_, rfl⟩) dX9_init_12 ?_
  refine go_at 13 rfl ?_
  refine go_iconst (v := 0) (by decide) dX9_init_13 ?_
  obtain ⟨h4, eh4, hs⟩ := bindS hs
  refine go_sV fw_RX9_15 eh4 rfl rfl dX9_init_14 ?_
  refine go_aload_n (k4 := 0) rfl (Or.inr ⟨_, rfl⟩) dX9_init_17 ?_
  refine go_iconst (v := 1) (by decide) dX9_init_18 ?_
  obtain ⟨h5, eh5, hs⟩ := bindS hs
  refine go_sV fw_RX9_19 eh5 rfl rfl dX9_init_19 ?_
  refine go_aload_n (k4 := 0) rfl (Or.inr ⟨_, rfl⟩) dX9_init_22 ?_
  refine go_iconst (v := 0) (by decide) dX9_init_23 ?_
  obtain ⟨h6, eh6, hs⟩ := bindS hs
  refine go_sV fw_RX9_23 eh6 rfl rfl dX9_init_24 ?_
  refine go_at 27 rfl ?_
  obtain rfl := Option.some.inj hs
  obtain ⟨rfl, rfl⟩ := hk
  exact go_vret rfl dX9_init_27
theorem oX9_init {d : Nat} (hd : 1 ≤ d) {h : Hp} {x0 : Nat} {y : Hp} (hs : fX9_init h x0 = some y) : Call d mX9_init [.ref x0] h (none) y := call_of (by decide +kernel) (Nat.le_of_ble_eq_true rfl) (show Go d mX9_init 0 [some (.ref x0)] [] h _ _ from go_subL (by simp [subL]) (oX9_init_0 hd hs ⟨rfl, rfl⟩))
