/-! methods: their texts as functions, and that the machine does just that -/
abbrev kX12_within (h : Hp) (rf : Option Value) (hf : Hp) : Int32 → Prop := fun y => rf = some (.int y) ∧ hf = h
noncomputable def fX12_within_18 (h : Hp) (s0 : Int32) : Option Int32 :=
  bl s0 (some (s0))
theorem oX12_within_18 {d : Nat} (hd : 0 ≤ d) {h : Hp} {s0 : Int32} {rf : Option Value} {hf : Hp} {x : Int32} (hs : fX12_within_18 h s0 = some x) (hk : (kX12_within h rf hf) x) : Go d mX12_within 18 [none, none, none, none, none, none] [.int s0] h rf hf := by
  unfold fX12_within_18 at hs
  obtain ⟨n1, n2, hs⟩ := bl_at hs
  obtain rfl := Option.some.inj hs
  obtain ⟨rfl, rfl⟩ := hk
  exact go_zret (ty := .boolean) rfl n1 dX12_within_18
noncomputable def fX12_within_17 (h : Hp)  : Option Int32 :=
  fX12_within_18 h (0 : Int32)
theorem oX12_within_17 {d : Nat} (hd : 0 ≤ d) {h : Hp} {rf : Option Value} {hf : Hp} {x : Int32} (hs : fX12_within_17 h  = some x) (hk : (kX12_within h rf hf) x) : Go d mX12_within 17 [none, none, none, none, none, none] [] h rf hf := by
  unfold fX12_within_17 at hs
  refine go_iconst (v := 0) (by decide) dX12_within_17 ?_
  exact go_subL (L' := [none, none, none, none, none, none]) (by simp [subL, va_rf]) (oX12_within_18 hd hs hk)
noncomputable def fX12_within (h : Hp) (x0 : Int64) (x2 : Int64) (x4 : Int64) : Option Int32 :=
  if (lg_cmp x0 x2) < 0 then (
  fX12_within_17 h ) else (
    if 0 < (lg_cmp x0 x4) then (
    fX12_within_17 h ) else (
      fX12_within_18 h (1 : Int32)))
theorem oX12_within_0 {d : Nat} (hd : 0 ≤ d) {h : Hp} {x0 : Int64} {x2 : Int64} {x4 : Int64} {rf : Option Value} {hf : Hp} {x : Int32} (hs : fX12_within h x0 x2 x4 = some x) (hk : (kX12_within h rf hf) x) : Go d mX12_within 0 [some (.long x0), none, some (.long x2), none, some (.long x4), none] [] h rf hf := by
  unfold fX12_within at hs
  refine go_lload_n (k4 := 0) rfl dX12_within_0 ?_
  refine go_lload_n (k4 := 2) rfl dX12_within_1 ?_
  refine go_lcmp dX12_within_2 ?_
  refine go_if_lt (tgt := 17) (by decide) dX12_within_3 (fun c => ?_) (fun c => ?_)
  · have hs := if_t c hs
    exact go_subL (L' := [none, none, none, none, none, none]) (by simp [subL, va_rf]) (oX12_within_17 hd hs hk)
  · have hs := if_f c hs
    refine go_lload_n (k4 := 0) rfl dX12_within_6 ?_
    refine go_lload rfl dX12_within_7 ?_
    refine go_lcmp dX12_within_9 ?_
    refine go_if_gt (tgt := 17) (by decide) dX12_within_10 (fun c => ?_) (fun c => ?_)
    · have hs := if_t c hs
      exact go_subL (L' := [none, none, none, none, none, none]) (by simp [subL, va_rf]) (oX12_within_17 hd hs hk)
    · have hs := if_f c hs
      refine go_iconst (v := 1) (by decide) dX12_within_13 ?_
      refine go_goto (tgt := 18) (by decide) dX12_within_14 ?_
      exact go_subL (L' := [none, none, none, none, none, none]) (by simp [subL, va_rf]) (oX12_within_18 hd hs hk)
theorem oX12_within {d : Nat} (hd : 0 ≤ d) {h : Hp} {x0 : Int64} {x2 : Int64} {x4 : Int64} {y : Int32} (hs : fX12_within h x0 x2 x4 = some y) : Call d mX12_within [.long x0, .long x2, .long x4] h (some (.int y)) h := call_of (by decide +kernel) (Nat.le_of_ble_eq_true rfl) (show Go d mX12_within 0 [some (.long x0), none, some (.long x2), none, some (.long x4), none] [] h _ _ from go_subL (by simp [subL]) (oX12_within_0 hd hs ⟨rfl, rfl⟩))
abbrev kX12_plain (rf : Option Value) (hf : Hp) : Hp → Prop := fun y => rf = none ∧ hf = y
abbrev pX12_plain_2 (d : Nat) (x0 : Nat) (rf : Option Value) (hf : Hp) : (Int32 × Hp) → Prop := fun s => Go d mX12_plain 2 [some (.ref x0), some (.int s.1)] [] s.2 rf hf
noncomputable def fX12_plain_2b (h : Hp) (x0 : Nat) (x1 : Int32) : Option ((Int32 × Hp) ⊕ Hp) :=
  if (1038 : Int32) ≤ x1 then (
    some (.inr h)) else (
    (wI 0 h x0 x1 (0 : Int32)).bind fun h1 =>
    some (.inl ((x1 + Int32.ofInt 1), h1)))
noncomputable def fX12_plain_2 (h : Hp) (x0 : Nat) (x1 : Int32) : Option Hp := lpw (σ := (Int32 × Hp)) (fun s => fX12_plain_2b s.2 x0 s.1) (x1, h)
theorem oX12_plain_2b {d : Nat} (hd : 0 ≤ d) {h : Hp} {x0 : Nat} {x1 : Int32} {rf : Option Value} {hf : Hp} {x : ((Int32 × Hp) ⊕ Hp)} (hs : fX12_plain_2b h x0 x1 = some x) (hk : (Kx (pX12_plain_2 d x0 rf hf) (kX12_plain rf hf)) x) : Go d mX12_plain 2 [some (.ref x0), some (.int x1)] [] h rf hf := by
  unfold fX12_plain_2b at hs
  refine go_iload_n (k4 := 1) rfl dX12_plain_2 ?_
  refine go_sipush (v := 1038) (by decide) dX12_plain_3 ?_
  refine go_icmp_ge (tgt := 19) (by decide) dX12_plain_6 (fun c => ?_) (fun c => ?_)
  · have hs := if_t c hs
    obtain rfl := Option.some.inj hs
    obtain ⟨rfl, rfl⟩ := hk
    exact go_vret rfl dX12_plain_19
  · have hs := if_f c hs
    refine go_aload_n (k4 := 0) rfl (Or.inr ⟨_, rfl⟩) dX12_plain_9 ?_
    refine go_iload_n (k4 := 1) rfl dX12_plain_10 ?_
    refine go_iconst (v := 0) (by decide) dX12_plain_11 ?_
    obtain ⟨h1, eh1, hs⟩ := bindS hs
    refine go_wIi eh1 dX12_plain_12 ?_
    refine go_iinc (L' := [some (.ref x0), some (.int (x1 + Int32.ofInt 1))]) rfl (by decide) rfl rfl dX12_plain_13 ?_
    refine go_goto (tgt := 2) (by decide) dX12_plain_16 ?_
    obtain rfl := Option.some.inj hs
    exact go_subL (L' := [some (.ref x0), some (.int (x1 + Int32.ofInt 1))]) (by simp [subL, va_rf]) hk
theorem oX12_plain_2 {d : Nat} (hd : 0 ≤ d) {h : Hp} {x0 : Nat} {x1 : Int32} {rf : Option Value} {hf : Hp} {x : Hp} (hs : fX12_plain_2 h x0 x1 = some x) (hk : (kX12_plain rf hf) x) : Go d mX12_plain 2 [some (.ref x0), some (.int x1)] [] h rf hf := by
  unfold fX12_plain_2 at hs
  exact lpw_go (P := pX12_plain_2 d x0 rf hf) (fun s x hs hk => oX12_plain_2b hd hs hk) (x1, h) x hs hk
noncomputable def fX12_plain (h : Hp) (x0 : Nat) : Option Hp :=
  fX12_plain_2 h x0 (0 : Int32)
theorem oX12_plain_0 {d : Nat} (hd : 0 ≤ d) {h : Hp} {x0 : Nat} {rf : Option Value} {hf : Hp} {x : Hp} (hs : fX12_plain h x0 = some x) (hk : (kX12_plain rf hf) x) : Go d mX12_plain 0 [some (.ref x0), none] [] h rf hf := by
  unfold fX12_plain at hs
  refine go_iconst (v := 0) (by decide) dX12_plain_0 ?_
  refine go_istore_n (k4 := 1) (L' := [some (.ref x0), some (.int (0 : Int32))]) (by decide) rfl dX12_plain_1 ?_
  exact go_subL (L' := [some (.ref x0), some (.int (0 : Int32))]) (by simp [subL, va_rf]) (oX12_plain_2 hd hs hk)
theorem oX12_plain {d : Nat} (hd : 0 ≤ d) {h : Hp} {x0 : Nat} {y : Hp} (hs : fX12_plain h x0 = some y) : Call d mX12_plain [.ref x0] h (none) y := call_of (by decide +kernel) (Nat.le_of_ble_eq_true rfl) (show Go d mX12_plain 0 [some (.ref x0), none] [] h _ _ from go_subL (by simp [subL]) (oX12_plain_0 hd hs ⟨rfl, rfl⟩))
abbrev kX12_init (rf : Option Value) (hf : Hp) : Hp → Prop := fun y => rf = none ∧ hf = y
noncomputable def fX12_init (h : Hp) (x0 : Nat) : Option Hp :=
  lt h.1 fun a2 =>
  (nA 0 h (3114 : Int32)).bind fun h1 =>
  (sV h1 12 x0 1 (.ref a2)).bind fun h3 =>
  lt h3.1 fun a5 =>
  (nA 3 h3 (2 : Int32)).bind fun h4 =>
  (sV h4 12 x0 2 (.ref a5)).bind fun h6 =>
  lt h6.1 fun a8 =>
  (nA 0 h6 (900 : Int32)).bind fun h7 =>
  (sV h7 12 x0 3 (.ref a8)).bind fun h9 =>
  lt h9.1 fun a11 =>
  (nA 0 h9 (1038 : Int32)).bind fun h10 =>
  (sV h10 12 x0 4 (.ref a11)).bind fun h12 =>
  (sV h12 12 x0 14 (.int (-1 : Int32))).bind fun h13 =>
  lt h13.1 fun a15 =>
  (nA 0 h13 (900 : Int32)).bind fun h14 =>
  (sV h14 12 x0 16 (.ref a15)).bind fun h16 =>
  lt h16.1 fun a18 =>
  (nA 0 h16 (8 : Int32)).bind fun h17 =>
  (sV h17 12 x0 17 (.ref a18)).bind fun h19 =>
  lt h19.1 fun a21 =>
  (nA 0 h19 (2000 : Int32)).bind fun h20 =>
  (sV h20 12 x0 18 (.ref a21)).bind fun h22 =>
  lt h22.1 fun a24 =>
  (nA 3 h22 (3700 : Int32)).bind fun h23 =>
  (sV h23 12 x0 19 (.ref a24)).bind fun h25 =>
  lt h25.1 fun a27 =>
  (nA 0 h25 (35 : Int32)).bind fun h26 =>
  (sV h26 12 x0 20 (.ref a27)).bind fun h28 =>
  lt h28.1 fun a30 =>
  (nA 0 h28 (11 : Int32)).bind fun h29 =>
  (sV h29 12 x0 22 (.ref a30)).bind fun h31 =>
  lt h31.1 fun a33 =>
  (nA 0 h31 (20001 : Int32)).bind fun h32 =>
  (sV h32 12 x0 25 (.ref a33)).bind fun h34 =>
  lt h34.1 fun a36 =>
  (nA 0 h34 (20000 : Int32)).bind fun h35 =>
  (sV h35 12 x0 26 (.ref a36)).bind fun h37 =>
  lt h37.1 fun a39 =>
  (nA 0 h37 (20000 : Int32)).bind fun h38 =>
  (sV h38 12 x0 29 (.ref a39)).bind fun h40 =>
  lt h40.1 fun a42 =>
  (nA 0 h40 (700000 : Int32)).bind fun h41 =>
  (sV h41 12 x0 30 (.ref a42)).bind fun h43 =>
  lt h43.1 fun a45 =>
  (nA 0 h43 (20000 : Int32)).bind fun h44 =>
  (sV h44 12 x0 31 (.ref a45)).bind fun h46 =>
  lt h46.1 fun a48 =>
  (nA 3 h46 (20000 : Int32)).bind fun h47 =>
  (sV h47 12 x0 32 (.ref a48)).bind fun h49 =>
  lt h49.1 fun a51 =>
  (nA 2 h49 (20000 : Int32)).bind fun h50 =>
  (sV h50 12 x0 34 (.ref a51)).bind fun h52 =>
  lt h52.1 fun a54 =>
  (nA 2 h52 (20000 : Int32)).bind fun h53 =>
  (sV h53 12 x0 35 (.ref a54)).bind fun h55 =>
  lt h55.1 fun a57 =>
  (nA 0 h55 (19 : Int32)).bind fun h56 =>
  (sV h56 12 x0 36 (.ref a57)).bind fun h58 =>
  lt h58.1 fun a60 =>
  (nA 0 h58 (700000 : Int32)).bind fun h59 =>
  (sV h59 12 x0 37 (.ref a60)).bind fun h61 =>
  lt h61.1 fun a63 =>
  (nA 0 h61 (4 : Int32)).bind fun h62 =>
  (wI 0 h62 a63 (0 : Int32) (-1 : Int32)).bind fun h64 =>
  (wI 0 h64 a63 (1 : Int32) (-1 : Int32)).bind fun h65 =>
  (wI 0 h65 a63 (2 : Int32) (-1 : Int32)).bind fun h66 =>
  (wI 0 h66 a63 (3 : Int32) (-1 : Int32)).bind fun h67 =>
  (sV h67 12 x0 38 (.ref a63)).bind fun h68 =>
  lt h68.1 fun a70 =>
  (nA 0 h68 (4 : Int32)).bind fun h69 =>
  (sV h69 12 x0 39 (.ref a70)).bind fun h71 =>
  lt h71.1 fun a73 =>
  (nA 2 h71 (160 : Int32)).bind fun h72 =>
  (sV h72 12 x0 40 (.ref a73)).bind fun h74 =>
  (gN h74 12 x0 1).bind fun v75 =>
  (fX12_plain h74 v75).bind fun y76 =>
  some (y76)
theorem oX12_init_0 {d : Nat} (hd : 1 ≤ d) {h : Hp} {x0 : Nat} {rf : Option Value} {hf : Hp} {x : Hp} (hs : fX12_init h x0 = some x) (hk : (kX12_init rf hf) x) : Go d mX12_init 0 [some (.ref x0)] [] h rf hf := by
  unfold fX12_init at hs
  refine go_aload_n (k4 := 0) rfl (Or.inr ⟨_, rfl⟩) dX12_init_0 ?_
  refine go_objInit lo_RX12_7.1 lo_RX12_7.2.1 lo_RX12_7.2.2 (by omega) (Nat.le_of_ble_eq_true rfl) dX12_init_1 ?_
  refine go_aload_n (k4 := 0) rfl (Or.inr ⟨_, rfl⟩) dX12_init_4 ?_
  refine go_sipush (v := 3114) (by decide) dX12_init_5 ?_
  obtain ⟨a2, ea2, hs⟩ := lt_at hs
  obtain ⟨h1, eh1, hs⟩ := bindS hs
  refine go_nAi lt_int eh1 dX12_init_8 ?_
  rw [← ea2]
  obtain ⟨h3, eh3, hs⟩ := bindS hs
  refine go_sVF ff_RX12_13 rfl eh3 rfl rfl dX12_init_10 ?_
  refine go_aload_n (k4 := 0) rfl (Or.inr ⟨_, rfl⟩) dX12_init_13 ?_
  refine go_at 14 rfl ?_
  refine go_iconst (v := 2) (by decide) dX12_init_14 ?_
  obtain ⟨a5, ea5, hs⟩ := lt_at hs
  obtain ⟨h4, eh4, hs⟩ := bindS hs
  refine go_nAz lt_boolean eh4 dX12_init_15 ?_
  rw [← ea5]
  obtain ⟨h6, eh6, hs⟩ := bindS hs
  refine go_sVF ff_RX12_17 rfl eh6 rfl rfl dX12_init_17 ?_
  refine go_aload_n (k4 := 0) rfl (Or.inr ⟨_, rfl⟩) dX12_init_20 ?_
  refine go_sipush (v := 900) (by decide) dX12_init_21 ?_
  obtain ⟨a8, ea8, hs⟩ := lt_at hs
  obtain ⟨h7, eh7, hs⟩ := bindS hs
  refine go_nAi lt_int eh7 dX12_init_24 ?_
  rw [← ea8]
  obtain ⟨h9, eh9, hs⟩ := bindS hs
  refine go_sVF ff_RX12_21 rfl eh9 rfl rfl dX12_init_26 ?_
  refine go_aload_n (k4 := 0) rfl (Or.inr ⟨_, rfl⟩) dX12_init_29 ?_
  refine go_at 30 rfl ?_
  refine go_sipush (v := 1038) (by decide) dX12_init_30 ?_
  obtain ⟨a11, ea11, hs⟩ := lt_at hs
  obtain ⟨h10, eh10, hs⟩ := bindS hs
  refine go_nAi lt_int eh10 dX12_init_33 ?_
  rw [← ea11]
  obtain ⟨h12, eh12, hs⟩ := bindS hs
  refine go_sVF ff_RX12_24 rfl eh12 rfl rfl dX12_init_35 ?_
  refine go_aload_n (k4 := 0) rfl (Or.inr ⟨_, rfl⟩) dX12_init_38 ?_
  refine go_iconst (v := -1) (by decide) dX12_init_39 ?_
  obtain ⟨h13, eh13, hs⟩ := bindS hs
  refine go_sV fw_RX12_27 eh13 rfl rfl dX12_init_40 ?_
  refine go_aload_n (k4 := 0) rfl (Or.inr ⟨_, rfl⟩) dX12_init_43 ?_
  refine go_sipush (v := 900) (by decide) dX12_init_44 ?_
  refine go_at 47 rfl ?_
  obtain ⟨a15, ea15, hs⟩ := lt_at hs
  obtain ⟨h14, eh14, hs⟩ := bindS hs
  refine go_nAi lt_int eh14 dX12_init_47 ?_
  rw [← ea15]
  obtain ⟨h16, eh16, hs⟩ := bindS hs
  refine go_sVF ff_RX12_30 rfl eh16 rfl rfl dX12_init_49 ?_
  refine go_aload_n (k4 := 0) rfl (Or.inr ⟨_, rfl⟩) dX12_init_52 ?_
  refine go_bipush (v := 8) (by decide) dX12_init_53 ?_
  obtain ⟨a18, ea18, hs⟩ := lt_at hs
  obtain ⟨h17, eh17, hs⟩ := bindS hs
  refine go_nAi lt_int eh17 dX12_init_55 ?_
  rw [← ea18]
  obtain ⟨h19, eh19, hs⟩ := bindS hs
  refine go_sVF ff_RX12_33 rfl eh19 rfl rfl dX12_init_57 ?_
  refine go_aload_n (k4 := 0) rfl (Or.inr ⟨_, rfl⟩) dX12_init_60 ?_
  refine go_sipush (v := 2000) (by decide) dX12_init_61 ?_
  refine go_at 64 rfl ?_
  obtain ⟨a21, ea21, hs⟩ := lt_at hs
  obtain ⟨h20, eh20, hs⟩ := bindS hs
  refine go_nAi lt_int eh20 dX12_init_64 ?_
  rw [← ea21]
  obtain ⟨h22, eh22, hs⟩ := bindS hs
  refine go_sVF ff_RX12_36 rfl eh22 rfl rfl dX12_init_66 ?_
  refine go_aload_n (k4 := 0) rfl (Or.inr ⟨_, rfl⟩) dX12_init_69 ?_
  refine go_sipush (v := 3700) (by decide) dX12_init_70 ?_
  obtain ⟨a24, ea24, hs⟩ := lt_at hs
  obtain ⟨h23, eh23, hs⟩ := bindS hs
  refine go_nAz lt_boolean eh23 dX12_init_73 ?_
  rw [← ea24]
  obtain ⟨h25, eh25, hs⟩ := bindS hs
  refine go_sVF ff_RX12_39 rfl eh25 rfl rfl dX12_init_75 ?_
  refine go_aload_n (k4 := 0) rfl (Or.inr ⟨_, rfl⟩) dX12_init_78 ?_
  refine go_bipush (v := 35) (by decide) dX12_init_79 ?_
  refine go_at 81 rfl ?_
  obtain ⟨a27, ea27, hs⟩ := lt_at hs
  obtain ⟨h26, eh26, hs⟩ := bindS hs
  refine go_nAi lt_int eh26 dX12_init_81 ?_
  rw [← ea27]
  obtain ⟨h28, eh28, hs⟩ := bindS hs
  refine go_sVF ff_RX12_42 rfl eh28 rfl rfl dX12_init_83 ?_
  refine go_aload_n (k4 := 0) rfl (Or.inr ⟨_, rfl⟩) dX12_init_86 ?_
  refine go_bipush (v := 11) (by decide) dX12_init_87 ?_
  obtain ⟨a30, ea30, hs⟩ := lt_at hs
  obtain ⟨h29, eh29, hs⟩ := bindS hs
  refine go_nAi lt_int eh29 dX12_init_89 ?_
  rw [← ea30]
  obtain ⟨h31, eh31, hs⟩ := bindS hs
  refine go_sVF ff_RX12_45 rfl eh31 rfl rfl dX12_init_91 ?_
  refine go_aload_n (k4 := 0) rfl (Or.inr ⟨_, rfl⟩) dX12_init_94 ?_
  refine go_sipush (v := 20001) (by decide) dX12_init_95 ?_
  refine go_at 98 rfl ?_
  obtain ⟨a33, ea33, hs⟩ := lt_at hs
  obtain ⟨h32, eh32, hs⟩ := bindS hs
  refine go_nAi lt_int eh32 dX12_init_98 ?_
  rw [← ea33]
  obtain ⟨h34, eh34, hs⟩ := bindS hs
  refine go_sVF ff_RX12_48 rfl eh34 rfl rfl dX12_init_100 ?_
  refine go_aload_n (k4 := 0) rfl (Or.inr ⟨_, rfl⟩) dX12_init_103 ?_
  refine go_sipush (v := 20000) (by decide) dX12_init_104 ?_
  obtain ⟨a36, ea36, hs⟩ := lt_at hs
  obtain ⟨h35, eh35, hs⟩ := bindS hs
  refine go_nAi lt_int eh35 dX12_init_107 ?_
  rw [← ea36]
  obtain ⟨h37, eh37, hs⟩ := bindS hs
  refine go_sVF ff_RX12_51 rfl eh37 rfl rfl dX12_init_109 ?_
  refine go_aload_n (k4 := 0) rfl (Or.inr ⟨_, rfl⟩) dX12_init_112 ?_
  refine go_sipush (v := 20000) (by decide) dX12_init_113 ?_
  refine go_at 116 rfl ?_
  obtain ⟨a39, ea39, hs⟩ := lt_at hs
  obtain ⟨h38, eh38, hs⟩ := bindS hs
  refine go_nAi lt_int eh38 dX12_init_116 ?_
  rw [← ea39]
  obtain ⟨h40, eh40, hs⟩ := bindS hs
  refine go_sVF ff_RX12_54 rfl eh40 rfl rfl dX12_init_118 ?_
  refine go_aload_n (k4 := 0) rfl (Or.inr ⟨_, rfl⟩) dX12_init_121 ?_
  refine go_ldc lc_RX12_57 dX12_init_122 ?_
  obtain ⟨a42, ea42, hs⟩ := lt_at hs
  obtain ⟨h41, eh41, hs⟩ := bindS hs
  refine go_nAi lt_int eh41 dX12_init_124 ?_
  rw [← ea42]
  obtain ⟨h43, eh43, hs⟩ := bindS hs
  refine go_sVF ff_RX12_58 rfl eh43 rfl rfl dX12_init_126 ?_
  refine go_aload_n (k4 := 0) rfl (Or.inr ⟨_, rfl⟩) dX12_init_129 ?_
  refine go_sipush (v := 20000) (by decide) dX12_init_130 ?_
  refine go_at 133 rfl ?_
  obtain ⟨a45, ea45, hs⟩ := lt_at hs
  obtain ⟨h44, eh44, hs⟩ := bindS hs
  refine go_nAi lt_int eh44 dX12_init_133 ?_
  rw [← ea45]
  obtain ⟨h46, eh46, hs⟩ := bindS hs
  refine go_sVF ff_RX12_61 rfl eh46 rfl rfl dX12_init_135 ?_
  refine go_aload_n (k4 := 0) rfl (Or.inr ⟨_, rfl⟩) dX12_init_138 ?_
  refine go_sipush (v := 20000) (by decide) dX12_init_139 ?_
  obtain ⟨a48, ea48, hs⟩ := lt_at hs
  obtain ⟨h47, eh47, hs⟩ := bindS hs
  refine go_nAz lt_boolean eh47 dX12_init_142 ?_
  rw [← ea48]
  obtain ⟨h49, eh49, hs⟩ := bindS hs
  refine go_sVF ff_RX12_64 rfl eh49 rfl rfl dX12_init_144 ?_
  refine go_aload_n (k4 := 0) rfl (Or.inr ⟨_, rfl⟩) dX12_init_147 ?_
  refine go_sipush (v := 20000) (by decide) dX12_init_148 ?_
  refine go_at 151 rfl ?_
  obtain ⟨a51, ea51, hs⟩ := lt_at hs
  obtain ⟨h50, eh50, hs⟩ := bindS hs
  refine go_nAl lt_long eh50 dX12_init_151 ?_
  rw [← ea51]
  obtain ⟨h52, eh52, hs⟩ := bindS hs
  refine go_sVF ff_RX12_67 rfl eh52 rfl rfl dX12_init_153 ?_
  refine go_aload_n (k4 := 0) rfl (Or.inr ⟨_, rfl⟩) dX12_init_156 ?_
  refine go_sipush (v := 20000) (by decide) dX12_init_157 ?_
  obtain ⟨a54, ea54, hs⟩ := lt_at hs
  obtain ⟨h53, eh53, hs⟩ := bindS hs
  refine go_nAl lt_long eh53 dX12_init_160 ?_
  rw [← ea54]
  obtain ⟨h55, eh55, hs⟩ := bindS hs
  refine go_sVF ff_RX12_71 rfl eh55 rfl rfl dX12_init_162 ?_
  refine go_aload_n (k4 := 0) rfl (Or.inr ⟨_, rfl⟩) dX12_init_165 ?_
  refine go_bipush (v := 19) (by decide) dX12_init_166 ?_
  refine go_at 168 rfl ?_
  obtain ⟨a57, ea57, hs⟩ := lt_at hs
  obtain ⟨h56, eh56, hs⟩ := bindS hs
  refine go_nAi lt_int eh56 dX12_init_168 ?_
  rw [← ea57]
  obtain ⟨h58, eh58, hs⟩ := bindS hs
  refine go_sVF ff_RX12_74 rfl eh58 rfl rfl dX12_init_170 ?_
  refine go_aload_n (k4 := 0) rfl (Or.inr ⟨_, rfl⟩) dX12_init_173 ?_
  refine go_ldc lc_RX12_57 dX12_init_174 ?_
  obtain ⟨a60, ea60, hs⟩ := lt_at hs
  obtain ⟨h59, eh59, hs⟩ := bindS hs
  refine go_nAi lt_int eh59 dX12_init_176 ?_
  rw [← ea60]
  obtain ⟨h61, eh61, hs⟩ := bindS hs
  refine go_sVF ff_RX12_77 rfl eh61 rfl rfl dX12_init_178 ?_
  refine go_aload_n (k4 := 0) rfl (Or.inr ⟨_, rfl⟩) dX12_init_181 ?_
  refine go_iconst (v := 4) (by decide) dX12_init_182 ?_
  refine go_at 183 rfl ?_
  obtain ⟨a63, ea63, hs⟩ := lt_at hs
  obtain ⟨h62, eh62, hs⟩ := bindS hs
  refine go_nAi lt_int eh62 dX12_init_183 ?_
  rw [← ea63]
  refine go_dup rfl dX12_init_185 ?_
  refine go_iconst (v := 0) (by decide) dX12_init_186 ?_
  refine go_iconst (v := -1) (by decide) dX12_init_187 ?_
  obtain ⟨h64, eh64, hs⟩ := bindS hs
  refine go_wIi eh64 dX12_init_188 ?_
  refine go_dup rfl dX12_init_189 ?_
  refine go_iconst (v := 1) (by decide) dX12_init_190 ?_
  refine go_iconst (v := -1) (by decide) dX12_init_191 ?_
  refine go_at 192 rfl ?_
  obtain ⟨h65, eh65, hs⟩ := bindS hs
  refine go_wIi eh65 dX12_init_192 ?_
  refine go_dup rfl dX12_init_193 ?_
  refine go_iconst (v := 2) (by decide) dX12_init_194 ?_
  refine go_iconst (v := -1) (by decide) dX12_init_195 ?_
  obtain ⟨h66, eh66, hs⟩ := bindS hs
  refine go_wIi eh66 dX12_init_196 ?_
  refine go_dup rfl dX12_init_197 ?_
  refine go_iconst (v := 3) (by decide) dX12_init_198 ?_
  refine go_iconst (v := -1) (by decide) dX12_init_199 ?_
  refine go_at 200 rfl ?_
  obtain ⟨h67, eh67, hs⟩ := bindS hs
  refine go_wIi eh67 dX12_init_200 ?_
  obtain ⟨h68, eh68, hs⟩ := bindS hs
  refine go_sVF ff_RX12_80 rfl eh68 rfl rfl dX12_init_201 ?_
  refine go_aload_n (k4 := 0) rfl (Or.inr ⟨_, rfl⟩) dX12_init_204 ?_
  refine go_iconst (v := 4) (by decide) dX12_init_205 ?_
  obtain ⟨a70, ea70, hs⟩ := lt_at hs
  obtain ⟨h69, eh69, hs⟩ := bindS hs
  refine go_nAi lt_int eh69 dX12_init_206 ?_
  rw [← ea70]
  obtain ⟨h71, eh71, hs⟩ := bindS hs
  refine go_sVF ff_RX12_83 rfl eh71 rfl rfl dX12_init_208 ?_
  refine go_aload_n (k4 := 0) rfl (Or.inr ⟨_, rfl⟩) dX12_init_211 ?_
  refine go_sipush (v := 160) (by decide) dX12_init_212 ?_
  refine go_at 215 rfl ?_
  obtain ⟨a73, ea73, hs⟩ := lt_at hs
  obtain ⟨h72, eh72, hs⟩ := bindS hs
  refine go_nAl lt_long eh72 dX12_init_215 ?_
  rw [← ea73]
  obtain ⟨h74, eh74, hs⟩ := bindS hs
  refine go_sVF ff_RX12_86 rfl eh74 rfl rfl dX12_init_217 ?_
  refine go_aload_n (k4 := 0) rfl (Or.inr ⟨_, rfl⟩) dX12_init_220 ?_
  obtain ⟨v75, ev75, hs⟩ := bindS hs
  refine go_gN fl_RX12_13 ev75 dX12_init_221 ?_
  obtain ⟨y76, ey76, hs⟩ := bindS hs
  refine go_S0 (As := [.ref v75]) (st := []) (oX12_plain (d := d - 1) (by omega) ey76) (by omega) mb_X12_plain lm_RX12_89 ms_X12_plain (Nat.le_of_ble_eq_true rfl) rfl dX12_init_224 ?_
  obtain rfl := Option.some.inj hs
  obtain ⟨rfl, rfl⟩ := hk
  exact go_vret rfl dX12_init_227
theorem oX12_init {d : Nat} (hd : 1 ≤ d) {h : Hp} {x0 : Nat} {y : Hp} (hs : fX12_init h x0 = some y) : Call d mX12_init [.ref x0] h (none) y := call_of (by decide +kernel) (Nat.le_of_ble_eq_true rfl) (show Go d mX12_init 0 [some (.ref x0)] [] h _ _ from go_subL (by simp [subL]) (oX12_init_0 hd hs ⟨rfl, rfl⟩))
abbrev kX12_feed (rf : Option Value) (hf : Hp) : (Int32 × Hp) → Prop := fun y => rf = some (.int y.1) ∧ hf = y.2
abbrev pX12_feed_24 (d : Nat) (x0 : Nat) (x1 : Int32) (x2 : Int32) (x3 : Int32) (x4 : Int32) (x5 : Int32) (rf : Option Value) (hf : Hp) : (Int32 × Hp) → Prop := fun s => Go d mX12_feed 24 [some (.ref x0), some (.int x1), some (.int x2), some (.int x3), some (.int x4), some (.int x5), some (.int s.1), none] [] s.2 rf hf
noncomputable def fX12_feed_77 (h : Hp) (x0 : Nat) (x1 : Int32) (x2 : Int32) (x3 : Int32) (x4 : Int32) (x5 : Int32) (x6 : Int32) (s0 : Int32) : Option ((Int32 × Hp) ⊕ (Int32 × Hp)) :=
  (gN h 12 x0 3).bind fun v4 =>
  (gI h 12 x0 5).bind fun v5 =>
  (rm x6 (4 : Int32)).bind fun v6 =>
  lt ((s0 >>> (((24 : Int32) - ((8 : Int32) * v6)) &&& 31)) &&& (255 : Int32)) fun w7 =>
  (wI 0 h v4 v5 w7).bind fun h8 =>
  (gI h8 12 x0 5).bind fun v9 =>
  (sV h8 12 x0 5 (.int (v9 + (1 : Int32)))).bind fun h10 =>
  some (.inl ((x6 + Int32.ofInt 1), h10))
theorem oX12_feed_77 {d : Nat} (hd : 0 ≤ d) {h : Hp} {x0 : Nat} {x1 : Int32} {x2 : Int32} {x3 : Int32} {x4 : Int32} {x5 : Int32} {x6 : Int32} {s0 : Int32} {rf : Option Value} {hf : Hp} {x : ((Int32 × Hp) ⊕ (Int32 × Hp))} (hs : fX12_feed_77 h x0 x1 x2 x3 x4 x5 x6 s0 = some x) (hk : (Kx (pX12_feed_24 d x0 x1 x2 x3 x4 x5 rf hf) (kX12_feed rf hf)) x) : Go d mX12_feed 77 [some (.ref x0), some (.int x1), some (.int x2), some (.int x3), some (.int x4), some (.int x5), some (.int x6), none] [.int s0] h rf hf := by
  unfold fX12_feed_77 at hs
  refine go_istore (L' := [some (.ref x0), some (.int x1), some (.int x2), some (.int x3), some (.int x4), some (.int x5), some (.int x6), some (.int s0)]) (by decide) rfl dX12_feed_77 ?_
  refine go_aload_n (k4 := 0) rfl (Or.inr ⟨_, rfl⟩) dX12_feed_79 ?_
  obtain ⟨v4, ev4, hs⟩ := bindS hs
  refine go_gN fl_RX12_21 ev4 dX12_feed_80 ?_
  refine go_aload_n (k4 := 0) rfl (Or.inr ⟨_, rfl⟩) dX12_feed_83 ?_
  obtain ⟨v5, ev5, hs⟩ := bindS hs
  refine go_gI fl_RX12_93 ev5 dX12_feed_84 ?_
  refine go_iload rfl dX12_feed_87 ?_
  refine go_bipush (v := 24) (by decide) dX12_feed_89 ?_
  refine go_at 91 rfl ?_
  refine go_bipush (v := 8) (by decide) dX12_feed_91 ?_
  refine go_iload rfl dX12_feed_93 ?_
  refine go_iconst (v := 4) (by decide) dX12_feed_95 ?_
  obtain ⟨v6, ev6, hs⟩ := bindS hs
  refine go_rm ev6 dX12_feed_96 ?_
  refine go_imul dX12_feed_97 ?_
  refine go_isub dX12_feed_98 ?_
  refine go_ishr dX12_feed_99 ?_
  refine go_sipush (v := 255) (by decide) dX12_feed_100 ?_
  refine go_at 103 rfl ?_
  refine go_iand dX12_feed_103 ?_
  obtain ⟨w7, ew7, hs⟩ := lt_at hs
  rw [← ew7]
  obtain ⟨h8, eh8, hs⟩ := bindS hs
  refine go_wIi eh8 dX12_feed_104 ?_
  refine go_aload_n (k4 := 0) rfl (Or.inr ⟨_, rfl⟩) dX12_feed_105 ?_
  refine go_dup rfl dX12_feed_106 ?_
  obtain ⟨v9, ev9, hs⟩ := bindS hs
  refine go_gI fl_RX12_93 ev9 dX12_feed_107 ?_
  refine go_iconst (v := 1) (by decide) dX12_feed_110 ?_
  refine go_iadd dX12_feed_111 ?_
  obtain ⟨h10, eh10, hs⟩ := bindS hs
  refine go_sV fw_RX12_93 eh10 rfl rfl dX12_feed_112 ?_
  refine go_at 115 rfl ?_
  refine go_iinc (L' := [some (.ref x0), some (.int x1), some (.int x2), some (.int x3), some (.int x4), some (.int x5), some (.int (x6 + Int32.ofInt 1)), some (.int s0)]) rfl (by decide) rfl rfl dX12_feed_115 ?_
  refine go_goto (tgt := 24) (by decide) dX12_feed_118 ?_
  obtain rfl := Option.some.inj hs
  exact go_subL (L' := [some (.ref x0), some (.int x1), some (.int x2), some (.int x3), some (.int x4), some (.int x5), some (.int (x6 + Int32.ofInt 1)), none]) (by simp [subL, va_rf]) hk
noncomputable def fX12_feed_24b (h : Hp) (x0 : Nat) (x1 : Int32) (x2 : Int32) (x3 : Int32) (x4 : Int32) (x5 : Int32) (x6 : Int32) : Option ((Int32 × Hp) ⊕ (Int32 × Hp)) :=
  if (20 : Int32) ≤ x6 then (
    (gI h 12 x0 5).bind fun v3 =>
    some (.inr (v3, h))) else (
    if (4 : Int32) ≤ x6 then (
      if (8 : Int32) ≤ x6 then (
        if (12 : Int32) ≤ x6 then (
          if (16 : Int32) ≤ x6 then (
            fX12_feed_77 h x0 x1 x2 x3 x4 x5 x6 x5) else (
            fX12_feed_77 h x0 x1 x2 x3 x4 x5 x6 x4)) else (
          fX12_feed_77 h x0 x1 x2 x3 x4 x5 x6 x3)) else (
        fX12_feed_77 h x0 x1 x2 x3 x4 x5 x6 x2)) else (
      fX12_feed_77 h x0 x1 x2 x3 x4 x5 x6 x1))
noncomputable def fX12_feed_24 (h : Hp) (x0 : Nat) (x1 : Int32) (x2 : Int32) (x3 : Int32) (x4 : Int32) (x5 : Int32) (x6 : Int32) : Option (Int32 × Hp) := lpw (σ := (Int32 × Hp)) (fun s => fX12_feed_24b s.2 x0 x1 x2 x3 x4 x5 s.1) (x6, h)
theorem oX12_feed_24b {d : Nat} (hd : 0 ≤ d) {h : Hp} {x0 : Nat} {x1 : Int32} {x2 : Int32} {x3 : Int32} {x4 : Int32} {x5 : Int32} {x6 : Int32} {rf : Option Value} {hf : Hp} {x : ((Int32 × Hp) ⊕ (Int32 × Hp))} (hs : fX12_feed_24b h x0 x1 x2 x3 x4 x5 x6 = some x) (hk : (Kx (pX12_feed_24 d x0 x1 x2 x3 x4 x5 rf hf) (kX12_feed rf hf)) x) : Go d mX12_feed 24 [some (.ref x0), some (.int x1), some (.int x2), some (.int x3), some (.int x4), some (.int x5), some (.int x6), none] [] h rf hf := by
  unfold fX12_feed_24b at hs
  refine go_iload rfl dX12_feed_24 ?_
  refine go_bipush (v := 20) (by decide) dX12_feed_26 ?_
  refine go_icmp_ge (tgt := 121) (by decide) dX12_feed_28 (fun c => ?_) (fun c => ?_)
  · have hs := if_t c hs
    refine go_aload_n (k4 := 0) rfl (Or.inr ⟨_, rfl⟩) dX12_feed_121 ?_
    obtain ⟨v3, ev3, hs⟩ := bindS hs
    refine go_gI fl_RX12_93 ev3 dX12_feed_122 ?_
    obtain rfl := Option.some.inj hs
    obtain ⟨rfl, rfl⟩ := hk
    exact go_iret rfl dX12_feed_125
  · have hs := if_f c hs
    refine go_iload rfl dX12_feed_31 ?_
    refine go_iconst (v := 4) (by decide) dX12_feed_33 ?_
    refine go_icmp_ge (tgt := 41) (by decide) dX12_feed_34 (fun c => ?_) (fun c => ?_)
    · have hs := if_t c hs
      refine go_iload rfl dX12_feed_41 ?_
      refine go_bipush (v := 8) (by decide) dX12_feed_43 ?_
      refine go_icmp_ge (tgt := 52) (by decide) dX12_feed_45 (fun c => ?_) (fun c => ?_)
      · have hs := if_t c hs
        refine go_iload rfl dX12_feed_52 ?_
        refine go_bipush (v := 12) (by decide) dX12_feed_54 ?_
        refine go_icmp_ge (tgt := 63) (by decide) dX12_feed_56 (fun c => ?_) (fun c => ?_)
        · have hs := if_t c hs
          refine go_iload rfl dX12_feed_63 ?_
          refine go_bipush (v := 16) (by decide) dX12_feed_65 ?_
          refine go_icmp_ge (tgt := 75) (by decide) dX12_feed_67 (fun c => ?_) (fun c => ?_)
          · have hs := if_t c hs
            refine go_iload rfl dX12_feed_75 ?_
            exact go_subL (L' := [some (.ref x0), some (.int x1), some (.int x2), some (.int x3), some (.int x4), some (.int x5), some (.int x6), none]) (by simp [subL, va_rf]) (oX12_feed_77 hd hs hk)
          · have hs := if_f c hs
            refine go_iload rfl dX12_feed_70 ?_
            refine go_goto (tgt := 77) (by decide) dX12_feed_72 ?_
            exact go_subL (L' := [some (.ref x0), some (.int x1), some (.int x2), some (.int x3), some (.int x4), some (.int x5), some (.int x6), none]) (by simp [subL, va_rf]) (oX12_feed_77 hd hs hk)
        · have hs := if_f c hs
          refine go_iload_n (k4 := 3) rfl dX12_feed_59 ?_
          refine go_goto (tgt := 77) (by decide) dX12_feed_60 ?_
          exact go_subL (L' := [some (.ref x0), some (.int x1), some (.int x2), some (.int x3), some (.int x4), some (.int x5), some (.int x6), none]) (by simp [subL, va_rf]) (oX12_feed_77 hd hs hk)
      · have hs := if_f c hs
        refine go_iload_n (k4 := 2) rfl dX12_feed_48 ?_
        refine go_goto (tgt := 77) (by decide) dX12_feed_49 ?_
        exact go_subL (L' := [some (.ref x0), some (.int x1), some (.int x2), some (.int x3), some (.int x4), some (.int x5), some (.int x6), none]) (by simp [subL, va_rf]) (oX12_feed_77 hd hs hk)
    · have hs := if_f c hs
      refine go_iload_n (k4 := 1) rfl dX12_feed_37 ?_
      refine go_goto (tgt := 77) (by decide) dX12_feed_38 ?_
      exact go_subL (L' := [some (.ref x0), some (.int x1), some (.int x2), some (.int x3), some (.int x4), some (.int x5), some (.int x6), none]) (by simp [subL, va_rf]) (oX12_feed_77 hd hs hk)
theorem oX12_feed_24 {d : Nat} (hd : 0 ≤ d) {h : Hp} {x0 : Nat} {x1 : Int32} {x2 : Int32} {x3 : Int32} {x4 : Int32} {x5 : Int32} {x6 : Int32} {rf : Option Value} {hf : Hp} {x : (Int32 × Hp)} (hs : fX12_feed_24 h x0 x1 x2 x3 x4 x5 x6 = some x) (hk : (kX12_feed rf hf) x) : Go d mX12_feed 24 [some (.ref x0), some (.int x1), some (.int x2), some (.int x3), some (.int x4), some (.int x5), some (.int x6), none] [] h rf hf := by
  unfold fX12_feed_24 at hs
  exact lpw_go (P := pX12_feed_24 d x0 x1 x2 x3 x4 x5 rf hf) (fun s x hs hk => oX12_feed_24b hd hs hk) (x6, h) x hs hk
noncomputable def fX12_feed (h : Hp) (x0 : Nat) (x1 : Int32) (x2 : Int32) (x3 : Int32) (x4 : Int32) (x5 : Int32) : Option (Int32 × Hp) :=
  (sV h 12 x0 0 (.int (0 : Int32))).bind fun h1 =>
  (gI h1 12 x0 5).bind fun v2 =>
  if (v2 + (20 : Int32)) ≤ (900 : Int32) then (
    fX12_feed_24 h1 x0 x1 x2 x3 x4 x5 (0 : Int32)) else (
    some (((-5 : Int32), h1)))
theorem oX12_feed_0 {d : Nat} (hd : 0 ≤ d) {h : Hp} {x0 : Nat} {x1 : Int32} {x2 : Int32} {x3 : Int32} {x4 : Int32} {x5 : Int32} {rf : Option Value} {hf : Hp} {x : (Int32 × Hp)} (hs : fX12_feed h x0 x1 x2 x3 x4 x5 = some x) (hk : (kX12_feed rf hf) x) : Go d mX12_feed 0 [some (.ref x0), some (.int x1), some (.int x2), some (.int x3), some (.int x4), some (.int x5), none, none] [] h rf hf := by
  unfold fX12_feed at hs
  refine go_aload_n (k4 := 0) rfl (Or.inr ⟨_, rfl⟩) dX12_feed_0 ?_
  refine go_iconst (v := 0) (by decide) dX12_feed_1 ?_
  obtain ⟨h1, eh1, hs⟩ := bindS hs
  refine go_sV fw_RX12_1 eh1 rfl rfl dX12_feed_2 ?_
  refine go_aload_n (k4 := 0) rfl (Or.inr ⟨_, rfl⟩) dX12_feed_5 ?_
  obtain ⟨v2, ev2, hs⟩ := bindS hs
  refine go_gI fl_RX12_93 ev2 dX12_feed_6 ?_
  refine go_bipush (v := 20) (by decide) dX12_feed_9 ?_
  refine go_iadd dX12_feed_11 ?_
  refine go_at 12 rfl ?_
  refine go_sipush (v := 900) (by decide) dX12_feed_12 ?_
  refine go_icmp_le (tgt := 21) (by decide) dX12_feed_15 (fun c => ?_) (fun c => ?_)
  · have hs := if_t c hs
    refine go_iconst (v := 0) (by decide) dX12_feed_21 ?_
    refine go_istore (L' := [some (.ref x0), some (.int x1), some (.int x2), some (.int x3), some (.int x4), some (.int x5), some (.int (0 : Int32)), none]) (by decide) rfl dX12_feed_22 ?_
    exact go_subL (L' := [some (.ref x0), some (.int x1), some (.int x2), some (.int x3), some (.int x4), some (.int x5), some (.int (0 : Int32)), none]) (by simp [subL, va_rf]) (oX12_feed_24 hd hs hk)
  · have hs := if_f c hs
    refine go_bipush (v := -5) (by decide) dX12_feed_18 ?_
    obtain rfl := Option.some.inj hs
    obtain ⟨rfl, rfl⟩ := hk
    exact go_iret rfl dX12_feed_20
theorem oX12_feed {d : Nat} (hd : 0 ≤ d) {h : Hp} {x0 : Nat} {x1 : Int32} {x2 : Int32} {x3 : Int32} {x4 : Int32} {x5 : Int32} {y : (Int32 × Hp)} (hs : fX12_feed h x0 x1 x2 x3 x4 x5 = some y) : Call d mX12_feed [.ref x0, .int x1, .int x2, .int x3, .int x4, .int x5] h (some (.int y.1)) (y.2) := call_of (by decide +kernel) (Nat.le_of_ble_eq_true rfl) (show Go d mX12_feed 0 [some (.ref x0), some (.int x1), some (.int x2), some (.int x3), some (.int x4), some (.int x5), none, none] [] h _ _ from go_subL (by simp [subL]) (oX12_feed_0 hd hs ⟨rfl, rfl⟩))
abbrev kX12_see (h : Hp) (rf : Option Value) (hf : Hp) : Int32 → Prop := fun y => rf = some (.int y) ∧ hf = h
noncomputable def fX12_see_18 (h : Hp) (s0 : Int32) : Option Int32 :=
  some (s0)
theorem oX12_see_18 {d : Nat} (hd : 0 ≤ d) {h : Hp} {s0 : Int32} {rf : Option Value} {hf : Hp} {x : Int32} (hs : fX12_see_18 h s0 = some x) (hk : (kX12_see h rf hf) x) : Go d mX12_see 18 [none, none] [.int s0] h rf hf := by
  unfold fX12_see_18 at hs
  obtain rfl := Option.some.inj hs
  obtain ⟨rfl, rfl⟩ := hk
  exact go_iret rfl dX12_see_18
noncomputable def fX12_see (h : Hp) (x0 : Nat) (x1 : Int32) : Option Int32 :=
  (gI h 12 x0 8).bind fun v1 =>
  if v1 ≤ x1 then (
    fX12_see_18 h (-1 : Int32)) else (
    (gN h 12 x0 3).bind fun v2 =>
    (aI 0 h v2 x1).bind fun v3 =>
    fX12_see_18 h v3)
theorem oX12_see_0 {d : Nat} (hd : 0 ≤ d) {h : Hp} {x0 : Nat} {x1 : Int32} {rf : Option Value} {hf : Hp} {x : Int32} (hs : fX12_see h x0 x1 = some x) (hk : (kX12_see h rf hf) x) : Go d mX12_see 0 [some (.ref x0), some (.int x1)] [] h rf hf := by
  unfold fX12_see at hs
  refine go_iload_n (k4 := 1) rfl dX12_see_0 ?_
  refine go_aload_n (k4 := 0) rfl (Or.inr ⟨_, rfl⟩) dX12_see_1 ?_
  obtain ⟨v1, ev1, hs⟩ := bindS hs
  refine go_gI fl_RX12_96 ev1 dX12_see_2 ?_
  refine go_icmp_ge (tgt := 17) (by decide) dX12_see_5 (fun c => ?_) (fun c => ?_)
  · have hs := if_t c hs
    refine go_iconst (v := -1) (by decide) dX12_see_17 ?_
    exact go_subL (L' := [none, none]) (by simp [subL, va_rf]) (oX12_see_18 hd hs hk)
  · have hs := if_f c hs
    refine go_aload_n (k4 := 0) rfl (Or.inr ⟨_, rfl⟩) dX12_see_8 ?_
    obtain ⟨v2, ev2, hs⟩ := bindS hs
    refine go_gN fl_RX12_21 ev2 dX12_see_9 ?_
    refine go_iload_n (k4 := 1) rfl dX12_see_12 ?_
    obtain ⟨v3, ev3, hs⟩ := bindS hs
    refine go_aIi ev3 dX12_see_13 ?_
    refine go_goto (tgt := 18) (by decide) dX12_see_14 ?_
    exact go_subL (L' := [none, none]) (by simp [subL, va_rf]) (oX12_see_18 hd hs hk)
theorem oX12_see {d : Nat} (hd : 0 ≤ d) {h : Hp} {x0 : Nat} {x1 : Int32} {y : Int32} (hs : fX12_see h x0 x1 = some y) : Call d mX12_see [.ref x0, .int x1] h (some (.int y)) h := call_of (by decide +kernel) (Nat.le_of_ble_eq_true rfl) (show Go d mX12_see 0 [some (.ref x0), some (.int x1)] [] h _ _ from go_subL (by simp [subL]) (oX12_see_0 hd hs ⟨rfl, rfl⟩))
abbrev kX12_isSmall (h : Hp) (rf : Option Value) (hf : Hp) : Int32 → Prop := fun y => rf = some (.int y) ∧ hf = h
noncomputable def fX12_isSmall_17 (h : Hp) (s0 : Int32) : Option Int32 :=
  bl s0 (some (s0))
theorem oX12_isSmall_17 {d : Nat} (hd : 0 ≤ d) {h : Hp} {s0 : Int32} {rf : Option Value} {hf : Hp} {x : Int32} (hs : fX12_isSmall_17 h s0 = some x) (hk : (kX12_isSmall h rf hf) x) : Go d mX12_isSmall 17 [none] [.int s0] h rf hf := by
  unfold fX12_isSmall_17 at hs
  obtain ⟨n1, n2, hs⟩ := bl_at hs
  obtain rfl := Option.some.inj hs
  obtain ⟨rfl, rfl⟩ := hk
  exact go_zret (ty := .boolean) rfl n1 dX12_isSmall_17
noncomputable def fX12_isSmall_16 (h : Hp)  : Option Int32 :=
  fX12_isSmall_17 h (0 : Int32)
theorem oX12_isSmall_16 {d : Nat} (hd : 0 ≤ d) {h : Hp} {rf : Option Value} {hf : Hp} {x : Int32} (hs : fX12_isSmall_16 h  = some x) (hk : (kX12_isSmall h rf hf) x) : Go d mX12_isSmall 16 [none] [] h rf hf := by
  unfold fX12_isSmall_16 at hs
  refine go_iconst (v := 0) (by decide) dX12_isSmall_16 ?_
  exact go_subL (L' := [none]) (by simp [subL, va_rf]) (oX12_isSmall_17 hd hs hk)
noncomputable def fX12_isSmall (h : Hp) (x0 : Int32) : Option Int32 :=
  if x0 < (97 : Int32) then (
  fX12_isSmall_16 h ) else (
    if (122 : Int32) < x0 then (
    fX12_isSmall_16 h ) else (
      fX12_isSmall_17 h (1 : Int32)))
theorem oX12_isSmall_0 {d : Nat} (hd : 0 ≤ d) {h : Hp} {x0 : Int32} {rf : Option Value} {hf : Hp} {x : Int32} (hs : fX12_isSmall h x0 = some x) (hk : (kX12_isSmall h rf hf) x) : Go d mX12_isSmall 0 [some (.int x0)] [] h rf hf := by
  unfold fX12_isSmall at hs
  refine go_iload_n (k4 := 0) rfl dX12_isSmall_0 ?_
  refine go_bipush (v := 97) (by decide) dX12_isSmall_1 ?_
  refine go_icmp_lt (tgt := 16) (by decide) dX12_isSmall_3 (fun c => ?_) (fun c => ?_)
  · have hs := if_t c hs
    exact go_subL (L' := [none]) (by simp [subL, va_rf]) (oX12_isSmall_16 hd hs hk)
  · have hs := if_f c hs
    refine go_iload_n (k4 := 0) rfl dX12_isSmall_6 ?_
    refine go_bipush (v := 122) (by decide) dX12_isSmall_7 ?_
    refine go_icmp_gt (tgt := 16) (by decide) dX12_isSmall_9 (fun c => ?_) (fun c => ?_)
    · have hs := if_t c hs
      exact go_subL (L' := [none]) (by simp [subL, va_rf]) (oX12_isSmall_16 hd hs hk)
    · have hs := if_f c hs
      refine go_iconst (v := 1) (by decide) dX12_isSmall_12 ?_
      refine go_goto (tgt := 17) (by decide) dX12_isSmall_13 ?_
      exact go_subL (L' := [none]) (by simp [subL, va_rf]) (oX12_isSmall_17 hd hs hk)
theorem oX12_isSmall {d : Nat} (hd : 0 ≤ d) {h : Hp} {x0 : Int32} {y : Int32} (hs : fX12_isSmall h x0 = some y) : Call d mX12_isSmall [.int x0] h (some (.int y)) h := call_of (by decide +kernel) (Nat.le_of_ble_eq_true rfl) (show Go d mX12_isSmall 0 [some (.int x0)] [] h _ _ from go_subL (by simp [subL]) (oX12_isSmall_0 hd hs ⟨rfl, rfl⟩))
abbrev kX12_isDigit (h : Hp) (rf : Option Value) (hf : Hp) : Int32 → Prop := fun y => rf = some (.int y) ∧ hf = h
noncomputable def fX12_isDigit_17 (h : Hp) (s0 : Int32) : Option Int32 :=
  bl s0 (some (s0))
theorem oX12_isDigit_17 {d : Nat} (hd : 0 ≤ d) {h : Hp} {s0 : Int32} {rf : Option Value} {hf : Hp} {x : Int32} (hs : fX12_isDigit_17 h s0 = some x) (hk : (kX12_isDigit h rf hf) x) : Go d mX12_isDigit 17 [none] [.int s0] h rf hf := by
  unfold fX12_isDigit_17 at hs
  obtain ⟨n1, n2, hs⟩ := bl_at hs
  obtain rfl := Option.some.inj hs
  obtain ⟨rfl, rfl⟩ := hk
  exact go_zret (ty := .boolean) rfl n1 dX12_isDigit_17
noncomputable def fX12_isDigit_16 (h : Hp)  : Option Int32 :=
  fX12_isDigit_17 h (0 : Int32)
theorem oX12_isDigit_16 {d : Nat} (hd : 0 ≤ d) {h : Hp} {rf : Option Value} {hf : Hp} {x : Int32} (hs : fX12_isDigit_16 h  = some x) (hk : (kX12_isDigit h rf hf) x) : Go d mX12_isDigit 16 [none] [] h rf hf := by
  unfold fX12_isDigit_16 at hs
  refine go_iconst (v := 0) (by decide) dX12_isDigit_16 ?_
  exact go_subL (L' := [none]) (by simp [subL, va_rf]) (oX12_isDigit_17 hd hs hk)
noncomputable def fX12_isDigit (h : Hp) (x0 : Int32) : Option Int32 :=
  if x0 < (48 : Int32) then (
  fX12_isDigit_16 h ) else (
    if (57 : Int32) < x0 then (
    fX12_isDigit_16 h ) else (
      fX12_isDigit_17 h (1 : Int32)))
theorem oX12_isDigit_0 {d : Nat} (hd : 0 ≤ d) {h : Hp} {x0 : Int32} {rf : Option Value} {hf : Hp} {x : Int32} (hs : fX12_isDigit h x0 = some x) (hk : (kX12_isDigit h rf hf) x) : Go d mX12_isDigit 0 [some (.int x0)] [] h rf hf := by
  unfold fX12_isDigit at hs
  refine go_iload_n (k4 := 0) rfl dX12_isDigit_0 ?_
  refine go_bipush (v := 48) (by decide) dX12_isDigit_1 ?_
  refine go_icmp_lt (tgt := 16) (by decide) dX12_isDigit_3 (fun c => ?_) (fun c => ?_)
  · have hs := if_t c hs
    exact go_subL (L' := [none]) (by simp [subL, va_rf]) (oX12_isDigit_16 hd hs hk)
  · have hs := if_f c hs
    refine go_iload_n (k4 := 0) rfl dX12_isDigit_6 ?_
    refine go_bipush (v := 57) (by decide) dX12_isDigit_7 ?_
    refine go_icmp_gt (tgt := 16) (by decide) dX12_isDigit_9 (fun c => ?_) (fun c => ?_)
    · have hs := if_t c hs
      exact go_subL (L' := [none]) (by simp [subL, va_rf]) (oX12_isDigit_16 hd hs hk)
    · have hs := if_f c hs
      refine go_iconst (v := 1) (by decide) dX12_isDigit_12 ?_
      refine go_goto (tgt := 17) (by decide) dX12_isDigit_13 ?_
      exact go_subL (L' := [none]) (by simp [subL, va_rf]) (oX12_isDigit_17 hd hs hk)
theorem oX12_isDigit {d : Nat} (hd : 0 ≤ d) {h : Hp} {x0 : Int32} {y : Int32} (hs : fX12_isDigit h x0 = some y) : Call d mX12_isDigit [.int x0] h (some (.int y)) h := call_of (by decide +kernel) (Nat.le_of_ble_eq_true rfl) (show Go d mX12_isDigit 0 [some (.int x0)] [] h _ _ from go_subL (by simp [subL]) (oX12_isDigit_0 hd hs ⟨rfl, rfl⟩))
abbrev kJ0_coder_7d493 (h : Hp) (rf : Option Value) (hf : Hp) : Int32 → Prop := fun y => rf = some (.int y) ∧ hf = h
noncomputable def fJ0_coder_7d493_14 (h : Hp) (s0 : Int32) : Option Int32 :=
  nb s0 (some (s0))
theorem oJ0_coder_7d493_14 {d : Nat} (hd : 0 ≤ d) {h : Hp} {s0 : Int32} {rf : Option Value} {hf : Hp} {x : Int32} (hs : fJ0_coder_7d493_14 h s0 = some x) (hk : (kJ0_coder_7d493 h rf hf) x) : Go d mJ0_coder_7d493 14 [none] [.int s0] h rf hf := by
  unfold fJ0_coder_7d493_14 at hs
  obtain ⟨n1, hs⟩ := nb_at hs
  obtain rfl := Option.some.inj hs
  obtain ⟨rfl, rfl⟩ := hk
  exact go_zret (ty := .byte) rfl n1 dJ0_coder_7d493_14
noncomputable def fJ0_coder_7d493 (h : Hp) (x0 : Nat) : Option Int32 :=
  if (1 : Int32) = 0 then (
    fJ0_coder_7d493_14 h (1 : Int32)) else (
    (sC x0).bind fun v1 =>
    fJ0_coder_7d493_14 h v1)
theorem oJ0_coder_7d493_0 {d : Nat} (hd : 0 ≤ d) {h : Hp} {x0 : Nat} {rf : Option Value} {hf : Hp} {x : Int32} (hs : fJ0_coder_7d493 h x0 = some x) (hk : (kJ0_coder_7d493 h rf hf) x) : Go d mJ0_coder_7d493 0 [some (.ref x0)] [] h rf hf := by
  unfold fJ0_coder_7d493 at hs
  refine go_cs lq_RJ0_38.1 lq_RJ0_38.2.1 lq_RJ0_38.2.2 dJ0_coder_7d493_0 ?_
  refine go_if_eq (tgt := 13) (by decide) dJ0_coder_7d493_3 (fun c => ?_) (fun c => ?_)
  · have hs := if_t c hs
    refine go_iconst (v := 1) (by decide) dJ0_coder_7d493_13 ?_
    exact go_subL (L' := [none]) (by simp [subL, va_rf]) (oJ0_coder_7d493_14 hd hs hk)
  · have hs := if_f c hs
    refine go_aload_n (k4 := 0) rfl (Or.inr ⟨_, rfl⟩) dJ0_coder_7d493_6 ?_
    obtain ⟨v1, ev1, hs⟩ := bindS hs
    refine go_sC lf_15c ev1 dJ0_coder_7d493_7 ?_
    refine go_goto (tgt := 14) (by decide) dJ0_coder_7d493_10 ?_
    exact go_subL (L' := [none]) (by simp [subL, va_rf]) (oJ0_coder_7d493_14 hd hs hk)
theorem oJ0_coder_7d493 {d : Nat} (hd : 0 ≤ d) {h : Hp} {x0 : Nat} {y : Int32} (hs : fJ0_coder_7d493 h x0 = some y) : Call d mJ0_coder_7d493 [.ref x0] h (some (.int y)) h := call_of (by decide +kernel) (Nat.le_of_ble_eq_true rfl) (show Go d mJ0_coder_7d493 0 [some (.ref x0)] [] h _ _ from go_subL (by simp [subL]) (oJ0_coder_7d493_0 hd hs ⟨rfl, rfl⟩))
abbrev kJ0_length_8abf5 (h : Hp) (rf : Option Value) (hf : Hp) : Int32 → Prop := fun y => rf = some (.int y) ∧ hf = h
noncomputable def fJ0_length_8abf5 (h : Hp) (x0 : Nat) : Option Int32 :=
  (sA x0).bind fun v1 =>
  (bL v1).bind fun v2 =>
  gT x0 (
  (fJ0_coder_7d493 h x0).bind fun y3 =>
  some ((v2 >>> (y3 &&& 31))))
theorem oJ0_length_8abf5_0 {d : Nat} (hd : 1 ≤ d) {h : Hp} {x0 : Nat} {rf : Option Value} {hf : Hp} {x : Int32} (hs : fJ0_length_8abf5 h x0 = some x) (hk : (kJ0_length_8abf5 h rf hf) x) : Go d mJ0_length_8abf5 0 [some (.ref x0)] [] h rf hf := by
  unfold fJ0_length_8abf5 at hs
  refine go_aload_n (k4 := 0) rfl (Or.inr ⟨_, rfl⟩) dJ0_length_8abf5_0 ?_
  obtain ⟨v1, ev1, hs⟩ := bindS hs
  refine go_sA lf_9v ev1 dJ0_length_8abf5_1 ?_
  obtain ⟨v2, ev2, hs⟩ := bindS hs
  refine go_bL ev2 dJ0_length_8abf5_4 ?_
  refine go_aload_n (k4 := 0) rfl (Or.inr ⟨_, rfl⟩) dJ0_length_8abf5_5 ?_
  obtain ⟨g4, hs⟩ := gT_at hs
  obtain ⟨y3, ey3, hs⟩ := bindS hs
  refine go_T1 (As := []) (st := [.int v2]) g4 rfl (oJ0_coder_7d493 (d := d - 1) (by omega) ey3) (by omega) mb_J0_coder_7d493 lm_RJ0_335 mi_J0_coder_7d493 (Nat.le_of_ble_eq_true rfl) rfl dJ0_length_8abf5_6 ?_
  refine go_ishr dJ0_length_8abf5_9 ?_
  obtain rfl := Option.some.inj hs
  obtain ⟨rfl, rfl⟩ := hk
  exact go_iret rfl dJ0_length_8abf5_10
theorem oJ0_length_8abf5 {d : Nat} (hd : 1 ≤ d) {h : Hp} {x0 : Nat} {y : Int32} (hs : fJ0_length_8abf5 h x0 = some y) : Call d mJ0_length_8abf5 [.ref x0] h (some (.int y)) h := call_of (by decide +kernel) (Nat.le_of_ble_eq_true rfl) (show Go d mJ0_length_8abf5 0 [some (.ref x0)] [] h _ _ from go_subL (by simp [subL]) (oJ0_length_8abf5_0 hd hs ⟨rfl, rfl⟩))
abbrev kJ0_isLatin1_aae02 (h : Hp) (rf : Option Value) (hf : Hp) : Int32 → Prop := fun y => rf = some (.int y) ∧ hf = h
noncomputable def fJ0_isLatin1_aae02_18 (h : Hp) (s0 : Int32) : Option Int32 :=
  bl s0 (some (s0))
theorem oJ0_isLatin1_aae02_18 {d : Nat} (hd : 0 ≤ d) {h : Hp} {s0 : Int32} {rf : Option Value} {hf : Hp} {x : Int32} (hs : fJ0_isLatin1_aae02_18 h s0 = some x) (hk : (kJ0_isLatin1_aae02 h rf hf) x) : Go d mJ0_isLatin1_aae02 18 [none] [.int s0] h rf hf := by
  unfold fJ0_isLatin1_aae02_18 at hs
  obtain ⟨n1, n2, hs⟩ := bl_at hs
  obtain rfl := Option.some.inj hs
  obtain ⟨rfl, rfl⟩ := hk
  exact go_zret (ty := .boolean) rfl n1 dJ0_isLatin1_aae02_18
noncomputable def fJ0_isLatin1_aae02_17 (h : Hp)  : Option Int32 :=
  fJ0_isLatin1_aae02_18 h (0 : Int32)
theorem oJ0_isLatin1_aae02_17 {d : Nat} (hd : 0 ≤ d) {h : Hp} {rf : Option Value} {hf : Hp} {x : Int32} (hs : fJ0_isLatin1_aae02_17 h  = some x) (hk : (kJ0_isLatin1_aae02 h rf hf) x) : Go d mJ0_isLatin1_aae02 17 [none] [] h rf hf := by
  unfold fJ0_isLatin1_aae02_17 at hs
  refine go_iconst (v := 0) (by decide) dJ0_isLatin1_aae02_17 ?_
  exact go_subL (L' := [none]) (by simp [subL, va_rf]) (oJ0_isLatin1_aae02_18 hd hs hk)
noncomputable def fJ0_isLatin1_aae02 (h : Hp) (x0 : Nat) : Option Int32 :=
  if (1 : Int32) = 0 then (
  fJ0_isLatin1_aae02_17 h ) else (
    (sC x0).bind fun v1 =>
    if v1 = 0 then (
      fJ0_isLatin1_aae02_18 h (1 : Int32)) else (
    fJ0_isLatin1_aae02_17 h ))
theorem oJ0_isLatin1_aae02_0 {d : Nat} (hd : 0 ≤ d) {h : Hp} {x0 : Nat} {rf : Option Value} {hf : Hp} {x : Int32} (hs : fJ0_isLatin1_aae02 h x0 = some x) (hk : (kJ0_isLatin1_aae02 h rf hf) x) : Go d mJ0_isLatin1_aae02 0 [some (.ref x0)] [] h rf hf := by
  unfold fJ0_isLatin1_aae02 at hs
  refine go_cs lq_RJ0_38.1 lq_RJ0_38.2.1 lq_RJ0_38.2.2 dJ0_isLatin1_aae02_0 ?_
  refine go_if_eq (tgt := 17) (by decide) dJ0_isLatin1_aae02_3 (fun c => ?_) (fun c => ?_)
  · have hs := if_t c hs
    exact go_subL (L' := [none]) (by simp [subL, va_rf]) (oJ0_isLatin1_aae02_17 hd hs hk)
  · have hs := if_f c hs
    refine go_aload_n (k4 := 0) rfl (Or.inr ⟨_, rfl⟩) dJ0_isLatin1_aae02_6 ?_
    obtain ⟨v1, ev1, hs⟩ := bindS hs
    refine go_sC lf_15c ev1 dJ0_isLatin1_aae02_7 ?_
    refine go_if_ne (tgt := 17) (by decide) dJ0_isLatin1_aae02_10 (fun c => ?_) (fun c => ?_)
    · have hs := if_f c hs
      exact go_subL (L' := [none]) (by simp [subL, va_rf]) (oJ0_isLatin1_aae02_17 hd hs hk)
    · have hs := if_t c hs
      refine go_iconst (v := 1) (by decide) dJ0_isLatin1_aae02_13 ?_
      refine go_goto (tgt := 18) (by decide) dJ0_isLatin1_aae02_14 ?_
      exact go_subL (L' := [none]) (by simp [subL, va_rf]) (oJ0_isLatin1_aae02_18 hd hs hk)
theorem oJ0_isLatin1_aae02 {d : Nat} (hd : 0 ≤ d) {h : Hp} {x0 : Nat} {y : Int32} (hs : fJ0_isLatin1_aae02 h x0 = some y) : Call d mJ0_isLatin1_aae02 [.ref x0] h (some (.int y)) h := call_of (by decide +kernel) (Nat.le_of_ble_eq_true rfl) (show Go d mJ0_isLatin1_aae02 0 [some (.ref x0)] [] h _ _ from go_subL (by simp [subL]) (oJ0_isLatin1_aae02_0 hd hs ⟨rfl, rfl⟩))
abbrev kJ3_checkIndex_8e157 (h : Hp) (rf : Option Value) (hf : Hp) : Int32 → Prop := fun y => rf = some (.int y) ∧ hf = h
noncomputable def fJ3_checkIndex_8e157_9 (h : Hp) (x0 : Int32) (x1 : Int32) (x2 : Option Nat) : Option Int32 :=
  none
theorem oJ3_checkIndex_8e157_9 {d : Nat} (hd : 0 ≤ d) {h : Hp} {x0 : Int32} {x1 : Int32} {x2 : Option Nat} {rf : Option Value} {hf : Hp} {x : Int32} (hs : fJ3_checkIndex_8e157_9 h x0 x1 x2 = some x) (hk : (kJ3_checkIndex_8e157 h rf hf) x) : Go d mJ3_checkIndex_8e157 9 [some (.int x0), some (.int x1), some (va_rf x2)] [] h rf hf := by
  unfold fJ3_checkIndex_8e157_9 at hs
  refine go_aload_n (k4 := 2) rfl (isR _) dJ3_checkIndex_8e157_9 ?_
  refine go_iload_n (k4 := 0) rfl dJ3_checkIndex_8e157_10 ?_
  refine go_iload_n (k4 := 1) rfl dJ3_checkIndex_8e157_11 ?_
  cases hs
noncomputable def fJ3_checkIndex_8e157 (h : Hp) (x0 : Int32) (x1 : Int32) (x2 : Option Nat) : Option Int32 :=
  if x0 < 0 then (
  fJ3_checkIndex_8e157_9 h x0 x1 x2) else (
    if x0 < x1 then (
      some (x0)) else (
    fJ3_checkIndex_8e157_9 h x0 x1 x2))
theorem oJ3_checkIndex_8e157_0 {d : Nat} (hd : 0 ≤ d) {h : Hp} {x0 : Int32} {x1 : Int32} {x2 : Option Nat} {rf : Option Value} {hf : Hp} {x : Int32} (hs : fJ3_checkIndex_8e157 h x0 x1 x2 = some x) (hk : (kJ3_checkIndex_8e157 h rf hf) x) : Go d mJ3_checkIndex_8e157 0 [some (.int x0), some (.int x1), some (va_rf x2)] [] h rf hf := by
  unfold fJ3_checkIndex_8e157 at hs
  refine go_iload_n (k4 := 0) rfl dJ3_checkIndex_8e157_0 ?_
  refine go_if_lt (tgt := 9) (by decide) dJ3_checkIndex_8e157_1 (fun c => ?_) (fun c => ?_)
  · have hs := if_t c hs
    exact go_subL (L' := [some (.int x0), some (.int x1), some (va_rf x2)]) (by simp [subL, va_rf]) (oJ3_checkIndex_8e157_9 hd hs hk)
  · have hs := if_f c hs
    refine go_iload_n (k4 := 0) rfl dJ3_checkIndex_8e157_4 ?_
    refine go_iload_n (k4 := 1) rfl dJ3_checkIndex_8e157_5 ?_
    refine go_icmp_lt (tgt := 16) (by decide) dJ3_checkIndex_8e157_6 (fun c => ?_) (fun c => ?_)
    · have hs := if_t c hs
      refine go_iload_n (k4 := 0) rfl dJ3_checkIndex_8e157_16 ?_
      obtain rfl := Option.some.inj hs
      obtain ⟨rfl, rfl⟩ := hk
      exact go_iret rfl dJ3_checkIndex_8e157_17
    · have hs := if_f c hs
      exact go_subL (L' := [some (.int x0), some (.int x1), some (va_rf x2)]) (by simp [subL, va_rf]) (oJ3_checkIndex_8e157_9 hd hs hk)
theorem oJ3_checkIndex_8e157 {d : Nat} (hd : 0 ≤ d) {h : Hp} {x0 : Int32} {x1 : Int32} {x2 : Option Nat} {y : Int32} (hs : fJ3_checkIndex_8e157 h x0 x1 x2 = some y) : Call d mJ3_checkIndex_8e157 [.int x0, .int x1, va_rf x2] h (some (.int y)) h := by
  cases x2 with
  | none => exact call_of (by decide +kernel) (Nat.le_of_ble_eq_true rfl) (show Go d mJ3_checkIndex_8e157 0 [some (.int x0), some (.int x1), some (va_rf none)] [] h _ _ from go_subL (by simp [subL]) (oJ3_checkIndex_8e157_0 hd hs ⟨rfl, rfl⟩))
  | some v => exact call_of (by decide +kernel) (Nat.le_of_ble_eq_true rfl) (show Go d mJ3_checkIndex_8e157 0 [some (.int x0), some (.int x1), some (va_rf (some v))] [] h _ _ from go_subL (by simp [subL]) (oJ3_checkIndex_8e157_0 hd hs ⟨rfl, rfl⟩))
abbrev kJ0_checkIndex_df160 (h : Hp) (rf : Option Value) (hf : Hp) : Unit → Prop := fun _ => rf = none ∧ hf = h
noncomputable def fJ0_checkIndex_df160 (h : Hp) (x0 : Int32) (x1 : Int32) : Option Unit :=
  (fJ3_checkIndex_8e157 h x0 x1 none).bind fun y1 =>
  some (())
theorem oJ0_checkIndex_df160_0 {d : Nat} (hd : 1 ≤ d) {h : Hp} {x0 : Int32} {x1 : Int32} {rf : Option Value} {hf : Hp} {x : Unit} (hs : fJ0_checkIndex_df160 h x0 x1 = some x) (hk : (kJ0_checkIndex_df160 h rf hf) x) : Go d mJ0_checkIndex_df160 0 [some (.int x0), some (.int x1)] [] h rf hf := by
  unfold fJ0_checkIndex_df160 at hs
  refine go_iload_n (k4 := 0) rfl dJ0_checkIndex_df160_0 ?_
  refine go_iload_n (k4 := 1) rfl dJ0_checkIndex_df160_1 ?_
  refine go_fmt lq_RJ0_1053.1 lq_RJ0_1053.2.1 lq_RJ0_1053.2.2 dJ0_checkIndex_df160_2 (fun ofm => ?_)
  obtain ⟨y1, ey1, hs⟩ := bindS hs
  refine go_S1 (As := [.int x0, .int x1, va_rf ofm]) (st := []) (oJ3_checkIndex_8e157 (d := d - 1) (by omega) (x2 := ofm) (show fJ3_checkIndex_8e157 h x0 x1 ofm = some y1 from ey1)) (by omega) mb_J3_checkIndex_8e157 lm_RJ0_1059 ms_J3_checkIndex_8e157 (Nat.le_of_ble_eq_true rfl) rfl dJ0_checkIndex_df160_5 ?_
  refine go_pop rfl dJ0_checkIndex_df160_8 ?_
  obtain rfl := Option.some.inj hs
  obtain ⟨rfl, rfl⟩ := hk
  exact go_vret rfl dJ0_checkIndex_df160_9
theorem oJ0_checkIndex_df160 {d : Nat} (hd : 1 ≤ d) {h : Hp} {x0 : Int32} {x1 : Int32} {y : Unit} (hs : fJ0_checkIndex_df160 h x0 x1 = some y) : Call d mJ0_checkIndex_df160 [.int x0, .int x1] h (none) h := call_of (by decide +kernel) (Nat.le_of_ble_eq_true rfl) (show Go d mJ0_checkIndex_df160 0 [some (.int x0), some (.int x1)] [] h _ _ from go_subL (by simp [subL]) (oJ0_checkIndex_df160_0 hd hs ⟨rfl, rfl⟩))
abbrev kJ1_charAt_3b067 (h : Hp) (rf : Option Value) (hf : Hp) : Int32 → Prop := fun y => rf = some (.int y) ∧ hf = h
noncomputable def fJ1_charAt_3b067 (h : Hp) (x0 : Nat) (x1 : Int32) : Option Int32 :=
  (bL x0).bind fun v1 =>
  (fJ0_checkIndex_df160 h x1 v1).bind fun y2 =>
  (bA x0 x1).bind fun v3 =>
  nc (((v3 &&& (255 : Int32)).toUInt32 % 65536).toInt32) (some ((((v3 &&& (255 : Int32)).toUInt32 % 65536).toInt32)))
theorem oJ1_charAt_3b067_0 {d : Nat} (hd : 2 ≤ d) {h : Hp} {x0 : Nat} {x1 : Int32} {rf : Option Value} {hf : Hp} {x : Int32} (hs : fJ1_charAt_3b067 h x0 x1 = some x) (hk : (kJ1_charAt_3b067 h rf hf) x) : Go d mJ1_charAt_3b067 0 [some (.ref x0), some (.int x1)] [] h rf hf := by
  unfold fJ1_charAt_3b067 at hs
  refine go_iload_n (k4 := 1) rfl dJ1_charAt_3b067_0 ?_
  refine go_aload_n (k4 := 0) rfl (Or.inr ⟨_, rfl⟩) dJ1_charAt_3b067_1 ?_
  obtain ⟨v1, ev1, hs⟩ := bindS hs
  refine go_bL ev1 dJ1_charAt_3b067_2 ?_
  obtain ⟨y2, ey2, hs⟩ := bindS hs
  refine go_S0 (As := [.int x1, .int v1]) (st := []) (oJ0_checkIndex_df160 (d := d - 1) (by omega) ey2) (by omega) mb_J0_checkIndex_df160 lm_RJ1_9 ms_J0_checkIndex_df160 (Nat.le_of_ble_eq_true rfl) rfl dJ1_charAt_3b067_3 ?_
  refine go_aload_n (k4 := 0) rfl (Or.inr ⟨_, rfl⟩) dJ1_charAt_3b067_6 ?_
  refine go_iload_n (k4 := 1) rfl dJ1_charAt_3b067_7 ?_
  obtain ⟨v3, ev3, hs⟩ := bindS hs
  refine go_bA ev3 dJ1_charAt_3b067_8 ?_
  refine go_at 9 rfl ?_
  refine go_sipush (v := 255) (by decide) dJ1_charAt_3b067_9 ?_
  refine go_iand dJ1_charAt_3b067_12 ?_
  refine go_i2c dJ1_charAt_3b067_13 ?_
  obtain ⟨n1, hs⟩ := nc_at hs
  obtain rfl := Option.some.inj hs
  obtain ⟨rfl, rfl⟩ := hk
  exact go_zret (ty := .char) rfl n1 dJ1_charAt_3b067_14
theorem oJ1_charAt_3b067 {d : Nat} (hd : 2 ≤ d) {h : Hp} {x0 : Nat} {x1 : Int32} {y : Int32} (hs : fJ1_charAt_3b067 h x0 x1 = some y) : Call d mJ1_charAt_3b067 [.ref x0, .int x1] h (some (.int y)) h := call_of (by decide +kernel) (Nat.le_of_ble_eq_true rfl) (show Go d mJ1_charAt_3b067 0 [some (.ref x0), some (.int x1)] [] h _ _ from go_subL (by simp [subL]) (oJ1_charAt_3b067_0 hd hs ⟨rfl, rfl⟩))
abbrev kJ0_charAt_5068e (h : Hp) (rf : Option Value) (hf : Hp) : Int32 → Prop := fun y => rf = some (.int y) ∧ hf = h
noncomputable def fJ0_charAt_5068e (h : Hp) (x0 : Nat) (x1 : Int32) : Option Int32 :=
  gT x0 (
  (fJ0_isLatin1_aae02 h x0).bind fun y1 =>
  if y1 = 0 then (
    (sA x0).bind fun v3 =>
    none) else (
    (sA x0).bind fun v4 =>
    (fJ1_charAt_3b067 h v4 x1).bind fun y5 =>
    nc y5 (some (y5))))
theorem oJ0_charAt_5068e_0 {d : Nat} (hd : 3 ≤ d) {h : Hp} {x0 : Nat} {x1 : Int32} {rf : Option Value} {hf : Hp} {x : Int32} (hs : fJ0_charAt_5068e h x0 x1 = some x) (hk : (kJ0_charAt_5068e h rf hf) x) : Go d mJ0_charAt_5068e 0 [some (.ref x0), some (.int x1)] [] h rf hf := by
  unfold fJ0_charAt_5068e at hs
  refine go_aload_n (k4 := 0) rfl (Or.inr ⟨_, rfl⟩) dJ0_charAt_5068e_0 ?_
  obtain ⟨g2, hs⟩ := gT_at hs
  obtain ⟨y1, ey1, hs⟩ := bindS hs
  refine go_T1 (As := []) (st := []) g2 rfl (oJ0_isLatin1_aae02 (d := d - 1) (by omega) ey1) (by omega) mb_J0_isLatin1_aae02 lm_RJ0_492 mi_J0_isLatin1_aae02 (Nat.le_of_ble_eq_true rfl) rfl dJ0_charAt_5068e_1 ?_
  refine go_if_eq (tgt := 16) (by decide) dJ0_charAt_5068e_4 (fun c => ?_) (fun c => ?_)
  · have hs := if_t c hs
    refine go_aload_n (k4 := 0) rfl (Or.inr ⟨_, rfl⟩) dJ0_charAt_5068e_16 ?_
    obtain ⟨v3, ev3, hs⟩ := bindS hs
    refine go_sA lf_9v ev3 dJ0_charAt_5068e_17 ?_
    refine go_iload_n (k4 := 1) rfl dJ0_charAt_5068e_20 ?_
    cases hs
  · have hs := if_f c hs
    refine go_aload_n (k4 := 0) rfl (Or.inr ⟨_, rfl⟩) dJ0_charAt_5068e_7 ?_
    obtain ⟨v4, ev4, hs⟩ := bindS hs
    refine go_sA lf_9v ev4 dJ0_charAt_5068e_8 ?_
    refine go_iload_n (k4 := 1) rfl dJ0_charAt_5068e_11 ?_
    obtain ⟨y5, ey5, hs⟩ := bindS hs
    refine go_S1 (As := [.ref v4, .int x1]) (st := []) (oJ1_charAt_3b067 (d := d - 1) (by omega) ey5) (by omega) mb_J1_charAt_3b067 lm_RJ0_495 ms_J1_charAt_3b067 (Nat.le_of_ble_eq_true rfl) rfl dJ0_charAt_5068e_12 ?_
    obtain ⟨n1, hs⟩ := nc_at hs
    obtain rfl := Option.some.inj hs
    obtain ⟨rfl, rfl⟩ := hk
    exact go_zret (ty := .char) rfl n1 dJ0_charAt_5068e_15
theorem oJ0_charAt_5068e {d : Nat} (hd : 3 ≤ d) {h : Hp} {x0 : Nat} {x1 : Int32} {y : Int32} (hs : fJ0_charAt_5068e h x0 x1 = some y) : Call d mJ0_charAt_5068e [.ref x0, .int x1] h (some (.int y)) h := call_of (by decide +kernel) (Nat.le_of_ble_eq_true rfl) (show Go d mJ0_charAt_5068e 0 [some (.ref x0), some (.int x1)] [] h _ _ from go_subL (by simp [subL]) (oJ0_charAt_5068e_0 hd hs ⟨rfl, rfl⟩))
abbrev kX12_keyAt (h : Hp) (rf : Option Value) (hf : Hp) : Int32 → Prop := fun y => rf = some (.int y) ∧ hf = h
abbrev pX12_keyAt_4 (d : Nat) (h : Hp) (x0 : Nat) (rf : Option Value) (hf : Hp) : (Int32 × Int32) → Prop := fun s => Go d mX12_keyAt 4 [some (.ref x0), some (.int s.1), some (.int s.2), none] [] h rf hf
abbrev pX12_keyAt_15 (d : Nat) (h : Hp) (x0 : Nat) (x1 : Int32) (x2 : Int32) (rf : Option Value) (hf : Hp) : Int32 → Prop := fun s => Go d mX12_keyAt 15 [some (.ref x0), some (.int x1), some (.int x2), some (.int s)] [] h rf hf
abbrev pX12_keyAt_97 (d : Nat) (h : Hp) (x0 : Nat) (x1 : Int32) (rf : Option Value) (hf : Hp) : Int32 → Prop := fun s => Go d mX12_keyAt 97 [some (.ref x0), some (.int x1), some (.int s), none] [] h rf hf
noncomputable def fX12_keyAt_114 (h : Hp) (x0 : Nat) (x1 : Int32) (x2 : Int32) : Option ((Int32 × Int32) ⊕ Int32) :=
  some (.inl ((x1 + Int32.ofInt 1), (x2 + Int32.ofInt 1)))
theorem oX12_keyAt_114 {d : Nat} (hd : 4 ≤ d) {h : Hp} {x0 : Nat} {x1 : Int32} {x2 : Int32} {rf : Option Value} {hf : Hp} {x : ((Int32 × Int32) ⊕ Int32)} (hs : fX12_keyAt_114 h x0 x1 x2 = some x) (hk : (Kx (pX12_keyAt_4 d h x0 rf hf) (kX12_keyAt h rf hf)) x) : Go d mX12_keyAt 114 [some (.ref x0), some (.int x1), some (.int x2), none] [] h rf hf := by
  unfold fX12_keyAt_114 at hs
  refine go_iinc (L' := [some (.ref x0), some (.int x1), some (.int (x2 + Int32.ofInt 1)), none]) rfl (by decide) rfl rfl dX12_keyAt_114 ?_
  refine go_iinc (L' := [some (.ref x0), some (.int (x1 + Int32.ofInt 1)), some (.int (x2 + Int32.ofInt 1)), none]) rfl (by decide) rfl rfl dX12_keyAt_117 ?_
  refine go_goto (tgt := 4) (by decide) dX12_keyAt_120 ?_
  obtain rfl := Option.some.inj hs
  exact go_subL (L' := [some (.ref x0), some (.int (x1 + Int32.ofInt 1)), some (.int (x2 + Int32.ofInt 1)), none]) (by simp [subL, va_rf]) hk
noncomputable def fX12_keyAt_97b (h : Hp) (x0 : Nat) (x1 : Int32) (x2 : Int32) : Option (Int32 ⊕ ((Int32 × Int32) ⊕ Int32)) :=
  gT 35 (
  (fJ0_charAt_5068e h 35 x2).bind fun y7 =>
  if y7 = (32 : Int32) then (
  (fX12_keyAt_114 h x0 x1 x2).map (fun q => .inr q)) else (
    some (.inl (x2 + Int32.ofInt 1))))
noncomputable def fX12_keyAt_97 (h : Hp) (x0 : Nat) (x1 : Int32) (x2 : Int32) : Option ((Int32 × Int32) ⊕ Int32) := lpw (σ := Int32) (fun s => fX12_keyAt_97b h x0 x1 s) x2
theorem oX12_keyAt_97b {d : Nat} (hd : 4 ≤ d) {h : Hp} {x0 : Nat} {x1 : Int32} {x2 : Int32} {rf : Option Value} {hf : Hp} {x : (Int32 ⊕ ((Int32 × Int32) ⊕ Int32))} (hs : fX12_keyAt_97b h x0 x1 x2 = some x) (hk : (Kx (pX12_keyAt_97 d h x0 x1 rf hf) (Kx (pX12_keyAt_4 d h x0 rf hf) (kX12_keyAt h rf hf))) x) : Go d mX12_keyAt 97 [some (.ref x0), some (.int x1), some (.int x2), none] [] h rf hf := by
  unfold fX12_keyAt_97b at hs
  refine go_str (j := 35) ls_RX12_99 dX12_keyAt_97 ?_
  refine go_iload_n (k4 := 2) rfl dX12_keyAt_99 ?_
  obtain ⟨g8, hs⟩ := gT_at hs
  obtain ⟨y7, ey7, hs⟩ := bindS hs
  refine go_T1 (As := [.int x2]) (st := []) g8 rfl (oJ0_charAt_5068e (d := d - 1) (by omega) ey7) (by omega) mb_J0_charAt_5068e lm_RX12_107 mi_J0_charAt_5068e (Nat.le_of_ble_eq_true rfl) rfl dX12_keyAt_100 ?_
  refine go_bipush (v := 32) (by decide) dX12_keyAt_103 ?_
  refine go_icmp_eq (tgt := 114) (by decide) dX12_keyAt_105 (fun c => ?_) (fun c => ?_)
  · have hs := if_t c hs
    obtain ⟨q, hs2, hq⟩ := mapS hs
    clear hs
    subst hq
    exact go_subL (L' := [some (.ref x0), some (.int x1), some (.int x2), none]) (by simp [subL, va_rf]) (oX12_keyAt_114 hd hs2 hk)
  · have hs := if_f c hs
    refine go_iinc (L' := [some (.ref x0), some (.int x1), some (.int (x2 + Int32.ofInt 1)), none]) rfl (by decide) rfl rfl dX12_keyAt_108 ?_
    refine go_goto (tgt := 97) (by decide) dX12_keyAt_111 ?_
    obtain rfl := Option.some.inj hs
    exact go_subL (L' := [some (.ref x0), some (.int x1), some (.int (x2 + Int32.ofInt 1)), none]) (by simp [subL, va_rf]) hk
theorem oX12_keyAt_97 {d : Nat} (hd : 4 ≤ d) {h : Hp} {x0 : Nat} {x1 : Int32} {x2 : Int32} {rf : Option Value} {hf : Hp} {x : ((Int32 × Int32) ⊕ Int32)} (hs : fX12_keyAt_97 h x0 x1 x2 = some x) (hk : (Kx (pX12_keyAt_4 d h x0 rf hf) (kX12_keyAt h rf hf)) x) : Go d mX12_keyAt 97 [some (.ref x0), some (.int x1), some (.int x2), none] [] h rf hf := by
  unfold fX12_keyAt_97 at hs
  exact lpw_go (P := pX12_keyAt_97 d h x0 x1 rf hf) (fun s x hs hk => oX12_keyAt_97b hd hs hk) x2 x hs hk
noncomputable def fX12_keyAt_69 (h : Hp) (x0 : Nat) (x1 : Int32) (x2 : Int32) (x3 : Int32) : Option ((Int32 × Int32) ⊕ Int32) :=
  gT 35 (
  (fJ0_charAt_5068e h 35 (x2 + x3)).bind fun y5 =>
  if y5 = (32 : Int32) then (
    (gI h 12 x0 6).bind fun v9 =>
    (gI h 12 x0 7).bind fun v10 =>
    if (v9 + x3) = v10 then (
      some (.inr x1)) else (
    fX12_keyAt_97 h x0 x1 x2)) else (
  fX12_keyAt_97 h x0 x1 x2))
theorem oX12_keyAt_69 {d : Nat} (hd : 4 ≤ d) {h : Hp} {x0 : Nat} {x1 : Int32} {x2 : Int32} {x3 : Int32} {rf : Option Value} {hf : Hp} {x : ((Int32 × Int32) ⊕ Int32)} (hs : fX12_keyAt_69 h x0 x1 x2 x3 = some x) (hk : (Kx (pX12_keyAt_4 d h x0 rf hf) (kX12_keyAt h rf hf)) x) : Go d mX12_keyAt 69 [some (.ref x0), some (.int x1), some (.int x2), some (.int x3)] [] h rf hf := by
  unfold fX12_keyAt_69 at hs
  refine go_str (j := 35) ls_RX12_99 dX12_keyAt_69 ?_
  refine go_iload_n (k4 := 2) rfl dX12_keyAt_71 ?_
  refine go_iload_n (k4 := 3) rfl dX12_keyAt_72 ?_
  refine go_iadd dX12_keyAt_73 ?_
  obtain ⟨g6, hs⟩ := gT_at hs
  obtain ⟨y5, ey5, hs⟩ := bindS hs
  refine go_T1 (As := [.int (x2 + x3)]) (st := []) g6 rfl (oJ0_charAt_5068e (d := d - 1) (by omega) ey5) (by omega) mb_J0_charAt_5068e lm_RX12_107 mi_J0_charAt_5068e (Nat.le_of_ble_eq_true rfl) rfl dX12_keyAt_74 ?_
  refine go_bipush (v := 32) (by decide) dX12_keyAt_77 ?_
  refine go_icmp_ne (tgt := 97) (by decide) dX12_keyAt_79 (fun c => ?_) (fun c => ?_)
  · have hs := if_f c hs
    exact go_subL (L' := [some (.ref x0), some (.int x1), some (.int x2), none]) (by simp [subL, va_rf]) (oX12_keyAt_97 hd hs hk)
  · have hs := if_t c hs
    refine go_aload_n (k4 := 0) rfl (Or.inr ⟨_, rfl⟩) dX12_keyAt_82 ?_
    obtain ⟨v9, ev9, hs⟩ := bindS hs
    refine go_gI fl_RX12_111 ev9 dX12_keyAt_83 ?_
    refine go_iload_n (k4 := 3) rfl dX12_keyAt_86 ?_
    refine go_iadd dX12_keyAt_87 ?_
    refine go_aload_n (k4 := 0) rfl (Or.inr ⟨_, rfl⟩) dX12_keyAt_88 ?_
    obtain ⟨v10, ev10, hs⟩ := bindS hs
    refine go_gI fl_RX12_114 ev10 dX12_keyAt_89 ?_
    refine go_icmp_ne (tgt := 97) (by decide) dX12_keyAt_92 (fun c => ?_) (fun c => ?_)
    · have hs := if_f c hs
      exact go_subL (L' := [some (.ref x0), some (.int x1), some (.int x2), none]) (by simp [subL, va_rf]) (oX12_keyAt_97 hd hs hk)
    · have hs := if_t c hs
      refine go_iload_n (k4 := 1) rfl dX12_keyAt_95 ?_
      obtain rfl := Option.some.inj hs
      obtain ⟨rfl, rfl⟩ := hk
      exact go_iret rfl dX12_keyAt_96
noncomputable def fX12_keyAt_15b (h : Hp) (x0 : Nat) (x1 : Int32) (x2 : Int32) (x3 : Int32) : Option (Int32 ⊕ ((Int32 × Int32) ⊕ Int32)) :=
  gT 35 (
  (fJ0_charAt_5068e h 35 (x2 + x3)).bind fun y3 =>
  if y3 = (32 : Int32) then (
  (fX12_keyAt_69 h x0 x1 x2 x3).map (fun q => .inr q)) else (
    (gI h 12 x0 6).bind fun v11 =>
    (gI h 12 x0 7).bind fun v12 =>
    if v12 ≤ (v11 + x3) then (
    (fX12_keyAt_69 h x0 x1 x2 x3).map (fun q => .inr q)) else (
      (gN h 12 x0 3).bind fun v13 =>
      (gI h 12 x0 6).bind fun v14 =>
      (aI 0 h v13 (v14 + x3)).bind fun v15 =>
      gT 35 (
      (fJ0_charAt_5068e h 35 (x2 + x3)).bind fun y16 =>
      if v15 = y16 then (
        some (.inl (x3 + Int32.ofInt 1))) else (
      (fX12_keyAt_69 h x0 x1 x2 x3).map (fun q => .inr q))))))
noncomputable def fX12_keyAt_15 (h : Hp) (x0 : Nat) (x1 : Int32) (x2 : Int32) (x3 : Int32) : Option ((Int32 × Int32) ⊕ Int32) := lpw (σ := Int32) (fun s => fX12_keyAt_15b h x0 x1 x2 s) x3
theorem oX12_keyAt_15b {d : Nat} (hd : 4 ≤ d) {h : Hp} {x0 : Nat} {x1 : Int32} {x2 : Int32} {x3 : Int32} {rf : Option Value} {hf : Hp} {x : (Int32 ⊕ ((Int32 × Int32) ⊕ Int32))} (hs : fX12_keyAt_15b h x0 x1 x2 x3 = some x) (hk : (Kx (pX12_keyAt_15 d h x0 x1 x2 rf hf) (Kx (pX12_keyAt_4 d h x0 rf hf) (kX12_keyAt h rf hf))) x) : Go d mX12_keyAt 15 [some (.ref x0), some (.int x1), some (.int x2), some (.int x3)] [] h rf hf := by
  unfold fX12_keyAt_15b at hs
  refine go_str (j := 35) ls_RX12_99 dX12_keyAt_15 ?_
  refine go_iload_n (k4 := 2) rfl dX12_keyAt_17 ?_
  refine go_iload_n (k4 := 3) rfl dX12_keyAt_18 ?_
  refine go_iadd dX12_keyAt_19 ?_
  obtain ⟨g4, hs⟩ := gT_at hs
  obtain ⟨y3, ey3, hs⟩ := bindS hs
  refine go_T1 (As := [.int (x2 + x3)]) (st := []) g4 rfl (oJ0_charAt_5068e (d := d - 1) (by omega) ey3) (by omega) mb_J0_charAt_5068e lm_RX12_107 mi_J0_charAt_5068e (Nat.le_of_ble_eq_true rfl) rfl dX12_keyAt_20 ?_
  refine go_bipush (v := 32) (by decide) dX12_keyAt_23 ?_
  refine go_icmp_eq (tgt := 69) (by decide) dX12_keyAt_25 (fun c => ?_) (fun c => ?_)
  · have hs := if_t c hs
    obtain ⟨q, hs2, hq⟩ := mapS hs
    clear hs
    subst hq
    exact go_subL (L' := [some (.ref x0), some (.int x1), some (.int x2), some (.int x3)]) (by simp [subL, va_rf]) (oX12_keyAt_69 hd hs2 hk)
  · have hs := if_f c hs
    refine go_aload_n (k4 := 0) rfl (Or.inr ⟨_, rfl⟩) dX12_keyAt_28 ?_
    obtain ⟨v11, ev11, hs⟩ := bindS hs
    refine go_gI fl_RX12_111 ev11 dX12_keyAt_29 ?_
    refine go_iload_n (k4 := 3) rfl dX12_keyAt_32 ?_
    refine go_iadd dX12_keyAt_33 ?_
    refine go_aload_n (k4 := 0) rfl (Or.inr ⟨_, rfl⟩) dX12_keyAt_34 ?_
    obtain ⟨v12, ev12, hs⟩ := bindS hs
    refine go_gI fl_RX12_114 ev12 dX12_keyAt_35 ?_
    refine go_icmp_ge (tgt := 69) (by decide) dX12_keyAt_38 (fun c => ?_) (fun c => ?_)
    · have hs := if_t c hs
      obtain ⟨q, hs2, hq⟩ := mapS hs
      clear hs
      subst hq
      exact go_subL (L' := [some (.ref x0), some (.int x1), some (.int x2), some (.int x3)]) (by simp [subL, va_rf]) (oX12_keyAt_69 hd hs2 hk)
    · have hs := if_f c hs
      refine go_aload_n (k4 := 0) rfl (Or.inr ⟨_, rfl⟩) dX12_keyAt_41 ?_
      obtain ⟨v13, ev13, hs⟩ := bindS hs
      refine go_gN fl_RX12_21 ev13 dX12_keyAt_42 ?_
      refine go_aload_n (k4 := 0) rfl (Or.inr ⟨_, rfl⟩) dX12_keyAt_45 ?_
      obtain ⟨v14, ev14, hs⟩ := bindS hs
      refine go_gI fl_RX12_111 ev14 dX12_keyAt_46 ?_
      refine go_iload_n (k4 := 3) rfl dX12_keyAt_49 ?_
      refine go_iadd dX12_keyAt_50 ?_
      obtain ⟨v15, ev15, hs⟩ := bindS hs
      refine go_aIi ev15 dX12_keyAt_51 ?_
      refine go_at 52 rfl ?_
      refine go_str (j := 35) ls_RX12_99 dX12_keyAt_52 ?_
      refine go_iload_n (k4 := 2) rfl dX12_keyAt_54 ?_
      refine go_iload_n (k4 := 3) rfl dX12_keyAt_55 ?_
      refine go_iadd dX12_keyAt_56 ?_
      obtain ⟨g17, hs⟩ := gT_at hs
      obtain ⟨y16, ey16, hs⟩ := bindS hs
      refine go_T1 (As := [.int (x2 + x3)]) (st := [.int v15]) g17 rfl (oJ0_charAt_5068e (d := d - 1) (by omega) ey16) (by omega) mb_J0_charAt_5068e lm_RX12_107 mi_J0_charAt_5068e (Nat.le_of_ble_eq_true rfl) rfl dX12_keyAt_57 ?_
      refine go_icmp_ne (tgt := 69) (by decide) dX12_keyAt_60 (fun c => ?_) (fun c => ?_)
      · have hs := if_f c hs
        obtain ⟨q, hs2, hq⟩ := mapS hs
        clear hs
        subst hq
        exact go_subL (L' := [some (.ref x0), some (.int x1), some (.int x2), some (.int x3)]) (by simp [subL, va_rf]) (oX12_keyAt_69 hd hs2 hk)
      · have hs := if_t c hs
        refine go_iinc (L' := [some (.ref x0), some (.int x1), some (.int x2), some (.int (x3 + Int32.ofInt 1))]) rfl (by decide) rfl rfl dX12_keyAt_63 ?_
        refine go_goto (tgt := 15) (by decide) dX12_keyAt_66 ?_
        obtain rfl := Option.some.inj hs
        exact go_subL (L' := [some (.ref x0), some (.int x1), some (.int x2), some (.int (x3 + Int32.ofInt 1))]) (by simp [subL, va_rf]) hk
theorem oX12_keyAt_15 {d : Nat} (hd : 4 ≤ d) {h : Hp} {x0 : Nat} {x1 : Int32} {x2 : Int32} {x3 : Int32} {rf : Option Value} {hf : Hp} {x : ((Int32 × Int32) ⊕ Int32)} (hs : fX12_keyAt_15 h x0 x1 x2 x3 = some x) (hk : (Kx (pX12_keyAt_4 d h x0 rf hf) (kX12_keyAt h rf hf)) x) : Go d mX12_keyAt 15 [some (.ref x0), some (.int x1), some (.int x2), some (.int x3)] [] h rf hf := by
  unfold fX12_keyAt_15 at hs
  exact lpw_go (P := pX12_keyAt_15 d h x0 x1 x2 rf hf) (fun s x hs hk => oX12_keyAt_15b hd hs hk) x3 x hs hk
noncomputable def fX12_keyAt_4b (h : Hp) (x0 : Nat) (x1 : Int32) (x2 : Int32) : Option ((Int32 × Int32) ⊕ Int32) :=
  gT 35 (
  (fJ0_length_8abf5 h 35).bind fun y1 =>
  if y1 ≤ x2 then (
    some (.inr (22 : Int32))) else (
    fX12_keyAt_15 h x0 x1 x2 (0 : Int32)))
noncomputable def fX12_keyAt_4 (h : Hp) (x0 : Nat) (x1 : Int32) (x2 : Int32) : Option Int32 := lpw (σ := (Int32 × Int32)) (fun s => fX12_keyAt_4b h x0 s.1 s.2) (x1, x2)
theorem oX12_keyAt_4b {d : Nat} (hd : 4 ≤ d) {h : Hp} {x0 : Nat} {x1 : Int32} {x2 : Int32} {rf : Option Value} {hf : Hp} {x : ((Int32 × Int32) ⊕ Int32)} (hs : fX12_keyAt_4b h x0 x1 x2 = some x) (hk : (Kx (pX12_keyAt_4 d h x0 rf hf) (kX12_keyAt h rf hf)) x) : Go d mX12_keyAt 4 [some (.ref x0), some (.int x1), some (.int x2), none] [] h rf hf := by
  unfold fX12_keyAt_4b at hs
  refine go_iload_n (k4 := 2) rfl dX12_keyAt_4 ?_
  refine go_str (j := 35) ls_RX12_99 dX12_keyAt_5 ?_
  obtain ⟨g2, hs⟩ := gT_at hs
  obtain ⟨y1, ey1, hs⟩ := bindS hs
  refine go_T1 (As := []) (st := [.int x2]) g2 rfl (oJ0_length_8abf5 (d := d - 1) (by omega) ey1) (by omega) mb_J0_length_8abf5 lm_RX12_101 mi_J0_length_8abf5 (Nat.le_of_ble_eq_true rfl) rfl dX12_keyAt_7 ?_
  refine go_icmp_ge (tgt := 123) (by decide) dX12_keyAt_10 (fun c => ?_) (fun c => ?_)
  · have hs := if_t c hs
    refine go_bipush (v := 22) (by decide) dX12_keyAt_123 ?_
    obtain rfl := Option.some.inj hs
    obtain ⟨rfl, rfl⟩ := hk
    exact go_iret rfl dX12_keyAt_125
  · have hs := if_f c hs
    refine go_iconst (v := 0) (by decide) dX12_keyAt_13 ?_
    refine go_istore_n (k4 := 3) (L' := [some (.ref x0), some (.int x1), some (.int x2), some (.int (0 : Int32))]) (by decide) rfl dX12_keyAt_14 ?_
    exact go_subL (L' := [some (.ref x0), some (.int x1), some (.int x2), some (.int (0 : Int32))]) (by simp [subL, va_rf]) (oX12_keyAt_15 hd hs hk)
theorem oX12_keyAt_4 {d : Nat} (hd : 4 ≤ d) {h : Hp} {x0 : Nat} {x1 : Int32} {x2 : Int32} {rf : Option Value} {hf : Hp} {x : Int32} (hs : fX12_keyAt_4 h x0 x1 x2 = some x) (hk : (kX12_keyAt h rf hf) x) : Go d mX12_keyAt 4 [some (.ref x0), some (.int x1), some (.int x2), none] [] h rf hf := by
  unfold fX12_keyAt_4 at hs
  exact lpw_go (P := pX12_keyAt_4 d h x0 rf hf) (fun s x hs hk => oX12_keyAt_4b hd hs hk) (x1, x2) x hs hk
noncomputable def fX12_keyAt (h : Hp) (x0 : Nat) : Option Int32 :=
  fX12_keyAt_4 h x0 (0 : Int32) (1 : Int32)
theorem oX12_keyAt_0 {d : Nat} (hd : 4 ≤ d) {h : Hp} {x0 : Nat} {rf : Option Value} {hf : Hp} {x : Int32} (hs : fX12_keyAt h x0 = some x) (hk : (kX12_keyAt h rf hf) x) : Go d mX12_keyAt 0 [some (.ref x0), none, none, none] [] h rf hf := by
  unfold fX12_keyAt at hs
  refine go_iconst (v := 0) (by decide) dX12_keyAt_0 ?_
  refine go_istore_n (k4 := 1) (L' := [some (.ref x0), some (.int (0 : Int32)), none, none]) (by decide) rfl dX12_keyAt_1 ?_
  refine go_iconst (v := 1) (by decide) dX12_keyAt_2 ?_
  refine go_istore_n (k4 := 2) (L' := [some (.ref x0), some (.int (0 : Int32)), some (.int (1 : Int32)), none]) (by decide) rfl dX12_keyAt_3 ?_
  exact go_subL (L' := [some (.ref x0), some (.int (0 : Int32)), some (.int (1 : Int32)), none]) (by simp [subL, va_rf]) (oX12_keyAt_4 hd hs hk)
theorem oX12_keyAt {d : Nat} (hd : 4 ≤ d) {h : Hp} {x0 : Nat} {y : Int32} (hs : fX12_keyAt h x0 = some y) : Call d mX12_keyAt [.ref x0] h (some (.int y)) h := call_of (by decide +kernel) (Nat.le_of_ble_eq_true rfl) (show Go d mX12_keyAt 0 [some (.ref x0), none, none, none] [] h _ _ from go_subL (by simp [subL]) (oX12_keyAt_0 hd hs ⟨rfl, rfl⟩))
