/-! methods: their texts as functions, and that the machine does just that -/
abbrev kX12_within (h : Hp) (rf : Option Value) (hf : Hp) : Int32 → Prop := fun y => rf = some (.int y) ∧ hf = h
noncomputable def fX12_within_18 (h : Hp) (s0 : Int32) : Option Int32 :=
  bl s0 (some (s0))
theorem oX12_within_18 {d : Nat} (hd : 0 ≤ d) {h : Hp} {s0 : Int32} {rf : Option Value} {hf : Hp} {x : Int32} (hs : fX12_within_18 h s0 = some x) (hk : (kX12_within h rf hf) x) : Go d mX12_within 18 [none, none, none, none, none, none] [.int s0] h rf hf := by
  unfold fX12_within_18 at hs
  obtain ⟨n1, n2, hs⟩ := bl_at hs
  obtain rfl := Option.some.inj hs
  obtain ⟨rfl, rfl⟩ := hk
  exact go_zret (ty := .boolean) rfl n1 dX12_within_18
noncomputable def fX12_within_17 (h : Hp)  : Option Int32 :=
  fX12_within_18 h (0 : Int32)
theorem oX12_within_17 {d : Nat} (hd : 0 ≤ d) {h : Hp} {rf : Option Value} {hf : Hp} {x : Int32} (hs : fX12_within_17 h  = some x) (hk : (kX12_within h rf hf) x) : Go d mX12_within 17 [none, none, none, none, none, none] [] h rf hf := by
  unfold fX12_within_17 at hs
  refine go_iconst (v := 0) (by decide) dX12_within_17 ?_
  exact go_subL (L' := [none, none, none, none, none, none]) (by simp [subL, va_rf]) (oX12_within_18 hd hs hk)
noncomputable def fX12_within (h : Hp) (x0 : Int64) (x2 : Int64) (x4 : Int64) : Option Int32 :=
  if (lg_cmp x0 x2) < 0 then (
  fX12_within_17 h ) else (
    if 0 < (lg_cmp x0 x4) then (
    fX12_within_17 h ) else (
      fX12_within_18 h (1 : Int32)))
theorem oX12_within_0 {d : Nat} (hd : 0 ≤ d) {h : Hp} {x0 : Int64} {x2 : Int64} {x4 : Int64} {rf : Option Value} {hf : Hp} {x : Int32} (hs : fX12_within h x0 x2 x4 = some x) (hk : (kX12_within h rf hf) x) : Go d mX12_within 0 [some (.long x0), none, some (.long x2), none, some (.long x4), none] [] h rf hf := by
  unfold fX12_within at hs
  refine go_lload_n (k4 := 0) rfl dX12_within_0 ?_
  refine go_lload_n (k4 := 2) rfl dX12_within_1 ?_
  refine go_lcmp dX12_within_2 ?_
  refine go_if_lt (tgt := 17) (by decide) dX12_within_3 (fun c => ?_) (fun c => ?_)
  · have hs := if_t c hs
    exact go_subL (L' := [none, none, none, none, none, none]) (by simp [subL, va_rf]) (oX12_within_17 hd hs hk)
  · have hs := if_f c hs
    refine go_lload_n (k4 := 0) rfl dX12_within_6 ?_
    refine go_lload rfl dX12_within_7 ?_
    refine go_lcmp dX12_within_9 ?_
    refine go_if_gt (tgt := 17) (by decide) dX12_within_10 (fun c => ?_) (fun c => ?_)
    · have hs := if_t c hs
      exact go_subL (L' := [none, none, none, none, none, none]) (by simp [subL, va_rf]) (oX12_within_17 hd hs hk)
    · have hs := if_f c hs
      refine go_iconst (v := 1) (by decide) dX12_within_13 ?_
      refine go_goto (tgt := 18) (by decide) dX12_within_14 ?_
      exact go_subL (L' := [none, none, none, none, none, none]) (by simp [subL, va_rf]) (oX12_within_18 hd hs hk)
theorem oX12_within {d : Nat} (hd : 0 ≤ d) {h : Hp} {x0 : Int64} {x2 : Int64} {x4 : Int64} {y : Int32} (hs : fX12_within h x0 x2 x4 = some y) : Call d mX12_within [.long x0, .long x2, .long x4] h (some (.int y)) h := call_of (by decide +kernel) (Nat.le_of_ble_eq_true rfl) (show Go d mX12_within 0 [some (.long x0), none, some (.long x2), none, some (.long x4), none] [] h _ _ from go_subL (by simp [subL]) (oX12_within_0 hd hs ⟨rfl, rfl⟩))
abbrev kX12_plain (rf : Option Value) (hf : Hp) : Hp → Prop := fun y => rf = none ∧ hf = y
abbrev pX12_plain_2 (d : Nat) (x0 : Nat) (rf : Option Value) (hf : Hp) : (Int32 × Hp) → Prop := fun s => Go d mX12_plain 2 [some (.ref x0), some (.int s.1)] [] s.2 rf hf
noncomputable def fX12_plain_2b (h : Hp) (x0 : Nat) (x1 : Int32) : Option ((Int32 × Hp) ⊕ Hp) :=
  if (1038 : Int32) ≤ x1 then (
    some (.inr h)) else (
    (wI 0 h x0 x1 (0 : Int32)).bind fun h1 =>
    some (.inl ((x1 + Int32.ofInt 1), h1)))
noncomputable def fX12_plain_2 (h : Hp) (x0 : Nat) (x1 : Int32) : Option Hp := lpw (σ := (Int32 × Hp)) (fun s => fX12_plain_2b s.2 x0 s.1) (x1, h)
theorem oX12_plain_2b {d : Nat} (hd : 0 ≤ d) {h : Hp} {x0 : Nat} {x1 : Int32} {rf : Option Value} {hf : Hp} {x : ((Int32 × Hp) ⊕ Hp)} (hs : fX12_plain_2b h x0 x1 = some x) (hk : (Kx (pX12_plain_2 d x0 rf hf) (kX12_plain rf hf)) x) : Go d mX12_plain 2 [some (.ref x0), some (.int x1)] [] h rf hf := by
  unfold fX12_plain_2b at hs
  refine go_iload_n (k4 := 1) rfl dX12_plain_2 ?_
  refine go_sipush (v := 1038) (by decide) dX12_plain_3 ?_
  refine go_icmp_ge (tgt := 19) (by decide) dX12_plain_6 (fun c => ?_) (fun c => ?_)
  · have hs := if_t c hs
    obtain rfl := Option.some.inj hs
    obtain ⟨rfl, rfl⟩ := hk
    exact go_vret rfl dX12_plain_19
  · have hs := if_f c hs
    refine go_aload_n (k4 := 0) rfl (Or.inr ⟨_, rfl⟩) dX12_plain_9 ?_
    refine go_iload_n (k4 := 1) rfl dX12_plain_10 ?_
    refine go_iconst (v := 0) (by decide) dX12_plain_11 ?_
    obtain ⟨h1, eh1, hs⟩ := bindS hs
    refine go_wIi eh1 dX12_plain_12 ?_
    refine go_iinc (L' := [some (.ref x0), some (.int (x1 + Int32.ofInt 1))]) rfl (by decide) rfl rfl dX12_plain_13 ?_
    refine go_goto (tgt := 2) (by decide) dX12_plain_16 ?_
    obtain rfl := Option.some.inj hs
    exact go_subL (L' := [some (.ref x0), some (.int (x1 + Int32.ofInt 1))]) (by simp [subL, va_rf]) hk
theorem oX12_plain_2 {d : Nat} (hd : 0 ≤ d) {h : Hp} {x0 : Nat} {x1 : Int32} {rf : Option Value} {hf : Hp} {x : Hp} (hs : fX12_plain_2 h x0 x1 = some x) (hk : (kX12_plain rf hf) x) : Go d mX12_plain 2 [some (.ref x0), some (.int x1)] [] h rf hf := by
  unfold fX12_plain_2 at hs
  exact lpw_go (P := pX12_plain_2 d x0 rf hf) (fun s x hs hk => oX12_plain_2b hd hs hk) (x1, h) x hs hk
noncomputable def fX12_plain (h : Hp) (x0 : Nat) : Option Hp :=
  fX12_plain_2 h x0 (0 : Int32)
theorem oX12_plain_0 {d : Nat} (hd : 0 ≤ d) {h : Hp} {x0 : Nat} {rf : Option Value} {hf : Hp} {x : Hp} (hs : fX12_plain h x0 = some x) (hk : (kX12_plain rf hf) x) : Go d mX12_plain 0 [some (.ref x0), none] [] h rf hf := by
  unfold fX12_plain at hs
  refine go_iconst (v := 0) (by decide) dX12_plain_0 ?_
  refine go_istore_n (k4 := 1) (L' := [some (.ref x0), some (.int (0 : Int32))]) (by decide) rfl dX12_plain_1 ?_
  exact go_subL (L' := [some (.ref x0), some (.int (0 : Int32))]) (by simp [subL, va_rf]) (oX12_plain_2 hd hs hk)
theorem oX12_plain {d : Nat} (hd : 0 ≤ d) {h : Hp} {x0 : Nat} {y : Hp} (hs : fX12_plain h x0 = some y) : Call d mX12_plain [.ref x0] h (none) y := call_of (by decide +kernel) (Nat.le_of_ble_eq_true rfl) (show Go d mX12_plain 0 [some (.ref x0), none] [] h _ _ from go_subL (by simp [subL]) (oX12_plain_0 hd hs ⟨rfl, rfl⟩))
abbrev kX12_init (rf : Option Value) (hf : Hp) : Hp → Prop := fun y => rf = none ∧ hf = y
noncomputable def fX12_init (h : Hp) (x0 : Nat) : Option Hp :=
  lt h.1 fun a2 =>
  (nA 0 h (3114 : Int32)).bind fun h1 =>
  (sV h1 12 x0 1 (.ref a2)).bind fun h3 =>
  lt h3.1 fun a5 =>
  (nA 3 h3 (2 : Int32)).bind fun h4 =>
  (sV h4 12 x0 2 (.ref a5)).bind fun h6 =>
  lt h6.1 fun a8 =>
  (nA 0 h6 (900 : Int32)).bind fun h7 =>
  (sV h7 12 x0 3 (.ref a8)).bind fun h9 =>
  lt h9.1 fun a11 =>
  (nA 0 h9 (1038 : Int32)).bind fun h10 =>
  (sV h10 12 x0 4 (.ref a11)).bind fun h12 =>
  (sV h12 12 x0 14 (.int (-1 : Int32))).bind fun h13 =>
  lt h13.1 fun a15 =>
  (nA 0 h13 (900 : Int32)).bind fun h14 =>
  (sV h14 12 x0 16 (.ref a15)).bind fun h16 =>
  lt h16.1 fun a18 =>
  (nA 0 h16 (8 : Int32)).bind fun h17 =>
  (sV h17 12 x0 17 (.ref a18)).bind fun h19 =>
  lt h19.1 fun a21 =>
  (nA 0 h19 (2000 : Int32)).bind fun h20 =>
  (sV h20 12 x0 18 (.ref a21)).bind fun h22 =>
  lt h22.1 fun a24 =>
  (nA 3 h22 (3700 : Int32)).bind fun h23 =>
  (sV h23 12 x0 19 (.ref a24)).bind fun h25 =>
  lt h25.1 fun a27 =>
  (nA 0 h25 (35 : Int32)).bind fun h26 =>
  (sV h26 12 x0 20 (.ref a27)).bind fun h28 =>
  lt h28.1 fun a30 =>
  (nA 0 h28 (11 : Int32)).bind fun h29 =>
  (sV h29 12 x0 22 (.ref a30)).bind fun h31 =>
  lt h31.1 fun a33 =>
  (nA 0 h31 (20001 : Int32)).bind fun h32 =>
  (sV h32 12 x0 25 (.ref a33)).bind fun h34 =>
  lt h34.1 fun a36 =>
  (nA 0 h34 (20000 : Int32)).bind fun h35 =>
  (sV h35 12 x0 26 (.ref a36)).bind fun h37 =>
  lt h37.1 fun a39 =>
  (nA 0 h37 (20000 : Int32)).bind fun h38 =>
  (sV h38 12 x0 29 (.ref a39)).bind fun h40 =>
  lt h40.1 fun a42 =>
  (nA 0 h40 (700000 : Int32)).bind fun h41 =>
  (sV h41 12 x0 30 (.ref a42)).bind fun h43 =>
  lt h43.1 fun a45 =>
  (nA 0 h43 (20000 : Int32)).bind fun h44 =>
  (sV h44 12 x0 31 (.ref a45)).bind fun h46 =>
  lt h46.1 fun a48 =>
  (nA 3 h46 (20000 : Int32)).bind fun h47 =>
  (sV h47 12 x0 32 (.ref a48)).bind fun h49 =>
  lt h49.1 fun a51 =>
  (nA 2 h49 (20000 : Int32)).bind fun h50 =>
  (sV h50 12 x0 34 (.ref a51)).bind fun h52 =>
  lt h52.1 fun a54 =>
  (nA 2 h52 (20000 : Int32)).bind fun h53 =>
  (sV h53 12 x0 35 (.ref a54)).bind fun h55 =>
  lt h55.1 fun a57 =>
  (nA 0 h55 (19 : Int32)).bind fun h56 =>
  (sV h56 12 x0 36 (.ref a57)).bind fun h58 =>
  lt h58.1 fun a60 =>
  (nA 0 h58 (700000 : Int32)).bind fun h59 =>
  (sV h59 12 x0 37 (.ref a60)).bind fun h61 =>
  lt h61.1 fun a63 =>
  (nA 0 h61 (4 : Int32)).bind fun h62 =>
  (wI 0 h62 a63 (0 : Int32) (-1 : Int32)).bind fun h64 =>
  (wI 0 h64 a63 (1 : Int32) (-1 : Int32)).bind fun h65 =>
  (wI 0 h65 a63 (2 : Int32) (-1 : Int32)).bind fun h66 =>
  (wI 0 h66 a63 (3 : Int32) (-1 : Int32)).bind fun h67 =>
  (sV h67 12 x0 38 (.ref a63)).bind fun h68 =>
  lt h68.1 fun a70 =>
  (nA 0 h68 (4 : Int32)).bind fun h69 =>
  (sV h69 12 x0 39 (.ref a70)).bind fun h71 =>
  lt h71.1 fun a73 =>
  (nA 2 h71 (160 : Int32)).bind fun h72 =>
  (sV h72 12 x0 40 (.ref a73)).bind fun h74 =>
  (gN h74 12 x0 1).bind fun v75 =>
  (fX12_plain h74 v75).bind fun y76 =>
  some (y76)
theorem oX12_init_0 {d : Nat} (hd : 1 ≤ d) {h : Hp} {x0 : Nat} {rf : Option Value} {hf : Hp} {x : Hp} (hs : fX12_init h x0 = some x) (hk : (kX12_init rf hf) x) : Go d mX12_init 0 [some (.ref x0)] [] h rf hf := by
  unfold fX12_init at hs
  refine go_aload_n (k4 := 0) rfl (Or.inr ⟨_, rfl⟩) dX12_init_0 ?_
  refine go_objInit lo_RX12_7.1 lo_RX12_7.2.1 lo_RX12_7.2.2 (by omega) (Nat.le_of_ble_eq_true rfl) dX12_init_1 ?_
  refine go_aload_n (k4 := 0) rfl (Or.inr ⟨_, rfl⟩) dX12_init_4 ?_
  refine go_sipush (v := 3114) (by decide) dX12_init_5 ?_
  obtain ⟨a2, ea2, hs⟩ := lt_at hs
  obtain ⟨h1, eh1, hs⟩ := bindS hs
  refine go_nAi lt_int eh1 dX12_init_8 ?_
  rw [← ea2]
  obtain ⟨h3, eh3, hs⟩ := bindS hs
  refine go_sVF ff_RX12_13 rfl eh3 rfl rfl dX12_init_10 ?_
  refine go_aload_n (k4 := 0) rfl (Or.inr ⟨_, rfl⟩) dX12_init_13 ?_
  refine go_at 14 rfl ?_
  refine go_iconst (v := 2) (by decide) dX12_init_14 ?_
  obtain ⟨a5, ea5, hs⟩ := lt_at hs
  obtain ⟨h4, eh4, hs⟩ := bindS hs
  refine go_nAz lt_boolean eh4 dX12_init_15 ?_
  rw [← ea5]
  obtain ⟨h6, eh6, hs⟩ := bindS hs
  refine go_sVF ff_RX12_17 rfl eh6 rfl rfl dX12_init_17 ?_
  refine go_aload_n (k4 := 0) rfl (Or.inr ⟨_, rfl⟩) dX12_init_20 ?_
  refine go_sipush (v := 900) (by decide) dX12_init_21 ?_
  obtain ⟨a8, ea8, hs⟩ := lt_at hs
  obtain ⟨h7, eh7, hs⟩ := bindS hs
  refine go_nAi lt_int eh7 dX12_init_24 ?_
  rw [← ea8]
  obtain ⟨h9, eh9, hs⟩ := bindS hs
  refine go_sVF ff_RX12_21 rfl eh9 rfl rfl dX12_init_26 ?_
  refine go_aload_n (k4 := 0) rfl (Or.inr ⟨_, rfl⟩) dX12_init_29 ?_
  refine go_at 30 rfl ?_
  refine go_sipush (v := 1038) (by decide) dX12_init_30 ?_
  obtain ⟨a11, ea11, hs⟩ := lt_at hs
  obtain ⟨h10, eh10, hs⟩ := bindS hs
  refine go_nAi lt_int eh10 dX12_init_33 ?_
  rw [← ea11]
  obtain ⟨h12, eh12, hs⟩ := bindS hs
  refine go_sVF ff_RX12_24 rfl eh12 rfl rfl dX12_init_35 ?_
  refine go_aload_n (k4 := 0) rfl (Or.inr ⟨_, rfl⟩) dX12_init_38 ?_
  refine go_iconst (v := -1) (by decide) dX12_init_39 ?_
  obtain ⟨h13, eh13, hs⟩ := bindS hs
  refine go_sV fw_RX12_27 eh13 rfl rfl dX12_init_40 ?_
  refine go_aload_n (k4 := 0) rfl (Or.inr ⟨_, rfl⟩) dX12_init_43 ?_
  refine go_sipush (v := 900) (by decide) dX12_init_44 ?_
  refine go_at 47 rfl ?_
  obtain ⟨a15, ea15, hs⟩ := lt_at hs
  obtain ⟨h14, eh14, hs⟩ := bindS hs
  refine go_nAi lt_int eh14 dX12_init_47 ?_
  rw [← ea15]
  obtain ⟨h16, eh16, hs⟩ := bindS hs
  refine go_sVF ff_RX12_30 rfl eh16 rfl rfl dX12_init_49 ?_
  refine go_aload_n (k4 := 0) rfl (Or.inr ⟨_, rfl⟩) dX12_init_52 ?_
  refine go_bipush (v := 8) (by decide) dX12_init_53 ?_
  obtain ⟨a18, ea18, hs⟩ := lt_at hs
  obtain ⟨h17, eh17, hs⟩ := bindS hs
  refine go_nAi lt_int eh17 dX12_init_55 ?_
  rw [← ea18]
  obtain ⟨h19, eh19, hs⟩ := bindS hs
  refine go_sVF ff_RX12_33 rfl eh19 rfl rfl dX12_init_57 ?_
  refine go_aload_n (k4 := 0) rfl (Or.inr ⟨_, rfl⟩) dX12_init_60 ?_
  refine go_sipush (v := 2000) (by decide) dX12_init_61 ?_
  refine go_at 64 rfl ?_
  obtain ⟨a21, ea21, hs⟩ := lt_at hs
  obtain ⟨h20, eh20, hs⟩ := bindS hs
  refine go_nAi lt_int eh20 dX12_init_64 ?_
  rw [← ea21]
  obtain ⟨h22, eh22, hs⟩ := bindS hs
  refine go_sVF ff_RX12_36 rfl eh22 rfl rfl dX12_init_66 ?_
  refine go_aload_n (k4 := 0) rfl (Or.inr ⟨_, rfl⟩) dX12_init_69 ?_
  refine go_sipush (v := 3700) (by decide) dX12_init_70 ?_
  obtain ⟨a24, ea24, hs⟩ := lt_at hs
  obtain ⟨h23, eh23, hs⟩ := bindS hs
  refine go_nAz lt_boolean eh23 dX12_init_73 ?_
  rw [← ea24]
  obtain ⟨h25, eh25, hs⟩ := bindS hs
  refine go_sVF ff_RX12_39 rfl eh25 rfl rfl dX12_init_75 ?_
  refine go_aload_n (k4 := 0) rfl (Or.inr ⟨_, rfl⟩) dX12_init_78 ?_
  refine go_bipush (v := 35) (by decide) dX12_init_79 ?_
  refine go_at 81 rfl ?_
  obtain ⟨a27, ea27, hs⟩ := lt_at hs
  obtain ⟨h26, eh26, hs⟩ := bindS hs
  refine go_nAi lt_int eh26 dX12_init_81 ?_
  rw [← ea27]
  obtain ⟨h28, eh28, hs⟩ := bindS hs
  refine go_sVF ff_RX12_42 rfl eh28 rfl rfl dX12_init_83 ?_
  refine go_aload_n (k4 := 0) rfl (Or.inr ⟨_, rfl⟩) dX12_init_86 ?_
  refine go_bipush (v := 11) (by decide) dX12_init_87 ?_
  obtain ⟨a30, ea30, hs⟩ := lt_at hs
  obtain ⟨h29, eh29, hs⟩ := bindS hs
  refine go_nAi lt_int eh29 dX12_init_89 ?_
  rw [← ea30]
  obtain ⟨h31, eh31, hs⟩ := bindS hs
  refine go_sVF ff_RX12_45 rfl eh31 rfl rfl dX12_init_91 ?_
  refine go_aload_n (k4 := 0) rfl (Or.inr ⟨_, rfl⟩) dX12_init_94 ?_
  refine go_sipush (v := 20001) (by decide) dX12_init_95 ?_
  refine go_at 98 rfl ?_
  obtain ⟨a33, ea33, hs⟩ := lt_at hs
  obtain ⟨h32, eh32, hs⟩ := bindS hs
  refine go_nAi lt_int eh32 dX12_init_98 ?_
  rw [← ea33]
  obtain ⟨h34, eh34, hs⟩ := bindS hs
  refine go_sVF ff_RX12_48 rfl eh34 rfl rfl dX12_init_100 ?_
  refine go_aload_n (k4 := 0) rfl (Or.inr ⟨_, rfl⟩) dX12_init_103 ?_
  refine go_sipush (v := 20000) (by decide) dX12_init_104 ?_
  obtain ⟨a36, ea36, hs⟩ := lt_at hs
  obtain ⟨h35, eh35, hs⟩ := bindS hs
  refine go_nAi lt_int eh35 dX12_init_107 ?_
  rw [← ea36]
  obtain ⟨h37, eh37, hs⟩ := bindS hs
  refine go_sVF ff_RX12_51 rfl eh37 rfl rfl dX12_init_109 ?_
  refine go_aload_n (k4 := 0) rfl (Or.inr ⟨_, rfl⟩) dX12_init_112 ?_
  refine go_sipush (v := 20000) (by decide) dX12_init_113 ?_
  refine go_at 116 rfl ?_
  obtain ⟨a39, ea39, hs⟩ := lt_at hs
  obtain ⟨h38, eh38, hs⟩ := bindS hs
  refine go_nAi lt_int eh38 dX12_init_116 ?_
  rw [← ea39]
  obtain ⟨h40, eh40, hs⟩ := bindS hs
  refine go_sVF ff_RX12_54 rfl eh40 rfl rfl dX12_init_118 ?_
  refine go_aload_n (k4 := 0) rfl (Or.inr ⟨_, rfl⟩) dX12_init_121 ?_
  refine go_ldc lc_RX12_57 dX12_init_122 ?_
  obtain ⟨a42, ea42, hs⟩ := lt_at hs
  obtain ⟨h41, eh41, hs⟩ := bindS hs
  refine go_nAi lt_int eh41 dX12_init_124 ?_
  rw [← ea42]
  obtain ⟨h43, eh43, hs⟩ := bindS hs
  refine go_sVF ff_RX12_58 rfl eh43 rfl rfl dX12_init_126 ?_
  refine go_aload_n (k4 := 0) rfl (Or.inr ⟨_, rfl⟩) dX12_init_129 ?_
  refine go_sipush (v := 20000) (by decide) dX12_init_130 ?_
  refine go_at 133 rfl ?_
  obtain ⟨a45, ea45, hs⟩ := lt_at hs
  obtain ⟨h44, eh44, hs⟩ := bindS hs
  refine go_nAi lt_int eh44 dX12_init_133 ?_
  rw [← ea45]
  obtain ⟨h46, eh46, hs⟩ := bindS hs
  refine go_sVF ff_RX12_61 rfl eh46 rfl rfl dX12_init_135 ?_
  refine go_aload_n (k4 := 0) rfl (Or.inr ⟨_, rfl⟩) dX12_init_138 ?_
  refine go_sipush (v := 20000) (by decide) dX12_init_139 ?_
  obtain ⟨a48, ea48, hs⟩ := lt_at hs
  obtain ⟨h47, eh47, hs⟩ := bindS hs
  refine go_nAz lt_boolean eh47 dX12_init_142 ?_
  rw [← ea48]
  obtain ⟨h49, eh49, hs⟩ := bindS hs
  refine go_sVF ff_RX12_64 rfl eh49 rfl rfl dX12_init_144 ?_
  refine go_aload_n (k4 := 0) rfl (Or.inr ⟨_, rfl⟩) dX12_init_147 ?_
  refine go_sipush (v := 20000) (by decide) dX12_init_148 ?_
  refine go_at 151 rfl ?_
  obtain ⟨a51, ea51, hs⟩ := lt_at hs
  obtain ⟨h50, eh50, hs⟩ := bindS hs
  refine go_nAl lt_long eh50 dX12_init_151 ?_
  rw [← ea51]
  obtain ⟨h52, eh52, hs⟩ := bindS hs
  refine go_sVF ff_RX12_67 rfl eh52 rfl rfl dX12_init_153 ?_
  refine go_aload_n (k4 := 0) rfl (Or.inr ⟨_, rfl⟩) dX12_init_156 ?_
  refine go_sipush (v := 20000) (by decide) dX12_init_157 ?_
  obtain ⟨a54, ea54, hs⟩ := lt_at hs
  obtain ⟨h53, eh53, hs⟩ := bindS hs
  refine go_nAl lt_long eh53 dX12_init_160 ?_
  rw [← ea54]
  obtain ⟨h55, eh55, hs⟩ := bindS hs
  refine go_sVF ff_RX12_71 rfl eh55 rfl rfl dX12_init_162 ?_
  refine go_aload_n (k4 := 0) rfl (Or.inr ⟨_, rfl⟩) dX12_init_165 ?_
  refine go_bipush (v := 19) (by decide) dX12_init_166 ?_
  refine go_at 168 rfl ?_
  obtain ⟨a57, ea57, hs⟩ := lt_at hs
  obtain ⟨h56, eh56, hs⟩ := bindS hs
  refine go_nAi lt_int eh56 dX12_init_168 ?_
  rw [← ea57]
  obtain ⟨h58, eh58, hs⟩ := bindS hs
  refine go_sVF ff_RX12_74 rfl eh58 rfl rfl dX12_init_170 ?_
  refine go_aload_n (k4 := 0) rfl (Or.inr ⟨_, rfl⟩) dX12_init_173 ?_
  refine go_ldc lc_RX12_57 dX12_init_174 ?_
  obtain ⟨a60, ea60, hs⟩ := lt_at hs
  obtain ⟨h59, eh59, hs⟩ := bindS hs
  refine go_nAi lt_int eh59 dX12_init_176 ?_
  rw [← ea60]
  obtain ⟨h61, eh61, hs⟩ := bindS hs
  refine go_sVF ff_RX12_77 rfl eh61 rfl rfl dX12_init_178 ?_
  refine go_aload_n (k4 := 0) rfl (Or.inr ⟨_, rfl⟩) dX12_init_181 ?_
  refine go_iconst (v := 4) (by decide) dX12_init_182 ?_
  refine go_at 183 rfl ?_
  obtain ⟨a63, ea63, hs⟩ := lt_at hs
  obtain ⟨h62, eh62, hs⟩ := bindS hs
  refine go_nAi lt_int eh62 dX12_init_183 ?_
  rw [← ea63]
  refine go_dup rfl dX12_init_185 ?_
  refine go_iconst (v := 0) (by decide) dX12_init_186 ?_
  refine go_iconst (v := -1) (by decide) dX12_init_187 ?_
  obtain ⟨h64, eh64, hs⟩ := bindS hs
  refine go_wIi eh64 dX12_init_188 ?_
  refine go_dup rfl dX12_init_189 ?_
  refine go_iconst (v := 1) (by decide) dX12_init_190 ?_
  refine go_iconst (v := -1) (by decide) dX12_init_191 ?_
  refine go_at 192 rfl ?_
  obtain ⟨h65, eh65, hs⟩ := bindS hs
  refine go_wIi eh65 dX12_init_192 ?_
  refine go_dup rfl dX12_init_193 ?_
  refine go_iconst (v := 2) (by decide) dX12_init_194 ?_
  refine go_iconst (v := -1) (by decide) dX12_init_195 ?_
  obtain ⟨h66, eh66, hs⟩ := bindS hs
  refine go_wIi eh66 dX12_init_196 ?_
  refine go_dup rfl dX12_init_197 ?_
  refine go_iconst (v := 3) (by decide) dX12_init_198 ?_
  refine go_iconst (v := -1) (by decide) dX12_init_199 ?_
  refine go_at 200 rfl ?_
  obtain ⟨h67, eh67, hs⟩ := bindS hs
  refine go_wIi eh67 dX12_init_200 ?_
  obtain ⟨h68, eh68, hs⟩ := bindS hs
  refine go_sVF ff_RX12_80 rfl eh68 rfl rfl dX12_init_201 ?_
  refine go_aload_n (k4 := 0) rfl (Or.inr ⟨_, rfl⟩) dX12_init_204 ?_
  refine go_iconst (v := 4) (by decide) dX12_init_205 ?_
  obtain ⟨a70, ea70, hs⟩ := lt_at hs
  obtain ⟨h69, eh69, hs⟩ := bindS hs
  refine go_nAi lt_int eh69 dX12_init_206 ?_
  rw [← ea70]
  obtain ⟨h71, eh71, hs⟩ := bindS hs
  refine go_sVF ff_RX12_83 rfl eh71 rfl rfl dX12_init_208 ?_
  refine go_aload_n (k4 := 0) rfl (Or.inr ⟨_, rfl⟩) dX12_init_211 ?_
  refine go_sipush (v := 160) (by decide) dX12_init_212 ?_
  refine go_at 215 rfl ?_
  obtain ⟨a73, ea73, hs⟩ := lt_at hs
  obtain ⟨h72, eh72, hs⟩ := bindS hs
  refine go_nAl lt_long eh72 dX12_init_215 ?_
  rw [← ea73]
  obtain ⟨h74, eh74, hs⟩ := bindS hs
  refine go_sVF ff_RX12_86 rfl eh74 rfl rfl dX12_init_217 ?_
  refine go_aload_n (k4 := 0) rfl (Or.inr ⟨_, rfl⟩) dX12_init_220 ?_
  obtain ⟨v75, ev75, hs⟩ := bindS hs
  refine go_gN fl_RX12_13 ev75 dX12_init_221 ?_
  obtain ⟨y76, ey76, hs⟩ := bindS hs
  refine go_S0 (As := [.ref v75]) (st := []) (oX12_plain (d := d - 1) (by omega) ey76) (by omega) mb_X12_plain lm_RX12_89 ms_X12_plain (Nat.le_of_ble_eq_true rfl) rfl dX12_init_224 ?_
  obtain rfl := Option.some.inj hs
  obtain ⟨rfl, rfl⟩ := hk
  exact go_vret rfl dX12_init_227
theorem oX12_init {d : Nat} (hd : 1 ≤ d) {h : Hp} {x0 : Nat} {y : Hp} (hs : fX12_init h x0 = some y) : Call d mX12_init [.ref x0] h (none) y := call_of (by decide +kernel) (Nat.le_of_ble_eq_true rfl) (show Go d mX12_init 0 [some (.ref x0)] [] h _ _ from go_subL (by simp [subL]) (oX12_init_0 hd hs ⟨rfl, rfl⟩))
abbrev kX12_feed (rf : Option Value) (hf : Hp) : (Int32 × Hp) → Prop := fun y => rf = some (.int y.1) ∧ hf = y.2
abbrev pX12_feed_24 (d : Nat) (x0 : Nat) (x1 : Int32) (x2 : Int32) (x3 : Int32) (x4 : Int32) (x5 : Int32) (rf : Option Value) (hf : Hp) : (Int32 × Hp) → Prop := fun s => Go d mX12_feed 24 [some (.ref x0), some (.int x1), some (.int x2), some (.int x3), some (.int x4), some (.int x5), some (.int s.1), none] [] s.2 rf hf
noncomputable def fX12_feed_77 (h : Hp) (x0 : Nat) (x1 : Int32) (x2 : Int32) (x3 : Int32) (x4 : Int32) (x5 : Int32) (x6 : Int32) (s0 : Int32) : Option ((Int32 × Hp) ⊕ (Int32 × Hp)) :=
  (gN h 12 x0 3).bind fun v4 =>
  (gI h 12 x0 5).bind fun v5 =>
  (rm x6 (4 : Int32)).bind fun v6 =>
  lt ((s0 >>> (((24 : Int32) - ((8 : Int32) * v6)) &&& 31)) &&& (255 : Int32)) fun w7 =>
  (wI 0 h v4 v5 w7).bind fun h8 =>
  (gI h8 12 x0 5).bind fun v9 =>
  (sV h8 12 x0 5 (.int (v9 + (1 : Int32)))).bind fun h10 =>
  some (.inl ((x6 + Int32.ofInt 1), h10))
theorem oX12_feed_77 {d : Nat} (hd : 0 ≤ d) {h : Hp} {x0 : Nat} {x1 : Int32} {x2 : Int32} {x3 : Int32} {x4 : Int32} {x5 : Int32} {x6 : Int32} {s0 : Int32} {rf : Option Value} {hf : Hp} {x : ((Int32 × Hp) ⊕ (Int32 × Hp))} (hs : fX12_feed_77 h x0 x1 x2 x3 x4 x5 x6 s0 = some x) (hk : (Kx (pX12_feed_24 d x0 x1 x2 x3 x4 x5 rf hf) (kX12_feed rf hf)) x) : Go d mX12_feed 77 [some (.ref x0), some (.int x1), some (.int x2), some (.int x3), some (.int x4), some (.int x5), some (.int x6), none] [.int s0] h rf hf := by
  unfold fX12_feed_77 at hs
  refine go_istore (L' := [some (.ref x0), some (.int x1), some (.int x2), some (.int x3), some (.int x4), some (.int x5), some (.int x6), some (.int s0)]) (by decide) rfl dX12_feed_77 ?_
  refine go_aload_n (k4 := 0) rfl (Or.inr ⟨_, rfl⟩) dX12_feed_79 ?_
  obtain ⟨v4, ev4, hs⟩ := bindS hs
  refine go_gN fl_RX12_21 ev4 dX12_feed_80 ?_
  refine go_aload_n (k4 := 0) rfl (Or.inr ⟨_, rfl⟩) dX12_feed_83 ?_
  obtain ⟨v5, ev5, hs⟩ := bindS hs
  refine go_gI fl_RX12_93 ev5 dX12_feed_84 ?_
  refine go_iload rfl dX12_feed_87 ?_
  refine go_bipush (v := 24) (by decide) dX12_feed_89 ?_
  refine go_at 91 rfl ?_
  refine go_bipush (v := 8) (by decide) dX12_feed_91 ?_
  refine go_iload rfl dX12_feed_93 ?_
  refine go_iconst (v := 4) (by decide) dX12_feed_95 ?_
  obtain ⟨v6, ev6, hs⟩ := bindS hs
  refine go_rm ev6 dX12_feed_96 ?_
  refine go_imul dX12_feed_97 ?_
  refine go_isub dX12_feed_98 ?_
  refine go_ishr dX12_feed_99 ?_
  refine go_sipush (v := 255) (by decide) dX12_feed_100 ?_
  refine go_at 103 rfl ?_
  refine go_iand dX12_feed_103 ?_
  obtain ⟨w7, ew7, hs⟩ := lt_at hs
  rw [← ew7]
  obtain ⟨h8, eh8, hs⟩ := bindS hs
  refine go_wIi eh8 dX12_feed_104 ?_
  refine go_aload_n (k4 := 0) rfl (Or.inr ⟨_, rfl⟩) dX12_feed_105 ?_
  refine go_dup rfl dX12_feed_106 ?_
  obtain ⟨v9, ev9, hs⟩ := bindS hs
  refine go_gI fl_RX12_93 ev9 dX12_feed_107 ?_
  refine go_iconst (v := 1) (by decide) dX12_feed_110 ?_
  refine go_iadd dX12_feed_111 ?_
  obtain ⟨h10, eh10, hs⟩ := bindS hs
  refine go_sV fw_RX12_93 eh10 rfl rfl dX12_feed_112 ?_
  refine go_at 115 rfl ?_
  refine go_iinc (L' := [some (.ref x0), some (.int x1), some (.int x2), some (.int x3), some (.int x4), some (.int x5), some (.int (x6 + Int32.ofInt 1)), some (.int s0)]) rfl (by decide) rfl rfl dX12_feed_115 ?_
  refine go_goto (tgt := 24) (by decide) dX12_feed_118 ?_
  obtain rfl := Option.some.inj hs
  exact go_subL (L' := [some (.ref x0), some (.int x1), some (.int x2), some (.int x3), some (.int x4), some (.int x5), some (.int (x6 + Int32.ofInt 1)), none]) (by simp [subL, va_rf]) hk
noncomputable def fX12_feed_24b (h : Hp) (x0 : Nat) (x1 : Int32) (x2 : Int32) (x3 : Int32) (x4 : Int32) (x5 : Int32) (x6 : Int32) : Option ((Int32 × Hp) ⊕ (Int32 × Hp)) :=
  if (20 : Int32) ≤ x6 then (
    (gI h 12 x0 5).bind fun v3 =>
    some (.inr (v3, h))) else (
    if (4 : Int32) ≤ x6 then (
      if (8 : Int32) ≤ x6 then (
        if (12 : Int32) ≤ x6 then (
          if (16 : Int32) ≤ x6 then (
            fX12_feed_77 h x0 x1 x2 x3 x4 x5 x6 x5) else (
            fX12_feed_77 h x0 x1 x2 x3 x4 x5 x6 x4)) else (
          fX12_feed_77 h x0 x1 x2 x3 x4 x5 x6 x3)) else (
        fX12_feed_77 h x0 x1 x2 x3 x4 x5 x6 x2)) else (
      fX12_feed_77 h x0 x1 x2 x3 x4 x5 x6 x1))
noncomputable def fX12_feed_24 (h : Hp) (x0 : Nat) (x1 : Int32) (x2 : Int32) (x3 : Int32) (x4 : Int32) (x5 : Int32) (x6 : Int32) : Option (Int32 × Hp) := lpw (σ := (Int32 × Hp)) (fun s => fX12_feed_24b s.2 x0 x1 x2 x3 x4 x5 s.1) (x6, h)
theorem oX12_feed_24b {d : Nat} (hd : 0 ≤ d) {h : Hp} {x0 : Nat} {x1 : Int32} {x2 : Int32} {x3 : Int32} {x4 : Int32} {x5 : Int32} {x6 : Int32} {rf : Option Value} {hf : Hp} {x : ((Int32 × Hp) ⊕ (Int32 × Hp))} (hs : fX12_feed_24b h x0 x1 x2 x3 x4 x5 x6 = some x) (hk : (Kx (pX12_feed_24 d x0 x1 x2 x3 x4 x5 rf hf) (kX12_feed rf hf)) x) : Go d mX12_feed 24 [some (.ref x0), some (.int x1), some (.int x2), some (.int x3), some (.int x4), some (.int x5), some (.int x6), none] [] h rf hf := by
  unfold fX12_feed_24b at hs
  refine go_iload rfl dX12_feed_24 ?_
  refine go_bipush (v := 20) (by decide) dX12_feed_26 ?_
  refine go_icmp_ge (tgt := 121) (by decide) dX12_feed_28 (fun c => ?_) (fun c => ?_)
  · have hs := if_t c hs
    refine go_aload_n (k4 := 0) rfl (Or.inr ⟨_, rfl⟩) dX12_feed_121 ?_
    obtain ⟨v3, ev3, hs⟩ := bindS hs
    refine go_gI fl_RX12_93 ev3 dX12_feed_122 ?_
    obtain rfl := Option.some.inj hs
    obtain ⟨rfl, rfl⟩ := hk
    exact go_iret rfl dX12_feed_125
  · have hs := if_f c hs
    refine go_iload rfl dX12_feed_31 ?_
    refine go_iconst (v := 4) (by decide) dX12_feed_33 ?_
    refine go_icmp_ge (tgt := 41) (by decide) dX12_feed_34 (fun c => ?_) (fun c => ?_)
    · have hs := if_t c hs
      refine go_iload rfl dX12_feed_41 ?_
      refine go_bipush (v := 8) (by decide) dX12_feed_43 ?_
      refine go_icmp_ge (tgt := 52) (by decide) dX12_feed_45 (fun c => ?_) (fun c => ?_)
      · have hs := if_t c hs
        refine go_iload rfl dX12_feed_52 ?_
        refine go_bipush (v := 12) (by decide) dX12_feed_54 ?_
        refine go_icmp_ge (tgt := 63) (by decide) dX12_feed_56 (fun c => ?_) (fun c => ?_)
        · have hs := if_t c hs
          refine go_iload rfl dX12_feed_63 ?_
          refine go_bipush (v := 16) (by decide) dX12_feed_65 ?_
          refine go_icmp_ge (tgt := 75) (by decide) dX12_feed_67 (fun c => ?_) (fun c => ?_)
          · have hs := if_t c hs
            refine go_iload rfl dX12_feed_75 ?_
            exact go_subL (L' := [some (.ref x0), some (.int x1), some (.int x2), some (.int x3), some (.int x4), some (.int x5), some (.int x6), none]) (by simp [subL, va_rf]) (oX12_feed_77 hd hs hk)
          · have hs := if_f c hs
            refine go_iload rfl dX12_feed_70 ?_
            refine go_goto (tgt := 77) (by decide) dX12_feed_72 ?_
            exact go_subL (L' := [some (.ref x0), some (.int x1), some (.int x2), some (.int x3), some (.int x4), some (.int x5), some (.int x6), none]) (by simp [subL, va_rf]) (oX12_feed_77 hd hs hk)
        · have hs := if_f c hs
          refine go_iload_n (k4 := 3) rfl dX12_feed_59 ?_
          refine go_goto (tgt := 77) (by decide) dX12_feed_60 ?_
          exact go_subL (L' := [some (.ref x0), some (.int x1), some (.int x2), some (.int x3), some (.int x4), some (.int x5), some (.int x6), none]) (by simp [subL, va_rf]) (oX12_feed_77 hd hs hk)
      · have hs := if_f c hs
        refine go_iload_n (k4 := 2) rfl dX12_feed_48 ?_
        refine go_goto (tgt := 77) (by decide) dX12_feed_49 ?_
        exact go_subL (L' := [some (.ref x0), some (.int x1), some (.int x2), some (.int x3), some (.int x4), some (.int x5), some (.int x6), none]) (by simp [subL, va_rf]) (oX12_feed_77 hd hs hk)
    · have hs := if_f c hs
      refine go_iload_n (k4 := 1) rfl dX12_feed_37 ?_
      refine go_goto (tgt := 77) (by decide) dX12_feed_38 ?_
      exact go_subL (L' := [some (.ref x0), some (.int x1), some (.int x2), some (.int x3), some (.int x4), some (.int x5), some (.int x6), none]) (by simp [subL, va_rf]) (oX12_feed_77 hd hs hk)
theorem oX12_feed_24 {d : Nat} (hd : 0 ≤ d) {h : Hp} {x0 : Nat} {x1 : Int32} {x2 : Int32} {x3 : Int32} {x4 : Int32} {x5 : Int32} {x6 : Int32} {rf : Option Value} {hf : Hp} {x : (Int32 × Hp)} (hs : fX12_feed_24 h x0 x1 x2 x3 x4 x5 x6 = some x) (hk : (kX12_feed rf hf) x) : Go d mX12_feed 24 [some (.ref x0), some (.int x1), some (.int x2), some (.int x3), some (.int x4), some (.int x5), some (.int x6), none] [] h rf hf := by
  unfold fX12_feed_24 at hs
  exact lpw_go (P := pX12_feed_24 d x0 x1 x2 x3 x4 x5 rf hf) (fun s x hs hk => oX12_feed_24b hd hs hk) (x6, h) x hs hk
noncomputable def fX12_feed (h : Hp) (x0 : Nat) (x1 : Int32) (x2 : Int32) (x3 : Int32) (x4 : Int32) (x5 : Int32) : Option (Int32 × Hp) :=
  (sV h 12 x0 0 (.int (0 : Int32))).bind fun h1 =>
  (gI h1 12 x0 5).bind fun v2 =>
  if (v2 + (20 : Int32)) ≤ (900 : Int32) then (
    fX12_feed_24 h1 x0 x1 x2 x3 x4 x5 (0 : Int32)) else (
    some (((-5 : Int32), h1)))
theorem oX12_feed_0 {d : Nat} (hd : 0 ≤ d) {h : Hp} {x0 : Nat} {x1 : Int32} {x2 : Int32} {x3 : Int32} {x4 : Int32} {x5 : Int32} {rf : Option Value} {hf : Hp} {x : (Int32 × Hp)} (hs : fX12_feed h x0 x1 x2 x3 x4 x5 = some x) (hk : (kX12_feed rf hf) x) : Go d mX12_feed 0 [some (.ref x0), some (.int x1), some (.int x2), some (.int x3), some (.int x4), some (.int x5), none, none] [] h rf hf := by
  unfold fX12_feed at hs
  refine go_aload_n (k4 := 0) rfl (Or.inr ⟨_, rfl⟩) dX12_feed_0 ?_
  refine go_iconst (v := 0) (by decide) dX12_feed_1 ?_
  obtain ⟨h1, eh1, hs⟩ := bindS hs
  refine go_sV fw_RX12_1 eh1 rfl rfl dX12_feed_2 ?_
  refine go_aload_n (k4 := 0) rfl (Or.inr ⟨_, rfl⟩) dX12_feed_5 ?_
  obtain ⟨v2, ev2, hs⟩ := bindS hs
  refine go_gI fl_RX12_93 ev2 dX12_feed_6 ?_
  refine go_bipush (v := 20) (by decide) dX12_feed_9 ?_
  refine go_iadd dX12_feed_11 ?_
  refine go_at 12 rfl ?_
  refine go_sipush (v := 900) (by decide) dX12_feed_12 ?_
  refine go_icmp_le (tgt := 21) (by decide) dX12_feed_15 (fun c => ?_) (fun c => ?_)
  · have hs := if_t c hs
    refine go_iconst (v := 0) (by decide) dX12_feed_21 ?_
    refine go_istore (L' := [some (.ref x0), some (.int x1), some (.int x2), some (.int x3), some (.int x4), some (.int x5), some (.int (0 : Int32)), none]) (by decide) rfl dX12_feed_22 ?_
    exact go_subL (L' := [some (.ref x0), some (.int x1), some (.int x2), some (.int x3), some (.int x4), some (.int x5), some (.int (0 : Int32)), none]) (by simp [subL, va_rf]) (oX12_feed_24 hd hs hk)
  · have hs := if_f c hs
    refine go_bipush (v := -5) (by decide) dX12_feed_18 ?_
    obtain rfl := Option.some.inj hs
    obtain ⟨rfl, rfl⟩ := hk
    exact go_iret rfl dX12_feed_20
theorem oX12_feed {d : Nat} (hd : 0 ≤ d) {h : Hp} {x0 : Nat} {x1 : Int32} {x2 : Int32} {x3 : Int32} {x4 : Int32} {x5 : Int32} {y : (Int32 × Hp)} (hs : fX12_feed h x0 x1 x2 x3 x4 x5 = some y) : Call d mX12_feed [.ref x0, .int x1, .int x2, .int x3, .int x4, .int x5] h (some (.int y.1)) (y.2) := call_of (by decide +kernel) (Nat.le_of_ble_eq_true rfl) (show Go d mX12_feed 0 [some (.ref x0), some (.int x1), some (.int x2), some (.int x3), some (.int x4), some (.int x5), none, none] [] h _ _ from go_subL (by simp [subL]) (oX12_feed_0 hd hs ⟨rfl, rfl⟩))
abbrev kX12_see (h : Hp) (rf : Option Value) (hf : Hp) : Int32 → Prop := fun y => rf = some (.int y) ∧ hf = h
noncomputable def fX12_see_18 (h : Hp) (s0 : Int32) : Option Int32 :=
  some (s0)
theorem oX12_see_18 {d : Nat} (hd : 0 ≤ d) {h : Hp} {s0 : Int32} {rf : Option Value} {hf : Hp} {x : Int32} (hs : fX12_see_18 h s0 = some x) (hk : (kX12_see h rf hf) x) : Go d mX12_see 18 [none, none] [.int s0] h rf hf := by
  unfold fX12_see_18 at hs
  obtain rfl := Option.some.inj hs
  obtain ⟨rfl, rfl⟩ := hk
  exact go_iret rfl dX12_see_18
noncomputable def fX12_see (h : Hp) (x0 : Nat) (x1 : Int32) : Option Int32 :=
  (gI h 12 x0 8).bind fun v1 =>
  if v1 ≤ x1 then (
    fX12_see_18 h (-1 : Int32)) else (
    (gN h 12 x0 3).bind fun v2 =>
    (aI 0 h v2 x1).bind fun v3 =>
    fX12_see_18 h v3)
theorem oX12_see_0 {d : Nat} (hd : 0 ≤ d) {h : Hp} {x0 : Nat} {x1 : Int32} {rf : Option Value} {hf : Hp} {x : Int32} (hs : fX12_see h x0 x1 = some x) (hk : (kX12_see h rf hf) x) : Go d mX12_see 0 [some (.ref x0), some (.int x1)] [] h rf hf := by
  unfold fX12_see at hs
  refine go_iload_n (k4 := 1) rfl dX12_see_0 ?_
  refine go_aload_n (k4 := 0) rfl (Or.inr ⟨_, rfl⟩) dX12_see_1 ?_
  obtain ⟨v1, ev1, hs⟩ := bindS hs
  refine go_gI fl_RX12_96 ev1 dX12_see_2 ?_
  refine go_icmp_ge (tgt := 17) (by decide) dX12_see_5 (fun c => ?_) (fun c => ?_)
  · have hs := if_t c hs
    refine go_iconst (v := -1) (by decide) dX12_see_17 ?_
    exact go_subL (L' := [none, none]) (by simp [subL, va_rf]) (oX12_see_18 hd hs hk)
  · have hs := if_f c hs
    refine go_aload_n (k4 := 0) rfl (Or.inr ⟨_, rfl⟩) dX12_see_8 ?_
    obtain ⟨v2, ev2, hs⟩ := bindS hs
    refine go_gN fl_RX12_21 ev2 dX12_see_9 ?_
    refine go_iload_n (k4 := 1) rfl dX12_see_12 ?_
    obtain ⟨v3, ev3, hs⟩ := bindS hs
    refine go_aIi ev3 dX12_see_13 ?_
    refine go_goto (tgt := 18) (by decide) dX12_see_14 ?_
    exact go_subL (L' := [none, none]) (by simp [subL, va_rf]) (oX12_see_18 hd hs hk)
theorem oX12_see {d : Nat} (hd : 0 ≤ d) {h : Hp} {x0 : Nat} {x1 : Int32} {y : Int32} (hs : fX12_see h x0 x1 = some y) : Call d mX12_see [.ref x0, .int x1] h (some (.int y)) h := call_of (by decide +kernel) (Nat.le_of_ble_eq_true rfl) (show Go d mX12_see 0 [some (.ref x0), some (.int x1)] [] h _ _ from go_subL (by simp [subL]) (oX12_see_0 hd hs ⟨rfl, rfl⟩))
abbrev kX12_isSmall (h : Hp) (rf : Option Value) (hf : Hp) : Int32 → Prop := fun y => rf = some (.int y) ∧ hf = h
noncomputable def fX12_isSmall_17 (h : Hp) (s0 : Int32) : Option Int32 :=
  bl s0 (some (s0))
theorem oX12_isSmall_17 {d : Nat} (hd : 0 ≤ d) {h : Hp} {s0 : Int32} {rf : Option Value} {hf : Hp} {x : Int32} (hs : fX12_isSmall_17 h s0 = some x) (hk : (kX12_isSmall h rf hf) x) : Go d mX12_isSmall 17 [none] [.int s0] h rf hf := by
  unfold fX12_isSmall_17 at hs
  obtain ⟨n1, n2, hs⟩ := bl_at hs
  obtain rfl := Option.some.inj hs
  obtain ⟨rfl, rfl⟩ := hk
  exact go_zret (ty := .boolean) rfl n1 dX12_isSmall_17
noncomputable def fX12_isSmall_16 (h : Hp)  : Option Int32 :=
  fX12_isSmall_17 h (0 : Int32)
theorem oX12_isSmall_16 {d : Nat} (hd : 0 ≤ d) {h : Hp} {rf : Option Value} {hf : Hp} {x : Int32} (hs : fX12_isSmall_16 h  = some x) (hk : (kX12_isSmall h rf hf) x) : Go d mX12_isSmall 16 [none] [] h rf hf := by
  unfold fX12_isSmall_16 at hs
  refine go_iconst (v := 0) (by decide) dX12_isSmall_16 ?_
  exact go_subL (L' := [none]) (by simp [subL, va_rf]) (oX12_isSmall_17 hd hs hk)
noncomputable def fX12_isSmall (h : Hp) (x0 : Int32) : Option Int32 :=
  if x0 < (97 : Int32) then (
  fX12_isSmall_16 h ) else (
    if (122 : Int32) < x0 then (
    fX12_isSmall_16 h ) else (
      fX12_isSmall_17 h (1 : Int32)))
theorem oX12_isSmall_0 {d : Nat} (hd : 0 ≤ d) {h : Hp} {x0 : Int32} {rf : Option Value} {hf : Hp} {x : Int32} (hs : fX12_isSmall h x0 = some x) (hk : (kX12_isSmall h rf hf) x) : Go d mX12_isSmall 0 [some (.int x0)] [] h rf hf := by
  unfold fX12_isSmall at hs
  refine go_iload_n (k4 := 0) rfl dX12_isSmall_0 ?_
  refine go_bipush (v := 97) (by decide) dX12_isSmall_1 ?_
  refine go_icmp_lt (tgt := 16) (by decide) dX12_isSmall_3 (fun c => ?_) (fun c => ?_)
  · have hs := if_t c hs
    exact go_subL (L' := [none]) (by simp [subL, va_rf]) (oX12_isSmall_16 hd hs hk)
  · have hs := if_f c hs
    refine go_iload_n (k4 := 0) rfl dX12_isSmall_6 ?_
    refine go_bipush (v := 122) (by decide) dX12_isSmall_7 ?_
    refine go_icmp_gt (tgt := 16) (by decide) dX12_isSmall_9 (fun c => ?_) (fun c => ?_)
    · have hs := if_t c hs
      exact go_subL (L' := [none]) (by simp [subL, va_rf]) (oX12_isSmall_16 hd hs hk)
    · have hs := if_f c hs
      refine go_iconst (v := 1) (by decide) dX12_isSmall_12 ?_
      refine go_goto (tgt := 17) (by decide) dX12_isSmall_13 ?_
      exact go_subL (L' := [none]) (by simp [subL, va_rf]) (oX12_isSmall_17 hd hs hk)
theorem oX12_isSmall {d : Nat} (hd : 0 ≤ d) {h : Hp} {x0 : Int32} {y : Int32} (hs : fX12_isSmall h x0 = some y) : Call d mX12_isSmall [.int x0] h (some (.int y)) h := call_of (by decide +kernel) (Nat.le_of_ble_eq_true rfl) (show Go d mX12_isSmall 0 [some (.int x0)] [] h _ _ from go_subL (by simp [subL]) (oX12_isSmall_0 hd hs ⟨rfl, rfl⟩))
abbrev kX12_isDigit (h : Hp) (rf : Option Value) (hf : Hp) : Int32 → Prop := fun y => rf = some (.int y) ∧ hf = h
noncomputable def fX12_isDigit_17 (h : Hp) (s0 : Int32) : Option Int32 :=
  bl s0 (some (s0))
theorem oX12_isDigit_17 {d : Nat} (hd : 0 ≤ d) {h : Hp} {s0 : Int32} {rf : Option Value} {hf : Hp} {x : Int32} (hs : fX12_isDigit_17 h s0 = some x) (hk : (kX12_isDigit h rf hf) x) : Go d mX12_isDigit 17 [none] [.int s0] h rf hf := by
  unfold fX12_isDigit_17 at hs
  obtain ⟨n1, n2, hs⟩ := bl_at hs
  obtain rfl := Option.some.inj hs
  obtain ⟨rfl, rfl⟩ := hk
  exact go_zret (ty := .boolean) rfl n1 dX12_isDigit_17
noncomputable def fX12_isDigit_16 (h : Hp)  : Option Int32 :=
  fX12_isDigit_17 h (0 : Int32)
theorem oX12_isDigit_16 {d : Nat} (hd : 0 ≤ d) {h : Hp} {rf : Option Value} {hf : Hp} {x : Int32} (hs : fX12_isDigit_16 h  = some x) (hk : (kX12_isDigit h rf hf) x) : Go d mX12_isDigit 16 [none] [] h rf hf := by
  unfold fX12_isDigit_16 at hs
  refine go_iconst (v := 0) (by decide) dX12_isDigit_16 ?_
  exact go_subL (L' := [none]) (by simp [subL, va_rf]) (oX12_isDigit_17 hd hs hk)
noncomputable def fX12_isDigit (h : Hp) (x0 : Int32) : Option Int32 :=
  if x0 < (48 : Int32) then (
  fX12_isDigit_16 h ) else (
    if (57 : Int32) < x0 then (
    fX12_isDigit_16 h ) else (
      fX12_isDigit_17 h (1 : Int32)))
theorem oX12_isDigit_0 {d : Nat} (hd : 0 ≤ d) {h : Hp} {x0 : Int32} {rf : Option Value} {hf : Hp} {x : Int32} (hs : fX12_isDigit h x0 = some x) (hk : (kX12_isDigit h rf hf) x) : Go d mX12_isDigit 0 [some (.int x0)] [] h rf hf := by
  unfold fX12_isDigit at hs
  refine go_iload_n (k4 := 0) rfl dX12_isDigit_0 ?_
  refine go_bipush (v := 48) (by decide) dX12_isDigit_1 ?_
  refine go_icmp_lt (tgt := 16) (by decide) dX12_isDigit_3 (fun c => ?_) (fun c => ?_)
  · have hs := if_t c hs
    exact go_subL (L' := [none]) (by simp [subL, va_rf]) (oX12_isDigit_16 hd hs hk)
  · have hs := if_f c hs
    refine go_iload_n (k4 := 0) rfl dX12_isDigit_6 ?_
    refine go_bipush (v := 57) (by decide) dX12_isDigit_7 ?_
    refine go_icmp_gt (tgt := 16) (by decide) dX12_isDigit_9 (fun c => ?_) (fun c => ?_)
    · have hs := if_t c hs
      exact go_subL (L' := [none]) (by simp [subL, va_rf]) (oX12_isDigit_16 hd hs hk)
    · have hs := if_f c hs
      refine go_iconst (v := 1) (by decide) dX12_isDigit_12 ?_
      refine go_goto (tgt := 17) (by decide) dX12_isDigit_13 ?_
      exact go_subL (L' := [none]) (by simp [subL, va_rf]) (oX12_isDigit_17 hd hs hk)
theorem oX12_isDigit {d : Nat} (hd : 0 ≤ d) {h : Hp} {x0 : Int32} {y : Int32} (hs : fX12_isDigit h x0 = some y) : Call d mX12_isDigit [.int x0] h (some (.int y)) h := call_of (by decide +kernel) (Nat.le_of_ble_eq_true rfl) (show Go d mX12_isDigit 0 [some (.int x0)] [] h _ _ from go_subL (by simp [subL]) (oX12_isDigit_0 hd hs ⟨rfl, rfl⟩))
abbrev kX12_fails (rf : Option Value) (hf : Hp) : Hp → Prop := fun y => rf = none ∧ hf = y
noncomputable def fX12_fails_23 (h : Hp) (x0 : Nat) (s0 : Nat) (s1 : Int32) : Option Hp :=
  (sV h 12 s0 11 (.int s1)).bind fun h3 =>
  (gI h3 12 x0 6).bind fun v4 =>
  (sV h3 12 x0 12 (.int v4)).bind fun h5 =>
  some (h5)
theorem oX12_fails_23 {d : Nat} (hd : 0 ≤ d) {h : Hp} {x0 : Nat} {s0 : Nat} {s1 : Int32} {rf : Option Value} {hf : Hp} {x : Hp} (hs : fX12_fails_23 h x0 s0 s1 = some x) (hk : (kX12_fails rf hf) x) : Go d mX12_fails 23 [some (.ref x0), none] [.int s1, .ref s0] h rf hf := by
  unfold fX12_fails_23 at hs
  obtain ⟨h3, eh3, hs⟩ := bindS hs
  refine go_sV fw_RX12_139 eh3 rfl rfl dX12_fails_23 ?_
  refine go_aload_n (k4 := 0) rfl (Or.inr ⟨_, rfl⟩) dX12_fails_26 ?_
  refine go_aload_n (k4 := 0) rfl (Or.inr ⟨_, rfl⟩) dX12_fails_27 ?_
  obtain ⟨v4, ev4, hs⟩ := bindS hs
  refine go_gI fl_RX12_111 ev4 dX12_fails_28 ?_
  obtain ⟨h5, eh5, hs⟩ := bindS hs
  refine go_sV fw_RX12_142 eh5 rfl rfl dX12_fails_31 ?_
  obtain rfl := Option.some.inj hs
  obtain ⟨rfl, rfl⟩ := hk
  exact go_vret rfl dX12_fails_34
noncomputable def fX12_fails (h : Hp) (x0 : Nat) (x1 : Int32) : Option Hp :=
  (gI h 12 x0 11).bind fun v1 =>
  if v1 = 0 then (
    (gI h 12 x0 9).bind fun v2 =>
    if v2 = (25 : Int32) then (
      fX12_fails_23 h x0 x0 (1 : Int32)) else (
      fX12_fails_23 h x0 x0 x1)) else (
    some (h))
theorem oX12_fails_0 {d : Nat} (hd : 0 ≤ d) {h : Hp} {x0 : Nat} {x1 : Int32} {rf : Option Value} {hf : Hp} {x : Hp} (hs : fX12_fails h x0 x1 = some x) (hk : (kX12_fails rf hf) x) : Go d mX12_fails 0 [some (.ref x0), some (.int x1)] [] h rf hf := by
  unfold fX12_fails at hs
  refine go_aload_n (k4 := 0) rfl (Or.inr ⟨_, rfl⟩) dX12_fails_0 ?_
  obtain ⟨v1, ev1, hs⟩ := bindS hs
  refine go_gI fl_RX12_139 ev1 dX12_fails_1 ?_
  refine go_if_eq (tgt := 8) (by decide) dX12_fails_4 (fun c => ?_) (fun c => ?_)
  · have hs := if_t c hs
    refine go_aload_n (k4 := 0) rfl (Or.inr ⟨_, rfl⟩) dX12_fails_8 ?_
    refine go_aload_n (k4 := 0) rfl (Or.inr ⟨_, rfl⟩) dX12_fails_9 ?_
    obtain ⟨v2, ev2, hs⟩ := bindS hs
    refine go_gI fl_RX12_121 ev2 dX12_fails_10 ?_
    refine go_bipush (v := 25) (by decide) dX12_fails_13 ?_
    refine go_icmp_ne (tgt := 22) (by decide) dX12_fails_15 (fun c => ?_) (fun c => ?_)
    · have hs := if_f c hs
      refine go_iload_n (k4 := 1) rfl dX12_fails_22 ?_
      exact go_subL (L' := [some (.ref x0), none]) (by simp [subL, va_rf]) (oX12_fails_23 hd hs hk)
    · have hs := if_t c hs
      refine go_iconst (v := 1) (by decide) dX12_fails_18 ?_
      refine go_goto (tgt := 23) (by decide) dX12_fails_19 ?_
      exact go_subL (L' := [some (.ref x0), none]) (by simp [subL, va_rf]) (oX12_fails_23 hd hs hk)
  · have hs := if_f c hs
    obtain rfl := Option.some.inj hs
    obtain ⟨rfl, rfl⟩ := hk
    exact go_vret rfl dX12_fails_7
theorem oX12_fails {d : Nat} (hd : 0 ≤ d) {h : Hp} {x0 : Nat} {x1 : Int32} {y : Hp} (hs : fX12_fails h x0 x1 = some y) : Call d mX12_fails [.ref x0, .int x1] h (none) y := call_of (by decide +kernel) (Nat.le_of_ble_eq_true rfl) (show Go d mX12_fails 0 [some (.ref x0), some (.int x1)] [] h _ _ from go_subL (by simp [subL]) (oX12_fails_0 hd hs ⟨rfl, rfl⟩))
abbrev kX12_is (h : Hp) (rf : Option Value) (hf : Hp) : Int32 → Prop := fun y => rf = some (.int y) ∧ hf = h
noncomputable def fX12_is_20 (h : Hp) (s0 : Int32) : Option Int32 :=
  bl s0 (some (s0))
theorem oX12_is_20 {d : Nat} (hd : 0 ≤ d) {h : Hp} {s0 : Int32} {rf : Option Value} {hf : Hp} {x : Int32} (hs : fX12_is_20 h s0 = some x) (hk : (kX12_is h rf hf) x) : Go d mX12_is 20 [none, none] [.int s0] h rf hf := by
  unfold fX12_is_20 at hs
  obtain ⟨n1, n2, hs⟩ := bl_at hs
  obtain rfl := Option.some.inj hs
  obtain ⟨rfl, rfl⟩ := hk
  exact go_zret (ty := .boolean) rfl n1 dX12_is_20
noncomputable def fX12_is_19 (h : Hp)  : Option Int32 :=
  fX12_is_20 h (0 : Int32)
theorem oX12_is_19 {d : Nat} (hd : 0 ≤ d) {h : Hp} {rf : Option Value} {hf : Hp} {x : Int32} (hs : fX12_is_19 h  = some x) (hk : (kX12_is h rf hf) x) : Go d mX12_is 19 [none, none] [] h rf hf := by
  unfold fX12_is_19 at hs
  refine go_iconst (v := 0) (by decide) dX12_is_19 ?_
  exact go_subL (L' := [none, none]) (by simp [subL, va_rf]) (oX12_is_20 hd hs hk)
noncomputable def fX12_is (h : Hp) (x0 : Nat) (x1 : Int32) : Option Int32 :=
  (gI h 12 x0 11).bind fun v1 =>
  if v1 = 0 then (
    (gI h 12 x0 9).bind fun v2 =>
    if v2 = x1 then (
      fX12_is_20 h (1 : Int32)) else (
    fX12_is_19 h )) else (
  fX12_is_19 h )
theorem oX12_is_0 {d : Nat} (hd : 0 ≤ d) {h : Hp} {x0 : Nat} {x1 : Int32} {rf : Option Value} {hf : Hp} {x : Int32} (hs : fX12_is h x0 x1 = some x) (hk : (kX12_is h rf hf) x) : Go d mX12_is 0 [some (.ref x0), some (.int x1)] [] h rf hf := by
  unfold fX12_is at hs
  refine go_aload_n (k4 := 0) rfl (Or.inr ⟨_, rfl⟩) dX12_is_0 ?_
  obtain ⟨v1, ev1, hs⟩ := bindS hs
  refine go_gI fl_RX12_139 ev1 dX12_is_1 ?_
  refine go_if_ne (tgt := 19) (by decide) dX12_is_4 (fun c => ?_) (fun c => ?_)
  · have hs := if_f c hs
    exact go_subL (L' := [none, none]) (by simp [subL, va_rf]) (oX12_is_19 hd hs hk)
  · have hs := if_t c hs
    refine go_aload_n (k4 := 0) rfl (Or.inr ⟨_, rfl⟩) dX12_is_7 ?_
    obtain ⟨v2, ev2, hs⟩ := bindS hs
    refine go_gI fl_RX12_121 ev2 dX12_is_8 ?_
    refine go_iload_n (k4 := 1) rfl dX12_is_11 ?_
    refine go_icmp_ne (tgt := 19) (by decide) dX12_is_12 (fun c => ?_) (fun c => ?_)
    · have hs := if_f c hs
      exact go_subL (L' := [none, none]) (by simp [subL, va_rf]) (oX12_is_19 hd hs hk)
    · have hs := if_t c hs
      refine go_iconst (v := 1) (by decide) dX12_is_15 ?_
      refine go_goto (tgt := 20) (by decide) dX12_is_16 ?_
      exact go_subL (L' := [none, none]) (by simp [subL, va_rf]) (oX12_is_20 hd hs hk)
theorem oX12_is {d : Nat} (hd : 0 ≤ d) {h : Hp} {x0 : Nat} {x1 : Int32} {y : Int32} (hs : fX12_is h x0 x1 = some y) : Call d mX12_is [.ref x0, .int x1] h (some (.int y)) h := call_of (by decide +kernel) (Nat.le_of_ble_eq_true rfl) (show Go d mX12_is 0 [some (.ref x0), some (.int x1)] [] h _ _ from go_subL (by simp [subL]) (oX12_is_0 hd hs ⟨rfl, rfl⟩))
abbrev kX12_isIn (h : Hp) (rf : Option Value) (hf : Hp) : Int32 → Prop := fun y => rf = some (.int y) ∧ hf = h
noncomputable def fX12_isIn_15 (h : Hp) (s0 : Int32) : Option Int32 :=
  bl s0 (some (s0))
theorem oX12_isIn_15 {d : Nat} (hd : 0 ≤ d) {h : Hp} {s0 : Int32} {rf : Option Value} {hf : Hp} {x : Int32} (hs : fX12_isIn_15 h s0 = some x) (hk : (kX12_isIn h rf hf) x) : Go d mX12_isIn 15 [none, none, none] [.int s0] h rf hf := by
  unfold fX12_isIn_15 at hs
  obtain ⟨n1, n2, hs⟩ := bl_at hs
  obtain rfl := Option.some.inj hs
  obtain ⟨rfl, rfl⟩ := hk
  exact go_zret (ty := .boolean) rfl n1 dX12_isIn_15
noncomputable def fX12_isIn (h : Hp) (x0 : Int64) (x2 : Int32) : Option Int32 :=
  if (lg_cmp ((x0 >>> (x2.toInt64 &&& 63)) &&& (1 : Int64)) (1 : Int64)) = 0 then (
    fX12_isIn_15 h (1 : Int32)) else (
    fX12_isIn_15 h (0 : Int32))
theorem oX12_isIn_0 {d : Nat} (hd : 0 ≤ d) {h : Hp} {x0 : Int64} {x2 : Int32} {rf : Option Value} {hf : Hp} {x : Int32} (hs : fX12_isIn h x0 x2 = some x) (hk : (kX12_isIn h rf hf) x) : Go d mX12_isIn 0 [some (.long x0), none, some (.int x2)] [] h rf hf := by
  unfold fX12_isIn at hs
  refine go_lload_n (k4 := 0) rfl dX12_isIn_0 ?_
  refine go_iload_n (k4 := 2) rfl dX12_isIn_1 ?_
  refine go_lshr dX12_isIn_2 ?_
  refine go_lconst (v := 1) (by decide) dX12_isIn_3 ?_
  refine go_land dX12_isIn_4 ?_
  refine go_lconst (v := 1) (by decide) dX12_isIn_5 ?_
  refine go_lcmp dX12_isIn_6 ?_
  refine go_at 7 rfl ?_
  refine go_if_ne (tgt := 14) (by decide) dX12_isIn_7 (fun c => ?_) (fun c => ?_)
  · have hs := if_f c hs
    refine go_iconst (v := 0) (by decide) dX12_isIn_14 ?_
    exact go_subL (L' := [none, none, none]) (by simp [subL, va_rf]) (oX12_isIn_15 hd hs hk)
  · have hs := if_t c hs
    refine go_iconst (v := 1) (by decide) dX12_isIn_10 ?_
    refine go_goto (tgt := 15) (by decide) dX12_isIn_11 ?_
    exact go_subL (L' := [none, none, none]) (by simp [subL, va_rf]) (oX12_isIn_15 hd hs hk)
theorem oX12_isIn {d : Nat} (hd : 0 ≤ d) {h : Hp} {x0 : Int64} {x2 : Int32} {y : Int32} (hs : fX12_isIn h x0 x2 = some y) : Call d mX12_isIn [.long x0, .int x2] h (some (.int y)) h := call_of (by decide +kernel) (Nat.le_of_ble_eq_true rfl) (show Go d mX12_isIn 0 [some (.long x0), none, some (.int x2)] [] h _ _ from go_subL (by simp [subL]) (oX12_isIn_0 hd hs ⟨rfl, rfl⟩))
abbrev kX12_wordOf (h : Hp) (rf : Option Value) (hf : Hp) : Int32 → Prop := fun y => rf = some (.int y) ∧ hf = h
noncomputable def fX12_wordOf_85 (h : Hp) (s0 : Int32) : Option Int32 :=
  some (s0)
theorem oX12_wordOf_85 {d : Nat} (hd : 0 ≤ d) {h : Hp} {s0 : Int32} {rf : Option Value} {hf : Hp} {x : Int32} (hs : fX12_wordOf_85 h s0 = some x) (hk : (kX12_wordOf h rf hf) x) : Go d mX12_wordOf 85 [none, none] [.int s0] h rf hf := by
  unfold fX12_wordOf_85 at hs
  obtain rfl := Option.some.inj hs
  obtain ⟨rfl, rfl⟩ := hk
  exact go_iret rfl dX12_wordOf_85
noncomputable def fX12_wordOf_47 (h : Hp) (s0 : Int32) : Option Int32 :=
  some (s0)
theorem oX12_wordOf_47 {d : Nat} (hd : 0 ≤ d) {h : Hp} {s0 : Int32} {rf : Option Value} {hf : Hp} {x : Int32} (hs : fX12_wordOf_47 h s0 = some x) (hk : (kX12_wordOf h rf hf) x) : Go d mX12_wordOf 47 [none, none] [.int s0] h rf hf := by
  unfold fX12_wordOf_47 at hs
  obtain rfl := Option.some.inj hs
  obtain ⟨rfl, rfl⟩ := hk
  exact go_iret rfl dX12_wordOf_47
noncomputable def fX12_wordOf (h : Hp) (x0 : Nat) (x1 : Int32) : Option Int32 :=
  if x1 = (13 : Int32) then (
    some ((0 : Int32))) else (
    if x1 = (6 : Int32) then (
      some ((1 : Int32))) else (
      (gI h 12 x0 15).bind fun v1 =>
      if v1 = (1 : Int32) then (
        if x1 = (14 : Int32) then (
          fX12_wordOf_47 h (6 : Int32)) else (
          if x1 = (15 : Int32) then (
            fX12_wordOf_47 h (7 : Int32)) else (
            fX12_wordOf_47 h (-1 : Int32)))) else (
        if x1 = (2 : Int32) then (
          fX12_wordOf_85 h (2 : Int32)) else (
          if x1 = (4 : Int32) then (
            fX12_wordOf_85 h (3 : Int32)) else (
            if x1 = (1 : Int32) then (
              fX12_wordOf_85 h (4 : Int32)) else (
              if x1 = (3 : Int32) then (
                fX12_wordOf_85 h (5 : Int32)) else (
                fX12_wordOf_85 h (-1 : Int32))))))))
theorem oX12_wordOf_0 {d : Nat} (hd : 0 ≤ d) {h : Hp} {x0 : Nat} {x1 : Int32} {rf : Option Value} {hf : Hp} {x : Int32} (hs : fX12_wordOf h x0 x1 = some x) (hk : (kX12_wordOf h rf hf) x) : Go d mX12_wordOf 0 [some (.ref x0), some (.int x1)] [] h rf hf := by
  unfold fX12_wordOf at hs
  refine go_iload_n (k4 := 1) rfl dX12_wordOf_0 ?_
  refine go_bipush (v := 13) (by decide) dX12_wordOf_1 ?_
  refine go_icmp_ne (tgt := 8) (by decide) dX12_wordOf_3 (fun c => ?_) (fun c => ?_)
  · have hs := if_f c hs
    refine go_iload_n (k4 := 1) rfl dX12_wordOf_8 ?_
    refine go_bipush (v := 6) (by decide) dX12_wordOf_9 ?_
    refine go_icmp_ne (tgt := 16) (by decide) dX12_wordOf_11 (fun c => ?_) (fun c => ?_)
    · have hs := if_f c hs
      refine go_aload_n (k4 := 0) rfl (Or.inr ⟨_, rfl⟩) dX12_wordOf_16 ?_
      obtain ⟨v1, ev1, hs⟩ := bindS hs
      refine go_gI fl_RX12_159 ev1 dX12_wordOf_17 ?_
      refine go_iconst (v := 1) (by decide) dX12_wordOf_20 ?_
      refine go_icmp_ne (tgt := 48) (by decide) dX12_wordOf_21 (fun c => ?_) (fun c => ?_)
      · have hs := if_f c hs
        refine go_iload_n (k4 := 1) rfl dX12_wordOf_48 ?_
        refine go_iconst (v := 2) (by decide) dX12_wordOf_49 ?_
        refine go_icmp_ne (tgt := 57) (by decide) dX12_wordOf_50 (fun c => ?_) (fun c => ?_)
        · have hs := if_f c hs
          refine go_iload_n (k4 := 1) rfl dX12_wordOf_57 ?_
          refine go_iconst (v := 4) (by decide) dX12_wordOf_58 ?_
          refine go_icmp_ne (tgt := 66) (by decide) dX12_wordOf_59 (fun c => ?_) (fun c => ?_)
          · have hs := if_f c hs
            refine go_iload_n (k4 := 1) rfl dX12_wordOf_66 ?_
            refine go_iconst (v := 1) (by decide) dX12_wordOf_67 ?_
            refine go_icmp_ne (tgt := 75) (by decide) dX12_wordOf_68 (fun c => ?_) (fun c => ?_)
            · have hs := if_f c hs
              refine go_iload_n (k4 := 1) rfl dX12_wordOf_75 ?_
              refine go_iconst (v := 3) (by decide) dX12_wordOf_76 ?_
              refine go_icmp_ne (tgt := 84) (by decide) dX12_wordOf_77 (fun c => ?_) (fun c => ?_)
              · have hs := if_f c hs
                refine go_iconst (v := -1) (by decide) dX12_wordOf_84 ?_
                exact go_subL (L' := [none, none]) (by simp [subL, va_rf]) (oX12_wordOf_85 hd hs hk)
              · have hs := if_t c hs
                refine go_iconst (v := 5) (by decide) dX12_wordOf_80 ?_
                refine go_goto (tgt := 85) (by decide) dX12_wordOf_81 ?_
                exact go_subL (L' := [none, none]) (by simp [subL, va_rf]) (oX12_wordOf_85 hd hs hk)
            · have hs := if_t c hs
              refine go_iconst (v := 4) (by decide) dX12_wordOf_71 ?_
              refine go_goto (tgt := 85) (by decide) dX12_wordOf_72 ?_
              exact go_subL (L' := [none, none]) (by simp [subL, va_rf]) (oX12_wordOf_85 hd hs hk)
          · have hs := if_t c hs
            refine go_iconst (v := 3) (by decide) dX12_wordOf_62 ?_
            refine go_goto (tgt := 85) (by decide) dX12_wordOf_63 ?_
            exact go_subL (L' := [none, none]) (by simp [subL, va_rf]) (oX12_wordOf_85 hd hs hk)
        · have hs := if_t c hs
          refine go_iconst (v := 2) (by decide) dX12_wordOf_53 ?_
          refine go_goto (tgt := 85) (by decide) dX12_wordOf_54 ?_
          exact go_subL (L' := [none, none]) (by simp [subL, va_rf]) (oX12_wordOf_85 hd hs hk)
      · have hs := if_t c hs
        refine go_iload_n (k4 := 1) rfl dX12_wordOf_24 ?_
        refine go_bipush (v := 14) (by decide) dX12_wordOf_25 ?_
        refine go_icmp_ne (tgt := 35) (by decide) dX12_wordOf_27 (fun c => ?_) (fun c => ?_)
        · have hs := if_f c hs
          refine go_iload_n (k4 := 1) rfl dX12_wordOf_35 ?_
          refine go_bipush (v := 15) (by decide) dX12_wordOf_36 ?_
          refine go_icmp_ne (tgt := 46) (by decide) dX12_wordOf_38 (fun c => ?_) (fun c => ?_)
          · have hs := if_f c hs
            refine go_iconst (v := -1) (by decide) dX12_wordOf_46 ?_
            exact go_subL (L' := [none, none]) (by simp [subL, va_rf]) (oX12_wordOf_47 hd hs hk)
          · have hs := if_t c hs
            refine go_bipush (v := 7) (by decide) dX12_wordOf_41 ?_
            refine go_goto (tgt := 47) (by decide) dX12_wordOf_43 ?_
            exact go_subL (L' := [none, none]) (by simp [subL, va_rf]) (oX12_wordOf_47 hd hs hk)
        · have hs := if_t c hs
          refine go_bipush (v := 6) (by decide) dX12_wordOf_30 ?_
          refine go_goto (tgt := 47) (by decide) dX12_wordOf_32 ?_
          exact go_subL (L' := [none, none]) (by simp [subL, va_rf]) (oX12_wordOf_47 hd hs hk)
    · have hs := if_t c hs
      refine go_iconst (v := 1) (by decide) dX12_wordOf_14 ?_
      obtain rfl := Option.some.inj hs
      obtain ⟨rfl, rfl⟩ := hk
      exact go_iret rfl dX12_wordOf_15
  · have hs := if_t c hs
    refine go_iconst (v := 0) (by decide) dX12_wordOf_6 ?_
    obtain rfl := Option.some.inj hs
    obtain ⟨rfl, rfl⟩ := hk
    exact go_iret rfl dX12_wordOf_7
theorem oX12_wordOf {d : Nat} (hd : 0 ≤ d) {h : Hp} {x0 : Nat} {x1 : Int32} {y : Int32} (hs : fX12_wordOf h x0 x1 = some y) : Call d mX12_wordOf [.ref x0, .int x1] h (some (.int y)) h := call_of (by decide +kernel) (Nat.le_of_ble_eq_true rfl) (show Go d mX12_wordOf 0 [some (.ref x0), some (.int x1)] [] h _ _ from go_subL (by simp [subL]) (oX12_wordOf_0 hd hs ⟨rfl, rfl⟩))
abbrev kX12_codes (rf : Option Value) (hf : Hp) : Hp → Prop := fun y => rf = none ∧ hf = y
noncomputable def fX12_codes (h : Hp) (x0 : Nat) (x1 : Int32) : Option Hp :=
  (gI h 12 x0 11).bind fun v1 =>
  if v1 = 0 then (
    (gN h 12 x0 4).bind fun v2 =>
    (gN h 12 x0 4).bind fun v3 =>
    (aI 0 h v3 (137 : Int32)).bind fun v4 =>
    (wI 0 h v2 ((138 : Int32) + v4) x1).bind fun h5 =>
    (gN h5 12 x0 4).bind fun v6 =>
    (aI 0 h5 v6 (137 : Int32)).bind fun v7 =>
    (wI 0 h5 v6 (137 : Int32) (v7 + (1 : Int32))).bind fun h8 =>
    some (h8)) else (
    some (h))
theorem oX12_codes_0 {d : Nat} (hd : 0 ≤ d) {h : Hp} {x0 : Nat} {x1 : Int32} {rf : Option Value} {hf : Hp} {x : Hp} (hs : fX12_codes h x0 x1 = some x) (hk : (kX12_codes rf hf) x) : Go d mX12_codes 0 [some (.ref x0), some (.int x1)] [] h rf hf := by
  unfold fX12_codes at hs
  refine go_aload_n (k4 := 0) rfl (Or.inr ⟨_, rfl⟩) dX12_codes_0 ?_
  obtain ⟨v1, ev1, hs⟩ := bindS hs
  refine go_gI fl_RX12_139 ev1 dX12_codes_1 ?_
  refine go_if_eq (tgt := 8) (by decide) dX12_codes_4 (fun c => ?_) (fun c => ?_)
  · have hs := if_t c hs
    refine go_aload_n (k4 := 0) rfl (Or.inr ⟨_, rfl⟩) dX12_codes_8 ?_
    obtain ⟨v2, ev2, hs⟩ := bindS hs
    refine go_gN fl_RX12_24 ev2 dX12_codes_9 ?_
    refine go_sipush (v := 138) (by decide) dX12_codes_12 ?_
    refine go_aload_n (k4 := 0) rfl (Or.inr ⟨_, rfl⟩) dX12_codes_15 ?_
    obtain ⟨v3, ev3, hs⟩ := bindS hs
    refine go_gN fl_RX12_24 ev3 dX12_codes_16 ?_
    refine go_sipush (v := 137) (by decide) dX12_codes_19 ?_
    obtain ⟨v4, ev4, hs⟩ := bindS hs
    refine go_aIi ev4 dX12_codes_22 ?_
    refine go_at 23 rfl ?_
    refine go_iadd dX12_codes_23 ?_
    refine go_iload_n (k4 := 1) rfl dX12_codes_24 ?_
    obtain ⟨h5, eh5, hs⟩ := bindS hs
    refine go_wIi eh5 dX12_codes_25 ?_
    refine go_aload_n (k4 := 0) rfl (Or.inr ⟨_, rfl⟩) dX12_codes_26 ?_
    obtain ⟨v6, ev6, hs⟩ := bindS hs
    refine go_gN fl_RX12_24 ev6 dX12_codes_27 ?_
    refine go_sipush (v := 137) (by decide) dX12_codes_30 ?_
    refine go_dup2_11 rfl rfl dX12_codes_33 ?_
    obtain ⟨v7, ev7, hs⟩ := bindS hs
    refine go_aIi ev7 dX12_codes_34 ?_
    refine go_at 35 rfl ?_
    refine go_iconst (v := 1) (by decide) dX12_codes_35 ?_
    refine go_iadd dX12_codes_36 ?_
    obtain ⟨h8, eh8, hs⟩ := bindS hs
    refine go_wIi eh8 dX12_codes_37 ?_
    obtain rfl := Option.some.inj hs
    obtain ⟨rfl, rfl⟩ := hk
    exact go_vret rfl dX12_codes_38
  · have hs := if_f c hs
    obtain rfl := Option.some.inj hs
    obtain ⟨rfl, rfl⟩ := hk
    exact go_vret rfl dX12_codes_7
theorem oX12_codes {d : Nat} (hd : 0 ≤ d) {h : Hp} {x0 : Nat} {x1 : Int32} {y : Hp} (hs : fX12_codes h x0 x1 = some y) : Call d mX12_codes [.ref x0, .int x1] h (none) y := call_of (by decide +kernel) (Nat.le_of_ble_eq_true rfl) (show Go d mX12_codes 0 [some (.ref x0), some (.int x1)] [] h _ _ from go_subL (by simp [subL]) (oX12_codes_0 hd hs ⟨rfl, rfl⟩))
abbrev kX12_fault (rf : Option Value) (hf : Hp) : (Int32 × Hp) → Prop := fun y => rf = some (.int y.1) ∧ hf = y.2
noncomputable def fX12_fault_29 (h : Hp) (s0 : Int32) : Option (Int32 × Hp) :=
  some ((s0, h))
theorem oX12_fault_29 {d : Nat} (hd : 0 ≤ d) {h : Hp} {s0 : Int32} {rf : Option Value} {hf : Hp} {x : (Int32 × Hp)} (hs : fX12_fault_29 h s0 = some x) (hk : (kX12_fault rf hf) x) : Go d mX12_fault 29 [none, none] [.int s0] h rf hf := by
  unfold fX12_fault_29 at hs
  obtain rfl := Option.some.inj hs
  obtain ⟨rfl, rfl⟩ := hk
  exact go_iret rfl dX12_fault_29
noncomputable def fX12_fault (h : Hp) (x0 : Nat) (x1 : Int32) : Option (Int32 × Hp) :=
  (sV h 12 x0 0 (.int (0 : Int32))).bind fun h1 =>
  if x1 = 0 then (
    (gI h1 12 x0 13).bind fun v3 =>
    fX12_fault_29 h1 v3) else (
    if x1 = (1 : Int32) then (
      (gI h1 12 x0 14).bind fun v2 =>
      fX12_fault_29 h1 v2) else (
      fX12_fault_29 h1 (-1 : Int32)))
theorem oX12_fault_0 {d : Nat} (hd : 0 ≤ d) {h : Hp} {x0 : Nat} {x1 : Int32} {rf : Option Value} {hf : Hp} {x : (Int32 × Hp)} (hs : fX12_fault h x0 x1 = some x) (hk : (kX12_fault rf hf) x) : Go d mX12_fault 0 [some (.ref x0), some (.int x1)] [] h rf hf := by
  unfold fX12_fault at hs
  refine go_aload_n (k4 := 0) rfl (Or.inr ⟨_, rfl⟩) dX12_fault_0 ?_
  refine go_iconst (v := 0) (by decide) dX12_fault_1 ?_
  obtain ⟨h1, eh1, hs⟩ := bindS hs
  refine go_sV fw_RX12_1 eh1 rfl rfl dX12_fault_2 ?_
  refine go_iload_n (k4 := 1) rfl dX12_fault_5 ?_
  refine go_if_ne (tgt := 16) (by decide) dX12_fault_6 (fun c => ?_) (fun c => ?_)
  · have hs := if_f c hs
    refine go_iload_n (k4 := 1) rfl dX12_fault_16 ?_
    refine go_iconst (v := 1) (by decide) dX12_fault_17 ?_
    refine go_icmp_ne (tgt := 28) (by decide) dX12_fault_18 (fun c => ?_) (fun c => ?_)
    · have hs := if_f c hs
      refine go_iconst (v := -1) (by decide) dX12_fault_28 ?_
      exact go_subL (L' := [none, none]) (by simp [subL, va_rf]) (oX12_fault_29 hd hs hk)
    · have hs := if_t c hs
      refine go_aload_n (k4 := 0) rfl (Or.inr ⟨_, rfl⟩) dX12_fault_21 ?_
      obtain ⟨v2, ev2, hs⟩ := bindS hs
      refine go_gI fl_RX12_27 ev2 dX12_fault_22 ?_
      refine go_goto (tgt := 29) (by decide) dX12_fault_25 ?_
      exact go_subL (L' := [none, none]) (by simp [subL, va_rf]) (oX12_fault_29 hd hs hk)
  · have hs := if_t c hs
    refine go_aload_n (k4 := 0) rfl (Or.inr ⟨_, rfl⟩) dX12_fault_9 ?_
    obtain ⟨v3, ev3, hs⟩ := bindS hs
    refine go_gI fl_RX12_214 ev3 dX12_fault_10 ?_
    refine go_goto (tgt := 29) (by decide) dX12_fault_13 ?_
    exact go_subL (L' := [none, none]) (by simp [subL, va_rf]) (oX12_fault_29 hd hs hk)
theorem oX12_fault {d : Nat} (hd : 0 ≤ d) {h : Hp} {x0 : Nat} {x1 : Int32} {y : (Int32 × Hp)} (hs : fX12_fault h x0 x1 = some y) : Call d mX12_fault [.ref x0, .int x1] h (some (.int y.1)) (y.2) := call_of (by decide +kernel) (Nat.le_of_ble_eq_true rfl) (show Go d mX12_fault 0 [some (.ref x0), some (.int x1)] [] h _ _ from go_subL (by simp [subL]) (oX12_fault_0 hd hs ⟨rfl, rfl⟩))
abbrev kX12_isPair (h : Hp) (rf : Option Value) (hf : Hp) : Int32 → Prop := fun y => rf = some (.int y) ∧ hf = h
noncomputable def fX12_isPair (h : Hp) (x0 : Nat) (x1 : Int64) : Option Int32 :=
  (gN h 12 x0 1).bind fun v1 =>
  (aI 0 h v1 (1 : Int32)).bind fun v2 =>
  (fX12_within h x1 (0 : Int64) (v2 - (1 : Int32)).toInt64).bind fun y3 =>
  bl y3 (some (y3))
theorem oX12_isPair_0 {d : Nat} (hd : 1 ≤ d) {h : Hp} {x0 : Nat} {x1 : Int64} {rf : Option Value} {hf : Hp} {x : Int32} (hs : fX12_isPair h x0 x1 = some x) (hk : (kX12_isPair h rf hf) x) : Go d mX12_isPair 0 [some (.ref x0), some (.long x1), none] [] h rf hf := by
  unfold fX12_isPair at hs
  refine go_lload_n (k4 := 1) rfl dX12_isPair_0 ?_
  refine go_lconst (v := 0) (by decide) dX12_isPair_1 ?_
  refine go_aload_n (k4 := 0) rfl (Or.inr ⟨_, rfl⟩) dX12_isPair_2 ?_
  obtain ⟨v1, ev1, hs⟩ := bindS hs
  refine go_gN fl_RX12_13 ev1 dX12_isPair_3 ?_
  refine go_iconst (v := 1) (by decide) dX12_isPair_6 ?_
  obtain ⟨v2, ev2, hs⟩ := bindS hs
  refine go_aIi ev2 dX12_isPair_7 ?_
  refine go_iconst (v := 1) (by decide) dX12_isPair_8 ?_
  refine go_at 9 rfl ?_
  refine go_isub dX12_isPair_9 ?_
  refine go_i2l dX12_isPair_10 ?_
  obtain ⟨y3, ey3, hs⟩ := bindS hs
  refine go_S1 (As := [.long x1, .long (0 : Int64), .long (v2 - (1 : Int32)).toInt64]) (st := []) (oX12_within (d := d - 1) (by omega) ey3) (by omega) mb_X12_within lm_RX12_155 ms_X12_within (Nat.le_of_ble_eq_true rfl) rfl dX12_isPair_11 ?_
  obtain ⟨n1, n2, hs⟩ := bl_at hs
  obtain rfl := Option.some.inj hs
  obtain ⟨rfl, rfl⟩ := hk
  exact go_zret (ty := .boolean) rfl n1 dX12_isPair_14
theorem oX12_isPair {d : Nat} (hd : 1 ≤ d) {h : Hp} {x0 : Nat} {x1 : Int64} {y : Int32} (hs : fX12_isPair h x0 x1 = some y) : Call d mX12_isPair [.ref x0, .long x1] h (some (.int y)) h := call_of (by decide +kernel) (Nat.le_of_ble_eq_true rfl) (show Go d mX12_isPair 0 [some (.ref x0), some (.long x1), none] [] h _ _ from go_subL (by simp [subL]) (oX12_isPair_0 hd hs ⟨rfl, rfl⟩))
abbrev kX12_isSet (h : Hp) (rf : Option Value) (hf : Hp) : Int32 → Prop := fun y => rf = some (.int y) ∧ hf = h
noncomputable def fX12_isSet_21 (h : Hp) (s0 : Int32) : Option Int32 :=
  bl s0 (some (s0))
theorem oX12_isSet_21 {d : Nat} (hd : 0 ≤ d) {h : Hp} {s0 : Int32} {rf : Option Value} {hf : Hp} {x : Int32} (hs : fX12_isSet_21 h s0 = some x) (hk : (kX12_isSet h rf hf) x) : Go d mX12_isSet 21 [none, none] [.int s0] h rf hf := by
  unfold fX12_isSet_21 at hs
  obtain ⟨n1, n2, hs⟩ := bl_at hs
  obtain rfl := Option.some.inj hs
  obtain ⟨rfl, rfl⟩ := hk
  exact go_zret (ty := .boolean) rfl n1 dX12_isSet_21
noncomputable def fX12_isSet_20 (h : Hp)  : Option Int32 :=
  fX12_isSet_21 h (0 : Int32)
theorem oX12_isSet_20 {d : Nat} (hd : 0 ≤ d) {h : Hp} {rf : Option Value} {hf : Hp} {x : Int32} (hs : fX12_isSet_20 h  = some x) (hk : (kX12_isSet h rf hf) x) : Go d mX12_isSet 20 [none, none] [] h rf hf := by
  unfold fX12_isSet_20 at hs
  refine go_iconst (v := 0) (by decide) dX12_isSet_20 ?_
  exact go_subL (L' := [none, none]) (by simp [subL, va_rf]) (oX12_isSet_21 hd hs hk)
noncomputable def fX12_isSet (h : Hp) (x0 : Nat) (x1 : Int32) : Option Int32 :=
  if x1 < 0 then (
  fX12_isSet_20 h ) else (
    (gN h 12 x0 1).bind fun v1 =>
    (aI 0 h v1 (1 : Int32)).bind fun v2 =>
    if ((1 : Int32) <<< (v2 &&& 31)) ≤ x1 then (
    fX12_isSet_20 h ) else (
      fX12_isSet_21 h (1 : Int32)))
theorem oX12_isSet_0 {d : Nat} (hd : 0 ≤ d) {h : Hp} {x0 : Nat} {x1 : Int32} {rf : Option Value} {hf : Hp} {x : Int32} (hs : fX12_isSet h x0 x1 = some x) (hk : (kX12_isSet h rf hf) x) : Go d mX12_isSet 0 [some (.ref x0), some (.int x1)] [] h rf hf := by
  unfold fX12_isSet at hs
  refine go_iload_n (k4 := 1) rfl dX12_isSet_0 ?_
  refine go_if_lt (tgt := 20) (by decide) dX12_isSet_1 (fun c => ?_) (fun c => ?_)
  · have hs := if_t c hs
    exact go_subL (L' := [none, none]) (by simp [subL, va_rf]) (oX12_isSet_20 hd hs hk)
  · have hs := if_f c hs
    refine go_iload_n (k4 := 1) rfl dX12_isSet_4 ?_
    refine go_iconst (v := 1) (by decide) dX12_isSet_5 ?_
    refine go_aload_n (k4 := 0) rfl (Or.inr ⟨_, rfl⟩) dX12_isSet_6 ?_
    obtain ⟨v1, ev1, hs⟩ := bindS hs
    refine go_gN fl_RX12_13 ev1 dX12_isSet_7 ?_
    refine go_iconst (v := 1) (by decide) dX12_isSet_10 ?_
    obtain ⟨v2, ev2, hs⟩ := bindS hs
    refine go_aIi ev2 dX12_isSet_11 ?_
    refine go_ishl dX12_isSet_12 ?_
    refine go_at 13 rfl ?_
    refine go_icmp_ge (tgt := 20) (by decide) dX12_isSet_13 (fun c => ?_) (fun c => ?_)
    · have hs := if_t c hs
      exact go_subL (L' := [none, none]) (by simp [subL, va_rf]) (oX12_isSet_20 hd hs hk)
    · have hs := if_f c hs
      refine go_iconst (v := 1) (by decide) dX12_isSet_16 ?_
      refine go_goto (tgt := 21) (by decide) dX12_isSet_17 ?_
      exact go_subL (L' := [none, none]) (by simp [subL, va_rf]) (oX12_isSet_21 hd hs hk)
theorem oX12_isSet {d : Nat} (hd : 0 ≤ d) {h : Hp} {x0 : Nat} {x1 : Int32} {y : Int32} (hs : fX12_isSet h x0 x1 = some y) : Call d mX12_isSet [.ref x0, .int x1] h (some (.int y)) h := call_of (by decide +kernel) (Nat.le_of_ble_eq_true rfl) (show Go d mX12_isSet 0 [some (.ref x0), some (.int x1)] [] h _ _ from go_subL (by simp [subL]) (oX12_isSet_0 hd hs ⟨rfl, rfl⟩))
abbrev kX12_isDry (h : Hp) (rf : Option Value) (hf : Hp) : Int32 → Prop := fun y => rf = some (.int y) ∧ hf = h
noncomputable def fX12_isDry (h : Hp) (x0 : Int64) : Option Int32 :=
  (fX12_within h x0 (0 : Int64) (1 : Int64)).bind fun y1 =>
  bl y1 (some (y1))
theorem oX12_isDry_0 {d : Nat} (hd : 1 ≤ d) {h : Hp} {x0 : Int64} {rf : Option Value} {hf : Hp} {x : Int32} (hs : fX12_isDry h x0 = some x) (hk : (kX12_isDry h rf hf) x) : Go d mX12_isDry 0 [some (.long x0), none] [] h rf hf := by
  unfold fX12_isDry at hs
  refine go_lload_n (k4 := 0) rfl dX12_isDry_0 ?_
  refine go_lconst (v := 0) (by decide) dX12_isDry_1 ?_
  refine go_lconst (v := 1) (by decide) dX12_isDry_2 ?_
  obtain ⟨y1, ey1, hs⟩ := bindS hs
  refine go_S1 (As := [.long x0, .long (0 : Int64), .long (1 : Int64)]) (st := []) (oX12_within (d := d - 1) (by omega) ey1) (by omega) mb_X12_within lm_RX12_155 ms_X12_within (Nat.le_of_ble_eq_true rfl) rfl dX12_isDry_3 ?_
  obtain ⟨n1, n2, hs⟩ := bl_at hs
  obtain rfl := Option.some.inj hs
  obtain ⟨rfl, rfl⟩ := hk
  exact go_zret (ty := .boolean) rfl n1 dX12_isDry_6
theorem oX12_isDry {d : Nat} (hd : 1 ≤ d) {h : Hp} {x0 : Int64} {y : Int32} (hs : fX12_isDry h x0 = some y) : Call d mX12_isDry [.long x0] h (some (.int y)) h := call_of (by decide +kernel) (Nat.le_of_ble_eq_true rfl) (show Go d mX12_isDry 0 [some (.long x0), none] [] h _ _ from go_subL (by simp [subL]) (oX12_isDry_0 hd hs ⟨rfl, rfl⟩))
abbrev kX12_bitsOf (h : Hp) (rf : Option Value) (hf : Hp) : Int32 → Prop := fun y => rf = some (.int y) ∧ hf = h
abbrev pX12_bitsOf_4 (d : Nat) (h : Hp) (x0 : Int32) (rf : Option Value) (hf : Hp) : (Int32 × Int32) → Prop := fun s => Go d mX12_bitsOf 4 [some (.int x0), some (.int s.1), some (.int s.2)] [] h rf hf
noncomputable def fX12_bitsOf_4b (h : Hp) (x0 : Int32) (x1 : Int32) (x2 : Int32) : Option ((Int32 × Int32) ⊕ Int32) :=
  if (10 : Int32) ≤ x2 then (
    some (.inr x1)) else (
    some (.inl ((x1 + ((x0 >>> (x2 &&& 31)) &&& (1 : Int32))), (x2 + Int32.ofInt 1))))
noncomputable def fX12_bitsOf_4 (h : Hp) (x0 : Int32) (x1 : Int32) (x2 : Int32) : Option Int32 := lpw (σ := (Int32 × Int32)) (fun s => fX12_bitsOf_4b h x0 s.1 s.2) (x1, x2)
theorem oX12_bitsOf_4b {d : Nat} (hd : 0 ≤ d) {h : Hp} {x0 : Int32} {x1 : Int32} {x2 : Int32} {rf : Option Value} {hf : Hp} {x : ((Int32 × Int32) ⊕ Int32)} (hs : fX12_bitsOf_4b h x0 x1 x2 = some x) (hk : (Kx (pX12_bitsOf_4 d h x0 rf hf) (kX12_bitsOf h rf hf)) x) : Go d mX12_bitsOf 4 [some (.int x0), some (.int x1), some (.int x2)] [] h rf hf := by
  unfold fX12_bitsOf_4b at hs
  refine go_iload_n (k4 := 2) rfl dX12_bitsOf_4 ?_
  refine go_bipush (v := 10) (by decide) dX12_bitsOf_5 ?_
  refine go_icmp_ge (tgt := 24) (by decide) dX12_bitsOf_7 (fun c => ?_) (fun c => ?_)
  · have hs := if_t c hs
    refine go_iload_n (k4 := 1) rfl dX12_bitsOf_24 ?_
    obtain rfl := Option.some.inj hs
    obtain ⟨rfl, rfl⟩ := hk
    exact go_iret rfl dX12_bitsOf_25
  · have hs := if_f c hs
    refine go_iload_n (k4 := 1) rfl dX12_bitsOf_10 ?_
    refine go_iload_n (k4 := 0) rfl dX12_bitsOf_11 ?_
    refine go_iload_n (k4 := 2) rfl dX12_bitsOf_12 ?_
    refine go_ishr dX12_bitsOf_13 ?_
    refine go_iconst (v := 1) (by decide) dX12_bitsOf_14 ?_
    refine go_iand dX12_bitsOf_15 ?_
    refine go_iadd dX12_bitsOf_16 ?_
    refine go_at 17 rfl ?_
    refine go_istore_n (k4 := 1) (L' := [some (.int x0), some (.int (x1 + ((x0 >>> (x2 &&& 31)) &&& (1 : Int32)))), some (.int x2)]) (by decide) rfl dX12_bitsOf_17 ?_
    refine go_iinc (L' := [some (.int x0), some (.int (x1 + ((x0 >>> (x2 &&& 31)) &&& (1 : Int32)))), some (.int (x2 + Int32.ofInt 1))]) rfl (by decide) rfl rfl dX12_bitsOf_18 ?_
    refine go_goto (tgt := 4) (by decide) dX12_bitsOf_21 ?_
    obtain rfl := Option.some.inj hs
    exact go_subL (L' := [some (.int x0), some (.int (x1 + ((x0 >>> (x2 &&& 31)) &&& (1 : Int32)))), some (.int (x2 + Int32.ofInt 1))]) (by simp [subL, va_rf]) hk
theorem oX12_bitsOf_4 {d : Nat} (hd : 0 ≤ d) {h : Hp} {x0 : Int32} {x1 : Int32} {x2 : Int32} {rf : Option Value} {hf : Hp} {x : Int32} (hs : fX12_bitsOf_4 h x0 x1 x2 = some x) (hk : (kX12_bitsOf h rf hf) x) : Go d mX12_bitsOf 4 [some (.int x0), some (.int x1), some (.int x2)] [] h rf hf := by
  unfold fX12_bitsOf_4 at hs
  exact lpw_go (P := pX12_bitsOf_4 d h x0 rf hf) (fun s x hs hk => oX12_bitsOf_4b hd hs hk) (x1, x2) x hs hk
noncomputable def fX12_bitsOf (h : Hp) (x0 : Int32) : Option Int32 :=
  fX12_bitsOf_4 h x0 (0 : Int32) (0 : Int32)
theorem oX12_bitsOf_0 {d : Nat} (hd : 0 ≤ d) {h : Hp} {x0 : Int32} {rf : Option Value} {hf : Hp} {x : Int32} (hs : fX12_bitsOf h x0 = some x) (hk : (kX12_bitsOf h rf hf) x) : Go d mX12_bitsOf 0 [some (.int x0), none, none] [] h rf hf := by
  unfold fX12_bitsOf at hs
  refine go_iconst (v := 0) (by decide) dX12_bitsOf_0 ?_
  refine go_istore_n (k4 := 1) (L' := [some (.int x0), some (.int (0 : Int32)), none]) (by decide) rfl dX12_bitsOf_1 ?_
  refine go_iconst (v := 0) (by decide) dX12_bitsOf_2 ?_
  refine go_istore_n (k4 := 2) (L' := [some (.int x0), some (.int (0 : Int32)), some (.int (0 : Int32))]) (by decide) rfl dX12_bitsOf_3 ?_
  exact go_subL (L' := [some (.int x0), some (.int (0 : Int32)), some (.int (0 : Int32))]) (by simp [subL, va_rf]) (oX12_bitsOf_4 hd hs hk)
theorem oX12_bitsOf {d : Nat} (hd : 0 ≤ d) {h : Hp} {x0 : Int32} {y : Int32} (hs : fX12_bitsOf h x0 = some y) : Call d mX12_bitsOf [.int x0] h (some (.int y)) h := call_of (by decide +kernel) (Nat.le_of_ble_eq_true rfl) (show Go d mX12_bitsOf 0 [some (.int x0), none, none] [] h _ _ from go_subL (by simp [subL]) (oX12_bitsOf_0 hd hs ⟨rfl, rfl⟩))
abbrev kX12_gapIn (h : Hp) (rf : Option Value) (hf : Hp) : Int32 → Prop := fun y => rf = some (.int y) ∧ hf = h
abbrev pX12_gapIn_4 (d : Nat) (h : Hp) (x1 : Int32) (rf : Option Value) (hf : Hp) : (Int32 × Int32) → Prop := fun s => Go d mX12_gapIn 4 [none, some (.int x1), some (.int s.1), some (.int s.2)] [] h rf hf
noncomputable def fX12_gapIn_4b (h : Hp) (x1 : Int32) (x2 : Int32) (x3 : Int32) : Option ((Int32 × Int32) ⊕ Int32) :=
  if x1 ≤ x3 then (
    (rm x2 (10 : Int32)).bind fun v1 =>
    some (.inr v1)) else (
    (dv x2 (10 : Int32)).bind fun v2 =>
    some (.inl (v2, (x3 + Int32.ofInt 1))))
noncomputable def fX12_gapIn_4 (h : Hp) (x1 : Int32) (x2 : Int32) (x3 : Int32) : Option Int32 := lpw (σ := (Int32 × Int32)) (fun s => fX12_gapIn_4b h x1 s.1 s.2) (x2, x3)
theorem oX12_gapIn_4b {d : Nat} (hd : 0 ≤ d) {h : Hp} {x1 : Int32} {x2 : Int32} {x3 : Int32} {rf : Option Value} {hf : Hp} {x : ((Int32 × Int32) ⊕ Int32)} (hs : fX12_gapIn_4b h x1 x2 x3 = some x) (hk : (Kx (pX12_gapIn_4 d h x1 rf hf) (kX12_gapIn h rf hf)) x) : Go d mX12_gapIn 4 [none, some (.int x1), some (.int x2), some (.int x3)] [] h rf hf := by
  unfold fX12_gapIn_4b at hs
  refine go_iload_n (k4 := 3) rfl dX12_gapIn_4 ?_
  refine go_iload_n (k4 := 1) rfl dX12_gapIn_5 ?_
  refine go_icmp_ge (tgt := 20) (by decide) dX12_gapIn_6 (fun c => ?_) (fun c => ?_)
  · have hs := if_t c hs
    refine go_iload_n (k4 := 2) rfl dX12_gapIn_20 ?_
    refine go_bipush (v := 10) (by decide) dX12_gapIn_21 ?_
    obtain ⟨v1, ev1, hs⟩ := bindS hs
    refine go_rm ev1 dX12_gapIn_23 ?_
    obtain rfl := Option.some.inj hs
    obtain ⟨rfl, rfl⟩ := hk
    exact go_iret rfl dX12_gapIn_24
  · have hs := if_f c hs
    refine go_iload_n (k4 := 2) rfl dX12_gapIn_9 ?_
    refine go_bipush (v := 10) (by decide) dX12_gapIn_10 ?_
    obtain ⟨v2, ev2, hs⟩ := bindS hs
    refine go_dv ev2 dX12_gapIn_12 ?_
    refine go_istore_n (k4 := 2) (L' := [none, some (.int x1), some (.int v2), some (.int x3)]) (by decide) rfl dX12_gapIn_13 ?_
    refine go_iinc (L' := [none, some (.int x1), some (.int v2), some (.int (x3 + Int32.ofInt 1))]) rfl (by decide) rfl rfl dX12_gapIn_14 ?_
    refine go_goto (tgt := 4) (by decide) dX12_gapIn_17 ?_
    obtain rfl := Option.some.inj hs
    exact go_subL (L' := [none, some (.int x1), some (.int v2), some (.int (x3 + Int32.ofInt 1))]) (by simp [subL, va_rf]) hk
theorem oX12_gapIn_4 {d : Nat} (hd : 0 ≤ d) {h : Hp} {x1 : Int32} {x2 : Int32} {x3 : Int32} {rf : Option Value} {hf : Hp} {x : Int32} (hs : fX12_gapIn_4 h x1 x2 x3 = some x) (hk : (kX12_gapIn h rf hf) x) : Go d mX12_gapIn 4 [none, some (.int x1), some (.int x2), some (.int x3)] [] h rf hf := by
  unfold fX12_gapIn_4 at hs
  exact lpw_go (P := pX12_gapIn_4 d h x1 rf hf) (fun s x hs hk => oX12_gapIn_4b hd hs hk) (x2, x3) x hs hk
noncomputable def fX12_gapIn (h : Hp) (x0 : Int32) (x1 : Int32) : Option Int32 :=
  fX12_gapIn_4 h x1 x0 (0 : Int32)
theorem oX12_gapIn_0 {d : Nat} (hd : 0 ≤ d) {h : Hp} {x0 : Int32} {x1 : Int32} {rf : Option Value} {hf : Hp} {x : Int32} (hs : fX12_gapIn h x0 x1 = some x) (hk : (kX12_gapIn h rf hf) x) : Go d mX12_gapIn 0 [some (.int x0), some (.int x1), none, none] [] h rf hf := by
  unfold fX12_gapIn at hs
  refine go_iload_n (k4 := 0) rfl dX12_gapIn_0 ?_
  refine go_istore_n (k4 := 2) (L' := [some (.int x0), some (.int x1), some (.int x0), none]) (by decide) rfl dX12_gapIn_1 ?_
  refine go_iconst (v := 0) (by decide) dX12_gapIn_2 ?_
  refine go_istore_n (k4 := 3) (L' := [some (.int x0), some (.int x1), some (.int x0), some (.int (0 : Int32))]) (by decide) rfl dX12_gapIn_3 ?_
  exact go_subL (L' := [none, some (.int x1), some (.int x0), some (.int (0 : Int32))]) (by simp [subL, va_rf]) (oX12_gapIn_4 hd hs hk)
theorem oX12_gapIn {d : Nat} (hd : 0 ≤ d) {h : Hp} {x0 : Int32} {x1 : Int32} {y : Int32} (hs : fX12_gapIn h x0 x1 = some y) : Call d mX12_gapIn [.int x0, .int x1] h (some (.int y)) h := call_of (by decide +kernel) (Nat.le_of_ble_eq_true rfl) (show Go d mX12_gapIn 0 [some (.int x0), some (.int x1), none, none] [] h _ _ from go_subL (by simp [subL]) (oX12_gapIn_0 hd hs ⟨rfl, rfl⟩))
abbrev kX12_dropsIn (h : Hp) (rf : Option Value) (hf : Hp) : Int32 → Prop := fun y => rf = some (.int y) ∧ hf = h
abbrev pX12_dropsIn_4 (d : Nat) (h : Hp) (x1 : Int32) (rf : Option Value) (hf : Hp) : (Int32 × Int32) → Prop := fun s => Go d mX12_dropsIn 4 [none, some (.int x1), some (.int s.1), some (.int s.2)] [] h rf hf
noncomputable def fX12_dropsIn_4b (h : Hp) (x1 : Int32) (x2 : Int32) (x3 : Int32) : Option ((Int32 × Int32) ⊕ Int32) :=
  if x1 ≤ x3 then (
    (rm x2 (5 : Int32)).bind fun v1 =>
    some (.inr v1)) else (
    (dv x2 (5 : Int32)).bind fun v2 =>
    some (.inl (v2, (x3 + Int32.ofInt 1))))
noncomputable def fX12_dropsIn_4 (h : Hp) (x1 : Int32) (x2 : Int32) (x3 : Int32) : Option Int32 := lpw (σ := (Int32 × Int32)) (fun s => fX12_dropsIn_4b h x1 s.1 s.2) (x2, x3)
theorem oX12_dropsIn_4b {d : Nat} (hd : 0 ≤ d) {h : Hp} {x1 : Int32} {x2 : Int32} {x3 : Int32} {rf : Option Value} {hf : Hp} {x : ((Int32 × Int32) ⊕ Int32)} (hs : fX12_dropsIn_4b h x1 x2 x3 = some x) (hk : (Kx (pX12_dropsIn_4 d h x1 rf hf) (kX12_dropsIn h rf hf)) x) : Go d mX12_dropsIn 4 [none, some (.int x1), some (.int x2), some (.int x3)] [] h rf hf := by
  unfold fX12_dropsIn_4b at hs
  refine go_iload_n (k4 := 3) rfl dX12_dropsIn_4 ?_
  refine go_iload_n (k4 := 1) rfl dX12_dropsIn_5 ?_
  refine go_icmp_ge (tgt := 19) (by decide) dX12_dropsIn_6 (fun c => ?_) (fun c => ?_)
  · have hs := if_t c hs
    refine go_iload_n (k4 := 2) rfl dX12_dropsIn_19 ?_
    refine go_iconst (v := 5) (by decide) dX12_dropsIn_20 ?_
    obtain ⟨v1, ev1, hs⟩ := bindS hs
    refine go_rm ev1 dX12_dropsIn_21 ?_
    obtain rfl := Option.some.inj hs
    obtain ⟨rfl, rfl⟩ := hk
    exact go_iret rfl dX12_dropsIn_22
  · have hs := if_f c hs
    refine go_iload_n (k4 := 2) rfl dX12_dropsIn_9 ?_
    refine go_iconst (v := 5) (by decide) dX12_dropsIn_10 ?_
    obtain ⟨v2, ev2, hs⟩ := bindS hs
    refine go_dv ev2 dX12_dropsIn_11 ?_
    refine go_istore_n (k4 := 2) (L' := [none, some (.int x1), some (.int v2), some (.int x3)]) (by decide) rfl dX12_dropsIn_12 ?_
    refine go_iinc (L' := [none, some (.int x1), some (.int v2), some (.int (x3 + Int32.ofInt 1))]) rfl (by decide) rfl rfl dX12_dropsIn_13 ?_
    refine go_goto (tgt := 4) (by decide) dX12_dropsIn_16 ?_
    obtain rfl := Option.some.inj hs
    exact go_subL (L' := [none, some (.int x1), some (.int v2), some (.int (x3 + Int32.ofInt 1))]) (by simp [subL, va_rf]) hk
theorem oX12_dropsIn_4 {d : Nat} (hd : 0 ≤ d) {h : Hp} {x1 : Int32} {x2 : Int32} {x3 : Int32} {rf : Option Value} {hf : Hp} {x : Int32} (hs : fX12_dropsIn_4 h x1 x2 x3 = some x) (hk : (kX12_dropsIn h rf hf) x) : Go d mX12_dropsIn 4 [none, some (.int x1), some (.int x2), some (.int x3)] [] h rf hf := by
  unfold fX12_dropsIn_4 at hs
  exact lpw_go (P := pX12_dropsIn_4 d h x1 rf hf) (fun s x hs hk => oX12_dropsIn_4b hd hs hk) (x2, x3) x hs hk
noncomputable def fX12_dropsIn (h : Hp) (x0 : Int32) (x1 : Int32) : Option Int32 :=
  fX12_dropsIn_4 h x1 x0 (0 : Int32)
theorem oX12_dropsIn_0 {d : Nat} (hd : 0 ≤ d) {h : Hp} {x0 : Int32} {x1 : Int32} {rf : Option Value} {hf : Hp} {x : Int32} (hs : fX12_dropsIn h x0 x1 = some x) (hk : (kX12_dropsIn h rf hf) x) : Go d mX12_dropsIn 0 [some (.int x0), some (.int x1), none, none] [] h rf hf := by
  unfold fX12_dropsIn at hs
  refine go_iload_n (k4 := 0) rfl dX12_dropsIn_0 ?_
  refine go_istore_n (k4 := 2) (L' := [some (.int x0), some (.int x1), some (.int x0), none]) (by decide) rfl dX12_dropsIn_1 ?_
  refine go_iconst (v := 0) (by decide) dX12_dropsIn_2 ?_
  refine go_istore_n (k4 := 3) (L' := [some (.int x0), some (.int x1), some (.int x0), some (.int (0 : Int32))]) (by decide) rfl dX12_dropsIn_3 ?_
  exact go_subL (L' := [none, some (.int x1), some (.int x0), some (.int (0 : Int32))]) (by simp [subL, va_rf]) (oX12_dropsIn_4 hd hs hk)
theorem oX12_dropsIn {d : Nat} (hd : 0 ≤ d) {h : Hp} {x0 : Int32} {x1 : Int32} {y : Int32} (hs : fX12_dropsIn h x0 x1 = some y) : Call d mX12_dropsIn [.int x0, .int x1] h (some (.int y)) h := call_of (by decide +kernel) (Nat.le_of_ble_eq_true rfl) (show Go d mX12_dropsIn 0 [some (.int x0), some (.int x1), none, none] [] h _ _ from go_subL (by simp [subL]) (oX12_dropsIn_0 hd hs ⟨rfl, rfl⟩))
abbrev kX12_hasFallen (h : Hp) (rf : Option Value) (hf : Hp) : Int32 → Prop := fun y => rf = some (.int y) ∧ hf = h
noncomputable def fX12_hasFallen_12 (h : Hp) (s0 : Int32) : Option Int32 :=
  bl s0 (some (s0))
theorem oX12_hasFallen_12 {d : Nat} (hd : 0 ≤ d) {h : Hp} {s0 : Int32} {rf : Option Value} {hf : Hp} {x : Int32} (hs : fX12_hasFallen_12 h s0 = some x) (hk : (kX12_hasFallen h rf hf) x) : Go d mX12_hasFallen 12 [none] [.int s0] h rf hf := by
  unfold fX12_hasFallen_12 at hs
  obtain ⟨n1, n2, hs⟩ := bl_at hs
  obtain rfl := Option.some.inj hs
  obtain ⟨rfl, rfl⟩ := hk
  exact go_zret (ty := .boolean) rfl n1 dX12_hasFallen_12
noncomputable def fX12_hasFallen (h : Hp) (x0 : Int32) : Option Int32 :=
  if x0 < (10000 : Int32) then (
    fX12_hasFallen_12 h (0 : Int32)) else (
    fX12_hasFallen_12 h (1 : Int32))
theorem oX12_hasFallen_0 {d : Nat} (hd : 0 ≤ d) {h : Hp} {x0 : Int32} {rf : Option Value} {hf : Hp} {x : Int32} (hs : fX12_hasFallen h x0 = some x) (hk : (kX12_hasFallen h rf hf) x) : Go d mX12_hasFallen 0 [some (.int x0)] [] h rf hf := by
  unfold fX12_hasFallen at hs
  refine go_iload_n (k4 := 0) rfl dX12_hasFallen_0 ?_
  refine go_sipush (v := 10000) (by decide) dX12_hasFallen_1 ?_
  refine go_icmp_lt (tgt := 11) (by decide) dX12_hasFallen_4 (fun c => ?_) (fun c => ?_)
  · have hs := if_t c hs
    refine go_iconst (v := 0) (by decide) dX12_hasFallen_11 ?_
    exact go_subL (L' := [none]) (by simp [subL, va_rf]) (oX12_hasFallen_12 hd hs hk)
  · have hs := if_f c hs
    refine go_iconst (v := 1) (by decide) dX12_hasFallen_7 ?_
    refine go_goto (tgt := 12) (by decide) dX12_hasFallen_8 ?_
    exact go_subL (L' := [none]) (by simp [subL, va_rf]) (oX12_hasFallen_12 hd hs hk)
theorem oX12_hasFallen {d : Nat} (hd : 0 ≤ d) {h : Hp} {x0 : Int32} {y : Int32} (hs : fX12_hasFallen h x0 = some y) : Call d mX12_hasFallen [.int x0] h (some (.int y)) h := call_of (by decide +kernel) (Nat.le_of_ble_eq_true rfl) (show Go d mX12_hasFallen 0 [some (.int x0)] [] h _ _ from go_subL (by simp [subL]) (oX12_hasFallen_0 hd hs ⟨rfl, rfl⟩))
abbrev kX12_standNow (h : Hp) (rf : Option Value) (hf : Hp) : Int32 → Prop := fun y => rf = some (.int y) ∧ hf = h
abbrev pX12_standNow_16 (d : Nat) (h : Hp) (x0 : Nat) (rf : Option Value) (hf : Hp) : (Int32 × Int32 × Int32) → Prop := fun s => Go d mX12_standNow 16 [some (.ref x0), some (.int s.1), some (.int s.2.1), some (.int s.2.2)] [] h rf hf
noncomputable def fX12_standNow_16b (h : Hp) (x0 : Nat) (x1 : Int32) (x2 : Int32) (x3 : Int32) : Option ((Int32 × Int32 × Int32) ⊕ Int32) :=
  (gN h 12 x0 1).bind fun v3 =>
  (aI 0 h v3 (1 : Int32)).bind fun v4 =>
  if v4 ≤ x3 then (
    some (.inr x1)) else (
    (gN h 12 x0 1).bind fun v5 =>
    (aI 0 h v5 ((15 : Int32) + x3)).bind fun v6 =>
    some (.inl ((x1 + (x2 * v6)), (x2 * (10 : Int32)), (x3 + Int32.ofInt 1))))
noncomputable def fX12_standNow_16 (h : Hp) (x0 : Nat) (x1 : Int32) (x2 : Int32) (x3 : Int32) : Option Int32 := lpw (σ := (Int32 × Int32 × Int32)) (fun s => fX12_standNow_16b h x0 s.1 s.2.1 s.2.2) (x1, x2, x3)
theorem oX12_standNow_16b {d : Nat} (hd : 0 ≤ d) {h : Hp} {x0 : Nat} {x1 : Int32} {x2 : Int32} {x3 : Int32} {rf : Option Value} {hf : Hp} {x : ((Int32 × Int32 × Int32) ⊕ Int32)} (hs : fX12_standNow_16b h x0 x1 x2 x3 = some x) (hk : (Kx (pX12_standNow_16 d h x0 rf hf) (kX12_standNow h rf hf)) x) : Go d mX12_standNow 16 [some (.ref x0), some (.int x1), some (.int x2), some (.int x3)] [] h rf hf := by
  unfold fX12_standNow_16b at hs
  refine go_iload_n (k4 := 3) rfl dX12_standNow_16 ?_
  refine go_aload_n (k4 := 0) rfl (Or.inr ⟨_, rfl⟩) dX12_standNow_17 ?_
  obtain ⟨v3, ev3, hs⟩ := bindS hs
  refine go_gN fl_RX12_13 ev3 dX12_standNow_18 ?_
  refine go_iconst (v := 1) (by decide) dX12_standNow_21 ?_
  obtain ⟨v4, ev4, hs⟩ := bindS hs
  refine go_aIi ev4 dX12_standNow_22 ?_
  refine go_icmp_ge (tgt := 51) (by decide) dX12_standNow_23 (fun c => ?_) (fun c => ?_)
  · have hs := if_t c hs
    refine go_iload_n (k4 := 1) rfl dX12_standNow_51 ?_
    obtain rfl := Option.some.inj hs
    obtain ⟨rfl, rfl⟩ := hk
    exact go_iret rfl dX12_standNow_52
  · have hs := if_f c hs
    refine go_iload_n (k4 := 1) rfl dX12_standNow_26 ?_
    refine go_iload_n (k4 := 2) rfl dX12_standNow_27 ?_
    refine go_aload_n (k4 := 0) rfl (Or.inr ⟨_, rfl⟩) dX12_standNow_28 ?_
    obtain ⟨v5, ev5, hs⟩ := bindS hs
    refine go_gN fl_RX12_13 ev5 dX12_standNow_29 ?_
    refine go_bipush (v := 15) (by decide) dX12_standNow_32 ?_
    refine go_iload_n (k4 := 3) rfl dX12_standNow_34 ?_
    refine go_iadd dX12_standNow_35 ?_
    refine go_at 36 rfl ?_
    obtain ⟨v6, ev6, hs⟩ := bindS hs
    refine go_aIi ev6 dX12_standNow_36 ?_
    refine go_imul dX12_standNow_37 ?_
    refine go_iadd dX12_standNow_38 ?_
    refine go_istore_n (k4 := 1) (L' := [some (.ref x0), some (.int (x1 + (x2 * v6))), some (.int x2), some (.int x3)]) (by decide) rfl dX12_standNow_39 ?_
    refine go_iload_n (k4 := 2) rfl dX12_standNow_40 ?_
    refine go_bipush (v := 10) (by decide) dX12_standNow_41 ?_
    refine go_imul dX12_standNow_43 ?_
    refine go_istore_n (k4 := 2) (L' := [some (.ref x0), some (.int (x1 + (x2 * v6))), some (.int (x2 * (10 : Int32))), some (.int x3)]) (by decide) rfl dX12_standNow_44 ?_
    refine go_at 45 rfl ?_
    refine go_iinc (L' := [some (.ref x0), some (.int (x1 + (x2 * v6))), some (.int (x2 * (10 : Int32))), some (.int (x3 + Int32.ofInt 1))]) rfl (by decide) rfl rfl dX12_standNow_45 ?_
    refine go_goto (tgt := 16) (by decide) dX12_standNow_48 ?_
    obtain rfl := Option.some.inj hs
    exact go_subL (L' := [some (.ref x0), some (.int (x1 + (x2 * v6))), some (.int (x2 * (10 : Int32))), some (.int (x3 + Int32.ofInt 1))]) (by simp [subL, va_rf]) hk
theorem oX12_standNow_16 {d : Nat} (hd : 0 ≤ d) {h : Hp} {x0 : Nat} {x1 : Int32} {x2 : Int32} {x3 : Int32} {rf : Option Value} {hf : Hp} {x : Int32} (hs : fX12_standNow_16 h x0 x1 x2 x3 = some x) (hk : (kX12_standNow h rf hf) x) : Go d mX12_standNow 16 [some (.ref x0), some (.int x1), some (.int x2), some (.int x3)] [] h rf hf := by
  unfold fX12_standNow_16 at hs
  exact lpw_go (P := pX12_standNow_16 d h x0 rf hf) (fun s x hs hk => oX12_standNow_16b hd hs hk) (x1, x2, x3) x hs hk
noncomputable def fX12_standNow (h : Hp) (x0 : Nat) : Option Int32 :=
  (gN h 12 x0 1).bind fun v1 =>
  (aI 0 h v1 (24 : Int32)).bind fun v2 =>
  fX12_standNow_16 h x0 (v2 * (10000 : Int32)) (1 : Int32) (0 : Int32)
theorem oX12_standNow_0 {d : Nat} (hd : 0 ≤ d) {h : Hp} {x0 : Nat} {rf : Option Value} {hf : Hp} {x : Int32} (hs : fX12_standNow h x0 = some x) (hk : (kX12_standNow h rf hf) x) : Go d mX12_standNow 0 [some (.ref x0), none, none, none] [] h rf hf := by
  unfold fX12_standNow at hs
  refine go_aload_n (k4 := 0) rfl (Or.inr ⟨_, rfl⟩) dX12_standNow_0 ?_
  obtain ⟨v1, ev1, hs⟩ := bindS hs
  refine go_gN fl_RX12_13 ev1 dX12_standNow_1 ?_
  refine go_bipush (v := 24) (by decide) dX12_standNow_4 ?_
  obtain ⟨v2, ev2, hs⟩ := bindS hs
  refine go_aIi ev2 dX12_standNow_6 ?_
  refine go_sipush (v := 10000) (by decide) dX12_standNow_7 ?_
  refine go_imul dX12_standNow_10 ?_
  refine go_istore_n (k4 := 1) (L' := [some (.ref x0), some (.int (v2 * (10000 : Int32))), none, none]) (by decide) rfl dX12_standNow_11 ?_
  refine go_at 12 rfl ?_
  refine go_iconst (v := 1) (by decide) dX12_standNow_12 ?_
  refine go_istore_n (k4 := 2) (L' := [some (.ref x0), some (.int (v2 * (10000 : Int32))), some (.int (1 : Int32)), none]) (by decide) rfl dX12_standNow_13 ?_
  refine go_iconst (v := 0) (by decide) dX12_standNow_14 ?_
  refine go_istore_n (k4 := 3) (L' := [some (.ref x0), some (.int (v2 * (10000 : Int32))), some (.int (1 : Int32)), some (.int (0 : Int32))]) (by decide) rfl dX12_standNow_15 ?_
  exact go_subL (L' := [some (.ref x0), some (.int (v2 * (10000 : Int32))), some (.int (1 : Int32)), some (.int (0 : Int32))]) (by simp [subL, va_rf]) (oX12_standNow_16 hd hs hk)
theorem oX12_standNow {d : Nat} (hd : 0 ≤ d) {h : Hp} {x0 : Nat} {y : Int32} (hs : fX12_standNow h x0 = some y) : Call d mX12_standNow [.ref x0] h (some (.int y)) h := call_of (by decide +kernel) (Nat.le_of_ble_eq_true rfl) (show Go d mX12_standNow 0 [some (.ref x0), none, none, none] [] h _ _ from go_subL (by simp [subL]) (oX12_standNow_0 hd hs ⟨rfl, rfl⟩))
