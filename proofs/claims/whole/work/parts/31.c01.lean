/-! methods: their texts as functions, and that the machine does just that -/
abbrev kX11_init (rf : Option Value) (hf : Hp) : Hp → Prop := fun y => rf = none ∧ hf = y
abbrev pX11_init_205 (d : Nat) (x0 : Nat) (rf : Option Value) (hf : Hp) : (Int32 × Hp) → Prop := fun s => Go d mX11_init 205 [some (.ref x0), some (.int s.1)] [] s.2 rf hf
abbrev pX11_init_231 (d : Nat) (x0 : Nat) (rf : Option Value) (hf : Hp) : (Int32 × Hp) → Prop := fun s => Go d mX11_init 231 [some (.ref x0), some (.int s.1)] [] s.2 rf hf
noncomputable def fX11_init_231b (h : Hp) (x0 : Nat) (x1 : Int32) : Option ((Int32 × Hp) ⊕ Hp) :=
  if (2 : Int32) ≤ x1 then (
    some (.inr h)) else (
    (gN h 11 x0 10).bind fun v70 =>
    lt h.1 fun a71 =>
    lt (nO h 8 4) fun h72 =>
    (fX8_init h72 a71).bind fun y73 =>
    (wR 4 8 y73 v70 x1 a71).bind fun h74 =>
    some (.inl ((x1 + Int32.ofInt 1), h74)))
noncomputable def fX11_init_231 (h : Hp) (x0 : Nat) (x1 : Int32) : Option Hp := lpw (σ := (Int32 × Hp)) (fun s => fX11_init_231b s.2 x0 s.1) (x1, h)
theorem oX11_init_231b {d : Nat} (hd : 4 ≤ d) {h : Hp} {x0 : Nat} {x1 : Int32} {rf : Option Value} {hf : Hp} {x : ((Int32 × Hp) ⊕ Hp)} (hs : fX11_init_231b h x0 x1 = some x) (hk : (Kx (pX11_init_231 d x0 rf hf) (kX11_init rf hf)) x) : Go d mX11_init 231 [some (.ref x0), some (.int x1)] [] h rf hf := by
  unfold fX11_init_231b at hs
  refine go_iload_n (k4 := 1) rfl dX11_init_231 ?_
  refine go_iconst (v := 2) (by decide) dX11_init_232 ?_
  refine go_icmp_ge (tgt := 255) (by decide) dX11_init_233 (fun c => ?_) (fun c => ?_)
  · have hs := if_t c hs
    obtain rfl := Option.some.inj hs
    obtain ⟨rfl, rfl⟩ := hk
    exact go_vret rfl dX11_init_255
  · have hs := if_f c hs
    refine go_aload_n (k4 := 0) rfl (Or.inr ⟨_, rfl⟩) dX11_init_236 ?_
    obtain ⟨v70, ev70, hs⟩ := bindS hs
    refine go_gN fl_RX11_63 ev70 dX11_init_237 ?_
    refine go_iload_n (k4 := 1) rfl dX11_init_240 ?_
    obtain ⟨a71, ea71, hs⟩ := lt_at hs
    obtain ⟨h72, eh72, hs⟩ := lt_at hs
    refine go_nO (ci := 8) rfl ln_RX11_33.1 ln_RX11_33.2.1 ln_RX11_33.2.2 dX11_init_241 ?_
    rw [← ea71]
    refine go_hp eh72.symm ?_
    refine go_dup rfl dX11_init_244 ?_
    obtain ⟨y73, ey73, hs⟩ := bindS hs
    refine go_IN0 (As := []) (st := [.ref a71, .int x1, .ref v70]) rfl rfl (oX8_init (d := d - 1) (by omega) ey73) (by omega) mb_X8_init lm_RX11_35 mi_X8_init (Nat.le_of_ble_eq_true rfl) rfl dX11_init_245 ?_
    obtain ⟨h74, eh74, hs⟩ := bindS hs
    refine go_wR (by decide) rfl rfl eh74 dX11_init_248 ?_
    refine go_at 249 rfl ?_
    refine go_iinc (L' := [some (.ref x0), some (.int (x1 + Int32.ofInt 1))]) rfl (by decide) rfl rfl dX11_init_249 ?_
    refine go_goto (tgt := 231) (by decide) dX11_init_252 ?_
    obtain rfl := Option.some.inj hs
    exact go_subL (L' := [some (.ref x0), some (.int (x1 + Int32.ofInt 1))]) (by simp [subL, va_rf]) hk
theorem oX11_init_231 {d : Nat} (hd : 4 ≤ d) {h : Hp} {x0 : Nat} {x1 : Int32} {rf : Option Value} {hf : Hp} {x : Hp} (hs : fX11_init_231 h x0 x1 = some x) (hk : (kX11_init rf hf) x) : Go d mX11_init 231 [some (.ref x0), some (.int x1)] [] h rf hf := by
  unfold fX11_init_231 at hs
  exact lpw_go (P := pX11_init_231 d x0 rf hf) (fun s x hs hk => oX11_init_231b hd hs hk) (x1, h) x hs hk
noncomputable def fX11_init_229 (h : Hp) (x0 : Nat) : Option Hp :=
  fX11_init_231 h x0 (0 : Int32)
theorem oX11_init_229 {d : Nat} (hd : 4 ≤ d) {h : Hp} {x0 : Nat} {rf : Option Value} {hf : Hp} {x : Hp} (hs : fX11_init_229 h x0 = some x) (hk : (kX11_init rf hf) x) : Go d mX11_init 229 [some (.ref x0), none] [] h rf hf := by
  unfold fX11_init_229 at hs
  refine go_iconst (v := 0) (by decide) dX11_init_229 ?_
  refine go_istore_n (k4 := 1) (L' := [some (.ref x0), some (.int (0 : Int32))]) (by decide) rfl dX11_init_230 ?_
  exact go_subL (L' := [some (.ref x0), some (.int (0 : Int32))]) (by simp [subL, va_rf]) (oX11_init_231 hd hs hk)
noncomputable def fX11_init_205b (h : Hp) (x0 : Nat) (x1 : Int32) : Option ((Int32 × Hp) ⊕ Hp) :=
  if (4 : Int32) ≤ x1 then (
  (fX11_init_229 h x0).map (fun q => .inr q)) else (
    (gN h 11 x0 8).bind fun v75 =>
    lt h.1 fun a76 =>
    lt (nO h 9 4) fun h77 =>
    (fX9_init h77 a76).bind fun y78 =>
    (wR 5 9 y78 v75 x1 a76).bind fun h79 =>
    some (.inl ((x1 + Int32.ofInt 1), h79)))
noncomputable def fX11_init_205 (h : Hp) (x0 : Nat) (x1 : Int32) : Option Hp := lpw (σ := (Int32 × Hp)) (fun s => fX11_init_205b s.2 x0 s.1) (x1, h)
theorem oX11_init_205b {d : Nat} (hd : 4 ≤ d) {h : Hp} {x0 : Nat} {x1 : Int32} {rf : Option Value} {hf : Hp} {x : ((Int32 × Hp) ⊕ Hp)} (hs : fX11_init_205b h x0 x1 = some x) (hk : (Kx (pX11_init_205 d x0 rf hf) (kX11_init rf hf)) x) : Go d mX11_init 205 [some (.ref x0), some (.int x1)] [] h rf hf := by
  unfold fX11_init_205b at hs
  refine go_iload_n (k4 := 1) rfl dX11_init_205 ?_
  refine go_iconst (v := 4) (by decide) dX11_init_206 ?_
  refine go_icmp_ge (tgt := 229) (by decide) dX11_init_207 (fun c => ?_) (fun c => ?_)
  · have hs := if_t c hs
    obtain ⟨q, hs2, hq⟩ := mapS hs
    clear hs
    subst hq
    exact go_subL (L' := [some (.ref x0), none]) (by simp [subL, va_rf]) (oX11_init_229 hd hs2 hk)
  · have hs := if_f c hs
    refine go_aload_n (k4 := 0) rfl (Or.inr ⟨_, rfl⟩) dX11_init_210 ?_
    obtain ⟨v75, ev75, hs⟩ := bindS hs
    refine go_gN fl_RX11_55 ev75 dX11_init_211 ?_
    refine go_iload_n (k4 := 1) rfl dX11_init_214 ?_
    obtain ⟨a76, ea76, hs⟩ := lt_at hs
    obtain ⟨h77, eh77, hs⟩ := lt_at hs
    refine go_nO (ci := 9) rfl ln_RX11_53.1 ln_RX11_53.2.1 ln_RX11_53.2.2 dX11_init_215 ?_
    rw [← ea76]
    refine go_hp eh77.symm ?_
    refine go_dup rfl dX11_init_218 ?_
    obtain ⟨y78, ey78, hs⟩ := bindS hs
    refine go_IN0 (As := []) (st := [.ref a76, .int x1, .ref v75]) rfl rfl (oX9_init (d := d - 1) (by omega) ey78) (by omega) mb_X9_init lm_RX11_114 mi_X9_init (Nat.le_of_ble_eq_true rfl) rfl dX11_init_219 ?_
    obtain ⟨h79, eh79, hs⟩ := bindS hs
    refine go_wR (by decide) rfl rfl eh79 dX11_init_222 ?_
    refine go_at 223 rfl ?_
    refine go_iinc (L' := [some (.ref x0), some (.int (x1 + Int32.ofInt 1))]) rfl (by decide) rfl rfl dX11_init_223 ?_
    refine go_goto (tgt := 205) (by decide) dX11_init_226 ?_
    obtain rfl := Option.some.inj hs
    exact go_subL (L' := [some (.ref x0), some (.int (x1 + Int32.ofInt 1))]) (by simp [subL, va_rf]) hk
theorem oX11_init_205 {d : Nat} (hd : 4 ≤ d) {h : Hp} {x0 : Nat} {x1 : Int32} {rf : Option Value} {hf : Hp} {x : Hp} (hs : fX11_init_205 h x0 x1 = some x) (hk : (kX11_init rf hf) x) : Go d mX11_init 205 [some (.ref x0), some (.int x1)] [] h rf hf := by
  unfold fX11_init_205 at hs
  exact lpw_go (P := pX11_init_205 d x0 rf hf) (fun s x hs hk => oX11_init_205b hd hs hk) (x1, h) x hs hk
noncomputable def fX11_init (h : Hp) (x0 : Nat) : Option Hp :=
  lt h.1 fun a2 =>
  (nA 1 h (900 : Int32)).bind fun h1 =>
  (sV h1 11 x0 0 (.ref a2)).bind fun h3 =>
  (sV h3 11 x0 1 (.int (0 : Int32))).bind fun h4 =>
  lt h4.1 fun a5 =>
  lt (nO h4 4 16) fun h6 =>
  (fX4_init h6 a5).bind fun y7 =>
  (sV y7 11 x0 2 (.ref a5)).bind fun h8 =>
  lt h8.1 fun a9 =>
  lt (nO h8 0 11) fun h10 =>
  (gN h10 11 x0 2).bind fun v11 =>
  (fX0_init h10 a9 v11).bind fun y12 =>
  (sV y12 11 x0 3 (.ref a9)).bind fun h13 =>
  lt h13.1 fun a14 =>
  lt (nO h13 8 4) fun h15 =>
  (fX8_init h15 a14).bind fun y16 =>
  (sV y16 11 x0 4 (.ref a14)).bind fun h17 =>
  lt h17.1 fun a18 =>
  lt (nO h17 8 4) fun h19 =>
  (fX8_init h19 a18).bind fun y20 =>
  (sV y20 11 x0 5 (.ref a18)).bind fun h21 =>
  lt h21.1 fun a22 =>
  lt (nO h21 8 4) fun h23 =>
  (fX8_init h23 a22).bind fun y24 =>
  (sV y24 11 x0 6 (.ref a22)).bind fun h25 =>
  lt h25.1 fun a26 =>
  lt (nO h25 5 3) fun h27 =>
  (fX5_init h27 a26).bind fun y28 =>
  (sV y28 11 x0 7 (.ref a26)).bind fun h29 =>
  lt h29.1 fun a31 =>
  (nA 5 h29 (4 : Int32)).bind fun h30 =>
  (sV h30 11 x0 8 (.ref a31)).bind fun h32 =>
  lt h32.1 fun a34 =>
  (nA 6 h32 (2 : Int32)).bind fun h33 =>
  (sV h33 11 x0 9 (.ref a34)).bind fun h35 =>
  lt h35.1 fun a37 =>
  (nA 4 h35 (2 : Int32)).bind fun h36 =>
  (sV h36 11 x0 10 (.ref a37)).bind fun h38 =>
  lt h38.1 fun a39 =>
  lt (nO h38 1 7) fun h40 =>
  (gN h40 11 x0 3).bind fun v41 =>
  (fX1_init h40 a39 v41).bind fun y42 =>
  (sV y42 11 x0 11 (.ref a39)).bind fun h43 =>
  lt h43.1 fun a44 =>
  lt (nO h43 10 7) fun h45 =>
  (gN h45 11 x0 11).bind fun v46 =>
  (fX10_init h45 a44 v46).bind fun y47 =>
  (sV y47 11 x0 12 (.ref a44)).bind fun h48 =>
  lt h48.1 fun a49 =>
  lt (nO h48 2 12) fun h50 =>
  (gN h50 11 x0 11).bind fun v51 =>
  (fX2_init h50 a49 v51).bind fun y52 =>
  (sV y52 11 x0 13 (.ref a49)).bind fun h53 =>
  lt h53.1 fun a54 =>
  lt (nO h53 7 17) fun h55 =>
  (gN h55 11 x0 11).bind fun v56 =>
  (gN h55 11 x0 3).bind fun v57 =>
  (fX7_init h55 a54 v56 v57).bind fun y58 =>
  (sV y58 11 x0 14 (.ref a54)).bind fun h59 =>
  lt h59.1 fun a61 =>
  (nA 0 h59 (4 : Int32)).bind fun h60 =>
  (sV h60 11 x0 15 (.ref a61)).bind fun h62 =>
  lt h62.1 fun a64 =>
  (nA 0 h62 (4 : Int32)).bind fun h63 =>
  (sV h63 11 x0 16 (.ref a64)).bind fun h65 =>
  lt h65.1 fun a67 =>
  (nA 0 h65 (19 : Int32)).bind fun h66 =>
  (sV h66 11 x0 17 (.ref a67)).bind fun h68 =>
  (sV h68 11 x0 18 (.int (0 : Int32))).bind fun h69 =>
  fX11_init_205 h69 x0 (0 : Int32)
theorem oX11_init_0 {d : Nat} (hd : 4 ≤ d) {h : Hp} {x0 : Nat} {rf : Option Value} {hf : Hp} {x : Hp} (hs : fX11_init h x0 = some x) (hk : (kX11_init rf hf) x) : Go d mX11_init 0 [some (.ref x0), none] [] h rf hf := by
  unfold fX11_init at hs
  refine go_aload_n (k4 := 0) rfl (Or.inr ⟨_, rfl⟩) dX11_init_0 ?_
  refine go_objInit lo_RX11_1.1 lo_RX11_1.2.1 lo_RX11_1.2.2 (by omega) (Nat.le_of_ble_eq_true rfl) dX11_init_1 ?_
  refine go_aload_n (k4 := 0) rfl (Or.inr ⟨_, rfl⟩) dX11_init_4 ?_
  refine go_sipush (v := 900) (by decide) dX11_init_5 ?_
  obtain ⟨a2, ea2, hs⟩ := lt_at hs
  obtain ⟨h1, eh1, hs⟩ := bindS hs
  refine go_nAb lt_byte eh1 dX11_init_8 ?_
  rw [← ea2]
  obtain ⟨h3, eh3, hs⟩ := bindS hs
  refine go_sVF ff_RX11_9 rfl eh3 rfl rfl dX11_init_10 ?_
  refine go_aload_n (k4 := 0) rfl (Or.inr ⟨_, rfl⟩) dX11_init_13 ?_
  refine go_at 14 rfl ?_
  refine go_iconst (v := 0) (by decide) dX11_init_14 ?_
  obtain ⟨h4, eh4, hs⟩ := bindS hs
  refine go_sV fw_RX11_13 eh4 rfl rfl dX11_init_15 ?_
  refine go_aload_n (k4 := 0) rfl (Or.inr ⟨_, rfl⟩) dX11_init_18 ?_
  obtain ⟨a5, ea5, hs⟩ := lt_at hs
  obtain ⟨h6, eh6, hs⟩ := lt_at hs
  refine go_nO (ci := 4) rfl ln_RX11_17.1 ln_RX11_17.2.1 ln_RX11_17.2.2 dX11_init_19 ?_
  rw [← ea5]
  refine go_hp eh6.symm ?_
  refine go_dup rfl dX11_init_22 ?_
  obtain ⟨y7, ey7, hs⟩ := bindS hs
  refine go_IN0 (As := []) (st := [.ref a5, .ref x0]) rfl rfl (oX4_init (d := d - 1) (by omega) ey7) (by omega) mb_X4_init lm_RX11_19 mi_X4_init (Nat.le_of_ble_eq_true rfl) rfl dX11_init_23 ?_
  obtain ⟨h8, eh8, hs⟩ := bindS hs
  refine go_sVF ff_RX11_20 rfl eh8 rfl rfl dX11_init_26 ?_
  refine go_aload_n (k4 := 0) rfl (Or.inr ⟨_, rfl⟩) dX11_init_29 ?_
  refine go_at 30 rfl ?_
  obtain ⟨a9, ea9, hs⟩ := lt_at hs
  obtain ⟨h10, eh10, hs⟩ := lt_at hs
  refine go_nO (ci := 0) rfl ln_RX11_24.1 ln_RX11_24.2.1 ln_RX11_24.2.2 dX11_init_30 ?_
  rw [← ea9]
  refine go_hp eh10.symm ?_
  refine go_dup rfl dX11_init_33 ?_
  refine go_aload_n (k4 := 0) rfl (Or.inr ⟨_, rfl⟩) dX11_init_34 ?_
  obtain ⟨v11, ev11, hs⟩ := bindS hs
  refine go_gN fl_RX11_20 ev11 dX11_init_35 ?_
  obtain ⟨y12, ey12, hs⟩ := bindS hs
  refine go_I0 (As := [.ref v11]) (st := [.ref a9, .ref x0]) rfl rfl (oX0_init (d := d - 1) (by omega) ey12) (by omega) mb_X0_init lm_RX11_26 mi_X0_init (Nat.le_of_ble_eq_true rfl) rfl dX11_init_38 ?_
  obtain ⟨h13, eh13, hs⟩ := bindS hs
  refine go_sV fw_RX11_29 eh13 rfl rfl dX11_init_41 ?_
  refine go_aload_n (k4 := 0) rfl (Or.inr ⟨_, rfl⟩) dX11_init_44 ?_
  obtain ⟨a14, ea14, hs⟩ := lt_at hs
  obtain ⟨h15, eh15, hs⟩ := lt_at hs
  refine go_nO (ci := 8) rfl ln_RX11_33.1 ln_RX11_33.2.1 ln_RX11_33.2.2 dX11_init_45 ?_
  rw [← ea14]
  refine go_hp eh15.symm ?_
  refine go_at 48 rfl ?_
  refine go_dup rfl dX11_init_48 ?_
  obtain ⟨y16, ey16, hs⟩ := bindS hs
  refine go_IN0 (As := []) (st := [.ref a14, .ref x0]) rfl rfl (oX8_init (d := d - 1) (by omega) ey16) (by omega) mb_X8_init lm_RX11_35 mi_X8_init (Nat.le_of_ble_eq_true rfl) rfl dX11_init_49 ?_
  obtain ⟨h17, eh17, hs⟩ := bindS hs
  refine go_sVF ff_RX11_36 rfl eh17 rfl rfl dX11_init_52 ?_
  refine go_aload_n (k4 := 0) rfl (Or.inr ⟨_, rfl⟩) dX11_init_55 ?_
  obtain ⟨a18, ea18, hs⟩ := lt_at hs
  obtain ⟨h19, eh19, hs⟩ := lt_at hs
  refine go_nO (ci := 8) rfl ln_RX11_33.1 ln_RX11_33.2.1 ln_RX11_33.2.2 dX11_init_56 ?_
  rw [← ea18]
  refine go_hp eh19.symm ?_
  refine go_dup rfl dX11_init_59 ?_
  obtain ⟨y20, ey20, hs⟩ := bindS hs
  refine go_IN0 (As := []) (st := [.ref a18, .ref x0]) rfl rfl (oX8_init (d := d - 1) (by omega) ey20) (by omega) mb_X8_init lm_RX11_35 mi_X8_init (Nat.le_of_ble_eq_true rfl) rfl dX11_init_60 ?_
  obtain ⟨h21, eh21, hs⟩ := bindS hs
  refine go_sVF ff_RX11_40 rfl eh21 rfl rfl dX11_init_63 ?_
  refine go_at 66 rfl ?_
  refine go_aload_n (k4 := 0) rfl (Or.inr ⟨_, rfl⟩) dX11_init_66 ?_
  obtain ⟨a22, ea22, hs⟩ := lt_at hs
  obtain ⟨h23, eh23, hs⟩ := lt_at hs
  refine go_nO (ci := 8) rfl ln_RX11_33.1 ln_RX11_33.2.1 ln_RX11_33.2.2 dX11_init_67 ?_
  rw [← ea22]
  refine go_hp eh23.symm ?_
  refine go_dup rfl dX11_init_70 ?_
  obtain ⟨y24, ey24, hs⟩ := bindS hs
  refine go_IN0 (As := []) (st := [.ref a22, .ref x0]) rfl rfl (oX8_init (d := d - 1) (by omega) ey24) (by omega) mb_X8_init lm_RX11_35 mi_X8_init (Nat.le_of_ble_eq_true rfl) rfl dX11_init_71 ?_
  obtain ⟨h25, eh25, hs⟩ := bindS hs
  refine go_sVF ff_RX11_43 rfl eh25 rfl rfl dX11_init_74 ?_
  refine go_aload_n (k4 := 0) rfl (Or.inr ⟨_, rfl⟩) dX11_init_77 ?_
  obtain ⟨a26, ea26, hs⟩ := lt_at hs
  obtain ⟨h27, eh27, hs⟩ := lt_at hs
  refine go_nO (ci := 5) rfl ln_RX11_46.1 ln_RX11_46.2.1 ln_RX11_46.2.2 dX11_init_78 ?_
  rw [← ea26]
  refine go_hp eh27.symm ?_
  refine go_dup rfl dX11_init_81 ?_
  refine go_at 82 rfl ?_
  obtain ⟨y28, ey28, hs⟩ := bindS hs
  refine go_I0 (As := []) (st := [.ref a26, .ref x0]) rfl rfl (oX5_init (d := d - 1) (by omega) ey28) (by omega) mb_X5_init lm_RX11_48 mi_X5_init (Nat.le_of_ble_eq_true rfl) rfl dX11_init_82 ?_
  obtain ⟨h29, eh29, hs⟩ := bindS hs
  refine go_sVF ff_RX11_49 rfl eh29 rfl rfl dX11_init_85 ?_
  refine go_aload_n (k4 := 0) rfl (Or.inr ⟨_, rfl⟩) dX11_init_88 ?_
  refine go_iconst (v := 4) (by decide) dX11_init_89 ?_
  obtain ⟨a31, ea31, hs⟩ := lt_at hs
  obtain ⟨h30, eh30, hs⟩ := bindS hs
  refine go_nAr (t := 5) (by decide) rfl la_RX11_53.1 la_RX11_53.2 eh30 dX11_init_90 ?_
  rw [← ea31]
  obtain ⟨h32, eh32, hs⟩ := bindS hs
  refine go_sVF ff_RX11_55 rfl eh32 rfl rfl dX11_init_93 ?_
  refine go_aload_n (k4 := 0) rfl (Or.inr ⟨_, rfl⟩) dX11_init_96 ?_
  refine go_iconst (v := 2) (by decide) dX11_init_97 ?_
  refine go_at 98 rfl ?_
  obtain ⟨a34, ea34, hs⟩ := lt_at hs
  obtain ⟨h33, eh33, hs⟩ := bindS hs
  refine go_nAr (t := 6) (by decide) rfl la_RX11_24.1 la_RX11_24.2 eh33 dX11_init_98 ?_
  rw [← ea34]
  obtain ⟨h35, eh35, hs⟩ := bindS hs
  refine go_sVF ff_RX11_59 rfl eh35 rfl rfl dX11_init_101 ?_
  refine go_aload_n (k4 := 0) rfl (Or.inr ⟨_, rfl⟩) dX11_init_104 ?_
  refine go_iconst (v := 2) (by decide) dX11_init_105 ?_
  obtain ⟨a37, ea37, hs⟩ := lt_at hs
  obtain ⟨h36, eh36, hs⟩ := bindS hs
  refine go_nAr (t := 4) (by decide) rfl la_RX11_33.1 la_RX11_33.2 eh36 dX11_init_106 ?_
  rw [← ea37]
  obtain ⟨h38, eh38, hs⟩ := bindS hs
  refine go_sVF ff_RX11_63 rfl eh38 rfl rfl dX11_init_109 ?_
  refine go_aload_n (k4 := 0) rfl (Or.inr ⟨_, rfl⟩) dX11_init_112 ?_
  obtain ⟨a39, ea39, hs⟩ := lt_at hs
  obtain ⟨h40, eh40, hs⟩ := lt_at hs
  refine go_nO (ci := 1) rfl ln_RX11_67.1 ln_RX11_67.2.1 ln_RX11_67.2.2 dX11_init_113 ?_
  rw [← ea39]
  refine go_hp eh40.symm ?_
  refine go_at 116 rfl ?_
  refine go_dup rfl dX11_init_116 ?_
  refine go_aload_n (k4 := 0) rfl (Or.inr ⟨_, rfl⟩) dX11_init_117 ?_
  obtain ⟨v41, ev41, hs⟩ := bindS hs
  refine go_gN fl_RX11_29 ev41 dX11_init_118 ?_
  obtain ⟨y42, ey42, hs⟩ := bindS hs
  refine go_I0 (As := [.ref v41]) (st := [.ref a39, .ref x0]) rfl rfl (oX1_init (d := d - 1) (by omega) ey42) (by omega) mb_X1_init lm_RX11_69 mi_X1_init (Nat.le_of_ble_eq_true rfl) rfl dX11_init_121 ?_
  obtain ⟨h43, eh43, hs⟩ := bindS hs
  refine go_sVF ff_RX11_72 rfl eh43 rfl rfl dX11_init_124 ?_
  refine go_aload_n (k4 := 0) rfl (Or.inr ⟨_, rfl⟩) dX11_init_127 ?_
  obtain ⟨a44, ea44, hs⟩ := lt_at hs
  obtain ⟨h45, eh45, hs⟩ := lt_at hs
  refine go_nO (ci := 10) rfl ln_RX11_76.1 ln_RX11_76.2.1 ln_RX11_76.2.2 dX11_init_128 ?_
  rw [← ea44]
  refine go_hp eh45.symm ?_
  refine go_dup rfl dX11_init_131 ?_
  refine go_at 132 rfl ?_
  refine go_aload_n (k4 := 0) rfl (Or.inr ⟨_, rfl⟩) dX11_init_132 ?_
  obtain ⟨v46, ev46, hs⟩ := bindS hs
  refine go_gN fl_RX11_72 ev46 dX11_init_133 ?_
  obtain ⟨y47, ey47, hs⟩ := bindS hs
  refine go_I0 (As := [.ref v46]) (st := [.ref a44, .ref x0]) rfl rfl (oX10_init (d := d - 1) (by omega) ey47) (by omega) mb_X10_init lm_RX11_78 mi_X10_init (Nat.le_of_ble_eq_true rfl) rfl dX11_init_136 ?_
  obtain ⟨h48, eh48, hs⟩ := bindS hs
  refine go_sVF ff_RX11_81 rfl eh48 rfl rfl dX11_init_139 ?_
  refine go_aload_n (k4 := 0) rfl (Or.inr ⟨_, rfl⟩) dX11_init_142 ?_
  obtain ⟨a49, ea49, hs⟩ := lt_at hs
  obtain ⟨h50, eh50, hs⟩ := lt_at hs
  refine go_nO (ci := 2) rfl ln_RX11_85.1 ln_RX11_85.2.1 ln_RX11_85.2.2 dX11_init_143 ?_
  rw [← ea49]
  refine go_hp eh50.symm ?_
  refine go_dup rfl dX11_init_146 ?_
  refine go_aload_n (k4 := 0) rfl (Or.inr ⟨_, rfl⟩) dX11_init_147 ?_
  refine go_at 148 rfl ?_
  obtain ⟨v51, ev51, hs⟩ := bindS hs
  refine go_gN fl_RX11_72 ev51 dX11_init_148 ?_
  obtain ⟨y52, ey52, hs⟩ := bindS hs
  refine go_I0 (As := [.ref v51]) (st := [.ref a49, .ref x0]) rfl rfl (oX2_init (d := d - 1) (by omega) ey52) (by omega) mb_X2_init lm_RX11_87 mi_X2_init (Nat.le_of_ble_eq_true rfl) rfl dX11_init_151 ?_
  obtain ⟨h53, eh53, hs⟩ := bindS hs
  refine go_sVF ff_RX11_88 rfl eh53 rfl rfl dX11_init_154 ?_
  refine go_aload_n (k4 := 0) rfl (Or.inr ⟨_, rfl⟩) dX11_init_157 ?_
  obtain ⟨a54, ea54, hs⟩ := lt_at hs
  obtain ⟨h55, eh55, hs⟩ := lt_at hs
  refine go_nO (ci := 7) rfl ln_RX11_92.1 ln_RX11_92.2.1 ln_RX11_92.2.2 dX11_init_158 ?_
  rw [← ea54]
  refine go_hp eh55.symm ?_
  refine go_dup rfl dX11_init_161 ?_
  refine go_aload_n (k4 := 0) rfl (Or.inr ⟨_, rfl⟩) dX11_init_162 ?_
  obtain ⟨v56, ev56, hs⟩ := bindS hs
  refine go_gN fl_RX11_72 ev56 dX11_init_163 ?_
  refine go_at 166 rfl ?_
  refine go_aload_n (k4 := 0) rfl (Or.inr ⟨_, rfl⟩) dX11_init_166 ?_
  obtain ⟨v57, ev57, hs⟩ := bindS hs
  refine go_gN fl_RX11_29 ev57 dX11_init_167 ?_
  obtain ⟨y58, ey58, hs⟩ := bindS hs
  refine go_I0 (As := [.ref v56, .ref v57]) (st := [.ref a54, .ref x0]) rfl rfl (oX7_init (d := d - 1) (by omega) ey58) (by omega) mb_X7_init lm_RX11_94 mi_X7_init (Nat.le_of_ble_eq_true rfl) rfl dX11_init_170 ?_
  obtain ⟨h59, eh59, hs⟩ := bindS hs
  refine go_sVF ff_RX11_97 rfl eh59 rfl rfl dX11_init_173 ?_
  refine go_aload_n (k4 := 0) rfl (Or.inr ⟨_, rfl⟩) dX11_init_176 ?_
  refine go_iconst (v := 4) (by decide) dX11_init_177 ?_
  obtain ⟨a61, ea61, hs⟩ := lt_at hs
  obtain ⟨h60, eh60, hs⟩ := bindS hs
  refine go_nAi lt_int eh60 dX11_init_178 ?_
  rw [← ea61]
  obtain ⟨h62, eh62, hs⟩ := bindS hs
  refine go_sVF ff_RX11_101 rfl eh62 rfl rfl dX11_init_180 ?_
  refine go_at 183 rfl ?_
  refine go_aload_n (k4 := 0) rfl (Or.inr ⟨_, rfl⟩) dX11_init_183 ?_
  refine go_iconst (v := 4) (by decide) dX11_init_184 ?_
  obtain ⟨a64, ea64, hs⟩ := lt_at hs
  obtain ⟨h63, eh63, hs⟩ := bindS hs
  refine go_nAi lt_int eh63 dX11_init_185 ?_
  rw [← ea64]
  obtain ⟨h65, eh65, hs⟩ := bindS hs
  refine go_sVF ff_RX11_105 rfl eh65 rfl rfl dX11_init_187 ?_
  refine go_aload_n (k4 := 0) rfl (Or.inr ⟨_, rfl⟩) dX11_init_190 ?_
  refine go_bipush (v := 19) (by decide) dX11_init_191 ?_
  obtain ⟨a67, ea67, hs⟩ := lt_at hs
  obtain ⟨h66, eh66, hs⟩ := bindS hs
  refine go_nAi lt_int eh66 dX11_init_193 ?_
  rw [← ea67]
  obtain ⟨h68, eh68, hs⟩ := bindS hs
  refine go_sVF ff_RX11_108 rfl eh68 rfl rfl dX11_init_195 ?_
  refine go_at 198 rfl ?_
  refine go_aload_n (k4 := 0) rfl (Or.inr ⟨_, rfl⟩) dX11_init_198 ?_
  refine go_iconst (v := 0) (by decide) dX11_init_199 ?_
  obtain ⟨h69, eh69, hs⟩ := bindS hs
  refine go_sV fw_RX11_111 eh69 rfl rfl dX11_init_200 ?_
  refine go_iconst (v := 0) (by decide) dX11_init_203 ?_
  refine go_istore_n (k4 := 1) (L' := [some (.ref x0), some (.int (0 : Int32))]) (by decide) rfl dX11_init_204 ?_
  exact go_subL (L' := [some (.ref x0), some (.int (0 : Int32))]) (by simp [subL, va_rf]) (oX11_init_205 hd hs hk)
theorem oX11_init {d : Nat} (hd : 4 ≤ d) {h : Hp} {x0 : Nat} {y : Hp} (hs : fX11_init h x0 = some y) : Call d mX11_init [.ref x0] h (none) y := call_of (by decide +kernel) (Nat.le_of_ble_eq_true rfl) (show Go d mX11_init 0 [some (.ref x0), none] [] h _ _ from go_subL (by simp [subL]) (oX11_init_0 hd hs ⟨rfl, rfl⟩))
abbrev kX11_tapeFour (rf : Option Value) (hf : Hp) : Hp → Prop := fun y => rf = none ∧ hf = y
abbrev pX11_tapeFour_3 (d : Nat) (x0 : Nat) (x1 : Int32) (rf : Option Value) (hf : Hp) : (Int32 × Hp) → Prop := fun s => Go d mX11_tapeFour 3 [some (.ref x0), some (.int x1), some (.int s.1)] [] s.2 rf hf
noncomputable def fX11_tapeFour_46 (h : Hp)  : Option Hp :=
  some (h)
theorem oX11_tapeFour_46 {d : Nat} (hd : 0 ≤ d) {h : Hp} {rf : Option Value} {hf : Hp} {x : Hp} (hs : fX11_tapeFour_46 h  = some x) (hk : (kX11_tapeFour rf hf) x) : Go d mX11_tapeFour 46 [none, none, none] [] h rf hf := by
  unfold fX11_tapeFour_46 at hs
  obtain rfl := Option.some.inj hs
  obtain ⟨rfl, rfl⟩ := hk
  exact go_vret rfl dX11_tapeFour_46
noncomputable def fX11_tapeFour_3b (h : Hp) (x0 : Nat) (x1 : Int32) (x2 : Int32) : Option ((Int32 × Hp) ⊕ Hp) :=
  if x2 < 0 then (
  (fX11_tapeFour_46 h ).map (fun q => .inr q)) else (
    (gI h 11 x0 1).bind fun v1 =>
    if (900 : Int32) ≤ v1 then (
    (fX11_tapeFour_46 h ).map (fun q => .inr q)) else (
      (gN h 11 x0 0).bind fun v2 =>
      (gI h 11 x0 1).bind fun v3 =>
      (wI 1 h v2 v3 (x1 >>> (x2 &&& 31)).toInt8.toInt32).bind fun h4 =>
      (gI h4 11 x0 1).bind fun v5 =>
      (sV h4 11 x0 1 (.int (v5 + (1 : Int32)))).bind fun h6 =>
      some (.inl ((x2 + Int32.ofInt (-8)), h6))))
noncomputable def fX11_tapeFour_3 (h : Hp) (x0 : Nat) (x1 : Int32) (x2 : Int32) : Option Hp := lpw (σ := (Int32 × Hp)) (fun s => fX11_tapeFour_3b s.2 x0 x1 s.1) (x2, h)
theorem oX11_tapeFour_3b {d : Nat} (hd : 0 ≤ d) {h : Hp} {x0 : Nat} {x1 : Int32} {x2 : Int32} {rf : Option Value} {hf : Hp} {x : ((Int32 × Hp) ⊕ Hp)} (hs : fX11_tapeFour_3b h x0 x1 x2 = some x) (hk : (Kx (pX11_tapeFour_3 d x0 x1 rf hf) (kX11_tapeFour rf hf)) x) : Go d mX11_tapeFour 3 [some (.ref x0), some (.int x1), some (.int x2)] [] h rf hf := by
  unfold fX11_tapeFour_3b at hs
  refine go_iload_n (k4 := 2) rfl dX11_tapeFour_3 ?_
  refine go_if_lt (tgt := 46) (by decide) dX11_tapeFour_4 (fun c => ?_) (fun c => ?_)
  · have hs := if_t c hs
    obtain ⟨q, hs2, hq⟩ := mapS hs
    clear hs
    subst hq
    exact go_subL (L' := [none, none, none]) (by simp [subL, va_rf]) (oX11_tapeFour_46 hd hs2 hk)
  · have hs := if_f c hs
    refine go_aload_n (k4 := 0) rfl (Or.inr ⟨_, rfl⟩) dX11_tapeFour_7 ?_
    obtain ⟨v1, ev1, hs⟩ := bindS hs
    refine go_gI fl_RX11_13 ev1 dX11_tapeFour_8 ?_
    refine go_sipush (v := 900) (by decide) dX11_tapeFour_11 ?_
    refine go_icmp_ge (tgt := 46) (by decide) dX11_tapeFour_14 (fun c => ?_) (fun c => ?_)
    · have hs := if_t c hs
      obtain ⟨q, hs2, hq⟩ := mapS hs
      clear hs
      subst hq
      exact go_subL (L' := [none, none, none]) (by simp [subL, va_rf]) (oX11_tapeFour_46 hd hs2 hk)
    · have hs := if_f c hs
      refine go_aload_n (k4 := 0) rfl (Or.inr ⟨_, rfl⟩) dX11_tapeFour_17 ?_
      obtain ⟨v2, ev2, hs⟩ := bindS hs
      refine go_gN fl_RX11_9 ev2 dX11_tapeFour_18 ?_
      refine go_aload_n (k4 := 0) rfl (Or.inr ⟨_, rfl⟩) dX11_tapeFour_21 ?_
      obtain ⟨v3, ev3, hs⟩ := bindS hs
      refine go_gI fl_RX11_13 ev3 dX11_tapeFour_22 ?_
      refine go_iload_n (k4 := 1) rfl dX11_tapeFour_25 ?_
      refine go_iload_n (k4 := 2) rfl dX11_tapeFour_26 ?_
      refine go_ishr dX11_tapeFour_27 ?_
      refine go_at 28 rfl ?_
      refine go_i2b dX11_tapeFour_28 ?_
      obtain ⟨h4, eh4, hs⟩ := bindS hs
      refine go_wIb eh4 dX11_tapeFour_29 ?_
      refine go_aload_n (k4 := 0) rfl (Or.inr ⟨_, rfl⟩) dX11_tapeFour_30 ?_
      refine go_dup rfl dX11_tapeFour_31 ?_
      obtain ⟨v5, ev5, hs⟩ := bindS hs
      refine go_gI fl_RX11_13 ev5 dX11_tapeFour_32 ?_
      refine go_iconst (v := 1) (by decide) dX11_tapeFour_35 ?_
      refine go_iadd dX11_tapeFour_36 ?_
      obtain ⟨h6, eh6, hs⟩ := bindS hs
      refine go_sV fw_RX11_13 eh6 rfl rfl dX11_tapeFour_37 ?_
      refine go_at 40 rfl ?_
      refine go_iinc (L' := [some (.ref x0), some (.int x1), some (.int (x2 + Int32.ofInt (-8)))]) rfl (by decide) rfl rfl dX11_tapeFour_40 ?_
      refine go_goto (tgt := 3) (by decide) dX11_tapeFour_43 ?_
      obtain rfl := Option.some.inj hs
      exact go_subL (L' := [some (.ref x0), some (.int x1), some (.int (x2 + Int32.ofInt (-8)))]) (by simp [subL, va_rf]) hk
theorem oX11_tapeFour_3 {d : Nat} (hd : 0 ≤ d) {h : Hp} {x0 : Nat} {x1 : Int32} {x2 : Int32} {rf : Option Value} {hf : Hp} {x : Hp} (hs : fX11_tapeFour_3 h x0 x1 x2 = some x) (hk : (kX11_tapeFour rf hf) x) : Go d mX11_tapeFour 3 [some (.ref x0), some (.int x1), some (.int x2)] [] h rf hf := by
  unfold fX11_tapeFour_3 at hs
  exact lpw_go (P := pX11_tapeFour_3 d x0 x1 rf hf) (fun s x hs hk => oX11_tapeFour_3b hd hs hk) (x2, h) x hs hk
noncomputable def fX11_tapeFour (h : Hp) (x0 : Nat) (x1 : Int32) : Option Hp :=
  fX11_tapeFour_3 h x0 x1 (24 : Int32)
theorem oX11_tapeFour_0 {d : Nat} (hd : 0 ≤ d) {h : Hp} {x0 : Nat} {x1 : Int32} {rf : Option Value} {hf : Hp} {x : Hp} (hs : fX11_tapeFour h x0 x1 = some x) (hk : (kX11_tapeFour rf hf) x) : Go d mX11_tapeFour 0 [some (.ref x0), some (.int x1), none] [] h rf hf := by
  unfold fX11_tapeFour at hs
  refine go_bipush (v := 24) (by decide) dX11_tapeFour_0 ?_
  refine go_istore_n (k4 := 2) (L' := [some (.ref x0), some (.int x1), some (.int (24 : Int32))]) (by decide) rfl dX11_tapeFour_2 ?_
  exact go_subL (L' := [some (.ref x0), some (.int x1), some (.int (24 : Int32))]) (by simp [subL, va_rf]) (oX11_tapeFour_3 hd hs hk)
theorem oX11_tapeFour {d : Nat} (hd : 0 ≤ d) {h : Hp} {x0 : Nat} {x1 : Int32} {y : Hp} (hs : fX11_tapeFour h x0 x1 = some y) : Call d mX11_tapeFour [.ref x0, .int x1] h (none) y := call_of (by decide +kernel) (Nat.le_of_ble_eq_true rfl) (show Go d mX11_tapeFour 0 [some (.ref x0), some (.int x1), none] [] h _ _ from go_subL (by simp [subL]) (oX11_tapeFour_0 hd hs ⟨rfl, rfl⟩))
abbrev kX11_feed (rf : Option Value) (hf : Hp) : (Int32 × Hp) → Prop := fun y => rf = some (.int y.1) ∧ hf = y.2
noncomputable def fX11_feed (h : Hp) (x0 : Nat) (x1 : Int32) (x2 : Int32) (x3 : Int32) (x4 : Int32) (x5 : Int32) : Option (Int32 × Hp) :=
  (gI h 11 x0 1).bind fun v1 =>
  if (v1 + (20 : Int32)) ≤ (900 : Int32) then (
    gO h 11 x0 (
    (fX11_tapeFour h x0 x1).bind fun y2 =>
    gO y2 11 x0 (
    (fX11_tapeFour y2 x0 x2).bind fun y4 =>
    gO y4 11 x0 (
    (fX11_tapeFour y4 x0 x3).bind fun y6 =>
    gO y6 11 x0 (
    (fX11_tapeFour y6 x0 x4).bind fun y8 =>
    gO y8 11 x0 (
    (fX11_tapeFour y8 x0 x5).bind fun y10 =>
    (gI y10 11 x0 1).bind fun v12 =>
    some ((v12, y10)))))))) else (
    some (((-5 : Int32), h)))
theorem oX11_feed_0 {d : Nat} (hd : 1 ≤ d) {h : Hp} {x0 : Nat} {x1 : Int32} {x2 : Int32} {x3 : Int32} {x4 : Int32} {x5 : Int32} {rf : Option Value} {hf : Hp} {x : (Int32 × Hp)} (hs : fX11_feed h x0 x1 x2 x3 x4 x5 = some x) (hk : (kX11_feed rf hf) x) : Go d mX11_feed 0 [some (.ref x0), some (.int x1), some (.int x2), some (.int x3), some (.int x4), some (.int x5)] [] h rf hf := by
  unfold fX11_feed at hs
  refine go_aload_n (k4 := 0) rfl (Or.inr ⟨_, rfl⟩) dX11_feed_0 ?_
  obtain ⟨v1, ev1, hs⟩ := bindS hs
  refine go_gI fl_RX11_13 ev1 dX11_feed_1 ?_
  refine go_bipush (v := 20) (by decide) dX11_feed_4 ?_
  refine go_iadd dX11_feed_6 ?_
  refine go_sipush (v := 900) (by decide) dX11_feed_7 ?_
  refine go_icmp_le (tgt := 16) (by decide) dX11_feed_10 (fun c => ?_) (fun c => ?_)
  · have hs := if_t c hs
    refine go_aload_n (k4 := 0) rfl (Or.inr ⟨_, rfl⟩) dX11_feed_16 ?_
    refine go_iload_n (k4 := 1) rfl dX11_feed_17 ?_
    obtain ⟨g3, hs⟩ := gO_at hs
    obtain ⟨y2, ey2, hs⟩ := bindS hs
    refine go_V0 (As := [.int x1]) (st := []) g3 rfl rfl (oX11_tapeFour (d := d - 1) (by omega) ey2) (by omega) mb_X11_tapeFour lm_RX11_115 mi_X11_tapeFour (Nat.le_of_ble_eq_true rfl) rfl dX11_feed_18 ?_
    refine go_aload_n (k4 := 0) rfl (Or.inr ⟨_, rfl⟩) dX11_feed_21 ?_
    refine go_iload_n (k4 := 2) rfl dX11_feed_22 ?_
    obtain ⟨g5, hs⟩ := gO_at hs
    obtain ⟨y4, ey4, hs⟩ := bindS hs
    refine go_V0 (As := [.int x2]) (st := []) g5 rfl rfl (oX11_tapeFour (d := d - 1) (by omega) ey4) (by omega) mb_X11_tapeFour lm_RX11_115 mi_X11_tapeFour (Nat.le_of_ble_eq_true rfl) rfl dX11_feed_23 ?_
    refine go_aload_n (k4 := 0) rfl (Or.inr ⟨_, rfl⟩) dX11_feed_26 ?_
    refine go_at 27 rfl ?_
    refine go_iload_n (k4 := 3) rfl dX11_feed_27 ?_
    obtain ⟨g7, hs⟩ := gO_at hs
    obtain ⟨y6, ey6, hs⟩ := bindS hs
    refine go_V0 (As := [.int x3]) (st := []) g7 rfl rfl (oX11_tapeFour (d := d - 1) (by omega) ey6) (by omega) mb_X11_tapeFour lm_RX11_115 mi_X11_tapeFour (Nat.le_of_ble_eq_true rfl) rfl dX11_feed_28 ?_
    refine go_aload_n (k4 := 0) rfl (Or.inr ⟨_, rfl⟩) dX11_feed_31 ?_
    refine go_iload rfl dX11_feed_32 ?_
    obtain ⟨g9, hs⟩ := gO_at hs
    obtain ⟨y8, ey8, hs⟩ := bindS hs
    refine go_V0 (As := [.int x4]) (st := []) g9 rfl rfl (oX11_tapeFour (d := d - 1) (by omega) ey8) (by omega) mb_X11_tapeFour lm_RX11_115 mi_X11_tapeFour (Nat.le_of_ble_eq_true rfl) rfl dX11_feed_34 ?_
    refine go_aload_n (k4 := 0) rfl (Or.inr ⟨_, rfl⟩) dX11_feed_37 ?_
    refine go_iload rfl dX11_feed_38 ?_
    obtain ⟨g11, hs⟩ := gO_at hs
    obtain ⟨y10, ey10, hs⟩ := bindS hs
    refine go_V0 (As := [.int x5]) (st := []) g11 rfl rfl (oX11_tapeFour (d := d - 1) (by omega) ey10) (by omega) mb_X11_tapeFour lm_RX11_115 mi_X11_tapeFour (Nat.le_of_ble_eq_true rfl) rfl dX11_feed_40 ?_
    refine go_at 43 rfl ?_
    refine go_aload_n (k4 := 0) rfl (Or.inr ⟨_, rfl⟩) dX11_feed_43 ?_
    obtain ⟨v12, ev12, hs⟩ := bindS hs
    refine go_gI fl_RX11_13 ev12 dX11_feed_44 ?_
    obtain rfl := Option.some.inj hs
    obtain ⟨rfl, rfl⟩ := hk
    exact go_iret rfl dX11_feed_47
  · have hs := if_f c hs
    refine go_bipush (v := -5) (by decide) dX11_feed_13 ?_
    obtain rfl := Option.some.inj hs
    obtain ⟨rfl, rfl⟩ := hk
    exact go_iret rfl dX11_feed_15
theorem oX11_feed {d : Nat} (hd : 1 ≤ d) {h : Hp} {x0 : Nat} {x1 : Int32} {x2 : Int32} {x3 : Int32} {x4 : Int32} {x5 : Int32} {y : (Int32 × Hp)} (hs : fX11_feed h x0 x1 x2 x3 x4 x5 = some y) : Call d mX11_feed [.ref x0, .int x1, .int x2, .int x3, .int x4, .int x5] h (some (.int y.1)) (y.2) := call_of (by decide +kernel) (Nat.le_of_ble_eq_true rfl) (show Go d mX11_feed 0 [some (.ref x0), some (.int x1), some (.int x2), some (.int x3), some (.int x4), some (.int x5)] [] h _ _ from go_subL (by simp [subL]) (oX11_feed_0 hd hs ⟨rfl, rfl⟩))
abbrev kX4_forget (rf : Option Value) (hf : Hp) : Hp → Prop := fun y => rf = none ∧ hf = y
noncomputable def fX4_forget (h : Hp) (x0 : Nat) : Option Hp :=
  (sV h 4 x0 5 (.int (0 : Int32))).bind fun h1 =>
  (sV h1 4 x0 6 (.int (-1 : Int32))).bind fun h2 =>
  (sV h2 4 x0 7 (.int (0 : Int32))).bind fun h3 =>
  (sV h3 4 x0 8 (.int (0 : Int32))).bind fun h4 =>
  (sV h4 4 x0 9 (.int (0 : Int32))).bind fun h5 =>
  (sV h5 4 x0 10 (.int (0 : Int32))).bind fun h6 =>
  (sV h6 4 x0 11 (.int (0 : Int32))).bind fun h7 =>
  (sV h7 4 x0 12 (.int (0 : Int32))).bind fun h8 =>
  (sV h8 4 x0 13 (.int (-1 : Int32))).bind fun h9 =>
  (sV h9 4 x0 14 (.null)).bind fun h10 =>
  (sV h10 4 x0 15 (.null)).bind fun h11 =>
  some (h11)
theorem oX4_forget_0 {d : Nat} (hd : 0 ≤ d) {h : Hp} {x0 : Nat} {rf : Option Value} {hf : Hp} {x : Hp} (hs : fX4_forget h x0 = some x) (hk : (kX4_forget rf hf) x) : Go d mX4_forget 0 [some (.ref x0)] [] h rf hf := by
  unfold fX4_forget at hs
  refine go_aload_n (k4 := 0) rfl (Or.inr ⟨_, rfl⟩) dX4_forget_0 ?_
  refine go_iconst (v := 0) (by decide) dX4_forget_1 ?_
  obtain ⟨h1, eh1, hs⟩ := bindS hs
  refine go_sV fw_RX4_33 eh1 rfl rfl dX4_forget_2 ?_
  refine go_aload_n (k4 := 0) rfl (Or.inr ⟨_, rfl⟩) dX4_forget_5 ?_
  refine go_iconst (v := -1) (by decide) dX4_forget_6 ?_
  obtain ⟨h2, eh2, hs⟩ := bindS hs
  refine go_sV fw_RX4_36 eh2 rfl rfl dX4_forget_7 ?_
  refine go_aload_n (k4 := 0) rfl (Or.inr ⟨_, rfl⟩) dX4_forget_10 ?_
  refine go_at 11 rfl ?_
  refine go_iconst (v := 0) (by decide) dX4_forget_11 ?_
  obtain ⟨h3, eh3, hs⟩ := bindS hs
  refine go_sV fw_RX4_39 eh3 rfl rfl dX4_forget_12 ?_
  refine go_aload_n (k4 := 0) rfl (Or.inr ⟨_, rfl⟩) dX4_forget_15 ?_
  refine go_iconst (v := 0) (by decide) dX4_forget_16 ?_
  obtain ⟨h4, eh4, hs⟩ := bindS hs
  refine go_sV fw_RX4_42 eh4 rfl rfl dX4_forget_17 ?_
  refine go_aload_n (k4 := 0) rfl (Or.inr ⟨_, rfl⟩) dX4_forget_20 ?_
  refine go_iconst (v := 0) (by decide) dX4_forget_21 ?_
  obtain ⟨h5, eh5, hs⟩ := bindS hs
  refine go_sV fw_RX4_45 eh5 rfl rfl dX4_forget_22 ?_
  refine go_at 25 rfl ?_
  refine go_aload_n (k4 := 0) rfl (Or.inr ⟨_, rfl⟩) dX4_forget_25 ?_
  refine go_iconst (v := 0) (by decide) dX4_forget_26 ?_
  obtain ⟨h6, eh6, hs⟩ := bindS hs
  refine go_sV fw_RX4_48 eh6 rfl rfl dX4_forget_27 ?_
  refine go_aload_n (k4 := 0) rfl (Or.inr ⟨_, rfl⟩) dX4_forget_30 ?_
  refine go_iconst (v := 0) (by decide) dX4_forget_31 ?_
  obtain ⟨h7, eh7, hs⟩ := bindS hs
  refine go_sV fw_RX4_51 eh7 rfl rfl dX4_forget_32 ?_
  refine go_aload_n (k4 := 0) rfl (Or.inr ⟨_, rfl⟩) dX4_forget_35 ?_
  refine go_iconst (v := 0) (by decide) dX4_forget_36 ?_
  refine go_at 37 rfl ?_
  obtain ⟨h8, eh8, hs⟩ := bindS hs
  refine go_sV fw_RX4_54 eh8 rfl rfl dX4_forget_37 ?_
  refine go_aload_n (k4 := 0) rfl (Or.inr ⟨_, rfl⟩) dX4_forget_40 ?_
  refine go_iconst (v := -1) (by decide) dX4_forget_41 ?_
  obtain ⟨h9, eh9, hs⟩ := bindS hs
  refine go_sV fw_RX4_57 eh9 rfl rfl dX4_forget_42 ?_
  refine go_aload_n (k4 := 0) rfl (Or.inr ⟨_, rfl⟩) dX4_forget_45 ?_
  refine go_null dX4_forget_46 ?_
  obtain ⟨h10, eh10, hs⟩ := bindS hs
  refine go_sV fw_RX4_60 eh10 rfl rfl dX4_forget_47 ?_
  refine go_aload_n (k4 := 0) rfl (Or.inr ⟨_, rfl⟩) dX4_forget_50 ?_
  refine go_at 51 rfl ?_
  refine go_null dX4_forget_51 ?_
  obtain ⟨h11, eh11, hs⟩ := bindS hs
  refine go_sV fw_RX4_64 eh11 rfl rfl dX4_forget_52 ?_
  obtain rfl := Option.some.inj hs
  obtain ⟨rfl, rfl⟩ := hk
  exact go_vret rfl dX4_forget_55
theorem oX4_forget {d : Nat} (hd : 0 ≤ d) {h : Hp} {x0 : Nat} {y : Hp} (hs : fX4_forget h x0 = some y) : Call d mX4_forget [.ref x0] h (none) y := call_of (by decide +kernel) (Nat.le_of_ble_eq_true rfl) (show Go d mX4_forget 0 [some (.ref x0)] [] h _ _ from go_subL (by simp [subL]) (oX4_forget_0 hd hs ⟨rfl, rfl⟩))
abbrev kX6_readWord (rf : Option Value) (hf : Hp) : Hp → Prop := fun y => rf = none ∧ hf = y
abbrev pX6_readWord_5 (d : Nat) (x0 : Nat) (rf : Option Value) (hf : Hp) : Hp → Prop := fun s => Go d mX6_readWord 5 [some (.ref x0)] [] s rf hf
noncomputable def fX6_readWord_57 (h : Hp)  : Option Hp :=
  some (h)
theorem oX6_readWord_57 {d : Nat} (hd : 0 ≤ d) {h : Hp} {rf : Option Value} {hf : Hp} {x : Hp} (hs : fX6_readWord_57 h  = some x) (hk : (kX6_readWord rf hf) x) : Go d mX6_readWord 57 [none] [] h rf hf := by
  unfold fX6_readWord_57 at hs
  obtain rfl := Option.some.inj hs
  obtain ⟨rfl, rfl⟩ := hk
  exact go_vret rfl dX6_readWord_57
noncomputable def fX6_readWord_5b (h : Hp) (x0 : Nat) : Option (Hp ⊕ Hp) :=
  (gI h 6 x0 2).bind fun v2 =>
  (gI h 6 x0 1).bind fun v3 =>
  if v3 ≤ v2 then (
  (fX6_readWord_57 h ).map (fun q => .inr q)) else (
    (gN h 6 x0 0).bind fun v4 =>
    (gI h 6 x0 2).bind fun v5 =>
    (aI 1 h v4 v5).bind fun v6 =>
    if v6 < (97 : Int32) then (
    (fX6_readWord_57 h ).map (fun q => .inr q)) else (
      (gN h 6 x0 0).bind fun v7 =>
      (gI h 6 x0 2).bind fun v8 =>
      (aI 1 h v7 v8).bind fun v9 =>
      if (122 : Int32) < v9 then (
      (fX6_readWord_57 h ).map (fun q => .inr q)) else (
        (gI h 6 x0 2).bind fun v10 =>
        (sV h 6 x0 2 (.int (v10 + (1 : Int32)))).bind fun h11 =>
        some (.inl h11))))
noncomputable def fX6_readWord_5 (h : Hp) (x0 : Nat) : Option Hp := lpw (σ := Hp) (fun s => fX6_readWord_5b s x0 ) h
theorem oX6_readWord_5b {d : Nat} (hd : 0 ≤ d) {h : Hp} {x0 : Nat} {rf : Option Value} {hf : Hp} {x : (Hp ⊕ Hp)} (hs : fX6_readWord_5b h x0 = some x) (hk : (Kx (pX6_readWord_5 d x0 rf hf) (kX6_readWord rf hf)) x) : Go d mX6_readWord 5 [some (.ref x0)] [] h rf hf := by
  unfold fX6_readWord_5b at hs
  refine go_aload_n (k4 := 0) rfl (Or.inr ⟨_, rfl⟩) dX6_readWord_5 ?_
  obtain ⟨v2, ev2, hs⟩ := bindS hs
  refine go_gI fl_RX6_17 ev2 dX6_readWord_6 ?_
  refine go_aload_n (k4 := 0) rfl (Or.inr ⟨_, rfl⟩) dX6_readWord_9 ?_
  obtain ⟨v3, ev3, hs⟩ := bindS hs
  refine go_gI fl_RX6_13 ev3 dX6_readWord_10 ?_
  refine go_icmp_ge (tgt := 57) (by decide) dX6_readWord_13 (fun c => ?_) (fun c => ?_)
  · have hs := if_t c hs
    obtain ⟨q, hs2, hq⟩ := mapS hs
    clear hs
    subst hq
    exact go_subL (L' := [none]) (by simp [subL, va_rf]) (oX6_readWord_57 hd hs2 hk)
  · have hs := if_f c hs
    refine go_aload_n (k4 := 0) rfl (Or.inr ⟨_, rfl⟩) dX6_readWord_16 ?_
    obtain ⟨v4, ev4, hs⟩ := bindS hs
    refine go_gN fl_RX6_7 ev4 dX6_readWord_17 ?_
    refine go_aload_n (k4 := 0) rfl (Or.inr ⟨_, rfl⟩) dX6_readWord_20 ?_
    obtain ⟨v5, ev5, hs⟩ := bindS hs
    refine go_gI fl_RX6_17 ev5 dX6_readWord_21 ?_
    obtain ⟨v6, ev6, hs⟩ := bindS hs
    refine go_aIb ev6 dX6_readWord_24 ?_
    refine go_bipush (v := 97) (by decide) dX6_readWord_25 ?_
    refine go_icmp_lt (tgt := 57) (by decide) dX6_readWord_27 (fun c => ?_) (fun c => ?_)
    · have hs := if_t c hs
      obtain ⟨q, hs2, hq⟩ := mapS hs
      clear hs
      subst hq
      exact go_subL (L' := [none]) (by simp [subL, va_rf]) (oX6_readWord_57 hd hs2 hk)
    · have hs := if_f c hs
      refine go_aload_n (k4 := 0) rfl (Or.inr ⟨_, rfl⟩) dX6_readWord_30 ?_
      obtain ⟨v7, ev7, hs⟩ := bindS hs
      refine go_gN fl_RX6_7 ev7 dX6_readWord_31 ?_
      refine go_aload_n (k4 := 0) rfl (Or.inr ⟨_, rfl⟩) dX6_readWord_34 ?_
      obtain ⟨v8, ev8, hs⟩ := bindS hs
      refine go_gI fl_RX6_17 ev8 dX6_readWord_35 ?_
      obtain ⟨v9, ev9, hs⟩ := bindS hs
      refine go_aIb ev9 dX6_readWord_38 ?_
      refine go_bipush (v := 122) (by decide) dX6_readWord_39 ?_
      refine go_icmp_gt (tgt := 57) (by decide) dX6_readWord_41 (fun c => ?_) (fun c => ?_)
      · have hs := if_t c hs
        obtain ⟨q, hs2, hq⟩ := mapS hs
        clear hs
        subst hq
        exact go_subL (L' := [none]) (by simp [subL, va_rf]) (oX6_readWord_57 hd hs2 hk)
      · have hs := if_f c hs
        refine go_aload_n (k4 := 0) rfl (Or.inr ⟨_, rfl⟩) dX6_readWord_44 ?_
        refine go_dup rfl dX6_readWord_45 ?_
        obtain ⟨v10, ev10, hs⟩ := bindS hs
        refine go_gI fl_RX6_17 ev10 dX6_readWord_46 ?_
        refine go_iconst (v := 1) (by decide) dX6_readWord_49 ?_
        refine go_iadd dX6_readWord_50 ?_
        obtain ⟨h11, eh11, hs⟩ := bindS hs
        refine go_sV fw_RX6_17 eh11 rfl rfl dX6_readWord_51 ?_
        refine go_goto (tgt := 5) (by decide) dX6_readWord_54 ?_
        obtain rfl := Option.some.inj hs
        exact go_subL (L' := [some (.ref x0)]) (by simp [subL, va_rf]) hk
theorem oX6_readWord_5 {d : Nat} (hd : 0 ≤ d) {h : Hp} {x0 : Nat} {rf : Option Value} {hf : Hp} {x : Hp} (hs : fX6_readWord_5 h x0 = some x) (hk : (kX6_readWord rf hf) x) : Go d mX6_readWord 5 [some (.ref x0)] [] h rf hf := by
  unfold fX6_readWord_5 at hs
  exact lpw_go (P := pX6_readWord_5 d x0 rf hf) (fun s x hs hk => oX6_readWord_5b hd hs hk) h x hs hk
noncomputable def fX6_readWord (h : Hp) (x0 : Nat) : Option Hp :=
  (sV h 6 x0 3 (.int (1 : Int32))).bind fun h1 =>
  fX6_readWord_5 h1 x0
theorem oX6_readWord_0 {d : Nat} (hd : 0 ≤ d) {h : Hp} {x0 : Nat} {rf : Option Value} {hf : Hp} {x : Hp} (hs : fX6_readWord h x0 = some x) (hk : (kX6_readWord rf hf) x) : Go d mX6_readWord 0 [some (.ref x0)] [] h rf hf := by
  unfold fX6_readWord at hs
  refine go_aload_n (k4 := 0) rfl (Or.inr ⟨_, rfl⟩) dX6_readWord_0 ?_
  refine go_iconst (v := 1) (by decide) dX6_readWord_1 ?_
  obtain ⟨h1, eh1, hs⟩ := bindS hs
  refine go_sV fw_RX6_20 eh1 rfl rfl dX6_readWord_2 ?_
  exact go_subL (L' := [some (.ref x0)]) (by simp [subL, va_rf]) (oX6_readWord_5 hd hs hk)
theorem oX6_readWord {d : Nat} (hd : 0 ≤ d) {h : Hp} {x0 : Nat} {y : Hp} (hs : fX6_readWord h x0 = some y) : Call d mX6_readWord [.ref x0] h (none) y := call_of (by decide +kernel) (Nat.le_of_ble_eq_true rfl) (show Go d mX6_readWord 0 [some (.ref x0)] [] h _ _ from go_subL (by simp [subL]) (oX6_readWord_0 hd hs ⟨rfl, rfl⟩))
abbrev kX6_readNumber (rf : Option Value) (hf : Hp) : Hp → Prop := fun y => rf = none ∧ hf = y
abbrev pX6_readNumber_5 (d : Nat) (x0 : Nat) (rf : Option Value) (hf : Hp) : Hp → Prop := fun s => Go d mX6_readNumber 5 [some (.ref x0)] [] s rf hf
noncomputable def fX6_readNumber_120 (h : Hp) (s0 : Nat) (s1 : Int32) : Option Hp :=
  (sV h 6 s0 3 (.int s1)).bind fun h6 =>
  some (h6)
theorem oX6_readNumber_120 {d : Nat} (hd : 0 ≤ d) {h : Hp} {s0 : Nat} {s1 : Int32} {rf : Option Value} {hf : Hp} {x : Hp} (hs : fX6_readNumber_120 h s0 s1 = some x) (hk : (kX6_readNumber rf hf) x) : Go d mX6_readNumber 120 [none] [.int s1, .ref s0] h rf hf := by
  unfold fX6_readNumber_120 at hs
  obtain ⟨h6, eh6, hs⟩ := bindS hs
  refine go_sV fw_RX6_20 eh6 rfl rfl dX6_readNumber_120 ?_
  obtain rfl := Option.some.inj hs
  obtain ⟨rfl, rfl⟩ := hk
  exact go_vret rfl dX6_readNumber_123
noncomputable def fX6_readNumber_101 (h : Hp) (x0 : Nat) : Option Hp :=
  (gI h 6 x0 2).bind fun v4 =>
  (gI h 6 x0 4).bind fun v5 =>
  if (v4 - v5) ≤ (3 : Int32) then (
    fX6_readNumber_120 h x0 (2 : Int32)) else (
    fX6_readNumber_120 h x0 (4 : Int32))
theorem oX6_readNumber_101 {d : Nat} (hd : 0 ≤ d) {h : Hp} {x0 : Nat} {rf : Option Value} {hf : Hp} {x : Hp} (hs : fX6_readNumber_101 h x0 = some x) (hk : (kX6_readNumber rf hf) x) : Go d mX6_readNumber 101 [some (.ref x0)] [] h rf hf := by
  unfold fX6_readNumber_101 at hs
  refine go_aload_n (k4 := 0) rfl (Or.inr ⟨_, rfl⟩) dX6_readNumber_101 ?_
  refine go_aload_n (k4 := 0) rfl (Or.inr ⟨_, rfl⟩) dX6_readNumber_102 ?_
  obtain ⟨v4, ev4, hs⟩ := bindS hs
  refine go_gI fl_RX6_17 ev4 dX6_readNumber_103 ?_
  refine go_aload_n (k4 := 0) rfl (Or.inr ⟨_, rfl⟩) dX6_readNumber_106 ?_
  obtain ⟨v5, ev5, hs⟩ := bindS hs
  refine go_gI fl_RX6_23 ev5 dX6_readNumber_107 ?_
  refine go_isub dX6_readNumber_110 ?_
  refine go_iconst (v := 3) (by decide) dX6_readNumber_111 ?_
  refine go_at 112 rfl ?_
  refine go_icmp_le (tgt := 119) (by decide) dX6_readNumber_112 (fun c => ?_) (fun c => ?_)
  · have hs := if_t c hs
    refine go_iconst (v := 2) (by decide) dX6_readNumber_119 ?_
    exact go_subL (L' := [none]) (by simp [subL, va_rf]) (oX6_readNumber_120 hd hs hk)
  · have hs := if_f c hs
    refine go_iconst (v := 4) (by decide) dX6_readNumber_115 ?_
    refine go_goto (tgt := 120) (by decide) dX6_readNumber_116 ?_
    exact go_subL (L' := [none]) (by simp [subL, va_rf]) (oX6_readNumber_120 hd hs hk)
noncomputable def fX6_readNumber_85 (h : Hp) (x0 : Nat) (s0 : Nat) (s1 : Int32) : Option (Hp ⊕ Hp) :=
  (sV h 6 s0 5 (.int s1)).bind fun h16 =>
  (gI h16 6 x0 2).bind fun v17 =>
  (sV h16 6 x0 2 (.int (v17 + (1 : Int32)))).bind fun h18 =>
  some (.inl h18)
theorem oX6_readNumber_85 {d : Nat} (hd : 0 ≤ d) {h : Hp} {x0 : Nat} {s0 : Nat} {s1 : Int32} {rf : Option Value} {hf : Hp} {x : (Hp ⊕ Hp)} (hs : fX6_readNumber_85 h x0 s0 s1 = some x) (hk : (Kx (pX6_readNumber_5 d x0 rf hf) (kX6_readNumber rf hf)) x) : Go d mX6_readNumber 85 [some (.ref x0)] [.int s1, .ref s0] h rf hf := by
  unfold fX6_readNumber_85 at hs
  obtain ⟨h16, eh16, hs⟩ := bindS hs
  refine go_sV fw_RX6_26 eh16 rfl rfl dX6_readNumber_85 ?_
  refine go_aload_n (k4 := 0) rfl (Or.inr ⟨_, rfl⟩) dX6_readNumber_88 ?_
  refine go_dup rfl dX6_readNumber_89 ?_
  obtain ⟨v17, ev17, hs⟩ := bindS hs
  refine go_gI fl_RX6_17 ev17 dX6_readNumber_90 ?_
  refine go_iconst (v := 1) (by decide) dX6_readNumber_93 ?_
  refine go_iadd dX6_readNumber_94 ?_
  obtain ⟨h18, eh18, hs⟩ := bindS hs
  refine go_sV fw_RX6_17 eh18 rfl rfl dX6_readNumber_95 ?_
  refine go_at 98 rfl ?_
  refine go_goto (tgt := 5) (by decide) dX6_readNumber_98 ?_
  obtain rfl := Option.some.inj hs
  exact go_subL (L' := [some (.ref x0)]) (by simp [subL, va_rf]) hk
noncomputable def fX6_readNumber_5b (h : Hp) (x0 : Nat) : Option (Hp ⊕ Hp) :=
  (gI h 6 x0 2).bind fun v2 =>
  (gI h 6 x0 1).bind fun v3 =>
  if v3 ≤ v2 then (
  (fX6_readNumber_101 h x0).map (fun q => .inr q)) else (
    (gN h 6 x0 0).bind fun v7 =>
    (gI h 6 x0 2).bind fun v8 =>
    (aI 1 h v7 v8).bind fun v9 =>
    if v9 < (48 : Int32) then (
    (fX6_readNumber_101 h x0).map (fun q => .inr q)) else (
      (gN h 6 x0 0).bind fun v10 =>
      (gI h 6 x0 2).bind fun v11 =>
      (aI 1 h v10 v11).bind fun v12 =>
      if (57 : Int32) < v12 then (
      (fX6_readNumber_101 h x0).map (fun q => .inr q)) else (
        (gI h 6 x0 2).bind fun v13 =>
        (gI h 6 x0 4).bind fun v14 =>
        if (3 : Int32) ≤ (v13 - v14) then (
          (gI h 6 x0 5).bind fun v15 =>
          fX6_readNumber_85 h x0 x0 v15) else (
          (gI h 6 x0 5).bind fun v19 =>
          (gN h 6 x0 0).bind fun v20 =>
          (gI h 6 x0 2).bind fun v21 =>
          (aI 1 h v20 v21).bind fun v22 =>
          fX6_readNumber_85 h x0 x0 (((v19 * (10 : Int32)) + v22) - (48 : Int32))))))
noncomputable def fX6_readNumber_5 (h : Hp) (x0 : Nat) : Option Hp := lpw (σ := Hp) (fun s => fX6_readNumber_5b s x0 ) h
theorem oX6_readNumber_5b {d : Nat} (hd : 0 ≤ d) {h : Hp} {x0 : Nat} {rf : Option Value} {hf : Hp} {x : (Hp ⊕ Hp)} (hs : fX6_readNumber_5b h x0 = some x) (hk : (Kx (pX6_readNumber_5 d x0 rf hf) (kX6_readNumber rf hf)) x) : Go d mX6_readNumber 5 [some (.ref x0)] [] h rf hf := by
  unfold fX6_readNumber_5b at hs
  refine go_aload_n (k4 := 0) rfl (Or.inr ⟨_, rfl⟩) dX6_readNumber_5 ?_
  obtain ⟨v2, ev2, hs⟩ := bindS hs
  refine go_gI fl_RX6_17 ev2 dX6_readNumber_6 ?_
  refine go_aload_n (k4 := 0) rfl (Or.inr ⟨_, rfl⟩) dX6_readNumber_9 ?_
  obtain ⟨v3, ev3, hs⟩ := bindS hs
  refine go_gI fl_RX6_13 ev3 dX6_readNumber_10 ?_
  refine go_icmp_ge (tgt := 101) (by decide) dX6_readNumber_13 (fun c => ?_) (fun c => ?_)
  · have hs := if_t c hs
    obtain ⟨q, hs2, hq⟩ := mapS hs
    clear hs
    subst hq
    exact go_subL (L' := [some (.ref x0)]) (by simp [subL, va_rf]) (oX6_readNumber_101 hd hs2 hk)
  · have hs := if_f c hs
    refine go_aload_n (k4 := 0) rfl (Or.inr ⟨_, rfl⟩) dX6_readNumber_16 ?_
    obtain ⟨v7, ev7, hs⟩ := bindS hs
    refine go_gN fl_RX6_7 ev7 dX6_readNumber_17 ?_
    refine go_aload_n (k4 := 0) rfl (Or.inr ⟨_, rfl⟩) dX6_readNumber_20 ?_
    obtain ⟨v8, ev8, hs⟩ := bindS hs
    refine go_gI fl_RX6_17 ev8 dX6_readNumber_21 ?_
    obtain ⟨v9, ev9, hs⟩ := bindS hs
    refine go_aIb ev9 dX6_readNumber_24 ?_
    refine go_bipush (v := 48) (by decide) dX6_readNumber_25 ?_
    refine go_icmp_lt (tgt := 101) (by decide) dX6_readNumber_27 (fun c => ?_) (fun c => ?_)
    · have hs := if_t c hs
      obtain ⟨q, hs2, hq⟩ := mapS hs
      clear hs
      subst hq
      exact go_subL (L' := [some (.ref x0)]) (by simp [subL, va_rf]) (oX6_readNumber_101 hd hs2 hk)
    · have hs := if_f c hs
      refine go_aload_n (k4 := 0) rfl (Or.inr ⟨_, rfl⟩) dX6_readNumber_30 ?_
      obtain ⟨v10, ev10, hs⟩ := bindS hs
      refine go_gN fl_RX6_7 ev10 dX6_readNumber_31 ?_
      refine go_aload_n (k4 := 0) rfl (Or.inr ⟨_, rfl⟩) dX6_readNumber_34 ?_
      obtain ⟨v11, ev11, hs⟩ := bindS hs
      refine go_gI fl_RX6_17 ev11 dX6_readNumber_35 ?_
      obtain ⟨v12, ev12, hs⟩ := bindS hs
      refine go_aIb ev12 dX6_readNumber_38 ?_
      refine go_bipush (v := 57) (by decide) dX6_readNumber_39 ?_
      refine go_icmp_gt (tgt := 101) (by decide) dX6_readNumber_41 (fun c => ?_) (fun c => ?_)
      · have hs := if_t c hs
        obtain ⟨q, hs2, hq⟩ := mapS hs
        clear hs
        subst hq
        exact go_subL (L' := [some (.ref x0)]) (by simp [subL, va_rf]) (oX6_readNumber_101 hd hs2 hk)
      · have hs := if_f c hs
        refine go_aload_n (k4 := 0) rfl (Or.inr ⟨_, rfl⟩) dX6_readNumber_44 ?_
        refine go_aload_n (k4 := 0) rfl (Or.inr ⟨_, rfl⟩) dX6_readNumber_45 ?_
        obtain ⟨v13, ev13, hs⟩ := bindS hs
        refine go_gI fl_RX6_17 ev13 dX6_readNumber_46 ?_
        refine go_aload_n (k4 := 0) rfl (Or.inr ⟨_, rfl⟩) dX6_readNumber_49 ?_
        obtain ⟨v14, ev14, hs⟩ := bindS hs
        refine go_gI fl_RX6_23 ev14 dX6_readNumber_50 ?_
        refine go_isub dX6_readNumber_53 ?_
        refine go_iconst (v := 3) (by decide) dX6_readNumber_54 ?_
        refine go_at 55 rfl ?_
        refine go_icmp_ge (tgt := 81) (by decide) dX6_readNumber_55 (fun c => ?_) (fun c => ?_)
        · have hs := if_t c hs
          refine go_aload_n (k4 := 0) rfl (Or.inr ⟨_, rfl⟩) dX6_readNumber_81 ?_
          obtain ⟨v15, ev15, hs⟩ := bindS hs
          refine go_gI fl_RX6_26 ev15 dX6_readNumber_82 ?_
          exact go_subL (L' := [some (.ref x0)]) (by simp [subL, va_rf]) (oX6_readNumber_85 hd hs hk)
        · have hs := if_f c hs
          refine go_aload_n (k4 := 0) rfl (Or.inr ⟨_, rfl⟩) dX6_readNumber_58 ?_
          obtain ⟨v19, ev19, hs⟩ := bindS hs
          refine go_gI fl_RX6_26 ev19 dX6_readNumber_59 ?_
          refine go_bipush (v := 10) (by decide) dX6_readNumber_62 ?_
          refine go_imul dX6_readNumber_64 ?_
          refine go_aload_n (k4 := 0) rfl (Or.inr ⟨_, rfl⟩) dX6_readNumber_65 ?_
          obtain ⟨v20, ev20, hs⟩ := bindS hs
          refine go_gN fl_RX6_7 ev20 dX6_readNumber_66 ?_
          refine go_aload_n (k4 := 0) rfl (Or.inr ⟨_, rfl⟩) dX6_readNumber_69 ?_
          refine go_at 70 rfl ?_
          obtain ⟨v21, ev21, hs⟩ := bindS hs
          refine go_gI fl_RX6_17 ev21 dX6_readNumber_70 ?_
          obtain ⟨v22, ev22, hs⟩ := bindS hs
          refine go_aIb ev22 dX6_readNumber_73 ?_
          refine go_iadd dX6_readNumber_74 ?_
          refine go_bipush (v := 48) (by decide) dX6_readNumber_75 ?_
          refine go_isub dX6_readNumber_77 ?_
          refine go_goto (tgt := 85) (by decide) dX6_readNumber_78 ?_
          exact go_subL (L' := [some (.ref x0)]) (by simp [subL, va_rf]) (oX6_readNumber_85 hd hs hk)
theorem oX6_readNumber_5 {d : Nat} (hd : 0 ≤ d) {h : Hp} {x0 : Nat} {rf : Option Value} {hf : Hp} {x : Hp} (hs : fX6_readNumber_5 h x0 = some x) (hk : (kX6_readNumber rf hf) x) : Go d mX6_readNumber 5 [some (.ref x0)] [] h rf hf := by
  unfold fX6_readNumber_5 at hs
  exact lpw_go (P := pX6_readNumber_5 d x0 rf hf) (fun s x hs hk => oX6_readNumber_5b hd hs hk) h x hs hk
noncomputable def fX6_readNumber (h : Hp) (x0 : Nat) : Option Hp :=
  (sV h 6 x0 5 (.int (0 : Int32))).bind fun h1 =>
  fX6_readNumber_5 h1 x0
theorem oX6_readNumber_0 {d : Nat} (hd : 0 ≤ d) {h : Hp} {x0 : Nat} {rf : Option Value} {hf : Hp} {x : Hp} (hs : fX6_readNumber h x0 = some x) (hk : (kX6_readNumber rf hf) x) : Go d mX6_readNumber 0 [some (.ref x0)] [] h rf hf := by
  unfold fX6_readNumber at hs
  refine go_aload_n (k4 := 0) rfl (Or.inr ⟨_, rfl⟩) dX6_readNumber_0 ?_
  refine go_iconst (v := 0) (by decide) dX6_readNumber_1 ?_
  obtain ⟨h1, eh1, hs⟩ := bindS hs
  refine go_sV fw_RX6_26 eh1 rfl rfl dX6_readNumber_2 ?_
  exact go_subL (L' := [some (.ref x0)]) (by simp [subL, va_rf]) (oX6_readNumber_5 hd hs hk)
theorem oX6_readNumber {d : Nat} (hd : 0 ≤ d) {h : Hp} {x0 : Nat} {y : Hp} (hs : fX6_readNumber h x0 = some y) : Call d mX6_readNumber [.ref x0] h (none) y := call_of (by decide +kernel) (Nat.le_of_ble_eq_true rfl) (show Go d mX6_readNumber 0 [some (.ref x0)] [] h _ _ from go_subL (by simp [subL]) (oX6_readNumber_0 hd hs ⟨rfl, rfl⟩))
abbrev kJ1_canEncode_9a6ad (h : Hp) (rf : Option Value) (hf : Hp) : Int32 → Prop := fun y => rf = some (.int y) ∧ hf = h
noncomputable def fJ1_canEncode_9a6ad_16 (h : Hp) (s0 : Int32) : Option Int32 :=
  bl s0 (some (s0))
theorem oJ1_canEncode_9a6ad_16 {d : Nat} (hd : 0 ≤ d) {h : Hp} {s0 : Int32} {rf : Option Value} {hf : Hp} {x : Int32} (hs : fJ1_canEncode_9a6ad_16 h s0 = some x) (hk : (kJ1_canEncode_9a6ad h rf hf) x) : Go d mJ1_canEncode_9a6ad 16 [none] [.int s0] h rf hf := by
  unfold fJ1_canEncode_9a6ad_16 at hs
  obtain ⟨n1, n2, hs⟩ := bl_at hs
  obtain rfl := Option.some.inj hs
  obtain ⟨rfl, rfl⟩ := hk
  exact go_zret (ty := .boolean) rfl n1 dJ1_canEncode_9a6ad_16
noncomputable def fJ1_canEncode_9a6ad_15 (h : Hp)  : Option Int32 :=
  fJ1_canEncode_9a6ad_16 h (0 : Int32)
theorem oJ1_canEncode_9a6ad_15 {d : Nat} (hd : 0 ≤ d) {h : Hp} {rf : Option Value} {hf : Hp} {x : Int32} (hs : fJ1_canEncode_9a6ad_15 h  = some x) (hk : (kJ1_canEncode_9a6ad h rf hf) x) : Go d mJ1_canEncode_9a6ad 15 [none] [] h rf hf := by
  unfold fJ1_canEncode_9a6ad_15 at hs
  refine go_iconst (v := 0) (by decide) dJ1_canEncode_9a6ad_15 ?_
  exact go_subL (L' := [none]) (by simp [subL, va_rf]) (oJ1_canEncode_9a6ad_16 hd hs hk)
noncomputable def fJ1_canEncode_9a6ad (h : Hp) (x0 : Int32) : Option Int32 :=
  if x0 < 0 then (
  fJ1_canEncode_9a6ad_15 h ) else (
    if (255 : Int32) < x0 then (
    fJ1_canEncode_9a6ad_15 h ) else (
      fJ1_canEncode_9a6ad_16 h (1 : Int32)))
theorem oJ1_canEncode_9a6ad_0 {d : Nat} (hd : 0 ≤ d) {h : Hp} {x0 : Int32} {rf : Option Value} {hf : Hp} {x : Int32} (hs : fJ1_canEncode_9a6ad h x0 = some x) (hk : (kJ1_canEncode_9a6ad h rf hf) x) : Go d mJ1_canEncode_9a6ad 0 [some (.int x0)] [] h rf hf := by
  unfold fJ1_canEncode_9a6ad at hs
  refine go_iload_n (k4 := 0) rfl dJ1_canEncode_9a6ad_0 ?_
  refine go_if_lt (tgt := 15) (by decide) dJ1_canEncode_9a6ad_1 (fun c => ?_) (fun c => ?_)
  · have hs := if_t c hs
    exact go_subL (L' := [none]) (by simp [subL, va_rf]) (oJ1_canEncode_9a6ad_15 hd hs hk)
  · have hs := if_f c hs
    refine go_iload_n (k4 := 0) rfl dJ1_canEncode_9a6ad_4 ?_
    refine go_sipush (v := 255) (by decide) dJ1_canEncode_9a6ad_5 ?_
    refine go_icmp_gt (tgt := 15) (by decide) dJ1_canEncode_9a6ad_8 (fun c => ?_) (fun c => ?_)
    · have hs := if_t c hs
      exact go_subL (L' := [none]) (by simp [subL, va_rf]) (oJ1_canEncode_9a6ad_15 hd hs hk)
    · have hs := if_f c hs
      refine go_iconst (v := 1) (by decide) dJ1_canEncode_9a6ad_11 ?_
      refine go_goto (tgt := 16) (by decide) dJ1_canEncode_9a6ad_12 ?_
      exact go_subL (L' := [none]) (by simp [subL, va_rf]) (oJ1_canEncode_9a6ad_16 hd hs hk)
theorem oJ1_canEncode_9a6ad {d : Nat} (hd : 0 ≤ d) {h : Hp} {x0 : Int32} {y : Int32} (hs : fJ1_canEncode_9a6ad h x0 = some y) : Call d mJ1_canEncode_9a6ad [.int x0] h (some (.int y)) h := call_of (by decide +kernel) (Nat.le_of_ble_eq_true rfl) (show Go d mJ1_canEncode_9a6ad 0 [some (.int x0)] [] h _ _ from go_subL (by simp [subL]) (oJ1_canEncode_9a6ad_0 hd hs ⟨rfl, rfl⟩))
abbrev kJ1_indexOfChar_4cfef (h : Hp) (rf : Option Value) (hf : Hp) : Int32 → Prop := fun y => rf = some (.int y) ∧ hf = h
abbrev pJ1_indexOfChar_4cfef_7 (d : Nat) (h : Hp) (x0 : Nat) (x3 : Int32) (x4 : Int32) (rf : Option Value) (hf : Hp) : Int32 → Prop := fun s => Go d mJ1_indexOfChar_4cfef 7 [some (.ref x0), none, none, some (.int x3), some (.int x4), some (.int s)] [] h rf hf
noncomputable def fJ1_indexOfChar_4cfef_7b (h : Hp) (x0 : Nat) (x3 : Int32) (x4 : Int32) (x5 : Int32) : Option (Int32 ⊕ Int32) :=
  if x3 ≤ x5 then (
    some (.inr (-1 : Int32))) else (
    (bA x0 x5).bind fun v1 =>
    if v1 = x4 then (
      some (.inr x5)) else (
      some (.inl (x5 + Int32.ofInt 1))))
noncomputable def fJ1_indexOfChar_4cfef_7 (h : Hp) (x0 : Nat) (x3 : Int32) (x4 : Int32) (x5 : Int32) : Option Int32 := lpw (σ := Int32) (fun s => fJ1_indexOfChar_4cfef_7b h x0 x3 x4 s) x5
theorem oJ1_indexOfChar_4cfef_7b {d : Nat} (hd : 0 ≤ d) {h : Hp} {x0 : Nat} {x3 : Int32} {x4 : Int32} {x5 : Int32} {rf : Option Value} {hf : Hp} {x : (Int32 ⊕ Int32)} (hs : fJ1_indexOfChar_4cfef_7b h x0 x3 x4 x5 = some x) (hk : (Kx (pJ1_indexOfChar_4cfef_7 d h x0 x3 x4 rf hf) (kJ1_indexOfChar_4cfef h rf hf)) x) : Go d mJ1_indexOfChar_4cfef 7 [some (.ref x0), none, none, some (.int x3), some (.int x4), some (.int x5)] [] h rf hf := by
  unfold fJ1_indexOfChar_4cfef_7b at hs
  refine go_iload rfl dJ1_indexOfChar_4cfef_7 ?_
  refine go_iload_n (k4 := 3) rfl dJ1_indexOfChar_4cfef_9 ?_
  refine go_icmp_ge (tgt := 31) (by decide) dJ1_indexOfChar_4cfef_10 (fun c => ?_) (fun c => ?_)
  · have hs := if_t c hs
    refine go_iconst (v := -1) (by decide) dJ1_indexOfChar_4cfef_31 ?_
    obtain rfl := Option.some.inj hs
    obtain ⟨rfl, rfl⟩ := hk
    exact go_iret rfl dJ1_indexOfChar_4cfef_32
  · have hs := if_f c hs
    refine go_aload_n (k4 := 0) rfl (Or.inr ⟨_, rfl⟩) dJ1_indexOfChar_4cfef_13 ?_
    refine go_iload rfl dJ1_indexOfChar_4cfef_14 ?_
    obtain ⟨v1, ev1, hs⟩ := bindS hs
    refine go_bA ev1 dJ1_indexOfChar_4cfef_16 ?_
    refine go_iload rfl dJ1_indexOfChar_4cfef_17 ?_
    refine go_icmp_ne (tgt := 25) (by decide) dJ1_indexOfChar_4cfef_19 (fun c => ?_) (fun c => ?_)
    · have hs := if_f c hs
      refine go_iinc (L' := [some (.ref x0), none, none, some (.int x3), some (.int x4), some (.int (x5 + Int32.ofInt 1))]) rfl (by decide) rfl rfl dJ1_indexOfChar_4cfef_25 ?_
      refine go_goto (tgt := 7) (by decide) dJ1_indexOfChar_4cfef_28 ?_
      obtain rfl := Option.some.inj hs
      exact go_subL (L' := [some (.ref x0), none, none, some (.int x3), some (.int x4), some (.int (x5 + Int32.ofInt 1))]) (by simp [subL, va_rf]) hk
    · have hs := if_t c hs
      refine go_iload rfl dJ1_indexOfChar_4cfef_22 ?_
      obtain rfl := Option.some.inj hs
      obtain ⟨rfl, rfl⟩ := hk
      exact go_iret rfl dJ1_indexOfChar_4cfef_24
theorem oJ1_indexOfChar_4cfef_7 {d : Nat} (hd : 0 ≤ d) {h : Hp} {x0 : Nat} {x3 : Int32} {x4 : Int32} {x5 : Int32} {rf : Option Value} {hf : Hp} {x : Int32} (hs : fJ1_indexOfChar_4cfef_7 h x0 x3 x4 x5 = some x) (hk : (kJ1_indexOfChar_4cfef h rf hf) x) : Go d mJ1_indexOfChar_4cfef 7 [some (.ref x0), none, none, some (.int x3), some (.int x4), some (.int x5)] [] h rf hf := by
  unfold fJ1_indexOfChar_4cfef_7 at hs
  exact lpw_go (P := pJ1_indexOfChar_4cfef_7 d h x0 x3 x4 rf hf) (fun s x hs hk => oJ1_indexOfChar_4cfef_7b hd hs hk) x5 x hs hk
noncomputable def fJ1_indexOfChar_4cfef (h : Hp) (x0 : Nat) (x1 : Int32) (x2 : Int32) (x3 : Int32) : Option Int32 :=
  fJ1_indexOfChar_4cfef_7 h x0 x3 (x1.toInt8.toInt32) x2
theorem oJ1_indexOfChar_4cfef_0 {d : Nat} (hd : 0 ≤ d) {h : Hp} {x0 : Nat} {x1 : Int32} {x2 : Int32} {x3 : Int32} {rf : Option Value} {hf : Hp} {x : Int32} (hs : fJ1_indexOfChar_4cfef h x0 x1 x2 x3 = some x) (hk : (kJ1_indexOfChar_4cfef h rf hf) x) : Go d mJ1_indexOfChar_4cfef 0 [some (.ref x0), some (.int x1), some (.int x2), some (.int x3), none, none] [] h rf hf := by
  unfold fJ1_indexOfChar_4cfef at hs
  refine go_iload_n (k4 := 1) rfl dJ1_indexOfChar_4cfef_0 ?_
  refine go_i2b dJ1_indexOfChar_4cfef_1 ?_
  refine go_istore (L' := [some (.ref x0), some (.int x1), some (.int x2), some (.int x3), some (.int (x1.toInt8.toInt32)), none]) (by decide) rfl dJ1_indexOfChar_4cfef_2 ?_
  refine go_iload_n (k4 := 2) rfl dJ1_indexOfChar_4cfef_4 ?_
  refine go_istore (L' := [some (.ref x0), some (.int x1), some (.int x2), some (.int x3), some (.int (x1.toInt8.toInt32)), some (.int x2)]) (by decide) rfl dJ1_indexOfChar_4cfef_5 ?_
  exact go_subL (L' := [some (.ref x0), none, none, some (.int x3), some (.int (x1.toInt8.toInt32)), some (.int x2)]) (by simp [subL, va_rf]) (oJ1_indexOfChar_4cfef_7 hd hs hk)
theorem oJ1_indexOfChar_4cfef {d : Nat} (hd : 0 ≤ d) {h : Hp} {x0 : Nat} {x1 : Int32} {x2 : Int32} {x3 : Int32} {y : Int32} (hs : fJ1_indexOfChar_4cfef h x0 x1 x2 x3 = some y) : Call d mJ1_indexOfChar_4cfef [.ref x0, .int x1, .int x2, .int x3] h (some (.int y)) h := call_of (by decide +kernel) (Nat.le_of_ble_eq_true rfl) (show Go d mJ1_indexOfChar_4cfef 0 [some (.ref x0), some (.int x1), some (.int x2), some (.int x3), none, none] [] h _ _ from go_subL (by simp [subL]) (oJ1_indexOfChar_4cfef_0 hd hs ⟨rfl, rfl⟩))
abbrev kJ1_indexOf_4cfef (h : Hp) (rf : Option Value) (hf : Hp) : Int32 → Prop := fun y => rf = some (.int y) ∧ hf = h
noncomputable def fJ1_indexOf_4cfef (h : Hp) (x0 : Nat) (x1 : Int32) (x2 : Int32) (x3 : Int32) : Option Int32 :=
  (fJ1_canEncode_9a6ad h x1).bind fun y1 =>
  if y1 = 0 then (
    some ((-1 : Int32))) else (
    (bL x0).bind fun v2 =>
    if (imax x2 (0 : Int32)) < (imin x3 v2) then (
      (fJ1_indexOfChar_4cfef h x0 x1 (imax x2 (0 : Int32)) (imin x3 v2)).bind fun y3 =>
      some (y3)) else (
      some ((-1 : Int32))))
theorem oJ1_indexOf_4cfef_0 {d : Nat} (hd : 1 ≤ d) {h : Hp} {x0 : Nat} {x1 : Int32} {x2 : Int32} {x3 : Int32} {rf : Option Value} {hf : Hp} {x : Int32} (hs : fJ1_indexOf_4cfef h x0 x1 x2 x3 = some x) (hk : (kJ1_indexOf_4cfef h rf hf) x) : Go d mJ1_indexOf_4cfef 0 [some (.ref x0), some (.int x1), some (.int x2), some (.int x3)] [] h rf hf := by
  unfold fJ1_indexOf_4cfef at hs
  refine go_iload_n (k4 := 1) rfl dJ1_indexOf_4cfef_0 ?_
  obtain ⟨y1, ey1, hs⟩ := bindS hs
  refine go_S1 (As := [.int x1]) (st := []) (oJ1_canEncode_9a6ad (d := d - 1) (by omega) ey1) (by omega) mb_J1_canEncode_9a6ad lm_RJ1_88 ms_J1_canEncode_9a6ad (Nat.le_of_ble_eq_true rfl) rfl dJ1_indexOf_4cfef_1 ?_
  refine go_if_ne (tgt := 9) (by decide) dJ1_indexOf_4cfef_4 (fun c => ?_) (fun c => ?_)
  · have hs := if_f c hs
    refine go_iload_n (k4 := 2) rfl dJ1_indexOf_4cfef_9 ?_
    refine go_iconst (v := 0) (by decide) dJ1_indexOf_4cfef_10 ?_
    refine go_mmax lx_RJ1_92.1 lx_RJ1_92.2.1 lx_RJ1_92.2.2.1 lx_RJ1_92.2.2.2 (by omega) (Nat.le_of_ble_eq_true rfl) dJ1_indexOf_4cfef_11 ?_
    refine go_istore_n (k4 := 2) (L' := [some (.ref x0), some (.int x1), some (.int (imax x2 (0 : Int32))), some (.int x3)]) (by decide) rfl dJ1_indexOf_4cfef_14 ?_
    refine go_iload_n (k4 := 3) rfl dJ1_indexOf_4cfef_15 ?_
    refine go_aload_n (k4 := 0) rfl (Or.inr ⟨_, rfl⟩) dJ1_indexOf_4cfef_16 ?_
    obtain ⟨v2, ev2, hs⟩ := bindS hs
    refine go_bL ev2 dJ1_indexOf_4cfef_17 ?_
    refine go_at 18 rfl ?_
    refine go_mmin lx_RJ1_38.1 lx_RJ1_38.2.1 lx_RJ1_38.2.2.1 lx_RJ1_38.2.2.2 (by omega) (Nat.le_of_ble_eq_true rfl) dJ1_indexOf_4cfef_18 ?_
    refine go_istore_n (k4 := 3) (L' := [some (.ref x0), some (.int x1), some (.int (imax x2 (0 : Int32))), some (.int (imin x3 v2))]) (by decide) rfl dJ1_indexOf_4cfef_21 ?_
    refine go_iload_n (k4 := 2) rfl dJ1_indexOf_4cfef_22 ?_
    refine go_iload_n (k4 := 3) rfl dJ1_indexOf_4cfef_23 ?_
    refine go_icmp_lt (tgt := 29) (by decide) dJ1_indexOf_4cfef_24 (fun c => ?_) (fun c => ?_)
    · have hs := if_t c hs
      refine go_aload_n (k4 := 0) rfl (Or.inr ⟨_, rfl⟩) dJ1_indexOf_4cfef_29 ?_
      refine go_iload_n (k4 := 1) rfl dJ1_indexOf_4cfef_30 ?_
      refine go_iload_n (k4 := 2) rfl dJ1_indexOf_4cfef_31 ?_
      refine go_iload_n (k4 := 3) rfl dJ1_indexOf_4cfef_32 ?_
      obtain ⟨y3, ey3, hs⟩ := bindS hs
      refine go_S1 (As := [.ref x0, .int x1, .int (imax x2 (0 : Int32)), .int (imin x3 v2)]) (st := []) (oJ1_indexOfChar_4cfef (d := d - 1) (by omega) ey3) (by omega) mb_J1_indexOfChar_4cfef lm_RJ1_95 ms_J1_indexOfChar_4cfef (Nat.le_of_ble_eq_true rfl) rfl dJ1_indexOf_4cfef_33 ?_
      obtain rfl := Option.some.inj hs
      obtain ⟨rfl, rfl⟩ := hk
      exact go_iret rfl dJ1_indexOf_4cfef_36
    · have hs := if_f c hs
      refine go_iconst (v := -1) (by decide) dJ1_indexOf_4cfef_27 ?_
      obtain rfl := Option.some.inj hs
      obtain ⟨rfl, rfl⟩ := hk
      exact go_iret rfl dJ1_indexOf_4cfef_28
  · have hs := if_t c hs
    refine go_iconst (v := -1) (by decide) dJ1_indexOf_4cfef_7 ?_
    obtain rfl := Option.some.inj hs
    obtain ⟨rfl, rfl⟩ := hk
    exact go_iret rfl dJ1_indexOf_4cfef_8
theorem oJ1_indexOf_4cfef {d : Nat} (hd : 1 ≤ d) {h : Hp} {x0 : Nat} {x1 : Int32} {x2 : Int32} {x3 : Int32} {y : Int32} (hs : fJ1_indexOf_4cfef h x0 x1 x2 x3 = some y) : Call d mJ1_indexOf_4cfef [.ref x0, .int x1, .int x2, .int x3] h (some (.int y)) h := call_of (by decide +kernel) (Nat.le_of_ble_eq_true rfl) (show Go d mJ1_indexOf_4cfef 0 [some (.ref x0), some (.int x1), some (.int x2), some (.int x3)] [] h _ _ from go_subL (by simp [subL]) (oJ1_indexOf_4cfef_0 hd hs ⟨rfl, rfl⟩))
abbrev kJ0_indexOf_7cf53 (h : Hp) (rf : Option Value) (hf : Hp) : Int32 → Prop := fun y => rf = some (.int y) ∧ hf = h
noncomputable def fJ0_indexOf_7cf53_36 (h : Hp) (s0 : Int32) : Option Int32 :=
  some (s0)
theorem oJ0_indexOf_7cf53_36 {d : Nat} (hd : 2 ≤ d) {h : Hp} {s0 : Int32} {rf : Option Value} {hf : Hp} {x : Int32} (hs : fJ0_indexOf_7cf53_36 h s0 = some x) (hk : (kJ0_indexOf_7cf53 h rf hf) x) : Go d mJ0_indexOf_7cf53 36 [none, none, none] [.int s0] h rf hf := by
  unfold fJ0_indexOf_7cf53_36 at hs
  obtain rfl := Option.some.inj hs
  obtain ⟨rfl, rfl⟩ := hk
  exact go_iret rfl dJ0_indexOf_7cf53_36
noncomputable def fJ0_indexOf_7cf53 (h : Hp) (x0 : Nat) (x1 : Int32) (x2 : Int32) : Option Int32 :=
  gT x0 (
  (fJ0_isLatin1_aae02 h x0).bind fun y1 =>
  if y1 = 0 then (
    (sA x0).bind fun v3 =>
    gT x0 (
    (fJ0_length_8abf5 h x0).bind fun y4 =>
    none)) else (
    (sA x0).bind fun v6 =>
    gT x0 (
    (fJ0_length_8abf5 h x0).bind fun y7 =>
    (fJ1_indexOf_4cfef h v6 x1 x2 y7).bind fun y9 =>
    fJ0_indexOf_7cf53_36 h y9)))
theorem oJ0_indexOf_7cf53_0 {d : Nat} (hd : 2 ≤ d) {h : Hp} {x0 : Nat} {x1 : Int32} {x2 : Int32} {rf : Option Value} {hf : Hp} {x : Int32} (hs : fJ0_indexOf_7cf53 h x0 x1 x2 = some x) (hk : (kJ0_indexOf_7cf53 h rf hf) x) : Go d mJ0_indexOf_7cf53 0 [some (.ref x0), some (.int x1), some (.int x2)] [] h rf hf := by
  unfold fJ0_indexOf_7cf53 at hs
  refine go_aload_n (k4 := 0) rfl (Or.inr ⟨_, rfl⟩) dJ0_indexOf_7cf53_0 ?_
  obtain ⟨g2, hs⟩ := gT_at hs
  obtain ⟨y1, ey1, hs⟩ := bindS hs
  refine go_T1 (As := []) (st := []) g2 rfl (oJ0_isLatin1_aae02 (d := d - 1) (by omega) ey1) (by omega) mb_J0_isLatin1_aae02 lm_RJ0_492 mi_J0_isLatin1_aae02 (Nat.le_of_ble_eq_true rfl) rfl dJ0_indexOf_7cf53_1 ?_
  refine go_if_eq (tgt := 23) (by decide) dJ0_indexOf_7cf53_4 (fun c => ?_) (fun c => ?_)
  · have hs := if_t c hs
    refine go_aload_n (k4 := 0) rfl (Or.inr ⟨_, rfl⟩) dJ0_indexOf_7cf53_23 ?_
    obtain ⟨v3, ev3, hs⟩ := bindS hs
    refine go_sA lf_9v ev3 dJ0_indexOf_7cf53_24 ?_
    refine go_iload_n (k4 := 1) rfl dJ0_indexOf_7cf53_27 ?_
    refine go_iload_n (k4 := 2) rfl dJ0_indexOf_7cf53_28 ?_
    refine go_aload_n (k4 := 0) rfl (Or.inr ⟨_, rfl⟩) dJ0_indexOf_7cf53_29 ?_
    obtain ⟨g5, hs⟩ := gT_at hs
    obtain ⟨y4, ey4, hs⟩ := bindS hs
    refine go_T1 (As := []) (st := [.int x2, .int x1, .ref v3]) g5 rfl (oJ0_length_8abf5 (d := d - 1) (by omega) ey4) (by omega) mb_J0_length_8abf5 lm_RJ0_505 mi_J0_length_8abf5 (Nat.le_of_ble_eq_true rfl) rfl dJ0_indexOf_7cf53_30 ?_
    cases hs
  · have hs := if_f c hs
    refine go_aload_n (k4 := 0) rfl (Or.inr ⟨_, rfl⟩) dJ0_indexOf_7cf53_7 ?_
    obtain ⟨v6, ev6, hs⟩ := bindS hs
    refine go_sA lf_9v ev6 dJ0_indexOf_7cf53_8 ?_
    refine go_iload_n (k4 := 1) rfl dJ0_indexOf_7cf53_11 ?_
    refine go_iload_n (k4 := 2) rfl dJ0_indexOf_7cf53_12 ?_
    refine go_aload_n (k4 := 0) rfl (Or.inr ⟨_, rfl⟩) dJ0_indexOf_7cf53_13 ?_
    obtain ⟨g8, hs⟩ := gT_at hs
    obtain ⟨y7, ey7, hs⟩ := bindS hs
    refine go_T1 (As := []) (st := [.int x2, .int x1, .ref v6]) g8 rfl (oJ0_length_8abf5 (d := d - 1) (by omega) ey7) (by omega) mb_J0_length_8abf5 lm_RJ0_505 mi_J0_length_8abf5 (Nat.le_of_ble_eq_true rfl) rfl dJ0_indexOf_7cf53_14 ?_
    obtain ⟨y9, ey9, hs⟩ := bindS hs
    refine go_S1 (As := [.ref v6, .int x1, .int x2, .int y7]) (st := []) (oJ1_indexOf_4cfef (d := d - 1) (by omega) ey9) (by omega) mb_J1_indexOf_4cfef lm_RJ0_637 ms_J1_indexOf_4cfef (Nat.le_of_ble_eq_true rfl) rfl dJ0_indexOf_7cf53_17 ?_
    refine go_at 20 rfl ?_
    refine go_goto (tgt := 36) (by decide) dJ0_indexOf_7cf53_20 ?_
    exact go_subL (L' := [none, none, none]) (by simp [subL, va_rf]) (oJ0_indexOf_7cf53_36 hd hs hk)
theorem oJ0_indexOf_7cf53 {d : Nat} (hd : 2 ≤ d) {h : Hp} {x0 : Nat} {x1 : Int32} {x2 : Int32} {y : Int32} (hs : fJ0_indexOf_7cf53 h x0 x1 x2 = some y) : Call d mJ0_indexOf_7cf53 [.ref x0, .int x1, .int x2] h (some (.int y)) h := call_of (by decide +kernel) (Nat.le_of_ble_eq_true rfl) (show Go d mJ0_indexOf_7cf53 0 [some (.ref x0), some (.int x1), some (.int x2)] [] h _ _ from go_subL (by simp [subL]) (oJ0_indexOf_7cf53_0 hd hs ⟨rfl, rfl⟩))
abbrev kJ0_indexOf_0f7a4 (h : Hp) (rf : Option Value) (hf : Hp) : Int32 → Prop := fun y => rf = some (.int y) ∧ hf = h
noncomputable def fJ0_indexOf_0f7a4 (h : Hp) (x0 : Nat) (x1 : Int32) : Option Int32 :=
  gT x0 (
  (fJ0_indexOf_7cf53 h x0 x1 (0 : Int32)).bind fun y1 =>
  some (y1))
theorem oJ0_indexOf_0f7a4_0 {d : Nat} (hd : 3 ≤ d) {h : Hp} {x0 : Nat} {x1 : Int32} {rf : Option Value} {hf : Hp} {x : Int32} (hs : fJ0_indexOf_0f7a4 h x0 x1 = some x) (hk : (kJ0_indexOf_0f7a4 h rf hf) x) : Go d mJ0_indexOf_0f7a4 0 [some (.ref x0), some (.int x1)] [] h rf hf := by
  unfold fJ0_indexOf_0f7a4 at hs
  refine go_aload_n (k4 := 0) rfl (Or.inr ⟨_, rfl⟩) dJ0_indexOf_0f7a4_0 ?_
  refine go_iload_n (k4 := 1) rfl dJ0_indexOf_0f7a4_1 ?_
  refine go_iconst (v := 0) (by decide) dJ0_indexOf_0f7a4_2 ?_
  obtain ⟨g2, hs⟩ := gT_at hs
  obtain ⟨y1, ey1, hs⟩ := bindS hs
  refine go_T1 (As := [.int x1, .int (0 : Int32)]) (st := []) g2 rfl (oJ0_indexOf_7cf53 (d := d - 1) (by omega) ey1) (by omega) mb_J0_indexOf_7cf53 lm_RJ0_633 mi_J0_indexOf_7cf53 (Nat.le_of_ble_eq_true rfl) rfl dJ0_indexOf_0f7a4_3 ?_
  obtain rfl := Option.some.inj hs
  obtain ⟨rfl, rfl⟩ := hk
  exact go_iret rfl dJ0_indexOf_0f7a4_6
theorem oJ0_indexOf_0f7a4 {d : Nat} (hd : 3 ≤ d) {h : Hp} {x0 : Nat} {x1 : Int32} {y : Int32} (hs : fJ0_indexOf_0f7a4 h x0 x1 = some y) : Call d mJ0_indexOf_0f7a4 [.ref x0, .int x1] h (some (.int y)) h := call_of (by decide +kernel) (Nat.le_of_ble_eq_true rfl) (show Go d mJ0_indexOf_0f7a4 0 [some (.ref x0), some (.int x1)] [] h _ _ from go_subL (by simp [subL]) (oJ0_indexOf_0f7a4_0 hd hs ⟨rfl, rfl⟩))
abbrev kX6_advance (rf : Option Value) (hf : Hp) : Hp → Prop := fun y => rf = none ∧ hf = y
abbrev pX6_advance_0 (d : Nat) (x0 : Nat) (rf : Option Value) (hf : Hp) : Hp → Prop := fun s => Go d mX6_advance 0 [some (.ref x0)] [] s rf hf
noncomputable def fX6_advance_198 (h : Hp)  : Option Hp :=
  some (h)
theorem oX6_advance_198 {d : Nat} (hd : 4 ≤ d) {h : Hp} {rf : Option Value} {hf : Hp} {x : Hp} (hs : fX6_advance_198 h  = some x) (hk : (kX6_advance rf hf) x) : Go d mX6_advance 198 [none] [] h rf hf := by
  unfold fX6_advance_198 at hs
  obtain rfl := Option.some.inj hs
  obtain ⟨rfl, rfl⟩ := hk
  exact go_vret rfl dX6_advance_198
noncomputable def fX6_advance_185 (h : Hp) (x0 : Nat) (s0 : Nat) (s1 : Int32) : Option Hp :=
  (sV h 6 s0 3 (.int s1)).bind fun h16 =>
  (gI h16 6 x0 2).bind fun v17 =>
  (sV h16 6 x0 2 (.int (v17 + (1 : Int32)))).bind fun h18 =>
  fX6_advance_198 h18 
theorem oX6_advance_185 {d : Nat} (hd : 4 ≤ d) {h : Hp} {x0 : Nat} {s0 : Nat} {s1 : Int32} {rf : Option Value} {hf : Hp} {x : Hp} (hs : fX6_advance_185 h x0 s0 s1 = some x) (hk : (kX6_advance rf hf) x) : Go d mX6_advance 185 [some (.ref x0)] [.int s1, .ref s0] h rf hf := by
  unfold fX6_advance_185 at hs
  obtain ⟨h16, eh16, hs⟩ := bindS hs
  refine go_sV fw_RX6_20 eh16 rfl rfl dX6_advance_185 ?_
  refine go_aload_n (k4 := 0) rfl (Or.inr ⟨_, rfl⟩) dX6_advance_188 ?_
  refine go_dup rfl dX6_advance_189 ?_
  obtain ⟨v17, ev17, hs⟩ := bindS hs
  refine go_gI fl_RX6_17 ev17 dX6_advance_190 ?_
  refine go_iconst (v := 1) (by decide) dX6_advance_193 ?_
  refine go_iadd dX6_advance_194 ?_
  obtain ⟨h18, eh18, hs⟩ := bindS hs
  refine go_sV fw_RX6_17 eh18 rfl rfl dX6_advance_195 ?_
  exact go_subL (L' := [none]) (by simp [subL, va_rf]) (oX6_advance_198 hd hs hk)
noncomputable def fX6_advance_184 (h : Hp) (x0 : Nat) (s0 : Nat) : Option Hp :=
  fX6_advance_185 h x0 s0 (4 : Int32)
theorem oX6_advance_184 {d : Nat} (hd : 4 ≤ d) {h : Hp} {x0 : Nat} {s0 : Nat} {rf : Option Value} {hf : Hp} {x : Hp} (hs : fX6_advance_184 h x0 s0 = some x) (hk : (kX6_advance rf hf) x) : Go d mX6_advance 184 [some (.ref x0)] [.ref s0] h rf hf := by
  unfold fX6_advance_184 at hs
  refine go_iconst (v := 4) (by decide) dX6_advance_184 ?_
  exact go_subL (L' := [some (.ref x0)]) (by simp [subL, va_rf]) (oX6_advance_185 hd hs hk)
noncomputable def fX6_advance_149 (h : Hp) (x0 : Nat) : Option Hp :=
  (gN h 6 x0 0).bind fun v13 =>
  (gI h 6 x0 2).bind fun v14 =>
  (aI 1 h v13 v14).bind fun v15 =>
  if v15 ≤ 0 then (
  fX6_advance_184 h x0 x0) else (
    (gN h 6 x0 0).bind fun v19 =>
    (gI h 6 x0 2).bind fun v20 =>
    (aI 1 h v19 v20).bind fun v21 =>
    gT 3 (
    (fJ0_indexOf_0f7a4 h 3 ((v21.toUInt32 % 65536).toInt32)).bind fun y22 =>
    if y22 < 0 then (
    fX6_advance_184 h x0 x0) else (
      fX6_advance_185 h x0 x0 (3 : Int32))))
theorem oX6_advance_149 {d : Nat} (hd : 4 ≤ d) {h : Hp} {x0 : Nat} {rf : Option Value} {hf : Hp} {x : Hp} (hs : fX6_advance_149 h x0 = some x) (hk : (kX6_advance rf hf) x) : Go d mX6_advance 149 [some (.ref x0)] [] h rf hf := by
  unfold fX6_advance_149 at hs
  refine go_aload_n (k4 := 0) rfl (Or.inr ⟨_, rfl⟩) dX6_advance_149 ?_
  refine go_aload_n (k4 := 0) rfl (Or.inr ⟨_, rfl⟩) dX6_advance_150 ?_
  obtain ⟨v13, ev13, hs⟩ := bindS hs
  refine go_gN fl_RX6_7 ev13 dX6_advance_151 ?_
  refine go_aload_n (k4 := 0) rfl (Or.inr ⟨_, rfl⟩) dX6_advance_154 ?_
  obtain ⟨v14, ev14, hs⟩ := bindS hs
  refine go_gI fl_RX6_17 ev14 dX6_advance_155 ?_
  obtain ⟨v15, ev15, hs⟩ := bindS hs
  refine go_aIb ev15 dX6_advance_158 ?_
  refine go_if_le (tgt := 184) (by decide) dX6_advance_159 (fun c => ?_) (fun c => ?_)
  · have hs := if_t c hs
    exact go_subL (L' := [some (.ref x0)]) (by simp [subL, va_rf]) (oX6_advance_184 hd hs hk)
  · have hs := if_f c hs
    refine go_str (j := 3) ls_RX6_44 dX6_advance_162 ?_
    refine go_aload_n (k4 := 0) rfl (Or.inr ⟨_, rfl⟩) dX6_advance_164 ?_
    obtain ⟨v19, ev19, hs⟩ := bindS hs
    refine go_gN fl_RX6_7 ev19 dX6_advance_165 ?_
    refine go_aload_n (k4 := 0) rfl (Or.inr ⟨_, rfl⟩) dX6_advance_168 ?_
    obtain ⟨v20, ev20, hs⟩ := bindS hs
    refine go_gI fl_RX6_17 ev20 dX6_advance_169 ?_
    obtain ⟨v21, ev21, hs⟩ := bindS hs
    refine go_aIb ev21 dX6_advance_172 ?_
    refine go_i2c dX6_advance_173 ?_
    refine go_at 174 rfl ?_
    obtain ⟨g23, hs⟩ := gT_at hs
    obtain ⟨y22, ey22, hs⟩ := bindS hs
    refine go_T1 (As := [.int ((v21.toUInt32 % 65536).toInt32)]) (st := [.ref x0]) g23 rfl (oJ0_indexOf_0f7a4 (d := d - 1) (by omega) ey22) (by omega) mb_J0_indexOf_0f7a4 lm_RX6_46 mi_J0_indexOf_0f7a4 (Nat.le_of_ble_eq_true rfl) rfl dX6_advance_174 ?_
    refine go_if_lt (tgt := 184) (by decide) dX6_advance_177 (fun c => ?_) (fun c => ?_)
    · have hs := if_t c hs
      exact go_subL (L' := [some (.ref x0)]) (by simp [subL, va_rf]) (oX6_advance_184 hd hs hk)
    · have hs := if_f c hs
      refine go_iconst (v := 3) (by decide) dX6_advance_180 ?_
      refine go_goto (tgt := 185) (by decide) dX6_advance_181 ?_
      exact go_subL (L' := [some (.ref x0)]) (by simp [subL, va_rf]) (oX6_advance_185 hd hs hk)
noncomputable def fX6_advance_114 (h : Hp) (x0 : Nat) : Option Hp :=
  (gN h 6 x0 0).bind fun v10 =>
  (gI h 6 x0 2).bind fun v11 =>
  (aI 1 h v10 v11).bind fun v12 =>
  if v12 < (48 : Int32) then (
  fX6_advance_149 h x0) else (
    (gN h 6 x0 0).bind fun v24 =>
    (gI h 6 x0 2).bind fun v25 =>
    (aI 1 h v24 v25).bind fun v26 =>
    if (57 : Int32) < v26 then (
    fX6_advance_149 h x0) else (
      gO h 6 x0 (
      (fX6_readNumber h x0).bind fun y27 =>
      fX6_advance_198 y27 )))
theorem oX6_advance_114 {d : Nat} (hd : 4 ≤ d) {h : Hp} {x0 : Nat} {rf : Option Value} {hf : Hp} {x : Hp} (hs : fX6_advance_114 h x0 = some x) (hk : (kX6_advance rf hf) x) : Go d mX6_advance 114 [some (.ref x0)] [] h rf hf := by
  unfold fX6_advance_114 at hs
  refine go_aload_n (k4 := 0) rfl (Or.inr ⟨_, rfl⟩) dX6_advance_114 ?_
  obtain ⟨v10, ev10, hs⟩ := bindS hs
  refine go_gN fl_RX6_7 ev10 dX6_advance_115 ?_
  refine go_aload_n (k4 := 0) rfl (Or.inr ⟨_, rfl⟩) dX6_advance_118 ?_
  obtain ⟨v11, ev11, hs⟩ := bindS hs
  refine go_gI fl_RX6_17 ev11 dX6_advance_119 ?_
  obtain ⟨v12, ev12, hs⟩ := bindS hs
  refine go_aIb ev12 dX6_advance_122 ?_
  refine go_bipush (v := 48) (by decide) dX6_advance_123 ?_
  refine go_icmp_lt (tgt := 149) (by decide) dX6_advance_125 (fun c => ?_) (fun c => ?_)
  · have hs := if_t c hs
    exact go_subL (L' := [some (.ref x0)]) (by simp [subL, va_rf]) (oX6_advance_149 hd hs hk)
  · have hs := if_f c hs
    refine go_aload_n (k4 := 0) rfl (Or.inr ⟨_, rfl⟩) dX6_advance_128 ?_
    obtain ⟨v24, ev24, hs⟩ := bindS hs
    refine go_gN fl_RX6_7 ev24 dX6_advance_129 ?_
    refine go_aload_n (k4 := 0) rfl (Or.inr ⟨_, rfl⟩) dX6_advance_132 ?_
    obtain ⟨v25, ev25, hs⟩ := bindS hs
    refine go_gI fl_RX6_17 ev25 dX6_advance_133 ?_
    obtain ⟨v26, ev26, hs⟩ := bindS hs
    refine go_aIb ev26 dX6_advance_136 ?_
    refine go_bipush (v := 57) (by decide) dX6_advance_137 ?_
    refine go_icmp_gt (tgt := 149) (by decide) dX6_advance_139 (fun c => ?_) (fun c => ?_)
    · have hs := if_t c hs
      exact go_subL (L' := [some (.ref x0)]) (by simp [subL, va_rf]) (oX6_advance_149 hd hs hk)
    · have hs := if_f c hs
      refine go_aload_n (k4 := 0) rfl (Or.inr ⟨_, rfl⟩) dX6_advance_142 ?_
      obtain ⟨g28, hs⟩ := gO_at hs
      obtain ⟨y27, ey27, hs⟩ := bindS hs
      refine go_V0 (As := []) (st := []) g28 rfl rfl (oX6_readNumber (d := d - 1) (by omega) ey27) (by omega) mb_X6_readNumber lm_RX6_41 mi_X6_readNumber (Nat.le_of_ble_eq_true rfl) rfl dX6_advance_143 ?_
      refine go_goto (tgt := 198) (by decide) dX6_advance_146 ?_
      exact go_subL (L' := [none]) (by simp [subL, va_rf]) (oX6_advance_198 hd hs hk)
noncomputable def fX6_advance_52 (h : Hp) (x0 : Nat) : Option Hp :=
  (gI h 6 x0 2).bind fun v3 =>
  (sV h 6 x0 4 (.int v3)).bind fun h4 =>
  (gI h4 6 x0 2).bind fun v5 =>
  (gI h4 6 x0 1).bind fun v6 =>
  if v5 < v6 then (
    (gN h4 6 x0 0).bind fun v7 =>
    (gI h4 6 x0 2).bind fun v8 =>
    (aI 1 h4 v7 v8).bind fun v9 =>
    if v9 < (97 : Int32) then (
    fX6_advance_114 h4 x0) else (
      (gN h4 6 x0 0).bind fun v29 =>
      (gI h4 6 x0 2).bind fun v30 =>
      (aI 1 h4 v29 v30).bind fun v31 =>
      if (122 : Int32) < v31 then (
      fX6_advance_114 h4 x0) else (
        gO h4 6 x0 (
        (fX6_readWord h4 x0).bind fun y32 =>
        fX6_advance_198 y32 )))) else (
    (sV h4 6 x0 3 (.int (0 : Int32))).bind fun h34 =>
    fX6_advance_198 h34 )
theorem oX6_advance_52 {d : Nat} (hd : 4 ≤ d) {h : Hp} {x0 : Nat} {rf : Option Value} {hf : Hp} {x : Hp} (hs : fX6_advance_52 h x0 = some x) (hk : (kX6_advance rf hf) x) : Go d mX6_advance 52 [some (.ref x0)] [] h rf hf := by
  unfold fX6_advance_52 at hs
  refine go_aload_n (k4 := 0) rfl (Or.inr ⟨_, rfl⟩) dX6_advance_52 ?_
  refine go_aload_n (k4 := 0) rfl (Or.inr ⟨_, rfl⟩) dX6_advance_53 ?_
  obtain ⟨v3, ev3, hs⟩ := bindS hs
  refine go_gI fl_RX6_17 ev3 dX6_advance_54 ?_
  obtain ⟨h4, eh4, hs⟩ := bindS hs
  refine go_sV fw_RX6_23 eh4 rfl rfl dX6_advance_57 ?_
  refine go_aload_n (k4 := 0) rfl (Or.inr ⟨_, rfl⟩) dX6_advance_60 ?_
  obtain ⟨v5, ev5, hs⟩ := bindS hs
  refine go_gI fl_RX6_17 ev5 dX6_advance_61 ?_
  refine go_aload_n (k4 := 0) rfl (Or.inr ⟨_, rfl⟩) dX6_advance_64 ?_
  refine go_at 65 rfl ?_
  obtain ⟨v6, ev6, hs⟩ := bindS hs
  refine go_gI fl_RX6_13 ev6 dX6_advance_65 ?_
  refine go_icmp_lt (tgt := 79) (by decide) dX6_advance_68 (fun c => ?_) (fun c => ?_)
  · have hs := if_t c hs
    refine go_aload_n (k4 := 0) rfl (Or.inr ⟨_, rfl⟩) dX6_advance_79 ?_
    obtain ⟨v7, ev7, hs⟩ := bindS hs
    refine go_gN fl_RX6_7 ev7 dX6_advance_80 ?_
    refine go_aload_n (k4 := 0) rfl (Or.inr ⟨_, rfl⟩) dX6_advance_83 ?_
    obtain ⟨v8, ev8, hs⟩ := bindS hs
    refine go_gI fl_RX6_17 ev8 dX6_advance_84 ?_
    obtain ⟨v9, ev9, hs⟩ := bindS hs
    refine go_aIb ev9 dX6_advance_87 ?_
    refine go_bipush (v := 97) (by decide) dX6_advance_88 ?_
    refine go_icmp_lt (tgt := 114) (by decide) dX6_advance_90 (fun c => ?_) (fun c => ?_)
    · have hs := if_t c hs
      exact go_subL (L' := [some (.ref x0)]) (by simp [subL, va_rf]) (oX6_advance_114 hd hs hk)
    · have hs := if_f c hs
      refine go_aload_n (k4 := 0) rfl (Or.inr ⟨_, rfl⟩) dX6_advance_93 ?_
      obtain ⟨v29, ev29, hs⟩ := bindS hs
      refine go_gN fl_RX6_7 ev29 dX6_advance_94 ?_
      refine go_aload_n (k4 := 0) rfl (Or.inr ⟨_, rfl⟩) dX6_advance_97 ?_
      obtain ⟨v30, ev30, hs⟩ := bindS hs
      refine go_gI fl_RX6_17 ev30 dX6_advance_98 ?_
      obtain ⟨v31, ev31, hs⟩ := bindS hs
      refine go_aIb ev31 dX6_advance_101 ?_
      refine go_bipush (v := 122) (by decide) dX6_advance_102 ?_
      refine go_icmp_gt (tgt := 114) (by decide) dX6_advance_104 (fun c => ?_) (fun c => ?_)
      · have hs := if_t c hs
        exact go_subL (L' := [some (.ref x0)]) (by simp [subL, va_rf]) (oX6_advance_114 hd hs hk)
      · have hs := if_f c hs
        refine go_aload_n (k4 := 0) rfl (Or.inr ⟨_, rfl⟩) dX6_advance_107 ?_
        obtain ⟨g33, hs⟩ := gO_at hs
        obtain ⟨y32, ey32, hs⟩ := bindS hs
        refine go_V0 (As := []) (st := []) g33 rfl rfl (oX6_readWord (d := d - 1) (by omega) ey32) (by omega) mb_X6_readWord lm_RX6_38 mi_X6_readWord (Nat.le_of_ble_eq_true rfl) rfl dX6_advance_108 ?_
        refine go_goto (tgt := 198) (by decide) dX6_advance_111 ?_
        exact go_subL (L' := [none]) (by simp [subL, va_rf]) (oX6_advance_198 hd hs hk)
  · have hs := if_f c hs
    refine go_aload_n (k4 := 0) rfl (Or.inr ⟨_, rfl⟩) dX6_advance_71 ?_
    refine go_iconst (v := 0) (by decide) dX6_advance_72 ?_
    obtain ⟨h34, eh34, hs⟩ := bindS hs
    refine go_sV fw_RX6_20 eh34 rfl rfl dX6_advance_73 ?_
    refine go_goto (tgt := 198) (by decide) dX6_advance_76 ?_
    exact go_subL (L' := [none]) (by simp [subL, va_rf]) (oX6_advance_198 hd hs hk)
noncomputable def fX6_advance_39 (h : Hp) (x0 : Nat) : Option (Hp ⊕ Hp) :=
  (gI h 6 x0 2).bind fun v38 =>
  (sV h 6 x0 2 (.int (v38 + (1 : Int32)))).bind fun h39 =>
  some (.inl h39)
theorem oX6_advance_39 {d : Nat} (hd : 4 ≤ d) {h : Hp} {x0 : Nat} {rf : Option Value} {hf : Hp} {x : (Hp ⊕ Hp)} (hs : fX6_advance_39 h x0 = some x) (hk : (Kx (pX6_advance_0 d x0 rf hf) (kX6_advance rf hf)) x) : Go d mX6_advance 39 [some (.ref x0)] [] h rf hf := by
  unfold fX6_advance_39 at hs
  refine go_aload_n (k4 := 0) rfl (Or.inr ⟨_, rfl⟩) dX6_advance_39 ?_
  refine go_dup rfl dX6_advance_40 ?_
  obtain ⟨v38, ev38, hs⟩ := bindS hs
  refine go_gI fl_RX6_17 ev38 dX6_advance_41 ?_
  refine go_iconst (v := 1) (by decide) dX6_advance_44 ?_
  refine go_iadd dX6_advance_45 ?_
  obtain ⟨h39, eh39, hs⟩ := bindS hs
  refine go_sV fw_RX6_17 eh39 rfl rfl dX6_advance_46 ?_
  refine go_goto (tgt := 0) (by decide) dX6_advance_49 ?_
  obtain rfl := Option.some.inj hs
  exact go_subL (L' := [some (.ref x0)]) (by simp [subL, va_rf]) hk
noncomputable def fX6_advanceb (h : Hp) (x0 : Nat) : Option (Hp ⊕ Hp) :=
  (gI h 6 x0 2).bind fun v1 =>
  (gI h 6 x0 1).bind fun v2 =>
  if v2 ≤ v1 then (
  (fX6_advance_52 h x0).map (fun q => .inr q)) else (
    (gN h 6 x0 0).bind fun v35 =>
    (gI h 6 x0 2).bind fun v36 =>
    (aI 1 h v35 v36).bind fun v37 =>
    if v37 = (32 : Int32) then (
    fX6_advance_39 h x0) else (
      (gN h 6 x0 0).bind fun v40 =>
      (gI h 6 x0 2).bind fun v41 =>
      (aI 1 h v40 v41).bind fun v42 =>
      if v42 = (10 : Int32) then (
      fX6_advance_39 h x0) else (
      (fX6_advance_52 h x0).map (fun q => .inr q))))
noncomputable def fX6_advance (h : Hp) (x0 : Nat) : Option Hp := lpw (σ := Hp) (fun s => fX6_advanceb s x0 ) h
theorem oX6_advance_0b {d : Nat} (hd : 4 ≤ d) {h : Hp} {x0 : Nat} {rf : Option Value} {hf : Hp} {x : (Hp ⊕ Hp)} (hs : fX6_advanceb h x0 = some x) (hk : (Kx (pX6_advance_0 d x0 rf hf) (kX6_advance rf hf)) x) : Go d mX6_advance 0 [some (.ref x0)] [] h rf hf := by
  unfold fX6_advanceb at hs
  refine go_aload_n (k4 := 0) rfl (Or.inr ⟨_, rfl⟩) dX6_advance_0 ?_
  obtain ⟨v1, ev1, hs⟩ := bindS hs
  refine go_gI fl_RX6_17 ev1 dX6_advance_1 ?_
  refine go_aload_n (k4 := 0) rfl (Or.inr ⟨_, rfl⟩) dX6_advance_4 ?_
  obtain ⟨v2, ev2, hs⟩ := bindS hs
  refine go_gI fl_RX6_13 ev2 dX6_advance_5 ?_
  refine go_icmp_ge (tgt := 52) (by decide) dX6_advance_8 (fun c => ?_) (fun c => ?_)
  · have hs := if_t c hs
    obtain ⟨q, hs2, hq⟩ := mapS hs
    clear hs
    subst hq
    exact go_subL (L' := [some (.ref x0)]) (by simp [subL, va_rf]) (oX6_advance_52 hd hs2 hk)
  · have hs := if_f c hs
    refine go_aload_n (k4 := 0) rfl (Or.inr ⟨_, rfl⟩) dX6_advance_11 ?_
    obtain ⟨v35, ev35, hs⟩ := bindS hs
    refine go_gN fl_RX6_7 ev35 dX6_advance_12 ?_
    refine go_aload_n (k4 := 0) rfl (Or.inr ⟨_, rfl⟩) dX6_advance_15 ?_
    obtain ⟨v36, ev36, hs⟩ := bindS hs
    refine go_gI fl_RX6_17 ev36 dX6_advance_16 ?_
    obtain ⟨v37, ev37, hs⟩ := bindS hs
    refine go_aIb ev37 dX6_advance_19 ?_
    refine go_bipush (v := 32) (by decide) dX6_advance_20 ?_
    refine go_icmp_eq (tgt := 39) (by decide) dX6_advance_22 (fun c => ?_) (fun c => ?_)
    · have hs := if_t c hs
      exact go_subL (L' := [some (.ref x0)]) (by simp [subL, va_rf]) (oX6_advance_39 hd hs hk)
    · have hs := if_f c hs
      refine go_aload_n (k4 := 0) rfl (Or.inr ⟨_, rfl⟩) dX6_advance_25 ?_
      obtain ⟨v40, ev40, hs⟩ := bindS hs
      refine go_gN fl_RX6_7 ev40 dX6_advance_26 ?_
      refine go_aload_n (k4 := 0) rfl (Or.inr ⟨_, rfl⟩) dX6_advance_29 ?_
      obtain ⟨v41, ev41, hs⟩ := bindS hs
      refine go_gI fl_RX6_17 ev41 dX6_advance_30 ?_
      obtain ⟨v42, ev42, hs⟩ := bindS hs
      refine go_aIb ev42 dX6_advance_33 ?_
      refine go_bipush (v := 10) (by decide) dX6_advance_34 ?_
      refine go_icmp_ne (tgt := 52) (by decide) dX6_advance_36 (fun c => ?_) (fun c => ?_)
      · have hs := if_f c hs
        obtain ⟨q, hs2, hq⟩ := mapS hs
        clear hs
        subst hq
        exact go_subL (L' := [some (.ref x0)]) (by simp [subL, va_rf]) (oX6_advance_52 hd hs2 hk)
      · have hs := if_t c hs
        exact go_subL (L' := [some (.ref x0)]) (by simp [subL, va_rf]) (oX6_advance_39 hd hs hk)
theorem oX6_advance_0 {d : Nat} (hd : 4 ≤ d) {h : Hp} {x0 : Nat} {rf : Option Value} {hf : Hp} {x : Hp} (hs : fX6_advance h x0 = some x) (hk : (kX6_advance rf hf) x) : Go d mX6_advance 0 [some (.ref x0)] [] h rf hf := by
  unfold fX6_advance at hs
  exact lpw_go (P := pX6_advance_0 d x0 rf hf) (fun s x hs hk => oX6_advance_0b hd hs hk) h x hs hk
theorem oX6_advance {d : Nat} (hd : 4 ≤ d) {h : Hp} {x0 : Nat} {y : Hp} (hs : fX6_advance h x0 = some y) : Call d mX6_advance [.ref x0] h (none) y := call_of (by decide +kernel) (Nat.le_of_ble_eq_true rfl) (show Go d mX6_advance 0 [some (.ref x0)] [] h _ _ from go_subL (by simp [subL]) (oX6_advance_0 hd hs ⟨rfl, rfl⟩))
