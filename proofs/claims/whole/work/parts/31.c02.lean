/-! methods: their texts as functions, and that the machine does just that -/
abbrev kX6_advance (rf : Option Value) (hf : Hp) : Hp → Prop := fun y => rf = none ∧ hf = y
abbrev pX6_advance_0 (d : Nat) (x0 : Nat) (rf : Option Value) (hf : Hp) : Hp → Prop := fun s => Go d mX6_advance 0 [some (.ref x0)] [] s rf hf
noncomputable def fX6_advance_198 (h : Hp)  : Option Hp :=
  some (h)
theorem oX6_advance_198 {d : Nat} (hd : 4 ≤ d) {h : Hp} {rf : Option Value} {hf : Hp} {x : Hp} (hs : fX6_advance_198 h  = some x) (hk : (kX6_advance rf hf) x) : Go d mX6_advance 198 [none] [] h rf hf := by
  unfold fX6_advance_198 at hs
  obtain rfl := Option.some.inj hs
  obtain ⟨rfl, rfl⟩ := hk
  exact go_vret rfl dX6_advance_198
noncomputable def fX6_advance_185 (h : Hp) (x0 : Nat) (s0 : Nat) (s1 : Int32) : Option Hp :=
  (sV h 6 s0 3 (.int s1)).bind fun h16 =>
  (gI h16 6 x0 2).bind fun v17 =>
  (sV h16 6 x0 2 (.int (v17 + (1 : Int32)))).bind fun h18 =>
  fX6_advance_198 h18 
theorem oX6_advance_185 {d : Nat} (hd : 4 ≤ d) {h : Hp} {x0 : Nat} {s0 : Nat} {s1 : Int32} {rf : Option Value} {hf : Hp} {x : Hp} (hs : fX6_advance_185 h x0 s0 s1 = some x) (hk : (kX6_advance rf hf) x) : Go d mX6_advance 185 [some (.ref x0)] [.int s1, .ref s0] h rf hf := by
  unfold fX6_advance_185 at hs
  obtain ⟨h16, eh16, hs⟩ := bindS hs
  refine go_sV fw_RX6_20 eh16 rfl rfl dX6_advance_185 ?_
  refine go_aload_n (k4 := 0) rfl (Or.inr ⟨_, rfl⟩) dX6_advance_188 ?_
  refine go_dup rfl dX6_advance_189 ?_
  obtain ⟨v17, ev17, hs⟩ := bindS hs
  refine go_gI fl_RX6_17 ev17 dX6_advance_190 ?_
  refine go_iconst (v := 1) (by decide) dX6_advance_193 ?_
  refine go_iadd dX6_advance_194 ?_
  obtain ⟨h18, eh18, hs⟩ := bindS hs
  refine go_sV fw_RX6_17 eh18 rfl rfl dX6_advance_195 ?_
  exact go_subL (L' := [none]) (by simp [subL, va_rf]) (oX6_advance_198 hd hs hk)
noncomputable def fX6_advance_184 (h : Hp) (x0 : Nat) (s0 : Nat) : Option Hp :=
  fX6_advance_185 h x0 s0 (4 : Int32)
theorem oX6_advance_184 {d : Nat} (hd : 4 ≤ d) {h : Hp} {x0 : Nat} {s0 : Nat} {rf : Option Value} {hf : Hp} {x : Hp} (hs : fX6_advance_184 h x0 s0 = some x) (hk : (kX6_advance rf hf) x) : Go d mX6_advance 184 [some (.ref x0)] [.ref s0] h rf hf := by
  unfold fX6_advance_184 at hs
  refine go_iconst (v := 4) (by decide) dX6_advance_184 ?_
  exact go_subL (L' := [some (.ref x0)]) (by simp [subL, va_rf]) (oX6_advance_185 hd hs hk)
noncomputable def fX6_advance_149 (h : Hp) (x0 : Nat) : Option Hp :=
  (gN h 6 x0 0).bind fun v13 =>
  (gI h 6 x0 2).bind fun v14 =>
  (aI 1 h v13 v14).bind fun v15 =>
  if v15 ≤ 0 then (
  fX6_advance_184 h x0 x0) else (
    (gN h 6 x0 0).bind fun v19 =>
    (gI h 6 x0 2).bind fun v20 =>
    (aI 1 h v19 v20).bind fun v21 =>
    gT 3 (
    (fJ0_indexOf_0f7a4 h 3 ((v21.toUInt32 % 65536).toInt32)).bind fun y22 =>
    if y22 < 0 then (
    fX6_advance_184 h x0 x0) else (
      fX6_advance_185 h x0 x0 (3 : Int32))))
theorem oX6_advance_149 {d : Nat} (hd : 4 ≤ d) {h : Hp} {x0 : Nat} {rf : Option Value} {hf : Hp} {x : Hp} (hs : fX6_advance_149 h x0 = some x) (hk : (kX6_advance rf hf) x) : Go d mX6_advance 149 [some (.ref x0)] [] h rf hf := by
  unfold fX6_advance_149 at hs
  refine go_aload_n (k4 := 0) rfl (Or.inr ⟨_, rfl⟩) dX6_advance_149 ?_
  refine go_aload_n (k4 := 0) rfl (Or.inr ⟨_, rfl⟩) dX6_advance_150 ?_
  obtain ⟨v13, ev13, hs⟩ := bindS hs
  refine go_gN fl_RX6_7 ev13 dX6_advance_151 ?_
  refine go_aload_n (k4 := 0) rfl (Or.inr ⟨_, rfl⟩) dX6_advance_154 ?_
  obtain ⟨v14, ev14, hs⟩ := bindS hs
  refine go_gI fl_RX6_17 ev14 dX6_advance_155 ?_
  obtain ⟨v15, ev15, hs⟩ := bindS hs
  refine go_aIb ev15 dX6_advance_158 ?_
  refine go_if_le (tgt := 184) (by decide) dX6_advance_159 (fun c => ?_) (fun c => ?_)
  · have hs := if_t c hs
    exact go_subL (L' := [some (.ref x0)]) (by simp [subL, va_rf]) (oX6_advance_184 hd hs hk)
  · have hs := if_f c hs
    refine go_str (j := 3) ls_RX6_44 dX6_advance_162 ?_
    refine go_aload_n (k4 := 0) rfl (Or.inr ⟨_, rfl⟩) dX6_advance_164 ?_
    obtain ⟨v19, ev19, hs⟩ := bindS hs
    refine go_gN fl_RX6_7 ev19 dX6_advance_165 ?_
    refine go_aload_n (k4 := 0) rfl (Or.inr ⟨_, rfl⟩) dX6_advance_168 ?_
    obtain ⟨v20, ev20, hs⟩ := bindS hs
    refine go_gI fl_RX6_17 ev20 dX6_advance_169 ?_
    obtain ⟨v21, ev21, hs⟩ := bindS hs
    refine go_aIb ev21 dX6_advance_172 ?_
    refine go_i2c dX6_advance_173 ?_
    refine go_at 174 rfl ?_
    obtain ⟨g23, hs⟩ := gT_at hs
    obtain ⟨y22, ey22, hs⟩ := bindS hs
    refine go_T1 (As := [.int ((v21.toUInt32 % 65536).toInt32)]) (st := [.ref x0]) g23 rfl (oJ0_indexOf_0f7a4 (d := d - 1) (by omega) ey22) (by omega) mb_J0_indexOf_0f7a4 lm_RX6_46 mi_J0_indexOf_0f7a4 (Nat.le_of_ble_eq_true rfl) rfl dX6_advance_174 ?_
    refine go_if_lt (tgt := 184) (by decide) dX6_advance_177 (fun c => ?_) (fun c => ?_)
    · have hs := if_t c hs
      exact go_subL (L' := [some (.ref x0)]) (by simp [subL, va_rf]) (oX6_advance_184 hd hs hk)
    · have hs := if_f c hs
      refine go_iconst (v := 3) (by decide) dX6_advance_180 ?_
      refine go_goto (tgt := 185) (by decide) dX6_advance_181 ?_
      exact go_subL (L' := [some (.ref x0)]) (by simp [subL, va_rf]) (oX6_advance_185 hd hs hk)
noncomputable def fX6_advance_114 (h : Hp) (x0 : Nat) : Option Hp :=
  (gN h 6 x0 0).bind fun v10 =>
  (gI h 6 x0 2).bind fun v11 =>
  (aI 1 h v10 v11).bind fun v12 =>
  if v12 < (48 : Int32) then (
  fX6_advance_149 h x0) else (
    (gN h 6 x0 0).bind fun v24 =>
    (gI h 6 x0 2).bind fun v25 =>
    (aI 1 h v24 v25).bind fun v26 =>
    if (57 : Int32) < v26 then (
    fX6_advance_149 h x0) else (
      gO h 6 x0 (
      (fX6_readNumber h x0).bind fun y27 =>
      fX6_advance_198 y27 )))
theorem oX6_advance_114 {d : Nat} (hd : 4 ≤ d) {h : Hp} {x0 : Nat} {rf : Option Value} {hf : Hp} {x : Hp} (hs : fX6_advance_114 h x0 = some x) (hk : (kX6_advance rf hf) x) : Go d mX6_advance 114 [some (.ref x0)] [] h rf hf := by
  unfold fX6_advance_114 at hs
  refine go_aload_n (k4 := 0) rfl (Or.inr ⟨_, rfl⟩) dX6_advance_114 ?_
  obtain ⟨v10, ev10, hs⟩ := bindS hs
  refine go_gN fl_RX6_7 ev10 dX6_advance_115 ?_
  refine go_aload_n (k4 := 0) rfl (Or.inr ⟨_, rfl⟩) dX6_advance_118 ?_
  obtain ⟨v11, ev11, hs⟩ := bindS hs
  refine go_gI fl_RX6_17 ev11 dX6_advance_119 ?_
  obtain ⟨v12, ev12, hs⟩ := bindS hs
  refine go_aIb ev12 dX6_advance_122 ?_
  refine go_bipush (v := 48) (by decide) dX6_advance_123 ?_
  refine go_icmp_lt (tgt := 149) (by decide) dX6_advance_125 (fun c => ?_) (fun c => ?_)
  · have hs := if_t c hs
    exact go_subL (L' := [some (.ref x0)]) (by simp [subL, va_rf]) (oX6_advance_149 hd hs hk)
  · have hs := if_f c hs
    refine go_aload_n (k4 := 0) rfl (Or.inr ⟨_, rfl⟩) dX6_advance_128 ?_
    obtain ⟨v24, ev24, hs⟩ := bindS hs
    refine go_gN fl_RX6_7 ev24 dX6_advance_129 ?_
    refine go_aload_n (k4 := 0) rfl (Or.inr ⟨_, rfl⟩) dX6_advance_132 ?_
    obtain ⟨v25, ev25, hs⟩ := bindS hs
    refine go_gI fl_RX6_17 ev25 dX6_advance_133 ?_
    obtain ⟨v26, ev26, hs⟩ := bindS hs
    refine go_aIb ev26 dX6_advance_136 ?_
    refine go_bipush (v := 57) (by decide) dX6_advance_137 ?_
    refine go_icmp_gt (tgt := 149) (by decide) dX6_advance_139 (fun c => ?_) (fun c => ?_)
    · have hs := if_t c hs
      exact go_subL (L' := [some (.ref x0)]) (by simp [subL, va_rf]) (oX6_advance_149 hd hs hk)
    · have hs := if_f c hs
      refine go_aload_n (k4 := 0) rfl (Or.inr ⟨_, rfl⟩) dX6_advance_142 ?_
      obtain ⟨g28, hs⟩ := gO_at hs
      obtain ⟨y27, ey27, hs⟩ := bindS hs
      refine go_V0 (As := []) (st := []) g28 rfl rfl (oX6_readNumber (d := d - 1) (by omega) ey27) (by omega) mb_X6_readNumber lm_RX6_41 mi_X6_readNumber (Nat.le_of_ble_eq_true rfl) rfl dX6_advance_143 ?_
      refine go_goto (tgt := 198) (by decide) dX6_advance_146 ?_
      exact go_subL (L' := [none]) (by simp [subL, va_rf]) (oX6_advance_198 hd hs hk)
noncomputable def fX6_advance_52 (h : Hp) (x0 : Nat) : Option Hp :=
  (gI h 6 x0 2).bind fun v3 =>
  (sV h 6 x0 4 (.int v3)).bind fun h4 =>
  (gI h4 6 x0 2).bind fun v5 =>
  (gI h4 6 x0 1).bind fun v6 =>
  if v5 < v6 then (
    (gN h4 6 x0 0).bind fun v7 =>
    (gI h4 6 x0 2).bind fun v8 =>
    (aI 1 h4 v7 v8).bind fun v9 =>
    if v9 < (97 : Int32) then (
    fX6_advance_114 h4 x0) else (
      (gN h4 6 x0 0).bind fun v29 =>
      (gI h4 6 x0 2).bind fun v30 =>
      (aI 1 h4 v29 v30).bind fun v31 =>
      if (122 : Int32) < v31 then (
      fX6_advance_114 h4 x0) else (
        gO h4 6 x0 (
        (fX6_readWord h4 x0).bind fun y32 =>
        fX6_advance_198 y32 )))) else (
    (sV h4 6 x0 3 (.int (0 : Int32))).bind fun h34 =>
    fX6_advance_198 h34 )
theorem oX6_advance_52 {d : Nat} (hd : 4 ≤ d) {h : Hp} {x0 : Nat} {rf : Option Value} {hf : Hp} {x : Hp} (hs : fX6_advance_52 h x0 = some x) (hk : (kX6_advance rf hf) x) : Go d mX6_advance 52 [some (.ref x0)] [] h rf hf := by
  unfold fX6_advance_52 at hs
  refine go_aload_n (k4 := 0) rfl (Or.inr ⟨_, rfl⟩) dX6_advance_52 ?_
  refine go_aload_n (k4 := 0) rfl (Or.inr ⟨_, rfl⟩) dX6_advance_53 ?_
  obtain ⟨v3, ev3, hs⟩ := bindS hs
  refine go_gI fl_RX6_17 ev3 dX6_advance_54 ?_
  obtain ⟨h4, eh4, hs⟩ := bindS hs
  refine go_sV fw_RX6_23 eh4 rfl rfl dX6_advance_57 ?_
  refine go_aload_n (k4 := 0) rfl (Or.inr ⟨_, rfl⟩) dX6_advance_60 ?_
  obtain ⟨v5, ev5, hs⟩ := bindS hs
  refine go_gI fl_RX6_17 ev5 dX6_advance_61 ?_
  refine go_aload_n (k4 := 0) rfl (Or.inr ⟨_, rfl⟩) dX6_advance_64 ?_
  refine go_at 65 rfl ?_
  obtain ⟨v6, ev6, hs⟩ := bindS hs
  refine go_gI fl_RX6_13 ev6 dX6_advance_65 ?_
  refine go_icmp_lt (tgt := 79) (by decide) dX6_advance_68 (fun c => ?_) (fun c => ?_)
  · have hs := if_t c hs
    refine go_aload_n (k4 := 0) rfl (Or.inr ⟨_, rfl⟩) dX6_advance_79 ?_
    obtain ⟨v7, ev7, hs⟩ := bindS hs
    refine go_gN fl_RX6_7 ev7 dX6_advance_80 ?_
    refine go_aload_n (k4 := 0) rfl (Or.inr ⟨_, rfl⟩) dX6_advance_83 ?_
    obtain ⟨v8, ev8, hs⟩ := bindS hs
    refine go_gI fl_RX6_17 ev8 dX6_advance_84 ?_
    obtain ⟨v9, ev9, hs⟩ := bindS hs
    refine go_aIb ev9 dX6_advance_87 ?_
    refine go_bipush (v := 97) (by decide) dX6_advance_88 ?_
    refine go_icmp_lt (tgt := 114) (by decide) dX6_advance_90 (fun c => ?_) (fun c => ?_)
    · have hs := if_t c hs
      exact go_subL (L' := [some (.ref x0)]) (by simp [subL, va_rf]) (oX6_advance_114 hd hs hk)
    · have hs := if_f c hs
      refine go_aload_n (k4 := 0) rfl (Or.inr ⟨_, rfl⟩) dX6_advance_93 ?_
      obtain ⟨v29, ev29, hs⟩ := bindS hs
      refine go_gN fl_RX6_7 ev29 dX6_advance_94 ?_
      refine go_aload_n (k4 := 0) rfl (Or.inr ⟨_, rfl⟩) dX6_advance_97 ?_
      obtain ⟨v30, ev30, hs⟩ := bindS hs
      refine go_gI fl_RX6_17 ev30 dX6_advance_98 ?_
      obtain ⟨v31, ev31, hs⟩ := bindS hs
      refine go_aIb ev31 dX6_advance_101 ?_
      refine go_bipush (v := 122) (by decide) dX6_advance_102 ?_
      refine go_icmp_gt (tgt := 114) (by decide) dX6_advance_104 (fun c => ?_) (fun c => ?_)
      · have hs := if_t c hs
        exact go_subL (L' := [some (.ref x0)]) (by simp [subL, va_rf]) (oX6_advance_114 hd hs hk)
      · have hs := if_f c hs
        refine go_aload_n (k4 := 0) rfl (Or.inr ⟨_, rfl⟩) dX6_advance_107 ?_
        obtain ⟨g33, hs⟩ := gO_at hs
        obtain ⟨y32, ey32, hs⟩ := bindS hs
        refine go_V0 (As := []) (st := []) g33 rfl rfl (oX6_readWord (d := d - 1) (by omega) ey32) (by omega) mb_X6_readWord lm_RX6_38 mi_X6_readWord (Nat.le_of_ble_eq_true rfl) rfl dX6_advance_108 ?_
        refine go_goto (tgt := 198) (by decide) dX6_advance_111 ?_
        exact go_subL (L' := [none]) (by simp [subL, va_rf]) (oX6_advance_198 hd hs hk)
  · have hs := if_f c hs
    refine go_aload_n (k4 := 0) rfl (Or.inr ⟨_, rfl⟩) dX6_advance_71 ?_
    refine go_iconst (v := 0) (by decide) dX6_advance_72 ?_
    obtain ⟨h34, eh34, hs⟩ := bindS hs
    refine go_sV fw_RX6_20 eh34 rfl rfl dX6_advance_73 ?_
    refine go_goto (tgt := 198) (by decide) dX6_advance_76 ?_
    exact go_subL (L' := [none]) (by simp [subL, va_rf]) (oX6_advance_198 hd hs hk)
noncomputable def fX6_advance_39 (h : Hp) (x0 : Nat) : Option (Hp ⊕ Hp) :=
  (gI h 6 x0 2).bind fun v38 =>
  (sV h 6 x0 2 (.int (v38 + (1 : Int32)))).bind fun h39 =>
  some (.inl h39)
theorem oX6_advance_39 {d : Nat} (hd : 4 ≤ d) {h : Hp} {x0 : Nat} {rf : Option Value} {hf : Hp} {x : (Hp ⊕ Hp)} (hs : fX6_advance_39 h x0 = some x) (hk : (Kx (pX6_advance_0 d x0 rf hf) (kX6_advance rf hf)) x) : Go d mX6_advance 39 [some (.ref x0)] [] h rf hf := by
  unfold fX6_advance_39 at hs
  refine go_aload_n (k4 := 0) rfl (Or.inr ⟨_, rfl⟩) dX6_advance_39 ?_
  refine go_dup rfl dX6_advance_40 ?_
  obtain ⟨v38, ev38, hs⟩ := bindS hs
  refine go_gI fl_RX6_17 ev38 dX6_advance_41 ?_
  refine go_iconst (v := 1) (by decide) dX6_advance_44 ?_
  refine go_iadd dX6_advance_45 ?_
  obtain ⟨h39, eh39, hs⟩ := bindS hs
  refine go_sV fw_RX6_17 eh39 rfl rfl dX6_advance_46 ?_
  refine go_goto (tgt := 0) (by decide) dX6_advance_49 ?_
  obtain rfl := Option.some.inj hs
  exact go_subL (L' := [some (.ref x0)]) (by simp [subL, va_rf]) hk
noncomputable def fX6_advanceb (h : Hp) (x0 : Nat) : Option (Hp ⊕ Hp) :=
  (gI h 6 x0 2).bind fun v1 =>
  (gI h 6 x0 1).bind fun v2 =>
  if v2 ≤ v1 then (
  (fX6_advance_52 h x0).map (fun q => .inr q)) else (
    (gN h 6 x0 0).bind fun v35 =>
    (gI h 6 x0 2).bind fun v36 =>
    (aI 1 h v35 v36).bind fun v37 =>
    if v37 = (32 : Int32) then (
    fX6_advance_39 h x0) else (
      (gN h 6 x0 0).bind fun v40 =>
      (gI h 6 x0 2).bind fun v41 =>
      (aI 1 h v40 v41).bind fun v42 =>
      if v42 = (10 : Int32) then (
      fX6_advance_39 h x0) else (
      (fX6_advance_52 h x0).map (fun q => .inr q))))
noncomputable def fX6_advance (h : Hp) (x0 : Nat) : Option Hp := lpw (σ := Hp) (fun s => fX6_advanceb s x0 ) h
theorem oX6_advance_0b {d : Nat} (hd : 4 ≤ d) {h : Hp} {x0 : Nat} {rf : Option Value} {hf : Hp} {x : (Hp ⊕ Hp)} (hs : fX6_advanceb h x0 = some x) (hk : (Kx (pX6_advance_0 d x0 rf hf) (kX6_advance rf hf)) x) : Go d mX6_advance 0 [some (.ref x0)] [] h rf hf := by
  unfold fX6_advanceb at hs
  refine go_aload_n (k4 := 0) rfl (Or.inr ⟨_, rfl⟩) dX6_advance_0 ?_
  obtain ⟨v1, ev1, hs⟩ := bindS hs
  refine go_gI fl_RX6_17 ev1 dX6_advance_1 ?_
  refine go_aload_n (k4 := 0) rfl (Or.inr ⟨_, rfl⟩) dX6_advance_4 ?_
  obtain ⟨v2, ev2, hs⟩ := bindS hs
  refine go_gI fl_RX6_13 ev2 dX6_advance_5 ?_
  refine go_icmp_ge (tgt := 52) (by decide) dX6_advance_8 (fun c => ?_) (fun c => ?_)
  · have hs := if_t c hs
    obtain ⟨q, hs2, hq⟩ := mapS hs
    clear hs
    subst hq
    exact go_subL (L' := [some (.ref x0)]) (by simp [subL, va_rf]) (oX6_advance_52 hd hs2 hk)
  · have hs := if_f c hs
    refine go_aload_n (k4 := 0) rfl (Or.inr ⟨_, rfl⟩) dX6_advance_11 ?_
    obtain ⟨v35, ev35, hs⟩ := bindS hs
    refine go_gN fl_RX6_7 ev35 dX6_advance_12 ?_
    refine go_aload_n (k4 := 0) rfl (Or.inr ⟨_, rfl⟩) dX6_advance_15 ?_
    obtain ⟨v36, ev36, hs⟩ := bindS hs
    refine go_gI fl_RX6_17 ev36 dX6_advance_16 ?_
    obtain ⟨v37, ev37, hs⟩ := bindS hs
    refine go_aIb ev37 dX6_advance_19 ?_
    refine go_bipush (v := 32) (by decide) dX6_advance_20 ?_
    refine go_icmp_eq (tgt := 39) (by decide) dX6_advance_22 (fun c => ?_) (fun c => ?_)
    · have hs := if_t c hs
      exact go_subL (L' := [some (.ref x0)]) (by simp [subL, va_rf]) (oX6_advance_39 hd hs hk)
    · have hs := if_f c hs
      refine go_aload_n (k4 := 0) rfl (Or.inr ⟨_, rfl⟩) dX6_advance_25 ?_
      obtain ⟨v40, ev40, hs⟩ := bindS hs
      refine go_gN fl_RX6_7 ev40 dX6_advance_26 ?_
      refine go_aload_n (k4 := 0) rfl (Or.inr ⟨_, rfl⟩) dX6_advance_29 ?_
      obtain ⟨v41, ev41, hs⟩ := bindS hs
      refine go_gI fl_RX6_17 ev41 dX6_advance_30 ?_
      obtain ⟨v42, ev42, hs⟩ := bindS hs
      refine go_aIb ev42 dX6_advance_33 ?_
      refine go_bipush (v := 10) (by decide) dX6_advance_34 ?_
      refine go_icmp_ne (tgt := 52) (by decide) dX6_advance_36 (fun c => ?_) (fun c => ?_)
      · have hs := if_f c hs
        obtain ⟨q, hs2, hq⟩ := mapS hs
        clear hs
        subst hq
        exact go_subL (L' := [some (.ref x0)]) (by simp [subL, va_rf]) (oX6_advance_52 hd hs2 hk)
      · have hs := if_t c hs
        exact go_subL (L' := [some (.ref x0)]) (by simp [subL, va_rf]) (oX6_advance_39 hd hs hk)
theorem oX6_advance_0 {d : Nat} (hd : 4 ≤ d) {h : Hp} {x0 : Nat} {rf : Option Value} {hf : Hp} {x : Hp} (hs : fX6_advance h x0 = some x) (hk : (kX6_advance rf hf) x) : Go d mX6_advance 0 [some (.ref x0)] [] h rf hf := by
  unfold fX6_advance at hs
  exact lpw_go (P := pX6_advance_0 d x0 rf hf) (fun s x hs hk => oX6_advance_0b hd hs hk) h x hs hk
theorem oX6_advance {d : Nat} (hd : 4 ≤ d) {h : Hp} {x0 : Nat} {y : Hp} (hs : fX6_advance h x0 = some y) : Call d mX6_advance [.ref x0] h (none) y := call_of (by decide +kernel) (Nat.le_of_ble_eq_true rfl) (show Go d mX6_advance 0 [some (.ref x0)] [] h _ _ from go_subL (by simp [subL]) (oX6_advance_0 hd hs ⟨rfl, rfl⟩))
abbrev kX6_open (rf : Option Value) (hf : Hp) : Hp → Prop := fun y => rf = none ∧ hf = y
noncomputable def fX6_open (h : Hp) (x0 : Nat) (x1 : Nat) (x2 : Int32) : Option Hp :=
  (sV h 6 x0 0 (.ref x1)).bind fun h1 =>
  (aL h1 x1).bind fun v2 =>
  (fJ_min h1 x2 v2).bind fun y3 =>
  (sV h1 6 x0 1 (.int y3)).bind fun h4 =>
  (sV h4 6 x0 2 (.int (0 : Int32))).bind fun h5 =>
  gO h5 6 x0 (
  (fX6_advance h5 x0).bind fun y6 =>
  some (y6))
theorem oX6_open_0 {d : Nat} (hd : 5 ≤ d) {h : Hp} {x0 : Nat} {x1 : Nat} {x2 : Int32} {rf : Option Value} {hf : Hp} {x : Hp} (hs : fX6_open h x0 x1 x2 = some x) (hk : (kX6_open rf hf) x) : Go d mX6_open 0 [some (.ref x0), some (.ref x1), some (.int x2)] [] h rf hf := by
  unfold fX6_open at hs
  refine go_aload_n (k4 := 0) rfl (Or.inr ⟨_, rfl⟩) dX6_open_0 ?_
  refine go_aload_n (k4 := 1) rfl (Or.inr ⟨_, rfl⟩) dX6_open_1 ?_
  obtain ⟨h1, eh1, hs⟩ := bindS hs
  refine go_sV fw_RX6_7 eh1 rfl rfl dX6_open_2 ?_
  refine go_aload_n (k4 := 0) rfl (Or.inr ⟨_, rfl⟩) dX6_open_5 ?_
  refine go_iload_n (k4 := 2) rfl dX6_open_6 ?_
  refine go_aload_n (k4 := 1) rfl (Or.inr ⟨_, rfl⟩) dX6_open_7 ?_
  obtain ⟨v2, ev2, hs⟩ := bindS hs
  refine go_aL ev2 dX6_open_8 ?_
  refine go_at 9 rfl ?_
  obtain ⟨y3, ey3, hs⟩ := bindS hs
  refine go_S1 (As := [.int x2, .int v2]) (st := [.ref x0]) (oJ_min (d := d - 1) (by omega) ey3) (by omega) mb_J_min lm_RX6_29 ms_J_min (Nat.le_of_ble_eq_true rfl) rfl dX6_open_9 ?_
  obtain ⟨h4, eh4, hs⟩ := bindS hs
  refine go_sV fw_RX6_13 eh4 rfl rfl dX6_open_12 ?_
  refine go_aload_n (k4 := 0) rfl (Or.inr ⟨_, rfl⟩) dX6_open_15 ?_
  refine go_iconst (v := 0) (by decide) dX6_open_16 ?_
  obtain ⟨h5, eh5, hs⟩ := bindS hs
  refine go_sV fw_RX6_17 eh5 rfl rfl dX6_open_17 ?_
  refine go_aload_n (k4 := 0) rfl (Or.inr ⟨_, rfl⟩) dX6_open_20 ?_
  obtain ⟨g7, hs⟩ := gO_at hs
  obtain ⟨y6, ey6, hs⟩ := bindS hs
  refine go_V0 (As := []) (st := []) g7 rfl rfl (oX6_advance (d := d - 1) (by omega) ey6) (by omega) mb_X6_advance lm_RX6_35 mi_X6_advance (Nat.le_of_ble_eq_true rfl) rfl dX6_open_21 ?_
  obtain rfl := Option.some.inj hs
  obtain ⟨rfl, rfl⟩ := hk
  exact go_vret rfl dX6_open_24
theorem oX6_open {d : Nat} (hd : 5 ≤ d) {h : Hp} {x0 : Nat} {x1 : Nat} {x2 : Int32} {y : Hp} (hs : fX6_open h x0 x1 x2 = some y) : Call d mX6_open [.ref x0, .ref x1, .int x2] h (none) y := call_of (by decide +kernel) (Nat.le_of_ble_eq_true rfl) (show Go d mX6_open 0 [some (.ref x0), some (.ref x1), some (.int x2)] [] h _ _ from go_subL (by simp [subL]) (oX6_open_0 hd hs ⟨rfl, rfl⟩))
abbrev kX6_isAt (h : Hp) (rf : Option Value) (hf : Hp) : Int32 → Prop := fun y => rf = some (.int y) ∧ hf = h
abbrev pX6_isAt_36 (d : Nat) (h : Hp) (x0 : Nat) (x1 : Nat) (rf : Option Value) (hf : Hp) : Int32 → Prop := fun s => Go d mX6_isAt 36 [some (.ref x0), some (.ref x1), some (.int s)] [] h rf hf
noncomputable def fX6_isAt_84 (h : Hp)  : Option Int32 :=
  some ((1 : Int32))
theorem oX6_isAt_84 {d : Nat} (hd : 3 ≤ d) {h : Hp} {rf : Option Value} {hf : Hp} {x : Int32} (hs : fX6_isAt_84 h  = some x) (hk : (kX6_isAt h rf hf) x) : Go d mX6_isAt 84 [none, none, none] [] h rf hf := by
  unfold fX6_isAt_84 at hs
  refine go_iconst (v := 1) (by decide) dX6_isAt_84 ?_
  obtain rfl := Option.some.inj hs
  obtain ⟨rfl, rfl⟩ := hk
  exact go_zret (ty := .boolean) rfl rfl dX6_isAt_85
noncomputable def fX6_isAt_36b (h : Hp) (x0 : Nat) (x1 : Nat) (x2 : Int32) : Option (Int32 ⊕ Int32) :=
  gT x1 (
  (fJ0_length_8abf5 h x1).bind fun y6 =>
  if y6 ≤ x2 then (
  (fX6_isAt_84 h ).map (fun q => .inr q)) else (
    (gI h 6 x0 4).bind fun v8 =>
    (gI h 6 x0 1).bind fun v9 =>
    if v9 ≤ (v8 + x2) then (
    (fX6_isAt_84 h ).map (fun q => .inr q)) else (
      (gN h 6 x0 0).bind fun v10 =>
      (gI h 6 x0 4).bind fun v11 =>
      (aI 1 h v10 (v11 + x2)).bind fun v12 =>
      gT x1 (
      (fJ0_charAt_5068e h x1 x2).bind fun y13 =>
      if v12 = y13 then (
        some (.inl (x2 + Int32.ofInt 1))) else (
        some (.inr (0 : Int32)))))))
noncomputable def fX6_isAt_36 (h : Hp) (x0 : Nat) (x1 : Nat) (x2 : Int32) : Option Int32 := lpw (σ := Int32) (fun s => fX6_isAt_36b h x0 x1 s) x2
theorem oX6_isAt_36b {d : Nat} (hd : 3 ≤ d) {h : Hp} {x0 : Nat} {x1 : Nat} {x2 : Int32} {rf : Option Value} {hf : Hp} {x : (Int32 ⊕ Int32)} (hs : fX6_isAt_36b h x0 x1 x2 = some x) (hk : (Kx (pX6_isAt_36 d h x0 x1 rf hf) (kX6_isAt h rf hf)) x) : Go d mX6_isAt 36 [some (.ref x0), some (.ref x1), some (.int x2)] [] h rf hf := by
  unfold fX6_isAt_36b at hs
  refine go_iload_n (k4 := 2) rfl dX6_isAt_36 ?_
  refine go_aload_n (k4 := 1) rfl (Or.inr ⟨_, rfl⟩) dX6_isAt_37 ?_
  obtain ⟨g7, hs⟩ := gT_at hs
  obtain ⟨y6, ey6, hs⟩ := bindS hs
  refine go_T1 (As := []) (st := [.int x2]) g7 rfl (oJ0_length_8abf5 (d := d - 1) (by omega) ey6) (by omega) mb_J0_length_8abf5 lm_RX6_52 mi_J0_length_8abf5 (Nat.le_of_ble_eq_true rfl) rfl dX6_isAt_38 ?_
  refine go_icmp_ge (tgt := 84) (by decide) dX6_isAt_41 (fun c => ?_) (fun c => ?_)
  · have hs := if_t c hs
    obtain ⟨q, hs2, hq⟩ := mapS hs
    clear hs
    subst hq
    exact go_subL (L' := [none, none, none]) (by simp [subL, va_rf]) (oX6_isAt_84 hd hs2 hk)
  · have hs := if_f c hs
    refine go_aload_n (k4 := 0) rfl (Or.inr ⟨_, rfl⟩) dX6_isAt_44 ?_
    obtain ⟨v8, ev8, hs⟩ := bindS hs
    refine go_gI fl_RX6_23 ev8 dX6_isAt_45 ?_
    refine go_iload_n (k4 := 2) rfl dX6_isAt_48 ?_
    refine go_iadd dX6_isAt_49 ?_
    refine go_aload_n (k4 := 0) rfl (Or.inr ⟨_, rfl⟩) dX6_isAt_50 ?_
    obtain ⟨v9, ev9, hs⟩ := bindS hs
    refine go_gI fl_RX6_13 ev9 dX6_isAt_51 ?_
    refine go_icmp_ge (tgt := 84) (by decide) dX6_isAt_54 (fun c => ?_) (fun c => ?_)
    · have hs := if_t c hs
      obtain ⟨q, hs2, hq⟩ := mapS hs
      clear hs
      subst hq
      exact go_subL (L' := [none, none, none]) (by simp [subL, va_rf]) (oX6_isAt_84 hd hs2 hk)
    · have hs := if_f c hs
      refine go_aload_n (k4 := 0) rfl (Or.inr ⟨_, rfl⟩) dX6_isAt_57 ?_
      obtain ⟨v10, ev10, hs⟩ := bindS hs
      refine go_gN fl_RX6_7 ev10 dX6_isAt_58 ?_
      refine go_aload_n (k4 := 0) rfl (Or.inr ⟨_, rfl⟩) dX6_isAt_61 ?_
      obtain ⟨v11, ev11, hs⟩ := bindS hs
      refine go_gI fl_RX6_23 ev11 dX6_isAt_62 ?_
      refine go_iload_n (k4 := 2) rfl dX6_isAt_65 ?_
      refine go_iadd dX6_isAt_66 ?_
      obtain ⟨v12, ev12, hs⟩ := bindS hs
      refine go_aIb ev12 dX6_isAt_67 ?_
      refine go_at 68 rfl ?_
      refine go_aload_n (k4 := 1) rfl (Or.inr ⟨_, rfl⟩) dX6_isAt_68 ?_
      refine go_iload_n (k4 := 2) rfl dX6_isAt_69 ?_
      obtain ⟨g14, hs⟩ := gT_at hs
      obtain ⟨y13, ey13, hs⟩ := bindS hs
      refine go_T1 (As := [.int x2]) (st := [.int v12]) g14 rfl (oJ0_charAt_5068e (d := d - 1) (by omega) ey13) (by omega) mb_J0_charAt_5068e lm_RX6_55 mi_J0_charAt_5068e (Nat.le_of_ble_eq_true rfl) rfl dX6_isAt_70 ?_
      refine go_icmp_eq (tgt := 78) (by decide) dX6_isAt_73 (fun c => ?_) (fun c => ?_)
      · have hs := if_t c hs
        refine go_iinc (L' := [some (.ref x0), some (.ref x1), some (.int (x2 + Int32.ofInt 1))]) rfl (by decide) rfl rfl dX6_isAt_78 ?_
        refine go_goto (tgt := 36) (by decide) dX6_isAt_81 ?_
        obtain rfl := Option.some.inj hs
        exact go_subL (L' := [some (.ref x0), some (.ref x1), some (.int (x2 + Int32.ofInt 1))]) (by simp [subL, va_rf]) hk
      · have hs := if_f c hs
        refine go_iconst (v := 0) (by decide) dX6_isAt_76 ?_
        obtain rfl := Option.some.inj hs
        obtain ⟨rfl, rfl⟩ := hk
        exact go_zret (ty := .boolean) rfl rfl dX6_isAt_77
theorem oX6_isAt_36 {d : Nat} (hd : 3 ≤ d) {h : Hp} {x0 : Nat} {x1 : Nat} {x2 : Int32} {rf : Option Value} {hf : Hp} {x : Int32} (hs : fX6_isAt_36 h x0 x1 x2 = some x) (hk : (kX6_isAt h rf hf) x) : Go d mX6_isAt 36 [some (.ref x0), some (.ref x1), some (.int x2)] [] h rf hf := by
  unfold fX6_isAt_36 at hs
  exact lpw_go (P := pX6_isAt_36 d h x0 x1 rf hf) (fun s x hs hk => oX6_isAt_36b hd hs hk) x2 x hs hk
noncomputable def fX6_isAt_32 (h : Hp)  : Option Int32 :=
  some ((0 : Int32))
theorem oX6_isAt_32 {d : Nat} (hd : 3 ≤ d) {h : Hp} {rf : Option Value} {hf : Hp} {x : Int32} (hs : fX6_isAt_32 h  = some x) (hk : (kX6_isAt h rf hf) x) : Go d mX6_isAt 32 [none, none, none] [] h rf hf := by
  unfold fX6_isAt_32 at hs
  refine go_iconst (v := 0) (by decide) dX6_isAt_32 ?_
  obtain rfl := Option.some.inj hs
  obtain ⟨rfl, rfl⟩ := hk
  exact go_zret (ty := .boolean) rfl rfl dX6_isAt_33
noncomputable def fX6_isAt_16 (h : Hp) (x0 : Nat) (x1 : Nat) : Option Int32 :=
  gT x1 (
  (fJ0_length_8abf5 h x1).bind fun y2 =>
  (gI h 6 x0 2).bind fun v4 =>
  (gI h 6 x0 4).bind fun v5 =>
  if y2 = (v4 - v5) then (
    fX6_isAt_36 h x0 x1 (0 : Int32)) else (
  fX6_isAt_32 h ))
theorem oX6_isAt_16 {d : Nat} (hd : 3 ≤ d) {h : Hp} {x0 : Nat} {x1 : Nat} {rf : Option Value} {hf : Hp} {x : Int32} (hs : fX6_isAt_16 h x0 x1 = some x) (hk : (kX6_isAt h rf hf) x) : Go d mX6_isAt 16 [some (.ref x0), some (.ref x1), none] [] h rf hf := by
  unfold fX6_isAt_16 at hs
  refine go_aload_n (k4 := 1) rfl (Or.inr ⟨_, rfl⟩) dX6_isAt_16 ?_
  obtain ⟨g3, hs⟩ := gT_at hs
  obtain ⟨y2, ey2, hs⟩ := bindS hs
  refine go_T1 (As := []) (st := []) g3 rfl (oJ0_length_8abf5 (d := d - 1) (by omega) ey2) (by omega) mb_J0_length_8abf5 lm_RX6_52 mi_J0_length_8abf5 (Nat.le_of_ble_eq_true rfl) rfl dX6_isAt_17 ?_
  refine go_aload_n (k4 := 0) rfl (Or.inr ⟨_, rfl⟩) dX6_isAt_20 ?_
  obtain ⟨v4, ev4, hs⟩ := bindS hs
  refine go_gI fl_RX6_17 ev4 dX6_isAt_21 ?_
  refine go_aload_n (k4 := 0) rfl (Or.inr ⟨_, rfl⟩) dX6_isAt_24 ?_
  obtain ⟨v5, ev5, hs⟩ := bindS hs
  refine go_gI fl_RX6_23 ev5 dX6_isAt_25 ?_
  refine go_isub dX6_isAt_28 ?_
  refine go_at 29 rfl ?_
  refine go_icmp_eq (tgt := 34) (by decide) dX6_isAt_29 (fun c => ?_) (fun c => ?_)
  · have hs := if_t c hs
    refine go_iconst (v := 0) (by decide) dX6_isAt_34 ?_
    refine go_istore_n (k4 := 2) (L' := [some (.ref x0), some (.ref x1), some (.int (0 : Int32))]) (by decide) rfl dX6_isAt_35 ?_
    exact go_subL (L' := [some (.ref x0), some (.ref x1), some (.int (0 : Int32))]) (by simp [subL, va_rf]) (oX6_isAt_36 hd hs hk)
  · have hs := if_f c hs
    exact go_subL (L' := [none, none, none]) (by simp [subL, va_rf]) (oX6_isAt_32 hd hs hk)
noncomputable def fX6_isAt (h : Hp) (x0 : Nat) (x1 : Nat) : Option Int32 :=
  (gI h 6 x0 3).bind fun v1 =>
  if v1 = (1 : Int32) then (
  fX6_isAt_16 h x0 x1) else (
    (gI h 6 x0 3).bind fun v15 =>
    if v15 = (3 : Int32) then (
    fX6_isAt_16 h x0 x1) else (
    fX6_isAt_32 h ))
theorem oX6_isAt_0 {d : Nat} (hd : 3 ≤ d) {h : Hp} {x0 : Nat} {x1 : Nat} {rf : Option Value} {hf : Hp} {x : Int32} (hs : fX6_isAt h x0 x1 = some x) (hk : (kX6_isAt h rf hf) x) : Go d mX6_isAt 0 [some (.ref x0), some (.ref x1), none] [] h rf hf := by
  unfold fX6_isAt at hs
  refine go_aload_n (k4 := 0) rfl (Or.inr ⟨_, rfl⟩) dX6_isAt_0 ?_
  obtain ⟨v1, ev1, hs⟩ := bindS hs
  refine go_gI fl_RX6_20 ev1 dX6_isAt_1 ?_
  refine go_iconst (v := 1) (by decide) dX6_isAt_4 ?_
  refine go_icmp_eq (tgt := 16) (by decide) dX6_isAt_5 (fun c => ?_) (fun c => ?_)
  · have hs := if_t c hs
    exact go_subL (L' := [some (.ref x0), some (.ref x1), none]) (by simp [subL, va_rf]) (oX6_isAt_16 hd hs hk)
  · have hs := if_f c hs
    refine go_aload_n (k4 := 0) rfl (Or.inr ⟨_, rfl⟩) dX6_isAt_8 ?_
    obtain ⟨v15, ev15, hs⟩ := bindS hs
    refine go_gI fl_RX6_20 ev15 dX6_isAt_9 ?_
    refine go_iconst (v := 3) (by decide) dX6_isAt_12 ?_
    refine go_icmp_ne (tgt := 32) (by decide) dX6_isAt_13 (fun c => ?_) (fun c => ?_)
    · have hs := if_f c hs
      exact go_subL (L' := [none, none, none]) (by simp [subL, va_rf]) (oX6_isAt_32 hd hs hk)
    · have hs := if_t c hs
      exact go_subL (L' := [some (.ref x0), some (.ref x1), none]) (by simp [subL, va_rf]) (oX6_isAt_16 hd hs hk)
theorem oX6_isAt {d : Nat} (hd : 3 ≤ d) {h : Hp} {x0 : Nat} {x1 : Nat} {y : Int32} (hs : fX6_isAt h x0 x1 = some y) : Call d mX6_isAt [.ref x0, .ref x1] h (some (.int y)) h := call_of (by decide +kernel) (Nat.le_of_ble_eq_true rfl) (show Go d mX6_isAt 0 [some (.ref x0), some (.ref x1), none] [] h _ _ from go_subL (by simp [subL]) (oX6_isAt_0 hd hs ⟨rfl, rfl⟩))
abbrev kX4_refuse (rf : Option Value) (hf : Hp) : (Int32 × Hp) → Prop := fun y => rf = some (.int y.1) ∧ hf = y.2
noncomputable def fX4_refuse_17 (h : Hp) (x0 : Nat) (s0 : Nat) (s1 : Int32) : Option (Int32 × Hp) :=
  (sV h 4 s0 5 (.int s1)).bind fun h3 =>
  (gN h3 4 x0 0).bind fun v4 =>
  (gI h3 6 v4 4).bind fun v5 =>
  (sV h3 4 x0 6 (.int v5)).bind fun h6 =>
  some (((0 : Int32), h6))
theorem oX4_refuse_17 {d : Nat} (hd : 0 ≤ d) {h : Hp} {x0 : Nat} {s0 : Nat} {s1 : Int32} {rf : Option Value} {hf : Hp} {x : (Int32 × Hp)} (hs : fX4_refuse_17 h x0 s0 s1 = some x) (hk : (kX4_refuse rf hf) x) : Go d mX4_refuse 17 [some (.ref x0), none] [.int s1, .ref s0] h rf hf := by
  unfold fX4_refuse_17 at hs
  obtain ⟨h3, eh3, hs⟩ := bindS hs
  refine go_sV fw_RX4_33 eh3 rfl rfl dX4_refuse_17 ?_
  refine go_aload_n (k4 := 0) rfl (Or.inr ⟨_, rfl⟩) dX4_refuse_20 ?_
  refine go_aload_n (k4 := 0) rfl (Or.inr ⟨_, rfl⟩) dX4_refuse_21 ?_
  obtain ⟨v4, ev4, hs⟩ := bindS hs
  refine go_gN fl_RX4_12 ev4 dX4_refuse_22 ?_
  obtain ⟨v5, ev5, hs⟩ := bindS hs
  refine go_gI fl_RX4_89 ev5 dX4_refuse_25 ?_
  obtain ⟨h6, eh6, hs⟩ := bindS hs
  refine go_sV fw_RX4_36 eh6 rfl rfl dX4_refuse_28 ?_
  refine go_iconst (v := 0) (by decide) dX4_refuse_31 ?_
  refine go_at 32 rfl ?_
  obtain rfl := Option.some.inj hs
  obtain ⟨rfl, rfl⟩ := hk
  exact go_zret (ty := .boolean) rfl rfl dX4_refuse_32
noncomputable def fX4_refuse (h : Hp) (x0 : Nat) (x1 : Int32) : Option (Int32 × Hp) :=
  (gN h 4 x0 0).bind fun v1 =>
  (gI h 6 v1 3).bind fun v2 =>
  if v2 = (4 : Int32) then (
    fX4_refuse_17 h x0 x0 (1 : Int32)) else (
    fX4_refuse_17 h x0 x0 x1)
theorem oX4_refuse_0 {d : Nat} (hd : 0 ≤ d) {h : Hp} {x0 : Nat} {x1 : Int32} {rf : Option Value} {hf : Hp} {x : (Int32 × Hp)} (hs : fX4_refuse h x0 x1 = some x) (hk : (kX4_refuse rf hf) x) : Go d mX4_refuse 0 [some (.ref x0), some (.int x1)] [] h rf hf := by
  unfold fX4_refuse at hs
  refine go_aload_n (k4 := 0) rfl (Or.inr ⟨_, rfl⟩) dX4_refuse_0 ?_
  refine go_aload_n (k4 := 0) rfl (Or.inr ⟨_, rfl⟩) dX4_refuse_1 ?_
  obtain ⟨v1, ev1, hs⟩ := bindS hs
  refine go_gN fl_RX4_12 ev1 dX4_refuse_2 ?_
  obtain ⟨v2, ev2, hs⟩ := bindS hs
  refine go_gI fl_RX4_78 ev2 dX4_refuse_5 ?_
  refine go_iconst (v := 4) (by decide) dX4_refuse_8 ?_
  refine go_icmp_ne (tgt := 16) (by decide) dX4_refuse_9 (fun c => ?_) (fun c => ?_)
  · have hs := if_f c hs
    refine go_iload_n (k4 := 1) rfl dX4_refuse_16 ?_
    exact go_subL (L' := [some (.ref x0), none]) (by simp [subL, va_rf]) (oX4_refuse_17 hd hs hk)
  · have hs := if_t c hs
    refine go_iconst (v := 1) (by decide) dX4_refuse_12 ?_
    refine go_goto (tgt := 17) (by decide) dX4_refuse_13 ?_
    exact go_subL (L' := [some (.ref x0), none]) (by simp [subL, va_rf]) (oX4_refuse_17 hd hs hk)
theorem oX4_refuse {d : Nat} (hd : 0 ≤ d) {h : Hp} {x0 : Nat} {x1 : Int32} {y : (Int32 × Hp)} (hs : fX4_refuse h x0 x1 = some y) : Call d mX4_refuse [.ref x0, .int x1] h (some (.int y.1)) (y.2) := call_of (by decide +kernel) (Nat.le_of_ble_eq_true rfl) (show Go d mX4_refuse 0 [some (.ref x0), some (.int x1)] [] h _ _ from go_subL (by simp [subL]) (oX4_refuse_0 hd hs ⟨rfl, rfl⟩))
abbrev kX4_take (rf : Option Value) (hf : Hp) : (Int32 × Hp) → Prop := fun y => rf = some (.int y.1) ∧ hf = y.2
noncomputable def fX4_take (h : Hp) (x0 : Nat) (x1 : Nat) : Option (Int32 × Hp) :=
  (gN h 4 x0 0).bind fun v1 =>
  gO h 6 v1 (
  (fX6_isAt h v1 x1).bind fun y2 =>
  if y2 = 0 then (
    gO h 4 x0 (
    (fX4_refuse h x0 (2 : Int32)).bind fun y7 =>
    bl y7.1 (some ((y7.1, y7.2))))) else (
    (gN h 4 x0 0).bind fun v4 =>
    gO h 6 v4 (
    (fX6_advance h v4).bind fun y5 =>
    some (((1 : Int32), y5)))))
theorem oX4_take_0 {d : Nat} (hd : 5 ≤ d) {h : Hp} {x0 : Nat} {x1 : Nat} {rf : Option Value} {hf : Hp} {x : (Int32 × Hp)} (hs : fX4_take h x0 x1 = some x) (hk : (kX4_take rf hf) x) : Go d mX4_take 0 [some (.ref x0), some (.ref x1)] [] h rf hf := by
  unfold fX4_take at hs
  refine go_aload_n (k4 := 0) rfl (Or.inr ⟨_, rfl⟩) dX4_take_0 ?_
  obtain ⟨v1, ev1, hs⟩ := bindS hs
  refine go_gN fl_RX4_12 ev1 dX4_take_1 ?_
  refine go_aload_n (k4 := 1) rfl (Or.inr ⟨_, rfl⟩) dX4_take_4 ?_
  obtain ⟨g3, hs⟩ := gO_at hs
  obtain ⟨y2, ey2, hs⟩ := bindS hs
  refine go_V1 (As := [.ref x1]) (st := []) g3 rfl rfl (oX6_isAt (d := d - 1) (by omega) ey2) (by omega) mb_X6_isAt lm_RX4_92 mi_X6_isAt (Nat.le_of_ble_eq_true rfl) rfl dX4_take_5 ?_
  refine go_if_ne (tgt := 17) (by decide) dX4_take_8 (fun c => ?_) (fun c => ?_)
  · have hs := if_f c hs
    refine go_aload_n (k4 := 0) rfl (Or.inr ⟨_, rfl⟩) dX4_take_17 ?_
    obtain ⟨v4, ev4, hs⟩ := bindS hs
    refine go_gN fl_RX4_12 ev4 dX4_take_18 ?_
    obtain ⟨g6, hs⟩ := gO_at hs
    obtain ⟨y5, ey5, hs⟩ := bindS hs
    refine go_V0 (As := []) (st := []) g6 rfl rfl (oX6_advance (d := d - 1) (by omega) ey5) (by omega) mb_X6_advance lm_RX4_100 mi_X6_advance (Nat.le_of_ble_eq_true rfl) rfl dX4_take_21 ?_
    refine go_iconst (v := 1) (by decide) dX4_take_24 ?_
    obtain rfl := Option.some.inj hs
    obtain ⟨rfl, rfl⟩ := hk
    exact go_zret (ty := .boolean) rfl rfl dX4_take_25
  · have hs := if_t c hs
    refine go_aload_n (k4 := 0) rfl (Or.inr ⟨_, rfl⟩) dX4_take_11 ?_
    refine go_iconst (v := 2) (by decide) dX4_take_12 ?_
    obtain ⟨g8, hs⟩ := gO_at hs
    obtain ⟨y7, ey7, hs⟩ := bindS hs
    refine go_V1 (As := [.int (2 : Int32)]) (st := []) g8 rfl rfl (oX4_refuse (d := d - 1) (by omega) ey7) (by omega) mb_X4_refuse lm_RX4_96 mi_X4_refuse (Nat.le_of_ble_eq_true rfl) rfl dX4_take_13 ?_
    obtain ⟨n1, n2, hs⟩ := bl_at hs
    obtain rfl := Option.some.inj hs
    obtain ⟨rfl, rfl⟩ := hk
    exact go_zret (ty := .boolean) rfl n1 dX4_take_16
theorem oX4_take {d : Nat} (hd : 5 ≤ d) {h : Hp} {x0 : Nat} {x1 : Nat} {y : (Int32 × Hp)} (hs : fX4_take h x0 x1 = some y) : Call d mX4_take [.ref x0, .ref x1] h (some (.int y.1)) (y.2) := call_of (by decide +kernel) (Nat.le_of_ble_eq_true rfl) (show Go d mX4_take 0 [some (.ref x0), some (.ref x1)] [] h _ _ from go_subL (by simp [subL]) (oX4_take_0 hd hs ⟨rfl, rfl⟩))
abbrev kX4_takeNumber (rf : Option Value) (hf : Hp) : (Int32 × Hp) → Prop := fun y => rf = some (.int y.1) ∧ hf = y.2
noncomputable def fX4_takeNumber (h : Hp) (x0 : Nat) (x1 : Int32) : Option (Int32 × Hp) :=
  (gN h 4 x0 0).bind fun v1 =>
  (gI h 6 v1 3).bind fun v2 =>
  if v2 = (2 : Int32) then (
    (gN h 4 x0 0).bind fun v3 =>
    (gI h 6 v3 5).bind fun v4 =>
    if v4 ≤ x1 then (
      (gN h 4 x0 0).bind fun v5 =>
      (gI h 6 v5 5).bind fun v6 =>
      (sV h 4 x0 4 (.int v6)).bind fun h7 =>
      (gN h7 4 x0 0).bind fun v8 =>
      gO h7 6 v8 (
      (fX6_advance h7 v8).bind fun y9 =>
      some (((1 : Int32), y9)))) else (
      gO h 4 x0 (
      (fX4_refuse h x0 (3 : Int32)).bind fun y11 =>
      bl y11.1 (some ((y11.1, y11.2)))))) else (
    gO h 4 x0 (
    (fX4_refuse h x0 (2 : Int32)).bind fun y13 =>
    bl y13.1 (some ((y13.1, y13.2)))))
theorem oX4_takeNumber_0 {d : Nat} (hd : 5 ≤ d) {h : Hp} {x0 : Nat} {x1 : Int32} {rf : Option Value} {hf : Hp} {x : (Int32 × Hp)} (hs : fX4_takeNumber h x0 x1 = some x) (hk : (kX4_takeNumber rf hf) x) : Go d mX4_takeNumber 0 [some (.ref x0), some (.int x1)] [] h rf hf := by
  unfold fX4_takeNumber at hs
  refine go_aload_n (k4 := 0) rfl (Or.inr ⟨_, rfl⟩) dX4_takeNumber_0 ?_
  obtain ⟨v1, ev1, hs⟩ := bindS hs
  refine go_gN fl_RX4_12 ev1 dX4_takeNumber_1 ?_
  obtain ⟨v2, ev2, hs⟩ := bindS hs
  refine go_gI fl_RX4_78 ev2 dX4_takeNumber_4 ?_
  refine go_iconst (v := 2) (by decide) dX4_takeNumber_7 ?_
  refine go_icmp_eq (tgt := 17) (by decide) dX4_takeNumber_8 (fun c => ?_) (fun c => ?_)
  · have hs := if_t c hs
    refine go_aload_n (k4 := 0) rfl (Or.inr ⟨_, rfl⟩) dX4_takeNumber_17 ?_
    obtain ⟨v3, ev3, hs⟩ := bindS hs
    refine go_gN fl_RX4_12 ev3 dX4_takeNumber_18 ?_
    obtain ⟨v4, ev4, hs⟩ := bindS hs
    refine go_gI fl_RX4_103 ev4 dX4_takeNumber_21 ?_
    refine go_iload_n (k4 := 1) rfl dX4_takeNumber_24 ?_
    refine go_icmp_le (tgt := 34) (by decide) dX4_takeNumber_25 (fun c => ?_) (fun c => ?_)
    · have hs := if_t c hs
      refine go_aload_n (k4 := 0) rfl (Or.inr ⟨_, rfl⟩) dX4_takeNumber_34 ?_
      refine go_aload_n (k4 := 0) rfl (Or.inr ⟨_, rfl⟩) dX4_takeNumber_35 ?_
      obtain ⟨v5, ev5, hs⟩ := bindS hs
      refine go_gN fl_RX4_12 ev5 dX4_takeNumber_36 ?_
      obtain ⟨v6, ev6, hs⟩ := bindS hs
      refine go_gI fl_RX4_103 ev6 dX4_takeNumber_39 ?_
      obtain ⟨h7, eh7, hs⟩ := bindS hs
      refine go_sV fw_RX4_30 eh7 rfl rfl dX4_takeNumber_42 ?_
      refine go_aload_n (k4 := 0) rfl (Or.inr ⟨_, rfl⟩) dX4_takeNumber_45 ?_
      obtain ⟨v8, ev8, hs⟩ := bindS hs
      refine go_gN fl_RX4_12 ev8 dX4_takeNumber_46 ?_
      refine go_at 49 rfl ?_
      obtain ⟨g10, hs⟩ := gO_at hs
      obtain ⟨y9, ey9, hs⟩ := bindS hs
      refine go_V0 (As := []) (st := []) g10 rfl rfl (oX6_advance (d := d - 1) (by omega) ey9) (by omega) mb_X6_advance lm_RX4_100 mi_X6_advance (Nat.le_of_ble_eq_true rfl) rfl dX4_takeNumber_49 ?_
      refine go_iconst (v := 1) (by decide) dX4_takeNumber_52 ?_
      obtain rfl := Option.some.inj hs
      obtain ⟨rfl, rfl⟩ := hk
      exact go_zret (ty := .boolean) rfl rfl dX4_takeNumber_53
    · have hs := if_f c hs
      refine go_aload_n (k4 := 0) rfl (Or.inr ⟨_, rfl⟩) dX4_takeNumber_28 ?_
      refine go_iconst (v := 3) (by decide) dX4_takeNumber_29 ?_
      obtain ⟨g12, hs⟩ := gO_at hs
      obtain ⟨y11, ey11, hs⟩ := bindS hs
      refine go_V1 (As := [.int (3 : Int32)]) (st := []) g12 rfl rfl (oX4_refuse (d := d - 1) (by omega) ey11) (by omega) mb_X4_refuse lm_RX4_96 mi_X4_refuse (Nat.le_of_ble_eq_true rfl) rfl dX4_takeNumber_30 ?_
      obtain ⟨n1, n2, hs⟩ := bl_at hs
      obtain rfl := Option.some.inj hs
      obtain ⟨rfl, rfl⟩ := hk
      exact go_zret (ty := .boolean) rfl n1 dX4_takeNumber_33
  · have hs := if_f c hs
    refine go_aload_n (k4 := 0) rfl (Or.inr ⟨_, rfl⟩) dX4_takeNumber_11 ?_
    refine go_iconst (v := 2) (by decide) dX4_takeNumber_12 ?_
    obtain ⟨g14, hs⟩ := gO_at hs
    obtain ⟨y13, ey13, hs⟩ := bindS hs
    refine go_V1 (As := [.int (2 : Int32)]) (st := []) g14 rfl rfl (oX4_refuse (d := d - 1) (by omega) ey13) (by omega) mb_X4_refuse lm_RX4_96 mi_X4_refuse (Nat.le_of_ble_eq_true rfl) rfl dX4_takeNumber_13 ?_
    obtain ⟨n1, n2, hs⟩ := bl_at hs
    obtain rfl := Option.some.inj hs
    obtain ⟨rfl, rfl⟩ := hk
    exact go_zret (ty := .boolean) rfl n1 dX4_takeNumber_16
theorem oX4_takeNumber {d : Nat} (hd : 5 ≤ d) {h : Hp} {x0 : Nat} {x1 : Int32} {y : (Int32 × Hp)} (hs : fX4_takeNumber h x0 x1 = some y) : Call d mX4_takeNumber [.ref x0, .int x1] h (some (.int y.1)) (y.2) := call_of (by decide +kernel) (Nat.le_of_ble_eq_true rfl) (show Go d mX4_takeNumber 0 [some (.ref x0), some (.int x1)] [] h _ _ from go_subL (by simp [subL]) (oX4_takeNumber_0 hd hs ⟨rfl, rfl⟩))
abbrev kX4_tellCave (rf : Option Value) (hf : Hp) : (Int32 × Hp) → Prop := fun y => rf = some (.int y.1) ∧ hf = y.2
noncomputable def fX4_tellCave_26 (h : Hp)  : Option (Int32 × Hp) :=
  some (((0 : Int32), h))
theorem oX4_tellCave_26 {d : Nat} (hd : 6 ≤ d) {h : Hp} {rf : Option Value} {hf : Hp} {x : (Int32 × Hp)} (hs : fX4_tellCave_26 h  = some x) (hk : (kX4_tellCave rf hf) x) : Go d mX4_tellCave 26 [none] [] h rf hf := by
  unfold fX4_tellCave_26 at hs
  refine go_iconst (v := 0) (by decide) dX4_tellCave_26 ?_
  obtain rfl := Option.some.inj hs
  obtain ⟨rfl, rfl⟩ := hk
  exact go_zret (ty := .boolean) rfl rfl dX4_tellCave_27
noncomputable def fX4_tellCave (h : Hp) (x0 : Nat) : Option (Int32 × Hp) :=
  gO h 4 x0 (
  (fX4_take h x0 4).bind fun y1 =>
  if y1.1 = 0 then (
  fX4_tellCave_26 y1.2 ) else (
    gO y1.2 4 x0 (
    (fX4_take y1.2 x0 5).bind fun y3 =>
    if y3.1 = 0 then (
    fX4_tellCave_26 y3.2 ) else (
      gO y3.2 4 x0 (
      (fX4_takeNumber y3.2 x0 (4 : Int32)).bind fun y5 =>
      if y5.1 = 0 then (
      fX4_tellCave_26 y5.2 ) else (
        (gI y5.2 4 x0 4).bind fun v7 =>
        (sV y5.2 4 x0 9 (.int v7)).bind fun h8 =>
        (sV h8 4 x0 7 (.int (1 : Int32))).bind fun h9 =>
        gO h9 4 x0 (
        (fX4_take h9 x0 6).bind fun y10 =>
        bl y10.1 (some ((y10.1, y10.2))))))))))
theorem oX4_tellCave_0 {d : Nat} (hd : 6 ≤ d) {h : Hp} {x0 : Nat} {rf : Option Value} {hf : Hp} {x : (Int32 × Hp)} (hs : fX4_tellCave h x0 = some x) (hk : (kX4_tellCave rf hf) x) : Go d mX4_tellCave 0 [some (.ref x0)] [] h rf hf := by
  unfold fX4_tellCave at hs
  refine go_aload_n (k4 := 0) rfl (Or.inr ⟨_, rfl⟩) dX4_tellCave_0 ?_
  refine go_str (j := 4) ls_RX4_106 dX4_tellCave_1 ?_
  obtain ⟨g2, hs⟩ := gO_at hs
  obtain ⟨y1, ey1, hs⟩ := bindS hs
  refine go_V1 (As := [.ref 4]) (st := []) g2 rfl rfl (oX4_take (d := d - 1) (by omega) ey1) (by omega) mb_X4_take lm_RX4_108 mi_X4_take (Nat.le_of_ble_eq_true rfl) rfl dX4_tellCave_3 ?_
  refine go_if_eq (tgt := 26) (by decide) dX4_tellCave_6 (fun c => ?_) (fun c => ?_)
  · have hs := if_t c hs
    exact go_subL (L' := [none]) (by simp [subL, va_rf]) (oX4_tellCave_26 hd hs hk)
  · have hs := if_f c hs
    refine go_aload_n (k4 := 0) rfl (Or.inr ⟨_, rfl⟩) dX4_tellCave_9 ?_
    refine go_str (j := 5) ls_RX4_111 dX4_tellCave_10 ?_
    obtain ⟨g4, hs⟩ := gO_at hs
    obtain ⟨y3, ey3, hs⟩ := bindS hs
    refine go_V1 (As := [.ref 5]) (st := []) g4 rfl rfl (oX4_take (d := d - 1) (by omega) ey3) (by omega) mb_X4_take lm_RX4_108 mi_X4_take (Nat.le_of_ble_eq_true rfl) rfl dX4_tellCave_12 ?_
    refine go_if_eq (tgt := 26) (by decide) dX4_tellCave_15 (fun c => ?_) (fun c => ?_)
    · have hs := if_t c hs
      exact go_subL (L' := [none]) (by simp [subL, va_rf]) (oX4_tellCave_26 hd hs hk)
    · have hs := if_f c hs
      refine go_aload_n (k4 := 0) rfl (Or.inr ⟨_, rfl⟩) dX4_tellCave_18 ?_
      refine go_iconst (v := 4) (by decide) dX4_tellCave_19 ?_
      obtain ⟨g6, hs⟩ := gO_at hs
      obtain ⟨y5, ey5, hs⟩ := bindS hs
      refine go_V1 (As := [.int (4 : Int32)]) (st := []) g6 rfl rfl (oX4_takeNumber (d := d - 1) (by omega) ey5) (by omega) mb_X4_takeNumber lm_RX4_112 mi_X4_takeNumber (Nat.le_of_ble_eq_true rfl) rfl dX4_tellCave_20 ?_
      refine go_if_ne (tgt := 28) (by decide) dX4_tellCave_23 (fun c => ?_) (fun c => ?_)
      · have hs := if_f c hs
        refine go_aload_n (k4 := 0) rfl (Or.inr ⟨_, rfl⟩) dX4_tellCave_28 ?_
        refine go_aload_n (k4 := 0) rfl (Or.inr ⟨_, rfl⟩) dX4_tellCave_29 ?_
        obtain ⟨v7, ev7, hs⟩ := bindS hs
        refine go_gI fl_RX4_30 ev7 dX4_tellCave_30 ?_
        obtain ⟨h8, eh8, hs⟩ := bindS hs
        refine go_sV fw_RX4_45 eh8 rfl rfl dX4_tellCave_33 ?_
        refine go_aload_n (k4 := 0) rfl (Or.inr ⟨_, rfl⟩) dX4_tellCave_36 ?_
        refine go_iconst (v := 1) (by decide) dX4_tellCave_37 ?_
        obtain ⟨h9, eh9, hs⟩ := bindS hs
        refine go_sV fw_RX4_39 eh9 rfl rfl dX4_tellCave_38 ?_
        refine go_at 41 rfl ?_
        refine go_aload_n (k4 := 0) rfl (Or.inr ⟨_, rfl⟩) dX4_tellCave_41 ?_
        refine go_str (j := 6) ls_RX4_115 dX4_tellCave_42 ?_
        obtain ⟨g11, hs⟩ := gO_at hs
        obtain ⟨y10, ey10, hs⟩ := bindS hs
        refine go_V1 (As := [.ref 6]) (st := []) g11 rfl rfl (oX4_take (d := d - 1) (by omega) ey10) (by omega) mb_X4_take lm_RX4_108 mi_X4_take (Nat.le_of_ble_eq_true rfl) rfl dX4_tellCave_44 ?_
        obtain ⟨n1, n2, hs⟩ := bl_at hs
        obtain rfl := Option.some.inj hs
        obtain ⟨rfl, rfl⟩ := hk
        exact go_zret (ty := .boolean) rfl n1 dX4_tellCave_47
      · have hs := if_t c hs
        exact go_subL (L' := [none]) (by simp [subL, va_rf]) (oX4_tellCave_26 hd hs hk)
theorem oX4_tellCave {d : Nat} (hd : 6 ≤ d) {h : Hp} {x0 : Nat} {y : (Int32 × Hp)} (hs : fX4_tellCave h x0 = some y) : Call d mX4_tellCave [.ref x0] h (some (.int y.1)) (y.2) := call_of (by decide +kernel) (Nat.le_of_ble_eq_true rfl) (show Go d mX4_tellCave 0 [some (.ref x0)] [] h _ _ from go_subL (by simp [subL]) (oX4_tellCave_0 hd hs ⟨rfl, rfl⟩))
abbrev kX4_tellPair (rf : Option Value) (hf : Hp) : (Int32 × Hp) → Prop := fun y => rf = some (.int y.1) ∧ hf = y.2
noncomputable def fX4_tellPair_53 (h : Hp)  : Option (Int32 × Hp) :=
  some (((0 : Int32), h))
theorem oX4_tellPair_53 {d : Nat} (hd : 6 ≤ d) {h : Hp} {rf : Option Value} {hf : Hp} {x : (Int32 × Hp)} (hs : fX4_tellPair_53 h  = some x) (hk : (kX4_tellPair rf hf) x) : Go d mX4_tellPair 53 [none, none, none] [] h rf hf := by
  unfold fX4_tellPair_53 at hs
  refine go_iconst (v := 0) (by decide) dX4_tellPair_53 ?_
  obtain rfl := Option.some.inj hs
  obtain ⟨rfl, rfl⟩ := hk
  exact go_zret (ty := .boolean) rfl rfl dX4_tellPair_54
abbrev pX4_tellPair_81 (d : Nat) (x0 : Nat) (rf : Option Value) (hf : Hp) : (Int32 × Int32 × Hp) → Prop := fun s => Go d mX4_tellPair 81 [some (.ref x0), some (.int s.1), some (.int s.2.1)] [] s.2.2 rf hf
noncomputable def fX4_tellPair_129 (h : Hp) (x0 : Nat) (x1 : Int32) : Option (Int32 × Hp) :=
  (gI h 4 x0 12).bind fun v15 =>
  (gI h 4 x0 8).bind fun v16 =>
  (tT 1 v16).bind fun v17 =>
  (sV h 4 x0 12 (.int (v15 + (x1 * v17)))).bind fun h18 =>
  (gI h18 4 x0 8).bind fun v19 =>
  (sV h18 4 x0 8 (.int (v19 + (1 : Int32)))).bind fun h20 =>
  some (((1 : Int32), h20))
theorem oX4_tellPair_129 {d : Nat} (hd : 6 ≤ d) {h : Hp} {x0 : Nat} {x1 : Int32} {rf : Option Value} {hf : Hp} {x : (Int32 × Hp)} (hs : fX4_tellPair_129 h x0 x1 = some x) (hk : (kX4_tellPair rf hf) x) : Go d mX4_tellPair 129 [some (.ref x0), some (.int x1), none] [] h rf hf := by
  unfold fX4_tellPair_129 at hs
  refine go_aload_n (k4 := 0) rfl (Or.inr ⟨_, rfl⟩) dX4_tellPair_129 ?_
  refine go_dup rfl dX4_tellPair_130 ?_
  obtain ⟨v15, ev15, hs⟩ := bindS hs
  refine go_gI fl_RX4_54 ev15 dX4_tellPair_131 ?_
  refine go_iload_n (k4 := 1) rfl dX4_tellPair_134 ?_
  refine go_statN (j := 1) rfl lz_RX4_142.1 lz_RX4_142.2.1 lz_RX4_142.2.2 dX4_tellPair_135 ?_
  refine go_aload_n (k4 := 0) rfl (Or.inr ⟨_, rfl⟩) dX4_tellPair_138 ?_
  obtain ⟨v16, ev16, hs⟩ := bindS hs
  refine go_gI fl_RX4_42 ev16 dX4_tellPair_139 ?_
  refine go_at 142 rfl ?_
  obtain ⟨v17, ev17, hs⟩ := bindS hs
  refine go_tT (by decide) ev17 dX4_tellPair_142 ?_
  refine go_imul dX4_tellPair_143 ?_
  refine go_iadd dX4_tellPair_144 ?_
  obtain ⟨h18, eh18, hs⟩ := bindS hs
  refine go_sV fw_RX4_54 eh18 rfl rfl dX4_tellPair_145 ?_
  refine go_aload_n (k4 := 0) rfl (Or.inr ⟨_, rfl⟩) dX4_tellPair_148 ?_
  refine go_dup rfl dX4_tellPair_149 ?_
  obtain ⟨v19, ev19, hs⟩ := bindS hs
  refine go_gI fl_RX4_42 ev19 dX4_tellPair_150 ?_
  refine go_iconst (v := 1) (by decide) dX4_tellPair_153 ?_
  refine go_at 154 rfl ?_
  refine go_iadd dX4_tellPair_154 ?_
  obtain ⟨h20, eh20, hs⟩ := bindS hs
  refine go_sV fw_RX4_42 eh20 rfl rfl dX4_tellPair_155 ?_
  refine go_iconst (v := 1) (by decide) dX4_tellPair_158 ?_
  obtain rfl := Option.some.inj hs
  obtain ⟨rfl, rfl⟩ := hk
  exact go_zret (ty := .boolean) rfl rfl dX4_tellPair_159
noncomputable def fX4_tellPair_81b (h : Hp) (x0 : Nat) (x1 : Int32) (x2 : Int32) : Option ((Int32 × Int32 × Hp) ⊕ (Int32 × Hp)) :=
  if (900 : Int32) ≤ x2 then (
  (fX4_tellPair_129 h x0 x1).map (fun q => .inr q)) else (
    (gN h 4 x0 0).bind fun v21 =>
    gO h 6 v21 (
    (fX6_isAt h v21 9).bind fun y22 =>
    if y22 = 0 then (
    (fX4_tellPair_129 h x0 x1).map (fun q => .inr q)) else (
      (gN h 4 x0 0).bind fun v24 =>
      gO h 6 v24 (
      (fX6_advance h v24).bind fun y25 =>
      gO y25 4 x0 (
      (fX4_takeNumber y25 x0 (9 : Int32)).bind fun y27 =>
      if y27.1 = 0 then (
        some (.inr ((0 : Int32), y27.2))) else (
        (gI y27.2 4 x0 4).bind fun v29 =>
        some (.inl (v29, (x2 + Int32.ofInt 1), y27.2))))))))
noncomputable def fX4_tellPair_81 (h : Hp) (x0 : Nat) (x1 : Int32) (x2 : Int32) : Option (Int32 × Hp) := lpw (σ := (Int32 × Int32 × Hp)) (fun s => fX4_tellPair_81b s.2.2 x0 s.1 s.2.1) (x1, x2, h)
theorem oX4_tellPair_81b {d : Nat} (hd : 6 ≤ d) {h : Hp} {x0 : Nat} {x1 : Int32} {x2 : Int32} {rf : Option Value} {hf : Hp} {x : ((Int32 × Int32 × Hp) ⊕ (Int32 × Hp))} (hs : fX4_tellPair_81b h x0 x1 x2 = some x) (hk : (Kx (pX4_tellPair_81 d x0 rf hf) (kX4_tellPair rf hf)) x) : Go d mX4_tellPair 81 [some (.ref x0), some (.int x1), some (.int x2)] [] h rf hf := by
  unfold fX4_tellPair_81b at hs
  refine go_iload_n (k4 := 2) rfl dX4_tellPair_81 ?_
  refine go_sipush (v := 900) (by decide) dX4_tellPair_82 ?_
  refine go_icmp_ge (tgt := 129) (by decide) dX4_tellPair_85 (fun c => ?_) (fun c => ?_)
  · have hs := if_t c hs
    obtain ⟨q, hs2, hq⟩ := mapS hs
    clear hs
    subst hq
    exact go_subL (L' := [some (.ref x0), some (.int x1), none]) (by simp [subL, va_rf]) (oX4_tellPair_129 hd hs2 hk)
  · have hs := if_f c hs
    refine go_aload_n (k4 := 0) rfl (Or.inr ⟨_, rfl⟩) dX4_tellPair_88 ?_
    obtain ⟨v21, ev21, hs⟩ := bindS hs
    refine go_gN fl_RX4_12 ev21 dX4_tellPair_89 ?_
    refine go_str (j := 9) ls_RX4_145 dX4_tellPair_92 ?_
    obtain ⟨g23, hs⟩ := gO_at hs
    obtain ⟨y22, ey22, hs⟩ := bindS hs
    refine go_V1 (As := [.ref 9]) (st := []) g23 rfl rfl (oX6_isAt (d := d - 1) (by omega) ey22) (by omega) mb_X6_isAt lm_RX4_92 mi_X6_isAt (Nat.le_of_ble_eq_true rfl) rfl dX4_tellPair_94 ?_
    refine go_if_eq (tgt := 129) (by decide) dX4_tellPair_97 (fun c => ?_) (fun c => ?_)
    · have hs := if_t c hs
      obtain ⟨q, hs2, hq⟩ := mapS hs
      clear hs
      subst hq
      exact go_subL (L' := [some (.ref x0), some (.int x1), none]) (by simp [subL, va_rf]) (oX4_tellPair_129 hd hs2 hk)
    · have hs := if_f c hs
      refine go_aload_n (k4 := 0) rfl (Or.inr ⟨_, rfl⟩) dX4_tellPair_100 ?_
      obtain ⟨v24, ev24, hs⟩ := bindS hs
      refine go_gN fl_RX4_12 ev24 dX4_tellPair_101 ?_
      obtain ⟨g26, hs⟩ := gO_at hs
      obtain ⟨y25, ey25, hs⟩ := bindS hs
      refine go_V0 (As := []) (st := []) g26 rfl rfl (oX6_advance (d := d - 1) (by omega) ey25) (by omega) mb_X6_advance lm_RX4_100 mi_X6_advance (Nat.le_of_ble_eq_true rfl) rfl dX4_tellPair_104 ?_
      refine go_aload_n (k4 := 0) rfl (Or.inr ⟨_, rfl⟩) dX4_tellPair_107 ?_
      refine go_bipush (v := 9) (by decide) dX4_tellPair_108 ?_
      obtain ⟨g28, hs⟩ := gO_at hs
      obtain ⟨y27, ey27, hs⟩ := bindS hs
      refine go_V1 (As := [.int (9 : Int32)]) (st := []) g28 rfl rfl (oX4_takeNumber (d := d - 1) (by omega) ey27) (by omega) mb_X4_takeNumber lm_RX4_112 mi_X4_takeNumber (Nat.le_of_ble_eq_true rfl) rfl dX4_tellPair_110 ?_
      refine go_if_ne (tgt := 118) (by decide) dX4_tellPair_113 (fun c => ?_) (fun c => ?_)
      · have hs := if_f c hs
        refine go_aload_n (k4 := 0) rfl (Or.inr ⟨_, rfl⟩) dX4_tellPair_118 ?_
        obtain ⟨v29, ev29, hs⟩ := bindS hs
        refine go_gI fl_RX4_30 ev29 dX4_tellPair_119 ?_
        refine go_istore_n (k4 := 1) (L' := [some (.ref x0), some (.int v29), some (.int x2)]) (by decide) rfl dX4_tellPair_122 ?_
        refine go_iinc (L' := [some (.ref x0), some (.int v29), some (.int (x2 + Int32.ofInt 1))]) rfl (by decide) rfl rfl dX4_tellPair_123 ?_
        refine go_goto (tgt := 81) (by decide) dX4_tellPair_126 ?_
        obtain rfl := Option.some.inj hs
        exact go_subL (L' := [some (.ref x0), some (.int v29), some (.int (x2 + Int32.ofInt 1))]) (by simp [subL, va_rf]) hk
      · have hs := if_t c hs
        refine go_iconst (v := 0) (by decide) dX4_tellPair_116 ?_
        obtain rfl := Option.some.inj hs
        obtain ⟨rfl, rfl⟩ := hk
        exact go_zret (ty := .boolean) rfl rfl dX4_tellPair_117
theorem oX4_tellPair_81 {d : Nat} (hd : 6 ≤ d) {h : Hp} {x0 : Nat} {x1 : Int32} {x2 : Int32} {rf : Option Value} {hf : Hp} {x : (Int32 × Hp)} (hs : fX4_tellPair_81 h x0 x1 x2 = some x) (hk : (kX4_tellPair rf hf) x) : Go d mX4_tellPair 81 [some (.ref x0), some (.int x1), some (.int x2)] [] h rf hf := by
  unfold fX4_tellPair_81 at hs
  exact lpw_go (P := pX4_tellPair_81 d x0 rf hf) (fun s x hs hk => oX4_tellPair_81b hd hs hk) (x1, x2, h) x hs hk
noncomputable def fX4_tellPair (h : Hp) (x0 : Nat) : Option (Int32 × Hp) :=
  (gI h 4 x0 13).bind fun v1 =>
  if v1 = (-1 : Int32) then (
    (gI h 4 x0 8).bind fun v2 =>
    if v2 < (4 : Int32) then (
      (gN h 4 x0 0).bind fun v3 =>
      gO h 6 v3 (
      (fX6_advance h v3).bind fun y4 =>
      gO y4 4 x0 (
      (fX4_take y4 x0 8).bind fun y6 =>
      if y6.1 = 0 then (
      fX4_tellPair_53 y6.2 ) else (
        gO y6.2 4 x0 (
        (fX4_takeNumber y6.2 x0 (9 : Int32)).bind fun y8 =>
        if y8.1 = 0 then (
        fX4_tellPair_53 y8.2 ) else (
          (gI y8.2 4 x0 11).bind fun v10 =>
          (gI y8.2 4 x0 4).bind fun v11 =>
          (gI y8.2 4 x0 8).bind fun v12 =>
          (tT 1 v12).bind fun v13 =>
          (sV y8.2 4 x0 11 (.int (v10 + (v11 * v13)))).bind fun h14 =>
          fX4_tellPair_81 h14 x0 (1 : Int32) (0 : Int32))))))) else (
      gO h 4 x0 (
      (fX4_refuse h x0 (4 : Int32)).bind fun y30 =>
      bl y30.1 (some ((y30.1, y30.2)))))) else (
    gO h 4 x0 (
    (fX4_refuse h x0 (2 : Int32)).bind fun y32 =>
    bl y32.1 (some ((y32.1, y32.2)))))
theorem oX4_tellPair_0 {d : Nat} (hd : 6 ≤ d) {h : Hp} {x0 : Nat} {rf : Option Value} {hf : Hp} {x : (Int32 × Hp)} (hs : fX4_tellPair h x0 = some x) (hk : (kX4_tellPair rf hf) x) : Go d mX4_tellPair 0 [some (.ref x0), none, none] [] h rf hf := by
  unfold fX4_tellPair at hs
  refine go_aload_n (k4 := 0) rfl (Or.inr ⟨_, rfl⟩) dX4_tellPair_0 ?_
  obtain ⟨v1, ev1, hs⟩ := bindS hs
  refine go_gI fl_RX4_57 ev1 dX4_tellPair_1 ?_
  refine go_iconst (v := -1) (by decide) dX4_tellPair_4 ?_
  refine go_icmp_eq (tgt := 14) (by decide) dX4_tellPair_5 (fun c => ?_) (fun c => ?_)
  · have hs := if_t c hs
    refine go_aload_n (k4 := 0) rfl (Or.inr ⟨_, rfl⟩) dX4_tellPair_14 ?_
    obtain ⟨v2, ev2, hs⟩ := bindS hs
    refine go_gI fl_RX4_42 ev2 dX4_tellPair_15 ?_
    refine go_iconst (v := 4) (by decide) dX4_tellPair_18 ?_
    refine go_icmp_lt (tgt := 28) (by decide) dX4_tellPair_19 (fun c => ?_) (fun c => ?_)
    · have hs := if_t c hs
      refine go_aload_n (k4 := 0) rfl (Or.inr ⟨_, rfl⟩) dX4_tellPair_28 ?_
      obtain ⟨v3, ev3, hs⟩ := bindS hs
      refine go_gN fl_RX4_12 ev3 dX4_tellPair_29 ?_
      obtain ⟨g5, hs⟩ := gO_at hs
      obtain ⟨y4, ey4, hs⟩ := bindS hs
      refine go_V0 (As := []) (st := []) g5 rfl rfl (oX6_advance (d := d - 1) (by omega) ey4) (by omega) mb_X6_advance lm_RX4_100 mi_X6_advance (Nat.le_of_ble_eq_true rfl) rfl dX4_tellPair_32 ?_
      refine go_aload_n (k4 := 0) rfl (Or.inr ⟨_, rfl⟩) dX4_tellPair_35 ?_
      refine go_str (j := 8) ls_RX4_140 dX4_tellPair_36 ?_
      obtain ⟨g7, hs⟩ := gO_at hs
      obtain ⟨y6, ey6, hs⟩ := bindS hs
      refine go_V1 (As := [.ref 8]) (st := []) g7 rfl rfl (oX4_take (d := d - 1) (by omega) ey6) (by omega) mb_X4_take lm_RX4_108 mi_X4_take (Nat.le_of_ble_eq_true rfl) rfl dX4_tellPair_38 ?_
      refine go_if_eq (tgt := 53) (by decide) dX4_tellPair_41 (fun c => ?_) (fun c => ?_)
      · have hs := if_t c hs
        exact go_subL (L' := [none, none, none]) (by simp [subL, va_rf]) (oX4_tellPair_53 hd hs hk)
      · have hs := if_f c hs
        refine go_aload_n (k4 := 0) rfl (Or.inr ⟨_, rfl⟩) dX4_tellPair_44 ?_
        refine go_bipush (v := 9) (by decide) dX4_tellPair_45 ?_
        obtain ⟨g9, hs⟩ := gO_at hs
        obtain ⟨y8, ey8, hs⟩ := bindS hs
        refine go_V1 (As := [.int (9 : Int32)]) (st := []) g9 rfl rfl (oX4_takeNumber (d := d - 1) (by omega) ey8) (by omega) mb_X4_takeNumber lm_RX4_112 mi_X4_takeNumber (Nat.le_of_ble_eq_true rfl) rfl dX4_tellPair_47 ?_
        refine go_if_ne (tgt := 55) (by decide) dX4_tellPair_50 (fun c => ?_) (fun c => ?_)
        · have hs := if_f c hs
          refine go_aload_n (k4 := 0) rfl (Or.inr ⟨_, rfl⟩) dX4_tellPair_55 ?_
          refine go_dup rfl dX4_tellPair_56 ?_
          obtain ⟨v10, ev10, hs⟩ := bindS hs
          refine go_gI fl_RX4_51 ev10 dX4_tellPair_57 ?_
          refine go_aload_n (k4 := 0) rfl (Or.inr ⟨_, rfl⟩) dX4_tellPair_60 ?_
          obtain ⟨v11, ev11, hs⟩ := bindS hs
          refine go_gI fl_RX4_30 ev11 dX4_tellPair_61 ?_
          refine go_statN (j := 1) rfl lz_RX4_142.1 lz_RX4_142.2.1 lz_RX4_142.2.2 dX4_tellPair_64 ?_
          refine go_aload_n (k4 := 0) rfl (Or.inr ⟨_, rfl⟩) dX4_tellPair_67 ?_
          refine go_at 68 rfl ?_
          obtain ⟨v12, ev12, hs⟩ := bindS hs
          refine go_gI fl_RX4_42 ev12 dX4_tellPair_68 ?_
          obtain ⟨v13, ev13, hs⟩ := bindS hs
          refine go_tT (by decide) ev13 dX4_tellPair_71 ?_
          refine go_imul dX4_tellPair_72 ?_
          refine go_iadd dX4_tellPair_73 ?_
          obtain ⟨h14, eh14, hs⟩ := bindS hs
          refine go_sV fw_RX4_51 eh14 rfl rfl dX4_tellPair_74 ?_
          refine go_iconst (v := 1) (by decide) dX4_tellPair_77 ?_
          refine go_istore_n (k4 := 1) (L' := [some (.ref x0), some (.int (1 : Int32)), none]) (by decide) rfl dX4_tellPair_78 ?_
          refine go_iconst (v := 0) (by decide) dX4_tellPair_79 ?_
          refine go_at 80 rfl ?_
          refine go_istore_n (k4 := 2) (L' := [some (.ref x0), some (.int (1 : Int32)), some (.int (0 : Int32))]) (by decide) rfl dX4_tellPair_80 ?_
          exact go_subL (L' := [some (.ref x0), some (.int (1 : Int32)), some (.int (0 : Int32))]) (by simp [subL, va_rf]) (oX4_tellPair_81 hd hs hk)
        · have hs := if_t c hs
          exact go_subL (L' := [none, none, none]) (by simp [subL, va_rf]) (oX4_tellPair_53 hd hs hk)
    · have hs := if_f c hs
      refine go_aload_n (k4 := 0) rfl (Or.inr ⟨_, rfl⟩) dX4_tellPair_22 ?_
      refine go_iconst (v := 4) (by decide) dX4_tellPair_23 ?_
      obtain ⟨g31, hs⟩ := gO_at hs
      obtain ⟨y30, ey30, hs⟩ := bindS hs
      refine go_V1 (As := [.int (4 : Int32)]) (st := []) g31 rfl rfl (oX4_refuse (d := d - 1) (by omega) ey30) (by omega) mb_X4_refuse lm_RX4_96 mi_X4_refuse (Nat.le_of_ble_eq_true rfl) rfl dX4_tellPair_24 ?_
      obtain ⟨n1, n2, hs⟩ := bl_at hs
      obtain rfl := Option.some.inj hs
      obtain ⟨rfl, rfl⟩ := hk
      exact go_zret (ty := .boolean) rfl n1 dX4_tellPair_27
  · have hs := if_f c hs
    refine go_aload_n (k4 := 0) rfl (Or.inr ⟨_, rfl⟩) dX4_tellPair_8 ?_
    refine go_iconst (v := 2) (by decide) dX4_tellPair_9 ?_
    obtain ⟨g33, hs⟩ := gO_at hs
    obtain ⟨y32, ey32, hs⟩ := bindS hs
    refine go_V1 (As := [.int (2 : Int32)]) (st := []) g33 rfl rfl (oX4_refuse (d := d - 1) (by omega) ey32) (by omega) mb_X4_refuse lm_RX4_96 mi_X4_refuse (Nat.le_of_ble_eq_true rfl) rfl dX4_tellPair_10 ?_
    obtain ⟨n1, n2, hs⟩ := bl_at hs
    obtain rfl := Option.some.inj hs
    obtain ⟨rfl, rfl⟩ := hk
    exact go_zret (ty := .boolean) rfl n1 dX4_tellPair_13
theorem oX4_tellPair {d : Nat} (hd : 6 ≤ d) {h : Hp} {x0 : Nat} {y : (Int32 × Hp)} (hs : fX4_tellPair h x0 = some y) : Call d mX4_tellPair [.ref x0] h (some (.int y.1)) (y.2) := call_of (by decide +kernel) (Nat.le_of_ble_eq_true rfl) (show Go d mX4_tellPair 0 [some (.ref x0), none, none] [] h _ _ from go_subL (by simp [subL]) (oX4_tellPair_0 hd hs ⟨rfl, rfl⟩))
abbrev kX4_tellLead (rf : Option Value) (hf : Hp) : (Int32 × Hp) → Prop := fun y => rf = some (.int y.1) ∧ hf = y.2
abbrev pX4_tellLead_26 (d : Nat) (x0 : Nat) (rf : Option Value) (hf : Hp) : (Int32 × Int32 × Int32 × Hp) → Prop := fun s => Go d mX4_tellLead 26 [some (.ref x0), some (.int s.1), some (.int s.2.1), some (.int s.2.2.1), none] [] s.2.2.2 rf hf
noncomputable def fX4_tellLead_135 (h : Hp) (x0 : Nat) (x2 : Int32) : Option (Int32 × Hp) :=
  (sV h 4 x0 13 (.int x2)).bind fun h6 =>
  some (((1 : Int32), h6))
theorem oX4_tellLead_135 {d : Nat} (hd : 6 ≤ d) {h : Hp} {x0 : Nat} {x2 : Int32} {rf : Option Value} {hf : Hp} {x : (Int32 × Hp)} (hs : fX4_tellLead_135 h x0 x2 = some x) (hk : (kX4_tellLead rf hf) x) : Go d mX4_tellLead 135 [some (.ref x0), none, some (.int x2), none, none] [] h rf hf := by
  unfold fX4_tellLead_135 at hs
  refine go_aload_n (k4 := 0) rfl (Or.inr ⟨_, rfl⟩) dX4_tellLead_135 ?_
  refine go_iload_n (k4 := 2) rfl dX4_tellLead_136 ?_
  obtain ⟨h6, eh6, hs⟩ := bindS hs
  refine go_sV fw_RX4_57 eh6 rfl rfl dX4_tellLead_137 ?_
  refine go_iconst (v := 1) (by decide) dX4_tellLead_140 ?_
  obtain rfl := Option.some.inj hs
  obtain ⟨rfl, rfl⟩ := hk
  exact go_zret (ty := .boolean) rfl rfl dX4_tellLead_141
noncomputable def fX4_tellLead_94 (h : Hp) (x0 : Nat) (x1 : Int32) (x2 : Int32) (x3 : Int32) : Option ((Int32 × Int32 × Int32 × Hp) ⊕ (Int32 × Hp)) :=
  (gI h 4 x0 9).bind fun v8 =>
  gO h 4 x0 (
  (fX4_takeNumber h x0 (v8 - x1)).bind fun y9 =>
  if y9.1 = 0 then (
    some (.inr ((0 : Int32), y9.2))) else (
    (gI y9.2 4 x0 4).bind fun v11 =>
    (gI y9.2 4 x0 4).bind fun v12 =>
    (tT 2 x3).bind fun v13 =>
    some (.inl ((x1 + v11), (x2 + (v12 * v13)), (x3 + Int32.ofInt 1), y9.2))))
theorem oX4_tellLead_94 {d : Nat} (hd : 6 ≤ d) {h : Hp} {x0 : Nat} {x1 : Int32} {x2 : Int32} {x3 : Int32} {rf : Option Value} {hf : Hp} {x : ((Int32 × Int32 × Int32 × Hp) ⊕ (Int32 × Hp))} (hs : fX4_tellLead_94 h x0 x1 x2 x3 = some x) (hk : (Kx (pX4_tellLead_26 d x0 rf hf) (kX4_tellLead rf hf)) x) : Go d mX4_tellLead 94 [some (.ref x0), some (.int x1), some (.int x2), some (.int x3), none] [] h rf hf := by
  unfold fX4_tellLead_94 at hs
  refine go_aload_n (k4 := 0) rfl (Or.inr ⟨_, rfl⟩) dX4_tellLead_94 ?_
  refine go_aload_n (k4 := 0) rfl (Or.inr ⟨_, rfl⟩) dX4_tellLead_95 ?_
  obtain ⟨v8, ev8, hs⟩ := bindS hs
  refine go_gI fl_RX4_45 ev8 dX4_tellLead_96 ?_
  refine go_iload_n (k4 := 1) rfl dX4_tellLead_99 ?_
  refine go_isub dX4_tellLead_100 ?_
  obtain ⟨g10, hs⟩ := gO_at hs
  obtain ⟨y9, ey9, hs⟩ := bindS hs
  refine go_V1 (As := [.int (v8 - x1)]) (st := []) g10 rfl rfl (oX4_takeNumber (d := d - 1) (by omega) ey9) (by omega) mb_X4_takeNumber lm_RX4_112 mi_X4_takeNumber (Nat.le_of_ble_eq_true rfl) rfl dX4_tellLead_101 ?_
  refine go_if_ne (tgt := 109) (by decide) dX4_tellLead_104 (fun c => ?_) (fun c => ?_)
  · have hs := if_f c hs
    refine go_iload_n (k4 := 1) rfl dX4_tellLead_109 ?_
    refine go_aload_n (k4 := 0) rfl (Or.inr ⟨_, rfl⟩) dX4_tellLead_110 ?_
    obtain ⟨v11, ev11, hs⟩ := bindS hs
    refine go_gI fl_RX4_30 ev11 dX4_tellLead_111 ?_
    refine go_iadd dX4_tellLead_114 ?_
    refine go_istore_n (k4 := 1) (L' := [some (.ref x0), some (.int (x1 + v11)), some (.int x2), some (.int x3), none]) (by decide) rfl dX4_tellLead_115 ?_
    refine go_iload_n (k4 := 2) rfl dX4_tellLead_116 ?_
    refine go_aload_n (k4 := 0) rfl (Or.inr ⟨_, rfl⟩) dX4_tellLead_117 ?_
    refine go_at 118 rfl ?_
    obtain ⟨v12, ev12, hs⟩ := bindS hs
    refine go_gI fl_RX4_30 ev12 dX4_tellLead_118 ?_
    refine go_statN (j := 2) rfl lz_RX4_147.1 lz_RX4_147.2.1 lz_RX4_147.2.2 dX4_tellLead_121 ?_
    refine go_iload_n (k4 := 3) rfl dX4_tellLead_124 ?_
    obtain ⟨v13, ev13, hs⟩ := bindS hs
    refine go_tT (by decide) ev13 dX4_tellLead_125 ?_
    refine go_imul dX4_tellLead_126 ?_
    refine go_iadd dX4_tellLead_127 ?_
    refine go_istore_n (k4 := 2) (L' := [some (.ref x0), some (.int (x1 + v11)), some (.int (x2 + (v12 * v13))), some (.int x3), none]) (by decide) rfl dX4_tellLead_128 ?_
    refine go_iinc (L' := [some (.ref x0), some (.int (x1 + v11)), some (.int (x2 + (v12 * v13))), some (.int (x3 + Int32.ofInt 1)), none]) rfl (by decide) rfl rfl dX4_tellLead_129 ?_
    refine go_at 132 rfl ?_
    refine go_goto (tgt := 26) (by decide) dX4_tellLead_132 ?_
    obtain rfl := Option.some.inj hs
    exact go_subL (L' := [some (.ref x0), some (.int (x1 + v11)), some (.int (x2 + (v12 * v13))), some (.int (x3 + Int32.ofInt 1)), none]) (by simp [subL, va_rf]) hk
  · have hs := if_t c hs
    refine go_iconst (v := 0) (by decide) dX4_tellLead_107 ?_
    obtain rfl := Option.some.inj hs
    obtain ⟨rfl, rfl⟩ := hk
    exact go_zret (ty := .boolean) rfl rfl dX4_tellLead_108
noncomputable def fX4_tellLead_54 (h : Hp) (x0 : Nat) (x1 : Int32) (x2 : Int32) (x3 : Int32) (s0 : Int32) : Option ((Int32 × Int32 × Int32 × Hp) ⊕ (Int32 × Hp)) :=
  if s0 = 0 then (
  fX4_tellLead_94 h x0 x1 x2 x3) else (
    (gN h 4 x0 0).bind fun v14 =>
    (gI h 6 v14 3).bind fun v15 =>
    if v15 = (2 : Int32) then (
      (gN h 4 x0 0).bind fun v16 =>
      (gI h 6 v16 5).bind fun v17 =>
      (gI h 4 x0 9).bind fun v18 =>
      if v18 ≤ (x1 + v17) then (
      fX4_tellLead_94 h x0 x1 x2 x3) else (
        gO h 4 x0 (
        (fX4_refuse h x0 (3 : Int32)).bind fun y19 =>
        bl y19.1 (some (.inr (y19.1, y19.2)))))) else (
    fX4_tellLead_94 h x0 x1 x2 x3))
theorem oX4_tellLead_54 {d : Nat} (hd : 6 ≤ d) {h : Hp} {x0 : Nat} {x1 : Int32} {x2 : Int32} {x3 : Int32} {s0 : Int32} {rf : Option Value} {hf : Hp} {x : ((Int32 × Int32 × Int32 × Hp) ⊕ (Int32 × Hp))} (hs : fX4_tellLead_54 h x0 x1 x2 x3 s0 = some x) (hk : (Kx (pX4_tellLead_26 d x0 rf hf) (kX4_tellLead rf hf)) x) : Go d mX4_tellLead 54 [some (.ref x0), some (.int x1), some (.int x2), some (.int x3), none] [.int s0] h rf hf := by
  unfold fX4_tellLead_54 at hs
  refine go_istore (L' := [some (.ref x0), some (.int x1), some (.int x2), some (.int x3), some (.int s0)]) (by decide) rfl dX4_tellLead_54 ?_
  refine go_iload rfl dX4_tellLead_56 ?_
  refine go_if_eq (tgt := 94) (by decide) dX4_tellLead_58 (fun c => ?_) (fun c => ?_)
  · have hs := if_t c hs
    exact go_subL (L' := [some (.ref x0), some (.int x1), some (.int x2), some (.int x3), none]) (by simp [subL, va_rf]) (oX4_tellLead_94 hd hs hk)
  · have hs := if_f c hs
    refine go_aload_n (k4 := 0) rfl (Or.inr ⟨_, rfl⟩) dX4_tellLead_61 ?_
    obtain ⟨v14, ev14, hs⟩ := bindS hs
    refine go_gN fl_RX4_12 ev14 dX4_tellLead_62 ?_
    obtain ⟨v15, ev15, hs⟩ := bindS hs
    refine go_gI fl_RX4_78 ev15 dX4_tellLead_65 ?_
    refine go_iconst (v := 2) (by decide) dX4_tellLead_68 ?_
    refine go_icmp_ne (tgt := 94) (by decide) dX4_tellLead_69 (fun c => ?_) (fun c => ?_)
    · have hs := if_f c hs
      exact go_subL (L' := [some (.ref x0), some (.int x1), some (.int x2), some (.int x3), none]) (by simp [subL, va_rf]) (oX4_tellLead_94 hd hs hk)
    · have hs := if_t c hs
      refine go_iload_n (k4 := 1) rfl dX4_tellLead_72 ?_
      refine go_aload_n (k4 := 0) rfl (Or.inr ⟨_, rfl⟩) dX4_tellLead_73 ?_
      obtain ⟨v16, ev16, hs⟩ := bindS hs
      refine go_gN fl_RX4_12 ev16 dX4_tellLead_74 ?_
      obtain ⟨v17, ev17, hs⟩ := bindS hs
      refine go_gI fl_RX4_103 ev17 dX4_tellLead_77 ?_
      refine go_iadd dX4_tellLead_80 ?_
      refine go_aload_n (k4 := 0) rfl (Or.inr ⟨_, rfl⟩) dX4_tellLead_81 ?_
      obtain ⟨v18, ev18, hs⟩ := bindS hs
      refine go_gI fl_RX4_45 ev18 dX4_tellLead_82 ?_
      refine go_at 85 rfl ?_
      refine go_icmp_ge (tgt := 94) (by decide) dX4_tellLead_85 (fun c => ?_) (fun c => ?_)
      · have hs := if_t c hs
        exact go_subL (L' := [some (.ref x0), some (.int x1), some (.int x2), some (.int x3), none]) (by simp [subL, va_rf]) (oX4_tellLead_94 hd hs hk)
      · have hs := if_f c hs
        refine go_aload_n (k4 := 0) rfl (Or.inr ⟨_, rfl⟩) dX4_tellLead_88 ?_
        refine go_iconst (v := 3) (by decide) dX4_tellLead_89 ?_
        obtain ⟨g20, hs⟩ := gO_at hs
        obtain ⟨y19, ey19, hs⟩ := bindS hs
        refine go_V1 (As := [.int (3 : Int32)]) (st := []) g20 rfl rfl (oX4_refuse (d := d - 1) (by omega) ey19) (by omega) mb_X4_refuse lm_RX4_96 mi_X4_refuse (Nat.le_of_ble_eq_true rfl) rfl dX4_tellLead_90 ?_
        obtain ⟨n1, n2, hs⟩ := bl_at hs
        obtain rfl := Option.some.inj hs
        obtain ⟨rfl, rfl⟩ := hk
        exact go_zret (ty := .boolean) rfl n1 dX4_tellLead_93
noncomputable def fX4_tellLead_26b (h : Hp) (x0 : Nat) (x1 : Int32) (x2 : Int32) (x3 : Int32) : Option ((Int32 × Int32 × Int32 × Hp) ⊕ (Int32 × Hp)) :=
  (gI h 4 x0 8).bind fun v5 =>
  if v5 ≤ x3 then (
  (fX4_tellLead_135 h x0 x2).map (fun q => .inr q)) else (
    if (4 : Int32) ≤ x3 then (
    (fX4_tellLead_135 h x0 x2).map (fun q => .inr q)) else (
      (gI h 4 x0 8).bind fun v7 =>
      if x3 = (v7 - (1 : Int32)) then (
        fX4_tellLead_54 h x0 x1 x2 x3 (1 : Int32)) else (
        fX4_tellLead_54 h x0 x1 x2 x3 (0 : Int32))))
noncomputable def fX4_tellLead_26 (h : Hp) (x0 : Nat) (x1 : Int32) (x2 : Int32) (x3 : Int32) : Option (Int32 × Hp) := lpw (σ := (Int32 × Int32 × Int32 × Hp)) (fun s => fX4_tellLead_26b s.2.2.2 x0 s.1 s.2.1 s.2.2.1) (x1, x2, x3, h)
theorem oX4_tellLead_26b {d : Nat} (hd : 6 ≤ d) {h : Hp} {x0 : Nat} {x1 : Int32} {x2 : Int32} {x3 : Int32} {rf : Option Value} {hf : Hp} {x : ((Int32 × Int32 × Int32 × Hp) ⊕ (Int32 × Hp))} (hs : fX4_tellLead_26b h x0 x1 x2 x3 = some x) (hk : (Kx (pX4_tellLead_26 d x0 rf hf) (kX4_tellLead rf hf)) x) : Go d mX4_tellLead 26 [some (.ref x0), some (.int x1), some (.int x2), some (.int x3), none] [] h rf hf := by
  unfold fX4_tellLead_26b at hs
  refine go_iload_n (k4 := 3) rfl dX4_tellLead_26 ?_
  refine go_aload_n (k4 := 0) rfl (Or.inr ⟨_, rfl⟩) dX4_tellLead_27 ?_
  obtain ⟨v5, ev5, hs⟩ := bindS hs
  refine go_gI fl_RX4_42 ev5 dX4_tellLead_28 ?_
  refine go_icmp_ge (tgt := 135) (by decide) dX4_tellLead_31 (fun c => ?_) (fun c => ?_)
  · have hs := if_t c hs
    obtain ⟨q, hs2, hq⟩ := mapS hs
    clear hs
    subst hq
    exact go_subL (L' := [some (.ref x0), none, some (.int x2), none, none]) (by simp [subL, va_rf]) (oX4_tellLead_135 hd hs2 hk)
  · have hs := if_f c hs
    refine go_iload_n (k4 := 3) rfl dX4_tellLead_34 ?_
    refine go_iconst (v := 4) (by decide) dX4_tellLead_35 ?_
    refine go_icmp_ge (tgt := 135) (by decide) dX4_tellLead_36 (fun c => ?_) (fun c => ?_)
    · have hs := if_t c hs
      obtain ⟨q, hs2, hq⟩ := mapS hs
      clear hs
      subst hq
      exact go_subL (L' := [some (.ref x0), none, some (.int x2), none, none]) (by simp [subL, va_rf]) (oX4_tellLead_135 hd hs2 hk)
    · have hs := if_f c hs
      refine go_iload_n (k4 := 3) rfl dX4_tellLead_39 ?_
      refine go_aload_n (k4 := 0) rfl (Or.inr ⟨_, rfl⟩) dX4_tellLead_40 ?_
      obtain ⟨v7, ev7, hs⟩ := bindS hs
      refine go_gI fl_RX4_42 ev7 dX4_tellLead_41 ?_
      refine go_iconst (v := 1) (by decide) dX4_tellLead_44 ?_
      refine go_isub dX4_tellLead_45 ?_
      refine go_icmp_ne (tgt := 53) (by decide) dX4_tellLead_46 (fun c => ?_) (fun c => ?_)
      · have hs := if_f c hs
        refine go_iconst (v := 0) (by decide) dX4_tellLead_53 ?_
        exact go_subL (L' := [some (.ref x0), some (.int x1), some (.int x2), some (.int x3), none]) (by simp [subL, va_rf]) (oX4_tellLead_54 hd hs hk)
      · have hs := if_t c hs
        refine go_iconst (v := 1) (by decide) dX4_tellLead_49 ?_
        refine go_goto (tgt := 54) (by decide) dX4_tellLead_50 ?_
        exact go_subL (L' := [some (.ref x0), some (.int x1), some (.int x2), some (.int x3), none]) (by simp [subL, va_rf]) (oX4_tellLead_54 hd hs hk)
theorem oX4_tellLead_26 {d : Nat} (hd : 6 ≤ d) {h : Hp} {x0 : Nat} {x1 : Int32} {x2 : Int32} {x3 : Int32} {rf : Option Value} {hf : Hp} {x : (Int32 × Hp)} (hs : fX4_tellLead_26 h x0 x1 x2 x3 = some x) (hk : (kX4_tellLead rf hf) x) : Go d mX4_tellLead 26 [some (.ref x0), some (.int x1), some (.int x2), some (.int x3), none] [] h rf hf := by
  unfold fX4_tellLead_26 at hs
  exact lpw_go (P := pX4_tellLead_26 d x0 rf hf) (fun s x hs hk => oX4_tellLead_26b hd hs hk) (x1, x2, x3, h) x hs hk
noncomputable def fX4_tellLead (h : Hp) (x0 : Nat) : Option (Int32 × Hp) :=
  (gI h 4 x0 8).bind fun v1 =>
  if v1 = 0 then (
    gO h 4 x0 (
    (fX4_refuse h x0 (2 : Int32)).bind fun y21 =>
    bl y21.1 (some ((y21.1, y21.2))))) else (
    (gN h 4 x0 0).bind fun v2 =>
    gO h 6 v2 (
    (fX6_advance h v2).bind fun y3 =>
    fX4_tellLead_26 y3 x0 (0 : Int32) (0 : Int32) (0 : Int32)))
theorem oX4_tellLead_0 {d : Nat} (hd : 6 ≤ d) {h : Hp} {x0 : Nat} {rf : Option Value} {hf : Hp} {x : (Int32 × Hp)} (hs : fX4_tellLead h x0 = some x) (hk : (kX4_tellLead rf hf) x) : Go d mX4_tellLead 0 [some (.ref x0), none, none, none, none] [] h rf hf := by
  unfold fX4_tellLead at hs
  refine go_aload_n (k4 := 0) rfl (Or.inr ⟨_, rfl⟩) dX4_tellLead_0 ?_
  obtain ⟨v1, ev1, hs⟩ := bindS hs
  refine go_gI fl_RX4_42 ev1 dX4_tellLead_1 ?_
  refine go_if_ne (tgt := 13) (by decide) dX4_tellLead_4 (fun c => ?_) (fun c => ?_)
  · have hs := if_f c hs
    refine go_aload_n (k4 := 0) rfl (Or.inr ⟨_, rfl⟩) dX4_tellLead_13 ?_
    obtain ⟨v2, ev2, hs⟩ := bindS hs
    refine go_gN fl_RX4_12 ev2 dX4_tellLead_14 ?_
    obtain ⟨g4, hs⟩ := gO_at hs
    obtain ⟨y3, ey3, hs⟩ := bindS hs
    refine go_V0 (As := []) (st := []) g4 rfl rfl (oX6_advance (d := d - 1) (by omega) ey3) (by omega) mb_X6_advance lm_RX4_100 mi_X6_advance (Nat.le_of_ble_eq_true rfl) rfl dX4_tellLead_17 ?_
    refine go_iconst (v := 0) (by decide) dX4_tellLead_20 ?_
    refine go_istore_n (k4 := 1) (L' := [some (.ref x0), some (.int (0 : Int32)), none, none, none]) (by decide) rfl dX4_tellLead_21 ?_
    refine go_iconst (v := 0) (by decide) dX4_tellLead_22 ?_
    refine go_istore_n (k4 := 2) (L' := [some (.ref x0), some (.int (0 : Int32)), some (.int (0 : Int32)), none, none]) (by decide) rfl dX4_tellLead_23 ?_
    refine go_at 24 rfl ?_
    refine go_iconst (v := 0) (by decide) dX4_tellLead_24 ?_
    refine go_istore_n (k4 := 3) (L' := [some (.ref x0), some (.int (0 : Int32)), some (.int (0 : Int32)), some (.int (0 : Int32)), none]) (by decide) rfl dX4_tellLead_25 ?_
    exact go_subL (L' := [some (.ref x0), some (.int (0 : Int32)), some (.int (0 : Int32)), some (.int (0 : Int32)), none]) (by simp [subL, va_rf]) (oX4_tellLead_26 hd hs hk)
  · have hs := if_t c hs
    refine go_aload_n (k4 := 0) rfl (Or.inr ⟨_, rfl⟩) dX4_tellLead_7 ?_
    refine go_iconst (v := 2) (by decide) dX4_tellLead_8 ?_
    obtain ⟨g22, hs⟩ := gO_at hs
    obtain ⟨y21, ey21, hs⟩ := bindS hs
    refine go_V1 (As := [.int (2 : Int32)]) (st := []) g22 rfl rfl (oX4_refuse (d := d - 1) (by omega) ey21) (by omega) mb_X4_refuse lm_RX4_96 mi_X4_refuse (Nat.le_of_ble_eq_true rfl) rfl dX4_tellLead_9 ?_
    obtain ⟨n1, n2, hs⟩ := bl_at hs
    obtain rfl := Option.some.inj hs
    obtain ⟨rfl, rfl⟩ := hk
    exact go_zret (ty := .boolean) rfl n1 dX4_tellLead_12
theorem oX4_tellLead {d : Nat} (hd : 6 ≤ d) {h : Hp} {x0 : Nat} {y : (Int32 × Hp)} (hs : fX4_tellLead h x0 = some y) : Call d mX4_tellLead [.ref x0] h (some (.int y.1)) (y.2) := call_of (by decide +kernel) (Nat.le_of_ble_eq_true rfl) (show Go d mX4_tellLead 0 [some (.ref x0), none, none, none, none] [] h _ _ from go_subL (by simp [subL]) (oX4_tellLead_0 hd hs ⟨rfl, rfl⟩))
abbrev kX4_tellDry (rf : Option Value) (hf : Hp) : (Int32 × Hp) → Prop := fun y => rf = some (.int y.1) ∧ hf = y.2
noncomputable def fX4_tellDry (h : Hp) (x0 : Nat) : Option (Int32 × Hp) :=
  (gN h 4 x0 0).bind fun v1 =>
  gO h 6 v1 (
  (fX6_advance h v1).bind fun y2 =>
  gO y2 4 x0 (
  (fX4_takeNumber y2 x0 (10 : Int32)).bind fun y4 =>
  if y4.1 = 0 then (
    some (((0 : Int32), y4.2))) else (
    (gI y4.2 4 x0 4).bind fun v6 =>
    (sV y4.2 4 x0 10 (.int v6)).bind fun h7 =>
    some (((1 : Int32), h7)))))
theorem oX4_tellDry_0 {d : Nat} (hd : 6 ≤ d) {h : Hp} {x0 : Nat} {rf : Option Value} {hf : Hp} {x : (Int32 × Hp)} (hs : fX4_tellDry h x0 = some x) (hk : (kX4_tellDry rf hf) x) : Go d mX4_tellDry 0 [some (.ref x0)] [] h rf hf := by
  unfold fX4_tellDry at hs
  refine go_aload_n (k4 := 0) rfl (Or.inr ⟨_, rfl⟩) dX4_tellDry_0 ?_
  obtain ⟨v1, ev1, hs⟩ := bindS hs
  refine go_gN fl_RX4_12 ev1 dX4_tellDry_1 ?_
  obtain ⟨g3, hs⟩ := gO_at hs
  obtain ⟨y2, ey2, hs⟩ := bindS hs
  refine go_V0 (As := []) (st := []) g3 rfl rfl (oX6_advance (d := d - 1) (by omega) ey2) (by omega) mb_X6_advance lm_RX4_100 mi_X6_advance (Nat.le_of_ble_eq_true rfl) rfl dX4_tellDry_4 ?_
  refine go_aload_n (k4 := 0) rfl (Or.inr ⟨_, rfl⟩) dX4_tellDry_7 ?_
  refine go_bipush (v := 10) (by decide) dX4_tellDry_8 ?_
  obtain ⟨g5, hs⟩ := gO_at hs
  obtain ⟨y4, ey4, hs⟩ := bindS hs
  refine go_V1 (As := [.int (10 : Int32)]) (st := []) g5 rfl rfl (oX4_takeNumber (d := d - 1) (by omega) ey4) (by omega) mb_X4_takeNumber lm_RX4_112 mi_X4_takeNumber (Nat.le_of_ble_eq_true rfl) rfl dX4_tellDry_10 ?_
  refine go_if_ne (tgt := 18) (by decide) dX4_tellDry_13 (fun c => ?_) (fun c => ?_)
  · have hs := if_f c hs
    refine go_aload_n (k4 := 0) rfl (Or.inr ⟨_, rfl⟩) dX4_tellDry_18 ?_
    refine go_aload_n (k4 := 0) rfl (Or.inr ⟨_, rfl⟩) dX4_tellDry_19 ?_
    obtain ⟨v6, ev6, hs⟩ := bindS hs
    refine go_gI fl_RX4_30 ev6 dX4_tellDry_20 ?_
    obtain ⟨h7, eh7, hs⟩ := bindS hs
    refine go_sV fw_RX4_48 eh7 rfl rfl dX4_tellDry_23 ?_
    refine go_iconst (v := 1) (by decide) dX4_tellDry_26 ?_
    obtain rfl := Option.some.inj hs
    obtain ⟨rfl, rfl⟩ := hk
    exact go_zret (ty := .boolean) rfl rfl dX4_tellDry_27
  · have hs := if_t c hs
    refine go_iconst (v := 0) (by decide) dX4_tellDry_16 ?_
    obtain rfl := Option.some.inj hs
    obtain ⟨rfl, rfl⟩ := hk
    exact go_zret (ty := .boolean) rfl rfl dX4_tellDry_17
theorem oX4_tellDry {d : Nat} (hd : 6 ≤ d) {h : Hp} {x0 : Nat} {y : (Int32 × Hp)} (hs : fX4_tellDry h x0 = some y) : Call d mX4_tellDry [.ref x0] h (some (.int y.1)) (y.2) := call_of (by decide +kernel) (Nat.le_of_ble_eq_true rfl) (show Go d mX4_tellDry 0 [some (.ref x0)] [] h _ _ from go_subL (by simp [subL]) (oX4_tellDry_0 hd hs ⟨rfl, rfl⟩))
abbrev kX4_isAtPlusOrMinus (h : Hp) (rf : Option Value) (hf : Hp) : Int32 → Prop := fun y => rf = some (.int y) ∧ hf = h
noncomputable def fX4_isAtPlusOrMinus_29 (h : Hp) (s0 : Int32) : Option Int32 :=
  bl s0 (some (s0))
theorem oX4_isAtPlusOrMinus_29 {d : Nat} (hd : 4 ≤ d) {h : Hp} {s0 : Int32} {rf : Option Value} {hf : Hp} {x : Int32} (hs : fX4_isAtPlusOrMinus_29 h s0 = some x) (hk : (kX4_isAtPlusOrMinus h rf hf) x) : Go d mX4_isAtPlusOrMinus 29 [none] [.int s0] h rf hf := by
  unfold fX4_isAtPlusOrMinus_29 at hs
  obtain ⟨n1, n2, hs⟩ := bl_at hs
  obtain rfl := Option.some.inj hs
  obtain ⟨rfl, rfl⟩ := hk
  exact go_zret (ty := .boolean) rfl n1 dX4_isAtPlusOrMinus_29
noncomputable def fX4_isAtPlusOrMinus_24 (h : Hp)  : Option Int32 :=
  fX4_isAtPlusOrMinus_29 h (1 : Int32)
theorem oX4_isAtPlusOrMinus_24 {d : Nat} (hd : 4 ≤ d) {h : Hp} {rf : Option Value} {hf : Hp} {x : Int32} (hs : fX4_isAtPlusOrMinus_24 h  = some x) (hk : (kX4_isAtPlusOrMinus h rf hf) x) : Go d mX4_isAtPlusOrMinus 24 [none] [] h rf hf := by
  unfold fX4_isAtPlusOrMinus_24 at hs
  refine go_iconst (v := 1) (by decide) dX4_isAtPlusOrMinus_24 ?_
  refine go_goto (tgt := 29) (by decide) dX4_isAtPlusOrMinus_25 ?_
  exact go_subL (L' := [none]) (by simp [subL, va_rf]) (oX4_isAtPlusOrMinus_29 hd hs hk)
noncomputable def fX4_isAtPlusOrMinus (h : Hp) (x0 : Nat) : Option Int32 :=
  (gN h 4 x0 0).bind fun v1 =>
  gO h 6 v1 (
  (fX6_isAt h v1 32).bind fun y2 =>
  if y2 = 0 then (
    (gN h 4 x0 0).bind fun v4 =>
    gO h 6 v4 (
    (fX6_isAt h v4 33).bind fun y5 =>
    if y5 = 0 then (
      fX4_isAtPlusOrMinus_29 h (0 : Int32)) else (
    fX4_isAtPlusOrMinus_24 h ))) else (
  fX4_isAtPlusOrMinus_24 h ))
theorem oX4_isAtPlusOrMinus_0 {d : Nat} (hd : 4 ≤ d) {h : Hp} {x0 : Nat} {rf : Option Value} {hf : Hp} {x : Int32} (hs : fX4_isAtPlusOrMinus h x0 = some x) (hk : (kX4_isAtPlusOrMinus h rf hf) x) : Go d mX4_isAtPlusOrMinus 0 [some (.ref x0)] [] h rf hf := by
  unfold fX4_isAtPlusOrMinus at hs
  refine go_aload_n (k4 := 0) rfl (Or.inr ⟨_, rfl⟩) dX4_isAtPlusOrMinus_0 ?_
  obtain ⟨v1, ev1, hs⟩ := bindS hs
  refine go_gN fl_RX4_12 ev1 dX4_isAtPlusOrMinus_1 ?_
  refine go_str (j := 32) ls_RX4_169 dX4_isAtPlusOrMinus_4 ?_
  obtain ⟨g3, hs⟩ := gO_at hs
  obtain ⟨y2, ey2, hs⟩ := bindS hs
  refine go_V1 (As := [.ref 32]) (st := []) g3 rfl rfl (oX6_isAt (d := d - 1) (by omega) ey2) (by omega) mb_X6_isAt lm_RX4_92 mi_X6_isAt (Nat.le_of_ble_eq_true rfl) rfl dX4_isAtPlusOrMinus_6 ?_
  refine go_if_ne (tgt := 24) (by decide) dX4_isAtPlusOrMinus_9 (fun c => ?_) (fun c => ?_)
  · have hs := if_f c hs
    exact go_subL (L' := [none]) (by simp [subL, va_rf]) (oX4_isAtPlusOrMinus_24 hd hs hk)
  · have hs := if_t c hs
    refine go_aload_n (k4 := 0) rfl (Or.inr ⟨_, rfl⟩) dX4_isAtPlusOrMinus_12 ?_
    obtain ⟨v4, ev4, hs⟩ := bindS hs
    refine go_gN fl_RX4_12 ev4 dX4_isAtPlusOrMinus_13 ?_
    refine go_str (j := 33) ls_RX4_175 dX4_isAtPlusOrMinus_16 ?_
    obtain ⟨g6, hs⟩ := gO_at hs
    obtain ⟨y5, ey5, hs⟩ := bindS hs
    refine go_V1 (As := [.ref 33]) (st := []) g6 rfl rfl (oX6_isAt (d := d - 1) (by omega) ey5) (by omega) mb_X6_isAt lm_RX4_92 mi_X6_isAt (Nat.le_of_ble_eq_true rfl) rfl dX4_isAtPlusOrMinus_18 ?_
    refine go_if_eq (tgt := 28) (by decide) dX4_isAtPlusOrMinus_21 (fun c => ?_) (fun c => ?_)
    · have hs := if_t c hs
      refine go_iconst (v := 0) (by decide) dX4_isAtPlusOrMinus_28 ?_
      exact go_subL (L' := [none]) (by simp [subL, va_rf]) (oX4_isAtPlusOrMinus_29 hd hs hk)
    · have hs := if_f c hs
      exact go_subL (L' := [none]) (by simp [subL, va_rf]) (oX4_isAtPlusOrMinus_24 hd hs hk)
theorem oX4_isAtPlusOrMinus {d : Nat} (hd : 4 ≤ d) {h : Hp} {x0 : Nat} {y : Int32} (hs : fX4_isAtPlusOrMinus h x0 = some y) : Call d mX4_isAtPlusOrMinus [.ref x0] h (some (.int y)) h := call_of (by decide +kernel) (Nat.le_of_ble_eq_true rfl) (show Go d mX4_isAtPlusOrMinus 0 [some (.ref x0)] [] h _ _ from go_subL (by simp [subL]) (oX4_isAtPlusOrMinus_0 hd hs ⟨rfl, rfl⟩))
abbrev kX4_put (rf : Option Value) (hf : Hp) : Hp → Prop := fun y => rf = none ∧ hf = y
noncomputable def fX4_put_32 (h : Hp)  : Option Hp :=
  some (h)
theorem oX4_put_32 {d : Nat} (hd : 0 ≤ d) {h : Hp} {rf : Option Value} {hf : Hp} {x : Hp} (hs : fX4_put_32 h  = some x) (hk : (kX4_put rf hf) x) : Go d mX4_put 32 [none, none] [] h rf hf := by
  unfold fX4_put_32 at hs
  obtain rfl := Option.some.inj hs
  obtain ⟨rfl, rfl⟩ := hk
  exact go_vret rfl dX4_put_32
noncomputable def fX4_put (h : Hp) (x0 : Nat) (x1 : Int32) : Option Hp :=
  (gI h 4 x0 2).bind fun v1 =>
  (gN h 4 x0 1).bind fun v2 =>
  (aL h v2).bind fun v3 =>
  if v3 ≤ v1 then (
  fX4_put_32 h ) else (
    (gN h 4 x0 1).bind fun v4 =>
    (gI h 4 x0 2).bind fun v5 =>
    (wI 0 h v4 v5 x1).bind fun h6 =>
    (gI h6 4 x0 2).bind fun v7 =>
    (sV h6 4 x0 2 (.int (v7 + (1 : Int32)))).bind fun h8 =>
    fX4_put_32 h8 )
theorem oX4_put_0 {d : Nat} (hd : 0 ≤ d) {h : Hp} {x0 : Nat} {x1 : Int32} {rf : Option Value} {hf : Hp} {x : Hp} (hs : fX4_put h x0 x1 = some x) (hk : (kX4_put rf hf) x) : Go d mX4_put 0 [some (.ref x0), some (.int x1)] [] h rf hf := by
  unfold fX4_put at hs
  refine go_aload_n (k4 := 0) rfl (Or.inr ⟨_, rfl⟩) dX4_put_0 ?_
  obtain ⟨v1, ev1, hs⟩ := bindS hs
  refine go_gI fl_RX4_22 ev1 dX4_put_1 ?_
  refine go_aload_n (k4 := 0) rfl (Or.inr ⟨_, rfl⟩) dX4_put_4 ?_
  obtain ⟨v2, ev2, hs⟩ := bindS hs
  refine go_gN fl_RX4_18 ev2 dX4_put_5 ?_
  obtain ⟨v3, ev3, hs⟩ := bindS hs
  refine go_aL ev3 dX4_put_8 ?_
  refine go_icmp_ge (tgt := 32) (by decide) dX4_put_9 (fun c => ?_) (fun c => ?_)
  · have hs := if_t c hs
    exact go_subL (L' := [none, none]) (by simp [subL, va_rf]) (oX4_put_32 hd hs hk)
  · have hs := if_f c hs
    refine go_aload_n (k4 := 0) rfl (Or.inr ⟨_, rfl⟩) dX4_put_12 ?_
    obtain ⟨v4, ev4, hs⟩ := bindS hs
    refine go_gN fl_RX4_18 ev4 dX4_put_13 ?_
    refine go_aload_n (k4 := 0) rfl (Or.inr ⟨_, rfl⟩) dX4_put_16 ?_
    obtain ⟨v5, ev5, hs⟩ := bindS hs
    refine go_gI fl_RX4_22 ev5 dX4_put_17 ?_
    refine go_iload_n (k4 := 1) rfl dX4_put_20 ?_
    obtain ⟨h6, eh6, hs⟩ := bindS hs
    refine go_wIi eh6 dX4_put_21 ?_
    refine go_aload_n (k4 := 0) rfl (Or.inr ⟨_, rfl⟩) dX4_put_22 ?_
    refine go_at 23 rfl ?_
    refine go_dup rfl dX4_put_23 ?_
    obtain ⟨v7, ev7, hs⟩ := bindS hs
    refine go_gI fl_RX4_22 ev7 dX4_put_24 ?_
    refine go_iconst (v := 1) (by decide) dX4_put_27 ?_
    refine go_iadd dX4_put_28 ?_
    obtain ⟨h8, eh8, hs⟩ := bindS hs
    refine go_sV fw_RX4_22 eh8 rfl rfl dX4_put_29 ?_
    exact go_subL (L' := [none, none]) (by simp [subL, va_rf]) (oX4_put_32 hd hs hk)
theorem oX4_put {d : Nat} (hd : 0 ≤ d) {h : Hp} {x0 : Nat} {x1 : Int32} {y : Hp} (hs : fX4_put h x0 x1 = some y) : Call d mX4_put [.ref x0, .int x1] h (none) y := call_of (by decide +kernel) (Nat.le_of_ble_eq_true rfl) (show Go d mX4_put 0 [some (.ref x0), some (.int x1)] [] h _ _ from go_subL (by simp [subL]) (oX4_put_0 hd hs ⟨rfl, rfl⟩))
abbrev kX4_goInto (rf : Option Value) (hf : Hp) : (Int32 × Hp) → Prop := fun y => rf = some (.int y.1) ∧ hf = y.2
noncomputable def fX4_goInto (h : Hp) (x0 : Nat) (x1 : Int32) : Option (Int32 × Hp) :=
  if x1 < (6 : Int32) then (
    (gN h 4 x0 0).bind fun v1 =>
    gO h 6 v1 (
    (fX6_advance h v1).bind fun y2 =>
    some (((1 : Int32), y2)))) else (
    gO h 4 x0 (
    (fX4_refuse h x0 (4 : Int32)).bind fun y4 =>
    bl y4.1 (some ((y4.1, y4.2)))))
theorem oX4_goInto_0 {d : Nat} (hd : 5 ≤ d) {h : Hp} {x0 : Nat} {x1 : Int32} {rf : Option Value} {hf : Hp} {x : (Int32 × Hp)} (hs : fX4_goInto h x0 x1 = some x) (hk : (kX4_goInto rf hf) x) : Go d mX4_goInto 0 [some (.ref x0), some (.int x1)] [] h rf hf := by
  unfold fX4_goInto at hs
  refine go_iload_n (k4 := 1) rfl dX4_goInto_0 ?_
  refine go_bipush (v := 6) (by decide) dX4_goInto_1 ?_
  refine go_icmp_lt (tgt := 12) (by decide) dX4_goInto_3 (fun c => ?_) (fun c => ?_)
  · have hs := if_t c hs
    refine go_aload_n (k4 := 0) rfl (Or.inr ⟨_, rfl⟩) dX4_goInto_12 ?_
    obtain ⟨v1, ev1, hs⟩ := bindS hs
    refine go_gN fl_RX4_12 ev1 dX4_goInto_13 ?_
    obtain ⟨g3, hs⟩ := gO_at hs
    obtain ⟨y2, ey2, hs⟩ := bindS hs
    refine go_V0 (As := []) (st := []) g3 rfl rfl (oX6_advance (d := d - 1) (by omega) ey2) (by omega) mb_X6_advance lm_RX4_100 mi_X6_advance (Nat.le_of_ble_eq_true rfl) rfl dX4_goInto_16 ?_
    refine go_iconst (v := 1) (by decide) dX4_goInto_19 ?_
    obtain rfl := Option.some.inj hs
    obtain ⟨rfl, rfl⟩ := hk
    exact go_zret (ty := .boolean) rfl rfl dX4_goInto_20
  · have hs := if_f c hs
    refine go_aload_n (k4 := 0) rfl (Or.inr ⟨_, rfl⟩) dX4_goInto_6 ?_
    refine go_iconst (v := 4) (by decide) dX4_goInto_7 ?_
    obtain ⟨g5, hs⟩ := gO_at hs
    obtain ⟨y4, ey4, hs⟩ := bindS hs
    refine go_V1 (As := [.int (4 : Int32)]) (st := []) g5 rfl rfl (oX4_refuse (d := d - 1) (by omega) ey4) (by omega) mb_X4_refuse lm_RX4_96 mi_X4_refuse (Nat.le_of_ble_eq_true rfl) rfl dX4_goInto_8 ?_
    obtain ⟨n1, n2, hs⟩ := bl_at hs
    obtain rfl := Option.some.inj hs
    obtain ⟨rfl, rfl⟩ := hk
    exact go_zret (ty := .boolean) rfl n1 dX4_goInto_11
theorem oX4_goInto {d : Nat} (hd : 5 ≤ d) {h : Hp} {x0 : Nat} {x1 : Int32} {y : (Int32 × Hp)} (hs : fX4_goInto h x0 x1 = some y) : Call d mX4_goInto [.ref x0, .int x1] h (some (.int y.1)) (y.2) := call_of (by decide +kernel) (Nat.le_of_ble_eq_true rfl) (show Go d mX4_goInto 0 [some (.ref x0), some (.int x1)] [] h _ _ from go_subL (by simp [subL]) (oX4_goInto_0 hd hs ⟨rfl, rfl⟩))
