/-! methods: their texts as functions, and that the machine does just that -/
abbrev kX12_next (rf : Option Value) (hf : Hp) : Hp → Prop := fun y => rf = none ∧ hf = y
abbrev pX12_next_8 (d : Nat) (x0 : Nat) (rf : Option Value) (hf : Hp) : Hp → Prop := fun s => Go d mX12_next 8 [some (.ref x0), none] [] s rf hf
noncomputable def fX12_next_34 (h : Hp) (x0 : Nat) : Option (Hp ⊕ Hp) :=
  (gI h 12 x0 6).bind fun v6 =>
  (sV h 12 x0 6 (.int (v6 + (1 : Int32)))).bind fun h7 =>
  some (.inl h7)
theorem oX12_next_34 {d : Nat} (hd : 5 ≤ d) {h : Hp} {x0 : Nat} {rf : Option Value} {hf : Hp} {x : (Hp ⊕ Hp)} (hs : fX12_next_34 h x0 = some x) (hk : (Kx (pX12_next_8 d x0 rf hf) (kX12_next rf hf)) x) : Go d mX12_next 34 [some (.ref x0), none] [] h rf hf := by
  unfold fX12_next_34 at hs
  refine go_aload_n (k4 := 0) rfl (Or.inr ⟨_, rfl⟩) dX12_next_34 ?_
  refine go_dup rfl dX12_next_35 ?_
  obtain ⟨v6, ev6, hs⟩ := bindS hs
  refine go_gI fl_RX12_111 ev6 dX12_next_36 ?_
  refine go_iconst (v := 1) (by decide) dX12_next_39 ?_
  refine go_iadd dX12_next_40 ?_
  obtain ⟨h7, eh7, hs⟩ := bindS hs
  refine go_sV fw_RX12_111 eh7 rfl rfl dX12_next_41 ?_
  refine go_goto (tgt := 8) (by decide) dX12_next_44 ?_
  obtain rfl := Option.some.inj hs
  exact go_subL (L' := [some (.ref x0), none]) (by simp [subL, va_rf]) hk
abbrev pX12_next_254 (d : Nat) (x0 : Nat) (rf : Option Value) (hf : Hp) : (Int32 × Hp) → Prop := fun s => Go d mX12_next 254 [some (.ref x0), some (.int s.1)] [] s.2 rf hf
noncomputable def fX12_next_294 (h : Hp)  : Option Hp :=
  some (h)
theorem oX12_next_294 {d : Nat} (hd : 5 ≤ d) {h : Hp} {rf : Option Value} {hf : Hp} {x : Hp} (hs : fX12_next_294 h  = some x) (hk : (kX12_next rf hf) x) : Go d mX12_next 294 [none, none] [] h rf hf := by
  unfold fX12_next_294 at hs
  obtain rfl := Option.some.inj hs
  obtain ⟨rfl, rfl⟩ := hk
  exact go_vret rfl dX12_next_294
noncomputable def fX12_next_288 (h : Hp) (x0 : Nat) (x1 : Int32) : Option ((Int32 × Hp) ⊕ Hp) :=
  some (.inl ((x1 + Int32.ofInt 1), h))
theorem oX12_next_288 {d : Nat} (hd : 5 ≤ d) {h : Hp} {x0 : Nat} {x1 : Int32} {rf : Option Value} {hf : Hp} {x : ((Int32 × Hp) ⊕ Hp)} (hs : fX12_next_288 h x0 x1 = some x) (hk : (Kx (pX12_next_254 d x0 rf hf) (kX12_next rf hf)) x) : Go d mX12_next 288 [some (.ref x0), some (.int x1)] [] h rf hf := by
  unfold fX12_next_288 at hs
  refine go_iinc (L' := [some (.ref x0), some (.int (x1 + Int32.ofInt 1))]) rfl (by decide) rfl rfl dX12_next_288 ?_
  refine go_goto (tgt := 254) (by decide) dX12_next_291 ?_
  obtain rfl := Option.some.inj hs
  exact go_subL (L' := [some (.ref x0), some (.int (x1 + Int32.ofInt 1))]) (by simp [subL, va_rf]) hk
noncomputable def fX12_next_254b (h : Hp) (x0 : Nat) (x1 : Int32) : Option ((Int32 × Hp) ⊕ Hp) :=
  gT 36 (
  (fJ0_length_8abf5 h 36).bind fun y26 =>
  if y26 ≤ x1 then (
  (fX12_next_294 h ).map (fun q => .inr q)) else (
    (gI h 12 x0 6).bind fun v28 =>
    gO h 12 x0 (
    (fX12_see h x0 v28).bind fun y29 =>
    gT 36 (
    (fJ0_charAt_5068e h 36 x1).bind fun y31 =>
    if y29 = y31 then (
      (sV h 12 x0 9 (.int ((30 : Int32) + x1))).bind fun h33 =>
      fX12_next_288 h33 x0 x1) else (
    fX12_next_288 h x0 x1)))))
noncomputable def fX12_next_254 (h : Hp) (x0 : Nat) (x1 : Int32) : Option Hp := lpw (σ := (Int32 × Hp)) (fun s => fX12_next_254b s.2 x0 s.1) (x1, h)
theorem oX12_next_254b {d : Nat} (hd : 5 ≤ d) {h : Hp} {x0 : Nat} {x1 : Int32} {rf : Option Value} {hf : Hp} {x : ((Int32 × Hp) ⊕ Hp)} (hs : fX12_next_254b h x0 x1 = some x) (hk : (Kx (pX12_next_254 d x0 rf hf) (kX12_next rf hf)) x) : Go d mX12_next 254 [some (.ref x0), some (.int x1)] [] h rf hf := by
  unfold fX12_next_254b at hs
  refine go_iload_n (k4 := 1) rfl dX12_next_254 ?_
  refine go_str (j := 36) ls_RX12_137 dX12_next_255 ?_
  obtain ⟨g27, hs⟩ := gT_at hs
  obtain ⟨y26, ey26, hs⟩ := bindS hs
  refine go_T1 (As := []) (st := [.int x1]) g27 rfl (oJ0_length_8abf5 (d := d - 1) (by omega) ey26) (by omega) mb_J0_length_8abf5 lm_RX12_101 mi_J0_length_8abf5 (Nat.le_of_ble_eq_true rfl) rfl dX12_next_257 ?_
  refine go_icmp_ge (tgt := 294) (by decide) dX12_next_260 (fun c => ?_) (fun c => ?_)
  · have hs := if_t c hs
    obtain ⟨q, hs2, hq⟩ := mapS hs
    clear hs
    subst hq
    exact go_subL (L' := [none, none]) (by simp [subL, va_rf]) (oX12_next_294 hd hs2 hk)
  · have hs := if_f c hs
    refine go_aload_n (k4 := 0) rfl (Or.inr ⟨_, rfl⟩) dX12_next_263 ?_
    refine go_aload_n (k4 := 0) rfl (Or.inr ⟨_, rfl⟩) dX12_next_264 ?_
    obtain ⟨v28, ev28, hs⟩ := bindS hs
    refine go_gI fl_RX12_111 ev28 dX12_next_265 ?_
    obtain ⟨g30, hs⟩ := gO_at hs
    obtain ⟨y29, ey29, hs⟩ := bindS hs
    refine go_V1 (As := [.int v28]) (st := []) g30 rfl rfl (oX12_see (d := d - 1) (by omega) ey29) (by omega) mb_X12_see lm_RX12_117 mi_X12_see (Nat.le_of_ble_eq_true rfl) rfl dX12_next_268 ?_
    refine go_str (j := 36) ls_RX12_137 dX12_next_271 ?_
    refine go_iload_n (k4 := 1) rfl dX12_next_273 ?_
    obtain ⟨g32, hs⟩ := gT_at hs
    obtain ⟨y31, ey31, hs⟩ := bindS hs
    refine go_T1 (As := [.int x1]) (st := [.int y29]) g32 rfl (oJ0_charAt_5068e (d := d - 1) (by omega) ey31) (by omega) mb_J0_charAt_5068e lm_RX12_107 mi_J0_charAt_5068e (Nat.le_of_ble_eq_true rfl) rfl dX12_next_274 ?_
    refine go_at 277 rfl ?_
    refine go_icmp_ne (tgt := 288) (by decide) dX12_next_277 (fun c => ?_) (fun c => ?_)
    · have hs := if_f c hs
      exact go_subL (L' := [some (.ref x0), some (.int x1)]) (by simp [subL, va_rf]) (oX12_next_288 hd hs hk)
    · have hs := if_t c hs
      refine go_aload_n (k4 := 0) rfl (Or.inr ⟨_, rfl⟩) dX12_next_280 ?_
      refine go_bipush (v := 30) (by decide) dX12_next_281 ?_
      refine go_iload_n (k4 := 1) rfl dX12_next_283 ?_
      refine go_iadd dX12_next_284 ?_
      obtain ⟨h33, eh33, hs⟩ := bindS hs
      refine go_sV fw_RX12_121 eh33 rfl rfl dX12_next_285 ?_
      exact go_subL (L' := [some (.ref x0), some (.int x1)]) (by simp [subL, va_rf]) (oX12_next_288 hd hs hk)
theorem oX12_next_254 {d : Nat} (hd : 5 ≤ d) {h : Hp} {x0 : Nat} {x1 : Int32} {rf : Option Value} {hf : Hp} {x : Hp} (hs : fX12_next_254 h x0 x1 = some x) (hk : (kX12_next rf hf) x) : Go d mX12_next 254 [some (.ref x0), some (.int x1)] [] h rf hf := by
  unfold fX12_next_254 at hs
  exact lpw_go (P := pX12_next_254 d x0 rf hf) (fun s x hs hk => oX12_next_254b hd hs hk) (x1, h) x hs hk
abbrev pX12_next_146 (d : Nat) (x0 : Nat) (rf : Option Value) (hf : Hp) : Hp → Prop := fun s => Go d mX12_next 146 [some (.ref x0), none] [] s rf hf
noncomputable def fX12_next_230 (h : Hp) (s0 : Nat) (s1 : Int32) : Option Hp :=
  (sV h 12 s0 9 (.int s1)).bind fun h41 =>
  fX12_next_294 h41 
theorem oX12_next_230 {d : Nat} (hd : 5 ≤ d) {h : Hp} {s0 : Nat} {s1 : Int32} {rf : Option Value} {hf : Hp} {x : Hp} (hs : fX12_next_230 h s0 s1 = some x) (hk : (kX12_next rf hf) x) : Go d mX12_next 230 [none, none] [.int s1, .ref s0] h rf hf := by
  unfold fX12_next_230 at hs
  obtain ⟨h41, eh41, hs⟩ := bindS hs
  refine go_sV fw_RX12_121 eh41 rfl rfl dX12_next_230 ?_
  refine go_goto (tgt := 294) (by decide) dX12_next_233 ?_
  exact go_subL (L' := [none, none]) (by simp [subL, va_rf]) (oX12_next_294 hd hs hk)
noncomputable def fX12_next_209 (h : Hp) (x0 : Nat) : Option Hp :=
  (gI h 12 x0 7).bind fun v39 =>
  (gI h 12 x0 6).bind fun v40 =>
  if (v39 - v40) ≤ (3 : Int32) then (
    fX12_next_230 h x0 (23 : Int32)) else (
    fX12_next_230 h x0 (25 : Int32))
theorem oX12_next_209 {d : Nat} (hd : 5 ≤ d) {h : Hp} {x0 : Nat} {rf : Option Value} {hf : Hp} {x : Hp} (hs : fX12_next_209 h x0 = some x) (hk : (kX12_next rf hf) x) : Go d mX12_next 209 [some (.ref x0), none] [] h rf hf := by
  unfold fX12_next_209 at hs
  refine go_aload_n (k4 := 0) rfl (Or.inr ⟨_, rfl⟩) dX12_next_209 ?_
  refine go_aload_n (k4 := 0) rfl (Or.inr ⟨_, rfl⟩) dX12_next_210 ?_
  obtain ⟨v39, ev39, hs⟩ := bindS hs
  refine go_gI fl_RX12_114 ev39 dX12_next_211 ?_
  refine go_aload_n (k4 := 0) rfl (Or.inr ⟨_, rfl⟩) dX12_next_214 ?_
  obtain ⟨v40, ev40, hs⟩ := bindS hs
  refine go_gI fl_RX12_111 ev40 dX12_next_215 ?_
  refine go_isub dX12_next_218 ?_
  refine go_iconst (v := 3) (by decide) dX12_next_219 ?_
  refine go_at 220 rfl ?_
  refine go_icmp_le (tgt := 228) (by decide) dX12_next_220 (fun c => ?_) (fun c => ?_)
  · have hs := if_t c hs
    refine go_bipush (v := 23) (by decide) dX12_next_228 ?_
    exact go_subL (L' := [none, none]) (by simp [subL, va_rf]) (oX12_next_230 hd hs hk)
  · have hs := if_f c hs
    refine go_bipush (v := 25) (by decide) dX12_next_223 ?_
    refine go_goto (tgt := 230) (by decide) dX12_next_225 ?_
    exact go_subL (L' := [none, none]) (by simp [subL, va_rf]) (oX12_next_230 hd hs hk)
noncomputable def fX12_next_196 (h : Hp) (x0 : Nat) : Option (Hp ⊕ Hp) :=
  (gI h 12 x0 7).bind fun v44 =>
  (sV h 12 x0 7 (.int (v44 + (1 : Int32)))).bind fun h45 =>
  some (.inl h45)
theorem oX12_next_196 {d : Nat} (hd : 5 ≤ d) {h : Hp} {x0 : Nat} {rf : Option Value} {hf : Hp} {x : (Hp ⊕ Hp)} (hs : fX12_next_196 h x0 = some x) (hk : (Kx (pX12_next_146 d x0 rf hf) (kX12_next rf hf)) x) : Go d mX12_next 196 [some (.ref x0), none] [] h rf hf := by
  unfold fX12_next_196 at hs
  refine go_aload_n (k4 := 0) rfl (Or.inr ⟨_, rfl⟩) dX12_next_196 ?_
  refine go_dup rfl dX12_next_197 ?_
  obtain ⟨v44, ev44, hs⟩ := bindS hs
  refine go_gI fl_RX12_114 ev44 dX12_next_198 ?_
  refine go_iconst (v := 1) (by decide) dX12_next_201 ?_
  refine go_iadd dX12_next_202 ?_
  obtain ⟨h45, eh45, hs⟩ := bindS hs
  refine go_sV fw_RX12_114 eh45 rfl rfl dX12_next_203 ?_
  refine go_goto (tgt := 146) (by decide) dX12_next_206 ?_
  obtain rfl := Option.some.inj hs
  exact go_subL (L' := [some (.ref x0), none]) (by simp [subL, va_rf]) hk
noncomputable def fX12_next_146b (h : Hp) (x0 : Nat) : Option (Hp ⊕ Hp) :=
  (gI h 12 x0 7).bind fun v35 =>
  gO h 12 x0 (
  (fX12_see h x0 v35).bind fun y36 =>
  (fX12_isDigit h y36).bind fun y38 =>
  if y38 = 0 then (
  (fX12_next_209 h x0).map (fun q => .inr q)) else (
    (gI h 12 x0 7).bind fun v42 =>
    (gI h 12 x0 6).bind fun v43 =>
    if (3 : Int32) ≤ (v42 - v43) then (
    fX12_next_196 h x0) else (
      (gI h 12 x0 10).bind fun v46 =>
      (gI h 12 x0 7).bind fun v47 =>
      gO h 12 x0 (
      (fX12_see h x0 v47).bind fun y48 =>
      (sV h 12 x0 10 (.int ((((10 : Int32) * v46) + y48) - (48 : Int32)))).bind fun h50 =>
      fX12_next_196 h50 x0))))
noncomputable def fX12_next_146 (h : Hp) (x0 : Nat) : Option Hp := lpw (σ := Hp) (fun s => fX12_next_146b s x0 ) h
theorem oX12_next_146b {d : Nat} (hd : 5 ≤ d) {h : Hp} {x0 : Nat} {rf : Option Value} {hf : Hp} {x : (Hp ⊕ Hp)} (hs : fX12_next_146b h x0 = some x) (hk : (Kx (pX12_next_146 d x0 rf hf) (kX12_next rf hf)) x) : Go d mX12_next 146 [some (.ref x0), none] [] h rf hf := by
  unfold fX12_next_146b at hs
  refine go_aload_n (k4 := 0) rfl (Or.inr ⟨_, rfl⟩) dX12_next_146 ?_
  refine go_aload_n (k4 := 0) rfl (Or.inr ⟨_, rfl⟩) dX12_next_147 ?_
  obtain ⟨v35, ev35, hs⟩ := bindS hs
  refine go_gI fl_RX12_114 ev35 dX12_next_148 ?_
  obtain ⟨g37, hs⟩ := gO_at hs
  obtain ⟨y36, ey36, hs⟩ := bindS hs
  refine go_V1 (As := [.int v35]) (st := []) g37 rfl rfl (oX12_see (d := d - 1) (by omega) ey36) (by omega) mb_X12_see lm_RX12_117 mi_X12_see (Nat.le_of_ble_eq_true rfl) rfl dX12_next_151 ?_
  obtain ⟨y38, ey38, hs⟩ := bindS hs
  refine go_S1 (As := [.int y36]) (st := []) (oX12_isDigit (d := d - 1) (by omega) ey38) (by omega) mb_X12_isDigit lm_RX12_131 ms_X12_isDigit (Nat.le_of_ble_eq_true rfl) rfl dX12_next_154 ?_
  refine go_if_eq (tgt := 209) (by decide) dX12_next_157 (fun c => ?_) (fun c => ?_)
  · have hs := if_t c hs
    obtain ⟨q, hs2, hq⟩ := mapS hs
    clear hs
    subst hq
    exact go_subL (L' := [some (.ref x0), none]) (by simp [subL, va_rf]) (oX12_next_209 hd hs2 hk)
  · have hs := if_f c hs
    refine go_aload_n (k4 := 0) rfl (Or.inr ⟨_, rfl⟩) dX12_next_160 ?_
    obtain ⟨v42, ev42, hs⟩ := bindS hs
    refine go_gI fl_RX12_114 ev42 dX12_next_161 ?_
    refine go_aload_n (k4 := 0) rfl (Or.inr ⟨_, rfl⟩) dX12_next_164 ?_
    obtain ⟨v43, ev43, hs⟩ := bindS hs
    refine go_gI fl_RX12_111 ev43 dX12_next_165 ?_
    refine go_isub dX12_next_168 ?_
    refine go_iconst (v := 3) (by decide) dX12_next_169 ?_
    refine go_icmp_ge (tgt := 196) (by decide) dX12_next_170 (fun c => ?_) (fun c => ?_)
    · have hs := if_t c hs
      exact go_subL (L' := [some (.ref x0), none]) (by simp [subL, va_rf]) (oX12_next_196 hd hs hk)
    · have hs := if_f c hs
      refine go_aload_n (k4 := 0) rfl (Or.inr ⟨_, rfl⟩) dX12_next_173 ?_
      refine go_bipush (v := 10) (by decide) dX12_next_174 ?_
      refine go_aload_n (k4 := 0) rfl (Or.inr ⟨_, rfl⟩) dX12_next_176 ?_
      obtain ⟨v46, ev46, hs⟩ := bindS hs
      refine go_gI fl_RX12_134 ev46 dX12_next_177 ?_
      refine go_imul dX12_next_180 ?_
      refine go_aload_n (k4 := 0) rfl (Or.inr ⟨_, rfl⟩) dX12_next_181 ?_
      refine go_aload_n (k4 := 0) rfl (Or.inr ⟨_, rfl⟩) dX12_next_182 ?_
      refine go_at 183 rfl ?_
      obtain ⟨v47, ev47, hs⟩ := bindS hs
      refine go_gI fl_RX12_114 ev47 dX12_next_183 ?_
      obtain ⟨g49, hs⟩ := gO_at hs
      obtain ⟨y48, ey48, hs⟩ := bindS hs
      refine go_V1 (As := [.int v47]) (st := [.int ((10 : Int32) * v46), .ref x0]) g49 rfl rfl (oX12_see (d := d - 1) (by omega) ey48) (by omega) mb_X12_see lm_RX12_117 mi_X12_see (Nat.le_of_ble_eq_true rfl) rfl dX12_next_186 ?_
      refine go_iadd dX12_next_189 ?_
      refine go_bipush (v := 48) (by decide) dX12_next_190 ?_
      refine go_isub dX12_next_192 ?_
      obtain ⟨h50, eh50, hs⟩ := bindS hs
      refine go_sV fw_RX12_134 eh50 rfl rfl dX12_next_193 ?_
      exact go_subL (L' := [some (.ref x0), none]) (by simp [subL, va_rf]) (oX12_next_196 hd hs hk)
theorem oX12_next_146 {d : Nat} (hd : 5 ≤ d) {h : Hp} {x0 : Nat} {rf : Option Value} {hf : Hp} {x : Hp} (hs : fX12_next_146 h x0 = some x) (hk : (kX12_next rf hf) x) : Go d mX12_next 146 [some (.ref x0), none] [] h rf hf := by
  unfold fX12_next_146 at hs
  exact lpw_go (P := pX12_next_146 d x0 rf hf) (fun s x hs hk => oX12_next_146b hd hs hk) h x hs hk
abbrev pX12_next_89 (d : Nat) (x0 : Nat) (rf : Option Value) (hf : Hp) : Hp → Prop := fun s => Go d mX12_next 89 [some (.ref x0), none] [] s rf hf
noncomputable def fX12_next_116 (h : Hp) (x0 : Nat) : Option Hp :=
  gO h 12 x0 (
  (fX12_keyAt h x0).bind fun y55 =>
  (sV h 12 x0 9 (.int y55)).bind fun h57 =>
  fX12_next_294 h57 )
theorem oX12_next_116 {d : Nat} (hd : 5 ≤ d) {h : Hp} {x0 : Nat} {rf : Option Value} {hf : Hp} {x : Hp} (hs : fX12_next_116 h x0 = some x) (hk : (kX12_next rf hf) x) : Go d mX12_next 116 [some (.ref x0), none] [] h rf hf := by
  unfold fX12_next_116 at hs
  refine go_aload_n (k4 := 0) rfl (Or.inr ⟨_, rfl⟩) dX12_next_116 ?_
  refine go_aload_n (k4 := 0) rfl (Or.inr ⟨_, rfl⟩) dX12_next_117 ?_
  obtain ⟨g56, hs⟩ := gO_at hs
  obtain ⟨y55, ey55, hs⟩ := bindS hs
  refine go_V1 (As := []) (st := [.ref x0]) g56 rfl rfl (oX12_keyAt (d := d - 1) (by omega) ey55) (by omega) mb_X12_keyAt lm_RX12_128 mi_X12_keyAt (Nat.le_of_ble_eq_true rfl) rfl dX12_next_118 ?_
  obtain ⟨h57, eh57, hs⟩ := bindS hs
  refine go_sV fw_RX12_121 eh57 rfl rfl dX12_next_121 ?_
  refine go_goto (tgt := 294) (by decide) dX12_next_124 ?_
  exact go_subL (L' := [none, none]) (by simp [subL, va_rf]) (oX12_next_294 hd hs hk)
noncomputable def fX12_next_89b (h : Hp) (x0 : Nat) : Option (Hp ⊕ Hp) :=
  (gI h 12 x0 7).bind fun v51 =>
  gO h 12 x0 (
  (fX12_see h x0 v51).bind fun y52 =>
  (fX12_isSmall h y52).bind fun y54 =>
  if y54 = 0 then (
  (fX12_next_116 h x0).map (fun q => .inr q)) else (
    (gI h 12 x0 7).bind fun v58 =>
    (sV h 12 x0 7 (.int (v58 + (1 : Int32)))).bind fun h59 =>
    some (.inl h59)))
noncomputable def fX12_next_89 (h : Hp) (x0 : Nat) : Option Hp := lpw (σ := Hp) (fun s => fX12_next_89b s x0 ) h
theorem oX12_next_89b {d : Nat} (hd : 5 ≤ d) {h : Hp} {x0 : Nat} {rf : Option Value} {hf : Hp} {x : (Hp ⊕ Hp)} (hs : fX12_next_89b h x0 = some x) (hk : (Kx (pX12_next_89 d x0 rf hf) (kX12_next rf hf)) x) : Go d mX12_next 89 [some (.ref x0), none] [] h rf hf := by
  unfold fX12_next_89b at hs
  refine go_aload_n (k4 := 0) rfl (Or.inr ⟨_, rfl⟩) dX12_next_89 ?_
  refine go_aload_n (k4 := 0) rfl (Or.inr ⟨_, rfl⟩) dX12_next_90 ?_
  obtain ⟨v51, ev51, hs⟩ := bindS hs
  refine go_gI fl_RX12_114 ev51 dX12_next_91 ?_
  obtain ⟨g53, hs⟩ := gO_at hs
  obtain ⟨y52, ey52, hs⟩ := bindS hs
  refine go_V1 (As := [.int v51]) (st := []) g53 rfl rfl (oX12_see (d := d - 1) (by omega) ey52) (by omega) mb_X12_see lm_RX12_117 mi_X12_see (Nat.le_of_ble_eq_true rfl) rfl dX12_next_94 ?_
  obtain ⟨y54, ey54, hs⟩ := bindS hs
  refine go_S1 (As := [.int y52]) (st := []) (oX12_isSmall (d := d - 1) (by omega) ey54) (by omega) mb_X12_isSmall lm_RX12_124 ms_X12_isSmall (Nat.le_of_ble_eq_true rfl) rfl dX12_next_97 ?_
  refine go_if_eq (tgt := 116) (by decide) dX12_next_100 (fun c => ?_) (fun c => ?_)
  · have hs := if_t c hs
    obtain ⟨q, hs2, hq⟩ := mapS hs
    clear hs
    subst hq
    exact go_subL (L' := [some (.ref x0), none]) (by simp [subL, va_rf]) (oX12_next_116 hd hs2 hk)
  · have hs := if_f c hs
    refine go_aload_n (k4 := 0) rfl (Or.inr ⟨_, rfl⟩) dX12_next_103 ?_
    refine go_dup rfl dX12_next_104 ?_
    obtain ⟨v58, ev58, hs⟩ := bindS hs
    refine go_gI fl_RX12_114 ev58 dX12_next_105 ?_
    refine go_iconst (v := 1) (by decide) dX12_next_108 ?_
    refine go_iadd dX12_next_109 ?_
    obtain ⟨h59, eh59, hs⟩ := bindS hs
    refine go_sV fw_RX12_114 eh59 rfl rfl dX12_next_110 ?_
    refine go_goto (tgt := 89) (by decide) dX12_next_113 ?_
    obtain rfl := Option.some.inj hs
    exact go_subL (L' := [some (.ref x0), none]) (by simp [subL, va_rf]) hk
theorem oX12_next_89 {d : Nat} (hd : 5 ≤ d) {h : Hp} {x0 : Nat} {rf : Option Value} {hf : Hp} {x : Hp} (hs : fX12_next_89 h x0 = some x) (hk : (kX12_next rf hf) x) : Go d mX12_next 89 [some (.ref x0), none] [] h rf hf := by
  unfold fX12_next_89 at hs
  exact lpw_go (P := pX12_next_89 d x0 rf hf) (fun s x hs hk => oX12_next_89b hd hs hk) h x hs hk
noncomputable def fX12_next_47 (h : Hp) (x0 : Nat) : Option Hp :=
  (gI h 12 x0 6).bind fun v11 =>
  (sV h 12 x0 7 (.int v11)).bind fun h12 =>
  (gI h12 12 x0 6).bind fun v13 =>
  (gI h12 12 x0 8).bind fun v14 =>
  if v13 < v14 then (
    (gI h12 12 x0 6).bind fun v15 =>
    gO h12 12 x0 (
    (fX12_see h12 x0 v15).bind fun y16 =>
    (fX12_isSmall h12 y16).bind fun y18 =>
    if y18 = 0 then (
      (gI h12 12 x0 6).bind fun v19 =>
      gO h12 12 x0 (
      (fX12_see h12 x0 v19).bind fun y20 =>
      (fX12_isDigit h12 y20).bind fun y22 =>
      if y22 = 0 then (
        (gI h12 12 x0 7).bind fun v23 =>
        (sV h12 12 x0 7 (.int (v23 + (1 : Int32)))).bind fun h24 =>
        (sV h24 12 x0 9 (.int (25 : Int32))).bind fun h25 =>
        fX12_next_254 h25 x0 (0 : Int32)) else (
        (sV h12 12 x0 10 (.int (0 : Int32))).bind fun h34 =>
        fX12_next_146 h34 x0))) else (
    fX12_next_89 h12 x0))) else (
    (sV h12 12 x0 9 (.int (24 : Int32))).bind fun h60 =>
    fX12_next_294 h60 )
theorem oX12_next_47 {d : Nat} (hd : 5 ≤ d) {h : Hp} {x0 : Nat} {rf : Option Value} {hf : Hp} {x : Hp} (hs : fX12_next_47 h x0 = some x) (hk : (kX12_next rf hf) x) : Go d mX12_next 47 [some (.ref x0), none] [] h rf hf := by
  unfold fX12_next_47 at hs
  refine go_aload_n (k4 := 0) rfl (Or.inr ⟨_, rfl⟩) dX12_next_47 ?_
  refine go_aload_n (k4 := 0) rfl (Or.inr ⟨_, rfl⟩) dX12_next_48 ?_
  obtain ⟨v11, ev11, hs⟩ := bindS hs
  refine go_gI fl_RX12_111 ev11 dX12_next_49 ?_
  obtain ⟨h12, eh12, hs⟩ := bindS hs
  refine go_sV fw_RX12_114 eh12 rfl rfl dX12_next_52 ?_
  refine go_aload_n (k4 := 0) rfl (Or.inr ⟨_, rfl⟩) dX12_next_55 ?_
  obtain ⟨v13, ev13, hs⟩ := bindS hs
  refine go_gI fl_RX12_111 ev13 dX12_next_56 ?_
  refine go_aload_n (k4 := 0) rfl (Or.inr ⟨_, rfl⟩) dX12_next_59 ?_
  refine go_at 60 rfl ?_
  obtain ⟨v14, ev14, hs⟩ := bindS hs
  refine go_gI fl_RX12_96 ev14 dX12_next_60 ?_
  refine go_icmp_lt (tgt := 75) (by decide) dX12_next_63 (fun c => ?_) (fun c => ?_)
  · have hs := if_t c hs
    refine go_aload_n (k4 := 0) rfl (Or.inr ⟨_, rfl⟩) dX12_next_75 ?_
    refine go_aload_n (k4 := 0) rfl (Or.inr ⟨_, rfl⟩) dX12_next_76 ?_
    obtain ⟨v15, ev15, hs⟩ := bindS hs
    refine go_gI fl_RX12_111 ev15 dX12_next_77 ?_
    obtain ⟨g17, hs⟩ := gO_at hs
    obtain ⟨y16, ey16, hs⟩ := bindS hs
    refine go_V1 (As := [.int v15]) (st := []) g17 rfl rfl (oX12_see (d := d - 1) (by omega) ey16) (by omega) mb_X12_see lm_RX12_117 mi_X12_see (Nat.le_of_ble_eq_true rfl) rfl dX12_next_80 ?_
    obtain ⟨y18, ey18, hs⟩ := bindS hs
    refine go_S1 (As := [.int y16]) (st := []) (oX12_isSmall (d := d - 1) (by omega) ey18) (by omega) mb_X12_isSmall lm_RX12_124 ms_X12_isSmall (Nat.le_of_ble_eq_true rfl) rfl dX12_next_83 ?_
    refine go_if_eq (tgt := 127) (by decide) dX12_next_86 (fun c => ?_) (fun c => ?_)
    · have hs := if_t c hs
      refine go_aload_n (k4 := 0) rfl (Or.inr ⟨_, rfl⟩) dX12_next_127 ?_
      refine go_aload_n (k4 := 0) rfl (Or.inr ⟨_, rfl⟩) dX12_next_128 ?_
      obtain ⟨v19, ev19, hs⟩ := bindS hs
      refine go_gI fl_RX12_111 ev19 dX12_next_129 ?_
      obtain ⟨g21, hs⟩ := gO_at hs
      obtain ⟨y20, ey20, hs⟩ := bindS hs
      refine go_V1 (As := [.int v19]) (st := []) g21 rfl rfl (oX12_see (d := d - 1) (by omega) ey20) (by omega) mb_X12_see lm_RX12_117 mi_X12_see (Nat.le_of_ble_eq_true rfl) rfl dX12_next_132 ?_
      obtain ⟨y22, ey22, hs⟩ := bindS hs
      refine go_S1 (As := [.int y20]) (st := []) (oX12_isDigit (d := d - 1) (by omega) ey22) (by omega) mb_X12_isDigit lm_RX12_131 ms_X12_isDigit (Nat.le_of_ble_eq_true rfl) rfl dX12_next_135 ?_
      refine go_if_eq (tgt := 236) (by decide) dX12_next_138 (fun c => ?_) (fun c => ?_)
      · have hs := if_t c hs
        refine go_aload_n (k4 := 0) rfl (Or.inr ⟨_, rfl⟩) dX12_next_236 ?_
        refine go_dup rfl dX12_next_237 ?_
        obtain ⟨v23, ev23, hs⟩ := bindS hs
        refine go_gI fl_RX12_114 ev23 dX12_next_238 ?_
        refine go_iconst (v := 1) (by decide) dX12_next_241 ?_
        refine go_iadd dX12_next_242 ?_
        obtain ⟨h24, eh24, hs⟩ := bindS hs
        refine go_sV fw_RX12_114 eh24 rfl rfl dX12_next_243 ?_
        refine go_aload_n (k4 := 0) rfl (Or.inr ⟨_, rfl⟩) dX12_next_246 ?_
        refine go_at 247 rfl ?_
        refine go_bipush (v := 25) (by decide) dX12_next_247 ?_
        obtain ⟨h25, eh25, hs⟩ := bindS hs
        refine go_sV fw_RX12_121 eh25 rfl rfl dX12_next_249 ?_
        refine go_iconst (v := 0) (by decide) dX12_next_252 ?_
        refine go_istore_n (k4 := 1) (L' := [some (.ref x0), some (.int (0 : Int32))]) (by decide) rfl dX12_next_253 ?_
        exact go_subL (L' := [some (.ref x0), some (.int (0 : Int32))]) (by simp [subL, va_rf]) (oX12_next_254 hd hs hk)
      · have hs := if_f c hs
        refine go_aload_n (k4 := 0) rfl (Or.inr ⟨_, rfl⟩) dX12_next_141 ?_
        refine go_iconst (v := 0) (by decide) dX12_next_142 ?_
        obtain ⟨h34, eh34, hs⟩ := bindS hs
        refine go_sV fw_RX12_134 eh34 rfl rfl dX12_next_143 ?_
        exact go_subL (L' := [some (.ref x0), none]) (by simp [subL, va_rf]) (oX12_next_146 hd hs hk)
    · have hs := if_f c hs
      exact go_subL (L' := [some (.ref x0), none]) (by simp [subL, va_rf]) (oX12_next_89 hd hs hk)
  · have hs := if_f c hs
    refine go_aload_n (k4 := 0) rfl (Or.inr ⟨_, rfl⟩) dX12_next_66 ?_
    refine go_bipush (v := 24) (by decide) dX12_next_67 ?_
    obtain ⟨h60, eh60, hs⟩ := bindS hs
    refine go_sV fw_RX12_121 eh60 rfl rfl dX12_next_69 ?_
    refine go_goto (tgt := 294) (by decide) dX12_next_72 ?_
    exact go_subL (L' := [none, none]) (by simp [subL, va_rf]) (oX12_next_294 hd hs hk)
noncomputable def fX12_next_8b (h : Hp) (x0 : Nat) : Option (Hp ⊕ Hp) :=
  (gI h 12 x0 6).bind fun v3 =>
  gO h 12 x0 (
  (fX12_see h x0 v3).bind fun y4 =>
  if y4 = (10 : Int32) then (
  fX12_next_34 h x0) else (
    (gI h 12 x0 6).bind fun v8 =>
    gO h 12 x0 (
    (fX12_see h x0 v8).bind fun y9 =>
    if y9 = (32 : Int32) then (
    fX12_next_34 h x0) else (
    (fX12_next_47 h x0).map (fun q => .inr q)))))
noncomputable def fX12_next_8 (h : Hp) (x0 : Nat) : Option Hp := lpw (σ := Hp) (fun s => fX12_next_8b s x0 ) h
theorem oX12_next_8b {d : Nat} (hd : 5 ≤ d) {h : Hp} {x0 : Nat} {rf : Option Value} {hf : Hp} {x : (Hp ⊕ Hp)} (hs : fX12_next_8b h x0 = some x) (hk : (Kx (pX12_next_8 d x0 rf hf) (kX12_next rf hf)) x) : Go d mX12_next 8 [some (.ref x0), none] [] h rf hf := by
  unfold fX12_next_8b at hs
  refine go_aload_n (k4 := 0) rfl (Or.inr ⟨_, rfl⟩) dX12_next_8 ?_
  refine go_aload_n (k4 := 0) rfl (Or.inr ⟨_, rfl⟩) dX12_next_9 ?_
  obtain ⟨v3, ev3, hs⟩ := bindS hs
  refine go_gI fl_RX12_111 ev3 dX12_next_10 ?_
  obtain ⟨g5, hs⟩ := gO_at hs
  obtain ⟨y4, ey4, hs⟩ := bindS hs
  refine go_V1 (As := [.int v3]) (st := []) g5 rfl rfl (oX12_see (d := d - 1) (by omega) ey4) (by omega) mb_X12_see lm_RX12_117 mi_X12_see (Nat.le_of_ble_eq_true rfl) rfl dX12_next_13 ?_
  refine go_bipush (v := 10) (by decide) dX12_next_16 ?_
  refine go_icmp_eq (tgt := 34) (by decide) dX12_next_18 (fun c => ?_) (fun c => ?_)
  · have hs := if_t c hs
    exact go_subL (L' := [some (.ref x0), none]) (by simp [subL, va_rf]) (oX12_next_34 hd hs hk)
  · have hs := if_f c hs
    refine go_aload_n (k4 := 0) rfl (Or.inr ⟨_, rfl⟩) dX12_next_21 ?_
    refine go_aload_n (k4 := 0) rfl (Or.inr ⟨_, rfl⟩) dX12_next_22 ?_
    obtain ⟨v8, ev8, hs⟩ := bindS hs
    refine go_gI fl_RX12_111 ev8 dX12_next_23 ?_
    obtain ⟨g10, hs⟩ := gO_at hs
    obtain ⟨y9, ey9, hs⟩ := bindS hs
    refine go_V1 (As := [.int v8]) (st := []) g10 rfl rfl (oX12_see (d := d - 1) (by omega) ey9) (by omega) mb_X12_see lm_RX12_117 mi_X12_see (Nat.le_of_ble_eq_true rfl) rfl dX12_next_26 ?_
    refine go_bipush (v := 32) (by decide) dX12_next_29 ?_
    refine go_icmp_ne (tgt := 47) (by decide) dX12_next_31 (fun c => ?_) (fun c => ?_)
    · have hs := if_f c hs
      obtain ⟨q, hs2, hq⟩ := mapS hs
      clear hs
      subst hq
      exact go_subL (L' := [some (.ref x0), none]) (by simp [subL, va_rf]) (oX12_next_47 hd hs2 hk)
    · have hs := if_t c hs
      exact go_subL (L' := [some (.ref x0), none]) (by simp [subL, va_rf]) (oX12_next_34 hd hs hk)
theorem oX12_next_8 {d : Nat} (hd : 5 ≤ d) {h : Hp} {x0 : Nat} {rf : Option Value} {hf : Hp} {x : Hp} (hs : fX12_next_8 h x0 = some x) (hk : (kX12_next rf hf) x) : Go d mX12_next 8 [some (.ref x0), none] [] h rf hf := by
  unfold fX12_next_8 at hs
  exact lpw_go (P := pX12_next_8 d x0 rf hf) (fun s x hs hk => oX12_next_8b hd hs hk) h x hs hk
noncomputable def fX12_next (h : Hp) (x0 : Nat) : Option Hp :=
  (gI h 12 x0 7).bind fun v1 =>
  (sV h 12 x0 6 (.int v1)).bind fun h2 =>
  fX12_next_8 h2 x0
theorem oX12_next_0 {d : Nat} (hd : 5 ≤ d) {h : Hp} {x0 : Nat} {rf : Option Value} {hf : Hp} {x : Hp} (hs : fX12_next h x0 = some x) (hk : (kX12_next rf hf) x) : Go d mX12_next 0 [some (.ref x0), none] [] h rf hf := by
  unfold fX12_next at hs
  refine go_aload_n (k4 := 0) rfl (Or.inr ⟨_, rfl⟩) dX12_next_0 ?_
  refine go_aload_n (k4 := 0) rfl (Or.inr ⟨_, rfl⟩) dX12_next_1 ?_
  obtain ⟨v1, ev1, hs⟩ := bindS hs
  refine go_gI fl_RX12_114 ev1 dX12_next_2 ?_
  obtain ⟨h2, eh2, hs⟩ := bindS hs
  refine go_sV fw_RX12_111 eh2 rfl rfl dX12_next_5 ?_
  exact go_subL (L' := [some (.ref x0), none]) (by simp [subL, va_rf]) (oX12_next_8 hd hs hk)
theorem oX12_next {d : Nat} (hd : 5 ≤ d) {h : Hp} {x0 : Nat} {y : Hp} (hs : fX12_next h x0 = some y) : Call d mX12_next [.ref x0] h (none) y := call_of (by decide +kernel) (Nat.le_of_ble_eq_true rfl) (show Go d mX12_next 0 [some (.ref x0), none] [] h _ _ from go_subL (by simp [subL]) (oX12_next_0 hd hs ⟨rfl, rfl⟩))
abbrev kX12_fails (rf : Option Value) (hf : Hp) : Hp → Prop := fun y => rf = none ∧ hf = y
noncomputable def fX12_fails_23 (h : Hp) (x0 : Nat) (s0 : Nat) (s1 : Int32) : Option Hp :=
  (sV h 12 s0 11 (.int s1)).bind fun h3 =>
  (gI h3 12 x0 6).bind fun v4 =>
  (sV h3 12 x0 12 (.int v4)).bind fun h5 =>
  some (h5)
theorem oX12_fails_23 {d : Nat} (hd : 0 ≤ d) {h : Hp} {x0 : Nat} {s0 : Nat} {s1 : Int32} {rf : Option Value} {hf : Hp} {x : Hp} (hs : fX12_fails_23 h x0 s0 s1 = some x) (hk : (kX12_fails rf hf) x) : Go d mX12_fails 23 [some (.ref x0), none] [.int s1, .ref s0] h rf hf := by
  unfold fX12_fails_23 at hs
  obtain ⟨h3, eh3, hs⟩ := bindS hs
  refine go_sV fw_RX12_139 eh3 rfl rfl dX12_fails_23 ?_
  refine go_aload_n (k4 := 0) rfl (Or.inr ⟨_, rfl⟩) dX12_fails_26 ?_
  refine go_aload_n (k4 := 0) rfl (Or.inr ⟨_, rfl⟩) dX12_fails_27 ?_
  obtain ⟨v4, ev4, hs⟩ := bindS hs
  refine go_gI fl_RX12_111 ev4 dX12_fails_28 ?_
  obtain ⟨h5, eh5, hs⟩ := bindS hs
  refine go_sV fw_RX12_142 eh5 rfl rfl dX12_fails_31 ?_
  obtain rfl := Option.some.inj hs
  obtain ⟨rfl, rfl⟩ := hk
  exact go_vret rfl dX12_fails_34
noncomputable def fX12_fails (h : Hp) (x0 : Nat) (x1 : Int32) : Option Hp :=
  (gI h 12 x0 11).bind fun v1 =>
  if v1 = 0 then (
    (gI h 12 x0 9).bind fun v2 =>
    if v2 = (25 : Int32) then (
      fX12_fails_23 h x0 x0 (1 : Int32)) else (
      fX12_fails_23 h x0 x0 x1)) else (
    some (h))
theorem oX12_fails_0 {d : Nat} (hd : 0 ≤ d) {h : Hp} {x0 : Nat} {x1 : Int32} {rf : Option Value} {hf : Hp} {x : Hp} (hs : fX12_fails h x0 x1 = some x) (hk : (kX12_fails rf hf) x) : Go d mX12_fails 0 [some (.ref x0), some (.int x1)] [] h rf hf := by
  unfold fX12_fails at hs
  refine go_aload_n (k4 := 0) rfl (Or.inr ⟨_, rfl⟩) dX12_fails_0 ?_
  obtain ⟨v1, ev1, hs⟩ := bindS hs
  refine go_gI fl_RX12_139 ev1 dX12_fails_1 ?_
  refine go_if_eq (tgt := 8) (by decide) dX12_fails_4 (fun c => ?_) (fun c => ?_)
  · have hs := if_t c hs
    refine go_aload_n (k4 := 0) rfl (Or.inr ⟨_, rfl⟩) dX12_fails_8 ?_
    refine go_aload_n (k4 := 0) rfl (Or.inr ⟨_, rfl⟩) dX12_fails_9 ?_
    obtain ⟨v2, ev2, hs⟩ := bindS hs
    refine go_gI fl_RX12_121 ev2 dX12_fails_10 ?_
    refine go_bipush (v := 25) (by decide) dX12_fails_13 ?_
    refine go_icmp_ne (tgt := 22) (by decide) dX12_fails_15 (fun c => ?_) (fun c => ?_)
    · have hs := if_f c hs
      refine go_iload_n (k4 := 1) rfl dX12_fails_22 ?_
      exact go_subL (L' := [some (.ref x0), none]) (by simp [subL, va_rf]) (oX12_fails_23 hd hs hk)
    · have hs := if_t c hs
      refine go_iconst (v := 1) (by decide) dX12_fails_18 ?_
      refine go_goto (tgt := 23) (by decide) dX12_fails_19 ?_
      exact go_subL (L' := [some (.ref x0), none]) (by simp [subL, va_rf]) (oX12_fails_23 hd hs hk)
  · have hs := if_f c hs
    obtain rfl := Option.some.inj hs
    obtain ⟨rfl, rfl⟩ := hk
    exact go_vret rfl dX12_fails_7
theorem oX12_fails {d : Nat} (hd : 0 ≤ d) {h : Hp} {x0 : Nat} {x1 : Int32} {y : Hp} (hs : fX12_fails h x0 x1 = some y) : Call d mX12_fails [.ref x0, .int x1] h (none) y := call_of (by decide +kernel) (Nat.le_of_ble_eq_true rfl) (show Go d mX12_fails 0 [some (.ref x0), some (.int x1)] [] h _ _ from go_subL (by simp [subL]) (oX12_fails_0 hd hs ⟨rfl, rfl⟩))
abbrev kX12_is (h : Hp) (rf : Option Value) (hf : Hp) : Int32 → Prop := fun y => rf = some (.int y) ∧ hf = h
noncomputable def fX12_is_20 (h : Hp) (s0 : Int32) : Option Int32 :=
  bl s0 (some (s0))
theorem oX12_is_20 {d : Nat} (hd : 0 ≤ d) {h : Hp} {s0 : Int32} {rf : Option Value} {hf : Hp} {x : Int32} (hs : fX12_is_20 h s0 = some x) (hk : (kX12_is h rf hf) x) : Go d mX12_is 20 [none, none] [.int s0] h rf hf := by
  unfold fX12_is_20 at hs
  obtain ⟨n1, n2, hs⟩ := bl_at hs
  obtain rfl := Option.some.inj hs
  obtain ⟨rfl, rfl⟩ := hk
  exact go_zret (ty := .boolean) rfl n1 dX12_is_20
noncomputable def fX12_is_19 (h : Hp)  : Option Int32 :=
  fX12_is_20 h (0 : Int32)
theorem oX12_is_19 {d : Nat} (hd : 0 ≤ d) {h : Hp} {rf : Option Value} {hf : Hp} {x : Int32} (hs : fX12_is_19 h  = some x) (hk : (kX12_is h rf hf) x) : Go d mX12_is 19 [none, none] [] h rf hf := by
  unfold fX12_is_19 at hs
  refine go_iconst (v := 0) (by decide) dX12_is_19 ?_
  exact go_subL (L' := [none, none]) (by simp [subL, va_rf]) (oX12_is_20 hd hs hk)
noncomputable def fX12_is (h : Hp) (x0 : Nat) (x1 : Int32) : Option Int32 :=
  (gI h 12 x0 11).bind fun v1 =>
  if v1 = 0 then (
    (gI h 12 x0 9).bind fun v2 =>
    if v2 = x1 then (
      fX12_is_20 h (1 : Int32)) else (
    fX12_is_19 h )) else (
  fX12_is_19 h )
theorem oX12_is_0 {d : Nat} (hd : 0 ≤ d) {h : Hp} {x0 : Nat} {x1 : Int32} {rf : Option Value} {hf : Hp} {x : Int32} (hs : fX12_is h x0 x1 = some x) (hk : (kX12_is h rf hf) x) : Go d mX12_is 0 [some (.ref x0), some (.int x1)] [] h rf hf := by
  unfold fX12_is at hs
  refine go_aload_n (k4 := 0) rfl (Or.inr ⟨_, rfl⟩) dX12_is_0 ?_
  obtain ⟨v1, ev1, hs⟩ := bindS hs
  refine go_gI fl_RX12_139 ev1 dX12_is_1 ?_
  refine go_if_ne (tgt := 19) (by decide) dX12_is_4 (fun c => ?_) (fun c => ?_)
  · have hs := if_f c hs
    exact go_subL (L' := [none, none]) (by simp [subL, va_rf]) (oX12_is_19 hd hs hk)
  · have hs := if_t c hs
    refine go_aload_n (k4 := 0) rfl (Or.inr ⟨_, rfl⟩) dX12_is_7 ?_
    obtain ⟨v2, ev2, hs⟩ := bindS hs
    refine go_gI fl_RX12_121 ev2 dX12_is_8 ?_
    refine go_iload_n (k4 := 1) rfl dX12_is_11 ?_
    refine go_icmp_ne (tgt := 19) (by decide) dX12_is_12 (fun c => ?_) (fun c => ?_)
    · have hs := if_f c hs
      exact go_subL (L' := [none, none]) (by simp [subL, va_rf]) (oX12_is_19 hd hs hk)
    · have hs := if_t c hs
      refine go_iconst (v := 1) (by decide) dX12_is_15 ?_
      refine go_goto (tgt := 20) (by decide) dX12_is_16 ?_
      exact go_subL (L' := [none, none]) (by simp [subL, va_rf]) (oX12_is_20 hd hs hk)
theorem oX12_is {d : Nat} (hd : 0 ≤ d) {h : Hp} {x0 : Nat} {x1 : Int32} {y : Int32} (hs : fX12_is h x0 x1 = some y) : Call d mX12_is [.ref x0, .int x1] h (some (.int y)) h := call_of (by decide +kernel) (Nat.le_of_ble_eq_true rfl) (show Go d mX12_is 0 [some (.ref x0), some (.int x1)] [] h _ _ from go_subL (by simp [subL]) (oX12_is_0 hd hs ⟨rfl, rfl⟩))
abbrev kX12_eats (rf : Option Value) (hf : Hp) : (Int32 × Hp) → Prop := fun y => rf = some (.int y.1) ∧ hf = y.2
noncomputable def fX12_eats (h : Hp) (x0 : Nat) (x1 : Int32) : Option (Int32 × Hp) :=
  gO h 12 x0 (
  (fX12_is h x0 x1).bind fun y1 =>
  if y1 = 0 then (
    some (((0 : Int32), h))) else (
    gO h 12 x0 (
    (fX12_next h x0).bind fun y3 =>
    some (((1 : Int32), y3)))))
theorem oX12_eats_0 {d : Nat} (hd : 6 ≤ d) {h : Hp} {x0 : Nat} {x1 : Int32} {rf : Option Value} {hf : Hp} {x : (Int32 × Hp)} (hs : fX12_eats h x0 x1 = some x) (hk : (kX12_eats rf hf) x) : Go d mX12_eats 0 [some (.ref x0), some (.int x1)] [] h rf hf := by
  unfold fX12_eats at hs
  refine go_aload_n (k4 := 0) rfl (Or.inr ⟨_, rfl⟩) dX12_eats_0 ?_
  refine go_iload_n (k4 := 1) rfl dX12_eats_1 ?_
  obtain ⟨g2, hs⟩ := gO_at hs
  obtain ⟨y1, ey1, hs⟩ := bindS hs
  refine go_V1 (As := [.int x1]) (st := []) g2 rfl rfl (oX12_is (d := d - 1) (by omega) ey1) (by omega) mb_X12_is lm_RX12_145 mi_X12_is (Nat.le_of_ble_eq_true rfl) rfl dX12_eats_2 ?_
  refine go_if_ne (tgt := 10) (by decide) dX12_eats_5 (fun c => ?_) (fun c => ?_)
  · have hs := if_f c hs
    refine go_aload_n (k4 := 0) rfl (Or.inr ⟨_, rfl⟩) dX12_eats_10 ?_
    obtain ⟨g4, hs⟩ := gO_at hs
    obtain ⟨y3, ey3, hs⟩ := bindS hs
    refine go_V0 (As := []) (st := []) g4 rfl rfl (oX12_next (d := d - 1) (by omega) ey3) (by omega) mb_X12_next lm_RX12_148 mi_X12_next (Nat.le_of_ble_eq_true rfl) rfl dX12_eats_11 ?_
    refine go_iconst (v := 1) (by decide) dX12_eats_14 ?_
    obtain rfl := Option.some.inj hs
    obtain ⟨rfl, rfl⟩ := hk
    exact go_zret (ty := .boolean) rfl rfl dX12_eats_15
  · have hs := if_t c hs
    refine go_iconst (v := 0) (by decide) dX12_eats_8 ?_
    obtain rfl := Option.some.inj hs
    obtain ⟨rfl, rfl⟩ := hk
    exact go_zret (ty := .boolean) rfl rfl dX12_eats_9
theorem oX12_eats {d : Nat} (hd : 6 ≤ d) {h : Hp} {x0 : Nat} {x1 : Int32} {y : (Int32 × Hp)} (hs : fX12_eats h x0 x1 = some y) : Call d mX12_eats [.ref x0, .int x1] h (some (.int y.1)) (y.2) := call_of (by decide +kernel) (Nat.le_of_ble_eq_true rfl) (show Go d mX12_eats 0 [some (.ref x0), some (.int x1)] [] h _ _ from go_subL (by simp [subL]) (oX12_eats_0 hd hs ⟨rfl, rfl⟩))
abbrev kX12_takes (rf : Option Value) (hf : Hp) : (Int32 × Hp) → Prop := fun y => rf = some (.int y.1) ∧ hf = y.2
noncomputable def fX12_takes_53 (h : Hp) (x3 : Int32) : Option (Int32 × Hp) :=
  some ((x3, h))
theorem oX12_takes_53 {d : Nat} (hd : 6 ≤ d) {h : Hp} {x3 : Int32} {rf : Option Value} {hf : Hp} {x : (Int32 × Hp)} (hs : fX12_takes_53 h x3 = some x) (hk : (kX12_takes rf hf) x) : Go d mX12_takes 53 [none, none, none, some (.int x3)] [] h rf hf := by
  unfold fX12_takes_53 at hs
  refine go_iload_n (k4 := 3) rfl dX12_takes_53 ?_
  obtain rfl := Option.some.inj hs
  obtain ⟨rfl, rfl⟩ := hk
  exact go_iret rfl dX12_takes_54
noncomputable def fX12_takes_37 (h : Hp) (x0 : Nat) : Option (Int32 × Hp) :=
  (gI h 12 x0 10).bind fun v5 =>
  (gI h 12 x0 11).bind fun v6 =>
  if v6 = 0 then (
    gO h 12 x0 (
    (fX12_next h x0).bind fun y7 =>
    fX12_takes_53 y7 v5)) else (
  fX12_takes_53 h v5)
theorem oX12_takes_37 {d : Nat} (hd : 6 ≤ d) {h : Hp} {x0 : Nat} {rf : Option Value} {hf : Hp} {x : (Int32 × Hp)} (hs : fX12_takes_37 h x0 = some x) (hk : (kX12_takes rf hf) x) : Go d mX12_takes 37 [some (.ref x0), none, none, none] [] h rf hf := by
  unfold fX12_takes_37 at hs
  refine go_aload_n (k4 := 0) rfl (Or.inr ⟨_, rfl⟩) dX12_takes_37 ?_
  obtain ⟨v5, ev5, hs⟩ := bindS hs
  refine go_gI fl_RX12_134 ev5 dX12_takes_38 ?_
  refine go_istore_n (k4 := 3) (L' := [some (.ref x0), none, none, some (.int v5)]) (by decide) rfl dX12_takes_41 ?_
  refine go_aload_n (k4 := 0) rfl (Or.inr ⟨_, rfl⟩) dX12_takes_42 ?_
  obtain ⟨v6, ev6, hs⟩ := bindS hs
  refine go_gI fl_RX12_139 ev6 dX12_takes_43 ?_
  refine go_if_ne (tgt := 53) (by decide) dX12_takes_46 (fun c => ?_) (fun c => ?_)
  · have hs := if_f c hs
    exact go_subL (L' := [none, none, none, some (.int v5)]) (by simp [subL, va_rf]) (oX12_takes_53 hd hs hk)
  · have hs := if_t c hs
    refine go_aload_n (k4 := 0) rfl (Or.inr ⟨_, rfl⟩) dX12_takes_49 ?_
    obtain ⟨g8, hs⟩ := gO_at hs
    obtain ⟨y7, ey7, hs⟩ := bindS hs
    refine go_V0 (As := []) (st := []) g8 rfl rfl (oX12_next (d := d - 1) (by omega) ey7) (by omega) mb_X12_next lm_RX12_148 mi_X12_next (Nat.le_of_ble_eq_true rfl) rfl dX12_takes_50 ?_
    exact go_subL (L' := [none, none, none, some (.int v5)]) (by simp [subL, va_rf]) (oX12_takes_53 hd hs hk)
noncomputable def fX12_takes (h : Hp) (x0 : Nat) (x1 : Int32) (x2 : Int32) : Option (Int32 × Hp) :=
  gO h 12 x0 (
  (fX12_is h x0 (23 : Int32)).bind fun y1 =>
  if y1 = 0 then (
    gO h 12 x0 (
    (fX12_fails h x0 (2 : Int32)).bind fun y11 =>
    fX12_takes_37 y11 x0)) else (
    (gI h 12 x0 10).bind fun v3 =>
    (fX12_within h (v3.toInt64) (x1.toInt64) (x2.toInt64)).bind fun y4 =>
    if y4 = 0 then (
      gO h 12 x0 (
      (fX12_fails h x0 (3 : Int32)).bind fun y9 =>
      fX12_takes_37 y9 x0)) else (
    fX12_takes_37 h x0)))
theorem oX12_takes_0 {d : Nat} (hd : 6 ≤ d) {h : Hp} {x0 : Nat} {x1 : Int32} {x2 : Int32} {rf : Option Value} {hf : Hp} {x : (Int32 × Hp)} (hs : fX12_takes h x0 x1 x2 = some x) (hk : (kX12_takes rf hf) x) : Go d mX12_takes 0 [some (.ref x0), some (.int x1), some (.int x2), none] [] h rf hf := by
  unfold fX12_takes at hs
  refine go_aload_n (k4 := 0) rfl (Or.inr ⟨_, rfl⟩) dX12_takes_0 ?_
  refine go_bipush (v := 23) (by decide) dX12_takes_1 ?_
  obtain ⟨g2, hs⟩ := gO_at hs
  obtain ⟨y1, ey1, hs⟩ := bindS hs
  refine go_V1 (As := [.int (23 : Int32)]) (st := []) g2 rfl rfl (oX12_is (d := d - 1) (by omega) ey1) (by omega) mb_X12_is lm_RX12_145 mi_X12_is (Nat.le_of_ble_eq_true rfl) rfl dX12_takes_3 ?_
  refine go_if_ne (tgt := 17) (by decide) dX12_takes_6 (fun c => ?_) (fun c => ?_)
  · have hs := if_f c hs
    refine go_aload_n (k4 := 0) rfl (Or.inr ⟨_, rfl⟩) dX12_takes_17 ?_
    obtain ⟨v3, ev3, hs⟩ := bindS hs
    refine go_gI fl_RX12_134 ev3 dX12_takes_18 ?_
    refine go_i2l dX12_takes_21 ?_
    refine go_iload_n (k4 := 1) rfl dX12_takes_22 ?_
    refine go_i2l dX12_takes_23 ?_
    refine go_iload_n (k4 := 2) rfl dX12_takes_24 ?_
    refine go_i2l dX12_takes_25 ?_
    refine go_at 26 rfl ?_
    obtain ⟨y4, ey4, hs⟩ := bindS hs
    refine go_S1 (As := [.long (v3.toInt64), .long (x1.toInt64), .long (x2.toInt64)]) (st := []) (oX12_within (d := d - 1) (by omega) ey4) (by omega) mb_X12_within lm_RX12_155 ms_X12_within (Nat.le_of_ble_eq_true rfl) rfl dX12_takes_26 ?_
    refine go_if_ne (tgt := 37) (by decide) dX12_takes_29 (fun c => ?_) (fun c => ?_)
    · have hs := if_f c hs
      exact go_subL (L' := [some (.ref x0), none, none, none]) (by simp [subL, va_rf]) (oX12_takes_37 hd hs hk)
    · have hs := if_t c hs
      refine go_aload_n (k4 := 0) rfl (Or.inr ⟨_, rfl⟩) dX12_takes_32 ?_
      refine go_iconst (v := 3) (by decide) dX12_takes_33 ?_
      obtain ⟨g10, hs⟩ := gO_at hs
      obtain ⟨y9, ey9, hs⟩ := bindS hs
      refine go_V0 (As := [.int (3 : Int32)]) (st := []) g10 rfl rfl (oX12_fails (d := d - 1) (by omega) ey9) (by omega) mb_X12_fails lm_RX12_151 mi_X12_fails (Nat.le_of_ble_eq_true rfl) rfl dX12_takes_34 ?_
      exact go_subL (L' := [some (.ref x0), none, none, none]) (by simp [subL, va_rf]) (oX12_takes_37 hd hs hk)
  · have hs := if_t c hs
    refine go_aload_n (k4 := 0) rfl (Or.inr ⟨_, rfl⟩) dX12_takes_9 ?_
    refine go_iconst (v := 2) (by decide) dX12_takes_10 ?_
    obtain ⟨g12, hs⟩ := gO_at hs
    obtain ⟨y11, ey11, hs⟩ := bindS hs
    refine go_V0 (As := [.int (2 : Int32)]) (st := []) g12 rfl rfl (oX12_fails (d := d - 1) (by omega) ey11) (by omega) mb_X12_fails lm_RX12_151 mi_X12_fails (Nat.le_of_ble_eq_true rfl) rfl dX12_takes_11 ?_
    refine go_goto (tgt := 37) (by decide) dX12_takes_14 ?_
    exact go_subL (L' := [some (.ref x0), none, none, none]) (by simp [subL, va_rf]) (oX12_takes_37 hd hs hk)
theorem oX12_takes {d : Nat} (hd : 6 ≤ d) {h : Hp} {x0 : Nat} {x1 : Int32} {x2 : Int32} {y : (Int32 × Hp)} (hs : fX12_takes h x0 x1 x2 = some y) : Call d mX12_takes [.ref x0, .int x1, .int x2] h (some (.int y.1)) (y.2) := call_of (by decide +kernel) (Nat.le_of_ble_eq_true rfl) (show Go d mX12_takes 0 [some (.ref x0), some (.int x1), some (.int x2), none] [] h _ _ from go_subL (by simp [subL]) (oX12_takes_0 hd hs ⟨rfl, rfl⟩))
abbrev kX12_isIn (h : Hp) (rf : Option Value) (hf : Hp) : Int32 → Prop := fun y => rf = some (.int y) ∧ hf = h
noncomputable def fX12_isIn_15 (h : Hp) (s0 : Int32) : Option Int32 :=
  bl s0 (some (s0))
theorem oX12_isIn_15 {d : Nat} (hd : 0 ≤ d) {h : Hp} {s0 : Int32} {rf : Option Value} {hf : Hp} {x : Int32} (hs : fX12_isIn_15 h s0 = some x) (hk : (kX12_isIn h rf hf) x) : Go d mX12_isIn 15 [none, none, none] [.int s0] h rf hf := by
  unfold fX12_isIn_15 at hs
  obtain ⟨n1, n2, hs⟩ := bl_at hs
  obtain rfl := Option.some.inj hs
  obtain ⟨rfl, rfl⟩ := hk
  exact go_zret (ty := .boolean) rfl n1 dX12_isIn_15
noncomputable def fX12_isIn (h : Hp) (x0 : Int64) (x2 : Int32) : Option Int32 :=
  if (lg_cmp ((x0 >>> (x2.toInt64 &&& 63)) &&& (1 : Int64)) (1 : Int64)) = 0 then (
    fX12_isIn_15 h (1 : Int32)) else (
    fX12_isIn_15 h (0 : Int32))
theorem oX12_isIn_0 {d : Nat} (hd : 0 ≤ d) {h : Hp} {x0 : Int64} {x2 : Int32} {rf : Option Value} {hf : Hp} {x : Int32} (hs : fX12_isIn h x0 x2 = some x) (hk : (kX12_isIn h rf hf) x) : Go d mX12_isIn 0 [some (.long x0), none, some (.int x2)] [] h rf hf := by
  unfold fX12_isIn at hs
  refine go_lload_n (k4 := 0) rfl dX12_isIn_0 ?_
  refine go_iload_n (k4 := 2) rfl dX12_isIn_1 ?_
  refine go_lshr dX12_isIn_2 ?_
  refine go_lconst (v := 1) (by decide) dX12_isIn_3 ?_
  refine go_land dX12_isIn_4 ?_
  refine go_lconst (v := 1) (by decide) dX12_isIn_5 ?_
  refine go_lcmp dX12_isIn_6 ?_
  refine go_at 7 rfl ?_
  refine go_if_ne (tgt := 14) (by decide) dX12_isIn_7 (fun c => ?_) (fun c => ?_)
  · have hs := if_f c hs
    refine go_iconst (v := 0) (by decide) dX12_isIn_14 ?_
    exact go_subL (L' := [none, none, none]) (by simp [subL, va_rf]) (oX12_isIn_15 hd hs hk)
  · have hs := if_t c hs
    refine go_iconst (v := 1) (by decide) dX12_isIn_10 ?_
    refine go_goto (tgt := 15) (by decide) dX12_isIn_11 ?_
    exact go_subL (L' := [none, none, none]) (by simp [subL, va_rf]) (oX12_isIn_15 hd hs hk)
theorem oX12_isIn {d : Nat} (hd : 0 ≤ d) {h : Hp} {x0 : Int64} {x2 : Int32} {y : Int32} (hs : fX12_isIn h x0 x2 = some y) : Call d mX12_isIn [.long x0, .int x2] h (some (.int y)) h := call_of (by decide +kernel) (Nat.le_of_ble_eq_true rfl) (show Go d mX12_isIn 0 [some (.long x0), none, some (.int x2)] [] h _ _ from go_subL (by simp [subL]) (oX12_isIn_0 hd hs ⟨rfl, rfl⟩))
abbrev kX12_wordOf (h : Hp) (rf : Option Value) (hf : Hp) : Int32 → Prop := fun y => rf = some (.int y) ∧ hf = h
noncomputable def fX12_wordOf_85 (h : Hp) (s0 : Int32) : Option Int32 :=
  some (s0)
theorem oX12_wordOf_85 {d : Nat} (hd : 0 ≤ d) {h : Hp} {s0 : Int32} {rf : Option Value} {hf : Hp} {x : Int32} (hs : fX12_wordOf_85 h s0 = some x) (hk : (kX12_wordOf h rf hf) x) : Go d mX12_wordOf 85 [none, none] [.int s0] h rf hf := by
  unfold fX12_wordOf_85 at hs
  obtain rfl := Option.some.inj hs
  obtain ⟨rfl, rfl⟩ := hk
  exact go_iret rfl dX12_wordOf_85
noncomputable def fX12_wordOf_47 (h : Hp) (s0 : Int32) : Option Int32 :=
  some (s0)
theorem oX12_wordOf_47 {d : Nat} (hd : 0 ≤ d) {h : Hp} {s0 : Int32} {rf : Option Value} {hf : Hp} {x : Int32} (hs : fX12_wordOf_47 h s0 = some x) (hk : (kX12_wordOf h rf hf) x) : Go d mX12_wordOf 47 [none, none] [.int s0] h rf hf := by
  unfold fX12_wordOf_47 at hs
  obtain rfl := Option.some.inj hs
  obtain ⟨rfl, rfl⟩ := hk
  exact go_iret rfl dX12_wordOf_47
noncomputable def fX12_wordOf (h : Hp) (x0 : Nat) (x1 : Int32) : Option Int32 :=
  if x1 = (13 : Int32) then (
    some ((0 : Int32))) else (
    if x1 = (6 : Int32) then (
      some ((1 : Int32))) else (
      (gI h 12 x0 15).bind fun v1 =>
      if v1 = (1 : Int32) then (
        if x1 = (14 : Int32) then (
          fX12_wordOf_47 h (6 : Int32)) else (
          if x1 = (15 : Int32) then (
            fX12_wordOf_47 h (7 : Int32)) else (
            fX12_wordOf_47 h (-1 : Int32)))) else (
        if x1 = (2 : Int32) then (
          fX12_wordOf_85 h (2 : Int32)) else (
          if x1 = (4 : Int32) then (
            fX12_wordOf_85 h (3 : Int32)) else (
            if x1 = (1 : Int32) then (
              fX12_wordOf_85 h (4 : Int32)) else (
              if x1 = (3 : Int32) then (
                fX12_wordOf_85 h (5 : Int32)) else (
                fX12_wordOf_85 h (-1 : Int32))))))))
theorem oX12_wordOf_0 {d : Nat} (hd : 0 ≤ d) {h : Hp} {x0 : Nat} {x1 : Int32} {rf : Option Value} {hf : Hp} {x : Int32} (hs : fX12_wordOf h x0 x1 = some x) (hk : (kX12_wordOf h rf hf) x) : Go d mX12_wordOf 0 [some (.ref x0), some (.int x1)] [] h rf hf := by
  unfold fX12_wordOf at hs
  refine go_iload_n (k4 := 1) rfl dX12_wordOf_0 ?_
  refine go_bipush (v := 13) (by decide) dX12_wordOf_1 ?_
  refine go_icmp_ne (tgt := 8) (by decide) dX12_wordOf_3 (fun c => ?_) (fun c => ?_)
  · have hs := if_f c hs
    refine go_iload_n (k4 := 1) rfl dX12_wordOf_8 ?_
    refine go_bipush (v := 6) (by decide) dX12_wordOf_9 ?_
    refine go_icmp_ne (tgt := 16) (by decide) dX12_wordOf_11 (fun c => ?_) (fun c => ?_)
    · have hs := if_f c hs
      refine go_aload_n (k4 := 0) rfl (Or.inr ⟨_, rfl⟩) dX12_wordOf_16 ?_
      obtain ⟨v1, ev1, hs⟩ := bindS hs
      refine go_gI fl_RX12_159 ev1 dX12_wordOf_17 ?_
      refine go_iconst (v := 1) (by decide) dX12_wordOf_20 ?_
      refine go_icmp_ne (tgt := 48) (by decide) dX12_wordOf_21 (fun c => ?_) (fun c => ?_)
      · have hs := if_f c hs
        refine go_iload_n (k4 := 1) rfl dX12_wordOf_48 ?_
        refine go_iconst (v := 2) (by decide) dX12_wordOf_49 ?_
        refine go_icmp_ne (tgt := 57) (by decide) dX12_wordOf_50 (fun c => ?_) (fun c => ?_)
        · have hs := if_f c hs
          refine go_iload_n (k4 := 1) rfl dX12_wordOf_57 ?_
          refine go_iconst (v := 4) (by decide) dX12_wordOf_58 ?_
          refine go_icmp_ne (tgt := 66) (by decide) dX12_wordOf_59 (fun c => ?_) (fun c => ?_)
          · have hs := if_f c hs
            refine go_iload_n (k4 := 1) rfl dX12_wordOf_66 ?_
            refine go_iconst (v := 1) (by decide) dX12_wordOf_67 ?_
            refine go_icmp_ne (tgt := 75) (by decide) dX12_wordOf_68 (fun c => ?_) (fun c => ?_)
            · have hs := if_f c hs
              refine go_iload_n (k4 := 1) rfl dX12_wordOf_75 ?_
              refine go_iconst (v := 3) (by decide) dX12_wordOf_76 ?_
              refine go_icmp_ne (tgt := 84) (by decide) dX12_wordOf_77 (fun c => ?_) (fun c => ?_)
              · have hs := if_f c hs
                refine go_iconst (v := -1) (by decide) dX12_wordOf_84 ?_
                exact go_subL (L' := [none, none]) (by simp [subL, va_rf]) (oX12_wordOf_85 hd hs hk)
              · have hs := if_t c hs
                refine go_iconst (v := 5) (by decide) dX12_wordOf_80 ?_
                refine go_goto (tgt := 85) (by decide) dX12_wordOf_81 ?_
                exact go_subL (L' := [none, none]) (by simp [subL, va_rf]) (oX12_wordOf_85 hd hs hk)
            · have hs := if_t c hs
              refine go_iconst (v := 4) (by decide) dX12_wordOf_71 ?_
              refine go_goto (tgt := 85) (by decide) dX12_wordOf_72 ?_
              exact go_subL (L' := [none, none]) (by simp [subL, va_rf]) (oX12_wordOf_85 hd hs hk)
          · have hs := if_t c hs
            refine go_iconst (v := 3) (by decide) dX12_wordOf_62 ?_
            refine go_goto (tgt := 85) (by decide) dX12_wordOf_63 ?_
            exact go_subL (L' := [none, none]) (by simp [subL, va_rf]) (oX12_wordOf_85 hd hs hk)
        · have hs := if_t c hs
          refine go_iconst (v := 2) (by decide) dX12_wordOf_53 ?_
          refine go_goto (tgt := 85) (by decide) dX12_wordOf_54 ?_
          exact go_subL (L' := [none, none]) (by simp [subL, va_rf]) (oX12_wordOf_85 hd hs hk)
      · have hs := if_t c hs
        refine go_iload_n (k4 := 1) rfl dX12_wordOf_24 ?_
        refine go_bipush (v := 14) (by decide) dX12_wordOf_25 ?_
        refine go_icmp_ne (tgt := 35) (by decide) dX12_wordOf_27 (fun c => ?_) (fun c => ?_)
        · have hs := if_f c hs
          refine go_iload_n (k4 := 1) rfl dX12_wordOf_35 ?_
          refine go_bipush (v := 15) (by decide) dX12_wordOf_36 ?_
          refine go_icmp_ne (tgt := 46) (by decide) dX12_wordOf_38 (fun c => ?_) (fun c => ?_)
          · have hs := if_f c hs
            refine go_iconst (v := -1) (by decide) dX12_wordOf_46 ?_
            exact go_subL (L' := [none, none]) (by simp [subL, va_rf]) (oX12_wordOf_47 hd hs hk)
          · have hs := if_t c hs
            refine go_bipush (v := 7) (by decide) dX12_wordOf_41 ?_
            refine go_goto (tgt := 47) (by decide) dX12_wordOf_43 ?_
            exact go_subL (L' := [none, none]) (by simp [subL, va_rf]) (oX12_wordOf_47 hd hs hk)
        · have hs := if_t c hs
          refine go_bipush (v := 6) (by decide) dX12_wordOf_30 ?_
          refine go_goto (tgt := 47) (by decide) dX12_wordOf_32 ?_
          exact go_subL (L' := [none, none]) (by simp [subL, va_rf]) (oX12_wordOf_47 hd hs hk)
    · have hs := if_t c hs
      refine go_iconst (v := 1) (by decide) dX12_wordOf_14 ?_
      obtain rfl := Option.some.inj hs
      obtain ⟨rfl, rfl⟩ := hk
      exact go_iret rfl dX12_wordOf_15
  · have hs := if_t c hs
    refine go_iconst (v := 0) (by decide) dX12_wordOf_6 ?_
    obtain rfl := Option.some.inj hs
    obtain ⟨rfl, rfl⟩ := hk
    exact go_iret rfl dX12_wordOf_7
theorem oX12_wordOf {d : Nat} (hd : 0 ≤ d) {h : Hp} {x0 : Nat} {x1 : Int32} {y : Int32} (hs : fX12_wordOf h x0 x1 = some y) : Call d mX12_wordOf [.ref x0, .int x1] h (some (.int y)) h := call_of (by decide +kernel) (Nat.le_of_ble_eq_true rfl) (show Go d mX12_wordOf 0 [some (.ref x0), some (.int x1)] [] h _ _ from go_subL (by simp [subL]) (oX12_wordOf_0 hd hs ⟨rfl, rfl⟩))
abbrev kX12_codes (rf : Option Value) (hf : Hp) : Hp → Prop := fun y => rf = none ∧ hf = y
noncomputable def fX12_codes (h : Hp) (x0 : Nat) (x1 : Int32) : Option Hp :=
  (gI h 12 x0 11).bind fun v1 =>
  if v1 = 0 then (
    (gN h 12 x0 4).bind fun v2 =>
    (gN h 12 x0 4).bind fun v3 =>
    (aI 0 h v3 (137 : Int32)).bind fun v4 =>
    (wI 0 h v2 ((138 : Int32) + v4) x1).bind fun h5 =>
    (gN h5 12 x0 4).bind fun v6 =>
    (aI 0 h5 v6 (137 : Int32)).bind fun v7 =>
    (wI 0 h5 v6 (137 : Int32) (v7 + (1 : Int32))).bind fun h8 =>
    some (h8)) else (
    some (h))
theorem oX12_codes_0 {d : Nat} (hd : 0 ≤ d) {h : Hp} {x0 : Nat} {x1 : Int32} {rf : Option Value} {hf : Hp} {x : Hp} (hs : fX12_codes h x0 x1 = some x) (hk : (kX12_codes rf hf) x) : Go d mX12_codes 0 [some (.ref x0), some (.int x1)] [] h rf hf := by
  unfold fX12_codes at hs
  refine go_aload_n (k4 := 0) rfl (Or.inr ⟨_, rfl⟩) dX12_codes_0 ?_
  obtain ⟨v1, ev1, hs⟩ := bindS hs
  refine go_gI fl_RX12_139 ev1 dX12_codes_1 ?_
  refine go_if_eq (tgt := 8) (by decide) dX12_codes_4 (fun c => ?_) (fun c => ?_)
  · have hs := if_t c hs
    refine go_aload_n (k4 := 0) rfl (Or.inr ⟨_, rfl⟩) dX12_codes_8 ?_
    obtain ⟨v2, ev2, hs⟩ := bindS hs
    refine go_gN fl_RX12_24 ev2 dX12_codes_9 ?_
    refine go_sipush (v := 138) (by decide) dX12_codes_12 ?_
    refine go_aload_n (k4 := 0) rfl (Or.inr ⟨_, rfl⟩) dX12_codes_15 ?_
    obtain ⟨v3, ev3, hs⟩ := bindS hs
    refine go_gN fl_RX12_24 ev3 dX12_codes_16 ?_
    refine go_sipush (v := 137) (by decide) dX12_codes_19 ?_
    obtain ⟨v4, ev4, hs⟩ := bindS hs
    refine go_aIi ev4 dX12_codes_22 ?_
    refine go_at 23 rfl ?_
    refine go_iadd dX12_codes_23 ?_
    refine go_iload_n (k4 := 1) rfl dX12_codes_24 ?_
    obtain ⟨h5, eh5, hs⟩ := bindS hs
    refine go_wIi eh5 dX12_codes_25 ?_
    refine go_aload_n (k4 := 0) rfl (Or.inr ⟨_, rfl⟩) dX12_codes_26 ?_
    obtain ⟨v6, ev6, hs⟩ := bindS hs
    refine go_gN fl_RX12_24 ev6 dX12_codes_27 ?_
    refine go_sipush (v := 137) (by decide) dX12_codes_30 ?_
    refine go_dup2_11 rfl rfl dX12_codes_33 ?_
    obtain ⟨v7, ev7, hs⟩ := bindS hs
    refine go_aIi ev7 dX12_codes_34 ?_
    refine go_at 35 rfl ?_
    refine go_iconst (v := 1) (by decide) dX12_codes_35 ?_
    refine go_iadd dX12_codes_36 ?_
    obtain ⟨h8, eh8, hs⟩ := bindS hs
    refine go_wIi eh8 dX12_codes_37 ?_
    obtain rfl := Option.some.inj hs
    obtain ⟨rfl, rfl⟩ := hk
    exact go_vret rfl dX12_codes_38
  · have hs := if_f c hs
    obtain rfl := Option.some.inj hs
    obtain ⟨rfl, rfl⟩ := hk
    exact go_vret rfl dX12_codes_7
theorem oX12_codes {d : Nat} (hd : 0 ≤ d) {h : Hp} {x0 : Nat} {x1 : Int32} {y : Hp} (hs : fX12_codes h x0 x1 = some y) : Call d mX12_codes [.ref x0, .int x1] h (none) y := call_of (by decide +kernel) (Nat.le_of_ble_eq_true rfl) (show Go d mX12_codes 0 [some (.ref x0), some (.int x1)] [] h _ _ from go_subL (by simp [subL]) (oX12_codes_0 hd hs ⟨rfl, rfl⟩))
abbrev kX12_goesIn (rf : Option Value) (hf : Hp) : (Int32 × Hp) → Prop := fun y => rf = some (.int y.1) ∧ hf = y.2
noncomputable def fX12_goesIn_34 (h : Hp) (s0 : Int32) : Option (Int32 × Hp) :=
  bl s0 (some ((s0, h)))
theorem oX12_goesIn_34 {d : Nat} (hd : 6 ≤ d) {h : Hp} {s0 : Int32} {rf : Option Value} {hf : Hp} {x : (Int32 × Hp)} (hs : fX12_goesIn_34 h s0 = some x) (hk : (kX12_goesIn rf hf) x) : Go d mX12_goesIn 34 [none, none] [.int s0] h rf hf := by
  unfold fX12_goesIn_34 at hs
  obtain ⟨n1, n2, hs⟩ := bl_at hs
  obtain rfl := Option.some.inj hs
  obtain ⟨rfl, rfl⟩ := hk
  exact go_zret (ty := .boolean) rfl n1 dX12_goesIn_34
noncomputable def fX12_goesIn_22 (h : Hp) (x0 : Nat) : Option (Int32 × Hp) :=
  (gI h 12 x0 11).bind fun v2 =>
  if v2 = 0 then (
    fX12_goesIn_34 h (1 : Int32)) else (
    fX12_goesIn_34 h (0 : Int32))
theorem oX12_goesIn_22 {d : Nat} (hd : 6 ≤ d) {h : Hp} {x0 : Nat} {rf : Option Value} {hf : Hp} {x : (Int32 × Hp)} (hs : fX12_goesIn_22 h x0 = some x) (hk : (kX12_goesIn rf hf) x) : Go d mX12_goesIn 22 [some (.ref x0), none] [] h rf hf := by
  unfold fX12_goesIn_22 at hs
  refine go_aload_n (k4 := 0) rfl (Or.inr ⟨_, rfl⟩) dX12_goesIn_22 ?_
  obtain ⟨v2, ev2, hs⟩ := bindS hs
  refine go_gI fl_RX12_139 ev2 dX12_goesIn_23 ?_
  refine go_if_ne (tgt := 33) (by decide) dX12_goesIn_26 (fun c => ?_) (fun c => ?_)
  · have hs := if_f c hs
    refine go_iconst (v := 0) (by decide) dX12_goesIn_33 ?_
    exact go_subL (L' := [none, none]) (by simp [subL, va_rf]) (oX12_goesIn_34 hd hs hk)
  · have hs := if_t c hs
    refine go_iconst (v := 1) (by decide) dX12_goesIn_29 ?_
    refine go_goto (tgt := 34) (by decide) dX12_goesIn_30 ?_
    exact go_subL (L' := [none, none]) (by simp [subL, va_rf]) (oX12_goesIn_34 hd hs hk)
noncomputable def fX12_goesIn_11 (h : Hp) (x0 : Nat) : Option (Int32 × Hp) :=
  (gI h 12 x0 11).bind fun v1 =>
  if v1 = 0 then (
    gO h 12 x0 (
    (fX12_next h x0).bind fun y3 =>
    fX12_goesIn_22 y3 x0)) else (
  fX12_goesIn_22 h x0)
theorem oX12_goesIn_11 {d : Nat} (hd : 6 ≤ d) {h : Hp} {x0 : Nat} {rf : Option Value} {hf : Hp} {x : (Int32 × Hp)} (hs : fX12_goesIn_11 h x0 = some x) (hk : (kX12_goesIn rf hf) x) : Go d mX12_goesIn 11 [some (.ref x0), none] [] h rf hf := by
  unfold fX12_goesIn_11 at hs
  refine go_aload_n (k4 := 0) rfl (Or.inr ⟨_, rfl⟩) dX12_goesIn_11 ?_
  obtain ⟨v1, ev1, hs⟩ := bindS hs
  refine go_gI fl_RX12_139 ev1 dX12_goesIn_12 ?_
  refine go_if_ne (tgt := 22) (by decide) dX12_goesIn_15 (fun c => ?_) (fun c => ?_)
  · have hs := if_f c hs
    exact go_subL (L' := [some (.ref x0), none]) (by simp [subL, va_rf]) (oX12_goesIn_22 hd hs hk)
  · have hs := if_t c hs
    refine go_aload_n (k4 := 0) rfl (Or.inr ⟨_, rfl⟩) dX12_goesIn_18 ?_
    obtain ⟨g4, hs⟩ := gO_at hs
    obtain ⟨y3, ey3, hs⟩ := bindS hs
    refine go_V0 (As := []) (st := []) g4 rfl rfl (oX12_next (d := d - 1) (by omega) ey3) (by omega) mb_X12_next lm_RX12_148 mi_X12_next (Nat.le_of_ble_eq_true rfl) rfl dX12_goesIn_19 ?_
    exact go_subL (L' := [some (.ref x0), none]) (by simp [subL, va_rf]) (oX12_goesIn_22 hd hs hk)
noncomputable def fX12_goesIn (h : Hp) (x0 : Nat) (x1 : Int32) : Option (Int32 × Hp) :=
  if x1 = (6 : Int32) then (
    gO h 12 x0 (
    (fX12_fails h x0 (4 : Int32)).bind fun y5 =>
    fX12_goesIn_11 y5 x0)) else (
  fX12_goesIn_11 h x0)
theorem oX12_goesIn_0 {d : Nat} (hd : 6 ≤ d) {h : Hp} {x0 : Nat} {x1 : Int32} {rf : Option Value} {hf : Hp} {x : (Int32 × Hp)} (hs : fX12_goesIn h x0 x1 = some x) (hk : (kX12_goesIn rf hf) x) : Go d mX12_goesIn 0 [some (.ref x0), some (.int x1)] [] h rf hf := by
  unfold fX12_goesIn at hs
  refine go_iload_n (k4 := 1) rfl dX12_goesIn_0 ?_
  refine go_bipush (v := 6) (by decide) dX12_goesIn_1 ?_
  refine go_icmp_ne (tgt := 11) (by decide) dX12_goesIn_3 (fun c => ?_) (fun c => ?_)
  · have hs := if_f c hs
    exact go_subL (L' := [some (.ref x0), none]) (by simp [subL, va_rf]) (oX12_goesIn_11 hd hs hk)
  · have hs := if_t c hs
    refine go_aload_n (k4 := 0) rfl (Or.inr ⟨_, rfl⟩) dX12_goesIn_6 ?_
    refine go_iconst (v := 4) (by decide) dX12_goesIn_7 ?_
    obtain ⟨g6, hs⟩ := gO_at hs
    obtain ⟨y5, ey5, hs⟩ := bindS hs
    refine go_V0 (As := [.int (4 : Int32)]) (st := []) g6 rfl rfl (oX12_fails (d := d - 1) (by omega) ey5) (by omega) mb_X12_fails lm_RX12_151 mi_X12_fails (Nat.le_of_ble_eq_true rfl) rfl dX12_goesIn_8 ?_
    exact go_subL (L' := [some (.ref x0), none]) (by simp [subL, va_rf]) (oX12_goesIn_11 hd hs hk)
theorem oX12_goesIn {d : Nat} (hd : 6 ≤ d) {h : Hp} {x0 : Nat} {x1 : Int32} {y : (Int32 × Hp)} (hs : fX12_goesIn h x0 x1 = some y) : Call d mX12_goesIn [.ref x0, .int x1] h (some (.int y.1)) (y.2) := call_of (by decide +kernel) (Nat.le_of_ble_eq_true rfl) (show Go d mX12_goesIn 0 [some (.ref x0), some (.int x1)] [] h _ _ from go_subL (by simp [subL]) (oX12_goesIn_0 hd hs ⟨rfl, rfl⟩))
abbrev mgX12_readAtom (sel : Nat) : Mt := if sel = 0 then mX12_readAtom else if sel = 1 then mX12_readIf else if sel = 2 then mX12_readTerm else if sel = 3 then mX12_readSum else if sel = 4 then mX12_readUnit else if sel = 5 then mX12_readBoth else mX12_readTruth
abbrev kX12_readAtom (rf : Option Value) (hf : Hp) : Hp → Prop := fun y => rf = none ∧ hf = y
noncomputable def fX12_readAtom_130 (rc : Nat → Hp → Nat → Int32 → Option Hp) (h : Hp)  : Option Hp :=
  some (h)
theorem oX12_readAtom_130 {d : Nat} (hd : 7 ≤ d) {rc : Nat → Hp → Nat → Int32 → Option Hp} (hrc : ∀ (sel : Nat) (h : Hp) (x0 : Nat) (x1 : Int32) (y : Hp), rc sel h x0 x1 = some y → Call (d - 1) (mgX12_readAtom sel) [.ref x0, .int x1] h (none) y) {h : Hp} {rf : Option Value} {hf : Hp} {x : Hp} (hs : fX12_readAtom_130 rc h  = some x) (hk : (kX12_readAtom rf hf) x) : Go d mX12_readAtom 130 [none, none] [] h rf hf := by
  unfold fX12_readAtom_130 at hs
  obtain rfl := Option.some.inj hs
  obtain ⟨rfl, rfl⟩ := hk
  exact go_vret rfl dX12_readAtom_130
noncomputable def fX12_readAtom_66 (rc : Nat → Hp → Nat → Int32 → Option Hp) (h : Hp) (x0 : Nat) (x1 : Int32) : Option Hp :=
  gO h 12 x0 (
  (fX12_is h x0 (35 : Int32)).bind fun y4 =>
  if y4 = 0 then (
    gO h 12 x0 (
    (fX12_is h x0 (9 : Int32)).bind fun y6 =>
    if y6 = 0 then (
      gO h 12 x0 (
      (fX12_fails h x0 (2 : Int32)).bind fun y8 =>
      fX12_readAtom_130 rc y8 )) else (
      gO h 12 x0 (
      (rc 1 h x0 x1).bind fun y10 =>
      fX12_readAtom_130 rc y10 )))) else (
    gO h 12 x0 (
    (fX12_goesIn h x0 x1).bind fun y12 =>
    if y12.1 = 0 then (
      some (y12.2)) else (
      gO y12.2 12 x0 (
      (rc 3 y12.2 x0 (x1 + (1 : Int32))).bind fun y14 =>
      gO y14 12 x0 (
      (fX12_eats y14 x0 (36 : Int32)).bind fun y16 =>
      if y16.1 = 0 then (
        gO y16.2 12 x0 (
        (fX12_fails y16.2 x0 (2 : Int32)).bind fun y18 =>
        fX12_readAtom_130 rc y18 )) else (
      fX12_readAtom_130 rc y16.2 )))))))
theorem oX12_readAtom_66 {d : Nat} (hd : 7 ≤ d) {rc : Nat → Hp → Nat → Int32 → Option Hp} (hrc : ∀ (sel : Nat) (h : Hp) (x0 : Nat) (x1 : Int32) (y : Hp), rc sel h x0 x1 = some y → Call (d - 1) (mgX12_readAtom sel) [.ref x0, .int x1] h (none) y) {h : Hp} {x0 : Nat} {x1 : Int32} {rf : Option Value} {hf : Hp} {x : Hp} (hs : fX12_readAtom_66 rc h x0 x1 = some x) (hk : (kX12_readAtom rf hf) x) : Go d mX12_readAtom 66 [some (.ref x0), some (.int x1)] [] h rf hf := by
  unfold fX12_readAtom_66 at hs
  refine go_aload_n (k4 := 0) rfl (Or.inr ⟨_, rfl⟩) dX12_readAtom_66 ?_
  refine go_bipush (v := 35) (by decide) dX12_readAtom_67 ?_
  obtain ⟨g5, hs⟩ := gO_at hs
  obtain ⟨y4, ey4, hs⟩ := bindS hs
  refine go_V1 (As := [.int (35 : Int32)]) (st := []) g5 rfl rfl (oX12_is (d := d - 1) (by omega) ey4) (by omega) mb_X12_is lm_RX12_145 mi_X12_is (Nat.le_of_ble_eq_true rfl) rfl dX12_readAtom_69 ?_
  refine go_if_eq (tgt := 108) (by decide) dX12_readAtom_72 (fun c => ?_) (fun c => ?_)
  · have hs := if_t c hs
    refine go_aload_n (k4 := 0) rfl (Or.inr ⟨_, rfl⟩) dX12_readAtom_108 ?_
    refine go_bipush (v := 9) (by decide) dX12_readAtom_109 ?_
    obtain ⟨g7, hs⟩ := gO_at hs
    obtain ⟨y6, ey6, hs⟩ := bindS hs
    refine go_V1 (As := [.int (9 : Int32)]) (st := []) g7 rfl rfl (oX12_is (d := d - 1) (by omega) ey6) (by omega) mb_X12_is lm_RX12_145 mi_X12_is (Nat.le_of_ble_eq_true rfl) rfl dX12_readAtom_111 ?_
    refine go_if_eq (tgt := 125) (by decide) dX12_readAtom_114 (fun c => ?_) (fun c => ?_)
    · have hs := if_t c hs
      refine go_aload_n (k4 := 0) rfl (Or.inr ⟨_, rfl⟩) dX12_readAtom_125 ?_
      refine go_iconst (v := 2) (by decide) dX12_readAtom_126 ?_
      obtain ⟨g9, hs⟩ := gO_at hs
      obtain ⟨y8, ey8, hs⟩ := bindS hs
      refine go_V0 (As := [.int (2 : Int32)]) (st := []) g9 rfl rfl (oX12_fails (d := d - 1) (by omega) ey8) (by omega) mb_X12_fails lm_RX12_151 mi_X12_fails (Nat.le_of_ble_eq_true rfl) rfl dX12_readAtom_127 ?_
      exact go_subL (L' := [none, none]) (by simp [subL, va_rf]) (oX12_readAtom_130 hd hrc hs hk)
    · have hs := if_f c hs
      refine go_aload_n (k4 := 0) rfl (Or.inr ⟨_, rfl⟩) dX12_readAtom_117 ?_
      refine go_iload_n (k4 := 1) rfl dX12_readAtom_118 ?_
      obtain ⟨g11, hs⟩ := gO_at hs
      obtain ⟨y10, ey10, hs⟩ := bindS hs
      refine go_V0 (As := [.int x1]) (st := []) g11 rfl rfl (show Call (d - 1) mX12_readIf _ _ _ _ from hrc 1 h x0 x1 _ ey10) (by omega) mb_X12_readIf lm_RX12_177 mi_X12_readIf (Nat.le_of_ble_eq_true rfl) rfl dX12_readAtom_119 ?_
      refine go_goto (tgt := 130) (by decide) dX12_readAtom_122 ?_
      exact go_subL (L' := [none, none]) (by simp [subL, va_rf]) (oX12_readAtom_130 hd hrc hs hk)
  · have hs := if_f c hs
    refine go_aload_n (k4 := 0) rfl (Or.inr ⟨_, rfl⟩) dX12_readAtom_75 ?_
    refine go_iload_n (k4 := 1) rfl dX12_readAtom_76 ?_
    obtain ⟨g13, hs⟩ := gO_at hs
    obtain ⟨y12, ey12, hs⟩ := bindS hs
    refine go_V1 (As := [.int x1]) (st := []) g13 rfl rfl (oX12_goesIn (d := d - 1) (by omega) ey12) (by omega) mb_X12_goesIn lm_RX12_168 mi_X12_goesIn (Nat.le_of_ble_eq_true rfl) rfl dX12_readAtom_77 ?_
    refine go_if_ne (tgt := 84) (by decide) dX12_readAtom_80 (fun c => ?_) (fun c => ?_)
    · have hs := if_f c hs
      refine go_aload_n (k4 := 0) rfl (Or.inr ⟨_, rfl⟩) dX12_readAtom_84 ?_
      refine go_iload_n (k4 := 1) rfl dX12_readAtom_85 ?_
      refine go_iconst (v := 1) (by decide) dX12_readAtom_86 ?_
      refine go_iadd dX12_readAtom_87 ?_
      obtain ⟨g15, hs⟩ := gO_at hs
      obtain ⟨y14, ey14, hs⟩ := bindS hs
      refine go_V0 (As := [.int (x1 + (1 : Int32))]) (st := []) g15 rfl rfl (show Call (d - 1) mX12_readSum _ _ _ _ from hrc 3 y12.2 x0 (x1 + (1 : Int32)) _ ey14) (by omega) mb_X12_readSum lm_RX12_171 mi_X12_readSum (Nat.le_of_ble_eq_true rfl) rfl dX12_readAtom_88 ?_
      refine go_aload_n (k4 := 0) rfl (Or.inr ⟨_, rfl⟩) dX12_readAtom_91 ?_
      refine go_bipush (v := 36) (by decide) dX12_readAtom_92 ?_
      refine go_at 94 rfl ?_
      obtain ⟨g17, hs⟩ := gO_at hs
      obtain ⟨y16, ey16, hs⟩ := bindS hs
      refine go_V1 (As := [.int (36 : Int32)]) (st := []) g17 rfl rfl (oX12_eats (d := d - 1) (by omega) ey16) (by omega) mb_X12_eats lm_RX12_174 mi_X12_eats (Nat.le_of_ble_eq_true rfl) rfl dX12_readAtom_94 ?_
      refine go_if_ne (tgt := 130) (by decide) dX12_readAtom_97 (fun c => ?_) (fun c => ?_)
      · have hs := if_f c hs
        exact go_subL (L' := [none, none]) (by simp [subL, va_rf]) (oX12_readAtom_130 hd hrc hs hk)
      · have hs := if_t c hs
        refine go_aload_n (k4 := 0) rfl (Or.inr ⟨_, rfl⟩) dX12_readAtom_100 ?_
        refine go_iconst (v := 2) (by decide) dX12_readAtom_101 ?_
        obtain ⟨g19, hs⟩ := gO_at hs
        obtain ⟨y18, ey18, hs⟩ := bindS hs
        refine go_V0 (As := [.int (2 : Int32)]) (st := []) g19 rfl rfl (oX12_fails (d := d - 1) (by omega) ey18) (by omega) mb_X12_fails lm_RX12_151 mi_X12_fails (Nat.le_of_ble_eq_true rfl) rfl dX12_readAtom_102 ?_
        refine go_goto (tgt := 130) (by decide) dX12_readAtom_105 ?_
        exact go_subL (L' := [none, none]) (by simp [subL, va_rf]) (oX12_readAtom_130 hd hrc hs hk)
    · have hs := if_t c hs
      obtain rfl := Option.some.inj hs
      obtain ⟨rfl, rfl⟩ := hk
      exact go_vret rfl dX12_readAtom_83
noncomputable def fX12_readAtom (rc : Nat → Hp → Nat → Int32 → Option Hp) (h : Hp) (x0 : Nat) (x1 : Int32) : Option Hp :=
  gO h 12 x0 (
  (fX12_is h x0 (23 : Int32)).bind fun y1 =>
  if y1 = 0 then (
    (gI h 12 x0 11).bind fun v3 =>
    if v3 = 0 then (
      (gI h 12 x0 9).bind fun v20 =>
      gO h 12 x0 (
      (fX12_wordOf h x0 v20).bind fun y21 =>
      if y21 = (-1 : Int32) then (
      fX12_readAtom_66 rc h x0 x1) else (
        (gI h 12 x0 9).bind fun v23 =>
        gO h 12 x0 (
        (fX12_wordOf h x0 v23).bind fun y24 =>
        gO h 12 x0 (
        (fX12_codes h x0 ((1000 : Int32) + y24)).bind fun y26 =>
        gO y26 12 x0 (
        (fX12_next y26 x0).bind fun y28 =>
        fX12_readAtom_130 rc y28 )))))) else (
    fX12_readAtom_66 rc h x0 x1)) else (
    (gI h 12 x0 10).bind fun v30 =>
    gO h 12 x0 (
    (fX12_codes h x0 v30).bind fun y31 =>
    gO y31 12 x0 (
    (fX12_next y31 x0).bind fun y33 =>
    fX12_readAtom_130 rc y33 ))))
theorem oX12_readAtom_0 {d : Nat} (hd : 7 ≤ d) {rc : Nat → Hp → Nat → Int32 → Option Hp} (hrc : ∀ (sel : Nat) (h : Hp) (x0 : Nat) (x1 : Int32) (y : Hp), rc sel h x0 x1 = some y → Call (d - 1) (mgX12_readAtom sel) [.ref x0, .int x1] h (none) y) {h : Hp} {x0 : Nat} {x1 : Int32} {rf : Option Value} {hf : Hp} {x : Hp} (hs : fX12_readAtom rc h x0 x1 = some x) (hk : (kX12_readAtom rf hf) x) : Go d mX12_readAtom 0 [some (.ref x0), some (.int x1)] [] h rf hf := by
  unfold fX12_readAtom at hs
  refine go_aload_n (k4 := 0) rfl (Or.inr ⟨_, rfl⟩) dX12_readAtom_0 ?_
  refine go_bipush (v := 23) (by decide) dX12_readAtom_1 ?_
  obtain ⟨g2, hs⟩ := gO_at hs
  obtain ⟨y1, ey1, hs⟩ := bindS hs
  refine go_V1 (As := [.int (23 : Int32)]) (st := []) g2 rfl rfl (oX12_is (d := d - 1) (by omega) ey1) (by omega) mb_X12_is lm_RX12_145 mi_X12_is (Nat.le_of_ble_eq_true rfl) rfl dX12_readAtom_3 ?_
  refine go_if_eq (tgt := 24) (by decide) dX12_readAtom_6 (fun c => ?_) (fun c => ?_)
  · have hs := if_t c hs
    refine go_aload_n (k4 := 0) rfl (Or.inr ⟨_, rfl⟩) dX12_readAtom_24 ?_
    obtain ⟨v3, ev3, hs⟩ := bindS hs
    refine go_gI fl_RX12_139 ev3 dX12_readAtom_25 ?_
    refine go_if_ne (tgt := 66) (by decide) dX12_readAtom_28 (fun c => ?_) (fun c => ?_)
    · have hs := if_f c hs
      exact go_subL (L' := [some (.ref x0), some (.int x1)]) (by simp [subL, va_rf]) (oX12_readAtom_66 hd hrc hs hk)
    · have hs := if_t c hs
      refine go_aload_n (k4 := 0) rfl (Or.inr ⟨_, rfl⟩) dX12_readAtom_31 ?_
      refine go_aload_n (k4 := 0) rfl (Or.inr ⟨_, rfl⟩) dX12_readAtom_32 ?_
      obtain ⟨v20, ev20, hs⟩ := bindS hs
      refine go_gI fl_RX12_121 ev20 dX12_readAtom_33 ?_
      obtain ⟨g22, hs⟩ := gO_at hs
      obtain ⟨y21, ey21, hs⟩ := bindS hs
      refine go_V1 (As := [.int v20]) (st := []) g22 rfl rfl (oX12_wordOf (d := d - 1) (by omega) ey21) (by omega) mb_X12_wordOf lm_RX12_165 mi_X12_wordOf (Nat.le_of_ble_eq_true rfl) rfl dX12_readAtom_36 ?_
      refine go_iconst (v := -1) (by decide) dX12_readAtom_39 ?_
      refine go_icmp_eq (tgt := 66) (by decide) dX12_readAtom_40 (fun c => ?_) (fun c => ?_)
      · have hs := if_t c hs
        exact go_subL (L' := [some (.ref x0), some (.int x1)]) (by simp [subL, va_rf]) (oX12_readAtom_66 hd hrc hs hk)
      · have hs := if_f c hs
        refine go_aload_n (k4 := 0) rfl (Or.inr ⟨_, rfl⟩) dX12_readAtom_43 ?_
        refine go_sipush (v := 1000) (by decide) dX12_readAtom_44 ?_
        refine go_aload_n (k4 := 0) rfl (Or.inr ⟨_, rfl⟩) dX12_readAtom_47 ?_
        refine go_aload_n (k4 := 0) rfl (Or.inr ⟨_, rfl⟩) dX12_readAtom_48 ?_
        obtain ⟨v23, ev23, hs⟩ := bindS hs
        refine go_gI fl_RX12_121 ev23 dX12_readAtom_49 ?_
        obtain ⟨g25, hs⟩ := gO_at hs
        obtain ⟨y24, ey24, hs⟩ := bindS hs
        refine go_V1 (As := [.int v23]) (st := [.int (1000 : Int32), .ref x0]) g25 rfl rfl (oX12_wordOf (d := d - 1) (by omega) ey24) (by omega) mb_X12_wordOf lm_RX12_165 mi_X12_wordOf (Nat.le_of_ble_eq_true rfl) rfl dX12_readAtom_52 ?_
        refine go_iadd dX12_readAtom_55 ?_
        refine go_at 56 rfl ?_
        obtain ⟨g27, hs⟩ := gO_at hs
        obtain ⟨y26, ey26, hs⟩ := bindS hs
        refine go_V0 (As := [.int ((1000 : Int32) + y24)]) (st := []) g27 rfl rfl (oX12_codes (d := d - 1) (by omega) ey26) (by omega) mb_X12_codes lm_RX12_162 mi_X12_codes (Nat.le_of_ble_eq_true rfl) rfl dX12_readAtom_56 ?_
        refine go_aload_n (k4 := 0) rfl (Or.inr ⟨_, rfl⟩) dX12_readAtom_59 ?_
        obtain ⟨g29, hs⟩ := gO_at hs
        obtain ⟨y28, ey28, hs⟩ := bindS hs
        refine go_V0 (As := []) (st := []) g29 rfl rfl (oX12_next (d := d - 1) (by omega) ey28) (by omega) mb_X12_next lm_RX12_148 mi_X12_next (Nat.le_of_ble_eq_true rfl) rfl dX12_readAtom_60 ?_
        refine go_goto (tgt := 130) (by decide) dX12_readAtom_63 ?_
        exact go_subL (L' := [none, none]) (by simp [subL, va_rf]) (oX12_readAtom_130 hd hrc hs hk)
  · have hs := if_f c hs
    refine go_aload_n (k4 := 0) rfl (Or.inr ⟨_, rfl⟩) dX12_readAtom_9 ?_
    refine go_aload_n (k4 := 0) rfl (Or.inr ⟨_, rfl⟩) dX12_readAtom_10 ?_
    obtain ⟨v30, ev30, hs⟩ := bindS hs
    refine go_gI fl_RX12_134 ev30 dX12_readAtom_11 ?_
    obtain ⟨g32, hs⟩ := gO_at hs
    obtain ⟨y31, ey31, hs⟩ := bindS hs
    refine go_V0 (As := [.int v30]) (st := []) g32 rfl rfl (oX12_codes (d := d - 1) (by omega) ey31) (by omega) mb_X12_codes lm_RX12_162 mi_X12_codes (Nat.le_of_ble_eq_true rfl) rfl dX12_readAtom_14 ?_
    refine go_aload_n (k4 := 0) rfl (Or.inr ⟨_, rfl⟩) dX12_readAtom_17 ?_
    obtain ⟨g34, hs⟩ := gO_at hs
    obtain ⟨y33, ey33, hs⟩ := bindS hs
    refine go_V0 (As := []) (st := []) g34 rfl rfl (oX12_next (d := d - 1) (by omega) ey33) (by omega) mb_X12_next lm_RX12_148 mi_X12_next (Nat.le_of_ble_eq_true rfl) rfl dX12_readAtom_18 ?_
    refine go_goto (tgt := 130) (by decide) dX12_readAtom_21 ?_
    exact go_subL (L' := [none, none]) (by simp [subL, va_rf]) (oX12_readAtom_130 hd hrc hs hk)
theorem oX12_readAtom {d : Nat} (hd : 7 ≤ d) {rc : Nat → Hp → Nat → Int32 → Option Hp} (hrc : ∀ (sel : Nat) (h : Hp) (x0 : Nat) (x1 : Int32) (y : Hp), rc sel h x0 x1 = some y → Call (d - 1) (mgX12_readAtom sel) [.ref x0, .int x1] h (none) y) {h : Hp} {x0 : Nat} {x1 : Int32} {y : Hp} (hs : fX12_readAtom rc h x0 x1 = some y) : Call d mX12_readAtom [.ref x0, .int x1] h (none) y := call_of (by decide +kernel) (Nat.le_of_ble_eq_true rfl) (show Go d mX12_readAtom 0 [some (.ref x0), some (.int x1)] [] h _ _ from go_subL (by simp [subL]) (oX12_readAtom_0 hd hrc hs ⟨rfl, rfl⟩))
abbrev kX12_readIf (rf : Option Value) (hf : Hp) : Hp → Prop := fun y => rf = none ∧ hf = y
noncomputable def fX12_readIf_72 (rc : Nat → Hp → Nat → Int32 → Option Hp) (h : Hp) (x0 : Nat) : Option Hp :=
  gO h 12 x0 (
  (fX12_codes h x0 (3009 : Int32)).bind fun y15 =>
  some (y15))
theorem oX12_readIf_72 {d : Nat} (hd : 7 ≤ d) {rc : Nat → Hp → Nat → Int32 → Option Hp} (hrc : ∀ (sel : Nat) (h : Hp) (x0 : Nat) (x1 : Int32) (y : Hp), rc sel h x0 x1 = some y → Call (d - 1) (mgX12_readAtom sel) [.ref x0, .int x1] h (none) y) {h : Hp} {x0 : Nat} {rf : Option Value} {hf : Hp} {x : Hp} (hs : fX12_readIf_72 rc h x0 = some x) (hk : (kX12_readIf rf hf) x) : Go d mX12_readIf 72 [some (.ref x0), none] [] h rf hf := by
  unfold fX12_readIf_72 at hs
  refine go_aload_n (k4 := 0) rfl (Or.inr ⟨_, rfl⟩) dX12_readIf_72 ?_
  refine go_sipush (v := 3009) (by decide) dX12_readIf_73 ?_
  obtain ⟨g16, hs⟩ := gO_at hs
  obtain ⟨y15, ey15, hs⟩ := bindS hs
  refine go_V0 (As := [.int (3009 : Int32)]) (st := []) g16 rfl rfl (oX12_codes (d := d - 1) (by omega) ey15) (by omega) mb_X12_codes lm_RX12_162 mi_X12_codes (Nat.le_of_ble_eq_true rfl) rfl dX12_readIf_76 ?_
  obtain rfl := Option.some.inj hs
  obtain ⟨rfl, rfl⟩ := hk
  exact go_vret rfl dX12_readIf_79
noncomputable def fX12_readIf_51 (rc : Nat → Hp → Nat → Int32 → Option Hp) (h : Hp) (x0 : Nat) (x1 : Int32) : Option Hp :=
  gO h 12 x0 (
  (rc 3 h x0 (x1 + (1 : Int32))).bind fun y11 =>
  gO y11 12 x0 (
  (fX12_eats y11 x0 (12 : Int32)).bind fun y13 =>
  if y13.1 = 0 then (
    gO y13.2 12 x0 (
    (fX12_fails y13.2 x0 (2 : Int32)).bind fun y17 =>
    fX12_readIf_72 rc y17 x0)) else (
  fX12_readIf_72 rc y13.2 x0)))
theorem oX12_readIf_51 {d : Nat} (hd : 7 ≤ d) {rc : Nat → Hp → Nat → Int32 → Option Hp} (hrc : ∀ (sel : Nat) (h : Hp) (x0 : Nat) (x1 : Int32) (y : Hp), rc sel h x0 x1 = some y → Call (d - 1) (mgX12_readAtom sel) [.ref x0, .int x1] h (none) y) {h : Hp} {x0 : Nat} {x1 : Int32} {rf : Option Value} {hf : Hp} {x : Hp} (hs : fX12_readIf_51 rc h x0 x1 = some x) (hk : (kX12_readIf rf hf) x) : Go d mX12_readIf 51 [some (.ref x0), some (.int x1)] [] h rf hf := by
  unfold fX12_readIf_51 at hs
  refine go_aload_n (k4 := 0) rfl (Or.inr ⟨_, rfl⟩) dX12_readIf_51 ?_
  refine go_iload_n (k4 := 1) rfl dX12_readIf_52 ?_
  refine go_iconst (v := 1) (by decide) dX12_readIf_53 ?_
  refine go_iadd dX12_readIf_54 ?_
  obtain ⟨g12, hs⟩ := gO_at hs
  obtain ⟨y11, ey11, hs⟩ := bindS hs
  refine go_V0 (As := [.int (x1 + (1 : Int32))]) (st := []) g12 rfl rfl (show Call (d - 1) mX12_readSum _ _ _ _ from hrc 3 h x0 (x1 + (1 : Int32)) _ ey11) (by omega) mb_X12_readSum lm_RX12_171 mi_X12_readSum (Nat.le_of_ble_eq_true rfl) rfl dX12_readIf_55 ?_
  refine go_aload_n (k4 := 0) rfl (Or.inr ⟨_, rfl⟩) dX12_readIf_58 ?_
  refine go_bipush (v := 12) (by decide) dX12_readIf_59 ?_
  refine go_at 61 rfl ?_
  obtain ⟨g14, hs⟩ := gO_at hs
  obtain ⟨y13, ey13, hs⟩ := bindS hs
  refine go_V1 (As := [.int (12 : Int32)]) (st := []) g14 rfl rfl (oX12_eats (d := d - 1) (by omega) ey13) (by omega) mb_X12_eats lm_RX12_174 mi_X12_eats (Nat.le_of_ble_eq_true rfl) rfl dX12_readIf_61 ?_
  refine go_if_ne (tgt := 72) (by decide) dX12_readIf_64 (fun c => ?_) (fun c => ?_)
  · have hs := if_f c hs
    exact go_subL (L' := [some (.ref x0), none]) (by simp [subL, va_rf]) (oX12_readIf_72 hd hrc hs hk)
  · have hs := if_t c hs
    refine go_aload_n (k4 := 0) rfl (Or.inr ⟨_, rfl⟩) dX12_readIf_67 ?_
    refine go_iconst (v := 2) (by decide) dX12_readIf_68 ?_
    obtain ⟨g18, hs⟩ := gO_at hs
    obtain ⟨y17, ey17, hs⟩ := bindS hs
    refine go_V0 (As := [.int (2 : Int32)]) (st := []) g18 rfl rfl (oX12_fails (d := d - 1) (by omega) ey17) (by omega) mb_X12_fails lm_RX12_151 mi_X12_fails (Nat.le_of_ble_eq_true rfl) rfl dX12_readIf_69 ?_
    exact go_subL (L' := [some (.ref x0), none]) (by simp [subL, va_rf]) (oX12_readIf_72 hd hrc hs hk)
noncomputable def fX12_readIf_30 (rc : Nat → Hp → Nat → Int32 → Option Hp) (h : Hp) (x0 : Nat) (x1 : Int32) : Option Hp :=
  gO h 12 x0 (
  (rc 3 h x0 (x1 + (1 : Int32))).bind fun y7 =>
  gO y7 12 x0 (
  (fX12_eats y7 x0 (11 : Int32)).bind fun y9 =>
  if y9.1 = 0 then (
    gO y9.2 12 x0 (
    (fX12_fails y9.2 x0 (2 : Int32)).bind fun y19 =>
    fX12_readIf_51 rc y19 x0 x1)) else (
  fX12_readIf_51 rc y9.2 x0 x1)))
theorem oX12_readIf_30 {d : Nat} (hd : 7 ≤ d) {rc : Nat → Hp → Nat → Int32 → Option Hp} (hrc : ∀ (sel : Nat) (h : Hp) (x0 : Nat) (x1 : Int32) (y : Hp), rc sel h x0 x1 = some y → Call (d - 1) (mgX12_readAtom sel) [.ref x0, .int x1] h (none) y) {h : Hp} {x0 : Nat} {x1 : Int32} {rf : Option Value} {hf : Hp} {x : Hp} (hs : fX12_readIf_30 rc h x0 x1 = some x) (hk : (kX12_readIf rf hf) x) : Go d mX12_readIf 30 [some (.ref x0), some (.int x1)] [] h rf hf := by
  unfold fX12_readIf_30 at hs
  refine go_aload_n (k4 := 0) rfl (Or.inr ⟨_, rfl⟩) dX12_readIf_30 ?_
  refine go_iload_n (k4 := 1) rfl dX12_readIf_31 ?_
  refine go_iconst (v := 1) (by decide) dX12_readIf_32 ?_
  refine go_iadd dX12_readIf_33 ?_
  obtain ⟨g8, hs⟩ := gO_at hs
  obtain ⟨y7, ey7, hs⟩ := bindS hs
  refine go_V0 (As := [.int (x1 + (1 : Int32))]) (st := []) g8 rfl rfl (show Call (d - 1) mX12_readSum _ _ _ _ from hrc 3 h x0 (x1 + (1 : Int32)) _ ey7) (by omega) mb_X12_readSum lm_RX12_171 mi_X12_readSum (Nat.le_of_ble_eq_true rfl) rfl dX12_readIf_34 ?_
  refine go_aload_n (k4 := 0) rfl (Or.inr ⟨_, rfl⟩) dX12_readIf_37 ?_
  refine go_bipush (v := 11) (by decide) dX12_readIf_38 ?_
  refine go_at 40 rfl ?_
  obtain ⟨g10, hs⟩ := gO_at hs
  obtain ⟨y9, ey9, hs⟩ := bindS hs
  refine go_V1 (As := [.int (11 : Int32)]) (st := []) g10 rfl rfl (oX12_eats (d := d - 1) (by omega) ey9) (by omega) mb_X12_eats lm_RX12_174 mi_X12_eats (Nat.le_of_ble_eq_true rfl) rfl dX12_readIf_40 ?_
  refine go_if_ne (tgt := 51) (by decide) dX12_readIf_43 (fun c => ?_) (fun c => ?_)
  · have hs := if_f c hs
    exact go_subL (L' := [some (.ref x0), some (.int x1)]) (by simp [subL, va_rf]) (oX12_readIf_51 hd hrc hs hk)
  · have hs := if_t c hs
    refine go_aload_n (k4 := 0) rfl (Or.inr ⟨_, rfl⟩) dX12_readIf_46 ?_
    refine go_iconst (v := 2) (by decide) dX12_readIf_47 ?_
    obtain ⟨g20, hs⟩ := gO_at hs
    obtain ⟨y19, ey19, hs⟩ := bindS hs
    refine go_V0 (As := [.int (2 : Int32)]) (st := []) g20 rfl rfl (oX12_fails (d := d - 1) (by omega) ey19) (by omega) mb_X12_fails lm_RX12_151 mi_X12_fails (Nat.le_of_ble_eq_true rfl) rfl dX12_readIf_48 ?_
    exact go_subL (L' := [some (.ref x0), some (.int x1)]) (by simp [subL, va_rf]) (oX12_readIf_51 hd hrc hs hk)
noncomputable def fX12_readIf (rc : Nat → Hp → Nat → Int32 → Option Hp) (h : Hp) (x0 : Nat) (x1 : Int32) : Option Hp :=
  gO h 12 x0 (
  (fX12_goesIn h x0 x1).bind fun y1 =>
  if y1.1 = 0 then (
    some (y1.2)) else (
    gO y1.2 12 x0 (
    (rc 6 y1.2 x0 (x1 + (1 : Int32))).bind fun y3 =>
    gO y3 12 x0 (
    (fX12_eats y3 x0 (10 : Int32)).bind fun y5 =>
    if y5.1 = 0 then (
      gO y5.2 12 x0 (
      (fX12_fails y5.2 x0 (2 : Int32)).bind fun y21 =>
      fX12_readIf_30 rc y21 x0 x1)) else (
    fX12_readIf_30 rc y5.2 x0 x1)))))
theorem oX12_readIf_0 {d : Nat} (hd : 7 ≤ d) {rc : Nat → Hp → Nat → Int32 → Option Hp} (hrc : ∀ (sel : Nat) (h : Hp) (x0 : Nat) (x1 : Int32) (y : Hp), rc sel h x0 x1 = some y → Call (d - 1) (mgX12_readAtom sel) [.ref x0, .int x1] h (none) y) {h : Hp} {x0 : Nat} {x1 : Int32} {rf : Option Value} {hf : Hp} {x : Hp} (hs : fX12_readIf rc h x0 x1 = some x) (hk : (kX12_readIf rf hf) x) : Go d mX12_readIf 0 [some (.ref x0), some (.int x1)] [] h rf hf := by
  unfold fX12_readIf at hs
  refine go_aload_n (k4 := 0) rfl (Or.inr ⟨_, rfl⟩) dX12_readIf_0 ?_
  refine go_iload_n (k4 := 1) rfl dX12_readIf_1 ?_
  obtain ⟨g2, hs⟩ := gO_at hs
  obtain ⟨y1, ey1, hs⟩ := bindS hs
  refine go_V1 (As := [.int x1]) (st := []) g2 rfl rfl (oX12_goesIn (d := d - 1) (by omega) ey1) (by omega) mb_X12_goesIn lm_RX12_168 mi_X12_goesIn (Nat.le_of_ble_eq_true rfl) rfl dX12_readIf_2 ?_
  refine go_if_ne (tgt := 9) (by decide) dX12_readIf_5 (fun c => ?_) (fun c => ?_)
  · have hs := if_f c hs
    refine go_aload_n (k4 := 0) rfl (Or.inr ⟨_, rfl⟩) dX12_readIf_9 ?_
    refine go_iload_n (k4 := 1) rfl dX12_readIf_10 ?_
    refine go_iconst (v := 1) (by decide) dX12_readIf_11 ?_
    refine go_iadd dX12_readIf_12 ?_
    obtain ⟨g4, hs⟩ := gO_at hs
    obtain ⟨y3, ey3, hs⟩ := bindS hs
    refine go_V0 (As := [.int (x1 + (1 : Int32))]) (st := []) g4 rfl rfl (show Call (d - 1) mX12_readTruth _ _ _ _ from hrc 6 y1.2 x0 (x1 + (1 : Int32)) _ ey3) (by omega) mb_X12_readTruth lm_RX12_180 mi_X12_readTruth (Nat.le_of_ble_eq_true rfl) rfl dX12_readIf_13 ?_
    refine go_aload_n (k4 := 0) rfl (Or.inr ⟨_, rfl⟩) dX12_readIf_16 ?_
    refine go_bipush (v := 10) (by decide) dX12_readIf_17 ?_
    refine go_at 19 rfl ?_
    obtain ⟨g6, hs⟩ := gO_at hs
    obtain ⟨y5, ey5, hs⟩ := bindS hs
    refine go_V1 (As := [.int (10 : Int32)]) (st := []) g6 rfl rfl (oX12_eats (d := d - 1) (by omega) ey5) (by omega) mb_X12_eats lm_RX12_174 mi_X12_eats (Nat.le_of_ble_eq_true rfl) rfl dX12_readIf_19 ?_
    refine go_if_ne (tgt := 30) (by decide) dX12_readIf_22 (fun c => ?_) (fun c => ?_)
    · have hs := if_f c hs
      exact go_subL (L' := [some (.ref x0), some (.int x1)]) (by simp [subL, va_rf]) (oX12_readIf_30 hd hrc hs hk)
    · have hs := if_t c hs
      refine go_aload_n (k4 := 0) rfl (Or.inr ⟨_, rfl⟩) dX12_readIf_25 ?_
      refine go_iconst (v := 2) (by decide) dX12_readIf_26 ?_
      obtain ⟨g22, hs⟩ := gO_at hs
      obtain ⟨y21, ey21, hs⟩ := bindS hs
      refine go_V0 (As := [.int (2 : Int32)]) (st := []) g22 rfl rfl (oX12_fails (d := d - 1) (by omega) ey21) (by omega) mb_X12_fails lm_RX12_151 mi_X12_fails (Nat.le_of_ble_eq_true rfl) rfl dX12_readIf_27 ?_
      exact go_subL (L' := [some (.ref x0), some (.int x1)]) (by simp [subL, va_rf]) (oX12_readIf_30 hd hrc hs hk)
  · have hs := if_t c hs
    obtain rfl := Option.some.inj hs
    obtain ⟨rfl, rfl⟩ := hk
    exact go_vret rfl dX12_readIf_8
theorem oX12_readIf {d : Nat} (hd : 7 ≤ d) {rc : Nat → Hp → Nat → Int32 → Option Hp} (hrc : ∀ (sel : Nat) (h : Hp) (x0 : Nat) (x1 : Int32) (y : Hp), rc sel h x0 x1 = some y → Call (d - 1) (mgX12_readAtom sel) [.ref x0, .int x1] h (none) y) {h : Hp} {x0 : Nat} {x1 : Int32} {y : Hp} (hs : fX12_readIf rc h x0 x1 = some y) : Call d mX12_readIf [.ref x0, .int x1] h (none) y := call_of (by decide +kernel) (Nat.le_of_ble_eq_true rfl) (show Go d mX12_readIf 0 [some (.ref x0), some (.int x1)] [] h _ _ from go_subL (by simp [subL]) (oX12_readIf_0 hd hrc hs ⟨rfl, rfl⟩))
abbrev kX12_readTerm (rf : Option Value) (hf : Hp) : Hp → Prop := fun y => rf = none ∧ hf = y
abbrev pX12_readTerm_5 (d : Nat) (x0 : Nat) (x1 : Int32) (rf : Option Value) (hf : Hp) : Hp → Prop := fun s => Go d mX12_readTerm 5 [some (.ref x0), some (.int x1)] [] s rf hf
noncomputable def fX12_readTerm_5b (rc : Nat → Hp → Nat → Int32 → Option Hp) (h : Hp) (x0 : Nat) (x1 : Int32) : Option (Hp ⊕ Hp) :=
  gO h 12 x0 (
  (fX12_eats h x0 (34 : Int32)).bind fun y3 =>
  if y3.1 = 0 then (
    some (.inr (y3.2))) else (
    gO y3.2 12 x0 (
    (rc 0 y3.2 x0 x1).bind fun y5 =>
    gO y5 12 x0 (
    (fX12_codes y5 x0 (3002 : Int32)).bind fun y7 =>
    some (.inl y7)))))
noncomputable def fX12_readTerm_5 (rc : Nat → Hp → Nat → Int32 → Option Hp) (h : Hp) (x0 : Nat) (x1 : Int32) : Option Hp := lpw (σ := Hp) (fun s => fX12_readTerm_5b rc s x0 x1 ) h
theorem oX12_readTerm_5b {d : Nat} (hd : 7 ≤ d) {rc : Nat → Hp → Nat → Int32 → Option Hp} (hrc : ∀ (sel : Nat) (h : Hp) (x0 : Nat) (x1 : Int32) (y : Hp), rc sel h x0 x1 = some y → Call (d - 1) (mgX12_readAtom sel) [.ref x0, .int x1] h (none) y) {h : Hp} {x0 : Nat} {x1 : Int32} {rf : Option Value} {hf : Hp} {x : (Hp ⊕ Hp)} (hs : fX12_readTerm_5b rc h x0 x1 = some x) (hk : (Kx (pX12_readTerm_5 d x0 x1 rf hf) (kX12_readTerm rf hf)) x) : Go d mX12_readTerm 5 [some (.ref x0), some (.int x1)] [] h rf hf := by
  unfold fX12_readTerm_5b at hs
  refine go_aload_n (k4 := 0) rfl (Or.inr ⟨_, rfl⟩) dX12_readTerm_5 ?_
  refine go_bipush (v := 34) (by decide) dX12_readTerm_6 ?_
  obtain ⟨g4, hs⟩ := gO_at hs
  obtain ⟨y3, ey3, hs⟩ := bindS hs
  refine go_V1 (As := [.int (34 : Int32)]) (st := []) g4 rfl rfl (oX12_eats (d := d - 1) (by omega) ey3) (by omega) mb_X12_eats lm_RX12_174 mi_X12_eats (Nat.le_of_ble_eq_true rfl) rfl dX12_readTerm_8 ?_
  refine go_if_eq (tgt := 29) (by decide) dX12_readTerm_11 (fun c => ?_) (fun c => ?_)
  · have hs := if_t c hs
    obtain rfl := Option.some.inj hs
    obtain ⟨rfl, rfl⟩ := hk
    exact go_vret rfl dX12_readTerm_29
  · have hs := if_f c hs
    refine go_aload_n (k4 := 0) rfl (Or.inr ⟨_, rfl⟩) dX12_readTerm_14 ?_
    refine go_iload_n (k4 := 1) rfl dX12_readTerm_15 ?_
    obtain ⟨g6, hs⟩ := gO_at hs
    obtain ⟨y5, ey5, hs⟩ := bindS hs
    refine go_V0 (As := [.int x1]) (st := []) g6 rfl rfl (show Call (d - 1) mX12_readAtom _ _ _ _ from hrc 0 y3.2 x0 x1 _ ey5) (by omega) mb_X12_readAtom lm_RX12_183 mi_X12_readAtom (Nat.le_of_ble_eq_true rfl) rfl dX12_readTerm_16 ?_
    refine go_aload_n (k4 := 0) rfl (Or.inr ⟨_, rfl⟩) dX12_readTerm_19 ?_
    refine go_sipush (v := 3002) (by decide) dX12_readTerm_20 ?_
    obtain ⟨g8, hs⟩ := gO_at hs
    obtain ⟨y7, ey7, hs⟩ := bindS hs
    refine go_V0 (As := [.int (3002 : Int32)]) (st := []) g8 rfl rfl (oX12_codes (d := d - 1) (by omega) ey7) (by omega) mb_X12_codes lm_RX12_162 mi_X12_codes (Nat.le_of_ble_eq_true rfl) rfl dX12_readTerm_23 ?_
    refine go_goto (tgt := 5) (by decide) dX12_readTerm_26 ?_
    obtain rfl := Option.some.inj hs
    exact go_subL (L' := [some (.ref x0), some (.int x1)]) (by simp [subL, va_rf]) hk
theorem oX12_readTerm_5 {d : Nat} (hd : 7 ≤ d) {rc : Nat → Hp → Nat → Int32 → Option Hp} (hrc : ∀ (sel : Nat) (h : Hp) (x0 : Nat) (x1 : Int32) (y : Hp), rc sel h x0 x1 = some y → Call (d - 1) (mgX12_readAtom sel) [.ref x0, .int x1] h (none) y) {h : Hp} {x0 : Nat} {x1 : Int32} {rf : Option Value} {hf : Hp} {x : Hp} (hs : fX12_readTerm_5 rc h x0 x1 = some x) (hk : (kX12_readTerm rf hf) x) : Go d mX12_readTerm 5 [some (.ref x0), some (.int x1)] [] h rf hf := by
  unfold fX12_readTerm_5 at hs
  exact lpw_go (P := pX12_readTerm_5 d x0 x1 rf hf) (fun s x hs hk => oX12_readTerm_5b hd hrc hs hk) h x hs hk
noncomputable def fX12_readTerm (rc : Nat → Hp → Nat → Int32 → Option Hp) (h : Hp) (x0 : Nat) (x1 : Int32) : Option Hp :=
  gO h 12 x0 (
  (rc 0 h x0 x1).bind fun y1 =>
  fX12_readTerm_5 rc y1 x0 x1)
theorem oX12_readTerm_0 {d : Nat} (hd : 7 ≤ d) {rc : Nat → Hp → Nat → Int32 → Option Hp} (hrc : ∀ (sel : Nat) (h : Hp) (x0 : Nat) (x1 : Int32) (y : Hp), rc sel h x0 x1 = some y → Call (d - 1) (mgX12_readAtom sel) [.ref x0, .int x1] h (none) y) {h : Hp} {x0 : Nat} {x1 : Int32} {rf : Option Value} {hf : Hp} {x : Hp} (hs : fX12_readTerm rc h x0 x1 = some x) (hk : (kX12_readTerm rf hf) x) : Go d mX12_readTerm 0 [some (.ref x0), some (.int x1)] [] h rf hf := by
  unfold fX12_readTerm at hs
  refine go_aload_n (k4 := 0) rfl (Or.inr ⟨_, rfl⟩) dX12_readTerm_0 ?_
  refine go_iload_n (k4 := 1) rfl dX12_readTerm_1 ?_
  obtain ⟨g2, hs⟩ := gO_at hs
  obtain ⟨y1, ey1, hs⟩ := bindS hs
  refine go_V0 (As := [.int x1]) (st := []) g2 rfl rfl (show Call (d - 1) mX12_readAtom _ _ _ _ from hrc 0 h x0 x1 _ ey1) (by omega) mb_X12_readAtom lm_RX12_183 mi_X12_readAtom (Nat.le_of_ble_eq_true rfl) rfl dX12_readTerm_2 ?_
  exact go_subL (L' := [some (.ref x0), some (.int x1)]) (by simp [subL, va_rf]) (oX12_readTerm_5 hd hrc hs hk)
theorem oX12_readTerm {d : Nat} (hd : 7 ≤ d) {rc : Nat → Hp → Nat → Int32 → Option Hp} (hrc : ∀ (sel : Nat) (h : Hp) (x0 : Nat) (x1 : Int32) (y : Hp), rc sel h x0 x1 = some y → Call (d - 1) (mgX12_readAtom sel) [.ref x0, .int x1] h (none) y) {h : Hp} {x0 : Nat} {x1 : Int32} {y : Hp} (hs : fX12_readTerm rc h x0 x1 = some y) : Call d mX12_readTerm [.ref x0, .int x1] h (none) y := call_of (by decide +kernel) (Nat.le_of_ble_eq_true rfl) (show Go d mX12_readTerm 0 [some (.ref x0), some (.int x1)] [] h _ _ from go_subL (by simp [subL]) (oX12_readTerm_0 hd hrc hs ⟨rfl, rfl⟩))
abbrev kX12_readSum (rf : Option Value) (hf : Hp) : Hp → Prop := fun y => rf = none ∧ hf = y
abbrev pX12_readSum_5 (d : Nat) (x0 : Nat) (x1 : Int32) (rf : Option Value) (hf : Hp) : Hp → Prop := fun s => Go d mX12_readSum 5 [some (.ref x0), some (.int x1), none] [] s rf hf
noncomputable def fX12_readSum_41 (rc : Nat → Hp → Nat → Int32 → Option Hp) (h : Hp) (x0 : Nat) (x1 : Int32) (s0 : Int32) : Option (Hp ⊕ Hp) :=
  gO h 12 x0 (
  (fX12_next h x0).bind fun y6 =>
  gO y6 12 x0 (
  (rc 2 y6 x0 x1).bind fun y8 =>
  gO y8 12 x0 (
  (fX12_codes y8 x0 s0).bind fun y10 =>
  some (.inl y10))))
theorem oX12_readSum_41 {d : Nat} (hd : 7 ≤ d) {rc : Nat → Hp → Nat → Int32 → Option Hp} (hrc : ∀ (sel : Nat) (h : Hp) (x0 : Nat) (x1 : Int32) (y : Hp), rc sel h x0 x1 = some y → Call (d - 1) (mgX12_readAtom sel) [.ref x0, .int x1] h (none) y) {h : Hp} {x0 : Nat} {x1 : Int32} {s0 : Int32} {rf : Option Value} {hf : Hp} {x : (Hp ⊕ Hp)} (hs : fX12_readSum_41 rc h x0 x1 s0 = some x) (hk : (Kx (pX12_readSum_5 d x0 x1 rf hf) (kX12_readSum rf hf)) x) : Go d mX12_readSum 41 [some (.ref x0), some (.int x1), none] [.int s0] h rf hf := by
  unfold fX12_readSum_41 at hs
  refine go_istore_n (k4 := 2) (L' := [some (.ref x0), some (.int x1), some (.int s0)]) (by decide) rfl dX12_readSum_41 ?_
  refine go_aload_n (k4 := 0) rfl (Or.inr ⟨_, rfl⟩) dX12_readSum_42 ?_
  obtain ⟨g7, hs⟩ := gO_at hs
  obtain ⟨y6, ey6, hs⟩ := bindS hs
  refine go_V0 (As := []) (st := []) g7 rfl rfl (oX12_next (d := d - 1) (by omega) ey6) (by omega) mb_X12_next lm_RX12_148 mi_X12_next (Nat.le_of_ble_eq_true rfl) rfl dX12_readSum_43 ?_
  refine go_aload_n (k4 := 0) rfl (Or.inr ⟨_, rfl⟩) dX12_readSum_46 ?_
  refine go_iload_n (k4 := 1) rfl dX12_readSum_47 ?_
  obtain ⟨g9, hs⟩ := gO_at hs
  obtain ⟨y8, ey8, hs⟩ := bindS hs
  refine go_V0 (As := [.int x1]) (st := []) g9 rfl rfl (show Call (d - 1) mX12_readTerm _ _ _ _ from hrc 2 y6 x0 x1 _ ey8) (by omega) mb_X12_readTerm lm_RX12_186 mi_X12_readTerm (Nat.le_of_ble_eq_true rfl) rfl dX12_readSum_48 ?_
  refine go_aload_n (k4 := 0) rfl (Or.inr ⟨_, rfl⟩) dX12_readSum_51 ?_
  refine go_at 52 rfl ?_
  refine go_iload_n (k4 := 2) rfl dX12_readSum_52 ?_
  obtain ⟨g11, hs⟩ := gO_at hs
  obtain ⟨y10, ey10, hs⟩ := bindS hs
  refine go_V0 (As := [.int s0]) (st := []) g11 rfl rfl (oX12_codes (d := d - 1) (by omega) ey10) (by omega) mb_X12_codes lm_RX12_162 mi_X12_codes (Nat.le_of_ble_eq_true rfl) rfl dX12_readSum_53 ?_
  refine go_goto (tgt := 5) (by decide) dX12_readSum_56 ?_
  obtain rfl := Option.some.inj hs
  exact go_subL (L' := [some (.ref x0), some (.int x1), none]) (by simp [subL, va_rf]) hk
noncomputable def fX12_readSum_23 (rc : Nat → Hp → Nat → Int32 → Option Hp) (h : Hp) (x0 : Nat) (x1 : Int32) : Option (Hp ⊕ Hp) :=
  (gI h 12 x0 9).bind fun v5 =>
  if v5 = (32 : Int32) then (
    fX12_readSum_41 rc h x0 x1 (3000 : Int32)) else (
    fX12_readSum_41 rc h x0 x1 (3001 : Int32))
theorem oX12_readSum_23 {d : Nat} (hd : 7 ≤ d) {rc : Nat → Hp → Nat → Int32 → Option Hp} (hrc : ∀ (sel : Nat) (h : Hp) (x0 : Nat) (x1 : Int32) (y : Hp), rc sel h x0 x1 = some y → Call (d - 1) (mgX12_readAtom sel) [.ref x0, .int x1] h (none) y) {h : Hp} {x0 : Nat} {x1 : Int32} {rf : Option Value} {hf : Hp} {x : (Hp ⊕ Hp)} (hs : fX12_readSum_23 rc h x0 x1 = some x) (hk : (Kx (pX12_readSum_5 d x0 x1 rf hf) (kX12_readSum rf hf)) x) : Go d mX12_readSum 23 [some (.ref x0), some (.int x1), none] [] h rf hf := by
  unfold fX12_readSum_23 at hs
  refine go_aload_n (k4 := 0) rfl (Or.inr ⟨_, rfl⟩) dX12_readSum_23 ?_
  obtain ⟨v5, ev5, hs⟩ := bindS hs
  refine go_gI fl_RX12_121 ev5 dX12_readSum_24 ?_
  refine go_bipush (v := 32) (by decide) dX12_readSum_27 ?_
  refine go_icmp_ne (tgt := 38) (by decide) dX12_readSum_29 (fun c => ?_) (fun c => ?_)
  · have hs := if_f c hs
    refine go_sipush (v := 3001) (by decide) dX12_readSum_38 ?_
    exact go_subL (L' := [some (.ref x0), some (.int x1), none]) (by simp [subL, va_rf]) (oX12_readSum_41 hd hrc hs hk)
  · have hs := if_t c hs
    refine go_sipush (v := 3000) (by decide) dX12_readSum_32 ?_
    refine go_goto (tgt := 41) (by decide) dX12_readSum_35 ?_
    exact go_subL (L' := [some (.ref x0), some (.int x1), none]) (by simp [subL, va_rf]) (oX12_readSum_41 hd hrc hs hk)
noncomputable def fX12_readSum_5b (rc : Nat → Hp → Nat → Int32 → Option Hp) (h : Hp) (x0 : Nat) (x1 : Int32) : Option (Hp ⊕ Hp) :=
  gO h 12 x0 (
  (fX12_is h x0 (32 : Int32)).bind fun y3 =>
  if y3 = 0 then (
    gO h 12 x0 (
    (fX12_is h x0 (33 : Int32)).bind fun y12 =>
    if y12 = 0 then (
      some (.inr h)) else (
    fX12_readSum_23 rc h x0 x1))) else (
  fX12_readSum_23 rc h x0 x1))
noncomputable def fX12_readSum_5 (rc : Nat → Hp → Nat → Int32 → Option Hp) (h : Hp) (x0 : Nat) (x1 : Int32) : Option Hp := lpw (σ := Hp) (fun s => fX12_readSum_5b rc s x0 x1 ) h
theorem oX12_readSum_5b {d : Nat} (hd : 7 ≤ d) {rc : Nat → Hp → Nat → Int32 → Option Hp} (hrc : ∀ (sel : Nat) (h : Hp) (x0 : Nat) (x1 : Int32) (y : Hp), rc sel h x0 x1 = some y → Call (d - 1) (mgX12_readAtom sel) [.ref x0, .int x1] h (none) y) {h : Hp} {x0 : Nat} {x1 : Int32} {rf : Option Value} {hf : Hp} {x : (Hp ⊕ Hp)} (hs : fX12_readSum_5b rc h x0 x1 = some x) (hk : (Kx (pX12_readSum_5 d x0 x1 rf hf) (kX12_readSum rf hf)) x) : Go d mX12_readSum 5 [some (.ref x0), some (.int x1), none] [] h rf hf := by
  unfold fX12_readSum_5b at hs
  refine go_aload_n (k4 := 0) rfl (Or.inr ⟨_, rfl⟩) dX12_readSum_5 ?_
  refine go_bipush (v := 32) (by decide) dX12_readSum_6 ?_
  obtain ⟨g4, hs⟩ := gO_at hs
  obtain ⟨y3, ey3, hs⟩ := bindS hs
  refine go_V1 (As := [.int (32 : Int32)]) (st := []) g4 rfl rfl (oX12_is (d := d - 1) (by omega) ey3) (by omega) mb_X12_is lm_RX12_145 mi_X12_is (Nat.le_of_ble_eq_true rfl) rfl dX12_readSum_8 ?_
  refine go_if_ne (tgt := 23) (by decide) dX12_readSum_11 (fun c => ?_) (fun c => ?_)
  · have hs := if_f c hs
    exact go_subL (L' := [some (.ref x0), some (.int x1), none]) (by simp [subL, va_rf]) (oX12_readSum_23 hd hrc hs hk)
  · have hs := if_t c hs
    refine go_aload_n (k4 := 0) rfl (Or.inr ⟨_, rfl⟩) dX12_readSum_14 ?_
    refine go_bipush (v := 33) (by decide) dX12_readSum_15 ?_
    obtain ⟨g13, hs⟩ := gO_at hs
    obtain ⟨y12, ey12, hs⟩ := bindS hs
    refine go_V1 (As := [.int (33 : Int32)]) (st := []) g13 rfl rfl (oX12_is (d := d - 1) (by omega) ey12) (by omega) mb_X12_is lm_RX12_145 mi_X12_is (Nat.le_of_ble_eq_true rfl) rfl dX12_readSum_17 ?_
    refine go_if_eq (tgt := 59) (by decide) dX12_readSum_20 (fun c => ?_) (fun c => ?_)
    · have hs := if_t c hs
      obtain rfl := Option.some.inj hs
      obtain ⟨rfl, rfl⟩ := hk
      exact go_vret rfl dX12_readSum_59
    · have hs := if_f c hs
      exact go_subL (L' := [some (.ref x0), some (.int x1), none]) (by simp [subL, va_rf]) (oX12_readSum_23 hd hrc hs hk)
theorem oX12_readSum_5 {d : Nat} (hd : 7 ≤ d) {rc : Nat → Hp → Nat → Int32 → Option Hp} (hrc : ∀ (sel : Nat) (h : Hp) (x0 : Nat) (x1 : Int32) (y : Hp), rc sel h x0 x1 = some y → Call (d - 1) (mgX12_readAtom sel) [.ref x0, .int x1] h (none) y) {h : Hp} {x0 : Nat} {x1 : Int32} {rf : Option Value} {hf : Hp} {x : Hp} (hs : fX12_readSum_5 rc h x0 x1 = some x) (hk : (kX12_readSum rf hf) x) : Go d mX12_readSum 5 [some (.ref x0), some (.int x1), none] [] h rf hf := by
  unfold fX12_readSum_5 at hs
  exact lpw_go (P := pX12_readSum_5 d x0 x1 rf hf) (fun s x hs hk => oX12_readSum_5b hd hrc hs hk) h x hs hk
noncomputable def fX12_readSum (rc : Nat → Hp → Nat → Int32 → Option Hp) (h : Hp) (x0 : Nat) (x1 : Int32) : Option Hp :=
  gO h 12 x0 (
  (rc 2 h x0 x1).bind fun y1 =>
  fX12_readSum_5 rc y1 x0 x1)
theorem oX12_readSum_0 {d : Nat} (hd : 7 ≤ d) {rc : Nat → Hp → Nat → Int32 → Option Hp} (hrc : ∀ (sel : Nat) (h : Hp) (x0 : Nat) (x1 : Int32) (y : Hp), rc sel h x0 x1 = some y → Call (d - 1) (mgX12_readAtom sel) [.ref x0, .int x1] h (none) y) {h : Hp} {x0 : Nat} {x1 : Int32} {rf : Option Value} {hf : Hp} {x : Hp} (hs : fX12_readSum rc h x0 x1 = some x) (hk : (kX12_readSum rf hf) x) : Go d mX12_readSum 0 [some (.ref x0), some (.int x1), none] [] h rf hf := by
  unfold fX12_readSum at hs
  refine go_aload_n (k4 := 0) rfl (Or.inr ⟨_, rfl⟩) dX12_readSum_0 ?_
  refine go_iload_n (k4 := 1) rfl dX12_readSum_1 ?_
  obtain ⟨g2, hs⟩ := gO_at hs
  obtain ⟨y1, ey1, hs⟩ := bindS hs
  refine go_V0 (As := [.int x1]) (st := []) g2 rfl rfl (show Call (d - 1) mX12_readTerm _ _ _ _ from hrc 2 h x0 x1 _ ey1) (by omega) mb_X12_readTerm lm_RX12_186 mi_X12_readTerm (Nat.le_of_ble_eq_true rfl) rfl dX12_readSum_2 ?_
  exact go_subL (L' := [some (.ref x0), some (.int x1), none]) (by simp [subL, va_rf]) (oX12_readSum_5 hd hrc hs hk)
theorem oX12_readSum {d : Nat} (hd : 7 ≤ d) {rc : Nat → Hp → Nat → Int32 → Option Hp} (hrc : ∀ (sel : Nat) (h : Hp) (x0 : Nat) (x1 : Int32) (y : Hp), rc sel h x0 x1 = some y → Call (d - 1) (mgX12_readAtom sel) [.ref x0, .int x1] h (none) y) {h : Hp} {x0 : Nat} {x1 : Int32} {y : Hp} (hs : fX12_readSum rc h x0 x1 = some y) : Call d mX12_readSum [.ref x0, .int x1] h (none) y := call_of (by decide +kernel) (Nat.le_of_ble_eq_true rfl) (show Go d mX12_readSum 0 [some (.ref x0), some (.int x1), none] [] h _ _ from go_subL (by simp [subL]) (oX12_readSum_0 hd hrc hs ⟨rfl, rfl⟩))
abbrev kX12_readUnit (rf : Option Value) (hf : Hp) : Hp → Prop := fun y => rf = none ∧ hf = y
noncomputable def fX12_readUnit_151 (rc : Nat → Hp → Nat → Int32 → Option Hp) (h : Hp) (x0 : Nat) (x1 : Int32) (x2 : Int32) : Option Hp :=
  gO h 12 x0 (
  (rc 3 h x0 x1).bind fun y15 =>
  gO y15 12 x0 (
  (fX12_codes y15 x0 x2).bind fun y17 =>
  some (y17)))
theorem oX12_readUnit_151 {d : Nat} (hd : 7 ≤ d) {rc : Nat → Hp → Nat → Int32 → Option Hp} (hrc : ∀ (sel : Nat) (h : Hp) (x0 : Nat) (x1 : Int32) (y : Hp), rc sel h x0 x1 = some y → Call (d - 1) (mgX12_readAtom sel) [.ref x0, .int x1] h (none) y) {h : Hp} {x0 : Nat} {x1 : Int32} {x2 : Int32} {rf : Option Value} {hf : Hp} {x : Hp} (hs : fX12_readUnit_151 rc h x0 x1 x2 = some x) (hk : (kX12_readUnit rf hf) x) : Go d mX12_readUnit 151 [some (.ref x0), some (.int x1), some (.int x2)] [] h rf hf := by
  unfold fX12_readUnit_151 at hs
  refine go_aload_n (k4 := 0) rfl (Or.inr ⟨_, rfl⟩) dX12_readUnit_151 ?_
  refine go_iload_n (k4 := 1) rfl dX12_readUnit_152 ?_
  obtain ⟨g16, hs⟩ := gO_at hs
  obtain ⟨y15, ey15, hs⟩ := bindS hs
  refine go_V0 (As := [.int x1]) (st := []) g16 rfl rfl (show Call (d - 1) mX12_readSum _ _ _ _ from hrc 3 h x0 x1 _ ey15) (by omega) mb_X12_readSum lm_RX12_171 mi_X12_readSum (Nat.le_of_ble_eq_true rfl) rfl dX12_readUnit_153 ?_
  refine go_aload_n (k4 := 0) rfl (Or.inr ⟨_, rfl⟩) dX12_readUnit_156 ?_
  refine go_iload_n (k4 := 2) rfl dX12_readUnit_157 ?_
  obtain ⟨g18, hs⟩ := gO_at hs
  obtain ⟨y17, ey17, hs⟩ := bindS hs
  refine go_V0 (As := [.int x2]) (st := []) g18 rfl rfl (oX12_codes (d := d - 1) (by omega) ey17) (by omega) mb_X12_codes lm_RX12_162 mi_X12_codes (Nat.le_of_ble_eq_true rfl) rfl dX12_readUnit_158 ?_
  obtain rfl := Option.some.inj hs
  obtain ⟨rfl, rfl⟩ := hk
  exact go_vret rfl dX12_readUnit_161
noncomputable def fX12_readUnit_139 (rc : Nat → Hp → Nat → Int32 → Option Hp) (h : Hp) (x0 : Nat) (x1 : Int32) (x2 : Int32) : Option Hp :=
  gO h 12 x0 (
  (fX12_next h x0).bind fun y13 =>
  fX12_readUnit_151 rc y13 x0 x1 x2)
theorem oX12_readUnit_139 {d : Nat} (hd : 7 ≤ d) {rc : Nat → Hp → Nat → Int32 → Option Hp} (hrc : ∀ (sel : Nat) (h : Hp) (x0 : Nat) (x1 : Int32) (y : Hp), rc sel h x0 x1 = some y → Call (d - 1) (mgX12_readAtom sel) [.ref x0, .int x1] h (none) y) {h : Hp} {x0 : Nat} {x1 : Int32} {x2 : Int32} {rf : Option Value} {hf : Hp} {x : Hp} (hs : fX12_readUnit_139 rc h x0 x1 x2 = some x) (hk : (kX12_readUnit rf hf) x) : Go d mX12_readUnit 139 [some (.ref x0), some (.int x1), some (.int x2)] [] h rf hf := by
  unfold fX12_readUnit_139 at hs
  refine go_aload_n (k4 := 0) rfl (Or.inr ⟨_, rfl⟩) dX12_readUnit_139 ?_
  obtain ⟨g14, hs⟩ := gO_at hs
  obtain ⟨y13, ey13, hs⟩ := bindS hs
  refine go_V0 (As := []) (st := []) g14 rfl rfl (oX12_next (d := d - 1) (by omega) ey13) (by omega) mb_X12_next lm_RX12_148 mi_X12_next (Nat.le_of_ble_eq_true rfl) rfl dX12_readUnit_140 ?_
  refine go_goto (tgt := 151) (by decide) dX12_readUnit_143 ?_
  exact go_subL (L' := [some (.ref x0), some (.int x1), some (.int x2)]) (by simp [subL, va_rf]) (oX12_readUnit_151 hd hrc hs hk)
noncomputable def fX12_readUnit_111 (rc : Nat → Hp → Nat → Int32 → Option Hp) (h : Hp) (x0 : Nat) (x1 : Int32) (s0 : Int32) : Option Hp :=
  gO h 12 x0 (
  (fX12_is h x0 (39 : Int32)).bind fun y11 =>
  if y11 = 0 then (
    gO h 12 x0 (
    (fX12_is h x0 (40 : Int32)).bind fun y19 =>
    if y19 = 0 then (
      gO h 12 x0 (
      (fX12_is h x0 (41 : Int32)).bind fun y21 =>
      if y21 = 0 then (
        gO h 12 x0 (
        (fX12_fails h x0 (2 : Int32)).bind fun y23 =>
        fX12_readUnit_151 rc y23 x0 x1 s0)) else (
      fX12_readUnit_139 rc h x0 x1 s0))) else (
    fX12_readUnit_139 rc h x0 x1 s0))) else (
  fX12_readUnit_139 rc h x0 x1 s0))
theorem oX12_readUnit_111 {d : Nat} (hd : 7 ≤ d) {rc : Nat → Hp → Nat → Int32 → Option Hp} (hrc : ∀ (sel : Nat) (h : Hp) (x0 : Nat) (x1 : Int32) (y : Hp), rc sel h x0 x1 = some y → Call (d - 1) (mgX12_readAtom sel) [.ref x0, .int x1] h (none) y) {h : Hp} {x0 : Nat} {x1 : Int32} {s0 : Int32} {rf : Option Value} {hf : Hp} {x : Hp} (hs : fX12_readUnit_111 rc h x0 x1 s0 = some x) (hk : (kX12_readUnit rf hf) x) : Go d mX12_readUnit 111 [some (.ref x0), some (.int x1), none] [.int s0] h rf hf := by
  unfold fX12_readUnit_111 at hs
  refine go_istore_n (k4 := 2) (L' := [some (.ref x0), some (.int x1), some (.int s0)]) (by decide) rfl dX12_readUnit_111 ?_
  refine go_aload_n (k4 := 0) rfl (Or.inr ⟨_, rfl⟩) dX12_readUnit_112 ?_
  refine go_bipush (v := 39) (by decide) dX12_readUnit_113 ?_
  obtain ⟨g12, hs⟩ := gO_at hs
  obtain ⟨y11, ey11, hs⟩ := bindS hs
  refine go_V1 (As := [.int (39 : Int32)]) (st := []) g12 rfl rfl (oX12_is (d := d - 1) (by omega) ey11) (by omega) mb_X12_is lm_RX12_145 mi_X12_is (Nat.le_of_ble_eq_true rfl) rfl dX12_readUnit_115 ?_
  refine go_if_ne (tgt := 139) (by decide) dX12_readUnit_118 (fun c => ?_) (fun c => ?_)
  · have hs := if_f c hs
    exact go_subL (L' := [some (.ref x0), some (.int x1), some (.int s0)]) (by simp [subL, va_rf]) (oX12_readUnit_139 hd hrc hs hk)
  · have hs := if_t c hs
    refine go_aload_n (k4 := 0) rfl (Or.inr ⟨_, rfl⟩) dX12_readUnit_121 ?_
    refine go_bipush (v := 40) (by decide) dX12_readUnit_122 ?_
    obtain ⟨g20, hs⟩ := gO_at hs
    obtain ⟨y19, ey19, hs⟩ := bindS hs
    refine go_V1 (As := [.int (40 : Int32)]) (st := []) g20 rfl rfl (oX12_is (d := d - 1) (by omega) ey19) (by omega) mb_X12_is lm_RX12_145 mi_X12_is (Nat.le_of_ble_eq_true rfl) rfl dX12_readUnit_124 ?_
    refine go_if_ne (tgt := 139) (by decide) dX12_readUnit_127 (fun c => ?_) (fun c => ?_)
    · have hs := if_f c hs
      exact go_subL (L' := [some (.ref x0), some (.int x1), some (.int s0)]) (by simp [subL, va_rf]) (oX12_readUnit_139 hd hrc hs hk)
    · have hs := if_t c hs
      refine go_aload_n (k4 := 0) rfl (Or.inr ⟨_, rfl⟩) dX12_readUnit_130 ?_
      refine go_bipush (v := 41) (by decide) dX12_readUnit_131 ?_
      obtain ⟨g22, hs⟩ := gO_at hs
      obtain ⟨y21, ey21, hs⟩ := bindS hs
      refine go_V1 (As := [.int (41 : Int32)]) (st := []) g22 rfl rfl (oX12_is (d := d - 1) (by omega) ey21) (by omega) mb_X12_is lm_RX12_145 mi_X12_is (Nat.le_of_ble_eq_true rfl) rfl dX12_readUnit_133 ?_
      refine go_if_eq (tgt := 146) (by decide) dX12_readUnit_136 (fun c => ?_) (fun c => ?_)
      · have hs := if_t c hs
        refine go_aload_n (k4 := 0) rfl (Or.inr ⟨_, rfl⟩) dX12_readUnit_146 ?_
        refine go_iconst (v := 2) (by decide) dX12_readUnit_147 ?_
        obtain ⟨g24, hs⟩ := gO_at hs
        obtain ⟨y23, ey23, hs⟩ := bindS hs
        refine go_V0 (As := [.int (2 : Int32)]) (st := []) g24 rfl rfl (oX12_fails (d := d - 1) (by omega) ey23) (by omega) mb_X12_fails lm_RX12_151 mi_X12_fails (Nat.le_of_ble_eq_true rfl) rfl dX12_readUnit_148 ?_
        exact go_subL (L' := [some (.ref x0), some (.int x1), some (.int s0)]) (by simp [subL, va_rf]) (oX12_readUnit_151 hd hrc hs hk)
      · have hs := if_f c hs
        exact go_subL (L' := [some (.ref x0), some (.int x1), some (.int s0)]) (by simp [subL, va_rf]) (oX12_readUnit_139 hd hrc hs hk)
noncomputable def fX12_readUnit_72 (rc : Nat → Hp → Nat → Int32 → Option Hp) (h : Hp)  : Option Hp :=
  some (h)
theorem oX12_readUnit_72 {d : Nat} (hd : 7 ≤ d) {rc : Nat → Hp → Nat → Int32 → Option Hp} (hrc : ∀ (sel : Nat) (h : Hp) (x0 : Nat) (x1 : Int32) (y : Hp), rc sel h x0 x1 = some y → Call (d - 1) (mgX12_readAtom sel) [.ref x0, .int x1] h (none) y) {h : Hp} {rf : Option Value} {hf : Hp} {x : Hp} (hs : fX12_readUnit_72 rc h  = some x) (hk : (kX12_readUnit rf hf) x) : Go d mX12_readUnit 72 [none, none, none] [] h rf hf := by
  unfold fX12_readUnit_72 at hs
  obtain rfl := Option.some.inj hs
  obtain ⟨rfl, rfl⟩ := hk
  exact go_vret rfl dX12_readUnit_72
noncomputable def fX12_readUnit (rc : Nat → Hp → Nat → Int32 → Option Hp) (h : Hp) (x0 : Nat) (x1 : Int32) : Option Hp :=
  gO h 12 x0 (
  (fX12_is h x0 (18 : Int32)).bind fun y1 =>
  if y1 = 0 then (
    gO h 12 x0 (
    (fX12_is h x0 (37 : Int32)).bind fun y3 =>
    if y3 = 0 then (
      gO h 12 x0 (
      (rc 3 h x0 x1).bind fun y5 =>
      gO y5 12 x0 (
      (fX12_is y5 x0 (39 : Int32)).bind fun y7 =>
      if y7 = 0 then (
        gO y5 12 x0 (
        (fX12_is y5 x0 (40 : Int32)).bind fun y9 =>
        if y9 = 0 then (
          fX12_readUnit_111 rc y5 x0 x1 (3005 : Int32)) else (
          fX12_readUnit_111 rc y5 x0 x1 (3004 : Int32)))) else (
        fX12_readUnit_111 rc y5 x0 x1 (3003 : Int32))))) else (
      gO h 12 x0 (
      (fX12_goesIn h x0 x1).bind fun y25 =>
      if y25.1 = 0 then (
        some (y25.2)) else (
        gO y25.2 12 x0 (
        (rc 6 y25.2 x0 (x1 + (1 : Int32))).bind fun y27 =>
        gO y27 12 x0 (
        (fX12_eats y27 x0 (38 : Int32)).bind fun y29 =>
        if y29.1 = 0 then (
          gO y29.2 12 x0 (
          (fX12_fails y29.2 x0 (2 : Int32)).bind fun y31 =>
          fX12_readUnit_72 rc y31 )) else (
        fX12_readUnit_72 rc y29.2 )))))))) else (
    gO h 12 x0 (
    (fX12_goesIn h x0 x1).bind fun y33 =>
    if y33.1 = 0 then (
      some (y33.2)) else (
      gO y33.2 12 x0 (
      (rc 4 y33.2 x0 (x1 + (1 : Int32))).bind fun y35 =>
      gO y35 12 x0 (
      (fX12_codes y35 x0 (3006 : Int32)).bind fun y37 =>
      some (y37)))))))
theorem oX12_readUnit_0 {d : Nat} (hd : 7 ≤ d) {rc : Nat → Hp → Nat → Int32 → Option Hp} (hrc : ∀ (sel : Nat) (h : Hp) (x0 : Nat) (x1 : Int32) (y : Hp), rc sel h x0 x1 = some y → Call (d - 1) (mgX12_readAtom sel) [.ref x0, .int x1] h (none) y) {h : Hp} {x0 : Nat} {x1 : Int32} {rf : Option Value} {hf : Hp} {x : Hp} (hs : fX12_readUnit rc h x0 x1 = some x) (hk : (kX12_readUnit rf hf) x) : Go d mX12_readUnit 0 [some (.ref x0), some (.int x1), none] [] h rf hf := by
  unfold fX12_readUnit at hs
  refine go_aload_n (k4 := 0) rfl (Or.inr ⟨_, rfl⟩) dX12_readUnit_0 ?_
  refine go_bipush (v := 18) (by decide) dX12_readUnit_1 ?_
  obtain ⟨g2, hs⟩ := gO_at hs
  obtain ⟨y1, ey1, hs⟩ := bindS hs
  refine go_V1 (As := [.int (18 : Int32)]) (st := []) g2 rfl rfl (oX12_is (d := d - 1) (by omega) ey1) (by omega) mb_X12_is lm_RX12_145 mi_X12_is (Nat.le_of_ble_eq_true rfl) rfl dX12_readUnit_3 ?_
  refine go_if_eq (tgt := 33) (by decide) dX12_readUnit_6 (fun c => ?_) (fun c => ?_)
  · have hs := if_t c hs
    refine go_aload_n (k4 := 0) rfl (Or.inr ⟨_, rfl⟩) dX12_readUnit_33 ?_
    refine go_bipush (v := 37) (by decide) dX12_readUnit_34 ?_
    obtain ⟨g4, hs⟩ := gO_at hs
    obtain ⟨y3, ey3, hs⟩ := bindS hs
    refine go_V1 (As := [.int (37 : Int32)]) (st := []) g4 rfl rfl (oX12_is (d := d - 1) (by omega) ey3) (by omega) mb_X12_is lm_RX12_145 mi_X12_is (Nat.le_of_ble_eq_true rfl) rfl dX12_readUnit_36 ?_
    refine go_if_eq (tgt := 73) (by decide) dX12_readUnit_39 (fun c => ?_) (fun c => ?_)
    · have hs := if_t c hs
      refine go_aload_n (k4 := 0) rfl (Or.inr ⟨_, rfl⟩) dX12_readUnit_73 ?_
      refine go_iload_n (k4 := 1) rfl dX12_readUnit_74 ?_
      obtain ⟨g6, hs⟩ := gO_at hs
      obtain ⟨y5, ey5, hs⟩ := bindS hs
      refine go_V0 (As := [.int x1]) (st := []) g6 rfl rfl (show Call (d - 1) mX12_readSum _ _ _ _ from hrc 3 h x0 x1 _ ey5) (by omega) mb_X12_readSum lm_RX12_171 mi_X12_readSum (Nat.le_of_ble_eq_true rfl) rfl dX12_readUnit_75 ?_
      refine go_aload_n (k4 := 0) rfl (Or.inr ⟨_, rfl⟩) dX12_readUnit_78 ?_
      refine go_bipush (v := 39) (by decide) dX12_readUnit_79 ?_
      obtain ⟨g8, hs⟩ := gO_at hs
      obtain ⟨y7, ey7, hs⟩ := bindS hs
      refine go_V1 (As := [.int (39 : Int32)]) (st := []) g8 rfl rfl (oX12_is (d := d - 1) (by omega) ey7) (by omega) mb_X12_is lm_RX12_145 mi_X12_is (Nat.le_of_ble_eq_true rfl) rfl dX12_readUnit_81 ?_
      refine go_if_eq (tgt := 93) (by decide) dX12_readUnit_84 (fun c => ?_) (fun c => ?_)
      · have hs := if_t c hs
        refine go_aload_n (k4 := 0) rfl (Or.inr ⟨_, rfl⟩) dX12_readUnit_93 ?_
        refine go_bipush (v := 40) (by decide) dX12_readUnit_94 ?_
        obtain ⟨g10, hs⟩ := gO_at hs
        obtain ⟨y9, ey9, hs⟩ := bindS hs
        refine go_V1 (As := [.int (40 : Int32)]) (st := []) g10 rfl rfl (oX12_is (d := d - 1) (by omega) ey9) (by omega) mb_X12_is lm_RX12_145 mi_X12_is (Nat.le_of_ble_eq_true rfl) rfl dX12_readUnit_96 ?_
        refine go_if_eq (tgt := 108) (by decide) dX12_readUnit_99 (fun c => ?_) (fun c => ?_)
        · have hs := if_t c hs
          refine go_sipush (v := 3005) (by decide) dX12_readUnit_108 ?_
          exact go_subL (L' := [some (.ref x0), some (.int x1), none]) (by simp [subL, va_rf]) (oX12_readUnit_111 hd hrc hs hk)
        · have hs := if_f c hs
          refine go_sipush (v := 3004) (by decide) dX12_readUnit_102 ?_
          refine go_goto (tgt := 111) (by decide) dX12_readUnit_105 ?_
          exact go_subL (L' := [some (.ref x0), some (.int x1), none]) (by simp [subL, va_rf]) (oX12_readUnit_111 hd hrc hs hk)
      · have hs := if_f c hs
        refine go_sipush (v := 3003) (by decide) dX12_readUnit_87 ?_
        refine go_goto (tgt := 111) (by decide) dX12_readUnit_90 ?_
        exact go_subL (L' := [some (.ref x0), some (.int x1), none]) (by simp [subL, va_rf]) (oX12_readUnit_111 hd hrc hs hk)
    · have hs := if_f c hs
      refine go_aload_n (k4 := 0) rfl (Or.inr ⟨_, rfl⟩) dX12_readUnit_42 ?_
      refine go_iload_n (k4 := 1) rfl dX12_readUnit_43 ?_
      obtain ⟨g26, hs⟩ := gO_at hs
      obtain ⟨y25, ey25, hs⟩ := bindS hs
      refine go_V1 (As := [.int x1]) (st := []) g26 rfl rfl (oX12_goesIn (d := d - 1) (by omega) ey25) (by omega) mb_X12_goesIn lm_RX12_168 mi_X12_goesIn (Nat.le_of_ble_eq_true rfl) rfl dX12_readUnit_44 ?_
      refine go_if_ne (tgt := 51) (by decide) dX12_readUnit_47 (fun c => ?_) (fun c => ?_)
      · have hs := if_f c hs
        refine go_aload_n (k4 := 0) rfl (Or.inr ⟨_, rfl⟩) dX12_readUnit_51 ?_
        refine go_iload_n (k4 := 1) rfl dX12_readUnit_52 ?_
        refine go_iconst (v := 1) (by decide) dX12_readUnit_53 ?_
        refine go_iadd dX12_readUnit_54 ?_
        obtain ⟨g28, hs⟩ := gO_at hs
        obtain ⟨y27, ey27, hs⟩ := bindS hs
        refine go_V0 (As := [.int (x1 + (1 : Int32))]) (st := []) g28 rfl rfl (show Call (d - 1) mX12_readTruth _ _ _ _ from hrc 6 y25.2 x0 (x1 + (1 : Int32)) _ ey27) (by omega) mb_X12_readTruth lm_RX12_180 mi_X12_readTruth (Nat.le_of_ble_eq_true rfl) rfl dX12_readUnit_55 ?_
        refine go_aload_n (k4 := 0) rfl (Or.inr ⟨_, rfl⟩) dX12_readUnit_58 ?_
        refine go_bipush (v := 38) (by decide) dX12_readUnit_59 ?_
        refine go_at 61 rfl ?_
        obtain ⟨g30, hs⟩ := gO_at hs
        obtain ⟨y29, ey29, hs⟩ := bindS hs
        refine go_V1 (As := [.int (38 : Int32)]) (st := []) g30 rfl rfl (oX12_eats (d := d - 1) (by omega) ey29) (by omega) mb_X12_eats lm_RX12_174 mi_X12_eats (Nat.le_of_ble_eq_true rfl) rfl dX12_readUnit_61 ?_
        refine go_if_ne (tgt := 72) (by decide) dX12_readUnit_64 (fun c => ?_) (fun c => ?_)
        · have hs := if_f c hs
          exact go_subL (L' := [none, none, none]) (by simp [subL, va_rf]) (oX12_readUnit_72 hd hrc hs hk)
        · have hs := if_t c hs
          refine go_aload_n (k4 := 0) rfl (Or.inr ⟨_, rfl⟩) dX12_readUnit_67 ?_
          refine go_iconst (v := 2) (by decide) dX12_readUnit_68 ?_
          obtain ⟨g32, hs⟩ := gO_at hs
          obtain ⟨y31, ey31, hs⟩ := bindS hs
          refine go_V0 (As := [.int (2 : Int32)]) (st := []) g32 rfl rfl (oX12_fails (d := d - 1) (by omega) ey31) (by omega) mb_X12_fails lm_RX12_151 mi_X12_fails (Nat.le_of_ble_eq_true rfl) rfl dX12_readUnit_69 ?_
          exact go_subL (L' := [none, none, none]) (by simp [subL, va_rf]) (oX12_readUnit_72 hd hrc hs hk)
      · have hs := if_t c hs
        obtain rfl := Option.some.inj hs
        obtain ⟨rfl, rfl⟩ := hk
        exact go_vret rfl dX12_readUnit_50
  · have hs := if_f c hs
    refine go_aload_n (k4 := 0) rfl (Or.inr ⟨_, rfl⟩) dX12_readUnit_9 ?_
    refine go_iload_n (k4 := 1) rfl dX12_readUnit_10 ?_
    obtain ⟨g34, hs⟩ := gO_at hs
    obtain ⟨y33, ey33, hs⟩ := bindS hs
    refine go_V1 (As := [.int x1]) (st := []) g34 rfl rfl (oX12_goesIn (d := d - 1) (by omega) ey33) (by omega) mb_X12_goesIn lm_RX12_168 mi_X12_goesIn (Nat.le_of_ble_eq_true rfl) rfl dX12_readUnit_11 ?_
    refine go_if_ne (tgt := 18) (by decide) dX12_readUnit_14 (fun c => ?_) (fun c => ?_)
    · have hs := if_f c hs
      refine go_aload_n (k4 := 0) rfl (Or.inr ⟨_, rfl⟩) dX12_readUnit_18 ?_
      refine go_iload_n (k4 := 1) rfl dX12_readUnit_19 ?_
      refine go_iconst (v := 1) (by decide) dX12_readUnit_20 ?_
      refine go_iadd dX12_readUnit_21 ?_
      obtain ⟨g36, hs⟩ := gO_at hs
      obtain ⟨y35, ey35, hs⟩ := bindS hs
      refine go_V0 (As := [.int (x1 + (1 : Int32))]) (st := []) g36 rfl rfl (show Call (d - 1) mX12_readUnit _ _ _ _ from hrc 4 y33.2 x0 (x1 + (1 : Int32)) _ ey35) (by omega) mb_X12_readUnit lm_RX12_189 mi_X12_readUnit (Nat.le_of_ble_eq_true rfl) rfl dX12_readUnit_22 ?_
      refine go_aload_n (k4 := 0) rfl (Or.inr ⟨_, rfl⟩) dX12_readUnit_25 ?_
      refine go_sipush (v := 3006) (by decide) dX12_readUnit_26 ?_
      refine go_at 29 rfl ?_
      obtain ⟨g38, hs⟩ := gO_at hs
      obtain ⟨y37, ey37, hs⟩ := bindS hs
      refine go_V0 (As := [.int (3006 : Int32)]) (st := []) g38 rfl rfl (oX12_codes (d := d - 1) (by omega) ey37) (by omega) mb_X12_codes lm_RX12_162 mi_X12_codes (Nat.le_of_ble_eq_true rfl) rfl dX12_readUnit_29 ?_
      obtain rfl := Option.some.inj hs
      obtain ⟨rfl, rfl⟩ := hk
      exact go_vret rfl dX12_readUnit_32
    · have hs := if_t c hs
      obtain rfl := Option.some.inj hs
      obtain ⟨rfl, rfl⟩ := hk
      exact go_vret rfl dX12_readUnit_17
theorem oX12_readUnit {d : Nat} (hd : 7 ≤ d) {rc : Nat → Hp → Nat → Int32 → Option Hp} (hrc : ∀ (sel : Nat) (h : Hp) (x0 : Nat) (x1 : Int32) (y : Hp), rc sel h x0 x1 = some y → Call (d - 1) (mgX12_readAtom sel) [.ref x0, .int x1] h (none) y) {h : Hp} {x0 : Nat} {x1 : Int32} {y : Hp} (hs : fX12_readUnit rc h x0 x1 = some y) : Call d mX12_readUnit [.ref x0, .int x1] h (none) y := call_of (by decide +kernel) (Nat.le_of_ble_eq_true rfl) (show Go d mX12_readUnit 0 [some (.ref x0), some (.int x1), none] [] h _ _ from go_subL (by simp [subL]) (oX12_readUnit_0 hd hrc hs ⟨rfl, rfl⟩))
abbrev kX12_readBoth (rf : Option Value) (hf : Hp) : Hp → Prop := fun y => rf = none ∧ hf = y
abbrev pX12_readBoth_5 (d : Nat) (x0 : Nat) (x1 : Int32) (rf : Option Value) (hf : Hp) : Hp → Prop := fun s => Go d mX12_readBoth 5 [some (.ref x0), some (.int x1)] [] s rf hf
noncomputable def fX12_readBoth_5b (rc : Nat → Hp → Nat → Int32 → Option Hp) (h : Hp) (x0 : Nat) (x1 : Int32) : Option (Hp ⊕ Hp) :=
  gO h 12 x0 (
  (fX12_eats h x0 (16 : Int32)).bind fun y3 =>
  if y3.1 = 0 then (
    some (.inr (y3.2))) else (
    gO y3.2 12 x0 (
    (rc 4 y3.2 x0 x1).bind fun y5 =>
    gO y5 12 x0 (
    (fX12_codes y5 x0 (3007 : Int32)).bind fun y7 =>
    some (.inl y7)))))
noncomputable def fX12_readBoth_5 (rc : Nat → Hp → Nat → Int32 → Option Hp) (h : Hp) (x0 : Nat) (x1 : Int32) : Option Hp := lpw (σ := Hp) (fun s => fX12_readBoth_5b rc s x0 x1 ) h
theorem oX12_readBoth_5b {d : Nat} (hd : 7 ≤ d) {rc : Nat → Hp → Nat → Int32 → Option Hp} (hrc : ∀ (sel : Nat) (h : Hp) (x0 : Nat) (x1 : Int32) (y : Hp), rc sel h x0 x1 = some y → Call (d - 1) (mgX12_readAtom sel) [.ref x0, .int x1] h (none) y) {h : Hp} {x0 : Nat} {x1 : Int32} {rf : Option Value} {hf : Hp} {x : (Hp ⊕ Hp)} (hs : fX12_readBoth_5b rc h x0 x1 = some x) (hk : (Kx (pX12_readBoth_5 d x0 x1 rf hf) (kX12_readBoth rf hf)) x) : Go d mX12_readBoth 5 [some (.ref x0), some (.int x1)] [] h rf hf := by
  unfold fX12_readBoth_5b at hs
  refine go_aload_n (k4 := 0) rfl (Or.inr ⟨_, rfl⟩) dX12_readBoth_5 ?_
  refine go_bipush (v := 16) (by decide) dX12_readBoth_6 ?_
  obtain ⟨g4, hs⟩ := gO_at hs
  obtain ⟨y3, ey3, hs⟩ := bindS hs
  refine go_V1 (As := [.int (16 : Int32)]) (st := []) g4 rfl rfl (oX12_eats (d := d - 1) (by omega) ey3) (by omega) mb_X12_eats lm_RX12_174 mi_X12_eats (Nat.le_of_ble_eq_true rfl) rfl dX12_readBoth_8 ?_
  refine go_if_eq (tgt := 29) (by decide) dX12_readBoth_11 (fun c => ?_) (fun c => ?_)
  · have hs := if_t c hs
    obtain rfl := Option.some.inj hs
    obtain ⟨rfl, rfl⟩ := hk
    exact go_vret rfl dX12_readBoth_29
  · have hs := if_f c hs
    refine go_aload_n (k4 := 0) rfl (Or.inr ⟨_, rfl⟩) dX12_readBoth_14 ?_
    refine go_iload_n (k4 := 1) rfl dX12_readBoth_15 ?_
    obtain ⟨g6, hs⟩ := gO_at hs
    obtain ⟨y5, ey5, hs⟩ := bindS hs
    refine go_V0 (As := [.int x1]) (st := []) g6 rfl rfl (show Call (d - 1) mX12_readUnit _ _ _ _ from hrc 4 y3.2 x0 x1 _ ey5) (by omega) mb_X12_readUnit lm_RX12_189 mi_X12_readUnit (Nat.le_of_ble_eq_true rfl) rfl dX12_readBoth_16 ?_
    refine go_aload_n (k4 := 0) rfl (Or.inr ⟨_, rfl⟩) dX12_readBoth_19 ?_
    refine go_sipush (v := 3007) (by decide) dX12_readBoth_20 ?_
    obtain ⟨g8, hs⟩ := gO_at hs
    obtain ⟨y7, ey7, hs⟩ := bindS hs
    refine go_V0 (As := [.int (3007 : Int32)]) (st := []) g8 rfl rfl (oX12_codes (d := d - 1) (by omega) ey7) (by omega) mb_X12_codes lm_RX12_162 mi_X12_codes (Nat.le_of_ble_eq_true rfl) rfl dX12_readBoth_23 ?_
    refine go_goto (tgt := 5) (by decide) dX12_readBoth_26 ?_
    obtain rfl := Option.some.inj hs
    exact go_subL (L' := [some (.ref x0), some (.int x1)]) (by simp [subL, va_rf]) hk
theorem oX12_readBoth_5 {d : Nat} (hd : 7 ≤ d) {rc : Nat → Hp → Nat → Int32 → Option Hp} (hrc : ∀ (sel : Nat) (h : Hp) (x0 : Nat) (x1 : Int32) (y : Hp), rc sel h x0 x1 = some y → Call (d - 1) (mgX12_readAtom sel) [.ref x0, .int x1] h (none) y) {h : Hp} {x0 : Nat} {x1 : Int32} {rf : Option Value} {hf : Hp} {x : Hp} (hs : fX12_readBoth_5 rc h x0 x1 = some x) (hk : (kX12_readBoth rf hf) x) : Go d mX12_readBoth 5 [some (.ref x0), some (.int x1)] [] h rf hf := by
  unfold fX12_readBoth_5 at hs
  exact lpw_go (P := pX12_readBoth_5 d x0 x1 rf hf) (fun s x hs hk => oX12_readBoth_5b hd hrc hs hk) h x hs hk
noncomputable def fX12_readBoth (rc : Nat → Hp → Nat → Int32 → Option Hp) (h : Hp) (x0 : Nat) (x1 : Int32) : Option Hp :=
  gO h 12 x0 (
  (rc 4 h x0 x1).bind fun y1 =>
  fX12_readBoth_5 rc y1 x0 x1)
theorem oX12_readBoth_0 {d : Nat} (hd : 7 ≤ d) {rc : Nat → Hp → Nat → Int32 → Option Hp} (hrc : ∀ (sel : Nat) (h : Hp) (x0 : Nat) (x1 : Int32) (y : Hp), rc sel h x0 x1 = some y → Call (d - 1) (mgX12_readAtom sel) [.ref x0, .int x1] h (none) y) {h : Hp} {x0 : Nat} {x1 : Int32} {rf : Option Value} {hf : Hp} {x : Hp} (hs : fX12_readBoth rc h x0 x1 = some x) (hk : (kX12_readBoth rf hf) x) : Go d mX12_readBoth 0 [some (.ref x0), some (.int x1)] [] h rf hf := by
  unfold fX12_readBoth at hs
  refine go_aload_n (k4 := 0) rfl (Or.inr ⟨_, rfl⟩) dX12_readBoth_0 ?_
  refine go_iload_n (k4 := 1) rfl dX12_readBoth_1 ?_
  obtain ⟨g2, hs⟩ := gO_at hs
  obtain ⟨y1, ey1, hs⟩ := bindS hs
  refine go_V0 (As := [.int x1]) (st := []) g2 rfl rfl (show Call (d - 1) mX12_readUnit _ _ _ _ from hrc 4 h x0 x1 _ ey1) (by omega) mb_X12_readUnit lm_RX12_189 mi_X12_readUnit (Nat.le_of_ble_eq_true rfl) rfl dX12_readBoth_2 ?_
  exact go_subL (L' := [some (.ref x0), some (.int x1)]) (by simp [subL, va_rf]) (oX12_readBoth_5 hd hrc hs hk)
theorem oX12_readBoth {d : Nat} (hd : 7 ≤ d) {rc : Nat → Hp → Nat → Int32 → Option Hp} (hrc : ∀ (sel : Nat) (h : Hp) (x0 : Nat) (x1 : Int32) (y : Hp), rc sel h x0 x1 = some y → Call (d - 1) (mgX12_readAtom sel) [.ref x0, .int x1] h (none) y) {h : Hp} {x0 : Nat} {x1 : Int32} {y : Hp} (hs : fX12_readBoth rc h x0 x1 = some y) : Call d mX12_readBoth [.ref x0, .int x1] h (none) y := call_of (by decide +kernel) (Nat.le_of_ble_eq_true rfl) (show Go d mX12_readBoth 0 [some (.ref x0), some (.int x1)] [] h _ _ from go_subL (by simp [subL]) (oX12_readBoth_0 hd hrc hs ⟨rfl, rfl⟩))
abbrev kX12_readTruth (rf : Option Value) (hf : Hp) : Hp → Prop := fun y => rf = none ∧ hf = y
abbrev pX12_readTruth_5 (d : Nat) (x0 : Nat) (x1 : Int32) (rf : Option Value) (hf : Hp) : Hp → Prop := fun s => Go d mX12_readTruth 5 [some (.ref x0), some (.int x1)] [] s rf hf
noncomputable def fX12_readTruth_5b (rc : Nat → Hp → Nat → Int32 → Option Hp) (h : Hp) (x0 : Nat) (x1 : Int32) : Option (Hp ⊕ Hp) :=
  gO h 12 x0 (
  (fX12_eats h x0 (17 : Int32)).bind fun y3 =>
  if y3.1 = 0 then (
    some (.inr (y3.2))) else (
    gO y3.2 12 x0 (
    (rc 5 y3.2 x0 x1).bind fun y5 =>
    gO y5 12 x0 (
    (fX12_codes y5 x0 (3008 : Int32)).bind fun y7 =>
    some (.inl y7)))))
noncomputable def fX12_readTruth_5 (rc : Nat → Hp → Nat → Int32 → Option Hp) (h : Hp) (x0 : Nat) (x1 : Int32) : Option Hp := lpw (σ := Hp) (fun s => fX12_readTruth_5b rc s x0 x1 ) h
theorem oX12_readTruth_5b {d : Nat} (hd : 7 ≤ d) {rc : Nat → Hp → Nat → Int32 → Option Hp} (hrc : ∀ (sel : Nat) (h : Hp) (x0 : Nat) (x1 : Int32) (y : Hp), rc sel h x0 x1 = some y → Call (d - 1) (mgX12_readAtom sel) [.ref x0, .int x1] h (none) y) {h : Hp} {x0 : Nat} {x1 : Int32} {rf : Option Value} {hf : Hp} {x : (Hp ⊕ Hp)} (hs : fX12_readTruth_5b rc h x0 x1 = some x) (hk : (Kx (pX12_readTruth_5 d x0 x1 rf hf) (kX12_readTruth rf hf)) x) : Go d mX12_readTruth 5 [some (.ref x0), some (.int x1)] [] h rf hf := by
  unfold fX12_readTruth_5b at hs
  refine go_aload_n (k4 := 0) rfl (Or.inr ⟨_, rfl⟩) dX12_readTruth_5 ?_
  refine go_bipush (v := 17) (by decide) dX12_readTruth_6 ?_
  obtain ⟨g4, hs⟩ := gO_at hs
  obtain ⟨y3, ey3, hs⟩ := bindS hs
  refine go_V1 (As := [.int (17 : Int32)]) (st := []) g4 rfl rfl (oX12_eats (d := d - 1) (by omega) ey3) (by omega) mb_X12_eats lm_RX12_174 mi_X12_eats (Nat.le_of_ble_eq_true rfl) rfl dX12_readTruth_8 ?_
  refine go_if_eq (tgt := 29) (by decide) dX12_readTruth_11 (fun c => ?_) (fun c => ?_)
  · have hs := if_t c hs
    obtain rfl := Option.some.inj hs
    obtain ⟨rfl, rfl⟩ := hk
    exact go_vret rfl dX12_readTruth_29
  · have hs := if_f c hs
    refine go_aload_n (k4 := 0) rfl (Or.inr ⟨_, rfl⟩) dX12_readTruth_14 ?_
    refine go_iload_n (k4 := 1) rfl dX12_readTruth_15 ?_
    obtain ⟨g6, hs⟩ := gO_at hs
    obtain ⟨y5, ey5, hs⟩ := bindS hs
    refine go_V0 (As := [.int x1]) (st := []) g6 rfl rfl (show Call (d - 1) mX12_readBoth _ _ _ _ from hrc 5 y3.2 x0 x1 _ ey5) (by omega) mb_X12_readBoth lm_RX12_192 mi_X12_readBoth (Nat.le_of_ble_eq_true rfl) rfl dX12_readTruth_16 ?_
    refine go_aload_n (k4 := 0) rfl (Or.inr ⟨_, rfl⟩) dX12_readTruth_19 ?_
    refine go_sipush (v := 3008) (by decide) dX12_readTruth_20 ?_
    obtain ⟨g8, hs⟩ := gO_at hs
    obtain ⟨y7, ey7, hs⟩ := bindS hs
    refine go_V0 (As := [.int (3008 : Int32)]) (st := []) g8 rfl rfl (oX12_codes (d := d - 1) (by omega) ey7) (by omega) mb_X12_codes lm_RX12_162 mi_X12_codes (Nat.le_of_ble_eq_true rfl) rfl dX12_readTruth_23 ?_
    refine go_goto (tgt := 5) (by decide) dX12_readTruth_26 ?_
    obtain rfl := Option.some.inj hs
    exact go_subL (L' := [some (.ref x0), some (.int x1)]) (by simp [subL, va_rf]) hk
theorem oX12_readTruth_5 {d : Nat} (hd : 7 ≤ d) {rc : Nat → Hp → Nat → Int32 → Option Hp} (hrc : ∀ (sel : Nat) (h : Hp) (x0 : Nat) (x1 : Int32) (y : Hp), rc sel h x0 x1 = some y → Call (d - 1) (mgX12_readAtom sel) [.ref x0, .int x1] h (none) y) {h : Hp} {x0 : Nat} {x1 : Int32} {rf : Option Value} {hf : Hp} {x : Hp} (hs : fX12_readTruth_5 rc h x0 x1 = some x) (hk : (kX12_readTruth rf hf) x) : Go d mX12_readTruth 5 [some (.ref x0), some (.int x1)] [] h rf hf := by
  unfold fX12_readTruth_5 at hs
  exact lpw_go (P := pX12_readTruth_5 d x0 x1 rf hf) (fun s x hs hk => oX12_readTruth_5b hd hrc hs hk) h x hs hk
noncomputable def fX12_readTruth (rc : Nat → Hp → Nat → Int32 → Option Hp) (h : Hp) (x0 : Nat) (x1 : Int32) : Option Hp :=
  gO h 12 x0 (
  (rc 5 h x0 x1).bind fun y1 =>
  fX12_readTruth_5 rc y1 x0 x1)
theorem oX12_readTruth_0 {d : Nat} (hd : 7 ≤ d) {rc : Nat → Hp → Nat → Int32 → Option Hp} (hrc : ∀ (sel : Nat) (h : Hp) (x0 : Nat) (x1 : Int32) (y : Hp), rc sel h x0 x1 = some y → Call (d - 1) (mgX12_readAtom sel) [.ref x0, .int x1] h (none) y) {h : Hp} {x0 : Nat} {x1 : Int32} {rf : Option Value} {hf : Hp} {x : Hp} (hs : fX12_readTruth rc h x0 x1 = some x) (hk : (kX12_readTruth rf hf) x) : Go d mX12_readTruth 0 [some (.ref x0), some (.int x1)] [] h rf hf := by
  unfold fX12_readTruth at hs
  refine go_aload_n (k4 := 0) rfl (Or.inr ⟨_, rfl⟩) dX12_readTruth_0 ?_
  refine go_iload_n (k4 := 1) rfl dX12_readTruth_1 ?_
  obtain ⟨g2, hs⟩ := gO_at hs
  obtain ⟨y1, ey1, hs⟩ := bindS hs
  refine go_V0 (As := [.int x1]) (st := []) g2 rfl rfl (show Call (d - 1) mX12_readBoth _ _ _ _ from hrc 5 h x0 x1 _ ey1) (by omega) mb_X12_readBoth lm_RX12_192 mi_X12_readBoth (Nat.le_of_ble_eq_true rfl) rfl dX12_readTruth_2 ?_
  exact go_subL (L' := [some (.ref x0), some (.int x1)]) (by simp [subL, va_rf]) (oX12_readTruth_5 hd hrc hs hk)
theorem oX12_readTruth {d : Nat} (hd : 7 ≤ d) {rc : Nat → Hp → Nat → Int32 → Option Hp} (hrc : ∀ (sel : Nat) (h : Hp) (x0 : Nat) (x1 : Int32) (y : Hp), rc sel h x0 x1 = some y → Call (d - 1) (mgX12_readAtom sel) [.ref x0, .int x1] h (none) y) {h : Hp} {x0 : Nat} {x1 : Int32} {y : Hp} (hs : fX12_readTruth rc h x0 x1 = some y) : Call d mX12_readTruth [.ref x0, .int x1] h (none) y := call_of (by decide +kernel) (Nat.le_of_ble_eq_true rfl) (show Go d mX12_readTruth 0 [some (.ref x0), some (.int x1)] [] h _ _ from go_subL (by simp [subL]) (oX12_readTruth_0 hd hrc hs ⟨rfl, rfl⟩))
noncomputable def rX12_readAtom : Nat → Nat → Hp → Nat → Int32 → Option Hp
  | 0, _, _, _, _ => none
  | n + 1, sel, h, x0, x1 => if sel = 0 then fX12_readAtom (rX12_readAtom n) h x0 x1 else if sel = 1 then fX12_readIf (rX12_readAtom n) h x0 x1 else if sel = 2 then fX12_readTerm (rX12_readAtom n) h x0 x1 else if sel = 3 then fX12_readSum (rX12_readAtom n) h x0 x1 else if sel = 4 then fX12_readUnit (rX12_readAtom n) h x0 x1 else if sel = 5 then fX12_readBoth (rX12_readAtom n) h x0 x1 else fX12_readTruth (rX12_readAtom n) h x0 x1
theorem orX12_readAtom : ∀ (n d : Nat) (_ : 7 + n ≤ d) (sel : Nat) (h : Hp) (x0 : Nat) (x1 : Int32) (y : Hp), rX12_readAtom n sel h x0 x1 = some y → Call d (mgX12_readAtom sel) [.ref x0, .int x1] h (none) y
  | 0, d, hd, sel, h, x0, x1, y, hs => by simp [rX12_readAtom] at hs
  | n + 1, d, hd, sel, h, x0, x1, y, hs => by
    have ih := orX12_readAtom n (d - 1) (by omega)
    simp only [rX12_readAtom] at hs
    by_cases c0 : sel = 0
    · have hs := if_t c0 hs
      subst c0
      exact oX12_readAtom (by omega) ih hs
    · have hs := if_f c0 hs
      by_cases c1 : sel = 1
      · have hs := if_t c1 hs
        subst c1
        exact oX12_readIf (by omega) ih hs
      · have hs := if_f c1 hs
        by_cases c2 : sel = 2
        · have hs := if_t c2 hs
          subst c2
          exact oX12_readTerm (by omega) ih hs
        · have hs := if_f c2 hs
          by_cases c3 : sel = 3
          · have hs := if_t c3 hs
            subst c3
            exact oX12_readSum (by omega) ih hs
          · have hs := if_f c3 hs
            by_cases c4 : sel = 4
            · have hs := if_t c4 hs
              subst c4
              exact oX12_readUnit (by omega) ih hs
            · have hs := if_f c4 hs
              by_cases c5 : sel = 5
              · have hs := if_t c5 hs
                subst c5
                exact oX12_readBoth (by omega) ih hs
              · have hs := if_f c5 hs
                have e : mgX12_readAtom sel = mX12_readTruth := by simp [mgX12_readAtom, c0, c1, c2, c3, c4, c5]
                rw [e]
                exact oX12_readTruth (by omega) ih hs
