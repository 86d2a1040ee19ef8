/-! methods: their texts as functions, and that the machine does just that -/
abbrev kX12_most (rf : Option Value) (hf : Hp) : (Int32 × Hp) → Prop := fun y => rf = some (.int y.1) ∧ hf = y.2
abbrev pX12_most_14 (d : Nat) (h : Hp) (x0 : Nat) (rf : Option Value) (hf : Hp) : (Int32 × Int32) → Prop := fun s => Go d mX12_most 14 [some (.ref x0), some (.int s.1), some (.int s.2)] [] h rf hf
noncomputable def fX12_most_56 (h : Hp) (x0 : Nat) (x2 : Int32) (s0 : Int32) : Option ((Int32 × Int32) ⊕ (Int32 × Hp)) :=
  some (.inl (s0, (x2 + Int32.ofInt 1)))
theorem oX12_most_56 {d : Nat} (hd : 5 ≤ d) {h : Hp} {x0 : Nat} {x2 : Int32} {s0 : Int32} {rf : Option Value} {hf : Hp} {x : ((Int32 × Int32) ⊕ (Int32 × Hp))} (hs : fX12_most_56 h x0 x2 s0 = some x) (hk : (Kx (pX12_most_14 d h x0 rf hf) (kX12_most rf hf)) x) : Go d mX12_most 56 [some (.ref x0), none, some (.int x2)] [.int s0] h rf hf := by
  unfold fX12_most_56 at hs
  refine go_istore_n (k4 := 1) (L' := [some (.ref x0), some (.int s0), some (.int x2)]) (by decide) rfl dX12_most_56 ?_
  refine go_iinc (L' := [some (.ref x0), some (.int s0), some (.int (x2 + Int32.ofInt 1))]) rfl (by decide) rfl rfl dX12_most_57 ?_
  refine go_goto (tgt := 14) (by decide) dX12_most_60 ?_
  obtain rfl := Option.some.inj hs
  exact go_subL (L' := [some (.ref x0), some (.int s0), some (.int (x2 + Int32.ofInt 1))]) (by simp [subL, va_rf]) hk
noncomputable def fX12_most_14b (h : Hp) (x0 : Nat) (x1 : Int32) (x2 : Int32) : Option ((Int32 × Int32) ⊕ (Int32 × Hp)) :=
  (gI h 12 x0 33).bind fun v4 =>
  if v4 ≤ x2 then (
    some (.inr (x1, h))) else (
    (gN h 12 x0 29).bind fun v5 =>
    (aI 0 h v5 x2).bind fun v6 =>
    gO h 12 x0 (
    (fX12_metIn h x0 v6).bind fun y7 =>
    (fX12_bitsOf h y7).bind fun y9 =>
    if y9 ≤ x1 then (
      fX12_most_56 h x0 x2 x1) else (
      (gN h 12 x0 29).bind fun v10 =>
      (aI 0 h v10 x2).bind fun v11 =>
      gO h 12 x0 (
      (fX12_metIn h x0 v11).bind fun y12 =>
      (fX12_bitsOf h y12).bind fun y14 =>
      fX12_most_56 h x0 x2 y14))))
noncomputable def fX12_most_14 (h : Hp) (x0 : Nat) (x1 : Int32) (x2 : Int32) : Option (Int32 × Hp) := lpw (σ := (Int32 × Int32)) (fun s => fX12_most_14b h x0 s.1 s.2) (x1, x2)
theorem oX12_most_14b {d : Nat} (hd : 5 ≤ d) {h : Hp} {x0 : Nat} {x1 : Int32} {x2 : Int32} {rf : Option Value} {hf : Hp} {x : ((Int32 × Int32) ⊕ (Int32 × Hp))} (hs : fX12_most_14b h x0 x1 x2 = some x) (hk : (Kx (pX12_most_14 d h x0 rf hf) (kX12_most rf hf)) x) : Go d mX12_most 14 [some (.ref x0), some (.int x1), some (.int x2)] [] h rf hf := by
  unfold fX12_most_14b at hs
  refine go_iload_n (k4 := 2) rfl dX12_most_14 ?_
  refine go_aload_n (k4 := 0) rfl (Or.inr ⟨_, rfl⟩) dX12_most_15 ?_
  obtain ⟨v4, ev4, hs⟩ := bindS hs
  refine go_gI fl_RX12_384 ev4 dX12_most_16 ?_
  refine go_icmp_ge (tgt := 63) (by decide) dX12_most_19 (fun c => ?_) (fun c => ?_)
  · have hs := if_t c hs
    refine go_iload_n (k4 := 1) rfl dX12_most_63 ?_
    obtain rfl := Option.some.inj hs
    obtain ⟨rfl, rfl⟩ := hk
    exact go_iret rfl dX12_most_64
  · have hs := if_f c hs
    refine go_aload_n (k4 := 0) rfl (Or.inr ⟨_, rfl⟩) dX12_most_22 ?_
    refine go_aload_n (k4 := 0) rfl (Or.inr ⟨_, rfl⟩) dX12_most_23 ?_
    obtain ⟨v5, ev5, hs⟩ := bindS hs
    refine go_gN fl_RX12_54 ev5 dX12_most_24 ?_
    refine go_iload_n (k4 := 2) rfl dX12_most_27 ?_
    obtain ⟨v6, ev6, hs⟩ := bindS hs
    refine go_aIi ev6 dX12_most_28 ?_
    obtain ⟨g8, hs⟩ := gO_at hs
    obtain ⟨y7, ey7, hs⟩ := bindS hs
    refine go_V1 (As := [.int v6]) (st := []) g8 rfl rfl (oX12_metIn (d := d - 1) (by omega) ey7) (by omega) mb_X12_metIn lm_RX12_233 mi_X12_metIn (Nat.le_of_ble_eq_true rfl) rfl dX12_most_29 ?_
    obtain ⟨y9, ey9, hs⟩ := bindS hs
    refine go_S1 (As := [.int y7]) (st := []) (oX12_bitsOf (d := d - 1) (by omega) ey9) (by omega) mb_X12_bitsOf lm_RX12_236 ms_X12_bitsOf (Nat.le_of_ble_eq_true rfl) rfl dX12_most_32 ?_
    refine go_at 35 rfl ?_
    refine go_iload_n (k4 := 1) rfl dX12_most_35 ?_
    refine go_icmp_le (tgt := 55) (by decide) dX12_most_36 (fun c => ?_) (fun c => ?_)
    · have hs := if_t c hs
      refine go_iload_n (k4 := 1) rfl dX12_most_55 ?_
      exact go_subL (L' := [some (.ref x0), none, some (.int x2)]) (by simp [subL, va_rf]) (oX12_most_56 hd hs hk)
    · have hs := if_f c hs
      refine go_aload_n (k4 := 0) rfl (Or.inr ⟨_, rfl⟩) dX12_most_39 ?_
      refine go_aload_n (k4 := 0) rfl (Or.inr ⟨_, rfl⟩) dX12_most_40 ?_
      obtain ⟨v10, ev10, hs⟩ := bindS hs
      refine go_gN fl_RX12_54 ev10 dX12_most_41 ?_
      refine go_iload_n (k4 := 2) rfl dX12_most_44 ?_
      obtain ⟨v11, ev11, hs⟩ := bindS hs
      refine go_aIi ev11 dX12_most_45 ?_
      obtain ⟨g13, hs⟩ := gO_at hs
      obtain ⟨y12, ey12, hs⟩ := bindS hs
      refine go_V1 (As := [.int v11]) (st := []) g13 rfl rfl (oX12_metIn (d := d - 1) (by omega) ey12) (by omega) mb_X12_metIn lm_RX12_233 mi_X12_metIn (Nat.le_of_ble_eq_true rfl) rfl dX12_most_46 ?_
      obtain ⟨y14, ey14, hs⟩ := bindS hs
      refine go_S1 (As := [.int y12]) (st := []) (oX12_bitsOf (d := d - 1) (by omega) ey14) (by omega) mb_X12_bitsOf lm_RX12_236 ms_X12_bitsOf (Nat.le_of_ble_eq_true rfl) rfl dX12_most_49 ?_
      refine go_at 52 rfl ?_
      refine go_goto (tgt := 56) (by decide) dX12_most_52 ?_
      exact go_subL (L' := [some (.ref x0), none, some (.int x2)]) (by simp [subL, va_rf]) (oX12_most_56 hd hs hk)
theorem oX12_most_14 {d : Nat} (hd : 5 ≤ d) {h : Hp} {x0 : Nat} {x1 : Int32} {x2 : Int32} {rf : Option Value} {hf : Hp} {x : (Int32 × Hp)} (hs : fX12_most_14 h x0 x1 x2 = some x) (hk : (kX12_most rf hf) x) : Go d mX12_most 14 [some (.ref x0), some (.int x1), some (.int x2)] [] h rf hf := by
  unfold fX12_most_14 at hs
  exact lpw_go (P := pX12_most_14 d h x0 rf hf) (fun s x hs hk => oX12_most_14b hd hs hk) (x1, x2) x hs hk
noncomputable def fX12_most (h : Hp) (x0 : Nat) : Option (Int32 × Hp) :=
  (sV h 12 x0 0 (.int (0 : Int32))).bind fun h1 =>
  gO h1 12 x0 (
  (fX12_laysStands h1 x0 (0 : Int32)).bind fun y2 =>
  fX12_most_14 y2 x0 (0 : Int32) (0 : Int32))
theorem oX12_most_0 {d : Nat} (hd : 5 ≤ d) {h : Hp} {x0 : Nat} {rf : Option Value} {hf : Hp} {x : (Int32 × Hp)} (hs : fX12_most h x0 = some x) (hk : (kX12_most rf hf) x) : Go d mX12_most 0 [some (.ref x0), none, none] [] h rf hf := by
  unfold fX12_most at hs
  refine go_aload_n (k4 := 0) rfl (Or.inr ⟨_, rfl⟩) dX12_most_0 ?_
  refine go_iconst (v := 0) (by decide) dX12_most_1 ?_
  obtain ⟨h1, eh1, hs⟩ := bindS hs
  refine go_sV fw_RX12_1 eh1 rfl rfl dX12_most_2 ?_
  refine go_aload_n (k4 := 0) rfl (Or.inr ⟨_, rfl⟩) dX12_most_5 ?_
  refine go_iconst (v := 0) (by decide) dX12_most_6 ?_
  obtain ⟨g3, hs⟩ := gO_at hs
  obtain ⟨y2, ey2, hs⟩ := bindS hs
  refine go_V0 (As := [.int (0 : Int32)]) (st := []) g3 rfl rfl (oX12_laysStands (d := d - 1) (by omega) ey2) (by omega) mb_X12_laysStands lm_RX12_394 mi_X12_laysStands (Nat.le_of_ble_eq_true rfl) rfl dX12_most_7 ?_
  refine go_iconst (v := 0) (by decide) dX12_most_10 ?_
  refine go_at 11 rfl ?_
  refine go_istore_n (k4 := 1) (L' := [some (.ref x0), some (.int (0 : Int32)), none]) (by decide) rfl dX12_most_11 ?_
  refine go_iconst (v := 0) (by decide) dX12_most_12 ?_
  refine go_istore_n (k4 := 2) (L' := [some (.ref x0), some (.int (0 : Int32)), some (.int (0 : Int32))]) (by decide) rfl dX12_most_13 ?_
  exact go_subL (L' := [some (.ref x0), some (.int (0 : Int32)), some (.int (0 : Int32))]) (by simp [subL, va_rf]) (oX12_most_14 hd hs hk)
theorem oX12_most {d : Nat} (hd : 5 ≤ d) {h : Hp} {x0 : Nat} {y : (Int32 × Hp)} (hs : fX12_most h x0 = some y) : Call d mX12_most [.ref x0] h (some (.int y.1)) (y.2) := call_of (by decide +kernel) (Nat.le_of_ble_eq_true rfl) (show Go d mX12_most 0 [some (.ref x0), none, none] [] h _ _ from go_subL (by simp [subL]) (oX12_most_0 hd hs ⟨rfl, rfl⟩))
abbrev kX12_holding (rf : Option Value) (hf : Hp) : (Int32 × Hp) → Prop := fun y => rf = some (.int y.1) ∧ hf = y.2
abbrev pX12_holding_26 (d : Nat) (x0 : Nat) (rf : Option Value) (hf : Hp) : (Int32 × Hp) → Prop := fun s => Go d mX12_holding 26 [some (.ref x0), some (.int s.1), none, none, none, none] [] s.2 rf hf
abbrev pX12_holding_72 (d : Nat) (x0 : Nat) (rf : Option Value) (hf : Hp) : (Int32 × Hp) → Prop := fun s => Go d mX12_holding 72 [some (.ref x0), some (.int s.1), none, none, none, none] [] s.2 rf hf
noncomputable def fX12_holding_218 (h : Hp) (x0 : Nat) : Option (Int32 × Hp) :=
  (gN h 12 x0 31).bind fun v7 =>
  gO h 12 x0 (
  (fX12_standNow h x0).bind fun y8 =>
  (aI 0 h v7 y8).bind fun v10 =>
  (fX12_toldFar h v10).bind fun y11 =>
  some ((y11, h)))
theorem oX12_holding_218 {d : Nat} (hd : 5 ≤ d) {h : Hp} {x0 : Nat} {rf : Option Value} {hf : Hp} {x : (Int32 × Hp)} (hs : fX12_holding_218 h x0 = some x) (hk : (kX12_holding rf hf) x) : Go d mX12_holding 218 [some (.ref x0), none, none, none, none, none] [] h rf hf := by
  unfold fX12_holding_218 at hs
  refine go_aload_n (k4 := 0) rfl (Or.inr ⟨_, rfl⟩) dX12_holding_218 ?_
  obtain ⟨v7, ev7, hs⟩ := bindS hs
  refine go_gN fl_RX12_61 ev7 dX12_holding_219 ?_
  refine go_aload_n (k4 := 0) rfl (Or.inr ⟨_, rfl⟩) dX12_holding_222 ?_
  obtain ⟨g9, hs⟩ := gO_at hs
  obtain ⟨y8, ey8, hs⟩ := bindS hs
  refine go_V1 (As := []) (st := [.ref v7]) g9 rfl rfl (oX12_standNow (d := d - 1) (by omega) ey8) (by omega) mb_X12_standNow lm_RX12_282 mi_X12_standNow (Nat.le_of_ble_eq_true rfl) rfl dX12_holding_223 ?_
  obtain ⟨v10, ev10, hs⟩ := bindS hs
  refine go_aIi ev10 dX12_holding_226 ?_
  obtain ⟨y11, ey11, hs⟩ := bindS hs
  refine go_S1 (As := [.int v10]) (st := []) (oX12_toldFar (d := d - 1) (by omega) ey11) (by omega) mb_X12_toldFar lm_RX12_407 ms_X12_toldFar (Nat.le_of_ble_eq_true rfl) rfl dX12_holding_227 ?_
  obtain rfl := Option.some.inj hs
  obtain ⟨rfl, rfl⟩ := hk
  exact go_iret rfl dX12_holding_230
abbrev pX12_holding_80 (d : Nat) (x0 : Nat) (rf : Option Value) (hf : Hp) : (Int32 × Int32 × Hp) → Prop := fun s => Go d mX12_holding 80 [some (.ref x0), some (.int s.1), some (.int s.2.1), none, none, none] [] s.2.2 rf hf
abbrev pX12_holding_101 (d : Nat) (h : Hp) (x0 : Nat) (x1 : Int32) (x2 : Int32) (x3 : Int32) (rf : Option Value) (hf : Hp) : (Int32 × Int32) → Prop := fun s => Go d mX12_holding 101 [some (.ref x0), some (.int x1), some (.int x2), some (.int x3), some (.int s.1), some (.int s.2)] [] h rf hf
noncomputable def fX12_holding_209 (h : Hp) (x0 : Nat) (x1 : Int32) (x2 : Int32) : Option ((Int32 × Int32 × Hp) ⊕ ((Int32 × Hp) ⊕ (Int32 × Hp))) :=
  some (.inl (x1, (x2 + Int32.ofInt 1), h))
theorem oX12_holding_209 {d : Nat} (hd : 5 ≤ d) {h : Hp} {x0 : Nat} {x1 : Int32} {x2 : Int32} {rf : Option Value} {hf : Hp} {x : ((Int32 × Int32 × Hp) ⊕ ((Int32 × Hp) ⊕ (Int32 × Hp)))} (hs : fX12_holding_209 h x0 x1 x2 = some x) (hk : (Kx (pX12_holding_80 d x0 rf hf) (Kx (pX12_holding_72 d x0 rf hf) (kX12_holding rf hf))) x) : Go d mX12_holding 209 [some (.ref x0), some (.int x1), some (.int x2), none, none, none] [] h rf hf := by
  unfold fX12_holding_209 at hs
  refine go_iinc (L' := [some (.ref x0), some (.int x1), some (.int (x2 + Int32.ofInt 1)), none, none, none]) rfl (by decide) rfl rfl dX12_holding_209 ?_
  refine go_goto (tgt := 80) (by decide) dX12_holding_212 ?_
  obtain rfl := Option.some.inj hs
  exact go_subL (L' := [some (.ref x0), some (.int x1), some (.int (x2 + Int32.ofInt 1)), none, none, none]) (by simp [subL, va_rf]) hk
noncomputable def fX12_holding_174 (h : Hp) (x0 : Nat) (x1 : Int32) (x2 : Int32) (x3 : Int32) (x4 : Int32) : Option ((Int32 × Int32 × Hp) ⊕ ((Int32 × Hp) ⊕ (Int32 × Hp))) :=
  (gN h 12 x0 31).bind fun v16 =>
  (aI 0 h v16 x3).bind fun v17 =>
  if v17 < (268435456 : Int32) then (
  fX12_holding_209 h x0 x1 x2) else (
    if x4 = (268435456 : Int32) then (
      fX12_holding_209 h x0 x1 x2) else (
      (gN h 12 x0 31).bind fun v18 =>
      (wI 0 h v18 x3 (x4 + (1 : Int32))).bind fun h19 =>
      fX12_holding_209 h19 x0 (1 : Int32) x2))
theorem oX12_holding_174 {d : Nat} (hd : 5 ≤ d) {h : Hp} {x0 : Nat} {x1 : Int32} {x2 : Int32} {x3 : Int32} {x4 : Int32} {rf : Option Value} {hf : Hp} {x : ((Int32 × Int32 × Hp) ⊕ ((Int32 × Hp) ⊕ (Int32 × Hp)))} (hs : fX12_holding_174 h x0 x1 x2 x3 x4 = some x) (hk : (Kx (pX12_holding_80 d x0 rf hf) (Kx (pX12_holding_72 d x0 rf hf) (kX12_holding rf hf))) x) : Go d mX12_holding 174 [some (.ref x0), some (.int x1), some (.int x2), some (.int x3), some (.int x4), none] [] h rf hf := by
  unfold fX12_holding_174 at hs
  refine go_aload_n (k4 := 0) rfl (Or.inr ⟨_, rfl⟩) dX12_holding_174 ?_
  obtain ⟨v16, ev16, hs⟩ := bindS hs
  refine go_gN fl_RX12_61 ev16 dX12_holding_175 ?_
  refine go_iload_n (k4 := 3) rfl dX12_holding_178 ?_
  obtain ⟨v17, ev17, hs⟩ := bindS hs
  refine go_aIi ev17 dX12_holding_179 ?_
  refine go_ldcw lc_RX12_390 dX12_holding_180 ?_
  refine go_icmp_lt (tgt := 209) (by decide) dX12_holding_183 (fun c => ?_) (fun c => ?_)
  · have hs := if_t c hs
    exact go_subL (L' := [some (.ref x0), some (.int x1), some (.int x2), none, none, none]) (by simp [subL, va_rf]) (oX12_holding_209 hd hs hk)
  · have hs := if_f c hs
    refine go_iload rfl dX12_holding_186 ?_
    refine go_ldcw lc_RX12_390 dX12_holding_188 ?_
    refine go_icmp_ne (tgt := 197) (by decide) dX12_holding_191 (fun c => ?_) (fun c => ?_)
    · have hs := if_f c hs
      refine go_aload_n (k4 := 0) rfl (Or.inr ⟨_, rfl⟩) dX12_holding_197 ?_
      obtain ⟨v18, ev18, hs⟩ := bindS hs
      refine go_gN fl_RX12_61 ev18 dX12_holding_198 ?_
      refine go_iload_n (k4 := 3) rfl dX12_holding_201 ?_
      refine go_iload rfl dX12_holding_202 ?_
      refine go_iconst (v := 1) (by decide) dX12_holding_204 ?_
      refine go_iadd dX12_holding_205 ?_
      obtain ⟨h19, eh19, hs⟩ := bindS hs
      refine go_wIi eh19 dX12_holding_206 ?_
      refine go_at 207 rfl ?_
      refine go_iconst (v := 1) (by decide) dX12_holding_207 ?_
      refine go_istore_n (k4 := 1) (L' := [some (.ref x0), some (.int (1 : Int32)), some (.int x2), some (.int x3), some (.int x4), none]) (by decide) rfl dX12_holding_208 ?_
      exact go_subL (L' := [some (.ref x0), some (.int (1 : Int32)), some (.int x2), none, none, none]) (by simp [subL, va_rf]) (oX12_holding_209 hd hs hk)
    · have hs := if_t c hs
      refine go_goto (tgt := 209) (by decide) dX12_holding_194 ?_
      exact go_subL (L' := [some (.ref x0), some (.int x1), some (.int x2), none, none, none]) (by simp [subL, va_rf]) (oX12_holding_209 hd hs hk)
noncomputable def fX12_holding_166 (h : Hp) (x0 : Nat) (x1 : Int32) (x2 : Int32) (x3 : Int32) (x5 : Int32) (s0 : Int32) : Option ((Int32 × Int32) ⊕ ((Int32 × Int32 × Hp) ⊕ ((Int32 × Hp) ⊕ (Int32 × Hp)))) :=
  some (.inl (s0, (x5 + Int32.ofInt 1)))
theorem oX12_holding_166 {d : Nat} (hd : 5 ≤ d) {h : Hp} {x0 : Nat} {x1 : Int32} {x2 : Int32} {x3 : Int32} {x5 : Int32} {s0 : Int32} {rf : Option Value} {hf : Hp} {x : ((Int32 × Int32) ⊕ ((Int32 × Int32 × Hp) ⊕ ((Int32 × Hp) ⊕ (Int32 × Hp))))} (hs : fX12_holding_166 h x0 x1 x2 x3 x5 s0 = some x) (hk : (Kx (pX12_holding_101 d h x0 x1 x2 x3 rf hf) (Kx (pX12_holding_80 d x0 rf hf) (Kx (pX12_holding_72 d x0 rf hf) (kX12_holding rf hf)))) x) : Go d mX12_holding 166 [some (.ref x0), some (.int x1), some (.int x2), some (.int x3), none, some (.int x5)] [.int s0] h rf hf := by
  unfold fX12_holding_166 at hs
  refine go_istore (L' := [some (.ref x0), some (.int x1), some (.int x2), some (.int x3), some (.int s0), some (.int x5)]) (by decide) rfl dX12_holding_166 ?_
  refine go_iinc (L' := [some (.ref x0), some (.int x1), some (.int x2), some (.int x3), some (.int s0), some (.int (x5 + Int32.ofInt 1))]) rfl (by decide) rfl rfl dX12_holding_168 ?_
  refine go_goto (tgt := 101) (by decide) dX12_holding_171 ?_
  obtain rfl := Option.some.inj hs
  exact go_subL (L' := [some (.ref x0), some (.int x1), some (.int x2), some (.int x3), some (.int s0), some (.int (x5 + Int32.ofInt 1))]) (by simp [subL, va_rf]) hk
noncomputable def fX12_holding_101b (h : Hp) (x0 : Nat) (x1 : Int32) (x2 : Int32) (x3 : Int32) (x4 : Int32) (x5 : Int32) : Option ((Int32 × Int32) ⊕ ((Int32 × Int32 × Hp) ⊕ ((Int32 × Hp) ⊕ (Int32 × Hp)))) :=
  (gI h 12 x0 21).bind fun v15 =>
  if v15 ≤ x5 then (
  (fX12_holding_174 h x0 x1 x2 x3 x4).map (fun q => .inr q)) else (
    (gN h 12 x0 31).bind fun v20 =>
    (aI 0 h v20 x3).bind fun v21 =>
    if v21 = (268435456 : Int32) then (
      (gN h 12 x0 31).bind fun v22 =>
      (gN h 12 x0 30).bind fun v23 =>
      (aI 0 h v23 (((35 : Int32) * x3) + x5)).bind fun v24 =>
      (aI 0 h v22 v24).bind fun v25 =>
      if v25 ≤ x4 then (
        fX12_holding_166 h x0 x1 x2 x3 x5 x4) else (
        (gN h 12 x0 31).bind fun v26 =>
        (gN h 12 x0 30).bind fun v27 =>
        (aI 0 h v27 (((35 : Int32) * x3) + x5)).bind fun v28 =>
        (aI 0 h v26 v28).bind fun v29 =>
        fX12_holding_166 h x0 x1 x2 x3 x5 v29)) else (
    (fX12_holding_174 h x0 x1 x2 x3 x4).map (fun q => .inr q)))
noncomputable def fX12_holding_101 (h : Hp) (x0 : Nat) (x1 : Int32) (x2 : Int32) (x3 : Int32) (x4 : Int32) (x5 : Int32) : Option ((Int32 × Int32 × Hp) ⊕ ((Int32 × Hp) ⊕ (Int32 × Hp))) := lpw (σ := (Int32 × Int32)) (fun s => fX12_holding_101b h x0 x1 x2 x3 s.1 s.2) (x4, x5)
theorem oX12_holding_101b {d : Nat} (hd : 5 ≤ d) {h : Hp} {x0 : Nat} {x1 : Int32} {x2 : Int32} {x3 : Int32} {x4 : Int32} {x5 : Int32} {rf : Option Value} {hf : Hp} {x : ((Int32 × Int32) ⊕ ((Int32 × Int32 × Hp) ⊕ ((Int32 × Hp) ⊕ (Int32 × Hp))))} (hs : fX12_holding_101b h x0 x1 x2 x3 x4 x5 = some x) (hk : (Kx (pX12_holding_101 d h x0 x1 x2 x3 rf hf) (Kx (pX12_holding_80 d x0 rf hf) (Kx (pX12_holding_72 d x0 rf hf) (kX12_holding rf hf)))) x) : Go d mX12_holding 101 [some (.ref x0), some (.int x1), some (.int x2), some (.int x3), some (.int x4), some (.int x5)] [] h rf hf := by
  unfold fX12_holding_101b at hs
  refine go_iload rfl dX12_holding_101 ?_
  refine go_aload_n (k4 := 0) rfl (Or.inr ⟨_, rfl⟩) dX12_holding_103 ?_
  obtain ⟨v15, ev15, hs⟩ := bindS hs
  refine go_gI fl_RX12_285 ev15 dX12_holding_104 ?_
  refine go_icmp_ge (tgt := 174) (by decide) dX12_holding_107 (fun c => ?_) (fun c => ?_)
  · have hs := if_t c hs
    obtain ⟨q, hs2, hq⟩ := mapS hs
    clear hs
    subst hq
    exact go_subL (L' := [some (.ref x0), some (.int x1), some (.int x2), some (.int x3), some (.int x4), none]) (by simp [subL, va_rf]) (oX12_holding_174 hd hs2 hk)
  · have hs := if_f c hs
    refine go_aload_n (k4 := 0) rfl (Or.inr ⟨_, rfl⟩) dX12_holding_110 ?_
    obtain ⟨v20, ev20, hs⟩ := bindS hs
    refine go_gN fl_RX12_61 ev20 dX12_holding_111 ?_
    refine go_iload_n (k4 := 3) rfl dX12_holding_114 ?_
    obtain ⟨v21, ev21, hs⟩ := bindS hs
    refine go_aIi ev21 dX12_holding_115 ?_
    refine go_ldcw lc_RX12_390 dX12_holding_116 ?_
    refine go_icmp_ne (tgt := 174) (by decide) dX12_holding_119 (fun c => ?_) (fun c => ?_)
    · have hs := if_f c hs
      obtain ⟨q, hs2, hq⟩ := mapS hs
      clear hs
      subst hq
      exact go_subL (L' := [some (.ref x0), some (.int x1), some (.int x2), some (.int x3), some (.int x4), none]) (by simp [subL, va_rf]) (oX12_holding_174 hd hs2 hk)
    · have hs := if_t c hs
      refine go_aload_n (k4 := 0) rfl (Or.inr ⟨_, rfl⟩) dX12_holding_122 ?_
      obtain ⟨v22, ev22, hs⟩ := bindS hs
      refine go_gN fl_RX12_61 ev22 dX12_holding_123 ?_
      refine go_aload_n (k4 := 0) rfl (Or.inr ⟨_, rfl⟩) dX12_holding_126 ?_
      obtain ⟨v23, ev23, hs⟩ := bindS hs
      refine go_gN fl_RX12_58 ev23 dX12_holding_127 ?_
      refine go_bipush (v := 35) (by decide) dX12_holding_130 ?_
      refine go_iload_n (k4 := 3) rfl dX12_holding_132 ?_
      refine go_imul dX12_holding_133 ?_
      refine go_at 134 rfl ?_
      refine go_iload rfl dX12_holding_134 ?_
      refine go_iadd dX12_holding_136 ?_
      obtain ⟨v24, ev24, hs⟩ := bindS hs
      refine go_aIi ev24 dX12_holding_137 ?_
      obtain ⟨v25, ev25, hs⟩ := bindS hs
      refine go_aIi ev25 dX12_holding_138 ?_
      refine go_iload rfl dX12_holding_139 ?_
      refine go_icmp_le (tgt := 164) (by decide) dX12_holding_141 (fun c => ?_) (fun c => ?_)
      · have hs := if_t c hs
        refine go_iload rfl dX12_holding_164 ?_
        exact go_subL (L' := [some (.ref x0), some (.int x1), some (.int x2), some (.int x3), none, some (.int x5)]) (by simp [subL, va_rf]) (oX12_holding_166 hd hs hk)
      · have hs := if_f c hs
        refine go_aload_n (k4 := 0) rfl (Or.inr ⟨_, rfl⟩) dX12_holding_144 ?_
        obtain ⟨v26, ev26, hs⟩ := bindS hs
        refine go_gN fl_RX12_61 ev26 dX12_holding_145 ?_
        refine go_aload_n (k4 := 0) rfl (Or.inr ⟨_, rfl⟩) dX12_holding_148 ?_
        obtain ⟨v27, ev27, hs⟩ := bindS hs
        refine go_gN fl_RX12_58 ev27 dX12_holding_149 ?_
        refine go_bipush (v := 35) (by decide) dX12_holding_152 ?_
        refine go_iload_n (k4 := 3) rfl dX12_holding_154 ?_
        refine go_imul dX12_holding_155 ?_
        refine go_at 156 rfl ?_
        refine go_iload rfl dX12_holding_156 ?_
        refine go_iadd dX12_holding_158 ?_
        obtain ⟨v28, ev28, hs⟩ := bindS hs
        refine go_aIi ev28 dX12_holding_159 ?_
        obtain ⟨v29, ev29, hs⟩ := bindS hs
        refine go_aIi ev29 dX12_holding_160 ?_
        refine go_goto (tgt := 166) (by decide) dX12_holding_161 ?_
        exact go_subL (L' := [some (.ref x0), some (.int x1), some (.int x2), some (.int x3), none, some (.int x5)]) (by simp [subL, va_rf]) (oX12_holding_166 hd hs hk)
theorem oX12_holding_101 {d : Nat} (hd : 5 ≤ d) {h : Hp} {x0 : Nat} {x1 : Int32} {x2 : Int32} {x3 : Int32} {x4 : Int32} {x5 : Int32} {rf : Option Value} {hf : Hp} {x : ((Int32 × Int32 × Hp) ⊕ ((Int32 × Hp) ⊕ (Int32 × Hp)))} (hs : fX12_holding_101 h x0 x1 x2 x3 x4 x5 = some x) (hk : (Kx (pX12_holding_80 d x0 rf hf) (Kx (pX12_holding_72 d x0 rf hf) (kX12_holding rf hf))) x) : Go d mX12_holding 101 [some (.ref x0), some (.int x1), some (.int x2), some (.int x3), some (.int x4), some (.int x5)] [] h rf hf := by
  unfold fX12_holding_101 at hs
  exact lpw_go (P := pX12_holding_101 d h x0 x1 x2 x3 rf hf) (fun s x hs hk => oX12_holding_101b hd hs hk) (x4, x5) x hs hk
noncomputable def fX12_holding_80b (h : Hp) (x0 : Nat) (x1 : Int32) (x2 : Int32) : Option ((Int32 × Int32 × Hp) ⊕ ((Int32 × Hp) ⊕ (Int32 × Hp))) :=
  (gI h 12 x0 33).bind fun v12 =>
  if v12 ≤ x2 then (
    some (.inr (.inl (x1, h)))) else (
    (gN h 12 x0 29).bind fun v13 =>
    (aI 0 h v13 x2).bind fun v14 =>
    fX12_holding_101 h x0 x1 x2 v14 (-1 : Int32) (0 : Int32))
noncomputable def fX12_holding_80 (h : Hp) (x0 : Nat) (x1 : Int32) (x2 : Int32) : Option ((Int32 × Hp) ⊕ (Int32 × Hp)) := lpw (σ := (Int32 × Int32 × Hp)) (fun s => fX12_holding_80b s.2.2 x0 s.1 s.2.1) (x1, x2, h)
theorem oX12_holding_80b {d : Nat} (hd : 5 ≤ d) {h : Hp} {x0 : Nat} {x1 : Int32} {x2 : Int32} {rf : Option Value} {hf : Hp} {x : ((Int32 × Int32 × Hp) ⊕ ((Int32 × Hp) ⊕ (Int32 × Hp)))} (hs : fX12_holding_80b h x0 x1 x2 = some x) (hk : (Kx (pX12_holding_80 d x0 rf hf) (Kx (pX12_holding_72 d x0 rf hf) (kX12_holding rf hf))) x) : Go d mX12_holding 80 [some (.ref x0), some (.int x1), some (.int x2), none, none, none] [] h rf hf := by
  unfold fX12_holding_80b at hs
  refine go_iload_n (k4 := 2) rfl dX12_holding_80 ?_
  refine go_aload_n (k4 := 0) rfl (Or.inr ⟨_, rfl⟩) dX12_holding_81 ?_
  obtain ⟨v12, ev12, hs⟩ := bindS hs
  refine go_gI fl_RX12_384 ev12 dX12_holding_82 ?_
  refine go_icmp_ge (tgt := 215) (by decide) dX12_holding_85 (fun c => ?_) (fun c => ?_)
  · have hs := if_t c hs
    refine go_goto (tgt := 72) (by decide) dX12_holding_215 ?_
    obtain rfl := Option.some.inj hs
    exact go_subL (L' := [some (.ref x0), some (.int x1), none, none, none, none]) (by simp [subL, va_rf]) hk
  · have hs := if_f c hs
    refine go_aload_n (k4 := 0) rfl (Or.inr ⟨_, rfl⟩) dX12_holding_88 ?_
    obtain ⟨v13, ev13, hs⟩ := bindS hs
    refine go_gN fl_RX12_54 ev13 dX12_holding_89 ?_
    refine go_iload_n (k4 := 2) rfl dX12_holding_92 ?_
    obtain ⟨v14, ev14, hs⟩ := bindS hs
    refine go_aIi ev14 dX12_holding_93 ?_
    refine go_istore_n (k4 := 3) (L' := [some (.ref x0), some (.int x1), some (.int x2), some (.int v14), none, none]) (by decide) rfl dX12_holding_94 ?_
    refine go_iconst (v := -1) (by decide) dX12_holding_95 ?_
    refine go_istore (L' := [some (.ref x0), some (.int x1), some (.int x2), some (.int v14), some (.int (-1 : Int32)), none]) (by decide) rfl dX12_holding_96 ?_
    refine go_at 98 rfl ?_
    refine go_iconst (v := 0) (by decide) dX12_holding_98 ?_
    refine go_istore (L' := [some (.ref x0), some (.int x1), some (.int x2), some (.int v14), some (.int (-1 : Int32)), some (.int (0 : Int32))]) (by decide) rfl dX12_holding_99 ?_
    exact go_subL (L' := [some (.ref x0), some (.int x1), some (.int x2), some (.int v14), some (.int (-1 : Int32)), some (.int (0 : Int32))]) (by simp [subL, va_rf]) (oX12_holding_101 hd hs hk)
theorem oX12_holding_80 {d : Nat} (hd : 5 ≤ d) {h : Hp} {x0 : Nat} {x1 : Int32} {x2 : Int32} {rf : Option Value} {hf : Hp} {x : ((Int32 × Hp) ⊕ (Int32 × Hp))} (hs : fX12_holding_80 h x0 x1 x2 = some x) (hk : (Kx (pX12_holding_72 d x0 rf hf) (kX12_holding rf hf)) x) : Go d mX12_holding 80 [some (.ref x0), some (.int x1), some (.int x2), none, none, none] [] h rf hf := by
  unfold fX12_holding_80 at hs
  exact lpw_go (P := pX12_holding_80 d x0 rf hf) (fun s x hs hk => oX12_holding_80b hd hs hk) (x1, x2, h) x hs hk
noncomputable def fX12_holding_72b (h : Hp) (x0 : Nat) (x1 : Int32) : Option ((Int32 × Hp) ⊕ (Int32 × Hp)) :=
  if x1 = 0 then (
  (fX12_holding_218 h x0).map (fun q => .inr q)) else (
    fX12_holding_80 h x0 (0 : Int32) (0 : Int32))
noncomputable def fX12_holding_72 (h : Hp) (x0 : Nat) (x1 : Int32) : Option (Int32 × Hp) := lpw (σ := (Int32 × Hp)) (fun s => fX12_holding_72b s.2 x0 s.1) (x1, h)
theorem oX12_holding_72b {d : Nat} (hd : 5 ≤ d) {h : Hp} {x0 : Nat} {x1 : Int32} {rf : Option Value} {hf : Hp} {x : ((Int32 × Hp) ⊕ (Int32 × Hp))} (hs : fX12_holding_72b h x0 x1 = some x) (hk : (Kx (pX12_holding_72 d x0 rf hf) (kX12_holding rf hf)) x) : Go d mX12_holding 72 [some (.ref x0), some (.int x1), none, none, none, none] [] h rf hf := by
  unfold fX12_holding_72b at hs
  refine go_iload_n (k4 := 1) rfl dX12_holding_72 ?_
  refine go_if_eq (tgt := 218) (by decide) dX12_holding_73 (fun c => ?_) (fun c => ?_)
  · have hs := if_t c hs
    obtain ⟨q, hs2, hq⟩ := mapS hs
    clear hs
    subst hq
    exact go_subL (L' := [some (.ref x0), none, none, none, none, none]) (by simp [subL, va_rf]) (oX12_holding_218 hd hs2 hk)
  · have hs := if_f c hs
    refine go_iconst (v := 0) (by decide) dX12_holding_76 ?_
    refine go_istore_n (k4 := 1) (L' := [some (.ref x0), some (.int (0 : Int32)), none, none, none, none]) (by decide) rfl dX12_holding_77 ?_
    refine go_iconst (v := 0) (by decide) dX12_holding_78 ?_
    refine go_istore_n (k4 := 2) (L' := [some (.ref x0), some (.int (0 : Int32)), some (.int (0 : Int32)), none, none, none]) (by decide) rfl dX12_holding_79 ?_
    exact go_subL (L' := [some (.ref x0), some (.int (0 : Int32)), some (.int (0 : Int32)), none, none, none]) (by simp [subL, va_rf]) (oX12_holding_80 hd hs hk)
theorem oX12_holding_72 {d : Nat} (hd : 5 ≤ d) {h : Hp} {x0 : Nat} {x1 : Int32} {rf : Option Value} {hf : Hp} {x : (Int32 × Hp)} (hs : fX12_holding_72 h x0 x1 = some x) (hk : (kX12_holding rf hf) x) : Go d mX12_holding 72 [some (.ref x0), some (.int x1), none, none, none, none] [] h rf hf := by
  unfold fX12_holding_72 at hs
  exact lpw_go (P := pX12_holding_72 d x0 rf hf) (fun s x hs hk => oX12_holding_72b hd hs hk) (x1, h) x hs hk
noncomputable def fX12_holding_70 (h : Hp) (x0 : Nat) : Option (Int32 × Hp) :=
  fX12_holding_72 h x0 (1 : Int32)
theorem oX12_holding_70 {d : Nat} (hd : 5 ≤ d) {h : Hp} {x0 : Nat} {rf : Option Value} {hf : Hp} {x : (Int32 × Hp)} (hs : fX12_holding_70 h x0 = some x) (hk : (kX12_holding rf hf) x) : Go d mX12_holding 70 [some (.ref x0), none, none, none, none, none] [] h rf hf := by
  unfold fX12_holding_70 at hs
  refine go_iconst (v := 1) (by decide) dX12_holding_70 ?_
  refine go_istore_n (k4 := 1) (L' := [some (.ref x0), some (.int (1 : Int32)), none, none, none, none]) (by decide) rfl dX12_holding_71 ?_
  exact go_subL (L' := [some (.ref x0), some (.int (1 : Int32)), none, none, none, none]) (by simp [subL, va_rf]) (oX12_holding_72 hd hs hk)
noncomputable def fX12_holding_63 (h : Hp) (x0 : Nat) (x1 : Int32) (s0 : Nat) (s1 : Int32) (s2 : Int32) : Option ((Int32 × Hp) ⊕ (Int32 × Hp)) :=
  (wI 0 h s0 s1 s2).bind fun h36 =>
  some (.inl ((x1 + Int32.ofInt 1), h36))
theorem oX12_holding_63 {d : Nat} (hd : 5 ≤ d) {h : Hp} {x0 : Nat} {x1 : Int32} {s0 : Nat} {s1 : Int32} {s2 : Int32} {rf : Option Value} {hf : Hp} {x : ((Int32 × Hp) ⊕ (Int32 × Hp))} (hs : fX12_holding_63 h x0 x1 s0 s1 s2 = some x) (hk : (Kx (pX12_holding_26 d x0 rf hf) (kX12_holding rf hf)) x) : Go d mX12_holding 63 [some (.ref x0), some (.int x1), none, none, none, none] [.int s2, .int s1, .ref s0] h rf hf := by
  unfold fX12_holding_63 at hs
  obtain ⟨h36, eh36, hs⟩ := bindS hs
  refine go_wIi eh36 dX12_holding_63 ?_
  refine go_iinc (L' := [some (.ref x0), some (.int (x1 + Int32.ofInt 1)), none, none, none, none]) rfl (by decide) rfl rfl dX12_holding_64 ?_
  refine go_goto (tgt := 26) (by decide) dX12_holding_67 ?_
  obtain rfl := Option.some.inj hs
  exact go_subL (L' := [some (.ref x0), some (.int (x1 + Int32.ofInt 1)), none, none, none, none]) (by simp [subL, va_rf]) hk
noncomputable def fX12_holding_26b (h : Hp) (x0 : Nat) (x1 : Int32) : Option ((Int32 × Hp) ⊕ (Int32 × Hp)) :=
  (gI h 12 x0 33).bind fun v6 =>
  if v6 ≤ x1 then (
  (fX12_holding_70 h x0).map (fun q => .inr q)) else (
    (gN h 12 x0 31).bind fun v30 =>
    (gN h 12 x0 29).bind fun v31 =>
    (aI 0 h v31 x1).bind fun v32 =>
    (gN h 12 x0 29).bind fun v33 =>
    (aI 0 h v33 x1).bind fun v34 =>
    (fX12_hasFallen h v34).bind fun y35 =>
    if y35 = 0 then (
      fX12_holding_63 h x0 x1 v30 v32 (268435456 : Int32)) else (
      fX12_holding_63 h x0 x1 v30 v32 (-1 : Int32)))
noncomputable def fX12_holding_26 (h : Hp) (x0 : Nat) (x1 : Int32) : Option (Int32 × Hp) := lpw (σ := (Int32 × Hp)) (fun s => fX12_holding_26b s.2 x0 s.1) (x1, h)
theorem oX12_holding_26b {d : Nat} (hd : 5 ≤ d) {h : Hp} {x0 : Nat} {x1 : Int32} {rf : Option Value} {hf : Hp} {x : ((Int32 × Hp) ⊕ (Int32 × Hp))} (hs : fX12_holding_26b h x0 x1 = some x) (hk : (Kx (pX12_holding_26 d x0 rf hf) (kX12_holding rf hf)) x) : Go d mX12_holding 26 [some (.ref x0), some (.int x1), none, none, none, none] [] h rf hf := by
  unfold fX12_holding_26b at hs
  refine go_iload_n (k4 := 1) rfl dX12_holding_26 ?_
  refine go_aload_n (k4 := 0) rfl (Or.inr ⟨_, rfl⟩) dX12_holding_27 ?_
  obtain ⟨v6, ev6, hs⟩ := bindS hs
  refine go_gI fl_RX12_384 ev6 dX12_holding_28 ?_
  refine go_icmp_ge (tgt := 70) (by decide) dX12_holding_31 (fun c => ?_) (fun c => ?_)
  · have hs := if_t c hs
    obtain ⟨q, hs2, hq⟩ := mapS hs
    clear hs
    subst hq
    exact go_subL (L' := [some (.ref x0), none, none, none, none, none]) (by simp [subL, va_rf]) (oX12_holding_70 hd hs2 hk)
  · have hs := if_f c hs
    refine go_aload_n (k4 := 0) rfl (Or.inr ⟨_, rfl⟩) dX12_holding_34 ?_
    obtain ⟨v30, ev30, hs⟩ := bindS hs
    refine go_gN fl_RX12_61 ev30 dX12_holding_35 ?_
    refine go_aload_n (k4 := 0) rfl (Or.inr ⟨_, rfl⟩) dX12_holding_38 ?_
    obtain ⟨v31, ev31, hs⟩ := bindS hs
    refine go_gN fl_RX12_54 ev31 dX12_holding_39 ?_
    refine go_iload_n (k4 := 1) rfl dX12_holding_42 ?_
    obtain ⟨v32, ev32, hs⟩ := bindS hs
    refine go_aIi ev32 dX12_holding_43 ?_
    refine go_aload_n (k4 := 0) rfl (Or.inr ⟨_, rfl⟩) dX12_holding_44 ?_
    refine go_at 45 rfl ?_
    obtain ⟨v33, ev33, hs⟩ := bindS hs
    refine go_gN fl_RX12_54 ev33 dX12_holding_45 ?_
    refine go_iload_n (k4 := 1) rfl dX12_holding_48 ?_
    obtain ⟨v34, ev34, hs⟩ := bindS hs
    refine go_aIi ev34 dX12_holding_49 ?_
    obtain ⟨y35, ey35, hs⟩ := bindS hs
    refine go_S1 (As := [.int v34]) (st := [.int v32, .ref v30]) (oX12_hasFallen (d := d - 1) (by omega) ey35) (by omega) mb_X12_hasFallen lm_RX12_245 ms_X12_hasFallen (Nat.le_of_ble_eq_true rfl) rfl dX12_holding_50 ?_
    refine go_if_eq (tgt := 60) (by decide) dX12_holding_53 (fun c => ?_) (fun c => ?_)
    · have hs := if_t c hs
      refine go_ldcw lc_RX12_390 dX12_holding_60 ?_
      exact go_subL (L' := [some (.ref x0), some (.int x1), none, none, none, none]) (by simp [subL, va_rf]) (oX12_holding_63 hd hs hk)
    · have hs := if_f c hs
      refine go_iconst (v := -1) (by decide) dX12_holding_56 ?_
      refine go_goto (tgt := 63) (by decide) dX12_holding_57 ?_
      exact go_subL (L' := [some (.ref x0), some (.int x1), none, none, none, none]) (by simp [subL, va_rf]) (oX12_holding_63 hd hs hk)
theorem oX12_holding_26 {d : Nat} (hd : 5 ≤ d) {h : Hp} {x0 : Nat} {x1 : Int32} {rf : Option Value} {hf : Hp} {x : (Int32 × Hp)} (hs : fX12_holding_26 h x0 x1 = some x) (hk : (kX12_holding rf hf) x) : Go d mX12_holding 26 [some (.ref x0), some (.int x1), none, none, none, none] [] h rf hf := by
  unfold fX12_holding_26 at hs
  exact lpw_go (P := pX12_holding_26 d x0 rf hf) (fun s x hs hk => oX12_holding_26b hd hs hk) (x1, h) x hs hk
noncomputable def fX12_holding (h : Hp) (x0 : Nat) : Option (Int32 × Hp) :=
  (sV h 12 x0 0 (.int (0 : Int32))).bind fun h1 =>
  (gN h1 12 x0 1).bind fun v2 =>
  (aI 0 h1 v2 (24 : Int32)).bind fun v3 =>
  if v3 = (1 : Int32) then (
    some (((-5 : Int32), h1))) else (
    gO h1 12 x0 (
    (fX12_laysStands h1 x0 (0 : Int32)).bind fun y4 =>
    fX12_holding_26 y4 x0 (0 : Int32)))
theorem oX12_holding_0 {d : Nat} (hd : 5 ≤ d) {h : Hp} {x0 : Nat} {rf : Option Value} {hf : Hp} {x : (Int32 × Hp)} (hs : fX12_holding h x0 = some x) (hk : (kX12_holding rf hf) x) : Go d mX12_holding 0 [some (.ref x0), none, none, none, none, none] [] h rf hf := by
  unfold fX12_holding at hs
  refine go_aload_n (k4 := 0) rfl (Or.inr ⟨_, rfl⟩) dX12_holding_0 ?_
  refine go_iconst (v := 0) (by decide) dX12_holding_1 ?_
  obtain ⟨h1, eh1, hs⟩ := bindS hs
  refine go_sV fw_RX12_1 eh1 rfl rfl dX12_holding_2 ?_
  refine go_aload_n (k4 := 0) rfl (Or.inr ⟨_, rfl⟩) dX12_holding_5 ?_
  obtain ⟨v2, ev2, hs⟩ := bindS hs
  refine go_gN fl_RX12_13 ev2 dX12_holding_6 ?_
  refine go_bipush (v := 24) (by decide) dX12_holding_9 ?_
  obtain ⟨v3, ev3, hs⟩ := bindS hs
  refine go_aIi ev3 dX12_holding_11 ?_
  refine go_at 12 rfl ?_
  refine go_iconst (v := 1) (by decide) dX12_holding_12 ?_
  refine go_icmp_ne (tgt := 19) (by decide) dX12_holding_13 (fun c => ?_) (fun c => ?_)
  · have hs := if_f c hs
    refine go_aload_n (k4 := 0) rfl (Or.inr ⟨_, rfl⟩) dX12_holding_19 ?_
    refine go_iconst (v := 0) (by decide) dX12_holding_20 ?_
    obtain ⟨g5, hs⟩ := gO_at hs
    obtain ⟨y4, ey4, hs⟩ := bindS hs
    refine go_V0 (As := [.int (0 : Int32)]) (st := []) g5 rfl rfl (oX12_laysStands (d := d - 1) (by omega) ey4) (by omega) mb_X12_laysStands lm_RX12_394 mi_X12_laysStands (Nat.le_of_ble_eq_true rfl) rfl dX12_holding_21 ?_
    refine go_iconst (v := 0) (by decide) dX12_holding_24 ?_
    refine go_istore_n (k4 := 1) (L' := [some (.ref x0), some (.int (0 : Int32)), none, none, none, none]) (by decide) rfl dX12_holding_25 ?_
    exact go_subL (L' := [some (.ref x0), some (.int (0 : Int32)), none, none, none, none]) (by simp [subL, va_rf]) (oX12_holding_26 hd hs hk)
  · have hs := if_t c hs
    refine go_bipush (v := -5) (by decide) dX12_holding_16 ?_
    obtain rfl := Option.some.inj hs
    obtain ⟨rfl, rfl⟩ := hk
    exact go_iret rfl dX12_holding_18
theorem oX12_holding {d : Nat} (hd : 5 ≤ d) {h : Hp} {x0 : Nat} {y : (Int32 × Hp)} (hs : fX12_holding h x0 = some y) : Call d mX12_holding [.ref x0] h (some (.int y.1)) (y.2) := call_of (by decide +kernel) (Nat.le_of_ble_eq_true rfl) (show Go d mX12_holding 0 [some (.ref x0), none, none, none, none, none] [] h _ _ from go_subL (by simp [subL]) (oX12_holding_0 hd hs ⟨rfl, rfl⟩))
abbrev kX12_felling (rf : Option Value) (hf : Hp) : (Int32 × Hp) → Prop := fun y => rf = some (.int y.1) ∧ hf = y.2
abbrev pX12_felling_26 (d : Nat) (x0 : Nat) (rf : Option Value) (hf : Hp) : (Int32 × Hp) → Prop := fun s => Go d mX12_felling 26 [some (.ref x0), some (.int s.1)] [] s.2 rf hf
noncomputable def fX12_felling_63 (h : Hp) (x0 : Nat) (x1 : Int32) (s0 : Nat) (s1 : Int32) (s2 : Int32) : Option ((Int32 × Hp) ⊕ (Int32 × Hp)) :=
  (wI 0 h s0 s1 s2).bind fun h16 =>
  some (.inl ((x1 + Int32.ofInt 1), h16))
theorem oX12_felling_63 {d : Nat} (hd : 5 ≤ d) {h : Hp} {x0 : Nat} {x1 : Int32} {s0 : Nat} {s1 : Int32} {s2 : Int32} {rf : Option Value} {hf : Hp} {x : ((Int32 × Hp) ⊕ (Int32 × Hp))} (hs : fX12_felling_63 h x0 x1 s0 s1 s2 = some x) (hk : (Kx (pX12_felling_26 d x0 rf hf) (kX12_felling rf hf)) x) : Go d mX12_felling 63 [some (.ref x0), some (.int x1)] [.int s2, .int s1, .ref s0] h rf hf := by
  unfold fX12_felling_63 at hs
  obtain ⟨h16, eh16, hs⟩ := bindS hs
  refine go_wIi eh16 dX12_felling_63 ?_
  refine go_iinc (L' := [some (.ref x0), some (.int (x1 + Int32.ofInt 1))]) rfl (by decide) rfl rfl dX12_felling_64 ?_
  refine go_goto (tgt := 26) (by decide) dX12_felling_67 ?_
  obtain rfl := Option.some.inj hs
  exact go_subL (L' := [some (.ref x0), some (.int (x1 + Int32.ofInt 1))]) (by simp [subL, va_rf]) hk
noncomputable def fX12_felling_26b (h : Hp) (x0 : Nat) (x1 : Int32) : Option ((Int32 × Hp) ⊕ (Int32 × Hp)) :=
  (gI h 12 x0 33).bind fun v6 =>
  if v6 ≤ x1 then (
    gO h 12 x0 (
    (fX12_laysFar h x0).bind fun y7 =>
    (fX12_toldFar y7.2 y7.1).bind fun y9 =>
    some (.inr (y9, y7.2)))) else (
    (gN h 12 x0 31).bind fun v10 =>
    (gN h 12 x0 29).bind fun v11 =>
    (aI 0 h v11 x1).bind fun v12 =>
    (gN h 12 x0 29).bind fun v13 =>
    (aI 0 h v13 x1).bind fun v14 =>
    (fX12_hasFallen h v14).bind fun y15 =>
    if y15 = 0 then (
      fX12_felling_63 h x0 x1 v10 v12 (268435456 : Int32)) else (
      fX12_felling_63 h x0 x1 v10 v12 (0 : Int32)))
noncomputable def fX12_felling_26 (h : Hp) (x0 : Nat) (x1 : Int32) : Option (Int32 × Hp) := lpw (σ := (Int32 × Hp)) (fun s => fX12_felling_26b s.2 x0 s.1) (x1, h)
theorem oX12_felling_26b {d : Nat} (hd : 5 ≤ d) {h : Hp} {x0 : Nat} {x1 : Int32} {rf : Option Value} {hf : Hp} {x : ((Int32 × Hp) ⊕ (Int32 × Hp))} (hs : fX12_felling_26b h x0 x1 = some x) (hk : (Kx (pX12_felling_26 d x0 rf hf) (kX12_felling rf hf)) x) : Go d mX12_felling 26 [some (.ref x0), some (.int x1)] [] h rf hf := by
  unfold fX12_felling_26b at hs
  refine go_iload_n (k4 := 1) rfl dX12_felling_26 ?_
  refine go_aload_n (k4 := 0) rfl (Or.inr ⟨_, rfl⟩) dX12_felling_27 ?_
  obtain ⟨v6, ev6, hs⟩ := bindS hs
  refine go_gI fl_RX12_384 ev6 dX12_felling_28 ?_
  refine go_icmp_ge (tgt := 70) (by decide) dX12_felling_31 (fun c => ?_) (fun c => ?_)
  · have hs := if_t c hs
    refine go_aload_n (k4 := 0) rfl (Or.inr ⟨_, rfl⟩) dX12_felling_70 ?_
    obtain ⟨g8, hs⟩ := gO_at hs
    obtain ⟨y7, ey7, hs⟩ := bindS hs
    refine go_V1 (As := []) (st := []) g8 rfl rfl (oX12_laysFar (d := d - 1) (by omega) ey7) (by omega) mb_X12_laysFar lm_RX12_398 mi_X12_laysFar (Nat.le_of_ble_eq_true rfl) rfl dX12_felling_71 ?_
    obtain ⟨y9, ey9, hs⟩ := bindS hs
    refine go_S1 (As := [.int y7.1]) (st := []) (oX12_toldFar (d := d - 1) (by omega) ey9) (by omega) mb_X12_toldFar lm_RX12_407 ms_X12_toldFar (Nat.le_of_ble_eq_true rfl) rfl dX12_felling_74 ?_
    obtain rfl := Option.some.inj hs
    obtain ⟨rfl, rfl⟩ := hk
    exact go_iret rfl dX12_felling_77
  · have hs := if_f c hs
    refine go_aload_n (k4 := 0) rfl (Or.inr ⟨_, rfl⟩) dX12_felling_34 ?_
    obtain ⟨v10, ev10, hs⟩ := bindS hs
    refine go_gN fl_RX12_61 ev10 dX12_felling_35 ?_
    refine go_aload_n (k4 := 0) rfl (Or.inr ⟨_, rfl⟩) dX12_felling_38 ?_
    obtain ⟨v11, ev11, hs⟩ := bindS hs
    refine go_gN fl_RX12_54 ev11 dX12_felling_39 ?_
    refine go_iload_n (k4 := 1) rfl dX12_felling_42 ?_
    obtain ⟨v12, ev12, hs⟩ := bindS hs
    refine go_aIi ev12 dX12_felling_43 ?_
    refine go_aload_n (k4 := 0) rfl (Or.inr ⟨_, rfl⟩) dX12_felling_44 ?_
    refine go_at 45 rfl ?_
    obtain ⟨v13, ev13, hs⟩ := bindS hs
    refine go_gN fl_RX12_54 ev13 dX12_felling_45 ?_
    refine go_iload_n (k4 := 1) rfl dX12_felling_48 ?_
    obtain ⟨v14, ev14, hs⟩ := bindS hs
    refine go_aIi ev14 dX12_felling_49 ?_
    obtain ⟨y15, ey15, hs⟩ := bindS hs
    refine go_S1 (As := [.int v14]) (st := [.int v12, .ref v10]) (oX12_hasFallen (d := d - 1) (by omega) ey15) (by omega) mb_X12_hasFallen lm_RX12_245 ms_X12_hasFallen (Nat.le_of_ble_eq_true rfl) rfl dX12_felling_50 ?_
    refine go_if_eq (tgt := 60) (by decide) dX12_felling_53 (fun c => ?_) (fun c => ?_)
    · have hs := if_t c hs
      refine go_ldcw lc_RX12_390 dX12_felling_60 ?_
      exact go_subL (L' := [some (.ref x0), some (.int x1)]) (by simp [subL, va_rf]) (oX12_felling_63 hd hs hk)
    · have hs := if_f c hs
      refine go_iconst (v := 0) (by decide) dX12_felling_56 ?_
      refine go_goto (tgt := 63) (by decide) dX12_felling_57 ?_
      exact go_subL (L' := [some (.ref x0), some (.int x1)]) (by simp [subL, va_rf]) (oX12_felling_63 hd hs hk)
theorem oX12_felling_26 {d : Nat} (hd : 5 ≤ d) {h : Hp} {x0 : Nat} {x1 : Int32} {rf : Option Value} {hf : Hp} {x : (Int32 × Hp)} (hs : fX12_felling_26 h x0 x1 = some x) (hk : (kX12_felling rf hf) x) : Go d mX12_felling 26 [some (.ref x0), some (.int x1)] [] h rf hf := by
  unfold fX12_felling_26 at hs
  exact lpw_go (P := pX12_felling_26 d x0 rf hf) (fun s x hs hk => oX12_felling_26b hd hs hk) (x1, h) x hs hk
noncomputable def fX12_felling (h : Hp) (x0 : Nat) : Option (Int32 × Hp) :=
  (sV h 12 x0 0 (.int (0 : Int32))).bind fun h1 =>
  (gN h1 12 x0 1).bind fun v2 =>
  (aI 0 h1 v2 (24 : Int32)).bind fun v3 =>
  if v3 = (1 : Int32) then (
    some (((-5 : Int32), h1))) else (
    gO h1 12 x0 (
    (fX12_laysStands h1 x0 (0 : Int32)).bind fun y4 =>
    fX12_felling_26 y4 x0 (0 : Int32)))
theorem oX12_felling_0 {d : Nat} (hd : 5 ≤ d) {h : Hp} {x0 : Nat} {rf : Option Value} {hf : Hp} {x : (Int32 × Hp)} (hs : fX12_felling h x0 = some x) (hk : (kX12_felling rf hf) x) : Go d mX12_felling 0 [some (.ref x0), none] [] h rf hf := by
  unfold fX12_felling at hs
  refine go_aload_n (k4 := 0) rfl (Or.inr ⟨_, rfl⟩) dX12_felling_0 ?_
  refine go_iconst (v := 0) (by decide) dX12_felling_1 ?_
  obtain ⟨h1, eh1, hs⟩ := bindS hs
  refine go_sV fw_RX12_1 eh1 rfl rfl dX12_felling_2 ?_
  refine go_aload_n (k4 := 0) rfl (Or.inr ⟨_, rfl⟩) dX12_felling_5 ?_
  obtain ⟨v2, ev2, hs⟩ := bindS hs
  refine go_gN fl_RX12_13 ev2 dX12_felling_6 ?_
  refine go_bipush (v := 24) (by decide) dX12_felling_9 ?_
  obtain ⟨v3, ev3, hs⟩ := bindS hs
  refine go_aIi ev3 dX12_felling_11 ?_
  refine go_at 12 rfl ?_
  refine go_iconst (v := 1) (by decide) dX12_felling_12 ?_
  refine go_icmp_ne (tgt := 19) (by decide) dX12_felling_13 (fun c => ?_) (fun c => ?_)
  · have hs := if_f c hs
    refine go_aload_n (k4 := 0) rfl (Or.inr ⟨_, rfl⟩) dX12_felling_19 ?_
    refine go_iconst (v := 0) (by decide) dX12_felling_20 ?_
    obtain ⟨g5, hs⟩ := gO_at hs
    obtain ⟨y4, ey4, hs⟩ := bindS hs
    refine go_V0 (As := [.int (0 : Int32)]) (st := []) g5 rfl rfl (oX12_laysStands (d := d - 1) (by omega) ey4) (by omega) mb_X12_laysStands lm_RX12_394 mi_X12_laysStands (Nat.le_of_ble_eq_true rfl) rfl dX12_felling_21 ?_
    refine go_iconst (v := 0) (by decide) dX12_felling_24 ?_
    refine go_istore_n (k4 := 1) (L' := [some (.ref x0), some (.int (0 : Int32))]) (by decide) rfl dX12_felling_25 ?_
    exact go_subL (L' := [some (.ref x0), some (.int (0 : Int32))]) (by simp [subL, va_rf]) (oX12_felling_26 hd hs hk)
  · have hs := if_t c hs
    refine go_bipush (v := -5) (by decide) dX12_felling_16 ?_
    obtain rfl := Option.some.inj hs
    obtain ⟨rfl, rfl⟩ := hk
    exact go_iret rfl dX12_felling_18
theorem oX12_felling {d : Nat} (hd : 5 ≤ d) {h : Hp} {x0 : Nat} {y : (Int32 × Hp)} (hs : fX12_felling h x0 = some y) : Call d mX12_felling [.ref x0] h (some (.int y.1)) (y.2) := call_of (by decide +kernel) (Nat.le_of_ble_eq_true rfl) (show Go d mX12_felling 0 [some (.ref x0), none] [] h _ _ from go_subL (by simp [subL]) (oX12_felling_0 hd hs ⟨rfl, rfl⟩))
abbrev kX12_stands (rf : Option Value) (hf : Hp) : (Int32 × Hp) → Prop := fun y => rf = some (.int y.1) ∧ hf = y.2
noncomputable def fX12_stands (h : Hp) (x0 : Nat) : Option (Int32 × Hp) :=
  (sV h 12 x0 0 (.int (0 : Int32))).bind fun h1 =>
  gO h1 12 x0 (
  (fX12_laysStands h1 x0 (0 : Int32)).bind fun y2 =>
  (gI y2 12 x0 33).bind fun v4 =>
  some ((v4, y2)))
theorem oX12_stands_0 {d : Nat} (hd : 5 ≤ d) {h : Hp} {x0 : Nat} {rf : Option Value} {hf : Hp} {x : (Int32 × Hp)} (hs : fX12_stands h x0 = some x) (hk : (kX12_stands rf hf) x) : Go d mX12_stands 0 [some (.ref x0)] [] h rf hf := by
  unfold fX12_stands at hs
  refine go_aload_n (k4 := 0) rfl (Or.inr ⟨_, rfl⟩) dX12_stands_0 ?_
  refine go_iconst (v := 0) (by decide) dX12_stands_1 ?_
  obtain ⟨h1, eh1, hs⟩ := bindS hs
  refine go_sV fw_RX12_1 eh1 rfl rfl dX12_stands_2 ?_
  refine go_aload_n (k4 := 0) rfl (Or.inr ⟨_, rfl⟩) dX12_stands_5 ?_
  refine go_iconst (v := 0) (by decide) dX12_stands_6 ?_
  obtain ⟨g3, hs⟩ := gO_at hs
  obtain ⟨y2, ey2, hs⟩ := bindS hs
  refine go_V0 (As := [.int (0 : Int32)]) (st := []) g3 rfl rfl (oX12_laysStands (d := d - 1) (by omega) ey2) (by omega) mb_X12_laysStands lm_RX12_394 mi_X12_laysStands (Nat.le_of_ble_eq_true rfl) rfl dX12_stands_7 ?_
  refine go_aload_n (k4 := 0) rfl (Or.inr ⟨_, rfl⟩) dX12_stands_10 ?_
  refine go_at 11 rfl ?_
  obtain ⟨v4, ev4, hs⟩ := bindS hs
  refine go_gI fl_RX12_384 ev4 dX12_stands_11 ?_
  obtain rfl := Option.some.inj hs
  obtain ⟨rfl, rfl⟩ := hk
  exact go_iret rfl dX12_stands_14
theorem oX12_stands {d : Nat} (hd : 5 ≤ d) {h : Hp} {x0 : Nat} {y : (Int32 × Hp)} (hs : fX12_stands h x0 = some y) : Call d mX12_stands [.ref x0] h (some (.int y.1)) (y.2) := call_of (by decide +kernel) (Nat.le_of_ble_eq_true rfl) (show Go d mX12_stands 0 [some (.ref x0)] [] h _ _ from go_subL (by simp [subL]) (oX12_stands_0 hd hs ⟨rfl, rfl⟩))
abbrev kX12_noSeen (h : Hp) (rf : Option Value) (hf : Hp) : Int32 → Prop := fun y => rf = some (.int y) ∧ hf = h
noncomputable def fX12_noSeen_21 (h : Hp)  : Option Int32 :=
  some ((-2 : Int32))
theorem oX12_noSeen_21 {d : Nat} (hd : 2 ≤ d) {h : Hp} {rf : Option Value} {hf : Hp} {x : Int32} (hs : fX12_noSeen_21 h  = some x) (hk : (kX12_noSeen h rf hf) x) : Go d mX12_noSeen 21 [none, none, none, none, none] [] h rf hf := by
  unfold fX12_noSeen_21 at hs
  refine go_bipush (v := -2) (by decide) dX12_noSeen_21 ?_
  obtain rfl := Option.some.inj hs
  obtain ⟨rfl, rfl⟩ := hk
  exact go_iret rfl dX12_noSeen_23
abbrev pX12_noSeen_59 (d : Nat) (h : Hp) (x0 : Nat) (x1 : Int32) (rf : Option Value) (hf : Hp) : Int32 → Prop := fun s => Go d mX12_noSeen 59 [some (.ref x0), some (.int x1), none, none, some (.int s)] [] h rf hf
noncomputable def fX12_noSeen_59b (h : Hp) (x0 : Nat) (x1 : Int32) (x4 : Int32) : Option (Int32 ⊕ Int32) :=
  (gN h 12 x0 39).bind fun v9 =>
  (aI 0 h v9 x1).bind fun v10 =>
  if v10 ≤ x4 then (
    some (.inr (0 : Int32))) else (
    (gN h 12 x0 40).bind fun v11 =>
    (aJ h v11 (((40 : Int32) * x1) + x4)).bind fun v12 =>
    (fX12_within h v12 (-1 : Int64) (9 : Int64)).bind fun y13 =>
    if y13 = 0 then (
      some (.inr (-3 : Int32))) else (
      some (.inl (x4 + Int32.ofInt 1))))
noncomputable def fX12_noSeen_59 (h : Hp) (x0 : Nat) (x1 : Int32) (x4 : Int32) : Option Int32 := lpw (σ := Int32) (fun s => fX12_noSeen_59b h x0 x1 s) x4
theorem oX12_noSeen_59b {d : Nat} (hd : 2 ≤ d) {h : Hp} {x0 : Nat} {x1 : Int32} {x4 : Int32} {rf : Option Value} {hf : Hp} {x : (Int32 ⊕ Int32)} (hs : fX12_noSeen_59b h x0 x1 x4 = some x) (hk : (Kx (pX12_noSeen_59 d h x0 x1 rf hf) (kX12_noSeen h rf hf)) x) : Go d mX12_noSeen 59 [some (.ref x0), some (.int x1), none, none, some (.int x4)] [] h rf hf := by
  unfold fX12_noSeen_59b at hs
  refine go_iload rfl dX12_noSeen_59 ?_
  refine go_aload_n (k4 := 0) rfl (Or.inr ⟨_, rfl⟩) dX12_noSeen_61 ?_
  obtain ⟨v9, ev9, hs⟩ := bindS hs
  refine go_gN fl_RX12_83 ev9 dX12_noSeen_62 ?_
  refine go_iload_n (k4 := 1) rfl dX12_noSeen_65 ?_
  obtain ⟨v10, ev10, hs⟩ := bindS hs
  refine go_aIi ev10 dX12_noSeen_66 ?_
  refine go_icmp_ge (tgt := 103) (by decide) dX12_noSeen_67 (fun c => ?_) (fun c => ?_)
  · have hs := if_t c hs
    refine go_iconst (v := 0) (by decide) dX12_noSeen_103 ?_
    obtain rfl := Option.some.inj hs
    obtain ⟨rfl, rfl⟩ := hk
    exact go_iret rfl dX12_noSeen_104
  · have hs := if_f c hs
    refine go_aload_n (k4 := 0) rfl (Or.inr ⟨_, rfl⟩) dX12_noSeen_70 ?_
    obtain ⟨v11, ev11, hs⟩ := bindS hs
    refine go_gN fl_RX12_86 ev11 dX12_noSeen_71 ?_
    refine go_bipush (v := 40) (by decide) dX12_noSeen_74 ?_
    refine go_iload_n (k4 := 1) rfl dX12_noSeen_76 ?_
    refine go_imul dX12_noSeen_77 ?_
    refine go_iload rfl dX12_noSeen_78 ?_
    refine go_iadd dX12_noSeen_80 ?_
    refine go_at 81 rfl ?_
    obtain ⟨v12, ev12, hs⟩ := bindS hs
    refine go_aJ ev12 dX12_noSeen_81 ?_
    refine go_ldc2 lc_RX12_420 dX12_noSeen_82 ?_
    refine go_ldc2 lc_RX12_310 dX12_noSeen_85 ?_
    obtain ⟨y13, ey13, hs⟩ := bindS hs
    refine go_S1 (As := [.long v12, .long (-1 : Int64), .long (9 : Int64)]) (st := []) (oX12_within (d := d - 1) (by omega) ey13) (by omega) mb_X12_within lm_RX12_155 ms_X12_within (Nat.le_of_ble_eq_true rfl) rfl dX12_noSeen_88 ?_
    refine go_if_ne (tgt := 97) (by decide) dX12_noSeen_91 (fun c => ?_) (fun c => ?_)
    · have hs := if_f c hs
      refine go_iinc (L' := [some (.ref x0), some (.int x1), none, none, some (.int (x4 + Int32.ofInt 1))]) rfl (by decide) rfl rfl dX12_noSeen_97 ?_
      refine go_goto (tgt := 59) (by decide) dX12_noSeen_100 ?_
      obtain rfl := Option.some.inj hs
      exact go_subL (L' := [some (.ref x0), some (.int x1), none, none, some (.int (x4 + Int32.ofInt 1))]) (by simp [subL, va_rf]) hk
    · have hs := if_t c hs
      refine go_bipush (v := -3) (by decide) dX12_noSeen_94 ?_
      obtain rfl := Option.some.inj hs
      obtain ⟨rfl, rfl⟩ := hk
      exact go_iret rfl dX12_noSeen_96
theorem oX12_noSeen_59 {d : Nat} (hd : 2 ≤ d) {h : Hp} {x0 : Nat} {x1 : Int32} {x4 : Int32} {rf : Option Value} {hf : Hp} {x : Int32} (hs : fX12_noSeen_59 h x0 x1 x4 = some x) (hk : (kX12_noSeen h rf hf) x) : Go d mX12_noSeen 59 [some (.ref x0), some (.int x1), none, none, some (.int x4)] [] h rf hf := by
  unfold fX12_noSeen_59 at hs
  exact lpw_go (P := pX12_noSeen_59 d h x0 x1 rf hf) (fun s x hs hk => oX12_noSeen_59b hd hs hk) x4 x hs hk
noncomputable def fX12_noSeen (h : Hp) (x0 : Nat) (x1 : Int32) (x2 : Int32) : Option Int32 :=
  (fX12_within h (x1.toInt64) (0 : Int64) (3 : Int64)).bind fun y1 =>
  if y1 = 0 then (
  fX12_noSeen_21 h ) else (
    gO h 12 x0 (
    (fX12_isPair h x0 (x2.toInt64)).bind fun y2 =>
    if y2 = 0 then (
    fX12_noSeen_21 h ) else (
      gO h 12 x0 (
      (fX12_noTray h x0 x1).bind fun y4 =>
      if y4 = 0 then (
        (gN h 12 x0 39).bind fun v6 =>
        (aI 0 h v6 x1).bind fun v7 =>
        (fX12_within h (v7.toInt64) (1 : Int64) (10 : Int64)).bind fun y8 =>
        if y8 = 0 then (
          some ((-4 : Int32))) else (
          fX12_noSeen_59 h x0 x1 (0 : Int32))) else (
        some (y4))))))
theorem oX12_noSeen_0 {d : Nat} (hd : 2 ≤ d) {h : Hp} {x0 : Nat} {x1 : Int32} {x2 : Int32} {rf : Option Value} {hf : Hp} {x : Int32} (hs : fX12_noSeen h x0 x1 x2 = some x) (hk : (kX12_noSeen h rf hf) x) : Go d mX12_noSeen 0 [some (.ref x0), some (.int x1), some (.int x2), none, none] [] h rf hf := by
  unfold fX12_noSeen at hs
  refine go_iload_n (k4 := 1) rfl dX12_noSeen_0 ?_
  refine go_i2l dX12_noSeen_1 ?_
  refine go_lconst (v := 0) (by decide) dX12_noSeen_2 ?_
  refine go_ldc2 lc_RX12_333 dX12_noSeen_3 ?_
  obtain ⟨y1, ey1, hs⟩ := bindS hs
  refine go_S1 (As := [.long (x1.toInt64), .long (0 : Int64), .long (3 : Int64)]) (st := []) (oX12_within (d := d - 1) (by omega) ey1) (by omega) mb_X12_within lm_RX12_155 ms_X12_within (Nat.le_of_ble_eq_true rfl) rfl dX12_noSeen_6 ?_
  refine go_if_eq (tgt := 21) (by decide) dX12_noSeen_9 (fun c => ?_) (fun c => ?_)
  · have hs := if_t c hs
    exact go_subL (L' := [none, none, none, none, none]) (by simp [subL, va_rf]) (oX12_noSeen_21 hd hs hk)
  · have hs := if_f c hs
    refine go_aload_n (k4 := 0) rfl (Or.inr ⟨_, rfl⟩) dX12_noSeen_12 ?_
    refine go_iload_n (k4 := 2) rfl dX12_noSeen_13 ?_
    refine go_i2l dX12_noSeen_14 ?_
    obtain ⟨g3, hs⟩ := gO_at hs
    obtain ⟨y2, ey2, hs⟩ := bindS hs
    refine go_V1 (As := [.long (x2.toInt64)]) (st := []) g3 rfl rfl (oX12_isPair (d := d - 1) (by omega) ey2) (by omega) mb_X12_isPair lm_RX12_271 mi_X12_isPair (Nat.le_of_ble_eq_true rfl) rfl dX12_noSeen_15 ?_
    refine go_if_ne (tgt := 24) (by decide) dX12_noSeen_18 (fun c => ?_) (fun c => ?_)
    · have hs := if_f c hs
      refine go_aload_n (k4 := 0) rfl (Or.inr ⟨_, rfl⟩) dX12_noSeen_24 ?_
      refine go_iload_n (k4 := 1) rfl dX12_noSeen_25 ?_
      obtain ⟨g5, hs⟩ := gO_at hs
      obtain ⟨y4, ey4, hs⟩ := bindS hs
      refine go_V1 (As := [.int x1]) (st := []) g5 rfl rfl (oX12_noTray (d := d - 1) (by omega) ey4) (by omega) mb_X12_noTray lm_RX12_335 mi_X12_noTray (Nat.le_of_ble_eq_true rfl) rfl dX12_noSeen_26 ?_
      refine go_istore_n (k4 := 3) (L' := [some (.ref x0), some (.int x1), some (.int x2), some (.int y4), none]) (by decide) rfl dX12_noSeen_29 ?_
      refine go_iload_n (k4 := 3) rfl dX12_noSeen_30 ?_
      refine go_if_eq (tgt := 36) (by decide) dX12_noSeen_31 (fun c => ?_) (fun c => ?_)
      · have hs := if_t c hs
        refine go_aload_n (k4 := 0) rfl (Or.inr ⟨_, rfl⟩) dX12_noSeen_36 ?_
        obtain ⟨v6, ev6, hs⟩ := bindS hs
        refine go_gN fl_RX12_83 ev6 dX12_noSeen_37 ?_
        refine go_iload_n (k4 := 1) rfl dX12_noSeen_40 ?_
        obtain ⟨v7, ev7, hs⟩ := bindS hs
        refine go_aIi ev7 dX12_noSeen_41 ?_
        refine go_i2l dX12_noSeen_42 ?_
        refine go_lconst (v := 1) (by decide) dX12_noSeen_43 ?_
        refine go_ldc2 lc_RX12_312 dX12_noSeen_44 ?_
        refine go_at 47 rfl ?_
        obtain ⟨y8, ey8, hs⟩ := bindS hs
        refine go_S1 (As := [.long (v7.toInt64), .long (1 : Int64), .long (10 : Int64)]) (st := []) (oX12_within (d := d - 1) (by omega) ey8) (by omega) mb_X12_within lm_RX12_155 ms_X12_within (Nat.le_of_ble_eq_true rfl) rfl dX12_noSeen_47 ?_
        refine go_if_ne (tgt := 56) (by decide) dX12_noSeen_50 (fun c => ?_) (fun c => ?_)
        · have hs := if_f c hs
          refine go_iconst (v := 0) (by decide) dX12_noSeen_56 ?_
          refine go_istore (L' := [some (.ref x0), some (.int x1), some (.int x2), some (.int y4), some (.int (0 : Int32))]) (by decide) rfl dX12_noSeen_57 ?_
          exact go_subL (L' := [some (.ref x0), some (.int x1), none, none, some (.int (0 : Int32))]) (by simp [subL, va_rf]) (oX12_noSeen_59 hd hs hk)
        · have hs := if_t c hs
          refine go_bipush (v := -4) (by decide) dX12_noSeen_53 ?_
          obtain rfl := Option.some.inj hs
          obtain ⟨rfl, rfl⟩ := hk
          exact go_iret rfl dX12_noSeen_55
      · have hs := if_f c hs
        refine go_iload_n (k4 := 3) rfl dX12_noSeen_34 ?_
        obtain rfl := Option.some.inj hs
        obtain ⟨rfl, rfl⟩ := hk
        exact go_iret rfl dX12_noSeen_35
    · have hs := if_t c hs
      exact go_subL (L' := [none, none, none, none, none]) (by simp [subL, va_rf]) (oX12_noSeen_21 hd hs hk)
theorem oX12_noSeen {d : Nat} (hd : 2 ≤ d) {h : Hp} {x0 : Nat} {x1 : Int32} {x2 : Int32} {y : Int32} (hs : fX12_noSeen h x0 x1 x2 = some y) : Call d mX12_noSeen [.ref x0, .int x1, .int x2] h (some (.int y)) h := call_of (by decide +kernel) (Nat.le_of_ble_eq_true rfl) (show Go d mX12_noSeen 0 [some (.ref x0), some (.int x1), some (.int x2), none, none] [] h _ _ from go_subL (by simp [subL]) (oX12_noSeen_0 hd hs ⟨rfl, rfl⟩))
abbrev kX12_dryIn (h : Hp) (rf : Option Value) (hf : Hp) : Int32 → Prop := fun y => rf = some (.int y) ∧ hf = h
noncomputable def fX12_dryIn (h : Hp) (x0 : Nat) (x1 : Int32) (x2 : Int32) (x3 : Int32) : Option Int32 :=
  (gN h 12 x0 39).bind fun v1 =>
  (aI 0 h v1 x1).bind fun v2 =>
  some (((x2 >>> (((v2 - (1 : Int32)) - x3) &&& 31)) &&& (1 : Int32)))
theorem oX12_dryIn_0 {d : Nat} (hd : 0 ≤ d) {h : Hp} {x0 : Nat} {x1 : Int32} {x2 : Int32} {x3 : Int32} {rf : Option Value} {hf : Hp} {x : Int32} (hs : fX12_dryIn h x0 x1 x2 x3 = some x) (hk : (kX12_dryIn h rf hf) x) : Go d mX12_dryIn 0 [some (.ref x0), some (.int x1), some (.int x2), some (.int x3)] [] h rf hf := by
  unfold fX12_dryIn at hs
  refine go_iload_n (k4 := 2) rfl dX12_dryIn_0 ?_
  refine go_aload_n (k4 := 0) rfl (Or.inr ⟨_, rfl⟩) dX12_dryIn_1 ?_
  obtain ⟨v1, ev1, hs⟩ := bindS hs
  refine go_gN fl_RX12_83 ev1 dX12_dryIn_2 ?_
  refine go_iload_n (k4 := 1) rfl dX12_dryIn_5 ?_
  obtain ⟨v2, ev2, hs⟩ := bindS hs
  refine go_aIi ev2 dX12_dryIn_6 ?_
  refine go_iconst (v := 1) (by decide) dX12_dryIn_7 ?_
  refine go_isub dX12_dryIn_8 ?_
  refine go_at 9 rfl ?_
  refine go_iload_n (k4 := 3) rfl dX12_dryIn_9 ?_
  refine go_isub dX12_dryIn_10 ?_
  refine go_ishr dX12_dryIn_11 ?_
  refine go_iconst (v := 1) (by decide) dX12_dryIn_12 ?_
  refine go_iand dX12_dryIn_13 ?_
  obtain rfl := Option.some.inj hs
  obtain ⟨rfl, rfl⟩ := hk
  exact go_iret rfl dX12_dryIn_14
theorem oX12_dryIn {d : Nat} (hd : 0 ≤ d) {h : Hp} {x0 : Nat} {x1 : Int32} {x2 : Int32} {x3 : Int32} {y : Int32} (hs : fX12_dryIn h x0 x1 x2 x3 = some y) : Call d mX12_dryIn [.ref x0, .int x1, .int x2, .int x3] h (some (.int y)) h := call_of (by decide +kernel) (Nat.le_of_ble_eq_true rfl) (show Go d mX12_dryIn 0 [some (.ref x0), some (.int x1), some (.int x2), some (.int x3)] [] h _ _ from go_subL (by simp [subL]) (oX12_dryIn_0 hd hs ⟨rfl, rfl⟩))
abbrev kX12_isSeen (rf : Option Value) (hf : Hp) : (Int32 × Hp) → Prop := fun y => rf = some (.int y.1) ∧ hf = y.2
abbrev pX12_isSeen_9 (d : Nat) (x0 : Nat) (x1 : Int32) (x2 : Int32) (x3 : Int32) (rf : Option Value) (hf : Hp) : (Int32 × Int32 × Hp) → Prop := fun s => Go d mX12_isSeen 9 [some (.ref x0), some (.int x1), some (.int x2), some (.int x3), some (.int s.1), some (.int s.2.1)] [] s.2.2 rf hf
noncomputable def fX12_isSeen_87 (h : Hp) (x0 : Nat) (x1 : Int32) (x2 : Int32) (x3 : Int32) (x4 : Int32) (x5 : Int32) : Option ((Int32 × Int32 × Hp) ⊕ (Int32 × Hp)) :=
  some (.inl (x4, (x5 + Int32.ofInt 1), h))
theorem oX12_isSeen_87 {d : Nat} (hd : 4 ≤ d) {h : Hp} {x0 : Nat} {x1 : Int32} {x2 : Int32} {x3 : Int32} {x4 : Int32} {x5 : Int32} {rf : Option Value} {hf : Hp} {x : ((Int32 × Int32 × Hp) ⊕ (Int32 × Hp))} (hs : fX12_isSeen_87 h x0 x1 x2 x3 x4 x5 = some x) (hk : (Kx (pX12_isSeen_9 d x0 x1 x2 x3 rf hf) (kX12_isSeen rf hf)) x) : Go d mX12_isSeen 87 [some (.ref x0), some (.int x1), some (.int x2), some (.int x3), some (.int x4), some (.int x5)] [] h rf hf := by
  unfold fX12_isSeen_87 at hs
  refine go_iinc (L' := [some (.ref x0), some (.int x1), some (.int x2), some (.int x3), some (.int x4), some (.int (x5 + Int32.ofInt 1))]) rfl (by decide) rfl rfl dX12_isSeen_87 ?_
  refine go_goto (tgt := 9) (by decide) dX12_isSeen_90 ?_
  obtain rfl := Option.some.inj hs
  exact go_subL (L' := [some (.ref x0), some (.int x1), some (.int x2), some (.int x3), some (.int x4), some (.int (x5 + Int32.ofInt 1))]) (by simp [subL, va_rf]) hk
noncomputable def fX12_isSeen_9b (h : Hp) (x0 : Nat) (x1 : Int32) (x2 : Int32) (x3 : Int32) (x4 : Int32) (x5 : Int32) : Option ((Int32 × Int32 × Hp) ⊕ (Int32 × Hp)) :=
  (gN h 12 x0 39).bind fun v3 =>
  (aI 0 h v3 x1).bind fun v4 =>
  if v4 ≤ x5 then (
    some (.inr ((1 : Int32), h))) else (
    (gN h 12 x0 1).bind fun v5 =>
    (aI 0 h v5 (23 : Int32)).bind fun v6 =>
    gO h 12 x0 (
    (fX12_dryIn h x0 x1 x3 x5).bind fun y7 =>
    gO h 12 x0 (
    (fX12_yearTo h x0 x4 v6 y7).bind fun y9 =>
    (gN y9.2 12 x0 40).bind fun v11 =>
    (aJ y9.2 v11 (((40 : Int32) * x1) + x5)).bind fun v12 =>
    if (lg_cmp v12 (-1 : Int64)) = 0 then (
    fX12_isSeen_87 y9.2 x0 x1 x2 x3 y9.1 x5) else (
      (gN y9.2 12 x0 40).bind fun v13 =>
      (aJ y9.2 v13 (((40 : Int32) * x1) + x5)).bind fun v14 =>
      (fX12_gapIn y9.2 y9.1 x2).bind fun y15 =>
      if (lg_cmp v14 (y15.toInt64)) = 0 then (
      fX12_isSeen_87 y9.2 x0 x1 x2 x3 y9.1 x5) else (
        some (.inr ((0 : Int32), y9.2)))))))
noncomputable def fX12_isSeen_9 (h : Hp) (x0 : Nat) (x1 : Int32) (x2 : Int32) (x3 : Int32) (x4 : Int32) (x5 : Int32) : Option (Int32 × Hp) := lpw (σ := (Int32 × Int32 × Hp)) (fun s => fX12_isSeen_9b s.2.2 x0 x1 x2 x3 s.1 s.2.1) (x4, x5, h)
theorem oX12_isSeen_9b {d : Nat} (hd : 4 ≤ d) {h : Hp} {x0 : Nat} {x1 : Int32} {x2 : Int32} {x3 : Int32} {x4 : Int32} {x5 : Int32} {rf : Option Value} {hf : Hp} {x : ((Int32 × Int32 × Hp) ⊕ (Int32 × Hp))} (hs : fX12_isSeen_9b h x0 x1 x2 x3 x4 x5 = some x) (hk : (Kx (pX12_isSeen_9 d x0 x1 x2 x3 rf hf) (kX12_isSeen rf hf)) x) : Go d mX12_isSeen 9 [some (.ref x0), some (.int x1), some (.int x2), some (.int x3), some (.int x4), some (.int x5)] [] h rf hf := by
  unfold fX12_isSeen_9b at hs
  refine go_iload rfl dX12_isSeen_9 ?_
  refine go_aload_n (k4 := 0) rfl (Or.inr ⟨_, rfl⟩) dX12_isSeen_11 ?_
  obtain ⟨v3, ev3, hs⟩ := bindS hs
  refine go_gN fl_RX12_83 ev3 dX12_isSeen_12 ?_
  refine go_iload_n (k4 := 1) rfl dX12_isSeen_15 ?_
  obtain ⟨v4, ev4, hs⟩ := bindS hs
  refine go_aIi ev4 dX12_isSeen_16 ?_
  refine go_icmp_ge (tgt := 93) (by decide) dX12_isSeen_17 (fun c => ?_) (fun c => ?_)
  · have hs := if_t c hs
    refine go_iconst (v := 1) (by decide) dX12_isSeen_93 ?_
    obtain rfl := Option.some.inj hs
    obtain ⟨rfl, rfl⟩ := hk
    exact go_zret (ty := .boolean) rfl rfl dX12_isSeen_94
  · have hs := if_f c hs
    refine go_aload_n (k4 := 0) rfl (Or.inr ⟨_, rfl⟩) dX12_isSeen_20 ?_
    refine go_iload rfl dX12_isSeen_21 ?_
    refine go_aload_n (k4 := 0) rfl (Or.inr ⟨_, rfl⟩) dX12_isSeen_23 ?_
    obtain ⟨v5, ev5, hs⟩ := bindS hs
    refine go_gN fl_RX12_13 ev5 dX12_isSeen_24 ?_
    refine go_bipush (v := 23) (by decide) dX12_isSeen_27 ?_
    obtain ⟨v6, ev6, hs⟩ := bindS hs
    refine go_aIi ev6 dX12_isSeen_29 ?_
    refine go_aload_n (k4 := 0) rfl (Or.inr ⟨_, rfl⟩) dX12_isSeen_30 ?_
    refine go_at 31 rfl ?_
    refine go_iload_n (k4 := 1) rfl dX12_isSeen_31 ?_
    refine go_iload_n (k4 := 3) rfl dX12_isSeen_32 ?_
    refine go_iload rfl dX12_isSeen_33 ?_
    obtain ⟨g8, hs⟩ := gO_at hs
    obtain ⟨y7, ey7, hs⟩ := bindS hs
    refine go_V1 (As := [.int x1, .int x3, .int x5]) (st := [.int v6, .int x4, .ref x0]) g8 rfl rfl (oX12_dryIn (d := d - 1) (by omega) ey7) (by omega) mb_X12_dryIn lm_RX12_422 mi_X12_dryIn (Nat.le_of_ble_eq_true rfl) rfl dX12_isSeen_35 ?_
    obtain ⟨g10, hs⟩ := gO_at hs
    obtain ⟨y9, ey9, hs⟩ := bindS hs
    refine go_V1 (As := [.int x4, .int v6, .int y7]) (st := []) g10 rfl rfl (oX12_yearTo (d := d - 1) (by omega) ey9) (by omega) mb_X12_yearTo lm_RX12_294 mi_X12_yearTo (Nat.le_of_ble_eq_true rfl) rfl dX12_isSeen_38 ?_
    refine go_istore (L' := [some (.ref x0), some (.int x1), some (.int x2), some (.int x3), some (.int y9.1), some (.int x5)]) (by decide) rfl dX12_isSeen_41 ?_
    refine go_aload_n (k4 := 0) rfl (Or.inr ⟨_, rfl⟩) dX12_isSeen_43 ?_
    obtain ⟨v11, ev11, hs⟩ := bindS hs
    refine go_gN fl_RX12_86 ev11 dX12_isSeen_44 ?_
    refine go_at 47 rfl ?_
    refine go_bipush (v := 40) (by decide) dX12_isSeen_47 ?_
    refine go_iload_n (k4 := 1) rfl dX12_isSeen_49 ?_
    refine go_imul dX12_isSeen_50 ?_
    refine go_iload rfl dX12_isSeen_51 ?_
    refine go_iadd dX12_isSeen_53 ?_
    obtain ⟨v12, ev12, hs⟩ := bindS hs
    refine go_aJ ev12 dX12_isSeen_54 ?_
    refine go_ldc2 lc_RX12_420 dX12_isSeen_55 ?_
    refine go_lcmp dX12_isSeen_58 ?_
    refine go_at 59 rfl ?_
    refine go_if_eq (tgt := 87) (by decide) dX12_isSeen_59 (fun c => ?_) (fun c => ?_)
    · have hs := if_t c hs
      exact go_subL (L' := [some (.ref x0), some (.int x1), some (.int x2), some (.int x3), some (.int y9.1), some (.int x5)]) (by simp [subL, va_rf]) (oX12_isSeen_87 hd hs hk)
    · have hs := if_f c hs
      refine go_aload_n (k4 := 0) rfl (Or.inr ⟨_, rfl⟩) dX12_isSeen_62 ?_
      obtain ⟨v13, ev13, hs⟩ := bindS hs
      refine go_gN fl_RX12_86 ev13 dX12_isSeen_63 ?_
      refine go_bipush (v := 40) (by decide) dX12_isSeen_66 ?_
      refine go_iload_n (k4 := 1) rfl dX12_isSeen_68 ?_
      refine go_imul dX12_isSeen_69 ?_
      refine go_iload rfl dX12_isSeen_70 ?_
      refine go_iadd dX12_isSeen_72 ?_
      refine go_at 73 rfl ?_
      obtain ⟨v14, ev14, hs⟩ := bindS hs
      refine go_aJ ev14 dX12_isSeen_73 ?_
      refine go_iload rfl dX12_isSeen_74 ?_
      refine go_iload_n (k4 := 2) rfl dX12_isSeen_76 ?_
      obtain ⟨y15, ey15, hs⟩ := bindS hs
      refine go_S1 (As := [.int y9.1, .int x2]) (st := [.long v14]) (oX12_gapIn (d := d - 1) (by omega) ey15) (by omega) mb_X12_gapIn lm_RX12_217 ms_X12_gapIn (Nat.le_of_ble_eq_true rfl) rfl dX12_isSeen_77 ?_
      refine go_i2l dX12_isSeen_80 ?_
      refine go_lcmp dX12_isSeen_81 ?_
      refine go_if_eq (tgt := 87) (by decide) dX12_isSeen_82 (fun c => ?_) (fun c => ?_)
      · have hs := if_t c hs
        exact go_subL (L' := [some (.ref x0), some (.int x1), some (.int x2), some (.int x3), some (.int y9.1), some (.int x5)]) (by simp [subL, va_rf]) (oX12_isSeen_87 hd hs hk)
      · have hs := if_f c hs
        refine go_iconst (v := 0) (by decide) dX12_isSeen_85 ?_
        obtain rfl := Option.some.inj hs
        obtain ⟨rfl, rfl⟩ := hk
        exact go_zret (ty := .boolean) rfl rfl dX12_isSeen_86
theorem oX12_isSeen_9 {d : Nat} (hd : 4 ≤ d) {h : Hp} {x0 : Nat} {x1 : Int32} {x2 : Int32} {x3 : Int32} {x4 : Int32} {x5 : Int32} {rf : Option Value} {hf : Hp} {x : (Int32 × Hp)} (hs : fX12_isSeen_9 h x0 x1 x2 x3 x4 x5 = some x) (hk : (kX12_isSeen rf hf) x) : Go d mX12_isSeen 9 [some (.ref x0), some (.int x1), some (.int x2), some (.int x3), some (.int x4), some (.int x5)] [] h rf hf := by
  unfold fX12_isSeen_9 at hs
  exact lpw_go (P := pX12_isSeen_9 d x0 x1 x2 x3 rf hf) (fun s x hs hk => oX12_isSeen_9b hd hs hk) (x4, x5, h) x hs hk
noncomputable def fX12_isSeen (h : Hp) (x0 : Nat) (x1 : Int32) (x2 : Int32) (x3 : Int32) : Option (Int32 × Hp) :=
  gO h 12 x0 (
  (fX12_standNow h x0).bind fun y1 =>
  fX12_isSeen_9 h x0 x1 x2 x3 y1 (0 : Int32))
theorem oX12_isSeen_0 {d : Nat} (hd : 4 ≤ d) {h : Hp} {x0 : Nat} {x1 : Int32} {x2 : Int32} {x3 : Int32} {rf : Option Value} {hf : Hp} {x : (Int32 × Hp)} (hs : fX12_isSeen h x0 x1 x2 x3 = some x) (hk : (kX12_isSeen rf hf) x) : Go d mX12_isSeen 0 [some (.ref x0), some (.int x1), some (.int x2), some (.int x3), none, none] [] h rf hf := by
  unfold fX12_isSeen at hs
  refine go_aload_n (k4 := 0) rfl (Or.inr ⟨_, rfl⟩) dX12_isSeen_0 ?_
  obtain ⟨g2, hs⟩ := gO_at hs
  obtain ⟨y1, ey1, hs⟩ := bindS hs
  refine go_V1 (As := []) (st := []) g2 rfl rfl (oX12_standNow (d := d - 1) (by omega) ey1) (by omega) mb_X12_standNow lm_RX12_282 mi_X12_standNow (Nat.le_of_ble_eq_true rfl) rfl dX12_isSeen_1 ?_
  refine go_istore (L' := [some (.ref x0), some (.int x1), some (.int x2), some (.int x3), some (.int y1), none]) (by decide) rfl dX12_isSeen_4 ?_
  refine go_iconst (v := 0) (by decide) dX12_isSeen_6 ?_
  refine go_istore (L' := [some (.ref x0), some (.int x1), some (.int x2), some (.int x3), some (.int y1), some (.int (0 : Int32))]) (by decide) rfl dX12_isSeen_7 ?_
  exact go_subL (L' := [some (.ref x0), some (.int x1), some (.int x2), some (.int x3), some (.int y1), some (.int (0 : Int32))]) (by simp [subL, va_rf]) (oX12_isSeen_9 hd hs hk)
theorem oX12_isSeen {d : Nat} (hd : 4 ≤ d) {h : Hp} {x0 : Nat} {x1 : Int32} {x2 : Int32} {x3 : Int32} {y : (Int32 × Hp)} (hs : fX12_isSeen h x0 x1 x2 x3 = some y) : Call d mX12_isSeen [.ref x0, .int x1, .int x2, .int x3] h (some (.int y.1)) (y.2) := call_of (by decide +kernel) (Nat.le_of_ble_eq_true rfl) (show Go d mX12_isSeen 0 [some (.ref x0), some (.int x1), some (.int x2), some (.int x3), none, none] [] h _ _ from go_subL (by simp [subL]) (oX12_isSeen_0 hd hs ⟨rfl, rfl⟩))
abbrev kX12_seen (rf : Option Value) (hf : Hp) : (Int32 × Hp) → Prop := fun y => rf = some (.int y.1) ∧ hf = y.2
abbrev pX12_seen_24 (d : Nat) (x0 : Nat) (x1 : Int32) (x2 : Int32) (rf : Option Value) (hf : Hp) : (Int32 × Int32 × Hp) → Prop := fun s => Go d mX12_seen 24 [some (.ref x0), some (.int x1), some (.int x2), none, some (.int s.1), some (.int s.2.1)] [] s.2.2 rf hf
noncomputable def fX12_seen_55 (h : Hp) (x0 : Nat) (x1 : Int32) (x2 : Int32) (x5 : Int32) (s0 : Int32) (s1 : Int32) : Option ((Int32 × Int32 × Hp) ⊕ (Int32 × Hp)) :=
  some (.inl ((s0 + s1), (x5 + Int32.ofInt 1), h))
theorem oX12_seen_55 {d : Nat} (hd : 5 ≤ d) {h : Hp} {x0 : Nat} {x1 : Int32} {x2 : Int32} {x5 : Int32} {s0 : Int32} {s1 : Int32} {rf : Option Value} {hf : Hp} {x : ((Int32 × Int32 × Hp) ⊕ (Int32 × Hp))} (hs : fX12_seen_55 h x0 x1 x2 x5 s0 s1 = some x) (hk : (Kx (pX12_seen_24 d x0 x1 x2 rf hf) (kX12_seen rf hf)) x) : Go d mX12_seen 55 [some (.ref x0), some (.int x1), some (.int x2), none, none, some (.int x5)] [.int s1, .int s0] h rf hf := by
  unfold fX12_seen_55 at hs
  refine go_iadd dX12_seen_55 ?_
  refine go_istore (L' := [some (.ref x0), some (.int x1), some (.int x2), none, some (.int (s0 + s1)), some (.int x5)]) (by decide) rfl dX12_seen_56 ?_
  refine go_iinc (L' := [some (.ref x0), some (.int x1), some (.int x2), none, some (.int (s0 + s1)), some (.int (x5 + Int32.ofInt 1))]) rfl (by decide) rfl rfl dX12_seen_58 ?_
  refine go_goto (tgt := 24) (by decide) dX12_seen_61 ?_
  obtain rfl := Option.some.inj hs
  exact go_subL (L' := [some (.ref x0), some (.int x1), some (.int x2), none, some (.int (s0 + s1)), some (.int (x5 + Int32.ofInt 1))]) (by simp [subL, va_rf]) hk
noncomputable def fX12_seen_24b (h : Hp) (x0 : Nat) (x1 : Int32) (x2 : Int32) (x4 : Int32) (x5 : Int32) : Option ((Int32 × Int32 × Hp) ⊕ (Int32 × Hp)) :=
  (gN h 12 x0 39).bind fun v4 =>
  (aI 0 h v4 x1).bind fun v5 =>
  if ((1 : Int32) <<< (v5 &&& 31)) ≤ x5 then (
    some (.inr (x4, h))) else (
    gO h 12 x0 (
    (fX12_isSeen h x0 x1 x2 x5).bind fun y6 =>
    if y6.1 = 0 then (
      fX12_seen_55 y6.2 x0 x1 x2 x5 x4 (0 : Int32)) else (
      fX12_seen_55 y6.2 x0 x1 x2 x5 x4 (1 : Int32))))
noncomputable def fX12_seen_24 (h : Hp) (x0 : Nat) (x1 : Int32) (x2 : Int32) (x4 : Int32) (x5 : Int32) : Option (Int32 × Hp) := lpw (σ := (Int32 × Int32 × Hp)) (fun s => fX12_seen_24b s.2.2 x0 x1 x2 s.1 s.2.1) (x4, x5, h)
theorem oX12_seen_24b {d : Nat} (hd : 5 ≤ d) {h : Hp} {x0 : Nat} {x1 : Int32} {x2 : Int32} {x4 : Int32} {x5 : Int32} {rf : Option Value} {hf : Hp} {x : ((Int32 × Int32 × Hp) ⊕ (Int32 × Hp))} (hs : fX12_seen_24b h x0 x1 x2 x4 x5 = some x) (hk : (Kx (pX12_seen_24 d x0 x1 x2 rf hf) (kX12_seen rf hf)) x) : Go d mX12_seen 24 [some (.ref x0), some (.int x1), some (.int x2), none, some (.int x4), some (.int x5)] [] h rf hf := by
  unfold fX12_seen_24b at hs
  refine go_iload rfl dX12_seen_24 ?_
  refine go_iconst (v := 1) (by decide) dX12_seen_26 ?_
  refine go_aload_n (k4 := 0) rfl (Or.inr ⟨_, rfl⟩) dX12_seen_27 ?_
  obtain ⟨v4, ev4, hs⟩ := bindS hs
  refine go_gN fl_RX12_83 ev4 dX12_seen_28 ?_
  refine go_iload_n (k4 := 1) rfl dX12_seen_31 ?_
  obtain ⟨v5, ev5, hs⟩ := bindS hs
  refine go_aIi ev5 dX12_seen_32 ?_
  refine go_ishl dX12_seen_33 ?_
  refine go_at 34 rfl ?_
  refine go_icmp_ge (tgt := 64) (by decide) dX12_seen_34 (fun c => ?_) (fun c => ?_)
  · have hs := if_t c hs
    refine go_iload rfl dX12_seen_64 ?_
    obtain rfl := Option.some.inj hs
    obtain ⟨rfl, rfl⟩ := hk
    exact go_iret rfl dX12_seen_66
  · have hs := if_f c hs
    refine go_iload rfl dX12_seen_37 ?_
    refine go_aload_n (k4 := 0) rfl (Or.inr ⟨_, rfl⟩) dX12_seen_39 ?_
    refine go_iload_n (k4 := 1) rfl dX12_seen_40 ?_
    refine go_iload_n (k4 := 2) rfl dX12_seen_41 ?_
    refine go_iload rfl dX12_seen_42 ?_
    obtain ⟨g7, hs⟩ := gO_at hs
    obtain ⟨y6, ey6, hs⟩ := bindS hs
    refine go_V1 (As := [.int x1, .int x2, .int x5]) (st := [.int x4]) g7 rfl rfl (oX12_isSeen (d := d - 1) (by omega) ey6) (by omega) mb_X12_isSeen lm_RX12_428 mi_X12_isSeen (Nat.le_of_ble_eq_true rfl) rfl dX12_seen_44 ?_
    refine go_if_eq (tgt := 54) (by decide) dX12_seen_47 (fun c => ?_) (fun c => ?_)
    · have hs := if_t c hs
      refine go_iconst (v := 0) (by decide) dX12_seen_54 ?_
      exact go_subL (L' := [some (.ref x0), some (.int x1), some (.int x2), none, none, some (.int x5)]) (by simp [subL, va_rf]) (oX12_seen_55 hd hs hk)
    · have hs := if_f c hs
      refine go_iconst (v := 1) (by decide) dX12_seen_50 ?_
      refine go_goto (tgt := 55) (by decide) dX12_seen_51 ?_
      exact go_subL (L' := [some (.ref x0), some (.int x1), some (.int x2), none, none, some (.int x5)]) (by simp [subL, va_rf]) (oX12_seen_55 hd hs hk)
theorem oX12_seen_24 {d : Nat} (hd : 5 ≤ d) {h : Hp} {x0 : Nat} {x1 : Int32} {x2 : Int32} {x4 : Int32} {x5 : Int32} {rf : Option Value} {hf : Hp} {x : (Int32 × Hp)} (hs : fX12_seen_24 h x0 x1 x2 x4 x5 = some x) (hk : (kX12_seen rf hf) x) : Go d mX12_seen 24 [some (.ref x0), some (.int x1), some (.int x2), none, some (.int x4), some (.int x5)] [] h rf hf := by
  unfold fX12_seen_24 at hs
  exact lpw_go (P := pX12_seen_24 d x0 x1 x2 rf hf) (fun s x hs hk => oX12_seen_24b hd hs hk) (x4, x5, h) x hs hk
noncomputable def fX12_seen (h : Hp) (x0 : Nat) (x1 : Int32) (x2 : Int32) : Option (Int32 × Hp) :=
  (sV h 12 x0 0 (.int (0 : Int32))).bind fun h1 =>
  gO h1 12 x0 (
  (fX12_noSeen h1 x0 x1 x2).bind fun y2 =>
  if y2 = 0 then (
    fX12_seen_24 h1 x0 x1 x2 (0 : Int32) (0 : Int32)) else (
    some ((y2, h1))))
theorem oX12_seen_0 {d : Nat} (hd : 5 ≤ d) {h : Hp} {x0 : Nat} {x1 : Int32} {x2 : Int32} {rf : Option Value} {hf : Hp} {x : (Int32 × Hp)} (hs : fX12_seen h x0 x1 x2 = some x) (hk : (kX12_seen rf hf) x) : Go d mX12_seen 0 [some (.ref x0), some (.int x1), some (.int x2), none, none, none] [] h rf hf := by
  unfold fX12_seen at hs
  refine go_aload_n (k4 := 0) rfl (Or.inr ⟨_, rfl⟩) dX12_seen_0 ?_
  refine go_iconst (v := 0) (by decide) dX12_seen_1 ?_
  obtain ⟨h1, eh1, hs⟩ := bindS hs
  refine go_sV fw_RX12_1 eh1 rfl rfl dX12_seen_2 ?_
  refine go_aload_n (k4 := 0) rfl (Or.inr ⟨_, rfl⟩) dX12_seen_5 ?_
  refine go_iload_n (k4 := 1) rfl dX12_seen_6 ?_
  refine go_iload_n (k4 := 2) rfl dX12_seen_7 ?_
  obtain ⟨g3, hs⟩ := gO_at hs
  obtain ⟨y2, ey2, hs⟩ := bindS hs
  refine go_V1 (As := [.int x1, .int x2]) (st := []) g3 rfl rfl (oX12_noSeen (d := d - 1) (by omega) ey2) (by omega) mb_X12_noSeen lm_RX12_425 mi_X12_noSeen (Nat.le_of_ble_eq_true rfl) rfl dX12_seen_8 ?_
  refine go_at 11 rfl ?_
  refine go_istore_n (k4 := 3) (L' := [some (.ref x0), some (.int x1), some (.int x2), some (.int y2), none, none]) (by decide) rfl dX12_seen_11 ?_
  refine go_iload_n (k4 := 3) rfl dX12_seen_12 ?_
  refine go_if_eq (tgt := 18) (by decide) dX12_seen_13 (fun c => ?_) (fun c => ?_)
  · have hs := if_t c hs
    refine go_iconst (v := 0) (by decide) dX12_seen_18 ?_
    refine go_istore (L' := [some (.ref x0), some (.int x1), some (.int x2), some (.int y2), some (.int (0 : Int32)), none]) (by decide) rfl dX12_seen_19 ?_
    refine go_iconst (v := 0) (by decide) dX12_seen_21 ?_
    refine go_istore (L' := [some (.ref x0), some (.int x1), some (.int x2), some (.int y2), some (.int (0 : Int32)), some (.int (0 : Int32))]) (by decide) rfl dX12_seen_22 ?_
    exact go_subL (L' := [some (.ref x0), some (.int x1), some (.int x2), none, some (.int (0 : Int32)), some (.int (0 : Int32))]) (by simp [subL, va_rf]) (oX12_seen_24 hd hs hk)
  · have hs := if_f c hs
    refine go_iload_n (k4 := 3) rfl dX12_seen_16 ?_
    obtain rfl := Option.some.inj hs
    obtain ⟨rfl, rfl⟩ := hk
    exact go_iret rfl dX12_seen_17
theorem oX12_seen {d : Nat} (hd : 5 ≤ d) {h : Hp} {x0 : Nat} {x1 : Int32} {x2 : Int32} {y : (Int32 × Hp)} (hs : fX12_seen h x0 x1 x2 = some y) : Call d mX12_seen [.ref x0, .int x1, .int x2] h (some (.int y.1)) (y.2) := call_of (by decide +kernel) (Nat.le_of_ble_eq_true rfl) (show Go d mX12_seen 0 [some (.ref x0), some (.int x1), some (.int x2), none, none, none] [] h _ _ from go_subL (by simp [subL]) (oX12_seen_0 hd hs ⟨rfl, rfl⟩))
abbrev kX12_seenDry (rf : Option Value) (hf : Hp) : (Int32 × Hp) → Prop := fun y => rf = some (.int y.1) ∧ hf = y.2
abbrev pX12_seenDry_31 (d : Nat) (x0 : Nat) (x1 : Int32) (x2 : Int32) (x3 : Int32) (rf : Option Value) (hf : Hp) : (Int32 × Hp) → Prop := fun s => Go d mX12_seenDry 31 [some (.ref x0), some (.int x1), some (.int x2), some (.int x3), none, some (.int s.1)] [] s.2 rf hf
noncomputable def fX12_seenDry_80 (h : Hp)  : Option (Int32 × Hp) :=
  some (((-1 : Int32), h))
theorem oX12_seenDry_80 {d : Nat} (hd : 5 ≤ d) {h : Hp} {rf : Option Value} {hf : Hp} {x : (Int32 × Hp)} (hs : fX12_seenDry_80 h  = some x) (hk : (kX12_seenDry rf hf) x) : Go d mX12_seenDry 80 [none, none, none, none, none, none] [] h rf hf := by
  unfold fX12_seenDry_80 at hs
  refine go_iconst (v := -1) (by decide) dX12_seenDry_80 ?_
  obtain rfl := Option.some.inj hs
  obtain ⟨rfl, rfl⟩ := hk
  exact go_iret rfl dX12_seenDry_81
noncomputable def fX12_seenDry_65 (h : Hp) (x0 : Nat) (x1 : Int32) (x3 : Int32) (x5 : Int32) : Option (Int32 × Hp) :=
  gO h 12 x0 (
  (fX12_dryIn h x0 x1 x5 x3).bind fun y10 =>
  some ((y10, h)))
theorem oX12_seenDry_65 {d : Nat} (hd : 5 ≤ d) {h : Hp} {x0 : Nat} {x1 : Int32} {x3 : Int32} {x5 : Int32} {rf : Option Value} {hf : Hp} {x : (Int32 × Hp)} (hs : fX12_seenDry_65 h x0 x1 x3 x5 = some x) (hk : (kX12_seenDry rf hf) x) : Go d mX12_seenDry 65 [some (.ref x0), some (.int x1), none, some (.int x3), none, some (.int x5)] [] h rf hf := by
  unfold fX12_seenDry_65 at hs
  refine go_aload_n (k4 := 0) rfl (Or.inr ⟨_, rfl⟩) dX12_seenDry_65 ?_
  refine go_iload_n (k4 := 1) rfl dX12_seenDry_66 ?_
  refine go_iload rfl dX12_seenDry_67 ?_
  refine go_iload_n (k4 := 3) rfl dX12_seenDry_69 ?_
  obtain ⟨g11, hs⟩ := gO_at hs
  obtain ⟨y10, ey10, hs⟩ := bindS hs
  refine go_V1 (As := [.int x1, .int x5, .int x3]) (st := []) g11 rfl rfl (oX12_dryIn (d := d - 1) (by omega) ey10) (by omega) mb_X12_dryIn lm_RX12_422 mi_X12_dryIn (Nat.le_of_ble_eq_true rfl) rfl dX12_seenDry_70 ?_
  obtain rfl := Option.some.inj hs
  obtain ⟨rfl, rfl⟩ := hk
  exact go_iret rfl dX12_seenDry_73
noncomputable def fX12_seenDry_31b (h : Hp) (x0 : Nat) (x1 : Int32) (x2 : Int32) (x3 : Int32) (x5 : Int32) : Option ((Int32 × Hp) ⊕ (Int32 × Hp)) :=
  (gN h 12 x0 39).bind fun v4 =>
  (aI 0 h v4 x1).bind fun v5 =>
  if ((1 : Int32) <<< (v5 &&& 31)) ≤ x5 then (
  (fX12_seenDry_80 h ).map (fun q => .inr q)) else (
    (gN h 12 x0 39).bind fun v6 =>
    (aI 0 h v6 x1).bind fun v7 =>
    if v7 ≤ x3 then (
    (fX12_seenDry_80 h ).map (fun q => .inr q)) else (
      gO h 12 x0 (
      (fX12_isSeen h x0 x1 x2 x5).bind fun y8 =>
      if y8.1 = 0 then (
        some (.inl ((x5 + Int32.ofInt 1), y8.2))) else (
      (fX12_seenDry_65 y8.2 x0 x1 x3 x5).map (fun q => .inr q)))))
noncomputable def fX12_seenDry_31 (h : Hp) (x0 : Nat) (x1 : Int32) (x2 : Int32) (x3 : Int32) (x5 : Int32) : Option (Int32 × Hp) := lpw (σ := (Int32 × Hp)) (fun s => fX12_seenDry_31b s.2 x0 x1 x2 x3 s.1) (x5, h)
theorem oX12_seenDry_31b {d : Nat} (hd : 5 ≤ d) {h : Hp} {x0 : Nat} {x1 : Int32} {x2 : Int32} {x3 : Int32} {x5 : Int32} {rf : Option Value} {hf : Hp} {x : ((Int32 × Hp) ⊕ (Int32 × Hp))} (hs : fX12_seenDry_31b h x0 x1 x2 x3 x5 = some x) (hk : (Kx (pX12_seenDry_31 d x0 x1 x2 x3 rf hf) (kX12_seenDry rf hf)) x) : Go d mX12_seenDry 31 [some (.ref x0), some (.int x1), some (.int x2), some (.int x3), none, some (.int x5)] [] h rf hf := by
  unfold fX12_seenDry_31b at hs
  refine go_iload rfl dX12_seenDry_31 ?_
  refine go_iconst (v := 1) (by decide) dX12_seenDry_33 ?_
  refine go_aload_n (k4 := 0) rfl (Or.inr ⟨_, rfl⟩) dX12_seenDry_34 ?_
  obtain ⟨v4, ev4, hs⟩ := bindS hs
  refine go_gN fl_RX12_83 ev4 dX12_seenDry_35 ?_
  refine go_iload_n (k4 := 1) rfl dX12_seenDry_38 ?_
  obtain ⟨v5, ev5, hs⟩ := bindS hs
  refine go_aIi ev5 dX12_seenDry_39 ?_
  refine go_ishl dX12_seenDry_40 ?_
  refine go_at 41 rfl ?_
  refine go_icmp_ge (tgt := 80) (by decide) dX12_seenDry_41 (fun c => ?_) (fun c => ?_)
  · have hs := if_t c hs
    obtain ⟨q, hs2, hq⟩ := mapS hs
    clear hs
    subst hq
    exact go_subL (L' := [none, none, none, none, none, none]) (by simp [subL, va_rf]) (oX12_seenDry_80 hd hs2 hk)
  · have hs := if_f c hs
    refine go_iload_n (k4 := 3) rfl dX12_seenDry_44 ?_
    refine go_aload_n (k4 := 0) rfl (Or.inr ⟨_, rfl⟩) dX12_seenDry_45 ?_
    obtain ⟨v6, ev6, hs⟩ := bindS hs
    refine go_gN fl_RX12_83 ev6 dX12_seenDry_46 ?_
    refine go_iload_n (k4 := 1) rfl dX12_seenDry_49 ?_
    obtain ⟨v7, ev7, hs⟩ := bindS hs
    refine go_aIi ev7 dX12_seenDry_50 ?_
    refine go_icmp_ge (tgt := 80) (by decide) dX12_seenDry_51 (fun c => ?_) (fun c => ?_)
    · have hs := if_t c hs
      obtain ⟨q, hs2, hq⟩ := mapS hs
      clear hs
      subst hq
      exact go_subL (L' := [none, none, none, none, none, none]) (by simp [subL, va_rf]) (oX12_seenDry_80 hd hs2 hk)
    · have hs := if_f c hs
      refine go_aload_n (k4 := 0) rfl (Or.inr ⟨_, rfl⟩) dX12_seenDry_54 ?_
      refine go_iload_n (k4 := 1) rfl dX12_seenDry_55 ?_
      refine go_iload_n (k4 := 2) rfl dX12_seenDry_56 ?_
      refine go_iload rfl dX12_seenDry_57 ?_
      obtain ⟨g9, hs⟩ := gO_at hs
      obtain ⟨y8, ey8, hs⟩ := bindS hs
      refine go_V1 (As := [.int x1, .int x2, .int x5]) (st := []) g9 rfl rfl (oX12_isSeen (d := d - 1) (by omega) ey8) (by omega) mb_X12_isSeen lm_RX12_428 mi_X12_isSeen (Nat.le_of_ble_eq_true rfl) rfl dX12_seenDry_59 ?_
      refine go_if_eq (tgt := 74) (by decide) dX12_seenDry_62 (fun c => ?_) (fun c => ?_)
      · have hs := if_t c hs
        refine go_iinc (L' := [some (.ref x0), some (.int x1), some (.int x2), some (.int x3), none, some (.int (x5 + Int32.ofInt 1))]) rfl (by decide) rfl rfl dX12_seenDry_74 ?_
        refine go_goto (tgt := 31) (by decide) dX12_seenDry_77 ?_
        obtain rfl := Option.some.inj hs
        exact go_subL (L' := [some (.ref x0), some (.int x1), some (.int x2), some (.int x3), none, some (.int (x5 + Int32.ofInt 1))]) (by simp [subL, va_rf]) hk
      · have hs := if_f c hs
        obtain ⟨q, hs2, hq⟩ := mapS hs
        clear hs
        subst hq
        exact go_subL (L' := [some (.ref x0), some (.int x1), none, some (.int x3), none, some (.int x5)]) (by simp [subL, va_rf]) (oX12_seenDry_65 hd hs2 hk)
theorem oX12_seenDry_31 {d : Nat} (hd : 5 ≤ d) {h : Hp} {x0 : Nat} {x1 : Int32} {x2 : Int32} {x3 : Int32} {x5 : Int32} {rf : Option Value} {hf : Hp} {x : (Int32 × Hp)} (hs : fX12_seenDry_31 h x0 x1 x2 x3 x5 = some x) (hk : (kX12_seenDry rf hf) x) : Go d mX12_seenDry 31 [some (.ref x0), some (.int x1), some (.int x2), some (.int x3), none, some (.int x5)] [] h rf hf := by
  unfold fX12_seenDry_31 at hs
  exact lpw_go (P := pX12_seenDry_31 d x0 x1 x2 x3 rf hf) (fun s x hs hk => oX12_seenDry_31b hd hs hk) (x5, h) x hs hk
noncomputable def fX12_seenDry (h : Hp) (x0 : Nat) (x1 : Int32) (x2 : Int32) (x3 : Int32) : Option (Int32 × Hp) :=
  (sV h 12 x0 0 (.int (0 : Int32))).bind fun h1 =>
  gO h1 12 x0 (
  (fX12_noSeen h1 x0 x1 x2).bind fun y2 =>
  if y2 = 0 then (
    if 0 ≤ x3 then (
      fX12_seenDry_31 h1 x0 x1 x2 x3 (0 : Int32)) else (
      some (((-3 : Int32), h1)))) else (
    some ((y2, h1))))
theorem oX12_seenDry_0 {d : Nat} (hd : 5 ≤ d) {h : Hp} {x0 : Nat} {x1 : Int32} {x2 : Int32} {x3 : Int32} {rf : Option Value} {hf : Hp} {x : (Int32 × Hp)} (hs : fX12_seenDry h x0 x1 x2 x3 = some x) (hk : (kX12_seenDry rf hf) x) : Go d mX12_seenDry 0 [some (.ref x0), some (.int x1), some (.int x2), some (.int x3), none, none] [] h rf hf := by
  unfold fX12_seenDry at hs
  refine go_aload_n (k4 := 0) rfl (Or.inr ⟨_, rfl⟩) dX12_seenDry_0 ?_
  refine go_iconst (v := 0) (by decide) dX12_seenDry_1 ?_
  obtain ⟨h1, eh1, hs⟩ := bindS hs
  refine go_sV fw_RX12_1 eh1 rfl rfl dX12_seenDry_2 ?_
  refine go_aload_n (k4 := 0) rfl (Or.inr ⟨_, rfl⟩) dX12_seenDry_5 ?_
  refine go_iload_n (k4 := 1) rfl dX12_seenDry_6 ?_
  refine go_iload_n (k4 := 2) rfl dX12_seenDry_7 ?_
  obtain ⟨g3, hs⟩ := gO_at hs
  obtain ⟨y2, ey2, hs⟩ := bindS hs
  refine go_V1 (As := [.int x1, .int x2]) (st := []) g3 rfl rfl (oX12_noSeen (d := d - 1) (by omega) ey2) (by omega) mb_X12_noSeen lm_RX12_425 mi_X12_noSeen (Nat.le_of_ble_eq_true rfl) rfl dX12_seenDry_8 ?_
  refine go_at 11 rfl ?_
  refine go_istore (L' := [some (.ref x0), some (.int x1), some (.int x2), some (.int x3), some (.int y2), none]) (by decide) rfl dX12_seenDry_11 ?_
  refine go_iload rfl dX12_seenDry_13 ?_
  refine go_if_eq (tgt := 21) (by decide) dX12_seenDry_15 (fun c => ?_) (fun c => ?_)
  · have hs := if_t c hs
    refine go_iload_n (k4 := 3) rfl dX12_seenDry_21 ?_
    refine go_if_ge (tgt := 28) (by decide) dX12_seenDry_22 (fun c => ?_) (fun c => ?_)
    · have hs := if_t c hs
      refine go_iconst (v := 0) (by decide) dX12_seenDry_28 ?_
      refine go_istore (L' := [some (.ref x0), some (.int x1), some (.int x2), some (.int x3), some (.int y2), some (.int (0 : Int32))]) (by decide) rfl dX12_seenDry_29 ?_
      exact go_subL (L' := [some (.ref x0), some (.int x1), some (.int x2), some (.int x3), none, some (.int (0 : Int32))]) (by simp [subL, va_rf]) (oX12_seenDry_31 hd hs hk)
    · have hs := if_f c hs
      refine go_bipush (v := -3) (by decide) dX12_seenDry_25 ?_
      obtain rfl := Option.some.inj hs
      obtain ⟨rfl, rfl⟩ := hk
      exact go_iret rfl dX12_seenDry_27
  · have hs := if_f c hs
    refine go_iload rfl dX12_seenDry_18 ?_
    obtain rfl := Option.some.inj hs
    obtain ⟨rfl, rfl⟩ := hk
    exact go_iret rfl dX12_seenDry_20
theorem oX12_seenDry {d : Nat} (hd : 5 ≤ d) {h : Hp} {x0 : Nat} {x1 : Int32} {x2 : Int32} {x3 : Int32} {y : (Int32 × Hp)} (hs : fX12_seenDry h x0 x1 x2 x3 = some y) : Call d mX12_seenDry [.ref x0, .int x1, .int x2, .int x3] h (some (.int y.1)) (y.2) := call_of (by decide +kernel) (Nat.le_of_ble_eq_true rfl) (show Go d mX12_seenDry 0 [some (.ref x0), some (.int x1), some (.int x2), some (.int x3), none, none] [] h _ _ from go_subL (by simp [subL]) (oX12_seenDry_0 hd hs ⟨rfl, rfl⟩))
