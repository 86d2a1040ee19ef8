/-! methods: their texts as functions, and that the machine does just that -/
abbrev kX12_image (rf : Option Value) (hf : Hp) : (Int32 × Hp) → Prop := fun y => rf = some (.int y.1) ∧ hf = y.2
abbrev pX12_image_20 (d : Nat) (x0 : Nat) (x1 : Int32) (rf : Option Value) (hf : Hp) : (Int32 × Hp) → Prop := fun s => Go d mX12_image 20 [some (.ref x0), some (.int x1), some (.int s.1)] [] s.2 rf hf
noncomputable def fX12_image_53 (h : Hp) (x0 : Nat) (x1 : Int32) : Option (Int32 × Hp) :=
  (gN h 12 x0 2).bind fun v3 =>
  (wI 3 h v3 x1 (1 : Int32)).bind fun h4 =>
  some (((0 : Int32), h4))
theorem oX12_image_53 {d : Nat} (hd : 1 ≤ d) {h : Hp} {x0 : Nat} {x1 : Int32} {rf : Option Value} {hf : Hp} {x : (Int32 × Hp)} (hs : fX12_image_53 h x0 x1 = some x) (hk : (kX12_image rf hf) x) : Go d mX12_image 53 [some (.ref x0), some (.int x1), none] [] h rf hf := by
  unfold fX12_image_53 at hs
  refine go_aload_n (k4 := 0) rfl (Or.inr ⟨_, rfl⟩) dX12_image_53 ?_
  obtain ⟨v3, ev3, hs⟩ := bindS hs
  refine go_gN fl_RX12_17 ev3 dX12_image_54 ?_
  refine go_iload_n (k4 := 1) rfl dX12_image_57 ?_
  refine go_iconst (v := 1) (by decide) dX12_image_58 ?_
  obtain ⟨h4, eh4, hs⟩ := bindS hs
  refine go_wIz eh4 dX12_image_59 ?_
  refine go_iconst (v := 0) (by decide) dX12_image_60 ?_
  obtain rfl := Option.some.inj hs
  obtain ⟨rfl, rfl⟩ := hk
  exact go_iret rfl dX12_image_61
noncomputable def fX12_image_20b (h : Hp) (x0 : Nat) (x1 : Int32) (x2 : Int32) : Option ((Int32 × Hp) ⊕ (Int32 × Hp)) :=
  if (1038 : Int32) ≤ x2 then (
  (fX12_image_53 h x0 x1).map (fun q => .inr q)) else (
    (gN h 12 x0 1).bind fun v5 =>
    (gN h 12 x0 1).bind fun v6 =>
    (aI 0 h v6 x2).bind fun v7 =>
    (wI 0 h v5 (((1038 : Int32) * (x1 + (1 : Int32))) + x2) v7).bind fun h8 =>
    some (.inl ((x2 + Int32.ofInt 1), h8)))
noncomputable def fX12_image_20 (h : Hp) (x0 : Nat) (x1 : Int32) (x2 : Int32) : Option (Int32 × Hp) := lpw (σ := (Int32 × Hp)) (fun s => fX12_image_20b s.2 x0 x1 s.1) (x2, h)
theorem oX12_image_20b {d : Nat} (hd : 1 ≤ d) {h : Hp} {x0 : Nat} {x1 : Int32} {x2 : Int32} {rf : Option Value} {hf : Hp} {x : ((Int32 × Hp) ⊕ (Int32 × Hp))} (hs : fX12_image_20b h x0 x1 x2 = some x) (hk : (Kx (pX12_image_20 d x0 x1 rf hf) (kX12_image rf hf)) x) : Go d mX12_image 20 [some (.ref x0), some (.int x1), some (.int x2)] [] h rf hf := by
  unfold fX12_image_20b at hs
  refine go_iload_n (k4 := 2) rfl dX12_image_20 ?_
  refine go_sipush (v := 1038) (by decide) dX12_image_21 ?_
  refine go_icmp_ge (tgt := 53) (by decide) dX12_image_24 (fun c => ?_) (fun c => ?_)
  · have hs := if_t c hs
    obtain ⟨q, hs2, hq⟩ := mapS hs
    clear hs
    subst hq
    exact go_subL (L' := [some (.ref x0), some (.int x1), none]) (by simp [subL, va_rf]) (oX12_image_53 hd hs2 hk)
  · have hs := if_f c hs
    refine go_aload_n (k4 := 0) rfl (Or.inr ⟨_, rfl⟩) dX12_image_27 ?_
    obtain ⟨v5, ev5, hs⟩ := bindS hs
    refine go_gN fl_RX12_13 ev5 dX12_image_28 ?_
    refine go_sipush (v := 1038) (by decide) dX12_image_31 ?_
    refine go_iload_n (k4 := 1) rfl dX12_image_34 ?_
    refine go_iconst (v := 1) (by decide) dX12_image_35 ?_
    refine go_iadd dX12_image_36 ?_
    refine go_imul dX12_image_37 ?_
    refine go_at 38 rfl ?_
    refine go_iload_n (k4 := 2) rfl dX12_image_38 ?_
    refine go_iadd dX12_image_39 ?_
    refine go_aload_n (k4 := 0) rfl (Or.inr ⟨_, rfl⟩) dX12_image_40 ?_
    obtain ⟨v6, ev6, hs⟩ := bindS hs
    refine go_gN fl_RX12_13 ev6 dX12_image_41 ?_
    refine go_iload_n (k4 := 2) rfl dX12_image_44 ?_
    obtain ⟨v7, ev7, hs⟩ := bindS hs
    refine go_aIi ev7 dX12_image_45 ?_
    obtain ⟨h8, eh8, hs⟩ := bindS hs
    refine go_wIi eh8 dX12_image_46 ?_
    refine go_iinc (L' := [some (.ref x0), some (.int x1), some (.int (x2 + Int32.ofInt 1))]) rfl (by decide) rfl rfl dX12_image_47 ?_
    refine go_at 50 rfl ?_
    refine go_goto (tgt := 20) (by decide) dX12_image_50 ?_
    obtain rfl := Option.some.inj hs
    exact go_subL (L' := [some (.ref x0), some (.int x1), some (.int (x2 + Int32.ofInt 1))]) (by simp [subL, va_rf]) hk
theorem oX12_image_20 {d : Nat} (hd : 1 ≤ d) {h : Hp} {x0 : Nat} {x1 : Int32} {x2 : Int32} {rf : Option Value} {hf : Hp} {x : (Int32 × Hp)} (hs : fX12_image_20 h x0 x1 x2 = some x) (hk : (kX12_image rf hf) x) : Go d mX12_image 20 [some (.ref x0), some (.int x1), some (.int x2)] [] h rf hf := by
  unfold fX12_image_20 at hs
  exact lpw_go (P := pX12_image_20 d x0 x1 rf hf) (fun s x hs hk => oX12_image_20b hd hs hk) (x2, h) x hs hk
noncomputable def fX12_image (h : Hp) (x0 : Nat) (x1 : Int32) : Option (Int32 × Hp) :=
  (sV h 12 x0 0 (.int (0 : Int32))).bind fun h1 =>
  (fX12_within h1 (x1.toInt64) (0 : Int64) (1 : Int64)).bind fun y2 =>
  if y2 = 0 then (
    some (((-2 : Int32), h1))) else (
    fX12_image_20 h1 x0 x1 (0 : Int32))
theorem oX12_image_0 {d : Nat} (hd : 1 ≤ d) {h : Hp} {x0 : Nat} {x1 : Int32} {rf : Option Value} {hf : Hp} {x : (Int32 × Hp)} (hs : fX12_image h x0 x1 = some x) (hk : (kX12_image rf hf) x) : Go d mX12_image 0 [some (.ref x0), some (.int x1), none] [] h rf hf := by
  unfold fX12_image at hs
  refine go_aload_n (k4 := 0) rfl (Or.inr ⟨_, rfl⟩) dX12_image_0 ?_
  refine go_iconst (v := 0) (by decide) dX12_image_1 ?_
  obtain ⟨h1, eh1, hs⟩ := bindS hs
  refine go_sV fw_RX12_1 eh1 rfl rfl dX12_image_2 ?_
  refine go_iload_n (k4 := 1) rfl dX12_image_5 ?_
  refine go_i2l dX12_image_6 ?_
  refine go_lconst (v := 0) (by decide) dX12_image_7 ?_
  refine go_lconst (v := 1) (by decide) dX12_image_8 ?_
  refine go_at 9 rfl ?_
  obtain ⟨y2, ey2, hs⟩ := bindS hs
  refine go_S1 (As := [.long (x1.toInt64), .long (0 : Int64), .long (1 : Int64)]) (st := []) (oX12_within (d := d - 1) (by omega) ey2) (by omega) mb_X12_within lm_RX12_155 ms_X12_within (Nat.le_of_ble_eq_true rfl) rfl dX12_image_9 ?_
  refine go_if_ne (tgt := 18) (by decide) dX12_image_12 (fun c => ?_) (fun c => ?_)
  · have hs := if_f c hs
    refine go_iconst (v := 0) (by decide) dX12_image_18 ?_
    refine go_istore_n (k4 := 2) (L' := [some (.ref x0), some (.int x1), some (.int (0 : Int32))]) (by decide) rfl dX12_image_19 ?_
    exact go_subL (L' := [some (.ref x0), some (.int x1), some (.int (0 : Int32))]) (by simp [subL, va_rf]) (oX12_image_20 hd hs hk)
  · have hs := if_t c hs
    refine go_bipush (v := -2) (by decide) dX12_image_15 ?_
    obtain rfl := Option.some.inj hs
    obtain ⟨rfl, rfl⟩ := hk
    exact go_iret rfl dX12_image_17
theorem oX12_image {d : Nat} (hd : 1 ≤ d) {h : Hp} {x0 : Nat} {x1 : Int32} {y : (Int32 × Hp)} (hs : fX12_image h x0 x1 = some y) : Call d mX12_image [.ref x0, .int x1] h (some (.int y.1)) (y.2) := call_of (by decide +kernel) (Nat.le_of_ble_eq_true rfl) (show Go d mX12_image 0 [some (.ref x0), some (.int x1), none] [] h _ _ from go_subL (by simp [subL]) (oX12_image_0 hd hs ⟨rfl, rfl⟩))
abbrev kX12_restore (rf : Option Value) (hf : Hp) : (Int32 × Hp) → Prop := fun y => rf = some (.int y.1) ∧ hf = y.2
abbrev pX12_restore_32 (d : Nat) (x0 : Nat) (x1 : Int32) (rf : Option Value) (hf : Hp) : (Int32 × Hp) → Prop := fun s => Go d mX12_restore 32 [some (.ref x0), some (.int x1), some (.int s.1)] [] s.2 rf hf
noncomputable def fX12_restore_65 (h : Hp) (x0 : Nat) : Option (Int32 × Hp) :=
  (gN h 12 x0 1).bind fun v5 =>
  (wI 0 h v5 (26 : Int32) (0 : Int32)).bind fun h6 =>
  some (((0 : Int32), h6))
theorem oX12_restore_65 {d : Nat} (hd : 1 ≤ d) {h : Hp} {x0 : Nat} {rf : Option Value} {hf : Hp} {x : (Int32 × Hp)} (hs : fX12_restore_65 h x0 = some x) (hk : (kX12_restore rf hf) x) : Go d mX12_restore 65 [some (.ref x0), none, none] [] h rf hf := by
  unfold fX12_restore_65 at hs
  refine go_aload_n (k4 := 0) rfl (Or.inr ⟨_, rfl⟩) dX12_restore_65 ?_
  obtain ⟨v5, ev5, hs⟩ := bindS hs
  refine go_gN fl_RX12_13 ev5 dX12_restore_66 ?_
  refine go_bipush (v := 26) (by decide) dX12_restore_69 ?_
  refine go_iconst (v := 0) (by decide) dX12_restore_71 ?_
  obtain ⟨h6, eh6, hs⟩ := bindS hs
  refine go_wIi eh6 dX12_restore_72 ?_
  refine go_iconst (v := 0) (by decide) dX12_restore_73 ?_
  obtain rfl := Option.some.inj hs
  obtain ⟨rfl, rfl⟩ := hk
  exact go_iret rfl dX12_restore_74
noncomputable def fX12_restore_32b (h : Hp) (x0 : Nat) (x1 : Int32) (x2 : Int32) : Option ((Int32 × Hp) ⊕ (Int32 × Hp)) :=
  if (1038 : Int32) ≤ x2 then (
  (fX12_restore_65 h x0).map (fun q => .inr q)) else (
    (gN h 12 x0 1).bind fun v7 =>
    (gN h 12 x0 1).bind fun v8 =>
    (aI 0 h v8 (((1038 : Int32) * (x1 + (1 : Int32))) + x2)).bind fun v9 =>
    (wI 0 h v7 x2 v9).bind fun h10 =>
    some (.inl ((x2 + Int32.ofInt 1), h10)))
noncomputable def fX12_restore_32 (h : Hp) (x0 : Nat) (x1 : Int32) (x2 : Int32) : Option (Int32 × Hp) := lpw (σ := (Int32 × Hp)) (fun s => fX12_restore_32b s.2 x0 x1 s.1) (x2, h)
theorem oX12_restore_32b {d : Nat} (hd : 1 ≤ d) {h : Hp} {x0 : Nat} {x1 : Int32} {x2 : Int32} {rf : Option Value} {hf : Hp} {x : ((Int32 × Hp) ⊕ (Int32 × Hp))} (hs : fX12_restore_32b h x0 x1 x2 = some x) (hk : (Kx (pX12_restore_32 d x0 x1 rf hf) (kX12_restore rf hf)) x) : Go d mX12_restore 32 [some (.ref x0), some (.int x1), some (.int x2)] [] h rf hf := by
  unfold fX12_restore_32b at hs
  refine go_iload_n (k4 := 2) rfl dX12_restore_32 ?_
  refine go_sipush (v := 1038) (by decide) dX12_restore_33 ?_
  refine go_icmp_ge (tgt := 65) (by decide) dX12_restore_36 (fun c => ?_) (fun c => ?_)
  · have hs := if_t c hs
    obtain ⟨q, hs2, hq⟩ := mapS hs
    clear hs
    subst hq
    exact go_subL (L' := [some (.ref x0), none, none]) (by simp [subL, va_rf]) (oX12_restore_65 hd hs2 hk)
  · have hs := if_f c hs
    refine go_aload_n (k4 := 0) rfl (Or.inr ⟨_, rfl⟩) dX12_restore_39 ?_
    obtain ⟨v7, ev7, hs⟩ := bindS hs
    refine go_gN fl_RX12_13 ev7 dX12_restore_40 ?_
    refine go_iload_n (k4 := 2) rfl dX12_restore_43 ?_
    refine go_aload_n (k4 := 0) rfl (Or.inr ⟨_, rfl⟩) dX12_restore_44 ?_
    obtain ⟨v8, ev8, hs⟩ := bindS hs
    refine go_gN fl_RX12_13 ev8 dX12_restore_45 ?_
    refine go_sipush (v := 1038) (by decide) dX12_restore_48 ?_
    refine go_iload_n (k4 := 1) rfl dX12_restore_51 ?_
    refine go_at 52 rfl ?_
    refine go_iconst (v := 1) (by decide) dX12_restore_52 ?_
    refine go_iadd dX12_restore_53 ?_
    refine go_imul dX12_restore_54 ?_
    refine go_iload_n (k4 := 2) rfl dX12_restore_55 ?_
    refine go_iadd dX12_restore_56 ?_
    obtain ⟨v9, ev9, hs⟩ := bindS hs
    refine go_aIi ev9 dX12_restore_57 ?_
    obtain ⟨h10, eh10, hs⟩ := bindS hs
    refine go_wIi eh10 dX12_restore_58 ?_
    refine go_iinc (L' := [some (.ref x0), some (.int x1), some (.int (x2 + Int32.ofInt 1))]) rfl (by decide) rfl rfl dX12_restore_59 ?_
    refine go_at 62 rfl ?_
    refine go_goto (tgt := 32) (by decide) dX12_restore_62 ?_
    obtain rfl := Option.some.inj hs
    exact go_subL (L' := [some (.ref x0), some (.int x1), some (.int (x2 + Int32.ofInt 1))]) (by simp [subL, va_rf]) hk
theorem oX12_restore_32 {d : Nat} (hd : 1 ≤ d) {h : Hp} {x0 : Nat} {x1 : Int32} {x2 : Int32} {rf : Option Value} {hf : Hp} {x : (Int32 × Hp)} (hs : fX12_restore_32 h x0 x1 x2 = some x) (hk : (kX12_restore rf hf) x) : Go d mX12_restore 32 [some (.ref x0), some (.int x1), some (.int x2)] [] h rf hf := by
  unfold fX12_restore_32 at hs
  exact lpw_go (P := pX12_restore_32 d x0 x1 rf hf) (fun s x hs hk => oX12_restore_32b hd hs hk) (x2, h) x hs hk
noncomputable def fX12_restore (h : Hp) (x0 : Nat) (x1 : Int32) : Option (Int32 × Hp) :=
  (sV h 12 x0 0 (.int (0 : Int32))).bind fun h1 =>
  (fX12_within h1 (x1.toInt64) (0 : Int64) (1 : Int64)).bind fun y2 =>
  if y2 = 0 then (
    some (((-2 : Int32), h1))) else (
    (gN h1 12 x0 2).bind fun v3 =>
    (aI 3 h1 v3 x1).bind fun v4 =>
    if v4 = 0 then (
      some (((-5 : Int32), h1))) else (
      fX12_restore_32 h1 x0 x1 (0 : Int32)))
theorem oX12_restore_0 {d : Nat} (hd : 1 ≤ d) {h : Hp} {x0 : Nat} {x1 : Int32} {rf : Option Value} {hf : Hp} {x : (Int32 × Hp)} (hs : fX12_restore h x0 x1 = some x) (hk : (kX12_restore rf hf) x) : Go d mX12_restore 0 [some (.ref x0), some (.int x1), none] [] h rf hf := by
  unfold fX12_restore at hs
  refine go_aload_n (k4 := 0) rfl (Or.inr ⟨_, rfl⟩) dX12_restore_0 ?_
  refine go_iconst (v := 0) (by decide) dX12_restore_1 ?_
  obtain ⟨h1, eh1, hs⟩ := bindS hs
  refine go_sV fw_RX12_1 eh1 rfl rfl dX12_restore_2 ?_
  refine go_iload_n (k4 := 1) rfl dX12_restore_5 ?_
  refine go_i2l dX12_restore_6 ?_
  refine go_lconst (v := 0) (by decide) dX12_restore_7 ?_
  refine go_lconst (v := 1) (by decide) dX12_restore_8 ?_
  refine go_at 9 rfl ?_
  obtain ⟨y2, ey2, hs⟩ := bindS hs
  refine go_S1 (As := [.long (x1.toInt64), .long (0 : Int64), .long (1 : Int64)]) (st := []) (oX12_within (d := d - 1) (by omega) ey2) (by omega) mb_X12_within lm_RX12_155 ms_X12_within (Nat.le_of_ble_eq_true rfl) rfl dX12_restore_9 ?_
  refine go_if_ne (tgt := 18) (by decide) dX12_restore_12 (fun c => ?_) (fun c => ?_)
  · have hs := if_f c hs
    refine go_aload_n (k4 := 0) rfl (Or.inr ⟨_, rfl⟩) dX12_restore_18 ?_
    obtain ⟨v3, ev3, hs⟩ := bindS hs
    refine go_gN fl_RX12_17 ev3 dX12_restore_19 ?_
    refine go_iload_n (k4 := 1) rfl dX12_restore_22 ?_
    obtain ⟨v4, ev4, hs⟩ := bindS hs
    refine go_aIz ev4 dX12_restore_23 ?_
    refine go_if_ne (tgt := 30) (by decide) dX12_restore_24 (fun c => ?_) (fun c => ?_)
    · have hs := if_f c hs
      refine go_iconst (v := 0) (by decide) dX12_restore_30 ?_
      refine go_istore_n (k4 := 2) (L' := [some (.ref x0), some (.int x1), some (.int (0 : Int32))]) (by decide) rfl dX12_restore_31 ?_
      exact go_subL (L' := [some (.ref x0), some (.int x1), some (.int (0 : Int32))]) (by simp [subL, va_rf]) (oX12_restore_32 hd hs hk)
    · have hs := if_t c hs
      refine go_bipush (v := -5) (by decide) dX12_restore_27 ?_
      obtain rfl := Option.some.inj hs
      obtain ⟨rfl, rfl⟩ := hk
      exact go_iret rfl dX12_restore_29
  · have hs := if_t c hs
    refine go_bipush (v := -2) (by decide) dX12_restore_15 ?_
    obtain rfl := Option.some.inj hs
    obtain ⟨rfl, rfl⟩ := hk
    exact go_iret rfl dX12_restore_17
theorem oX12_restore {d : Nat} (hd : 1 ≤ d) {h : Hp} {x0 : Nat} {x1 : Int32} {y : (Int32 × Hp)} (hs : fX12_restore h x0 x1 = some y) : Call d mX12_restore [.ref x0, .int x1] h (some (.int y.1)) (y.2) := call_of (by decide +kernel) (Nat.le_of_ble_eq_true rfl) (show Go d mX12_restore 0 [some (.ref x0), some (.int x1), none] [] h _ _ from go_subL (by simp [subL]) (oX12_restore_0 hd hs ⟨rfl, rfl⟩))
abbrev kX12_count (rf : Option Value) (hf : Hp) : (Int32 × Hp) → Prop := fun y => rf = some (.int y.1) ∧ hf = y.2
noncomputable def fX12_count (h : Hp) (x0 : Nat) (x1 : Int32) : Option (Int32 × Hp) :=
  (sV h 12 x0 0 (.int (0 : Int32))).bind fun h1 =>
  if x1 = 0 then (
    (gN h1 12 x0 1).bind fun v2 =>
    (aI 0 h1 v2 (1 : Int32)).bind fun v3 =>
    some ((v3, h1))) else (
if x1 = 1 then (
    (gN h1 12 x0 1).bind fun v4 =>
    (aI 0 h1 v4 (2 : Int32)).bind fun v5 =>
    some ((v5, h1))) else (
if x1 = 2 then (
    gO h1 12 x0 (
    (fX12_standNow h1 x0).bind fun y6 =>
    gO h1 12 x0 (
    (fX12_metIn h1 x0 y6).bind fun y8 =>
    some ((y8, h1))))) else (
if x1 = 3 then (
    gO h1 12 x0 (
    (fX12_standNow h1 x0).bind fun y10 =>
    gO h1 12 x0 (
    (fX12_gapsIn h1 x0 y10).bind fun y12 =>
    some ((y12, h1))))) else (
if x1 = 4 then (
    (gN h1 12 x0 1).bind fun v14 =>
    (aI 0 h1 v14 (23 : Int32)).bind fun v15 =>
    some ((v15, h1))) else (
if x1 = 5 then (
    (gN h1 12 x0 1).bind fun v16 =>
    (aI 0 h1 v16 (24 : Int32)).bind fun v17 =>
    some ((v17, h1))) else (
if x1 = 6 then (
    (gN h1 12 x0 1).bind fun v18 =>
    (aI 0 h1 v18 (25 : Int32)).bind fun v19 =>
    some ((v19, h1))) else (
if x1 = 7 then (
    (gN h1 12 x0 1).bind fun v20 =>
    (aI 0 h1 v20 (26 : Int32)).bind fun v21 =>
    some ((v21, h1))) else (
if x1 = 8 then (
    (gI h1 12 x0 5).bind fun v22 =>
    some ((v22, h1))) else (
if x1 = 9 then (
    (gN h1 12 x0 1).bind fun v23 =>
    (aI 0 h1 v23 (0 : Int32)).bind fun v24 =>
    some ((v24, h1))) else (
    some (((-1 : Int32), h1))))))))))))
theorem oX12_count_0 {d : Nat} (hd : 2 ≤ d) {h : Hp} {x0 : Nat} {x1 : Int32} {rf : Option Value} {hf : Hp} {x : (Int32 × Hp)} (hs : fX12_count h x0 x1 = some x) (hk : (kX12_count rf hf) x) : Go d mX12_count 0 [some (.ref x0), some (.int x1)] [] h rf hf := by
  unfold fX12_count at hs
  refine go_aload_n (k4 := 0) rfl (Or.inr ⟨_, rfl⟩) dX12_count_0 ?_
  refine go_iconst (v := 0) (by decide) dX12_count_1 ?_
  obtain ⟨h1, eh1, hs⟩ := bindS hs
  refine go_sV fw_RX12_1 eh1 rfl rfl dX12_count_2 ?_
  refine go_iload_n (k4 := 1) rfl dX12_count_5 ?_
  by_cases c0 : x1 = 0
  · have hs := if_t c0 hs
    refine go_tableIn (off := 54) (tgt := 60) (by rw [c0]; decide) (by rw [c0]; decide) (by rw [c0]; rfl) (by decide) dX12_count_6 ?_
    refine go_aload_n (k4 := 0) rfl (Or.inr ⟨_, rfl⟩) dX12_count_60 ?_
    obtain ⟨v2, ev2, hs⟩ := bindS hs
    refine go_gN fl_RX12_13 ev2 dX12_count_61 ?_
    refine go_iconst (v := 1) (by decide) dX12_count_64 ?_
    obtain ⟨v3, ev3, hs⟩ := bindS hs
    refine go_aIi ev3 dX12_count_65 ?_
    obtain rfl := Option.some.inj hs
    obtain ⟨rfl, rfl⟩ := hk
    exact go_iret rfl dX12_count_66
  · have hs := if_f c0 hs
    by_cases c1 : x1 = 1
    · have hs := if_t c1 hs
      refine go_tableIn (off := 61) (tgt := 67) (by rw [c1]; decide) (by rw [c1]; decide) (by rw [c1]; rfl) (by decide) dX12_count_6 ?_
      refine go_aload_n (k4 := 0) rfl (Or.inr ⟨_, rfl⟩) dX12_count_67 ?_
      obtain ⟨v4, ev4, hs⟩ := bindS hs
      refine go_gN fl_RX12_13 ev4 dX12_count_68 ?_
      refine go_iconst (v := 2) (by decide) dX12_count_71 ?_
      obtain ⟨v5, ev5, hs⟩ := bindS hs
      refine go_aIi ev5 dX12_count_72 ?_
      obtain rfl := Option.some.inj hs
      obtain ⟨rfl, rfl⟩ := hk
      exact go_iret rfl dX12_count_73
    · have hs := if_f c1 hs
      by_cases c2 : x1 = 2
      · have hs := if_t c2 hs
        refine go_tableIn (off := 68) (tgt := 74) (by rw [c2]; decide) (by rw [c2]; decide) (by rw [c2]; rfl) (by decide) dX12_count_6 ?_
        refine go_aload_n (k4 := 0) rfl (Or.inr ⟨_, rfl⟩) dX12_count_74 ?_
        refine go_aload_n (k4 := 0) rfl (Or.inr ⟨_, rfl⟩) dX12_count_75 ?_
        obtain ⟨g7, hs⟩ := gO_at hs
        obtain ⟨y6, ey6, hs⟩ := bindS hs
        refine go_V1 (As := []) (st := [.ref x0]) g7 rfl rfl (oX12_standNow (d := d - 1) (by omega) ey6) (by omega) mb_X12_standNow lm_RX12_282 mi_X12_standNow (Nat.le_of_ble_eq_true rfl) rfl dX12_count_76 ?_
        obtain ⟨g9, hs⟩ := gO_at hs
        obtain ⟨y8, ey8, hs⟩ := bindS hs
        refine go_V1 (As := [.int y6]) (st := []) g9 rfl rfl (oX12_metIn (d := d - 1) (by omega) ey8) (by omega) mb_X12_metIn lm_RX12_233 mi_X12_metIn (Nat.le_of_ble_eq_true rfl) rfl dX12_count_79 ?_
        obtain rfl := Option.some.inj hs
        obtain ⟨rfl, rfl⟩ := hk
        exact go_iret rfl dX12_count_82
      · have hs := if_f c2 hs
        by_cases c3 : x1 = 3
        · have hs := if_t c3 hs
          refine go_tableIn (off := 77) (tgt := 83) (by rw [c3]; decide) (by rw [c3]; decide) (by rw [c3]; rfl) (by decide) dX12_count_6 ?_
          refine go_aload_n (k4 := 0) rfl (Or.inr ⟨_, rfl⟩) dX12_count_83 ?_
          refine go_aload_n (k4 := 0) rfl (Or.inr ⟨_, rfl⟩) dX12_count_84 ?_
          obtain ⟨g11, hs⟩ := gO_at hs
          obtain ⟨y10, ey10, hs⟩ := bindS hs
          refine go_V1 (As := []) (st := [.ref x0]) g11 rfl rfl (oX12_standNow (d := d - 1) (by omega) ey10) (by omega) mb_X12_standNow lm_RX12_282 mi_X12_standNow (Nat.le_of_ble_eq_true rfl) rfl dX12_count_85 ?_
          obtain ⟨g13, hs⟩ := gO_at hs
          obtain ⟨y12, ey12, hs⟩ := bindS hs
          refine go_V1 (As := [.int y10]) (st := []) g13 rfl rfl (oX12_gapsIn (d := d - 1) (by omega) ey12) (by omega) mb_X12_gapsIn lm_RX12_239 mi_X12_gapsIn (Nat.le_of_ble_eq_true rfl) rfl dX12_count_88 ?_
          obtain rfl := Option.some.inj hs
          obtain ⟨rfl, rfl⟩ := hk
          exact go_iret rfl dX12_count_91
        · have hs := if_f c3 hs
          by_cases c4 : x1 = 4
          · have hs := if_t c4 hs
            refine go_tableIn (off := 86) (tgt := 92) (by rw [c4]; decide) (by rw [c4]; decide) (by rw [c4]; rfl) (by decide) dX12_count_6 ?_
            refine go_aload_n (k4 := 0) rfl (Or.inr ⟨_, rfl⟩) dX12_count_92 ?_
            obtain ⟨v14, ev14, hs⟩ := bindS hs
            refine go_gN fl_RX12_13 ev14 dX12_count_93 ?_
            refine go_bipush (v := 23) (by decide) dX12_count_96 ?_
            obtain ⟨v15, ev15, hs⟩ := bindS hs
            refine go_aIi ev15 dX12_count_98 ?_
            obtain rfl := Option.some.inj hs
            obtain ⟨rfl, rfl⟩ := hk
            exact go_iret rfl dX12_count_99
          · have hs := if_f c4 hs
            by_cases c5 : x1 = 5
            · have hs := if_t c5 hs
              refine go_tableIn (off := 94) (tgt := 100) (by rw [c5]; decide) (by rw [c5]; decide) (by rw [c5]; rfl) (by decide) dX12_count_6 ?_
              refine go_aload_n (k4 := 0) rfl (Or.inr ⟨_, rfl⟩) dX12_count_100 ?_
              obtain ⟨v16, ev16, hs⟩ := bindS hs
              refine go_gN fl_RX12_13 ev16 dX12_count_101 ?_
              refine go_bipush (v := 24) (by decide) dX12_count_104 ?_
              obtain ⟨v17, ev17, hs⟩ := bindS hs
              refine go_aIi ev17 dX12_count_106 ?_
              obtain rfl := Option.some.inj hs
              obtain ⟨rfl, rfl⟩ := hk
              exact go_iret rfl dX12_count_107
            · have hs := if_f c5 hs
              by_cases c6 : x1 = 6
              · have hs := if_t c6 hs
                refine go_tableIn (off := 102) (tgt := 108) (by rw [c6]; decide) (by rw [c6]; decide) (by rw [c6]; rfl) (by decide) dX12_count_6 ?_
                refine go_aload_n (k4 := 0) rfl (Or.inr ⟨_, rfl⟩) dX12_count_108 ?_
                obtain ⟨v18, ev18, hs⟩ := bindS hs
                refine go_gN fl_RX12_13 ev18 dX12_count_109 ?_
                refine go_bipush (v := 25) (by decide) dX12_count_112 ?_
                obtain ⟨v19, ev19, hs⟩ := bindS hs
                refine go_aIi ev19 dX12_count_114 ?_
                obtain rfl := Option.some.inj hs
                obtain ⟨rfl, rfl⟩ := hk
                exact go_iret rfl dX12_count_115
              · have hs := if_f c6 hs
                by_cases c7 : x1 = 7
                · have hs := if_t c7 hs
                  refine go_tableIn (off := 110) (tgt := 116) (by rw [c7]; decide) (by rw [c7]; decide) (by rw [c7]; rfl) (by decide) dX12_count_6 ?_
                  refine go_aload_n (k4 := 0) rfl (Or.inr ⟨_, rfl⟩) dX12_count_116 ?_
                  obtain ⟨v20, ev20, hs⟩ := bindS hs
                  refine go_gN fl_RX12_13 ev20 dX12_count_117 ?_
                  refine go_bipush (v := 26) (by decide) dX12_count_120 ?_
                  obtain ⟨v21, ev21, hs⟩ := bindS hs
                  refine go_aIi ev21 dX12_count_122 ?_
                  obtain rfl := Option.some.inj hs
                  obtain ⟨rfl, rfl⟩ := hk
                  exact go_iret rfl dX12_count_123
                · have hs := if_f c7 hs
                  by_cases c8 : x1 = 8
                  · have hs := if_t c8 hs
                    refine go_tableIn (off := 118) (tgt := 124) (by rw [c8]; decide) (by rw [c8]; decide) (by rw [c8]; rfl) (by decide) dX12_count_6 ?_
                    refine go_aload_n (k4 := 0) rfl (Or.inr ⟨_, rfl⟩) dX12_count_124 ?_
                    obtain ⟨v22, ev22, hs⟩ := bindS hs
                    refine go_gI fl_RX12_93 ev22 dX12_count_125 ?_
                    obtain rfl := Option.some.inj hs
                    obtain ⟨rfl, rfl⟩ := hk
                    exact go_iret rfl dX12_count_128
                  · have hs := if_f c8 hs
                    by_cases c9 : x1 = 9
                    · have hs := if_t c9 hs
                      refine go_tableIn (off := 123) (tgt := 129) (by rw [c9]; decide) (by rw [c9]; decide) (by rw [c9]; rfl) (by decide) dX12_count_6 ?_
                      refine go_aload_n (k4 := 0) rfl (Or.inr ⟨_, rfl⟩) dX12_count_129 ?_
                      obtain ⟨v23, ev23, hs⟩ := bindS hs
                      refine go_gN fl_RX12_13 ev23 dX12_count_130 ?_
                      refine go_iconst (v := 0) (by decide) dX12_count_133 ?_
                      obtain ⟨v24, ev24, hs⟩ := bindS hs
                      refine go_aIi ev24 dX12_count_134 ?_
                      obtain rfl := Option.some.inj hs
                      obtain ⟨rfl, rfl⟩ := hk
                      exact go_iret rfl dX12_count_135
                    · have hs := if_f c9 hs
                      refine go_tableOut (tgt := 136) (tab_out (0) (9) 9 (by decide) (by decide) (by decide) (fun i hi => by
                        match i, hi with
                        | 0, _ => rw [show Int32.ofInt ((0 : Int) + ((0 : Nat) : Int)) = (0 : Int32) by decide]; exact c0
                        | 1, _ => rw [show Int32.ofInt ((0 : Int) + ((1 : Nat) : Int)) = (1 : Int32) by decide]; exact c1
                        | 2, _ => rw [show Int32.ofInt ((0 : Int) + ((2 : Nat) : Int)) = (2 : Int32) by decide]; exact c2
                        | 3, _ => rw [show Int32.ofInt ((0 : Int) + ((3 : Nat) : Int)) = (3 : Int32) by decide]; exact c3
                        | 4, _ => rw [show Int32.ofInt ((0 : Int) + ((4 : Nat) : Int)) = (4 : Int32) by decide]; exact c4
                        | 5, _ => rw [show Int32.ofInt ((0 : Int) + ((5 : Nat) : Int)) = (5 : Int32) by decide]; exact c5
                        | 6, _ => rw [show Int32.ofInt ((0 : Int) + ((6 : Nat) : Int)) = (6 : Int32) by decide]; exact c6
                        | 7, _ => rw [show Int32.ofInt ((0 : Int) + ((7 : Nat) : Int)) = (7 : Int32) by decide]; exact c7
                        | 8, _ => rw [show Int32.ofInt ((0 : Int) + ((8 : Nat) : Int)) = (8 : Int32) by decide]; exact c8
                        | 9, _ => rw [show Int32.ofInt ((0 : Int) + ((9 : Nat) : Int)) = (9 : Int32) by decide]; exact c9
                        | k + 10, hi => omega)) (by decide) dX12_count_6 ?_
                      refine go_iconst (v := -1) (by decide) dX12_count_136 ?_
                      obtain rfl := Option.some.inj hs
                      obtain ⟨rfl, rfl⟩ := hk
                      exact go_iret rfl dX12_count_137
theorem oX12_count {d : Nat} (hd : 2 ≤ d) {h : Hp} {x0 : Nat} {x1 : Int32} {y : (Int32 × Hp)} (hs : fX12_count h x0 x1 = some y) : Call d mX12_count [.ref x0, .int x1] h (some (.int y.1)) (y.2) := call_of (by decide +kernel) (Nat.le_of_ble_eq_true rfl) (show Go d mX12_count 0 [some (.ref x0), some (.int x1)] [] h _ _ from go_subL (by simp [subL]) (oX12_count_0 hd hs ⟨rfl, rfl⟩))
