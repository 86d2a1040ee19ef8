/-! methods: their texts as functions, and that the machine does just that -/
abbrev kX12_isAgain (rf : Option Value) (hf : Hp) : Hp → Prop := fun y => rf = none ∧ hf = y
abbrev pX12_isAgain_2 (d : Nat) (x0 : Nat) (rf : Option Value) (hf : Hp) : (Int32 × Hp) → Prop := fun s => Go d mX12_isAgain 2 [some (.ref x0), some (.int s.1)] [] s.2 rf hf
noncomputable def fX12_isAgain_2b (h : Hp) (x0 : Nat) (x1 : Int32) : Option ((Int32 × Hp) ⊕ Hp) :=
  if (11 : Int32) ≤ x1 then (
    some (.inr h)) else (
    (gN h 12 x0 1).bind fun v1 =>
    (gN h 12 x0 22).bind fun v2 =>
    (aI 0 h v2 x1).bind fun v3 =>
    (wI 0 h v1 ((15 : Int32) + x1) v3).bind fun h4 =>
    some (.inl ((x1 + Int32.ofInt 1), h4)))
noncomputable def fX12_isAgain_2 (h : Hp) (x0 : Nat) (x1 : Int32) : Option Hp := lpw (σ := (Int32 × Hp)) (fun s => fX12_isAgain_2b s.2 x0 s.1) (x1, h)
theorem oX12_isAgain_2b {d : Nat} (hd : 0 ≤ d) {h : Hp} {x0 : Nat} {x1 : Int32} {rf : Option Value} {hf : Hp} {x : ((Int32 × Hp) ⊕ Hp)} (hs : fX12_isAgain_2b h x0 x1 = some x) (hk : (Kx (pX12_isAgain_2 d x0 rf hf) (kX12_isAgain rf hf)) x) : Go d mX12_isAgain 2 [some (.ref x0), some (.int x1)] [] h rf hf := by
  unfold fX12_isAgain_2b at hs
  refine go_iload_n (k4 := 1) rfl dX12_isAgain_2 ?_
  refine go_bipush (v := 11) (by decide) dX12_isAgain_3 ?_
  refine go_icmp_ge (tgt := 29) (by decide) dX12_isAgain_5 (fun c => ?_) (fun c => ?_)
  · have hs := if_t c hs
    obtain rfl := Option.some.inj hs
    obtain ⟨rfl, rfl⟩ := hk
    exact go_vret rfl dX12_isAgain_29
  · have hs := if_f c hs
    refine go_aload_n (k4 := 0) rfl (Or.inr ⟨_, rfl⟩) dX12_isAgain_8 ?_
    obtain ⟨v1, ev1, hs⟩ := bindS hs
    refine go_gN fl_RX12_13 ev1 dX12_isAgain_9 ?_
    refine go_bipush (v := 15) (by decide) dX12_isAgain_12 ?_
    refine go_iload_n (k4 := 1) rfl dX12_isAgain_14 ?_
    refine go_iadd dX12_isAgain_15 ?_
    refine go_aload_n (k4 := 0) rfl (Or.inr ⟨_, rfl⟩) dX12_isAgain_16 ?_
    obtain ⟨v2, ev2, hs⟩ := bindS hs
    refine go_gN fl_RX12_45 ev2 dX12_isAgain_17 ?_
    refine go_at 20 rfl ?_
    refine go_iload_n (k4 := 1) rfl dX12_isAgain_20 ?_
    obtain ⟨v3, ev3, hs⟩ := bindS hs
    refine go_aIi ev3 dX12_isAgain_21 ?_
    obtain ⟨h4, eh4, hs⟩ := bindS hs
    refine go_wIi eh4 dX12_isAgain_22 ?_
    refine go_iinc (L' := [some (.ref x0), some (.int (x1 + Int32.ofInt 1))]) rfl (by decide) rfl rfl dX12_isAgain_23 ?_
    refine go_goto (tgt := 2) (by decide) dX12_isAgain_26 ?_
    obtain rfl := Option.some.inj hs
    exact go_subL (L' := [some (.ref x0), some (.int (x1 + Int32.ofInt 1))]) (by simp [subL, va_rf]) hk
theorem oX12_isAgain_2 {d : Nat} (hd : 0 ≤ d) {h : Hp} {x0 : Nat} {x1 : Int32} {rf : Option Value} {hf : Hp} {x : Hp} (hs : fX12_isAgain_2 h x0 x1 = some x) (hk : (kX12_isAgain rf hf) x) : Go d mX12_isAgain 2 [some (.ref x0), some (.int x1)] [] h rf hf := by
  unfold fX12_isAgain_2 at hs
  exact lpw_go (P := pX12_isAgain_2 d x0 rf hf) (fun s x hs hk => oX12_isAgain_2b hd hs hk) (x1, h) x hs hk
noncomputable def fX12_isAgain (h : Hp) (x0 : Nat) : Option Hp :=
  fX12_isAgain_2 h x0 (0 : Int32)
theorem oX12_isAgain_0 {d : Nat} (hd : 0 ≤ d) {h : Hp} {x0 : Nat} {rf : Option Value} {hf : Hp} {x : Hp} (hs : fX12_isAgain h x0 = some x) (hk : (kX12_isAgain rf hf) x) : Go d mX12_isAgain 0 [some (.ref x0), none] [] h rf hf := by
  unfold fX12_isAgain at hs
  refine go_iconst (v := 0) (by decide) dX12_isAgain_0 ?_
  refine go_istore_n (k4 := 1) (L' := [some (.ref x0), some (.int (0 : Int32))]) (by decide) rfl dX12_isAgain_1 ?_
  exact go_subL (L' := [some (.ref x0), some (.int (0 : Int32))]) (by simp [subL, va_rf]) (oX12_isAgain_2 hd hs hk)
theorem oX12_isAgain {d : Nat} (hd : 0 ≤ d) {h : Hp} {x0 : Nat} {y : Hp} (hs : fX12_isAgain h x0 = some y) : Call d mX12_isAgain [.ref x0] h (none) y := call_of (by decide +kernel) (Nat.le_of_ble_eq_true rfl) (show Go d mX12_isAgain 0 [some (.ref x0), none] [] h _ _ from go_subL (by simp [subL]) (oX12_isAgain_0 hd hs ⟨rfl, rfl⟩))
abbrev kX12_notes (rf : Option Value) (hf : Hp) : Hp → Prop := fun y => rf = none ∧ hf = y
abbrev pX12_notes_57 (d : Nat) (x0 : Nat) (rf : Option Value) (hf : Hp) : (Int32 × Hp) → Prop := fun s => Go d mX12_notes 57 [some (.ref x0), some (.int s.1)] [] s.2 rf hf
noncomputable def fX12_notes_95 (h : Hp) (x0 : Nat) : Option Hp :=
  (gN h 12 x0 1).bind fun v3 =>
  (aI 0 h v3 (26 : Int32)).bind fun v4 =>
  (wI 0 h v3 (26 : Int32) (v4 + (1 : Int32))).bind fun h5 =>
  some (h5)
theorem oX12_notes_95 {d : Nat} (hd : 0 ≤ d) {h : Hp} {x0 : Nat} {rf : Option Value} {hf : Hp} {x : Hp} (hs : fX12_notes_95 h x0 = some x) (hk : (kX12_notes rf hf) x) : Go d mX12_notes 95 [some (.ref x0), none] [] h rf hf := by
  unfold fX12_notes_95 at hs
  refine go_aload_n (k4 := 0) rfl (Or.inr ⟨_, rfl⟩) dX12_notes_95 ?_
  obtain ⟨v3, ev3, hs⟩ := bindS hs
  refine go_gN fl_RX12_13 ev3 dX12_notes_96 ?_
  refine go_bipush (v := 26) (by decide) dX12_notes_99 ?_
  refine go_dup2_11 rfl rfl dX12_notes_101 ?_
  obtain ⟨v4, ev4, hs⟩ := bindS hs
  refine go_aIi ev4 dX12_notes_102 ?_
  refine go_iconst (v := 1) (by decide) dX12_notes_103 ?_
  refine go_iadd dX12_notes_104 ?_
  refine go_at 105 rfl ?_
  obtain ⟨h5, eh5, hs⟩ := bindS hs
  refine go_wIi eh5 dX12_notes_105 ?_
  obtain rfl := Option.some.inj hs
  obtain ⟨rfl, rfl⟩ := hk
  exact go_vret rfl dX12_notes_106
noncomputable def fX12_notes_57b (h : Hp) (x0 : Nat) (x1 : Int32) : Option ((Int32 × Hp) ⊕ Hp) :=
  if (11 : Int32) ≤ x1 then (
  (fX12_notes_95 h x0).map (fun q => .inr q)) else (
    (gN h 12 x0 1).bind fun v6 =>
    (gN h 12 x0 1).bind fun v7 =>
    (aI 0 h v7 (26 : Int32)).bind fun v8 =>
    (gN h 12 x0 22).bind fun v9 =>
    (aI 0 h v9 x1).bind fun v10 =>
    (wI 0 h v6 (((27 : Int32) + ((11 : Int32) * v8)) + x1) v10).bind fun h11 =>
    some (.inl ((x1 + Int32.ofInt 1), h11)))
noncomputable def fX12_notes_57 (h : Hp) (x0 : Nat) (x1 : Int32) : Option Hp := lpw (σ := (Int32 × Hp)) (fun s => fX12_notes_57b s.2 x0 s.1) (x1, h)
theorem oX12_notes_57b {d : Nat} (hd : 0 ≤ d) {h : Hp} {x0 : Nat} {x1 : Int32} {rf : Option Value} {hf : Hp} {x : ((Int32 × Hp) ⊕ Hp)} (hs : fX12_notes_57b h x0 x1 = some x) (hk : (Kx (pX12_notes_57 d x0 rf hf) (kX12_notes rf hf)) x) : Go d mX12_notes 57 [some (.ref x0), some (.int x1)] [] h rf hf := by
  unfold fX12_notes_57b at hs
  refine go_iload_n (k4 := 1) rfl dX12_notes_57 ?_
  refine go_bipush (v := 11) (by decide) dX12_notes_58 ?_
  refine go_icmp_ge (tgt := 95) (by decide) dX12_notes_60 (fun c => ?_) (fun c => ?_)
  · have hs := if_t c hs
    obtain ⟨q, hs2, hq⟩ := mapS hs
    clear hs
    subst hq
    exact go_subL (L' := [some (.ref x0), none]) (by simp [subL, va_rf]) (oX12_notes_95 hd hs2 hk)
  · have hs := if_f c hs
    refine go_aload_n (k4 := 0) rfl (Or.inr ⟨_, rfl⟩) dX12_notes_63 ?_
    obtain ⟨v6, ev6, hs⟩ := bindS hs
    refine go_gN fl_RX12_13 ev6 dX12_notes_64 ?_
    refine go_bipush (v := 27) (by decide) dX12_notes_67 ?_
    refine go_bipush (v := 11) (by decide) dX12_notes_69 ?_
    refine go_aload_n (k4 := 0) rfl (Or.inr ⟨_, rfl⟩) dX12_notes_71 ?_
    obtain ⟨v7, ev7, hs⟩ := bindS hs
    refine go_gN fl_RX12_13 ev7 dX12_notes_72 ?_
    refine go_bipush (v := 26) (by decide) dX12_notes_75 ?_
    refine go_at 77 rfl ?_
    obtain ⟨v8, ev8, hs⟩ := bindS hs
    refine go_aIi ev8 dX12_notes_77 ?_
    refine go_imul dX12_notes_78 ?_
    refine go_iadd dX12_notes_79 ?_
    refine go_iload_n (k4 := 1) rfl dX12_notes_80 ?_
    refine go_iadd dX12_notes_81 ?_
    refine go_aload_n (k4 := 0) rfl (Or.inr ⟨_, rfl⟩) dX12_notes_82 ?_
    obtain ⟨v9, ev9, hs⟩ := bindS hs
    refine go_gN fl_RX12_45 ev9 dX12_notes_83 ?_
    refine go_iload_n (k4 := 1) rfl dX12_notes_86 ?_
    refine go_at 87 rfl ?_
    obtain ⟨v10, ev10, hs⟩ := bindS hs
    refine go_aIi ev10 dX12_notes_87 ?_
    obtain ⟨h11, eh11, hs⟩ := bindS hs
    refine go_wIi eh11 dX12_notes_88 ?_
    refine go_iinc (L' := [some (.ref x0), some (.int (x1 + Int32.ofInt 1))]) rfl (by decide) rfl rfl dX12_notes_89 ?_
    refine go_goto (tgt := 57) (by decide) dX12_notes_92 ?_
    obtain rfl := Option.some.inj hs
    exact go_subL (L' := [some (.ref x0), some (.int (x1 + Int32.ofInt 1))]) (by simp [subL, va_rf]) hk
theorem oX12_notes_57 {d : Nat} (hd : 0 ≤ d) {h : Hp} {x0 : Nat} {x1 : Int32} {rf : Option Value} {hf : Hp} {x : Hp} (hs : fX12_notes_57 h x0 x1 = some x) (hk : (kX12_notes rf hf) x) : Go d mX12_notes 57 [some (.ref x0), some (.int x1)] [] h rf hf := by
  unfold fX12_notes_57 at hs
  exact lpw_go (P := pX12_notes_57 d x0 rf hf) (fun s x hs hk => oX12_notes_57b hd hs hk) (x1, h) x hs hk
noncomputable def fX12_notes_55 (h : Hp) (x0 : Nat) : Option Hp :=
  fX12_notes_57 h x0 (0 : Int32)
theorem oX12_notes_55 {d : Nat} (hd : 0 ≤ d) {h : Hp} {x0 : Nat} {rf : Option Value} {hf : Hp} {x : Hp} (hs : fX12_notes_55 h x0 = some x) (hk : (kX12_notes rf hf) x) : Go d mX12_notes 55 [some (.ref x0), none] [] h rf hf := by
  unfold fX12_notes_55 at hs
  refine go_iconst (v := 0) (by decide) dX12_notes_55 ?_
  refine go_istore_n (k4 := 1) (L' := [some (.ref x0), some (.int (0 : Int32))]) (by decide) rfl dX12_notes_56 ?_
  exact go_subL (L' := [some (.ref x0), some (.int (0 : Int32))]) (by simp [subL, va_rf]) (oX12_notes_57 hd hs hk)
abbrev pX12_notes_14 (d : Nat) (x0 : Nat) (rf : Option Value) (hf : Hp) : (Int32 × Hp) → Prop := fun s => Go d mX12_notes 14 [some (.ref x0), some (.int s.1)] [] s.2 rf hf
noncomputable def fX12_notes_44 (h : Hp) (x0 : Nat) : Option Hp :=
  (gN h 12 x0 1).bind fun v12 =>
  (aI 0 h v12 (26 : Int32)).bind fun v13 =>
  (wI 0 h v12 (26 : Int32) (v13 - (1 : Int32))).bind fun h14 =>
  fX12_notes_55 h14 x0
theorem oX12_notes_44 {d : Nat} (hd : 0 ≤ d) {h : Hp} {x0 : Nat} {rf : Option Value} {hf : Hp} {x : Hp} (hs : fX12_notes_44 h x0 = some x) (hk : (kX12_notes rf hf) x) : Go d mX12_notes 44 [some (.ref x0), none] [] h rf hf := by
  unfold fX12_notes_44 at hs
  refine go_aload_n (k4 := 0) rfl (Or.inr ⟨_, rfl⟩) dX12_notes_44 ?_
  obtain ⟨v12, ev12, hs⟩ := bindS hs
  refine go_gN fl_RX12_13 ev12 dX12_notes_45 ?_
  refine go_bipush (v := 26) (by decide) dX12_notes_48 ?_
  refine go_dup2_11 rfl rfl dX12_notes_50 ?_
  obtain ⟨v13, ev13, hs⟩ := bindS hs
  refine go_aIi ev13 dX12_notes_51 ?_
  refine go_iconst (v := 1) (by decide) dX12_notes_52 ?_
  refine go_isub dX12_notes_53 ?_
  refine go_at 54 rfl ?_
  obtain ⟨h14, eh14, hs⟩ := bindS hs
  refine go_wIi eh14 dX12_notes_54 ?_
  exact go_subL (L' := [some (.ref x0), none]) (by simp [subL, va_rf]) (oX12_notes_55 hd hs hk)
noncomputable def fX12_notes_14b (h : Hp) (x0 : Nat) (x1 : Int32) : Option ((Int32 × Hp) ⊕ Hp) :=
  if (99 : Int32) ≤ x1 then (
  (fX12_notes_44 h x0).map (fun q => .inr q)) else (
    (gN h 12 x0 1).bind fun v15 =>
    (gN h 12 x0 1).bind fun v16 =>
    (aI 0 h v16 ((38 : Int32) + x1)).bind fun v17 =>
    (wI 0 h v15 ((27 : Int32) + x1) v17).bind fun h18 =>
    some (.inl ((x1 + Int32.ofInt 1), h18)))
noncomputable def fX12_notes_14 (h : Hp) (x0 : Nat) (x1 : Int32) : Option Hp := lpw (σ := (Int32 × Hp)) (fun s => fX12_notes_14b s.2 x0 s.1) (x1, h)
theorem oX12_notes_14b {d : Nat} (hd : 0 ≤ d) {h : Hp} {x0 : Nat} {x1 : Int32} {rf : Option Value} {hf : Hp} {x : ((Int32 × Hp) ⊕ Hp)} (hs : fX12_notes_14b h x0 x1 = some x) (hk : (Kx (pX12_notes_14 d x0 rf hf) (kX12_notes rf hf)) x) : Go d mX12_notes 14 [some (.ref x0), some (.int x1)] [] h rf hf := by
  unfold fX12_notes_14b at hs
  refine go_iload_n (k4 := 1) rfl dX12_notes_14 ?_
  refine go_bipush (v := 99) (by decide) dX12_notes_15 ?_
  refine go_icmp_ge (tgt := 44) (by decide) dX12_notes_17 (fun c => ?_) (fun c => ?_)
  · have hs := if_t c hs
    obtain ⟨q, hs2, hq⟩ := mapS hs
    clear hs
    subst hq
    exact go_subL (L' := [some (.ref x0), none]) (by simp [subL, va_rf]) (oX12_notes_44 hd hs2 hk)
  · have hs := if_f c hs
    refine go_aload_n (k4 := 0) rfl (Or.inr ⟨_, rfl⟩) dX12_notes_20 ?_
    obtain ⟨v15, ev15, hs⟩ := bindS hs
    refine go_gN fl_RX12_13 ev15 dX12_notes_21 ?_
    refine go_bipush (v := 27) (by decide) dX12_notes_24 ?_
    refine go_iload_n (k4 := 1) rfl dX12_notes_26 ?_
    refine go_iadd dX12_notes_27 ?_
    refine go_aload_n (k4 := 0) rfl (Or.inr ⟨_, rfl⟩) dX12_notes_28 ?_
    obtain ⟨v16, ev16, hs⟩ := bindS hs
    refine go_gN fl_RX12_13 ev16 dX12_notes_29 ?_
    refine go_at 32 rfl ?_
    refine go_bipush (v := 38) (by decide) dX12_notes_32 ?_
    refine go_iload_n (k4 := 1) rfl dX12_notes_34 ?_
    refine go_iadd dX12_notes_35 ?_
    obtain ⟨v17, ev17, hs⟩ := bindS hs
    refine go_aIi ev17 dX12_notes_36 ?_
    obtain ⟨h18, eh18, hs⟩ := bindS hs
    refine go_wIi eh18 dX12_notes_37 ?_
    refine go_iinc (L' := [some (.ref x0), some (.int (x1 + Int32.ofInt 1))]) rfl (by decide) rfl rfl dX12_notes_38 ?_
    refine go_goto (tgt := 14) (by decide) dX12_notes_41 ?_
    obtain rfl := Option.some.inj hs
    exact go_subL (L' := [some (.ref x0), some (.int (x1 + Int32.ofInt 1))]) (by simp [subL, va_rf]) hk
theorem oX12_notes_14 {d : Nat} (hd : 0 ≤ d) {h : Hp} {x0 : Nat} {x1 : Int32} {rf : Option Value} {hf : Hp} {x : Hp} (hs : fX12_notes_14 h x0 x1 = some x) (hk : (kX12_notes rf hf) x) : Go d mX12_notes 14 [some (.ref x0), some (.int x1)] [] h rf hf := by
  unfold fX12_notes_14 at hs
  exact lpw_go (P := pX12_notes_14 d x0 rf hf) (fun s x hs hk => oX12_notes_14b hd hs hk) (x1, h) x hs hk
noncomputable def fX12_notes (h : Hp) (x0 : Nat) : Option Hp :=
  (gN h 12 x0 1).bind fun v1 =>
  (aI 0 h v1 (26 : Int32)).bind fun v2 =>
  if v2 = (10 : Int32) then (
    fX12_notes_14 h x0 (0 : Int32)) else (
  fX12_notes_55 h x0)
theorem oX12_notes_0 {d : Nat} (hd : 0 ≤ d) {h : Hp} {x0 : Nat} {rf : Option Value} {hf : Hp} {x : Hp} (hs : fX12_notes h x0 = some x) (hk : (kX12_notes rf hf) x) : Go d mX12_notes 0 [some (.ref x0), none] [] h rf hf := by
  unfold fX12_notes at hs
  refine go_aload_n (k4 := 0) rfl (Or.inr ⟨_, rfl⟩) dX12_notes_0 ?_
  obtain ⟨v1, ev1, hs⟩ := bindS hs
  refine go_gN fl_RX12_13 ev1 dX12_notes_1 ?_
  refine go_bipush (v := 26) (by decide) dX12_notes_4 ?_
  obtain ⟨v2, ev2, hs⟩ := bindS hs
  refine go_aIi ev2 dX12_notes_6 ?_
  refine go_bipush (v := 10) (by decide) dX12_notes_7 ?_
  refine go_icmp_ne (tgt := 55) (by decide) dX12_notes_9 (fun c => ?_) (fun c => ?_)
  · have hs := if_f c hs
    exact go_subL (L' := [some (.ref x0), none]) (by simp [subL, va_rf]) (oX12_notes_55 hd hs hk)
  · have hs := if_t c hs
    refine go_iconst (v := 0) (by decide) dX12_notes_12 ?_
    refine go_istore_n (k4 := 1) (L' := [some (.ref x0), some (.int (0 : Int32))]) (by decide) rfl dX12_notes_13 ?_
    exact go_subL (L' := [some (.ref x0), some (.int (0 : Int32))]) (by simp [subL, va_rf]) (oX12_notes_14 hd hs hk)
theorem oX12_notes {d : Nat} (hd : 0 ≤ d) {h : Hp} {x0 : Nat} {y : Hp} (hs : fX12_notes h x0 = some y) : Call d mX12_notes [.ref x0] h (none) y := call_of (by decide +kernel) (Nat.le_of_ble_eq_true rfl) (show Go d mX12_notes 0 [some (.ref x0), none] [] h _ _ from go_subL (by simp [subL]) (oX12_notes_0 hd hs ⟨rfl, rfl⟩))
abbrev kX12_goesYear (rf : Option Value) (hf : Hp) : Hp → Prop := fun y => rf = none ∧ hf = y
abbrev pX12_goesYear_19 (d : Nat) (x0 : Nat) (x2 : Int32) (rf : Option Value) (hf : Hp) : (Int32 × Hp) → Prop := fun s => Go d mX12_goesYear 19 [some (.ref x0), none, some (.int x2), some (.int s.1)] [] s.2 rf hf
noncomputable def fX12_goesYear_67 (h : Hp) (x0 : Nat) (s0 : Nat) (s1 : Int32) (s2 : Int32) : Option Hp :=
  (wI 0 h s0 s1 s2).bind fun h11 =>
  (gN h11 12 x0 1).bind fun v12 =>
  (aI 0 h11 v12 (25 : Int32)).bind fun v13 =>
  (wI 0 h11 v12 (25 : Int32) (v13 + (1 : Int32))).bind fun h14 =>
  some (h14)
theorem oX12_goesYear_67 {d : Nat} (hd : 4 ≤ d) {h : Hp} {x0 : Nat} {s0 : Nat} {s1 : Int32} {s2 : Int32} {rf : Option Value} {hf : Hp} {x : Hp} (hs : fX12_goesYear_67 h x0 s0 s1 s2 = some x) (hk : (kX12_goesYear rf hf) x) : Go d mX12_goesYear 67 [some (.ref x0), none, none, none] [.int s2, .int s1, .ref s0] h rf hf := by
  unfold fX12_goesYear_67 at hs
  obtain ⟨h11, eh11, hs⟩ := bindS hs
  refine go_wIi eh11 dX12_goesYear_67 ?_
  refine go_aload_n (k4 := 0) rfl (Or.inr ⟨_, rfl⟩) dX12_goesYear_68 ?_
  obtain ⟨v12, ev12, hs⟩ := bindS hs
  refine go_gN fl_RX12_13 ev12 dX12_goesYear_69 ?_
  refine go_bipush (v := 25) (by decide) dX12_goesYear_72 ?_
  refine go_dup2_11 rfl rfl dX12_goesYear_74 ?_
  obtain ⟨v13, ev13, hs⟩ := bindS hs
  refine go_aIi ev13 dX12_goesYear_75 ?_
  refine go_iconst (v := 1) (by decide) dX12_goesYear_76 ?_
  refine go_at 77 rfl ?_
  refine go_iadd dX12_goesYear_77 ?_
  obtain ⟨h14, eh14, hs⟩ := bindS hs
  refine go_wIi eh14 dX12_goesYear_78 ?_
  obtain rfl := Option.some.inj hs
  obtain ⟨rfl, rfl⟩ := hk
  exact go_vret rfl dX12_goesYear_79
noncomputable def fX12_goesYear_49 (h : Hp) (x0 : Nat) (x2 : Int32) : Option Hp :=
  (gN h 12 x0 1).bind fun v9 =>
  (fX12_hasFallen h x2).bind fun y10 =>
  if y10 = 0 then (
    fX12_goesYear_67 h x0 v9 (24 : Int32) (0 : Int32)) else (
    fX12_goesYear_67 h x0 v9 (24 : Int32) (1 : Int32))
theorem oX12_goesYear_49 {d : Nat} (hd : 4 ≤ d) {h : Hp} {x0 : Nat} {x2 : Int32} {rf : Option Value} {hf : Hp} {x : Hp} (hs : fX12_goesYear_49 h x0 x2 = some x) (hk : (kX12_goesYear rf hf) x) : Go d mX12_goesYear 49 [some (.ref x0), none, some (.int x2), none] [] h rf hf := by
  unfold fX12_goesYear_49 at hs
  refine go_aload_n (k4 := 0) rfl (Or.inr ⟨_, rfl⟩) dX12_goesYear_49 ?_
  obtain ⟨v9, ev9, hs⟩ := bindS hs
  refine go_gN fl_RX12_13 ev9 dX12_goesYear_50 ?_
  refine go_bipush (v := 24) (by decide) dX12_goesYear_53 ?_
  refine go_iload_n (k4 := 2) rfl dX12_goesYear_55 ?_
  obtain ⟨y10, ey10, hs⟩ := bindS hs
  refine go_S1 (As := [.int x2]) (st := [.int (24 : Int32), .ref v9]) (oX12_hasFallen (d := d - 1) (by omega) ey10) (by omega) mb_X12_hasFallen lm_RX12_245 ms_X12_hasFallen (Nat.le_of_ble_eq_true rfl) rfl dX12_goesYear_56 ?_
  refine go_if_eq (tgt := 66) (by decide) dX12_goesYear_59 (fun c => ?_) (fun c => ?_)
  · have hs := if_t c hs
    refine go_iconst (v := 0) (by decide) dX12_goesYear_66 ?_
    exact go_subL (L' := [some (.ref x0), none, none, none]) (by simp [subL, va_rf]) (oX12_goesYear_67 hd hs hk)
  · have hs := if_f c hs
    refine go_iconst (v := 1) (by decide) dX12_goesYear_62 ?_
    refine go_goto (tgt := 67) (by decide) dX12_goesYear_63 ?_
    exact go_subL (L' := [some (.ref x0), none, none, none]) (by simp [subL, va_rf]) (oX12_goesYear_67 hd hs hk)
noncomputable def fX12_goesYear_19b (h : Hp) (x0 : Nat) (x2 : Int32) (x3 : Int32) : Option ((Int32 × Hp) ⊕ Hp) :=
  (gN h 12 x0 1).bind fun v7 =>
  (aI 0 h v7 (1 : Int32)).bind fun v8 =>
  if v8 ≤ x3 then (
  (fX12_goesYear_49 h x0 x2).map (fun q => .inr q)) else (
    (gN h 12 x0 1).bind fun v15 =>
    (fX12_gapIn h x2 x3).bind fun y16 =>
    (wI 0 h v15 ((15 : Int32) + x3) y16).bind fun h17 =>
    some (.inl ((x3 + Int32.ofInt 1), h17)))
noncomputable def fX12_goesYear_19 (h : Hp) (x0 : Nat) (x2 : Int32) (x3 : Int32) : Option Hp := lpw (σ := (Int32 × Hp)) (fun s => fX12_goesYear_19b s.2 x0 x2 s.1) (x3, h)
theorem oX12_goesYear_19b {d : Nat} (hd : 4 ≤ d) {h : Hp} {x0 : Nat} {x2 : Int32} {x3 : Int32} {rf : Option Value} {hf : Hp} {x : ((Int32 × Hp) ⊕ Hp)} (hs : fX12_goesYear_19b h x0 x2 x3 = some x) (hk : (Kx (pX12_goesYear_19 d x0 x2 rf hf) (kX12_goesYear rf hf)) x) : Go d mX12_goesYear 19 [some (.ref x0), none, some (.int x2), some (.int x3)] [] h rf hf := by
  unfold fX12_goesYear_19b at hs
  refine go_iload_n (k4 := 3) rfl dX12_goesYear_19 ?_
  refine go_aload_n (k4 := 0) rfl (Or.inr ⟨_, rfl⟩) dX12_goesYear_20 ?_
  obtain ⟨v7, ev7, hs⟩ := bindS hs
  refine go_gN fl_RX12_13 ev7 dX12_goesYear_21 ?_
  refine go_iconst (v := 1) (by decide) dX12_goesYear_24 ?_
  obtain ⟨v8, ev8, hs⟩ := bindS hs
  refine go_aIi ev8 dX12_goesYear_25 ?_
  refine go_icmp_ge (tgt := 49) (by decide) dX12_goesYear_26 (fun c => ?_) (fun c => ?_)
  · have hs := if_t c hs
    obtain ⟨q, hs2, hq⟩ := mapS hs
    clear hs
    subst hq
    exact go_subL (L' := [some (.ref x0), none, some (.int x2), none]) (by simp [subL, va_rf]) (oX12_goesYear_49 hd hs2 hk)
  · have hs := if_f c hs
    refine go_aload_n (k4 := 0) rfl (Or.inr ⟨_, rfl⟩) dX12_goesYear_29 ?_
    obtain ⟨v15, ev15, hs⟩ := bindS hs
    refine go_gN fl_RX12_13 ev15 dX12_goesYear_30 ?_
    refine go_bipush (v := 15) (by decide) dX12_goesYear_33 ?_
    refine go_iload_n (k4 := 3) rfl dX12_goesYear_35 ?_
    refine go_iadd dX12_goesYear_36 ?_
    refine go_iload_n (k4 := 2) rfl dX12_goesYear_37 ?_
    refine go_iload_n (k4 := 3) rfl dX12_goesYear_38 ?_
    refine go_at 39 rfl ?_
    obtain ⟨y16, ey16, hs⟩ := bindS hs
    refine go_S1 (As := [.int x2, .int x3]) (st := [.int ((15 : Int32) + x3), .ref v15]) (oX12_gapIn (d := d - 1) (by omega) ey16) (by omega) mb_X12_gapIn lm_RX12_217 ms_X12_gapIn (Nat.le_of_ble_eq_true rfl) rfl dX12_goesYear_39 ?_
    obtain ⟨h17, eh17, hs⟩ := bindS hs
    refine go_wIi eh17 dX12_goesYear_42 ?_
    refine go_iinc (L' := [some (.ref x0), none, some (.int x2), some (.int (x3 + Int32.ofInt 1))]) rfl (by decide) rfl rfl dX12_goesYear_43 ?_
    refine go_goto (tgt := 19) (by decide) dX12_goesYear_46 ?_
    obtain rfl := Option.some.inj hs
    exact go_subL (L' := [some (.ref x0), none, some (.int x2), some (.int (x3 + Int32.ofInt 1))]) (by simp [subL, va_rf]) hk
theorem oX12_goesYear_19 {d : Nat} (hd : 4 ≤ d) {h : Hp} {x0 : Nat} {x2 : Int32} {x3 : Int32} {rf : Option Value} {hf : Hp} {x : Hp} (hs : fX12_goesYear_19 h x0 x2 x3 = some x) (hk : (kX12_goesYear rf hf) x) : Go d mX12_goesYear 19 [some (.ref x0), none, some (.int x2), some (.int x3)] [] h rf hf := by
  unfold fX12_goesYear_19 at hs
  exact lpw_go (P := pX12_goesYear_19 d x0 x2 rf hf) (fun s x hs hk => oX12_goesYear_19b hd hs hk) (x3, h) x hs hk
noncomputable def fX12_goesYear (h : Hp) (x0 : Nat) (x1 : Int32) : Option Hp :=
  gO h 12 x0 (
  (fX12_standNow h x0).bind fun y1 =>
  (gN h 12 x0 1).bind fun v3 =>
  (aI 0 h v3 (23 : Int32)).bind fun v4 =>
  gO h 12 x0 (
  (fX12_yearTo h x0 y1 v4 x1).bind fun y5 =>
  fX12_goesYear_19 y5.2 x0 y5.1 (0 : Int32)))
theorem oX12_goesYear_0 {d : Nat} (hd : 4 ≤ d) {h : Hp} {x0 : Nat} {x1 : Int32} {rf : Option Value} {hf : Hp} {x : Hp} (hs : fX12_goesYear h x0 x1 = some x) (hk : (kX12_goesYear rf hf) x) : Go d mX12_goesYear 0 [some (.ref x0), some (.int x1), none, none] [] h rf hf := by
  unfold fX12_goesYear at hs
  refine go_aload_n (k4 := 0) rfl (Or.inr ⟨_, rfl⟩) dX12_goesYear_0 ?_
  refine go_aload_n (k4 := 0) rfl (Or.inr ⟨_, rfl⟩) dX12_goesYear_1 ?_
  obtain ⟨g2, hs⟩ := gO_at hs
  obtain ⟨y1, ey1, hs⟩ := bindS hs
  refine go_V1 (As := []) (st := [.ref x0]) g2 rfl rfl (oX12_standNow (d := d - 1) (by omega) ey1) (by omega) mb_X12_standNow lm_RX12_282 mi_X12_standNow (Nat.le_of_ble_eq_true rfl) rfl dX12_goesYear_2 ?_
  refine go_aload_n (k4 := 0) rfl (Or.inr ⟨_, rfl⟩) dX12_goesYear_5 ?_
  obtain ⟨v3, ev3, hs⟩ := bindS hs
  refine go_gN fl_RX12_13 ev3 dX12_goesYear_6 ?_
  refine go_bipush (v := 23) (by decide) dX12_goesYear_9 ?_
  obtain ⟨v4, ev4, hs⟩ := bindS hs
  refine go_aIi ev4 dX12_goesYear_11 ?_
  refine go_at 12 rfl ?_
  refine go_iload_n (k4 := 1) rfl dX12_goesYear_12 ?_
  obtain ⟨g6, hs⟩ := gO_at hs
  obtain ⟨y5, ey5, hs⟩ := bindS hs
  refine go_V1 (As := [.int y1, .int v4, .int x1]) (st := []) g6 rfl rfl (oX12_yearTo (d := d - 1) (by omega) ey5) (by omega) mb_X12_yearTo lm_RX12_294 mi_X12_yearTo (Nat.le_of_ble_eq_true rfl) rfl dX12_goesYear_13 ?_
  refine go_istore_n (k4 := 2) (L' := [some (.ref x0), some (.int x1), some (.int y5.1), none]) (by decide) rfl dX12_goesYear_16 ?_
  refine go_iconst (v := 0) (by decide) dX12_goesYear_17 ?_
  refine go_istore_n (k4 := 3) (L' := [some (.ref x0), some (.int x1), some (.int y5.1), some (.int (0 : Int32))]) (by decide) rfl dX12_goesYear_18 ?_
  exact go_subL (L' := [some (.ref x0), none, some (.int y5.1), some (.int (0 : Int32))]) (by simp [subL, va_rf]) (oX12_goesYear_19 hd hs hk)
theorem oX12_goesYear {d : Nat} (hd : 4 ≤ d) {h : Hp} {x0 : Nat} {x1 : Int32} {y : Hp} (hs : fX12_goesYear h x0 x1 = some y) : Call d mX12_goesYear [.ref x0, .int x1] h (none) y := call_of (by decide +kernel) (Nat.le_of_ble_eq_true rfl) (show Go d mX12_goesYear 0 [some (.ref x0), some (.int x1), none, none] [] h _ _ from go_subL (by simp [subL]) (oX12_goesYear_0 hd hs ⟨rfl, rfl⟩))
abbrev kX12_whySaw (h : Hp) (rf : Option Value) (hf : Hp) : Int32 → Prop := fun y => rf = some (.int y) ∧ hf = h
noncomputable def fX12_whySaw_28 (h : Hp) (s0 : Int32) : Option Int32 :=
  some (s0)
theorem oX12_whySaw_28 {d : Nat} (hd : 2 ≤ d) {h : Hp} {s0 : Int32} {rf : Option Value} {hf : Hp} {x : Int32} (hs : fX12_whySaw_28 h s0 = some x) (hk : (kX12_whySaw h rf hf) x) : Go d mX12_whySaw 28 [none, none, none] [.int s0] h rf hf := by
  unfold fX12_whySaw_28 at hs
  obtain rfl := Option.some.inj hs
  obtain ⟨rfl, rfl⟩ := hk
  exact go_iret rfl dX12_whySaw_28
noncomputable def fX12_whySaw (h : Hp) (x0 : Nat) (x1 : Int64) : Option Int32 :=
  gO h 12 x0 (
  (fX12_isPair h x0 x1).bind fun y1 =>
  if y1 = 0 then (
    fX12_whySaw_28 h (1 : Int32)) else (
    (gN h 12 x0 1).bind fun v3 =>
    (aI 0 h v3 (24 : Int32)).bind fun v4 =>
    if v4 = (1 : Int32) then (
      fX12_whySaw_28 h (2 : Int32)) else (
      fX12_whySaw_28 h (0 : Int32))))
theorem oX12_whySaw_0 {d : Nat} (hd : 2 ≤ d) {h : Hp} {x0 : Nat} {x1 : Int64} {rf : Option Value} {hf : Hp} {x : Int32} (hs : fX12_whySaw h x0 x1 = some x) (hk : (kX12_whySaw h rf hf) x) : Go d mX12_whySaw 0 [some (.ref x0), some (.long x1), none] [] h rf hf := by
  unfold fX12_whySaw at hs
  refine go_aload_n (k4 := 0) rfl (Or.inr ⟨_, rfl⟩) dX12_whySaw_0 ?_
  refine go_lload_n (k4 := 1) rfl dX12_whySaw_1 ?_
  obtain ⟨g2, hs⟩ := gO_at hs
  obtain ⟨y1, ey1, hs⟩ := bindS hs
  refine go_V1 (As := [.long x1]) (st := []) g2 rfl rfl (oX12_isPair (d := d - 1) (by omega) ey1) (by omega) mb_X12_isPair lm_RX12_271 mi_X12_isPair (Nat.le_of_ble_eq_true rfl) rfl dX12_whySaw_2 ?_
  refine go_if_ne (tgt := 12) (by decide) dX12_whySaw_5 (fun c => ?_) (fun c => ?_)
  · have hs := if_f c hs
    refine go_aload_n (k4 := 0) rfl (Or.inr ⟨_, rfl⟩) dX12_whySaw_12 ?_
    obtain ⟨v3, ev3, hs⟩ := bindS hs
    refine go_gN fl_RX12_13 ev3 dX12_whySaw_13 ?_
    refine go_bipush (v := 24) (by decide) dX12_whySaw_16 ?_
    obtain ⟨v4, ev4, hs⟩ := bindS hs
    refine go_aIi ev4 dX12_whySaw_18 ?_
    refine go_iconst (v := 1) (by decide) dX12_whySaw_19 ?_
    refine go_icmp_ne (tgt := 27) (by decide) dX12_whySaw_20 (fun c => ?_) (fun c => ?_)
    · have hs := if_f c hs
      refine go_iconst (v := 0) (by decide) dX12_whySaw_27 ?_
      exact go_subL (L' := [none, none, none]) (by simp [subL, va_rf]) (oX12_whySaw_28 hd hs hk)
    · have hs := if_t c hs
      refine go_iconst (v := 2) (by decide) dX12_whySaw_23 ?_
      refine go_goto (tgt := 28) (by decide) dX12_whySaw_24 ?_
      exact go_subL (L' := [none, none, none]) (by simp [subL, va_rf]) (oX12_whySaw_28 hd hs hk)
  · have hs := if_t c hs
    refine go_iconst (v := 1) (by decide) dX12_whySaw_8 ?_
    refine go_goto (tgt := 28) (by decide) dX12_whySaw_9 ?_
    exact go_subL (L' := [none, none, none]) (by simp [subL, va_rf]) (oX12_whySaw_28 hd hs hk)
theorem oX12_whySaw {d : Nat} (hd : 2 ≤ d) {h : Hp} {x0 : Nat} {x1 : Int64} {y : Int32} (hs : fX12_whySaw h x0 x1 = some y) : Call d mX12_whySaw [.ref x0, .long x1] h (some (.int y)) h := call_of (by decide +kernel) (Nat.le_of_ble_eq_true rfl) (show Go d mX12_whySaw 0 [some (.ref x0), some (.long x1), none] [] h _ _ from go_subL (by simp [subL]) (oX12_whySaw_0 hd hs ⟨rfl, rfl⟩))
abbrev kX12_year (rf : Option Value) (hf : Hp) : (Int32 × Hp) → Prop := fun y => rf = some (.int y.1) ∧ hf = y.2
noncomputable def fX12_year (h : Hp) (x0 : Nat) (x1 : Int32) : Option (Int32 × Hp) :=
  (sV h 12 x0 0 (.int (0 : Int32))).bind fun h1 =>
  (fX12_isDry h1 (x1.toInt64)).bind fun y2 =>
  if y2 = 0 then (
    some (((-11 : Int32), h1))) else (
    gO h1 12 x0 (
    (fX12_keeps h1 x0).bind fun y3 =>
    gO y3 12 x0 (
    (fX12_standNow y3 x0).bind fun y5 =>
    gO y3 12 x0 (
    (fX12_metIn y3 x0 y5).bind fun y7 =>
    (fX12_bitsOf y3 y7).bind fun y9 =>
    gO y3 12 x0 (
    (fX12_goesYear y3 x0 x1).bind fun y10 =>
    gO y10 12 x0 (
    (fX12_notes y10 x0).bind fun y12 =>
    gO y12 12 x0 (
    (fX12_standNow y12 x0).bind fun y14 =>
    gO y12 12 x0 (
    (fX12_metIn y12 x0 y14).bind fun y16 =>
    (fX12_bitsOf y12 y16).bind fun y18 =>
    some (((y18 - y9), y12))))))))))
theorem oX12_year_0 {d : Nat} (hd : 5 ≤ d) {h : Hp} {x0 : Nat} {x1 : Int32} {rf : Option Value} {hf : Hp} {x : (Int32 × Hp)} (hs : fX12_year h x0 x1 = some x) (hk : (kX12_year rf hf) x) : Go d mX12_year 0 [some (.ref x0), some (.int x1), none] [] h rf hf := by
  unfold fX12_year at hs
  refine go_aload_n (k4 := 0) rfl (Or.inr ⟨_, rfl⟩) dX12_year_0 ?_
  refine go_iconst (v := 0) (by decide) dX12_year_1 ?_
  obtain ⟨h1, eh1, hs⟩ := bindS hs
  refine go_sV fw_RX12_1 eh1 rfl rfl dX12_year_2 ?_
  refine go_iload_n (k4 := 1) rfl dX12_year_5 ?_
  refine go_i2l dX12_year_6 ?_
  obtain ⟨y2, ey2, hs⟩ := bindS hs
  refine go_S1 (As := [.long (x1.toInt64)]) (st := []) (oX12_isDry (d := d - 1) (by omega) ey2) (by omega) mb_X12_isDry lm_RX12_278 ms_X12_isDry (Nat.le_of_ble_eq_true rfl) rfl dX12_year_7 ?_
  refine go_if_ne (tgt := 16) (by decide) dX12_year_10 (fun c => ?_) (fun c => ?_)
  · have hs := if_f c hs
    refine go_aload_n (k4 := 0) rfl (Or.inr ⟨_, rfl⟩) dX12_year_16 ?_
    obtain ⟨g4, hs⟩ := gO_at hs
    obtain ⟨y3, ey3, hs⟩ := bindS hs
    refine go_V0 (As := []) (st := []) g4 rfl rfl (oX12_keeps (d := d - 1) (by omega) ey3) (by omega) mb_X12_keeps lm_RX12_297 mi_X12_keeps (Nat.le_of_ble_eq_true rfl) rfl dX12_year_17 ?_
    refine go_aload_n (k4 := 0) rfl (Or.inr ⟨_, rfl⟩) dX12_year_20 ?_
    refine go_aload_n (k4 := 0) rfl (Or.inr ⟨_, rfl⟩) dX12_year_21 ?_
    obtain ⟨g6, hs⟩ := gO_at hs
    obtain ⟨y5, ey5, hs⟩ := bindS hs
    refine go_V1 (As := []) (st := [.ref x0]) g6 rfl rfl (oX12_standNow (d := d - 1) (by omega) ey5) (by omega) mb_X12_standNow lm_RX12_282 mi_X12_standNow (Nat.le_of_ble_eq_true rfl) rfl dX12_year_22 ?_
    obtain ⟨g8, hs⟩ := gO_at hs
    obtain ⟨y7, ey7, hs⟩ := bindS hs
    refine go_V1 (As := [.int y5]) (st := []) g8 rfl rfl (oX12_metIn (d := d - 1) (by omega) ey7) (by omega) mb_X12_metIn lm_RX12_233 mi_X12_metIn (Nat.le_of_ble_eq_true rfl) rfl dX12_year_25 ?_
    obtain ⟨y9, ey9, hs⟩ := bindS hs
    refine go_S1 (As := [.int y7]) (st := []) (oX12_bitsOf (d := d - 1) (by omega) ey9) (by omega) mb_X12_bitsOf lm_RX12_236 ms_X12_bitsOf (Nat.le_of_ble_eq_true rfl) rfl dX12_year_28 ?_
    refine go_at 31 rfl ?_
    refine go_istore_n (k4 := 2) (L' := [some (.ref x0), some (.int x1), some (.int y9)]) (by decide) rfl dX12_year_31 ?_
    refine go_aload_n (k4 := 0) rfl (Or.inr ⟨_, rfl⟩) dX12_year_32 ?_
    refine go_iload_n (k4 := 1) rfl dX12_year_33 ?_
    obtain ⟨g11, hs⟩ := gO_at hs
    obtain ⟨y10, ey10, hs⟩ := bindS hs
    refine go_V0 (As := [.int x1]) (st := []) g11 rfl rfl (oX12_goesYear (d := d - 1) (by omega) ey10) (by omega) mb_X12_goesYear lm_RX12_300 mi_X12_goesYear (Nat.le_of_ble_eq_true rfl) rfl dX12_year_34 ?_
    refine go_aload_n (k4 := 0) rfl (Or.inr ⟨_, rfl⟩) dX12_year_37 ?_
    obtain ⟨g13, hs⟩ := gO_at hs
    obtain ⟨y12, ey12, hs⟩ := bindS hs
    refine go_V0 (As := []) (st := []) g13 rfl rfl (oX12_notes (d := d - 1) (by omega) ey12) (by omega) mb_X12_notes lm_RX12_303 mi_X12_notes (Nat.le_of_ble_eq_true rfl) rfl dX12_year_38 ?_
    refine go_aload_n (k4 := 0) rfl (Or.inr ⟨_, rfl⟩) dX12_year_41 ?_
    refine go_aload_n (k4 := 0) rfl (Or.inr ⟨_, rfl⟩) dX12_year_42 ?_
    refine go_at 43 rfl ?_
    obtain ⟨g15, hs⟩ := gO_at hs
    obtain ⟨y14, ey14, hs⟩ := bindS hs
    refine go_V1 (As := []) (st := [.ref x0]) g15 rfl rfl (oX12_standNow (d := d - 1) (by omega) ey14) (by omega) mb_X12_standNow lm_RX12_282 mi_X12_standNow (Nat.le_of_ble_eq_true rfl) rfl dX12_year_43 ?_
    obtain ⟨g17, hs⟩ := gO_at hs
    obtain ⟨y16, ey16, hs⟩ := bindS hs
    refine go_V1 (As := [.int y14]) (st := []) g17 rfl rfl (oX12_metIn (d := d - 1) (by omega) ey16) (by omega) mb_X12_metIn lm_RX12_233 mi_X12_metIn (Nat.le_of_ble_eq_true rfl) rfl dX12_year_46 ?_
    obtain ⟨y18, ey18, hs⟩ := bindS hs
    refine go_S1 (As := [.int y16]) (st := []) (oX12_bitsOf (d := d - 1) (by omega) ey18) (by omega) mb_X12_bitsOf lm_RX12_236 ms_X12_bitsOf (Nat.le_of_ble_eq_true rfl) rfl dX12_year_49 ?_
    refine go_iload_n (k4 := 2) rfl dX12_year_52 ?_
    refine go_isub dX12_year_53 ?_
    obtain rfl := Option.some.inj hs
    obtain ⟨rfl, rfl⟩ := hk
    exact go_iret rfl dX12_year_54
  · have hs := if_t c hs
    refine go_bipush (v := -11) (by decide) dX12_year_13 ?_
    obtain rfl := Option.some.inj hs
    obtain ⟨rfl, rfl⟩ := hk
    exact go_iret rfl dX12_year_15
theorem oX12_year {d : Nat} (hd : 5 ≤ d) {h : Hp} {x0 : Nat} {x1 : Int32} {y : (Int32 × Hp)} (hs : fX12_year h x0 x1 = some y) : Call d mX12_year [.ref x0, .int x1] h (some (.int y.1)) (y.2) := call_of (by decide +kernel) (Nat.le_of_ble_eq_true rfl) (show Go d mX12_year 0 [some (.ref x0), some (.int x1), none] [] h _ _ from go_subL (by simp [subL]) (oX12_year_0 hd hs ⟨rfl, rfl⟩))
abbrev kX12_lead (rf : Option Value) (hf : Hp) : (Int32 × Hp) → Prop := fun y => rf = some (.int y.1) ∧ hf = y.2
noncomputable def fX12_lead (h : Hp) (x0 : Nat) (x1 : Int32) : Option (Int32 × Hp) :=
  (sV h 12 x0 0 (.int (0 : Int32))).bind fun h1 =>
  gO h1 12 x0 (
  (fX12_isLead h1 x0 (x1.toInt64)).bind fun y2 =>
  if y2 = 0 then (
    some (((-11 : Int32), h1))) else (
    gO h1 12 x0 (
    (fX12_keeps h1 x0).bind fun y4 =>
    (gN y4 12 x0 1).bind fun v6 =>
    (wI 0 y4 v6 (23 : Int32) x1).bind fun h7 =>
    gO h7 12 x0 (
    (fX12_notes h7 x0).bind fun y8 =>
    (gN y8 12 x0 22).bind fun v10 =>
    (aI 0 y8 v10 (8 : Int32)).bind fun v11 =>
    some ((v11, y8))))))
theorem oX12_lead_0 {d : Nat} (hd : 1 ≤ d) {h : Hp} {x0 : Nat} {x1 : Int32} {rf : Option Value} {hf : Hp} {x : (Int32 × Hp)} (hs : fX12_lead h x0 x1 = some x) (hk : (kX12_lead rf hf) x) : Go d mX12_lead 0 [some (.ref x0), some (.int x1)] [] h rf hf := by
  unfold fX12_lead at hs
  refine go_aload_n (k4 := 0) rfl (Or.inr ⟨_, rfl⟩) dX12_lead_0 ?_
  refine go_iconst (v := 0) (by decide) dX12_lead_1 ?_
  obtain ⟨h1, eh1, hs⟩ := bindS hs
  refine go_sV fw_RX12_1 eh1 rfl rfl dX12_lead_2 ?_
  refine go_aload_n (k4 := 0) rfl (Or.inr ⟨_, rfl⟩) dX12_lead_5 ?_
  refine go_iload_n (k4 := 1) rfl dX12_lead_6 ?_
  refine go_i2l dX12_lead_7 ?_
  obtain ⟨g3, hs⟩ := gO_at hs
  obtain ⟨y2, ey2, hs⟩ := bindS hs
  refine go_V1 (As := [.long (x1.toInt64)]) (st := []) g3 rfl rfl (oX12_isLead (d := d - 1) (by omega) ey2) (by omega) mb_X12_isLead lm_RX12_288 mi_X12_isLead (Nat.le_of_ble_eq_true rfl) rfl dX12_lead_8 ?_
  refine go_at 11 rfl ?_
  refine go_if_ne (tgt := 17) (by decide) dX12_lead_11 (fun c => ?_) (fun c => ?_)
  · have hs := if_f c hs
    refine go_aload_n (k4 := 0) rfl (Or.inr ⟨_, rfl⟩) dX12_lead_17 ?_
    obtain ⟨g5, hs⟩ := gO_at hs
    obtain ⟨y4, ey4, hs⟩ := bindS hs
    refine go_V0 (As := []) (st := []) g5 rfl rfl (oX12_keeps (d := d - 1) (by omega) ey4) (by omega) mb_X12_keeps lm_RX12_297 mi_X12_keeps (Nat.le_of_ble_eq_true rfl) rfl dX12_lead_18 ?_
    refine go_aload_n (k4 := 0) rfl (Or.inr ⟨_, rfl⟩) dX12_lead_21 ?_
    obtain ⟨v6, ev6, hs⟩ := bindS hs
    refine go_gN fl_RX12_13 ev6 dX12_lead_22 ?_
    refine go_bipush (v := 23) (by decide) dX12_lead_25 ?_
    refine go_iload_n (k4 := 1) rfl dX12_lead_27 ?_
    obtain ⟨h7, eh7, hs⟩ := bindS hs
    refine go_wIi eh7 dX12_lead_28 ?_
    refine go_at 29 rfl ?_
    refine go_aload_n (k4 := 0) rfl (Or.inr ⟨_, rfl⟩) dX12_lead_29 ?_
    obtain ⟨g9, hs⟩ := gO_at hs
    obtain ⟨y8, ey8, hs⟩ := bindS hs
    refine go_V0 (As := []) (st := []) g9 rfl rfl (oX12_notes (d := d - 1) (by omega) ey8) (by omega) mb_X12_notes lm_RX12_303 mi_X12_notes (Nat.le_of_ble_eq_true rfl) rfl dX12_lead_30 ?_
    refine go_aload_n (k4 := 0) rfl (Or.inr ⟨_, rfl⟩) dX12_lead_33 ?_
    obtain ⟨v10, ev10, hs⟩ := bindS hs
    refine go_gN fl_RX12_45 ev10 dX12_lead_34 ?_
    refine go_bipush (v := 8) (by decide) dX12_lead_37 ?_
    obtain ⟨v11, ev11, hs⟩ := bindS hs
    refine go_aIi ev11 dX12_lead_39 ?_
    obtain rfl := Option.some.inj hs
    obtain ⟨rfl, rfl⟩ := hk
    exact go_iret rfl dX12_lead_40
  · have hs := if_t c hs
    refine go_bipush (v := -11) (by decide) dX12_lead_14 ?_
    obtain rfl := Option.some.inj hs
    obtain ⟨rfl, rfl⟩ := hk
    exact go_iret rfl dX12_lead_16
theorem oX12_lead {d : Nat} (hd : 1 ≤ d) {h : Hp} {x0 : Nat} {x1 : Int32} {y : (Int32 × Hp)} (hs : fX12_lead h x0 x1 = some y) : Call d mX12_lead [.ref x0, .int x1] h (some (.int y.1)) (y.2) := call_of (by decide +kernel) (Nat.le_of_ble_eq_true rfl) (show Go d mX12_lead 0 [some (.ref x0), some (.int x1)] [] h _ _ from go_subL (by simp [subL]) (oX12_lead_0 hd hs ⟨rfl, rfl⟩))
abbrev kX12_saw (rf : Option Value) (hf : Hp) : (Int32 × Hp) → Prop := fun y => rf = some (.int y.1) ∧ hf = y.2
noncomputable def fX12_saw (h : Hp) (x0 : Nat) (x1 : Int32) : Option (Int32 × Hp) :=
  (sV h 12 x0 0 (.int (0 : Int32))).bind fun h1 =>
  gO h1 12 x0 (
  (fX12_whySaw h1 x0 (x1.toInt64)).bind fun y2 =>
  if y2 = 0 then (
    gO h1 12 x0 (
    (fX12_keeps h1 x0).bind fun y4 =>
    (gN y4 12 x0 1).bind fun v6 =>
    (gN y4 12 x0 1).bind fun v7 =>
    (aI 0 y4 v7 ((11 : Int32) + x1)).bind fun v8 =>
    (wI 0 y4 v6 ((15 : Int32) + x1) v8).bind fun h9 =>
    gO h9 12 x0 (
    (fX12_notes h9 x0).bind fun y10 =>
    (gN y10 12 x0 22).bind fun v12 =>
    (aI 0 y10 v12 x1).bind fun v13 =>
    some ((v13, y10))))) else (
    some ((((-10 : Int32) - y2), h1))))
theorem oX12_saw_0 {d : Nat} (hd : 3 ≤ d) {h : Hp} {x0 : Nat} {x1 : Int32} {rf : Option Value} {hf : Hp} {x : (Int32 × Hp)} (hs : fX12_saw h x0 x1 = some x) (hk : (kX12_saw rf hf) x) : Go d mX12_saw 0 [some (.ref x0), some (.int x1), none] [] h rf hf := by
  unfold fX12_saw at hs
  refine go_aload_n (k4 := 0) rfl (Or.inr ⟨_, rfl⟩) dX12_saw_0 ?_
  refine go_iconst (v := 0) (by decide) dX12_saw_1 ?_
  obtain ⟨h1, eh1, hs⟩ := bindS hs
  refine go_sV fw_RX12_1 eh1 rfl rfl dX12_saw_2 ?_
  refine go_aload_n (k4 := 0) rfl (Or.inr ⟨_, rfl⟩) dX12_saw_5 ?_
  refine go_iload_n (k4 := 1) rfl dX12_saw_6 ?_
  refine go_i2l dX12_saw_7 ?_
  obtain ⟨g3, hs⟩ := gO_at hs
  obtain ⟨y2, ey2, hs⟩ := bindS hs
  refine go_V1 (As := [.long (x1.toInt64)]) (st := []) g3 rfl rfl (oX12_whySaw (d := d - 1) (by omega) ey2) (by omega) mb_X12_whySaw lm_RX12_306 mi_X12_whySaw (Nat.le_of_ble_eq_true rfl) rfl dX12_saw_8 ?_
  refine go_at 11 rfl ?_
  refine go_istore_n (k4 := 2) (L' := [some (.ref x0), some (.int x1), some (.int y2)]) (by decide) rfl dX12_saw_11 ?_
  refine go_iload_n (k4 := 2) rfl dX12_saw_12 ?_
  refine go_if_eq (tgt := 21) (by decide) dX12_saw_13 (fun c => ?_) (fun c => ?_)
  · have hs := if_t c hs
    refine go_aload_n (k4 := 0) rfl (Or.inr ⟨_, rfl⟩) dX12_saw_21 ?_
    obtain ⟨g5, hs⟩ := gO_at hs
    obtain ⟨y4, ey4, hs⟩ := bindS hs
    refine go_V0 (As := []) (st := []) g5 rfl rfl (oX12_keeps (d := d - 1) (by omega) ey4) (by omega) mb_X12_keeps lm_RX12_297 mi_X12_keeps (Nat.le_of_ble_eq_true rfl) rfl dX12_saw_22 ?_
    refine go_aload_n (k4 := 0) rfl (Or.inr ⟨_, rfl⟩) dX12_saw_25 ?_
    obtain ⟨v6, ev6, hs⟩ := bindS hs
    refine go_gN fl_RX12_13 ev6 dX12_saw_26 ?_
    refine go_bipush (v := 15) (by decide) dX12_saw_29 ?_
    refine go_iload_n (k4 := 1) rfl dX12_saw_31 ?_
    refine go_iadd dX12_saw_32 ?_
    refine go_at 33 rfl ?_
    refine go_aload_n (k4 := 0) rfl (Or.inr ⟨_, rfl⟩) dX12_saw_33 ?_
    obtain ⟨v7, ev7, hs⟩ := bindS hs
    refine go_gN fl_RX12_13 ev7 dX12_saw_34 ?_
    refine go_bipush (v := 11) (by decide) dX12_saw_37 ?_
    refine go_iload_n (k4 := 1) rfl dX12_saw_39 ?_
    refine go_iadd dX12_saw_40 ?_
    obtain ⟨v8, ev8, hs⟩ := bindS hs
    refine go_aIi ev8 dX12_saw_41 ?_
    obtain ⟨h9, eh9, hs⟩ := bindS hs
    refine go_wIi eh9 dX12_saw_42 ?_
    refine go_aload_n (k4 := 0) rfl (Or.inr ⟨_, rfl⟩) dX12_saw_43 ?_
    refine go_at 44 rfl ?_
    obtain ⟨g11, hs⟩ := gO_at hs
    obtain ⟨y10, ey10, hs⟩ := bindS hs
    refine go_V0 (As := []) (st := []) g11 rfl rfl (oX12_notes (d := d - 1) (by omega) ey10) (by omega) mb_X12_notes lm_RX12_303 mi_X12_notes (Nat.le_of_ble_eq_true rfl) rfl dX12_saw_44 ?_
    refine go_aload_n (k4 := 0) rfl (Or.inr ⟨_, rfl⟩) dX12_saw_47 ?_
    obtain ⟨v12, ev12, hs⟩ := bindS hs
    refine go_gN fl_RX12_45 ev12 dX12_saw_48 ?_
    refine go_iload_n (k4 := 1) rfl dX12_saw_51 ?_
    obtain ⟨v13, ev13, hs⟩ := bindS hs
    refine go_aIi ev13 dX12_saw_52 ?_
    obtain rfl := Option.some.inj hs
    obtain ⟨rfl, rfl⟩ := hk
    exact go_iret rfl dX12_saw_53
  · have hs := if_f c hs
    refine go_bipush (v := -10) (by decide) dX12_saw_16 ?_
    refine go_iload_n (k4 := 2) rfl dX12_saw_18 ?_
    refine go_isub dX12_saw_19 ?_
    obtain rfl := Option.some.inj hs
    obtain ⟨rfl, rfl⟩ := hk
    exact go_iret rfl dX12_saw_20
theorem oX12_saw {d : Nat} (hd : 3 ≤ d) {h : Hp} {x0 : Nat} {x1 : Int32} {y : (Int32 × Hp)} (hs : fX12_saw h x0 x1 = some y) : Call d mX12_saw [.ref x0, .int x1] h (some (.int y.1)) (y.2) := call_of (by decide +kernel) (Nat.le_of_ble_eq_true rfl) (show Go d mX12_saw 0 [some (.ref x0), some (.int x1), none] [] h _ _ from go_subL (by simp [subL]) (oX12_saw_0 hd hs ⟨rfl, rfl⟩))
abbrev kX12_chalk (rf : Option Value) (hf : Hp) : (Int32 × Hp) → Prop := fun y => rf = some (.int y.1) ∧ hf = y.2
noncomputable def fX12_chalk_26 (h : Hp)  : Option (Int32 × Hp) :=
  some (((-11 : Int32), h))
theorem oX12_chalk_26 {d : Nat} (hd : 2 ≤ d) {h : Hp} {rf : Option Value} {hf : Hp} {x : (Int32 × Hp)} (hs : fX12_chalk_26 h  = some x) (hk : (kX12_chalk rf hf) x) : Go d mX12_chalk 26 [none, none, none] [] h rf hf := by
  unfold fX12_chalk_26 at hs
  refine go_bipush (v := -11) (by decide) dX12_chalk_26 ?_
  obtain rfl := Option.some.inj hs
  obtain ⟨rfl, rfl⟩ := hk
  exact go_iret rfl dX12_chalk_28
noncomputable def fX12_chalk (h : Hp) (x0 : Nat) (x1 : Int32) (x2 : Int32) : Option (Int32 × Hp) :=
  (sV h 12 x0 0 (.int (0 : Int32))).bind fun h1 =>
  gO h1 12 x0 (
  (fX12_isPair h1 x0 (x1.toInt64)).bind fun y2 =>
  if y2 = 0 then (
  fX12_chalk_26 h1 ) else (
    (fX12_within h1 (x2.toInt64) (0 : Int64) (9 : Int64)).bind fun y4 =>
    if y4 = 0 then (
    fX12_chalk_26 h1 ) else (
      gO h1 12 x0 (
      (fX12_keeps h1 x0).bind fun y5 =>
      (gN y5 12 x0 1).bind fun v7 =>
      (wI 0 y5 v7 ((19 : Int32) + x1) x2).bind fun h8 =>
      gO h8 12 x0 (
      (fX12_notes h8 x0).bind fun y9 =>
      (gN y9 12 x0 22).bind fun v11 =>
      (aI 0 y9 v11 ((4 : Int32) + x1)).bind fun v12 =>
      some ((v12, y9)))))))
theorem oX12_chalk_0 {d : Nat} (hd : 2 ≤ d) {h : Hp} {x0 : Nat} {x1 : Int32} {x2 : Int32} {rf : Option Value} {hf : Hp} {x : (Int32 × Hp)} (hs : fX12_chalk h x0 x1 x2 = some x) (hk : (kX12_chalk rf hf) x) : Go d mX12_chalk 0 [some (.ref x0), some (.int x1), some (.int x2)] [] h rf hf := by
  unfold fX12_chalk at hs
  refine go_aload_n (k4 := 0) rfl (Or.inr ⟨_, rfl⟩) dX12_chalk_0 ?_
  refine go_iconst (v := 0) (by decide) dX12_chalk_1 ?_
  obtain ⟨h1, eh1, hs⟩ := bindS hs
  refine go_sV fw_RX12_1 eh1 rfl rfl dX12_chalk_2 ?_
  refine go_aload_n (k4 := 0) rfl (Or.inr ⟨_, rfl⟩) dX12_chalk_5 ?_
  refine go_iload_n (k4 := 1) rfl dX12_chalk_6 ?_
  refine go_i2l dX12_chalk_7 ?_
  obtain ⟨g3, hs⟩ := gO_at hs
  obtain ⟨y2, ey2, hs⟩ := bindS hs
  refine go_V1 (As := [.long (x1.toInt64)]) (st := []) g3 rfl rfl (oX12_isPair (d := d - 1) (by omega) ey2) (by omega) mb_X12_isPair lm_RX12_271 mi_X12_isPair (Nat.le_of_ble_eq_true rfl) rfl dX12_chalk_8 ?_
  refine go_at 11 rfl ?_
  refine go_if_eq (tgt := 26) (by decide) dX12_chalk_11 (fun c => ?_) (fun c => ?_)
  · have hs := if_t c hs
    exact go_subL (L' := [none, none, none]) (by simp [subL, va_rf]) (oX12_chalk_26 hd hs hk)
  · have hs := if_f c hs
    refine go_iload_n (k4 := 2) rfl dX12_chalk_14 ?_
    refine go_i2l dX12_chalk_15 ?_
    refine go_lconst (v := 0) (by decide) dX12_chalk_16 ?_
    refine go_ldc2 lc_RX12_310 dX12_chalk_17 ?_
    obtain ⟨y4, ey4, hs⟩ := bindS hs
    refine go_S1 (As := [.long (x2.toInt64), .long (0 : Int64), .long (9 : Int64)]) (st := []) (oX12_within (d := d - 1) (by omega) ey4) (by omega) mb_X12_within lm_RX12_155 ms_X12_within (Nat.le_of_ble_eq_true rfl) rfl dX12_chalk_20 ?_
    refine go_if_ne (tgt := 29) (by decide) dX12_chalk_23 (fun c => ?_) (fun c => ?_)
    · have hs := if_f c hs
      refine go_aload_n (k4 := 0) rfl (Or.inr ⟨_, rfl⟩) dX12_chalk_29 ?_
      obtain ⟨g6, hs⟩ := gO_at hs
      obtain ⟨y5, ey5, hs⟩ := bindS hs
      refine go_V0 (As := []) (st := []) g6 rfl rfl (oX12_keeps (d := d - 1) (by omega) ey5) (by omega) mb_X12_keeps lm_RX12_297 mi_X12_keeps (Nat.le_of_ble_eq_true rfl) rfl dX12_chalk_30 ?_
      refine go_aload_n (k4 := 0) rfl (Or.inr ⟨_, rfl⟩) dX12_chalk_33 ?_
      obtain ⟨v7, ev7, hs⟩ := bindS hs
      refine go_gN fl_RX12_13 ev7 dX12_chalk_34 ?_
      refine go_bipush (v := 19) (by decide) dX12_chalk_37 ?_
      refine go_iload_n (k4 := 1) rfl dX12_chalk_39 ?_
      refine go_iadd dX12_chalk_40 ?_
      refine go_at 41 rfl ?_
      refine go_iload_n (k4 := 2) rfl dX12_chalk_41 ?_
      obtain ⟨h8, eh8, hs⟩ := bindS hs
      refine go_wIi eh8 dX12_chalk_42 ?_
      refine go_aload_n (k4 := 0) rfl (Or.inr ⟨_, rfl⟩) dX12_chalk_43 ?_
      obtain ⟨g10, hs⟩ := gO_at hs
      obtain ⟨y9, ey9, hs⟩ := bindS hs
      refine go_V0 (As := []) (st := []) g10 rfl rfl (oX12_notes (d := d - 1) (by omega) ey9) (by omega) mb_X12_notes lm_RX12_303 mi_X12_notes (Nat.le_of_ble_eq_true rfl) rfl dX12_chalk_44 ?_
      refine go_aload_n (k4 := 0) rfl (Or.inr ⟨_, rfl⟩) dX12_chalk_47 ?_
      obtain ⟨v11, ev11, hs⟩ := bindS hs
      refine go_gN fl_RX12_45 ev11 dX12_chalk_48 ?_
      refine go_iconst (v := 4) (by decide) dX12_chalk_51 ?_
      refine go_iload_n (k4 := 1) rfl dX12_chalk_52 ?_
      refine go_at 53 rfl ?_
      refine go_iadd dX12_chalk_53 ?_
      obtain ⟨v12, ev12, hs⟩ := bindS hs
      refine go_aIi ev12 dX12_chalk_54 ?_
      obtain rfl := Option.some.inj hs
      obtain ⟨rfl, rfl⟩ := hk
      exact go_iret rfl dX12_chalk_55
    · have hs := if_t c hs
      exact go_subL (L' := [none, none, none]) (by simp [subL, va_rf]) (oX12_chalk_26 hd hs hk)
theorem oX12_chalk {d : Nat} (hd : 2 ≤ d) {h : Hp} {x0 : Nat} {x1 : Int32} {x2 : Int32} {y : (Int32 × Hp)} (hs : fX12_chalk h x0 x1 x2 = some y) : Call d mX12_chalk [.ref x0, .int x1, .int x2] h (some (.int y.1)) (y.2) := call_of (by decide +kernel) (Nat.le_of_ble_eq_true rfl) (show Go d mX12_chalk 0 [some (.ref x0), some (.int x1), some (.int x2)] [] h _ _ from go_subL (by simp [subL]) (oX12_chalk_0 hd hs ⟨rfl, rfl⟩))
abbrev kX12_undo (rf : Option Value) (hf : Hp) : (Int32 × Hp) → Prop := fun y => rf = some (.int y.1) ∧ hf = y.2
noncomputable def fX12_undo_28 (h : Hp)  : Option (Int32 × Hp) :=
  some (((-3 : Int32), h))
theorem oX12_undo_28 {d : Nat} (hd : 1 ≤ d) {h : Hp} {rf : Option Value} {hf : Hp} {x : (Int32 × Hp)} (hs : fX12_undo_28 h  = some x) (hk : (kX12_undo rf hf) x) : Go d mX12_undo 28 [none, none, none] [] h rf hf := by
  unfold fX12_undo_28 at hs
  refine go_bipush (v := -3) (by decide) dX12_undo_28 ?_
  obtain rfl := Option.some.inj hs
  obtain ⟨rfl, rfl⟩ := hk
  exact go_iret rfl dX12_undo_30
abbrev pX12_undo_44 (d : Nat) (x0 : Nat) (rf : Option Value) (hf : Hp) : (Int32 × Hp) → Prop := fun s => Go d mX12_undo 44 [some (.ref x0), none, some (.int s.1)] [] s.2 rf hf
noncomputable def fX12_undo_44b (h : Hp) (x0 : Nat) (x2 : Int32) : Option ((Int32 × Hp) ⊕ (Int32 × Hp)) :=
  if (11 : Int32) ≤ x2 then (
    (gN h 12 x0 1).bind fun v8 =>
    (aI 0 h v8 (26 : Int32)).bind fun v9 =>
    some (.inr (v9, h))) else (
    (gN h 12 x0 1).bind fun v10 =>
    (gN h 12 x0 1).bind fun v11 =>
    (gN h 12 x0 1).bind fun v12 =>
    (aI 0 h v12 (26 : Int32)).bind fun v13 =>
    (aI 0 h v11 (((27 : Int32) + ((11 : Int32) * v13)) + x2)).bind fun v14 =>
    (wI 0 h v10 ((15 : Int32) + x2) v14).bind fun h15 =>
    some (.inl ((x2 + Int32.ofInt 1), h15)))
noncomputable def fX12_undo_44 (h : Hp) (x0 : Nat) (x2 : Int32) : Option (Int32 × Hp) := lpw (σ := (Int32 × Hp)) (fun s => fX12_undo_44b s.2 x0 s.1) (x2, h)
theorem oX12_undo_44b {d : Nat} (hd : 1 ≤ d) {h : Hp} {x0 : Nat} {x2 : Int32} {rf : Option Value} {hf : Hp} {x : ((Int32 × Hp) ⊕ (Int32 × Hp))} (hs : fX12_undo_44b h x0 x2 = some x) (hk : (Kx (pX12_undo_44 d x0 rf hf) (kX12_undo rf hf)) x) : Go d mX12_undo 44 [some (.ref x0), none, some (.int x2)] [] h rf hf := by
  unfold fX12_undo_44b at hs
  refine go_iload_n (k4 := 2) rfl dX12_undo_44 ?_
  refine go_bipush (v := 11) (by decide) dX12_undo_45 ?_
  refine go_icmp_ge (tgt := 85) (by decide) dX12_undo_47 (fun c => ?_) (fun c => ?_)
  · have hs := if_t c hs
    refine go_aload_n (k4 := 0) rfl (Or.inr ⟨_, rfl⟩) dX12_undo_85 ?_
    obtain ⟨v8, ev8, hs⟩ := bindS hs
    refine go_gN fl_RX12_13 ev8 dX12_undo_86 ?_
    refine go_bipush (v := 26) (by decide) dX12_undo_89 ?_
    obtain ⟨v9, ev9, hs⟩ := bindS hs
    refine go_aIi ev9 dX12_undo_91 ?_
    obtain rfl := Option.some.inj hs
    obtain ⟨rfl, rfl⟩ := hk
    exact go_iret rfl dX12_undo_92
  · have hs := if_f c hs
    refine go_aload_n (k4 := 0) rfl (Or.inr ⟨_, rfl⟩) dX12_undo_50 ?_
    obtain ⟨v10, ev10, hs⟩ := bindS hs
    refine go_gN fl_RX12_13 ev10 dX12_undo_51 ?_
    refine go_bipush (v := 15) (by decide) dX12_undo_54 ?_
    refine go_iload_n (k4 := 2) rfl dX12_undo_56 ?_
    refine go_iadd dX12_undo_57 ?_
    refine go_aload_n (k4 := 0) rfl (Or.inr ⟨_, rfl⟩) dX12_undo_58 ?_
    obtain ⟨v11, ev11, hs⟩ := bindS hs
    refine go_gN fl_RX12_13 ev11 dX12_undo_59 ?_
    refine go_at 62 rfl ?_
    refine go_bipush (v := 27) (by decide) dX12_undo_62 ?_
    refine go_bipush (v := 11) (by decide) dX12_undo_64 ?_
    refine go_aload_n (k4 := 0) rfl (Or.inr ⟨_, rfl⟩) dX12_undo_66 ?_
    obtain ⟨v12, ev12, hs⟩ := bindS hs
    refine go_gN fl_RX12_13 ev12 dX12_undo_67 ?_
    refine go_bipush (v := 26) (by decide) dX12_undo_70 ?_
    obtain ⟨v13, ev13, hs⟩ := bindS hs
    refine go_aIi ev13 dX12_undo_72 ?_
    refine go_imul dX12_undo_73 ?_
    refine go_iadd dX12_undo_74 ?_
    refine go_at 75 rfl ?_
    refine go_iload_n (k4 := 2) rfl dX12_undo_75 ?_
    refine go_iadd dX12_undo_76 ?_
    obtain ⟨v14, ev14, hs⟩ := bindS hs
    refine go_aIi ev14 dX12_undo_77 ?_
    obtain ⟨h15, eh15, hs⟩ := bindS hs
    refine go_wIi eh15 dX12_undo_78 ?_
    refine go_iinc (L' := [some (.ref x0), none, some (.int (x2 + Int32.ofInt 1))]) rfl (by decide) rfl rfl dX12_undo_79 ?_
    refine go_goto (tgt := 44) (by decide) dX12_undo_82 ?_
    obtain rfl := Option.some.inj hs
    exact go_subL (L' := [some (.ref x0), none, some (.int (x2 + Int32.ofInt 1))]) (by simp [subL, va_rf]) hk
theorem oX12_undo_44 {d : Nat} (hd : 1 ≤ d) {h : Hp} {x0 : Nat} {x2 : Int32} {rf : Option Value} {hf : Hp} {x : (Int32 × Hp)} (hs : fX12_undo_44 h x0 x2 = some x) (hk : (kX12_undo rf hf) x) : Go d mX12_undo 44 [some (.ref x0), none, some (.int x2)] [] h rf hf := by
  unfold fX12_undo_44 at hs
  exact lpw_go (P := pX12_undo_44 d x0 rf hf) (fun s x hs hk => oX12_undo_44b hd hs hk) (x2, h) x hs hk
noncomputable def fX12_undo (h : Hp) (x0 : Nat) (x1 : Int32) : Option (Int32 × Hp) :=
  (sV h 12 x0 0 (.int (0 : Int32))).bind fun h1 =>
  (fX12_within h1 (x1.toInt64) (1 : Int64) (10 : Int64)).bind fun y2 =>
  if y2 = 0 then (
  fX12_undo_28 h1 ) else (
    (gN h1 12 x0 1).bind fun v3 =>
    (aI 0 h1 v3 (26 : Int32)).bind fun v4 =>
    if x1 ≤ v4 then (
      (gN h1 12 x0 1).bind fun v5 =>
      (aI 0 h1 v5 (26 : Int32)).bind fun v6 =>
      (wI 0 h1 v5 (26 : Int32) (v6 - x1)).bind fun h7 =>
      fX12_undo_44 h7 x0 (0 : Int32)) else (
    fX12_undo_28 h1 ))
theorem oX12_undo_0 {d : Nat} (hd : 1 ≤ d) {h : Hp} {x0 : Nat} {x1 : Int32} {rf : Option Value} {hf : Hp} {x : (Int32 × Hp)} (hs : fX12_undo h x0 x1 = some x) (hk : (kX12_undo rf hf) x) : Go d mX12_undo 0 [some (.ref x0), some (.int x1), none] [] h rf hf := by
  unfold fX12_undo at hs
  refine go_aload_n (k4 := 0) rfl (Or.inr ⟨_, rfl⟩) dX12_undo_0 ?_
  refine go_iconst (v := 0) (by decide) dX12_undo_1 ?_
  obtain ⟨h1, eh1, hs⟩ := bindS hs
  refine go_sV fw_RX12_1 eh1 rfl rfl dX12_undo_2 ?_
  refine go_iload_n (k4 := 1) rfl dX12_undo_5 ?_
  refine go_i2l dX12_undo_6 ?_
  refine go_lconst (v := 1) (by decide) dX12_undo_7 ?_
  refine go_ldc2 lc_RX12_312 dX12_undo_8 ?_
  refine go_at 11 rfl ?_
  obtain ⟨y2, ey2, hs⟩ := bindS hs
  refine go_S1 (As := [.long (x1.toInt64), .long (1 : Int64), .long (10 : Int64)]) (st := []) (oX12_within (d := d - 1) (by omega) ey2) (by omega) mb_X12_within lm_RX12_155 ms_X12_within (Nat.le_of_ble_eq_true rfl) rfl dX12_undo_11 ?_
  refine go_if_eq (tgt := 28) (by decide) dX12_undo_14 (fun c => ?_) (fun c => ?_)
  · have hs := if_t c hs
    exact go_subL (L' := [none, none, none]) (by simp [subL, va_rf]) (oX12_undo_28 hd hs hk)
  · have hs := if_f c hs
    refine go_iload_n (k4 := 1) rfl dX12_undo_17 ?_
    refine go_aload_n (k4 := 0) rfl (Or.inr ⟨_, rfl⟩) dX12_undo_18 ?_
    obtain ⟨v3, ev3, hs⟩ := bindS hs
    refine go_gN fl_RX12_13 ev3 dX12_undo_19 ?_
    refine go_bipush (v := 26) (by decide) dX12_undo_22 ?_
    obtain ⟨v4, ev4, hs⟩ := bindS hs
    refine go_aIi ev4 dX12_undo_24 ?_
    refine go_icmp_le (tgt := 31) (by decide) dX12_undo_25 (fun c => ?_) (fun c => ?_)
    · have hs := if_t c hs
      refine go_aload_n (k4 := 0) rfl (Or.inr ⟨_, rfl⟩) dX12_undo_31 ?_
      obtain ⟨v5, ev5, hs⟩ := bindS hs
      refine go_gN fl_RX12_13 ev5 dX12_undo_32 ?_
      refine go_bipush (v := 26) (by decide) dX12_undo_35 ?_
      refine go_dup2_11 rfl rfl dX12_undo_37 ?_
      obtain ⟨v6, ev6, hs⟩ := bindS hs
      refine go_aIi ev6 dX12_undo_38 ?_
      refine go_iload_n (k4 := 1) rfl dX12_undo_39 ?_
      refine go_isub dX12_undo_40 ?_
      refine go_at 41 rfl ?_
      obtain ⟨h7, eh7, hs⟩ := bindS hs
      refine go_wIi eh7 dX12_undo_41 ?_
      refine go_iconst (v := 0) (by decide) dX12_undo_42 ?_
      refine go_istore_n (k4 := 2) (L' := [some (.ref x0), some (.int x1), some (.int (0 : Int32))]) (by decide) rfl dX12_undo_43 ?_
      exact go_subL (L' := [some (.ref x0), none, some (.int (0 : Int32))]) (by simp [subL, va_rf]) (oX12_undo_44 hd hs hk)
    · have hs := if_f c hs
      exact go_subL (L' := [none, none, none]) (by simp [subL, va_rf]) (oX12_undo_28 hd hs hk)
theorem oX12_undo {d : Nat} (hd : 1 ≤ d) {h : Hp} {x0 : Nat} {x1 : Int32} {y : (Int32 × Hp)} (hs : fX12_undo h x0 x1 = some y) : Call d mX12_undo [.ref x0, .int x1] h (some (.int y.1)) (y.2) := call_of (by decide +kernel) (Nat.le_of_ble_eq_true rfl) (show Go d mX12_undo 0 [some (.ref x0), some (.int x1), none] [] h _ _ from go_subL (by simp [subL]) (oX12_undo_0 hd hs ⟨rfl, rfl⟩))
abbrev kX12_whyNot (h : Hp) (rf : Option Value) (hf : Hp) : Int32 → Prop := fun y => rf = some (.int y) ∧ hf = h
noncomputable def fX12_whyNot_97 (h : Hp) (s0 : Int32) : Option Int32 :=
  some (s0)
theorem oX12_whyNot_97 {d : Nat} (hd : 3 ≤ d) {h : Hp} {s0 : Int32} {rf : Option Value} {hf : Hp} {x : Int32} (hs : fX12_whyNot_97 h s0 = some x) (hk : (kX12_whyNot h rf hf) x) : Go d mX12_whyNot 97 [none, none, none] [.int s0] h rf hf := by
  unfold fX12_whyNot_97 at hs
  obtain rfl := Option.some.inj hs
  obtain ⟨rfl, rfl⟩ := hk
  exact go_iret rfl dX12_whyNot_97
noncomputable def fX12_whyNot_96 (h : Hp)  : Option Int32 :=
  fX12_whyNot_97 h (1 : Int32)
theorem oX12_whyNot_96 {d : Nat} (hd : 3 ≤ d) {h : Hp} {rf : Option Value} {hf : Hp} {x : Int32} (hs : fX12_whyNot_96 h  = some x) (hk : (kX12_whyNot h rf hf) x) : Go d mX12_whyNot 96 [none, none, none] [] h rf hf := by
  unfold fX12_whyNot_96 at hs
  refine go_iconst (v := 1) (by decide) dX12_whyNot_96 ?_
  exact go_subL (L' := [none, none, none]) (by simp [subL, va_rf]) (oX12_whyNot_97 hd hs hk)
noncomputable def fX12_whyNot_66 (h : Hp) (s0 : Int32) : Option Int32 :=
  some (s0)
theorem oX12_whyNot_66 {d : Nat} (hd : 3 ≤ d) {h : Hp} {s0 : Int32} {rf : Option Value} {hf : Hp} {x : Int32} (hs : fX12_whyNot_66 h s0 = some x) (hk : (kX12_whyNot h rf hf) x) : Go d mX12_whyNot 66 [none, none, none] [.int s0] h rf hf := by
  unfold fX12_whyNot_66 at hs
  obtain rfl := Option.some.inj hs
  obtain ⟨rfl, rfl⟩ := hk
  exact go_iret rfl dX12_whyNot_66
noncomputable def fX12_whyNot (h : Hp) (x0 : Nat) (x1 : Int64) : Option Int32 :=
  (fX12_isDry h x1).bind fun y1 =>
  if y1 = 0 then (
    (fX12_within h x1 (10 : Int64) (19 : Int64)).bind fun y2 =>
    if y2 = 0 then (
      (fX12_within h x1 (100 : Int64) (199 : Int64)).bind fun y3 =>
      if y3 = 0 then (
        (fX12_within h x1 (1000 : Int64) (1999 : Int64)).bind fun y4 =>
        if y4 = 0 then (
        fX12_whyNot_96 h ) else (
          gO h 12 x0 (
          (fX12_isLead h x0 (x1 - (1000 : Int64))).bind fun y5 =>
          if y5 = 0 then (
          fX12_whyNot_96 h ) else (
            fX12_whyNot_97 h (0 : Int32))))) else (
        (dvl (x1 - (100 : Int64)) (10 : Int64)).bind fun v7 =>
        gO h 12 x0 (
        (fX12_isPair h x0 v7).bind fun y8 =>
        if y8 = 0 then (
          fX12_whyNot_66 h (1 : Int32)) else (
          fX12_whyNot_66 h (0 : Int32))))) else (
      gO h 12 x0 (
      (fX12_whySaw h x0 (x1 - (10 : Int64))).bind fun y10 =>
      some (y10)))) else (
    some ((0 : Int32)))
theorem oX12_whyNot_0 {d : Nat} (hd : 3 ≤ d) {h : Hp} {x0 : Nat} {x1 : Int64} {rf : Option Value} {hf : Hp} {x : Int32} (hs : fX12_whyNot h x0 x1 = some x) (hk : (kX12_whyNot h rf hf) x) : Go d mX12_whyNot 0 [some (.ref x0), some (.long x1), none] [] h rf hf := by
  unfold fX12_whyNot at hs
  refine go_lload_n (k4 := 1) rfl dX12_whyNot_0 ?_
  obtain ⟨y1, ey1, hs⟩ := bindS hs
  refine go_S1 (As := [.long x1]) (st := []) (oX12_isDry (d := d - 1) (by omega) ey1) (by omega) mb_X12_isDry lm_RX12_278 ms_X12_isDry (Nat.le_of_ble_eq_true rfl) rfl dX12_whyNot_1 ?_
  refine go_if_eq (tgt := 9) (by decide) dX12_whyNot_4 (fun c => ?_) (fun c => ?_)
  · have hs := if_t c hs
    refine go_lload_n (k4 := 1) rfl dX12_whyNot_9 ?_
    refine go_ldc2 lc_RX12_312 dX12_whyNot_10 ?_
    refine go_ldc2 lc_RX12_314 dX12_whyNot_13 ?_
    obtain ⟨y2, ey2, hs⟩ := bindS hs
    refine go_S1 (As := [.long x1, .long (10 : Int64), .long (19 : Int64)]) (st := []) (oX12_within (d := d - 1) (by omega) ey2) (by omega) mb_X12_within lm_RX12_155 ms_X12_within (Nat.le_of_ble_eq_true rfl) rfl dX12_whyNot_16 ?_
    refine go_if_eq (tgt := 32) (by decide) dX12_whyNot_19 (fun c => ?_) (fun c => ?_)
    · have hs := if_t c hs
      refine go_lload_n (k4 := 1) rfl dX12_whyNot_32 ?_
      refine go_ldc2 lc_RX12_316 dX12_whyNot_33 ?_
      refine go_ldc2 lc_RX12_318 dX12_whyNot_36 ?_
      obtain ⟨y3, ey3, hs⟩ := bindS hs
      refine go_S1 (As := [.long x1, .long (100 : Int64), .long (199 : Int64)]) (st := []) (oX12_within (d := d - 1) (by omega) ey3) (by omega) mb_X12_within lm_RX12_155 ms_X12_within (Nat.le_of_ble_eq_true rfl) rfl dX12_whyNot_39 ?_
      refine go_if_eq (tgt := 67) (by decide) dX12_whyNot_42 (fun c => ?_) (fun c => ?_)
      · have hs := if_t c hs
        refine go_lload_n (k4 := 1) rfl dX12_whyNot_67 ?_
        refine go_ldc2 lc_RX12_320 dX12_whyNot_68 ?_
        refine go_ldc2 lc_RX12_322 dX12_whyNot_71 ?_
        obtain ⟨y4, ey4, hs⟩ := bindS hs
        refine go_S1 (As := [.long x1, .long (1000 : Int64), .long (1999 : Int64)]) (st := []) (oX12_within (d := d - 1) (by omega) ey4) (by omega) mb_X12_within lm_RX12_155 ms_X12_within (Nat.le_of_ble_eq_true rfl) rfl dX12_whyNot_74 ?_
        refine go_if_eq (tgt := 96) (by decide) dX12_whyNot_77 (fun c => ?_) (fun c => ?_)
        · have hs := if_t c hs
          exact go_subL (L' := [none, none, none]) (by simp [subL, va_rf]) (oX12_whyNot_96 hd hs hk)
        · have hs := if_f c hs
          refine go_aload_n (k4 := 0) rfl (Or.inr ⟨_, rfl⟩) dX12_whyNot_80 ?_
          refine go_lload_n (k4 := 1) rfl dX12_whyNot_81 ?_
          refine go_ldc2 lc_RX12_320 dX12_whyNot_82 ?_
          refine go_lsub dX12_whyNot_85 ?_
          obtain ⟨g6, hs⟩ := gO_at hs
          obtain ⟨y5, ey5, hs⟩ := bindS hs
          refine go_V1 (As := [.long (x1 - (1000 : Int64))]) (st := []) g6 rfl rfl (oX12_isLead (d := d - 1) (by omega) ey5) (by omega) mb_X12_isLead lm_RX12_288 mi_X12_isLead (Nat.le_of_ble_eq_true rfl) rfl dX12_whyNot_86 ?_
          refine go_if_eq (tgt := 96) (by decide) dX12_whyNot_89 (fun c => ?_) (fun c => ?_)
          · have hs := if_t c hs
            exact go_subL (L' := [none, none, none]) (by simp [subL, va_rf]) (oX12_whyNot_96 hd hs hk)
          · have hs := if_f c hs
            refine go_iconst (v := 0) (by decide) dX12_whyNot_92 ?_
            refine go_goto (tgt := 97) (by decide) dX12_whyNot_93 ?_
            exact go_subL (L' := [none, none, none]) (by simp [subL, va_rf]) (oX12_whyNot_97 hd hs hk)
      · have hs := if_f c hs
        refine go_aload_n (k4 := 0) rfl (Or.inr ⟨_, rfl⟩) dX12_whyNot_45 ?_
        refine go_lload_n (k4 := 1) rfl dX12_whyNot_46 ?_
        refine go_ldc2 lc_RX12_316 dX12_whyNot_47 ?_
        refine go_lsub dX12_whyNot_50 ?_
        refine go_ldc2 lc_RX12_312 dX12_whyNot_51 ?_
        obtain ⟨v7, ev7, hs⟩ := bindS hs
        refine go_dvl ev7 dX12_whyNot_54 ?_
        obtain ⟨g9, hs⟩ := gO_at hs
        obtain ⟨y8, ey8, hs⟩ := bindS hs
        refine go_V1 (As := [.long v7]) (st := []) g9 rfl rfl (oX12_isPair (d := d - 1) (by omega) ey8) (by omega) mb_X12_isPair lm_RX12_271 mi_X12_isPair (Nat.le_of_ble_eq_true rfl) rfl dX12_whyNot_55 ?_
        refine go_at 58 rfl ?_
        refine go_if_eq (tgt := 65) (by decide) dX12_whyNot_58 (fun c => ?_) (fun c => ?_)
        · have hs := if_t c hs
          refine go_iconst (v := 1) (by decide) dX12_whyNot_65 ?_
          exact go_subL (L' := [none, none, none]) (by simp [subL, va_rf]) (oX12_whyNot_66 hd hs hk)
        · have hs := if_f c hs
          refine go_iconst (v := 0) (by decide) dX12_whyNot_61 ?_
          refine go_goto (tgt := 66) (by decide) dX12_whyNot_62 ?_
          exact go_subL (L' := [none, none, none]) (by simp [subL, va_rf]) (oX12_whyNot_66 hd hs hk)
    · have hs := if_f c hs
      refine go_aload_n (k4 := 0) rfl (Or.inr ⟨_, rfl⟩) dX12_whyNot_22 ?_
      refine go_lload_n (k4 := 1) rfl dX12_whyNot_23 ?_
      refine go_ldc2 lc_RX12_312 dX12_whyNot_24 ?_
      refine go_lsub dX12_whyNot_27 ?_
      obtain ⟨g11, hs⟩ := gO_at hs
      obtain ⟨y10, ey10, hs⟩ := bindS hs
      refine go_V1 (As := [.long (x1 - (10 : Int64))]) (st := []) g11 rfl rfl (oX12_whySaw (d := d - 1) (by omega) ey10) (by omega) mb_X12_whySaw lm_RX12_306 mi_X12_whySaw (Nat.le_of_ble_eq_true rfl) rfl dX12_whyNot_28 ?_
      obtain rfl := Option.some.inj hs
      obtain ⟨rfl, rfl⟩ := hk
      exact go_iret rfl dX12_whyNot_31
  · have hs := if_f c hs
    refine go_iconst (v := 0) (by decide) dX12_whyNot_7 ?_
    obtain rfl := Option.some.inj hs
    obtain ⟨rfl, rfl⟩ := hk
    exact go_iret rfl dX12_whyNot_8
theorem oX12_whyNot {d : Nat} (hd : 3 ≤ d) {h : Hp} {x0 : Nat} {x1 : Int64} {y : Int32} (hs : fX12_whyNot h x0 x1 = some y) : Call d mX12_whyNot [.ref x0, .long x1] h (some (.int y)) h := call_of (by decide +kernel) (Nat.le_of_ble_eq_true rfl) (show Go d mX12_whyNot 0 [some (.ref x0), some (.long x1), none] [] h _ _ from go_subL (by simp [subL]) (oX12_whyNot_0 hd hs ⟨rfl, rfl⟩))
abbrev kX12_does (rf : Option Value) (hf : Hp) : Hp → Prop := fun y => rf = none ∧ hf = y
noncomputable def fX12_does_87 (h : Hp)  : Option Hp :=
  some (h)
theorem oX12_does_87 {d : Nat} (hd : 5 ≤ d) {h : Hp} {rf : Option Value} {hf : Hp} {x : Hp} (hs : fX12_does_87 h  = some x) (hk : (kX12_does rf hf) x) : Go d mX12_does 87 [none, none] [] h rf hf := by
  unfold fX12_does_87 at hs
  obtain rfl := Option.some.inj hs
  obtain ⟨rfl, rfl⟩ := hk
  exact go_vret rfl dX12_does_87
noncomputable def fX12_does (h : Hp) (x0 : Nat) (x1 : Int32) : Option Hp :=
  if (2 : Int32) ≤ x1 then (
    if (20 : Int32) ≤ x1 then (
      if (200 : Int32) ≤ x1 then (
        (gN h 12 x0 1).bind fun v1 =>
        (wI 0 h v1 (23 : Int32) (x1 - (1000 : Int32))).bind fun h2 =>
        fX12_does_87 h2 ) else (
        (gN h 12 x0 1).bind fun v3 =>
        (dv (x1 - (100 : Int32)) (10 : Int32)).bind fun v4 =>
        (rm x1 (10 : Int32)).bind fun v5 =>
        (wI 0 h v3 ((19 : Int32) + v4) v5).bind fun h6 =>
        fX12_does_87 h6 )) else (
      (gN h 12 x0 1).bind fun v7 =>
      (gN h 12 x0 1).bind fun v8 =>
      (aI 0 h v8 (((11 : Int32) + x1) - (10 : Int32))).bind fun v9 =>
      (wI 0 h v7 (((15 : Int32) + x1) - (10 : Int32)) v9).bind fun h10 =>
      fX12_does_87 h10 )) else (
    gO h 12 x0 (
    (fX12_goesYear h x0 x1).bind fun y11 =>
    fX12_does_87 y11 ))
theorem oX12_does_0 {d : Nat} (hd : 5 ≤ d) {h : Hp} {x0 : Nat} {x1 : Int32} {rf : Option Value} {hf : Hp} {x : Hp} (hs : fX12_does h x0 x1 = some x) (hk : (kX12_does rf hf) x) : Go d mX12_does 0 [some (.ref x0), some (.int x1)] [] h rf hf := by
  unfold fX12_does at hs
  refine go_iload_n (k4 := 1) rfl dX12_does_0 ?_
  refine go_iconst (v := 2) (by decide) dX12_does_1 ?_
  refine go_icmp_ge (tgt := 13) (by decide) dX12_does_2 (fun c => ?_) (fun c => ?_)
  · have hs := if_t c hs
    refine go_iload_n (k4 := 1) rfl dX12_does_13 ?_
    refine go_bipush (v := 20) (by decide) dX12_does_14 ?_
    refine go_icmp_ge (tgt := 46) (by decide) dX12_does_16 (fun c => ?_) (fun c => ?_)
    · have hs := if_t c hs
      refine go_iload_n (k4 := 1) rfl dX12_does_46 ?_
      refine go_sipush (v := 200) (by decide) dX12_does_47 ?_
      refine go_icmp_ge (tgt := 75) (by decide) dX12_does_50 (fun c => ?_) (fun c => ?_)
      · have hs := if_t c hs
        refine go_aload_n (k4 := 0) rfl (Or.inr ⟨_, rfl⟩) dX12_does_75 ?_
        obtain ⟨v1, ev1, hs⟩ := bindS hs
        refine go_gN fl_RX12_13 ev1 dX12_does_76 ?_
        refine go_bipush (v := 23) (by decide) dX12_does_79 ?_
        refine go_iload_n (k4 := 1) rfl dX12_does_81 ?_
        refine go_sipush (v := 1000) (by decide) dX12_does_82 ?_
        refine go_isub dX12_does_85 ?_
        obtain ⟨h2, eh2, hs⟩ := bindS hs
        refine go_wIi eh2 dX12_does_86 ?_
        exact go_subL (L' := [none, none]) (by simp [subL, va_rf]) (oX12_does_87 hd hs hk)
      · have hs := if_f c hs
        refine go_aload_n (k4 := 0) rfl (Or.inr ⟨_, rfl⟩) dX12_does_53 ?_
        obtain ⟨v3, ev3, hs⟩ := bindS hs
        refine go_gN fl_RX12_13 ev3 dX12_does_54 ?_
        refine go_bipush (v := 19) (by decide) dX12_does_57 ?_
        refine go_iload_n (k4 := 1) rfl dX12_does_59 ?_
        refine go_bipush (v := 100) (by decide) dX12_does_60 ?_
        refine go_isub dX12_does_62 ?_
        refine go_bipush (v := 10) (by decide) dX12_does_63 ?_
        refine go_at 65 rfl ?_
        obtain ⟨v4, ev4, hs⟩ := bindS hs
        refine go_dv ev4 dX12_does_65 ?_
        refine go_iadd dX12_does_66 ?_
        refine go_iload_n (k4 := 1) rfl dX12_does_67 ?_
        refine go_bipush (v := 10) (by decide) dX12_does_68 ?_
        obtain ⟨v5, ev5, hs⟩ := bindS hs
        refine go_rm ev5 dX12_does_70 ?_
        obtain ⟨h6, eh6, hs⟩ := bindS hs
        refine go_wIi eh6 dX12_does_71 ?_
        refine go_goto (tgt := 87) (by decide) dX12_does_72 ?_
        exact go_subL (L' := [none, none]) (by simp [subL, va_rf]) (oX12_does_87 hd hs hk)
    · have hs := if_f c hs
      refine go_aload_n (k4 := 0) rfl (Or.inr ⟨_, rfl⟩) dX12_does_19 ?_
      obtain ⟨v7, ev7, hs⟩ := bindS hs
      refine go_gN fl_RX12_13 ev7 dX12_does_20 ?_
      refine go_bipush (v := 15) (by decide) dX12_does_23 ?_
      refine go_iload_n (k4 := 1) rfl dX12_does_25 ?_
      refine go_iadd dX12_does_26 ?_
      refine go_bipush (v := 10) (by decide) dX12_does_27 ?_
      refine go_isub dX12_does_29 ?_
      refine go_at 30 rfl ?_
      refine go_aload_n (k4 := 0) rfl (Or.inr ⟨_, rfl⟩) dX12_does_30 ?_
      obtain ⟨v8, ev8, hs⟩ := bindS hs
      refine go_gN fl_RX12_13 ev8 dX12_does_31 ?_
      refine go_bipush (v := 11) (by decide) dX12_does_34 ?_
      refine go_iload_n (k4 := 1) rfl dX12_does_36 ?_
      refine go_iadd dX12_does_37 ?_
      refine go_bipush (v := 10) (by decide) dX12_does_38 ?_
      refine go_isub dX12_does_40 ?_
      obtain ⟨v9, ev9, hs⟩ := bindS hs
      refine go_aIi ev9 dX12_does_41 ?_
      refine go_at 42 rfl ?_
      obtain ⟨h10, eh10, hs⟩ := bindS hs
      refine go_wIi eh10 dX12_does_42 ?_
      refine go_goto (tgt := 87) (by decide) dX12_does_43 ?_
      exact go_subL (L' := [none, none]) (by simp [subL, va_rf]) (oX12_does_87 hd hs hk)
  · have hs := if_f c hs
    refine go_aload_n (k4 := 0) rfl (Or.inr ⟨_, rfl⟩) dX12_does_5 ?_
    refine go_iload_n (k4 := 1) rfl dX12_does_6 ?_
    obtain ⟨g12, hs⟩ := gO_at hs
    obtain ⟨y11, ey11, hs⟩ := bindS hs
    refine go_V0 (As := [.int x1]) (st := []) g12 rfl rfl (oX12_goesYear (d := d - 1) (by omega) ey11) (by omega) mb_X12_goesYear lm_RX12_300 mi_X12_goesYear (Nat.le_of_ble_eq_true rfl) rfl dX12_does_7 ?_
    refine go_goto (tgt := 87) (by decide) dX12_does_10 ?_
    exact go_subL (L' := [none, none]) (by simp [subL, va_rf]) (oX12_does_87 hd hs hk)
theorem oX12_does {d : Nat} (hd : 5 ≤ d) {h : Hp} {x0 : Nat} {x1 : Int32} {y : Hp} (hs : fX12_does h x0 x1 = some y) : Call d mX12_does [.ref x0, .int x1] h (none) y := call_of (by decide +kernel) (Nat.le_of_ble_eq_true rfl) (show Go d mX12_does 0 [some (.ref x0), some (.int x1)] [] h _ _ from go_subL (by simp [subL]) (oX12_does_0 hd hs ⟨rfl, rfl⟩))
abbrev kX12_tells (rf : Option Value) (hf : Hp) : (Int32 × Hp) → Prop := fun y => rf = some (.int y.1) ∧ hf = y.2
abbrev pX12_tells_7 (d : Nat) (x0 : Nat) (x1 : Int32) (rf : Option Value) (hf : Hp) : (Int32 × Hp) → Prop := fun s => Go d mX12_tells 7 [some (.ref x0), some (.int x1), some (.int s.1)] [] s.2 rf hf
noncomputable def fX12_tells_7b (h : Hp) (x0 : Nat) (x1 : Int32) (x2 : Int32) : Option ((Int32 × Hp) ⊕ (Int32 × Hp)) :=
  (gN h 12 x0 39).bind fun v2 =>
  (aI 0 h v2 x1).bind fun v3 =>
  if v3 ≤ x2 then (
    (gN h 12 x0 39).bind fun v4 =>
    (aI 0 h v4 x1).bind fun v5 =>
    some (.inr (v5, h))) else (
    (gN h 12 x0 40).bind fun v6 =>
    (aJ h v6 (((40 : Int32) * x1) + x2)).bind fun v7 =>
    gO h 12 x0 (
    (fX12_whyNot h x0 v7).bind fun y8 =>
    (sV h 12 x0 23 (.int y8)).bind fun h10 =>
    (gI h10 12 x0 23).bind fun v11 =>
    if v11 = 0 then (
      (gN h10 12 x0 40).bind fun v12 =>
      (aJ h10 v12 (((40 : Int32) * x1) + x2)).bind fun v13 =>
      gO h10 12 x0 (
      (fX12_does h10 x0 (v13.toInt32)).bind fun y14 =>
      some (.inl ((x2 + Int32.ofInt 1), y14)))) else (
      some (.inr (x2, h10)))))
noncomputable def fX12_tells_7 (h : Hp) (x0 : Nat) (x1 : Int32) (x2 : Int32) : Option (Int32 × Hp) := lpw (σ := (Int32 × Hp)) (fun s => fX12_tells_7b s.2 x0 x1 s.1) (x2, h)
theorem oX12_tells_7b {d : Nat} (hd : 6 ≤ d) {h : Hp} {x0 : Nat} {x1 : Int32} {x2 : Int32} {rf : Option Value} {hf : Hp} {x : ((Int32 × Hp) ⊕ (Int32 × Hp))} (hs : fX12_tells_7b h x0 x1 x2 = some x) (hk : (Kx (pX12_tells_7 d x0 x1 rf hf) (kX12_tells rf hf)) x) : Go d mX12_tells 7 [some (.ref x0), some (.int x1), some (.int x2)] [] h rf hf := by
  unfold fX12_tells_7b at hs
  refine go_iload_n (k4 := 2) rfl dX12_tells_7 ?_
  refine go_aload_n (k4 := 0) rfl (Or.inr ⟨_, rfl⟩) dX12_tells_8 ?_
  obtain ⟨v2, ev2, hs⟩ := bindS hs
  refine go_gN fl_RX12_83 ev2 dX12_tells_9 ?_
  refine go_iload_n (k4 := 1) rfl dX12_tells_12 ?_
  obtain ⟨v3, ev3, hs⟩ := bindS hs
  refine go_aIi ev3 dX12_tells_13 ?_
  refine go_icmp_ge (tgt := 67) (by decide) dX12_tells_14 (fun c => ?_) (fun c => ?_)
  · have hs := if_t c hs
    refine go_aload_n (k4 := 0) rfl (Or.inr ⟨_, rfl⟩) dX12_tells_67 ?_
    obtain ⟨v4, ev4, hs⟩ := bindS hs
    refine go_gN fl_RX12_83 ev4 dX12_tells_68 ?_
    refine go_iload_n (k4 := 1) rfl dX12_tells_71 ?_
    obtain ⟨v5, ev5, hs⟩ := bindS hs
    refine go_aIi ev5 dX12_tells_72 ?_
    obtain rfl := Option.some.inj hs
    obtain ⟨rfl, rfl⟩ := hk
    exact go_iret rfl dX12_tells_73
  · have hs := if_f c hs
    refine go_aload_n (k4 := 0) rfl (Or.inr ⟨_, rfl⟩) dX12_tells_17 ?_
    refine go_aload_n (k4 := 0) rfl (Or.inr ⟨_, rfl⟩) dX12_tells_18 ?_
    refine go_aload_n (k4 := 0) rfl (Or.inr ⟨_, rfl⟩) dX12_tells_19 ?_
    obtain ⟨v6, ev6, hs⟩ := bindS hs
    refine go_gN fl_RX12_86 ev6 dX12_tells_20 ?_
    refine go_bipush (v := 40) (by decide) dX12_tells_23 ?_
    refine go_iload_n (k4 := 1) rfl dX12_tells_25 ?_
    refine go_imul dX12_tells_26 ?_
    refine go_at 27 rfl ?_
    refine go_iload_n (k4 := 2) rfl dX12_tells_27 ?_
    refine go_iadd dX12_tells_28 ?_
    obtain ⟨v7, ev7, hs⟩ := bindS hs
    refine go_aJ ev7 dX12_tells_29 ?_
    obtain ⟨g9, hs⟩ := gO_at hs
    obtain ⟨y8, ey8, hs⟩ := bindS hs
    refine go_V1 (As := [.long v7]) (st := [.ref x0]) g9 rfl rfl (oX12_whyNot (d := d - 1) (by omega) ey8) (by omega) mb_X12_whyNot lm_RX12_327 mi_X12_whyNot (Nat.le_of_ble_eq_true rfl) rfl dX12_tells_30 ?_
    obtain ⟨h10, eh10, hs⟩ := bindS hs
    refine go_sV fw_RX12_324 eh10 rfl rfl dX12_tells_33 ?_
    refine go_aload_n (k4 := 0) rfl (Or.inr ⟨_, rfl⟩) dX12_tells_36 ?_
    obtain ⟨v11, ev11, hs⟩ := bindS hs
    refine go_gI fl_RX12_324 ev11 dX12_tells_37 ?_
    refine go_if_eq (tgt := 45) (by decide) dX12_tells_40 (fun c => ?_) (fun c => ?_)
    · have hs := if_t c hs
      refine go_aload_n (k4 := 0) rfl (Or.inr ⟨_, rfl⟩) dX12_tells_45 ?_
      refine go_aload_n (k4 := 0) rfl (Or.inr ⟨_, rfl⟩) dX12_tells_46 ?_
      obtain ⟨v12, ev12, hs⟩ := bindS hs
      refine go_gN fl_RX12_86 ev12 dX12_tells_47 ?_
      refine go_bipush (v := 40) (by decide) dX12_tells_50 ?_
      refine go_iload_n (k4 := 1) rfl dX12_tells_52 ?_
      refine go_imul dX12_tells_53 ?_
      refine go_iload_n (k4 := 2) rfl dX12_tells_54 ?_
      refine go_at 55 rfl ?_
      refine go_iadd dX12_tells_55 ?_
      obtain ⟨v13, ev13, hs⟩ := bindS hs
      refine go_aJ ev13 dX12_tells_56 ?_
      refine go_l2i dX12_tells_57 ?_
      obtain ⟨g15, hs⟩ := gO_at hs
      obtain ⟨y14, ey14, hs⟩ := bindS hs
      refine go_V0 (As := [.int (v13.toInt32)]) (st := []) g15 rfl rfl (oX12_does (d := d - 1) (by omega) ey14) (by omega) mb_X12_does lm_RX12_330 mi_X12_does (Nat.le_of_ble_eq_true rfl) rfl dX12_tells_58 ?_
      refine go_iinc (L' := [some (.ref x0), some (.int x1), some (.int (x2 + Int32.ofInt 1))]) rfl (by decide) rfl rfl dX12_tells_61 ?_
      refine go_goto (tgt := 7) (by decide) dX12_tells_64 ?_
      obtain rfl := Option.some.inj hs
      exact go_subL (L' := [some (.ref x0), some (.int x1), some (.int (x2 + Int32.ofInt 1))]) (by simp [subL, va_rf]) hk
    · have hs := if_f c hs
      refine go_iload_n (k4 := 2) rfl dX12_tells_43 ?_
      obtain rfl := Option.some.inj hs
      obtain ⟨rfl, rfl⟩ := hk
      exact go_iret rfl dX12_tells_44
theorem oX12_tells_7 {d : Nat} (hd : 6 ≤ d) {h : Hp} {x0 : Nat} {x1 : Int32} {x2 : Int32} {rf : Option Value} {hf : Hp} {x : (Int32 × Hp)} (hs : fX12_tells_7 h x0 x1 x2 = some x) (hk : (kX12_tells rf hf) x) : Go d mX12_tells 7 [some (.ref x0), some (.int x1), some (.int x2)] [] h rf hf := by
  unfold fX12_tells_7 at hs
  exact lpw_go (P := pX12_tells_7 d x0 x1 rf hf) (fun s x hs hk => oX12_tells_7b hd hs hk) (x2, h) x hs hk
noncomputable def fX12_tells (h : Hp) (x0 : Nat) (x1 : Int32) : Option (Int32 × Hp) :=
  (sV h 12 x0 23 (.int (0 : Int32))).bind fun h1 =>
  fX12_tells_7 h1 x0 x1 (0 : Int32)
theorem oX12_tells_0 {d : Nat} (hd : 6 ≤ d) {h : Hp} {x0 : Nat} {x1 : Int32} {rf : Option Value} {hf : Hp} {x : (Int32 × Hp)} (hs : fX12_tells h x0 x1 = some x) (hk : (kX12_tells rf hf) x) : Go d mX12_tells 0 [some (.ref x0), some (.int x1), none] [] h rf hf := by
  unfold fX12_tells at hs
  refine go_aload_n (k4 := 0) rfl (Or.inr ⟨_, rfl⟩) dX12_tells_0 ?_
  refine go_iconst (v := 0) (by decide) dX12_tells_1 ?_
  obtain ⟨h1, eh1, hs⟩ := bindS hs
  refine go_sV fw_RX12_324 eh1 rfl rfl dX12_tells_2 ?_
  refine go_iconst (v := 0) (by decide) dX12_tells_5 ?_
  refine go_istore_n (k4 := 2) (L' := [some (.ref x0), some (.int x1), some (.int (0 : Int32))]) (by decide) rfl dX12_tells_6 ?_
  exact go_subL (L' := [some (.ref x0), some (.int x1), some (.int (0 : Int32))]) (by simp [subL, va_rf]) (oX12_tells_7 hd hs hk)
theorem oX12_tells {d : Nat} (hd : 6 ≤ d) {h : Hp} {x0 : Nat} {x1 : Int32} {y : (Int32 × Hp)} (hs : fX12_tells h x0 x1 = some y) : Call d mX12_tells [.ref x0, .int x1] h (some (.int y.1)) (y.2) := call_of (by decide +kernel) (Nat.le_of_ble_eq_true rfl) (show Go d mX12_tells 0 [some (.ref x0), some (.int x1), none] [] h _ _ from go_subL (by simp [subL]) (oX12_tells_0 hd hs ⟨rfl, rfl⟩))
abbrev kX12_noTray (h : Hp) (rf : Option Value) (hf : Hp) : Int32 → Prop := fun y => rf = some (.int y) ∧ hf = h
noncomputable def fX12_noTray_33 (h : Hp) (s0 : Int32) : Option Int32 :=
  some (s0)
theorem oX12_noTray_33 {d : Nat} (hd : 1 ≤ d) {h : Hp} {s0 : Int32} {rf : Option Value} {hf : Hp} {x : Int32} (hs : fX12_noTray_33 h s0 = some x) (hk : (kX12_noTray h rf hf) x) : Go d mX12_noTray 33 [none, none] [.int s0] h rf hf := by
  unfold fX12_noTray_33 at hs
  obtain rfl := Option.some.inj hs
  obtain ⟨rfl, rfl⟩ := hk
  exact go_iret rfl dX12_noTray_33
noncomputable def fX12_noTray (h : Hp) (x0 : Nat) (x1 : Int32) : Option Int32 :=
  (fX12_within h (x1.toInt64) (0 : Int64) (3 : Int64)).bind fun y1 =>
  if y1 = 0 then (
    fX12_noTray_33 h (-2 : Int32)) else (
    (gN h 12 x0 38).bind fun v2 =>
    (aI 0 h v2 x1).bind fun v3 =>
    if v3 = (-1 : Int32) then (
      fX12_noTray_33 h (-6 : Int32)) else (
      fX12_noTray_33 h (0 : Int32)))
theorem oX12_noTray_0 {d : Nat} (hd : 1 ≤ d) {h : Hp} {x0 : Nat} {x1 : Int32} {rf : Option Value} {hf : Hp} {x : Int32} (hs : fX12_noTray h x0 x1 = some x) (hk : (kX12_noTray h rf hf) x) : Go d mX12_noTray 0 [some (.ref x0), some (.int x1)] [] h rf hf := by
  unfold fX12_noTray at hs
  refine go_iload_n (k4 := 1) rfl dX12_noTray_0 ?_
  refine go_i2l dX12_noTray_1 ?_
  refine go_lconst (v := 0) (by decide) dX12_noTray_2 ?_
  refine go_ldc2 lc_RX12_333 dX12_noTray_3 ?_
  obtain ⟨y1, ey1, hs⟩ := bindS hs
  refine go_S1 (As := [.long (x1.toInt64), .long (0 : Int64), .long (3 : Int64)]) (st := []) (oX12_within (d := d - 1) (by omega) ey1) (by omega) mb_X12_within lm_RX12_155 ms_X12_within (Nat.le_of_ble_eq_true rfl) rfl dX12_noTray_6 ?_
  refine go_if_ne (tgt := 17) (by decide) dX12_noTray_9 (fun c => ?_) (fun c => ?_)
  · have hs := if_f c hs
    refine go_aload_n (k4 := 0) rfl (Or.inr ⟨_, rfl⟩) dX12_noTray_17 ?_
    obtain ⟨v2, ev2, hs⟩ := bindS hs
    refine go_gN fl_RX12_80 ev2 dX12_noTray_18 ?_
    refine go_iload_n (k4 := 1) rfl dX12_noTray_21 ?_
    obtain ⟨v3, ev3, hs⟩ := bindS hs
    refine go_aIi ev3 dX12_noTray_22 ?_
    refine go_iconst (v := -1) (by decide) dX12_noTray_23 ?_
    refine go_icmp_ne (tgt := 32) (by decide) dX12_noTray_24 (fun c => ?_) (fun c => ?_)
    · have hs := if_f c hs
      refine go_iconst (v := 0) (by decide) dX12_noTray_32 ?_
      exact go_subL (L' := [none, none]) (by simp [subL, va_rf]) (oX12_noTray_33 hd hs hk)
    · have hs := if_t c hs
      refine go_bipush (v := -6) (by decide) dX12_noTray_27 ?_
      refine go_goto (tgt := 33) (by decide) dX12_noTray_29 ?_
      exact go_subL (L' := [none, none]) (by simp [subL, va_rf]) (oX12_noTray_33 hd hs hk)
  · have hs := if_t c hs
    refine go_bipush (v := -2) (by decide) dX12_noTray_12 ?_
    refine go_goto (tgt := 33) (by decide) dX12_noTray_14 ?_
    exact go_subL (L' := [none, none]) (by simp [subL, va_rf]) (oX12_noTray_33 hd hs hk)
theorem oX12_noTray {d : Nat} (hd : 1 ≤ d) {h : Hp} {x0 : Nat} {x1 : Int32} {y : Int32} (hs : fX12_noTray h x0 x1 = some y) : Call d mX12_noTray [.ref x0, .int x1] h (some (.int y)) h := call_of (by decide +kernel) (Nat.le_of_ble_eq_true rfl) (show Go d mX12_noTray 0 [some (.ref x0), some (.int x1)] [] h _ _ from go_subL (by simp [subL]) (oX12_noTray_0 hd hs ⟨rfl, rfl⟩))
