/-! methods: their texts as functions, and that the machine does just that -/
abbrev kX12_surely (rf : Option Value) (hf : Hp) : (Int32 × Hp) → Prop := fun y => rf = some (.int y.1) ∧ hf = y.2
abbrev pX12_surely_50 (d : Nat) (x0 : Nat) (x1 : Int32) (x2 : Int32) (x3 : Int32) (rf : Option Value) (hf : Hp) : (Int32 × Int32 × Int32 × Hp) → Prop := fun s => Go d mX12_surely 50 [some (.ref x0), some (.int x1), some (.int x2), some (.int x3), none, some (.int s.1), some (.int s.2.1), some (.int s.2.2.1), none] [] s.2.2.2 rf hf
noncomputable def fX12_surely_141 (h : Hp) (s0 : Int32) : Option (Int32 × Hp) :=
  some ((s0, h))
theorem oX12_surely_141 {d : Nat} (hd : 5 ≤ d) {h : Hp} {s0 : Int32} {rf : Option Value} {hf : Hp} {x : (Int32 × Hp)} (hs : fX12_surely_141 h s0 = some x) (hk : (kX12_surely rf hf) x) : Go d mX12_surely 141 [none, none, none, none, none, none, none, none, none] [.int s0] h rf hf := by
  unfold fX12_surely_141 at hs
  obtain rfl := Option.some.inj hs
  obtain ⟨rfl, rfl⟩ := hk
  exact go_iret rfl dX12_surely_141
noncomputable def fX12_surely_130 (h : Hp) (x5 : Int32) (x6 : Int32) : Option (Int32 × Hp) :=
  if x6 = 0 then (
    fX12_surely_141 h (0 : Int32)) else (
    fX12_surely_141 h x5)
theorem oX12_surely_130 {d : Nat} (hd : 5 ≤ d) {h : Hp} {x5 : Int32} {x6 : Int32} {rf : Option Value} {hf : Hp} {x : (Int32 × Hp)} (hs : fX12_surely_130 h x5 x6 = some x) (hk : (kX12_surely rf hf) x) : Go d mX12_surely 130 [none, none, none, none, none, some (.int x5), some (.int x6), none, none] [] h rf hf := by
  unfold fX12_surely_130 at hs
  refine go_iload rfl dX12_surely_130 ?_
  refine go_if_eq (tgt := 140) (by decide) dX12_surely_132 (fun c => ?_) (fun c => ?_)
  · have hs := if_t c hs
    refine go_iconst (v := 0) (by decide) dX12_surely_140 ?_
    exact go_subL (L' := [none, none, none, none, none, none, none, none, none]) (by simp [subL, va_rf]) (oX12_surely_141 hd hs hk)
  · have hs := if_f c hs
    refine go_iload rfl dX12_surely_135 ?_
    refine go_goto (tgt := 141) (by decide) dX12_surely_137 ?_
    exact go_subL (L' := [none, none, none, none, none, none, none, none, none]) (by simp [subL, va_rf]) (oX12_surely_141 hd hs hk)
abbrev pX12_surely_83 (d : Nat) (h : Hp) (x0 : Nat) (x1 : Int32) (x2 : Int32) (x3 : Int32) (x6 : Int32) (x7 : Int32) (rf : Option Value) (hf : Hp) : (Int32 × Int32) → Prop := fun s => Go d mX12_surely 83 [some (.ref x0), some (.int x1), some (.int x2), some (.int x3), none, some (.int s.1), some (.int x6), some (.int x7), some (.int s.2)] [] h rf hf
noncomputable def fX12_surely_124 (h : Hp) (x0 : Nat) (x1 : Int32) (x2 : Int32) (x3 : Int32) (x5 : Int32) (x6 : Int32) (x7 : Int32) : Option ((Int32 × Int32 × Int32 × Hp) ⊕ (Int32 × Hp)) :=
  some (.inl (x5, x6, (x7 + Int32.ofInt 1), h))
theorem oX12_surely_124 {d : Nat} (hd : 5 ≤ d) {h : Hp} {x0 : Nat} {x1 : Int32} {x2 : Int32} {x3 : Int32} {x5 : Int32} {x6 : Int32} {x7 : Int32} {rf : Option Value} {hf : Hp} {x : ((Int32 × Int32 × Int32 × Hp) ⊕ (Int32 × Hp))} (hs : fX12_surely_124 h x0 x1 x2 x3 x5 x6 x7 = some x) (hk : (Kx (pX12_surely_50 d x0 x1 x2 x3 rf hf) (kX12_surely rf hf)) x) : Go d mX12_surely 124 [some (.ref x0), some (.int x1), some (.int x2), some (.int x3), none, some (.int x5), some (.int x6), some (.int x7), none] [] h rf hf := by
  unfold fX12_surely_124 at hs
  refine go_iinc (L' := [some (.ref x0), some (.int x1), some (.int x2), some (.int x3), none, some (.int x5), some (.int x6), some (.int (x7 + Int32.ofInt 1)), none]) rfl (by decide) rfl rfl dX12_surely_124 ?_
  refine go_goto (tgt := 50) (by decide) dX12_surely_127 ?_
  obtain rfl := Option.some.inj hs
  exact go_subL (L' := [some (.ref x0), some (.int x1), some (.int x2), some (.int x3), none, some (.int x5), some (.int x6), some (.int (x7 + Int32.ofInt 1)), none]) (by simp [subL, va_rf]) hk
noncomputable def fX12_surely_118 (h : Hp) (x0 : Nat) (x1 : Int32) (x2 : Int32) (x3 : Int32) (x5 : Int32) (x6 : Int32) (x7 : Int32) (x8 : Int32) : Option ((Int32 × Int32) ⊕ ((Int32 × Int32 × Int32 × Hp) ⊕ (Int32 × Hp))) :=
  some (.inl (x5, (x8 + Int32.ofInt 1)))
theorem oX12_surely_118 {d : Nat} (hd : 5 ≤ d) {h : Hp} {x0 : Nat} {x1 : Int32} {x2 : Int32} {x3 : Int32} {x5 : Int32} {x6 : Int32} {x7 : Int32} {x8 : Int32} {rf : Option Value} {hf : Hp} {x : ((Int32 × Int32) ⊕ ((Int32 × Int32 × Int32 × Hp) ⊕ (Int32 × Hp)))} (hs : fX12_surely_118 h x0 x1 x2 x3 x5 x6 x7 x8 = some x) (hk : (Kx (pX12_surely_83 d h x0 x1 x2 x3 x6 x7 rf hf) (Kx (pX12_surely_50 d x0 x1 x2 x3 rf hf) (kX12_surely rf hf))) x) : Go d mX12_surely 118 [some (.ref x0), some (.int x1), some (.int x2), some (.int x3), none, some (.int x5), some (.int x6), some (.int x7), some (.int x8)] [] h rf hf := by
  unfold fX12_surely_118 at hs
  refine go_iinc (L' := [some (.ref x0), some (.int x1), some (.int x2), some (.int x3), none, some (.int x5), some (.int x6), some (.int x7), some (.int (x8 + Int32.ofInt 1))]) rfl (by decide) rfl rfl dX12_surely_118 ?_
  refine go_goto (tgt := 83) (by decide) dX12_surely_121 ?_
  obtain rfl := Option.some.inj hs
  exact go_subL (L' := [some (.ref x0), some (.int x1), some (.int x2), some (.int x3), none, some (.int x5), some (.int x6), some (.int x7), some (.int (x8 + Int32.ofInt 1))]) (by simp [subL, va_rf]) hk
noncomputable def fX12_surely_83b (h : Hp) (x0 : Nat) (x1 : Int32) (x2 : Int32) (x3 : Int32) (x6 : Int32) (x7 : Int32) (x5 : Int32) (x8 : Int32) : Option ((Int32 × Int32) ⊕ ((Int32 × Int32 × Int32 × Hp) ⊕ (Int32 × Hp))) :=
  (gN h 12 x0 39).bind fun v11 =>
  (aI 0 h v11 x1).bind fun v12 =>
  if v12 ≤ x8 then (
  (fX12_surely_124 h x0 x1 x2 x3 x5 x6 x7).map (fun q => .inr q)) else (
    gO h 12 x0 (
    (fX12_dryIn h x0 x1 x7 x8).bind fun y13 =>
    if y13 = x3 then (
    fX12_surely_118 h x0 x1 x2 x3 x5 x6 x7 x8) else (
      fX12_surely_118 h x0 x1 x2 x3 (x5 &&& (((1 : Int32) <<< (x8 &&& 31)) ^^^ (-1 : Int32))) x6 x7 x8)))
noncomputable def fX12_surely_83 (h : Hp) (x0 : Nat) (x1 : Int32) (x2 : Int32) (x3 : Int32) (x5 : Int32) (x6 : Int32) (x7 : Int32) (x8 : Int32) : Option ((Int32 × Int32 × Int32 × Hp) ⊕ (Int32 × Hp)) := lpw (σ := (Int32 × Int32)) (fun s => fX12_surely_83b h x0 x1 x2 x3 x6 x7 s.1 s.2) (x5, x8)
theorem oX12_surely_83b {d : Nat} (hd : 5 ≤ d) {h : Hp} {x0 : Nat} {x1 : Int32} {x2 : Int32} {x3 : Int32} {x5 : Int32} {x6 : Int32} {x7 : Int32} {x8 : Int32} {rf : Option Value} {hf : Hp} {x : ((Int32 × Int32) ⊕ ((Int32 × Int32 × Int32 × Hp) ⊕ (Int32 × Hp)))} (hs : fX12_surely_83b h x0 x1 x2 x3 x6 x7 x5 x8 = some x) (hk : (Kx (pX12_surely_83 d h x0 x1 x2 x3 x6 x7 rf hf) (Kx (pX12_surely_50 d x0 x1 x2 x3 rf hf) (kX12_surely rf hf))) x) : Go d mX12_surely 83 [some (.ref x0), some (.int x1), some (.int x2), some (.int x3), none, some (.int x5), some (.int x6), some (.int x7), some (.int x8)] [] h rf hf := by
  unfold fX12_surely_83b at hs
  refine go_iload rfl dX12_surely_83 ?_
  refine go_aload_n (k4 := 0) rfl (Or.inr ⟨_, rfl⟩) dX12_surely_85 ?_
  obtain ⟨v11, ev11, hs⟩ := bindS hs
  refine go_gN fl_RX12_83 ev11 dX12_surely_86 ?_
  refine go_iload_n (k4 := 1) rfl dX12_surely_89 ?_
  obtain ⟨v12, ev12, hs⟩ := bindS hs
  refine go_aIi ev12 dX12_surely_90 ?_
  refine go_icmp_ge (tgt := 124) (by decide) dX12_surely_91 (fun c => ?_) (fun c => ?_)
  · have hs := if_t c hs
    obtain ⟨q, hs2, hq⟩ := mapS hs
    clear hs
    subst hq
    exact go_subL (L' := [some (.ref x0), some (.int x1), some (.int x2), some (.int x3), none, some (.int x5), some (.int x6), some (.int x7), none]) (by simp [subL, va_rf]) (oX12_surely_124 hd hs2 hk)
  · have hs := if_f c hs
    refine go_aload_n (k4 := 0) rfl (Or.inr ⟨_, rfl⟩) dX12_surely_94 ?_
    refine go_iload_n (k4 := 1) rfl dX12_surely_95 ?_
    refine go_iload rfl dX12_surely_96 ?_
    refine go_iload rfl dX12_surely_98 ?_
    obtain ⟨g14, hs⟩ := gO_at hs
    obtain ⟨y13, ey13, hs⟩ := bindS hs
    refine go_V1 (As := [.int x1, .int x7, .int x8]) (st := []) g14 rfl rfl (oX12_dryIn (d := d - 1) (by omega) ey13) (by omega) mb_X12_dryIn lm_RX12_422 mi_X12_dryIn (Nat.le_of_ble_eq_true rfl) rfl dX12_surely_100 ?_
    refine go_iload_n (k4 := 3) rfl dX12_surely_103 ?_
    refine go_icmp_eq (tgt := 118) (by decide) dX12_surely_104 (fun c => ?_) (fun c => ?_)
    · have hs := if_t c hs
      exact go_subL (L' := [some (.ref x0), some (.int x1), some (.int x2), some (.int x3), none, some (.int x5), some (.int x6), some (.int x7), some (.int x8)]) (by simp [subL, va_rf]) (oX12_surely_118 hd hs hk)
    · have hs := if_f c hs
      refine go_iload rfl dX12_surely_107 ?_
      refine go_iconst (v := 1) (by decide) dX12_surely_109 ?_
      refine go_iload rfl dX12_surely_110 ?_
      refine go_ishl dX12_surely_112 ?_
      refine go_iconst (v := -1) (by decide) dX12_surely_113 ?_
      refine go_ixor dX12_surely_114 ?_
      refine go_iand dX12_surely_115 ?_
      refine go_at 116 rfl ?_
      refine go_istore (L' := [some (.ref x0), some (.int x1), some (.int x2), some (.int x3), none, some (.int (x5 &&& (((1 : Int32) <<< (x8 &&& 31)) ^^^ (-1 : Int32)))), some (.int x6), some (.int x7), some (.int x8)]) (by decide) rfl dX12_surely_116 ?_
      exact go_subL (L' := [some (.ref x0), some (.int x1), some (.int x2), some (.int x3), none, some (.int (x5 &&& (((1 : Int32) <<< (x8 &&& 31)) ^^^ (-1 : Int32)))), some (.int x6), some (.int x7), some (.int x8)]) (by simp [subL, va_rf]) (oX12_surely_118 hd hs hk)
theorem oX12_surely_83 {d : Nat} (hd : 5 ≤ d) {h : Hp} {x0 : Nat} {x1 : Int32} {x2 : Int32} {x3 : Int32} {x5 : Int32} {x6 : Int32} {x7 : Int32} {x8 : Int32} {rf : Option Value} {hf : Hp} {x : ((Int32 × Int32 × Int32 × Hp) ⊕ (Int32 × Hp))} (hs : fX12_surely_83 h x0 x1 x2 x3 x5 x6 x7 x8 = some x) (hk : (Kx (pX12_surely_50 d x0 x1 x2 x3 rf hf) (kX12_surely rf hf)) x) : Go d mX12_surely 83 [some (.ref x0), some (.int x1), some (.int x2), some (.int x3), none, some (.int x5), some (.int x6), some (.int x7), some (.int x8)] [] h rf hf := by
  unfold fX12_surely_83 at hs
  exact lpw_go (P := pX12_surely_83 d h x0 x1 x2 x3 x6 x7 rf hf) (fun s x hs hk => oX12_surely_83b hd hs hk) (x5, x8) x hs hk
noncomputable def fX12_surely_50b (h : Hp) (x0 : Nat) (x1 : Int32) (x2 : Int32) (x3 : Int32) (x5 : Int32) (x6 : Int32) (x7 : Int32) : Option ((Int32 × Int32 × Int32 × Hp) ⊕ (Int32 × Hp)) :=
  (gN h 12 x0 39).bind fun v7 =>
  (aI 0 h v7 x1).bind fun v8 =>
  if ((1 : Int32) <<< (v8 &&& 31)) ≤ x7 then (
  (fX12_surely_130 h x5 x6).map (fun q => .inr q)) else (
    gO h 12 x0 (
    (fX12_isSeen h x0 x1 x2 x7).bind fun y9 =>
    if y9.1 = 0 then (
      fX12_surely_124 y9.2 x0 x1 x2 x3 x5 x6 x7) else (
      fX12_surely_83 y9.2 x0 x1 x2 x3 x5 (1 : Int32) x7 (0 : Int32))))
noncomputable def fX12_surely_50 (h : Hp) (x0 : Nat) (x1 : Int32) (x2 : Int32) (x3 : Int32) (x5 : Int32) (x6 : Int32) (x7 : Int32) : Option (Int32 × Hp) := lpw (σ := (Int32 × Int32 × Int32 × Hp)) (fun s => fX12_surely_50b s.2.2.2 x0 x1 x2 x3 s.1 s.2.1 s.2.2.1) (x5, x6, x7, h)
theorem oX12_surely_50b {d : Nat} (hd : 5 ≤ d) {h : Hp} {x0 : Nat} {x1 : Int32} {x2 : Int32} {x3 : Int32} {x5 : Int32} {x6 : Int32} {x7 : Int32} {rf : Option Value} {hf : Hp} {x : ((Int32 × Int32 × Int32 × Hp) ⊕ (Int32 × Hp))} (hs : fX12_surely_50b h x0 x1 x2 x3 x5 x6 x7 = some x) (hk : (Kx (pX12_surely_50 d x0 x1 x2 x3 rf hf) (kX12_surely rf hf)) x) : Go d mX12_surely 50 [some (.ref x0), some (.int x1), some (.int x2), some (.int x3), none, some (.int x5), some (.int x6), some (.int x7), none] [] h rf hf := by
  unfold fX12_surely_50b at hs
  refine go_iload rfl dX12_surely_50 ?_
  refine go_iconst (v := 1) (by decide) dX12_surely_52 ?_
  refine go_aload_n (k4 := 0) rfl (Or.inr ⟨_, rfl⟩) dX12_surely_53 ?_
  obtain ⟨v7, ev7, hs⟩ := bindS hs
  refine go_gN fl_RX12_83 ev7 dX12_surely_54 ?_
  refine go_iload_n (k4 := 1) rfl dX12_surely_57 ?_
  obtain ⟨v8, ev8, hs⟩ := bindS hs
  refine go_aIi ev8 dX12_surely_58 ?_
  refine go_ishl dX12_surely_59 ?_
  refine go_at 60 rfl ?_
  refine go_icmp_ge (tgt := 130) (by decide) dX12_surely_60 (fun c => ?_) (fun c => ?_)
  · have hs := if_t c hs
    obtain ⟨q, hs2, hq⟩ := mapS hs
    clear hs
    subst hq
    exact go_subL (L' := [none, none, none, none, none, some (.int x5), some (.int x6), none, none]) (by simp [subL, va_rf]) (oX12_surely_130 hd hs2 hk)
  · have hs := if_f c hs
    refine go_aload_n (k4 := 0) rfl (Or.inr ⟨_, rfl⟩) dX12_surely_63 ?_
    refine go_iload_n (k4 := 1) rfl dX12_surely_64 ?_
    refine go_iload_n (k4 := 2) rfl dX12_surely_65 ?_
    refine go_iload rfl dX12_surely_66 ?_
    obtain ⟨g10, hs⟩ := gO_at hs
    obtain ⟨y9, ey9, hs⟩ := bindS hs
    refine go_V1 (As := [.int x1, .int x2, .int x7]) (st := []) g10 rfl rfl (oX12_isSeen (d := d - 1) (by omega) ey9) (by omega) mb_X12_isSeen lm_RX12_428 mi_X12_isSeen (Nat.le_of_ble_eq_true rfl) rfl dX12_surely_68 ?_
    refine go_if_ne (tgt := 77) (by decide) dX12_surely_71 (fun c => ?_) (fun c => ?_)
    · have hs := if_f c hs
      refine go_iconst (v := 1) (by decide) dX12_surely_77 ?_
      refine go_istore (L' := [some (.ref x0), some (.int x1), some (.int x2), some (.int x3), none, some (.int x5), some (.int (1 : Int32)), some (.int x7), none]) (by decide) rfl dX12_surely_78 ?_
      refine go_iconst (v := 0) (by decide) dX12_surely_80 ?_
      refine go_istore (L' := [some (.ref x0), some (.int x1), some (.int x2), some (.int x3), none, some (.int x5), some (.int (1 : Int32)), some (.int x7), some (.int (0 : Int32))]) (by decide) rfl dX12_surely_81 ?_
      exact go_subL (L' := [some (.ref x0), some (.int x1), some (.int x2), some (.int x3), none, some (.int x5), some (.int (1 : Int32)), some (.int x7), some (.int (0 : Int32))]) (by simp [subL, va_rf]) (oX12_surely_83 hd hs hk)
    · have hs := if_t c hs
      refine go_goto (tgt := 124) (by decide) dX12_surely_74 ?_
      exact go_subL (L' := [some (.ref x0), some (.int x1), some (.int x2), some (.int x3), none, some (.int x5), some (.int x6), some (.int x7), none]) (by simp [subL, va_rf]) (oX12_surely_124 hd hs hk)
theorem oX12_surely_50 {d : Nat} (hd : 5 ≤ d) {h : Hp} {x0 : Nat} {x1 : Int32} {x2 : Int32} {x3 : Int32} {x5 : Int32} {x6 : Int32} {x7 : Int32} {rf : Option Value} {hf : Hp} {x : (Int32 × Hp)} (hs : fX12_surely_50 h x0 x1 x2 x3 x5 x6 x7 = some x) (hk : (kX12_surely rf hf) x) : Go d mX12_surely 50 [some (.ref x0), some (.int x1), some (.int x2), some (.int x3), none, some (.int x5), some (.int x6), some (.int x7), none] [] h rf hf := by
  unfold fX12_surely_50 at hs
  exact lpw_go (P := pX12_surely_50 d x0 x1 x2 x3 rf hf) (fun s x hs hk => oX12_surely_50b hd hs hk) (x5, x6, x7, h) x hs hk
noncomputable def fX12_surely (h : Hp) (x0 : Nat) (x1 : Int32) (x2 : Int32) (x3 : Int32) : Option (Int32 × Hp) :=
  (sV h 12 x0 0 (.int (0 : Int32))).bind fun h1 =>
  (fX12_isDry h1 (x3.toInt64)).bind fun y2 =>
  if y2 = 0 then (
    some (((-2 : Int32), h1))) else (
    gO h1 12 x0 (
    (fX12_noSeen h1 x0 x1 x2).bind fun y3 =>
    if y3 = 0 then (
      (gN h1 12 x0 39).bind fun v5 =>
      (aI 0 h1 v5 x1).bind fun v6 =>
      fX12_surely_50 h1 x0 x1 x2 x3 (((1 : Int32) <<< (v6 &&& 31)) - (1 : Int32)) (0 : Int32) (0 : Int32)) else (
      some ((y3, h1)))))
theorem oX12_surely_0 {d : Nat} (hd : 5 ≤ d) {h : Hp} {x0 : Nat} {x1 : Int32} {x2 : Int32} {x3 : Int32} {rf : Option Value} {hf : Hp} {x : (Int32 × Hp)} (hs : fX12_surely h x0 x1 x2 x3 = some x) (hk : (kX12_surely rf hf) x) : Go d mX12_surely 0 [some (.ref x0), some (.int x1), some (.int x2), some (.int x3), none, none, none, none, none] [] h rf hf := by
  unfold fX12_surely at hs
  refine go_aload_n (k4 := 0) rfl (Or.inr ⟨_, rfl⟩) dX12_surely_0 ?_
  refine go_iconst (v := 0) (by decide) dX12_surely_1 ?_
  obtain ⟨h1, eh1, hs⟩ := bindS hs
  refine go_sV fw_RX12_1 eh1 rfl rfl dX12_surely_2 ?_
  refine go_iload_n (k4 := 3) rfl dX12_surely_5 ?_
  refine go_i2l dX12_surely_6 ?_
  obtain ⟨y2, ey2, hs⟩ := bindS hs
  refine go_S1 (As := [.long (x3.toInt64)]) (st := []) (oX12_isDry (d := d - 1) (by omega) ey2) (by omega) mb_X12_isDry lm_RX12_278 ms_X12_isDry (Nat.le_of_ble_eq_true rfl) rfl dX12_surely_7 ?_
  refine go_if_ne (tgt := 16) (by decide) dX12_surely_10 (fun c => ?_) (fun c => ?_)
  · have hs := if_f c hs
    refine go_aload_n (k4 := 0) rfl (Or.inr ⟨_, rfl⟩) dX12_surely_16 ?_
    refine go_iload_n (k4 := 1) rfl dX12_surely_17 ?_
    refine go_iload_n (k4 := 2) rfl dX12_surely_18 ?_
    obtain ⟨g4, hs⟩ := gO_at hs
    obtain ⟨y3, ey3, hs⟩ := bindS hs
    refine go_V1 (As := [.int x1, .int x2]) (st := []) g4 rfl rfl (oX12_noSeen (d := d - 1) (by omega) ey3) (by omega) mb_X12_noSeen lm_RX12_425 mi_X12_noSeen (Nat.le_of_ble_eq_true rfl) rfl dX12_surely_19 ?_
    refine go_istore (L' := [some (.ref x0), some (.int x1), some (.int x2), some (.int x3), some (.int y3), none, none, none, none]) (by decide) rfl dX12_surely_22 ?_
    refine go_iload rfl dX12_surely_24 ?_
    refine go_if_eq (tgt := 32) (by decide) dX12_surely_26 (fun c => ?_) (fun c => ?_)
    · have hs := if_t c hs
      refine go_iconst (v := 1) (by decide) dX12_surely_32 ?_
      refine go_aload_n (k4 := 0) rfl (Or.inr ⟨_, rfl⟩) dX12_surely_33 ?_
      obtain ⟨v5, ev5, hs⟩ := bindS hs
      refine go_gN fl_RX12_83 ev5 dX12_surely_34 ?_
      refine go_iload_n (k4 := 1) rfl dX12_surely_37 ?_
      obtain ⟨v6, ev6, hs⟩ := bindS hs
      refine go_aIi ev6 dX12_surely_38 ?_
      refine go_ishl dX12_surely_39 ?_
      refine go_iconst (v := 1) (by decide) dX12_surely_40 ?_
      refine go_at 41 rfl ?_
      refine go_isub dX12_surely_41 ?_
      refine go_istore (L' := [some (.ref x0), some (.int x1), some (.int x2), some (.int x3), some (.int y3), some (.int (((1 : Int32) <<< (v6 &&& 31)) - (1 : Int32))), none, none, none]) (by decide) rfl dX12_surely_42 ?_
      refine go_iconst (v := 0) (by decide) dX12_surely_44 ?_
      refine go_istore (L' := [some (.ref x0), some (.int x1), some (.int x2), some (.int x3), some (.int y3), some (.int (((1 : Int32) <<< (v6 &&& 31)) - (1 : Int32))), some (.int (0 : Int32)), none, none]) (by decide) rfl dX12_surely_45 ?_
      refine go_iconst (v := 0) (by decide) dX12_surely_47 ?_
      refine go_istore (L' := [some (.ref x0), some (.int x1), some (.int x2), some (.int x3), some (.int y3), some (.int (((1 : Int32) <<< (v6 &&& 31)) - (1 : Int32))), some (.int (0 : Int32)), some (.int (0 : Int32)), none]) (by decide) rfl dX12_surely_48 ?_
      exact go_subL (L' := [some (.ref x0), some (.int x1), some (.int x2), some (.int x3), none, some (.int (((1 : Int32) <<< (v6 &&& 31)) - (1 : Int32))), some (.int (0 : Int32)), some (.int (0 : Int32)), none]) (by simp [subL, va_rf]) (oX12_surely_50 hd hs hk)
    · have hs := if_f c hs
      refine go_iload rfl dX12_surely_29 ?_
      obtain rfl := Option.some.inj hs
      obtain ⟨rfl, rfl⟩ := hk
      exact go_iret rfl dX12_surely_31
  · have hs := if_t c hs
    refine go_bipush (v := -2) (by decide) dX12_surely_13 ?_
    obtain rfl := Option.some.inj hs
    obtain ⟨rfl, rfl⟩ := hk
    exact go_iret rfl dX12_surely_15
theorem oX12_surely {d : Nat} (hd : 5 ≤ d) {h : Hp} {x0 : Nat} {x1 : Int32} {x2 : Int32} {x3 : Int32} {y : (Int32 × Hp)} (hs : fX12_surely h x0 x1 x2 x3 = some y) : Call d mX12_surely [.ref x0, .int x1, .int x2, .int x3] h (some (.int y.1)) (y.2) := call_of (by decide +kernel) (Nat.le_of_ble_eq_true rfl) (show Go d mX12_surely 0 [some (.ref x0), some (.int x1), some (.int x2), some (.int x3), none, none, none, none, none] [] h _ _ from go_subL (by simp [subL]) (oX12_surely_0 hd hs ⟨rfl, rfl⟩))
abbrev kX12_chalksOf (rf : Option Value) (hf : Hp) : (Int32 × Hp) → Prop := fun y => rf = some (.int y.1) ∧ hf = y.2
abbrev pX12_chalksOf_16 (d : Nat) (x0 : Nat) (x1 : Int32) (x2 : Int32) (x3 : Int32) (rf : Option Value) (hf : Hp) : (Int32 × Int32 × Hp) → Prop := fun s => Go d mX12_chalksOf 16 [some (.ref x0), some (.int x1), some (.int x2), some (.int x3), some (.int s.1), some (.int s.2.1)] [] s.2.2 rf hf
noncomputable def fX12_chalksOf_63 (h : Hp) (x0 : Nat) (x2 : Int32) (x3 : Int32) (x4 : Int32) : Option (Int32 × Hp) :=
  (gN h 12 x0 1).bind fun v3 =>
  (wI 0 h v3 ((19 : Int32) + x2) x3).bind fun h4 =>
  some ((x4, h4))
theorem oX12_chalksOf_63 {d : Nat} (hd : 5 ≤ d) {h : Hp} {x0 : Nat} {x2 : Int32} {x3 : Int32} {x4 : Int32} {rf : Option Value} {hf : Hp} {x : (Int32 × Hp)} (hs : fX12_chalksOf_63 h x0 x2 x3 x4 = some x) (hk : (kX12_chalksOf rf hf) x) : Go d mX12_chalksOf 63 [some (.ref x0), none, some (.int x2), some (.int x3), some (.int x4), none] [] h rf hf := by
  unfold fX12_chalksOf_63 at hs
  refine go_aload_n (k4 := 0) rfl (Or.inr ⟨_, rfl⟩) dX12_chalksOf_63 ?_
  obtain ⟨v3, ev3, hs⟩ := bindS hs
  refine go_gN fl_RX12_13 ev3 dX12_chalksOf_64 ?_
  refine go_bipush (v := 19) (by decide) dX12_chalksOf_67 ?_
  refine go_iload_n (k4 := 2) rfl dX12_chalksOf_69 ?_
  refine go_iadd dX12_chalksOf_70 ?_
  refine go_iload_n (k4 := 3) rfl dX12_chalksOf_71 ?_
  obtain ⟨h4, eh4, hs⟩ := bindS hs
  refine go_wIi eh4 dX12_chalksOf_72 ?_
  refine go_at 73 rfl ?_
  refine go_iload rfl dX12_chalksOf_73 ?_
  obtain rfl := Option.some.inj hs
  obtain ⟨rfl, rfl⟩ := hk
  exact go_iret rfl dX12_chalksOf_75
noncomputable def fX12_chalksOf_54 (h : Hp) (x0 : Nat) (x1 : Int32) (x2 : Int32) (x3 : Int32) (x5 : Int32) (s0 : Int32) (s1 : Int32) : Option ((Int32 × Int32 × Hp) ⊕ (Int32 × Hp)) :=
  some (.inl ((s0 ||| s1), (x5 + Int32.ofInt 1), h))
theorem oX12_chalksOf_54 {d : Nat} (hd : 5 ≤ d) {h : Hp} {x0 : Nat} {x1 : Int32} {x2 : Int32} {x3 : Int32} {x5 : Int32} {s0 : Int32} {s1 : Int32} {rf : Option Value} {hf : Hp} {x : ((Int32 × Int32 × Hp) ⊕ (Int32 × Hp))} (hs : fX12_chalksOf_54 h x0 x1 x2 x3 x5 s0 s1 = some x) (hk : (Kx (pX12_chalksOf_16 d x0 x1 x2 x3 rf hf) (kX12_chalksOf rf hf)) x) : Go d mX12_chalksOf 54 [some (.ref x0), some (.int x1), some (.int x2), some (.int x3), none, some (.int x5)] [.int s1, .int s0] h rf hf := by
  unfold fX12_chalksOf_54 at hs
  refine go_ior dX12_chalksOf_54 ?_
  refine go_istore (L' := [some (.ref x0), some (.int x1), some (.int x2), some (.int x3), some (.int (s0 ||| s1)), some (.int x5)]) (by decide) rfl dX12_chalksOf_55 ?_
  refine go_iinc (L' := [some (.ref x0), some (.int x1), some (.int x2), some (.int x3), some (.int (s0 ||| s1)), some (.int (x5 + Int32.ofInt 1))]) rfl (by decide) rfl rfl dX12_chalksOf_57 ?_
  refine go_goto (tgt := 16) (by decide) dX12_chalksOf_60 ?_
  obtain rfl := Option.some.inj hs
  exact go_subL (L' := [some (.ref x0), some (.int x1), some (.int x2), some (.int x3), some (.int (s0 ||| s1)), some (.int (x5 + Int32.ofInt 1))]) (by simp [subL, va_rf]) hk
noncomputable def fX12_chalksOf_16b (h : Hp) (x0 : Nat) (x1 : Int32) (x2 : Int32) (x3 : Int32) (x4 : Int32) (x5 : Int32) : Option ((Int32 × Int32 × Hp) ⊕ (Int32 × Hp)) :=
  if (10 : Int32) ≤ x5 then (
  (fX12_chalksOf_63 h x0 x2 x3 x4).map (fun q => .inr q)) else (
    (gN h 12 x0 1).bind fun v5 =>
    (wI 0 h v5 ((19 : Int32) + x2) x5).bind fun h6 =>
    gO h6 12 x0 (
    (fX12_isSeen h6 x0 x1 x2 (0 : Int32)).bind fun y7 =>
    if y7.1 = 0 then (
      fX12_chalksOf_54 y7.2 x0 x1 x2 x3 x5 x4 (0 : Int32)) else (
      fX12_chalksOf_54 y7.2 x0 x1 x2 x3 x5 x4 ((1 : Int32) <<< (x5 &&& 31)))))
noncomputable def fX12_chalksOf_16 (h : Hp) (x0 : Nat) (x1 : Int32) (x2 : Int32) (x3 : Int32) (x4 : Int32) (x5 : Int32) : Option (Int32 × Hp) := lpw (σ := (Int32 × Int32 × Hp)) (fun s => fX12_chalksOf_16b s.2.2 x0 x1 x2 x3 s.1 s.2.1) (x4, x5, h)
theorem oX12_chalksOf_16b {d : Nat} (hd : 5 ≤ d) {h : Hp} {x0 : Nat} {x1 : Int32} {x2 : Int32} {x3 : Int32} {x4 : Int32} {x5 : Int32} {rf : Option Value} {hf : Hp} {x : ((Int32 × Int32 × Hp) ⊕ (Int32 × Hp))} (hs : fX12_chalksOf_16b h x0 x1 x2 x3 x4 x5 = some x) (hk : (Kx (pX12_chalksOf_16 d x0 x1 x2 x3 rf hf) (kX12_chalksOf rf hf)) x) : Go d mX12_chalksOf 16 [some (.ref x0), some (.int x1), some (.int x2), some (.int x3), some (.int x4), some (.int x5)] [] h rf hf := by
  unfold fX12_chalksOf_16b at hs
  refine go_iload rfl dX12_chalksOf_16 ?_
  refine go_bipush (v := 10) (by decide) dX12_chalksOf_18 ?_
  refine go_icmp_ge (tgt := 63) (by decide) dX12_chalksOf_20 (fun c => ?_) (fun c => ?_)
  · have hs := if_t c hs
    obtain ⟨q, hs2, hq⟩ := mapS hs
    clear hs
    subst hq
    exact go_subL (L' := [some (.ref x0), none, some (.int x2), some (.int x3), some (.int x4), none]) (by simp [subL, va_rf]) (oX12_chalksOf_63 hd hs2 hk)
  · have hs := if_f c hs
    refine go_aload_n (k4 := 0) rfl (Or.inr ⟨_, rfl⟩) dX12_chalksOf_23 ?_
    obtain ⟨v5, ev5, hs⟩ := bindS hs
    refine go_gN fl_RX12_13 ev5 dX12_chalksOf_24 ?_
    refine go_bipush (v := 19) (by decide) dX12_chalksOf_27 ?_
    refine go_iload_n (k4 := 2) rfl dX12_chalksOf_29 ?_
    refine go_iadd dX12_chalksOf_30 ?_
    refine go_iload rfl dX12_chalksOf_31 ?_
    obtain ⟨h6, eh6, hs⟩ := bindS hs
    refine go_wIi eh6 dX12_chalksOf_33 ?_
    refine go_at 34 rfl ?_
    refine go_iload rfl dX12_chalksOf_34 ?_
    refine go_aload_n (k4 := 0) rfl (Or.inr ⟨_, rfl⟩) dX12_chalksOf_36 ?_
    refine go_iload_n (k4 := 1) rfl dX12_chalksOf_37 ?_
    refine go_iload_n (k4 := 2) rfl dX12_chalksOf_38 ?_
    refine go_iconst (v := 0) (by decide) dX12_chalksOf_39 ?_
    obtain ⟨g8, hs⟩ := gO_at hs
    obtain ⟨y7, ey7, hs⟩ := bindS hs
    refine go_V1 (As := [.int x1, .int x2, .int (0 : Int32)]) (st := [.int x4]) g8 rfl rfl (oX12_isSeen (d := d - 1) (by omega) ey7) (by omega) mb_X12_isSeen lm_RX12_428 mi_X12_isSeen (Nat.le_of_ble_eq_true rfl) rfl dX12_chalksOf_40 ?_
    refine go_if_eq (tgt := 53) (by decide) dX12_chalksOf_43 (fun c => ?_) (fun c => ?_)
    · have hs := if_t c hs
      refine go_iconst (v := 0) (by decide) dX12_chalksOf_53 ?_
      exact go_subL (L' := [some (.ref x0), some (.int x1), some (.int x2), some (.int x3), none, some (.int x5)]) (by simp [subL, va_rf]) (oX12_chalksOf_54 hd hs hk)
    · have hs := if_f c hs
      refine go_iconst (v := 1) (by decide) dX12_chalksOf_46 ?_
      refine go_iload rfl dX12_chalksOf_47 ?_
      refine go_ishl dX12_chalksOf_49 ?_
      refine go_goto (tgt := 54) (by decide) dX12_chalksOf_50 ?_
      exact go_subL (L' := [some (.ref x0), some (.int x1), some (.int x2), some (.int x3), none, some (.int x5)]) (by simp [subL, va_rf]) (oX12_chalksOf_54 hd hs hk)
theorem oX12_chalksOf_16 {d : Nat} (hd : 5 ≤ d) {h : Hp} {x0 : Nat} {x1 : Int32} {x2 : Int32} {x3 : Int32} {x4 : Int32} {x5 : Int32} {rf : Option Value} {hf : Hp} {x : (Int32 × Hp)} (hs : fX12_chalksOf_16 h x0 x1 x2 x3 x4 x5 = some x) (hk : (kX12_chalksOf rf hf) x) : Go d mX12_chalksOf 16 [some (.ref x0), some (.int x1), some (.int x2), some (.int x3), some (.int x4), some (.int x5)] [] h rf hf := by
  unfold fX12_chalksOf_16 at hs
  exact lpw_go (P := pX12_chalksOf_16 d x0 x1 x2 x3 rf hf) (fun s x hs hk => oX12_chalksOf_16b hd hs hk) (x4, x5, h) x hs hk
noncomputable def fX12_chalksOf (h : Hp) (x0 : Nat) (x1 : Int32) (x2 : Int32) : Option (Int32 × Hp) :=
  (gN h 12 x0 1).bind fun v1 =>
  (aI 0 h v1 ((19 : Int32) + x2)).bind fun v2 =>
  fX12_chalksOf_16 h x0 x1 x2 v2 (0 : Int32) (0 : Int32)
theorem oX12_chalksOf_0 {d : Nat} (hd : 5 ≤ d) {h : Hp} {x0 : Nat} {x1 : Int32} {x2 : Int32} {rf : Option Value} {hf : Hp} {x : (Int32 × Hp)} (hs : fX12_chalksOf h x0 x1 x2 = some x) (hk : (kX12_chalksOf rf hf) x) : Go d mX12_chalksOf 0 [some (.ref x0), some (.int x1), some (.int x2), none, none, none] [] h rf hf := by
  unfold fX12_chalksOf at hs
  refine go_aload_n (k4 := 0) rfl (Or.inr ⟨_, rfl⟩) dX12_chalksOf_0 ?_
  obtain ⟨v1, ev1, hs⟩ := bindS hs
  refine go_gN fl_RX12_13 ev1 dX12_chalksOf_1 ?_
  refine go_bipush (v := 19) (by decide) dX12_chalksOf_4 ?_
  refine go_iload_n (k4 := 2) rfl dX12_chalksOf_6 ?_
  refine go_iadd dX12_chalksOf_7 ?_
  obtain ⟨v2, ev2, hs⟩ := bindS hs
  refine go_aIi ev2 dX12_chalksOf_8 ?_
  refine go_istore_n (k4 := 3) (L' := [some (.ref x0), some (.int x1), some (.int x2), some (.int v2), none, none]) (by decide) rfl dX12_chalksOf_9 ?_
  refine go_at 10 rfl ?_
  refine go_iconst (v := 0) (by decide) dX12_chalksOf_10 ?_
  refine go_istore (L' := [some (.ref x0), some (.int x1), some (.int x2), some (.int v2), some (.int (0 : Int32)), none]) (by decide) rfl dX12_chalksOf_11 ?_
  refine go_iconst (v := 0) (by decide) dX12_chalksOf_13 ?_
  refine go_istore (L' := [some (.ref x0), some (.int x1), some (.int x2), some (.int v2), some (.int (0 : Int32)), some (.int (0 : Int32))]) (by decide) rfl dX12_chalksOf_14 ?_
  exact go_subL (L' := [some (.ref x0), some (.int x1), some (.int x2), some (.int v2), some (.int (0 : Int32)), some (.int (0 : Int32))]) (by simp [subL, va_rf]) (oX12_chalksOf_16 hd hs hk)
theorem oX12_chalksOf {d : Nat} (hd : 5 ≤ d) {h : Hp} {x0 : Nat} {x1 : Int32} {x2 : Int32} {y : (Int32 × Hp)} (hs : fX12_chalksOf h x0 x1 x2 = some y) : Call d mX12_chalksOf [.ref x0, .int x1, .int x2] h (some (.int y.1)) (y.2) := call_of (by decide +kernel) (Nat.le_of_ble_eq_true rfl) (show Go d mX12_chalksOf 0 [some (.ref x0), some (.int x1), some (.int x2), none, none, none] [] h _ _ from go_subL (by simp [subL]) (oX12_chalksOf_0 hd hs ⟨rfl, rfl⟩))
abbrev kX12_chalks (rf : Option Value) (hf : Hp) : (Int32 × Hp) → Prop := fun y => rf = some (.int y.1) ∧ hf = y.2
noncomputable def fX12_chalks_26 (h : Hp) (s0 : Int32) : Option (Int32 × Hp) :=
  some ((s0, h))
theorem oX12_chalks_26 {d : Nat} (hd : 6 ≤ d) {h : Hp} {s0 : Int32} {rf : Option Value} {hf : Hp} {x : (Int32 × Hp)} (hs : fX12_chalks_26 h s0 = some x) (hk : (kX12_chalks rf hf) x) : Go d mX12_chalks 26 [none, none, none, none] [.int s0] h rf hf := by
  unfold fX12_chalks_26 at hs
  obtain rfl := Option.some.inj hs
  obtain ⟨rfl, rfl⟩ := hk
  exact go_iret rfl dX12_chalks_26
noncomputable def fX12_chalks (h : Hp) (x0 : Nat) (x1 : Int32) (x2 : Int32) : Option (Int32 × Hp) :=
  (sV h 12 x0 0 (.int (0 : Int32))).bind fun h1 =>
  gO h1 12 x0 (
  (fX12_noSeen h1 x0 x1 x2).bind fun y2 =>
  if y2 = 0 then (
    gO h1 12 x0 (
    (fX12_chalksOf h1 x0 x1 x2).bind fun y4 =>
    fX12_chalks_26 y4.2 y4.1)) else (
    fX12_chalks_26 h1 y2))
theorem oX12_chalks_0 {d : Nat} (hd : 6 ≤ d) {h : Hp} {x0 : Nat} {x1 : Int32} {x2 : Int32} {rf : Option Value} {hf : Hp} {x : (Int32 × Hp)} (hs : fX12_chalks h x0 x1 x2 = some x) (hk : (kX12_chalks rf hf) x) : Go d mX12_chalks 0 [some (.ref x0), some (.int x1), some (.int x2), none] [] h rf hf := by
  unfold fX12_chalks at hs
  refine go_aload_n (k4 := 0) rfl (Or.inr ⟨_, rfl⟩) dX12_chalks_0 ?_
  refine go_iconst (v := 0) (by decide) dX12_chalks_1 ?_
  obtain ⟨h1, eh1, hs⟩ := bindS hs
  refine go_sV fw_RX12_1 eh1 rfl rfl dX12_chalks_2 ?_
  refine go_aload_n (k4 := 0) rfl (Or.inr ⟨_, rfl⟩) dX12_chalks_5 ?_
  refine go_iload_n (k4 := 1) rfl dX12_chalks_6 ?_
  refine go_iload_n (k4 := 2) rfl dX12_chalks_7 ?_
  obtain ⟨g3, hs⟩ := gO_at hs
  obtain ⟨y2, ey2, hs⟩ := bindS hs
  refine go_V1 (As := [.int x1, .int x2]) (st := []) g3 rfl rfl (oX12_noSeen (d := d - 1) (by omega) ey2) (by omega) mb_X12_noSeen lm_RX12_425 mi_X12_noSeen (Nat.le_of_ble_eq_true rfl) rfl dX12_chalks_8 ?_
  refine go_at 11 rfl ?_
  refine go_istore_n (k4 := 3) (L' := [some (.ref x0), some (.int x1), some (.int x2), some (.int y2)]) (by decide) rfl dX12_chalks_11 ?_
  refine go_iload_n (k4 := 3) rfl dX12_chalks_12 ?_
  refine go_if_eq (tgt := 20) (by decide) dX12_chalks_13 (fun c => ?_) (fun c => ?_)
  · have hs := if_t c hs
    refine go_aload_n (k4 := 0) rfl (Or.inr ⟨_, rfl⟩) dX12_chalks_20 ?_
    refine go_iload_n (k4 := 1) rfl dX12_chalks_21 ?_
    refine go_iload_n (k4 := 2) rfl dX12_chalks_22 ?_
    obtain ⟨g5, hs⟩ := gO_at hs
    obtain ⟨y4, ey4, hs⟩ := bindS hs
    refine go_V1 (As := [.int x1, .int x2]) (st := []) g5 rfl rfl (oX12_chalksOf (d := d - 1) (by omega) ey4) (by omega) mb_X12_chalksOf lm_RX12_432 mi_X12_chalksOf (Nat.le_of_ble_eq_true rfl) rfl dX12_chalks_23 ?_
    exact go_subL (L' := [none, none, none, none]) (by simp [subL, va_rf]) (oX12_chalks_26 hd hs hk)
  · have hs := if_f c hs
    refine go_iload_n (k4 := 3) rfl dX12_chalks_16 ?_
    refine go_goto (tgt := 26) (by decide) dX12_chalks_17 ?_
    exact go_subL (L' := [none, none, none, none]) (by simp [subL, va_rf]) (oX12_chalks_26 hd hs hk)
theorem oX12_chalks {d : Nat} (hd : 6 ≤ d) {h : Hp} {x0 : Nat} {x1 : Int32} {x2 : Int32} {y : (Int32 × Hp)} (hs : fX12_chalks h x0 x1 x2 = some y) : Call d mX12_chalks [.ref x0, .int x1, .int x2] h (some (.int y.1)) (y.2) := call_of (by decide +kernel) (Nat.le_of_ble_eq_true rfl) (show Go d mX12_chalks 0 [some (.ref x0), some (.int x1), some (.int x2), none] [] h _ _ from go_subL (by simp [subL]) (oX12_chalks_0 hd hs ⟨rfl, rfl⟩))
abbrev kX12_mostOften (rf : Option Value) (hf : Hp) : (Int32 × Hp) → Prop := fun y => rf = some (.int y.1) ∧ hf = y.2
abbrev pX12_mostOften_6 (d : Nat) (x0 : Nat) (x1 : Int32) (x2 : Int32) (x3 : Int32) (x4 : Int32) (rf : Option Value) (hf : Hp) : (Int32 × Hp) → Prop := fun s => Go d mX12_mostOften 6 [some (.ref x0), some (.int x1), some (.int x2), some (.int x3), some (.int x4), some (.int s.1), none] [] s.2 rf hf
abbrev pX12_mostOften_30 (d : Nat) (x0 : Nat) (x1 : Int32) (x2 : Int32) (x3 : Int32) (rf : Option Value) (hf : Hp) : (Int32 × Int32 × Hp) → Prop := fun s => Go d mX12_mostOften 30 [some (.ref x0), some (.int x1), some (.int x2), some (.int x3), some (.int s.1), some (.int s.2.1), none] [] s.2.2 rf hf
noncomputable def fX12_mostOften_121 (h : Hp) (x0 : Nat) (x1 : Int32) (x2 : Int32) (x3 : Int32) (x4 : Int32) (x5 : Int32) : Option ((Int32 × Int32 × Hp) ⊕ (Int32 × Hp)) :=
  some (.inl (x4, (x5 + Int32.ofInt 1), h))
theorem oX12_mostOften_121 {d : Nat} (hd : 3 ≤ d) {h : Hp} {x0 : Nat} {x1 : Int32} {x2 : Int32} {x3 : Int32} {x4 : Int32} {x5 : Int32} {rf : Option Value} {hf : Hp} {x : ((Int32 × Int32 × Hp) ⊕ (Int32 × Hp))} (hs : fX12_mostOften_121 h x0 x1 x2 x3 x4 x5 = some x) (hk : (Kx (pX12_mostOften_30 d x0 x1 x2 x3 rf hf) (kX12_mostOften rf hf)) x) : Go d mX12_mostOften 121 [some (.ref x0), some (.int x1), some (.int x2), some (.int x3), some (.int x4), some (.int x5), none] [] h rf hf := by
  unfold fX12_mostOften_121 at hs
  refine go_iinc (L' := [some (.ref x0), some (.int x1), some (.int x2), some (.int x3), some (.int x4), some (.int (x5 + Int32.ofInt 1)), none]) rfl (by decide) rfl rfl dX12_mostOften_121 ?_
  refine go_goto (tgt := 30) (by decide) dX12_mostOften_124 ?_
  obtain rfl := Option.some.inj hs
  exact go_subL (L' := [some (.ref x0), some (.int x1), some (.int x2), some (.int x3), some (.int x4), some (.int (x5 + Int32.ofInt 1)), none]) (by simp [subL, va_rf]) hk
noncomputable def fX12_mostOften_119 (h : Hp) (x0 : Nat) (x1 : Int32) (x2 : Int32) (x3 : Int32) (x5 : Int32) (s0 : Int32) : Option ((Int32 × Int32 × Hp) ⊕ (Int32 × Hp)) :=
  fX12_mostOften_121 h x0 x1 x2 x3 s0 x5
theorem oX12_mostOften_119 {d : Nat} (hd : 3 ≤ d) {h : Hp} {x0 : Nat} {x1 : Int32} {x2 : Int32} {x3 : Int32} {x5 : Int32} {s0 : Int32} {rf : Option Value} {hf : Hp} {x : ((Int32 × Int32 × Hp) ⊕ (Int32 × Hp))} (hs : fX12_mostOften_119 h x0 x1 x2 x3 x5 s0 = some x) (hk : (Kx (pX12_mostOften_30 d x0 x1 x2 x3 rf hf) (kX12_mostOften rf hf)) x) : Go d mX12_mostOften 119 [some (.ref x0), some (.int x1), some (.int x2), some (.int x3), none, some (.int x5), none] [.int s0] h rf hf := by
  unfold fX12_mostOften_119 at hs
  refine go_istore (L' := [some (.ref x0), some (.int x1), some (.int x2), some (.int x3), some (.int s0), some (.int x5), none]) (by decide) rfl dX12_mostOften_119 ?_
  exact go_subL (L' := [some (.ref x0), some (.int x1), some (.int x2), some (.int x3), some (.int s0), some (.int x5), none]) (by simp [subL, va_rf]) (oX12_mostOften_121 hd hs hk)
noncomputable def fX12_mostOften_30b (h : Hp) (x0 : Nat) (x1 : Int32) (x2 : Int32) (x3 : Int32) (x4 : Int32) (x5 : Int32) : Option ((Int32 × Int32 × Hp) ⊕ (Int32 × Hp)) :=
  if (10 : Int32) ≤ x5 then (
    some (.inr (x4, h))) else (
    (fX12_isIn h (x3.toInt64) x5).bind fun y1 =>
    if y1 = 0 then (
      fX12_mostOften_121 h x0 x1 x2 x3 x4 x5) else (
      (gN h 12 x0 1).bind fun v2 =>
      (aI 0 h v2 ((15 : Int32) + x1)).bind fun v3 =>
      gO h 12 x0 (
      (fX12_standNow h x0).bind fun y4 =>
      gO h 12 x0 (
      (fX12_metIn h x0 y4).bind fun y6 =>
      (fX12_bitsOf h y6).bind fun y8 =>
      gO h 12 x0 (
      (fX12_growsBy h x0 x1 x5 x2 v3 y8 (0 : Int32)).bind fun y9 =>
      (gN y9.2 12 x0 36).bind fun v11 =>
      (aI 0 y9.2 v11 ((9 : Int32) + y9.1)).bind fun v12 =>
      (wI 0 y9.2 v11 ((9 : Int32) + y9.1) (v12 + (1 : Int32))).bind fun h13 =>
      (gN h13 12 x0 36).bind fun v14 =>
      (aI 0 h13 v14 ((9 : Int32) + y9.1)).bind fun v15 =>
      if v15 ≤ x4 then (
        fX12_mostOften_119 h13 x0 x1 x2 x3 x5 x4) else (
        (gN h13 12 x0 36).bind fun v16 =>
        (aI 0 h13 v16 ((9 : Int32) + y9.1)).bind fun v17 =>
        fX12_mostOften_119 h13 x0 x1 x2 x3 x5 v17))))))
noncomputable def fX12_mostOften_30 (h : Hp) (x0 : Nat) (x1 : Int32) (x2 : Int32) (x3 : Int32) (x4 : Int32) (x5 : Int32) : Option (Int32 × Hp) := lpw (σ := (Int32 × Int32 × Hp)) (fun s => fX12_mostOften_30b s.2.2 x0 x1 x2 x3 s.1 s.2.1) (x4, x5, h)
theorem oX12_mostOften_30b {d : Nat} (hd : 3 ≤ d) {h : Hp} {x0 : Nat} {x1 : Int32} {x2 : Int32} {x3 : Int32} {x4 : Int32} {x5 : Int32} {rf : Option Value} {hf : Hp} {x : ((Int32 × Int32 × Hp) ⊕ (Int32 × Hp))} (hs : fX12_mostOften_30b h x0 x1 x2 x3 x4 x5 = some x) (hk : (Kx (pX12_mostOften_30 d x0 x1 x2 x3 rf hf) (kX12_mostOften rf hf)) x) : Go d mX12_mostOften 30 [some (.ref x0), some (.int x1), some (.int x2), some (.int x3), some (.int x4), some (.int x5), none] [] h rf hf := by
  unfold fX12_mostOften_30b at hs
  refine go_iload rfl dX12_mostOften_30 ?_
  refine go_bipush (v := 10) (by decide) dX12_mostOften_32 ?_
  refine go_icmp_ge (tgt := 127) (by decide) dX12_mostOften_34 (fun c => ?_) (fun c => ?_)
  · have hs := if_t c hs
    refine go_iload rfl dX12_mostOften_127 ?_
    obtain rfl := Option.some.inj hs
    obtain ⟨rfl, rfl⟩ := hk
    exact go_iret rfl dX12_mostOften_129
  · have hs := if_f c hs
    refine go_iload_n (k4 := 3) rfl dX12_mostOften_37 ?_
    refine go_i2l dX12_mostOften_38 ?_
    refine go_iload rfl dX12_mostOften_39 ?_
    obtain ⟨y1, ey1, hs⟩ := bindS hs
    refine go_S1 (As := [.long (x3.toInt64), .int x5]) (st := []) (oX12_isIn (d := d - 1) (by omega) ey1) (by omega) mb_X12_isIn lm_RX12_435 ms_X12_isIn (Nat.le_of_ble_eq_true rfl) rfl dX12_mostOften_41 ?_
    refine go_if_ne (tgt := 50) (by decide) dX12_mostOften_44 (fun c => ?_) (fun c => ?_)
    · have hs := if_f c hs
      refine go_bipush (v := 9) (by decide) dX12_mostOften_50 ?_
      refine go_aload_n (k4 := 0) rfl (Or.inr ⟨_, rfl⟩) dX12_mostOften_52 ?_
      refine go_iload_n (k4 := 1) rfl dX12_mostOften_53 ?_
      refine go_iload rfl dX12_mostOften_54 ?_
      refine go_iload_n (k4 := 2) rfl dX12_mostOften_56 ?_
      refine go_aload_n (k4 := 0) rfl (Or.inr ⟨_, rfl⟩) dX12_mostOften_57 ?_
      obtain ⟨v2, ev2, hs⟩ := bindS hs
      refine go_gN fl_RX12_13 ev2 dX12_mostOften_58 ?_
      refine go_at 61 rfl ?_
      refine go_bipush (v := 15) (by decide) dX12_mostOften_61 ?_
      refine go_iload_n (k4 := 1) rfl dX12_mostOften_63 ?_
      refine go_iadd dX12_mostOften_64 ?_
      obtain ⟨v3, ev3, hs⟩ := bindS hs
      refine go_aIi ev3 dX12_mostOften_65 ?_
      refine go_aload_n (k4 := 0) rfl (Or.inr ⟨_, rfl⟩) dX12_mostOften_66 ?_
      refine go_aload_n (k4 := 0) rfl (Or.inr ⟨_, rfl⟩) dX12_mostOften_67 ?_
      obtain ⟨g5, hs⟩ := gO_at hs
      obtain ⟨y4, ey4, hs⟩ := bindS hs
      refine go_V1 (As := []) (st := [.ref x0, .int v3, .int x2, .int x5, .int x1, .ref x0, .int (9 : Int32)]) g5 rfl rfl (oX12_standNow (d := d - 1) (by omega) ey4) (by omega) mb_X12_standNow lm_RX12_282 mi_X12_standNow (Nat.le_of_ble_eq_true rfl) rfl dX12_mostOften_68 ?_
      obtain ⟨g7, hs⟩ := gO_at hs
      obtain ⟨y6, ey6, hs⟩ := bindS hs
      refine go_V1 (As := [.int y4]) (st := [.int v3, .int x2, .int x5, .int x1, .ref x0, .int (9 : Int32)]) g7 rfl rfl (oX12_metIn (d := d - 1) (by omega) ey6) (by omega) mb_X12_metIn lm_RX12_233 mi_X12_metIn (Nat.le_of_ble_eq_true rfl) rfl dX12_mostOften_71 ?_
      refine go_at 74 rfl ?_
      obtain ⟨y8, ey8, hs⟩ := bindS hs
      refine go_S1 (As := [.int y6]) (st := [.int v3, .int x2, .int x5, .int x1, .ref x0, .int (9 : Int32)]) (oX12_bitsOf (d := d - 1) (by omega) ey8) (by omega) mb_X12_bitsOf lm_RX12_236 ms_X12_bitsOf (Nat.le_of_ble_eq_true rfl) rfl dX12_mostOften_74 ?_
      refine go_iconst (v := 0) (by decide) dX12_mostOften_77 ?_
      obtain ⟨g10, hs⟩ := gO_at hs
      obtain ⟨y9, ey9, hs⟩ := bindS hs
      refine go_V1 (As := [.int x1, .int x5, .int x2, .int v3, .int y8, .int (0 : Int32)]) (st := [.int (9 : Int32)]) g10 rfl rfl (oX12_growsBy (d := d - 1) (by omega) ey9) (by omega) mb_X12_growsBy lm_RX12_251 mi_X12_growsBy (Nat.le_of_ble_eq_true rfl) rfl dX12_mostOften_78 ?_
      refine go_iadd dX12_mostOften_81 ?_
      refine go_istore (L' := [some (.ref x0), some (.int x1), some (.int x2), some (.int x3), some (.int x4), some (.int x5), some (.int ((9 : Int32) + y9.1))]) (by decide) rfl dX12_mostOften_82 ?_
      refine go_aload_n (k4 := 0) rfl (Or.inr ⟨_, rfl⟩) dX12_mostOften_84 ?_
      obtain ⟨v11, ev11, hs⟩ := bindS hs
      refine go_gN fl_RX12_74 ev11 dX12_mostOften_85 ?_
      refine go_iload rfl dX12_mostOften_88 ?_
      refine go_at 90 rfl ?_
      refine go_dup2_11 rfl rfl dX12_mostOften_90 ?_
      obtain ⟨v12, ev12, hs⟩ := bindS hs
      refine go_aIi ev12 dX12_mostOften_91 ?_
      refine go_iconst (v := 1) (by decide) dX12_mostOften_92 ?_
      refine go_iadd dX12_mostOften_93 ?_
      obtain ⟨h13, eh13, hs⟩ := bindS hs
      refine go_wIi eh13 dX12_mostOften_94 ?_
      refine go_aload_n (k4 := 0) rfl (Or.inr ⟨_, rfl⟩) dX12_mostOften_95 ?_
      obtain ⟨v14, ev14, hs⟩ := bindS hs
      refine go_gN fl_RX12_74 ev14 dX12_mostOften_96 ?_
      refine go_iload rfl dX12_mostOften_99 ?_
      refine go_at 101 rfl ?_
      obtain ⟨v15, ev15, hs⟩ := bindS hs
      refine go_aIi ev15 dX12_mostOften_101 ?_
      refine go_iload rfl dX12_mostOften_102 ?_
      refine go_icmp_le (tgt := 117) (by decide) dX12_mostOften_104 (fun c => ?_) (fun c => ?_)
      · have hs := if_t c hs
        refine go_iload rfl dX12_mostOften_117 ?_
        exact go_subL (L' := [some (.ref x0), some (.int x1), some (.int x2), some (.int x3), none, some (.int x5), none]) (by simp [subL, va_rf]) (oX12_mostOften_119 hd hs hk)
      · have hs := if_f c hs
        refine go_aload_n (k4 := 0) rfl (Or.inr ⟨_, rfl⟩) dX12_mostOften_107 ?_
        obtain ⟨v16, ev16, hs⟩ := bindS hs
        refine go_gN fl_RX12_74 ev16 dX12_mostOften_108 ?_
        refine go_iload rfl dX12_mostOften_111 ?_
        obtain ⟨v17, ev17, hs⟩ := bindS hs
        refine go_aIi ev17 dX12_mostOften_113 ?_
        refine go_goto (tgt := 119) (by decide) dX12_mostOften_114 ?_
        exact go_subL (L' := [some (.ref x0), some (.int x1), some (.int x2), some (.int x3), none, some (.int x5), none]) (by simp [subL, va_rf]) (oX12_mostOften_119 hd hs hk)
    · have hs := if_t c hs
      refine go_goto (tgt := 121) (by decide) dX12_mostOften_47 ?_
      exact go_subL (L' := [some (.ref x0), some (.int x1), some (.int x2), some (.int x3), some (.int x4), some (.int x5), none]) (by simp [subL, va_rf]) (oX12_mostOften_121 hd hs hk)
theorem oX12_mostOften_30 {d : Nat} (hd : 3 ≤ d) {h : Hp} {x0 : Nat} {x1 : Int32} {x2 : Int32} {x3 : Int32} {x4 : Int32} {x5 : Int32} {rf : Option Value} {hf : Hp} {x : (Int32 × Hp)} (hs : fX12_mostOften_30 h x0 x1 x2 x3 x4 x5 = some x) (hk : (kX12_mostOften rf hf) x) : Go d mX12_mostOften 30 [some (.ref x0), some (.int x1), some (.int x2), some (.int x3), some (.int x4), some (.int x5), none] [] h rf hf := by
  unfold fX12_mostOften_30 at hs
  exact lpw_go (P := pX12_mostOften_30 d x0 x1 x2 x3 rf hf) (fun s x hs hk => oX12_mostOften_30b hd hs hk) (x4, x5, h) x hs hk
noncomputable def fX12_mostOften_27 (h : Hp) (x0 : Nat) (x1 : Int32) (x2 : Int32) (x3 : Int32) (x4 : Int32) : Option (Int32 × Hp) :=
  fX12_mostOften_30 h x0 x1 x2 x3 x4 (0 : Int32)
theorem oX12_mostOften_27 {d : Nat} (hd : 3 ≤ d) {h : Hp} {x0 : Nat} {x1 : Int32} {x2 : Int32} {x3 : Int32} {x4 : Int32} {rf : Option Value} {hf : Hp} {x : (Int32 × Hp)} (hs : fX12_mostOften_27 h x0 x1 x2 x3 x4 = some x) (hk : (kX12_mostOften rf hf) x) : Go d mX12_mostOften 27 [some (.ref x0), some (.int x1), some (.int x2), some (.int x3), some (.int x4), none, none] [] h rf hf := by
  unfold fX12_mostOften_27 at hs
  refine go_iconst (v := 0) (by decide) dX12_mostOften_27 ?_
  refine go_istore (L' := [some (.ref x0), some (.int x1), some (.int x2), some (.int x3), some (.int x4), some (.int (0 : Int32)), none]) (by decide) rfl dX12_mostOften_28 ?_
  exact go_subL (L' := [some (.ref x0), some (.int x1), some (.int x2), some (.int x3), some (.int x4), some (.int (0 : Int32)), none]) (by simp [subL, va_rf]) (oX12_mostOften_30 hd hs hk)
noncomputable def fX12_mostOften_6b (h : Hp) (x0 : Nat) (x1 : Int32) (x2 : Int32) (x3 : Int32) (x4 : Int32) (x5 : Int32) : Option ((Int32 × Hp) ⊕ (Int32 × Hp)) :=
  if (19 : Int32) ≤ x5 then (
  (fX12_mostOften_27 h x0 x1 x2 x3 x4).map (fun q => .inr q)) else (
    (gN h 12 x0 36).bind fun v18 =>
    (wI 0 h v18 x5 (0 : Int32)).bind fun h19 =>
    some (.inl ((x5 + Int32.ofInt 1), h19)))
noncomputable def fX12_mostOften_6 (h : Hp) (x0 : Nat) (x1 : Int32) (x2 : Int32) (x3 : Int32) (x4 : Int32) (x5 : Int32) : Option (Int32 × Hp) := lpw (σ := (Int32 × Hp)) (fun s => fX12_mostOften_6b s.2 x0 x1 x2 x3 x4 s.1) (x5, h)
theorem oX12_mostOften_6b {d : Nat} (hd : 3 ≤ d) {h : Hp} {x0 : Nat} {x1 : Int32} {x2 : Int32} {x3 : Int32} {x4 : Int32} {x5 : Int32} {rf : Option Value} {hf : Hp} {x : ((Int32 × Hp) ⊕ (Int32 × Hp))} (hs : fX12_mostOften_6b h x0 x1 x2 x3 x4 x5 = some x) (hk : (Kx (pX12_mostOften_6 d x0 x1 x2 x3 x4 rf hf) (kX12_mostOften rf hf)) x) : Go d mX12_mostOften 6 [some (.ref x0), some (.int x1), some (.int x2), some (.int x3), some (.int x4), some (.int x5), none] [] h rf hf := by
  unfold fX12_mostOften_6b at hs
  refine go_iload rfl dX12_mostOften_6 ?_
  refine go_bipush (v := 19) (by decide) dX12_mostOften_8 ?_
  refine go_icmp_ge (tgt := 27) (by decide) dX12_mostOften_10 (fun c => ?_) (fun c => ?_)
  · have hs := if_t c hs
    obtain ⟨q, hs2, hq⟩ := mapS hs
    clear hs
    subst hq
    exact go_subL (L' := [some (.ref x0), some (.int x1), some (.int x2), some (.int x3), some (.int x4), none, none]) (by simp [subL, va_rf]) (oX12_mostOften_27 hd hs2 hk)
  · have hs := if_f c hs
    refine go_aload_n (k4 := 0) rfl (Or.inr ⟨_, rfl⟩) dX12_mostOften_13 ?_
    obtain ⟨v18, ev18, hs⟩ := bindS hs
    refine go_gN fl_RX12_74 ev18 dX12_mostOften_14 ?_
    refine go_iload rfl dX12_mostOften_17 ?_
    refine go_iconst (v := 0) (by decide) dX12_mostOften_19 ?_
    obtain ⟨h19, eh19, hs⟩ := bindS hs
    refine go_wIi eh19 dX12_mostOften_20 ?_
    refine go_iinc (L' := [some (.ref x0), some (.int x1), some (.int x2), some (.int x3), some (.int x4), some (.int (x5 + Int32.ofInt 1)), none]) rfl (by decide) rfl rfl dX12_mostOften_21 ?_
    refine go_goto (tgt := 6) (by decide) dX12_mostOften_24 ?_
    obtain rfl := Option.some.inj hs
    exact go_subL (L' := [some (.ref x0), some (.int x1), some (.int x2), some (.int x3), some (.int x4), some (.int (x5 + Int32.ofInt 1)), none]) (by simp [subL, va_rf]) hk
theorem oX12_mostOften_6 {d : Nat} (hd : 3 ≤ d) {h : Hp} {x0 : Nat} {x1 : Int32} {x2 : Int32} {x3 : Int32} {x4 : Int32} {x5 : Int32} {rf : Option Value} {hf : Hp} {x : (Int32 × Hp)} (hs : fX12_mostOften_6 h x0 x1 x2 x3 x4 x5 = some x) (hk : (kX12_mostOften rf hf) x) : Go d mX12_mostOften 6 [some (.ref x0), some (.int x1), some (.int x2), some (.int x3), some (.int x4), some (.int x5), none] [] h rf hf := by
  unfold fX12_mostOften_6 at hs
  exact lpw_go (P := pX12_mostOften_6 d x0 x1 x2 x3 x4 rf hf) (fun s x hs hk => oX12_mostOften_6b hd hs hk) (x5, h) x hs hk
noncomputable def fX12_mostOften (h : Hp) (x0 : Nat) (x1 : Int32) (x2 : Int32) (x3 : Int32) : Option (Int32 × Hp) :=
  fX12_mostOften_6 h x0 x1 x2 x3 (0 : Int32) (0 : Int32)
theorem oX12_mostOften_0 {d : Nat} (hd : 3 ≤ d) {h : Hp} {x0 : Nat} {x1 : Int32} {x2 : Int32} {x3 : Int32} {rf : Option Value} {hf : Hp} {x : (Int32 × Hp)} (hs : fX12_mostOften h x0 x1 x2 x3 = some x) (hk : (kX12_mostOften rf hf) x) : Go d mX12_mostOften 0 [some (.ref x0), some (.int x1), some (.int x2), some (.int x3), none, none, none] [] h rf hf := by
  unfold fX12_mostOften at hs
  refine go_iconst (v := 0) (by decide) dX12_mostOften_0 ?_
  refine go_istore (L' := [some (.ref x0), some (.int x1), some (.int x2), some (.int x3), some (.int (0 : Int32)), none, none]) (by decide) rfl dX12_mostOften_1 ?_
  refine go_iconst (v := 0) (by decide) dX12_mostOften_3 ?_
  refine go_istore (L' := [some (.ref x0), some (.int x1), some (.int x2), some (.int x3), some (.int (0 : Int32)), some (.int (0 : Int32)), none]) (by decide) rfl dX12_mostOften_4 ?_
  exact go_subL (L' := [some (.ref x0), some (.int x1), some (.int x2), some (.int x3), some (.int (0 : Int32)), some (.int (0 : Int32)), none]) (by simp [subL, va_rf]) (oX12_mostOften_6 hd hs hk)
theorem oX12_mostOften {d : Nat} (hd : 3 ≤ d) {h : Hp} {x0 : Nat} {x1 : Int32} {x2 : Int32} {x3 : Int32} {y : (Int32 × Hp)} (hs : fX12_mostOften h x0 x1 x2 x3 = some y) : Call d mX12_mostOften [.ref x0, .int x1, .int x2, .int x3] h (some (.int y.1)) (y.2) := call_of (by decide +kernel) (Nat.le_of_ble_eq_true rfl) (show Go d mX12_mostOften 0 [some (.ref x0), some (.int x1), some (.int x2), some (.int x3), none, none, none] [] h _ _ from go_subL (by simp [subL]) (oX12_mostOften_0 hd hs ⟨rfl, rfl⟩))
abbrev kX12_attempt (rf : Option Value) (hf : Hp) : (Int32 × Hp) → Prop := fun y => rf = some (.int y.1) ∧ hf = y.2
abbrev pX12_attempt_52 (d : Nat) (x0 : Nat) (x2 : Int32) (x4 : Int32) (rf : Option Value) (hf : Hp) : (Int32 × Int32 × Int32 × Hp) → Prop := fun s => Go d mX12_attempt 52 [some (.ref x0), none, some (.int x2), none, some (.int x4), some (.int s.1), some (.int s.2.1), some (.int s.2.2.1), none] [] s.2.2.2 rf hf
noncomputable def fX12_attempt_98 (h : Hp) (x5 : Int32) : Option (Int32 × Hp) :=
  some ((x5, h))
theorem oX12_attempt_98 {d : Nat} (hd : 6 ≤ d) {h : Hp} {x5 : Int32} {rf : Option Value} {hf : Hp} {x : (Int32 × Hp)} (hs : fX12_attempt_98 h x5 = some x) (hk : (kX12_attempt rf hf) x) : Go d mX12_attempt 98 [none, none, none, none, none, some (.int x5), none, none, none] [] h rf hf := by
  unfold fX12_attempt_98 at hs
  refine go_iload rfl dX12_attempt_98 ?_
  obtain rfl := Option.some.inj hs
  obtain ⟨rfl, rfl⟩ := hk
  exact go_iret rfl dX12_attempt_100
noncomputable def fX12_attempt_92 (h : Hp) (x0 : Nat) (x2 : Int32) (x4 : Int32) (x5 : Int32) (x6 : Int32) (x7 : Int32) : Option ((Int32 × Int32 × Int32 × Hp) ⊕ (Int32 × Hp)) :=
  some (.inl (x5, x6, (x7 + Int32.ofInt 1), h))
theorem oX12_attempt_92 {d : Nat} (hd : 6 ≤ d) {h : Hp} {x0 : Nat} {x2 : Int32} {x4 : Int32} {x5 : Int32} {x6 : Int32} {x7 : Int32} {rf : Option Value} {hf : Hp} {x : ((Int32 × Int32 × Int32 × Hp) ⊕ (Int32 × Hp))} (hs : fX12_attempt_92 h x0 x2 x4 x5 x6 x7 = some x) (hk : (Kx (pX12_attempt_52 d x0 x2 x4 rf hf) (kX12_attempt rf hf)) x) : Go d mX12_attempt 92 [some (.ref x0), none, some (.int x2), none, some (.int x4), some (.int x5), some (.int x6), some (.int x7), none] [] h rf hf := by
  unfold fX12_attempt_92 at hs
  refine go_iinc (L' := [some (.ref x0), none, some (.int x2), none, some (.int x4), some (.int x5), some (.int x6), some (.int (x7 + Int32.ofInt 1)), none]) rfl (by decide) rfl rfl dX12_attempt_92 ?_
  refine go_goto (tgt := 52) (by decide) dX12_attempt_95 ?_
  obtain rfl := Option.some.inj hs
  exact go_subL (L' := [some (.ref x0), none, some (.int x2), none, some (.int x4), some (.int x5), some (.int x6), some (.int (x7 + Int32.ofInt 1)), none]) (by simp [subL, va_rf]) hk
noncomputable def fX12_attempt_52b (h : Hp) (x0 : Nat) (x2 : Int32) (x4 : Int32) (x5 : Int32) (x6 : Int32) (x7 : Int32) : Option ((Int32 × Int32 × Int32 × Hp) ⊕ (Int32 × Hp)) :=
  if (4 : Int32) < x7 then (
  (fX12_attempt_98 h x5).map (fun q => .inr q)) else (
    if x4 = 0 then (
    (fX12_attempt_98 h x5).map (fun q => .inr q)) else (
      gO h 12 x0 (
      (fX12_mostOften h x0 x2 x7 x4).bind fun y8 =>
      if y8.1 < x6 then (
        fX12_attempt_92 y8.2 x0 x2 x4 x7 y8.1 x7) else (
        fX12_attempt_92 y8.2 x0 x2 x4 x5 x6 x7))))
noncomputable def fX12_attempt_52 (h : Hp) (x0 : Nat) (x2 : Int32) (x4 : Int32) (x5 : Int32) (x6 : Int32) (x7 : Int32) : Option (Int32 × Hp) := lpw (σ := (Int32 × Int32 × Int32 × Hp)) (fun s => fX12_attempt_52b s.2.2.2 x0 x2 x4 s.1 s.2.1 s.2.2.1) (x5, x6, x7, h)
theorem oX12_attempt_52b {d : Nat} (hd : 6 ≤ d) {h : Hp} {x0 : Nat} {x2 : Int32} {x4 : Int32} {x5 : Int32} {x6 : Int32} {x7 : Int32} {rf : Option Value} {hf : Hp} {x : ((Int32 × Int32 × Int32 × Hp) ⊕ (Int32 × Hp))} (hs : fX12_attempt_52b h x0 x2 x4 x5 x6 x7 = some x) (hk : (Kx (pX12_attempt_52 d x0 x2 x4 rf hf) (kX12_attempt rf hf)) x) : Go d mX12_attempt 52 [some (.ref x0), none, some (.int x2), none, some (.int x4), some (.int x5), some (.int x6), some (.int x7), none] [] h rf hf := by
  unfold fX12_attempt_52b at hs
  refine go_iload rfl dX12_attempt_52 ?_
  refine go_iconst (v := 4) (by decide) dX12_attempt_54 ?_
  refine go_icmp_gt (tgt := 98) (by decide) dX12_attempt_55 (fun c => ?_) (fun c => ?_)
  · have hs := if_t c hs
    obtain ⟨q, hs2, hq⟩ := mapS hs
    clear hs
    subst hq
    exact go_subL (L' := [none, none, none, none, none, some (.int x5), none, none, none]) (by simp [subL, va_rf]) (oX12_attempt_98 hd hs2 hk)
  · have hs := if_f c hs
    refine go_iload rfl dX12_attempt_58 ?_
    refine go_if_eq (tgt := 98) (by decide) dX12_attempt_60 (fun c => ?_) (fun c => ?_)
    · have hs := if_t c hs
      obtain ⟨q, hs2, hq⟩ := mapS hs
      clear hs
      subst hq
      exact go_subL (L' := [none, none, none, none, none, some (.int x5), none, none, none]) (by simp [subL, va_rf]) (oX12_attempt_98 hd hs2 hk)
    · have hs := if_f c hs
      refine go_aload_n (k4 := 0) rfl (Or.inr ⟨_, rfl⟩) dX12_attempt_63 ?_
      refine go_iload_n (k4 := 2) rfl dX12_attempt_64 ?_
      refine go_iload rfl dX12_attempt_65 ?_
      refine go_iload rfl dX12_attempt_67 ?_
      obtain ⟨g9, hs⟩ := gO_at hs
      obtain ⟨y8, ey8, hs⟩ := bindS hs
      refine go_V1 (As := [.int x2, .int x7, .int x4]) (st := []) g9 rfl rfl (oX12_mostOften (d := d - 1) (by omega) ey8) (by omega) mb_X12_mostOften lm_RX12_439 mi_X12_mostOften (Nat.le_of_ble_eq_true rfl) rfl dX12_attempt_69 ?_
      refine go_istore (L' := [some (.ref x0), none, some (.int x2), none, some (.int x4), some (.int x5), some (.int x6), some (.int x7), some (.int y8.1)]) (by decide) rfl dX12_attempt_72 ?_
      refine go_iload rfl dX12_attempt_74 ?_
      refine go_at 76 rfl ?_
      refine go_iload rfl dX12_attempt_76 ?_
      refine go_icmp_lt (tgt := 84) (by decide) dX12_attempt_78 (fun c => ?_) (fun c => ?_)
      · have hs := if_t c hs
        refine go_iload rfl dX12_attempt_84 ?_
        refine go_istore (L' := [some (.ref x0), none, some (.int x2), none, some (.int x4), some (.int x7), some (.int x6), some (.int x7), some (.int y8.1)]) (by decide) rfl dX12_attempt_86 ?_
        refine go_iload rfl dX12_attempt_88 ?_
        refine go_istore (L' := [some (.ref x0), none, some (.int x2), none, some (.int x4), some (.int x7), some (.int y8.1), some (.int x7), some (.int y8.1)]) (by decide) rfl dX12_attempt_90 ?_
        exact go_subL (L' := [some (.ref x0), none, some (.int x2), none, some (.int x4), some (.int x7), some (.int y8.1), some (.int x7), none]) (by simp [subL, va_rf]) (oX12_attempt_92 hd hs hk)
      · have hs := if_f c hs
        refine go_goto (tgt := 92) (by decide) dX12_attempt_81 ?_
        exact go_subL (L' := [some (.ref x0), none, some (.int x2), none, some (.int x4), some (.int x5), some (.int x6), some (.int x7), none]) (by simp [subL, va_rf]) (oX12_attempt_92 hd hs hk)
theorem oX12_attempt_52 {d : Nat} (hd : 6 ≤ d) {h : Hp} {x0 : Nat} {x2 : Int32} {x4 : Int32} {x5 : Int32} {x6 : Int32} {x7 : Int32} {rf : Option Value} {hf : Hp} {x : (Int32 × Hp)} (hs : fX12_attempt_52 h x0 x2 x4 x5 x6 x7 = some x) (hk : (kX12_attempt rf hf) x) : Go d mX12_attempt 52 [some (.ref x0), none, some (.int x2), none, some (.int x4), some (.int x5), some (.int x6), some (.int x7), none] [] h rf hf := by
  unfold fX12_attempt_52 at hs
  exact lpw_go (P := pX12_attempt_52 d x0 x2 x4 rf hf) (fun s x hs hk => oX12_attempt_52b hd hs hk) (x5, x6, x7, h) x hs hk
noncomputable def fX12_attempt (h : Hp) (x0 : Nat) (x1 : Int32) (x2 : Int32) : Option (Int32 × Hp) :=
  (sV h 12 x0 0 (.int (0 : Int32))).bind fun h1 =>
  gO h1 12 x0 (
  (fX12_noSeen h1 x0 x1 x2).bind fun y2 =>
  if y2 = 0 then (
    (gN h1 12 x0 1).bind fun v4 =>
    (aI 0 h1 v4 ((15 : Int32) + x2)).bind fun v5 =>
    if v5 = 0 then (
      some (((-5 : Int32), h1))) else (
      gO h1 12 x0 (
      (fX12_chalksOf h1 x0 x1 x2).bind fun y6 =>
      fX12_attempt_52 y6.2 x0 x2 y6.1 (-1 : Int32) (268435456 : Int32) (0 : Int32)))) else (
    some ((y2, h1))))
theorem oX12_attempt_0 {d : Nat} (hd : 6 ≤ d) {h : Hp} {x0 : Nat} {x1 : Int32} {x2 : Int32} {rf : Option Value} {hf : Hp} {x : (Int32 × Hp)} (hs : fX12_attempt h x0 x1 x2 = some x) (hk : (kX12_attempt rf hf) x) : Go d mX12_attempt 0 [some (.ref x0), some (.int x1), some (.int x2), none, none, none, none, none, none] [] h rf hf := by
  unfold fX12_attempt at hs
  refine go_aload_n (k4 := 0) rfl (Or.inr ⟨_, rfl⟩) dX12_attempt_0 ?_
  refine go_iconst (v := 0) (by decide) dX12_attempt_1 ?_
  obtain ⟨h1, eh1, hs⟩ := bindS hs
  refine go_sV fw_RX12_1 eh1 rfl rfl dX12_attempt_2 ?_
  refine go_aload_n (k4 := 0) rfl (Or.inr ⟨_, rfl⟩) dX12_attempt_5 ?_
  refine go_iload_n (k4 := 1) rfl dX12_attempt_6 ?_
  refine go_iload_n (k4 := 2) rfl dX12_attempt_7 ?_
  obtain ⟨g3, hs⟩ := gO_at hs
  obtain ⟨y2, ey2, hs⟩ := bindS hs
  refine go_V1 (As := [.int x1, .int x2]) (st := []) g3 rfl rfl (oX12_noSeen (d := d - 1) (by omega) ey2) (by omega) mb_X12_noSeen lm_RX12_425 mi_X12_noSeen (Nat.le_of_ble_eq_true rfl) rfl dX12_attempt_8 ?_
  refine go_at 11 rfl ?_
  refine go_istore_n (k4 := 3) (L' := [some (.ref x0), some (.int x1), some (.int x2), some (.int y2), none, none, none, none, none]) (by decide) rfl dX12_attempt_11 ?_
  refine go_iload_n (k4 := 3) rfl dX12_attempt_12 ?_
  refine go_if_eq (tgt := 18) (by decide) dX12_attempt_13 (fun c => ?_) (fun c => ?_)
  · have hs := if_t c hs
    refine go_aload_n (k4 := 0) rfl (Or.inr ⟨_, rfl⟩) dX12_attempt_18 ?_
    obtain ⟨v4, ev4, hs⟩ := bindS hs
    refine go_gN fl_RX12_13 ev4 dX12_attempt_19 ?_
    refine go_bipush (v := 15) (by decide) dX12_attempt_22 ?_
    refine go_iload_n (k4 := 2) rfl dX12_attempt_24 ?_
    refine go_iadd dX12_attempt_25 ?_
    obtain ⟨v5, ev5, hs⟩ := bindS hs
    refine go_aIi ev5 dX12_attempt_26 ?_
    refine go_if_ne (tgt := 33) (by decide) dX12_attempt_27 (fun c => ?_) (fun c => ?_)
    · have hs := if_f c hs
      refine go_aload_n (k4 := 0) rfl (Or.inr ⟨_, rfl⟩) dX12_attempt_33 ?_
      refine go_iload_n (k4 := 1) rfl dX12_attempt_34 ?_
      refine go_iload_n (k4 := 2) rfl dX12_attempt_35 ?_
      obtain ⟨g7, hs⟩ := gO_at hs
      obtain ⟨y6, ey6, hs⟩ := bindS hs
      refine go_V1 (As := [.int x1, .int x2]) (st := []) g7 rfl rfl (oX12_chalksOf (d := d - 1) (by omega) ey6) (by omega) mb_X12_chalksOf lm_RX12_432 mi_X12_chalksOf (Nat.le_of_ble_eq_true rfl) rfl dX12_attempt_36 ?_
      refine go_istore (L' := [some (.ref x0), some (.int x1), some (.int x2), some (.int y2), some (.int y6.1), none, none, none, none]) (by decide) rfl dX12_attempt_39 ?_
      refine go_iconst (v := -1) (by decide) dX12_attempt_41 ?_
      refine go_istore (L' := [some (.ref x0), some (.int x1), some (.int x2), some (.int y2), some (.int y6.1), some (.int (-1 : Int32)), none, none, none]) (by decide) rfl dX12_attempt_42 ?_
      refine go_at 44 rfl ?_
      refine go_ldcw lc_RX12_390 dX12_attempt_44 ?_
      refine go_istore (L' := [some (.ref x0), some (.int x1), some (.int x2), some (.int y2), some (.int y6.1), some (.int (-1 : Int32)), some (.int (268435456 : Int32)), none, none]) (by decide) rfl dX12_attempt_47 ?_
      refine go_iconst (v := 0) (by decide) dX12_attempt_49 ?_
      refine go_istore (L' := [some (.ref x0), some (.int x1), some (.int x2), some (.int y2), some (.int y6.1), some (.int (-1 : Int32)), some (.int (268435456 : Int32)), some (.int (0 : Int32)), none]) (by decide) rfl dX12_attempt_50 ?_
      exact go_subL (L' := [some (.ref x0), none, some (.int x2), none, some (.int y6.1), some (.int (-1 : Int32)), some (.int (268435456 : Int32)), some (.int (0 : Int32)), none]) (by simp [subL, va_rf]) (oX12_attempt_52 hd hs hk)
    · have hs := if_t c hs
      refine go_bipush (v := -5) (by decide) dX12_attempt_30 ?_
      obtain rfl := Option.some.inj hs
      obtain ⟨rfl, rfl⟩ := hk
      exact go_iret rfl dX12_attempt_32
  · have hs := if_f c hs
    refine go_iload_n (k4 := 3) rfl dX12_attempt_16 ?_
    obtain rfl := Option.some.inj hs
    obtain ⟨rfl, rfl⟩ := hk
    exact go_iret rfl dX12_attempt_17
theorem oX12_attempt {d : Nat} (hd : 6 ≤ d) {h : Hp} {x0 : Nat} {x1 : Int32} {x2 : Int32} {y : (Int32 × Hp)} (hs : fX12_attempt h x0 x1 x2 = some y) : Call d mX12_attempt [.ref x0, .int x1, .int x2] h (some (.int y.1)) (y.2) := call_of (by decide +kernel) (Nat.le_of_ble_eq_true rfl) (show Go d mX12_attempt 0 [some (.ref x0), some (.int x1), some (.int x2), none, none, none, none, none, none] [] h _ _ from go_subL (by simp [subL]) (oX12_attempt_0 hd hs ⟨rfl, rfl⟩))
abbrev kX12_forcedBy (h : Hp) (rf : Option Value) (hf : Hp) : Int32 → Prop := fun y => rf = some (.int y) ∧ hf = h
noncomputable def fX12_forcedBy_67 (h : Hp) (s0 : Int32) : Option Int32 :=
  some (s0)
theorem oX12_forcedBy_67 {d : Nat} (hd : 0 ≤ d) {h : Hp} {s0 : Int32} {rf : Option Value} {hf : Hp} {x : Int32} (hs : fX12_forcedBy_67 h s0 = some x) (hk : (kX12_forcedBy h rf hf) x) : Go d mX12_forcedBy 67 [none, none, none, none, none, none] [.int s0] h rf hf := by
  unfold fX12_forcedBy_67 at hs
  obtain rfl := Option.some.inj hs
  obtain ⟨rfl, rfl⟩ := hk
  exact go_iret rfl dX12_forcedBy_67
noncomputable def fX12_forcedBy_47 (h : Hp) (s0 : Int32) : Option Int32 :=
  if s0 = (268435456 : Int32) then (
    fX12_forcedBy_67 h (268435456 : Int32)) else (
    fX12_forcedBy_67 h (s0 + (1 : Int32)))
theorem oX12_forcedBy_47 {d : Nat} (hd : 0 ≤ d) {h : Hp} {s0 : Int32} {rf : Option Value} {hf : Hp} {x : Int32} (hs : fX12_forcedBy_47 h s0 = some x) (hk : (kX12_forcedBy h rf hf) x) : Go d mX12_forcedBy 47 [none, none, none, none, none, none] [.int s0] h rf hf := by
  unfold fX12_forcedBy_47 at hs
  refine go_istore (L' := [none, none, none, none, none, some (.int s0)]) (by decide) rfl dX12_forcedBy_47 ?_
  refine go_iload rfl dX12_forcedBy_49 ?_
  refine go_ldcw lc_RX12_390 dX12_forcedBy_51 ?_
  refine go_icmp_ne (tgt := 63) (by decide) dX12_forcedBy_54 (fun c => ?_) (fun c => ?_)
  · have hs := if_f c hs
    refine go_iload rfl dX12_forcedBy_63 ?_
    refine go_iconst (v := 1) (by decide) dX12_forcedBy_65 ?_
    refine go_iadd dX12_forcedBy_66 ?_
    exact go_subL (L' := [none, none, none, none, none, none]) (by simp [subL, va_rf]) (oX12_forcedBy_67 hd hs hk)
  · have hs := if_t c hs
    refine go_ldcw lc_RX12_390 dX12_forcedBy_57 ?_
    refine go_goto (tgt := 67) (by decide) dX12_forcedBy_60 ?_
    exact go_subL (L' := [none, none, none, none, none, none]) (by simp [subL, va_rf]) (oX12_forcedBy_67 hd hs hk)
noncomputable def fX12_forcedBy (h : Hp) (x0 : Nat) (x1 : Int32) (x2 : Int32) : Option Int32 :=
  (gN h 12 x0 31).bind fun v1 =>
  (gN h 12 x0 30).bind fun v2 =>
  (aI 0 h v2 (((35 : Int32) * x1) + x2)).bind fun v3 =>
  (aI 0 h v1 v3).bind fun v4 =>
  (gN h 12 x0 31).bind fun v5 =>
  (gN h 12 x0 37).bind fun v6 =>
  (aI 0 h v6 (((35 : Int32) * x1) + x2)).bind fun v7 =>
  (aI 0 h v5 v7).bind fun v8 =>
  if v4 ≤ v8 then (
    fX12_forcedBy_47 h v8) else (
    fX12_forcedBy_47 h v4)
theorem oX12_forcedBy_0 {d : Nat} (hd : 0 ≤ d) {h : Hp} {x0 : Nat} {x1 : Int32} {x2 : Int32} {rf : Option Value} {hf : Hp} {x : Int32} (hs : fX12_forcedBy h x0 x1 x2 = some x) (hk : (kX12_forcedBy h rf hf) x) : Go d mX12_forcedBy 0 [some (.ref x0), some (.int x1), some (.int x2), none, none, none] [] h rf hf := by
  unfold fX12_forcedBy at hs
  refine go_aload_n (k4 := 0) rfl (Or.inr ⟨_, rfl⟩) dX12_forcedBy_0 ?_
  obtain ⟨v1, ev1, hs⟩ := bindS hs
  refine go_gN fl_RX12_61 ev1 dX12_forcedBy_1 ?_
  refine go_aload_n (k4 := 0) rfl (Or.inr ⟨_, rfl⟩) dX12_forcedBy_4 ?_
  obtain ⟨v2, ev2, hs⟩ := bindS hs
  refine go_gN fl_RX12_58 ev2 dX12_forcedBy_5 ?_
  refine go_bipush (v := 35) (by decide) dX12_forcedBy_8 ?_
  refine go_iload_n (k4 := 1) rfl dX12_forcedBy_10 ?_
  refine go_imul dX12_forcedBy_11 ?_
  refine go_at 12 rfl ?_
  refine go_iload_n (k4 := 2) rfl dX12_forcedBy_12 ?_
  refine go_iadd dX12_forcedBy_13 ?_
  obtain ⟨v3, ev3, hs⟩ := bindS hs
  refine go_aIi ev3 dX12_forcedBy_14 ?_
  obtain ⟨v4, ev4, hs⟩ := bindS hs
  refine go_aIi ev4 dX12_forcedBy_15 ?_
  refine go_istore_n (k4 := 3) (L' := [some (.ref x0), some (.int x1), some (.int x2), some (.int v4), none, none]) (by decide) rfl dX12_forcedBy_16 ?_
  refine go_aload_n (k4 := 0) rfl (Or.inr ⟨_, rfl⟩) dX12_forcedBy_17 ?_
  obtain ⟨v5, ev5, hs⟩ := bindS hs
  refine go_gN fl_RX12_61 ev5 dX12_forcedBy_18 ?_
  refine go_aload_n (k4 := 0) rfl (Or.inr ⟨_, rfl⟩) dX12_forcedBy_21 ?_
  refine go_at 22 rfl ?_
  obtain ⟨v6, ev6, hs⟩ := bindS hs
  refine go_gN fl_RX12_77 ev6 dX12_forcedBy_22 ?_
  refine go_bipush (v := 35) (by decide) dX12_forcedBy_25 ?_
  refine go_iload_n (k4 := 1) rfl dX12_forcedBy_27 ?_
  refine go_imul dX12_forcedBy_28 ?_
  refine go_iload_n (k4 := 2) rfl dX12_forcedBy_29 ?_
  refine go_iadd dX12_forcedBy_30 ?_
  obtain ⟨v7, ev7, hs⟩ := bindS hs
  refine go_aIi ev7 dX12_forcedBy_31 ?_
  obtain ⟨v8, ev8, hs⟩ := bindS hs
  refine go_aIi ev8 dX12_forcedBy_32 ?_
  refine go_at 33 rfl ?_
  refine go_istore (L' := [some (.ref x0), some (.int x1), some (.int x2), some (.int v4), some (.int v8), none]) (by decide) rfl dX12_forcedBy_33 ?_
  refine go_iload_n (k4 := 3) rfl dX12_forcedBy_35 ?_
  refine go_iload rfl dX12_forcedBy_36 ?_
  refine go_icmp_le (tgt := 45) (by decide) dX12_forcedBy_38 (fun c => ?_) (fun c => ?_)
  · have hs := if_t c hs
    refine go_iload rfl dX12_forcedBy_45 ?_
    exact go_subL (L' := [none, none, none, none, none, none]) (by simp [subL, va_rf]) (oX12_forcedBy_47 hd hs hk)
  · have hs := if_f c hs
    refine go_iload_n (k4 := 3) rfl dX12_forcedBy_41 ?_
    refine go_goto (tgt := 47) (by decide) dX12_forcedBy_42 ?_
    exact go_subL (L' := [none, none, none, none, none, none]) (by simp [subL, va_rf]) (oX12_forcedBy_47 hd hs hk)
theorem oX12_forcedBy {d : Nat} (hd : 0 ≤ d) {h : Hp} {x0 : Nat} {x1 : Int32} {x2 : Int32} {y : Int32} (hs : fX12_forcedBy h x0 x1 x2 = some y) : Call d mX12_forcedBy [.ref x0, .int x1, .int x2] h (some (.int y)) h := call_of (by decide +kernel) (Nat.le_of_ble_eq_true rfl) (show Go d mX12_forcedBy 0 [some (.ref x0), some (.int x1), some (.int x2), none, none, none] [] h _ _ from go_subL (by simp [subL]) (oX12_forcedBy_0 hd hs ⟨rfl, rfl⟩))
abbrev kX12_laysForced (rf : Option Value) (hf : Hp) : (Int32 × Hp) → Prop := fun y => rf = some (.int y.1) ∧ hf = y.2
abbrev pX12_laysForced_7 (d : Nat) (x0 : Nat) (x1 : Int32) (rf : Option Value) (hf : Hp) : (Int32 × Hp) → Prop := fun s => Go d mX12_laysForced 7 [some (.ref x0), some (.int x1), some (.int s.1), none, none, none] [] s.2 rf hf
abbrev pX12_laysForced_94 (d : Nat) (x0 : Nat) (rf : Option Value) (hf : Hp) : (Int32 × Hp) → Prop := fun s => Go d mX12_laysForced 94 [some (.ref x0), none, some (.int s.1), none, none, none] [] s.2 rf hf
noncomputable def fX12_laysForced_194 (h : Hp) (x0 : Nat) : Option (Int32 × Hp) :=
  (gN h 12 x0 31).bind fun v4 =>
  gO h 12 x0 (
  (fX12_standNow h x0).bind fun y5 =>
  (aI 0 h v4 y5).bind fun v7 =>
  some ((v7, h)))
theorem oX12_laysForced_194 {d : Nat} (hd : 5 ≤ d) {h : Hp} {x0 : Nat} {rf : Option Value} {hf : Hp} {x : (Int32 × Hp)} (hs : fX12_laysForced_194 h x0 = some x) (hk : (kX12_laysForced rf hf) x) : Go d mX12_laysForced 194 [some (.ref x0), none, none, none, none, none] [] h rf hf := by
  unfold fX12_laysForced_194 at hs
  refine go_aload_n (k4 := 0) rfl (Or.inr ⟨_, rfl⟩) dX12_laysForced_194 ?_
  obtain ⟨v4, ev4, hs⟩ := bindS hs
  refine go_gN fl_RX12_61 ev4 dX12_laysForced_195 ?_
  refine go_aload_n (k4 := 0) rfl (Or.inr ⟨_, rfl⟩) dX12_laysForced_198 ?_
  obtain ⟨g6, hs⟩ := gO_at hs
  obtain ⟨y5, ey5, hs⟩ := bindS hs
  refine go_V1 (As := []) (st := [.ref v4]) g6 rfl rfl (oX12_standNow (d := d - 1) (by omega) ey5) (by omega) mb_X12_standNow lm_RX12_282 mi_X12_standNow (Nat.le_of_ble_eq_true rfl) rfl dX12_laysForced_199 ?_
  obtain ⟨v7, ev7, hs⟩ := bindS hs
  refine go_aIi ev7 dX12_laysForced_202 ?_
  obtain rfl := Option.some.inj hs
  obtain ⟨rfl, rfl⟩ := hk
  exact go_iret rfl dX12_laysForced_203
abbrev pX12_laysForced_107 (d : Nat) (x0 : Nat) (rf : Option Value) (hf : Hp) : (Int32 × Int32 × Hp) → Prop := fun s => Go d mX12_laysForced 107 [some (.ref x0), none, some (.int s.1), some (.int s.2.1), none, none] [] s.2.2 rf hf
abbrev pX12_laysForced_122 (d : Nat) (x0 : Nat) (x3 : Int32) (x4 : Int32) (rf : Option Value) (hf : Hp) : (Int32 × Int32 × Hp) → Prop := fun s => Go d mX12_laysForced 122 [some (.ref x0), none, some (.int s.1), some (.int x3), some (.int x4), some (.int s.2.1)] [] s.2.2 rf hf
noncomputable def fX12_laysForced_185 (h : Hp) (x0 : Nat) (x2 : Int32) (x3 : Int32) : Option ((Int32 × Int32 × Hp) ⊕ ((Int32 × Hp) ⊕ (Int32 × Hp))) :=
  some (.inl (x2, (x3 + Int32.ofInt (-1)), h))
theorem oX12_laysForced_185 {d : Nat} (hd : 5 ≤ d) {h : Hp} {x0 : Nat} {x2 : Int32} {x3 : Int32} {rf : Option Value} {hf : Hp} {x : ((Int32 × Int32 × Hp) ⊕ ((Int32 × Hp) ⊕ (Int32 × Hp)))} (hs : fX12_laysForced_185 h x0 x2 x3 = some x) (hk : (Kx (pX12_laysForced_107 d x0 rf hf) (Kx (pX12_laysForced_94 d x0 rf hf) (kX12_laysForced rf hf))) x) : Go d mX12_laysForced 185 [some (.ref x0), none, some (.int x2), some (.int x3), none, none] [] h rf hf := by
  unfold fX12_laysForced_185 at hs
  refine go_iinc (L' := [some (.ref x0), none, some (.int x2), some (.int (x3 + Int32.ofInt (-1))), none, none]) rfl (by decide) rfl rfl dX12_laysForced_185 ?_
  refine go_goto (tgt := 107) (by decide) dX12_laysForced_188 ?_
  obtain rfl := Option.some.inj hs
  exact go_subL (L' := [some (.ref x0), none, some (.int x2), some (.int (x3 + Int32.ofInt (-1))), none, none]) (by simp [subL, va_rf]) hk
noncomputable def fX12_laysForced_179 (h : Hp) (x0 : Nat) (x2 : Int32) (x3 : Int32) (x4 : Int32) (x5 : Int32) : Option ((Int32 × Int32 × Hp) ⊕ ((Int32 × Int32 × Hp) ⊕ ((Int32 × Hp) ⊕ (Int32 × Hp)))) :=
  some (.inl (x2, (x5 + Int32.ofInt 1), h))
theorem oX12_laysForced_179 {d : Nat} (hd : 5 ≤ d) {h : Hp} {x0 : Nat} {x2 : Int32} {x3 : Int32} {x4 : Int32} {x5 : Int32} {rf : Option Value} {hf : Hp} {x : ((Int32 × Int32 × Hp) ⊕ ((Int32 × Int32 × Hp) ⊕ ((Int32 × Hp) ⊕ (Int32 × Hp))))} (hs : fX12_laysForced_179 h x0 x2 x3 x4 x5 = some x) (hk : (Kx (pX12_laysForced_122 d x0 x3 x4 rf hf) (Kx (pX12_laysForced_107 d x0 rf hf) (Kx (pX12_laysForced_94 d x0 rf hf) (kX12_laysForced rf hf)))) x) : Go d mX12_laysForced 179 [some (.ref x0), none, some (.int x2), some (.int x3), some (.int x4), some (.int x5)] [] h rf hf := by
  unfold fX12_laysForced_179 at hs
  refine go_iinc (L' := [some (.ref x0), none, some (.int x2), some (.int x3), some (.int x4), some (.int (x5 + Int32.ofInt 1))]) rfl (by decide) rfl rfl dX12_laysForced_179 ?_
  refine go_goto (tgt := 122) (by decide) dX12_laysForced_182 ?_
  obtain rfl := Option.some.inj hs
  exact go_subL (L' := [some (.ref x0), none, some (.int x2), some (.int x3), some (.int x4), some (.int (x5 + Int32.ofInt 1))]) (by simp [subL, va_rf]) hk
noncomputable def fX12_laysForced_122b (h : Hp) (x0 : Nat) (x3 : Int32) (x4 : Int32) (x2 : Int32) (x5 : Int32) : Option ((Int32 × Int32 × Hp) ⊕ ((Int32 × Int32 × Hp) ⊕ ((Int32 × Hp) ⊕ (Int32 × Hp)))) :=
  (gI h 12 x0 21).bind fun v11 =>
  if v11 ≤ x5 then (
  (fX12_laysForced_185 h x0 x2 x3).map (fun q => .inr q)) else (
    (gN h 12 x0 31).bind fun v12 =>
    (aI 0 h v12 x4).bind fun v13 =>
    if v13 ≤ 0 then (
    (fX12_laysForced_185 h x0 x2 x3).map (fun q => .inr q)) else (
      gO h 12 x0 (
      (fX12_forcedBy h x0 x4 x5).bind fun y14 =>
      (gN h 12 x0 31).bind fun v16 =>
      (aI 0 h v16 x4).bind fun v17 =>
      if y14 < v17 then (
        (gN h 12 x0 31).bind fun v18 =>
        gO h 12 x0 (
        (fX12_forcedBy h x0 x4 x5).bind fun y19 =>
        (wI 0 h v18 x4 y19).bind fun h21 =>
        fX12_laysForced_179 h21 x0 (1 : Int32) x3 x4 x5)) else (
        fX12_laysForced_179 h x0 x2 x3 x4 x5))))
noncomputable def fX12_laysForced_122 (h : Hp) (x0 : Nat) (x2 : Int32) (x3 : Int32) (x4 : Int32) (x5 : Int32) : Option ((Int32 × Int32 × Hp) ⊕ ((Int32 × Hp) ⊕ (Int32 × Hp))) := lpw (σ := (Int32 × Int32 × Hp)) (fun s => fX12_laysForced_122b s.2.2 x0 x3 x4 s.1 s.2.1) (x2, x5, h)
theorem oX12_laysForced_122b {d : Nat} (hd : 5 ≤ d) {h : Hp} {x0 : Nat} {x2 : Int32} {x3 : Int32} {x4 : Int32} {x5 : Int32} {rf : Option Value} {hf : Hp} {x : ((Int32 × Int32 × Hp) ⊕ ((Int32 × Int32 × Hp) ⊕ ((Int32 × Hp) ⊕ (Int32 × Hp))))} (hs : fX12_laysForced_122b h x0 x3 x4 x2 x5 = some x) (hk : (Kx (pX12_laysForced_122 d x0 x3 x4 rf hf) (Kx (pX12_laysForced_107 d x0 rf hf) (Kx (pX12_laysForced_94 d x0 rf hf) (kX12_laysForced rf hf)))) x) : Go d mX12_laysForced 122 [some (.ref x0), none, some (.int x2), some (.int x3), some (.int x4), some (.int x5)] [] h rf hf := by
  unfold fX12_laysForced_122b at hs
  refine go_iload rfl dX12_laysForced_122 ?_
  refine go_aload_n (k4 := 0) rfl (Or.inr ⟨_, rfl⟩) dX12_laysForced_124 ?_
  obtain ⟨v11, ev11, hs⟩ := bindS hs
  refine go_gI fl_RX12_285 ev11 dX12_laysForced_125 ?_
  refine go_icmp_ge (tgt := 185) (by decide) dX12_laysForced_128 (fun c => ?_) (fun c => ?_)
  · have hs := if_t c hs
    obtain ⟨q, hs2, hq⟩ := mapS hs
    clear hs
    subst hq
    exact go_subL (L' := [some (.ref x0), none, some (.int x2), some (.int x3), none, none]) (by simp [subL, va_rf]) (oX12_laysForced_185 hd hs2 hk)
  · have hs := if_f c hs
    refine go_aload_n (k4 := 0) rfl (Or.inr ⟨_, rfl⟩) dX12_laysForced_131 ?_
    obtain ⟨v12, ev12, hs⟩ := bindS hs
    refine go_gN fl_RX12_61 ev12 dX12_laysForced_132 ?_
    refine go_iload rfl dX12_laysForced_135 ?_
    obtain ⟨v13, ev13, hs⟩ := bindS hs
    refine go_aIi ev13 dX12_laysForced_137 ?_
    refine go_if_le (tgt := 185) (by decide) dX12_laysForced_138 (fun c => ?_) (fun c => ?_)
    · have hs := if_t c hs
      obtain ⟨q, hs2, hq⟩ := mapS hs
      clear hs
      subst hq
      exact go_subL (L' := [some (.ref x0), none, some (.int x2), some (.int x3), none, none]) (by simp [subL, va_rf]) (oX12_laysForced_185 hd hs2 hk)
    · have hs := if_f c hs
      refine go_aload_n (k4 := 0) rfl (Or.inr ⟨_, rfl⟩) dX12_laysForced_141 ?_
      refine go_iload rfl dX12_laysForced_142 ?_
      refine go_iload rfl dX12_laysForced_144 ?_
      obtain ⟨g15, hs⟩ := gO_at hs
      obtain ⟨y14, ey14, hs⟩ := bindS hs
      refine go_V1 (As := [.int x4, .int x5]) (st := []) g15 rfl rfl (oX12_forcedBy (d := d - 1) (by omega) ey14) (by omega) mb_X12_forcedBy lm_RX12_442 mi_X12_forcedBy (Nat.le_of_ble_eq_true rfl) rfl dX12_laysForced_146 ?_
      refine go_aload_n (k4 := 0) rfl (Or.inr ⟨_, rfl⟩) dX12_laysForced_149 ?_
      obtain ⟨v16, ev16, hs⟩ := bindS hs
      refine go_gN fl_RX12_61 ev16 dX12_laysForced_150 ?_
      refine go_iload rfl dX12_laysForced_153 ?_
      refine go_at 155 rfl ?_
      obtain ⟨v17, ev17, hs⟩ := bindS hs
      refine go_aIi ev17 dX12_laysForced_155 ?_
      refine go_icmp_lt (tgt := 162) (by decide) dX12_laysForced_156 (fun c => ?_) (fun c => ?_)
      · have hs := if_t c hs
        refine go_aload_n (k4 := 0) rfl (Or.inr ⟨_, rfl⟩) dX12_laysForced_162 ?_
        obtain ⟨v18, ev18, hs⟩ := bindS hs
        refine go_gN fl_RX12_61 ev18 dX12_laysForced_163 ?_
        refine go_iload rfl dX12_laysForced_166 ?_
        refine go_aload_n (k4 := 0) rfl (Or.inr ⟨_, rfl⟩) dX12_laysForced_168 ?_
        refine go_iload rfl dX12_laysForced_169 ?_
        refine go_iload rfl dX12_laysForced_171 ?_
        obtain ⟨g20, hs⟩ := gO_at hs
        obtain ⟨y19, ey19, hs⟩ := bindS hs
        refine go_V1 (As := [.int x4, .int x5]) (st := [.int x4, .ref v18]) g20 rfl rfl (oX12_forcedBy (d := d - 1) (by omega) ey19) (by omega) mb_X12_forcedBy lm_RX12_442 mi_X12_forcedBy (Nat.le_of_ble_eq_true rfl) rfl dX12_laysForced_173 ?_
        refine go_at 176 rfl ?_
        obtain ⟨h21, eh21, hs⟩ := bindS hs
        refine go_wIi eh21 dX12_laysForced_176 ?_
        refine go_iconst (v := 1) (by decide) dX12_laysForced_177 ?_
        refine go_istore_n (k4 := 2) (L' := [some (.ref x0), none, some (.int (1 : Int32)), some (.int x3), some (.int x4), some (.int x5)]) (by decide) rfl dX12_laysForced_178 ?_
        exact go_subL (L' := [some (.ref x0), none, some (.int (1 : Int32)), some (.int x3), some (.int x4), some (.int x5)]) (by simp [subL, va_rf]) (oX12_laysForced_179 hd hs hk)
      · have hs := if_f c hs
        refine go_goto (tgt := 179) (by decide) dX12_laysForced_159 ?_
        exact go_subL (L' := [some (.ref x0), none, some (.int x2), some (.int x3), some (.int x4), some (.int x5)]) (by simp [subL, va_rf]) (oX12_laysForced_179 hd hs hk)
theorem oX12_laysForced_122 {d : Nat} (hd : 5 ≤ d) {h : Hp} {x0 : Nat} {x2 : Int32} {x3 : Int32} {x4 : Int32} {x5 : Int32} {rf : Option Value} {hf : Hp} {x : ((Int32 × Int32 × Hp) ⊕ ((Int32 × Hp) ⊕ (Int32 × Hp)))} (hs : fX12_laysForced_122 h x0 x2 x3 x4 x5 = some x) (hk : (Kx (pX12_laysForced_107 d x0 rf hf) (Kx (pX12_laysForced_94 d x0 rf hf) (kX12_laysForced rf hf))) x) : Go d mX12_laysForced 122 [some (.ref x0), none, some (.int x2), some (.int x3), some (.int x4), some (.int x5)] [] h rf hf := by
  unfold fX12_laysForced_122 at hs
  exact lpw_go (P := pX12_laysForced_122 d x0 x3 x4 rf hf) (fun s x hs hk => oX12_laysForced_122b hd hs hk) (x2, x5, h) x hs hk
noncomputable def fX12_laysForced_107b (h : Hp) (x0 : Nat) (x2 : Int32) (x3 : Int32) : Option ((Int32 × Int32 × Hp) ⊕ ((Int32 × Hp) ⊕ (Int32 × Hp))) :=
  if x3 < 0 then (
    some (.inr (.inl (x2, h)))) else (
    (gN h 12 x0 29).bind fun v9 =>
    (aI 0 h v9 x3).bind fun v10 =>
    fX12_laysForced_122 h x0 x2 x3 v10 (0 : Int32))
noncomputable def fX12_laysForced_107 (h : Hp) (x0 : Nat) (x2 : Int32) (x3 : Int32) : Option ((Int32 × Hp) ⊕ (Int32 × Hp)) := lpw (σ := (Int32 × Int32 × Hp)) (fun s => fX12_laysForced_107b s.2.2 x0 s.1 s.2.1) (x2, x3, h)
theorem oX12_laysForced_107b {d : Nat} (hd : 5 ≤ d) {h : Hp} {x0 : Nat} {x2 : Int32} {x3 : Int32} {rf : Option Value} {hf : Hp} {x : ((Int32 × Int32 × Hp) ⊕ ((Int32 × Hp) ⊕ (Int32 × Hp)))} (hs : fX12_laysForced_107b h x0 x2 x3 = some x) (hk : (Kx (pX12_laysForced_107 d x0 rf hf) (Kx (pX12_laysForced_94 d x0 rf hf) (kX12_laysForced rf hf))) x) : Go d mX12_laysForced 107 [some (.ref x0), none, some (.int x2), some (.int x3), none, none] [] h rf hf := by
  unfold fX12_laysForced_107b at hs
  refine go_iload_n (k4 := 3) rfl dX12_laysForced_107 ?_
  refine go_if_lt (tgt := 191) (by decide) dX12_laysForced_108 (fun c => ?_) (fun c => ?_)
  · have hs := if_t c hs
    refine go_goto (tgt := 94) (by decide) dX12_laysForced_191 ?_
    obtain rfl := Option.some.inj hs
    exact go_subL (L' := [some (.ref x0), none, some (.int x2), none, none, none]) (by simp [subL, va_rf]) hk
  · have hs := if_f c hs
    refine go_aload_n (k4 := 0) rfl (Or.inr ⟨_, rfl⟩) dX12_laysForced_111 ?_
    obtain ⟨v9, ev9, hs⟩ := bindS hs
    refine go_gN fl_RX12_54 ev9 dX12_laysForced_112 ?_
    refine go_iload_n (k4 := 3) rfl dX12_laysForced_115 ?_
    obtain ⟨v10, ev10, hs⟩ := bindS hs
    refine go_aIi ev10 dX12_laysForced_116 ?_
    refine go_istore (L' := [some (.ref x0), none, some (.int x2), some (.int x3), some (.int v10), none]) (by decide) rfl dX12_laysForced_117 ?_
    refine go_iconst (v := 0) (by decide) dX12_laysForced_119 ?_
    refine go_istore (L' := [some (.ref x0), none, some (.int x2), some (.int x3), some (.int v10), some (.int (0 : Int32))]) (by decide) rfl dX12_laysForced_120 ?_
    exact go_subL (L' := [some (.ref x0), none, some (.int x2), some (.int x3), some (.int v10), some (.int (0 : Int32))]) (by simp [subL, va_rf]) (oX12_laysForced_122 hd hs hk)
theorem oX12_laysForced_107 {d : Nat} (hd : 5 ≤ d) {h : Hp} {x0 : Nat} {x2 : Int32} {x3 : Int32} {rf : Option Value} {hf : Hp} {x : ((Int32 × Hp) ⊕ (Int32 × Hp))} (hs : fX12_laysForced_107 h x0 x2 x3 = some x) (hk : (Kx (pX12_laysForced_94 d x0 rf hf) (kX12_laysForced rf hf)) x) : Go d mX12_laysForced 107 [some (.ref x0), none, some (.int x2), some (.int x3), none, none] [] h rf hf := by
  unfold fX12_laysForced_107 at hs
  exact lpw_go (P := pX12_laysForced_107 d x0 rf hf) (fun s x hs hk => oX12_laysForced_107b hd hs hk) (x2, x3, h) x hs hk
noncomputable def fX12_laysForced_94b (h : Hp) (x0 : Nat) (x2 : Int32) : Option ((Int32 × Hp) ⊕ (Int32 × Hp)) :=
  if x2 = 0 then (
  (fX12_laysForced_194 h x0).map (fun q => .inr q)) else (
    (gI h 12 x0 33).bind fun v8 =>
    fX12_laysForced_107 h x0 (0 : Int32) (v8 - (1 : Int32)))
noncomputable def fX12_laysForced_94 (h : Hp) (x0 : Nat) (x2 : Int32) : Option (Int32 × Hp) := lpw (σ := (Int32 × Hp)) (fun s => fX12_laysForced_94b s.2 x0 s.1) (x2, h)
theorem oX12_laysForced_94b {d : Nat} (hd : 5 ≤ d) {h : Hp} {x0 : Nat} {x2 : Int32} {rf : Option Value} {hf : Hp} {x : ((Int32 × Hp) ⊕ (Int32 × Hp))} (hs : fX12_laysForced_94b h x0 x2 = some x) (hk : (Kx (pX12_laysForced_94 d x0 rf hf) (kX12_laysForced rf hf)) x) : Go d mX12_laysForced 94 [some (.ref x0), none, some (.int x2), none, none, none] [] h rf hf := by
  unfold fX12_laysForced_94b at hs
  refine go_iload_n (k4 := 2) rfl dX12_laysForced_94 ?_
  refine go_if_eq (tgt := 194) (by decide) dX12_laysForced_95 (fun c => ?_) (fun c => ?_)
  · have hs := if_t c hs
    obtain ⟨q, hs2, hq⟩ := mapS hs
    clear hs
    subst hq
    exact go_subL (L' := [some (.ref x0), none, none, none, none, none]) (by simp [subL, va_rf]) (oX12_laysForced_194 hd hs2 hk)
  · have hs := if_f c hs
    refine go_iconst (v := 0) (by decide) dX12_laysForced_98 ?_
    refine go_istore_n (k4 := 2) (L' := [some (.ref x0), none, some (.int (0 : Int32)), none, none, none]) (by decide) rfl dX12_laysForced_99 ?_
    refine go_aload_n (k4 := 0) rfl (Or.inr ⟨_, rfl⟩) dX12_laysForced_100 ?_
    obtain ⟨v8, ev8, hs⟩ := bindS hs
    refine go_gI fl_RX12_384 ev8 dX12_laysForced_101 ?_
    refine go_iconst (v := 1) (by decide) dX12_laysForced_104 ?_
    refine go_isub dX12_laysForced_105 ?_
    refine go_istore_n (k4 := 3) (L' := [some (.ref x0), none, some (.int (0 : Int32)), some (.int (v8 - (1 : Int32))), none, none]) (by decide) rfl dX12_laysForced_106 ?_
    exact go_subL (L' := [some (.ref x0), none, some (.int (0 : Int32)), some (.int (v8 - (1 : Int32))), none, none]) (by simp [subL, va_rf]) (oX12_laysForced_107 hd hs hk)
theorem oX12_laysForced_94 {d : Nat} (hd : 5 ≤ d) {h : Hp} {x0 : Nat} {x2 : Int32} {rf : Option Value} {hf : Hp} {x : (Int32 × Hp)} (hs : fX12_laysForced_94 h x0 x2 = some x) (hk : (kX12_laysForced rf hf) x) : Go d mX12_laysForced 94 [some (.ref x0), none, some (.int x2), none, none, none] [] h rf hf := by
  unfold fX12_laysForced_94 at hs
  exact lpw_go (P := pX12_laysForced_94 d x0 rf hf) (fun s x hs hk => oX12_laysForced_94b hd hs hk) (x2, h) x hs hk
noncomputable def fX12_laysForced_92 (h : Hp) (x0 : Nat) : Option (Int32 × Hp) :=
  fX12_laysForced_94 h x0 (1 : Int32)
theorem oX12_laysForced_92 {d : Nat} (hd : 5 ≤ d) {h : Hp} {x0 : Nat} {rf : Option Value} {hf : Hp} {x : (Int32 × Hp)} (hs : fX12_laysForced_92 h x0 = some x) (hk : (kX12_laysForced rf hf) x) : Go d mX12_laysForced 92 [some (.ref x0), none, none, none, none, none] [] h rf hf := by
  unfold fX12_laysForced_92 at hs
  refine go_iconst (v := 1) (by decide) dX12_laysForced_92 ?_
  refine go_istore_n (k4 := 2) (L' := [some (.ref x0), none, some (.int (1 : Int32)), none, none, none]) (by decide) rfl dX12_laysForced_93 ?_
  exact go_subL (L' := [some (.ref x0), none, some (.int (1 : Int32)), none, none, none]) (by simp [subL, va_rf]) (oX12_laysForced_94 hd hs hk)
abbrev pX12_laysForced_25 (d : Nat) (x0 : Nat) (x1 : Int32) (x2 : Int32) (x3 : Int32) (rf : Option Value) (hf : Hp) : (Int32 × Hp) → Prop := fun s => Go d mX12_laysForced 25 [some (.ref x0), some (.int x1), some (.int x2), some (.int x3), some (.int s.1), none] [] s.2 rf hf
noncomputable def fX12_laysForced_85 (h : Hp) (x0 : Nat) (x1 : Int32) (x2 : Int32) (s0 : Nat) (s1 : Int32) (s2 : Int32) : Option ((Int32 × Hp) ⊕ (Int32 × Hp)) :=
  (wI 0 h s0 s1 s2).bind fun h27 =>
  some (.inl ((x2 + Int32.ofInt 1), h27))
theorem oX12_laysForced_85 {d : Nat} (hd : 5 ≤ d) {h : Hp} {x0 : Nat} {x1 : Int32} {x2 : Int32} {s0 : Nat} {s1 : Int32} {s2 : Int32} {rf : Option Value} {hf : Hp} {x : ((Int32 × Hp) ⊕ (Int32 × Hp))} (hs : fX12_laysForced_85 h x0 x1 x2 s0 s1 s2 = some x) (hk : (Kx (pX12_laysForced_7 d x0 x1 rf hf) (kX12_laysForced rf hf)) x) : Go d mX12_laysForced 85 [some (.ref x0), some (.int x1), some (.int x2), none, none, none] [.int s2, .int s1, .ref s0] h rf hf := by
  unfold fX12_laysForced_85 at hs
  obtain ⟨h27, eh27, hs⟩ := bindS hs
  refine go_wIi eh27 dX12_laysForced_85 ?_
  refine go_iinc (L' := [some (.ref x0), some (.int x1), some (.int (x2 + Int32.ofInt 1)), none, none, none]) rfl (by decide) rfl rfl dX12_laysForced_86 ?_
  refine go_goto (tgt := 7) (by decide) dX12_laysForced_89 ?_
  obtain rfl := Option.some.inj hs
  exact go_subL (L' := [some (.ref x0), some (.int x1), some (.int (x2 + Int32.ofInt 1)), none, none, none]) (by simp [subL, va_rf]) hk
noncomputable def fX12_laysForced_65 (h : Hp) (x0 : Nat) (x1 : Int32) (x2 : Int32) (x3 : Int32) : Option ((Int32 × Hp) ⊕ (Int32 × Hp)) :=
  (gN h 12 x0 31).bind fun v25 =>
  (fX12_gapIn h x3 x1).bind fun y26 =>
  if y26 = 0 then (
    fX12_laysForced_85 h x0 x1 x2 v25 x3 (0 : Int32)) else (
    fX12_laysForced_85 h x0 x1 x2 v25 x3 (268435456 : Int32))
theorem oX12_laysForced_65 {d : Nat} (hd : 5 ≤ d) {h : Hp} {x0 : Nat} {x1 : Int32} {x2 : Int32} {x3 : Int32} {rf : Option Value} {hf : Hp} {x : ((Int32 × Hp) ⊕ (Int32 × Hp))} (hs : fX12_laysForced_65 h x0 x1 x2 x3 = some x) (hk : (Kx (pX12_laysForced_7 d x0 x1 rf hf) (kX12_laysForced rf hf)) x) : Go d mX12_laysForced 65 [some (.ref x0), some (.int x1), some (.int x2), some (.int x3), none, none] [] h rf hf := by
  unfold fX12_laysForced_65 at hs
  refine go_aload_n (k4 := 0) rfl (Or.inr ⟨_, rfl⟩) dX12_laysForced_65 ?_
  obtain ⟨v25, ev25, hs⟩ := bindS hs
  refine go_gN fl_RX12_61 ev25 dX12_laysForced_66 ?_
  refine go_iload_n (k4 := 3) rfl dX12_laysForced_69 ?_
  refine go_iload_n (k4 := 3) rfl dX12_laysForced_70 ?_
  refine go_iload_n (k4 := 1) rfl dX12_laysForced_71 ?_
  obtain ⟨y26, ey26, hs⟩ := bindS hs
  refine go_S1 (As := [.int x3, .int x1]) (st := [.int x3, .ref v25]) (oX12_gapIn (d := d - 1) (by omega) ey26) (by omega) mb_X12_gapIn lm_RX12_217 ms_X12_gapIn (Nat.le_of_ble_eq_true rfl) rfl dX12_laysForced_72 ?_
  refine go_if_ne (tgt := 82) (by decide) dX12_laysForced_75 (fun c => ?_) (fun c => ?_)
  · have hs := if_f c hs
    refine go_ldcw lc_RX12_390 dX12_laysForced_82 ?_
    exact go_subL (L' := [some (.ref x0), some (.int x1), some (.int x2), none, none, none]) (by simp [subL, va_rf]) (oX12_laysForced_85 hd hs hk)
  · have hs := if_t c hs
    refine go_iconst (v := 0) (by decide) dX12_laysForced_78 ?_
    refine go_goto (tgt := 85) (by decide) dX12_laysForced_79 ?_
    exact go_subL (L' := [some (.ref x0), some (.int x1), some (.int x2), none, none, none]) (by simp [subL, va_rf]) (oX12_laysForced_85 hd hs hk)
noncomputable def fX12_laysForced_25b (h : Hp) (x0 : Nat) (x1 : Int32) (x2 : Int32) (x3 : Int32) (x4 : Int32) : Option ((Int32 × Hp) ⊕ ((Int32 × Hp) ⊕ (Int32 × Hp))) :=
  (gI h 12 x0 21).bind fun v24 =>
  if v24 ≤ x4 then (
  (fX12_laysForced_65 h x0 x1 x2 x3).map (fun q => .inr q)) else (
    (gN h 12 x0 37).bind fun v28 =>
    (gN h 12 x0 20).bind fun v29 =>
    (aI 0 h v29 x4).bind fun v30 =>
    gO h 12 x0 (
    (fX12_yearBy h x0 x3 v30 (1 : Int32)).bind fun y31 =>
    (wI 0 h v28 (((35 : Int32) * x3) + x4) y31).bind fun h33 =>
    some (.inl ((x4 + Int32.ofInt 1), h33))))
noncomputable def fX12_laysForced_25 (h : Hp) (x0 : Nat) (x1 : Int32) (x2 : Int32) (x3 : Int32) (x4 : Int32) : Option ((Int32 × Hp) ⊕ (Int32 × Hp)) := lpw (σ := (Int32 × Hp)) (fun s => fX12_laysForced_25b s.2 x0 x1 x2 x3 s.1) (x4, h)
theorem oX12_laysForced_25b {d : Nat} (hd : 5 ≤ d) {h : Hp} {x0 : Nat} {x1 : Int32} {x2 : Int32} {x3 : Int32} {x4 : Int32} {rf : Option Value} {hf : Hp} {x : ((Int32 × Hp) ⊕ ((Int32 × Hp) ⊕ (Int32 × Hp)))} (hs : fX12_laysForced_25b h x0 x1 x2 x3 x4 = some x) (hk : (Kx (pX12_laysForced_25 d x0 x1 x2 x3 rf hf) (Kx (pX12_laysForced_7 d x0 x1 rf hf) (kX12_laysForced rf hf))) x) : Go d mX12_laysForced 25 [some (.ref x0), some (.int x1), some (.int x2), some (.int x3), some (.int x4), none] [] h rf hf := by
  unfold fX12_laysForced_25b at hs
  refine go_iload rfl dX12_laysForced_25 ?_
  refine go_aload_n (k4 := 0) rfl (Or.inr ⟨_, rfl⟩) dX12_laysForced_27 ?_
  obtain ⟨v24, ev24, hs⟩ := bindS hs
  refine go_gI fl_RX12_285 ev24 dX12_laysForced_28 ?_
  refine go_icmp_ge (tgt := 65) (by decide) dX12_laysForced_31 (fun c => ?_) (fun c => ?_)
  · have hs := if_t c hs
    obtain ⟨q, hs2, hq⟩ := mapS hs
    clear hs
    subst hq
    exact go_subL (L' := [some (.ref x0), some (.int x1), some (.int x2), some (.int x3), none, none]) (by simp [subL, va_rf]) (oX12_laysForced_65 hd hs2 hk)
  · have hs := if_f c hs
    refine go_aload_n (k4 := 0) rfl (Or.inr ⟨_, rfl⟩) dX12_laysForced_34 ?_
    obtain ⟨v28, ev28, hs⟩ := bindS hs
    refine go_gN fl_RX12_77 ev28 dX12_laysForced_35 ?_
    refine go_bipush (v := 35) (by decide) dX12_laysForced_38 ?_
    refine go_iload_n (k4 := 3) rfl dX12_laysForced_40 ?_
    refine go_imul dX12_laysForced_41 ?_
    refine go_iload rfl dX12_laysForced_42 ?_
    refine go_iadd dX12_laysForced_44 ?_
    refine go_at 45 rfl ?_
    refine go_aload_n (k4 := 0) rfl (Or.inr ⟨_, rfl⟩) dX12_laysForced_45 ?_
    refine go_iload_n (k4 := 3) rfl dX12_laysForced_46 ?_
    refine go_aload_n (k4 := 0) rfl (Or.inr ⟨_, rfl⟩) dX12_laysForced_47 ?_
    obtain ⟨v29, ev29, hs⟩ := bindS hs
    refine go_gN fl_RX12_42 ev29 dX12_laysForced_48 ?_
    refine go_iload rfl dX12_laysForced_51 ?_
    obtain ⟨v30, ev30, hs⟩ := bindS hs
    refine go_aIi ev30 dX12_laysForced_53 ?_
    refine go_iconst (v := 1) (by decide) dX12_laysForced_54 ?_
    obtain ⟨g32, hs⟩ := gO_at hs
    obtain ⟨y31, ey31, hs⟩ := bindS hs
    refine go_V1 (As := [.int x3, .int v30, .int (1 : Int32)]) (st := [.int (((35 : Int32) * x3) + x4), .ref v28]) g32 rfl rfl (oX12_yearBy (d := d - 1) (by omega) ey31) (by omega) mb_X12_yearBy lm_RX12_359 mi_X12_yearBy (Nat.le_of_ble_eq_true rfl) rfl dX12_laysForced_55 ?_
    refine go_at 58 rfl ?_
    obtain ⟨h33, eh33, hs⟩ := bindS hs
    refine go_wIi eh33 dX12_laysForced_58 ?_
    refine go_iinc (L' := [some (.ref x0), some (.int x1), some (.int x2), some (.int x3), some (.int (x4 + Int32.ofInt 1)), none]) rfl (by decide) rfl rfl dX12_laysForced_59 ?_
    refine go_goto (tgt := 25) (by decide) dX12_laysForced_62 ?_
    obtain rfl := Option.some.inj hs
    exact go_subL (L' := [some (.ref x0), some (.int x1), some (.int x2), some (.int x3), some (.int (x4 + Int32.ofInt 1)), none]) (by simp [subL, va_rf]) hk
theorem oX12_laysForced_25 {d : Nat} (hd : 5 ≤ d) {h : Hp} {x0 : Nat} {x1 : Int32} {x2 : Int32} {x3 : Int32} {x4 : Int32} {rf : Option Value} {hf : Hp} {x : ((Int32 × Hp) ⊕ (Int32 × Hp))} (hs : fX12_laysForced_25 h x0 x1 x2 x3 x4 = some x) (hk : (Kx (pX12_laysForced_7 d x0 x1 rf hf) (kX12_laysForced rf hf)) x) : Go d mX12_laysForced 25 [some (.ref x0), some (.int x1), some (.int x2), some (.int x3), some (.int x4), none] [] h rf hf := by
  unfold fX12_laysForced_25 at hs
  exact lpw_go (P := pX12_laysForced_25 d x0 x1 x2 x3 rf hf) (fun s x hs hk => oX12_laysForced_25b hd hs hk) (x4, h) x hs hk
noncomputable def fX12_laysForced_7b (h : Hp) (x0 : Nat) (x1 : Int32) (x2 : Int32) : Option ((Int32 × Hp) ⊕ (Int32 × Hp)) :=
  (gI h 12 x0 33).bind fun v3 =>
  if v3 ≤ x2 then (
  (fX12_laysForced_92 h x0).map (fun q => .inr q)) else (
    (gN h 12 x0 29).bind fun v22 =>
    (aI 0 h v22 x2).bind fun v23 =>
    fX12_laysForced_25 h x0 x1 x2 v23 (0 : Int32))
noncomputable def fX12_laysForced_7 (h : Hp) (x0 : Nat) (x1 : Int32) (x2 : Int32) : Option (Int32 × Hp) := lpw (σ := (Int32 × Hp)) (fun s => fX12_laysForced_7b s.2 x0 x1 s.1) (x2, h)
theorem oX12_laysForced_7b {d : Nat} (hd : 5 ≤ d) {h : Hp} {x0 : Nat} {x1 : Int32} {x2 : Int32} {rf : Option Value} {hf : Hp} {x : ((Int32 × Hp) ⊕ (Int32 × Hp))} (hs : fX12_laysForced_7b h x0 x1 x2 = some x) (hk : (Kx (pX12_laysForced_7 d x0 x1 rf hf) (kX12_laysForced rf hf)) x) : Go d mX12_laysForced 7 [some (.ref x0), some (.int x1), some (.int x2), none, none, none] [] h rf hf := by
  unfold fX12_laysForced_7b at hs
  refine go_iload_n (k4 := 2) rfl dX12_laysForced_7 ?_
  refine go_aload_n (k4 := 0) rfl (Or.inr ⟨_, rfl⟩) dX12_laysForced_8 ?_
  obtain ⟨v3, ev3, hs⟩ := bindS hs
  refine go_gI fl_RX12_384 ev3 dX12_laysForced_9 ?_
  refine go_icmp_ge (tgt := 92) (by decide) dX12_laysForced_12 (fun c => ?_) (fun c => ?_)
  · have hs := if_t c hs
    obtain ⟨q, hs2, hq⟩ := mapS hs
    clear hs
    subst hq
    exact go_subL (L' := [some (.ref x0), none, none, none, none, none]) (by simp [subL, va_rf]) (oX12_laysForced_92 hd hs2 hk)
  · have hs := if_f c hs
    refine go_aload_n (k4 := 0) rfl (Or.inr ⟨_, rfl⟩) dX12_laysForced_15 ?_
    obtain ⟨v22, ev22, hs⟩ := bindS hs
    refine go_gN fl_RX12_54 ev22 dX12_laysForced_16 ?_
    refine go_iload_n (k4 := 2) rfl dX12_laysForced_19 ?_
    obtain ⟨v23, ev23, hs⟩ := bindS hs
    refine go_aIi ev23 dX12_laysForced_20 ?_
    refine go_istore_n (k4 := 3) (L' := [some (.ref x0), some (.int x1), some (.int x2), some (.int v23), none, none]) (by decide) rfl dX12_laysForced_21 ?_
    refine go_iconst (v := 0) (by decide) dX12_laysForced_22 ?_
    refine go_istore (L' := [some (.ref x0), some (.int x1), some (.int x2), some (.int v23), some (.int (0 : Int32)), none]) (by decide) rfl dX12_laysForced_23 ?_
    exact go_subL (L' := [some (.ref x0), some (.int x1), some (.int x2), some (.int v23), some (.int (0 : Int32)), none]) (by simp [subL, va_rf]) (oX12_laysForced_25 hd hs hk)
theorem oX12_laysForced_7 {d : Nat} (hd : 5 ≤ d) {h : Hp} {x0 : Nat} {x1 : Int32} {x2 : Int32} {rf : Option Value} {hf : Hp} {x : (Int32 × Hp)} (hs : fX12_laysForced_7 h x0 x1 x2 = some x) (hk : (kX12_laysForced rf hf) x) : Go d mX12_laysForced 7 [some (.ref x0), some (.int x1), some (.int x2), none, none, none] [] h rf hf := by
  unfold fX12_laysForced_7 at hs
  exact lpw_go (P := pX12_laysForced_7 d x0 x1 rf hf) (fun s x hs hk => oX12_laysForced_7b hd hs hk) (x2, h) x hs hk
noncomputable def fX12_laysForced (h : Hp) (x0 : Nat) (x1 : Int32) : Option (Int32 × Hp) :=
  gO h 12 x0 (
  (fX12_laysStands h x0 (1 : Int32)).bind fun y1 =>
  fX12_laysForced_7 y1 x0 x1 (0 : Int32))
theorem oX12_laysForced_0 {d : Nat} (hd : 5 ≤ d) {h : Hp} {x0 : Nat} {x1 : Int32} {rf : Option Value} {hf : Hp} {x : (Int32 × Hp)} (hs : fX12_laysForced h x0 x1 = some x) (hk : (kX12_laysForced rf hf) x) : Go d mX12_laysForced 0 [some (.ref x0), some (.int x1), none, none, none, none] [] h rf hf := by
  unfold fX12_laysForced at hs
  refine go_aload_n (k4 := 0) rfl (Or.inr ⟨_, rfl⟩) dX12_laysForced_0 ?_
  refine go_iconst (v := 1) (by decide) dX12_laysForced_1 ?_
  obtain ⟨g2, hs⟩ := gO_at hs
  obtain ⟨y1, ey1, hs⟩ := bindS hs
  refine go_V0 (As := [.int (1 : Int32)]) (st := []) g2 rfl rfl (oX12_laysStands (d := d - 1) (by omega) ey1) (by omega) mb_X12_laysStands lm_RX12_394 mi_X12_laysStands (Nat.le_of_ble_eq_true rfl) rfl dX12_laysForced_2 ?_
  refine go_iconst (v := 0) (by decide) dX12_laysForced_5 ?_
  refine go_istore_n (k4 := 2) (L' := [some (.ref x0), some (.int x1), some (.int (0 : Int32)), none, none, none]) (by decide) rfl dX12_laysForced_6 ?_
  exact go_subL (L' := [some (.ref x0), some (.int x1), some (.int (0 : Int32)), none, none, none]) (by simp [subL, va_rf]) (oX12_laysForced_7 hd hs hk)
theorem oX12_laysForced {d : Nat} (hd : 5 ≤ d) {h : Hp} {x0 : Nat} {x1 : Int32} {y : (Int32 × Hp)} (hs : fX12_laysForced h x0 x1 = some y) : Call d mX12_laysForced [.ref x0, .int x1] h (some (.int y.1)) (y.2) := call_of (by decide +kernel) (Nat.le_of_ble_eq_true rfl) (show Go d mX12_laysForced 0 [some (.ref x0), some (.int x1), none, none, none, none] [] h _ _ from go_subL (by simp [subL]) (oX12_laysForced_0 hd hs ⟨rfl, rfl⟩))
abbrev kX12_forces (rf : Option Value) (hf : Hp) : (Int32 × Hp) → Prop := fun y => rf = some (.int y.1) ∧ hf = y.2
noncomputable def fX12_forces_27 (h : Hp) (s0 : Int32) : Option (Int32 × Hp) :=
  some ((s0, h))
theorem oX12_forces_27 {d : Nat} (hd : 6 ≤ d) {h : Hp} {s0 : Int32} {rf : Option Value} {hf : Hp} {x : (Int32 × Hp)} (hs : fX12_forces_27 h s0 = some x) (hk : (kX12_forces rf hf) x) : Go d mX12_forces 27 [none, none] [.int s0] h rf hf := by
  unfold fX12_forces_27 at hs
  obtain rfl := Option.some.inj hs
  obtain ⟨rfl, rfl⟩ := hk
  exact go_iret rfl dX12_forces_27
noncomputable def fX12_forces (h : Hp) (x0 : Nat) (x1 : Int32) : Option (Int32 × Hp) :=
  (sV h 12 x0 0 (.int (0 : Int32))).bind fun h1 =>
  gO h1 12 x0 (
  (fX12_isPair h1 x0 (x1.toInt64)).bind fun y2 =>
  if y2 = 0 then (
    fX12_forces_27 h1 (-2 : Int32)) else (
    gO h1 12 x0 (
    (fX12_laysForced h1 x0 x1).bind fun y4 =>
    (fX12_toldFar y4.2 y4.1).bind fun y6 =>
    fX12_forces_27 y4.2 y6)))
theorem oX12_forces_0 {d : Nat} (hd : 6 ≤ d) {h : Hp} {x0 : Nat} {x1 : Int32} {rf : Option Value} {hf : Hp} {x : (Int32 × Hp)} (hs : fX12_forces h x0 x1 = some x) (hk : (kX12_forces rf hf) x) : Go d mX12_forces 0 [some (.ref x0), some (.int x1)] [] h rf hf := by
  unfold fX12_forces at hs
  refine go_aload_n (k4 := 0) rfl (Or.inr ⟨_, rfl⟩) dX12_forces_0 ?_
  refine go_iconst (v := 0) (by decide) dX12_forces_1 ?_
  obtain ⟨h1, eh1, hs⟩ := bindS hs
  refine go_sV fw_RX12_1 eh1 rfl rfl dX12_forces_2 ?_
  refine go_aload_n (k4 := 0) rfl (Or.inr ⟨_, rfl⟩) dX12_forces_5 ?_
  refine go_iload_n (k4 := 1) rfl dX12_forces_6 ?_
  refine go_i2l dX12_forces_7 ?_
  obtain ⟨g3, hs⟩ := gO_at hs
  obtain ⟨y2, ey2, hs⟩ := bindS hs
  refine go_V1 (As := [.long (x1.toInt64)]) (st := []) g3 rfl rfl (oX12_isPair (d := d - 1) (by omega) ey2) (by omega) mb_X12_isPair lm_RX12_271 mi_X12_isPair (Nat.le_of_ble_eq_true rfl) rfl dX12_forces_8 ?_
  refine go_at 11 rfl ?_
  refine go_if_eq (tgt := 25) (by decide) dX12_forces_11 (fun c => ?_) (fun c => ?_)
  · have hs := if_t c hs
    refine go_bipush (v := -2) (by decide) dX12_forces_25 ?_
    exact go_subL (L' := [none, none]) (by simp [subL, va_rf]) (oX12_forces_27 hd hs hk)
  · have hs := if_f c hs
    refine go_aload_n (k4 := 0) rfl (Or.inr ⟨_, rfl⟩) dX12_forces_14 ?_
    refine go_iload_n (k4 := 1) rfl dX12_forces_15 ?_
    obtain ⟨g5, hs⟩ := gO_at hs
    obtain ⟨y4, ey4, hs⟩ := bindS hs
    refine go_V1 (As := [.int x1]) (st := []) g5 rfl rfl (oX12_laysForced (d := d - 1) (by omega) ey4) (by omega) mb_X12_laysForced lm_RX12_445 mi_X12_laysForced (Nat.le_of_ble_eq_true rfl) rfl dX12_forces_16 ?_
    obtain ⟨y6, ey6, hs⟩ := bindS hs
    refine go_S1 (As := [.int y4.1]) (st := []) (oX12_toldFar (d := d - 1) (by omega) ey6) (by omega) mb_X12_toldFar lm_RX12_407 ms_X12_toldFar (Nat.le_of_ble_eq_true rfl) rfl dX12_forces_19 ?_
    refine go_goto (tgt := 27) (by decide) dX12_forces_22 ?_
    exact go_subL (L' := [none, none]) (by simp [subL, va_rf]) (oX12_forces_27 hd hs hk)
theorem oX12_forces {d : Nat} (hd : 6 ≤ d) {h : Hp} {x0 : Nat} {x1 : Int32} {y : (Int32 × Hp)} (hs : fX12_forces h x0 x1 = some y) : Call d mX12_forces [.ref x0, .int x1] h (some (.int y.1)) (y.2) := call_of (by decide +kernel) (Nat.le_of_ble_eq_true rfl) (show Go d mX12_forces 0 [some (.ref x0), some (.int x1)] [] h _ _ from go_subL (by simp [subL]) (oX12_forces_0 hd hs ⟨rfl, rfl⟩))
abbrev kX12_best (rf : Option Value) (hf : Hp) : (Int32 × Hp) → Prop := fun y => rf = some (.int y.1) ∧ hf = y.2
abbrev pX12_best_25 (d : Nat) (h : Hp) (x0 : Nat) (x2 : Int32) (rf : Option Value) (hf : Hp) : Int32 → Prop := fun s => Go d mX12_best 25 [some (.ref x0), none, some (.int x2), some (.int s)] [] h rf hf
noncomputable def fX12_best_70 (h : Hp)  : Option (Int32 × Hp) :=
  some (((-1 : Int32), h))
theorem oX12_best_70 {d : Nat} (hd : 6 ≤ d) {h : Hp} {rf : Option Value} {hf : Hp} {x : (Int32 × Hp)} (hs : fX12_best_70 h  = some x) (hk : (kX12_best rf hf) x) : Go d mX12_best 70 [none, none, none, none] [] h rf hf := by
  unfold fX12_best_70 at hs
  refine go_iconst (v := -1) (by decide) dX12_best_70 ?_
  obtain rfl := Option.some.inj hs
  obtain ⟨rfl, rfl⟩ := hk
  exact go_iret rfl dX12_best_71
noncomputable def fX12_best_25b (h : Hp) (x0 : Nat) (x2 : Int32) (x3 : Int32) : Option (Int32 ⊕ (Int32 × Hp)) :=
  (gI h 12 x0 21).bind fun v6 =>
  if v6 ≤ x3 then (
  (fX12_best_70 h ).map (fun q => .inr q)) else (
    if x2 ≤ 0 then (
    (fX12_best_70 h ).map (fun q => .inr q)) else (
      if (268435456 : Int32) ≤ x2 then (
      (fX12_best_70 h ).map (fun q => .inr q)) else (
        gO h 12 x0 (
        (fX12_standNow h x0).bind fun y7 =>
        gO h 12 x0 (
        (fX12_forcedBy h x0 y7 x3).bind fun y9 =>
        if y9 = x2 then (
          (gN h 12 x0 20).bind fun v11 =>
          (aI 0 h v11 x3).bind fun v12 =>
          some (.inr (v12, h))) else (
          some (.inl (x3 + Int32.ofInt 1))))))))
noncomputable def fX12_best_25 (h : Hp) (x0 : Nat) (x2 : Int32) (x3 : Int32) : Option (Int32 × Hp) := lpw (σ := Int32) (fun s => fX12_best_25b h x0 x2 s) x3
theorem oX12_best_25b {d : Nat} (hd : 6 ≤ d) {h : Hp} {x0 : Nat} {x2 : Int32} {x3 : Int32} {rf : Option Value} {hf : Hp} {x : (Int32 ⊕ (Int32 × Hp))} (hs : fX12_best_25b h x0 x2 x3 = some x) (hk : (Kx (pX12_best_25 d h x0 x2 rf hf) (kX12_best rf hf)) x) : Go d mX12_best 25 [some (.ref x0), none, some (.int x2), some (.int x3)] [] h rf hf := by
  unfold fX12_best_25b at hs
  refine go_iload_n (k4 := 3) rfl dX12_best_25 ?_
  refine go_aload_n (k4 := 0) rfl (Or.inr ⟨_, rfl⟩) dX12_best_26 ?_
  obtain ⟨v6, ev6, hs⟩ := bindS hs
  refine go_gI fl_RX12_285 ev6 dX12_best_27 ?_
  refine go_icmp_ge (tgt := 70) (by decide) dX12_best_30 (fun c => ?_) (fun c => ?_)
  · have hs := if_t c hs
    obtain ⟨q, hs2, hq⟩ := mapS hs
    clear hs
    subst hq
    exact go_subL (L' := [none, none, none, none]) (by simp [subL, va_rf]) (oX12_best_70 hd hs2 hk)
  · have hs := if_f c hs
    refine go_iload_n (k4 := 2) rfl dX12_best_33 ?_
    refine go_if_le (tgt := 70) (by decide) dX12_best_34 (fun c => ?_) (fun c => ?_)
    · have hs := if_t c hs
      obtain ⟨q, hs2, hq⟩ := mapS hs
      clear hs
      subst hq
      exact go_subL (L' := [none, none, none, none]) (by simp [subL, va_rf]) (oX12_best_70 hd hs2 hk)
    · have hs := if_f c hs
      refine go_iload_n (k4 := 2) rfl dX12_best_37 ?_
      refine go_ldcw lc_RX12_390 dX12_best_38 ?_
      refine go_icmp_ge (tgt := 70) (by decide) dX12_best_41 (fun c => ?_) (fun c => ?_)
      · have hs := if_t c hs
        obtain ⟨q, hs2, hq⟩ := mapS hs
        clear hs
        subst hq
        exact go_subL (L' := [none, none, none, none]) (by simp [subL, va_rf]) (oX12_best_70 hd hs2 hk)
      · have hs := if_f c hs
        refine go_aload_n (k4 := 0) rfl (Or.inr ⟨_, rfl⟩) dX12_best_44 ?_
        refine go_aload_n (k4 := 0) rfl (Or.inr ⟨_, rfl⟩) dX12_best_45 ?_
        obtain ⟨g8, hs⟩ := gO_at hs
        obtain ⟨y7, ey7, hs⟩ := bindS hs
        refine go_V1 (As := []) (st := [.ref x0]) g8 rfl rfl (oX12_standNow (d := d - 1) (by omega) ey7) (by omega) mb_X12_standNow lm_RX12_282 mi_X12_standNow (Nat.le_of_ble_eq_true rfl) rfl dX12_best_46 ?_
        refine go_iload_n (k4 := 3) rfl dX12_best_49 ?_
        obtain ⟨g10, hs⟩ := gO_at hs
        obtain ⟨y9, ey9, hs⟩ := bindS hs
        refine go_V1 (As := [.int y7, .int x3]) (st := []) g10 rfl rfl (oX12_forcedBy (d := d - 1) (by omega) ey9) (by omega) mb_X12_forcedBy lm_RX12_442 mi_X12_forcedBy (Nat.le_of_ble_eq_true rfl) rfl dX12_best_50 ?_
        refine go_iload_n (k4 := 2) rfl dX12_best_53 ?_
        refine go_icmp_ne (tgt := 64) (by decide) dX12_best_54 (fun c => ?_) (fun c => ?_)
        · have hs := if_f c hs
          refine go_iinc (L' := [some (.ref x0), none, some (.int x2), some (.int (x3 + Int32.ofInt 1))]) rfl (by decide) rfl rfl dX12_best_64 ?_
          refine go_goto (tgt := 25) (by decide) dX12_best_67 ?_
          obtain rfl := Option.some.inj hs
          exact go_subL (L' := [some (.ref x0), none, some (.int x2), some (.int (x3 + Int32.ofInt 1))]) (by simp [subL, va_rf]) hk
        · have hs := if_t c hs
          refine go_aload_n (k4 := 0) rfl (Or.inr ⟨_, rfl⟩) dX12_best_57 ?_
          obtain ⟨v11, ev11, hs⟩ := bindS hs
          refine go_gN fl_RX12_42 ev11 dX12_best_58 ?_
          refine go_iload_n (k4 := 3) rfl dX12_best_61 ?_
          obtain ⟨v12, ev12, hs⟩ := bindS hs
          refine go_aIi ev12 dX12_best_62 ?_
          obtain rfl := Option.some.inj hs
          obtain ⟨rfl, rfl⟩ := hk
          exact go_iret rfl dX12_best_63
theorem oX12_best_25 {d : Nat} (hd : 6 ≤ d) {h : Hp} {x0 : Nat} {x2 : Int32} {x3 : Int32} {rf : Option Value} {hf : Hp} {x : (Int32 × Hp)} (hs : fX12_best_25 h x0 x2 x3 = some x) (hk : (kX12_best rf hf) x) : Go d mX12_best 25 [some (.ref x0), none, some (.int x2), some (.int x3)] [] h rf hf := by
  unfold fX12_best_25 at hs
  exact lpw_go (P := pX12_best_25 d h x0 x2 rf hf) (fun s x hs hk => oX12_best_25b hd hs hk) x3 x hs hk
noncomputable def fX12_best (h : Hp) (x0 : Nat) (x1 : Int32) : Option (Int32 × Hp) :=
  (sV h 12 x0 0 (.int (0 : Int32))).bind fun h1 =>
  gO h1 12 x0 (
  (fX12_isPair h1 x0 (x1.toInt64)).bind fun y2 =>
  if y2 = 0 then (
    some (((-2 : Int32), h1))) else (
    gO h1 12 x0 (
    (fX12_laysForced h1 x0 x1).bind fun y4 =>
    fX12_best_25 y4.2 x0 y4.1 (0 : Int32))))
theorem oX12_best_0 {d : Nat} (hd : 6 ≤ d) {h : Hp} {x0 : Nat} {x1 : Int32} {rf : Option Value} {hf : Hp} {x : (Int32 × Hp)} (hs : fX12_best h x0 x1 = some x) (hk : (kX12_best rf hf) x) : Go d mX12_best 0 [some (.ref x0), some (.int x1), none, none] [] h rf hf := by
  unfold fX12_best at hs
  refine go_aload_n (k4 := 0) rfl (Or.inr ⟨_, rfl⟩) dX12_best_0 ?_
  refine go_iconst (v := 0) (by decide) dX12_best_1 ?_
  obtain ⟨h1, eh1, hs⟩ := bindS hs
  refine go_sV fw_RX12_1 eh1 rfl rfl dX12_best_2 ?_
  refine go_aload_n (k4 := 0) rfl (Or.inr ⟨_, rfl⟩) dX12_best_5 ?_
  refine go_iload_n (k4 := 1) rfl dX12_best_6 ?_
  refine go_i2l dX12_best_7 ?_
  obtain ⟨g3, hs⟩ := gO_at hs
  obtain ⟨y2, ey2, hs⟩ := bindS hs
  refine go_V1 (As := [.long (x1.toInt64)]) (st := []) g3 rfl rfl (oX12_isPair (d := d - 1) (by omega) ey2) (by omega) mb_X12_isPair lm_RX12_271 mi_X12_isPair (Nat.le_of_ble_eq_true rfl) rfl dX12_best_8 ?_
  refine go_at 11 rfl ?_
  refine go_if_ne (tgt := 17) (by decide) dX12_best_11 (fun c => ?_) (fun c => ?_)
  · have hs := if_f c hs
    refine go_aload_n (k4 := 0) rfl (Or.inr ⟨_, rfl⟩) dX12_best_17 ?_
    refine go_iload_n (k4 := 1) rfl dX12_best_18 ?_
    obtain ⟨g5, hs⟩ := gO_at hs
    obtain ⟨y4, ey4, hs⟩ := bindS hs
    refine go_V1 (As := [.int x1]) (st := []) g5 rfl rfl (oX12_laysForced (d := d - 1) (by omega) ey4) (by omega) mb_X12_laysForced lm_RX12_445 mi_X12_laysForced (Nat.le_of_ble_eq_true rfl) rfl dX12_best_19 ?_
    refine go_istore_n (k4 := 2) (L' := [some (.ref x0), some (.int x1), some (.int y4.1), none]) (by decide) rfl dX12_best_22 ?_
    refine go_iconst (v := 0) (by decide) dX12_best_23 ?_
    refine go_istore_n (k4 := 3) (L' := [some (.ref x0), some (.int x1), some (.int y4.1), some (.int (0 : Int32))]) (by decide) rfl dX12_best_24 ?_
    exact go_subL (L' := [some (.ref x0), none, some (.int y4.1), some (.int (0 : Int32))]) (by simp [subL, va_rf]) (oX12_best_25 hd hs hk)
  · have hs := if_t c hs
    refine go_bipush (v := -2) (by decide) dX12_best_14 ?_
    obtain rfl := Option.some.inj hs
    obtain ⟨rfl, rfl⟩ := hk
    exact go_iret rfl dX12_best_16
theorem oX12_best {d : Nat} (hd : 6 ≤ d) {h : Hp} {x0 : Nat} {x1 : Int32} {y : (Int32 × Hp)} (hs : fX12_best h x0 x1 = some y) : Call d mX12_best [.ref x0, .int x1] h (some (.int y.1)) (y.2) := call_of (by decide +kernel) (Nat.le_of_ble_eq_true rfl) (show Go d mX12_best 0 [some (.ref x0), some (.int x1), none, none] [] h _ _ from go_subL (by simp [subL]) (oX12_best_0 hd hs ⟨rfl, rfl⟩))
