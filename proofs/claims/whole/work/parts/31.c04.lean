/-! methods: their texts as functions, and that the machine does just that -/
abbrev kX3_tell (rf : Option Value) (hf : Hp) : (Int32 × Hp) → Prop := fun y => rf = some (.int y.1) ∧ hf = y.2
abbrev pX3_tell_5 (d : Nat) (x0 : Nat) (x1 : Nat) (x2 : Nat) (rf : Option Value) (hf : Hp) : (Int32 × Int32 × Hp) → Prop := fun s => Go d mX3_tell 5 [some (.ref x0), some (.ref x1), some (.ref x2), some (.int s.1), some (.int s.2.1), none, none] [] s.2.2 rf hf
noncomputable def fX3_tell_190 (h : Hp) (s0 : Int32) : Option (Int32 × Hp) :=
  some ((s0, h))
theorem oX3_tell_190 {d : Nat} (hd : 1 ≤ d) {h : Hp} {s0 : Int32} {rf : Option Value} {hf : Hp} {x : (Int32 × Hp)} (hs : fX3_tell_190 h s0 = some x) (hk : (kX3_tell rf hf) x) : Go d mX3_tell 190 [none, none, none, none, none, none, none] [.int s0] h rf hf := by
  unfold fX3_tell_190 at hs
  obtain rfl := Option.some.inj hs
  obtain ⟨rfl, rfl⟩ := hk
  exact go_iret rfl dX3_tell_190
noncomputable def fX3_tell_178 (h : Hp) (x2 : Nat) (x3 : Int32) : Option (Int32 × Hp) :=
  if x3 = (1 : Int32) then (
    (aI 0 h x2 (0 : Int32)).bind fun v3 =>
    fX3_tell_190 h v3) else (
    fX3_tell_190 h (0 : Int32))
theorem oX3_tell_178 {d : Nat} (hd : 1 ≤ d) {h : Hp} {x2 : Nat} {x3 : Int32} {rf : Option Value} {hf : Hp} {x : (Int32 × Hp)} (hs : fX3_tell_178 h x2 x3 = some x) (hk : (kX3_tell rf hf) x) : Go d mX3_tell 178 [none, none, some (.ref x2), some (.int x3), none, none, none] [] h rf hf := by
  unfold fX3_tell_178 at hs
  refine go_iload_n (k4 := 3) rfl dX3_tell_178 ?_
  refine go_iconst (v := 1) (by decide) dX3_tell_179 ?_
  refine go_icmp_ne (tgt := 189) (by decide) dX3_tell_180 (fun c => ?_) (fun c => ?_)
  · have hs := if_f c hs
    refine go_iconst (v := 0) (by decide) dX3_tell_189 ?_
    exact go_subL (L' := [none, none, none, none, none, none, none]) (by simp [subL, va_rf]) (oX3_tell_190 hd hs hk)
  · have hs := if_t c hs
    refine go_aload_n (k4 := 2) rfl (Or.inr ⟨_, rfl⟩) dX3_tell_183 ?_
    refine go_iconst (v := 0) (by decide) dX3_tell_184 ?_
    obtain ⟨v3, ev3, hs⟩ := bindS hs
    refine go_aIi ev3 dX3_tell_185 ?_
    refine go_goto (tgt := 190) (by decide) dX3_tell_186 ?_
    exact go_subL (L' := [none, none, none, none, none, none, none]) (by simp [subL, va_rf]) (oX3_tell_190 hd hs hk)
noncomputable def fX3_tell_53 (h : Hp)  : Option (Int32 × Hp) :=
  some (((0 : Int32), h))
theorem oX3_tell_53 {d : Nat} (hd : 1 ≤ d) {h : Hp} {rf : Option Value} {hf : Hp} {x : (Int32 × Hp)} (hs : fX3_tell_53 h  = some x) (hk : (kX3_tell rf hf) x) : Go d mX3_tell 53 [none, none, none, none, none, none, none] [] h rf hf := by
  unfold fX3_tell_53 at hs
  refine go_iconst (v := 0) (by decide) dX3_tell_53 ?_
  obtain rfl := Option.some.inj hs
  obtain ⟨rfl, rfl⟩ := hk
  exact go_iret rfl dX3_tell_54
noncomputable def fX3_tell_169 (h : Hp) (x0 : Nat) (x1 : Nat) (x2 : Nat) (x3 : Int32) (x4 : Int32) : Option ((Int32 × Int32 × Hp) ⊕ (Int32 × Hp)) :=
  some (.inl ((x3 + Int32.ofInt 1), (x4 + Int32.ofInt 1), h))
theorem oX3_tell_169 {d : Nat} (hd : 1 ≤ d) {h : Hp} {x0 : Nat} {x1 : Nat} {x2 : Nat} {x3 : Int32} {x4 : Int32} {rf : Option Value} {hf : Hp} {x : ((Int32 × Int32 × Hp) ⊕ (Int32 × Hp))} (hs : fX3_tell_169 h x0 x1 x2 x3 x4 = some x) (hk : (Kx (pX3_tell_5 d x0 x1 x2 rf hf) (kX3_tell rf hf)) x) : Go d mX3_tell 169 [some (.ref x0), some (.ref x1), some (.ref x2), some (.int x3), some (.int x4), none, none] [] h rf hf := by
  unfold fX3_tell_169 at hs
  refine go_iinc (L' := [some (.ref x0), some (.ref x1), some (.ref x2), some (.int (x3 + Int32.ofInt 1)), some (.int x4), none, none]) rfl (by decide) rfl rfl dX3_tell_169 ?_
  refine go_iinc (L' := [some (.ref x0), some (.ref x1), some (.ref x2), some (.int (x3 + Int32.ofInt 1)), some (.int (x4 + Int32.ofInt 1)), none, none]) rfl (by decide) rfl rfl dX3_tell_172 ?_
  refine go_goto (tgt := 5) (by decide) dX3_tell_175 ?_
  obtain rfl := Option.some.inj hs
  exact go_subL (L' := [some (.ref x0), some (.ref x1), some (.ref x2), some (.int (x3 + Int32.ofInt 1)), some (.int (x4 + Int32.ofInt 1)), none, none]) (by simp [subL, va_rf]) hk
noncomputable def fX3_tell_147 (h : Hp) (x0 : Nat) (x1 : Nat) (x2 : Nat) (x3 : Int32) (x4 : Int32) (s0 : Nat) (s1 : Int32) (s2 : Int32) : Option ((Int32 × Int32 × Hp) ⊕ (Int32 × Hp)) :=
  (wI 0 h s0 s1 s2).bind fun h14 =>
  fX3_tell_169 h14 x0 x1 x2 x3 x4
theorem oX3_tell_147 {d : Nat} (hd : 1 ≤ d) {h : Hp} {x0 : Nat} {x1 : Nat} {x2 : Nat} {x3 : Int32} {x4 : Int32} {s0 : Nat} {s1 : Int32} {s2 : Int32} {rf : Option Value} {hf : Hp} {x : ((Int32 × Int32 × Hp) ⊕ (Int32 × Hp))} (hs : fX3_tell_147 h x0 x1 x2 x3 x4 s0 s1 s2 = some x) (hk : (Kx (pX3_tell_5 d x0 x1 x2 rf hf) (kX3_tell rf hf)) x) : Go d mX3_tell 147 [some (.ref x0), some (.ref x1), some (.ref x2), some (.int x3), some (.int x4), none, none] [.int s2, .int s1, .ref s0] h rf hf := by
  unfold fX3_tell_147 at hs
  obtain ⟨h14, eh14, hs⟩ := bindS hs
  refine go_wIi eh14 dX3_tell_147 ?_
  refine go_goto (tgt := 169) (by decide) dX3_tell_148 ?_
  exact go_subL (L' := [some (.ref x0), some (.ref x1), some (.ref x2), some (.int x3), some (.int x4), none, none]) (by simp [subL, va_rf]) (oX3_tell_169 hd hs hk)
noncomputable def fX3_tell_96 (h : Hp) (x0 : Nat) (x1 : Nat) (x2 : Nat) (x3 : Int32) (x4 : Int32) (s0 : Nat) (s1 : Int32) (s2 : Int32) : Option ((Int32 × Int32 × Hp) ⊕ (Int32 × Hp)) :=
  (wI 0 h s0 s1 s2).bind fun h20 =>
  fX3_tell_169 h20 x0 x1 x2 x3 x4
theorem oX3_tell_96 {d : Nat} (hd : 1 ≤ d) {h : Hp} {x0 : Nat} {x1 : Nat} {x2 : Nat} {x3 : Int32} {x4 : Int32} {s0 : Nat} {s1 : Int32} {s2 : Int32} {rf : Option Value} {hf : Hp} {x : ((Int32 × Int32 × Hp) ⊕ (Int32 × Hp))} (hs : fX3_tell_96 h x0 x1 x2 x3 x4 s0 s1 s2 = some x) (hk : (Kx (pX3_tell_5 d x0 x1 x2 rf hf) (kX3_tell rf hf)) x) : Go d mX3_tell 96 [some (.ref x0), some (.ref x1), some (.ref x2), some (.int x3), some (.int x4), none, none] [.int s2, .int s1, .ref s0] h rf hf := by
  unfold fX3_tell_96 at hs
  obtain ⟨h20, eh20, hs⟩ := bindS hs
  refine go_wIi eh20 dX3_tell_96 ?_
  refine go_goto (tgt := 169) (by decide) dX3_tell_97 ?_
  exact go_subL (L' := [some (.ref x0), some (.ref x1), some (.ref x2), some (.int x3), some (.int x4), none, none]) (by simp [subL, va_rf]) (oX3_tell_169 hd hs hk)
noncomputable def fX3_tell_5b (h : Hp) (x0 : Nat) (x1 : Nat) (x2 : Nat) (x3 : Int32) (x4 : Int32) : Option ((Int32 × Int32 × Hp) ⊕ (Int32 × Hp)) :=
  (gN h 3 x0 0).bind fun v1 =>
  (aL h v1).bind fun v2 =>
  if v2 ≤ x4 then (
  (fX3_tell_178 h x2 x3).map (fun q => .inr q)) else (
    (gN h 3 x0 0).bind fun v4 =>
    (aI 0 h v4 x4).bind fun v5 =>
    (fX3_takes h v5).bind fun y6 =>
    if (x3 - y6) < 0 then (
    (fX3_tell_53 h ).map (fun q => .inr q)) else (
      (aL h x2).bind fun v7 =>
      if ((x3 - y6) + (imax y6 (1 : Int32))) ≤ v7 then (
        if v5 < 0 then (
          if y6 = 0 then (
            (fX3_placeOf h v5).bind fun y18 =>
            (aL h x1).bind fun v19 =>
            if v19 ≤ y18 then (
              fX3_tell_96 h x0 x1 x2 (x3 - y6) x4 x2 (x3 - y6) (0 : Int32)) else (
              (fX3_placeOf h v5).bind fun y21 =>
              (aI 0 h x1 y21).bind fun v22 =>
              fX3_tell_96 h x0 x1 x2 (x3 - y6) x4 x2 (x3 - y6) v22)) else (
            if v5 = (-19 : Int32) then (
              (aI 0 h x2 (x3 - y6)).bind fun v16 =>
              (wI 0 h x2 (x3 - y6) ((1 : Int32) - v16)).bind fun h17 =>
              fX3_tell_169 h17 x0 x1 x2 (x3 - y6) x4) else (
              if v5 = (-20 : Int32) then (
                (aI 0 h x2 (x3 - y6)).bind fun v12 =>
                if v12 = (1 : Int32) then (
                  (aI 0 h x2 ((x3 - y6) + (1 : Int32))).bind fun v15 =>
                  fX3_tell_147 h x0 x1 x2 (x3 - y6) x4 x2 (x3 - y6) v15) else (
                  (aI 0 h x2 ((x3 - y6) + (2 : Int32))).bind fun v13 =>
                  fX3_tell_147 h x0 x1 x2 (x3 - y6) x4 x2 (x3 - y6) v13)) else (
                (aI 0 h x2 (x3 - y6)).bind fun v8 =>
                (aI 0 h x2 ((x3 - y6) + (1 : Int32))).bind fun v9 =>
                (fX3_join h v5 (v8.toInt64) (v9.toInt64)).bind fun y10 =>
                (wI 0 h x2 (x3 - y6) y10).bind fun h11 =>
                fX3_tell_169 h11 x0 x1 x2 (x3 - y6) x4)))) else (
          (wI 0 h x2 (x3 - y6) v5).bind fun h23 =>
          fX3_tell_169 h23 x0 x1 x2 (x3 - y6) x4)) else (
      (fX3_tell_53 h ).map (fun q => .inr q))))
noncomputable def fX3_tell_5 (h : Hp) (x0 : Nat) (x1 : Nat) (x2 : Nat) (x3 : Int32) (x4 : Int32) : Option (Int32 × Hp) := lpw (σ := (Int32 × Int32 × Hp)) (fun s => fX3_tell_5b s.2.2 x0 x1 x2 s.1 s.2.1) (x3, x4, h)
theorem oX3_tell_5b {d : Nat} (hd : 1 ≤ d) {h : Hp} {x0 : Nat} {x1 : Nat} {x2 : Nat} {x3 : Int32} {x4 : Int32} {rf : Option Value} {hf : Hp} {x : ((Int32 × Int32 × Hp) ⊕ (Int32 × Hp))} (hs : fX3_tell_5b h x0 x1 x2 x3 x4 = some x) (hk : (Kx (pX3_tell_5 d x0 x1 x2 rf hf) (kX3_tell rf hf)) x) : Go d mX3_tell 5 [some (.ref x0), some (.ref x1), some (.ref x2), some (.int x3), some (.int x4), none, none] [] h rf hf := by
  unfold fX3_tell_5b at hs
  refine go_iload rfl dX3_tell_5 ?_
  refine go_aload_n (k4 := 0) rfl (Or.inr ⟨_, rfl⟩) dX3_tell_7 ?_
  obtain ⟨v1, ev1, hs⟩ := bindS hs
  refine go_gN fl_RX3_13 ev1 dX3_tell_8 ?_
  obtain ⟨v2, ev2, hs⟩ := bindS hs
  refine go_aL ev2 dX3_tell_11 ?_
  refine go_icmp_ge (tgt := 178) (by decide) dX3_tell_12 (fun c => ?_) (fun c => ?_)
  · have hs := if_t c hs
    obtain ⟨q, hs2, hq⟩ := mapS hs
    clear hs
    subst hq
    exact go_subL (L' := [none, none, some (.ref x2), some (.int x3), none, none, none]) (by simp [subL, va_rf]) (oX3_tell_178 hd hs2 hk)
  · have hs := if_f c hs
    refine go_aload_n (k4 := 0) rfl (Or.inr ⟨_, rfl⟩) dX3_tell_15 ?_
    obtain ⟨v4, ev4, hs⟩ := bindS hs
    refine go_gN fl_RX3_13 ev4 dX3_tell_16 ?_
    refine go_iload rfl dX3_tell_19 ?_
    obtain ⟨v5, ev5, hs⟩ := bindS hs
    refine go_aIi ev5 dX3_tell_21 ?_
    refine go_istore (L' := [some (.ref x0), some (.ref x1), some (.ref x2), some (.int x3), some (.int x4), some (.int v5), none]) (by decide) rfl dX3_tell_22 ?_
    refine go_iload rfl dX3_tell_24 ?_
    obtain ⟨y6, ey6, hs⟩ := bindS hs
    refine go_S1 (As := [.int v5]) (st := []) (oX3_takes (d := d - 1) (by omega) ey6) (by omega) mb_X3_takes lm_RX3_19 ms_X3_takes (Nat.le_of_ble_eq_true rfl) rfl dX3_tell_26 ?_
    refine go_at 29 rfl ?_
    refine go_istore (L' := [some (.ref x0), some (.ref x1), some (.ref x2), some (.int x3), some (.int x4), some (.int v5), some (.int y6)]) (by decide) rfl dX3_tell_29 ?_
    refine go_iload_n (k4 := 3) rfl dX3_tell_31 ?_
    refine go_iload rfl dX3_tell_32 ?_
    refine go_isub dX3_tell_34 ?_
    refine go_istore_n (k4 := 3) (L' := [some (.ref x0), some (.ref x1), some (.ref x2), some (.int (x3 - y6)), some (.int x4), some (.int v5), some (.int y6)]) (by decide) rfl dX3_tell_35 ?_
    refine go_iload_n (k4 := 3) rfl dX3_tell_36 ?_
    refine go_if_lt (tgt := 53) (by decide) dX3_tell_37 (fun c => ?_) (fun c => ?_)
    · have hs := if_t c hs
      obtain ⟨q, hs2, hq⟩ := mapS hs
      clear hs
      subst hq
      exact go_subL (L' := [none, none, none, none, none, none, none]) (by simp [subL, va_rf]) (oX3_tell_53 hd hs2 hk)
    · have hs := if_f c hs
      refine go_iload_n (k4 := 3) rfl dX3_tell_40 ?_
      refine go_iload rfl dX3_tell_41 ?_
      refine go_iconst (v := 1) (by decide) dX3_tell_43 ?_
      refine go_mmax lx_RX3_23.1 lx_RX3_23.2.1 lx_RX3_23.2.2.1 lx_RX3_23.2.2.2 (by omega) (Nat.le_of_ble_eq_true rfl) dX3_tell_44 ?_
      refine go_iadd dX3_tell_47 ?_
      refine go_aload_n (k4 := 2) rfl (Or.inr ⟨_, rfl⟩) dX3_tell_48 ?_
      obtain ⟨v7, ev7, hs⟩ := bindS hs
      refine go_aL ev7 dX3_tell_49 ?_
      refine go_at 50 rfl ?_
      refine go_icmp_le (tgt := 55) (by decide) dX3_tell_50 (fun c => ?_) (fun c => ?_)
      · have hs := if_t c hs
        refine go_iload rfl dX3_tell_55 ?_
        refine go_if_lt (tgt := 68) (by decide) dX3_tell_57 (fun c => ?_) (fun c => ?_)
        · have hs := if_t c hs
          refine go_iload rfl dX3_tell_68 ?_
          refine go_if_ne (tgt := 100) (by decide) dX3_tell_70 (fun c => ?_) (fun c => ?_)
          · have hs := if_f c hs
            refine go_iload rfl dX3_tell_100 ?_
            refine go_bipush (v := -19) (by decide) dX3_tell_102 ?_
            refine go_icmp_ne (tgt := 118) (by decide) dX3_tell_104 (fun c => ?_) (fun c => ?_)
            · have hs := if_f c hs
              refine go_iload rfl dX3_tell_118 ?_
              refine go_bipush (v := -20) (by decide) dX3_tell_120 ?_
              refine go_icmp_ne (tgt := 151) (by decide) dX3_tell_122 (fun c => ?_) (fun c => ?_)
              · have hs := if_f c hs
                refine go_aload_n (k4 := 2) rfl (Or.inr ⟨_, rfl⟩) dX3_tell_151 ?_
                refine go_iload_n (k4 := 3) rfl dX3_tell_152 ?_
                refine go_iload rfl dX3_tell_153 ?_
                refine go_aload_n (k4 := 2) rfl (Or.inr ⟨_, rfl⟩) dX3_tell_155 ?_
                refine go_iload_n (k4 := 3) rfl dX3_tell_156 ?_
                obtain ⟨v8, ev8, hs⟩ := bindS hs
                refine go_aIi ev8 dX3_tell_157 ?_
                refine go_i2l dX3_tell_158 ?_
                refine go_at 159 rfl ?_
                refine go_aload_n (k4 := 2) rfl (Or.inr ⟨_, rfl⟩) dX3_tell_159 ?_
                refine go_iload_n (k4 := 3) rfl dX3_tell_160 ?_
                refine go_iconst (v := 1) (by decide) dX3_tell_161 ?_
                refine go_iadd dX3_tell_162 ?_
                obtain ⟨v9, ev9, hs⟩ := bindS hs
                refine go_aIi ev9 dX3_tell_163 ?_
                refine go_i2l dX3_tell_164 ?_
                obtain ⟨y10, ey10, hs⟩ := bindS hs
                refine go_S1 (As := [.int v5, .long (v8.toInt64), .long (v9.toInt64)]) (st := [.int (x3 - y6), .ref x2]) (oX3_join (d := d - 1) (by omega) ey10) (by omega) mb_X3_join lm_RX3_32 ms_X3_join (Nat.le_of_ble_eq_true rfl) rfl dX3_tell_165 ?_
                obtain ⟨h11, eh11, hs⟩ := bindS hs
                refine go_wIi eh11 dX3_tell_168 ?_
                exact go_subL (L' := [some (.ref x0), some (.ref x1), some (.ref x2), some (.int (x3 - y6)), some (.int x4), none, none]) (by simp [subL, va_rf]) (oX3_tell_169 hd hs hk)
              · have hs := if_t c hs
                refine go_aload_n (k4 := 2) rfl (Or.inr ⟨_, rfl⟩) dX3_tell_125 ?_
                refine go_iload_n (k4 := 3) rfl dX3_tell_126 ?_
                refine go_aload_n (k4 := 2) rfl (Or.inr ⟨_, rfl⟩) dX3_tell_127 ?_
                refine go_iload_n (k4 := 3) rfl dX3_tell_128 ?_
                obtain ⟨v12, ev12, hs⟩ := bindS hs
                refine go_aIi ev12 dX3_tell_129 ?_
                refine go_iconst (v := 1) (by decide) dX3_tell_130 ?_
                refine go_icmp_ne (tgt := 142) (by decide) dX3_tell_131 (fun c => ?_) (fun c => ?_)
                · have hs := if_f c hs
                  refine go_aload_n (k4 := 2) rfl (Or.inr ⟨_, rfl⟩) dX3_tell_142 ?_
                  refine go_iload_n (k4 := 3) rfl dX3_tell_143 ?_
                  refine go_iconst (v := 2) (by decide) dX3_tell_144 ?_
                  refine go_iadd dX3_tell_145 ?_
                  obtain ⟨v13, ev13, hs⟩ := bindS hs
                  refine go_aIi ev13 dX3_tell_146 ?_
                  exact go_subL (L' := [some (.ref x0), some (.ref x1), some (.ref x2), some (.int (x3 - y6)), some (.int x4), none, none]) (by simp [subL, va_rf]) (oX3_tell_147 hd hs hk)
                · have hs := if_t c hs
                  refine go_aload_n (k4 := 2) rfl (Or.inr ⟨_, rfl⟩) dX3_tell_134 ?_
                  refine go_iload_n (k4 := 3) rfl dX3_tell_135 ?_
                  refine go_iconst (v := 1) (by decide) dX3_tell_136 ?_
                  refine go_iadd dX3_tell_137 ?_
                  obtain ⟨v15, ev15, hs⟩ := bindS hs
                  refine go_aIi ev15 dX3_tell_138 ?_
                  refine go_goto (tgt := 147) (by decide) dX3_tell_139 ?_
                  exact go_subL (L' := [some (.ref x0), some (.ref x1), some (.ref x2), some (.int (x3 - y6)), some (.int x4), none, none]) (by simp [subL, va_rf]) (oX3_tell_147 hd hs hk)
            · have hs := if_t c hs
              refine go_aload_n (k4 := 2) rfl (Or.inr ⟨_, rfl⟩) dX3_tell_107 ?_
              refine go_iload_n (k4 := 3) rfl dX3_tell_108 ?_
              refine go_iconst (v := 1) (by decide) dX3_tell_109 ?_
              refine go_aload_n (k4 := 2) rfl (Or.inr ⟨_, rfl⟩) dX3_tell_110 ?_
              refine go_iload_n (k4 := 3) rfl dX3_tell_111 ?_
              obtain ⟨v16, ev16, hs⟩ := bindS hs
              refine go_aIi ev16 dX3_tell_112 ?_
              refine go_isub dX3_tell_113 ?_
              refine go_at 114 rfl ?_
              obtain ⟨h17, eh17, hs⟩ := bindS hs
              refine go_wIi eh17 dX3_tell_114 ?_
              refine go_goto (tgt := 169) (by decide) dX3_tell_115 ?_
              exact go_subL (L' := [some (.ref x0), some (.ref x1), some (.ref x2), some (.int (x3 - y6)), some (.int x4), none, none]) (by simp [subL, va_rf]) (oX3_tell_169 hd hs hk)
          · have hs := if_t c hs
            refine go_aload_n (k4 := 2) rfl (Or.inr ⟨_, rfl⟩) dX3_tell_73 ?_
            refine go_iload_n (k4 := 3) rfl dX3_tell_74 ?_
            refine go_iload rfl dX3_tell_75 ?_
            obtain ⟨y18, ey18, hs⟩ := bindS hs
            refine go_S1 (As := [.int v5]) (st := [.int (x3 - y6), .ref x2]) (oX3_placeOf (d := d - 1) (by omega) ey18) (by omega) mb_X3_placeOf lm_RX3_29 ms_X3_placeOf (Nat.le_of_ble_eq_true rfl) rfl dX3_tell_77 ?_
            refine go_aload_n (k4 := 1) rfl (Or.inr ⟨_, rfl⟩) dX3_tell_80 ?_
            obtain ⟨v19, ev19, hs⟩ := bindS hs
            refine go_aL ev19 dX3_tell_81 ?_
            refine go_icmp_ge (tgt := 95) (by decide) dX3_tell_82 (fun c => ?_) (fun c => ?_)
            · have hs := if_t c hs
              refine go_iconst (v := 0) (by decide) dX3_tell_95 ?_
              exact go_subL (L' := [some (.ref x0), some (.ref x1), some (.ref x2), some (.int (x3 - y6)), some (.int x4), none, none]) (by simp [subL, va_rf]) (oX3_tell_96 hd hs hk)
            · have hs := if_f c hs
              refine go_aload_n (k4 := 1) rfl (Or.inr ⟨_, rfl⟩) dX3_tell_85 ?_
              refine go_iload rfl dX3_tell_86 ?_
              obtain ⟨y21, ey21, hs⟩ := bindS hs
              refine go_S1 (As := [.int v5]) (st := [.ref x1, .int (x3 - y6), .ref x2]) (oX3_placeOf (d := d - 1) (by omega) ey21) (by omega) mb_X3_placeOf lm_RX3_29 ms_X3_placeOf (Nat.le_of_ble_eq_true rfl) rfl dX3_tell_88 ?_
              obtain ⟨v22, ev22, hs⟩ := bindS hs
              refine go_aIi ev22 dX3_tell_91 ?_
              refine go_goto (tgt := 96) (by decide) dX3_tell_92 ?_
              exact go_subL (L' := [some (.ref x0), some (.ref x1), some (.ref x2), some (.int (x3 - y6)), some (.int x4), none, none]) (by simp [subL, va_rf]) (oX3_tell_96 hd hs hk)
        · have hs := if_f c hs
          refine go_aload_n (k4 := 2) rfl (Or.inr ⟨_, rfl⟩) dX3_tell_60 ?_
          refine go_iload_n (k4 := 3) rfl dX3_tell_61 ?_
          refine go_iload rfl dX3_tell_62 ?_
          obtain ⟨h23, eh23, hs⟩ := bindS hs
          refine go_wIi eh23 dX3_tell_64 ?_
          refine go_goto (tgt := 169) (by decide) dX3_tell_65 ?_
          exact go_subL (L' := [some (.ref x0), some (.ref x1), some (.ref x2), some (.int (x3 - y6)), some (.int x4), none, none]) (by simp [subL, va_rf]) (oX3_tell_169 hd hs hk)
      · have hs := if_f c hs
        obtain ⟨q, hs2, hq⟩ := mapS hs
        clear hs
        subst hq
        exact go_subL (L' := [none, none, none, none, none, none, none]) (by simp [subL, va_rf]) (oX3_tell_53 hd hs2 hk)
theorem oX3_tell_5 {d : Nat} (hd : 1 ≤ d) {h : Hp} {x0 : Nat} {x1 : Nat} {x2 : Nat} {x3 : Int32} {x4 : Int32} {rf : Option Value} {hf : Hp} {x : (Int32 × Hp)} (hs : fX3_tell_5 h x0 x1 x2 x3 x4 = some x) (hk : (kX3_tell rf hf) x) : Go d mX3_tell 5 [some (.ref x0), some (.ref x1), some (.ref x2), some (.int x3), some (.int x4), none, none] [] h rf hf := by
  unfold fX3_tell_5 at hs
  exact lpw_go (P := pX3_tell_5 d x0 x1 x2 rf hf) (fun s x hs hk => oX3_tell_5b hd hs hk) (x3, x4, h) x hs hk
noncomputable def fX3_tell (h : Hp) (x0 : Nat) (x1 : Nat) (x2 : Nat) : Option (Int32 × Hp) :=
  fX3_tell_5 h x0 x1 x2 (0 : Int32) (0 : Int32)
theorem oX3_tell_0 {d : Nat} (hd : 1 ≤ d) {h : Hp} {x0 : Nat} {x1 : Nat} {x2 : Nat} {rf : Option Value} {hf : Hp} {x : (Int32 × Hp)} (hs : fX3_tell h x0 x1 x2 = some x) (hk : (kX3_tell rf hf) x) : Go d mX3_tell 0 [some (.ref x0), some (.ref x1), some (.ref x2), none, none, none, none] [] h rf hf := by
  unfold fX3_tell at hs
  refine go_iconst (v := 0) (by decide) dX3_tell_0 ?_
  refine go_istore_n (k4 := 3) (L' := [some (.ref x0), some (.ref x1), some (.ref x2), some (.int (0 : Int32)), none, none, none]) (by decide) rfl dX3_tell_1 ?_
  refine go_iconst (v := 0) (by decide) dX3_tell_2 ?_
  refine go_istore (L' := [some (.ref x0), some (.ref x1), some (.ref x2), some (.int (0 : Int32)), some (.int (0 : Int32)), none, none]) (by decide) rfl dX3_tell_3 ?_
  exact go_subL (L' := [some (.ref x0), some (.ref x1), some (.ref x2), some (.int (0 : Int32)), some (.int (0 : Int32)), none, none]) (by simp [subL, va_rf]) (oX3_tell_5 hd hs hk)
theorem oX3_tell {d : Nat} (hd : 1 ≤ d) {h : Hp} {x0 : Nat} {x1 : Nat} {x2 : Nat} {y : (Int32 × Hp)} (hs : fX3_tell h x0 x1 x2 = some y) : Call d mX3_tell [.ref x0, .ref x1, .ref x2] h (some (.int y.1)) (y.2) := call_of (by decide +kernel) (Nat.le_of_ble_eq_true rfl) (show Go d mX3_tell 0 [some (.ref x0), some (.ref x1), some (.ref x2), none, none, none, none] [] h _ _ from go_subL (by simp [subL]) (oX3_tell_0 hd hs ⟨rfl, rfl⟩))
abbrev kX1_growth (rf : Option Value) (hf : Hp) : (Int32 × Hp) → Prop := fun y => rf = some (.int y.1) ∧ hf = y.2
noncomputable def fX1_growth_21 (h : Hp) (s0 : Int32) : Option (Int32 × Hp) :=
  some ((s0, h))
theorem oX1_growth_21 {d : Nat} (hd : 2 ≤ d) {h : Hp} {s0 : Int32} {rf : Option Value} {hf : Hp} {x : (Int32 × Hp)} (hs : fX1_growth_21 h s0 = some x) (hk : (kX1_growth rf hf) x) : Go d mX1_growth 21 [none, none, none, none, none, none, none, none] [.int s0] h rf hf := by
  unfold fX1_growth_21 at hs
  obtain rfl := Option.some.inj hs
  obtain ⟨rfl, rfl⟩ := hk
  exact go_iret rfl dX1_growth_21
noncomputable def fX1_growth_59 (h : Hp)  : Option (Int32 × Hp) :=
  some (((0 : Int32), h))
theorem oX1_growth_59 {d : Nat} (hd : 2 ≤ d) {h : Hp} {rf : Option Value} {hf : Hp} {x : (Int32 × Hp)} (hs : fX1_growth_59 h  = some x) (hk : (kX1_growth rf hf) x) : Go d mX1_growth 59 [none, none, none, none, none, none, none, none] [] h rf hf := by
  unfold fX1_growth_59 at hs
  refine go_iconst (v := 0) (by decide) dX1_growth_59 ?_
  obtain rfl := Option.some.inj hs
  obtain ⟨rfl, rfl⟩ := hk
  exact go_iret rfl dX1_growth_60
noncomputable def fX1_growth_164 (h : Hp) (x0 : Nat) (x6 : Int32) : Option (Int32 × Hp) :=
  (gN h 1 x0 2).bind fun v9 =>
  (aI 1 h v9 x6).bind fun v10 =>
  some (((v10 - (10 : Int32)), h))
theorem oX1_growth_164 {d : Nat} (hd : 2 ≤ d) {h : Hp} {x0 : Nat} {x6 : Int32} {rf : Option Value} {hf : Hp} {x : (Int32 × Hp)} (hs : fX1_growth_164 h x0 x6 = some x) (hk : (kX1_growth rf hf) x) : Go d mX1_growth 164 [some (.ref x0), none, none, none, none, none, some (.int x6), none] [] h rf hf := by
  unfold fX1_growth_164 at hs
  refine go_aload_n (k4 := 0) rfl (Or.inr ⟨_, rfl⟩) dX1_growth_164 ?_
  obtain ⟨v9, ev9, hs⟩ := bindS hs
  refine go_gN fl_RX1_20 ev9 dX1_growth_165 ?_
  refine go_iload rfl dX1_growth_168 ?_
  obtain ⟨v10, ev10, hs⟩ := bindS hs
  refine go_aIb ev10 dX1_growth_170 ?_
  refine go_bipush (v := 10) (by decide) dX1_growth_171 ?_
  refine go_isub dX1_growth_173 ?_
  obtain rfl := Option.some.inj hs
  obtain ⟨rfl, rfl⟩ := hk
  exact go_iret rfl dX1_growth_174
noncomputable def fX1_growth (h : Hp) (x0 : Nat) (x1 : Int32) (x2 : Int32) (x3 : Int32) (x4 : Int32) (x5 : Int32) : Option (Int32 × Hp) :=
  (gN h 1 x0 5).bind fun v1 =>
  (gR h 0 v1 7).bind fun v2 =>
  match v2 with
  | none => (
    if x5 = (1 : Int32) then (
      fX1_growth_21 h (0 : Int32)) else (
      fX1_growth_21 h x2))
  | some n3 => (
    lt ((((((x4 * (4 : Int32)) + x1) * (5 : Int32)) + x2) * (10 : Int32)) + x3) fun w4 =>
    if ((w4 * (2 : Int32)) + x5) < 0 then (
    fX1_growth_59 h ) else (
      (gN h 1 x0 2).bind fun v5 =>
      (aL h v5).bind fun v6 =>
      if ((w4 * (2 : Int32)) + x5) < v6 then (
        (gN h 1 x0 2).bind fun v7 =>
        (aI 1 h v7 ((w4 * (2 : Int32)) + x5)).bind fun v8 =>
        if v8 = 0 then (
          gO h 1 x0 (
          (fX1_know h x0 (-1 : Int32) x4).bind fun y11 =>
          gO y11 1 x0 (
          (fX1_know y11 x0 (-2 : Int32) x5).bind fun y13 =>
          gO y13 1 x0 (
          (fX1_know y13 x0 (-3 : Int32) x1).bind fun y15 =>
          (gI y15 1 x0 6).bind fun v17 =>
          (fX11_digit y15 v17 x1).bind fun y18 =>
          gO y15 1 x0 (
          (fX1_know y15 x0 (-4 : Int32) y18).bind fun y19 =>
          gO y19 1 x0 (
          (fX1_know y19 x0 (-5 : Int32) x2).bind fun y21 =>
          gO y21 1 x0 (
          (fX1_know y21 x0 (-6 : Int32) x3).bind fun y23 =>
          (gN y23 1 x0 5).bind fun v25 =>
          (gR y23 0 v25 7).bind fun v26 =>
          (gN y23 1 x0 0).bind fun v27 =>
          (gN y23 1 x0 1).bind fun v28 =>
          (v26).bind fun n29 =>
          gO y23 3 n29 (
          (fX3_tell y23 n29 v27 v28).bind fun y30 =>
          (gN y30.2 1 x0 2).bind fun v32 =>
          (wI 1 y30.2 v32 ((w4 * (2 : Int32)) + x5) ((10 : Int32) + (imax (-9 : Int32) (imin (9 : Int32) y30.1))).toInt8.toInt32).bind fun h33 =>
          fX1_growth_164 h33 x0 ((w4 * (2 : Int32)) + x5))))))))) else (
        fX1_growth_164 h x0 ((w4 * (2 : Int32)) + x5))) else (
      fX1_growth_59 h )))
theorem oX1_growth_0 {d : Nat} (hd : 2 ≤ d) {h : Hp} {x0 : Nat} {x1 : Int32} {x2 : Int32} {x3 : Int32} {x4 : Int32} {x5 : Int32} {rf : Option Value} {hf : Hp} {x : (Int32 × Hp)} (hs : fX1_growth h x0 x1 x2 x3 x4 x5 = some x) (hk : (kX1_growth rf hf) x) : Go d mX1_growth 0 [some (.ref x0), some (.int x1), some (.int x2), some (.int x3), some (.int x4), some (.int x5), none, none] [] h rf hf := by
  unfold fX1_growth at hs
  refine go_aload_n (k4 := 0) rfl (Or.inr ⟨_, rfl⟩) dX1_growth_0 ?_
  obtain ⟨v1, ev1, hs⟩ := bindS hs
  refine go_gN fl_RX1_34 ev1 dX1_growth_1 ?_
  obtain ⟨v2, ev2, hs⟩ := bindS hs
  refine go_gR fl_RX1_50 ev2 dX1_growth_4 ?_
  cases v2 with
  | none =>
    dsimp only at hs
    refine go_ifnonnull (o := none) (tgt := 22) (by decide) dX1_growth_7 (fun c => absurd rfl c) (fun _ => ?_)
    refine go_iload rfl dX1_growth_10 ?_
    refine go_iconst (v := 1) (by decide) dX1_growth_12 ?_
    refine go_icmp_ne (tgt := 20) (by decide) dX1_growth_13 (fun c => ?_) (fun c => ?_)
    · have hs := if_f c hs
      refine go_iload_n (k4 := 2) rfl dX1_growth_20 ?_
      exact go_subL (L' := [none, none, none, none, none, none, none, none]) (by simp [subL, va_rf]) (oX1_growth_21 hd hs hk)
    · have hs := if_t c hs
      refine go_iconst (v := 0) (by decide) dX1_growth_16 ?_
      refine go_goto (tgt := 21) (by decide) dX1_growth_17 ?_
      exact go_subL (L' := [none, none, none, none, none, none, none, none]) (by simp [subL, va_rf]) (oX1_growth_21 hd hs hk)
  | some n3 =>
    dsimp only at hs
    refine go_ifnonnull (o := some n3) (tgt := 22) (by decide) dX1_growth_7 (fun _ => ?_) (fun c => by cases c)
    refine go_iload rfl dX1_growth_22 ?_
    refine go_iconst (v := 4) (by decide) dX1_growth_24 ?_
    refine go_imul dX1_growth_25 ?_
    refine go_iload_n (k4 := 1) rfl dX1_growth_26 ?_
    refine go_iadd dX1_growth_27 ?_
    refine go_iconst (v := 5) (by decide) dX1_growth_28 ?_
    refine go_imul dX1_growth_29 ?_
    refine go_at 30 rfl ?_
    refine go_iload_n (k4 := 2) rfl dX1_growth_30 ?_
    refine go_iadd dX1_growth_31 ?_
    refine go_bipush (v := 10) (by decide) dX1_growth_32 ?_
    refine go_imul dX1_growth_34 ?_
    refine go_iload_n (k4 := 3) rfl dX1_growth_35 ?_
    refine go_iadd dX1_growth_36 ?_
    obtain ⟨w4, ew4, hs⟩ := lt_at hs
    rw [← ew4]
    refine go_iconst (v := 2) (by decide) dX1_growth_37 ?_
    refine go_imul dX1_growth_38 ?_
    refine go_at 39 rfl ?_
    refine go_iload rfl dX1_growth_39 ?_
    refine go_iadd dX1_growth_41 ?_
    refine go_istore (L' := [some (.ref x0), some (.int x1), some (.int x2), some (.int x3), some (.int x4), some (.int x5), some (.int ((w4 * (2 : Int32)) + x5)), none]) (by decide) rfl dX1_growth_42 ?_
    refine go_iload rfl dX1_growth_44 ?_
    refine go_if_lt (tgt := 59) (by decide) dX1_growth_46 (fun c => ?_) (fun c => ?_)
    · have hs := if_t c hs
      exact go_subL (L' := [none, none, none, none, none, none, none, none]) (by simp [subL, va_rf]) (oX1_growth_59 hd hs hk)
    · have hs := if_f c hs
      refine go_iload rfl dX1_growth_49 ?_
      refine go_aload_n (k4 := 0) rfl (Or.inr ⟨_, rfl⟩) dX1_growth_51 ?_
      obtain ⟨v5, ev5, hs⟩ := bindS hs
      refine go_gN fl_RX1_20 ev5 dX1_growth_52 ?_
      obtain ⟨v6, ev6, hs⟩ := bindS hs
      refine go_aL ev6 dX1_growth_55 ?_
      refine go_icmp_lt (tgt := 61) (by decide) dX1_growth_56 (fun c => ?_) (fun c => ?_)
      · have hs := if_t c hs
        refine go_aload_n (k4 := 0) rfl (Or.inr ⟨_, rfl⟩) dX1_growth_61 ?_
        obtain ⟨v7, ev7, hs⟩ := bindS hs
        refine go_gN fl_RX1_20 ev7 dX1_growth_62 ?_
        refine go_iload rfl dX1_growth_65 ?_
        obtain ⟨v8, ev8, hs⟩ := bindS hs
        refine go_aIb ev8 dX1_growth_67 ?_
        refine go_if_ne (tgt := 164) (by decide) dX1_growth_68 (fun c => ?_) (fun c => ?_)
        · have hs := if_f c hs
          exact go_subL (L' := [some (.ref x0), none, none, none, none, none, some (.int ((w4 * (2 : Int32)) + x5)), none]) (by simp [subL, va_rf]) (oX1_growth_164 hd hs hk)
        · have hs := if_t c hs
          refine go_aload_n (k4 := 0) rfl (Or.inr ⟨_, rfl⟩) dX1_growth_71 ?_
          refine go_iconst (v := -1) (by decide) dX1_growth_72 ?_
          refine go_iload rfl dX1_growth_73 ?_
          obtain ⟨g12, hs⟩ := gO_at hs
          obtain ⟨y11, ey11, hs⟩ := bindS hs
          refine go_V0 (As := [.int (-1 : Int32), .int x4]) (st := []) g12 rfl rfl (oX1_know (d := d - 1) (by omega) ey11) (by omega) mb_X1_know lm_RX1_53 mi_X1_know (Nat.le_of_ble_eq_true rfl) rfl dX1_growth_75 ?_
          refine go_aload_n (k4 := 0) rfl (Or.inr ⟨_, rfl⟩) dX1_growth_78 ?_
          refine go_bipush (v := -2) (by decide) dX1_growth_79 ?_
          refine go_iload rfl dX1_growth_81 ?_
          refine go_at 83 rfl ?_
          obtain ⟨g14, hs⟩ := gO_at hs
          obtain ⟨y13, ey13, hs⟩ := bindS hs
          refine go_V0 (As := [.int (-2 : Int32), .int x5]) (st := []) g14 rfl rfl (oX1_know (d := d - 1) (by omega) ey13) (by omega) mb_X1_know lm_RX1_53 mi_X1_know (Nat.le_of_ble_eq_true rfl) rfl dX1_growth_83 ?_
          refine go_aload_n (k4 := 0) rfl (Or.inr ⟨_, rfl⟩) dX1_growth_86 ?_
          refine go_bipush (v := -3) (by decide) dX1_growth_87 ?_
          refine go_iload_n (k4 := 1) rfl dX1_growth_89 ?_
          obtain ⟨g16, hs⟩ := gO_at hs
          obtain ⟨y15, ey15, hs⟩ := bindS hs
          refine go_V0 (As := [.int (-3 : Int32), .int x1]) (st := []) g16 rfl rfl (oX1_know (d := d - 1) (by omega) ey15) (by omega) mb_X1_know lm_RX1_53 mi_X1_know (Nat.le_of_ble_eq_true rfl) rfl dX1_growth_90 ?_
          refine go_aload_n (k4 := 0) rfl (Or.inr ⟨_, rfl⟩) dX1_growth_93 ?_
          refine go_bipush (v := -4) (by decide) dX1_growth_94 ?_
          refine go_aload_n (k4 := 0) rfl (Or.inr ⟨_, rfl⟩) dX1_growth_96 ?_
          refine go_at 97 rfl ?_
          obtain ⟨v17, ev17, hs⟩ := bindS hs
          refine go_gI fl_RX1_30 ev17 dX1_growth_97 ?_
          refine go_iload_n (k4 := 1) rfl dX1_growth_100 ?_
          obtain ⟨y18, ey18, hs⟩ := bindS hs
          refine go_SN1 (As := [.int v17, .int x1]) (st := [.int (-4 : Int32), .ref x0]) (oX11_digit (d := d - 1) (by omega) ey18) (by omega) mb_X11_digit lm_RX1_57 ms_X11_digit (Nat.le_of_ble_eq_true rfl) rfl dX1_growth_101 ?_
          obtain ⟨g20, hs⟩ := gO_at hs
          obtain ⟨y19, ey19, hs⟩ := bindS hs
          refine go_V0 (As := [.int (-4 : Int32), .int y18]) (st := []) g20 rfl rfl (oX1_know (d := d - 1) (by omega) ey19) (by omega) mb_X1_know lm_RX1_53 mi_X1_know (Nat.le_of_ble_eq_true rfl) rfl dX1_growth_104 ?_
          refine go_aload_n (k4 := 0) rfl (Or.inr ⟨_, rfl⟩) dX1_growth_107 ?_
          refine go_bipush (v := -5) (by decide) dX1_growth_108 ?_
          refine go_iload_n (k4 := 2) rfl dX1_growth_110 ?_
          obtain ⟨g22, hs⟩ := gO_at hs
          obtain ⟨y21, ey21, hs⟩ := bindS hs
          refine go_V0 (As := [.int (-5 : Int32), .int x2]) (st := []) g22 rfl rfl (oX1_know (d := d - 1) (by omega) ey21) (by omega) mb_X1_know lm_RX1_53 mi_X1_know (Nat.le_of_ble_eq_true rfl) rfl dX1_growth_111 ?_
          refine go_at 114 rfl ?_
          refine go_aload_n (k4 := 0) rfl (Or.inr ⟨_, rfl⟩) dX1_growth_114 ?_
          refine go_bipush (v := -6) (by decide) dX1_growth_115 ?_
          refine go_iload_n (k4 := 3) rfl dX1_growth_117 ?_
          obtain ⟨g24, hs⟩ := gO_at hs
          obtain ⟨y23, ey23, hs⟩ := bindS hs
          refine go_V0 (As := [.int (-6 : Int32), .int x3]) (st := []) g24 rfl rfl (oX1_know (d := d - 1) (by omega) ey23) (by omega) mb_X1_know lm_RX1_53 mi_X1_know (Nat.le_of_ble_eq_true rfl) rfl dX1_growth_118 ?_
          refine go_aload_n (k4 := 0) rfl (Or.inr ⟨_, rfl⟩) dX1_growth_121 ?_
          obtain ⟨v25, ev25, hs⟩ := bindS hs
          refine go_gN fl_RX1_34 ev25 dX1_growth_122 ?_
          obtain ⟨v26, ev26, hs⟩ := bindS hs
          refine go_gR fl_RX1_50 ev26 dX1_growth_125 ?_
          refine go_aload_n (k4 := 0) rfl (Or.inr ⟨_, rfl⟩) dX1_growth_128 ?_
          refine go_at 129 rfl ?_
          obtain ⟨v27, ev27, hs⟩ := bindS hs
          refine go_gN fl_RX1_11 ev27 dX1_growth_129 ?_
          refine go_aload_n (k4 := 0) rfl (Or.inr ⟨_, rfl⟩) dX1_growth_132 ?_
          obtain ⟨v28, ev28, hs⟩ := bindS hs
          refine go_gN fl_RX1_17 ev28 dX1_growth_133 ?_
          obtain ⟨n29, en29, hs⟩ := bindS hs
          rw [en29]
          obtain ⟨g31, hs⟩ := gO_at hs
          obtain ⟨y30, ey30, hs⟩ := bindS hs
          refine go_V1 (As := [.ref v27, .ref v28]) (st := []) g31 rfl rfl (oX3_tell (d := d - 1) (by omega) ey30) (by omega) mb_X3_tell lm_RX1_61 mi_X3_tell (Nat.le_of_ble_eq_true rfl) rfl dX1_growth_136 ?_
          refine go_istore (L' := [some (.ref x0), some (.int x1), some (.int x2), some (.int x3), some (.int x4), some (.int x5), some (.int ((w4 * (2 : Int32)) + x5)), some (.int y30.1)]) (by decide) rfl dX1_growth_139 ?_
          refine go_aload_n (k4 := 0) rfl (Or.inr ⟨_, rfl⟩) dX1_growth_141 ?_
          obtain ⟨v32, ev32, hs⟩ := bindS hs
          refine go_gN fl_RX1_20 ev32 dX1_growth_142 ?_
          refine go_iload rfl dX1_growth_145 ?_
          refine go_at 147 rfl ?_
          refine go_bipush (v := 10) (by decide) dX1_growth_147 ?_
          refine go_bipush (v := -9) (by decide) dX1_growth_149 ?_
          refine go_bipush (v := 9) (by decide) dX1_growth_151 ?_
          refine go_iload rfl dX1_growth_153 ?_
          refine go_mmin lx_RX1_65.1 lx_RX1_65.2.1 lx_RX1_65.2.2.1 lx_RX1_65.2.2.2 (by omega) (Nat.le_of_ble_eq_true rfl) dX1_growth_155 ?_
          refine go_mmax lx_RX1_70.1 lx_RX1_70.2.1 lx_RX1_70.2.2.1 lx_RX1_70.2.2.2 (by omega) (Nat.le_of_ble_eq_true rfl) dX1_growth_158 ?_
          refine go_iadd dX1_growth_161 ?_
          refine go_i2b dX1_growth_162 ?_
          refine go_at 163 rfl ?_
          obtain ⟨h33, eh33, hs⟩ := bindS hs
          refine go_wIb eh33 dX1_growth_163 ?_
          exact go_subL (L' := [some (.ref x0), none, none, none, none, none, some (.int ((w4 * (2 : Int32)) + x5)), none]) (by simp [subL, va_rf]) (oX1_growth_164 hd hs hk)
      · have hs := if_f c hs
        exact go_subL (L' := [none, none, none, none, none, none, none, none]) (by simp [subL, va_rf]) (oX1_growth_59 hd hs hk)
theorem oX1_growth {d : Nat} (hd : 2 ≤ d) {h : Hp} {x0 : Nat} {x1 : Int32} {x2 : Int32} {x3 : Int32} {x4 : Int32} {x5 : Int32} {y : (Int32 × Hp)} (hs : fX1_growth h x0 x1 x2 x3 x4 x5 = some y) : Call d mX1_growth [.ref x0, .int x1, .int x2, .int x3, .int x4, .int x5] h (some (.int y.1)) (y.2) := call_of (by decide +kernel) (Nat.le_of_ble_eq_true rfl) (show Go d mX1_growth 0 [some (.ref x0), some (.int x1), some (.int x2), some (.int x3), some (.int x4), some (.int x5), none, none] [] h _ _ from go_subL (by simp [subL]) (oX1_growth_0 hd hs ⟨rfl, rfl⟩))
abbrev kX11_grown (rf : Option Value) (hf : Hp) : (Int32 × Hp) → Prop := fun y => rf = some (.int y.1) ∧ hf = y.2
noncomputable def fX11_grown_27 (h : Hp)  : Option (Int32 × Hp) :=
  some (((-99000003 : Int32), h))
theorem oX11_grown_27 {d : Nat} (hd : 3 ≤ d) {h : Hp} {rf : Option Value} {hf : Hp} {x : (Int32 × Hp)} (hs : fX11_grown_27 h  = some x) (hk : (kX11_grown rf hf) x) : Go d mX11_grown 27 [none, none, none, none, none] [] h rf hf := by
  unfold fX11_grown_27 at hs
  refine go_ldc lc_RX11_165 dX11_grown_27 ?_
  obtain rfl := Option.some.inj hs
  obtain ⟨rfl, rfl⟩ := hk
  exact go_iret rfl dX11_grown_29
noncomputable def fX11_grown_78 (h : Hp) (s0 : Int32) : Option (Int32 × Hp) :=
  some ((s0, h))
theorem oX11_grown_78 {d : Nat} (hd : 3 ≤ d) {h : Hp} {s0 : Int32} {rf : Option Value} {hf : Hp} {x : (Int32 × Hp)} (hs : fX11_grown_78 h s0 = some x) (hk : (kX11_grown rf hf) x) : Go d mX11_grown 78 [none, none, none, none, none] [.int s0] h rf hf := by
  unfold fX11_grown_78 at hs
  obtain rfl := Option.some.inj hs
  obtain ⟨rfl, rfl⟩ := hk
  exact go_iret rfl dX11_grown_78
noncomputable def fX11_grown (h : Hp) (x0 : Nat) (x1 : Int32) (x2 : Int32) (x3 : Int32) : Option (Int32 × Hp) :=
  gO h 11 x0 (
  (fX11_isPair h x0 x1).bind fun y1 =>
  if y1 = 0 then (
    some (((-99000002 : Int32), h))) else (
    if x2 < 0 then (
    fX11_grown_27 h ) else (
      if (4 : Int32) < x2 then (
      fX11_grown_27 h ) else (
        (fX11_isDryness h x3).bind fun y3 =>
        if y3 = 0 then (
        fX11_grown_27 h ) else (
          (gN h 11 x0 4).bind fun v4 =>
          (gI h 8 v4 0).bind fun v5 =>
          (fX11_digit h v5 x1).bind fun y6 =>
          if y6 = 0 then (
            fX11_grown_78 h (0 : Int32)) else (
            gO h 11 x0 (
            (fX11_tuned h x0).bind fun y7 =>
            (gN y7.2 11 x0 3).bind fun v9 =>
            (gN y7.2 11 x0 4).bind fun v10 =>
            (gI y7.2 8 v10 0).bind fun v11 =>
            gO y7.2 0 v9 (
            (fX0_metCount y7.2 v9 v11).bind fun y12 =>
            gO y7.2 1 y7.1 (
            (fX1_growth y7.2 y7.1 x1 x2 y6 y12 x3).bind fun y14 =>
            fX11_grown_78 y14.2 y14.1)))))))))
theorem oX11_grown_0 {d : Nat} (hd : 3 ≤ d) {h : Hp} {x0 : Nat} {x1 : Int32} {x2 : Int32} {x3 : Int32} {rf : Option Value} {hf : Hp} {x : (Int32 × Hp)} (hs : fX11_grown h x0 x1 x2 x3 = some x) (hk : (kX11_grown rf hf) x) : Go d mX11_grown 0 [some (.ref x0), some (.int x1), some (.int x2), some (.int x3), none] [] h rf hf := by
  unfold fX11_grown at hs
  refine go_aload_n (k4 := 0) rfl (Or.inr ⟨_, rfl⟩) dX11_grown_0 ?_
  refine go_iload_n (k4 := 1) rfl dX11_grown_1 ?_
  obtain ⟨g2, hs⟩ := gO_at hs
  obtain ⟨y1, ey1, hs⟩ := bindS hs
  refine go_V1 (As := [.int x1]) (st := []) g2 rfl rfl (oX11_isPair (d := d - 1) (by omega) ey1) (by omega) mb_X11_isPair lm_RX11_138 mi_X11_isPair (Nat.le_of_ble_eq_true rfl) rfl dX11_grown_2 ?_
  refine go_if_ne (tgt := 11) (by decide) dX11_grown_5 (fun c => ?_) (fun c => ?_)
  · have hs := if_f c hs
    refine go_iload_n (k4 := 2) rfl dX11_grown_11 ?_
    refine go_if_lt (tgt := 27) (by decide) dX11_grown_12 (fun c => ?_) (fun c => ?_)
    · have hs := if_t c hs
      exact go_subL (L' := [none, none, none, none, none]) (by simp [subL, va_rf]) (oX11_grown_27 hd hs hk)
    · have hs := if_f c hs
      refine go_iload_n (k4 := 2) rfl dX11_grown_15 ?_
      refine go_iconst (v := 4) (by decide) dX11_grown_16 ?_
      refine go_icmp_gt (tgt := 27) (by decide) dX11_grown_17 (fun c => ?_) (fun c => ?_)
      · have hs := if_t c hs
        exact go_subL (L' := [none, none, none, none, none]) (by simp [subL, va_rf]) (oX11_grown_27 hd hs hk)
      · have hs := if_f c hs
        refine go_iload_n (k4 := 3) rfl dX11_grown_20 ?_
        obtain ⟨y3, ey3, hs⟩ := bindS hs
        refine go_S1 (As := [.int x3]) (st := []) (oX11_isDryness (d := d - 1) (by omega) ey3) (by omega) mb_X11_isDryness lm_RX11_162 ms_X11_isDryness (Nat.le_of_ble_eq_true rfl) rfl dX11_grown_21 ?_
        refine go_if_ne (tgt := 30) (by decide) dX11_grown_24 (fun c => ?_) (fun c => ?_)
        · have hs := if_f c hs
          refine go_aload_n (k4 := 0) rfl (Or.inr ⟨_, rfl⟩) dX11_grown_30 ?_
          obtain ⟨v4, ev4, hs⟩ := bindS hs
          refine go_gN fl_RX11_36 ev4 dX11_grown_31 ?_
          obtain ⟨v5, ev5, hs⟩ := bindS hs
          refine go_gI fl_RX11_142 ev5 dX11_grown_34 ?_
          refine go_iload_n (k4 := 1) rfl dX11_grown_37 ?_
          obtain ⟨y6, ey6, hs⟩ := bindS hs
          refine go_S1 (As := [.int v5, .int x1]) (st := []) (oX11_digit (d := d - 1) (by omega) ey6) (by omega) mb_X11_digit lm_RX11_145 ms_X11_digit (Nat.le_of_ble_eq_true rfl) rfl dX11_grown_38 ?_
          refine go_istore (L' := [some (.ref x0), some (.int x1), some (.int x2), some (.int x3), some (.int y6)]) (by decide) rfl dX11_grown_41 ?_
          refine go_iload rfl dX11_grown_43 ?_
          refine go_at 45 rfl ?_
          refine go_if_ne (tgt := 52) (by decide) dX11_grown_45 (fun c => ?_) (fun c => ?_)
          · have hs := if_f c hs
            refine go_aload_n (k4 := 0) rfl (Or.inr ⟨_, rfl⟩) dX11_grown_52 ?_
            obtain ⟨g8, hs⟩ := gO_at hs
            obtain ⟨y7, ey7, hs⟩ := bindS hs
            refine go_V1 (As := []) (st := []) g8 rfl rfl (oX11_tuned (d := d - 1) (by omega) ey7) (by omega) mb_X11_tuned lm_RX11_166 mi_X11_tuned (Nat.le_of_ble_eq_true rfl) rfl dX11_grown_53 ?_
            refine go_iload_n (k4 := 1) rfl dX11_grown_56 ?_
            refine go_iload_n (k4 := 2) rfl dX11_grown_57 ?_
            refine go_iload rfl dX11_grown_58 ?_
            refine go_aload_n (k4 := 0) rfl (Or.inr ⟨_, rfl⟩) dX11_grown_60 ?_
            obtain ⟨v9, ev9, hs⟩ := bindS hs
            refine go_gN fl_RX11_29 ev9 dX11_grown_61 ?_
            refine go_at 64 rfl ?_
            refine go_aload_n (k4 := 0) rfl (Or.inr ⟨_, rfl⟩) dX11_grown_64 ?_
            obtain ⟨v10, ev10, hs⟩ := bindS hs
            refine go_gN fl_RX11_36 ev10 dX11_grown_65 ?_
            obtain ⟨v11, ev11, hs⟩ := bindS hs
            refine go_gI fl_RX11_142 ev11 dX11_grown_68 ?_
            obtain ⟨g13, hs⟩ := gO_at hs
            obtain ⟨y12, ey12, hs⟩ := bindS hs
            refine go_V1 (As := [.int v11]) (st := [.int y6, .int x2, .int x1, .ref y7.1]) g13 rfl rfl (oX0_metCount (d := d - 1) (by omega) ey12) (by omega) mb_X0_metCount lm_RX11_170 mi_X0_metCount (Nat.le_of_ble_eq_true rfl) rfl dX11_grown_71 ?_
            refine go_iload_n (k4 := 3) rfl dX11_grown_74 ?_
            obtain ⟨g15, hs⟩ := gO_at hs
            obtain ⟨y14, ey14, hs⟩ := bindS hs
            refine go_V1 (As := [.int x1, .int x2, .int y6, .int y12, .int x3]) (st := []) g15 rfl rfl (oX1_growth (d := d - 1) (by omega) ey14) (by omega) mb_X1_growth lm_RX11_174 mi_X1_growth (Nat.le_of_ble_eq_true rfl) rfl dX11_grown_75 ?_
            exact go_subL (L' := [none, none, none, none, none]) (by simp [subL, va_rf]) (oX11_grown_78 hd hs hk)
          · have hs := if_t c hs
            refine go_iconst (v := 0) (by decide) dX11_grown_48 ?_
            refine go_goto (tgt := 78) (by decide) dX11_grown_49 ?_
            exact go_subL (L' := [none, none, none, none, none]) (by simp [subL, va_rf]) (oX11_grown_78 hd hs hk)
        · have hs := if_t c hs
          exact go_subL (L' := [none, none, none, none, none]) (by simp [subL, va_rf]) (oX11_grown_27 hd hs hk)
  · have hs := if_t c hs
    refine go_ldc lc_RX11_161 dX11_grown_8 ?_
    obtain rfl := Option.some.inj hs
    obtain ⟨rfl, rfl⟩ := hk
    exact go_iret rfl dX11_grown_10
theorem oX11_grown {d : Nat} (hd : 3 ≤ d) {h : Hp} {x0 : Nat} {x1 : Int32} {x2 : Int32} {x3 : Int32} {y : (Int32 × Hp)} (hs : fX11_grown h x0 x1 x2 x3 = some y) : Call d mX11_grown [.ref x0, .int x1, .int x2, .int x3] h (some (.int y.1)) (y.2) := call_of (by decide +kernel) (Nat.le_of_ble_eq_true rfl) (show Go d mX11_grown 0 [some (.ref x0), some (.int x1), some (.int x2), some (.int x3), none] [] h _ _ from go_subL (by simp [subL]) (oX11_grown_0 hd hs ⟨rfl, rfl⟩))
abbrev kX11_leadings (h : Hp) (rf : Option Value) (hf : Hp) : Int32 → Prop := fun y => rf = some (.int y) ∧ hf = h
noncomputable def fX11_leadings (h : Hp) (x0 : Nat) : Option Int32 :=
  (gN h 11 x0 3).bind fun v1 =>
  (gN h 0 v1 9).bind fun v2 =>
  (aL h v2).bind fun v3 =>
  some (v3)
theorem oX11_leadings_0 {d : Nat} (hd : 0 ≤ d) {h : Hp} {x0 : Nat} {rf : Option Value} {hf : Hp} {x : Int32} (hs : fX11_leadings h x0 = some x) (hk : (kX11_leadings h rf hf) x) : Go d mX11_leadings 0 [some (.ref x0)] [] h rf hf := by
  unfold fX11_leadings at hs
  refine go_aload_n (k4 := 0) rfl (Or.inr ⟨_, rfl⟩) dX11_leadings_0 ?_
  obtain ⟨v1, ev1, hs⟩ := bindS hs
  refine go_gN fl_RX11_29 ev1 dX11_leadings_1 ?_
  obtain ⟨v2, ev2, hs⟩ := bindS hs
  refine go_gN fl_RX11_178 ev2 dX11_leadings_4 ?_
  obtain ⟨v3, ev3, hs⟩ := bindS hs
  refine go_aL ev3 dX11_leadings_7 ?_
  obtain rfl := Option.some.inj hs
  obtain ⟨rfl, rfl⟩ := hk
  exact go_iret rfl dX11_leadings_8
theorem oX11_leadings {d : Nat} (hd : 0 ≤ d) {h : Hp} {x0 : Nat} {y : Int32} (hs : fX11_leadings h x0 = some y) : Call d mX11_leadings [.ref x0] h (some (.int y)) h := call_of (by decide +kernel) (Nat.le_of_ble_eq_true rfl) (show Go d mX11_leadings 0 [some (.ref x0)] [] h _ _ from go_subL (by simp [subL]) (oX11_leadings_0 hd hs ⟨rfl, rfl⟩))
abbrev kX8_copy (rf : Option Value) (hf : Hp) : Hp → Prop := fun y => rf = none ∧ hf = y
noncomputable def fX8_copy (h : Hp) (x0 : Nat) (x1 : Nat) : Option Hp :=
  (gI h 8 x1 0).bind fun v1 =>
  (sV h 8 x0 0 (.int v1)).bind fun h2 =>
  (gI h2 8 x1 1).bind fun v3 =>
  (sV h2 8 x0 1 (.int v3)).bind fun h4 =>
  (gI h4 8 x1 2).bind fun v5 =>
  (sV h4 8 x0 2 (.int v5)).bind fun h6 =>
  (gI h6 8 x1 3).bind fun v7 =>
  (sV h6 8 x0 3 (.int v7)).bind fun h8 =>
  some (h8)
theorem oX8_copy_0 {d : Nat} (hd : 0 ≤ d) {h : Hp} {x0 : Nat} {x1 : Nat} {rf : Option Value} {hf : Hp} {x : Hp} (hs : fX8_copy h x0 x1 = some x) (hk : (kX8_copy rf hf) x) : Go d mX8_copy 0 [some (.ref x0), some (.ref x1)] [] h rf hf := by
  unfold fX8_copy at hs
  refine go_aload_n (k4 := 0) rfl (Or.inr ⟨_, rfl⟩) dX8_copy_0 ?_
  refine go_aload_n (k4 := 1) rfl (Or.inr ⟨_, rfl⟩) dX8_copy_1 ?_
  obtain ⟨v1, ev1, hs⟩ := bindS hs
  refine go_gI fl_RX8_7 ev1 dX8_copy_2 ?_
  obtain ⟨h2, eh2, hs⟩ := bindS hs
  refine go_sV fw_RX8_7 eh2 rfl rfl dX8_copy_5 ?_
  refine go_aload_n (k4 := 0) rfl (Or.inr ⟨_, rfl⟩) dX8_copy_8 ?_
  refine go_aload_n (k4 := 1) rfl (Or.inr ⟨_, rfl⟩) dX8_copy_9 ?_
  obtain ⟨v3, ev3, hs⟩ := bindS hs
  refine go_gI fl_RX8_13 ev3 dX8_copy_10 ?_
  refine go_at 13 rfl ?_
  obtain ⟨h4, eh4, hs⟩ := bindS hs
  refine go_sV fw_RX8_13 eh4 rfl rfl dX8_copy_13 ?_
  refine go_aload_n (k4 := 0) rfl (Or.inr ⟨_, rfl⟩) dX8_copy_16 ?_
  refine go_aload_n (k4 := 1) rfl (Or.inr ⟨_, rfl⟩) dX8_copy_17 ?_
  obtain ⟨v5, ev5, hs⟩ := bindS hs
  refine go_gI fl_RX8_16 ev5 dX8_copy_18 ?_
  obtain ⟨h6, eh6, hs⟩ := bindS hs
  refine go_sV fw_RX8_16 eh6 rfl rfl dX8_copy_21 ?_
  refine go_aload_n (k4 := 0) rfl (Or.inr ⟨_, rfl⟩) dX8_copy_24 ?_
  refine go_aload_n (k4 := 1) rfl (Or.inr ⟨_, rfl⟩) dX8_copy_25 ?_
  obtain ⟨v7, ev7, hs⟩ := bindS hs
  refine go_gI fl_RX8_19 ev7 dX8_copy_26 ?_
  refine go_at 29 rfl ?_
  obtain ⟨h8, eh8, hs⟩ := bindS hs
  refine go_sV fw_RX8_19 eh8 rfl rfl dX8_copy_29 ?_
  obtain rfl := Option.some.inj hs
  obtain ⟨rfl, rfl⟩ := hk
  exact go_vret rfl dX8_copy_32
theorem oX8_copy {d : Nat} (hd : 0 ≤ d) {h : Hp} {x0 : Nat} {x1 : Nat} {y : Hp} (hs : fX8_copy h x0 x1 = some y) : Call d mX8_copy [.ref x0, .ref x1] h (none) y := call_of (by decide +kernel) (Nat.le_of_ble_eq_true rfl) (show Go d mX8_copy 0 [some (.ref x0), some (.ref x1)] [] h _ _ from go_subL (by simp [subL]) (oX8_copy_0 hd hs ⟨rfl, rfl⟩))
abbrev kX1_kept (h : Hp) (rf : Option Value) (hf : Hp) : Int32 → Prop := fun y => rf = some (.int y) ∧ hf = h
noncomputable def fX1_kept_14 (h : Hp) (s0 : Int32) : Option Int32 :=
  some (s0)
theorem oX1_kept_14 {d : Nat} (hd : 1 ≤ d) {h : Hp} {s0 : Int32} {rf : Option Value} {hf : Hp} {x : Int32} (hs : fX1_kept_14 h s0 = some x) (hk : (kX1_kept h rf hf) x) : Go d mX1_kept 14 [none] [.int s0] h rf hf := by
  unfold fX1_kept_14 at hs
  obtain rfl := Option.some.inj hs
  obtain ⟨rfl, rfl⟩ := hk
  exact go_iret rfl dX1_kept_14
noncomputable def fX1_kept (h : Hp) (x0 : Int32) : Option Int32 :=
  if 0 ≤ x0 then (
    fX1_kept_14 h (imin x0 (9 : Int32))) else (
    fX1_kept_14 h (0 : Int32))
theorem oX1_kept_0 {d : Nat} (hd : 1 ≤ d) {h : Hp} {x0 : Int32} {rf : Option Value} {hf : Hp} {x : Int32} (hs : fX1_kept h x0 = some x) (hk : (kX1_kept h rf hf) x) : Go d mX1_kept 0 [some (.int x0)] [] h rf hf := by
  unfold fX1_kept at hs
  refine go_iload_n (k4 := 0) rfl dX1_kept_0 ?_
  refine go_if_ge (tgt := 8) (by decide) dX1_kept_1 (fun c => ?_) (fun c => ?_)
  · have hs := if_t c hs
    refine go_iload_n (k4 := 0) rfl dX1_kept_8 ?_
    refine go_bipush (v := 9) (by decide) dX1_kept_9 ?_
    refine go_mmin lx_RX1_65.1 lx_RX1_65.2.1 lx_RX1_65.2.2.1 lx_RX1_65.2.2.2 (by omega) (Nat.le_of_ble_eq_true rfl) dX1_kept_11 ?_
    exact go_subL (L' := [none]) (by simp [subL, va_rf]) (oX1_kept_14 hd hs hk)
  · have hs := if_f c hs
    refine go_iconst (v := 0) (by decide) dX1_kept_4 ?_
    refine go_goto (tgt := 14) (by decide) dX1_kept_5 ?_
    exact go_subL (L' := [none]) (by simp [subL, va_rf]) (oX1_kept_14 hd hs hk)
theorem oX1_kept {d : Nat} (hd : 1 ≤ d) {h : Hp} {x0 : Int32} {y : Int32} (hs : fX1_kept h x0 = some y) : Call d mX1_kept [.int x0] h (some (.int y)) h := call_of (by decide +kernel) (Nat.le_of_ble_eq_true rfl) (show Go d mX1_kept 0 [some (.int x0)] [] h _ _ from go_subL (by simp [subL]) (oX1_kept_0 hd hs ⟨rfl, rfl⟩))
abbrev kX0_gapSum (h : Hp) (rf : Option Value) (hf : Hp) : Int32 → Prop := fun y => rf = some (.int y) ∧ hf = h
abbrev pX0_gapSum_4 (d : Nat) (h : Hp) (x0 : Nat) (x1 : Int32) (rf : Option Value) (hf : Hp) : (Int32 × Int32) → Prop := fun s => Go d mX0_gapSum 4 [some (.ref x0), some (.int x1), some (.int s.1), some (.int s.2)] [] h rf hf
noncomputable def fX0_gapSum_4b (h : Hp) (x0 : Nat) (x1 : Int32) (x2 : Int32) (x3 : Int32) : Option ((Int32 × Int32) ⊕ Int32) :=
  (gI h 0 x0 0).bind fun v1 =>
  if v1 ≤ x3 then (
    some (.inr x2)) else (
    (fX11_digit h x1 x3).bind fun y2 =>
    some (.inl ((x2 + y2), (x3 + Int32.ofInt 1))))
noncomputable def fX0_gapSum_4 (h : Hp) (x0 : Nat) (x1 : Int32) (x2 : Int32) (x3 : Int32) : Option Int32 := lpw (σ := (Int32 × Int32)) (fun s => fX0_gapSum_4b h x0 x1 s.1 s.2) (x2, x3)
theorem oX0_gapSum_4b {d : Nat} (hd : 1 ≤ d) {h : Hp} {x0 : Nat} {x1 : Int32} {x2 : Int32} {x3 : Int32} {rf : Option Value} {hf : Hp} {x : ((Int32 × Int32) ⊕ Int32)} (hs : fX0_gapSum_4b h x0 x1 x2 x3 = some x) (hk : (Kx (pX0_gapSum_4 d h x0 x1 rf hf) (kX0_gapSum h rf hf)) x) : Go d mX0_gapSum 4 [some (.ref x0), some (.int x1), some (.int x2), some (.int x3)] [] h rf hf := by
  unfold fX0_gapSum_4b at hs
  refine go_iload_n (k4 := 3) rfl dX0_gapSum_4 ?_
  refine go_aload_n (k4 := 0) rfl (Or.inr ⟨_, rfl⟩) dX0_gapSum_5 ?_
  obtain ⟨v1, ev1, hs⟩ := bindS hs
  refine go_gI fl_RX0_21 ev1 dX0_gapSum_6 ?_
  refine go_icmp_ge (tgt := 26) (by decide) dX0_gapSum_9 (fun c => ?_) (fun c => ?_)
  · have hs := if_t c hs
    refine go_iload_n (k4 := 2) rfl dX0_gapSum_26 ?_
    obtain rfl := Option.some.inj hs
    obtain ⟨rfl, rfl⟩ := hk
    exact go_iret rfl dX0_gapSum_27
  · have hs := if_f c hs
    refine go_iload_n (k4 := 2) rfl dX0_gapSum_12 ?_
    refine go_iload_n (k4 := 1) rfl dX0_gapSum_13 ?_
    refine go_iload_n (k4 := 3) rfl dX0_gapSum_14 ?_
    obtain ⟨y2, ey2, hs⟩ := bindS hs
    refine go_SN1 (As := [.int x1, .int x3]) (st := [.int x2]) (oX11_digit (d := d - 1) (by omega) ey2) (by omega) mb_X11_digit lm_RX0_87 ms_X11_digit (Nat.le_of_ble_eq_true rfl) rfl dX0_gapSum_15 ?_
    refine go_iadd dX0_gapSum_18 ?_
    refine go_istore_n (k4 := 2) (L' := [some (.ref x0), some (.int x1), some (.int (x2 + y2)), some (.int x3)]) (by decide) rfl dX0_gapSum_19 ?_
    refine go_iinc (L' := [some (.ref x0), some (.int x1), some (.int (x2 + y2)), some (.int (x3 + Int32.ofInt 1))]) rfl (by decide) rfl rfl dX0_gapSum_20 ?_
    refine go_at 23 rfl ?_
    refine go_goto (tgt := 4) (by decide) dX0_gapSum_23 ?_
    obtain rfl := Option.some.inj hs
    exact go_subL (L' := [some (.ref x0), some (.int x1), some (.int (x2 + y2)), some (.int (x3 + Int32.ofInt 1))]) (by simp [subL, va_rf]) hk
theorem oX0_gapSum_4 {d : Nat} (hd : 1 ≤ d) {h : Hp} {x0 : Nat} {x1 : Int32} {x2 : Int32} {x3 : Int32} {rf : Option Value} {hf : Hp} {x : Int32} (hs : fX0_gapSum_4 h x0 x1 x2 x3 = some x) (hk : (kX0_gapSum h rf hf) x) : Go d mX0_gapSum 4 [some (.ref x0), some (.int x1), some (.int x2), some (.int x3)] [] h rf hf := by
  unfold fX0_gapSum_4 at hs
  exact lpw_go (P := pX0_gapSum_4 d h x0 x1 rf hf) (fun s x hs hk => oX0_gapSum_4b hd hs hk) (x2, x3) x hs hk
noncomputable def fX0_gapSum (h : Hp) (x0 : Nat) (x1 : Int32) : Option Int32 :=
  fX0_gapSum_4 h x0 x1 (0 : Int32) (0 : Int32)
theorem oX0_gapSum_0 {d : Nat} (hd : 1 ≤ d) {h : Hp} {x0 : Nat} {x1 : Int32} {rf : Option Value} {hf : Hp} {x : Int32} (hs : fX0_gapSum h x0 x1 = some x) (hk : (kX0_gapSum h rf hf) x) : Go d mX0_gapSum 0 [some (.ref x0), some (.int x1), none, none] [] h rf hf := by
  unfold fX0_gapSum at hs
  refine go_iconst (v := 0) (by decide) dX0_gapSum_0 ?_
  refine go_istore_n (k4 := 2) (L' := [some (.ref x0), some (.int x1), some (.int (0 : Int32)), none]) (by decide) rfl dX0_gapSum_1 ?_
  refine go_iconst (v := 0) (by decide) dX0_gapSum_2 ?_
  refine go_istore_n (k4 := 3) (L' := [some (.ref x0), some (.int x1), some (.int (0 : Int32)), some (.int (0 : Int32))]) (by decide) rfl dX0_gapSum_3 ?_
  exact go_subL (L' := [some (.ref x0), some (.int x1), some (.int (0 : Int32)), some (.int (0 : Int32))]) (by simp [subL, va_rf]) (oX0_gapSum_4 hd hs hk)
theorem oX0_gapSum {d : Nat} (hd : 1 ≤ d) {h : Hp} {x0 : Nat} {x1 : Int32} {y : Int32} (hs : fX0_gapSum h x0 x1 = some y) : Call d mX0_gapSum [.ref x0, .int x1] h (some (.int y)) h := call_of (by decide +kernel) (Nat.le_of_ble_eq_true rfl) (show Go d mX0_gapSum 0 [some (.ref x0), some (.int x1), none, none] [] h _ _ from go_subL (by simp [subL]) (oX0_gapSum_0 hd hs ⟨rfl, rfl⟩))
abbrev kX0_widestGap (h : Hp) (rf : Option Value) (hf : Hp) : Int32 → Prop := fun y => rf = some (.int y) ∧ hf = h
abbrev pX0_widestGap_4 (d : Nat) (h : Hp) (x0 : Nat) (x1 : Int32) (rf : Option Value) (hf : Hp) : (Int32 × Int32) → Prop := fun s => Go d mX0_widestGap 4 [some (.ref x0), some (.int x1), some (.int s.1), some (.int s.2)] [] h rf hf
noncomputable def fX0_widestGap_4b (h : Hp) (x0 : Nat) (x1 : Int32) (x2 : Int32) (x3 : Int32) : Option ((Int32 × Int32) ⊕ Int32) :=
  (gI h 0 x0 0).bind fun v1 =>
  if v1 ≤ x3 then (
    some (.inr x2)) else (
    (fX11_digit h x1 x3).bind fun y2 =>
    some (.inl ((imax x2 y2), (x3 + Int32.ofInt 1))))
noncomputable def fX0_widestGap_4 (h : Hp) (x0 : Nat) (x1 : Int32) (x2 : Int32) (x3 : Int32) : Option Int32 := lpw (σ := (Int32 × Int32)) (fun s => fX0_widestGap_4b h x0 x1 s.1 s.2) (x2, x3)
theorem oX0_widestGap_4b {d : Nat} (hd : 1 ≤ d) {h : Hp} {x0 : Nat} {x1 : Int32} {x2 : Int32} {x3 : Int32} {rf : Option Value} {hf : Hp} {x : ((Int32 × Int32) ⊕ Int32)} (hs : fX0_widestGap_4b h x0 x1 x2 x3 = some x) (hk : (Kx (pX0_widestGap_4 d h x0 x1 rf hf) (kX0_widestGap h rf hf)) x) : Go d mX0_widestGap 4 [some (.ref x0), some (.int x1), some (.int x2), some (.int x3)] [] h rf hf := by
  unfold fX0_widestGap_4b at hs
  refine go_iload_n (k4 := 3) rfl dX0_widestGap_4 ?_
  refine go_aload_n (k4 := 0) rfl (Or.inr ⟨_, rfl⟩) dX0_widestGap_5 ?_
  obtain ⟨v1, ev1, hs⟩ := bindS hs
  refine go_gI fl_RX0_21 ev1 dX0_widestGap_6 ?_
  refine go_icmp_ge (tgt := 28) (by decide) dX0_widestGap_9 (fun c => ?_) (fun c => ?_)
  · have hs := if_t c hs
    refine go_iload_n (k4 := 2) rfl dX0_widestGap_28 ?_
    obtain rfl := Option.some.inj hs
    obtain ⟨rfl, rfl⟩ := hk
    exact go_iret rfl dX0_widestGap_29
  · have hs := if_f c hs
    refine go_iload_n (k4 := 2) rfl dX0_widestGap_12 ?_
    refine go_iload_n (k4 := 1) rfl dX0_widestGap_13 ?_
    refine go_iload_n (k4 := 3) rfl dX0_widestGap_14 ?_
    obtain ⟨y2, ey2, hs⟩ := bindS hs
    refine go_SN1 (As := [.int x1, .int x3]) (st := [.int x2]) (oX11_digit (d := d - 1) (by omega) ey2) (by omega) mb_X11_digit lm_RX0_87 ms_X11_digit (Nat.le_of_ble_eq_true rfl) rfl dX0_widestGap_15 ?_
    refine go_mmax lx_RX0_74.1 lx_RX0_74.2.1 lx_RX0_74.2.2.1 lx_RX0_74.2.2.2 (by omega) (Nat.le_of_ble_eq_true rfl) dX0_widestGap_18 ?_
    refine go_istore_n (k4 := 2) (L' := [some (.ref x0), some (.int x1), some (.int (imax x2 y2)), some (.int x3)]) (by decide) rfl dX0_widestGap_21 ?_
    refine go_iinc (L' := [some (.ref x0), some (.int x1), some (.int (imax x2 y2)), some (.int (x3 + Int32.ofInt 1))]) rfl (by decide) rfl rfl dX0_widestGap_22 ?_
    refine go_at 25 rfl ?_
    refine go_goto (tgt := 4) (by decide) dX0_widestGap_25 ?_
    obtain rfl := Option.some.inj hs
    exact go_subL (L' := [some (.ref x0), some (.int x1), some (.int (imax x2 y2)), some (.int (x3 + Int32.ofInt 1))]) (by simp [subL, va_rf]) hk
theorem oX0_widestGap_4 {d : Nat} (hd : 1 ≤ d) {h : Hp} {x0 : Nat} {x1 : Int32} {x2 : Int32} {x3 : Int32} {rf : Option Value} {hf : Hp} {x : Int32} (hs : fX0_widestGap_4 h x0 x1 x2 x3 = some x) (hk : (kX0_widestGap h rf hf) x) : Go d mX0_widestGap 4 [some (.ref x0), some (.int x1), some (.int x2), some (.int x3)] [] h rf hf := by
  unfold fX0_widestGap_4 at hs
  exact lpw_go (P := pX0_widestGap_4 d h x0 x1 rf hf) (fun s x hs hk => oX0_widestGap_4b hd hs hk) (x2, x3) x hs hk
noncomputable def fX0_widestGap (h : Hp) (x0 : Nat) (x1 : Int32) : Option Int32 :=
  fX0_widestGap_4 h x0 x1 (0 : Int32) (0 : Int32)
theorem oX0_widestGap_0 {d : Nat} (hd : 1 ≤ d) {h : Hp} {x0 : Nat} {x1 : Int32} {rf : Option Value} {hf : Hp} {x : Int32} (hs : fX0_widestGap h x0 x1 = some x) (hk : (kX0_widestGap h rf hf) x) : Go d mX0_widestGap 0 [some (.ref x0), some (.int x1), none, none] [] h rf hf := by
  unfold fX0_widestGap at hs
  refine go_iconst (v := 0) (by decide) dX0_widestGap_0 ?_
  refine go_istore_n (k4 := 2) (L' := [some (.ref x0), some (.int x1), some (.int (0 : Int32)), none]) (by decide) rfl dX0_widestGap_1 ?_
  refine go_iconst (v := 0) (by decide) dX0_widestGap_2 ?_
  refine go_istore_n (k4 := 3) (L' := [some (.ref x0), some (.int x1), some (.int (0 : Int32)), some (.int (0 : Int32))]) (by decide) rfl dX0_widestGap_3 ?_
  exact go_subL (L' := [some (.ref x0), some (.int x1), some (.int (0 : Int32)), some (.int (0 : Int32))]) (by simp [subL, va_rf]) (oX0_widestGap_4 hd hs hk)
theorem oX0_widestGap {d : Nat} (hd : 1 ≤ d) {h : Hp} {x0 : Nat} {x1 : Int32} {y : Int32} (hs : fX0_widestGap h x0 x1 = some y) : Call d mX0_widestGap [.ref x0, .int x1] h (some (.int y)) h := call_of (by decide +kernel) (Nat.le_of_ble_eq_true rfl) (show Go d mX0_widestGap 0 [some (.ref x0), some (.int x1), none, none] [] h _ _ from go_subL (by simp [subL]) (oX0_widestGap_0 hd hs ⟨rfl, rfl⟩))
abbrev kX1_collapses (rf : Option Value) (hf : Hp) : (Int32 × Hp) → Prop := fun y => rf = some (.int y.1) ∧ hf = y.2
noncomputable def fX1_collapses_33 (h : Hp)  : Option (Int32 × Hp) :=
  some (((0 : Int32), h))
theorem oX1_collapses_33 {d : Nat} (hd : 2 ≤ d) {h : Hp} {rf : Option Value} {hf : Hp} {x : (Int32 × Hp)} (hs : fX1_collapses_33 h  = some x) (hk : (kX1_collapses rf hf) x) : Go d mX1_collapses 33 [none, none, none, none] [] h rf hf := by
  unfold fX1_collapses_33 at hs
  refine go_iconst (v := 0) (by decide) dX1_collapses_33 ?_
  obtain rfl := Option.some.inj hs
  obtain ⟨rfl, rfl⟩ := hk
  exact go_zret (ty := .boolean) rfl rfl dX1_collapses_34
noncomputable def fX1_collapses_141 (h : Hp) (s0 : Int32) : Option (Int32 × Hp) :=
  bl s0 (some ((s0, h)))
theorem oX1_collapses_141 {d : Nat} (hd : 2 ≤ d) {h : Hp} {s0 : Int32} {rf : Option Value} {hf : Hp} {x : (Int32 × Hp)} (hs : fX1_collapses_141 h s0 = some x) (hk : (kX1_collapses rf hf) x) : Go d mX1_collapses 141 [none, none, none, none] [.int s0] h rf hf := by
  unfold fX1_collapses_141 at hs
  obtain ⟨n1, n2, hs⟩ := bl_at hs
  obtain rfl := Option.some.inj hs
  obtain ⟨rfl, rfl⟩ := hk
  exact go_zret (ty := .boolean) rfl n1 dX1_collapses_141
noncomputable def fX1_collapses_126 (h : Hp) (x0 : Nat) (x3 : Int32) : Option (Int32 × Hp) :=
  (gN h 1 x0 3).bind fun v8 =>
  (aI 1 h v8 x3).bind fun v9 =>
  if v9 = (1 : Int32) then (
    fX1_collapses_141 h (1 : Int32)) else (
    fX1_collapses_141 h (0 : Int32))
theorem oX1_collapses_126 {d : Nat} (hd : 2 ≤ d) {h : Hp} {x0 : Nat} {x3 : Int32} {rf : Option Value} {hf : Hp} {x : (Int32 × Hp)} (hs : fX1_collapses_126 h x0 x3 = some x) (hk : (kX1_collapses rf hf) x) : Go d mX1_collapses 126 [some (.ref x0), none, none, some (.int x3)] [] h rf hf := by
  unfold fX1_collapses_126 at hs
  refine go_aload_n (k4 := 0) rfl (Or.inr ⟨_, rfl⟩) dX1_collapses_126 ?_
  obtain ⟨v8, ev8, hs⟩ := bindS hs
  refine go_gN fl_RX1_24 ev8 dX1_collapses_127 ?_
  refine go_iload_n (k4 := 3) rfl dX1_collapses_130 ?_
  obtain ⟨v9, ev9, hs⟩ := bindS hs
  refine go_aIb ev9 dX1_collapses_131 ?_
  refine go_iconst (v := 1) (by decide) dX1_collapses_132 ?_
  refine go_icmp_ne (tgt := 140) (by decide) dX1_collapses_133 (fun c => ?_) (fun c => ?_)
  · have hs := if_f c hs
    refine go_iconst (v := 0) (by decide) dX1_collapses_140 ?_
    exact go_subL (L' := [none, none, none, none]) (by simp [subL, va_rf]) (oX1_collapses_141 hd hs hk)
  · have hs := if_t c hs
    refine go_iconst (v := 1) (by decide) dX1_collapses_136 ?_
    refine go_goto (tgt := 141) (by decide) dX1_collapses_137 ?_
    exact go_subL (L' := [none, none, none, none]) (by simp [subL, va_rf]) (oX1_collapses_141 hd hs hk)
noncomputable def fX1_collapses_124 (h : Hp) (x0 : Nat) (x3 : Int32) (s0 : Nat) (s1 : Int32) (s2 : Int32) : Option (Int32 × Hp) :=
  (wI 1 h s0 s1 (s2.toInt8.toInt32)).bind fun h35 =>
  fX1_collapses_126 h35 x0 x3
theorem oX1_collapses_124 {d : Nat} (hd : 2 ≤ d) {h : Hp} {x0 : Nat} {x3 : Int32} {s0 : Nat} {s1 : Int32} {s2 : Int32} {rf : Option Value} {hf : Hp} {x : (Int32 × Hp)} (hs : fX1_collapses_124 h x0 x3 s0 s1 s2 = some x) (hk : (kX1_collapses rf hf) x) : Go d mX1_collapses 124 [some (.ref x0), none, none, some (.int x3)] [.int s2, .int s1, .ref s0] h rf hf := by
  unfold fX1_collapses_124 at hs
  refine go_i2b dX1_collapses_124 ?_
  obtain ⟨h35, eh35, hs⟩ := bindS hs
  refine go_wIb eh35 dX1_collapses_125 ?_
  exact go_subL (L' := [some (.ref x0), none, none, some (.int x3)]) (by simp [subL, va_rf]) (oX1_collapses_126 hd hs hk)
noncomputable def fX1_collapses (h : Hp) (x0 : Nat) (x1 : Int32) (x2 : Int32) : Option (Int32 × Hp) :=
  (gN h 1 x0 5).bind fun v1 =>
  (gR h 0 v1 8).bind fun v2 =>
  match v2 with
  | none => (
    some (((0 : Int32), h)))
  | some n3 => (
    if (x1 + (x2 * (10000 : Int32))) < 0 then (
    fX1_collapses_33 h ) else (
      (gN h 1 x0 3).bind fun v4 =>
      (aL h v4).bind fun v5 =>
      if (x1 + (x2 * (10000 : Int32))) < v5 then (
        (gN h 1 x0 3).bind fun v6 =>
        (aI 1 h v6 (x1 + (x2 * (10000 : Int32)))).bind fun v7 =>
        if v7 = 0 then (
          (gN h 1 x0 5).bind fun v10 =>
          gO h 0 v10 (
          (fX0_metCount h v10 x1).bind fun y11 =>
          gO h 1 x0 (
          (fX1_know h x0 (-1 : Int32) y11).bind fun y13 =>
          gO y13 1 x0 (
          (fX1_know y13 x0 (-2 : Int32) x2).bind fun y15 =>
          (gN y15 1 x0 5).bind fun v17 =>
          gO y15 0 v17 (
          (fX0_gapSum y15 v17 x1).bind fun y18 =>
          gO y15 1 x0 (
          (fX1_know y15 x0 (-7 : Int32) y18).bind fun y20 =>
          (gN y20 1 x0 5).bind fun v22 =>
          gO y20 0 v22 (
          (fX0_widestGap y20 v22 x1).bind fun y23 =>
          gO y20 1 x0 (
          (fX1_know y20 x0 (-8 : Int32) y23).bind fun y25 =>
          (gN y25 1 x0 3).bind fun v27 =>
          (gN y25 1 x0 5).bind fun v28 =>
          (gR y25 0 v28 8).bind fun v29 =>
          (gN y25 1 x0 0).bind fun v30 =>
          (gN y25 1 x0 1).bind fun v31 =>
          (v29).bind fun n32 =>
          gO y25 3 n32 (
          (fX3_tell y25 n32 v30 v31).bind fun y33 =>
          if y33.1 = (1 : Int32) then (
            fX1_collapses_124 y33.2 x0 (x1 + (x2 * (10000 : Int32))) v27 (x1 + (x2 * (10000 : Int32))) (1 : Int32)) else (
            fX1_collapses_124 y33.2 x0 (x1 + (x2 * (10000 : Int32))) v27 (x1 + (x2 * (10000 : Int32))) (-1 : Int32))))))))))) else (
        fX1_collapses_126 h x0 (x1 + (x2 * (10000 : Int32))))) else (
      fX1_collapses_33 h )))
theorem oX1_collapses_0 {d : Nat} (hd : 2 ≤ d) {h : Hp} {x0 : Nat} {x1 : Int32} {x2 : Int32} {rf : Option Value} {hf : Hp} {x : (Int32 × Hp)} (hs : fX1_collapses h x0 x1 x2 = some x) (hk : (kX1_collapses rf hf) x) : Go d mX1_collapses 0 [some (.ref x0), some (.int x1), some (.int x2), none] [] h rf hf := by
  unfold fX1_collapses at hs
  refine go_aload_n (k4 := 0) rfl (Or.inr ⟨_, rfl⟩) dX1_collapses_0 ?_
  obtain ⟨v1, ev1, hs⟩ := bindS hs
  refine go_gN fl_RX1_34 ev1 dX1_collapses_1 ?_
  obtain ⟨v2, ev2, hs⟩ := bindS hs
  refine go_gR fl_RX1_38 ev2 dX1_collapses_4 ?_
  cases v2 with
  | none =>
    dsimp only at hs
    refine go_ifnonnull (o := none) (tgt := 12) (by decide) dX1_collapses_7 (fun c => absurd rfl c) (fun _ => ?_)
    refine go_iconst (v := 0) (by decide) dX1_collapses_10 ?_
    obtain rfl := Option.some.inj hs
    obtain ⟨rfl, rfl⟩ := hk
    exact go_zret (ty := .boolean) rfl rfl dX1_collapses_11
  | some n3 =>
    dsimp only at hs
    refine go_ifnonnull (o := some n3) (tgt := 12) (by decide) dX1_collapses_7 (fun _ => ?_) (fun c => by cases c)
    refine go_iload_n (k4 := 1) rfl dX1_collapses_12 ?_
    refine go_iload_n (k4 := 2) rfl dX1_collapses_13 ?_
    refine go_sipush (v := 10000) (by decide) dX1_collapses_14 ?_
    refine go_imul dX1_collapses_17 ?_
    refine go_iadd dX1_collapses_18 ?_
    refine go_istore_n (k4 := 3) (L' := [some (.ref x0), some (.int x1), some (.int x2), some (.int (x1 + (x2 * (10000 : Int32))))]) (by decide) rfl dX1_collapses_19 ?_
    refine go_iload_n (k4 := 3) rfl dX1_collapses_20 ?_
    refine go_at 21 rfl ?_
    refine go_if_lt (tgt := 33) (by decide) dX1_collapses_21 (fun c => ?_) (fun c => ?_)
    · have hs := if_t c hs
      exact go_subL (L' := [none, none, none, none]) (by simp [subL, va_rf]) (oX1_collapses_33 hd hs hk)
    · have hs := if_f c hs
      refine go_iload_n (k4 := 3) rfl dX1_collapses_24 ?_
      refine go_aload_n (k4 := 0) rfl (Or.inr ⟨_, rfl⟩) dX1_collapses_25 ?_
      obtain ⟨v4, ev4, hs⟩ := bindS hs
      refine go_gN fl_RX1_24 ev4 dX1_collapses_26 ?_
      obtain ⟨v5, ev5, hs⟩ := bindS hs
      refine go_aL ev5 dX1_collapses_29 ?_
      refine go_icmp_lt (tgt := 35) (by decide) dX1_collapses_30 (fun c => ?_) (fun c => ?_)
      · have hs := if_t c hs
        refine go_aload_n (k4 := 0) rfl (Or.inr ⟨_, rfl⟩) dX1_collapses_35 ?_
        obtain ⟨v6, ev6, hs⟩ := bindS hs
        refine go_gN fl_RX1_24 ev6 dX1_collapses_36 ?_
        refine go_iload_n (k4 := 3) rfl dX1_collapses_39 ?_
        obtain ⟨v7, ev7, hs⟩ := bindS hs
        refine go_aIb ev7 dX1_collapses_40 ?_
        refine go_if_ne (tgt := 126) (by decide) dX1_collapses_41 (fun c => ?_) (fun c => ?_)
        · have hs := if_f c hs
          exact go_subL (L' := [some (.ref x0), none, none, some (.int (x1 + (x2 * (10000 : Int32))))]) (by simp [subL, va_rf]) (oX1_collapses_126 hd hs hk)
        · have hs := if_t c hs
          refine go_aload_n (k4 := 0) rfl (Or.inr ⟨_, rfl⟩) dX1_collapses_44 ?_
          refine go_iconst (v := -1) (by decide) dX1_collapses_45 ?_
          refine go_aload_n (k4 := 0) rfl (Or.inr ⟨_, rfl⟩) dX1_collapses_46 ?_
          obtain ⟨v10, ev10, hs⟩ := bindS hs
          refine go_gN fl_RX1_34 ev10 dX1_collapses_47 ?_
          refine go_iload_n (k4 := 1) rfl dX1_collapses_50 ?_
          obtain ⟨g12, hs⟩ := gO_at hs
          obtain ⟨y11, ey11, hs⟩ := bindS hs
          refine go_V1 (As := [.int x1]) (st := [.int (-1 : Int32), .ref x0]) g12 rfl rfl (oX0_metCount (d := d - 1) (by omega) ey11) (by omega) mb_X0_metCount lm_RX1_77 mi_X0_metCount (Nat.le_of_ble_eq_true rfl) rfl dX1_collapses_51 ?_
          obtain ⟨g14, hs⟩ := gO_at hs
          obtain ⟨y13, ey13, hs⟩ := bindS hs
          refine go_V0 (As := [.int (-1 : Int32), .int y11]) (st := []) g14 rfl rfl (oX1_know (d := d - 1) (by omega) ey13) (by omega) mb_X1_know lm_RX1_53 mi_X1_know (Nat.le_of_ble_eq_true rfl) rfl dX1_collapses_54 ?_
          refine go_at 57 rfl ?_
          refine go_aload_n (k4 := 0) rfl (Or.inr ⟨_, rfl⟩) dX1_collapses_57 ?_
          refine go_bipush (v := -2) (by decide) dX1_collapses_58 ?_
          refine go_iload_n (k4 := 2) rfl dX1_collapses_60 ?_
          obtain ⟨g16, hs⟩ := gO_at hs
          obtain ⟨y15, ey15, hs⟩ := bindS hs
          refine go_V0 (As := [.int (-2 : Int32), .int x2]) (st := []) g16 rfl rfl (oX1_know (d := d - 1) (by omega) ey15) (by omega) mb_X1_know lm_RX1_53 mi_X1_know (Nat.le_of_ble_eq_true rfl) rfl dX1_collapses_61 ?_
          refine go_aload_n (k4 := 0) rfl (Or.inr ⟨_, rfl⟩) dX1_collapses_64 ?_
          refine go_bipush (v := -7) (by decide) dX1_collapses_65 ?_
          refine go_aload_n (k4 := 0) rfl (Or.inr ⟨_, rfl⟩) dX1_collapses_67 ?_
          obtain ⟨v17, ev17, hs⟩ := bindS hs
          refine go_gN fl_RX1_34 ev17 dX1_collapses_68 ?_
          refine go_at 71 rfl ?_
          refine go_iload_n (k4 := 1) rfl dX1_collapses_71 ?_
          obtain ⟨g19, hs⟩ := gO_at hs
          obtain ⟨y18, ey18, hs⟩ := bindS hs
          refine go_V1 (As := [.int x1]) (st := [.int (-7 : Int32), .ref x0]) g19 rfl rfl (oX0_gapSum (d := d - 1) (by omega) ey18) (by omega) mb_X0_gapSum lm_RX1_80 mi_X0_gapSum (Nat.le_of_ble_eq_true rfl) rfl dX1_collapses_72 ?_
          obtain ⟨g21, hs⟩ := gO_at hs
          obtain ⟨y20, ey20, hs⟩ := bindS hs
          refine go_V0 (As := [.int (-7 : Int32), .int y18]) (st := []) g21 rfl rfl (oX1_know (d := d - 1) (by omega) ey20) (by omega) mb_X1_know lm_RX1_53 mi_X1_know (Nat.le_of_ble_eq_true rfl) rfl dX1_collapses_75 ?_
          refine go_aload_n (k4 := 0) rfl (Or.inr ⟨_, rfl⟩) dX1_collapses_78 ?_
          refine go_bipush (v := -8) (by decide) dX1_collapses_79 ?_
          refine go_aload_n (k4 := 0) rfl (Or.inr ⟨_, rfl⟩) dX1_collapses_81 ?_
          obtain ⟨v22, ev22, hs⟩ := bindS hs
          refine go_gN fl_RX1_34 ev22 dX1_collapses_82 ?_
          refine go_iload_n (k4 := 1) rfl dX1_collapses_85 ?_
          refine go_at 86 rfl ?_
          obtain ⟨g24, hs⟩ := gO_at hs
          obtain ⟨y23, ey23, hs⟩ := bindS hs
          refine go_V1 (As := [.int x1]) (st := [.int (-8 : Int32), .ref x0]) g24 rfl rfl (oX0_widestGap (d := d - 1) (by omega) ey23) (by omega) mb_X0_widestGap lm_RX1_83 mi_X0_widestGap (Nat.le_of_ble_eq_true rfl) rfl dX1_collapses_86 ?_
          obtain ⟨g26, hs⟩ := gO_at hs
          obtain ⟨y25, ey25, hs⟩ := bindS hs
          refine go_V0 (As := [.int (-8 : Int32), .int y23]) (st := []) g26 rfl rfl (oX1_know (d := d - 1) (by omega) ey25) (by omega) mb_X1_know lm_RX1_53 mi_X1_know (Nat.le_of_ble_eq_true rfl) rfl dX1_collapses_89 ?_
          refine go_aload_n (k4 := 0) rfl (Or.inr ⟨_, rfl⟩) dX1_collapses_92 ?_
          obtain ⟨v27, ev27, hs⟩ := bindS hs
          refine go_gN fl_RX1_24 ev27 dX1_collapses_93 ?_
          refine go_iload_n (k4 := 3) rfl dX1_collapses_96 ?_
          refine go_aload_n (k4 := 0) rfl (Or.inr ⟨_, rfl⟩) dX1_collapses_97 ?_
          obtain ⟨v28, ev28, hs⟩ := bindS hs
          refine go_gN fl_RX1_34 ev28 dX1_collapses_98 ?_
          obtain ⟨v29, ev29, hs⟩ := bindS hs
          refine go_gR fl_RX1_38 ev29 dX1_collapses_101 ?_
          refine go_at 104 rfl ?_
          refine go_aload_n (k4 := 0) rfl (Or.inr ⟨_, rfl⟩) dX1_collapses_104 ?_
          obtain ⟨v30, ev30, hs⟩ := bindS hs
          refine go_gN fl_RX1_11 ev30 dX1_collapses_105 ?_
          refine go_aload_n (k4 := 0) rfl (Or.inr ⟨_, rfl⟩) dX1_collapses_108 ?_
          obtain ⟨v31, ev31, hs⟩ := bindS hs
          refine go_gN fl_RX1_17 ev31 dX1_collapses_109 ?_
          obtain ⟨n32, en32, hs⟩ := bindS hs
          rw [en32]
          obtain ⟨g34, hs⟩ := gO_at hs
          obtain ⟨y33, ey33, hs⟩ := bindS hs
          refine go_V1 (As := [.ref v30, .ref v31]) (st := [.int (x1 + (x2 * (10000 : Int32))), .ref v27]) g34 rfl rfl (oX3_tell (d := d - 1) (by omega) ey33) (by omega) mb_X3_tell lm_RX1_61 mi_X3_tell (Nat.le_of_ble_eq_true rfl) rfl dX1_collapses_112 ?_
          refine go_iconst (v := 1) (by decide) dX1_collapses_115 ?_
          refine go_icmp_ne (tgt := 123) (by decide) dX1_collapses_116 (fun c => ?_) (fun c => ?_)
          · have hs := if_f c hs
            refine go_iconst (v := -1) (by decide) dX1_collapses_123 ?_
            exact go_subL (L' := [some (.ref x0), none, none, some (.int (x1 + (x2 * (10000 : Int32))))]) (by simp [subL, va_rf]) (oX1_collapses_124 hd hs hk)
          · have hs := if_t c hs
            refine go_iconst (v := 1) (by decide) dX1_collapses_119 ?_
            refine go_goto (tgt := 124) (by decide) dX1_collapses_120 ?_
            exact go_subL (L' := [some (.ref x0), none, none, some (.int (x1 + (x2 * (10000 : Int32))))]) (by simp [subL, va_rf]) (oX1_collapses_124 hd hs hk)
      · have hs := if_f c hs
        exact go_subL (L' := [none, none, none, none]) (by simp [subL, va_rf]) (oX1_collapses_33 hd hs hk)
theorem oX1_collapses {d : Nat} (hd : 2 ≤ d) {h : Hp} {x0 : Nat} {x1 : Int32} {x2 : Int32} {y : (Int32 × Hp)} (hs : fX1_collapses h x0 x1 x2 = some y) : Call d mX1_collapses [.ref x0, .int x1, .int x2] h (some (.int y.1)) (y.2) := call_of (by decide +kernel) (Nat.le_of_ble_eq_true rfl) (show Go d mX1_collapses 0 [some (.ref x0), some (.int x1), some (.int x2), none] [] h _ _ from go_subL (by simp [subL]) (oX1_collapses_0 hd hs ⟨rfl, rfl⟩))
abbrev kX1_after (rf : Option Value) (hf : Hp) : (Int32 × Hp) → Prop := fun y => rf = some (.int y.1) ∧ hf = y.2
abbrev pX1_after_25 (d : Nat) (x0 : Nat) (x1 : Int32) (x2 : Int32) (x3 : Int32) (x4 : Int32) (rf : Option Value) (hf : Hp) : (Int32 × Int32 × Hp) → Prop := fun s => Go d mX1_after 25 [some (.ref x0), some (.int x1), some (.int x2), some (.int x3), some (.int x4), some (.int s.1), some (.int s.2.1), none] [] s.2.2 rf hf
noncomputable def fX1_after_112 (h : Hp) (s0 : Int32) : Option (Int32 × Hp) :=
  some ((s0, h))
theorem oX1_after_112 {d : Nat} (hd : 3 ≤ d) {h : Hp} {s0 : Int32} {rf : Option Value} {hf : Hp} {x : (Int32 × Hp)} (hs : fX1_after_112 h s0 = some x) (hk : (kX1_after rf hf) x) : Go d mX1_after 112 [none, none, none, none, none, none, none, none] [.int s0] h rf hf := by
  unfold fX1_after_112 at hs
  obtain rfl := Option.some.inj hs
  obtain ⟨rfl, rfl⟩ := hk
  exact go_iret rfl dX1_after_112
noncomputable def fX1_after_91 (h : Hp) (x0 : Nat) (x3 : Int32) (x5 : Int32) : Option (Int32 × Hp) :=
  gO h 1 x0 (
  (fX1_collapses h x0 x5 x3).bind fun y6 =>
  if y6.1 = 0 then (
    fX1_after_112 y6.2 x5) else (
    fX1_after_112 y6.2 (x5 + (10000 : Int32))))
theorem oX1_after_91 {d : Nat} (hd : 3 ≤ d) {h : Hp} {x0 : Nat} {x3 : Int32} {x5 : Int32} {rf : Option Value} {hf : Hp} {x : (Int32 × Hp)} (hs : fX1_after_91 h x0 x3 x5 = some x) (hk : (kX1_after rf hf) x) : Go d mX1_after 91 [some (.ref x0), none, none, some (.int x3), none, some (.int x5), none, none] [] h rf hf := by
  unfold fX1_after_91 at hs
  refine go_aload_n (k4 := 0) rfl (Or.inr ⟨_, rfl⟩) dX1_after_91 ?_
  refine go_iload rfl dX1_after_92 ?_
  refine go_iload_n (k4 := 3) rfl dX1_after_94 ?_
  obtain ⟨g7, hs⟩ := gO_at hs
  obtain ⟨y6, ey6, hs⟩ := bindS hs
  refine go_V1 (As := [.int x5, .int x3]) (st := []) g7 rfl rfl (oX1_collapses (d := d - 1) (by omega) ey6) (by omega) mb_X1_collapses lm_RX1_102 mi_X1_collapses (Nat.le_of_ble_eq_true rfl) rfl dX1_after_95 ?_
  refine go_if_eq (tgt := 110) (by decide) dX1_after_98 (fun c => ?_) (fun c => ?_)
  · have hs := if_t c hs
    refine go_iload rfl dX1_after_110 ?_
    exact go_subL (L' := [none, none, none, none, none, none, none, none]) (by simp [subL, va_rf]) (oX1_after_112 hd hs hk)
  · have hs := if_f c hs
    refine go_iload rfl dX1_after_101 ?_
    refine go_sipush (v := 10000) (by decide) dX1_after_103 ?_
    refine go_iadd dX1_after_106 ?_
    refine go_goto (tgt := 112) (by decide) dX1_after_107 ?_
    exact go_subL (L' := [none, none, none, none, none, none, none, none]) (by simp [subL, va_rf]) (oX1_after_112 hd hs hk)
noncomputable def fX1_after_85 (h : Hp) (x0 : Nat) (x1 : Int32) (x2 : Int32) (x3 : Int32) (x4 : Int32) (x5 : Int32) (x6 : Int32) : Option ((Int32 × Int32 × Hp) ⊕ (Int32 × Hp)) :=
  some (.inl (x5, (x6 + Int32.ofInt 1), h))
theorem oX1_after_85 {d : Nat} (hd : 3 ≤ d) {h : Hp} {x0 : Nat} {x1 : Int32} {x2 : Int32} {x3 : Int32} {x4 : Int32} {x5 : Int32} {x6 : Int32} {rf : Option Value} {hf : Hp} {x : ((Int32 × Int32 × Hp) ⊕ (Int32 × Hp))} (hs : fX1_after_85 h x0 x1 x2 x3 x4 x5 x6 = some x) (hk : (Kx (pX1_after_25 d x0 x1 x2 x3 x4 rf hf) (kX1_after rf hf)) x) : Go d mX1_after 85 [some (.ref x0), some (.int x1), some (.int x2), some (.int x3), some (.int x4), some (.int x5), some (.int x6), none] [] h rf hf := by
  unfold fX1_after_85 at hs
  refine go_iinc (L' := [some (.ref x0), some (.int x1), some (.int x2), some (.int x3), some (.int x4), some (.int x5), some (.int (x6 + Int32.ofInt 1)), none]) rfl (by decide) rfl rfl dX1_after_85 ?_
  refine go_goto (tgt := 25) (by decide) dX1_after_88 ?_
  obtain rfl := Option.some.inj hs
  exact go_subL (L' := [some (.ref x0), some (.int x1), some (.int x2), some (.int x3), some (.int x4), some (.int x5), some (.int (x6 + Int32.ofInt 1)), none]) (by simp [subL, va_rf]) hk
noncomputable def fX1_after_25b (h : Hp) (x0 : Nat) (x1 : Int32) (x2 : Int32) (x3 : Int32) (x4 : Int32) (x5 : Int32) (x6 : Int32) : Option ((Int32 × Int32 × Hp) ⊕ (Int32 × Hp)) :=
  (gN h 1 x0 5).bind fun v4 =>
  (gI h 0 v4 0).bind fun v5 =>
  if v5 ≤ x6 then (
  (fX1_after_91 h x0 x3 x5).map (fun q => .inr q)) else (
    (fX11_digit h x1 x6).bind fun y8 =>
    if y8 ≤ 0 then (
    fX1_after_85 h x0 x1 x2 x3 x4 x5 x6) else (
      (fX11_dropsOf h x2 x6).bind fun y9 =>
      gO h 1 x0 (
      (fX1_growth h x0 x6 y9 y8 x4 x3).bind fun y10 =>
      (fX1_kept y10.2 (y8 - y10.1)).bind fun y12 =>
      (tT 1 x6).bind fun v13 =>
      fX1_after_85 y10.2 x0 x1 x2 x3 x4 (x5 + (y12 * v13)) x6)))
noncomputable def fX1_after_25 (h : Hp) (x0 : Nat) (x1 : Int32) (x2 : Int32) (x3 : Int32) (x4 : Int32) (x5 : Int32) (x6 : Int32) : Option (Int32 × Hp) := lpw (σ := (Int32 × Int32 × Hp)) (fun s => fX1_after_25b s.2.2 x0 x1 x2 x3 x4 s.1 s.2.1) (x5, x6, h)
theorem oX1_after_25b {d : Nat} (hd : 3 ≤ d) {h : Hp} {x0 : Nat} {x1 : Int32} {x2 : Int32} {x3 : Int32} {x4 : Int32} {x5 : Int32} {x6 : Int32} {rf : Option Value} {hf : Hp} {x : ((Int32 × Int32 × Hp) ⊕ (Int32 × Hp))} (hs : fX1_after_25b h x0 x1 x2 x3 x4 x5 x6 = some x) (hk : (Kx (pX1_after_25 d x0 x1 x2 x3 x4 rf hf) (kX1_after rf hf)) x) : Go d mX1_after 25 [some (.ref x0), some (.int x1), some (.int x2), some (.int x3), some (.int x4), some (.int x5), some (.int x6), none] [] h rf hf := by
  unfold fX1_after_25b at hs
  refine go_iload rfl dX1_after_25 ?_
  refine go_aload_n (k4 := 0) rfl (Or.inr ⟨_, rfl⟩) dX1_after_27 ?_
  obtain ⟨v4, ev4, hs⟩ := bindS hs
  refine go_gN fl_RX1_34 ev4 dX1_after_28 ?_
  obtain ⟨v5, ev5, hs⟩ := bindS hs
  refine go_gI fl_RX1_86 ev5 dX1_after_31 ?_
  refine go_icmp_ge (tgt := 91) (by decide) dX1_after_34 (fun c => ?_) (fun c => ?_)
  · have hs := if_t c hs
    obtain ⟨q, hs2, hq⟩ := mapS hs
    clear hs
    subst hq
    exact go_subL (L' := [some (.ref x0), none, none, some (.int x3), none, some (.int x5), none, none]) (by simp [subL, va_rf]) (oX1_after_91 hd hs2 hk)
  · have hs := if_f c hs
    refine go_iload_n (k4 := 1) rfl dX1_after_37 ?_
    refine go_iload rfl dX1_after_38 ?_
    obtain ⟨y8, ey8, hs⟩ := bindS hs
    refine go_SN1 (As := [.int x1, .int x6]) (st := []) (oX11_digit (d := d - 1) (by omega) ey8) (by omega) mb_X11_digit lm_RX1_57 ms_X11_digit (Nat.le_of_ble_eq_true rfl) rfl dX1_after_40 ?_
    refine go_istore (L' := [some (.ref x0), some (.int x1), some (.int x2), some (.int x3), some (.int x4), some (.int x5), some (.int x6), some (.int y8)]) (by decide) rfl dX1_after_43 ?_
    refine go_iload rfl dX1_after_45 ?_
    refine go_if_le (tgt := 85) (by decide) dX1_after_47 (fun c => ?_) (fun c => ?_)
    · have hs := if_t c hs
      exact go_subL (L' := [some (.ref x0), some (.int x1), some (.int x2), some (.int x3), some (.int x4), some (.int x5), some (.int x6), none]) (by simp [subL, va_rf]) (oX1_after_85 hd hs hk)
    · have hs := if_f c hs
      refine go_iload rfl dX1_after_50 ?_
      refine go_iload rfl dX1_after_52 ?_
      refine go_aload_n (k4 := 0) rfl (Or.inr ⟨_, rfl⟩) dX1_after_54 ?_
      refine go_iload rfl dX1_after_55 ?_
      refine go_iload_n (k4 := 2) rfl dX1_after_57 ?_
      refine go_iload rfl dX1_after_58 ?_
      obtain ⟨y9, ey9, hs⟩ := bindS hs
      refine go_SN1 (As := [.int x2, .int x6]) (st := [.int x6, .ref x0, .int y8, .int x5]) (oX11_dropsOf (d := d - 1) (by omega) ey9) (by omega) mb_X11_dropsOf lm_RX1_89 ms_X11_dropsOf (Nat.le_of_ble_eq_true rfl) rfl dX1_after_60 ?_
      refine go_at 63 rfl ?_
      refine go_iload rfl dX1_after_63 ?_
      refine go_iload rfl dX1_after_65 ?_
      refine go_iload_n (k4 := 3) rfl dX1_after_67 ?_
      obtain ⟨g11, hs⟩ := gO_at hs
      obtain ⟨y10, ey10, hs⟩ := bindS hs
      refine go_V1 (As := [.int x6, .int y9, .int y8, .int x4, .int x3]) (st := [.int y8, .int x5]) g11 rfl rfl (oX1_growth (d := d - 1) (by omega) ey10) (by omega) mb_X1_growth lm_RX1_92 mi_X1_growth (Nat.le_of_ble_eq_true rfl) rfl dX1_after_68 ?_
      refine go_isub dX1_after_71 ?_
      obtain ⟨y12, ey12, hs⟩ := bindS hs
      refine go_S1 (As := [.int (y8 - y10.1)]) (st := [.int x5]) (oX1_kept (d := d - 1) (by omega) ey12) (by omega) mb_X1_kept lm_RX1_96 ms_X1_kept (Nat.le_of_ble_eq_true rfl) rfl dX1_after_72 ?_
      refine go_statN (j := 1) rfl lz_RX1_99.1 lz_RX1_99.2.1 lz_RX1_99.2.2 dX1_after_75 ?_
      refine go_iload rfl dX1_after_78 ?_
      refine go_at 80 rfl ?_
      obtain ⟨v13, ev13, hs⟩ := bindS hs
      refine go_tT (by decide) ev13 dX1_after_80 ?_
      refine go_imul dX1_after_81 ?_
      refine go_iadd dX1_after_82 ?_
      refine go_istore (L' := [some (.ref x0), some (.int x1), some (.int x2), some (.int x3), some (.int x4), some (.int (x5 + (y12 * v13))), some (.int x6), some (.int y8)]) (by decide) rfl dX1_after_83 ?_
      exact go_subL (L' := [some (.ref x0), some (.int x1), some (.int x2), some (.int x3), some (.int x4), some (.int (x5 + (y12 * v13))), some (.int x6), none]) (by simp [subL, va_rf]) (oX1_after_85 hd hs hk)
theorem oX1_after_25 {d : Nat} (hd : 3 ≤ d) {h : Hp} {x0 : Nat} {x1 : Int32} {x2 : Int32} {x3 : Int32} {x4 : Int32} {x5 : Int32} {x6 : Int32} {rf : Option Value} {hf : Hp} {x : (Int32 × Hp)} (hs : fX1_after_25 h x0 x1 x2 x3 x4 x5 x6 = some x) (hk : (kX1_after rf hf) x) : Go d mX1_after 25 [some (.ref x0), some (.int x1), some (.int x2), some (.int x3), some (.int x4), some (.int x5), some (.int x6), none] [] h rf hf := by
  unfold fX1_after_25 at hs
  exact lpw_go (P := pX1_after_25 d x0 x1 x2 x3 x4 rf hf) (fun s x hs hk => oX1_after_25b hd hs hk) (x5, x6, h) x hs hk
noncomputable def fX1_after (h : Hp) (x0 : Nat) (x1 : Int32) (x2 : Int32) (x3 : Int32) : Option (Int32 × Hp) :=
  if x1 < (10000 : Int32) then (
    (gN h 1 x0 5).bind fun v1 =>
    gO h 0 v1 (
    (fX0_metCount h v1 x1).bind fun y2 =>
    fX1_after_25 h x0 x1 x2 x3 y2 (0 : Int32) (0 : Int32))) else (
    some ((x1, h)))
theorem oX1_after_0 {d : Nat} (hd : 3 ≤ d) {h : Hp} {x0 : Nat} {x1 : Int32} {x2 : Int32} {x3 : Int32} {rf : Option Value} {hf : Hp} {x : (Int32 × Hp)} (hs : fX1_after h x0 x1 x2 x3 = some x) (hk : (kX1_after rf hf) x) : Go d mX1_after 0 [some (.ref x0), some (.int x1), some (.int x2), some (.int x3), none, none, none, none] [] h rf hf := by
  unfold fX1_after at hs
  refine go_iload_n (k4 := 1) rfl dX1_after_0 ?_
  refine go_sipush (v := 10000) (by decide) dX1_after_1 ?_
  refine go_icmp_lt (tgt := 9) (by decide) dX1_after_4 (fun c => ?_) (fun c => ?_)
  · have hs := if_t c hs
    refine go_aload_n (k4 := 0) rfl (Or.inr ⟨_, rfl⟩) dX1_after_9 ?_
    obtain ⟨v1, ev1, hs⟩ := bindS hs
    refine go_gN fl_RX1_34 ev1 dX1_after_10 ?_
    refine go_iload_n (k4 := 1) rfl dX1_after_13 ?_
    obtain ⟨g3, hs⟩ := gO_at hs
    obtain ⟨y2, ey2, hs⟩ := bindS hs
    refine go_V1 (As := [.int x1]) (st := []) g3 rfl rfl (oX0_metCount (d := d - 1) (by omega) ey2) (by omega) mb_X0_metCount lm_RX1_77 mi_X0_metCount (Nat.le_of_ble_eq_true rfl) rfl dX1_after_14 ?_
    refine go_istore (L' := [some (.ref x0), some (.int x1), some (.int x2), some (.int x3), some (.int y2), none, none, none]) (by decide) rfl dX1_after_17 ?_
    refine go_iconst (v := 0) (by decide) dX1_after_19 ?_
    refine go_istore (L' := [some (.ref x0), some (.int x1), some (.int x2), some (.int x3), some (.int y2), some (.int (0 : Int32)), none, none]) (by decide) rfl dX1_after_20 ?_
    refine go_at 22 rfl ?_
    refine go_iconst (v := 0) (by decide) dX1_after_22 ?_
    refine go_istore (L' := [some (.ref x0), some (.int x1), some (.int x2), some (.int x3), some (.int y2), some (.int (0 : Int32)), some (.int (0 : Int32)), none]) (by decide) rfl dX1_after_23 ?_
    exact go_subL (L' := [some (.ref x0), some (.int x1), some (.int x2), some (.int x3), some (.int y2), some (.int (0 : Int32)), some (.int (0 : Int32)), none]) (by simp [subL, va_rf]) (oX1_after_25 hd hs hk)
  · have hs := if_f c hs
    refine go_iload_n (k4 := 1) rfl dX1_after_7 ?_
    obtain rfl := Option.some.inj hs
    obtain ⟨rfl, rfl⟩ := hk
    exact go_iret rfl dX1_after_8
theorem oX1_after {d : Nat} (hd : 3 ≤ d) {h : Hp} {x0 : Nat} {x1 : Int32} {x2 : Int32} {x3 : Int32} {y : (Int32 × Hp)} (hs : fX1_after h x0 x1 x2 x3 = some y) : Call d mX1_after [.ref x0, .int x1, .int x2, .int x3] h (some (.int y.1)) (y.2) := call_of (by decide +kernel) (Nat.le_of_ble_eq_true rfl) (show Go d mX1_after 0 [some (.ref x0), some (.int x1), some (.int x2), some (.int x3), none, none, none, none] [] h _ _ from go_subL (by simp [subL]) (oX1_after_0 hd hs ⟨rfl, rfl⟩))
abbrev kX11_passYear (rf : Option Value) (hf : Hp) : (Int32 × Hp) → Prop := fun y => rf = some (.int y.1) ∧ hf = y.2
noncomputable def fX11_passYear (h : Hp) (x0 : Nat) (x1 : Nat) (x2 : Int32) : Option (Int32 × Hp) :=
  (fX11_isDryness h x2).bind fun y1 =>
  if y1 = 0 then (
    some (((1 : Int32), h))) else (
    (gN h 11 x0 11).bind fun v2 =>
    (gN h 11 x0 3).bind fun v3 =>
    (gI h 8 x1 1).bind fun v4 =>
    gO h 1 v2 (
    (fX1_tune h v2 v3 v4).bind fun y5 =>
    (gN y5 11 x0 11).bind fun v7 =>
    (gI y5 8 x1 0).bind fun v8 =>
    (gI y5 8 x1 2).bind fun v9 =>
    gO y5 1 v7 (
    (fX1_after y5 v7 v8 v9 x2).bind fun y10 =>
    (sV y10.2 8 x1 0 (.int y10.1)).bind fun h12 =>
    (gI h12 8 x1 3).bind fun v13 =>
    (sV h12 8 x1 3 (.int (v13 + (1 : Int32)))).bind fun h14 =>
    some (((0 : Int32), h14)))))
theorem oX11_passYear_0 {d : Nat} (hd : 4 ≤ d) {h : Hp} {x0 : Nat} {x1 : Nat} {x2 : Int32} {rf : Option Value} {hf : Hp} {x : (Int32 × Hp)} (hs : fX11_passYear h x0 x1 x2 = some x) (hk : (kX11_passYear rf hf) x) : Go d mX11_passYear 0 [some (.ref x0), some (.ref x1), some (.int x2)] [] h rf hf := by
  unfold fX11_passYear at hs
  refine go_iload_n (k4 := 2) rfl dX11_passYear_0 ?_
  obtain ⟨y1, ey1, hs⟩ := bindS hs
  refine go_S1 (As := [.int x2]) (st := []) (oX11_isDryness (d := d - 1) (by omega) ey1) (by omega) mb_X11_isDryness lm_RX11_162 ms_X11_isDryness (Nat.le_of_ble_eq_true rfl) rfl dX11_passYear_1 ?_
  refine go_if_ne (tgt := 9) (by decide) dX11_passYear_4 (fun c => ?_) (fun c => ?_)
  · have hs := if_f c hs
    refine go_aload_n (k4 := 0) rfl (Or.inr ⟨_, rfl⟩) dX11_passYear_9 ?_
    obtain ⟨v2, ev2, hs⟩ := bindS hs
    refine go_gN fl_RX11_72 ev2 dX11_passYear_10 ?_
    refine go_aload_n (k4 := 0) rfl (Or.inr ⟨_, rfl⟩) dX11_passYear_13 ?_
    obtain ⟨v3, ev3, hs⟩ := bindS hs
    refine go_gN fl_RX11_29 ev3 dX11_passYear_14 ?_
    refine go_aload_n (k4 := 1) rfl (Or.inr ⟨_, rfl⟩) dX11_passYear_17 ?_
    obtain ⟨v4, ev4, hs⟩ := bindS hs
    refine go_gI fl_RX11_149 ev4 dX11_passYear_18 ?_
    obtain ⟨g6, hs⟩ := gO_at hs
    obtain ⟨y5, ey5, hs⟩ := bindS hs
    refine go_V0 (As := [.ref v3, .int v4]) (st := []) g6 rfl rfl (oX1_tune (d := d - 1) (by omega) ey5) (by omega) mb_X1_tune lm_RX11_184 mi_X1_tune (Nat.le_of_ble_eq_true rfl) rfl dX11_passYear_21 ?_
    refine go_at 24 rfl ?_
    refine go_aload_n (k4 := 1) rfl (Or.inr ⟨_, rfl⟩) dX11_passYear_24 ?_
    refine go_aload_n (k4 := 0) rfl (Or.inr ⟨_, rfl⟩) dX11_passYear_25 ?_
    obtain ⟨v7, ev7, hs⟩ := bindS hs
    refine go_gN fl_RX11_72 ev7 dX11_passYear_26 ?_
    refine go_aload_n (k4 := 1) rfl (Or.inr ⟨_, rfl⟩) dX11_passYear_29 ?_
    obtain ⟨v8, ev8, hs⟩ := bindS hs
    refine go_gI fl_RX11_142 ev8 dX11_passYear_30 ?_
    refine go_aload_n (k4 := 1) rfl (Or.inr ⟨_, rfl⟩) dX11_passYear_33 ?_
    obtain ⟨v9, ev9, hs⟩ := bindS hs
    refine go_gI fl_RX11_152 ev9 dX11_passYear_34 ?_
    refine go_iload_n (k4 := 2) rfl dX11_passYear_37 ?_
    refine go_at 38 rfl ?_
    obtain ⟨g11, hs⟩ := gO_at hs
    obtain ⟨y10, ey10, hs⟩ := bindS hs
    refine go_V1 (As := [.int v8, .int v9, .int x2]) (st := [.ref x1]) g11 rfl rfl (oX1_after (d := d - 1) (by omega) ey10) (by omega) mb_X1_after lm_RX11_257 mi_X1_after (Nat.le_of_ble_eq_true rfl) rfl dX11_passYear_38 ?_
    obtain ⟨h12, eh12, hs⟩ := bindS hs
    refine go_sV fw_RX11_142 eh12 rfl rfl dX11_passYear_41 ?_
    refine go_aload_n (k4 := 1) rfl (Or.inr ⟨_, rfl⟩) dX11_passYear_44 ?_
    refine go_dup rfl dX11_passYear_45 ?_
    obtain ⟨v13, ev13, hs⟩ := bindS hs
    refine go_gI fl_RX11_261 ev13 dX11_passYear_46 ?_
    refine go_iconst (v := 1) (by decide) dX11_passYear_49 ?_
    refine go_iadd dX11_passYear_50 ?_
    obtain ⟨h14, eh14, hs⟩ := bindS hs
    refine go_sV fw_RX11_261 eh14 rfl rfl dX11_passYear_51 ?_
    refine go_at 54 rfl ?_
    refine go_iconst (v := 0) (by decide) dX11_passYear_54 ?_
    obtain rfl := Option.some.inj hs
    obtain ⟨rfl, rfl⟩ := hk
    exact go_iret rfl dX11_passYear_55
  · have hs := if_t c hs
    refine go_iconst (v := 1) (by decide) dX11_passYear_7 ?_
    obtain rfl := Option.some.inj hs
    obtain ⟨rfl, rfl⟩ := hk
    exact go_iret rfl dX11_passYear_8
theorem oX11_passYear {d : Nat} (hd : 4 ≤ d) {h : Hp} {x0 : Nat} {x1 : Nat} {x2 : Int32} {y : (Int32 × Hp)} (hs : fX11_passYear h x0 x1 x2 = some y) : Call d mX11_passYear [.ref x0, .ref x1, .int x2] h (some (.int y.1)) (y.2) := call_of (by decide +kernel) (Nat.le_of_ble_eq_true rfl) (show Go d mX11_passYear 0 [some (.ref x0), some (.ref x1), some (.int x2)] [] h _ _ from go_subL (by simp [subL]) (oX11_passYear_0 hd hs ⟨rfl, rfl⟩))
