/-! the class over its own numbers -/
noncomputable def gX7_countRows_150 (h : Hp) (c : Ch) (x2 : Int32) (x4 : Int64) (x8 : Int32) (x9 : Int32) : Option ((Int64 × Int32 × Int32 × Int32 × Ch) ⊕ (Int64 × Ch)) :=
  some (.inl (x4, x9, (c.1 116 12), (x8 + Int32.ofInt (-1)), c))
theorem lX7_countRows_150 (h : Hp) (c : Ch) (x2 : Int32) (x4 : Int64) (x8 : Int32) (x9 : Int32) : fX7_countRows_150 (cput h c) 116 x2 x4 x8 x9 = (gX7_countRows_150 h c x2 x4 x8 x9).map (Sum.map (fun (s : (Int64 × Int32 × Int32 × Int32 × Ch)) => (s.1, s.2.1, s.2.2.1, s.2.2.2.1, cput h s.2.2.2.2)) (fun (y : (Int64 × Ch)) => (y.1, cput h y.2))) := by
  unfold fX7_countRows_150 gX7_countRows_150
  simp only [cgI_116_12, lift_lt, k_bs, k_mb, k_ms, k_bm, k_mm, k_il, k_ir, lift_ite, k_id]
noncomputable def gX7_countRows_144 (h : Hp) (c : Ch) (x2 : Int32) (x4 : Int64) (x6 : Int32) (x7 : Int32) (x8 : Int32) (x9 : Int32) (x10 : Int32) : Option ((Int64 × Int32 × Ch) ⊕ ((Int64 × Int32 × Int32 × Int32 × Ch) ⊕ (Int64 × Ch))) :=
  some (.inl (x4, (x10 + Int32.ofInt 1), c))
theorem lX7_countRows_144 (h : Hp) (c : Ch) (x2 : Int32) (x4 : Int64) (x6 : Int32) (x7 : Int32) (x8 : Int32) (x9 : Int32) (x10 : Int32) : fX7_countRows_144 (cput h c) 116 x2 x4 x6 x7 x8 x9 x10 = (gX7_countRows_144 h c x2 x4 x6 x7 x8 x9 x10).map (Sum.map (fun (s : (Int64 × Int32 × Ch)) => (s.1, s.2.1, cput h s.2.2)) (Sum.map (fun (s : (Int64 × Int32 × Int32 × Int32 × Ch)) => (s.1, s.2.1, s.2.2.1, s.2.2.2.1, cput h s.2.2.2.2)) (fun (y : (Int64 × Ch)) => (y.1, cput h y.2)))) := by
  unfold fX7_countRows_144 gX7_countRows_144
  simp only [lift_lt, k_bs, k_mb, k_ms, k_bm, k_mm, k_il, k_ir, lift_ite, k_id]
noncomputable def gX7_countRows_59b (h : Hp) (c : Ch) (x2 : Int32) (x6 : Int32) (x7 : Int32) (x8 : Int32) (x9 : Int32) (x4 : Int64) (x10 : Int32) : Option ((Int64 × Int32 × Ch) ⊕ ((Int64 × Int32 × Int32 × Int32 × Ch) ⊕ (Int64 × Ch))) :=
  if x7 ≤ x10 then (
  (gX7_countRows_150 h c x2 x4 x8 x9).map (fun q => .inr q)) else (
    (cA c 118 20000 (x6 + x10)).bind fun v6 =>
    (rm v6 (10000 : Int32)).bind fun v7 =>
    (cL c 121 20000 (x6 + v7)).bind fun v8 =>
    (gX7_isGoal h c v6 x2).bind fun y9 =>
    if y9 = 0 then (
      if (10000 : Int32) ≤ v6 then (
      gX7_countRows_144 h c x2 x4 x6 x7 x8 x9 x10) else (
        if x8 ≤ 0 then (
        gX7_countRows_144 h c x2 x4 x6 x7 x8 x9 x10) else (
          (gX7_passOn h c v6 v8 x9).bind fun y10 =>
          gX7_countRows_144 h y10 x2 x4 x6 x7 x8 x9 x10))) else (
      (gX7_rowsOf h c x8).bind fun y11 =>
      gX7_countRows_144 h c x2 (x4 + (v8 * y11)) x6 x7 x8 x9 x10))
noncomputable def gX7_countRows_59 (h : Hp) (c : Ch) (x2 : Int32) (x4 : Int64) (x6 : Int32) (x7 : Int32) (x8 : Int32) (x9 : Int32) (x10 : Int32) : Option ((Int64 × Int32 × Int32 × Int32 × Ch) ⊕ (Int64 × Ch)) := lpw (σ := (Int64 × Int32 × Ch)) (fun s => gX7_countRows_59b h s.2.2 x2 x6 x7 x8 x9 s.1 s.2.1) (x4, x10, c)
theorem lX7_countRows_59b (h : Hp) (c : Ch) (x2 : Int32) (x4 : Int64) (x6 : Int32) (x7 : Int32) (x8 : Int32) (x9 : Int32) (x10 : Int32) : fX7_countRows_59b (cput h c) 116 x2 x6 x7 x8 x9 x4 x10 = (gX7_countRows_59b h c x2 x6 x7 x8 x9 x4 x10).map (Sum.map (fun (s : (Int64 × Int32 × Ch)) => (s.1, s.2.1, cput h s.2.2)) (Sum.map (fun (s : (Int64 × Int32 × Int32 × Int32 × Ch)) => (s.1, s.2.1, s.2.2.1, s.2.2.2.1, cput h s.2.2.2.2)) (fun (y : (Int64 × Ch)) => (y.1, cput h y.2)))) := by
  unfold fX7_countRows_59b gX7_countRows_59b
  simp only [lX7_countRows_150, cgN_116_5, caI_118, cgN_116_8, caJ_121, cgO_116, lX7_isGoal, lX7_countRows_144, lX7_passOn, lX7_rowsOf, lift_lt, k_bs, k_mb, k_ms, k_bm, k_mm, k_il, k_ir, lift_ite, k_id]
theorem lX7_countRows_59 (h : Hp) (c : Ch) (x2 : Int32) (x4 : Int64) (x6 : Int32) (x7 : Int32) (x8 : Int32) (x9 : Int32) (x10 : Int32) : fX7_countRows_59 (cput h c) 116 x2 x4 x6 x7 x8 x9 x10 = (gX7_countRows_59 h c x2 x4 x6 x7 x8 x9 x10).map (Sum.map (fun (s : (Int64 × Int32 × Int32 × Int32 × Ch)) => (s.1, s.2.1, s.2.2.1, s.2.2.2.1, cput h s.2.2.2.2)) (fun (y : (Int64 × Ch)) => (y.1, cput h y.2))) := by
  unfold fX7_countRows_59 gX7_countRows_59
  exact lpw_map _ _ (fun (s : (Int64 × Int32 × Ch)) => (s.1, s.2.1, cput h s.2.2)) (Sum.map (fun (s : (Int64 × Int32 × Int32 × Int32 × Ch)) => (s.1, s.2.1, s.2.2.1, s.2.2.2.1, cput h s.2.2.2.2)) (fun (y : (Int64 × Ch)) => (y.1, cput h y.2))) (fun s => lX7_countRows_59b h s.2.2 x2 s.1 x6 x7 x8 x9 s.2.1) (x4, x10, c)
noncomputable def gX7_countRows_39b (h : Hp) (c : Ch) (x2 : Int32) (x4 : Int64) (x6 : Int32) (x7 : Int32) (x8 : Int32) : Option ((Int64 × Int32 × Int32 × Int32 × Ch) ⊕ (Int64 × Ch)) :=
  if x8 < 0 then (
    some (.inr (x4, c))) else (
    (gX7_begin h c ).bind fun y5 =>
    gX7_countRows_59 h y5 x2 x4 x6 x7 x8 ((10000 : Int32) - x6) (0 : Int32))
noncomputable def gX7_countRows_39 (h : Hp) (c : Ch) (x2 : Int32) (x4 : Int64) (x6 : Int32) (x7 : Int32) (x8 : Int32) : Option (Int64 × Ch) := lpw (σ := (Int64 × Int32 × Int32 × Int32 × Ch)) (fun s => gX7_countRows_39b h s.2.2.2.2 x2 s.1 s.2.1 s.2.2.1 s.2.2.2.1) (x4, x6, x7, x8, c)
theorem lX7_countRows_39b (h : Hp) (c : Ch) (x2 : Int32) (x4 : Int64) (x6 : Int32) (x7 : Int32) (x8 : Int32) : fX7_countRows_39b (cput h c) 116 x2 x4 x6 x7 x8 = (gX7_countRows_39b h c x2 x4 x6 x7 x8).map (Sum.map (fun (s : (Int64 × Int32 × Int32 × Int32 × Ch)) => (s.1, s.2.1, s.2.2.1, s.2.2.2.1, cput h s.2.2.2.2)) (fun (y : (Int64 × Ch)) => (y.1, cput h y.2))) := by
  unfold fX7_countRows_39b gX7_countRows_39b
  simp only [cgO_116, lX7_begin, lX7_countRows_59, lift_lt, k_bs, k_mb, k_ms, k_bm, k_mm, k_il, k_ir, lift_ite, k_id]
theorem lX7_countRows_39 (h : Hp) (c : Ch) (x2 : Int32) (x4 : Int64) (x6 : Int32) (x7 : Int32) (x8 : Int32) : fX7_countRows_39 (cput h c) 116 x2 x4 x6 x7 x8 = (gX7_countRows_39 h c x2 x4 x6 x7 x8).map (fun (y : (Int64 × Ch)) => (y.1, cput h y.2)) := by
  unfold fX7_countRows_39 gX7_countRows_39
  exact lpw_map _ _ (fun (s : (Int64 × Int32 × Int32 × Int32 × Ch)) => (s.1, s.2.1, s.2.2.1, s.2.2.2.1, cput h s.2.2.2.2)) (fun (y : (Int64 × Ch)) => (y.1, cput h y.2)) (fun s => lX7_countRows_39b h s.2.2.2.2 x2 s.1 s.2.1 s.2.2.1 s.2.2.2.1) (x4, x6, x7, x8, c)
noncomputable def gX7_countRows (h : Hp) (c : Ch) (x1 : Int32) (x2 : Int32) (x3 : Int32) : Option (Int64 × Ch) :=
  (gX7_isState x1).bind fun y1 =>
  if y1 = 0 then (
    some (((0 : Int64), c))) else (
    (cWA c 0 118 20000 (0 : Int32) x1).bind fun c2 =>
    (rm x1 (10000 : Int32)).bind fun v3 =>
    (cWL c2 121 20000 v3 (1 : Int64)).bind fun c4 =>
    gX7_countRows_39 h c4 x2 (0 : Int64) (0 : Int32) (1 : Int32) x3)
theorem lX7_countRows (h : Hp) (c : Ch) (x1 : Int32) (x2 : Int32) (x3 : Int32) : fX7_countRows (cput h c) 116 x1 x2 x3 = (gX7_countRows h c x1 x2 x3).map (fun (y : (Int64 × Ch)) => (y.1, cput h y.2)) := by
  unfold fX7_countRows gX7_countRows
  simp only [lX7_isState, cgN_116_5, cwI_118, cgN_116_8, cwJ_121, lX7_countRows_39, lift_lt, k_bs, k_mb, k_ms, k_bm, k_mm, k_il, k_ir, lift_ite, k_id]
noncomputable def gX11_rows_18 (h : Hp) (c : Ch)  : Option (Int64 × Ch) :=
  some (((-3 : Int64), c))
theorem lX11_rows_18 (h : Hp) (c : Ch)  : fX11_rows_18 (cput h c)  = (gX11_rows_18 h c ).map (fun (y : (Int64 × Ch)) => (y.1, cput h y.2)) := by
  unfold fX11_rows_18 gX11_rows_18
  simp only [lift_lt, k_bs, k_mb, k_ms, k_bm, k_mm, k_il, k_ir, lift_ite, k_id]
noncomputable def gX11_rows (h : Hp) (c : Ch) (x1 : Int32) (x2 : Int32) : Option (Int64 × Ch) :=
  (gX11_isSet h c x1).bind fun y1 =>
  if y1 = 0 then (
  gX11_rows_18 h c ) else (
    if x2 < 0 then (
    gX11_rows_18 h c ) else (
      if x2 ≤ (8 : Int32) then (
        (gX11_searching h c ).bind fun y2 =>
        (gX7_countRows h y2 (y2.1 (sadr 0) 0) x1 x2).bind fun y3 =>
        some ((y3.1, y3.2))) else (
      gX11_rows_18 h c )))
theorem lX11_rows (h : Hp) (c : Ch) (x1 : Int32) (x2 : Int32) : fX11_rows (cput h c) 80 x1 x2 = (gX11_rows h c x1 x2).map (fun (y : (Int64 × Ch)) => (y.1, cput h y.2)) := by
  unfold fX11_rows gX11_rows
  simp only [cgO_80, lX11_isSet, lX11_rows_18, lX11_searching, cgN_80_4, cgI_s_0, cgO_116, lX7_countRows, lift_lt, k_bs, k_mb, k_ms, k_bm, k_mm, k_il, k_ir, lift_ite, k_id]
noncomputable def gX7_mostMet_4b (h : Hp) (c : Ch) (x1 : Int32) (x2 : Int32) : Option ((Int32 × Int32) ⊕ Int32) :=
  if (c.1 116 12) ≤ x2 then (
    some (.inr x1)) else (
    (c.2.2.1 116 1).bind fun v1 =>
    (cA c 118 20000 x2).bind fun v2 =>
    gO (cput h c) 0 v1 (
    (fX0_metCount (cput h c) v1 v2).bind fun y3 =>
    some (.inl ((imax x1 y3), (x2 + Int32.ofInt 1)))))
noncomputable def gX7_mostMet_4 (h : Hp) (c : Ch) (x1 : Int32) (x2 : Int32) : Option Int32 := lpw (σ := (Int32 × Int32)) (fun s => gX7_mostMet_4b h c  s.1 s.2) (x1, x2)
theorem lX7_mostMet_4b (h : Hp) (c : Ch) (x1 : Int32) (x2 : Int32) : fX7_mostMet_4b (cput h c) 116 x1 x2 = gX7_mostMet_4b h c x1 x2 := by
  unfold fX7_mostMet_4b gX7_mostMet_4b
  simp only [cgI_116_12, cgN_116_1, cgN_116_5, caI_118, lift_gOm, lift_lt, k_bs, k_mb, k_ms, k_bm, k_mm, k_il, k_ir, lift_ite, k_id]
theorem lX7_mostMet_4 (h : Hp) (c : Ch) (x1 : Int32) (x2 : Int32) : fX7_mostMet_4 (cput h c) 116 x1 x2 = gX7_mostMet_4 h c x1 x2 := by
  unfold fX7_mostMet_4 gX7_mostMet_4
  refine congrArg (fun b => lpw b _) (funext (fun s => ?_))
  exact lX7_mostMet_4b h c s.1 s.2
noncomputable def gX7_mostMet (h : Hp) (c : Ch)  : Option Int32 :=
  gX7_mostMet_4 h c (0 : Int32) (0 : Int32)
theorem lX7_mostMet (h : Hp) (c : Ch)  : fX7_mostMet (cput h c) 116 = gX7_mostMet h c  := by
  unfold fX7_mostMet gX7_mostMet
  simp only [lX7_mostMet_4, lift_lt, k_bs, k_mb, k_ms, k_bm, k_mm, k_il, k_ir, lift_ite, k_id]
noncomputable def gX11_most (h : Hp) (c : Ch)  : Option (Int32 × Ch) :=
  (gX11_searching h c ).bind fun y1 =>
  (gX7_explore h y1 (y1.1 (sadr 0) 0) (-2 : Int32)).bind fun y2 =>
  (gX7_mostMet h y2.2 ).bind fun y3 =>
  some ((y3, y2.2))
theorem lX11_most (h : Hp) (c : Ch)  : fX11_most (cput h c) 80 = (gX11_most h c ).map (fun (y : (Int32 × Ch)) => (y.1, cput h y.2)) := by
  unfold fX11_most gX11_most
  simp only [cgO_80, lX11_searching, cgN_80_4, cgI_s_0, cgO_116, lX7_explore, lX7_mostMet, lift_lt, k_bs, k_mb, k_ms, k_bm, k_mm, k_il, k_ir, lift_ite, k_id]
noncomputable def gX7_leaveFor_39 (h : Hp) (c : Ch)  : Option Ch :=
  some (c)
theorem lX7_leaveFor_39 (h : Hp) (c : Ch)  : fX7_leaveFor_39 (cput h c)  = (gX7_leaveFor_39 h c ).map (cput h) := by
  unfold fX7_leaveFor_39 gX7_leaveFor_39
  simp only [lift_lt, k_bs, k_mb, k_ms, k_bm, k_mm, k_il, k_ir, lift_ite, k_id]
noncomputable def gX7_leaveFor (h : Hp) (c : Ch) (x1 : Int32) (x2 : Int32) : Option Ch :=
  (gX7_isState x1).bind fun y1 =>
  if y1 = 0 then (
  gX7_leaveFor_39 h c ) else (
    (cA c 120 20000 x1).bind fun v2 =>
    (cWA c 0 120 20000 x1 (v2 - (1 : Int32))).bind fun c3 =>
    if (10000 : Int32) ≤ x1 then (
    gX7_leaveFor_39 h c3 ) else (
      (cA c3 120 20000 x1).bind fun v4 =>
      if v4 = 0 then (
        (gX7_reach h c3 x1 x2).bind fun y5 =>
        gX7_leaveFor_39 h y5 ) else (
      gX7_leaveFor_39 h c3 )))
theorem lX7_leaveFor (h : Hp) (c : Ch) (x1 : Int32) (x2 : Int32) : fX7_leaveFor (cput h c) 116 x1 x2 = (gX7_leaveFor h c x1 x2).map (cput h) := by
  unfold fX7_leaveFor gX7_leaveFor
  simp only [lX7_isState, lX7_leaveFor_39, cgN_116_7, caI_120, cwI_120, cgO_116, lX7_reach, lift_lt, k_bs, k_mb, k_ms, k_bm, k_mm, k_il, k_ir, lift_ite, k_id]
noncomputable def gX7_longestHold_54 (h : Hp) (c : Ch)  : Option (Int32 × Ch) :=
  some (((-1 : Int32), c))
theorem lX7_longestHold_54 (h : Hp) (c : Ch)  : fX7_longestHold_54 (cput h c)  = (gX7_longestHold_54 h c ).map (fun (y : (Int32 × Ch)) => (y.1, cput h y.2)) := by
  unfold fX7_longestHold_54 gX7_longestHold_54
  simp only [lift_lt, k_bs, k_mb, k_ms, k_bm, k_mm, k_il, k_ir, lift_ite, k_id]
noncomputable def gX7_longestHold_173 (h : Hp) (c : Ch) (s0 : Int32) : Option (Int32 × Ch) :=
  some ((s0, c))
theorem lX7_longestHold_173 (h : Hp) (c : Ch) (s0 : Int32) : fX7_longestHold_173 (cput h c) s0 = (gX7_longestHold_173 h c s0).map (fun (y : (Int32 × Ch)) => (y.1, cput h y.2)) := by
  unfold fX7_longestHold_173 gX7_longestHold_173
  simp only [lift_lt, k_bs, k_mb, k_ms, k_bm, k_mm, k_il, k_ir, lift_ite, k_id]
noncomputable def gX7_longestHold_160 (h : Hp) (c : Ch) (x2 : Int32) (x3 : Int32) : Option (Int32 × Ch) :=
  if x2 ≤ (c.1 116 12) then (
    gX7_longestHold_173 h c x3) else (
    gX7_longestHold_173 h c (-1 : Int32))
theorem lX7_longestHold_160 (h : Hp) (c : Ch) (x2 : Int32) (x3 : Int32) : fX7_longestHold_160 (cput h c) 116 x2 x3 = (gX7_longestHold_160 h c x2 x3).map (fun (y : (Int32 × Ch)) => (y.1, cput h y.2)) := by
  unfold fX7_longestHold_160 gX7_longestHold_160
  simp only [cgI_116_12, lX7_longestHold_173, lift_lt, k_bs, k_mb, k_ms, k_bm, k_mm, k_il, k_ir, lift_ite, k_id]
noncomputable def gX7_longestHold_154 (h : Hp) (c : Ch) (x2 : Int32) (x3 : Int32) (x4 : Int32) : Option ((Int32 × Int32 × Ch) ⊕ (Int32 × Ch)) :=
  some (.inl (x3, (x4 + Int32.ofInt 1), c))
theorem lX7_longestHold_154 (h : Hp) (c : Ch) (x2 : Int32) (x3 : Int32) (x4 : Int32) : fX7_longestHold_154 (cput h c) 116 x2 x3 x4 = (gX7_longestHold_154 h c x2 x3 x4).map (Sum.map (fun (s : (Int32 × Int32 × Ch)) => (s.1, s.2.1, cput h s.2.2)) (fun (y : (Int32 × Ch)) => (y.1, cput h y.2))) := by
  unfold fX7_longestHold_154 gX7_longestHold_154
  simp only [lift_lt, k_bs, k_mb, k_ms, k_bm, k_mm, k_il, k_ir, lift_ite, k_id]
noncomputable def gX7_longestHold_121b (h : Hp) (c : Ch) (x2 : Int32) (x3 : Int32) (x4 : Int32) (x6 : Int32) : Option ((Int32 × Ch) ⊕ ((Int32 × Int32 × Ch) ⊕ (Int32 × Ch))) :=
  (c.2.2.1 116 1).bind fun v8 =>
  (gN (cput h c) 0 v8 9).bind fun v9 =>
  (aL (cput h c) v9).bind fun v10 =>
  if v10 ≤ x6 then (
  (gX7_longestHold_154 h c x2 x3 x4).map (fun q => .inr q)) else (
    (cA c 122 35 x6).bind fun v11 =>
    (gX7_leaveFor h c v11 (x3 + (1 : Int32))).bind fun y12 =>
    some (.inl ((x6 + Int32.ofInt 1), y12)))
noncomputable def gX7_longestHold_121 (h : Hp) (c : Ch) (x2 : Int32) (x3 : Int32) (x4 : Int32) (x6 : Int32) : Option ((Int32 × Int32 × Ch) ⊕ (Int32 × Ch)) := lpw (σ := (Int32 × Ch)) (fun s => gX7_longestHold_121b h s.2 x2 x3 x4 s.1) (x6, c)
theorem lX7_longestHold_121b (h : Hp) (c : Ch) (x2 : Int32) (x3 : Int32) (x4 : Int32) (x6 : Int32) : fX7_longestHold_121b (cput h c) 116 x2 x3 x4 x6 = (gX7_longestHold_121b h c x2 x3 x4 x6).map (Sum.map (fun (s : (Int32 × Ch)) => (s.1, cput h s.2)) (Sum.map (fun (s : (Int32 × Int32 × Ch)) => (s.1, s.2.1, cput h s.2.2)) (fun (y : (Int32 × Ch)) => (y.1, cput h y.2)))) := by
  unfold fX7_longestHold_121b gX7_longestHold_121b
  simp only [cgN_116_1, lX7_longestHold_154, cgN_116_9, caI_122, cgO_116, lX7_leaveFor, lift_lt, k_bs, k_mb, k_ms, k_bm, k_mm, k_il, k_ir, lift_ite, k_id]
theorem lX7_longestHold_121 (h : Hp) (c : Ch) (x2 : Int32) (x3 : Int32) (x4 : Int32) (x6 : Int32) : fX7_longestHold_121 (cput h c) 116 x2 x3 x4 x6 = (gX7_longestHold_121 h c x2 x3 x4 x6).map (Sum.map (fun (s : (Int32 × Int32 × Ch)) => (s.1, s.2.1, cput h s.2.2)) (fun (y : (Int32 × Ch)) => (y.1, cput h y.2))) := by
  unfold fX7_longestHold_121 gX7_longestHold_121
  exact lpw_map _ _ (fun (s : (Int32 × Ch)) => (s.1, cput h s.2)) (Sum.map (fun (s : (Int32 × Int32 × Ch)) => (s.1, s.2.1, cput h s.2.2)) (fun (y : (Int32 × Ch)) => (y.1, cput h y.2))) (fun s => lX7_longestHold_121b h s.2 x2 x3 x4 s.1) (x6, c)
noncomputable def gX7_longestHold_71b (h : Hp) (c : Ch) (x2 : Int32) (x3 : Int32) (x4 : Int32) : Option ((Int32 × Int32 × Ch) ⊕ (Int32 × Ch)) :=
  if (c.1 116 12) ≤ x4 then (
  (gX7_longestHold_160 h c x2 x3).map (fun q => .inr q)) else (
    if (20000 : Int32) ≤ x4 then (
    (gX7_longestHold_160 h c x2 x3).map (fun q => .inr q)) else (
      (cA c 118 20000 x4).bind fun v5 =>
      (gX7_linkOf h c v5).bind fun y6 =>
      (gX1_spread h c v5 (0 : Int32) 0).bind fun y7 =>
      gX7_longestHold_121 h y7 x2 y6 x4 (0 : Int32)))
noncomputable def gX7_longestHold_71 (h : Hp) (c : Ch) (x2 : Int32) (x3 : Int32) (x4 : Int32) : Option (Int32 × Ch) := lpw (σ := (Int32 × Int32 × Ch)) (fun s => gX7_longestHold_71b h s.2.2 x2 s.1 s.2.1) (x3, x4, c)
theorem lX7_longestHold_71b (h : Hp) (c : Ch) (x2 : Int32) (x3 : Int32) (x4 : Int32) : fX7_longestHold_71b (cput h c) 116 x2 x3 x4 = (gX7_longestHold_71b h c x2 x3 x4).map (Sum.map (fun (s : (Int32 × Int32 × Ch)) => (s.1, s.2.1, cput h s.2.2)) (fun (y : (Int32 × Ch)) => (y.1, cput h y.2))) := by
  unfold fX7_longestHold_71b gX7_longestHold_71b
  simp only [cgI_116_12, lX7_longestHold_160, cgN_116_5, caI_118, cgO_116, lX7_linkOf, cgN_116_0, cgN_116_9, cgO_108, lX1_spread_0, lX1_spread_1, lX7_longestHold_121, lift_lt, k_bs, k_mb, k_ms, k_bm, k_mm, k_il, k_ir, lift_ite, k_id]
theorem lX7_longestHold_71 (h : Hp) (c : Ch) (x2 : Int32) (x3 : Int32) (x4 : Int32) : fX7_longestHold_71 (cput h c) 116 x2 x3 x4 = (gX7_longestHold_71 h c x2 x3 x4).map (fun (y : (Int32 × Ch)) => (y.1, cput h y.2)) := by
  unfold fX7_longestHold_71 gX7_longestHold_71
  exact lpw_map _ _ (fun (s : (Int32 × Int32 × Ch)) => (s.1, s.2.1, cput h s.2.2)) (fun (y : (Int32 × Ch)) => (y.1, cput h y.2)) (fun s => lX7_longestHold_71b h s.2.2 x2 s.1 s.2.1) (x3, x4, c)
noncomputable def gX7_longestHold_38 (h : Hp) (c : Ch) (x1 : Int32) (x2 : Int32) : Option (Int32 × Ch) :=
  (gX7_isState x1).bind fun y1 =>
  if y1 = 0 then (
  gX7_longestHold_54 h c ) else (
    (cA c 120 20000 x1).bind fun v2 =>
    if v2 ≤ 0 then (
      (gX7_begin h c ).bind fun y3 =>
      (gX7_reach h y3 x1 (0 : Int32)).bind fun y4 =>
      gX7_longestHold_71 h y4 x2 (0 : Int32) (0 : Int32)) else (
    gX7_longestHold_54 h c ))
theorem lX7_longestHold_38 (h : Hp) (c : Ch) (x1 : Int32) (x2 : Int32) : fX7_longestHold_38 (cput h c) 116 x1 x2 = (gX7_longestHold_38 h c x1 x2).map (fun (y : (Int32 × Ch)) => (y.1, cput h y.2)) := by
  unfold fX7_longestHold_38 gX7_longestHold_38
  simp only [lX7_isState, lX7_longestHold_54, cgN_116_7, caI_120, cgO_116, lX7_begin, lX7_reach, lX7_longestHold_71, lift_lt, k_bs, k_mb, k_ms, k_bm, k_mm, k_il, k_ir, lift_ite, k_id]
noncomputable def gX7_longestHold_30 (h : Hp) (c : Ch) (x1 : Int32) (x3 : Int32) (s0 : Int32) (s1 : Int32) : Option ((Int32 × Int32) ⊕ (Int32 × Ch)) :=
  some (.inl ((s0 + s1), (x3 + Int32.ofInt 1)))
theorem lX7_longestHold_30 (h : Hp) (c : Ch) (x1 : Int32) (x3 : Int32) (s0 : Int32) (s1 : Int32) : fX7_longestHold_30 (cput h c) 116 x1 x3 s0 s1 = (gX7_longestHold_30 h c x1 x3 s0 s1).map (Sum.map id (fun (y : (Int32 × Ch)) => (y.1, cput h y.2))) := by
  unfold fX7_longestHold_30 gX7_longestHold_30
  simp only [lift_lt, k_bs, k_mb, k_ms, k_bm, k_mm, k_il, k_ir, lift_ite, k_id]
noncomputable def gX7_longestHold_4b (h : Hp) (c : Ch) (x1 : Int32) (x2 : Int32) (x3 : Int32) : Option ((Int32 × Int32) ⊕ (Int32 × Ch)) :=
  if (c.1 116 12) ≤ x3 then (
  (gX7_longestHold_38 h c x1 x2).map (fun q => .inr q)) else (
    (cA c 118 20000 x3).bind fun v13 =>
    if (10000 : Int32) ≤ v13 then (
      gX7_longestHold_30 h c x1 x3 x2 (0 : Int32)) else (
      gX7_longestHold_30 h c x1 x3 x2 (1 : Int32)))
noncomputable def gX7_longestHold_4 (h : Hp) (c : Ch) (x1 : Int32) (x2 : Int32) (x3 : Int32) : Option (Int32 × Ch) := lpw (σ := (Int32 × Int32)) (fun s => gX7_longestHold_4b h c x1 s.1 s.2) (x2, x3)
theorem lX7_longestHold_4b (h : Hp) (c : Ch) (x1 : Int32) (x2 : Int32) (x3 : Int32) : fX7_longestHold_4b (cput h c) 116 x1 x2 x3 = (gX7_longestHold_4b h c x1 x2 x3).map (Sum.map id (fun (y : (Int32 × Ch)) => (y.1, cput h y.2))) := by
  unfold fX7_longestHold_4b gX7_longestHold_4b
  simp only [cgI_116_12, lX7_longestHold_38, cgN_116_5, caI_118, lX7_longestHold_30, lift_lt, k_bs, k_mb, k_ms, k_bm, k_mm, k_il, k_ir, lift_ite, k_id]
theorem lX7_longestHold_4 (h : Hp) (c : Ch) (x1 : Int32) (x2 : Int32) (x3 : Int32) : fX7_longestHold_4 (cput h c) 116 x1 x2 x3 = (gX7_longestHold_4 h c x1 x2 x3).map (fun (y : (Int32 × Ch)) => (y.1, cput h y.2)) := by
  unfold fX7_longestHold_4 gX7_longestHold_4
  exact lpw_map _ _ id (fun (y : (Int32 × Ch)) => (y.1, cput h y.2)) (fun s => lX7_longestHold_4b h c x1 s.1 s.2) (x2, x3)
noncomputable def gX7_longestHold (h : Hp) (c : Ch) (x1 : Int32) : Option (Int32 × Ch) :=
  gX7_longestHold_4 h c x1 (0 : Int32) (0 : Int32)
theorem lX7_longestHold (h : Hp) (c : Ch) (x1 : Int32) : fX7_longestHold (cput h c) 116 x1 = (gX7_longestHold h c x1).map (fun (y : (Int32 × Ch)) => (y.1, cput h y.2)) := by
  unfold fX7_longestHold gX7_longestHold
  simp only [lX7_longestHold_4, lift_lt, k_bs, k_mb, k_ms, k_bm, k_mm, k_il, k_ir, lift_ite, k_id]
noncomputable def gX11_holding (h : Hp) (c : Ch)  : Option (Int32 × Ch) :=
  if (c.1 (sadr 0) 0) < (10000 : Int32) then (
    (c.2.2.1 80 3).bind fun v1 =>
    (gR (cput h c) 0 v1 8).bind fun v2 =>
    match v2 with
    | none => (
      some (((-1 : Int32), c)))
    | some n3 => (
      (gX11_searching h c ).bind fun y4 =>
      (gX7_explore h y4 (y4.1 (sadr 0) 0) (-2 : Int32)).bind fun y5 =>
      (gX7_longestHold h y5.2 (y5.2.1 (sadr 0) 0)).bind fun y6 =>
      some ((y6.1, y6.2)))) else (
    some (((-5 : Int32), c)))
theorem lX11_holding (h : Hp) (c : Ch)  : fX11_holding (cput h c) 80 = (gX11_holding h c ).map (fun (y : (Int32 × Ch)) => (y.1, cput h y.2)) := by
  unfold fX11_holding gX11_holding
  simp only [cgN_80_4, cgI_s_0, cgN_80_3, cgO_80, lX11_searching, cgO_116, lX7_explore, lX7_longestHold, lift_lt, k_bs, k_mb, k_ms, k_bm, k_mm, k_il, k_ir, lift_ite, k_id]
  repeat' (first | with_reducible rfl | refine k_bcO ?_ (fun _ => ?_) | refine k_bc (fun _ => ?_) | refine k_ic ?_ ?_ | simp only [cgN_80_4, cgI_s_0, cgN_80_3, cgO_80, lX11_searching, cgO_116, lX7_explore, lX7_longestHold, lift_lt, k_bs, k_mb, k_ms, k_bm, k_mm, k_il, k_ir, lift_ite, k_id] | split)
noncomputable def gX11_felling (h : Hp) (c : Ch)  : Option (Int32 × Ch) :=
  if (c.1 (sadr 0) 0) < (10000 : Int32) then (
    (c.2.2.1 80 3).bind fun v1 =>
    (gR (cput h c) 0 v1 8).bind fun v2 =>
    match v2 with
    | none => (
      some (((-1 : Int32), c)))
    | some n3 => (
      (gX11_searching h c ).bind fun y4 =>
      (gX7_explore h y4 (y4.1 (sadr 0) 0) (-1 : Int32)).bind fun y5 =>
      (gX7_lengthTo h y5.2 y5.1).bind fun y6 =>
      some ((y6, y5.2)))) else (
    some (((-5 : Int32), c)))
theorem lX11_felling (h : Hp) (c : Ch)  : fX11_felling (cput h c) 80 = (gX11_felling h c ).map (fun (y : (Int32 × Ch)) => (y.1, cput h y.2)) := by
  unfold fX11_felling gX11_felling
  simp only [cgN_80_4, cgI_s_0, cgN_80_3, cgO_80, lX11_searching, cgO_116, lX7_explore, lX7_lengthTo, lift_lt, k_bs, k_mb, k_ms, k_bm, k_mm, k_il, k_ir, lift_ite, k_id]
  repeat' (first | with_reducible rfl | refine k_bcO ?_ (fun _ => ?_) | refine k_bc (fun _ => ?_) | refine k_ic ?_ ?_ | simp only [cgN_80_4, cgI_s_0, cgN_80_3, cgO_80, lX11_searching, cgO_116, lX7_explore, lX7_lengthTo, lift_lt, k_bs, k_mb, k_ms, k_bm, k_mm, k_il, k_ir, lift_ite, k_id] | split)
noncomputable def gX11_stands (h : Hp) (c : Ch)  : Option (Int32 × Ch) :=
  (gX11_searching h c ).bind fun y1 =>
  (gX7_explore h y1 (y1.1 (sadr 0) 0) (-2 : Int32)).bind fun y2 =>
  some (((y2.2.1 116 12), y2.2))
theorem lX11_stands (h : Hp) (c : Ch)  : fX11_stands (cput h c) 80 = (gX11_stands h c ).map (fun (y : (Int32 × Ch)) => (y.1, cput h y.2)) := by
  unfold fX11_stands gX11_stands
  simp only [cgO_80, lX11_searching, cgN_80_4, cgI_s_0, cgO_116, lX7_explore, cgI_116_12, lift_lt, k_bs, k_mb, k_ms, k_bm, k_mm, k_il, k_ir, lift_ite, k_id]
noncomputable def gX11_seenRefusal_15 (h : Hp) (c : Ch)  : Option Int32 :=
  some ((-2 : Int32))
theorem lX11_seenRefusal_15 (h : Hp) (c : Ch)  : fX11_seenRefusal_15 (cput h c)  = gX11_seenRefusal_15 h c  := by
  unfold fX11_seenRefusal_15 gX11_seenRefusal_15
  simp only [lift_lt, k_bs, k_mb, k_ms, k_bm, k_mm, k_il, k_ir, lift_ite, k_id]
noncomputable def gX11_seenRefusal_52 (h : Hp) (c : Ch)  : Option Int32 :=
  some ((-4 : Int32))
theorem lX11_seenRefusal_52 (h : Hp) (c : Ch)  : fX11_seenRefusal_52 (cput h c)  = gX11_seenRefusal_52 h c  := by
  unfold fX11_seenRefusal_52 gX11_seenRefusal_52
  simp only [lift_lt, k_bs, k_mb, k_ms, k_bm, k_mm, k_il, k_ir, lift_ite, k_id]
noncomputable def gX11_seenRefusal_93 (h : Hp) (c : Ch)  : Option Int32 :=
  some ((-3 : Int32))
theorem lX11_seenRefusal_93 (h : Hp) (c : Ch)  : fX11_seenRefusal_93 (cput h c)  = gX11_seenRefusal_93 h c  := by
  unfold fX11_seenRefusal_93 gX11_seenRefusal_93
  simp only [lift_lt, k_bs, k_mb, k_ms, k_bm, k_mm, k_il, k_ir, lift_ite, k_id]
noncomputable def gX11_seenRefusal_58b (h : Hp) (c : Ch) (x3 : Nat) (x4 : Int32) : Option (Int32 ⊕ Int32) :=
  if (c.1 (tadr x3) 3) ≤ x4 then (
    some (.inr (0 : Int32))) else (
    (gX9_at h c x3 x4).bind fun y4 =>
    if (lg_cmp y4 (-1 : Int64)) < 0 then (
    (gX11_seenRefusal_93 h c ).map (fun q => .inr q)) else (
      (gX9_at h c x3 x4).bind fun y5 =>
      if (lg_cmp y5 (9 : Int64)) ≤ 0 then (
        some (.inl (x4 + Int32.ofInt 1))) else (
      (gX11_seenRefusal_93 h c ).map (fun q => .inr q))))
noncomputable def gX11_seenRefusal_58 (h : Hp) (c : Ch) (x3 : Nat) (x4 : Int32) : Option Int32 := lpw (σ := Int32) (fun s => gX11_seenRefusal_58b h c x3 s) x4
theorem lX11_seenRefusal_58b (h : Hp) (c : Ch) (x3 : Nat) (x4 : Int32) : fX11_seenRefusal_58b (cput h c) (tadr x3) x4 = gX11_seenRefusal_58b h c x3 x4 := by
  unfold fX11_seenRefusal_58b gX11_seenRefusal_58b
  simp only [cgI_t_3, cgO_t, lX9_at, lX11_seenRefusal_93, lift_lt, k_bs, k_mb, k_ms, k_bm, k_mm, k_il, k_ir, lift_ite, k_id]
theorem lX11_seenRefusal_58 (h : Hp) (c : Ch) (x3 : Nat) (x4 : Int32) : fX11_seenRefusal_58 (cput h c) (tadr x3) x4 = gX11_seenRefusal_58 h c x3 x4 := by
  unfold fX11_seenRefusal_58 gX11_seenRefusal_58
  refine congrArg (fun b => lpw b _) (funext (fun s => ?_))
  exact lX11_seenRefusal_58b h c x3 s
noncomputable def gX11_seenRefusal (h : Hp) (c : Ch) (x1 : Int32) (x2 : Int32) : Option Int32 :=
  (gX11_isTray x1).bind fun y1 =>
  if y1 = 0 then (
  gX11_seenRefusal_15 h c ) else (
    (gX11_isPair h c x2).bind fun y2 =>
    if y2 = 0 then (
    gX11_seenRefusal_15 h c ) else (
      iff_ (inB x1 4) (
      if (c.1 (tadr (x1.toNatClampNeg)) 2) = 0 then (
        if (c.1 (tadr (x1.toNatClampNeg)) 3) < (1 : Int32) then (
        gX11_seenRefusal_52 h c ) else (
          if (c.1 (tadr (x1.toNatClampNeg)) 3) ≤ (10 : Int32) then (
            gX11_seenRefusal_58 h c (x1.toNatClampNeg) (0 : Int32)) else (
          gX11_seenRefusal_52 h c ))) else (
        some ((-6 : Int32))))))
theorem lX11_seenRefusal (h : Hp) (c : Ch) (x1 : Int32) (x2 : Int32) : fX11_seenRefusal (cput h c) 80 x1 x2 = gX11_seenRefusal h c x1 x2 := by
  unfold fX11_seenRefusal gX11_seenRefusal
  simp only [lX11_isTray, lX11_seenRefusal_15, cgO_80, lX11_isPair, cgN_80_8, c_aN105, iff_map, cgI_t_2, cgI_t_3, lX11_seenRefusal_52, lX11_seenRefusal_58, lift_lt, k_bs, k_mb, k_ms, k_bm, k_mm, k_il, k_ir, lift_ite, k_id]
noncomputable def gX2_follow_143 (gc : Nat → Ch → Nat → Int32 → Int32 → Int32 → Option Ch) (h : Hp) (c : Ch) (x1 : Nat) (x2 : Int32) (x3 : Int32) (x4 : Int32) (x5 : Int32) : Option ((Int32 × Ch) ⊕ Ch) :=
  some (.inl ((x5 + Int32.ofInt 1), c))
theorem lX2_follow_143 (h : Hp) {rc : Nat → Hp → Nat → Nat → Int32 → Int32 → Int32 → Option Hp} {gc : Nat → Ch → Nat → Int32 → Int32 → Int32 → Option Ch} (hgc : ∀ (sel : Nat) (c : Ch) (x1 : Nat) (x2 : Int32) (x3 : Int32) (x4 : Int32), rc sel (cput h c) 115 (tadr x1) x2 x3 x4 = (gc sel c x1 x2 x3 x4).map (cput h)) (c : Ch) (x1 : Nat) (x2 : Int32) (x3 : Int32) (x4 : Int32) (x5 : Int32) : fX2_follow_143 rc (cput h c) 115 (tadr x1) x2 x3 x4 x5 = (gX2_follow_143 gc h c x1 x2 x3 x4 x5).map (Sum.map (fun (s : (Int32 × Ch)) => (s.1, cput h s.2)) (cput h)) := by
  unfold fX2_follow_143 gX2_follow_143
  simp only [lift_lt, k_bs, k_mb, k_ms, k_bm, k_mm, k_il, k_ir, lift_ite, k_id]
noncomputable def gX2_follow_126 (gc : Nat → Ch → Nat → Int32 → Int32 → Int32 → Option Ch) (h : Hp) (c : Ch) (x1 : Nat) (x2 : Int32) (x3 : Int32) (x4 : Int32) (x5 : Int32) (x6 : Int32) : Option ((Int32 × Ch) ⊕ Ch) :=
  (gc 0 c x1 (x2 + (1 : Int32)) x6 (x4 ||| (x5 <<< (x2 &&& 31)))).bind fun y3 =>
  gX2_follow_143 gc h y3 x1 x2 x3 x4 x5
theorem lX2_follow_126 (h : Hp) {rc : Nat → Hp → Nat → Nat → Int32 → Int32 → Int32 → Option Hp} {gc : Nat → Ch → Nat → Int32 → Int32 → Int32 → Option Ch} (hgc : ∀ (sel : Nat) (c : Ch) (x1 : Nat) (x2 : Int32) (x3 : Int32) (x4 : Int32), rc sel (cput h c) 115 (tadr x1) x2 x3 x4 = (gc sel c x1 x2 x3 x4).map (cput h)) (c : Ch) (x1 : Nat) (x2 : Int32) (x3 : Int32) (x4 : Int32) (x5 : Int32) (x6 : Int32) : fX2_follow_126 rc (cput h c) 115 (tadr x1) x2 x3 x4 x5 x6 = (gX2_follow_126 gc h c x1 x2 x3 x4 x5 x6).map (Sum.map (fun (s : (Int32 × Ch)) => (s.1, cput h s.2)) (cput h)) := by
  unfold fX2_follow_126 gX2_follow_126
  simp only [cgO_115, hgc, lX2_follow_143 h hgc, lift_lt, k_bs, k_mb, k_ms, k_bm, k_mm, k_il, k_ir, lift_ite, k_id]
noncomputable def gX2_follow_73b (gc : Nat → Ch → Nat → Int32 → Int32 → Int32 → Option Ch) (h : Hp) (c : Ch) (x1 : Nat) (x2 : Int32) (x3 : Int32) (x4 : Int32) (x5 : Int32) : Option ((Int32 × Ch) ⊕ Ch) :=
  if (1 : Int32) < x5 then (
    some (.inr c)) else (
    (gX1_after h c x3 (c.1 115 2) x5).bind fun y1 =>
    (gX9_at h y1.2 x1 x2).bind fun y2 =>
    if (lg_cmp y2 (-1 : Int64)) = 0 then (
    gX2_follow_126 gc h y1.2 x1 x2 x3 x4 x5 y1.1) else (
      (gX9_at h y1.2 x1 x2).bind fun y4 =>
      (gX11_digit y1.1 (y1.2.1 115 1)).bind fun y5 =>
      if (lg_cmp y4 (y5.toInt64)) = 0 then (
      gX2_follow_126 gc h y1.2 x1 x2 x3 x4 x5 y1.1) else (
      gX2_follow_143 gc h y1.2 x1 x2 x3 x4 x5)))
noncomputable def gX2_follow_73 (gc : Nat → Ch → Nat → Int32 → Int32 → Int32 → Option Ch) (h : Hp) (c : Ch) (x1 : Nat) (x2 : Int32) (x3 : Int32) (x4 : Int32) (x5 : Int32) : Option Ch := lpw (σ := (Int32 × Ch)) (fun s => gX2_follow_73b gc h s.2 x1 x2 x3 x4 s.1) (x5, c)
theorem lX2_follow_73b (h : Hp) {rc : Nat → Hp → Nat → Nat → Int32 → Int32 → Int32 → Option Hp} {gc : Nat → Ch → Nat → Int32 → Int32 → Int32 → Option Ch} (hgc : ∀ (sel : Nat) (c : Ch) (x1 : Nat) (x2 : Int32) (x3 : Int32) (x4 : Int32), rc sel (cput h c) 115 (tadr x1) x2 x3 x4 = (gc sel c x1 x2 x3 x4).map (cput h)) (c : Ch) (x1 : Nat) (x2 : Int32) (x3 : Int32) (x4 : Int32) (x5 : Int32) : fX2_follow_73b rc (cput h c) 115 (tadr x1) x2 x3 x4 x5 = (gX2_follow_73b gc h c x1 x2 x3 x4 x5).map (Sum.map (fun (s : (Int32 × Ch)) => (s.1, cput h s.2)) (cput h)) := by
  unfold fX2_follow_73b gX2_follow_73b
  simp only [cgN_115_0, cgI_115_2, cgO_108, lX1_after, cgO_t, lX9_at, lX2_follow_126 h hgc, cgI_115_1, lX11_digit, lX2_follow_143 h hgc, lift_lt, k_bs, k_mb, k_ms, k_bm, k_mm, k_il, k_ir, lift_ite, k_id]
theorem lX2_follow_73 (h : Hp) {rc : Nat → Hp → Nat → Nat → Int32 → Int32 → Int32 → Option Hp} {gc : Nat → Ch → Nat → Int32 → Int32 → Int32 → Option Ch} (hgc : ∀ (sel : Nat) (c : Ch) (x1 : Nat) (x2 : Int32) (x3 : Int32) (x4 : Int32), rc sel (cput h c) 115 (tadr x1) x2 x3 x4 = (gc sel c x1 x2 x3 x4).map (cput h)) (c : Ch) (x1 : Nat) (x2 : Int32) (x3 : Int32) (x4 : Int32) (x5 : Int32) : fX2_follow_73 rc (cput h c) 115 (tadr x1) x2 x3 x4 x5 = (gX2_follow_73 gc h c x1 x2 x3 x4 x5).map (cput h) := by
  unfold fX2_follow_73 gX2_follow_73
  exact lpw_map _ _ (fun (s : (Int32 × Ch)) => (s.1, cput h s.2)) (cput h) (fun s => lX2_follow_73b h hgc s.2 x1 x2 x3 x4 s.1) (x5, c)
noncomputable def gX2_follow_32 (gc : Nat → Ch → Nat → Int32 → Int32 → Int32 → Option Ch) (h : Hp) (c : Ch) (x4 : Int32) (s1 : Int32) : Option Ch :=
  lt (cI c 115 5 s1) fun c6 =>
  lt (cI c6 115 4 ((c6.1 115 4) + (1 : Int32))) fun c7 =>
  lt (cI c7 115 6 ((c7.1 115 6) &&& x4)) fun c8 =>
  lt (cI c8 115 7 ((c8.1 115 7) &&& (x4 ^^^ (-1 : Int32)))) fun c9 =>
  some (c9)
theorem lX2_follow_32 (h : Hp) {rc : Nat → Hp → Nat → Nat → Int32 → Int32 → Int32 → Option Hp} {gc : Nat → Ch → Nat → Int32 → Int32 → Int32 → Option Ch} (hgc : ∀ (sel : Nat) (c : Ch) (x1 : Nat) (x2 : Int32) (x3 : Int32) (x4 : Int32), rc sel (cput h c) 115 (tadr x1) x2 x3 x4 = (gc sel c x1 x2 x3 x4).map (cput h)) (c : Ch) (x4 : Int32) (s1 : Int32) : fX2_follow_32 rc (cput h c) 115 x4 115 s1 = (gX2_follow_32 gc h c x4 s1).map (cput h) := by
  unfold fX2_follow_32 gX2_follow_32
  simp only [csI_115_5, cgI_115_4, csI_115_4, cgI_115_6, csI_115_6, cgI_115_7, csI_115_7, lift_lt, k_bs, k_mb, k_ms, k_bm, k_mm, k_il, k_ir, lift_ite, k_id]
noncomputable def gX2_follow (gc : Nat → Ch → Nat → Int32 → Int32 → Int32 → Option Ch) (h : Hp) (c : Ch) (x1 : Nat) (x2 : Int32) (x3 : Int32) (x4 : Int32) : Option Ch :=
  if x2 ≤ (10 : Int32) then (
    if x2 < (c.1 (tadr x1) 3) then (
      gX2_follow_73 gc h c x1 x2 x3 x4 (0 : Int32)) else (
      if (c.1 115 4) = 0 then (
        gX2_follow_32 gc h c x4 x4) else (
        gX2_follow_32 gc h c x4 (c.1 115 5)))) else (
    some (c))
theorem lX2_follow (h : Hp) {rc : Nat → Hp → Nat → Nat → Int32 → Int32 → Int32 → Option Hp} {gc : Nat → Ch → Nat → Int32 → Int32 → Int32 → Option Ch} (hgc : ∀ (sel : Nat) (c : Ch) (x1 : Nat) (x2 : Int32) (x3 : Int32) (x4 : Int32), rc sel (cput h c) 115 (tadr x1) x2 x3 x4 = (gc sel c x1 x2 x3 x4).map (cput h)) (c : Ch) (x1 : Nat) (x2 : Int32) (x3 : Int32) (x4 : Int32) : fX2_follow rc (cput h c) 115 (tadr x1) x2 x3 x4 = (gX2_follow gc h c x1 x2 x3 x4).map (cput h) := by
  unfold fX2_follow gX2_follow
  simp only [cgI_t_3, lX2_follow_73 h hgc, cgI_115_4, cgI_115_5, lX2_follow_32 h hgc, lift_lt, k_bs, k_mb, k_ms, k_bm, k_mm, k_il, k_ir, lift_ite, k_id]
noncomputable def grX2_follow (h : Hp) : Nat → Nat → Ch → Nat → Int32 → Int32 → Int32 → Option Ch
  | 0, _, _, _, _, _, _ => none
  | n + 1, sel, c, x1, x2, x3, x4 => gX2_follow (grX2_follow h n) h c x1 x2 x3 x4
theorem lrX2_follow (h : Hp) : ∀ (n sel : Nat) (c : Ch) (x1 : Nat) (x2 : Int32) (x3 : Int32) (x4 : Int32), rX2_follow n sel (cput h c) 115 (tadr x1) x2 x3 x4 = (grX2_follow h n sel c x1 x2 x3 x4).map (cput h)
  | 0, sel, c, x1, x2, x3, x4 => rfl
  | n + 1, sel, c, x1, x2, x3, x4 => by
    have ih := lrX2_follow h n
    simp only [rX2_follow, grX2_follow]
    exact lX2_follow h ih c x1 x2 x3 x4
noncomputable def gX2_trace (h : Hp) (c : Ch) (x1 : Nat) (x2 : Int32) (x3 : Int32) (x4 : Int32) : Option Ch :=
  lt (cI c 115 1 x2) fun c1 =>
  lt (cI c1 115 2 x4) fun c2 =>
  lt (cI c2 115 4 (0 : Int32)) fun c3 =>
  lt (cI c3 115 5 (0 : Int32)) fun c4 =>
  lt (cI c4 115 6 (((1 : Int32) <<< ((c4.1 (tadr x1) 3) &&& 31)) - (1 : Int32))) fun c5 =>
  lt (cI c5 115 7 (c5.1 115 6)) fun c6 =>
  (grX2_follow h 100 0 c6 x1 (0 : Int32) x3 (0 : Int32)).bind fun y7 =>
  some (y7)
theorem lX2_trace (h : Hp) (c : Ch) (x1 : Nat) (x2 : Int32) (x3 : Int32) (x4 : Int32) : fX2_trace (cput h c) 115 (tadr x1) x2 x3 x4 = (gX2_trace h c x1 x2 x3 x4).map (cput h) := by
  unfold fX2_trace gX2_trace
  simp only [csI_115_1, csI_115_2, csI_115_4, csI_115_5, cgI_t_3, csI_115_6, cgI_115_6, csI_115_7, cgO_115, lrX2_follow, lift_lt, k_bs, k_mb, k_ms, k_bm, k_mm, k_il, k_ir, lift_ite, k_id]
noncomputable def gX11_traceSeen (h : Hp) (c : Ch) (x1 : Int32) (x2 : Int32) : Option Ch :=
  (gX11_tuned h c ).bind fun y1 =>
  iff_ (inB x1 4) (
  (gX2_trace h y1 (x1.toNatClampNeg) x2 (y1.1 (sadr 0) 0) (y1.1 (sadr 0) 2)).bind fun y3 =>
  some (y3))
theorem lX11_traceSeen (h : Hp) (c : Ch) (x1 : Int32) (x2 : Int32) : fX11_traceSeen (cput h c) 80 x1 x2 = (gX11_traceSeen h c x1 x2).map (cput h) := by
  unfold fX11_traceSeen gX11_traceSeen
  simp only [cgO_80, lX11_tuned, cgN_80_13, cgN_80_8, c_aN105, iff_map, cgN_80_4, cgI_s_0, cgI_s_2, cgO_115, lX2_trace, lift_lt, k_bs, k_mb, k_ms, k_bm, k_mm, k_il, k_ir, lift_ite, k_id]
noncomputable def gX11_seen (h : Hp) (c : Ch) (x1 : Int32) (x2 : Int32) : Option (Int32 × Ch) :=
  (gX11_seenRefusal h c x1 x2).bind fun y1 =>
  if y1 = 0 then (
    (gX11_traceSeen h c x1 x2).bind fun y2 =>
    some (((y2.1 115 4), y2))) else (
    some ((y1, c)))
theorem lX11_seen (h : Hp) (c : Ch) (x1 : Int32) (x2 : Int32) : fX11_seen (cput h c) 80 x1 x2 = (gX11_seen h c x1 x2).map (fun (y : (Int32 × Ch)) => (y.1, cput h y.2)) := by
  unfold fX11_seen gX11_seen
  simp only [cgO_80, lX11_seenRefusal, lX11_traceSeen, cgN_80_13, cgI_115_4, lift_lt, k_bs, k_mb, k_ms, k_bm, k_mm, k_il, k_ir, lift_ite, k_id]
noncomputable def gX11_seenDry_52 (h : Hp) (c : Ch)  : Option (Int32 × Ch) :=
  some (((-1 : Int32), c))
theorem lX11_seenDry_52 (h : Hp) (c : Ch)  : fX11_seenDry_52 (cput h c)  = (gX11_seenDry_52 h c ).map (fun (y : (Int32 × Ch)) => (y.1, cput h y.2)) := by
  unfold fX11_seenDry_52 gX11_seenDry_52
  simp only [lift_lt, k_bs, k_mb, k_ms, k_bm, k_mm, k_il, k_ir, lift_ite, k_id]
noncomputable def gX11_seenDry (h : Hp) (c : Ch) (x1 : Int32) (x2 : Int32) (x3 : Int32) : Option (Int32 × Ch) :=
  (gX11_seenRefusal h c x1 x2).bind fun y1 =>
  if y1 = 0 then (
    if 0 ≤ x3 then (
      (gX11_traceSeen h c x1 x2).bind fun y2 =>
      if (y2.1 115 4) = 0 then (
      gX11_seenDry_52 h y2 ) else (
        iff_ (inB x1 4) (
        if x3 < (y2.1 (tadr (x1.toNatClampNeg)) 3) then (
          some (((((y2.1 115 5) >>> (x3 &&& 31)) &&& (1 : Int32)), y2))) else (
        gX11_seenDry_52 h y2 )))) else (
      some (((-3 : Int32), c)))) else (
    some ((y1, c)))
theorem lX11_seenDry (h : Hp) (c : Ch) (x1 : Int32) (x2 : Int32) (x3 : Int32) : fX11_seenDry (cput h c) 80 x1 x2 x3 = (gX11_seenDry h c x1 x2 x3).map (fun (y : (Int32 × Ch)) => (y.1, cput h y.2)) := by
  unfold fX11_seenDry gX11_seenDry
  simp only [cgO_80, lX11_seenRefusal, lX11_traceSeen, cgN_80_13, cgI_115_4, lX11_seenDry_52, cgN_80_8, c_aN105, iff_map, cgI_t_3, cgI_115_5, lift_lt, k_bs, k_mb, k_ms, k_bm, k_mm, k_il, k_ir, lift_ite, k_id]
