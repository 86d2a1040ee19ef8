/-! the class over its own numbers -/
noncomputable def gX11_searching (h : Hp) (c : Ch)  : Option Ch :=
  (c.2.2.1 80 3).bind fun v1 =>
  (gX7_tune h c v1 (c.1 (sadr 0) 1)).bind fun y2 =>
  some (y2)
theorem lX11_searching (h : Hp) (c : Ch)  : fX11_searching (cput h c) 80 = (gX11_searching h c ).map (fun (y : Ch) => ((116 : Nat), cput h y)) := by
  unfold fX11_searching gX11_searching
  simp only [cgN_80_14, cgN_80_3, cgN_80_4, cgI_s_1, cgO_116, lX7_tune, lift_lt, k_bs, k_mb, k_ms, k_bm, k_mm, k_il, k_ir, lift_ite, k_id]
noncomputable def gX7_begin (h : Hp) (c : Ch)  : Option Ch :=
  lt (cI c 116 13 (0 : Int32)) fun c1 =>
  lt (cI c1 116 4 ((c1.1 116 4) + (1 : Int32))) fun c2 =>
  lt (cI c2 116 12 (0 : Int32)) fun c3 =>
  some (c3)
theorem lX7_begin (h : Hp) (c : Ch)  : fX7_begin (cput h c) 116 = (gX7_begin h c ).map (cput h) := by
  unfold fX7_begin gX7_begin
  simp only [csI_116_13, cgI_116_4, csI_116_4, csI_116_12, lift_lt, k_bs, k_mb, k_ms, k_bm, k_mm, k_il, k_ir, lift_ite, k_id]
noncomputable def gX7_isState_16 (s0 : Int32) : Option Int32 :=
  bl s0 (some (s0))
theorem lX7_isState_16 (h : Hp) (s0 : Int32) : fX7_isState_16 h s0 = gX7_isState_16 s0 := by
  unfold fX7_isState_16 gX7_isState_16
  simp only [lift_bl, lift_lt, k_bs, k_mb, k_ms, k_bm, k_mm, k_il, k_ir, lift_ite, k_id]
noncomputable def gX7_isState_15  : Option Int32 :=
  gX7_isState_16 (0 : Int32)
theorem lX7_isState_15 (h : Hp)  : fX7_isState_15 h  = gX7_isState_15  := by
  unfold fX7_isState_15 gX7_isState_15
  simp only [lX7_isState_16, lift_lt, k_bs, k_mb, k_ms, k_bm, k_mm, k_il, k_ir, lift_ite, k_id]
noncomputable def gX7_isState (x0 : Int32) : Option Int32 :=
  if x0 < 0 then (
  gX7_isState_15 ) else (
    if (20000 : Int32) ≤ x0 then (
    gX7_isState_15 ) else (
      gX7_isState_16 (1 : Int32)))
theorem lX7_isState (h : Hp) (x0 : Int32) : fX7_isState h x0 = gX7_isState x0 := by
  unfold fX7_isState gX7_isState
  simp only [lX7_isState_15, lX7_isState_16, lift_lt, k_bs, k_mb, k_ms, k_bm, k_mm, k_il, k_ir, lift_ite, k_id]
noncomputable def gX7_reach_61 (h : Hp) (c : Ch)  : Option Ch :=
  some (c)
theorem lX7_reach_61 (h : Hp) (c : Ch)  : fX7_reach_61 (cput h c)  = (gX7_reach_61 h c ).map (cput h) := by
  unfold fX7_reach_61 gX7_reach_61
  simp only [lift_lt, k_bs, k_mb, k_ms, k_bm, k_mm, k_il, k_ir, lift_ite, k_id]
noncomputable def gX7_reach (h : Hp) (c : Ch) (x1 : Int32) (x2 : Int32) : Option Ch :=
  (gX7_isState x1).bind fun y1 =>
  if y1 = 0 then (
  gX7_reach_61 h c ) else (
    if (20000 : Int32) ≤ (c.1 116 12) then (
    gX7_reach_61 h c ) else (
      (cWA c 0 117 20000 x1 (c.1 116 4)).bind fun c2 =>
      (cWA c2 0 119 20000 x1 x2).bind fun c3 =>
      (cWA c3 0 120 20000 x1 (0 : Int32)).bind fun c4 =>
      (cWA c4 0 118 20000 (c4.1 116 12) x1).bind fun c5 =>
      lt (cI c5 116 12 ((c5.1 116 12) + (1 : Int32))) fun c6 =>
      gX7_reach_61 h c6 ))
theorem lX7_reach (h : Hp) (c : Ch) (x1 : Int32) (x2 : Int32) : fX7_reach (cput h c) 116 x1 x2 = (gX7_reach h c x1 x2).map (cput h) := by
  unfold fX7_reach gX7_reach
  simp only [lX7_isState, lX7_reach_61, cgI_116_12, cgN_116_3, cgI_116_4, cwI_117, cgN_116_6, cwI_119, cgN_116_7, cwI_120, cgN_116_5, cwI_118, csI_116_12, lift_lt, k_bs, k_mb, k_ms, k_bm, k_mm, k_il, k_ir, lift_ite, k_id]
noncomputable def gX7_isGoal_41 (h : Hp) (c : Ch) (s0 : Int32) : Option Int32 :=
  bl s0 (some (s0))
theorem lX7_isGoal_41 (h : Hp) (c : Ch) (s0 : Int32) : fX7_isGoal_41 (cput h c) s0 = gX7_isGoal_41 h c s0 := by
  unfold fX7_isGoal_41 gX7_isGoal_41
  simp only [lift_bl, lift_lt, k_bs, k_mb, k_ms, k_bm, k_mm, k_il, k_ir, lift_ite, k_id]
noncomputable def gX7_isGoal_40 (h : Hp) (c : Ch)  : Option Int32 :=
  gX7_isGoal_41 h c (0 : Int32)
theorem lX7_isGoal_40 (h : Hp) (c : Ch)  : fX7_isGoal_40 (cput h c)  = gX7_isGoal_40 h c  := by
  unfold fX7_isGoal_40 gX7_isGoal_40
  simp only [lX7_isGoal_41, lift_lt, k_bs, k_mb, k_ms, k_bm, k_mm, k_il, k_ir, lift_ite, k_id]
noncomputable def gX7_isGoal_23 (h : Hp) (c : Ch) (s0 : Int32) : Option Int32 :=
  bl s0 (some (s0))
theorem lX7_isGoal_23 (h : Hp) (c : Ch) (s0 : Int32) : fX7_isGoal_23 (cput h c) s0 = gX7_isGoal_23 h c s0 := by
  unfold fX7_isGoal_23 gX7_isGoal_23
  simp only [lift_bl, lift_lt, k_bs, k_mb, k_ms, k_bm, k_mm, k_il, k_ir, lift_ite, k_id]
noncomputable def gX7_isGoal (h : Hp) (c : Ch) (x1 : Int32) (x2 : Int32) : Option Int32 :=
  if x2 < 0 then (
    if x2 = (-1 : Int32) then (
      if x1 < (10000 : Int32) then (
      gX7_isGoal_40 h c ) else (
        gX7_isGoal_41 h c (1 : Int32))) else (
    gX7_isGoal_40 h c )) else (
    (c.2.2.1 116 1).bind fun v1 =>
    gO (cput h c) 0 v1 (
    (fX0_metBits (cput h c) v1 x1).bind fun y2 =>
    if (y2 &&& x2) = x2 then (
      gX7_isGoal_23 h c (1 : Int32)) else (
      gX7_isGoal_23 h c (0 : Int32))))
theorem lX7_isGoal (h : Hp) (c : Ch) (x1 : Int32) (x2 : Int32) : fX7_isGoal (cput h c) 116 x1 x2 = gX7_isGoal h c x1 x2 := by
  unfold fX7_isGoal gX7_isGoal
  simp only [lX7_isGoal_40, lX7_isGoal_41, cgN_116_1, lift_gOm, lX7_isGoal_23, lift_lt, k_bs, k_mb, k_ms, k_bm, k_mm, k_il, k_ir, lift_ite, k_id]
noncomputable def gX1_spread_243 (h : Hp) (c : Ch) (x2 : Int32) (x3 : Nat) (x5 : Nat) (x6 : Int32) (x7 : Int32) (s0 : Nat) (s1 : Int32) (s2 : Int32) : Option ((Int32 × Ch) ⊕ Ch) :=
  (cWA c 0 (wadr s0) 35 s1 s2).bind fun c18 =>
  some (.inl ((x7 + Int32.ofInt 1), c18))
theorem lX1_spread_243 (h : Hp) (c : Ch) (x2 : Int32) (x3 : Nat) (x5 : Nat) (x6 : Int32) (x7 : Int32) (s0 : Nat) (s1 : Int32) (s2 : Int32) : fX1_spread_243 (cput h c) 108 x2 (wadr x3) x5 x6 x7 (wadr s0) s1 s2 = (gX1_spread_243 h c x2 x3 x5 x6 x7 s0 s1 s2).map (Sum.map (fun (s : (Int32 × Ch)) => (s.1, cput h s.2)) (cput h)) := by
  unfold fX1_spread_243 gX1_spread_243
  simp only [cwI_wa, lift_lt, k_bs, k_mb, k_ms, k_bm, k_mm, k_il, k_ir, lift_ite, k_id]
noncomputable def gX1_spread_241 (h : Hp) (c : Ch) (x2 : Int32) (x3 : Nat) (x5 : Nat) (x6 : Int32) (x7 : Int32) (x8 : Int32) (s0 : Nat) (s1 : Int32) : Option ((Int32 × Ch) ⊕ Ch) :=
  gX1_spread_243 h c x2 x3 x5 x6 x7 s0 s1 x8
theorem lX1_spread_241 (h : Hp) (c : Ch) (x2 : Int32) (x3 : Nat) (x5 : Nat) (x6 : Int32) (x7 : Int32) (x8 : Int32) (s0 : Nat) (s1 : Int32) : fX1_spread_241 (cput h c) 108 x2 (wadr x3) x5 x6 x7 x8 (wadr s0) s1 = (gX1_spread_241 h c x2 x3 x5 x6 x7 x8 s0 s1).map (Sum.map (fun (s : (Int32 × Ch)) => (s.1, cput h s.2)) (cput h)) := by
  unfold fX1_spread_241 gX1_spread_241
  simp only [lX1_spread_243, lift_lt, k_bs, k_mb, k_ms, k_bm, k_mm, k_il, k_ir, lift_ite, k_id]
noncomputable def gX1_spread_214 (h : Hp) (c : Ch) (x2 : Int32) (x3 : Nat) (x5 : Nat) (x6 : Int32) (x7 : Int32) (x8 : Int32) : Option ((Int32 × Ch) ⊕ Ch) :=
  if x6 = 0 then (
  gX1_spread_241 h c x2 x3 x5 x6 x7 x8 x3 x7) else (
    (gX1_collapses h c x8 x2).bind fun y19 =>
    if y19.1 = 0 then (
    gX1_spread_241 h y19.2 x2 x3 x5 x6 x7 x8 x3 x7) else (
      gX1_spread_243 h y19.2 x2 x3 x5 x6 x7 x3 x7 (x8 + (10000 : Int32))))
theorem lX1_spread_214 (h : Hp) (c : Ch) (x2 : Int32) (x3 : Nat) (x5 : Nat) (x6 : Int32) (x7 : Int32) (x8 : Int32) : fX1_spread_214 (cput h c) 108 x2 (wadr x3) x5 x6 x7 x8 = (gX1_spread_214 h c x2 x3 x5 x6 x7 x8).map (Sum.map (fun (s : (Int32 × Ch)) => (s.1, cput h s.2)) (cput h)) := by
  unfold fX1_spread_214 gX1_spread_214
  simp only [lX1_spread_241, cgO_108, lX1_collapses, lX1_spread_243, lift_lt, k_bs, k_mb, k_ms, k_bm, k_mm, k_il, k_ir, lift_ite, k_id]
noncomputable def gX1_spread_176b (h : Hp) (c : Ch) (x2 : Int32) (x3 : Nat) (x5 : Nat) (x6 : Int32) (x7 : Int32) (x8 : Int32) (x9 : Int32) : Option ((Int32 × Int32) ⊕ ((Int32 × Ch) ⊕ Ch)) :=
  (c.2.2.1 108 5).bind fun v16 =>
  (gI (cput h c) 0 v16 0).bind fun v17 =>
  if ((x7 * (4 : Int32)) + v17) ≤ x9 then (
  (gX1_spread_214 h c x2 x3 x5 x6 x7 x8).map (fun q => .inr q)) else (
    (aI 0 (cput h c) x5 x9).bind fun v20 =>
    (cA c 113 20 v20).bind fun v21 =>
    some (.inl ((x8 + v21), (x9 + Int32.ofInt 1))))
noncomputable def gX1_spread_176 (h : Hp) (c : Ch) (x2 : Int32) (x3 : Nat) (x5 : Nat) (x6 : Int32) (x7 : Int32) (x8 : Int32) (x9 : Int32) : Option ((Int32 × Ch) ⊕ Ch) := lpw (σ := (Int32 × Int32)) (fun s => gX1_spread_176b h c x2 x3 x5 x6 x7 s.1 s.2) (x8, x9)
theorem lX1_spread_176b (h : Hp) (c : Ch) (x2 : Int32) (x3 : Nat) (x5 : Nat) (x6 : Int32) (x7 : Int32) (x8 : Int32) (x9 : Int32) : fX1_spread_176b (cput h c) 108 x2 (wadr x3) x5 x6 x7 x8 x9 = (gX1_spread_176b h c x2 x3 x5 x6 x7 x8 x9).map (Sum.map id (Sum.map (fun (s : (Int32 × Ch)) => (s.1, cput h s.2)) (cput h))) := by
  unfold fX1_spread_176b gX1_spread_176b
  simp only [cgN_108_5, lX1_spread_214, cgN_108_4, caI_113, lift_lt, k_bs, k_mb, k_ms, k_bm, k_mm, k_il, k_ir, lift_ite, k_id]
theorem lX1_spread_176 (h : Hp) (c : Ch) (x2 : Int32) (x3 : Nat) (x5 : Nat) (x6 : Int32) (x7 : Int32) (x8 : Int32) (x9 : Int32) : fX1_spread_176 (cput h c) 108 x2 (wadr x3) x5 x6 x7 x8 x9 = (gX1_spread_176 h c x2 x3 x5 x6 x7 x8 x9).map (Sum.map (fun (s : (Int32 × Ch)) => (s.1, cput h s.2)) (cput h)) := by
  unfold fX1_spread_176 gX1_spread_176
  exact lpw_map _ _ id (Sum.map (fun (s : (Int32 × Ch)) => (s.1, cput h s.2)) (cput h)) (fun s => lX1_spread_176b h c x2 x3 x5 x6 x7 s.1 s.2) (x8, x9)
noncomputable def gX1_spread_154b (h : Hp) (c : Ch) (x2 : Int32) (x3 : Nat) (x5 : Nat) (x6 : Int32) (x7 : Int32) : Option ((Int32 × Ch) ⊕ Ch) :=
  (c.2.2.1 108 5).bind fun v13 =>
  (gN (cput h c) 0 v13 9).bind fun v14 =>
  (aL (cput h c) v14).bind fun v15 =>
  if v15 ≤ x7 then (
    some (.inr c)) else (
    gX1_spread_176 h c x2 x3 x5 x6 x7 (0 : Int32) (x7 * (4 : Int32)))
noncomputable def gX1_spread_154 (h : Hp) (c : Ch) (x2 : Int32) (x3 : Nat) (x5 : Nat) (x6 : Int32) (x7 : Int32) : Option Ch := lpw (σ := (Int32 × Ch)) (fun s => gX1_spread_154b h s.2 x2 x3 x5 x6 s.1) (x7, c)
theorem lX1_spread_154b (h : Hp) (c : Ch) (x2 : Int32) (x3 : Nat) (x5 : Nat) (x6 : Int32) (x7 : Int32) : fX1_spread_154b (cput h c) 108 x2 (wadr x3) x5 x6 x7 = (gX1_spread_154b h c x2 x3 x5 x6 x7).map (Sum.map (fun (s : (Int32 × Ch)) => (s.1, cput h s.2)) (cput h)) := by
  unfold fX1_spread_154b gX1_spread_154b
  simp only [cgN_108_5, lX1_spread_176, lift_lt, k_bs, k_mb, k_ms, k_bm, k_mm, k_il, k_ir, lift_ite, k_id]
theorem lX1_spread_154 (h : Hp) (c : Ch) (x2 : Int32) (x3 : Nat) (x5 : Nat) (x6 : Int32) (x7 : Int32) : fX1_spread_154 (cput h c) 108 x2 (wadr x3) x5 x6 x7 = (gX1_spread_154 h c x2 x3 x5 x6 x7).map (cput h) := by
  unfold fX1_spread_154 gX1_spread_154
  exact lpw_map _ _ (fun (s : (Int32 × Ch)) => (s.1, cput h s.2)) (cput h) (fun s => lX1_spread_154b h s.2 x2 x3 x5 x6 s.1) (x7, c)
noncomputable def gX1_spread_149 (h : Hp) (c : Ch) (x2 : Int32) (x3 : Nat) (x5 : Nat) (s0 : Int32) : Option Ch :=
  gX1_spread_154 h c x2 x3 x5 s0 (0 : Int32)
theorem lX1_spread_149 (h : Hp) (c : Ch) (x2 : Int32) (x3 : Nat) (x5 : Nat) (s0 : Int32) : fX1_spread_149 (cput h c) 108 x2 (wadr x3) x5 s0 = (gX1_spread_149 h c x2 x3 x5 s0).map (cput h) := by
  unfold fX1_spread_149 gX1_spread_149
  simp only [lX1_spread_154, lift_lt, k_bs, k_mb, k_ms, k_bm, k_mm, k_il, k_ir, lift_ite, k_id]
noncomputable def gX1_spread_125 (h : Hp) (c : Ch) (x2 : Int32) (x3 : Nat) : Option Ch :=
  (c.2.2.1 108 5).bind fun v8 =>
  (gN (cput h c) 0 v8 10).bind fun v9 =>
  (c.2.2.1 108 5).bind fun v10 =>
  (gR (cput h c) 0 v10 8).bind fun v11 =>
  match v11 with
  | none => (
    gX1_spread_149 h c x2 x3 v9 (0 : Int32))
  | some n12 => (
    gX1_spread_149 h c x2 x3 v9 (1 : Int32))
theorem lX1_spread_125 (h : Hp) (c : Ch) (x2 : Int32) (x3 : Nat) : fX1_spread_125 (cput h c) 108 x2 (wadr x3) = (gX1_spread_125 h c x2 x3).map (cput h) := by
  unfold fX1_spread_125 gX1_spread_125
  simp only [cgN_108_5, lX1_spread_149, lift_lt, k_bs, k_mb, k_ms, k_bm, k_mm, k_il, k_ir, lift_ite, k_id]
  repeat' (first | with_reducible rfl | refine k_bcO ?_ (fun _ => ?_) | refine k_bc (fun _ => ?_) | refine k_ic ?_ ?_ | simp only [cgN_108_5, lX1_spread_149, lift_lt, k_bs, k_mb, k_ms, k_bm, k_mm, k_il, k_ir, lift_ite, k_id] | split)
noncomputable def gX1_spread_119 (h : Hp) (c : Ch) (x1 : Int32) (x2 : Int32) (x3 : Nat) (x4 : Int32) (x5 : Int32) : Option ((Int32 × Ch) ⊕ Ch) :=
  some (.inl ((x5 + Int32.ofInt 1), c))
theorem lX1_spread_119 (h : Hp) (c : Ch) (x1 : Int32) (x2 : Int32) (x3 : Nat) (x4 : Int32) (x5 : Int32) : fX1_spread_119 (cput h c) 108 x1 x2 (wadr x3) x4 x5 = (gX1_spread_119 h c x1 x2 x3 x4 x5).map (Sum.map (fun (s : (Int32 × Ch)) => (s.1, cput h s.2)) (cput h)) := by
  unfold fX1_spread_119 gX1_spread_119
  simp only [lift_lt, k_bs, k_mb, k_ms, k_bm, k_mm, k_il, k_ir, lift_ite, k_id]
noncomputable def gX1_spread_90 (h : Hp) (c : Ch) (x1 : Int32) (x2 : Int32) (x3 : Nat) (x4 : Int32) (x5 : Int32) (x6 : Int32) (x7 : Int32) (s0 : Int32) : Option ((Int32 × Ch) ⊕ ((Int32 × Ch) ⊕ Ch)) :=
  (tT 1 x5).bind fun v27 =>
  (cWA c 0 113 20 ((x5 * (5 : Int32)) + x7) (s0 * v27)).bind fun c28 =>
  some (.inl ((x7 + Int32.ofInt 1), c28))
theorem lX1_spread_90 (h : Hp) (c : Ch) (x1 : Int32) (x2 : Int32) (x3 : Nat) (x4 : Int32) (x5 : Int32) (x6 : Int32) (x7 : Int32) (s0 : Int32) : fX1_spread_90 (cput h c) 108 x1 x2 (wadr x3) x4 x5 x6 x7 s0 = (gX1_spread_90 h c x1 x2 x3 x4 x5 x6 x7 s0).map (Sum.map (fun (s : (Int32 × Ch)) => (s.1, cput h s.2)) (Sum.map (fun (s : (Int32 × Ch)) => (s.1, cput h s.2)) (cput h))) := by
  unfold fX1_spread_90 gX1_spread_90
  simp only [cgN_108_4, cwI_113, lift_lt, k_bs, k_mb, k_ms, k_bm, k_mm, k_il, k_ir, lift_ite, k_id]
noncomputable def gX1_spread_50b (h : Hp) (c : Ch) (x1 : Int32) (x2 : Int32) (x3 : Nat) (x4 : Int32) (x5 : Int32) (x6 : Int32) (x7 : Int32) : Option ((Int32 × Ch) ⊕ ((Int32 × Ch) ⊕ Ch)) :=
  (c.2.2.1 108 5).bind fun v23 =>
  (gI (cput h c) 0 v23 1).bind fun v24 =>
  if v24 < x7 then (
  (gX1_spread_119 h c x1 x2 x3 x4 x5).map (fun q => .inr q)) else (
    if x6 = 0 then (
      gX1_spread_90 h c x1 x2 x3 x4 x5 x6 x7 (0 : Int32)) else (
      (gX1_growth h c x5 x7 x6 x4 x2).bind fun y25 =>
      (gX1_kept (x6 - y25.1)).bind fun y26 =>
      gX1_spread_90 h y25.2 x1 x2 x3 x4 x5 x6 x7 y26))
noncomputable def gX1_spread_50 (h : Hp) (c : Ch) (x1 : Int32) (x2 : Int32) (x3 : Nat) (x4 : Int32) (x5 : Int32) (x6 : Int32) (x7 : Int32) : Option ((Int32 × Ch) ⊕ Ch) := lpw (σ := (Int32 × Ch)) (fun s => gX1_spread_50b h s.2 x1 x2 x3 x4 x5 x6 s.1) (x7, c)
theorem lX1_spread_50b (h : Hp) (c : Ch) (x1 : Int32) (x2 : Int32) (x3 : Nat) (x4 : Int32) (x5 : Int32) (x6 : Int32) (x7 : Int32) : fX1_spread_50b (cput h c) 108 x1 x2 (wadr x3) x4 x5 x6 x7 = (gX1_spread_50b h c x1 x2 x3 x4 x5 x6 x7).map (Sum.map (fun (s : (Int32 × Ch)) => (s.1, cput h s.2)) (Sum.map (fun (s : (Int32 × Ch)) => (s.1, cput h s.2)) (cput h))) := by
  unfold fX1_spread_50b gX1_spread_50b
  simp only [cgN_108_5, lX1_spread_119, cgO_108, lX1_growth, lX1_kept, lX1_spread_90, lift_lt, k_bs, k_mb, k_ms, k_bm, k_mm, k_il, k_ir, lift_ite, k_id]
theorem lX1_spread_50 (h : Hp) (c : Ch) (x1 : Int32) (x2 : Int32) (x3 : Nat) (x4 : Int32) (x5 : Int32) (x6 : Int32) (x7 : Int32) : fX1_spread_50 (cput h c) 108 x1 x2 (wadr x3) x4 x5 x6 x7 = (gX1_spread_50 h c x1 x2 x3 x4 x5 x6 x7).map (Sum.map (fun (s : (Int32 × Ch)) => (s.1, cput h s.2)) (cput h)) := by
  unfold fX1_spread_50 gX1_spread_50
  exact lpw_map _ _ (fun (s : (Int32 × Ch)) => (s.1, cput h s.2)) (Sum.map (fun (s : (Int32 × Ch)) => (s.1, cput h s.2)) (cput h)) (fun s => lX1_spread_50b h s.2 x1 x2 x3 x4 x5 x6 s.1) (x7, c)
noncomputable def gX1_spread_27b (h : Hp) (c : Ch) (x1 : Int32) (x2 : Int32) (x3 : Nat) (x4 : Int32) (x5 : Int32) : Option ((Int32 × Ch) ⊕ Ch) :=
  (c.2.2.1 108 5).bind fun v6 =>
  (gI (cput h c) 0 v6 0).bind fun v7 =>
  if v7 ≤ x5 then (
  (gX1_spread_125 h c x2 x3).map (fun q => .inr q)) else (
    (gX11_digit x1 x5).bind fun y22 =>
    gX1_spread_50 h c x1 x2 x3 x4 x5 y22 (0 : Int32))
noncomputable def gX1_spread_27 (h : Hp) (c : Ch) (x1 : Int32) (x2 : Int32) (x3 : Nat) (x4 : Int32) (x5 : Int32) : Option Ch := lpw (σ := (Int32 × Ch)) (fun s => gX1_spread_27b h s.2 x1 x2 x3 x4 s.1) (x5, c)
theorem lX1_spread_27b (h : Hp) (c : Ch) (x1 : Int32) (x2 : Int32) (x3 : Nat) (x4 : Int32) (x5 : Int32) : fX1_spread_27b (cput h c) 108 x1 x2 (wadr x3) x4 x5 = (gX1_spread_27b h c x1 x2 x3 x4 x5).map (Sum.map (fun (s : (Int32 × Ch)) => (s.1, cput h s.2)) (cput h)) := by
  unfold fX1_spread_27b gX1_spread_27b
  simp only [cgN_108_5, lX1_spread_125, lX11_digit, lX1_spread_50, lift_lt, k_bs, k_mb, k_ms, k_bm, k_mm, k_il, k_ir, lift_ite, k_id]
theorem lX1_spread_27 (h : Hp) (c : Ch) (x1 : Int32) (x2 : Int32) (x3 : Nat) (x4 : Int32) (x5 : Int32) : fX1_spread_27 (cput h c) 108 x1 x2 (wadr x3) x4 x5 = (gX1_spread_27 h c x1 x2 x3 x4 x5).map (cput h) := by
  unfold fX1_spread_27 gX1_spread_27
  exact lpw_map _ _ (fun (s : (Int32 × Ch)) => (s.1, cput h s.2)) (cput h) (fun s => lX1_spread_27b h s.2 x1 x2 x3 x4 s.1) (x5, c)
noncomputable def gX1_spread (h : Hp) (c : Ch) (x1 : Int32) (x2 : Int32) (x3 : Nat) : Option Ch :=
  (c.2.2.1 108 5).bind fun v1 =>
  (gN (cput h c) 0 v1 9).bind fun v2 =>
  (aL (cput h c) v2).bind fun v3 =>
  if v3 ≤ (Int32.ofNat 35) then (
    (c.2.2.1 108 5).bind fun v4 =>
    gO (cput h c) 0 v4 (
    (fX0_metCount (cput h c) v4 x1).bind fun y5 =>
    gX1_spread_27 h c x1 x2 x3 y5 (0 : Int32))) else (
    some (c))
theorem lX1_spread (h : Hp) (c : Ch) (x1 : Int32) (x2 : Int32) (x3 : Nat) : fX1_spread (cput h c) 108 x1 x2 (wadr x3) = (gX1_spread h c x1 x2 x3).map (cput h) := by
  unfold fX1_spread gX1_spread
  simp only [caL_wa, cgN_108_5, lift_gOm, lX1_spread_27, lift_lt, k_bs, k_mb, k_ms, k_bm, k_mm, k_il, k_ir, lift_ite, k_id]
theorem lX1_spread_0 (h : Hp) (c : Ch) (x1 : Int32) (x2 : Int32) : fX1_spread (cput h c) 108 x1 x2 122 = (gX1_spread h c x1 x2 0).map (cput h) := lX1_spread h c x1 x2 0
theorem lX1_spread_1 (h : Hp) (c : Ch) (x1 : Int32) (x2 : Int32) : fX1_spread (cput h c) 108 x1 x2 123 = (gX1_spread h c x1 x2 1).map (cput h) := lX1_spread h c x1 x2 1
noncomputable def gX7_isNew_25 (h : Hp) (c : Ch) (s0 : Int32) : Option Int32 :=
  bl s0 (some (s0))
theorem lX7_isNew_25 (h : Hp) (c : Ch) (s0 : Int32) : fX7_isNew_25 (cput h c) s0 = gX7_isNew_25 h c s0 := by
  unfold fX7_isNew_25 gX7_isNew_25
  simp only [lift_bl, lift_lt, k_bs, k_mb, k_ms, k_bm, k_mm, k_il, k_ir, lift_ite, k_id]
noncomputable def gX7_isNew_24 (h : Hp) (c : Ch)  : Option Int32 :=
  gX7_isNew_25 h c (0 : Int32)
theorem lX7_isNew_24 (h : Hp) (c : Ch)  : fX7_isNew_24 (cput h c)  = gX7_isNew_24 h c  := by
  unfold fX7_isNew_24 gX7_isNew_24
  simp only [lX7_isNew_25, lift_lt, k_bs, k_mb, k_ms, k_bm, k_mm, k_il, k_ir, lift_ite, k_id]
noncomputable def gX7_isNew (h : Hp) (c : Ch) (x1 : Int32) : Option Int32 :=
  (gX7_isState x1).bind fun y1 =>
  if y1 = 0 then (
  gX7_isNew_24 h c ) else (
    (cA c 117 20000 x1).bind fun v2 =>
    if v2 = (c.1 116 4) then (
    gX7_isNew_24 h c ) else (
      gX7_isNew_25 h c (1 : Int32)))
theorem lX7_isNew (h : Hp) (c : Ch) (x1 : Int32) : fX7_isNew (cput h c) 116 x1 = gX7_isNew h c x1 := by
  unfold fX7_isNew gX7_isNew
  simp only [lX7_isState, lX7_isNew_24, cgN_116_3, caI_117, cgI_116_4, lX7_isNew_25, lift_lt, k_bs, k_mb, k_ms, k_bm, k_mm, k_il, k_ir, lift_ite, k_id]
noncomputable def gX7_reachGoal_163 (h : Hp) (c : Ch)  : Option (Int32 × Ch) :=
  some (((-1 : Int32), c))
theorem lX7_reachGoal_163 (h : Hp) (c : Ch)  : fX7_reachGoal_163 (cput h c)  = (gX7_reachGoal_163 h c ).map (fun (y : (Int32 × Ch)) => (y.1, cput h y.2)) := by
  unfold fX7_reachGoal_163 gX7_reachGoal_163
  simp only [lift_lt, k_bs, k_mb, k_ms, k_bm, k_mm, k_il, k_ir, lift_ite, k_id]
noncomputable def gX7_reachGoal_157 (h : Hp) (c : Ch) (x2 : Int32) (x3 : Int32) : Option ((Int32 × Ch) ⊕ (Int32 × Ch)) :=
  some (.inl ((x3 + Int32.ofInt 1), c))
theorem lX7_reachGoal_157 (h : Hp) (c : Ch) (x2 : Int32) (x3 : Int32) : fX7_reachGoal_157 (cput h c) 116 x2 x3 = (gX7_reachGoal_157 h c x2 x3).map (Sum.map (fun (s : (Int32 × Ch)) => (s.1, cput h s.2)) (fun (y : (Int32 × Ch)) => (y.1, cput h y.2))) := by
  unfold fX7_reachGoal_157 gX7_reachGoal_157
  simp only [lift_lt, k_bs, k_mb, k_ms, k_bm, k_mm, k_il, k_ir, lift_ite, k_id]
noncomputable def gX7_reachGoal_151 (h : Hp) (c : Ch) (x2 : Int32) (x3 : Int32) (x4 : Int32) (x5 : Int32) : Option ((Int32 × Ch) ⊕ ((Int32 × Ch) ⊕ (Int32 × Ch))) :=
  some (.inl ((x5 + Int32.ofInt 1), c))
theorem lX7_reachGoal_151 (h : Hp) (c : Ch) (x2 : Int32) (x3 : Int32) (x4 : Int32) (x5 : Int32) : fX7_reachGoal_151 (cput h c) 116 x2 x3 x4 x5 = (gX7_reachGoal_151 h c x2 x3 x4 x5).map (Sum.map (fun (s : (Int32 × Ch)) => (s.1, cput h s.2)) (Sum.map (fun (s : (Int32 × Ch)) => (s.1, cput h s.2)) (fun (y : (Int32 × Ch)) => (y.1, cput h y.2)))) := by
  unfold fX7_reachGoal_151 gX7_reachGoal_151
  simp only [lift_lt, k_bs, k_mb, k_ms, k_bm, k_mm, k_il, k_ir, lift_ite, k_id]
noncomputable def gX7_reachGoal_132 (h : Hp) (c : Ch) (x2 : Int32) (x3 : Int32) (x4 : Int32) (x5 : Int32) (x6 : Int32) : Option ((Int32 × Ch) ⊕ ((Int32 × Ch) ⊕ (Int32 × Ch))) :=
  (gX7_isState x6).bind fun y11 =>
  if y11 = 0 then (
  gX7_reachGoal_151 h c x2 x3 x4 x5) else (
    (cA c 120 20000 x6).bind fun v12 =>
    (cWA c 0 120 20000 x6 (v12 + (1 : Int32))).bind fun c13 =>
    gX7_reachGoal_151 h c13 x2 x3 x4 x5)
theorem lX7_reachGoal_132 (h : Hp) (c : Ch) (x2 : Int32) (x3 : Int32) (x4 : Int32) (x5 : Int32) (x6 : Int32) : fX7_reachGoal_132 (cput h c) 116 x2 x3 x4 x5 x6 = (gX7_reachGoal_132 h c x2 x3 x4 x5 x6).map (Sum.map (fun (s : (Int32 × Ch)) => (s.1, cput h s.2)) (Sum.map (fun (s : (Int32 × Ch)) => (s.1, cput h s.2)) (fun (y : (Int32 × Ch)) => (y.1, cput h y.2)))) := by
  unfold fX7_reachGoal_132 gX7_reachGoal_132
  simp only [lX7_isState, lX7_reachGoal_151, cgN_116_7, caI_120, cwI_120, lift_lt, k_bs, k_mb, k_ms, k_bm, k_mm, k_il, k_ir, lift_ite, k_id]
noncomputable def gX7_reachGoal_74b (h : Hp) (c : Ch) (x2 : Int32) (x3 : Int32) (x4 : Int32) (x5 : Int32) : Option ((Int32 × Ch) ⊕ ((Int32 × Ch) ⊕ (Int32 × Ch))) :=
  (c.2.2.1 116 1).bind fun v6 =>
  (gN (cput h c) 0 v6 9).bind fun v7 =>
  (aL (cput h c) v7).bind fun v8 =>
  if v8 ≤ x5 then (
  (gX7_reachGoal_157 h c x2 x3).map (fun q => .inr q)) else (
    (cA c 122 35 x5).bind fun v9 =>
    (gX7_isNew h c v9).bind fun y10 =>
    if y10 = 0 then (
    gX7_reachGoal_132 h c x2 x3 x4 x5 v9) else (
      (gX7_reach h c v9 ((x4 * (35 : Int32)) + x5)).bind fun y14 =>
      (gX7_isGoal h y14 v9 x2).bind fun y15 =>
      if y15 = 0 then (
      gX7_reachGoal_132 h y14 x2 x3 x4 x5 v9) else (
        some (.inr (.inr (v9, y14))))))
noncomputable def gX7_reachGoal_74 (h : Hp) (c : Ch) (x2 : Int32) (x3 : Int32) (x4 : Int32) (x5 : Int32) : Option ((Int32 × Ch) ⊕ (Int32 × Ch)) := lpw (σ := (Int32 × Ch)) (fun s => gX7_reachGoal_74b h s.2 x2 x3 x4 s.1) (x5, c)
theorem lX7_reachGoal_74b (h : Hp) (c : Ch) (x2 : Int32) (x3 : Int32) (x4 : Int32) (x5 : Int32) : fX7_reachGoal_74b (cput h c) 116 x2 x3 x4 x5 = (gX7_reachGoal_74b h c x2 x3 x4 x5).map (Sum.map (fun (s : (Int32 × Ch)) => (s.1, cput h s.2)) (Sum.map (fun (s : (Int32 × Ch)) => (s.1, cput h s.2)) (fun (y : (Int32 × Ch)) => (y.1, cput h y.2)))) := by
  unfold fX7_reachGoal_74b gX7_reachGoal_74b
  simp only [cgN_116_1, lX7_reachGoal_157, cgN_116_9, caI_122, cgO_116, lX7_isNew, lX7_reachGoal_132, lX7_reach, lX7_isGoal, lift_lt, k_bs, k_mb, k_ms, k_bm, k_mm, k_il, k_ir, lift_ite, k_id]
theorem lX7_reachGoal_74 (h : Hp) (c : Ch) (x2 : Int32) (x3 : Int32) (x4 : Int32) (x5 : Int32) : fX7_reachGoal_74 (cput h c) 116 x2 x3 x4 x5 = (gX7_reachGoal_74 h c x2 x3 x4 x5).map (Sum.map (fun (s : (Int32 × Ch)) => (s.1, cput h s.2)) (fun (y : (Int32 × Ch)) => (y.1, cput h y.2))) := by
  unfold fX7_reachGoal_74 gX7_reachGoal_74
  exact lpw_map _ _ (fun (s : (Int32 × Ch)) => (s.1, cput h s.2)) (Sum.map (fun (s : (Int32 × Ch)) => (s.1, cput h s.2)) (fun (y : (Int32 × Ch)) => (y.1, cput h y.2))) (fun s => lX7_reachGoal_74b h s.2 x2 x3 x4 s.1) (x5, c)
noncomputable def gX7_reachGoal_23b (h : Hp) (c : Ch) (x2 : Int32) (x3 : Int32) : Option ((Int32 × Ch) ⊕ (Int32 × Ch)) :=
  if (c.1 116 12) ≤ x3 then (
  (gX7_reachGoal_163 h c ).map (fun q => .inr q)) else (
    if (20000 : Int32) ≤ x3 then (
    (gX7_reachGoal_163 h c ).map (fun q => .inr q)) else (
      (cA c 118 20000 x3).bind fun v4 =>
      if v4 < (10000 : Int32) then (
        (gX1_spread h c v4 (0 : Int32) 0).bind fun y5 =>
        gX7_reachGoal_74 h y5 x2 x3 v4 (0 : Int32)) else (
        gX7_reachGoal_157 h c x2 x3)))
noncomputable def gX7_reachGoal_23 (h : Hp) (c : Ch) (x2 : Int32) (x3 : Int32) : Option (Int32 × Ch) := lpw (σ := (Int32 × Ch)) (fun s => gX7_reachGoal_23b h s.2 x2 s.1) (x3, c)
theorem lX7_reachGoal_23b (h : Hp) (c : Ch) (x2 : Int32) (x3 : Int32) : fX7_reachGoal_23b (cput h c) 116 x2 x3 = (gX7_reachGoal_23b h c x2 x3).map (Sum.map (fun (s : (Int32 × Ch)) => (s.1, cput h s.2)) (fun (y : (Int32 × Ch)) => (y.1, cput h y.2))) := by
  unfold fX7_reachGoal_23b gX7_reachGoal_23b
  simp only [cgI_116_12, lX7_reachGoal_163, cgN_116_5, caI_118, cgN_116_0, cgN_116_9, cgO_108, lX1_spread_0, lX1_spread_1, lX7_reachGoal_74, lX7_reachGoal_157, lift_lt, k_bs, k_mb, k_ms, k_bm, k_mm, k_il, k_ir, lift_ite, k_id]
theorem lX7_reachGoal_23 (h : Hp) (c : Ch) (x2 : Int32) (x3 : Int32) : fX7_reachGoal_23 (cput h c) 116 x2 x3 = (gX7_reachGoal_23 h c x2 x3).map (fun (y : (Int32 × Ch)) => (y.1, cput h y.2)) := by
  unfold fX7_reachGoal_23 gX7_reachGoal_23
  exact lpw_map _ _ (fun (s : (Int32 × Ch)) => (s.1, cput h s.2)) (fun (y : (Int32 × Ch)) => (y.1, cput h y.2)) (fun s => lX7_reachGoal_23b h s.2 x2 s.1) (x3, c)
noncomputable def gX7_reachGoal (h : Hp) (c : Ch) (x1 : Int32) (x2 : Int32) : Option (Int32 × Ch) :=
  (gX7_begin h c ).bind fun y1 =>
  (gX7_reach h y1 x1 (-1 : Int32)).bind fun y2 =>
  (gX7_isGoal h y2 x1 x2).bind fun y3 =>
  if y3 = 0 then (
    gX7_reachGoal_23 h y2 x2 (0 : Int32)) else (
    some ((x1, y2)))
theorem lX7_reachGoal (h : Hp) (c : Ch) (x1 : Int32) (x2 : Int32) : fX7_reachGoal (cput h c) 116 x1 x2 = (gX7_reachGoal h c x1 x2).map (fun (y : (Int32 × Ch)) => (y.1, cput h y.2)) := by
  unfold fX7_reachGoal gX7_reachGoal
  simp only [cgO_116, lX7_begin, lX7_reach, lX7_isGoal, lX7_reachGoal_23, lift_lt, k_bs, k_mb, k_ms, k_bm, k_mm, k_il, k_ir, lift_ite, k_id]
noncomputable def gX7_explore_48 (h : Hp) (c : Ch)  : Option (Int32 × Ch) :=
  some (((c.1 116 16), c))
theorem lX7_explore_48 (h : Hp) (c : Ch)  : fX7_explore_48 (cput h c) 116 = (gX7_explore_48 h c ).map (fun (y : (Int32 × Ch)) => (y.1, cput h y.2)) := by
  unfold fX7_explore_48 gX7_explore_48
  simp only [cgI_116_16, lift_lt, k_bs, k_mb, k_ms, k_bm, k_mm, k_il, k_ir, lift_ite, k_id]
noncomputable def gX7_explore_23 (h : Hp) (c : Ch) (x1 : Int32) (x2 : Int32) : Option (Int32 × Ch) :=
  (gX7_reachGoal h c x1 x2).bind fun y1 =>
  lt (cI y1.2 116 16 y1.1) fun c2 =>
  lt (cI c2 116 14 x1) fun c3 =>
  lt (cI c3 116 15 x2) fun c4 =>
  lt (cI c4 116 13 (1 : Int32)) fun c5 =>
  gX7_explore_48 h c5 
theorem lX7_explore_23 (h : Hp) (c : Ch) (x1 : Int32) (x2 : Int32) : fX7_explore_23 (cput h c) 116 x1 x2 = (gX7_explore_23 h c x1 x2).map (fun (y : (Int32 × Ch)) => (y.1, cput h y.2)) := by
  unfold fX7_explore_23 gX7_explore_23
  simp only [cgO_116, lX7_reachGoal, csI_116_16, csI_116_14, csI_116_15, csI_116_13, lX7_explore_48, lift_lt, k_bs, k_mb, k_ms, k_bm, k_mm, k_il, k_ir, lift_ite, k_id]
noncomputable def gX7_explore (h : Hp) (c : Ch) (x1 : Int32) (x2 : Int32) : Option (Int32 × Ch) :=
  if (c.1 116 13) = 0 then (
  gX7_explore_23 h c x1 x2) else (
    if (c.1 116 14) = x1 then (
      if (c.1 116 15) = x2 then (
      gX7_explore_48 h c ) else (
      gX7_explore_23 h c x1 x2)) else (
    gX7_explore_23 h c x1 x2))
theorem lX7_explore (h : Hp) (c : Ch) (x1 : Int32) (x2 : Int32) : fX7_explore (cput h c) 116 x1 x2 = (gX7_explore h c x1 x2).map (fun (y : (Int32 × Ch)) => (y.1, cput h y.2)) := by
  unfold fX7_explore gX7_explore
  simp only [cgI_116_13, lX7_explore_23, cgI_116_14, cgI_116_15, lX7_explore_48, lift_lt, k_bs, k_mb, k_ms, k_bm, k_mm, k_il, k_ir, lift_ite, k_id]
noncomputable def gX7_linkOf_17 (h : Hp) (c : Ch) (s0 : Int32) : Option Int32 :=
  some (s0)
theorem lX7_linkOf_17 (h : Hp) (c : Ch) (s0 : Int32) : fX7_linkOf_17 (cput h c) s0 = gX7_linkOf_17 h c s0 := by
  unfold fX7_linkOf_17 gX7_linkOf_17
  simp only [lift_lt, k_bs, k_mb, k_ms, k_bm, k_mm, k_il, k_ir, lift_ite, k_id]
noncomputable def gX7_linkOf (h : Hp) (c : Ch) (x1 : Int32) : Option Int32 :=
  (gX7_isState x1).bind fun y1 =>
  if y1 = 0 then (
    gX7_linkOf_17 h c (-1 : Int32)) else (
    (cA c 119 20000 x1).bind fun v2 =>
    gX7_linkOf_17 h c v2)
theorem lX7_linkOf (h : Hp) (c : Ch) (x1 : Int32) : fX7_linkOf (cput h c) 116 x1 = gX7_linkOf h c x1 := by
  unfold fX7_linkOf gX7_linkOf
  simp only [lX7_isState, lX7_linkOf_17, cgN_116_6, caI_119, lift_lt, k_bs, k_mb, k_ms, k_bm, k_mm, k_il, k_ir, lift_ite, k_id]
noncomputable def gX7_lengthTo_42 (h : Hp) (c : Ch) (x2 : Int32) : Option Int32 :=
  some (x2)
theorem lX7_lengthTo_42 (h : Hp) (c : Ch) (x2 : Int32) : fX7_lengthTo_42 (cput h c) x2 = gX7_lengthTo_42 h c x2 := by
  unfold fX7_lengthTo_42 gX7_lengthTo_42
  simp only [lift_lt, k_bs, k_mb, k_ms, k_bm, k_mm, k_il, k_ir, lift_ite, k_id]
noncomputable def gX7_lengthTo_15b (h : Hp) (c : Ch) (x2 : Int32) (x3 : Int32) : Option ((Int32 × Int32) ⊕ Int32) :=
  if x3 = (-1 : Int32) then (
  (gX7_lengthTo_42 h c x2).map (fun q => .inr q)) else (
    if (20000 : Int32) ≤ x2 then (
    (gX7_lengthTo_42 h c x2).map (fun q => .inr q)) else (
      (dv x3 (35 : Int32)).bind fun v2 =>
      (gX7_linkOf h c v2).bind fun y3 =>
      some (.inl ((x2 + Int32.ofInt 1), y3))))
noncomputable def gX7_lengthTo_15 (h : Hp) (c : Ch) (x2 : Int32) (x3 : Int32) : Option Int32 := lpw (σ := (Int32 × Int32)) (fun s => gX7_lengthTo_15b h c  s.1 s.2) (x2, x3)
theorem lX7_lengthTo_15b (h : Hp) (c : Ch) (x2 : Int32) (x3 : Int32) : fX7_lengthTo_15b (cput h c) 116 x2 x3 = gX7_lengthTo_15b h c x2 x3 := by
  unfold fX7_lengthTo_15b gX7_lengthTo_15b
  simp only [lX7_lengthTo_42, cgO_116, lX7_linkOf, lift_lt, k_bs, k_mb, k_ms, k_bm, k_mm, k_il, k_ir, lift_ite, k_id]
theorem lX7_lengthTo_15 (h : Hp) (c : Ch) (x2 : Int32) (x3 : Int32) : fX7_lengthTo_15 (cput h c) 116 x2 x3 = gX7_lengthTo_15 h c x2 x3 := by
  unfold fX7_lengthTo_15 gX7_lengthTo_15
  refine congrArg (fun b => lpw b _) (funext (fun s => ?_))
  exact lX7_lengthTo_15b h c s.1 s.2
noncomputable def gX7_lengthTo (h : Hp) (c : Ch) (x1 : Int32) : Option Int32 :=
  if x1 = (-1 : Int32) then (
    some ((-1 : Int32))) else (
    (gX7_linkOf h c x1).bind fun y1 =>
    gX7_lengthTo_15 h c (0 : Int32) y1)
theorem lX7_lengthTo (h : Hp) (c : Ch) (x1 : Int32) : fX7_lengthTo (cput h c) 116 x1 = gX7_lengthTo h c x1 := by
  unfold fX7_lengthTo gX7_lengthTo
  simp only [cgO_116, lX7_linkOf, lX7_lengthTo_15, lift_lt, k_bs, k_mb, k_ms, k_bm, k_mm, k_il, k_ir, lift_ite, k_id]
noncomputable def gX11_soonest (h : Hp) (c : Ch) (x1 : Int32) : Option (Int32 × Ch) :=
  (gX11_isSet h c x1).bind fun y1 =>
  if y1 = 0 then (
    some (((-3 : Int32), c))) else (
    (gX11_searching h c ).bind fun y2 =>
    (gX7_explore h y2 (y2.1 (sadr 0) 0) x1).bind fun y3 =>
    (gX7_lengthTo h y3.2 y3.1).bind fun y4 =>
    some ((y4, y3.2)))
theorem lX11_soonest (h : Hp) (c : Ch) (x1 : Int32) : fX11_soonest (cput h c) 80 x1 = (gX11_soonest h c x1).map (fun (y : (Int32 × Ch)) => (y.1, cput h y.2)) := by
  unfold fX11_soonest gX11_soonest
  simp only [cgO_80, lX11_isSet, lX11_searching, cgN_80_4, cgI_s_0, cgO_116, lX7_explore, lX7_lengthTo, lift_lt, k_bs, k_mb, k_ms, k_bm, k_mm, k_il, k_ir, lift_ite, k_id]
noncomputable def gX7_leadingTo_48 (h : Hp) (c : Ch) (x4 : Int32) : Option Int32 :=
  (c.2.2.1 116 1).bind fun v3 =>
  (rm x4 (35 : Int32)).bind fun v4 =>
  gO (cput h c) 0 v3 (
  (fX0_leadingAt (cput h c) v3 v4).bind fun y5 =>
  some (y5))
theorem lX7_leadingTo_48 (h : Hp) (c : Ch) (x4 : Int32) : fX7_leadingTo_48 (cput h c) 116 x4 = gX7_leadingTo_48 h c x4 := by
  unfold fX7_leadingTo_48 gX7_leadingTo_48
  simp only [cgN_116_1, lift_gOm, lift_lt, k_bs, k_mb, k_ms, k_bm, k_mm, k_il, k_ir, lift_ite, k_id]
noncomputable def gX7_leadingTo_25b (h : Hp) (c : Ch) (x2 : Int32) (x4 : Int32) (x5 : Int32) : Option ((Int32 × Int32) ⊕ Int32) :=
  if x5 ≤ x2 then (
  (gX7_leadingTo_48 h c x4).map (fun q => .inr q)) else (
    (dv x4 (35 : Int32)).bind fun v6 =>
    (gX7_linkOf h c v6).bind fun y7 =>
    some (.inl (y7, (x5 + Int32.ofInt (-1)))))
noncomputable def gX7_leadingTo_25 (h : Hp) (c : Ch) (x2 : Int32) (x4 : Int32) (x5 : Int32) : Option Int32 := lpw (σ := (Int32 × Int32)) (fun s => gX7_leadingTo_25b h c x2 s.1 s.2) (x4, x5)
theorem lX7_leadingTo_25b (h : Hp) (c : Ch) (x2 : Int32) (x4 : Int32) (x5 : Int32) : fX7_leadingTo_25b (cput h c) 116 x2 x4 x5 = gX7_leadingTo_25b h c x2 x4 x5 := by
  unfold fX7_leadingTo_25b gX7_leadingTo_25b
  simp only [lX7_leadingTo_48, cgO_116, lX7_linkOf, lift_lt, k_bs, k_mb, k_ms, k_bm, k_mm, k_il, k_ir, lift_ite, k_id]
theorem lX7_leadingTo_25 (h : Hp) (c : Ch) (x2 : Int32) (x4 : Int32) (x5 : Int32) : fX7_leadingTo_25 (cput h c) 116 x2 x4 x5 = gX7_leadingTo_25 h c x2 x4 x5 := by
  unfold fX7_leadingTo_25 gX7_leadingTo_25
  refine congrArg (fun b => lpw b _) (funext (fun s => ?_))
  exact lX7_leadingTo_25b h c x2 s.1 s.2
noncomputable def gX7_leadingTo (h : Hp) (c : Ch) (x1 : Int32) (x2 : Int32) : Option Int32 :=
  (gX7_lengthTo h c x1).bind fun y1 =>
  if x2 < y1 then (
    (gX7_linkOf h c x1).bind fun y2 =>
    gX7_leadingTo_25 h c x2 y2 (y1 - (1 : Int32))) else (
    some ((-1 : Int32)))
theorem lX7_leadingTo (h : Hp) (c : Ch) (x1 : Int32) (x2 : Int32) : fX7_leadingTo (cput h c) 116 x1 x2 = gX7_leadingTo h c x1 x2 := by
  unfold fX7_leadingTo gX7_leadingTo
  simp only [cgO_116, lX7_lengthTo, lX7_linkOf, lX7_leadingTo_25, lift_lt, k_bs, k_mb, k_ms, k_bm, k_mm, k_il, k_ir, lift_ite, k_id]
noncomputable def gX11_way_12 (h : Hp) (c : Ch)  : Option (Int32 × Ch) :=
  some (((-3 : Int32), c))
theorem lX11_way_12 (h : Hp) (c : Ch)  : fX11_way_12 (cput h c)  = (gX11_way_12 h c ).map (fun (y : (Int32 × Ch)) => (y.1, cput h y.2)) := by
  unfold fX11_way_12 gX11_way_12
  simp only [lift_lt, k_bs, k_mb, k_ms, k_bm, k_mm, k_il, k_ir, lift_ite, k_id]
noncomputable def gX11_way (h : Hp) (c : Ch) (x1 : Int32) (x2 : Int32) : Option (Int32 × Ch) :=
  (gX11_isSet h c x1).bind fun y1 =>
  if y1 = 0 then (
  gX11_way_12 h c ) else (
    if 0 ≤ x2 then (
      (gX11_searching h c ).bind fun y2 =>
      (gX7_explore h y2 (y2.1 (sadr 0) 0) x1).bind fun y3 =>
      (gX7_leadingTo h y3.2 y3.1 x2).bind fun y4 =>
      some ((y4, y3.2))) else (
    gX11_way_12 h c ))
theorem lX11_way (h : Hp) (c : Ch) (x1 : Int32) (x2 : Int32) : fX11_way (cput h c) 80 x1 x2 = (gX11_way h c x1 x2).map (fun (y : (Int32 × Ch)) => (y.1, cput h y.2)) := by
  unfold fX11_way gX11_way
  simp only [cgO_80, lX11_isSet, lX11_way_12, lX11_searching, cgN_80_4, cgI_s_0, cgO_116, lX7_explore, lX7_leadingTo, lift_lt, k_bs, k_mb, k_ms, k_bm, k_mm, k_il, k_ir, lift_ite, k_id]
noncomputable def gX7_rowsOf_5b (h : Hp) (c : Ch) (x1 : Int32) (x2 : Int64) (x4 : Int32) : Option ((Int64 × Int32) ⊕ Int64) :=
  if x1 ≤ x4 then (
    some (.inr x2)) else (
    (c.2.2.1 116 1).bind fun v1 =>
    (gN (cput h c) 0 v1 9).bind fun v2 =>
    (aL (cput h c) v2).bind fun v3 =>
    some (.inl ((x2 * (v3.toInt64)), (x4 + Int32.ofInt 1))))
noncomputable def gX7_rowsOf_5 (h : Hp) (c : Ch) (x1 : Int32) (x2 : Int64) (x4 : Int32) : Option Int64 := lpw (σ := (Int64 × Int32)) (fun s => gX7_rowsOf_5b h c x1 s.1 s.2) (x2, x4)
theorem lX7_rowsOf_5b (h : Hp) (c : Ch) (x1 : Int32) (x2 : Int64) (x4 : Int32) : fX7_rowsOf_5b (cput h c) 116 x1 x2 x4 = gX7_rowsOf_5b h c x1 x2 x4 := by
  unfold fX7_rowsOf_5b gX7_rowsOf_5b
  simp only [cgN_116_1, lift_lt, k_bs, k_mb, k_ms, k_bm, k_mm, k_il, k_ir, lift_ite, k_id]
theorem lX7_rowsOf_5 (h : Hp) (c : Ch) (x1 : Int32) (x2 : Int64) (x4 : Int32) : fX7_rowsOf_5 (cput h c) 116 x1 x2 x4 = gX7_rowsOf_5 h c x1 x2 x4 := by
  unfold fX7_rowsOf_5 gX7_rowsOf_5
  refine congrArg (fun b => lpw b _) (funext (fun s => ?_))
  exact lX7_rowsOf_5b h c x1 s.1 s.2
noncomputable def gX7_rowsOf (h : Hp) (c : Ch) (x1 : Int32) : Option Int64 :=
  gX7_rowsOf_5 h c x1 (1 : Int64) (0 : Int32)
theorem lX7_rowsOf (h : Hp) (c : Ch) (x1 : Int32) : fX7_rowsOf (cput h c) 116 x1 = gX7_rowsOf h c x1 := by
  unfold fX7_rowsOf gX7_rowsOf
  simp only [lX7_rowsOf_5, lift_lt, k_bs, k_mb, k_ms, k_bm, k_mm, k_il, k_ir, lift_ite, k_id]
noncomputable def gX7_passOn_130 (h : Hp) (c : Ch) (x2 : Int64) (x4 : Int32) (x5 : Int32) : Option ((Int32 × Ch) ⊕ Ch) :=
  some (.inl ((x5 + Int32.ofInt 1), c))
theorem lX7_passOn_130 (h : Hp) (c : Ch) (x2 : Int64) (x4 : Int32) (x5 : Int32) : fX7_passOn_130 (cput h c) 116 x2 x4 x5 = (gX7_passOn_130 h c x2 x4 x5).map (Sum.map (fun (s : (Int32 × Ch)) => (s.1, cput h s.2)) (cput h)) := by
  unfold fX7_passOn_130 gX7_passOn_130
  simp only [lift_lt, k_bs, k_mb, k_ms, k_bm, k_mm, k_il, k_ir, lift_ite, k_id]
noncomputable def gX7_passOn_111 (h : Hp) (c : Ch) (x2 : Int64) (x4 : Int32) (x5 : Int32) (x7 : Int32) : Option ((Int32 × Ch) ⊕ Ch) :=
  (gX7_isState x7).bind fun y8 =>
  if y8 = 0 then (
  gX7_passOn_130 h c x2 x4 x5) else (
    (cL c 121 20000 x7).bind fun v9 =>
    (cWL c 121 20000 x7 (v9 + x2)).bind fun c10 =>
    gX7_passOn_130 h c10 x2 x4 x5)
theorem lX7_passOn_111 (h : Hp) (c : Ch) (x2 : Int64) (x4 : Int32) (x5 : Int32) (x7 : Int32) : fX7_passOn_111 (cput h c) 116 x2 x4 x5 x7 = (gX7_passOn_111 h c x2 x4 x5 x7).map (Sum.map (fun (s : (Int32 × Ch)) => (s.1, cput h s.2)) (cput h)) := by
  unfold fX7_passOn_111 gX7_passOn_111
  simp only [lX7_isState, lX7_passOn_130, cgN_116_8, caJ_121, cwJ_121, lift_lt, k_bs, k_mb, k_ms, k_bm, k_mm, k_il, k_ir, lift_ite, k_id]
noncomputable def gX7_passOn_16b (h : Hp) (c : Ch) (x2 : Int64) (x4 : Int32) (x5 : Int32) : Option ((Int32 × Ch) ⊕ Ch) :=
  (c.2.2.1 116 1).bind fun v2 =>
  (gN (cput h c) 0 v2 9).bind fun v3 =>
  (aL (cput h c) v3).bind fun v4 =>
  if v4 ≤ x5 then (
    some (.inr c)) else (
    (cA c 122 35 x5).bind fun v5 =>
    (rm v5 (10000 : Int32)).bind fun v6 =>
    (gX7_isNew h c v5).bind fun y7 =>
    if y7 = 0 then (
    gX7_passOn_111 h c x2 x4 x5 (x4 + v6)) else (
      if (10000 : Int32) ≤ (c.1 116 12) then (
      gX7_passOn_111 h c x2 x4 x5 (x4 + v6)) else (
        (cWA c 0 117 20000 v5 (c.1 116 4)).bind fun c11 =>
        (cWA c11 0 118 20000 (x4 + (c11.1 116 12)) v5).bind fun c12 =>
        lt (cI c12 116 12 ((c12.1 116 12) + (1 : Int32))) fun c13 =>
        (cWL c13 121 20000 (x4 + v6) (0 : Int64)).bind fun c14 =>
        gX7_passOn_111 h c14 x2 x4 x5 (x4 + v6))))
noncomputable def gX7_passOn_16 (h : Hp) (c : Ch) (x2 : Int64) (x4 : Int32) (x5 : Int32) : Option Ch := lpw (σ := (Int32 × Ch)) (fun s => gX7_passOn_16b h s.2 x2 x4 s.1) (x5, c)
theorem lX7_passOn_16b (h : Hp) (c : Ch) (x2 : Int64) (x4 : Int32) (x5 : Int32) : fX7_passOn_16b (cput h c) 116 x2 x4 x5 = (gX7_passOn_16b h c x2 x4 x5).map (Sum.map (fun (s : (Int32 × Ch)) => (s.1, cput h s.2)) (cput h)) := by
  unfold fX7_passOn_16b gX7_passOn_16b
  simp only [cgN_116_1, cgN_116_9, caI_122, cgO_116, lX7_isNew, lX7_passOn_111, cgI_116_12, cgN_116_3, cgI_116_4, cwI_117, cgN_116_5, cwI_118, csI_116_12, cgN_116_8, cwJ_121, lift_lt, k_bs, k_mb, k_ms, k_bm, k_mm, k_il, k_ir, lift_ite, k_id]
theorem lX7_passOn_16 (h : Hp) (c : Ch) (x2 : Int64) (x4 : Int32) (x5 : Int32) : fX7_passOn_16 (cput h c) 116 x2 x4 x5 = (gX7_passOn_16 h c x2 x4 x5).map (cput h) := by
  unfold fX7_passOn_16 gX7_passOn_16
  exact lpw_map _ _ (fun (s : (Int32 × Ch)) => (s.1, cput h s.2)) (cput h) (fun s => lX7_passOn_16b h s.2 x2 x4 s.1) (x5, c)
noncomputable def gX7_passOn (h : Hp) (c : Ch) (x1 : Int32) (x2 : Int64) (x4 : Int32) : Option Ch :=
  (gX1_spread h c x1 (0 : Int32) 0).bind fun y1 =>
  gX7_passOn_16 h y1 x2 x4 (0 : Int32)
theorem lX7_passOn (h : Hp) (c : Ch) (x1 : Int32) (x2 : Int64) (x4 : Int32) : fX7_passOn (cput h c) 116 x1 x2 x4 = (gX7_passOn h c x1 x2 x4).map (cput h) := by
  unfold fX7_passOn gX7_passOn
  simp only [cgN_116_0, cgN_116_9, cgO_108, lX1_spread_0, lX1_spread_1, lX7_passOn_16, lift_lt, k_bs, k_mb, k_ms, k_bm, k_mm, k_il, k_ir, lift_ite, k_id]
