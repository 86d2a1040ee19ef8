/-! the class over its own numbers -/
noncomputable def gX11_drawDeed_27 (h : Hp) (c : Ch) (s0 : Int32) : Option (Int32 × Ch) :=
  some ((s0, c))
theorem lX11_drawDeed_27 (h : Hp) (c : Ch) (s0 : Int32) : fX11_drawDeed_27 (cput h c) s0 = (gX11_drawDeed_27 h c s0).map (fun (y : (Int32 × Ch)) => (y.1, cput h y.2)) := by
  unfold fX11_drawDeed_27 gX11_drawDeed_27
  simp only [lift_lt, k_bs, k_mb, k_ms, k_bm, k_mm, k_il, k_ir, lift_ite, k_id]
noncomputable def gX11_drawDeed (h : Hp) (c : Ch)  : Option (Int32 × Ch) :=
  (gX11_draw h c ).bind fun y1 =>
  (rm y1.1 (6 : Int32)).bind fun v2 =>
  if (2 : Int32) < v2 then (
    if v2 = (3 : Int32) then (
      (gX11_draw h y1.2 ).bind fun y9 =>
      (rm y9.1 (4 : Int32)).bind fun v10 =>
      some ((((10 : Int32) + v10), y9.2))) else (
      if v2 = (4 : Int32) then (
        (gX11_draw h y1.2 ).bind fun y5 =>
        (rm y5.1 (4 : Int32)).bind fun v6 =>
        (gX11_draw h y5.2 ).bind fun y7 =>
        (rm y7.1 (10 : Int32)).bind fun v8 =>
        some (((((100 : Int32) + ((10 : Int32) * v6)) + v8), y7.2))) else (
        (gX11_draw h y1.2 ).bind fun y3 =>
        (rm y3.1 (625 : Int32)).bind fun v4 =>
        some ((((1000 : Int32) + v4), y3.2))))) else (
    (gX11_draw h y1.2 ).bind fun y11 =>
    (rm y11.1 (3 : Int32)).bind fun v12 =>
    if v12 = 0 then (
      gX11_drawDeed_27 h y11.2 (1 : Int32)) else (
      gX11_drawDeed_27 h y11.2 (0 : Int32)))
theorem lX11_drawDeed (h : Hp) (c : Ch)  : fX11_drawDeed (cput h c) 80 = (gX11_drawDeed h c ).map (fun (y : (Int32 × Ch)) => (y.1, cput h y.2)) := by
  unfold fX11_drawDeed gX11_drawDeed
  simp only [cgO_80, lX11_draw, lX11_drawDeed_27, lift_lt, k_bs, k_mb, k_ms, k_bm, k_mm, k_il, k_ir, lift_ite, k_id]
noncomputable def gX11_age_11 (h : Hp) (c : Ch)  : Option (Int32 × Ch) :=
  some (((-3 : Int32), c))
theorem lX11_age_11 (h : Hp) (c : Ch)  : fX11_age_11 (cput h c)  = (gX11_age_11 h c ).map (fun (y : (Int32 × Ch)) => (y.1, cput h y.2)) := by
  unfold fX11_age_11 gX11_age_11
  simp only [lift_lt, k_bs, k_mb, k_ms, k_bm, k_mm, k_il, k_ir, lift_ite, k_id]
noncomputable def gX11_age_81 (h : Hp) (c : Ch) (x3 : Int32) : Option (Int32 × Ch) :=
  some ((x3, c))
theorem lX11_age_81 (h : Hp) (c : Ch) (x3 : Int32) : fX11_age_81 (cput h c) x3 = (gX11_age_81 h c x3).map (fun (y : (Int32 × Ch)) => (y.1, cput h y.2)) := by
  unfold fX11_age_81 gX11_age_81
  simp only [lift_lt, k_bs, k_mb, k_ms, k_bm, k_mm, k_il, k_ir, lift_ite, k_id]
noncomputable def gX11_age_66 (h : Hp) (c : Ch) (x3 : Int32) : Option (Int32 × Ch) :=
  if x3 ≤ 0 then (
  gX11_age_81 h c x3) else (
    (gX5_remember h c 1).bind fun y3 =>
    gX11_age_81 h y3 x3)
theorem lX11_age_66 (h : Hp) (c : Ch) (x3 : Int32) : fX11_age_66 (cput h c) 80 x3 = (gX11_age_66 h c x3).map (fun (y : (Int32 × Ch)) => (y.1, cput h y.2)) := by
  unfold fX11_age_66 gX11_age_66
  simp only [lX11_age_81, cgN_80_7, cgN_80_5, cgO_93, lX5_remember, lift_lt, k_bs, k_mb, k_ms, k_bm, k_mm, k_il, k_ir, lift_ite, k_id]
noncomputable def gX11_age_60 (h : Hp) (c : Ch) (x2 : Int32) (x3 : Int32) (x4 : Int32) : Option ((Int32 × Int32 × Ch) ⊕ (Int32 × Ch)) :=
  some (.inl (x3, (x4 + Int32.ofInt 1), c))
theorem lX11_age_60 (h : Hp) (c : Ch) (x2 : Int32) (x3 : Int32) (x4 : Int32) : fX11_age_60 (cput h c) 80 x2 x3 x4 = (gX11_age_60 h c x2 x3 x4).map (Sum.map (fun (s : (Int32 × Int32 × Ch)) => (s.1, s.2.1, cput h s.2.2)) (fun (y : (Int32 × Ch)) => (y.1, cput h y.2))) := by
  unfold fX11_age_60 gX11_age_60
  simp only [lift_lt, k_bs, k_mb, k_ms, k_bm, k_mm, k_il, k_ir, lift_ite, k_id]
noncomputable def gX11_age_35b (h : Hp) (c : Ch) (x2 : Int32) (x3 : Int32) (x4 : Int32) : Option ((Int32 × Int32 × Ch) ⊕ (Int32 × Ch)) :=
  if x2 ≤ x4 then (
  (gX11_age_66 h c x3).map (fun q => .inr q)) else (
    (gX11_drawDeed h c ).bind fun y4 =>
    (gX11_act h y4.2 0 (y4.1.toInt64)).bind fun y5 =>
    if y5.1 = 0 then (
      gX11_age_60 h y5.2 x2 (x3 + Int32.ofInt 1) x4) else (
    gX11_age_60 h y5.2 x2 x3 x4))
noncomputable def gX11_age_35 (h : Hp) (c : Ch) (x2 : Int32) (x3 : Int32) (x4 : Int32) : Option (Int32 × Ch) := lpw (σ := (Int32 × Int32 × Ch)) (fun s => gX11_age_35b h s.2.2 x2 s.1 s.2.1) (x3, x4, c)
theorem lX11_age_35b (h : Hp) (c : Ch) (x2 : Int32) (x3 : Int32) (x4 : Int32) : fX11_age_35b (cput h c) 80 x2 x3 x4 = (gX11_age_35b h c x2 x3 x4).map (Sum.map (fun (s : (Int32 × Int32 × Ch)) => (s.1, s.2.1, cput h s.2.2)) (fun (y : (Int32 × Ch)) => (y.1, cput h y.2))) := by
  unfold fX11_age_35b gX11_age_35b
  simp only [lX11_age_66, cgN_80_4, cgO_80, lX11_drawDeed, lX11_act, lX11_age_60, lift_lt, k_bs, k_mb, k_ms, k_bm, k_mm, k_il, k_ir, lift_ite, k_id]
theorem lX11_age_35 (h : Hp) (c : Ch) (x2 : Int32) (x3 : Int32) (x4 : Int32) : fX11_age_35 (cput h c) 80 x2 x3 x4 = (gX11_age_35 h c x2 x3 x4).map (fun (y : (Int32 × Ch)) => (y.1, cput h y.2)) := by
  unfold fX11_age_35 gX11_age_35
  exact lpw_map _ _ (fun (s : (Int32 × Int32 × Ch)) => (s.1, s.2.1, cput h s.2.2)) (fun (y : (Int32 × Ch)) => (y.1, cput h y.2)) (fun s => lX11_age_35b h s.2.2 x2 s.1 s.2.1) (x3, x4, c)
noncomputable def gX11_age (h : Hp) (c : Ch) (x1 : Int32) (x2 : Int32) : Option (Int32 × Ch) :=
  if x2 < (1 : Int32) then (
  gX11_age_11 h c ) else (
    if x2 ≤ (40 : Int32) then (
      (gX8_copy h c 1 0).bind fun y1 =>
      lt (cI y1 80 18 x1) fun c2 =>
      gX11_age_35 h c2 x2 (0 : Int32) (0 : Int32)) else (
    gX11_age_11 h c ))
theorem lX11_age (h : Hp) (c : Ch) (x1 : Int32) (x2 : Int32) : fX11_age (cput h c) 80 x1 x2 = (gX11_age h c x1 x2).map (fun (y : (Int32 × Ch)) => (y.1, cput h y.2)) := by
  unfold fX11_age gX11_age
  simp only [lX11_age_11, cgN_80_5, cgN_80_4, cgO_s, lX8_copy, csI_80_18, lX11_age_35, lift_lt, k_bs, k_mb, k_ms, k_bm, k_mm, k_il, k_ir, lift_ite, k_id]
noncomputable def gX10_start (h : Hp) (c : Ch) (x1 : Int32) (x2 : Int32) : Option Ch :=
  lt (cI c 114 1 x2) fun c1 =>
  lt (cI c1 114 2 x1) fun c2 =>
  lt (cI c2 114 3 (0 : Int32)) fun c3 =>
  lt (cI c3 114 4 x1) fun c4 =>
  lt (cI c4 114 5 (0 : Int32)) fun c5 =>
  lt (cI c5 114 6 (1 : Int32)) fun c6 =>
  some (c6)
theorem lX10_start (h : Hp) (c : Ch) (x1 : Int32) (x2 : Int32) : fX10_start (cput h c) 114 x1 x2 = (gX10_start h c x1 x2).map (cput h) := by
  unfold fX10_start gX10_start
  simp only [csI_114_1, csI_114_2, csI_114_3, csI_114_4, csI_114_5, csI_114_6, lift_lt, k_bs, k_mb, k_ms, k_bm, k_mm, k_il, k_ir, lift_ite, k_id]
noncomputable def gX10_step_85 (h : Hp) (c : Ch)  : Option (Int32 × Ch) :=
  some (((1 : Int32), c))
theorem lX10_step_85 (h : Hp) (c : Ch)  : fX10_step_85 (cput h c)  = (gX10_step_85 h c ).map (fun (y : (Int32 × Ch)) => (y.1, cput h y.2)) := by
  unfold fX10_step_85 gX10_step_85
  simp only [lift_lt, k_bs, k_mb, k_ms, k_bm, k_mm, k_il, k_ir, lift_ite, k_id]
noncomputable def gX10_step (h : Hp) (c : Ch)  : Option (Int32 × Ch) :=
  (gX1_after h c (c.1 114 2) (c.1 114 1) (0 : Int32)).bind fun y1 =>
  lt (cI y1.2 114 2 y1.1) fun c2 =>
  lt (cI c2 114 3 ((c2.1 114 3) + (1 : Int32))) fun c3 =>
  if (c3.1 114 2) = (c3.1 114 4) then (
    some (((0 : Int32), c3))) else (
    if ((c3.1 114 3) - (c3.1 114 5)) = (c3.1 114 6) then (
      lt (cI c3 114 4 (c3.1 114 2)) fun c4 =>
      lt (cI c4 114 5 (c4.1 114 3)) fun c5 =>
      lt (cI c5 114 6 ((c5.1 114 6) * (2 : Int32))) fun c6 =>
      gX10_step_85 h c6 ) else (
    gX10_step_85 h c3 ))
theorem lX10_step (h : Hp) (c : Ch)  : fX10_step (cput h c) 114 = (gX10_step h c ).map (fun (y : (Int32 × Ch)) => (y.1, cput h y.2)) := by
  unfold fX10_step gX10_step
  simp only [cgN_114_0, cgI_114_2, cgI_114_1, cgO_108, lX1_after, csI_114_2, cgI_114_3, csI_114_3, cgI_114_4, cgI_114_5, cgI_114_6, lX10_step_85, csI_114_4, csI_114_5, csI_114_6, lift_lt, k_bs, k_mb, k_ms, k_bm, k_mm, k_il, k_ir, lift_ite, k_id]
noncomputable def gX10_stateBehind_74b (h : Hp) (c : Ch) (x6 : Int32) (x7 : Int32) : Option ((Int32 × Ch) ⊕ (Int32 × Ch)) :=
  if x6 ≤ x7 then (
    some (.inr ((c.1 114 2), c))) else (
    (gX1_after h c (c.1 114 2) (c.1 114 1) (0 : Int32)).bind fun y2 =>
    lt (cI y2.2 114 2 y2.1) fun c3 =>
    some (.inl ((x7 + Int32.ofInt 1), c3)))
noncomputable def gX10_stateBehind_74 (h : Hp) (c : Ch) (x6 : Int32) (x7 : Int32) : Option (Int32 × Ch) := lpw (σ := (Int32 × Ch)) (fun s => gX10_stateBehind_74b h s.2 x6 s.1) (x7, c)
theorem lX10_stateBehind_74b (h : Hp) (c : Ch) (x6 : Int32) (x7 : Int32) : fX10_stateBehind_74b (cput h c) 114 x6 x7 = (gX10_stateBehind_74b h c x6 x7).map (Sum.map (fun (s : (Int32 × Ch)) => (s.1, cput h s.2)) (fun (y : (Int32 × Ch)) => (y.1, cput h y.2))) := by
  unfold fX10_stateBehind_74b gX10_stateBehind_74b
  simp only [cgI_114_2, cgN_114_0, cgI_114_1, cgO_108, lX1_after, csI_114_2, lift_lt, k_bs, k_mb, k_ms, k_bm, k_mm, k_il, k_ir, lift_ite, k_id]
theorem lX10_stateBehind_74 (h : Hp) (c : Ch) (x6 : Int32) (x7 : Int32) : fX10_stateBehind_74 (cput h c) 114 x6 x7 = (gX10_stateBehind_74 h c x6 x7).map (fun (y : (Int32 × Ch)) => (y.1, cput h y.2)) := by
  unfold fX10_stateBehind_74 gX10_stateBehind_74
  exact lpw_map _ _ (fun (s : (Int32 × Ch)) => (s.1, cput h s.2)) (fun (y : (Int32 × Ch)) => (y.1, cput h y.2)) (fun s => lX10_stateBehind_74b h s.2 x6 s.1) (x7, c)
noncomputable def gX10_stateBehind_69 (h : Hp) (c : Ch) (s0 : Int32) : Option (Int32 × Ch) :=
  gX10_stateBehind_74 h c s0 (0 : Int32)
theorem lX10_stateBehind_69 (h : Hp) (c : Ch) (s0 : Int32) : fX10_stateBehind_69 (cput h c) 114 s0 = (gX10_stateBehind_69 h c s0).map (fun (y : (Int32 × Ch)) => (y.1, cput h y.2)) := by
  unfold fX10_stateBehind_69 gX10_stateBehind_69
  simp only [lX10_stateBehind_74, lift_lt, k_bs, k_mb, k_ms, k_bm, k_mm, k_il, k_ir, lift_ite, k_id]
noncomputable def gX10_stateBehind_56 (h : Hp) (c : Ch)  : Option (Int32 × Ch) :=
  gX10_stateBehind_69 h c (0 : Int32)
theorem lX10_stateBehind_56 (h : Hp) (c : Ch)  : fX10_stateBehind_56 (cput h c) 114 = (gX10_stateBehind_56 h c ).map (fun (y : (Int32 × Ch)) => (y.1, cput h y.2)) := by
  unfold fX10_stateBehind_56 gX10_stateBehind_56
  simp only [lX10_stateBehind_69, lift_lt, k_bs, k_mb, k_ms, k_bm, k_mm, k_il, k_ir, lift_ite, k_id]
noncomputable def gX10_stateBehind_35 (h : Hp) (c : Ch) (x3 : Int32) (x4 : Int32) : Option (Int32 × Ch) :=
  if x4 = 0 then (
    if 0 < ((c.1 114 3) - (c.1 114 5)) then (
      (rm (x3 - (c.1 114 3)) ((c.1 114 3) - (c.1 114 5))).bind fun v4 =>
      gX10_stateBehind_69 h c v4) else (
    gX10_stateBehind_56 h c )) else (
  gX10_stateBehind_56 h c )
theorem lX10_stateBehind_35 (h : Hp) (c : Ch) (x3 : Int32) (x4 : Int32) : fX10_stateBehind_35 (cput h c) 114 x3 x4 = (gX10_stateBehind_35 h c x3 x4).map (fun (y : (Int32 × Ch)) => (y.1, cput h y.2)) := by
  unfold fX10_stateBehind_35 gX10_stateBehind_35
  simp only [cgI_114_3, cgI_114_5, lX10_stateBehind_56, lX10_stateBehind_69, lift_lt, k_bs, k_mb, k_ms, k_bm, k_mm, k_il, k_ir, lift_ite, k_id]
noncomputable def gX10_stateBehind_12b (h : Hp) (c : Ch) (x3 : Int32) (x4 : Int32) (x5 : Int32) : Option ((Int32 × Int32 × Ch) ⊕ (Int32 × Ch)) :=
  if x3 ≤ x5 then (
  (gX10_stateBehind_35 h c x3 x4).map (fun q => .inr q)) else (
    if x4 = 0 then (
    (gX10_stateBehind_35 h c x3 x4).map (fun q => .inr q)) else (
      (gX10_step h c ).bind fun y5 =>
      some (.inl (y5.1, (x5 + Int32.ofInt 1), y5.2))))
noncomputable def gX10_stateBehind_12 (h : Hp) (c : Ch) (x3 : Int32) (x4 : Int32) (x5 : Int32) : Option (Int32 × Ch) := lpw (σ := (Int32 × Int32 × Ch)) (fun s => gX10_stateBehind_12b h s.2.2 x3 s.1 s.2.1) (x4, x5, c)
theorem lX10_stateBehind_12b (h : Hp) (c : Ch) (x3 : Int32) (x4 : Int32) (x5 : Int32) : fX10_stateBehind_12b (cput h c) 114 x3 x4 x5 = (gX10_stateBehind_12b h c x3 x4 x5).map (Sum.map (fun (s : (Int32 × Int32 × Ch)) => (s.1, s.2.1, cput h s.2.2)) (fun (y : (Int32 × Ch)) => (y.1, cput h y.2))) := by
  unfold fX10_stateBehind_12b gX10_stateBehind_12b
  simp only [lX10_stateBehind_35, cgO_114, lX10_step, lift_lt, k_bs, k_mb, k_ms, k_bm, k_mm, k_il, k_ir, lift_ite, k_id]
theorem lX10_stateBehind_12 (h : Hp) (c : Ch) (x3 : Int32) (x4 : Int32) (x5 : Int32) : fX10_stateBehind_12 (cput h c) 114 x3 x4 x5 = (gX10_stateBehind_12 h c x3 x4 x5).map (fun (y : (Int32 × Ch)) => (y.1, cput h y.2)) := by
  unfold fX10_stateBehind_12 gX10_stateBehind_12
  exact lpw_map _ _ (fun (s : (Int32 × Int32 × Ch)) => (s.1, s.2.1, cput h s.2.2)) (fun (y : (Int32 × Ch)) => (y.1, cput h y.2)) (fun s => lX10_stateBehind_12b h s.2.2 x3 s.1 s.2.1) (x4, x5, c)
noncomputable def gX10_stateBehind (h : Hp) (c : Ch) (x1 : Int32) (x2 : Int32) (x3 : Int32) : Option (Int32 × Ch) :=
  (gX10_start h c x1 x2).bind fun y1 =>
  gX10_stateBehind_12 h y1 x3 (1 : Int32) (0 : Int32)
theorem lX10_stateBehind (h : Hp) (c : Ch) (x1 : Int32) (x2 : Int32) (x3 : Int32) : fX10_stateBehind (cput h c) 114 x1 x2 x3 = (gX10_stateBehind h c x1 x2 x3).map (fun (y : (Int32 × Ch)) => (y.1, cput h y.2)) := by
  unfold fX10_stateBehind gX10_stateBehind
  simp only [cgO_114, lX10_start, lX10_stateBehind_12, lift_lt, k_bs, k_mb, k_ms, k_bm, k_mm, k_il, k_ir, lift_ite, k_id]
noncomputable def gX11_lies_22 (h : Hp) (c : Ch)  : Option (Int32 × Ch) :=
  some (((-3 : Int32), c))
theorem lX11_lies_22 (h : Hp) (c : Ch)  : fX11_lies_22 (cput h c)  = (gX11_lies_22 h c ).map (fun (y : (Int32 × Ch)) => (y.1, cput h y.2)) := by
  unfold fX11_lies_22 gX11_lies_22
  simp only [lift_lt, k_bs, k_mb, k_ms, k_bm, k_mm, k_il, k_ir, lift_ite, k_id]
noncomputable def gX11_lies (h : Hp) (c : Ch) (x1 : Int32) (x2 : Int32) : Option (Int32 × Ch) :=
  (gX11_isPair h c x1).bind fun y1 =>
  if y1 = 0 then (
    some (((-2 : Int32), c))) else (
    if x2 < 0 then (
    gX11_lies_22 h c ) else (
      if x2 ≤ (99999 : Int32) then (
        (gX11_tuned h c ).bind fun y2 =>
        (gX10_stateBehind h y2 (y2.1 (sadr 0) 0) (y2.1 (sadr 0) 2) x2).bind fun y3 =>
        (gX11_digit y3.1 x1).bind fun y4 =>
        some ((y4, y3.2))) else (
      gX11_lies_22 h c )))
theorem lX11_lies (h : Hp) (c : Ch) (x1 : Int32) (x2 : Int32) : fX11_lies (cput h c) 80 x1 x2 = (gX11_lies h c x1 x2).map (fun (y : (Int32 × Ch)) => (y.1, cput h y.2)) := by
  unfold fX11_lies gX11_lies
  simp only [cgO_80, lX11_isPair, lX11_lies_22, lX11_tuned, cgN_80_12, cgN_80_4, cgI_s_0, cgI_s_2, cgO_114, lX10_stateBehind, lX11_digit, lift_lt, k_bs, k_mb, k_ms, k_bm, k_mm, k_il, k_ir, lift_ite, k_id]
noncomputable def gX1_tunedTo (h : Hp) (c : Ch)  : Option Nat :=
  (c.2.2.1 108 5).bind fun v1 =>
  some (v1)
theorem lX1_tunedTo (h : Hp) (c : Ch)  : fX1_tunedTo (cput h c) 108 = gX1_tunedTo h c  := by
  unfold fX1_tunedTo gX1_tunedTo
  simp only [cgN_108_5, lift_lt, k_bs, k_mb, k_ms, k_bm, k_mm, k_il, k_ir, lift_ite, k_id]
noncomputable def gX10_tellMeetings_124 (h : Hp) (c : Ch)  : Option Ch :=
  some (c)
theorem lX10_tellMeetings_124 (h : Hp) (c : Ch)  : fX10_tellMeetings_124 (cput h c)  = (gX10_tellMeetings_124 h c ).map (cput h) := by
  unfold fX10_tellMeetings_124 gX10_tellMeetings_124
  simp only [lift_lt, k_bs, k_mb, k_ms, k_bm, k_mm, k_il, k_ir, lift_ite, k_id]
noncomputable def gX10_tellMeetings_116 (h : Hp) (c : Ch) (x3 : Nat) (x4 : Nat) (x6 : Int32) (s0 : Int32) : Option ((Int32 × Int32 × Ch) ⊕ Ch) :=
  some (.inl (s0, (x6 + Int32.ofInt 1), c))
theorem lX10_tellMeetings_116 (h : Hp) (c : Ch) (x3 : Nat) (x4 : Nat) (x6 : Int32) (s0 : Int32) : fX10_tellMeetings_116 (cput h c) 114 (yadr x3) x4 x6 s0 = (gX10_tellMeetings_116 h c x3 x4 x6 s0).map (Sum.map (fun (s : (Int32 × Int32 × Ch)) => (s.1, s.2.1, cput h s.2.2)) (cput h)) := by
  unfold fX10_tellMeetings_116 gX10_tellMeetings_116
  simp only [lift_lt, k_bs, k_mb, k_ms, k_bm, k_mm, k_il, k_ir, lift_ite, k_id]
noncomputable def gX10_tellMeetings_115 (h : Hp) (c : Ch) (x3 : Nat) (x4 : Nat) (x6 : Int32) : Option ((Int32 × Int32 × Ch) ⊕ Ch) :=
  gX10_tellMeetings_116 h c x3 x4 x6 (0 : Int32)
theorem lX10_tellMeetings_115 (h : Hp) (c : Ch) (x3 : Nat) (x4 : Nat) (x6 : Int32) : fX10_tellMeetings_115 (cput h c) 114 (yadr x3) x4 x6 = (gX10_tellMeetings_115 h c x3 x4 x6).map (Sum.map (fun (s : (Int32 × Int32 × Ch)) => (s.1, s.2.1, cput h s.2.2)) (cput h)) := by
  unfold fX10_tellMeetings_115 gX10_tellMeetings_115
  simp only [lX10_tellMeetings_116, lift_lt, k_bs, k_mb, k_ms, k_bm, k_mm, k_il, k_ir, lift_ite, k_id]
noncomputable def gX10_tellMeetings_92 (h : Hp) (c : Ch) (x3 : Nat) (x4 : Nat) (x6 : Int32) : Option ((Int32 × Int32 × Ch) ⊕ Ch) :=
  gO (cput h c) 0 x4 (
  (fX0_gapSum (cput h c) x4 (c.1 114 2)).bind fun y5 =>
  if y5 ≤ 0 then (
  gX10_tellMeetings_115 h c x3 x4 x6) else (
    (gX10_step h c ).bind fun y6 =>
    if y6.1 = 0 then (
    gX10_tellMeetings_115 h y6.2 x3 x4 x6) else (
      gX10_tellMeetings_116 h y6.2 x3 x4 x6 (1 : Int32))))
theorem lX10_tellMeetings_92 (h : Hp) (c : Ch) (x3 : Nat) (x4 : Nat) (x6 : Int32) : fX10_tellMeetings_92 (cput h c) 114 (yadr x3) x4 x6 = (gX10_tellMeetings_92 h c x3 x4 x6).map (Sum.map (fun (s : (Int32 × Int32 × Ch)) => (s.1, s.2.1, cput h s.2.2)) (cput h)) := by
  unfold fX10_tellMeetings_92 gX10_tellMeetings_92
  simp only [cgI_114_2, lift_gOm, lX10_tellMeetings_115, cgO_114, lX10_step, lX10_tellMeetings_116, lift_lt, k_bs, k_mb, k_ms, k_bm, k_mm, k_il, k_ir, lift_ite, k_id]
noncomputable def gX10_tellMeetings_86 (h : Hp) (c : Ch) (x3 : Nat) (x4 : Nat) (x6 : Int32) (x7 : Int32) : Option ((Int32 × Ch) ⊕ ((Int32 × Int32 × Ch) ⊕ Ch)) :=
  some (.inl ((x7 + Int32.ofInt 1), c))
theorem lX10_tellMeetings_86 (h : Hp) (c : Ch) (x3 : Nat) (x4 : Nat) (x6 : Int32) (x7 : Int32) : fX10_tellMeetings_86 (cput h c) 114 (yadr x3) x4 x6 x7 = (gX10_tellMeetings_86 h c x3 x4 x6 x7).map (Sum.map (fun (s : (Int32 × Ch)) => (s.1, cput h s.2)) (Sum.map (fun (s : (Int32 × Int32 × Ch)) => (s.1, s.2.1, cput h s.2.2)) (cput h))) := by
  unfold fX10_tellMeetings_86 gX10_tellMeetings_86
  simp only [lift_lt, k_bs, k_mb, k_ms, k_bm, k_mm, k_il, k_ir, lift_ite, k_id]
noncomputable def gX10_tellMeetings_41b (h : Hp) (c : Ch) (x3 : Nat) (x4 : Nat) (x6 : Int32) (x7 : Int32) : Option ((Int32 × Ch) ⊕ ((Int32 × Int32 × Ch) ⊕ Ch)) :=
  (gI (cput h c) 0 x4 0).bind fun v4 =>
  if v4 ≤ x7 then (
  (gX10_tellMeetings_92 h c x3 x4 x6).map (fun q => .inr q)) else (
    if (Int32.ofNat 4) ≤ x7 then (
    (gX10_tellMeetings_92 h c x3 x4 x6).map (fun q => .inr q)) else (
      (cA c (yadr x3) 4 x7).bind fun v7 =>
      if v7 = (-1 : Int32) then (
        (gX11_digit (c.1 114 2) x7).bind fun y8 =>
        if y8 = 0 then (
          (cWA c 0 (yadr x3) 4 x7 (c.1 114 3)).bind fun c9 =>
          gX10_tellMeetings_86 h c9 x3 x4 x6 x7) else (
        gX10_tellMeetings_86 h c x3 x4 x6 x7)) else (
      gX10_tellMeetings_86 h c x3 x4 x6 x7)))
noncomputable def gX10_tellMeetings_41 (h : Hp) (c : Ch) (x3 : Nat) (x4 : Nat) (x6 : Int32) (x7 : Int32) : Option ((Int32 × Int32 × Ch) ⊕ Ch) := lpw (σ := (Int32 × Ch)) (fun s => gX10_tellMeetings_41b h s.2 x3 x4 x6 s.1) (x7, c)
theorem lX10_tellMeetings_41b (h : Hp) (c : Ch) (x3 : Nat) (x4 : Nat) (x6 : Int32) (x7 : Int32) : fX10_tellMeetings_41b (cput h c) 114 (yadr x3) x4 x6 x7 = (gX10_tellMeetings_41b h c x3 x4 x6 x7).map (Sum.map (fun (s : (Int32 × Ch)) => (s.1, cput h s.2)) (Sum.map (fun (s : (Int32 × Int32 × Ch)) => (s.1, s.2.1, cput h s.2.2)) (cput h))) := by
  unfold fX10_tellMeetings_41b gX10_tellMeetings_41b
  simp only [lX10_tellMeetings_92, caL_ya, caI_ya, lX10_tellMeetings_86, cgI_114_2, lX11_digit, cgI_114_3, cwI_ya, lift_lt, k_bs, k_mb, k_ms, k_bm, k_mm, k_il, k_ir, lift_ite, k_id]
theorem lX10_tellMeetings_41 (h : Hp) (c : Ch) (x3 : Nat) (x4 : Nat) (x6 : Int32) (x7 : Int32) : fX10_tellMeetings_41 (cput h c) 114 (yadr x3) x4 x6 x7 = (gX10_tellMeetings_41 h c x3 x4 x6 x7).map (Sum.map (fun (s : (Int32 × Int32 × Ch)) => (s.1, s.2.1, cput h s.2.2)) (cput h)) := by
  unfold fX10_tellMeetings_41 gX10_tellMeetings_41
  exact lpw_map _ _ (fun (s : (Int32 × Ch)) => (s.1, cput h s.2)) (Sum.map (fun (s : (Int32 × Int32 × Ch)) => (s.1, s.2.1, cput h s.2.2)) (cput h)) (fun s => lX10_tellMeetings_41b h s.2 x3 x4 x6 s.1) (x7, c)
noncomputable def gX10_tellMeetings_26b (h : Hp) (c : Ch) (x3 : Nat) (x4 : Nat) (x5 : Int32) (x6 : Int32) : Option ((Int32 × Int32 × Ch) ⊕ Ch) :=
  if (99999 : Int32) < x6 then (
  (gX10_tellMeetings_124 h c ).map (fun q => .inr q)) else (
    if x5 = 0 then (
    (gX10_tellMeetings_124 h c ).map (fun q => .inr q)) else (
      gX10_tellMeetings_41 h c x3 x4 x6 (0 : Int32)))
noncomputable def gX10_tellMeetings_26 (h : Hp) (c : Ch) (x3 : Nat) (x4 : Nat) (x5 : Int32) (x6 : Int32) : Option Ch := lpw (σ := (Int32 × Int32 × Ch)) (fun s => gX10_tellMeetings_26b h s.2.2 x3 x4 s.1 s.2.1) (x5, x6, c)
theorem lX10_tellMeetings_26b (h : Hp) (c : Ch) (x3 : Nat) (x4 : Nat) (x5 : Int32) (x6 : Int32) : fX10_tellMeetings_26b (cput h c) 114 (yadr x3) x4 x5 x6 = (gX10_tellMeetings_26b h c x3 x4 x5 x6).map (Sum.map (fun (s : (Int32 × Int32 × Ch)) => (s.1, s.2.1, cput h s.2.2)) (cput h)) := by
  unfold fX10_tellMeetings_26b gX10_tellMeetings_26b
  simp only [lX10_tellMeetings_124, lX10_tellMeetings_41, lift_lt, k_bs, k_mb, k_ms, k_bm, k_mm, k_il, k_ir, lift_ite, k_id]
theorem lX10_tellMeetings_26 (h : Hp) (c : Ch) (x3 : Nat) (x4 : Nat) (x5 : Int32) (x6 : Int32) : fX10_tellMeetings_26 (cput h c) 114 (yadr x3) x4 x5 x6 = (gX10_tellMeetings_26 h c x3 x4 x5 x6).map (cput h) := by
  unfold fX10_tellMeetings_26 gX10_tellMeetings_26
  exact lpw_map _ _ (fun (s : (Int32 × Int32 × Ch)) => (s.1, s.2.1, cput h s.2.2)) (cput h) (fun s => lX10_tellMeetings_26b h s.2.2 x3 x4 s.1 s.2.1) (x5, x6, c)
noncomputable def gX10_tellMeetings (h : Hp) (c : Ch) (x1 : Int32) (x2 : Int32) (x3 : Nat) : Option Ch :=
  (gfill_ya c x3 (-1 : Int32)).bind fun y1 =>
  (gX10_start h y1 x1 x2).bind fun y2 =>
  (gX1_tunedTo h y2 ).bind fun y3 =>
  gX10_tellMeetings_26 h y2 x3 y3 (1 : Int32) (0 : Int32)
theorem lX10_tellMeetings (h : Hp) (c : Ch) (x1 : Int32) (x2 : Int32) (x3 : Nat) : fX10_tellMeetings (cput h c) 114 x1 x2 (yadr x3) = (gX10_tellMeetings h c x1 x2 x3).map (cput h) := by
  unfold fX10_tellMeetings gX10_tellMeetings
  simp only [lfill_ya, cgO_114, lX10_start, cgN_114_0, cgO_108, lX1_tunedTo, lX10_tellMeetings_26, lift_lt, k_bs, k_mb, k_ms, k_bm, k_mm, k_il, k_ir, lift_ite, k_id]
theorem lX10_tellMeetings_0 (h : Hp) (c : Ch) (x1 : Int32) (x2 : Int32) : fX10_tellMeetings (cput h c) 114 x1 x2 125 = (gX10_tellMeetings h c x1 x2 0).map (cput h) := lX10_tellMeetings h c x1 x2 0
theorem lX10_tellMeetings_1 (h : Hp) (c : Ch) (x1 : Int32) (x2 : Int32) : fX10_tellMeetings (cput h c) 114 x1 x2 126 = (gX10_tellMeetings h c x1 x2 1).map (cput h) := lX10_tellMeetings h c x1 x2 1
noncomputable def gX11_meets (h : Hp) (c : Ch) (x1 : Int32) : Option (Int32 × Ch) :=
  (gX11_isPair h c x1).bind fun y1 =>
  if y1 = 0 then (
    some (((-2 : Int32), c))) else (
    (gX11_tuned h c ).bind fun y2 =>
    (gX10_tellMeetings h y2 (y2.1 (sadr 0) 0) (y2.1 (sadr 0) 2) 0).bind fun y3 =>
    (cA y3 125 4 x1).bind fun v4 =>
    some ((v4, y3)))
theorem lX11_meets (h : Hp) (c : Ch) (x1 : Int32) : fX11_meets (cput h c) 80 x1 = (gX11_meets h c x1).map (fun (y : (Int32 × Ch)) => (y.1, cput h y.2)) := by
  unfold fX11_meets gX11_meets
  simp only [cgO_80, lX11_isPair, lX11_tuned, cgN_80_12, cgN_80_4, cgI_s_0, cgI_s_2, cgN_80_15, cgO_114, lX10_tellMeetings_0, lX10_tellMeetings_1, caI_125, lift_lt, k_bs, k_mb, k_ms, k_bm, k_mm, k_il, k_ir, lift_ite, k_id]
noncomputable def gX11_countEarlier_75 (h : Hp) (c : Ch) (x1 : Int32) (x2 : Int32) (x3 : Int32) : Option ((Int32 × Int32) ⊕ Int32) :=
  some (.inl (x2, (x3 + Int32.ofInt 1)))
theorem lX11_countEarlier_75 (h : Hp) (c : Ch) (x1 : Int32) (x2 : Int32) (x3 : Int32) : fX11_countEarlier_75 (cput h c) 80 x1 x2 x3 = gX11_countEarlier_75 h c x1 x2 x3 := by
  unfold fX11_countEarlier_75 gX11_countEarlier_75
  simp only [lift_lt, k_bs, k_mb, k_ms, k_bm, k_mm, k_il, k_ir, lift_ite, k_id]
noncomputable def gX11_countEarlier_55 (h : Hp) (c : Ch) (x1 : Int32) (x2 : Int32) (x3 : Int32) (s0 : Int32) : Option ((Int32 × Int32) ⊕ Int32) :=
  (cA c 125 4 x3).bind fun v5 =>
  if v5 = (-1 : Int32) then (
  gX11_countEarlier_75 h c x1 x2 x3) else (
    if s0 = 0 then (
    gX11_countEarlier_75 h c x1 x2 x3) else (
      gX11_countEarlier_75 h c x1 (x2 + Int32.ofInt 1) x3))
theorem lX11_countEarlier_55 (h : Hp) (c : Ch) (x1 : Int32) (x2 : Int32) (x3 : Int32) (s0 : Int32) : fX11_countEarlier_55 (cput h c) 80 x1 x2 x3 s0 = gX11_countEarlier_55 h c x1 x2 x3 s0 := by
  unfold fX11_countEarlier_55 gX11_countEarlier_55
  simp only [cgN_80_15, caI_125, lX11_countEarlier_75, lift_lt, k_bs, k_mb, k_ms, k_bm, k_mm, k_il, k_ir, lift_ite, k_id]
noncomputable def gX11_countEarlier_50 (h : Hp) (c : Ch) (x1 : Int32) (x2 : Int32) (x3 : Int32) : Option ((Int32 × Int32) ⊕ Int32) :=
  gX11_countEarlier_55 h c x1 x2 x3 (1 : Int32)
theorem lX11_countEarlier_50 (h : Hp) (c : Ch) (x1 : Int32) (x2 : Int32) (x3 : Int32) : fX11_countEarlier_50 (cput h c) 80 x1 x2 x3 = gX11_countEarlier_50 h c x1 x2 x3 := by
  unfold fX11_countEarlier_50 gX11_countEarlier_50
  simp only [lX11_countEarlier_55, lift_lt, k_bs, k_mb, k_ms, k_bm, k_mm, k_il, k_ir, lift_ite, k_id]
noncomputable def gX11_countEarlier_54 (h : Hp) (c : Ch) (x1 : Int32) (x2 : Int32) (x3 : Int32) : Option ((Int32 × Int32) ⊕ Int32) :=
  gX11_countEarlier_55 h c x1 x2 x3 (0 : Int32)
theorem lX11_countEarlier_54 (h : Hp) (c : Ch) (x1 : Int32) (x2 : Int32) (x3 : Int32) : fX11_countEarlier_54 (cput h c) 80 x1 x2 x3 = gX11_countEarlier_54 h c x1 x2 x3 := by
  unfold fX11_countEarlier_54 gX11_countEarlier_54
  simp only [lX11_countEarlier_55, lift_lt, k_bs, k_mb, k_ms, k_bm, k_mm, k_il, k_ir, lift_ite, k_id]
noncomputable def gX11_countEarlier_4b (h : Hp) (c : Ch) (x1 : Int32) (x2 : Int32) (x3 : Int32) : Option ((Int32 × Int32) ⊕ Int32) :=
  (c.2.2.1 80 3).bind fun v1 =>
  (gI (cput h c) 0 v1 0).bind fun v2 =>
  if v2 ≤ x3 then (
    some (.inr x2)) else (
    (cA c 125 4 x3).bind fun v3 =>
    (cA c 125 4 x1).bind fun v4 =>
    if v3 < v4 then (
    gX11_countEarlier_50 h c x1 x2 x3) else (
      (cA c 125 4 x3).bind fun v6 =>
      (cA c 125 4 x1).bind fun v7 =>
      if v6 = v7 then (
        if x1 ≤ x3 then (
        gX11_countEarlier_54 h c x1 x2 x3) else (
        gX11_countEarlier_50 h c x1 x2 x3)) else (
      gX11_countEarlier_54 h c x1 x2 x3)))
noncomputable def gX11_countEarlier_4 (h : Hp) (c : Ch) (x1 : Int32) (x2 : Int32) (x3 : Int32) : Option Int32 := lpw (σ := (Int32 × Int32)) (fun s => gX11_countEarlier_4b h c x1 s.1 s.2) (x2, x3)
theorem lX11_countEarlier_4b (h : Hp) (c : Ch) (x1 : Int32) (x2 : Int32) (x3 : Int32) : fX11_countEarlier_4b (cput h c) 80 x1 x2 x3 = gX11_countEarlier_4b h c x1 x2 x3 := by
  unfold fX11_countEarlier_4b gX11_countEarlier_4b
  simp only [cgN_80_3, cgN_80_15, caI_125, lX11_countEarlier_50, lX11_countEarlier_54, lift_lt, k_bs, k_mb, k_ms, k_bm, k_mm, k_il, k_ir, lift_ite, k_id]
theorem lX11_countEarlier_4 (h : Hp) (c : Ch) (x1 : Int32) (x2 : Int32) (x3 : Int32) : fX11_countEarlier_4 (cput h c) 80 x1 x2 x3 = gX11_countEarlier_4 h c x1 x2 x3 := by
  unfold fX11_countEarlier_4 gX11_countEarlier_4
  refine congrArg (fun b => lpw b _) (funext (fun s => ?_))
  exact lX11_countEarlier_4b h c x1 s.1 s.2
noncomputable def gX11_countEarlier (h : Hp) (c : Ch) (x1 : Int32) : Option Int32 :=
  gX11_countEarlier_4 h c x1 (0 : Int32) (0 : Int32)
theorem lX11_countEarlier (h : Hp) (c : Ch) (x1 : Int32) : fX11_countEarlier (cput h c) 80 x1 = gX11_countEarlier h c x1 := by
  unfold fX11_countEarlier gX11_countEarlier
  simp only [lX11_countEarlier_4, lift_lt, k_bs, k_mb, k_ms, k_bm, k_mm, k_il, k_ir, lift_ite, k_id]
noncomputable def gX11_order_71 (h : Hp) (c : Ch) (x1 : Int32) (x2 : Int32) : Option (Int32 ⊕ (Int32 × Ch)) :=
  some (.inl (x2 + Int32.ofInt 1))
theorem lX11_order_71 (h : Hp) (c : Ch) (x1 : Int32) (x2 : Int32) : fX11_order_71 (cput h c) 80 x1 x2 = (gX11_order_71 h c x1 x2).map (Sum.map id (fun (y : (Int32 × Ch)) => (y.1, cput h y.2))) := by
  unfold fX11_order_71 gX11_order_71
  simp only [lift_lt, k_bs, k_mb, k_ms, k_bm, k_mm, k_il, k_ir, lift_ite, k_id]
noncomputable def gX11_order_39b (h : Hp) (c : Ch) (x1 : Int32) (x2 : Int32) : Option (Int32 ⊕ (Int32 × Ch)) :=
  (c.2.2.1 80 3).bind fun v3 =>
  (gI (cput h c) 0 v3 0).bind fun v4 =>
  if v4 ≤ x2 then (
    some (.inr ((-1 : Int32), c))) else (
    (cA c 125 4 x2).bind fun v5 =>
    if v5 = (-1 : Int32) then (
    gX11_order_71 h c x1 x2) else (
      (gX11_countEarlier h c x2).bind fun y6 =>
      if y6 = x1 then (
        some (.inr (x2, c))) else (
      gX11_order_71 h c x1 x2)))
noncomputable def gX11_order_39 (h : Hp) (c : Ch) (x1 : Int32) (x2 : Int32) : Option (Int32 × Ch) := lpw (σ := Int32) (fun s => gX11_order_39b h c x1 s) x2
theorem lX11_order_39b (h : Hp) (c : Ch) (x1 : Int32) (x2 : Int32) : fX11_order_39b (cput h c) 80 x1 x2 = (gX11_order_39b h c x1 x2).map (Sum.map id (fun (y : (Int32 × Ch)) => (y.1, cput h y.2))) := by
  unfold fX11_order_39b gX11_order_39b
  simp only [cgN_80_3, cgN_80_15, caI_125, lX11_order_71, cgO_80, lX11_countEarlier, lift_lt, k_bs, k_mb, k_ms, k_bm, k_mm, k_il, k_ir, lift_ite, k_id]
theorem lX11_order_39 (h : Hp) (c : Ch) (x1 : Int32) (x2 : Int32) : fX11_order_39 (cput h c) 80 x1 x2 = (gX11_order_39 h c x1 x2).map (fun (y : (Int32 × Ch)) => (y.1, cput h y.2)) := by
  unfold fX11_order_39 gX11_order_39
  exact lpw_map _ _ id (fun (y : (Int32 × Ch)) => (y.1, cput h y.2)) (fun s => lX11_order_39b h c x1 s) x2
noncomputable def gX11_order (h : Hp) (c : Ch) (x1 : Int32) : Option (Int32 × Ch) :=
  if 0 ≤ x1 then (
    (gX11_tuned h c ).bind fun y1 =>
    (gX10_tellMeetings h y1 (y1.1 (sadr 0) 0) (y1.1 (sadr 0) 2) 0).bind fun y2 =>
    gX11_order_39 h y2 x1 (0 : Int32)) else (
    some (((-3 : Int32), c)))
theorem lX11_order (h : Hp) (c : Ch) (x1 : Int32) : fX11_order (cput h c) 80 x1 = (gX11_order h c x1).map (fun (y : (Int32 × Ch)) => (y.1, cput h y.2)) := by
  unfold fX11_order gX11_order
  simp only [cgO_80, lX11_tuned, cgN_80_12, cgN_80_4, cgI_s_0, cgI_s_2, cgN_80_15, cgO_114, lX10_tellMeetings_0, lX10_tellMeetings_1, lX11_order_39, lift_lt, k_bs, k_mb, k_ms, k_bm, k_mm, k_il, k_ir, lift_ite, k_id]
noncomputable def gX10_yearsTillFall_48 (h : Hp) (c : Ch)  : Option (Int32 × Ch) :=
  some (((-1 : Int32), c))
theorem lX10_yearsTillFall_48 (h : Hp) (c : Ch)  : fX10_yearsTillFall_48 (cput h c)  = (gX10_yearsTillFall_48 h c ).map (fun (y : (Int32 × Ch)) => (y.1, cput h y.2)) := by
  unfold fX10_yearsTillFall_48 gX10_yearsTillFall_48
  simp only [lift_lt, k_bs, k_mb, k_ms, k_bm, k_mm, k_il, k_ir, lift_ite, k_id]
noncomputable def gX10_yearsTillFall_11b (h : Hp) (c : Ch) (x3 : Int32) (x4 : Int32) : Option ((Int32 × Int32 × Ch) ⊕ (Int32 × Ch)) :=
  if (99999 : Int32) < x4 then (
  (gX10_yearsTillFall_48 h c ).map (fun q => .inr q)) else (
    if x3 = 0 then (
    (gX10_yearsTillFall_48 h c ).map (fun q => .inr q)) else (
      if (c.1 114 2) < (10000 : Int32) then (
        (gX10_step h c ).bind fun y2 =>
        some (.inl (y2.1, (x4 + Int32.ofInt 1), y2.2))) else (
        some (.inr ((c.1 114 3), c)))))
noncomputable def gX10_yearsTillFall_11 (h : Hp) (c : Ch) (x3 : Int32) (x4 : Int32) : Option (Int32 × Ch) := lpw (σ := (Int32 × Int32 × Ch)) (fun s => gX10_yearsTillFall_11b h s.2.2  s.1 s.2.1) (x3, x4, c)
theorem lX10_yearsTillFall_11b (h : Hp) (c : Ch) (x3 : Int32) (x4 : Int32) : fX10_yearsTillFall_11b (cput h c) 114 x3 x4 = (gX10_yearsTillFall_11b h c x3 x4).map (Sum.map (fun (s : (Int32 × Int32 × Ch)) => (s.1, s.2.1, cput h s.2.2)) (fun (y : (Int32 × Ch)) => (y.1, cput h y.2))) := by
  unfold fX10_yearsTillFall_11b gX10_yearsTillFall_11b
  simp only [lX10_yearsTillFall_48, cgI_114_2, cgO_114, lX10_step, cgI_114_3, lift_lt, k_bs, k_mb, k_ms, k_bm, k_mm, k_il, k_ir, lift_ite, k_id]
theorem lX10_yearsTillFall_11 (h : Hp) (c : Ch) (x3 : Int32) (x4 : Int32) : fX10_yearsTillFall_11 (cput h c) 114 x3 x4 = (gX10_yearsTillFall_11 h c x3 x4).map (fun (y : (Int32 × Ch)) => (y.1, cput h y.2)) := by
  unfold fX10_yearsTillFall_11 gX10_yearsTillFall_11
  exact lpw_map _ _ (fun (s : (Int32 × Int32 × Ch)) => (s.1, s.2.1, cput h s.2.2)) (fun (y : (Int32 × Ch)) => (y.1, cput h y.2)) (fun s => lX10_yearsTillFall_11b h s.2.2 s.1 s.2.1) (x3, x4, c)
noncomputable def gX10_yearsTillFall (h : Hp) (c : Ch) (x1 : Int32) (x2 : Int32) : Option (Int32 × Ch) :=
  (gX10_start h c x1 x2).bind fun y1 =>
  gX10_yearsTillFall_11 h y1 (1 : Int32) (0 : Int32)
theorem lX10_yearsTillFall (h : Hp) (c : Ch) (x1 : Int32) (x2 : Int32) : fX10_yearsTillFall (cput h c) 114 x1 x2 = (gX10_yearsTillFall h c x1 x2).map (fun (y : (Int32 × Ch)) => (y.1, cput h y.2)) := by
  unfold fX10_yearsTillFall gX10_yearsTillFall
  simp only [cgO_114, lX10_start, lX10_yearsTillFall_11, lift_lt, k_bs, k_mb, k_ms, k_bm, k_mm, k_il, k_ir, lift_ite, k_id]
noncomputable def gX11_falls (h : Hp) (c : Ch)  : Option (Int32 × Ch) :=
  (gX11_tuned h c ).bind fun y1 =>
  (gX10_yearsTillFall h y1 (y1.1 (sadr 0) 0) (y1.1 (sadr 0) 2)).bind fun y2 =>
  some ((y2.1, y2.2))
theorem lX11_falls (h : Hp) (c : Ch)  : fX11_falls (cput h c) 80 = (gX11_falls h c ).map (fun (y : (Int32 × Ch)) => (y.1, cput h y.2)) := by
  unfold fX11_falls gX11_falls
  simp only [cgO_80, lX11_tuned, cgN_80_12, cgN_80_4, cgI_s_0, cgI_s_2, cgO_114, lX10_yearsTillFall, lift_lt, k_bs, k_mb, k_ms, k_bm, k_mm, k_il, k_ir, lift_ite, k_id]
noncomputable def gX11_moved_29 (h : Hp) (c : Ch)  : Option (Int32 × Ch) :=
  some (((-99000002 : Int32), c))
theorem lX11_moved_29 (h : Hp) (c : Ch)  : fX11_moved_29 (cput h c)  = (gX11_moved_29 h c ).map (fun (y : (Int32 × Ch)) => (y.1, cput h y.2)) := by
  unfold fX11_moved_29 gX11_moved_29
  simp only [lift_lt, k_bs, k_mb, k_ms, k_bm, k_mm, k_il, k_ir, lift_ite, k_id]
noncomputable def gX11_moved_141 (h : Hp) (c : Ch)  : Option (Int32 × Ch) :=
  some (((-99000001 : Int32), c))
theorem lX11_moved_141 (h : Hp) (c : Ch)  : fX11_moved_141 (cput h c)  = (gX11_moved_141 h c ).map (fun (y : (Int32 × Ch)) => (y.1, cput h y.2)) := by
  unfold fX11_moved_141 gX11_moved_141
  simp only [lift_lt, k_bs, k_mb, k_ms, k_bm, k_mm, k_il, k_ir, lift_ite, k_id]
noncomputable def gX11_moved (h : Hp) (c : Ch) (x1 : Int32) (x2 : Int32) (x3 : Int32) : Option (Int32 × Ch) :=
  (gX11_isPair h c x1).bind fun y1 =>
  if y1 = 0 then (
  gX11_moved_29 h c ) else (
    (gX11_isPair h c x2).bind fun y2 =>
    if y2 = 0 then (
    gX11_moved_29 h c ) else (
      (gX11_isPair h c x3).bind fun y3 =>
      if y3 = 0 then (
      gX11_moved_29 h c ) else (
        if x2 = x3 then (
        gX11_moved_29 h c ) else (
          (gX11_dropsOf (c.1 (sadr 0) 2) x2).bind fun y4 =>
          if y4 = 0 then (
            some (((-99000005 : Int32), c))) else (
            (gX11_tuned h c ).bind fun y5 =>
            (tT 2 x2).bind fun v6 =>
            (tT 2 x3).bind fun v7 =>
            (gX10_tellMeetings h y5 (y5.1 (sadr 0) 0) (y5.1 (sadr 0) 2) 0).bind fun y8 =>
            (gX10_tellMeetings h y8 (y8.1 (sadr 0) 0) (((y5.1 (sadr 0) 2) - v6) + v7) 1).bind fun y9 =>
            (cA y9 125 4 x1).bind fun v10 =>
            if v10 = (-1 : Int32) then (
            gX11_moved_141 h y9 ) else (
              (cA y9 126 4 x1).bind fun v11 =>
              if v11 = (-1 : Int32) then (
              gX11_moved_141 h y9 ) else (
                (cA y9 126 4 x1).bind fun v12 =>
                (cA y9 125 4 x1).bind fun v13 =>
                some (((v12 - v13), y9)))))))))
theorem lX11_moved (h : Hp) (c : Ch) (x1 : Int32) (x2 : Int32) (x3 : Int32) : fX11_moved (cput h c) 80 x1 x2 x3 = (gX11_moved h c x1 x2 x3).map (fun (y : (Int32 × Ch)) => (y.1, cput h y.2)) := by
  unfold fX11_moved gX11_moved
  simp only [cgO_80, lX11_isPair, lX11_moved_29, cgN_80_4, cgI_s_2, lX11_dropsOf, lX11_tuned, cgN_80_12, cgI_s_0, cgN_80_15, cgO_114, lX10_tellMeetings_0, lX10_tellMeetings_1, cgN_80_16, caI_125, lX11_moved_141, caI_126, lift_lt, k_bs, k_mb, k_ms, k_bm, k_mm, k_il, k_ir, lift_ite, k_id]
noncomputable def gX11_isSet_22 (h : Hp) (c : Ch) (s0 : Int32) : Option Int32 :=
  bl s0 (some (s0))
theorem lX11_isSet_22 (h : Hp) (c : Ch) (s0 : Int32) : fX11_isSet_22 (cput h c) s0 = gX11_isSet_22 h c s0 := by
  unfold fX11_isSet_22 gX11_isSet_22
  simp only [lift_bl, lift_lt, k_bs, k_mb, k_ms, k_bm, k_mm, k_il, k_ir, lift_ite, k_id]
noncomputable def gX11_isSet_21 (h : Hp) (c : Ch)  : Option Int32 :=
  gX11_isSet_22 h c (0 : Int32)
theorem lX11_isSet_21 (h : Hp) (c : Ch)  : fX11_isSet_21 (cput h c)  = gX11_isSet_21 h c  := by
  unfold fX11_isSet_21 gX11_isSet_21
  simp only [lX11_isSet_22, lift_lt, k_bs, k_mb, k_ms, k_bm, k_mm, k_il, k_ir, lift_ite, k_id]
noncomputable def gX11_isSet (h : Hp) (c : Ch) (x1 : Int32) : Option Int32 :=
  if x1 < 0 then (
  gX11_isSet_21 h c ) else (
    (c.2.2.1 80 3).bind fun v1 =>
    (gI (cput h c) 0 v1 0).bind fun v2 =>
    if ((1 : Int32) <<< (v2 &&& 31)) ≤ x1 then (
    gX11_isSet_21 h c ) else (
      gX11_isSet_22 h c (1 : Int32)))
theorem lX11_isSet (h : Hp) (c : Ch) (x1 : Int32) : fX11_isSet (cput h c) 80 x1 = gX11_isSet h c x1 := by
  unfold fX11_isSet gX11_isSet
  simp only [lX11_isSet_21, cgN_80_3, lX11_isSet_22, lift_lt, k_bs, k_mb, k_ms, k_bm, k_mm, k_il, k_ir, lift_ite, k_id]
noncomputable def gX7_tune_38 (h : Hp) (c : Ch) (x1 : Nat) (x2 : Int32) (s1 : Int32) : Option Ch :=
  bl s1 (
  lt (cI c 116 13 s1) fun c2 =>
  lt (cR c2 116 1 (some x1)) fun c3 =>
  lt (cI c3 116 2 x2) fun c4 =>
  some (c4))
theorem lX7_tune_38 (h : Hp) (c : Ch) (x1 : Nat) (x2 : Int32) (s1 : Int32) : fX7_tune_38 (cput h c) 116 x1 x2 116 s1 = (gX7_tune_38 h c x1 x2 s1).map (cput h) := by
  unfold fX7_tune_38 gX7_tune_38
  simp only [lift_bl, csI_116_13, csR_116_1, csI_116_2, lift_lt, k_bs, k_mb, k_ms, k_bm, k_mm, k_il, k_ir, lift_ite, k_id]
noncomputable def gX7_tune_37 (h : Hp) (c : Ch) (x1 : Nat) (x2 : Int32) : Option Ch :=
  gX7_tune_38 h c x1 x2 (0 : Int32)
theorem lX7_tune_37 (h : Hp) (c : Ch) (x1 : Nat) (x2 : Int32) : fX7_tune_37 (cput h c) 116 x1 x2 116 = (gX7_tune_37 h c x1 x2).map (cput h) := by
  unfold fX7_tune_37 gX7_tune_37
  simp only [lX7_tune_38, lift_lt, k_bs, k_mb, k_ms, k_bm, k_mm, k_il, k_ir, lift_ite, k_id]
noncomputable def gX7_tune (h : Hp) (c : Ch) (x1 : Nat) (x2 : Int32) : Option Ch :=
  (gX1_tune h c x1 x2).bind fun y1 =>
  if (y1.1 116 13) = 0 then (
  gX7_tune_37 h y1 x1 x2) else (
    (y1.2.2.1 116 1).bind fun v5 =>
    gH2 (some v5) (some x1) (if (some v5) = (some x1) then (
      if (y1.1 116 2) = x2 then (
        gX7_tune_38 h y1 x1 x2 (1 : Int32)) else (
      gX7_tune_37 h y1 x1 x2)) else (
    gX7_tune_37 h y1 x1 x2)))
theorem lX7_tune (h : Hp) (c : Ch) (x1 : Nat) (x2 : Int32) : fX7_tune (cput h c) 116 x1 x2 = (gX7_tune h c x1 x2).map (cput h) := by
  unfold fX7_tune gX7_tune
  simp only [cgN_116_0, cgO_108, lX1_tune, cgI_116_13, lX7_tune_37, cgN_116_1, cgI_116_2, lX7_tune_38, lift_gH2, lift_lt, k_bs, k_mb, k_ms, k_bm, k_mm, k_il, k_ir, lift_ite, k_id]
