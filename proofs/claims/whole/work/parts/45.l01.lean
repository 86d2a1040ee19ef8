/-! the class over its own numbers -/
noncomputable def gX1_after_112 (h : Hp) (c : Ch) (s0 : Int32) : Option (Int32 × Ch) :=
  some ((s0, c))
theorem lX1_after_112 (h : Hp) (c : Ch) (s0 : Int32) : fX1_after_112 (cput h c) s0 = (gX1_after_112 h c s0).map (fun (y : (Int32 × Ch)) => (y.1, cput h y.2)) := by
  unfold fX1_after_112 gX1_after_112
  simp only [lift_lt, k_bs, k_mb, k_ms, k_bm, k_mm, k_il, k_ir, lift_ite, k_id]
noncomputable def gX1_after_91 (h : Hp) (c : Ch) (x3 : Int32) (x5 : Int32) : Option (Int32 × Ch) :=
  (gX1_collapses h c x5 x3).bind fun y5 =>
  if y5.1 = 0 then (
    gX1_after_112 h y5.2 x5) else (
    gX1_after_112 h y5.2 (x5 + (10000 : Int32)))
theorem lX1_after_91 (h : Hp) (c : Ch) (x3 : Int32) (x5 : Int32) : fX1_after_91 (cput h c) 108 x3 x5 = (gX1_after_91 h c x3 x5).map (fun (y : (Int32 × Ch)) => (y.1, cput h y.2)) := by
  unfold fX1_after_91 gX1_after_91
  simp only [cgO_108, lX1_collapses, lX1_after_112, lift_lt, k_bs, k_mb, k_ms, k_bm, k_mm, k_il, k_ir, lift_ite, k_id]
noncomputable def gX1_after_85 (h : Hp) (c : Ch) (x1 : Int32) (x2 : Int32) (x3 : Int32) (x4 : Int32) (x5 : Int32) (x6 : Int32) : Option ((Int32 × Int32 × Ch) ⊕ (Int32 × Ch)) :=
  some (.inl (x5, (x6 + Int32.ofInt 1), c))
theorem lX1_after_85 (h : Hp) (c : Ch) (x1 : Int32) (x2 : Int32) (x3 : Int32) (x4 : Int32) (x5 : Int32) (x6 : Int32) : fX1_after_85 (cput h c) 108 x1 x2 x3 x4 x5 x6 = (gX1_after_85 h c x1 x2 x3 x4 x5 x6).map (Sum.map (fun (s : (Int32 × Int32 × Ch)) => (s.1, s.2.1, cput h s.2.2)) (fun (y : (Int32 × Ch)) => (y.1, cput h y.2))) := by
  unfold fX1_after_85 gX1_after_85
  simp only [lift_lt, k_bs, k_mb, k_ms, k_bm, k_mm, k_il, k_ir, lift_ite, k_id]
noncomputable def gX1_after_25b (h : Hp) (c : Ch) (x1 : Int32) (x2 : Int32) (x3 : Int32) (x4 : Int32) (x5 : Int32) (x6 : Int32) : Option ((Int32 × Int32 × Ch) ⊕ (Int32 × Ch)) :=
  (c.2.2.1 108 5).bind fun v3 =>
  (gI (cput h c) 0 v3 0).bind fun v4 =>
  if v4 ≤ x6 then (
  (gX1_after_91 h c x3 x5).map (fun q => .inr q)) else (
    (gX11_digit x1 x6).bind fun y6 =>
    if y6 ≤ 0 then (
    gX1_after_85 h c x1 x2 x3 x4 x5 x6) else (
      (gX11_dropsOf x2 x6).bind fun y7 =>
      (gX1_growth h c x6 y7 y6 x4 x3).bind fun y8 =>
      (gX1_kept (y6 - y8.1)).bind fun y9 =>
      (tT 1 x6).bind fun v10 =>
      gX1_after_85 h y8.2 x1 x2 x3 x4 (x5 + (y9 * v10)) x6))
noncomputable def gX1_after_25 (h : Hp) (c : Ch) (x1 : Int32) (x2 : Int32) (x3 : Int32) (x4 : Int32) (x5 : Int32) (x6 : Int32) : Option (Int32 × Ch) := lpw (σ := (Int32 × Int32 × Ch)) (fun s => gX1_after_25b h s.2.2 x1 x2 x3 x4 s.1 s.2.1) (x5, x6, c)
theorem lX1_after_25b (h : Hp) (c : Ch) (x1 : Int32) (x2 : Int32) (x3 : Int32) (x4 : Int32) (x5 : Int32) (x6 : Int32) : fX1_after_25b (cput h c) 108 x1 x2 x3 x4 x5 x6 = (gX1_after_25b h c x1 x2 x3 x4 x5 x6).map (Sum.map (fun (s : (Int32 × Int32 × Ch)) => (s.1, s.2.1, cput h s.2.2)) (fun (y : (Int32 × Ch)) => (y.1, cput h y.2))) := by
  unfold fX1_after_25b gX1_after_25b
  simp only [cgN_108_5, lX1_after_91, lX11_digit, lX1_after_85, lX11_dropsOf, cgO_108, lX1_growth, lX1_kept, lift_lt, k_bs, k_mb, k_ms, k_bm, k_mm, k_il, k_ir, lift_ite, k_id]
theorem lX1_after_25 (h : Hp) (c : Ch) (x1 : Int32) (x2 : Int32) (x3 : Int32) (x4 : Int32) (x5 : Int32) (x6 : Int32) : fX1_after_25 (cput h c) 108 x1 x2 x3 x4 x5 x6 = (gX1_after_25 h c x1 x2 x3 x4 x5 x6).map (fun (y : (Int32 × Ch)) => (y.1, cput h y.2)) := by
  unfold fX1_after_25 gX1_after_25
  exact lpw_map _ _ (fun (s : (Int32 × Int32 × Ch)) => (s.1, s.2.1, cput h s.2.2)) (fun (y : (Int32 × Ch)) => (y.1, cput h y.2)) (fun s => lX1_after_25b h s.2.2 x1 x2 x3 x4 s.1 s.2.1) (x5, x6, c)
noncomputable def gX1_after (h : Hp) (c : Ch) (x1 : Int32) (x2 : Int32) (x3 : Int32) : Option (Int32 × Ch) :=
  if x1 < (10000 : Int32) then (
    (c.2.2.1 108 5).bind fun v1 =>
    gO (cput h c) 0 v1 (
    (fX0_metCount (cput h c) v1 x1).bind fun y2 =>
    gX1_after_25 h c x1 x2 x3 y2 (0 : Int32) (0 : Int32))) else (
    some ((x1, c)))
theorem lX1_after (h : Hp) (c : Ch) (x1 : Int32) (x2 : Int32) (x3 : Int32) : fX1_after (cput h c) 108 x1 x2 x3 = (gX1_after h c x1 x2 x3).map (fun (y : (Int32 × Ch)) => (y.1, cput h y.2)) := by
  unfold fX1_after gX1_after
  simp only [cgN_108_5, lift_gOm, lX1_after_25, lift_lt, k_bs, k_mb, k_ms, k_bm, k_mm, k_il, k_ir, lift_ite, k_id]
noncomputable def gX11_passYear (h : Hp) (c : Ch) (x1 : Nat) (x2 : Int32) : Option (Int32 × Ch) :=
  (gX11_isDryness x2).bind fun y1 =>
  if y1 = 0 then (
    some (((1 : Int32), c))) else (
    (c.2.2.1 80 3).bind fun v2 =>
    (gX1_tune h c v2 (c.1 (sadr x1) 1)).bind fun y3 =>
    (gX1_after h y3 (y3.1 (sadr x1) 0) (y3.1 (sadr x1) 2) x2).bind fun y4 =>
    lt (cI y4.2 (sadr x1) 0 y4.1) fun c5 =>
    lt (cI c5 (sadr x1) 3 ((c5.1 (sadr x1) 3) + (1 : Int32))) fun c6 =>
    some (((0 : Int32), c6)))
theorem lX11_passYear (h : Hp) (c : Ch) (x1 : Nat) (x2 : Int32) : fX11_passYear (cput h c) 80 (sadr x1) x2 = (gX11_passYear h c x1 x2).map (fun (y : (Int32 × Ch)) => (y.1, cput h y.2)) := by
  unfold fX11_passYear gX11_passYear
  simp only [lX11_isDryness, cgN_80_11, cgN_80_3, cgI_s_1, cgO_108, lX1_tune, cgI_s_0, cgI_s_2, lX1_after, csI_s_0, cgI_s_3, csI_s_3, lift_lt, k_bs, k_mb, k_ms, k_bm, k_mm, k_il, k_ir, lift_ite, k_id]
noncomputable def gX5_remember (h : Hp) (c : Ch) (x1 : Nat) : Option Ch :=
  iff_ (inB (c.1 93 1) 10) (
  (gX8_copy h c (3 + (c.1 93 1).toNatClampNeg) x1).bind fun y2 =>
  (rm ((y2.1 93 1) + (1 : Int32)) (10 : Int32)).bind fun v3 =>
  lt (cI y2 93 1 v3) fun c4 =>
  lt (cI c4 93 2 (imin ((c4.1 93 2) + (1 : Int32)) (10 : Int32))) fun c6 =>
  some (c6))
theorem lX5_remember (h : Hp) (c : Ch) (x1 : Nat) : fX5_remember (cput h c) 93 (sadr x1) = (gX5_remember h c x1).map (cput h) := by
  unfold fX5_remember gX5_remember
  simp only [cgN_93_0, cgI_93_1, c_aN94, iff_map, cgO_s, lX8_copy, csI_93_1, cgI_93_2, csI_93_2, lift_lt, k_bs, k_mb, k_ms, k_bm, k_mm, k_il, k_ir, lift_ite, k_id]
noncomputable def gX11_year (h : Hp) (c : Ch) (x1 : Int32) : Option (Int32 × Ch) :=
  (gX8_copy h c 1 0).bind fun y1 =>
  (gX11_passYear h y1 0 x1).bind fun y2 =>
  if y2.1 = 0 then (
    (gX5_remember h y2.2 1).bind fun y3 =>
    (y3.2.2.1 80 3).bind fun v4 =>
    gO (cput h y3) 0 v4 (
    (fX0_metCount (cput h y3) v4 (y3.1 (sadr 0) 0)).bind fun y5 =>
    (y3.2.2.1 80 3).bind fun v6 =>
    gO (cput h y3) 0 v6 (
    (fX0_metCount (cput h y3) v6 (y3.1 (sadr 1) 0)).bind fun y7 =>
    some (((y5 - y7), y3))))) else (
    some ((((-10 : Int32) - y2.1), y2.2)))
theorem lX11_year (h : Hp) (c : Ch) (x1 : Int32) : fX11_year (cput h c) 80 x1 = (gX11_year h c x1).map (fun (y : (Int32 × Ch)) => (y.1, cput h y.2)) := by
  unfold fX11_year gX11_year
  simp only [cgN_80_5, cgN_80_4, cgO_s, lX8_copy, cgO_80, lX11_passYear, cgN_80_7, cgO_93, lX5_remember, cgN_80_3, cgI_s_0, lift_gOm, lift_lt, k_bs, k_mb, k_ms, k_bm, k_mm, k_il, k_ir, lift_ite, k_id]
noncomputable def gX11_leadOtherwise (h : Hp) (c : Ch) (x1 : Nat) (x2 : Int32) : Option (Int32 × Ch) :=
  (c.2.2.1 80 3).bind fun v1 =>
  gO (cput h c) 0 v1 (
  (fX0_isLeading (cput h c) v1 x2).bind fun y2 =>
  if y2 = 0 then (
    some (((1 : Int32), c))) else (
    lt (cI c (sadr x1) 2 x2) fun c3 =>
    some (((0 : Int32), c3))))
theorem lX11_leadOtherwise (h : Hp) (c : Ch) (x1 : Nat) (x2 : Int32) : fX11_leadOtherwise (cput h c) 80 (sadr x1) x2 = (gX11_leadOtherwise h c x1 x2).map (fun (y : (Int32 × Ch)) => (y.1, cput h y.2)) := by
  unfold fX11_leadOtherwise gX11_leadOtherwise
  simp only [cgN_80_3, lift_gOm, csI_s_2, lift_lt, k_bs, k_mb, k_ms, k_bm, k_mm, k_il, k_ir, lift_ite, k_id]
noncomputable def gX11_lead (h : Hp) (c : Ch) (x1 : Int32) : Option (Int32 × Ch) :=
  (gX8_copy h c 1 0).bind fun y1 =>
  (gX11_leadOtherwise h y1 0 x1).bind fun y2 =>
  if y2.1 = 0 then (
    (gX5_remember h y2.2 1).bind fun y3 =>
    some (((y3.1 (sadr 1) 2), y3))) else (
    some ((((-10 : Int32) - y2.1), y2.2)))
theorem lX11_lead (h : Hp) (c : Ch) (x1 : Int32) : fX11_lead (cput h c) 80 x1 = (gX11_lead h c x1).map (fun (y : (Int32 × Ch)) => (y.1, cput h y.2)) := by
  unfold fX11_lead gX11_lead
  simp only [cgN_80_5, cgN_80_4, cgO_s, lX8_copy, cgO_80, lX11_leadOtherwise, cgN_80_7, cgO_93, lX5_remember, cgI_s_2, lift_lt, k_bs, k_mb, k_ms, k_bm, k_mm, k_il, k_ir, lift_ite, k_id]
noncomputable def gX11_withDigit_28 (s0 : Int32) : Option Int32 :=
  some (s0)
theorem lX11_withDigit_28 (h : Hp) (s0 : Int32) : fX11_withDigit_28 h s0 = gX11_withDigit_28 s0 := by
  unfold fX11_withDigit_28 gX11_withDigit_28
  simp only [lift_lt, k_bs, k_mb, k_ms, k_bm, k_mm, k_il, k_ir, lift_ite, k_id]
noncomputable def gX11_withDigit_9 (x0 : Int32) : Option Int32 :=
  gX11_withDigit_28 x0
theorem lX11_withDigit_9 (h : Hp) (x0 : Int32) : fX11_withDigit_9 h x0 = gX11_withDigit_9 x0 := by
  unfold fX11_withDigit_9 gX11_withDigit_9
  simp only [lX11_withDigit_28, lift_lt, k_bs, k_mb, k_ms, k_bm, k_mm, k_il, k_ir, lift_ite, k_id]
noncomputable def gX11_withDigit (x0 : Int32) (x1 : Int32) (x2 : Int32) : Option Int32 :=
  if x1 < 0 then (
  gX11_withDigit_9 x0) else (
    if x1 < (4 : Int32) then (
      (gX11_digit x0 x1).bind fun y1 =>
      (tT 1 x1).bind fun v2 =>
      gX11_withDigit_28 (x0 + ((x2 - y1) * v2))) else (
    gX11_withDigit_9 x0))
theorem lX11_withDigit (h : Hp) (x0 : Int32) (x1 : Int32) (x2 : Int32) : fX11_withDigit h x0 x1 x2 = gX11_withDigit x0 x1 x2 := by
  unfold fX11_withDigit gX11_withDigit
  simp only [lX11_withDigit_9, lX11_digit, lX11_withDigit_28, lift_lt, k_bs, k_mb, k_ms, k_bm, k_mm, k_il, k_ir, lift_ite, k_id]
noncomputable def gX11_sawOff (h : Hp) (c : Ch) (x1 : Nat) (x2 : Int32) : Option (Int32 × Ch) :=
  (gX11_isPair h c x2).bind fun y1 =>
  if y1 = 0 then (
    some (((1 : Int32), c))) else (
    if (c.1 (sadr x1) 0) < (10000 : Int32) then (
      (c.2.2.1 80 3).bind fun v2 =>
      (gI (cput h c) 0 v2 4).bind fun v3 =>
      (gX11_digit v3 x2).bind fun y4 =>
      (gX11_withDigit (c.1 (sadr x1) 0) x2 y4).bind fun y5 =>
      lt (cI c (sadr x1) 0 y5) fun c6 =>
      some (((0 : Int32), c6))) else (
      some (((2 : Int32), c))))
theorem lX11_sawOff (h : Hp) (c : Ch) (x1 : Nat) (x2 : Int32) : fX11_sawOff (cput h c) 80 (sadr x1) x2 = (gX11_sawOff h c x1 x2).map (fun (y : (Int32 × Ch)) => (y.1, cput h y.2)) := by
  unfold fX11_sawOff gX11_sawOff
  simp only [cgO_80, lX11_isPair, cgI_s_0, cgN_80_3, lX11_digit, lX11_withDigit, csI_s_0, lift_lt, k_bs, k_mb, k_ms, k_bm, k_mm, k_il, k_ir, lift_ite, k_id]
noncomputable def gX11_saw (h : Hp) (c : Ch) (x1 : Int32) : Option (Int32 × Ch) :=
  (gX8_copy h c 1 0).bind fun y1 =>
  (gX11_sawOff h y1 0 x1).bind fun y2 =>
  if y2.1 = 0 then (
    (gX5_remember h y2.2 1).bind fun y3 =>
    (gX11_digit (y3.1 (sadr 1) 0) x1).bind fun y4 =>
    some ((y4, y3))) else (
    some ((((-10 : Int32) - y2.1), y2.2)))
theorem lX11_saw (h : Hp) (c : Ch) (x1 : Int32) : fX11_saw (cput h c) 80 x1 = (gX11_saw h c x1).map (fun (y : (Int32 × Ch)) => (y.1, cput h y.2)) := by
  unfold fX11_saw gX11_saw
  simp only [cgN_80_5, cgN_80_4, cgO_s, lX8_copy, cgO_80, lX11_sawOff, cgN_80_7, cgO_93, lX5_remember, cgI_s_0, lX11_digit, lift_lt, k_bs, k_mb, k_ms, k_bm, k_mm, k_il, k_ir, lift_ite, k_id]
noncomputable def gX11_giveChalk_18 (h : Hp) (c : Ch)  : Option (Int32 × Ch) :=
  some (((1 : Int32), c))
theorem lX11_giveChalk_18 (h : Hp) (c : Ch)  : fX11_giveChalk_18 (cput h c)  = (gX11_giveChalk_18 h c ).map (fun (y : (Int32 × Ch)) => (y.1, cput h y.2)) := by
  unfold fX11_giveChalk_18 gX11_giveChalk_18
  simp only [lift_lt, k_bs, k_mb, k_ms, k_bm, k_mm, k_il, k_ir, lift_ite, k_id]
noncomputable def gX11_giveChalk (h : Hp) (c : Ch) (x1 : Nat) (x2 : Int32) (x3 : Int32) : Option (Int32 × Ch) :=
  (gX11_isPair h c x2).bind fun y1 =>
  if y1 = 0 then (
  gX11_giveChalk_18 h c ) else (
    if x3 < 0 then (
    gX11_giveChalk_18 h c ) else (
      if x3 ≤ (9 : Int32) then (
        (gX11_withDigit (c.1 (sadr x1) 1) x2 x3).bind fun y2 =>
        lt (cI c (sadr x1) 1 y2) fun c3 =>
        some (((0 : Int32), c3))) else (
      gX11_giveChalk_18 h c )))
theorem lX11_giveChalk (h : Hp) (c : Ch) (x1 : Nat) (x2 : Int32) (x3 : Int32) : fX11_giveChalk (cput h c) 80 (sadr x1) x2 x3 = (gX11_giveChalk h c x1 x2 x3).map (fun (y : (Int32 × Ch)) => (y.1, cput h y.2)) := by
  unfold fX11_giveChalk gX11_giveChalk
  simp only [cgO_80, lX11_isPair, lX11_giveChalk_18, cgI_s_1, lX11_withDigit, csI_s_1, lift_lt, k_bs, k_mb, k_ms, k_bm, k_mm, k_il, k_ir, lift_ite, k_id]
noncomputable def gX11_chalk (h : Hp) (c : Ch) (x1 : Int32) (x2 : Int32) : Option (Int32 × Ch) :=
  (gX8_copy h c 1 0).bind fun y1 =>
  (gX11_giveChalk h y1 0 x1 x2).bind fun y2 =>
  if y2.1 = 0 then (
    (gX5_remember h y2.2 1).bind fun y3 =>
    (gX11_digit (y3.1 (sadr 1) 1) x1).bind fun y4 =>
    some ((y4, y3))) else (
    some ((((-10 : Int32) - y2.1), y2.2)))
theorem lX11_chalk (h : Hp) (c : Ch) (x1 : Int32) (x2 : Int32) : fX11_chalk (cput h c) 80 x1 x2 = (gX11_chalk h c x1 x2).map (fun (y : (Int32 × Ch)) => (y.1, cput h y.2)) := by
  unfold fX11_chalk gX11_chalk
  simp only [cgN_80_5, cgN_80_4, cgO_s, lX8_copy, cgO_80, lX11_giveChalk, cgN_80_7, cgO_93, lX5_remember, cgI_s_1, lX11_digit, lift_lt, k_bs, k_mb, k_ms, k_bm, k_mm, k_il, k_ir, lift_ite, k_id]
noncomputable def gX5_bringBack_46 (h : Hp) (c : Ch)  : Option Ch :=
  some (c)
theorem lX5_bringBack_46 (h : Hp) (c : Ch)  : fX5_bringBack_46 (cput h c)  = (gX5_bringBack_46 h c ).map (cput h) := by
  unfold fX5_bringBack_46 gX5_bringBack_46
  simp only [lift_lt, k_bs, k_mb, k_ms, k_bm, k_mm, k_il, k_ir, lift_ite, k_id]
noncomputable def gX5_bringBack (h : Hp) (c : Ch) (x1 : Nat) : Option Ch :=
  if (c.1 93 2) ≤ 0 then (
  gX5_bringBack_46 h c ) else (
    (rm (((c.1 93 1) + (10 : Int32)) - (1 : Int32)) (10 : Int32)).bind fun v1 =>
    lt (cI c 93 1 v1) fun c2 =>
    iff_ (inB (c2.1 93 1) 10) (
    (gX8_copy h c2 x1 (3 + (c2.1 93 1).toNatClampNeg)).bind fun y4 =>
    lt (cI y4 93 2 ((y4.1 93 2) - (1 : Int32))) fun c5 =>
    gX5_bringBack_46 h c5 ))
theorem lX5_bringBack (h : Hp) (c : Ch) (x1 : Nat) : fX5_bringBack (cput h c) 93 (sadr x1) = (gX5_bringBack h c x1).map (cput h) := by
  unfold fX5_bringBack gX5_bringBack
  simp only [cgI_93_2, lX5_bringBack_46, cgI_93_1, csI_93_1, cgN_93_0, c_aN94, iff_map, cgO_s, lX8_copy, csI_93_2, lift_lt, k_bs, k_mb, k_ms, k_bm, k_mm, k_il, k_ir, lift_ite, k_id]
noncomputable def gX11_undo_16 (h : Hp) (c : Ch)  : Option (Int32 × Ch) :=
  some (((-3 : Int32), c))
theorem lX11_undo_16 (h : Hp) (c : Ch)  : fX11_undo_16 (cput h c)  = (gX11_undo_16 h c ).map (fun (y : (Int32 × Ch)) => (y.1, cput h y.2)) := by
  unfold fX11_undo_16 gX11_undo_16
  simp only [lift_lt, k_bs, k_mb, k_ms, k_bm, k_mm, k_il, k_ir, lift_ite, k_id]
noncomputable def gX11_undo_21b (h : Hp) (c : Ch) (x1 : Int32) (x2 : Int32) : Option ((Int32 × Ch) ⊕ (Int32 × Ch)) :=
  if x1 ≤ x2 then (
    some (.inr ((c.1 93 2), c))) else (
    (gX5_bringBack h c 0).bind fun y1 =>
    some (.inl ((x2 + Int32.ofInt 1), y1)))
noncomputable def gX11_undo_21 (h : Hp) (c : Ch) (x1 : Int32) (x2 : Int32) : Option (Int32 × Ch) := lpw (σ := (Int32 × Ch)) (fun s => gX11_undo_21b h s.2 x1 s.1) (x2, c)
theorem lX11_undo_21b (h : Hp) (c : Ch) (x1 : Int32) (x2 : Int32) : fX11_undo_21b (cput h c) 80 x1 x2 = (gX11_undo_21b h c x1 x2).map (Sum.map (fun (s : (Int32 × Ch)) => (s.1, cput h s.2)) (fun (y : (Int32 × Ch)) => (y.1, cput h y.2))) := by
  unfold fX11_undo_21b gX11_undo_21b
  simp only [cgN_80_7, cgI_93_2, cgN_80_4, cgO_93, lX5_bringBack, lift_lt, k_bs, k_mb, k_ms, k_bm, k_mm, k_il, k_ir, lift_ite, k_id]
theorem lX11_undo_21 (h : Hp) (c : Ch) (x1 : Int32) (x2 : Int32) : fX11_undo_21 (cput h c) 80 x1 x2 = (gX11_undo_21 h c x1 x2).map (fun (y : (Int32 × Ch)) => (y.1, cput h y.2)) := by
  unfold fX11_undo_21 gX11_undo_21
  exact lpw_map _ _ (fun (s : (Int32 × Ch)) => (s.1, cput h s.2)) (fun (y : (Int32 × Ch)) => (y.1, cput h y.2)) (fun s => lX11_undo_21b h s.2 x1 s.1) (x2, c)
noncomputable def gX11_undo (h : Hp) (c : Ch) (x1 : Int32) : Option (Int32 × Ch) :=
  if x1 < (1 : Int32) then (
  gX11_undo_16 h c ) else (
    if x1 ≤ (c.1 93 2) then (
      gX11_undo_21 h c x1 (0 : Int32)) else (
    gX11_undo_16 h c ))
theorem lX11_undo (h : Hp) (c : Ch) (x1 : Int32) : fX11_undo (cput h c) 80 x1 = (gX11_undo h c x1).map (fun (y : (Int32 × Ch)) => (y.1, cput h y.2)) := by
  unfold fX11_undo gX11_undo
  simp only [lX11_undo_16, cgN_80_7, cgI_93_2, lX11_undo_21, lift_lt, k_bs, k_mb, k_ms, k_bm, k_mm, k_il, k_ir, lift_ite, k_id]
noncomputable def gX11_isTray_14 (s0 : Int32) : Option Int32 :=
  bl s0 (some (s0))
theorem lX11_isTray_14 (h : Hp) (s0 : Int32) : fX11_isTray_14 h s0 = gX11_isTray_14 s0 := by
  unfold fX11_isTray_14 gX11_isTray_14
  simp only [lift_bl, lift_lt, k_bs, k_mb, k_ms, k_bm, k_mm, k_il, k_ir, lift_ite, k_id]
noncomputable def gX11_isTray_13  : Option Int32 :=
  gX11_isTray_14 (0 : Int32)
theorem lX11_isTray_13 (h : Hp)  : fX11_isTray_13 h  = gX11_isTray_13  := by
  unfold fX11_isTray_13 gX11_isTray_13
  simp only [lX11_isTray_14, lift_lt, k_bs, k_mb, k_ms, k_bm, k_mm, k_il, k_ir, lift_ite, k_id]
noncomputable def gX11_isTray (x0 : Int32) : Option Int32 :=
  if x0 < 0 then (
  gX11_isTray_13 ) else (
    if (4 : Int32) ≤ x0 then (
    gX11_isTray_13 ) else (
      gX11_isTray_14 (1 : Int32)))
theorem lX11_isTray (h : Hp) (x0 : Int32) : fX11_isTray h x0 = gX11_isTray x0 := by
  unfold fX11_isTray gX11_isTray
  simp only [lX11_isTray_13, lX11_isTray_14, lift_lt, k_bs, k_mb, k_ms, k_bm, k_mm, k_il, k_ir, lift_ite, k_id]
noncomputable def gX9_at_22 (h : Hp) (c : Ch) (s0 : Int64) : Option Int64 :=
  some (s0)
theorem lX9_at_22 (h : Hp) (c : Ch) (s0 : Int64) : fX9_at_22 (cput h c) s0 = gX9_at_22 h c s0 := by
  unfold fX9_at_22 gX9_at_22
  simp only [lift_lt, k_bs, k_mb, k_ms, k_bm, k_mm, k_il, k_ir, lift_ite, k_id]
noncomputable def gX9_at_21 (h : Hp) (c : Ch)  : Option Int64 :=
  gX9_at_22 h c (0 : Int64)
theorem lX9_at_21 (h : Hp) (c : Ch)  : fX9_at_21 (cput h c)  = gX9_at_21 h c  := by
  unfold fX9_at_21 gX9_at_21
  simp only [lX9_at_22, lift_lt, k_bs, k_mb, k_ms, k_bm, k_mm, k_il, k_ir, lift_ite, k_id]
noncomputable def gX9_at (h : Hp) (c : Ch) (x0 : Nat) (x1 : Int32) : Option Int64 :=
  if x1 < 0 then (
  gX9_at_21 h c ) else (
    if (c.1 (tadr x0) 3) ≤ x1 then (
    gX9_at_21 h c ) else (
      (cL c (tadr x0 + 1) 40 x1).bind fun v1 =>
      gX9_at_22 h c v1))
theorem lX9_at (h : Hp) (c : Ch) (x0 : Nat) (x1 : Int32) : fX9_at (cput h c) (tadr x0) x1 = gX9_at h c x0 x1 := by
  unfold fX9_at gX9_at
  simp only [lX9_at_21, cgI_t_3, cgN_t_0, caJ_tp, lX9_at_22, lift_lt, k_bs, k_mb, k_ms, k_bm, k_mm, k_il, k_ir, lift_ite, k_id]
noncomputable def gX11_act_12 (h : Hp) (c : Ch) (x1 : Nat) (x2 : Int64) : Option (Int32 × Ch) :=
  (gX11_passYear h c x1 (x2.toInt32)).bind fun y1 =>
  some ((y1.1, y1.2))
theorem lX11_act_12 (h : Hp) (c : Ch) (x1 : Nat) (x2 : Int64) : fX11_act_12 (cput h c) 80 (sadr x1) x2 = (gX11_act_12 h c x1 x2).map (fun (y : (Int32 × Ch)) => (y.1, cput h y.2)) := by
  unfold fX11_act_12 gX11_act_12
  simp only [cgO_80, lX11_passYear, lift_lt, k_bs, k_mb, k_ms, k_bm, k_mm, k_il, k_ir, lift_ite, k_id]
noncomputable def gX11_act_114 (h : Hp) (c : Ch)  : Option (Int32 × Ch) :=
  some (((1 : Int32), c))
theorem lX11_act_114 (h : Hp) (c : Ch)  : fX11_act_114 (cput h c)  = (gX11_act_114 h c ).map (fun (y : (Int32 × Ch)) => (y.1, cput h y.2)) := by
  unfold fX11_act_114 gX11_act_114
  simp only [lift_lt, k_bs, k_mb, k_ms, k_bm, k_mm, k_il, k_ir, lift_ite, k_id]
noncomputable def gX11_act_86 (h : Hp) (c : Ch) (x1 : Nat) (x2 : Int64) : Option (Int32 × Ch) :=
  if (lg_cmp x2 (1000 : Int64)) < 0 then (
  gX11_act_114 h c ) else (
    if 0 < (lg_cmp x2 (1999 : Int64)) then (
    gX11_act_114 h c ) else (
      (gX11_leadOtherwise h c x1 ((x2.toInt32) - (1000 : Int32))).bind fun y2 =>
      some ((y2.1, y2.2))))
theorem lX11_act_86 (h : Hp) (c : Ch) (x1 : Nat) (x2 : Int64) : fX11_act_86 (cput h c) 80 (sadr x1) x2 = (gX11_act_86 h c x1 x2).map (fun (y : (Int32 × Ch)) => (y.1, cput h y.2)) := by
  unfold fX11_act_86 gX11_act_86
  simp only [lX11_act_114, cgO_80, lX11_leadOtherwise, lift_lt, k_bs, k_mb, k_ms, k_bm, k_mm, k_il, k_ir, lift_ite, k_id]
noncomputable def gX11_act_47 (h : Hp) (c : Ch) (x1 : Nat) (x2 : Int64) : Option (Int32 × Ch) :=
  if (lg_cmp x2 (100 : Int64)) < 0 then (
  gX11_act_86 h c x1 x2) else (
    if 0 < (lg_cmp x2 (199 : Int64)) then (
    gX11_act_86 h c x1 x2) else (
      (dv ((x2.toInt32) - (100 : Int32)) (10 : Int32)).bind fun v3 =>
      (rm ((x2.toInt32) - (100 : Int32)) (10 : Int32)).bind fun v4 =>
      (gX11_giveChalk h c x1 v3 v4).bind fun y5 =>
      some ((y5.1, y5.2))))
theorem lX11_act_47 (h : Hp) (c : Ch) (x1 : Nat) (x2 : Int64) : fX11_act_47 (cput h c) 80 (sadr x1) x2 = (gX11_act_47 h c x1 x2).map (fun (y : (Int32 × Ch)) => (y.1, cput h y.2)) := by
  unfold fX11_act_47 gX11_act_47
  simp only [lX11_act_86, cgO_80, lX11_giveChalk, lift_lt, k_bs, k_mb, k_ms, k_bm, k_mm, k_il, k_ir, lift_ite, k_id]
noncomputable def gX11_act (h : Hp) (c : Ch) (x1 : Nat) (x2 : Int64) : Option (Int32 × Ch) :=
  if (lg_cmp x2 (0 : Int64)) = 0 then (
  gX11_act_12 h c x1 x2) else (
    if (lg_cmp x2 (1 : Int64)) = 0 then (
    gX11_act_12 h c x1 x2) else (
      if (lg_cmp x2 (10 : Int64)) < 0 then (
      gX11_act_47 h c x1 x2) else (
        if 0 < (lg_cmp x2 (19 : Int64)) then (
        gX11_act_47 h c x1 x2) else (
          (gX11_sawOff h c x1 ((x2.toInt32) - (10 : Int32))).bind fun y6 =>
          some ((y6.1, y6.2))))))
theorem lX11_act (h : Hp) (c : Ch) (x1 : Nat) (x2 : Int64) : fX11_act (cput h c) 80 (sadr x1) x2 = (gX11_act h c x1 x2).map (fun (y : (Int32 × Ch)) => (y.1, cput h y.2)) := by
  unfold fX11_act gX11_act
  simp only [lX11_act_12, lX11_act_47, cgO_80, lX11_sawOff, lift_lt, k_bs, k_mb, k_ms, k_bm, k_mm, k_il, k_ir, lift_ite, k_id]
noncomputable def gX11_judge_16 (h : Hp) (c : Ch)  : Option (Int32 × Ch) :=
  some (((-2 : Int32), c))
theorem lX11_judge_16 (h : Hp) (c : Ch)  : fX11_judge_16 (cput h c)  = (gX11_judge_16 h c ).map (fun (y : (Int32 × Ch)) => (y.1, cput h y.2)) := by
  unfold fX11_judge_16 gX11_judge_16
  simp only [lift_lt, k_bs, k_mb, k_ms, k_bm, k_mm, k_il, k_ir, lift_ite, k_id]
noncomputable def gX11_judge_129 (h : Hp) (c : Ch) (s0 : Int32) : Option (Int32 × Ch) :=
  some ((s0, c))
theorem lX11_judge_129 (h : Hp) (c : Ch) (s0 : Int32) : fX11_judge_129 (cput h c) s0 = (gX11_judge_129 h c s0).map (fun (y : (Int32 × Ch)) => (y.1, cput h y.2)) := by
  unfold fX11_judge_129 gX11_judge_129
  simp only [lift_lt, k_bs, k_mb, k_ms, k_bm, k_mm, k_il, k_ir, lift_ite, k_id]
noncomputable def gX11_judge_89 (h : Hp) (c : Ch) (x2 : Int32) (x4 : Int32) (x5 : Int32) : Option (Int32 × Ch) :=
  if x2 = 0 then (
    if x5 = 0 then (
      gX11_judge_129 h c (-1 : Int32)) else (
      gX11_judge_129 h c (x4 - (1 : Int32)))) else (
if x2 = 1 then (
    some ((x5, c))) else (
if x2 = 2 then (
    (c.2.2.1 80 3).bind fun v4 =>
    gO (cput h c) 0 v4 (
    (fX0_metBits (cput h c) v4 (c.1 (sadr 2) 0)).bind fun y5 =>
    some ((y5, c)))) else (
    (c.2.2.1 80 3).bind fun v6 =>
    gO (cput h c) 0 v6 (
    (fX0_gapSum (cput h c) v6 (c.1 (sadr 2) 0)).bind fun y7 =>
    some ((y7, c))))))
theorem lX11_judge_89 (h : Hp) (c : Ch) (x2 : Int32) (x4 : Int32) (x5 : Int32) : fX11_judge_89 (cput h c) 80 x2 x4 x5 = (gX11_judge_89 h c x2 x4 x5).map (fun (y : (Int32 × Ch)) => (y.1, cput h y.2)) := by
  unfold fX11_judge_89 gX11_judge_89
  simp only [lX11_judge_129, cgN_80_3, cgN_80_6, cgI_s_0, lift_gOm, lift_lt, k_bs, k_mb, k_ms, k_bm, k_mm, k_il, k_ir, lift_ite, k_id]
noncomputable def gX11_judge_53b (h : Hp) (c : Ch) (x2 : Int32) (x3 : Nat) (x4 : Int32) (x5 : Int32) : Option ((Int32 × Int32 × Ch) ⊕ (Int32 × Ch)) :=
  if (c.1 (tadr x3) 3) ≤ x4 then (
  (gX11_judge_89 h c x2 x4 x5).map (fun q => .inr q)) else (
    if x5 = 0 then (
      (gX9_at h c x3 x4).bind fun y8 =>
      (gX11_act h c 2 y8).bind fun y9 =>
      some (.inl ((x4 + Int32.ofInt 1), y9.1, y9.2))) else (
    (gX11_judge_89 h c x2 x4 x5).map (fun q => .inr q)))
noncomputable def gX11_judge_53 (h : Hp) (c : Ch) (x2 : Int32) (x3 : Nat) (x4 : Int32) (x5 : Int32) : Option (Int32 × Ch) := lpw (σ := (Int32 × Int32 × Ch)) (fun s => gX11_judge_53b h s.2.2 x2 x3 s.1 s.2.1) (x4, x5, c)
theorem lX11_judge_53b (h : Hp) (c : Ch) (x2 : Int32) (x3 : Nat) (x4 : Int32) (x5 : Int32) : fX11_judge_53b (cput h c) 80 x2 (tadr x3) x4 x5 = (gX11_judge_53b h c x2 x3 x4 x5).map (Sum.map (fun (s : (Int32 × Int32 × Ch)) => (s.1, s.2.1, cput h s.2.2)) (fun (y : (Int32 × Ch)) => (y.1, cput h y.2))) := by
  unfold fX11_judge_53b gX11_judge_53b
  simp only [cgI_t_3, lX11_judge_89, cgN_80_6, cgO_t, lX9_at, cgO_80, lX11_act, lift_lt, k_bs, k_mb, k_ms, k_bm, k_mm, k_il, k_ir, lift_ite, k_id]
theorem lX11_judge_53 (h : Hp) (c : Ch) (x2 : Int32) (x3 : Nat) (x4 : Int32) (x5 : Int32) : fX11_judge_53 (cput h c) 80 x2 (tadr x3) x4 x5 = (gX11_judge_53 h c x2 x3 x4 x5).map (fun (y : (Int32 × Ch)) => (y.1, cput h y.2)) := by
  unfold fX11_judge_53 gX11_judge_53
  exact lpw_map _ _ (fun (s : (Int32 × Int32 × Ch)) => (s.1, s.2.1, cput h s.2.2)) (fun (y : (Int32 × Ch)) => (y.1, cput h y.2)) (fun s => lX11_judge_53b h s.2.2 x2 x3 s.1 s.2.1) (x4, x5, c)
noncomputable def gX11_judge (h : Hp) (c : Ch) (x1 : Int32) (x2 : Int32) : Option (Int32 × Ch) :=
  (gX11_isTray x1).bind fun y1 =>
  if y1 = 0 then (
  gX11_judge_16 h c ) else (
    if x2 < 0 then (
    gX11_judge_16 h c ) else (
      if x2 ≤ (3 : Int32) then (
        iff_ (inB x1 4) (
        if (c.1 (tadr (x1.toNatClampNeg)) 2) = 0 then (
          (gX8_copy h c 2 0).bind fun y3 =>
          gX11_judge_53 h y3 x2 (x1.toNatClampNeg) (0 : Int32) (0 : Int32)) else (
          some (((-6 : Int32), c))))) else (
      gX11_judge_16 h c )))
theorem lX11_judge (h : Hp) (c : Ch) (x1 : Int32) (x2 : Int32) : fX11_judge (cput h c) 80 x1 x2 = (gX11_judge h c x1 x2).map (fun (y : (Int32 × Ch)) => (y.1, cput h y.2)) := by
  unfold fX11_judge gX11_judge
  simp only [lX11_isTray, lX11_judge_16, cgN_80_8, c_aN105, iff_map, cgI_t_2, cgN_80_6, cgN_80_4, cgO_s, lX8_copy, lX11_judge_53, lift_lt, k_bs, k_mb, k_ms, k_bm, k_mm, k_il, k_ir, lift_ite, k_id]
noncomputable def gX11_perform_85 (h : Hp) (c : Ch) (x3 : Int32) : Option (Int32 × Ch) :=
  some ((x3, c))
theorem lX11_perform_85 (h : Hp) (c : Ch) (x3 : Int32) : fX11_perform_85 (cput h c) x3 = (gX11_perform_85 h c x3).map (fun (y : (Int32 × Ch)) => (y.1, cput h y.2)) := by
  unfold fX11_perform_85 gX11_perform_85
  simp only [lift_lt, k_bs, k_mb, k_ms, k_bm, k_mm, k_il, k_ir, lift_ite, k_id]
noncomputable def gX11_perform_70 (h : Hp) (c : Ch) (x3 : Int32) : Option (Int32 × Ch) :=
  if x3 ≤ 0 then (
  gX11_perform_85 h c x3) else (
    (gX5_remember h c 1).bind fun y4 =>
    gX11_perform_85 h y4 x3)
theorem lX11_perform_70 (h : Hp) (c : Ch) (x3 : Int32) : fX11_perform_70 (cput h c) 80 x3 = (gX11_perform_70 h c x3).map (fun (y : (Int32 × Ch)) => (y.1, cput h y.2)) := by
  unfold fX11_perform_70 gX11_perform_70
  simp only [lX11_perform_85, cgN_80_7, cgN_80_5, cgO_93, lX5_remember, lift_lt, k_bs, k_mb, k_ms, k_bm, k_mm, k_il, k_ir, lift_ite, k_id]
noncomputable def gX11_perform_40b (h : Hp) (c : Ch) (x2 : Nat) (x3 : Int32) : Option ((Int32 × Ch) ⊕ (Int32 × Ch)) :=
  if (c.1 (tadr x2) 3) ≤ x3 then (
  (gX11_perform_70 h c x3).map (fun q => .inr q)) else (
    (gX9_at h c x2 x3).bind fun y5 =>
    (gX11_act h c 0 y5).bind fun y6 =>
    if y6.1 = 0 then (
      some (.inl ((x3 + Int32.ofInt 1), y6.2))) else (
    (gX11_perform_70 h y6.2 x3).map (fun q => .inr q)))
noncomputable def gX11_perform_40 (h : Hp) (c : Ch) (x2 : Nat) (x3 : Int32) : Option (Int32 × Ch) := lpw (σ := (Int32 × Ch)) (fun s => gX11_perform_40b h s.2 x2 s.1) (x3, c)
theorem lX11_perform_40b (h : Hp) (c : Ch) (x2 : Nat) (x3 : Int32) : fX11_perform_40b (cput h c) 80 (tadr x2) x3 = (gX11_perform_40b h c x2 x3).map (Sum.map (fun (s : (Int32 × Ch)) => (s.1, cput h s.2)) (fun (y : (Int32 × Ch)) => (y.1, cput h y.2))) := by
  unfold fX11_perform_40b gX11_perform_40b
  simp only [cgI_t_3, lX11_perform_70, cgN_80_4, cgO_t, lX9_at, cgO_80, lX11_act, lift_lt, k_bs, k_mb, k_ms, k_bm, k_mm, k_il, k_ir, lift_ite, k_id]
theorem lX11_perform_40 (h : Hp) (c : Ch) (x2 : Nat) (x3 : Int32) : fX11_perform_40 (cput h c) 80 (tadr x2) x3 = (gX11_perform_40 h c x2 x3).map (fun (y : (Int32 × Ch)) => (y.1, cput h y.2)) := by
  unfold fX11_perform_40 gX11_perform_40
  exact lpw_map _ _ (fun (s : (Int32 × Ch)) => (s.1, cput h s.2)) (fun (y : (Int32 × Ch)) => (y.1, cput h y.2)) (fun s => lX11_perform_40b h s.2 x2 s.1) (x3, c)
noncomputable def gX11_perform (h : Hp) (c : Ch) (x1 : Int32) : Option (Int32 × Ch) :=
  (gX11_isTray x1).bind fun y1 =>
  if y1 = 0 then (
    some (((-2 : Int32), c))) else (
    iff_ (inB x1 4) (
    if (c.1 (tadr (x1.toNatClampNeg)) 2) = 0 then (
      (gX8_copy h c 1 0).bind fun y3 =>
      gX11_perform_40 h y3 (x1.toNatClampNeg) (0 : Int32)) else (
      some (((-6 : Int32), c)))))
theorem lX11_perform (h : Hp) (c : Ch) (x1 : Int32) : fX11_perform (cput h c) 80 x1 = (gX11_perform h c x1).map (fun (y : (Int32 × Ch)) => (y.1, cput h y.2)) := by
  unfold fX11_perform gX11_perform
  simp only [lX11_isTray, cgN_80_8, c_aN105, iff_map, cgI_t_2, cgN_80_5, cgN_80_4, cgO_s, lX8_copy, lX11_perform_40, lift_lt, k_bs, k_mb, k_ms, k_bm, k_mm, k_il, k_ir, lift_ite, k_id]
noncomputable def gX11_draw (h : Hp) (c : Ch)  : Option (Int32 × Ch) :=
  lt (cI c 80 18 (((1103515245 : Int32) * (c.1 80 18)) + (12345 : Int32))) fun c1 =>
  lt (((c1.1 80 18).toUInt32 >>> ((16 : Int32).toUInt32 &&& Int32.toUInt32 31)).toInt32) fun w2 =>
  some ((w2, c1))
theorem lX11_draw (h : Hp) (c : Ch)  : fX11_draw (cput h c) 80 = (gX11_draw h c ).map (fun (y : (Int32 × Ch)) => (y.1, cput h y.2)) := by
  unfold fX11_draw gX11_draw
  simp only [cgI_80_18, csI_80_18, lift_lt, k_bs, k_mb, k_ms, k_bm, k_mm, k_il, k_ir, lift_ite, k_id]
