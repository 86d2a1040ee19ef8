/-! the reference over its own numbers -/
noncomputable def gX12_drawn_75 (m : Mu) (s0 : Int32) : Option (Int32 × Mu) :=
  some ((s0, m))
theorem lX12_drawn_75 (a : Nat) (h : Hp) (m : Mu) (s0 : Int32) : fX12_drawn_75 (mput a h m) s0 = (gX12_drawn_75 m s0).map (fun (y : (Int32 × Mu)) => (y.1, mput a h y.2)) := by
  unfold fX12_drawn_75 gX12_drawn_75
  simp only [lift_lt, lift_gO, k_bs, k_mb, k_ms, k_bm, k_mm, k_il, k_ir, lift_ite, k_id]
noncomputable def gX12_drawn_25 (m : Mu) (s0 : Int32) : Option (Int32 × Mu) :=
  some ((s0, m))
theorem lX12_drawn_25 (a : Nat) (h : Hp) (m : Mu) (s0 : Int32) : fX12_drawn_25 (mput a h m) s0 = (gX12_drawn_25 m s0).map (fun (y : (Int32 × Mu)) => (y.1, mput a h y.2)) := by
  unfold fX12_drawn_25 gX12_drawn_25
  simp only [lift_lt, lift_gO, k_bs, k_mb, k_ms, k_bm, k_mm, k_il, k_ir, lift_ite, k_id]
noncomputable def gX12_drawn (m : Mu)  : Option (Int32 × Mu) :=
  (gX12_draw m (6 : Int32)).bind fun y1 =>
  if (3 : Int32) ≤ y1.1 then (
    if y1.1 = (5 : Int32) then (
      (gX12_draw y1.2 (625 : Int32)).bind fun y4 =>
      some ((((1000 : Int32) + y4.1), y4.2))) else (
      (gX12_draw y1.2 (4 : Int32)).bind fun y2 =>
      if y1.1 = (3 : Int32) then (
        gX12_drawn_75 y2.2 ((10 : Int32) + y2.1)) else (
        (gX12_draw y2.2 (10 : Int32)).bind fun y3 =>
        gX12_drawn_75 y3.2 (((100 : Int32) + ((10 : Int32) * y2.1)) + y3.1)))) else (
    (gX12_draw y1.2 (3 : Int32)).bind fun y5 =>
    if y5.1 = 0 then (
      gX12_drawn_25 y5.2 (1 : Int32)) else (
      gX12_drawn_25 y5.2 (0 : Int32)))
theorem lX12_drawn (a : Nat) (h : Hp) (m : Mu)  : fX12_drawn (mput a h m) a = (gX12_drawn m ).map (fun (y : (Int32 × Mu)) => (y.1, mput a h y.2)) := by
  unfold fX12_drawn gX12_drawn
  simp only [lX12_draw, lX12_drawn_75, lX12_drawn_25, lift_lt, lift_gO, k_bs, k_mb, k_ms, k_bm, k_mm, k_il, k_ir, lift_ite, k_id]
noncomputable def gX12_age_82 (m : Mu) (x3 : Int32) : Option (Int32 × Mu) :=
  some ((x3, m))
theorem lX12_age_82 (a : Nat) (h : Hp) (m : Mu) (x3 : Int32) : fX12_age_82 (mput a h m) x3 = (gX12_age_82 m x3).map (fun (y : (Int32 × Mu)) => (y.1, mput a h y.2)) := by
  unfold fX12_age_82 gX12_age_82
  simp only [lift_lt, lift_gO, k_bs, k_mb, k_ms, k_bm, k_mm, k_il, k_ir, lift_ite, k_id]
noncomputable def gX12_age_74 (m : Mu) (x3 : Int32) : Option (Int32 × Mu) :=
  if x3 ≤ 0 then (
  gX12_age_82 m x3) else (
    (gX12_notes m ).bind fun y5 =>
    gX12_age_82 y5 x3)
theorem lX12_age_74 (a : Nat) (h : Hp) (m : Mu) (x3 : Int32) : fX12_age_74 (mput a h m) a x3 = (gX12_age_74 m x3).map (fun (y : (Int32 × Mu)) => (y.1, mput a h y.2)) := by
  unfold fX12_age_74 gX12_age_74
  simp only [lX12_age_82, lX12_notes, lift_lt, lift_gO, k_bs, k_mb, k_ms, k_bm, k_mm, k_il, k_ir, lift_ite, k_id]
noncomputable def gX12_age_68 (m : Mu) (x2 : Int32) (x3 : Int32) (x4 : Int32) : Option ((Int32 × Int32 × Mu) ⊕ (Int32 × Mu)) :=
  some (.inl (x3, (x4 + Int32.ofInt 1), m))
theorem lX12_age_68 (a : Nat) (h : Hp) (m : Mu) (x2 : Int32) (x3 : Int32) (x4 : Int32) : fX12_age_68 (mput a h m) a x2 x3 x4 = (gX12_age_68 m x2 x3 x4).map (Sum.map (fun (s : (Int32 × Int32 × Mu)) => (s.1, s.2.1, mput a h s.2.2)) (fun (y : (Int32 × Mu)) => (y.1, mput a h y.2))) := by
  unfold fX12_age_68 gX12_age_68
  simp only [lift_lt, lift_gO, k_bs, k_mb, k_ms, k_bm, k_mm, k_il, k_ir, lift_ite, k_id]
noncomputable def gX12_age_34b (m : Mu) (x2 : Int32) (x3 : Int32) (x4 : Int32) : Option ((Int32 × Int32 × Mu) ⊕ (Int32 × Mu)) :=
  if x2 ≤ x4 then (
  (gX12_age_74 m x3).map (fun q => .inr q)) else (
    (gX12_drawn m ).bind fun y6 =>
    (gX12_whyNot y6.2 (y6.1.toInt64)).bind fun y7 =>
    if y7 = 0 then (
      (gX12_does y6.2 y6.1).bind fun y8 =>
      gX12_age_68 y8 x2 (x3 + Int32.ofInt 1) x4) else (
      gX12_age_68 y6.2 x2 x3 x4))
noncomputable def gX12_age_34 (m : Mu) (x2 : Int32) (x3 : Int32) (x4 : Int32) : Option (Int32 × Mu) := lpw (σ := (Int32 × Int32 × Mu)) (fun s => gX12_age_34b s.2.2 x2 s.1 s.2.1) (x3, x4, m)
theorem lX12_age_34b (a : Nat) (h : Hp) (m : Mu) (x2 : Int32) (x3 : Int32) (x4 : Int32) : fX12_age_34b (mput a h m) a x2 x3 x4 = (gX12_age_34b m x2 x3 x4).map (Sum.map (fun (s : (Int32 × Int32 × Mu)) => (s.1, s.2.1, mput a h s.2.2)) (fun (y : (Int32 × Mu)) => (y.1, mput a h y.2))) := by
  unfold fX12_age_34b gX12_age_34b
  simp only [lX12_age_74, lX12_drawn, lX12_whyNot, lX12_does, lX12_age_68, lift_lt, lift_gO, k_bs, k_mb, k_ms, k_bm, k_mm, k_il, k_ir, lift_ite, k_id]
theorem lX12_age_34 (a : Nat) (h : Hp) (m : Mu) (x2 : Int32) (x3 : Int32) (x4 : Int32) : fX12_age_34 (mput a h m) a x2 x3 x4 = (gX12_age_34 m x2 x3 x4).map (fun (y : (Int32 × Mu)) => (y.1, mput a h y.2)) := by
  unfold fX12_age_34 gX12_age_34
  exact lpw_map _ _ (fun (s : (Int32 × Int32 × Mu)) => (s.1, s.2.1, mput a h s.2.2)) (fun (y : (Int32 × Mu)) => (y.1, mput a h y.2)) (fun s => lX12_age_34b a h s.2.2 x2 s.1 s.2.1) (x3, x4, m)
noncomputable def gX12_age (m : Mu) (x1 : Int32) (x2 : Int32) : Option (Int32 × Mu) :=
  lt (mI m 0 (0 : Int32)) fun m1 =>
  (gX12_within (x2.toInt64) (1 : Int64) (40 : Int64)).bind fun y2 =>
  if y2 = 0 then (
    some (((-3 : Int32), m1))) else (
    (gX12_keeps m1 ).bind fun y3 =>
    lt (mI y3 24 x1) fun m4 =>
    gX12_age_34 m4 x2 (0 : Int32) (0 : Int32))
theorem lX12_age (a : Nat) (h : Hp) (m : Mu) (x1 : Int32) (x2 : Int32) : fX12_age (mput a h m) a x1 x2 = (gX12_age m x1 x2).map (fun (y : (Int32 × Mu)) => (y.1, mput a h y.2)) := by
  unfold fX12_age gX12_age
  simp only [lift_sV_0, lX12_within, lX12_keeps, lift_sV_24, lX12_age_34, lift_lt, lift_gO, k_bs, k_mb, k_ms, k_bm, k_mm, k_il, k_ir, lift_ite, k_id]
noncomputable def gX12_laysLed_71 (m : Mu) (x2 : Int32) (x3 : Int32) : Option Mu :=
  (mA m 12 x2).bind fun v4 =>
  lt (mI m 27 v4) fun m5 =>
  lt (mI m5 28 (x3 - (m5.1 27))) fun m6 =>
  some (m6)
theorem lX12_laysLed_71 (a : Nat) (h : Hp) (m : Mu) (x2 : Int32) (x3 : Int32) : fX12_laysLed_71 (mput a h m) a x2 x3 = (gX12_laysLed_71 m x2 x3).map (mput a h) := by
  unfold fX12_laysLed_71 gX12_laysLed_71
  simp only [lift_gN_26, lift_aI_12, lift_sV_27, lift_gI_27, lift_sV_28, lift_lt, lift_gO, k_bs, k_mb, k_ms, k_bm, k_mm, k_il, k_ir, lift_ite, k_id]
noncomputable def gX12_laysLed_33b (m : Mu) (x1 : Int32) (x2 : Int32) (x3 : Int32) : Option ((Int32 × Int32 × Mu) ⊕ Mu) :=
  (mA m 12 x2).bind fun v3 =>
  if v3 = (-1 : Int32) then (
    (mW m 12 x2 x3).bind fun m7 =>
    (mW m7 11 x3 x2).bind fun m8 =>
    (gX12_yearBy m8 x2 x1 (0 : Int32)).bind fun y9 =>
    some (.inl (y9, (x3 + Int32.ofInt 1), m8))) else (
  (gX12_laysLed_71 m x2 x3).map (fun q => .inr q))
noncomputable def gX12_laysLed_33 (m : Mu) (x1 : Int32) (x2 : Int32) (x3 : Int32) : Option Mu := lpw (σ := (Int32 × Int32 × Mu)) (fun s => gX12_laysLed_33b s.2.2 x1 s.1 s.2.1) (x2, x3, m)
theorem lX12_laysLed_33b (a : Nat) (h : Hp) (m : Mu) (x1 : Int32) (x2 : Int32) (x3 : Int32) : fX12_laysLed_33b (mput a h m) a x1 x2 x3 = (gX12_laysLed_33b m x1 x2 x3).map (Sum.map (fun (s : (Int32 × Int32 × Mu)) => (s.1, s.2.1, mput a h s.2.2)) (mput a h)) := by
  unfold fX12_laysLed_33b gX12_laysLed_33b
  simp only [lift_gN_26, lift_aI_12, lX12_laysLed_71, lift_wI_12, lift_gN_25, lift_wI_11, lX12_yearBy, lift_lt, lift_gO, k_bs, k_mb, k_ms, k_bm, k_mm, k_il, k_ir, lift_ite, k_id]
theorem lX12_laysLed_33 (a : Nat) (h : Hp) (m : Mu) (x1 : Int32) (x2 : Int32) (x3 : Int32) : fX12_laysLed_33 (mput a h m) a x1 x2 x3 = (gX12_laysLed_33 m x1 x2 x3).map (mput a h) := by
  unfold fX12_laysLed_33 gX12_laysLed_33
  exact lpw_map _ _ (fun (s : (Int32 × Int32 × Mu)) => (s.1, s.2.1, mput a h s.2.2)) (mput a h) (fun s => lX12_laysLed_33b a h s.2.2 x1 s.1 s.2.1) (x2, x3, m)
noncomputable def gX12_laysLed_26 (m : Mu) (x1 : Int32) : Option Mu :=
  (gX12_standNow m ).bind fun y2 =>
  gX12_laysLed_33 m x1 y2 (0 : Int32)
theorem lX12_laysLed_26 (a : Nat) (h : Hp) (m : Mu) (x1 : Int32) : fX12_laysLed_26 (mput a h m) a x1 = (gX12_laysLed_26 m x1).map (mput a h) := by
  unfold fX12_laysLed_26 gX12_laysLed_26
  simp only [lX12_standNow, lX12_laysLed_33, lift_lt, lift_gO, k_bs, k_mb, k_ms, k_bm, k_mm, k_il, k_ir, lift_ite, k_id]
noncomputable def gX12_laysLed_6b (m : Mu) (x1 : Int32) (x2 : Int32) : Option ((Int32 × Mu) ⊕ Mu) :=
  if (20000 : Int32) ≤ x2 then (
  (gX12_laysLed_26 m x1).map (fun q => .inr q)) else (
    (mW m 12 x2 (-1 : Int32)).bind fun m10 =>
    some (.inl ((x2 + Int32.ofInt 1), m10)))
noncomputable def gX12_laysLed_6 (m : Mu) (x1 : Int32) (x2 : Int32) : Option Mu := lpw (σ := (Int32 × Mu)) (fun s => gX12_laysLed_6b s.2 x1 s.1) (x2, m)
theorem lX12_laysLed_6b (a : Nat) (h : Hp) (m : Mu) (x1 : Int32) (x2 : Int32) : fX12_laysLed_6b (mput a h m) a x1 x2 = (gX12_laysLed_6b m x1 x2).map (Sum.map (fun (s : (Int32 × Mu)) => (s.1, mput a h s.2)) (mput a h)) := by
  unfold fX12_laysLed_6b gX12_laysLed_6b
  simp only [lX12_laysLed_26, lift_gN_26, lift_wI_12, lift_lt, lift_gO, k_bs, k_mb, k_ms, k_bm, k_mm, k_il, k_ir, lift_ite, k_id]
theorem lX12_laysLed_6 (a : Nat) (h : Hp) (m : Mu) (x1 : Int32) (x2 : Int32) : fX12_laysLed_6 (mput a h m) a x1 x2 = (gX12_laysLed_6 m x1 x2).map (mput a h) := by
  unfold fX12_laysLed_6 gX12_laysLed_6
  exact lpw_map _ _ (fun (s : (Int32 × Mu)) => (s.1, mput a h s.2)) (mput a h) (fun s => lX12_laysLed_6b a h s.2 x1 s.1) (x2, m)
noncomputable def gX12_laysLed (m : Mu) (x1 : Int32) : Option Mu :=
  (gX12_laysTables m ).bind fun y1 =>
  gX12_laysLed_6 y1 x1 (0 : Int32)
theorem lX12_laysLed (a : Nat) (h : Hp) (m : Mu) (x1 : Int32) : fX12_laysLed (mput a h m) a x1 = (gX12_laysLed m x1).map (mput a h) := by
  unfold fX12_laysLed gX12_laysLed
  simp only [lX12_laysTables, lX12_laysLed_6, lift_lt, lift_gO, k_bs, k_mb, k_ms, k_bm, k_mm, k_il, k_ir, lift_ite, k_id]
noncomputable def gX12_ledAt_32 (m : Mu) (s1 : Int32) : Option Int32 :=
  (mA m 11 s1).bind fun v2 =>
  some (v2)
theorem lX12_ledAt_32 (a : Nat) (h : Hp) (m : Mu) (s1 : Int32) : fX12_ledAt_32 (mput a h m) (a + 11) s1 = gX12_ledAt_32 m s1 := by
  unfold fX12_ledAt_32 gX12_ledAt_32
  simp only [lift_aI_11, lift_lt, lift_gO, k_bs, k_mb, k_ms, k_bm, k_mm, k_il, k_ir, lift_ite, k_id]
noncomputable def gX12_ledAt (m : Mu) (x1 : Int32) : Option Int32 :=
  if (m.1 27) ≤ x1 then (
    (rm (x1 - (m.1 27)) (m.1 28)).bind fun v1 =>
    gX12_ledAt_32 m ((m.1 27) + v1)) else (
    gX12_ledAt_32 m x1)
theorem lX12_ledAt (a : Nat) (h : Hp) (m : Mu) (x1 : Int32) : fX12_ledAt (mput a h m) a x1 = gX12_ledAt m x1 := by
  unfold fX12_ledAt gX12_ledAt
  simp only [lift_gN_25, lift_gI_27, lift_gI_28, lX12_ledAt_32, lift_lt, lift_gO, k_bs, k_mb, k_ms, k_bm, k_mm, k_il, k_ir, lift_ite, k_id]
noncomputable def gX12_lies (m : Mu) (x1 : Int32) (x2 : Int32) : Option (Int32 × Mu) :=
  lt (mI m 0 (0 : Int32)) fun m1 =>
  (gX12_isPair m1 (x1.toInt64)).bind fun y2 =>
  if y2 = 0 then (
    some (((-2 : Int32), m1))) else (
    (gX12_within (x2.toInt64) (0 : Int64) (99999 : Int64)).bind fun y3 =>
    if y3 = 0 then (
      some (((-3 : Int32), m1))) else (
      (mA m1 1 (23 : Int32)).bind fun v4 =>
      (gX12_laysLed m1 v4).bind fun y5 =>
      (gX12_ledAt y5 x2).bind fun y6 =>
      (gX12_gapIn y6 x1).bind fun y7 =>
      some ((y7, y5))))
theorem lX12_lies (a : Nat) (h : Hp) (m : Mu) (x1 : Int32) (x2 : Int32) : fX12_lies (mput a h m) a x1 x2 = (gX12_lies m x1 x2).map (fun (y : (Int32 × Mu)) => (y.1, mput a h y.2)) := by
  unfold fX12_lies gX12_lies
  simp only [lift_sV_0, lX12_isPair, lX12_within, lift_gN_1, lift_aI_1, lX12_laysLed, lX12_ledAt, lX12_gapIn, lift_lt, lift_gO, k_bs, k_mb, k_ms, k_bm, k_mm, k_il, k_ir, lift_ite, k_id]
noncomputable def gX12_metAt_2b (m : Mu) (x1 : Int32) (x2 : Int32) : Option (Int32 ⊕ Int32) :=
  if ((m.1 27) + (m.1 28)) ≤ x2 then (
    some (.inr (-1 : Int32))) else (
    (mA m 11 x2).bind fun v1 =>
    (gX12_gapIn v1 x1).bind fun y2 =>
    if y2 = 0 then (
      some (.inr x2)) else (
      some (.inl (x2 + Int32.ofInt 1))))
noncomputable def gX12_metAt_2 (m : Mu) (x1 : Int32) (x2 : Int32) : Option Int32 := lpw (σ := Int32) (fun s => gX12_metAt_2b m x1 s) x2
theorem lX12_metAt_2b (a : Nat) (h : Hp) (m : Mu) (x1 : Int32) (x2 : Int32) : fX12_metAt_2b (mput a h m) a x1 x2 = gX12_metAt_2b m x1 x2 := by
  unfold fX12_metAt_2b gX12_metAt_2b
  simp only [lift_gI_27, lift_gI_28, lift_gN_25, lift_aI_11, lX12_gapIn, lift_lt, lift_gO, k_bs, k_mb, k_ms, k_bm, k_mm, k_il, k_ir, lift_ite, k_id]
theorem lX12_metAt_2 (a : Nat) (h : Hp) (m : Mu) (x1 : Int32) (x2 : Int32) : fX12_metAt_2 (mput a h m) a x1 x2 = gX12_metAt_2 m x1 x2 := by
  unfold fX12_metAt_2 gX12_metAt_2
  refine congrArg (fun b => lpw b _) (funext (fun s => ?_))
  exact lX12_metAt_2b a h m x1 s
noncomputable def gX12_metAt (m : Mu) (x1 : Int32) : Option Int32 :=
  gX12_metAt_2 m x1 (0 : Int32)
theorem lX12_metAt (a : Nat) (h : Hp) (m : Mu) (x1 : Int32) : fX12_metAt (mput a h m) a x1 = gX12_metAt m x1 := by
  unfold fX12_metAt gX12_metAt
  simp only [lX12_metAt_2, lift_lt, lift_gO, k_bs, k_mb, k_ms, k_bm, k_mm, k_il, k_ir, lift_ite, k_id]
noncomputable def gX12_meets (m : Mu) (x1 : Int32) : Option (Int32 × Mu) :=
  lt (mI m 0 (0 : Int32)) fun m1 =>
  (gX12_isPair m1 (x1.toInt64)).bind fun y2 =>
  if y2 = 0 then (
    some (((-2 : Int32), m1))) else (
    (mA m1 1 (23 : Int32)).bind fun v3 =>
    (gX12_laysLed m1 v3).bind fun y4 =>
    (gX12_metAt y4 x1).bind fun y5 =>
    some ((y5, y4)))
theorem lX12_meets (a : Nat) (h : Hp) (m : Mu) (x1 : Int32) : fX12_meets (mput a h m) a x1 = (gX12_meets m x1).map (fun (y : (Int32 × Mu)) => (y.1, mput a h y.2)) := by
  unfold fX12_meets gX12_meets
  simp only [lift_sV_0, lX12_isPair, lift_gN_1, lift_aI_1, lX12_laysLed, lX12_metAt, lift_lt, lift_gO, k_bs, k_mb, k_ms, k_bm, k_mm, k_il, k_ir, lift_ite, k_id]
noncomputable def gX12_order_84 (m : Mu) (x1 : Int32) (x2 : Int32) (x3 : Int32) : Option ((Int32 × Int32) ⊕ (Int32 × Mu)) :=
  some (.inl (x2, (x3 + Int32.ofInt 1)))
theorem lX12_order_84 (a : Nat) (h : Hp) (m : Mu) (x1 : Int32) (x2 : Int32) (x3 : Int32) : fX12_order_84 (mput a h m) a x1 x2 x3 = (gX12_order_84 m x1 x2 x3).map (Sum.map id (fun (y : (Int32 × Mu)) => (y.1, mput a h y.2))) := by
  unfold fX12_order_84 gX12_order_84
  simp only [lift_lt, lift_gO, k_bs, k_mb, k_ms, k_bm, k_mm, k_il, k_ir, lift_ite, k_id]
noncomputable def gX12_order_78 (m : Mu) (x1 : Int32) (x2 : Int32) (x3 : Int32) (x4 : Int32) : Option ((Int32 × Int32) ⊕ ((Int32 × Int32) ⊕ (Int32 × Mu))) :=
  some (.inl (x2, (x4 + Int32.ofInt 1)))
theorem lX12_order_78 (a : Nat) (h : Hp) (m : Mu) (x1 : Int32) (x2 : Int32) (x3 : Int32) (x4 : Int32) : fX12_order_78 (mput a h m) a x1 x2 x3 x4 = (gX12_order_78 m x1 x2 x3 x4).map (Sum.map id (Sum.map id (fun (y : (Int32 × Mu)) => (y.1, mput a h y.2)))) := by
  unfold fX12_order_78 gX12_order_78
  simp only [lift_lt, lift_gO, k_bs, k_mb, k_ms, k_bm, k_mm, k_il, k_ir, lift_ite, k_id]
noncomputable def gX12_order_43b (m : Mu) (x1 : Int32) (x3 : Int32) (x2 : Int32) (x4 : Int32) : Option ((Int32 × Int32) ⊕ ((Int32 × Int32) ⊕ (Int32 × Mu))) :=
  (mA m 1 (1 : Int32)).bind fun v4 =>
  if v4 ≤ x4 then (
  (gX12_order_84 m x1 x2 x3).map (fun q => .inr q)) else (
    (gX12_metAt m x4).bind fun y5 =>
    if y5 = x3 then (
      if x2 = x1 then (
        some (.inr (.inr (x4, m)))) else (
        gX12_order_78 m x1 (x2 + Int32.ofInt 1) x3 x4)) else (
      gX12_order_78 m x1 x2 x3 x4))
noncomputable def gX12_order_43 (m : Mu) (x1 : Int32) (x2 : Int32) (x3 : Int32) (x4 : Int32) : Option ((Int32 × Int32) ⊕ (Int32 × Mu)) := lpw (σ := (Int32 × Int32)) (fun s => gX12_order_43b m x1 x3 s.1 s.2) (x2, x4)
theorem lX12_order_43b (a : Nat) (h : Hp) (m : Mu) (x1 : Int32) (x2 : Int32) (x3 : Int32) (x4 : Int32) : fX12_order_43b (mput a h m) a x1 x3 x2 x4 = (gX12_order_43b m x1 x3 x2 x4).map (Sum.map id (Sum.map id (fun (y : (Int32 × Mu)) => (y.1, mput a h y.2)))) := by
  unfold fX12_order_43b gX12_order_43b
  simp only [lift_gN_1, lift_aI_1, lX12_order_84, lX12_metAt, lX12_order_78, lift_lt, lift_gO, k_bs, k_mb, k_ms, k_bm, k_mm, k_il, k_ir, lift_ite, k_id]
theorem lX12_order_43 (a : Nat) (h : Hp) (m : Mu) (x1 : Int32) (x2 : Int32) (x3 : Int32) (x4 : Int32) : fX12_order_43 (mput a h m) a x1 x2 x3 x4 = (gX12_order_43 m x1 x2 x3 x4).map (Sum.map id (fun (y : (Int32 × Mu)) => (y.1, mput a h y.2))) := by
  unfold fX12_order_43 gX12_order_43
  exact lpw_map _ _ id (Sum.map id (fun (y : (Int32 × Mu)) => (y.1, mput a h y.2))) (fun s => lX12_order_43b a h m x1 s.1 x3 s.2) (x2, x4)
noncomputable def gX12_order_27b (m : Mu) (x1 : Int32) (x2 : Int32) (x3 : Int32) : Option ((Int32 × Int32) ⊕ (Int32 × Mu)) :=
  if ((m.1 27) + (m.1 28)) ≤ x3 then (
    some (.inr ((-1 : Int32), m))) else (
    gX12_order_43 m x1 x2 x3 (0 : Int32))
noncomputable def gX12_order_27 (m : Mu) (x1 : Int32) (x2 : Int32) (x3 : Int32) : Option (Int32 × Mu) := lpw (σ := (Int32 × Int32)) (fun s => gX12_order_27b m x1 s.1 s.2) (x2, x3)
theorem lX12_order_27b (a : Nat) (h : Hp) (m : Mu) (x1 : Int32) (x2 : Int32) (x3 : Int32) : fX12_order_27b (mput a h m) a x1 x2 x3 = (gX12_order_27b m x1 x2 x3).map (Sum.map id (fun (y : (Int32 × Mu)) => (y.1, mput a h y.2))) := by
  unfold fX12_order_27b gX12_order_27b
  simp only [lift_gI_27, lift_gI_28, lX12_order_43, lift_lt, lift_gO, k_bs, k_mb, k_ms, k_bm, k_mm, k_il, k_ir, lift_ite, k_id]
theorem lX12_order_27 (a : Nat) (h : Hp) (m : Mu) (x1 : Int32) (x2 : Int32) (x3 : Int32) : fX12_order_27 (mput a h m) a x1 x2 x3 = (gX12_order_27 m x1 x2 x3).map (fun (y : (Int32 × Mu)) => (y.1, mput a h y.2)) := by
  unfold fX12_order_27 gX12_order_27
  exact lpw_map _ _ id (fun (y : (Int32 × Mu)) => (y.1, mput a h y.2)) (fun s => lX12_order_27b a h m x1 s.1 s.2) (x2, x3)
noncomputable def gX12_order (m : Mu) (x1 : Int32) : Option (Int32 × Mu) :=
  lt (mI m 0 (0 : Int32)) fun m1 =>
  if 0 ≤ x1 then (
    (mA m1 1 (23 : Int32)).bind fun v2 =>
    (gX12_laysLed m1 v2).bind fun y3 =>
    gX12_order_27 y3 x1 (0 : Int32) (0 : Int32)) else (
    some (((-3 : Int32), m1)))
theorem lX12_order (a : Nat) (h : Hp) (m : Mu) (x1 : Int32) : fX12_order (mput a h m) a x1 = (gX12_order m x1).map (fun (y : (Int32 × Mu)) => (y.1, mput a h y.2)) := by
  unfold fX12_order gX12_order
  simp only [lift_sV_0, lift_gN_1, lift_aI_1, lX12_laysLed, lX12_order_27, lift_lt, lift_gO, k_bs, k_mb, k_ms, k_bm, k_mm, k_il, k_ir, lift_ite, k_id]
noncomputable def gX12_falls_18b (m : Mu) (x1 : Int32) : Option (Int32 ⊕ (Int32 × Mu)) :=
  if ((m.1 27) + (m.1 28)) ≤ x1 then (
    some (.inr ((-1 : Int32), m))) else (
    (mA m 11 x1).bind fun v4 =>
    (gX12_hasFallen v4).bind fun y5 =>
    if y5 = 0 then (
      some (.inl (x1 + Int32.ofInt 1))) else (
      some (.inr (x1, m))))
noncomputable def gX12_falls_18 (m : Mu) (x1 : Int32) : Option (Int32 × Mu) := lpw (σ := Int32) (fun s => gX12_falls_18b m  s) x1
theorem lX12_falls_18b (a : Nat) (h : Hp) (m : Mu) (x1 : Int32) : fX12_falls_18b (mput a h m) a x1 = (gX12_falls_18b m x1).map (Sum.map id (fun (y : (Int32 × Mu)) => (y.1, mput a h y.2))) := by
  unfold fX12_falls_18b gX12_falls_18b
  simp only [lift_gI_27, lift_gI_28, lift_gN_25, lift_aI_11, lX12_hasFallen, lift_lt, lift_gO, k_bs, k_mb, k_ms, k_bm, k_mm, k_il, k_ir, lift_ite, k_id]
theorem lX12_falls_18 (a : Nat) (h : Hp) (m : Mu) (x1 : Int32) : fX12_falls_18 (mput a h m) a x1 = (gX12_falls_18 m x1).map (fun (y : (Int32 × Mu)) => (y.1, mput a h y.2)) := by
  unfold fX12_falls_18 gX12_falls_18
  exact lpw_map _ _ id (fun (y : (Int32 × Mu)) => (y.1, mput a h y.2)) (fun s => lX12_falls_18b a h m s) x1
noncomputable def gX12_falls (m : Mu)  : Option (Int32 × Mu) :=
  lt (mI m 0 (0 : Int32)) fun m1 =>
  (mA m1 1 (23 : Int32)).bind fun v2 =>
  (gX12_laysLed m1 v2).bind fun y3 =>
  gX12_falls_18 y3 (0 : Int32)
theorem lX12_falls (a : Nat) (h : Hp) (m : Mu)  : fX12_falls (mput a h m) a = (gX12_falls m ).map (fun (y : (Int32 × Mu)) => (y.1, mput a h y.2)) := by
  unfold fX12_falls gX12_falls
  simp only [lift_sV_0, lift_gN_1, lift_aI_1, lX12_laysLed, lX12_falls_18, lift_lt, lift_gO, k_bs, k_mb, k_ms, k_bm, k_mm, k_il, k_ir, lift_ite, k_id]
noncomputable def gX12_placeOf_4b (x0 : Int32) (x1 : Int32) (x2 : Int32) : Option ((Int32 × Int32) ⊕ Int32) :=
  if x0 ≤ x2 then (
    some (.inr x1)) else (
    some (.inl ((x1 * (5 : Int32)), (x2 + Int32.ofInt 1))))
noncomputable def gX12_placeOf_4 (x0 : Int32) (x1 : Int32) (x2 : Int32) : Option Int32 := lpw (σ := (Int32 × Int32)) (fun s => gX12_placeOf_4b x0 s.1 s.2) (x1, x2)
theorem lX12_placeOf_4b (h : Hp) (x0 : Int32) (x1 : Int32) (x2 : Int32) : fX12_placeOf_4b h x0 x1 x2 = gX12_placeOf_4b x0 x1 x2 := by
  unfold fX12_placeOf_4b gX12_placeOf_4b
  simp only [lift_lt, lift_gO, k_bs, k_mb, k_ms, k_bm, k_mm, k_il, k_ir, lift_ite, k_id]
theorem lX12_placeOf_4 (h : Hp) (x0 : Int32) (x1 : Int32) (x2 : Int32) : fX12_placeOf_4 h x0 x1 x2 = gX12_placeOf_4 x0 x1 x2 := by
  unfold fX12_placeOf_4 gX12_placeOf_4
  refine congrArg (fun b => lpw b _) (funext (fun s => ?_))
  exact lX12_placeOf_4b h x0 s.1 s.2
noncomputable def gX12_placeOf (x0 : Int32) : Option Int32 :=
  gX12_placeOf_4 x0 (1 : Int32) (0 : Int32)
theorem lX12_placeOf (h : Hp) (x0 : Int32) : fX12_placeOf h x0 = gX12_placeOf x0 := by
  unfold fX12_placeOf gX12_placeOf
  simp only [lX12_placeOf_4, lift_lt, lift_gO, k_bs, k_mb, k_ms, k_bm, k_mm, k_il, k_ir, lift_ite, k_id]
noncomputable def gX12_moved_37 (m : Mu)  : Option (Int32 × Mu) :=
  some (((-99000002 : Int32), m))
theorem lX12_moved_37 (a : Nat) (h : Hp) (m : Mu)  : fX12_moved_37 (mput a h m)  = (gX12_moved_37 m ).map (fun (y : (Int32 × Mu)) => (y.1, mput a h y.2)) := by
  unfold fX12_moved_37 gX12_moved_37
  simp only [lift_lt, lift_gO, k_bs, k_mb, k_ms, k_bm, k_mm, k_il, k_ir, lift_ite, k_id]
noncomputable def gX12_moved_128 (m : Mu) (s0 : Int32) : Option (Int32 × Mu) :=
  some ((s0, m))
theorem lX12_moved_128 (a : Nat) (h : Hp) (m : Mu) (s0 : Int32) : fX12_moved_128 (mput a h m) s0 = (gX12_moved_128 m s0).map (fun (y : (Int32 × Mu)) => (y.1, mput a h y.2)) := by
  unfold fX12_moved_128 gX12_moved_128
  simp only [lift_lt, lift_gO, k_bs, k_mb, k_ms, k_bm, k_mm, k_il, k_ir, lift_ite, k_id]
noncomputable def gX12_moved_117 (m : Mu)  : Option (Int32 × Mu) :=
  gX12_moved_128 m (-99000001 : Int32)
theorem lX12_moved_117 (a : Nat) (h : Hp) (m : Mu)  : fX12_moved_117 (mput a h m)  = (gX12_moved_117 m ).map (fun (y : (Int32 × Mu)) => (y.1, mput a h y.2)) := by
  unfold fX12_moved_117 gX12_moved_117
  simp only [lX12_moved_128, lift_lt, lift_gO, k_bs, k_mb, k_ms, k_bm, k_mm, k_il, k_ir, lift_ite, k_id]
noncomputable def gX12_moved (m : Mu) (x1 : Int32) (x2 : Int32) (x3 : Int32) : Option (Int32 × Mu) :=
  lt (mI m 0 (0 : Int32)) fun m1 =>
  (gX12_isPair m1 (x1.toInt64)).bind fun y2 =>
  if y2 = 0 then (
  gX12_moved_37 m1 ) else (
    (gX12_isPair m1 (x2.toInt64)).bind fun y3 =>
    if y3 = 0 then (
    gX12_moved_37 m1 ) else (
      (gX12_isPair m1 (x3.toInt64)).bind fun y4 =>
      if y4 = 0 then (
      gX12_moved_37 m1 ) else (
        if x2 = x3 then (
        gX12_moved_37 m1 ) else (
          (mA m1 1 (23 : Int32)).bind fun v5 =>
          (gX12_dropsIn v5 x2).bind fun y6 =>
          if y6 = 0 then (
            some (((-99000005 : Int32), m1))) else (
            (mA m1 1 (23 : Int32)).bind fun v7 =>
            (gX12_laysLed m1 v7).bind fun y8 =>
            (gX12_metAt y8 x1).bind fun y9 =>
            (mA y8 1 (23 : Int32)).bind fun v10 =>
            (gX12_placeOf x2).bind fun y11 =>
            (gX12_placeOf x3).bind fun y12 =>
            (gX12_laysLed y8 ((v10 - y11) + y12)).bind fun y13 =>
            (gX12_metAt y13 x1).bind fun y14 =>
            if y9 = (-1 : Int32) then (
            gX12_moved_117 y13 ) else (
              if y14 = (-1 : Int32) then (
              gX12_moved_117 y13 ) else (
                gX12_moved_128 y13 (y14 - y9))))))))
theorem lX12_moved (a : Nat) (h : Hp) (m : Mu) (x1 : Int32) (x2 : Int32) (x3 : Int32) : fX12_moved (mput a h m) a x1 x2 x3 = (gX12_moved m x1 x2 x3).map (fun (y : (Int32 × Mu)) => (y.1, mput a h y.2)) := by
  unfold fX12_moved gX12_moved
  simp only [lift_sV_0, lX12_isPair, lX12_moved_37, lift_gN_1, lift_aI_1, lX12_dropsIn, lX12_laysLed, lX12_metAt, lX12_placeOf, lX12_moved_117, lX12_moved_128, lift_lt, lift_gO, k_bs, k_mb, k_ms, k_bm, k_mm, k_il, k_ir, lift_ite, k_id]
noncomputable def gX12_adds (m : Mu) (x1 : Int32) : Option Mu :=
  (mA m 16 x1).bind fun v1 =>
  if v1 = 0 then (
    (mW m 16 x1 (1 : Int32)).bind fun m2 =>
    (mW m2 13 (m2.1 33) x1).bind fun m3 =>
    lt (mI m3 33 ((m3.1 33) + (1 : Int32))) fun m4 =>
    some (m4)) else (
    some (m))
theorem lX12_adds (a : Nat) (h : Hp) (m : Mu) (x1 : Int32) : fX12_adds (mput a h m) a x1 = (gX12_adds m x1).map (mput a h) := by
  unfold fX12_adds gX12_adds
  simp only [lift_gN_32, lift_aI_16, lift_wI_16, lift_gN_29, lift_gI_33, lift_wI_13, lift_sV_33, lift_lt, lift_gO, k_bs, k_mb, k_ms, k_bm, k_mm, k_il, k_ir, lift_ite, k_id]
noncomputable def gX12_laysStands_147 (m : Mu) (x1 : Int32) (x2 : Int32) : Option ((Int32 × Mu) ⊕ Mu) :=
  some (.inl ((x2 + Int32.ofInt 1), m))
theorem lX12_laysStands_147 (a : Nat) (h : Hp) (m : Mu) (x1 : Int32) (x2 : Int32) : fX12_laysStands_147 (mput a h m) a x1 x2 = (gX12_laysStands_147 m x1 x2).map (Sum.map (fun (s : (Int32 × Mu)) => (s.1, mput a h s.2)) (mput a h)) := by
  unfold fX12_laysStands_147 gX12_laysStands_147
  simp only [lift_lt, lift_gO, k_bs, k_mb, k_ms, k_bm, k_mm, k_il, k_ir, lift_ite, k_id]
noncomputable def gX12_laysStands_141 (m : Mu) (x1 : Int32) (x2 : Int32) (x3 : Int32) : Option ((Int32 × Mu) ⊕ ((Int32 × Mu) ⊕ Mu)) :=
  some (.inl ((x3 + Int32.ofInt 1), m))
theorem lX12_laysStands_141 (a : Nat) (h : Hp) (m : Mu) (x1 : Int32) (x2 : Int32) (x3 : Int32) : fX12_laysStands_141 (mput a h m) a x1 x2 x3 = (gX12_laysStands_141 m x1 x2 x3).map (Sum.map (fun (s : (Int32 × Mu)) => (s.1, mput a h s.2)) (Sum.map (fun (s : (Int32 × Mu)) => (s.1, mput a h s.2)) (mput a h))) := by
  unfold fX12_laysStands_141 gX12_laysStands_141
  simp only [lift_lt, lift_gO, k_bs, k_mb, k_ms, k_bm, k_mm, k_il, k_ir, lift_ite, k_id]
noncomputable def gX12_laysStands_55b (m : Mu) (x1 : Int32) (x2 : Int32) (x3 : Int32) : Option ((Int32 × Mu) ⊕ ((Int32 × Mu) ⊕ Mu)) :=
  if (m.1 21) ≤ x3 then (
  (gX12_laysStands_147 m x1 x2).map (fun q => .inr q)) else (
    (mA m 13 x2).bind fun v6 =>
    (mA m 13 x2).bind fun v7 =>
    (mA m 9 x3).bind fun v8 =>
    (gX12_yearBy m v7 v8 (0 : Int32)).bind fun y9 =>
    (mW m 14 (((35 : Int32) * v6) + x3) y9).bind fun m10 =>
    (mA m10 13 x2).bind fun v11 =>
    (mA m10 14 (((35 : Int32) * v11) + x3)).bind fun v12 =>
    (gX12_adds m10 v12).bind fun y13 =>
    if x1 = 0 then (
    gX12_laysStands_141 y13 x1 x2 x3) else (
      (mA y13 13 x2).bind fun v14 =>
      (mA y13 9 x3).bind fun v15 =>
      (gX12_yearBy y13 v14 v15 (1 : Int32)).bind fun y16 =>
      (gX12_adds y13 y16).bind fun y17 =>
      gX12_laysStands_141 y17 x1 x2 x3))
noncomputable def gX12_laysStands_55 (m : Mu) (x1 : Int32) (x2 : Int32) (x3 : Int32) : Option ((Int32 × Mu) ⊕ Mu) := lpw (σ := (Int32 × Mu)) (fun s => gX12_laysStands_55b s.2 x1 x2 s.1) (x3, m)
theorem lX12_laysStands_55b (a : Nat) (h : Hp) (m : Mu) (x1 : Int32) (x2 : Int32) (x3 : Int32) : fX12_laysStands_55b (mput a h m) a x1 x2 x3 = (gX12_laysStands_55b m x1 x2 x3).map (Sum.map (fun (s : (Int32 × Mu)) => (s.1, mput a h s.2)) (Sum.map (fun (s : (Int32 × Mu)) => (s.1, mput a h s.2)) (mput a h))) := by
  unfold fX12_laysStands_55b gX12_laysStands_55b
  simp only [lift_gI_21, lX12_laysStands_147, lift_gN_30, lift_gN_29, lift_aI_13, lift_gN_20, lift_aI_9, lX12_yearBy, lift_wI_14, lift_aI_14, lX12_adds, lX12_laysStands_141, lift_lt, lift_gO, k_bs, k_mb, k_ms, k_bm, k_mm, k_il, k_ir, lift_ite, k_id]
theorem lX12_laysStands_55 (a : Nat) (h : Hp) (m : Mu) (x1 : Int32) (x2 : Int32) (x3 : Int32) : fX12_laysStands_55 (mput a h m) a x1 x2 x3 = (gX12_laysStands_55 m x1 x2 x3).map (Sum.map (fun (s : (Int32 × Mu)) => (s.1, mput a h s.2)) (mput a h)) := by
  unfold fX12_laysStands_55 gX12_laysStands_55
  exact lpw_map _ _ (fun (s : (Int32 × Mu)) => (s.1, mput a h s.2)) (Sum.map (fun (s : (Int32 × Mu)) => (s.1, mput a h s.2)) (mput a h)) (fun s => lX12_laysStands_55b a h s.2 x1 x2 s.1) (x3, m)
noncomputable def gX12_laysStands_45b (m : Mu) (x1 : Int32) (x2 : Int32) : Option ((Int32 × Mu) ⊕ Mu) :=
  if (m.1 33) ≤ x2 then (
    some (.inr m)) else (
    gX12_laysStands_55 m x1 x2 (0 : Int32))
noncomputable def gX12_laysStands_45 (m : Mu) (x1 : Int32) (x2 : Int32) : Option Mu := lpw (σ := (Int32 × Mu)) (fun s => gX12_laysStands_45b s.2 x1 s.1) (x2, m)
theorem lX12_laysStands_45b (a : Nat) (h : Hp) (m : Mu) (x1 : Int32) (x2 : Int32) : fX12_laysStands_45b (mput a h m) a x1 x2 = (gX12_laysStands_45b m x1 x2).map (Sum.map (fun (s : (Int32 × Mu)) => (s.1, mput a h s.2)) (mput a h)) := by
  unfold fX12_laysStands_45b gX12_laysStands_45b
  simp only [lift_gI_33, lX12_laysStands_55, lift_lt, lift_gO, k_bs, k_mb, k_ms, k_bm, k_mm, k_il, k_ir, lift_ite, k_id]
theorem lX12_laysStands_45 (a : Nat) (h : Hp) (m : Mu) (x1 : Int32) (x2 : Int32) : fX12_laysStands_45 (mput a h m) a x1 x2 = (gX12_laysStands_45 m x1 x2).map (mput a h) := by
  unfold fX12_laysStands_45 gX12_laysStands_45
  exact lpw_map _ _ (fun (s : (Int32 × Mu)) => (s.1, mput a h s.2)) (mput a h) (fun s => lX12_laysStands_45b a h s.2 x1 s.1) (x2, m)
noncomputable def gX12_laysStands_30 (m : Mu) (x1 : Int32) : Option Mu :=
  lt (mI m 33 (0 : Int32)) fun m3 =>
  (gX12_standNow m3 ).bind fun y4 =>
  (gX12_adds m3 y4).bind fun y5 =>
  gX12_laysStands_45 y5 x1 (0 : Int32)
theorem lX12_laysStands_30 (a : Nat) (h : Hp) (m : Mu) (x1 : Int32) : fX12_laysStands_30 (mput a h m) a x1 = (gX12_laysStands_30 m x1).map (mput a h) := by
  unfold fX12_laysStands_30 gX12_laysStands_30
  simp only [lift_sV_33, lX12_standNow, lX12_adds, lX12_laysStands_45, lift_lt, lift_gO, k_bs, k_mb, k_ms, k_bm, k_mm, k_il, k_ir, lift_ite, k_id]
noncomputable def gX12_laysStands_10b (m : Mu) (x1 : Int32) (x2 : Int32) : Option ((Int32 × Mu) ⊕ Mu) :=
  if (20000 : Int32) ≤ x2 then (
  (gX12_laysStands_30 m x1).map (fun q => .inr q)) else (
    (mW m 16 x2 (0 : Int32)).bind fun m18 =>
    some (.inl ((x2 + Int32.ofInt 1), m18)))
noncomputable def gX12_laysStands_10 (m : Mu) (x1 : Int32) (x2 : Int32) : Option Mu := lpw (σ := (Int32 × Mu)) (fun s => gX12_laysStands_10b s.2 x1 s.1) (x2, m)
theorem lX12_laysStands_10b (a : Nat) (h : Hp) (m : Mu) (x1 : Int32) (x2 : Int32) : fX12_laysStands_10b (mput a h m) a x1 x2 = (gX12_laysStands_10b m x1 x2).map (Sum.map (fun (s : (Int32 × Mu)) => (s.1, mput a h s.2)) (mput a h)) := by
  unfold fX12_laysStands_10b gX12_laysStands_10b
  simp only [lX12_laysStands_30, lift_gN_32, lift_wI_16, lift_lt, lift_gO, k_bs, k_mb, k_ms, k_bm, k_mm, k_il, k_ir, lift_ite, k_id]
theorem lX12_laysStands_10 (a : Nat) (h : Hp) (m : Mu) (x1 : Int32) (x2 : Int32) : fX12_laysStands_10 (mput a h m) a x1 x2 = (gX12_laysStands_10 m x1 x2).map (mput a h) := by
  unfold fX12_laysStands_10 gX12_laysStands_10
  exact lpw_map _ _ (fun (s : (Int32 × Mu)) => (s.1, mput a h s.2)) (mput a h) (fun s => lX12_laysStands_10b a h s.2 x1 s.1) (x2, m)
noncomputable def gX12_laysStands (m : Mu) (x1 : Int32) : Option Mu :=
  (gX12_laysTables m ).bind fun y1 =>
  (gX12_laysLeads y1 ).bind fun y2 =>
  gX12_laysStands_10 y2 x1 (0 : Int32)
theorem lX12_laysStands (a : Nat) (h : Hp) (m : Mu) (x1 : Int32) : fX12_laysStands (mput a h m) a x1 = (gX12_laysStands m x1).map (mput a h) := by
  unfold fX12_laysStands gX12_laysStands
  simp only [lX12_laysTables, lX12_laysLeads, lX12_laysStands_10, lift_lt, lift_gO, k_bs, k_mb, k_ms, k_bm, k_mm, k_il, k_ir, lift_ite, k_id]
noncomputable def gX12_leastBy_77 (m : Mu) (s0 : Int32) : Option Int32 :=
  some (s0)
theorem lX12_leastBy_77 (a : Nat) (h : Hp) (m : Mu) (s0 : Int32) : fX12_leastBy_77 (mput a h m) s0 = gX12_leastBy_77 m s0 := by
  unfold fX12_leastBy_77 gX12_leastBy_77
  simp only [lift_lt, lift_gO, k_bs, k_mb, k_ms, k_bm, k_mm, k_il, k_ir, lift_ite, k_id]
noncomputable def gX12_leastBy_61 (m : Mu) (x2 : Int32) : Option Int32 :=
  if x2 = (268435456 : Int32) then (
    gX12_leastBy_77 m (268435456 : Int32)) else (
    gX12_leastBy_77 m (x2 + (1 : Int32)))
theorem lX12_leastBy_61 (a : Nat) (h : Hp) (m : Mu) (x2 : Int32) : fX12_leastBy_61 (mput a h m) x2 = gX12_leastBy_61 m x2 := by
  unfold fX12_leastBy_61 gX12_leastBy_61
  simp only [lX12_leastBy_77, lift_lt, lift_gO, k_bs, k_mb, k_ms, k_bm, k_mm, k_il, k_ir, lift_ite, k_id]
noncomputable def gX12_leastBy_54 (m : Mu) (x1 : Int32) (x3 : Int32) (s0 : Int32) : Option ((Int32 × Int32) ⊕ Int32) :=
  some (.inl (s0, (x3 + Int32.ofInt 1)))
theorem lX12_leastBy_54 (a : Nat) (h : Hp) (m : Mu) (x1 : Int32) (x3 : Int32) (s0 : Int32) : fX12_leastBy_54 (mput a h m) a x1 x3 s0 = gX12_leastBy_54 m x1 x3 s0 := by
  unfold fX12_leastBy_54 gX12_leastBy_54
  simp only [lift_lt, lift_gO, k_bs, k_mb, k_ms, k_bm, k_mm, k_il, k_ir, lift_ite, k_id]
noncomputable def gX12_leastBy_6b (m : Mu) (x1 : Int32) (x2 : Int32) (x3 : Int32) : Option ((Int32 × Int32) ⊕ Int32) :=
  if (m.1 21) ≤ x3 then (
  (gX12_leastBy_61 m x2).map (fun q => .inr q)) else (
    (mA m 14 (((35 : Int32) * x1) + x3)).bind fun v1 =>
    (mA m 15 v1).bind fun v2 =>
    if x2 ≤ v2 then (
      gX12_leastBy_54 m x1 x3 x2) else (
      (mA m 14 (((35 : Int32) * x1) + x3)).bind fun v3 =>
      (mA m 15 v3).bind fun v4 =>
      gX12_leastBy_54 m x1 x3 v4))
noncomputable def gX12_leastBy_6 (m : Mu) (x1 : Int32) (x2 : Int32) (x3 : Int32) : Option Int32 := lpw (σ := (Int32 × Int32)) (fun s => gX12_leastBy_6b m x1 s.1 s.2) (x2, x3)
theorem lX12_leastBy_6b (a : Nat) (h : Hp) (m : Mu) (x1 : Int32) (x2 : Int32) (x3 : Int32) : fX12_leastBy_6b (mput a h m) a x1 x2 x3 = gX12_leastBy_6b m x1 x2 x3 := by
  unfold fX12_leastBy_6b gX12_leastBy_6b
  simp only [lift_gI_21, lX12_leastBy_61, lift_gN_31, lift_gN_30, lift_aI_14, lift_aI_15, lX12_leastBy_54, lift_lt, lift_gO, k_bs, k_mb, k_ms, k_bm, k_mm, k_il, k_ir, lift_ite, k_id]
theorem lX12_leastBy_6 (a : Nat) (h : Hp) (m : Mu) (x1 : Int32) (x2 : Int32) (x3 : Int32) : fX12_leastBy_6 (mput a h m) a x1 x2 x3 = gX12_leastBy_6 m x1 x2 x3 := by
  unfold fX12_leastBy_6 gX12_leastBy_6
  refine congrArg (fun b => lpw b _) (funext (fun s => ?_))
  exact lX12_leastBy_6b a h m x1 s.1 s.2
noncomputable def gX12_leastBy (m : Mu) (x1 : Int32) : Option Int32 :=
  gX12_leastBy_6 m x1 (268435456 : Int32) (0 : Int32)
theorem lX12_leastBy (a : Nat) (h : Hp) (m : Mu) (x1 : Int32) : fX12_leastBy (mput a h m) a x1 = gX12_leastBy m x1 := by
  unfold fX12_leastBy gX12_leastBy
  simp only [lX12_leastBy_6, lift_lt, lift_gO, k_bs, k_mb, k_ms, k_bm, k_mm, k_il, k_ir, lift_ite, k_id]
noncomputable def gX12_laysFar_71 (m : Mu)  : Option (Int32 × Mu) :=
  (gX12_standNow m ).bind fun y1 =>
  (mA m 15 y1).bind fun v2 =>
  some ((v2, m))
theorem lX12_laysFar_71 (a : Nat) (h : Hp) (m : Mu)  : fX12_laysFar_71 (mput a h m) a = (gX12_laysFar_71 m ).map (fun (y : (Int32 × Mu)) => (y.1, mput a h y.2)) := by
  unfold fX12_laysFar_71 gX12_laysFar_71
  simp only [lift_gN_31, lX12_standNow, lift_aI_15, lift_lt, lift_gO, k_bs, k_mb, k_ms, k_bm, k_mm, k_il, k_ir, lift_ite, k_id]
noncomputable def gX12_laysFar_62 (m : Mu) (x1 : Int32) (x2 : Int32) : Option ((Int32 × Int32 × Mu) ⊕ ((Int32 × Mu) ⊕ (Int32 × Mu))) :=
  some (.inl (x1, (x2 + Int32.ofInt (-1)), m))
theorem lX12_laysFar_62 (a : Nat) (h : Hp) (m : Mu) (x1 : Int32) (x2 : Int32) : fX12_laysFar_62 (mput a h m) a x1 x2 = (gX12_laysFar_62 m x1 x2).map (Sum.map (fun (s : (Int32 × Int32 × Mu)) => (s.1, s.2.1, mput a h s.2.2)) (Sum.map (fun (s : (Int32 × Mu)) => (s.1, mput a h s.2)) (fun (y : (Int32 × Mu)) => (y.1, mput a h y.2)))) := by
  unfold fX12_laysFar_62 gX12_laysFar_62
  simp only [lift_lt, lift_gO, k_bs, k_mb, k_ms, k_bm, k_mm, k_il, k_ir, lift_ite, k_id]
noncomputable def gX12_laysFar_15b (m : Mu) (x1 : Int32) (x2 : Int32) : Option ((Int32 × Int32 × Mu) ⊕ ((Int32 × Mu) ⊕ (Int32 × Mu))) :=
  if x2 < 0 then (
    some (.inr (.inl (x1, m)))) else (
    (mA m 13 x2).bind fun v3 =>
    (gX12_leastBy m v3).bind fun y4 =>
    (mA m 13 x2).bind fun v5 =>
    (mA m 15 v5).bind fun v6 =>
    if y4 < v6 then (
      (mA m 13 x2).bind fun v7 =>
      (mW m 15 v7 y4).bind fun m8 =>
      gX12_laysFar_62 m8 (1 : Int32) x2) else (
      gX12_laysFar_62 m x1 x2))
noncomputable def gX12_laysFar_15 (m : Mu) (x1 : Int32) (x2 : Int32) : Option ((Int32 × Mu) ⊕ (Int32 × Mu)) := lpw (σ := (Int32 × Int32 × Mu)) (fun s => gX12_laysFar_15b s.2.2  s.1 s.2.1) (x1, x2, m)
theorem lX12_laysFar_15b (a : Nat) (h : Hp) (m : Mu) (x1 : Int32) (x2 : Int32) : fX12_laysFar_15b (mput a h m) a x1 x2 = (gX12_laysFar_15b m x1 x2).map (Sum.map (fun (s : (Int32 × Int32 × Mu)) => (s.1, s.2.1, mput a h s.2.2)) (Sum.map (fun (s : (Int32 × Mu)) => (s.1, mput a h s.2)) (fun (y : (Int32 × Mu)) => (y.1, mput a h y.2)))) := by
  unfold fX12_laysFar_15b gX12_laysFar_15b
  simp only [lift_gN_29, lift_aI_13, lX12_leastBy, lift_gN_31, lift_aI_15, lift_wI_15, lX12_laysFar_62, lift_lt, lift_gO, k_bs, k_mb, k_ms, k_bm, k_mm, k_il, k_ir, lift_ite, k_id]
theorem lX12_laysFar_15 (a : Nat) (h : Hp) (m : Mu) (x1 : Int32) (x2 : Int32) : fX12_laysFar_15 (mput a h m) a x1 x2 = (gX12_laysFar_15 m x1 x2).map (Sum.map (fun (s : (Int32 × Mu)) => (s.1, mput a h s.2)) (fun (y : (Int32 × Mu)) => (y.1, mput a h y.2))) := by
  unfold fX12_laysFar_15 gX12_laysFar_15
  exact lpw_map _ _ (fun (s : (Int32 × Int32 × Mu)) => (s.1, s.2.1, mput a h s.2.2)) (Sum.map (fun (s : (Int32 × Mu)) => (s.1, mput a h s.2)) (fun (y : (Int32 × Mu)) => (y.1, mput a h y.2))) (fun s => lX12_laysFar_15b a h s.2.2 s.1 s.2.1) (x1, x2, m)
noncomputable def gX12_laysFar_2b (m : Mu) (x1 : Int32) : Option ((Int32 × Mu) ⊕ (Int32 × Mu)) :=
  if x1 = 0 then (
  (gX12_laysFar_71 m ).map (fun q => .inr q)) else (
    gX12_laysFar_15 m (0 : Int32) ((m.1 33) - (1 : Int32)))
noncomputable def gX12_laysFar_2 (m : Mu) (x1 : Int32) : Option (Int32 × Mu) := lpw (σ := (Int32 × Mu)) (fun s => gX12_laysFar_2b s.2  s.1) (x1, m)
theorem lX12_laysFar_2b (a : Nat) (h : Hp) (m : Mu) (x1 : Int32) : fX12_laysFar_2b (mput a h m) a x1 = (gX12_laysFar_2b m x1).map (Sum.map (fun (s : (Int32 × Mu)) => (s.1, mput a h s.2)) (fun (y : (Int32 × Mu)) => (y.1, mput a h y.2))) := by
  unfold fX12_laysFar_2b gX12_laysFar_2b
  simp only [lX12_laysFar_71, lift_gI_33, lX12_laysFar_15, lift_lt, lift_gO, k_bs, k_mb, k_ms, k_bm, k_mm, k_il, k_ir, lift_ite, k_id]
theorem lX12_laysFar_2 (a : Nat) (h : Hp) (m : Mu) (x1 : Int32) : fX12_laysFar_2 (mput a h m) a x1 = (gX12_laysFar_2 m x1).map (fun (y : (Int32 × Mu)) => (y.1, mput a h y.2)) := by
  unfold fX12_laysFar_2 gX12_laysFar_2
  exact lpw_map _ _ (fun (s : (Int32 × Mu)) => (s.1, mput a h s.2)) (fun (y : (Int32 × Mu)) => (y.1, mput a h y.2)) (fun s => lX12_laysFar_2b a h s.2 s.1) (x1, m)
noncomputable def gX12_laysFar (m : Mu)  : Option (Int32 × Mu) :=
  gX12_laysFar_2 m (1 : Int32)
theorem lX12_laysFar (a : Nat) (h : Hp) (m : Mu)  : fX12_laysFar (mput a h m) a = (gX12_laysFar m ).map (fun (y : (Int32 × Mu)) => (y.1, mput a h y.2)) := by
  unfold fX12_laysFar gX12_laysFar
  simp only [lX12_laysFar_2, lift_lt, lift_gO, k_bs, k_mb, k_ms, k_bm, k_mm, k_il, k_ir, lift_ite, k_id]
noncomputable def gX12_laysMeeting_48 (m : Mu) (x1 : Int32) (x2 : Int32) (s1 : Int32) (s2 : Int32) : Option ((Int32 × Mu) ⊕ (Int32 × Mu)) :=
  (mW m 15 s1 s2).bind fun m6 =>
  some (.inl ((x2 + Int32.ofInt 1), m6))
theorem lX12_laysMeeting_48 (a : Nat) (h : Hp) (m : Mu) (x1 : Int32) (x2 : Int32) (s1 : Int32) (s2 : Int32) : fX12_laysMeeting_48 (mput a h m) a x1 x2 (a + 15) s1 s2 = (gX12_laysMeeting_48 m x1 x2 s1 s2).map (Sum.map (fun (s : (Int32 × Mu)) => (s.1, mput a h s.2)) (fun (y : (Int32 × Mu)) => (y.1, mput a h y.2))) := by
  unfold fX12_laysMeeting_48 gX12_laysMeeting_48
  simp only [lift_wI_15, lift_lt, lift_gO, k_bs, k_mb, k_ms, k_bm, k_mm, k_il, k_ir, lift_ite, k_id]
noncomputable def gX12_laysMeeting_7b (m : Mu) (x1 : Int32) (x2 : Int32) : Option ((Int32 × Mu) ⊕ (Int32 × Mu)) :=
  if (m.1 33) ≤ x2 then (
    (gX12_laysFar m ).bind fun y2 =>
    some (.inr (y2.1, y2.2))) else (
    (mA m 13 x2).bind fun v3 =>
    (mA m 13 x2).bind fun v4 =>
    (gX12_metIn m v4).bind fun y5 =>
    if (y5 &&& x1) = x1 then (
      gX12_laysMeeting_48 m x1 x2 v3 (0 : Int32)) else (
      gX12_laysMeeting_48 m x1 x2 v3 (268435456 : Int32)))
noncomputable def gX12_laysMeeting_7 (m : Mu) (x1 : Int32) (x2 : Int32) : Option (Int32 × Mu) := lpw (σ := (Int32 × Mu)) (fun s => gX12_laysMeeting_7b s.2 x1 s.1) (x2, m)
theorem lX12_laysMeeting_7b (a : Nat) (h : Hp) (m : Mu) (x1 : Int32) (x2 : Int32) : fX12_laysMeeting_7b (mput a h m) a x1 x2 = (gX12_laysMeeting_7b m x1 x2).map (Sum.map (fun (s : (Int32 × Mu)) => (s.1, mput a h s.2)) (fun (y : (Int32 × Mu)) => (y.1, mput a h y.2))) := by
  unfold fX12_laysMeeting_7b gX12_laysMeeting_7b
  simp only [lift_gI_33, lX12_laysFar, lift_gN_31, lift_gN_29, lift_aI_13, lX12_metIn, lX12_laysMeeting_48, lift_lt, lift_gO, k_bs, k_mb, k_ms, k_bm, k_mm, k_il, k_ir, lift_ite, k_id]
theorem lX12_laysMeeting_7 (a : Nat) (h : Hp) (m : Mu) (x1 : Int32) (x2 : Int32) : fX12_laysMeeting_7 (mput a h m) a x1 x2 = (gX12_laysMeeting_7 m x1 x2).map (fun (y : (Int32 × Mu)) => (y.1, mput a h y.2)) := by
  unfold fX12_laysMeeting_7 gX12_laysMeeting_7
  exact lpw_map _ _ (fun (s : (Int32 × Mu)) => (s.1, mput a h s.2)) (fun (y : (Int32 × Mu)) => (y.1, mput a h y.2)) (fun s => lX12_laysMeeting_7b a h s.2 x1 s.1) (x2, m)
noncomputable def gX12_laysMeeting (m : Mu) (x1 : Int32) : Option (Int32 × Mu) :=
  (gX12_laysStands m (0 : Int32)).bind fun y1 =>
  gX12_laysMeeting_7 y1 x1 (0 : Int32)
theorem lX12_laysMeeting (a : Nat) (h : Hp) (m : Mu) (x1 : Int32) : fX12_laysMeeting (mput a h m) a x1 = (gX12_laysMeeting m x1).map (fun (y : (Int32 × Mu)) => (y.1, mput a h y.2)) := by
  unfold fX12_laysMeeting gX12_laysMeeting
  simp only [lX12_laysStands, lX12_laysMeeting_7, lift_lt, lift_gO, k_bs, k_mb, k_ms, k_bm, k_mm, k_il, k_ir, lift_ite, k_id]
noncomputable def gX12_toldFar_12 (s0 : Int32) : Option Int32 :=
  some (s0)
theorem lX12_toldFar_12 (h : Hp) (s0 : Int32) : fX12_toldFar_12 h s0 = gX12_toldFar_12 s0 := by
  unfold fX12_toldFar_12 gX12_toldFar_12
  simp only [lift_lt, lift_gO, k_bs, k_mb, k_ms, k_bm, k_mm, k_il, k_ir, lift_ite, k_id]
noncomputable def gX12_toldFar (x0 : Int32) : Option Int32 :=
  if x0 = (268435456 : Int32) then (
    gX12_toldFar_12 (-1 : Int32)) else (
    gX12_toldFar_12 x0)
theorem lX12_toldFar (h : Hp) (x0 : Int32) : fX12_toldFar h x0 = gX12_toldFar x0 := by
  unfold fX12_toldFar gX12_toldFar
  simp only [lX12_toldFar_12, lift_lt, lift_gO, k_bs, k_mb, k_ms, k_bm, k_mm, k_il, k_ir, lift_ite, k_id]
noncomputable def gX12_soonest_26 (m : Mu) (s0 : Int32) : Option (Int32 × Mu) :=
  some ((s0, m))
theorem lX12_soonest_26 (a : Nat) (h : Hp) (m : Mu) (s0 : Int32) : fX12_soonest_26 (mput a h m) s0 = (gX12_soonest_26 m s0).map (fun (y : (Int32 × Mu)) => (y.1, mput a h y.2)) := by
  unfold fX12_soonest_26 gX12_soonest_26
  simp only [lift_lt, lift_gO, k_bs, k_mb, k_ms, k_bm, k_mm, k_il, k_ir, lift_ite, k_id]
noncomputable def gX12_soonest (m : Mu) (x1 : Int32) : Option (Int32 × Mu) :=
  lt (mI m 0 (0 : Int32)) fun m1 =>
  (gX12_isSet m1 x1).bind fun y2 =>
  if y2 = 0 then (
    gX12_soonest_26 m1 (-3 : Int32)) else (
    (gX12_laysMeeting m1 x1).bind fun y3 =>
    (gX12_toldFar y3.1).bind fun y4 =>
    gX12_soonest_26 y3.2 y4)
theorem lX12_soonest (a : Nat) (h : Hp) (m : Mu) (x1 : Int32) : fX12_soonest (mput a h m) a x1 = (gX12_soonest m x1).map (fun (y : (Int32 × Mu)) => (y.1, mput a h y.2)) := by
  unfold fX12_soonest gX12_soonest
  simp only [lift_sV_0, lX12_isSet, lX12_soonest_26, lX12_laysMeeting, lX12_toldFar, lift_lt, lift_gO, k_bs, k_mb, k_ms, k_bm, k_mm, k_il, k_ir, lift_ite, k_id]
