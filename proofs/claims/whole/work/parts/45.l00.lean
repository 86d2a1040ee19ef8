/-! the class over its own numbers -/
noncomputable def gX11_tapeFour_46 (h : Hp) (c : Ch)  : Option Ch :=
  some (c)
theorem lX11_tapeFour_46 (h : Hp) (c : Ch)  : fX11_tapeFour_46 (cput h c)  = (gX11_tapeFour_46 h c ).map (cput h) := by
  unfold fX11_tapeFour_46 gX11_tapeFour_46
  simp only [lift_lt, k_bs, k_mb, k_ms, k_bm, k_mm, k_il, k_ir, lift_ite, k_id]
noncomputable def gX11_tapeFour_3b (h : Hp) (c : Ch) (x1 : Int32) (x2 : Int32) : Option ((Int32 × Ch) ⊕ Ch) :=
  if x2 < 0 then (
  (gX11_tapeFour_46 h c ).map (fun q => .inr q)) else (
    if (900 : Int32) ≤ (c.1 80 1) then (
    (gX11_tapeFour_46 h c ).map (fun q => .inr q)) else (
      (cWA c 1 81 900 (c.1 80 1) ((x1 >>> (x2 &&& 31)).toInt8.toInt32)).bind fun c1 =>
      lt (cI c1 80 1 ((c1.1 80 1) + (1 : Int32))) fun c2 =>
      some (.inl ((x2 + Int32.ofInt (-8)), c2))))
noncomputable def gX11_tapeFour_3 (h : Hp) (c : Ch) (x1 : Int32) (x2 : Int32) : Option Ch := lpw (σ := (Int32 × Ch)) (fun s => gX11_tapeFour_3b h s.2 x1 s.1) (x2, c)
theorem lX11_tapeFour_3b (h : Hp) (c : Ch) (x1 : Int32) (x2 : Int32) : fX11_tapeFour_3b (cput h c) 80 x1 x2 = (gX11_tapeFour_3b h c x1 x2).map (Sum.map (fun (s : (Int32 × Ch)) => (s.1, cput h s.2)) (cput h)) := by
  unfold fX11_tapeFour_3b gX11_tapeFour_3b
  simp only [lX11_tapeFour_46, cgI_80_1, cgN_80_0, cwI_81, csI_80_1, lift_lt, k_bs, k_mb, k_ms, k_bm, k_mm, k_il, k_ir, lift_ite, k_id]
theorem lX11_tapeFour_3 (h : Hp) (c : Ch) (x1 : Int32) (x2 : Int32) : fX11_tapeFour_3 (cput h c) 80 x1 x2 = (gX11_tapeFour_3 h c x1 x2).map (cput h) := by
  unfold fX11_tapeFour_3 gX11_tapeFour_3
  exact lpw_map _ _ (fun (s : (Int32 × Ch)) => (s.1, cput h s.2)) (cput h) (fun s => lX11_tapeFour_3b h s.2 x1 s.1) (x2, c)
noncomputable def gX11_tapeFour (h : Hp) (c : Ch) (x1 : Int32) : Option Ch :=
  gX11_tapeFour_3 h c x1 (24 : Int32)
theorem lX11_tapeFour (h : Hp) (c : Ch) (x1 : Int32) : fX11_tapeFour (cput h c) 80 x1 = (gX11_tapeFour h c x1).map (cput h) := by
  unfold fX11_tapeFour gX11_tapeFour
  simp only [lX11_tapeFour_3, lift_lt, k_bs, k_mb, k_ms, k_bm, k_mm, k_il, k_ir, lift_ite, k_id]
noncomputable def gX11_feed (h : Hp) (c : Ch) (x1 : Int32) (x2 : Int32) (x3 : Int32) (x4 : Int32) (x5 : Int32) : Option (Int32 × Ch) :=
  if ((c.1 80 1) + (20 : Int32)) ≤ (900 : Int32) then (
    (gX11_tapeFour h c x1).bind fun y1 =>
    (gX11_tapeFour h y1 x2).bind fun y2 =>
    (gX11_tapeFour h y2 x3).bind fun y3 =>
    (gX11_tapeFour h y3 x4).bind fun y4 =>
    (gX11_tapeFour h y4 x5).bind fun y5 =>
    some (((y5.1 80 1), y5))) else (
    some (((-5 : Int32), c)))
theorem lX11_feed (h : Hp) (c : Ch) (x1 : Int32) (x2 : Int32) (x3 : Int32) (x4 : Int32) (x5 : Int32) : fX11_feed (cput h c) 80 x1 x2 x3 x4 x5 = (gX11_feed h c x1 x2 x3 x4 x5).map (fun (y : (Int32 × Ch)) => (y.1, cput h y.2)) := by
  unfold fX11_feed gX11_feed
  simp only [cgI_80_1, cgO_80, lX11_tapeFour, lift_lt, k_bs, k_mb, k_ms, k_bm, k_mm, k_il, k_ir, lift_ite, k_id]
noncomputable def gX11_fault_28 (h : Hp) (c : Ch) (s0 : Int32) : Option Int32 :=
  some (s0)
theorem lX11_fault_28 (h : Hp) (c : Ch) (s0 : Int32) : fX11_fault_28 (cput h c) s0 = gX11_fault_28 h c s0 := by
  unfold fX11_fault_28 gX11_fault_28
  simp only [lift_lt, k_bs, k_mb, k_ms, k_bm, k_mm, k_il, k_ir, lift_ite, k_id]
noncomputable def gX11_fault (h : Hp) (c : Ch) (x1 : Int32) : Option Int32 :=
  if x1 = 0 then (
    some ((c.1 82 5))) else (
    if x1 = (1 : Int32) then (
      gX11_fault_28 h c (c.1 82 6)) else (
      gX11_fault_28 h c (-1 : Int32)))
theorem lX11_fault (h : Hp) (c : Ch) (x1 : Int32) : fX11_fault (cput h c) 80 x1 = gX11_fault h c x1 := by
  unfold fX11_fault gX11_fault
  simp only [lX11_fault_28, cgN_80_2, cgI_82_6, cgI_82_5, lift_lt, k_bs, k_mb, k_ms, k_bm, k_mm, k_il, k_ir, lift_ite, k_id]
noncomputable def gX11_isPair_20 (h : Hp) (c : Ch) (s0 : Int32) : Option Int32 :=
  bl s0 (some (s0))
theorem lX11_isPair_20 (h : Hp) (c : Ch) (s0 : Int32) : fX11_isPair_20 (cput h c) s0 = gX11_isPair_20 h c s0 := by
  unfold fX11_isPair_20 gX11_isPair_20
  simp only [lift_bl, lift_lt, k_bs, k_mb, k_ms, k_bm, k_mm, k_il, k_ir, lift_ite, k_id]
noncomputable def gX11_isPair_19 (h : Hp) (c : Ch)  : Option Int32 :=
  gX11_isPair_20 h c (0 : Int32)
theorem lX11_isPair_19 (h : Hp) (c : Ch)  : fX11_isPair_19 (cput h c)  = gX11_isPair_19 h c  := by
  unfold fX11_isPair_19 gX11_isPair_19
  simp only [lX11_isPair_20, lift_lt, k_bs, k_mb, k_ms, k_bm, k_mm, k_il, k_ir, lift_ite, k_id]
noncomputable def gX11_isPair (h : Hp) (c : Ch) (x1 : Int32) : Option Int32 :=
  if x1 < 0 then (
  gX11_isPair_19 h c ) else (
    (c.2.2.1 80 3).bind fun v1 =>
    (gI (cput h c) 0 v1 0).bind fun v2 =>
    if v2 ≤ x1 then (
    gX11_isPair_19 h c ) else (
      gX11_isPair_20 h c (1 : Int32)))
theorem lX11_isPair (h : Hp) (c : Ch) (x1 : Int32) : fX11_isPair (cput h c) 80 x1 = gX11_isPair h c x1 := by
  unfold fX11_isPair gX11_isPair
  simp only [lX11_isPair_19, cgN_80_3, lX11_isPair_20, lift_lt, k_bs, k_mb, k_ms, k_bm, k_mm, k_il, k_ir, lift_ite, k_id]
noncomputable def gX11_digit_23 (s0 : Int32) : Option Int32 :=
  some (s0)
theorem lX11_digit_23 (h : Hp) (s0 : Int32) : fX11_digit_23 h s0 = gX11_digit_23 s0 := by
  unfold fX11_digit_23 gX11_digit_23
  simp only [lift_lt, k_bs, k_mb, k_ms, k_bm, k_mm, k_il, k_ir, lift_ite, k_id]
noncomputable def gX11_digit_9  : Option Int32 :=
  gX11_digit_23 (0 : Int32)
theorem lX11_digit_9 (h : Hp)  : fX11_digit_9 h  = gX11_digit_9  := by
  unfold fX11_digit_9 gX11_digit_9
  simp only [lX11_digit_23, lift_lt, k_bs, k_mb, k_ms, k_bm, k_mm, k_il, k_ir, lift_ite, k_id]
noncomputable def gX11_digit (x0 : Int32) (x1 : Int32) : Option Int32 :=
  if x1 < 0 then (
  gX11_digit_9 ) else (
    if x1 < (4 : Int32) then (
      (tT 1 x1).bind fun v1 =>
      (dv x0 v1).bind fun v2 =>
      (rm v2 (10 : Int32)).bind fun v3 =>
      gX11_digit_23 v3) else (
    gX11_digit_9 ))
theorem lX11_digit (h : Hp) (x0 : Int32) (x1 : Int32) : fX11_digit h x0 x1 = gX11_digit x0 x1 := by
  unfold fX11_digit gX11_digit
  simp only [lX11_digit_9, lX11_digit_23, lift_lt, k_bs, k_mb, k_ms, k_bm, k_mm, k_il, k_ir, lift_ite, k_id]
noncomputable def gX11_dropsOf_22 (s0 : Int32) : Option Int32 :=
  some (s0)
theorem lX11_dropsOf_22 (h : Hp) (s0 : Int32) : fX11_dropsOf_22 h s0 = gX11_dropsOf_22 s0 := by
  unfold fX11_dropsOf_22 gX11_dropsOf_22
  simp only [lift_lt, k_bs, k_mb, k_ms, k_bm, k_mm, k_il, k_ir, lift_ite, k_id]
noncomputable def gX11_dropsOf_9  : Option Int32 :=
  gX11_dropsOf_22 (0 : Int32)
theorem lX11_dropsOf_9 (h : Hp)  : fX11_dropsOf_9 h  = gX11_dropsOf_9  := by
  unfold fX11_dropsOf_9 gX11_dropsOf_9
  simp only [lX11_dropsOf_22, lift_lt, k_bs, k_mb, k_ms, k_bm, k_mm, k_il, k_ir, lift_ite, k_id]
noncomputable def gX11_dropsOf (x0 : Int32) (x1 : Int32) : Option Int32 :=
  if x1 < 0 then (
  gX11_dropsOf_9 ) else (
    if x1 < (4 : Int32) then (
      (tT 2 x1).bind fun v1 =>
      (dv x0 v1).bind fun v2 =>
      (rm v2 (5 : Int32)).bind fun v3 =>
      gX11_dropsOf_22 v3) else (
    gX11_dropsOf_9 ))
theorem lX11_dropsOf (h : Hp) (x0 : Int32) (x1 : Int32) : fX11_dropsOf h x0 x1 = gX11_dropsOf x0 x1 := by
  unfold fX11_dropsOf gX11_dropsOf
  simp only [lX11_dropsOf_9, lX11_dropsOf_22, lift_lt, k_bs, k_mb, k_ms, k_bm, k_mm, k_il, k_ir, lift_ite, k_id]
noncomputable def gX11_pair (h : Hp) (c : Ch) (x1 : Int32) (x2 : Int32) : Option Int32 :=
  (gX11_isPair h c x1).bind fun y1 =>
  if y1 = 0 then (
    some ((-2 : Int32))) else (
    if x2 = 0 then (
      (gX11_digit (c.1 (sadr 0) 0) x1).bind fun y2 =>
      some (y2)) else (
  if x2 = 1 then (
      (gX11_digit (c.1 (sadr 0) 1) x1).bind fun y3 =>
      some (y3)) else (
  if x2 = 2 then (
      (gX11_dropsOf (c.1 (sadr 0) 2) x1).bind fun y4 =>
      some (y4)) else (
  if x2 = 3 then (
      (c.2.2.1 80 3).bind fun v5 =>
      (gI (cput h c) 0 v5 4).bind fun v6 =>
      (gX11_digit v6 x1).bind fun y7 =>
      some (y7)) else (
      some ((-2 : Int32)))))))
theorem lX11_pair (h : Hp) (c : Ch) (x1 : Int32) (x2 : Int32) : fX11_pair (cput h c) 80 x1 x2 = gX11_pair h c x1 x2 := by
  unfold fX11_pair gX11_pair
  simp only [cgO_80, lX11_isPair, cgN_80_4, cgI_s_0, lX11_digit, cgI_s_1, cgI_s_2, lX11_dropsOf, cgN_80_3, lift_lt, k_bs, k_mb, k_ms, k_bm, k_mm, k_il, k_ir, lift_ite, k_id]
noncomputable def gX11_isDryness_14 (s0 : Int32) : Option Int32 :=
  bl s0 (some (s0))
theorem lX11_isDryness_14 (h : Hp) (s0 : Int32) : fX11_isDryness_14 h s0 = gX11_isDryness_14 s0 := by
  unfold fX11_isDryness_14 gX11_isDryness_14
  simp only [lift_bl, lift_lt, k_bs, k_mb, k_ms, k_bm, k_mm, k_il, k_ir, lift_ite, k_id]
noncomputable def gX11_isDryness_9  : Option Int32 :=
  gX11_isDryness_14 (1 : Int32)
theorem lX11_isDryness_9 (h : Hp)  : fX11_isDryness_9 h  = gX11_isDryness_9  := by
  unfold fX11_isDryness_9 gX11_isDryness_9
  simp only [lX11_isDryness_14, lift_lt, k_bs, k_mb, k_ms, k_bm, k_mm, k_il, k_ir, lift_ite, k_id]
noncomputable def gX11_isDryness (x0 : Int32) : Option Int32 :=
  if x0 = 0 then (
  gX11_isDryness_9 ) else (
    if x0 = (1 : Int32) then (
    gX11_isDryness_9 ) else (
      gX11_isDryness_14 (0 : Int32)))
theorem lX11_isDryness (h : Hp) (x0 : Int32) : fX11_isDryness h x0 = gX11_isDryness x0 := by
  unfold fX11_isDryness gX11_isDryness
  simp only [lX11_isDryness_9, lX11_isDryness_14, lift_lt, k_bs, k_mb, k_ms, k_bm, k_mm, k_il, k_ir, lift_ite, k_id]
noncomputable def gX1_tune_60 (h : Hp) (c : Ch) (x1 : Nat) (x2 : Int32) : Option Ch :=
  lt (cR c 108 5 (some x1)) fun c6 =>
  lt (cI c6 108 6 x2) fun c7 =>
  some (c7)
theorem lX1_tune_60 (h : Hp) (c : Ch) (x1 : Nat) (x2 : Int32) : fX1_tune_60 (cput h c) 108 x1 x2 = (gX1_tune_60 h c x1 x2).map (cput h) := by
  unfold fX1_tune_60 gX1_tune_60
  simp only [csR_108_5, csI_108_6, lift_lt, k_bs, k_mb, k_ms, k_bm, k_mm, k_il, k_ir, lift_ite, k_id]
noncomputable def gX1_tune_42 (h : Hp) (c : Ch) (x1 : Nat) (x2 : Int32) : Option Ch :=
  (c.2.2.1 108 5).bind fun v3 =>
  (gR (cput h c) 0 v3 7).bind fun v4 =>
  match v4 with
  | none => (
  gX1_tune_60 h c x1 x2)
  | some n5 => (
    (gfill_111 c (0 : Int32)).bind fun y8 =>
    gX1_tune_60 h y8 x1 x2)
theorem lX1_tune_42 (h : Hp) (c : Ch) (x1 : Nat) (x2 : Int32) : fX1_tune_42 (cput h c) 108 x1 x2 = (gX1_tune_42 h c x1 x2).map (cput h) := by
  unfold fX1_tune_42 gX1_tune_42
  simp only [cgN_108_5, lX1_tune_60, cgN_108_2, lfill_111, lift_lt, k_bs, k_mb, k_ms, k_bm, k_mm, k_il, k_ir, lift_ite, k_id]
  repeat' (first | with_reducible rfl | refine k_bcO ?_ (fun _ => ?_) | refine k_bc (fun _ => ?_) | refine k_ic ?_ ?_ | simp only [cgN_108_5, lX1_tune_60, cgN_108_2, lfill_111, lift_lt, k_bs, k_mb, k_ms, k_bm, k_mm, k_il, k_ir, lift_ite, k_id] | split)
noncomputable def gX1_tune_26 (h : Hp) (c : Ch) (x1 : Nat) (x2 : Int32) : Option Ch :=
  (c.2.2.1 108 5).bind fun v2 =>
  gH2 (some v2) (some x1) (if (some v2) = (some x1) then (
    if (c.1 108 6) = x2 then (
    gX1_tune_60 h c x1 x2) else (
    gX1_tune_42 h c x1 x2)) else (
  gX1_tune_42 h c x1 x2))
theorem lX1_tune_26 (h : Hp) (c : Ch) (x1 : Nat) (x2 : Int32) : fX1_tune_26 (cput h c) 108 x1 x2 = (gX1_tune_26 h c x1 x2).map (cput h) := by
  unfold fX1_tune_26 gX1_tune_26
  simp only [cgN_108_5, lX1_tune_42, cgI_108_6, lX1_tune_60, lift_gH2, lift_lt, k_bs, k_mb, k_ms, k_bm, k_mm, k_il, k_ir, lift_ite, k_id]
noncomputable def gX1_tune (h : Hp) (c : Ch) (x1 : Nat) (x2 : Int32) : Option Ch :=
  (c.2.2.1 108 5).bind fun v1 =>
  gH2 (some v1) (some x1) (if (some v1) = (some x1) then (
  gX1_tune_26 h c x1 x2) else (
    (c.2.2.1 108 5).bind fun v9 =>
    (gR (cput h c) 0 v9 8).bind fun v10 =>
    match v10 with
    | none => (
    gX1_tune_26 h c x1 x2)
    | some n11 => (
      (gfill_112 c (0 : Int32)).bind fun y12 =>
      gX1_tune_26 h y12 x1 x2)))
theorem lX1_tune (h : Hp) (c : Ch) (x1 : Nat) (x2 : Int32) : fX1_tune (cput h c) 108 x1 x2 = (gX1_tune h c x1 x2).map (cput h) := by
  unfold fX1_tune gX1_tune
  simp only [cgN_108_5, lX1_tune_26, cgN_108_3, lfill_112, lift_gH2, lift_lt, k_bs, k_mb, k_ms, k_bm, k_mm, k_il, k_ir, lift_ite, k_id]
  repeat' (first | with_reducible rfl | refine k_bcO ?_ (fun _ => ?_) | refine k_bc (fun _ => ?_) | refine k_ic ?_ ?_ | simp only [cgN_108_5, lX1_tune_26, cgN_108_3, lfill_112, lift_gH2, lift_lt, k_bs, k_mb, k_ms, k_bm, k_mm, k_il, k_ir, lift_ite, k_id] | split)
noncomputable def gX11_tuned (h : Hp) (c : Ch)  : Option Ch :=
  (c.2.2.1 80 3).bind fun v1 =>
  (gX1_tune h c v1 (c.1 (sadr 0) 1)).bind fun y2 =>
  some (y2)
theorem lX11_tuned (h : Hp) (c : Ch)  : fX11_tuned (cput h c) 80 = (gX11_tuned h c ).map (fun (y : Ch) => ((108 : Nat), cput h y)) := by
  unfold fX11_tuned gX11_tuned
  simp only [cgN_80_11, cgN_80_3, cgN_80_4, cgI_s_1, cgO_108, lX1_tune, lift_lt, k_bs, k_mb, k_ms, k_bm, k_mm, k_il, k_ir, lift_ite, k_id]
noncomputable def gX1_know (h : Hp) (c : Ch) (x1 : Int32) (x2 : Int32) : Option Ch :=
  (fX3_placeOf (cput h c) x1).bind fun y1 =>
  (cWA c 0 109 8 y1 x2).bind fun c2 =>
  some (c2)
theorem lX1_know (h : Hp) (c : Ch) (x1 : Int32) (x2 : Int32) : fX1_know (cput h c) 108 x1 x2 = (gX1_know h c x1 x2).map (cput h) := by
  unfold fX1_know gX1_know
  simp only [cgN_108_0, cwI_109, lift_lt, k_bs, k_mb, k_ms, k_bm, k_mm, k_il, k_ir, lift_ite, k_id]
noncomputable def gX3_tell_190 (h : Hp) (c : Ch) (s0 : Int32) : Option (Int32 × Ch) :=
  some ((s0, c))
theorem lX3_tell_190 (h : Hp) (c : Ch) (s0 : Int32) : fX3_tell_190 (cput h c) s0 = (gX3_tell_190 h c s0).map (fun (y : (Int32 × Ch)) => (y.1, cput h y.2)) := by
  unfold fX3_tell_190 gX3_tell_190
  simp only [lift_lt, k_bs, k_mb, k_ms, k_bm, k_mm, k_il, k_ir, lift_ite, k_id]
noncomputable def gX3_tell_178 (h : Hp) (c : Ch) (x3 : Int32) : Option (Int32 × Ch) :=
  if x3 = (1 : Int32) then (
    (cA c 110 64 (0 : Int32)).bind fun v3 =>
    gX3_tell_190 h c v3) else (
    gX3_tell_190 h c (0 : Int32))
theorem lX3_tell_178 (h : Hp) (c : Ch) (x3 : Int32) : fX3_tell_178 (cput h c) 110 x3 = (gX3_tell_178 h c x3).map (fun (y : (Int32 × Ch)) => (y.1, cput h y.2)) := by
  unfold fX3_tell_178 gX3_tell_178
  simp only [lX3_tell_190, caI_110, lift_lt, k_bs, k_mb, k_ms, k_bm, k_mm, k_il, k_ir, lift_ite, k_id]
noncomputable def gX3_tell_53 (h : Hp) (c : Ch)  : Option (Int32 × Ch) :=
  some (((0 : Int32), c))
theorem lX3_tell_53 (h : Hp) (c : Ch)  : fX3_tell_53 (cput h c)  = (gX3_tell_53 h c ).map (fun (y : (Int32 × Ch)) => (y.1, cput h y.2)) := by
  unfold fX3_tell_53 gX3_tell_53
  simp only [lift_lt, k_bs, k_mb, k_ms, k_bm, k_mm, k_il, k_ir, lift_ite, k_id]
noncomputable def gX3_tell_169 (h : Hp) (c : Ch) (x0 : Nat) (x3 : Int32) (x4 : Int32) : Option ((Int32 × Int32 × Ch) ⊕ (Int32 × Ch)) :=
  some (.inl ((x3 + Int32.ofInt 1), (x4 + Int32.ofInt 1), c))
theorem lX3_tell_169 (h : Hp) (c : Ch) (x0 : Nat) (x3 : Int32) (x4 : Int32) : fX3_tell_169 (cput h c) x0 109 110 x3 x4 = (gX3_tell_169 h c x0 x3 x4).map (Sum.map (fun (s : (Int32 × Int32 × Ch)) => (s.1, s.2.1, cput h s.2.2)) (fun (y : (Int32 × Ch)) => (y.1, cput h y.2))) := by
  unfold fX3_tell_169 gX3_tell_169
  simp only [lift_lt, k_bs, k_mb, k_ms, k_bm, k_mm, k_il, k_ir, lift_ite, k_id]
noncomputable def gX3_tell_147 (h : Hp) (c : Ch) (x0 : Nat) (x3 : Int32) (x4 : Int32) (s1 : Int32) (s2 : Int32) : Option ((Int32 × Int32 × Ch) ⊕ (Int32 × Ch)) :=
  (cWA c 0 110 64 s1 s2).bind fun c14 =>
  gX3_tell_169 h c14 x0 x3 x4
theorem lX3_tell_147 (h : Hp) (c : Ch) (x0 : Nat) (x3 : Int32) (x4 : Int32) (s1 : Int32) (s2 : Int32) : fX3_tell_147 (cput h c) x0 109 110 x3 x4 110 s1 s2 = (gX3_tell_147 h c x0 x3 x4 s1 s2).map (Sum.map (fun (s : (Int32 × Int32 × Ch)) => (s.1, s.2.1, cput h s.2.2)) (fun (y : (Int32 × Ch)) => (y.1, cput h y.2))) := by
  unfold fX3_tell_147 gX3_tell_147
  simp only [cwI_110, lX3_tell_169, lift_lt, k_bs, k_mb, k_ms, k_bm, k_mm, k_il, k_ir, lift_ite, k_id]
noncomputable def gX3_tell_96 (h : Hp) (c : Ch) (x0 : Nat) (x3 : Int32) (x4 : Int32) (s1 : Int32) (s2 : Int32) : Option ((Int32 × Int32 × Ch) ⊕ (Int32 × Ch)) :=
  (cWA c 0 110 64 s1 s2).bind fun c19 =>
  gX3_tell_169 h c19 x0 x3 x4
theorem lX3_tell_96 (h : Hp) (c : Ch) (x0 : Nat) (x3 : Int32) (x4 : Int32) (s1 : Int32) (s2 : Int32) : fX3_tell_96 (cput h c) x0 109 110 x3 x4 110 s1 s2 = (gX3_tell_96 h c x0 x3 x4 s1 s2).map (Sum.map (fun (s : (Int32 × Int32 × Ch)) => (s.1, s.2.1, cput h s.2.2)) (fun (y : (Int32 × Ch)) => (y.1, cput h y.2))) := by
  unfold fX3_tell_96 gX3_tell_96
  simp only [cwI_110, lX3_tell_169, lift_lt, k_bs, k_mb, k_ms, k_bm, k_mm, k_il, k_ir, lift_ite, k_id]
noncomputable def gX3_tell_5b (h : Hp) (c : Ch) (x0 : Nat) (x3 : Int32) (x4 : Int32) : Option ((Int32 × Int32 × Ch) ⊕ (Int32 × Ch)) :=
  (gN (cput h c) 3 x0 0).bind fun v1 =>
  (aL (cput h c) v1).bind fun v2 =>
  if v2 ≤ x4 then (
  (gX3_tell_178 h c x3).map (fun q => .inr q)) else (
    (gN (cput h c) 3 x0 0).bind fun v4 =>
    (aI 0 (cput h c) v4 x4).bind fun v5 =>
    (fX3_takes (cput h c) v5).bind fun y6 =>
    if (x3 - y6) < 0 then (
    (gX3_tell_53 h c ).map (fun q => .inr q)) else (
      if ((x3 - y6) + (imax y6 (1 : Int32))) ≤ (Int32.ofNat 64) then (
        if v5 < 0 then (
          if y6 = 0 then (
            (fX3_placeOf (cput h c) v5).bind fun y18 =>
            if (Int32.ofNat 8) ≤ y18 then (
              gX3_tell_96 h c x0 (x3 - y6) x4 (x3 - y6) (0 : Int32)) else (
              (fX3_placeOf (cput h c) v5).bind fun y20 =>
              (cA c 109 8 y20).bind fun v21 =>
              gX3_tell_96 h c x0 (x3 - y6) x4 (x3 - y6) v21)) else (
            if v5 = (-19 : Int32) then (
              (cA c 110 64 (x3 - y6)).bind fun v16 =>
              (cWA c 0 110 64 (x3 - y6) ((1 : Int32) - v16)).bind fun c17 =>
              gX3_tell_169 h c17 x0 (x3 - y6) x4) else (
              if v5 = (-20 : Int32) then (
                (cA c 110 64 (x3 - y6)).bind fun v12 =>
                if v12 = (1 : Int32) then (
                  (cA c 110 64 ((x3 - y6) + (1 : Int32))).bind fun v15 =>
                  gX3_tell_147 h c x0 (x3 - y6) x4 (x3 - y6) v15) else (
                  (cA c 110 64 ((x3 - y6) + (2 : Int32))).bind fun v13 =>
                  gX3_tell_147 h c x0 (x3 - y6) x4 (x3 - y6) v13)) else (
                (cA c 110 64 (x3 - y6)).bind fun v8 =>
                (cA c 110 64 ((x3 - y6) + (1 : Int32))).bind fun v9 =>
                (fX3_join (cput h c) v5 (v8.toInt64) (v9.toInt64)).bind fun y10 =>
                (cWA c 0 110 64 (x3 - y6) y10).bind fun c11 =>
                gX3_tell_169 h c11 x0 (x3 - y6) x4)))) else (
          (cWA c 0 110 64 (x3 - y6) v5).bind fun c22 =>
          gX3_tell_169 h c22 x0 (x3 - y6) x4)) else (
      (gX3_tell_53 h c ).map (fun q => .inr q))))
noncomputable def gX3_tell_5 (h : Hp) (c : Ch) (x0 : Nat) (x3 : Int32) (x4 : Int32) : Option (Int32 × Ch) := lpw (σ := (Int32 × Int32 × Ch)) (fun s => gX3_tell_5b h s.2.2 x0 s.1 s.2.1) (x3, x4, c)
theorem lX3_tell_5b (h : Hp) (c : Ch) (x0 : Nat) (x3 : Int32) (x4 : Int32) : fX3_tell_5b (cput h c) x0 109 110 x3 x4 = (gX3_tell_5b h c x0 x3 x4).map (Sum.map (fun (s : (Int32 × Int32 × Ch)) => (s.1, s.2.1, cput h s.2.2)) (fun (y : (Int32 × Ch)) => (y.1, cput h y.2))) := by
  unfold fX3_tell_5b gX3_tell_5b
  simp only [lX3_tell_178, lX3_tell_53, caL_110, caI_110, cwI_110, lX3_tell_169, lX3_tell_147, caL_109, lX3_tell_96, caI_109, lift_lt, k_bs, k_mb, k_ms, k_bm, k_mm, k_il, k_ir, lift_ite, k_id]
theorem lX3_tell_5 (h : Hp) (c : Ch) (x0 : Nat) (x3 : Int32) (x4 : Int32) : fX3_tell_5 (cput h c) x0 109 110 x3 x4 = (gX3_tell_5 h c x0 x3 x4).map (fun (y : (Int32 × Ch)) => (y.1, cput h y.2)) := by
  unfold fX3_tell_5 gX3_tell_5
  exact lpw_map _ _ (fun (s : (Int32 × Int32 × Ch)) => (s.1, s.2.1, cput h s.2.2)) (fun (y : (Int32 × Ch)) => (y.1, cput h y.2)) (fun s => lX3_tell_5b h s.2.2 x0 s.1 s.2.1) (x3, x4, c)
noncomputable def gX3_tell (h : Hp) (c : Ch) (x0 : Nat) : Option (Int32 × Ch) :=
  gX3_tell_5 h c x0 (0 : Int32) (0 : Int32)
theorem lX3_tell (h : Hp) (c : Ch) (x0 : Nat) : fX3_tell (cput h c) x0 109 110 = (gX3_tell h c x0).map (fun (y : (Int32 × Ch)) => (y.1, cput h y.2)) := by
  unfold fX3_tell gX3_tell
  simp only [lX3_tell_5, lift_lt, k_bs, k_mb, k_ms, k_bm, k_mm, k_il, k_ir, lift_ite, k_id]
noncomputable def gX1_growth_21 (h : Hp) (c : Ch) (s0 : Int32) : Option (Int32 × Ch) :=
  some ((s0, c))
theorem lX1_growth_21 (h : Hp) (c : Ch) (s0 : Int32) : fX1_growth_21 (cput h c) s0 = (gX1_growth_21 h c s0).map (fun (y : (Int32 × Ch)) => (y.1, cput h y.2)) := by
  unfold fX1_growth_21 gX1_growth_21
  simp only [lift_lt, k_bs, k_mb, k_ms, k_bm, k_mm, k_il, k_ir, lift_ite, k_id]
noncomputable def gX1_growth_59 (h : Hp) (c : Ch)  : Option (Int32 × Ch) :=
  some (((0 : Int32), c))
theorem lX1_growth_59 (h : Hp) (c : Ch)  : fX1_growth_59 (cput h c)  = (gX1_growth_59 h c ).map (fun (y : (Int32 × Ch)) => (y.1, cput h y.2)) := by
  unfold fX1_growth_59 gX1_growth_59
  simp only [lift_lt, k_bs, k_mb, k_ms, k_bm, k_mm, k_il, k_ir, lift_ite, k_id]
noncomputable def gX1_growth_164 (h : Hp) (c : Ch) (x6 : Int32) : Option (Int32 × Ch) :=
  (cA c 111 2000 x6).bind fun v6 =>
  some (((v6 - (10 : Int32)), c))
theorem lX1_growth_164 (h : Hp) (c : Ch) (x6 : Int32) : fX1_growth_164 (cput h c) 108 x6 = (gX1_growth_164 h c x6).map (fun (y : (Int32 × Ch)) => (y.1, cput h y.2)) := by
  unfold fX1_growth_164 gX1_growth_164
  simp only [cgN_108_2, caI_111, lift_lt, k_bs, k_mb, k_ms, k_bm, k_mm, k_il, k_ir, lift_ite, k_id]
noncomputable def gX1_growth (h : Hp) (c : Ch) (x1 : Int32) (x2 : Int32) (x3 : Int32) (x4 : Int32) (x5 : Int32) : Option (Int32 × Ch) :=
  (c.2.2.1 108 5).bind fun v1 =>
  (gR (cput h c) 0 v1 7).bind fun v2 =>
  match v2 with
  | none => (
    if x5 = (1 : Int32) then (
      gX1_growth_21 h c (0 : Int32)) else (
      gX1_growth_21 h c x2))
  | some n3 => (
    lt ((((((x4 * (4 : Int32)) + x1) * (5 : Int32)) + x2) * (10 : Int32)) + x3) fun w4 =>
    if ((w4 * (2 : Int32)) + x5) < 0 then (
    gX1_growth_59 h c ) else (
      if ((w4 * (2 : Int32)) + x5) < (Int32.ofNat 2000) then (
        (cA c 111 2000 ((w4 * (2 : Int32)) + x5)).bind fun v5 =>
        if v5 = 0 then (
          (gX1_know h c (-1 : Int32) x4).bind fun y7 =>
          (gX1_know h y7 (-2 : Int32) x5).bind fun y8 =>
          (gX1_know h y8 (-3 : Int32) x1).bind fun y9 =>
          (gX11_digit (y9.1 108 6) x1).bind fun y10 =>
          (gX1_know h y9 (-4 : Int32) y10).bind fun y11 =>
          (gX1_know h y11 (-5 : Int32) x2).bind fun y12 =>
          (gX1_know h y12 (-6 : Int32) x3).bind fun y13 =>
          (y13.2.2.1 108 5).bind fun v14 =>
          (gR (cput h y13) 0 v14 7).bind fun v15 =>
          (v15).bind fun n16 =>
          gO (cput h y13) 3 n16 (
          (gX3_tell h y13 n16).bind fun y17 =>
          (cWA y17.2 1 111 2000 ((w4 * (2 : Int32)) + x5) (((10 : Int32) + (imax (-9 : Int32) (imin (9 : Int32) y17.1))).toInt8.toInt32)).bind fun c20 =>
          gX1_growth_164 h c20 ((w4 * (2 : Int32)) + x5))) else (
        gX1_growth_164 h c ((w4 * (2 : Int32)) + x5))) else (
      gX1_growth_59 h c )))
theorem lX1_growth (h : Hp) (c : Ch) (x1 : Int32) (x2 : Int32) (x3 : Int32) (x4 : Int32) (x5 : Int32) : fX1_growth (cput h c) 108 x1 x2 x3 x4 x5 = (gX1_growth h c x1 x2 x3 x4 x5).map (fun (y : (Int32 × Ch)) => (y.1, cput h y.2)) := by
  unfold fX1_growth gX1_growth
  simp only [cgN_108_5, lX1_growth_21, lX1_growth_59, cgN_108_2, caL_111, caI_111, lX1_growth_164, cgO_108, lX1_know, cgI_108_6, lX11_digit, cgN_108_0, cgN_108_1, lift_gOm, lX3_tell, cwI_111, lift_lt, k_bs, k_mb, k_ms, k_bm, k_mm, k_il, k_ir, lift_ite, k_id]
  repeat' (first | with_reducible rfl | refine k_bcO ?_ (fun _ => ?_) | refine k_bc (fun _ => ?_) | refine k_ic ?_ ?_ | simp only [cgN_108_5, lX1_growth_21, lX1_growth_59, cgN_108_2, caL_111, caI_111, lX1_growth_164, cgO_108, lX1_know, cgI_108_6, lX11_digit, cgN_108_0, cgN_108_1, lift_gOm, lX3_tell, cwI_111, lift_lt, k_bs, k_mb, k_ms, k_bm, k_mm, k_il, k_ir, lift_ite, k_id] | split)
noncomputable def gX11_grown_27 (h : Hp) (c : Ch)  : Option (Int32 × Ch) :=
  some (((-99000003 : Int32), c))
theorem lX11_grown_27 (h : Hp) (c : Ch)  : fX11_grown_27 (cput h c)  = (gX11_grown_27 h c ).map (fun (y : (Int32 × Ch)) => (y.1, cput h y.2)) := by
  unfold fX11_grown_27 gX11_grown_27
  simp only [lift_lt, k_bs, k_mb, k_ms, k_bm, k_mm, k_il, k_ir, lift_ite, k_id]
noncomputable def gX11_grown_78 (h : Hp) (c : Ch) (s0 : Int32) : Option (Int32 × Ch) :=
  some ((s0, c))
theorem lX11_grown_78 (h : Hp) (c : Ch) (s0 : Int32) : fX11_grown_78 (cput h c) s0 = (gX11_grown_78 h c s0).map (fun (y : (Int32 × Ch)) => (y.1, cput h y.2)) := by
  unfold fX11_grown_78 gX11_grown_78
  simp only [lift_lt, k_bs, k_mb, k_ms, k_bm, k_mm, k_il, k_ir, lift_ite, k_id]
noncomputable def gX11_grown (h : Hp) (c : Ch) (x1 : Int32) (x2 : Int32) (x3 : Int32) : Option (Int32 × Ch) :=
  (gX11_isPair h c x1).bind fun y1 =>
  if y1 = 0 then (
    some (((-99000002 : Int32), c))) else (
    if x2 < 0 then (
    gX11_grown_27 h c ) else (
      if (4 : Int32) < x2 then (
      gX11_grown_27 h c ) else (
        (gX11_isDryness x3).bind fun y2 =>
        if y2 = 0 then (
        gX11_grown_27 h c ) else (
          (gX11_digit (c.1 (sadr 0) 0) x1).bind fun y3 =>
          if y3 = 0 then (
            gX11_grown_78 h c (0 : Int32)) else (
            (gX11_tuned h c ).bind fun y4 =>
            (y4.2.2.1 80 3).bind fun v5 =>
            gO (cput h y4) 0 v5 (
            (fX0_metCount (cput h y4) v5 (y4.1 (sadr 0) 0)).bind fun y6 =>
            (gX1_growth h y4 x1 x2 y3 y6 x3).bind fun y7 =>
            gX11_grown_78 h y7.2 y7.1))))))
theorem lX11_grown (h : Hp) (c : Ch) (x1 : Int32) (x2 : Int32) (x3 : Int32) : fX11_grown (cput h c) 80 x1 x2 x3 = (gX11_grown h c x1 x2 x3).map (fun (y : (Int32 × Ch)) => (y.1, cput h y.2)) := by
  unfold fX11_grown gX11_grown
  simp only [cgO_80, lX11_isPair, lX11_grown_27, lX11_isDryness, cgN_80_4, cgI_s_0, lX11_digit, lX11_tuned, cgN_80_3, lift_gOm, cgO_108, lX1_growth, lX11_grown_78, lift_lt, k_bs, k_mb, k_ms, k_bm, k_mm, k_il, k_ir, lift_ite, k_id]
noncomputable def gX11_leadings (h : Hp) (c : Ch)  : Option Int32 :=
  (c.2.2.1 80 3).bind fun v1 =>
  (gN (cput h c) 0 v1 9).bind fun v2 =>
  (aL (cput h c) v2).bind fun v3 =>
  some (v3)
theorem lX11_leadings (h : Hp) (c : Ch)  : fX11_leadings (cput h c) 80 = gX11_leadings h c  := by
  unfold fX11_leadings gX11_leadings
  simp only [cgN_80_3, lift_lt, k_bs, k_mb, k_ms, k_bm, k_mm, k_il, k_ir, lift_ite, k_id]
noncomputable def gX8_copy (h : Hp) (c : Ch) (x0 : Nat) (x1 : Nat) : Option Ch :=
  lt (cI c (sadr x0) 0 (c.1 (sadr x1) 0)) fun c1 =>
  lt (cI c1 (sadr x0) 1 (c1.1 (sadr x1) 1)) fun c2 =>
  lt (cI c2 (sadr x0) 2 (c2.1 (sadr x1) 2)) fun c3 =>
  lt (cI c3 (sadr x0) 3 (c3.1 (sadr x1) 3)) fun c4 =>
  some (c4)
theorem lX8_copy (h : Hp) (c : Ch) (x0 : Nat) (x1 : Nat) : fX8_copy (cput h c) (sadr x0) (sadr x1) = (gX8_copy h c x0 x1).map (cput h) := by
  unfold fX8_copy gX8_copy
  simp only [cgI_s_0, csI_s_0, cgI_s_1, csI_s_1, cgI_s_2, csI_s_2, cgI_s_3, csI_s_3, lift_lt, k_bs, k_mb, k_ms, k_bm, k_mm, k_il, k_ir, lift_ite, k_id]
noncomputable def gX1_kept_14 (s0 : Int32) : Option Int32 :=
  some (s0)
theorem lX1_kept_14 (h : Hp) (s0 : Int32) : fX1_kept_14 h s0 = gX1_kept_14 s0 := by
  unfold fX1_kept_14 gX1_kept_14
  simp only [lift_lt, k_bs, k_mb, k_ms, k_bm, k_mm, k_il, k_ir, lift_ite, k_id]
noncomputable def gX1_kept (x0 : Int32) : Option Int32 :=
  if 0 ≤ x0 then (
    gX1_kept_14 (imin x0 (9 : Int32))) else (
    gX1_kept_14 (0 : Int32))
theorem lX1_kept (h : Hp) (x0 : Int32) : fX1_kept h x0 = gX1_kept x0 := by
  unfold fX1_kept gX1_kept
  simp only [lX1_kept_14, lift_lt, k_bs, k_mb, k_ms, k_bm, k_mm, k_il, k_ir, lift_ite, k_id]
noncomputable def gX1_collapses_33 (h : Hp) (c : Ch)  : Option (Int32 × Ch) :=
  some (((0 : Int32), c))
theorem lX1_collapses_33 (h : Hp) (c : Ch)  : fX1_collapses_33 (cput h c)  = (gX1_collapses_33 h c ).map (fun (y : (Int32 × Ch)) => (y.1, cput h y.2)) := by
  unfold fX1_collapses_33 gX1_collapses_33
  simp only [lift_lt, k_bs, k_mb, k_ms, k_bm, k_mm, k_il, k_ir, lift_ite, k_id]
noncomputable def gX1_collapses_141 (h : Hp) (c : Ch) (s0 : Int32) : Option (Int32 × Ch) :=
  bl s0 (some ((s0, c)))
theorem lX1_collapses_141 (h : Hp) (c : Ch) (s0 : Int32) : fX1_collapses_141 (cput h c) s0 = (gX1_collapses_141 h c s0).map (fun (y : (Int32 × Ch)) => (y.1, cput h y.2)) := by
  unfold fX1_collapses_141 gX1_collapses_141
  simp only [lift_bl, lift_lt, k_bs, k_mb, k_ms, k_bm, k_mm, k_il, k_ir, lift_ite, k_id]
noncomputable def gX1_collapses_126 (h : Hp) (c : Ch) (x3 : Int32) : Option (Int32 × Ch) :=
  (cA c 112 20000 x3).bind fun v5 =>
  if v5 = (1 : Int32) then (
    gX1_collapses_141 h c (1 : Int32)) else (
    gX1_collapses_141 h c (0 : Int32))
theorem lX1_collapses_126 (h : Hp) (c : Ch) (x3 : Int32) : fX1_collapses_126 (cput h c) 108 x3 = (gX1_collapses_126 h c x3).map (fun (y : (Int32 × Ch)) => (y.1, cput h y.2)) := by
  unfold fX1_collapses_126 gX1_collapses_126
  simp only [cgN_108_3, caI_112, lX1_collapses_141, lift_lt, k_bs, k_mb, k_ms, k_bm, k_mm, k_il, k_ir, lift_ite, k_id]
noncomputable def gX1_collapses_124 (h : Hp) (c : Ch) (x3 : Int32) (s1 : Int32) (s2 : Int32) : Option (Int32 × Ch) :=
  (cWA c 1 112 20000 s1 (s2.toInt8.toInt32)).bind fun c20 =>
  gX1_collapses_126 h c20 x3
theorem lX1_collapses_124 (h : Hp) (c : Ch) (x3 : Int32) (s1 : Int32) (s2 : Int32) : fX1_collapses_124 (cput h c) 108 x3 112 s1 s2 = (gX1_collapses_124 h c x3 s1 s2).map (fun (y : (Int32 × Ch)) => (y.1, cput h y.2)) := by
  unfold fX1_collapses_124 gX1_collapses_124
  simp only [cwI_112, lX1_collapses_126, lift_lt, k_bs, k_mb, k_ms, k_bm, k_mm, k_il, k_ir, lift_ite, k_id]
noncomputable def gX1_collapses (h : Hp) (c : Ch) (x1 : Int32) (x2 : Int32) : Option (Int32 × Ch) :=
  (c.2.2.1 108 5).bind fun v1 =>
  (gR (cput h c) 0 v1 8).bind fun v2 =>
  match v2 with
  | none => (
    some (((0 : Int32), c)))
  | some n3 => (
    if (x1 + (x2 * (10000 : Int32))) < 0 then (
    gX1_collapses_33 h c ) else (
      if (x1 + (x2 * (10000 : Int32))) < (Int32.ofNat 20000) then (
        (cA c 112 20000 (x1 + (x2 * (10000 : Int32)))).bind fun v4 =>
        if v4 = 0 then (
          (c.2.2.1 108 5).bind fun v6 =>
          gO (cput h c) 0 v6 (
          (fX0_metCount (cput h c) v6 x1).bind fun y7 =>
          (gX1_know h c (-1 : Int32) y7).bind fun y8 =>
          (gX1_know h y8 (-2 : Int32) x2).bind fun y9 =>
          (y9.2.2.1 108 5).bind fun v10 =>
          gO (cput h y9) 0 v10 (
          (fX0_gapSum (cput h y9) v10 x1).bind fun y11 =>
          (gX1_know h y9 (-7 : Int32) y11).bind fun y12 =>
          (y12.2.2.1 108 5).bind fun v13 =>
          gO (cput h y12) 0 v13 (
          (fX0_widestGap (cput h y12) v13 x1).bind fun y14 =>
          (gX1_know h y12 (-8 : Int32) y14).bind fun y15 =>
          (y15.2.2.1 108 5).bind fun v16 =>
          (gR (cput h y15) 0 v16 8).bind fun v17 =>
          (v17).bind fun n18 =>
          gO (cput h y15) 3 n18 (
          (gX3_tell h y15 n18).bind fun y19 =>
          if y19.1 = (1 : Int32) then (
            gX1_collapses_124 h y19.2 (x1 + (x2 * (10000 : Int32))) (x1 + (x2 * (10000 : Int32))) (1 : Int32)) else (
            gX1_collapses_124 h y19.2 (x1 + (x2 * (10000 : Int32))) (x1 + (x2 * (10000 : Int32))) (-1 : Int32))))))) else (
        gX1_collapses_126 h c (x1 + (x2 * (10000 : Int32))))) else (
      gX1_collapses_33 h c )))
theorem lX1_collapses (h : Hp) (c : Ch) (x1 : Int32) (x2 : Int32) : fX1_collapses (cput h c) 108 x1 x2 = (gX1_collapses h c x1 x2).map (fun (y : (Int32 × Ch)) => (y.1, cput h y.2)) := by
  unfold fX1_collapses gX1_collapses
  simp only [cgN_108_5, lX1_collapses_33, cgN_108_3, caL_112, caI_112, lX1_collapses_126, lift_gOm, cgO_108, lX1_know, cgN_108_0, cgN_108_1, lX3_tell, lX1_collapses_124, lift_lt, k_bs, k_mb, k_ms, k_bm, k_mm, k_il, k_ir, lift_ite, k_id]
  repeat' (first | with_reducible rfl | refine k_bcO ?_ (fun _ => ?_) | refine k_bc (fun _ => ?_) | refine k_ic ?_ ?_ | simp only [cgN_108_5, lX1_collapses_33, cgN_108_3, caL_112, caI_112, lX1_collapses_126, lift_gOm, cgO_108, lX1_know, cgN_108_0, cgN_108_1, lX3_tell, lX1_collapses_124, lift_lt, k_bs, k_mb, k_ms, k_bm, k_mm, k_il, k_ir, lift_ite, k_id] | split)
