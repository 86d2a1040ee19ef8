/-! the reference over its own numbers -/
noncomputable def gX12_mean_81 (m : Mu) (x1 : Int32) (x3 : Int32) (x5 : Int32) (x8 : Int32) (s0 : Int64) (s1 : Int64) : Option ((Int64 × Int32) ⊕ (Int32 × Mu)) :=
  some (.inl ((s0 + s1), (x8 + Int32.ofInt 1)))
theorem lX12_mean_81 (a : Nat) (h : Hp) (m : Mu) (x1 : Int32) (x3 : Int32) (x5 : Int32) (x8 : Int32) (s0 : Int64) (s1 : Int64) : fX12_mean_81 (mput a h m) a x1 x3 x5 x8 s0 s1 = (gX12_mean_81 m x1 x3 x5 x8 s0 s1).map (Sum.map id (fun (y : (Int32 × Mu)) => (y.1, mput a h y.2))) := by
  unfold fX12_mean_81 gX12_mean_81
  simp only [lift_lt, lift_gO, k_bs, k_mb, k_ms, k_bm, k_mm, k_il, k_ir, lift_ite, k_id]
noncomputable def gX12_mean_40b (m : Mu) (x1 : Int32) (x3 : Int32) (x5 : Int32) (x6 : Int64) (x8 : Int32) : Option ((Int64 × Int32) ⊕ (Int32 × Mu)) :=
  if (20000 : Int32) ≤ x8 then (
    (gX12_part x6 x5 x3).bind fun y5 =>
    some (.inr (y5, m))) else (
    (mJ m 17 x8).bind fun v6 =>
    if (lg_cmp v6 (0 : Int64)) ≤ 0 then (
      gX12_mean_81 m x1 x3 x5 x8 x6 (0 : Int64)) else (
      (mJ m 17 x8).bind fun v7 =>
      (gX12_gapIn x8 x1).bind fun y8 =>
      gX12_mean_81 m x1 x3 x5 x8 x6 (v7 * (y8.toInt64))))
noncomputable def gX12_mean_40 (m : Mu) (x1 : Int32) (x3 : Int32) (x5 : Int32) (x6 : Int64) (x8 : Int32) : Option (Int32 × Mu) := lpw (σ := (Int64 × Int32)) (fun s => gX12_mean_40b m x1 x3 x5 s.1 s.2) (x6, x8)
theorem lX12_mean_40b (a : Nat) (h : Hp) (m : Mu) (x1 : Int32) (x3 : Int32) (x5 : Int32) (x6 : Int64) (x8 : Int32) : fX12_mean_40b (mput a h m) a x1 x3 x5 x6 x8 = (gX12_mean_40b m x1 x3 x5 x6 x8).map (Sum.map id (fun (y : (Int32 × Mu)) => (y.1, mput a h y.2))) := by
  unfold fX12_mean_40b gX12_mean_40b
  simp only [lX12_part, lift_gN_34, lift_aJ_17, lX12_mean_81, lX12_gapIn, lift_lt, lift_gO, k_bs, k_mb, k_ms, k_bm, k_mm, k_il, k_ir, lift_ite, k_id]
theorem lX12_mean_40 (a : Nat) (h : Hp) (m : Mu) (x1 : Int32) (x3 : Int32) (x5 : Int32) (x6 : Int64) (x8 : Int32) : fX12_mean_40 (mput a h m) a x1 x3 x5 x6 x8 = (gX12_mean_40 m x1 x3 x5 x6 x8).map (fun (y : (Int32 × Mu)) => (y.1, mput a h y.2)) := by
  unfold fX12_mean_40 gX12_mean_40
  exact lpw_map _ _ id (fun (y : (Int32 × Mu)) => (y.1, mput a h y.2)) (fun s => lX12_mean_40b a h m x1 x3 x5 s.1 s.2) (x6, x8)
noncomputable def gX12_mean (m : Mu) (x1 : Int32) (x2 : Int32) (x3 : Int32) : Option (Int32 × Mu) :=
  lt (mI m 0 (0 : Int32)) fun m1 =>
  (gX12_isPair m1 (x1.toInt64)).bind fun y2 =>
  (gX12_noChance m1 y2 x2 x3).bind fun y3 =>
  if y3 = 0 then (
    (gX12_laysLikely m1 x2).bind fun y4 =>
    gX12_mean_40 y4.2 x1 x3 y4.1 (0 : Int64) (0 : Int32)) else (
    some ((y3, m1)))
theorem lX12_mean (a : Nat) (h : Hp) (m : Mu) (x1 : Int32) (x2 : Int32) (x3 : Int32) : fX12_mean (mput a h m) a x1 x2 x3 = (gX12_mean m x1 x2 x3).map (fun (y : (Int32 × Mu)) => (y.1, mput a h y.2)) := by
  unfold fX12_mean gX12_mean
  simp only [lift_sV_0, lX12_isPair, lX12_noChance, lX12_laysLikely, lX12_mean_40, lift_lt, lift_gO, k_bs, k_mb, k_ms, k_bm, k_mm, k_il, k_ir, lift_ite, k_id]
noncomputable def gX12_fallen_34b (m : Mu) (x2 : Int32) (x4 : Int32) (x5 : Int64) (x7 : Int32) : Option ((Int64 × Int32) ⊕ (Int32 × Mu)) :=
  if (20000 : Int32) ≤ x7 then (
    (gX12_part x5 x4 x2).bind fun y4 =>
    some (.inr (y4, m))) else (
    (mJ m 17 x7).bind fun v5 =>
    some (.inl ((x5 + v5), (x7 + Int32.ofInt 1))))
noncomputable def gX12_fallen_34 (m : Mu) (x2 : Int32) (x4 : Int32) (x5 : Int64) (x7 : Int32) : Option (Int32 × Mu) := lpw (σ := (Int64 × Int32)) (fun s => gX12_fallen_34b m x2 x4 s.1 s.2) (x5, x7)
theorem lX12_fallen_34b (a : Nat) (h : Hp) (m : Mu) (x2 : Int32) (x4 : Int32) (x5 : Int64) (x7 : Int32) : fX12_fallen_34b (mput a h m) a x2 x4 x5 x7 = (gX12_fallen_34b m x2 x4 x5 x7).map (Sum.map id (fun (y : (Int32 × Mu)) => (y.1, mput a h y.2))) := by
  unfold fX12_fallen_34b gX12_fallen_34b
  simp only [lX12_part, lift_gN_34, lift_aJ_17, lift_lt, lift_gO, k_bs, k_mb, k_ms, k_bm, k_mm, k_il, k_ir, lift_ite, k_id]
theorem lX12_fallen_34 (a : Nat) (h : Hp) (m : Mu) (x2 : Int32) (x4 : Int32) (x5 : Int64) (x7 : Int32) : fX12_fallen_34 (mput a h m) a x2 x4 x5 x7 = (gX12_fallen_34 m x2 x4 x5 x7).map (fun (y : (Int32 × Mu)) => (y.1, mput a h y.2)) := by
  unfold fX12_fallen_34 gX12_fallen_34
  exact lpw_map _ _ id (fun (y : (Int32 × Mu)) => (y.1, mput a h y.2)) (fun s => lX12_fallen_34b a h m x2 x4 s.1 s.2) (x5, x7)
noncomputable def gX12_fallen (m : Mu) (x1 : Int32) (x2 : Int32) : Option (Int32 × Mu) :=
  lt (mI m 0 (0 : Int32)) fun m1 =>
  (gX12_noChance m1 (1 : Int32) x1 x2).bind fun y2 =>
  if y2 = 0 then (
    (gX12_laysLikely m1 x1).bind fun y3 =>
    gX12_fallen_34 y3.2 x2 y3.1 (0 : Int64) (10000 : Int32)) else (
    some ((y2, m1)))
theorem lX12_fallen (a : Nat) (h : Hp) (m : Mu) (x1 : Int32) (x2 : Int32) : fX12_fallen (mput a h m) a x1 x2 = (gX12_fallen m x1 x2).map (fun (y : (Int32 × Mu)) => (y.1, mput a h y.2)) := by
  unfold fX12_fallen gX12_fallen
  simp only [lift_sV_0, lX12_noChance, lX12_laysLikely, lX12_fallen_34, lift_lt, lift_gO, k_bs, k_mb, k_ms, k_bm, k_mm, k_il, k_ir, lift_ite, k_id]
noncomputable def gX12_cut_35 (s0 : Int64) : Option Int64 :=
  some (s0)
theorem lX12_cut_35 (h : Hp) (s0 : Int64) : fX12_cut_35 h s0 = gX12_cut_35 s0 := by
  unfold fX12_cut_35 gX12_cut_35
  simp only [lift_lt, lift_gO, k_bs, k_mb, k_ms, k_bm, k_mm, k_il, k_ir, lift_ite, k_id]
noncomputable def gX12_cut (x0 : Int64) (x2 : Int32) : Option Int64 :=
  if x2 = 0 then (
    gX12_cut_35 ((x0.toInt32).toInt8.toInt32.toInt64)) else (
    if x2 = (1 : Int32) then (
      gX12_cut_35 ((x0.toInt32).toInt16.toInt32.toInt64)) else (
      if x2 = (2 : Int32) then (
        gX12_cut_35 ((x0.toInt32).toInt64)) else (
        gX12_cut_35 x0)))
theorem lX12_cut (h : Hp) (x0 : Int64) (x2 : Int32) : fX12_cut h x0 x2 = gX12_cut x0 x2 := by
  unfold fX12_cut gX12_cut
  simp only [lX12_cut_35, lift_lt, lift_gO, k_bs, k_mb, k_ms, k_bm, k_mm, k_il, k_ir, lift_ite, k_id]
noncomputable def gX12_numbers_29 (m : Mu)  : Option (Int32 × Mu) :=
  some (((-2 : Int32), m))
theorem lX12_numbers_29 (a : Nat) (h : Hp) (m : Mu)  : fX12_numbers_29 (mput a h m)  = (gX12_numbers_29 m ).map (fun (y : (Int32 × Mu)) => (y.1, mput a h y.2)) := by
  unfold fX12_numbers_29 gX12_numbers_29
  simp only [lift_lt, lift_gO, k_bs, k_mb, k_ms, k_bm, k_mm, k_il, k_ir, lift_ite, k_id]
noncomputable def gX12_numbers_64b (m : Mu) (x1 : Int32) (x3 : Int32) (x4 : Int32) : Option ((Int32 × Mu) ⊕ (Int32 × Mu)) :=
  if x3 ≤ x4 then (
    some (.inr ((0 : Int32), m))) else (
    (mWJ m 23 (((40 : Int32) * x1) + x4) (0 : Int64)).bind fun m7 =>
    some (.inl ((x4 + Int32.ofInt 1), m7)))
noncomputable def gX12_numbers_64 (m : Mu) (x1 : Int32) (x3 : Int32) (x4 : Int32) : Option (Int32 × Mu) := lpw (σ := (Int32 × Mu)) (fun s => gX12_numbers_64b s.2 x1 x3 s.1) (x4, m)
theorem lX12_numbers_64b (a : Nat) (h : Hp) (m : Mu) (x1 : Int32) (x3 : Int32) (x4 : Int32) : fX12_numbers_64b (mput a h m) a x1 x3 x4 = (gX12_numbers_64b m x1 x3 x4).map (Sum.map (fun (s : (Int32 × Mu)) => (s.1, mput a h s.2)) (fun (y : (Int32 × Mu)) => (y.1, mput a h y.2))) := by
  unfold fX12_numbers_64b gX12_numbers_64b
  simp only [lift_gN_40, lift_wJ_23, lift_lt, lift_gO, k_bs, k_mb, k_ms, k_bm, k_mm, k_il, k_ir, lift_ite, k_id]
theorem lX12_numbers_64 (a : Nat) (h : Hp) (m : Mu) (x1 : Int32) (x3 : Int32) (x4 : Int32) : fX12_numbers_64 (mput a h m) a x1 x3 x4 = (gX12_numbers_64 m x1 x3 x4).map (fun (y : (Int32 × Mu)) => (y.1, mput a h y.2)) := by
  unfold fX12_numbers_64 gX12_numbers_64
  exact lpw_map _ _ (fun (s : (Int32 × Mu)) => (s.1, mput a h s.2)) (fun (y : (Int32 × Mu)) => (y.1, mput a h y.2)) (fun s => lX12_numbers_64b a h s.2 x1 x3 s.1) (x4, m)
noncomputable def gX12_numbers (m : Mu) (x1 : Int32) (x2 : Int32) (x3 : Int32) : Option (Int32 × Mu) :=
  lt (mI m 0 (0 : Int32)) fun m1 =>
  (gX12_within (x1.toInt64) (0 : Int64) (3 : Int64)).bind fun y2 =>
  if y2 = 0 then (
  gX12_numbers_29 m1 ) else (
    (gX12_within (x2.toInt64) (0 : Int64) (3 : Int64)).bind fun y3 =>
    if y3 = 0 then (
    gX12_numbers_29 m1 ) else (
      (gX12_within (x3.toInt64) (0 : Int64) (40 : Int64)).bind fun y4 =>
      if y4 = 0 then (
        some (((-3 : Int32), m1))) else (
        (mW m1 21 x1 x2).bind fun m5 =>
        (mW m5 22 x1 x3).bind fun m6 =>
        gX12_numbers_64 m6 x1 x3 (0 : Int32))))
theorem lX12_numbers (a : Nat) (h : Hp) (m : Mu) (x1 : Int32) (x2 : Int32) (x3 : Int32) : fX12_numbers (mput a h m) a x1 x2 x3 = (gX12_numbers m x1 x2 x3).map (fun (y : (Int32 × Mu)) => (y.1, mput a h y.2)) := by
  unfold fX12_numbers gX12_numbers
  simp only [lift_sV_0, lX12_within, lX12_numbers_29, lift_gN_38, lift_wI_21, lift_gN_39, lift_wI_22, lX12_numbers_64, lift_lt, lift_gO, k_bs, k_mb, k_ms, k_bm, k_mm, k_il, k_ir, lift_ite, k_id]
noncomputable def gX12_write (m : Mu) (x1 : Int32) (x2 : Int32) (x3 : Int64) : Option (Int64 × Mu) :=
  lt (mI m 0 (0 : Int32)) fun m1 =>
  (gX12_noTray m1 x1).bind fun y2 =>
  if y2 = 0 then (
    (mA m1 22 x1).bind fun v3 =>
    (gX12_within (x2.toInt64) (0 : Int64) ((v3 - (1 : Int32)).toInt64)).bind fun y4 =>
    if y4 = 0 then (
      some (((-7 : Int64), m1))) else (
      (mA m1 21 x1).bind fun v5 =>
      (gX12_cut x3 v5).bind fun y6 =>
      (mWJ m1 23 (((40 : Int32) * x1) + x2) y6).bind fun m7 =>
      (mJ m7 23 (((40 : Int32) * x1) + x2)).bind fun v8 =>
      some ((v8, m7)))) else (
    some (((y2.toInt64), m1)))
theorem lX12_write (a : Nat) (h : Hp) (m : Mu) (x1 : Int32) (x2 : Int32) (x3 : Int64) : fX12_write (mput a h m) a x1 x2 x3 = (gX12_write m x1 x2 x3).map (fun (y : (Int64 × Mu)) => (y.1, mput a h y.2)) := by
  unfold fX12_write gX12_write
  simp only [lift_sV_0, lX12_noTray, lift_gN_39, lift_aI_22, lX12_within, lift_gN_40, lift_gN_38, lift_aI_21, lX12_cut, lift_wJ_23, lift_aJ_23, lift_lt, lift_gO, k_bs, k_mb, k_ms, k_bm, k_mm, k_il, k_ir, lift_ite, k_id]
noncomputable def gX12_lists_26 (m : Mu)  : Option (Int32 × Mu) :=
  some (((-2 : Int32), m))
theorem lX12_lists_26 (a : Nat) (h : Hp) (m : Mu)  : fX12_lists_26 (mput a h m)  = (gX12_lists_26 m ).map (fun (y : (Int32 × Mu)) => (y.1, mput a h y.2)) := by
  unfold fX12_lists_26 gX12_lists_26
  simp only [lift_lt, lift_gO, k_bs, k_mb, k_ms, k_bm, k_mm, k_il, k_ir, lift_ite, k_id]
noncomputable def gX12_lists_50b (m : Mu) (x1 : Int32) (x2 : Int32) (x4 : Int32) (x5 : Int32) : Option ((Int32 × Int32 × Mu) ⊕ (Int32 × Mu)) :=
  (mA m 22 x1).bind fun v6 =>
  if v6 ≤ x5 then (
    (mA m 22 x1).bind fun v7 =>
    some (.inr (v7, m))) else (
    (mA m 1 (23 : Int32)).bind fun v8 =>
    (gX12_yearTo m x4 v8 (0 : Int32)).bind fun y9 =>
    (gX12_gapIn y9.1 x2).bind fun y10 =>
    (mWJ y9.2 23 (((40 : Int32) * x1) + x5) (y10.toInt64)).bind fun m11 =>
    some (.inl (y9.1, (x5 + Int32.ofInt 1), m11)))
noncomputable def gX12_lists_50 (m : Mu) (x1 : Int32) (x2 : Int32) (x4 : Int32) (x5 : Int32) : Option (Int32 × Mu) := lpw (σ := (Int32 × Int32 × Mu)) (fun s => gX12_lists_50b s.2.2 x1 x2 s.1 s.2.1) (x4, x5, m)
theorem lX12_lists_50b (a : Nat) (h : Hp) (m : Mu) (x1 : Int32) (x2 : Int32) (x4 : Int32) (x5 : Int32) : fX12_lists_50b (mput a h m) a x1 x2 x4 x5 = (gX12_lists_50b m x1 x2 x4 x5).map (Sum.map (fun (s : (Int32 × Int32 × Mu)) => (s.1, s.2.1, mput a h s.2.2)) (fun (y : (Int32 × Mu)) => (y.1, mput a h y.2))) := by
  unfold fX12_lists_50b gX12_lists_50b
  simp only [lift_gN_39, lift_aI_22, lift_gN_1, lift_aI_1, lX12_yearTo, lift_gN_40, lX12_gapIn, lift_wJ_23, lift_lt, lift_gO, k_bs, k_mb, k_ms, k_bm, k_mm, k_il, k_ir, lift_ite, k_id]
theorem lX12_lists_50 (a : Nat) (h : Hp) (m : Mu) (x1 : Int32) (x2 : Int32) (x4 : Int32) (x5 : Int32) : fX12_lists_50 (mput a h m) a x1 x2 x4 x5 = (gX12_lists_50 m x1 x2 x4 x5).map (fun (y : (Int32 × Mu)) => (y.1, mput a h y.2)) := by
  unfold fX12_lists_50 gX12_lists_50
  exact lpw_map _ _ (fun (s : (Int32 × Int32 × Mu)) => (s.1, s.2.1, mput a h s.2.2)) (fun (y : (Int32 × Mu)) => (y.1, mput a h y.2)) (fun s => lX12_lists_50b a h s.2.2 x1 x2 s.1 s.2.1) (x4, x5, m)
noncomputable def gX12_lists (m : Mu) (x1 : Int32) (x2 : Int32) : Option (Int32 × Mu) :=
  lt (mI m 0 (0 : Int32)) fun m1 =>
  (gX12_within (x1.toInt64) (0 : Int64) (3 : Int64)).bind fun y2 =>
  if y2 = 0 then (
  gX12_lists_26 m1 ) else (
    (gX12_isPair m1 (x2.toInt64)).bind fun y3 =>
    if y3 = 0 then (
    gX12_lists_26 m1 ) else (
      (gX12_noTray m1 x1).bind fun y4 =>
      if y4 = 0 then (
        (gX12_standNow m1 ).bind fun y5 =>
        gX12_lists_50 m1 x1 x2 y5 (0 : Int32)) else (
        some ((y4, m1)))))
theorem lX12_lists (a : Nat) (h : Hp) (m : Mu) (x1 : Int32) (x2 : Int32) : fX12_lists (mput a h m) a x1 x2 = (gX12_lists m x1 x2).map (fun (y : (Int32 × Mu)) => (y.1, mput a h y.2)) := by
  unfold fX12_lists gX12_lists
  simp only [lift_sV_0, lX12_within, lX12_lists_26, lX12_isPair, lX12_noTray, lX12_standNow, lX12_lists_50, lift_lt, lift_gO, k_bs, k_mb, k_ms, k_bm, k_mm, k_il, k_ir, lift_ite, k_id]
noncomputable def gX12_image_53 (m : Mu) (x1 : Int32) : Option (Int32 × Mu) :=
  (mW m 2 x1 (1 : Int32)).bind fun m3 =>
  some (((0 : Int32), m3))
theorem lX12_image_53 (a : Nat) (h : Hp) (m : Mu) (x1 : Int32) : fX12_image_53 (mput a h m) a x1 = (gX12_image_53 m x1).map (fun (y : (Int32 × Mu)) => (y.1, mput a h y.2)) := by
  unfold fX12_image_53 gX12_image_53
  simp only [lift_gN_2, lift_wI_2, lift_lt, lift_gO, k_bs, k_mb, k_ms, k_bm, k_mm, k_il, k_ir, lift_ite, k_id]
noncomputable def gX12_image_20b (m : Mu) (x1 : Int32) (x2 : Int32) : Option ((Int32 × Mu) ⊕ (Int32 × Mu)) :=
  if (1038 : Int32) ≤ x2 then (
  (gX12_image_53 m x1).map (fun q => .inr q)) else (
    (mA m 1 x2).bind fun v4 =>
    (mW m 1 (((1038 : Int32) * (x1 + (1 : Int32))) + x2) v4).bind fun m5 =>
    some (.inl ((x2 + Int32.ofInt 1), m5)))
noncomputable def gX12_image_20 (m : Mu) (x1 : Int32) (x2 : Int32) : Option (Int32 × Mu) := lpw (σ := (Int32 × Mu)) (fun s => gX12_image_20b s.2 x1 s.1) (x2, m)
theorem lX12_image_20b (a : Nat) (h : Hp) (m : Mu) (x1 : Int32) (x2 : Int32) : fX12_image_20b (mput a h m) a x1 x2 = (gX12_image_20b m x1 x2).map (Sum.map (fun (s : (Int32 × Mu)) => (s.1, mput a h s.2)) (fun (y : (Int32 × Mu)) => (y.1, mput a h y.2))) := by
  unfold fX12_image_20b gX12_image_20b
  simp only [lX12_image_53, lift_gN_1, lift_aI_1, lift_wI_1, lift_lt, lift_gO, k_bs, k_mb, k_ms, k_bm, k_mm, k_il, k_ir, lift_ite, k_id]
theorem lX12_image_20 (a : Nat) (h : Hp) (m : Mu) (x1 : Int32) (x2 : Int32) : fX12_image_20 (mput a h m) a x1 x2 = (gX12_image_20 m x1 x2).map (fun (y : (Int32 × Mu)) => (y.1, mput a h y.2)) := by
  unfold fX12_image_20 gX12_image_20
  exact lpw_map _ _ (fun (s : (Int32 × Mu)) => (s.1, mput a h s.2)) (fun (y : (Int32 × Mu)) => (y.1, mput a h y.2)) (fun s => lX12_image_20b a h s.2 x1 s.1) (x2, m)
noncomputable def gX12_image (m : Mu) (x1 : Int32) : Option (Int32 × Mu) :=
  lt (mI m 0 (0 : Int32)) fun m1 =>
  (gX12_within (x1.toInt64) (0 : Int64) (1 : Int64)).bind fun y2 =>
  if y2 = 0 then (
    some (((-2 : Int32), m1))) else (
    gX12_image_20 m1 x1 (0 : Int32))
theorem lX12_image (a : Nat) (h : Hp) (m : Mu) (x1 : Int32) : fX12_image (mput a h m) a x1 = (gX12_image m x1).map (fun (y : (Int32 × Mu)) => (y.1, mput a h y.2)) := by
  unfold fX12_image gX12_image
  simp only [lift_sV_0, lX12_within, lX12_image_20, lift_lt, lift_gO, k_bs, k_mb, k_ms, k_bm, k_mm, k_il, k_ir, lift_ite, k_id]
noncomputable def gX12_restore_65 (m : Mu)  : Option (Int32 × Mu) :=
  (mW m 1 (26 : Int32) (0 : Int32)).bind fun m4 =>
  some (((0 : Int32), m4))
theorem lX12_restore_65 (a : Nat) (h : Hp) (m : Mu)  : fX12_restore_65 (mput a h m) a = (gX12_restore_65 m ).map (fun (y : (Int32 × Mu)) => (y.1, mput a h y.2)) := by
  unfold fX12_restore_65 gX12_restore_65
  simp only [lift_gN_1, lift_wI_1, lift_lt, lift_gO, k_bs, k_mb, k_ms, k_bm, k_mm, k_il, k_ir, lift_ite, k_id]
noncomputable def gX12_restore_32b (m : Mu) (x1 : Int32) (x2 : Int32) : Option ((Int32 × Mu) ⊕ (Int32 × Mu)) :=
  if (1038 : Int32) ≤ x2 then (
  (gX12_restore_65 m ).map (fun q => .inr q)) else (
    (mA m 1 (((1038 : Int32) * (x1 + (1 : Int32))) + x2)).bind fun v5 =>
    (mW m 1 x2 v5).bind fun m6 =>
    some (.inl ((x2 + Int32.ofInt 1), m6)))
noncomputable def gX12_restore_32 (m : Mu) (x1 : Int32) (x2 : Int32) : Option (Int32 × Mu) := lpw (σ := (Int32 × Mu)) (fun s => gX12_restore_32b s.2 x1 s.1) (x2, m)
theorem lX12_restore_32b (a : Nat) (h : Hp) (m : Mu) (x1 : Int32) (x2 : Int32) : fX12_restore_32b (mput a h m) a x1 x2 = (gX12_restore_32b m x1 x2).map (Sum.map (fun (s : (Int32 × Mu)) => (s.1, mput a h s.2)) (fun (y : (Int32 × Mu)) => (y.1, mput a h y.2))) := by
  unfold fX12_restore_32b gX12_restore_32b
  simp only [lX12_restore_65, lift_gN_1, lift_aI_1, lift_wI_1, lift_lt, lift_gO, k_bs, k_mb, k_ms, k_bm, k_mm, k_il, k_ir, lift_ite, k_id]
theorem lX12_restore_32 (a : Nat) (h : Hp) (m : Mu) (x1 : Int32) (x2 : Int32) : fX12_restore_32 (mput a h m) a x1 x2 = (gX12_restore_32 m x1 x2).map (fun (y : (Int32 × Mu)) => (y.1, mput a h y.2)) := by
  unfold fX12_restore_32 gX12_restore_32
  exact lpw_map _ _ (fun (s : (Int32 × Mu)) => (s.1, mput a h s.2)) (fun (y : (Int32 × Mu)) => (y.1, mput a h y.2)) (fun s => lX12_restore_32b a h s.2 x1 s.1) (x2, m)
noncomputable def gX12_restore (m : Mu) (x1 : Int32) : Option (Int32 × Mu) :=
  lt (mI m 0 (0 : Int32)) fun m1 =>
  (gX12_within (x1.toInt64) (0 : Int64) (1 : Int64)).bind fun y2 =>
  if y2 = 0 then (
    some (((-2 : Int32), m1))) else (
    (mA m1 2 x1).bind fun v3 =>
    if v3 = 0 then (
      some (((-5 : Int32), m1))) else (
      gX12_restore_32 m1 x1 (0 : Int32)))
theorem lX12_restore (a : Nat) (h : Hp) (m : Mu) (x1 : Int32) : fX12_restore (mput a h m) a x1 = (gX12_restore m x1).map (fun (y : (Int32 × Mu)) => (y.1, mput a h y.2)) := by
  unfold fX12_restore gX12_restore
  simp only [lift_sV_0, lX12_within, lift_gN_2, lift_aI_2, lX12_restore_32, lift_lt, lift_gO, k_bs, k_mb, k_ms, k_bm, k_mm, k_il, k_ir, lift_ite, k_id]
noncomputable def gX12_count (m : Mu) (x1 : Int32) : Option (Int32 × Mu) :=
  lt (mI m 0 (0 : Int32)) fun m1 =>
  if x1 = 0 then (
    (mA m1 1 (1 : Int32)).bind fun v2 =>
    some ((v2, m1))) else (
if x1 = 1 then (
    (mA m1 1 (2 : Int32)).bind fun v3 =>
    some ((v3, m1))) else (
if x1 = 2 then (
    (gX12_standNow m1 ).bind fun y4 =>
    (gX12_metIn m1 y4).bind fun y5 =>
    some ((y5, m1))) else (
if x1 = 3 then (
    (gX12_standNow m1 ).bind fun y6 =>
    (gX12_gapsIn m1 y6).bind fun y7 =>
    some ((y7, m1))) else (
if x1 = 4 then (
    (mA m1 1 (23 : Int32)).bind fun v8 =>
    some ((v8, m1))) else (
if x1 = 5 then (
    (mA m1 1 (24 : Int32)).bind fun v9 =>
    some ((v9, m1))) else (
if x1 = 6 then (
    (mA m1 1 (25 : Int32)).bind fun v10 =>
    some ((v10, m1))) else (
if x1 = 7 then (
    (mA m1 1 (26 : Int32)).bind fun v11 =>
    some ((v11, m1))) else (
if x1 = 8 then (
    some (((m1.1 5), m1))) else (
if x1 = 9 then (
    (mA m1 1 (0 : Int32)).bind fun v12 =>
    some ((v12, m1))) else (
    some (((-1 : Int32), m1))))))))))))
theorem lX12_count (a : Nat) (h : Hp) (m : Mu) (x1 : Int32) : fX12_count (mput a h m) a x1 = (gX12_count m x1).map (fun (y : (Int32 × Mu)) => (y.1, mput a h y.2)) := by
  unfold fX12_count gX12_count
  simp only [lift_sV_0, lift_gN_1, lift_aI_1, lX12_standNow, lX12_metIn, lX12_gapsIn, lift_gI_5, lift_lt, lift_gO, k_bs, k_mb, k_ms, k_bm, k_mm, k_il, k_ir, lift_ite, k_id]
