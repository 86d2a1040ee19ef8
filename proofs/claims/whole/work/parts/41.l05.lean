/-! the reference over its own numbers -/
noncomputable def gX12_way_17 (m : Mu)  : Option (Int32 × Mu) :=
  some (((-3 : Int32), m))
theorem lX12_way_17 (a : Nat) (h : Hp) (m : Mu)  : fX12_way_17 (mput a h m)  = (gX12_way_17 m ).map (fun (y : (Int32 × Mu)) => (y.1, mput a h y.2)) := by
  unfold fX12_way_17 gX12_way_17
  simp only [lift_lt, lift_gO, k_bs, k_mb, k_ms, k_bm, k_mm, k_il, k_ir, lift_ite, k_id]
noncomputable def gX12_way_38 (m : Mu)  : Option (Int32 × Mu) :=
  some (((-1 : Int32), m))
theorem lX12_way_38 (a : Nat) (h : Hp) (m : Mu)  : fX12_way_38 (mput a h m)  = (gX12_way_38 m ).map (fun (y : (Int32 × Mu)) => (y.1, mput a h y.2)) := by
  unfold fX12_way_38 gX12_way_38
  simp only [lift_lt, lift_gO, k_bs, k_mb, k_ms, k_bm, k_mm, k_il, k_ir, lift_ite, k_id]
noncomputable def gX12_way_85 (m : Mu) (x2 : Int32) (x3 : Int32) (x4 : Int32) (x5 : Int32) (x6 : Int32) : Option ((Int32 × Int32) ⊕ (Int32 × Mu)) :=
  if x5 = x2 then (
    (mA m 9 x6).bind fun v8 =>
    some (.inr (v8, m))) else (
    (mA m 14 (((35 : Int32) * x4) + x6)).bind fun v7 =>
    some (.inl (v7, (x5 + Int32.ofInt 1))))
theorem lX12_way_85 (a : Nat) (h : Hp) (m : Mu) (x2 : Int32) (x3 : Int32) (x4 : Int32) (x5 : Int32) (x6 : Int32) : fX12_way_85 (mput a h m) a x2 x3 x4 x5 x6 = (gX12_way_85 m x2 x3 x4 x5 x6).map (Sum.map id (fun (y : (Int32 × Mu)) => (y.1, mput a h y.2))) := by
  unfold fX12_way_85 gX12_way_85
  simp only [lift_gN_30, lift_aI_14, lift_gN_20, lift_aI_9, lift_lt, lift_gO, k_bs, k_mb, k_ms, k_bm, k_mm, k_il, k_ir, lift_ite, k_id]
noncomputable def gX12_way_52b (m : Mu) (x2 : Int32) (x3 : Int32) (x4 : Int32) (x5 : Int32) (x6 : Int32) : Option (Int32 ⊕ ((Int32 × Int32) ⊕ (Int32 × Mu))) :=
  (mA m 14 (((35 : Int32) * x4) + x6)).bind fun v5 =>
  (mA m 15 v5).bind fun v6 =>
  if v6 = ((x3 - x5) - (1 : Int32)) then (
  (gX12_way_85 m x2 x3 x4 x5 x6).map (fun q => .inr q)) else (
    some (.inl (x6 + Int32.ofInt 1)))
noncomputable def gX12_way_52 (m : Mu) (x2 : Int32) (x3 : Int32) (x4 : Int32) (x5 : Int32) (x6 : Int32) : Option ((Int32 × Int32) ⊕ (Int32 × Mu)) := lpw (σ := Int32) (fun s => gX12_way_52b m x2 x3 x4 x5 s) x6
theorem lX12_way_52b (a : Nat) (h : Hp) (m : Mu) (x2 : Int32) (x3 : Int32) (x4 : Int32) (x5 : Int32) (x6 : Int32) : fX12_way_52b (mput a h m) a x2 x3 x4 x5 x6 = (gX12_way_52b m x2 x3 x4 x5 x6).map (Sum.map id (Sum.map id (fun (y : (Int32 × Mu)) => (y.1, mput a h y.2)))) := by
  unfold fX12_way_52b gX12_way_52b
  simp only [lift_gN_31, lift_gN_30, lift_aI_14, lift_aI_15, lX12_way_85, lift_lt, lift_gO, k_bs, k_mb, k_ms, k_bm, k_mm, k_il, k_ir, lift_ite, k_id]
theorem lX12_way_52 (a : Nat) (h : Hp) (m : Mu) (x2 : Int32) (x3 : Int32) (x4 : Int32) (x5 : Int32) (x6 : Int32) : fX12_way_52 (mput a h m) a x2 x3 x4 x5 x6 = (gX12_way_52 m x2 x3 x4 x5 x6).map (Sum.map id (fun (y : (Int32 × Mu)) => (y.1, mput a h y.2))) := by
  unfold fX12_way_52 gX12_way_52
  exact lpw_map _ _ id (Sum.map id (fun (y : (Int32 × Mu)) => (y.1, mput a h y.2))) (fun s => lX12_way_52b a h m x2 x3 x4 x5 s) x6
noncomputable def gX12_way_49b (m : Mu) (x2 : Int32) (x3 : Int32) (x4 : Int32) (x5 : Int32) : Option ((Int32 × Int32) ⊕ (Int32 × Mu)) :=
  gX12_way_52 m x2 x3 x4 x5 (0 : Int32)
noncomputable def gX12_way_49 (m : Mu) (x2 : Int32) (x3 : Int32) (x4 : Int32) (x5 : Int32) : Option (Int32 × Mu) := lpw (σ := (Int32 × Int32)) (fun s => gX12_way_49b m x2 x3 s.1 s.2) (x4, x5)
theorem lX12_way_49b (a : Nat) (h : Hp) (m : Mu) (x2 : Int32) (x3 : Int32) (x4 : Int32) (x5 : Int32) : fX12_way_49b (mput a h m) a x2 x3 x4 x5 = (gX12_way_49b m x2 x3 x4 x5).map (Sum.map id (fun (y : (Int32 × Mu)) => (y.1, mput a h y.2))) := by
  unfold fX12_way_49b gX12_way_49b
  simp only [lX12_way_52, lift_lt, lift_gO, k_bs, k_mb, k_ms, k_bm, k_mm, k_il, k_ir, lift_ite, k_id]
theorem lX12_way_49 (a : Nat) (h : Hp) (m : Mu) (x2 : Int32) (x3 : Int32) (x4 : Int32) (x5 : Int32) : fX12_way_49 (mput a h m) a x2 x3 x4 x5 = (gX12_way_49 m x2 x3 x4 x5).map (fun (y : (Int32 × Mu)) => (y.1, mput a h y.2)) := by
  unfold fX12_way_49 gX12_way_49
  exact lpw_map _ _ id (fun (y : (Int32 × Mu)) => (y.1, mput a h y.2)) (fun s => lX12_way_49b a h m x2 x3 s.1 s.2) (x4, x5)
noncomputable def gX12_way (m : Mu) (x1 : Int32) (x2 : Int32) : Option (Int32 × Mu) :=
  lt (mI m 0 (0 : Int32)) fun m1 =>
  (gX12_isSet m1 x1).bind fun y2 =>
  if y2 = 0 then (
  gX12_way_17 m1 ) else (
    if 0 ≤ x2 then (
      (gX12_laysMeeting m1 x1).bind fun y3 =>
      if y3.1 = (268435456 : Int32) then (
      gX12_way_38 y3.2 ) else (
        if x2 < y3.1 then (
          (gX12_standNow y3.2 ).bind fun y4 =>
          gX12_way_49 y3.2 x2 y3.1 y4 (0 : Int32)) else (
        gX12_way_38 y3.2 ))) else (
    gX12_way_17 m1 ))
theorem lX12_way (a : Nat) (h : Hp) (m : Mu) (x1 : Int32) (x2 : Int32) : fX12_way (mput a h m) a x1 x2 = (gX12_way m x1 x2).map (fun (y : (Int32 × Mu)) => (y.1, mput a h y.2)) := by
  unfold fX12_way gX12_way
  simp only [lift_sV_0, lX12_isSet, lX12_way_17, lX12_laysMeeting, lX12_way_38, lX12_standNow, lX12_way_49, lift_lt, lift_gO, k_bs, k_mb, k_ms, k_bm, k_mm, k_il, k_ir, lift_ite, k_id]
noncomputable def gX12_beginsMany_27 (m : Mu) (x1 : Int32) (s1 : Int32) (s2 : Int64) : Option ((Int32 × Mu) ⊕ Mu) :=
  (mWJ m 17 s1 s2).bind fun m2 =>
  (mWJ m2 18 x1 (0 : Int64)).bind fun m3 =>
  some (.inl ((x1 + Int32.ofInt 1), m3))
theorem lX12_beginsMany_27 (a : Nat) (h : Hp) (m : Mu) (x1 : Int32) (s1 : Int32) (s2 : Int64) : fX12_beginsMany_27 (mput a h m) a x1 (a + 17) s1 s2 = (gX12_beginsMany_27 m x1 s1 s2).map (Sum.map (fun (s : (Int32 × Mu)) => (s.1, mput a h s.2)) (mput a h)) := by
  unfold fX12_beginsMany_27 gX12_beginsMany_27
  simp only [lift_wJ_17, lift_gN_35, lift_wJ_18, lift_lt, lift_gO, k_bs, k_mb, k_ms, k_bm, k_mm, k_il, k_ir, lift_ite, k_id]
noncomputable def gX12_beginsMany_2b (m : Mu) (x1 : Int32) : Option ((Int32 × Mu) ⊕ Mu) :=
  if (20000 : Int32) ≤ x1 then (
    some (.inr m)) else (
    (gX12_standNow m ).bind fun y1 =>
    if x1 = y1 then (
      gX12_beginsMany_27 m x1 x1 (1 : Int64)) else (
      gX12_beginsMany_27 m x1 x1 (0 : Int64)))
noncomputable def gX12_beginsMany_2 (m : Mu) (x1 : Int32) : Option Mu := lpw (σ := (Int32 × Mu)) (fun s => gX12_beginsMany_2b s.2  s.1) (x1, m)
theorem lX12_beginsMany_2b (a : Nat) (h : Hp) (m : Mu) (x1 : Int32) : fX12_beginsMany_2b (mput a h m) a x1 = (gX12_beginsMany_2b m x1).map (Sum.map (fun (s : (Int32 × Mu)) => (s.1, mput a h s.2)) (mput a h)) := by
  unfold fX12_beginsMany_2b gX12_beginsMany_2b
  simp only [lift_gN_34, lX12_standNow, lX12_beginsMany_27, lift_lt, lift_gO, k_bs, k_mb, k_ms, k_bm, k_mm, k_il, k_ir, lift_ite, k_id]
theorem lX12_beginsMany_2 (a : Nat) (h : Hp) (m : Mu) (x1 : Int32) : fX12_beginsMany_2 (mput a h m) a x1 = (gX12_beginsMany_2 m x1).map (mput a h) := by
  unfold fX12_beginsMany_2 gX12_beginsMany_2
  exact lpw_map _ _ (fun (s : (Int32 × Mu)) => (s.1, mput a h s.2)) (mput a h) (fun s => lX12_beginsMany_2b a h s.2 s.1) (x1, m)
noncomputable def gX12_beginsMany (m : Mu)  : Option Mu :=
  gX12_beginsMany_2 m (0 : Int32)
theorem lX12_beginsMany (a : Nat) (h : Hp) (m : Mu)  : fX12_beginsMany (mput a h m) a = (gX12_beginsMany m ).map (mput a h) := by
  unfold fX12_beginsMany gX12_beginsMany
  simp only [lX12_beginsMany_2, lift_lt, lift_gO, k_bs, k_mb, k_ms, k_bm, k_mm, k_il, k_ir, lift_ite, k_id]
noncomputable def gX12_isThen_2b (m : Mu) (x1 : Int32) : Option ((Int32 × Mu) ⊕ Mu) :=
  if (20000 : Int32) ≤ x1 then (
    some (.inr m)) else (
    (mJ m 18 x1).bind fun v1 =>
    (mWJ m 17 x1 v1).bind fun m2 =>
    (mWJ m2 18 x1 (0 : Int64)).bind fun m3 =>
    some (.inl ((x1 + Int32.ofInt 1), m3)))
noncomputable def gX12_isThen_2 (m : Mu) (x1 : Int32) : Option Mu := lpw (σ := (Int32 × Mu)) (fun s => gX12_isThen_2b s.2  s.1) (x1, m)
theorem lX12_isThen_2b (a : Nat) (h : Hp) (m : Mu) (x1 : Int32) : fX12_isThen_2b (mput a h m) a x1 = (gX12_isThen_2b m x1).map (Sum.map (fun (s : (Int32 × Mu)) => (s.1, mput a h s.2)) (mput a h)) := by
  unfold fX12_isThen_2b gX12_isThen_2b
  simp only [lift_gN_34, lift_gN_35, lift_aJ_18, lift_wJ_17, lift_wJ_18, lift_lt, lift_gO, k_bs, k_mb, k_ms, k_bm, k_mm, k_il, k_ir, lift_ite, k_id]
theorem lX12_isThen_2 (a : Nat) (h : Hp) (m : Mu) (x1 : Int32) : fX12_isThen_2 (mput a h m) a x1 = (gX12_isThen_2 m x1).map (mput a h) := by
  unfold fX12_isThen_2 gX12_isThen_2
  exact lpw_map _ _ (fun (s : (Int32 × Mu)) => (s.1, mput a h s.2)) (mput a h) (fun s => lX12_isThen_2b a h s.2 s.1) (x1, m)
noncomputable def gX12_isThen (m : Mu)  : Option Mu :=
  gX12_isThen_2 m (0 : Int32)
theorem lX12_isThen (a : Nat) (h : Hp) (m : Mu)  : fX12_isThen (mput a h m) a = (gX12_isThen m ).map (mput a h) := by
  unfold fX12_isThen gX12_isThen
  simp only [lX12_isThen_2, lift_lt, lift_gO, k_bs, k_mb, k_ms, k_bm, k_mm, k_il, k_ir, lift_ite, k_id]
noncomputable def gX12_rows_25 (m : Mu)  : Option (Int64 × Mu) :=
  some (((-3 : Int64), m))
theorem lX12_rows_25 (a : Nat) (h : Hp) (m : Mu)  : fX12_rows_25 (mput a h m)  = (gX12_rows_25 m ).map (fun (y : (Int64 × Mu)) => (y.1, mput a h y.2)) := by
  unfold fX12_rows_25 gX12_rows_25
  simp only [lift_lt, lift_gO, k_bs, k_mb, k_ms, k_bm, k_mm, k_il, k_ir, lift_ite, k_id]
noncomputable def gX12_rows_194 (m : Mu) (x1 : Int32) (x5 : Int32) (s0 : Int64) (s1 : Int64) : Option ((Int64 × Int32) ⊕ (Int64 × Mu)) :=
  some (.inl ((s0 + s1), (x5 + Int32.ofInt 1)))
theorem lX12_rows_194 (a : Nat) (h : Hp) (m : Mu) (x1 : Int32) (x5 : Int32) (s0 : Int64) (s1 : Int64) : fX12_rows_194 (mput a h m) a x1 x5 s0 s1 = (gX12_rows_194 m x1 x5 s0 s1).map (Sum.map id (fun (y : (Int64 × Mu)) => (y.1, mput a h y.2))) := by
  unfold fX12_rows_194 gX12_rows_194
  simp only [lift_lt, lift_gO, k_bs, k_mb, k_ms, k_bm, k_mm, k_il, k_ir, lift_ite, k_id]
noncomputable def gX12_rows_151b (m : Mu) (x1 : Int32) (x3 : Int64) (x5 : Int32) : Option ((Int64 × Int32) ⊕ (Int64 × Mu)) :=
  if (m.1 33) ≤ x5 then (
    some (.inr (x3, m))) else (
    (mA m 13 x5).bind fun v6 =>
    (gX12_metIn m v6).bind fun y7 =>
    if (y7 &&& x1) = x1 then (
      (mA m 13 x5).bind fun v8 =>
      (mJ m 17 v8).bind fun v9 =>
      gX12_rows_194 m x1 x5 x3 v9) else (
      gX12_rows_194 m x1 x5 x3 (0 : Int64)))
noncomputable def gX12_rows_151 (m : Mu) (x1 : Int32) (x3 : Int64) (x5 : Int32) : Option (Int64 × Mu) := lpw (σ := (Int64 × Int32)) (fun s => gX12_rows_151b m x1 s.1 s.2) (x3, x5)
theorem lX12_rows_151b (a : Nat) (h : Hp) (m : Mu) (x1 : Int32) (x3 : Int64) (x5 : Int32) : fX12_rows_151b (mput a h m) a x1 x3 x5 = (gX12_rows_151b m x1 x3 x5).map (Sum.map id (fun (y : (Int64 × Mu)) => (y.1, mput a h y.2))) := by
  unfold fX12_rows_151b gX12_rows_151b
  simp only [lift_gI_33, lift_gN_29, lift_aI_13, lX12_metIn, lX12_rows_194, lift_gN_34, lift_aJ_17, lift_lt, lift_gO, k_bs, k_mb, k_ms, k_bm, k_mm, k_il, k_ir, lift_ite, k_id]
theorem lX12_rows_151 (a : Nat) (h : Hp) (m : Mu) (x1 : Int32) (x3 : Int64) (x5 : Int32) : fX12_rows_151 (mput a h m) a x1 x3 x5 = (gX12_rows_151 m x1 x3 x5).map (fun (y : (Int64 × Mu)) => (y.1, mput a h y.2)) := by
  unfold fX12_rows_151 gX12_rows_151
  exact lpw_map _ _ id (fun (y : (Int64 × Mu)) => (y.1, mput a h y.2)) (fun s => lX12_rows_151b a h m x1 s.1 s.2) (x3, x5)
noncomputable def gX12_rows_146 (m : Mu) (x1 : Int32) : Option (Int64 × Mu) :=
  gX12_rows_151 m x1 (0 : Int64) (0 : Int32)
theorem lX12_rows_146 (a : Nat) (h : Hp) (m : Mu) (x1 : Int32) : fX12_rows_146 (mput a h m) a x1 = (gX12_rows_146 m x1).map (fun (y : (Int64 × Mu)) => (y.1, mput a h y.2)) := by
  unfold fX12_rows_146 gX12_rows_146
  simp only [lX12_rows_151, lift_lt, lift_gO, k_bs, k_mb, k_ms, k_bm, k_mm, k_il, k_ir, lift_ite, k_id]
noncomputable def gX12_rows_136 (m : Mu) (x1 : Int32) (x2 : Int32) (x3 : Int32) : Option ((Int32 × Mu) ⊕ (Int64 × Mu)) :=
  (gX12_isThen m ).bind fun y10 =>
  some (.inl ((x3 + Int32.ofInt 1), y10))
theorem lX12_rows_136 (a : Nat) (h : Hp) (m : Mu) (x1 : Int32) (x2 : Int32) (x3 : Int32) : fX12_rows_136 (mput a h m) a x1 x2 x3 = (gX12_rows_136 m x1 x2 x3).map (Sum.map (fun (s : (Int32 × Mu)) => (s.1, mput a h s.2)) (fun (y : (Int64 × Mu)) => (y.1, mput a h y.2))) := by
  unfold fX12_rows_136 gX12_rows_136
  simp only [lX12_isThen, lift_lt, lift_gO, k_bs, k_mb, k_ms, k_bm, k_mm, k_il, k_ir, lift_ite, k_id]
noncomputable def gX12_rows_130 (m : Mu) (x1 : Int32) (x2 : Int32) (x3 : Int32) (x4 : Int32) : Option ((Int32 × Mu) ⊕ ((Int32 × Mu) ⊕ (Int64 × Mu))) :=
  some (.inl ((x4 + Int32.ofInt 1), m))
theorem lX12_rows_130 (a : Nat) (h : Hp) (m : Mu) (x1 : Int32) (x2 : Int32) (x3 : Int32) (x4 : Int32) : fX12_rows_130 (mput a h m) a x1 x2 x3 x4 = (gX12_rows_130 m x1 x2 x3 x4).map (Sum.map (fun (s : (Int32 × Mu)) => (s.1, mput a h s.2)) (Sum.map (fun (s : (Int32 × Mu)) => (s.1, mput a h s.2)) (fun (y : (Int64 × Mu)) => (y.1, mput a h y.2)))) := by
  unfold fX12_rows_130 gX12_rows_130
  simp only [lift_lt, lift_gO, k_bs, k_mb, k_ms, k_bm, k_mm, k_il, k_ir, lift_ite, k_id]
noncomputable def gX12_rows_60b (m : Mu) (x1 : Int32) (x2 : Int32) (x3 : Int32) (x4 : Int32) (x5 : Int32) : Option ((Int32 × Mu) ⊕ ((Int32 × Mu) ⊕ ((Int32 × Mu) ⊕ (Int64 × Mu)))) :=
  if (m.1 21) ≤ x5 then (
  (gX12_rows_130 m x1 x2 x3 x4).map (fun q => .inr q)) else (
    (mA m 13 x4).bind fun v11 =>
    (mJ m 17 v11).bind fun v12 =>
    if (lg_cmp v12 (0 : Int64)) ≤ 0 then (
    (gX12_rows_130 m x1 x2 x3 x4).map (fun q => .inr q)) else (
      (mA m 13 x4).bind fun v13 =>
      (mA m 14 (((35 : Int32) * v13) + x5)).bind fun v14 =>
      (mJ m 18 v14).bind fun v15 =>
      (mA m 13 x4).bind fun v16 =>
      (mJ m 17 v16).bind fun v17 =>
      (mWJ m 18 v14 (v15 + v17)).bind fun m18 =>
      some (.inl ((x5 + Int32.ofInt 1), m18))))
noncomputable def gX12_rows_60 (m : Mu) (x1 : Int32) (x2 : Int32) (x3 : Int32) (x4 : Int32) (x5 : Int32) : Option ((Int32 × Mu) ⊕ ((Int32 × Mu) ⊕ (Int64 × Mu))) := lpw (σ := (Int32 × Mu)) (fun s => gX12_rows_60b s.2 x1 x2 x3 x4 s.1) (x5, m)
theorem lX12_rows_60b (a : Nat) (h : Hp) (m : Mu) (x1 : Int32) (x2 : Int32) (x3 : Int32) (x4 : Int32) (x5 : Int32) : fX12_rows_60b (mput a h m) a x1 x2 x3 x4 x5 = (gX12_rows_60b m x1 x2 x3 x4 x5).map (Sum.map (fun (s : (Int32 × Mu)) => (s.1, mput a h s.2)) (Sum.map (fun (s : (Int32 × Mu)) => (s.1, mput a h s.2)) (Sum.map (fun (s : (Int32 × Mu)) => (s.1, mput a h s.2)) (fun (y : (Int64 × Mu)) => (y.1, mput a h y.2))))) := by
  unfold fX12_rows_60b gX12_rows_60b
  simp only [lift_gI_21, lX12_rows_130, lift_gN_34, lift_gN_29, lift_aI_13, lift_aJ_17, lift_gN_35, lift_gN_30, lift_aI_14, lift_aJ_18, lift_wJ_18, lift_lt, lift_gO, k_bs, k_mb, k_ms, k_bm, k_mm, k_il, k_ir, lift_ite, k_id]
theorem lX12_rows_60 (a : Nat) (h : Hp) (m : Mu) (x1 : Int32) (x2 : Int32) (x3 : Int32) (x4 : Int32) (x5 : Int32) : fX12_rows_60 (mput a h m) a x1 x2 x3 x4 x5 = (gX12_rows_60 m x1 x2 x3 x4 x5).map (Sum.map (fun (s : (Int32 × Mu)) => (s.1, mput a h s.2)) (Sum.map (fun (s : (Int32 × Mu)) => (s.1, mput a h s.2)) (fun (y : (Int64 × Mu)) => (y.1, mput a h y.2)))) := by
  unfold fX12_rows_60 gX12_rows_60
  exact lpw_map _ _ (fun (s : (Int32 × Mu)) => (s.1, mput a h s.2)) (Sum.map (fun (s : (Int32 × Mu)) => (s.1, mput a h s.2)) (Sum.map (fun (s : (Int32 × Mu)) => (s.1, mput a h s.2)) (fun (y : (Int64 × Mu)) => (y.1, mput a h y.2)))) (fun s => lX12_rows_60b a h s.2 x1 x2 x3 x4 s.1) (x5, m)
noncomputable def gX12_rows_48b (m : Mu) (x1 : Int32) (x2 : Int32) (x3 : Int32) (x4 : Int32) : Option ((Int32 × Mu) ⊕ ((Int32 × Mu) ⊕ (Int64 × Mu))) :=
  if (m.1 33) ≤ x4 then (
  (gX12_rows_136 m x1 x2 x3).map (fun q => .inr q)) else (
    gX12_rows_60 m x1 x2 x3 x4 (0 : Int32))
noncomputable def gX12_rows_48 (m : Mu) (x1 : Int32) (x2 : Int32) (x3 : Int32) (x4 : Int32) : Option ((Int32 × Mu) ⊕ (Int64 × Mu)) := lpw (σ := (Int32 × Mu)) (fun s => gX12_rows_48b s.2 x1 x2 x3 s.1) (x4, m)
theorem lX12_rows_48b (a : Nat) (h : Hp) (m : Mu) (x1 : Int32) (x2 : Int32) (x3 : Int32) (x4 : Int32) : fX12_rows_48b (mput a h m) a x1 x2 x3 x4 = (gX12_rows_48b m x1 x2 x3 x4).map (Sum.map (fun (s : (Int32 × Mu)) => (s.1, mput a h s.2)) (Sum.map (fun (s : (Int32 × Mu)) => (s.1, mput a h s.2)) (fun (y : (Int64 × Mu)) => (y.1, mput a h y.2)))) := by
  unfold fX12_rows_48b gX12_rows_48b
  simp only [lift_gI_33, lX12_rows_136, lX12_rows_60, lift_lt, lift_gO, k_bs, k_mb, k_ms, k_bm, k_mm, k_il, k_ir, lift_ite, k_id]
theorem lX12_rows_48 (a : Nat) (h : Hp) (m : Mu) (x1 : Int32) (x2 : Int32) (x3 : Int32) (x4 : Int32) : fX12_rows_48 (mput a h m) a x1 x2 x3 x4 = (gX12_rows_48 m x1 x2 x3 x4).map (Sum.map (fun (s : (Int32 × Mu)) => (s.1, mput a h s.2)) (fun (y : (Int64 × Mu)) => (y.1, mput a h y.2))) := by
  unfold fX12_rows_48 gX12_rows_48
  exact lpw_map _ _ (fun (s : (Int32 × Mu)) => (s.1, mput a h s.2)) (Sum.map (fun (s : (Int32 × Mu)) => (s.1, mput a h s.2)) (fun (y : (Int64 × Mu)) => (y.1, mput a h y.2))) (fun s => lX12_rows_48b a h s.2 x1 x2 x3 s.1) (x4, m)
noncomputable def gX12_rows_40b (m : Mu) (x1 : Int32) (x2 : Int32) (x3 : Int32) : Option ((Int32 × Mu) ⊕ (Int64 × Mu)) :=
  if x2 ≤ x3 then (
  (gX12_rows_146 m x1).map (fun q => .inr q)) else (
    gX12_rows_48 m x1 x2 x3 (0 : Int32))
noncomputable def gX12_rows_40 (m : Mu) (x1 : Int32) (x2 : Int32) (x3 : Int32) : Option (Int64 × Mu) := lpw (σ := (Int32 × Mu)) (fun s => gX12_rows_40b s.2 x1 x2 s.1) (x3, m)
theorem lX12_rows_40b (a : Nat) (h : Hp) (m : Mu) (x1 : Int32) (x2 : Int32) (x3 : Int32) : fX12_rows_40b (mput a h m) a x1 x2 x3 = (gX12_rows_40b m x1 x2 x3).map (Sum.map (fun (s : (Int32 × Mu)) => (s.1, mput a h s.2)) (fun (y : (Int64 × Mu)) => (y.1, mput a h y.2))) := by
  unfold fX12_rows_40b gX12_rows_40b
  simp only [lX12_rows_146, lX12_rows_48, lift_lt, lift_gO, k_bs, k_mb, k_ms, k_bm, k_mm, k_il, k_ir, lift_ite, k_id]
theorem lX12_rows_40 (a : Nat) (h : Hp) (m : Mu) (x1 : Int32) (x2 : Int32) (x3 : Int32) : fX12_rows_40 (mput a h m) a x1 x2 x3 = (gX12_rows_40 m x1 x2 x3).map (fun (y : (Int64 × Mu)) => (y.1, mput a h y.2)) := by
  unfold fX12_rows_40 gX12_rows_40
  exact lpw_map _ _ (fun (s : (Int32 × Mu)) => (s.1, mput a h s.2)) (fun (y : (Int64 × Mu)) => (y.1, mput a h y.2)) (fun s => lX12_rows_40b a h s.2 x1 x2 s.1) (x3, m)
noncomputable def gX12_rows (m : Mu) (x1 : Int32) (x2 : Int32) : Option (Int64 × Mu) :=
  lt (mI m 0 (0 : Int32)) fun m1 =>
  (gX12_isSet m1 x1).bind fun y2 =>
  if y2 = 0 then (
  gX12_rows_25 m1 ) else (
    (gX12_within (x2.toInt64) (0 : Int64) (8 : Int64)).bind fun y3 =>
    if y3 = 0 then (
    gX12_rows_25 m1 ) else (
      (gX12_laysStands m1 (0 : Int32)).bind fun y4 =>
      (gX12_beginsMany y4 ).bind fun y5 =>
      gX12_rows_40 y5 x1 x2 (0 : Int32)))
theorem lX12_rows (a : Nat) (h : Hp) (m : Mu) (x1 : Int32) (x2 : Int32) : fX12_rows (mput a h m) a x1 x2 = (gX12_rows m x1 x2).map (fun (y : (Int64 × Mu)) => (y.1, mput a h y.2)) := by
  unfold fX12_rows gX12_rows
  simp only [lift_sV_0, lX12_isSet, lX12_rows_25, lX12_within, lX12_laysStands, lX12_beginsMany, lX12_rows_40, lift_lt, lift_gO, k_bs, k_mb, k_ms, k_bm, k_mm, k_il, k_ir, lift_ite, k_id]
noncomputable def gX12_most_56 (m : Mu) (x2 : Int32) (s0 : Int32) : Option ((Int32 × Int32) ⊕ (Int32 × Mu)) :=
  some (.inl (s0, (x2 + Int32.ofInt 1)))
theorem lX12_most_56 (a : Nat) (h : Hp) (m : Mu) (x2 : Int32) (s0 : Int32) : fX12_most_56 (mput a h m) a x2 s0 = (gX12_most_56 m x2 s0).map (Sum.map id (fun (y : (Int32 × Mu)) => (y.1, mput a h y.2))) := by
  unfold fX12_most_56 gX12_most_56
  simp only [lift_lt, lift_gO, k_bs, k_mb, k_ms, k_bm, k_mm, k_il, k_ir, lift_ite, k_id]
noncomputable def gX12_most_14b (m : Mu) (x1 : Int32) (x2 : Int32) : Option ((Int32 × Int32) ⊕ (Int32 × Mu)) :=
  if (m.1 33) ≤ x2 then (
    some (.inr (x1, m))) else (
    (mA m 13 x2).bind fun v3 =>
    (gX12_metIn m v3).bind fun y4 =>
    (gX12_bitsOf y4).bind fun y5 =>
    if y5 ≤ x1 then (
      gX12_most_56 m x2 x1) else (
      (mA m 13 x2).bind fun v6 =>
      (gX12_metIn m v6).bind fun y7 =>
      (gX12_bitsOf y7).bind fun y8 =>
      gX12_most_56 m x2 y8))
noncomputable def gX12_most_14 (m : Mu) (x1 : Int32) (x2 : Int32) : Option (Int32 × Mu) := lpw (σ := (Int32 × Int32)) (fun s => gX12_most_14b m  s.1 s.2) (x1, x2)
theorem lX12_most_14b (a : Nat) (h : Hp) (m : Mu) (x1 : Int32) (x2 : Int32) : fX12_most_14b (mput a h m) a x1 x2 = (gX12_most_14b m x1 x2).map (Sum.map id (fun (y : (Int32 × Mu)) => (y.1, mput a h y.2))) := by
  unfold fX12_most_14b gX12_most_14b
  simp only [lift_gI_33, lift_gN_29, lift_aI_13, lX12_metIn, lX12_bitsOf, lX12_most_56, lift_lt, lift_gO, k_bs, k_mb, k_ms, k_bm, k_mm, k_il, k_ir, lift_ite, k_id]
theorem lX12_most_14 (a : Nat) (h : Hp) (m : Mu) (x1 : Int32) (x2 : Int32) : fX12_most_14 (mput a h m) a x1 x2 = (gX12_most_14 m x1 x2).map (fun (y : (Int32 × Mu)) => (y.1, mput a h y.2)) := by
  unfold fX12_most_14 gX12_most_14
  exact lpw_map _ _ id (fun (y : (Int32 × Mu)) => (y.1, mput a h y.2)) (fun s => lX12_most_14b a h m s.1 s.2) (x1, x2)
noncomputable def gX12_most (m : Mu)  : Option (Int32 × Mu) :=
  lt (mI m 0 (0 : Int32)) fun m1 =>
  (gX12_laysStands m1 (0 : Int32)).bind fun y2 =>
  gX12_most_14 y2 (0 : Int32) (0 : Int32)
theorem lX12_most (a : Nat) (h : Hp) (m : Mu)  : fX12_most (mput a h m) a = (gX12_most m ).map (fun (y : (Int32 × Mu)) => (y.1, mput a h y.2)) := by
  unfold fX12_most gX12_most
  simp only [lift_sV_0, lX12_laysStands, lX12_most_14, lift_lt, lift_gO, k_bs, k_mb, k_ms, k_bm, k_mm, k_il, k_ir, lift_ite, k_id]
noncomputable def gX12_holding_218 (m : Mu)  : Option (Int32 × Mu) :=
  (gX12_standNow m ).bind fun y4 =>
  (mA m 15 y4).bind fun v5 =>
  (gX12_toldFar v5).bind fun y6 =>
  some ((y6, m))
theorem lX12_holding_218 (a : Nat) (h : Hp) (m : Mu)  : fX12_holding_218 (mput a h m) a = (gX12_holding_218 m ).map (fun (y : (Int32 × Mu)) => (y.1, mput a h y.2)) := by
  unfold fX12_holding_218 gX12_holding_218
  simp only [lift_gN_31, lX12_standNow, lift_aI_15, lX12_toldFar, lift_lt, lift_gO, k_bs, k_mb, k_ms, k_bm, k_mm, k_il, k_ir, lift_ite, k_id]
noncomputable def gX12_holding_209 (m : Mu) (x1 : Int32) (x2 : Int32) : Option ((Int32 × Int32 × Mu) ⊕ ((Int32 × Mu) ⊕ (Int32 × Mu))) :=
  some (.inl (x1, (x2 + Int32.ofInt 1), m))
theorem lX12_holding_209 (a : Nat) (h : Hp) (m : Mu) (x1 : Int32) (x2 : Int32) : fX12_holding_209 (mput a h m) a x1 x2 = (gX12_holding_209 m x1 x2).map (Sum.map (fun (s : (Int32 × Int32 × Mu)) => (s.1, s.2.1, mput a h s.2.2)) (Sum.map (fun (s : (Int32 × Mu)) => (s.1, mput a h s.2)) (fun (y : (Int32 × Mu)) => (y.1, mput a h y.2)))) := by
  unfold fX12_holding_209 gX12_holding_209
  simp only [lift_lt, lift_gO, k_bs, k_mb, k_ms, k_bm, k_mm, k_il, k_ir, lift_ite, k_id]
noncomputable def gX12_holding_174 (m : Mu) (x1 : Int32) (x2 : Int32) (x3 : Int32) (x4 : Int32) : Option ((Int32 × Int32 × Mu) ⊕ ((Int32 × Mu) ⊕ (Int32 × Mu))) :=
  (mA m 15 x3).bind fun v8 =>
  if v8 < (268435456 : Int32) then (
  gX12_holding_209 m x1 x2) else (
    if x4 = (268435456 : Int32) then (
      gX12_holding_209 m x1 x2) else (
      (mW m 15 x3 (x4 + (1 : Int32))).bind fun m9 =>
      gX12_holding_209 m9 (1 : Int32) x2))
theorem lX12_holding_174 (a : Nat) (h : Hp) (m : Mu) (x1 : Int32) (x2 : Int32) (x3 : Int32) (x4 : Int32) : fX12_holding_174 (mput a h m) a x1 x2 x3 x4 = (gX12_holding_174 m x1 x2 x3 x4).map (Sum.map (fun (s : (Int32 × Int32 × Mu)) => (s.1, s.2.1, mput a h s.2.2)) (Sum.map (fun (s : (Int32 × Mu)) => (s.1, mput a h s.2)) (fun (y : (Int32 × Mu)) => (y.1, mput a h y.2)))) := by
  unfold fX12_holding_174 gX12_holding_174
  simp only [lift_gN_31, lift_aI_15, lX12_holding_209, lift_wI_15, lift_lt, lift_gO, k_bs, k_mb, k_ms, k_bm, k_mm, k_il, k_ir, lift_ite, k_id]
noncomputable def gX12_holding_166 (m : Mu) (x1 : Int32) (x2 : Int32) (x3 : Int32) (x5 : Int32) (s0 : Int32) : Option ((Int32 × Int32) ⊕ ((Int32 × Int32 × Mu) ⊕ ((Int32 × Mu) ⊕ (Int32 × Mu)))) :=
  some (.inl (s0, (x5 + Int32.ofInt 1)))
theorem lX12_holding_166 (a : Nat) (h : Hp) (m : Mu) (x1 : Int32) (x2 : Int32) (x3 : Int32) (x5 : Int32) (s0 : Int32) : fX12_holding_166 (mput a h m) a x1 x2 x3 x5 s0 = (gX12_holding_166 m x1 x2 x3 x5 s0).map (Sum.map id (Sum.map (fun (s : (Int32 × Int32 × Mu)) => (s.1, s.2.1, mput a h s.2.2)) (Sum.map (fun (s : (Int32 × Mu)) => (s.1, mput a h s.2)) (fun (y : (Int32 × Mu)) => (y.1, mput a h y.2))))) := by
  unfold fX12_holding_166 gX12_holding_166
  simp only [lift_lt, lift_gO, k_bs, k_mb, k_ms, k_bm, k_mm, k_il, k_ir, lift_ite, k_id]
noncomputable def gX12_holding_101b (m : Mu) (x1 : Int32) (x2 : Int32) (x3 : Int32) (x4 : Int32) (x5 : Int32) : Option ((Int32 × Int32) ⊕ ((Int32 × Int32 × Mu) ⊕ ((Int32 × Mu) ⊕ (Int32 × Mu)))) :=
  if (m.1 21) ≤ x5 then (
  (gX12_holding_174 m x1 x2 x3 x4).map (fun q => .inr q)) else (
    (mA m 15 x3).bind fun v10 =>
    if v10 = (268435456 : Int32) then (
      (mA m 14 (((35 : Int32) * x3) + x5)).bind fun v11 =>
      (mA m 15 v11).bind fun v12 =>
      if v12 ≤ x4 then (
        gX12_holding_166 m x1 x2 x3 x5 x4) else (
        (mA m 14 (((35 : Int32) * x3) + x5)).bind fun v13 =>
        (mA m 15 v13).bind fun v14 =>
        gX12_holding_166 m x1 x2 x3 x5 v14)) else (
    (gX12_holding_174 m x1 x2 x3 x4).map (fun q => .inr q)))
noncomputable def gX12_holding_101 (m : Mu) (x1 : Int32) (x2 : Int32) (x3 : Int32) (x4 : Int32) (x5 : Int32) : Option ((Int32 × Int32 × Mu) ⊕ ((Int32 × Mu) ⊕ (Int32 × Mu))) := lpw (σ := (Int32 × Int32)) (fun s => gX12_holding_101b m x1 x2 x3 s.1 s.2) (x4, x5)
theorem lX12_holding_101b (a : Nat) (h : Hp) (m : Mu) (x1 : Int32) (x2 : Int32) (x3 : Int32) (x4 : Int32) (x5 : Int32) : fX12_holding_101b (mput a h m) a x1 x2 x3 x4 x5 = (gX12_holding_101b m x1 x2 x3 x4 x5).map (Sum.map id (Sum.map (fun (s : (Int32 × Int32 × Mu)) => (s.1, s.2.1, mput a h s.2.2)) (Sum.map (fun (s : (Int32 × Mu)) => (s.1, mput a h s.2)) (fun (y : (Int32 × Mu)) => (y.1, mput a h y.2))))) := by
  unfold fX12_holding_101b gX12_holding_101b
  simp only [lift_gI_21, lX12_holding_174, lift_gN_31, lift_aI_15, lift_gN_30, lift_aI_14, lX12_holding_166, lift_lt, lift_gO, k_bs, k_mb, k_ms, k_bm, k_mm, k_il, k_ir, lift_ite, k_id]
theorem lX12_holding_101 (a : Nat) (h : Hp) (m : Mu) (x1 : Int32) (x2 : Int32) (x3 : Int32) (x4 : Int32) (x5 : Int32) : fX12_holding_101 (mput a h m) a x1 x2 x3 x4 x5 = (gX12_holding_101 m x1 x2 x3 x4 x5).map (Sum.map (fun (s : (Int32 × Int32 × Mu)) => (s.1, s.2.1, mput a h s.2.2)) (Sum.map (fun (s : (Int32 × Mu)) => (s.1, mput a h s.2)) (fun (y : (Int32 × Mu)) => (y.1, mput a h y.2)))) := by
  unfold fX12_holding_101 gX12_holding_101
  exact lpw_map _ _ id (Sum.map (fun (s : (Int32 × Int32 × Mu)) => (s.1, s.2.1, mput a h s.2.2)) (Sum.map (fun (s : (Int32 × Mu)) => (s.1, mput a h s.2)) (fun (y : (Int32 × Mu)) => (y.1, mput a h y.2)))) (fun s => lX12_holding_101b a h m x1 x2 x3 s.1 s.2) (x4, x5)
noncomputable def gX12_holding_80b (m : Mu) (x1 : Int32) (x2 : Int32) : Option ((Int32 × Int32 × Mu) ⊕ ((Int32 × Mu) ⊕ (Int32 × Mu))) :=
  if (m.1 33) ≤ x2 then (
    some (.inr (.inl (x1, m)))) else (
    (mA m 13 x2).bind fun v7 =>
    gX12_holding_101 m x1 x2 v7 (-1 : Int32) (0 : Int32))
noncomputable def gX12_holding_80 (m : Mu) (x1 : Int32) (x2 : Int32) : Option ((Int32 × Mu) ⊕ (Int32 × Mu)) := lpw (σ := (Int32 × Int32 × Mu)) (fun s => gX12_holding_80b s.2.2  s.1 s.2.1) (x1, x2, m)
theorem lX12_holding_80b (a : Nat) (h : Hp) (m : Mu) (x1 : Int32) (x2 : Int32) : fX12_holding_80b (mput a h m) a x1 x2 = (gX12_holding_80b m x1 x2).map (Sum.map (fun (s : (Int32 × Int32 × Mu)) => (s.1, s.2.1, mput a h s.2.2)) (Sum.map (fun (s : (Int32 × Mu)) => (s.1, mput a h s.2)) (fun (y : (Int32 × Mu)) => (y.1, mput a h y.2)))) := by
  unfold fX12_holding_80b gX12_holding_80b
  simp only [lift_gI_33, lift_gN_29, lift_aI_13, lX12_holding_101, lift_lt, lift_gO, k_bs, k_mb, k_ms, k_bm, k_mm, k_il, k_ir, lift_ite, k_id]
theorem lX12_holding_80 (a : Nat) (h : Hp) (m : Mu) (x1 : Int32) (x2 : Int32) : fX12_holding_80 (mput a h m) a x1 x2 = (gX12_holding_80 m x1 x2).map (Sum.map (fun (s : (Int32 × Mu)) => (s.1, mput a h s.2)) (fun (y : (Int32 × Mu)) => (y.1, mput a h y.2))) := by
  unfold fX12_holding_80 gX12_holding_80
  exact lpw_map _ _ (fun (s : (Int32 × Int32 × Mu)) => (s.1, s.2.1, mput a h s.2.2)) (Sum.map (fun (s : (Int32 × Mu)) => (s.1, mput a h s.2)) (fun (y : (Int32 × Mu)) => (y.1, mput a h y.2))) (fun s => lX12_holding_80b a h s.2.2 s.1 s.2.1) (x1, x2, m)
noncomputable def gX12_holding_72b (m : Mu) (x1 : Int32) : Option ((Int32 × Mu) ⊕ (Int32 × Mu)) :=
  if x1 = 0 then (
  (gX12_holding_218 m ).map (fun q => .inr q)) else (
    gX12_holding_80 m (0 : Int32) (0 : Int32))
noncomputable def gX12_holding_72 (m : Mu) (x1 : Int32) : Option (Int32 × Mu) := lpw (σ := (Int32 × Mu)) (fun s => gX12_holding_72b s.2  s.1) (x1, m)
theorem lX12_holding_72b (a : Nat) (h : Hp) (m : Mu) (x1 : Int32) : fX12_holding_72b (mput a h m) a x1 = (gX12_holding_72b m x1).map (Sum.map (fun (s : (Int32 × Mu)) => (s.1, mput a h s.2)) (fun (y : (Int32 × Mu)) => (y.1, mput a h y.2))) := by
  unfold fX12_holding_72b gX12_holding_72b
  simp only [lX12_holding_218, lX12_holding_80, lift_lt, lift_gO, k_bs, k_mb, k_ms, k_bm, k_mm, k_il, k_ir, lift_ite, k_id]
theorem lX12_holding_72 (a : Nat) (h : Hp) (m : Mu) (x1 : Int32) : fX12_holding_72 (mput a h m) a x1 = (gX12_holding_72 m x1).map (fun (y : (Int32 × Mu)) => (y.1, mput a h y.2)) := by
  unfold fX12_holding_72 gX12_holding_72
  exact lpw_map _ _ (fun (s : (Int32 × Mu)) => (s.1, mput a h s.2)) (fun (y : (Int32 × Mu)) => (y.1, mput a h y.2)) (fun s => lX12_holding_72b a h s.2 s.1) (x1, m)
noncomputable def gX12_holding_70 (m : Mu)  : Option (Int32 × Mu) :=
  gX12_holding_72 m (1 : Int32)
theorem lX12_holding_70 (a : Nat) (h : Hp) (m : Mu)  : fX12_holding_70 (mput a h m) a = (gX12_holding_70 m ).map (fun (y : (Int32 × Mu)) => (y.1, mput a h y.2)) := by
  unfold fX12_holding_70 gX12_holding_70
  simp only [lX12_holding_72, lift_lt, lift_gO, k_bs, k_mb, k_ms, k_bm, k_mm, k_il, k_ir, lift_ite, k_id]
noncomputable def gX12_holding_63 (m : Mu) (x1 : Int32) (s1 : Int32) (s2 : Int32) : Option ((Int32 × Mu) ⊕ (Int32 × Mu)) :=
  (mW m 15 s1 s2).bind fun m18 =>
  some (.inl ((x1 + Int32.ofInt 1), m18))
theorem lX12_holding_63 (a : Nat) (h : Hp) (m : Mu) (x1 : Int32) (s1 : Int32) (s2 : Int32) : fX12_holding_63 (mput a h m) a x1 (a + 15) s1 s2 = (gX12_holding_63 m x1 s1 s2).map (Sum.map (fun (s : (Int32 × Mu)) => (s.1, mput a h s.2)) (fun (y : (Int32 × Mu)) => (y.1, mput a h y.2))) := by
  unfold fX12_holding_63 gX12_holding_63
  simp only [lift_wI_15, lift_lt, lift_gO, k_bs, k_mb, k_ms, k_bm, k_mm, k_il, k_ir, lift_ite, k_id]
noncomputable def gX12_holding_26b (m : Mu) (x1 : Int32) : Option ((Int32 × Mu) ⊕ (Int32 × Mu)) :=
  if (m.1 33) ≤ x1 then (
  (gX12_holding_70 m ).map (fun q => .inr q)) else (
    (mA m 13 x1).bind fun v15 =>
    (mA m 13 x1).bind fun v16 =>
    (gX12_hasFallen v16).bind fun y17 =>
    if y17 = 0 then (
      gX12_holding_63 m x1 v15 (268435456 : Int32)) else (
      gX12_holding_63 m x1 v15 (-1 : Int32)))
noncomputable def gX12_holding_26 (m : Mu) (x1 : Int32) : Option (Int32 × Mu) := lpw (σ := (Int32 × Mu)) (fun s => gX12_holding_26b s.2  s.1) (x1, m)
theorem lX12_holding_26b (a : Nat) (h : Hp) (m : Mu) (x1 : Int32) : fX12_holding_26b (mput a h m) a x1 = (gX12_holding_26b m x1).map (Sum.map (fun (s : (Int32 × Mu)) => (s.1, mput a h s.2)) (fun (y : (Int32 × Mu)) => (y.1, mput a h y.2))) := by
  unfold fX12_holding_26b gX12_holding_26b
  simp only [lift_gI_33, lX12_holding_70, lift_gN_31, lift_gN_29, lift_aI_13, lX12_hasFallen, lX12_holding_63, lift_lt, lift_gO, k_bs, k_mb, k_ms, k_bm, k_mm, k_il, k_ir, lift_ite, k_id]
theorem lX12_holding_26 (a : Nat) (h : Hp) (m : Mu) (x1 : Int32) : fX12_holding_26 (mput a h m) a x1 = (gX12_holding_26 m x1).map (fun (y : (Int32 × Mu)) => (y.1, mput a h y.2)) := by
  unfold fX12_holding_26 gX12_holding_26
  exact lpw_map _ _ (fun (s : (Int32 × Mu)) => (s.1, mput a h s.2)) (fun (y : (Int32 × Mu)) => (y.1, mput a h y.2)) (fun s => lX12_holding_26b a h s.2 s.1) (x1, m)
noncomputable def gX12_holding (m : Mu)  : Option (Int32 × Mu) :=
  lt (mI m 0 (0 : Int32)) fun m1 =>
  (mA m1 1 (24 : Int32)).bind fun v2 =>
  if v2 = (1 : Int32) then (
    some (((-5 : Int32), m1))) else (
    (gX12_laysStands m1 (0 : Int32)).bind fun y3 =>
    gX12_holding_26 y3 (0 : Int32))
theorem lX12_holding (a : Nat) (h : Hp) (m : Mu)  : fX12_holding (mput a h m) a = (gX12_holding m ).map (fun (y : (Int32 × Mu)) => (y.1, mput a h y.2)) := by
  unfold fX12_holding gX12_holding
  simp only [lift_sV_0, lift_gN_1, lift_aI_1, lX12_laysStands, lX12_holding_26, lift_lt, lift_gO, k_bs, k_mb, k_ms, k_bm, k_mm, k_il, k_ir, lift_ite, k_id]
noncomputable def gX12_felling_63 (m : Mu) (x1 : Int32) (s1 : Int32) (s2 : Int32) : Option ((Int32 × Mu) ⊕ (Int32 × Mu)) :=
  (mW m 15 s1 s2).bind fun m9 =>
  some (.inl ((x1 + Int32.ofInt 1), m9))
theorem lX12_felling_63 (a : Nat) (h : Hp) (m : Mu) (x1 : Int32) (s1 : Int32) (s2 : Int32) : fX12_felling_63 (mput a h m) a x1 (a + 15) s1 s2 = (gX12_felling_63 m x1 s1 s2).map (Sum.map (fun (s : (Int32 × Mu)) => (s.1, mput a h s.2)) (fun (y : (Int32 × Mu)) => (y.1, mput a h y.2))) := by
  unfold fX12_felling_63 gX12_felling_63
  simp only [lift_wI_15, lift_lt, lift_gO, k_bs, k_mb, k_ms, k_bm, k_mm, k_il, k_ir, lift_ite, k_id]
noncomputable def gX12_felling_26b (m : Mu) (x1 : Int32) : Option ((Int32 × Mu) ⊕ (Int32 × Mu)) :=
  if (m.1 33) ≤ x1 then (
    (gX12_laysFar m ).bind fun y4 =>
    (gX12_toldFar y4.1).bind fun y5 =>
    some (.inr (y5, y4.2))) else (
    (mA m 13 x1).bind fun v6 =>
    (mA m 13 x1).bind fun v7 =>
    (gX12_hasFallen v7).bind fun y8 =>
    if y8 = 0 then (
      gX12_felling_63 m x1 v6 (268435456 : Int32)) else (
      gX12_felling_63 m x1 v6 (0 : Int32)))
noncomputable def gX12_felling_26 (m : Mu) (x1 : Int32) : Option (Int32 × Mu) := lpw (σ := (Int32 × Mu)) (fun s => gX12_felling_26b s.2  s.1) (x1, m)
theorem lX12_felling_26b (a : Nat) (h : Hp) (m : Mu) (x1 : Int32) : fX12_felling_26b (mput a h m) a x1 = (gX12_felling_26b m x1).map (Sum.map (fun (s : (Int32 × Mu)) => (s.1, mput a h s.2)) (fun (y : (Int32 × Mu)) => (y.1, mput a h y.2))) := by
  unfold fX12_felling_26b gX12_felling_26b
  simp only [lift_gI_33, lX12_laysFar, lX12_toldFar, lift_gN_31, lift_gN_29, lift_aI_13, lX12_hasFallen, lX12_felling_63, lift_lt, lift_gO, k_bs, k_mb, k_ms, k_bm, k_mm, k_il, k_ir, lift_ite, k_id]
theorem lX12_felling_26 (a : Nat) (h : Hp) (m : Mu) (x1 : Int32) : fX12_felling_26 (mput a h m) a x1 = (gX12_felling_26 m x1).map (fun (y : (Int32 × Mu)) => (y.1, mput a h y.2)) := by
  unfold fX12_felling_26 gX12_felling_26
  exact lpw_map _ _ (fun (s : (Int32 × Mu)) => (s.1, mput a h s.2)) (fun (y : (Int32 × Mu)) => (y.1, mput a h y.2)) (fun s => lX12_felling_26b a h s.2 s.1) (x1, m)
noncomputable def gX12_felling (m : Mu)  : Option (Int32 × Mu) :=
  lt (mI m 0 (0 : Int32)) fun m1 =>
  (mA m1 1 (24 : Int32)).bind fun v2 =>
  if v2 = (1 : Int32) then (
    some (((-5 : Int32), m1))) else (
    (gX12_laysStands m1 (0 : Int32)).bind fun y3 =>
    gX12_felling_26 y3 (0 : Int32))
theorem lX12_felling (a : Nat) (h : Hp) (m : Mu)  : fX12_felling (mput a h m) a = (gX12_felling m ).map (fun (y : (Int32 × Mu)) => (y.1, mput a h y.2)) := by
  unfold fX12_felling gX12_felling
  simp only [lift_sV_0, lift_gN_1, lift_aI_1, lX12_laysStands, lX12_felling_26, lift_lt, lift_gO, k_bs, k_mb, k_ms, k_bm, k_mm, k_il, k_ir, lift_ite, k_id]
noncomputable def gX12_stands (m : Mu)  : Option (Int32 × Mu) :=
  lt (mI m 0 (0 : Int32)) fun m1 =>
  (gX12_laysStands m1 (0 : Int32)).bind fun y2 =>
  some (((y2.1 33), y2))
theorem lX12_stands (a : Nat) (h : Hp) (m : Mu)  : fX12_stands (mput a h m) a = (gX12_stands m ).map (fun (y : (Int32 × Mu)) => (y.1, mput a h y.2)) := by
  unfold fX12_stands gX12_stands
  simp only [lift_sV_0, lX12_laysStands, lift_gI_33, lift_lt, lift_gO, k_bs, k_mb, k_ms, k_bm, k_mm, k_il, k_ir, lift_ite, k_id]
noncomputable def gX12_noSeen_21 (m : Mu)  : Option Int32 :=
  some ((-2 : Int32))
theorem lX12_noSeen_21 (a : Nat) (h : Hp) (m : Mu)  : fX12_noSeen_21 (mput a h m)  = gX12_noSeen_21 m  := by
  unfold fX12_noSeen_21 gX12_noSeen_21
  simp only [lift_lt, lift_gO, k_bs, k_mb, k_ms, k_bm, k_mm, k_il, k_ir, lift_ite, k_id]
noncomputable def gX12_noSeen_59b (m : Mu) (x1 : Int32) (x4 : Int32) : Option (Int32 ⊕ Int32) :=
  (mA m 22 x1).bind fun v6 =>
  if v6 ≤ x4 then (
    some (.inr (0 : Int32))) else (
    (mJ m 23 (((40 : Int32) * x1) + x4)).bind fun v7 =>
    (gX12_within v7 (-1 : Int64) (9 : Int64)).bind fun y8 =>
    if y8 = 0 then (
      some (.inr (-3 : Int32))) else (
      some (.inl (x4 + Int32.ofInt 1))))
noncomputable def gX12_noSeen_59 (m : Mu) (x1 : Int32) (x4 : Int32) : Option Int32 := lpw (σ := Int32) (fun s => gX12_noSeen_59b m x1 s) x4
theorem lX12_noSeen_59b (a : Nat) (h : Hp) (m : Mu) (x1 : Int32) (x4 : Int32) : fX12_noSeen_59b (mput a h m) a x1 x4 = gX12_noSeen_59b m x1 x4 := by
  unfold fX12_noSeen_59b gX12_noSeen_59b
  simp only [lift_gN_39, lift_aI_22, lift_gN_40, lift_aJ_23, lX12_within, lift_lt, lift_gO, k_bs, k_mb, k_ms, k_bm, k_mm, k_il, k_ir, lift_ite, k_id]
theorem lX12_noSeen_59 (a : Nat) (h : Hp) (m : Mu) (x1 : Int32) (x4 : Int32) : fX12_noSeen_59 (mput a h m) a x1 x4 = gX12_noSeen_59 m x1 x4 := by
  unfold fX12_noSeen_59 gX12_noSeen_59
  refine congrArg (fun b => lpw b _) (funext (fun s => ?_))
  exact lX12_noSeen_59b a h m x1 s
noncomputable def gX12_noSeen (m : Mu) (x1 : Int32) (x2 : Int32) : Option Int32 :=
  (gX12_within (x1.toInt64) (0 : Int64) (3 : Int64)).bind fun y1 =>
  if y1 = 0 then (
  gX12_noSeen_21 m ) else (
    (gX12_isPair m (x2.toInt64)).bind fun y2 =>
    if y2 = 0 then (
    gX12_noSeen_21 m ) else (
      (gX12_noTray m x1).bind fun y3 =>
      if y3 = 0 then (
        (mA m 22 x1).bind fun v4 =>
        (gX12_within (v4.toInt64) (1 : Int64) (10 : Int64)).bind fun y5 =>
        if y5 = 0 then (
          some ((-4 : Int32))) else (
          gX12_noSeen_59 m x1 (0 : Int32))) else (
        some (y3))))
theorem lX12_noSeen (a : Nat) (h : Hp) (m : Mu) (x1 : Int32) (x2 : Int32) : fX12_noSeen (mput a h m) a x1 x2 = gX12_noSeen m x1 x2 := by
  unfold fX12_noSeen gX12_noSeen
  simp only [lX12_within, lX12_noSeen_21, lX12_isPair, lX12_noTray, lift_gN_39, lift_aI_22, lX12_noSeen_59, lift_lt, lift_gO, k_bs, k_mb, k_ms, k_bm, k_mm, k_il, k_ir, lift_ite, k_id]
noncomputable def gX12_dryIn (m : Mu) (x1 : Int32) (x2 : Int32) (x3 : Int32) : Option Int32 :=
  (mA m 22 x1).bind fun v1 =>
  some (((x2 >>> (((v1 - (1 : Int32)) - x3) &&& 31)) &&& (1 : Int32)))
theorem lX12_dryIn (a : Nat) (h : Hp) (m : Mu) (x1 : Int32) (x2 : Int32) (x3 : Int32) : fX12_dryIn (mput a h m) a x1 x2 x3 = gX12_dryIn m x1 x2 x3 := by
  unfold fX12_dryIn gX12_dryIn
  simp only [lift_gN_39, lift_aI_22, lift_lt, lift_gO, k_bs, k_mb, k_ms, k_bm, k_mm, k_il, k_ir, lift_ite, k_id]
noncomputable def gX12_isSeen_87 (m : Mu) (x1 : Int32) (x2 : Int32) (x3 : Int32) (x4 : Int32) (x5 : Int32) : Option ((Int32 × Int32 × Mu) ⊕ (Int32 × Mu)) :=
  some (.inl (x4, (x5 + Int32.ofInt 1), m))
theorem lX12_isSeen_87 (a : Nat) (h : Hp) (m : Mu) (x1 : Int32) (x2 : Int32) (x3 : Int32) (x4 : Int32) (x5 : Int32) : fX12_isSeen_87 (mput a h m) a x1 x2 x3 x4 x5 = (gX12_isSeen_87 m x1 x2 x3 x4 x5).map (Sum.map (fun (s : (Int32 × Int32 × Mu)) => (s.1, s.2.1, mput a h s.2.2)) (fun (y : (Int32 × Mu)) => (y.1, mput a h y.2))) := by
  unfold fX12_isSeen_87 gX12_isSeen_87
  simp only [lift_lt, lift_gO, k_bs, k_mb, k_ms, k_bm, k_mm, k_il, k_ir, lift_ite, k_id]
noncomputable def gX12_isSeen_9b (m : Mu) (x1 : Int32) (x2 : Int32) (x3 : Int32) (x4 : Int32) (x5 : Int32) : Option ((Int32 × Int32 × Mu) ⊕ (Int32 × Mu)) :=
  (mA m 22 x1).bind fun v2 =>
  if v2 ≤ x5 then (
    some (.inr ((1 : Int32), m))) else (
    (mA m 1 (23 : Int32)).bind fun v3 =>
    (gX12_dryIn m x1 x3 x5).bind fun y4 =>
    (gX12_yearTo m x4 v3 y4).bind fun y5 =>
    (mJ y5.2 23 (((40 : Int32) * x1) + x5)).bind fun v6 =>
    if (lg_cmp v6 (-1 : Int64)) = 0 then (
    gX12_isSeen_87 y5.2 x1 x2 x3 y5.1 x5) else (
      (mJ y5.2 23 (((40 : Int32) * x1) + x5)).bind fun v7 =>
      (gX12_gapIn y5.1 x2).bind fun y8 =>
      if (lg_cmp v7 (y8.toInt64)) = 0 then (
      gX12_isSeen_87 y5.2 x1 x2 x3 y5.1 x5) else (
        some (.inr ((0 : Int32), y5.2)))))
noncomputable def gX12_isSeen_9 (m : Mu) (x1 : Int32) (x2 : Int32) (x3 : Int32) (x4 : Int32) (x5 : Int32) : Option (Int32 × Mu) := lpw (σ := (Int32 × Int32 × Mu)) (fun s => gX12_isSeen_9b s.2.2 x1 x2 x3 s.1 s.2.1) (x4, x5, m)
theorem lX12_isSeen_9b (a : Nat) (h : Hp) (m : Mu) (x1 : Int32) (x2 : Int32) (x3 : Int32) (x4 : Int32) (x5 : Int32) : fX12_isSeen_9b (mput a h m) a x1 x2 x3 x4 x5 = (gX12_isSeen_9b m x1 x2 x3 x4 x5).map (Sum.map (fun (s : (Int32 × Int32 × Mu)) => (s.1, s.2.1, mput a h s.2.2)) (fun (y : (Int32 × Mu)) => (y.1, mput a h y.2))) := by
  unfold fX12_isSeen_9b gX12_isSeen_9b
  simp only [lift_gN_39, lift_aI_22, lift_gN_1, lift_aI_1, lX12_dryIn, lX12_yearTo, lift_gN_40, lift_aJ_23, lX12_isSeen_87, lX12_gapIn, lift_lt, lift_gO, k_bs, k_mb, k_ms, k_bm, k_mm, k_il, k_ir, lift_ite, k_id]
theorem lX12_isSeen_9 (a : Nat) (h : Hp) (m : Mu) (x1 : Int32) (x2 : Int32) (x3 : Int32) (x4 : Int32) (x5 : Int32) : fX12_isSeen_9 (mput a h m) a x1 x2 x3 x4 x5 = (gX12_isSeen_9 m x1 x2 x3 x4 x5).map (fun (y : (Int32 × Mu)) => (y.1, mput a h y.2)) := by
  unfold fX12_isSeen_9 gX12_isSeen_9
  exact lpw_map _ _ (fun (s : (Int32 × Int32 × Mu)) => (s.1, s.2.1, mput a h s.2.2)) (fun (y : (Int32 × Mu)) => (y.1, mput a h y.2)) (fun s => lX12_isSeen_9b a h s.2.2 x1 x2 x3 s.1 s.2.1) (x4, x5, m)
noncomputable def gX12_isSeen (m : Mu) (x1 : Int32) (x2 : Int32) (x3 : Int32) : Option (Int32 × Mu) :=
  (gX12_standNow m ).bind fun y1 =>
  gX12_isSeen_9 m x1 x2 x3 y1 (0 : Int32)
theorem lX12_isSeen (a : Nat) (h : Hp) (m : Mu) (x1 : Int32) (x2 : Int32) (x3 : Int32) : fX12_isSeen (mput a h m) a x1 x2 x3 = (gX12_isSeen m x1 x2 x3).map (fun (y : (Int32 × Mu)) => (y.1, mput a h y.2)) := by
  unfold fX12_isSeen gX12_isSeen
  simp only [lX12_standNow, lX12_isSeen_9, lift_lt, lift_gO, k_bs, k_mb, k_ms, k_bm, k_mm, k_il, k_ir, lift_ite, k_id]
noncomputable def gX12_seen_55 (m : Mu) (x1 : Int32) (x2 : Int32) (x5 : Int32) (s0 : Int32) (s1 : Int32) : Option ((Int32 × Int32 × Mu) ⊕ (Int32 × Mu)) :=
  some (.inl ((s0 + s1), (x5 + Int32.ofInt 1), m))
theorem lX12_seen_55 (a : Nat) (h : Hp) (m : Mu) (x1 : Int32) (x2 : Int32) (x5 : Int32) (s0 : Int32) (s1 : Int32) : fX12_seen_55 (mput a h m) a x1 x2 x5 s0 s1 = (gX12_seen_55 m x1 x2 x5 s0 s1).map (Sum.map (fun (s : (Int32 × Int32 × Mu)) => (s.1, s.2.1, mput a h s.2.2)) (fun (y : (Int32 × Mu)) => (y.1, mput a h y.2))) := by
  unfold fX12_seen_55 gX12_seen_55
  simp only [lift_lt, lift_gO, k_bs, k_mb, k_ms, k_bm, k_mm, k_il, k_ir, lift_ite, k_id]
noncomputable def gX12_seen_24b (m : Mu) (x1 : Int32) (x2 : Int32) (x4 : Int32) (x5 : Int32) : Option ((Int32 × Int32 × Mu) ⊕ (Int32 × Mu)) :=
  (mA m 22 x1).bind fun v3 =>
  if ((1 : Int32) <<< (v3 &&& 31)) ≤ x5 then (
    some (.inr (x4, m))) else (
    (gX12_isSeen m x1 x2 x5).bind fun y4 =>
    if y4.1 = 0 then (
      gX12_seen_55 y4.2 x1 x2 x5 x4 (0 : Int32)) else (
      gX12_seen_55 y4.2 x1 x2 x5 x4 (1 : Int32)))
noncomputable def gX12_seen_24 (m : Mu) (x1 : Int32) (x2 : Int32) (x4 : Int32) (x5 : Int32) : Option (Int32 × Mu) := lpw (σ := (Int32 × Int32 × Mu)) (fun s => gX12_seen_24b s.2.2 x1 x2 s.1 s.2.1) (x4, x5, m)
theorem lX12_seen_24b (a : Nat) (h : Hp) (m : Mu) (x1 : Int32) (x2 : Int32) (x4 : Int32) (x5 : Int32) : fX12_seen_24b (mput a h m) a x1 x2 x4 x5 = (gX12_seen_24b m x1 x2 x4 x5).map (Sum.map (fun (s : (Int32 × Int32 × Mu)) => (s.1, s.2.1, mput a h s.2.2)) (fun (y : (Int32 × Mu)) => (y.1, mput a h y.2))) := by
  unfold fX12_seen_24b gX12_seen_24b
  simp only [lift_gN_39, lift_aI_22, lX12_isSeen, lX12_seen_55, lift_lt, lift_gO, k_bs, k_mb, k_ms, k_bm, k_mm, k_il, k_ir, lift_ite, k_id]
theorem lX12_seen_24 (a : Nat) (h : Hp) (m : Mu) (x1 : Int32) (x2 : Int32) (x4 : Int32) (x5 : Int32) : fX12_seen_24 (mput a h m) a x1 x2 x4 x5 = (gX12_seen_24 m x1 x2 x4 x5).map (fun (y : (Int32 × Mu)) => (y.1, mput a h y.2)) := by
  unfold fX12_seen_24 gX12_seen_24
  exact lpw_map _ _ (fun (s : (Int32 × Int32 × Mu)) => (s.1, s.2.1, mput a h s.2.2)) (fun (y : (Int32 × Mu)) => (y.1, mput a h y.2)) (fun s => lX12_seen_24b a h s.2.2 x1 x2 s.1 s.2.1) (x4, x5, m)
noncomputable def gX12_seen (m : Mu) (x1 : Int32) (x2 : Int32) : Option (Int32 × Mu) :=
  lt (mI m 0 (0 : Int32)) fun m1 =>
  (gX12_noSeen m1 x1 x2).bind fun y2 =>
  if y2 = 0 then (
    gX12_seen_24 m1 x1 x2 (0 : Int32) (0 : Int32)) else (
    some ((y2, m1)))
theorem lX12_seen (a : Nat) (h : Hp) (m : Mu) (x1 : Int32) (x2 : Int32) : fX12_seen (mput a h m) a x1 x2 = (gX12_seen m x1 x2).map (fun (y : (Int32 × Mu)) => (y.1, mput a h y.2)) := by
  unfold fX12_seen gX12_seen
  simp only [lift_sV_0, lX12_noSeen, lX12_seen_24, lift_lt, lift_gO, k_bs, k_mb, k_ms, k_bm, k_mm, k_il, k_ir, lift_ite, k_id]
noncomputable def gX12_seenDry_80 (m : Mu)  : Option (Int32 × Mu) :=
  some (((-1 : Int32), m))
theorem lX12_seenDry_80 (a : Nat) (h : Hp) (m : Mu)  : fX12_seenDry_80 (mput a h m)  = (gX12_seenDry_80 m ).map (fun (y : (Int32 × Mu)) => (y.1, mput a h y.2)) := by
  unfold fX12_seenDry_80 gX12_seenDry_80
  simp only [lift_lt, lift_gO, k_bs, k_mb, k_ms, k_bm, k_mm, k_il, k_ir, lift_ite, k_id]
noncomputable def gX12_seenDry_65 (m : Mu) (x1 : Int32) (x3 : Int32) (x5 : Int32) : Option (Int32 × Mu) :=
  (gX12_dryIn m x1 x5 x3).bind fun y6 =>
  some ((y6, m))
theorem lX12_seenDry_65 (a : Nat) (h : Hp) (m : Mu) (x1 : Int32) (x3 : Int32) (x5 : Int32) : fX12_seenDry_65 (mput a h m) a x1 x3 x5 = (gX12_seenDry_65 m x1 x3 x5).map (fun (y : (Int32 × Mu)) => (y.1, mput a h y.2)) := by
  unfold fX12_seenDry_65 gX12_seenDry_65
  simp only [lX12_dryIn, lift_lt, lift_gO, k_bs, k_mb, k_ms, k_bm, k_mm, k_il, k_ir, lift_ite, k_id]
noncomputable def gX12_seenDry_31b (m : Mu) (x1 : Int32) (x2 : Int32) (x3 : Int32) (x5 : Int32) : Option ((Int32 × Mu) ⊕ (Int32 × Mu)) :=
  (mA m 22 x1).bind fun v3 =>
  if ((1 : Int32) <<< (v3 &&& 31)) ≤ x5 then (
  (gX12_seenDry_80 m ).map (fun q => .inr q)) else (
    (mA m 22 x1).bind fun v4 =>
    if v4 ≤ x3 then (
    (gX12_seenDry_80 m ).map (fun q => .inr q)) else (
      (gX12_isSeen m x1 x2 x5).bind fun y5 =>
      if y5.1 = 0 then (
        some (.inl ((x5 + Int32.ofInt 1), y5.2))) else (
      (gX12_seenDry_65 y5.2 x1 x3 x5).map (fun q => .inr q))))
noncomputable def gX12_seenDry_31 (m : Mu) (x1 : Int32) (x2 : Int32) (x3 : Int32) (x5 : Int32) : Option (Int32 × Mu) := lpw (σ := (Int32 × Mu)) (fun s => gX12_seenDry_31b s.2 x1 x2 x3 s.1) (x5, m)
theorem lX12_seenDry_31b (a : Nat) (h : Hp) (m : Mu) (x1 : Int32) (x2 : Int32) (x3 : Int32) (x5 : Int32) : fX12_seenDry_31b (mput a h m) a x1 x2 x3 x5 = (gX12_seenDry_31b m x1 x2 x3 x5).map (Sum.map (fun (s : (Int32 × Mu)) => (s.1, mput a h s.2)) (fun (y : (Int32 × Mu)) => (y.1, mput a h y.2))) := by
  unfold fX12_seenDry_31b gX12_seenDry_31b
  simp only [lift_gN_39, lift_aI_22, lX12_seenDry_80, lX12_isSeen, lX12_seenDry_65, lift_lt, lift_gO, k_bs, k_mb, k_ms, k_bm, k_mm, k_il, k_ir, lift_ite, k_id]
theorem lX12_seenDry_31 (a : Nat) (h : Hp) (m : Mu) (x1 : Int32) (x2 : Int32) (x3 : Int32) (x5 : Int32) : fX12_seenDry_31 (mput a h m) a x1 x2 x3 x5 = (gX12_seenDry_31 m x1 x2 x3 x5).map (fun (y : (Int32 × Mu)) => (y.1, mput a h y.2)) := by
  unfold fX12_seenDry_31 gX12_seenDry_31
  exact lpw_map _ _ (fun (s : (Int32 × Mu)) => (s.1, mput a h s.2)) (fun (y : (Int32 × Mu)) => (y.1, mput a h y.2)) (fun s => lX12_seenDry_31b a h s.2 x1 x2 x3 s.1) (x5, m)
noncomputable def gX12_seenDry (m : Mu) (x1 : Int32) (x2 : Int32) (x3 : Int32) : Option (Int32 × Mu) :=
  lt (mI m 0 (0 : Int32)) fun m1 =>
  (gX12_noSeen m1 x1 x2).bind fun y2 =>
  if y2 = 0 then (
    if 0 ≤ x3 then (
      gX12_seenDry_31 m1 x1 x2 x3 (0 : Int32)) else (
      some (((-3 : Int32), m1)))) else (
    some ((y2, m1)))
theorem lX12_seenDry (a : Nat) (h : Hp) (m : Mu) (x1 : Int32) (x2 : Int32) (x3 : Int32) : fX12_seenDry (mput a h m) a x1 x2 x3 = (gX12_seenDry m x1 x2 x3).map (fun (y : (Int32 × Mu)) => (y.1, mput a h y.2)) := by
  unfold fX12_seenDry gX12_seenDry
  simp only [lift_sV_0, lX12_noSeen, lX12_seenDry_31, lift_lt, lift_gO, k_bs, k_mb, k_ms, k_bm, k_mm, k_il, k_ir, lift_ite, k_id]
