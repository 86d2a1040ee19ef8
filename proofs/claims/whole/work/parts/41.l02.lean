/-! the reference over its own numbers -/
noncomputable def gX12_between_50 (s0 : Int32) : Option Int32 :=
  some (s0)
theorem lX12_between_50 (h : Hp) (s0 : Int32) : fX12_between_50 h s0 = gX12_between_50 s0 := by
  unfold fX12_between_50 gX12_between_50
  simp only [lift_lt, lift_gO, k_bs, k_mb, k_ms, k_bm, k_mm, k_il, k_ir, lift_ite, k_id]
noncomputable def gX12_between_61 (s0 : Int32) : Option Int32 :=
  some (s0)
theorem lX12_between_61 (h : Hp) (s0 : Int32) : fX12_between_61 h s0 = gX12_between_61 s0 := by
  unfold fX12_between_61 gX12_between_61
  simp only [lift_lt, lift_gO, k_bs, k_mb, k_ms, k_bm, k_mm, k_il, k_ir, lift_ite, k_id]
noncomputable def gX12_between_72 (s0 : Int32) : Option Int32 :=
  some (s0)
theorem lX12_between_72 (h : Hp) (s0 : Int32) : fX12_between_72 h s0 = gX12_between_72 s0 := by
  unfold fX12_between_72 gX12_between_72
  simp only [lift_lt, lift_gO, k_bs, k_mb, k_ms, k_bm, k_mm, k_il, k_ir, lift_ite, k_id]
noncomputable def gX12_between_146 (s0 : Int64) : Option Int32 :=
  some ((s0.toInt32))
theorem lX12_between_146 (h : Hp) (s0 : Int64) : fX12_between_146 h s0 = gX12_between_146 s0 := by
  unfold fX12_between_146 gX12_between_146
  simp only [lift_lt, lift_gO, k_bs, k_mb, k_ms, k_bm, k_mm, k_il, k_ir, lift_ite, k_id]
noncomputable def gX12_between_116 (s0 : Int64) : Option Int32 :=
  if (lg_cmp s0 (1000000 : Int64)) ≤ 0 then (
    if 0 ≤ (lg_cmp s0 (-1000000 : Int64)) then (
      gX12_between_146 s0) else (
      gX12_between_146 (-1000000 : Int64))) else (
    gX12_between_146 (1000000 : Int64))
theorem lX12_between_116 (h : Hp) (s0 : Int64) : fX12_between_116 h s0 = gX12_between_116 s0 := by
  unfold fX12_between_116 gX12_between_116
  simp only [lX12_between_146, lift_lt, lift_gO, k_bs, k_mb, k_ms, k_bm, k_mm, k_il, k_ir, lift_ite, k_id]
noncomputable def gX12_between (x0 : Int32) (x1 : Int32) (x2 : Int32) : Option Int32 :=
  if x0 = 3003 then (
    if x1 = x2 then (
      gX12_between_50 (1 : Int32)) else (
      gX12_between_50 (0 : Int32))) else (
if x0 = 3004 then (
    if x2 ≤ x1 then (
      gX12_between_61 (0 : Int32)) else (
      gX12_between_61 (1 : Int32))) else (
if x0 = 3005 then (
    if x1 ≤ x2 then (
      gX12_between_72 (0 : Int32)) else (
      gX12_between_72 (1 : Int32))) else (
if x0 = 3006 then (
    if x0 = (3000 : Int32) then (
      gX12_between_116 ((x1.toInt64) + (x2.toInt64))) else (
      if x0 = (3001 : Int32) then (
        gX12_between_116 ((x1.toInt64) - (x2.toInt64))) else (
        gX12_between_116 ((x1.toInt64) * (x2.toInt64))))) else (
if x0 = 3007 then (
    some ((x1 &&& x2))) else (
if x0 = 3008 then (
    some ((x1 ||| x2))) else (
    if x0 = (3000 : Int32) then (
      gX12_between_116 ((x1.toInt64) + (x2.toInt64))) else (
      if x0 = (3001 : Int32) then (
        gX12_between_116 ((x1.toInt64) - (x2.toInt64))) else (
        gX12_between_116 ((x1.toInt64) * (x2.toInt64))))))))))
theorem lX12_between (h : Hp) (x0 : Int32) (x1 : Int32) (x2 : Int32) : fX12_between h x0 x1 x2 = gX12_between x0 x1 x2 := by
  unfold fX12_between gX12_between
  simp only [lX12_between_50, lX12_between_61, lX12_between_72, lX12_between_116, lift_lt, lift_gO, k_bs, k_mb, k_ms, k_bm, k_mm, k_il, k_ir, lift_ite, k_id]
noncomputable def gX12_reckons_193 (m : Mu) (x1 : Int32) (x2 : Int32) (x3 : Int32) : Option ((Int32 × Int32 × Mu) ⊕ (Int32 × Mu)) :=
  some (.inl (x2, (x3 + Int32.ofInt 1), m))
theorem lX12_reckons_193 (a : Nat) (h : Hp) (m : Mu) (x1 : Int32) (x2 : Int32) (x3 : Int32) : fX12_reckons_193 (mput a h m) a x1 x2 x3 = (gX12_reckons_193 m x1 x2 x3).map (Sum.map (fun (s : (Int32 × Int32 × Mu)) => (s.1, s.2.1, mput a h s.2.2)) (fun (y : (Int32 × Mu)) => (y.1, mput a h y.2))) := by
  unfold fX12_reckons_193 gX12_reckons_193
  simp only [lift_lt, lift_gO, k_bs, k_mb, k_ms, k_bm, k_mm, k_il, k_ir, lift_ite, k_id]
noncomputable def gX12_reckons_159 (m : Mu) (x1 : Int32) (x2 : Int32) (x3 : Int32) (s1 : Int32) (s2 : Int32) : Option ((Int32 × Int32 × Mu) ⊕ (Int32 × Mu)) :=
  (mW m 5 s1 s2).bind fun m11 =>
  gX12_reckons_193 m11 x1 x2 x3
theorem lX12_reckons_159 (a : Nat) (h : Hp) (m : Mu) (x1 : Int32) (x2 : Int32) (x3 : Int32) (s1 : Int32) (s2 : Int32) : fX12_reckons_159 (mput a h m) a x1 x2 x3 (a + 5) s1 s2 = (gX12_reckons_159 m x1 x2 x3 s1 s2).map (Sum.map (fun (s : (Int32 × Int32 × Mu)) => (s.1, s.2.1, mput a h s.2.2)) (fun (y : (Int32 × Mu)) => (y.1, mput a h y.2))) := by
  unfold fX12_reckons_159 gX12_reckons_159
  simp only [lift_wI_5, lX12_reckons_193, lift_lt, lift_gO, k_bs, k_mb, k_ms, k_bm, k_mm, k_il, k_ir, lift_ite, k_id]
noncomputable def gX12_reckons_76 (m : Mu) (x1 : Int32) (x2 : Int32) (x3 : Int32) (s1 : Int32) (s2 : Int32) : Option ((Int32 × Int32 × Mu) ⊕ (Int32 × Mu)) :=
  (mW m 5 s1 s2).bind fun m16 =>
  gX12_reckons_193 m16 x1 (x2 + Int32.ofInt 1) x3
theorem lX12_reckons_76 (a : Nat) (h : Hp) (m : Mu) (x1 : Int32) (x2 : Int32) (x3 : Int32) (s1 : Int32) (s2 : Int32) : fX12_reckons_76 (mput a h m) a x1 x2 x3 (a + 5) s1 s2 = (gX12_reckons_76 m x1 x2 x3 s1 s2).map (Sum.map (fun (s : (Int32 × Int32 × Mu)) => (s.1, s.2.1, mput a h s.2.2)) (fun (y : (Int32 × Mu)) => (y.1, mput a h y.2))) := by
  unfold fX12_reckons_76 gX12_reckons_76
  simp only [lift_wI_5, lX12_reckons_193, lift_lt, lift_gO, k_bs, k_mb, k_ms, k_bm, k_mm, k_il, k_ir, lift_ite, k_id]
noncomputable def gX12_reckons_4b (m : Mu) (x1 : Int32) (x2 : Int32) (x3 : Int32) : Option ((Int32 × Int32 × Mu) ⊕ (Int32 × Mu)) :=
  (mA m 1 ((9 : Int32) + x1)).bind fun v1 =>
  if v1 ≤ x3 then (
    (mA m 5 (0 : Int32)).bind fun v2 =>
    some (.inr (v2, m))) else (
    (mA m 1 ((7 : Int32) + x1)).bind fun v3 =>
    (mA m 1 (((138 : Int32) + v3) + x3)).bind fun v4 =>
    if (3000 : Int32) ≤ v4 then (
      if v4 = (3006 : Int32) then (
        (mA m 5 (x2 - (1 : Int32))).bind fun v13 =>
        (mW m 5 (x2 - (1 : Int32)) ((1 : Int32) - v13)).bind fun m14 =>
        gX12_reckons_193 m14 x1 x2 x3) else (
        if v4 = (3009 : Int32) then (
          (mA m 5 ((x2 + Int32.ofInt (-2)) - (1 : Int32))).bind fun v9 =>
          if v9 = (1 : Int32) then (
            (mA m 5 (x2 + Int32.ofInt (-2))).bind fun v12 =>
            gX12_reckons_159 m x1 (x2 + Int32.ofInt (-2)) x3 ((x2 + Int32.ofInt (-2)) - (1 : Int32)) v12) else (
            (mA m 5 ((x2 + Int32.ofInt (-2)) + (1 : Int32))).bind fun v10 =>
            gX12_reckons_159 m x1 (x2 + Int32.ofInt (-2)) x3 ((x2 + Int32.ofInt (-2)) - (1 : Int32)) v10)) else (
          (mA m 5 ((x2 + Int32.ofInt (-1)) - (1 : Int32))).bind fun v5 =>
          (mA m 5 (x2 + Int32.ofInt (-1))).bind fun v6 =>
          (gX12_between v4 v5 v6).bind fun y7 =>
          (mW m 5 ((x2 + Int32.ofInt (-1)) - (1 : Int32)) y7).bind fun m8 =>
          gX12_reckons_193 m8 x1 (x2 + Int32.ofInt (-1)) x3))) else (
      if (1000 : Int32) ≤ v4 then (
        (mA m 6 (v4 - (1000 : Int32))).bind fun v15 =>
        gX12_reckons_76 m x1 x2 x3 x2 v15) else (
        gX12_reckons_76 m x1 x2 x3 x2 v4)))
noncomputable def gX12_reckons_4 (m : Mu) (x1 : Int32) (x2 : Int32) (x3 : Int32) : Option (Int32 × Mu) := lpw (σ := (Int32 × Int32 × Mu)) (fun s => gX12_reckons_4b s.2.2 x1 s.1 s.2.1) (x2, x3, m)
theorem lX12_reckons_4b (a : Nat) (h : Hp) (m : Mu) (x1 : Int32) (x2 : Int32) (x3 : Int32) : fX12_reckons_4b (mput a h m) a x1 x2 x3 = (gX12_reckons_4b m x1 x2 x3).map (Sum.map (fun (s : (Int32 × Int32 × Mu)) => (s.1, s.2.1, mput a h s.2.2)) (fun (y : (Int32 × Mu)) => (y.1, mput a h y.2))) := by
  unfold fX12_reckons_4b gX12_reckons_4b
  simp only [lift_gN_1, lift_aI_1, lift_gN_16, lift_aI_5, lX12_between, lift_wI_5, lX12_reckons_193, lX12_reckons_159, lift_gN_17, lift_aI_6, lX12_reckons_76, lift_lt, lift_gO, k_bs, k_mb, k_ms, k_bm, k_mm, k_il, k_ir, lift_ite, k_id]
theorem lX12_reckons_4 (a : Nat) (h : Hp) (m : Mu) (x1 : Int32) (x2 : Int32) (x3 : Int32) : fX12_reckons_4 (mput a h m) a x1 x2 x3 = (gX12_reckons_4 m x1 x2 x3).map (fun (y : (Int32 × Mu)) => (y.1, mput a h y.2)) := by
  unfold fX12_reckons_4 gX12_reckons_4
  exact lpw_map _ _ (fun (s : (Int32 × Int32 × Mu)) => (s.1, s.2.1, mput a h s.2.2)) (fun (y : (Int32 × Mu)) => (y.1, mput a h y.2)) (fun s => lX12_reckons_4b a h s.2.2 x1 s.1 s.2.1) (x2, x3, m)
noncomputable def gX12_reckons (m : Mu) (x1 : Int32) : Option (Int32 × Mu) :=
  gX12_reckons_4 m x1 (0 : Int32) (0 : Int32)
theorem lX12_reckons (a : Nat) (h : Hp) (m : Mu) (x1 : Int32) : fX12_reckons (mput a h m) a x1 = (gX12_reckons m x1).map (fun (y : (Int32 × Mu)) => (y.1, mput a h y.2)) := by
  unfold fX12_reckons gX12_reckons
  simp only [lX12_reckons_4, lift_lt, lift_gO, k_bs, k_mb, k_ms, k_bm, k_mm, k_il, k_ir, lift_ite, k_id]
noncomputable def gX12_growsBy_99 (m : Mu) (s0 : Int32) : Option (Int32 × Mu) :=
  some ((s0, m))
theorem lX12_growsBy_99 (a : Nat) (h : Hp) (m : Mu) (s0 : Int32) : fX12_growsBy_99 (mput a h m) s0 = (gX12_growsBy_99 m s0).map (fun (y : (Int32 × Mu)) => (y.1, mput a h y.2)) := by
  unfold fX12_growsBy_99 gX12_growsBy_99
  simp only [lift_lt, lift_gO, k_bs, k_mb, k_ms, k_bm, k_mm, k_il, k_ir, lift_ite, k_id]
noncomputable def gX12_growsBy_20 (m : Mu) (s0 : Int32) : Option (Int32 × Mu) :=
  some ((s0, m))
theorem lX12_growsBy_20 (a : Nat) (h : Hp) (m : Mu) (s0 : Int32) : fX12_growsBy_20 (mput a h m) s0 = (gX12_growsBy_20 m s0).map (fun (y : (Int32 × Mu)) => (y.1, mput a h y.2)) := by
  unfold fX12_growsBy_20 gX12_growsBy_20
  simp only [lift_lt, lift_gO, k_bs, k_mb, k_ms, k_bm, k_mm, k_il, k_ir, lift_ite, k_id]
noncomputable def gX12_growsBy (m : Mu) (x1 : Int32) (x2 : Int32) (x3 : Int32) (x4 : Int32) (x5 : Int32) (x6 : Int32) : Option (Int32 × Mu) :=
  (mA m 1 (5 : Int32)).bind fun v1 =>
  if v1 = 0 then (
    if x6 = (1 : Int32) then (
      gX12_growsBy_20 m (0 : Int32)) else (
      gX12_growsBy_20 m x3)) else (
    (mW m 6 (0 : Int32) x5).bind fun m2 =>
    (mW m2 6 (1 : Int32) x6).bind fun m3 =>
    (mW m3 6 (2 : Int32) x1).bind fun m4 =>
    (mW m4 6 (3 : Int32) x2).bind fun m5 =>
    (mW m5 6 (4 : Int32) x3).bind fun m6 =>
    (mW m6 6 (5 : Int32) x4).bind fun m7 =>
    (gX12_reckons m7 (0 : Int32)).bind fun y8 =>
    if (-9 : Int32) ≤ y8.1 then (
      if y8.1 ≤ (9 : Int32) then (
        gX12_growsBy_99 y8.2 y8.1) else (
        gX12_growsBy_99 y8.2 (9 : Int32))) else (
      gX12_growsBy_99 y8.2 (-9 : Int32)))
theorem lX12_growsBy (a : Nat) (h : Hp) (m : Mu) (x1 : Int32) (x2 : Int32) (x3 : Int32) (x4 : Int32) (x5 : Int32) (x6 : Int32) : fX12_growsBy (mput a h m) a x1 x2 x3 x4 x5 x6 = (gX12_growsBy m x1 x2 x3 x4 x5 x6).map (fun (y : (Int32 × Mu)) => (y.1, mput a h y.2)) := by
  unfold fX12_growsBy gX12_growsBy
  simp only [lift_gN_1, lift_aI_1, lift_gN_17, lift_wI_6, lX12_reckons, lX12_growsBy_99, lX12_growsBy_20, lift_lt, lift_gO, k_bs, k_mb, k_ms, k_bm, k_mm, k_il, k_ir, lift_ite, k_id]
noncomputable def gX12_fallsBy_71 (m : Mu) (s0 : Int32) : Option (Int32 × Mu) :=
  bl s0 (some ((s0, m)))
theorem lX12_fallsBy_71 (a : Nat) (h : Hp) (m : Mu) (s0 : Int32) : fX12_fallsBy_71 (mput a h m) s0 = (gX12_fallsBy_71 m s0).map (fun (y : (Int32 × Mu)) => (y.1, mput a h y.2)) := by
  unfold fX12_fallsBy_71 gX12_fallsBy_71
  simp only [lift_bl, lift_lt, lift_gO, k_bs, k_mb, k_ms, k_bm, k_mm, k_il, k_ir, lift_ite, k_id]
noncomputable def gX12_fallsBy (m : Mu) (x1 : Int32) (x2 : Int32) : Option (Int32 × Mu) :=
  (mA m 1 (6 : Int32)).bind fun v1 =>
  if v1 = 0 then (
    some (((0 : Int32), m))) else (
    (gX12_metIn m x1).bind fun y2 =>
    (gX12_bitsOf y2).bind fun y3 =>
    (mW m 6 (0 : Int32) y3).bind fun m4 =>
    (mW m4 6 (1 : Int32) x2).bind fun m5 =>
    (gX12_gapsIn m5 x1).bind fun y6 =>
    (mW m5 6 (6 : Int32) y6).bind fun m7 =>
    (gX12_widestIn m7 x1).bind fun y8 =>
    (mW m7 6 (7 : Int32) y8).bind fun m9 =>
    (gX12_reckons m9 (1 : Int32)).bind fun y10 =>
    if y10.1 = (1 : Int32) then (
      gX12_fallsBy_71 y10.2 (1 : Int32)) else (
      gX12_fallsBy_71 y10.2 (0 : Int32)))
theorem lX12_fallsBy (a : Nat) (h : Hp) (m : Mu) (x1 : Int32) (x2 : Int32) : fX12_fallsBy (mput a h m) a x1 x2 = (gX12_fallsBy m x1 x2).map (fun (y : (Int32 × Mu)) => (y.1, mput a h y.2)) := by
  unfold fX12_fallsBy gX12_fallsBy
  simp only [lift_gN_1, lift_aI_1, lift_gN_17, lX12_metIn, lX12_bitsOf, lift_wI_6, lX12_gapsIn, lX12_widestIn, lX12_reckons, lX12_fallsBy_71, lift_lt, lift_gO, k_bs, k_mb, k_ms, k_bm, k_mm, k_il, k_ir, lift_ite, k_id]
noncomputable def gX12_yearTo_153 (m : Mu) (s0 : Int32) : Option (Int32 × Mu) :=
  some ((s0, m))
theorem lX12_yearTo_153 (a : Nat) (h : Hp) (m : Mu) (s0 : Int32) : fX12_yearTo_153 (mput a h m) s0 = (gX12_yearTo_153 m s0).map (fun (y : (Int32 × Mu)) => (y.1, mput a h y.2)) := by
  unfold fX12_yearTo_153 gX12_yearTo_153
  simp only [lift_lt, lift_gO, k_bs, k_mb, k_ms, k_bm, k_mm, k_il, k_ir, lift_ite, k_id]
noncomputable def gX12_yearTo_132 (m : Mu) (x3 : Int32) (x5 : Int32) : Option (Int32 × Mu) :=
  (gX12_fallsBy m x5 x3).bind fun y5 =>
  if y5.1 = 0 then (
    gX12_yearTo_153 y5.2 x5) else (
    gX12_yearTo_153 y5.2 (x5 + (10000 : Int32)))
theorem lX12_yearTo_132 (a : Nat) (h : Hp) (m : Mu) (x3 : Int32) (x5 : Int32) : fX12_yearTo_132 (mput a h m) a x3 x5 = (gX12_yearTo_132 m x3 x5).map (fun (y : (Int32 × Mu)) => (y.1, mput a h y.2)) := by
  unfold fX12_yearTo_132 gX12_yearTo_132
  simp only [lX12_fallsBy, lX12_yearTo_153, lift_lt, lift_gO, k_bs, k_mb, k_ms, k_bm, k_mm, k_il, k_ir, lift_ite, k_id]
noncomputable def gX12_yearTo_115 (m : Mu) (x1 : Int32) (x2 : Int32) (x3 : Int32) (x4 : Int32) (x6 : Int32) (x7 : Int32) (s0 : Int32) (s1 : Int32) (s2 : Int32) : Option ((Int32 × Int32 × Int32 × Mu) ⊕ (Int32 × Mu)) :=
  some (.inl ((s0 + (s1 * s2)), (x6 * (10 : Int32)), (x7 + Int32.ofInt 1), m))
theorem lX12_yearTo_115 (a : Nat) (h : Hp) (m : Mu) (x1 : Int32) (x2 : Int32) (x3 : Int32) (x4 : Int32) (x6 : Int32) (x7 : Int32) (s0 : Int32) (s1 : Int32) (s2 : Int32) : fX12_yearTo_115 (mput a h m) a x1 x2 x3 x4 x6 x7 s0 s1 s2 = (gX12_yearTo_115 m x1 x2 x3 x4 x6 x7 s0 s1 s2).map (Sum.map (fun (s : (Int32 × Int32 × Int32 × Mu)) => (s.1, s.2.1, s.2.2.1, mput a h s.2.2.2)) (fun (y : (Int32 × Mu)) => (y.1, mput a h y.2))) := by
  unfold fX12_yearTo_115 gX12_yearTo_115
  simp only [lift_lt, lift_gO, k_bs, k_mb, k_ms, k_bm, k_mm, k_il, k_ir, lift_ite, k_id]
noncomputable def gX12_yearTo_86 (m : Mu) (x1 : Int32) (x2 : Int32) (x3 : Int32) (x4 : Int32) (x5 : Int32) (x6 : Int32) (x7 : Int32) (s0 : Int32) : Option ((Int32 × Int32 × Int32 × Mu) ⊕ (Int32 × Mu)) :=
  if 0 ≤ s0 then (
    if s0 ≤ (9 : Int32) then (
      gX12_yearTo_115 m x1 x2 x3 x4 x6 x7 x5 x6 s0) else (
      gX12_yearTo_115 m x1 x2 x3 x4 x6 x7 x5 x6 (9 : Int32))) else (
    gX12_yearTo_115 m x1 x2 x3 x4 x6 x7 x5 x6 (0 : Int32))
theorem lX12_yearTo_86 (a : Nat) (h : Hp) (m : Mu) (x1 : Int32) (x2 : Int32) (x3 : Int32) (x4 : Int32) (x5 : Int32) (x6 : Int32) (x7 : Int32) (s0 : Int32) : fX12_yearTo_86 (mput a h m) a x1 x2 x3 x4 x5 x6 x7 s0 = (gX12_yearTo_86 m x1 x2 x3 x4 x5 x6 x7 s0).map (Sum.map (fun (s : (Int32 × Int32 × Int32 × Mu)) => (s.1, s.2.1, s.2.2.1, mput a h s.2.2.2)) (fun (y : (Int32 × Mu)) => (y.1, mput a h y.2))) := by
  unfold fX12_yearTo_86 gX12_yearTo_86
  simp only [lX12_yearTo_115, lift_lt, lift_gO, k_bs, k_mb, k_ms, k_bm, k_mm, k_il, k_ir, lift_ite, k_id]
noncomputable def gX12_yearTo_28b (m : Mu) (x1 : Int32) (x2 : Int32) (x3 : Int32) (x4 : Int32) (x5 : Int32) (x6 : Int32) (x7 : Int32) : Option ((Int32 × Int32 × Int32 × Mu) ⊕ (Int32 × Mu)) :=
  (mA m 1 (1 : Int32)).bind fun v4 =>
  if v4 ≤ x7 then (
  (gX12_yearTo_132 m x3 x5).map (fun q => .inr q)) else (
    (gX12_gapIn x1 x7).bind fun y6 =>
    if y6 = 0 then (
      gX12_yearTo_86 m x1 x2 x3 x4 x5 x6 x7 (0 : Int32)) else (
      (mA m 1 ((19 : Int32) + x7)).bind fun v7 =>
      (gX12_dropsIn x2 x7).bind fun y8 =>
      (gX12_growsBy m x7 v7 y8 y6 x4 x3).bind fun y9 =>
      gX12_yearTo_86 y9.2 x1 x2 x3 x4 x5 x6 x7 (y6 - y9.1)))
noncomputable def gX12_yearTo_28 (m : Mu) (x1 : Int32) (x2 : Int32) (x3 : Int32) (x4 : Int32) (x5 : Int32) (x6 : Int32) (x7 : Int32) : Option (Int32 × Mu) := lpw (σ := (Int32 × Int32 × Int32 × Mu)) (fun s => gX12_yearTo_28b s.2.2.2 x1 x2 x3 x4 s.1 s.2.1 s.2.2.1) (x5, x6, x7, m)
theorem lX12_yearTo_28b (a : Nat) (h : Hp) (m : Mu) (x1 : Int32) (x2 : Int32) (x3 : Int32) (x4 : Int32) (x5 : Int32) (x6 : Int32) (x7 : Int32) : fX12_yearTo_28b (mput a h m) a x1 x2 x3 x4 x5 x6 x7 = (gX12_yearTo_28b m x1 x2 x3 x4 x5 x6 x7).map (Sum.map (fun (s : (Int32 × Int32 × Int32 × Mu)) => (s.1, s.2.1, s.2.2.1, mput a h s.2.2.2)) (fun (y : (Int32 × Mu)) => (y.1, mput a h y.2))) := by
  unfold fX12_yearTo_28b gX12_yearTo_28b
  simp only [lift_gN_1, lift_aI_1, lX12_yearTo_132, lX12_gapIn, lX12_dropsIn, lX12_growsBy, lX12_yearTo_86, lift_lt, lift_gO, k_bs, k_mb, k_ms, k_bm, k_mm, k_il, k_ir, lift_ite, k_id]
theorem lX12_yearTo_28 (a : Nat) (h : Hp) (m : Mu) (x1 : Int32) (x2 : Int32) (x3 : Int32) (x4 : Int32) (x5 : Int32) (x6 : Int32) (x7 : Int32) : fX12_yearTo_28 (mput a h m) a x1 x2 x3 x4 x5 x6 x7 = (gX12_yearTo_28 m x1 x2 x3 x4 x5 x6 x7).map (fun (y : (Int32 × Mu)) => (y.1, mput a h y.2)) := by
  unfold fX12_yearTo_28 gX12_yearTo_28
  exact lpw_map _ _ (fun (s : (Int32 × Int32 × Int32 × Mu)) => (s.1, s.2.1, s.2.2.1, mput a h s.2.2.2)) (fun (y : (Int32 × Mu)) => (y.1, mput a h y.2)) (fun s => lX12_yearTo_28b a h s.2.2.2 x1 x2 x3 x4 s.1 s.2.1 s.2.2.1) (x5, x6, x7, m)
noncomputable def gX12_yearTo (m : Mu) (x1 : Int32) (x2 : Int32) (x3 : Int32) : Option (Int32 × Mu) :=
  (gX12_hasFallen x1).bind fun y1 =>
  if y1 = 0 then (
    (gX12_metIn m x1).bind fun y2 =>
    (gX12_bitsOf y2).bind fun y3 =>
    gX12_yearTo_28 m x1 x2 x3 y3 (0 : Int32) (1 : Int32) (0 : Int32)) else (
    some ((x1, m)))
theorem lX12_yearTo (a : Nat) (h : Hp) (m : Mu) (x1 : Int32) (x2 : Int32) (x3 : Int32) : fX12_yearTo (mput a h m) a x1 x2 x3 = (gX12_yearTo m x1 x2 x3).map (fun (y : (Int32 × Mu)) => (y.1, mput a h y.2)) := by
  unfold fX12_yearTo gX12_yearTo
  simp only [lX12_hasFallen, lX12_metIn, lX12_bitsOf, lX12_yearTo_28, lift_lt, lift_gO, k_bs, k_mb, k_ms, k_bm, k_mm, k_il, k_ir, lift_ite, k_id]
noncomputable def gX12_growOf (x0 : Int32) (x1 : Int32) (x2 : Int32) (x3 : Int32) (x4 : Int32) : Option Int32 :=
  lt ((((((x0 * (4 : Int32)) + x1) * (5 : Int32)) + x2) * (10 : Int32)) + x3) fun w1 =>
  some (((w1 * (5 : Int32)) + x4))
theorem lX12_growOf (h : Hp) (x0 : Int32) (x1 : Int32) (x2 : Int32) (x3 : Int32) (x4 : Int32) : fX12_growOf h x0 x1 x2 x3 x4 = gX12_growOf x0 x1 x2 x3 x4 := by
  unfold fX12_growOf gX12_growOf
  simp only [lift_lt, lift_gO, k_bs, k_mb, k_ms, k_bm, k_mm, k_il, k_ir, lift_ite, k_id]
noncomputable def gX12_fallOf (x0 : Int32) (x1 : Int32) (x2 : Int32) (x3 : Int32) : Option Int32 :=
  lt ((((((x0 * (5 : Int32)) + x1) * (37 : Int32)) + x2) * (10 : Int32)) + x3) fun w1 =>
  some (w1)
theorem lX12_fallOf (h : Hp) (x0 : Int32) (x1 : Int32) (x2 : Int32) (x3 : Int32) : fX12_fallOf h x0 x1 x2 x3 = gX12_fallOf x0 x1 x2 x3 := by
  unfold fX12_fallOf gX12_fallOf
  simp only [lift_lt, lift_gO, k_bs, k_mb, k_ms, k_bm, k_mm, k_il, k_ir, lift_ite, k_id]
noncomputable def gX12_fallsSo_45 (m : Mu) (s0 : Int32) : Option (Int32 × Mu) :=
  bl s0 (some ((s0, m)))
theorem lX12_fallsSo_45 (a : Nat) (h : Hp) (m : Mu) (s0 : Int32) : fX12_fallsSo_45 (mput a h m) s0 = (gX12_fallsSo_45 m s0).map (fun (y : (Int32 × Mu)) => (y.1, mput a h y.2)) := by
  unfold fX12_fallsSo_45 gX12_fallsSo_45
  simp only [lift_bl, lift_lt, lift_gO, k_bs, k_mb, k_ms, k_bm, k_mm, k_il, k_ir, lift_ite, k_id]
noncomputable def gX12_fallsSo (m : Mu) (x1 : Int32) (x2 : Int32) (x3 : Int32) (x4 : Int32) : Option (Int32 × Mu) :=
  (mW m 6 (0 : Int32) x2).bind fun m1 =>
  (mW m1 6 (1 : Int32) x1).bind fun m2 =>
  (mW m2 6 (6 : Int32) x3).bind fun m3 =>
  (mW m3 6 (7 : Int32) x4).bind fun m4 =>
  (gX12_reckons m4 (1 : Int32)).bind fun y5 =>
  if y5.1 = (1 : Int32) then (
    gX12_fallsSo_45 y5.2 (1 : Int32)) else (
    gX12_fallsSo_45 y5.2 (0 : Int32))
theorem lX12_fallsSo (a : Nat) (h : Hp) (m : Mu) (x1 : Int32) (x2 : Int32) (x3 : Int32) (x4 : Int32) : fX12_fallsSo (mput a h m) a x1 x2 x3 x4 = (gX12_fallsSo m x1 x2 x3 x4).map (fun (y : (Int32 × Mu)) => (y.1, mput a h y.2)) := by
  unfold fX12_fallsSo gX12_fallsSo
  simp only [lift_gN_17, lift_wI_6, lX12_reckons, lX12_fallsSo_45, lift_lt, lift_gO, k_bs, k_mb, k_ms, k_bm, k_mm, k_il, k_ir, lift_ite, k_id]
noncomputable def gX12_laysTables_175 (m : Mu) (x1 : Int32) : Option ((Int32 × Mu) ⊕ Mu) :=
  some (.inl ((x1 + Int32.ofInt 1), m))
theorem lX12_laysTables_175 (a : Nat) (h : Hp) (m : Mu) (x1 : Int32) : fX12_laysTables_175 (mput a h m) a x1 = (gX12_laysTables_175 m x1).map (Sum.map (fun (s : (Int32 × Mu)) => (s.1, mput a h s.2)) (mput a h)) := by
  unfold fX12_laysTables_175 gX12_laysTables_175
  simp only [lift_lt, lift_gO, k_bs, k_mb, k_ms, k_bm, k_mm, k_il, k_ir, lift_ite, k_id]
noncomputable def gX12_laysTables_169 (m : Mu) (x1 : Int32) (x2 : Int32) : Option ((Int32 × Mu) ⊕ ((Int32 × Mu) ⊕ Mu)) :=
  some (.inl ((x2 + Int32.ofInt 1), m))
theorem lX12_laysTables_169 (a : Nat) (h : Hp) (m : Mu) (x1 : Int32) (x2 : Int32) : fX12_laysTables_169 (mput a h m) a x1 x2 = (gX12_laysTables_169 m x1 x2).map (Sum.map (fun (s : (Int32 × Mu)) => (s.1, mput a h s.2)) (Sum.map (fun (s : (Int32 × Mu)) => (s.1, mput a h s.2)) (mput a h))) := by
  unfold fX12_laysTables_169 gX12_laysTables_169
  simp only [lift_lt, lift_gO, k_bs, k_mb, k_ms, k_bm, k_mm, k_il, k_ir, lift_ite, k_id]
noncomputable def gX12_laysTables_163 (m : Mu) (x1 : Int32) (x2 : Int32) (x3 : Int32) : Option ((Int32 × Mu) ⊕ ((Int32 × Mu) ⊕ ((Int32 × Mu) ⊕ Mu))) :=
  some (.inl ((x3 + Int32.ofInt 1), m))
theorem lX12_laysTables_163 (a : Nat) (h : Hp) (m : Mu) (x1 : Int32) (x2 : Int32) (x3 : Int32) : fX12_laysTables_163 (mput a h m) a x1 x2 x3 = (gX12_laysTables_163 m x1 x2 x3).map (Sum.map (fun (s : (Int32 × Mu)) => (s.1, mput a h s.2)) (Sum.map (fun (s : (Int32 × Mu)) => (s.1, mput a h s.2)) (Sum.map (fun (s : (Int32 × Mu)) => (s.1, mput a h s.2)) (mput a h)))) := by
  unfold fX12_laysTables_163 gX12_laysTables_163
  simp only [lift_lt, lift_gO, k_bs, k_mb, k_ms, k_bm, k_mm, k_il, k_ir, lift_ite, k_id]
noncomputable def gX12_laysTables_156 (m : Mu) (x1 : Int32) (x2 : Int32) (x3 : Int32) (x4 : Int32) (s1 : Int32) (s2 : Int32) : Option ((Int32 × Mu) ⊕ ((Int32 × Mu) ⊕ ((Int32 × Mu) ⊕ ((Int32 × Mu) ⊕ Mu)))) :=
  (mW m 8 s1 s2).bind fun m4 =>
  some (.inl ((x4 + Int32.ofInt 1), m4))
theorem lX12_laysTables_156 (a : Nat) (h : Hp) (m : Mu) (x1 : Int32) (x2 : Int32) (x3 : Int32) (x4 : Int32) (s1 : Int32) (s2 : Int32) : fX12_laysTables_156 (mput a h m) a x1 x2 x3 x4 (a + 8) s1 s2 = (gX12_laysTables_156 m x1 x2 x3 x4 s1 s2).map (Sum.map (fun (s : (Int32 × Mu)) => (s.1, mput a h s.2)) (Sum.map (fun (s : (Int32 × Mu)) => (s.1, mput a h s.2)) (Sum.map (fun (s : (Int32 × Mu)) => (s.1, mput a h s.2)) (Sum.map (fun (s : (Int32 × Mu)) => (s.1, mput a h s.2)) (mput a h))))) := by
  unfold fX12_laysTables_156 gX12_laysTables_156
  simp only [lift_wI_8, lift_lt, lift_gO, k_bs, k_mb, k_ms, k_bm, k_mm, k_il, k_ir, lift_ite, k_id]
noncomputable def gX12_laysTables_155 (m : Mu) (x1 : Int32) (x2 : Int32) (x3 : Int32) (x4 : Int32) (s1 : Int32) : Option ((Int32 × Mu) ⊕ ((Int32 × Mu) ⊕ ((Int32 × Mu) ⊕ ((Int32 × Mu) ⊕ Mu)))) :=
  gX12_laysTables_156 m x1 x2 x3 x4 s1 (0 : Int32)
theorem lX12_laysTables_155 (a : Nat) (h : Hp) (m : Mu) (x1 : Int32) (x2 : Int32) (x3 : Int32) (x4 : Int32) (s1 : Int32) : fX12_laysTables_155 (mput a h m) a x1 x2 x3 x4 (a + 8) s1 = (gX12_laysTables_155 m x1 x2 x3 x4 s1).map (Sum.map (fun (s : (Int32 × Mu)) => (s.1, mput a h s.2)) (Sum.map (fun (s : (Int32 × Mu)) => (s.1, mput a h s.2)) (Sum.map (fun (s : (Int32 × Mu)) => (s.1, mput a h s.2)) (Sum.map (fun (s : (Int32 × Mu)) => (s.1, mput a h s.2)) (mput a h))))) := by
  unfold fX12_laysTables_155 gX12_laysTables_155
  simp only [lX12_laysTables_156, lift_lt, lift_gO, k_bs, k_mb, k_ms, k_bm, k_mm, k_il, k_ir, lift_ite, k_id]
noncomputable def gX12_laysTables_109b (m : Mu) (x1 : Int32) (x2 : Int32) (x3 : Int32) (x4 : Int32) : Option ((Int32 × Mu) ⊕ ((Int32 × Mu) ⊕ ((Int32 × Mu) ⊕ ((Int32 × Mu) ⊕ Mu)))) :=
  if (9 : Int32) < x4 then (
  (gX12_laysTables_163 m x1 x2 x3).map (fun q => .inr q)) else (
    (gX12_fallOf x1 x2 x3 x4).bind fun y2 =>
    (mA m 1 (6 : Int32)).bind fun v3 =>
    if v3 = (1 : Int32) then (
      (gX12_fallsSo m x1 x2 x3 x4).bind fun y5 =>
      if y5.1 = 0 then (
      gX12_laysTables_155 y5.2 x1 x2 x3 x4 y2) else (
        gX12_laysTables_156 y5.2 x1 x2 x3 x4 y2 (1 : Int32))) else (
    gX12_laysTables_155 m x1 x2 x3 x4 y2))
noncomputable def gX12_laysTables_109 (m : Mu) (x1 : Int32) (x2 : Int32) (x3 : Int32) (x4 : Int32) : Option ((Int32 × Mu) ⊕ ((Int32 × Mu) ⊕ ((Int32 × Mu) ⊕ Mu))) := lpw (σ := (Int32 × Mu)) (fun s => gX12_laysTables_109b s.2 x1 x2 x3 s.1) (x4, m)
theorem lX12_laysTables_109b (a : Nat) (h : Hp) (m : Mu) (x1 : Int32) (x2 : Int32) (x3 : Int32) (x4 : Int32) : fX12_laysTables_109b (mput a h m) a x1 x2 x3 x4 = (gX12_laysTables_109b m x1 x2 x3 x4).map (Sum.map (fun (s : (Int32 × Mu)) => (s.1, mput a h s.2)) (Sum.map (fun (s : (Int32 × Mu)) => (s.1, mput a h s.2)) (Sum.map (fun (s : (Int32 × Mu)) => (s.1, mput a h s.2)) (Sum.map (fun (s : (Int32 × Mu)) => (s.1, mput a h s.2)) (mput a h))))) := by
  unfold fX12_laysTables_109b gX12_laysTables_109b
  simp only [lX12_laysTables_163, lift_gN_19, lX12_fallOf, lift_gN_1, lift_aI_1, lX12_laysTables_155, lX12_fallsSo, lX12_laysTables_156, lift_lt, lift_gO, k_bs, k_mb, k_ms, k_bm, k_mm, k_il, k_ir, lift_ite, k_id]
theorem lX12_laysTables_109 (a : Nat) (h : Hp) (m : Mu) (x1 : Int32) (x2 : Int32) (x3 : Int32) (x4 : Int32) : fX12_laysTables_109 (mput a h m) a x1 x2 x3 x4 = (gX12_laysTables_109 m x1 x2 x3 x4).map (Sum.map (fun (s : (Int32 × Mu)) => (s.1, mput a h s.2)) (Sum.map (fun (s : (Int32 × Mu)) => (s.1, mput a h s.2)) (Sum.map (fun (s : (Int32 × Mu)) => (s.1, mput a h s.2)) (mput a h)))) := by
  unfold fX12_laysTables_109 gX12_laysTables_109
  exact lpw_map _ _ (fun (s : (Int32 × Mu)) => (s.1, mput a h s.2)) (Sum.map (fun (s : (Int32 × Mu)) => (s.1, mput a h s.2)) (Sum.map (fun (s : (Int32 × Mu)) => (s.1, mput a h s.2)) (Sum.map (fun (s : (Int32 × Mu)) => (s.1, mput a h s.2)) (mput a h)))) (fun s => lX12_laysTables_109b a h s.2 x1 x2 x3 s.1) (x4, m)
noncomputable def gX12_laysTables_100b (m : Mu) (x1 : Int32) (x2 : Int32) (x3 : Int32) : Option ((Int32 × Mu) ⊕ ((Int32 × Mu) ⊕ ((Int32 × Mu) ⊕ Mu))) :=
  if (36 : Int32) < x3 then (
  (gX12_laysTables_169 m x1 x2).map (fun q => .inr q)) else (
    gX12_laysTables_109 m x1 x2 x3 (0 : Int32))
noncomputable def gX12_laysTables_100 (m : Mu) (x1 : Int32) (x2 : Int32) (x3 : Int32) : Option ((Int32 × Mu) ⊕ ((Int32 × Mu) ⊕ Mu)) := lpw (σ := (Int32 × Mu)) (fun s => gX12_laysTables_100b s.2 x1 x2 s.1) (x3, m)
theorem lX12_laysTables_100b (a : Nat) (h : Hp) (m : Mu) (x1 : Int32) (x2 : Int32) (x3 : Int32) : fX12_laysTables_100b (mput a h m) a x1 x2 x3 = (gX12_laysTables_100b m x1 x2 x3).map (Sum.map (fun (s : (Int32 × Mu)) => (s.1, mput a h s.2)) (Sum.map (fun (s : (Int32 × Mu)) => (s.1, mput a h s.2)) (Sum.map (fun (s : (Int32 × Mu)) => (s.1, mput a h s.2)) (mput a h)))) := by
  unfold fX12_laysTables_100b gX12_laysTables_100b
  simp only [lX12_laysTables_169, lX12_laysTables_109, lift_lt, lift_gO, k_bs, k_mb, k_ms, k_bm, k_mm, k_il, k_ir, lift_ite, k_id]
theorem lX12_laysTables_100 (a : Nat) (h : Hp) (m : Mu) (x1 : Int32) (x2 : Int32) (x3 : Int32) : fX12_laysTables_100 (mput a h m) a x1 x2 x3 = (gX12_laysTables_100 m x1 x2 x3).map (Sum.map (fun (s : (Int32 × Mu)) => (s.1, mput a h s.2)) (Sum.map (fun (s : (Int32 × Mu)) => (s.1, mput a h s.2)) (mput a h))) := by
  unfold fX12_laysTables_100 gX12_laysTables_100
  exact lpw_map _ _ (fun (s : (Int32 × Mu)) => (s.1, mput a h s.2)) (Sum.map (fun (s : (Int32 × Mu)) => (s.1, mput a h s.2)) (Sum.map (fun (s : (Int32 × Mu)) => (s.1, mput a h s.2)) (mput a h))) (fun s => lX12_laysTables_100b a h s.2 x1 x2 s.1) (x3, m)
noncomputable def gX12_laysTables_98 (m : Mu) (x1 : Int32) (x2 : Int32) : Option ((Int32 × Mu) ⊕ ((Int32 × Mu) ⊕ Mu)) :=
  gX12_laysTables_100 m x1 x2 (0 : Int32)
theorem lX12_laysTables_98 (a : Nat) (h : Hp) (m : Mu) (x1 : Int32) (x2 : Int32) : fX12_laysTables_98 (mput a h m) a x1 x2 = (gX12_laysTables_98 m x1 x2).map (Sum.map (fun (s : (Int32 × Mu)) => (s.1, mput a h s.2)) (Sum.map (fun (s : (Int32 × Mu)) => (s.1, mput a h s.2)) (mput a h))) := by
  unfold fX12_laysTables_98 gX12_laysTables_98
  simp only [lX12_laysTables_100, lift_lt, lift_gO, k_bs, k_mb, k_ms, k_bm, k_mm, k_il, k_ir, lift_ite, k_id]
noncomputable def gX12_laysTables_92 (m : Mu) (x1 : Int32) (x2 : Int32) (x3 : Int32) : Option ((Int32 × Mu) ⊕ ((Int32 × Mu) ⊕ ((Int32 × Mu) ⊕ Mu))) :=
  some (.inl ((x3 + Int32.ofInt 1), m))
theorem lX12_laysTables_92 (a : Nat) (h : Hp) (m : Mu) (x1 : Int32) (x2 : Int32) (x3 : Int32) : fX12_laysTables_92 (mput a h m) a x1 x2 x3 = (gX12_laysTables_92 m x1 x2 x3).map (Sum.map (fun (s : (Int32 × Mu)) => (s.1, mput a h s.2)) (Sum.map (fun (s : (Int32 × Mu)) => (s.1, mput a h s.2)) (Sum.map (fun (s : (Int32 × Mu)) => (s.1, mput a h s.2)) (mput a h)))) := by
  unfold fX12_laysTables_92 gX12_laysTables_92
  simp only [lift_lt, lift_gO, k_bs, k_mb, k_ms, k_bm, k_mm, k_il, k_ir, lift_ite, k_id]
noncomputable def gX12_laysTables_86 (m : Mu) (x1 : Int32) (x2 : Int32) (x3 : Int32) (x4 : Int32) : Option ((Int32 × Mu) ⊕ ((Int32 × Mu) ⊕ ((Int32 × Mu) ⊕ ((Int32 × Mu) ⊕ Mu)))) :=
  some (.inl ((x4 + Int32.ofInt 1), m))
theorem lX12_laysTables_86 (a : Nat) (h : Hp) (m : Mu) (x1 : Int32) (x2 : Int32) (x3 : Int32) (x4 : Int32) : fX12_laysTables_86 (mput a h m) a x1 x2 x3 x4 = (gX12_laysTables_86 m x1 x2 x3 x4).map (Sum.map (fun (s : (Int32 × Mu)) => (s.1, mput a h s.2)) (Sum.map (fun (s : (Int32 × Mu)) => (s.1, mput a h s.2)) (Sum.map (fun (s : (Int32 × Mu)) => (s.1, mput a h s.2)) (Sum.map (fun (s : (Int32 × Mu)) => (s.1, mput a h s.2)) (mput a h))))) := by
  unfold fX12_laysTables_86 gX12_laysTables_86
  simp only [lift_lt, lift_gO, k_bs, k_mb, k_ms, k_bm, k_mm, k_il, k_ir, lift_ite, k_id]
noncomputable def gX12_laysTables_38b (m : Mu) (x1 : Int32) (x2 : Int32) (x3 : Int32) (x4 : Int32) (x5 : Int32) : Option ((Int32 × Mu) ⊕ ((Int32 × Mu) ⊕ ((Int32 × Mu) ⊕ ((Int32 × Mu) ⊕ ((Int32 × Mu) ⊕ Mu))))) :=
  if (9 : Int32) < x5 then (
  (gX12_laysTables_86 m x1 x2 x3 x4).map (fun q => .inr q)) else (
    (gX12_growOf x1 x3 x4 x5 x2).bind fun y6 =>
    (mA m 1 ((19 : Int32) + x3)).bind fun v7 =>
    (gX12_growsBy m x3 v7 x4 x5 x2 x1).bind fun y8 =>
    (mW y8.2 7 y6 y8.1).bind fun m9 =>
    some (.inl ((x5 + Int32.ofInt 1), m9)))
noncomputable def gX12_laysTables_38 (m : Mu) (x1 : Int32) (x2 : Int32) (x3 : Int32) (x4 : Int32) (x5 : Int32) : Option ((Int32 × Mu) ⊕ ((Int32 × Mu) ⊕ ((Int32 × Mu) ⊕ ((Int32 × Mu) ⊕ Mu)))) := lpw (σ := (Int32 × Mu)) (fun s => gX12_laysTables_38b s.2 x1 x2 x3 x4 s.1) (x5, m)
theorem lX12_laysTables_38b (a : Nat) (h : Hp) (m : Mu) (x1 : Int32) (x2 : Int32) (x3 : Int32) (x4 : Int32) (x5 : Int32) : fX12_laysTables_38b (mput a h m) a x1 x2 x3 x4 x5 = (gX12_laysTables_38b m x1 x2 x3 x4 x5).map (Sum.map (fun (s : (Int32 × Mu)) => (s.1, mput a h s.2)) (Sum.map (fun (s : (Int32 × Mu)) => (s.1, mput a h s.2)) (Sum.map (fun (s : (Int32 × Mu)) => (s.1, mput a h s.2)) (Sum.map (fun (s : (Int32 × Mu)) => (s.1, mput a h s.2)) (Sum.map (fun (s : (Int32 × Mu)) => (s.1, mput a h s.2)) (mput a h)))))) := by
  unfold fX12_laysTables_38b gX12_laysTables_38b
  simp only [lX12_laysTables_86, lift_gN_18, lX12_growOf, lift_gN_1, lift_aI_1, lX12_growsBy, lift_wI_7, lift_lt, lift_gO, k_bs, k_mb, k_ms, k_bm, k_mm, k_il, k_ir, lift_ite, k_id]
theorem lX12_laysTables_38 (a : Nat) (h : Hp) (m : Mu) (x1 : Int32) (x2 : Int32) (x3 : Int32) (x4 : Int32) (x5 : Int32) : fX12_laysTables_38 (mput a h m) a x1 x2 x3 x4 x5 = (gX12_laysTables_38 m x1 x2 x3 x4 x5).map (Sum.map (fun (s : (Int32 × Mu)) => (s.1, mput a h s.2)) (Sum.map (fun (s : (Int32 × Mu)) => (s.1, mput a h s.2)) (Sum.map (fun (s : (Int32 × Mu)) => (s.1, mput a h s.2)) (Sum.map (fun (s : (Int32 × Mu)) => (s.1, mput a h s.2)) (mput a h))))) := by
  unfold fX12_laysTables_38 gX12_laysTables_38
  exact lpw_map _ _ (fun (s : (Int32 × Mu)) => (s.1, mput a h s.2)) (Sum.map (fun (s : (Int32 × Mu)) => (s.1, mput a h s.2)) (Sum.map (fun (s : (Int32 × Mu)) => (s.1, mput a h s.2)) (Sum.map (fun (s : (Int32 × Mu)) => (s.1, mput a h s.2)) (Sum.map (fun (s : (Int32 × Mu)) => (s.1, mput a h s.2)) (mput a h))))) (fun s => lX12_laysTables_38b a h s.2 x1 x2 x3 x4 s.1) (x5, m)
noncomputable def gX12_laysTables_29b (m : Mu) (x1 : Int32) (x2 : Int32) (x3 : Int32) (x4 : Int32) : Option ((Int32 × Mu) ⊕ ((Int32 × Mu) ⊕ ((Int32 × Mu) ⊕ ((Int32 × Mu) ⊕ Mu)))) :=
  if (4 : Int32) < x4 then (
  (gX12_laysTables_92 m x1 x2 x3).map (fun q => .inr q)) else (
    gX12_laysTables_38 m x1 x2 x3 x4 (1 : Int32))
noncomputable def gX12_laysTables_29 (m : Mu) (x1 : Int32) (x2 : Int32) (x3 : Int32) (x4 : Int32) : Option ((Int32 × Mu) ⊕ ((Int32 × Mu) ⊕ ((Int32 × Mu) ⊕ Mu))) := lpw (σ := (Int32 × Mu)) (fun s => gX12_laysTables_29b s.2 x1 x2 x3 s.1) (x4, m)
theorem lX12_laysTables_29b (a : Nat) (h : Hp) (m : Mu) (x1 : Int32) (x2 : Int32) (x3 : Int32) (x4 : Int32) : fX12_laysTables_29b (mput a h m) a x1 x2 x3 x4 = (gX12_laysTables_29b m x1 x2 x3 x4).map (Sum.map (fun (s : (Int32 × Mu)) => (s.1, mput a h s.2)) (Sum.map (fun (s : (Int32 × Mu)) => (s.1, mput a h s.2)) (Sum.map (fun (s : (Int32 × Mu)) => (s.1, mput a h s.2)) (Sum.map (fun (s : (Int32 × Mu)) => (s.1, mput a h s.2)) (mput a h))))) := by
  unfold fX12_laysTables_29b gX12_laysTables_29b
  simp only [lX12_laysTables_92, lX12_laysTables_38, lift_lt, lift_gO, k_bs, k_mb, k_ms, k_bm, k_mm, k_il, k_ir, lift_ite, k_id]
theorem lX12_laysTables_29 (a : Nat) (h : Hp) (m : Mu) (x1 : Int32) (x2 : Int32) (x3 : Int32) (x4 : Int32) : fX12_laysTables_29 (mput a h m) a x1 x2 x3 x4 = (gX12_laysTables_29 m x1 x2 x3 x4).map (Sum.map (fun (s : (Int32 × Mu)) => (s.1, mput a h s.2)) (Sum.map (fun (s : (Int32 × Mu)) => (s.1, mput a h s.2)) (Sum.map (fun (s : (Int32 × Mu)) => (s.1, mput a h s.2)) (mput a h)))) := by
  unfold fX12_laysTables_29 gX12_laysTables_29
  exact lpw_map _ _ (fun (s : (Int32 × Mu)) => (s.1, mput a h s.2)) (Sum.map (fun (s : (Int32 × Mu)) => (s.1, mput a h s.2)) (Sum.map (fun (s : (Int32 × Mu)) => (s.1, mput a h s.2)) (Sum.map (fun (s : (Int32 × Mu)) => (s.1, mput a h s.2)) (mput a h)))) (fun s => lX12_laysTables_29b a h s.2 x1 x2 x3 s.1) (x4, m)
noncomputable def gX12_laysTables_16b (m : Mu) (x1 : Int32) (x2 : Int32) (x3 : Int32) : Option ((Int32 × Mu) ⊕ ((Int32 × Mu) ⊕ ((Int32 × Mu) ⊕ Mu))) :=
  (mA m 1 (1 : Int32)).bind fun v1 =>
  if v1 ≤ x3 then (
  (gX12_laysTables_98 m x1 x2).map (fun q => .inr q)) else (
    gX12_laysTables_29 m x1 x2 x3 (0 : Int32))
noncomputable def gX12_laysTables_16 (m : Mu) (x1 : Int32) (x2 : Int32) (x3 : Int32) : Option ((Int32 × Mu) ⊕ ((Int32 × Mu) ⊕ Mu)) := lpw (σ := (Int32 × Mu)) (fun s => gX12_laysTables_16b s.2 x1 x2 s.1) (x3, m)
theorem lX12_laysTables_16b (a : Nat) (h : Hp) (m : Mu) (x1 : Int32) (x2 : Int32) (x3 : Int32) : fX12_laysTables_16b (mput a h m) a x1 x2 x3 = (gX12_laysTables_16b m x1 x2 x3).map (Sum.map (fun (s : (Int32 × Mu)) => (s.1, mput a h s.2)) (Sum.map (fun (s : (Int32 × Mu)) => (s.1, mput a h s.2)) (Sum.map (fun (s : (Int32 × Mu)) => (s.1, mput a h s.2)) (mput a h)))) := by
  unfold fX12_laysTables_16b gX12_laysTables_16b
  simp only [lift_gN_1, lift_aI_1, lX12_laysTables_98, lX12_laysTables_29, lift_lt, lift_gO, k_bs, k_mb, k_ms, k_bm, k_mm, k_il, k_ir, lift_ite, k_id]
theorem lX12_laysTables_16 (a : Nat) (h : Hp) (m : Mu) (x1 : Int32) (x2 : Int32) (x3 : Int32) : fX12_laysTables_16 (mput a h m) a x1 x2 x3 = (gX12_laysTables_16 m x1 x2 x3).map (Sum.map (fun (s : (Int32 × Mu)) => (s.1, mput a h s.2)) (Sum.map (fun (s : (Int32 × Mu)) => (s.1, mput a h s.2)) (mput a h))) := by
  unfold fX12_laysTables_16 gX12_laysTables_16
  exact lpw_map _ _ (fun (s : (Int32 × Mu)) => (s.1, mput a h s.2)) (Sum.map (fun (s : (Int32 × Mu)) => (s.1, mput a h s.2)) (Sum.map (fun (s : (Int32 × Mu)) => (s.1, mput a h s.2)) (mput a h))) (fun s => lX12_laysTables_16b a h s.2 x1 x2 s.1) (x3, m)
noncomputable def gX12_laysTables_9b (m : Mu) (x1 : Int32) (x2 : Int32) : Option ((Int32 × Mu) ⊕ ((Int32 × Mu) ⊕ Mu)) :=
  if (4 : Int32) < x2 then (
  (gX12_laysTables_175 m x1).map (fun q => .inr q)) else (
    gX12_laysTables_16 m x1 x2 (0 : Int32))
noncomputable def gX12_laysTables_9 (m : Mu) (x1 : Int32) (x2 : Int32) : Option ((Int32 × Mu) ⊕ Mu) := lpw (σ := (Int32 × Mu)) (fun s => gX12_laysTables_9b s.2 x1 s.1) (x2, m)
theorem lX12_laysTables_9b (a : Nat) (h : Hp) (m : Mu) (x1 : Int32) (x2 : Int32) : fX12_laysTables_9b (mput a h m) a x1 x2 = (gX12_laysTables_9b m x1 x2).map (Sum.map (fun (s : (Int32 × Mu)) => (s.1, mput a h s.2)) (Sum.map (fun (s : (Int32 × Mu)) => (s.1, mput a h s.2)) (mput a h))) := by
  unfold fX12_laysTables_9b gX12_laysTables_9b
  simp only [lX12_laysTables_175, lX12_laysTables_16, lift_lt, lift_gO, k_bs, k_mb, k_ms, k_bm, k_mm, k_il, k_ir, lift_ite, k_id]
theorem lX12_laysTables_9 (a : Nat) (h : Hp) (m : Mu) (x1 : Int32) (x2 : Int32) : fX12_laysTables_9 (mput a h m) a x1 x2 = (gX12_laysTables_9 m x1 x2).map (Sum.map (fun (s : (Int32 × Mu)) => (s.1, mput a h s.2)) (mput a h)) := by
  unfold fX12_laysTables_9 gX12_laysTables_9
  exact lpw_map _ _ (fun (s : (Int32 × Mu)) => (s.1, mput a h s.2)) (Sum.map (fun (s : (Int32 × Mu)) => (s.1, mput a h s.2)) (mput a h)) (fun s => lX12_laysTables_9b a h s.2 x1 s.1) (x2, m)
noncomputable def gX12_laysTables_2b (m : Mu) (x1 : Int32) : Option ((Int32 × Mu) ⊕ Mu) :=
  if (2 : Int32) ≤ x1 then (
    some (.inr m)) else (
    gX12_laysTables_9 m x1 (0 : Int32))
noncomputable def gX12_laysTables_2 (m : Mu) (x1 : Int32) : Option Mu := lpw (σ := (Int32 × Mu)) (fun s => gX12_laysTables_2b s.2  s.1) (x1, m)
theorem lX12_laysTables_2b (a : Nat) (h : Hp) (m : Mu) (x1 : Int32) : fX12_laysTables_2b (mput a h m) a x1 = (gX12_laysTables_2b m x1).map (Sum.map (fun (s : (Int32 × Mu)) => (s.1, mput a h s.2)) (mput a h)) := by
  unfold fX12_laysTables_2b gX12_laysTables_2b
  simp only [lX12_laysTables_9, lift_lt, lift_gO, k_bs, k_mb, k_ms, k_bm, k_mm, k_il, k_ir, lift_ite, k_id]
theorem lX12_laysTables_2 (a : Nat) (h : Hp) (m : Mu) (x1 : Int32) : fX12_laysTables_2 (mput a h m) a x1 = (gX12_laysTables_2 m x1).map (mput a h) := by
  unfold fX12_laysTables_2 gX12_laysTables_2
  exact lpw_map _ _ (fun (s : (Int32 × Mu)) => (s.1, mput a h s.2)) (mput a h) (fun s => lX12_laysTables_2b a h s.2 s.1) (x1, m)
noncomputable def gX12_laysTables (m : Mu)  : Option Mu :=
  gX12_laysTables_2 m (0 : Int32)
theorem lX12_laysTables (a : Nat) (h : Hp) (m : Mu)  : fX12_laysTables (mput a h m) a = (gX12_laysTables m ).map (mput a h) := by
  unfold fX12_laysTables gX12_laysTables
  simp only [lX12_laysTables_2, lift_lt, lift_gO, k_bs, k_mb, k_ms, k_bm, k_mm, k_il, k_ir, lift_ite, k_id]
noncomputable def gX12_yearBy_207 (m : Mu) (s0 : Int32) : Option Int32 :=
  some (s0)
theorem lX12_yearBy_207 (a : Nat) (h : Hp) (m : Mu) (s0 : Int32) : fX12_yearBy_207 (mput a h m) s0 = gX12_yearBy_207 m s0 := by
  unfold fX12_yearBy_207 gX12_yearBy_207
  simp only [lift_lt, lift_gO, k_bs, k_mb, k_ms, k_bm, k_mm, k_il, k_ir, lift_ite, k_id]
noncomputable def gX12_yearBy_178 (m : Mu) (x3 : Int32) (x5 : Int32) (x7 : Int32) (x8 : Int32) (x9 : Int32) : Option Int32 :=
  (gX12_fallOf x3 x9 x7 x8).bind fun y5 =>
  (mA m 8 y5).bind fun v6 =>
  if v6 = 0 then (
    gX12_yearBy_207 m x5) else (
    gX12_yearBy_207 m (x5 + (10000 : Int32)))
theorem lX12_yearBy_178 (a : Nat) (h : Hp) (m : Mu) (x3 : Int32) (x5 : Int32) (x7 : Int32) (x8 : Int32) (x9 : Int32) : fX12_yearBy_178 (mput a h m) a x3 x5 x7 x8 x9 = gX12_yearBy_178 m x3 x5 x7 x8 x9 := by
  unfold fX12_yearBy_178 gX12_yearBy_178
  simp only [lift_gN_19, lX12_fallOf, lift_aI_8, lX12_yearBy_207, lift_lt, lift_gO, k_bs, k_mb, k_ms, k_bm, k_mm, k_il, k_ir, lift_ite, k_id]
noncomputable def gX12_yearBy_162 (m : Mu) (x1 : Int32) (x2 : Int32) (x3 : Int32) (x4 : Int32) (x5 : Int32) (x6 : Int32) (x7 : Int32) (x8 : Int32) (x10 : Int32) (s0 : Int32) (s1 : Int32) : Option ((Int32 × Int32 × Int32 × Int32 × Int32 × Int32) ⊕ Int32) :=
  some (.inl (x5, (x6 * (10 : Int32)), x7, x8, (s0 + s1), (x10 + Int32.ofInt 1)))
theorem lX12_yearBy_162 (a : Nat) (h : Hp) (m : Mu) (x1 : Int32) (x2 : Int32) (x3 : Int32) (x4 : Int32) (x5 : Int32) (x6 : Int32) (x7 : Int32) (x8 : Int32) (x10 : Int32) (s0 : Int32) (s1 : Int32) : fX12_yearBy_162 (mput a h m) a x1 x2 x3 x4 x5 x6 x7 x8 x10 s0 s1 = gX12_yearBy_162 m x1 x2 x3 x4 x5 x6 x7 x8 x10 s0 s1 := by
  unfold fX12_yearBy_162 gX12_yearBy_162
  simp only [lift_lt, lift_gO, k_bs, k_mb, k_ms, k_bm, k_mm, k_il, k_ir, lift_ite, k_id]
noncomputable def gX12_yearBy_148 (m : Mu) (x1 : Int32) (x2 : Int32) (x3 : Int32) (x4 : Int32) (x5 : Int32) (x6 : Int32) (x7 : Int32) (x9 : Int32) (x10 : Int32) (x12 : Int32) (s0 : Int32) : Option ((Int32 × Int32 × Int32 × Int32 × Int32 × Int32) ⊕ Int32) :=
  if x12 = 0 then (
    gX12_yearBy_162 m x1 x2 x3 x4 x5 x6 x7 s0 x10 x9 (1 : Int32)) else (
    gX12_yearBy_162 m x1 x2 x3 x4 x5 x6 x7 s0 x10 x9 (0 : Int32))
theorem lX12_yearBy_148 (a : Nat) (h : Hp) (m : Mu) (x1 : Int32) (x2 : Int32) (x3 : Int32) (x4 : Int32) (x5 : Int32) (x6 : Int32) (x7 : Int32) (x9 : Int32) (x10 : Int32) (x12 : Int32) (s0 : Int32) : fX12_yearBy_148 (mput a h m) a x1 x2 x3 x4 x5 x6 x7 x9 x10 x12 s0 = gX12_yearBy_148 m x1 x2 x3 x4 x5 x6 x7 x9 x10 x12 s0 := by
  unfold fX12_yearBy_148 gX12_yearBy_148
  simp only [lX12_yearBy_162, lift_lt, lift_gO, k_bs, k_mb, k_ms, k_bm, k_mm, k_il, k_ir, lift_ite, k_id]
noncomputable def gX12_yearBy_115 (m : Mu) (x1 : Int32) (x2 : Int32) (x3 : Int32) (x4 : Int32) (x5 : Int32) (x6 : Int32) (x7 : Int32) (x8 : Int32) (x9 : Int32) (x10 : Int32) (s0 : Int32) : Option ((Int32 × Int32 × Int32 × Int32 × Int32 × Int32) ⊕ Int32) :=
  if s0 ≤ x8 then (
    gX12_yearBy_148 m x1 x2 x3 x4 (x5 + (x6 * s0)) x6 (x7 + s0) x9 x10 s0 x8) else (
    gX12_yearBy_148 m x1 x2 x3 x4 (x5 + (x6 * s0)) x6 (x7 + s0) x9 x10 s0 s0)
theorem lX12_yearBy_115 (a : Nat) (h : Hp) (m : Mu) (x1 : Int32) (x2 : Int32) (x3 : Int32) (x4 : Int32) (x5 : Int32) (x6 : Int32) (x7 : Int32) (x8 : Int32) (x9 : Int32) (x10 : Int32) (s0 : Int32) : fX12_yearBy_115 (mput a h m) a x1 x2 x3 x4 x5 x6 x7 x8 x9 x10 s0 = gX12_yearBy_115 m x1 x2 x3 x4 x5 x6 x7 x8 x9 x10 s0 := by
  unfold fX12_yearBy_115 gX12_yearBy_115
  simp only [lX12_yearBy_148, lift_lt, lift_gO, k_bs, k_mb, k_ms, k_bm, k_mm, k_il, k_ir, lift_ite, k_id]
noncomputable def gX12_yearBy_90 (m : Mu) (x1 : Int32) (x2 : Int32) (x3 : Int32) (x4 : Int32) (x5 : Int32) (x6 : Int32) (x7 : Int32) (x8 : Int32) (x9 : Int32) (x10 : Int32) (s0 : Int32) : Option ((Int32 × Int32 × Int32 × Int32 × Int32 × Int32) ⊕ Int32) :=
  if 0 ≤ s0 then (
    if s0 ≤ (9 : Int32) then (
      gX12_yearBy_115 m x1 x2 x3 x4 x5 x6 x7 x8 x9 x10 s0) else (
      gX12_yearBy_115 m x1 x2 x3 x4 x5 x6 x7 x8 x9 x10 (9 : Int32))) else (
    gX12_yearBy_115 m x1 x2 x3 x4 x5 x6 x7 x8 x9 x10 (0 : Int32))
theorem lX12_yearBy_90 (a : Nat) (h : Hp) (m : Mu) (x1 : Int32) (x2 : Int32) (x3 : Int32) (x4 : Int32) (x5 : Int32) (x6 : Int32) (x7 : Int32) (x8 : Int32) (x9 : Int32) (x10 : Int32) (s0 : Int32) : fX12_yearBy_90 (mput a h m) a x1 x2 x3 x4 x5 x6 x7 x8 x9 x10 s0 = gX12_yearBy_90 m x1 x2 x3 x4 x5 x6 x7 x8 x9 x10 s0 := by
  unfold fX12_yearBy_90 gX12_yearBy_90
  simp only [lX12_yearBy_115, lift_lt, lift_gO, k_bs, k_mb, k_ms, k_bm, k_mm, k_il, k_ir, lift_ite, k_id]
noncomputable def gX12_yearBy_37b (m : Mu) (x1 : Int32) (x2 : Int32) (x3 : Int32) (x4 : Int32) (x5 : Int32) (x6 : Int32) (x7 : Int32) (x8 : Int32) (x9 : Int32) (x10 : Int32) : Option ((Int32 × Int32 × Int32 × Int32 × Int32 × Int32) ⊕ Int32) :=
  (mA m 1 (1 : Int32)).bind fun v4 =>
  if v4 ≤ x10 then (
  (gX12_yearBy_178 m x3 x5 x7 x8 x9).map (fun q => .inr q)) else (
    (dv x1 x6).bind fun v7 =>
    (rm v7 (10 : Int32)).bind fun v8 =>
    if v8 = 0 then (
      gX12_yearBy_90 m x1 x2 x3 x4 x5 x6 x7 x8 x9 x10 (0 : Int32)) else (
      (gX12_dropsIn x2 x10).bind fun y9 =>
      (gX12_growOf x3 x10 y9 v8 x4).bind fun y10 =>
      (mA m 7 y10).bind fun v11 =>
      gX12_yearBy_90 m x1 x2 x3 x4 x5 x6 x7 x8 x9 x10 (v8 - v11)))
noncomputable def gX12_yearBy_37 (m : Mu) (x1 : Int32) (x2 : Int32) (x3 : Int32) (x4 : Int32) (x5 : Int32) (x6 : Int32) (x7 : Int32) (x8 : Int32) (x9 : Int32) (x10 : Int32) : Option Int32 := lpw (σ := (Int32 × Int32 × Int32 × Int32 × Int32 × Int32)) (fun s => gX12_yearBy_37b m x1 x2 x3 x4 s.1 s.2.1 s.2.2.1 s.2.2.2.1 s.2.2.2.2.1 s.2.2.2.2.2) (x5, x6, x7, x8, x9, x10)
theorem lX12_yearBy_37b (a : Nat) (h : Hp) (m : Mu) (x1 : Int32) (x2 : Int32) (x3 : Int32) (x4 : Int32) (x5 : Int32) (x6 : Int32) (x7 : Int32) (x8 : Int32) (x9 : Int32) (x10 : Int32) : fX12_yearBy_37b (mput a h m) a x1 x2 x3 x4 x5 x6 x7 x8 x9 x10 = gX12_yearBy_37b m x1 x2 x3 x4 x5 x6 x7 x8 x9 x10 := by
  unfold fX12_yearBy_37b gX12_yearBy_37b
  simp only [lift_gN_1, lift_aI_1, lX12_yearBy_178, lift_gN_18, lX12_dropsIn, lX12_growOf, lift_aI_7, lX12_yearBy_90, lift_lt, lift_gO, k_bs, k_mb, k_ms, k_bm, k_mm, k_il, k_ir, lift_ite, k_id]
theorem lX12_yearBy_37 (a : Nat) (h : Hp) (m : Mu) (x1 : Int32) (x2 : Int32) (x3 : Int32) (x4 : Int32) (x5 : Int32) (x6 : Int32) (x7 : Int32) (x8 : Int32) (x9 : Int32) (x10 : Int32) : fX12_yearBy_37 (mput a h m) a x1 x2 x3 x4 x5 x6 x7 x8 x9 x10 = gX12_yearBy_37 m x1 x2 x3 x4 x5 x6 x7 x8 x9 x10 := by
  unfold fX12_yearBy_37 gX12_yearBy_37
  refine congrArg (fun b => lpw b _) (funext (fun s => ?_))
  exact lX12_yearBy_37b a h m x1 x2 x3 x4 s.1 s.2.1 s.2.2.1 s.2.2.2.1 s.2.2.2.2.1 s.2.2.2.2.2
noncomputable def gX12_yearBy (m : Mu) (x1 : Int32) (x2 : Int32) (x3 : Int32) : Option Int32 :=
  (gX12_hasFallen x1).bind fun y1 =>
  if y1 = 0 then (
    (gX12_metIn m x1).bind fun y2 =>
    (gX12_bitsOf y2).bind fun y3 =>
    gX12_yearBy_37 m x1 x2 x3 y3 (0 : Int32) (1 : Int32) (0 : Int32) (0 : Int32) (0 : Int32) (0 : Int32)) else (
    some (x1))
theorem lX12_yearBy (a : Nat) (h : Hp) (m : Mu) (x1 : Int32) (x2 : Int32) (x3 : Int32) : fX12_yearBy (mput a h m) a x1 x2 x3 = gX12_yearBy m x1 x2 x3 := by
  unfold fX12_yearBy gX12_yearBy
  simp only [lX12_hasFallen, lX12_metIn, lX12_bitsOf, lX12_yearBy_37, lift_lt, lift_gO, k_bs, k_mb, k_ms, k_bm, k_mm, k_il, k_ir, lift_ite, k_id]
noncomputable def gX12_pair (m : Mu) (x1 : Int32) (x2 : Int32) : Option (Int32 × Mu) :=
  lt (mI m 0 (0 : Int32)) fun m1 =>
  (gX12_isPair m1 (x1.toInt64)).bind fun y2 =>
  if y2 = 0 then (
    some (((-2 : Int32), m1))) else (
    if x2 = 0 then (
      (mA m1 1 ((15 : Int32) + x1)).bind fun v3 =>
      some ((v3, m1))) else (
  if x2 = 1 then (
      (mA m1 1 ((19 : Int32) + x1)).bind fun v4 =>
      some ((v4, m1))) else (
  if x2 = 2 then (
      (mA m1 1 (23 : Int32)).bind fun v5 =>
      (gX12_dropsIn v5 x1).bind fun y6 =>
      some ((y6, m1))) else (
  if x2 = 3 then (
      (mA m1 1 ((11 : Int32) + x1)).bind fun v7 =>
      some ((v7, m1))) else (
      some (((-2 : Int32), m1)))))))
theorem lX12_pair (a : Nat) (h : Hp) (m : Mu) (x1 : Int32) (x2 : Int32) : fX12_pair (mput a h m) a x1 x2 = (gX12_pair m x1 x2).map (fun (y : (Int32 × Mu)) => (y.1, mput a h y.2)) := by
  unfold fX12_pair gX12_pair
  simp only [lift_sV_0, lX12_isPair, lift_gN_1, lift_aI_1, lX12_dropsIn, lift_lt, lift_gO, k_bs, k_mb, k_ms, k_bm, k_mm, k_il, k_ir, lift_ite, k_id]
