/-! the reference over its own numbers -/
noncomputable def gX12_surely_141 (m : Mu) (s0 : Int32) : Option (Int32 × Mu) :=
  some ((s0, m))
theorem lX12_surely_141 (a : Nat) (h : Hp) (m : Mu) (s0 : Int32) : fX12_surely_141 (mput a h m) s0 = (gX12_surely_141 m s0).map (fun (y : (Int32 × Mu)) => (y.1, mput a h y.2)) := by
  unfold fX12_surely_141 gX12_surely_141
  simp only [lift_lt, lift_gO, k_bs, k_mb, k_ms, k_bm, k_mm, k_il, k_ir, lift_ite, k_id]
noncomputable def gX12_surely_130 (m : Mu) (x5 : Int32) (x6 : Int32) : Option (Int32 × Mu) :=
  if x6 = 0 then (
    gX12_surely_141 m (0 : Int32)) else (
    gX12_surely_141 m x5)
theorem lX12_surely_130 (a : Nat) (h : Hp) (m : Mu) (x5 : Int32) (x6 : Int32) : fX12_surely_130 (mput a h m) x5 x6 = (gX12_surely_130 m x5 x6).map (fun (y : (Int32 × Mu)) => (y.1, mput a h y.2)) := by
  unfold fX12_surely_130 gX12_surely_130
  simp only [lX12_surely_141, lift_lt, lift_gO, k_bs, k_mb, k_ms, k_bm, k_mm, k_il, k_ir, lift_ite, k_id]
noncomputable def gX12_surely_124 (m : Mu) (x1 : Int32) (x2 : Int32) (x3 : Int32) (x5 : Int32) (x6 : Int32) (x7 : Int32) : Option ((Int32 × Int32 × Int32 × Mu) ⊕ (Int32 × Mu)) :=
  some (.inl (x5, x6, (x7 + Int32.ofInt 1), m))
theorem lX12_surely_124 (a : Nat) (h : Hp) (m : Mu) (x1 : Int32) (x2 : Int32) (x3 : Int32) (x5 : Int32) (x6 : Int32) (x7 : Int32) : fX12_surely_124 (mput a h m) a x1 x2 x3 x5 x6 x7 = (gX12_surely_124 m x1 x2 x3 x5 x6 x7).map (Sum.map (fun (s : (Int32 × Int32 × Int32 × Mu)) => (s.1, s.2.1, s.2.2.1, mput a h s.2.2.2)) (fun (y : (Int32 × Mu)) => (y.1, mput a h y.2))) := by
  unfold fX12_surely_124 gX12_surely_124
  simp only [lift_lt, lift_gO, k_bs, k_mb, k_ms, k_bm, k_mm, k_il, k_ir, lift_ite, k_id]
noncomputable def gX12_surely_118 (m : Mu) (x1 : Int32) (x2 : Int32) (x3 : Int32) (x5 : Int32) (x6 : Int32) (x7 : Int32) (x8 : Int32) : Option ((Int32 × Int32) ⊕ ((Int32 × Int32 × Int32 × Mu) ⊕ (Int32 × Mu))) :=
  some (.inl (x5, (x8 + Int32.ofInt 1)))
theorem lX12_surely_118 (a : Nat) (h : Hp) (m : Mu) (x1 : Int32) (x2 : Int32) (x3 : Int32) (x5 : Int32) (x6 : Int32) (x7 : Int32) (x8 : Int32) : fX12_surely_118 (mput a h m) a x1 x2 x3 x5 x6 x7 x8 = (gX12_surely_118 m x1 x2 x3 x5 x6 x7 x8).map (Sum.map id (Sum.map (fun (s : (Int32 × Int32 × Int32 × Mu)) => (s.1, s.2.1, s.2.2.1, mput a h s.2.2.2)) (fun (y : (Int32 × Mu)) => (y.1, mput a h y.2)))) := by
  unfold fX12_surely_118 gX12_surely_118
  simp only [lift_lt, lift_gO, k_bs, k_mb, k_ms, k_bm, k_mm, k_il, k_ir, lift_ite, k_id]
noncomputable def gX12_surely_83b (m : Mu) (x1 : Int32) (x2 : Int32) (x3 : Int32) (x6 : Int32) (x7 : Int32) (x5 : Int32) (x8 : Int32) : Option ((Int32 × Int32) ⊕ ((Int32 × Int32 × Int32 × Mu) ⊕ (Int32 × Mu))) :=
  (mA m 22 x1).bind fun v7 =>
  if v7 ≤ x8 then (
  (gX12_surely_124 m x1 x2 x3 x5 x6 x7).map (fun q => .inr q)) else (
    (gX12_dryIn m x1 x7 x8).bind fun y8 =>
    if y8 = x3 then (
    gX12_surely_118 m x1 x2 x3 x5 x6 x7 x8) else (
      gX12_surely_118 m x1 x2 x3 (x5 &&& (((1 : Int32) <<< (x8 &&& 31)) ^^^ (-1 : Int32))) x6 x7 x8))
noncomputable def gX12_surely_83 (m : Mu) (x1 : Int32) (x2 : Int32) (x3 : Int32) (x5 : Int32) (x6 : Int32) (x7 : Int32) (x8 : Int32) : Option ((Int32 × Int32 × Int32 × Mu) ⊕ (Int32 × Mu)) := lpw (σ := (Int32 × Int32)) (fun s => gX12_surely_83b m x1 x2 x3 x6 x7 s.1 s.2) (x5, x8)
theorem lX12_surely_83b (a : Nat) (h : Hp) (m : Mu) (x1 : Int32) (x2 : Int32) (x3 : Int32) (x5 : Int32) (x6 : Int32) (x7 : Int32) (x8 : Int32) : fX12_surely_83b (mput a h m) a x1 x2 x3 x6 x7 x5 x8 = (gX12_surely_83b m x1 x2 x3 x6 x7 x5 x8).map (Sum.map id (Sum.map (fun (s : (Int32 × Int32 × Int32 × Mu)) => (s.1, s.2.1, s.2.2.1, mput a h s.2.2.2)) (fun (y : (Int32 × Mu)) => (y.1, mput a h y.2)))) := by
  unfold fX12_surely_83b gX12_surely_83b
  simp only [lift_gN_39, lift_aI_22, lX12_surely_124, lX12_dryIn, lX12_surely_118, lift_lt, lift_gO, k_bs, k_mb, k_ms, k_bm, k_mm, k_il, k_ir, lift_ite, k_id]
theorem lX12_surely_83 (a : Nat) (h : Hp) (m : Mu) (x1 : Int32) (x2 : Int32) (x3 : Int32) (x5 : Int32) (x6 : Int32) (x7 : Int32) (x8 : Int32) : fX12_surely_83 (mput a h m) a x1 x2 x3 x5 x6 x7 x8 = (gX12_surely_83 m x1 x2 x3 x5 x6 x7 x8).map (Sum.map (fun (s : (Int32 × Int32 × Int32 × Mu)) => (s.1, s.2.1, s.2.2.1, mput a h s.2.2.2)) (fun (y : (Int32 × Mu)) => (y.1, mput a h y.2))) := by
  unfold fX12_surely_83 gX12_surely_83
  exact lpw_map _ _ id (Sum.map (fun (s : (Int32 × Int32 × Int32 × Mu)) => (s.1, s.2.1, s.2.2.1, mput a h s.2.2.2)) (fun (y : (Int32 × Mu)) => (y.1, mput a h y.2))) (fun s => lX12_surely_83b a h m x1 x2 x3 s.1 x6 x7 s.2) (x5, x8)
noncomputable def gX12_surely_50b (m : Mu) (x1 : Int32) (x2 : Int32) (x3 : Int32) (x5 : Int32) (x6 : Int32) (x7 : Int32) : Option ((Int32 × Int32 × Int32 × Mu) ⊕ (Int32 × Mu)) :=
  (mA m 22 x1).bind fun v5 =>
  if ((1 : Int32) <<< (v5 &&& 31)) ≤ x7 then (
  (gX12_surely_130 m x5 x6).map (fun q => .inr q)) else (
    (gX12_isSeen m x1 x2 x7).bind fun y6 =>
    if y6.1 = 0 then (
      gX12_surely_124 y6.2 x1 x2 x3 x5 x6 x7) else (
      gX12_surely_83 y6.2 x1 x2 x3 x5 (1 : Int32) x7 (0 : Int32)))
noncomputable def gX12_surely_50 (m : Mu) (x1 : Int32) (x2 : Int32) (x3 : Int32) (x5 : Int32) (x6 : Int32) (x7 : Int32) : Option (Int32 × Mu) := lpw (σ := (Int32 × Int32 × Int32 × Mu)) (fun s => gX12_surely_50b s.2.2.2 x1 x2 x3 s.1 s.2.1 s.2.2.1) (x5, x6, x7, m)
theorem lX12_surely_50b (a : Nat) (h : Hp) (m : Mu) (x1 : Int32) (x2 : Int32) (x3 : Int32) (x5 : Int32) (x6 : Int32) (x7 : Int32) : fX12_surely_50b (mput a h m) a x1 x2 x3 x5 x6 x7 = (gX12_surely_50b m x1 x2 x3 x5 x6 x7).map (Sum.map (fun (s : (Int32 × Int32 × Int32 × Mu)) => (s.1, s.2.1, s.2.2.1, mput a h s.2.2.2)) (fun (y : (Int32 × Mu)) => (y.1, mput a h y.2))) := by
  unfold fX12_surely_50b gX12_surely_50b
  simp only [lift_gN_39, lift_aI_22, lX12_surely_130, lX12_isSeen, lX12_surely_83, lX12_surely_124, lift_lt, lift_gO, k_bs, k_mb, k_ms, k_bm, k_mm, k_il, k_ir, lift_ite, k_id]
theorem lX12_surely_50 (a : Nat) (h : Hp) (m : Mu) (x1 : Int32) (x2 : Int32) (x3 : Int32) (x5 : Int32) (x6 : Int32) (x7 : Int32) : fX12_surely_50 (mput a h m) a x1 x2 x3 x5 x6 x7 = (gX12_surely_50 m x1 x2 x3 x5 x6 x7).map (fun (y : (Int32 × Mu)) => (y.1, mput a h y.2)) := by
  unfold fX12_surely_50 gX12_surely_50
  exact lpw_map _ _ (fun (s : (Int32 × Int32 × Int32 × Mu)) => (s.1, s.2.1, s.2.2.1, mput a h s.2.2.2)) (fun (y : (Int32 × Mu)) => (y.1, mput a h y.2)) (fun s => lX12_surely_50b a h s.2.2.2 x1 x2 x3 s.1 s.2.1 s.2.2.1) (x5, x6, x7, m)
noncomputable def gX12_surely (m : Mu) (x1 : Int32) (x2 : Int32) (x3 : Int32) : Option (Int32 × Mu) :=
  lt (mI m 0 (0 : Int32)) fun m1 =>
  (gX12_isDry (x3.toInt64)).bind fun y2 =>
  if y2 = 0 then (
    some (((-2 : Int32), m1))) else (
    (gX12_noSeen m1 x1 x2).bind fun y3 =>
    if y3 = 0 then (
      (mA m1 22 x1).bind fun v4 =>
      gX12_surely_50 m1 x1 x2 x3 (((1 : Int32) <<< (v4 &&& 31)) - (1 : Int32)) (0 : Int32) (0 : Int32)) else (
      some ((y3, m1))))
theorem lX12_surely (a : Nat) (h : Hp) (m : Mu) (x1 : Int32) (x2 : Int32) (x3 : Int32) : fX12_surely (mput a h m) a x1 x2 x3 = (gX12_surely m x1 x2 x3).map (fun (y : (Int32 × Mu)) => (y.1, mput a h y.2)) := by
  unfold fX12_surely gX12_surely
  simp only [lift_sV_0, lX12_isDry, lX12_noSeen, lift_gN_39, lift_aI_22, lX12_surely_50, lift_lt, lift_gO, k_bs, k_mb, k_ms, k_bm, k_mm, k_il, k_ir, lift_ite, k_id]
noncomputable def gX12_chalksOf_63 (m : Mu) (x2 : Int32) (x3 : Int32) (x4 : Int32) : Option (Int32 × Mu) :=
  (mW m 1 ((19 : Int32) + x2) x3).bind fun m2 =>
  some ((x4, m2))
theorem lX12_chalksOf_63 (a : Nat) (h : Hp) (m : Mu) (x2 : Int32) (x3 : Int32) (x4 : Int32) : fX12_chalksOf_63 (mput a h m) a x2 x3 x4 = (gX12_chalksOf_63 m x2 x3 x4).map (fun (y : (Int32 × Mu)) => (y.1, mput a h y.2)) := by
  unfold fX12_chalksOf_63 gX12_chalksOf_63
  simp only [lift_gN_1, lift_wI_1, lift_lt, lift_gO, k_bs, k_mb, k_ms, k_bm, k_mm, k_il, k_ir, lift_ite, k_id]
noncomputable def gX12_chalksOf_54 (m : Mu) (x1 : Int32) (x2 : Int32) (x3 : Int32) (x5 : Int32) (s0 : Int32) (s1 : Int32) : Option ((Int32 × Int32 × Mu) ⊕ (Int32 × Mu)) :=
  some (.inl ((s0 ||| s1), (x5 + Int32.ofInt 1), m))
theorem lX12_chalksOf_54 (a : Nat) (h : Hp) (m : Mu) (x1 : Int32) (x2 : Int32) (x3 : Int32) (x5 : Int32) (s0 : Int32) (s1 : Int32) : fX12_chalksOf_54 (mput a h m) a x1 x2 x3 x5 s0 s1 = (gX12_chalksOf_54 m x1 x2 x3 x5 s0 s1).map (Sum.map (fun (s : (Int32 × Int32 × Mu)) => (s.1, s.2.1, mput a h s.2.2)) (fun (y : (Int32 × Mu)) => (y.1, mput a h y.2))) := by
  unfold fX12_chalksOf_54 gX12_chalksOf_54
  simp only [lift_lt, lift_gO, k_bs, k_mb, k_ms, k_bm, k_mm, k_il, k_ir, lift_ite, k_id]
noncomputable def gX12_chalksOf_16b (m : Mu) (x1 : Int32) (x2 : Int32) (x3 : Int32) (x4 : Int32) (x5 : Int32) : Option ((Int32 × Int32 × Mu) ⊕ (Int32 × Mu)) :=
  if (10 : Int32) ≤ x5 then (
  (gX12_chalksOf_63 m x2 x3 x4).map (fun q => .inr q)) else (
    (mW m 1 ((19 : Int32) + x2) x5).bind fun m3 =>
    (gX12_isSeen m3 x1 x2 (0 : Int32)).bind fun y4 =>
    if y4.1 = 0 then (
      gX12_chalksOf_54 y4.2 x1 x2 x3 x5 x4 (0 : Int32)) else (
      gX12_chalksOf_54 y4.2 x1 x2 x3 x5 x4 ((1 : Int32) <<< (x5 &&& 31))))
noncomputable def gX12_chalksOf_16 (m : Mu) (x1 : Int32) (x2 : Int32) (x3 : Int32) (x4 : Int32) (x5 : Int32) : Option (Int32 × Mu) := lpw (σ := (Int32 × Int32 × Mu)) (fun s => gX12_chalksOf_16b s.2.2 x1 x2 x3 s.1 s.2.1) (x4, x5, m)
theorem lX12_chalksOf_16b (a : Nat) (h : Hp) (m : Mu) (x1 : Int32) (x2 : Int32) (x3 : Int32) (x4 : Int32) (x5 : Int32) : fX12_chalksOf_16b (mput a h m) a x1 x2 x3 x4 x5 = (gX12_chalksOf_16b m x1 x2 x3 x4 x5).map (Sum.map (fun (s : (Int32 × Int32 × Mu)) => (s.1, s.2.1, mput a h s.2.2)) (fun (y : (Int32 × Mu)) => (y.1, mput a h y.2))) := by
  unfold fX12_chalksOf_16b gX12_chalksOf_16b
  simp only [lX12_chalksOf_63, lift_gN_1, lift_wI_1, lX12_isSeen, lX12_chalksOf_54, lift_lt, lift_gO, k_bs, k_mb, k_ms, k_bm, k_mm, k_il, k_ir, lift_ite, k_id]
theorem lX12_chalksOf_16 (a : Nat) (h : Hp) (m : Mu) (x1 : Int32) (x2 : Int32) (x3 : Int32) (x4 : Int32) (x5 : Int32) : fX12_chalksOf_16 (mput a h m) a x1 x2 x3 x4 x5 = (gX12_chalksOf_16 m x1 x2 x3 x4 x5).map (fun (y : (Int32 × Mu)) => (y.1, mput a h y.2)) := by
  unfold fX12_chalksOf_16 gX12_chalksOf_16
  exact lpw_map _ _ (fun (s : (Int32 × Int32 × Mu)) => (s.1, s.2.1, mput a h s.2.2)) (fun (y : (Int32 × Mu)) => (y.1, mput a h y.2)) (fun s => lX12_chalksOf_16b a h s.2.2 x1 x2 x3 s.1 s.2.1) (x4, x5, m)
noncomputable def gX12_chalksOf (m : Mu) (x1 : Int32) (x2 : Int32) : Option (Int32 × Mu) :=
  (mA m 1 ((19 : Int32) + x2)).bind fun v1 =>
  gX12_chalksOf_16 m x1 x2 v1 (0 : Int32) (0 : Int32)
theorem lX12_chalksOf (a : Nat) (h : Hp) (m : Mu) (x1 : Int32) (x2 : Int32) : fX12_chalksOf (mput a h m) a x1 x2 = (gX12_chalksOf m x1 x2).map (fun (y : (Int32 × Mu)) => (y.1, mput a h y.2)) := by
  unfold fX12_chalksOf gX12_chalksOf
  simp only [lift_gN_1, lift_aI_1, lX12_chalksOf_16, lift_lt, lift_gO, k_bs, k_mb, k_ms, k_bm, k_mm, k_il, k_ir, lift_ite, k_id]
noncomputable def gX12_chalks_26 (m : Mu) (s0 : Int32) : Option (Int32 × Mu) :=
  some ((s0, m))
theorem lX12_chalks_26 (a : Nat) (h : Hp) (m : Mu) (s0 : Int32) : fX12_chalks_26 (mput a h m) s0 = (gX12_chalks_26 m s0).map (fun (y : (Int32 × Mu)) => (y.1, mput a h y.2)) := by
  unfold fX12_chalks_26 gX12_chalks_26
  simp only [lift_lt, lift_gO, k_bs, k_mb, k_ms, k_bm, k_mm, k_il, k_ir, lift_ite, k_id]
noncomputable def gX12_chalks (m : Mu) (x1 : Int32) (x2 : Int32) : Option (Int32 × Mu) :=
  lt (mI m 0 (0 : Int32)) fun m1 =>
  (gX12_noSeen m1 x1 x2).bind fun y2 =>
  if y2 = 0 then (
    (gX12_chalksOf m1 x1 x2).bind fun y3 =>
    gX12_chalks_26 y3.2 y3.1) else (
    gX12_chalks_26 m1 y2)
theorem lX12_chalks (a : Nat) (h : Hp) (m : Mu) (x1 : Int32) (x2 : Int32) : fX12_chalks (mput a h m) a x1 x2 = (gX12_chalks m x1 x2).map (fun (y : (Int32 × Mu)) => (y.1, mput a h y.2)) := by
  unfold fX12_chalks gX12_chalks
  simp only [lift_sV_0, lX12_noSeen, lX12_chalksOf, lX12_chalks_26, lift_lt, lift_gO, k_bs, k_mb, k_ms, k_bm, k_mm, k_il, k_ir, lift_ite, k_id]
noncomputable def gX12_mostOften_121 (m : Mu) (x1 : Int32) (x2 : Int32) (x3 : Int32) (x4 : Int32) (x5 : Int32) : Option ((Int32 × Int32 × Mu) ⊕ (Int32 × Mu)) :=
  some (.inl (x4, (x5 + Int32.ofInt 1), m))
theorem lX12_mostOften_121 (a : Nat) (h : Hp) (m : Mu) (x1 : Int32) (x2 : Int32) (x3 : Int32) (x4 : Int32) (x5 : Int32) : fX12_mostOften_121 (mput a h m) a x1 x2 x3 x4 x5 = (gX12_mostOften_121 m x1 x2 x3 x4 x5).map (Sum.map (fun (s : (Int32 × Int32 × Mu)) => (s.1, s.2.1, mput a h s.2.2)) (fun (y : (Int32 × Mu)) => (y.1, mput a h y.2))) := by
  unfold fX12_mostOften_121 gX12_mostOften_121
  simp only [lift_lt, lift_gO, k_bs, k_mb, k_ms, k_bm, k_mm, k_il, k_ir, lift_ite, k_id]
noncomputable def gX12_mostOften_119 (m : Mu) (x1 : Int32) (x2 : Int32) (x3 : Int32) (x5 : Int32) (s0 : Int32) : Option ((Int32 × Int32 × Mu) ⊕ (Int32 × Mu)) :=
  gX12_mostOften_121 m x1 x2 x3 s0 x5
theorem lX12_mostOften_119 (a : Nat) (h : Hp) (m : Mu) (x1 : Int32) (x2 : Int32) (x3 : Int32) (x5 : Int32) (s0 : Int32) : fX12_mostOften_119 (mput a h m) a x1 x2 x3 x5 s0 = (gX12_mostOften_119 m x1 x2 x3 x5 s0).map (Sum.map (fun (s : (Int32 × Int32 × Mu)) => (s.1, s.2.1, mput a h s.2.2)) (fun (y : (Int32 × Mu)) => (y.1, mput a h y.2))) := by
  unfold fX12_mostOften_119 gX12_mostOften_119
  simp only [lX12_mostOften_121, lift_lt, lift_gO, k_bs, k_mb, k_ms, k_bm, k_mm, k_il, k_ir, lift_ite, k_id]
noncomputable def gX12_mostOften_30b (m : Mu) (x1 : Int32) (x2 : Int32) (x3 : Int32) (x4 : Int32) (x5 : Int32) : Option ((Int32 × Int32 × Mu) ⊕ (Int32 × Mu)) :=
  if (10 : Int32) ≤ x5 then (
    some (.inr (x4, m))) else (
    (gX12_isIn (x3.toInt64) x5).bind fun y1 =>
    if y1 = 0 then (
      gX12_mostOften_121 m x1 x2 x3 x4 x5) else (
      (mA m 1 ((15 : Int32) + x1)).bind fun v2 =>
      (gX12_standNow m ).bind fun y3 =>
      (gX12_metIn m y3).bind fun y4 =>
      (gX12_bitsOf y4).bind fun y5 =>
      (gX12_growsBy m x1 x5 x2 v2 y5 (0 : Int32)).bind fun y6 =>
      (mA y6.2 19 ((9 : Int32) + y6.1)).bind fun v7 =>
      (mW y6.2 19 ((9 : Int32) + y6.1) (v7 + (1 : Int32))).bind fun m8 =>
      (mA m8 19 ((9 : Int32) + y6.1)).bind fun v9 =>
      if v9 ≤ x4 then (
        gX12_mostOften_119 m8 x1 x2 x3 x5 x4) else (
        (mA m8 19 ((9 : Int32) + y6.1)).bind fun v10 =>
        gX12_mostOften_119 m8 x1 x2 x3 x5 v10)))
noncomputable def gX12_mostOften_30 (m : Mu) (x1 : Int32) (x2 : Int32) (x3 : Int32) (x4 : Int32) (x5 : Int32) : Option (Int32 × Mu) := lpw (σ := (Int32 × Int32 × Mu)) (fun s => gX12_mostOften_30b s.2.2 x1 x2 x3 s.1 s.2.1) (x4, x5, m)
theorem lX12_mostOften_30b (a : Nat) (h : Hp) (m : Mu) (x1 : Int32) (x2 : Int32) (x3 : Int32) (x4 : Int32) (x5 : Int32) : fX12_mostOften_30b (mput a h m) a x1 x2 x3 x4 x5 = (gX12_mostOften_30b m x1 x2 x3 x4 x5).map (Sum.map (fun (s : (Int32 × Int32 × Mu)) => (s.1, s.2.1, mput a h s.2.2)) (fun (y : (Int32 × Mu)) => (y.1, mput a h y.2))) := by
  unfold fX12_mostOften_30b gX12_mostOften_30b
  simp only [lX12_isIn, lift_gN_1, lift_aI_1, lX12_standNow, lX12_metIn, lX12_bitsOf, lX12_growsBy, lift_gN_36, lift_aI_19, lift_wI_19, lX12_mostOften_119, lX12_mostOften_121, lift_lt, lift_gO, k_bs, k_mb, k_ms, k_bm, k_mm, k_il, k_ir, lift_ite, k_id]
theorem lX12_mostOften_30 (a : Nat) (h : Hp) (m : Mu) (x1 : Int32) (x2 : Int32) (x3 : Int32) (x4 : Int32) (x5 : Int32) : fX12_mostOften_30 (mput a h m) a x1 x2 x3 x4 x5 = (gX12_mostOften_30 m x1 x2 x3 x4 x5).map (fun (y : (Int32 × Mu)) => (y.1, mput a h y.2)) := by
  unfold fX12_mostOften_30 gX12_mostOften_30
  exact lpw_map _ _ (fun (s : (Int32 × Int32 × Mu)) => (s.1, s.2.1, mput a h s.2.2)) (fun (y : (Int32 × Mu)) => (y.1, mput a h y.2)) (fun s => lX12_mostOften_30b a h s.2.2 x1 x2 x3 s.1 s.2.1) (x4, x5, m)
noncomputable def gX12_mostOften_27 (m : Mu) (x1 : Int32) (x2 : Int32) (x3 : Int32) (x4 : Int32) : Option (Int32 × Mu) :=
  gX12_mostOften_30 m x1 x2 x3 x4 (0 : Int32)
theorem lX12_mostOften_27 (a : Nat) (h : Hp) (m : Mu) (x1 : Int32) (x2 : Int32) (x3 : Int32) (x4 : Int32) : fX12_mostOften_27 (mput a h m) a x1 x2 x3 x4 = (gX12_mostOften_27 m x1 x2 x3 x4).map (fun (y : (Int32 × Mu)) => (y.1, mput a h y.2)) := by
  unfold fX12_mostOften_27 gX12_mostOften_27
  simp only [lX12_mostOften_30, lift_lt, lift_gO, k_bs, k_mb, k_ms, k_bm, k_mm, k_il, k_ir, lift_ite, k_id]
noncomputable def gX12_mostOften_6b (m : Mu) (x1 : Int32) (x2 : Int32) (x3 : Int32) (x4 : Int32) (x5 : Int32) : Option ((Int32 × Mu) ⊕ (Int32 × Mu)) :=
  if (19 : Int32) ≤ x5 then (
  (gX12_mostOften_27 m x1 x2 x3 x4).map (fun q => .inr q)) else (
    (mW m 19 x5 (0 : Int32)).bind fun m11 =>
    some (.inl ((x5 + Int32.ofInt 1), m11)))
noncomputable def gX12_mostOften_6 (m : Mu) (x1 : Int32) (x2 : Int32) (x3 : Int32) (x4 : Int32) (x5 : Int32) : Option (Int32 × Mu) := lpw (σ := (Int32 × Mu)) (fun s => gX12_mostOften_6b s.2 x1 x2 x3 x4 s.1) (x5, m)
theorem lX12_mostOften_6b (a : Nat) (h : Hp) (m : Mu) (x1 : Int32) (x2 : Int32) (x3 : Int32) (x4 : Int32) (x5 : Int32) : fX12_mostOften_6b (mput a h m) a x1 x2 x3 x4 x5 = (gX12_mostOften_6b m x1 x2 x3 x4 x5).map (Sum.map (fun (s : (Int32 × Mu)) => (s.1, mput a h s.2)) (fun (y : (Int32 × Mu)) => (y.1, mput a h y.2))) := by
  unfold fX12_mostOften_6b gX12_mostOften_6b
  simp only [lX12_mostOften_27, lift_gN_36, lift_wI_19, lift_lt, lift_gO, k_bs, k_mb, k_ms, k_bm, k_mm, k_il, k_ir, lift_ite, k_id]
theorem lX12_mostOften_6 (a : Nat) (h : Hp) (m : Mu) (x1 : Int32) (x2 : Int32) (x3 : Int32) (x4 : Int32) (x5 : Int32) : fX12_mostOften_6 (mput a h m) a x1 x2 x3 x4 x5 = (gX12_mostOften_6 m x1 x2 x3 x4 x5).map (fun (y : (Int32 × Mu)) => (y.1, mput a h y.2)) := by
  unfold fX12_mostOften_6 gX12_mostOften_6
  exact lpw_map _ _ (fun (s : (Int32 × Mu)) => (s.1, mput a h s.2)) (fun (y : (Int32 × Mu)) => (y.1, mput a h y.2)) (fun s => lX12_mostOften_6b a h s.2 x1 x2 x3 x4 s.1) (x5, m)
noncomputable def gX12_mostOften (m : Mu) (x1 : Int32) (x2 : Int32) (x3 : Int32) : Option (Int32 × Mu) :=
  gX12_mostOften_6 m x1 x2 x3 (0 : Int32) (0 : Int32)
theorem lX12_mostOften (a : Nat) (h : Hp) (m : Mu) (x1 : Int32) (x2 : Int32) (x3 : Int32) : fX12_mostOften (mput a h m) a x1 x2 x3 = (gX12_mostOften m x1 x2 x3).map (fun (y : (Int32 × Mu)) => (y.1, mput a h y.2)) := by
  unfold fX12_mostOften gX12_mostOften
  simp only [lX12_mostOften_6, lift_lt, lift_gO, k_bs, k_mb, k_ms, k_bm, k_mm, k_il, k_ir, lift_ite, k_id]
noncomputable def gX12_attempt_98 (m : Mu) (x5 : Int32) : Option (Int32 × Mu) :=
  some ((x5, m))
theorem lX12_attempt_98 (a : Nat) (h : Hp) (m : Mu) (x5 : Int32) : fX12_attempt_98 (mput a h m) x5 = (gX12_attempt_98 m x5).map (fun (y : (Int32 × Mu)) => (y.1, mput a h y.2)) := by
  unfold fX12_attempt_98 gX12_attempt_98
  simp only [lift_lt, lift_gO, k_bs, k_mb, k_ms, k_bm, k_mm, k_il, k_ir, lift_ite, k_id]
noncomputable def gX12_attempt_92 (m : Mu) (x2 : Int32) (x4 : Int32) (x5 : Int32) (x6 : Int32) (x7 : Int32) : Option ((Int32 × Int32 × Int32 × Mu) ⊕ (Int32 × Mu)) :=
  some (.inl (x5, x6, (x7 + Int32.ofInt 1), m))
theorem lX12_attempt_92 (a : Nat) (h : Hp) (m : Mu) (x2 : Int32) (x4 : Int32) (x5 : Int32) (x6 : Int32) (x7 : Int32) : fX12_attempt_92 (mput a h m) a x2 x4 x5 x6 x7 = (gX12_attempt_92 m x2 x4 x5 x6 x7).map (Sum.map (fun (s : (Int32 × Int32 × Int32 × Mu)) => (s.1, s.2.1, s.2.2.1, mput a h s.2.2.2)) (fun (y : (Int32 × Mu)) => (y.1, mput a h y.2))) := by
  unfold fX12_attempt_92 gX12_attempt_92
  simp only [lift_lt, lift_gO, k_bs, k_mb, k_ms, k_bm, k_mm, k_il, k_ir, lift_ite, k_id]
noncomputable def gX12_attempt_52b (m : Mu) (x2 : Int32) (x4 : Int32) (x5 : Int32) (x6 : Int32) (x7 : Int32) : Option ((Int32 × Int32 × Int32 × Mu) ⊕ (Int32 × Mu)) :=
  if (4 : Int32) < x7 then (
  (gX12_attempt_98 m x5).map (fun q => .inr q)) else (
    if x4 = 0 then (
    (gX12_attempt_98 m x5).map (fun q => .inr q)) else (
      (gX12_mostOften m x2 x7 x4).bind fun y5 =>
      if y5.1 < x6 then (
        gX12_attempt_92 y5.2 x2 x4 x7 y5.1 x7) else (
        gX12_attempt_92 y5.2 x2 x4 x5 x6 x7)))
noncomputable def gX12_attempt_52 (m : Mu) (x2 : Int32) (x4 : Int32) (x5 : Int32) (x6 : Int32) (x7 : Int32) : Option (Int32 × Mu) := lpw (σ := (Int32 × Int32 × Int32 × Mu)) (fun s => gX12_attempt_52b s.2.2.2 x2 x4 s.1 s.2.1 s.2.2.1) (x5, x6, x7, m)
theorem lX12_attempt_52b (a : Nat) (h : Hp) (m : Mu) (x2 : Int32) (x4 : Int32) (x5 : Int32) (x6 : Int32) (x7 : Int32) : fX12_attempt_52b (mput a h m) a x2 x4 x5 x6 x7 = (gX12_attempt_52b m x2 x4 x5 x6 x7).map (Sum.map (fun (s : (Int32 × Int32 × Int32 × Mu)) => (s.1, s.2.1, s.2.2.1, mput a h s.2.2.2)) (fun (y : (Int32 × Mu)) => (y.1, mput a h y.2))) := by
  unfold fX12_attempt_52b gX12_attempt_52b
  simp only [lX12_attempt_98, lX12_mostOften, lX12_attempt_92, lift_lt, lift_gO, k_bs, k_mb, k_ms, k_bm, k_mm, k_il, k_ir, lift_ite, k_id]
theorem lX12_attempt_52 (a : Nat) (h : Hp) (m : Mu) (x2 : Int32) (x4 : Int32) (x5 : Int32) (x6 : Int32) (x7 : Int32) : fX12_attempt_52 (mput a h m) a x2 x4 x5 x6 x7 = (gX12_attempt_52 m x2 x4 x5 x6 x7).map (fun (y : (Int32 × Mu)) => (y.1, mput a h y.2)) := by
  unfold fX12_attempt_52 gX12_attempt_52
  exact lpw_map _ _ (fun (s : (Int32 × Int32 × Int32 × Mu)) => (s.1, s.2.1, s.2.2.1, mput a h s.2.2.2)) (fun (y : (Int32 × Mu)) => (y.1, mput a h y.2)) (fun s => lX12_attempt_52b a h s.2.2.2 x2 x4 s.1 s.2.1 s.2.2.1) (x5, x6, x7, m)
noncomputable def gX12_attempt (m : Mu) (x1 : Int32) (x2 : Int32) : Option (Int32 × Mu) :=
  lt (mI m 0 (0 : Int32)) fun m1 =>
  (gX12_noSeen m1 x1 x2).bind fun y2 =>
  if y2 = 0 then (
    (mA m1 1 ((15 : Int32) + x2)).bind fun v3 =>
    if v3 = 0 then (
      some (((-5 : Int32), m1))) else (
      (gX12_chalksOf m1 x1 x2).bind fun y4 =>
      gX12_attempt_52 y4.2 x2 y4.1 (-1 : Int32) (268435456 : Int32) (0 : Int32))) else (
    some ((y2, m1)))
theorem lX12_attempt (a : Nat) (h : Hp) (m : Mu) (x1 : Int32) (x2 : Int32) : fX12_attempt (mput a h m) a x1 x2 = (gX12_attempt m x1 x2).map (fun (y : (Int32 × Mu)) => (y.1, mput a h y.2)) := by
  unfold fX12_attempt gX12_attempt
  simp only [lift_sV_0, lX12_noSeen, lift_gN_1, lift_aI_1, lX12_chalksOf, lX12_attempt_52, lift_lt, lift_gO, k_bs, k_mb, k_ms, k_bm, k_mm, k_il, k_ir, lift_ite, k_id]
noncomputable def gX12_forcedBy_67 (m : Mu) (s0 : Int32) : Option Int32 :=
  some (s0)
theorem lX12_forcedBy_67 (a : Nat) (h : Hp) (m : Mu) (s0 : Int32) : fX12_forcedBy_67 (mput a h m) s0 = gX12_forcedBy_67 m s0 := by
  unfold fX12_forcedBy_67 gX12_forcedBy_67
  simp only [lift_lt, lift_gO, k_bs, k_mb, k_ms, k_bm, k_mm, k_il, k_ir, lift_ite, k_id]
noncomputable def gX12_forcedBy_47 (m : Mu) (s0 : Int32) : Option Int32 :=
  if s0 = (268435456 : Int32) then (
    gX12_forcedBy_67 m (268435456 : Int32)) else (
    gX12_forcedBy_67 m (s0 + (1 : Int32)))
theorem lX12_forcedBy_47 (a : Nat) (h : Hp) (m : Mu) (s0 : Int32) : fX12_forcedBy_47 (mput a h m) s0 = gX12_forcedBy_47 m s0 := by
  unfold fX12_forcedBy_47 gX12_forcedBy_47
  simp only [lX12_forcedBy_67, lift_lt, lift_gO, k_bs, k_mb, k_ms, k_bm, k_mm, k_il, k_ir, lift_ite, k_id]
noncomputable def gX12_forcedBy (m : Mu) (x1 : Int32) (x2 : Int32) : Option Int32 :=
  (mA m 14 (((35 : Int32) * x1) + x2)).bind fun v1 =>
  (mA m 15 v1).bind fun v2 =>
  (mA m 20 (((35 : Int32) * x1) + x2)).bind fun v3 =>
  (mA m 15 v3).bind fun v4 =>
  if v2 ≤ v4 then (
    gX12_forcedBy_47 m v4) else (
    gX12_forcedBy_47 m v2)
theorem lX12_forcedBy (a : Nat) (h : Hp) (m : Mu) (x1 : Int32) (x2 : Int32) : fX12_forcedBy (mput a h m) a x1 x2 = gX12_forcedBy m x1 x2 := by
  unfold fX12_forcedBy gX12_forcedBy
  simp only [lift_gN_31, lift_gN_30, lift_aI_14, lift_aI_15, lift_gN_37, lift_aI_20, lX12_forcedBy_47, lift_lt, lift_gO, k_bs, k_mb, k_ms, k_bm, k_mm, k_il, k_ir, lift_ite, k_id]
noncomputable def gX12_laysForced_194 (m : Mu)  : Option (Int32 × Mu) :=
  (gX12_standNow m ).bind fun y2 =>
  (mA m 15 y2).bind fun v3 =>
  some ((v3, m))
theorem lX12_laysForced_194 (a : Nat) (h : Hp) (m : Mu)  : fX12_laysForced_194 (mput a h m) a = (gX12_laysForced_194 m ).map (fun (y : (Int32 × Mu)) => (y.1, mput a h y.2)) := by
  unfold fX12_laysForced_194 gX12_laysForced_194
  simp only [lift_gN_31, lX12_standNow, lift_aI_15, lift_lt, lift_gO, k_bs, k_mb, k_ms, k_bm, k_mm, k_il, k_ir, lift_ite, k_id]
noncomputable def gX12_laysForced_185 (m : Mu) (x2 : Int32) (x3 : Int32) : Option ((Int32 × Int32 × Mu) ⊕ ((Int32 × Mu) ⊕ (Int32 × Mu))) :=
  some (.inl (x2, (x3 + Int32.ofInt (-1)), m))
theorem lX12_laysForced_185 (a : Nat) (h : Hp) (m : Mu) (x2 : Int32) (x3 : Int32) : fX12_laysForced_185 (mput a h m) a x2 x3 = (gX12_laysForced_185 m x2 x3).map (Sum.map (fun (s : (Int32 × Int32 × Mu)) => (s.1, s.2.1, mput a h s.2.2)) (Sum.map (fun (s : (Int32 × Mu)) => (s.1, mput a h s.2)) (fun (y : (Int32 × Mu)) => (y.1, mput a h y.2)))) := by
  unfold fX12_laysForced_185 gX12_laysForced_185
  simp only [lift_lt, lift_gO, k_bs, k_mb, k_ms, k_bm, k_mm, k_il, k_ir, lift_ite, k_id]
noncomputable def gX12_laysForced_179 (m : Mu) (x2 : Int32) (x3 : Int32) (x4 : Int32) (x5 : Int32) : Option ((Int32 × Int32 × Mu) ⊕ ((Int32 × Int32 × Mu) ⊕ ((Int32 × Mu) ⊕ (Int32 × Mu)))) :=
  some (.inl (x2, (x5 + Int32.ofInt 1), m))
theorem lX12_laysForced_179 (a : Nat) (h : Hp) (m : Mu) (x2 : Int32) (x3 : Int32) (x4 : Int32) (x5 : Int32) : fX12_laysForced_179 (mput a h m) a x2 x3 x4 x5 = (gX12_laysForced_179 m x2 x3 x4 x5).map (Sum.map (fun (s : (Int32 × Int32 × Mu)) => (s.1, s.2.1, mput a h s.2.2)) (Sum.map (fun (s : (Int32 × Int32 × Mu)) => (s.1, s.2.1, mput a h s.2.2)) (Sum.map (fun (s : (Int32 × Mu)) => (s.1, mput a h s.2)) (fun (y : (Int32 × Mu)) => (y.1, mput a h y.2))))) := by
  unfold fX12_laysForced_179 gX12_laysForced_179
  simp only [lift_lt, lift_gO, k_bs, k_mb, k_ms, k_bm, k_mm, k_il, k_ir, lift_ite, k_id]
noncomputable def gX12_laysForced_122b (m : Mu) (x3 : Int32) (x4 : Int32) (x2 : Int32) (x5 : Int32) : Option ((Int32 × Int32 × Mu) ⊕ ((Int32 × Int32 × Mu) ⊕ ((Int32 × Mu) ⊕ (Int32 × Mu)))) :=
  if (m.1 21) ≤ x5 then (
  (gX12_laysForced_185 m x2 x3).map (fun q => .inr q)) else (
    (mA m 15 x4).bind fun v5 =>
    if v5 ≤ 0 then (
    (gX12_laysForced_185 m x2 x3).map (fun q => .inr q)) else (
      (gX12_forcedBy m x4 x5).bind fun y6 =>
      (mA m 15 x4).bind fun v7 =>
      if y6 < v7 then (
        (gX12_forcedBy m x4 x5).bind fun y8 =>
        (mW m 15 x4 y8).bind fun m9 =>
        gX12_laysForced_179 m9 (1 : Int32) x3 x4 x5) else (
        gX12_laysForced_179 m x2 x3 x4 x5)))
noncomputable def gX12_laysForced_122 (m : Mu) (x2 : Int32) (x3 : Int32) (x4 : Int32) (x5 : Int32) : Option ((Int32 × Int32 × Mu) ⊕ ((Int32 × Mu) ⊕ (Int32 × Mu))) := lpw (σ := (Int32 × Int32 × Mu)) (fun s => gX12_laysForced_122b s.2.2 x3 x4 s.1 s.2.1) (x2, x5, m)
theorem lX12_laysForced_122b (a : Nat) (h : Hp) (m : Mu) (x2 : Int32) (x3 : Int32) (x4 : Int32) (x5 : Int32) : fX12_laysForced_122b (mput a h m) a x3 x4 x2 x5 = (gX12_laysForced_122b m x3 x4 x2 x5).map (Sum.map (fun (s : (Int32 × Int32 × Mu)) => (s.1, s.2.1, mput a h s.2.2)) (Sum.map (fun (s : (Int32 × Int32 × Mu)) => (s.1, s.2.1, mput a h s.2.2)) (Sum.map (fun (s : (Int32 × Mu)) => (s.1, mput a h s.2)) (fun (y : (Int32 × Mu)) => (y.1, mput a h y.2))))) := by
  unfold fX12_laysForced_122b gX12_laysForced_122b
  simp only [lift_gI_21, lX12_laysForced_185, lift_gN_31, lift_aI_15, lX12_forcedBy, lift_wI_15, lX12_laysForced_179, lift_lt, lift_gO, k_bs, k_mb, k_ms, k_bm, k_mm, k_il, k_ir, lift_ite, k_id]
theorem lX12_laysForced_122 (a : Nat) (h : Hp) (m : Mu) (x2 : Int32) (x3 : Int32) (x4 : Int32) (x5 : Int32) : fX12_laysForced_122 (mput a h m) a x2 x3 x4 x5 = (gX12_laysForced_122 m x2 x3 x4 x5).map (Sum.map (fun (s : (Int32 × Int32 × Mu)) => (s.1, s.2.1, mput a h s.2.2)) (Sum.map (fun (s : (Int32 × Mu)) => (s.1, mput a h s.2)) (fun (y : (Int32 × Mu)) => (y.1, mput a h y.2)))) := by
  unfold fX12_laysForced_122 gX12_laysForced_122
  exact lpw_map _ _ (fun (s : (Int32 × Int32 × Mu)) => (s.1, s.2.1, mput a h s.2.2)) (Sum.map (fun (s : (Int32 × Int32 × Mu)) => (s.1, s.2.1, mput a h s.2.2)) (Sum.map (fun (s : (Int32 × Mu)) => (s.1, mput a h s.2)) (fun (y : (Int32 × Mu)) => (y.1, mput a h y.2)))) (fun s => lX12_laysForced_122b a h s.2.2 s.1 x3 x4 s.2.1) (x2, x5, m)
noncomputable def gX12_laysForced_107b (m : Mu) (x2 : Int32) (x3 : Int32) : Option ((Int32 × Int32 × Mu) ⊕ ((Int32 × Mu) ⊕ (Int32 × Mu))) :=
  if x3 < 0 then (
    some (.inr (.inl (x2, m)))) else (
    (mA m 13 x3).bind fun v4 =>
    gX12_laysForced_122 m x2 x3 v4 (0 : Int32))
noncomputable def gX12_laysForced_107 (m : Mu) (x2 : Int32) (x3 : Int32) : Option ((Int32 × Mu) ⊕ (Int32 × Mu)) := lpw (σ := (Int32 × Int32 × Mu)) (fun s => gX12_laysForced_107b s.2.2  s.1 s.2.1) (x2, x3, m)
theorem lX12_laysForced_107b (a : Nat) (h : Hp) (m : Mu) (x2 : Int32) (x3 : Int32) : fX12_laysForced_107b (mput a h m) a x2 x3 = (gX12_laysForced_107b m x2 x3).map (Sum.map (fun (s : (Int32 × Int32 × Mu)) => (s.1, s.2.1, mput a h s.2.2)) (Sum.map (fun (s : (Int32 × Mu)) => (s.1, mput a h s.2)) (fun (y : (Int32 × Mu)) => (y.1, mput a h y.2)))) := by
  unfold fX12_laysForced_107b gX12_laysForced_107b
  simp only [lift_gN_29, lift_aI_13, lX12_laysForced_122, lift_lt, lift_gO, k_bs, k_mb, k_ms, k_bm, k_mm, k_il, k_ir, lift_ite, k_id]
theorem lX12_laysForced_107 (a : Nat) (h : Hp) (m : Mu) (x2 : Int32) (x3 : Int32) : fX12_laysForced_107 (mput a h m) a x2 x3 = (gX12_laysForced_107 m x2 x3).map (Sum.map (fun (s : (Int32 × Mu)) => (s.1, mput a h s.2)) (fun (y : (Int32 × Mu)) => (y.1, mput a h y.2))) := by
  unfold fX12_laysForced_107 gX12_laysForced_107
  exact lpw_map _ _ (fun (s : (Int32 × Int32 × Mu)) => (s.1, s.2.1, mput a h s.2.2)) (Sum.map (fun (s : (Int32 × Mu)) => (s.1, mput a h s.2)) (fun (y : (Int32 × Mu)) => (y.1, mput a h y.2))) (fun s => lX12_laysForced_107b a h s.2.2 s.1 s.2.1) (x2, x3, m)
noncomputable def gX12_laysForced_94b (m : Mu) (x2 : Int32) : Option ((Int32 × Mu) ⊕ (Int32 × Mu)) :=
  if x2 = 0 then (
  (gX12_laysForced_194 m ).map (fun q => .inr q)) else (
    gX12_laysForced_107 m (0 : Int32) ((m.1 33) - (1 : Int32)))
noncomputable def gX12_laysForced_94 (m : Mu) (x2 : Int32) : Option (Int32 × Mu) := lpw (σ := (Int32 × Mu)) (fun s => gX12_laysForced_94b s.2  s.1) (x2, m)
theorem lX12_laysForced_94b (a : Nat) (h : Hp) (m : Mu) (x2 : Int32) : fX12_laysForced_94b (mput a h m) a x2 = (gX12_laysForced_94b m x2).map (Sum.map (fun (s : (Int32 × Mu)) => (s.1, mput a h s.2)) (fun (y : (Int32 × Mu)) => (y.1, mput a h y.2))) := by
  unfold fX12_laysForced_94b gX12_laysForced_94b
  simp only [lX12_laysForced_194, lift_gI_33, lX12_laysForced_107, lift_lt, lift_gO, k_bs, k_mb, k_ms, k_bm, k_mm, k_il, k_ir, lift_ite, k_id]
theorem lX12_laysForced_94 (a : Nat) (h : Hp) (m : Mu) (x2 : Int32) : fX12_laysForced_94 (mput a h m) a x2 = (gX12_laysForced_94 m x2).map (fun (y : (Int32 × Mu)) => (y.1, mput a h y.2)) := by
  unfold fX12_laysForced_94 gX12_laysForced_94
  exact lpw_map _ _ (fun (s : (Int32 × Mu)) => (s.1, mput a h s.2)) (fun (y : (Int32 × Mu)) => (y.1, mput a h y.2)) (fun s => lX12_laysForced_94b a h s.2 s.1) (x2, m)
noncomputable def gX12_laysForced_92 (m : Mu)  : Option (Int32 × Mu) :=
  gX12_laysForced_94 m (1 : Int32)
theorem lX12_laysForced_92 (a : Nat) (h : Hp) (m : Mu)  : fX12_laysForced_92 (mput a h m) a = (gX12_laysForced_92 m ).map (fun (y : (Int32 × Mu)) => (y.1, mput a h y.2)) := by
  unfold fX12_laysForced_92 gX12_laysForced_92
  simp only [lX12_laysForced_94, lift_lt, lift_gO, k_bs, k_mb, k_ms, k_bm, k_mm, k_il, k_ir, lift_ite, k_id]
noncomputable def gX12_laysForced_85 (m : Mu) (x1 : Int32) (x2 : Int32) (s1 : Int32) (s2 : Int32) : Option ((Int32 × Mu) ⊕ (Int32 × Mu)) :=
  (mW m 15 s1 s2).bind fun m12 =>
  some (.inl ((x2 + Int32.ofInt 1), m12))
theorem lX12_laysForced_85 (a : Nat) (h : Hp) (m : Mu) (x1 : Int32) (x2 : Int32) (s1 : Int32) (s2 : Int32) : fX12_laysForced_85 (mput a h m) a x1 x2 (a + 15) s1 s2 = (gX12_laysForced_85 m x1 x2 s1 s2).map (Sum.map (fun (s : (Int32 × Mu)) => (s.1, mput a h s.2)) (fun (y : (Int32 × Mu)) => (y.1, mput a h y.2))) := by
  unfold fX12_laysForced_85 gX12_laysForced_85
  simp only [lift_wI_15, lift_lt, lift_gO, k_bs, k_mb, k_ms, k_bm, k_mm, k_il, k_ir, lift_ite, k_id]
noncomputable def gX12_laysForced_65 (m : Mu) (x1 : Int32) (x2 : Int32) (x3 : Int32) : Option ((Int32 × Mu) ⊕ (Int32 × Mu)) :=
  (gX12_gapIn x3 x1).bind fun y11 =>
  if y11 = 0 then (
    gX12_laysForced_85 m x1 x2 x3 (0 : Int32)) else (
    gX12_laysForced_85 m x1 x2 x3 (268435456 : Int32))
theorem lX12_laysForced_65 (a : Nat) (h : Hp) (m : Mu) (x1 : Int32) (x2 : Int32) (x3 : Int32) : fX12_laysForced_65 (mput a h m) a x1 x2 x3 = (gX12_laysForced_65 m x1 x2 x3).map (Sum.map (fun (s : (Int32 × Mu)) => (s.1, mput a h s.2)) (fun (y : (Int32 × Mu)) => (y.1, mput a h y.2))) := by
  unfold fX12_laysForced_65 gX12_laysForced_65
  simp only [lift_gN_31, lX12_gapIn, lX12_laysForced_85, lift_lt, lift_gO, k_bs, k_mb, k_ms, k_bm, k_mm, k_il, k_ir, lift_ite, k_id]
noncomputable def gX12_laysForced_25b (m : Mu) (x1 : Int32) (x2 : Int32) (x3 : Int32) (x4 : Int32) : Option ((Int32 × Mu) ⊕ ((Int32 × Mu) ⊕ (Int32 × Mu))) :=
  if (m.1 21) ≤ x4 then (
  (gX12_laysForced_65 m x1 x2 x3).map (fun q => .inr q)) else (
    (mA m 9 x4).bind fun v13 =>
    (gX12_yearBy m x3 v13 (1 : Int32)).bind fun y14 =>
    (mW m 20 (((35 : Int32) * x3) + x4) y14).bind fun m15 =>
    some (.inl ((x4 + Int32.ofInt 1), m15)))
noncomputable def gX12_laysForced_25 (m : Mu) (x1 : Int32) (x2 : Int32) (x3 : Int32) (x4 : Int32) : Option ((Int32 × Mu) ⊕ (Int32 × Mu)) := lpw (σ := (Int32 × Mu)) (fun s => gX12_laysForced_25b s.2 x1 x2 x3 s.1) (x4, m)
theorem lX12_laysForced_25b (a : Nat) (h : Hp) (m : Mu) (x1 : Int32) (x2 : Int32) (x3 : Int32) (x4 : Int32) : fX12_laysForced_25b (mput a h m) a x1 x2 x3 x4 = (gX12_laysForced_25b m x1 x2 x3 x4).map (Sum.map (fun (s : (Int32 × Mu)) => (s.1, mput a h s.2)) (Sum.map (fun (s : (Int32 × Mu)) => (s.1, mput a h s.2)) (fun (y : (Int32 × Mu)) => (y.1, mput a h y.2)))) := by
  unfold fX12_laysForced_25b gX12_laysForced_25b
  simp only [lift_gI_21, lX12_laysForced_65, lift_gN_37, lift_gN_20, lift_aI_9, lX12_yearBy, lift_wI_20, lift_lt, lift_gO, k_bs, k_mb, k_ms, k_bm, k_mm, k_il, k_ir, lift_ite, k_id]
theorem lX12_laysForced_25 (a : Nat) (h : Hp) (m : Mu) (x1 : Int32) (x2 : Int32) (x3 : Int32) (x4 : Int32) : fX12_laysForced_25 (mput a h m) a x1 x2 x3 x4 = (gX12_laysForced_25 m x1 x2 x3 x4).map (Sum.map (fun (s : (Int32 × Mu)) => (s.1, mput a h s.2)) (fun (y : (Int32 × Mu)) => (y.1, mput a h y.2))) := by
  unfold fX12_laysForced_25 gX12_laysForced_25
  exact lpw_map _ _ (fun (s : (Int32 × Mu)) => (s.1, mput a h s.2)) (Sum.map (fun (s : (Int32 × Mu)) => (s.1, mput a h s.2)) (fun (y : (Int32 × Mu)) => (y.1, mput a h y.2))) (fun s => lX12_laysForced_25b a h s.2 x1 x2 x3 s.1) (x4, m)
noncomputable def gX12_laysForced_7b (m : Mu) (x1 : Int32) (x2 : Int32) : Option ((Int32 × Mu) ⊕ (Int32 × Mu)) :=
  if (m.1 33) ≤ x2 then (
  (gX12_laysForced_92 m ).map (fun q => .inr q)) else (
    (mA m 13 x2).bind fun v10 =>
    gX12_laysForced_25 m x1 x2 v10 (0 : Int32))
noncomputable def gX12_laysForced_7 (m : Mu) (x1 : Int32) (x2 : Int32) : Option (Int32 × Mu) := lpw (σ := (Int32 × Mu)) (fun s => gX12_laysForced_7b s.2 x1 s.1) (x2, m)
theorem lX12_laysForced_7b (a : Nat) (h : Hp) (m : Mu) (x1 : Int32) (x2 : Int32) : fX12_laysForced_7b (mput a h m) a x1 x2 = (gX12_laysForced_7b m x1 x2).map (Sum.map (fun (s : (Int32 × Mu)) => (s.1, mput a h s.2)) (fun (y : (Int32 × Mu)) => (y.1, mput a h y.2))) := by
  unfold fX12_laysForced_7b gX12_laysForced_7b
  simp only [lift_gI_33, lX12_laysForced_92, lift_gN_29, lift_aI_13, lX12_laysForced_25, lift_lt, lift_gO, k_bs, k_mb, k_ms, k_bm, k_mm, k_il, k_ir, lift_ite, k_id]
theorem lX12_laysForced_7 (a : Nat) (h : Hp) (m : Mu) (x1 : Int32) (x2 : Int32) : fX12_laysForced_7 (mput a h m) a x1 x2 = (gX12_laysForced_7 m x1 x2).map (fun (y : (Int32 × Mu)) => (y.1, mput a h y.2)) := by
  unfold fX12_laysForced_7 gX12_laysForced_7
  exact lpw_map _ _ (fun (s : (Int32 × Mu)) => (s.1, mput a h s.2)) (fun (y : (Int32 × Mu)) => (y.1, mput a h y.2)) (fun s => lX12_laysForced_7b a h s.2 x1 s.1) (x2, m)
noncomputable def gX12_laysForced (m : Mu) (x1 : Int32) : Option (Int32 × Mu) :=
  (gX12_laysStands m (1 : Int32)).bind fun y1 =>
  gX12_laysForced_7 y1 x1 (0 : Int32)
theorem lX12_laysForced (a : Nat) (h : Hp) (m : Mu) (x1 : Int32) : fX12_laysForced (mput a h m) a x1 = (gX12_laysForced m x1).map (fun (y : (Int32 × Mu)) => (y.1, mput a h y.2)) := by
  unfold fX12_laysForced gX12_laysForced
  simp only [lX12_laysStands, lX12_laysForced_7, lift_lt, lift_gO, k_bs, k_mb, k_ms, k_bm, k_mm, k_il, k_ir, lift_ite, k_id]
noncomputable def gX12_forces_27 (m : Mu) (s0 : Int32) : Option (Int32 × Mu) :=
  some ((s0, m))
theorem lX12_forces_27 (a : Nat) (h : Hp) (m : Mu) (s0 : Int32) : fX12_forces_27 (mput a h m) s0 = (gX12_forces_27 m s0).map (fun (y : (Int32 × Mu)) => (y.1, mput a h y.2)) := by
  unfold fX12_forces_27 gX12_forces_27
  simp only [lift_lt, lift_gO, k_bs, k_mb, k_ms, k_bm, k_mm, k_il, k_ir, lift_ite, k_id]
noncomputable def gX12_forces (m : Mu) (x1 : Int32) : Option (Int32 × Mu) :=
  lt (mI m 0 (0 : Int32)) fun m1 =>
  (gX12_isPair m1 (x1.toInt64)).bind fun y2 =>
  if y2 = 0 then (
    gX12_forces_27 m1 (-2 : Int32)) else (
    (gX12_laysForced m1 x1).bind fun y3 =>
    (gX12_toldFar y3.1).bind fun y4 =>
    gX12_forces_27 y3.2 y4)
theorem lX12_forces (a : Nat) (h : Hp) (m : Mu) (x1 : Int32) : fX12_forces (mput a h m) a x1 = (gX12_forces m x1).map (fun (y : (Int32 × Mu)) => (y.1, mput a h y.2)) := by
  unfold fX12_forces gX12_forces
  simp only [lift_sV_0, lX12_isPair, lX12_forces_27, lX12_laysForced, lX12_toldFar, lift_lt, lift_gO, k_bs, k_mb, k_ms, k_bm, k_mm, k_il, k_ir, lift_ite, k_id]
noncomputable def gX12_best_70 (m : Mu)  : Option (Int32 × Mu) :=
  some (((-1 : Int32), m))
theorem lX12_best_70 (a : Nat) (h : Hp) (m : Mu)  : fX12_best_70 (mput a h m)  = (gX12_best_70 m ).map (fun (y : (Int32 × Mu)) => (y.1, mput a h y.2)) := by
  unfold fX12_best_70 gX12_best_70
  simp only [lift_lt, lift_gO, k_bs, k_mb, k_ms, k_bm, k_mm, k_il, k_ir, lift_ite, k_id]
noncomputable def gX12_best_25b (m : Mu) (x2 : Int32) (x3 : Int32) : Option (Int32 ⊕ (Int32 × Mu)) :=
  if (m.1 21) ≤ x3 then (
  (gX12_best_70 m ).map (fun q => .inr q)) else (
    if x2 ≤ 0 then (
    (gX12_best_70 m ).map (fun q => .inr q)) else (
      if (268435456 : Int32) ≤ x2 then (
      (gX12_best_70 m ).map (fun q => .inr q)) else (
        (gX12_standNow m ).bind fun y4 =>
        (gX12_forcedBy m y4 x3).bind fun y5 =>
        if y5 = x2 then (
          (mA m 9 x3).bind fun v6 =>
          some (.inr (v6, m))) else (
          some (.inl (x3 + Int32.ofInt 1))))))
noncomputable def gX12_best_25 (m : Mu) (x2 : Int32) (x3 : Int32) : Option (Int32 × Mu) := lpw (σ := Int32) (fun s => gX12_best_25b m x2 s) x3
theorem lX12_best_25b (a : Nat) (h : Hp) (m : Mu) (x2 : Int32) (x3 : Int32) : fX12_best_25b (mput a h m) a x2 x3 = (gX12_best_25b m x2 x3).map (Sum.map id (fun (y : (Int32 × Mu)) => (y.1, mput a h y.2))) := by
  unfold fX12_best_25b gX12_best_25b
  simp only [lift_gI_21, lX12_best_70, lX12_standNow, lX12_forcedBy, lift_gN_20, lift_aI_9, lift_lt, lift_gO, k_bs, k_mb, k_ms, k_bm, k_mm, k_il, k_ir, lift_ite, k_id]
theorem lX12_best_25 (a : Nat) (h : Hp) (m : Mu) (x2 : Int32) (x3 : Int32) : fX12_best_25 (mput a h m) a x2 x3 = (gX12_best_25 m x2 x3).map (fun (y : (Int32 × Mu)) => (y.1, mput a h y.2)) := by
  unfold fX12_best_25 gX12_best_25
  exact lpw_map _ _ id (fun (y : (Int32 × Mu)) => (y.1, mput a h y.2)) (fun s => lX12_best_25b a h m x2 s) x3
noncomputable def gX12_best (m : Mu) (x1 : Int32) : Option (Int32 × Mu) :=
  lt (mI m 0 (0 : Int32)) fun m1 =>
  (gX12_isPair m1 (x1.toInt64)).bind fun y2 =>
  if y2 = 0 then (
    some (((-2 : Int32), m1))) else (
    (gX12_laysForced m1 x1).bind fun y3 =>
    gX12_best_25 y3.2 y3.1 (0 : Int32))
theorem lX12_best (a : Nat) (h : Hp) (m : Mu) (x1 : Int32) : fX12_best (mput a h m) a x1 = (gX12_best m x1).map (fun (y : (Int32 × Mu)) => (y.1, mput a h y.2)) := by
  unfold fX12_best gX12_best
  simp only [lift_sV_0, lX12_isPair, lX12_laysForced, lX12_best_25, lift_lt, lift_gO, k_bs, k_mb, k_ms, k_bm, k_mm, k_il, k_ir, lift_ite, k_id]
noncomputable def gX12_laysLikely_126 (m : Mu) (x1 : Int32) (x2 : Int32) (x3 : Int32) : Option ((Int32 × Int32 × Mu) ⊕ (Int32 × Mu)) :=
  (gX12_isThen m ).bind fun y3 =>
  some (.inl ((x2 * (10 : Int32)), (x3 + Int32.ofInt 1), y3))
theorem lX12_laysLikely_126 (a : Nat) (h : Hp) (m : Mu) (x1 : Int32) (x2 : Int32) (x3 : Int32) : fX12_laysLikely_126 (mput a h m) a x1 x2 x3 = (gX12_laysLikely_126 m x1 x2 x3).map (Sum.map (fun (s : (Int32 × Int32 × Mu)) => (s.1, s.2.1, mput a h s.2.2)) (fun (y : (Int32 × Mu)) => (y.1, mput a h y.2))) := by
  unfold fX12_laysLikely_126 gX12_laysLikely_126
  simp only [lX12_isThen, lift_lt, lift_gO, k_bs, k_mb, k_ms, k_bm, k_mm, k_il, k_ir, lift_ite, k_id]
noncomputable def gX12_laysLikely_120 (m : Mu) (x1 : Int32) (x2 : Int32) (x3 : Int32) (x4 : Int32) : Option ((Int32 × Mu) ⊕ ((Int32 × Int32 × Mu) ⊕ (Int32 × Mu))) :=
  some (.inl ((x4 + Int32.ofInt 1), m))
theorem lX12_laysLikely_120 (a : Nat) (h : Hp) (m : Mu) (x1 : Int32) (x2 : Int32) (x3 : Int32) (x4 : Int32) : fX12_laysLikely_120 (mput a h m) a x1 x2 x3 x4 = (gX12_laysLikely_120 m x1 x2 x3 x4).map (Sum.map (fun (s : (Int32 × Mu)) => (s.1, mput a h s.2)) (Sum.map (fun (s : (Int32 × Int32 × Mu)) => (s.1, s.2.1, mput a h s.2.2)) (fun (y : (Int32 × Mu)) => (y.1, mput a h y.2)))) := by
  unfold fX12_laysLikely_120 gX12_laysLikely_120
  simp only [lift_lt, lift_gO, k_bs, k_mb, k_ms, k_bm, k_mm, k_il, k_ir, lift_ite, k_id]
noncomputable def gX12_laysLikely_20b (m : Mu) (x1 : Int32) (x2 : Int32) (x3 : Int32) (x4 : Int32) : Option ((Int32 × Mu) ⊕ ((Int32 × Int32 × Mu) ⊕ (Int32 × Mu))) :=
  if (20000 : Int32) ≤ x4 then (
  (gX12_laysLikely_126 m x1 x2 x3).map (fun q => .inr q)) else (
    (mJ m 17 x4).bind fun v4 =>
    if (lg_cmp v4 (0 : Int64)) = 0 then (
      gX12_laysLikely_120 m x1 x2 x3 x4) else (
      (mA m 1 (23 : Int32)).bind fun v5 =>
      (gX12_yearBy m x4 v5 (0 : Int32)).bind fun y6 =>
      (mJ m 18 y6).bind fun v7 =>
      (mJ m 17 x4).bind fun v8 =>
      (mA m 1 (4 : Int32)).bind fun v9 =>
      (mWJ m 18 y6 (v7 + (v8 * (((10 : Int32) - v9).toInt64)))).bind fun m10 =>
      (mA m10 1 (23 : Int32)).bind fun v11 =>
      (gX12_yearBy m10 x4 v11 (1 : Int32)).bind fun y12 =>
      (mJ m10 18 y12).bind fun v13 =>
      (mJ m10 17 x4).bind fun v14 =>
      (mA m10 1 (4 : Int32)).bind fun v15 =>
      (mWJ m10 18 y12 (v13 + (v14 * (v15.toInt64)))).bind fun m16 =>
      gX12_laysLikely_120 m16 x1 x2 x3 x4))
noncomputable def gX12_laysLikely_20 (m : Mu) (x1 : Int32) (x2 : Int32) (x3 : Int32) (x4 : Int32) : Option ((Int32 × Int32 × Mu) ⊕ (Int32 × Mu)) := lpw (σ := (Int32 × Mu)) (fun s => gX12_laysLikely_20b s.2 x1 x2 x3 s.1) (x4, m)
theorem lX12_laysLikely_20b (a : Nat) (h : Hp) (m : Mu) (x1 : Int32) (x2 : Int32) (x3 : Int32) (x4 : Int32) : fX12_laysLikely_20b (mput a h m) a x1 x2 x3 x4 = (gX12_laysLikely_20b m x1 x2 x3 x4).map (Sum.map (fun (s : (Int32 × Mu)) => (s.1, mput a h s.2)) (Sum.map (fun (s : (Int32 × Int32 × Mu)) => (s.1, s.2.1, mput a h s.2.2)) (fun (y : (Int32 × Mu)) => (y.1, mput a h y.2)))) := by
  unfold fX12_laysLikely_20b gX12_laysLikely_20b
  simp only [lX12_laysLikely_126, lift_gN_34, lift_aJ_17, lift_gN_35, lift_gN_1, lift_aI_1, lX12_yearBy, lift_aJ_18, lift_wJ_18, lX12_laysLikely_120, lift_lt, lift_gO, k_bs, k_mb, k_ms, k_bm, k_mm, k_il, k_ir, lift_ite, k_id]
theorem lX12_laysLikely_20 (a : Nat) (h : Hp) (m : Mu) (x1 : Int32) (x2 : Int32) (x3 : Int32) (x4 : Int32) : fX12_laysLikely_20 (mput a h m) a x1 x2 x3 x4 = (gX12_laysLikely_20 m x1 x2 x3 x4).map (Sum.map (fun (s : (Int32 × Int32 × Mu)) => (s.1, s.2.1, mput a h s.2.2)) (fun (y : (Int32 × Mu)) => (y.1, mput a h y.2))) := by
  unfold fX12_laysLikely_20 gX12_laysLikely_20
  exact lpw_map _ _ (fun (s : (Int32 × Mu)) => (s.1, mput a h s.2)) (Sum.map (fun (s : (Int32 × Int32 × Mu)) => (s.1, s.2.1, mput a h s.2.2)) (fun (y : (Int32 × Mu)) => (y.1, mput a h y.2))) (fun s => lX12_laysLikely_20b a h s.2 x1 x2 x3 s.1) (x4, m)
noncomputable def gX12_laysLikely_12b (m : Mu) (x1 : Int32) (x2 : Int32) (x3 : Int32) : Option ((Int32 × Int32 × Mu) ⊕ (Int32 × Mu)) :=
  if x1 ≤ x3 then (
    some (.inr (x2, m))) else (
    gX12_laysLikely_20 m x1 x2 x3 (0 : Int32))
noncomputable def gX12_laysLikely_12 (m : Mu) (x1 : Int32) (x2 : Int32) (x3 : Int32) : Option (Int32 × Mu) := lpw (σ := (Int32 × Int32 × Mu)) (fun s => gX12_laysLikely_12b s.2.2 x1 s.1 s.2.1) (x2, x3, m)
theorem lX12_laysLikely_12b (a : Nat) (h : Hp) (m : Mu) (x1 : Int32) (x2 : Int32) (x3 : Int32) : fX12_laysLikely_12b (mput a h m) a x1 x2 x3 = (gX12_laysLikely_12b m x1 x2 x3).map (Sum.map (fun (s : (Int32 × Int32 × Mu)) => (s.1, s.2.1, mput a h s.2.2)) (fun (y : (Int32 × Mu)) => (y.1, mput a h y.2))) := by
  unfold fX12_laysLikely_12b gX12_laysLikely_12b
  simp only [lX12_laysLikely_20, lift_lt, lift_gO, k_bs, k_mb, k_ms, k_bm, k_mm, k_il, k_ir, lift_ite, k_id]
theorem lX12_laysLikely_12 (a : Nat) (h : Hp) (m : Mu) (x1 : Int32) (x2 : Int32) (x3 : Int32) : fX12_laysLikely_12 (mput a h m) a x1 x2 x3 = (gX12_laysLikely_12 m x1 x2 x3).map (fun (y : (Int32 × Mu)) => (y.1, mput a h y.2)) := by
  unfold fX12_laysLikely_12 gX12_laysLikely_12
  exact lpw_map _ _ (fun (s : (Int32 × Int32 × Mu)) => (s.1, s.2.1, mput a h s.2.2)) (fun (y : (Int32 × Mu)) => (y.1, mput a h y.2)) (fun s => lX12_laysLikely_12b a h s.2.2 x1 s.1 s.2.1) (x2, x3, m)
noncomputable def gX12_laysLikely (m : Mu) (x1 : Int32) : Option (Int32 × Mu) :=
  (gX12_laysTables m ).bind fun y1 =>
  (gX12_beginsMany y1 ).bind fun y2 =>
  gX12_laysLikely_12 y2 x1 (1 : Int32) (0 : Int32)
theorem lX12_laysLikely (a : Nat) (h : Hp) (m : Mu) (x1 : Int32) : fX12_laysLikely (mput a h m) a x1 = (gX12_laysLikely m x1).map (fun (y : (Int32 × Mu)) => (y.1, mput a h y.2)) := by
  unfold fX12_laysLikely gX12_laysLikely
  simp only [lX12_laysTables, lX12_beginsMany, lX12_laysLikely_12, lift_lt, lift_gO, k_bs, k_mb, k_ms, k_bm, k_mm, k_il, k_ir, lift_ite, k_id]
noncomputable def gX12_common_15 (gc : Nat → Int32 → Int32 → Option Int32) (s0 : Int32) : Option Int32 :=
  some (s0)
theorem lX12_common_15 (h : Hp) {rc : Nat → Hp → Int32 → Int32 → Option Int32} {gc : Nat → Int32 → Int32 → Option Int32} (hgc : ∀ (sel : Nat) (h : Hp) (x0 : Int32) (x1 : Int32), rc sel h x0 x1 = gc sel x0 x1) (s0 : Int32) : fX12_common_15 rc h s0 = gX12_common_15 gc s0 := by
  unfold fX12_common_15 gX12_common_15
  simp only [lift_lt, lift_gO, k_bs, k_mb, k_ms, k_bm, k_mm, k_il, k_ir, lift_ite, k_id]
noncomputable def gX12_common (gc : Nat → Int32 → Int32 → Option Int32) (x0 : Int32) (x1 : Int32) : Option Int32 :=
  if x1 = 0 then (
    gX12_common_15 gc x0) else (
    (rm x0 x1).bind fun v1 =>
    (gc 0 x1 v1).bind fun y2 =>
    gX12_common_15 gc y2)
theorem lX12_common (h : Hp) {rc : Nat → Hp → Int32 → Int32 → Option Int32} {gc : Nat → Int32 → Int32 → Option Int32} (hgc : ∀ (sel : Nat) (h : Hp) (x0 : Int32) (x1 : Int32), rc sel h x0 x1 = gc sel x0 x1) (x0 : Int32) (x1 : Int32) : fX12_common rc h x0 x1 = gX12_common gc x0 x1 := by
  unfold fX12_common gX12_common
  simp only [hgc, lX12_common_15 _ hgc, lift_lt, lift_gO, k_bs, k_mb, k_ms, k_bm, k_mm, k_il, k_ir, lift_ite, k_id]
noncomputable def grX12_common : Nat → Nat → Int32 → Int32 → Option Int32
  | 0, _, _, _ => none
  | n + 1, sel, x0, x1 => gX12_common (grX12_common n) x0 x1
theorem lrX12_common : ∀ (n sel : Nat) (h : Hp) (x0 : Int32) (x1 : Int32), rX12_common n sel h x0 x1 = grX12_common n sel x0 x1
  | 0, sel, h, x0, x1 => rfl
  | n + 1, sel, h, x0, x1 => by
    simp only [rX12_common, grX12_common]
    exact lX12_common h (fun sel h x0 x1 => lrX12_common n sel h x0 x1) x0 x1
noncomputable def gX12_part_14 (x2 : Int32) (x4 : Int32) (s0 : Int32) : Option Int32 :=
  (grX12_common 100 0 x4 x2).bind fun y1 =>
  (dv s0 y1).bind fun v2 =>
  some (v2)
theorem lX12_part_14 (h : Hp) (x2 : Int32) (x4 : Int32) (s0 : Int32) : fX12_part_14 h x2 x4 s0 = gX12_part_14 x2 x4 s0 := by
  unfold fX12_part_14 gX12_part_14
  simp only [lrX12_common, lift_lt, lift_gO, k_bs, k_mb, k_ms, k_bm, k_mm, k_il, k_ir, lift_ite, k_id]
noncomputable def gX12_part (x0 : Int64) (x2 : Int32) (x3 : Int32) : Option Int32 :=
  if x3 = 0 then (
    gX12_part_14 x2 (x0.toInt32) (x0.toInt32)) else (
    gX12_part_14 x2 (x0.toInt32) x2)
theorem lX12_part (h : Hp) (x0 : Int64) (x2 : Int32) (x3 : Int32) : fX12_part h x0 x2 x3 = gX12_part x0 x2 x3 := by
  unfold fX12_part gX12_part
  simp only [lX12_part_14, lift_lt, lift_gO, k_bs, k_mb, k_ms, k_bm, k_mm, k_il, k_ir, lift_ite, k_id]
noncomputable def gX12_noChance_37 (m : Mu) (s0 : Int32) : Option Int32 :=
  some (s0)
theorem lX12_noChance_37 (a : Nat) (h : Hp) (m : Mu) (s0 : Int32) : fX12_noChance_37 (mput a h m) s0 = gX12_noChance_37 m s0 := by
  unfold fX12_noChance_37 gX12_noChance_37
  simp only [lift_lt, lift_gO, k_bs, k_mb, k_ms, k_bm, k_mm, k_il, k_ir, lift_ite, k_id]
noncomputable def gX12_noChance_14 (m : Mu)  : Option Int32 :=
  gX12_noChance_37 m (-2 : Int32)
theorem lX12_noChance_14 (a : Nat) (h : Hp) (m : Mu)  : fX12_noChance_14 (mput a h m)  = gX12_noChance_14 m  := by
  unfold fX12_noChance_14 gX12_noChance_14
  simp only [lX12_noChance_37, lift_lt, lift_gO, k_bs, k_mb, k_ms, k_bm, k_mm, k_il, k_ir, lift_ite, k_id]
noncomputable def gX12_noChance (m : Mu) (x1 : Int32) (x2 : Int32) (x3 : Int32) : Option Int32 :=
  if x1 = 0 then (
  gX12_noChance_14 m ) else (
    (gX12_within (x3.toInt64) (0 : Int64) (1 : Int64)).bind fun y1 =>
    if y1 = 0 then (
    gX12_noChance_14 m ) else (
      (gX12_within (x2.toInt64) (0 : Int64) (8 : Int64)).bind fun y2 =>
      if y2 = 0 then (
        gX12_noChance_37 m (-3 : Int32)) else (
        gX12_noChance_37 m (0 : Int32))))
theorem lX12_noChance (a : Nat) (h : Hp) (m : Mu) (x1 : Int32) (x2 : Int32) (x3 : Int32) : fX12_noChance (mput a h m) x1 x2 x3 = gX12_noChance m x1 x2 x3 := by
  unfold fX12_noChance gX12_noChance
  simp only [lX12_noChance_14, lX12_within, lX12_noChance_37, lift_lt, lift_gO, k_bs, k_mb, k_ms, k_bm, k_mm, k_il, k_ir, lift_ite, k_id]
noncomputable def gX12_chance_82 (m : Mu) (x1 : Int32) (x3 : Int32) (x5 : Int32) (x8 : Int32) (s0 : Int64) (s1 : Int64) : Option ((Int64 × Int32) ⊕ (Int32 × Mu)) :=
  some (.inl ((s0 + s1), (x8 + Int32.ofInt 1)))
theorem lX12_chance_82 (a : Nat) (h : Hp) (m : Mu) (x1 : Int32) (x3 : Int32) (x5 : Int32) (x8 : Int32) (s0 : Int64) (s1 : Int64) : fX12_chance_82 (mput a h m) a x1 x3 x5 x8 s0 s1 = (gX12_chance_82 m x1 x3 x5 x8 s0 s1).map (Sum.map id (fun (y : (Int32 × Mu)) => (y.1, mput a h y.2))) := by
  unfold fX12_chance_82 gX12_chance_82
  simp only [lift_lt, lift_gO, k_bs, k_mb, k_ms, k_bm, k_mm, k_il, k_ir, lift_ite, k_id]
noncomputable def gX12_chance_81 (m : Mu) (x1 : Int32) (x3 : Int32) (x5 : Int32) (x8 : Int32) (s0 : Int64) : Option ((Int64 × Int32) ⊕ (Int32 × Mu)) :=
  gX12_chance_82 m x1 x3 x5 x8 s0 (0 : Int64)
theorem lX12_chance_81 (a : Nat) (h : Hp) (m : Mu) (x1 : Int32) (x3 : Int32) (x5 : Int32) (x8 : Int32) (s0 : Int64) : fX12_chance_81 (mput a h m) a x1 x3 x5 x8 s0 = (gX12_chance_81 m x1 x3 x5 x8 s0).map (Sum.map id (fun (y : (Int32 × Mu)) => (y.1, mput a h y.2))) := by
  unfold fX12_chance_81 gX12_chance_81
  simp only [lX12_chance_82, lift_lt, lift_gO, k_bs, k_mb, k_ms, k_bm, k_mm, k_il, k_ir, lift_ite, k_id]
noncomputable def gX12_chance_40b (m : Mu) (x1 : Int32) (x3 : Int32) (x5 : Int32) (x6 : Int64) (x8 : Int32) : Option ((Int64 × Int32) ⊕ (Int32 × Mu)) :=
  if (20000 : Int32) ≤ x8 then (
    (gX12_part x6 x5 x3).bind fun y5 =>
    some (.inr (y5, m))) else (
    (mJ m 17 x8).bind fun v6 =>
    if (lg_cmp v6 (0 : Int64)) ≤ 0 then (
    gX12_chance_81 m x1 x3 x5 x8 x6) else (
      (gX12_gapIn x8 x1).bind fun y7 =>
      if y7 = 0 then (
        (mJ m 17 x8).bind fun v8 =>
        gX12_chance_82 m x1 x3 x5 x8 x6 v8) else (
      gX12_chance_81 m x1 x3 x5 x8 x6)))
noncomputable def gX12_chance_40 (m : Mu) (x1 : Int32) (x3 : Int32) (x5 : Int32) (x6 : Int64) (x8 : Int32) : Option (Int32 × Mu) := lpw (σ := (Int64 × Int32)) (fun s => gX12_chance_40b m x1 x3 x5 s.1 s.2) (x6, x8)
theorem lX12_chance_40b (a : Nat) (h : Hp) (m : Mu) (x1 : Int32) (x3 : Int32) (x5 : Int32) (x6 : Int64) (x8 : Int32) : fX12_chance_40b (mput a h m) a x1 x3 x5 x6 x8 = (gX12_chance_40b m x1 x3 x5 x6 x8).map (Sum.map id (fun (y : (Int32 × Mu)) => (y.1, mput a h y.2))) := by
  unfold fX12_chance_40b gX12_chance_40b
  simp only [lX12_part, lift_gN_34, lift_aJ_17, lX12_chance_81, lX12_gapIn, lX12_chance_82, lift_lt, lift_gO, k_bs, k_mb, k_ms, k_bm, k_mm, k_il, k_ir, lift_ite, k_id]
theorem lX12_chance_40 (a : Nat) (h : Hp) (m : Mu) (x1 : Int32) (x3 : Int32) (x5 : Int32) (x6 : Int64) (x8 : Int32) : fX12_chance_40 (mput a h m) a x1 x3 x5 x6 x8 = (gX12_chance_40 m x1 x3 x5 x6 x8).map (fun (y : (Int32 × Mu)) => (y.1, mput a h y.2)) := by
  unfold fX12_chance_40 gX12_chance_40
  exact lpw_map _ _ id (fun (y : (Int32 × Mu)) => (y.1, mput a h y.2)) (fun s => lX12_chance_40b a h m x1 x3 x5 s.1 s.2) (x6, x8)
noncomputable def gX12_chance (m : Mu) (x1 : Int32) (x2 : Int32) (x3 : Int32) : Option (Int32 × Mu) :=
  lt (mI m 0 (0 : Int32)) fun m1 =>
  (gX12_isPair m1 (x1.toInt64)).bind fun y2 =>
  (gX12_noChance m1 y2 x2 x3).bind fun y3 =>
  if y3 = 0 then (
    (gX12_laysLikely m1 x2).bind fun y4 =>
    gX12_chance_40 y4.2 x1 x3 y4.1 (0 : Int64) (0 : Int32)) else (
    some ((y3, m1)))
theorem lX12_chance (a : Nat) (h : Hp) (m : Mu) (x1 : Int32) (x2 : Int32) (x3 : Int32) : fX12_chance (mput a h m) a x1 x2 x3 = (gX12_chance m x1 x2 x3).map (fun (y : (Int32 × Mu)) => (y.1, mput a h y.2)) := by
  unfold fX12_chance gX12_chance
  simp only [lift_sV_0, lX12_isPair, lX12_noChance, lX12_laysLikely, lX12_chance_40, lift_lt, lift_gO, k_bs, k_mb, k_ms, k_bm, k_mm, k_il, k_ir, lift_ite, k_id]
