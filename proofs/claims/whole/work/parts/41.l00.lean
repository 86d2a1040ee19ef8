/-! the reference over its own numbers -/
noncomputable def gX12_within_18 (s0 : Int32) : Option Int32 :=
  bl s0 (some (s0))
theorem lX12_within_18 (h : Hp) (s0 : Int32) : fX12_within_18 h s0 = gX12_within_18 s0 := by
  unfold fX12_within_18 gX12_within_18
  simp only [lift_bl, lift_lt, lift_gO, k_bs, k_mb, k_ms, k_bm, k_mm, k_il, k_ir, lift_ite, k_id]
noncomputable def gX12_within_17  : Option Int32 :=
  gX12_within_18 (0 : Int32)
theorem lX12_within_17 (h : Hp)  : fX12_within_17 h  = gX12_within_17  := by
  unfold fX12_within_17 gX12_within_17
  simp only [lX12_within_18, lift_lt, lift_gO, k_bs, k_mb, k_ms, k_bm, k_mm, k_il, k_ir, lift_ite, k_id]
noncomputable def gX12_within (x0 : Int64) (x2 : Int64) (x4 : Int64) : Option Int32 :=
  if (lg_cmp x0 x2) < 0 then (
  gX12_within_17 ) else (
    if 0 < (lg_cmp x0 x4) then (
    gX12_within_17 ) else (
      gX12_within_18 (1 : Int32)))
theorem lX12_within (h : Hp) (x0 : Int64) (x2 : Int64) (x4 : Int64) : fX12_within h x0 x2 x4 = gX12_within x0 x2 x4 := by
  unfold fX12_within gX12_within
  simp only [lX12_within_17, lX12_within_18, lift_lt, lift_gO, k_bs, k_mb, k_ms, k_bm, k_mm, k_il, k_ir, lift_ite, k_id]
noncomputable def gX12_plain_2b (m : Mu) (x0 : Nat) (x1 : Int32) : Option ((Int32 × Mu) ⊕ Mu) :=
  if (1038 : Int32) ≤ x1 then (
    some (.inr m)) else (
    (mW m x0 x1 (0 : Int32)).bind fun m1 =>
    some (.inl ((x1 + Int32.ofInt 1), m1)))
noncomputable def gX12_plain_2 (m : Mu) (x0 : Nat) (x1 : Int32) : Option Mu := lpw (σ := (Int32 × Mu)) (fun s => gX12_plain_2b s.2 x0 s.1) (x1, m)
theorem lX12_plain_2b (a : Nat) (h : Hp) (m : Mu) (x0 : Nat) (x1 : Int32) (hx0 : 0 < x0 ∧ x0 < 24 ∧ mtag x0 = 0) : fX12_plain_2b (mput a h m) (a + x0) x1 = (gX12_plain_2b m x0 x1).map (Sum.map (fun (s : (Int32 × Mu)) => (s.1, mput a h s.2)) (mput a h)) := by
  unfold fX12_plain_2b gX12_plain_2b
  simp only [lift_wI_v hx0, hx0, lift_lt, lift_gO, k_bs, k_mb, k_ms, k_bm, k_mm, k_il, k_ir, lift_ite, k_id]
theorem lX12_plain_2 (a : Nat) (h : Hp) (m : Mu) (x0 : Nat) (x1 : Int32) (hx0 : 0 < x0 ∧ x0 < 24 ∧ mtag x0 = 0) : fX12_plain_2 (mput a h m) (a + x0) x1 = (gX12_plain_2 m x0 x1).map (mput a h) := by
  unfold fX12_plain_2 gX12_plain_2
  exact lpw_map _ _ (fun (s : (Int32 × Mu)) => (s.1, mput a h s.2)) (mput a h) (fun s => lX12_plain_2b a h s.2 x0 s.1 hx0) (x1, m)
noncomputable def gX12_plain (m : Mu) (x0 : Nat) : Option Mu :=
  gX12_plain_2 m x0 (0 : Int32)
theorem lX12_plain (a : Nat) (h : Hp) (m : Mu) (x0 : Nat) (hx0 : 0 < x0 ∧ x0 < 24 ∧ mtag x0 = 0) : fX12_plain (mput a h m) (a + x0) = (gX12_plain m x0).map (mput a h) := by
  unfold fX12_plain gX12_plain
  exact lX12_plain_2 a h m x0 _ hx0
noncomputable def gX12_feed_77 (m : Mu) (x1 : Int32) (x2 : Int32) (x3 : Int32) (x4 : Int32) (x5 : Int32) (x6 : Int32) (s0 : Int32) : Option ((Int32 × Mu) ⊕ (Int32 × Mu)) :=
  (rm x6 (4 : Int32)).bind fun v2 =>
  lt ((s0 >>> (((24 : Int32) - ((8 : Int32) * v2)) &&& 31)) &&& (255 : Int32)) fun w3 =>
  (mW m 3 (m.1 5) w3).bind fun m4 =>
  lt (mI m4 5 ((m4.1 5) + (1 : Int32))) fun m5 =>
  some (.inl ((x6 + Int32.ofInt 1), m5))
theorem lX12_feed_77 (a : Nat) (h : Hp) (m : Mu) (x1 : Int32) (x2 : Int32) (x3 : Int32) (x4 : Int32) (x5 : Int32) (x6 : Int32) (s0 : Int32) : fX12_feed_77 (mput a h m) a x1 x2 x3 x4 x5 x6 s0 = (gX12_feed_77 m x1 x2 x3 x4 x5 x6 s0).map (Sum.map (fun (s : (Int32 × Mu)) => (s.1, mput a h s.2)) (fun (y : (Int32 × Mu)) => (y.1, mput a h y.2))) := by
  unfold fX12_feed_77 gX12_feed_77
  simp only [lift_gN_3, lift_gI_5, lift_wI_3, lift_sV_5, lift_lt, lift_gO, k_bs, k_mb, k_ms, k_bm, k_mm, k_il, k_ir, lift_ite, k_id]
noncomputable def gX12_feed_24b (m : Mu) (x1 : Int32) (x2 : Int32) (x3 : Int32) (x4 : Int32) (x5 : Int32) (x6 : Int32) : Option ((Int32 × Mu) ⊕ (Int32 × Mu)) :=
  if (20 : Int32) ≤ x6 then (
    some (.inr ((m.1 5), m))) else (
    if (4 : Int32) ≤ x6 then (
      if (8 : Int32) ≤ x6 then (
        if (12 : Int32) ≤ x6 then (
          if (16 : Int32) ≤ x6 then (
            gX12_feed_77 m x1 x2 x3 x4 x5 x6 x5) else (
            gX12_feed_77 m x1 x2 x3 x4 x5 x6 x4)) else (
          gX12_feed_77 m x1 x2 x3 x4 x5 x6 x3)) else (
        gX12_feed_77 m x1 x2 x3 x4 x5 x6 x2)) else (
      gX12_feed_77 m x1 x2 x3 x4 x5 x6 x1))
noncomputable def gX12_feed_24 (m : Mu) (x1 : Int32) (x2 : Int32) (x3 : Int32) (x4 : Int32) (x5 : Int32) (x6 : Int32) : Option (Int32 × Mu) := lpw (σ := (Int32 × Mu)) (fun s => gX12_feed_24b s.2 x1 x2 x3 x4 x5 s.1) (x6, m)
theorem lX12_feed_24b (a : Nat) (h : Hp) (m : Mu) (x1 : Int32) (x2 : Int32) (x3 : Int32) (x4 : Int32) (x5 : Int32) (x6 : Int32) : fX12_feed_24b (mput a h m) a x1 x2 x3 x4 x5 x6 = (gX12_feed_24b m x1 x2 x3 x4 x5 x6).map (Sum.map (fun (s : (Int32 × Mu)) => (s.1, mput a h s.2)) (fun (y : (Int32 × Mu)) => (y.1, mput a h y.2))) := by
  unfold fX12_feed_24b gX12_feed_24b
  simp only [lift_gI_5, lX12_feed_77, lift_lt, lift_gO, k_bs, k_mb, k_ms, k_bm, k_mm, k_il, k_ir, lift_ite, k_id]
theorem lX12_feed_24 (a : Nat) (h : Hp) (m : Mu) (x1 : Int32) (x2 : Int32) (x3 : Int32) (x4 : Int32) (x5 : Int32) (x6 : Int32) : fX12_feed_24 (mput a h m) a x1 x2 x3 x4 x5 x6 = (gX12_feed_24 m x1 x2 x3 x4 x5 x6).map (fun (y : (Int32 × Mu)) => (y.1, mput a h y.2)) := by
  unfold fX12_feed_24 gX12_feed_24
  exact lpw_map _ _ (fun (s : (Int32 × Mu)) => (s.1, mput a h s.2)) (fun (y : (Int32 × Mu)) => (y.1, mput a h y.2)) (fun s => lX12_feed_24b a h s.2 x1 x2 x3 x4 x5 s.1) (x6, m)
noncomputable def gX12_feed (m : Mu) (x1 : Int32) (x2 : Int32) (x3 : Int32) (x4 : Int32) (x5 : Int32) : Option (Int32 × Mu) :=
  lt (mI m 0 (0 : Int32)) fun m1 =>
  if ((m1.1 5) + (20 : Int32)) ≤ (900 : Int32) then (
    gX12_feed_24 m1 x1 x2 x3 x4 x5 (0 : Int32)) else (
    some (((-5 : Int32), m1)))
theorem lX12_feed (a : Nat) (h : Hp) (m : Mu) (x1 : Int32) (x2 : Int32) (x3 : Int32) (x4 : Int32) (x5 : Int32) : fX12_feed (mput a h m) a x1 x2 x3 x4 x5 = (gX12_feed m x1 x2 x3 x4 x5).map (fun (y : (Int32 × Mu)) => (y.1, mput a h y.2)) := by
  unfold fX12_feed gX12_feed
  simp only [lift_sV_0, lift_gI_5, lX12_feed_24, lift_lt, lift_gO, k_bs, k_mb, k_ms, k_bm, k_mm, k_il, k_ir, lift_ite, k_id]
noncomputable def gX12_see_18 (m : Mu) (s0 : Int32) : Option Int32 :=
  some (s0)
theorem lX12_see_18 (a : Nat) (h : Hp) (m : Mu) (s0 : Int32) : fX12_see_18 (mput a h m) s0 = gX12_see_18 m s0 := by
  unfold fX12_see_18 gX12_see_18
  simp only [lift_lt, lift_gO, k_bs, k_mb, k_ms, k_bm, k_mm, k_il, k_ir, lift_ite, k_id]
noncomputable def gX12_see (m : Mu) (x1 : Int32) : Option Int32 :=
  if (m.1 8) ≤ x1 then (
    gX12_see_18 m (-1 : Int32)) else (
    (mA m 3 x1).bind fun v1 =>
    gX12_see_18 m v1)
theorem lX12_see (a : Nat) (h : Hp) (m : Mu) (x1 : Int32) : fX12_see (mput a h m) a x1 = gX12_see m x1 := by
  unfold fX12_see gX12_see
  simp only [lift_gI_8, lX12_see_18, lift_gN_3, lift_aI_3, lift_lt, lift_gO, k_bs, k_mb, k_ms, k_bm, k_mm, k_il, k_ir, lift_ite, k_id]
noncomputable def gX12_isSmall_17 (s0 : Int32) : Option Int32 :=
  bl s0 (some (s0))
theorem lX12_isSmall_17 (h : Hp) (s0 : Int32) : fX12_isSmall_17 h s0 = gX12_isSmall_17 s0 := by
  unfold fX12_isSmall_17 gX12_isSmall_17
  simp only [lift_bl, lift_lt, lift_gO, k_bs, k_mb, k_ms, k_bm, k_mm, k_il, k_ir, lift_ite, k_id]
noncomputable def gX12_isSmall_16  : Option Int32 :=
  gX12_isSmall_17 (0 : Int32)
theorem lX12_isSmall_16 (h : Hp)  : fX12_isSmall_16 h  = gX12_isSmall_16  := by
  unfold fX12_isSmall_16 gX12_isSmall_16
  simp only [lX12_isSmall_17, lift_lt, lift_gO, k_bs, k_mb, k_ms, k_bm, k_mm, k_il, k_ir, lift_ite, k_id]
noncomputable def gX12_isSmall (x0 : Int32) : Option Int32 :=
  if x0 < (97 : Int32) then (
  gX12_isSmall_16 ) else (
    if (122 : Int32) < x0 then (
    gX12_isSmall_16 ) else (
      gX12_isSmall_17 (1 : Int32)))
theorem lX12_isSmall (h : Hp) (x0 : Int32) : fX12_isSmall h x0 = gX12_isSmall x0 := by
  unfold fX12_isSmall gX12_isSmall
  simp only [lX12_isSmall_16, lX12_isSmall_17, lift_lt, lift_gO, k_bs, k_mb, k_ms, k_bm, k_mm, k_il, k_ir, lift_ite, k_id]
noncomputable def gX12_isDigit_17 (s0 : Int32) : Option Int32 :=
  bl s0 (some (s0))
theorem lX12_isDigit_17 (h : Hp) (s0 : Int32) : fX12_isDigit_17 h s0 = gX12_isDigit_17 s0 := by
  unfold fX12_isDigit_17 gX12_isDigit_17
  simp only [lift_bl, lift_lt, lift_gO, k_bs, k_mb, k_ms, k_bm, k_mm, k_il, k_ir, lift_ite, k_id]
noncomputable def gX12_isDigit_16  : Option Int32 :=
  gX12_isDigit_17 (0 : Int32)
theorem lX12_isDigit_16 (h : Hp)  : fX12_isDigit_16 h  = gX12_isDigit_16  := by
  unfold fX12_isDigit_16 gX12_isDigit_16
  simp only [lX12_isDigit_17, lift_lt, lift_gO, k_bs, k_mb, k_ms, k_bm, k_mm, k_il, k_ir, lift_ite, k_id]
noncomputable def gX12_isDigit (x0 : Int32) : Option Int32 :=
  if x0 < (48 : Int32) then (
  gX12_isDigit_16 ) else (
    if (57 : Int32) < x0 then (
    gX12_isDigit_16 ) else (
      gX12_isDigit_17 (1 : Int32)))
theorem lX12_isDigit (h : Hp) (x0 : Int32) : fX12_isDigit h x0 = gX12_isDigit x0 := by
  unfold fX12_isDigit gX12_isDigit
  simp only [lX12_isDigit_16, lX12_isDigit_17, lift_lt, lift_gO, k_bs, k_mb, k_ms, k_bm, k_mm, k_il, k_ir, lift_ite, k_id]
noncomputable def gX12_keyAt_114 (m : Mu) (x1 : Int32) (x2 : Int32) : Option ((Int32 × Int32) ⊕ Int32) :=
  some (.inl ((x1 + Int32.ofInt 1), (x2 + Int32.ofInt 1)))
theorem lX12_keyAt_114 (a : Nat) (h : Hp) (m : Mu) (x1 : Int32) (x2 : Int32) : fX12_keyAt_114 (mput a h m) a x1 x2 = gX12_keyAt_114 m x1 x2 := by
  unfold fX12_keyAt_114 gX12_keyAt_114
  simp only [lift_lt, lift_gO, k_bs, k_mb, k_ms, k_bm, k_mm, k_il, k_ir, lift_ite, k_id]
noncomputable def gX12_keyAt_97b (m : Mu) (x1 : Int32) (x2 : Int32) : Option (Int32 ⊕ ((Int32 × Int32) ⊕ Int32)) :=
  gT 35 (
  (cJ_chr 35 x2).bind fun y4 =>
  if y4 = (32 : Int32) then (
  (gX12_keyAt_114 m x1 x2).map (fun q => .inr q)) else (
    some (.inl (x2 + Int32.ofInt 1))))
noncomputable def gX12_keyAt_97 (m : Mu) (x1 : Int32) (x2 : Int32) : Option ((Int32 × Int32) ⊕ Int32) := lpw (σ := Int32) (fun s => gX12_keyAt_97b m x1 s) x2
theorem lX12_keyAt_97b (a : Nat) (h : Hp) (m : Mu) (x1 : Int32) (x2 : Int32) : fX12_keyAt_97b (mput a h m) a x1 x2 = gX12_keyAt_97b m x1 x2 := by
  unfold fX12_keyAt_97b gX12_keyAt_97b
  simp only [lift_gT, zJ0_charAt_5068e, lX12_keyAt_114, lift_lt, lift_gO, k_bs, k_mb, k_ms, k_bm, k_mm, k_il, k_ir, lift_ite, k_id]
theorem lX12_keyAt_97 (a : Nat) (h : Hp) (m : Mu) (x1 : Int32) (x2 : Int32) : fX12_keyAt_97 (mput a h m) a x1 x2 = gX12_keyAt_97 m x1 x2 := by
  unfold fX12_keyAt_97 gX12_keyAt_97
  refine congrArg (fun b => lpw b _) (funext (fun s => ?_))
  exact lX12_keyAt_97b a h m x1 s
noncomputable def gX12_keyAt_69 (m : Mu) (x1 : Int32) (x2 : Int32) (x3 : Int32) : Option ((Int32 × Int32) ⊕ Int32) :=
  gT 35 (
  (cJ_chr 35 (x2 + x3)).bind fun y3 =>
  if y3 = (32 : Int32) then (
    if ((m.1 6) + x3) = (m.1 7) then (
      some (.inr x1)) else (
    gX12_keyAt_97 m x1 x2)) else (
  gX12_keyAt_97 m x1 x2))
theorem lX12_keyAt_69 (a : Nat) (h : Hp) (m : Mu) (x1 : Int32) (x2 : Int32) (x3 : Int32) : fX12_keyAt_69 (mput a h m) a x1 x2 x3 = gX12_keyAt_69 m x1 x2 x3 := by
  unfold fX12_keyAt_69 gX12_keyAt_69
  simp only [lift_gT, zJ0_charAt_5068e, lX12_keyAt_97, lift_gI_6, lift_gI_7, lift_lt, lift_gO, k_bs, k_mb, k_ms, k_bm, k_mm, k_il, k_ir, lift_ite, k_id]
noncomputable def gX12_keyAt_15b (m : Mu) (x1 : Int32) (x2 : Int32) (x3 : Int32) : Option (Int32 ⊕ ((Int32 × Int32) ⊕ Int32)) :=
  gT 35 (
  (cJ_chr 35 (x2 + x3)).bind fun y2 =>
  if y2 = (32 : Int32) then (
  (gX12_keyAt_69 m x1 x2 x3).map (fun q => .inr q)) else (
    if (m.1 7) ≤ ((m.1 6) + x3) then (
    (gX12_keyAt_69 m x1 x2 x3).map (fun q => .inr q)) else (
      (mA m 3 ((m.1 6) + x3)).bind fun v5 =>
      gT 35 (
      (cJ_chr 35 (x2 + x3)).bind fun y6 =>
      if v5 = y6 then (
        some (.inl (x3 + Int32.ofInt 1))) else (
      (gX12_keyAt_69 m x1 x2 x3).map (fun q => .inr q))))))
noncomputable def gX12_keyAt_15 (m : Mu) (x1 : Int32) (x2 : Int32) (x3 : Int32) : Option ((Int32 × Int32) ⊕ Int32) := lpw (σ := Int32) (fun s => gX12_keyAt_15b m x1 x2 s) x3
theorem lX12_keyAt_15b (a : Nat) (h : Hp) (m : Mu) (x1 : Int32) (x2 : Int32) (x3 : Int32) : fX12_keyAt_15b (mput a h m) a x1 x2 x3 = gX12_keyAt_15b m x1 x2 x3 := by
  unfold fX12_keyAt_15b gX12_keyAt_15b
  simp only [lift_gT, zJ0_charAt_5068e, lX12_keyAt_69, lift_gI_6, lift_gI_7, lift_gN_3, lift_aI_3, lift_lt, lift_gO, k_bs, k_mb, k_ms, k_bm, k_mm, k_il, k_ir, lift_ite, k_id]
theorem lX12_keyAt_15 (a : Nat) (h : Hp) (m : Mu) (x1 : Int32) (x2 : Int32) (x3 : Int32) : fX12_keyAt_15 (mput a h m) a x1 x2 x3 = gX12_keyAt_15 m x1 x2 x3 := by
  unfold fX12_keyAt_15 gX12_keyAt_15
  refine congrArg (fun b => lpw b _) (funext (fun s => ?_))
  exact lX12_keyAt_15b a h m x1 x2 s
noncomputable def gX12_keyAt_4b (m : Mu) (x1 : Int32) (x2 : Int32) : Option ((Int32 × Int32) ⊕ Int32) :=
  gT 35 (
  (cJ_len 35).bind fun y1 =>
  if y1 ≤ x2 then (
    some (.inr (22 : Int32))) else (
    gX12_keyAt_15 m x1 x2 (0 : Int32)))
noncomputable def gX12_keyAt_4 (m : Mu) (x1 : Int32) (x2 : Int32) : Option Int32 := lpw (σ := (Int32 × Int32)) (fun s => gX12_keyAt_4b m  s.1 s.2) (x1, x2)
theorem lX12_keyAt_4b (a : Nat) (h : Hp) (m : Mu) (x1 : Int32) (x2 : Int32) : fX12_keyAt_4b (mput a h m) a x1 x2 = gX12_keyAt_4b m x1 x2 := by
  unfold fX12_keyAt_4b gX12_keyAt_4b
  simp only [lift_gT, zJ0_length_8abf5, lX12_keyAt_15, lift_lt, lift_gO, k_bs, k_mb, k_ms, k_bm, k_mm, k_il, k_ir, lift_ite, k_id]
theorem lX12_keyAt_4 (a : Nat) (h : Hp) (m : Mu) (x1 : Int32) (x2 : Int32) : fX12_keyAt_4 (mput a h m) a x1 x2 = gX12_keyAt_4 m x1 x2 := by
  unfold fX12_keyAt_4 gX12_keyAt_4
  refine congrArg (fun b => lpw b _) (funext (fun s => ?_))
  exact lX12_keyAt_4b a h m s.1 s.2
noncomputable def gX12_keyAt (m : Mu)  : Option Int32 :=
  gX12_keyAt_4 m (0 : Int32) (1 : Int32)
theorem lX12_keyAt (a : Nat) (h : Hp) (m : Mu)  : fX12_keyAt (mput a h m) a = gX12_keyAt m  := by
  unfold fX12_keyAt gX12_keyAt
  simp only [lX12_keyAt_4, lift_lt, lift_gO, k_bs, k_mb, k_ms, k_bm, k_mm, k_il, k_ir, lift_ite, k_id]
noncomputable def gX12_next_34 (m : Mu)  : Option (Mu ⊕ Mu) :=
  lt (mI m 6 ((m.1 6) + (1 : Int32))) fun m3 =>
  some (.inl m3)
theorem lX12_next_34 (a : Nat) (h : Hp) (m : Mu)  : fX12_next_34 (mput a h m) a = (gX12_next_34 m ).map (Sum.map (mput a h) (mput a h)) := by
  unfold fX12_next_34 gX12_next_34
  simp only [lift_gI_6, lift_sV_6, lift_lt, lift_gO, k_bs, k_mb, k_ms, k_bm, k_mm, k_il, k_ir, lift_ite, k_id]
noncomputable def gX12_next_294 (m : Mu)  : Option Mu :=
  some (m)
theorem lX12_next_294 (a : Nat) (h : Hp) (m : Mu)  : fX12_next_294 (mput a h m)  = (gX12_next_294 m ).map (mput a h) := by
  unfold fX12_next_294 gX12_next_294
  simp only [lift_lt, lift_gO, k_bs, k_mb, k_ms, k_bm, k_mm, k_il, k_ir, lift_ite, k_id]
noncomputable def gX12_next_288 (m : Mu) (x1 : Int32) : Option ((Int32 × Mu) ⊕ Mu) :=
  some (.inl ((x1 + Int32.ofInt 1), m))
theorem lX12_next_288 (a : Nat) (h : Hp) (m : Mu) (x1 : Int32) : fX12_next_288 (mput a h m) a x1 = (gX12_next_288 m x1).map (Sum.map (fun (s : (Int32 × Mu)) => (s.1, mput a h s.2)) (mput a h)) := by
  unfold fX12_next_288 gX12_next_288
  simp only [lift_lt, lift_gO, k_bs, k_mb, k_ms, k_bm, k_mm, k_il, k_ir, lift_ite, k_id]
noncomputable def gX12_next_254b (m : Mu) (x1 : Int32) : Option ((Int32 × Mu) ⊕ Mu) :=
  gT 36 (
  (cJ_len 36).bind fun y12 =>
  if y12 ≤ x1 then (
  (gX12_next_294 m ).map (fun q => .inr q)) else (
    (gX12_see m (m.1 6)).bind fun y13 =>
    gT 36 (
    (cJ_chr 36 x1).bind fun y14 =>
    if y13 = y14 then (
      lt (mI m 9 ((30 : Int32) + x1)) fun m15 =>
      gX12_next_288 m15 x1) else (
    gX12_next_288 m x1))))
noncomputable def gX12_next_254 (m : Mu) (x1 : Int32) : Option Mu := lpw (σ := (Int32 × Mu)) (fun s => gX12_next_254b s.2  s.1) (x1, m)
theorem lX12_next_254b (a : Nat) (h : Hp) (m : Mu) (x1 : Int32) : fX12_next_254b (mput a h m) a x1 = (gX12_next_254b m x1).map (Sum.map (fun (s : (Int32 × Mu)) => (s.1, mput a h s.2)) (mput a h)) := by
  unfold fX12_next_254b gX12_next_254b
  simp only [lift_gT, zJ0_length_8abf5, lX12_next_294, lift_gI_6, lX12_see, zJ0_charAt_5068e, lX12_next_288, lift_sV_9, lift_lt, lift_gO, k_bs, k_mb, k_ms, k_bm, k_mm, k_il, k_ir, lift_ite, k_id]
theorem lX12_next_254 (a : Nat) (h : Hp) (m : Mu) (x1 : Int32) : fX12_next_254 (mput a h m) a x1 = (gX12_next_254 m x1).map (mput a h) := by
  unfold fX12_next_254 gX12_next_254
  exact lpw_map _ _ (fun (s : (Int32 × Mu)) => (s.1, mput a h s.2)) (mput a h) (fun s => lX12_next_254b a h s.2 s.1) (x1, m)
noncomputable def gX12_next_230 (m : Mu) (s1 : Int32) : Option Mu :=
  lt (mI m 9 s1) fun m19 =>
  gX12_next_294 m19 
theorem lX12_next_230 (a : Nat) (h : Hp) (m : Mu) (s1 : Int32) : fX12_next_230 (mput a h m) a s1 = (gX12_next_230 m s1).map (mput a h) := by
  unfold fX12_next_230 gX12_next_230
  simp only [lift_sV_9, lX12_next_294, lift_lt, lift_gO, k_bs, k_mb, k_ms, k_bm, k_mm, k_il, k_ir, lift_ite, k_id]
noncomputable def gX12_next_209 (m : Mu)  : Option Mu :=
  if ((m.1 7) - (m.1 6)) ≤ (3 : Int32) then (
    gX12_next_230 m (23 : Int32)) else (
    gX12_next_230 m (25 : Int32))
theorem lX12_next_209 (a : Nat) (h : Hp) (m : Mu)  : fX12_next_209 (mput a h m) a = (gX12_next_209 m ).map (mput a h) := by
  unfold fX12_next_209 gX12_next_209
  simp only [lift_gI_7, lift_gI_6, lX12_next_230, lift_lt, lift_gO, k_bs, k_mb, k_ms, k_bm, k_mm, k_il, k_ir, lift_ite, k_id]
noncomputable def gX12_next_196 (m : Mu)  : Option (Mu ⊕ Mu) :=
  lt (mI m 7 ((m.1 7) + (1 : Int32))) fun m20 =>
  some (.inl m20)
theorem lX12_next_196 (a : Nat) (h : Hp) (m : Mu)  : fX12_next_196 (mput a h m) a = (gX12_next_196 m ).map (Sum.map (mput a h) (mput a h)) := by
  unfold fX12_next_196 gX12_next_196
  simp only [lift_gI_7, lift_sV_7, lift_lt, lift_gO, k_bs, k_mb, k_ms, k_bm, k_mm, k_il, k_ir, lift_ite, k_id]
noncomputable def gX12_next_146b (m : Mu)  : Option (Mu ⊕ Mu) :=
  (gX12_see m (m.1 7)).bind fun y17 =>
  (gX12_isDigit y17).bind fun y18 =>
  if y18 = 0 then (
  (gX12_next_209 m ).map (fun q => .inr q)) else (
    if (3 : Int32) ≤ ((m.1 7) - (m.1 6)) then (
    gX12_next_196 m ) else (
      (gX12_see m (m.1 7)).bind fun y21 =>
      lt (mI m 10 ((((10 : Int32) * (m.1 10)) + y21) - (48 : Int32))) fun m22 =>
      gX12_next_196 m22 ))
noncomputable def gX12_next_146 (m : Mu)  : Option Mu := lpw (σ := Mu) (fun s => gX12_next_146b s  ) m
theorem lX12_next_146b (a : Nat) (h : Hp) (m : Mu)  : fX12_next_146b (mput a h m) a = (gX12_next_146b m ).map (Sum.map (mput a h) (mput a h)) := by
  unfold fX12_next_146b gX12_next_146b
  simp only [lift_gI_7, lX12_see, lX12_isDigit, lX12_next_209, lift_gI_6, lX12_next_196, lift_gI_10, lift_sV_10, lift_lt, lift_gO, k_bs, k_mb, k_ms, k_bm, k_mm, k_il, k_ir, lift_ite, k_id]
theorem lX12_next_146 (a : Nat) (h : Hp) (m : Mu)  : fX12_next_146 (mput a h m) a = (gX12_next_146 m ).map (mput a h) := by
  unfold fX12_next_146 gX12_next_146
  exact lpw_map _ _ (mput a h) (mput a h) (fun s => lX12_next_146b a h s ) m
noncomputable def gX12_next_116 (m : Mu)  : Option Mu :=
  (gX12_keyAt m ).bind fun y25 =>
  lt (mI m 9 y25) fun m26 =>
  gX12_next_294 m26 
theorem lX12_next_116 (a : Nat) (h : Hp) (m : Mu)  : fX12_next_116 (mput a h m) a = (gX12_next_116 m ).map (mput a h) := by
  unfold fX12_next_116 gX12_next_116
  simp only [lX12_keyAt, lift_sV_9, lX12_next_294, lift_lt, lift_gO, k_bs, k_mb, k_ms, k_bm, k_mm, k_il, k_ir, lift_ite, k_id]
noncomputable def gX12_next_89b (m : Mu)  : Option (Mu ⊕ Mu) :=
  (gX12_see m (m.1 7)).bind fun y23 =>
  (gX12_isSmall y23).bind fun y24 =>
  if y24 = 0 then (
  (gX12_next_116 m ).map (fun q => .inr q)) else (
    lt (mI m 7 ((m.1 7) + (1 : Int32))) fun m27 =>
    some (.inl m27))
noncomputable def gX12_next_89 (m : Mu)  : Option Mu := lpw (σ := Mu) (fun s => gX12_next_89b s  ) m
theorem lX12_next_89b (a : Nat) (h : Hp) (m : Mu)  : fX12_next_89b (mput a h m) a = (gX12_next_89b m ).map (Sum.map (mput a h) (mput a h)) := by
  unfold fX12_next_89b gX12_next_89b
  simp only [lift_gI_7, lX12_see, lX12_isSmall, lX12_next_116, lift_sV_7, lift_lt, lift_gO, k_bs, k_mb, k_ms, k_bm, k_mm, k_il, k_ir, lift_ite, k_id]
theorem lX12_next_89 (a : Nat) (h : Hp) (m : Mu)  : fX12_next_89 (mput a h m) a = (gX12_next_89 m ).map (mput a h) := by
  unfold fX12_next_89 gX12_next_89
  exact lpw_map _ _ (mput a h) (mput a h) (fun s => lX12_next_89b a h s ) m
noncomputable def gX12_next_47 (m : Mu)  : Option Mu :=
  lt (mI m 7 (m.1 6)) fun m5 =>
  if (m5.1 6) < (m5.1 8) then (
    (gX12_see m5 (m5.1 6)).bind fun y6 =>
    (gX12_isSmall y6).bind fun y7 =>
    if y7 = 0 then (
      (gX12_see m5 (m5.1 6)).bind fun y8 =>
      (gX12_isDigit y8).bind fun y9 =>
      if y9 = 0 then (
        lt (mI m5 7 ((m5.1 7) + (1 : Int32))) fun m10 =>
        lt (mI m10 9 (25 : Int32)) fun m11 =>
        gX12_next_254 m11 (0 : Int32)) else (
        lt (mI m5 10 (0 : Int32)) fun m16 =>
        gX12_next_146 m16 )) else (
    gX12_next_89 m5 )) else (
    lt (mI m5 9 (24 : Int32)) fun m28 =>
    gX12_next_294 m28 )
theorem lX12_next_47 (a : Nat) (h : Hp) (m : Mu)  : fX12_next_47 (mput a h m) a = (gX12_next_47 m ).map (mput a h) := by
  unfold fX12_next_47 gX12_next_47
  simp only [lift_gI_6, lift_sV_7, lift_gI_8, lX12_see, lX12_isSmall, lX12_isDigit, lift_gI_7, lift_sV_9, lX12_next_254, lift_sV_10, lX12_next_146, lX12_next_89, lX12_next_294, lift_lt, lift_gO, k_bs, k_mb, k_ms, k_bm, k_mm, k_il, k_ir, lift_ite, k_id]
noncomputable def gX12_next_8b (m : Mu)  : Option (Mu ⊕ Mu) :=
  (gX12_see m (m.1 6)).bind fun y2 =>
  if y2 = (10 : Int32) then (
  gX12_next_34 m ) else (
    (gX12_see m (m.1 6)).bind fun y4 =>
    if y4 = (32 : Int32) then (
    gX12_next_34 m ) else (
    (gX12_next_47 m ).map (fun q => .inr q)))
noncomputable def gX12_next_8 (m : Mu)  : Option Mu := lpw (σ := Mu) (fun s => gX12_next_8b s  ) m
theorem lX12_next_8b (a : Nat) (h : Hp) (m : Mu)  : fX12_next_8b (mput a h m) a = (gX12_next_8b m ).map (Sum.map (mput a h) (mput a h)) := by
  unfold fX12_next_8b gX12_next_8b
  simp only [lift_gI_6, lX12_see, lX12_next_34, lX12_next_47, lift_lt, lift_gO, k_bs, k_mb, k_ms, k_bm, k_mm, k_il, k_ir, lift_ite, k_id]
theorem lX12_next_8 (a : Nat) (h : Hp) (m : Mu)  : fX12_next_8 (mput a h m) a = (gX12_next_8 m ).map (mput a h) := by
  unfold fX12_next_8 gX12_next_8
  exact lpw_map _ _ (mput a h) (mput a h) (fun s => lX12_next_8b a h s ) m
noncomputable def gX12_next (m : Mu)  : Option Mu :=
  lt (mI m 6 (m.1 7)) fun m1 =>
  gX12_next_8 m1 
theorem lX12_next (a : Nat) (h : Hp) (m : Mu)  : fX12_next (mput a h m) a = (gX12_next m ).map (mput a h) := by
  unfold fX12_next gX12_next
  simp only [lift_gI_7, lift_sV_6, lX12_next_8, lift_lt, lift_gO, k_bs, k_mb, k_ms, k_bm, k_mm, k_il, k_ir, lift_ite, k_id]
noncomputable def gX12_fails_23 (m : Mu) (s1 : Int32) : Option Mu :=
  lt (mI m 11 s1) fun m1 =>
  lt (mI m1 12 (m1.1 6)) fun m2 =>
  some (m2)
theorem lX12_fails_23 (a : Nat) (h : Hp) (m : Mu) (s1 : Int32) : fX12_fails_23 (mput a h m) a a s1 = (gX12_fails_23 m s1).map (mput a h) := by
  unfold fX12_fails_23 gX12_fails_23
  simp only [lift_sV_11, lift_gI_6, lift_sV_12, lift_lt, lift_gO, k_bs, k_mb, k_ms, k_bm, k_mm, k_il, k_ir, lift_ite, k_id]
noncomputable def gX12_fails (m : Mu) (x1 : Int32) : Option Mu :=
  if (m.1 11) = 0 then (
    if (m.1 9) = (25 : Int32) then (
      gX12_fails_23 m (1 : Int32)) else (
      gX12_fails_23 m x1)) else (
    some (m))
theorem lX12_fails (a : Nat) (h : Hp) (m : Mu) (x1 : Int32) : fX12_fails (mput a h m) a x1 = (gX12_fails m x1).map (mput a h) := by
  unfold fX12_fails gX12_fails
  simp only [lift_gI_11, lift_gI_9, lX12_fails_23, lift_lt, lift_gO, k_bs, k_mb, k_ms, k_bm, k_mm, k_il, k_ir, lift_ite, k_id]
noncomputable def gX12_is_20 (m : Mu) (s0 : Int32) : Option Int32 :=
  bl s0 (some (s0))
theorem lX12_is_20 (a : Nat) (h : Hp) (m : Mu) (s0 : Int32) : fX12_is_20 (mput a h m) s0 = gX12_is_20 m s0 := by
  unfold fX12_is_20 gX12_is_20
  simp only [lift_bl, lift_lt, lift_gO, k_bs, k_mb, k_ms, k_bm, k_mm, k_il, k_ir, lift_ite, k_id]
noncomputable def gX12_is_19 (m : Mu)  : Option Int32 :=
  gX12_is_20 m (0 : Int32)
theorem lX12_is_19 (a : Nat) (h : Hp) (m : Mu)  : fX12_is_19 (mput a h m)  = gX12_is_19 m  := by
  unfold fX12_is_19 gX12_is_19
  simp only [lX12_is_20, lift_lt, lift_gO, k_bs, k_mb, k_ms, k_bm, k_mm, k_il, k_ir, lift_ite, k_id]
noncomputable def gX12_is (m : Mu) (x1 : Int32) : Option Int32 :=
  if (m.1 11) = 0 then (
    if (m.1 9) = x1 then (
      gX12_is_20 m (1 : Int32)) else (
    gX12_is_19 m )) else (
  gX12_is_19 m )
theorem lX12_is (a : Nat) (h : Hp) (m : Mu) (x1 : Int32) : fX12_is (mput a h m) a x1 = gX12_is m x1 := by
  unfold fX12_is gX12_is
  simp only [lift_gI_11, lX12_is_19, lift_gI_9, lX12_is_20, lift_lt, lift_gO, k_bs, k_mb, k_ms, k_bm, k_mm, k_il, k_ir, lift_ite, k_id]
noncomputable def gX12_eats (m : Mu) (x1 : Int32) : Option (Int32 × Mu) :=
  (gX12_is m x1).bind fun y1 =>
  if y1 = 0 then (
    some (((0 : Int32), m))) else (
    (gX12_next m ).bind fun y2 =>
    some (((1 : Int32), y2)))
theorem lX12_eats (a : Nat) (h : Hp) (m : Mu) (x1 : Int32) : fX12_eats (mput a h m) a x1 = (gX12_eats m x1).map (fun (y : (Int32 × Mu)) => (y.1, mput a h y.2)) := by
  unfold fX12_eats gX12_eats
  simp only [lX12_is, lX12_next, lift_lt, lift_gO, k_bs, k_mb, k_ms, k_bm, k_mm, k_il, k_ir, lift_ite, k_id]
noncomputable def gX12_takes_53 (m : Mu) (x3 : Int32) : Option (Int32 × Mu) :=
  some ((x3, m))
theorem lX12_takes_53 (a : Nat) (h : Hp) (m : Mu) (x3 : Int32) : fX12_takes_53 (mput a h m) x3 = (gX12_takes_53 m x3).map (fun (y : (Int32 × Mu)) => (y.1, mput a h y.2)) := by
  unfold fX12_takes_53 gX12_takes_53
  simp only [lift_lt, lift_gO, k_bs, k_mb, k_ms, k_bm, k_mm, k_il, k_ir, lift_ite, k_id]
noncomputable def gX12_takes_37 (m : Mu)  : Option (Int32 × Mu) :=
  if (m.1 11) = 0 then (
    (gX12_next m ).bind fun y3 =>
    gX12_takes_53 y3 (m.1 10)) else (
  gX12_takes_53 m (m.1 10))
theorem lX12_takes_37 (a : Nat) (h : Hp) (m : Mu)  : fX12_takes_37 (mput a h m) a = (gX12_takes_37 m ).map (fun (y : (Int32 × Mu)) => (y.1, mput a h y.2)) := by
  unfold fX12_takes_37 gX12_takes_37
  simp only [lift_gI_10, lift_gI_11, lX12_takes_53, lX12_next, lift_lt, lift_gO, k_bs, k_mb, k_ms, k_bm, k_mm, k_il, k_ir, lift_ite, k_id]
noncomputable def gX12_takes (m : Mu) (x1 : Int32) (x2 : Int32) : Option (Int32 × Mu) :=
  (gX12_is m (23 : Int32)).bind fun y1 =>
  if y1 = 0 then (
    (gX12_fails m (2 : Int32)).bind fun y5 =>
    gX12_takes_37 y5 ) else (
    (gX12_within ((m.1 10).toInt64) (x1.toInt64) (x2.toInt64)).bind fun y2 =>
    if y2 = 0 then (
      (gX12_fails m (3 : Int32)).bind fun y4 =>
      gX12_takes_37 y4 ) else (
    gX12_takes_37 m ))
theorem lX12_takes (a : Nat) (h : Hp) (m : Mu) (x1 : Int32) (x2 : Int32) : fX12_takes (mput a h m) a x1 x2 = (gX12_takes m x1 x2).map (fun (y : (Int32 × Mu)) => (y.1, mput a h y.2)) := by
  unfold fX12_takes gX12_takes
  simp only [lX12_is, lift_gI_10, lX12_within, lX12_takes_37, lX12_fails, lift_lt, lift_gO, k_bs, k_mb, k_ms, k_bm, k_mm, k_il, k_ir, lift_ite, k_id]
noncomputable def gX12_isIn_15 (s0 : Int32) : Option Int32 :=
  bl s0 (some (s0))
theorem lX12_isIn_15 (h : Hp) (s0 : Int32) : fX12_isIn_15 h s0 = gX12_isIn_15 s0 := by
  unfold fX12_isIn_15 gX12_isIn_15
  simp only [lift_bl, lift_lt, lift_gO, k_bs, k_mb, k_ms, k_bm, k_mm, k_il, k_ir, lift_ite, k_id]
noncomputable def gX12_isIn (x0 : Int64) (x2 : Int32) : Option Int32 :=
  if (lg_cmp ((x0 >>> (x2.toInt64 &&& 63)) &&& (1 : Int64)) (1 : Int64)) = 0 then (
    gX12_isIn_15 (1 : Int32)) else (
    gX12_isIn_15 (0 : Int32))
theorem lX12_isIn (h : Hp) (x0 : Int64) (x2 : Int32) : fX12_isIn h x0 x2 = gX12_isIn x0 x2 := by
  unfold fX12_isIn gX12_isIn
  simp only [lX12_isIn_15, lift_lt, lift_gO, k_bs, k_mb, k_ms, k_bm, k_mm, k_il, k_ir, lift_ite, k_id]
noncomputable def gX12_wordOf_85 (m : Mu) (s0 : Int32) : Option Int32 :=
  some (s0)
theorem lX12_wordOf_85 (a : Nat) (h : Hp) (m : Mu) (s0 : Int32) : fX12_wordOf_85 (mput a h m) s0 = gX12_wordOf_85 m s0 := by
  unfold fX12_wordOf_85 gX12_wordOf_85
  simp only [lift_lt, lift_gO, k_bs, k_mb, k_ms, k_bm, k_mm, k_il, k_ir, lift_ite, k_id]
noncomputable def gX12_wordOf_47 (m : Mu) (s0 : Int32) : Option Int32 :=
  some (s0)
theorem lX12_wordOf_47 (a : Nat) (h : Hp) (m : Mu) (s0 : Int32) : fX12_wordOf_47 (mput a h m) s0 = gX12_wordOf_47 m s0 := by
  unfold fX12_wordOf_47 gX12_wordOf_47
  simp only [lift_lt, lift_gO, k_bs, k_mb, k_ms, k_bm, k_mm, k_il, k_ir, lift_ite, k_id]
noncomputable def gX12_wordOf (m : Mu) (x1 : Int32) : Option Int32 :=
  if x1 = (13 : Int32) then (
    some ((0 : Int32))) else (
    if x1 = (6 : Int32) then (
      some ((1 : Int32))) else (
      if (m.1 15) = (1 : Int32) then (
        if x1 = (14 : Int32) then (
          gX12_wordOf_47 m (6 : Int32)) else (
          if x1 = (15 : Int32) then (
            gX12_wordOf_47 m (7 : Int32)) else (
            gX12_wordOf_47 m (-1 : Int32)))) else (
        if x1 = (2 : Int32) then (
          gX12_wordOf_85 m (2 : Int32)) else (
          if x1 = (4 : Int32) then (
            gX12_wordOf_85 m (3 : Int32)) else (
            if x1 = (1 : Int32) then (
              gX12_wordOf_85 m (4 : Int32)) else (
              if x1 = (3 : Int32) then (
                gX12_wordOf_85 m (5 : Int32)) else (
                gX12_wordOf_85 m (-1 : Int32))))))))
theorem lX12_wordOf (a : Nat) (h : Hp) (m : Mu) (x1 : Int32) : fX12_wordOf (mput a h m) a x1 = gX12_wordOf m x1 := by
  unfold fX12_wordOf gX12_wordOf
  simp only [lift_gI_15, lX12_wordOf_85, lX12_wordOf_47, lift_lt, lift_gO, k_bs, k_mb, k_ms, k_bm, k_mm, k_il, k_ir, lift_ite, k_id]
noncomputable def gX12_codes (m : Mu) (x1 : Int32) : Option Mu :=
  if (m.1 11) = 0 then (
    (mA m 4 (137 : Int32)).bind fun v1 =>
    (mW m 4 ((138 : Int32) + v1) x1).bind fun m2 =>
    (mA m2 4 (137 : Int32)).bind fun v3 =>
    (mW m2 4 (137 : Int32) (v3 + (1 : Int32))).bind fun m4 =>
    some (m4)) else (
    some (m))
theorem lX12_codes (a : Nat) (h : Hp) (m : Mu) (x1 : Int32) : fX12_codes (mput a h m) a x1 = (gX12_codes m x1).map (mput a h) := by
  unfold fX12_codes gX12_codes
  simp only [lift_gI_11, lift_gN_4, lift_aI_4, lift_wI_4, lift_lt, lift_gO, k_bs, k_mb, k_ms, k_bm, k_mm, k_il, k_ir, lift_ite, k_id]
noncomputable def gX12_goesIn_34 (m : Mu) (s0 : Int32) : Option (Int32 × Mu) :=
  bl s0 (some ((s0, m)))
theorem lX12_goesIn_34 (a : Nat) (h : Hp) (m : Mu) (s0 : Int32) : fX12_goesIn_34 (mput a h m) s0 = (gX12_goesIn_34 m s0).map (fun (y : (Int32 × Mu)) => (y.1, mput a h y.2)) := by
  unfold fX12_goesIn_34 gX12_goesIn_34
  simp only [lift_bl, lift_lt, lift_gO, k_bs, k_mb, k_ms, k_bm, k_mm, k_il, k_ir, lift_ite, k_id]
noncomputable def gX12_goesIn_22 (m : Mu)  : Option (Int32 × Mu) :=
  if (m.1 11) = 0 then (
    gX12_goesIn_34 m (1 : Int32)) else (
    gX12_goesIn_34 m (0 : Int32))
theorem lX12_goesIn_22 (a : Nat) (h : Hp) (m : Mu)  : fX12_goesIn_22 (mput a h m) a = (gX12_goesIn_22 m ).map (fun (y : (Int32 × Mu)) => (y.1, mput a h y.2)) := by
  unfold fX12_goesIn_22 gX12_goesIn_22
  simp only [lift_gI_11, lX12_goesIn_34, lift_lt, lift_gO, k_bs, k_mb, k_ms, k_bm, k_mm, k_il, k_ir, lift_ite, k_id]
noncomputable def gX12_goesIn_11 (m : Mu)  : Option (Int32 × Mu) :=
  if (m.1 11) = 0 then (
    (gX12_next m ).bind fun y1 =>
    gX12_goesIn_22 y1 ) else (
  gX12_goesIn_22 m )
theorem lX12_goesIn_11 (a : Nat) (h : Hp) (m : Mu)  : fX12_goesIn_11 (mput a h m) a = (gX12_goesIn_11 m ).map (fun (y : (Int32 × Mu)) => (y.1, mput a h y.2)) := by
  unfold fX12_goesIn_11 gX12_goesIn_11
  simp only [lift_gI_11, lX12_goesIn_22, lX12_next, lift_lt, lift_gO, k_bs, k_mb, k_ms, k_bm, k_mm, k_il, k_ir, lift_ite, k_id]
noncomputable def gX12_goesIn (m : Mu) (x1 : Int32) : Option (Int32 × Mu) :=
  if x1 = (6 : Int32) then (
    (gX12_fails m (4 : Int32)).bind fun y2 =>
    gX12_goesIn_11 y2 ) else (
  gX12_goesIn_11 m )
theorem lX12_goesIn (a : Nat) (h : Hp) (m : Mu) (x1 : Int32) : fX12_goesIn (mput a h m) a x1 = (gX12_goesIn m x1).map (fun (y : (Int32 × Mu)) => (y.1, mput a h y.2)) := by
  unfold fX12_goesIn gX12_goesIn
  simp only [lX12_goesIn_11, lX12_fails, lift_lt, lift_gO, k_bs, k_mb, k_ms, k_bm, k_mm, k_il, k_ir, lift_ite, k_id]
noncomputable def gX12_readAtom_130 (gc : Nat → Mu → Int32 → Option Mu) (m : Mu)  : Option Mu :=
  some (m)
theorem lX12_readAtom_130 (a : Nat) (h : Hp) {rc : Nat → Hp → Nat → Int32 → Option Hp} {gc : Nat → Mu → Int32 → Option Mu} (hgc : ∀ (sel : Nat) (m : Mu) (x1 : Int32), rc sel (mput a h m) a x1 = (gc sel m x1).map (mput a h)) (m : Mu)  : fX12_readAtom_130 rc (mput a h m)  = (gX12_readAtom_130 gc m ).map (mput a h) := by
  unfold fX12_readAtom_130 gX12_readAtom_130
  simp only [lift_lt, lift_gO, k_bs, k_mb, k_ms, k_bm, k_mm, k_il, k_ir, lift_ite, k_id]
noncomputable def gX12_readAtom_66 (gc : Nat → Mu → Int32 → Option Mu) (m : Mu) (x1 : Int32) : Option Mu :=
  (gX12_is m (35 : Int32)).bind fun y2 =>
  if y2 = 0 then (
    (gX12_is m (9 : Int32)).bind fun y3 =>
    if y3 = 0 then (
      (gX12_fails m (2 : Int32)).bind fun y4 =>
      gX12_readAtom_130 gc y4 ) else (
      (gc 1 m x1).bind fun y5 =>
      gX12_readAtom_130 gc y5 )) else (
    (gX12_goesIn m x1).bind fun y6 =>
    if y6.1 = 0 then (
      some (y6.2)) else (
      (gc 3 y6.2 (x1 + (1 : Int32))).bind fun y7 =>
      (gX12_eats y7 (36 : Int32)).bind fun y8 =>
      if y8.1 = 0 then (
        (gX12_fails y8.2 (2 : Int32)).bind fun y9 =>
        gX12_readAtom_130 gc y9 ) else (
      gX12_readAtom_130 gc y8.2 )))
theorem lX12_readAtom_66 (a : Nat) (h : Hp) {rc : Nat → Hp → Nat → Int32 → Option Hp} {gc : Nat → Mu → Int32 → Option Mu} (hgc : ∀ (sel : Nat) (m : Mu) (x1 : Int32), rc sel (mput a h m) a x1 = (gc sel m x1).map (mput a h)) (m : Mu) (x1 : Int32) : fX12_readAtom_66 rc (mput a h m) a x1 = (gX12_readAtom_66 gc m x1).map (mput a h) := by
  unfold fX12_readAtom_66 gX12_readAtom_66
  simp only [lX12_is, lX12_fails, lX12_readAtom_130 a h hgc, hgc, lX12_goesIn, lX12_eats, lift_lt, lift_gO, k_bs, k_mb, k_ms, k_bm, k_mm, k_il, k_ir, lift_ite, k_id]
noncomputable def gX12_readAtom (gc : Nat → Mu → Int32 → Option Mu) (m : Mu) (x1 : Int32) : Option Mu :=
  (gX12_is m (23 : Int32)).bind fun y1 =>
  if y1 = 0 then (
    if (m.1 11) = 0 then (
      (gX12_wordOf m (m.1 9)).bind fun y10 =>
      if y10 = (-1 : Int32) then (
      gX12_readAtom_66 gc m x1) else (
        (gX12_wordOf m (m.1 9)).bind fun y11 =>
        (gX12_codes m ((1000 : Int32) + y11)).bind fun y12 =>
        (gX12_next y12 ).bind fun y13 =>
        gX12_readAtom_130 gc y13 )) else (
    gX12_readAtom_66 gc m x1)) else (
    (gX12_codes m (m.1 10)).bind fun y14 =>
    (gX12_next y14 ).bind fun y15 =>
    gX12_readAtom_130 gc y15 )
theorem lX12_readAtom (a : Nat) (h : Hp) {rc : Nat → Hp → Nat → Int32 → Option Hp} {gc : Nat → Mu → Int32 → Option Mu} (hgc : ∀ (sel : Nat) (m : Mu) (x1 : Int32), rc sel (mput a h m) a x1 = (gc sel m x1).map (mput a h)) (m : Mu) (x1 : Int32) : fX12_readAtom rc (mput a h m) a x1 = (gX12_readAtom gc m x1).map (mput a h) := by
  unfold fX12_readAtom gX12_readAtom
  simp only [lX12_is, lift_gI_11, lX12_readAtom_66 a h hgc, lift_gI_9, lX12_wordOf, lX12_codes, lX12_next, lX12_readAtom_130 a h hgc, lift_gI_10, lift_lt, lift_gO, k_bs, k_mb, k_ms, k_bm, k_mm, k_il, k_ir, lift_ite, k_id]
noncomputable def gX12_readIf_72 (gc : Nat → Mu → Int32 → Option Mu) (m : Mu)  : Option Mu :=
  (gX12_codes m (3009 : Int32)).bind fun y8 =>
  some (y8)
theorem lX12_readIf_72 (a : Nat) (h : Hp) {rc : Nat → Hp → Nat → Int32 → Option Hp} {gc : Nat → Mu → Int32 → Option Mu} (hgc : ∀ (sel : Nat) (m : Mu) (x1 : Int32), rc sel (mput a h m) a x1 = (gc sel m x1).map (mput a h)) (m : Mu)  : fX12_readIf_72 rc (mput a h m) a = (gX12_readIf_72 gc m ).map (mput a h) := by
  unfold fX12_readIf_72 gX12_readIf_72
  simp only [lX12_codes, lift_lt, lift_gO, k_bs, k_mb, k_ms, k_bm, k_mm, k_il, k_ir, lift_ite, k_id]
noncomputable def gX12_readIf_51 (gc : Nat → Mu → Int32 → Option Mu) (m : Mu) (x1 : Int32) : Option Mu :=
  (gc 3 m (x1 + (1 : Int32))).bind fun y6 =>
  (gX12_eats y6 (12 : Int32)).bind fun y7 =>
  if y7.1 = 0 then (
    (gX12_fails y7.2 (2 : Int32)).bind fun y9 =>
    gX12_readIf_72 gc y9 ) else (
  gX12_readIf_72 gc y7.2 )
theorem lX12_readIf_51 (a : Nat) (h : Hp) {rc : Nat → Hp → Nat → Int32 → Option Hp} {gc : Nat → Mu → Int32 → Option Mu} (hgc : ∀ (sel : Nat) (m : Mu) (x1 : Int32), rc sel (mput a h m) a x1 = (gc sel m x1).map (mput a h)) (m : Mu) (x1 : Int32) : fX12_readIf_51 rc (mput a h m) a x1 = (gX12_readIf_51 gc m x1).map (mput a h) := by
  unfold fX12_readIf_51 gX12_readIf_51
  simp only [hgc, lX12_eats, lX12_readIf_72 a h hgc, lX12_fails, lift_lt, lift_gO, k_bs, k_mb, k_ms, k_bm, k_mm, k_il, k_ir, lift_ite, k_id]
noncomputable def gX12_readIf_30 (gc : Nat → Mu → Int32 → Option Mu) (m : Mu) (x1 : Int32) : Option Mu :=
  (gc 3 m (x1 + (1 : Int32))).bind fun y4 =>
  (gX12_eats y4 (11 : Int32)).bind fun y5 =>
  if y5.1 = 0 then (
    (gX12_fails y5.2 (2 : Int32)).bind fun y10 =>
    gX12_readIf_51 gc y10 x1) else (
  gX12_readIf_51 gc y5.2 x1)
theorem lX12_readIf_30 (a : Nat) (h : Hp) {rc : Nat → Hp → Nat → Int32 → Option Hp} {gc : Nat → Mu → Int32 → Option Mu} (hgc : ∀ (sel : Nat) (m : Mu) (x1 : Int32), rc sel (mput a h m) a x1 = (gc sel m x1).map (mput a h)) (m : Mu) (x1 : Int32) : fX12_readIf_30 rc (mput a h m) a x1 = (gX12_readIf_30 gc m x1).map (mput a h) := by
  unfold fX12_readIf_30 gX12_readIf_30
  simp only [hgc, lX12_eats, lX12_readIf_51 a h hgc, lX12_fails, lift_lt, lift_gO, k_bs, k_mb, k_ms, k_bm, k_mm, k_il, k_ir, lift_ite, k_id]
noncomputable def gX12_readIf (gc : Nat → Mu → Int32 → Option Mu) (m : Mu) (x1 : Int32) : Option Mu :=
  (gX12_goesIn m x1).bind fun y1 =>
  if y1.1 = 0 then (
    some (y1.2)) else (
    (gc 6 y1.2 (x1 + (1 : Int32))).bind fun y2 =>
    (gX12_eats y2 (10 : Int32)).bind fun y3 =>
    if y3.1 = 0 then (
      (gX12_fails y3.2 (2 : Int32)).bind fun y11 =>
      gX12_readIf_30 gc y11 x1) else (
    gX12_readIf_30 gc y3.2 x1))
theorem lX12_readIf (a : Nat) (h : Hp) {rc : Nat → Hp → Nat → Int32 → Option Hp} {gc : Nat → Mu → Int32 → Option Mu} (hgc : ∀ (sel : Nat) (m : Mu) (x1 : Int32), rc sel (mput a h m) a x1 = (gc sel m x1).map (mput a h)) (m : Mu) (x1 : Int32) : fX12_readIf rc (mput a h m) a x1 = (gX12_readIf gc m x1).map (mput a h) := by
  unfold fX12_readIf gX12_readIf
  simp only [lX12_goesIn, hgc, lX12_eats, lX12_readIf_30 a h hgc, lX12_fails, lift_lt, lift_gO, k_bs, k_mb, k_ms, k_bm, k_mm, k_il, k_ir, lift_ite, k_id]
noncomputable def gX12_readTerm_5b (gc : Nat → Mu → Int32 → Option Mu) (m : Mu) (x1 : Int32) : Option (Mu ⊕ Mu) :=
  (gX12_eats m (34 : Int32)).bind fun y2 =>
  if y2.1 = 0 then (
    some (.inr (y2.2))) else (
    (gc 0 y2.2 x1).bind fun y3 =>
    (gX12_codes y3 (3002 : Int32)).bind fun y4 =>
    some (.inl y4))
noncomputable def gX12_readTerm_5 (gc : Nat → Mu → Int32 → Option Mu) (m : Mu) (x1 : Int32) : Option Mu := lpw (σ := Mu) (fun s => gX12_readTerm_5b gc s x1 ) m
theorem lX12_readTerm_5b (a : Nat) (h : Hp) {rc : Nat → Hp → Nat → Int32 → Option Hp} {gc : Nat → Mu → Int32 → Option Mu} (hgc : ∀ (sel : Nat) (m : Mu) (x1 : Int32), rc sel (mput a h m) a x1 = (gc sel m x1).map (mput a h)) (m : Mu) (x1 : Int32) : fX12_readTerm_5b rc (mput a h m) a x1 = (gX12_readTerm_5b gc m x1).map (Sum.map (mput a h) (mput a h)) := by
  unfold fX12_readTerm_5b gX12_readTerm_5b
  simp only [lX12_eats, hgc, lX12_codes, lift_lt, lift_gO, k_bs, k_mb, k_ms, k_bm, k_mm, k_il, k_ir, lift_ite, k_id]
theorem lX12_readTerm_5 (a : Nat) (h : Hp) {rc : Nat → Hp → Nat → Int32 → Option Hp} {gc : Nat → Mu → Int32 → Option Mu} (hgc : ∀ (sel : Nat) (m : Mu) (x1 : Int32), rc sel (mput a h m) a x1 = (gc sel m x1).map (mput a h)) (m : Mu) (x1 : Int32) : fX12_readTerm_5 rc (mput a h m) a x1 = (gX12_readTerm_5 gc m x1).map (mput a h) := by
  unfold fX12_readTerm_5 gX12_readTerm_5
  exact lpw_map _ _ (mput a h) (mput a h) (fun s => lX12_readTerm_5b a h hgc s x1) m
noncomputable def gX12_readTerm (gc : Nat → Mu → Int32 → Option Mu) (m : Mu) (x1 : Int32) : Option Mu :=
  (gc 0 m x1).bind fun y1 =>
  gX12_readTerm_5 gc y1 x1
theorem lX12_readTerm (a : Nat) (h : Hp) {rc : Nat → Hp → Nat → Int32 → Option Hp} {gc : Nat → Mu → Int32 → Option Mu} (hgc : ∀ (sel : Nat) (m : Mu) (x1 : Int32), rc sel (mput a h m) a x1 = (gc sel m x1).map (mput a h)) (m : Mu) (x1 : Int32) : fX12_readTerm rc (mput a h m) a x1 = (gX12_readTerm gc m x1).map (mput a h) := by
  unfold fX12_readTerm gX12_readTerm
  simp only [hgc, lX12_readTerm_5 a h hgc, lift_lt, lift_gO, k_bs, k_mb, k_ms, k_bm, k_mm, k_il, k_ir, lift_ite, k_id]
noncomputable def gX12_readSum_41 (gc : Nat → Mu → Int32 → Option Mu) (m : Mu) (x1 : Int32) (s0 : Int32) : Option (Mu ⊕ Mu) :=
  (gX12_next m ).bind fun y3 =>
  (gc 2 y3 x1).bind fun y4 =>
  (gX12_codes y4 s0).bind fun y5 =>
  some (.inl y5)
theorem lX12_readSum_41 (a : Nat) (h : Hp) {rc : Nat → Hp → Nat → Int32 → Option Hp} {gc : Nat → Mu → Int32 → Option Mu} (hgc : ∀ (sel : Nat) (m : Mu) (x1 : Int32), rc sel (mput a h m) a x1 = (gc sel m x1).map (mput a h)) (m : Mu) (x1 : Int32) (s0 : Int32) : fX12_readSum_41 rc (mput a h m) a x1 s0 = (gX12_readSum_41 gc m x1 s0).map (Sum.map (mput a h) (mput a h)) := by
  unfold fX12_readSum_41 gX12_readSum_41
  simp only [lX12_next, hgc, lX12_codes, lift_lt, lift_gO, k_bs, k_mb, k_ms, k_bm, k_mm, k_il, k_ir, lift_ite, k_id]
noncomputable def gX12_readSum_23 (gc : Nat → Mu → Int32 → Option Mu) (m : Mu) (x1 : Int32) : Option (Mu ⊕ Mu) :=
  if (m.1 9) = (32 : Int32) then (
    gX12_readSum_41 gc m x1 (3000 : Int32)) else (
    gX12_readSum_41 gc m x1 (3001 : Int32))
theorem lX12_readSum_23 (a : Nat) (h : Hp) {rc : Nat → Hp → Nat → Int32 → Option Hp} {gc : Nat → Mu → Int32 → Option Mu} (hgc : ∀ (sel : Nat) (m : Mu) (x1 : Int32), rc sel (mput a h m) a x1 = (gc sel m x1).map (mput a h)) (m : Mu) (x1 : Int32) : fX12_readSum_23 rc (mput a h m) a x1 = (gX12_readSum_23 gc m x1).map (Sum.map (mput a h) (mput a h)) := by
  unfold fX12_readSum_23 gX12_readSum_23
  simp only [lift_gI_9, lX12_readSum_41 a h hgc, lift_lt, lift_gO, k_bs, k_mb, k_ms, k_bm, k_mm, k_il, k_ir, lift_ite, k_id]
noncomputable def gX12_readSum_5b (gc : Nat → Mu → Int32 → Option Mu) (m : Mu) (x1 : Int32) : Option (Mu ⊕ Mu) :=
  (gX12_is m (32 : Int32)).bind fun y2 =>
  if y2 = 0 then (
    (gX12_is m (33 : Int32)).bind fun y6 =>
    if y6 = 0 then (
      some (.inr m)) else (
    gX12_readSum_23 gc m x1)) else (
  gX12_readSum_23 gc m x1)
noncomputable def gX12_readSum_5 (gc : Nat → Mu → Int32 → Option Mu) (m : Mu) (x1 : Int32) : Option Mu := lpw (σ := Mu) (fun s => gX12_readSum_5b gc s x1 ) m
theorem lX12_readSum_5b (a : Nat) (h : Hp) {rc : Nat → Hp → Nat → Int32 → Option Hp} {gc : Nat → Mu → Int32 → Option Mu} (hgc : ∀ (sel : Nat) (m : Mu) (x1 : Int32), rc sel (mput a h m) a x1 = (gc sel m x1).map (mput a h)) (m : Mu) (x1 : Int32) : fX12_readSum_5b rc (mput a h m) a x1 = (gX12_readSum_5b gc m x1).map (Sum.map (mput a h) (mput a h)) := by
  unfold fX12_readSum_5b gX12_readSum_5b
  simp only [lX12_is, lX12_readSum_23 a h hgc, lift_lt, lift_gO, k_bs, k_mb, k_ms, k_bm, k_mm, k_il, k_ir, lift_ite, k_id]
theorem lX12_readSum_5 (a : Nat) (h : Hp) {rc : Nat → Hp → Nat → Int32 → Option Hp} {gc : Nat → Mu → Int32 → Option Mu} (hgc : ∀ (sel : Nat) (m : Mu) (x1 : Int32), rc sel (mput a h m) a x1 = (gc sel m x1).map (mput a h)) (m : Mu) (x1 : Int32) : fX12_readSum_5 rc (mput a h m) a x1 = (gX12_readSum_5 gc m x1).map (mput a h) := by
  unfold fX12_readSum_5 gX12_readSum_5
  exact lpw_map _ _ (mput a h) (mput a h) (fun s => lX12_readSum_5b a h hgc s x1) m
noncomputable def gX12_readSum (gc : Nat → Mu → Int32 → Option Mu) (m : Mu) (x1 : Int32) : Option Mu :=
  (gc 2 m x1).bind fun y1 =>
  gX12_readSum_5 gc y1 x1
theorem lX12_readSum (a : Nat) (h : Hp) {rc : Nat → Hp → Nat → Int32 → Option Hp} {gc : Nat → Mu → Int32 → Option Mu} (hgc : ∀ (sel : Nat) (m : Mu) (x1 : Int32), rc sel (mput a h m) a x1 = (gc sel m x1).map (mput a h)) (m : Mu) (x1 : Int32) : fX12_readSum rc (mput a h m) a x1 = (gX12_readSum gc m x1).map (mput a h) := by
  unfold fX12_readSum gX12_readSum
  simp only [hgc, lX12_readSum_5 a h hgc, lift_lt, lift_gO, k_bs, k_mb, k_ms, k_bm, k_mm, k_il, k_ir, lift_ite, k_id]
noncomputable def gX12_readUnit_151 (gc : Nat → Mu → Int32 → Option Mu) (m : Mu) (x1 : Int32) (x2 : Int32) : Option Mu :=
  (gc 3 m x1).bind fun y8 =>
  (gX12_codes y8 x2).bind fun y9 =>
  some (y9)
theorem lX12_readUnit_151 (a : Nat) (h : Hp) {rc : Nat → Hp → Nat → Int32 → Option Hp} {gc : Nat → Mu → Int32 → Option Mu} (hgc : ∀ (sel : Nat) (m : Mu) (x1 : Int32), rc sel (mput a h m) a x1 = (gc sel m x1).map (mput a h)) (m : Mu) (x1 : Int32) (x2 : Int32) : fX12_readUnit_151 rc (mput a h m) a x1 x2 = (gX12_readUnit_151 gc m x1 x2).map (mput a h) := by
  unfold fX12_readUnit_151 gX12_readUnit_151
  simp only [hgc, lX12_codes, lift_lt, lift_gO, k_bs, k_mb, k_ms, k_bm, k_mm, k_il, k_ir, lift_ite, k_id]
noncomputable def gX12_readUnit_139 (gc : Nat → Mu → Int32 → Option Mu) (m : Mu) (x1 : Int32) (x2 : Int32) : Option Mu :=
  (gX12_next m ).bind fun y7 =>
  gX12_readUnit_151 gc y7 x1 x2
theorem lX12_readUnit_139 (a : Nat) (h : Hp) {rc : Nat → Hp → Nat → Int32 → Option Hp} {gc : Nat → Mu → Int32 → Option Mu} (hgc : ∀ (sel : Nat) (m : Mu) (x1 : Int32), rc sel (mput a h m) a x1 = (gc sel m x1).map (mput a h)) (m : Mu) (x1 : Int32) (x2 : Int32) : fX12_readUnit_139 rc (mput a h m) a x1 x2 = (gX12_readUnit_139 gc m x1 x2).map (mput a h) := by
  unfold fX12_readUnit_139 gX12_readUnit_139
  simp only [lX12_next, lX12_readUnit_151 a h hgc, lift_lt, lift_gO, k_bs, k_mb, k_ms, k_bm, k_mm, k_il, k_ir, lift_ite, k_id]
noncomputable def gX12_readUnit_111 (gc : Nat → Mu → Int32 → Option Mu) (m : Mu) (x1 : Int32) (s0 : Int32) : Option Mu :=
  (gX12_is m (39 : Int32)).bind fun y6 =>
  if y6 = 0 then (
    (gX12_is m (40 : Int32)).bind fun y10 =>
    if y10 = 0 then (
      (gX12_is m (41 : Int32)).bind fun y11 =>
      if y11 = 0 then (
        (gX12_fails m (2 : Int32)).bind fun y12 =>
        gX12_readUnit_151 gc y12 x1 s0) else (
      gX12_readUnit_139 gc m x1 s0)) else (
    gX12_readUnit_139 gc m x1 s0)) else (
  gX12_readUnit_139 gc m x1 s0)
theorem lX12_readUnit_111 (a : Nat) (h : Hp) {rc : Nat → Hp → Nat → Int32 → Option Hp} {gc : Nat → Mu → Int32 → Option Mu} (hgc : ∀ (sel : Nat) (m : Mu) (x1 : Int32), rc sel (mput a h m) a x1 = (gc sel m x1).map (mput a h)) (m : Mu) (x1 : Int32) (s0 : Int32) : fX12_readUnit_111 rc (mput a h m) a x1 s0 = (gX12_readUnit_111 gc m x1 s0).map (mput a h) := by
  unfold fX12_readUnit_111 gX12_readUnit_111
  simp only [lX12_is, lX12_readUnit_139 a h hgc, lX12_fails, lX12_readUnit_151 a h hgc, lift_lt, lift_gO, k_bs, k_mb, k_ms, k_bm, k_mm, k_il, k_ir, lift_ite, k_id]
noncomputable def gX12_readUnit_72 (gc : Nat → Mu → Int32 → Option Mu) (m : Mu)  : Option Mu :=
  some (m)
theorem lX12_readUnit_72 (a : Nat) (h : Hp) {rc : Nat → Hp → Nat → Int32 → Option Hp} {gc : Nat → Mu → Int32 → Option Mu} (hgc : ∀ (sel : Nat) (m : Mu) (x1 : Int32), rc sel (mput a h m) a x1 = (gc sel m x1).map (mput a h)) (m : Mu)  : fX12_readUnit_72 rc (mput a h m)  = (gX12_readUnit_72 gc m ).map (mput a h) := by
  unfold fX12_readUnit_72 gX12_readUnit_72
  simp only [lift_lt, lift_gO, k_bs, k_mb, k_ms, k_bm, k_mm, k_il, k_ir, lift_ite, k_id]
noncomputable def gX12_readUnit (gc : Nat → Mu → Int32 → Option Mu) (m : Mu) (x1 : Int32) : Option Mu :=
  (gX12_is m (18 : Int32)).bind fun y1 =>
  if y1 = 0 then (
    (gX12_is m (37 : Int32)).bind fun y2 =>
    if y2 = 0 then (
      (gc 3 m x1).bind fun y3 =>
      (gX12_is y3 (39 : Int32)).bind fun y4 =>
      if y4 = 0 then (
        (gX12_is y3 (40 : Int32)).bind fun y5 =>
        if y5 = 0 then (
          gX12_readUnit_111 gc y3 x1 (3005 : Int32)) else (
          gX12_readUnit_111 gc y3 x1 (3004 : Int32))) else (
        gX12_readUnit_111 gc y3 x1 (3003 : Int32))) else (
      (gX12_goesIn m x1).bind fun y13 =>
      if y13.1 = 0 then (
        some (y13.2)) else (
        (gc 6 y13.2 (x1 + (1 : Int32))).bind fun y14 =>
        (gX12_eats y14 (38 : Int32)).bind fun y15 =>
        if y15.1 = 0 then (
          (gX12_fails y15.2 (2 : Int32)).bind fun y16 =>
          gX12_readUnit_72 gc y16 ) else (
        gX12_readUnit_72 gc y15.2 )))) else (
    (gX12_goesIn m x1).bind fun y17 =>
    if y17.1 = 0 then (
      some (y17.2)) else (
      (gc 4 y17.2 (x1 + (1 : Int32))).bind fun y18 =>
      (gX12_codes y18 (3006 : Int32)).bind fun y19 =>
      some (y19)))
theorem lX12_readUnit (a : Nat) (h : Hp) {rc : Nat → Hp → Nat → Int32 → Option Hp} {gc : Nat → Mu → Int32 → Option Mu} (hgc : ∀ (sel : Nat) (m : Mu) (x1 : Int32), rc sel (mput a h m) a x1 = (gc sel m x1).map (mput a h)) (m : Mu) (x1 : Int32) : fX12_readUnit rc (mput a h m) a x1 = (gX12_readUnit gc m x1).map (mput a h) := by
  unfold fX12_readUnit gX12_readUnit
  simp only [lX12_is, hgc, lX12_readUnit_111 a h hgc, lX12_goesIn, lX12_eats, lX12_readUnit_72 a h hgc, lX12_fails, lX12_codes, lift_lt, lift_gO, k_bs, k_mb, k_ms, k_bm, k_mm, k_il, k_ir, lift_ite, k_id]
noncomputable def gX12_readBoth_5b (gc : Nat → Mu → Int32 → Option Mu) (m : Mu) (x1 : Int32) : Option (Mu ⊕ Mu) :=
  (gX12_eats m (16 : Int32)).bind fun y2 =>
  if y2.1 = 0 then (
    some (.inr (y2.2))) else (
    (gc 4 y2.2 x1).bind fun y3 =>
    (gX12_codes y3 (3007 : Int32)).bind fun y4 =>
    some (.inl y4))
noncomputable def gX12_readBoth_5 (gc : Nat → Mu → Int32 → Option Mu) (m : Mu) (x1 : Int32) : Option Mu := lpw (σ := Mu) (fun s => gX12_readBoth_5b gc s x1 ) m
theorem lX12_readBoth_5b (a : Nat) (h : Hp) {rc : Nat → Hp → Nat → Int32 → Option Hp} {gc : Nat → Mu → Int32 → Option Mu} (hgc : ∀ (sel : Nat) (m : Mu) (x1 : Int32), rc sel (mput a h m) a x1 = (gc sel m x1).map (mput a h)) (m : Mu) (x1 : Int32) : fX12_readBoth_5b rc (mput a h m) a x1 = (gX12_readBoth_5b gc m x1).map (Sum.map (mput a h) (mput a h)) := by
  unfold fX12_readBoth_5b gX12_readBoth_5b
  simp only [lX12_eats, hgc, lX12_codes, lift_lt, lift_gO, k_bs, k_mb, k_ms, k_bm, k_mm, k_il, k_ir, lift_ite, k_id]
theorem lX12_readBoth_5 (a : Nat) (h : Hp) {rc : Nat → Hp → Nat → Int32 → Option Hp} {gc : Nat → Mu → Int32 → Option Mu} (hgc : ∀ (sel : Nat) (m : Mu) (x1 : Int32), rc sel (mput a h m) a x1 = (gc sel m x1).map (mput a h)) (m : Mu) (x1 : Int32) : fX12_readBoth_5 rc (mput a h m) a x1 = (gX12_readBoth_5 gc m x1).map (mput a h) := by
  unfold fX12_readBoth_5 gX12_readBoth_5
  exact lpw_map _ _ (mput a h) (mput a h) (fun s => lX12_readBoth_5b a h hgc s x1) m
noncomputable def gX12_readBoth (gc : Nat → Mu → Int32 → Option Mu) (m : Mu) (x1 : Int32) : Option Mu :=
  (gc 4 m x1).bind fun y1 =>
  gX12_readBoth_5 gc y1 x1
theorem lX12_readBoth (a : Nat) (h : Hp) {rc : Nat → Hp → Nat → Int32 → Option Hp} {gc : Nat → Mu → Int32 → Option Mu} (hgc : ∀ (sel : Nat) (m : Mu) (x1 : Int32), rc sel (mput a h m) a x1 = (gc sel m x1).map (mput a h)) (m : Mu) (x1 : Int32) : fX12_readBoth rc (mput a h m) a x1 = (gX12_readBoth gc m x1).map (mput a h) := by
  unfold fX12_readBoth gX12_readBoth
  simp only [hgc, lX12_readBoth_5 a h hgc, lift_lt, lift_gO, k_bs, k_mb, k_ms, k_bm, k_mm, k_il, k_ir, lift_ite, k_id]
noncomputable def gX12_readTruth_5b (gc : Nat → Mu → Int32 → Option Mu) (m : Mu) (x1 : Int32) : Option (Mu ⊕ Mu) :=
  (gX12_eats m (17 : Int32)).bind fun y2 =>
  if y2.1 = 0 then (
    some (.inr (y2.2))) else (
    (gc 5 y2.2 x1).bind fun y3 =>
    (gX12_codes y3 (3008 : Int32)).bind fun y4 =>
    some (.inl y4))
noncomputable def gX12_readTruth_5 (gc : Nat → Mu → Int32 → Option Mu) (m : Mu) (x1 : Int32) : Option Mu := lpw (σ := Mu) (fun s => gX12_readTruth_5b gc s x1 ) m
theorem lX12_readTruth_5b (a : Nat) (h : Hp) {rc : Nat → Hp → Nat → Int32 → Option Hp} {gc : Nat → Mu → Int32 → Option Mu} (hgc : ∀ (sel : Nat) (m : Mu) (x1 : Int32), rc sel (mput a h m) a x1 = (gc sel m x1).map (mput a h)) (m : Mu) (x1 : Int32) : fX12_readTruth_5b rc (mput a h m) a x1 = (gX12_readTruth_5b gc m x1).map (Sum.map (mput a h) (mput a h)) := by
  unfold fX12_readTruth_5b gX12_readTruth_5b
  simp only [lX12_eats, hgc, lX12_codes, lift_lt, lift_gO, k_bs, k_mb, k_ms, k_bm, k_mm, k_il, k_ir, lift_ite, k_id]
theorem lX12_readTruth_5 (a : Nat) (h : Hp) {rc : Nat → Hp → Nat → Int32 → Option Hp} {gc : Nat → Mu → Int32 → Option Mu} (hgc : ∀ (sel : Nat) (m : Mu) (x1 : Int32), rc sel (mput a h m) a x1 = (gc sel m x1).map (mput a h)) (m : Mu) (x1 : Int32) : fX12_readTruth_5 rc (mput a h m) a x1 = (gX12_readTruth_5 gc m x1).map (mput a h) := by
  unfold fX12_readTruth_5 gX12_readTruth_5
  exact lpw_map _ _ (mput a h) (mput a h) (fun s => lX12_readTruth_5b a h hgc s x1) m
noncomputable def gX12_readTruth (gc : Nat → Mu → Int32 → Option Mu) (m : Mu) (x1 : Int32) : Option Mu :=
  (gc 5 m x1).bind fun y1 =>
  gX12_readTruth_5 gc y1 x1
theorem lX12_readTruth (a : Nat) (h : Hp) {rc : Nat → Hp → Nat → Int32 → Option Hp} {gc : Nat → Mu → Int32 → Option Mu} (hgc : ∀ (sel : Nat) (m : Mu) (x1 : Int32), rc sel (mput a h m) a x1 = (gc sel m x1).map (mput a h)) (m : Mu) (x1 : Int32) : fX12_readTruth rc (mput a h m) a x1 = (gX12_readTruth gc m x1).map (mput a h) := by
  unfold fX12_readTruth gX12_readTruth
  simp only [hgc, lX12_readTruth_5 a h hgc, lift_lt, lift_gO, k_bs, k_mb, k_ms, k_bm, k_mm, k_il, k_ir, lift_ite, k_id]
noncomputable def grX12_readAtom : Nat → Nat → Mu → Int32 → Option Mu
  | 0, _, _, _ => none
  | n + 1, sel, m, x1 => if sel = 0 then gX12_readAtom (grX12_readAtom n) m x1 else if sel = 1 then gX12_readIf (grX12_readAtom n) m x1 else if sel = 2 then gX12_readTerm (grX12_readAtom n) m x1 else if sel = 3 then gX12_readSum (grX12_readAtom n) m x1 else if sel = 4 then gX12_readUnit (grX12_readAtom n) m x1 else if sel = 5 then gX12_readBoth (grX12_readAtom n) m x1 else gX12_readTruth (grX12_readAtom n) m x1
theorem lrX12_readAtom (a : Nat) (h : Hp) : ∀ (n sel : Nat) (m : Mu) (x1 : Int32), rX12_readAtom n sel (mput a h m) a x1 = (grX12_readAtom n sel m x1).map (mput a h)
  | 0, sel, m, x1 => rfl
  | n + 1, sel, m, x1 => by
    have ih := lrX12_readAtom a h n
    simp only [rX12_readAtom, grX12_readAtom]
    by_cases c0 : sel = 0
    · rw [if_pos c0, if_pos c0]
      exact lX12_readAtom a h ih m x1
    · rw [if_neg c0, if_neg c0]
      by_cases c1 : sel = 1
      · rw [if_pos c1, if_pos c1]
        exact lX12_readIf a h ih m x1
      · rw [if_neg c1, if_neg c1]
        by_cases c2 : sel = 2
        · rw [if_pos c2, if_pos c2]
          exact lX12_readTerm a h ih m x1
        · rw [if_neg c2, if_neg c2]
          by_cases c3 : sel = 3
          · rw [if_pos c3, if_pos c3]
            exact lX12_readSum a h ih m x1
          · rw [if_neg c3, if_neg c3]
            by_cases c4 : sel = 4
            · rw [if_pos c4, if_pos c4]
              exact lX12_readUnit a h ih m x1
            · rw [if_neg c4, if_neg c4]
              by_cases c5 : sel = 5
              · rw [if_pos c5, if_pos c5]
                exact lX12_readBoth a h ih m x1
              · rw [if_neg c5, if_neg c5]
                exact lX12_readTruth a h ih m x1
