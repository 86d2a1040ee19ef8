/-! the reference over its own numbers -/
noncomputable def gX12_readPair_134 (m : Mu)  : Option Mu :=
  some (m)
theorem lX12_readPair_134 (a : Nat) (h : Hp) (m : Mu)  : fX12_readPair_134 (mput a h m)  = (gX12_readPair_134 m ).map (mput a h) := by
  unfold fX12_readPair_134 gX12_readPair_134
  simp only [lift_lt, lift_gO, k_bs, k_mb, k_ms, k_bm, k_mm, k_il, k_ir, lift_ite, k_id]
noncomputable def gX12_readPair_117 (m : Mu)  : Option Mu :=
  if (m.1 11) = 0 then (
    (mA m 4 (1 : Int32)).bind fun v8 =>
    (mW m 4 (1 : Int32) (v8 + (1 : Int32))).bind fun m9 =>
    gX12_readPair_134 m9 ) else (
  gX12_readPair_134 m )
theorem lX12_readPair_117 (a : Nat) (h : Hp) (m : Mu)  : fX12_readPair_117 (mput a h m) a = (gX12_readPair_117 m ).map (mput a h) := by
  unfold fX12_readPair_117 gX12_readPair_117
  simp only [lift_gI_11, lX12_readPair_134, lift_gN_4, lift_aI_4, lift_wI_4, lift_lt, lift_gO, k_bs, k_mb, k_ms, k_bm, k_mm, k_il, k_ir, lift_ite, k_id]
noncomputable def gX12_readPair_83b (m : Mu) (x1 : Int32) : Option (Mu ⊕ Mu) :=
  if (m.1 11) = 0 then (
    (gX12_eats m (4 : Int32)).bind fun y10 =>
    if y10.1 = 0 then (
    (gX12_readPair_117 y10.2 ).map (fun q => .inr q)) else (
      (gX12_takes y10.2 (0 : Int32) (9 : Int32)).bind fun y11 =>
      (mW y11.2 4 ((19 : Int32) + x1) y11.1).bind fun m12 =>
      some (.inl m12))) else (
  (gX12_readPair_117 m ).map (fun q => .inr q))
noncomputable def gX12_readPair_83 (m : Mu) (x1 : Int32) : Option Mu := lpw (σ := Mu) (fun s => gX12_readPair_83b s x1 ) m
theorem lX12_readPair_83b (a : Nat) (h : Hp) (m : Mu) (x1 : Int32) : fX12_readPair_83b (mput a h m) a x1 = (gX12_readPair_83b m x1).map (Sum.map (mput a h) (mput a h)) := by
  unfold fX12_readPair_83b gX12_readPair_83b
  simp only [lift_gI_11, lX12_readPair_117, lX12_eats, lift_gN_4, lX12_takes, lift_wI_4, lift_lt, lift_gO, k_bs, k_mb, k_ms, k_bm, k_mm, k_il, k_ir, lift_ite, k_id]
theorem lX12_readPair_83 (a : Nat) (h : Hp) (m : Mu) (x1 : Int32) : fX12_readPair_83 (mput a h m) a x1 = (gX12_readPair_83 m x1).map (mput a h) := by
  unfold fX12_readPair_83 gX12_readPair_83
  exact lpw_map _ _ (mput a h) (mput a h) (fun s => lX12_readPair_83b a h s x1) m
noncomputable def gX12_readPair_57 (m : Mu) (x1 : Int32) : Option Mu :=
  (gX12_takes m (0 : Int32) (9 : Int32)).bind fun y5 =>
  (mW y5.2 4 ((11 : Int32) + x1) y5.1).bind fun m6 =>
  (mW m6 4 ((19 : Int32) + x1) (1 : Int32)).bind fun m7 =>
  gX12_readPair_83 m7 x1
theorem lX12_readPair_57 (a : Nat) (h : Hp) (m : Mu) (x1 : Int32) : fX12_readPair_57 (mput a h m) a x1 = (gX12_readPair_57 m x1).map (mput a h) := by
  unfold fX12_readPair_57 gX12_readPair_57
  simp only [lift_gN_4, lX12_takes, lift_wI_4, lX12_readPair_83, lift_lt, lift_gO, k_bs, k_mb, k_ms, k_bm, k_mm, k_il, k_ir, lift_ite, k_id]
noncomputable def gX12_readPair_32 (m : Mu) (x1 : Int32) : Option Mu :=
  if (m.1 11) = 0 then (
    (gX12_next m ).bind fun y3 =>
    (gX12_eats y3 (3 : Int32)).bind fun y4 =>
    if y4.1 = 0 then (
      (gX12_fails y4.2 (2 : Int32)).bind fun y13 =>
      gX12_readPair_57 y13 x1) else (
    gX12_readPair_57 y4.2 x1)) else (
    some (m))
theorem lX12_readPair_32 (a : Nat) (h : Hp) (m : Mu) (x1 : Int32) : fX12_readPair_32 (mput a h m) a x1 = (gX12_readPair_32 m x1).map (mput a h) := by
  unfold fX12_readPair_32 gX12_readPair_32
  simp only [lift_gI_11, lX12_next, lX12_eats, lX12_readPair_57, lX12_fails, lift_lt, lift_gO, k_bs, k_mb, k_ms, k_bm, k_mm, k_il, k_ir, lift_ite, k_id]
noncomputable def gX12_readPair_22 (m : Mu) (x1 : Int32) : Option Mu :=
  if x1 = (4 : Int32) then (
    (gX12_fails m (4 : Int32)).bind fun y14 =>
    gX12_readPair_32 y14 x1) else (
  gX12_readPair_32 m x1)
theorem lX12_readPair_22 (a : Nat) (h : Hp) (m : Mu) (x1 : Int32) : fX12_readPair_22 (mput a h m) a x1 = (gX12_readPair_22 m x1).map (mput a h) := by
  unfold fX12_readPair_22 gX12_readPair_22
  simp only [lX12_readPair_32, lX12_fails, lift_lt, lift_gO, k_bs, k_mb, k_ms, k_bm, k_mm, k_il, k_ir, lift_ite, k_id]
noncomputable def gX12_readPair (m : Mu)  : Option Mu :=
  (mA m 4 (1 : Int32)).bind fun v1 =>
  (mA m 4 (3 : Int32)).bind fun v2 =>
  if v2 = (1 : Int32) then (
    (gX12_fails m (2 : Int32)).bind fun y15 =>
    gX12_readPair_22 y15 v1) else (
  gX12_readPair_22 m v1)
theorem lX12_readPair (a : Nat) (h : Hp) (m : Mu)  : fX12_readPair (mput a h m) a = (gX12_readPair m ).map (mput a h) := by
  unfold fX12_readPair gX12_readPair
  simp only [lift_gN_4, lift_aI_4, lX12_readPair_22, lX12_fails, lift_lt, lift_gO, k_bs, k_mb, k_ms, k_bm, k_mm, k_il, k_ir, lift_ite, k_id]
noncomputable def gX12_readLead_105 (m : Mu) (x2 : Int32) : Option Mu :=
  if (m.1 11) = 0 then (
    (mW m 4 (23 : Int32) x2).bind fun m5 =>
    (mW m5 4 (3 : Int32) (1 : Int32)).bind fun m6 =>
    some (m6)) else (
    some (m))
theorem lX12_readLead_105 (a : Nat) (h : Hp) (m : Mu) (x2 : Int32) : fX12_readLead_105 (mput a h m) a x2 = (gX12_readLead_105 m x2).map (mput a h) := by
  unfold fX12_readLead_105 gX12_readLead_105
  simp only [lift_gI_11, lift_gN_4, lift_wI_4, lift_lt, lift_gO, k_bs, k_mb, k_ms, k_bm, k_mm, k_il, k_ir, lift_ite, k_id]
noncomputable def gX12_readLead_77 (m : Mu) (x1 : Int32) (x2 : Int32) (x3 : Int32) (x4 : Int32) (s1 : Int32) : Option ((Int32 × Int32 × Int32 × Int32 × Mu) ⊕ Mu) :=
  (gX12_takes m s1 x1).bind fun y8 =>
  some (.inl ((x1 - y8.1), (x2 + (x3 * y8.1)), (x3 * (5 : Int32)), (x4 + Int32.ofInt 1), y8.2))
theorem lX12_readLead_77 (a : Nat) (h : Hp) (m : Mu) (x1 : Int32) (x2 : Int32) (x3 : Int32) (x4 : Int32) (s1 : Int32) : fX12_readLead_77 (mput a h m) a x1 x2 x3 x4 a s1 = (gX12_readLead_77 m x1 x2 x3 x4 s1).map (Sum.map (fun (s : (Int32 × Int32 × Int32 × Int32 × Mu)) => (s.1, s.2.1, s.2.2.1, s.2.2.2.1, mput a h s.2.2.2.2)) (mput a h)) := by
  unfold fX12_readLead_77 gX12_readLead_77
  simp only [lX12_takes, lift_lt, lift_gO, k_bs, k_mb, k_ms, k_bm, k_mm, k_il, k_ir, lift_ite, k_id]
noncomputable def gX12_readLead_40b (m : Mu) (x1 : Int32) (x2 : Int32) (x3 : Int32) (x4 : Int32) : Option ((Int32 × Int32 × Int32 × Int32 × Mu) ⊕ Mu) :=
  (mA m 4 (1 : Int32)).bind fun v4 =>
  if v4 ≤ x4 then (
  (gX12_readLead_105 m x2).map (fun q => .inr q)) else (
    if (m.1 11) = 0 then (
      (mA m 4 (1 : Int32)).bind fun v7 =>
      if x4 = (v7 - (1 : Int32)) then (
        gX12_readLead_77 m x1 x2 x3 x4 x1) else (
        gX12_readLead_77 m x1 x2 x3 x4 (0 : Int32))) else (
    (gX12_readLead_105 m x2).map (fun q => .inr q)))
noncomputable def gX12_readLead_40 (m : Mu) (x1 : Int32) (x2 : Int32) (x3 : Int32) (x4 : Int32) : Option Mu := lpw (σ := (Int32 × Int32 × Int32 × Int32 × Mu)) (fun s => gX12_readLead_40b s.2.2.2.2  s.1 s.2.1 s.2.2.1 s.2.2.2.1) (x1, x2, x3, x4, m)
theorem lX12_readLead_40b (a : Nat) (h : Hp) (m : Mu) (x1 : Int32) (x2 : Int32) (x3 : Int32) (x4 : Int32) : fX12_readLead_40b (mput a h m) a x1 x2 x3 x4 = (gX12_readLead_40b m x1 x2 x3 x4).map (Sum.map (fun (s : (Int32 × Int32 × Int32 × Int32 × Mu)) => (s.1, s.2.1, s.2.2.1, s.2.2.2.1, mput a h s.2.2.2.2)) (mput a h)) := by
  unfold fX12_readLead_40b gX12_readLead_40b
  simp only [lift_gN_4, lift_aI_4, lX12_readLead_105, lift_gI_11, lX12_readLead_77, lift_lt, lift_gO, k_bs, k_mb, k_ms, k_bm, k_mm, k_il, k_ir, lift_ite, k_id]
theorem lX12_readLead_40 (a : Nat) (h : Hp) (m : Mu) (x1 : Int32) (x2 : Int32) (x3 : Int32) (x4 : Int32) : fX12_readLead_40 (mput a h m) a x1 x2 x3 x4 = (gX12_readLead_40 m x1 x2 x3 x4).map (mput a h) := by
  unfold fX12_readLead_40 gX12_readLead_40
  exact lpw_map _ _ (fun (s : (Int32 × Int32 × Int32 × Int32 × Mu)) => (s.1, s.2.1, s.2.2.1, s.2.2.2.1, mput a h s.2.2.2.2)) (mput a h) (fun s => lX12_readLead_40b a h s.2.2.2.2 s.1 s.2.1 s.2.2.1 s.2.2.2.1) (x1, x2, x3, x4, m)
noncomputable def gX12_readLead_14 (m : Mu)  : Option Mu :=
  if (m.1 11) = 0 then (
    (gX12_next m ).bind fun y2 =>
    (mA y2 4 (2 : Int32)).bind fun v3 =>
    gX12_readLead_40 y2 v3 (0 : Int32) (1 : Int32) (0 : Int32)) else (
    some (m))
theorem lX12_readLead_14 (a : Nat) (h : Hp) (m : Mu)  : fX12_readLead_14 (mput a h m) a = (gX12_readLead_14 m ).map (mput a h) := by
  unfold fX12_readLead_14 gX12_readLead_14
  simp only [lift_gI_11, lX12_next, lift_gN_4, lift_aI_4, lX12_readLead_40, lift_lt, lift_gO, k_bs, k_mb, k_ms, k_bm, k_mm, k_il, k_ir, lift_ite, k_id]
noncomputable def gX12_readLead (m : Mu)  : Option Mu :=
  (mA m 4 (1 : Int32)).bind fun v1 =>
  if v1 = 0 then (
    (gX12_fails m (2 : Int32)).bind fun y9 =>
    gX12_readLead_14 y9 ) else (
  gX12_readLead_14 m )
theorem lX12_readLead (a : Nat) (h : Hp) (m : Mu)  : fX12_readLead (mput a h m) a = (gX12_readLead m ).map (mput a h) := by
  unfold fX12_readLead gX12_readLead
  simp only [lift_gN_4, lift_aI_4, lX12_readLead_14, lX12_fails, lift_lt, lift_gO, k_bs, k_mb, k_ms, k_bm, k_mm, k_il, k_ir, lift_ite, k_id]
noncomputable def gX12_readLaw_49 (m : Mu) (x1 : Int32) (x2 : Int32) : Option Mu :=
  if (m.1 11) = 0 then (
    (mW m 4 ((5 : Int32) + x1) (1 : Int32)).bind fun m6 =>
    (mW m6 4 ((7 : Int32) + x1) x2).bind fun m7 =>
    (mA m7 4 (137 : Int32)).bind fun v8 =>
    (mW m7 4 ((9 : Int32) + x1) (v8 - x2)).bind fun m9 =>
    some (m9)) else (
    some (m))
theorem lX12_readLaw_49 (a : Nat) (h : Hp) (m : Mu) (x1 : Int32) (x2 : Int32) : fX12_readLaw_49 (mput a h m) a x1 x2 = (gX12_readLaw_49 m x1 x2).map (mput a h) := by
  unfold fX12_readLaw_49 gX12_readLaw_49
  simp only [lift_gI_11, lift_gN_4, lift_wI_4, lift_aI_4, lift_lt, lift_gO, k_bs, k_mb, k_ms, k_bm, k_mm, k_il, k_ir, lift_ite, k_id]
noncomputable def gX12_readLaw_18 (m : Mu) (x1 : Int32) : Option Mu :=
  (mA m 4 (137 : Int32)).bind fun v3 =>
  lt (mI m 15 x1) fun m4 =>
  if x1 = 0 then (
    (grX12_readAtom 100 3 m4 (0 : Int32)).bind fun y10 =>
    gX12_readLaw_49 y10 x1 v3) else (
    (grX12_readAtom 100 6 m4 (0 : Int32)).bind fun y5 =>
    gX12_readLaw_49 y5 x1 v3)
theorem lX12_readLaw_18 (a : Nat) (h : Hp) (m : Mu) (x1 : Int32) : fX12_readLaw_18 (mput a h m) a x1 = (gX12_readLaw_18 m x1).map (mput a h) := by
  unfold fX12_readLaw_18 gX12_readLaw_18
  simp only [lift_gN_4, lift_aI_4, lift_sV_15, lrX12_readAtom, lX12_readLaw_49, lift_lt, lift_gO, k_bs, k_mb, k_ms, k_bm, k_mm, k_il, k_ir, lift_ite, k_id]
noncomputable def gX12_readLaw (m : Mu) (x1 : Int32) : Option Mu :=
  (gX12_next m ).bind fun y1 =>
  (gX12_eats y1 (31 : Int32)).bind fun y2 =>
  if y2.1 = 0 then (
    (gX12_fails y2.2 (2 : Int32)).bind fun y11 =>
    gX12_readLaw_18 y11 x1) else (
  gX12_readLaw_18 y2.2 x1)
theorem lX12_readLaw (a : Nat) (h : Hp) (m : Mu) (x1 : Int32) : fX12_readLaw (mput a h m) a x1 = (gX12_readLaw m x1).map (mput a h) := by
  unfold fX12_readLaw gX12_readLaw
  simp only [lX12_next, lX12_eats, lX12_readLaw_18, lX12_fails, lift_lt, lift_gO, k_bs, k_mb, k_ms, k_bm, k_mm, k_il, k_ir, lift_ite, k_id]
noncomputable def gX12_readLine_100 (m : Mu)  : Option Mu :=
  some (m)
theorem lX12_readLine_100 (a : Nat) (h : Hp) (m : Mu)  : fX12_readLine_100 (mput a h m)  = (gX12_readLine_100 m ).map (mput a h) := by
  unfold fX12_readLine_100 gX12_readLine_100
  simp only [lift_lt, lift_gO, k_bs, k_mb, k_ms, k_bm, k_mm, k_il, k_ir, lift_ite, k_id]
noncomputable def gX12_readLine_81 (m : Mu)  : Option Mu :=
  (gX12_readLaw m ((m.1 9) - (7 : Int32))).bind fun y5 =>
  gX12_readLine_100 y5 
theorem lX12_readLine_81 (a : Nat) (h : Hp) (m : Mu)  : fX12_readLine_81 (mput a h m) a = (gX12_readLine_81 m ).map (mput a h) := by
  unfold fX12_readLine_81 gX12_readLine_81
  simp only [lift_gI_9, lX12_readLaw, lX12_readLine_100, lift_lt, lift_gO, k_bs, k_mb, k_ms, k_bm, k_mm, k_il, k_ir, lift_ite, k_id]
noncomputable def gX12_readLine (m : Mu)  : Option Mu :=
  if (m.1 11) = 0 then (
    (gX12_is m (2 : Int32)).bind fun y1 =>
    if y1 = 0 then (
      (gX12_is m (5 : Int32)).bind fun y2 =>
      if y2 = 0 then (
        (gX12_eats m (6 : Int32)).bind fun y3 =>
        if y3.1 = 0 then (
          (gX12_is y3.2 (7 : Int32)).bind fun y4 =>
          if y4 = 0 then (
            (gX12_is y3.2 (8 : Int32)).bind fun y6 =>
            if y6 = 0 then (
              (gX12_fails y3.2 (2 : Int32)).bind fun y7 =>
              gX12_readLine_100 y7 ) else (
            gX12_readLine_81 y3.2 )) else (
          gX12_readLine_81 y3.2 )) else (
          (gX12_takes y3.2 (0 : Int32) (10 : Int32)).bind fun y8 =>
          (mW y8.2 4 (4 : Int32) y8.1).bind fun m9 =>
          gX12_readLine_100 m9 )) else (
        (gX12_readLead m ).bind fun y10 =>
        gX12_readLine_100 y10 )) else (
      (gX12_readPair m ).bind fun y11 =>
      gX12_readLine_100 y11 )) else (
    some (m))
theorem lX12_readLine (a : Nat) (h : Hp) (m : Mu)  : fX12_readLine (mput a h m) a = (gX12_readLine m ).map (mput a h) := by
  unfold fX12_readLine gX12_readLine
  simp only [lift_gI_11, lX12_is, lX12_eats, lX12_readLine_81, lX12_fails, lX12_readLine_100, lift_gN_4, lX12_takes, lift_wI_4, lX12_readLead, lX12_readPair, lift_lt, lift_gO, k_bs, k_mb, k_ms, k_bm, k_mm, k_il, k_ir, lift_ite, k_id]
noncomputable def gX12_ends_14 (m : Mu)  : Option Mu :=
  (mA m 4 (0 : Int32)).bind fun v2 =>
  (mW m 4 (0 : Int32) (v2 + (1 : Int32))).bind fun m3 =>
  some (m3)
theorem lX12_ends_14 (a : Nat) (h : Hp) (m : Mu)  : fX12_ends_14 (mput a h m) a = (gX12_ends_14 m ).map (mput a h) := by
  unfold fX12_ends_14 gX12_ends_14
  simp only [lift_gN_4, lift_aI_4, lift_wI_4, lift_lt, lift_gO, k_bs, k_mb, k_ms, k_bm, k_mm, k_il, k_ir, lift_ite, k_id]
noncomputable def gX12_ends (m : Mu)  : Option Mu :=
  (gX12_eats m (30 : Int32)).bind fun y1 =>
  if y1.1 = 0 then (
    (gX12_fails y1.2 (2 : Int32)).bind fun y4 =>
    gX12_ends_14 y4 ) else (
  gX12_ends_14 y1.2 )
theorem lX12_ends (a : Nat) (h : Hp) (m : Mu)  : fX12_ends (mput a h m) a = (gX12_ends m ).map (mput a h) := by
  unfold fX12_ends gX12_ends
  simp only [lX12_eats, lX12_ends_14, lX12_fails, lift_lt, lift_gO, k_bs, k_mb, k_ms, k_bm, k_mm, k_il, k_ir, lift_ite, k_id]
noncomputable def gX12_cave_253 (m : Mu)  : Option (Int32 × Mu) :=
  (mA m 1 (0 : Int32)).bind fun v17 =>
  some ((v17, m))
theorem lX12_cave_253 (a : Nat) (h : Hp) (m : Mu)  : fX12_cave_253 (mput a h m) a = (gX12_cave_253 m ).map (fun (y : (Int32 × Mu)) => (y.1, mput a h y.2)) := by
  unfold fX12_cave_253 gX12_cave_253
  simp only [lift_gN_1, lift_aI_1, lift_lt, lift_gO, k_bs, k_mb, k_ms, k_bm, k_mm, k_il, k_ir, lift_ite, k_id]
noncomputable def gX12_cave_222 (m : Mu)  : Option (Int32 × Mu) :=
  (mA m 1 (3 : Int32)).bind fun v16 =>
  if v16 = 0 then (
    (mA m 1 (1 : Int32)).bind fun v18 =>
    if v18 ≤ 0 then (
    gX12_cave_253 m ) else (
      (mA m 1 (2 : Int32)).bind fun v19 =>
      (mW m 1 (23 : Int32) v19).bind fun m20 =>
      gX12_cave_253 m20 )) else (
  gX12_cave_253 m )
theorem lX12_cave_222 (a : Nat) (h : Hp) (m : Mu)  : fX12_cave_222 (mput a h m) a = (gX12_cave_222 m ).map (fun (y : (Int32 × Mu)) => (y.1, mput a h y.2)) := by
  unfold fX12_cave_222 gX12_cave_222
  simp only [lift_gN_1, lift_aI_1, lX12_cave_253, lift_wI_1, lift_lt, lift_gO, k_bs, k_mb, k_ms, k_bm, k_mm, k_il, k_ir, lift_ite, k_id]
noncomputable def gX12_cave_193b (m : Mu) (x2 : Int32) : Option ((Int32 × Mu) ⊕ (Int32 × Mu)) :=
  if (4 : Int32) ≤ x2 then (
  (gX12_cave_222 m ).map (fun q => .inr q)) else (
    (mA m 1 ((11 : Int32) + x2)).bind fun v21 =>
    (mW m 1 ((15 : Int32) + x2) v21).bind fun m22 =>
    some (.inl ((x2 + Int32.ofInt 1), m22)))
noncomputable def gX12_cave_193 (m : Mu) (x2 : Int32) : Option (Int32 × Mu) := lpw (σ := (Int32 × Mu)) (fun s => gX12_cave_193b s.2  s.1) (x2, m)
theorem lX12_cave_193b (a : Nat) (h : Hp) (m : Mu) (x2 : Int32) : fX12_cave_193b (mput a h m) a x2 = (gX12_cave_193b m x2).map (Sum.map (fun (s : (Int32 × Mu)) => (s.1, mput a h s.2)) (fun (y : (Int32 × Mu)) => (y.1, mput a h y.2))) := by
  unfold fX12_cave_193b gX12_cave_193b
  simp only [lX12_cave_222, lift_gN_1, lift_aI_1, lift_wI_1, lift_lt, lift_gO, k_bs, k_mb, k_ms, k_bm, k_mm, k_il, k_ir, lift_ite, k_id]
theorem lX12_cave_193 (a : Nat) (h : Hp) (m : Mu) (x2 : Int32) : fX12_cave_193 (mput a h m) a x2 = (gX12_cave_193 m x2).map (fun (y : (Int32 × Mu)) => (y.1, mput a h y.2)) := by
  unfold fX12_cave_193 gX12_cave_193
  exact lpw_map _ _ (fun (s : (Int32 × Mu)) => (s.1, mput a h s.2)) (fun (y : (Int32 × Mu)) => (y.1, mput a h y.2)) (fun s => lX12_cave_193b a h s.2 s.1) (x2, m)
noncomputable def gX12_cave_191 (m : Mu)  : Option (Int32 × Mu) :=
  gX12_cave_193 m (0 : Int32)
theorem lX12_cave_191 (a : Nat) (h : Hp) (m : Mu)  : fX12_cave_191 (mput a h m) a = (gX12_cave_191 m ).map (fun (y : (Int32 × Mu)) => (y.1, mput a h y.2)) := by
  unfold fX12_cave_191 gX12_cave_191
  simp only [lX12_cave_193, lift_lt, lift_gO, k_bs, k_mb, k_ms, k_bm, k_mm, k_il, k_ir, lift_ite, k_id]
noncomputable def gX12_cave_166b (m : Mu) (x2 : Int32) : Option ((Int32 × Mu) ⊕ (Int32 × Mu)) :=
  if (1038 : Int32) ≤ x2 then (
  (gX12_cave_191 m ).map (fun q => .inr q)) else (
    (mA m 4 x2).bind fun v23 =>
    (mW m 1 x2 v23).bind fun m24 =>
    some (.inl ((x2 + Int32.ofInt 1), m24)))
noncomputable def gX12_cave_166 (m : Mu) (x2 : Int32) : Option (Int32 × Mu) := lpw (σ := (Int32 × Mu)) (fun s => gX12_cave_166b s.2  s.1) (x2, m)
theorem lX12_cave_166b (a : Nat) (h : Hp) (m : Mu) (x2 : Int32) : fX12_cave_166b (mput a h m) a x2 = (gX12_cave_166b m x2).map (Sum.map (fun (s : (Int32 × Mu)) => (s.1, mput a h s.2)) (fun (y : (Int32 × Mu)) => (y.1, mput a h y.2))) := by
  unfold fX12_cave_166b gX12_cave_166b
  simp only [lX12_cave_191, lift_gN_1, lift_gN_4, lift_aI_4, lift_wI_1, lift_lt, lift_gO, k_bs, k_mb, k_ms, k_bm, k_mm, k_il, k_ir, lift_ite, k_id]
theorem lX12_cave_166 (a : Nat) (h : Hp) (m : Mu) (x2 : Int32) : fX12_cave_166 (mput a h m) a x2 = (gX12_cave_166 m x2).map (fun (y : (Int32 × Mu)) => (y.1, mput a h y.2)) := by
  unfold fX12_cave_166 gX12_cave_166
  exact lpw_map _ _ (fun (s : (Int32 × Mu)) => (s.1, mput a h s.2)) (fun (y : (Int32 × Mu)) => (y.1, mput a h y.2)) (fun s => lX12_cave_166b a h s.2 s.1) (x2, m)
noncomputable def gX12_cave_146 (m : Mu) (s1 : Int32) : Option (Int32 × Mu) :=
  lt (mI m 14 s1) fun m15 =>
  if (m15.1 11) = 0 then (
    gX12_cave_166 m15 (0 : Int32)) else (
    some ((((-30 : Int32) - (m15.1 11)), m15)))
theorem lX12_cave_146 (a : Nat) (h : Hp) (m : Mu) (s1 : Int32) : fX12_cave_146 (mput a h m) a a s1 = (gX12_cave_146 m s1).map (fun (y : (Int32 × Mu)) => (y.1, mput a h y.2)) := by
  unfold fX12_cave_146 gX12_cave_146
  simp only [lift_sV_14, lift_gI_11, lX12_cave_166, lift_lt, lift_gO, k_bs, k_mb, k_ms, k_bm, k_mm, k_il, k_ir, lift_ite, k_id]
noncomputable def gX12_cave_122 (m : Mu)  : Option (Int32 × Mu) :=
  lt (mI m 13 (m.1 11)) fun m14 =>
  if (m14.1 11) = 0 then (
    gX12_cave_146 m14 (-1 : Int32)) else (
    gX12_cave_146 m14 (m14.1 12))
theorem lX12_cave_122 (a : Nat) (h : Hp) (m : Mu)  : fX12_cave_122 (mput a h m) a = (gX12_cave_122 m ).map (fun (y : (Int32 × Mu)) => (y.1, mput a h y.2)) := by
  unfold fX12_cave_122 gX12_cave_122
  simp only [lift_gI_11, lift_sV_13, lift_gI_12, lX12_cave_146, lift_lt, lift_gO, k_bs, k_mb, k_ms, k_bm, k_mm, k_il, k_ir, lift_ite, k_id]
noncomputable def gX12_cave_95b (m : Mu)  : Option (Mu ⊕ (Int32 × Mu)) :=
  if (m.1 11) = 0 then (
    if (m.1 9) = (24 : Int32) then (
    (gX12_cave_122 m ).map (fun q => .inr q)) else (
      (gX12_readLine m ).bind fun y25 =>
      (gX12_ends y25 ).bind fun y26 =>
      some (.inl y26))) else (
  (gX12_cave_122 m ).map (fun q => .inr q))
noncomputable def gX12_cave_95 (m : Mu)  : Option (Int32 × Mu) := lpw (σ := Mu) (fun s => gX12_cave_95b s  ) m
theorem lX12_cave_95b (a : Nat) (h : Hp) (m : Mu)  : fX12_cave_95b (mput a h m) a = (gX12_cave_95b m ).map (Sum.map (mput a h) (fun (y : (Int32 × Mu)) => (y.1, mput a h y.2))) := by
  unfold fX12_cave_95b gX12_cave_95b
  simp only [lift_gI_11, lX12_cave_122, lift_gI_9, lX12_readLine, lX12_ends, lift_lt, lift_gO, k_bs, k_mb, k_ms, k_bm, k_mm, k_il, k_ir, lift_ite, k_id]
theorem lX12_cave_95 (a : Nat) (h : Hp) (m : Mu)  : fX12_cave_95 (mput a h m) a = (gX12_cave_95 m ).map (fun (y : (Int32 × Mu)) => (y.1, mput a h y.2)) := by
  unfold fX12_cave_95 gX12_cave_95
  exact lpw_map _ _ (mput a h) (fun (y : (Int32 × Mu)) => (y.1, mput a h y.2)) (fun s => lX12_cave_95b a h s ) m
noncomputable def gX12_cave_79 (m : Mu)  : Option (Int32 × Mu) :=
  (gX12_takes m (0 : Int32) (4 : Int32)).bind fun y11 =>
  (mW y11.2 4 (2 : Int32) y11.1).bind fun m12 =>
  (gX12_ends m12 ).bind fun y13 =>
  gX12_cave_95 y13 
theorem lX12_cave_79 (a : Nat) (h : Hp) (m : Mu)  : fX12_cave_79 (mput a h m) a = (gX12_cave_79 m ).map (fun (y : (Int32 × Mu)) => (y.1, mput a h y.2)) := by
  unfold fX12_cave_79 gX12_cave_79
  simp only [lift_gN_4, lX12_takes, lift_wI_4, lX12_ends, lX12_cave_95, lift_lt, lift_gO, k_bs, k_mb, k_ms, k_bm, k_mm, k_il, k_ir, lift_ite, k_id]
noncomputable def gX12_cave_66 (m : Mu)  : Option (Int32 × Mu) :=
  (gX12_eats m (1 : Int32)).bind fun y10 =>
  if y10.1 = 0 then (
    (gX12_fails y10.2 (2 : Int32)).bind fun y27 =>
    gX12_cave_79 y27 ) else (
  gX12_cave_79 y10.2 )
theorem lX12_cave_66 (a : Nat) (h : Hp) (m : Mu)  : fX12_cave_66 (mput a h m) a = (gX12_cave_66 m ).map (fun (y : (Int32 × Mu)) => (y.1, mput a h y.2)) := by
  unfold fX12_cave_66 gX12_cave_66
  simp only [lX12_eats, lX12_cave_79, lX12_fails, lift_lt, lift_gO, k_bs, k_mb, k_ms, k_bm, k_mm, k_il, k_ir, lift_ite, k_id]
noncomputable def gX12_cave (m : Mu) (x1 : Int32) : Option (Int32 × Mu) :=
  lt (mI m 0 (0 : Int32)) fun m1 =>
  (gX12_within (x1.toInt64) (0 : Int64) ((m1.1 5).toInt64)).bind fun y2 =>
  if y2 = 0 then (
    some (((-3 : Int32), m1))) else (
    lt (mI m1 8 x1) fun m3 =>
    lt (mI m3 5 (0 : Int32)) fun m4 =>
    lt (mI m4 7 (0 : Int32)) fun m5 =>
    lt (mI m5 11 (0 : Int32)) fun m6 =>
    (gX12_plain m6 4).bind fun y7 =>
    (gX12_next y7 ).bind fun y8 =>
    (gX12_eats y8 (0 : Int32)).bind fun y9 =>
    if y9.1 = 0 then (
      (gX12_fails y9.2 (2 : Int32)).bind fun y28 =>
      gX12_cave_66 y28 ) else (
    gX12_cave_66 y9.2 ))
theorem lX12_cave (a : Nat) (h : Hp) (m : Mu) (x1 : Int32) : fX12_cave (mput a h m) a x1 = (gX12_cave m x1).map (fun (y : (Int32 × Mu)) => (y.1, mput a h y.2)) := by
  unfold fX12_cave gX12_cave
  simp only [lift_sV_0, lift_gI_5, lX12_within, lift_sV_8, lift_sV_5, lift_sV_7, lift_sV_11, lift_gN_4, (fun a h m => lX12_plain a h m 1 (by decide)), (fun a h m => lX12_plain a h m 4 (by decide)), lX12_next, lX12_eats, lX12_cave_66, lX12_fails, lift_lt, lift_gO, k_bs, k_mb, k_ms, k_bm, k_mm, k_il, k_ir, lift_ite, k_id]
noncomputable def gX12_fault_29 (m : Mu) (s0 : Int32) : Option (Int32 × Mu) :=
  some ((s0, m))
theorem lX12_fault_29 (a : Nat) (h : Hp) (m : Mu) (s0 : Int32) : fX12_fault_29 (mput a h m) s0 = (gX12_fault_29 m s0).map (fun (y : (Int32 × Mu)) => (y.1, mput a h y.2)) := by
  unfold fX12_fault_29 gX12_fault_29
  simp only [lift_lt, lift_gO, k_bs, k_mb, k_ms, k_bm, k_mm, k_il, k_ir, lift_ite, k_id]
noncomputable def gX12_fault (m : Mu) (x1 : Int32) : Option (Int32 × Mu) :=
  lt (mI m 0 (0 : Int32)) fun m1 =>
  if x1 = 0 then (
    gX12_fault_29 m1 (m1.1 13)) else (
    if x1 = (1 : Int32) then (
      gX12_fault_29 m1 (m1.1 14)) else (
      gX12_fault_29 m1 (-1 : Int32)))
theorem lX12_fault (a : Nat) (h : Hp) (m : Mu) (x1 : Int32) : fX12_fault (mput a h m) a x1 = (gX12_fault m x1).map (fun (y : (Int32 × Mu)) => (y.1, mput a h y.2)) := by
  unfold fX12_fault gX12_fault
  simp only [lift_sV_0, lX12_fault_29, lift_gI_14, lift_gI_13, lift_lt, lift_gO, k_bs, k_mb, k_ms, k_bm, k_mm, k_il, k_ir, lift_ite, k_id]
noncomputable def gX12_isPair (m : Mu) (x1 : Int64) : Option Int32 :=
  (mA m 1 (1 : Int32)).bind fun v1 =>
  (gX12_within x1 (0 : Int64) ((v1 - (1 : Int32)).toInt64)).bind fun y2 =>
  bl y2 (some (y2))
theorem lX12_isPair (a : Nat) (h : Hp) (m : Mu) (x1 : Int64) : fX12_isPair (mput a h m) a x1 = gX12_isPair m x1 := by
  unfold fX12_isPair gX12_isPair
  simp only [lift_gN_1, lift_aI_1, lX12_within, lift_bl, lift_lt, lift_gO, k_bs, k_mb, k_ms, k_bm, k_mm, k_il, k_ir, lift_ite, k_id]
noncomputable def gX12_isSet_21 (m : Mu) (s0 : Int32) : Option Int32 :=
  bl s0 (some (s0))
theorem lX12_isSet_21 (a : Nat) (h : Hp) (m : Mu) (s0 : Int32) : fX12_isSet_21 (mput a h m) s0 = gX12_isSet_21 m s0 := by
  unfold fX12_isSet_21 gX12_isSet_21
  simp only [lift_bl, lift_lt, lift_gO, k_bs, k_mb, k_ms, k_bm, k_mm, k_il, k_ir, lift_ite, k_id]
noncomputable def gX12_isSet_20 (m : Mu)  : Option Int32 :=
  gX12_isSet_21 m (0 : Int32)
theorem lX12_isSet_20 (a : Nat) (h : Hp) (m : Mu)  : fX12_isSet_20 (mput a h m)  = gX12_isSet_20 m  := by
  unfold fX12_isSet_20 gX12_isSet_20
  simp only [lX12_isSet_21, lift_lt, lift_gO, k_bs, k_mb, k_ms, k_bm, k_mm, k_il, k_ir, lift_ite, k_id]
noncomputable def gX12_isSet (m : Mu) (x1 : Int32) : Option Int32 :=
  if x1 < 0 then (
  gX12_isSet_20 m ) else (
    (mA m 1 (1 : Int32)).bind fun v1 =>
    if ((1 : Int32) <<< (v1 &&& 31)) ≤ x1 then (
    gX12_isSet_20 m ) else (
      gX12_isSet_21 m (1 : Int32)))
theorem lX12_isSet (a : Nat) (h : Hp) (m : Mu) (x1 : Int32) : fX12_isSet (mput a h m) a x1 = gX12_isSet m x1 := by
  unfold fX12_isSet gX12_isSet
  simp only [lX12_isSet_20, lift_gN_1, lift_aI_1, lX12_isSet_21, lift_lt, lift_gO, k_bs, k_mb, k_ms, k_bm, k_mm, k_il, k_ir, lift_ite, k_id]
noncomputable def gX12_isDry (x0 : Int64) : Option Int32 :=
  (gX12_within x0 (0 : Int64) (1 : Int64)).bind fun y1 =>
  bl y1 (some (y1))
theorem lX12_isDry (h : Hp) (x0 : Int64) : fX12_isDry h x0 = gX12_isDry x0 := by
  unfold fX12_isDry gX12_isDry
  simp only [lX12_within, lift_bl, lift_lt, lift_gO, k_bs, k_mb, k_ms, k_bm, k_mm, k_il, k_ir, lift_ite, k_id]
noncomputable def gX12_bitsOf_4b (x0 : Int32) (x1 : Int32) (x2 : Int32) : Option ((Int32 × Int32) ⊕ Int32) :=
  if (10 : Int32) ≤ x2 then (
    some (.inr x1)) else (
    some (.inl ((x1 + ((x0 >>> (x2 &&& 31)) &&& (1 : Int32))), (x2 + Int32.ofInt 1))))
noncomputable def gX12_bitsOf_4 (x0 : Int32) (x1 : Int32) (x2 : Int32) : Option Int32 := lpw (σ := (Int32 × Int32)) (fun s => gX12_bitsOf_4b x0 s.1 s.2) (x1, x2)
theorem lX12_bitsOf_4b (h : Hp) (x0 : Int32) (x1 : Int32) (x2 : Int32) : fX12_bitsOf_4b h x0 x1 x2 = gX12_bitsOf_4b x0 x1 x2 := by
  unfold fX12_bitsOf_4b gX12_bitsOf_4b
  simp only [lift_lt, lift_gO, k_bs, k_mb, k_ms, k_bm, k_mm, k_il, k_ir, lift_ite, k_id]
theorem lX12_bitsOf_4 (h : Hp) (x0 : Int32) (x1 : Int32) (x2 : Int32) : fX12_bitsOf_4 h x0 x1 x2 = gX12_bitsOf_4 x0 x1 x2 := by
  unfold fX12_bitsOf_4 gX12_bitsOf_4
  refine congrArg (fun b => lpw b _) (funext (fun s => ?_))
  exact lX12_bitsOf_4b h x0 s.1 s.2
noncomputable def gX12_bitsOf (x0 : Int32) : Option Int32 :=
  gX12_bitsOf_4 x0 (0 : Int32) (0 : Int32)
theorem lX12_bitsOf (h : Hp) (x0 : Int32) : fX12_bitsOf h x0 = gX12_bitsOf x0 := by
  unfold fX12_bitsOf gX12_bitsOf
  simp only [lX12_bitsOf_4, lift_lt, lift_gO, k_bs, k_mb, k_ms, k_bm, k_mm, k_il, k_ir, lift_ite, k_id]
noncomputable def gX12_gapIn_4b (x1 : Int32) (x2 : Int32) (x3 : Int32) : Option ((Int32 × Int32) ⊕ Int32) :=
  if x1 ≤ x3 then (
    (rm x2 (10 : Int32)).bind fun v1 =>
    some (.inr v1)) else (
    (dv x2 (10 : Int32)).bind fun v2 =>
    some (.inl (v2, (x3 + Int32.ofInt 1))))
noncomputable def gX12_gapIn_4 (x1 : Int32) (x2 : Int32) (x3 : Int32) : Option Int32 := lpw (σ := (Int32 × Int32)) (fun s => gX12_gapIn_4b x1 s.1 s.2) (x2, x3)
theorem lX12_gapIn_4b (h : Hp) (x1 : Int32) (x2 : Int32) (x3 : Int32) : fX12_gapIn_4b h x1 x2 x3 = gX12_gapIn_4b x1 x2 x3 := by
  unfold fX12_gapIn_4b gX12_gapIn_4b
  simp only [lift_lt, lift_gO, k_bs, k_mb, k_ms, k_bm, k_mm, k_il, k_ir, lift_ite, k_id]
theorem lX12_gapIn_4 (h : Hp) (x1 : Int32) (x2 : Int32) (x3 : Int32) : fX12_gapIn_4 h x1 x2 x3 = gX12_gapIn_4 x1 x2 x3 := by
  unfold fX12_gapIn_4 gX12_gapIn_4
  refine congrArg (fun b => lpw b _) (funext (fun s => ?_))
  exact lX12_gapIn_4b h x1 s.1 s.2
noncomputable def gX12_gapIn (x0 : Int32) (x1 : Int32) : Option Int32 :=
  gX12_gapIn_4 x1 x0 (0 : Int32)
theorem lX12_gapIn (h : Hp) (x0 : Int32) (x1 : Int32) : fX12_gapIn h x0 x1 = gX12_gapIn x0 x1 := by
  unfold fX12_gapIn gX12_gapIn
  simp only [lX12_gapIn_4, lift_lt, lift_gO, k_bs, k_mb, k_ms, k_bm, k_mm, k_il, k_ir, lift_ite, k_id]
noncomputable def gX12_dropsIn_4b (x1 : Int32) (x2 : Int32) (x3 : Int32) : Option ((Int32 × Int32) ⊕ Int32) :=
  if x1 ≤ x3 then (
    (rm x2 (5 : Int32)).bind fun v1 =>
    some (.inr v1)) else (
    (dv x2 (5 : Int32)).bind fun v2 =>
    some (.inl (v2, (x3 + Int32.ofInt 1))))
noncomputable def gX12_dropsIn_4 (x1 : Int32) (x2 : Int32) (x3 : Int32) : Option Int32 := lpw (σ := (Int32 × Int32)) (fun s => gX12_dropsIn_4b x1 s.1 s.2) (x2, x3)
theorem lX12_dropsIn_4b (h : Hp) (x1 : Int32) (x2 : Int32) (x3 : Int32) : fX12_dropsIn_4b h x1 x2 x3 = gX12_dropsIn_4b x1 x2 x3 := by
  unfold fX12_dropsIn_4b gX12_dropsIn_4b
  simp only [lift_lt, lift_gO, k_bs, k_mb, k_ms, k_bm, k_mm, k_il, k_ir, lift_ite, k_id]
theorem lX12_dropsIn_4 (h : Hp) (x1 : Int32) (x2 : Int32) (x3 : Int32) : fX12_dropsIn_4 h x1 x2 x3 = gX12_dropsIn_4 x1 x2 x3 := by
  unfold fX12_dropsIn_4 gX12_dropsIn_4
  refine congrArg (fun b => lpw b _) (funext (fun s => ?_))
  exact lX12_dropsIn_4b h x1 s.1 s.2
noncomputable def gX12_dropsIn (x0 : Int32) (x1 : Int32) : Option Int32 :=
  gX12_dropsIn_4 x1 x0 (0 : Int32)
theorem lX12_dropsIn (h : Hp) (x0 : Int32) (x1 : Int32) : fX12_dropsIn h x0 x1 = gX12_dropsIn x0 x1 := by
  unfold fX12_dropsIn gX12_dropsIn
  simp only [lX12_dropsIn_4, lift_lt, lift_gO, k_bs, k_mb, k_ms, k_bm, k_mm, k_il, k_ir, lift_ite, k_id]
noncomputable def gX12_hasFallen_12 (s0 : Int32) : Option Int32 :=
  bl s0 (some (s0))
theorem lX12_hasFallen_12 (h : Hp) (s0 : Int32) : fX12_hasFallen_12 h s0 = gX12_hasFallen_12 s0 := by
  unfold fX12_hasFallen_12 gX12_hasFallen_12
  simp only [lift_bl, lift_lt, lift_gO, k_bs, k_mb, k_ms, k_bm, k_mm, k_il, k_ir, lift_ite, k_id]
noncomputable def gX12_hasFallen (x0 : Int32) : Option Int32 :=
  if x0 < (10000 : Int32) then (
    gX12_hasFallen_12 (0 : Int32)) else (
    gX12_hasFallen_12 (1 : Int32))
theorem lX12_hasFallen (h : Hp) (x0 : Int32) : fX12_hasFallen h x0 = gX12_hasFallen x0 := by
  unfold fX12_hasFallen gX12_hasFallen
  simp only [lX12_hasFallen_12, lift_lt, lift_gO, k_bs, k_mb, k_ms, k_bm, k_mm, k_il, k_ir, lift_ite, k_id]
noncomputable def gX12_standNow_16b (m : Mu) (x1 : Int32) (x2 : Int32) (x3 : Int32) : Option ((Int32 × Int32 × Int32) ⊕ Int32) :=
  (mA m 1 (1 : Int32)).bind fun v2 =>
  if v2 ≤ x3 then (
    some (.inr x1)) else (
    (mA m 1 ((15 : Int32) + x3)).bind fun v3 =>
    some (.inl ((x1 + (x2 * v3)), (x2 * (10 : Int32)), (x3 + Int32.ofInt 1))))
noncomputable def gX12_standNow_16 (m : Mu) (x1 : Int32) (x2 : Int32) (x3 : Int32) : Option Int32 := lpw (σ := (Int32 × Int32 × Int32)) (fun s => gX12_standNow_16b m  s.1 s.2.1 s.2.2) (x1, x2, x3)
theorem lX12_standNow_16b (a : Nat) (h : Hp) (m : Mu) (x1 : Int32) (x2 : Int32) (x3 : Int32) : fX12_standNow_16b (mput a h m) a x1 x2 x3 = gX12_standNow_16b m x1 x2 x3 := by
  unfold fX12_standNow_16b gX12_standNow_16b
  simp only [lift_gN_1, lift_aI_1, lift_lt, lift_gO, k_bs, k_mb, k_ms, k_bm, k_mm, k_il, k_ir, lift_ite, k_id]
theorem lX12_standNow_16 (a : Nat) (h : Hp) (m : Mu) (x1 : Int32) (x2 : Int32) (x3 : Int32) : fX12_standNow_16 (mput a h m) a x1 x2 x3 = gX12_standNow_16 m x1 x2 x3 := by
  unfold fX12_standNow_16 gX12_standNow_16
  refine congrArg (fun b => lpw b _) (funext (fun s => ?_))
  exact lX12_standNow_16b a h m s.1 s.2.1 s.2.2
noncomputable def gX12_standNow (m : Mu)  : Option Int32 :=
  (mA m 1 (24 : Int32)).bind fun v1 =>
  gX12_standNow_16 m (v1 * (10000 : Int32)) (1 : Int32) (0 : Int32)
theorem lX12_standNow (a : Nat) (h : Hp) (m : Mu)  : fX12_standNow (mput a h m) a = gX12_standNow m  := by
  unfold fX12_standNow gX12_standNow
  simp only [lift_gN_1, lift_aI_1, lX12_standNow_16, lift_lt, lift_gO, k_bs, k_mb, k_ms, k_bm, k_mm, k_il, k_ir, lift_ite, k_id]
noncomputable def gX12_metIn_30 (m : Mu) (x1 : Int32) (x3 : Int32) (s0 : Int32) (s1 : Int32) : Option ((Int32 × Int32) ⊕ Int32) :=
  some (.inl ((s0 ||| s1), (x3 + Int32.ofInt 1)))
theorem lX12_metIn_30 (a : Nat) (h : Hp) (m : Mu) (x1 : Int32) (x3 : Int32) (s0 : Int32) (s1 : Int32) : fX12_metIn_30 (mput a h m) a x1 x3 s0 s1 = gX12_metIn_30 m x1 x3 s0 s1 := by
  unfold fX12_metIn_30 gX12_metIn_30
  simp only [lift_lt, lift_gO, k_bs, k_mb, k_ms, k_bm, k_mm, k_il, k_ir, lift_ite, k_id]
noncomputable def gX12_metIn_4b (m : Mu) (x1 : Int32) (x2 : Int32) (x3 : Int32) : Option ((Int32 × Int32) ⊕ Int32) :=
  (mA m 1 (1 : Int32)).bind fun v1 =>
  if v1 ≤ x3 then (
    some (.inr x2)) else (
    (gX12_gapIn x1 x3).bind fun y2 =>
    if y2 = 0 then (
      gX12_metIn_30 m x1 x3 x2 ((1 : Int32) <<< (x3 &&& 31))) else (
      gX12_metIn_30 m x1 x3 x2 (0 : Int32)))
noncomputable def gX12_metIn_4 (m : Mu) (x1 : Int32) (x2 : Int32) (x3 : Int32) : Option Int32 := lpw (σ := (Int32 × Int32)) (fun s => gX12_metIn_4b m x1 s.1 s.2) (x2, x3)
theorem lX12_metIn_4b (a : Nat) (h : Hp) (m : Mu) (x1 : Int32) (x2 : Int32) (x3 : Int32) : fX12_metIn_4b (mput a h m) a x1 x2 x3 = gX12_metIn_4b m x1 x2 x3 := by
  unfold fX12_metIn_4b gX12_metIn_4b
  simp only [lift_gN_1, lift_aI_1, lX12_gapIn, lX12_metIn_30, lift_lt, lift_gO, k_bs, k_mb, k_ms, k_bm, k_mm, k_il, k_ir, lift_ite, k_id]
theorem lX12_metIn_4 (a : Nat) (h : Hp) (m : Mu) (x1 : Int32) (x2 : Int32) (x3 : Int32) : fX12_metIn_4 (mput a h m) a x1 x2 x3 = gX12_metIn_4 m x1 x2 x3 := by
  unfold fX12_metIn_4 gX12_metIn_4
  refine congrArg (fun b => lpw b _) (funext (fun s => ?_))
  exact lX12_metIn_4b a h m x1 s.1 s.2
noncomputable def gX12_metIn (m : Mu) (x1 : Int32) : Option Int32 :=
  gX12_metIn_4 m x1 (0 : Int32) (0 : Int32)
theorem lX12_metIn (a : Nat) (h : Hp) (m : Mu) (x1 : Int32) : fX12_metIn (mput a h m) a x1 = gX12_metIn m x1 := by
  unfold fX12_metIn gX12_metIn
  simp only [lX12_metIn_4, lift_lt, lift_gO, k_bs, k_mb, k_ms, k_bm, k_mm, k_il, k_ir, lift_ite, k_id]
noncomputable def gX12_gapsIn_4b (m : Mu) (x1 : Int32) (x2 : Int32) (x3 : Int32) : Option ((Int32 × Int32) ⊕ Int32) :=
  (mA m 1 (1 : Int32)).bind fun v1 =>
  if v1 ≤ x3 then (
    some (.inr x2)) else (
    (gX12_gapIn x1 x3).bind fun y2 =>
    some (.inl ((x2 + y2), (x3 + Int32.ofInt 1))))
noncomputable def gX12_gapsIn_4 (m : Mu) (x1 : Int32) (x2 : Int32) (x3 : Int32) : Option Int32 := lpw (σ := (Int32 × Int32)) (fun s => gX12_gapsIn_4b m x1 s.1 s.2) (x2, x3)
theorem lX12_gapsIn_4b (a : Nat) (h : Hp) (m : Mu) (x1 : Int32) (x2 : Int32) (x3 : Int32) : fX12_gapsIn_4b (mput a h m) a x1 x2 x3 = gX12_gapsIn_4b m x1 x2 x3 := by
  unfold fX12_gapsIn_4b gX12_gapsIn_4b
  simp only [lift_gN_1, lift_aI_1, lX12_gapIn, lift_lt, lift_gO, k_bs, k_mb, k_ms, k_bm, k_mm, k_il, k_ir, lift_ite, k_id]
theorem lX12_gapsIn_4 (a : Nat) (h : Hp) (m : Mu) (x1 : Int32) (x2 : Int32) (x3 : Int32) : fX12_gapsIn_4 (mput a h m) a x1 x2 x3 = gX12_gapsIn_4 m x1 x2 x3 := by
  unfold fX12_gapsIn_4 gX12_gapsIn_4
  refine congrArg (fun b => lpw b _) (funext (fun s => ?_))
  exact lX12_gapsIn_4b a h m x1 s.1 s.2
noncomputable def gX12_gapsIn (m : Mu) (x1 : Int32) : Option Int32 :=
  gX12_gapsIn_4 m x1 (0 : Int32) (0 : Int32)
theorem lX12_gapsIn (a : Nat) (h : Hp) (m : Mu) (x1 : Int32) : fX12_gapsIn (mput a h m) a x1 = gX12_gapsIn m x1 := by
  unfold fX12_gapsIn gX12_gapsIn
  simp only [lX12_gapsIn_4, lift_lt, lift_gO, k_bs, k_mb, k_ms, k_bm, k_mm, k_il, k_ir, lift_ite, k_id]
noncomputable def gX12_widestIn_32 (m : Mu) (x1 : Int32) (x3 : Int32) (s0 : Int32) : Option ((Int32 × Int32) ⊕ Int32) :=
  some (.inl (s0, (x3 + Int32.ofInt 1)))
theorem lX12_widestIn_32 (a : Nat) (h : Hp) (m : Mu) (x1 : Int32) (x3 : Int32) (s0 : Int32) : fX12_widestIn_32 (mput a h m) a x1 x3 s0 = gX12_widestIn_32 m x1 x3 s0 := by
  unfold fX12_widestIn_32 gX12_widestIn_32
  simp only [lift_lt, lift_gO, k_bs, k_mb, k_ms, k_bm, k_mm, k_il, k_ir, lift_ite, k_id]
noncomputable def gX12_widestIn_4b (m : Mu) (x1 : Int32) (x2 : Int32) (x3 : Int32) : Option ((Int32 × Int32) ⊕ Int32) :=
  (mA m 1 (1 : Int32)).bind fun v1 =>
  if v1 ≤ x3 then (
    some (.inr x2)) else (
    (gX12_gapIn x1 x3).bind fun y2 =>
    if y2 ≤ x2 then (
      gX12_widestIn_32 m x1 x3 x2) else (
      (gX12_gapIn x1 x3).bind fun y3 =>
      gX12_widestIn_32 m x1 x3 y3))
noncomputable def gX12_widestIn_4 (m : Mu) (x1 : Int32) (x2 : Int32) (x3 : Int32) : Option Int32 := lpw (σ := (Int32 × Int32)) (fun s => gX12_widestIn_4b m x1 s.1 s.2) (x2, x3)
theorem lX12_widestIn_4b (a : Nat) (h : Hp) (m : Mu) (x1 : Int32) (x2 : Int32) (x3 : Int32) : fX12_widestIn_4b (mput a h m) a x1 x2 x3 = gX12_widestIn_4b m x1 x2 x3 := by
  unfold fX12_widestIn_4b gX12_widestIn_4b
  simp only [lift_gN_1, lift_aI_1, lX12_gapIn, lX12_widestIn_32, lift_lt, lift_gO, k_bs, k_mb, k_ms, k_bm, k_mm, k_il, k_ir, lift_ite, k_id]
theorem lX12_widestIn_4 (a : Nat) (h : Hp) (m : Mu) (x1 : Int32) (x2 : Int32) (x3 : Int32) : fX12_widestIn_4 (mput a h m) a x1 x2 x3 = gX12_widestIn_4 m x1 x2 x3 := by
  unfold fX12_widestIn_4 gX12_widestIn_4
  refine congrArg (fun b => lpw b _) (funext (fun s => ?_))
  exact lX12_widestIn_4b a h m x1 s.1 s.2
noncomputable def gX12_widestIn (m : Mu) (x1 : Int32) : Option Int32 :=
  gX12_widestIn_4 m x1 (0 : Int32) (0 : Int32)
theorem lX12_widestIn (a : Nat) (h : Hp) (m : Mu) (x1 : Int32) : fX12_widestIn (mput a h m) a x1 = gX12_widestIn m x1 := by
  unfold fX12_widestIn gX12_widestIn
  simp only [lX12_widestIn_4, lift_lt, lift_gO, k_bs, k_mb, k_ms, k_bm, k_mm, k_il, k_ir, lift_ite, k_id]
noncomputable def gX12_isLead_14 (m : Mu)  : Option Int32 :=
  some ((0 : Int32))
theorem lX12_isLead_14 (a : Nat) (h : Hp) (m : Mu)  : fX12_isLead_14 (mput a h m)  = gX12_isLead_14 m  := by
  unfold fX12_isLead_14 gX12_isLead_14
  simp only [lift_lt, lift_gO, k_bs, k_mb, k_ms, k_bm, k_mm, k_il, k_ir, lift_ite, k_id]
noncomputable def gX12_isLead_84 (m : Mu) (s0 : Int32) : Option Int32 :=
  bl s0 (some (s0))
theorem lX12_isLead_84 (a : Nat) (h : Hp) (m : Mu) (s0 : Int32) : fX12_isLead_84 (mput a h m) s0 = gX12_isLead_84 m s0 := by
  unfold fX12_isLead_84 gX12_isLead_84
  simp only [lift_bl, lift_lt, lift_gO, k_bs, k_mb, k_ms, k_bm, k_mm, k_il, k_ir, lift_ite, k_id]
noncomputable def gX12_isLead_83 (m : Mu)  : Option Int32 :=
  gX12_isLead_84 m (0 : Int32)
theorem lX12_isLead_83 (a : Nat) (h : Hp) (m : Mu)  : fX12_isLead_83 (mput a h m)  = gX12_isLead_83 m  := by
  unfold fX12_isLead_83 gX12_isLead_83
  simp only [lX12_isLead_84, lift_lt, lift_gO, k_bs, k_mb, k_ms, k_bm, k_mm, k_il, k_ir, lift_ite, k_id]
noncomputable def gX12_isLead_79 (m : Mu)  : Option Int32 :=
  gX12_isLead_84 m (1 : Int32)
theorem lX12_isLead_79 (a : Nat) (h : Hp) (m : Mu)  : fX12_isLead_79 (mput a h m)  = gX12_isLead_79 m  := by
  unfold fX12_isLead_79 gX12_isLead_79
  simp only [lX12_isLead_84, lift_lt, lift_gO, k_bs, k_mb, k_ms, k_bm, k_mm, k_il, k_ir, lift_ite, k_id]
noncomputable def gX12_isLead_55 (m : Mu) (x3 : Int32) (x4 : Int32) : Option Int32 :=
  if x4 = 0 then (
    (mA m 1 (1 : Int32)).bind fun v2 =>
    if v2 = 0 then (
    gX12_isLead_79 m ) else (
      (mA m 1 (2 : Int32)).bind fun v3 =>
      if x3 = v3 then (
      gX12_isLead_79 m ) else (
      gX12_isLead_83 m ))) else (
  gX12_isLead_83 m )
theorem lX12_isLead_55 (a : Nat) (h : Hp) (m : Mu) (x3 : Int32) (x4 : Int32) : fX12_isLead_55 (mput a h m) a x3 x4 = gX12_isLead_55 m x3 x4 := by
  unfold fX12_isLead_55 gX12_isLead_55
  simp only [lX12_isLead_83, lift_gN_1, lift_aI_1, lX12_isLead_79, lift_lt, lift_gO, k_bs, k_mb, k_ms, k_bm, k_mm, k_il, k_ir, lift_ite, k_id]
noncomputable def gX12_isLead_25b (m : Mu) (x3 : Int32) (x4 : Int32) (x5 : Int32) : Option ((Int32 × Int32 × Int32) ⊕ Int32) :=
  (mA m 1 (1 : Int32)).bind fun v1 =>
  if v1 ≤ x5 then (
  (gX12_isLead_55 m x3 x4).map (fun q => .inr q)) else (
    (rm x4 (5 : Int32)).bind fun v4 =>
    (dv x4 (5 : Int32)).bind fun v5 =>
    some (.inl ((x3 + v4), v5, (x5 + Int32.ofInt 1))))
noncomputable def gX12_isLead_25 (m : Mu) (x3 : Int32) (x4 : Int32) (x5 : Int32) : Option Int32 := lpw (σ := (Int32 × Int32 × Int32)) (fun s => gX12_isLead_25b m  s.1 s.2.1 s.2.2) (x3, x4, x5)
theorem lX12_isLead_25b (a : Nat) (h : Hp) (m : Mu) (x3 : Int32) (x4 : Int32) (x5 : Int32) : fX12_isLead_25b (mput a h m) a x3 x4 x5 = gX12_isLead_25b m x3 x4 x5 := by
  unfold fX12_isLead_25b gX12_isLead_25b
  simp only [lift_gN_1, lift_aI_1, lX12_isLead_55, lift_lt, lift_gO, k_bs, k_mb, k_ms, k_bm, k_mm, k_il, k_ir, lift_ite, k_id]
theorem lX12_isLead_25 (a : Nat) (h : Hp) (m : Mu) (x3 : Int32) (x4 : Int32) (x5 : Int32) : fX12_isLead_25 (mput a h m) a x3 x4 x5 = gX12_isLead_25 m x3 x4 x5 := by
  unfold fX12_isLead_25 gX12_isLead_25
  refine congrArg (fun b => lpw b _) (funext (fun s => ?_))
  exact lX12_isLead_25b a h m s.1 s.2.1 s.2.2
noncomputable def gX12_isLead (m : Mu) (x1 : Int64) : Option Int32 :=
  if (lg_cmp x1 (0 : Int64)) < 0 then (
  gX12_isLead_14 m ) else (
    if (lg_cmp x1 (624 : Int64)) ≤ 0 then (
      gX12_isLead_25 m (0 : Int32) (x1.toInt32) (0 : Int32)) else (
    gX12_isLead_14 m ))
theorem lX12_isLead (a : Nat) (h : Hp) (m : Mu) (x1 : Int64) : fX12_isLead (mput a h m) a x1 = gX12_isLead m x1 := by
  unfold fX12_isLead gX12_isLead
  simp only [lX12_isLead_14, lX12_isLead_25, lift_lt, lift_gO, k_bs, k_mb, k_ms, k_bm, k_mm, k_il, k_ir, lift_ite, k_id]
