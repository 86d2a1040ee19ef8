/-! the reference over its own numbers -/
noncomputable def gX12_grown_38 (m : Mu)  : Option (Int32 × Mu) :=
  some (((-99000003 : Int32), m))
theorem lX12_grown_38 (a : Nat) (h : Hp) (m : Mu)  : fX12_grown_38 (mput a h m)  = (gX12_grown_38 m ).map (fun (y : (Int32 × Mu)) => (y.1, mput a h y.2)) := by
  unfold fX12_grown_38 gX12_grown_38
  simp only [lift_lt, lift_gO, k_bs, k_mb, k_ms, k_bm, k_mm, k_il, k_ir, lift_ite, k_id]
noncomputable def gX12_grown_94 (m : Mu) (s0 : Int32) : Option (Int32 × Mu) :=
  some ((s0, m))
theorem lX12_grown_94 (a : Nat) (h : Hp) (m : Mu) (s0 : Int32) : fX12_grown_94 (mput a h m) s0 = (gX12_grown_94 m s0).map (fun (y : (Int32 × Mu)) => (y.1, mput a h y.2)) := by
  unfold fX12_grown_94 gX12_grown_94
  simp only [lift_lt, lift_gO, k_bs, k_mb, k_ms, k_bm, k_mm, k_il, k_ir, lift_ite, k_id]
noncomputable def gX12_grown (m : Mu) (x1 : Int32) (x2 : Int32) (x3 : Int32) : Option (Int32 × Mu) :=
  lt (mI m 0 (0 : Int32)) fun m1 =>
  (gX12_isPair m1 (x1.toInt64)).bind fun y2 =>
  if y2 = 0 then (
    some (((-99000002 : Int32), m1))) else (
    (gX12_within (x2.toInt64) (0 : Int64) (4 : Int64)).bind fun y3 =>
    if y3 = 0 then (
    gX12_grown_38 m1 ) else (
      (gX12_isDry (x3.toInt64)).bind fun y4 =>
      if y4 = 0 then (
      gX12_grown_38 m1 ) else (
        (mA m1 1 ((15 : Int32) + x1)).bind fun v5 =>
        if v5 = 0 then (
          gX12_grown_94 m1 (0 : Int32)) else (
          (mA m1 1 ((19 : Int32) + x1)).bind fun v6 =>
          (mA m1 1 ((15 : Int32) + x1)).bind fun v7 =>
          (gX12_standNow m1 ).bind fun y8 =>
          (gX12_metIn m1 y8).bind fun y9 =>
          (gX12_bitsOf y9).bind fun y10 =>
          (gX12_growsBy m1 x1 v6 x2 v7 y10 x3).bind fun y11 =>
          gX12_grown_94 y11.2 y11.1))))
theorem lX12_grown (a : Nat) (h : Hp) (m : Mu) (x1 : Int32) (x2 : Int32) (x3 : Int32) : fX12_grown (mput a h m) a x1 x2 x3 = (gX12_grown m x1 x2 x3).map (fun (y : (Int32 × Mu)) => (y.1, mput a h y.2)) := by
  unfold fX12_grown gX12_grown
  simp only [lift_sV_0, lX12_isPair, lX12_within, lX12_grown_38, lX12_isDry, lift_gN_1, lift_aI_1, lX12_standNow, lX12_metIn, lX12_bitsOf, lX12_growsBy, lX12_grown_94, lift_lt, lift_gO, k_bs, k_mb, k_ms, k_bm, k_mm, k_il, k_ir, lift_ite, k_id]
noncomputable def gX12_laysLeads_46 (m : Mu) (x1 : Int32) : Option ((Int32 × Mu) ⊕ Mu) :=
  some (.inl ((x1 + Int32.ofInt 1), m))
theorem lX12_laysLeads_46 (a : Nat) (h : Hp) (m : Mu) (x1 : Int32) : fX12_laysLeads_46 (mput a h m) a x1 = (gX12_laysLeads_46 m x1).map (Sum.map (fun (s : (Int32 × Mu)) => (s.1, mput a h s.2)) (mput a h)) := by
  unfold fX12_laysLeads_46 gX12_laysLeads_46
  simp only [lift_lt, lift_gO, k_bs, k_mb, k_ms, k_bm, k_mm, k_il, k_ir, lift_ite, k_id]
noncomputable def gX12_laysLeads_7b (m : Mu) (x1 : Int32) : Option ((Int32 × Mu) ⊕ Mu) :=
  if (625 : Int32) ≤ x1 then (
    some (.inr m)) else (
    (gX12_isLead m (x1.toInt64)).bind fun y2 =>
    if y2 = 0 then (
      gX12_laysLeads_46 m x1) else (
      (mW m 9 (m.1 21) x1).bind fun m3 =>
      lt (mI m3 21 ((m3.1 21) + (1 : Int32))) fun m4 =>
      gX12_laysLeads_46 m4 x1))
noncomputable def gX12_laysLeads_7 (m : Mu) (x1 : Int32) : Option Mu := lpw (σ := (Int32 × Mu)) (fun s => gX12_laysLeads_7b s.2  s.1) (x1, m)
theorem lX12_laysLeads_7b (a : Nat) (h : Hp) (m : Mu) (x1 : Int32) : fX12_laysLeads_7b (mput a h m) a x1 = (gX12_laysLeads_7b m x1).map (Sum.map (fun (s : (Int32 × Mu)) => (s.1, mput a h s.2)) (mput a h)) := by
  unfold fX12_laysLeads_7b gX12_laysLeads_7b
  simp only [lX12_isLead, lift_gN_20, lift_gI_21, lift_wI_9, lift_sV_21, lX12_laysLeads_46, lift_lt, lift_gO, k_bs, k_mb, k_ms, k_bm, k_mm, k_il, k_ir, lift_ite, k_id]
theorem lX12_laysLeads_7 (a : Nat) (h : Hp) (m : Mu) (x1 : Int32) : fX12_laysLeads_7 (mput a h m) a x1 = (gX12_laysLeads_7 m x1).map (mput a h) := by
  unfold fX12_laysLeads_7 gX12_laysLeads_7
  exact lpw_map _ _ (fun (s : (Int32 × Mu)) => (s.1, mput a h s.2)) (mput a h) (fun s => lX12_laysLeads_7b a h s.2 s.1) (x1, m)
noncomputable def gX12_laysLeads (m : Mu)  : Option Mu :=
  lt (mI m 21 (0 : Int32)) fun m1 =>
  gX12_laysLeads_7 m1 (0 : Int32)
theorem lX12_laysLeads (a : Nat) (h : Hp) (m : Mu)  : fX12_laysLeads (mput a h m) a = (gX12_laysLeads m ).map (mput a h) := by
  unfold fX12_laysLeads gX12_laysLeads
  simp only [lift_sV_21, lX12_laysLeads_7, lift_lt, lift_gO, k_bs, k_mb, k_ms, k_bm, k_mm, k_il, k_ir, lift_ite, k_id]
noncomputable def gX12_leadings (m : Mu)  : Option (Int32 × Mu) :=
  lt (mI m 0 (0 : Int32)) fun m1 =>
  (gX12_laysLeads m1 ).bind fun y2 =>
  some (((y2.1 21), y2))
theorem lX12_leadings (a : Nat) (h : Hp) (m : Mu)  : fX12_leadings (mput a h m) a = (gX12_leadings m ).map (fun (y : (Int32 × Mu)) => (y.1, mput a h y.2)) := by
  unfold fX12_leadings gX12_leadings
  simp only [lift_sV_0, lX12_laysLeads, lift_gI_21, lift_lt, lift_gO, k_bs, k_mb, k_ms, k_bm, k_mm, k_il, k_ir, lift_ite, k_id]
noncomputable def gX12_keeps_2b (m : Mu) (x1 : Int32) : Option ((Int32 × Mu) ⊕ Mu) :=
  if (11 : Int32) ≤ x1 then (
    some (.inr m)) else (
    (mA m 1 ((15 : Int32) + x1)).bind fun v1 =>
    (mW m 10 x1 v1).bind fun m2 =>
    some (.inl ((x1 + Int32.ofInt 1), m2)))
noncomputable def gX12_keeps_2 (m : Mu) (x1 : Int32) : Option Mu := lpw (σ := (Int32 × Mu)) (fun s => gX12_keeps_2b s.2  s.1) (x1, m)
theorem lX12_keeps_2b (a : Nat) (h : Hp) (m : Mu) (x1 : Int32) : fX12_keeps_2b (mput a h m) a x1 = (gX12_keeps_2b m x1).map (Sum.map (fun (s : (Int32 × Mu)) => (s.1, mput a h s.2)) (mput a h)) := by
  unfold fX12_keeps_2b gX12_keeps_2b
  simp only [lift_gN_22, lift_gN_1, lift_aI_1, lift_wI_10, lift_lt, lift_gO, k_bs, k_mb, k_ms, k_bm, k_mm, k_il, k_ir, lift_ite, k_id]
theorem lX12_keeps_2 (a : Nat) (h : Hp) (m : Mu) (x1 : Int32) : fX12_keeps_2 (mput a h m) a x1 = (gX12_keeps_2 m x1).map (mput a h) := by
  unfold fX12_keeps_2 gX12_keeps_2
  exact lpw_map _ _ (fun (s : (Int32 × Mu)) => (s.1, mput a h s.2)) (mput a h) (fun s => lX12_keeps_2b a h s.2 s.1) (x1, m)
noncomputable def gX12_keeps (m : Mu)  : Option Mu :=
  gX12_keeps_2 m (0 : Int32)
theorem lX12_keeps (a : Nat) (h : Hp) (m : Mu)  : fX12_keeps (mput a h m) a = (gX12_keeps m ).map (mput a h) := by
  unfold fX12_keeps gX12_keeps
  simp only [lX12_keeps_2, lift_lt, lift_gO, k_bs, k_mb, k_ms, k_bm, k_mm, k_il, k_ir, lift_ite, k_id]
noncomputable def gX12_isAgain_2b (m : Mu) (x1 : Int32) : Option ((Int32 × Mu) ⊕ Mu) :=
  if (11 : Int32) ≤ x1 then (
    some (.inr m)) else (
    (mA m 10 x1).bind fun v1 =>
    (mW m 1 ((15 : Int32) + x1) v1).bind fun m2 =>
    some (.inl ((x1 + Int32.ofInt 1), m2)))
noncomputable def gX12_isAgain_2 (m : Mu) (x1 : Int32) : Option Mu := lpw (σ := (Int32 × Mu)) (fun s => gX12_isAgain_2b s.2  s.1) (x1, m)
theorem lX12_isAgain_2b (a : Nat) (h : Hp) (m : Mu) (x1 : Int32) : fX12_isAgain_2b (mput a h m) a x1 = (gX12_isAgain_2b m x1).map (Sum.map (fun (s : (Int32 × Mu)) => (s.1, mput a h s.2)) (mput a h)) := by
  unfold fX12_isAgain_2b gX12_isAgain_2b
  simp only [lift_gN_1, lift_gN_22, lift_aI_10, lift_wI_1, lift_lt, lift_gO, k_bs, k_mb, k_ms, k_bm, k_mm, k_il, k_ir, lift_ite, k_id]
theorem lX12_isAgain_2 (a : Nat) (h : Hp) (m : Mu) (x1 : Int32) : fX12_isAgain_2 (mput a h m) a x1 = (gX12_isAgain_2 m x1).map (mput a h) := by
  unfold fX12_isAgain_2 gX12_isAgain_2
  exact lpw_map _ _ (fun (s : (Int32 × Mu)) => (s.1, mput a h s.2)) (mput a h) (fun s => lX12_isAgain_2b a h s.2 s.1) (x1, m)
noncomputable def gX12_isAgain (m : Mu)  : Option Mu :=
  gX12_isAgain_2 m (0 : Int32)
theorem lX12_isAgain (a : Nat) (h : Hp) (m : Mu)  : fX12_isAgain (mput a h m) a = (gX12_isAgain m ).map (mput a h) := by
  unfold fX12_isAgain gX12_isAgain
  simp only [lX12_isAgain_2, lift_lt, lift_gO, k_bs, k_mb, k_ms, k_bm, k_mm, k_il, k_ir, lift_ite, k_id]
noncomputable def gX12_notes_95 (m : Mu)  : Option Mu :=
  (mA m 1 (26 : Int32)).bind fun v2 =>
  (mW m 1 (26 : Int32) (v2 + (1 : Int32))).bind fun m3 =>
  some (m3)
theorem lX12_notes_95 (a : Nat) (h : Hp) (m : Mu)  : fX12_notes_95 (mput a h m) a = (gX12_notes_95 m ).map (mput a h) := by
  unfold fX12_notes_95 gX12_notes_95
  simp only [lift_gN_1, lift_aI_1, lift_wI_1, lift_lt, lift_gO, k_bs, k_mb, k_ms, k_bm, k_mm, k_il, k_ir, lift_ite, k_id]
noncomputable def gX12_notes_57b (m : Mu) (x1 : Int32) : Option ((Int32 × Mu) ⊕ Mu) :=
  if (11 : Int32) ≤ x1 then (
  (gX12_notes_95 m ).map (fun q => .inr q)) else (
    (mA m 1 (26 : Int32)).bind fun v4 =>
    (mA m 10 x1).bind fun v5 =>
    (mW m 1 (((27 : Int32) + ((11 : Int32) * v4)) + x1) v5).bind fun m6 =>
    some (.inl ((x1 + Int32.ofInt 1), m6)))
noncomputable def gX12_notes_57 (m : Mu) (x1 : Int32) : Option Mu := lpw (σ := (Int32 × Mu)) (fun s => gX12_notes_57b s.2  s.1) (x1, m)
theorem lX12_notes_57b (a : Nat) (h : Hp) (m : Mu) (x1 : Int32) : fX12_notes_57b (mput a h m) a x1 = (gX12_notes_57b m x1).map (Sum.map (fun (s : (Int32 × Mu)) => (s.1, mput a h s.2)) (mput a h)) := by
  unfold fX12_notes_57b gX12_notes_57b
  simp only [lX12_notes_95, lift_gN_1, lift_aI_1, lift_gN_22, lift_aI_10, lift_wI_1, lift_lt, lift_gO, k_bs, k_mb, k_ms, k_bm, k_mm, k_il, k_ir, lift_ite, k_id]
theorem lX12_notes_57 (a : Nat) (h : Hp) (m : Mu) (x1 : Int32) : fX12_notes_57 (mput a h m) a x1 = (gX12_notes_57 m x1).map (mput a h) := by
  unfold fX12_notes_57 gX12_notes_57
  exact lpw_map _ _ (fun (s : (Int32 × Mu)) => (s.1, mput a h s.2)) (mput a h) (fun s => lX12_notes_57b a h s.2 s.1) (x1, m)
noncomputable def gX12_notes_55 (m : Mu)  : Option Mu :=
  gX12_notes_57 m (0 : Int32)
theorem lX12_notes_55 (a : Nat) (h : Hp) (m : Mu)  : fX12_notes_55 (mput a h m) a = (gX12_notes_55 m ).map (mput a h) := by
  unfold fX12_notes_55 gX12_notes_55
  simp only [lX12_notes_57, lift_lt, lift_gO, k_bs, k_mb, k_ms, k_bm, k_mm, k_il, k_ir, lift_ite, k_id]
noncomputable def gX12_notes_44 (m : Mu)  : Option Mu :=
  (mA m 1 (26 : Int32)).bind fun v7 =>
  (mW m 1 (26 : Int32) (v7 - (1 : Int32))).bind fun m8 =>
  gX12_notes_55 m8 
theorem lX12_notes_44 (a : Nat) (h : Hp) (m : Mu)  : fX12_notes_44 (mput a h m) a = (gX12_notes_44 m ).map (mput a h) := by
  unfold fX12_notes_44 gX12_notes_44
  simp only [lift_gN_1, lift_aI_1, lift_wI_1, lX12_notes_55, lift_lt, lift_gO, k_bs, k_mb, k_ms, k_bm, k_mm, k_il, k_ir, lift_ite, k_id]
noncomputable def gX12_notes_14b (m : Mu) (x1 : Int32) : Option ((Int32 × Mu) ⊕ Mu) :=
  if (99 : Int32) ≤ x1 then (
  (gX12_notes_44 m ).map (fun q => .inr q)) else (
    (mA m 1 ((38 : Int32) + x1)).bind fun v9 =>
    (mW m 1 ((27 : Int32) + x1) v9).bind fun m10 =>
    some (.inl ((x1 + Int32.ofInt 1), m10)))
noncomputable def gX12_notes_14 (m : Mu) (x1 : Int32) : Option Mu := lpw (σ := (Int32 × Mu)) (fun s => gX12_notes_14b s.2  s.1) (x1, m)
theorem lX12_notes_14b (a : Nat) (h : Hp) (m : Mu) (x1 : Int32) : fX12_notes_14b (mput a h m) a x1 = (gX12_notes_14b m x1).map (Sum.map (fun (s : (Int32 × Mu)) => (s.1, mput a h s.2)) (mput a h)) := by
  unfold fX12_notes_14b gX12_notes_14b
  simp only [lX12_notes_44, lift_gN_1, lift_aI_1, lift_wI_1, lift_lt, lift_gO, k_bs, k_mb, k_ms, k_bm, k_mm, k_il, k_ir, lift_ite, k_id]
theorem lX12_notes_14 (a : Nat) (h : Hp) (m : Mu) (x1 : Int32) : fX12_notes_14 (mput a h m) a x1 = (gX12_notes_14 m x1).map (mput a h) := by
  unfold fX12_notes_14 gX12_notes_14
  exact lpw_map _ _ (fun (s : (Int32 × Mu)) => (s.1, mput a h s.2)) (mput a h) (fun s => lX12_notes_14b a h s.2 s.1) (x1, m)
noncomputable def gX12_notes (m : Mu)  : Option Mu :=
  (mA m 1 (26 : Int32)).bind fun v1 =>
  if v1 = (10 : Int32) then (
    gX12_notes_14 m (0 : Int32)) else (
  gX12_notes_55 m )
theorem lX12_notes (a : Nat) (h : Hp) (m : Mu)  : fX12_notes (mput a h m) a = (gX12_notes m ).map (mput a h) := by
  unfold fX12_notes gX12_notes
  simp only [lift_gN_1, lift_aI_1, lX12_notes_55, lX12_notes_14, lift_lt, lift_gO, k_bs, k_mb, k_ms, k_bm, k_mm, k_il, k_ir, lift_ite, k_id]
noncomputable def gX12_goesYear_67 (m : Mu) (s1 : Int32) (s2 : Int32) : Option Mu :=
  (mW m 1 s1 s2).bind fun m6 =>
  (mA m6 1 (25 : Int32)).bind fun v7 =>
  (mW m6 1 (25 : Int32) (v7 + (1 : Int32))).bind fun m8 =>
  some (m8)
theorem lX12_goesYear_67 (a : Nat) (h : Hp) (m : Mu) (s1 : Int32) (s2 : Int32) : fX12_goesYear_67 (mput a h m) a (a + 1) s1 s2 = (gX12_goesYear_67 m s1 s2).map (mput a h) := by
  unfold fX12_goesYear_67 gX12_goesYear_67
  simp only [lift_wI_1, lift_gN_1, lift_aI_1, lift_lt, lift_gO, k_bs, k_mb, k_ms, k_bm, k_mm, k_il, k_ir, lift_ite, k_id]
noncomputable def gX12_goesYear_49 (m : Mu) (x2 : Int32) : Option Mu :=
  (gX12_hasFallen x2).bind fun y5 =>
  if y5 = 0 then (
    gX12_goesYear_67 m (24 : Int32) (0 : Int32)) else (
    gX12_goesYear_67 m (24 : Int32) (1 : Int32))
theorem lX12_goesYear_49 (a : Nat) (h : Hp) (m : Mu) (x2 : Int32) : fX12_goesYear_49 (mput a h m) a x2 = (gX12_goesYear_49 m x2).map (mput a h) := by
  unfold fX12_goesYear_49 gX12_goesYear_49
  simp only [lift_gN_1, lX12_hasFallen, lX12_goesYear_67, lift_lt, lift_gO, k_bs, k_mb, k_ms, k_bm, k_mm, k_il, k_ir, lift_ite, k_id]
noncomputable def gX12_goesYear_19b (m : Mu) (x2 : Int32) (x3 : Int32) : Option ((Int32 × Mu) ⊕ Mu) :=
  (mA m 1 (1 : Int32)).bind fun v4 =>
  if v4 ≤ x3 then (
  (gX12_goesYear_49 m x2).map (fun q => .inr q)) else (
    (gX12_gapIn x2 x3).bind fun y9 =>
    (mW m 1 ((15 : Int32) + x3) y9).bind fun m10 =>
    some (.inl ((x3 + Int32.ofInt 1), m10)))
noncomputable def gX12_goesYear_19 (m : Mu) (x2 : Int32) (x3 : Int32) : Option Mu := lpw (σ := (Int32 × Mu)) (fun s => gX12_goesYear_19b s.2 x2 s.1) (x3, m)
theorem lX12_goesYear_19b (a : Nat) (h : Hp) (m : Mu) (x2 : Int32) (x3 : Int32) : fX12_goesYear_19b (mput a h m) a x2 x3 = (gX12_goesYear_19b m x2 x3).map (Sum.map (fun (s : (Int32 × Mu)) => (s.1, mput a h s.2)) (mput a h)) := by
  unfold fX12_goesYear_19b gX12_goesYear_19b
  simp only [lift_gN_1, lift_aI_1, lX12_goesYear_49, lX12_gapIn, lift_wI_1, lift_lt, lift_gO, k_bs, k_mb, k_ms, k_bm, k_mm, k_il, k_ir, lift_ite, k_id]
theorem lX12_goesYear_19 (a : Nat) (h : Hp) (m : Mu) (x2 : Int32) (x3 : Int32) : fX12_goesYear_19 (mput a h m) a x2 x3 = (gX12_goesYear_19 m x2 x3).map (mput a h) := by
  unfold fX12_goesYear_19 gX12_goesYear_19
  exact lpw_map _ _ (fun (s : (Int32 × Mu)) => (s.1, mput a h s.2)) (mput a h) (fun s => lX12_goesYear_19b a h s.2 x2 s.1) (x3, m)
noncomputable def gX12_goesYear (m : Mu) (x1 : Int32) : Option Mu :=
  (gX12_standNow m ).bind fun y1 =>
  (mA m 1 (23 : Int32)).bind fun v2 =>
  (gX12_yearTo m y1 v2 x1).bind fun y3 =>
  gX12_goesYear_19 y3.2 y3.1 (0 : Int32)
theorem lX12_goesYear (a : Nat) (h : Hp) (m : Mu) (x1 : Int32) : fX12_goesYear (mput a h m) a x1 = (gX12_goesYear m x1).map (mput a h) := by
  unfold fX12_goesYear gX12_goesYear
  simp only [lX12_standNow, lift_gN_1, lift_aI_1, lX12_yearTo, lX12_goesYear_19, lift_lt, lift_gO, k_bs, k_mb, k_ms, k_bm, k_mm, k_il, k_ir, lift_ite, k_id]
noncomputable def gX12_whySaw_28 (m : Mu) (s0 : Int32) : Option Int32 :=
  some (s0)
theorem lX12_whySaw_28 (a : Nat) (h : Hp) (m : Mu) (s0 : Int32) : fX12_whySaw_28 (mput a h m) s0 = gX12_whySaw_28 m s0 := by
  unfold fX12_whySaw_28 gX12_whySaw_28
  simp only [lift_lt, lift_gO, k_bs, k_mb, k_ms, k_bm, k_mm, k_il, k_ir, lift_ite, k_id]
noncomputable def gX12_whySaw (m : Mu) (x1 : Int64) : Option Int32 :=
  (gX12_isPair m x1).bind fun y1 =>
  if y1 = 0 then (
    gX12_whySaw_28 m (1 : Int32)) else (
    (mA m 1 (24 : Int32)).bind fun v2 =>
    if v2 = (1 : Int32) then (
      gX12_whySaw_28 m (2 : Int32)) else (
      gX12_whySaw_28 m (0 : Int32)))
theorem lX12_whySaw (a : Nat) (h : Hp) (m : Mu) (x1 : Int64) : fX12_whySaw (mput a h m) a x1 = gX12_whySaw m x1 := by
  unfold fX12_whySaw gX12_whySaw
  simp only [lX12_isPair, lift_gN_1, lift_aI_1, lX12_whySaw_28, lift_lt, lift_gO, k_bs, k_mb, k_ms, k_bm, k_mm, k_il, k_ir, lift_ite, k_id]
noncomputable def gX12_year (m : Mu) (x1 : Int32) : Option (Int32 × Mu) :=
  lt (mI m 0 (0 : Int32)) fun m1 =>
  (gX12_isDry (x1.toInt64)).bind fun y2 =>
  if y2 = 0 then (
    some (((-11 : Int32), m1))) else (
    (gX12_keeps m1 ).bind fun y3 =>
    (gX12_standNow y3 ).bind fun y4 =>
    (gX12_metIn y3 y4).bind fun y5 =>
    (gX12_bitsOf y5).bind fun y6 =>
    (gX12_goesYear y3 x1).bind fun y7 =>
    (gX12_notes y7 ).bind fun y8 =>
    (gX12_standNow y8 ).bind fun y9 =>
    (gX12_metIn y8 y9).bind fun y10 =>
    (gX12_bitsOf y10).bind fun y11 =>
    some (((y11 - y6), y8)))
theorem lX12_year (a : Nat) (h : Hp) (m : Mu) (x1 : Int32) : fX12_year (mput a h m) a x1 = (gX12_year m x1).map (fun (y : (Int32 × Mu)) => (y.1, mput a h y.2)) := by
  unfold fX12_year gX12_year
  simp only [lift_sV_0, lX12_isDry, lX12_keeps, lX12_standNow, lX12_metIn, lX12_bitsOf, lX12_goesYear, lX12_notes, lift_lt, lift_gO, k_bs, k_mb, k_ms, k_bm, k_mm, k_il, k_ir, lift_ite, k_id]
noncomputable def gX12_lead (m : Mu) (x1 : Int32) : Option (Int32 × Mu) :=
  lt (mI m 0 (0 : Int32)) fun m1 =>
  (gX12_isLead m1 (x1.toInt64)).bind fun y2 =>
  if y2 = 0 then (
    some (((-11 : Int32), m1))) else (
    (gX12_keeps m1 ).bind fun y3 =>
    (mW y3 1 (23 : Int32) x1).bind fun m4 =>
    (gX12_notes m4 ).bind fun y5 =>
    (mA y5 10 (8 : Int32)).bind fun v6 =>
    some ((v6, y5)))
theorem lX12_lead (a : Nat) (h : Hp) (m : Mu) (x1 : Int32) : fX12_lead (mput a h m) a x1 = (gX12_lead m x1).map (fun (y : (Int32 × Mu)) => (y.1, mput a h y.2)) := by
  unfold fX12_lead gX12_lead
  simp only [lift_sV_0, lX12_isLead, lX12_keeps, lift_gN_1, lift_wI_1, lX12_notes, lift_gN_22, lift_aI_10, lift_lt, lift_gO, k_bs, k_mb, k_ms, k_bm, k_mm, k_il, k_ir, lift_ite, k_id]
noncomputable def gX12_saw (m : Mu) (x1 : Int32) : Option (Int32 × Mu) :=
  lt (mI m 0 (0 : Int32)) fun m1 =>
  (gX12_whySaw m1 (x1.toInt64)).bind fun y2 =>
  if y2 = 0 then (
    (gX12_keeps m1 ).bind fun y3 =>
    (mA y3 1 ((11 : Int32) + x1)).bind fun v4 =>
    (mW y3 1 ((15 : Int32) + x1) v4).bind fun m5 =>
    (gX12_notes m5 ).bind fun y6 =>
    (mA y6 10 x1).bind fun v7 =>
    some ((v7, y6))) else (
    some ((((-10 : Int32) - y2), m1)))
theorem lX12_saw (a : Nat) (h : Hp) (m : Mu) (x1 : Int32) : fX12_saw (mput a h m) a x1 = (gX12_saw m x1).map (fun (y : (Int32 × Mu)) => (y.1, mput a h y.2)) := by
  unfold fX12_saw gX12_saw
  simp only [lift_sV_0, lX12_whySaw, lX12_keeps, lift_gN_1, lift_aI_1, lift_wI_1, lX12_notes, lift_gN_22, lift_aI_10, lift_lt, lift_gO, k_bs, k_mb, k_ms, k_bm, k_mm, k_il, k_ir, lift_ite, k_id]
noncomputable def gX12_chalk_26 (m : Mu)  : Option (Int32 × Mu) :=
  some (((-11 : Int32), m))
theorem lX12_chalk_26 (a : Nat) (h : Hp) (m : Mu)  : fX12_chalk_26 (mput a h m)  = (gX12_chalk_26 m ).map (fun (y : (Int32 × Mu)) => (y.1, mput a h y.2)) := by
  unfold fX12_chalk_26 gX12_chalk_26
  simp only [lift_lt, lift_gO, k_bs, k_mb, k_ms, k_bm, k_mm, k_il, k_ir, lift_ite, k_id]
noncomputable def gX12_chalk (m : Mu) (x1 : Int32) (x2 : Int32) : Option (Int32 × Mu) :=
  lt (mI m 0 (0 : Int32)) fun m1 =>
  (gX12_isPair m1 (x1.toInt64)).bind fun y2 =>
  if y2 = 0 then (
  gX12_chalk_26 m1 ) else (
    (gX12_within (x2.toInt64) (0 : Int64) (9 : Int64)).bind fun y3 =>
    if y3 = 0 then (
    gX12_chalk_26 m1 ) else (
      (gX12_keeps m1 ).bind fun y4 =>
      (mW y4 1 ((19 : Int32) + x1) x2).bind fun m5 =>
      (gX12_notes m5 ).bind fun y6 =>
      (mA y6 10 ((4 : Int32) + x1)).bind fun v7 =>
      some ((v7, y6))))
theorem lX12_chalk (a : Nat) (h : Hp) (m : Mu) (x1 : Int32) (x2 : Int32) : fX12_chalk (mput a h m) a x1 x2 = (gX12_chalk m x1 x2).map (fun (y : (Int32 × Mu)) => (y.1, mput a h y.2)) := by
  unfold fX12_chalk gX12_chalk
  simp only [lift_sV_0, lX12_isPair, lX12_chalk_26, lX12_within, lX12_keeps, lift_gN_1, lift_wI_1, lX12_notes, lift_gN_22, lift_aI_10, lift_lt, lift_gO, k_bs, k_mb, k_ms, k_bm, k_mm, k_il, k_ir, lift_ite, k_id]
noncomputable def gX12_undo_28 (m : Mu)  : Option (Int32 × Mu) :=
  some (((-3 : Int32), m))
theorem lX12_undo_28 (a : Nat) (h : Hp) (m : Mu)  : fX12_undo_28 (mput a h m)  = (gX12_undo_28 m ).map (fun (y : (Int32 × Mu)) => (y.1, mput a h y.2)) := by
  unfold fX12_undo_28 gX12_undo_28
  simp only [lift_lt, lift_gO, k_bs, k_mb, k_ms, k_bm, k_mm, k_il, k_ir, lift_ite, k_id]
noncomputable def gX12_undo_44b (m : Mu) (x2 : Int32) : Option ((Int32 × Mu) ⊕ (Int32 × Mu)) :=
  if (11 : Int32) ≤ x2 then (
    (mA m 1 (26 : Int32)).bind fun v6 =>
    some (.inr (v6, m))) else (
    (mA m 1 (26 : Int32)).bind fun v7 =>
    (mA m 1 (((27 : Int32) + ((11 : Int32) * v7)) + x2)).bind fun v8 =>
    (mW m 1 ((15 : Int32) + x2) v8).bind fun m9 =>
    some (.inl ((x2 + Int32.ofInt 1), m9)))
noncomputable def gX12_undo_44 (m : Mu) (x2 : Int32) : Option (Int32 × Mu) := lpw (σ := (Int32 × Mu)) (fun s => gX12_undo_44b s.2  s.1) (x2, m)
theorem lX12_undo_44b (a : Nat) (h : Hp) (m : Mu) (x2 : Int32) : fX12_undo_44b (mput a h m) a x2 = (gX12_undo_44b m x2).map (Sum.map (fun (s : (Int32 × Mu)) => (s.1, mput a h s.2)) (fun (y : (Int32 × Mu)) => (y.1, mput a h y.2))) := by
  unfold fX12_undo_44b gX12_undo_44b
  simp only [lift_gN_1, lift_aI_1, lift_wI_1, lift_lt, lift_gO, k_bs, k_mb, k_ms, k_bm, k_mm, k_il, k_ir, lift_ite, k_id]
theorem lX12_undo_44 (a : Nat) (h : Hp) (m : Mu) (x2 : Int32) : fX12_undo_44 (mput a h m) a x2 = (gX12_undo_44 m x2).map (fun (y : (Int32 × Mu)) => (y.1, mput a h y.2)) := by
  unfold fX12_undo_44 gX12_undo_44
  exact lpw_map _ _ (fun (s : (Int32 × Mu)) => (s.1, mput a h s.2)) (fun (y : (Int32 × Mu)) => (y.1, mput a h y.2)) (fun s => lX12_undo_44b a h s.2 s.1) (x2, m)
noncomputable def gX12_undo (m : Mu) (x1 : Int32) : Option (Int32 × Mu) :=
  lt (mI m 0 (0 : Int32)) fun m1 =>
  (gX12_within (x1.toInt64) (1 : Int64) (10 : Int64)).bind fun y2 =>
  if y2 = 0 then (
  gX12_undo_28 m1 ) else (
    (mA m1 1 (26 : Int32)).bind fun v3 =>
    if x1 ≤ v3 then (
      (mA m1 1 (26 : Int32)).bind fun v4 =>
      (mW m1 1 (26 : Int32) (v4 - x1)).bind fun m5 =>
      gX12_undo_44 m5 (0 : Int32)) else (
    gX12_undo_28 m1 ))
theorem lX12_undo (a : Nat) (h : Hp) (m : Mu) (x1 : Int32) : fX12_undo (mput a h m) a x1 = (gX12_undo m x1).map (fun (y : (Int32 × Mu)) => (y.1, mput a h y.2)) := by
  unfold fX12_undo gX12_undo
  simp only [lift_sV_0, lX12_within, lX12_undo_28, lift_gN_1, lift_aI_1, lift_wI_1, lX12_undo_44, lift_lt, lift_gO, k_bs, k_mb, k_ms, k_bm, k_mm, k_il, k_ir, lift_ite, k_id]
noncomputable def gX12_whyNot_97 (m : Mu) (s0 : Int32) : Option Int32 :=
  some (s0)
theorem lX12_whyNot_97 (a : Nat) (h : Hp) (m : Mu) (s0 : Int32) : fX12_whyNot_97 (mput a h m) s0 = gX12_whyNot_97 m s0 := by
  unfold fX12_whyNot_97 gX12_whyNot_97
  simp only [lift_lt, lift_gO, k_bs, k_mb, k_ms, k_bm, k_mm, k_il, k_ir, lift_ite, k_id]
noncomputable def gX12_whyNot_96 (m : Mu)  : Option Int32 :=
  gX12_whyNot_97 m (1 : Int32)
theorem lX12_whyNot_96 (a : Nat) (h : Hp) (m : Mu)  : fX12_whyNot_96 (mput a h m)  = gX12_whyNot_96 m  := by
  unfold fX12_whyNot_96 gX12_whyNot_96
  simp only [lX12_whyNot_97, lift_lt, lift_gO, k_bs, k_mb, k_ms, k_bm, k_mm, k_il, k_ir, lift_ite, k_id]
noncomputable def gX12_whyNot_66 (m : Mu) (s0 : Int32) : Option Int32 :=
  some (s0)
theorem lX12_whyNot_66 (a : Nat) (h : Hp) (m : Mu) (s0 : Int32) : fX12_whyNot_66 (mput a h m) s0 = gX12_whyNot_66 m s0 := by
  unfold fX12_whyNot_66 gX12_whyNot_66
  simp only [lift_lt, lift_gO, k_bs, k_mb, k_ms, k_bm, k_mm, k_il, k_ir, lift_ite, k_id]
noncomputable def gX12_whyNot (m : Mu) (x1 : Int64) : Option Int32 :=
  (gX12_isDry x1).bind fun y1 =>
  if y1 = 0 then (
    (gX12_within x1 (10 : Int64) (19 : Int64)).bind fun y2 =>
    if y2 = 0 then (
      (gX12_within x1 (100 : Int64) (199 : Int64)).bind fun y3 =>
      if y3 = 0 then (
        (gX12_within x1 (1000 : Int64) (1999 : Int64)).bind fun y4 =>
        if y4 = 0 then (
        gX12_whyNot_96 m ) else (
          (gX12_isLead m (x1 - (1000 : Int64))).bind fun y5 =>
          if y5 = 0 then (
          gX12_whyNot_96 m ) else (
            gX12_whyNot_97 m (0 : Int32)))) else (
        (dvl (x1 - (100 : Int64)) (10 : Int64)).bind fun v6 =>
        (gX12_isPair m v6).bind fun y7 =>
        if y7 = 0 then (
          gX12_whyNot_66 m (1 : Int32)) else (
          gX12_whyNot_66 m (0 : Int32)))) else (
      (gX12_whySaw m (x1 - (10 : Int64))).bind fun y8 =>
      some (y8))) else (
    some ((0 : Int32)))
theorem lX12_whyNot (a : Nat) (h : Hp) (m : Mu) (x1 : Int64) : fX12_whyNot (mput a h m) a x1 = gX12_whyNot m x1 := by
  unfold fX12_whyNot gX12_whyNot
  simp only [lX12_isDry, lX12_within, lX12_whyNot_96, lX12_isLead, lX12_whyNot_97, lX12_isPair, lX12_whyNot_66, lX12_whySaw, lift_lt, lift_gO, k_bs, k_mb, k_ms, k_bm, k_mm, k_il, k_ir, lift_ite, k_id]
noncomputable def gX12_does_87 (m : Mu)  : Option Mu :=
  some (m)
theorem lX12_does_87 (a : Nat) (h : Hp) (m : Mu)  : fX12_does_87 (mput a h m)  = (gX12_does_87 m ).map (mput a h) := by
  unfold fX12_does_87 gX12_does_87
  simp only [lift_lt, lift_gO, k_bs, k_mb, k_ms, k_bm, k_mm, k_il, k_ir, lift_ite, k_id]
noncomputable def gX12_does (m : Mu) (x1 : Int32) : Option Mu :=
  if (2 : Int32) ≤ x1 then (
    if (20 : Int32) ≤ x1 then (
      if (200 : Int32) ≤ x1 then (
        (mW m 1 (23 : Int32) (x1 - (1000 : Int32))).bind fun m1 =>
        gX12_does_87 m1 ) else (
        (dv (x1 - (100 : Int32)) (10 : Int32)).bind fun v2 =>
        (rm x1 (10 : Int32)).bind fun v3 =>
        (mW m 1 ((19 : Int32) + v2) v3).bind fun m4 =>
        gX12_does_87 m4 )) else (
      (mA m 1 (((11 : Int32) + x1) - (10 : Int32))).bind fun v5 =>
      (mW m 1 (((15 : Int32) + x1) - (10 : Int32)) v5).bind fun m6 =>
      gX12_does_87 m6 )) else (
    (gX12_goesYear m x1).bind fun y7 =>
    gX12_does_87 y7 )
theorem lX12_does (a : Nat) (h : Hp) (m : Mu) (x1 : Int32) : fX12_does (mput a h m) a x1 = (gX12_does m x1).map (mput a h) := by
  unfold fX12_does gX12_does
  simp only [lift_gN_1, lift_wI_1, lX12_does_87, lift_aI_1, lX12_goesYear, lift_lt, lift_gO, k_bs, k_mb, k_ms, k_bm, k_mm, k_il, k_ir, lift_ite, k_id]
noncomputable def gX12_tells_7b (m : Mu) (x1 : Int32) (x2 : Int32) : Option ((Int32 × Mu) ⊕ (Int32 × Mu)) :=
  (mA m 22 x1).bind fun v2 =>
  if v2 ≤ x2 then (
    (mA m 22 x1).bind fun v3 =>
    some (.inr (v3, m))) else (
    (mJ m 23 (((40 : Int32) * x1) + x2)).bind fun v4 =>
    (gX12_whyNot m v4).bind fun y5 =>
    lt (mI m 23 y5) fun m6 =>
    if (m6.1 23) = 0 then (
      (mJ m6 23 (((40 : Int32) * x1) + x2)).bind fun v7 =>
      (gX12_does m6 (v7.toInt32)).bind fun y8 =>
      some (.inl ((x2 + Int32.ofInt 1), y8))) else (
      some (.inr (x2, m6))))
noncomputable def gX12_tells_7 (m : Mu) (x1 : Int32) (x2 : Int32) : Option (Int32 × Mu) := lpw (σ := (Int32 × Mu)) (fun s => gX12_tells_7b s.2 x1 s.1) (x2, m)
theorem lX12_tells_7b (a : Nat) (h : Hp) (m : Mu) (x1 : Int32) (x2 : Int32) : fX12_tells_7b (mput a h m) a x1 x2 = (gX12_tells_7b m x1 x2).map (Sum.map (fun (s : (Int32 × Mu)) => (s.1, mput a h s.2)) (fun (y : (Int32 × Mu)) => (y.1, mput a h y.2))) := by
  unfold fX12_tells_7b gX12_tells_7b
  simp only [lift_gN_39, lift_aI_22, lift_gN_40, lift_aJ_23, lX12_whyNot, lift_sV_23, lift_gI_23, lX12_does, lift_lt, lift_gO, k_bs, k_mb, k_ms, k_bm, k_mm, k_il, k_ir, lift_ite, k_id]
theorem lX12_tells_7 (a : Nat) (h : Hp) (m : Mu) (x1 : Int32) (x2 : Int32) : fX12_tells_7 (mput a h m) a x1 x2 = (gX12_tells_7 m x1 x2).map (fun (y : (Int32 × Mu)) => (y.1, mput a h y.2)) := by
  unfold fX12_tells_7 gX12_tells_7
  exact lpw_map _ _ (fun (s : (Int32 × Mu)) => (s.1, mput a h s.2)) (fun (y : (Int32 × Mu)) => (y.1, mput a h y.2)) (fun s => lX12_tells_7b a h s.2 x1 s.1) (x2, m)
noncomputable def gX12_tells (m : Mu) (x1 : Int32) : Option (Int32 × Mu) :=
  lt (mI m 23 (0 : Int32)) fun m1 =>
  gX12_tells_7 m1 x1 (0 : Int32)
theorem lX12_tells (a : Nat) (h : Hp) (m : Mu) (x1 : Int32) : fX12_tells (mput a h m) a x1 = (gX12_tells m x1).map (fun (y : (Int32 × Mu)) => (y.1, mput a h y.2)) := by
  unfold fX12_tells gX12_tells
  simp only [lift_sV_23, lX12_tells_7, lift_lt, lift_gO, k_bs, k_mb, k_ms, k_bm, k_mm, k_il, k_ir, lift_ite, k_id]
noncomputable def gX12_noTray_33 (m : Mu) (s0 : Int32) : Option Int32 :=
  some (s0)
theorem lX12_noTray_33 (a : Nat) (h : Hp) (m : Mu) (s0 : Int32) : fX12_noTray_33 (mput a h m) s0 = gX12_noTray_33 m s0 := by
  unfold fX12_noTray_33 gX12_noTray_33
  simp only [lift_lt, lift_gO, k_bs, k_mb, k_ms, k_bm, k_mm, k_il, k_ir, lift_ite, k_id]
noncomputable def gX12_noTray (m : Mu) (x1 : Int32) : Option Int32 :=
  (gX12_within (x1.toInt64) (0 : Int64) (3 : Int64)).bind fun y1 =>
  if y1 = 0 then (
    gX12_noTray_33 m (-2 : Int32)) else (
    (mA m 21 x1).bind fun v2 =>
    if v2 = (-1 : Int32) then (
      gX12_noTray_33 m (-6 : Int32)) else (
      gX12_noTray_33 m (0 : Int32)))
theorem lX12_noTray (a : Nat) (h : Hp) (m : Mu) (x1 : Int32) : fX12_noTray (mput a h m) a x1 = gX12_noTray m x1 := by
  unfold fX12_noTray gX12_noTray
  simp only [lX12_within, lift_gN_38, lift_aI_21, lX12_noTray_33, lift_lt, lift_gO, k_bs, k_mb, k_ms, k_bm, k_mm, k_il, k_ir, lift_ite, k_id]
noncomputable def gX12_judge_105 (m : Mu) (s0 : Int32) : Option (Int32 × Mu) :=
  some ((s0, m))
theorem lX12_judge_105 (a : Nat) (h : Hp) (m : Mu) (s0 : Int32) : fX12_judge_105 (mput a h m) s0 = (gX12_judge_105 m s0).map (fun (y : (Int32 × Mu)) => (y.1, mput a h y.2)) := by
  unfold fX12_judge_105 gX12_judge_105
  simp only [lift_lt, lift_gO, k_bs, k_mb, k_ms, k_bm, k_mm, k_il, k_ir, lift_ite, k_id]
noncomputable def gX12_judge (m : Mu) (x1 : Int32) (x2 : Int32) : Option (Int32 × Mu) :=
  lt (mI m 0 (0 : Int32)) fun m1 =>
  (gX12_within (x2.toInt64) (0 : Int64) (3 : Int64)).bind fun y2 =>
  if y2 = 0 then (
    some (((-2 : Int32), m1))) else (
    (gX12_noTray m1 x1).bind fun y3 =>
    if y3 = 0 then (
      (gX12_keeps m1 ).bind fun y4 =>
      (gX12_tells y4 x1).bind fun y5 =>
      (gX12_standNow y5.2 ).bind fun y6 =>
      (gX12_isAgain y5.2 ).bind fun y7 =>
      if x2 = 0 then (
        if (y7.1 23) = 0 then (
          gX12_judge_105 y7 (-1 : Int32)) else (
          gX12_judge_105 y7 y5.1)) else (
        if x2 = (1 : Int32) then (
          gX12_judge_105 y7 (y7.1 23)) else (
          if x2 = (2 : Int32) then (
            (gX12_metIn y7 y6).bind fun y9 =>
            gX12_judge_105 y7 y9) else (
            (gX12_gapsIn y7 y6).bind fun y8 =>
            gX12_judge_105 y7 y8)))) else (
      some ((y3, m1))))
theorem lX12_judge (a : Nat) (h : Hp) (m : Mu) (x1 : Int32) (x2 : Int32) : fX12_judge (mput a h m) a x1 x2 = (gX12_judge m x1 x2).map (fun (y : (Int32 × Mu)) => (y.1, mput a h y.2)) := by
  unfold fX12_judge gX12_judge
  simp only [lift_sV_0, lX12_within, lX12_noTray, lX12_keeps, lX12_tells, lX12_standNow, lX12_isAgain, lX12_gapsIn, lX12_judge_105, lX12_metIn, lift_gI_23, lift_lt, lift_gO, k_bs, k_mb, k_ms, k_bm, k_mm, k_il, k_ir, lift_ite, k_id]
noncomputable def gX12_perform_35 (m : Mu) (x3 : Int32) : Option (Int32 × Mu) :=
  some ((x3, m))
theorem lX12_perform_35 (a : Nat) (h : Hp) (m : Mu) (x3 : Int32) : fX12_perform_35 (mput a h m) x3 = (gX12_perform_35 m x3).map (fun (y : (Int32 × Mu)) => (y.1, mput a h y.2)) := by
  unfold fX12_perform_35 gX12_perform_35
  simp only [lift_lt, lift_gO, k_bs, k_mb, k_ms, k_bm, k_mm, k_il, k_ir, lift_ite, k_id]
noncomputable def gX12_perform (m : Mu) (x1 : Int32) : Option (Int32 × Mu) :=
  lt (mI m 0 (0 : Int32)) fun m1 =>
  (gX12_noTray m1 x1).bind fun y2 =>
  if y2 = 0 then (
    (gX12_keeps m1 ).bind fun y3 =>
    (gX12_tells y3 x1).bind fun y4 =>
    if y4.1 ≤ 0 then (
    gX12_perform_35 y4.2 y4.1) else (
      (gX12_notes y4.2 ).bind fun y5 =>
      gX12_perform_35 y5 y4.1)) else (
    some ((y2, m1)))
theorem lX12_perform (a : Nat) (h : Hp) (m : Mu) (x1 : Int32) : fX12_perform (mput a h m) a x1 = (gX12_perform m x1).map (fun (y : (Int32 × Mu)) => (y.1, mput a h y.2)) := by
  unfold fX12_perform gX12_perform
  simp only [lift_sV_0, lX12_noTray, lX12_keeps, lX12_tells, lX12_perform_35, lX12_notes, lift_lt, lift_gO, k_bs, k_mb, k_ms, k_bm, k_mm, k_il, k_ir, lift_ite, k_id]
noncomputable def gX12_draw (m : Mu) (x1 : Int32) : Option (Int32 × Mu) :=
  lt (mI m 24 (((1103515245 : Int32) * (m.1 24)) + (12345 : Int32))) fun m1 =>
  lt (((m1.1 24).toUInt32 >>> ((16 : Int32).toUInt32 &&& Int32.toUInt32 31)).toInt32) fun w2 =>
  (rm w2 x1).bind fun v3 =>
  some ((v3, m1))
theorem lX12_draw (a : Nat) (h : Hp) (m : Mu) (x1 : Int32) : fX12_draw (mput a h m) a x1 = (gX12_draw m x1).map (fun (y : (Int32 × Mu)) => (y.1, mput a h y.2)) := by
  unfold fX12_draw gX12_draw
  simp only [lift_gI_24, lift_sV_24, lift_lt, lift_gO, k_bs, k_mb, k_ms, k_bm, k_mm, k_il, k_ir, lift_ite, k_id]
