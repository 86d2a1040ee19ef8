/-! the class over its own numbers -/
noncomputable def gX11_surely_66 (h : Hp) (c : Ch) (s0 : Int32) : Option (Int32 × Ch) :=
  some ((s0, c))
theorem lX11_surely_66 (h : Hp) (c : Ch) (s0 : Int32) : fX11_surely_66 (cput h c) s0 = (gX11_surely_66 h c s0).map (fun (y : (Int32 × Ch)) => (y.1, cput h y.2)) := by
  unfold fX11_surely_66 gX11_surely_66
  simp only [lift_lt, k_bs, k_mb, k_ms, k_bm, k_mm, k_il, k_ir, lift_ite, k_id]
noncomputable def gX11_surely (h : Hp) (c : Ch) (x1 : Int32) (x2 : Int32) (x3 : Int32) : Option (Int32 × Ch) :=
  (gX11_isDryness x3).bind fun y1 =>
  if y1 = 0 then (
    some (((-2 : Int32), c))) else (
    (gX11_seenRefusal h c x1 x2).bind fun y2 =>
    if y2 = 0 then (
      (gX11_traceSeen h c x1 x2).bind fun y3 =>
      if (y3.1 115 4) = 0 then (
        some (((0 : Int32), y3))) else (
        if x3 = (1 : Int32) then (
          gX11_surely_66 h y3 (y3.1 115 6)) else (
          gX11_surely_66 h y3 (y3.1 115 7)))) else (
      some ((y2, c))))
theorem lX11_surely (h : Hp) (c : Ch) (x1 : Int32) (x2 : Int32) (x3 : Int32) : fX11_surely (cput h c) 80 x1 x2 x3 = (gX11_surely h c x1 x2 x3).map (fun (y : (Int32 × Ch)) => (y.1, cput h y.2)) := by
  unfold fX11_surely gX11_surely
  simp only [lX11_isDryness, cgO_80, lX11_seenRefusal, lX11_traceSeen, cgN_80_13, cgI_115_4, cgI_115_7, lX11_surely_66, cgI_115_6, lift_lt, k_bs, k_mb, k_ms, k_bm, k_mm, k_il, k_ir, lift_ite, k_id]
noncomputable def gX10_isSeenSo_61 (h : Hp) (c : Ch) (x1 : Nat) (x2 : Int32) (x4 : Int32) (x5 : Int32) (x6 : Int32) : Option ((Int32 × Int32 × Ch) ⊕ (Int32 × Ch)) :=
  some (.inl (x5, (x6 + Int32.ofInt 1), c))
theorem lX10_isSeenSo_61 (h : Hp) (c : Ch) (x1 : Nat) (x2 : Int32) (x4 : Int32) (x5 : Int32) (x6 : Int32) : fX10_isSeenSo_61 (cput h c) 114 (tadr x1) x2 x4 x5 x6 = (gX10_isSeenSo_61 h c x1 x2 x4 x5 x6).map (Sum.map (fun (s : (Int32 × Int32 × Ch)) => (s.1, s.2.1, cput h s.2.2)) (fun (y : (Int32 × Ch)) => (y.1, cput h y.2))) := by
  unfold fX10_isSeenSo_61 gX10_isSeenSo_61
  simp only [lift_lt, k_bs, k_mb, k_ms, k_bm, k_mm, k_il, k_ir, lift_ite, k_id]
noncomputable def gX10_isSeenSo_6b (h : Hp) (c : Ch) (x1 : Nat) (x2 : Int32) (x4 : Int32) (x5 : Int32) (x6 : Int32) : Option ((Int32 × Int32 × Ch) ⊕ (Int32 × Ch)) :=
  if (c.1 (tadr x1) 3) ≤ x6 then (
    some (.inr ((1 : Int32), c))) else (
    (gX1_after h c x5 x4 (0 : Int32)).bind fun y1 =>
    (gX9_at h y1.2 x1 x6).bind fun y2 =>
    if (lg_cmp y2 (-1 : Int64)) = 0 then (
    gX10_isSeenSo_61 h y1.2 x1 x2 x4 y1.1 x6) else (
      (gX9_at h y1.2 x1 x6).bind fun y3 =>
      (gX11_digit y1.1 x2).bind fun y4 =>
      if (lg_cmp y3 (y4.toInt64)) = 0 then (
      gX10_isSeenSo_61 h y1.2 x1 x2 x4 y1.1 x6) else (
        some (.inr ((0 : Int32), y1.2)))))
noncomputable def gX10_isSeenSo_6 (h : Hp) (c : Ch) (x1 : Nat) (x2 : Int32) (x4 : Int32) (x5 : Int32) (x6 : Int32) : Option (Int32 × Ch) := lpw (σ := (Int32 × Int32 × Ch)) (fun s => gX10_isSeenSo_6b h s.2.2 x1 x2 x4 s.1 s.2.1) (x5, x6, c)
theorem lX10_isSeenSo_6b (h : Hp) (c : Ch) (x1 : Nat) (x2 : Int32) (x4 : Int32) (x5 : Int32) (x6 : Int32) : fX10_isSeenSo_6b (cput h c) 114 (tadr x1) x2 x4 x5 x6 = (gX10_isSeenSo_6b h c x1 x2 x4 x5 x6).map (Sum.map (fun (s : (Int32 × Int32 × Ch)) => (s.1, s.2.1, cput h s.2.2)) (fun (y : (Int32 × Ch)) => (y.1, cput h y.2))) := by
  unfold fX10_isSeenSo_6b gX10_isSeenSo_6b
  simp only [cgI_t_3, cgN_114_0, cgO_108, lX1_after, cgO_t, lX9_at, lX10_isSeenSo_61, lX11_digit, lift_lt, k_bs, k_mb, k_ms, k_bm, k_mm, k_il, k_ir, lift_ite, k_id]
theorem lX10_isSeenSo_6 (h : Hp) (c : Ch) (x1 : Nat) (x2 : Int32) (x4 : Int32) (x5 : Int32) (x6 : Int32) : fX10_isSeenSo_6 (cput h c) 114 (tadr x1) x2 x4 x5 x6 = (gX10_isSeenSo_6 h c x1 x2 x4 x5 x6).map (fun (y : (Int32 × Ch)) => (y.1, cput h y.2)) := by
  unfold fX10_isSeenSo_6 gX10_isSeenSo_6
  exact lpw_map _ _ (fun (s : (Int32 × Int32 × Ch)) => (s.1, s.2.1, cput h s.2.2)) (fun (y : (Int32 × Ch)) => (y.1, cput h y.2)) (fun s => lX10_isSeenSo_6b h s.2.2 x1 x2 x4 s.1 s.2.1) (x5, x6, c)
noncomputable def gX10_isSeenSo (h : Hp) (c : Ch) (x1 : Nat) (x2 : Int32) (x3 : Int32) (x4 : Int32) : Option (Int32 × Ch) :=
  gX10_isSeenSo_6 h c x1 x2 x4 x3 (0 : Int32)
theorem lX10_isSeenSo (h : Hp) (c : Ch) (x1 : Nat) (x2 : Int32) (x3 : Int32) (x4 : Int32) : fX10_isSeenSo (cput h c) 114 (tadr x1) x2 x3 x4 = (gX10_isSeenSo h c x1 x2 x3 x4).map (fun (y : (Int32 × Ch)) => (y.1, cput h y.2)) := by
  unfold fX10_isSeenSo gX10_isSeenSo
  simp only [lX10_isSeenSo_6, lift_lt, k_bs, k_mb, k_ms, k_bm, k_mm, k_il, k_ir, lift_ite, k_id]
noncomputable def gX11_chalkBits_74 (h : Hp) (c : Ch) (x1 : Int32) (x2 : Int32) (x3 : Int32) (x4 : Int32) : Option ((Int32 × Int32 × Ch) ⊕ (Int32 × Ch)) :=
  some (.inl (x3, (x4 + Int32.ofInt 1), c))
theorem lX11_chalkBits_74 (h : Hp) (c : Ch) (x1 : Int32) (x2 : Int32) (x3 : Int32) (x4 : Int32) : fX11_chalkBits_74 (cput h c) 80 x1 x2 x3 x4 = (gX11_chalkBits_74 h c x1 x2 x3 x4).map (Sum.map (fun (s : (Int32 × Int32 × Ch)) => (s.1, s.2.1, cput h s.2.2)) (fun (y : (Int32 × Ch)) => (y.1, cput h y.2))) := by
  unfold fX11_chalkBits_74 gX11_chalkBits_74
  simp only [lift_lt, k_bs, k_mb, k_ms, k_bm, k_mm, k_il, k_ir, lift_ite, k_id]
noncomputable def gX11_chalkBits_5b (h : Hp) (c : Ch) (x1 : Int32) (x2 : Int32) (x3 : Int32) (x4 : Int32) : Option ((Int32 × Int32 × Ch) ⊕ (Int32 × Ch)) :=
  if (9 : Int32) < x4 then (
    some (.inr (x3, c))) else (
    (c.2.2.1 80 3).bind fun v1 =>
    (gX11_withDigit (c.1 (sadr 0) 1) x2 x4).bind fun y2 =>
    (gX1_tune h c v1 y2).bind fun y3 =>
    iff_ (inB x1 4) (
    (gX10_isSeenSo h y3 (x1.toNatClampNeg) x2 (y3.1 (sadr 0) 0) (y3.1 (sadr 0) 2)).bind fun y5 =>
    if y5.1 = 0 then (
    gX11_chalkBits_74 h y5.2 x1 x2 x3 x4) else (
      gX11_chalkBits_74 h y5.2 x1 x2 (x3 ||| ((1 : Int32) <<< (x4 &&& 31))) x4)))
noncomputable def gX11_chalkBits_5 (h : Hp) (c : Ch) (x1 : Int32) (x2 : Int32) (x3 : Int32) (x4 : Int32) : Option (Int32 × Ch) := lpw (σ := (Int32 × Int32 × Ch)) (fun s => gX11_chalkBits_5b h s.2.2 x1 x2 s.1 s.2.1) (x3, x4, c)
theorem lX11_chalkBits_5b (h : Hp) (c : Ch) (x1 : Int32) (x2 : Int32) (x3 : Int32) (x4 : Int32) : fX11_chalkBits_5b (cput h c) 80 x1 x2 x3 x4 = (gX11_chalkBits_5b h c x1 x2 x3 x4).map (Sum.map (fun (s : (Int32 × Int32 × Ch)) => (s.1, s.2.1, cput h s.2.2)) (fun (y : (Int32 × Ch)) => (y.1, cput h y.2))) := by
  unfold fX11_chalkBits_5b gX11_chalkBits_5b
  simp only [cgN_80_11, cgN_80_3, cgN_80_4, cgI_s_1, lX11_withDigit, cgO_108, lX1_tune, cgN_80_12, cgN_80_8, c_aN105, iff_map, cgI_s_0, cgI_s_2, cgO_114, lX10_isSeenSo, lX11_chalkBits_74, lift_lt, k_bs, k_mb, k_ms, k_bm, k_mm, k_il, k_ir, lift_ite, k_id]
theorem lX11_chalkBits_5 (h : Hp) (c : Ch) (x1 : Int32) (x2 : Int32) (x3 : Int32) (x4 : Int32) : fX11_chalkBits_5 (cput h c) 80 x1 x2 x3 x4 = (gX11_chalkBits_5 h c x1 x2 x3 x4).map (fun (y : (Int32 × Ch)) => (y.1, cput h y.2)) := by
  unfold fX11_chalkBits_5 gX11_chalkBits_5
  exact lpw_map _ _ (fun (s : (Int32 × Int32 × Ch)) => (s.1, s.2.1, cput h s.2.2)) (fun (y : (Int32 × Ch)) => (y.1, cput h y.2)) (fun s => lX11_chalkBits_5b h s.2.2 x1 x2 s.1 s.2.1) (x3, x4, c)
noncomputable def gX11_chalkBits (h : Hp) (c : Ch) (x1 : Int32) (x2 : Int32) : Option (Int32 × Ch) :=
  gX11_chalkBits_5 h c x1 x2 (0 : Int32) (0 : Int32)
theorem lX11_chalkBits (h : Hp) (c : Ch) (x1 : Int32) (x2 : Int32) : fX11_chalkBits (cput h c) 80 x1 x2 = (gX11_chalkBits h c x1 x2).map (fun (y : (Int32 × Ch)) => (y.1, cput h y.2)) := by
  unfold fX11_chalkBits gX11_chalkBits
  simp only [lX11_chalkBits_5, lift_lt, k_bs, k_mb, k_ms, k_bm, k_mm, k_il, k_ir, lift_ite, k_id]
noncomputable def gX11_chalks_21 (h : Hp) (c : Ch) (s0 : Int32) : Option (Int32 × Ch) :=
  some ((s0, c))
theorem lX11_chalks_21 (h : Hp) (c : Ch) (s0 : Int32) : fX11_chalks_21 (cput h c) s0 = (gX11_chalks_21 h c s0).map (fun (y : (Int32 × Ch)) => (y.1, cput h y.2)) := by
  unfold fX11_chalks_21 gX11_chalks_21
  simp only [lift_lt, k_bs, k_mb, k_ms, k_bm, k_mm, k_il, k_ir, lift_ite, k_id]
noncomputable def gX11_chalks (h : Hp) (c : Ch) (x1 : Int32) (x2 : Int32) : Option (Int32 × Ch) :=
  (gX11_seenRefusal h c x1 x2).bind fun y1 =>
  if y1 = 0 then (
    (gX11_chalkBits h c x1 x2).bind fun y2 =>
    gX11_chalks_21 h y2.2 y2.1) else (
    gX11_chalks_21 h c y1)
theorem lX11_chalks (h : Hp) (c : Ch) (x1 : Int32) (x2 : Int32) : fX11_chalks (cput h c) 80 x1 x2 = (gX11_chalks h c x1 x2).map (fun (y : (Int32 × Ch)) => (y.1, cput h y.2)) := by
  unfold fX11_chalks gX11_chalks
  simp only [cgO_80, lX11_seenRefusal, lX11_chalkBits, lX11_chalks_21, lift_lt, k_bs, k_mb, k_ms, k_bm, k_mm, k_il, k_ir, lift_ite, k_id]
noncomputable def gX11_mostAlike_139 (h : Hp) (c : Ch) (x1 : Int32) (x2 : Int32) (x3 : Int32) (x4 : Int32) (x5 : Int32) : Option ((Int32 × Int32 × Ch) ⊕ (Int32 × Ch)) :=
  some (.inl (x4, (x5 + Int32.ofInt 1), c))
theorem lX11_mostAlike_139 (h : Hp) (c : Ch) (x1 : Int32) (x2 : Int32) (x3 : Int32) (x4 : Int32) (x5 : Int32) : fX11_mostAlike_139 (cput h c) 80 x1 x2 x3 x4 x5 = (gX11_mostAlike_139 h c x1 x2 x3 x4 x5).map (Sum.map (fun (s : (Int32 × Int32 × Ch)) => (s.1, s.2.1, cput h s.2.2)) (fun (y : (Int32 × Ch)) => (y.1, cput h y.2))) := by
  unfold fX11_mostAlike_139 gX11_mostAlike_139
  simp only [lift_lt, k_bs, k_mb, k_ms, k_bm, k_mm, k_il, k_ir, lift_ite, k_id]
noncomputable def gX11_mostAlike_14b (h : Hp) (c : Ch) (x1 : Int32) (x2 : Int32) (x3 : Int32) (x4 : Int32) (x5 : Int32) : Option ((Int32 × Int32 × Ch) ⊕ (Int32 × Ch)) :=
  if (9 : Int32) < x5 then (
    some (.inr (x4, c))) else (
    if ((x1 >>> (x5 &&& 31)) &&& (1 : Int32)) = (1 : Int32) then (
      (c.2.2.1 80 3).bind fun v2 =>
      (gX11_withDigit (c.1 (sadr 0) 1) x2 x5).bind fun y3 =>
      (gX1_tune h c v2 y3).bind fun y4 =>
      (gX11_digit (y4.1 (sadr 0) 0) x2).bind fun y5 =>
      (y4.2.2.1 80 3).bind fun v6 =>
      gO (cput h y4) 0 v6 (
      (fX0_metCount (cput h y4) v6 (y4.1 (sadr 0) 0)).bind fun y7 =>
      (gX1_growth h y4 x2 x3 y5 y7 (0 : Int32)).bind fun y8 =>
      if (y8.1 + (9 : Int32)) < 0 then (
      gX11_mostAlike_139 h y8.2 x1 x2 x3 x4 x5) else (
        if (Int32.ofNat 19) ≤ (y8.1 + (9 : Int32)) then (
        gX11_mostAlike_139 h y8.2 x1 x2 x3 x4 x5) else (
          (cA y8.2 127 19 (y8.1 + (9 : Int32))).bind fun v9 =>
          (cWA y8.2 0 127 19 (y8.1 + (9 : Int32)) (v9 + (1 : Int32))).bind fun c10 =>
          (cA c10 127 19 (y8.1 + (9 : Int32))).bind fun v11 =>
          gX11_mostAlike_139 h c10 x1 x2 x3 (imax x4 v11) x5)))) else (
    gX11_mostAlike_139 h c x1 x2 x3 x4 x5))
noncomputable def gX11_mostAlike_14 (h : Hp) (c : Ch) (x1 : Int32) (x2 : Int32) (x3 : Int32) (x4 : Int32) (x5 : Int32) : Option (Int32 × Ch) := lpw (σ := (Int32 × Int32 × Ch)) (fun s => gX11_mostAlike_14b h s.2.2 x1 x2 x3 s.1 s.2.1) (x4, x5, c)
theorem lX11_mostAlike_14b (h : Hp) (c : Ch) (x1 : Int32) (x2 : Int32) (x3 : Int32) (x4 : Int32) (x5 : Int32) : fX11_mostAlike_14b (cput h c) 80 x1 x2 x3 x4 x5 = (gX11_mostAlike_14b h c x1 x2 x3 x4 x5).map (Sum.map (fun (s : (Int32 × Int32 × Ch)) => (s.1, s.2.1, cput h s.2.2)) (fun (y : (Int32 × Ch)) => (y.1, cput h y.2))) := by
  unfold fX11_mostAlike_14b gX11_mostAlike_14b
  simp only [lX11_mostAlike_139, cgN_80_11, cgN_80_3, cgN_80_4, cgI_s_1, lX11_withDigit, cgO_108, lX1_tune, cgI_s_0, lX11_digit, lift_gOm, lX1_growth, cgN_80_17, caL_127, caI_127, cwI_127, lift_lt, k_bs, k_mb, k_ms, k_bm, k_mm, k_il, k_ir, lift_ite, k_id]
theorem lX11_mostAlike_14 (h : Hp) (c : Ch) (x1 : Int32) (x2 : Int32) (x3 : Int32) (x4 : Int32) (x5 : Int32) : fX11_mostAlike_14 (cput h c) 80 x1 x2 x3 x4 x5 = (gX11_mostAlike_14 h c x1 x2 x3 x4 x5).map (fun (y : (Int32 × Ch)) => (y.1, cput h y.2)) := by
  unfold fX11_mostAlike_14 gX11_mostAlike_14
  exact lpw_map _ _ (fun (s : (Int32 × Int32 × Ch)) => (s.1, s.2.1, cput h s.2.2)) (fun (y : (Int32 × Ch)) => (y.1, cput h y.2)) (fun s => lX11_mostAlike_14b h s.2.2 x1 x2 x3 s.1 s.2.1) (x4, x5, c)
noncomputable def gX11_mostAlike (h : Hp) (c : Ch) (x1 : Int32) (x2 : Int32) (x3 : Int32) : Option (Int32 × Ch) :=
  (gfill_127 c (0 : Int32)).bind fun y1 =>
  gX11_mostAlike_14 h y1 x1 x2 x3 (0 : Int32) (0 : Int32)
theorem lX11_mostAlike (h : Hp) (c : Ch) (x1 : Int32) (x2 : Int32) (x3 : Int32) : fX11_mostAlike (cput h c) 80 x1 x2 x3 = (gX11_mostAlike h c x1 x2 x3).map (fun (y : (Int32 × Ch)) => (y.1, cput h y.2)) := by
  unfold fX11_mostAlike gX11_mostAlike
  simp only [cgN_80_17, lfill_127, lX11_mostAlike_14, lift_lt, k_bs, k_mb, k_ms, k_bm, k_mm, k_il, k_ir, lift_ite, k_id]
noncomputable def gX11_attempt_87 (h : Hp) (c : Ch) (x2 : Int32) (x4 : Int32) (x5 : Int32) (x6 : Int32) (x7 : Int32) : Option ((Int32 × Int32 × Int32 × Ch) ⊕ (Int32 × Ch)) :=
  some (.inl (x5, x6, (x7 + Int32.ofInt 1), c))
theorem lX11_attempt_87 (h : Hp) (c : Ch) (x2 : Int32) (x4 : Int32) (x5 : Int32) (x6 : Int32) (x7 : Int32) : fX11_attempt_87 (cput h c) 80 x2 x4 x5 x6 x7 = (gX11_attempt_87 h c x2 x4 x5 x6 x7).map (Sum.map (fun (s : (Int32 × Int32 × Int32 × Ch)) => (s.1, s.2.1, s.2.2.1, cput h s.2.2.2)) (fun (y : (Int32 × Ch)) => (y.1, cput h y.2))) := by
  unfold fX11_attempt_87 gX11_attempt_87
  simp only [lift_lt, k_bs, k_mb, k_ms, k_bm, k_mm, k_il, k_ir, lift_ite, k_id]
noncomputable def gX11_attempt_55b (h : Hp) (c : Ch) (x2 : Int32) (x4 : Int32) (x5 : Int32) (x6 : Int32) (x7 : Int32) : Option ((Int32 × Int32 × Int32 × Ch) ⊕ (Int32 × Ch)) :=
  if (4 : Int32) < x7 then (
    some (.inr (x5, c))) else (
    (gX11_mostAlike h c x4 x2 x7).bind fun y4 =>
    if x6 ≤ y4.1 then (
    gX11_attempt_87 h y4.2 x2 x4 x5 x6 x7) else (
      gX11_attempt_87 h y4.2 x2 x4 x7 y4.1 x7))
noncomputable def gX11_attempt_55 (h : Hp) (c : Ch) (x2 : Int32) (x4 : Int32) (x5 : Int32) (x6 : Int32) (x7 : Int32) : Option (Int32 × Ch) := lpw (σ := (Int32 × Int32 × Int32 × Ch)) (fun s => gX11_attempt_55b h s.2.2.2 x2 x4 s.1 s.2.1 s.2.2.1) (x5, x6, x7, c)
theorem lX11_attempt_55b (h : Hp) (c : Ch) (x2 : Int32) (x4 : Int32) (x5 : Int32) (x6 : Int32) (x7 : Int32) : fX11_attempt_55b (cput h c) 80 x2 x4 x5 x6 x7 = (gX11_attempt_55b h c x2 x4 x5 x6 x7).map (Sum.map (fun (s : (Int32 × Int32 × Int32 × Ch)) => (s.1, s.2.1, s.2.2.1, cput h s.2.2.2)) (fun (y : (Int32 × Ch)) => (y.1, cput h y.2))) := by
  unfold fX11_attempt_55b gX11_attempt_55b
  simp only [cgO_80, lX11_mostAlike, lX11_attempt_87, lift_lt, k_bs, k_mb, k_ms, k_bm, k_mm, k_il, k_ir, lift_ite, k_id]
theorem lX11_attempt_55 (h : Hp) (c : Ch) (x2 : Int32) (x4 : Int32) (x5 : Int32) (x6 : Int32) (x7 : Int32) : fX11_attempt_55 (cput h c) 80 x2 x4 x5 x6 x7 = (gX11_attempt_55 h c x2 x4 x5 x6 x7).map (fun (y : (Int32 × Ch)) => (y.1, cput h y.2)) := by
  unfold fX11_attempt_55 gX11_attempt_55
  exact lpw_map _ _ (fun (s : (Int32 × Int32 × Int32 × Ch)) => (s.1, s.2.1, s.2.2.1, cput h s.2.2.2)) (fun (y : (Int32 × Ch)) => (y.1, cput h y.2)) (fun s => lX11_attempt_55b h s.2.2.2 x2 x4 s.1 s.2.1 s.2.2.1) (x5, x6, x7, c)
noncomputable def gX11_attempt (h : Hp) (c : Ch) (x1 : Int32) (x2 : Int32) : Option (Int32 × Ch) :=
  (gX11_seenRefusal h c x1 x2).bind fun y1 =>
  if y1 = 0 then (
    (gX11_digit (c.1 (sadr 0) 0) x2).bind fun y2 =>
    if y2 = 0 then (
      some (((-5 : Int32), c))) else (
      (gX11_chalkBits h c x1 x2).bind fun y3 =>
      if y3.1 = 0 then (
        some (((-1 : Int32), y3.2))) else (
        gX11_attempt_55 h y3.2 x2 y3.1 (0 : Int32) (11 : Int32) (0 : Int32)))) else (
    some ((y1, c)))
theorem lX11_attempt (h : Hp) (c : Ch) (x1 : Int32) (x2 : Int32) : fX11_attempt (cput h c) 80 x1 x2 = (gX11_attempt h c x1 x2).map (fun (y : (Int32 × Ch)) => (y.1, cput h y.2)) := by
  unfold fX11_attempt gX11_attempt
  simp only [cgO_80, lX11_seenRefusal, cgN_80_4, cgI_s_0, lX11_digit, lX11_chalkBits, lX11_attempt_55, lift_lt, k_bs, k_mb, k_ms, k_bm, k_mm, k_il, k_ir, lift_ite, k_id]
noncomputable def gX7_mayBeForced_102 (h : Hp) (c : Ch) (x1 : Int32) (x2 : Int32) (x3 : Int32) (x4 : Int32) : Option ((Int32 × Ch) ⊕ (Int32 × Ch)) :=
  some (.inl ((x4 + Int32.ofInt 1), c))
theorem lX7_mayBeForced_102 (h : Hp) (c : Ch) (x1 : Int32) (x2 : Int32) (x3 : Int32) (x4 : Int32) : fX7_mayBeForced_102 (cput h c) 116 x1 x2 x3 x4 = (gX7_mayBeForced_102 h c x1 x2 x3 x4).map (Sum.map (fun (s : (Int32 × Ch)) => (s.1, cput h s.2)) (fun (y : (Int32 × Ch)) => (y.1, cput h y.2))) := by
  unfold fX7_mayBeForced_102 gX7_mayBeForced_102
  simp only [lift_lt, k_bs, k_mb, k_ms, k_bm, k_mm, k_il, k_ir, lift_ite, k_id]
noncomputable def gX7_mayBeForced_96 (h : Hp) (c : Ch) (x1 : Int32) (x2 : Int32) (x3 : Int32) (x4 : Int32) (x5 : Int32) : Option ((Int32 × Ch) ⊕ ((Int32 × Ch) ⊕ (Int32 × Ch))) :=
  some (.inl ((x5 + Int32.ofInt 1), c))
theorem lX7_mayBeForced_96 (h : Hp) (c : Ch) (x1 : Int32) (x2 : Int32) (x3 : Int32) (x4 : Int32) (x5 : Int32) : fX7_mayBeForced_96 (cput h c) 116 x1 x2 x3 x4 x5 = (gX7_mayBeForced_96 h c x1 x2 x3 x4 x5).map (Sum.map (fun (s : (Int32 × Ch)) => (s.1, cput h s.2)) (Sum.map (fun (s : (Int32 × Ch)) => (s.1, cput h s.2)) (fun (y : (Int32 × Ch)) => (y.1, cput h y.2)))) := by
  unfold fX7_mayBeForced_96 gX7_mayBeForced_96
  simp only [lift_lt, k_bs, k_mb, k_ms, k_bm, k_mm, k_il, k_ir, lift_ite, k_id]
noncomputable def gX7_mayBeForced_18b (h : Hp) (c : Ch) (x1 : Int32) (x2 : Int32) (x3 : Int32) (x4 : Int32) (x5 : Int32) : Option ((Int32 × Ch) ⊕ ((Int32 × Ch) ⊕ (Int32 × Ch))) :=
  (c.2.2.1 116 1).bind fun v3 =>
  (gI (cput h c) 0 v3 1).bind fun v4 =>
  if v4 < x5 then (
  (gX7_mayBeForced_102 h c x1 x2 x3 x4).map (fun q => .inr q)) else (
    (gX1_growth h c x1 x5 x2 x4 (0 : Int32)).bind fun y5 =>
    (gX1_kept (x2 - y5.1)).bind fun y6 =>
    (gX1_growth h y5.2 x1 x5 x2 x4 (1 : Int32)).bind fun y7 =>
    (gX1_kept (x2 - y7.1)).bind fun y8 =>
    (cA y7.2 124 10 y6).bind fun v9 =>
    if x3 < v9 then (
    gX7_mayBeForced_96 h y7.2 x1 x2 x3 x4 x5) else (
      (cA y7.2 124 10 y8).bind fun v10 =>
      if x3 < v10 then (
      gX7_mayBeForced_96 h y7.2 x1 x2 x3 x4 x5) else (
        some (.inr (.inr ((1 : Int32), y7.2))))))
noncomputable def gX7_mayBeForced_18 (h : Hp) (c : Ch) (x1 : Int32) (x2 : Int32) (x3 : Int32) (x4 : Int32) (x5 : Int32) : Option ((Int32 × Ch) ⊕ (Int32 × Ch)) := lpw (σ := (Int32 × Ch)) (fun s => gX7_mayBeForced_18b h s.2 x1 x2 x3 x4 s.1) (x5, c)
theorem lX7_mayBeForced_18b (h : Hp) (c : Ch) (x1 : Int32) (x2 : Int32) (x3 : Int32) (x4 : Int32) (x5 : Int32) : fX7_mayBeForced_18b (cput h c) 116 x1 x2 x3 x4 x5 = (gX7_mayBeForced_18b h c x1 x2 x3 x4 x5).map (Sum.map (fun (s : (Int32 × Ch)) => (s.1, cput h s.2)) (Sum.map (fun (s : (Int32 × Ch)) => (s.1, cput h s.2)) (fun (y : (Int32 × Ch)) => (y.1, cput h y.2)))) := by
  unfold fX7_mayBeForced_18b gX7_mayBeForced_18b
  simp only [cgN_116_1, lX7_mayBeForced_102, cgN_116_0, cgO_108, lX1_growth, lX1_kept, cgN_116_11, caI_124, lX7_mayBeForced_96, lift_lt, k_bs, k_mb, k_ms, k_bm, k_mm, k_il, k_ir, lift_ite, k_id]
theorem lX7_mayBeForced_18 (h : Hp) (c : Ch) (x1 : Int32) (x2 : Int32) (x3 : Int32) (x4 : Int32) (x5 : Int32) : fX7_mayBeForced_18 (cput h c) 116 x1 x2 x3 x4 x5 = (gX7_mayBeForced_18 h c x1 x2 x3 x4 x5).map (Sum.map (fun (s : (Int32 × Ch)) => (s.1, cput h s.2)) (fun (y : (Int32 × Ch)) => (y.1, cput h y.2))) := by
  unfold fX7_mayBeForced_18 gX7_mayBeForced_18
  exact lpw_map _ _ (fun (s : (Int32 × Ch)) => (s.1, cput h s.2)) (Sum.map (fun (s : (Int32 × Ch)) => (s.1, cput h s.2)) (fun (y : (Int32 × Ch)) => (y.1, cput h y.2))) (fun s => lX7_mayBeForced_18b h s.2 x1 x2 x3 x4 s.1) (x5, c)
noncomputable def gX7_mayBeForced_3b (h : Hp) (c : Ch) (x1 : Int32) (x2 : Int32) (x3 : Int32) (x4 : Int32) : Option ((Int32 × Ch) ⊕ (Int32 × Ch)) :=
  (c.2.2.1 116 1).bind fun v1 =>
  (gI (cput h c) 0 v1 0).bind fun v2 =>
  if v2 ≤ x4 then (
    some (.inr ((0 : Int32), c))) else (
    gX7_mayBeForced_18 h c x1 x2 x3 x4 (0 : Int32))
noncomputable def gX7_mayBeForced_3 (h : Hp) (c : Ch) (x1 : Int32) (x2 : Int32) (x3 : Int32) (x4 : Int32) : Option (Int32 × Ch) := lpw (σ := (Int32 × Ch)) (fun s => gX7_mayBeForced_3b h s.2 x1 x2 x3 s.1) (x4, c)
theorem lX7_mayBeForced_3b (h : Hp) (c : Ch) (x1 : Int32) (x2 : Int32) (x3 : Int32) (x4 : Int32) : fX7_mayBeForced_3b (cput h c) 116 x1 x2 x3 x4 = (gX7_mayBeForced_3b h c x1 x2 x3 x4).map (Sum.map (fun (s : (Int32 × Ch)) => (s.1, cput h s.2)) (fun (y : (Int32 × Ch)) => (y.1, cput h y.2))) := by
  unfold fX7_mayBeForced_3b gX7_mayBeForced_3b
  simp only [cgN_116_1, lX7_mayBeForced_18, lift_lt, k_bs, k_mb, k_ms, k_bm, k_mm, k_il, k_ir, lift_ite, k_id]
theorem lX7_mayBeForced_3 (h : Hp) (c : Ch) (x1 : Int32) (x2 : Int32) (x3 : Int32) (x4 : Int32) : fX7_mayBeForced_3 (cput h c) 116 x1 x2 x3 x4 = (gX7_mayBeForced_3 h c x1 x2 x3 x4).map (fun (y : (Int32 × Ch)) => (y.1, cput h y.2)) := by
  unfold fX7_mayBeForced_3 gX7_mayBeForced_3
  exact lpw_map _ _ (fun (s : (Int32 × Ch)) => (s.1, cput h s.2)) (fun (y : (Int32 × Ch)) => (y.1, cput h y.2)) (fun s => lX7_mayBeForced_3b h s.2 x1 x2 x3 s.1) (x4, c)
noncomputable def gX7_mayBeForced (h : Hp) (c : Ch) (x1 : Int32) (x2 : Int32) (x3 : Int32) : Option (Int32 × Ch) :=
  gX7_mayBeForced_3 h c x1 x2 x3 (0 : Int32)
theorem lX7_mayBeForced (h : Hp) (c : Ch) (x1 : Int32) (x2 : Int32) (x3 : Int32) : fX7_mayBeForced (cput h c) 116 x1 x2 x3 = (gX7_mayBeForced h c x1 x2 x3).map (fun (y : (Int32 × Ch)) => (y.1, cput h y.2)) := by
  unfold fX7_mayBeForced gX7_mayBeForced
  simp only [lX7_mayBeForced_3, lift_lt, k_bs, k_mb, k_ms, k_bm, k_mm, k_il, k_ir, lift_ite, k_id]
noncomputable def gX7_tellLeastYears_70 (h : Hp) (c : Ch) (x1 : Int32) (x2 : Int32) : Option ((Int32 × Ch) ⊕ Ch) :=
  some (.inl ((x2 + Int32.ofInt 1), c))
theorem lX7_tellLeastYears_70 (h : Hp) (c : Ch) (x1 : Int32) (x2 : Int32) : fX7_tellLeastYears_70 (cput h c) 116 x1 x2 = (gX7_tellLeastYears_70 h c x1 x2).map (Sum.map (fun (s : (Int32 × Ch)) => (s.1, cput h s.2)) (cput h)) := by
  unfold fX7_tellLeastYears_70 gX7_tellLeastYears_70
  simp only [lift_lt, k_bs, k_mb, k_ms, k_bm, k_mm, k_il, k_ir, lift_ite, k_id]
noncomputable def gX7_tellLeastYears_64 (h : Hp) (c : Ch) (x1 : Int32) (x2 : Int32) (x3 : Int32) : Option ((Int32 × Ch) ⊕ ((Int32 × Ch) ⊕ Ch)) :=
  some (.inl ((x3 + Int32.ofInt 1), c))
theorem lX7_tellLeastYears_64 (h : Hp) (c : Ch) (x1 : Int32) (x2 : Int32) (x3 : Int32) : fX7_tellLeastYears_64 (cput h c) 116 x1 x2 x3 = (gX7_tellLeastYears_64 h c x1 x2 x3).map (Sum.map (fun (s : (Int32 × Ch)) => (s.1, cput h s.2)) (Sum.map (fun (s : (Int32 × Ch)) => (s.1, cput h s.2)) (cput h))) := by
  unfold fX7_tellLeastYears_64 gX7_tellLeastYears_64
  simp only [lift_lt, k_bs, k_mb, k_ms, k_bm, k_mm, k_il, k_ir, lift_ite, k_id]
noncomputable def gX7_tellLeastYears_27b (h : Hp) (c : Ch) (x1 : Int32) (x2 : Int32) (x3 : Int32) : Option ((Int32 × Ch) ⊕ ((Int32 × Ch) ⊕ Ch)) :=
  if (9 : Int32) < x3 then (
  (gX7_tellLeastYears_70 h c x1 x2).map (fun q => .inr q)) else (
    (cA c 124 10 x3).bind fun v3 =>
    if v3 = (20000 : Int32) then (
      (gX7_mayBeForced h c x1 x3 (x2 - (1 : Int32))).bind fun y4 =>
      if y4.1 = 0 then (
      gX7_tellLeastYears_64 h y4.2 x1 x2 x3) else (
        (cWA y4.2 0 124 10 x3 x2).bind fun c5 =>
        gX7_tellLeastYears_64 h c5 x1 x2 x3)) else (
    gX7_tellLeastYears_64 h c x1 x2 x3))
noncomputable def gX7_tellLeastYears_27 (h : Hp) (c : Ch) (x1 : Int32) (x2 : Int32) (x3 : Int32) : Option ((Int32 × Ch) ⊕ Ch) := lpw (σ := (Int32 × Ch)) (fun s => gX7_tellLeastYears_27b h s.2 x1 x2 s.1) (x3, c)
theorem lX7_tellLeastYears_27b (h : Hp) (c : Ch) (x1 : Int32) (x2 : Int32) (x3 : Int32) : fX7_tellLeastYears_27b (cput h c) 116 x1 x2 x3 = (gX7_tellLeastYears_27b h c x1 x2 x3).map (Sum.map (fun (s : (Int32 × Ch)) => (s.1, cput h s.2)) (Sum.map (fun (s : (Int32 × Ch)) => (s.1, cput h s.2)) (cput h))) := by
  unfold fX7_tellLeastYears_27b gX7_tellLeastYears_27b
  simp only [lX7_tellLeastYears_70, cgN_116_11, caI_124, lX7_tellLeastYears_64, cgO_116, lX7_mayBeForced, cwI_124, lift_lt, k_bs, k_mb, k_ms, k_bm, k_mm, k_il, k_ir, lift_ite, k_id]
theorem lX7_tellLeastYears_27 (h : Hp) (c : Ch) (x1 : Int32) (x2 : Int32) (x3 : Int32) : fX7_tellLeastYears_27 (cput h c) 116 x1 x2 x3 = (gX7_tellLeastYears_27 h c x1 x2 x3).map (Sum.map (fun (s : (Int32 × Ch)) => (s.1, cput h s.2)) (cput h)) := by
  unfold fX7_tellLeastYears_27 gX7_tellLeastYears_27
  exact lpw_map _ _ (fun (s : (Int32 × Ch)) => (s.1, cput h s.2)) (Sum.map (fun (s : (Int32 × Ch)) => (s.1, cput h s.2)) (cput h)) (fun s => lX7_tellLeastYears_27b h s.2 x1 x2 s.1) (x3, c)
noncomputable def gX7_tellLeastYears_19b (h : Hp) (c : Ch) (x1 : Int32) (x2 : Int32) : Option ((Int32 × Ch) ⊕ Ch) :=
  if (9 : Int32) < x2 then (
    some (.inr c)) else (
    gX7_tellLeastYears_27 h c x1 x2 (1 : Int32))
noncomputable def gX7_tellLeastYears_19 (h : Hp) (c : Ch) (x1 : Int32) (x2 : Int32) : Option Ch := lpw (σ := (Int32 × Ch)) (fun s => gX7_tellLeastYears_19b h s.2 x1 s.1) (x2, c)
theorem lX7_tellLeastYears_19b (h : Hp) (c : Ch) (x1 : Int32) (x2 : Int32) : fX7_tellLeastYears_19b (cput h c) 116 x1 x2 = (gX7_tellLeastYears_19b h c x1 x2).map (Sum.map (fun (s : (Int32 × Ch)) => (s.1, cput h s.2)) (cput h)) := by
  unfold fX7_tellLeastYears_19b gX7_tellLeastYears_19b
  simp only [lX7_tellLeastYears_27, lift_lt, k_bs, k_mb, k_ms, k_bm, k_mm, k_il, k_ir, lift_ite, k_id]
theorem lX7_tellLeastYears_19 (h : Hp) (c : Ch) (x1 : Int32) (x2 : Int32) : fX7_tellLeastYears_19 (cput h c) 116 x1 x2 = (gX7_tellLeastYears_19 h c x1 x2).map (cput h) := by
  unfold fX7_tellLeastYears_19 gX7_tellLeastYears_19
  exact lpw_map _ _ (fun (s : (Int32 × Ch)) => (s.1, cput h s.2)) (cput h) (fun s => lX7_tellLeastYears_19b h s.2 x1 s.1) (x2, c)
noncomputable def gX7_tellLeastYears (h : Hp) (c : Ch) (x1 : Int32) : Option Ch :=
  (gfill_124 c (20000 : Int32)).bind fun y1 =>
  (cWA y1 0 124 10 (0 : Int32) (0 : Int32)).bind fun c2 =>
  gX7_tellLeastYears_19 h c2 x1 (1 : Int32)
theorem lX7_tellLeastYears (h : Hp) (c : Ch) (x1 : Int32) : fX7_tellLeastYears (cput h c) 116 x1 = (gX7_tellLeastYears h c x1).map (cput h) := by
  unfold fX7_tellLeastYears gX7_tellLeastYears
  simp only [cgN_116_11, lfill_124, cwI_124, lX7_tellLeastYears_19, lift_lt, k_bs, k_mb, k_ms, k_bm, k_mm, k_il, k_ir, lift_ite, k_id]
noncomputable def gX7_reachOpen_43 (h : Hp) (c : Ch)  : Option Ch :=
  some (c)
theorem lX7_reachOpen_43 (h : Hp) (c : Ch)  : fX7_reachOpen_43 (cput h c)  = (gX7_reachOpen_43 h c ).map (cput h) := by
  unfold fX7_reachOpen_43 gX7_reachOpen_43
  simp only [lift_lt, k_bs, k_mb, k_ms, k_bm, k_mm, k_il, k_ir, lift_ite, k_id]
noncomputable def gX7_reachOpen (h : Hp) (c : Ch) (x1 : Int32) (x2 : Int32) : Option Ch :=
  (gX11_digit x1 x2).bind fun y1 =>
  if (10000 : Int32) ≤ x1 then (
  gX7_reachOpen_43 h c ) else (
    if y1 ≤ 0 then (
    gX7_reachOpen_43 h c ) else (
      (cA c 124 10 y1).bind fun v2 =>
      if v2 = (20000 : Int32) then (
      gX7_reachOpen_43 h c ) else (
        (gX7_isNew h c x1).bind fun y3 =>
        if y3 = 0 then (
        gX7_reachOpen_43 h c ) else (
          (gX7_reach h c x1 (0 : Int32)).bind fun y4 =>
          gX7_reachOpen_43 h y4 ))))
theorem lX7_reachOpen (h : Hp) (c : Ch) (x1 : Int32) (x2 : Int32) : fX7_reachOpen (cput h c) 116 x1 x2 = (gX7_reachOpen h c x1 x2).map (cput h) := by
  unfold fX7_reachOpen gX7_reachOpen
  simp only [lX11_digit, lX7_reachOpen_43, cgN_116_11, caI_124, cgO_116, lX7_isNew, lX7_reach, lift_lt, k_bs, k_mb, k_ms, k_bm, k_mm, k_il, k_ir, lift_ite, k_id]
noncomputable def gX7_reachByTurns_115 (h : Hp) (c : Ch)  : Option Ch :=
  some (c)
theorem lX7_reachByTurns_115 (h : Hp) (c : Ch)  : fX7_reachByTurns_115 (cput h c)  = (gX7_reachByTurns_115 h c ).map (cput h) := by
  unfold fX7_reachByTurns_115 gX7_reachByTurns_115
  simp only [lift_lt, k_bs, k_mb, k_ms, k_bm, k_mm, k_il, k_ir, lift_ite, k_id]
noncomputable def gX7_reachByTurns_109 (h : Hp) (c : Ch) (x2 : Int32) (x3 : Int32) : Option ((Int32 × Ch) ⊕ Ch) :=
  some (.inl ((x3 + Int32.ofInt 1), c))
theorem lX7_reachByTurns_109 (h : Hp) (c : Ch) (x2 : Int32) (x3 : Int32) : fX7_reachByTurns_109 (cput h c) 116 x2 x3 = (gX7_reachByTurns_109 h c x2 x3).map (Sum.map (fun (s : (Int32 × Ch)) => (s.1, cput h s.2)) (cput h)) := by
  unfold fX7_reachByTurns_109 gX7_reachByTurns_109
  simp only [lift_lt, k_bs, k_mb, k_ms, k_bm, k_mm, k_il, k_ir, lift_ite, k_id]
noncomputable def gX7_reachByTurns_66b (h : Hp) (c : Ch) (x2 : Int32) (x3 : Int32) (x4 : Int32) : Option ((Int32 × Ch) ⊕ ((Int32 × Ch) ⊕ Ch)) :=
  (c.2.2.1 116 1).bind fun v7 =>
  (gN (cput h c) 0 v7 9).bind fun v8 =>
  (aL (cput h c) v8).bind fun v9 =>
  if v9 ≤ x4 then (
  (gX7_reachByTurns_109 h c x2 x3).map (fun q => .inr q)) else (
    (cA c 122 35 x4).bind fun v10 =>
    (gX7_reachOpen h c v10 x2).bind fun y11 =>
    (cA y11 123 35 x4).bind fun v12 =>
    (gX7_reachOpen h y11 v12 x2).bind fun y13 =>
    some (.inl ((x4 + Int32.ofInt 1), y13)))
noncomputable def gX7_reachByTurns_66 (h : Hp) (c : Ch) (x2 : Int32) (x3 : Int32) (x4 : Int32) : Option ((Int32 × Ch) ⊕ Ch) := lpw (σ := (Int32 × Ch)) (fun s => gX7_reachByTurns_66b h s.2 x2 x3 s.1) (x4, c)
theorem lX7_reachByTurns_66b (h : Hp) (c : Ch) (x2 : Int32) (x3 : Int32) (x4 : Int32) : fX7_reachByTurns_66b (cput h c) 116 x2 x3 x4 = (gX7_reachByTurns_66b h c x2 x3 x4).map (Sum.map (fun (s : (Int32 × Ch)) => (s.1, cput h s.2)) (Sum.map (fun (s : (Int32 × Ch)) => (s.1, cput h s.2)) (cput h))) := by
  unfold fX7_reachByTurns_66b gX7_reachByTurns_66b
  simp only [cgN_116_1, lX7_reachByTurns_109, cgN_116_9, caI_122, cgO_116, lX7_reachOpen, cgN_116_10, caI_123, lift_lt, k_bs, k_mb, k_ms, k_bm, k_mm, k_il, k_ir, lift_ite, k_id]
theorem lX7_reachByTurns_66 (h : Hp) (c : Ch) (x2 : Int32) (x3 : Int32) (x4 : Int32) : fX7_reachByTurns_66 (cput h c) 116 x2 x3 x4 = (gX7_reachByTurns_66 h c x2 x3 x4).map (Sum.map (fun (s : (Int32 × Ch)) => (s.1, cput h s.2)) (cput h)) := by
  unfold fX7_reachByTurns_66 gX7_reachByTurns_66
  exact lpw_map _ _ (fun (s : (Int32 × Ch)) => (s.1, cput h s.2)) (Sum.map (fun (s : (Int32 × Ch)) => (s.1, cput h s.2)) (cput h)) (fun s => lX7_reachByTurns_66b h s.2 x2 x3 s.1) (x4, c)
noncomputable def gX7_reachByTurns_12b (h : Hp) (c : Ch) (x2 : Int32) (x3 : Int32) : Option ((Int32 × Ch) ⊕ Ch) :=
  if (c.1 116 12) ≤ x3 then (
  (gX7_reachByTurns_115 h c ).map (fun q => .inr q)) else (
    if (20000 : Int32) ≤ x3 then (
    (gX7_reachByTurns_115 h c ).map (fun q => .inr q)) else (
      (cA c 118 20000 x3).bind fun v3 =>
      (gX1_spread h c v3 (0 : Int32) 0).bind fun y4 =>
      (cA y4 118 20000 x3).bind fun v5 =>
      (gX1_spread h y4 v5 (1 : Int32) 1).bind fun y6 =>
      gX7_reachByTurns_66 h y6 x2 x3 (0 : Int32)))
noncomputable def gX7_reachByTurns_12 (h : Hp) (c : Ch) (x2 : Int32) (x3 : Int32) : Option Ch := lpw (σ := (Int32 × Ch)) (fun s => gX7_reachByTurns_12b h s.2 x2 s.1) (x3, c)
theorem lX7_reachByTurns_12b (h : Hp) (c : Ch) (x2 : Int32) (x3 : Int32) : fX7_reachByTurns_12b (cput h c) 116 x2 x3 = (gX7_reachByTurns_12b h c x2 x3).map (Sum.map (fun (s : (Int32 × Ch)) => (s.1, cput h s.2)) (cput h)) := by
  unfold fX7_reachByTurns_12b gX7_reachByTurns_12b
  simp only [cgI_116_12, lX7_reachByTurns_115, cgN_116_0, cgN_116_5, caI_118, cgN_116_9, cgO_108, lX1_spread_0, lX1_spread_1, cgN_116_10, lX7_reachByTurns_66, lift_lt, k_bs, k_mb, k_ms, k_bm, k_mm, k_il, k_ir, lift_ite, k_id]
theorem lX7_reachByTurns_12 (h : Hp) (c : Ch) (x2 : Int32) (x3 : Int32) : fX7_reachByTurns_12 (cput h c) 116 x2 x3 = (gX7_reachByTurns_12 h c x2 x3).map (cput h) := by
  unfold fX7_reachByTurns_12 gX7_reachByTurns_12
  exact lpw_map _ _ (fun (s : (Int32 × Ch)) => (s.1, cput h s.2)) (cput h) (fun s => lX7_reachByTurns_12b h s.2 x2 s.1) (x3, c)
noncomputable def gX7_reachByTurns (h : Hp) (c : Ch) (x1 : Int32) (x2 : Int32) : Option Ch :=
  (gX7_begin h c ).bind fun y1 =>
  (gX7_reach h y1 x1 (0 : Int32)).bind fun y2 =>
  gX7_reachByTurns_12 h y2 x2 (0 : Int32)
theorem lX7_reachByTurns (h : Hp) (c : Ch) (x1 : Int32) (x2 : Int32) : fX7_reachByTurns (cput h c) 116 x1 x2 = (gX7_reachByTurns h c x1 x2).map (cput h) := by
  unfold fX7_reachByTurns gX7_reachByTurns
  simp only [cgO_116, lX7_begin, lX7_reach, lX7_reachByTurns_12, lift_lt, k_bs, k_mb, k_ms, k_bm, k_mm, k_il, k_ir, lift_ite, k_id]
noncomputable def gX7_isForced_73 (h : Hp) (c : Ch) (s0 : Int32) : Option Int32 :=
  bl s0 (some (s0))
theorem lX7_isForced_73 (h : Hp) (c : Ch) (s0 : Int32) : fX7_isForced_73 (cput h c) s0 = gX7_isForced_73 h c s0 := by
  unfold fX7_isForced_73 gX7_isForced_73
  simp only [lift_bl, lift_lt, k_bs, k_mb, k_ms, k_bm, k_mm, k_il, k_ir, lift_ite, k_id]
noncomputable def gX7_isForced_72 (h : Hp) (c : Ch)  : Option Int32 :=
  gX7_isForced_73 h c (0 : Int32)
theorem lX7_isForced_72 (h : Hp) (c : Ch)  : fX7_isForced_72 (cput h c)  = gX7_isForced_72 h c  := by
  unfold fX7_isForced_72 gX7_isForced_72
  simp only [lX7_isForced_73, lift_lt, k_bs, k_mb, k_ms, k_bm, k_mm, k_il, k_ir, lift_ite, k_id]
noncomputable def gX7_isForced_42 (h : Hp) (c : Ch) (x1 : Int32) (x3 : Int32) (s0 : Int32) : Option Int32 :=
  if s0 = 0 then (
  gX7_isForced_72 h c ) else (
    (cA c 119 20000 x1).bind fun v3 =>
    if v3 = 0 then (
    gX7_isForced_72 h c ) else (
      (cA c 119 20000 x1).bind fun v4 =>
      if x3 < v4 then (
      gX7_isForced_72 h c ) else (
        gX7_isForced_73 h c (1 : Int32))))
theorem lX7_isForced_42 (h : Hp) (c : Ch) (x1 : Int32) (x3 : Int32) (s0 : Int32) : fX7_isForced_42 (cput h c) 116 x1 x3 s0 = gX7_isForced_42 h c x1 x3 s0 := by
  unfold fX7_isForced_42 gX7_isForced_42
  simp only [lX7_isForced_72, cgN_116_6, caI_119, lX7_isForced_73, lift_lt, k_bs, k_mb, k_ms, k_bm, k_mm, k_il, k_ir, lift_ite, k_id]
noncomputable def gX7_isForced_41 (h : Hp) (c : Ch) (x1 : Int32) (x3 : Int32) : Option Int32 :=
  gX7_isForced_42 h c x1 x3 (0 : Int32)
theorem lX7_isForced_41 (h : Hp) (c : Ch) (x1 : Int32) (x3 : Int32) : fX7_isForced_41 (cput h c) 116 x1 x3 = gX7_isForced_41 h c x1 x3 := by
  unfold fX7_isForced_41 gX7_isForced_41
  simp only [lX7_isForced_42, lift_lt, k_bs, k_mb, k_ms, k_bm, k_mm, k_il, k_ir, lift_ite, k_id]
noncomputable def gX7_isForced (h : Hp) (c : Ch) (x1 : Int32) (x2 : Int32) (x3 : Int32) : Option Int32 :=
  (gX11_digit x1 x2).bind fun y1 =>
  if y1 = 0 then (
    some ((1 : Int32))) else (
    (gX7_isState x1).bind fun y2 =>
    if y2 = 0 then (
    gX7_isForced_41 h c x1 x3) else (
      if (10000 : Int32) ≤ x1 then (
      gX7_isForced_41 h c x1 x3) else (
        (cA c 117 20000 x1).bind fun v5 =>
        if v5 = (c.1 116 4) then (
          gX7_isForced_42 h c x1 x3 (1 : Int32)) else (
        gX7_isForced_41 h c x1 x3))))
theorem lX7_isForced (h : Hp) (c : Ch) (x1 : Int32) (x2 : Int32) (x3 : Int32) : fX7_isForced (cput h c) 116 x1 x2 x3 = gX7_isForced h c x1 x2 x3 := by
  unfold fX7_isForced gX7_isForced
  simp only [lX11_digit, lX7_isState, lX7_isForced_41, cgN_116_3, caI_117, cgI_116_4, lX7_isForced_42, lift_lt, k_bs, k_mb, k_ms, k_bm, k_mm, k_il, k_ir, lift_ite, k_id]
noncomputable def gX7_forcingLeading_85 (h : Hp) (c : Ch) (x2 : Int32) (x3 : Int32) (x4 : Int32) : Option (Int32 ⊕ (Int32 × Ch)) :=
  some (.inl (x4 + Int32.ofInt 1))
theorem lX7_forcingLeading_85 (h : Hp) (c : Ch) (x2 : Int32) (x3 : Int32) (x4 : Int32) : fX7_forcingLeading_85 (cput h c) 116 x2 x3 x4 = (gX7_forcingLeading_85 h c x2 x3 x4).map (Sum.map id (fun (y : (Int32 × Ch)) => (y.1, cput h y.2))) := by
  unfold fX7_forcingLeading_85 gX7_forcingLeading_85
  simp only [lift_lt, k_bs, k_mb, k_ms, k_bm, k_mm, k_il, k_ir, lift_ite, k_id]
noncomputable def gX7_forcingLeading_74 (h : Hp) (c : Ch) (x4 : Int32) : Option (Int32 × Ch) :=
  (c.2.2.1 116 1).bind fun v10 =>
  (gN (cput h c) 0 v10 9).bind fun v11 =>
  (aI 0 (cput h c) v11 x4).bind fun v12 =>
  some ((v12, c))
theorem lX7_forcingLeading_74 (h : Hp) (c : Ch) (x4 : Int32) : fX7_forcingLeading_74 (cput h c) 116 x4 = (gX7_forcingLeading_74 h c x4).map (fun (y : (Int32 × Ch)) => (y.1, cput h y.2)) := by
  unfold fX7_forcingLeading_74 gX7_forcingLeading_74
  simp only [cgN_116_1, lift_lt, k_bs, k_mb, k_ms, k_bm, k_mm, k_il, k_ir, lift_ite, k_id]
noncomputable def gX7_forcingLeading_29b (h : Hp) (c : Ch) (x2 : Int32) (x3 : Int32) (x4 : Int32) : Option (Int32 ⊕ (Int32 × Ch)) :=
  (c.2.2.1 116 1).bind fun v3 =>
  (gN (cput h c) 0 v3 9).bind fun v4 =>
  (aL (cput h c) v4).bind fun v5 =>
  if v5 ≤ x4 then (
    some (.inr ((-1 : Int32), c))) else (
    (cA c 122 35 x4).bind fun v6 =>
    (gX7_isForced h c v6 x2 x3).bind fun y7 =>
    if y7 = 0 then (
    gX7_forcingLeading_85 h c x2 x3 x4) else (
      (cA c 123 35 x4).bind fun v8 =>
      (gX7_isForced h c v8 x2 x3).bind fun y9 =>
      if y9 = 0 then (
      gX7_forcingLeading_85 h c x2 x3 x4) else (
      (gX7_forcingLeading_74 h c x4).map (fun q => .inr q))))
noncomputable def gX7_forcingLeading_29 (h : Hp) (c : Ch) (x2 : Int32) (x3 : Int32) (x4 : Int32) : Option (Int32 × Ch) := lpw (σ := Int32) (fun s => gX7_forcingLeading_29b h c x2 x3 s) x4
theorem lX7_forcingLeading_29b (h : Hp) (c : Ch) (x2 : Int32) (x3 : Int32) (x4 : Int32) : fX7_forcingLeading_29b (cput h c) 116 x2 x3 x4 = (gX7_forcingLeading_29b h c x2 x3 x4).map (Sum.map id (fun (y : (Int32 × Ch)) => (y.1, cput h y.2))) := by
  unfold fX7_forcingLeading_29b gX7_forcingLeading_29b
  simp only [cgN_116_1, cgN_116_9, caI_122, cgO_116, lX7_isForced, lX7_forcingLeading_85, cgN_116_10, caI_123, lX7_forcingLeading_74, lift_lt, k_bs, k_mb, k_ms, k_bm, k_mm, k_il, k_ir, lift_ite, k_id]
theorem lX7_forcingLeading_29 (h : Hp) (c : Ch) (x2 : Int32) (x3 : Int32) (x4 : Int32) : fX7_forcingLeading_29 (cput h c) 116 x2 x3 x4 = (gX7_forcingLeading_29 h c x2 x3 x4).map (fun (y : (Int32 × Ch)) => (y.1, cput h y.2)) := by
  unfold fX7_forcingLeading_29 gX7_forcingLeading_29
  exact lpw_map _ _ id (fun (y : (Int32 × Ch)) => (y.1, cput h y.2)) (fun s => lX7_forcingLeading_29b h c x2 x3 s) x4
noncomputable def gX7_forcingLeading (h : Hp) (c : Ch) (x1 : Int32) (x2 : Int32) (x3 : Int32) : Option (Int32 × Ch) :=
  (gX1_spread h c x1 (0 : Int32) 0).bind fun y1 =>
  (gX1_spread h y1 x1 (1 : Int32) 1).bind fun y2 =>
  gX7_forcingLeading_29 h y2 x2 x3 (0 : Int32)
theorem lX7_forcingLeading (h : Hp) (c : Ch) (x1 : Int32) (x2 : Int32) (x3 : Int32) : fX7_forcingLeading (cput h c) 116 x1 x2 x3 = (gX7_forcingLeading h c x1 x2 x3).map (fun (y : (Int32 × Ch)) => (y.1, cput h y.2)) := by
  unfold fX7_forcingLeading gX7_forcingLeading
  simp only [cgN_116_0, cgN_116_9, cgO_108, lX1_spread_0, lX1_spread_1, cgN_116_10, lX7_forcingLeading_29, lift_lt, k_bs, k_mb, k_ms, k_bm, k_mm, k_il, k_ir, lift_ite, k_id]
