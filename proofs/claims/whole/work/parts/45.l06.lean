/-! the class over its own numbers -/
noncomputable def gX7_forcedWithin_35 (h : Hp) (c : Ch)  : Option (Int32 × Ch) :=
  some (((-1 : Int32), c))
theorem lX7_forcedWithin_35 (h : Hp) (c : Ch)  : fX7_forcedWithin_35 (cput h c)  = (gX7_forcedWithin_35 h c ).map (fun (y : (Int32 × Ch)) => (y.1, cput h y.2)) := by
  unfold fX7_forcedWithin_35 gX7_forcedWithin_35
  simp only [lift_lt, k_bs, k_mb, k_ms, k_bm, k_mm, k_il, k_ir, lift_ite, k_id]
noncomputable def gX7_forcedWithin_169 (h : Hp) (c : Ch)  : Option (Int32 × Ch) :=
  some (((-1 : Int32), c))
theorem lX7_forcedWithin_169 (h : Hp) (c : Ch)  : fX7_forcedWithin_169 (cput h c)  = (gX7_forcedWithin_169 h c ).map (fun (y : (Int32 × Ch)) => (y.1, cput h y.2)) := by
  unfold fX7_forcedWithin_169 gX7_forcedWithin_169
  simp only [lift_lt, k_bs, k_mb, k_ms, k_bm, k_mm, k_il, k_ir, lift_ite, k_id]
noncomputable def gX7_forcedWithin_152 (h : Hp) (c : Ch) (x1 : Int32) (x2 : Int32) (x3 : Int32) (x4 : Int32) : Option ((Int32 × Int32 × Ch) ⊕ (Int32 × Ch)) :=
  (gX7_linkOf h c x1).bind fun y6 =>
  if y6 = 0 then (
    some (.inl (x3, (x4 + Int32.ofInt 1), c))) else (
    some (.inr (x4, c)))
theorem lX7_forcedWithin_152 (h : Hp) (c : Ch) (x1 : Int32) (x2 : Int32) (x3 : Int32) (x4 : Int32) : fX7_forcedWithin_152 (cput h c) 116 x1 x2 x3 x4 = (gX7_forcedWithin_152 h c x1 x2 x3 x4).map (Sum.map (fun (s : (Int32 × Int32 × Ch)) => (s.1, s.2.1, cput h s.2.2)) (fun (y : (Int32 × Ch)) => (y.1, cput h y.2))) := by
  unfold fX7_forcedWithin_152 gX7_forcedWithin_152
  simp only [cgO_116, lX7_linkOf, lift_lt, k_bs, k_mb, k_ms, k_bm, k_mm, k_il, k_ir, lift_ite, k_id]
noncomputable def gX7_forcedWithin_146 (h : Hp) (c : Ch) (x1 : Int32) (x2 : Int32) (x3 : Int32) (x4 : Int32) (x5 : Int32) : Option ((Int32 × Int32 × Ch) ⊕ ((Int32 × Int32 × Ch) ⊕ (Int32 × Ch))) :=
  some (.inl (x3, (x5 + Int32.ofInt 1), c))
theorem lX7_forcedWithin_146 (h : Hp) (c : Ch) (x1 : Int32) (x2 : Int32) (x3 : Int32) (x4 : Int32) (x5 : Int32) : fX7_forcedWithin_146 (cput h c) 116 x1 x2 x3 x4 x5 = (gX7_forcedWithin_146 h c x1 x2 x3 x4 x5).map (Sum.map (fun (s : (Int32 × Int32 × Ch)) => (s.1, s.2.1, cput h s.2.2)) (Sum.map (fun (s : (Int32 × Int32 × Ch)) => (s.1, s.2.1, cput h s.2.2)) (fun (y : (Int32 × Ch)) => (y.1, cput h y.2)))) := by
  unfold fX7_forcedWithin_146 gX7_forcedWithin_146
  simp only [lift_lt, k_bs, k_mb, k_ms, k_bm, k_mm, k_il, k_ir, lift_ite, k_id]
noncomputable def gX7_forcedWithin_113 (h : Hp) (c : Ch) (x1 : Int32) (x2 : Int32) (x3 : Int32) (x4 : Int32) (x5 : Int32) (x6 : Int32) (s0 : Int32) : Option ((Int32 × Int32 × Ch) ⊕ ((Int32 × Int32 × Ch) ⊕ (Int32 × Ch))) :=
  if s0 = 0 then (
  gX7_forcedWithin_146 h c x1 x2 x3 x4 x5) else (
    (gX7_forcingLeading h c x6 x2 (x4 - (1 : Int32))).bind fun y9 =>
    if y9.1 = (-1 : Int32) then (
    gX7_forcedWithin_146 h y9.2 x1 x2 x3 x4 x5) else (
      (cWA y9.2 0 119 20000 x6 x4).bind fun c10 =>
      gX7_forcedWithin_146 h c10 x1 x2 (1 : Int32) x4 x5))
theorem lX7_forcedWithin_113 (h : Hp) (c : Ch) (x1 : Int32) (x2 : Int32) (x3 : Int32) (x4 : Int32) (x5 : Int32) (x6 : Int32) (s0 : Int32) : fX7_forcedWithin_113 (cput h c) 116 x1 x2 x3 x4 x5 x6 s0 = (gX7_forcedWithin_113 h c x1 x2 x3 x4 x5 x6 s0).map (Sum.map (fun (s : (Int32 × Int32 × Ch)) => (s.1, s.2.1, cput h s.2.2)) (Sum.map (fun (s : (Int32 × Int32 × Ch)) => (s.1, s.2.1, cput h s.2.2)) (fun (y : (Int32 × Ch)) => (y.1, cput h y.2)))) := by
  unfold fX7_forcedWithin_113 gX7_forcedWithin_113
  simp only [lX7_forcedWithin_146, cgO_116, lX7_forcingLeading, cgN_116_6, cwI_119, lift_lt, k_bs, k_mb, k_ms, k_bm, k_mm, k_il, k_ir, lift_ite, k_id]
noncomputable def gX7_forcedWithin_112 (h : Hp) (c : Ch) (x1 : Int32) (x2 : Int32) (x3 : Int32) (x4 : Int32) (x5 : Int32) (x6 : Int32) : Option ((Int32 × Int32 × Ch) ⊕ ((Int32 × Int32 × Ch) ⊕ (Int32 × Ch))) :=
  gX7_forcedWithin_113 h c x1 x2 x3 x4 x5 x6 (0 : Int32)
theorem lX7_forcedWithin_112 (h : Hp) (c : Ch) (x1 : Int32) (x2 : Int32) (x3 : Int32) (x4 : Int32) (x5 : Int32) (x6 : Int32) : fX7_forcedWithin_112 (cput h c) 116 x1 x2 x3 x4 x5 x6 = (gX7_forcedWithin_112 h c x1 x2 x3 x4 x5 x6).map (Sum.map (fun (s : (Int32 × Int32 × Ch)) => (s.1, s.2.1, cput h s.2.2)) (Sum.map (fun (s : (Int32 × Int32 × Ch)) => (s.1, s.2.1, cput h s.2.2)) (fun (y : (Int32 × Ch)) => (y.1, cput h y.2)))) := by
  unfold fX7_forcedWithin_112 gX7_forcedWithin_112
  simp only [lX7_forcedWithin_113, lift_lt, k_bs, k_mb, k_ms, k_bm, k_mm, k_il, k_ir, lift_ite, k_id]
noncomputable def gX7_forcedWithin_65b (h : Hp) (c : Ch) (x1 : Int32) (x2 : Int32) (x4 : Int32) (x3 : Int32) (x5 : Int32) : Option ((Int32 × Int32 × Ch) ⊕ ((Int32 × Int32 × Ch) ⊕ (Int32 × Ch))) :=
  if (c.1 116 12) ≤ x5 then (
  (gX7_forcedWithin_152 h c x1 x2 x3 x4).map (fun q => .inr q)) else (
    (cA c 118 20000 x5).bind fun v7 =>
    (gX7_linkOf h c v7).bind fun y8 =>
    if y8 = 0 then (
      (gX11_digit v7 x2).bind fun y11 =>
      (cA c 124 10 y11).bind fun v12 =>
      if x4 < v12 then (
      gX7_forcedWithin_112 h c x1 x2 x3 x4 x5 v7) else (
        gX7_forcedWithin_113 h c x1 x2 x3 x4 x5 v7 (1 : Int32))) else (
    gX7_forcedWithin_112 h c x1 x2 x3 x4 x5 v7))
noncomputable def gX7_forcedWithin_65 (h : Hp) (c : Ch) (x1 : Int32) (x2 : Int32) (x3 : Int32) (x4 : Int32) (x5 : Int32) : Option ((Int32 × Int32 × Ch) ⊕ (Int32 × Ch)) := lpw (σ := (Int32 × Int32 × Ch)) (fun s => gX7_forcedWithin_65b h s.2.2 x1 x2 x4 s.1 s.2.1) (x3, x5, c)
theorem lX7_forcedWithin_65b (h : Hp) (c : Ch) (x1 : Int32) (x2 : Int32) (x3 : Int32) (x4 : Int32) (x5 : Int32) : fX7_forcedWithin_65b (cput h c) 116 x1 x2 x4 x3 x5 = (gX7_forcedWithin_65b h c x1 x2 x4 x3 x5).map (Sum.map (fun (s : (Int32 × Int32 × Ch)) => (s.1, s.2.1, cput h s.2.2)) (Sum.map (fun (s : (Int32 × Int32 × Ch)) => (s.1, s.2.1, cput h s.2.2)) (fun (y : (Int32 × Ch)) => (y.1, cput h y.2)))) := by
  unfold fX7_forcedWithin_65b gX7_forcedWithin_65b
  simp only [cgI_116_12, lX7_forcedWithin_152, cgN_116_5, caI_118, cgO_116, lX7_linkOf, lX7_forcedWithin_112, cgN_116_11, lX11_digit, caI_124, lX7_forcedWithin_113, lift_lt, k_bs, k_mb, k_ms, k_bm, k_mm, k_il, k_ir, lift_ite, k_id]
theorem lX7_forcedWithin_65 (h : Hp) (c : Ch) (x1 : Int32) (x2 : Int32) (x3 : Int32) (x4 : Int32) (x5 : Int32) : fX7_forcedWithin_65 (cput h c) 116 x1 x2 x3 x4 x5 = (gX7_forcedWithin_65 h c x1 x2 x3 x4 x5).map (Sum.map (fun (s : (Int32 × Int32 × Ch)) => (s.1, s.2.1, cput h s.2.2)) (fun (y : (Int32 × Ch)) => (y.1, cput h y.2))) := by
  unfold fX7_forcedWithin_65 gX7_forcedWithin_65
  exact lpw_map _ _ (fun (s : (Int32 × Int32 × Ch)) => (s.1, s.2.1, cput h s.2.2)) (Sum.map (fun (s : (Int32 × Int32 × Ch)) => (s.1, s.2.1, cput h s.2.2)) (fun (y : (Int32 × Ch)) => (y.1, cput h y.2))) (fun s => lX7_forcedWithin_65b h s.2.2 x1 x2 s.1 x4 s.2.1) (x3, x5, c)
noncomputable def gX7_forcedWithin_48b (h : Hp) (c : Ch) (x1 : Int32) (x2 : Int32) (x3 : Int32) (x4 : Int32) : Option ((Int32 × Int32 × Ch) ⊕ (Int32 × Ch)) :=
  if (20000 : Int32) < x4 then (
  (gX7_forcedWithin_169 h c ).map (fun q => .inr q)) else (
    if x3 = 0 then (
    (gX7_forcedWithin_169 h c ).map (fun q => .inr q)) else (
      gX7_forcedWithin_65 h c x1 x2 (0 : Int32) x4 (0 : Int32)))
noncomputable def gX7_forcedWithin_48 (h : Hp) (c : Ch) (x1 : Int32) (x2 : Int32) (x3 : Int32) (x4 : Int32) : Option (Int32 × Ch) := lpw (σ := (Int32 × Int32 × Ch)) (fun s => gX7_forcedWithin_48b h s.2.2 x1 x2 s.1 s.2.1) (x3, x4, c)
theorem lX7_forcedWithin_48b (h : Hp) (c : Ch) (x1 : Int32) (x2 : Int32) (x3 : Int32) (x4 : Int32) : fX7_forcedWithin_48b (cput h c) 116 x1 x2 x3 x4 = (gX7_forcedWithin_48b h c x1 x2 x3 x4).map (Sum.map (fun (s : (Int32 × Int32 × Ch)) => (s.1, s.2.1, cput h s.2.2)) (fun (y : (Int32 × Ch)) => (y.1, cput h y.2))) := by
  unfold fX7_forcedWithin_48b gX7_forcedWithin_48b
  simp only [lX7_forcedWithin_169, lX7_forcedWithin_65, lift_lt, k_bs, k_mb, k_ms, k_bm, k_mm, k_il, k_ir, lift_ite, k_id]
theorem lX7_forcedWithin_48 (h : Hp) (c : Ch) (x1 : Int32) (x2 : Int32) (x3 : Int32) (x4 : Int32) : fX7_forcedWithin_48 (cput h c) 116 x1 x2 x3 x4 = (gX7_forcedWithin_48 h c x1 x2 x3 x4).map (fun (y : (Int32 × Ch)) => (y.1, cput h y.2)) := by
  unfold fX7_forcedWithin_48 gX7_forcedWithin_48
  exact lpw_map _ _ (fun (s : (Int32 × Int32 × Ch)) => (s.1, s.2.1, cput h s.2.2)) (fun (y : (Int32 × Ch)) => (y.1, cput h y.2)) (fun s => lX7_forcedWithin_48b h s.2.2 x1 x2 s.1 s.2.1) (x3, x4, c)
noncomputable def gX7_forcedWithin (h : Hp) (c : Ch) (x1 : Int32) (x2 : Int32) : Option (Int32 × Ch) :=
  (gX7_tellLeastYears h c x2).bind fun y1 =>
  (gX7_isState x1).bind fun y2 =>
  if y2 = 0 then (
  gX7_forcedWithin_35 h y1 ) else (
    if (10000 : Int32) ≤ x1 then (
    gX7_forcedWithin_35 h y1 ) else (
      (gX11_digit x1 x2).bind fun y3 =>
      (cA y1 124 10 y3).bind fun v4 =>
      if v4 = (20000 : Int32) then (
      gX7_forcedWithin_35 h y1 ) else (
        (gX7_reachByTurns h y1 x1 x2).bind fun y5 =>
        gX7_forcedWithin_48 h y5 x1 x2 (1 : Int32) (1 : Int32))))
theorem lX7_forcedWithin (h : Hp) (c : Ch) (x1 : Int32) (x2 : Int32) : fX7_forcedWithin (cput h c) 116 x1 x2 = (gX7_forcedWithin h c x1 x2).map (fun (y : (Int32 × Ch)) => (y.1, cput h y.2)) := by
  unfold fX7_forcedWithin gX7_forcedWithin
  simp only [cgO_116, lX7_tellLeastYears, lX7_isState, lX7_forcedWithin_35, cgN_116_11, lX11_digit, caI_124, lX7_reachByTurns, lX7_forcedWithin_48, lift_lt, k_bs, k_mb, k_ms, k_bm, k_mm, k_il, k_ir, lift_ite, k_id]
noncomputable def gX11_forces (h : Hp) (c : Ch) (x1 : Int32) : Option (Int32 × Ch) :=
  (gX11_isPair h c x1).bind fun y1 =>
  if y1 = 0 then (
    some (((-2 : Int32), c))) else (
    (gX11_digit (c.1 (sadr 0) 0) x1).bind fun y2 =>
    if y2 = 0 then (
      some (((0 : Int32), c))) else (
      (gX11_searching h c ).bind fun y3 =>
      (gX7_forcedWithin h y3 (y3.1 (sadr 0) 0) x1).bind fun y4 =>
      some ((y4.1, y4.2))))
theorem lX11_forces (h : Hp) (c : Ch) (x1 : Int32) : fX11_forces (cput h c) 80 x1 = (gX11_forces h c x1).map (fun (y : (Int32 × Ch)) => (y.1, cput h y.2)) := by
  unfold fX11_forces gX11_forces
  simp only [cgO_80, lX11_isPair, cgN_80_4, cgI_s_0, lX11_digit, lX11_searching, cgO_116, lX7_forcedWithin, lift_lt, k_bs, k_mb, k_ms, k_bm, k_mm, k_il, k_ir, lift_ite, k_id]
noncomputable def gX11_best_69 (h : Hp) (c : Ch) (s0 : Int32) : Option (Int32 × Ch) :=
  some ((s0, c))
theorem lX11_best_69 (h : Hp) (c : Ch) (s0 : Int32) : fX11_best_69 (cput h c) s0 = (gX11_best_69 h c s0).map (fun (y : (Int32 × Ch)) => (y.1, cput h y.2)) := by
  unfold fX11_best_69 gX11_best_69
  simp only [lift_lt, k_bs, k_mb, k_ms, k_bm, k_mm, k_il, k_ir, lift_ite, k_id]
noncomputable def gX11_best (h : Hp) (c : Ch) (x1 : Int32) : Option (Int32 × Ch) :=
  (gX11_isPair h c x1).bind fun y1 =>
  if y1 = 0 then (
    some (((-2 : Int32), c))) else (
    (gX11_digit (c.1 (sadr 0) 0) x1).bind fun y2 =>
    if y2 = 0 then (
      some (((-1 : Int32), c))) else (
      (gX11_searching h c ).bind fun y3 =>
      (gX7_forcedWithin h y3 (y3.1 (sadr 0) 0) x1).bind fun y4 =>
      if y4.1 = (-1 : Int32) then (
        gX11_best_69 h y4.2 (-1 : Int32)) else (
        (gX7_forcingLeading h y4.2 (y4.2.1 (sadr 0) 0) x1 (y4.1 - (1 : Int32))).bind fun y5 =>
        gX11_best_69 h y5.2 y5.1)))
theorem lX11_best (h : Hp) (c : Ch) (x1 : Int32) : fX11_best (cput h c) 80 x1 = (gX11_best h c x1).map (fun (y : (Int32 × Ch)) => (y.1, cput h y.2)) := by
  unfold fX11_best gX11_best
  simp only [cgO_80, lX11_isPair, cgN_80_4, cgI_s_0, lX11_digit, lX11_searching, cgO_116, lX7_forcedWithin, lX7_forcingLeading, lX11_best_69, lift_lt, k_bs, k_mb, k_ms, k_bm, k_mm, k_il, k_ir, lift_ite, k_id]
noncomputable def gX11_isFractionPart_14 (s0 : Int32) : Option Int32 :=
  bl s0 (some (s0))
theorem lX11_isFractionPart_14 (h : Hp) (s0 : Int32) : fX11_isFractionPart_14 h s0 = gX11_isFractionPart_14 s0 := by
  unfold fX11_isFractionPart_14 gX11_isFractionPart_14
  simp only [lift_bl, lift_lt, k_bs, k_mb, k_ms, k_bm, k_mm, k_il, k_ir, lift_ite, k_id]
noncomputable def gX11_isFractionPart_9  : Option Int32 :=
  gX11_isFractionPart_14 (1 : Int32)
theorem lX11_isFractionPart_9 (h : Hp)  : fX11_isFractionPart_9 h  = gX11_isFractionPart_9  := by
  unfold fX11_isFractionPart_9 gX11_isFractionPart_9
  simp only [lX11_isFractionPart_14, lift_lt, k_bs, k_mb, k_ms, k_bm, k_mm, k_il, k_ir, lift_ite, k_id]
noncomputable def gX11_isFractionPart (x0 : Int32) : Option Int32 :=
  if x0 = 0 then (
  gX11_isFractionPart_9 ) else (
    if x0 = (1 : Int32) then (
    gX11_isFractionPart_9 ) else (
      gX11_isFractionPart_14 (0 : Int32)))
theorem lX11_isFractionPart (h : Hp) (x0 : Int32) : fX11_isFractionPart h x0 = gX11_isFractionPart x0 := by
  unfold fX11_isFractionPart gX11_isFractionPart
  simp only [lX11_isFractionPart_9, lX11_isFractionPart_14, lift_lt, k_bs, k_mb, k_ms, k_bm, k_mm, k_il, k_ir, lift_ite, k_id]
noncomputable def gX2_spreadWeight_12 (gc : Nat → Ch → Int32 → Int32 → Int64 → Option Ch) (h : Hp) (c : Ch)  : Option Ch :=
  some (c)
theorem lX2_spreadWeight_12 (h : Hp) {rc : Nat → Hp → Nat → Int32 → Int32 → Int64 → Option Hp} {gc : Nat → Ch → Int32 → Int32 → Int64 → Option Ch} (hgc : ∀ (sel : Nat) (c : Ch) (x1 : Int32) (x2 : Int32) (x3 : Int64), rc sel (cput h c) 115 x1 x2 x3 = (gc sel c x1 x2 x3).map (cput h)) (c : Ch)  : fX2_spreadWeight_12 rc (cput h c)  = (gX2_spreadWeight_12 gc h c ).map (cput h) := by
  unfold fX2_spreadWeight_12 gX2_spreadWeight_12
  simp only [lift_lt, k_bs, k_mb, k_ms, k_bm, k_mm, k_il, k_ir, lift_ite, k_id]
noncomputable def gX2_spreadWeight_89 (gc : Nat → Ch → Int32 → Int32 → Int64 → Option Ch) (h : Hp) (c : Ch) (s1 : Int64) (s2 : Int64) : Option Ch :=
  lt (cJ c 115 10 (s1 + s2)) fun c10 =>
  some (c10)
theorem lX2_spreadWeight_89 (h : Hp) {rc : Nat → Hp → Nat → Int32 → Int32 → Int64 → Option Hp} {gc : Nat → Ch → Int32 → Int32 → Int64 → Option Ch} (hgc : ∀ (sel : Nat) (c : Ch) (x1 : Int32) (x2 : Int32) (x3 : Int64), rc sel (cput h c) 115 x1 x2 x3 = (gc sel c x1 x2 x3).map (cput h)) (c : Ch) (s1 : Int64) (s2 : Int64) : fX2_spreadWeight_89 rc (cput h c) 115 s1 s2 = (gX2_spreadWeight_89 gc h c s1 s2).map (cput h) := by
  unfold fX2_spreadWeight_89 gX2_spreadWeight_89
  simp only [csJ_115_10, lift_lt, k_bs, k_mb, k_ms, k_bm, k_mm, k_il, k_ir, lift_ite, k_id]
noncomputable def gX2_spreadWeight_68 (gc : Nat → Ch → Int32 → Int32 → Int64 → Option Ch) (h : Hp) (c : Ch) (x2 : Int32) (x3 : Int64) (s1 : Int64) (s2 : Int64) : Option Ch :=
  lt (cJ c 115 8 (s1 + s2)) fun c9 =>
  if x2 < (10000 : Int32) then (
    gX2_spreadWeight_89 gc h c9 (c9.2.1 115 10) (0 : Int64)) else (
    gX2_spreadWeight_89 gc h c9 (c9.2.1 115 10) x3)
theorem lX2_spreadWeight_68 (h : Hp) {rc : Nat → Hp → Nat → Int32 → Int32 → Int64 → Option Hp} {gc : Nat → Ch → Int32 → Int32 → Int64 → Option Ch} (hgc : ∀ (sel : Nat) (c : Ch) (x1 : Int32) (x2 : Int32) (x3 : Int64), rc sel (cput h c) 115 x1 x2 x3 = (gc sel c x1 x2 x3).map (cput h)) (c : Ch) (x2 : Int32) (x3 : Int64) (s1 : Int64) (s2 : Int64) : fX2_spreadWeight_68 rc (cput h c) 115 x2 x3 115 s1 s2 = (gX2_spreadWeight_68 gc h c x2 x3 s1 s2).map (cput h) := by
  unfold fX2_spreadWeight_68 gX2_spreadWeight_68
  simp only [csJ_115_8, cgJ_115_10, lX2_spreadWeight_89 h hgc, lift_lt, k_bs, k_mb, k_ms, k_bm, k_mm, k_il, k_ir, lift_ite, k_id]
noncomputable def gX2_spreadWeight (gc : Nat → Ch → Int32 → Int32 → Int64 → Option Ch) (h : Hp) (c : Ch) (x1 : Int32) (x2 : Int32) (x3 : Int64) : Option Ch :=
  if (lg_cmp x3 (0 : Int64)) = 0 then (
  gX2_spreadWeight_12 gc h c ) else (
    if x1 ≤ (8 : Int32) then (
      if 0 < x1 then (
        (gX1_after h c x2 (c.1 115 2) (0 : Int32)).bind fun y1 =>
        (gc 0 y1.2 (x1 - (1 : Int32)) y1.1 (x3 * (((10 : Int32) - (y1.2.1 115 3)).toInt64))).bind fun y2 =>
        (gX1_after h y2 x2 (y2.1 115 2) (1 : Int32)).bind fun y3 =>
        (gc 0 y3.2 (x1 - (1 : Int32)) y3.1 (x3 * ((y3.2.1 115 3).toInt64))).bind fun y4 =>
        some (y4)) else (
        lt (cJ c 115 11 ((c.2.1 115 11) + x3)) fun c5 =>
        (gX11_digit x2 (c5.1 115 1)).bind fun y6 =>
        lt (cJ c5 115 9 ((c5.2.1 115 9) + (x3 * (y6.toInt64)))) fun c7 =>
        (gX11_digit x2 (c7.1 115 1)).bind fun y8 =>
        if y8 = 0 then (
          gX2_spreadWeight_68 gc h c7 x2 x3 (c7.2.1 115 8) x3) else (
          gX2_spreadWeight_68 gc h c7 x2 x3 (c7.2.1 115 8) (0 : Int64)))) else (
    gX2_spreadWeight_12 gc h c ))
theorem lX2_spreadWeight (h : Hp) {rc : Nat → Hp → Nat → Int32 → Int32 → Int64 → Option Hp} {gc : Nat → Ch → Int32 → Int32 → Int64 → Option Ch} (hgc : ∀ (sel : Nat) (c : Ch) (x1 : Int32) (x2 : Int32) (x3 : Int64), rc sel (cput h c) 115 x1 x2 x3 = (gc sel c x1 x2 x3).map (cput h)) (c : Ch) (x1 : Int32) (x2 : Int32) (x3 : Int64) : fX2_spreadWeight rc (cput h c) 115 x1 x2 x3 = (gX2_spreadWeight gc h c x1 x2 x3).map (cput h) := by
  unfold fX2_spreadWeight gX2_spreadWeight
  simp only [lX2_spreadWeight_12 h hgc, cgN_115_0, cgI_115_2, cgO_108, lX1_after, cgI_115_3, cgO_115, hgc, cgJ_115_11, csJ_115_11, cgJ_115_9, cgI_115_1, lX11_digit, csJ_115_9, cgJ_115_8, lX2_spreadWeight_68 h hgc, lift_lt, k_bs, k_mb, k_ms, k_bm, k_mm, k_il, k_ir, lift_ite, k_id]
noncomputable def grX2_spreadWeight (h : Hp) : Nat → Nat → Ch → Int32 → Int32 → Int64 → Option Ch
  | 0, _, _, _, _, _ => none
  | n + 1, sel, c, x1, x2, x3 => gX2_spreadWeight (grX2_spreadWeight h n) h c x1 x2 x3
theorem lrX2_spreadWeight (h : Hp) : ∀ (n sel : Nat) (c : Ch) (x1 : Int32) (x2 : Int32) (x3 : Int64), rX2_spreadWeight n sel (cput h c) 115 x1 x2 x3 = (grX2_spreadWeight h n sel c x1 x2 x3).map (cput h)
  | 0, sel, c, x1, x2, x3 => rfl
  | n + 1, sel, c, x1, x2, x3 => by
    have ih := lrX2_spreadWeight h n
    simp only [rX2_spreadWeight, grX2_spreadWeight]
    exact lX2_spreadWeight h ih c x1 x2 x3
noncomputable def gX2_weigh (h : Hp) (c : Ch) (x1 : Int32) (x2 : Int32) (x3 : Int32) (x4 : Int32) : Option Ch :=
  (gX1_tunedTo h c ).bind fun y1 =>
  (gI (cput h c) 0 y1 2).bind fun v2 =>
  lt (cI c 115 3 v2) fun c3 =>
  lt (cI c3 115 1 x1) fun c4 =>
  lt (cI c4 115 2 x4) fun c5 =>
  lt (cJ c5 115 8 (0 : Int64)) fun c6 =>
  lt (cJ c6 115 9 (0 : Int64)) fun c7 =>
  lt (cJ c7 115 10 (0 : Int64)) fun c8 =>
  lt (cJ c8 115 11 (0 : Int64)) fun c9 =>
  (grX2_spreadWeight h 100 0 c9 x2 x3 (1 : Int64)).bind fun y10 =>
  some (y10)
theorem lX2_weigh (h : Hp) (c : Ch) (x1 : Int32) (x2 : Int32) (x3 : Int32) (x4 : Int32) : fX2_weigh (cput h c) 115 x1 x2 x3 x4 = (gX2_weigh h c x1 x2 x3 x4).map (cput h) := by
  unfold fX2_weigh gX2_weigh
  simp only [cgN_115_0, cgO_108, lX1_tunedTo, csI_115_3, csI_115_1, csI_115_2, csJ_115_8, csJ_115_9, csJ_115_10, csJ_115_11, cgO_115, lrX2_spreadWeight, lift_lt, k_bs, k_mb, k_ms, k_bm, k_mm, k_il, k_ir, lift_ite, k_id]
noncomputable def gX11_weighYears (h : Hp) (c : Ch) (x1 : Int32) (x2 : Int32) : Option Ch :=
  (gX11_tuned h c ).bind fun y1 =>
  (gX2_weigh h y1 x1 x2 (y1.1 (sadr 0) 0) (y1.1 (sadr 0) 2)).bind fun y2 =>
  some (y2)
theorem lX11_weighYears (h : Hp) (c : Ch) (x1 : Int32) (x2 : Int32) : fX11_weighYears (cput h c) 80 x1 x2 = (gX11_weighYears h c x1 x2).map (cput h) := by
  unfold fX11_weighYears gX11_weighYears
  simp only [cgO_80, lX11_tuned, cgN_80_13, cgN_80_4, cgI_s_0, cgI_s_2, cgO_115, lX2_weigh, lift_lt, k_bs, k_mb, k_ms, k_bm, k_mm, k_il, k_ir, lift_ite, k_id]
noncomputable def gX11_fractionPart_63 (x5 : Int64) (s0 : Int64) : Option Int32 :=
  (dvl s0 x5).bind fun v1 =>
  some ((v1.toInt32))
theorem lX11_fractionPart_63 (h : Hp) (x5 : Int64) (s0 : Int64) : fX11_fractionPart_63 h x5 s0 = gX11_fractionPart_63 x5 s0 := by
  unfold fX11_fractionPart_63 gX11_fractionPart_63
  simp only [lift_lt, k_bs, k_mb, k_ms, k_bm, k_mm, k_il, k_ir, lift_ite, k_id]
noncomputable def gX11_fractionPart_44 (x0 : Int64) (x2 : Int64) (x4 : Int32) (x5 : Int64) : Option Int32 :=
  if (lg_cmp x5 (0 : Int64)) = 0 then (
    some ((0 : Int32))) else (
    if x4 = 0 then (
      gX11_fractionPart_63 x5 x0) else (
      gX11_fractionPart_63 x5 x2))
theorem lX11_fractionPart_44 (h : Hp) (x0 : Int64) (x2 : Int64) (x4 : Int32) (x5 : Int64) : fX11_fractionPart_44 h x0 x2 x4 x5 = gX11_fractionPart_44 x0 x2 x4 x5 := by
  unfold fX11_fractionPart_44 gX11_fractionPart_44
  simp only [lX11_fractionPart_63, lift_lt, k_bs, k_mb, k_ms, k_bm, k_mm, k_il, k_ir, lift_ite, k_id]
noncomputable def gX11_fractionPart_9b (x0 : Int64) (x2 : Int64) (x4 : Int32) (x5 : Int64) (x7 : Int64) (x9 : Int32) : Option ((Int64 × Int64 × Int32) ⊕ Int32) :=
  if (100 : Int32) ≤ x9 then (
  (gX11_fractionPart_44 x0 x2 x4 x5).map (fun q => .inr q)) else (
    if (lg_cmp x7 (0 : Int64)) = 0 then (
    (gX11_fractionPart_44 x0 x2 x4 x5).map (fun q => .inr q)) else (
      (rml x5 x7).bind fun v2 =>
      some (.inl (x7, v2, (x9 + Int32.ofInt 1)))))
noncomputable def gX11_fractionPart_9 (x0 : Int64) (x2 : Int64) (x4 : Int32) (x5 : Int64) (x7 : Int64) (x9 : Int32) : Option Int32 := lpw (σ := (Int64 × Int64 × Int32)) (fun s => gX11_fractionPart_9b x0 x2 x4 s.1 s.2.1 s.2.2) (x5, x7, x9)
theorem lX11_fractionPart_9b (h : Hp) (x0 : Int64) (x2 : Int64) (x4 : Int32) (x5 : Int64) (x7 : Int64) (x9 : Int32) : fX11_fractionPart_9b h x0 x2 x4 x5 x7 x9 = gX11_fractionPart_9b x0 x2 x4 x5 x7 x9 := by
  unfold fX11_fractionPart_9b gX11_fractionPart_9b
  simp only [lX11_fractionPart_44, lift_lt, k_bs, k_mb, k_ms, k_bm, k_mm, k_il, k_ir, lift_ite, k_id]
theorem lX11_fractionPart_9 (h : Hp) (x0 : Int64) (x2 : Int64) (x4 : Int32) (x5 : Int64) (x7 : Int64) (x9 : Int32) : fX11_fractionPart_9 h x0 x2 x4 x5 x7 x9 = gX11_fractionPart_9 x0 x2 x4 x5 x7 x9 := by
  unfold fX11_fractionPart_9 gX11_fractionPart_9
  refine congrArg (fun b => lpw b _) (funext (fun s => ?_))
  exact lX11_fractionPart_9b h x0 x2 x4 s.1 s.2.1 s.2.2
noncomputable def gX11_fractionPart (x0 : Int64) (x2 : Int64) (x4 : Int32) : Option Int32 :=
  gX11_fractionPart_9 x0 x2 x4 x2 x0 (0 : Int32)
theorem lX11_fractionPart (h : Hp) (x0 : Int64) (x2 : Int64) (x4 : Int32) : fX11_fractionPart h x0 x2 x4 = gX11_fractionPart x0 x2 x4 := by
  unfold fX11_fractionPart gX11_fractionPart
  simp only [lX11_fractionPart_9, lift_lt, k_bs, k_mb, k_ms, k_bm, k_mm, k_il, k_ir, lift_ite, k_id]
noncomputable def gX11_chance_15 (h : Hp) (c : Ch)  : Option (Int32 × Ch) :=
  some (((-2 : Int32), c))
theorem lX11_chance_15 (h : Hp) (c : Ch)  : fX11_chance_15 (cput h c)  = (gX11_chance_15 h c ).map (fun (y : (Int32 × Ch)) => (y.1, cput h y.2)) := by
  unfold fX11_chance_15 gX11_chance_15
  simp only [lift_lt, k_bs, k_mb, k_ms, k_bm, k_mm, k_il, k_ir, lift_ite, k_id]
noncomputable def gX11_chance_28 (h : Hp) (c : Ch)  : Option (Int32 × Ch) :=
  some (((-3 : Int32), c))
theorem lX11_chance_28 (h : Hp) (c : Ch)  : fX11_chance_28 (cput h c)  = (gX11_chance_28 h c ).map (fun (y : (Int32 × Ch)) => (y.1, cput h y.2)) := by
  unfold fX11_chance_28 gX11_chance_28
  simp only [lift_lt, k_bs, k_mb, k_ms, k_bm, k_mm, k_il, k_ir, lift_ite, k_id]
noncomputable def gX11_chance (h : Hp) (c : Ch) (x1 : Int32) (x2 : Int32) (x3 : Int32) : Option (Int32 × Ch) :=
  (gX11_isPair h c x1).bind fun y1 =>
  if y1 = 0 then (
  gX11_chance_15 h c ) else (
    (gX11_isFractionPart x3).bind fun y2 =>
    if y2 = 0 then (
    gX11_chance_15 h c ) else (
      if x2 < 0 then (
      gX11_chance_28 h c ) else (
        if x2 ≤ (8 : Int32) then (
          (gX11_weighYears h c x1 x2).bind fun y3 =>
          (gX11_fractionPart (y3.2.1 115 8) (y3.2.1 115 11) x3).bind fun y4 =>
          some ((y4, y3))) else (
        gX11_chance_28 h c ))))
theorem lX11_chance (h : Hp) (c : Ch) (x1 : Int32) (x2 : Int32) (x3 : Int32) : fX11_chance (cput h c) 80 x1 x2 x3 = (gX11_chance h c x1 x2 x3).map (fun (y : (Int32 × Ch)) => (y.1, cput h y.2)) := by
  unfold fX11_chance gX11_chance
  simp only [cgO_80, lX11_isPair, lX11_chance_15, lX11_isFractionPart, lX11_chance_28, lX11_weighYears, cgN_80_13, cgJ_115_8, cgJ_115_11, lX11_fractionPart, lift_lt, k_bs, k_mb, k_ms, k_bm, k_mm, k_il, k_ir, lift_ite, k_id]
noncomputable def gX11_mean_15 (h : Hp) (c : Ch)  : Option (Int32 × Ch) :=
  some (((-2 : Int32), c))
theorem lX11_mean_15 (h : Hp) (c : Ch)  : fX11_mean_15 (cput h c)  = (gX11_mean_15 h c ).map (fun (y : (Int32 × Ch)) => (y.1, cput h y.2)) := by
  unfold fX11_mean_15 gX11_mean_15
  simp only [lift_lt, k_bs, k_mb, k_ms, k_bm, k_mm, k_il, k_ir, lift_ite, k_id]
noncomputable def gX11_mean_28 (h : Hp) (c : Ch)  : Option (Int32 × Ch) :=
  some (((-3 : Int32), c))
theorem lX11_mean_28 (h : Hp) (c : Ch)  : fX11_mean_28 (cput h c)  = (gX11_mean_28 h c ).map (fun (y : (Int32 × Ch)) => (y.1, cput h y.2)) := by
  unfold fX11_mean_28 gX11_mean_28
  simp only [lift_lt, k_bs, k_mb, k_ms, k_bm, k_mm, k_il, k_ir, lift_ite, k_id]
noncomputable def gX11_mean (h : Hp) (c : Ch) (x1 : Int32) (x2 : Int32) (x3 : Int32) : Option (Int32 × Ch) :=
  (gX11_isPair h c x1).bind fun y1 =>
  if y1 = 0 then (
  gX11_mean_15 h c ) else (
    (gX11_isFractionPart x3).bind fun y2 =>
    if y2 = 0 then (
    gX11_mean_15 h c ) else (
      if x2 < 0 then (
      gX11_mean_28 h c ) else (
        if x2 ≤ (8 : Int32) then (
          (gX11_weighYears h c x1 x2).bind fun y3 =>
          (gX11_fractionPart (y3.2.1 115 9) (y3.2.1 115 11) x3).bind fun y4 =>
          some ((y4, y3))) else (
        gX11_mean_28 h c ))))
theorem lX11_mean (h : Hp) (c : Ch) (x1 : Int32) (x2 : Int32) (x3 : Int32) : fX11_mean (cput h c) 80 x1 x2 x3 = (gX11_mean h c x1 x2 x3).map (fun (y : (Int32 × Ch)) => (y.1, cput h y.2)) := by
  unfold fX11_mean gX11_mean
  simp only [cgO_80, lX11_isPair, lX11_mean_15, lX11_isFractionPart, lX11_mean_28, lX11_weighYears, cgN_80_13, cgJ_115_9, cgJ_115_11, lX11_fractionPart, lift_lt, k_bs, k_mb, k_ms, k_bm, k_mm, k_il, k_ir, lift_ite, k_id]
noncomputable def gX11_fallen_20 (h : Hp) (c : Ch)  : Option (Int32 × Ch) :=
  some (((-3 : Int32), c))
theorem lX11_fallen_20 (h : Hp) (c : Ch)  : fX11_fallen_20 (cput h c)  = (gX11_fallen_20 h c ).map (fun (y : (Int32 × Ch)) => (y.1, cput h y.2)) := by
  unfold fX11_fallen_20 gX11_fallen_20
  simp only [lift_lt, k_bs, k_mb, k_ms, k_bm, k_mm, k_il, k_ir, lift_ite, k_id]
noncomputable def gX11_fallen (h : Hp) (c : Ch) (x1 : Int32) (x2 : Int32) : Option (Int32 × Ch) :=
  (gX11_isFractionPart x2).bind fun y1 =>
  if y1 = 0 then (
    some (((-2 : Int32), c))) else (
    if x1 < 0 then (
    gX11_fallen_20 h c ) else (
      if x1 ≤ (8 : Int32) then (
        (gX11_weighYears h c (0 : Int32) x1).bind fun y2 =>
        (gX11_fractionPart (y2.2.1 115 10) (y2.2.1 115 11) x2).bind fun y3 =>
        some ((y3, y2))) else (
      gX11_fallen_20 h c )))
theorem lX11_fallen (h : Hp) (c : Ch) (x1 : Int32) (x2 : Int32) : fX11_fallen (cput h c) 80 x1 x2 = (gX11_fallen h c x1 x2).map (fun (y : (Int32 × Ch)) => (y.1, cput h y.2)) := by
  unfold fX11_fallen gX11_fallen
  simp only [lX11_isFractionPart, lX11_fallen_20, cgO_80, lX11_weighYears, cgN_80_13, cgJ_115_10, cgJ_115_11, lX11_fractionPart, lift_lt, k_bs, k_mb, k_ms, k_bm, k_mm, k_il, k_ir, lift_ite, k_id]
noncomputable def gX9_renew (h : Hp) (c : Ch) (x0 : Nat) (x1 : Int32) (x2 : Int32) : Option Ch :=
  (gfill_tp c x0 (0 : Int64)).bind fun y1 =>
  lt (cI y1 (tadr x0) 1 x1) fun c2 =>
  lt (cI c2 (tadr x0) 3 (imin x2 (40 : Int32))) fun c4 =>
  lt (cI c4 (tadr x0) 2 (0 : Int32)) fun c5 =>
  some (c5)
theorem lX9_renew (h : Hp) (c : Ch) (x0 : Nat) (x1 : Int32) (x2 : Int32) : fX9_renew (cput h c) (tadr x0) x1 x2 = (gX9_renew h c x0 x1 x2).map (cput h) := by
  unfold fX9_renew gX9_renew
  simp only [cgN_t_0, lfill_tp, csI_t_1, csI_t_3, csI_t_2, lift_lt, k_bs, k_mb, k_ms, k_bm, k_mm, k_il, k_ir, lift_ite, k_id]
noncomputable def gX11_numbers_16 (h : Hp) (c : Ch)  : Option (Int32 × Ch) :=
  some (((-2 : Int32), c))
theorem lX11_numbers_16 (h : Hp) (c : Ch)  : fX11_numbers_16 (cput h c)  = (gX11_numbers_16 h c ).map (fun (y : (Int32 × Ch)) => (y.1, cput h y.2)) := by
  unfold fX11_numbers_16 gX11_numbers_16
  simp only [lift_lt, k_bs, k_mb, k_ms, k_bm, k_mm, k_il, k_ir, lift_ite, k_id]
noncomputable def gX11_numbers_29 (h : Hp) (c : Ch)  : Option (Int32 × Ch) :=
  some (((-3 : Int32), c))
theorem lX11_numbers_29 (h : Hp) (c : Ch)  : fX11_numbers_29 (cput h c)  = (gX11_numbers_29 h c ).map (fun (y : (Int32 × Ch)) => (y.1, cput h y.2)) := by
  unfold fX11_numbers_29 gX11_numbers_29
  simp only [lift_lt, k_bs, k_mb, k_ms, k_bm, k_mm, k_il, k_ir, lift_ite, k_id]
noncomputable def gX11_numbers (h : Hp) (c : Ch) (x1 : Int32) (x2 : Int32) (x3 : Int32) : Option (Int32 × Ch) :=
  (gX11_isTray x1).bind fun y1 =>
  if y1 = 0 then (
  gX11_numbers_16 h c ) else (
    if x2 < 0 then (
    gX11_numbers_16 h c ) else (
      if x2 < (4 : Int32) then (
        if x3 < 0 then (
        gX11_numbers_29 h c ) else (
          if x3 ≤ (40 : Int32) then (
            iff_ (inB x1 4) (
            (gX9_renew h c (x1.toNatClampNeg) x2 x3).bind fun y3 =>
            some (((0 : Int32), y3)))) else (
          gX11_numbers_29 h c ))) else (
      gX11_numbers_16 h c )))
theorem lX11_numbers (h : Hp) (c : Ch) (x1 : Int32) (x2 : Int32) (x3 : Int32) : fX11_numbers (cput h c) 80 x1 x2 x3 = (gX11_numbers h c x1 x2 x3).map (fun (y : (Int32 × Ch)) => (y.1, cput h y.2)) := by
  unfold fX11_numbers gX11_numbers
  simp only [lX11_isTray, lX11_numbers_16, lX11_numbers_29, cgN_80_8, c_aN105, iff_map, cgO_t, lX9_renew, lift_lt, k_bs, k_mb, k_ms, k_bm, k_mm, k_il, k_ir, lift_ite, k_id]
noncomputable def gX9_cut (h : Hp) (c : Ch) (x0 : Nat) (x1 : Int64) : Option Int64 :=
  if (c.1 (tadr x0) 1) = 0 then (
    some ((((x1.toInt32).toInt8.toInt32).toInt64))) else (
if (c.1 (tadr x0) 1) = 1 then (
    some ((((x1.toInt32).toInt16.toInt32).toInt64))) else (
if (c.1 (tadr x0) 1) = 2 then (
    some (((x1.toInt32).toInt64))) else (
    some (x1))))
theorem lX9_cut (h : Hp) (c : Ch) (x0 : Nat) (x1 : Int64) : fX9_cut (cput h c) (tadr x0) x1 = gX9_cut h c x0 x1 := by
  unfold fX9_cut gX9_cut
  simp only [cgI_t_1, lift_lt, k_bs, k_mb, k_ms, k_bm, k_mm, k_il, k_ir, lift_ite, k_id]
noncomputable def gX9_put_23 (h : Hp) (c : Ch)  : Option Ch :=
  some (c)
theorem lX9_put_23 (h : Hp) (c : Ch)  : fX9_put_23 (cput h c)  = (gX9_put_23 h c ).map (cput h) := by
  unfold fX9_put_23 gX9_put_23
  simp only [lift_lt, k_bs, k_mb, k_ms, k_bm, k_mm, k_il, k_ir, lift_ite, k_id]
noncomputable def gX9_put (h : Hp) (c : Ch) (x0 : Nat) (x1 : Int32) (x2 : Int64) : Option Ch :=
  if x1 < 0 then (
  gX9_put_23 h c ) else (
    if (c.1 (tadr x0) 3) ≤ x1 then (
    gX9_put_23 h c ) else (
      (gX9_cut h c x0 x2).bind fun y1 =>
      (cWL c (tadr x0 + 1) 40 x1 y1).bind fun c2 =>
      gX9_put_23 h c2 ))
theorem lX9_put (h : Hp) (c : Ch) (x0 : Nat) (x1 : Int32) (x2 : Int64) : fX9_put (cput h c) (tadr x0) x1 x2 = (gX9_put h c x0 x1 x2).map (cput h) := by
  unfold fX9_put gX9_put
  simp only [lX9_put_23, cgI_t_3, cgN_t_0, cgO_t, lX9_cut, cwJ_tp, lift_lt, k_bs, k_mb, k_ms, k_bm, k_mm, k_il, k_ir, lift_ite, k_id]
noncomputable def gX11_write_44 (h : Hp) (c : Ch)  : Option (Int64 × Ch) :=
  some (((-7 : Int64), c))
theorem lX11_write_44 (h : Hp) (c : Ch)  : fX11_write_44 (cput h c)  = (gX11_write_44 h c ).map (fun (y : (Int64 × Ch)) => (y.1, cput h y.2)) := by
  unfold fX11_write_44 gX11_write_44
  simp only [lift_lt, k_bs, k_mb, k_ms, k_bm, k_mm, k_il, k_ir, lift_ite, k_id]
noncomputable def gX11_write (h : Hp) (c : Ch) (x1 : Int32) (x2 : Int32) (x3 : Int64) : Option (Int64 × Ch) :=
  (gX11_isTray x1).bind fun y1 =>
  if y1 = 0 then (
    some (((-2 : Int64), c))) else (
    iff_ (inB x1 4) (
    if (c.1 (tadr (x1.toNatClampNeg)) 2) = 0 then (
      if x2 < 0 then (
      gX11_write_44 h c ) else (
        if x2 < (c.1 (tadr (x1.toNatClampNeg)) 3) then (
          (gX9_put h c (x1.toNatClampNeg) x2 x3).bind fun y3 =>
          (gX9_at h y3 (x1.toNatClampNeg) x2).bind fun y4 =>
          some ((y4, y3))) else (
        gX11_write_44 h c ))) else (
      some (((-6 : Int64), c)))))
theorem lX11_write (h : Hp) (c : Ch) (x1 : Int32) (x2 : Int32) (x3 : Int64) : fX11_write (cput h c) 80 x1 x2 x3 = (gX11_write h c x1 x2 x3).map (fun (y : (Int64 × Ch)) => (y.1, cput h y.2)) := by
  unfold fX11_write gX11_write
  simp only [lX11_isTray, cgN_80_8, c_aN105, iff_map, cgI_t_2, lX11_write_44, cgI_t_3, cgO_t, lX9_put, lX9_at, lift_lt, k_bs, k_mb, k_ms, k_bm, k_mm, k_il, k_ir, lift_ite, k_id]
noncomputable def gX11_lists_15 (h : Hp) (c : Ch)  : Option (Int32 × Ch) :=
  some (((-2 : Int32), c))
theorem lX11_lists_15 (h : Hp) (c : Ch)  : fX11_lists_15 (cput h c)  = (gX11_lists_15 h c ).map (fun (y : (Int32 × Ch)) => (y.1, cput h y.2)) := by
  unfold fX11_lists_15 gX11_lists_15
  simp only [lift_lt, k_bs, k_mb, k_ms, k_bm, k_mm, k_il, k_ir, lift_ite, k_id]
noncomputable def gX11_lists_52b (h : Hp) (c : Ch) (x2 : Int32) (x3 : Nat) (x4 : Int32) (x5 : Int32) : Option ((Int32 × Int32 × Ch) ⊕ (Int32 × Ch)) :=
  if (c.1 (tadr x3) 3) ≤ x5 then (
    some (.inr ((c.1 (tadr x3) 3), c))) else (
    (gX1_after h c x4 (c.1 (sadr 0) 2) (0 : Int32)).bind fun y5 =>
    (gX11_digit y5.1 x2).bind fun y6 =>
    (gX9_put h y5.2 x3 x5 (y6.toInt64)).bind fun y7 =>
    some (.inl (y5.1, (x5 + Int32.ofInt 1), y7)))
noncomputable def gX11_lists_52 (h : Hp) (c : Ch) (x2 : Int32) (x3 : Nat) (x4 : Int32) (x5 : Int32) : Option (Int32 × Ch) := lpw (σ := (Int32 × Int32 × Ch)) (fun s => gX11_lists_52b h s.2.2 x2 x3 s.1 s.2.1) (x4, x5, c)
theorem lX11_lists_52b (h : Hp) (c : Ch) (x2 : Int32) (x3 : Nat) (x4 : Int32) (x5 : Int32) : fX11_lists_52b (cput h c) 80 x2 (tadr x3) x4 x5 = (gX11_lists_52b h c x2 x3 x4 x5).map (Sum.map (fun (s : (Int32 × Int32 × Ch)) => (s.1, s.2.1, cput h s.2.2)) (fun (y : (Int32 × Ch)) => (y.1, cput h y.2))) := by
  unfold fX11_lists_52b gX11_lists_52b
  simp only [cgI_t_3, cgN_80_11, cgN_80_4, cgI_s_2, cgO_108, lX1_after, lX11_digit, cgO_t, lX9_put, lift_lt, k_bs, k_mb, k_ms, k_bm, k_mm, k_il, k_ir, lift_ite, k_id]
theorem lX11_lists_52 (h : Hp) (c : Ch) (x2 : Int32) (x3 : Nat) (x4 : Int32) (x5 : Int32) : fX11_lists_52 (cput h c) 80 x2 (tadr x3) x4 x5 = (gX11_lists_52 h c x2 x3 x4 x5).map (fun (y : (Int32 × Ch)) => (y.1, cput h y.2)) := by
  unfold fX11_lists_52 gX11_lists_52
  exact lpw_map _ _ (fun (s : (Int32 × Int32 × Ch)) => (s.1, s.2.1, cput h s.2.2)) (fun (y : (Int32 × Ch)) => (y.1, cput h y.2)) (fun s => lX11_lists_52b h s.2.2 x2 x3 s.1 s.2.1) (x4, x5, c)
noncomputable def gX11_lists (h : Hp) (c : Ch) (x1 : Int32) (x2 : Int32) : Option (Int32 × Ch) :=
  (gX11_isTray x1).bind fun y1 =>
  if y1 = 0 then (
  gX11_lists_15 h c ) else (
    (gX11_isPair h c x2).bind fun y2 =>
    if y2 = 0 then (
    gX11_lists_15 h c ) else (
      iff_ (inB x1 4) (
      if (c.1 (tadr (x1.toNatClampNeg)) 2) = 0 then (
        (gX11_tuned h c ).bind fun y4 =>
        gX11_lists_52 h y4 x2 (x1.toNatClampNeg) (y4.1 (sadr 0) 0) (0 : Int32)) else (
        some (((-6 : Int32), c))))))
theorem lX11_lists (h : Hp) (c : Ch) (x1 : Int32) (x2 : Int32) : fX11_lists (cput h c) 80 x1 x2 = (gX11_lists h c x1 x2).map (fun (y : (Int32 × Ch)) => (y.1, cput h y.2)) := by
  unfold fX11_lists gX11_lists
  simp only [lX11_isTray, lX11_lists_15, cgO_80, lX11_isPair, cgN_80_8, c_aN105, iff_map, cgI_t_2, lX11_tuned, cgN_80_4, cgI_s_0, lX11_lists_52, lift_lt, k_bs, k_mb, k_ms, k_bm, k_mm, k_il, k_ir, lift_ite, k_id]
noncomputable def gX11_image_9 (h : Hp) (c : Ch)  : Option (Int32 × Ch) :=
  some (((-2 : Int32), c))
theorem lX11_image_9 (h : Hp) (c : Ch)  : fX11_image_9 (cput h c)  = (gX11_image_9 h c ).map (fun (y : (Int32 × Ch)) => (y.1, cput h y.2)) := by
  unfold fX11_image_9 gX11_image_9
  simp only [lift_lt, k_bs, k_mb, k_ms, k_bm, k_mm, k_il, k_ir, lift_ite, k_id]
noncomputable def gX11_image (h : Hp) (c : Ch) (x1 : Int32) : Option (Int32 × Ch) :=
  if x1 < 0 then (
  gX11_image_9 h c ) else (
    if x1 < (2 : Int32) then (
      (c.2.2.1 80 3).bind fun v1 =>
      (cWQ2 h c x1 v1).bind fun c2 =>
      iff_ (inB x1 2) (
      (gX8_copy h c2 (13 + x1.toNatClampNeg) 0).bind fun y4 =>
      some (((0 : Int32), y4)))) else (
    gX11_image_9 h c ))
theorem lX11_image (h : Hp) (c : Ch) (x1 : Int32) : fX11_image (cput h c) 80 x1 = (gX11_image h c x1).map (fun (y : (Int32 × Ch)) => (y.1, cput h y.2)) := by
  unfold fX11_image gX11_image
  simp only [lX11_image_9, cgN_80_9, cgN_80_3, c_wR106, cgN_80_10, c_aN107, iff_map, cgN_80_4, cgO_s, lX8_copy, lift_lt, k_bs, k_mb, k_ms, k_bm, k_mm, k_il, k_ir, lift_ite, k_id]
