/-! the class over its own numbers -/
noncomputable def gX4_tellLead_135 (h : Hp) (c : Ch) (x2 : Int32) : Option (Int32 × Ch) :=
  lt (cI c 82 13 x2) fun c2 =>
  some (((1 : Int32), c2))
theorem lX4_tellLead_135 (h : Hp) (c : Ch) (x2 : Int32) : fX4_tellLead_135 (cput h c) 82 x2 = (gX4_tellLead_135 h c x2).map (fun (y : (Int32 × Ch)) => (y.1, cput h y.2)) := by
  unfold fX4_tellLead_135 gX4_tellLead_135
  simp only [csI_82_13, lift_lt, k_bs, k_mb, k_ms, k_bm, k_mm, k_il, k_ir, lift_ite, k_id]
noncomputable def gX4_tellLead_94 (h : Hp) (c : Ch) (x1 : Int32) (x2 : Int32) (x3 : Int32) : Option ((Int32 × Int32 × Int32 × Ch) ⊕ (Int32 × Ch)) :=
  (gX4_takeNumber h c ((c.1 82 9) - x1)).bind fun y3 =>
  if y3.1 = 0 then (
    some (.inr ((0 : Int32), y3.2))) else (
    (tT 2 x3).bind fun v4 =>
    some (.inl ((x1 + (y3.2.1 82 4)), (x2 + ((y3.2.1 82 4) * v4)), (x3 + Int32.ofInt 1), y3.2)))
theorem lX4_tellLead_94 (h : Hp) (c : Ch) (x1 : Int32) (x2 : Int32) (x3 : Int32) : fX4_tellLead_94 (cput h c) 82 x1 x2 x3 = (gX4_tellLead_94 h c x1 x2 x3).map (Sum.map (fun (s : (Int32 × Int32 × Int32 × Ch)) => (s.1, s.2.1, s.2.2.1, cput h s.2.2.2)) (fun (y : (Int32 × Ch)) => (y.1, cput h y.2))) := by
  unfold fX4_tellLead_94 gX4_tellLead_94
  simp only [cgI_82_9, cgO_82, lX4_takeNumber, cgI_82_4, lift_lt, k_bs, k_mb, k_ms, k_bm, k_mm, k_il, k_ir, lift_ite, k_id]
noncomputable def gX4_tellLead_54 (h : Hp) (c : Ch) (x1 : Int32) (x2 : Int32) (x3 : Int32) (s0 : Int32) : Option ((Int32 × Int32 × Int32 × Ch) ⊕ (Int32 × Ch)) :=
  if s0 = 0 then (
  gX4_tellLead_94 h c x1 x2 x3) else (
    if (c.1 83 3) = (2 : Int32) then (
      if (c.1 82 9) ≤ (x1 + (c.1 83 5)) then (
      gX4_tellLead_94 h c x1 x2 x3) else (
        (gX4_refuse h c (3 : Int32)).bind fun y5 =>
        bl y5.1 (some (.inr (y5.1, y5.2))))) else (
    gX4_tellLead_94 h c x1 x2 x3))
theorem lX4_tellLead_54 (h : Hp) (c : Ch) (x1 : Int32) (x2 : Int32) (x3 : Int32) (s0 : Int32) : fX4_tellLead_54 (cput h c) 82 x1 x2 x3 s0 = (gX4_tellLead_54 h c x1 x2 x3 s0).map (Sum.map (fun (s : (Int32 × Int32 × Int32 × Ch)) => (s.1, s.2.1, s.2.2.1, cput h s.2.2.2)) (fun (y : (Int32 × Ch)) => (y.1, cput h y.2))) := by
  unfold fX4_tellLead_54 gX4_tellLead_54
  simp only [lX4_tellLead_94, cgN_82_0, cgI_83_3, cgI_83_5, cgI_82_9, cgO_82, lX4_refuse, lift_bl, lift_lt, k_bs, k_mb, k_ms, k_bm, k_mm, k_il, k_ir, lift_ite, k_id]
noncomputable def gX4_tellLead_26b (h : Hp) (c : Ch) (x1 : Int32) (x2 : Int32) (x3 : Int32) : Option ((Int32 × Int32 × Int32 × Ch) ⊕ (Int32 × Ch)) :=
  if (c.1 82 8) ≤ x3 then (
  (gX4_tellLead_135 h c x2).map (fun q => .inr q)) else (
    if (4 : Int32) ≤ x3 then (
    (gX4_tellLead_135 h c x2).map (fun q => .inr q)) else (
      if x3 = ((c.1 82 8) - (1 : Int32)) then (
        gX4_tellLead_54 h c x1 x2 x3 (1 : Int32)) else (
        gX4_tellLead_54 h c x1 x2 x3 (0 : Int32))))
noncomputable def gX4_tellLead_26 (h : Hp) (c : Ch) (x1 : Int32) (x2 : Int32) (x3 : Int32) : Option (Int32 × Ch) := lpw (σ := (Int32 × Int32 × Int32 × Ch)) (fun s => gX4_tellLead_26b h s.2.2.2  s.1 s.2.1 s.2.2.1) (x1, x2, x3, c)
theorem lX4_tellLead_26b (h : Hp) (c : Ch) (x1 : Int32) (x2 : Int32) (x3 : Int32) : fX4_tellLead_26b (cput h c) 82 x1 x2 x3 = (gX4_tellLead_26b h c x1 x2 x3).map (Sum.map (fun (s : (Int32 × Int32 × Int32 × Ch)) => (s.1, s.2.1, s.2.2.1, cput h s.2.2.2)) (fun (y : (Int32 × Ch)) => (y.1, cput h y.2))) := by
  unfold fX4_tellLead_26b gX4_tellLead_26b
  simp only [cgI_82_8, lX4_tellLead_135, lX4_tellLead_54, lift_lt, k_bs, k_mb, k_ms, k_bm, k_mm, k_il, k_ir, lift_ite, k_id]
theorem lX4_tellLead_26 (h : Hp) (c : Ch) (x1 : Int32) (x2 : Int32) (x3 : Int32) : fX4_tellLead_26 (cput h c) 82 x1 x2 x3 = (gX4_tellLead_26 h c x1 x2 x3).map (fun (y : (Int32 × Ch)) => (y.1, cput h y.2)) := by
  unfold fX4_tellLead_26 gX4_tellLead_26
  exact lpw_map _ _ (fun (s : (Int32 × Int32 × Int32 × Ch)) => (s.1, s.2.1, s.2.2.1, cput h s.2.2.2)) (fun (y : (Int32 × Ch)) => (y.1, cput h y.2)) (fun s => lX4_tellLead_26b h s.2.2.2 s.1 s.2.1 s.2.2.1) (x1, x2, x3, c)
noncomputable def gX4_tellLead (h : Hp) (c : Ch)  : Option (Int32 × Ch) :=
  if (c.1 82 8) = 0 then (
    (gX4_refuse h c (2 : Int32)).bind fun y6 =>
    bl y6.1 (some ((y6.1, y6.2)))) else (
    (gX6_advance h c ).bind fun y1 =>
    gX4_tellLead_26 h y1 (0 : Int32) (0 : Int32) (0 : Int32))
theorem lX4_tellLead (h : Hp) (c : Ch)  : fX4_tellLead (cput h c) 82 = (gX4_tellLead h c ).map (fun (y : (Int32 × Ch)) => (y.1, cput h y.2)) := by
  unfold fX4_tellLead gX4_tellLead
  simp only [cgI_82_8, cgN_82_0, cgO_83, lX6_advance, lX4_tellLead_26, cgO_82, lX4_refuse, lift_bl, lift_lt, k_bs, k_mb, k_ms, k_bm, k_mm, k_il, k_ir, lift_ite, k_id]
noncomputable def gX4_tellDry (h : Hp) (c : Ch)  : Option (Int32 × Ch) :=
  (gX6_advance h c ).bind fun y1 =>
  (gX4_takeNumber h y1 (10 : Int32)).bind fun y2 =>
  if y2.1 = 0 then (
    some (((0 : Int32), y2.2))) else (
    lt (cI y2.2 82 10 (y2.2.1 82 4)) fun c3 =>
    some (((1 : Int32), c3)))
theorem lX4_tellDry (h : Hp) (c : Ch)  : fX4_tellDry (cput h c) 82 = (gX4_tellDry h c ).map (fun (y : (Int32 × Ch)) => (y.1, cput h y.2)) := by
  unfold fX4_tellDry gX4_tellDry
  simp only [cgN_82_0, cgO_83, lX6_advance, cgO_82, lX4_takeNumber, cgI_82_4, csI_82_10, lift_lt, k_bs, k_mb, k_ms, k_bm, k_mm, k_il, k_ir, lift_ite, k_id]
noncomputable def gX4_put_32 (h : Hp) (c : Ch)  : Option Ch :=
  some (c)
theorem lX4_put_32 (h : Hp) (c : Ch)  : fX4_put_32 (cput h c)  = (gX4_put_32 h c ).map (cput h) := by
  unfold fX4_put_32 gX4_put_32
  simp only [lift_lt, k_bs, k_mb, k_ms, k_bm, k_mm, k_il, k_ir, lift_ite, k_id]
noncomputable def gX4_put (h : Hp) (c : Ch) (x1 : Int32) : Option Ch :=
  if (Int32.ofNat 900) ≤ (c.1 82 2) then (
  gX4_put_32 h c ) else (
    (cWA c 0 85 900 (c.1 82 2) x1).bind fun c1 =>
    lt (cI c1 82 2 ((c1.1 82 2) + (1 : Int32))) fun c2 =>
    gX4_put_32 h c2 )
theorem lX4_put (h : Hp) (c : Ch) (x1 : Int32) : fX4_put (cput h c) 82 x1 = (gX4_put h c x1).map (cput h) := by
  unfold fX4_put gX4_put
  simp only [cgI_82_2, cgN_82_1, caL_85, lX4_put_32, cwI_85, csI_82_2, lift_lt, k_bs, k_mb, k_ms, k_bm, k_mm, k_il, k_ir, lift_ite, k_id]
noncomputable def gX4_isAtPlusOrMinus_29 (h : Hp) (c : Ch) (s0 : Int32) : Option Int32 :=
  bl s0 (some (s0))
theorem lX4_isAtPlusOrMinus_29 (h : Hp) (c : Ch) (s0 : Int32) : fX4_isAtPlusOrMinus_29 (cput h c) s0 = gX4_isAtPlusOrMinus_29 h c s0 := by
  unfold fX4_isAtPlusOrMinus_29 gX4_isAtPlusOrMinus_29
  simp only [lift_bl, lift_lt, k_bs, k_mb, k_ms, k_bm, k_mm, k_il, k_ir, lift_ite, k_id]
noncomputable def gX4_isAtPlusOrMinus_24 (h : Hp) (c : Ch)  : Option Int32 :=
  gX4_isAtPlusOrMinus_29 h c (1 : Int32)
theorem lX4_isAtPlusOrMinus_24 (h : Hp) (c : Ch)  : fX4_isAtPlusOrMinus_24 (cput h c)  = gX4_isAtPlusOrMinus_24 h c  := by
  unfold fX4_isAtPlusOrMinus_24 gX4_isAtPlusOrMinus_24
  simp only [lX4_isAtPlusOrMinus_29, lift_lt, k_bs, k_mb, k_ms, k_bm, k_mm, k_il, k_ir, lift_ite, k_id]
noncomputable def gX4_isAtPlusOrMinus (h : Hp) (c : Ch)  : Option Int32 :=
  (gX6_isAt h c 32).bind fun y1 =>
  if y1 = 0 then (
    (gX6_isAt h c 33).bind fun y2 =>
    if y2 = 0 then (
      gX4_isAtPlusOrMinus_29 h c (0 : Int32)) else (
    gX4_isAtPlusOrMinus_24 h c )) else (
  gX4_isAtPlusOrMinus_24 h c )
theorem lX4_isAtPlusOrMinus (h : Hp) (c : Ch)  : fX4_isAtPlusOrMinus (cput h c) 82 = gX4_isAtPlusOrMinus h c  := by
  unfold fX4_isAtPlusOrMinus gX4_isAtPlusOrMinus
  simp only [cgN_82_0, cgO_83, lX6_isAt, lX4_isAtPlusOrMinus_24, lX4_isAtPlusOrMinus_29, lift_lt, k_bs, k_mb, k_ms, k_bm, k_mm, k_il, k_ir, lift_ite, k_id]
noncomputable def gX4_goInto (h : Hp) (c : Ch) (x1 : Int32) : Option (Int32 × Ch) :=
  if x1 < (6 : Int32) then (
    (gX6_advance h c ).bind fun y1 =>
    some (((1 : Int32), y1))) else (
    (gX4_refuse h c (4 : Int32)).bind fun y2 =>
    bl y2.1 (some ((y2.1, y2.2))))
theorem lX4_goInto (h : Hp) (c : Ch) (x1 : Int32) : fX4_goInto (cput h c) 82 x1 = (gX4_goInto h c x1).map (fun (y : (Int32 × Ch)) => (y.1, cput h y.2)) := by
  unfold fX4_goInto gX4_goInto
  simp only [cgN_82_0, cgO_83, lX6_advance, cgO_82, lX4_refuse, lift_bl, lift_lt, k_bs, k_mb, k_ms, k_bm, k_mm, k_il, k_ir, lift_ite, k_id]
noncomputable def gX4_wordOfGrows_64 (h : Hp) (c : Ch) (s0 : Int32) : Option Int32 :=
  some (s0)
theorem lX4_wordOfGrows_64 (h : Hp) (c : Ch) (s0 : Int32) : fX4_wordOfGrows_64 (cput h c) s0 = gX4_wordOfGrows_64 h c s0 := by
  unfold fX4_wordOfGrows_64 gX4_wordOfGrows_64
  simp only [lift_lt, k_bs, k_mb, k_ms, k_bm, k_mm, k_il, k_ir, lift_ite, k_id]
noncomputable def gX4_wordOfGrows (h : Hp) (c : Ch)  : Option Int32 :=
  (gX6_isAt h c 7).bind fun y1 =>
  if y1 = 0 then (
    (gX6_isAt h c 9).bind fun y2 =>
    if y2 = 0 then (
      (gX6_isAt h c 5).bind fun y3 =>
      if y3 = 0 then (
        (gX6_isAt h c 8).bind fun y4 =>
        if y4 = 0 then (
          gX4_wordOfGrows_64 h c (-19 : Int32)) else (
          gX4_wordOfGrows_64 h c (-6 : Int32))) else (
        some ((-5 : Int32)))) else (
      some ((-4 : Int32)))) else (
    some ((-3 : Int32)))
theorem lX4_wordOfGrows (h : Hp) (c : Ch)  : fX4_wordOfGrows (cput h c) 82 = gX4_wordOfGrows h c  := by
  unfold fX4_wordOfGrows gX4_wordOfGrows
  simp only [cgN_82_0, cgO_83, lX6_isAt, lX4_wordOfGrows_64, lift_lt, k_bs, k_mb, k_ms, k_bm, k_mm, k_il, k_ir, lift_ite, k_id]
noncomputable def gX4_wordOfFalls_34 (h : Hp) (c : Ch) (s0 : Int32) : Option Int32 :=
  some (s0)
theorem lX4_wordOfFalls_34 (h : Hp) (c : Ch) (s0 : Int32) : fX4_wordOfFalls_34 (cput h c) s0 = gX4_wordOfFalls_34 h c s0 := by
  unfold fX4_wordOfFalls_34 gX4_wordOfFalls_34
  simp only [lift_lt, k_bs, k_mb, k_ms, k_bm, k_mm, k_il, k_ir, lift_ite, k_id]
noncomputable def gX4_wordOfFalls (h : Hp) (c : Ch)  : Option Int32 :=
  (gX6_isAt h c 29).bind fun y1 =>
  if y1 = 0 then (
    (gX6_isAt h c 30).bind fun y2 =>
    if y2 = 0 then (
      gX4_wordOfFalls_34 h c (-19 : Int32)) else (
      gX4_wordOfFalls_34 h c (-8 : Int32))) else (
    some ((-7 : Int32)))
theorem lX4_wordOfFalls (h : Hp) (c : Ch)  : fX4_wordOfFalls (cput h c) 82 = gX4_wordOfFalls h c  := by
  unfold fX4_wordOfFalls gX4_wordOfFalls
  simp only [cgN_82_0, cgO_83, lX6_isAt, lX4_wordOfFalls_34, lift_lt, k_bs, k_mb, k_ms, k_bm, k_mm, k_il, k_ir, lift_ite, k_id]
noncomputable def gX4_word_47 (h : Hp) (c : Ch) (s0 : Int32) : Option Int32 :=
  some (s0)
theorem lX4_word_47 (h : Hp) (c : Ch) (s0 : Int32) : fX4_word_47 (cput h c) s0 = gX4_word_47 h c s0 := by
  unfold fX4_word_47 gX4_word_47
  simp only [lift_lt, k_bs, k_mb, k_ms, k_bm, k_mm, k_il, k_ir, lift_ite, k_id]
noncomputable def gX4_word (h : Hp) (c : Ch)  : Option Int32 :=
  (gX6_isAt h c 28).bind fun y1 =>
  if y1 = 0 then (
    (gX6_isAt h c 11).bind fun y2 =>
    if y2 = 0 then (
      if (c.1 82 3) = 0 then (
        (gX4_wordOfFalls h c ).bind fun y3 =>
        gX4_word_47 h c y3) else (
        (gX4_wordOfGrows h c ).bind fun y4 =>
        gX4_word_47 h c y4)) else (
      some ((-2 : Int32)))) else (
    some ((-1 : Int32)))
theorem lX4_word (h : Hp) (c : Ch)  : fX4_word (cput h c) 82 = gX4_word h c  := by
  unfold fX4_word gX4_word
  simp only [cgN_82_0, cgO_83, lX6_isAt, cgI_82_3, cgO_82, lX4_wordOfFalls, lX4_word_47, lX4_wordOfGrows, lift_lt, k_bs, k_mb, k_ms, k_bm, k_mm, k_il, k_ir, lift_ite, k_id]
noncomputable def gX4_sum_72 (gc : Nat → Ch → Int32 → Option (Int32 × Ch)) (h : Hp) (c : Ch) (x2 : Int32) : Option (Int32 × Ch) :=
  bl x2 (some ((x2, c)))
theorem lX4_sum_72 (h : Hp) {rc : Nat → Hp → Nat → Int32 → Option (Int32 × Hp)} {gc : Nat → Ch → Int32 → Option (Int32 × Ch)} (hgc : ∀ (sel : Nat) (c : Ch) (x1 : Int32), rc sel (cput h c) 82 x1 = (gc sel c x1).map (fun (y : (Int32 × Ch)) => (y.1, cput h y.2))) (c : Ch) (x2 : Int32) : fX4_sum_72 rc (cput h c) x2 = (gX4_sum_72 gc h c x2).map (fun (y : (Int32 × Ch)) => (y.1, cput h y.2)) := by
  unfold fX4_sum_72 gX4_sum_72
  simp only [lift_bl, lift_lt, k_bs, k_mb, k_ms, k_bm, k_mm, k_il, k_ir, lift_ite, k_id]
noncomputable def gX4_sum_45 (gc : Nat → Ch → Int32 → Option (Int32 × Ch)) (h : Hp) (c : Ch) (x1 : Int32) (x3 : Int32) (s0 : Int32) : Option ((Int32 × Int32 × Ch) ⊕ (Int32 × Ch)) :=
  (gX6_advance h c ).bind fun y4 =>
  (gc 1 y4 x1).bind fun y5 =>
  (gX4_put h y5.2 s0).bind fun y6 =>
  some (.inl (y5.1, (x3 + Int32.ofInt 1), y6))
theorem lX4_sum_45 (h : Hp) {rc : Nat → Hp → Nat → Int32 → Option (Int32 × Hp)} {gc : Nat → Ch → Int32 → Option (Int32 × Ch)} (hgc : ∀ (sel : Nat) (c : Ch) (x1 : Int32), rc sel (cput h c) 82 x1 = (gc sel c x1).map (fun (y : (Int32 × Ch)) => (y.1, cput h y.2))) (c : Ch) (x1 : Int32) (x3 : Int32) (s0 : Int32) : fX4_sum_45 rc (cput h c) 82 x1 x3 s0 = (gX4_sum_45 gc h c x1 x3 s0).map (Sum.map (fun (s : (Int32 × Int32 × Ch)) => (s.1, s.2.1, cput h s.2.2)) (fun (y : (Int32 × Ch)) => (y.1, cput h y.2))) := by
  unfold fX4_sum_45 gX4_sum_45
  simp only [cgN_82_0, cgO_83, lX6_advance, cgO_82, hgc, lX4_put, lift_lt, k_bs, k_mb, k_ms, k_bm, k_mm, k_il, k_ir, lift_ite, k_id]
noncomputable def gX4_sum_8b (gc : Nat → Ch → Int32 → Option (Int32 × Ch)) (h : Hp) (c : Ch) (x1 : Int32) (x2 : Int32) (x3 : Int32) : Option ((Int32 × Int32 × Ch) ⊕ (Int32 × Ch)) :=
  if (900 : Int32) ≤ x3 then (
  (gX4_sum_72 gc h c x2).map (fun q => .inr q)) else (
    if x2 = 0 then (
    (gX4_sum_72 gc h c x2).map (fun q => .inr q)) else (
      (gX4_isAtPlusOrMinus h c ).bind fun y2 =>
      if y2 = 0 then (
      (gX4_sum_72 gc h c x2).map (fun q => .inr q)) else (
        (gX6_isAt h c 32).bind fun y3 =>
        if y3 = 0 then (
          gX4_sum_45 gc h c x1 x3 (-12 : Int32)) else (
          gX4_sum_45 gc h c x1 x3 (-11 : Int32)))))
noncomputable def gX4_sum_8 (gc : Nat → Ch → Int32 → Option (Int32 × Ch)) (h : Hp) (c : Ch) (x1 : Int32) (x2 : Int32) (x3 : Int32) : Option (Int32 × Ch) := lpw (σ := (Int32 × Int32 × Ch)) (fun s => gX4_sum_8b gc h s.2.2 x1 s.1 s.2.1) (x2, x3, c)
theorem lX4_sum_8b (h : Hp) {rc : Nat → Hp → Nat → Int32 → Option (Int32 × Hp)} {gc : Nat → Ch → Int32 → Option (Int32 × Ch)} (hgc : ∀ (sel : Nat) (c : Ch) (x1 : Int32), rc sel (cput h c) 82 x1 = (gc sel c x1).map (fun (y : (Int32 × Ch)) => (y.1, cput h y.2))) (c : Ch) (x1 : Int32) (x2 : Int32) (x3 : Int32) : fX4_sum_8b rc (cput h c) 82 x1 x2 x3 = (gX4_sum_8b gc h c x1 x2 x3).map (Sum.map (fun (s : (Int32 × Int32 × Ch)) => (s.1, s.2.1, cput h s.2.2)) (fun (y : (Int32 × Ch)) => (y.1, cput h y.2))) := by
  unfold fX4_sum_8b gX4_sum_8b
  simp only [lX4_sum_72 h hgc, cgO_82, lX4_isAtPlusOrMinus, cgN_82_0, cgO_83, lX6_isAt, lX4_sum_45 h hgc, lift_lt, k_bs, k_mb, k_ms, k_bm, k_mm, k_il, k_ir, lift_ite, k_id]
theorem lX4_sum_8 (h : Hp) {rc : Nat → Hp → Nat → Int32 → Option (Int32 × Hp)} {gc : Nat → Ch → Int32 → Option (Int32 × Ch)} (hgc : ∀ (sel : Nat) (c : Ch) (x1 : Int32), rc sel (cput h c) 82 x1 = (gc sel c x1).map (fun (y : (Int32 × Ch)) => (y.1, cput h y.2))) (c : Ch) (x1 : Int32) (x2 : Int32) (x3 : Int32) : fX4_sum_8 rc (cput h c) 82 x1 x2 x3 = (gX4_sum_8 gc h c x1 x2 x3).map (fun (y : (Int32 × Ch)) => (y.1, cput h y.2)) := by
  unfold fX4_sum_8 gX4_sum_8
  exact lpw_map _ _ (fun (s : (Int32 × Int32 × Ch)) => (s.1, s.2.1, cput h s.2.2)) (fun (y : (Int32 × Ch)) => (y.1, cput h y.2)) (fun s => lX4_sum_8b h hgc s.2.2 x1 s.1 s.2.1) (x2, x3, c)
noncomputable def gX4_sum (gc : Nat → Ch → Int32 → Option (Int32 × Ch)) (h : Hp) (c : Ch) (x1 : Int32) : Option (Int32 × Ch) :=
  (gc 1 c x1).bind fun y1 =>
  gX4_sum_8 gc h y1.2 x1 y1.1 (0 : Int32)
theorem lX4_sum (h : Hp) {rc : Nat → Hp → Nat → Int32 → Option (Int32 × Hp)} {gc : Nat → Ch → Int32 → Option (Int32 × Ch)} (hgc : ∀ (sel : Nat) (c : Ch) (x1 : Int32), rc sel (cput h c) 82 x1 = (gc sel c x1).map (fun (y : (Int32 × Ch)) => (y.1, cput h y.2))) (c : Ch) (x1 : Int32) : fX4_sum rc (cput h c) 82 x1 = (gX4_sum gc h c x1).map (fun (y : (Int32 × Ch)) => (y.1, cput h y.2)) := by
  unfold fX4_sum gX4_sum
  simp only [cgO_82, hgc, lX4_sum_8 h hgc, lift_lt, k_bs, k_mb, k_ms, k_bm, k_mm, k_il, k_ir, lift_ite, k_id]
noncomputable def gX4_term_56 (gc : Nat → Ch → Int32 → Option (Int32 × Ch)) (h : Hp) (c : Ch) (x2 : Int32) : Option (Int32 × Ch) :=
  bl x2 (some ((x2, c)))
theorem lX4_term_56 (h : Hp) {rc : Nat → Hp → Nat → Int32 → Option (Int32 × Hp)} {gc : Nat → Ch → Int32 → Option (Int32 × Ch)} (hgc : ∀ (sel : Nat) (c : Ch) (x1 : Int32), rc sel (cput h c) 82 x1 = (gc sel c x1).map (fun (y : (Int32 × Ch)) => (y.1, cput h y.2))) (c : Ch) (x2 : Int32) : fX4_term_56 rc (cput h c) x2 = (gX4_term_56 gc h c x2).map (fun (y : (Int32 × Ch)) => (y.1, cput h y.2)) := by
  unfold fX4_term_56 gX4_term_56
  simp only [lift_bl, lift_lt, k_bs, k_mb, k_ms, k_bm, k_mm, k_il, k_ir, lift_ite, k_id]
noncomputable def gX4_term_8b (gc : Nat → Ch → Int32 → Option (Int32 × Ch)) (h : Hp) (c : Ch) (x1 : Int32) (x2 : Int32) (x3 : Int32) : Option ((Int32 × Int32 × Ch) ⊕ (Int32 × Ch)) :=
  if (900 : Int32) ≤ x3 then (
  (gX4_term_56 gc h c x2).map (fun q => .inr q)) else (
    if x2 = 0 then (
    (gX4_term_56 gc h c x2).map (fun q => .inr q)) else (
      (gX6_isAt h c 31).bind fun y2 =>
      if y2 = 0 then (
      (gX4_term_56 gc h c x2).map (fun q => .inr q)) else (
        (gX6_advance h c ).bind fun y3 =>
        (gc 2 y3 x1).bind fun y4 =>
        (gX4_put h y4.2 (-13 : Int32)).bind fun y5 =>
        some (.inl (y4.1, (x3 + Int32.ofInt 1), y5)))))
noncomputable def gX4_term_8 (gc : Nat → Ch → Int32 → Option (Int32 × Ch)) (h : Hp) (c : Ch) (x1 : Int32) (x2 : Int32) (x3 : Int32) : Option (Int32 × Ch) := lpw (σ := (Int32 × Int32 × Ch)) (fun s => gX4_term_8b gc h s.2.2 x1 s.1 s.2.1) (x2, x3, c)
theorem lX4_term_8b (h : Hp) {rc : Nat → Hp → Nat → Int32 → Option (Int32 × Hp)} {gc : Nat → Ch → Int32 → Option (Int32 × Ch)} (hgc : ∀ (sel : Nat) (c : Ch) (x1 : Int32), rc sel (cput h c) 82 x1 = (gc sel c x1).map (fun (y : (Int32 × Ch)) => (y.1, cput h y.2))) (c : Ch) (x1 : Int32) (x2 : Int32) (x3 : Int32) : fX4_term_8b rc (cput h c) 82 x1 x2 x3 = (gX4_term_8b gc h c x1 x2 x3).map (Sum.map (fun (s : (Int32 × Int32 × Ch)) => (s.1, s.2.1, cput h s.2.2)) (fun (y : (Int32 × Ch)) => (y.1, cput h y.2))) := by
  unfold fX4_term_8b gX4_term_8b
  simp only [lX4_term_56 h hgc, cgN_82_0, cgO_83, lX6_isAt, lX6_advance, cgO_82, hgc, lX4_put, lift_lt, k_bs, k_mb, k_ms, k_bm, k_mm, k_il, k_ir, lift_ite, k_id]
theorem lX4_term_8 (h : Hp) {rc : Nat → Hp → Nat → Int32 → Option (Int32 × Hp)} {gc : Nat → Ch → Int32 → Option (Int32 × Ch)} (hgc : ∀ (sel : Nat) (c : Ch) (x1 : Int32), rc sel (cput h c) 82 x1 = (gc sel c x1).map (fun (y : (Int32 × Ch)) => (y.1, cput h y.2))) (c : Ch) (x1 : Int32) (x2 : Int32) (x3 : Int32) : fX4_term_8 rc (cput h c) 82 x1 x2 x3 = (gX4_term_8 gc h c x1 x2 x3).map (fun (y : (Int32 × Ch)) => (y.1, cput h y.2)) := by
  unfold fX4_term_8 gX4_term_8
  exact lpw_map _ _ (fun (s : (Int32 × Int32 × Ch)) => (s.1, s.2.1, cput h s.2.2)) (fun (y : (Int32 × Ch)) => (y.1, cput h y.2)) (fun s => lX4_term_8b h hgc s.2.2 x1 s.1 s.2.1) (x2, x3, c)
noncomputable def gX4_term (gc : Nat → Ch → Int32 → Option (Int32 × Ch)) (h : Hp) (c : Ch) (x1 : Int32) : Option (Int32 × Ch) :=
  (gc 2 c x1).bind fun y1 =>
  gX4_term_8 gc h y1.2 x1 y1.1 (0 : Int32)
theorem lX4_term (h : Hp) {rc : Nat → Hp → Nat → Int32 → Option (Int32 × Hp)} {gc : Nat → Ch → Int32 → Option (Int32 × Ch)} (hgc : ∀ (sel : Nat) (c : Ch) (x1 : Int32), rc sel (cput h c) 82 x1 = (gc sel c x1).map (fun (y : (Int32 × Ch)) => (y.1, cput h y.2))) (c : Ch) (x1 : Int32) : fX4_term rc (cput h c) 82 x1 = (gX4_term gc h c x1).map (fun (y : (Int32 × Ch)) => (y.1, cput h y.2)) := by
  unfold fX4_term gX4_term
  simp only [cgO_82, hgc, lX4_term_8 h hgc, lift_lt, k_bs, k_mb, k_ms, k_bm, k_mm, k_il, k_ir, lift_ite, k_id]
noncomputable def gX4_atom_88 (gc : Nat → Ch → Int32 → Option (Int32 × Ch)) (h : Hp) (c : Ch) (s0 : Int32) : Option (Int32 × Ch) :=
  if s0 = (-19 : Int32) then (
    (gX4_refuse h c (2 : Int32)).bind fun y6 =>
    bl y6.1 (some ((y6.1, y6.2)))) else (
    (gX4_put h c s0).bind fun y4 =>
    (gX6_advance h y4 ).bind fun y5 =>
    some (((1 : Int32), y5)))
theorem lX4_atom_88 (h : Hp) {rc : Nat → Hp → Nat → Int32 → Option (Int32 × Hp)} {gc : Nat → Ch → Int32 → Option (Int32 × Ch)} (hgc : ∀ (sel : Nat) (c : Ch) (x1 : Int32), rc sel (cput h c) 82 x1 = (gc sel c x1).map (fun (y : (Int32 × Ch)) => (y.1, cput h y.2))) (c : Ch) (s0 : Int32) : fX4_atom_88 rc (cput h c) 82 s0 = (gX4_atom_88 gc h c s0).map (fun (y : (Int32 × Ch)) => (y.1, cput h y.2)) := by
  unfold fX4_atom_88 gX4_atom_88
  simp only [cgO_82, lX4_put, cgN_82_0, cgO_83, lX6_advance, lX4_refuse, lift_bl, lift_lt, k_bs, k_mb, k_ms, k_bm, k_mm, k_il, k_ir, lift_ite, k_id]
noncomputable def gX4_atom_44 (gc : Nat → Ch → Int32 → Option (Int32 × Ch)) (h : Hp) (c : Ch) (s0 : Int32) : Option (Int32 × Ch) :=
  bl s0 (some ((s0, c)))
theorem lX4_atom_44 (h : Hp) {rc : Nat → Hp → Nat → Int32 → Option (Int32 × Hp)} {gc : Nat → Ch → Int32 → Option (Int32 × Ch)} (hgc : ∀ (sel : Nat) (c : Ch) (x1 : Int32), rc sel (cput h c) 82 x1 = (gc sel c x1).map (fun (y : (Int32 × Ch)) => (y.1, cput h y.2))) (c : Ch) (s0 : Int32) : fX4_atom_44 rc (cput h c) s0 = (gX4_atom_44 gc h c s0).map (fun (y : (Int32 × Ch)) => (y.1, cput h y.2)) := by
  unfold fX4_atom_44 gX4_atom_44
  simp only [lift_bl, lift_lt, k_bs, k_mb, k_ms, k_bm, k_mm, k_il, k_ir, lift_ite, k_id]
noncomputable def gX4_atom_43 (gc : Nat → Ch → Int32 → Option (Int32 × Ch)) (h : Hp) (c : Ch)  : Option (Int32 × Ch) :=
  gX4_atom_44 gc h c (0 : Int32)
theorem lX4_atom_43 (h : Hp) {rc : Nat → Hp → Nat → Int32 → Option (Int32 × Hp)} {gc : Nat → Ch → Int32 → Option (Int32 × Ch)} (hgc : ∀ (sel : Nat) (c : Ch) (x1 : Int32), rc sel (cput h c) 82 x1 = (gc sel c x1).map (fun (y : (Int32 × Ch)) => (y.1, cput h y.2))) (c : Ch)  : fX4_atom_43 rc (cput h c)  = (gX4_atom_43 gc h c ).map (fun (y : (Int32 × Ch)) => (y.1, cput h y.2)) := by
  unfold fX4_atom_43 gX4_atom_43
  simp only [lX4_atom_44 h hgc, lift_lt, k_bs, k_mb, k_ms, k_bm, k_mm, k_il, k_ir, lift_ite, k_id]
noncomputable def gX4_atom (gc : Nat → Ch → Int32 → Option (Int32 × Ch)) (h : Hp) (c : Ch) (x1 : Int32) : Option (Int32 × Ch) :=
  (gX6_isAt h c 14).bind fun y1 =>
  if y1 = 0 then (
    (gX6_isAt h c 16).bind fun y2 =>
    if y2 = 0 then (
      if (c.1 83 3) = (2 : Int32) then (
        gX4_atom_88 gc h c (c.1 83 5)) else (
        (gX4_word h c ).bind fun y3 =>
        gX4_atom_88 gc h c y3)) else (
      (gc 3 c x1).bind fun y7 =>
      bl y7.1 (some ((y7.1, y7.2))))) else (
    (gX4_goInto h c x1).bind fun y8 =>
    if y8.1 = 0 then (
    gX4_atom_43 gc h y8.2 ) else (
      (gc 0 y8.2 (x1 + (1 : Int32))).bind fun y9 =>
      if y9.1 = 0 then (
      gX4_atom_43 gc h y9.2 ) else (
        (gX4_take h y9.2 15).bind fun y10 =>
        if y10.1 = 0 then (
        gX4_atom_43 gc h y10.2 ) else (
          gX4_atom_44 gc h y10.2 (1 : Int32)))))
theorem lX4_atom (h : Hp) {rc : Nat → Hp → Nat → Int32 → Option (Int32 × Hp)} {gc : Nat → Ch → Int32 → Option (Int32 × Ch)} (hgc : ∀ (sel : Nat) (c : Ch) (x1 : Int32), rc sel (cput h c) 82 x1 = (gc sel c x1).map (fun (y : (Int32 × Ch)) => (y.1, cput h y.2))) (c : Ch) (x1 : Int32) : fX4_atom rc (cput h c) 82 x1 = (gX4_atom gc h c x1).map (fun (y : (Int32 × Ch)) => (y.1, cput h y.2)) := by
  unfold fX4_atom gX4_atom
  simp only [cgN_82_0, cgO_83, lX6_isAt, cgI_83_3, cgO_82, lX4_word, lX4_atom_88 h hgc, cgI_83_5, hgc, lift_bl, lX4_goInto, lX4_atom_43 h hgc, lX4_take, lX4_atom_44 h hgc, lift_lt, k_bs, k_mb, k_ms, k_bm, k_mm, k_il, k_ir, lift_ite, k_id]
noncomputable def gX4_choice_37 (gc : Nat → Ch → Int32 → Option (Int32 × Ch)) (h : Hp) (c : Ch)  : Option (Int32 × Ch) :=
  some (((0 : Int32), c))
theorem lX4_choice_37 (h : Hp) {rc : Nat → Hp → Nat → Int32 → Option (Int32 × Hp)} {gc : Nat → Ch → Int32 → Option (Int32 × Ch)} (hgc : ∀ (sel : Nat) (c : Ch) (x1 : Int32), rc sel (cput h c) 82 x1 = (gc sel c x1).map (fun (y : (Int32 × Ch)) => (y.1, cput h y.2))) (c : Ch)  : fX4_choice_37 rc (cput h c)  = (gX4_choice_37 gc h c ).map (fun (y : (Int32 × Ch)) => (y.1, cput h y.2)) := by
  unfold fX4_choice_37 gX4_choice_37
  simp only [lift_lt, k_bs, k_mb, k_ms, k_bm, k_mm, k_il, k_ir, lift_ite, k_id]
noncomputable def gX4_choice_67 (gc : Nat → Ch → Int32 → Option (Int32 × Ch)) (h : Hp) (c : Ch)  : Option (Int32 × Ch) :=
  some (((0 : Int32), c))
theorem lX4_choice_67 (h : Hp) {rc : Nat → Hp → Nat → Int32 → Option (Int32 × Hp)} {gc : Nat → Ch → Int32 → Option (Int32 × Ch)} (hgc : ∀ (sel : Nat) (c : Ch) (x1 : Int32), rc sel (cput h c) 82 x1 = (gc sel c x1).map (fun (y : (Int32 × Ch)) => (y.1, cput h y.2))) (c : Ch)  : fX4_choice_67 rc (cput h c)  = (gX4_choice_67 gc h c ).map (fun (y : (Int32 × Ch)) => (y.1, cput h y.2)) := by
  unfold fX4_choice_67 gX4_choice_67
  simp only [lift_lt, k_bs, k_mb, k_ms, k_bm, k_mm, k_il, k_ir, lift_ite, k_id]
noncomputable def gX4_choice (gc : Nat → Ch → Int32 → Option (Int32 × Ch)) (h : Hp) (c : Ch) (x1 : Int32) : Option (Int32 × Ch) :=
  (gX4_goInto h c x1).bind fun y1 =>
  if y1.1 = 0 then (
  gX4_choice_37 gc h y1.2 ) else (
    (gc 4 y1.2 (x1 + (1 : Int32))).bind fun y2 =>
    if y2.1 = 0 then (
    gX4_choice_37 gc h y2.2 ) else (
      (gX4_take h y2.2 25).bind fun y3 =>
      if y3.1 = 0 then (
      gX4_choice_37 gc h y3.2 ) else (
        (gc 0 y3.2 (x1 + (1 : Int32))).bind fun y4 =>
        if y4.1 = 0 then (
        gX4_choice_37 gc h y4.2 ) else (
          (gX4_take h y4.2 26).bind fun y5 =>
          if y5.1 = 0 then (
          gX4_choice_67 gc h y5.2 ) else (
            (gc 0 y5.2 (x1 + (1 : Int32))).bind fun y6 =>
            if y6.1 = 0 then (
            gX4_choice_67 gc h y6.2 ) else (
              (gX4_take h y6.2 27).bind fun y7 =>
              if y7.1 = 0 then (
              gX4_choice_67 gc h y7.2 ) else (
                (gX4_put h y7.2 (-20 : Int32)).bind fun y8 =>
                some (((1 : Int32), y8)))))))))
theorem lX4_choice (h : Hp) {rc : Nat → Hp → Nat → Int32 → Option (Int32 × Hp)} {gc : Nat → Ch → Int32 → Option (Int32 × Ch)} (hgc : ∀ (sel : Nat) (c : Ch) (x1 : Int32), rc sel (cput h c) 82 x1 = (gc sel c x1).map (fun (y : (Int32 × Ch)) => (y.1, cput h y.2))) (c : Ch) (x1 : Int32) : fX4_choice rc (cput h c) 82 x1 = (gX4_choice gc h c x1).map (fun (y : (Int32 × Ch)) => (y.1, cput h y.2)) := by
  unfold fX4_choice gX4_choice
  simp only [cgO_82, lX4_goInto, lX4_choice_37 h hgc, hgc, lX4_take, lX4_choice_67 h hgc, lX4_put, lift_lt, k_bs, k_mb, k_ms, k_bm, k_mm, k_il, k_ir, lift_ite, k_id]
noncomputable def gX4_truth_56 (gc : Nat → Ch → Int32 → Option (Int32 × Ch)) (h : Hp) (c : Ch) (x2 : Int32) : Option (Int32 × Ch) :=
  bl x2 (some ((x2, c)))
theorem lX4_truth_56 (h : Hp) {rc : Nat → Hp → Nat → Int32 → Option (Int32 × Hp)} {gc : Nat → Ch → Int32 → Option (Int32 × Ch)} (hgc : ∀ (sel : Nat) (c : Ch) (x1 : Int32), rc sel (cput h c) 82 x1 = (gc sel c x1).map (fun (y : (Int32 × Ch)) => (y.1, cput h y.2))) (c : Ch) (x2 : Int32) : fX4_truth_56 rc (cput h c) x2 = (gX4_truth_56 gc h c x2).map (fun (y : (Int32 × Ch)) => (y.1, cput h y.2)) := by
  unfold fX4_truth_56 gX4_truth_56
  simp only [lift_bl, lift_lt, k_bs, k_mb, k_ms, k_bm, k_mm, k_il, k_ir, lift_ite, k_id]
noncomputable def gX4_truth_8b (gc : Nat → Ch → Int32 → Option (Int32 × Ch)) (h : Hp) (c : Ch) (x1 : Int32) (x2 : Int32) (x3 : Int32) : Option ((Int32 × Int32 × Ch) ⊕ (Int32 × Ch)) :=
  if (900 : Int32) ≤ x3 then (
  (gX4_truth_56 gc h c x2).map (fun q => .inr q)) else (
    if x2 = 0 then (
    (gX4_truth_56 gc h c x2).map (fun q => .inr q)) else (
      (gX6_isAt h c 24).bind fun y2 =>
      if y2 = 0 then (
      (gX4_truth_56 gc h c x2).map (fun q => .inr q)) else (
        (gX6_advance h c ).bind fun y3 =>
        (gc 5 y3 x1).bind fun y4 =>
        (gX4_put h y4.2 (-18 : Int32)).bind fun y5 =>
        some (.inl (y4.1, (x3 + Int32.ofInt 1), y5)))))
noncomputable def gX4_truth_8 (gc : Nat → Ch → Int32 → Option (Int32 × Ch)) (h : Hp) (c : Ch) (x1 : Int32) (x2 : Int32) (x3 : Int32) : Option (Int32 × Ch) := lpw (σ := (Int32 × Int32 × Ch)) (fun s => gX4_truth_8b gc h s.2.2 x1 s.1 s.2.1) (x2, x3, c)
theorem lX4_truth_8b (h : Hp) {rc : Nat → Hp → Nat → Int32 → Option (Int32 × Hp)} {gc : Nat → Ch → Int32 → Option (Int32 × Ch)} (hgc : ∀ (sel : Nat) (c : Ch) (x1 : Int32), rc sel (cput h c) 82 x1 = (gc sel c x1).map (fun (y : (Int32 × Ch)) => (y.1, cput h y.2))) (c : Ch) (x1 : Int32) (x2 : Int32) (x3 : Int32) : fX4_truth_8b rc (cput h c) 82 x1 x2 x3 = (gX4_truth_8b gc h c x1 x2 x3).map (Sum.map (fun (s : (Int32 × Int32 × Ch)) => (s.1, s.2.1, cput h s.2.2)) (fun (y : (Int32 × Ch)) => (y.1, cput h y.2))) := by
  unfold fX4_truth_8b gX4_truth_8b
  simp only [lX4_truth_56 h hgc, cgN_82_0, cgO_83, lX6_isAt, lX6_advance, cgO_82, hgc, lX4_put, lift_lt, k_bs, k_mb, k_ms, k_bm, k_mm, k_il, k_ir, lift_ite, k_id]
theorem lX4_truth_8 (h : Hp) {rc : Nat → Hp → Nat → Int32 → Option (Int32 × Hp)} {gc : Nat → Ch → Int32 → Option (Int32 × Ch)} (hgc : ∀ (sel : Nat) (c : Ch) (x1 : Int32), rc sel (cput h c) 82 x1 = (gc sel c x1).map (fun (y : (Int32 × Ch)) => (y.1, cput h y.2))) (c : Ch) (x1 : Int32) (x2 : Int32) (x3 : Int32) : fX4_truth_8 rc (cput h c) 82 x1 x2 x3 = (gX4_truth_8 gc h c x1 x2 x3).map (fun (y : (Int32 × Ch)) => (y.1, cput h y.2)) := by
  unfold fX4_truth_8 gX4_truth_8
  exact lpw_map _ _ (fun (s : (Int32 × Int32 × Ch)) => (s.1, s.2.1, cput h s.2.2)) (fun (y : (Int32 × Ch)) => (y.1, cput h y.2)) (fun s => lX4_truth_8b h hgc s.2.2 x1 s.1 s.2.1) (x2, x3, c)
noncomputable def gX4_truth (gc : Nat → Ch → Int32 → Option (Int32 × Ch)) (h : Hp) (c : Ch) (x1 : Int32) : Option (Int32 × Ch) :=
  (gc 5 c x1).bind fun y1 =>
  gX4_truth_8 gc h y1.2 x1 y1.1 (0 : Int32)
theorem lX4_truth (h : Hp) {rc : Nat → Hp → Nat → Int32 → Option (Int32 × Hp)} {gc : Nat → Ch → Int32 → Option (Int32 × Ch)} (hgc : ∀ (sel : Nat) (c : Ch) (x1 : Int32), rc sel (cput h c) 82 x1 = (gc sel c x1).map (fun (y : (Int32 × Ch)) => (y.1, cput h y.2))) (c : Ch) (x1 : Int32) : fX4_truth rc (cput h c) 82 x1 = (gX4_truth gc h c x1).map (fun (y : (Int32 × Ch)) => (y.1, cput h y.2)) := by
  unfold fX4_truth gX4_truth
  simp only [cgO_82, hgc, lX4_truth_8 h hgc, lift_lt, k_bs, k_mb, k_ms, k_bm, k_mm, k_il, k_ir, lift_ite, k_id]
noncomputable def gX4_both_56 (gc : Nat → Ch → Int32 → Option (Int32 × Ch)) (h : Hp) (c : Ch) (x2 : Int32) : Option (Int32 × Ch) :=
  bl x2 (some ((x2, c)))
theorem lX4_both_56 (h : Hp) {rc : Nat → Hp → Nat → Int32 → Option (Int32 × Hp)} {gc : Nat → Ch → Int32 → Option (Int32 × Ch)} (hgc : ∀ (sel : Nat) (c : Ch) (x1 : Int32), rc sel (cput h c) 82 x1 = (gc sel c x1).map (fun (y : (Int32 × Ch)) => (y.1, cput h y.2))) (c : Ch) (x2 : Int32) : fX4_both_56 rc (cput h c) x2 = (gX4_both_56 gc h c x2).map (fun (y : (Int32 × Ch)) => (y.1, cput h y.2)) := by
  unfold fX4_both_56 gX4_both_56
  simp only [lift_bl, lift_lt, k_bs, k_mb, k_ms, k_bm, k_mm, k_il, k_ir, lift_ite, k_id]
noncomputable def gX4_both_8b (gc : Nat → Ch → Int32 → Option (Int32 × Ch)) (h : Hp) (c : Ch) (x1 : Int32) (x2 : Int32) (x3 : Int32) : Option ((Int32 × Int32 × Ch) ⊕ (Int32 × Ch)) :=
  if (900 : Int32) ≤ x3 then (
  (gX4_both_56 gc h c x2).map (fun q => .inr q)) else (
    if x2 = 0 then (
    (gX4_both_56 gc h c x2).map (fun q => .inr q)) else (
      (gX6_isAt h c 23).bind fun y2 =>
      if y2 = 0 then (
      (gX4_both_56 gc h c x2).map (fun q => .inr q)) else (
        (gX6_advance h c ).bind fun y3 =>
        (gc 6 y3 x1).bind fun y4 =>
        (gX4_put h y4.2 (-17 : Int32)).bind fun y5 =>
        some (.inl (y4.1, (x3 + Int32.ofInt 1), y5)))))
noncomputable def gX4_both_8 (gc : Nat → Ch → Int32 → Option (Int32 × Ch)) (h : Hp) (c : Ch) (x1 : Int32) (x2 : Int32) (x3 : Int32) : Option (Int32 × Ch) := lpw (σ := (Int32 × Int32 × Ch)) (fun s => gX4_both_8b gc h s.2.2 x1 s.1 s.2.1) (x2, x3, c)
theorem lX4_both_8b (h : Hp) {rc : Nat → Hp → Nat → Int32 → Option (Int32 × Hp)} {gc : Nat → Ch → Int32 → Option (Int32 × Ch)} (hgc : ∀ (sel : Nat) (c : Ch) (x1 : Int32), rc sel (cput h c) 82 x1 = (gc sel c x1).map (fun (y : (Int32 × Ch)) => (y.1, cput h y.2))) (c : Ch) (x1 : Int32) (x2 : Int32) (x3 : Int32) : fX4_both_8b rc (cput h c) 82 x1 x2 x3 = (gX4_both_8b gc h c x1 x2 x3).map (Sum.map (fun (s : (Int32 × Int32 × Ch)) => (s.1, s.2.1, cput h s.2.2)) (fun (y : (Int32 × Ch)) => (y.1, cput h y.2))) := by
  unfold fX4_both_8b gX4_both_8b
  simp only [lX4_both_56 h hgc, cgN_82_0, cgO_83, lX6_isAt, lX6_advance, cgO_82, hgc, lX4_put, lift_lt, k_bs, k_mb, k_ms, k_bm, k_mm, k_il, k_ir, lift_ite, k_id]
theorem lX4_both_8 (h : Hp) {rc : Nat → Hp → Nat → Int32 → Option (Int32 × Hp)} {gc : Nat → Ch → Int32 → Option (Int32 × Ch)} (hgc : ∀ (sel : Nat) (c : Ch) (x1 : Int32), rc sel (cput h c) 82 x1 = (gc sel c x1).map (fun (y : (Int32 × Ch)) => (y.1, cput h y.2))) (c : Ch) (x1 : Int32) (x2 : Int32) (x3 : Int32) : fX4_both_8 rc (cput h c) 82 x1 x2 x3 = (gX4_both_8 gc h c x1 x2 x3).map (fun (y : (Int32 × Ch)) => (y.1, cput h y.2)) := by
  unfold fX4_both_8 gX4_both_8
  exact lpw_map _ _ (fun (s : (Int32 × Int32 × Ch)) => (s.1, s.2.1, cput h s.2.2)) (fun (y : (Int32 × Ch)) => (y.1, cput h y.2)) (fun s => lX4_both_8b h hgc s.2.2 x1 s.1 s.2.1) (x2, x3, c)
noncomputable def gX4_both (gc : Nat → Ch → Int32 → Option (Int32 × Ch)) (h : Hp) (c : Ch) (x1 : Int32) : Option (Int32 × Ch) :=
  (gc 6 c x1).bind fun y1 =>
  gX4_both_8 gc h y1.2 x1 y1.1 (0 : Int32)
theorem lX4_both (h : Hp) {rc : Nat → Hp → Nat → Int32 → Option (Int32 × Hp)} {gc : Nat → Ch → Int32 → Option (Int32 × Ch)} (hgc : ∀ (sel : Nat) (c : Ch) (x1 : Int32), rc sel (cput h c) 82 x1 = (gc sel c x1).map (fun (y : (Int32 × Ch)) => (y.1, cput h y.2))) (c : Ch) (x1 : Int32) : fX4_both rc (cput h c) 82 x1 = (gX4_both gc h c x1).map (fun (y : (Int32 × Ch)) => (y.1, cput h y.2)) := by
  unfold fX4_both gX4_both
  simp only [cgO_82, hgc, lX4_both_8 h hgc, lift_lt, k_bs, k_mb, k_ms, k_bm, k_mm, k_il, k_ir, lift_ite, k_id]
noncomputable def gX4_unit_110 (gc : Nat → Ch → Int32 → Option (Int32 × Ch)) (h : Hp) (c : Ch) (s0 : Int32) : Option (Int32 × Ch) :=
  bl s0 (some ((s0, c)))
theorem lX4_unit_110 (h : Hp) {rc : Nat → Hp → Nat → Int32 → Option (Int32 × Hp)} {gc : Nat → Ch → Int32 → Option (Int32 × Ch)} (hgc : ∀ (sel : Nat) (c : Ch) (x1 : Int32), rc sel (cput h c) 82 x1 = (gc sel c x1).map (fun (y : (Int32 × Ch)) => (y.1, cput h y.2))) (c : Ch) (s0 : Int32) : fX4_unit_110 rc (cput h c) s0 = (gX4_unit_110 gc h c s0).map (fun (y : (Int32 × Ch)) => (y.1, cput h y.2)) := by
  unfold fX4_unit_110 gX4_unit_110
  simp only [lift_bl, lift_lt, k_bs, k_mb, k_ms, k_bm, k_mm, k_il, k_ir, lift_ite, k_id]
noncomputable def gX4_unit_109 (gc : Nat → Ch → Int32 → Option (Int32 × Ch)) (h : Hp) (c : Ch)  : Option (Int32 × Ch) :=
  gX4_unit_110 gc h c (0 : Int32)
theorem lX4_unit_109 (h : Hp) {rc : Nat → Hp → Nat → Int32 → Option (Int32 × Hp)} {gc : Nat → Ch → Int32 → Option (Int32 × Ch)} (hgc : ∀ (sel : Nat) (c : Ch) (x1 : Int32), rc sel (cput h c) 82 x1 = (gc sel c x1).map (fun (y : (Int32 × Ch)) => (y.1, cput h y.2))) (c : Ch)  : fX4_unit_109 rc (cput h c)  = (gX4_unit_109 gc h c ).map (fun (y : (Int32 × Ch)) => (y.1, cput h y.2)) := by
  unfold fX4_unit_109 gX4_unit_109
  simp only [lX4_unit_110 h hgc, lift_lt, k_bs, k_mb, k_ms, k_bm, k_mm, k_il, k_ir, lift_ite, k_id]
noncomputable def gX4_unit_88 (gc : Nat → Ch → Int32 → Option (Int32 × Ch)) (h : Hp) (c : Ch) (s0 : Int32) : Option (Int32 × Ch) :=
  bl s0 (some ((s0, c)))
theorem lX4_unit_88 (h : Hp) {rc : Nat → Hp → Nat → Int32 → Option (Int32 × Hp)} {gc : Nat → Ch → Int32 → Option (Int32 × Ch)} (hgc : ∀ (sel : Nat) (c : Ch) (x1 : Int32), rc sel (cput h c) 82 x1 = (gc sel c x1).map (fun (y : (Int32 × Ch)) => (y.1, cput h y.2))) (c : Ch) (s0 : Int32) : fX4_unit_88 rc (cput h c) s0 = (gX4_unit_88 gc h c s0).map (fun (y : (Int32 × Ch)) => (y.1, cput h y.2)) := by
  unfold fX4_unit_88 gX4_unit_88
  simp only [lift_bl, lift_lt, k_bs, k_mb, k_ms, k_bm, k_mm, k_il, k_ir, lift_ite, k_id]
noncomputable def gX4_unit_87 (gc : Nat → Ch → Int32 → Option (Int32 × Ch)) (h : Hp) (c : Ch)  : Option (Int32 × Ch) :=
  gX4_unit_88 gc h c (0 : Int32)
theorem lX4_unit_87 (h : Hp) {rc : Nat → Hp → Nat → Int32 → Option (Int32 × Hp)} {gc : Nat → Ch → Int32 → Option (Int32 × Ch)} (hgc : ∀ (sel : Nat) (c : Ch) (x1 : Int32), rc sel (cput h c) 82 x1 = (gc sel c x1).map (fun (y : (Int32 × Ch)) => (y.1, cput h y.2))) (c : Ch)  : fX4_unit_87 rc (cput h c)  = (gX4_unit_87 gc h c ).map (fun (y : (Int32 × Ch)) => (y.1, cput h y.2)) := by
  unfold fX4_unit_87 gX4_unit_87
  simp only [lX4_unit_88 h hgc, lift_lt, k_bs, k_mb, k_ms, k_bm, k_mm, k_il, k_ir, lift_ite, k_id]
noncomputable def gX4_unit_35 (gc : Nat → Ch → Int32 → Option (Int32 × Ch)) (h : Hp) (c : Ch) (s0 : Int32) : Option (Int32 × Ch) :=
  (gX4_put h c (-19 : Int32)).bind fun y9 =>
  bl s0 (some ((s0, y9)))
theorem lX4_unit_35 (h : Hp) {rc : Nat → Hp → Nat → Int32 → Option (Int32 × Hp)} {gc : Nat → Ch → Int32 → Option (Int32 × Ch)} (hgc : ∀ (sel : Nat) (c : Ch) (x1 : Int32), rc sel (cput h c) 82 x1 = (gc sel c x1).map (fun (y : (Int32 × Ch)) => (y.1, cput h y.2))) (c : Ch) (s0 : Int32) : fX4_unit_35 rc (cput h c) 82 s0 = (gX4_unit_35 gc h c s0).map (fun (y : (Int32 × Ch)) => (y.1, cput h y.2)) := by
  unfold fX4_unit_35 gX4_unit_35
  simp only [cgO_82, lX4_put, lift_bl, lift_lt, k_bs, k_mb, k_ms, k_bm, k_mm, k_il, k_ir, lift_ite, k_id]
noncomputable def gX4_unit_34 (gc : Nat → Ch → Int32 → Option (Int32 × Ch)) (h : Hp) (c : Ch)  : Option (Int32 × Ch) :=
  gX4_unit_35 gc h c (0 : Int32)
theorem lX4_unit_34 (h : Hp) {rc : Nat → Hp → Nat → Int32 → Option (Int32 × Hp)} {gc : Nat → Ch → Int32 → Option (Int32 × Ch)} (hgc : ∀ (sel : Nat) (c : Ch) (x1 : Int32), rc sel (cput h c) 82 x1 = (gc sel c x1).map (fun (y : (Int32 × Ch)) => (y.1, cput h y.2))) (c : Ch)  : fX4_unit_34 rc (cput h c) 82 = (gX4_unit_34 gc h c ).map (fun (y : (Int32 × Ch)) => (y.1, cput h y.2)) := by
  unfold fX4_unit_34 gX4_unit_34
  simp only [lX4_unit_35 h hgc, lift_lt, k_bs, k_mb, k_ms, k_bm, k_mm, k_il, k_ir, lift_ite, k_id]
noncomputable def gX4_unit (gc : Nat → Ch → Int32 → Option (Int32 × Ch)) (h : Hp) (c : Ch) (x1 : Int32) : Option (Int32 × Ch) :=
  (gX6_isAt h c 17).bind fun y1 =>
  if y1 = 0 then (
    (gX6_isAt h c 18).bind fun y2 =>
    if y2 = 0 then (
      (gc 0 c x1).bind fun y3 =>
      if y3.1 = 0 then (
      gX4_unit_109 gc h y3.2 ) else (
        (gc 7 y3.2 x1).bind fun y4 =>
        if y4.1 = 0 then (
        gX4_unit_109 gc h y4.2 ) else (
          gX4_unit_110 gc h y4.2 (1 : Int32)))) else (
      (gX4_goInto h c x1).bind fun y5 =>
      if y5.1 = 0 then (
      gX4_unit_87 gc h y5.2 ) else (
        (gc 4 y5.2 (x1 + (1 : Int32))).bind fun y6 =>
        if y6.1 = 0 then (
        gX4_unit_87 gc h y6.2 ) else (
          (gX4_take h y6.2 19).bind fun y7 =>
          if y7.1 = 0 then (
          gX4_unit_87 gc h y7.2 ) else (
            gX4_unit_88 gc h y7.2 (1 : Int32)))))) else (
    (gX4_goInto h c x1).bind fun y8 =>
    if y8.1 = 0 then (
    gX4_unit_34 gc h y8.2 ) else (
      (gc 6 y8.2 (x1 + (1 : Int32))).bind fun y10 =>
      if y10.1 = 0 then (
      gX4_unit_34 gc h y10.2 ) else (
        gX4_unit_35 gc h y10.2 (1 : Int32))))
theorem lX4_unit (h : Hp) {rc : Nat → Hp → Nat → Int32 → Option (Int32 × Hp)} {gc : Nat → Ch → Int32 → Option (Int32 × Ch)} (hgc : ∀ (sel : Nat) (c : Ch) (x1 : Int32), rc sel (cput h c) 82 x1 = (gc sel c x1).map (fun (y : (Int32 × Ch)) => (y.1, cput h y.2))) (c : Ch) (x1 : Int32) : fX4_unit rc (cput h c) 82 x1 = (gX4_unit gc h c x1).map (fun (y : (Int32 × Ch)) => (y.1, cput h y.2)) := by
  unfold fX4_unit gX4_unit
  simp only [cgN_82_0, cgO_83, lX6_isAt, cgO_82, hgc, lX4_unit_109 h hgc, lX4_unit_110 h hgc, lX4_goInto, lX4_unit_87 h hgc, lX4_take, lX4_unit_88 h hgc, lX4_unit_34 h hgc, lX4_unit_35 h hgc, lift_lt, k_bs, k_mb, k_ms, k_bm, k_mm, k_il, k_ir, lift_ite, k_id]
noncomputable def gX4_comparison_57 (gc : Nat → Ch → Int32 → Option (Int32 × Ch)) (h : Hp) (c : Ch) (x1 : Int32) (x2 : Int32) : Option (Int32 × Ch) :=
  (gX6_advance h c ).bind fun y4 =>
  (gc 0 y4 x1).bind fun y5 =>
  (gX4_put h y5.2 x2).bind fun y6 =>
  bl y5.1 (some ((y5.1, y6)))
theorem lX4_comparison_57 (h : Hp) {rc : Nat → Hp → Nat → Int32 → Option (Int32 × Hp)} {gc : Nat → Ch → Int32 → Option (Int32 × Ch)} (hgc : ∀ (sel : Nat) (c : Ch) (x1 : Int32), rc sel (cput h c) 82 x1 = (gc sel c x1).map (fun (y : (Int32 × Ch)) => (y.1, cput h y.2))) (c : Ch) (x1 : Int32) (x2 : Int32) : fX4_comparison_57 rc (cput h c) 82 x1 x2 = (gX4_comparison_57 gc h c x1 x2).map (fun (y : (Int32 × Ch)) => (y.1, cput h y.2)) := by
  unfold fX4_comparison_57 gX4_comparison_57
  simp only [cgN_82_0, cgO_83, lX6_advance, cgO_82, hgc, lX4_put, lift_bl, lift_lt, k_bs, k_mb, k_ms, k_bm, k_mm, k_il, k_ir, lift_ite, k_id]
noncomputable def gX4_comparison (gc : Nat → Ch → Int32 → Option (Int32 × Ch)) (h : Hp) (c : Ch) (x1 : Int32) : Option (Int32 × Ch) :=
  (gX6_isAt h c 20).bind fun y1 =>
  if y1 = 0 then (
    (gX6_isAt h c 21).bind fun y2 =>
    if y2 = 0 then (
      (gX6_isAt h c 22).bind fun y3 =>
      if y3 = 0 then (
        (gX4_refuse h c (2 : Int32)).bind fun y7 =>
        bl y7.1 (some ((y7.1, y7.2)))) else (
      gX4_comparison_57 gc h c x1 (-14 : Int32))) else (
      gX4_comparison_57 gc h c x1 (-16 : Int32))) else (
    gX4_comparison_57 gc h c x1 (-15 : Int32))
theorem lX4_comparison (h : Hp) {rc : Nat → Hp → Nat → Int32 → Option (Int32 × Hp)} {gc : Nat → Ch → Int32 → Option (Int32 × Ch)} (hgc : ∀ (sel : Nat) (c : Ch) (x1 : Int32), rc sel (cput h c) 82 x1 = (gc sel c x1).map (fun (y : (Int32 × Ch)) => (y.1, cput h y.2))) (c : Ch) (x1 : Int32) : fX4_comparison rc (cput h c) 82 x1 = (gX4_comparison gc h c x1).map (fun (y : (Int32 × Ch)) => (y.1, cput h y.2)) := by
  unfold fX4_comparison gX4_comparison
  simp only [cgN_82_0, cgO_83, lX6_isAt, lX4_comparison_57 h hgc, cgO_82, lX4_refuse, lift_bl, lift_lt, k_bs, k_mb, k_ms, k_bm, k_mm, k_il, k_ir, lift_ite, k_id]
noncomputable def grX4_sum (h : Hp) : Nat → Nat → Ch → Int32 → Option (Int32 × Ch)
  | 0, _, _, _ => none
  | n + 1, sel, c, x1 => if sel = 0 then gX4_sum (grX4_sum h n) h c x1 else if sel = 1 then gX4_term (grX4_sum h n) h c x1 else if sel = 2 then gX4_atom (grX4_sum h n) h c x1 else if sel = 3 then gX4_choice (grX4_sum h n) h c x1 else if sel = 4 then gX4_truth (grX4_sum h n) h c x1 else if sel = 5 then gX4_both (grX4_sum h n) h c x1 else if sel = 6 then gX4_unit (grX4_sum h n) h c x1 else gX4_comparison (grX4_sum h n) h c x1
theorem lrX4_sum (h : Hp) : ∀ (n sel : Nat) (c : Ch) (x1 : Int32), rX4_sum n sel (cput h c) 82 x1 = (grX4_sum h n sel c x1).map (fun (y : (Int32 × Ch)) => (y.1, cput h y.2))
  | 0, sel, c, x1 => rfl
  | n + 1, sel, c, x1 => by
    have ih := lrX4_sum h n
    simp only [rX4_sum, grX4_sum]
    by_cases c0 : sel = 0
    · rw [if_pos c0, if_pos c0]
      exact lX4_sum h ih c x1
    · rw [if_neg c0, if_neg c0]
      by_cases c1 : sel = 1
      · rw [if_pos c1, if_pos c1]
        exact lX4_term h ih c x1
      · rw [if_neg c1, if_neg c1]
        by_cases c2 : sel = 2
        · rw [if_pos c2, if_pos c2]
          exact lX4_atom h ih c x1
        · rw [if_neg c2, if_neg c2]
          by_cases c3 : sel = 3
          · rw [if_pos c3, if_pos c3]
            exact lX4_choice h ih c x1
          · rw [if_neg c3, if_neg c3]
            by_cases c4 : sel = 4
            · rw [if_pos c4, if_pos c4]
              exact lX4_truth h ih c x1
            · rw [if_neg c4, if_neg c4]
              by_cases c5 : sel = 5
              · rw [if_pos c5, if_pos c5]
                exact lX4_both h ih c x1
              · rw [if_neg c5, if_neg c5]
                by_cases c6 : sel = 6
                · rw [if_pos c6, if_pos c6]
                  exact lX4_unit h ih c x1
                · rw [if_neg c6, if_neg c6]
                  exact lX4_comparison h ih c x1
noncomputable def gX6_open (h : Hp) (c : Ch) (x2 : Int32) : Option Ch :=
  lt (cR c 83 0 (some 81)) fun c1 =>
  lt (cI c1 83 1 (imin x2 (Int32.ofNat 900))) fun c3 =>
  lt (cI c3 83 2 (0 : Int32)) fun c4 =>
  (gX6_advance h c4 ).bind fun y5 =>
  some (y5)
theorem lX6_open (h : Hp) (c : Ch) (x2 : Int32) : fX6_open (cput h c) 83 81 x2 = (gX6_open h c x2).map (cput h) := by
  unfold fX6_open gX6_open
  simp only [csR_83_0, caL_81, csI_83_1, csI_83_2, cgO_83, lX6_advance, lift_lt, k_bs, k_mb, k_ms, k_bm, k_mm, k_il, k_ir, lift_ite, k_id]
noncomputable def gX8_begin (h : Hp) (c : Ch) (x0 : Nat) (x1 : Nat) : Option Ch :=
  (gI (cput h c) 0 x1 4).bind fun v1 =>
  lt (cI c (sadr x0) 0 v1) fun c2 =>
  (gI (cput h c2) 0 x1 5).bind fun v3 =>
  lt (cI c2 (sadr x0) 1 v3) fun c4 =>
  (gI (cput h c4) 0 x1 6).bind fun v5 =>
  lt (cI c4 (sadr x0) 2 v5) fun c6 =>
  lt (cI c6 (sadr x0) 3 (0 : Int32)) fun c7 =>
  some (c7)
theorem lX8_begin (h : Hp) (c : Ch) (x0 : Nat) (x1 : Nat) : fX8_begin (cput h c) (sadr x0) x1 = (gX8_begin h c x0 x1).map (cput h) := by
  unfold fX8_begin gX8_begin
  simp only [csI_s_0, csI_s_1, csI_s_2, csI_s_3, lift_lt, k_bs, k_mb, k_ms, k_bm, k_mm, k_il, k_ir, lift_ite, k_id]
