/-! the class over its own numbers -/
noncomputable def gX5_forget (h : Hp) (c : Ch)  : Option Ch :=
  lt (cI c 93 2 (0 : Int32)) fun c1 =>
  some (c1)
theorem lX5_forget (h : Hp) (c : Ch)  : fX5_forget (cput h c) 93 = (gX5_forget h c ).map (cput h) := by
  unfold fX5_forget gX5_forget
  simp only [csI_93_2, lift_lt, k_bs, k_mb, k_ms, k_bm, k_mm, k_il, k_ir, lift_ite, k_id]
noncomputable def gX11_restore_9 (h : Hp) (c : Ch)  : Option (Int32 × Ch) :=
  some (((-2 : Int32), c))
theorem lX11_restore_9 (h : Hp) (c : Ch)  : fX11_restore_9 (cput h c)  = (gX11_restore_9 h c ).map (fun (y : (Int32 × Ch)) => (y.1, cput h y.2)) := by
  unfold fX11_restore_9 gX11_restore_9
  simp only [lift_lt, k_bs, k_mb, k_ms, k_bm, k_mm, k_il, k_ir, lift_ite, k_id]
noncomputable def gX11_restore (h : Hp) (c : Ch) (x1 : Int32) : Option (Int32 × Ch) :=
  if x1 < 0 then (
  gX11_restore_9 h c ) else (
    if x1 < (2 : Int32) then (
      (cQ c x1).bind fun v1 =>
      match v1 with
      | none => (
        some (((-5 : Int32), c)))
      | some n2 => (
        lt (cR c 80 3 (some n2)) fun c3 =>
        iff_ (inB x1 2) (
        (gX8_copy h c3 0 (13 + x1.toNatClampNeg)).bind fun y5 =>
        (gX5_forget h y5 ).bind fun y6 =>
        some (((0 : Int32), y6))))) else (
    gX11_restore_9 h c ))
theorem lX11_restore (h : Hp) (c : Ch) (x1 : Int32) : fX11_restore (cput h c) 80 x1 = (gX11_restore h c x1).map (fun (y : (Int32 × Ch)) => (y.1, cput h y.2)) := by
  unfold fX11_restore gX11_restore
  simp only [lX11_restore_9, cgN_80_9, c_aR106, csR_80_3, cgN_80_4, cgN_80_10, c_aN107, iff_map, cgO_s, lX8_copy, cgN_80_7, cgO_93, lX5_forget, lift_lt, k_bs, k_mb, k_ms, k_bm, k_mm, k_il, k_ir, lift_ite, k_id]
  repeat' (first | with_reducible rfl | refine k_bcO ?_ (fun _ => ?_) | refine k_bc (fun _ => ?_) | refine k_ic ?_ ?_ | simp only [lX11_restore_9, cgN_80_9, c_aR106, csR_80_3, cgN_80_4, cgN_80_10, c_aN107, iff_map, cgO_s, lX8_copy, cgN_80_7, cgO_93, lX5_forget, lift_lt, k_bs, k_mb, k_ms, k_bm, k_mm, k_il, k_ir, lift_ite, k_id] | split)
noncomputable def gX11_count_128 (h : Hp) (c : Ch) (s0 : Int32) : Option Int32 :=
  some (s0)
theorem lX11_count_128 (h : Hp) (c : Ch) (s0 : Int32) : fX11_count_128 (cput h c) s0 = gX11_count_128 h c s0 := by
  unfold fX11_count_128 gX11_count_128
  simp only [lift_lt, k_bs, k_mb, k_ms, k_bm, k_mm, k_il, k_ir, lift_ite, k_id]
noncomputable def gX11_count (h : Hp) (c : Ch) (x1 : Int32) : Option Int32 :=
  if x1 = 0 then (
    (c.2.2.1 80 3).bind fun v1 =>
    (gI (cput h c) 0 v1 0).bind fun v2 =>
    some (v2)) else (
if x1 = 1 then (
    (c.2.2.1 80 3).bind fun v3 =>
    (gI (cput h c) 0 v3 1).bind fun v4 =>
    some (v4)) else (
if x1 = 2 then (
    (c.2.2.1 80 3).bind fun v5 =>
    gO (cput h c) 0 v5 (
    (fX0_metBits (cput h c) v5 (c.1 (sadr 0) 0)).bind fun y6 =>
    some (y6))) else (
if x1 = 3 then (
    (c.2.2.1 80 3).bind fun v7 =>
    gO (cput h c) 0 v7 (
    (fX0_gapSum (cput h c) v7 (c.1 (sadr 0) 0)).bind fun y8 =>
    some (y8))) else (
if x1 = 4 then (
    some ((c.1 (sadr 0) 2))) else (
if x1 = 5 then (
    if (c.1 (sadr 0) 0) < (10000 : Int32) then (
      gX11_count_128 h c (0 : Int32)) else (
      gX11_count_128 h c (1 : Int32))) else (
if x1 = 6 then (
    some ((c.1 (sadr 0) 3))) else (
if x1 = 7 then (
    some ((c.1 93 2))) else (
if x1 = 8 then (
    some ((c.1 80 1))) else (
if x1 = 9 then (
    (c.2.2.1 80 3).bind fun v9 =>
    (gI (cput h c) 0 v9 3).bind fun v10 =>
    some (v10)) else (
    some ((-1 : Int32))))))))))))
theorem lX11_count (h : Hp) (c : Ch) (x1 : Int32) : fX11_count (cput h c) 80 x1 = gX11_count h c x1 := by
  unfold fX11_count gX11_count
  simp only [cgN_80_3, cgN_80_4, cgI_s_0, lift_gOm, cgI_s_2, lX11_count_128, cgI_s_3, cgN_80_7, cgI_93_2, cgI_80_1, lift_lt, k_bs, k_mb, k_ms, k_bm, k_mm, k_il, k_ir, lift_ite, k_id]
noncomputable def gX4_forget (h : Hp) (c : Ch)  : Option Ch :=
  lt (cI c 82 5 (0 : Int32)) fun c1 =>
  lt (cI c1 82 6 (-1 : Int32)) fun c2 =>
  lt (cI c2 82 7 (0 : Int32)) fun c3 =>
  lt (cI c3 82 8 (0 : Int32)) fun c4 =>
  lt (cI c4 82 9 (0 : Int32)) fun c5 =>
  lt (cI c5 82 10 (0 : Int32)) fun c6 =>
  lt (cI c6 82 11 (0 : Int32)) fun c7 =>
  lt (cI c7 82 12 (0 : Int32)) fun c8 =>
  lt (cI c8 82 13 (-1 : Int32)) fun c9 =>
  lt (cR c9 82 14 none) fun c10 =>
  lt (cR c10 82 15 none) fun c11 =>
  some (c11)
theorem lX4_forget (h : Hp) (c : Ch)  : fX4_forget (cput h c) 82 = (gX4_forget h c ).map (cput h) := by
  unfold fX4_forget gX4_forget
  simp only [csI_82_5, csI_82_6, csI_82_7, csI_82_8, csI_82_9, csI_82_10, csI_82_11, csI_82_12, csI_82_13, csN_82_14, csN_82_15, lift_lt, k_bs, k_mb, k_ms, k_bm, k_mm, k_il, k_ir, lift_ite, k_id]
noncomputable def gX4_refuse_17 (h : Hp) (c : Ch) (s1 : Int32) : Option (Int32 × Ch) :=
  lt (cI c 82 5 s1) fun c1 =>
  lt (cI c1 82 6 (c1.1 83 4)) fun c2 =>
  some (((0 : Int32), c2))
theorem lX4_refuse_17 (h : Hp) (c : Ch) (s1 : Int32) : fX4_refuse_17 (cput h c) 82 82 s1 = (gX4_refuse_17 h c s1).map (fun (y : (Int32 × Ch)) => (y.1, cput h y.2)) := by
  unfold fX4_refuse_17 gX4_refuse_17
  simp only [csI_82_5, cgN_82_0, cgI_83_4, csI_82_6, lift_lt, k_bs, k_mb, k_ms, k_bm, k_mm, k_il, k_ir, lift_ite, k_id]
noncomputable def gX4_refuse (h : Hp) (c : Ch) (x1 : Int32) : Option (Int32 × Ch) :=
  if (c.1 83 3) = (4 : Int32) then (
    gX4_refuse_17 h c (1 : Int32)) else (
    gX4_refuse_17 h c x1)
theorem lX4_refuse (h : Hp) (c : Ch) (x1 : Int32) : fX4_refuse (cput h c) 82 x1 = (gX4_refuse h c x1).map (fun (y : (Int32 × Ch)) => (y.1, cput h y.2)) := by
  unfold fX4_refuse gX4_refuse
  simp only [cgN_82_0, cgI_83_3, lX4_refuse_17, lift_lt, k_bs, k_mb, k_ms, k_bm, k_mm, k_il, k_ir, lift_ite, k_id]
noncomputable def gX6_isAt_84 (h : Hp) (c : Ch)  : Option Int32 :=
  some ((1 : Int32))
theorem lX6_isAt_84 (h : Hp) (c : Ch)  : fX6_isAt_84 (cput h c)  = gX6_isAt_84 h c  := by
  unfold fX6_isAt_84 gX6_isAt_84
  simp only [lift_lt, k_bs, k_mb, k_ms, k_bm, k_mm, k_il, k_ir, lift_ite, k_id]
noncomputable def gX6_isAt_36b (h : Hp) (c : Ch) (x1 : Nat) (x2 : Int32) : Option (Int32 ⊕ Int32) :=
  gT x1 (
  (cJ_len x1).bind fun y2 =>
  if y2 ≤ x2 then (
  (gX6_isAt_84 h c ).map (fun q => .inr q)) else (
    if (c.1 83 1) ≤ ((c.1 83 4) + x2) then (
    (gX6_isAt_84 h c ).map (fun q => .inr q)) else (
      (c.2.2.1 83 0).bind fun v3 =>
      (aI 1 (cput h c) v3 ((c.1 83 4) + x2)).bind fun v4 =>
      gT x1 (
      (cJ_chr x1 x2).bind fun y5 =>
      if v4 = y5 then (
        some (.inl (x2 + Int32.ofInt 1))) else (
        some (.inr (0 : Int32)))))))
noncomputable def gX6_isAt_36 (h : Hp) (c : Ch) (x1 : Nat) (x2 : Int32) : Option Int32 := lpw (σ := Int32) (fun s => gX6_isAt_36b h c x1 s) x2
theorem lX6_isAt_36b (h : Hp) (c : Ch) (x1 : Nat) (x2 : Int32) : fX6_isAt_36b (cput h c) 83 x1 x2 = gX6_isAt_36b h c x1 x2 := by
  unfold fX6_isAt_36b gX6_isAt_36b
  simp only [lift_gT, zJ0_length_8abf5, lX6_isAt_84, cgI_83_4, cgI_83_1, cgN_83_0, zJ0_charAt_5068e, lift_lt, k_bs, k_mb, k_ms, k_bm, k_mm, k_il, k_ir, lift_ite, k_id]
theorem lX6_isAt_36 (h : Hp) (c : Ch) (x1 : Nat) (x2 : Int32) : fX6_isAt_36 (cput h c) 83 x1 x2 = gX6_isAt_36 h c x1 x2 := by
  unfold fX6_isAt_36 gX6_isAt_36
  refine congrArg (fun b => lpw b _) (funext (fun s => ?_))
  exact lX6_isAt_36b h c x1 s
noncomputable def gX6_isAt_32 (h : Hp) (c : Ch)  : Option Int32 :=
  some ((0 : Int32))
theorem lX6_isAt_32 (h : Hp) (c : Ch)  : fX6_isAt_32 (cput h c)  = gX6_isAt_32 h c  := by
  unfold fX6_isAt_32 gX6_isAt_32
  simp only [lift_lt, k_bs, k_mb, k_ms, k_bm, k_mm, k_il, k_ir, lift_ite, k_id]
noncomputable def gX6_isAt_16 (h : Hp) (c : Ch) (x1 : Nat) : Option Int32 :=
  gT x1 (
  (cJ_len x1).bind fun y1 =>
  if y1 = ((c.1 83 2) - (c.1 83 4)) then (
    gX6_isAt_36 h c x1 (0 : Int32)) else (
  gX6_isAt_32 h c ))
theorem lX6_isAt_16 (h : Hp) (c : Ch) (x1 : Nat) : fX6_isAt_16 (cput h c) 83 x1 = gX6_isAt_16 h c x1 := by
  unfold fX6_isAt_16 gX6_isAt_16
  simp only [lift_gT, zJ0_length_8abf5, cgI_83_2, cgI_83_4, lX6_isAt_36, lX6_isAt_32, lift_lt, k_bs, k_mb, k_ms, k_bm, k_mm, k_il, k_ir, lift_ite, k_id]
noncomputable def gX6_isAt (h : Hp) (c : Ch) (x1 : Nat) : Option Int32 :=
  if (c.1 83 3) = (1 : Int32) then (
  gX6_isAt_16 h c x1) else (
    if (c.1 83 3) = (3 : Int32) then (
    gX6_isAt_16 h c x1) else (
    gX6_isAt_32 h c ))
theorem lX6_isAt (h : Hp) (c : Ch) (x1 : Nat) : fX6_isAt (cput h c) 83 x1 = gX6_isAt h c x1 := by
  unfold fX6_isAt gX6_isAt
  simp only [cgI_83_3, lX6_isAt_16, lX6_isAt_32, lift_lt, k_bs, k_mb, k_ms, k_bm, k_mm, k_il, k_ir, lift_ite, k_id]
noncomputable def gX6_readWord_57 (h : Hp) (c : Ch)  : Option Ch :=
  some (c)
theorem lX6_readWord_57 (h : Hp) (c : Ch)  : fX6_readWord_57 (cput h c)  = (gX6_readWord_57 h c ).map (cput h) := by
  unfold fX6_readWord_57 gX6_readWord_57
  simp only [lift_lt, k_bs, k_mb, k_ms, k_bm, k_mm, k_il, k_ir, lift_ite, k_id]
noncomputable def gX6_readWord_5b (h : Hp) (c : Ch)  : Option (Ch ⊕ Ch) :=
  if (c.1 83 1) ≤ (c.1 83 2) then (
  (gX6_readWord_57 h c ).map (fun q => .inr q)) else (
    (c.2.2.1 83 0).bind fun v2 =>
    (aI 1 (cput h c) v2 (c.1 83 2)).bind fun v3 =>
    if v3 < (97 : Int32) then (
    (gX6_readWord_57 h c ).map (fun q => .inr q)) else (
      (c.2.2.1 83 0).bind fun v4 =>
      (aI 1 (cput h c) v4 (c.1 83 2)).bind fun v5 =>
      if (122 : Int32) < v5 then (
      (gX6_readWord_57 h c ).map (fun q => .inr q)) else (
        lt (cI c 83 2 ((c.1 83 2) + (1 : Int32))) fun c6 =>
        some (.inl c6))))
noncomputable def gX6_readWord_5 (h : Hp) (c : Ch)  : Option Ch := lpw (σ := Ch) (fun s => gX6_readWord_5b h s  ) c
theorem lX6_readWord_5b (h : Hp) (c : Ch)  : fX6_readWord_5b (cput h c) 83 = (gX6_readWord_5b h c ).map (Sum.map (cput h) (cput h)) := by
  unfold fX6_readWord_5b gX6_readWord_5b
  simp only [cgI_83_2, cgI_83_1, lX6_readWord_57, cgN_83_0, csI_83_2, lift_lt, k_bs, k_mb, k_ms, k_bm, k_mm, k_il, k_ir, lift_ite, k_id]
theorem lX6_readWord_5 (h : Hp) (c : Ch)  : fX6_readWord_5 (cput h c) 83 = (gX6_readWord_5 h c ).map (cput h) := by
  unfold fX6_readWord_5 gX6_readWord_5
  exact lpw_map _ _ (cput h) (cput h) (fun s => lX6_readWord_5b h s ) c
noncomputable def gX6_readWord (h : Hp) (c : Ch)  : Option Ch :=
  lt (cI c 83 3 (1 : Int32)) fun c1 =>
  gX6_readWord_5 h c1 
theorem lX6_readWord (h : Hp) (c : Ch)  : fX6_readWord (cput h c) 83 = (gX6_readWord h c ).map (cput h) := by
  unfold fX6_readWord gX6_readWord
  simp only [csI_83_3, lX6_readWord_5, lift_lt, k_bs, k_mb, k_ms, k_bm, k_mm, k_il, k_ir, lift_ite, k_id]
noncomputable def gX6_readNumber_120 (h : Hp) (c : Ch) (s1 : Int32) : Option Ch :=
  lt (cI c 83 3 s1) fun c2 =>
  some (c2)
theorem lX6_readNumber_120 (h : Hp) (c : Ch) (s1 : Int32) : fX6_readNumber_120 (cput h c) 83 s1 = (gX6_readNumber_120 h c s1).map (cput h) := by
  unfold fX6_readNumber_120 gX6_readNumber_120
  simp only [csI_83_3, lift_lt, k_bs, k_mb, k_ms, k_bm, k_mm, k_il, k_ir, lift_ite, k_id]
noncomputable def gX6_readNumber_101 (h : Hp) (c : Ch)  : Option Ch :=
  if ((c.1 83 2) - (c.1 83 4)) ≤ (3 : Int32) then (
    gX6_readNumber_120 h c (2 : Int32)) else (
    gX6_readNumber_120 h c (4 : Int32))
theorem lX6_readNumber_101 (h : Hp) (c : Ch)  : fX6_readNumber_101 (cput h c) 83 = (gX6_readNumber_101 h c ).map (cput h) := by
  unfold fX6_readNumber_101 gX6_readNumber_101
  simp only [cgI_83_2, cgI_83_4, lX6_readNumber_120, lift_lt, k_bs, k_mb, k_ms, k_bm, k_mm, k_il, k_ir, lift_ite, k_id]
noncomputable def gX6_readNumber_85 (h : Hp) (c : Ch) (s1 : Int32) : Option (Ch ⊕ Ch) :=
  lt (cI c 83 5 s1) fun c7 =>
  lt (cI c7 83 2 ((c7.1 83 2) + (1 : Int32))) fun c8 =>
  some (.inl c8)
theorem lX6_readNumber_85 (h : Hp) (c : Ch) (s1 : Int32) : fX6_readNumber_85 (cput h c) 83 83 s1 = (gX6_readNumber_85 h c s1).map (Sum.map (cput h) (cput h)) := by
  unfold fX6_readNumber_85 gX6_readNumber_85
  simp only [csI_83_5, cgI_83_2, csI_83_2, lift_lt, k_bs, k_mb, k_ms, k_bm, k_mm, k_il, k_ir, lift_ite, k_id]
noncomputable def gX6_readNumber_5b (h : Hp) (c : Ch)  : Option (Ch ⊕ Ch) :=
  if (c.1 83 1) ≤ (c.1 83 2) then (
  (gX6_readNumber_101 h c ).map (fun q => .inr q)) else (
    (c.2.2.1 83 0).bind fun v3 =>
    (aI 1 (cput h c) v3 (c.1 83 2)).bind fun v4 =>
    if v4 < (48 : Int32) then (
    (gX6_readNumber_101 h c ).map (fun q => .inr q)) else (
      (c.2.2.1 83 0).bind fun v5 =>
      (aI 1 (cput h c) v5 (c.1 83 2)).bind fun v6 =>
      if (57 : Int32) < v6 then (
      (gX6_readNumber_101 h c ).map (fun q => .inr q)) else (
        if (3 : Int32) ≤ ((c.1 83 2) - (c.1 83 4)) then (
          gX6_readNumber_85 h c (c.1 83 5)) else (
          (c.2.2.1 83 0).bind fun v9 =>
          (aI 1 (cput h c) v9 (c.1 83 2)).bind fun v10 =>
          gX6_readNumber_85 h c ((((c.1 83 5) * (10 : Int32)) + v10) - (48 : Int32))))))
noncomputable def gX6_readNumber_5 (h : Hp) (c : Ch)  : Option Ch := lpw (σ := Ch) (fun s => gX6_readNumber_5b h s  ) c
theorem lX6_readNumber_5b (h : Hp) (c : Ch)  : fX6_readNumber_5b (cput h c) 83 = (gX6_readNumber_5b h c ).map (Sum.map (cput h) (cput h)) := by
  unfold fX6_readNumber_5b gX6_readNumber_5b
  simp only [cgI_83_2, cgI_83_1, lX6_readNumber_101, cgN_83_0, cgI_83_4, cgI_83_5, lX6_readNumber_85, lift_lt, k_bs, k_mb, k_ms, k_bm, k_mm, k_il, k_ir, lift_ite, k_id]
theorem lX6_readNumber_5 (h : Hp) (c : Ch)  : fX6_readNumber_5 (cput h c) 83 = (gX6_readNumber_5 h c ).map (cput h) := by
  unfold fX6_readNumber_5 gX6_readNumber_5
  exact lpw_map _ _ (cput h) (cput h) (fun s => lX6_readNumber_5b h s ) c
noncomputable def gX6_readNumber (h : Hp) (c : Ch)  : Option Ch :=
  lt (cI c 83 5 (0 : Int32)) fun c1 =>
  gX6_readNumber_5 h c1 
theorem lX6_readNumber (h : Hp) (c : Ch)  : fX6_readNumber (cput h c) 83 = (gX6_readNumber h c ).map (cput h) := by
  unfold fX6_readNumber gX6_readNumber
  simp only [csI_83_5, lX6_readNumber_5, lift_lt, k_bs, k_mb, k_ms, k_bm, k_mm, k_il, k_ir, lift_ite, k_id]
noncomputable def gX6_advance_198 (h : Hp) (c : Ch)  : Option Ch :=
  some (c)
theorem lX6_advance_198 (h : Hp) (c : Ch)  : fX6_advance_198 (cput h c)  = (gX6_advance_198 h c ).map (cput h) := by
  unfold fX6_advance_198 gX6_advance_198
  simp only [lift_lt, k_bs, k_mb, k_ms, k_bm, k_mm, k_il, k_ir, lift_ite, k_id]
noncomputable def gX6_advance_185 (h : Hp) (c : Ch) (s1 : Int32) : Option Ch :=
  lt (cI c 83 3 s1) fun c8 =>
  lt (cI c8 83 2 ((c8.1 83 2) + (1 : Int32))) fun c9 =>
  gX6_advance_198 h c9 
theorem lX6_advance_185 (h : Hp) (c : Ch) (s1 : Int32) : fX6_advance_185 (cput h c) 83 83 s1 = (gX6_advance_185 h c s1).map (cput h) := by
  unfold fX6_advance_185 gX6_advance_185
  simp only [csI_83_3, cgI_83_2, csI_83_2, lX6_advance_198, lift_lt, k_bs, k_mb, k_ms, k_bm, k_mm, k_il, k_ir, lift_ite, k_id]
noncomputable def gX6_advance_184 (h : Hp) (c : Ch)  : Option Ch :=
  gX6_advance_185 h c (4 : Int32)
theorem lX6_advance_184 (h : Hp) (c : Ch)  : fX6_advance_184 (cput h c) 83 83 = (gX6_advance_184 h c ).map (cput h) := by
  unfold fX6_advance_184 gX6_advance_184
  simp only [lX6_advance_185, lift_lt, k_bs, k_mb, k_ms, k_bm, k_mm, k_il, k_ir, lift_ite, k_id]
noncomputable def gX6_advance_149 (h : Hp) (c : Ch)  : Option Ch :=
  (c.2.2.1 83 0).bind fun v6 =>
  (aI 1 (cput h c) v6 (c.1 83 2)).bind fun v7 =>
  if v7 ≤ 0 then (
  gX6_advance_184 h c ) else (
    (c.2.2.1 83 0).bind fun v10 =>
    (aI 1 (cput h c) v10 (c.1 83 2)).bind fun v11 =>
    gT 3 (
    (cJ_ixo 3 ((v11.toUInt32 % 65536).toInt32)).bind fun y12 =>
    if y12 < 0 then (
    gX6_advance_184 h c ) else (
      gX6_advance_185 h c (3 : Int32))))
theorem lX6_advance_149 (h : Hp) (c : Ch)  : fX6_advance_149 (cput h c) 83 = (gX6_advance_149 h c ).map (cput h) := by
  unfold fX6_advance_149 gX6_advance_149
  simp only [cgN_83_0, cgI_83_2, lX6_advance_184, lift_gT, zJ0_indexOf_0f7a4, lX6_advance_185, lift_lt, k_bs, k_mb, k_ms, k_bm, k_mm, k_il, k_ir, lift_ite, k_id]
noncomputable def gX6_advance_114 (h : Hp) (c : Ch)  : Option Ch :=
  (c.2.2.1 83 0).bind fun v4 =>
  (aI 1 (cput h c) v4 (c.1 83 2)).bind fun v5 =>
  if v5 < (48 : Int32) then (
  gX6_advance_149 h c ) else (
    (c.2.2.1 83 0).bind fun v13 =>
    (aI 1 (cput h c) v13 (c.1 83 2)).bind fun v14 =>
    if (57 : Int32) < v14 then (
    gX6_advance_149 h c ) else (
      (gX6_readNumber h c ).bind fun y15 =>
      gX6_advance_198 h y15 ))
theorem lX6_advance_114 (h : Hp) (c : Ch)  : fX6_advance_114 (cput h c) 83 = (gX6_advance_114 h c ).map (cput h) := by
  unfold fX6_advance_114 gX6_advance_114
  simp only [cgN_83_0, cgI_83_2, lX6_advance_149, cgO_83, lX6_readNumber, lX6_advance_198, lift_lt, k_bs, k_mb, k_ms, k_bm, k_mm, k_il, k_ir, lift_ite, k_id]
noncomputable def gX6_advance_52 (h : Hp) (c : Ch)  : Option Ch :=
  lt (cI c 83 4 (c.1 83 2)) fun c1 =>
  if (c1.1 83 2) < (c1.1 83 1) then (
    (c1.2.2.1 83 0).bind fun v2 =>
    (aI 1 (cput h c1) v2 (c1.1 83 2)).bind fun v3 =>
    if v3 < (97 : Int32) then (
    gX6_advance_114 h c1 ) else (
      (c1.2.2.1 83 0).bind fun v16 =>
      (aI 1 (cput h c1) v16 (c1.1 83 2)).bind fun v17 =>
      if (122 : Int32) < v17 then (
      gX6_advance_114 h c1 ) else (
        (gX6_readWord h c1 ).bind fun y18 =>
        gX6_advance_198 h y18 ))) else (
    lt (cI c1 83 3 (0 : Int32)) fun c19 =>
    gX6_advance_198 h c19 )
theorem lX6_advance_52 (h : Hp) (c : Ch)  : fX6_advance_52 (cput h c) 83 = (gX6_advance_52 h c ).map (cput h) := by
  unfold fX6_advance_52 gX6_advance_52
  simp only [cgI_83_2, csI_83_4, cgI_83_1, cgN_83_0, lX6_advance_114, cgO_83, lX6_readWord, lX6_advance_198, csI_83_3, lift_lt, k_bs, k_mb, k_ms, k_bm, k_mm, k_il, k_ir, lift_ite, k_id]
noncomputable def gX6_advance_39 (h : Hp) (c : Ch)  : Option (Ch ⊕ Ch) :=
  lt (cI c 83 2 ((c.1 83 2) + (1 : Int32))) fun c22 =>
  some (.inl c22)
theorem lX6_advance_39 (h : Hp) (c : Ch)  : fX6_advance_39 (cput h c) 83 = (gX6_advance_39 h c ).map (Sum.map (cput h) (cput h)) := by
  unfold fX6_advance_39 gX6_advance_39
  simp only [cgI_83_2, csI_83_2, lift_lt, k_bs, k_mb, k_ms, k_bm, k_mm, k_il, k_ir, lift_ite, k_id]
noncomputable def gX6_advanceb (h : Hp) (c : Ch)  : Option (Ch ⊕ Ch) :=
  if (c.1 83 1) ≤ (c.1 83 2) then (
  (gX6_advance_52 h c ).map (fun q => .inr q)) else (
    (c.2.2.1 83 0).bind fun v20 =>
    (aI 1 (cput h c) v20 (c.1 83 2)).bind fun v21 =>
    if v21 = (32 : Int32) then (
    gX6_advance_39 h c ) else (
      (c.2.2.1 83 0).bind fun v23 =>
      (aI 1 (cput h c) v23 (c.1 83 2)).bind fun v24 =>
      if v24 = (10 : Int32) then (
      gX6_advance_39 h c ) else (
      (gX6_advance_52 h c ).map (fun q => .inr q))))
noncomputable def gX6_advance (h : Hp) (c : Ch)  : Option Ch := lpw (σ := Ch) (fun s => gX6_advanceb h s  ) c
theorem lX6_advance_0b (h : Hp) (c : Ch)  : fX6_advanceb (cput h c) 83 = (gX6_advanceb h c ).map (Sum.map (cput h) (cput h)) := by
  unfold fX6_advanceb gX6_advanceb
  simp only [cgI_83_2, cgI_83_1, lX6_advance_52, cgN_83_0, lX6_advance_39, lift_lt, k_bs, k_mb, k_ms, k_bm, k_mm, k_il, k_ir, lift_ite, k_id]
theorem lX6_advance (h : Hp) (c : Ch)  : fX6_advance (cput h c) 83 = (gX6_advance h c ).map (cput h) := by
  unfold fX6_advance gX6_advance
  exact lpw_map _ _ (cput h) (cput h) (fun s => lX6_advance_0b h s ) c
noncomputable def gX4_take (h : Hp) (c : Ch) (x1 : Nat) : Option (Int32 × Ch) :=
  (gX6_isAt h c x1).bind fun y1 =>
  if y1 = 0 then (
    (gX4_refuse h c (2 : Int32)).bind fun y3 =>
    bl y3.1 (some ((y3.1, y3.2)))) else (
    (gX6_advance h c ).bind fun y2 =>
    some (((1 : Int32), y2)))
theorem lX4_take (h : Hp) (c : Ch) (x1 : Nat) : fX4_take (cput h c) 82 x1 = (gX4_take h c x1).map (fun (y : (Int32 × Ch)) => (y.1, cput h y.2)) := by
  unfold fX4_take gX4_take
  simp only [cgN_82_0, cgO_83, lX6_isAt, lX6_advance, cgO_82, lX4_refuse, lift_bl, lift_lt, k_bs, k_mb, k_ms, k_bm, k_mm, k_il, k_ir, lift_ite, k_id]
noncomputable def gX4_takeNumber (h : Hp) (c : Ch) (x1 : Int32) : Option (Int32 × Ch) :=
  if (c.1 83 3) = (2 : Int32) then (
    if (c.1 83 5) ≤ x1 then (
      lt (cI c 82 4 (c.1 83 5)) fun c1 =>
      (gX6_advance h c1 ).bind fun y2 =>
      some (((1 : Int32), y2))) else (
      (gX4_refuse h c (3 : Int32)).bind fun y3 =>
      bl y3.1 (some ((y3.1, y3.2))))) else (
    (gX4_refuse h c (2 : Int32)).bind fun y4 =>
    bl y4.1 (some ((y4.1, y4.2))))
theorem lX4_takeNumber (h : Hp) (c : Ch) (x1 : Int32) : fX4_takeNumber (cput h c) 82 x1 = (gX4_takeNumber h c x1).map (fun (y : (Int32 × Ch)) => (y.1, cput h y.2)) := by
  unfold fX4_takeNumber gX4_takeNumber
  simp only [cgN_82_0, cgI_83_3, cgI_83_5, csI_82_4, cgO_83, lX6_advance, cgO_82, lX4_refuse, lift_bl, lift_lt, k_bs, k_mb, k_ms, k_bm, k_mm, k_il, k_ir, lift_ite, k_id]
noncomputable def gX4_tellCave_26 (h : Hp) (c : Ch)  : Option (Int32 × Ch) :=
  some (((0 : Int32), c))
theorem lX4_tellCave_26 (h : Hp) (c : Ch)  : fX4_tellCave_26 (cput h c)  = (gX4_tellCave_26 h c ).map (fun (y : (Int32 × Ch)) => (y.1, cput h y.2)) := by
  unfold fX4_tellCave_26 gX4_tellCave_26
  simp only [lift_lt, k_bs, k_mb, k_ms, k_bm, k_mm, k_il, k_ir, lift_ite, k_id]
noncomputable def gX4_tellCave (h : Hp) (c : Ch)  : Option (Int32 × Ch) :=
  (gX4_take h c 4).bind fun y1 =>
  if y1.1 = 0 then (
  gX4_tellCave_26 h y1.2 ) else (
    (gX4_take h y1.2 5).bind fun y2 =>
    if y2.1 = 0 then (
    gX4_tellCave_26 h y2.2 ) else (
      (gX4_takeNumber h y2.2 (4 : Int32)).bind fun y3 =>
      if y3.1 = 0 then (
      gX4_tellCave_26 h y3.2 ) else (
        lt (cI y3.2 82 9 (y3.2.1 82 4)) fun c4 =>
        lt (cI c4 82 7 (1 : Int32)) fun c5 =>
        (gX4_take h c5 6).bind fun y6 =>
        bl y6.1 (some ((y6.1, y6.2))))))
theorem lX4_tellCave (h : Hp) (c : Ch)  : fX4_tellCave (cput h c) 82 = (gX4_tellCave h c ).map (fun (y : (Int32 × Ch)) => (y.1, cput h y.2)) := by
  unfold fX4_tellCave gX4_tellCave
  simp only [cgO_82, lX4_take, lX4_tellCave_26, lX4_takeNumber, cgI_82_4, csI_82_9, csI_82_7, lift_bl, lift_lt, k_bs, k_mb, k_ms, k_bm, k_mm, k_il, k_ir, lift_ite, k_id]
noncomputable def gX4_tellPair_53 (h : Hp) (c : Ch)  : Option (Int32 × Ch) :=
  some (((0 : Int32), c))
theorem lX4_tellPair_53 (h : Hp) (c : Ch)  : fX4_tellPair_53 (cput h c)  = (gX4_tellPair_53 h c ).map (fun (y : (Int32 × Ch)) => (y.1, cput h y.2)) := by
  unfold fX4_tellPair_53 gX4_tellPair_53
  simp only [lift_lt, k_bs, k_mb, k_ms, k_bm, k_mm, k_il, k_ir, lift_ite, k_id]
noncomputable def gX4_tellPair_129 (h : Hp) (c : Ch) (x1 : Int32) : Option (Int32 × Ch) :=
  (tT 1 (c.1 82 8)).bind fun v6 =>
  lt (cI c 82 12 ((c.1 82 12) + (x1 * v6))) fun c7 =>
  lt (cI c7 82 8 ((c7.1 82 8) + (1 : Int32))) fun c8 =>
  some (((1 : Int32), c8))
theorem lX4_tellPair_129 (h : Hp) (c : Ch) (x1 : Int32) : fX4_tellPair_129 (cput h c) 82 x1 = (gX4_tellPair_129 h c x1).map (fun (y : (Int32 × Ch)) => (y.1, cput h y.2)) := by
  unfold fX4_tellPair_129 gX4_tellPair_129
  simp only [cgI_82_12, cgI_82_8, csI_82_12, csI_82_8, lift_lt, k_bs, k_mb, k_ms, k_bm, k_mm, k_il, k_ir, lift_ite, k_id]
noncomputable def gX4_tellPair_81b (h : Hp) (c : Ch) (x1 : Int32) (x2 : Int32) : Option ((Int32 × Int32 × Ch) ⊕ (Int32 × Ch)) :=
  if (900 : Int32) ≤ x2 then (
  (gX4_tellPair_129 h c x1).map (fun q => .inr q)) else (
    (gX6_isAt h c 9).bind fun y9 =>
    if y9 = 0 then (
    (gX4_tellPair_129 h c x1).map (fun q => .inr q)) else (
      (gX6_advance h c ).bind fun y10 =>
      (gX4_takeNumber h y10 (9 : Int32)).bind fun y11 =>
      if y11.1 = 0 then (
        some (.inr ((0 : Int32), y11.2))) else (
        some (.inl ((y11.2.1 82 4), (x2 + Int32.ofInt 1), y11.2)))))
noncomputable def gX4_tellPair_81 (h : Hp) (c : Ch) (x1 : Int32) (x2 : Int32) : Option (Int32 × Ch) := lpw (σ := (Int32 × Int32 × Ch)) (fun s => gX4_tellPair_81b h s.2.2  s.1 s.2.1) (x1, x2, c)
theorem lX4_tellPair_81b (h : Hp) (c : Ch) (x1 : Int32) (x2 : Int32) : fX4_tellPair_81b (cput h c) 82 x1 x2 = (gX4_tellPair_81b h c x1 x2).map (Sum.map (fun (s : (Int32 × Int32 × Ch)) => (s.1, s.2.1, cput h s.2.2)) (fun (y : (Int32 × Ch)) => (y.1, cput h y.2))) := by
  unfold fX4_tellPair_81b gX4_tellPair_81b
  simp only [lX4_tellPair_129, cgN_82_0, cgO_83, lX6_isAt, lX6_advance, cgO_82, lX4_takeNumber, cgI_82_4, lift_lt, k_bs, k_mb, k_ms, k_bm, k_mm, k_il, k_ir, lift_ite, k_id]
theorem lX4_tellPair_81 (h : Hp) (c : Ch) (x1 : Int32) (x2 : Int32) : fX4_tellPair_81 (cput h c) 82 x1 x2 = (gX4_tellPair_81 h c x1 x2).map (fun (y : (Int32 × Ch)) => (y.1, cput h y.2)) := by
  unfold fX4_tellPair_81 gX4_tellPair_81
  exact lpw_map _ _ (fun (s : (Int32 × Int32 × Ch)) => (s.1, s.2.1, cput h s.2.2)) (fun (y : (Int32 × Ch)) => (y.1, cput h y.2)) (fun s => lX4_tellPair_81b h s.2.2 s.1 s.2.1) (x1, x2, c)
noncomputable def gX4_tellPair (h : Hp) (c : Ch)  : Option (Int32 × Ch) :=
  if (c.1 82 13) = (-1 : Int32) then (
    if (c.1 82 8) < (4 : Int32) then (
      (gX6_advance h c ).bind fun y1 =>
      (gX4_take h y1 8).bind fun y2 =>
      if y2.1 = 0 then (
      gX4_tellPair_53 h y2.2 ) else (
        (gX4_takeNumber h y2.2 (9 : Int32)).bind fun y3 =>
        if y3.1 = 0 then (
        gX4_tellPair_53 h y3.2 ) else (
          (tT 1 (y3.2.1 82 8)).bind fun v4 =>
          lt (cI y3.2 82 11 ((y3.2.1 82 11) + ((y3.2.1 82 4) * v4))) fun c5 =>
          gX4_tellPair_81 h c5 (1 : Int32) (0 : Int32)))) else (
      (gX4_refuse h c (4 : Int32)).bind fun y12 =>
      bl y12.1 (some ((y12.1, y12.2))))) else (
    (gX4_refuse h c (2 : Int32)).bind fun y13 =>
    bl y13.1 (some ((y13.1, y13.2))))
theorem lX4_tellPair (h : Hp) (c : Ch)  : fX4_tellPair (cput h c) 82 = (gX4_tellPair h c ).map (fun (y : (Int32 × Ch)) => (y.1, cput h y.2)) := by
  unfold fX4_tellPair gX4_tellPair
  simp only [cgI_82_13, cgI_82_8, cgN_82_0, cgO_83, lX6_advance, cgO_82, lX4_take, lX4_tellPair_53, lX4_takeNumber, cgI_82_11, cgI_82_4, csI_82_11, lX4_tellPair_81, lX4_refuse, lift_bl, lift_lt, k_bs, k_mb, k_ms, k_bm, k_mm, k_il, k_ir, lift_ite, k_id]
