/-! the class counts rows -/
section ROWD
variable {c0 c : Ch} {h : Hp} {V : Nat → Cv} {a ch s0 st : Nat} {w E u C : Nat → Nat} {R o H S : Nat}
theorem c_rowsOf {n : Nat} (h1 : c.2.2.1 116 1 = some a) (hC : CaveAt h a (V a)) (hW : wV (V a)) (hn : n < 2 ^ 31) : gX7_rowsOf h c (nI n) = some (lN (nL (V a) ^ n)) := by
  obtain ⟨hL0, hL⟩ := nL_b hW
  obtain ⟨la, l1, l2, -⟩ := cv_la hW hC
  show gX7_rowsOf_5 h c (nI n) (lN 1) (nI 0) = _
  unfold gX7_rowsOf_5
  refine lpw_iter (body := fun z : Int64 × Int32 => gX7_rowsOf_5b h c (nI n) z.1 z.2) (fun k => (lN (nL (V a) ^ k), nI k)) n _ ?_ ?_
  · intro k hk
    have k1 : ¬ n ≤ k := by omega
    show gX7_rowsOf_5b h c (nI n) (lN (nL (V a) ^ k)) (nI k) = some (.inl (lN (nL (V a) ^ (k + 1)), nI (k + 1)))
    rw [Nat.pow_succ]
    unfold gX7_rowsOf_5b
    simp (disch := omega) only [n_lit, n_of, n_o1, nI_add, pk_mul, nI_ltI, nI_leI, nI_eq, ↓lift_lt, ↓k_mt, ↓k_mp, if_true, if_false, Bool.false_eq_true, Nat.not_lt_zero, Nat.zero_le, Nat.reduceEqDiff, Nat.reduceLeDiff, Nat.reduceLT, k1, h1, l1, l2, nI_l, lN_mul]
  · show gX7_rowsOf_5b h c (nI n) (lN (nL (V a) ^ n)) (nI n) = _
    unfold gX7_rowsOf_5b
    simp (disch := omega) only [n_lit, n_of, n_o1, nI_add, pk_mul, nI_ltI, nI_leI, nI_eq, ↓lift_lt, ↓k_mt, ↓k_mp, if_true, if_false, Bool.false_eq_true, Nat.not_lt_zero, Nat.zero_le, Nat.reduceEqDiff, Nat.reduceLeDiff, Nat.reduceLT, Nat.le_refl]
theorem PVx_w {v : Cv} {c' : Ch} (f : cfr Aw c c') (K : PVx v ch st c o R w E) : PVx v ch st c' o R w E := by
  unfold PVx at *
  rw [f.1, f.2.2.2.1 117 rfl, f.2.2.2.1 118 rfl, f.2.2.2.2]
  exact K
theorem SVx_w {c' : Ch} (f : cfr Aw c c') (K : SVx c H S u C) : SVx c' H S u C := by
  unfold SVx at *
  rw [f.2.2.2.1 118 rfl, f.2.2.2.2]
  exact K
theorem c_passOn {s cnt : Nat} (hst : st < 2 ^ 31) (hho : (H = 0 ∧ o = 10000) ∨ (H = 10000 ∧ o = 0)) (hs : s < 10000) (K : KSy c0 h V a ch c) (hV : PVx (V a) ch st c o R w E) (hS : SVx c H S u C) :
    ∃ (c' : Ch) (R' : Nat) (w' E' : Nat → Nat), gX7_passOn h c (nI s) (lN cnt) (nI o) = some c' ∧ KSy c0 h V a ch c' ∧ PVx (V a) ch st c' o R' w' E' ∧ SVx c' H S u C ∧ c'.1 116 13 = c.1 116 13 ∧ ∀ f : Nat → Nat, csum (fun j => E' j * f (w' j)) R' = csum (fun j => E j * f (w j)) R + cnt * csum (fun k => f (nxt (V a) ch k s)) (nL (V a)) := by
  have hW := K.2.1.2.2.1
  have hP := hW.1
  obtain ⟨hL0, hL⟩ := nL_b hW
  obtain ⟨c5, e5, T5, f5, r5⟩ := c_spread (w := 0) (dry := 0) K.2.1 hs (by decide)
  have K5 := KSy_w K T5 f5
  have V5 : PVx (V a) ch st c5 o R w E := PVx_w f5 hV
  have S5 : SVx c5 H S u C := SVx_w f5 hS
  have nlt : ∀ k, nxt (V a) ch k s < 20000 := fun k => Yr_lt hP (by omega) _ _ _
  have J := lpw_all (body := fun z : Int32 × Ch => gX7_passOn_16b h z.2 (lN cnt) (nI o) z.1)
    (fun k z => z.1 = nI k ∧ KSy c0 h V a ch z.2 ∧ SVx z.2 H S u C ∧ (∀ i, i < nL (V a) → z.2.2.2.2.1 122 i = nI (nxt (V a) ch i s)) ∧ z.2.1 116 13 = c.1 116 13 ∧ ∃ (R' : Nat) (w' E' : Nat → Nat), PVx (V a) ch st z.2 o R' w' E' ∧ ∀ f : Nat → Nat, csum (fun j => E' j * f (w' j)) R' = csum (fun j => E j * f (w j)) R + cnt * csum (fun k => f (nxt (V a) ch k s)) k)
    (fun c' => KSy c0 h V a ch c' ∧ SVx c' H S u C ∧ c'.1 116 13 = c.1 116 13 ∧ ∃ (R' : Nat) (w' E' : Nat → Nat), PVx (V a) ch st c' o R' w' E' ∧ ∀ f : Nat → Nat, csum (fun j => E' j * f (w' j)) R' = csum (fun j => E j * f (w j)) R + cnt * csum (fun k => f (nxt (V a) ch k s)) (nL (V a))) (nL (V a)) ?_ ?_ (nI 0, c5) ⟨rfl, K5, S5, r5, by rw [f5.1], R, w, E, V5, fun f => by show _ = _ + cnt * 0; rw [Nat.mul_zero, Nat.add_zero]⟩
  · obtain ⟨c', e, a1, a2, a3, R', w', E', a4, a5⟩ := J
    have e : gX7_passOn_16 h c5 (lN cnt) (nI o) (nI 0) = some c' := e
    refine ⟨c', R', w', E', ?_, a1, a4, a2, a3, a5⟩
    unfold gX7_passOn
    simp (disch := omega) only [n_lit, n_of, n_o1, nI_add, pk_mul, nI_ltI, nI_leI, nI_eq, ↓lift_lt, ↓k_mt, ↓k_mp, if_true, if_false, Bool.false_eq_true, Nat.not_lt_zero, Nat.zero_le, Nat.reduceEqDiff, Nat.reduceLeDiff, Nat.reduceLT, e5, e]
  · rintro k ⟨z1, z2⟩ hk ⟨g1, g2, g3, g4, g5, R', w', E', g6, g7⟩
    have g1 : z1 = nI k := g1
    subst g1
    have g2 : KSy c0 h V a ch z2 := g2
    have g3 : SVx z2 H S u C := g3
    have g4 : ∀ i, i < nL (V a) → z2.2.2.2.1 122 i = nI (nxt (V a) ch i s) := g4
    have g6 : PVx (V a) ch st z2 o R' w' E' := g6
    obtain ⟨c', R2, w2, E2, e, a1, a2, a3, a4, a5, a6⟩ := po_turn (cnt := cnt) hst hho hs hk g2 g6 g3 g4 (nlt k)
    refine ⟨_, e, rfl, a1, a3, a4, a5.trans g5, R2, w2, E2, a2, fun f => ?_⟩
    show _ = _ + cnt * (csum (fun k => f (nxt (V a) ch k s)) k + f (nxt (V a) ch k s))
    rw [a6 f, g7 f, Nat.mul_add, Nat.add_assoc]
  · rintro ⟨z1, z2⟩ ⟨g1, g2, g3, g4, g5, R', w', E', g6, g7⟩
    have g1 : z1 = nI (nL (V a)) := g1
    subst g1
    have g2 : KSy c0 h V a ch z2 := g2
    obtain ⟨la, l1, l2, -⟩ := cv_la hW g2.2.1.2.1
    show ∃ r, gX7_passOn_16b h z2 (lN cnt) (nI o) (nI (nL (V a))) = some (.inr r) ∧ _
    refine ⟨z2, ?_, g2, g3, g5, R', w', E', g6, g7⟩
    unfold gX7_passOn_16b
    simp (disch := omega) only [n_lit, n_of, n_o1, nI_add, pk_mul, nI_ltI, nI_leI, nI_eq, ↓lift_lt, ↓k_mt, ↓k_mp, if_true, if_false, Bool.false_eq_true, Nat.not_lt_zero, Nat.zero_le, Nat.reduceEqDiff, Nat.reduceLeDiff, Nat.reduceLT, g2.2.2.1, l1, l2, Nat.le_refl]
/-- one year -/
theorem rw_half {b r r0 : Nat} (hst : st < 2 ^ 31) (hr : r ≤ 8) (hho : (H = 0 ∧ o = 10000) ∨ (H = 10000 ∧ o = 0)) (hb : b < 2 ^ vP (V a)) (K : KSy c0 h V a ch c) (hV : PVx (V a) ch st c o 0 w E) (hS : SVx c H S u C) (h13 : c.1 116 13 = nI 0) :
    ∃ (c' : Ch) (r1 R' : Nat) (w' E' : Nat → Nat), gX7_countRows_59 h c (nI b) (lN r0) (nI H) (nI S) (nI r) (nI o) (nI 0) = some (.inl (lN r1, nI o, nI R', dn r, c')) ∧ KSy c0 h V a ch c' ∧ PVx (V a) ch st c' o R' w' E' ∧ c'.1 116 13 = nI 0 ∧ r1 + csum (fun j => E' j * Zs (V a) ch b r (w' j)) R' = r0 + csum (fun i => C i * Zg (V a) ch b r (u i)) S := by
  have hW := K.2.1.2.2.1
  have hP := hW.1
  have hC := K.2.1.2.1
  have p16 := pow2_le hP
  obtain ⟨hL0, hL⟩ := nL_b hW
  have Sb := hS.1
  unfold gX7_countRows_59
  have J := lpw_all (body := fun z : Int64 × Int32 × Ch => gX7_countRows_59b h z.2.2 (nI b) (nI H) (nI S) (nI r) (nI o) z.1 z.2.1)
    (fun i z => ∃ (r1 R' : Nat) (w' E' : Nat → Nat), z.1 = lN r1 ∧ z.2.1 = nI i ∧ KSy c0 h V a ch z.2.2 ∧ PVx (V a) ch st z.2.2 o R' w' E' ∧ SVx z.2.2 H S u C ∧ z.2.2.1 116 13 = nI 0 ∧ r1 + csum (fun j => E' j * Zs (V a) ch b r (w' j)) R' = r0 + csum (fun i => C i * Zg (V a) ch b r (u i)) i)
    (fun y => ∃ (c' : Ch) (r1 R' : Nat) (w' E' : Nat → Nat), y = .inl (lN r1, nI o, nI R', dn r, c') ∧ KSy c0 h V a ch c' ∧ PVx (V a) ch st c' o R' w' E' ∧ c'.1 116 13 = nI 0 ∧ r1 + csum (fun j => E' j * Zs (V a) ch b r (w' j)) R' = r0 + csum (fun i => C i * Zg (V a) ch b r (u i)) S) S ?_ ?_ (lN r0, nI 0, c) ⟨r0, 0, w, E, rfl, rfl, K, hV, hS, h13, rfl⟩
  · obtain ⟨y, e, c', r1, R', w', E', ey, rest⟩ := J
    subst ey
    exact ⟨c', r1, R', w', E', e, rest⟩
  · rintro i ⟨z1, z2, z3⟩ hi ⟨r1, R', w', E', g1, g2, g3, g4, g5, g6, g7⟩
    have g1 : z1 = lN r1 := g1
    have g2 : z2 = nI i := g2
    subst g1
    subst g2
    have g3 : KSy c0 h V a ch z3 := g3
    have g4 : PVx (V a) ch st z3 o R' w' E' := g4
    have g5 : SVx z3 H S u C := g5
    have g6 : z3.1 116 13 = nI 0 := g6
    obtain ⟨o1, o2, o3⟩ := g5.2 i hi
    have um : u i % 10000 < 10000 := Nat.mod_lt _ (by decide)
    have k1 : ¬ S ≤ i := by omega
    have ig := c_isGoal (h := h) (V := V) (goal := nI b) (s := u i) g3.2.2.1 hC hP (Or.inl ⟨b, hb, rfl⟩) o1
    have i1 : ¬ (1 = 0) := by decide
    have Hi : H + i < 20000 := by omega
    have Hu : H + u i % 10000 < 20000 := by omega
    have rr : r < 2 ^ 31 := by omega
    show ∃ s', gX7_countRows_59b h z3 (nI b) (nI H) (nI S) (nI r) (nI o) (lN r1) (nI i) = some (.inl s') ∧ _
    have cs : csum (fun i => C i * Zg (V a) ch b r (u i)) (i + 1) = csum (fun i => C i * Zg (V a) ch b r (u i)) i + C i * Zg (V a) ch b r (u i) := rfl
    by_cases zg : Gp (vP (V a)) (nI b) (u i)
    · rw [ib_t zg] at ig
      have ro := c_rowsOf (h := h) (n := r) g3.2.2.1 hC hW rr
      refine ⟨(lN (r1 + C i * nL (V a) ^ r), nI (i + 1), z3), ?_, r1 + C i * nL (V a) ^ r, R', w', E', rfl, rfl, g3, g4, g5, g6, ?_⟩
      · unfold gX7_countRows_59b gX7_countRows_144
        simp (disch := omega) only [n_lit, n_of, n_o1, nI_add, pk_mul, nI_ltI, nI_leI, nI_eq, ↓lift_lt, ↓k_mt, ↓k_mp, if_true, if_false, Bool.false_eq_true, Nat.not_lt_zero, Nat.zero_le, Nat.reduceEqDiff, Nat.reduceLeDiff, Nat.reduceLT, k1, cA_g, o2, n_rm, cL_g, o3, ig, i1, ro, lN_mul, lN_add]
      · rw [cs, Zg_met hP hb r (u i) zg]
        omega
    · rw [ib_f zg] at ig
      by_cases zf : 10000 ≤ u i
      · refine ⟨(lN r1, nI (i + 1), z3), ?_, r1, R', w', E', rfl, rfl, g3, g4, g5, g6, ?_⟩
        · unfold gX7_countRows_59b gX7_countRows_144
          simp (disch := omega) only [n_lit, n_of, n_o1, nI_add, pk_mul, nI_ltI, nI_leI, nI_eq, ↓lift_lt, ↓k_mt, ↓k_mp, if_true, if_false, Bool.false_eq_true, Nat.not_lt_zero, Nat.zero_le, Nat.reduceEqDiff, Nat.reduceLeDiff, Nat.reduceLT, k1, cA_g, o2, n_rm, cL_g, o3, ig, zf]
        · rw [cs, Zg_fall r (u i) zf zg, Nat.mul_zero]
          exact g7
      · cases r with
        | zero =>
          refine ⟨(lN r1, nI (i + 1), z3), ?_, r1, R', w', E', rfl, rfl, g3, g4, g5, g6, ?_⟩
          · unfold gX7_countRows_59b gX7_countRows_144
            simp (disch := omega) only [n_lit, n_of, n_o1, nI_add, pk_mul, nI_ltI, nI_leI, nI_eq, ↓lift_lt, ↓k_mt, ↓k_mp, if_true, if_false, Bool.false_eq_true, Nat.not_lt_zero, Nat.zero_le, Nat.reduceEqDiff, Nat.reduceLeDiff, Nat.reduceLT, k1, cA_g, o2, n_rm, cL_g, o3, ig, zf, Nat.le_refl]
          · have z0 : Zg (V a) ch b 0 (u i) = 0 := ib_f zg
            rw [cs, z0, Nat.mul_zero]
            exact g7
        | succ r =>
          obtain ⟨c', R2, w2, E2, e, a1, a2, a3, a4, a5⟩ := c_passOn (cnt := C i) hst hho (show u i < 10000 by omega) g3 g4 g5
          have r0' : ¬ r + 1 ≤ 0 := by omega
          refine ⟨(lN r1, nI (i + 1), c'), ?_, r1, R2, w2, E2, rfl, rfl, a1, a2, a3, a4.trans g6, ?_⟩
          · unfold gX7_countRows_59b gX7_countRows_144
            simp (disch := omega) only [n_lit, n_of, n_o1, nI_add, pk_mul, nI_ltI, nI_leI, nI_eq, ↓lift_lt, ↓k_mt, ↓k_mp, if_true, if_false, Bool.false_eq_true, Nat.not_lt_zero, Nat.zero_le, Nat.reduceEqDiff, Nat.reduceLeDiff, Nat.reduceLT, k1, cA_g, o2, n_rm, cL_g, o3, ig, zf, r0', e]
          · have a5' := a5 (fun t => Zs (V a) ch b (r + 1) t)
            have z1 : csum (fun k => Zs (V a) ch b (r + 1) (nxt (V a) ch k (u i))) (nL (V a)) = Zg (V a) ch b (r + 1) (u i) := by
              have z0 : Zg (V a) ch b (r + 1) (u i) = csum (fun k => Zg (V a) ch b r (nxt (V a) ch k (u i))) (nL (V a)) := rfl
              rw [z0]
              refine csum_eq (fun k _ => ?_)
              show Zs (V a) ch b (r + 1) (nxt (V a) ch k (u i)) = Zg (V a) ch b r (nxt (V a) ch k (u i))
              exact Zs_s r (nxt (V a) ch k (u i))
            rw [cs, a5', z1]
            omega
  · rintro ⟨z1, z2, z3⟩ ⟨r1, R', w', E', g1, g2, g3, g4, g5, g6, g7⟩
    have g1 : z1 = lN r1 := g1
    have g2 : z2 = nI S := g2
    subst g1
    subst g2
    have g4 : PVx (V a) ch st z3 o R' w' E' := g4
    have x12 := g4.1
    show ∃ y, gX7_countRows_59b h z3 (nI b) (nI H) (nI S) (nI r) (nI o) (lN r1) (nI S) = some (.inr y) ∧ _
    refine ⟨.inl (lN r1, nI o, nI R', dn r, z3), ?_, z3, r1, R', w', E', rfl, g3, g4, g6, g7⟩
    unfold gX7_countRows_59b gX7_countRows_150
    simp (disch := omega) only [n_lit, n_of, n_o1, nI_add, pk_mul, nI_ltI, nI_leI, nI_eq, ↓lift_lt, ↓k_mt, ↓k_mp, if_true, if_false, Bool.false_eq_true, Nat.not_lt_zero, Nat.zero_le, Nat.reduceEqDiff, Nat.reduceLeDiff, Nat.reduceLT, Nat.le_refl, x12, dn_d, Option.map_some]
theorem c_countRows {B b T : Nat} (hS : SE B h V c a ch) (hB : B < 2 ^ 30) (hs : s0 < 20000) (hT : T ≤ 8) (hb : b < 2 ^ vP (V a)) :
    ∃ c', gX7_countRows h c (nI s0) (nI b) (nI T) = some (lN (Zg (V a) ch b T s0), c') ∧ sfr c c' ∧ SE (B + 9) h V c' a ch := by
  obtain ⟨b1, b2, b3, st, b4, b5, b6, -⟩ := hS
  have hW := b3.2.2.1
  have hP := hW.1
  have sm : s0 % 10000 < 20000 := by have := Nat.mod_lt s0 (show 0 < 10000 by decide); omega
  have i1 : ¬ (1 = 0) := by decide
  obtain ⟨c1, e1⟩ : ∃ c1, c1 = cS c 118 0 (nI s0) := ⟨_, rfl⟩
  obtain ⟨c2, e2⟩ : ∃ c2, c2 = cSJ c1 121 (s0 % 10000) (lN 1) := ⟨_, rfl⟩
  have x1 : cWA c 0 118 20000 (nI 0) (nI s0) = some c1 := by rw [e1]; exact cW0_g c _ (by decide) (by decide)
  have x2 : cWL c1 121 20000 (nI (s0 % 10000)) (lN 1) = some c2 := by rw [e2]; exact cWL_g c1 _ sm (by decide)
  have K2 : KSy c h V a ch c2 := by
    rw [e2, e1]
    exact KSy_J (KSy_S ⟨sfr_rfl c, b3, b1, b2⟩ (by omega))
  have S2 : SVx c2 0 1 (fun _ => s0) (fun _ => 1) := by
    refine ⟨by decide, fun i hi => ⟨hs, ?_, ?_⟩⟩
    · rw [e2, cSJ_4, e1, cS_4, if_pos rfl, if_pos (by omega)]
    · rw [e2, cSJ_5, if_pos rfl, if_pos (by rw [Nat.zero_add])]
  have m2 : c2.1 = c.1 := by rw [e2, cSJ_1, e1, cS_1]
  have n2 : ∀ i, i < 20000 → ∃ z, z ≤ st ∧ c2.2.2.2.1 117 i = nI z := fun i hi => by
    rw [e2, cSJ_4, e1, cS_n _ (by decide)]
    exact b6 i hi
  have J := lpw_all (body := fun z : Int64 × Int32 × Int32 × Int32 × Ch => gX7_countRows_39b h z.2.2.2.2 (nI b) z.1 z.2.1 z.2.2.1 z.2.2.2.1)
    (fun i z => ∃ (r1 H S : Nat) (u C : Nat → Nat), z.1 = lN r1 ∧ z.2.1 = nI H ∧ z.2.2.1 = nI S ∧ z.2.2.2.1 = dn (T + 1 - i) ∧ (H = 0 ∨ H = 10000) ∧ KSy c h V a ch z.2.2.2.2 ∧ SVx z.2.2.2.2 H S u C ∧ z.2.2.2.2.1 116 4 = nI (st + i) ∧ (∀ t, t < 20000 → ∃ y, y ≤ st + i ∧ z.2.2.2.2.2.2.2.1 117 t = nI y) ∧ (0 < i → z.2.2.2.2.1 116 13 = nI 0) ∧ r1 + csum (fun j => C j * Zs (V a) ch b (T + 1 - i) (u j)) S = Zg (V a) ch b T s0)
    (fun y => ∃ c', y = (lN (Zg (V a) ch b T s0), c') ∧ KSy c h V a ch c' ∧ c'.1 116 4 = nI (st + (T + 1)) ∧ (∀ t, t < 20000 → ∃ y, y ≤ st + (T + 1) ∧ c'.2.2.2.1 117 t = nI y) ∧ c'.1 116 13 = nI 0) (T + 1) ?_ ?_ (lN 0, nI 0, nI 1, nI T, c2) ⟨0, 0, 1, fun _ => s0, fun _ => 1, rfl, rfl, rfl, by
      show nI T = dn (T + 1 - 0)
      rw [Nat.sub_zero, dn_s], Or.inl rfl, K2, S2, by rw [m2]; exact b4, n2, fun h0 => by omega, by
      show 0 + (0 + 1 * Zs (V a) ch b (T + 1 - 0) s0) = _
      rw [Nat.sub_zero, Zs_s]
      omega⟩
  · obtain ⟨y, e, c', ey, a1, a2, a3, a4⟩ := J
    subst ey
    have e : gX7_countRows_39 h c2 (nI b) (lN 0) (nI 0) (nI 1) (nI T) = some (lN (Zg (V a) ch b T s0), c') := e
    refine ⟨c', ?_, a1.1, a1.2.2.1, a1.2.2.2, a1.2.1, st + (T + 1), a2, by omega, a3, Or.inl a4⟩
    unfold gX7_countRows
    simp (disch := omega) only [n_lit, n_of, n_o1, nI_add, pk_mul, nI_ltI, nI_leI, nI_eq, ↓lift_lt, ↓k_mt, ↓k_mp, if_true, if_false, Bool.false_eq_true, Nat.not_lt_zero, Nat.zero_le, Nat.reduceEqDiff, Nat.reduceLeDiff, Nat.reduceLT, n_litL, c_isState hs, i1, x1, n_rm, x2, e]
  · rintro i ⟨z1, z2, z3, z4, z5⟩ hi ⟨r1, H, S, u, C, g1, g2, g3, g4, g5, g6, g7, g8, g9, g10, g11⟩
    have g1 : z1 = lN r1 := g1
    have g2 : z2 = nI H := g2
    have g3 : z3 = nI S := g3
    have g4 : z4 = dn (T + 1 - i) := g4
    subst g1
    subst g2
    subst g3
    subst g4
    obtain ⟨r, er⟩ : ∃ r, T + 1 - i = r + 1 := ⟨T - i, by omega⟩
    have g6 : KSy c h V a ch z5 := g6
    have g7 : SVx z5 H S u C := g7
    have g8 : z5.1 116 4 = nI (st + i) := g8
    have g9 : ∀ t, t < 20000 → ∃ y, y ≤ st + i ∧ z5.2.2.2.1 117 t = nI y := g9
    rw [er] at g11
    obtain ⟨c3, e3⟩ : ∃ c3, c3 = cI (cI (cI z5 116 13 (nI 0)) 116 4 (nI (st + i + 1))) 116 12 (nI 0) := ⟨_, rfl⟩
    have v4 : c3.1 116 4 = nI (st + i + 1) := by rw [e3, cI_1, if_pos rfl, if_neg (by decide), cI_1, if_pos rfl, if_pos rfl]
    have v12 : c3.1 116 12 = nI 0 := by rw [e3, cI_1, if_pos rfl, if_pos rfl]
    have v13 : c3.1 116 13 = nI 0 := by rw [e3, cI_1, if_pos rfl, if_neg (by decide), cI_1, if_pos rfl, if_neg (by decide), cI_1, if_pos rfl, if_pos rfl]
    have r3 : c3.2 = z5.2 := by rw [e3]; rfl
    have ebg : gX7_begin h z5 = some c3 := by
      have w4 : (cI z5 116 13 (nI 0)).1 116 4 = nI (st + i) := by rw [cI_1, if_pos rfl, if_neg (by decide)]; exact g8
      rw [e3]
      unfold gX7_begin
      simp (disch := omega) only [n_lit, n_of, n_o1, nI_add, pk_mul, nI_ltI, nI_leI, nI_eq, ↓lift_lt, ↓k_mt, ↓k_mp, if_true, if_false, Bool.false_eq_true, Nat.not_lt_zero, Nat.zero_le, Nat.reduceEqDiff, Nat.reduceLeDiff, Nat.reduceLT, w4]
    have K3 : KSy c h V a ch c3 := by rw [e3]; exact KSy_I (KSy_I (KSy_I g6 (by decide)) (by decide)) (by decide)
    have S3 : SVx c3 H S u C := by unfold SVx at *; rw [r3]; exact g7
    have hH : H ≤ 10000 := by omega
    have P3 : PVx (V a) ch (st + i + 1) c3 (10000 - H) 0 (fun _ => 0) (fun _ => 0) := by
      refine ⟨v12, v4, fun j hj => by omega, fun i j h1 h2 => by omega, fun j hj => by omega, fun t ht => Or.inr ⟨?_, fun j hj => by omega⟩⟩
      obtain ⟨y, y1, y2⟩ := g9 t ht
      exact ⟨y, by omega, by rw [r3]; exact y2⟩
    obtain ⟨c', r2, R', w', E', e, a1, a2, a3, a4⟩ := rw_half (r := r) (r0 := r1) (b := b) (by omega) (by omega) (show (H = 0 ∧ 10000 - H = 10000) ∨ (H = 10000 ∧ 10000 - H = 0) by omega) hb K3 P3 S3 v13
    have Rb := PVx_b a2
    show ∃ s', gX7_countRows_39b h z5 (nI b) (lN r1) (nI H) (nI S) (dn (T + 1 - i)) = some (.inl s') ∧ _
    rw [er, dn_s]
    have sb : nI 10000 - nI H = nI (10000 - H) := pk_sub hH
    refine ⟨(lN r2, nI (10000 - H), nI R', dn r, c'), ?_, r2, 10000 - H, R', w', E', rfl, rfl, rfl, by rw [show T + 1 - (i + 1) = r by omega], by omega, a1, ⟨Rb, fun j hj => ?_⟩, by rw [← Nat.add_assoc]; exact a2.2.1, fun t ht => ?_, fun _ => a3, ?_⟩
    · unfold gX7_countRows_39b
      simp (disch := omega) only [n_lit, n_of, n_o1, nI_add, pk_mul, nI_ltI, nI_leI, nI_eq, ↓lift_lt, ↓k_mt, ↓k_mp, if_true, if_false, Bool.false_eq_true, Nat.not_lt_zero, Nat.zero_le, Nat.reduceEqDiff, Nat.reduceLeDiff, Nat.reduceLT, ebg, sb, e]
    · exact a2.2.2.1 j hj
    · rcases a2.2.2.2.2.2 t ht with ⟨y1, -⟩ | ⟨⟨y, y1, y2⟩, -⟩
      · exact ⟨st + i + 1, by omega, y1⟩
      · exact ⟨y, by omega, y2⟩
    · rw [show T + 1 - (i + 1) = r by omega, a4, ← g11]
      have : csum (fun j => C j * Zs (V a) ch b (r + 1) (u j)) S = csum (fun i => C i * Zg (V a) ch b r (u i)) S := csum_eq (fun j _ => by rw [Zs_s])
      rw [this]
  · rintro ⟨z1, z2, z3, z4, z5⟩ ⟨r1, H, S, u, C, g1, g2, g3, g4, g5, g6, g7, g8, g9, g10, g11⟩
    have g1 : z1 = lN r1 := g1
    have g4 : z4 = dn (T + 1 - (T + 1)) := g4
    subst g1
    subst g4
    have e0 : csum (fun j => C j * Zs (V a) ch b (T + 1 - (T + 1)) (u j)) S = 0 := by
      rw [Nat.sub_self]
      have : csum (fun j => C j * Zs (V a) ch b 0 (u j)) S = csum (fun _ => 0) S := csum_eq (fun j _ => by
        show C j * (if 0 = 0 then 0 else _) = 0
        rw [if_pos rfl, Nat.mul_zero])
      rw [this, csum_0]
    rw [e0, Nat.add_zero] at g11
    subst g11
    show ∃ y, gX7_countRows_39b h z5 (nI b) (lN (Zg (V a) ch b T s0)) z2 z3 (dn (T + 1 - (T + 1))) = some (.inr y) ∧ _
    rw [Nat.sub_self, dn_z]
    have lm : (-nI 1 < nI 0) = True := eq_true (by decide)
    refine ⟨(lN (Zg (V a) ch b T s0), z5), ?_, z5, rfl, g6, g8, g9, g10 (by omega)⟩
    unfold gX7_countRows_39b
    simp (disch := omega) only [n_lit, n_of, n_o1, nI_add, pk_mul, nI_ltI, nI_leI, nI_eq, ↓lift_lt, ↓k_mt, ↓k_mp, if_true, if_false, Bool.false_eq_true, Nat.not_lt_zero, Nat.zero_le, Nat.reduceEqDiff, Nat.reduceLeDiff, Nat.reduceLT, lm]
end ROWD
section OPS18
variable {T : Nat} {h : Hp} {V : Nat → Cv} {c : Ch} {m : Mu} {x : Sp}
theorem op_rows (gC : RC T h V c x) (gM : RM m x) (hw : WF x) (hT : T ≤ 1000) (x1 x2 : Int32) : OKs T h V (gX11_rows h c x1 x2) (gX12_rows m x1 x2) := by
  have hP := hw.2.2.1.1
  have i1 : ¬ (1 = 0) := by decide
  have hs := hw.2.2.2.1
  unfold gX11_rows gX11_rows_18 gX12_rows gX12_rows_25
  rcases isSets gC gM hw x1 with ⟨b, hb, rfl, z1, z2⟩ | ⟨z1, z2⟩
  · rcases ix_cases x2 9 (by decide) (by decide) with ⟨y, y1, rfl⟩ | ⟨n1, n2⟩ | ⟨n1, n2, n3, n4, n5, n6⟩
    · obtain ⟨a, c1, e1, eV, f1, S1, k80, s1, C1⟩ := c_searching gC hw
      obtain ⟨c2, e2, f2, S2⟩ := c_countRows (b := b) (T := y) S1 (by omega) hs.1 (by omega) (by rw [eV]; exact hb)
      rw [eV] at e2
      obtain ⟨m', q', D', W', n', em, B, A⟩ := q_laysStands (RD_now gM hw)
      obtain ⟨m2, em2, f2m, h2⟩ := q_beginsMany B.1
      obtain ⟨m3, em3, f3m⟩ := q_rows (b := b) (T := y) (m := m2) hb (by omega) (RD_j f2m.2.1 B.1) (ALL_j f2m A) (by rw [f2m.1]; exact B.2.2.1) h2
      have wy := win_y (p := y) (l := 0) (u := 8) (by decide) (Nat.zero_le _) (by omega)
      have y8 : y ≤ 8 := by omega
      refine ⟨lN (Zg (zV x) (zS x).2.1 b y (zS x).1), c2, m3, x, ?_, ?_, RC_s gC (sfr_tr f1 f2) (SE_B (by omega) S2), RM_kp (RM_0 gM (nI 0)) (kpM_tr (mfs_kp B.2.2.2.2) (jfr_kp (jfr_tr f2m f3m))), hw⟩
      · simp (disch := omega) only [n_lit, n_of, n_o1, nI_add, pk_mul, nI_ltI, nI_leI, nI_eq, ↓lift_lt, ↓k_mt, ↓k_mp, if_true, if_false, Bool.false_eq_true, Nat.not_lt_zero, Nat.zero_le, Nat.reduceEqDiff, Nat.reduceLeDiff, Nat.reduceLT, z1, i1, y8, e1, s1.1, e2]
      · have em3 : gX12_rows_40 m2 (nI b) (nI y) (nI 0) = some (lN (Zg (zV x) (zS x).2.1 b y (zS x).1), m3) := em3
        simp (disch := omega) only [n_lit, n_of, n_o1, nI_add, pk_mul, nI_ltI, nI_leI, nI_eq, ↓lift_lt, ↓k_mt, ↓k_mp, if_true, if_false, Bool.false_eq_true, Nat.not_lt_zero, Nat.zero_le, Nat.reduceEqDiff, Nat.reduceLeDiff, Nat.reduceLT, n_litL, z2, i1, wy, em, em2, em3]
    · have wn := wi_n (u := 8) n1 (by decide) (by decide)
      refine ⟨-lN 3, c, mI m 0 (nI 0), x, ?_, ?_, RC_T (by omega) gC, RM_0 gM _, hw⟩
      · simp (disch := omega) only [n_lit, n_of, n_o1, nI_add, pk_mul, nI_ltI, nI_leI, nI_eq, ↓lift_lt, ↓k_mt, ↓k_mp, if_true, if_false, Bool.false_eq_true, Nat.not_lt_zero, Nat.zero_le, Nat.reduceEqDiff, Nat.reduceLeDiff, Nat.reduceLT, n_litL, z1, i1, n2]
      · simp (disch := omega) only [n_lit, n_of, n_o1, nI_add, pk_mul, nI_ltI, nI_leI, nI_eq, ↓lift_lt, ↓k_mt, ↓k_mp, if_true, if_false, Bool.false_eq_true, Nat.not_lt_zero, Nat.zero_le, Nat.reduceEqDiff, Nat.reduceLeDiff, Nat.reduceLT, n_litL, z2, i1, wn]
    · have wn := wi_n (u := 8) n1 (by decide) (by decide)
      have n6 : ¬ x2 ≤ nI 8 := n6
      refine ⟨-lN 3, c, mI m 0 (nI 0), x, ?_, ?_, RC_T (by omega) gC, RM_0 gM _, hw⟩
      · simp (disch := omega) only [n_lit, n_of, n_o1, nI_add, pk_mul, nI_ltI, nI_leI, nI_eq, ↓lift_lt, ↓k_mt, ↓k_mp, if_true, if_false, Bool.false_eq_true, Nat.not_lt_zero, Nat.zero_le, Nat.reduceEqDiff, Nat.reduceLeDiff, Nat.reduceLT, n_litL, z1, i1, n2, n6]
      · simp (disch := omega) only [n_lit, n_of, n_o1, nI_add, pk_mul, nI_ltI, nI_leI, nI_eq, ↓lift_lt, ↓k_mt, ↓k_mp, if_true, if_false, Bool.false_eq_true, Nat.not_lt_zero, Nat.zero_le, Nat.reduceEqDiff, Nat.reduceLeDiff, Nat.reduceLT, n_litL, z2, i1, wn]
  · refine ⟨-lN 3, c, mI m 0 (nI 0), x, ?_, ?_, RC_T (by omega) gC, RM_0 gM _, hw⟩
    · simp (disch := omega) only [n_lit, n_of, n_o1, nI_add, pk_mul, nI_ltI, nI_leI, nI_eq, ↓lift_lt, ↓k_mt, ↓k_mp, if_true, if_false, Bool.false_eq_true, Nat.not_lt_zero, Nat.zero_le, Nat.reduceEqDiff, Nat.reduceLeDiff, Nat.reduceLT, n_litL, z1]
    · simp (disch := omega) only [n_lit, n_of, n_o1, nI_add, pk_mul, nI_ltI, nI_leI, nI_eq, ↓lift_lt, ↓k_mt, ↓k_mp, if_true, if_false, Bool.false_eq_true, Nat.not_lt_zero, Nat.zero_le, Nat.reduceEqDiff, Nat.reduceLeDiff, Nat.reduceLT, n_litL, z2]
end OPS18
