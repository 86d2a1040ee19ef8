/-! the class: what can be forced -/
theorem Fcd_fall {v : Cv} {ch p : Nat} : ∀ n t, 10000 ≤ t → Fcd (nxt v ch) (nxd v ch) (nL v) (fun t => dg t p) n t → dg t p = 0
  | 0, t, _, h => h
  | n + 1, t, ht, h => by
    rcases h with h | ⟨k, k1, k2, k3⟩
    · exact h
    · rw [nxt_ab v ch k t ht] at k2
      exact Fcd_fall n t ht k2
section GMC
variable {c0 c : Ch} {h : Hp} {V : Nat → Cv} {a ch p s0 st : Nat} {lst u lk : Nat → Nat} {R hd k : Nat}
/-- what need not be looked at, or is reached -/
def Clx (p : Nat) (lst u : Nat → Nat) (R t : Nat) : Prop := 10000 ≤ t ∨ dg t p = 0 ∨ lst (dg t p) = 20000 ∨ ∃ j, j < R ∧ u j = t
def GVx (p : Nat) (lst : Nat → Nat) (st : Nat) (c : Ch) (u lk : Nat → Nat) (R : Nat) : Prop :=
  c.1 116 12 = nI R ∧ c.1 116 4 = nI st ∧ (∀ i, i < R → u i < 10000 ∧ 0 < dg (u i) p ∧ c.2.2.2.1 118 i = nI (u i) ∧ c.2.2.2.1 119 (u i) = nI (lk i)) ∧ (∀ i j, i < j → j < R → u i ≠ u j) ∧
  (∀ t, t < 20000 → (c.2.2.2.1 117 t = nI st ∧ ∃ i, i < R ∧ u i = t) ∨ ((∃ z, z < st ∧ c.2.2.2.1 117 t = nI z) ∧ ∀ i, i < R → u i ≠ t)) ∧ LSx c lst
theorem GVx_w {c' : Ch} (f : cfr Aw c c') (H : GVx p lst st c u lk R) : GVx p lst st c' u lk R := by
  unfold GVx LSx at *
  rw [f.1, f.2.2.2.1 117 rfl, f.2.2.2.1 118 rfl, f.2.2.2.1 119 rfl, f.2.2.2.1 124 rfl]
  exact H
theorem GVx_R (H : GVx p lst st c u lk R) : R ≤ 10000 := inj_le (f := u) (fun i j a b => H.2.2.2.1 i j a b) (fun i hi => (H.2.2.1 i hi).1)
theorem Clx_up {u' : Nat → Nat} {R' t : Nat} (h : Clx p lst u R t) (hR : R ≤ R') (hu : ∀ i, i < R → u' i = u i) : Clx p lst u' R' t := by
  rcases h with h | h | h | ⟨j, j1, j2⟩
  · exact Or.inl h
  · exact Or.inr (Or.inl h)
  · exact Or.inr (Or.inr (Or.inl h))
  · exact Or.inr (Or.inr (Or.inr ⟨j, by omega, by rw [hu j j1]; exact j2⟩))
theorem c_reachOpen {t : Nat} (hp : p < 4) (hst : st < 2 ^ 31) (ht : t < 20000) (K : KSx c0 h V a ch c) (H : GVx p lst st c u (fun _ => 0) R) :
    ∃ (c' : Ch) (u' : Nat → Nat) (R' : Nat), gX7_reachOpen h c (nI t) (nI p) = some c' ∧ KSx c0 h V a ch c' ∧ GVx p lst st c' u' (fun _ => 0) R' ∧ R ≤ R' ∧ (∀ i, i < R → u' i = u i) ∧ Clx p lst u' R' t ∧ c'.2.2.2.1 122 = c.2.2.2.1 122 ∧ c'.2.2.2.1 123 = c.2.2.2.1 123 := by
  have Rb := GVx_R H
  have H' := H
  obtain ⟨h1, h2, h3, h4, h5, h6⟩ := H'
  have dc := c_digit (s := t) (p := p) (by omega) hp
  have dl := dg_lt t p
  obtain ⟨l1, l2⟩ := h6 (dg t p) dl
  have i1 : ¬ (1 = 0) := by decide
  unfold gX7_reachOpen gX7_reachOpen_43 gX7_isNew gX7_isNew_24 gX7_isNew_25
  by_cases z1 : 10000 ≤ t
  · refine ⟨c, u, R, ?_, K, H, Nat.le_refl _, fun _ _ => rfl, Or.inl z1, rfl, rfl⟩
    simp (disch := omega) only [n_lit, n_of, n_o1, nI_add, pk_mul, nI_ltI, nI_leI, nI_eq, ↓lift_lt, ↓k_mt, ↓k_mp, if_true, if_false, Bool.false_eq_true, Nat.not_lt_zero, Nat.zero_le, Nat.reduceEqDiff, Nat.reduceLeDiff, Nat.reduceLT, dc, z1]
  · by_cases z2 : dg t p ≤ 0
    · refine ⟨c, u, R, ?_, K, H, Nat.le_refl _, fun _ _ => rfl, Or.inr (Or.inl (by omega)), rfl, rfl⟩
      simp (disch := omega) only [n_lit, n_of, n_o1, nI_add, pk_mul, nI_ltI, nI_leI, nI_eq, ↓lift_lt, ↓k_mt, ↓k_mp, if_true, if_false, Bool.false_eq_true, Nat.not_lt_zero, Nat.zero_le, Nat.reduceEqDiff, Nat.reduceLeDiff, Nat.reduceLT, dc, z1, z2]
    · by_cases z3 : lst (dg t p) = 20000
      · refine ⟨c, u, R, ?_, K, H, Nat.le_refl _, fun _ _ => rfl, Or.inr (Or.inr (Or.inl z3)), rfl, rfl⟩
        simp (disch := omega) only [n_lit, n_of, n_o1, nI_add, pk_mul, nI_ltI, nI_leI, nI_eq, ↓lift_lt, ↓k_mt, ↓k_mp, if_true, if_false, Bool.false_eq_true, Nat.not_lt_zero, Nat.zero_le, Nat.reduceEqDiff, Nat.reduceLeDiff, Nat.reduceLT, dc, z1, z2, cA_g, l1, eq_true z3]
      · rcases h5 t ht with ⟨m1, j, j1, j2⟩ | ⟨⟨z, z4, m1⟩, m2⟩
        · refine ⟨c, u, R, ?_, K, H, Nat.le_refl _, fun _ _ => rfl, Or.inr (Or.inr (Or.inr ⟨j, j1, j2⟩)), rfl, rfl⟩
          simp (disch := omega) only [n_lit, n_of, n_o1, nI_add, pk_mul, nI_ltI, nI_leI, nI_eq, ↓lift_lt, ↓k_mt, ↓k_mp, if_true, if_false, Bool.false_eq_true, Nat.not_lt_zero, Nat.zero_le, Nat.reduceEqDiff, Nat.reduceLeDiff, Nat.reduceLT, dc, z1, z2, cA_g, l1, z3, c_isState ht, i1, m1, h2, n_bl0]
        · have nz : ¬ z = st := by omega
          have inj' : ∀ i j, i < j → j < R + 1 → (if i = R then t else u i) ≠ (if j = R then t else u j) := fun i j hij hj => by
            rw [if_neg (show ¬ i = R by omega)]
            by_cases e : j = R
            · rw [if_pos e]; exact m2 i (by omega)
            · rw [if_neg e]; exact h4 i j hij (by omega)
          have lo : ∀ i, i < R → ¬ i = R := fun i hi => by omega
          have er := c_reach (h := h) (c := c) (link := nI 0) ht h1 (show R < 20000 by omega)
          rw [h2] at er
          obtain ⟨c4, e4⟩ : ∃ c4, c4 = cI (cS (cS (cS (cS c 117 t (nI st)) 119 t (nI 0)) 120 t (nI 0)) 118 R (nI t)) 116 12 (nI (R + 1)) := ⟨_, rfl⟩
          rw [← e4] at er
          have K4 : KSx c0 h V a ch c4 := by rw [e4]; exact KSx_12 (KSx_S (KSx_S (KSx_S (KSx_S K (by omega)) (by omega)) (by omega)) (by omega))
          have r40 : ∀ z, c4.2.2.2.1 z = (cS (cS (cS (cS c 117 t (nI st)) 119 t (nI 0)) 120 t (nI 0)) 118 R (nI t)).2.2.2.1 z := fun z => by rw [e4]; rfl
          have w118 : ∀ j, c4.2.2.2.1 118 j = if j = R then nI t else c.2.2.2.1 118 j := fun j => by
            rw [r40, cS_4, if_pos rfl, cS_n _ (by decide), cS_n _ (by decide), cS_n _ (by decide)]
          have w119 : ∀ j, c4.2.2.2.1 119 j = if j = t then nI 0 else c.2.2.2.1 119 j := fun j => by
            rw [r40, cS_n _ (by decide), cS_n _ (by decide), cS_4, if_pos rfl, cS_n _ (by decide)]
          have w117 : ∀ j, c4.2.2.2.1 117 j = if j = t then nI st else c.2.2.2.1 117 j := fun j => by
            rw [r40, cS_n _ (by decide), cS_n _ (by decide), cS_n _ (by decide), cS_4, if_pos rfl]
          have w12 : ∀ r, 122 ≤ r → c4.2.2.2.1 r = c.2.2.2.1 r := fun r hr => by
            rw [r40, cS_n _ (by omega), cS_n _ (by omega), cS_n _ (by omega), cS_n _ (by omega)]
          refine ⟨c4, fun i => if i = R then t else u i, R + 1, ?_, K4, ⟨by rw [e4, cI_1, if_pos rfl, if_pos rfl], by rw [e4, cI_1, if_pos rfl, if_neg (by decide)]; exact h2, fun i hi => ?_, inj', fun y hy => ?_, ?_⟩, by omega, fun i hi => if_neg (lo i hi), Or.inr (Or.inr (Or.inr ⟨R, by omega, if_pos rfl⟩)), w12 122 (by omega), w12 123 (by omega)⟩
          · simp (disch := omega) only [n_lit, n_of, n_o1, nI_add, pk_mul, nI_ltI, nI_leI, nI_eq, ↓lift_lt, ↓k_mt, ↓k_mp, if_true, if_false, Bool.false_eq_true, Nat.not_lt_zero, Nat.zero_le, Nat.reduceEqDiff, Nat.reduceLeDiff, Nat.reduceLT, dc, z1, z2, cA_g, l1, z3, c_isState ht, i1, m1, h2, nz, n_bl1, er]
          · show (if i = R then t else u i) < 10000 ∧ 0 < dg (if i = R then t else u i) p ∧ c4.2.2.2.1 118 i = nI (if i = R then t else u i) ∧ c4.2.2.2.1 119 (if i = R then t else u i) = nI 0
            rw [w118, w119]
            by_cases e : i = R
            · rw [if_pos e, if_pos e, if_pos rfl]
              exact ⟨by omega, by omega, rfl, rfl⟩
            · rw [if_neg e, if_neg e, if_neg (m2 i (by omega))]
              exact h3 i (by omega)
          · show (c4.2.2.2.1 117 y = nI st ∧ ∃ j, j < R + 1 ∧ (if j = R then t else u j) = y) ∨ ((∃ z, z < st ∧ c4.2.2.2.1 117 y = nI z) ∧ ∀ j, j < R + 1 → (if j = R then t else u j) ≠ y)
            rw [w117]
            by_cases e : y = t
            · rw [if_pos e]
              exact Or.inl ⟨rfl, R, by omega, by rw [if_pos rfl, e]⟩
            · rw [if_neg e]
              rcases h5 y hy with ⟨r1, i, r2, r3⟩ | ⟨r1, r2⟩
              · exact Or.inl ⟨r1, i, by omega, by rw [if_neg (lo i r2)]; exact r3⟩
              · refine Or.inr ⟨r1, fun i hi => ?_⟩
                by_cases zz : i = R
                · rw [if_pos zz]; exact fun q => e q.symm
                · rw [if_neg zz]; exact r2 i (by omega)
          · unfold LSx at *
            rw [w12 124 (by omega)]
            exact h6
/-- closed under years -/
def CLx (v : Cv) (ch p : Nat) (lst u : Nat → Nat) (R hd k : Nat) : Prop := ∀ i kk, i < R → kk < nL v → (i < hd ∨ (i = hd ∧ kk < k)) → Clx p lst u R (nxt v ch kk (u i)) ∧ Clx p lst u R (nxd v ch kk (u i))
theorem c_byTurns {B : Nat} (hp : p < 4) (hB : B < 2 ^ 30) (hs : s0 < 10000) (hg : 0 < dg s0 p) (b1 : c.2.2.1 116 1 = some a) (b2 : c.1 116 2 = nI ch) (b3 : CT h V c a ch) (b4 : c.1 116 4 = nI st) (b5 : st ≤ B) (b6 : ∀ i, i < 20000 → ∃ z, z ≤ st ∧ c.2.2.2.1 117 i = nI z) (hl : LSx c lst) :
    ∃ (c' : Ch) (u : Nat → Nat) (R : Nat), gX7_reachByTurns h c (nI s0) (nI p) = some c' ∧ KSx c h V a ch c' ∧ GVx p lst (st + 1) c' u (fun _ => 0) R ∧ 0 < R ∧ u 0 = s0 ∧ CLx (V a) ch p lst u R R 0 := by
  have hW := b3.2.2.1
  have hC := b3.2.1
  have hP := hW.1
  obtain ⟨hL0, hL⟩ := nL_b hW
  have hs2 : s0 < 20000 := by omega
  obtain ⟨c3, e3⟩ : ∃ c3, c3 = cI (cI (cI c 116 13 (nI 0)) 116 4 (nI (st + 1))) 116 12 (nI 0) := ⟨_, rfl⟩
  have v4 : c3.1 116 4 = nI (st + 1) := by rw [e3, cI_1, if_pos rfl, if_neg (by decide), cI_1, if_pos rfl, if_pos rfl]
  have v12 : c3.1 116 12 = nI 0 := by rw [e3, cI_1, if_pos rfl, if_pos rfl]
  have F3 : KSx c h V a ch c3 := by
    rw [e3]
    exact ⟨sfr_I (sfr_I (sfr_I (sfr_rfl c))), CT_116 (CT_116 (CT_116 b3)), b1, by rw [cI_1, if_pos rfl, if_neg (by decide), cI_1, if_pos rfl, if_neg (by decide), cI_1, if_pos rfl, if_neg (by decide)]; exact b2, by rw [cI_1, if_pos rfl, if_neg (by decide), cI_1, if_pos rfl, if_neg (by decide), cI_1, if_pos rfl, if_pos rfl]⟩
  have r3 : c3.2 = c.2 := by rw [e3]; rfl
  have ebg : gX7_begin h c = some c3 := by
    have w4 : (cI c 116 13 (nI 0)).1 116 4 = nI st := by rw [cI_1, if_pos rfl, if_neg (by decide)]; exact b4
    rw [e3]
    unfold gX7_begin
    simp (disch := omega) only [n_lit, n_of, n_o1, nI_add, pk_mul, nI_ltI, nI_leI, nI_eq, ↓lift_lt, ↓k_mt, ↓k_mp, if_true, if_false, Bool.false_eq_true, Nat.not_lt_zero, Nat.zero_le, Nat.reduceEqDiff, Nat.reduceLeDiff, Nat.reduceLT, w4]
  have er := c_reach (h := h) (c := c3) (link := nI 0) hs2 v12 (by decide)
  rw [v4] at er
  obtain ⟨c4, e4⟩ : ∃ c4, c4 = cI (cS (cS (cS (cS c3 117 s0 (nI (st + 1))) 119 s0 (nI 0)) 120 s0 (nI 0)) 118 0 (nI s0)) 116 12 (nI (0 + 1)) := ⟨_, rfl⟩
  rw [← e4] at er
  have F4 : KSx c h V a ch c4 := by rw [e4]; exact KSx_12 (KSx_S (KSx_S (KSx_S (KSx_S F3 (by omega)) (by omega)) (by omega)) (by omega))
  have r40 : ∀ z, c4.2.2.2.1 z = (cS (cS (cS (cS c3 117 s0 (nI (st + 1))) 119 s0 (nI 0)) 120 s0 (nI 0)) 118 0 (nI s0)).2.2.2.1 z := fun z => by rw [e4]; rfl
  have G4 : GVx p lst (st + 1) c4 (fun _ => s0) (fun _ => 0) 1 := by
    refine ⟨by rw [e4, cI_1, if_pos rfl, if_pos rfl], by rw [e4, cI_1, if_pos rfl, if_neg (by decide)]; exact v4, fun i hi => ⟨hs, hg, ?_, ?_⟩, fun i j h1 h2 => by omega, fun y hy => ?_, fun g hg' => ?_⟩
    · rw [r40, cS_4, if_pos rfl, if_pos (by omega)]
    · rw [r40, cS_n _ (by decide), cS_n _ (by decide), cS_4, if_pos rfl, if_pos rfl]
    · rw [r40, cS_n _ (by decide), cS_n _ (by decide), cS_n _ (by decide), cS_4, if_pos rfl]
      by_cases z : y = s0
      · rw [if_pos z]; exact Or.inl ⟨rfl, 0, by decide, z.symm⟩
      · rw [if_neg z, r3]
        obtain ⟨w, w1, w2⟩ := b6 y hy
        exact Or.inr ⟨⟨w, by omega, w2⟩, fun i _ q => z q.symm⟩
    · rw [r40, cS_n _ (by decide), cS_n _ (by decide), cS_n _ (by decide), cS_n _ (by decide), r3]
      exact hl g hg'
  have J := lpw_inv (body := fun z : Int32 × Ch => gX7_reachByTurns_12b h z.2 (nI p) z.1)
    (fun hd z => z.1 = nI hd ∧ KSx c h V a ch z.2 ∧ ∃ (u : Nat → Nat) (R : Nat), GVx p lst (st + 1) z.2 u (fun _ => 0) R ∧ 0 < R ∧ u 0 = s0 ∧ CLx (V a) ch p lst u R hd 0 ∧ hd ≤ R)
    (fun c' => KSx c h V a ch c' ∧ ∃ (u : Nat → Nat) (R : Nat), GVx p lst (st + 1) c' u (fun _ => 0) R ∧ 0 < R ∧ u 0 = s0 ∧ CLx (V a) ch p lst u R R 0) 10000 ?_ ?_ (nI 0, c4) ⟨rfl, F4, _, 1, G4, by decide, rfl, fun i kk h1 h2 h3 => by omega, Nat.zero_le _⟩
  · obtain ⟨c', e, a1, u, R, a2, a3, a4, a5⟩ := J
    have e : gX7_reachByTurns_12 h c4 (nI p) (nI 0) = some c' := e
    refine ⟨c', u, R, ?_, a1, a2, a3, a4, a5⟩
    unfold gX7_reachByTurns
    simp (disch := omega) only [n_lit, n_of, n_o1, nI_add, pk_mul, nI_ltI, nI_leI, nI_eq, ↓lift_lt, ↓k_mt, ↓k_mp, if_true, if_false, Bool.false_eq_true, Nat.not_lt_zero, Nat.zero_le, Nat.reduceEqDiff, Nat.reduceLeDiff, Nat.reduceLT, ebg, er, e]
  · rintro hd ⟨z1, z2⟩ hk ⟨g1, g2o, u, R, g3o, g4, g5, g6, g7⟩
    have g1 : z1 = nI hd := g1
    subst g1
    have g2 : KSx c h V a ch z2 := g2o
    have g3 : GVx p lst (st + 1) z2 u (fun _ => 0) R := g3o
    have x12 := g3.1
    have Rb := GVx_R g3
    have hd2 : ¬ 20000 ≤ hd := by omega
    show (∃ s', gX7_reachByTurns_12b h z2 (nI p) (nI hd) = some (.inl s') ∧ _) ∨ (∃ r, gX7_reachByTurns_12b h z2 (nI p) (nI hd) = some (.inr r) ∧ _)
    by_cases zn : R ≤ hd
    · have e : hd = R := by omega
      subst e
      refine Or.inr ⟨z2, ?_, g2, u, hd, g3, g4, g5, g6⟩
      unfold gX7_reachByTurns_12b gX7_reachByTurns_115
      simp (disch := omega) only [n_lit, n_of, n_o1, nI_add, pk_mul, nI_ltI, nI_leI, nI_eq, ↓lift_lt, ↓k_mt, ↓k_mp, if_true, if_false, Bool.false_eq_true, Nat.not_lt_zero, Nat.zero_le, Nat.reduceEqDiff, Nat.reduceLeDiff, Nat.reduceLT, x12, Nat.le_refl, Option.map_some]
    · have hh : hd < R := by omega
      obtain ⟨o1, o2, o3, o4⟩ := g3.2.2.1 hd hh
      obtain ⟨c5, e5, T5, f5, r5⟩ := c_spreadv (w := 0) (dry := 0) g2.2.1 o1 (by decide)
      have f5w : cfr Aw z2 c5 := cfr_le f5 (fun r hr => Av_Aw hr)
      have K5 := KSx_w g2 T5 f5w
      have V5 : GVx p lst (st + 1) c5 u (fun _ => 0) R := GVx_w f5w g3
      have q5 := (V5.2.2.1 hd hh).2.2.1
      obtain ⟨c6, e6, T6, f6, r6⟩ := c_spreadv (w := 1) (dry := 1) K5.2.1 o1 (by decide)
      have f6w : cfr Aw c5 c6 := cfr_le f6 (fun r hr => Av_Aw hr)
      have K6 := KSx_w K5 T6 f6w
      have V6 : GVx p lst (st + 1) c6 u (fun _ => 0) R := GVx_w f6w V5
      have w22 : ∀ i, i < nL (V a) → c6.2.2.2.1 122 i = nI (nxt (V a) ch i (u hd)) := fun i hi => by
        rw [f6.2.2.2.1 122 rfl]
        exact r5 i hi
      have w23 : ∀ i, i < nL (V a) → c6.2.2.2.1 123 i = nI (nxd (V a) ch i (u hd)) := r6
      obtain ⟨sH, esH⟩ : ∃ sH, sH = u hd := ⟨_, rfl⟩
      rw [← esH] at w22 w23 o1
      have In := lpw_all (body := fun z : Int32 × Ch => gX7_reachByTurns_66b h z.2 (nI p) (nI hd) z.1)
        (fun k z => z.1 = nI k ∧ KSx c h V a ch z.2 ∧ (∀ i, i < nL (V a) → z.2.2.2.2.1 122 i = nI (nxt (V a) ch i sH)) ∧ (∀ i, i < nL (V a) → z.2.2.2.2.1 123 i = nI (nxd (V a) ch i sH)) ∧ ∃ (u : Nat → Nat) (R : Nat), GVx p lst (st + 1) z.2 u (fun _ => 0) R ∧ 0 < R ∧ u 0 = s0 ∧ CLx (V a) ch p lst u R hd k ∧ hd < R ∧ u hd = sH)
        (fun y => ∃ (c' : Ch) (u : Nat → Nat) (R : Nat), y = .inl (nI (hd + 1), c') ∧ KSx c h V a ch c' ∧ GVx p lst (st + 1) c' u (fun _ => 0) R ∧ 0 < R ∧ u 0 = s0 ∧ CLx (V a) ch p lst u R (hd + 1) 0 ∧ hd < R) (nL (V a)) ?_ ?_ (nI 0, c6) ⟨rfl, K6, w22, w23, u, R, V6, g4, g5, g6, hh, esH.symm⟩
      · obtain ⟨y, ey, c', u', R', e2, a1, a2, a3, a4, a5, a6⟩ := In
        subst e2
        have ey : gX7_reachByTurns_66 h c6 (nI p) (nI hd) (nI 0) = some (.inl (nI (hd + 1), c')) := ey
        refine Or.inl ⟨(nI (hd + 1), c'), ?_, rfl, a1, u', R', a2, a3, a4, a5, by omega⟩
        unfold gX7_reachByTurns_12b
        simp (disch := omega) only [n_lit, n_of, n_o1, nI_add, pk_mul, nI_ltI, nI_leI, nI_eq, ↓lift_lt, ↓k_mt, ↓k_mp, if_true, if_false, Bool.false_eq_true, Nat.not_lt_zero, Nat.zero_le, Nat.reduceEqDiff, Nat.reduceLeDiff, Nat.reduceLT, x12, zn, hd2, cA_g, o3, e5, q5, e6, ey]
      · rintro k ⟨y1, y2⟩ hk' ⟨m1, m2o, m3o, m4o, u, R, m5o, m6, m7, m8, m9, m10⟩
        have m1 : y1 = nI k := m1
        subst m1
        have m2 : KSx c h V a ch y2 := m2o
        have m3 : ∀ i, i < nL (V a) → y2.2.2.2.1 122 i = nI (nxt (V a) ch i sH) := m3o
        have m4 : ∀ i, i < nL (V a) → y2.2.2.2.1 123 i = nI (nxd (V a) ch i sH) := m4o
        have m5 : GVx p lst (st + 1) y2 u (fun _ => 0) R := m5o
        have t1 : nxt (V a) ch k sH < 20000 := Yr_lt hP (by omega) _ _ _
        have t2 : nxd (V a) ch k sH < 20000 := Yr_lt hP (by omega) _ _ _
        obtain ⟨c7, u7, R7, d1, d2, d3, d4, d5, d6, d7, d8⟩ := c_reachOpen hp (by omega) t1 m2 m5
        obtain ⟨c8, u8, R8, f1, f2, f3, f4, f5', f6', f7, f8⟩ := c_reachOpen hp (by omega) t2 d2 d3
        obtain ⟨la, l1, l2, -⟩ := cv_la hW m2.2.1.2.1
        have k1 : ¬ nL (V a) ≤ k := by omega
        have m3k := m3 k hk'
        have m4k : c7.2.2.2.1 123 k = nI (nxd (V a) ch k sH) := by rw [d8]; exact m4 k hk'
        have up : ∀ i, i < R → u8 i = u i := fun i hi => by rw [f5' i (by omega), d5 i hi]
        show ∃ s', gX7_reachByTurns_66b h y2 (nI p) (nI hd) (nI k) = some (.inl s') ∧ _
        refine ⟨(nI (k + 1), c8), ?_, rfl, f2, by rw [f7, d7]; exact m3, by rw [f8, d8]; exact m4, u8, R8, f3, by omega, by rw [up 0 m6]; exact m7, fun i kk hi hkk hc => ?_, by omega, by rw [up hd m9]; exact m10⟩
        · unfold gX7_reachByTurns_66b
          simp (disch := omega) only [n_lit, n_of, n_o1, nI_add, pk_mul, nI_ltI, nI_leI, nI_eq, ↓lift_lt, ↓k_mt, ↓k_mp, if_true, if_false, Bool.false_eq_true, Nat.not_lt_zero, Nat.zero_le, Nat.reduceEqDiff, Nat.reduceLeDiff, Nat.reduceLT, m2.2.2.1, l1, l2, k1, cA_g, m3k, d1, m4k, f1]
        · have hiR : i < R := by omega
          rw [up i hiR]
          by_cases z : i = hd ∧ kk = k
          · obtain ⟨rfl, rfl⟩ := z
            rw [m10]
            exact ⟨Clx_up d6 f4 f5', f6'⟩
          · have q := m8 i kk hiR hkk (by omega)
            exact ⟨Clx_up q.1 (by omega) up, Clx_up q.2 (by omega) up⟩
      · rintro ⟨y1, y2⟩ ⟨m1, m2o, m3o, m4o, u, R, m5, m6, m7, m8, m9, m10⟩
        have m1 : y1 = nI (nL (V a)) := m1
        subst m1
        have m2 : KSx c h V a ch y2 := m2o
        obtain ⟨la, l1, l2, -⟩ := cv_la hW m2.2.1.2.1
        show ∃ r, gX7_reachByTurns_66b h y2 (nI p) (nI hd) (nI (nL (V a))) = some (.inr r) ∧ _
        refine ⟨.inl (nI (hd + 1), y2), ?_, y2, u, R, rfl, m2, m5, m6, m7, fun i kk hi hkk hc => m8 i kk hi hkk (by omega), m9⟩
        unfold gX7_reachByTurns_66b gX7_reachByTurns_109
        simp (disch := omega) only [n_lit, n_of, n_o1, nI_add, pk_mul, nI_ltI, nI_leI, nI_eq, ↓lift_lt, ↓k_mt, ↓k_mp, if_true, if_false, Bool.false_eq_true, Nat.not_lt_zero, Nat.zero_le, Nat.reduceEqDiff, Nat.reduceLeDiff, Nat.reduceLT, m2.2.2.1, l1, l2, Nat.le_refl, Option.map_some]
  · rintro ⟨z1, z2⟩ ⟨g1, g2, u, R, g3o, g4, g5, g6, g7⟩
    have g1 : z1 = nI 10000 := g1
    subst g1
    have g3 : GVx p lst (st + 1) z2 u (fun _ => 0) R := g3o
    have Rb := GVx_R g3
    have e : R = 10000 := by omega
    subst e
    have x12 := g3.1
    show ∃ r, gX7_reachByTurns_12b h z2 (nI p) (nI 10000) = some (.inr r) ∧ _
    refine ⟨z2, ?_, g2, u, 10000, g3, g4, g5, g6⟩
    unfold gX7_reachByTurns_12b gX7_reachByTurns_115
    simp (disch := omega) only [n_lit, n_of, n_o1, nI_add, pk_mul, nI_ltI, nI_leI, nI_eq, ↓lift_lt, ↓k_mt, ↓k_mp, if_true, if_false, Bool.false_eq_true, Nat.not_lt_zero, Nat.zero_le, Nat.reduceEqDiff, Nat.reduceLeDiff, Nat.reduceLT, x12, Nat.le_refl, Option.map_some]
/-- what the links tell: who is forced within e years -/
def LKx (v : Cv) (ch p : Nat) (u lk : Nat → Nat) (R e : Nat) : Prop := ∀ j, j < R → (lk j ≤ 20001 ∧ ((¬ lk j = 0 ∧ lk j ≤ e) ↔ Fcd (nxt v ch) (nxd v ch) (nL v) (fun t => dg t p) e (u j)))
theorem c_isForced {t e : Nat} (hP : vP (V a) ≤ 4) (hp : p < vP (V a)) (hst : st < 2 ^ 31) (he : e < 2 ^ 31) (ht : t < 20000) (H : GVx p lst st c u lk R) (hA : ∀ n g, g < 10 → Agm (V a) ch p n g → lst g ≤ n ∧ lst g < 20000) (hK : LKx (V a) ch p u lk R e) (hC : Clx p lst u R t) :
    gX7_isForced h c (nI t) (nI p) (nI e) = some (nI (ib (Fcd (nxt (V a) ch) (nxd (V a) ch) (nL (V a)) (fun t => dg t p) e t))) := by
  obtain ⟨h1, h2, h3, h4, h5, h6⟩ := H
  have dc := c_digit (s := t) (p := p) (by omega) (by omega)
  have dl := dg_lt t p
  have i1 : ¬ (1 = 0) := by decide
  unfold gX7_isForced gX7_isForced_41 gX7_isForced_42 gX7_isForced_72 gX7_isForced_73
  by_cases z0 : dg t p = 0
  · rw [ib_t (Fcd_0 (gp := fun t => dg t p) z0 e)]
    simp (disch := omega) only [n_lit, n_of, n_o1, nI_add, pk_mul, nI_ltI, nI_leI, nI_eq, ↓lift_lt, ↓k_mt, ↓k_mp, if_true, if_false, Bool.false_eq_true, Nat.not_lt_zero, Nat.zero_le, Nat.reduceEqDiff, Nat.reduceLeDiff, Nat.reduceLT, dc, eq_true z0]
  · by_cases z1 : 10000 ≤ t
    · rw [ib_f (fun w => z0 (Fcd_fall e t z1 w))]
      simp (disch := omega) only [n_lit, n_of, n_o1, nI_add, pk_mul, nI_ltI, nI_leI, nI_eq, ↓lift_lt, ↓k_mt, ↓k_mp, if_true, if_false, Bool.false_eq_true, Nat.not_lt_zero, Nat.zero_le, Nat.reduceEqDiff, Nat.reduceLeDiff, Nat.reduceLT, dc, z0, c_isState ht, i1, z1, n_bl0]
    · rcases h5 t ht with ⟨m1, j, j1, j2⟩ | ⟨⟨z, z4, m1⟩, m2⟩
      · obtain ⟨kb, kk⟩ := hK j j1
        have l119 := (h3 j j1).2.2.2
        rw [j2] at l119 kk
        by_cases y0 : lk j = 0
        · rw [ib_f (fun w => (kk.mpr w).1 y0)]
          simp (disch := omega) only [n_lit, n_of, n_o1, nI_add, pk_mul, nI_ltI, nI_leI, nI_eq, ↓lift_lt, ↓k_mt, ↓k_mp, if_true, if_false, Bool.false_eq_true, Nat.not_lt_zero, Nat.zero_le, Nat.reduceEqDiff, Nat.reduceLeDiff, Nat.reduceLT, dc, z0, c_isState ht, i1, z1, cA_g, m1, h2, l119, eq_true y0, n_bl0]
        · by_cases y1 : e < lk j
          · rw [ib_f (fun w => by have := (kk.mpr w).2; omega)]
            simp (disch := omega) only [n_lit, n_of, n_o1, nI_add, pk_mul, nI_ltI, nI_leI, nI_eq, ↓lift_lt, ↓k_mt, ↓k_mp, if_true, if_false, Bool.false_eq_true, Nat.not_lt_zero, Nat.zero_le, Nat.reduceEqDiff, Nat.reduceLeDiff, Nat.reduceLT, dc, z0, c_isState ht, i1, z1, cA_g, m1, h2, l119, y0, y1, n_bl0]
          · rw [ib_t (kk.mp ⟨y0, by omega⟩)]
            simp (disch := omega) only [n_lit, n_of, n_o1, nI_add, pk_mul, nI_ltI, nI_leI, nI_eq, ↓lift_lt, ↓k_mt, ↓k_mp, if_true, if_false, Bool.false_eq_true, Nat.not_lt_zero, Nat.zero_le, Nat.reduceEqDiff, Nat.reduceLeDiff, Nat.reduceLT, dc, z0, c_isState ht, i1, z1, cA_g, m1, h2, l119, y0, y1, n_bl1]
      · have nz : ¬ z = st := by omega
        have no : ¬ Fcd (nxt (V a) ch) (nxd (V a) ch) (nL (V a)) (fun t => dg t p) e t := fun w => by
          rcases hC with q | q | q | ⟨j, j1, j2⟩
          · exact z1 q
          · exact z0 q
          · have := (hA e _ dl (Fc_Ag hP hp e t w)).2
            omega
          · exact m2 j j1 j2
        rw [ib_f no]
        simp (disch := omega) only [n_lit, n_of, n_o1, nI_add, pk_mul, nI_ltI, nI_leI, nI_eq, ↓lift_lt, ↓k_mt, ↓k_mp, if_true, if_false, Bool.false_eq_true, Nat.not_lt_zero, Nat.zero_le, Nat.reduceEqDiff, Nat.reduceLeDiff, Nat.reduceLT, dc, z0, c_isState ht, i1, z1, cA_g, m1, h2, nz, n_bl0]
/-- by this leading it is forced within a year more -/
def FBx (v : Cv) (ch p e k t : Nat) : Prop := Fcd (nxt v ch) (nxd v ch) (nL v) (fun t => dg t p) e (nxt v ch k t) ∧ Fcd (nxt v ch) (nxd v ch) (nL v) (fun t => dg t p) e (nxd v ch k t)
theorem c_forcing {s e : Nat} (hp : p < vP (V a)) (hst : st < 2 ^ 31) (he : e < 2 ^ 31) (hs : s < 10000) (h1 : c.2.2.1 116 1 = some a) (hT : CT h V c a ch) (H : GVx p lst st c u lk R) (hA : ∀ n g, g < 10 → Agm (V a) ch p n g → lst g ≤ n ∧ lst g < 20000) (hK : LKx (V a) ch p u lk R e) (hC : ∀ k, k < nL (V a) → Clx p lst u R (nxt (V a) ch k s) ∧ Clx p lst u R (nxd (V a) ch k s)) :
    ∃ (y : Int32) (c' : Ch), gX7_forcingLeading h c (nI s) (nI p) (nI e) = some (y, c') ∧ CT h V c' a ch ∧ cfr Aw c c' ∧ ((∃ k, k < nL (V a) ∧ FBx (V a) ch p e k s ∧ (∀ k', k' < k → ¬ FBx (V a) ch p e k' s) ∧ y = nI (ld (V a) k)) ∨ ((∀ k, k < nL (V a) → ¬ FBx (V a) ch p e k s) ∧ y = -nI 1)) := by
  have hW := hT.2.2.1
  have hP := hW.1
  obtain ⟨hL0, hL⟩ := nL_b hW
  obtain ⟨c5, e5, T5, f5, r5⟩ := c_spreadv (w := 0) (dry := 0) hT hs (by decide)
  have f5w : cfr Aw c c5 := cfr_le f5 (fun r hr => Av_Aw hr)
  obtain ⟨c6, e6, T6, f6, r6⟩ := c_spreadv (w := 1) (dry := 1) T5 hs (by decide)
  have f6w : cfr Aw c5 c6 := cfr_le f6 (fun r hr => Av_Aw hr)
  have V6 : GVx p lst st c6 u lk R := GVx_w f6w (GVx_w f5w H)
  have w22 : ∀ i, i < nL (V a) → c6.2.2.2.1 122 i = nI (nxt (V a) ch i s) := fun i hi => by
    rw [f6.2.2.2.1 122 rfl]
    exact r5 i hi
  have w23 : ∀ i, i < nL (V a) → c6.2.2.2.1 123 i = nI (nxd (V a) ch i s) := r6
  have s6 : c6.2.2.1 116 1 = some a := by rw [f6.2.2.1, f5.2.2.1]; exact h1
  obtain ⟨la, l1, l2, l3⟩ := cv_la hW hT.2.1
  have J := lpw_inv (body := fun z : Int32 => gX7_forcingLeading_29b h c6 (nI p) (nI e) z)
    (fun k z => z = nI k ∧ ∀ k', k' < k → ¬ FBx (V a) ch p e k' s)
    (fun r => ∃ y, r = (y, c6) ∧ ((∃ k, k < nL (V a) ∧ FBx (V a) ch p e k s ∧ (∀ k', k' < k → ¬ FBx (V a) ch p e k' s) ∧ y = nI (ld (V a) k)) ∨ ((∀ k, k < nL (V a) → ¬ FBx (V a) ch p e k s) ∧ y = -nI 1))) (nL (V a)) ?_ ?_ (nI 0) ⟨rfl, fun k' h0 => by omega⟩
  · obtain ⟨r, er, y, e2, rest⟩ := J
    subst e2
    have er : gX7_forcingLeading_29 h c6 (nI p) (nI e) (nI 0) = some (y, c6) := er
    refine ⟨y, c6, ?_, T6, cfr_tr f5w f6w, rest⟩
    unfold gX7_forcingLeading
    simp (disch := omega) only [n_lit, n_of, n_o1, nI_add, pk_mul, nI_ltI, nI_leI, nI_eq, ↓lift_lt, ↓k_mt, ↓k_mp, if_true, if_false, Bool.false_eq_true, Nat.not_lt_zero, Nat.zero_le, Nat.reduceEqDiff, Nat.reduceLeDiff, Nat.reduceLT, e5, e6, er]
  · rintro k z hk ⟨g1, g2⟩
    subst g1
    have t1 : nxt (V a) ch k s < 20000 := Yr_lt hP (by omega) _ _ _
    have t2 : nxd (V a) ch k s < 20000 := Yr_lt hP (by omega) _ _ _
    have q1 := c_isForced (h := h) hP hp hst he t1 V6 hA hK (hC k hk).1
    have q2 := c_isForced (h := h) hP hp hst he t2 V6 hA hK (hC k hk).2
    have k1 : ¬ nL (V a) ≤ k := by omega
    have i1 : ¬ (1 = 0) := by decide
    have w22k := w22 k hk
    have w23k := w23 k hk
    have next : ¬ FBx (V a) ch p e k s → ∀ k', k' < k + 1 → ¬ FBx (V a) ch p e k' s := fun hn k' hk' => by
      by_cases z : k' = k
      · subst z; exact hn
      · exact g2 k' (by omega)
    unfold gX7_forcingLeading_29b gX7_forcingLeading_85 gX7_forcingLeading_74
    by_cases z1 : Fcd (nxt (V a) ch) (nxd (V a) ch) (nL (V a)) (fun t => dg t p) e (nxt (V a) ch k s)
    · rw [ib_t z1] at q1
      by_cases z2 : Fcd (nxt (V a) ch) (nxd (V a) ch) (nL (V a)) (fun t => dg t p) e (nxd (V a) ch k s)
      · rw [ib_t z2] at q2
        refine Or.inr ⟨(nI (ld (V a) k), c6), ?_, nI (ld (V a) k), rfl, Or.inl ⟨k, hk, ⟨z1, z2⟩, g2, rfl⟩⟩
        simp (disch := omega) only [n_lit, n_of, n_o1, nI_add, pk_mul, nI_ltI, nI_leI, nI_eq, ↓lift_lt, ↓k_mt, ↓k_mp, if_true, if_false, Bool.false_eq_true, Nat.not_lt_zero, Nat.zero_le, Nat.reduceEqDiff, Nat.reduceLeDiff, Nat.reduceLT, s6, l1, l2, k1, cA_g, w22k, q1, i1, w23k, q2, l3 c6 k hk, Option.map_some]
      · rw [ib_f z2] at q2
        refine Or.inl ⟨nI (k + 1), ?_, rfl, next (fun w => z2 w.2)⟩
        simp (disch := omega) only [n_lit, n_of, n_o1, nI_add, pk_mul, nI_ltI, nI_leI, nI_eq, ↓lift_lt, ↓k_mt, ↓k_mp, if_true, if_false, Bool.false_eq_true, Nat.not_lt_zero, Nat.zero_le, Nat.reduceEqDiff, Nat.reduceLeDiff, Nat.reduceLT, s6, l1, l2, k1, cA_g, w22k, q1, i1, w23k, q2]
    · rw [ib_f z1] at q1
      refine Or.inl ⟨nI (k + 1), ?_, rfl, next (fun w => z1 w.1)⟩
      simp (disch := omega) only [n_lit, n_of, n_o1, nI_add, pk_mul, nI_ltI, nI_leI, nI_eq, ↓lift_lt, ↓k_mt, ↓k_mp, if_true, if_false, Bool.false_eq_true, Nat.not_lt_zero, Nat.zero_le, Nat.reduceEqDiff, Nat.reduceLeDiff, Nat.reduceLT, s6, l1, l2, k1, cA_g, w22k, q1]
  · rintro z ⟨g1, g2⟩
    subst g1
    refine ⟨(-nI 1, c6), ?_, -nI 1, rfl, Or.inr ⟨g2, rfl⟩⟩
    unfold gX7_forcingLeading_29b
    simp (disch := omega) only [n_lit, n_of, n_o1, nI_add, pk_mul, nI_ltI, nI_leI, nI_eq, ↓lift_lt, ↓k_mt, ↓k_mp, if_true, if_false, Bool.false_eq_true, Nat.not_lt_zero, Nat.zero_le, Nat.reduceEqDiff, Nat.reduceLeDiff, Nat.reduceLT, s6, l1, l2, Nat.le_refl]
end GMC
