/-! the class: how long the roof can be held -/
section HOLDC
variable {c0 c : Ch} {h : Hp} {V : Nat → Cv} {a ch s0 st : Nat} {q0 D0 W0 p l : Nat → Nat} {n0 r hd k : Nat}
/-- the rows of the search hold it -/
def KVx (v : Cv) (ch : Nat) (q0 : Nat → Nat) (n0 st : Nat) (c : Ch) (p l : Nat → Nat) (r hd k : Nat) : Prop :=
  c.1 116 12 = nI r ∧ c.1 116 4 = nI st ∧ (∀ i, i < r → c.2.2.2.1 118 i = nI (p i) ∧ c.2.2.2.1 119 (p i) = nI (l i) ∧ l i ≤ i) ∧
  (∀ j, j < n0 → c.2.2.2.1 120 (q0 j) = nI (entA (nxt v ch) (nL v) q0 n0 (q0 j) - entr (nxt v ch) (nL v) p hd k (q0 j))) ∧ (∀ i, i < 20000 → ∃ z, z ≤ st ∧ c.2.2.2.1 117 i = nI z)
theorem KVx_w {v : Cv} {c' : Ch} (f : cfr Aw c c') (H : KVx v ch q0 n0 st c p l r hd k) : KVx v ch q0 n0 st c' p l r hd k := by
  unfold KVx at *
  rw [f.1, f.2.2.2.1 117 rfl, f.2.2.2.1 118 rfl, f.2.2.2.1 119 rfl, f.2.2.2.1 120 rfl]
  exact H
theorem ent_b (v : Cv) (hL : nL v ≤ 35) (hn : n0 ≤ 20000) (t : Nat) : entA (nxt v ch) (nL v) q0 n0 t ≤ 700000 := by
  have h1 : csum (fun i => ecn (nxt v ch) (nL v) (q0 i) t) n0 ≤ n0 * 35 := csum_bm (fun i => Nat.le_trans (ecn_b (nxt v ch) (nL v) (q0 i) t) hL) n0
  unfold entA
  omega
theorem KHx_r (H : KHx (nxt (V a) ch) (nL (V a)) s0 q0 n0 p l r hd k) : r ≤ 10000 := inj_le (f := p) (fun i j a b => H.2.2.2.1 i j a b) (fun i hi => (H.2.2.2.2.1 i hi).1)
theorem hk_turn {x2 : Int32} (hn0 : n0 ≤ 20000) (hst : st < 2 ^ 31) (F : FUL (nxt (V a) ch) (nL (V a)) s0 q0 D0 W0 n0) (K : KSx c0 h V a ch c) (H : KHx (nxt (V a) ch) (nL (V a)) s0 q0 n0 p l r hd k) (R : KVx (V a) ch q0 n0 st c p l r hd k) (hh : hd < r) (hk : k < nL (V a)) (h22 : ∀ i, i < nL (V a) → c.2.2.2.1 122 i = nI (nxt (V a) ch i (p hd))) :
    ∃ c' p' l' r', gX7_longestHold_121b h c x2 (nI (l hd)) (nI hd) (nI k) = some (.inl (nI (k + 1), c')) ∧ KSx c0 h V a ch c' ∧ KHx (nxt (V a) ch) (nL (V a)) s0 q0 n0 p' l' r' hd (k + 1) ∧ KVx (V a) ch q0 n0 st c' p' l' r' hd (k + 1) ∧ hd < r' ∧ p' hd = p hd ∧ l' hd = l hd ∧ ∀ i, i < nL (V a) → c'.2.2.2.1 122 i = nI (nxt (V a) ch i (p hd)) := by
  have hW := K.2.1.2.2.1
  obtain ⟨hL0, hL⟩ := nL_b hW
  obtain ⟨la, l1, l2, -⟩ := cv_la hW K.2.1.2.1
  have rb := KHx_r H
  have ne := KH_ne F H hh hk
  obtain ⟨r1, r2, r3, r4, r5⟩ := R
  have ld := (r3 hd hh).2.2
  obtain ⟨f1, j', j1', j2'⟩ := H.2.2.2.2.1 hd hh
  obtain ⟨jt, jt1, jt2, -⟩ := F.1.2.2.2.2.2.2.1 j' k j1' hk (Or.inl j1') (by omega)
  rw [j2'] at jt2
  have h22k := h22 k hk
  have le := ent_le F H hh (k' := k + 1) (by omega) (nxt (V a) ch k (p hd))
  have ek : ∀ t, entr (nxt (V a) ch) (nL (V a)) p hd (k + 1) t = entr (nxt (V a) ch) (nL (V a)) p hd k t + (if nxt (V a) ch k (p hd) = t then 1 else 0) := fun t => entr_k f1
  have eb := ent_b (ch := ch) (q0 := q0) (V a) hL hn0 (nxt (V a) ch k (p hd))
  have nw := fun (ht : nxt (V a) ch k (p hd) < 10000) e => KH_new F H hh hk ht e
  have od := fun ht => KH_old F H hh hk ht
  have t1 : nxt (V a) ch k (p hd) < 20000 := by rw [← jt2]; exact F.2.1 jt jt1
  have v120 := r4 jt jt1
  rw [jt2] at v120
  have ekt := ek (nxt (V a) ch k (p hd))
  rw [if_pos rfl] at ekt
  obtain ⟨t, et⟩ : ∃ t, t = nxt (V a) ch k (p hd) := ⟨_, rfl⟩
  rw [← et] at ne jt2 le eb t1 v120 ekt nw od h22k
  obtain ⟨E, eE⟩ : ∃ E, E = entA (nxt (V a) ch) (nL (V a)) q0 n0 t := ⟨_, rfl⟩
  obtain ⟨X, eX⟩ : ∃ X, X = entr (nxt (V a) ch) (nL (V a)) p hd k t := ⟨_, rfl⟩
  have nw := nw
  rw [← eE, ← eX] at v120
  rw [← eE] at le eb
  rw [← eX] at ekt
  have s1 : nI (E - X) - nI 1 = nI (E - (X + 1)) := by rw [pk_sub (by omega), Nat.sub_sub]
  obtain ⟨c3, e3⟩ : ∃ c3, c3 = cS c 120 t (nI (E - (X + 1))) := ⟨_, rfl⟩
  have K3 : KSx c0 h V a ch c3 := by rw [e3]; exact KSx_S K (by omega)
  have ew : cWA c 0 120 20000 (nI t) (nI (E - (X + 1))) = some c3 := by rw [e3]; exact cW0_g c _ t1 (by decide)
  have o3 : ∀ z, ¬ z = 120 → c3.2.2.2.1 z = c.2.2.2.1 z := fun z hz => by rw [e3]; exact cS_n _ hz
  have c31 : c3.1 = c.1 := by rw [e3]; rfl
  have a3 : c3.2.2.2.1 120 t = nI (E - (X + 1)) := by rw [e3, cS_4, if_pos rfl, if_pos rfl]
  have row3 : ∀ j, j < n0 → c3.2.2.2.1 120 (q0 j) = nI (entA (nxt (V a) ch) (nL (V a)) q0 n0 (q0 j) - entr (nxt (V a) ch) (nL (V a)) p hd (k + 1) (q0 j)) := fun j hj => by
    rw [ek, ← et, e3, cS_4, if_pos rfl]
    by_cases z : q0 j = t
    · rw [if_pos z, if_pos z.symm, z, ← eE, ← eX]
    · rw [if_neg z, if_neg (fun w => z w.symm)]
      exact r4 j hj
  have k1 : ¬ nL (V a) ≤ k := by omega
  have i1 : ¬ (1 = 0) := by decide
  have b1 : gX7_longestHold_121b h c x2 (nI (l hd)) (nI hd) (nI k) = (gX7_leaveFor h c (nI t) (nI (l hd + 1))).bind fun y => some (.inl (nI (k + 1), y)) := by
    unfold gX7_longestHold_121b
    simp (disch := omega) only [n_lit, n_of, n_o1, nI_add, pk_mul, nI_ltI, nI_leI, nI_eq, ↓lift_lt, ↓k_mt, ↓k_mp, if_true, if_false, Bool.false_eq_true, Nat.not_lt_zero, Nat.zero_le, Nat.reduceEqDiff, Nat.reduceLeDiff, Nat.reduceLT, K.2.2.1, l1, l2, k1, cA_g, h22k]
  by_cases zf : 10000 ≤ t
  · refine ⟨c3, p, l, r, ?_, K3, od (Or.inl zf), ⟨by rw [c31]; exact r1, by rw [c31]; exact r2, by rw [o3 118 (by decide), o3 119 (by decide)]; exact r3, row3, by rw [o3 117 (by decide)]; exact r5⟩, hh, rfl, rfl, by rw [o3 122 (by decide)]; exact h22⟩
    rw [b1]
    unfold gX7_leaveFor gX7_leaveFor_39
    simp (disch := omega) only [n_lit, n_of, n_o1, nI_add, pk_mul, nI_ltI, nI_leI, nI_eq, ↓lift_lt, ↓k_mt, ↓k_mp, if_true, if_false, Bool.false_eq_true, Nat.not_lt_zero, Nat.zero_le, Nat.reduceEqDiff, Nat.reduceLeDiff, Nat.reduceLT, c_isState t1, i1, cA_g, v120, s1, ew, zf]
  · by_cases zz : E - (X + 1) = 0
    · have er := c_reach (h := h) (c := c3) (link := nI (l hd + 1)) t1 (by rw [c31]; exact r1) (show r < 20000 by omega)
      rw [c31, r2] at er
      obtain ⟨c4, e4⟩ : ∃ c4, c4 = cI (cS (cS (cS (cS c3 117 t (nI st)) 119 t (nI (l hd + 1))) 120 t (nI 0)) 118 r (nI t)) 116 12 (nI (r + 1)) := ⟨_, rfl⟩
      rw [← e4] at er
      have K4 : KSx c0 h V a ch c4 := by rw [e4]; exact KSx_12 (KSx_S (KSx_S (KSx_S (KSx_S K3 (by omega)) (by omega)) (by omega)) (by omega))
      have r40 : ∀ z, c4.2.2.2.1 z = (cS (cS (cS (cS c3 117 t (nI st)) 119 t (nI (l hd + 1))) 120 t (nI 0)) 118 r (nI t)).2.2.2.1 z := fun z => by rw [e4]; rfl
      have lo : ∀ i, i < r → ¬ i = r := fun i hi => by omega
      refine ⟨c4, _, _, r + 1, ?_, K4, nw (by omega) (by rw [ekt, ← eE]; omega), ⟨by rw [e4, cI_1, if_pos rfl, if_pos rfl], ?_, fun i hi => ?_, fun j hj => ?_, fun i hi => ?_⟩, by omega, if_neg (lo hd hh), if_neg (lo hd hh), fun i hi => ?_⟩
      · rw [b1]
        have zf' : ¬ 10000 ≤ t := zf
        unfold gX7_leaveFor gX7_leaveFor_39
        simp (disch := omega) only [n_lit, n_of, n_o1, nI_add, pk_mul, nI_ltI, nI_leI, nI_eq, ↓lift_lt, ↓k_mt, ↓k_mp, if_true, if_false, Bool.false_eq_true, Nat.not_lt_zero, Nat.zero_le, Nat.reduceEqDiff, Nat.reduceLeDiff, Nat.reduceLT, c_isState t1, i1, cA_g, v120, s1, ew, zf', a3, eq_true zz, er]
      · rw [e4, cI_1, if_pos rfl, if_neg (by decide)]
        show c3.1 116 4 = nI st
        rw [c31]; exact r2
      · show c4.2.2.2.1 118 i = nI (if i = r then t else p i) ∧ c4.2.2.2.1 119 (if i = r then t else p i) = nI (if i = r then l hd + 1 else l i) ∧ (if i = r then l hd + 1 else l i) ≤ i
        have w118 : ∀ j, c4.2.2.2.1 118 j = if j = r then nI t else c.2.2.2.1 118 j := fun j => by
          rw [r40, cS_4, if_pos rfl, cS_n _ (by decide), cS_n _ (by decide), cS_n _ (by decide), o3 118 (by decide)]
        have w119 : ∀ j, c4.2.2.2.1 119 j = if j = t then nI (l hd + 1) else c.2.2.2.1 119 j := fun j => by
          rw [r40, cS_n _ (by decide), cS_n _ (by decide), cS_4, if_pos rfl, cS_n _ (by decide), o3 119 (by decide)]
        rw [w118, w119]
        by_cases z : i = r
        · rw [if_pos z, if_pos z, if_pos z, if_pos rfl]
          exact ⟨rfl, rfl, by omega⟩
        · rw [if_neg z, if_neg z, if_neg z, if_neg (ne i (by omega))]
          exact r3 i (by omega)
      · rw [entr_p (p := p) (fun i hi => if_neg (lo i (by omega))), r40, cS_n _ (by decide), cS_4, if_pos rfl]
        by_cases z : q0 j = t
        · rw [if_pos z, z, ekt, ← eE, zz]
        · rw [if_neg z, cS_n _ (by decide), cS_n _ (by decide)]
          exact row3 j hj
      · rw [r40, cS_n _ (by decide), cS_n _ (by decide), cS_n _ (by decide), cS_4, if_pos rfl]
        by_cases z : i = t
        · rw [if_pos z]; exact ⟨st, Nat.le_refl _, rfl⟩
        · rw [if_neg z, o3 117 (by decide)]; exact r5 i hi
      · rw [r40, cS_n _ (by decide), cS_n _ (by decide), cS_n _ (by decide), cS_n _ (by decide), o3 122 (by decide)]
        exact h22 i hi
    · refine ⟨c3, p, l, r, ?_, K3, od (Or.inr (by rw [ekt, ← eE]; omega)), ⟨by rw [c31]; exact r1, by rw [c31]; exact r2, by rw [o3 118 (by decide), o3 119 (by decide)]; exact r3, row3, by rw [o3 117 (by decide)]; exact r5⟩, hh, rfl, rfl, by rw [o3 122 (by decide)]; exact h22⟩
      rw [b1]
      unfold gX7_leaveFor gX7_leaveFor_39
      simp (disch := omega) only [n_lit, n_of, n_o1, nI_add, pk_mul, nI_ltI, nI_leI, nI_eq, ↓lift_lt, ↓k_mt, ↓k_mp, if_true, if_false, Bool.false_eq_true, Nat.not_lt_zero, Nat.zero_le, Nat.reduceEqDiff, Nat.reduceLeDiff, Nat.reduceLT, c_isState t1, i1, cA_g, v120, s1, ew, zf, a3, zz]
theorem hk_outer {cnt : Nat} (hcn : cnt ≤ 20000) (hn0 : n0 ≤ 20000) (hst : st < 2 ^ 31) (F : FUL (nxt (V a) ch) (nL (V a)) s0 q0 D0 W0 n0) (K : KSx c0 h V a ch c) (H : KHx (nxt (V a) ch) (nL (V a)) s0 q0 n0 p l r 0 0) (R : KVx (V a) ch q0 n0 st c p l r 0 0) :
    ∃ c' p' l' r', gX7_longestHold_71 h c (nI cnt) (nI 0) (nI 0) = some (if cnt ≤ r' then nI (l' (r' - 1)) else -nI 1, c') ∧ KSx c0 h V a ch c' ∧ KHx (nxt (V a) ch) (nL (V a)) s0 q0 n0 p' l' r' r' 0 ∧ KVx (V a) ch q0 n0 st c' p' l' r' r' 0 := by
  have hW := K.2.1.2.2.1
  obtain ⟨hL0, hL⟩ := nL_b hW
  unfold gX7_longestHold_71
  have J := lpw_inv (body := fun z : Int32 × Int32 × Ch => gX7_longestHold_71b h z.2.2 (nI cnt) z.1 z.2.1)
    (fun hd z => ∃ p l r, z.1 = nI (l (hd - 1)) ∧ z.2.1 = nI hd ∧ KSx c0 h V a ch z.2.2 ∧ KHx (nxt (V a) ch) (nL (V a)) s0 q0 n0 p l r hd 0 ∧ KVx (V a) ch q0 n0 st z.2.2 p l r hd 0)
    (fun u => ∃ c' p' l' r', u = (if cnt ≤ r' then nI (l' (r' - 1)) else -nI 1, c') ∧ KSx c0 h V a ch c' ∧ KHx (nxt (V a) ch) (nL (V a)) s0 q0 n0 p' l' r' r' 0 ∧ KVx (V a) ch q0 n0 st c' p' l' r' r' 0) 10000 ?_ ?_ (nI 0, nI 0, c) ⟨p, l, r, by rw [H.2.2.1], rfl, K, H, R⟩
  · obtain ⟨u, e, c', p', l', r', e2, rest⟩ := J
    subst e2
    exact ⟨c', p', l', r', e, rest⟩
  · rintro hd ⟨z1, z2, z3⟩ hk ⟨p, l, r, g1, g2, g3, g4, g5⟩
    have g1 : z1 = nI (l (hd - 1)) := g1
    have g2 : z2 = nI hd := g2
    subst g1
    subst g2
    have g3 : KSx c0 h V a ch z3 := g3
    have g5 : KVx (V a) ch q0 n0 st z3 p l r hd 0 := g5
    have rb := KHx_r g4
    have hd2 : ¬ 20000 ≤ hd := by omega
    have x12 := g5.1
    show (∃ s', gX7_longestHold_71b h z3 (nI cnt) (nI (l (hd - 1))) (nI hd) = some (.inl s') ∧ _) ∨ (∃ u, gX7_longestHold_71b h z3 (nI cnt) (nI (l (hd - 1))) (nI hd) = some (.inr u) ∧ _)
    by_cases zn : r ≤ hd
    · have e : r = hd := by have := g4.2.2.2.2.2.1; omega
      subst e
      refine Or.inr ⟨(if cnt ≤ r then nI (l (r - 1)) else -nI 1, z3), ?_, z3, p, l, r, rfl, g3, g4, g5⟩
      unfold gX7_longestHold_71b gX7_longestHold_160 gX7_longestHold_173
      by_cases zc : cnt ≤ r
      · rw [if_pos zc]
        simp (disch := omega) only [n_lit, n_of, n_o1, nI_add, pk_mul, nI_ltI, nI_leI, nI_eq, ↓lift_lt, ↓k_mt, ↓k_mp, if_true, if_false, Bool.false_eq_true, Nat.not_lt_zero, Nat.zero_le, Nat.reduceEqDiff, Nat.reduceLeDiff, Nat.reduceLT, x12, Nat.le_refl, zc, Option.map_some]
      · rw [if_neg zc]
        simp (disch := omega) only [n_lit, n_of, n_o1, nI_add, pk_mul, nI_ltI, nI_leI, nI_eq, ↓lift_lt, ↓k_mt, ↓k_mp, if_true, if_false, Bool.false_eq_true, Nat.not_lt_zero, Nat.zero_le, Nat.reduceEqDiff, Nat.reduceLeDiff, Nat.reduceLT, x12, Nat.le_refl, zc, Option.map_some]
    · have hh : hd < r := by omega
      obtain ⟨o1, o2, o3⟩ := g5.2.2.1 hd hh
      have zf := (g4.2.2.2.2.1 hd hh).1
      obtain ⟨c5, e5, T5, f5, r5⟩ := c_spread (w := 0) (dry := 0) g3.2.1 zf (by decide)
      have F5 := KSx_w g3 T5 f5
      have R5 : KVx (V a) ch q0 n0 st c5 p l r hd 0 := KVx_w f5 g5
      obtain ⟨sH, esH⟩ : ∃ sH, sH = p hd := ⟨_, rfl⟩
      obtain ⟨lH, elH⟩ : ∃ lH, lH = l hd := ⟨_, rfl⟩
      have In := lpw_all (body := fun z : Int32 × Ch => gX7_longestHold_121b h z.2 (nI cnt) (nI lH) (nI hd) z.1)
        (fun k z => z.1 = nI k ∧ KSx c0 h V a ch z.2 ∧ ∃ p l r, KHx (nxt (V a) ch) (nL (V a)) s0 q0 n0 p l r hd k ∧ KVx (V a) ch q0 n0 st z.2 p l r hd k ∧ hd < r ∧ p hd = sH ∧ l hd = lH ∧ ∀ i, i < nL (V a) → z.2.2.2.2.1 122 i = nI (nxt (V a) ch i sH))
        (fun u => ∃ c' p l r, u = .inl (nI lH, nI (hd + 1), c') ∧ KSx c0 h V a ch c' ∧ KHx (nxt (V a) ch) (nL (V a)) s0 q0 n0 p l r (hd + 1) 0 ∧ KVx (V a) ch q0 n0 st c' p l r (hd + 1) 0 ∧ l hd = lH) (nL (V a)) ?_ ?_ (nI 0, c5) ⟨rfl, F5, p, l, r, g4, R5, hh, esH.symm, elH.symm, by rw [esH]; exact r5⟩
      · obtain ⟨u, eu, c', p', l', r', e2, a1, a2, a3, a4⟩ := In
        subst e2
        have eu : gX7_longestHold_121 h c5 (nI cnt) (nI lH) (nI hd) (nI 0) = some (.inl (nI lH, nI (hd + 1), c')) := eu
        refine Or.inl ⟨(nI lH, nI (hd + 1), c'), ?_, p', l', r', ?_, rfl, a1, a2, a3⟩
        · rw [← elH] at o2
          unfold gX7_longestHold_71b
          simp (disch := omega) only [n_lit, n_of, n_o1, nI_add, pk_mul, nI_ltI, nI_leI, nI_eq, ↓lift_lt, ↓k_mt, ↓k_mp, if_true, if_false, Bool.false_eq_true, Nat.not_lt_zero, Nat.zero_le, Nat.reduceEqDiff, Nat.reduceLeDiff, Nat.reduceLT, x12, zn, hd2, cA_g, o1, c_linkOf (h := h) (c := z3) (show p hd < 20000 by omega), o2, e5, eu]
        · show nI lH = nI (l' (hd + 1 - 1))
          rw [Nat.add_sub_cancel, a4]
      · rintro k ⟨y1, y2⟩ hk' ⟨b1, b2, p, l, r, b3, b4, b5, b6, b7, b8⟩
        have b1 : y1 = nI k := b1
        subst b1
        have b2 : KSx c0 h V a ch y2 := b2
        have b4 : KVx (V a) ch q0 n0 st y2 p l r hd k := b4
        have b8 : ∀ i, i < nL (V a) → y2.2.2.2.1 122 i = nI (nxt (V a) ch i sH) := b8
        rw [← b6] at b8
        obtain ⟨c', p', l', r', e, a1, a2, a3, a4, a5, a6, a7⟩ := hk_turn (x2 := nI cnt) hn0 hst F b2 b3 b4 b5 hk' b8
        rw [b7] at e
        exact ⟨_, e, rfl, a1, p', l', r', a2, a3, a4, by rw [a5, b6], by rw [a6, b7], by rw [← b6]; exact a7⟩
      · rintro ⟨y1, y2⟩ ⟨b1, b2, p, l, r, b3, b4, b5, b6, b7, b8⟩
        have b1 : y1 = nI (nL (V a)) := b1
        subst b1
        have b2 : KSx c0 h V a ch y2 := b2
        have b4 : KVx (V a) ch q0 n0 st y2 p l r hd (nL (V a)) := b4
        obtain ⟨la, l1, l2, -⟩ := cv_la hW b2.2.1.2.1
        show ∃ u, gX7_longestHold_121b h y2 (nI cnt) (nI lH) (nI hd) (nI (nL (V a))) = some (.inr u) ∧ _
        refine ⟨.inl (nI lH, nI (hd + 1), y2), ?_, y2, p, l, r, rfl, b2, KH_next b3 b5, ⟨b4.1, b4.2.1, b4.2.2.1, fun j hj => ?_, b4.2.2.2.2⟩, b7⟩
        · unfold gX7_longestHold_121b gX7_longestHold_154
          simp (disch := omega) only [n_lit, n_of, n_o1, nI_add, pk_mul, nI_ltI, nI_leI, nI_eq, ↓lift_lt, ↓k_mt, ↓k_mp, if_true, if_false, Bool.false_eq_true, Nat.not_lt_zero, Nat.zero_le, Nat.reduceEqDiff, Nat.reduceLeDiff, Nat.reduceLT, b2.2.2.1, l1, l2, Nat.le_refl, Option.map_some]
        · rw [entr_next (Or.inl rfl)]
          exact b4.2.2.2.1 j hj
  · rintro ⟨z1, z2, z3⟩ ⟨p, l, r, g1, g2, g3, g4, g5⟩
    have g1 : z1 = nI (l (10000 - 1)) := g1
    have g2 : z2 = nI 10000 := g2
    have rb := KHx_r g4
    have e : r = 10000 := by have := g4.2.2.2.2.2.1; omega
    subst e
    subst g1
    subst g2
    have g5 : KVx (V a) ch q0 n0 st z3 p l 10000 10000 0 := g5
    have x12 := g5.1
    show ∃ u, gX7_longestHold_71b h z3 (nI cnt) (nI (l (10000 - 1))) (nI 10000) = some (.inr u) ∧ _
    refine ⟨(if cnt ≤ 10000 then nI (l (10000 - 1)) else -nI 1, z3), ?_, z3, p, l, 10000, rfl, g3, g4, g5⟩
    unfold gX7_longestHold_71b gX7_longestHold_160 gX7_longestHold_173
    by_cases zc : cnt ≤ 10000
    · rw [if_pos zc]
      simp (disch := omega) only [n_lit, n_of, n_o1, nI_add, pk_mul, nI_ltI, nI_leI, nI_eq, ↓lift_lt, ↓k_mt, ↓k_mp, if_true, if_false, Bool.false_eq_true, Nat.not_lt_zero, Nat.zero_le, Nat.reduceEqDiff, Nat.reduceLeDiff, Nat.reduceLT, x12, Nat.le_refl, zc, Option.map_some]
    · rw [if_neg zc]
      simp (disch := omega) only [n_lit, n_of, n_o1, nI_add, pk_mul, nI_ltI, nI_leI, nI_eq, ↓lift_lt, ↓k_mt, ↓k_mp, if_true, if_false, Bool.false_eq_true, Nat.not_lt_zero, Nat.zero_le, Nat.reduceEqDiff, Nat.reduceLeDiff, Nat.reduceLT, x12, Nat.le_refl, zc, Option.map_some]
theorem c_hold {B : Nat} (hS : SE B h V c a ch) (hB : B < 2 ^ 30) (hs : s0 < 10000) (Q : QB (V a) ch c s0 st q0 D0 W0 n0 n0 0) (E : ENT (V a) ch c q0 n0 n0 0) :
    ∃ u c', gX7_longestHold h c (nI s0) = some (u, c') ∧ sfr c c' ∧ SE (B + 1) h V c' a ch ∧ ((∃ e, Exc (nxt (V a) ch) (nL (V a)) s0 (e + 1) ∧ u = nI e) ∨ ((∀ d, HLd (nxt (V a) ch) (nL (V a)) s0 d) ∧ u = -nI 1)) := by
  have hS' := hS
  obtain ⟨b1, b2, b3, st1, b4, b5, b6, -⟩ := hS'
  have hW := b3.2.2.1
  obtain ⟨hL0, hL⟩ := nL_b hW
  obtain ⟨Q1, Q2, hn0, x12, -, xq, -⟩ := Q
  have F : FUL (nxt (V a) ch) (nL (V a)) s0 q0 D0 W0 n0 := ⟨Q1, fun i hi => (xq i hi).1, nxt_ab (V a) ch, hL0, hL, hs⟩
  have en : ∀ t, entr (nxt (V a) ch) (nL (V a)) q0 n0 0 t = entA (nxt (V a) ch) (nL (V a)) q0 n0 t := fun t => by
    unfold entr
    rw [ecn_0 (k := 0) (fun _ i hi => by omega)]
    rfl
  have cb : ∀ k, csum (unf q0) k ≤ k := fun k => csum_b (fun i => by unfold unf; split <;> omega) k
  have h4 : gX7_longestHold h c (nI s0) = gX7_longestHold_38 h c (nI s0) (nI (csum (unf q0) n0)) := by
    have key : ∀ k, k ≤ n0 → gX7_longestHold_4 h c (nI s0) (nI 0) (nI 0) = gX7_longestHold_4 h c (nI s0) (nI (csum (unf q0) k)) (nI k) := by
      intro k
      induction k with
      | zero => intro _; rfl
      | succ k ih =>
        intro hk
        rw [ih (by omega)]
        obtain ⟨o1, -, o3⟩ := xq k (by omega)
        have k1 : ¬ n0 ≤ k := by omega
        have cbk := cb k
        have eb : gX7_longestHold_4b h c (nI s0) (nI (csum (unf q0) k)) (nI k) = some (.inl (nI (csum (unf q0) (k + 1)), nI (k + 1))) := by
          show _ = some (Sum.inl (nI (csum (unf q0) k + (if q0 k < 10000 then 1 else 0)), nI (k + 1)))
          unfold gX7_longestHold_4b gX7_longestHold_30
          by_cases z : q0 k < 10000
          · have z' : ¬ 10000 ≤ q0 k := by omega
            rw [if_pos z]
            simp (disch := omega) only [n_lit, n_of, n_o1, nI_add, pk_mul, nI_ltI, nI_leI, nI_eq, ↓lift_lt, ↓k_mt, ↓k_mp, if_true, if_false, Bool.false_eq_true, Nat.not_lt_zero, Nat.zero_le, Nat.reduceEqDiff, Nat.reduceLeDiff, Nat.reduceLT, x12, k1, cA_g, o3, z']
          · have z' : 10000 ≤ q0 k := by omega
            rw [if_neg z]
            simp (disch := omega) only [n_lit, n_of, n_o1, nI_add, pk_mul, nI_ltI, nI_leI, nI_eq, ↓lift_lt, ↓k_mt, ↓k_mp, if_true, if_false, Bool.false_eq_true, Nat.not_lt_zero, Nat.zero_le, Nat.reduceEqDiff, Nat.reduceLeDiff, Nat.reduceLT, x12, k1, cA_g, o3, z']
        unfold gX7_longestHold_4
        exact lpw_l eb
    show gX7_longestHold_4 h c (nI s0) (nI 0) (nI 0) = _
    rw [key n0 (Nat.le_refl _)]
    have eb : gX7_longestHold_4b h c (nI s0) (nI (csum (unf q0) n0)) (nI n0) = (gX7_longestHold_38 h c (nI s0) (nI (csum (unf q0) n0))).map (fun y => .inr y) := by
      unfold gX7_longestHold_4b
      simp (disch := omega) only [n_lit, n_of, n_o1, nI_add, pk_mul, nI_ltI, nI_leI, nI_eq, ↓lift_lt, ↓k_mt, ↓k_mp, if_true, if_false, Bool.false_eq_true, Nat.not_lt_zero, Nat.zero_le, Nat.reduceEqDiff, Nat.reduceLeDiff, Nat.reduceLT, x12, Nat.le_refl]
    unfold gX7_longestHold_4
    exact lpw_m eb
  rw [h4]
  have v120 := E 0 Q1.1
  rw [Q1.2.1, en] at v120
  have eb := ent_b (ch := ch) (q0 := q0) (V a) hL hn0 s0
  have i1 : ¬ (1 = 0) := by decide
  have hs2 : s0 < 20000 := by omega
  by_cases z0 : entA (nxt (V a) ch) (nL (V a)) q0 n0 s0 ≤ 0
  · have e0 : entA (nxt (V a) ch) (nL (V a)) q0 n0 s0 = 0 := by omega
    obtain ⟨c3, e3⟩ : ∃ c3, c3 = cI (cI (cI c 116 13 (nI 0)) 116 4 (nI (st1 + 1))) 116 12 (nI 0) := ⟨_, rfl⟩
    have v4 : c3.1 116 4 = nI (st1 + 1) := by rw [e3, cI_1, if_pos rfl, if_neg (by decide), cI_1, if_pos rfl, if_pos rfl]
    have v12 : c3.1 116 12 = nI 0 := by rw [e3, cI_1, if_pos rfl, if_pos rfl]
    have F3 : KSx c h V a ch c3 := by
      rw [e3]
      exact ⟨sfr_I (sfr_I (sfr_I (sfr_rfl c))), CT_116 (CT_116 (CT_116 b3)), b1, by rw [cI_1, if_pos rfl, if_neg (by decide), cI_1, if_pos rfl, if_neg (by decide), cI_1, if_pos rfl, if_neg (by decide)]; exact b2, by rw [cI_1, if_pos rfl, if_neg (by decide), cI_1, if_pos rfl, if_neg (by decide), cI_1, if_pos rfl, if_pos rfl]⟩
    have r3 : c3.2 = c.2 := by rw [e3]; rfl
    have ebg : gX7_begin h c = some c3 := by
      have w4 : (cI c 116 13 (nI 0)).1 116 4 = nI st1 := by rw [cI_1, if_pos rfl, if_neg (by decide)]; exact b4
      rw [e3]
      unfold gX7_begin
      simp (disch := omega) only [n_lit, n_of, n_o1, nI_add, pk_mul, nI_ltI, nI_leI, nI_eq, ↓lift_lt, ↓k_mt, ↓k_mp, if_true, if_false, Bool.false_eq_true, Nat.not_lt_zero, Nat.zero_le, Nat.reduceEqDiff, Nat.reduceLeDiff, Nat.reduceLT, w4]
    have er := c_reach (h := h) (c := c3) (link := nI 0) hs2 v12 (by decide)
    rw [v4] at er
    obtain ⟨c4, e4⟩ : ∃ c4, c4 = cI (cS (cS (cS (cS c3 117 s0 (nI (st1 + 1))) 119 s0 (nI 0)) 120 s0 (nI 0)) 118 0 (nI s0)) 116 12 (nI (0 + 1)) := ⟨_, rfl⟩
    rw [← e4] at er
    have F4 : KSx c h V a ch c4 := by rw [e4]; exact KSx_12 (KSx_S (KSx_S (KSx_S (KSx_S F3 (by omega)) (by omega)) (by omega)) (by omega))
    have r40 : ∀ z, c4.2.2.2.1 z = (cS (cS (cS (cS c3 117 s0 (nI (st1 + 1))) 119 s0 (nI 0)) 120 s0 (nI 0)) 118 0 (nI s0)).2.2.2.1 z := fun z => by rw [e4]; rfl
    have R4 : KVx (V a) ch q0 n0 (st1 + 1) c4 (fun _ => s0) (fun _ => 0) 1 0 0 := by
      refine ⟨by rw [e4, cI_1, if_pos rfl, if_pos rfl], ?_, fun i hi => ⟨?_, ?_, Nat.zero_le _⟩, fun j hj => ?_, fun i hi => ?_⟩
      · rw [e4, cI_1, if_pos rfl, if_neg (by decide)]
        exact v4
      · rw [r40, cS_4, if_pos rfl, if_pos (by omega)]
      · show c4.2.2.2.1 119 s0 = nI 0
        rw [r40, cS_n _ (by decide), cS_n _ (by decide), cS_4, if_pos rfl, if_pos rfl]
      · have e1 : entr (nxt (V a) ch) (nL (V a)) (fun _ => s0) 0 0 (q0 j) = 0 := by
          unfold entr
          rw [ecn_0 (k := 0) (fun _ i hi => by omega)]
          rfl
        rw [e1, Nat.sub_zero, r40, cS_n _ (by decide), cS_4, if_pos rfl]
        by_cases z : q0 j = s0
        · rw [if_pos z, z, e0]
        · rw [if_neg z, cS_n _ (by decide), cS_n _ (by decide), r3, E j hj, en]
      · rw [r40, cS_n _ (by decide), cS_n _ (by decide), cS_n _ (by decide), cS_4, if_pos rfl]
        by_cases z : i = s0
        · rw [if_pos z]; exact ⟨st1 + 1, Nat.le_refl _, rfl⟩
        · rw [if_neg z, r3]
          obtain ⟨y, y1, y2⟩ := b6 i hi
          exact ⟨y, by omega, y2⟩
    have cbn := cb n0
    obtain ⟨c', p', l', r', e', K', H', R'⟩ := hk_outer (cnt := csum (unf q0) n0) (by omega) hn0 (by omega) F F4 (KH_start F e0) R4
    have e38 : gX7_longestHold_38 h c (nI s0) (nI (csum (unf q0) n0)) = some (if csum (unf q0) n0 ≤ r' then nI (l' (r' - 1)) else -nI 1, c') := by
      unfold gX7_longestHold_38
      simp (disch := omega) only [n_lit, n_of, n_o1, nI_add, pk_mul, nI_ltI, nI_leI, nI_eq, ↓lift_lt, ↓k_mt, ↓k_mp, if_true, if_false, Bool.false_eq_true, Nat.not_lt_zero, Nat.zero_le, Nat.reduceEqDiff, Nat.reduceLeDiff, Nat.reduceLT, c_isState hs2, i1, cA_g, v120, eq_true z0, ebg, er, e']
    refine ⟨_, c', e38, K'.1, ⟨K'.2.2.1, K'.2.2.2.1, K'.2.1, st1 + 1, R'.2.1, by omega, R'.2.2.2.2, Or.inl K'.2.2.2.2⟩, ?_⟩
    rcases KH_cnt F H' with ⟨w1, w2⟩ | ⟨w1, j, j1, j2, j3⟩
    · rw [if_pos w1]
      exact Or.inl ⟨_, KH_exc F H' w2, rfl⟩
    · rw [if_neg (by omega)]
      exact Or.inr ⟨KH_inf F H' j1 j2 j3, rfl⟩
  · refine ⟨-nI 1, c, ?_, sfr_rfl c, SE_B (by omega) hS, Or.inr ⟨KH_cyc F (by omega), rfl⟩⟩
    unfold gX7_longestHold_38 gX7_longestHold_54
    simp (disch := omega) only [n_lit, n_of, n_o1, nI_add, pk_mul, nI_ltI, nI_leI, nI_eq, ↓lift_lt, ↓k_mt, ↓k_mp, if_true, if_false, Bool.false_eq_true, Nat.not_lt_zero, Nat.zero_le, Nat.reduceEqDiff, Nat.reduceLeDiff, Nat.reduceLT, c_isState hs2, i1, cA_g, v120, z0]
end HOLDC
