/-! met pairs stay met -/
theorem metb_bit : ∀ (P s p : Nat), (metb P s).testBit p = (decide (p < P) && decide (dg s p = 0))
  | 0, s, p => by
    show Nat.testBit 0 p = _
    rw [Nat.zero_testBit]
    have : decide (p < 0) = false := decide_eq_false (by omega)
    rw [this, Bool.false_and]
  | P + 1, s, p => by
    have ih := metb_bit P s
    have lt := metb_lt P s
    show (metb P s + (if dg s P = 0 then 2 ^ P else 0)).testBit p = _
    rcases Nat.lt_trichotomy p P with h | h | h
    · have a1 : decide (p < P + 1) = true := decide_eq_true (by omega)
      have a2 : decide (p < P) = true := decide_eq_true h
      rw [a1]
      by_cases z : dg s P = 0
      · rw [if_pos z, Nat.add_comm, Nat.testBit_two_pow_add_gt h, ih, a2]
      · rw [if_neg z, Nat.add_zero, ih, a2]
    · subst h
      have a1 : decide (p < p + 1) = true := decide_eq_true (by omega)
      have a3 : (metb p s).testBit p = false := Nat.testBit_lt_two_pow lt
      rw [a1, Bool.true_and]
      by_cases z : dg s p = 0
      · rw [if_pos z, Nat.add_comm, Nat.testBit_two_pow_add_eq, a3, decide_eq_true z]
        rfl
      · rw [if_neg z, Nat.add_zero, a3, decide_eq_false z]
    · have a1 : decide (p < P + 1) = false := decide_eq_false (by omega)
      rw [a1, Bool.false_and]
      apply Nat.testBit_lt_two_pow
      have e1 : 2 ^ (P + 1) = 2 ^ P * 2 := Nat.pow_succ 2 P
      have e2 : 2 ^ (P + 1) ≤ 2 ^ p := Nat.pow_le_pow_right (by decide) (by omega)
      split
      · omega
      · omega
theorem dg_up {t p : Nat} (hp : p < 4) : dg (t + 10000) p = dg t p := by
  have h1 := dg_mod (s := t + 10000) hp
  have h2 := dg_mod (s := t) hp
  rw [← h1, ← h2, Nat.add_mod_right]
theorem dg_nxt {v : Cv} {ch k s p : Nat} (hP : vP v ≤ 4) (hp : p < vP v) (h : dg s p = 0) : dg (nxt v ch k s) p = 0 := by
  unfold nxt Yr yr
  by_cases z : 10000 ≤ s
  · rw [if_pos z]; exact h
  · rw [if_neg z]
    have e : dg (yto (grw (vg v) ch) (vP v) s (ld v k) 0) p = 0 := by
      unfold yto
      rw [dg_cod (fun p => ygap_lt _ _ _ _ _ p) _ _ hp]
      exact if_pos h
    split
    · rw [dg_up (by omega)]; exact e
    · exact e
theorem Gp_nxt {v : Cv} {ch k s b : Nat} (hP : vP v ≤ 4) (hb : b < 2 ^ vP v) (h : Gp (vP v) (nI b) s) : Gp (vP v) (nI b) (nxt v ch k s) := by
  rw [Gp_b hP hb] at h ⊢
  apply Nat.eq_of_testBit_eq
  intro p
  have h1 : (metb (vP v) s &&& b).testBit p = b.testBit p := by rw [h]
  rw [Nat.testBit_and] at h1 ⊢
  cases hbp : b.testBit p with
  | false => rw [Bool.and_false]
  | true =>
    rw [hbp, Bool.and_true, metb_bit, Bool.and_eq_true, decide_eq_true_iff, decide_eq_true_iff] at h1
    rw [Bool.and_true, metb_bit, Bool.and_eq_true, decide_eq_true_iff, decide_eq_true_iff]
    exact ⟨h1.1, dg_nxt hP h1.1 h1.2⟩
theorem nxt_y {v : Cv} {ch k u : Nat} (hu : u < 10000) : nxt v ch k u = if roof (vf v) (vP v) (yto (grw (vg v) ch) (vP v) u (ld v k) 0) 0 = true then yto (grw (vg v) ch) (vP v) u (ld v k) 0 + 10000 else yto (grw (vg v) ch) (vP v) u (ld v k) 0 := if_neg (by omega)
theorem nxt_same {v : Cv} {ch k k' u u' : Nat} (hP : vP v ≤ 4) (hu : u < 10000) (hu' : u' < 10000) (h : nxt v ch k u % 10000 = nxt v ch k' u' % 10000) : nxt v ch k u = nxt v ch k' u' := by
  rw [nxt_y hu, nxt_y hu'] at h
  rw [nxt_y hu, nxt_y hu']
  have p1 := pow10_le hP
  have y1 : yto (grw (vg v) ch) (vP v) u (ld v k) 0 < 10 ^ vP v := cod_lt _ (fun p => ygap_lt _ _ _ _ _ p) _
  have y2 : yto (grw (vg v) ch) (vP v) u' (ld v k') 0 < 10 ^ vP v := cod_lt _ (fun p => ygap_lt _ _ _ _ _ p) _
  have e : yto (grw (vg v) ch) (vP v) u (ld v k) 0 = yto (grw (vg v) ch) (vP v) u' (ld v k') 0 := by
    generalize yto (grw (vg v) ch) (vP v) u (ld v k) 0 = x at h y1 ⊢
    generalize yto (grw (vg v) ch) (vP v) u' (ld v k') 0 = y at h y2 ⊢
    split at h <;> split at h <;> omega
  rw [e]
section ROWC0
variable {v : Cv} {ch b : Nat}
/-- how many rows of n leadings there are behind which they have met -/
noncomputable def Zg (v : Cv) (ch b n t : Nat) : Nat := Zf (nxt v ch) (nL v) (fun t => ib (Gp (vP v) (nI b) t)) n t
theorem Zg_met (hP : vP v ≤ 4) (hb : b < 2 ^ vP v) : ∀ n t, Gp (vP v) (nI b) t → Zg v ch b n t = nL v ^ n
  | 0, t, h => ib_t h
  | n + 1, t, h => by
    have e : Zg v ch b (n + 1) t = csum (fun _ => nL v ^ n) (nL v) := csum_eq (fun k _ => Zg_met hP hb n _ (Gp_nxt hP hb h))
    rw [e, csum_c, Nat.pow_succ, Nat.mul_comm]
theorem Zg_fall : ∀ n t, 10000 ≤ t → ¬ Gp (vP v) (nI b) t → Zg v ch b n t = 0
  | 0, t, _, h => ib_f h
  | n + 1, t, ht, h => by
    have e : Zg v ch b (n + 1) t = csum (fun _ => 0) (nL v) := csum_eq (fun k _ => by
      show Zg v ch b n (nxt v ch k t) = 0
      rw [nxt_ab v ch k t ht]
      exact Zg_fall n t ht h)
    rw [e, csum_0]
/-- with one year less than r years; none if r is none -/
noncomputable def Zs (v : Cv) (ch b r t : Nat) : Nat := if r = 0 then 0 else Zg v ch b (r - 1) t
theorem Zs_s (r t : Nat) : Zs v ch b (r + 1) t = Zg v ch b r t := if_neg (by omega)
end ROWC0
section ROWC
variable {c0 c : Ch} {h : Hp} {V : Nat → Cv} {a ch s0 st : Nat} {w E u C : Nat → Nat} {R o H S : Nat}
def KSy (c0 : Ch) (h : Hp) (V : Nat → Cv) (a ch : Nat) (c : Ch) : Prop := sfr c0 c ∧ CT h V c a ch ∧ c.2.2.1 116 1 = some a ∧ c.1 116 2 = nI ch
theorem KSy_S {r i : Nat} {y : Int32} (K : KSy c0 h V a ch c) (hr : 117 ≤ r ∧ r < 121) : KSy c0 h V a ch (cS c r i y) := ⟨sfr_S K.1 hr, CT_w K.2.1 (by omega) (by omega), K.2.2.1, K.2.2.2⟩
theorem KSy_I {k : Nat} {y : Int32} (K : KSy c0 h V a ch c) (hk : ¬ k = 2) : KSy c0 h V a ch (cI c 116 k y) := ⟨sfr_I K.1, CT_116 K.2.1, K.2.2.1, by rw [cI_1, if_pos rfl, if_neg (fun e => hk e.symm)]; exact K.2.2.2⟩
theorem KSy_w {c' : Ch} (K : KSy c0 h V a ch c) (hT : CT h V c' a ch) (f : cfr Aw c c') : KSy c0 h V a ch c' := ⟨sfr_tr K.1 (sfr_w f), hT, by rw [f.2.2.1]; exact K.2.2.1, by rw [f.1]; exact K.2.2.2⟩
theorem KSy_J {i : Nat} {y : Int64} (K : KSy c0 h V a ch c) : KSy c0 h V a ch (cSJ c 121 i y) := ⟨⟨K.1.1, K.1.2.1, K.1.2.2.1, fun r hr => by
  rw [show (cSJ c 121 i y).2.2.2.2.1 r = c.2.2.2.2.1 r from funext (fun j => by rw [cSJ_5, if_neg hr])]
  exact K.1.2.2.2.1 r hr, K.1.2.2.2.2⟩, K.2.1, K.2.2.1, K.2.2.2⟩
/-- the half that is filled -/
def PVx (v : Cv) (ch : Nat) (st : Nat) (c : Ch) (o R : Nat) (w E : Nat → Nat) : Prop :=
  c.1 116 12 = nI R ∧ c.1 116 4 = nI st ∧ (∀ j, j < R → w j < 20000 ∧ c.2.2.2.1 118 (o + j) = nI (w j) ∧ c.2.2.2.2.1 121 (o + w j % 10000) = lN (E j)) ∧
  (∀ i j, i < j → j < R → w i % 10000 ≠ w j % 10000) ∧ (∀ j, j < R → ∃ k x, x < 10000 ∧ w j = nxt v ch k x) ∧
  (∀ t, t < 20000 → (c.2.2.2.1 117 t = nI st ∧ ∃ j, j < R ∧ w j = t) ∨ ((∃ z, z < st ∧ c.2.2.2.1 117 t = nI z) ∧ ∀ j, j < R → w j ≠ t))
/-- the half that is read -/
def SVx (c : Ch) (H S : Nat) (u C : Nat → Nat) : Prop := S ≤ 10000 ∧ ∀ i, i < S → u i < 20000 ∧ c.2.2.2.1 118 (H + i) = nI (u i) ∧ c.2.2.2.2.1 121 (H + u i % 10000) = lN (C i)
theorem PVx_b (hP : PVx (V a) ch st c o R w E) : R ≤ 10000 := inj_le (f := fun j => w j % 10000) (fun i j a b => hP.2.2.2.1 i j a b) (fun i _ => Nat.mod_lt _ (by decide))
theorem po_turn {k s cnt : Nat} (hst : st < 2 ^ 31) (hho : (H = 0 ∧ o = 10000) ∨ (H = 10000 ∧ o = 0)) (hs : s < 10000) (hk : k < nL (V a)) (K : KSy c0 h V a ch c) (hV : PVx (V a) ch st c o R w E) (hS : SVx c H S u C) (h22 : ∀ i, i < nL (V a) → c.2.2.2.1 122 i = nI (nxt (V a) ch i s)) (ht2 : nxt (V a) ch k s < 20000) :
    ∃ (c' : Ch) (R' : Nat) (w' E' : Nat → Nat), gX7_passOn_16b h c (lN cnt) (nI o) (nI k) = some (.inl (nI (k + 1), c')) ∧ KSy c0 h V a ch c' ∧ PVx (V a) ch st c' o R' w' E' ∧ SVx c' H S u C ∧ (∀ i, i < nL (V a) → c'.2.2.2.1 122 i = nI (nxt (V a) ch i s)) ∧ c'.1 116 13 = c.1 116 13 ∧ ∀ f : Nat → Nat, csum (fun j => E' j * f (w' j)) R' = csum (fun j => E j * f (w j)) R + cnt * f (nxt (V a) ch k s) := by
  have hW := K.2.1.2.2.1
  have hP := hW.1
  obtain ⟨hL0, hL⟩ := nL_b hW
  obtain ⟨la, l1, l2, -⟩ := cv_la hW K.2.1.2.1
  have Rb := PVx_b hV
  obtain ⟨v1, v2, v3, v4, v5, v6⟩ := hV
  have h22k := h22 k hk
  have same : ∀ j, j < R → nxt (V a) ch k s % 10000 = w j % 10000 → nxt (V a) ch k s = w j := fun j hj e => by
    obtain ⟨k', x, x1, x2⟩ := v5 j hj
    rw [x2] at e ⊢
    exact nxt_same hP hs x1 e
  have org : ∃ k' x, x < 10000 ∧ nxt (V a) ch k s = nxt (V a) ch k' x := ⟨k, s, hs, rfl⟩
  obtain ⟨t, et⟩ : ∃ t, t = nxt (V a) ch k s := ⟨_, rfl⟩
  rw [← et] at h22k ht2 same org ⊢
  have k1 : ¬ nL (V a) ≤ k := by omega
  have i1 : ¬ (1 = 0) := by decide
  have tm : t % 10000 < 10000 := Nat.mod_lt _ (by decide)
  have pl : o + t % 10000 < 20000 := by omega
  have lo : ∀ j, j < R → ¬ j = R := fun j hj => by omega
  rcases v6 t ht2 with ⟨z1, j, j1, j2⟩ | ⟨⟨z, z1, z2⟩, z3⟩
  · -- one that is there already
    have e121 := (v3 j j1).2.2
    rw [j2] at e121
    obtain ⟨c', ec⟩ : ∃ c', c' = cSJ c 121 (o + t % 10000) (lN (E j + cnt)) := ⟨_, rfl⟩
    have ew := cWL_g c (r := 121) (n := 20000) (lN (E j + cnt)) pl (by decide)
    rw [← ec] at ew
    have o4 : c'.2.2.2.1 = c.2.2.2.1 := by rw [ec, cSJ_4]
    have o1 : c'.1 = c.1 := by rw [ec, cSJ_1]
    have o5 : ∀ y, c'.2.2.2.2.1 121 y = if y = o + t % 10000 then lN (E j + cnt) else c.2.2.2.2.1 121 y := fun y => by rw [ec, cSJ_5, if_pos rfl]
    refine ⟨c', R, w, fun y => if y = j then E y + cnt else E y, ?_, by rw [ec]; exact KSy_J K, ⟨by rw [o1]; exact v1, by rw [o1]; exact v2, fun y hy => ⟨(v3 y hy).1, by rw [o4]; exact (v3 y hy).2.1, ?_⟩, v4, v5, by rw [o4]; exact v6⟩, ⟨hS.1, fun i hi => ⟨(hS.2 i hi).1, by rw [o4]; exact (hS.2 i hi).2.1, ?_⟩⟩, by rw [o4]; exact h22, by rw [o1], fun f => ?_⟩
    · unfold gX7_passOn_16b gX7_passOn_111 gX7_passOn_130 gX7_isNew gX7_isNew_24 gX7_isNew_25
      simp (disch := omega) only [n_lit, n_of, n_o1, nI_add, pk_mul, nI_ltI, nI_leI, nI_eq, ↓lift_lt, ↓k_mt, ↓k_mp, if_true, if_false, Bool.false_eq_true, Nat.not_lt_zero, Nat.zero_le, Nat.reduceEqDiff, Nat.reduceLeDiff, Nat.reduceLT, K.2.2.1, l1, l2, k1, cA_g, h22k, n_rm, c_isState ht2, i1, z1, v2, n_bl0, c_isState pl, cL_g, e121, lN_add, ew]
    · rw [o5]
      show _ = lN (if y = j then E y + cnt else E y)
      by_cases e : y = j
      · subst e
        rw [if_pos rfl, if_pos (by rw [j2])]
      · rw [if_neg e, if_neg (fun q => by
          have q : w y % 10000 = w j % 10000 := by rw [j2]; omega
          rcases Nat.lt_trichotomy y j with l | l | l
          · exact v4 y j l j1 q
          · exact e l
          · exact v4 j y l hy q.symm)]
        exact (v3 y hy).2.2
    · have ub : u i % 10000 < 10000 := Nat.mod_lt _ (by decide)
      rw [o5, if_neg (by omega)]
      exact (hS.2 i hi).2.2
    · have := csum_upd (N := E) (f := fun y => f (w y)) (t := j) (w := cnt) R
      rw [if_pos j1, j2] at this
      exact this
  · -- a new one
    have nw : ∀ j, j < R → t % 10000 ≠ w j % 10000 := fun j hj e => z3 j hj (same j hj e).symm
    have dist : ∀ i j, i < j → j < R + 1 → (if i = R then t else w i) % 10000 ≠ (if j = R then t else w j) % 10000 := fun i j hij hj => by
      rw [if_neg (show ¬ i = R by omega)]
      by_cases e : j = R
      · rw [if_pos e]; exact fun q => nw i (by omega) q.symm
      · rw [if_neg e]; exact v4 i j hij (by omega)
    have Rb1 : R + 1 ≤ 10000 := inj_le (f := fun j => (if j = R then t else w j) % 10000) dist (fun i _ => Nat.mod_lt _ (by decide))
    have nz : ¬ z = st := by omega
    have R1 : ¬ 10000 ≤ R := by omega
    obtain ⟨c1, e1⟩ : ∃ c1, c1 = cS c 117 t (nI st) := ⟨_, rfl⟩
    obtain ⟨c2, e2⟩ : ∃ c2, c2 = cS c1 118 (o + R) (nI t) := ⟨_, rfl⟩
    obtain ⟨c3, e3⟩ : ∃ c3, c3 = cI c2 116 12 (nI (R + 1)) := ⟨_, rfl⟩
    obtain ⟨c4, e4⟩ : ∃ c4, c4 = cSJ c3 121 (o + t % 10000) (lN 0) := ⟨_, rfl⟩
    obtain ⟨c5, e5⟩ : ∃ c5, c5 = cSJ c4 121 (o + t % 10000) (lN (0 + cnt)) := ⟨_, rfl⟩
    have x1 : cWA c 0 117 20000 (nI t) (nI st) = some c1 := by rw [e1]; exact cW0_g c _ ht2 (by decide)
    have x2 : cWA c1 0 118 20000 (nI (o + R)) (nI t) = some c2 := by rw [e2]; exact cW0_g c1 _ (by omega) (by decide)
    have x4 : cWL c3 121 20000 (nI (o + t % 10000)) (lN 0) = some c4 := by rw [e4]; exact cWL_g c3 _ pl (by decide)
    have x5 : cWL c4 121 20000 (nI (o + t % 10000)) (lN (0 + cnt)) = some c5 := by rw [e5]; exact cWL_g c4 _ pl (by decide)
    have a12 : c1.1 116 12 = nI R := by rw [e1]; exact v1
    have a22 : c2.1 116 12 = nI R := by rw [e2]; exact a12
    have a45 : c4.2.2.2.2.1 121 (o + t % 10000) = lN 0 := by rw [e4, cSJ_5, if_pos rfl, if_pos rfl]
    have f5 : ∀ k, c5.1 116 k = if k = 12 then nI (R + 1) else c.1 116 k := fun k => by
      rw [e5, cSJ_1, e4, cSJ_1, e3, cI_1, if_pos rfl, e2, cS_1, e1, cS_1]
    have g5 : ∀ y, c5.2.2.2.1 y = c2.2.2.2.1 y := fun y => by rw [e5, cSJ_4, e4, cSJ_4, e3]; rfl
    have g118 : ∀ y, c5.2.2.2.1 118 y = if y = o + R then nI t else c.2.2.2.1 118 y := fun y => by
      rw [g5, e2, cS_4, if_pos rfl, e1, cS_n _ (by decide)]
    have g117 : ∀ y, c5.2.2.2.1 117 y = if y = t then nI st else c.2.2.2.1 117 y := fun y => by
      rw [g5, e2, cS_n _ (by decide), e1, cS_4, if_pos rfl]
    have g122 : c5.2.2.2.1 122 = c.2.2.2.1 122 := by rw [g5, e2, cS_n _ (by decide), e1, cS_n _ (by decide)]
    have g121 : ∀ y, c5.2.2.2.2.1 121 y = if y = o + t % 10000 then lN (0 + cnt) else c.2.2.2.2.1 121 y := fun y => by
      rw [e5, cSJ_5, if_pos rfl, e4, cSJ_5, if_pos rfl]
      by_cases e : y = o + t % 10000
      · rw [if_pos e, if_pos e]
      · rw [if_neg e, if_neg e, if_neg e, e3, e2, e1]; rfl
    refine ⟨c5, R + 1, fun j => if j = R then t else w j, fun j => if j = R then 0 + cnt else E j, ?_, ?_, ⟨by rw [f5, if_pos rfl], by rw [f5, if_neg (by decide)]; exact v2, fun j hj => ?_, dist, fun j hj => ?_, fun y hy => ?_⟩, ⟨hS.1, fun i hi => ⟨(hS.2 i hi).1, ?_, ?_⟩⟩, by rw [g122]; exact h22, by rw [f5, if_neg (by decide)], fun f => ?_⟩
    · have e3' : cI c2 116 12 (nI (R + 1)) = c3 := e3.symm
      unfold gX7_passOn_16b gX7_passOn_111 gX7_passOn_130 gX7_isNew gX7_isNew_24 gX7_isNew_25
      simp (disch := omega) only [n_lit, n_of, n_o1, nI_add, pk_mul, nI_ltI, nI_leI, nI_eq, ↓lift_lt, ↓k_mt, ↓k_mp, if_true, if_false, Bool.false_eq_true, Nat.not_lt_zero, Nat.zero_le, Nat.reduceEqDiff, Nat.reduceLeDiff, Nat.reduceLT, n_litL, K.2.2.1, l1, l2, k1, cA_g, h22k, n_rm, c_isState ht2, i1, z2, v2, nz, n_bl1, v1, R1, x1, a12, x2, a22, e3', x4, c_isState pl, cL_g, a45, lN_add, x5]
    · rw [e5, e4, e3, e2, e1]
      exact KSy_J (KSy_J (KSy_I (KSy_S (KSy_S K (by omega)) (by omega)) (by decide)))
    · show (if j = R then t else w j) < 20000 ∧ c5.2.2.2.1 118 (o + j) = nI (if j = R then t else w j) ∧ c5.2.2.2.2.1 121 (o + (if j = R then t else w j) % 10000) = lN (if j = R then 0 + cnt else E j)
      rw [g118, g121]
      by_cases e : j = R
      · rw [if_pos e, if_pos e, if_pos (by rw [e]), if_pos rfl]
        exact ⟨ht2, rfl, rfl⟩
      · rw [if_neg e, if_neg e, if_neg (by omega), if_neg (fun q => nw j (by omega) (by omega))]
        exact v3 j (by omega)
    · show ∃ k x, x < 10000 ∧ (if j = R then t else w j) = nxt (V a) ch k x
      by_cases e : j = R
      · rw [if_pos e]; exact org
      · rw [if_neg e]; exact v5 j (by omega)
    · show (c5.2.2.2.1 117 y = nI st ∧ ∃ j, j < R + 1 ∧ (if j = R then t else w j) = y) ∨ ((∃ z, z < st ∧ c5.2.2.2.1 117 y = nI z) ∧ ∀ j, j < R + 1 → (if j = R then t else w j) ≠ y)
      rw [g117]
      by_cases e : y = t
      · rw [if_pos e]
        exact Or.inl ⟨rfl, R, by omega, by rw [if_pos rfl, e]⟩
      · rw [if_neg e]
        rcases v6 y hy with ⟨r1, i, r2, r3⟩ | ⟨r1, r2⟩
        · exact Or.inl ⟨r1, i, by omega, by rw [if_neg (lo i r2)]; exact r3⟩
        · refine Or.inr ⟨r1, fun i hi => ?_⟩
          by_cases zz : i = R
          · rw [if_pos zz]; exact fun q => e q.symm
          · rw [if_neg zz]; exact r2 i (by omega)
    · have Sb := hS.1
      rw [g118, if_neg (by omega)]
      exact (hS.2 i hi).2.1
    · have ub : u i % 10000 < 10000 := Nat.mod_lt _ (by decide)
      rw [g121, if_neg (by omega)]
      exact (hS.2 i hi).2.2
    · show csum (fun j => (if j = R then 0 + cnt else E j) * f (if j = R then t else w j)) R + (if R = R then 0 + cnt else E R) * f (if R = R then t else w R) = _
      rw [if_pos rfl, if_pos rfl, Nat.zero_add]
      have e : csum (fun j => (if j = R then 0 + cnt else E j) * f (if j = R then t else w j)) R = csum (fun j => E j * f (w j)) R := csum_eq (fun j hj => by
        show (if j = R then 0 + cnt else E j) * f (if j = R then t else w j) = E j * f (w j)
        rw [if_neg (lo j hj), if_neg (lo j hj)])
      rw [← e, Nat.zero_add]
end ROWC
