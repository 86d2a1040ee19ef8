/-! how drops are led at the beginning -/
theorem d5_add {G d P p : Nat} (hG : G < 5 ^ P) (hd : d < 5) (hp : p ≤ P) : d5 (G + d * 5 ^ P) p = if p = P then d else d5 G p := by
  have pp : 0 < 5 ^ P := Nat.pow_pos (by decide)
  by_cases e : p = P
  · subst e
    rw [if_pos rfl]
    unfold d5
    rw [Nat.add_mul_div_right _ _ pp, Nat.div_eq_of_lt hG, Nat.zero_add]
    omega
  · rw [if_neg e]
    obtain ⟨k, rfl⟩ : ∃ k, P = p + 1 + k := ⟨P - (p + 1), by omega⟩
    unfold d5
    have e1 : d * 5 ^ (p + 1 + k) = d * 5 ^ k * 5 * 5 ^ p := by
      rw [Nat.pow_add, Nat.pow_succ]
      simp only [Nat.mul_assoc, Nat.mul_comm, Nat.mul_left_comm]
    rw [e1, Nat.add_mul_div_right _ _ (Nat.pow_pos (by decide)), Nat.add_mul_mod_self_right]
theorem dsum_add {G d P : Nat} (hG : G < 5 ^ P) (hd : d < 5) : dsum (P + 1) (G + d * 5 ^ P) = dsum P G + d := by
  have low : ∀ q, q ≤ P → dsum q (G + d * 5 ^ P) = dsum q G := fun q => by
    induction q with
    | zero => intro _; rfl
    | succ q ih =>
      intro hq
      show dsum q (G + d * 5 ^ P) + d5 (G + d * 5 ^ P) q = dsum q G + d5 G q
      rw [ih (by omega), d5_add hG hd (by omega), if_neg (by omega)]
  show dsum P (G + d * 5 ^ P) + d5 (G + d * 5 ^ P) P = _
  rw [low P (Nat.le_refl _), d5_add hG hd (Nat.le_refl _), if_pos rfl]
section LED1
variable {t : Nat → Nat} {N : Nat} {m0 : Mu} {c0 : Ch} {h : Hp} {m : Mu} {c : Ch} {z : Tl} {nc a : Nat}
theorem l_leads {P D : Nat} {m1 : Mu} {c1 : Ch} (hP : P ≤ 4) (hD : D ≤ 4) (r1 : m1.2.1 4 1 = nI P) (s8 : c1.1 82 8 = nI P) (s9 : c1.1 82 9 = nI D) : ∀ d p m c a b kd nm led told, p + d = P → TSx t N h m c a b kd nm → led ≤ D → told < 5 ^ p → dsum p told = led → (p = P → 0 < P → led = D) → mfn m1 m → lfC c1 c → (∀ k, ¬ k = 4 → c.1 82 k = c1.1 82 k) → c.2.2.1 = c1.2.2.1 → lfM m0 m1 → lfC c0 c1 →
    (∃ m' c' a' b' kd' nm' l, gX12_readLead_40 m (nI (D - led)) (nI told) (nI (5 ^ p)) (nI p) = gX12_readLead_105 m' (nI l) ∧ gX4_tellLead_26 h c (nI led) (nI told) (nI p) = gX4_tellLead_135 h c' (nI l) ∧ TSx t N h m' c' a' b' kd' nm' ∧ a ≤ a' ∧ l < 5 ^ P ∧ (0 < P → dsum P l = D) ∧ mfn m1 m' ∧ lfC c1 c' ∧ (∀ k, ¬ k = 4 → c'.1 82 k = c1.1 82 k) ∧ c'.2.2.1 = c1.2.2.1) ∨
    (∃ m' c', gX12_readLead_40 m (nI (D - led)) (nI told) (nI (5 ^ p)) (nI p) = some m' ∧ gX4_tellLead_26 h c (nI led) (nI told) (nI p) = some (nI 0, c') ∧ LFx m0 c0 m' c') := by
  intro d
  induction d with
  | zero =>
    intro p m c a b kd nm led told hp T hle ht hs hend f1 fC e82 er fM0 fC0
    have ep : p = P := by omega
    subst ep
    have v1 : m.2.1 4 1 = nI p := by rw [f1.2]; exact r1
    have v8 : c.1 82 8 = nI p := by rw [e82 8 (by decide)]; exact s8
    refine Or.inl ⟨m, c, a, b, kd, nm, told, ?_, ?_, T, Nat.le_refl _, ht, fun h0 => by rw [hs]; exact hend rfl h0, f1, fC, e82, er⟩
    · have eb : gX12_readLead_40b m (nI (D - led)) (nI told) (nI (5 ^ p)) (nI p) = (gX12_readLead_105 m (nI told)).map (fun q => .inr q) := by
        unfold gX12_readLead_40b
        simp (disch := omega) only [n_lit, n_of, n_o1, nI_add, pk_mul, nI_ltI, nI_leI, nI_eq, ↓lift_lt, ↓k_mt, ↓k_mp, if_true, if_false, Bool.false_eq_true, Nat.not_lt_zero, Nat.zero_le, Nat.reduceEqDiff, Nat.reduceLeDiff, Nat.reduceLT, mA_4, v1, Nat.le_refl]
      unfold gX12_readLead_40
      exact lpw_m eb
    · have eb : gX4_tellLead_26b h c (nI led) (nI told) (nI p) = (gX4_tellLead_135 h c (nI told)).map (fun q => .inr q) := by
        unfold gX4_tellLead_26b
        simp (disch := omega) only [n_lit, n_of, n_o1, nI_add, pk_mul, nI_ltI, nI_leI, nI_eq, ↓lift_lt, ↓k_mt, ↓k_mp, if_true, if_false, Bool.false_eq_true, Nat.not_lt_zero, Nat.zero_le, Nat.reduceEqDiff, Nat.reduceLeDiff, Nat.reduceLT, v8, Nat.le_refl]
      unfold gX4_tellLead_26
      exact lpw_m eb
  | succ d ih =>
    intro p m c a b kd nm led told hp T hle ht hs hend f1 fC e82 er fM0 fC0
    have i1 : ¬ (1 = 0) := by decide
    have v1 : m.2.1 4 1 = nI P := by rw [f1.2]; exact r1
    have v8 : c.1 82 8 = nI P := by rw [e82 8 (by decide)]; exact s8
    have v9 : c.1 82 9 = nI D := by rw [e82 9 (by decide)]; exact s9
    have p1 : ¬ P ≤ p := by omega
    have p4 : ¬ 4 ≤ p := by omega
    have sP : nI P - nI 1 = nI (P - 1) := pk_sub (by omega)
    have sD : nI D - nI led = nI (D - led) := pk_sub hle
    have q5 := pow5_le (show p ≤ 4 by omega)
    have tt := n_tT2 (p := p) (by omega)
    have pp : 5 ^ (p + 1) = 5 ^ p * 5 := Nat.pow_succ 5 p
    have k6 := T.2.1.2.2.2.2.2.1
    have cb := ckd_b kd
    have wM : ∀ {m' : Mu}, ¬ m'.1 11 = nI 0 → m'.2.1 4 1 = nI P → ∀ x1 x2 x3 x4, gX12_readLead_40b m' x1 x2 x3 x4 = some (.inr m') := fun {m'} hw hv x1 x2 x3 x4 => by
      unfold gX12_readLead_40b gX12_readLead_105
      by_cases q : nI P ≤ x4
      · simp (disch := omega) only [n_lit, n_of, n_o1, nI_add, pk_mul, nI_ltI, nI_leI, nI_eq, ↓lift_lt, ↓k_mt, ↓k_mp, if_true, if_false, Bool.false_eq_true, Nat.not_lt_zero, Nat.zero_le, Nat.reduceEqDiff, Nat.reduceLeDiff, Nat.reduceLT, mA_4, hv, q, hw, Option.map_some]
      · simp (disch := omega) only [n_lit, n_of, n_o1, nI_add, pk_mul, nI_ltI, nI_leI, nI_eq, ↓lift_lt, ↓k_mt, ↓k_mp, if_true, if_false, Bool.false_eq_true, Nat.not_lt_zero, Nat.zero_le, Nat.reduceEqDiff, Nat.reduceLeDiff, Nat.reduceLT, mA_4, hv, q, hw, Option.map_some]
    have fail : ∀ {y : Int32} {m' : Mu} {c' : Ch} {lo : Nat}, gX12_takes m (nI lo) (nI (D - led)) = some (y, m') → (gX12_readLead_40b m (nI (D - led)) (nI told) (nI (5 ^ p)) (nI p) = gX12_readLead_77 m (nI (D - led)) (nI told) (nI (5 ^ p)) (nI p) (nI lo)) → FAx m c m' c' → gX12_readLead_40 m (nI (D - led)) (nI told) (nI (5 ^ p)) (nI p) = some m' ∧ LFx m0 c0 m' c' := fun {y m' c' lo} h1 h2 F => by
      have pw := FAx_w F
      have fM : lfM m0 m := lfM_n fM0 f1
      have fC' : lfC c0 c := ⟨fun r a1 a2 => by rw [fC.1 r a1 a2]; exact fC0.1 r a1 a2, by rw [fC.2.1]; exact fC0.2.1, by rw [fC.2.2.1]; exact fC0.2.2.1, fun r k hk => by rw [fC.2.2.2.1 r k hk]; exact fC0.2.2.2.1 r k hk, fun r hr => by rw [fC.2.2.2.2.1 r hr]; exact fC0.2.2.2.2.1 r hr, by rw [fC.2.2.2.2.2]; exact fC0.2.2.2.2.2⟩
      refine ⟨?_, LFx_of fM fC' F⟩
      have vm : m'.2.1 4 1 = nI P := by
        obtain ⟨k, q, -, -, -, e, -⟩ := F
        rw [e]
        exact v1
      have eb : gX12_readLead_40b m (nI (D - led)) (nI told) (nI (5 ^ p)) (nI p) = some (.inl (nI (D - led) - y, nI told + nI (5 ^ p) * y, nI (5 ^ p) * nI 5, nI (p + 1), m')) := by
        rw [h2]
        unfold gX12_readLead_77
        simp (disch := omega) only [n_lit, n_of, n_o1, nI_add, pk_mul, nI_ltI, nI_leI, nI_eq, ↓lift_lt, ↓k_mt, ↓k_mp, if_true, if_false, Bool.false_eq_true, Nat.not_lt_zero, Nat.zero_le, Nat.reduceEqDiff, Nat.reduceLeDiff, Nat.reduceLT, h1]
      unfold gX12_readLead_40
      refine (lpw_l eb).trans ?_
      exact lpw_r (wM pw vm _ _ _ _)
    have good : ∀ {m' : Mu} {c' : Ch} {a' b' kd' nm' lo : Nat}, gX12_takes m (nI lo) (nI (D - led)) = some (nI nm, m') → (gX12_readLead_40b m (nI (D - led)) (nI told) (nI (5 ^ p)) (nI p) = gX12_readLead_77 m (nI (D - led)) (nI told) (nI (5 ^ p)) (nI p) (nI lo)) → (gX4_tellLead_26b h c (nI led) (nI told) (nI p) = gX4_tellLead_94 h c (nI led) (nI told) (nI p)) → gX4_takeNumber h c (nI (D - led)) = some (nI 1, c') → TSx t N h m' c' a' b' kd' nm' → a < a' → mfn m m' → cfn (cI c 82 4 (nI nm)) c' → nm ≤ D - led → (p + 1 = P → nm = D - led) →
        (∃ m2 c2 a2 b2 kd2 nm2 l, gX12_readLead_40 m (nI (D - led)) (nI told) (nI (5 ^ p)) (nI p) = gX12_readLead_105 m2 (nI l) ∧ gX4_tellLead_26 h c (nI led) (nI told) (nI p) = gX4_tellLead_135 h c2 (nI l) ∧ TSx t N h m2 c2 a2 b2 kd2 nm2 ∧ a ≤ a2 ∧ l < 5 ^ P ∧ (0 < P → dsum P l = D) ∧ mfn m1 m2 ∧ lfC c1 c2 ∧ (∀ k, ¬ k = 4 → c2.1 82 k = c1.1 82 k) ∧ c2.2.2.1 = c1.2.2.1) ∨
        (∃ m2 c2, gX12_readLead_40 m (nI (D - led)) (nI told) (nI (5 ^ p)) (nI p) = some m2 ∧ gX4_tellLead_26 h c (nI led) (nI told) (nI p) = some (nI 0, c2) ∧ LFx m0 c0 m2 c2) := by
      intro m' c' a' b' kd' nm' lo h1 h2 h3 h4 T' l' g1 g2 hn hlast
      have n5 : nm < 5 := by omega
      have w4 : c'.1 82 4 = nI nm := by rw [g2.1 82 (by decide), cI_1, if_pos rfl, if_pos rfl]
      have sN : nI (D - led) - nI nm = nI (D - (led + nm)) := by rw [pk_sub hn, Nat.sub_sub]
      have b3 : nm * 5 ^ p ≤ 4 * 5 ^ p := Nat.mul_le_mul_right _ (by omega)
      have eR : gX12_readLead_40 m (nI (D - led)) (nI told) (nI (5 ^ p)) (nI p) = gX12_readLead_40 m' (nI (D - (led + nm))) (nI (told + nm * 5 ^ p)) (nI (5 ^ (p + 1))) (nI (p + 1)) := by
        have eb : gX12_readLead_40b m (nI (D - led)) (nI told) (nI (5 ^ p)) (nI p) = some (.inl (nI (D - (led + nm)), nI (told + nm * 5 ^ p), nI (5 ^ (p + 1)), nI (p + 1), m')) := by
          rw [h2, pp, Nat.mul_comm nm]
          unfold gX12_readLead_77
          simp (disch := omega) only [n_lit, n_of, n_o1, nI_add, pk_mul, nI_ltI, nI_leI, nI_eq, ↓lift_lt, ↓k_mt, ↓k_mp, if_true, if_false, Bool.false_eq_true, Nat.not_lt_zero, Nat.zero_le, Nat.reduceEqDiff, Nat.reduceLeDiff, Nat.reduceLT, h1, sN]
        unfold gX12_readLead_40
        exact lpw_l eb
      have eC : gX4_tellLead_26 h c (nI led) (nI told) (nI p) = gX4_tellLead_26 h c' (nI (led + nm)) (nI (told + nm * 5 ^ p)) (nI (p + 1)) := by
        have eb : gX4_tellLead_26b h c (nI led) (nI told) (nI p) = some (.inl (nI (led + nm), nI (told + nm * 5 ^ p), nI (p + 1), c')) := by
          rw [h3]
          unfold gX4_tellLead_94
          simp (disch := omega) only [n_lit, n_of, n_o1, nI_add, pk_mul, nI_ltI, nI_leI, nI_eq, ↓lift_lt, ↓k_mt, ↓k_mp, if_true, if_false, Bool.false_eq_true, Nat.not_lt_zero, Nat.zero_le, Nat.reduceEqDiff, Nat.reduceLeDiff, Nat.reduceLT, v9, sD, h4, i1, tt, w4]
        unfold gX4_tellLead_26
        exact lpw_l eb
      have R := ih (p + 1) m' c' a' b' kd' nm' (led + nm) (told + nm * 5 ^ p) (by omega) T' (by omega) (by omega) (by rw [dsum_add ht n5, hs]) (fun q _ => by have := hlast q; omega) (mfn_tr f1 g1) (lfC_n (lfC_I fC) g2) (fun k hk => by rw [g2.1 82 (by decide), cI_1, if_pos rfl, if_neg hk]; exact e82 k hk) (by rw [g2.2.2]; exact er) fM0 fC0
      rw [eR, eC]
      rcases R with ⟨m2, c2, a2, b2, kd2, nm2, l, y1, y2, y3, y4, y5⟩ | R
      · exact Or.inl ⟨m2, c2, a2, b2, kd2, nm2, l, y1, y2, y3, by omega, y5⟩
      · exact Or.inr R
    by_cases zl : p = P - 1
    · have e40 : gX12_readLead_40b m (nI (D - led)) (nI told) (nI (5 ^ p)) (nI p) = gX12_readLead_77 m (nI (D - led)) (nI told) (nI (5 ^ p)) (nI p) (nI (D - led)) := by
        unfold gX12_readLead_40b
        simp (disch := omega) only [n_lit, n_of, n_o1, nI_add, pk_mul, nI_ltI, nI_leI, nI_eq, ↓lift_lt, ↓k_mt, ↓k_mp, if_true, if_false, Bool.false_eq_true, Nat.not_lt_zero, Nat.zero_le, Nat.reduceEqDiff, Nat.reduceLeDiff, Nat.reduceLT, mA_4, v1, p1, T.2.2, sP, eq_true zl]
      have e26 : gX4_tellLead_26b h c (nI led) (nI told) (nI p) = gX4_tellLead_54 h c (nI led) (nI told) (nI p) (nI 1) := by
        unfold gX4_tellLead_26b
        simp (disch := omega) only [n_lit, n_of, n_o1, nI_add, pk_mul, nI_ltI, nI_leI, nI_eq, ↓lift_lt, ↓k_mt, ↓k_mp, if_true, if_false, Bool.false_eq_true, Nat.not_lt_zero, Nat.zero_le, Nat.reduceEqDiff, Nat.reduceLeDiff, Nat.reduceLT, v8, p1, p4, sP, eq_true zl]
      have e54 : (kd = 23 → D - led ≤ nm) → gX4_tellLead_54 h c (nI led) (nI told) (nI p) (nI 1) = gX4_tellLead_94 h c (nI led) (nI told) (nI p) := fun hq => by
        unfold gX4_tellLead_54
        by_cases z : kd = 23
        · have ck : ckd kd = 2 := by rw [z]; rfl
          obtain ⟨n1, n2, n3⟩ := T.2.1.2.2.2.2.2.2.1 z
          have le : D ≤ led + nm := by have := hq z; omega
          simp (disch := omega) only [n_lit, n_of, n_o1, nI_add, pk_mul, nI_ltI, nI_leI, nI_eq, ↓lift_lt, ↓k_mt, ↓k_mp, if_true, if_false, Bool.false_eq_true, Nat.not_lt_zero, Nat.zero_le, Nat.reduceEqDiff, Nat.reduceLeDiff, Nat.reduceLT, i1, k6, ck, v9, n2, le]
        · have ck := ckd_2 z
          simp (disch := omega) only [n_lit, n_of, n_o1, nI_add, pk_mul, nI_ltI, nI_leI, nI_eq, ↓lift_lt, ↓k_mt, ↓k_mp, if_true, if_false, Bool.false_eq_true, Nat.not_lt_zero, Nat.zero_le, Nat.reduceEqDiff, Nat.reduceLeDiff, Nat.reduceLT, i1, k6, ck]
      rcases l_num (lo := D - led) (hi := D - led) (by omega) (by omega) T with ⟨m', c', a', b', kd', nm', x1, x2, T', l', g1, g2, z1, z2, z3⟩ | ⟨z1, z2, y, m', c', x1, x2, F⟩ | ⟨y, m', c', x1, x2, F, z1⟩
      · exact good x1 e40 (e26.trans (e54 (fun _ => z2))) x2 T' l' g1 g2 z3 (fun _ => by omega)
      · obtain ⟨r2, r3⟩ := fail x1 e40 F
        refine Or.inr ⟨m', c', r2, ?_, r3⟩
        have ck : ckd kd = 2 := by rw [z1]; rfl
        obtain ⟨n1, n2, n3⟩ := T.2.1.2.2.2.2.2.2.1 z1
        have nle : ¬ D ≤ led + nm := by omega
        have eb : gX4_tellLead_26b h c (nI led) (nI told) (nI p) = some (.inr (nI 0, c')) := by
          rw [e26]
          unfold gX4_tellLead_54
          simp (disch := omega) only [n_lit, n_of, n_o1, nI_add, pk_mul, nI_ltI, nI_leI, nI_eq, ↓lift_lt, ↓k_mt, ↓k_mp, if_true, if_false, Bool.false_eq_true, Nat.not_lt_zero, Nat.zero_le, Nat.reduceEqDiff, Nat.reduceLeDiff, Nat.reduceLT, i1, k6, ck, v9, n2, nle, x2, n_bl0]
        unfold gX4_tellLead_26
        exact lpw_r eb
      · obtain ⟨r2, r3⟩ := fail x1 e40 F
        refine Or.inr ⟨m', c', r2, ?_, r3⟩
        have eb : gX4_tellLead_26b h c (nI led) (nI told) (nI p) = some (.inr (nI 0, c')) := by
          rw [e26, e54 z1]
          unfold gX4_tellLead_94
          simp (disch := omega) only [n_lit, n_of, n_o1, nI_add, pk_mul, nI_ltI, nI_leI, nI_eq, ↓lift_lt, ↓k_mt, ↓k_mp, if_true, if_false, Bool.false_eq_true, Nat.not_lt_zero, Nat.zero_le, Nat.reduceEqDiff, Nat.reduceLeDiff, Nat.reduceLT, v9, sD, x2]
        unfold gX4_tellLead_26
        exact lpw_r eb
    · have e40 : gX12_readLead_40b m (nI (D - led)) (nI told) (nI (5 ^ p)) (nI p) = gX12_readLead_77 m (nI (D - led)) (nI told) (nI (5 ^ p)) (nI p) (nI 0) := by
        unfold gX12_readLead_40b
        simp (disch := omega) only [n_lit, n_of, n_o1, nI_add, pk_mul, nI_ltI, nI_leI, nI_eq, ↓lift_lt, ↓k_mt, ↓k_mp, if_true, if_false, Bool.false_eq_true, Nat.not_lt_zero, Nat.zero_le, Nat.reduceEqDiff, Nat.reduceLeDiff, Nat.reduceLT, mA_4, v1, p1, T.2.2, sP, zl]
      have e26 : gX4_tellLead_26b h c (nI led) (nI told) (nI p) = gX4_tellLead_94 h c (nI led) (nI told) (nI p) := by
        unfold gX4_tellLead_26b gX4_tellLead_54
        simp (disch := omega) only [n_lit, n_of, n_o1, nI_add, pk_mul, nI_ltI, nI_leI, nI_eq, ↓lift_lt, ↓k_mt, ↓k_mp, if_true, if_false, Bool.false_eq_true, Nat.not_lt_zero, Nat.zero_le, Nat.reduceEqDiff, Nat.reduceLeDiff, Nat.reduceLT, v8, p1, p4, sP, zl]
      rcases l_num (lo := 0) (hi := D - led) (by decide) (by omega) T with ⟨m', c', a', b', kd', nm', x1, x2, T', l', g1, g2, z1, z2, z3⟩ | ⟨-, q, -⟩ | ⟨y, m', c', x1, x2, F, -⟩
      · exact good x1 e40 e26 x2 T' l' g1 g2 z3 (fun q => by omega)
      · omega
      · obtain ⟨r2, r3⟩ := fail x1 e40 F
        refine Or.inr ⟨m', c', r2, ?_, r3⟩
        have eb : gX4_tellLead_26b h c (nI led) (nI told) (nI p) = some (.inr (nI 0, c')) := by
          rw [e26]
          unfold gX4_tellLead_94
          simp (disch := omega) only [n_lit, n_of, n_o1, nI_add, pk_mul, nI_ltI, nI_leI, nI_eq, ↓lift_lt, ↓k_mt, ↓k_mp, if_true, if_false, Bool.false_eq_true, Nat.not_lt_zero, Nat.zero_le, Nat.reduceEqDiff, Nat.reduceLeDiff, Nat.reduceLT, v9, sD, x2]
        unfold gX4_tellLead_26
        exact lpw_r eb
theorem l_lead {b nm : Nat} (T : TSx t N h m c a b 5 nm) (R : Rt (m.2.1 4) z nc) (C : Ct h c z) (O : okT z) (hl : nc ≤ a) (fM : lfM m0 m) (fC : lfC c0 c) :
    ∃ m', gX12_readLead m = some m' ∧ ((∃ c' z' a', gX4_tellLead h c = some (nI 1, c') ∧ LNx t N m0 c0 h m' c' z' nc a' ∧ z'.2.2.2.1 = z.2.2.2.1 ∧ a < a') ∨ (∃ c', gX4_tellLead h c = some (nI 0, c') ∧ LFx m0 c0 m' c')) := by
  obtain ⟨P, D, Y, ln, G, Ck, L, gl, fl⟩ := z
  obtain ⟨r1, r2, r3, r4, r5, r6, r7, r8, r9, r10, r11, r12⟩ := R
  obtain ⟨s1, s2, s3, s4, s5, s6, s7, s8, s9⟩ := C
  obtain ⟨o1, o2, o3, o4, o5, o6, o7⟩ := O
  have r2 : m.2.1 4 1 = nI P := r2
  have r3 : m.2.1 4 2 = nI D := r3
  have s2 : c.1 82 8 = nI P := s2
  have s3 : c.1 82 9 = nI D := s3
  have o1 : P ≤ 4 := o1
  have o2 : D ≤ 4 := o2
  by_cases p0 : P = 0
  · obtain ⟨m', c', e1, e2, F⟩ := l_fault (f := 2) (by decide) (by decide) T
    have pw := FAx_w F
    refine ⟨m', ?_, Or.inr ⟨c', ?_, LFx_of fM fC F⟩⟩
    · unfold gX12_readLead gX12_readLead_14
      simp (disch := omega) only [n_lit, n_of, n_o1, nI_add, pk_mul, nI_ltI, nI_leI, nI_eq, ↓lift_lt, ↓k_mt, ↓k_mp, if_true, if_false, Bool.false_eq_true, Nat.not_lt_zero, Nat.zero_le, Nat.reduceEqDiff, Nat.reduceLeDiff, Nat.reduceLT, mA_4, r2, eq_true p0, e1, pw]
    · unfold gX4_tellLead
      simp (disch := omega) only [n_lit, n_of, n_o1, nI_add, pk_mul, nI_ltI, nI_leI, nI_eq, ↓lift_lt, ↓k_mt, ↓k_mp, if_true, if_false, Bool.false_eq_true, Nat.not_lt_zero, Nat.zero_le, Nat.reduceEqDiff, Nat.reduceLeDiff, Nat.reduceLT, s2, eq_true p0, e2, n_bl0]
  · obtain ⟨m1, c1, a1, b1, kd1, nm1, e1, e2, T1, l1, f1, f2⟩ := l_next T (by decide)
    have v2 : m1.2.1 4 2 = nI D := by rw [f1.2]; exact r3
    have e82 : c1.1 82 = c.1 82 := f2.1 82 (by decide)
    have K := l_leads (t := t) (N := N) (h := h) (m0 := m0) (c0 := c0) (m1 := m1) (c1 := c1) o1 o2 (by rw [f1.2]; exact r2) (by rw [e82]; exact s2) (by rw [e82]; exact s3) P 0 m1 c1 a1 b1 kd1 nm1 0 0 (by omega) T1 (Nat.zero_le _) (by decide) rfl (fun q q2 => by omega) (mfn_rfl m1) ⟨fun _ _ _ => rfl, rfl, rfl, fun _ _ _ => rfl, fun _ _ => rfl, rfl⟩ (fun _ _ => rfl) rfl (lfM_n fM f1) (lfC_n fC f2)
    rw [Nat.sub_zero, Nat.pow_zero] at K
    have eR : gX12_readLead m = gX12_readLead_40 m1 (nI D) (nI 0) (nI 1) (nI 0) := by
      unfold gX12_readLead gX12_readLead_14
      simp (disch := omega) only [n_lit, n_of, n_o1, nI_add, pk_mul, nI_ltI, nI_leI, nI_eq, ↓lift_lt, ↓k_mt, ↓k_mp, if_true, if_false, Bool.false_eq_true, Nat.not_lt_zero, Nat.zero_le, Nat.reduceEqDiff, Nat.reduceLeDiff, Nat.reduceLT, mA_4, r2, p0, T.2.2, e1, v2]
    have eC : gX4_tellLead h c = gX4_tellLead_26 h c1 (nI 0) (nI 0) (nI 0) := by
      unfold gX4_tellLead
      simp (disch := omega) only [n_lit, n_of, n_o1, nI_add, pk_mul, nI_ltI, nI_leI, nI_eq, ↓lift_lt, ↓k_mt, ↓k_mp, if_true, if_false, Bool.false_eq_true, Nat.not_lt_zero, Nat.zero_le, Nat.reduceEqDiff, Nat.reduceLeDiff, Nat.reduceLT, s2, p0, e2]
    rw [eR, eC]
    rcases K with ⟨m2, c2, a2, b2, kd2, nm2, l, y1, y2, T2, y4, y5, y6, y7, y8, y9, y10⟩ | ⟨m2, c2, y1, y2, F⟩
    · have w1 : mW m2 4 (nI 23) (nI l) = some (mS m2 4 23 (nI l)) := mW_4 m2 _ (by decide)
      have w2 : mW (mS m2 4 23 (nI l)) 4 (nI 3) (nI 1) = some (mS (mS m2 4 23 (nI l)) 4 3 (nI 1)) := mW_4 _ _ (by decide)
      have sA : ∀ k, ¬ k = 23 → ¬ k = 3 → (mS (mS m2 4 23 (nI l)) 4 3 (nI 1)).2.1 4 k = m.2.1 4 k := fun k h1 h2 => by rw [mS_a, if_pos rfl, if_neg h2, mS_a, if_pos rfl, if_neg h1, y7.2, f1.2]
      have sC : ∀ k, ¬ k = 13 → ¬ k = 4 → (cI c2 82 13 (nI l)).1 82 k = c.1 82 k := fun k h1 h2 => by rw [cI_1, if_pos rfl, if_neg h1, y9 k h2, e82]
      have rr : (cI c2 82 13 (nI l)).2.2.1 = c.2.2.1 := by
        show c2.2.2.1 = _
        rw [y10, f2.2.2]
      have fM2 : lfM m0 m2 := lfM_n (lfM_n fM f1) y7
      have fC1 := lfC_n fC f2
      have fC2 : lfC c0 c2 := ⟨fun r a1 a2 => by rw [y8.1 r a1 a2]; exact fC1.1 r a1 a2, by rw [y8.2.1]; exact fC1.2.1, by rw [y8.2.2.1]; exact fC1.2.2.1, fun r k hk => by rw [y8.2.2.2.1 r k hk]; exact fC1.2.2.2.1 r k hk, fun r hr => by rw [y8.2.2.2.2.1 r hr]; exact fC1.2.2.2.2.1 r hr, by rw [y8.2.2.2.2.2]; exact fC1.2.2.2.2.2⟩
      refine ⟨mS (mS m2 4 23 (nI l)) 4 3 (nI 1), ?_, Or.inl ⟨cI c2 82 13 (nI l), (P, D, Y, ln, G, Ck, some l, gl, fl), a2, ?_, ⟨⟨b2, kd2, nm2, TS_S (TS_S (TS_I T2))⟩, ?_, ?_, ?_, by omega, lfM_S (lfM_S fM2), lfC_I fC2⟩, rfl, by omega⟩⟩
      · rw [y1]
        unfold gX12_readLead_105
        simp (disch := omega) only [n_lit, n_of, n_o1, nI_add, pk_mul, nI_ltI, nI_leI, nI_eq, ↓lift_lt, ↓k_mt, ↓k_mp, if_true, if_false, Bool.false_eq_true, Nat.not_lt_zero, Nat.zero_le, Nat.reduceEqDiff, Nat.reduceLeDiff, Nat.reduceLT, T2.2.2, w1, w2]
      · rw [y2]
        unfold gX4_tellLead_135
        simp (disch := omega) only [n_lit, n_of, n_o1, nI_add, pk_mul, nI_ltI, nI_leI, nI_eq, ↓lift_lt, ↓k_mt, ↓k_mp, if_true, if_false, Bool.false_eq_true, Nat.not_lt_zero, Nat.zero_le]
      · refine ⟨by rw [sA 0 (by decide) (by decide)]; exact r1, by rw [sA 1 (by decide) (by decide)]; exact r2, by rw [sA 2 (by decide) (by decide)]; exact r3, by rw [mS_a, if_pos rfl, if_pos rfl]; rfl, by rw [sA 4 (by decide) (by decide)]; exact r5, fun p hp => by rw [sA _ (by omega) (by omega)]; exact r6 p hp, fun p hp => by rw [sA _ (by omega) (by omega)]; exact r7 p hp, ?_, ⟨by rw [sA 24 (by decide) (by decide)]; exact r9.1, by rw [sA 25 (by decide) (by decide)]; exact r9.2.1, by rw [sA 26 (by decide) (by decide)]; exact r9.2.2⟩, lawN_eq (fun k hk => sA k (by omega) (by omega)) r10, lawN_eq (fun k hk => sA k (by omega) (by omega)) r11, by rw [sA 137 (by decide) (by decide)]; exact r12⟩
        rw [mS_a, if_pos rfl, if_neg (by decide), mS_a, if_pos rfl, if_pos rfl]
        rfl
      · refine ⟨by rw [sC 7 (by decide) (by decide)]; exact s1, by rw [sC 8 (by decide) (by decide)]; exact s2, by rw [sC 9 (by decide) (by decide)]; exact s3, by rw [sC 10 (by decide) (by decide)]; exact s4, by rw [sC 11 (by decide) (by decide)]; exact s5, by rw [sC 12 (by decide) (by decide)]; exact s6, ?_, by rw [rr]; exact s8, by rw [rr]; exact s9⟩
        rw [cI_1, if_pos rfl, if_pos rfl]
        rfl
      · exact ⟨o1, o2, o3, o4, o5, (fun l' hl' => by
          have e : l = l' := Option.some.inj hl'
          subst e
          exact ⟨by show 0 < P; omega, y5, y6⟩), o7⟩
    · exact ⟨m2, y1, Or.inr ⟨c2, y2, F⟩⟩
end LED1
