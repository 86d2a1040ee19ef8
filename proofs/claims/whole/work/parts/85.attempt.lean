/-! attempt: by which leading the chalks differ most -/
theorem l_shr {a j : Nat} (ha : a < 2 ^ 31) (hj : j < 31) : lN a >>> ((nI j).toInt64 &&& lN 63) = lN (a / 2 ^ j) := by
  have h2 : a / 2 ^ j < 2 ^ 31 := Nat.lt_of_le_of_lt (Nat.div_le_self _ _) ha
  have hs : (((nI j).toInt64 &&& lN 63).toBitVec.smod 64).toNat = j := by
    have : ∀ j : Fin 31, (((nI j.1).toInt64 &&& lN 63).toBitVec.smod 64).toNat = j.1 := by decide
    exact this ⟨j, hj⟩
  apply Int64.toInt_inj.mp
  show ((lN a).toBitVec.sshiftRight (((nI j).toInt64 &&& lN 63).toBitVec.smod 64).toNat).toInt = _
  rw [hs, BitVec.toInt_sshiftRight]
  show (lN a).toInt >>> j = _
  rw [lN_toInt ha, lN_toInt h2, Int.shiftRight_eq_div_pow]
  rfl
theorem l_and (a b : Nat) : lN a &&& lN b = lN (a &&& b) := by
  apply Int64.toBitVec_inj.1
  show BitVec.ofNat 64 a &&& BitVec.ofNat 64 b = BitVec.ofNat 64 (a &&& b)
  apply BitVec.eq_of_getLsbD_eq
  intro i hi
  simp only [BitVec.getLsbD_and, BitVec.getLsbD_ofNat, Nat.testBit_and, hi, decide_true, Bool.true_and]
theorem q_isIn {a j : Nat} (ha : a < 2 ^ 31) (hj : j < 31) : gX12_isIn (nI a).toInt64 (nI j) = some (nI (if a / 2 ^ j % 2 = 1 then 1 else 0)) := by
  have h2 : a / 2 ^ j % 2 < 2 := Nat.mod_lt _ (by decide)
  have nl : (nI a).toInt64 = lN a := nI_l ha
  unfold gX12_isIn gX12_isIn_15
  by_cases z : a / 2 ^ j % 2 = 1
  · have g : lg_cmp (lN 1) (lN 1) = nI 0 := (lg_e' _ _).mpr rfl
    rw [if_pos z]
    simp (disch := omega) only [n_lit, n_of, n_o1, nI_add, pk_mul, nI_ltI, nI_leI, nI_eq, ↓lift_lt, ↓k_mt, ↓k_mp, if_true, if_false, Bool.false_eq_true, Nat.not_lt_zero, Nat.zero_le, Nat.reduceEqDiff, Nat.reduceLeDiff, Nat.reduceLT, n_litL, nl, l_shr, l_and, Nat.and_one_is_mod, z, g, n_bl1]
  · have z0 : a / 2 ^ j % 2 = 0 := by omega
    have g : ¬ lg_cmp (lN 0) (lN 1) = nI 0 := fun q => by
      have := (lN_eq (by decide) (by decide)).mp ((lg_e' _ _).mp q)
      omega
    rw [if_neg z]
    simp (disch := omega) only [n_lit, n_of, n_o1, nI_add, pk_mul, nI_ltI, nI_leI, nI_eq, ↓lift_lt, ↓k_mt, ↓k_mp, if_true, if_false, Bool.false_eq_true, Nat.not_lt_zero, Nat.zero_le, Nat.reduceEqDiff, Nat.reduceLeDiff, Nat.reduceLT, n_litL, nl, l_shr, l_and, Nat.and_one_is_mod, z0, g, n_bl0]
def ixg (gl : Option (List Nat)) (ch p drops gap met : Nat) : Nat := (nI 9 + grw gl ch p drops gap met 0).toNatClampNeg
theorem grw_ix {gl : Option (List Nat)} {ch p drops gap met : Nat} (hd : drops < 5) : ixg gl ch p drops gap met < 19 ∧ nI 9 + grw gl ch p drops gap met 0 = nI (ixg gl ch p drops gap met) ∧ grw gl ch p drops gap met 0 + nI 9 = nI (ixg gl ch p drops gap met) := by
  have key : ∃ k, k < 19 ∧ nI 9 + grw gl ch p drops gap met 0 = nI k := by
    cases gl with
    | none =>
      refine ⟨9 + drops, by omega, ?_⟩
      show nI 9 + (if 0 = 1 then (0 : Int32) else nI drops) = _
      rw [if_neg (by decide), nI_add]
    | some code =>
      obtain ⟨n, n1, n2, n3, -⟩ := cl9_b (lawv (wG p (dg ch p) drops gap met 0) code)
      refine ⟨n - 1, by omega, ?_⟩
      show nI 9 + cl9 (lawv (wG p (dg ch p) drops gap met 0) code) = _
      rw [← pk_sub n1, ← n3]
      generalize cl9 (lawv (wG p (dg ch p) drops gap met 0) code) = g
      have e : nI 10 = nI 9 + nI 1 := by rw [nI_add]
      rw [e, Int32.add_assoc, Int32.add_comm (nI 1) g, ← Int32.add_assoc, Int32.add_sub_cancel]
  obtain ⟨k, hk, e⟩ := key
  have ek : ixg gl ch p drops gap met = k := by unfold ixg; rw [e]; exact nI_clamp (by omega)
  rw [ek]
  exact ⟨hk, e, by rw [Int32.add_comm]; exact e⟩
def cnx (A : Nat) (ix : Nat → Nat) (k j : Nat) : Nat := csum (fun i => if A / 2 ^ i % 2 = 1 ∧ ix i = k then 1 else 0) j
def grt (A : Nat) (ix : Nat → Nat) : Nat → Nat
  | 0 => 0
  | j + 1 => if A / 2 ^ j % 2 = 1 then (if grt A ix j < cnx A ix (ix j) (j + 1) then cnx A ix (ix j) (j + 1) else grt A ix j) else grt A ix j
theorem cnx_b (A : Nat) (ix : Nat → Nat) (k j : Nat) : cnx A ix k j ≤ j := csum_b (fun i => by split <;> omega) j
theorem grt_b (A : Nat) (ix : Nat → Nat) : ∀ j, grt A ix j ≤ j
  | 0 => Nat.le_refl 0
  | j + 1 => by
    have h1 := grt_b A ix j
    have h2 := cnx_b A ix (ix j) (j + 1)
    show (if A / 2 ^ j % 2 = 1 then (if grt A ix j < cnx A ix (ix j) (j + 1) then cnx A ix (ix j) (j + 1) else grt A ix j) else grt A ix j) ≤ j + 1
    split
    · split <;> omega
    · omega
theorem cnx_s (A : Nat) (ix : Nat → Nat) (k j : Nat) : cnx A ix k (j + 1) = cnx A ix k j + (if A / 2 ^ j % 2 = 1 ∧ ix j = k then 1 else 0) := rfl
section QMO
variable {v : Cv} {s : St} {m : Mu} {p drops A : Nat} {ix : Nat → Nat}
def Ao (r : Nat) : Bool := Ar56 r || decide (r = 19)
theorem Ao_f {r : Nat} (h : Ao r = false) : Ar56 r = false ∧ ¬ r = 19 := by
  unfold Ao at h
  simp only [Bool.or_eq_false_iff, decide_eq_false_iff_not] at h
  exact h
theorem RD_o {m' : Mu} (H : RD m v s) (f : mfr Ao m m') : RD m' v s := by
  unfold RD at *
  rw [f.2.2 1 rfl]
  exact H
theorem q_mostOften (H : RD m v s) (hp : p < vP v) (hd : drops < 5) (hA : A < 2 ^ 10) (hix : ix = fun j => ixg (vg v) (setd s.2.1 p j) p drops (dg s.1 p) (mets (vP v) s.1)) :
    ∃ m', gX12_mostOften m (nI p) (nI drops) (nI A) = some (nI (grt A ix 10), m') ∧ mfr Ao m m' := by
  have hP := H.2.2.1.1
  have hp4 : p < 4 := by omega
  have hs := H.2.2.2.1
  have s31 : s.1 < 2 ^ 31 := by omega
  have hmb := metb_lt (vP v) s.1
  have p16 := pow2_le hP
  -- the row of zeros
  have K0 : ∃ m0, (∀ k, k < 19 → m0.2.1 19 k = nI 0) ∧ mfr Ao m m0 ∧ gX12_mostOften m (nI p) (nI drops) (nI A) = gX12_mostOften_30 m0 (nI p) (nI drops) (nI A) (nI 0) (nI 0) := by
    have key : ∀ j, j ≤ 19 → ∃ m0, (∀ k, k < j → m0.2.1 19 k = nI 0) ∧ mfr Ao m m0 ∧ gX12_mostOften_6 m (nI p) (nI drops) (nI A) (nI 0) (nI 0) = gX12_mostOften_6 m0 (nI p) (nI drops) (nI A) (nI 0) (nI j) := by
      intro j
      induction j with
      | zero => intro _; exact ⟨m, fun k hk => by omega, mfr_rfl _ m, rfl⟩
      | succ j ih =>
        intro hj
        obtain ⟨m0, q1, q2, q3⟩ := ih (by omega)
        refine ⟨mS m0 19 j (nI 0), fun k hk => ?_, mfr_S q2 rfl, ?_⟩
        · rw [mS_a, if_pos rfl]
          by_cases e : k = j
          · rw [if_pos e]
          · rw [if_neg e]; exact q1 k (by omega)
        · rw [q3]
          have j1 : ¬ 19 ≤ j := by omega
          have eb : gX12_mostOften_6b m0 (nI p) (nI drops) (nI A) (nI 0) (nI j) = some (.inl (nI (j + 1), mS m0 19 j (nI 0))) := by
            unfold gX12_mostOften_6b
            simp (disch := omega) only [n_lit, n_of, n_o1, nI_add, pk_mul, nI_ltI, nI_leI, nI_eq, ↓lift_lt, ↓k_mt, ↓k_mp, if_true, if_false, Bool.false_eq_true, Nat.not_lt_zero, Nat.zero_le, Nat.reduceEqDiff, Nat.reduceLeDiff, Nat.reduceLT, j1, mW_19]
          unfold gX12_mostOften_6
          exact lpw_l eb
    obtain ⟨m0, q1, q2, q3⟩ := key 19 (Nat.le_refl _)
    refine ⟨m0, q1, q2, ?_⟩
    show gX12_mostOften_6 m (nI p) (nI drops) (nI A) (nI 0) (nI 0) = _
    rw [q3]
    have eb : gX12_mostOften_6b m0 (nI p) (nI drops) (nI A) (nI 0) (nI 19) = (gX12_mostOften_30 m0 (nI p) (nI drops) (nI A) (nI 0) (nI 0)).map (fun q => .inr q) := by
      unfold gX12_mostOften_6b gX12_mostOften_27
      simp (disch := omega) only [n_lit, n_of, n_o1, nI_add, pk_mul, nI_ltI, nI_leI, nI_eq, ↓lift_lt, ↓k_mt, ↓k_mp, if_true, if_false, Bool.false_eq_true, Nat.not_lt_zero, Nat.zero_le, Nat.reduceEqDiff, Nat.reduceLeDiff, Nat.reduceLT, Nat.le_refl]
    unfold gX12_mostOften_6
    exact lpw_m eb
  obtain ⟨m0, z0, f0, e0⟩ := K0
  rw [e0]
  unfold gX12_mostOften_30
  have K := lpw_all (body := fun q : Int32 × Int32 × Mu => gX12_mostOften_30b q.2.2 (nI p) (nI drops) (nI A) q.1 q.2.1)
    (fun k q => q.1 = nI (grt A ix k) ∧ q.2.1 = nI k ∧ mfr Ao m q.2.2 ∧ ∀ i, i < 19 → q.2.2.2.1 19 i = nI (cnx A ix i k))
    (fun r => r.1 = nI (grt A ix 10) ∧ mfr Ao m r.2) 10 ?_ ?_ (nI 0, nI 0, m0) ⟨rfl, rfl, f0, z0⟩
  · obtain ⟨r, e, e1, e2⟩ := K
    exact ⟨r.2, by rw [e]; exact congrArg some (Prod.ext e1 rfl), e2⟩
  · rintro k ⟨z1, z2, z3⟩ hk ⟨g1, g2, g3, g4⟩
    have g1 : z1 = nI (grt A ix k) := g1
    have g2 : z2 = nI k := g2
    subst g1 g2
    have g3 : mfr Ao m z3 := g3
    have g4 : ∀ i, i < 19 → z3.2.1 19 i = nI (cnx A ix i k) := g4
    have k1 : ¬ 10 ≤ k := by omega
    have H3 := RD_o H g3
    have ei := q_isIn (a := A) (j := k) (by omega) (by omega)
    show ∃ s', gX12_mostOften_30b z3 (nI p) (nI drops) (nI A) (nI (grt A ix k)) (nI k) = some (.inl s') ∧ _
    unfold gX12_mostOften_30b gX12_mostOften_119 gX12_mostOften_121
    have gs : grt A ix (k + 1) = if A / 2 ^ k % 2 = 1 then (if grt A ix k < cnx A ix (ix k) (k + 1) then cnx A ix (ix k) (k + 1) else grt A ix k) else grt A ix k := rfl
    by_cases z : A / 2 ^ k % 2 = 1
    · rw [if_pos z] at ei gs
      have i1 : ¬ (1 = 0) := by decide
      obtain ⟨x1, x2, x3⟩ := grw_ix (gl := vg v) (ch := setd s.2.1 p k) (p := p) (drops := drops) (gap := dg s.1 p) (met := mets (vP v) s.1) hd
      have ek : ixg (vg v) (setd s.2.1 p k) p drops (dg s.1 p) (mets (vP v) s.1) = ix k := by rw [hix]
      rw [ek] at x1 x2
      have v15 : z3.2.1 1 (15 + p) = nI (dg s.1 p) := H3.2.1.1 p hp4
      have sdk : dg (setd s.2.1 p k) p = k := by
        have := setd_dg (s := s.2.1) hp4 hk hp4
        rw [if_pos rfl] at this
        exact this
      obtain ⟨m1, em1, fm1⟩ := q_growsBy (m := z3) (gl := vg v) (ch := setd s.2.1 p k) (p := p) (drops := drops) (gap := dg s.1 p) (met := mets (vP v) s.1) (dry := 0) H3.1.2.2.2.2.2.1 (fun code hc => (H3.2.2.1.2.2.2.2.2.2.2.1 code hc).1) (by decide)
      rw [sdk] at em1
      have w19 : m1.2.1 19 (ix k) = nI (cnx A ix (ix k) k) := by rw [fm1.2.2 19 rfl]; exact g4 _ x1
      have cs : cnx A ix (ix k) (k + 1) = cnx A ix (ix k) k + 1 := by rw [cnx_s, if_pos ⟨z, rfl⟩]
      have w19' : (mS m1 19 (ix k) (nI (cnx A ix (ix k) k + 1))).2.1 19 (ix k) = nI (cnx A ix (ix k) (k + 1)) := by rw [mS_a, if_pos rfl, if_pos rfl, cs]
      have cb := cnx_b A ix (ix k) (k + 1)
      have gb := grt_b A ix k
      have fz : mfr Ao m (mS m1 19 (ix k) (nI (cnx A ix (ix k) k + 1))) := mfr_S (mfr_tr g3 ⟨fm1.1, fm1.2.1, fun r hr => fm1.2.2 r (Ao_f hr).1⟩) rfl
      refine ⟨(nI (grt A ix (k + 1)), nI (k + 1), mS m1 19 (ix k) (nI (cnx A ix (ix k) k + 1))), ?_, rfl, rfl, fz, fun i hi => ?_⟩
      · rw [gs]
        by_cases y : grt A ix k < cnx A ix (ix k) (k + 1)
        · have y' : ¬ cnx A ix (ix k) (k + 1) ≤ grt A ix k := by omega
          rw [if_pos y]
          simp (disch := omega) only [n_lit, n_of, n_o1, nI_add, pk_mul, nI_ltI, nI_leI, nI_eq, ↓lift_lt, ↓k_mt, ↓k_mp, if_true, if_false, Bool.false_eq_true, Nat.not_lt_zero, Nat.zero_le, Nat.reduceEqDiff, Nat.reduceLeDiff, Nat.reduceLT, k1, ei, i1, mA_1, v15, q_nowD H3, q_metIn hP H3.1.2.1 s31, q_bitsOf, bct_metb hP, em1, x2, mA_19, w19, mW_19, w19', y']
        · have y' : cnx A ix (ix k) (k + 1) ≤ grt A ix k := by omega
          rw [if_neg y]
          simp (disch := omega) only [n_lit, n_of, n_o1, nI_add, pk_mul, nI_ltI, nI_leI, nI_eq, ↓lift_lt, ↓k_mt, ↓k_mp, if_true, if_false, Bool.false_eq_true, Nat.not_lt_zero, Nat.zero_le, Nat.reduceEqDiff, Nat.reduceLeDiff, Nat.reduceLT, k1, ei, i1, mA_1, v15, q_nowD H3, q_metIn hP H3.1.2.1 s31, q_bitsOf, bct_metb hP, em1, x2, mA_19, w19, mW_19, w19', y']
      · show (mS m1 19 (ix k) (nI (cnx A ix (ix k) k + 1))).2.1 19 i = _
        rw [mS_a, if_pos rfl]
        by_cases e : i = ix k
        · rw [if_pos e, e, cs]
        · rw [if_neg e, fm1.2.2 19 rfl, g4 i hi, cnx_s, if_neg (fun q => e q.2.symm), Nat.add_zero]
    · rw [if_neg z] at ei gs
      refine ⟨(nI (grt A ix (k + 1)), nI (k + 1), z3), ?_, rfl, rfl, g3, fun i hi => ?_⟩
      · rw [gs]
        simp (disch := omega) only [n_lit, n_of, n_o1, nI_add, pk_mul, nI_ltI, nI_leI, nI_eq, ↓lift_lt, ↓k_mt, ↓k_mp, if_true, if_false, Bool.false_eq_true, Nat.not_lt_zero, Nat.zero_le, Nat.reduceEqDiff, Nat.reduceLeDiff, Nat.reduceLT, k1, ei]
      · show z3.2.1 19 i = _
        rw [g4 i hi, cnx_s, if_neg (fun q => z q.1), Nat.add_zero]
  · rintro ⟨z1, z2, z3⟩ ⟨g1, g2, g3, g4⟩
    have g2 : z2 = nI 10 := g2
    subst g2
    show ∃ r, gX12_mostOften_30b z3 (nI p) (nI drops) (nI A) z1 (nI 10) = some (.inr r) ∧ _
    refine ⟨(z1, z3), ?_, g1, g3⟩
    unfold gX12_mostOften_30b
    simp (disch := omega) only [n_lit, n_of, n_o1, nI_add, pk_mul, nI_ltI, nI_leI, nI_eq, ↓lift_lt, ↓k_mt, ↓k_mp, if_true, if_false, Bool.false_eq_true, Nat.not_lt_zero, Nat.zero_le, Nat.reduceEqDiff, Nat.reduceLeDiff, Nat.reduceLT, Nat.le_refl]
end QMO
section CMO
variable {T : Nat} {h : Hp} {V : Nat → Cv} {c : Ch} {x : Sp} {p drops A : Nat} {ix : Nat → Nat}
theorem c_mostAlike (gC : RC T h V c x) (hw : WF x) (hp : p < vP (zV x)) (hd : drops < 5) (hA : A < 2 ^ 10) (hix : ix = fun j => ixg (vg (zV x)) (setd (zS x).2.1 p j) p drops (dg (zS x).1 p) (mets (vP (zV x)) (zS x).1)) :
    ∃ c', gX11_mostAlike h c (nI A) (nI p) (nI drops) = some (nI (grt A ix 10), c') ∧ RC T h V c' x := by
  have hP := hw.2.2.1.1
  have hs := hw.2.2.2.1
  have q1 := hs.1
  have s31 : (zS x).1 < 2 ^ 31 := by omega
  have p10 := pow10_le hP
  have hch := hs.2.2.1
  have hp4 : p < 4 := by omega
  obtain ⟨-, -, ⟨a, a3, eV, aC⟩, a4, -⟩ := gC.1
  obtain ⟨ax0, chx0, T0⟩ := gC.2.1
  obtain ⟨cf, ecf⟩ : ∃ cf, cf = cFA c 0 127 (nI 0) 19 := ⟨_, rfl⟩
  have fr : ∀ r, ¬ r = 127 → cf.2.2.2.1 r = c.2.2.2.1 r := fun r hr => by rw [ecf]; exact if_neg hr
  have fy : ∀ i, i < 19 → cf.2.2.2.1 127 i = nI 0 := fun i hi => by
    rw [ecf]
    show (if 127 = 127 then (fun i => if i < 19 then nar 0 (nI 0) else c.2.2.2.1 127 i) else c.2.2.2.1 127) i = _
    rw [if_pos rfl]
    show (if i < 19 then nar 0 (nI 0) else c.2.2.2.1 127 i) = _
    rw [if_pos hi]
    rfl
  have Tf : CT h V cf ax0 chx0 := by
    obtain ⟨t1, t2, t3, t4, t5, t6, t7⟩ := T0
    exact ⟨by rw [ecf]; exact t1, t2, t3, by rw [ecf]; exact t4, t5, by rw [fr 111 (by decide)]; exact t6, by rw [fr 112 (by decide)]; exact t7⟩
  have qf : qfr c cf := ⟨fun r _ _ _ => by rw [ecf]; rfl, fun r _ => by rw [ecf]; rfl, fun r hr => fr r (fun q => by rw [q] at hr; cases hr), by rw [ecf]; rfl⟩
  have g0 : gfill_127 c (nI 0) = some cf := by rw [ecf]; rfl
  have K := lpw_all (body := fun q : Int32 × Int32 × Ch => gX11_mostAlike_14b h q.2.2 (nI A) (nI p) (nI drops) q.1 q.2.1)
    (fun k q => q.1 = nI (grt A ix k) ∧ q.2.1 = nI k ∧ (∃ a ch, CT h V q.2.2 a ch) ∧ qfr c q.2.2 ∧ ∀ i, i < 19 → q.2.2.2.2.2.1 127 i = nI (cnx A ix i k))
    (fun r => r.1 = nI (grt A ix 10) ∧ (∃ a ch, CT h V r.2 a ch) ∧ qfr c r.2) 10 ?_ ?_ (nI 0, nI 0, cf) ⟨rfl, rfl, ⟨_, _, Tf⟩, qf, fy⟩
  · obtain ⟨r, e, e1, e2, e3⟩ := K
    refine ⟨r.2, ?_, RC_q gC e3 e2⟩
    have e' : gX11_mostAlike_14 h cf (nI A) (nI p) (nI drops) (nI 0) (nI 0) = some (nI (grt A ix 10), r.2) := by
      unfold gX11_mostAlike_14
      rw [e]
      exact congrArg some (Prod.ext e1 rfl)
    unfold gX11_mostAlike
    simp (disch := omega) only [n_lit, n_of, n_o1, nI_add, pk_mul, nI_ltI, nI_leI, nI_eq, ↓lift_lt, ↓k_mt, ↓k_mp, if_true, if_false, Bool.false_eq_true, Nat.not_lt_zero, Nat.zero_le, Nat.reduceEqDiff, Nat.reduceLeDiff, Nat.reduceLT, g0, e']
  · rintro k ⟨z1, z2, z3⟩ hk ⟨g1, g2, ⟨ax, chx, g3⟩, g4, g5⟩
    have g1 : z1 = nI (grt A ix k) := g1
    have g2 : z2 = nI k := g2
    subst g1 g2
    have g3 : CT h V z3 ax chx := g3
    have g4 : qfr c z3 := g4
    have g5 : ∀ i, i < 19 → z3.2.2.2.1 127 i = nI (cnx A ix i k) := g5
    have k1 : ¬ 9 < k := by omega
    have hb : A / 2 ^ k % 2 < 2 := Nat.mod_lt _ (by decide)
    have gs : grt A ix (k + 1) = if A / 2 ^ k % 2 = 1 then (if grt A ix k < cnx A ix (ix k) (k + 1) then cnx A ix (ix k) (k + 1) else grt A ix k) else grt A ix k := rfl
    show ∃ s', gX11_mostAlike_14b h z3 (nI A) (nI p) (nI drops) (nI (grt A ix k)) (nI k) = some (.inl s') ∧ _
    unfold gX11_mostAlike_14b gX11_mostAlike_139
    by_cases z : A / 2 ^ k % 2 = 1
    · rw [if_pos z] at gs
      have sd := setd_10k (d := k) hP hp hk hch
      have y3 : z3.2.2.1 80 3 = some a := by rw [g4.2.1 80 (by decide)]; exact a3
      have ys : stc z3 0 (zS x) := stc_eq (g4.1 _ (by decide) (by decide) (by decide)) a4
      have wd := c_withDigit (s := (zS x).2.1) (p := p) (d := k) (by omega) hp4
      obtain ⟨c4, e4, T4, r1, r2, r3, r4, r5⟩ := c_tune g3 (a' := a) (ch' := setd (zS x).2.1 p k) (by rw [eV]; exact aC) (by rw [eV]; exact hw.2.2.1) sd
      have q4 : qfr z3 c4 := ⟨fun r q _ _ => r1 r q, r3, fun r hr => r4 r (scr_12 hr), r5⟩
      have q04 := qfr_tr g4 q4
      have u3 : c4.2.2.1 80 3 = some a := by rw [q04.2.1 80 (by decide)]; exact a3
      have us : stc c4 0 (zS x) := stc_eq (q04.1 _ (by decide) (by decide) (by decide)) a4
      have hdg := dg_lt (zS x).1 p
      have hm4 := mets_le (vP (zV x)) (zS x).1
      obtain ⟨c5, e5, T5, f5⟩ := c_growth (p := p) (drops := drops) (gap := dg (zS x).1 p) (met := mets (vP (zV x)) (zS x).1) (dry := 0) T4 hp4 hd hdg (by omega) (by decide)
      rw [eV] at e5
      obtain ⟨x1, x2, x3⟩ := grw_ix (gl := vg (zV x)) (ch := setd (zS x).2.1 p k) (p := p) (drops := drops) (gap := dg (zS x).1 p) (met := mets (vP (zV x)) (zS x).1) hd
      have ek : ixg (vg (zV x)) (setd (zS x).2.1 p k) p drops (dg (zS x).1 p) (mets (vP (zV x)) (zS x).1) = ix k := by rw [hix]
      rw [ek] at x1 x3
      have n19 : ¬ 19 ≤ ix k := by omega
      have w27 : ∀ i, i < 19 → c5.2.2.2.1 127 i = nI (cnx A ix i k) := fun i hi => by rw [f5.2.2.2.1 127 rfl, r4 127 rfl]; exact g5 i hi
      have cs : cnx A ix (ix k) (k + 1) = cnx A ix (ix k) k + 1 := by rw [cnx_s, if_pos ⟨z, rfl⟩]
      have w27' : (cS c5 127 (ix k) (nI (cnx A ix (ix k) k + 1))).2.2.2.1 127 (ix k) = nI (cnx A ix (ix k) (k + 1)) := by rw [cS_4, if_pos rfl, if_pos rfl, cs]
      have cb := cnx_b A ix (ix k) (k + 1)
      have gb := grt_b A ix k
      refine ⟨(nI (grt A ix (k + 1)), nI (k + 1), cS c5 127 (ix k) (nI (cnx A ix (ix k) k + 1))), ?_, rfl, rfl, ⟨a, _, CT_w T5 (by decide) (by decide)⟩, qfr_S (qfr_tr q04 (qfr_12 f5)) rfl, fun i hi => ?_⟩
      · rw [gs]
        simp (disch := omega) only [n_lit, n_of, n_o1, nI_add, pk_mul, nI_ltI, nI_leI, nI_eq, ↓lift_lt, ↓k_mt, ↓k_mp, if_true, if_false, Bool.false_eq_true, Nat.not_lt_zero, Nat.zero_le, Nat.reduceEqDiff, Nat.reduceLeDiff, Nat.reduceLT, k1, n_and, n_shrN, Nat.and_one_is_mod, z, y3, ys.2.1, wd, e4, us.1, c_digit, u3, cv_O aC, c_metCount aC hP s31, e5, x3, n19, cA_g, w27 _ x1, cW0_g, w27', imax_n]
      · show (cS c5 127 (ix k) (nI (cnx A ix (ix k) k + 1))).2.2.2.1 127 i = _
        rw [cS_4, if_pos rfl]
        by_cases e : i = ix k
        · rw [if_pos e, e, cs]
        · rw [if_neg e, w27 i hi, cnx_s, if_neg (fun q => e q.2.symm), Nat.add_zero]
    · rw [if_neg z] at gs
      refine ⟨(nI (grt A ix (k + 1)), nI (k + 1), z3), ?_, rfl, rfl, ⟨_, _, g3⟩, g4, fun i hi => ?_⟩
      · rw [gs]
        simp (disch := omega) only [n_lit, n_of, n_o1, nI_add, pk_mul, nI_ltI, nI_leI, nI_eq, ↓lift_lt, ↓k_mt, ↓k_mp, if_true, if_false, Bool.false_eq_true, Nat.not_lt_zero, Nat.zero_le, Nat.reduceEqDiff, Nat.reduceLeDiff, Nat.reduceLT, k1, n_and, n_shrN, Nat.and_one_is_mod, z]
      · show z3.2.2.2.1 127 i = _
        rw [g5 i hi, cnx_s, if_neg (fun q => z q.1), Nat.add_zero]
  · rintro ⟨z1, z2, z3⟩ ⟨g1, g2, g3, g4, g5⟩
    have g2 : z2 = nI 10 := g2
    subst g2
    have o9 : 9 < 10 := by decide
    show ∃ r, gX11_mostAlike_14b h z3 (nI A) (nI p) (nI drops) z1 (nI 10) = some (.inr r) ∧ _
    refine ⟨(z1, z3), ?_, g1, g3, g4⟩
    unfold gX11_mostAlike_14b
    simp (disch := omega) only [n_lit, n_of, n_o1, nI_add, pk_mul, nI_ltI, nI_leI, nI_eq, ↓lift_lt, ↓k_mt, ↓k_mp, if_true, if_false, Bool.false_eq_true, Nat.not_lt_zero, Nat.zero_le, Nat.reduceEqDiff, Nat.reduceLeDiff, Nat.reduceLT, o9]
end CMO
/-- the best leading so far, and by how much -/
def bst (mo : Nat → Nat) : Nat → Nat × Nat
  | 0 => (0, 11)
  | d + 1 => if mo d < (bst mo d).2 then (d, mo d) else bst mo d
theorem bst_b {mo : Nat → Nat} (h : ∀ d, mo d ≤ 10) : ∀ d, (bst mo d).1 ≤ d ∧ (bst mo d).2 ≤ 11
  | 0 => ⟨Nat.le_refl 0, Nat.le_refl 11⟩
  | d + 1 => by
    have h1 := bst_b h d
    have h2 := h d
    show (if mo d < (bst mo d).2 then (d, mo d) else bst mo d).1 ≤ d + 1 ∧ (if mo d < (bst mo d).2 then (d, mo d) else bst mo d).2 ≤ 11
    split
    · exact ⟨by omega, by omega⟩
    · exact ⟨by omega, by omega⟩
section OPS13
variable {T : Nat} {h : Hp} {V : Nat → Cv} {c : Ch} {m : Mu} {x : Sp}
theorem op_attempt (x1 x2 : Int32) (gC : RC T h V c x) (gM : RM m x) (hw : WF x) : OKs T h V (gX11_attempt h c x1 x2) (gX12_attempt m x1 x2) := by
  unfold gX11_attempt gX12_attempt
  rcases seen_no x1 x2 gC gM hw with ⟨e, e0, e1, e2⟩ | ⟨t, p, so, n, w, ht, hp, rfl, rfl, hz, n1, n10, e1, e2⟩
  · refine OK_no gC gM hw e ?_ ?_
    · simp (disch := omega) only [n_lit, n_of, n_o1, nI_add, pk_mul, nI_ltI, nI_leI, nI_eq, ↓lift_lt, ↓k_mt, ↓k_mp, if_true, if_false, Bool.false_eq_true, Nat.not_lt_zero, Nat.zero_le, Nat.reduceEqDiff, Nat.reduceLeDiff, Nat.reduceLT, e1, e0]
    · simp (disch := omega) only [n_lit, n_of, n_o1, nI_add, pk_mul, nI_ltI, nI_leI, nI_eq, ↓lift_lt, ↓k_mt, ↓k_mp, if_true, if_false, Bool.false_eq_true, Nat.not_lt_zero, Nat.zero_le, Nat.reduceEqDiff, Nat.reduceLeDiff, Nat.reduceLT, e2, e0]
  · have hP := hw.2.2.1.1
    have hp4 : p < 4 := by omega
    have hs := hw.2.2.2.1.1
    have hdg := dg_lt (zS x).1 p
    have N := RD_now gM hw
    have v15 : (mI m 0 (nI 0)).2.1 1 (15 + p) = nI (dg (zS x).1 p) := N.2.1.1 p hp4
    have a4 := gC.1.2.2.2.1
    by_cases g0 : dg (zS x).1 p = 0
    · refine OK_no gC gM hw (-nI 5) ?_ ?_
      · simp (disch := omega) only [n_lit, n_of, n_o1, nI_add, pk_mul, nI_ltI, nI_leI, nI_eq, ↓lift_lt, ↓k_mt, ↓k_mp, if_true, if_false, Bool.false_eq_true, Nat.not_lt_zero, Nat.zero_le, Nat.reduceEqDiff, Nat.reduceLeDiff, Nat.reduceLT, e1, a4.1, c_digit, g0]
      · simp (disch := omega) only [n_lit, n_of, n_o1, nI_add, pk_mul, nI_ltI, nI_leI, nI_eq, ↓lift_lt, ↓k_mt, ↓k_mp, if_true, if_false, Bool.false_eq_true, Nat.not_lt_zero, Nat.zero_le, Nat.reduceEqDiff, Nat.reduceLeDiff, Nat.reduceLT, e2, mA_1, v15, g0]
    · obtain ⟨c1, ec, R1⟩ := c_chalkBits gC hw ht hp n10 hz
      obtain ⟨m1, em, fm⟩ := q_chalksOf (SQ_of gM hw ht hz) ht n10 hp
      have lA := cbs_lt (chS (zV x) (zS x) w p n) 10
      obtain ⟨A, eA⟩ : ∃ A, A = cbs (chS (zV x) (zS x) w p n) 10 := ⟨_, rfl⟩
      rw [← eA] at ec em lA
      have k1 : kpM (mI m 0 (nI 0)) m1 := kpM_fr fm rfl rfl rfl rfl rfl
      by_cases A0 : A = 0
      · subst A0
        refine ⟨-nI 1, c1, m1, x, ?_, ?_, RC_T (by omega) R1, RM_kp (RM_0 gM (nI 0)) k1, hw⟩
        · simp (disch := omega) only [n_lit, n_of, n_o1, nI_add, pk_mul, nI_ltI, nI_leI, nI_eq, ↓lift_lt, ↓k_mt, ↓k_mp, if_true, if_false, Bool.false_eq_true, Nat.not_lt_zero, Nat.zero_le, Nat.reduceEqDiff, Nat.reduceLeDiff, Nat.reduceLT, e1, a4.1, c_digit, g0, ec]
        · have eb : gX12_attempt_52b m1 (nI p) (nI 0) (-nI 1) (nI 268435456) (nI 0) = some (.inr (-nI 1, m1)) := by
            have o4 : ¬ 4 < 0 := by decide
            unfold gX12_attempt_52b gX12_attempt_98
            simp (disch := omega) only [n_lit, n_of, n_o1, nI_add, pk_mul, nI_ltI, nI_leI, nI_eq, ↓lift_lt, ↓k_mt, ↓k_mp, if_true, if_false, Bool.false_eq_true, Nat.not_lt_zero, Nat.zero_le, Nat.reduceEqDiff, Nat.reduceLeDiff, Nat.reduceLT, o4, Option.map_some]
          have el : gX12_attempt_52 m1 (nI p) (nI 0) (-nI 1) (nI 268435456) (nI 0) = some (-nI 1, m1) := by
            unfold gX12_attempt_52
            exact lpw_r eb
          simp (disch := omega) only [n_lit, n_of, n_o1, nI_add, pk_mul, nI_ltI, nI_leI, nI_eq, ↓lift_lt, ↓k_mt, ↓k_mp, if_true, if_false, Bool.false_eq_true, Nat.not_lt_zero, Nat.zero_le, Nat.reduceEqDiff, Nat.reduceLeDiff, Nat.reduceLT, e2, mA_1, v15, g0, em, el]
      · obtain ⟨mo, emo⟩ : ∃ mo : Nat → Nat, mo = fun d => grt A (fun j => ixg (vg (zV x)) (setd (zS x).2.1 p j) p d (dg (zS x).1 p) (mets (vP (zV x)) (zS x).1)) 10 := ⟨_, rfl⟩
        have mob : ∀ d, mo d ≤ 10 := fun d => by rw [emo]; exact grt_b _ _ 10
        have bb := bst_b mob
        have N1 : RD m1 (zV x) (zS x) := by
          have e : m1.2.1 1 = (mI m 0 (nI 0)).2.1 1 := fm.2.2 1 rfl
          unfold RD at *
          rw [e]
          exact N
        have LC : ∃ c', gX11_attempt_55 h c1 (nI p) (nI A) (nI 0) (nI 11) (nI 0) = some (nI (bst mo 5).1, c') ∧ RC T h V c' x := by
          unfold gX11_attempt_55
          have K := lpw_all (body := fun q : Int32 × Int32 × Int32 × Ch => gX11_attempt_55b h q.2.2.2 (nI p) (nI A) q.1 q.2.1 q.2.2.1)
            (fun k q => q.1 = nI (bst mo k).1 ∧ q.2.1 = nI (bst mo k).2 ∧ q.2.2.1 = nI k ∧ RC T h V q.2.2.2 x)
            (fun r => r.1 = nI (bst mo 5).1 ∧ RC T h V r.2 x) 5 ?_ ?_ (nI 0, nI 11, nI 0, c1) ⟨rfl, rfl, rfl, R1⟩
          · obtain ⟨r, e, e1, e2⟩ := K
            exact ⟨r.2, by rw [e]; exact congrArg some (Prod.ext e1 rfl), e2⟩
          · rintro k ⟨z1, z2, z3, z4⟩ hk ⟨g1, g2, g3, g4⟩
            have g1 : z1 = nI (bst mo k).1 := g1
            have g2 : z2 = nI (bst mo k).2 := g2
            have g3 : z3 = nI k := g3
            subst g1 g2 g3
            have g4 : RC T h V z4 x := g4
            have k1 : ¬ 4 < k := by omega
            obtain ⟨c5, e5, R5⟩ := c_mostAlike (p := p) (drops := k) (A := A) g4 hw hp hk lA rfl
            have e5 : gX11_mostAlike h z4 (nI A) (nI p) (nI k) = some (nI (mo k), c5) := by rw [emo]; exact e5
            have b1 := bb k
            have b2 := mob k
            have gs : bst mo (k + 1) = if mo k < (bst mo k).2 then (k, mo k) else bst mo k := rfl
            show ∃ s', gX11_attempt_55b h z4 (nI p) (nI A) (nI (bst mo k).1) (nI (bst mo k).2) (nI k) = some (.inl s') ∧ _
            unfold gX11_attempt_55b gX11_attempt_87
            by_cases z : mo k < (bst mo k).2
            · rw [if_pos z] at gs
              have z' : ¬ (bst mo k).2 ≤ mo k := by omega
              refine ⟨(nI k, nI (mo k), nI (k + 1), c5), ?_, by rw [gs], by rw [gs], rfl, R5⟩
              simp (disch := omega) only [n_lit, n_of, n_o1, nI_add, pk_mul, nI_ltI, nI_leI, nI_eq, ↓lift_lt, ↓k_mt, ↓k_mp, if_true, if_false, Bool.false_eq_true, Nat.not_lt_zero, Nat.zero_le, Nat.reduceEqDiff, Nat.reduceLeDiff, Nat.reduceLT, k1, e5, z']
            · rw [if_neg z] at gs
              have z' : (bst mo k).2 ≤ mo k := by omega
              refine ⟨(nI (bst mo k).1, nI (bst mo k).2, nI (k + 1), c5), ?_, by rw [gs], by rw [gs], rfl, R5⟩
              simp (disch := omega) only [n_lit, n_of, n_o1, nI_add, pk_mul, nI_ltI, nI_leI, nI_eq, ↓lift_lt, ↓k_mt, ↓k_mp, if_true, if_false, Bool.false_eq_true, Nat.not_lt_zero, Nat.zero_le, Nat.reduceEqDiff, Nat.reduceLeDiff, Nat.reduceLT, k1, e5, z']
          · rintro ⟨z1, z2, z3, z4⟩ ⟨g1, g2, g3, g4⟩
            have g3 : z3 = nI 5 := g3
            subst g3
            have o5 : 4 < 5 := by decide
            show ∃ r, gX11_attempt_55b h z4 (nI p) (nI A) z1 z2 (nI 5) = some (.inr r) ∧ _
            refine ⟨(z1, z4), ?_, g1, g4⟩
            unfold gX11_attempt_55b
            simp (disch := omega) only [n_lit, n_of, n_o1, nI_add, pk_mul, nI_ltI, nI_leI, nI_eq, ↓lift_lt, ↓k_mt, ↓k_mp, if_true, if_false, Bool.false_eq_true, Nat.not_lt_zero, Nat.zero_le, Nat.reduceEqDiff, Nat.reduceLeDiff, Nat.reduceLT, o5]
        have LM : ∃ m', gX12_attempt_52 m1 (nI p) (nI A) (-nI 1) (nI 268435456) (nI 0) = some (nI (bst mo 5).1, m') ∧ mfr Ao m1 m' := by
          unfold gX12_attempt_52
          have K := lpw_all (body := fun q : Int32 × Int32 × Int32 × Mu => gX12_attempt_52b q.2.2.2 (nI p) (nI A) q.1 q.2.1 q.2.2.1)
            (fun k q => ((k = 0 ∧ q.1 = -nI 1 ∧ q.2.1 = nI 268435456) ∨ (0 < k ∧ q.1 = nI (bst mo k).1 ∧ q.2.1 = nI (bst mo k).2)) ∧ q.2.2.1 = nI k ∧ mfr Ao m1 q.2.2.2)
            (fun r => r.1 = nI (bst mo 5).1 ∧ mfr Ao m1 r.2) 5 ?_ ?_ (-nI 1, nI 268435456, nI 0, m1) ⟨Or.inl ⟨rfl, rfl, rfl⟩, rfl, mfr_rfl _ m1⟩
          · obtain ⟨r, e, e1, e2⟩ := K
            exact ⟨r.2, by rw [e]; exact congrArg some (Prod.ext e1 rfl), e2⟩
          · rintro k ⟨z1, z2, z3, z4⟩ hk ⟨g1, g3, g4⟩
            have g3 : z3 = nI k := g3
            subst g3
            have g4 : mfr Ao m1 z4 := g4
            have k1 : ¬ 4 < k := by omega
            obtain ⟨m5, e5, f5⟩ := q_mostOften (p := p) (drops := k) (A := A) (RD_o N1 g4) hp hk lA rfl
            have e5 : gX12_mostOften z4 (nI p) (nI k) (nI A) = some (nI (mo k), m5) := by rw [emo]; exact e5
            have b1 := bb k
            have b2 := mob k
            have gs : bst mo (k + 1) = if mo k < (bst mo k).2 then (k, mo k) else bst mo k := rfl
            show ∃ s', gX12_attempt_52b z4 (nI p) (nI A) z1 z2 (nI k) = some (.inl s') ∧ _
            unfold gX12_attempt_52b gX12_attempt_92
            rcases g1 with ⟨h1, h2, h3⟩ | ⟨h1, h2, h3⟩
            · have h2 : z1 = -nI 1 := h2
              have h3 : z2 = nI 268435456 := h3
              subst h1 h2 h3
              have z : mo 0 < (bst mo 0).2 := by show mo 0 < 11; omega
              rw [if_pos z] at gs
              have z' : mo 0 < 268435456 := by omega
              refine ⟨(nI 0, nI (mo 0), nI (0 + 1), m5), ?_, Or.inr ⟨by decide, by rw [gs], by rw [gs]⟩, rfl, mfr_tr g4 f5⟩
              simp (disch := omega) only [n_lit, n_of, n_o1, nI_add, pk_mul, nI_ltI, nI_leI, nI_eq, ↓lift_lt, ↓k_mt, ↓k_mp, if_true, if_false, Bool.false_eq_true, Nat.not_lt_zero, Nat.zero_le, Nat.reduceEqDiff, Nat.reduceLeDiff, Nat.reduceLT, k1, A0, e5, z']
            · have h2 : z1 = nI (bst mo k).1 := h2
              have h3 : z2 = nI (bst mo k).2 := h3
              subst h2 h3
              by_cases z : mo k < (bst mo k).2
              · rw [if_pos z] at gs
                refine ⟨(nI k, nI (mo k), nI (k + 1), m5), ?_, Or.inr ⟨by omega, by rw [gs], by rw [gs]⟩, rfl, mfr_tr g4 f5⟩
                simp (disch := omega) only [n_lit, n_of, n_o1, nI_add, pk_mul, nI_ltI, nI_leI, nI_eq, ↓lift_lt, ↓k_mt, ↓k_mp, if_true, if_false, Bool.false_eq_true, Nat.not_lt_zero, Nat.zero_le, Nat.reduceEqDiff, Nat.reduceLeDiff, Nat.reduceLT, k1, A0, e5, z]
              · rw [if_neg z] at gs
                refine ⟨(nI (bst mo k).1, nI (bst mo k).2, nI (k + 1), m5), ?_, Or.inr ⟨by omega, by rw [gs], by rw [gs]⟩, rfl, mfr_tr g4 f5⟩
                simp (disch := omega) only [n_lit, n_of, n_o1, nI_add, pk_mul, nI_ltI, nI_leI, nI_eq, ↓lift_lt, ↓k_mt, ↓k_mp, if_true, if_false, Bool.false_eq_true, Nat.not_lt_zero, Nat.zero_le, Nat.reduceEqDiff, Nat.reduceLeDiff, Nat.reduceLT, k1, A0, e5, z]
          · rintro ⟨z1, z2, z3, z4⟩ ⟨g1, g3, g4⟩
            have g3 : z3 = nI 5 := g3
            subst g3
            have o5 : 4 < 5 := by decide
            show ∃ r, gX12_attempt_52b z4 (nI p) (nI A) z1 z2 (nI 5) = some (.inr r) ∧ _
            refine ⟨(z1, z4), ?_, ?_, g4⟩
            · unfold gX12_attempt_52b gX12_attempt_98
              simp (disch := omega) only [n_lit, n_of, n_o1, nI_add, pk_mul, nI_ltI, nI_leI, nI_eq, ↓lift_lt, ↓k_mt, ↓k_mp, if_true, if_false, Bool.false_eq_true, Nat.not_lt_zero, Nat.zero_le, Nat.reduceEqDiff, Nat.reduceLeDiff, Nat.reduceLT, o5, Option.map_some]
            · rcases g1 with ⟨h1, -⟩ | ⟨-, h2, -⟩
              · omega
              · exact h2
        obtain ⟨c', ec', R'⟩ := LC
        obtain ⟨m', em', fm'⟩ := LM
        refine ⟨nI (bst mo 5).1, c', m', x, ?_, ?_, RC_T (by omega) R', RM_kp (RM_0 gM (nI 0)) (kpM_tr k1 (kpM_fr fm' rfl rfl rfl rfl rfl)), hw⟩
        · simp (disch := omega) only [n_lit, n_of, n_o1, nI_add, pk_mul, nI_ltI, nI_leI, nI_eq, ↓lift_lt, ↓k_mt, ↓k_mp, if_true, if_false, Bool.false_eq_true, Nat.not_lt_zero, Nat.zero_le, Nat.reduceEqDiff, Nat.reduceLeDiff, Nat.reduceLT, e1, a4.1, c_digit, g0, ec, A0, ec']
        · simp (disch := omega) only [n_lit, n_of, n_o1, nI_add, pk_mul, nI_ltI, nI_leI, nI_eq, ↓lift_lt, ↓k_mt, ↓k_mp, if_true, if_false, Bool.false_eq_true, Nat.not_lt_zero, Nat.zero_le, Nat.reduceEqDiff, Nat.reduceLeDiff, Nat.reduceLT, e2, mA_1, v15, g0, em, em']
end OPS13
