/-! what may stand in laws, one within another -/
theorem ty_ar {g : Bool} {n : Nat} (hn : n = 3000 ∨ n = 3001 ∨ n = 3002) (st : List Bool) : ty1 g n (false :: false :: st) = some (false :: st) := by
  unfold ty1
  rw [if_neg (by omega), if_neg (by omega), if_neg (by omega), if_neg (by omega), if_neg (by omega), if_pos (by omega)]
  show some (decide (3003 ≤ n) :: st) = _
  rw [decide_eq_false (by omega)]
theorem ty_cm {g : Bool} {n : Nat} (hn : n = 3003 ∨ n = 3004 ∨ n = 3005) (st : List Bool) : ty1 g n (false :: false :: st) = some (true :: st) := by
  unfold ty1
  rw [if_neg (by omega), if_neg (by omega), if_neg (by omega), if_neg (by omega), if_neg (by omega), if_pos (by omega)]
  show some (decide (3003 ≤ n) :: st) = _
  rw [decide_eq_true (by omega)]
theorem ty_bo {g : Bool} {n : Nat} (hn : n = 3007 ∨ n = 3008) (st : List Bool) : ty1 g n (true :: true :: st) = some (true :: st) := by
  unfold ty1
  rw [if_neg (by omega), if_neg (by omega), if_neg (by omega), if_neg (by omega), if_pos (by omega)]
theorem ty_no {g : Bool} (st : List Bool) : ty1 g 3006 (true :: st) = some (true :: st) := by
  unfold ty1
  rw [if_neg (by omega), if_neg (by omega), if_pos rfl]
theorem ty_if {g : Bool} (st : List Bool) : ty1 g 3009 (false :: false :: true :: st) = some (false :: st) := by
  unfold ty1
  rw [if_neg (by omega), if_neg (by omega), if_neg (by omega), if_pos rfl]
theorem cco_t : cco 3000 = -nI 11 ∧ cco 3001 = -nI 12 ∧ cco 3002 = -nI 13 ∧ cco 3003 = -nI 14 ∧ cco 3004 = -nI 15 ∧ cco 3005 = -nI 16 ∧ cco 3006 = -nI 19 ∧ cco 3007 = -nI 17 ∧ cco 3008 = -nI 18 ∧ cco 3009 = -nI 20 := by decide
section NTS
variable {t : Nat → Nat} {N : Nat} {g : Bool} {fr : Nat} {m0 : Mu} {c0 : Ch} {h : Hp}
/-- both read the same, of this kind -/
def NTx (t : Nat → Nat) (N : Nat) (g : Bool) (fr : Nat) (m0 : Mu) (c0 : Ch) (h : Hp) (ty : Bool) (B : Nat) (R : Mu → Option Mu) (C : Ch → Option (Int32 × Ch)) : Prop :=
  ∀ m c cs a, PRx t N g fr m0 c0 h m c cs a → fr + cs.length ≤ a → ∃ m', R m = some m' ∧
    ((∃ c' ds a', C c = some (nI 1, c') ∧ PRx t N g fr m0 c0 h m' c' (cs ++ ds) a' ∧ a + ds.length ≤ a' ∧ a < a' ∧ TYx g ty B ds) ∨ (∃ c', C c = some (nI 0, c') ∧ PFx fr m0 c0 m' c'))
def NOx (R : Mu → Option Mu) : Prop := ∀ m, ¬ m.1 11 = nI 0 → R m = some m
theorem PRx_a {m : Mu} {c : Ch} {cs : List Nat} {a : Nat} (H : PRx t N g fr m0 c0 h m c cs a) : a ≤ N ∧ N ≤ 900 := by
  obtain ⟨b, kd, nm, K⟩ := H.2.1
  have k8 := K.2.2.2.2.2.2.2
  have := TC_kd k8
  exact ⟨by have := k8.1; omega, H.1.1⟩
/-- loops: one more behind a sign, as long as there is one -/
theorem nt_loop {ty : Bool} {B : Nat} {RL : Mu → Option Mu} {CL : Ch → Int32 → Int32 → Option (Int32 × Ch)}
    (step : ∀ m c cs a i, i ≤ a → PRx t N g fr m0 c0 h m c cs a → fr + cs.length ≤ a →
      (RL m = some m ∧ CL c (nI 1) (nI i) = some (nI 1, c)) ∨
      (∃ m1, RL m = RL m1 ∧ ((∃ c1 ds a1, CL c (nI 1) (nI i) = CL c1 (nI 1) (nI (i + 1)) ∧ PRx t N g fr m0 c0 h m1 c1 (cs ++ ds) a1 ∧ a + ds.length ≤ a1 ∧ a < a1 ∧ ∀ st : List Bool, st.length ≤ B → tys g ds (ty :: st) = some (ty :: st)) ∨ (∃ c1, CL c (nI 1) (nI i) = some (nI 0, c1) ∧ PFx fr m0 c0 m1 c1 ∧ RL m1 = some m1)))) :
    ∀ d m c cs a i, a + d = N → i ≤ a → PRx t N g fr m0 c0 h m c cs a → fr + cs.length ≤ a → ∃ m', RL m = some m' ∧
      ((∃ c' ds a', CL c (nI 1) (nI i) = some (nI 1, c') ∧ PRx t N g fr m0 c0 h m' c' (cs ++ ds) a' ∧ a + ds.length ≤ a' ∧ ∀ st : List Bool, st.length ≤ B → tys g ds (ty :: st) = some (ty :: st)) ∨ (∃ c', CL c (nI 1) (nI i) = some (nI 0, c') ∧ PFx fr m0 c0 m' c')) := by
  intro d
  induction d using Nat.strongRecOn with
  | _ d ih =>
    intro m c cs a i ha hi H hl
    rcases step m c cs a i hi H hl with ⟨s1, s2⟩ | ⟨m1, s1, ⟨c1, ds, a1, s2, P1, l1, l2, T1⟩ | ⟨c1, s2, F1, s3⟩⟩
    · exact ⟨m, s1, Or.inl ⟨c, [], a, s2, by rw [List.append_nil]; exact H, by show a + 0 ≤ a; omega, fun st _ => rfl⟩⟩
    · have ab := PRx_a P1
      obtain ⟨m', e1, e2⟩ := ih (N - a1) (by omega) m1 c1 (cs ++ ds) a1 (i + 1) (by omega) (by omega) P1 (by rw [List.length_append]; omega)
      refine ⟨m', by rw [s1]; exact e1, ?_⟩
      rcases e2 with ⟨c', ds', a', x1, x2, x3, x4⟩ | ⟨c', x1, x2⟩
      · refine Or.inl ⟨c', ds ++ ds', a', by rw [s2]; exact x1, by rw [← List.append_assoc]; exact x2, by rw [List.length_append]; omega, fun st hs => ?_⟩
        rw [tys_app, T1 st hs]
        exact x4 st hs
      · exact Or.inr ⟨c', by rw [s2]; exact x1, x2⟩
    · exact ⟨m1, by rw [s1]; exact s3, Or.inr ⟨c1, s2, F1⟩⟩
/-- one, and loops behind it -/
theorem nt_seq {ty : Bool} {B : Nat} {R0 RL : Mu → Option Mu} {C0 : Ch → Option (Int32 × Ch)} {CL : Ch → Int32 → Int32 → Option (Int32 × Ch)}
    (H0 : NTx t N g fr m0 c0 h ty (B + 1) R0 C0) (hn : NOx RL) (hc : ∀ c, CL c (nI 0) (nI 0) = some (nI 0, c))
    (step : ∀ m c cs a i, i ≤ a → PRx t N g fr m0 c0 h m c cs a → fr + cs.length ≤ a →
      (RL m = some m ∧ CL c (nI 1) (nI i) = some (nI 1, c)) ∨
      (∃ m1, RL m = RL m1 ∧ ((∃ c1 ds a1, CL c (nI 1) (nI i) = CL c1 (nI 1) (nI (i + 1)) ∧ PRx t N g fr m0 c0 h m1 c1 (cs ++ ds) a1 ∧ a + ds.length ≤ a1 ∧ a < a1 ∧ ∀ st : List Bool, st.length ≤ B → tys g ds (ty :: st) = some (ty :: st)) ∨ (∃ c1, CL c (nI 1) (nI i) = some (nI 0, c1) ∧ PFx fr m0 c0 m1 c1 ∧ RL m1 = some m1)))) :
    NTx t N g fr m0 c0 h ty B (fun m => (R0 m).bind RL) (fun c => (C0 c).bind fun y => CL y.2 y.1 (nI 0)) := by
  intro m c cs a H hl
  obtain ⟨m1, e1, ⟨c1, ds, a1, x1, x2, x3, x4, x5⟩ | ⟨c1, x1, x2⟩⟩ := H0 m c cs a H hl
  · have ab := PRx_a x2
    obtain ⟨m2, e2, ⟨c2, ds2, a2, y1, y2, y3, y4⟩ | ⟨c2, y1, y2⟩⟩ := nt_loop step (N - a1) m1 c1 (cs ++ ds) a1 0 (by omega) (Nat.zero_le _) x2 (by rw [List.length_append]; omega)
    · refine ⟨m2, by show (R0 m).bind RL = _; rw [e1]; exact e2, Or.inl ⟨c2, ds ++ ds2, a2, ?_, by rw [← List.append_assoc]; exact y2, by rw [List.length_append]; omega, by omega, fun st hs => ?_⟩⟩
      · show (C0 c).bind _ = _
        rw [x1]
        exact y1
      · rw [tys_app, x5 st (by omega)]
        exact y4 st hs
    · refine ⟨m2, by show (R0 m).bind RL = _; rw [e1]; exact e2, Or.inr ⟨c2, ?_, y2⟩⟩
      show (C0 c).bind _ = _
      rw [x1]
      exact y1
  · refine ⟨m1, by show (R0 m).bind RL = _; rw [e1]; exact hn m1 (PFx_w x2), Or.inr ⟨c1, ?_, x2⟩⟩
    show (C0 c).bind _ = _
    rw [x1]
    exact hc c1
/-- what a step does: behind its sign one more, and its code -/
theorem nt_step {ty : Bool} {B code : Nat} {R0 : Mu → Option Mu} {C0 : Ch → Option (Int32 × Ch)} {m1 : Mu} {c1 : Ch} {cs : List Nat} {a a1 : Nat} (hcode : ∀ st, ty1 g code (ty :: ty :: st) = some (ty :: st)) (H0 : NTx t N g fr m0 c0 h ty (B + 1) R0 C0) (P1 : PRx t N g fr m0 c0 h m1 c1 cs a1) (hl : fr + cs.length ≤ a) (ha : a < a1) :
    ∃ m2 m3, R0 m1 = some m2 ∧ gX12_codes m2 (nI code) = some m3 ∧ ((∃ c2 c3 ds a3, C0 c1 = some (nI 1, c2) ∧ gX4_put h c2 (cco code) = some c3 ∧ PRx t N g fr m0 c0 h m3 c3 (cs ++ ds) a3 ∧ a + ds.length ≤ a3 ∧ a < a3 ∧ ∀ st : List Bool, st.length ≤ B → tys g ds (ty :: st) = some (ty :: st)) ∨ (∃ c2 c3, C0 c1 = some (nI 0, c2) ∧ gX4_put h c2 (cco code) = some c3 ∧ PFx fr m0 c0 m3 c3)) := by
  obtain ⟨m2, e2, ⟨c2, ds, a2, x1, x2, x3, x4, x5⟩ | ⟨c2, x1, x2⟩⟩ := H0 m1 c1 cs a1 P1 (by omega)
  · have ab := PRx_a x2
    obtain ⟨m3, c3, y1, y2, y3, -⟩ := p_code (n := code) x2 (by rw [List.length_append]; omega)
    refine ⟨m2, m3, e2, y1, Or.inl ⟨c2, c3, ds ++ [code], a2, x1, y2, by rw [← List.append_assoc]; exact y3, by rw [List.length_append]; show a + (ds.length + 1) ≤ a2; omega, by omega, fun st hs => ?_⟩⟩
    rw [tys_app, x5 (ty :: st) (by show st.length + 1 ≤ B + 1; omega)]
    show (ty1 g code (ty :: ty :: st)).bind (tys g []) = _
    rw [hcode]
    rfl
  · obtain ⟨c3, y1, y2⟩ := p_put_w (y := cco code) x2
    exact ⟨m2, m2, e2, q_codes_w (PFx_w x2), Or.inr ⟨c2, c3, x1, y1, y2⟩⟩
section LVL
variable {gr : Nat → Mu → Int32 → Option Mu} {gc : Nat → Ch → Int32 → Option (Int32 × Ch)} {d : Nat}
theorem end_a {m : Mu} {c : Ch} {cs : List Nat} {a b kd nm : Nat} (H : PRx t N g fr m0 c0 h m c cs a) (K : TKx t N m c a b kd nm) (ha : 900 ≤ a) : kd = 24 := by
  have k8 := K.2.2.2.2.2.2.2
  have := H.1.1
  rcases k8.2 with ⟨q, -⟩ | ⟨q, -⟩
  · exact q
  · have := k8.1
    omega
theorem nt_term {B : Nat} (H0 : NTx t N g fr m0 c0 h false (B + 1) (fun m => gr 0 m (nI d)) (fun c => gc 2 c (nI d))) (hn : NOx (fun m => gr 0 m (nI d))) : NTx t N g fr m0 c0 h false B (fun m => gX12_readTerm gr m (nI d)) (fun c => gX4_term gc h c (nI d)) := by
  unfold gX12_readTerm gX4_term
  have i1 : ¬ (1 = 0) := by decide
  have nl : NOx (fun m => gX12_readTerm_5 gr m (nI d)) := fun m hm => by
    have eb : gX12_readTerm_5b gr m (nI d) = some (.inr m) := by
      unfold gX12_readTerm_5b
      simp (disch := omega) only [n_lit, n_of, n_o1, nI_add, pk_mul, nI_ltI, nI_leI, nI_eq, ↓lift_lt, ↓k_mt, ↓k_mp, if_true, if_false, Bool.false_eq_true, Nat.not_lt_zero, Nat.zero_le, Nat.reduceEqDiff, Nat.reduceLeDiff, Nat.reduceLT, q_eats_w hm]
    show gX12_readTerm_5 gr m (nI d) = some m
    unfold gX12_readTerm_5
    exact lpw_r eb
  refine nt_seq (RL := fun m => gX12_readTerm_5 gr m (nI d)) (CL := fun c x i => gX4_term_8 gc h c (nI d) x i) H0 nl (fun c => ?_) (fun m c cs a i hi H hl => ?_)
  · have eb : gX4_term_8b gc h c (nI d) (nI 0) (nI 0) = some (.inr (nI 0, c)) := by
      have n9 : ¬ 900 ≤ 0 := by decide
      unfold gX4_term_8b gX4_term_56
      simp (disch := omega) only [n_lit, n_of, n_o1, nI_add, pk_mul, nI_ltI, nI_leI, nI_eq, ↓lift_lt, ↓k_mt, ↓k_mp, if_true, if_false, Bool.false_eq_true, Nat.not_lt_zero, Nat.zero_le, Nat.reduceEqDiff, Nat.reduceLeDiff, Nat.reduceLT, n9, n_bl0, Option.map_some]
    show gX4_term_8 gc h c (nI d) (nI 0) (nI 0) = _
    unfold gX4_term_8
    exact lpw_r eb
  · obtain ⟨b, kd, nm, K⟩ := H.2.1
    have ab := PRx_a H
    rcases p_eat (x := 31) (by decide) (by decide) H K with ⟨m1, c1, a1, e1, e2, P1, l1, z, adv, -⟩ | ⟨m1, c1, e1, -, e2, -, z⟩
    · right
      have i9 : ¬ 900 ≤ i := fun q => by
        have := end_a H K (by omega)
        rw [this] at z
        exact absurd z (by decide)
      obtain ⟨m2, m3, x1, x2, x3⟩ := nt_step (code := 3002) (a := a) (fun st => ty_ar (Or.inr (Or.inr rfl)) st) H0 P1 hl l1
      have ci := tk_isAt H.1 K (x := 31) (by decide) (by decide)
      rw [if_pos z] at ci
      have e1 : gX12_eats m (nI 34) = some (nI 1, m1) := e1
      have x1 : gr 0 m1 (nI d) = some m2 := x1
      refine ⟨m3, ?_, ?_⟩
      · have eb : gX12_readTerm_5b gr m (nI d) = some (.inl m3) := by
          unfold gX12_readTerm_5b
          simp (disch := omega) only [n_lit, n_of, n_o1, nI_add, pk_mul, nI_ltI, nI_leI, nI_eq, ↓lift_lt, ↓k_mt, ↓k_mp, if_true, if_false, Bool.false_eq_true, Nat.not_lt_zero, Nat.zero_le, Nat.reduceEqDiff, Nat.reduceLeDiff, Nat.reduceLT, e1, i1, x1, x2]
        show gX12_readTerm_5 gr m (nI d) = gX12_readTerm_5 gr m3 (nI d)
        unfold gX12_readTerm_5
        exact lpw_l eb
      · rcases x3 with ⟨c2, c3, ds, a3, y1, y2, y3, y4, y5, y6⟩ | ⟨c2, c3, y1, y2, y3⟩
        · left
          have y1 : gc 2 c1 (nI d) = some (nI 1, c2) := y1
          rw [cco_t.2.2.1] at y2
          refine ⟨c3, ds, a3, ?_, y3, y4, y5, y6⟩
          have eb : gX4_term_8b gc h c (nI d) (nI 1) (nI i) = some (.inl (nI 1, nI (i + 1), c3)) := by
            unfold gX4_term_8b
            simp (disch := omega) only [n_lit, n_of, n_o1, nI_add, pk_mul, nI_ltI, nI_leI, nI_eq, ↓lift_lt, ↓k_mt, ↓k_mp, if_true, if_false, Bool.false_eq_true, Nat.not_lt_zero, Nat.zero_le, Nat.reduceEqDiff, Nat.reduceLeDiff, Nat.reduceLT, i9, i1, ci, adv, y1, y2]
          show gX4_term_8 gc h c (nI d) (nI 1) (nI i) = gX4_term_8 gc h c3 (nI d) (nI 1) (nI (i + 1))
          unfold gX4_term_8
          exact lpw_l eb
        · right
          have y1 : gc 2 c1 (nI d) = some (nI 0, c2) := y1
          rw [cco_t.2.2.1] at y2
          refine ⟨c3, ?_, y3, nl m3 (PFx_w y3)⟩
          have eb : gX4_term_8b gc h c (nI d) (nI 1) (nI i) = some (.inl (nI 0, nI (i + 1), c3)) := by
            unfold gX4_term_8b
            simp (disch := omega) only [n_lit, n_of, n_o1, nI_add, pk_mul, nI_ltI, nI_leI, nI_eq, ↓lift_lt, ↓k_mt, ↓k_mp, if_true, if_false, Bool.false_eq_true, Nat.not_lt_zero, Nat.zero_le, Nat.reduceEqDiff, Nat.reduceLeDiff, Nat.reduceLT, i9, i1, ci, adv, y1, y2]
          have eb2 : gX4_term_8b gc h c3 (nI d) (nI 0) (nI (i + 1)) = some (.inr (nI 0, c3)) := by
            unfold gX4_term_8b gX4_term_56
            by_cases q : 900 ≤ i + 1
            · simp (disch := omega) only [n_lit, n_of, n_o1, nI_add, pk_mul, nI_ltI, nI_leI, nI_eq, ↓lift_lt, ↓k_mt, ↓k_mp, if_true, if_false, Bool.false_eq_true, Nat.not_lt_zero, Nat.zero_le, Nat.reduceEqDiff, Nat.reduceLeDiff, Nat.reduceLT, q, n_bl0, Option.map_some]
            · simp (disch := omega) only [n_lit, n_of, n_o1, nI_add, pk_mul, nI_ltI, nI_leI, nI_eq, ↓lift_lt, ↓k_mt, ↓k_mp, if_true, if_false, Bool.false_eq_true, Nat.not_lt_zero, Nat.zero_le, Nat.reduceEqDiff, Nat.reduceLeDiff, Nat.reduceLT, q, n_bl0, Option.map_some]
          show gX4_term_8 gc h c (nI d) (nI 1) (nI i) = _
          unfold gX4_term_8
          refine (lpw_l eb).trans ?_
          exact lpw_r eb2
    · left
      have e1 : gX12_eats m (nI 34) = some (nI 0, m) := e1
      have ci := tk_isAt H.1 K (x := 31) (by decide) (by decide)
      rw [if_neg z] at ci
      refine ⟨?_, ?_⟩
      · have eb : gX12_readTerm_5b gr m (nI d) = some (.inr m) := by
          unfold gX12_readTerm_5b
          simp (disch := omega) only [n_lit, n_of, n_o1, nI_add, pk_mul, nI_ltI, nI_leI, nI_eq, ↓lift_lt, ↓k_mt, ↓k_mp, if_true, if_false, Bool.false_eq_true, Nat.not_lt_zero, Nat.zero_le, Nat.reduceEqDiff, Nat.reduceLeDiff, Nat.reduceLT, e1]
        show gX12_readTerm_5 gr m (nI d) = _
        unfold gX12_readTerm_5
        exact lpw_r eb
      · have eb : gX4_term_8b gc h c (nI d) (nI 1) (nI i) = some (.inr (nI 1, c)) := by
          unfold gX4_term_8b gX4_term_56
          by_cases q : 900 ≤ i
          · simp (disch := omega) only [n_lit, n_of, n_o1, nI_add, pk_mul, nI_ltI, nI_leI, nI_eq, ↓lift_lt, ↓k_mt, ↓k_mp, if_true, if_false, Bool.false_eq_true, Nat.not_lt_zero, Nat.zero_le, Nat.reduceEqDiff, Nat.reduceLeDiff, Nat.reduceLT, q, n_bl1, Option.map_some]
          · simp (disch := omega) only [n_lit, n_of, n_o1, nI_add, pk_mul, nI_ltI, nI_leI, nI_eq, ↓lift_lt, ↓k_mt, ↓k_mp, if_true, if_false, Bool.false_eq_true, Nat.not_lt_zero, Nat.zero_le, Nat.reduceEqDiff, Nat.reduceLeDiff, Nat.reduceLT, q, i1, ci, n_bl1, Option.map_some]
        show gX4_term_8 gc h c (nI d) (nI 1) (nI i) = _
        unfold gX4_term_8
        exact lpw_r eb
theorem nt_both {B : Nat} (H0 : NTx t N g fr m0 c0 h true (B + 1) (fun m => gr 4 m (nI d)) (fun c => gc 6 c (nI d))) (hn : NOx (fun m => gr 4 m (nI d))) : NTx t N g fr m0 c0 h true B (fun m => gX12_readBoth gr m (nI d)) (fun c => gX4_both gc h c (nI d)) := by
  unfold gX12_readBoth gX4_both
  have i1 : ¬ (1 = 0) := by decide
  have nl : NOx (fun m => gX12_readBoth_5 gr m (nI d)) := fun m hm => by
    have eb : gX12_readBoth_5b gr m (nI d) = some (.inr m) := by
      unfold gX12_readBoth_5b
      simp (disch := omega) only [n_lit, n_of, n_o1, nI_add, pk_mul, nI_ltI, nI_leI, nI_eq, ↓lift_lt, ↓k_mt, ↓k_mp, if_true, if_false, Bool.false_eq_true, Nat.not_lt_zero, Nat.zero_le, Nat.reduceEqDiff, Nat.reduceLeDiff, Nat.reduceLT, q_eats_w hm]
    show gX12_readBoth_5 gr m (nI d) = some m
    unfold gX12_readBoth_5
    exact lpw_r eb
  refine nt_seq (RL := fun m => gX12_readBoth_5 gr m (nI d)) (CL := fun c x i => gX4_both_8 gc h c (nI d) x i) H0 nl (fun c => ?_) (fun m c cs a i hi H hl => ?_)
  · have eb : gX4_both_8b gc h c (nI d) (nI 0) (nI 0) = some (.inr (nI 0, c)) := by
      have n9 : ¬ 900 ≤ 0 := by decide
      unfold gX4_both_8b gX4_both_56
      simp (disch := omega) only [n_lit, n_of, n_o1, nI_add, pk_mul, nI_ltI, nI_leI, nI_eq, ↓lift_lt, ↓k_mt, ↓k_mp, if_true, if_false, Bool.false_eq_true, Nat.not_lt_zero, Nat.zero_le, Nat.reduceEqDiff, Nat.reduceLeDiff, Nat.reduceLT, n9, n_bl0, Option.map_some]
    show gX4_both_8 gc h c (nI d) (nI 0) (nI 0) = _
    unfold gX4_both_8
    exact lpw_r eb
  · obtain ⟨b, kd, nm, K⟩ := H.2.1
    have ab := PRx_a H
    rcases p_eat (x := 23) (by decide) (by decide) H K with ⟨m1, c1, a1, e1, e2, P1, l1, z, adv, -⟩ | ⟨m1, c1, e1, -, e2, -, z⟩
    · right
      have i9 : ¬ 900 ≤ i := fun q => by
        have := end_a H K (by omega)
        rw [this] at z
        exact absurd z (by decide)
      obtain ⟨m2, m3, x1, x2, x3⟩ := nt_step (code := 3007) (a := a) (fun st => ty_bo (Or.inl rfl) st) H0 P1 hl l1
      have ci := tk_isAt H.1 K (x := 23) (by decide) (by decide)
      rw [if_pos z] at ci
      have e1 : gX12_eats m (nI 16) = some (nI 1, m1) := e1
      have x1 : gr 4 m1 (nI d) = some m2 := x1
      refine ⟨m3, ?_, ?_⟩
      · have eb : gX12_readBoth_5b gr m (nI d) = some (.inl m3) := by
          unfold gX12_readBoth_5b
          simp (disch := omega) only [n_lit, n_of, n_o1, nI_add, pk_mul, nI_ltI, nI_leI, nI_eq, ↓lift_lt, ↓k_mt, ↓k_mp, if_true, if_false, Bool.false_eq_true, Nat.not_lt_zero, Nat.zero_le, Nat.reduceEqDiff, Nat.reduceLeDiff, Nat.reduceLT, e1, i1, x1, x2]
        show gX12_readBoth_5 gr m (nI d) = gX12_readBoth_5 gr m3 (nI d)
        unfold gX12_readBoth_5
        exact lpw_l eb
      · rcases x3 with ⟨c2, c3, ds, a3, y1, y2, y3, y4, y5, y6⟩ | ⟨c2, c3, y1, y2, y3⟩
        · left
          have y1 : gc 6 c1 (nI d) = some (nI 1, c2) := y1
          rw [cco_t.2.2.2.2.2.2.2.1] at y2
          refine ⟨c3, ds, a3, ?_, y3, y4, y5, y6⟩
          have eb : gX4_both_8b gc h c (nI d) (nI 1) (nI i) = some (.inl (nI 1, nI (i + 1), c3)) := by
            unfold gX4_both_8b
            simp (disch := omega) only [n_lit, n_of, n_o1, nI_add, pk_mul, nI_ltI, nI_leI, nI_eq, ↓lift_lt, ↓k_mt, ↓k_mp, if_true, if_false, Bool.false_eq_true, Nat.not_lt_zero, Nat.zero_le, Nat.reduceEqDiff, Nat.reduceLeDiff, Nat.reduceLT, i9, i1, ci, adv, y1, y2]
          show gX4_both_8 gc h c (nI d) (nI 1) (nI i) = gX4_both_8 gc h c3 (nI d) (nI 1) (nI (i + 1))
          unfold gX4_both_8
          exact lpw_l eb
        · right
          have y1 : gc 6 c1 (nI d) = some (nI 0, c2) := y1
          rw [cco_t.2.2.2.2.2.2.2.1] at y2
          refine ⟨c3, ?_, y3, nl m3 (PFx_w y3)⟩
          have eb : gX4_both_8b gc h c (nI d) (nI 1) (nI i) = some (.inl (nI 0, nI (i + 1), c3)) := by
            unfold gX4_both_8b
            simp (disch := omega) only [n_lit, n_of, n_o1, nI_add, pk_mul, nI_ltI, nI_leI, nI_eq, ↓lift_lt, ↓k_mt, ↓k_mp, if_true, if_false, Bool.false_eq_true, Nat.not_lt_zero, Nat.zero_le, Nat.reduceEqDiff, Nat.reduceLeDiff, Nat.reduceLT, i9, i1, ci, adv, y1, y2]
          have eb2 : gX4_both_8b gc h c3 (nI d) (nI 0) (nI (i + 1)) = some (.inr (nI 0, c3)) := by
            unfold gX4_both_8b gX4_both_56
            by_cases q : 900 ≤ i + 1
            · simp (disch := omega) only [n_lit, n_of, n_o1, nI_add, pk_mul, nI_ltI, nI_leI, nI_eq, ↓lift_lt, ↓k_mt, ↓k_mp, if_true, if_false, Bool.false_eq_true, Nat.not_lt_zero, Nat.zero_le, Nat.reduceEqDiff, Nat.reduceLeDiff, Nat.reduceLT, q, n_bl0, Option.map_some]
            · simp (disch := omega) only [n_lit, n_of, n_o1, nI_add, pk_mul, nI_ltI, nI_leI, nI_eq, ↓lift_lt, ↓k_mt, ↓k_mp, if_true, if_false, Bool.false_eq_true, Nat.not_lt_zero, Nat.zero_le, Nat.reduceEqDiff, Nat.reduceLeDiff, Nat.reduceLT, q, n_bl0, Option.map_some]
          show gX4_both_8 gc h c (nI d) (nI 1) (nI i) = _
          unfold gX4_both_8
          refine (lpw_l eb).trans ?_
          exact lpw_r eb2
    · left
      have e1 : gX12_eats m (nI 16) = some (nI 0, m) := e1
      have ci := tk_isAt H.1 K (x := 23) (by decide) (by decide)
      rw [if_neg z] at ci
      refine ⟨?_, ?_⟩
      · have eb : gX12_readBoth_5b gr m (nI d) = some (.inr m) := by
          unfold gX12_readBoth_5b
          simp (disch := omega) only [n_lit, n_of, n_o1, nI_add, pk_mul, nI_ltI, nI_leI, nI_eq, ↓lift_lt, ↓k_mt, ↓k_mp, if_true, if_false, Bool.false_eq_true, Nat.not_lt_zero, Nat.zero_le, Nat.reduceEqDiff, Nat.reduceLeDiff, Nat.reduceLT, e1]
        show gX12_readBoth_5 gr m (nI d) = _
        unfold gX12_readBoth_5
        exact lpw_r eb
      · have eb : gX4_both_8b gc h c (nI d) (nI 1) (nI i) = some (.inr (nI 1, c)) := by
          unfold gX4_both_8b gX4_both_56
          by_cases q : 900 ≤ i
          · simp (disch := omega) only [n_lit, n_of, n_o1, nI_add, pk_mul, nI_ltI, nI_leI, nI_eq, ↓lift_lt, ↓k_mt, ↓k_mp, if_true, if_false, Bool.false_eq_true, Nat.not_lt_zero, Nat.zero_le, Nat.reduceEqDiff, Nat.reduceLeDiff, Nat.reduceLT, q, n_bl1, Option.map_some]
          · simp (disch := omega) only [n_lit, n_of, n_o1, nI_add, pk_mul, nI_ltI, nI_leI, nI_eq, ↓lift_lt, ↓k_mt, ↓k_mp, if_true, if_false, Bool.false_eq_true, Nat.not_lt_zero, Nat.zero_le, Nat.reduceEqDiff, Nat.reduceLeDiff, Nat.reduceLT, q, i1, ci, n_bl1, Option.map_some]
        show gX4_both_8 gc h c (nI d) (nI 1) (nI i) = _
        unfold gX4_both_8
        exact lpw_r eb
theorem nt_truth {B : Nat} (H0 : NTx t N g fr m0 c0 h true (B + 1) (fun m => gr 5 m (nI d)) (fun c => gc 5 c (nI d))) (hn : NOx (fun m => gr 5 m (nI d))) : NTx t N g fr m0 c0 h true B (fun m => gX12_readTruth gr m (nI d)) (fun c => gX4_truth gc h c (nI d)) := by
  unfold gX12_readTruth gX4_truth
  have i1 : ¬ (1 = 0) := by decide
  have nl : NOx (fun m => gX12_readTruth_5 gr m (nI d)) := fun m hm => by
    have eb : gX12_readTruth_5b gr m (nI d) = some (.inr m) := by
      unfold gX12_readTruth_5b
      simp (disch := omega) only [n_lit, n_of, n_o1, nI_add, pk_mul, nI_ltI, nI_leI, nI_eq, ↓lift_lt, ↓k_mt, ↓k_mp, if_true, if_false, Bool.false_eq_true, Nat.not_lt_zero, Nat.zero_le, Nat.reduceEqDiff, Nat.reduceLeDiff, Nat.reduceLT, q_eats_w hm]
    show gX12_readTruth_5 gr m (nI d) = some m
    unfold gX12_readTruth_5
    exact lpw_r eb
  refine nt_seq (RL := fun m => gX12_readTruth_5 gr m (nI d)) (CL := fun c x i => gX4_truth_8 gc h c (nI d) x i) H0 nl (fun c => ?_) (fun m c cs a i hi H hl => ?_)
  · have eb : gX4_truth_8b gc h c (nI d) (nI 0) (nI 0) = some (.inr (nI 0, c)) := by
      have n9 : ¬ 900 ≤ 0 := by decide
      unfold gX4_truth_8b gX4_truth_56
      simp (disch := omega) only [n_lit, n_of, n_o1, nI_add, pk_mul, nI_ltI, nI_leI, nI_eq, ↓lift_lt, ↓k_mt, ↓k_mp, if_true, if_false, Bool.false_eq_true, Nat.not_lt_zero, Nat.zero_le, Nat.reduceEqDiff, Nat.reduceLeDiff, Nat.reduceLT, n9, n_bl0, Option.map_some]
    show gX4_truth_8 gc h c (nI d) (nI 0) (nI 0) = _
    unfold gX4_truth_8
    exact lpw_r eb
  · obtain ⟨b, kd, nm, K⟩ := H.2.1
    have ab := PRx_a H
    rcases p_eat (x := 24) (by decide) (by decide) H K with ⟨m1, c1, a1, e1, e2, P1, l1, z, adv, -⟩ | ⟨m1, c1, e1, -, e2, -, z⟩
    · right
      have i9 : ¬ 900 ≤ i := fun q => by
        have := end_a H K (by omega)
        rw [this] at z
        exact absurd z (by decide)
      obtain ⟨m2, m3, x1, x2, x3⟩ := nt_step (code := 3008) (a := a) (fun st => ty_bo (Or.inr rfl) st) H0 P1 hl l1
      have ci := tk_isAt H.1 K (x := 24) (by decide) (by decide)
      rw [if_pos z] at ci
      have e1 : gX12_eats m (nI 17) = some (nI 1, m1) := e1
      have x1 : gr 5 m1 (nI d) = some m2 := x1
      refine ⟨m3, ?_, ?_⟩
      · have eb : gX12_readTruth_5b gr m (nI d) = some (.inl m3) := by
          unfold gX12_readTruth_5b
          simp (disch := omega) only [n_lit, n_of, n_o1, nI_add, pk_mul, nI_ltI, nI_leI, nI_eq, ↓lift_lt, ↓k_mt, ↓k_mp, if_true, if_false, Bool.false_eq_true, Nat.not_lt_zero, Nat.zero_le, Nat.reduceEqDiff, Nat.reduceLeDiff, Nat.reduceLT, e1, i1, x1, x2]
        show gX12_readTruth_5 gr m (nI d) = gX12_readTruth_5 gr m3 (nI d)
        unfold gX12_readTruth_5
        exact lpw_l eb
      · rcases x3 with ⟨c2, c3, ds, a3, y1, y2, y3, y4, y5, y6⟩ | ⟨c2, c3, y1, y2, y3⟩
        · left
          have y1 : gc 5 c1 (nI d) = some (nI 1, c2) := y1
          rw [cco_t.2.2.2.2.2.2.2.2.1] at y2
          refine ⟨c3, ds, a3, ?_, y3, y4, y5, y6⟩
          have eb : gX4_truth_8b gc h c (nI d) (nI 1) (nI i) = some (.inl (nI 1, nI (i + 1), c3)) := by
            unfold gX4_truth_8b
            simp (disch := omega) only [n_lit, n_of, n_o1, nI_add, pk_mul, nI_ltI, nI_leI, nI_eq, ↓lift_lt, ↓k_mt, ↓k_mp, if_true, if_false, Bool.false_eq_true, Nat.not_lt_zero, Nat.zero_le, Nat.reduceEqDiff, Nat.reduceLeDiff, Nat.reduceLT, i9, i1, ci, adv, y1, y2]
          show gX4_truth_8 gc h c (nI d) (nI 1) (nI i) = gX4_truth_8 gc h c3 (nI d) (nI 1) (nI (i + 1))
          unfold gX4_truth_8
          exact lpw_l eb
        · right
          have y1 : gc 5 c1 (nI d) = some (nI 0, c2) := y1
          rw [cco_t.2.2.2.2.2.2.2.2.1] at y2
          refine ⟨c3, ?_, y3, nl m3 (PFx_w y3)⟩
          have eb : gX4_truth_8b gc h c (nI d) (nI 1) (nI i) = some (.inl (nI 0, nI (i + 1), c3)) := by
            unfold gX4_truth_8b
            simp (disch := omega) only [n_lit, n_of, n_o1, nI_add, pk_mul, nI_ltI, nI_leI, nI_eq, ↓lift_lt, ↓k_mt, ↓k_mp, if_true, if_false, Bool.false_eq_true, Nat.not_lt_zero, Nat.zero_le, Nat.reduceEqDiff, Nat.reduceLeDiff, Nat.reduceLT, i9, i1, ci, adv, y1, y2]
          have eb2 : gX4_truth_8b gc h c3 (nI d) (nI 0) (nI (i + 1)) = some (.inr (nI 0, c3)) := by
            unfold gX4_truth_8b gX4_truth_56
            by_cases q : 900 ≤ i + 1
            · simp (disch := omega) only [n_lit, n_of, n_o1, nI_add, pk_mul, nI_ltI, nI_leI, nI_eq, ↓lift_lt, ↓k_mt, ↓k_mp, if_true, if_false, Bool.false_eq_true, Nat.not_lt_zero, Nat.zero_le, Nat.reduceEqDiff, Nat.reduceLeDiff, Nat.reduceLT, q, n_bl0, Option.map_some]
            · simp (disch := omega) only [n_lit, n_of, n_o1, nI_add, pk_mul, nI_ltI, nI_leI, nI_eq, ↓lift_lt, ↓k_mt, ↓k_mp, if_true, if_false, Bool.false_eq_true, Nat.not_lt_zero, Nat.zero_le, Nat.reduceEqDiff, Nat.reduceLeDiff, Nat.reduceLT, q, n_bl0, Option.map_some]
          show gX4_truth_8 gc h c (nI d) (nI 1) (nI i) = _
          unfold gX4_truth_8
          refine (lpw_l eb).trans ?_
          exact lpw_r eb2
    · left
      have e1 : gX12_eats m (nI 17) = some (nI 0, m) := e1
      have ci := tk_isAt H.1 K (x := 24) (by decide) (by decide)
      rw [if_neg z] at ci
      refine ⟨?_, ?_⟩
      · have eb : gX12_readTruth_5b gr m (nI d) = some (.inr m) := by
          unfold gX12_readTruth_5b
          simp (disch := omega) only [n_lit, n_of, n_o1, nI_add, pk_mul, nI_ltI, nI_leI, nI_eq, ↓lift_lt, ↓k_mt, ↓k_mp, if_true, if_false, Bool.false_eq_true, Nat.not_lt_zero, Nat.zero_le, Nat.reduceEqDiff, Nat.reduceLeDiff, Nat.reduceLT, e1]
        show gX12_readTruth_5 gr m (nI d) = _
        unfold gX12_readTruth_5
        exact lpw_r eb
      · have eb : gX4_truth_8b gc h c (nI d) (nI 1) (nI i) = some (.inr (nI 1, c)) := by
          unfold gX4_truth_8b gX4_truth_56
          by_cases q : 900 ≤ i
          · simp (disch := omega) only [n_lit, n_of, n_o1, nI_add, pk_mul, nI_ltI, nI_leI, nI_eq, ↓lift_lt, ↓k_mt, ↓k_mp, if_true, if_false, Bool.false_eq_true, Nat.not_lt_zero, Nat.zero_le, Nat.reduceEqDiff, Nat.reduceLeDiff, Nat.reduceLT, q, n_bl1, Option.map_some]
          · simp (disch := omega) only [n_lit, n_of, n_o1, nI_add, pk_mul, nI_ltI, nI_leI, nI_eq, ↓lift_lt, ↓k_mt, ↓k_mp, if_true, if_false, Bool.false_eq_true, Nat.not_lt_zero, Nat.zero_le, Nat.reduceEqDiff, Nat.reduceLeDiff, Nat.reduceLT, q, i1, ci, n_bl1, Option.map_some]
        show gX4_truth_8 gc h c (nI d) (nI 1) (nI i) = _
        unfold gX4_truth_8
        exact lpw_r eb
theorem nt_sum {B : Nat} (H0 : NTx t N g fr m0 c0 h false (B + 1) (fun m => gr 2 m (nI d)) (fun c => gc 1 c (nI d))) (hn : NOx (fun m => gr 2 m (nI d))) : NTx t N g fr m0 c0 h false B (fun m => gX12_readSum gr m (nI d)) (fun c => gX4_sum gc h c (nI d)) := by
  unfold gX12_readSum gX4_sum
  have i1 : ¬ (1 = 0) := by decide
  have nl : NOx (fun m => gX12_readSum_5 gr m (nI d)) := fun m hm => by
    have eb : gX12_readSum_5b gr m (nI d) = some (.inr m) := by
      unfold gX12_readSum_5b
      simp (disch := omega) only [n_lit, n_of, n_o1, nI_add, pk_mul, nI_ltI, nI_leI, nI_eq, ↓lift_lt, ↓k_mt, ↓k_mp, if_true, if_false, Bool.false_eq_true, Nat.not_lt_zero, Nat.zero_le, Nat.reduceEqDiff, Nat.reduceLeDiff, Nat.reduceLT, q_is_w hm]
    show gX12_readSum_5 gr m (nI d) = some m
    unfold gX12_readSum_5
    exact lpw_r eb
  refine nt_seq (RL := fun m => gX12_readSum_5 gr m (nI d)) (CL := fun c x i => gX4_sum_8 gc h c (nI d) x i) H0 nl (fun c => ?_) (fun m c cs a i hi H hl => ?_)
  · have eb : gX4_sum_8b gc h c (nI d) (nI 0) (nI 0) = some (.inr (nI 0, c)) := by
      have n9 : ¬ 900 ≤ 0 := by decide
      unfold gX4_sum_8b gX4_sum_72
      simp (disch := omega) only [n_lit, n_of, n_o1, nI_add, pk_mul, nI_ltI, nI_leI, nI_eq, ↓lift_lt, ↓k_mt, ↓k_mp, if_true, if_false, Bool.false_eq_true, Nat.not_lt_zero, Nat.zero_le, Nat.reduceEqDiff, Nat.reduceLeDiff, Nat.reduceLT, n9, n_bl0, Option.map_some]
    show gX4_sum_8 gc h c (nI d) (nI 0) (nI 0) = _
    unfold gX4_sum_8
    exact lpw_r eb
  · obtain ⟨b, kd, nm, K⟩ := H.2.1
    have ab := PRx_a H
    have kb := TC_kd K.2.2.2.2.2.2.2
    have qp : gX12_is m (nI 32) = some (nI (if kd = 32 then 1 else 0)) := q_is H.2.2.1 K.2.2.1 kb.1 (by decide)
    have qm : gX12_is m (nI 33) = some (nI (if kd = 33 then 1 else 0)) := q_is H.2.2.1 K.2.2.1 kb.1 (by decide)
    have cp : gX6_isAt h c 32 = some (nI (if kd = 32 then 1 else 0)) := tk_isAt H.1 K (x := 32) (by decide) (by decide)
    have cm : gX6_isAt h c 33 = some (nI (if kd = 33 then 1 else 0)) := tk_isAt H.1 K (x := 33) (by decide) (by decide)
    have k9 := K.2.2.1
    -- behind a sign
    have go : ∀ code cc : Nat, (code = 3000 ∨ code = 3001) → cco code = -nI cc → ¬ kd = 24 → (∀ _ : Mu, gX12_readSum_5b gr m (nI d) = gX12_readSum_41 gr m (nI d) (nI code)) → (¬ 900 ≤ i → gX4_sum_8b gc h c (nI d) (nI 1) (nI i) = gX4_sum_45 gc h c (nI d) (nI i) (-nI cc)) →
        ∃ m1, gX12_readSum_5 gr m (nI d) = gX12_readSum_5 gr m1 (nI d) ∧ ((∃ c1 ds a1, gX4_sum_8 gc h c (nI d) (nI 1) (nI i) = gX4_sum_8 gc h c1 (nI d) (nI 1) (nI (i + 1)) ∧ PRx t N g fr m0 c0 h m1 c1 (cs ++ ds) a1 ∧ a + ds.length ≤ a1 ∧ a < a1 ∧ ∀ st : List Bool, st.length ≤ B → tys g ds (false :: st) = some (false :: st)) ∨ (∃ c1, gX4_sum_8 gc h c (nI d) (nI 1) (nI i) = some (nI 0, c1) ∧ PFx fr m0 c0 m1 c1 ∧ gX12_readSum_5 gr m1 (nI d) = some m1)) := by
      intro code cc hcode hcc n24 hR hC
      have i9 : ¬ 900 ≤ i := fun q => n24 (end_a H K (by omega))
      have hC := hC i9
      obtain ⟨m1, c1, a1, e1, e2, P1, l1, -⟩ := p_next H K n24
      obtain ⟨m2, m3, x1, x2, x3⟩ := nt_step (code := code) (a := a) (fun st => ty_ar (by omega) st) H0 P1 hl l1
      have x1 : gr 2 m1 (nI d) = some m2 := x1
      rw [hcc] at x3
      refine ⟨m3, ?_, ?_⟩
      · have eb : gX12_readSum_5b gr m (nI d) = some (.inl m3) := by
          rw [hR m]
          unfold gX12_readSum_41
          simp (disch := omega) only [n_lit, n_of, n_o1, nI_add, pk_mul, nI_ltI, nI_leI, nI_eq, ↓lift_lt, ↓k_mt, ↓k_mp, if_true, if_false, Bool.false_eq_true, Nat.not_lt_zero, Nat.zero_le, Nat.reduceEqDiff, Nat.reduceLeDiff, Nat.reduceLT, e1, x1, x2]
        unfold gX12_readSum_5
        exact lpw_l eb
      · rcases x3 with ⟨c2, c3, ds, a3, y1, y2, y3, y4, y5, y6⟩ | ⟨c2, c3, y1, y2, y3⟩
        · left
          have y1 : gc 1 c1 (nI d) = some (nI 1, c2) := y1
          refine ⟨c3, ds, a3, ?_, y3, y4, y5, y6⟩
          have eb : gX4_sum_8b gc h c (nI d) (nI 1) (nI i) = some (.inl (nI 1, nI (i + 1), c3)) := by
            rw [hC]
            unfold gX4_sum_45
            simp (disch := omega) only [n_lit, n_of, n_o1, nI_add, pk_mul, nI_ltI, nI_leI, nI_eq, ↓lift_lt, ↓k_mt, ↓k_mp, if_true, if_false, Bool.false_eq_true, Nat.not_lt_zero, Nat.zero_le, Nat.reduceEqDiff, Nat.reduceLeDiff, Nat.reduceLT, e2, y1, y2]
          unfold gX4_sum_8
          exact lpw_l eb
        · right
          have y1 : gc 1 c1 (nI d) = some (nI 0, c2) := y1
          refine ⟨c3, ?_, y3, nl m3 (PFx_w y3)⟩
          have eb : gX4_sum_8b gc h c (nI d) (nI 1) (nI i) = some (.inl (nI 0, nI (i + 1), c3)) := by
            rw [hC]
            unfold gX4_sum_45
            simp (disch := omega) only [n_lit, n_of, n_o1, nI_add, pk_mul, nI_ltI, nI_leI, nI_eq, ↓lift_lt, ↓k_mt, ↓k_mp, if_true, if_false, Bool.false_eq_true, Nat.not_lt_zero, Nat.zero_le, Nat.reduceEqDiff, Nat.reduceLeDiff, Nat.reduceLT, e2, y1, y2]
          have eb2 : gX4_sum_8b gc h c3 (nI d) (nI 0) (nI (i + 1)) = some (.inr (nI 0, c3)) := by
            unfold gX4_sum_8b gX4_sum_72
            by_cases q : 900 ≤ i + 1
            · simp (disch := omega) only [n_lit, n_of, n_o1, nI_add, pk_mul, nI_ltI, nI_leI, nI_eq, ↓lift_lt, ↓k_mt, ↓k_mp, if_true, if_false, Bool.false_eq_true, Nat.not_lt_zero, Nat.zero_le, Nat.reduceEqDiff, Nat.reduceLeDiff, Nat.reduceLT, q, n_bl0, Option.map_some]
            · simp (disch := omega) only [n_lit, n_of, n_o1, nI_add, pk_mul, nI_ltI, nI_leI, nI_eq, ↓lift_lt, ↓k_mt, ↓k_mp, if_true, if_false, Bool.false_eq_true, Nat.not_lt_zero, Nat.zero_le, Nat.reduceEqDiff, Nat.reduceLeDiff, Nat.reduceLT, q, n_bl0, Option.map_some]
          unfold gX4_sum_8
          refine (lpw_l eb).trans ?_
          exact lpw_r eb2
    by_cases zp : kd = 32
    · right
      rw [if_pos zp] at qp cp
      refine go 3000 11 (Or.inl rfl) cco_t.1 (by omega) (fun _ => ?_) (fun i9 => ?_)
      · unfold gX12_readSum_5b gX12_readSum_23
        simp (disch := omega) only [n_lit, n_of, n_o1, nI_add, pk_mul, nI_ltI, nI_leI, nI_eq, ↓lift_lt, ↓k_mt, ↓k_mp, if_true, if_false, Bool.false_eq_true, Nat.not_lt_zero, Nat.zero_le, Nat.reduceEqDiff, Nat.reduceLeDiff, Nat.reduceLT, qp, i1, k9, eq_true zp]
      · unfold gX4_sum_8b gX4_isAtPlusOrMinus gX4_isAtPlusOrMinus_24 gX4_isAtPlusOrMinus_29
        simp (disch := omega) only [n_lit, n_of, n_o1, nI_add, pk_mul, nI_ltI, nI_leI, nI_eq, ↓lift_lt, ↓k_mt, ↓k_mp, if_true, if_false, Bool.false_eq_true, Nat.not_lt_zero, Nat.zero_le, Nat.reduceEqDiff, Nat.reduceLeDiff, Nat.reduceLT, i9, i1, cp, n_bl1]
    · rw [if_neg zp] at qp cp
      by_cases zm : kd = 33
      · right
        rw [if_pos zm] at qm cm
        refine go 3001 12 (Or.inr rfl) cco_t.2.1 (by omega) (fun _ => ?_) (fun i9 => ?_)
        · unfold gX12_readSum_5b gX12_readSum_23
          simp (disch := omega) only [n_lit, n_of, n_o1, nI_add, pk_mul, nI_ltI, nI_leI, nI_eq, ↓lift_lt, ↓k_mt, ↓k_mp, if_true, if_false, Bool.false_eq_true, Nat.not_lt_zero, Nat.zero_le, Nat.reduceEqDiff, Nat.reduceLeDiff, Nat.reduceLT, qp, qm, i1, k9, zp]
        · unfold gX4_sum_8b gX4_isAtPlusOrMinus gX4_isAtPlusOrMinus_24 gX4_isAtPlusOrMinus_29
          simp (disch := omega) only [n_lit, n_of, n_o1, nI_add, pk_mul, nI_ltI, nI_leI, nI_eq, ↓lift_lt, ↓k_mt, ↓k_mp, if_true, if_false, Bool.false_eq_true, Nat.not_lt_zero, Nat.zero_le, Nat.reduceEqDiff, Nat.reduceLeDiff, Nat.reduceLT, i9, i1, cp, cm, n_bl1]
      · left
        rw [if_neg zm] at qm cm
        refine ⟨?_, ?_⟩
        · have eb : gX12_readSum_5b gr m (nI d) = some (.inr m) := by
            unfold gX12_readSum_5b
            simp (disch := omega) only [n_lit, n_of, n_o1, nI_add, pk_mul, nI_ltI, nI_leI, nI_eq, ↓lift_lt, ↓k_mt, ↓k_mp, if_true, if_false, Bool.false_eq_true, Nat.not_lt_zero, Nat.zero_le, Nat.reduceEqDiff, Nat.reduceLeDiff, Nat.reduceLT, qp, qm]
          show gX12_readSum_5 gr m (nI d) = _
          unfold gX12_readSum_5
          exact lpw_r eb
        · have eb : gX4_sum_8b gc h c (nI d) (nI 1) (nI i) = some (.inr (nI 1, c)) := by
            unfold gX4_sum_8b gX4_sum_72 gX4_isAtPlusOrMinus gX4_isAtPlusOrMinus_29
            by_cases q : 900 ≤ i
            · simp (disch := omega) only [n_lit, n_of, n_o1, nI_add, pk_mul, nI_ltI, nI_leI, nI_eq, ↓lift_lt, ↓k_mt, ↓k_mp, if_true, if_false, Bool.false_eq_true, Nat.not_lt_zero, Nat.zero_le, Nat.reduceEqDiff, Nat.reduceLeDiff, Nat.reduceLT, q, n_bl1, Option.map_some]
            · simp (disch := omega) only [n_lit, n_of, n_o1, nI_add, pk_mul, nI_ltI, nI_leI, nI_eq, ↓lift_lt, ↓k_mt, ↓k_mp, if_true, if_false, Bool.false_eq_true, Nat.not_lt_zero, Nat.zero_le, Nat.reduceEqDiff, Nat.reduceLeDiff, Nat.reduceLT, q, i1, cp, cm, n_bl0, n_bl1, Option.map_some]
          show gX4_sum_8 gc h c (nI d) (nI 1) (nI i) = _
          unfold gX4_sum_8
          exact lpw_r eb
end LVL
end NTS
