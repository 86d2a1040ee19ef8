/-! the reference lays within how many years a pair is forced to meet -/
def mx2 (a b : Nat) : Nat := if a ≤ b then b else a
def fbv (a b : Nat) : Nat := if mx2 a b = 268435456 then 268435456 else mx2 a b + 1
theorem mx2_ge (a b : Nat) : a ≤ mx2 a b ∧ b ≤ mx2 a b := by
  unfold mx2
  split <;> omega
section GAMEF
variable {v : Cv} {s : St} {m m0 : Mu} {q F : Nat → Nat} {n p : Nat}
/-- dry years are laid -/
def DRx (v : Cv) (ch : Nat) (m : Mu) (q : Nat → Nat) (n : Nat) : Prop := ∀ i kk, i < n → kk < nL v → m.2.1 20 (35 * q i + kk) = nI (nxd v ch kk (q i))
def FDx (v : Cv) (ch p : Nat) (q : Nat → Nat) (n : Nat) (F : Nat → Nat) : Prop :=
  (∀ i, i < n → F i = 268435456 ∨ (F i ≤ fin1 F n ∧ Fcd (nxt v ch) (nxd v ch) (nL v) (fun t => dg t p) (F i) (q i))) ∧ ∀ i, i < n → dg (q i) p = 0 → F i = 0
theorem FDx_b (A : ALd v s m q n) (H : FDx v s.2.1 p q n F) {i : Nat} (hi : i < n) : F i ≤ 268435456 ∧ (F i = 268435456 ∨ F i ≤ 20000) := by
  have hn := A.2.2.1
  have kb := fin1_le F n
  rcases H.1 i hi with w | ⟨w, -⟩
  · omega
  · omega
theorem q_forcedBy {i kk j j' : Nat} (A : ALd v s m q n) (hD : DRx v s.2.1 m q n) (hV : FV m q n F) (hi : i < n) (hk : kk < nL v) (hL : nL v ≤ 35) (hj : j < n) (hj' : j' < n) (e : q j = nxt v s.2.1 kk (q i)) (e' : q j' = nxd v s.2.1 kk (q i)) : gX12_forcedBy m (nI (q i)) (nI kk) = some (nI (fbv (F j) (F j'))) := by
  have o1 := (A.2.2.2.2.1 i hi).1
  have o2 := (A.2.2.2.2.1 j hj).1
  have o3 := (A.2.2.2.2.1 j' hj').1
  have e14 : m.2.1 14 (35 * q i + kk) = nI (q j) := by rw [e]; exact (A.2.2.2.2.2.2 i kk hi hk).1
  have e20 : m.2.1 20 (35 * q i + kk) = nI (q j') := by rw [e']; exact hD i kk hi hk
  obtain ⟨f1, f2⟩ := hV j hj
  obtain ⟨f3, f4⟩ := hV j' hj'
  unfold gX12_forcedBy gX12_forcedBy_47 gX12_forcedBy_67 fbv mx2
  by_cases z : F j ≤ F j'
  · rw [if_pos z]
    by_cases y : F j' = 268435456
    · rw [if_pos y]
      simp (disch := omega) only [n_lit, n_of, n_o1, nI_add, pk_mul, nI_ltI, nI_leI, nI_eq, ↓lift_lt, ↓k_mt, ↓k_mp, if_true, if_false, Bool.false_eq_true, Nat.not_lt_zero, Nat.zero_le, Nat.reduceEqDiff, Nat.reduceLeDiff, Nat.reduceLT, mA_14, e14, mA_15, f2, mA_20, e20, f4, z, eq_true y]
    · rw [if_neg y]
      simp (disch := omega) only [n_lit, n_of, n_o1, nI_add, pk_mul, nI_ltI, nI_leI, nI_eq, ↓lift_lt, ↓k_mt, ↓k_mp, if_true, if_false, Bool.false_eq_true, Nat.not_lt_zero, Nat.zero_le, Nat.reduceEqDiff, Nat.reduceLeDiff, Nat.reduceLT, mA_14, e14, mA_15, f2, mA_20, e20, f4, z, y]
  · rw [if_neg z]
    by_cases y : F j = 268435456
    · rw [if_pos y]
      simp (disch := omega) only [n_lit, n_of, n_o1, nI_add, pk_mul, nI_ltI, nI_leI, nI_eq, ↓lift_lt, ↓k_mt, ↓k_mp, if_true, if_false, Bool.false_eq_true, Nat.not_lt_zero, Nat.zero_le, Nat.reduceEqDiff, Nat.reduceLeDiff, Nat.reduceLT, mA_14, e14, mA_15, f2, mA_20, e20, f4, z, eq_true y]
    · rw [if_neg y]
      simp (disch := omega) only [n_lit, n_of, n_o1, nI_add, pk_mul, nI_ltI, nI_leI, nI_eq, ↓lift_lt, ↓k_mt, ↓k_mp, if_true, if_false, Bool.false_eq_true, Nat.not_lt_zero, Nat.zero_le, Nat.reduceEqDiff, Nat.reduceLeDiff, Nat.reduceLT, mA_14, e14, mA_15, f2, mA_20, e20, f4, z, y]
theorem fd_step {i kk j j' : Nat} (A : ALd v s m q n) (hI : FDx v s.2.1 p q n F) (hi : i < n) (hk : kk < nL v) (hj : j < n) (hj' : j' < n) (e : q j = nxt v s.2.1 kk (q i)) (e' : q j' = nxd v s.2.1 kk (q i)) (hl : fbv (F j) (F j') < F i) :
    FDx v s.2.1 p q n (fun y => if y = i then fbv (F j) (F j') else F y) ∧ csum (fun y => if y = i then fbv (F j) (F j') else F y) n < csum F n := by
  have hn := A.2.2.1
  have kb := fin1_le F n
  obtain ⟨b1, b2⟩ := FDx_b A hI hi
  obtain ⟨b3, -⟩ := FDx_b A hI hj
  obtain ⟨b4, -⟩ := FDx_b A hI hj'
  obtain ⟨g1, g2⟩ := mx2_ge (F j) (F j')
  have hb : ¬ mx2 (F j) (F j') = 268435456 := fun z => by
    have e0 : fbv (F j) (F j') = 268435456 := if_pos z
    omega
  have mb : mx2 (F j) (F j') ≤ 268435456 := by
    unfold mx2
    split <;> omega
  have el : fbv (F j) (F j') = mx2 (F j) (F j') + 1 := if_neg hb
  obtain ⟨u1, u2⟩ := (hI.1 j hj).resolve_left (by omega)
  obtain ⟨u3, u4⟩ := (hI.1 j' hj').resolve_left (by omega)
  have mk : mx2 (F j) (F j') ≤ fin1 F n := by
    unfold mx2
    split <;> omega
  have fc : Fcd (nxt v s.2.1) (nxd v s.2.1) (nL v) (fun t => dg t p) (mx2 (F j) (F j') + 1) (q i) := Or.inr ⟨kk, hk, by rw [← e]; exact Fcd_le g1 u2, by rw [← e']; exact Fcd_le g2 u4⟩
  have up : fin1 F n ≤ fin1 (fun y => if y = i then fbv (F j) (F j') else F y) n := csum_le (fun y _ => by
    show (if F y = 268435456 then 0 else 1) ≤ (if (if y = i then fbv (F j) (F j') else F y) = 268435456 then 0 else 1)
    by_cases z : y = i
    · rw [if_pos z, if_neg (show ¬ fbv (F j) (F j') = 268435456 by omega)]
      split <;> omega
    · rw [if_neg z]; exact Nat.le_refl _)
  refine ⟨⟨fun y hy => ?_, fun y hy hG => ?_⟩, ?_⟩
  · show (if y = i then fbv (F j) (F j') else F y) = 268435456 ∨ ((if y = i then fbv (F j) (F j') else F y) ≤ _ ∧ Fcd (nxt v s.2.1) (nxd v s.2.1) (nL v) (fun t => dg t p) (if y = i then fbv (F j) (F j') else F y) (q y))
    by_cases z : y = i
    · subst z
      rw [if_pos rfl]
      refine Or.inr ⟨?_, by rw [el]; exact fc⟩
      rcases hI.1 y hi with w | ⟨w, -⟩
      · have c1 := csum_one (f := fun t => if F t = 268435456 then 0 else 1) (g := fun t => if (if t = y then fbv (F j) (F j') else F t) = 268435456 then 0 else 1) (k := y) (by
          show (if (if y = y then fbv (F j) (F j') else F y) = 268435456 then 0 else 1) = (if F y = 268435456 then 0 else 1) + 1
          rw [if_pos rfl, if_neg (by omega), if_pos w]) (fun t ht => by
          show (if (if t = y then fbv (F j) (F j') else F t) = 268435456 then 0 else 1) = (if F t = 268435456 then 0 else 1)
          rw [if_neg ht]) n
        rw [if_pos hi] at c1
        have c2 : fin1 (fun t => if t = y then fbv (F j) (F j') else F t) n = fin1 F n + 1 := c1
        omega
      · omega
    · rw [if_neg z]
      rcases hI.1 y hy with w | ⟨w1, w2⟩
      · exact Or.inl w
      · exact Or.inr ⟨by omega, w2⟩
  · show (if y = i then fbv (F j) (F j') else F y) = 0
    by_cases z : y = i
    · subst z
      have := hI.2 y hy hG
      omega
    · rw [if_neg z]; exact hI.2 y hy hG
  · exact csum_lt (fun y _ => by
      show (if y = i then fbv (F j) (F j') else F y) ≤ F y
      by_cases z : y = i
      · subst z; rw [if_pos rfl]; omega
      · rw [if_neg z]; exact Nat.le_refl _) ⟨i, hi, by
      show (if i = i then fbv (F j) (F j') else F i) < F i
      rw [if_pos rfl]; exact hl⟩
/-- by this leading it isn't nearer -/
def NIx (v : Cv) (ch : Nat) (q : Nat → Nat) (n : Nat) (F : Nat → Nat) (i kk : Nat) : Prop := ∀ j j', j < n → j' < n → q j = nxt v ch kk (q i) → q j' = nxd v ch kk (q i) → F i ≤ fbv (F j) (F j')
theorem fd_end (A : ALd v s m q n) (hI : FDx v s.2.1 p q n F) (hs : ∀ i, i < n → 0 < F i → ∀ kk, kk < nL v → NIx v s.2.1 q n F i kk) : ∀ e i, i < n → Fcd (nxt v s.2.1) (nxd v s.2.1) (nL v) (fun t => dg t p) e (q i) → F i ≤ e ∧ F i < 268435456 := by
  have hn := A.2.2.1
  have kb := fin1_le F n
  intro e
  induction e with
  | zero =>
    intro i hi hG
    have := hI.2 i hi hG
    omega
  | succ e ih =>
    intro i hi hG
    rcases hG with hG | ⟨kk, k1, k2, k3⟩
    · have := hI.2 i hi hG
      omega
    · by_cases z : 0 < F i
      · obtain ⟨-, ⟨j, j1, j2⟩, j', j1', j2'⟩ := A.2.2.2.2.2.2 i kk hi k1
        rw [← j2] at k2
        rw [← j2'] at k3
        have a1 := ih j j1 k2
        have a2 := ih j' j1' k3
        have a3 := hs i hi z kk k1 j j' j1 j1' j2 j2'
        have b1 := FDx_b A hI j1
        have b2 := FDx_b A hI j1'
        have m1 : mx2 (F j) (F j') ≤ e ∧ mx2 (F j) (F j') ≤ 20000 := by
          unfold mx2
          split <;> omega
        have m2 : fbv (F j) (F j') = mx2 (F j) (F j') + 1 := if_neg (by omega)
        omega
      · omega
theorem ALd_S {r i : Nat} {y : Int32} (A : ALd v s m q n) (h13 : ¬ 13 = r) (h14 : ¬ 14 = r) : ALd v s (mS m r i y) q n := by
  unfold ALd at *
  rw [mS_f, mS_ne _ _ _ h13, mS_ne _ _ _ h14]
  exact A
theorem DRx_15 {i : Nat} {y : Int32} (A : DRx v s.2.1 m q n) : DRx v s.2.1 (mS m 15 i y) q n := by
  unfold DRx at *
  rw [mS_ne _ _ _ (by decide)]
  exact A
theorem FV_Sd {i y : Nat} (A : ALd v s m q n) (hF : FV m q n F) (hi : i < n) (hy : y ≤ 268435456) : FV (mS m 15 (q i) (nI y)) q n (fun j => if j = i then y else F j) := by
  intro j hj
  show (if j = i then y else F j) ≤ 268435456 ∧ _
  rw [mS_a, if_pos rfl]
  by_cases z : j = i
  · rw [if_pos z, if_pos (by rw [z])]
    exact ⟨hy, congrArg nI (if_pos z).symm⟩
  · have ne : ¬ q j = q i := fun w => by
      have inj := A.2.2.2.2.2.1
      by_cases l : j < i
      · exact inj j i l hi w
      · exact inj i j (by omega) hj w.symm
    rw [if_neg z, if_neg ne]
    refine ⟨(hF j hj).1, (hF j hj).2.trans ?_⟩
    exact congrArg nI (if_neg z).symm
/-- what a step of the sweep may do -/
def SWx (m0 : Mu) (v : Cv) (s : St) (p : Nat) (q : Nat → Nat) (n : Nat) (F : Nat → Nat) (b : Nat) (m' : Mu) (F' : Nat → Nat) (C : Prop) : Prop :=
  MBx m0 v s m' ∧ ALd v s m' q n ∧ DRx v s.2.1 m' q n ∧ FV m' q n F' ∧ FDx v s.2.1 p q n F' ∧ ((b = 0 ∧ F' = F ∧ C) ∨ (b = 1 ∧ csum F' n < csum F n))
theorem fd_inner {i b : Nat} {C : Prop} {F' : Nat → Nat} (hi : i < n) (H : SWx m0 v s p q n F b m F' C) :
    ∃ (b' : Nat) (m' : Mu) (F2 : Nat → Nat), gX12_laysForced_122 m (nI b) (nI i) (nI (q i)) (nI 0) = some (.inl (nI b', dn i, m')) ∧ SWx m0 v s p q n F b' m' F2 (C ∧ (0 < F i → ∀ kk, kk < nL v → NIx v s.2.1 q n F i kk)) := by
  have hW := H.1.1.2.2.1
  obtain ⟨hL0, hL⟩ := nL_b hW
  unfold gX12_laysForced_122
  have K := lpw_inv (body := fun z : Int32 × Int32 × Mu => gX12_laysForced_122b z.2.2 (nI i) (nI (q i)) z.1 z.2.1)
    (fun kk z => ∃ (b' : Nat) (F2 : Nat → Nat), z.1 = nI b' ∧ z.2.1 = nI kk ∧ SWx m0 v s p q n F b' z.2.2 F2 (C ∧ ∀ k, k < kk → NIx v s.2.1 q n F i k))
    (fun r => ∃ (b' : Nat) (m' : Mu) (F2 : Nat → Nat), r = .inl (nI b', dn i, m') ∧ SWx m0 v s p q n F b' m' F2 (C ∧ (0 < F i → ∀ kk, kk < nL v → NIx v s.2.1 q n F i kk))) (nL v) ?_ ?_ (nI b, nI 0, m) ⟨b, F', rfl, rfl, H.1, H.2.1, H.2.2.1, H.2.2.2.1, H.2.2.2.2.1, ?_⟩
  · obtain ⟨r, e, b', m', F2, e2, a⟩ := K
    subst e2
    exact ⟨b', m', F2, e, a⟩
  · rintro kk ⟨z1, z2, z3⟩ hk ⟨b', F2, g1, g2, g3o⟩
    have g1 : z1 = nI b' := g1
    have g2 : z2 = nI kk := g2
    subst g1
    subst g2
    have g3 : SWx m0 v s p q n F b' z3 F2 (C ∧ ∀ k, k < kk → NIx v s.2.1 q n F i k) := g3o
    obtain ⟨B, A, hD, hV, hI, hC⟩ := g3
    have o1 := (A.2.2.2.2.1 i hi).1
    obtain ⟨f1, f2⟩ := hV i hi
    have k1 : ¬ nL v ≤ kk := by omega
    show (∃ s', gX12_laysForced_122b z3 (nI i) (nI (q i)) (nI b') (nI kk) = some (.inl s') ∧ _) ∨ (∃ r, gX12_laysForced_122b z3 (nI i) (nI (q i)) (nI b') (nI kk) = some (.inr r) ∧ _)
    by_cases z0 : F2 i ≤ 0
    · refine Or.inr ⟨.inl (nI b', dn i, z3), ?_, b', z3, F2, rfl, B, A, hD, hV, hI, ?_⟩
      · unfold gX12_laysForced_122b gX12_laysForced_185
        simp (disch := omega) only [n_lit, n_of, n_o1, nI_add, pk_mul, nI_ltI, nI_leI, nI_eq, ↓lift_lt, ↓k_mt, ↓k_mp, if_true, if_false, Bool.false_eq_true, Nat.not_lt_zero, Nat.zero_le, Nat.reduceEqDiff, Nat.reduceLeDiff, Nat.reduceLT, B.2.2.1, k1, mA_15, f2, z0, dn_d, Option.map_some]
      · rcases hC with ⟨w1, w2, w3⟩ | w
        · exact Or.inl ⟨w1, w2, w3.1, fun h0 => by rw [w2] at z0; omega⟩
        · exact Or.inr w
    · refine Or.inl ?_
      obtain ⟨-, ⟨j, j1, j2⟩, j', j1', j2'⟩ := A.2.2.2.2.2.2 i kk hi hk
      have fb := q_forcedBy A hD hV hi hk hL j1 j1' j2 j2'
      have fle : fbv (F2 j) (F2 j') ≤ 268435456 := by
        have a1 := (hV j j1).1
        have a2 := (hV j' j1').1
        unfold fbv mx2
        split <;> split <;> omega
      by_cases zl : fbv (F2 j) (F2 j') < F2 i
      · obtain ⟨p1, p2⟩ := fd_step A hI hi hk j1 j1' j2 j2' zl
        refine ⟨(nI 1, nI (kk + 1), mS z3 15 (q i) (nI (fbv (F2 j) (F2 j')))), ?_, 1, _, rfl, rfl, MBx_S B (by omega), ALd_S A (by decide) (by decide), DRx_15 hD, FV_Sd A hV hi fle, p1, Or.inr ⟨rfl, ?_⟩⟩
        · unfold gX12_laysForced_122b gX12_laysForced_179
          simp (disch := omega) only [n_lit, n_of, n_o1, nI_add, pk_mul, nI_ltI, nI_leI, nI_eq, ↓lift_lt, ↓k_mt, ↓k_mp, if_true, if_false, Bool.false_eq_true, Nat.not_lt_zero, Nat.zero_le, Nat.reduceEqDiff, Nat.reduceLeDiff, Nat.reduceLT, B.2.2.1, k1, mA_15, f2, z0, fb, eq_true zl, mW_15]
        · rcases hC with ⟨-, w, -⟩ | ⟨-, w⟩
          · rw [w] at p2 ⊢
            exact p2
          · exact Nat.lt_trans p2 w
      · refine ⟨(nI b', nI (kk + 1), z3), ?_, b', F2, rfl, rfl, B, A, hD, hV, hI, ?_⟩
        · unfold gX12_laysForced_122b gX12_laysForced_179
          simp (disch := omega) only [n_lit, n_of, n_o1, nI_add, pk_mul, nI_ltI, nI_leI, nI_eq, ↓lift_lt, ↓k_mt, ↓k_mp, if_true, if_false, Bool.false_eq_true, Nat.not_lt_zero, Nat.zero_le, Nat.reduceEqDiff, Nat.reduceLeDiff, Nat.reduceLT, B.2.2.1, k1, mA_15, f2, z0, fb, eq_false zl]
        · rcases hC with ⟨w1, w2, w3, w4⟩ | w
          · refine Or.inl ⟨w1, w2, w3, fun k hk' => ?_⟩
            by_cases zk : k = kk
            · subst zk
              intro y y' h1 h2 h3 h4
              have inj : ∀ {x y : Nat}, x < n → y < n → q x = q y → x = y := fun {x y} hx hy hq => by
                have in1 := A.2.2.2.2.2.1
                rcases Nat.lt_trichotomy x y with l | l | l
                · exact absurd hq (in1 x y l hy)
                · exact l
                · exact absurd hq.symm (in1 y x l hx)
              have e1 : y = j := inj h1 j1 (by rw [h3, j2])
              have e2 : y' = j' := inj h2 j1' (by rw [h4, j2'])
              subst w2
              rw [e1, e2]
              omega
            · exact w4 k (by omega)
          · exact Or.inr w
  · rintro ⟨z1, z2, z3⟩ ⟨b', F2, g1, g2, g3o⟩
    have g1 : z1 = nI b' := g1
    have g2 : z2 = nI (nL v) := g2
    subst g1
    subst g2
    have g3 : SWx m0 v s p q n F b' z3 F2 (C ∧ ∀ k, k < nL v → NIx v s.2.1 q n F i k) := g3o
    obtain ⟨B, A, hD, hV, hI, hC⟩ := g3
    show ∃ r, gX12_laysForced_122b z3 (nI i) (nI (q i)) (nI b') (nI (nL v)) = some (.inr r) ∧ _
    refine ⟨.inl (nI b', dn i, z3), ?_, b', z3, F2, rfl, B, A, hD, hV, hI, ?_⟩
    · unfold gX12_laysForced_122b gX12_laysForced_185
      simp (disch := omega) only [n_lit, n_of, n_o1, nI_add, pk_mul, nI_ltI, nI_leI, nI_eq, ↓lift_lt, ↓k_mt, ↓k_mp, if_true, if_false, Bool.false_eq_true, Nat.not_lt_zero, Nat.zero_le, Nat.reduceEqDiff, Nat.reduceLeDiff, Nat.reduceLT, B.2.2.1, Nat.le_refl, dn_d, Option.map_some]
    · rcases hC with ⟨w1, w2, w3, w4⟩ | w
      · exact Or.inl ⟨w1, w2, w3, fun _ => w4⟩
      · exact Or.inr w
  · rcases H.2.2.2.2.2 with ⟨w1, w2, w3⟩ | w
    · exact Or.inl ⟨w1, w2, w3, fun k hk => by omega⟩
    · exact Or.inr w
theorem fd_sweep (B : MBx m0 v s m) (A : ALd v s m q n) (hD : DRx v s.2.1 m q n) (hV : FV m q n F) (hI : FDx v s.2.1 p q n F) :
    ∃ (b : Nat) (m' : Mu) (F' : Nat → Nat), gX12_laysForced_107 m (nI 0) (dn n) = some (.inl (nI b, m')) ∧ SWx m0 v s p q n F b m' F' (∀ i, i < n → 0 < F i → ∀ kk, kk < nL v → NIx v s.2.1 q n F i kk) := by
  have hn := A.2.2.1
  unfold gX12_laysForced_107
  have K := lpw_all (body := fun z : Int32 × Int32 × Mu => gX12_laysForced_107b z.2.2 z.1 z.2.1)
    (fun k z => ∃ (b : Nat) (F' : Nat → Nat), z.1 = nI b ∧ z.2.1 = dn (n - k) ∧ SWx m0 v s p q n F b z.2.2 F' (∀ i, n - k ≤ i → i < n → 0 < F i → ∀ kk, kk < nL v → NIx v s.2.1 q n F i kk))
    (fun r => ∃ (b : Nat) (m' : Mu) (F' : Nat → Nat), r = .inl (nI b, m') ∧ SWx m0 v s p q n F b m' F' (∀ i, i < n → 0 < F i → ∀ kk, kk < nL v → NIx v s.2.1 q n F i kk)) n ?_ ?_ (nI 0, dn n, m) ⟨0, F, rfl, rfl, B, A, hD, hV, hI, Or.inl ⟨rfl, rfl, fun i h1 h2 => by omega⟩⟩
  · obtain ⟨r, e, b, m', F', e2, a⟩ := K
    subst e2
    exact ⟨b, m', F', e, a⟩
  · rintro k ⟨z1, z2, z3⟩ hk ⟨b, F', g1, g2, g3o⟩
    have g1 : z1 = nI b := g1
    have g2 : z2 = dn (n - k) := g2
    obtain ⟨i, ei⟩ : ∃ i, n - k = i + 1 := ⟨n - k - 1, by omega⟩
    subst g1
    subst g2
    have hi : i < n := by omega
    have g3 : SWx m0 v s p q n F b z3 F' (∀ i, n - k ≤ i → i < n → 0 < F i → ∀ kk, kk < nL v → NIx v s.2.1 q n F i kk) := g3o
    obtain ⟨b', m', F2, e, S'⟩ := fd_inner hi g3
    obtain ⟨o1, o3⟩ := g3.2.1.2.2.2.2.1 i hi
    show ∃ s', gX12_laysForced_107b z3 (nI b) (dn (n - k)) = some (.inl s') ∧ _
    rw [ei, dn_s]
    refine ⟨(nI b', dn i, m'), ?_, b', F2, rfl, by rw [show n - (k + 1) = i by omega], S'.1, S'.2.1, S'.2.2.1, S'.2.2.2.1, S'.2.2.2.2.1, ?_⟩
    · unfold gX12_laysForced_107b
      simp (disch := omega) only [n_lit, n_of, n_o1, nI_add, pk_mul, nI_ltI, nI_leI, nI_eq, ↓lift_lt, ↓k_mt, ↓k_mp, if_true, if_false, Bool.false_eq_true, Nat.not_lt_zero, Nat.zero_le, Nat.reduceEqDiff, Nat.reduceLeDiff, Nat.reduceLT, mA_13, o3, e]
    · rcases S'.2.2.2.2.2 with ⟨w1, w2, w3, w4⟩ | w
      · refine Or.inl ⟨w1, w2, fun y y1 y2 y3 => ?_⟩
        by_cases zy : y = i
        · subst zy; exact w4 y3
        · exact w3 y (by omega) y2 y3
      · exact Or.inr w
  · rintro ⟨z1, z2, z3⟩ ⟨b, F', g1, g2, g3o⟩
    have g1 : z1 = nI b := g1
    have g2 : z2 = dn (n - n) := g2
    subst g1
    subst g2
    have g3 : SWx m0 v s p q n F b z3 F' (∀ i, n - n ≤ i → i < n → 0 < F i → ∀ kk, kk < nL v → NIx v s.2.1 q n F i kk) := g3o
    show ∃ r, gX12_laysForced_107b z3 (nI b) (dn (n - n)) = some (.inr r) ∧ _
    rw [Nat.sub_self, dn_z]
    have lm : (-nI 1 < nI 0) = True := eq_true (by decide)
    refine ⟨.inl (nI b, z3), ?_, b, z3, F', rfl, g3.1, g3.2.1, g3.2.2.1, g3.2.2.2.1, g3.2.2.2.2.1, ?_⟩
    · unfold gX12_laysForced_107b
      simp (disch := omega) only [n_lit, n_of, n_o1, nI_add, pk_mul, nI_ltI, nI_leI, nI_eq, ↓lift_lt, ↓k_mt, ↓k_mp, if_true, if_false, Bool.false_eq_true, Nat.not_lt_zero, Nat.zero_le, Nat.reduceEqDiff, Nat.reduceLeDiff, Nat.reduceLT, lm]
    · rcases g3.2.2.2.2.2 with ⟨w1, w2, w3⟩ | w
      · exact Or.inl ⟨w1, w2, fun i hi => w3 i (by omega) hi⟩
      · exact Or.inr w
/-- within how many years, of all stands -/
def FRD (v : Cv) (ch p : Nat) (q : Nat → Nat) (n : Nat) (F : Nat → Nat) : Prop := ∀ i, i < n → (F i = 268435456 ∧ ∀ e, ¬ Fcd (nxt v ch) (nxd v ch) (nL v) (fun t => dg t p) e (q i)) ∨ (F i < 20001 ∧ Fst (nxt v ch) (nxd v ch) (nL v) (fun t => dg t p) (F i) (q i))
theorem q_forced92 (B : MBx m0 v s m) (A : ALd v s m q n) (hD : DRx v s.2.1 m q n) (hV : FV m q n F) (hI : FDx v s.2.1 p q n F) :
    ∃ (m' : Mu) (F' : Nat → Nat), gX12_laysForced_92 m = some (nI (F' 0), m') ∧ MBx m0 v s m' ∧ ALd v s m' q n ∧ DRx v s.2.1 m' q n ∧ FV m' q n F' ∧ FRD v s.2.1 p q n F' := by
  have hn := A.2.2.1
  have K := lpw_meas (body := fun z : Int32 × Mu => gX12_laysForced_94b z.2 z.1)
    (fun z => ∃ (b : Nat) (F' : Nat → Nat), z.1 = nI b ∧ MBx m0 v s z.2 ∧ ALd v s z.2 q n ∧ DRx v s.2.1 z.2 q n ∧ FV z.2 q n F' ∧ FDx v s.2.1 p q n F' ∧ (b = 1 ∨ (b = 0 ∧ FRD v s.2.1 p q n F')))
    (fun r => ∃ (m' : Mu) (F' : Nat → Nat), r = (nI (F' 0), m') ∧ MBx m0 v s m' ∧ ALd v s m' q n ∧ DRx v s.2.1 m' q n ∧ FV m' q n F' ∧ FRD v s.2.1 p q n F')
    (fun z => csum (fun i => (z.2.2.1 15 (q i)).toInt.toNat) n + (if z.1 = nI 0 then 0 else 1)) ?_ (nI 1, m) ⟨1, F, rfl, B, A, hD, hV, hI, Or.inl rfl⟩
  · obtain ⟨r, e, m', F', e2, a⟩ := K
    subst e2
    exact ⟨m', F', e, a⟩
  · rintro ⟨z1, z2⟩ ⟨b, F', g1, g2o, g3o, g3b, g4o, g5, g6⟩
    have g1 : z1 = nI b := g1
    subst g1
    have g2 : MBx m0 v s z2 := g2o
    have g3 : ALd v s z2 q n := g3o
    have g3d : DRx v s.2.1 z2 q n := g3b
    have g4 : FV z2 q n F' := g4o
    have ms : ∀ (m' : Mu) (F2 : Nat → Nat), FV m' q n F2 → csum (fun i => (m'.2.1 15 (q i)).toInt.toNat) n = csum F2 n := fun m' F2 h => csum_eq (fun i hi => by
      have l := (h i hi).1
      show (m'.2.1 15 (q i)).toInt.toNat = F2 i
      rw [(h i hi).2, nI_toInt (by omega)]
      exact Int.toNat_natCast _)
    rcases g6 with w | ⟨w, g6⟩
    · subst w
      refine Or.inl ?_
      have x33 := g3.2.2.2.1
      obtain ⟨b', m', F2, e, p1, p2, p2d, p3, p4, p5⟩ := fd_sweep g2 g3 g3d g4 g5
      have e : gX12_laysForced_107 z2 (nI 0) (nI n - nI 1) = some (.inl (nI b', m')) := e
      have i1 : ¬ (1 = 0) := by decide
      refine ⟨(nI b', m'), ?_, ⟨b', F2, rfl, p1, p2, p2d, p3, p4, ?_⟩, ?_⟩
      · show gX12_laysForced_94b z2 (nI 1) = _
        unfold gX12_laysForced_94b
        simp (disch := omega) only [n_lit, n_of, n_o1, nI_add, pk_mul, nI_ltI, nI_leI, nI_eq, ↓lift_lt, ↓k_mt, ↓k_mp, if_true, if_false, Bool.false_eq_true, Nat.not_lt_zero, Nat.zero_le, Nat.reduceEqDiff, Nat.reduceLeDiff, Nat.reduceLT, i1, x33, e]
      · rcases p5 with ⟨w1, w2, w3⟩ | ⟨w1, w2⟩
        · refine Or.inr ⟨w1, fun i hi => ?_⟩
          subst w2
          have fe := fd_end p2 p4 w3
          have fb := fin1_le F2 n
          rcases p4.1 i hi with u | ⟨u1, u2⟩
          · exact Or.inl ⟨u, fun e hG => by have := fe e i hi hG; omega⟩
          · exact Or.inr ⟨by omega, u2, fun e' he hG => by have := fe e' i hi hG; omega⟩
        · exact Or.inl w1
      · show csum (fun i => (m'.2.1 15 (q i)).toInt.toNat) n + (if nI b' = nI 0 then 0 else 1) < csum (fun i => (z2.2.1 15 (q i)).toInt.toNat) n + (if nI 1 = nI 0 then 0 else 1)
        rw [ms _ _ p3, ms _ _ g4, if_neg (show ¬ nI 1 = nI 0 by decide)]
        rcases p5 with ⟨w1, w2, w3⟩ | ⟨w1, w2⟩
        · rw [w1, if_pos rfl, w2]
          omega
        · rw [w1, if_neg (show ¬ nI 1 = nI 0 by decide)]
          omega
    · subst w
      refine Or.inr ⟨(nI (F' 0), z2), ?_, z2, F', rfl, g2, g3, g3d, g4, g6⟩
      have h0 := g3.1
      have nw := q_nowD g2.1
      have f2 := (g4 0 h0).2
      rw [g3.2.1] at f2
      have l1 := B.1.2.2.2.1
      show gX12_laysForced_94b z2 (nI 0) = _
      unfold gX12_laysForced_94b gX12_laysForced_194
      simp (disch := omega) only [n_lit, n_of, n_o1, nI_add, pk_mul, nI_ltI, nI_leI, nI_eq, ↓lift_lt, ↓k_mt, ↓k_mp, if_true, if_false, Bool.false_eq_true, Nat.not_lt_zero, Nat.zero_le, Nat.reduceEqDiff, Nat.reduceLeDiff, Nat.reduceLT, nw, mA_15, f2, Option.map_some]
theorem q_laysForced (H : RD m v s) (hp : p < 4) : ∃ (m' : Mu) (q F : Nat → Nat) (n : Nat), gX12_laysForced m (nI p) = some (nI (F 0), m') ∧ MBx m v s m' ∧ ALd v s m' q n ∧ DRx v s.2.1 m' q n ∧ FV m' q n F ∧ FRD v s.2.1 p q n F := by
  have hW := H.2.2.1
  have hP := hW.1
  obtain ⟨hL0, hL⟩ := nL_b hW
  obtain ⟨m1, q, n, e1, B1, A1⟩ := q_laysDry H
  have hn := A1.2.2.1
  have key : ∀ k, k ≤ n → ∃ m3, MBx m v s m3 ∧ ALd v s m3 q n ∧ (∀ i, i < k → m3.2.1 15 (q i) = nI (Fz0 (fun t => dg t p = 0) q i)) ∧ (∀ i kk, i < k → kk < nL v → m3.2.1 20 (35 * q i + kk) = nI (nxd v s.2.1 kk (q i))) ∧ gX12_laysForced_7 m1 (nI p) (nI 0) = gX12_laysForced_7 m3 (nI p) (nI k) := by
    intro k
    induction k with
    | zero => intro _; exact ⟨m1, B1, A1, fun i hi => by omega, fun i kk hi => by omega, rfl⟩
    | succ k ih =>
      intro hk
      obtain ⟨m3, g1, g2, g3, g4, g5⟩ := ih (by omega)
      have hk' : k < n := by omega
      obtain ⟨o1, o3⟩ := g2.2.2.2.2.1 k hk'
      have inner : ∀ kk, kk ≤ nL v → ∃ m4, MBx m v s m4 ∧ ALd v s m4 q n ∧ m4.2.1 15 = m3.2.1 15 ∧ (∀ j, m4.2.1 20 j = if 35 * q k ≤ j ∧ j < 35 * q k + kk then nI (nxd v s.2.1 (j - 35 * q k) (q k)) else m3.2.1 20 j) ∧ gX12_laysForced_25 m3 (nI p) (nI k) (nI (q k)) (nI 0) = gX12_laysForced_25 m4 (nI p) (nI k) (nI (q k)) (nI kk) := by
        intro kk
        induction kk with
        | zero => intro _; exact ⟨m3, g1, g2, rfl, fun j => by rw [if_neg (by omega)], rfl⟩
        | succ kk ih2 =>
          intro hkk
          obtain ⟨m4, u1, u2, u3, u4, u5⟩ := ih2 (by omega)
          have k1 : ¬ nL v ≤ kk := by omega
          have hkk' : kk < nL v := by omega
          have hld := (ld_isL hkk').2
          have yd := q_yearBy (m := m4) (v := v) (ch := s.2.1) (s := q k) (l := ld v kk) (dry := 1) hP u1.1.1.2.1 u1.2.1 o1 (by omega) (by decide)
          have yd : gX12_yearBy m4 (nI (q k)) (nI (ld v kk)) (nI 1) = some (nI (nxd v s.2.1 kk (q k))) := yd
          refine ⟨mS m4 20 (35 * q k + kk) (nI (nxd v s.2.1 kk (q k))), MBx_20 u1, ALd_S u2 (by decide) (by decide), by rw [mS_ne _ _ _ (by decide)]; exact u3, fun j => ?_, ?_⟩
          · rw [mS_a, if_pos rfl]
            by_cases z : j = 35 * q k + kk
            · rw [if_pos z, if_pos (by omega), z, Nat.add_sub_cancel_left]
            · rw [if_neg z, u4]
              by_cases y : 35 * q k ≤ j ∧ j < 35 * q k + kk
              · rw [if_pos y, if_pos (by omega)]
              · rw [if_neg y, if_neg (by omega)]
          · rw [u5]
            have eb : gX12_laysForced_25b m4 (nI p) (nI k) (nI (q k)) (nI kk) = some (.inl (nI (kk + 1), mS m4 20 (35 * q k + kk) (nI (nxd v s.2.1 kk (q k))))) := by
              unfold gX12_laysForced_25b
              simp (disch := omega) only [n_lit, n_of, n_o1, nI_add, pk_mul, nI_ltI, nI_leI, nI_eq, ↓lift_lt, ↓k_mt, ↓k_mp, if_true, if_false, Bool.false_eq_true, Nat.not_lt_zero, Nat.zero_le, Nat.reduceEqDiff, Nat.reduceLeDiff, Nat.reduceLT, u1.2.2.1, k1, mA_9, u1.2.2.2.1 kk hkk', yd, mW_20]
            unfold gX12_laysForced_25
            exact lpw_l eb
      obtain ⟨m4, u1, u2, u3, u4, u5⟩ := inner (nL v) (Nat.le_refl _)
      have k1 : ¬ n ≤ k := by omega
      have x33 := g2.2.2.2.1
      have gi := q_gapIn (s := q k) (p := p) (by omega) (by omega)
      have dl := dg_lt (q k) p
      refine ⟨mS m4 15 (q k) (nI (Fz0 (fun t => dg t p = 0) q k)), MBx_S u1 (by omega), ALd_S u2 (by decide) (by decide), fun i hi => ?_, fun i kk hi hkk => ?_, ?_⟩
      · rw [mS_a, if_pos rfl]
        by_cases z : i = k
        · rw [if_pos (by rw [z]), z]
        · rw [if_neg (fun w => g2.2.2.2.2.2.1 i k (by omega) hk' w), u3]
          exact g3 i (by omega)
      · rw [mS_ne _ _ _ (by decide), u4]
        by_cases z : i = k
        · subst z
          rw [if_pos (by omega), Nat.add_sub_cancel_left]
        · have ne := g2.2.2.2.2.2.1 i k (by omega) hk'
          rw [if_neg (by omega)]
          exact g4 i kk (by omega) hkk
      · rw [g5]
        have e25 : gX12_laysForced_25 m4 (nI p) (nI k) (nI (q k)) (nI (nL v)) = some (.inl (nI (k + 1), mS m4 15 (q k) (nI (Fz0 (fun t => dg t p = 0) q k)))) := by
          have eb : gX12_laysForced_25b m4 (nI p) (nI k) (nI (q k)) (nI (nL v)) = some (.inr (.inl (nI (k + 1), mS m4 15 (q k) (nI (Fz0 (fun t => dg t p = 0) q k))))) := by
            unfold gX12_laysForced_25b gX12_laysForced_65 gX12_laysForced_85
            by_cases z : dg (q k) p = 0
            · rw [Fz0_t (G := fun t => dg t p = 0) z]
              simp (disch := omega) only [n_lit, n_of, n_o1, nI_add, pk_mul, nI_ltI, nI_leI, nI_eq, ↓lift_lt, ↓k_mt, ↓k_mp, if_true, if_false, Bool.false_eq_true, Nat.not_lt_zero, Nat.zero_le, Nat.reduceEqDiff, Nat.reduceLeDiff, Nat.reduceLT, u1.2.2.1, Nat.le_refl, gi, eq_true z, mW_15, Option.map_some]
            · rw [Fz0_f (G := fun t => dg t p = 0) z]
              simp (disch := omega) only [n_lit, n_of, n_o1, nI_add, pk_mul, nI_ltI, nI_leI, nI_eq, ↓lift_lt, ↓k_mt, ↓k_mp, if_true, if_false, Bool.false_eq_true, Nat.not_lt_zero, Nat.zero_le, Nat.reduceEqDiff, Nat.reduceLeDiff, Nat.reduceLT, u1.2.2.1, Nat.le_refl, gi, z, mW_15, Option.map_some]
          unfold gX12_laysForced_25
          exact lpw_r eb
        rw [e25] at u5
        have eb : gX12_laysForced_7b m3 (nI p) (nI k) = some (.inl (nI (k + 1), mS m4 15 (q k) (nI (Fz0 (fun t => dg t p = 0) q k)))) := by
          unfold gX12_laysForced_7b
          simp (disch := omega) only [n_lit, n_of, n_o1, nI_add, pk_mul, nI_ltI, nI_leI, nI_eq, ↓lift_lt, ↓k_mt, ↓k_mp, if_true, if_false, Bool.false_eq_true, Nat.not_lt_zero, Nat.zero_le, Nat.reduceEqDiff, Nat.reduceLeDiff, Nat.reduceLT, x33, k1, mA_13, o3, u5]
        unfold gX12_laysForced_7
        exact lpw_l eb
  obtain ⟨m3, g1, g2, g3, g4, g5⟩ := key n (Nat.le_refl _)
  have hI : FDx v s.2.1 p q n (Fz0 (fun t => dg t p = 0) q) := by
    refine ⟨fun i _ => ?_, fun i _ h => Fz0_t (G := fun t => dg t p = 0) h⟩
    by_cases z : dg (q i) p = 0
    · rw [Fz0_t (G := fun t => dg t p = 0) z]
      exact Or.inr ⟨Nat.zero_le _, z⟩
    · exact Or.inl (Fz0_f (G := fun t => dg t p = 0) z)
  obtain ⟨m', F', e, a1, a2, a3, a4, a5⟩ := q_forced92 (F := Fz0 (fun t => dg t p = 0) q) g1 g2 (fun i kk hi hk => g4 i kk hi hk) (fun i hi => ⟨Fz0_b _ _ _, g3 i hi⟩) hI
  refine ⟨m', q, F', n, ?_, a1, a2, a3, a4, a5⟩
  have x33 := g2.2.2.2.1
  have e7 : gX12_laysForced_7 m1 (nI p) (nI 0) = some (nI (F' 0), m') := by
    rw [g5]
    have eb : gX12_laysForced_7b m3 (nI p) (nI n) = some (.inr (nI (F' 0), m')) := by
      unfold gX12_laysForced_7b
      simp (disch := omega) only [n_lit, n_of, n_o1, nI_add, pk_mul, nI_ltI, nI_leI, nI_eq, ↓lift_lt, ↓k_mt, ↓k_mp, if_true, if_false, Bool.false_eq_true, Nat.not_lt_zero, Nat.zero_le, Nat.reduceEqDiff, Nat.reduceLeDiff, Nat.reduceLT, x33, Nat.le_refl, e, Option.map_some]
    unfold gX12_laysForced_7
    exact lpw_r eb
  unfold gX12_laysForced
  simp (disch := omega) only [n_lit, n_of, n_o1, nI_add, pk_mul, nI_ltI, nI_leI, nI_eq, ↓lift_lt, ↓k_mt, ↓k_mp, if_true, if_false, Bool.false_eq_true, Nat.not_lt_zero, Nat.zero_le, Nat.reduceEqDiff, Nat.reduceLeDiff, Nat.reduceLT, e1, e7]
end GAMEF
