/-! loops by their turns; Arrays.fill; guards -/
/-- a loop whose turns are told -/
theorem lpw_iter {σ ρ : Type} {body : σ → Option (σ ⊕ ρ)} (s : Nat → σ) (n : Nat) (r : ρ) (hstep : ∀ k, k < n → body (s k) = some (.inl (s (k + 1)))) (hend : body (s n) = some (.inr r)) : lpw body (s 0) = some r := by
  have key : ∀ j, j ≤ n → lpw body (s (n - j)) = some r := by
    intro j
    induction j with
    | zero =>
      intro _
      rw [lpw_eq, Nat.sub_zero, hend]
    | succ j ih =>
      intro hj
      rw [lpw_eq, hstep (n - (j + 1)) (by omega), show n - (j + 1) + 1 = n - j by omega]
      exact ih (by omega)
  have h := key n (Nat.le_refl n)
  rw [Nat.sub_self] at h
  exact h
def cFA (c : Ch) (t r : Nat) (v : Int32) (k : Nat) : Ch := (c.1, c.2.1, c.2.2.1, (fun q => if q = r then (fun i => if i < k then nar t v else c.2.2.2.1 r i) else c.2.2.2.1 q), c.2.2.2.2)
def cFL (c : Ch) (r : Nat) (v : Int64) (k : Nat) : Ch := (c.1, c.2.1, c.2.2.1, c.2.2.2.1, (fun q => if q = r then (fun i => if i < k then v else c.2.2.2.2.1 r i) else c.2.2.2.2.1 q), c.2.2.2.2.2)
theorem cFA_0 (c : Ch) (t r : Nat) (v : Int32) : cFA c t r v 0 = c := by
  obtain ⟨c1, c2, c3, c4, c5⟩ := c
  unfold cFA
  simp only [Nat.not_lt_zero, if_false]
  congr 4
  funext q
  split
  · rename_i e; rw [e]
  · rfl
theorem cFL_0 (c : Ch) (r : Nat) (v : Int64) : cFL c r v 0 = c := by
  obtain ⟨c1, c2, c3, c4, c5, c6⟩ := c
  unfold cFL
  simp only [Nat.not_lt_zero, if_false]
  congr 5
  funext q
  split
  · rename_i e; rw [e]
  · rfl
theorem inB_nI {k n : Nat} (hk : k < n) (hn : n < 2 ^ 31) : inB (nI k) n = true := by
  unfold inB
  simp only [Bool.and_eq_true, Bool.not_eq_true', decide_eq_false_iff_not, decide_eq_true_eq]
  exact ⟨nI_pos (by omega), by rw [nI_clamp (by omega)]; exact hk⟩
theorem cFA_s (c : Ch) (t r n : Nat) (v : Int32) {k : Nat} (hk : k < n) (hn : n < 2 ^ 31) : cWA (cFA c t r v k) t r n (nI k) v = some (cFA c t r v (k + 1)) := by
  unfold cWA
  rw [if_pos (inB_nI hk hn), nI_clamp (by omega)]
  congr 1
  unfold cFA u2
  simp only [if_pos]
  congr 4
  funext q
  by_cases e : q = r
  · rw [if_pos e, if_pos e]
    funext i
    by_cases e2 : i = k
    · rw [if_pos e2, if_pos (by omega)]
    · rw [if_neg e2]
      by_cases e3 : i < k
      · rw [if_pos e3, if_pos (by omega)]
      · rw [if_neg e3, if_neg (by omega)]
  · rw [if_neg e, if_neg e, if_neg e]
theorem cFL_s (c : Ch) (r n : Nat) (v : Int64) {k : Nat} (hk : k < n) (hn : n < 2 ^ 31) : cWL (cFL c r v k) r n (nI k) v = some (cFL c r v (k + 1)) := by
  unfold cWL
  rw [if_pos (inB_nI hk hn), nI_clamp (by omega)]
  congr 1
  unfold cFL u2
  simp only [if_pos]
  congr 5
  funext q
  by_cases e : q = r
  · rw [if_pos e, if_pos e]
    funext i
    by_cases e2 : i = k
    · rw [if_pos e2, if_pos (by omega)]
    · rw [if_neg e2]
      by_cases e3 : i < k
      · rw [if_pos e3, if_pos (by omega)]
      · rw [if_neg e3, if_neg (by omega)]
  · rw [if_neg e, if_neg e, if_neg e]
theorem one_ofInt : (Int32.ofInt 1) = 1 := by decide
theorem fillA (h : Hp) (t r n : Nat) (hn : n < 2 ^ 31) (hw : ∀ (c : Ch) (i x : Int32), wI t (cput h c) r i x = (cWA c t r n i x).map (cput h)) (v : Int32) (c : Ch) : lpw (σ := Int32 × Hp) (ρ := Hp) (fun s => if Int32.ofNat n ≤ s.1 then some (.inr s.2) else (wI t s.2 r s.1 v).bind fun h2 => some (.inl (s.1 + Int32.ofInt 1, h2))) (0, cput h c) = some (cput h (cFA c t r v n)) := by
  have h0 : ((0 : Int32), cput h c) = (fun k => (nI k, cput h (cFA c t r v k))) 0 := by
    show _ = (nI 0, cput h (cFA c t r v 0))
    rw [cFA_0, nI_0]
  rw [h0]
  refine lpw_iter (fun k => (nI k, cput h (cFA c t r v k))) n _ (fun k hk => ?_) ?_
  · show (if nI n ≤ nI k then _ else _) = _
    rw [if_neg (nI_ge hk hn)]
    show (wI t (cput h (cFA c t r v k)) r (nI k) v).bind _ = _
    rw [hw, cFA_s c t r n v hk hn, one_ofInt, Option.map_some]
    show some (Sum.inl (nI k + 1, _)) = _
    rw [nI_1]
  · show (if nI n ≤ nI n then _ else _) = _
    rw [if_pos (nI_le (Nat.le_refl n) hn)]
theorem fillL (h : Hp) (r n : Nat) (hn : n < 2 ^ 31) (hw : ∀ (c : Ch) (i : Int32) (x : Int64), wJ (cput h c) r i x = (cWL c r n i x).map (cput h)) (v : Int64) (c : Ch) : lpw (σ := Int32 × Hp) (ρ := Hp) (fun s => if Int32.ofNat n ≤ s.1 then some (.inr s.2) else (wJ s.2 r s.1 v).bind fun h2 => some (.inl (s.1 + Int32.ofInt 1, h2))) (0, cput h c) = some (cput h (cFL c r v n)) := by
  have h0 : ((0 : Int32), cput h c) = (fun k => (nI k, cput h (cFL c r v k))) 0 := by
    show _ = (nI 0, cput h (cFL c r v 0))
    rw [cFL_0, nI_0]
  rw [h0]
  refine lpw_iter (fun k => (nI k, cput h (cFL c r v k))) n _ (fun k hk => ?_) ?_
  · show (if nI n ≤ nI k then _ else _) = _
    rw [if_neg (nI_ge hk hn)]
    show (wJ (cput h (cFL c r v k)) r (nI k) v).bind _ = _
    rw [hw, cFL_s c r n v hk hn, one_ofInt, Option.map_some]
    show some (Sum.inl (nI k + 1, _)) = _
    rw [nI_1]
  · show (if nI n ≤ nI n then _ else _) = _
    rw [if_pos (nI_le (Nat.le_refl n) hn)]
theorem lift_gH2 {α β : Type} (x y : Option Nat) (e : Option α) (f : α → β) : Option.map f (gH2 x y e) = gH2 x y (Option.map f e) := by
  unfold gH2
  split <;> rfl
theorem lift_gOm {α β : Type} (h : Hp) (ci b : Nat) (e : Option α) (f : α → β) : Option.map f (gO h ci b e) = gO h ci b (Option.map f e) := by
  unfold gO
  split
  · split <;> rfl
  · rfl
theorem caL_tp (h : Hp) (c : Ch) (j : Nat) : aL (cput h c) (tadr j + 1) = some (Int32.ofNat 40) := c_aL h c (tadr_tr j).2.2.2.2 (cell_tp c j)

def gfill_111 (c : Ch) (v : Int32) : Option Ch := some (cFA c 1 111 v 2000)
theorem lfill_111 (h : Hp) (c : Ch) (v : Int32) : fJ7_fill_031fb (cput h c) 111 v = (gfill_111 c v).map (cput h) := by
  unfold fJ7_fill_031fb
  rw [caL_111]
  exact fillA h 1 111 2000 (by decide) (fun c i x => cwI_111 h c i x) v c
def gfill_112 (c : Ch) (v : Int32) : Option Ch := some (cFA c 1 112 v 20000)
theorem lfill_112 (h : Hp) (c : Ch) (v : Int32) : fJ7_fill_031fb (cput h c) 112 v = (gfill_112 c v).map (cput h) := by
  unfold fJ7_fill_031fb
  rw [caL_112]
  exact fillA h 1 112 20000 (by decide) (fun c i x => cwI_112 h c i x) v c
def gfill_124 (c : Ch) (v : Int32) : Option Ch := some (cFA c 0 124 v 10)
theorem lfill_124 (h : Hp) (c : Ch) (v : Int32) : fJ7_fill_53178 (cput h c) 124 v = (gfill_124 c v).map (cput h) := by
  unfold fJ7_fill_53178
  rw [caL_124]
  exact fillA h 0 124 10 (by decide) (fun c i x => cwI_124 h c i x) v c
def gfill_127 (c : Ch) (v : Int32) : Option Ch := some (cFA c 0 127 v 19)
theorem lfill_127 (h : Hp) (c : Ch) (v : Int32) : fJ7_fill_53178 (cput h c) 127 v = (gfill_127 c v).map (cput h) := by
  unfold fJ7_fill_53178
  rw [caL_127]
  exact fillA h 0 127 19 (by decide) (fun c i x => cwI_127 h c i x) v c
def gfill_ya (c : Ch) (j : Nat) (v : Int32) : Option Ch := some (cFA c 0 (yadr j) v 4)
theorem lfill_ya (h : Hp) (c : Ch) (j : Nat) (v : Int32) : fJ7_fill_53178 (cput h c) (yadr j) v = (gfill_ya c j v).map (cput h) := by
  unfold fJ7_fill_53178
  rw [caL_ya]
  exact fillA h 0 (yadr j) 4 (by decide) (fun c i x => cwI_ya h c j i x) v c
def gfill_tp (c : Ch) (j : Nat) (v : Int64) : Option Ch := some (cFL c (tadr j + 1) v 40)
theorem lfill_tp (h : Hp) (c : Ch) (j : Nat) (v : Int64) : fJ7_fill_d0a16 (cput h c) (tadr j + 1) v = (gfill_tp c j v).map (cput h) := by
  unfold fJ7_fill_d0a16
  rw [caL_tp]
  exact fillL h (tadr j + 1) 40 (by decide) (fun c i x => cwJ_tp h c j i x) v c
noncomputable def cJ_ixo (x0 : Nat) (x1 : Int32) : Option Int32 := fJ0_indexOf_0f7a4 hz x0 x1
theorem zJ0_indexOf_0f7a4 (h : Hp) (x0 : Nat) (x1 : Int32) : fJ0_indexOf_0f7a4 h x0 x1 = cJ_ixo x0 x1 := rfl
