/-! the reference: its 24 cells, from the object at a on, as numbers -/
abbrev Mu : Type := (Nat → Int32) × (Nat → Nat → Int32) × (Nat → Nat → Int64)
def mtag (r : Nat) : Nat := if r = 2 ∨ r = 8 ∨ r = 16 then 3 else if r = 17 ∨ r = 18 ∨ r = 23 then 2 else 0
def mlen (r : Nat) : Nat := [0, 3114, 2, 900, 1038, 900, 8, 2000, 3700, 35, 11, 20001, 20000, 20000, 700000, 20000, 20000, 20000, 20000, 19, 700000, 4, 4, 160].getD r 0
def mflds (a : Nat) (m : Mu) : List Value := [.int (m.1 0), .ref (a + 1), .ref (a + 2), .ref (a + 3), .ref (a + 4), .int (m.1 5), .int (m.1 6), .int (m.1 7), .int (m.1 8), .int (m.1 9), .int (m.1 10), .int (m.1 11), .int (m.1 12), .int (m.1 13), .int (m.1 14), .int (m.1 15), .ref (a + 5), .ref (a + 6), .ref (a + 7), .ref (a + 8), .ref (a + 9), .int (m.1 21), .ref (a + 10), .int (m.1 23), .int (m.1 24), .ref (a + 11), .ref (a + 12), .int (m.1 27), .int (m.1 28), .ref (a + 13), .ref (a + 14), .ref (a + 15), .ref (a + 16), .int (m.1 33), .ref (a + 17), .ref (a + 18), .ref (a + 19), .ref (a + 20), .ref (a + 21), .ref (a + 22), .ref (a + 23)]
def mcell (a : Nat) (m : Mu) (r : Nat) : Cl := if r = 0 then .inr (12, mflds a m) else if mtag r = 2 then .inl (2, mlen r, .inr (.inl (m.2.2 r))) else .inl (mtag r, mlen r, .inl (m.2.1 r))
def mput (a : Nat) (h : Hp) (m : Mu) : Hp := (h.1, h.2.1, fun j => if a ≤ j ∧ j < a + 24 then some (mcell a m (j - a)) else h.2.2 j)
def mI (m : Mu) (k : Nat) (v : Int32) : Mu := (fun j => if j = k then v else m.1 j, m.2.1, m.2.2)
def mA (m : Mu) (r : Nat) (i : Int32) : Option Int32 := if inB i (mlen r) = true then some (m.2.1 r i.toNatClampNeg) else none
def mJ (m : Mu) (r : Nat) (i : Int32) : Option Int64 := if inB i (mlen r) = true then some (m.2.2 r i.toNatClampNeg) else none
def mW (m : Mu) (r : Nat) (i x : Int32) : Option Mu := if inB i (mlen r) = true then some (m.1, (fun q => if q = r then upd (m.2.1 r) i.toNatClampNeg (nar (mtag r) x) else m.2.1 q), m.2.2) else none
def mWJ (m : Mu) (r : Nat) (i : Int32) (x : Int64) : Option Mu := if inB i (mlen r) = true then some (m.1, m.2.1, (fun q => if q = r then vf_upd (m.2.2 r) i.toNatClampNeg x else m.2.2 q)) else none
theorem mput_at (a : Nat) (h : Hp) (m : Mu) {r : Nat} (hr : r < 24) : (mput a h m).2.2 (a + r) = some (mcell a m r) := by
  show (if a ≤ a + r ∧ a + r < a + 24 then some (mcell a m (a + r - a)) else _) = _
  rw [if_pos ⟨by omega, by omega⟩, show a + r - a = r by omega]
theorem mput_at0 (a : Nat) (h : Hp) (m : Mu) : (mput a h m).2.2 a = some (.inr (12, mflds a m)) := mput_at a h m (r := 0) (by decide)
theorem mput_set (a : Nat) (h : Hp) (m m' : Mu) {r : Nat} (hr : r < 24) (hc : ∀ q, q < 24 → q ≠ r → mcell a m' q = mcell a m q) : hp_set (mput a h m) (a + r) (mcell a m' r) = mput a h m' := by
  unfold hp_set mput
  refine Prod.ext rfl (Prod.ext rfl ?_)
  funext j
  show (if j = a + r then _ else if a ≤ j ∧ j < a + 24 then _ else _) = if a ≤ j ∧ j < a + 24 then _ else _
  by_cases e : j = a + r
  · subst e
    rw [if_pos rfl, if_pos ⟨by omega, by omega⟩, show a + r - a = r by omega]
  · rw [if_neg e]
    by_cases q : a ≤ j ∧ j < a + 24
    · rw [if_pos q, if_pos q, hc (j - a) (by omega) (by omega)]
    · rw [if_neg q, if_neg q]
theorem lift_gO {α : Type} (a : Nat) (h : Hp) (m : Mu) (e : Option α) : gO (mput a h m) 12 a e = e := by
  unfold gO
  rw [mput_at0]
  rfl
theorem lift_gV (a : Nat) (h : Hp) (m : Mu) (k : Nat) : gV (mput a h m) 12 a k = (mflds a m)[k]? := by
  unfold gV
  rw [mput_at0]
  rfl
theorem lift_lt {α β : Type} (x : α) (f : α → Option β) : lt x f = f x := by
  have e : lt x f = f x := rfl
  exact e
theorem k_bs {α β : Type} (x : α) (f : α → Option β) : (some x).bind f = f x := by
  have e : (some x).bind f = f x := rfl
  exact e
theorem k_mb {α β γ : Type} (o : Option α) (f : α → Option β) (g : β → γ) : Option.map g (o.bind f) = o.bind (fun x => Option.map g (f x)) := by cases o <;> rfl
theorem k_ms {α β : Type} (x : α) (f : α → β) : Option.map f (some x) = some (f x) := by
  have e : Option.map f (some x) = some (f x) := rfl
  exact e
theorem k_bm {α β γ : Type} (o : Option α) (f : α → β) (g : β → Option γ) : (Option.map f o).bind g = o.bind (fun x => g (f x)) := by cases o <;> rfl
theorem k_mm {α β γ : Type} (o : Option α) (f : α → β) (g : β → γ) : Option.map g (Option.map f o) = Option.map (fun x => g (f x)) o := by cases o <;> rfl
theorem k_il {α β γ δ : Type} (f : α → γ) (g : β → δ) (x : α) : Sum.map f g (.inl x) = .inl (f x) := by
  have e : Sum.map f g (.inl x) = .inl (f x) := rfl
  exact e
theorem k_ir {α β γ δ : Type} (f : α → γ) (g : β → δ) (x : β) : Sum.map f g (.inr x) = .inr (g x) := by
  have e : Sum.map f g (.inr x) = .inr (g x) := rfl
  exact e
theorem k_id {α : Type} (x : α) : id x = x := by
  have e : id x = x := rfl
  exact e
theorem lift_bl {α β : Type} (x : Int32) (e : Option α) (f : α → β) : Option.map f (bl x e) = bl x (Option.map f e) := by
  unfold bl
  split <;> rfl
theorem lift_gT {α β : Type} (x : Nat) (e : Option α) (f : α → β) : Option.map f (gT x e) = gT x (Option.map f e) := by
  unfold gT
  split <;> rfl
theorem lift_ite {c : Prop} {_ : Decidable c} {α β : Type} (f : α → β) (x y : Option α) : Option.map f (if c then x else y) = if c then Option.map f x else Option.map f y := by
  split <;> rfl
theorem lift_aIg {t r : Nat} (a : Nat) (h : Hp) (m : Mu) (i : Int32) (hr : r < 24) (h0 : ¬ r = 0) (ht : mtag r = t) (h2 : ¬ t = 2) : aI t (mput a h m) (a + r) i = mA m r i := by
  unfold aI
  rw [mput_at a h m hr]
  unfold mcell
  rw [if_neg h0, if_neg (by rw [ht]; exact h2)]
  simp only [ht, true_and]
  rfl
theorem lift_wIg {t r : Nat} (a : Nat) (h : Hp) (m : Mu) (i x : Int32) (hr : r < 24) (h0 : ¬ r = 0) (ht : mtag r = t) (h2 : ¬ t = 2) : wI t (mput a h m) (a + r) i x = (mW m r i x).map (mput a h) := by
  unfold wI
  rw [mput_at a h m hr]
  have e : mcell a m r = .inl (t, mlen r, .inl (m.2.1 r)) := by unfold mcell; rw [if_neg h0, if_neg (by rw [ht]; exact h2), ht]
  rw [e]
  unfold mW
  simp only [true_and]
  split
  · rename_i hb
    rw [Option.map_some]
    congr 1
    have e2 : (Sum.inl (t, mlen r, Sum.inl (upd (m.2.1 r) i.toNatClampNeg (nar t x))) : Cl) = mcell a (m.1, (fun q => if q = r then upd (m.2.1 r) i.toNatClampNeg (nar (mtag r) x) else m.2.1 q), m.2.2) r := by
      unfold mcell
      rw [if_neg h0, if_neg (by rw [ht]; exact h2), ht]
      simp
    rw [e2]
    refine mput_set a h m _ hr (fun q hq hne => ?_)
    unfold mcell
    simp only [if_neg hne]
    rfl
  · rfl
theorem lift_aJg {r : Nat} (a : Nat) (h : Hp) (m : Mu) (i : Int32) (hr : r < 24) (h0 : ¬ r = 0) (ht : mtag r = 2) : aJ (mput a h m) (a + r) i = mJ m r i := by
  unfold aJ
  rw [mput_at a h m hr]
  unfold mcell
  rw [if_neg h0, if_pos ht]
  simp only [true_and]
  rfl
theorem lift_wJg {r : Nat} (a : Nat) (h : Hp) (m : Mu) (i : Int32) (x : Int64) (hr : r < 24) (h0 : ¬ r = 0) (ht : mtag r = 2) : wJ (mput a h m) (a + r) i x = (mWJ m r i x).map (mput a h) := by
  unfold wJ
  rw [mput_at a h m hr]
  have e : mcell a m r = .inl (2, mlen r, .inr (.inl (m.2.2 r))) := by unfold mcell; rw [if_neg h0, if_pos ht]
  rw [e]
  unfold mWJ
  simp only [true_and]
  split
  · rename_i hb
    rw [Option.map_some]
    congr 1
    have e2 : (Sum.inl (2, mlen r, Sum.inr (Sum.inl (vf_upd (m.2.2 r) i.toNatClampNeg x))) : Cl) = mcell a (m.1, m.2.1, (fun q => if q = r then vf_upd (m.2.2 r) i.toNatClampNeg x else m.2.2 q)) r := by
      unfold mcell
      rw [if_neg h0, if_pos ht]
      simp
    rw [e2]
    refine mput_set a h m _ hr (fun q hq hne => ?_)
    unfold mcell
    simp only [if_neg hne]
    rfl
  · rfl
theorem lift_sVg (a : Nat) (h : Hp) (m : Mu) (k : Nat) (v : Int32) (hk : (mflds a m).set k (.int v) = mflds a (mI m k v)) : sV (mput a h m) 12 a k (.int v) = some (mput a h (mI m k v)) := by
  unfold sV
  rw [mput_at0]
  show some (hp_set (mput a h m) a (.inr (12, (mflds a m).set k (.int v)))) = _
  congr 1
  have e2 : (Sum.inr (12, (mflds a m).set k (.int v)) : Cl) = mcell a (mI m k v) 0 := by rw [hk]; rfl
  rw [e2]
  refine mput_set a h m (mI m k v) (r := 0) (by decide) (fun q hq hne => ?_)
  unfold mcell
  rw [if_neg hne, if_neg hne]
  rfl
theorem lpn_map {σ σ' ρ ρ' : Type} (body : σ → Option (σ ⊕ ρ)) (body' : σ' → Option (σ' ⊕ ρ')) (i : σ' → σ) (j : ρ' → ρ) (H : ∀ s, body (i s) = (body' s).map (Sum.map i j)) : ∀ (n : Nat) (s : σ'), lpn body n (i s) = (lpn body' n s).map j
  | 0, s => rfl
  | n + 1, s => by
    unfold lpn
    rw [H s]
    cases body' s with
    | none => rfl
    | some x =>
      cases x with
      | inl s' => exact lpn_map body body' i j H n s'
      | inr r => rfl
/-- a loop over other numbers -/
theorem lpw_map {σ σ' ρ ρ' : Type} (body : σ → Option (σ ⊕ ρ)) (body' : σ' → Option (σ' ⊕ ρ')) (i : σ' → σ) (j : ρ' → ρ) (H : ∀ s, body (i s) = (body' s).map (Sum.map i j)) (s : σ') : lpw body (i s) = (lpw body' s).map j := by
  cases h' : lpw body' s with
  | some r =>
    obtain ⟨n, hn⟩ := lpw_to h'
    have := lpn_map body body' i j H n s
    rw [hn] at this
    exact lpw_of this
  | none =>
    cases h : lpw body (i s) with
    | none => rfl
    | some r =>
      obtain ⟨n, hn⟩ := lpw_to h
      rw [lpn_map body body' i j H n s] at hn
      cases hb : lpn body' n s with
      | none => rw [hb] at hn; cases hn
      | some r' => rw [lpw_of hb] at h'; cases h'

theorem lift_gI_0 (a : Nat) (h : Hp) (m : Mu) : gI (mput a h m) 12 a 0 = some (m.1 0) := by unfold gI; rw [lift_gV]; rfl
theorem lift_sV_0 (a : Nat) (h : Hp) (m : Mu) (v : Int32) : sV (mput a h m) 12 a 0 (.int v) = some (mput a h (mI m 0 v)) := lift_sVg a h m 0 v rfl
theorem lift_gN_1 (a : Nat) (h : Hp) (m : Mu) : gN (mput a h m) 12 a 1 = some (a + 1) := by unfold gN; rw [lift_gV]; rfl
theorem lift_gN_2 (a : Nat) (h : Hp) (m : Mu) : gN (mput a h m) 12 a 2 = some (a + 2) := by unfold gN; rw [lift_gV]; rfl
theorem lift_gN_3 (a : Nat) (h : Hp) (m : Mu) : gN (mput a h m) 12 a 3 = some (a + 3) := by unfold gN; rw [lift_gV]; rfl
theorem lift_gN_4 (a : Nat) (h : Hp) (m : Mu) : gN (mput a h m) 12 a 4 = some (a + 4) := by unfold gN; rw [lift_gV]; rfl
theorem lift_gI_5 (a : Nat) (h : Hp) (m : Mu) : gI (mput a h m) 12 a 5 = some (m.1 5) := by unfold gI; rw [lift_gV]; rfl
theorem lift_sV_5 (a : Nat) (h : Hp) (m : Mu) (v : Int32) : sV (mput a h m) 12 a 5 (.int v) = some (mput a h (mI m 5 v)) := lift_sVg a h m 5 v rfl
theorem lift_gI_6 (a : Nat) (h : Hp) (m : Mu) : gI (mput a h m) 12 a 6 = some (m.1 6) := by unfold gI; rw [lift_gV]; rfl
theorem lift_sV_6 (a : Nat) (h : Hp) (m : Mu) (v : Int32) : sV (mput a h m) 12 a 6 (.int v) = some (mput a h (mI m 6 v)) := lift_sVg a h m 6 v rfl
theorem lift_gI_7 (a : Nat) (h : Hp) (m : Mu) : gI (mput a h m) 12 a 7 = some (m.1 7) := by unfold gI; rw [lift_gV]; rfl
theorem lift_sV_7 (a : Nat) (h : Hp) (m : Mu) (v : Int32) : sV (mput a h m) 12 a 7 (.int v) = some (mput a h (mI m 7 v)) := lift_sVg a h m 7 v rfl
theorem lift_gI_8 (a : Nat) (h : Hp) (m : Mu) : gI (mput a h m) 12 a 8 = some (m.1 8) := by unfold gI; rw [lift_gV]; rfl
theorem lift_sV_8 (a : Nat) (h : Hp) (m : Mu) (v : Int32) : sV (mput a h m) 12 a 8 (.int v) = some (mput a h (mI m 8 v)) := lift_sVg a h m 8 v rfl
theorem lift_gI_9 (a : Nat) (h : Hp) (m : Mu) : gI (mput a h m) 12 a 9 = some (m.1 9) := by unfold gI; rw [lift_gV]; rfl
theorem lift_sV_9 (a : Nat) (h : Hp) (m : Mu) (v : Int32) : sV (mput a h m) 12 a 9 (.int v) = some (mput a h (mI m 9 v)) := lift_sVg a h m 9 v rfl
theorem lift_gI_10 (a : Nat) (h : Hp) (m : Mu) : gI (mput a h m) 12 a 10 = some (m.1 10) := by unfold gI; rw [lift_gV]; rfl
theorem lift_sV_10 (a : Nat) (h : Hp) (m : Mu) (v : Int32) : sV (mput a h m) 12 a 10 (.int v) = some (mput a h (mI m 10 v)) := lift_sVg a h m 10 v rfl
theorem lift_gI_11 (a : Nat) (h : Hp) (m : Mu) : gI (mput a h m) 12 a 11 = some (m.1 11) := by unfold gI; rw [lift_gV]; rfl
theorem lift_sV_11 (a : Nat) (h : Hp) (m : Mu) (v : Int32) : sV (mput a h m) 12 a 11 (.int v) = some (mput a h (mI m 11 v)) := lift_sVg a h m 11 v rfl
theorem lift_gI_12 (a : Nat) (h : Hp) (m : Mu) : gI (mput a h m) 12 a 12 = some (m.1 12) := by unfold gI; rw [lift_gV]; rfl
theorem lift_sV_12 (a : Nat) (h : Hp) (m : Mu) (v : Int32) : sV (mput a h m) 12 a 12 (.int v) = some (mput a h (mI m 12 v)) := lift_sVg a h m 12 v rfl
theorem lift_gI_13 (a : Nat) (h : Hp) (m : Mu) : gI (mput a h m) 12 a 13 = some (m.1 13) := by unfold gI; rw [lift_gV]; rfl
theorem lift_sV_13 (a : Nat) (h : Hp) (m : Mu) (v : Int32) : sV (mput a h m) 12 a 13 (.int v) = some (mput a h (mI m 13 v)) := lift_sVg a h m 13 v rfl
theorem lift_gI_14 (a : Nat) (h : Hp) (m : Mu) : gI (mput a h m) 12 a 14 = some (m.1 14) := by unfold gI; rw [lift_gV]; rfl
theorem lift_sV_14 (a : Nat) (h : Hp) (m : Mu) (v : Int32) : sV (mput a h m) 12 a 14 (.int v) = some (mput a h (mI m 14 v)) := lift_sVg a h m 14 v rfl
theorem lift_gI_15 (a : Nat) (h : Hp) (m : Mu) : gI (mput a h m) 12 a 15 = some (m.1 15) := by unfold gI; rw [lift_gV]; rfl
theorem lift_sV_15 (a : Nat) (h : Hp) (m : Mu) (v : Int32) : sV (mput a h m) 12 a 15 (.int v) = some (mput a h (mI m 15 v)) := lift_sVg a h m 15 v rfl
theorem lift_gN_16 (a : Nat) (h : Hp) (m : Mu) : gN (mput a h m) 12 a 16 = some (a + 5) := by unfold gN; rw [lift_gV]; rfl
theorem lift_gN_17 (a : Nat) (h : Hp) (m : Mu) : gN (mput a h m) 12 a 17 = some (a + 6) := by unfold gN; rw [lift_gV]; rfl
theorem lift_gN_18 (a : Nat) (h : Hp) (m : Mu) : gN (mput a h m) 12 a 18 = some (a + 7) := by unfold gN; rw [lift_gV]; rfl
theorem lift_gN_19 (a : Nat) (h : Hp) (m : Mu) : gN (mput a h m) 12 a 19 = some (a + 8) := by unfold gN; rw [lift_gV]; rfl
theorem lift_gN_20 (a : Nat) (h : Hp) (m : Mu) : gN (mput a h m) 12 a 20 = some (a + 9) := by unfold gN; rw [lift_gV]; rfl
theorem lift_gI_21 (a : Nat) (h : Hp) (m : Mu) : gI (mput a h m) 12 a 21 = some (m.1 21) := by unfold gI; rw [lift_gV]; rfl
theorem lift_sV_21 (a : Nat) (h : Hp) (m : Mu) (v : Int32) : sV (mput a h m) 12 a 21 (.int v) = some (mput a h (mI m 21 v)) := lift_sVg a h m 21 v rfl
theorem lift_gN_22 (a : Nat) (h : Hp) (m : Mu) : gN (mput a h m) 12 a 22 = some (a + 10) := by unfold gN; rw [lift_gV]; rfl
theorem lift_gI_23 (a : Nat) (h : Hp) (m : Mu) : gI (mput a h m) 12 a 23 = some (m.1 23) := by unfold gI; rw [lift_gV]; rfl
theorem lift_sV_23 (a : Nat) (h : Hp) (m : Mu) (v : Int32) : sV (mput a h m) 12 a 23 (.int v) = some (mput a h (mI m 23 v)) := lift_sVg a h m 23 v rfl
theorem lift_gI_24 (a : Nat) (h : Hp) (m : Mu) : gI (mput a h m) 12 a 24 = some (m.1 24) := by unfold gI; rw [lift_gV]; rfl
theorem lift_sV_24 (a : Nat) (h : Hp) (m : Mu) (v : Int32) : sV (mput a h m) 12 a 24 (.int v) = some (mput a h (mI m 24 v)) := lift_sVg a h m 24 v rfl
theorem lift_gN_25 (a : Nat) (h : Hp) (m : Mu) : gN (mput a h m) 12 a 25 = some (a + 11) := by unfold gN; rw [lift_gV]; rfl
theorem lift_gN_26 (a : Nat) (h : Hp) (m : Mu) : gN (mput a h m) 12 a 26 = some (a + 12) := by unfold gN; rw [lift_gV]; rfl
theorem lift_gI_27 (a : Nat) (h : Hp) (m : Mu) : gI (mput a h m) 12 a 27 = some (m.1 27) := by unfold gI; rw [lift_gV]; rfl
theorem lift_sV_27 (a : Nat) (h : Hp) (m : Mu) (v : Int32) : sV (mput a h m) 12 a 27 (.int v) = some (mput a h (mI m 27 v)) := lift_sVg a h m 27 v rfl
theorem lift_gI_28 (a : Nat) (h : Hp) (m : Mu) : gI (mput a h m) 12 a 28 = some (m.1 28) := by unfold gI; rw [lift_gV]; rfl
theorem lift_sV_28 (a : Nat) (h : Hp) (m : Mu) (v : Int32) : sV (mput a h m) 12 a 28 (.int v) = some (mput a h (mI m 28 v)) := lift_sVg a h m 28 v rfl
theorem lift_gN_29 (a : Nat) (h : Hp) (m : Mu) : gN (mput a h m) 12 a 29 = some (a + 13) := by unfold gN; rw [lift_gV]; rfl
theorem lift_gN_30 (a : Nat) (h : Hp) (m : Mu) : gN (mput a h m) 12 a 30 = some (a + 14) := by unfold gN; rw [lift_gV]; rfl
theorem lift_gN_31 (a : Nat) (h : Hp) (m : Mu) : gN (mput a h m) 12 a 31 = some (a + 15) := by unfold gN; rw [lift_gV]; rfl
theorem lift_gN_32 (a : Nat) (h : Hp) (m : Mu) : gN (mput a h m) 12 a 32 = some (a + 16) := by unfold gN; rw [lift_gV]; rfl
theorem lift_gI_33 (a : Nat) (h : Hp) (m : Mu) : gI (mput a h m) 12 a 33 = some (m.1 33) := by unfold gI; rw [lift_gV]; rfl
theorem lift_sV_33 (a : Nat) (h : Hp) (m : Mu) (v : Int32) : sV (mput a h m) 12 a 33 (.int v) = some (mput a h (mI m 33 v)) := lift_sVg a h m 33 v rfl
theorem lift_gN_34 (a : Nat) (h : Hp) (m : Mu) : gN (mput a h m) 12 a 34 = some (a + 17) := by unfold gN; rw [lift_gV]; rfl
theorem lift_gN_35 (a : Nat) (h : Hp) (m : Mu) : gN (mput a h m) 12 a 35 = some (a + 18) := by unfold gN; rw [lift_gV]; rfl
theorem lift_gN_36 (a : Nat) (h : Hp) (m : Mu) : gN (mput a h m) 12 a 36 = some (a + 19) := by unfold gN; rw [lift_gV]; rfl
theorem lift_gN_37 (a : Nat) (h : Hp) (m : Mu) : gN (mput a h m) 12 a 37 = some (a + 20) := by unfold gN; rw [lift_gV]; rfl
theorem lift_gN_38 (a : Nat) (h : Hp) (m : Mu) : gN (mput a h m) 12 a 38 = some (a + 21) := by unfold gN; rw [lift_gV]; rfl
theorem lift_gN_39 (a : Nat) (h : Hp) (m : Mu) : gN (mput a h m) 12 a 39 = some (a + 22) := by unfold gN; rw [lift_gV]; rfl
theorem lift_gN_40 (a : Nat) (h : Hp) (m : Mu) : gN (mput a h m) 12 a 40 = some (a + 23) := by unfold gN; rw [lift_gV]; rfl
theorem lift_aI_1 (a : Nat) (h : Hp) (m : Mu) (i : Int32) : aI 0 (mput a h m) (a + 1) i = mA m 1 i := lift_aIg a h m i (by decide) (by decide) (by decide) (by decide)
theorem lift_wI_1 (a : Nat) (h : Hp) (m : Mu) (i x : Int32) : wI 0 (mput a h m) (a + 1) i x = (mW m 1 i x).map (mput a h) := lift_wIg a h m i x (by decide) (by decide) (by decide) (by decide)
theorem lift_aI_2 (a : Nat) (h : Hp) (m : Mu) (i : Int32) : aI 3 (mput a h m) (a + 2) i = mA m 2 i := lift_aIg a h m i (by decide) (by decide) (by decide) (by decide)
theorem lift_wI_2 (a : Nat) (h : Hp) (m : Mu) (i x : Int32) : wI 3 (mput a h m) (a + 2) i x = (mW m 2 i x).map (mput a h) := lift_wIg a h m i x (by decide) (by decide) (by decide) (by decide)
theorem lift_aI_3 (a : Nat) (h : Hp) (m : Mu) (i : Int32) : aI 0 (mput a h m) (a + 3) i = mA m 3 i := lift_aIg a h m i (by decide) (by decide) (by decide) (by decide)
theorem lift_wI_3 (a : Nat) (h : Hp) (m : Mu) (i x : Int32) : wI 0 (mput a h m) (a + 3) i x = (mW m 3 i x).map (mput a h) := lift_wIg a h m i x (by decide) (by decide) (by decide) (by decide)
theorem lift_aI_4 (a : Nat) (h : Hp) (m : Mu) (i : Int32) : aI 0 (mput a h m) (a + 4) i = mA m 4 i := lift_aIg a h m i (by decide) (by decide) (by decide) (by decide)
theorem lift_wI_4 (a : Nat) (h : Hp) (m : Mu) (i x : Int32) : wI 0 (mput a h m) (a + 4) i x = (mW m 4 i x).map (mput a h) := lift_wIg a h m i x (by decide) (by decide) (by decide) (by decide)
theorem lift_aI_5 (a : Nat) (h : Hp) (m : Mu) (i : Int32) : aI 0 (mput a h m) (a + 5) i = mA m 5 i := lift_aIg a h m i (by decide) (by decide) (by decide) (by decide)
theorem lift_wI_5 (a : Nat) (h : Hp) (m : Mu) (i x : Int32) : wI 0 (mput a h m) (a + 5) i x = (mW m 5 i x).map (mput a h) := lift_wIg a h m i x (by decide) (by decide) (by decide) (by decide)
theorem lift_aI_6 (a : Nat) (h : Hp) (m : Mu) (i : Int32) : aI 0 (mput a h m) (a + 6) i = mA m 6 i := lift_aIg a h m i (by decide) (by decide) (by decide) (by decide)
theorem lift_wI_6 (a : Nat) (h : Hp) (m : Mu) (i x : Int32) : wI 0 (mput a h m) (a + 6) i x = (mW m 6 i x).map (mput a h) := lift_wIg a h m i x (by decide) (by decide) (by decide) (by decide)
theorem lift_aI_7 (a : Nat) (h : Hp) (m : Mu) (i : Int32) : aI 0 (mput a h m) (a + 7) i = mA m 7 i := lift_aIg a h m i (by decide) (by decide) (by decide) (by decide)
theorem lift_wI_7 (a : Nat) (h : Hp) (m : Mu) (i x : Int32) : wI 0 (mput a h m) (a + 7) i x = (mW m 7 i x).map (mput a h) := lift_wIg a h m i x (by decide) (by decide) (by decide) (by decide)
theorem lift_aI_8 (a : Nat) (h : Hp) (m : Mu) (i : Int32) : aI 3 (mput a h m) (a + 8) i = mA m 8 i := lift_aIg a h m i (by decide) (by decide) (by decide) (by decide)
theorem lift_wI_8 (a : Nat) (h : Hp) (m : Mu) (i x : Int32) : wI 3 (mput a h m) (a + 8) i x = (mW m 8 i x).map (mput a h) := lift_wIg a h m i x (by decide) (by decide) (by decide) (by decide)
theorem lift_aI_9 (a : Nat) (h : Hp) (m : Mu) (i : Int32) : aI 0 (mput a h m) (a + 9) i = mA m 9 i := lift_aIg a h m i (by decide) (by decide) (by decide) (by decide)
theorem lift_wI_9 (a : Nat) (h : Hp) (m : Mu) (i x : Int32) : wI 0 (mput a h m) (a + 9) i x = (mW m 9 i x).map (mput a h) := lift_wIg a h m i x (by decide) (by decide) (by decide) (by decide)
theorem lift_aI_10 (a : Nat) (h : Hp) (m : Mu) (i : Int32) : aI 0 (mput a h m) (a + 10) i = mA m 10 i := lift_aIg a h m i (by decide) (by decide) (by decide) (by decide)
theorem lift_wI_10 (a : Nat) (h : Hp) (m : Mu) (i x : Int32) : wI 0 (mput a h m) (a + 10) i x = (mW m 10 i x).map (mput a h) := lift_wIg a h m i x (by decide) (by decide) (by decide) (by decide)
theorem lift_aI_11 (a : Nat) (h : Hp) (m : Mu) (i : Int32) : aI 0 (mput a h m) (a + 11) i = mA m 11 i := lift_aIg a h m i (by decide) (by decide) (by decide) (by decide)
theorem lift_wI_11 (a : Nat) (h : Hp) (m : Mu) (i x : Int32) : wI 0 (mput a h m) (a + 11) i x = (mW m 11 i x).map (mput a h) := lift_wIg a h m i x (by decide) (by decide) (by decide) (by decide)
theorem lift_aI_12 (a : Nat) (h : Hp) (m : Mu) (i : Int32) : aI 0 (mput a h m) (a + 12) i = mA m 12 i := lift_aIg a h m i (by decide) (by decide) (by decide) (by decide)
theorem lift_wI_12 (a : Nat) (h : Hp) (m : Mu) (i x : Int32) : wI 0 (mput a h m) (a + 12) i x = (mW m 12 i x).map (mput a h) := lift_wIg a h m i x (by decide) (by decide) (by decide) (by decide)
theorem lift_aI_13 (a : Nat) (h : Hp) (m : Mu) (i : Int32) : aI 0 (mput a h m) (a + 13) i = mA m 13 i := lift_aIg a h m i (by decide) (by decide) (by decide) (by decide)
theorem lift_wI_13 (a : Nat) (h : Hp) (m : Mu) (i x : Int32) : wI 0 (mput a h m) (a + 13) i x = (mW m 13 i x).map (mput a h) := lift_wIg a h m i x (by decide) (by decide) (by decide) (by decide)
theorem lift_aI_14 (a : Nat) (h : Hp) (m : Mu) (i : Int32) : aI 0 (mput a h m) (a + 14) i = mA m 14 i := lift_aIg a h m i (by decide) (by decide) (by decide) (by decide)
theorem lift_wI_14 (a : Nat) (h : Hp) (m : Mu) (i x : Int32) : wI 0 (mput a h m) (a + 14) i x = (mW m 14 i x).map (mput a h) := lift_wIg a h m i x (by decide) (by decide) (by decide) (by decide)
theorem lift_aI_15 (a : Nat) (h : Hp) (m : Mu) (i : Int32) : aI 0 (mput a h m) (a + 15) i = mA m 15 i := lift_aIg a h m i (by decide) (by decide) (by decide) (by decide)
theorem lift_wI_15 (a : Nat) (h : Hp) (m : Mu) (i x : Int32) : wI 0 (mput a h m) (a + 15) i x = (mW m 15 i x).map (mput a h) := lift_wIg a h m i x (by decide) (by decide) (by decide) (by decide)
theorem lift_aI_16 (a : Nat) (h : Hp) (m : Mu) (i : Int32) : aI 3 (mput a h m) (a + 16) i = mA m 16 i := lift_aIg a h m i (by decide) (by decide) (by decide) (by decide)
theorem lift_wI_16 (a : Nat) (h : Hp) (m : Mu) (i x : Int32) : wI 3 (mput a h m) (a + 16) i x = (mW m 16 i x).map (mput a h) := lift_wIg a h m i x (by decide) (by decide) (by decide) (by decide)
theorem lift_aJ_17 (a : Nat) (h : Hp) (m : Mu) (i : Int32) : aJ (mput a h m) (a + 17) i = mJ m 17 i := lift_aJg a h m i (by decide) (by decide) (by decide)
theorem lift_wJ_17 (a : Nat) (h : Hp) (m : Mu) (i : Int32) (x : Int64) : wJ (mput a h m) (a + 17) i x = (mWJ m 17 i x).map (mput a h) := lift_wJg a h m i x (by decide) (by decide) (by decide)
theorem lift_aJ_18 (a : Nat) (h : Hp) (m : Mu) (i : Int32) : aJ (mput a h m) (a + 18) i = mJ m 18 i := lift_aJg a h m i (by decide) (by decide) (by decide)
theorem lift_wJ_18 (a : Nat) (h : Hp) (m : Mu) (i : Int32) (x : Int64) : wJ (mput a h m) (a + 18) i x = (mWJ m 18 i x).map (mput a h) := lift_wJg a h m i x (by decide) (by decide) (by decide)
theorem lift_aI_19 (a : Nat) (h : Hp) (m : Mu) (i : Int32) : aI 0 (mput a h m) (a + 19) i = mA m 19 i := lift_aIg a h m i (by decide) (by decide) (by decide) (by decide)
theorem lift_wI_19 (a : Nat) (h : Hp) (m : Mu) (i x : Int32) : wI 0 (mput a h m) (a + 19) i x = (mW m 19 i x).map (mput a h) := lift_wIg a h m i x (by decide) (by decide) (by decide) (by decide)
theorem lift_aI_20 (a : Nat) (h : Hp) (m : Mu) (i : Int32) : aI 0 (mput a h m) (a + 20) i = mA m 20 i := lift_aIg a h m i (by decide) (by decide) (by decide) (by decide)
theorem lift_wI_20 (a : Nat) (h : Hp) (m : Mu) (i x : Int32) : wI 0 (mput a h m) (a + 20) i x = (mW m 20 i x).map (mput a h) := lift_wIg a h m i x (by decide) (by decide) (by decide) (by decide)
theorem lift_aI_21 (a : Nat) (h : Hp) (m : Mu) (i : Int32) : aI 0 (mput a h m) (a + 21) i = mA m 21 i := lift_aIg a h m i (by decide) (by decide) (by decide) (by decide)
theorem lift_wI_21 (a : Nat) (h : Hp) (m : Mu) (i x : Int32) : wI 0 (mput a h m) (a + 21) i x = (mW m 21 i x).map (mput a h) := lift_wIg a h m i x (by decide) (by decide) (by decide) (by decide)
theorem lift_aI_22 (a : Nat) (h : Hp) (m : Mu) (i : Int32) : aI 0 (mput a h m) (a + 22) i = mA m 22 i := lift_aIg a h m i (by decide) (by decide) (by decide) (by decide)
theorem lift_wI_22 (a : Nat) (h : Hp) (m : Mu) (i x : Int32) : wI 0 (mput a h m) (a + 22) i x = (mW m 22 i x).map (mput a h) := lift_wIg a h m i x (by decide) (by decide) (by decide) (by decide)
theorem lift_aJ_23 (a : Nat) (h : Hp) (m : Mu) (i : Int32) : aJ (mput a h m) (a + 23) i = mJ m 23 i := lift_aJg a h m i (by decide) (by decide) (by decide)
theorem lift_wJ_23 (a : Nat) (h : Hp) (m : Mu) (i : Int32) (x : Int64) : wJ (mput a h m) (a + 23) i x = (mWJ m 23 i x).map (mput a h) := lift_wJg a h m i x (by decide) (by decide) (by decide)
theorem lift_wI_v {r : Nat} (hr : 0 < r ∧ r < 24 ∧ mtag r = 0) (a : Nat) (h : Hp) (m : Mu) (i x : Int32) : wI 0 (mput a h m) (a + r) i x = (mW m r i x).map (mput a h) := lift_wIg a h m i x hr.2.1 (by omega) hr.2.2 (by decide)
def hz : Hp := (0, 0, fun _ => none)
noncomputable def cJ_chr (x0 : Nat) (x1 : Int32) : Option Int32 := fJ0_charAt_5068e hz x0 x1
theorem zJ0_charAt_5068e (h : Hp) (x0 : Nat) (x1 : Int32) : fJ0_charAt_5068e h x0 x1 = cJ_chr x0 x1 := rfl
noncomputable def cJ_len (x0 : Nat) : Option Int32 := fJ0_length_8abf5 hz x0
theorem zJ0_length_8abf5 (h : Hp) (x0 : Nat) : fJ0_length_8abf5 h x0 = cJ_len x0 := rfl
