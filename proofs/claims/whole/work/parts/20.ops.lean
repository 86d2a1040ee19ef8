/-! what a method's text does to the heap, as functions that may fail; loops -/
def gV (h : Hp) (ci a k : Nat) : Option Value := match h.2.2 a with
  | some (.inr (c, fs)) => if c = ci then fs[k]? else none
  | _ => none
def gI (h : Hp) (ci a k : Nat) : Option Int32 := match gV h ci a k with
  | some (.int v) => some v
  | _ => none
def gJ (h : Hp) (ci a k : Nat) : Option Int64 := match gV h ci a k with
  | some (.long v) => some v
  | _ => none
def gR (h : Hp) (ci a k : Nat) : Option (Option Nat) := match gV h ci a k with
  | some (.ref v) => some (some v)
  | some .null => some none
  | _ => none
/-- putfield -/
def sV (h : Hp) (ci a k : Nat) (v : Value) : Option Hp := match h.2.2 a with
  | some (.inr (c, fs)) => if c = ci then some (hp_set h a (.inr (ci, fs.set k v))) else none
  | _ => none
/-- a guard: the cell b is an object of class ci -/
def gO {α : Type} (h : Hp) (ci b : Nat) (e : Option α) : Option α := match h.2.2 b with
  | some (.inr (c, _)) => if c = ci then e else none
  | _ => none
def inB (i : Int32) (n : Nat) : Bool := !(decide (i < 0)) && decide (i.toNatClampNeg < n)
def aI (t : Nat) (h : Hp) (a : Nat) (i : Int32) : Option Int32 := match h.2.2 a with
  | some (.inl (t', n, .inl g)) => if t' = t ∧ inB i n = true then some (g i.toNatClampNeg) else none
  | _ => none
def aJ (h : Hp) (a : Nat) (i : Int32) : Option Int64 := match h.2.2 a with
  | some (.inl (t', n, .inr (.inl g))) => if t' = 2 ∧ inB i n = true then some (g i.toNatClampNeg) else none
  | _ => none
def aR (h : Hp) (a : Nat) (i : Int32) : Option (Option Nat) := match h.2.2 a with
  | some (.inl (t', n, .inr (.inr (.inr (.inr g))))) => if 4 ≤ t' ∧ inB i n = true then some (g i.toNatClampNeg) else none
  | _ => none
def aL (h : Hp) (a : Nat) : Option Int32 := match h.2.2 a with
  | some (.inl (_, n, _)) => some (Int32.ofNat n)
  | _ => none
def nar (t : Nat) (x : Int32) : Int32 := if t = 1 then x.toInt8.toInt32 else if t = 3 then x &&& 1 else x
def wI (t : Nat) (h : Hp) (a : Nat) (i x : Int32) : Option Hp := match h.2.2 a with
  | some (.inl (t', n, .inl g)) => if t' = t ∧ inB i n = true then some (hp_set h a (.inl (t, n, .inl (upd g i.toNatClampNeg (nar t x))))) else none
  | _ => none
def wJ (h : Hp) (a : Nat) (i : Int32) (x : Int64) : Option Hp := match h.2.2 a with
  | some (.inl (t', n, .inr (.inl g))) => if t' = 2 ∧ inB i n = true then some (hp_set h a (.inl (2, n, .inr (.inl (vf_upd g i.toNatClampNeg x))))) else none
  | _ => none
/-- an object of class ci into a row of its class (t) -/
def wR (t ci : Nat) (h : Hp) (a : Nat) (i : Int32) (x : Nat) : Option Hp := match h.2.2 a with
  | some (.inl (t', n, .inr (.inr (.inr (.inr g))))) => if t' = t ∧ inB i n = true then gO h ci x (some (hp_set h a (.inl (t, n, .inr (.inr (.inr (.inr (va_up g i.toNatClampNeg (some x))))))))) else none
  | _ => none
def dfl (ci n : Nat) : List Value := (List.range n).map (fun j => defaultValue (ctyp ci j))
def nO (h : Hp) (ci n : Nat) : Hp := hp_new h n (.inr (ci, dfl ci n))
def nA (t : Nat) (h : Hp) (n : Int32) : Option Hp := if ¬ n < 0 ∧ n.toNatClampNeg ≤ 10000000 then some (hp_new h n.toNatClampNeg (.inl (t, n.toNatClampNeg, if t = 2 then .inr (.inl (fun _ => 0)) else if 4 ≤ t then .inr (.inr (.inr (.inr (fun _ => none)))) else .inl (fun _ => 0)))) else none
def dv (x y : Int32) : Option Int32 := if y = 0 then none else some (x / y)
def rm (x y : Int32) : Option Int32 := if y = 0 then none else some (i_rem x y)
def dvl (x y : Int64) : Option Int64 := if y = 0 then none else some (x / y)
def rml (x y : Int64) : Option Int64 := if y = 0 then none else some (l_rem x y)
/-- an answer of type boolean -/
def bl {α : Type} (x : Int32) (e : Option α) : Option α := if x = 0 ∨ x = 1 then e else none
/-- a loop: its body tells the next state, or the end -/
def lpn {σ ρ : Type} (body : σ → Option (σ ⊕ ρ)) : Nat → σ → Option ρ
  | 0, _ => none
  | n + 1, s => match body s with
    | none => none
    | some (.inl s') => lpn body n s'
    | some (.inr r) => some r
theorem lpn_mono {σ ρ : Type} {body : σ → Option (σ ⊕ ρ)} : ∀ (n : Nat) (s : σ) (r : ρ), lpn body n s = some r → ∀ k, lpn body (n + k) s = some r
  | 0, s, r, h, k => by simp [lpn] at h
  | n + 1, s, r, h, k => by
    rw [show n + 1 + k = (n + k) + 1 by omega]
    unfold lpn at h ⊢
    cases hb : body s with
    | none => rw [hb] at h; cases h
    | some x =>
      rw [hb] at h
      cases x with
      | inl s' => exact lpn_mono n s' r h k
      | inr q => exact h
noncomputable def lpw {σ ρ : Type} (body : σ → Option (σ ⊕ ρ)) (s : σ) : Option ρ := by
  classical
  exact if h : ∃ (n : Nat) (r : ρ), lpn body n s = some r then some (Classical.choose (Classical.choose_spec h)) else none
theorem lpw_of {σ ρ : Type} {body : σ → Option (σ ⊕ ρ)} {s : σ} {n : Nat} {r : ρ} (h : lpn body n s = some r) : lpw body s = some r := by
  have hex : ∃ (n : Nat) (r : ρ), lpn body n s = some r := ⟨n, r, h⟩
  unfold lpw
  rw [dif_pos hex]
  have h2 := Classical.choose_spec (Classical.choose_spec hex)
  generalize Classical.choose (Classical.choose_spec hex) = r2 at h2 ⊢
  generalize Classical.choose hex = n2 at h2
  have a := lpn_mono _ _ _ h n2
  have b := lpn_mono _ _ _ h2 n
  rw [Nat.add_comm] at b
  rw [a] at b
  exact b.symm
theorem lpw_to {σ ρ : Type} {body : σ → Option (σ ⊕ ρ)} {s : σ} {r : ρ} (h : lpw body s = some r) : ∃ n, lpn body n s = some r := by
  unfold lpw at h
  split at h
  · rename_i hex
    have h2 := Classical.choose_spec (Classical.choose_spec hex)
    rw [Option.some.inj h] at h2
    exact ⟨_, h2⟩
  · cases h
/-- a loop, one turn on -/
theorem lpw_eq {σ ρ : Type} (body : σ → Option (σ ⊕ ρ)) (s : σ) : lpw body s = match body s with
    | none => none
    | some (.inl s') => lpw body s'
    | some (.inr r) => some r := by
  cases hl : lpw body s with
  | some r =>
    obtain ⟨n, hn⟩ := lpw_to hl
    cases n with
    | zero => simp [lpn] at hn
    | succ n =>
      unfold lpn at hn
      cases hb : body s with
      | none => rw [hb] at hn; cases hn
      | some x =>
        rw [hb] at hn
        cases x with
        | inl s' => exact (lpw_of hn).symm
        | inr q => exact hn.symm
  | none =>
    cases hb : body s with
    | none => rfl
    | some x =>
      cases x with
      | inl s' =>
        show none = lpw body s'
        cases h2 : lpw body s' with
        | none => rfl
        | some r =>
          obtain ⟨n, hn⟩ := lpw_to h2
          have : lpn body (n + 1) s = some r := by
            unfold lpn
            rw [hb]
            exact hn
          rw [lpw_of this] at hl
          cases hl
      | inr q =>
        have : lpn body 1 s = some q := by
          unfold lpn
          rw [hb]
        rw [lpw_of this] at hl
        cases hl
def Kx {σ T : Type} (P : σ → Prop) (K : T → Prop) (x : σ ⊕ T) : Prop := match x with
  | .inl s => P s
  | .inr y => K y
theorem lpw_go {σ T : Type} {body : σ → Option (σ ⊕ T)} {P : σ → Prop} {K : T → Prop} (H : ∀ s x, body s = some x → Kx P K x → P s) (s0 : σ) (y : T) (hl : lpw body s0 = some y) (hk : K y) : P s0 := by
  obtain ⟨n, hn⟩ := lpw_to hl
  induction n generalizing s0 with
  | zero => simp [lpn] at hn
  | succ n ih =>
    unfold lpn at hn
    cases hb : body s0 with
    | none => rw [hb] at hn; cases hn
    | some x =>
      rw [hb] at hn
      cases x with
      | inl s' => exact H s0 _ hb (ih s' (lpw_of hn) hn)
      | inr q =>
        cases hn
        exact H s0 _ hb hk
theorem bindS {α β : Type} {o : Option α} {f : α → Option β} {y : β} (h : o.bind f = some y) : ∃ v, o = some v ∧ f v = some y := by
  cases o with
  | none => cases h
  | some v => exact ⟨v, rfl, h⟩
theorem mapS {α β : Type} {o : Option α} {f : α → β} {y : β} (h : o.map f = some y) : ∃ v, o = some v ∧ f v = y := by
  cases o with
  | none => cases h
  | some v => exact ⟨v, rfl, Option.some.inj h⟩
theorem gV_at {h : Hp} {ci a k : Nat} {v : Value} (e : gV h ci a k = some v) : ∃ fs, h.2.2 a = some (.inr (ci, fs)) ∧ fs[k]? = some v := by
  unfold gV at e
  split at e
  · rename_i c fs hc
    split at e
    · rename_i hci
      subst hci
      exact ⟨fs, hc, e⟩
    · cases e
  · cases e
theorem gI_at {h : Hp} {ci a k : Nat} {v : Int32} (e : gI h ci a k = some v) : gV h ci a k = some (.int v) := by
  unfold gI at e
  split at e
  · rename_i w hw
    rw [hw]; cases e; rfl
  · cases e
theorem gJ_at {h : Hp} {ci a k : Nat} {v : Int64} (e : gJ h ci a k = some v) : gV h ci a k = some (.long v) := by
  unfold gJ at e
  split at e
  · rename_i w hw
    rw [hw]; cases e; rfl
  · cases e
theorem gR_at {h : Hp} {ci a k : Nat} {v : Option Nat} (e : gR h ci a k = some v) : gV h ci a k = some (va_rf v) := by
  unfold gR at e
  split at e
  · rename_i w hw
    rw [hw]; cases e; rfl
  · rename_i hw
    rw [hw]; cases e; rfl
  · cases e
theorem gO_at {α : Type} {h : Hp} {ci b : Nat} {e : Option α} {y : α} (q : gO h ci b e = some y) : (∃ fs, h.2.2 b = some (.inr (ci, fs))) ∧ e = some y := by
  unfold gO at q
  split at q
  · rename_i c fs hc
    split at q
    · rename_i hci
      subst hci
      exact ⟨⟨fs, hc⟩, q⟩
    · cases q
  · cases q
theorem inB_in {i : Int32} {n : Nat} (h : inB i n = true) : vp_in i n := by
  unfold inB at h
  simp only [Bool.and_eq_true, Bool.not_eq_true', decide_eq_false_iff_not, decide_eq_true_eq] at h
  rintro (q | q)
  · exact h.1 q
  · omega
def FL (own : String) (idx ci k : Nat) : Prop := ∃ q : vw_C, cls[ci]? = some q ∧ k < q.2.2 ∧ Wg (.fieldLink own idx (q.2.1 k).1 (q.2.1 k).2.1 (q.2.1 k).2.2.1)
section OPR
variable {d : Nat} {M : Mt} {pc : Nat} {L : List (Option Value)} {st : List Value} {h h' : Hp} {r : Option Value}
theorem go_gV {idx ci a k : Nat} {v : Value} (fl : FL M.1.cls idx ci k) (hv : gV h ci a k = some v) (hd : decode M.2.1 pc = .ok (.getfield idx, 3)) (kk : Go d M (pc + 3) L (v :: st) h r h') : Go d M pc L (.ref a :: st) h r h' := by
  obtain ⟨fs, h1, h2⟩ := gV_at hv
  obtain ⟨q, q1, q2, q3⟩ := fl
  exact go_get h1 q1 q2 h2 q3 hd kk
theorem go_gI {idx ci a k : Nat} {v : Int32} (fl : FL M.1.cls idx ci k) (hv : gI h ci a k = some v) (hd : decode M.2.1 pc = .ok (.getfield idx, 3)) (kk : Go d M (pc + 3) L (.int v :: st) h r h') : Go d M pc L (.ref a :: st) h r h' := go_gV fl (gI_at hv) hd kk
theorem go_gJ {idx ci a k : Nat} {v : Int64} (fl : FL M.1.cls idx ci k) (hv : gJ h ci a k = some v) (hd : decode M.2.1 pc = .ok (.getfield idx, 3)) (kk : Go d M (pc + 3) L (.long v :: st) h r h') : Go d M pc L (.ref a :: st) h r h' := go_gV fl (gJ_at hv) hd kk
theorem go_gR {idx ci a k : Nat} {v : Option Nat} (fl : FL M.1.cls idx ci k) (hv : gR h ci a k = some v) (hd : decode M.2.1 pc = .ok (.getfield idx, 3)) (kk : Go d M (pc + 3) L (va_rf v :: st) h r h') : Go d M pc L (.ref a :: st) h r h' := go_gV fl (gR_at hv) hd kk
theorem sV_at {ci a k : Nat} {v : Value} {h1 : Hp} (e : sV h ci a k v = some h1) : ∃ fs, h.2.2 a = some (.inr (ci, fs)) ∧ h1 = hp_set h a (.inr (ci, fs.set k v)) := by
  unfold sV at e
  split at e
  · rename_i c fs hc
    split at e
    · rename_i hci
      subst hci
      cases e
      exact ⟨fs, hc, rfl⟩
    · cases e
  · cases e
/-- a field that is not final; its class, its type -/
def FW (own : String) (idx ci k : Nat) : Prop := ∃ q : vw_C, cls[ci]? = some q ∧ k < q.2.2 ∧ (q.2.1 k).2.2.2 = false ∧ Wg (.fieldLink own idx (q.2.1 k).1 (q.2.1 k).2.1 (q.2.1 k).2.2.1)
def FF (own : String) (idx ci k : Nat) : Prop := ∃ q : vw_C, cls[ci]? = some q ∧ k < q.2.2 ∧ (q.2.1 k).2.2.2 = true ∧ (q.2.1 k).1 = own ∧ Wg (.fieldLink own idx (q.2.1 k).1 (q.2.1 k).2.1 (q.2.1 k).2.2.1)
theorem go_sV {idx ci a k : Nat} {v : Value} {h1 : Hp} (fl : FW M.1.cls idx ci k) (hv : sV h ci a k v = some h1) (hn : narrow (ctyp ci k) v = v) (hfit : fits (ctyp ci k) v = true) (hd : decode M.2.1 pc = .ok (.putfield idx, 3)) (kk : Go d M (pc + 3) L st h1 r h') : Go d M pc L (v :: .ref a :: st) h r h' := by
  obtain ⟨fs, e1, rfl⟩ := sV_at hv
  obtain ⟨q, q1, q2, q3, q4⟩ := fl
  exact go_put e1 q1 q2 q3 hn hfit q4 hd kk
theorem go_sVF {idx ci a k : Nat} {v : Value} {h1 : Hp} (fl : FF M.1.cls idx ci k) (hin : M.1.name = "<init>") (hv : sV h ci a k v = some h1) (hn : narrow (ctyp ci k) v = v) (hfit : fits (ctyp ci k) v = true) (hd : decode M.2.1 pc = .ok (.putfield idx, 3)) (kk : Go d M (pc + 3) L st h1 r h') : Go d M pc L (v :: .ref a :: st) h r h' := by
  obtain ⟨fs, e1, rfl⟩ := sV_at hv
  obtain ⟨q, q1, q2, q3, q4, q5⟩ := fl
  exact go_putF e1 q1 q2 q3 hin q4 hn hfit q5 hd kk
theorem aI_at {t a : Nat} {i v : Int32} (e : aI t h a i = some v) : ∃ (n : Nat) (g : Nat → Int32), h.2.2 a = some (.inl (t, n, .inl g)) ∧ vp_in i n ∧ v = g i.toNatClampNeg := by
  unfold aI at e
  split at e
  · rename_i t' n g hc
    split at e
    · rename_i hh
      obtain ⟨rfl, hb⟩ := hh
      exact ⟨n, g, hc, inB_in hb, (Option.some.inj e).symm⟩
    · cases e
  · cases e
theorem aJ_at {a : Nat} {i : Int32} {v : Int64} (e : aJ h a i = some v) : ∃ (n : Nat) (g : Nat → Int64), h.2.2 a = some (.inl (2, n, .inr (.inl g))) ∧ vp_in i n ∧ v = g i.toNatClampNeg := by
  unfold aJ at e
  split at e
  · rename_i t' n g hc
    split at e
    · rename_i hh
      obtain ⟨rfl, hb⟩ := hh
      exact ⟨n, g, hc, inB_in hb, (Option.some.inj e).symm⟩
    · cases e
  · cases e
theorem aR_at {a : Nat} {i : Int32} {v : Option Nat} (e : aR h a i = some v) : ∃ (t n : Nat) (g : Nat → Option Nat), h.2.2 a = some (.inl (t, n, .inr (.inr (.inr (.inr g))))) ∧ 4 ≤ t ∧ vp_in i n ∧ v = g i.toNatClampNeg := by
  unfold aR at e
  split at e
  · rename_i t' n g hc
    split at e
    · rename_i hh
      exact ⟨t', n, g, hc, hh.1, inB_in hh.2, (Option.some.inj e).symm⟩
    · cases e
  · cases e
theorem go_aIi {a : Nat} {i v : Int32} (hv : aI 0 h a i = some v) (hd : decode M.2.1 pc = .ok (.iaload, 1)) (kk : Go d M (pc + 1) L (.int v :: st) h r h') : Go d M pc L (.int i :: .ref a :: st) h r h' := by
  obtain ⟨n, g, h1, h2, rfl⟩ := aI_at hv
  exact go_iald h1 h2 hd kk
theorem go_aIb {a : Nat} {i v : Int32} (hv : aI 1 h a i = some v) (hd : decode M.2.1 pc = .ok (.baload, 1)) (kk : Go d M (pc + 1) L (.int v :: st) h r h') : Go d M pc L (.int i :: .ref a :: st) h r h' := by
  obtain ⟨n, g, h1, h2, rfl⟩ := aI_at hv
  exact go_bald h1 h2 hd kk
theorem go_aIz {a : Nat} {i v : Int32} (hv : aI 3 h a i = some v) (hd : decode M.2.1 pc = .ok (.baload, 1)) (kk : Go d M (pc + 1) L (.int v :: st) h r h') : Go d M pc L (.int i :: .ref a :: st) h r h' := by
  obtain ⟨n, g, h1, h2, rfl⟩ := aI_at hv
  exact go_zald h1 h2 hd kk
theorem go_aJ {a : Nat} {i : Int32} {v : Int64} (hv : aJ h a i = some v) (hd : decode M.2.1 pc = .ok (.laload, 1)) (kk : Go d M (pc + 1) L (.long v :: st) h r h') : Go d M pc L (.int i :: .ref a :: st) h r h' := by
  obtain ⟨n, g, h1, h2, rfl⟩ := aJ_at hv
  exact go_lald h1 h2 hd kk
theorem go_aR {a : Nat} {i : Int32} {v : Option Nat} (hv : aR h a i = some v) (hd : decode M.2.1 pc = .ok (.aaload, 1)) (kk : Go d M (pc + 1) L (va_rf v :: st) h r h') : Go d M pc L (.int i :: .ref a :: st) h r h' := by
  obtain ⟨t, n, g, h1, h2, h3, rfl⟩ := aR_at hv
  exact go_aald h1 h2 h3 hd kk
theorem go_aL {a : Nat} {v : Int32} (hv : aL h a = some v) (hd : decode M.2.1 pc = .ok (.arraylength, 1)) (kk : Go d M (pc + 1) L (.int v :: st) h r h') : Go d M pc L (.ref a :: st) h r h' := by
  unfold aL at hv
  split at hv
  · rename_i t n x hc
    cases hv
    exact go_alen hc hd kk
  · cases hv
theorem wI_at {t a : Nat} {i x : Int32} {h1 : Hp} (e : wI t h a i x = some h1) : ∃ (n : Nat) (g : Nat → Int32), h.2.2 a = some (.inl (t, n, .inl g)) ∧ vp_in i n ∧ h1 = hp_set h a (.inl (t, n, .inl (upd g i.toNatClampNeg (nar t x)))) := by
  unfold wI at e
  split at e
  · rename_i t' n g hc
    split at e
    · rename_i hh
      obtain ⟨rfl, hb⟩ := hh
      exact ⟨n, g, hc, inB_in hb, (Option.some.inj e).symm⟩
    · cases e
  · cases e
theorem go_wIi {a : Nat} {i x : Int32} {h1 : Hp} (hv : wI 0 h a i x = some h1) (hd : decode M.2.1 pc = .ok (.iastore, 1)) (kk : Go d M (pc + 1) L st h1 r h') : Go d M pc L (.int x :: .int i :: .ref a :: st) h r h' := by
  obtain ⟨n, g, e1, e2, rfl⟩ := wI_at hv
  exact go_iast e1 e2 hd kk
theorem go_wIb {a : Nat} {i x : Int32} {h1 : Hp} (hv : wI 1 h a i x = some h1) (hd : decode M.2.1 pc = .ok (.bastore, 1)) (kk : Go d M (pc + 1) L st h1 r h') : Go d M pc L (.int x :: .int i :: .ref a :: st) h r h' := by
  obtain ⟨n, g, e1, e2, rfl⟩ := wI_at hv
  exact go_bast e1 e2 hd kk
theorem go_wIz {a : Nat} {i x : Int32} {h1 : Hp} (hv : wI 3 h a i x = some h1) (hd : decode M.2.1 pc = .ok (.bastore, 1)) (kk : Go d M (pc + 1) L st h1 r h') : Go d M pc L (.int x :: .int i :: .ref a :: st) h r h' := by
  obtain ⟨n, g, e1, e2, rfl⟩ := wI_at hv
  exact go_zast e1 e2 hd kk
theorem go_wJ {a : Nat} {i : Int32} {x : Int64} {h1 : Hp} (hv : wJ h a i x = some h1) (hd : decode M.2.1 pc = .ok (.lastore, 1)) (kk : Go d M (pc + 1) L st h1 r h') : Go d M pc L (.long x :: .int i :: .ref a :: st) h r h' := by
  unfold wJ at hv
  split at hv
  · rename_i t' n g hc
    split at hv
    · rename_i hh
      obtain ⟨rfl, hb⟩ := hh
      cases hv
      exact go_last hc (inB_in hb) hd kk
    · cases hv
  · cases hv
theorem go_wR {t ci a x : Nat} {q : vw_C} {i : Int32} {h1 : Hp} (ht : 4 ≤ t) (hc : cls[ci]? = some q) (hty : aty t = .object q.1) (hv : wR t ci h a i x = some h1) (hd : decode M.2.1 pc = .ok (.aastore, 1)) (kk : Go d M (pc + 1) L st h1 r h') : Go d M pc L (.ref x :: .int i :: .ref a :: st) h r h' := by
  unfold wR at hv
  split at hv
  · rename_i t' n g hcell
    split at hv
    · rename_i hh
      obtain ⟨rfl, hb⟩ := hh
      obtain ⟨⟨fs, e1⟩, e2⟩ := gO_at hv
      cases e2
      exact go_aast hcell ht e1 hc hty (inB_in hb) hd kk
    · cases hv
  · cases hv
theorem go_nO {idx ci : Nat} {q : vw_C} (hc : cls[ci]? = some q) (hlk : Wg (.classLink M.1.cls idx q.1)) (hins : Wg (.instantiable q.1 q.2.2)) (hini : Wg (.initialized q.1)) (hd : decode M.2.1 pc = .ok (.new idx, 3)) (kk : Go d M (pc + 3) L (.ref h.1 :: st) (nO h ci q.2.2) r h') : Go d M pc L st h r h' := go_new hc rfl hlk hins hini hd kk
theorem go_nAi {n : Int32} {h1 : Hp} (harr : Wg (.arrayClass .int)) (hv : nA 0 h n = some h1) (hd : decode M.2.1 pc = .ok (.newarray .int, 2)) (kk : Go d M (pc + 2) L (.ref h.1 :: st) h1 r h') : Go d M pc L (.int n :: st) h r h' := by
  unfold nA at hv
  split at hv
  · rename_i hh
    cases hv
    exact go_newi hh.1 hh.2 harr hd kk
  · cases hv
theorem go_nAb {n : Int32} {h1 : Hp} (harr : Wg (.arrayClass .byte)) (hv : nA 1 h n = some h1) (hd : decode M.2.1 pc = .ok (.newarray .byte, 2)) (kk : Go d M (pc + 2) L (.ref h.1 :: st) h1 r h') : Go d M pc L (.int n :: st) h r h' := by
  unfold nA at hv
  split at hv
  · rename_i hh
    cases hv
    exact go_newb hh.1 hh.2 harr hd kk
  · cases hv
theorem go_nAl {n : Int32} {h1 : Hp} (harr : Wg (.arrayClass .long)) (hv : nA 2 h n = some h1) (hd : decode M.2.1 pc = .ok (.newarray .long, 2)) (kk : Go d M (pc + 2) L (.ref h.1 :: st) h1 r h') : Go d M pc L (.int n :: st) h r h' := by
  unfold nA at hv
  split at hv
  · rename_i hh
    cases hv
    exact go_newl hh.1 hh.2 harr hd kk
  · cases hv
theorem go_nAz {n : Int32} {h1 : Hp} (harr : Wg (.arrayClass .boolean)) (hv : nA 3 h n = some h1) (hd : decode M.2.1 pc = .ok (.newarray .boolean, 2)) (kk : Go d M (pc + 2) L (.ref h.1 :: st) h1 r h') : Go d M pc L (.int n :: st) h r h' := by
  unfold nA at hv
  split at hv
  · rename_i hh
    cases hv
    exact go_newz hh.1 hh.2 harr hd kk
  · cases hv
theorem go_nAr {n : Int32} {h1 : Hp} {t idx : Nat} {Cn : String} (h4 : 4 ≤ t) (ht : aty t = .object Cn) (hlk : Wg (.classLink M.1.cls idx Cn)) (hov : Cond.arrayOver (.object Cn) ∈ lw_tbl) (hv : nA t h n = some h1) (hd : decode M.2.1 pc = .ok (.anewarray idx, 3)) (kk : Go d M (pc + 3) L (.ref h.1 :: st) h1 r h') : Go d M pc L (.int n :: st) h r h' := by
  unfold nA at hv
  split at hv
  · rename_i hh
    cases hv
    rw [if_neg (show ¬ t = 2 by omega)] at kk
    exact go_anew ht hh.1 hh.2 hlk hov hd kk
  · cases hv
theorem go_dv {x y v : Int32} (hv : dv x y = some v) (hd : decode M.2.1 pc = .ok (.idiv, 1)) (kk : Go d M (pc + 1) L (.int v :: st) h r h') : Go d M pc L (.int y :: .int x :: st) h r h' := by
  unfold dv at hv
  split at hv
  · cases hv
  · rename_i hy
    cases hv
    exact go_idiv hy hd kk
theorem go_rm {x y v : Int32} (hv : rm x y = some v) (hd : decode M.2.1 pc = .ok (.irem, 1)) (kk : Go d M (pc + 1) L (.int v :: st) h r h') : Go d M pc L (.int y :: .int x :: st) h r h' := by
  unfold rm at hv
  split at hv
  · cases hv
  · rename_i hy
    cases hv
    exact go_irem hy hd kk
theorem go_dvl {x y v : Int64} (hv : dvl x y = some v) (hd : decode M.2.1 pc = .ok (.ldiv, 1)) (kk : Go d M (pc + 1) L (.long v :: st) h r h') : Go d M pc L (.long y :: .long x :: st) h r h' := by
  unfold dvl at hv
  split at hv
  · cases hv
  · rename_i hy
    cases hv
    exact go_ldiv hy hd kk
theorem go_rml {x y v : Int64} (hv : rml x y = some v) (hd : decode M.2.1 pc = .ok (.lrem, 1)) (kk : Go d M (pc + 1) L (.long v :: st) h r h') : Go d M pc L (.long y :: .long x :: st) h r h' := by
  unfold rml at hv
  split at hv
  · cases hv
  · rename_i hy
    cases hv
    exact go_lrem hy hd kk
theorem bl_at {α : Type} {x : Int32} {e : Option α} {y : α} (q : bl x e = some y) : narrow .boolean (.int x) = .int x ∧ fits .boolean (.int x) = true ∧ e = some y := by
  unfold bl at q
  split at q
  · rename_i hx
    rcases hx with rfl | rfl
    · exact ⟨rfl, rfl, q⟩
    · exact ⟨rfl, rfl, q⟩
  · cases q
/-- fewer locals -/
theorem go_sub {L' : List (Option Value)} (hL : ∀ (i : Nat) (v : Value), L'[i]? = some (some v) → L[i]? = some (some v)) (kk : Go d M pc L' st h r h') : Go d M pc L st h r h' :=
  ⟨kk.1, kk.2.1, fun s0 D ol N xs hw p l e R s m args below meth c C ls H locs cells slots hl hR hf b1 b2 =>
    kk.2.2 s0 D ol N xs hw p l e R s m args below meth c C ls H locs cells slots ⟨hl.1, hl.2.1, fun i v hi => hl.2.2 i v (hL i v hi)⟩ hR hf b1 b2⟩
def subL : List (Option Value) → List (Option Value) → Prop
  | [], _ => True
  | none :: l', L => subL l' L.tail
  | some v :: l', L => L.head? = some (some v) ∧ subL l' L.tail
theorem subL_at : ∀ {l' L : List (Option Value)}, subL l' L → ∀ (i : Nat) (v : Value), l'[i]? = some (some v) → L[i]? = some (some v)
  | [], _, _, i, v, h => by simp at h
  | none :: l', L, hs, i, v, h => by
    cases i with
    | zero => simp at h
    | succ i =>
      have := subL_at (l' := l') (L := L.tail) hs i v (by simpa using h)
      cases L with
      | nil => simp at this
      | cons a L => simpa using this
  | some w :: l', L, hs, i, v, h => by
    cases i with
    | zero =>
      simp at h
      subst h
      cases L with
      | nil => simp [subL] at hs
      | cons a L => simpa using hs.1
    | succ i =>
      have := subL_at (l' := l') (L := L.tail) hs.2 i v (by simpa using h)
      cases L with
      | nil => simp at this
      | cons a L => simpa using this
theorem go_subL {L' : List (Option Value)} (hL : subL L' L) (kk : Go d M pc L' st h r h') : Go d M pc L st h r h' := go_sub (subL_at hL) kk
end OPR
