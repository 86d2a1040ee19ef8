/-! the constructors: cells behind each other -/
def sz : List (Nat × Cl) → Nat
  | [] => 0
  | (n, _) :: l => n + sz l
theorem sz_app : ∀ l l' : List (Nat × Cl), sz (l ++ l') = sz l + sz l'
  | [], l' => (Nat.zero_add _).symm
  | (n, x) :: l, l' => by
    show n + sz (l ++ l') = n + sz l + sz l'
    rw [sz_app l l', Nat.add_assoc]
theorem sz_set : ∀ (l : List (Nat × Cl)) (i n : Nat) (x y : Cl), l[i]? = some (n, y) → sz (l.set i (n, x)) = sz l
  | [], i, n, x, y, h => by cases h
  | (k, z) :: l, 0, n, x, y, h => by
    have e : (k, z) = (n, y) := Option.some.inj h
    have e1 : k = n := congrArg Prod.fst e
    rw [e1]
    rfl
  | (k, z) :: l, i + 1, n, x, y, h => by
    show k + sz (l.set i (n, x)) = k + sz l
    rw [sz_set l i n x y h]
theorem sz_rep (n : Nat) (x : Cl) : ∀ k, sz (List.replicate k (n, x)) = k * n
  | 0 => (Nat.zero_mul n).symm
  | k + 1 => by
    show n + sz (List.replicate k (n, x)) = (k + 1) * n
    rw [sz_rep n x k, Nat.succ_mul, Nat.add_comm]
theorem k_bi {α : Type} (o : Option α) : (o.bind fun y => some y) = o := by cases o <;> rfl
def Xh (g : Hp) (l : List (Nat × Cl)) : Hp := (g.1 + l.length, g.2.1 + sz l, fun j => if j < g.1 then g.2.2 j else (l[j - g.1]?).map Prod.snd)
def hN (g : Hp) : Prop := ∀ a, g.1 ≤ a → g.2.2 a = none
theorem Xh_hn (g : Hp) (l : List (Nat × Cl)) : hN (Xh g l) := fun a ha => by
  have ha : g.1 + l.length ≤ a := ha
  show (if a < g.1 then g.2.2 a else (l[a - g.1]?).map Prod.snd) = none
  rw [if_neg (by omega), List.getElem?_eq_none (by omega)]
  rfl
theorem Xh_0 {g : Hp} (hn : hN g) : Xh g [] = g := by
  refine Prod.ext rfl (Prod.ext rfl ?_)
  funext j
  show (if j < g.1 then g.2.2 j else none) = g.2.2 j
  by_cases z : j < g.1
  · rw [if_pos z]
  · rw [if_neg z, hn j (by omega)]
theorem Xh_X {g : Hp} {l l' : List (Nat × Cl)} : Xh (Xh g l) l' = Xh g (l ++ l') := by
  refine Prod.ext ?_ (Prod.ext ?_ ?_)
  · show g.1 + l.length + l'.length = g.1 + (l ++ l').length
    rw [List.length_append]
    omega
  · show g.2.1 + sz l + sz l' = g.2.1 + sz (l ++ l')
    rw [sz_app]
    omega
  · funext j
    show (if j < g.1 + l.length then (if j < g.1 then g.2.2 j else (l[j - g.1]?).map Prod.snd) else (l'[j - (g.1 + l.length)]?).map Prod.snd) = (if j < g.1 then g.2.2 j else ((l ++ l')[j - g.1]?).map Prod.snd)
    by_cases z : j < g.1
    · rw [if_pos z, if_pos z, if_pos (by omega)]
    · rw [if_neg z, if_neg z]
      by_cases q : j < g.1 + l.length
      · rw [if_pos q, List.getElem?_append_left (by omega)]
      · rw [if_neg q, List.getElem?_append_right (by omega), show j - g.1 - l.length = j - (g.1 + l.length) by omega]
theorem Xh_new {g : Hp} (hn : hN g) (n : Nat) (x : Cl) : hp_new g n x = Xh g [(n, x)] := by
  refine Prod.ext rfl (Prod.ext rfl ?_)
  funext j
  show (if j = g.1 then some x else g.2.2 j) = (if j < g.1 then g.2.2 j else ([(n, x)][j - g.1]?).map Prod.snd)
  by_cases z : j = g.1
  · rw [if_pos z, if_neg (by omega), z, Nat.sub_self]
    rfl
  · rw [if_neg z]
    by_cases q : j < g.1
    · rw [if_pos q]
    · rw [if_neg q, hn j (by omega), List.getElem?_eq_none (by show 1 ≤ j - g.1; omega)]
      rfl
theorem Xh_n {g : Hp} {l : List (Nat × Cl)} {n : Nat} {x : Cl} : hp_new (Xh g l) n x = Xh g (l ++ [(n, x)]) := by rw [Xh_new (Xh_hn g l), Xh_X]
theorem Xh_at {g : Hp} {l : List (Nat × Cl)} {i n : Nat} {x : Cl} (e : l[i]? = some (n, x)) : (Xh g l).2.2 (g.1 + i) = some x := by
  show (if g.1 + i < g.1 then g.2.2 (g.1 + i) else (l[g.1 + i - g.1]?).map Prod.snd) = some x
  rw [if_neg (by omega), Nat.add_sub_cancel_left, e]
  rfl
theorem Xh_lo {g : Hp} {l : List (Nat × Cl)} {j : Nat} (h : j < g.1) : (Xh g l).2.2 j = g.2.2 j := if_pos h
theorem Xh_set {g : Hp} {l : List (Nat × Cl)} {i n : Nat} {x y : Cl} (e : l[i]? = some (n, y)) : hp_set (Xh g l) (g.1 + i) x = Xh g (l.set i (n, x)) := by
  have il : i < l.length := by
    by_cases z : i < l.length
    · exact z
    · rw [List.getElem?_eq_none (by omega)] at e
      cases e
  refine Prod.ext ?_ (Prod.ext ?_ ?_)
  · show g.1 + l.length = g.1 + (l.set i (n, x)).length
    rw [List.length_set]
  · show g.2.1 + sz l = g.2.1 + sz (l.set i (n, x))
    rw [sz_set l i n x y e]
  · funext j
    show (if j = g.1 + i then some x else if j < g.1 then g.2.2 j else (l[j - g.1]?).map Prod.snd) = (if j < g.1 then g.2.2 j else ((l.set i (n, x))[j - g.1]?).map Prod.snd)
    by_cases z : j = g.1 + i
    · rw [if_pos z, if_neg (by omega), z, Nat.add_sub_cancel_left, List.getElem?_set_self il]
      rfl
    · rw [if_neg z]
      by_cases q : j < g.1
      · rw [if_pos q, if_pos q]
      · rw [if_neg q, if_neg q, List.getElem?_set_ne (by omega)]
section CTR
variable {g : Hp} {l : List (Nat × Cl)} {β : Type} {R : Option β}
theorem b_lt {α : Type} {x v : α} {f : α → Option β} (e : x = v) (h : f v = R) : lt x f = R := by rw [e]; exact h
theorem b_nA {K : Hp → Option β} (t n : Nat) (hn : n ≤ 10000000) (h : K (Xh g (l ++ [(n, .inl (t, n, if t = 2 then .inr (.inl (fun _ => 0)) else if 4 ≤ t then .inr (.inr (.inr (.inr (fun _ => none)))) else .inl (fun _ => 0)))])) = R) : (nA t (Xh g l) (nI n)).bind K = R := by
  have n0 : ¬ nI n < 0 := by
    show ¬ nI n < nI 0
    rw [nI_ltI (by omega) (by omega)]
    omega
  unfold nA
  rw [nI_clamp (by omega), if_pos ⟨n0, hn⟩, k_bs, Xh_n]
  exact h
theorem b_sV {K : Hp → Option β} (i : Nat) {a n ci k : Nat} {fs : List Value} {v : Value} (ha : a = g.1 + i) (e : l[i]? = some (n, .inr (ci, fs))) (h : K (Xh g (l.set i (n, .inr (ci, fs.set k v)))) = R) : (sV (Xh g l) ci a k v).bind K = R := by
  have s : sV (Xh g l) ci a k v = some (Xh g (l.set i (n, .inr (ci, fs.set k v)))) := by
    unfold sV
    rw [ha, Xh_at e]
    show (if ci = ci then some (hp_set (Xh g l) (g.1 + i) (.inr (ci, fs.set k v))) else none) = _
    rw [if_pos rfl, Xh_set e]
  rw [s, k_bs]
  exact h
theorem x_gN (i : Nat) {a n ci k v : Nat} {fs : List Value} (ha : a = g.1 + i) (e : l[i]? = some (n, .inr (ci, fs))) (e2 : fs[k]? = some (.ref v)) : gN (Xh g l) ci a k = some v := by
  unfold gN gV
  rw [ha, Xh_at e]
  show (match (if ci = ci then fs[k]? else none) with | some (.ref v) => some v | _ => none) = _
  rw [if_pos rfl, e2]
theorem b_gN {K : Nat → Option β} (i v : Nat) {a n ci k : Nat} {fs : List Value} (ha : a = g.1 + i) (e : l[i]? = some (n, .inr (ci, fs))) (e2 : fs[k]? = some (.ref v)) (h : K v = R) : (gN (Xh g l) ci a k).bind K = R := by
  rw [x_gN i ha e e2, k_bs]
  exact h
theorem b_wI {K : Hp → Option β} (i j : Nat) {a n m : Nat} {f : Nat → Int32} {x : Int32} (ha : a = g.1 + i) (e : l[i]? = some (n, .inl (0, m, .inl f))) (hj : j < m) (hm : m < 2 ^ 31) (h : K (Xh g (l.set i (n, .inl (0, m, .inl (upd f j x))))) = R) : (wI 0 (Xh g l) a (nI j) x).bind K = R := by
  have s : wI 0 (Xh g l) a (nI j) x = some (Xh g (l.set i (n, .inl (0, m, .inl (upd f j x))))) := by
    unfold wI
    rw [ha, Xh_at e]
    show (if 0 = 0 ∧ inB (nI j) m = true then some (hp_set (Xh g l) (g.1 + i) (.inl (0, m, .inl (upd f (nI j).toNatClampNeg (nar 0 x))))) else none) = _
    rw [if_pos ⟨rfl, n_inB hj hm⟩, nI_clamp (by omega), Xh_set e]
    rfl
  rw [s, k_bs]
  exact h
theorem x_wR (i i2 j : Nat) {t ci a b n n2 m : Nat} {f : Nat → Option Nat} {fs : List Value} (ha : a = g.1 + i) (hb : b = g.1 + i2) (e : l[i]? = some (n, .inl (t, m, .inr (.inr (.inr (.inr f)))))) (e2 : l[i2]? = some (n2, .inr (ci, fs))) (hj : j < m) (hm : m < 2 ^ 31) : wR t ci (Xh g l) a (nI j) b = some (Xh g (l.set i (n, .inl (t, m, .inr (.inr (.inr (.inr (va_up f j (some b)))))))))  := by
  unfold wR
  rw [ha, Xh_at e]
  show (if t = t ∧ inB (nI j) m = true then gO (Xh g l) ci b (some (hp_set (Xh g l) (g.1 + i) (.inl (t, m, .inr (.inr (.inr (.inr (va_up f (nI j).toNatClampNeg (some b))))))))) else none) = _
  rw [if_pos ⟨rfl, n_inB hj hm⟩, nI_clamp (by omega), Xh_set e]
  unfold gO
  rw [hb, Xh_at e2]
  show (if ci = ci then _ else none) = _
  rw [if_pos rfl]
theorem b_sub {F : Option Hp} {L : List (Nat × Cl)} {K : Hp → Option β} (hF : F = some (Xh (Xh g l) L)) (h : K (Xh g (l ++ L)) = R) : F.bind K = R := by
  rw [hF, k_bs, Xh_X]
  exact h
theorem nO_X (hn : hN g) (ci n : Nat) : nO g ci n = Xh g [(n, .inr (ci, dfl ci n))] := Xh_new hn n _
theorem Xh_dfl (hn : hN g) (ci n : Nat) (fs : List Value) (e : dfl ci n = fs) : nO g ci n = Xh g [(n, .inr (ci, fs))] := by
  subst e
  exact nO_X hn ci n
theorem b_nC {K : Hp → Option β} (t n : Nat) {o : Nat × Cl} (hn : n ≤ 10000000) (h : K (Xh g (o :: (l ++ [(n, .inl (t, n, if t = 2 then .inr (.inl (fun _ => 0)) else if 4 ≤ t then .inr (.inr (.inr (.inr (fun _ => none)))) else .inl (fun _ => 0)))]))) = R) : (nA t (Xh g (o :: l)) (nI n)).bind K = R := b_nA t n hn h
theorem b_sC {K : Hp → Option β} {n ci k a : Nat} {fs : List Value} {v : Value} (fs' : List Value) (ha : a = g.1) (e : fs.set k v = fs') (h : K (Xh g ((n, .inr (ci, fs')) :: l)) = R) : (sV (Xh g ((n, .inr (ci, fs)) :: l)) ci a k v).bind K = R := by
  subst e
  exact b_sV 0 ha rfl h
theorem b_gC {K : Nat → Option β} (v : Nat) {a n ci k : Nat} {fs : List Value} (ha : a = g.1) (e2 : fs[k]? = some (.ref v)) (h : K v = R) : (gN (Xh g ((n, .inr (ci, fs)) :: l)) ci a k).bind K = R := b_gN 0 v ha rfl e2 h
theorem b_uC {F : Option Hp} {L : List (Nat × Cl)} {o : Nat × Cl} {K : Hp → Option β} (hF : F = some (Xh (Xh g (o :: l)) L)) (h : K (Xh g (o :: (l ++ L))) = R) : F.bind K = R := b_sub hF h
theorem b_gD {K : Nat → Option β} (v : Nat) {a n ci k cj m : Nat} {fs : List Value} (ha : a = g.1) (e2 : fs[k]? = some (.ref v)) (h : K v = R) : (gN (nO (Xh g ((n, .inr (ci, fs)) :: l)) cj m) ci a k).bind K = R := by
  rw [nO_X (Xh_hn _ _), Xh_X]
  exact b_gN 0 v ha rfl e2 h
theorem b_wC {K : Hp → Option β} (i j : Nat) {a n m : Nat} {o : Nat × Cl} {f : Nat → Int32} {x : Int32} (ha : a = g.1 + (i + 1)) (e : l[i]? = some (n, .inl (0, m, .inl f))) (hj : j < m) (hm : m < 2 ^ 31) (h : K (Xh g (o :: l.set i (n, .inl (0, m, .inl (upd f j x))))) = R) : (wI 0 (Xh g (o :: l)) a (nI j) x).bind K = R := b_wI (i + 1) j ha e hj hm h
theorem b_wR {K : Hp → Option β} (i i2 j : Nat) {t ci a b n n2 m : Nat} {o : Nat × Cl} {f : Nat → Option Nat} {fs : List Value} (ha : a = g.1 + (i + 1)) (hb : b = g.1 + (i2 + 1)) (e : l[i]? = some (n, .inl (t, m, .inr (.inr (.inr (.inr f)))))) (e2 : l[i2]? = some (n2, .inr (ci, fs))) (hj : j < m) (hm : m < 2 ^ 31) (h : K (Xh g (o :: l.set i (n, .inl (t, m, .inr (.inr (.inr (.inr (va_up f j (some b))))))))) = R) : (wR t ci (Xh g (o :: l)) a (nI j) b).bind K = R := by
  rw [x_wR (i + 1) (i2 + 1) j ha hb e e2 hj hm, k_bs]
  exact h
end CTR
def LC8 (a : Nat) : List (Nat × Cl) := [(4, .inr (8, [.int 0, .int 0, .int 0, .int 0]))]
theorem i_8 {g : Hp} {a : Nat} (hn : hN g) (ha : g.1 = a) : fX8_init (nO g 8 4) a = some (Xh g (LC8 a)) := by
  subst ha
  rw [Xh_dfl hn 8 4 [.int 0, .int 0, .int 0, .int 0] rfl]
  unfold fX8_init
  refine b_sC [.int (0 : Int32), .int 0, .int 0, .int 0] rfl rfl ?_
  refine b_sC [.int (0 : Int32), .int (0 : Int32), .int 0, .int 0] rfl rfl ?_
  refine b_sC [.int (0 : Int32), .int (0 : Int32), .int (0 : Int32), .int 0] rfl rfl ?_
  refine b_sC [.int (0 : Int32), .int (0 : Int32), .int (0 : Int32), .int (0 : Int32)] rfl rfl ?_
  exact congrArg (fun l => some (Xh g l)) rfl
def LC6 (a : Nat) : List (Nat × Cl) := [(6, .inr (6, [.ref (a + 1), .int 0, .int 0, .int 0, .int 0, .int 0])), (0, .inl (1, 0, .inl (fun _ => 0)))]
theorem i_6 {g : Hp} {a : Nat} (hn : hN g) (ha : g.1 = a) : fX6_init (nO g 6 6) a = some (Xh g (LC6 a)) := by
  subst ha
  rw [Xh_dfl hn 6 6 [.null, .int 0, .int 0, .int 0, .int 0, .int 0] rfl]
  unfold fX6_init
  refine b_lt (v := g.1 + 1) rfl ?_
  refine b_nC 1 0 (by decide) ?_
  refine b_sC [.ref (g.1 + 1), .int 0, .int 0, .int 0, .int 0, .int 0] rfl rfl ?_
  refine b_sC [.ref (g.1 + 1), .int (0 : Int32), .int 0, .int 0, .int 0, .int 0] rfl rfl ?_
  refine b_sC [.ref (g.1 + 1), .int (0 : Int32), .int (0 : Int32), .int 0, .int 0, .int 0] rfl rfl ?_
  refine b_sC [.ref (g.1 + 1), .int (0 : Int32), .int (0 : Int32), .int (0 : Int32), .int 0, .int 0] rfl rfl ?_
  refine b_sC [.ref (g.1 + 1), .int (0 : Int32), .int (0 : Int32), .int (0 : Int32), .int (0 : Int32), .int 0] rfl rfl ?_
  refine b_sC [.ref (g.1 + 1), .int (0 : Int32), .int (0 : Int32), .int (0 : Int32), .int (0 : Int32), .int (0 : Int32)] rfl rfl ?_
  exact congrArg (fun l => some (Xh g l)) rfl
def LC4 (a : Nat) : List (Nat × Cl) := [(16, .inr (4, [.ref (a + 1), .ref (a + 3), .int 0, .int 0, .int 0, .int 0, .int (-1), .int 0, .int 0, .int 0, .int 0, .int 0, .int 0, .int (-1), .null, .null])), (6, .inr (6, [.ref (a + 1 + 1), .int 0, .int 0, .int 0, .int 0, .int 0])), (0, .inl (1, 0, .inl (fun _ => 0))), (900, .inl (0, 900, .inl (fun _ => 0)))]
theorem i_4 {g : Hp} {a : Nat} (hn : hN g) (ha : g.1 = a) : fX4_init (nO g 4 16) a = some (Xh g (LC4 a)) := by
  subst ha
  rw [Xh_dfl hn 4 16 [.null, .null, .int 0, .int 0, .int 0, .int 0, .int 0, .int 0, .int 0, .int 0, .int 0, .int 0, .int 0, .int 0, .null, .null] rfl]
  unfold fX4_init
  refine b_lt (v := g.1 + 1) rfl ?_
  refine b_lt rfl ?_
  refine b_uC (i_6 (Xh_hn _ _) rfl) ?_
  refine b_sC [.ref (g.1 + 1), .null, .int 0, .int 0, .int 0, .int 0, .int 0, .int 0, .int 0, .int 0, .int 0, .int 0, .int 0, .int 0, .null, .null] rfl rfl ?_
  refine b_lt (v := g.1 + 3) rfl ?_
  refine b_nC 0 900 (by decide) ?_
  refine b_sC [.ref (g.1 + 1), .ref (g.1 + 3), .int 0, .int 0, .int 0, .int 0, .int 0, .int 0, .int 0, .int 0, .int 0, .int 0, .int 0, .int 0, .null, .null] rfl rfl ?_
  refine b_sC [.ref (g.1 + 1), .ref (g.1 + 3), .int (0 : Int32), .int 0, .int 0, .int 0, .int 0, .int 0, .int 0, .int 0, .int 0, .int 0, .int 0, .int 0, .null, .null] rfl rfl ?_
  refine b_sC [.ref (g.1 + 1), .ref (g.1 + 3), .int (0 : Int32), .int (0 : Int32), .int 0, .int 0, .int 0, .int 0, .int 0, .int 0, .int 0, .int 0, .int 0, .int 0, .null, .null] rfl rfl ?_
  refine b_sC [.ref (g.1 + 1), .ref (g.1 + 3), .int (0 : Int32), .int (0 : Int32), .int (0 : Int32), .int 0, .int 0, .int 0, .int 0, .int 0, .int 0, .int 0, .int 0, .int 0, .null, .null] rfl rfl ?_
  refine b_sC [.ref (g.1 + 1), .ref (g.1 + 3), .int (0 : Int32), .int (0 : Int32), .int (0 : Int32), .int (0 : Int32), .int 0, .int 0, .int 0, .int 0, .int 0, .int 0, .int 0, .int 0, .null, .null] rfl rfl ?_
  refine b_sC [.ref (g.1 + 1), .ref (g.1 + 3), .int (0 : Int32), .int (0 : Int32), .int (0 : Int32), .int (0 : Int32), .int (-1 : Int32), .int 0, .int 0, .int 0, .int 0, .int 0, .int 0, .int 0, .null, .null] rfl rfl ?_
  refine b_sC [.ref (g.1 + 1), .ref (g.1 + 3), .int (0 : Int32), .int (0 : Int32), .int (0 : Int32), .int (0 : Int32), .int (-1 : Int32), .int (0 : Int32), .int 0, .int 0, .int 0, .int 0, .int 0, .int 0, .null, .null] rfl rfl ?_
  refine b_sC [.ref (g.1 + 1), .ref (g.1 + 3), .int (0 : Int32), .int (0 : Int32), .int (0 : Int32), .int (0 : Int32), .int (-1 : Int32), .int (0 : Int32), .int (0 : Int32), .int 0, .int 0, .int 0, .int 0, .int 0, .null, .null] rfl rfl ?_
  refine b_sC [.ref (g.1 + 1), .ref (g.1 + 3), .int (0 : Int32), .int (0 : Int32), .int (0 : Int32), .int (0 : Int32), .int (-1 : Int32), .int (0 : Int32), .int (0 : Int32), .int (0 : Int32), .int 0, .int 0, .int 0, .int 0, .null, .null] rfl rfl ?_
  refine b_sC [.ref (g.1 + 1), .ref (g.1 + 3), .int (0 : Int32), .int (0 : Int32), .int (0 : Int32), .int (0 : Int32), .int (-1 : Int32), .int (0 : Int32), .int (0 : Int32), .int (0 : Int32), .int (0 : Int32), .int 0, .int 0, .int 0, .null, .null] rfl rfl ?_
  refine b_sC [.ref (g.1 + 1), .ref (g.1 + 3), .int (0 : Int32), .int (0 : Int32), .int (0 : Int32), .int (0 : Int32), .int (-1 : Int32), .int (0 : Int32), .int (0 : Int32), .int (0 : Int32), .int (0 : Int32), .int (0 : Int32), .int 0, .int 0, .null, .null] rfl rfl ?_
  refine b_sC [.ref (g.1 + 1), .ref (g.1 + 3), .int (0 : Int32), .int (0 : Int32), .int (0 : Int32), .int (0 : Int32), .int (-1 : Int32), .int (0 : Int32), .int (0 : Int32), .int (0 : Int32), .int (0 : Int32), .int (0 : Int32), .int (0 : Int32), .int 0, .null, .null] rfl rfl ?_
  refine b_sC [.ref (g.1 + 1), .ref (g.1 + 3), .int (0 : Int32), .int (0 : Int32), .int (0 : Int32), .int (0 : Int32), .int (-1 : Int32), .int (0 : Int32), .int (0 : Int32), .int (0 : Int32), .int (0 : Int32), .int (0 : Int32), .int (0 : Int32), .int (-1 : Int32), .null, .null] rfl rfl ?_
  refine b_sC [.ref (g.1 + 1), .ref (g.1 + 3), .int (0 : Int32), .int (0 : Int32), .int (0 : Int32), .int (0 : Int32), .int (-1 : Int32), .int (0 : Int32), .int (0 : Int32), .int (0 : Int32), .int (0 : Int32), .int (0 : Int32), .int (0 : Int32), .int (-1 : Int32), .null, .null] rfl rfl ?_
  refine b_sC [.ref (g.1 + 1), .ref (g.1 + 3), .int (0 : Int32), .int (0 : Int32), .int (0 : Int32), .int (0 : Int32), .int (-1 : Int32), .int (0 : Int32), .int (0 : Int32), .int (0 : Int32), .int (0 : Int32), .int (0 : Int32), .int (0 : Int32), .int (-1 : Int32), .null, .null] rfl rfl ?_
  exact congrArg (fun l => some (Xh g l)) rfl
def LC9 (a : Nat) : List (Nat × Cl) := [(4, .inr (9, [.ref (a + 1), .int 0, .int 1, .int 0])), (40, .inl (2, 40, .inr (.inl (fun _ => 0))))]
theorem i_9 {g : Hp} {a : Nat} (hn : hN g) (ha : g.1 = a) : fX9_init (nO g 9 4) a = some (Xh g (LC9 a)) := by
  subst ha
  rw [Xh_dfl hn 9 4 [.null, .int 0, .int 0, .int 0] rfl]
  unfold fX9_init
  refine b_lt (v := g.1 + 1) rfl ?_
  refine b_nC 2 40 (by decide) ?_
  refine b_sC [.ref (g.1 + 1), .int 0, .int 0, .int 0] rfl rfl ?_
  refine b_sC [.ref (g.1 + 1), .int (0 : Int32), .int 0, .int 0] rfl rfl ?_
  refine b_sC [.ref (g.1 + 1), .int (0 : Int32), .int (1 : Int32), .int 0] rfl rfl ?_
  refine b_sC [.ref (g.1 + 1), .int (0 : Int32), .int (1 : Int32), .int (0 : Int32)] rfl rfl ?_
  exact congrArg (fun l => some (Xh g l)) rfl
def LC1 (a : Nat) (b : Nat) : List (Nat × Cl) := [(7, .inr (1, [.ref (a + 1), .ref (a + 2), .ref (a + 3), .ref (a + 4), .ref (a + 5), .ref b, .int 0])), (8, .inl (0, 8, .inl (fun _ => 0))), (64, .inl (0, 64, .inl (fun _ => 0))), (2000, .inl (1, 2000, .inl (fun _ => 0))), (20000, .inl (1, 20000, .inl (fun _ => 0))), (20, .inl (0, 20, .inl (fun _ => 0)))]
theorem i_1 {g : Hp} {a : Nat} {b : Nat} (hn : hN g) (ha : g.1 = a) : fX1_init (nO g 1 7) a b = some (Xh g (LC1 a b)) := by
  subst ha
  rw [Xh_dfl hn 1 7 [.null, .null, .null, .null, .null, .null, .int 0] rfl]
  unfold fX1_init
  refine b_lt (v := g.1 + 1) rfl ?_
  refine b_nC 0 8 (by decide) ?_
  refine b_sC [.ref (g.1 + 1), .null, .null, .null, .null, .null, .int 0] rfl rfl ?_
  refine b_lt (v := g.1 + 2) rfl ?_
  refine b_nC 0 64 (by decide) ?_
  refine b_sC [.ref (g.1 + 1), .ref (g.1 + 2), .null, .null, .null, .null, .int 0] rfl rfl ?_
  refine b_lt (v := g.1 + 3) rfl ?_
  refine b_nC 1 2000 (by decide) ?_
  refine b_sC [.ref (g.1 + 1), .ref (g.1 + 2), .ref (g.1 + 3), .null, .null, .null, .int 0] rfl rfl ?_
  refine b_lt (v := g.1 + 4) rfl ?_
  refine b_nC 1 20000 (by decide) ?_
  refine b_sC [.ref (g.1 + 1), .ref (g.1 + 2), .ref (g.1 + 3), .ref (g.1 + 4), .null, .null, .int 0] rfl rfl ?_
  refine b_lt (v := g.1 + 5) rfl ?_
  refine b_nC 0 20 (by decide) ?_
  refine b_sC [.ref (g.1 + 1), .ref (g.1 + 2), .ref (g.1 + 3), .ref (g.1 + 4), .ref (g.1 + 5), .null, .int 0] rfl rfl ?_
  refine b_sC [.ref (g.1 + 1), .ref (g.1 + 2), .ref (g.1 + 3), .ref (g.1 + 4), .ref (g.1 + 5), .null, .int (0 : Int32)] rfl rfl ?_
  refine b_sC [.ref (g.1 + 1), .ref (g.1 + 2), .ref (g.1 + 3), .ref (g.1 + 4), .ref (g.1 + 5), .ref (b), .int (0 : Int32)] rfl rfl ?_
  exact congrArg (fun l => some (Xh g l)) rfl
def LC10 (a : Nat) (b : Nat) : List (Nat × Cl) := [(7, .inr (10, [.ref b, .int 0, .int 0, .int 0, .int 0, .int 0, .int 1]))]
theorem i_10 {g : Hp} {a : Nat} {b : Nat} (hn : hN g) (ha : g.1 = a) : fX10_init (nO g 10 7) a b = some (Xh g (LC10 a b)) := by
  subst ha
  rw [Xh_dfl hn 10 7 [.null, .int 0, .int 0, .int 0, .int 0, .int 0, .int 0] rfl]
  unfold fX10_init
  refine b_sC [.null, .int (0 : Int32), .int 0, .int 0, .int 0, .int 0, .int 0] rfl rfl ?_
  refine b_sC [.null, .int (0 : Int32), .int (0 : Int32), .int 0, .int 0, .int 0, .int 0] rfl rfl ?_
  refine b_sC [.null, .int (0 : Int32), .int (0 : Int32), .int (0 : Int32), .int 0, .int 0, .int 0] rfl rfl ?_
  refine b_sC [.null, .int (0 : Int32), .int (0 : Int32), .int (0 : Int32), .int (0 : Int32), .int 0, .int 0] rfl rfl ?_
  refine b_sC [.null, .int (0 : Int32), .int (0 : Int32), .int (0 : Int32), .int (0 : Int32), .int (0 : Int32), .int 0] rfl rfl ?_
  refine b_sC [.null, .int (0 : Int32), .int (0 : Int32), .int (0 : Int32), .int (0 : Int32), .int (0 : Int32), .int (1 : Int32)] rfl rfl ?_
  refine b_sC [.ref (b), .int (0 : Int32), .int (0 : Int32), .int (0 : Int32), .int (0 : Int32), .int (0 : Int32), .int (1 : Int32)] rfl rfl ?_
  exact congrArg (fun l => some (Xh g l)) rfl
def LC2 (a : Nat) (b : Nat) : List (Nat × Cl) := [(12, .inr (2, [.ref b, .int 0, .int 0, .int 0, .int 0, .int 0, .int 0, .int 0, .long 0, .long 0, .long 0, .long 0]))]
theorem i_2 {g : Hp} {a : Nat} {b : Nat} (hn : hN g) (ha : g.1 = a) : fX2_init (nO g 2 12) a b = some (Xh g (LC2 a b)) := by
  subst ha
  rw [Xh_dfl hn 2 12 [.null, .int 0, .int 0, .int 0, .int 0, .int 0, .int 0, .int 0, .long 0, .long 0, .long 0, .long 0] rfl]
  unfold fX2_init
  refine b_sC [.null, .int (0 : Int32), .int 0, .int 0, .int 0, .int 0, .int 0, .int 0, .long 0, .long 0, .long 0, .long 0] rfl rfl ?_
  refine b_sC [.null, .int (0 : Int32), .int (0 : Int32), .int 0, .int 0, .int 0, .int 0, .int 0, .long 0, .long 0, .long 0, .long 0] rfl rfl ?_
  refine b_sC [.null, .int (0 : Int32), .int (0 : Int32), .int (0 : Int32), .int 0, .int 0, .int 0, .int 0, .long 0, .long 0, .long 0, .long 0] rfl rfl ?_
  refine b_sC [.null, .int (0 : Int32), .int (0 : Int32), .int (0 : Int32), .int (0 : Int32), .int 0, .int 0, .int 0, .long 0, .long 0, .long 0, .long 0] rfl rfl ?_
  refine b_sC [.null, .int (0 : Int32), .int (0 : Int32), .int (0 : Int32), .int (0 : Int32), .int (0 : Int32), .int 0, .int 0, .long 0, .long 0, .long 0, .long 0] rfl rfl ?_
  refine b_sC [.null, .int (0 : Int32), .int (0 : Int32), .int (0 : Int32), .int (0 : Int32), .int (0 : Int32), .int (0 : Int32), .int 0, .long 0, .long 0, .long 0, .long 0] rfl rfl ?_
  refine b_sC [.null, .int (0 : Int32), .int (0 : Int32), .int (0 : Int32), .int (0 : Int32), .int (0 : Int32), .int (0 : Int32), .int (0 : Int32), .long 0, .long 0, .long 0, .long 0] rfl rfl ?_
  refine b_sC [.null, .int (0 : Int32), .int (0 : Int32), .int (0 : Int32), .int (0 : Int32), .int (0 : Int32), .int (0 : Int32), .int (0 : Int32), .long (0 : Int64), .long 0, .long 0, .long 0] rfl rfl ?_
  refine b_sC [.null, .int (0 : Int32), .int (0 : Int32), .int (0 : Int32), .int (0 : Int32), .int (0 : Int32), .int (0 : Int32), .int (0 : Int32), .long (0 : Int64), .long (0 : Int64), .long 0, .long 0] rfl rfl ?_
  refine b_sC [.null, .int (0 : Int32), .int (0 : Int32), .int (0 : Int32), .int (0 : Int32), .int (0 : Int32), .int (0 : Int32), .int (0 : Int32), .long (0 : Int64), .long (0 : Int64), .long (0 : Int64), .long 0] rfl rfl ?_
  refine b_sC [.null, .int (0 : Int32), .int (0 : Int32), .int (0 : Int32), .int (0 : Int32), .int (0 : Int32), .int (0 : Int32), .int (0 : Int32), .long (0 : Int64), .long (0 : Int64), .long (0 : Int64), .long (0 : Int64)] rfl rfl ?_
  refine b_sC [.ref (b), .int (0 : Int32), .int (0 : Int32), .int (0 : Int32), .int (0 : Int32), .int (0 : Int32), .int (0 : Int32), .int (0 : Int32), .long (0 : Int64), .long (0 : Int64), .long (0 : Int64), .long (0 : Int64)] rfl rfl ?_
  exact congrArg (fun l => some (Xh g l)) rfl
def LC7 (a : Nat) (b d : Nat) : List (Nat × Cl) := [(17, .inr (7, [.ref b, .ref d, .int 0, .ref (a + 1), .int 0, .ref (a + 2), .ref (a + 3), .ref (a + 4), .ref (a + 5), .ref (a + 6), .ref (a + 7), .ref (a + 8), .int 0, .int 0, .int 0, .int 0, .int (-1)])), (20000, .inl (0, 20000, .inl (fun _ => 0))), (20000, .inl (0, 20000, .inl (fun _ => 0))), (20000, .inl (0, 20000, .inl (fun _ => 0))), (20000, .inl (0, 20000, .inl (fun _ => 0))), (20000, .inl (2, 20000, .inr (.inl (fun _ => 0)))), (35, .inl (0, 35, .inl (fun _ => 0))), (35, .inl (0, 35, .inl (fun _ => 0))), (10, .inl (0, 10, .inl (fun _ => 0)))]
theorem i_7 {g : Hp} {a : Nat} {b d : Nat} (hn : hN g) (ha : g.1 = a) : fX7_init (nO g 7 17) a b d = some (Xh g (LC7 a b d)) := by
  subst ha
  rw [Xh_dfl hn 7 17 [.null, .null, .int 0, .null, .int 0, .null, .null, .null, .null, .null, .null, .null, .int 0, .int 0, .int 0, .int 0, .int 0] rfl]
  unfold fX7_init
  refine b_sC [.null, .null, .int (0 : Int32), .null, .int 0, .null, .null, .null, .null, .null, .null, .null, .int 0, .int 0, .int 0, .int 0, .int 0] rfl rfl ?_
  refine b_lt (v := g.1 + 1) rfl ?_
  refine b_nC 0 20000 (by decide) ?_
  refine b_sC [.null, .null, .int (0 : Int32), .ref (g.1 + 1), .int 0, .null, .null, .null, .null, .null, .null, .null, .int 0, .int 0, .int 0, .int 0, .int 0] rfl rfl ?_
  refine b_sC [.null, .null, .int (0 : Int32), .ref (g.1 + 1), .int (0 : Int32), .null, .null, .null, .null, .null, .null, .null, .int 0, .int 0, .int 0, .int 0, .int 0] rfl rfl ?_
  refine b_lt (v := g.1 + 2) rfl ?_
  refine b_nC 0 20000 (by decide) ?_
  refine b_sC [.null, .null, .int (0 : Int32), .ref (g.1 + 1), .int (0 : Int32), .ref (g.1 + 2), .null, .null, .null, .null, .null, .null, .int 0, .int 0, .int 0, .int 0, .int 0] rfl rfl ?_
  refine b_lt (v := g.1 + 3) rfl ?_
  refine b_nC 0 20000 (by decide) ?_
  refine b_sC [.null, .null, .int (0 : Int32), .ref (g.1 + 1), .int (0 : Int32), .ref (g.1 + 2), .ref (g.1 + 3), .null, .null, .null, .null, .null, .int 0, .int 0, .int 0, .int 0, .int 0] rfl rfl ?_
  refine b_lt (v := g.1 + 4) rfl ?_
  refine b_nC 0 20000 (by decide) ?_
  refine b_sC [.null, .null, .int (0 : Int32), .ref (g.1 + 1), .int (0 : Int32), .ref (g.1 + 2), .ref (g.1 + 3), .ref (g.1 + 4), .null, .null, .null, .null, .int 0, .int 0, .int 0, .int 0, .int 0] rfl rfl ?_
  refine b_lt (v := g.1 + 5) rfl ?_
  refine b_nC 2 20000 (by decide) ?_
  refine b_sC [.null, .null, .int (0 : Int32), .ref (g.1 + 1), .int (0 : Int32), .ref (g.1 + 2), .ref (g.1 + 3), .ref (g.1 + 4), .ref (g.1 + 5), .null, .null, .null, .int 0, .int 0, .int 0, .int 0, .int 0] rfl rfl ?_
  refine b_lt (v := g.1 + 6) rfl ?_
  refine b_nC 0 35 (by decide) ?_
  refine b_sC [.null, .null, .int (0 : Int32), .ref (g.1 + 1), .int (0 : Int32), .ref (g.1 + 2), .ref (g.1 + 3), .ref (g.1 + 4), .ref (g.1 + 5), .ref (g.1 + 6), .null, .null, .int 0, .int 0, .int 0, .int 0, .int 0] rfl rfl ?_
  refine b_lt (v := g.1 + 7) rfl ?_
  refine b_nC 0 35 (by decide) ?_
  refine b_sC [.null, .null, .int (0 : Int32), .ref (g.1 + 1), .int (0 : Int32), .ref (g.1 + 2), .ref (g.1 + 3), .ref (g.1 + 4), .ref (g.1 + 5), .ref (g.1 + 6), .ref (g.1 + 7), .null, .int 0, .int 0, .int 0, .int 0, .int 0] rfl rfl ?_
  refine b_lt (v := g.1 + 8) rfl ?_
  refine b_nC 0 10 (by decide) ?_
  refine b_sC [.null, .null, .int (0 : Int32), .ref (g.1 + 1), .int (0 : Int32), .ref (g.1 + 2), .ref (g.1 + 3), .ref (g.1 + 4), .ref (g.1 + 5), .ref (g.1 + 6), .ref (g.1 + 7), .ref (g.1 + 8), .int 0, .int 0, .int 0, .int 0, .int 0] rfl rfl ?_
  refine b_sC [.null, .null, .int (0 : Int32), .ref (g.1 + 1), .int (0 : Int32), .ref (g.1 + 2), .ref (g.1 + 3), .ref (g.1 + 4), .ref (g.1 + 5), .ref (g.1 + 6), .ref (g.1 + 7), .ref (g.1 + 8), .int (0 : Int32), .int 0, .int 0, .int 0, .int 0] rfl rfl ?_
  refine b_sC [.null, .null, .int (0 : Int32), .ref (g.1 + 1), .int (0 : Int32), .ref (g.1 + 2), .ref (g.1 + 3), .ref (g.1 + 4), .ref (g.1 + 5), .ref (g.1 + 6), .ref (g.1 + 7), .ref (g.1 + 8), .int (0 : Int32), .int (0 : Int32), .int 0, .int 0, .int 0] rfl rfl ?_
  refine b_sC [.null, .null, .int (0 : Int32), .ref (g.1 + 1), .int (0 : Int32), .ref (g.1 + 2), .ref (g.1 + 3), .ref (g.1 + 4), .ref (g.1 + 5), .ref (g.1 + 6), .ref (g.1 + 7), .ref (g.1 + 8), .int (0 : Int32), .int (0 : Int32), .int (0 : Int32), .int 0, .int 0] rfl rfl ?_
  refine b_sC [.null, .null, .int (0 : Int32), .ref (g.1 + 1), .int (0 : Int32), .ref (g.1 + 2), .ref (g.1 + 3), .ref (g.1 + 4), .ref (g.1 + 5), .ref (g.1 + 6), .ref (g.1 + 7), .ref (g.1 + 8), .int (0 : Int32), .int (0 : Int32), .int (0 : Int32), .int (0 : Int32), .int 0] rfl rfl ?_
  refine b_sC [.null, .null, .int (0 : Int32), .ref (g.1 + 1), .int (0 : Int32), .ref (g.1 + 2), .ref (g.1 + 3), .ref (g.1 + 4), .ref (g.1 + 5), .ref (g.1 + 6), .ref (g.1 + 7), .ref (g.1 + 8), .int (0 : Int32), .int (0 : Int32), .int (0 : Int32), .int (0 : Int32), .int (-1 : Int32)] rfl rfl ?_
  refine b_sC [.ref (b), .null, .int (0 : Int32), .ref (g.1 + 1), .int (0 : Int32), .ref (g.1 + 2), .ref (g.1 + 3), .ref (g.1 + 4), .ref (g.1 + 5), .ref (g.1 + 6), .ref (g.1 + 7), .ref (g.1 + 8), .int (0 : Int32), .int (0 : Int32), .int (0 : Int32), .int (0 : Int32), .int (-1 : Int32)] rfl rfl ?_
  refine b_sC [.ref (b), .ref (d), .int (0 : Int32), .ref (g.1 + 1), .int (0 : Int32), .ref (g.1 + 2), .ref (g.1 + 3), .ref (g.1 + 4), .ref (g.1 + 5), .ref (g.1 + 6), .ref (g.1 + 7), .ref (g.1 + 8), .int (0 : Int32), .int (0 : Int32), .int (0 : Int32), .int (0 : Int32), .int (-1 : Int32)] rfl rfl ?_
  exact congrArg (fun l => some (Xh g l)) rfl
def L5s (a k : Nat) : List (Nat × Cl) := (3, .inr (5, [.ref (a + 1), .int 0, .int 0])) :: (10, .inl (4, 10, .inr (.inr (.inr (.inr (fun i => if i < k then some (a + 2 + i) else none)))))) :: List.replicate k (4, .inr (8, [.int 0, .int 0, .int 0, .int 0]))
theorem L5_up (a k : Nat) : va_up (fun i => if i < k then some (a + 2 + i) else none) k (some (a + 2 + k)) = fun i => if i < k + 1 then some (a + 2 + i) else none := by
  funext i
  show (if i = k then some (a + 2 + k) else if i < k then some (a + 2 + i) else none) = _
  by_cases z : i = k
  · rw [if_pos z, if_pos (by omega), z]
  · rw [if_neg z]
    by_cases q : i < k
    · rw [if_pos q, if_pos (by omega)]
    · rw [if_neg q, if_neg (by omega)]
theorem L5_st {g : Hp} {k : Nat} (hk : k < 10) : fX5_init_25b (Xh g (L5s g.1 k)) g.1 (nI k) = some (.inl (nI (k + 1), Xh g (L5s g.1 (k + 1)))) := by
  unfold fX5_init_25b
  have cz : ¬ (10 : Int32) ≤ nI k := by
    show ¬ nI 10 ≤ nI k
    rw [nI_leI (by omega) (by omega)]
    omega
  rw [if_neg cz]
  unfold L5s
  refine b_gC (g.1 + 1) rfl rfl ?_
  refine b_lt (v := g.1 + 2 + k) (by show g.1 + (List.length (List.replicate k _) + 1 + 1) = _; rw [List.length_replicate]; omega) ?_
  refine b_lt rfl ?_
  refine b_uC (i_8 (Xh_hn _ _) (by show g.1 + (List.length (List.replicate k _) + 1 + 1) = _; rw [List.length_replicate]; omega)) ?_
  refine b_wR 0 (k + 1) k rfl (by omega) rfl (n2 := 4) (fs := [.int 0, .int 0, .int 0, .int 0]) ?_ hk (by decide) ?_
  · show (List.replicate k _ ++ LC8 _)[k]? = _
    rw [List.getElem?_append_right (by rw [List.length_replicate]; exact Nat.le_refl k), List.length_replicate, Nat.sub_self]
    rfl
  · rw [L5_up, show nI k + Int32.ofInt 1 = nI (k + 1) by rw [show Int32.ofInt 1 = nI 1 from rfl, nI_add], List.replicate_succ']
    rfl
theorem i_5 {g : Hp} {a : Nat} (hn : hN g) (ha : g.1 = a) : fX5_init (nO g 5 3) a = some (Xh g (L5s a 10)) := by
  subst ha
  rw [Xh_dfl hn 5 3 [.null, .int 0, .int 0] rfl]
  unfold fX5_init
  refine b_lt (v := g.1 + 1) rfl ?_
  refine b_nC 4 10 (by decide) ?_
  refine b_sC [.ref (g.1 + 1), .int 0, .int 0] rfl rfl ?_
  refine b_sC [.ref (g.1 + 1), .int (0 : Int32), .int 0] rfl rfl ?_
  refine b_sC [.ref (g.1 + 1), .int (0 : Int32), .int (0 : Int32)] rfl rfl ?_
  have run : ∀ d k, k + d = 10 → fX5_init_25 (Xh g (L5s g.1 k)) g.1 (nI k) = some (Xh g (L5s g.1 10)) := by
    intro d
    induction d with
    | zero =>
      intro k hk
      have ek : k = 10 := by omega
      subst ek
      have eb : fX5_init_25b (Xh g (L5s g.1 10)) g.1 (nI 10) = some (.inr (Xh g (L5s g.1 10))) := by
        unfold fX5_init_25b
        exact if_pos (by decide)
      unfold fX5_init_25
      exact lpw_r eb
    | succ d ih =>
      intro k hk
      rw [← ih (k + 1) (by omega)]
      unfold fX5_init_25
      exact lpw_l (L5_st (by omega))
  refine Eq.trans ?_ (run 10 0 rfl)
  refine congrArg (fun f => fX5_init_25 (Xh g ((3, .inr (5, [.ref (g.1 + 1), .int 0, .int 0])) :: [(10, .inl (4, 10, .inr (.inr (.inr (.inr f)))))])) g.1 (nI 0)) ?_
  funext i
  exact (if_neg (Nat.not_lt_zero i)).symm
theorem K4_X {g : Hp} (hn : hN g) (n1 n2 n3 n4 : Nat) (x1 x2 x3 x4 : Cl) : K4 g 4 (n1 + n2 + n3 + n4) (some x1) (some x2) (some x3) (some x4) = Xh g [(n1, x1), (n2, x2), (n3, x3), (n4, x4)] := by
  refine Prod.ext rfl (Prod.ext ?_ ?_)
  · show g.2.1 + (n1 + n2 + n3 + n4) = g.2.1 + (n1 + (n2 + (n3 + (n4 + 0))))
    omega
  · funext j
    show (if j = g.1 then some x1 else if j = g.1 + 1 then some x2 else if j = g.1 + 2 then some x3 else if j = g.1 + 3 then some x4 else g.2.2 j) = (if j < g.1 then g.2.2 j else ([(n1, x1), (n2, x2), (n3, x3), (n4, x4)][j - g.1]?).map Prod.snd)
    by_cases z : j < g.1
    · rw [if_pos z, if_neg (by omega), if_neg (by omega), if_neg (by omega), if_neg (by omega)]
    · rw [if_neg z]
      obtain ⟨i, rfl⟩ : ∃ i, j = g.1 + i := ⟨j - g.1, by omega⟩
      rw [Nat.add_sub_cancel_left]
      match i with
      | 0 => exact if_pos rfl
      | 1 => exact (if_neg (by omega)).trans (if_pos rfl)
      | 2 => exact (if_neg (by omega)).trans ((if_neg (by omega)).trans (if_pos rfl))
      | 3 => exact (if_neg (by omega)).trans ((if_neg (by omega)).trans ((if_neg (by omega)).trans (if_pos rfl)))
      | k + 4 =>
        rw [if_neg (by omega), if_neg (by omega), if_neg (by omega), if_neg (by omega), hn _ (by omega), List.getElem?_eq_none (by show 4 ≤ k + 4; omega)]
        rfl
