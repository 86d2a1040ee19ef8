/-! references that are there; the two tables; calls by their answers -/
def gN (h : Hp) (ci a k : Nat) : Option Nat := match gV h ci a k with
  | some (.ref v) => some v
  | _ => none
def aN (h : Hp) (a : Nat) (i : Int32) : Option Nat := match aR h a i with
  | some (some v) => some v
  | _ => none
def lt {α β : Type} (a : α) (f : α → Option β) : Option β := f a
def tabv (j : Nat) (i : Nat) : Int32 := if j = 1 then ([1, 10, 100, 1000] : List Int32).getD i 0 else ([1, 5, 25, 125] : List Int32).getD i 0
def tT (j : Nat) (i : Int32) : Option Int32 := if inB i 4 = true then some (tabv j i.toNatClampNeg) else none
theorem lt_at {α β : Type} {a : α} {f : α → Option β} {y : β} (h : lt a f = some y) : ∃ v, v = a ∧ f v = some y := ⟨a, rfl, h⟩
section OPQ
variable {d : Nat} {M : Mt} {pc : Nat} {L : List (Option Value)} {st stk : List Value} {h h' : Hp} {r : Option Value}
theorem go_at (n : Nat) (e : pc = n) (kk : Go d M n L st h r h') : Go d M pc L st h r h' := by rw [e]; exact kk
theorem go_gN {idx ci a k v : Nat} (fl : FL M.1.cls idx ci k) (hv : gN h ci a k = some v) (hd : decode M.2.1 pc = .ok (.getfield idx, 3)) (kk : Go d M (pc + 3) L (.ref v :: st) h r h') : Go d M pc L (.ref a :: st) h r h' := by
  unfold gN at hv
  split at hv
  · rename_i w hw
    cases hv
    exact go_gV fl hw hd kk
  · cases hv
theorem go_aN {a v : Nat} {i : Int32} (hv : aN h a i = some v) (hd : decode M.2.1 pc = .ok (.aaload, 1)) (kk : Go d M (pc + 1) L (.ref v :: st) h r h') : Go d M pc L (.int i :: .ref a :: st) h r h' := by
  unfold aN at hv
  split at hv
  · rename_i w hw
    cases hv
    exact go_aR hw hd kk
  · cases hv
theorem go_V1 {M1 : Mt} {d1 index : Nat} {As : List Value} {h1 : Hp} {v : Value} {b ci : Nat} {q : vw_C} (hb0 : ∃ fs, h.2.2 b = some (.inr (ci, fs))) (hc : cls[ci]? = some q) (hcn : q.1 = M1.1.cls) (hcall : Call d1 M1 (.ref b :: As) h (some v) h1) (hdd : d1 + 1 ≤ d) (hm : MB M1 As.length) (hlk : Wg (.methodLink M.1.cls index M1.1)) (hin : Wg (.instanceMethod M1.1) ∧ Wg (.selects M1.1.cls M1.1 M1.1)) (hst : (st.map fun v => v.category).sum ≤ 8) (hstk : As.reverse ++ .ref b :: st = stk) (hd : decode M.2.1 pc = .ok (.invokevirtual index, 3))
    (kk : Go d M (pc + 3) L (v :: st) h1 r h') : Go d M pc L stk h r h' := by
  obtain ⟨fs, hb1⟩ := hb0
  subst hstk
  exact go_invV hb1 hc hcn hcall hdd hm hlk hin.1 hin.2 hst hd kk
theorem go_V0 {M1 : Mt} {d1 index : Nat} {As : List Value} {h1 : Hp} {b ci : Nat} {q : vw_C} (hb0 : ∃ fs, h.2.2 b = some (.inr (ci, fs))) (hc : cls[ci]? = some q) (hcn : q.1 = M1.1.cls) (hcall : Call d1 M1 (.ref b :: As) h none h1) (hdd : d1 + 1 ≤ d) (hm : MB M1 As.length) (hlk : Wg (.methodLink M.1.cls index M1.1)) (hin : Wg (.instanceMethod M1.1) ∧ Wg (.selects M1.1.cls M1.1 M1.1)) (hst : (st.map fun v => v.category).sum ≤ 8) (hstk : As.reverse ++ .ref b :: st = stk) (hd : decode M.2.1 pc = .ok (.invokevirtual index, 3))
    (kk : Go d M (pc + 3) L st h1 r h') : Go d M pc L stk h r h' := by
  obtain ⟨fs, hb1⟩ := hb0
  subst hstk
  exact go_invV hb1 hc hcn hcall hdd hm hlk hin.1 hin.2 hst hd kk
theorem go_S1 {M1 : Mt} {d1 index : Nat} {As : List Value} {h1 : Hp} {v : Value} (hcall : Call d1 M1 As h (some v) h1) (hdd : d1 + 1 ≤ d) (hm : MB M1 As.length) (hlk : Wg (.methodLink M.1.cls index M1.1)) (hsa : Wg (.static M1.1)) (hst : (st.map fun v => v.category).sum ≤ 8) (hstk : As.reverse ++ st = stk) (hd : decode M.2.1 pc = .ok (.invokestatic index, 3))
    (kk : Go d M (pc + 3) L (v :: st) h1 r h') : Go d M pc L stk h r h' := by
  subst hstk
  exact go_invS hcall hdd hm hlk hsa hst hd kk
theorem go_S0 {M1 : Mt} {d1 index : Nat} {As : List Value} {h1 : Hp} (hcall : Call d1 M1 As h none h1) (hdd : d1 + 1 ≤ d) (hm : MB M1 As.length) (hlk : Wg (.methodLink M.1.cls index M1.1)) (hsa : Wg (.static M1.1)) (hst : (st.map fun v => v.category).sum ≤ 8) (hstk : As.reverse ++ st = stk) (hd : decode M.2.1 pc = .ok (.invokestatic index, 3))
    (kk : Go d M (pc + 3) L st h1 r h') : Go d M pc L stk h r h' := by
  subst hstk
  exact go_invS hcall hdd hm hlk hsa hst hd kk
theorem go_SN1 {M1 : Mt} {d1 index : Nat} {As : List Value} {h1 : Hp} {v : Value} {host : String} (hcall : Call d1 M1 As h (some v) h1) (hdd : d1 + 1 ≤ d) (hm : MB M1 As.length) (hlk : Cond.methodLinkNest M.1.cls index M1.1 host ∈ lw_tbl) (hsa : Wg (.static M1.1)) (hst : (st.map fun v => v.category).sum ≤ 8) (hstk : As.reverse ++ st = stk) (hd : decode M.2.1 pc = .ok (.invokestatic index, 3))
    (kk : Go d M (pc + 3) L (v :: st) h1 r h') : Go d M pc L stk h r h' := by
  subst hstk
  exact go_invSN hcall hdd hm hlk hsa hst hd kk
theorem go_I0 {M1 : Mt} {d1 index b : Nat} {As : List Value} {h1 : Hp} (hret : M1.2.2.2 = none) (hnm1 : M1.1.name = "<init>") (hcall : Call d1 M1 (.ref b :: As) h none h1) (hdd : d1 + 1 ≤ d) (hm : MB M1 As.length) (hlk : Wg (.methodLink M.1.cls index M1.1)) (hin : Wg (.instanceMethod M1.1)) (hst : (st.map fun v => v.category).sum ≤ 8) (hstk : As.reverse ++ .ref b :: st = stk) (hd : decode M.2.1 pc = .ok (.invokespecial index, 3))
    (kk : Go d M (pc + 3) L st h1 r h') : Go d M pc L stk h r h' := by
  subst hstk
  exact go_invI hret hnm1 hcall hdd hm hlk hin hst hd kk
theorem go_IN0 {M1 : Mt} {d1 index b : Nat} {As : List Value} {h1 : Hp} {host : String} (hret : M1.2.2.2 = none) (hnm1 : M1.1.name = "<init>") (hcall : Call d1 M1 (.ref b :: As) h none h1) (hdd : d1 + 1 ≤ d) (hm : MB M1 As.length) (hlk : Cond.methodLinkNest M.1.cls index M1.1 host ∈ lw_tbl) (hin : Wg (.instanceMethod M1.1)) (hst : (st.map fun v => v.category).sum ≤ 8) (hstk : As.reverse ++ .ref b :: st = stk) (hd : decode M.2.1 pc = .ok (.invokespecial index, 3))
    (kk : Go d M (pc + 3) L st h1 r h') : Go d M pc L stk h r h' := by
  subst hstk
  exact go_invIN hret hnm1 hcall hdd hm hlk hin hst hd kk
end OPQ
/-- a value that is none of lo .. hi lies outside of the table -/
theorem tab_out {x : Int32} (lo hi : Int) (n : Nat) (hn : hi = lo + n) (hl : -2147483648 ≤ lo) (hh : hi < 2147483648) (h : ∀ i : Nat, i ≤ n → ¬ x = Int32.ofInt (lo + (i : Int))) : x.toInt < lo ∨ hi < x.toInt := by
  rcases Int.lt_or_le x.toInt lo with q | q
  · exact Or.inl q
  · rcases Int.lt_or_le hi x.toInt with z | z
    · exact Or.inr z
    · exfalso
      refine h (x.toInt - lo).toNat (by omega) ?_
      apply Int32.toInt_inj.mp
      rw [Int32.toInt_ofInt_of_le (by simp; omega) (by simp; omega)]
      omega
/-! the two tables that were there before the law -/
theorem oldA (s0 : State) : ∀ a : Nat, a < s0.heap.size → ¬ (fun q : Nat => s0.heap.size ≤ q) a := fun a h q => by
  have : s0.heap.size ≤ a := q
  omega
theorem Wd.tens {s0 : State} {D : va_G} {ol : Nat → Nat} {N : Nat} {xs : Nat → Int32} (hw : Wd s0 D ol N xs) : va_T .int (ol 1) 4 (fun j => .int (tabv 1 j)) (fun q => s0.heap.size ≤ q) s0 s0.heap := by
  have hs := flat_of_before _ hw.2.2.1
  obtain ⟨t, ht, hT⟩ := va_Tof (tm := .static "StoneMeet" "TENS" "[I") (ty := .int) (N := 4) (f := fun j => .int (tabv 1 j)) (A := fun q => s0.heap.size ≤ q) (by decide) (hs _ (by decide +kernel)) (va_eqt (hs _ (by decide +kernel))) (fun j hj => by
    match j, hj with
    | 0, _ => exact va_eqt (hs (.eq (.elem (.static "StoneMeet" "TENS" "[I") (.int 0)) (.int 1)) (by decide +kernel))
    | 1, _ => exact va_eqt (hs (.eq (.elem (.static "StoneMeet" "TENS" "[I") (.int 1)) (.int 10)) (by decide +kernel))
    | 2, _ => exact va_eqt (hs (.eq (.elem (.static "StoneMeet" "TENS" "[I") (.int 2)) (.int 100)) (by decide +kernel))
    | 3, _ => exact va_eqt (hs (.eq (.elem (.static "StoneMeet" "TENS" "[I") (.int 3)) (.int 1000)) (by decide +kernel))) (oldA s0)
  have e := hw.2.2.2.2.2.1 1 _ rfl
  rw [ht] at e
  have e2 : t = ol 1 := Value.ref.inj (Option.some.inj e)
  rw [← e2]
  exact hT
theorem Wd.fives {s0 : State} {D : va_G} {ol : Nat → Nat} {N : Nat} {xs : Nat → Int32} (hw : Wd s0 D ol N xs) : va_T .int (ol 2) 4 (fun j => .int (tabv 2 j)) (fun q => s0.heap.size ≤ q) s0 s0.heap := by
  have hs := flat_of_before _ hw.2.2.1
  obtain ⟨t, ht, hT⟩ := va_Tof (tm := .static "StoneMeet" "FIVES" "[I") (ty := .int) (N := 4) (f := fun j => .int (tabv 2 j)) (A := fun q => s0.heap.size ≤ q) (by decide) (hs _ (by decide +kernel)) (va_eqt (hs _ (by decide +kernel))) (fun j hj => by
    match j, hj with
    | 0, _ => exact va_eqt (hs (.eq (.elem (.static "StoneMeet" "FIVES" "[I") (.int 0)) (.int 1)) (by decide +kernel))
    | 1, _ => exact va_eqt (hs (.eq (.elem (.static "StoneMeet" "FIVES" "[I") (.int 1)) (.int 5)) (by decide +kernel))
    | 2, _ => exact va_eqt (hs (.eq (.elem (.static "StoneMeet" "FIVES" "[I") (.int 2)) (.int 25)) (by decide +kernel))
    | 3, _ => exact va_eqt (hs (.eq (.elem (.static "StoneMeet" "FIVES" "[I") (.int 3)) (.int 125)) (by decide +kernel))) (oldA s0)
  have e := hw.2.2.2.2.2.1 2 _ rfl
  rw [ht] at e
  have e2 : t = ol 2 := Value.ref.inj (Option.some.inj e)
  rw [← e2]
  exact hT
section OPT
variable {d : Nat} {M : Mt} {pc : Nat} {L : List (Option Value)} {st stk : List Value} {h h' : Hp} {r : Option Value}
theorem go_tT {j : Nat} {i v : Int32} (hj : j = 1 ∨ j = 2) (hv : tT j i = some v) (hd : decode M.2.1 pc = .ok (.iaload, 1)) (kk : Go d M (pc + 1) L (.int v :: st) h r h') : Go d M pc L (.int i :: .ref j :: st) h r h' := by
  refine ⟨kk.1, kk.2.1, fun s0 D ol N xs hw p l e R s m args below meth c C ls H locs cells slots hl hR hf b1 b2 => ?_⟩
  have K := kk.2.2 s0 D ol N xs hw p l e R s m args below meth c C ls H locs cells slots hl hR hf b1 b2
  obtain ⟨hx, hb, hml, hr, hlo, hown, hnm, hW, hfr, hlc, hsz⟩ := C
  have hT : va_T .int (ol j) 4 (fun k => .int (tabv j k)) (fun q => s0.heap.size ≤ q) s0 s0.heap := by
    rcases hj with rfl | rfl
    · exact hw.tens
    · exact hw.fives
  obtain ⟨cell, h1, h2, h3, h4, h5, h6, h7⟩ := hT
  unfold tT at hv
  split at hv
  · rename_i hin
    cases hv
    have hlt : i.toNatClampNeg < 4 := by
      have := inB_in hin
      exact Nat.not_le.mp fun q => this (Or.inr q)
    have ha : ad s0 ol j = ol j := if_pos (by omega)
    show W p l e R s m args below meth c H locs cells slots _ (F0 m pc ls (.int i :: .ref (ad s0 ol j) :: st.map (rv (ad s0 ol))))
    rw [ha]
    refine W.iald (v := .int (tabv j i.toNatClampNeg)) hx hb (by rw [hR.2.2.1 _ (Array.getElem?_eq_some_iff.mp h1).1]; exact h1) (State.isArrayOf_alike hW.alike h2) h3 (fun q => ?_) (h6 _ hlt) rfl rfl hd K
    rcases q with q | q
    · exact (inB_in hin) (Or.inl q)
    · omega
  · cases hv
theorem go_stat {j idx : Nat} {nm : String} (hj : oldT[j]? = some (.static "StoneMeet" nm "[I")) (hls : Cond.laysStatic "StoneMeet" nm "[I" ∈ lw_tbl) (hini : Cond.initialized "StoneMeet" ∈ lw_tbl) (hlk : Wg (.fieldLink M.1.cls idx "StoneMeet" nm "[I")) (hd : decode M.2.1 pc = .ok (.getstatic idx, 3)) (kk : Go d M (pc + 3) L (.ref j :: st) h r h') : Go d M pc L st h r h' := by
  refine ⟨kk.1, kk.2.1, fun s0 D ol N xs hw p l e R s m args below meth c C ls H locs cells slots hl hR hf b1 b2 => ?_⟩
  have K := kk.2.2 s0 D ol N xs hw p l e R s m args below meth c C ls H locs cells slots hl hR hf b1 b2
  obtain ⟨hx, hb, hml, hr, hlo, hown, hnm, hW, hfr, hlc, hsz⟩ := C
  have hZ := va_Z.moved hW.alike (va_Zof (A := fun q => s0.heap.size ≤ q) (hw.1 _ hls) (hw.1 _ hini) (hw.2.2.2.2.2.1 j _ hj) (oldA s0))
  obtain ⟨cf, kf, fi, f, a, cell, h1, h2, h3, h4, h5, h6, h7, h8⟩ := hZ
  have hlt : j < 80 := by have h0 := (List.getElem?_eq_some_iff.mp hj).1; have h9 : oldT.length = 71 := rfl; omega
  have ha : ad s0 ol j = ol j := if_pos hlt
  refine W.gets hx hb hown (word hw hW hlk) h1 h2 h3 h4 (by rw [hR.2.2.1 _ (Array.getElem?_eq_some_iff.mp h5).1]; exact h5) (fun e => by rw [e] at h6; cases h6) h7 rfl hd ?_
  have K2 : W p l e R s m args below meth c H locs cells slots (MQ below (Qg s0 D ol r h') args s R.cells R.slots fun q => Array.size s0.heap ≤ q) (F0 m (pc + 3) ls (.ref (ad s0 ol j) :: st.map (rv (ad s0 ol)))) := K
  rw [ha] at K2
  exact K2
theorem go_statN {j idx : Nat} {nm host : String} (hj : oldT[j]? = some (.static "StoneMeet" nm "[I")) (hls : Cond.laysStatic "StoneMeet" nm "[I" ∈ lw_tbl) (hini : Cond.initialized "StoneMeet" ∈ lw_tbl) (hlk : Cond.fieldLinkNest M.1.cls idx "StoneMeet" nm "[I" host ∈ lw_tbl) (hd : decode M.2.1 pc = .ok (.getstatic idx, 3)) (kk : Go d M (pc + 3) L (.ref j :: st) h r h') : Go d M pc L st h r h' := by
  refine ⟨kk.1, kk.2.1, fun s0 D ol N xs hw p l e R s m args below meth c C ls H locs cells slots hl hR hf b1 b2 => ?_⟩
  have K := kk.2.2 s0 D ol N xs hw p l e R s m args below meth c C ls H locs cells slots hl hR hf b1 b2
  obtain ⟨hx, hb, hml, hr, hlo, hown, hnm, hW, hfr, hlc, hsz⟩ := C
  have hZ := va_Z.moved hW.alike (va_Zof (A := fun q => s0.heap.size ≤ q) (hw.1 _ hls) (hw.1 _ hini) (hw.2.2.2.2.2.1 j _ hj) (oldA s0))
  obtain ⟨cf, kf, fi, f, a, cell, h1, h2, h3, h4, h5, h6, h7, h8⟩ := hZ
  have hlt : j < 80 := by have h0 := (List.getElem?_eq_some_iff.mp hj).1; have h9 : oldT.length = 71 := rfl; omega
  have ha : ad s0 ol j = ol j := if_pos hlt
  refine va_WgetsN hx hb hown (va_Nw.use rfl (va_Nw.warmF hW (va_Nw.of rfl (hw.1 _ hlk)))) h1 h2 h3 h4 (by rw [hR.2.2.1 _ (Array.getElem?_eq_some_iff.mp h5).1]; exact h5) (fun e => by rw [e] at h6; cases h6) h7 rfl hd ?_
  have K2 : W p l e R s m args below meth c H locs cells slots (MQ below (Qg s0 D ol r h') args s R.cells R.slots fun q => Array.size s0.heap ≤ q) (F0 m (pc + 3) ls (.ref (ad s0 ol j) :: st.map (rv (ad s0 ol)))) := K
  rw [ha] at K2
  exact K2
end OPT
