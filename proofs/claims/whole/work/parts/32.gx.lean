/-! the small machine once more, for a given script: the law reads it -/
def GoX (N : Nat) (xs : Nat → Int32) (d : Nat) (M : Mt) (pc : Nat) (L : List (Option Value)) (st : List Value) (h : Hp) (r : Option Value) (h' : Hp) : Prop :=
  h.1 ≤ h'.1 ∧ h.2.1 ≤ h'.2.1 ∧ ∀ (s0 : State) (D : va_G) (ol : Nat → Nat), Wd s0 D ol N xs → ∀ (p : Program) (l : Launch) (e : Env) (R : Room) (s : State) (m : MethodId) (args : Array Value) (below : List Frame) (meth : Method) (c : Code), Cx s0 d M p R s m meth c →
    ∀ (ls : Array Slot) (H : Heap) (locs : List Loc) (cells slots : Nat), LV (ad s0 ol) ls M.2.2.1 L → Rep s0 D ol h H → (∀ q ∈ locs, s0.heap.size ≤ q.base) → cells + (h'.1 - h.1) ≤ R.cells → slots + (h'.2.1 - h.2.1) ≤ R.slots →
      W p l e R s m args below meth c H locs cells slots (MQ below (Qg s0 D ol r h') args s R.cells R.slots (fun q => s0.heap.size ≤ q)) (F0 m pc ls (st.map (rv (ad s0 ol))))
theorem gx_pure {N : Nat} {xs : Nat → Int32} {d : Nat} {M : Mt} {pc pc' : Nat} {L L' : List (Option Value)} {st st' : List Value} {h h' : Hp} {r : Option Value}
    (hstep : ∀ (p : Program) (l : Launch) (e : Env) (R : Room) (s : State) (m : MethodId) (args : Array Value) (below : List Frame) (meth : Method) (c : Code) (H : Heap) (locs : List Loc) (cells slots : Nat) (Q : State → Prop) (ls : Array Slot) (f : Nat → Nat), p.tables.exec = Jvm.exec → c.code = M.2.1 → LV f ls M.2.2.1 L →
      (∀ ls' : Array Slot, LV f ls' M.2.2.1 L' → W p l e R s m args below meth c H locs cells slots Q (F0 m pc' ls' (st'.map (rv f)))) → W p l e R s m args below meth c H locs cells slots Q (F0 m pc ls (st.map (rv f))))
    (k : GoX N xs d M pc' L' st' h r h') : GoX N xs d M pc L st h r h' :=
  ⟨k.1, k.2.1, fun s0 D ol hw p l e R s m args below meth c C ls H locs cells slots hl hR hf b1 b2 =>
    hstep p l e R s m args below meth c H locs cells slots _ ls (ad s0 ol) C.1 C.2.1 hl (fun ls' hl' => k.2.2 s0 D ol hw p l e R s m args below meth c C ls' H locs cells slots hl' hR hf b1 b2)⟩
theorem gx_iconst {N : Nat} {xs : Nat → Int32} {d : Nat} {M : Mt} {pc : Nat} {L : List (Option Value)} {st : List Value} {h h' : Hp} {r : Option Value} {n : Int} {v : Int32} (hv : Int32.ofInt n = v) (hd : decode M.2.1 pc = .ok (.iconst n, 1)) (k : GoX N xs d M (pc + 1) L (.int v :: st) h r h') : GoX N xs d M pc L (st) h r h' := gx_pure (fun p l e R s m args below meth c H locs cells slots Q ls f hx hb hl kk => lv_iconst hx hb hd hv (kk ls hl)) k
theorem gx_bipush {N : Nat} {xs : Nat → Int32} {d : Nat} {M : Mt} {pc : Nat} {L : List (Option Value)} {st : List Value} {h h' : Hp} {r : Option Value} {n : Int} {v : Int32} (hv : (Int8.ofInt n).toInt32 = v) (hd : decode M.2.1 pc = .ok (.bipush n, 2)) (k : GoX N xs d M (pc + 2) L (.int v :: st) h r h') : GoX N xs d M pc L (st) h r h' := gx_pure (fun p l e R s m args below meth c H locs cells slots Q ls f hx hb hl kk => lv_bipush hx hb hd hv (kk ls hl)) k
theorem gx_iload_n {N : Nat} {xs : Nat → Int32} {d : Nat} {M : Mt} {pc : Nat} {L : List (Option Value)} {st : List Value} {h h' : Hp} {r : Option Value} {k4 : Fin 4} {x : Int32} (hi : L[(k4 : Nat)]? = some (some (.int x))) (hd : decode M.2.1 pc = .ok (.iload_n k4, 1)) (k : GoX N xs d M (pc + 1) L (.int x :: st) h r h') : GoX N xs d M pc L (st) h r h' := gx_pure (fun p l e R s m args below meth c H locs cells slots Q ls f hx hb hl kk => lv_iload_n hx hb hd rfl (hl.at hi) (kk ls hl)) k
theorem gx_aload_n {N : Nat} {xs : Nat → Int32} {d : Nat} {M : Mt} {pc : Nat} {L : List (Option Value)} {st : List Value} {h h' : Hp} {r : Option Value} {k4 : Fin 4} {v : Value} (hi : L[(k4 : Nat)]? = some (some v)) (hv : v = .null ∨ ∃ n, v = .ref n) (hd : decode M.2.1 pc = .ok (.aload_n k4, 1)) (k : GoX N xs d M (pc + 1) L (v :: st) h r h') : GoX N xs d M pc L st h r h' := by
  rcases hv with rfl | ⟨n, rfl⟩
  · exact gx_pure (fun p l e R s m args below meth c H locs cells slots Q ls f hx hb hl kk => lv_aload_nN hx hb hd rfl (hl.at hi) (kk ls hl)) k
  · exact gx_pure (fun p l e R s m args below meth c H locs cells slots Q ls f hx hb hl kk => lv_aload_n hx hb hd rfl (hl.at hi) (kk ls hl)) k
theorem gx_istore_n {N : Nat} {xs : Nat → Int32} {d : Nat} {M : Mt} {pc : Nat} {L : List (Option Value)} {st : List Value} {h h' : Hp} {r : Option Value} {k4 : Fin 4} {x : Int32} {L' : List (Option Value)} (hn : (k4 : Nat) < M.2.2.1) (hL : L1 L k4 (.int x) = L') (hd : decode M.2.1 pc = .ok (.istore_n k4, 1)) (k : GoX N xs d M (pc + 1) L' (st) h r h') : GoX N xs d M pc L (.int x :: st) h r h' := gx_pure (fun p l e R s m args below meth c H locs cells slots Q ls f hx hb hl kk => lv_istore_n (lv := lvl f L) hx hb hd rfl hl.has hn rfl (fun ls' hl' => kk ls' (hL ▸ L1_has hl'))) k
theorem gx_astore_n {N : Nat} {xs : Nat → Int32} {d : Nat} {M : Mt} {pc : Nat} {L : List (Option Value)} {st : List Value} {h h' : Hp} {r : Option Value} {k4 : Fin 4} {v : Value} {L' : List (Option Value)} (hn : (k4 : Nat) < M.2.2.1) (hv : v = .null ∨ ∃ n, v = .ref n) (hL : L1 L k4 v = L') (hd : decode M.2.1 pc = .ok (.astore_n k4, 1)) (k : GoX N xs d M (pc + 1) L' st h r h') : GoX N xs d M pc L (v :: st) h r h' := by
  rcases hv with rfl | ⟨n, rfl⟩
  · exact gx_pure (fun p l e R s m args below meth c H locs cells slots Q ls f hx hb hl kk => lv_astore_nN (lv := lvl f L) hx hb hd rfl hl.has hn rfl (fun ls' hl' => kk ls' (hL ▸ L1_has (v := .null) hl'))) k
  · exact gx_pure (fun p l e R s m args below meth c H locs cells slots Q ls f hx hb hl kk => lv_astore_n (lv := lvl f L) hx hb hd rfl hl.has hn rfl (fun ls' hl' => kk ls' (hL ▸ L1_has (v := .ref n) hl'))) k
theorem gx_iinc {N : Nat} {xs : Nat → Int32} {d : Nat} {M : Mt} {pc : Nat} {L : List (Option Value)} {st : List Value} {h h' : Hp} {r : Option Value} {i : Nat} {n : Int} {x v : Int32} {L' : List (Option Value)} (hi : L[i]? = some (some (.int x))) (hn : i < M.2.2.1) (hv : x + Int32.ofInt n = v) (hL : L1 L i (.int v) = L') (hd : decode M.2.1 pc = .ok (.iinc i n, 3)) (k : GoX N xs d M (pc + 3) L' st h r h') : GoX N xs d M pc L st h r h' := gx_pure (fun p l e R s m args below meth c H locs cells slots Q ls f hx hb hl kk => by
    obtain ⟨q, hq⟩ := lvl_at (f := f) hi
    exact lv_iinc (lv := lvl f L) hx hb hd hl.has hq hv hn rfl (fun ls' hl' => kk ls' (hL ▸ L1_has (v := .int v) hl'))) k
theorem gx_iadd {N : Nat} {xs : Nat → Int32} {d : Nat} {M : Mt} {pc : Nat} {L : List (Option Value)} {st : List Value} {h h' : Hp} {r : Option Value} {x y : Int32} (hd : decode M.2.1 pc = .ok (.iadd, 1)) (k : GoX N xs d M (pc + 1) L (.int (x + y) :: st) h r h') : GoX N xs d M pc L (.int y :: .int x :: st) h r h' := gx_pure (fun p l e R s m args below meth c H locs cells slots Q ls f hx hb hl kk => lv_iadd hx hb hd (kk ls hl)) k
theorem gx_isub {N : Nat} {xs : Nat → Int32} {d : Nat} {M : Mt} {pc : Nat} {L : List (Option Value)} {st : List Value} {h h' : Hp} {r : Option Value} {x y : Int32} (hd : decode M.2.1 pc = .ok (.isub, 1)) (k : GoX N xs d M (pc + 1) L (.int (x - y) :: st) h r h') : GoX N xs d M pc L (.int y :: .int x :: st) h r h' := gx_pure (fun p l e R s m args below meth c H locs cells slots Q ls f hx hb hl kk => lv_isub hx hb hd (kk ls hl)) k
theorem gx_iand {N : Nat} {xs : Nat → Int32} {d : Nat} {M : Mt} {pc : Nat} {L : List (Option Value)} {st : List Value} {h h' : Hp} {r : Option Value} {x y : Int32} (hd : decode M.2.1 pc = .ok (.iand, 1)) (k : GoX N xs d M (pc + 1) L (.int (x &&& y) :: st) h r h') : GoX N xs d M pc L (.int y :: .int x :: st) h r h' := gx_pure (fun p l e R s m args below meth c H locs cells slots Q ls f hx hb hl kk => lv_iand hx hb hd (kk ls hl)) k
theorem gx_land {N : Nat} {xs : Nat → Int32} {d : Nat} {M : Mt} {pc : Nat} {L : List (Option Value)} {st : List Value} {h h' : Hp} {r : Option Value} {x y : Int64} (hd : decode M.2.1 pc = .ok (.land, 1)) (k : GoX N xs d M (pc + 1) L (.long (x &&& y) :: st) h r h') : GoX N xs d M pc L (.long y :: .long x :: st) h r h' := gx_pure (fun p l e R s m args below meth c H locs cells slots Q ls f hx hb hl kk => lv_land hx hb hd (kk ls hl)) k
theorem gx_lor {N : Nat} {xs : Nat → Int32} {d : Nat} {M : Mt} {pc : Nat} {L : List (Option Value)} {st : List Value} {h h' : Hp} {r : Option Value} {x y : Int64} (hd : decode M.2.1 pc = .ok (.lor, 1)) (k : GoX N xs d M (pc + 1) L (.long (x ||| y) :: st) h r h') : GoX N xs d M pc L (.long y :: .long x :: st) h r h' := gx_pure (fun p l e R s m args below meth c H locs cells slots Q ls f hx hb hl kk => lv_lor hx hb hd (kk ls hl)) k
theorem gx_lshl {N : Nat} {xs : Nat → Int32} {d : Nat} {M : Mt} {pc : Nat} {L : List (Option Value)} {st : List Value} {h h' : Hp} {r : Option Value} {x : Int64} {y : Int32} (hd : decode M.2.1 pc = .ok (.lshl, 1)) (k : GoX N xs d M (pc + 1) L (.long (x <<< (y.toInt64 &&& 63)) :: st) h r h') : GoX N xs d M pc L (.int y :: .long x :: st) h r h' := gx_pure (fun p l e R s m args below meth c H locs cells slots Q ls f hx hb hl kk => lv_lshl hx hb hd rfl (kk ls hl)) k
theorem gx_i2l {N : Nat} {xs : Nat → Int32} {d : Nat} {M : Mt} {pc : Nat} {L : List (Option Value)} {st : List Value} {h h' : Hp} {r : Option Value} {x : Int32} (hd : decode M.2.1 pc = .ok (.i2l, 1)) (k : GoX N xs d M (pc + 1) L (.long x.toInt64 :: st) h r h') : GoX N xs d M pc L (.int x :: st) h r h' := gx_pure (fun p l e R s m args below meth c H locs cells slots Q ls f hx hb hl kk => lv_i2l hx hb hd rfl (kk ls hl)) k
theorem gx_lcmp {N : Nat} {xs : Nat → Int32} {d : Nat} {M : Mt} {pc : Nat} {L : List (Option Value)} {st : List Value} {h h' : Hp} {r : Option Value} {x y : Int64} (hd : decode M.2.1 pc = .ok (.lcmp, 1)) (k : GoX N xs d M (pc + 1) L (.int (lg_cmp x y) :: st) h r h') : GoX N xs d M pc L (.long y :: .long x :: st) h r h' := gx_pure (fun p l e R s m args below meth c H locs cells slots Q ls f hx hb hl kk => W.lcmp hx hb hd (kk ls hl)) k
theorem gx_dup {N : Nat} {xs : Nat → Int32} {d : Nat} {M : Mt} {pc : Nat} {L : List (Option Value)} {st : List Value} {h h' : Hp} {r : Option Value} {a : Value} (ha : a.category = 1) (hd : decode M.2.1 pc = .ok (.dup, 1)) (k : GoX N xs d M (pc + 1) L (a :: a :: st) h r h') : GoX N xs d M pc L (a :: st) h r h' := gx_pure (fun p l e R s m args below meth c H locs cells slots Q ls f hx hb hl kk => lv_dup hx hb hd (by rw [rv_cat]; exact ha) (kk ls hl)) k
theorem gx_goto {N : Nat} {xs : Nat → Int32} {d : Nat} {M : Mt} {pc : Nat} {L : List (Option Value)} {st : List Value} {h h' : Hp} {r : Option Value} {off : Int} {tgt : Nat} (ht : (pc : Int) + off = (tgt : Int)) (hd : decode M.2.1 pc = .ok (.goto off, 3)) (k : GoX N xs d M tgt L st h r h') : GoX N xs d M pc L st h r h' := gx_pure (fun p l e R s m args below meth c H locs cells slots Q ls f hx hb hl kk => lv_goto hx hb hd ht (kk ls hl)) k
theorem gx_if_eq {N : Nat} {xs : Nat → Int32} {d : Nat} {M : Mt} {pc : Nat} {L : List (Option Value)} {st : List Value} {h h' : Hp} {r : Option Value} {x : Int32} {off : Int} {tgt : Nat} (ht : (pc : Int) + off = (tgt : Int)) (hd : decode M.2.1 pc = .ok (.ifCond .eq off, 3)) (kt : x = 0 → GoX N xs d M tgt L st h r h') (kf : ¬ x = 0 → GoX N xs d M (pc + 3) L st h r h') : GoX N xs d M pc L (.int x :: st) h r h' := by
  have key : h.1 ≤ h'.1 ∧ h.2.1 ≤ h'.2.1 := by
    by_cases q : x = 0
    · exact ⟨(kt q).1, (kt q).2.1⟩
    · exact ⟨(kf (by first | exact q | exact Classical.not_not.mp q)).1, (kf (by first | exact q | exact Classical.not_not.mp q)).2.1⟩
  exact ⟨key.1, key.2, fun s0 D ol hw p l e R s m args below meth c C ls H locs cells slots hl hR hf b1 b2 => lv_if_eq C.1 C.2.1 hd ht (fun q => (kt q).2.2 s0 D ol hw p l e R s m args below meth c C ls H locs cells slots hl hR hf b1 b2) (fun q => (kf q).2.2 s0 D ol hw p l e R s m args below meth c C ls H locs cells slots hl hR hf b1 b2)⟩
theorem gx_icmp_eq {N : Nat} {xs : Nat → Int32} {d : Nat} {M : Mt} {pc : Nat} {L : List (Option Value)} {st : List Value} {h h' : Hp} {r : Option Value} {x y : Int32} {off : Int} {tgt : Nat} (ht : (pc : Int) + off = (tgt : Int)) (hd : decode M.2.1 pc = .ok (.if_icmp .eq off, 3)) (kt : x = y → GoX N xs d M tgt L st h r h') (kf : ¬ x = y → GoX N xs d M (pc + 3) L st h r h') : GoX N xs d M pc L (.int y :: .int x :: st) h r h' := by
  have key : h.1 ≤ h'.1 ∧ h.2.1 ≤ h'.2.1 := by
    by_cases q : x = y
    · exact ⟨(kt q).1, (kt q).2.1⟩
    · exact ⟨(kf (by first | exact q | exact Classical.not_not.mp q)).1, (kf (by first | exact q | exact Classical.not_not.mp q)).2.1⟩
  exact ⟨key.1, key.2, fun s0 D ol hw p l e R s m args below meth c C ls H locs cells slots hl hR hf b1 b2 => lv_icmp_eq C.1 C.2.1 hd ht (fun q => (kt q).2.2 s0 D ol hw p l e R s m args below meth c C ls H locs cells slots hl hR hf b1 b2) (fun q => (kf q).2.2 s0 D ol hw p l e R s m args below meth c C ls H locs cells slots hl hR hf b1 b2)⟩
theorem gx_icmp_gt {N : Nat} {xs : Nat → Int32} {d : Nat} {M : Mt} {pc : Nat} {L : List (Option Value)} {st : List Value} {h h' : Hp} {r : Option Value} {x y : Int32} {off : Int} {tgt : Nat} (ht : (pc : Int) + off = (tgt : Int)) (hd : decode M.2.1 pc = .ok (.if_icmp .gt off, 3)) (kt : y < x → GoX N xs d M tgt L st h r h') (kf : ¬ y < x → GoX N xs d M (pc + 3) L st h r h') : GoX N xs d M pc L (.int y :: .int x :: st) h r h' := by
  have key : h.1 ≤ h'.1 ∧ h.2.1 ≤ h'.2.1 := by
    by_cases q : y < x
    · exact ⟨(kt q).1, (kt q).2.1⟩
    · exact ⟨(kf (by first | exact q | exact Classical.not_not.mp q)).1, (kf (by first | exact q | exact Classical.not_not.mp q)).2.1⟩
  exact ⟨key.1, key.2, fun s0 D ol hw p l e R s m args below meth c C ls H locs cells slots hl hR hf b1 b2 => lv_icmp_gt C.1 C.2.1 hd ht (fun q => (kt q).2.2 s0 D ol hw p l e R s m args below meth c C ls H locs cells slots hl hR hf b1 b2) (fun q => (kf q).2.2 s0 D ol hw p l e R s m args below meth c C ls H locs cells slots hl hR hf b1 b2)⟩
theorem gx_new {N : Nat} {xs : Nat → Int32} {d : Nat} {M : Mt} {pc : Nat} {L : List (Option Value)} {st : List Value} {h h' : Hp} {r : Option Value} {index ci : Nat} {q : vw_C} {fs : List Value} (hc : cls[ci]? = some q) (hfs : fs = (List.range q.2.2).map (fun j => defaultValue (ctyp ci j))) (hlk : Wg (.classLink M.1.cls index q.1)) (hins : Wg (.instantiable q.1 q.2.2)) (hini : Wg (.initialized q.1)) (hd : decode M.2.1 pc = .ok (.new index, 3))
    (kk : GoX N xs d M (pc + 3) L (.ref h.1 :: st) (hp_new h q.2.2 (.inr (ci, fs))) r h') : GoX N xs d M pc L st h r h' := by
  have k1 := kk.1
  have k2 := kk.2.1
  simp only [hp_new] at k1 k2
  refine ⟨by omega, by omega, fun s0 D ol hw p l e R s m args below meth c C ls H locs cells slots hl hR hf b1 b2 => ?_⟩
  have K := kk.2.2 s0 D ol hw p l e R s m args below meth c C ls
  obtain ⟨hx, hb, hml, hr, hlo, hown, hnm, hW, hfr, hlc, hsz⟩ := C
  have hKn := u_Kn_moved hW.alike (hw.2.1 ci q hc)
  have htop := hR.top
  refine W.newcK hx hb hown (word hw hW hlk) (word hw hW hins) (word hw hW hini) rfl hd (by omega) (by omega) hKn.2.1 htop fun H1 kC hkC e1 z1 o1 => ?_
  refine K H1 _ (cells + 1) (slots + q.2.2) hl (hR.new (k := q.2.2) (by rw [z1, htop]) (fun x hx => o1 x (by rw [← htop]; exact hx)) ⟨q, hc, by rw [hfs]; simp, ?_⟩) hf (by simp only [hp_new]; omega) (by simp only [hp_new]; omega)
  have hob := u_born (ctyp ci) (ws := u_ws q.1 q.2.1 q.2.2) (args := args) (fun w h => word hw hW (cls_ck ci q hc w h)) (fun _ h => h) hKn hkC e1 (cls_ty ci q hc)
  refine hob.to (fun j hj => ?_)
  rw [hfs]
  simp only [vp_V, List.map_map]
  rw [List.getD_eq_getElem?_getD, List.getElem?_map, List.getElem?_range hj]
  simp only [Option.map_some, Option.getD_some, Function.comp]
  cases (ctyp ci j) <;> rfl
theorem gx_nO {N : Nat} {xs : Nat → Int32} {d : Nat} {M : Mt} {pc : Nat} {L : List (Option Value)} {st : List Value} {h h' : Hp} {r : Option Value} {idx ci : Nat} {q : vw_C} (hc : cls[ci]? = some q) (hlk : Wg (.classLink M.1.cls idx q.1)) (hins : Wg (.instantiable q.1 q.2.2)) (hini : Wg (.initialized q.1)) (hd : decode M.2.1 pc = .ok (.new idx, 3)) (kk : GoX N xs d M (pc + 3) L (.ref h.1 :: st) (nO h ci q.2.2) r h') : GoX N xs d M pc L st h r h' := gx_new hc rfl hlk hins hini hd kk
theorem gx_invV {N : Nat} {xs : Nat → Int32} {d : Nat} {M : Mt} {pc : Nat} {L : List (Option Value)} {st : List Value} {h h' : Hp} {r : Option Value} {M1 : Mt} {d1 index : Nat} {As : List Value} {h1 : Hp} {r1 : Option Value} {b ci : Nat} {q : vw_C} {fs : List Value} (hb0 : h.2.2 b = some (.inr (ci, fs))) (hc : cls[ci]? = some q) (hcn : q.1 = M1.1.cls) (hcall : Call d1 M1 (.ref b :: As) h r1 h1) (hdd : d1 + 1 ≤ d) (hm : MB M1 As.length) (hlk : Wg (.methodLink M.1.cls index M1.1)) (hin : Wg (.instanceMethod M1.1)) (hse : Wg (.selects M1.1.cls M1.1 M1.1)) (hst : (st.map fun v => v.category).sum ≤ 8) (hd : decode M.2.1 pc = .ok (.invokevirtual index, 3))
    (kk : GoX N xs d M (pc + 3) L (r1.toList ++ st) h1 r h') : GoX N xs d M pc L (As.reverse ++ .ref b :: st) h r h' := by
  have c1 := hcall.1
  have c2 := hcall.2.1
  have k1 := kk.1
  have k2 := kk.2.1
  refine ⟨Nat.le_trans c1 k1, Nat.le_trans c2 k2, fun s0 D ol hw p l e R s m args below meth c C ls H locs cells slots hl hR hf b1 b2 => ?_⟩
  have K := kk.2.2 s0 D ol hw p l e R s m args below meth c C ls
  obtain ⟨hx, hb, hml, hr, hlo, hown, hnm, hW, hfr, hlc, hsz⟩ := C
  have hp := hm.parts hw hW
  have hmet := hcall.2.2 s0 D ol N xs hw l
  have ml := hm.2.2.2.2
  obtain ⟨-, -, q', hq', hlen, cell, e1, e2, e3, e4⟩ := hR.2.2.2 b _ hb0
  have hqq : q' = q := Option.some.inj (hq'.symm.trans hc)
  subst hqq
  have hrecv : ∃ cellB : Cell, H[ad s0 ol b]? = some cellB ∧ cellB.vm.isStatics = false ∧ s.vm.findClass q'.1 = some cellB.cls := ⟨cell, e1, by rw [e3]; rfl, by rw [e2]; exact (u_Kn_moved hW.alike (hw.2.1 ci q' hc)).2.1⟩
  refine run_go (rest := st.map (rv (ad s0 ol))) (va_runV (As := As.map (rv (ad s0 ol))) (rest := st.map (rv (ad s0 ol))) (n := As.length) ⟨hx, hb, hml, hown, fun w hq => by cases hq⟩ (Ts := []) hmet (C := q'.1) ⟨⟨rfl, rfl, by show d1 + 1 ≤ _; omega, by show 8 + (M1.2.2.1 + 11) + 41 * d1 ≤ _; omega, hp.1, List.mem_singleton.mpr rfl, word hw hW hm.1, word hw hW hm.2.1, hm.2.2.1, hp.2, word hw hW hlk⟩, word hw hW hin, by rw [hcn]; exact word hw hW hse⟩ ⟨Pg_blind _ _ _ _ _, hrecv, fun U hU hWU => ⟨rfl, by rw [hU]; exact hR, State.WarmedH.trans hW hWU⟩⟩ rfl (by rw [List.length_map]) hl.1 (by simp [rv]) (lv_room (cat_map _ st hst)) hd ⟨by omega, by omega⟩) hf (fun H1 locs1 hR1 hf1 => ?_)
  rw [ret_map]
  exact K H1 locs1 _ _ hl hR1 hf1 (by omega) (by omega)
theorem gx_V1 {N : Nat} {xs : Nat → Int32} {d : Nat} {M : Mt} {pc : Nat} {L : List (Option Value)} {st stk : List Value} {h h' : Hp} {r : Option Value} {M1 : Mt} {d1 index : Nat} {As : List Value} {h1 : Hp} {v : Value} {b ci : Nat} {q : vw_C} (hb0 : ∃ fs, h.2.2 b = some (.inr (ci, fs))) (hc : cls[ci]? = some q) (hcn : q.1 = M1.1.cls) (hcall : Call d1 M1 (.ref b :: As) h (some v) h1) (hdd : d1 + 1 ≤ d) (hm : MB M1 As.length) (hlk : Wg (.methodLink M.1.cls index M1.1)) (hin : Wg (.instanceMethod M1.1) ∧ Wg (.selects M1.1.cls M1.1 M1.1)) (hst : (st.map fun v => v.category).sum ≤ 8) (hstk : As.reverse ++ .ref b :: st = stk) (hd : decode M.2.1 pc = .ok (.invokevirtual index, 3))
    (kk : GoX N xs d M (pc + 3) L (v :: st) h1 r h') : GoX N xs d M pc L stk h r h' := by
  obtain ⟨fs, hb1⟩ := hb0
  subst hstk
  exact gx_invV hb1 hc hcn hcall hdd hm hlk hin.1 hin.2 hst hd kk
theorem gx_invI {N : Nat} {xs : Nat → Int32} {d : Nat} {M : Mt} {pc : Nat} {L : List (Option Value)} {st : List Value} {h h' : Hp} {r : Option Value} {M1 : Mt} {d1 index : Nat} {As : List Value} {h1 : Hp} {r1 : Option Value} {b : Nat} (hret : M1.2.2.2 = none) (hnm1 : M1.1.name = "<init>") (hcall : Call d1 M1 (.ref b :: As) h r1 h1) (hdd : d1 + 1 ≤ d) (hm : MB M1 As.length) (hlk : Wg (.methodLink M.1.cls index M1.1)) (hin : Wg (.instanceMethod M1.1)) (hst : (st.map fun v => v.category).sum ≤ 8) (hd : decode M.2.1 pc = .ok (.invokespecial index, 3))
    (kk : GoX N xs d M (pc + 3) L (r1.toList ++ st) h1 r h') : GoX N xs d M pc L (As.reverse ++ .ref b :: st) h r h' := by
  have c1 := hcall.1
  have c2 := hcall.2.1
  have k1 := kk.1
  have k2 := kk.2.1
  refine ⟨Nat.le_trans c1 k1, Nat.le_trans c2 k2, fun s0 D ol hw p l e R s m args below meth c C ls H locs cells slots hl hR hf b1 b2 => ?_⟩
  have K := kk.2.2 s0 D ol hw p l e R s m args below meth c C ls
  obtain ⟨hx, hb, hml, hr, hlo, hown, hnm, hW, hfr, hlc, hsz⟩ := C
  have hp := hm.parts hw hW
  have hmet := hcall.2.2 s0 D ol N xs hw l
  have ml := hm.2.2.2.2
  rw [hret] at hmet hp
  have hmc := hm.1
  rw [hret] at hmc
  refine run_go (rest := st.map (rv (ad s0 ol))) (va_runI (As := As.map (rv (ad s0 ol))) (rest := st.map (rv (ad s0 ol))) (n := As.length) ⟨hx, hb, hml, hown, fun w hq => by cases hq⟩ (Ts := []) hmet ⟨⟨rfl, rfl, by show d1 + 1 ≤ _; omega, by show 8 + (M1.2.2.1 + 11) + 41 * d1 ≤ _; omega, hp.1, List.mem_singleton.mpr rfl, word hw hW hmc, word hw hW hm.2.1, hm.2.2.1, hp.2, word hw hW hlk⟩, hnm1, word hw hW hin⟩ ⟨Pg_blind _ _ _ _ _, fun U hU hWU => ⟨rfl, by rw [hU]; exact hR, State.WarmedH.trans hW hWU⟩⟩ rfl (by rw [List.length_map]) hl.1 (by simp [rv]) (lv_room (cat_map _ st hst)) hd ⟨by omega, by omega⟩) hf (fun H1 locs1 hR1 hf1 => ?_)
  rw [ret_map]
  exact K H1 locs1 _ _ hl hR1 hf1 (by omega) (by omega)
theorem gx_I0 {N : Nat} {xs : Nat → Int32} {d : Nat} {M : Mt} {pc : Nat} {L : List (Option Value)} {st stk : List Value} {h h' : Hp} {r : Option Value} {M1 : Mt} {d1 index b : Nat} {As : List Value} {h1 : Hp} (hret : M1.2.2.2 = none) (hnm1 : M1.1.name = "<init>") (hcall : Call d1 M1 (.ref b :: As) h none h1) (hdd : d1 + 1 ≤ d) (hm : MB M1 As.length) (hlk : Wg (.methodLink M.1.cls index M1.1)) (hin : Wg (.instanceMethod M1.1)) (hst : (st.map fun v => v.category).sum ≤ 8) (hstk : As.reverse ++ .ref b :: st = stk) (hd : decode M.2.1 pc = .ok (.invokespecial index, 3))
    (kk : GoX N xs d M (pc + 3) L st h1 r h') : GoX N xs d M pc L stk h r h' := by
  subst hstk
  exact gx_invI hret hnm1 hcall hdd hm hlk hin hst hd kk
theorem gx_zret {N : Nat} {xs : Nat → Int32} {d : Nat} {M : Mt} {pc : Nat} {L : List (Option Value)} {h : Hp} {v : Int32} {ty : FieldType} (hrt : M.2.2.2 = some ty) (hn : narrow ty (.int v) = .int v) (hd : decode M.2.1 pc = .ok (.ireturn, 1)) : GoX N xs d M pc L ([.int v]) h (some (.int v)) h := by
  refine ⟨Nat.le_refl _, Nat.le_refl _, fun s0 D ol hw p l e R s m args below meth c C ls H locs cells slots hl hR hf b1 b2 => ?_⟩
  obtain ⟨hx, hb, hml, hr, hlo, hown, hnm, hW, hfr, hlc, hsz⟩ := C
  refine W.widen (k := R.cells) (n := R.slots) (by omega) (by omega) ?_
  exact W.zret (ty := ty) hx hb (hr.trans hrt) hn (fun t ht _ => ⟨rfl, by rw [ht]; exact hR⟩) (fun q hq => hf q hq) hd (hlocks := hlo)
theorem gx_ldc2 {N : Nat} {xs : Nat → Int32} {d : Nat} {M : Mt} {pc : Nat} {L : List (Option Value)} {st : List Value} {h h' : Hp} {r : Option Value} {index : Nat} {v : Int64} (hlk : Wg (.constantLong M.1.cls index v)) (hd : decode M.2.1 pc = .ok (.ldc2_w index, 3)) (kk : GoX N xs d M (pc + 3) L (.long v :: st) h r h') : GoX N xs d M pc L st h r h' := by
  refine ⟨kk.1, kk.2.1, fun s0 D ol hw p l e R s m args below meth c C ls H locs cells slots hl hR hf b1 b2 => ?_⟩
  have K := kk.2.2 s0 D ol hw p l e R s m args below meth c C ls H locs cells slots hl hR hf b1 b2
  obtain ⟨hx, hb, hml, hr, hlo, hown, hnm, hW, hfr, hlc, hsz⟩ := C
  exact lv_ldc2 hx hb hown (word hw hW hlk) hd K
theorem gx_tableOut {N : Nat} {xs : Nat → Int32} {d : Nat} {M : Mt} {pc : Nat} {L : List (Option Value)} {st : List Value} {h h' : Hp} {r : Option Value} {dflt lo hi : Int} {offs : Array Int} {len : Nat} {x : Int32} {tgt : Nat} (h0 : x.toInt < lo ∨ hi < x.toInt) (ht : (pc : Int) + dflt = (tgt : Int)) (hd : decode M.2.1 pc = .ok (.tableswitch dflt lo hi offs, len)) (k : GoX N xs d M tgt L st h r h') : GoX N xs d M pc L (.int x :: st) h r h' := gx_pure (fun p l e R s m args below meth c H locs cells slots Q ls f hx hb hl kk => lv_tableOut hx hb hd h0 ht (kk ls hl)) k
theorem gx_tableIn {N : Nat} {xs : Nat → Int32} {d : Nat} {M : Mt} {pc : Nat} {L : List (Option Value)} {st : List Value} {h h' : Hp} {r : Option Value} {dflt lo hi : Int} {offs : Array Int} {len : Nat} {x : Int32} {off : Int} {tgt : Nat} (h1 : ¬ x.toInt < lo) (h2 : ¬ hi < x.toInt) (ho : offs[(x.toInt - lo).toNat]? = some off) (ht : (pc : Int) + off = (tgt : Int)) (hd : decode M.2.1 pc = .ok (.tableswitch dflt lo hi offs, len)) (k : GoX N xs d M tgt L st h r h') : GoX N xs d M pc L (.int x :: st) h r h' := gx_pure (fun p l e R s m args below meth c H locs cells slots Q ls f hx hb hl kk => lv_tableIn hx hb hd h1 h2 ho ht (kk ls hl)) k
theorem gx_sub {N : Nat} {xs : Nat → Int32} {d : Nat} {M : Mt} {pc : Nat} {L : List (Option Value)} {st : List Value} {h h' : Hp} {r : Option Value} {L' : List (Option Value)} (hL : ∀ (i : Nat) (v : Value), L'[i]? = some (some v) → L[i]? = some (some v)) (kk : GoX N xs d M pc L' st h r h') : GoX N xs d M pc L st h r h' :=
  ⟨kk.1, kk.2.1, fun s0 D ol hw p l e R s m args below meth c C ls H locs cells slots hl hR hf b1 b2 =>
    kk.2.2 s0 D ol hw p l e R s m args below meth c C ls H locs cells slots ⟨hl.1, hl.2.1, fun i v hi => hl.2.2 i v (hL i v hi)⟩ hR hf b1 b2⟩
theorem gx_subL {N : Nat} {xs : Nat → Int32} {d : Nat} {M : Mt} {pc : Nat} {L : List (Option Value)} {st : List Value} {h h' : Hp} {r : Option Value} {L' : List (Option Value)} (hL : subL L' L) (kk : GoX N xs d M pc L' st h r h') : GoX N xs d M pc L st h r h' := gx_sub (subL_at hL) kk
theorem gx_at {N : Nat} {xs : Nat → Int32} {d : Nat} {M : Mt} {pc : Nat} {L : List (Option Value)} {st : List Value} {h h' : Hp} {r : Option Value} (n : Nat) (e : pc = n) (kk : GoX N xs d M n L st h r h') : GoX N xs d M pc L st h r h' := by rw [e]; exact kk
theorem gx_hp {N : Nat} {xs : Nat → Int32} {d : Nat} {M : Mt} {pc : Nat} {L : List (Option Value)} {st : List Value} {h h1 h' : Hp} {r : Option Value} (e : h = h1) (kk : GoX N xs d M pc L st h1 r h') : GoX N xs d M pc L st h r h' := by rw [e]; exact kk
def xI (N : Nat) (xs : Nat → Int32) (i : Int32) : Option Int32 := if inB i N = true then some (xs i.toNatClampNeg) else none
theorem gx_xI {N : Nat} {xs : Nat → Int32} {d : Nat} {M : Mt} {pc : Nat} {L : List (Option Value)} {st : List Value} {h h' : Hp} {r : Option Value} {i v : Int32} (hv : xI N xs i = some v) (hd : decode M.2.1 pc = .ok (.iaload, 1)) (kk : GoX N xs d M (pc + 1) L (.int v :: st) h r h') : GoX N xs d M pc L (.int i :: .ref 0 :: st) h r h' := by
  unfold xI at hv
  split at hv
  · rename_i hin
    obtain rfl := Option.some.inj hv
    refine ⟨kk.1, kk.2.1, fun s0 D ol hw p l e R s m args below meth c C ls H locs cells slots hl hR hf b1 b2 => ?_⟩
    have K := kk.2.2 s0 D ol hw p l e R s m args below meth c C ls H locs cells slots hl hR hf b1 b2
    obtain ⟨hx, hb, hml, hr, hlo, hown, hnm, hW, hfr, hlc, hsz⟩ := C
    obtain ⟨scr, h1, h2, h3, h4, h5⟩ := hw.2.2.2.1
    have ha : ad s0 ol 0 = ol 0 := if_pos (by omega)
    have hvi := inB_in hin
    show W p l e R s m args below meth c H locs cells slots _ (F0 m pc ls (.int i :: .ref (ad s0 ol 0) :: st.map (rv (ad s0 ol))))
    rw [ha]
    exact W.iald (v := .int (xs i.toNatClampNeg)) hx hb (by rw [hR.2.2.1 _ (Array.getElem?_eq_some_iff.mp h1).1]; exact h1) (State.isArrayOf_alike hW.alike h2) h3 (by rw [h4]; exact hvi) (h5 _ (Nat.not_le.mp fun q => hvi (Or.inr q))) rfl rfl hd K
  · cases hv
theorem gx_xL {N : Nat} {xs : Nat → Int32} {d : Nat} {M : Mt} {pc : Nat} {L : List (Option Value)} {st : List Value} {h h' : Hp} {r : Option Value} (hd : decode M.2.1 pc = .ok (.arraylength, 1)) (kk : GoX N xs d M (pc + 1) L (.int (Int32.ofNat N) :: st) h r h') : GoX N xs d M pc L (.ref 0 :: st) h r h' := by
  refine ⟨kk.1, kk.2.1, fun s0 D ol hw p l e R s m args below meth c C ls H locs cells slots hl hR hf b1 b2 => ?_⟩
  have K := kk.2.2 s0 D ol hw p l e R s m args below meth c C ls H locs cells slots hl hR hf b1 b2
  obtain ⟨hx, hb, hml, hr, hlo, hown, hnm, hW, hfr, hlc, hsz⟩ := C
  obtain ⟨scr, h1, h2, h3, h4, h5⟩ := hw.2.2.2.1
  have ha : ad s0 ol 0 = ol 0 := if_pos (by omega)
  show W p l e R s m args below meth c H locs cells slots _ (F0 m pc ls (.ref (ad s0 ol 0) :: st.map (rv (ad s0 ol))))
  rw [ha]
  exact W.alen (n := Int32.ofNat N) hx hb (by rw [hR.2.2.1 _ (Array.getElem?_eq_some_iff.mp h1).1]; exact h1) (State.isArrayOf_alike hW.alike h2) (by rw [h4] <;> rfl) rfl rfl hd K
