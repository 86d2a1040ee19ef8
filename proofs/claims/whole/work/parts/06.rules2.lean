/-! the small machine: arrays, new cells, answers, constants, switches -/
theorem go_iald {d : Nat} {M : Mt} {pc : Nat} {L : List (Option Value)} {st : List Value} {h h' : Hp} {r : Option Value} {a n : Nat} {g : Nat → Int32} {i : Int32} (ha : h.2.2 a = some (.inl (0, n, .inl g))) (hin : vp_in i n) (hd : decode M.2.1 pc = .ok (.iaload, 1))
    (kk : Go d M (pc + 1) L (.int (g i.toNatClampNeg) :: st) h r h') : Go d M pc L (.int i :: .ref a :: st) h r h' := by
  refine ⟨kk.1, kk.2.1, fun s0 D ol N xs hw p l e R s m args below meth c C ls H locs cells slots hl hR hf b1 b2 => ?_⟩
  have K := kk.2.2 s0 D ol N xs hw p l e R s m args below meth c C ls H locs cells slots hl hR hf b1 b2
  obtain ⟨hx, hb, hml, hr, hlo, hown, hnm, hW, hfr, hlc, hsz⟩ := C
  obtain ⟨-, -, cA, q1, q2, q3⟩ := hR.2.2.2 a _ ha
  have hlt : i.toNatClampNeg < n := Nat.not_le.mp fun q => hin (Or.inr q)
  exact W.iald (v := .int (g i.toNatClampNeg)) hx hb q3 ((arrOfT_moved hW.alike q1) n _) (fun q => by cases q) (by show ¬ (i < 0 ∨ (arrV _ _ _).slots.size ≤ _); rw [arrV_size]; exact hin) (by show (arrV _ _ _).slots[_]? = _; rw [arrV_read _ _ hlt]) rfl rfl hd K
theorem go_bald {d : Nat} {M : Mt} {pc : Nat} {L : List (Option Value)} {st : List Value} {h h' : Hp} {r : Option Value} {a n : Nat} {g : Nat → Int32} {i : Int32} (ha : h.2.2 a = some (.inl (1, n, .inl g))) (hin : vp_in i n) (hd : decode M.2.1 pc = .ok (.baload, 1))
    (kk : Go d M (pc + 1) L (.int (g i.toNatClampNeg) :: st) h r h') : Go d M pc L (.int i :: .ref a :: st) h r h' := by
  refine ⟨kk.1, kk.2.1, fun s0 D ol N xs hw p l e R s m args below meth c C ls H locs cells slots hl hR hf b1 b2 => ?_⟩
  have K := kk.2.2 s0 D ol N xs hw p l e R s m args below meth c C ls H locs cells slots hl hR hf b1 b2
  obtain ⟨hx, hb, hml, hr, hlo, hown, hnm, hW, hfr, hlc, hsz⟩ := C
  obtain ⟨-, -, cA, q1, q2, q3⟩ := hR.2.2.2 a _ ha
  have hlt : i.toNatClampNeg < n := Nat.not_le.mp fun q => hin (Or.inr q)
  exact W.bald (v := .int (g i.toNatClampNeg)) hx hb q3 ((arrOfT_moved hW.alike q1) n _) (fun q => by cases q) (by show ¬ (i < 0 ∨ (arrV _ _ _).slots.size ≤ _); rw [arrV_size]; exact hin) (by show (arrV _ _ _).slots[_]? = _; rw [arrV_read _ _ hlt]) rfl rfl hd K
theorem go_zald {d : Nat} {M : Mt} {pc : Nat} {L : List (Option Value)} {st : List Value} {h h' : Hp} {r : Option Value} {a n : Nat} {g : Nat → Int32} {i : Int32} (ha : h.2.2 a = some (.inl (3, n, .inl g))) (hin : vp_in i n) (hd : decode M.2.1 pc = .ok (.baload, 1))
    (kk : Go d M (pc + 1) L (.int (g i.toNatClampNeg) :: st) h r h') : Go d M pc L (.int i :: .ref a :: st) h r h' := by
  refine ⟨kk.1, kk.2.1, fun s0 D ol N xs hw p l e R s m args below meth c C ls H locs cells slots hl hR hf b1 b2 => ?_⟩
  have K := kk.2.2 s0 D ol N xs hw p l e R s m args below meth c C ls H locs cells slots hl hR hf b1 b2
  obtain ⟨hx, hb, hml, hr, hlo, hown, hnm, hW, hfr, hlc, hsz⟩ := C
  obtain ⟨-, -, cA, q1, q2, q3⟩ := hR.2.2.2 a _ ha
  have hlt : i.toNatClampNeg < n := Nat.not_le.mp fun q => hin (Or.inr q)
  exact W.zald (v := .int (g i.toNatClampNeg)) hx hb q3 ((arrOfT_moved hW.alike q1) n _) (fun q => by cases q) (by show ¬ (i < 0 ∨ (arrV _ _ _).slots.size ≤ _); rw [arrV_size]; exact hin) (by show (arrV _ _ _).slots[_]? = _; rw [arrV_read _ _ hlt]) rfl rfl hd K
theorem go_lald {d : Nat} {M : Mt} {pc : Nat} {L : List (Option Value)} {st : List Value} {h h' : Hp} {r : Option Value} {a n : Nat} {g : Nat → Int64} {i : Int32} (ha : h.2.2 a = some (.inl (2, n, .inr (.inl g)))) (hin : vp_in i n) (hd : decode M.2.1 pc = .ok (.laload, 1))
    (kk : Go d M (pc + 1) L (.long (g i.toNatClampNeg) :: st) h r h') : Go d M pc L (.int i :: .ref a :: st) h r h' := by
  refine ⟨kk.1, kk.2.1, fun s0 D ol N xs hw p l e R s m args below meth c C ls H locs cells slots hl hR hf b1 b2 => ?_⟩
  have K := kk.2.2 s0 D ol N xs hw p l e R s m args below meth c C ls H locs cells slots hl hR hf b1 b2
  obtain ⟨hx, hb, hml, hr, hlo, hown, hnm, hW, hfr, hlc, hsz⟩ := C
  obtain ⟨-, -, cA, q1, q2, q3⟩ := hR.2.2.2 a _ ha
  have hlt : i.toNatClampNeg < n := Nat.not_le.mp fun q => hin (Or.inr q)
  exact W.lald (v := .long (g i.toNatClampNeg)) hx hb q3 ((arrOfT_moved hW.alike q1) n _) (fun q => by cases q) (by show ¬ (i < 0 ∨ (arrV _ _ _).slots.size ≤ _); rw [arrV_size]; exact hin) (by show (arrV _ _ _).slots[_]? = _; rw [arrV_read _ _ hlt]) rfl rfl hd K
theorem rv_rf (f : Nat → Nat) (o : Option Nat) : rv f (va_rf o) = va_rf (o.map f) := by cases o <;> rfl
theorem isR (o : Option Nat) : va_rf o = .null ∨ ∃ n, va_rf o = .ref n := by cases o with
  | none => exact Or.inl rfl
  | some n => exact Or.inr ⟨n, rfl⟩
theorem aty_ref {t : Nat} (h : 4 ≤ t) : ∃ C, aty t = .object C := by
  unfold aty
  rw [if_neg (by omega), if_neg (by omega), if_neg (by omega), if_neg (by omega)]
  split
  · exact ⟨_, rfl⟩
  · split <;> exact ⟨_, rfl⟩
theorem go_aald {d : Nat} {M : Mt} {pc : Nat} {L : List (Option Value)} {st : List Value} {h h' : Hp} {r : Option Value} {a n t : Nat} {g : Nat → Option Nat} {i : Int32} (ha : h.2.2 a = some (.inl (t, n, .inr (.inr (.inr (.inr g)))))) (ht : 4 ≤ t) (hin : vp_in i n) (hd : decode M.2.1 pc = .ok (.aaload, 1))
    (kk : Go d M (pc + 1) L (va_rf (g i.toNatClampNeg) :: st) h r h') : Go d M pc L (.int i :: .ref a :: st) h r h' := by
  refine ⟨kk.1, kk.2.1, fun s0 D ol N xs hw p l e R s m args below meth c C ls H locs cells slots hl hR hf b1 b2 => ?_⟩
  have K := kk.2.2 s0 D ol N xs hw p l e R s m args below meth c C ls H locs cells slots hl hR hf b1 b2
  obtain ⟨hx, hb, hml, hr, hlo, hown, hnm, hW, hfr, hlc, hsz⟩ := C
  obtain ⟨-, -, cA, q1, q2, q3⟩ := hR.2.2.2 a _ ha
  obtain ⟨Cn, hC⟩ := aty_ref ht
  rw [hC] at q1
  rw [List.map_cons, rv_rf] at K
  have hlt : i.toNatClampNeg < n := Nat.not_le.mp fun q => hin (Or.inr q)
  exact W.aald (v := va_rf ((g i.toNatClampNeg).map (ad s0 ol))) (ty := .object Cn) hx hb q3 ((arrOfT_moved hW.alike q1) n _) rfl (fun q => by cases q) (by show ¬ (i < 0 ∨ (arrV _ _ _).slots.size ≤ _); rw [arrV_size]; exact hin) (by show (arrV _ _ _).slots[_]? = _; rw [arrV_read _ _ hlt]) rfl rfl hd K
theorem go_iast {d : Nat} {M : Mt} {pc : Nat} {L : List (Option Value)} {st : List Value} {h h' : Hp} {r : Option Value} {a n : Nat} {g : Nat → Int32} {i : Int32} {x : Int32} (ha : h.2.2 a = some (.inl (0, n, .inl g))) (hin : vp_in i n) (hd : decode M.2.1 pc = .ok (.iastore, 1))
    (kk : Go d M (pc + 1) L st (hp_set h a (.inl (0, n, .inl (upd g i.toNatClampNeg x)))) r h') : Go d M pc L (.int x :: .int i :: .ref a :: st) h r h' := by
  refine ⟨kk.1, kk.2.1, fun s0 D ol N xs hw p l e R s m args below meth c C ls H locs cells slots hl hR hf b1 b2 => ?_⟩
  have K := kk.2.2 s0 D ol N xs hw p l e R s m args below meth c C ls
  obtain ⟨hx, hb, hml, hr, hlo, hown, hnm, hW, hfr, hlc, hsz⟩ := C
  obtain ⟨a1, a2, cA, q1, q2, q3⟩ := hR.2.2.2 a _ ha
  refine W.iast hx hb q3 ((arrOfT_moved hW.alike q1) n _) (fun q => by cases q) (by show ¬ (i < 0 ∨ (arrV _ _ _).slots.size ≤ _); rw [arrV_size]; exact hin) rfl rfl hd fun H1 g1 z oq => ?_
  refine K H1 _ cells slots hl (hR.set ha z oq ⟨cA, q1, q2, ?_⟩) (fun zz hz => ?_) b1 b2
  · rw [g1]
    show some ((arrV cA n (fun j => .int (g j))).setSlot _ _) = some (arrV cA n (fun j => .int ((upd g i.toNatClampNeg x) j)))
    rw [arrV_store]
    congr 2
    funext q
    by_cases hq : q = i.toNatClampNeg
    · subst hq
      simp [updV, upd, vf_upd, vp_nar, narrow]
    · simp [updV, upd, vf_upd, hq]
  · rcases List.mem_append.mp hz with w | w
    · exact hf zz w
    · rw [List.mem_singleton.mp w]
      show s0.heap.size ≤ ad s0 ol a
      rw [ad_hi a1]
      omega
theorem go_bast {d : Nat} {M : Mt} {pc : Nat} {L : List (Option Value)} {st : List Value} {h h' : Hp} {r : Option Value} {a n : Nat} {g : Nat → Int32} {i : Int32} {x : Int32} (ha : h.2.2 a = some (.inl (1, n, .inl g))) (hin : vp_in i n) (hd : decode M.2.1 pc = .ok (.bastore, 1))
    (kk : Go d M (pc + 1) L st (hp_set h a (.inl (1, n, .inl (upd g i.toNatClampNeg x.toInt8.toInt32)))) r h') : Go d M pc L (.int x :: .int i :: .ref a :: st) h r h' := by
  refine ⟨kk.1, kk.2.1, fun s0 D ol N xs hw p l e R s m args below meth c C ls H locs cells slots hl hR hf b1 b2 => ?_⟩
  have K := kk.2.2 s0 D ol N xs hw p l e R s m args below meth c C ls
  obtain ⟨hx, hb, hml, hr, hlo, hown, hnm, hW, hfr, hlc, hsz⟩ := C
  obtain ⟨a1, a2, cA, q1, q2, q3⟩ := hR.2.2.2 a _ ha
  refine W.bast hx hb q3 ((arrOfT_moved hW.alike q1) n _) (fun q => by cases q) (by show ¬ (i < 0 ∨ (arrV _ _ _).slots.size ≤ _); rw [arrV_size]; exact hin) rfl rfl hd fun H1 g1 z oq => ?_
  refine K H1 _ cells slots hl (hR.set ha z oq ⟨cA, q1, q2, ?_⟩) (fun zz hz => ?_) b1 b2
  · rw [g1]
    show some ((arrV cA n (fun j => .int (g j))).setSlot _ _) = some (arrV cA n (fun j => .int ((upd g i.toNatClampNeg x.toInt8.toInt32) j)))
    rw [arrV_store]
    congr 2
    funext q
    by_cases hq : q = i.toNatClampNeg
    · subst hq
      simp [updV, upd, vf_upd, vp_nar, narrow]
    · simp [updV, upd, vf_upd, hq]
  · rcases List.mem_append.mp hz with w | w
    · exact hf zz w
    · rw [List.mem_singleton.mp w]
      show s0.heap.size ≤ ad s0 ol a
      rw [ad_hi a1]
      omega
theorem go_zast {d : Nat} {M : Mt} {pc : Nat} {L : List (Option Value)} {st : List Value} {h h' : Hp} {r : Option Value} {a n : Nat} {g : Nat → Int32} {i : Int32} {x : Int32} (ha : h.2.2 a = some (.inl (3, n, .inl g))) (hin : vp_in i n) (hd : decode M.2.1 pc = .ok (.bastore, 1))
    (kk : Go d M (pc + 1) L st (hp_set h a (.inl (3, n, .inl (upd g i.toNatClampNeg (x &&& 1))))) r h') : Go d M pc L (.int x :: .int i :: .ref a :: st) h r h' := by
  refine ⟨kk.1, kk.2.1, fun s0 D ol N xs hw p l e R s m args below meth c C ls H locs cells slots hl hR hf b1 b2 => ?_⟩
  have K := kk.2.2 s0 D ol N xs hw p l e R s m args below meth c C ls
  obtain ⟨hx, hb, hml, hr, hlo, hown, hnm, hW, hfr, hlc, hsz⟩ := C
  obtain ⟨a1, a2, cA, q1, q2, q3⟩ := hR.2.2.2 a _ ha
  refine W.zast hx hb q3 ((arrOfT_moved hW.alike q1) n _) (fun q => by cases q) (by show ¬ (i < 0 ∨ (arrV _ _ _).slots.size ≤ _); rw [arrV_size]; exact hin) rfl rfl hd fun H1 g1 z oq => ?_
  refine K H1 _ cells slots hl (hR.set ha z oq ⟨cA, q1, q2, ?_⟩) (fun zz hz => ?_) b1 b2
  · rw [g1]
    show some ((arrV cA n (fun j => .int (g j))).setSlot _ _) = some (arrV cA n (fun j => .int ((upd g i.toNatClampNeg (x &&& 1)) j)))
    rw [arrV_store]
    congr 2
    funext q
    by_cases hq : q = i.toNatClampNeg
    · subst hq
      simp [updV, upd, vf_upd, vp_nar, narrow]
    · simp [updV, upd, vf_upd, hq]
  · rcases List.mem_append.mp hz with w | w
    · exact hf zz w
    · rw [List.mem_singleton.mp w]
      show s0.heap.size ≤ ad s0 ol a
      rw [ad_hi a1]
      omega
theorem go_last {d : Nat} {M : Mt} {pc : Nat} {L : List (Option Value)} {st : List Value} {h h' : Hp} {r : Option Value} {a n : Nat} {g : Nat → Int64} {i : Int32} {x : Int64} (ha : h.2.2 a = some (.inl (2, n, .inr (.inl g)))) (hin : vp_in i n) (hd : decode M.2.1 pc = .ok (.lastore, 1))
    (kk : Go d M (pc + 1) L st (hp_set h a (.inl (2, n, .inr (.inl (vf_upd g i.toNatClampNeg x))))) r h') : Go d M pc L (.long x :: .int i :: .ref a :: st) h r h' := by
  refine ⟨kk.1, kk.2.1, fun s0 D ol N xs hw p l e R s m args below meth c C ls H locs cells slots hl hR hf b1 b2 => ?_⟩
  have K := kk.2.2 s0 D ol N xs hw p l e R s m args below meth c C ls
  obtain ⟨hx, hb, hml, hr, hlo, hown, hnm, hW, hfr, hlc, hsz⟩ := C
  obtain ⟨a1, a2, cA, q1, q2, q3⟩ := hR.2.2.2 a _ ha
  refine W.last hx hb q3 ((arrOfT_moved hW.alike q1) n _) (fun q => by cases q) (by show ¬ (i < 0 ∨ (arrV _ _ _).slots.size ≤ _); rw [arrV_size]; exact hin) rfl rfl hd fun H1 g1 z oq => ?_
  refine K H1 _ cells slots hl (hR.set ha z oq ⟨cA, q1, q2, ?_⟩) (fun zz hz => ?_) b1 b2
  · rw [g1]
    show some ((arrV cA n (fun j => .long (g j))).setSlot _ _) = some (arrV cA n (fun j => .long ((vf_upd g i.toNatClampNeg x) j)))
    rw [arrV_store]
    congr 2
    funext q
    by_cases hq : q = i.toNatClampNeg
    · subst hq
      simp [updV, upd, vf_upd, vp_nar, narrow]
    · simp [updV, upd, vf_upd, hq]
  · rcases List.mem_append.mp hz with w | w
    · exact hf zz w
    · rw [List.mem_singleton.mp w]
      show s0.heap.size ≤ ad s0 ol a
      rw [ad_hi a1]
      omega
theorem go_aast {d : Nat} {M : Mt} {pc : Nat} {L : List (Option Value)} {st : List Value} {h h' : Hp} {r : Option Value} {a n t v ci : Nat} {q : vw_C} {fs : List Value} {g : Nat → Option Nat} {i : Int32} (ha : h.2.2 a = some (.inl (t, n, .inr (.inr (.inr (.inr g)))))) (ht : 4 ≤ t) (hv : h.2.2 v = some (.inr (ci, fs))) (hc : cls[ci]? = some q) (hty : aty t = .object q.1) (hin : vp_in i n) (hd : decode M.2.1 pc = .ok (.aastore, 1))
    (kk : Go d M (pc + 1) L st (hp_set h a (.inl (t, n, .inr (.inr (.inr (.inr (va_up g i.toNatClampNeg (some v)))))))) r h') : Go d M pc L (.ref v :: .int i :: .ref a :: st) h r h' := by
  refine ⟨kk.1, kk.2.1, fun s0 D ol N xs hw p l e R s m args below meth c C ls H locs cells slots hl hR hf b1 b2 => ?_⟩
  have K := kk.2.2 s0 D ol N xs hw p l e R s m args below meth c C ls
  obtain ⟨hx, hb, hml, hr, hlo, hown, hnm, hW, hfr, hlc, hsz⟩ := C
  obtain ⟨a1, a2, cA, q1, q2, q3⟩ := hR.2.2.2 a _ ha
  obtain ⟨-, -, q', hq', hlen, cellV, e1, e2, e3, e4⟩ := hR.2.2.2 v _ hv
  have hqq : q' = q := Option.some.inj (hq'.symm.trans hc)
  subst hqq
  have hcls := (u_Kn_moved hW.alike (hw.2.1 ci q' hc)).2
  have q2s := va_RA.moved hW.alike q2
  rw [hty] at q2s
  obtain ⟨kA, comp, k1, k2, k3, -⟩ := q2s
  have hcomp : comp = D.1 ci := Option.some.inj (k3.symm.trans hcls.1)
  subst hcomp
  obtain ⟨kC, hkC, -⟩ := hcls.2
  have h0 : ¬ i < 0 := fun q => hin (Or.inl q)
  have hlt : i.toNatClampNeg < n := Nat.not_le.mp fun q => hin (Or.inr q)
  refine W.aast hx hb q3 (fun q h => by cases h) (fun h => by cases h) k1 k2 rfl hkC ⟨h0, by show _ < (arrV _ _ _).slots.size; rw [arrV_size]; exact hlt⟩ e1 (fun q h => by rw [e3] at h; cases h) (by rw [e2]; exact hkC) (by rw [e2]; exact va_assign hcls) rfl rfl hd fun H1 g1 z oq => ?_
  refine K H1 _ cells slots hl (hR.set ha z oq ⟨cA, q1, q2, ?_⟩) (fun zz hz => ?_) b1 b2
  · rw [g1]
    show some ((arrV cA n (fun j => va_rf ((g j).map (ad s0 ol)))).setSlot _ _) = some (arrV cA n (fun j => va_rf ((va_up g i.toNatClampNeg (some v) j).map (ad s0 ol))))
    rw [arrV_store]
    congr 2
    funext q
    by_cases hq : q = i.toNatClampNeg
    · subst hq
      simp [updV, va_up, va_rf]
    · simp [updV, va_up, hq]
  · rcases List.mem_append.mp hz with w | w
    · exact hf zz w
    · rw [List.mem_singleton.mp w]
      show s0.heap.size ≤ ad s0 ol a
      rw [ad_hi a1]
      omega
theorem go_alen {d : Nat} {M : Mt} {pc : Nat} {L : List (Option Value)} {st : List Value} {h h' : Hp} {r : Option Value} {a n t : Nat} {x : (Nat → Int32) ⊕ (Nat → Int64) ⊕ (Nat → UInt32) ⊕ (Nat → UInt64) ⊕ (Nat → Option Nat)} (ha : h.2.2 a = some (.inl (t, n, x))) (hd : decode M.2.1 pc = .ok (.arraylength, 1))
    (kk : Go d M (pc + 1) L (.int (Int32.ofNat n) :: st) h r h') : Go d M pc L (.ref a :: st) h r h' := by
  refine ⟨kk.1, kk.2.1, fun s0 D ol N xs hw p l e R s m args below meth c C ls H locs cells slots hl hR hf b1 b2 => ?_⟩
  have K := kk.2.2 s0 D ol N xs hw p l e R s m args below meth c C ls H locs cells slots hl hR hf b1 b2
  obtain ⟨hx, hb, hml, hr, hlo, hown, hnm, hW, hfr, hlc, hsz⟩ := C
  obtain ⟨-, -, cA, q1, q2, q3⟩ := hR.2.2.2 a _ ha
  have q1 := arrOfT_moved hW.alike q1
  obtain g | g | g | g | g := x
  · exact W.alen (n := Int32.ofNat n) hx hb q3 (q1 n _) (by show (arrV _ _ _).slots.size.toInt32 = _; rw [arrV_size] <;> rfl) rfl rfl hd K
  · exact W.alen (n := Int32.ofNat n) hx hb q3 (q1 n _) (by show (arrV _ _ _).slots.size.toInt32 = _; rw [arrV_size] <;> rfl) rfl rfl hd K
  · exact W.alen (n := Int32.ofNat n) hx hb q3 (q1 n _) (by show (arrV _ _ _).slots.size.toInt32 = _; rw [arrV_size] <;> rfl) rfl rfl hd K
  · exact W.alen (n := Int32.ofNat n) hx hb q3 (q1 n _) (by show (arrV _ _ _).slots.size.toInt32 = _; rw [arrV_size] <;> rfl) rfl rfl hd K
  · exact W.alen (n := Int32.ofNat n) hx hb q3 (q1 n _) (by show (arrV _ _ _).slots.size.toInt32 = _; rw [arrV_size] <;> rfl) rfl rfl hd K
theorem go_new {d : Nat} {M : Mt} {pc : Nat} {L : List (Option Value)} {st : List Value} {h h' : Hp} {r : Option Value} {index ci : Nat} {q : vw_C} {fs : List Value} (hc : cls[ci]? = some q) (hfs : fs = (List.range q.2.2).map (fun j => defaultValue (ctyp ci j))) (hlk : Wg (.classLink M.1.cls index q.1)) (hins : Wg (.instantiable q.1 q.2.2)) (hini : Wg (.initialized q.1)) (hd : decode M.2.1 pc = .ok (.new index, 3))
    (kk : Go d M (pc + 3) L (.ref h.1 :: st) (hp_new h q.2.2 (.inr (ci, fs))) r h') : Go d M pc L st h r h' := by
  have k1 := kk.1
  have k2 := kk.2.1
  simp only [hp_new] at k1 k2
  refine ⟨by omega, by omega, fun s0 D ol N xs hw p l e R s m args below meth c C ls H locs cells slots hl hR hf b1 b2 => ?_⟩
  have K := kk.2.2 s0 D ol N xs hw p l e R s m args below meth c C ls
  obtain ⟨hx, hb, hml, hr, hlo, hown, hnm, hW, hfr, hlc, hsz⟩ := C
  have hKn := u_Kn_moved hW.alike (hw.2.1 ci q hc)
  have htop := hR.top
  refine W.newcK hx hb hown (word hw hW hlk) (word hw hW hins) (word hw hW hini) rfl hd (by omega) (by omega) hKn.2.1 htop fun H1 kC hkC e1 z1 o1 => ?_
  refine K H1 _ (cells + 1) (slots + q.2.2) hl (hR.new (k := q.2.2) (by rw [z1, htop]) (fun x hx => o1 x (by rw [← htop]; exact hx)) ⟨q, hc, by rw [hfs]; simp, ?_⟩) hf (by simp only [hp_new]; omega) (by simp only [hp_new]; omega)
  have hob := u_born (ctyp ci) (ws := u_ws q.1 q.2.1 q.2.2) (args := args) (fun w h => word hw hW (cls_ck ci q hc w h)) (fun _ h => h) hKn hkC e1 (cls_ty ci q hc)
  refine hob.to (fun j hj => ?_)
  rw [hfs]
  simp only [vp_V, List.map_map]
  rw [List.getD_eq_getElem?_getD, List.getElem?_map, List.getElem?_range hj]
  simp only [Option.map_some, Option.getD_some, Function.comp]
  cases (ctyp ci j) <;> rfl
theorem alike_sym {u v : Vm} (h : u.Alike v) : v.Alike u := h.symm
theorem go_newi {d : Nat} {M : Mt} {pc : Nat} {L : List (Option Value)} {st : List Value} {h h' : Hp} {r : Option Value} {n : Int32} (hn : ¬ n < 0) (hb4 : n.toNatClampNeg ≤ 10000000) (harr : Wg (.arrayClass .int)) (hd : decode M.2.1 pc = .ok (.newarray .int, 2))
    (kk : Go d M (pc + 2) L (.ref h.1 :: st) (hp_new h n.toNatClampNeg (.inl (0, n.toNatClampNeg, .inl (fun _ => 0)))) r h') : Go d M pc L (.int n :: st) h r h' := by
  have k1 := kk.1
  have k2 := kk.2.1
  simp only [hp_new] at k1 k2
  refine ⟨by omega, by omega, fun s0 D ol N xs hw p l e R s m args below meth c C ls H locs cells slots hl hR hf b1 b2 => ?_⟩
  have K := kk.2.2 s0 D ol N xs hw p l e R s m args below meth c C ls
  obtain ⟨hx, hb, hml, hr, hlo, hown, hnm, hW, hfr, hlc, hsz⟩ := C
  have htop := hR.top
  refine va_newaK (atype := .int) hx hb (word hw hW harr) rfl hd rfl hn rfl (by show _ * componentBytes .int ≤ _; simp only [componentBytes]; omega) (by omega) (by omega) htop fun H1 cA e1 z1 o1 hAr hNm => ?_
  refine K H1 _ (cells + 1) (slots + n.toNatClampNeg) hl (hR.new (k := n.toNatClampNeg) (by rw [z1, htop]) (fun x hx => o1 x (by rw [← htop]; exact hx)) ⟨cA, arrOfT_moved (alike_sym hW.alike) hAr, ?_, e1⟩) hf (by simp only [hp_new]; omega) (by simp only [hp_new]; omega)
  exact va_RA.moved (alike_sym hW.alike) (show va_RA s cA .int from hNm)
theorem go_newb {d : Nat} {M : Mt} {pc : Nat} {L : List (Option Value)} {st : List Value} {h h' : Hp} {r : Option Value} {n : Int32} (hn : ¬ n < 0) (hb4 : n.toNatClampNeg ≤ 10000000) (harr : Wg (.arrayClass .byte)) (hd : decode M.2.1 pc = .ok (.newarray .byte, 2))
    (kk : Go d M (pc + 2) L (.ref h.1 :: st) (hp_new h n.toNatClampNeg (.inl (1, n.toNatClampNeg, .inl (fun _ => 0)))) r h') : Go d M pc L (.int n :: st) h r h' := by
  have k1 := kk.1
  have k2 := kk.2.1
  simp only [hp_new] at k1 k2
  refine ⟨by omega, by omega, fun s0 D ol N xs hw p l e R s m args below meth c C ls H locs cells slots hl hR hf b1 b2 => ?_⟩
  have K := kk.2.2 s0 D ol N xs hw p l e R s m args below meth c C ls
  obtain ⟨hx, hb, hml, hr, hlo, hown, hnm, hW, hfr, hlc, hsz⟩ := C
  have htop := hR.top
  refine va_newaK (atype := .byte) hx hb (word hw hW harr) rfl hd rfl hn rfl (by show _ * componentBytes .byte ≤ _; simp only [componentBytes]; omega) (by omega) (by omega) htop fun H1 cA e1 z1 o1 hAr hNm => ?_
  refine K H1 _ (cells + 1) (slots + n.toNatClampNeg) hl (hR.new (k := n.toNatClampNeg) (by rw [z1, htop]) (fun x hx => o1 x (by rw [← htop]; exact hx)) ⟨cA, arrOfT_moved (alike_sym hW.alike) hAr, ?_, e1⟩) hf (by simp only [hp_new]; omega) (by simp only [hp_new]; omega)
  exact va_RA.moved (alike_sym hW.alike) (show va_RA s cA .byte from hNm)
theorem go_newl {d : Nat} {M : Mt} {pc : Nat} {L : List (Option Value)} {st : List Value} {h h' : Hp} {r : Option Value} {n : Int32} (hn : ¬ n < 0) (hb4 : n.toNatClampNeg ≤ 10000000) (harr : Wg (.arrayClass .long)) (hd : decode M.2.1 pc = .ok (.newarray .long, 2))
    (kk : Go d M (pc + 2) L (.ref h.1 :: st) (hp_new h n.toNatClampNeg (.inl (2, n.toNatClampNeg, .inr (.inl (fun _ => 0))))) r h') : Go d M pc L (.int n :: st) h r h' := by
  have k1 := kk.1
  have k2 := kk.2.1
  simp only [hp_new] at k1 k2
  refine ⟨by omega, by omega, fun s0 D ol N xs hw p l e R s m args below meth c C ls H locs cells slots hl hR hf b1 b2 => ?_⟩
  have K := kk.2.2 s0 D ol N xs hw p l e R s m args below meth c C ls
  obtain ⟨hx, hb, hml, hr, hlo, hown, hnm, hW, hfr, hlc, hsz⟩ := C
  have htop := hR.top
  refine va_newaK (atype := .long) hx hb (word hw hW harr) rfl hd rfl hn rfl (by show _ * componentBytes .long ≤ _; simp only [componentBytes]; omega) (by omega) (by omega) htop fun H1 cA e1 z1 o1 hAr hNm => ?_
  refine K H1 _ (cells + 1) (slots + n.toNatClampNeg) hl (hR.new (k := n.toNatClampNeg) (by rw [z1, htop]) (fun x hx => o1 x (by rw [← htop]; exact hx)) ⟨cA, arrOfT_moved (alike_sym hW.alike) hAr, ?_, e1⟩) hf (by simp only [hp_new]; omega) (by simp only [hp_new]; omega)
  exact va_RA.moved (alike_sym hW.alike) (show va_RA s cA .long from hNm)
theorem go_newz {d : Nat} {M : Mt} {pc : Nat} {L : List (Option Value)} {st : List Value} {h h' : Hp} {r : Option Value} {n : Int32} (hn : ¬ n < 0) (hb4 : n.toNatClampNeg ≤ 10000000) (harr : Wg (.arrayClass .boolean)) (hd : decode M.2.1 pc = .ok (.newarray .boolean, 2))
    (kk : Go d M (pc + 2) L (.ref h.1 :: st) (hp_new h n.toNatClampNeg (.inl (3, n.toNatClampNeg, .inl (fun _ => 0)))) r h') : Go d M pc L (.int n :: st) h r h' := by
  have k1 := kk.1
  have k2 := kk.2.1
  simp only [hp_new] at k1 k2
  refine ⟨by omega, by omega, fun s0 D ol N xs hw p l e R s m args below meth c C ls H locs cells slots hl hR hf b1 b2 => ?_⟩
  have K := kk.2.2 s0 D ol N xs hw p l e R s m args below meth c C ls
  obtain ⟨hx, hb, hml, hr, hlo, hown, hnm, hW, hfr, hlc, hsz⟩ := C
  have htop := hR.top
  refine va_newaK (atype := .boolean) hx hb (word hw hW harr) rfl hd rfl hn rfl (by show _ * componentBytes .boolean ≤ _; simp only [componentBytes]; omega) (by omega) (by omega) htop fun H1 cA e1 z1 o1 hAr hNm => ?_
  refine K H1 _ (cells + 1) (slots + n.toNatClampNeg) hl (hR.new (k := n.toNatClampNeg) (by rw [z1, htop]) (fun x hx => o1 x (by rw [← htop]; exact hx)) ⟨cA, arrOfT_moved (alike_sym hW.alike) hAr, ?_, e1⟩) hf (by simp only [hp_new]; omega) (by simp only [hp_new]; omega)
  exact va_RA.moved (alike_sym hW.alike) (show va_RA s cA .boolean from hNm)
theorem go_anew {d : Nat} {M : Mt} {pc : Nat} {L : List (Option Value)} {st : List Value} {h h' : Hp} {r : Option Value} {n : Int32} {t index : Nat} {Cn : String} (ht : aty t = .object Cn) (hn : ¬ n < 0) (hb4 : n.toNatClampNeg ≤ 10000000) (hlk : Wg (.classLink M.1.cls index Cn)) (hov : Cond.arrayOver (.object Cn) ∈ lw_tbl) (hd : decode M.2.1 pc = .ok (.anewarray index, 3))
    (kk : Go d M (pc + 3) L (.ref h.1 :: st) (hp_new h n.toNatClampNeg (.inl (t, n.toNatClampNeg, .inr (.inr (.inr (.inr (fun _ => none))))))) r h') : Go d M pc L (.int n :: st) h r h' := by
  have k1 := kk.1
  have k2 := kk.2.1
  simp only [hp_new] at k1 k2
  refine ⟨by omega, by omega, fun s0 D ol N xs hw p l e R s m args below meth c C ls H locs cells slots hl hR hf b1 b2 => ?_⟩
  have K := kk.2.2 s0 D ol N xs hw p l e R s m args below meth c C ls
  obtain ⟨hx, hb, hml, hr, hlo, hown, hnm, hW, hfr, hlc, hsz⟩ := C
  have htop := hR.top
  refine W.anew hx hb hown (word hw hW hlk) (va_AO.use (va_AO.moved hW.alike (va_AO.of (hw.1 _ hov)))) rfl hd rfl hn (by omega) (by omega) (by omega) fun cA kA comp f1 f2 f3 f4 => ?_
  rw [htop]
  generalize hH1 : H.push ({ cls := cA, slots := Array.replicate n.toNatClampNeg .null, vm := .none } : Cell) = H1
  have z1 : H1.size = H.size + 1 := by rw [← hH1, Array.size_push]
  have e1 : H1[H.size]? = some (arrV cA n.toNatClampNeg (fun _ => .null)) := by rw [← hH1, Array.getElem?_push_size, ← arrV_new]
  have o1 : ∀ q : Nat, q < H.size → H1[q]? = H[q]? := fun q hq => by rw [← hH1, Array.getElem?_push, if_neg (Nat.ne_of_lt hq)]
  have hAr : ArrOfT s cA (.object Cn) := fun N z => ⟨(fun k h => by cases h), kA, f2, comp, f3⟩
  refine K H1 _ (cells + 1) (slots + n.toNatClampNeg) hl (hR.new (k := n.toNatClampNeg) z1 o1 ⟨cA, ?_, ?_, ?_⟩) hf (by simp only [hp_new]; omega) (by simp only [hp_new]; omega)
  · rw [ht]; exact arrOfT_moved (alike_sym hW.alike) hAr
  · rw [ht]; exact va_RA.moved (alike_sym hW.alike) (show va_RA s cA (.object Cn) from ⟨kA, comp, f2, f3, f4, f1⟩)
  · rw [← htop]; exact e1
theorem go_iret {d : Nat} {M : Mt} {pc : Nat} {L : List (Option Value)} {h : Hp} {v : Int32} (hrt : M.2.2.2 = some .int) (hd : decode M.2.1 pc = .ok (.ireturn, 1)) : Go d M pc L ([.int v]) h (some (.int v)) h := by
  refine ⟨Nat.le_refl _, Nat.le_refl _, fun s0 D ol N xs hw p l e R s m args below meth c C ls H locs cells slots hl hR hf b1 b2 => ?_⟩
  obtain ⟨hx, hb, hml, hr, hlo, hown, hnm, hW, hfr, hlc, hsz⟩ := C
  refine W.widen (k := R.cells) (n := R.slots) (by omega) (by omega) ?_
  exact W.iret hx hb (hr.trans hrt) (fun t ht _ => ⟨rfl, by rw [ht]; exact hR⟩) (fun q hq => hf q hq) hd (hlocks := hlo)
theorem go_zret {d : Nat} {M : Mt} {pc : Nat} {L : List (Option Value)} {h : Hp} {v : Int32} {ty : FieldType} (hrt : M.2.2.2 = some ty) (hn : narrow ty (.int v) = .int v) (hd : decode M.2.1 pc = .ok (.ireturn, 1)) : Go d M pc L ([.int v]) h (some (.int v)) h := by
  refine ⟨Nat.le_refl _, Nat.le_refl _, fun s0 D ol N xs hw p l e R s m args below meth c C ls H locs cells slots hl hR hf b1 b2 => ?_⟩
  obtain ⟨hx, hb, hml, hr, hlo, hown, hnm, hW, hfr, hlc, hsz⟩ := C
  refine W.widen (k := R.cells) (n := R.slots) (by omega) (by omega) ?_
  exact W.zret (ty := ty) hx hb (hr.trans hrt) hn (fun t ht _ => ⟨rfl, by rw [ht]; exact hR⟩) (fun q hq => hf q hq) hd (hlocks := hlo)
theorem go_lret {d : Nat} {M : Mt} {pc : Nat} {L : List (Option Value)} {h : Hp} {v : Int64} (hrt : M.2.2.2 = some .long) (hd : decode M.2.1 pc = .ok (.lreturn, 1)) : Go d M pc L ([.long v]) h (some (.long v)) h := by
  refine ⟨Nat.le_refl _, Nat.le_refl _, fun s0 D ol N xs hw p l e R s m args below meth c C ls H locs cells slots hl hR hf b1 b2 => ?_⟩
  obtain ⟨hx, hb, hml, hr, hlo, hown, hnm, hW, hfr, hlc, hsz⟩ := C
  refine W.widen (k := R.cells) (n := R.slots) (by omega) (by omega) ?_
  exact W.lret hx hb (hr.trans hrt) (fun t ht _ => ⟨rfl, by rw [ht]; exact hR⟩) (fun q hq => hf q hq) hd (hlocks := hlo)
theorem go_vret {d : Nat} {M : Mt} {pc : Nat} {L : List (Option Value)} {h : Hp} (hrt : M.2.2.2 = none) (hd : decode M.2.1 pc = .ok (.return_, 1)) : Go d M pc L ([]) h (none) h := by
  refine ⟨Nat.le_refl _, Nat.le_refl _, fun s0 D ol N xs hw p l e R s m args below meth c C ls H locs cells slots hl hR hf b1 b2 => ?_⟩
  obtain ⟨hx, hb, hml, hr, hlo, hown, hnm, hW, hfr, hlc, hsz⟩ := C
  refine W.widen (k := R.cells) (n := R.slots) (by omega) (by omega) ?_
  exact W.vret hx hb (hr.trans hrt) (fun t ht _ => ⟨rfl, by rw [ht]; exact hR⟩) (fun q hq => hf q hq) hd (hlocks := hlo)
theorem go_aret {d : Nat} {M : Mt} {pc : Nat} {L : List (Option Value)} {h : Hp} {v : Value} {rt : FieldType} (hrt : M.2.2.2 = some rt) (hty : (∃ n, rt = .object n) ∨ ∃ t, rt = .array t) (hv : v = .null ∨ ∃ n, v = .ref n) (hd : decode M.2.1 pc = .ok (.areturn, 1)) : Go d M pc L ([v]) h (some v) h := by
  refine ⟨Nat.le_refl _, Nat.le_refl _, fun s0 D ol N xs hw p l e R s m args below meth c C ls H locs cells slots hl hR hf b1 b2 => ?_⟩
  obtain ⟨hx, hb, hml, hr, hlo, hown, hnm, hW, hfr, hlc, hsz⟩ := C
  refine W.widen (k := R.cells) (n := R.slots) (by omega) (by omega) ?_
  exact W.aret (rt := rt) hx hb (hr.trans hrt) hty (by rcases hv with rfl | ⟨n, rfl⟩; exact Or.inl rfl; exact Or.inr ⟨_, rfl⟩) (fun t ht _ => ⟨rfl, by rw [ht]; exact hR⟩) (fun q hq => hf q hq) hd (hlocks := hlo)
theorem go_ldc {d : Nat} {M : Mt} {pc : Nat} {L : List (Option Value)} {st : List Value} {h h' : Hp} {r : Option Value} {index : Nat} {v : Int32} (hlk : Wg (.constant M.1.cls index v)) (hd : decode M.2.1 pc = .ok (.ldc index, 2)) (kk : Go d M (pc + 2) L (.int v :: st) h r h') : Go d M pc L st h r h' := by
  refine ⟨kk.1, kk.2.1, fun s0 D ol N xs hw p l e R s m args below meth c C ls H locs cells slots hl hR hf b1 b2 => ?_⟩
  have K := kk.2.2 s0 D ol N xs hw p l e R s m args below meth c C ls H locs cells slots hl hR hf b1 b2
  obtain ⟨hx, hb, hml, hr, hlo, hown, hnm, hW, hfr, hlc, hsz⟩ := C
  exact lv_ldc hx hb hown (word hw hW hlk) hd K
theorem go_ldcw {d : Nat} {M : Mt} {pc : Nat} {L : List (Option Value)} {st : List Value} {h h' : Hp} {r : Option Value} {index : Nat} {v : Int32} (hlk : Wg (.constant M.1.cls index v)) (hd : decode M.2.1 pc = .ok (.ldc_w index, 3)) (kk : Go d M (pc + 3) L (.int v :: st) h r h') : Go d M pc L st h r h' := by
  refine ⟨kk.1, kk.2.1, fun s0 D ol N xs hw p l e R s m args below meth c C ls H locs cells slots hl hR hf b1 b2 => ?_⟩
  have K := kk.2.2 s0 D ol N xs hw p l e R s m args below meth c C ls H locs cells slots hl hR hf b1 b2
  obtain ⟨hx, hb, hml, hr, hlo, hown, hnm, hW, hfr, hlc, hsz⟩ := C
  exact lv_ldcw hx hb hown (word hw hW hlk) hd K
theorem go_ldc2 {d : Nat} {M : Mt} {pc : Nat} {L : List (Option Value)} {st : List Value} {h h' : Hp} {r : Option Value} {index : Nat} {v : Int64} (hlk : Wg (.constantLong M.1.cls index v)) (hd : decode M.2.1 pc = .ok (.ldc2_w index, 3)) (kk : Go d M (pc + 3) L (.long v :: st) h r h') : Go d M pc L st h r h' := by
  refine ⟨kk.1, kk.2.1, fun s0 D ol N xs hw p l e R s m args below meth c C ls H locs cells slots hl hR hf b1 b2 => ?_⟩
  have K := kk.2.2 s0 D ol N xs hw p l e R s m args below meth c C ls H locs cells slots hl hR hf b1 b2
  obtain ⟨hx, hb, hml, hr, hlo, hown, hnm, hW, hfr, hlc, hsz⟩ := C
  exact lv_ldc2 hx hb hown (word hw hW hlk) hd K
theorem go_ifnull {d : Nat} {M : Mt} {pc : Nat} {L : List (Option Value)} {st : List Value} {h h' : Hp} {r : Option Value} {o : Option Nat} {off : Int} {tgt : Nat} (ht : (pc : Int) + off = (tgt : Int)) (hd : decode M.2.1 pc = .ok (.ifnull off, 3)) (kt : o = none → Go d M tgt L st h r h') (kf : ¬ o = none → Go d M (pc + 3) L st h r h') : Go d M pc L (va_rf o :: st) h r h' := by
  cases o with
  | none => exact go_pure (fun p l e R s m args below meth c H locs cells slots Q ls f hx hb hl kk => lv_ifnullN hx hb hd ht (kk ls hl)) (kt rfl)
  | some n => exact go_pure (fun p l e R s m args below meth c H locs cells slots Q ls f hx hb hl kk => lv_ifnull hx hb hd (kk ls hl)) (kf (fun z => by cases z))
theorem go_ifnonnull {d : Nat} {M : Mt} {pc : Nat} {L : List (Option Value)} {st : List Value} {h h' : Hp} {r : Option Value} {o : Option Nat} {off : Int} {tgt : Nat} (ht : (pc : Int) + off = (tgt : Int)) (hd : decode M.2.1 pc = .ok (.ifnonnull off, 3)) (kt : ¬ o = none → Go d M tgt L st h r h') (kf : o = none → Go d M (pc + 3) L st h r h') : Go d M pc L (va_rf o :: st) h r h' := by
  cases o with
  | none => exact go_pure (fun p l e R s m args below meth c H locs cells slots Q ls f hx hb hl kk => lv_ifnonnullN hx hb hd (kk ls hl)) (kf rfl)
  | some n => exact go_pure (fun p l e R s m args below meth c H locs cells slots Q ls f hx hb hl kk => lv_ifnonnull hx hb hd ht (kk ls hl)) (kt (fun z => by cases z))
theorem go_tableOut {d : Nat} {M : Mt} {pc : Nat} {L : List (Option Value)} {st : List Value} {h h' : Hp} {r : Option Value} {dflt lo hi : Int} {offs : Array Int} {len : Nat} {x : Int32} {tgt : Nat} (h0 : x.toInt < lo ∨ hi < x.toInt) (ht : (pc : Int) + dflt = (tgt : Int)) (hd : decode M.2.1 pc = .ok (.tableswitch dflt lo hi offs, len)) (k : Go d M tgt L st h r h') : Go d M pc L (.int x :: st) h r h' := go_pure (fun p l e R s m args below meth c H locs cells slots Q ls f hx hb hl kk => lv_tableOut hx hb hd h0 ht (kk ls hl)) k
theorem go_tableIn {d : Nat} {M : Mt} {pc : Nat} {L : List (Option Value)} {st : List Value} {h h' : Hp} {r : Option Value} {dflt lo hi : Int} {offs : Array Int} {len : Nat} {x : Int32} {off : Int} {tgt : Nat} (h1 : ¬ x.toInt < lo) (h2 : ¬ hi < x.toInt) (ho : offs[(x.toInt - lo).toNat]? = some off) (ht : (pc : Int) + off = (tgt : Int)) (hd : decode M.2.1 pc = .ok (.tableswitch dflt lo hi offs, len)) (k : Go d M tgt L st h r h') : Go d M pc L (.int x :: st) h r h' := go_pure (fun p l e R s m args below meth c H locs cells slots Q ls f hx hb hl kk => lv_tableIn hx hb hd h1 h2 ho ht (kk ls hl)) k
theorem ad_inj {s0 : State} {ol : Nat → Nat} {a b : Nat} (ha : 80 ≤ a) (hb : 80 ≤ b) (h : ad s0 ol a = ad s0 ol b) : a = b := by rw [ad_hi ha, ad_hi hb] at h; omega
def hiR (o : Option Nat) : Prop := ∀ n, o = some n → 80 ≤ n
theorem map_ad_inj {s0 : State} {ol : Nat → Nat} {a b : Option Nat} (ha : hiR a) (hb : hiR b) (h : a.map (ad s0 ol) = b.map (ad s0 ol)) : a = b := by
  cases a with
  | none => cases b with
    | none => rfl
    | some y => cases h
  | some x => cases b with
    | none => cases h
    | some y => rw [ad_inj (ha x rfl) (hb y rfl) (Option.some.inj h)]
theorem go_acmp_eq {d : Nat} {M : Mt} {pc : Nat} {L : List (Option Value)} {st : List Value} {h h' : Hp} {r : Option Value} {a b : Option Nat} {off : Int} {tgt : Nat} (ha : hiR a) (hb0 : hiR b) (ht : (pc : Int) + off = (tgt : Int)) (hd : decode M.2.1 pc = .ok (.if_acmp .eq off, 3)) (kt : a = b → Go d M tgt L st h r h') (kf : ¬ a = b → Go d M (pc + 3) L st h r h') : Go d M pc L (va_rf b :: va_rf a :: st) h r h' := by
  have key : h.1 ≤ h'.1 ∧ h.2.1 ≤ h'.2.1 := by
    by_cases q : a = b
    · exact ⟨(kt q).1, (kt q).2.1⟩
    · exact ⟨(kf (by first | exact q | exact Classical.not_not.mp q)).1, (kf (by first | exact q | exact Classical.not_not.mp q)).2.1⟩
  refine ⟨key.1, key.2, fun s0 D ol N xs hw p l e R s m args below meth c C ls H locs cells slots hl hR hf b1 b2 => ?_⟩
  rw [List.map_cons, List.map_cons, rv_rf, rv_rf]
  exact lv_acmp_eq (rx := a.map (ad s0 ol)) (ry := b.map (ad s0 ol)) C.1 C.2.1 hd ht (fun q => (kt (map_ad_inj ha hb0 q)).2.2 s0 D ol N xs hw p l e R s m args below meth c C ls H locs cells slots hl hR hf b1 b2) (fun q => (kf (fun z => q (by rw [z]))).2.2 s0 D ol N xs hw p l e R s m args below meth c C ls H locs cells slots hl hR hf b1 b2)
theorem go_acmp_ne {d : Nat} {M : Mt} {pc : Nat} {L : List (Option Value)} {st : List Value} {h h' : Hp} {r : Option Value} {a b : Option Nat} {off : Int} {tgt : Nat} (ha : hiR a) (hb0 : hiR b) (ht : (pc : Int) + off = (tgt : Int)) (hd : decode M.2.1 pc = .ok (.if_acmp .ne off, 3)) (kt : ¬ a = b → Go d M tgt L st h r h') (kf : a = b → Go d M (pc + 3) L st h r h') : Go d M pc L (va_rf b :: va_rf a :: st) h r h' := by
  have key : h.1 ≤ h'.1 ∧ h.2.1 ≤ h'.2.1 := by
    by_cases q : ¬ a = b
    · exact ⟨(kt q).1, (kt q).2.1⟩
    · exact ⟨(kf (by first | exact q | exact Classical.not_not.mp q)).1, (kf (by first | exact q | exact Classical.not_not.mp q)).2.1⟩
  refine ⟨key.1, key.2, fun s0 D ol N xs hw p l e R s m args below meth c C ls H locs cells slots hl hR hf b1 b2 => ?_⟩
  rw [List.map_cons, List.map_cons, rv_rf, rv_rf]
  exact lv_acmp_ne (rx := a.map (ad s0 ol)) (ry := b.map (ad s0 ol)) C.1 C.2.1 hd ht (fun q => (kt (fun z => q (by rw [z]))).2.2 s0 D ol N xs hw p l e R s m args below meth c C ls H locs cells slots hl hR hf b1 b2) (fun q => (kf (map_ad_inj ha hb0 q)).2.2 s0 D ol N xs hw p l e R s m args below meth c C ls H locs cells slots hl hR hf b1 b2)
