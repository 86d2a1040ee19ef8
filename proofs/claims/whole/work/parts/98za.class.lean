/-! the class: its constructor -/
def tl0 : Tl := (0, 0, 0, 0, 0, 0, none, none, none)
theorem z0_ok : okT tl0 := ⟨Nat.zero_le 4, Nat.zero_le 4, Nat.zero_le 10, by decide, by decide, fun l e => (nomatch (show (none : Option Nat) = some l from e)), fun l e => (nomatch (show (none : Option (List Nat)) = some l from e)), fun l e => (nomatch (show (none : Option (List Nat)) = some l from e))⟩
def cv0 : Cv := cvT tl0
def L6a : List (Nat × Cl) := (19, .inr (11, [.ref 81, .int 0, .ref 82, .null, .null, .null, .null, .null, .null, .null, .null, .null, .null, .null, .null, .null, .null, .null, .int 0])) :: (900, .inl (1, 900, .inl (fun _ => 0))) :: LC4 82
theorem h0_n : hN h0 := fun _ _ => rfl
theorem i_0 : ∃ f35 fl fs : Nat → Int32, fX0_init (nO (Xh h0 L6a) 0 11) 86 82 = some (Xh (Xh h0 L6a) [(11, .inr (0, [.int (nI (vP cv0)), .int (nI (vD cv0)), .int (nI (vY cv0)), .int (nI (vN cv0)), .int (nI (vG cv0)), .int (nI (vC cv0)), .int (nI (vL cv0)), .null, .null, .ref 88, .ref 89])), (35, .inl (0, 35, .inl f35)), (nL cv0, .inl (0, nL cv0, .inl fl)), (4 * nL cv0, .inl (0, 4 * nL cv0, .inl fs))]) ∧
      (∀ i, i < nL cv0 → fl i = nI (ld cv0 i)) ∧ ∀ i, i < 4 * nL cv0 → fs i = nI (i % 4 * 5 + d5 (ld cv0 (i / 4)) (i % 4)) := by
  have hp : (Xh h0 L6a).2.2 82 = some (.inr (4, [.ref 83, .ref 85, .int 0, .int 0, .int 0, .int 0, .int (-1), .int 0, .int 0, .int 0, .int 0, .int 0, .int 0, .int (-1), .null, .null])) := Xh_at (g := h0) (l := L6a) (i := 2) rfl
  obtain ⟨f35, fl, fs, e, q1, q2⟩ := g_cave (g := Xh h0 L6a) (x1 := 82) (z := tl0) (og := none) (of_ := none) (Xh_hn _ _) (show 82 < 86 by decide) hp z0_ok rfl rfl rfl rfl rfl rfl rfl rfl rfl
  have ec : cvT tl0 = cv0 := rfl
  rw [ec] at e q1 q2
  exact ⟨f35, fl, fs, e.trans (congrArg some (K4_X (Xh_hn _ _) 11 35 (nL cv0) (4 * nL cv0) _ _ _ _)), q1, q2⟩
section CSTEP
variable {g : Hp} {l : List (Nat × Cl)} {fs : List Value} {f : Nat → Option Nat} {k p : Nat}
theorem s_tray (hk : k < 4) (e8 : fs[8]? = some (.ref (g.1 + (p + 1)))) (hp : l[p]? = some (4, .inl (5, 4, .inr (.inr (.inr (.inr f)))))) : fX11_init_205b (Xh g ((19, .inr (11, fs)) :: l)) g.1 (nI k) = some (.inl (nI (k + 1), Xh g ((19, .inr (11, fs)) :: (l ++ LC9 (g.1 + (l.length + 1))).set p (4, .inl (5, 4, .inr (.inr (.inr (.inr (va_up f k (some (g.1 + (l.length + 1)))))))))))) := by
  unfold fX11_init_205b
  have cz : ¬ (4 : Int32) ≤ nI k := by
    show ¬ nI 4 ≤ nI k
    rw [nI_leI (by omega) (by omega)]
    omega
  have pl : p < l.length := by
    by_cases z : p < l.length
    · exact z
    · rw [List.getElem?_eq_none (by omega)] at hp
      cases hp
  rw [if_neg cz]
  refine b_gC (g.1 + (p + 1)) rfl e8 ?_
  refine b_lt (v := g.1 + (l.length + 1)) rfl ?_
  refine b_lt rfl ?_
  refine b_uC (i_9 (Xh_hn _ _) rfl) ?_
  refine b_wR p l.length k rfl rfl (by rw [List.getElem?_append_left pl]; exact hp) (n2 := 4) (fs := [.ref (g.1 + (l.length + 1) + 1), .int 0, .int 1, .int 0]) (by rw [List.getElem?_append_right (Nat.le_refl _), Nat.sub_self]; rfl) hk (by decide) ?_
  rw [show nI k + Int32.ofInt 1 = nI (k + 1) by rw [show Int32.ofInt 1 = nI 1 from rfl, nI_add]]
theorem s_img (hk : k < 2) (e8 : fs[10]? = some (.ref (g.1 + (p + 1)))) (hp : l[p]? = some (2, .inl (4, 2, .inr (.inr (.inr (.inr f)))))) : fX11_init_231b (Xh g ((19, .inr (11, fs)) :: l)) g.1 (nI k) = some (.inl (nI (k + 1), Xh g ((19, .inr (11, fs)) :: (l ++ LC8 (g.1 + (l.length + 1))).set p (2, .inl (4, 2, .inr (.inr (.inr (.inr (va_up f k (some (g.1 + (l.length + 1)))))))))))) := by
  unfold fX11_init_231b
  have cz : ¬ (2 : Int32) ≤ nI k := by
    show ¬ nI 2 ≤ nI k
    rw [nI_leI (by omega) (by omega)]
    omega
  have pl : p < l.length := by
    by_cases z : p < l.length
    · exact z
    · rw [List.getElem?_eq_none (by omega)] at hp
      cases hp
  rw [if_neg cz]
  refine b_gC (g.1 + (p + 1)) rfl e8 ?_
  refine b_lt (v := g.1 + (l.length + 1)) rfl ?_
  refine b_lt rfl ?_
  refine b_uC (i_8 (Xh_hn _ _) rfl) ?_
  refine b_wR p l.length k rfl rfl (by rw [List.getElem?_append_left pl]; exact hp) (n2 := 4) (fs := [.int 0, .int 0, .int 0, .int 0]) (by rw [List.getElem?_append_right (Nat.le_refl _), Nat.sub_self]; rfl) hk (by decide) ?_
  rw [show nI k + Int32.ofInt 1 = nI (k + 1) by rw [show Int32.ofInt 1 = nI 1 from rfl, nI_add]]
end CSTEP
def LB (f35 fl fs : Nat → Int32) (tr im : List (Nat × Cl)) (tf mf : Nat → Option Nat) : List (Nat × Cl) := (900, .inl (1, 900, .inl (fun _ => 0))) :: (LC4 82 ++ ([(11, .inr (0, [.int (nI (vP cv0)), .int (nI (vD cv0)), .int (nI (vY cv0)), .int (nI (vN cv0)), .int (nI (vG cv0)), .int (nI (vC cv0)), .int (nI (vL cv0)), .null, .null, .ref 88, .ref 89])), (35, .inl (0, 35, .inl f35)), (nL cv0, .inl (0, nL cv0, .inl fl)), (4 * nL cv0, .inl (0, 4 * nL cv0, .inl fs))] ++ (LC8 90 ++ (LC8 91 ++ (LC8 92 ++ (L5s 93 10 ++ ([(4, .inl (5, 4, .inr (.inr (.inr (.inr (tf)))))), (2, .inl (6, 2, .inr (.inr (.inr (.inr (fun _ => none)))))), (2, .inl (4, 2, .inr (.inr (.inr (.inr (mf))))))] ++ (LC1 108 86 ++ (LC10 114 108 ++ (LC2 115 108 ++ (LC7 116 108 86 ++ ([(4, .inl (0, 4, .inl (fun _ => 0))), (4, .inl (0, 4, .inl (fun _ => 0))), (19, .inl (0, 19, .inl (fun _ => 0)))] ++ (tr ++ im)))))))))))))
def OB : Nat × Cl := (19, .inr (11, [.ref (81), .int (0 : Int32), .ref (82), .ref (86), .ref (90), .ref (91), .ref (92), .ref (93), .ref (105), .ref (106), .ref (107), .ref (108), .ref (114), .ref (115), .ref (116), .ref (125), .ref (126), .ref (127), .int (0 : Int32)]))
theorem i_11 : ∃ f35 fl fs : Nat → Int32, fX11_init (nO h0 11 19) 80 = fX11_init_205 (Xh h0 (OB :: LB f35 fl fs [] [] (fun _ => none) (fun _ => none))) 80 (nI 0) ∧
      (∀ i, i < nL cv0 → fl i = nI (ld cv0 i)) ∧ ∀ i, i < 4 * nL cv0 → fs i = nI (i % 4 * 5 + d5 (ld cv0 (i / 4)) (i % 4)) := by
  obtain ⟨f35, fl, fs, e0, q1, q2⟩ := i_0
  refine ⟨f35, fl, fs, ?_, q1, q2⟩
  rw [Xh_dfl h0_n 11 19 [.null, .int 0, .null, .null, .null, .null, .null, .null, .null, .null, .null, .null, .null, .null, .null, .null, .null, .null, .int 0] rfl]
  unfold fX11_init
  refine b_lt (v := 81) rfl ?_
  refine b_nC 1 900 (by decide) ?_
  refine b_sC [.ref (81), .int 0, .null, .null, .null, .null, .null, .null, .null, .null, .null, .null, .null, .null, .null, .null, .null, .null, .int 0] rfl rfl ?_
  refine b_sC [.ref (81), .int (0 : Int32), .null, .null, .null, .null, .null, .null, .null, .null, .null, .null, .null, .null, .null, .null, .null, .null, .int 0] rfl rfl ?_
  refine b_lt (v := 82) rfl ?_
  refine b_lt rfl ?_
  refine b_uC (i_4 (Xh_hn _ _) rfl) ?_
  refine b_sC [.ref (81), .int (0 : Int32), .ref (82), .null, .null, .null, .null, .null, .null, .null, .null, .null, .null, .null, .null, .null, .null, .null, .int 0] rfl rfl ?_
  refine b_lt (v := 86) rfl ?_
  refine b_lt rfl ?_
  refine b_gD (82) rfl rfl ?_
  refine b_uC (e0) ?_
  refine b_sC [.ref (81), .int (0 : Int32), .ref (82), .ref (86), .null, .null, .null, .null, .null, .null, .null, .null, .null, .null, .null, .null, .null, .null, .int 0] rfl rfl ?_
  refine b_lt (v := 90) rfl ?_
  refine b_lt rfl ?_
  refine b_uC (i_8 (Xh_hn _ _) rfl) ?_
  refine b_sC [.ref (81), .int (0 : Int32), .ref (82), .ref (86), .ref (90), .null, .null, .null, .null, .null, .null, .null, .null, .null, .null, .null, .null, .null, .int 0] rfl rfl ?_
  refine b_lt (v := 91) rfl ?_
  refine b_lt rfl ?_
  refine b_uC (i_8 (Xh_hn _ _) rfl) ?_
  refine b_sC [.ref (81), .int (0 : Int32), .ref (82), .ref (86), .ref (90), .ref (91), .null, .null, .null, .null, .null, .null, .null, .null, .null, .null, .null, .null, .int 0] rfl rfl ?_
  refine b_lt (v := 92) rfl ?_
  refine b_lt rfl ?_
  refine b_uC (i_8 (Xh_hn _ _) rfl) ?_
  refine b_sC [.ref (81), .int (0 : Int32), .ref (82), .ref (86), .ref (90), .ref (91), .ref (92), .null, .null, .null, .null, .null, .null, .null, .null, .null, .null, .null, .int 0] rfl rfl ?_
  refine b_lt (v := 93) rfl ?_
  refine b_lt rfl ?_
  refine b_uC (i_5 (Xh_hn _ _) rfl) ?_
  refine b_sC [.ref (81), .int (0 : Int32), .ref (82), .ref (86), .ref (90), .ref (91), .ref (92), .ref (93), .null, .null, .null, .null, .null, .null, .null, .null, .null, .null, .int 0] rfl rfl ?_
  refine b_lt (v := 105) rfl ?_
  refine b_nC 5 4 (by decide) ?_
  refine b_sC [.ref (81), .int (0 : Int32), .ref (82), .ref (86), .ref (90), .ref (91), .ref (92), .ref (93), .ref (105), .null, .null, .null, .null, .null, .null, .null, .null, .null, .int 0] rfl rfl ?_
  refine b_lt (v := 106) rfl ?_
  refine b_nC 6 2 (by decide) ?_
  refine b_sC [.ref (81), .int (0 : Int32), .ref (82), .ref (86), .ref (90), .ref (91), .ref (92), .ref (93), .ref (105), .ref (106), .null, .null, .null, .null, .null, .null, .null, .null, .int 0] rfl rfl ?_
  refine b_lt (v := 107) rfl ?_
  refine b_nC 4 2 (by decide) ?_
  refine b_sC [.ref (81), .int (0 : Int32), .ref (82), .ref (86), .ref (90), .ref (91), .ref (92), .ref (93), .ref (105), .ref (106), .ref (107), .null, .null, .null, .null, .null, .null, .null, .int 0] rfl rfl ?_
  refine b_lt (v := 108) rfl ?_
  refine b_lt rfl ?_
  refine b_gD (86) rfl rfl ?_
  refine b_uC (i_1 (Xh_hn _ _) rfl) ?_
  refine b_sC [.ref (81), .int (0 : Int32), .ref (82), .ref (86), .ref (90), .ref (91), .ref (92), .ref (93), .ref (105), .ref (106), .ref (107), .ref (108), .null, .null, .null, .null, .null, .null, .int 0] rfl rfl ?_
  refine b_lt (v := 114) rfl ?_
  refine b_lt rfl ?_
  refine b_gD (108) rfl rfl ?_
  refine b_uC (i_10 (Xh_hn _ _) rfl) ?_
  refine b_sC [.ref (81), .int (0 : Int32), .ref (82), .ref (86), .ref (90), .ref (91), .ref (92), .ref (93), .ref (105), .ref (106), .ref (107), .ref (108), .ref (114), .null, .null, .null, .null, .null, .int 0] rfl rfl ?_
  refine b_lt (v := 115) rfl ?_
  refine b_lt rfl ?_
  refine b_gD (108) rfl rfl ?_
  refine b_uC (i_2 (Xh_hn _ _) rfl) ?_
  refine b_sC [.ref (81), .int (0 : Int32), .ref (82), .ref (86), .ref (90), .ref (91), .ref (92), .ref (93), .ref (105), .ref (106), .ref (107), .ref (108), .ref (114), .ref (115), .null, .null, .null, .null, .int 0] rfl rfl ?_
  refine b_lt (v := 116) rfl ?_
  refine b_lt rfl ?_
  refine b_gD (108) rfl rfl ?_
  refine b_gD (86) rfl rfl ?_
  refine b_uC (i_7 (Xh_hn _ _) rfl) ?_
  refine b_sC [.ref (81), .int (0 : Int32), .ref (82), .ref (86), .ref (90), .ref (91), .ref (92), .ref (93), .ref (105), .ref (106), .ref (107), .ref (108), .ref (114), .ref (115), .ref (116), .null, .null, .null, .int 0] rfl rfl ?_
  refine b_lt (v := 125) rfl ?_
  refine b_nC 0 4 (by decide) ?_
  refine b_sC [.ref (81), .int (0 : Int32), .ref (82), .ref (86), .ref (90), .ref (91), .ref (92), .ref (93), .ref (105), .ref (106), .ref (107), .ref (108), .ref (114), .ref (115), .ref (116), .ref (125), .null, .null, .int 0] rfl rfl ?_
  refine b_lt (v := 126) rfl ?_
  refine b_nC 0 4 (by decide) ?_
  refine b_sC [.ref (81), .int (0 : Int32), .ref (82), .ref (86), .ref (90), .ref (91), .ref (92), .ref (93), .ref (105), .ref (106), .ref (107), .ref (108), .ref (114), .ref (115), .ref (116), .ref (125), .ref (126), .null, .int 0] rfl rfl ?_
  refine b_lt (v := 127) rfl ?_
  refine b_nC 0 19 (by decide) ?_
  refine b_sC [.ref (81), .int (0 : Int32), .ref (82), .ref (86), .ref (90), .ref (91), .ref (92), .ref (93), .ref (105), .ref (106), .ref (107), .ref (108), .ref (114), .ref (115), .ref (116), .ref (125), .ref (126), .ref (127), .int 0] rfl rfl ?_
  refine b_sC [.ref (81), .int (0 : Int32), .ref (82), .ref (86), .ref (90), .ref (91), .ref (92), .ref (93), .ref (105), .ref (106), .ref (107), .ref (108), .ref (114), .ref (115), .ref (116), .ref (125), .ref (126), .ref (127), .int (0 : Int32)] rfl rfl ?_
  exact congrArg (fun l => fX11_init_205 (Xh h0 (OB :: l)) 80 (nI 0)) rfl
theorem i_11b {f35 fl fs : Nat → Int32} : fX11_init_205 (Xh h0 (OB :: LB f35 fl fs [] [] (fun _ => none) (fun _ => none))) 80 (nI 0) = some (Xh h0 (OB :: LB f35 fl fs [(4, .inr (9, [.ref 129, .int 0, .int 1, .int 0])), (40, .inl (2, 40, .inr (.inl (fun _ => 0)))), (4, .inr (9, [.ref 131, .int 0, .int 1, .int 0])), (40, .inl (2, 40, .inr (.inl (fun _ => 0)))), (4, .inr (9, [.ref 133, .int 0, .int 1, .int 0])), (40, .inl (2, 40, .inr (.inl (fun _ => 0)))), (4, .inr (9, [.ref 135, .int 0, .int 1, .int 0])), (40, .inl (2, 40, .inr (.inl (fun _ => 0))))] [(4, .inr (8, [.int 0, .int 0, .int 0, .int 0])), (4, .inr (8, [.int 0, .int 0, .int 0, .int 0]))] (va_up (va_up (va_up (va_up (fun _ => none) 0 (some 128)) 1 (some 130)) 2 (some 132)) 3 (some 134)) (va_up (va_up (fun _ => none) 0 (some 136)) 1 (some 137)))) := by
  have t0 : fX11_init_205b (Xh h0 (OB :: LB f35 fl fs [] [] (fun _ => none) (fun _ => none))) 80 (nI 0) = some (.inl (nI 1, Xh h0 (OB :: LB f35 fl fs [(4, .inr (9, [.ref 129, .int 0, .int 1, .int 0])), (40, .inl (2, 40, .inr (.inl (fun _ => 0))))] [] (va_up (fun _ => none) 0 (some 128)) (fun _ => none)))) := s_tray (g := h0) (p := 24) (k := 0) (by decide) rfl rfl
  have t1 : fX11_init_205b (Xh h0 (OB :: LB f35 fl fs [(4, .inr (9, [.ref 129, .int 0, .int 1, .int 0])), (40, .inl (2, 40, .inr (.inl (fun _ => 0))))] [] (va_up (fun _ => none) 0 (some 128)) (fun _ => none))) 80 (nI 1) = some (.inl (nI 2, Xh h0 (OB :: LB f35 fl fs [(4, .inr (9, [.ref 129, .int 0, .int 1, .int 0])), (40, .inl (2, 40, .inr (.inl (fun _ => 0)))), (4, .inr (9, [.ref 131, .int 0, .int 1, .int 0])), (40, .inl (2, 40, .inr (.inl (fun _ => 0))))] [] (va_up (va_up (fun _ => none) 0 (some 128)) 1 (some 130)) (fun _ => none)))) := s_tray (g := h0) (p := 24) (k := 1) (by decide) rfl rfl
  have t2 : fX11_init_205b (Xh h0 (OB :: LB f35 fl fs [(4, .inr (9, [.ref 129, .int 0, .int 1, .int 0])), (40, .inl (2, 40, .inr (.inl (fun _ => 0)))), (4, .inr (9, [.ref 131, .int 0, .int 1, .int 0])), (40, .inl (2, 40, .inr (.inl (fun _ => 0))))] [] (va_up (va_up (fun _ => none) 0 (some 128)) 1 (some 130)) (fun _ => none))) 80 (nI 2) = some (.inl (nI 3, Xh h0 (OB :: LB f35 fl fs [(4, .inr (9, [.ref 129, .int 0, .int 1, .int 0])), (40, .inl (2, 40, .inr (.inl (fun _ => 0)))), (4, .inr (9, [.ref 131, .int 0, .int 1, .int 0])), (40, .inl (2, 40, .inr (.inl (fun _ => 0)))), (4, .inr (9, [.ref 133, .int 0, .int 1, .int 0])), (40, .inl (2, 40, .inr (.inl (fun _ => 0))))] [] (va_up (va_up (va_up (fun _ => none) 0 (some 128)) 1 (some 130)) 2 (some 132)) (fun _ => none)))) := s_tray (g := h0) (p := 24) (k := 2) (by decide) rfl rfl
  have t3 : fX11_init_205b (Xh h0 (OB :: LB f35 fl fs [(4, .inr (9, [.ref 129, .int 0, .int 1, .int 0])), (40, .inl (2, 40, .inr (.inl (fun _ => 0)))), (4, .inr (9, [.ref 131, .int 0, .int 1, .int 0])), (40, .inl (2, 40, .inr (.inl (fun _ => 0)))), (4, .inr (9, [.ref 133, .int 0, .int 1, .int 0])), (40, .inl (2, 40, .inr (.inl (fun _ => 0))))] [] (va_up (va_up (va_up (fun _ => none) 0 (some 128)) 1 (some 130)) 2 (some 132)) (fun _ => none))) 80 (nI 3) = some (.inl (nI 4, Xh h0 (OB :: LB f35 fl fs [(4, .inr (9, [.ref 129, .int 0, .int 1, .int 0])), (40, .inl (2, 40, .inr (.inl (fun _ => 0)))), (4, .inr (9, [.ref 131, .int 0, .int 1, .int 0])), (40, .inl (2, 40, .inr (.inl (fun _ => 0)))), (4, .inr (9, [.ref 133, .int 0, .int 1, .int 0])), (40, .inl (2, 40, .inr (.inl (fun _ => 0)))), (4, .inr (9, [.ref 135, .int 0, .int 1, .int 0])), (40, .inl (2, 40, .inr (.inl (fun _ => 0))))] [] (va_up (va_up (va_up (va_up (fun _ => none) 0 (some 128)) 1 (some 130)) 2 (some 132)) 3 (some 134)) (fun _ => none)))) := s_tray (g := h0) (p := 24) (k := 3) (by decide) rfl rfl
  have u0 : fX11_init_231b (Xh h0 (OB :: LB f35 fl fs [(4, .inr (9, [.ref 129, .int 0, .int 1, .int 0])), (40, .inl (2, 40, .inr (.inl (fun _ => 0)))), (4, .inr (9, [.ref 131, .int 0, .int 1, .int 0])), (40, .inl (2, 40, .inr (.inl (fun _ => 0)))), (4, .inr (9, [.ref 133, .int 0, .int 1, .int 0])), (40, .inl (2, 40, .inr (.inl (fun _ => 0)))), (4, .inr (9, [.ref 135, .int 0, .int 1, .int 0])), (40, .inl (2, 40, .inr (.inl (fun _ => 0))))] [] (va_up (va_up (va_up (va_up (fun _ => none) 0 (some 128)) 1 (some 130)) 2 (some 132)) 3 (some 134)) (fun _ => none))) 80 (nI 0) = some (.inl (nI 1, Xh h0 (OB :: LB f35 fl fs [(4, .inr (9, [.ref 129, .int 0, .int 1, .int 0])), (40, .inl (2, 40, .inr (.inl (fun _ => 0)))), (4, .inr (9, [.ref 131, .int 0, .int 1, .int 0])), (40, .inl (2, 40, .inr (.inl (fun _ => 0)))), (4, .inr (9, [.ref 133, .int 0, .int 1, .int 0])), (40, .inl (2, 40, .inr (.inl (fun _ => 0)))), (4, .inr (9, [.ref 135, .int 0, .int 1, .int 0])), (40, .inl (2, 40, .inr (.inl (fun _ => 0))))] [(4, .inr (8, [.int 0, .int 0, .int 0, .int 0]))] (va_up (va_up (va_up (va_up (fun _ => none) 0 (some 128)) 1 (some 130)) 2 (some 132)) 3 (some 134)) (va_up (fun _ => none) 0 (some 136))))) := s_img (g := h0) (p := 26) (k := 0) (by decide) rfl rfl
  have u1 : fX11_init_231b (Xh h0 (OB :: LB f35 fl fs [(4, .inr (9, [.ref 129, .int 0, .int 1, .int 0])), (40, .inl (2, 40, .inr (.inl (fun _ => 0)))), (4, .inr (9, [.ref 131, .int 0, .int 1, .int 0])), (40, .inl (2, 40, .inr (.inl (fun _ => 0)))), (4, .inr (9, [.ref 133, .int 0, .int 1, .int 0])), (40, .inl (2, 40, .inr (.inl (fun _ => 0)))), (4, .inr (9, [.ref 135, .int 0, .int 1, .int 0])), (40, .inl (2, 40, .inr (.inl (fun _ => 0))))] [(4, .inr (8, [.int 0, .int 0, .int 0, .int 0]))] (va_up (va_up (va_up (va_up (fun _ => none) 0 (some 128)) 1 (some 130)) 2 (some 132)) 3 (some 134)) (va_up (fun _ => none) 0 (some 136)))) 80 (nI 1) = some (.inl (nI 2, Xh h0 (OB :: LB f35 fl fs [(4, .inr (9, [.ref 129, .int 0, .int 1, .int 0])), (40, .inl (2, 40, .inr (.inl (fun _ => 0)))), (4, .inr (9, [.ref 131, .int 0, .int 1, .int 0])), (40, .inl (2, 40, .inr (.inl (fun _ => 0)))), (4, .inr (9, [.ref 133, .int 0, .int 1, .int 0])), (40, .inl (2, 40, .inr (.inl (fun _ => 0)))), (4, .inr (9, [.ref 135, .int 0, .int 1, .int 0])), (40, .inl (2, 40, .inr (.inl (fun _ => 0))))] [(4, .inr (8, [.int 0, .int 0, .int 0, .int 0])), (4, .inr (8, [.int 0, .int 0, .int 0, .int 0]))] (va_up (va_up (va_up (va_up (fun _ => none) 0 (some 128)) 1 (some 130)) 2 (some 132)) 3 (some 134)) (va_up (va_up (fun _ => none) 0 (some 136)) 1 (some 137))))) := s_img (g := h0) (p := 26) (k := 1) (by decide) rfl rfl
  have u2 : fX11_init_231b (Xh h0 (OB :: LB f35 fl fs [(4, .inr (9, [.ref 129, .int 0, .int 1, .int 0])), (40, .inl (2, 40, .inr (.inl (fun _ => 0)))), (4, .inr (9, [.ref 131, .int 0, .int 1, .int 0])), (40, .inl (2, 40, .inr (.inl (fun _ => 0)))), (4, .inr (9, [.ref 133, .int 0, .int 1, .int 0])), (40, .inl (2, 40, .inr (.inl (fun _ => 0)))), (4, .inr (9, [.ref 135, .int 0, .int 1, .int 0])), (40, .inl (2, 40, .inr (.inl (fun _ => 0))))] [(4, .inr (8, [.int 0, .int 0, .int 0, .int 0])), (4, .inr (8, [.int 0, .int 0, .int 0, .int 0]))] (va_up (va_up (va_up (va_up (fun _ => none) 0 (some 128)) 1 (some 130)) 2 (some 132)) 3 (some 134)) (va_up (va_up (fun _ => none) 0 (some 136)) 1 (some 137)))) 80 (nI 2) = some (.inr (Xh h0 (OB :: LB f35 fl fs [(4, .inr (9, [.ref 129, .int 0, .int 1, .int 0])), (40, .inl (2, 40, .inr (.inl (fun _ => 0)))), (4, .inr (9, [.ref 131, .int 0, .int 1, .int 0])), (40, .inl (2, 40, .inr (.inl (fun _ => 0)))), (4, .inr (9, [.ref 133, .int 0, .int 1, .int 0])), (40, .inl (2, 40, .inr (.inl (fun _ => 0)))), (4, .inr (9, [.ref 135, .int 0, .int 1, .int 0])), (40, .inl (2, 40, .inr (.inl (fun _ => 0))))] [(4, .inr (8, [.int 0, .int 0, .int 0, .int 0])), (4, .inr (8, [.int 0, .int 0, .int 0, .int 0]))] (va_up (va_up (va_up (va_up (fun _ => none) 0 (some 128)) 1 (some 130)) 2 (some 132)) 3 (some 134)) (va_up (va_up (fun _ => none) 0 (some 136)) 1 (some 137))))) := by
    unfold fX11_init_231b
    exact if_pos (by decide)
  have t4 : fX11_init_205b (Xh h0 (OB :: LB f35 fl fs [(4, .inr (9, [.ref 129, .int 0, .int 1, .int 0])), (40, .inl (2, 40, .inr (.inl (fun _ => 0)))), (4, .inr (9, [.ref 131, .int 0, .int 1, .int 0])), (40, .inl (2, 40, .inr (.inl (fun _ => 0)))), (4, .inr (9, [.ref 133, .int 0, .int 1, .int 0])), (40, .inl (2, 40, .inr (.inl (fun _ => 0)))), (4, .inr (9, [.ref 135, .int 0, .int 1, .int 0])), (40, .inl (2, 40, .inr (.inl (fun _ => 0))))] [] (va_up (va_up (va_up (va_up (fun _ => none) 0 (some 128)) 1 (some 130)) 2 (some 132)) 3 (some 134)) (fun _ => none))) 80 (nI 4) = (fX11_init_229 (Xh h0 (OB :: LB f35 fl fs [(4, .inr (9, [.ref 129, .int 0, .int 1, .int 0])), (40, .inl (2, 40, .inr (.inl (fun _ => 0)))), (4, .inr (9, [.ref 131, .int 0, .int 1, .int 0])), (40, .inl (2, 40, .inr (.inl (fun _ => 0)))), (4, .inr (9, [.ref 133, .int 0, .int 1, .int 0])), (40, .inl (2, 40, .inr (.inl (fun _ => 0)))), (4, .inr (9, [.ref 135, .int 0, .int 1, .int 0])), (40, .inl (2, 40, .inr (.inl (fun _ => 0))))] [] (va_up (va_up (va_up (va_up (fun _ => none) 0 (some 128)) 1 (some 130)) 2 (some 132)) 3 (some 134)) (fun _ => none))) 80).map (fun q => .inr q) := by
    unfold fX11_init_205b
    exact if_pos (by decide)
  have r : fX11_init_229 (Xh h0 (OB :: LB f35 fl fs [(4, .inr (9, [.ref 129, .int 0, .int 1, .int 0])), (40, .inl (2, 40, .inr (.inl (fun _ => 0)))), (4, .inr (9, [.ref 131, .int 0, .int 1, .int 0])), (40, .inl (2, 40, .inr (.inl (fun _ => 0)))), (4, .inr (9, [.ref 133, .int 0, .int 1, .int 0])), (40, .inl (2, 40, .inr (.inl (fun _ => 0)))), (4, .inr (9, [.ref 135, .int 0, .int 1, .int 0])), (40, .inl (2, 40, .inr (.inl (fun _ => 0))))] [] (va_up (va_up (va_up (va_up (fun _ => none) 0 (some 128)) 1 (some 130)) 2 (some 132)) 3 (some 134)) (fun _ => none))) 80 = some (Xh h0 (OB :: LB f35 fl fs [(4, .inr (9, [.ref 129, .int 0, .int 1, .int 0])), (40, .inl (2, 40, .inr (.inl (fun _ => 0)))), (4, .inr (9, [.ref 131, .int 0, .int 1, .int 0])), (40, .inl (2, 40, .inr (.inl (fun _ => 0)))), (4, .inr (9, [.ref 133, .int 0, .int 1, .int 0])), (40, .inl (2, 40, .inr (.inl (fun _ => 0)))), (4, .inr (9, [.ref 135, .int 0, .int 1, .int 0])), (40, .inl (2, 40, .inr (.inl (fun _ => 0))))] [(4, .inr (8, [.int 0, .int 0, .int 0, .int 0])), (4, .inr (8, [.int 0, .int 0, .int 0, .int 0]))] (va_up (va_up (va_up (va_up (fun _ => none) 0 (some 128)) 1 (some 130)) 2 (some 132)) 3 (some 134)) (va_up (va_up (fun _ => none) 0 (some 136)) 1 (some 137)))) := by
    unfold fX11_init_229 fX11_init_231
    refine (lpw_l u0).trans ((lpw_l u1).trans (lpw_r u2))
  unfold fX11_init_205
  refine (lpw_l t0).trans ((lpw_l t1).trans ((lpw_l t2).trans ((lpw_l t3).trans ((lpw_m t4).trans r))))
def ch0 : Ch := (fun q k => if (q = 82 ∧ (k = 6 ∨ k = 13)) ∨ (q = 116 ∧ k = 16) then -1 else if ((q = 128 ∨ q = 130 ∨ q = 132 ∨ q = 134) ∧ k = 2) ∨ (q = 114 ∧ k = 6) then 1 else 0, fun _ _ => 0, fun q k => if q = 83 ∧ k = 0 then some 84 else if (q = 80 ∧ k = 3) ∨ (q = 108 ∧ k = 5) ∨ (q = 116 ∧ k = 1) then some 86 else none, fun _ _ => 0, fun _ _ => 0, fun _ _ => none)
theorem up_4 : (va_up (va_up (va_up (va_up (fun _ => none) 0 (some 128)) 1 (some 130)) 2 (some 132)) 3 (some 134) : Nat → Option Nat) = fun i => if i < 4 then some (128 + 2 * i) else none := by
  funext i
  match i with
  | 0 => rfl
  | 1 => rfl
  | 2 => rfl
  | 3 => rfl
  | k + 4 =>
    show (if k + 4 = 3 then _ else if k + 4 = 2 then _ else if k + 4 = 1 then _ else if k + 4 = 0 then _ else none) = _
    rw [if_neg (by omega), if_neg (by omega), if_neg (by omega), if_neg (by omega), if_neg (by omega)]
theorem up_2 : (va_up (va_up (fun _ => none) 0 (some 136)) 1 (some 137) : Nat → Option Nat) = fun i => if i < 2 then some (136 + i) else none := by
  funext i
  match i with
  | 0 => rfl
  | 1 => rfl
  | k + 2 =>
    show (if k + 2 = 1 then _ else if k + 2 = 0 then _ else none) = _
    rw [if_neg (by omega), if_neg (by omega), if_neg (by omega)]
theorem LB_len {f35 fl fs : Nat → Int32} {tf mf : Nat → Option Nat} : (OB :: LB f35 fl fs [(4, .inr (9, [.ref 129, .int 0, .int 1, .int 0])), (40, .inl (2, 40, .inr (.inl (fun _ => 0)))), (4, .inr (9, [.ref 131, .int 0, .int 1, .int 0])), (40, .inl (2, 40, .inr (.inl (fun _ => 0)))), (4, .inr (9, [.ref 133, .int 0, .int 1, .int 0])), (40, .inl (2, 40, .inr (.inl (fun _ => 0)))), (4, .inr (9, [.ref 135, .int 0, .int 1, .int 0])), (40, .inl (2, 40, .inr (.inl (fun _ => 0))))] [(4, .inr (8, [.int 0, .int 0, .int 0, .int 0])), (4, .inr (8, [.int 0, .int 0, .int 0, .int 0]))] tf mf).length = 58 := rfl
theorem LB_at {f35 fl fs : Nat → Int32} : ∀ i, i < 58 → ¬ (6 ≤ i ∧ i < 10) → ((OB :: LB f35 fl fs [(4, .inr (9, [.ref 129, .int 0, .int 1, .int 0])), (40, .inl (2, 40, .inr (.inl (fun _ => 0)))), (4, .inr (9, [.ref 131, .int 0, .int 1, .int 0])), (40, .inl (2, 40, .inr (.inl (fun _ => 0)))), (4, .inr (9, [.ref 133, .int 0, .int 1, .int 0])), (40, .inl (2, 40, .inr (.inl (fun _ => 0)))), (4, .inr (9, [.ref 135, .int 0, .int 1, .int 0])), (40, .inl (2, 40, .inr (.inl (fun _ => 0))))] [(4, .inr (8, [.int 0, .int 0, .int 0, .int 0])), (4, .inr (8, [.int 0, .int 0, .int 0, .int 0]))] (fun i => if i < 4 then some (128 + 2 * i) else none) (fun i => if i < 2 then some (136 + i) else none))[i]?).map Prod.snd = some (cell ch0 (80 + i)) := by
  intro i hi hn
  match i, hi, hn with
  | 0, _, _ => exact rfl
  | 1, _, _ => exact rfl
  | 2, _, _ => exact rfl
  | 3, _, _ => exact rfl
  | 4, _, _ => exact rfl
  | 5, _, _ => exact rfl
  | 6, _, hn => exact absurd ⟨by decide, by decide⟩ hn
  | 7, _, hn => exact absurd ⟨by decide, by decide⟩ hn
  | 8, _, hn => exact absurd ⟨by decide, by decide⟩ hn
  | 9, _, hn => exact absurd ⟨by decide, by decide⟩ hn
  | 10, _, _ => exact rfl
  | 11, _, _ => exact rfl
  | 12, _, _ => exact rfl
  | 13, _, _ => exact rfl
  | 14, _, _ => exact rfl
  | 15, _, _ => exact rfl
  | 16, _, _ => exact rfl
  | 17, _, _ => exact rfl
  | 18, _, _ => exact rfl
  | 19, _, _ => exact rfl
  | 20, _, _ => exact rfl
  | 21, _, _ => exact rfl
  | 22, _, _ => exact rfl
  | 23, _, _ => exact rfl
  | 24, _, _ => exact rfl
  | 25, _, _ => exact rfl
  | 26, _, _ => exact rfl
  | 27, _, _ => exact rfl
  | 28, _, _ => exact rfl
  | 29, _, _ => exact rfl
  | 30, _, _ => exact rfl
  | 31, _, _ => exact rfl
  | 32, _, _ => exact rfl
  | 33, _, _ => exact rfl
  | 34, _, _ => exact rfl
  | 35, _, _ => exact rfl
  | 36, _, _ => exact rfl
  | 37, _, _ => exact rfl
  | 38, _, _ => exact rfl
  | 39, _, _ => exact rfl
  | 40, _, _ => exact rfl
  | 41, _, _ => exact rfl
  | 42, _, _ => exact rfl
  | 43, _, _ => exact rfl
  | 44, _, _ => exact rfl
  | 45, _, _ => exact rfl
  | 46, _, _ => exact rfl
  | 47, _, _ => exact rfl
  | 48, _, _ => exact rfl
  | 49, _, _ => exact rfl
  | 50, _, _ => exact rfl
  | 51, _, _ => exact rfl
  | 52, _, _ => exact rfl
  | 53, _, _ => exact rfl
  | 54, _, _ => exact rfl
  | 55, _, _ => exact rfl
  | 56, _, _ => exact rfl
  | 57, _, _ => exact rfl
  | k + 58, hi, _ => exact absurd hi (by omega)
