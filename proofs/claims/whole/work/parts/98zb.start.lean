/-! the reference: its constructor; the start of the law -/
def LC12 (a : Nat) : List (Nat × Cl) := [(41, .inr (12, [.int 0, .ref (a + 1), .ref (a + 2), .ref (a + 3), .ref (a + 4), .int 0, .int 0, .int 0, .int 0, .int 0, .int 0, .int 0, .int 0, .int 0, .int (-1), .int 0, .ref (a + 5), .ref (a + 6), .ref (a + 7), .ref (a + 8), .ref (a + 9), .int 0, .ref (a + 10), .int 0, .int 0, .ref (a + 11), .ref (a + 12), .int 0, .int 0, .ref (a + 13), .ref (a + 14), .ref (a + 15), .ref (a + 16), .int 0, .ref (a + 17), .ref (a + 18), .ref (a + 19), .ref (a + 20), .ref (a + 21), .ref (a + 22), .ref (a + 23)])), (3114, .inl (0, 3114, .inl (fun _ => 0))), (2, .inl (3, 2, .inl (fun _ => 0))), (900, .inl (0, 900, .inl (fun _ => 0))), (1038, .inl (0, 1038, .inl (fun _ => 0))), (900, .inl (0, 900, .inl (fun _ => 0))), (8, .inl (0, 8, .inl (fun _ => 0))), (2000, .inl (0, 2000, .inl (fun _ => 0))), (3700, .inl (3, 3700, .inl (fun _ => 0))), (35, .inl (0, 35, .inl (fun _ => 0))), (11, .inl (0, 11, .inl (fun _ => 0))), (20001, .inl (0, 20001, .inl (fun _ => 0))), (20000, .inl (0, 20000, .inl (fun _ => 0))), (20000, .inl (0, 20000, .inl (fun _ => 0))), (700000, .inl (0, 700000, .inl (fun _ => 0))), (20000, .inl (0, 20000, .inl (fun _ => 0))), (20000, .inl (3, 20000, .inl (fun _ => 0))), (20000, .inl (2, 20000, .inr (.inl (fun _ => 0)))), (20000, .inl (2, 20000, .inr (.inl (fun _ => 0)))), (19, .inl (0, 19, .inl (fun _ => 0))), (700000, .inl (0, 700000, .inl (fun _ => 0))), (4, .inl (0, 4, .inl (upd (upd (upd (upd (fun _ => 0) 0 (-1)) 1 (-1)) 2 (-1)) 3 (-1)))), (4, .inl (0, 4, .inl (fun _ => 0))), (160, .inl (2, 160, .inr (.inl (fun _ => 0))))]
theorem i_12 {g : Hp} (hn : hN g) : fX12_init (nO g 12 41) g.1 = fX12_plain (Xh g (LC12 g.1)) (g.1 + 1) := by
  rw [Xh_dfl hn 12 41 [.int 0, .null, .null, .null, .null, .int 0, .int 0, .int 0, .int 0, .int 0, .int 0, .int 0, .int 0, .int 0, .int 0, .int 0, .null, .null, .null, .null, .null, .int 0, .null, .int 0, .int 0, .null, .null, .int 0, .int 0, .null, .null, .null, .null, .int 0, .null, .null, .null, .null, .null, .null, .null] rfl]
  unfold fX12_init
  refine b_lt (v := g.1 + 1) rfl ?_
  refine b_nC 0 3114 (by decide) ?_
  refine b_sC [.int 0, .ref (g.1 + 1), .null, .null, .null, .int 0, .int 0, .int 0, .int 0, .int 0, .int 0, .int 0, .int 0, .int 0, .int 0, .int 0, .null, .null, .null, .null, .null, .int 0, .null, .int 0, .int 0, .null, .null, .int 0, .int 0, .null, .null, .null, .null, .int 0, .null, .null, .null, .null, .null, .null, .null] rfl rfl ?_
  refine b_lt (v := g.1 + 2) rfl ?_
  refine b_nC 3 2 (by decide) ?_
  refine b_sC [.int 0, .ref (g.1 + 1), .ref (g.1 + 2), .null, .null, .int 0, .int 0, .int 0, .int 0, .int 0, .int 0, .int 0, .int 0, .int 0, .int 0, .int 0, .null, .null, .null, .null, .null, .int 0, .null, .int 0, .int 0, .null, .null, .int 0, .int 0, .null, .null, .null, .null, .int 0, .null, .null, .null, .null, .null, .null, .null] rfl rfl ?_
  refine b_lt (v := g.1 + 3) rfl ?_
  refine b_nC 0 900 (by decide) ?_
  refine b_sC [.int 0, .ref (g.1 + 1), .ref (g.1 + 2), .ref (g.1 + 3), .null, .int 0, .int 0, .int 0, .int 0, .int 0, .int 0, .int 0, .int 0, .int 0, .int 0, .int 0, .null, .null, .null, .null, .null, .int 0, .null, .int 0, .int 0, .null, .null, .int 0, .int 0, .null, .null, .null, .null, .int 0, .null, .null, .null, .null, .null, .null, .null] rfl rfl ?_
  refine b_lt (v := g.1 + 4) rfl ?_
  refine b_nC 0 1038 (by decide) ?_
  refine b_sC [.int 0, .ref (g.1 + 1), .ref (g.1 + 2), .ref (g.1 + 3), .ref (g.1 + 4), .int 0, .int 0, .int 0, .int 0, .int 0, .int 0, .int 0, .int 0, .int 0, .int 0, .int 0, .null, .null, .null, .null, .null, .int 0, .null, .int 0, .int 0, .null, .null, .int 0, .int 0, .null, .null, .null, .null, .int 0, .null, .null, .null, .null, .null, .null, .null] rfl rfl ?_
  refine b_sC [.int 0, .ref (g.1 + 1), .ref (g.1 + 2), .ref (g.1 + 3), .ref (g.1 + 4), .int 0, .int 0, .int 0, .int 0, .int 0, .int 0, .int 0, .int 0, .int 0, .int (-1 : Int32), .int 0, .null, .null, .null, .null, .null, .int 0, .null, .int 0, .int 0, .null, .null, .int 0, .int 0, .null, .null, .null, .null, .int 0, .null, .null, .null, .null, .null, .null, .null] rfl rfl ?_
  refine b_lt (v := g.1 + 5) rfl ?_
  refine b_nC 0 900 (by decide) ?_
  refine b_sC [.int 0, .ref (g.1 + 1), .ref (g.1 + 2), .ref (g.1 + 3), .ref (g.1 + 4), .int 0, .int 0, .int 0, .int 0, .int 0, .int 0, .int 0, .int 0, .int 0, .int (-1 : Int32), .int 0, .ref (g.1 + 5), .null, .null, .null, .null, .int 0, .null, .int 0, .int 0, .null, .null, .int 0, .int 0, .null, .null, .null, .null, .int 0, .null, .null, .null, .null, .null, .null, .null] rfl rfl ?_
  refine b_lt (v := g.1 + 6) rfl ?_
  refine b_nC 0 8 (by decide) ?_
  refine b_sC [.int 0, .ref (g.1 + 1), .ref (g.1 + 2), .ref (g.1 + 3), .ref (g.1 + 4), .int 0, .int 0, .int 0, .int 0, .int 0, .int 0, .int 0, .int 0, .int 0, .int (-1 : Int32), .int 0, .ref (g.1 + 5), .ref (g.1 + 6), .null, .null, .null, .int 0, .null, .int 0, .int 0, .null, .null, .int 0, .int 0, .null, .null, .null, .null, .int 0, .null, .null, .null, .null, .null, .null, .null] rfl rfl ?_
  refine b_lt (v := g.1 + 7) rfl ?_
  refine b_nC 0 2000 (by decide) ?_
  refine b_sC [.int 0, .ref (g.1 + 1), .ref (g.1 + 2), .ref (g.1 + 3), .ref (g.1 + 4), .int 0, .int 0, .int 0, .int 0, .int 0, .int 0, .int 0, .int 0, .int 0, .int (-1 : Int32), .int 0, .ref (g.1 + 5), .ref (g.1 + 6), .ref (g.1 + 7), .null, .null, .int 0, .null, .int 0, .int 0, .null, .null, .int 0, .int 0, .null, .null, .null, .null, .int 0, .null, .null, .null, .null, .null, .null, .null] rfl rfl ?_
  refine b_lt (v := g.1 + 8) rfl ?_
  refine b_nC 3 3700 (by decide) ?_
  refine b_sC [.int 0, .ref (g.1 + 1), .ref (g.1 + 2), .ref (g.1 + 3), .ref (g.1 + 4), .int 0, .int 0, .int 0, .int 0, .int 0, .int 0, .int 0, .int 0, .int 0, .int (-1 : Int32), .int 0, .ref (g.1 + 5), .ref (g.1 + 6), .ref (g.1 + 7), .ref (g.1 + 8), .null, .int 0, .null, .int 0, .int 0, .null, .null, .int 0, .int 0, .null, .null, .null, .null, .int 0, .null, .null, .null, .null, .null, .null, .null] rfl rfl ?_
  refine b_lt (v := g.1 + 9) rfl ?_
  refine b_nC 0 35 (by decide) ?_
  refine b_sC [.int 0, .ref (g.1 + 1), .ref (g.1 + 2), .ref (g.1 + 3), .ref (g.1 + 4), .int 0, .int 0, .int 0, .int 0, .int 0, .int 0, .int 0, .int 0, .int 0, .int (-1 : Int32), .int 0, .ref (g.1 + 5), .ref (g.1 + 6), .ref (g.1 + 7), .ref (g.1 + 8), .ref (g.1 + 9), .int 0, .null, .int 0, .int 0, .null, .null, .int 0, .int 0, .null, .null, .null, .null, .int 0, .null, .null, .null, .null, .null, .null, .null] rfl rfl ?_
  refine b_lt (v := g.1 + 10) rfl ?_
  refine b_nC 0 11 (by decide) ?_
  refine b_sC [.int 0, .ref (g.1 + 1), .ref (g.1 + 2), .ref (g.1 + 3), .ref (g.1 + 4), .int 0, .int 0, .int 0, .int 0, .int 0, .int 0, .int 0, .int 0, .int 0, .int (-1 : Int32), .int 0, .ref (g.1 + 5), .ref (g.1 + 6), .ref (g.1 + 7), .ref (g.1 + 8), .ref (g.1 + 9), .int 0, .ref (g.1 + 10), .int 0, .int 0, .null, .null, .int 0, .int 0, .null, .null, .null, .null, .int 0, .null, .null, .null, .null, .null, .null, .null] rfl rfl ?_
  refine b_lt (v := g.1 + 11) rfl ?_
  refine b_nC 0 20001 (by decide) ?_
  refine b_sC [.int 0, .ref (g.1 + 1), .ref (g.1 + 2), .ref (g.1 + 3), .ref (g.1 + 4), .int 0, .int 0, .int 0, .int 0, .int 0, .int 0, .int 0, .int 0, .int 0, .int (-1 : Int32), .int 0, .ref (g.1 + 5), .ref (g.1 + 6), .ref (g.1 + 7), .ref (g.1 + 8), .ref (g.1 + 9), .int 0, .ref (g.1 + 10), .int 0, .int 0, .ref (g.1 + 11), .null, .int 0, .int 0, .null, .null, .null, .null, .int 0, .null, .null, .null, .null, .null, .null, .null] rfl rfl ?_
  refine b_lt (v := g.1 + 12) rfl ?_
  refine b_nC 0 20000 (by decide) ?_
  refine b_sC [.int 0, .ref (g.1 + 1), .ref (g.1 + 2), .ref (g.1 + 3), .ref (g.1 + 4), .int 0, .int 0, .int 0, .int 0, .int 0, .int 0, .int 0, .int 0, .int 0, .int (-1 : Int32), .int 0, .ref (g.1 + 5), .ref (g.1 + 6), .ref (g.1 + 7), .ref (g.1 + 8), .ref (g.1 + 9), .int 0, .ref (g.1 + 10), .int 0, .int 0, .ref (g.1 + 11), .ref (g.1 + 12), .int 0, .int 0, .null, .null, .null, .null, .int 0, .null, .null, .null, .null, .null, .null, .null] rfl rfl ?_
  refine b_lt (v := g.1 + 13) rfl ?_
  refine b_nC 0 20000 (by decide) ?_
  refine b_sC [.int 0, .ref (g.1 + 1), .ref (g.1 + 2), .ref (g.1 + 3), .ref (g.1 + 4), .int 0, .int 0, .int 0, .int 0, .int 0, .int 0, .int 0, .int 0, .int 0, .int (-1 : Int32), .int 0, .ref (g.1 + 5), .ref (g.1 + 6), .ref (g.1 + 7), .ref (g.1 + 8), .ref (g.1 + 9), .int 0, .ref (g.1 + 10), .int 0, .int 0, .ref (g.1 + 11), .ref (g.1 + 12), .int 0, .int 0, .ref (g.1 + 13), .null, .null, .null, .int 0, .null, .null, .null, .null, .null, .null, .null] rfl rfl ?_
  refine b_lt (v := g.1 + 14) rfl ?_
  refine b_nC 0 700000 (by decide) ?_
  refine b_sC [.int 0, .ref (g.1 + 1), .ref (g.1 + 2), .ref (g.1 + 3), .ref (g.1 + 4), .int 0, .int 0, .int 0, .int 0, .int 0, .int 0, .int 0, .int 0, .int 0, .int (-1 : Int32), .int 0, .ref (g.1 + 5), .ref (g.1 + 6), .ref (g.1 + 7), .ref (g.1 + 8), .ref (g.1 + 9), .int 0, .ref (g.1 + 10), .int 0, .int 0, .ref (g.1 + 11), .ref (g.1 + 12), .int 0, .int 0, .ref (g.1 + 13), .ref (g.1 + 14), .null, .null, .int 0, .null, .null, .null, .null, .null, .null, .null] rfl rfl ?_
  refine b_lt (v := g.1 + 15) rfl ?_
  refine b_nC 0 20000 (by decide) ?_
  refine b_sC [.int 0, .ref (g.1 + 1), .ref (g.1 + 2), .ref (g.1 + 3), .ref (g.1 + 4), .int 0, .int 0, .int 0, .int 0, .int 0, .int 0, .int 0, .int 0, .int 0, .int (-1 : Int32), .int 0, .ref (g.1 + 5), .ref (g.1 + 6), .ref (g.1 + 7), .ref (g.1 + 8), .ref (g.1 + 9), .int 0, .ref (g.1 + 10), .int 0, .int 0, .ref (g.1 + 11), .ref (g.1 + 12), .int 0, .int 0, .ref (g.1 + 13), .ref (g.1 + 14), .ref (g.1 + 15), .null, .int 0, .null, .null, .null, .null, .null, .null, .null] rfl rfl ?_
  refine b_lt (v := g.1 + 16) rfl ?_
  refine b_nC 3 20000 (by decide) ?_
  refine b_sC [.int 0, .ref (g.1 + 1), .ref (g.1 + 2), .ref (g.1 + 3), .ref (g.1 + 4), .int 0, .int 0, .int 0, .int 0, .int 0, .int 0, .int 0, .int 0, .int 0, .int (-1 : Int32), .int 0, .ref (g.1 + 5), .ref (g.1 + 6), .ref (g.1 + 7), .ref (g.1 + 8), .ref (g.1 + 9), .int 0, .ref (g.1 + 10), .int 0, .int 0, .ref (g.1 + 11), .ref (g.1 + 12), .int 0, .int 0, .ref (g.1 + 13), .ref (g.1 + 14), .ref (g.1 + 15), .ref (g.1 + 16), .int 0, .null, .null, .null, .null, .null, .null, .null] rfl rfl ?_
  refine b_lt (v := g.1 + 17) rfl ?_
  refine b_nC 2 20000 (by decide) ?_
  refine b_sC [.int 0, .ref (g.1 + 1), .ref (g.1 + 2), .ref (g.1 + 3), .ref (g.1 + 4), .int 0, .int 0, .int 0, .int 0, .int 0, .int 0, .int 0, .int 0, .int 0, .int (-1 : Int32), .int 0, .ref (g.1 + 5), .ref (g.1 + 6), .ref (g.1 + 7), .ref (g.1 + 8), .ref (g.1 + 9), .int 0, .ref (g.1 + 10), .int 0, .int 0, .ref (g.1 + 11), .ref (g.1 + 12), .int 0, .int 0, .ref (g.1 + 13), .ref (g.1 + 14), .ref (g.1 + 15), .ref (g.1 + 16), .int 0, .ref (g.1 + 17), .null, .null, .null, .null, .null, .null] rfl rfl ?_
  refine b_lt (v := g.1 + 18) rfl ?_
  refine b_nC 2 20000 (by decide) ?_
  refine b_sC [.int 0, .ref (g.1 + 1), .ref (g.1 + 2), .ref (g.1 + 3), .ref (g.1 + 4), .int 0, .int 0, .int 0, .int 0, .int 0, .int 0, .int 0, .int 0, .int 0, .int (-1 : Int32), .int 0, .ref (g.1 + 5), .ref (g.1 + 6), .ref (g.1 + 7), .ref (g.1 + 8), .ref (g.1 + 9), .int 0, .ref (g.1 + 10), .int 0, .int 0, .ref (g.1 + 11), .ref (g.1 + 12), .int 0, .int 0, .ref (g.1 + 13), .ref (g.1 + 14), .ref (g.1 + 15), .ref (g.1 + 16), .int 0, .ref (g.1 + 17), .ref (g.1 + 18), .null, .null, .null, .null, .null] rfl rfl ?_
  refine b_lt (v := g.1 + 19) rfl ?_
  refine b_nC 0 19 (by decide) ?_
  refine b_sC [.int 0, .ref (g.1 + 1), .ref (g.1 + 2), .ref (g.1 + 3), .ref (g.1 + 4), .int 0, .int 0, .int 0, .int 0, .int 0, .int 0, .int 0, .int 0, .int 0, .int (-1 : Int32), .int 0, .ref (g.1 + 5), .ref (g.1 + 6), .ref (g.1 + 7), .ref (g.1 + 8), .ref (g.1 + 9), .int 0, .ref (g.1 + 10), .int 0, .int 0, .ref (g.1 + 11), .ref (g.1 + 12), .int 0, .int 0, .ref (g.1 + 13), .ref (g.1 + 14), .ref (g.1 + 15), .ref (g.1 + 16), .int 0, .ref (g.1 + 17), .ref (g.1 + 18), .ref (g.1 + 19), .null, .null, .null, .null] rfl rfl ?_
  refine b_lt (v := g.1 + 20) rfl ?_
  refine b_nC 0 700000 (by decide) ?_
  refine b_sC [.int 0, .ref (g.1 + 1), .ref (g.1 + 2), .ref (g.1 + 3), .ref (g.1 + 4), .int 0, .int 0, .int 0, .int 0, .int 0, .int 0, .int 0, .int 0, .int 0, .int (-1 : Int32), .int 0, .ref (g.1 + 5), .ref (g.1 + 6), .ref (g.1 + 7), .ref (g.1 + 8), .ref (g.1 + 9), .int 0, .ref (g.1 + 10), .int 0, .int 0, .ref (g.1 + 11), .ref (g.1 + 12), .int 0, .int 0, .ref (g.1 + 13), .ref (g.1 + 14), .ref (g.1 + 15), .ref (g.1 + 16), .int 0, .ref (g.1 + 17), .ref (g.1 + 18), .ref (g.1 + 19), .ref (g.1 + 20), .null, .null, .null] rfl rfl ?_
  refine b_lt (v := g.1 + 21) rfl ?_
  refine b_nC 0 4 (by decide) ?_
  refine b_wC 20 0 rfl rfl (by decide) (by decide) ?_
  refine b_wC 20 1 rfl rfl (by decide) (by decide) ?_
  refine b_wC 20 2 rfl rfl (by decide) (by decide) ?_
  refine b_wC 20 3 rfl rfl (by decide) (by decide) ?_
  refine b_sC [.int 0, .ref (g.1 + 1), .ref (g.1 + 2), .ref (g.1 + 3), .ref (g.1 + 4), .int 0, .int 0, .int 0, .int 0, .int 0, .int 0, .int 0, .int 0, .int 0, .int (-1 : Int32), .int 0, .ref (g.1 + 5), .ref (g.1 + 6), .ref (g.1 + 7), .ref (g.1 + 8), .ref (g.1 + 9), .int 0, .ref (g.1 + 10), .int 0, .int 0, .ref (g.1 + 11), .ref (g.1 + 12), .int 0, .int 0, .ref (g.1 + 13), .ref (g.1 + 14), .ref (g.1 + 15), .ref (g.1 + 16), .int 0, .ref (g.1 + 17), .ref (g.1 + 18), .ref (g.1 + 19), .ref (g.1 + 20), .ref (g.1 + 21), .null, .null] rfl rfl ?_
  refine b_lt (v := g.1 + 22) rfl ?_
  refine b_nC 0 4 (by decide) ?_
  refine b_sC [.int 0, .ref (g.1 + 1), .ref (g.1 + 2), .ref (g.1 + 3), .ref (g.1 + 4), .int 0, .int 0, .int 0, .int 0, .int 0, .int 0, .int 0, .int 0, .int 0, .int (-1 : Int32), .int 0, .ref (g.1 + 5), .ref (g.1 + 6), .ref (g.1 + 7), .ref (g.1 + 8), .ref (g.1 + 9), .int 0, .ref (g.1 + 10), .int 0, .int 0, .ref (g.1 + 11), .ref (g.1 + 12), .int 0, .int 0, .ref (g.1 + 13), .ref (g.1 + 14), .ref (g.1 + 15), .ref (g.1 + 16), .int 0, .ref (g.1 + 17), .ref (g.1 + 18), .ref (g.1 + 19), .ref (g.1 + 20), .ref (g.1 + 21), .ref (g.1 + 22), .null] rfl rfl ?_
  refine b_lt (v := g.1 + 23) rfl ?_
  refine b_nC 2 160 (by decide) ?_
  refine b_sC [.int 0, .ref (g.1 + 1), .ref (g.1 + 2), .ref (g.1 + 3), .ref (g.1 + 4), .int 0, .int 0, .int 0, .int 0, .int 0, .int 0, .int 0, .int 0, .int 0, .int (-1 : Int32), .int 0, .ref (g.1 + 5), .ref (g.1 + 6), .ref (g.1 + 7), .ref (g.1 + 8), .ref (g.1 + 9), .int 0, .ref (g.1 + 10), .int 0, .int 0, .ref (g.1 + 11), .ref (g.1 + 12), .int 0, .int 0, .ref (g.1 + 13), .ref (g.1 + 14), .ref (g.1 + 15), .ref (g.1 + 16), .int 0, .ref (g.1 + 17), .ref (g.1 + 18), .ref (g.1 + 19), .ref (g.1 + 20), .ref (g.1 + 21), .ref (g.1 + 22), .ref (g.1 + 23)] rfl rfl ?_
  refine b_gC (g.1 + 1) rfl rfl ?_
  refine Eq.trans (k_bi _) ?_
  exact congrArg (fun l => fX12_plain (Xh g l) (g.1 + 1)) rfl
def mu0 : Mu := (fun k => if k = 14 then -1 else 0, fun r => if r = 21 then upd (upd (upd (upd (fun _ => 0) 0 (-1)) 1 (-1)) 2 (-1)) 3 (-1) else fun _ => 0, fun _ _ => 0)
theorem m0_at (a : Nat) : ∀ i, i < 24 → ((LC12 a)[i]?).map Prod.snd = some (mcell a mu0 i) := by
  intro i hi
  match i, hi with
  | 0, _ => exact rfl
  | 1, _ => exact rfl
  | 2, _ => exact rfl
  | 3, _ => exact rfl
  | 4, _ => exact rfl
  | 5, _ => exact rfl
  | 6, _ => exact rfl
  | 7, _ => exact rfl
  | 8, _ => exact rfl
  | 9, _ => exact rfl
  | 10, _ => exact rfl
  | 11, _ => exact rfl
  | 12, _ => exact rfl
  | 13, _ => exact rfl
  | 14, _ => exact rfl
  | 15, _ => exact rfl
  | 16, _ => exact rfl
  | 17, _ => exact rfl
  | 18, _ => exact rfl
  | 19, _ => exact rfl
  | 20, _ => exact rfl
  | 21, _ => exact rfl
  | 22, _ => exact rfl
  | 23, _ => exact rfl
  | k + 24, hi => exact absurd hi (by omega)
theorem m0_put {g : Hp} : mput g.1 (Xh g (LC12 g.1)) mu0 = Xh g (LC12 g.1) := by
  refine Prod.ext rfl (Prod.ext rfl ?_)
  funext j
  show (if g.1 ≤ j ∧ j < g.1 + 24 then some (mcell g.1 mu0 (j - g.1)) else (Xh g (LC12 g.1)).2.2 j) = (Xh g (LC12 g.1)).2.2 j
  by_cases z : g.1 ≤ j ∧ j < g.1 + 24
  · rw [if_pos z, ← m0_at g.1 (j - g.1) (by omega)]
    exact (if_neg (by omega)).symm
  · rw [if_neg z]
theorem q_pl1 {m : Mu} (hm : ∀ k, m.2.1 1 k = nI 0) : ∃ m', gX12_plain m 1 = some m' ∧ m'.1 = m.1 ∧ m'.2.2 = m.2.2 ∧ (∀ r, ¬ r = 1 → m'.2.1 r = m.2.1 r) ∧ ∀ k, m'.2.1 1 k = nI 0 := by
  have run : ∀ d k q, k + d = 1038 → (q.1 = m.1 ∧ q.2.2 = m.2.2 ∧ (∀ r, ¬ r = 1 → q.2.1 r = m.2.1 r) ∧ ∀ i, q.2.1 1 i = nI 0) → ∃ m', gX12_plain_2 q 1 (nI k) = some m' ∧ m'.1 = m.1 ∧ m'.2.2 = m.2.2 ∧ (∀ r, ¬ r = 1 → m'.2.1 r = m.2.1 r) ∧ ∀ i, m'.2.1 1 i = nI 0 := by
    intro d
    induction d with
    | zero =>
      intro k q hk H
      have ek : k = 1038 := by omega
      rw [ek]
      refine ⟨q, ?_, H⟩
      have eb : gX12_plain_2b q 1 (nI 1038) = some (.inr q) := by
        unfold gX12_plain_2b
        simp (disch := omega) only [n_lit, n_of, n_o1, nI_add, pk_mul, nI_ltI, nI_leI, nI_eq, ↓lift_lt, ↓k_mt, ↓k_mp, if_true, if_false, Bool.false_eq_true, Nat.not_lt_zero, Nat.zero_le, Nat.reduceEqDiff, Nat.reduceLeDiff, Nat.reduceLT, Nat.le_refl]
      unfold gX12_plain_2
      exact lpw_r eb
    | succ d ih =>
      intro k q hk ⟨h1, h2, h3, h4⟩
      have kk : ¬ 1038 ≤ k := by omega
      obtain ⟨m', e', H'⟩ := ih (k + 1) (mS q 1 k (nI 0)) (by omega) ⟨h1, by rw [mS_j]; exact h2, fun r hr => by rw [mS_ne _ _ _ hr]; exact h3 r hr, fun i => by
        rw [mS_a, if_pos rfl]
        by_cases z : i = k
        · rw [if_pos z]
        · rw [if_neg z]
          exact h4 i⟩
      refine ⟨m', ?_, H'⟩
      rw [← e']
      have eb : gX12_plain_2b q 1 (nI k) = some (.inl (nI (k + 1), mS q 1 k (nI 0))) := by
        unfold gX12_plain_2b
        simp (disch := omega) only [n_lit, n_of, n_o1, nI_add, pk_mul, nI_ltI, nI_leI, nI_eq, ↓lift_lt, ↓k_mt, ↓k_mp, if_true, if_false, Bool.false_eq_true, Nat.not_lt_zero, Nat.zero_le, Nat.reduceEqDiff, Nat.reduceLeDiff, Nat.reduceLT, kk, mW_1]
      unfold gX12_plain_2
      exact lpw_l eb
  exact run 1038 0 m rfl ⟨rfl, rfl, fun _ _ => rfl, hm⟩
def sp0 : Sp := ((0, fun _ => 0), cv0, (0, 0, 0, 0), [], fun _ => none, fun _ => none, (0, -1))
theorem v0_w : wV cv0 := cvT_w z0_ok (by decide)
theorem dg_0 (p : Nat) : dg 0 p = 0 := by
  unfold dg
  simp
theorem x0_w : WF sp0 := ⟨Nat.zero_le _, fun _ => by show 0 < 256; decide, v0_w, ⟨by show 0 < 20000; decide, by show 0 % 10000 < 10 ^ 0; decide, by show 0 < 10 ^ 0; decide, by show 0 < 5 ^ 0; decide, fun h => absurd h (by show ¬ 0 < 0; decide)⟩, Nat.zero_le _, fun s hs => (nomatch (show s ∈ ([] : List St) from hs)), fun _ => trivial, fun _ => trivial⟩
theorem x0_m {m : Mu} (h1 : m.1 = mu0.1) (h3 : ∀ r, ¬ r = 1 → m.2.1 r = mu0.2.1 r) (h4 : ∀ k, m.2.1 1 k = nI 0) : RM m sp0 := by
  refine ⟨by rw [h1]; rfl, fun i hi => absurd hi (Nat.not_lt_zero i), ⟨h4 _, h4 _, h4 _, h4 _, fun p _ => ?_, h4 _, h4 _⟩, ⟨fun p _ => ?_, fun p _ => ?_, h4 _, h4 _, h4 _⟩, h4 _, fun i hi => absurd hi (Nat.not_lt_zero i), fun i hi => ?_, fun t ht => ?_, by rw [h1]; rfl, by rw [h1]; rfl⟩
  · show m.2.1 1 (11 + p) = nI (dg 0 p)
    rw [dg_0]; exact h4 _
  · show m.2.1 1 (15 + p) = nI (dg 0 p)
    rw [dg_0]; exact h4 _
  · show m.2.1 1 (15 + (4 + p)) = nI (dg 0 p)
    rw [dg_0]; exact h4 _
  · show m.2.1 2 i = nI 0
    rw [h3 2 (by decide)]; rfl
  · show m.2.1 21 t = -nI 1
    rw [h3 21 (by decide)]
    match t, ht with
    | 0, _ => rfl
    | 1, _ => rfl
    | 2, _ => rfl
    | 3, _ => rfl
    | k + 4, h => exact absurd h (by omega)
theorem x0_c {h : Hp} (hc : CaveAt h 86 cv0) : RC 0 h (fun _ => cv0) ch0 sp0 := by
  refine ⟨⟨rfl, fun i hi => absurd hi (Nat.not_lt_zero i), ⟨86, rfl, rfl, hc⟩, ⟨rfl, rfl, rfl, rfl⟩, ⟨rfl, 0, by decide, rfl, fun i hi => absurd hi (Nat.not_lt_zero i)⟩, fun i _ => rfl, fun t ht => ?_, rfl, rfl⟩, ⟨86, 0, rfl, hc, v0_w, rfl, by decide, fun _ _ => Or.inl rfl, fun _ _ => Or.inl rfl⟩, 86, 0, 0, rfl, hc, v0_w, rfl, by decide, rfl, Nat.zero_le _, fun i _ => ⟨0, Nat.zero_le _, rfl⟩, Or.inl rfl⟩
  show ch0.1 (tadr t) 2 = nI 1
  match t, ht with
  | 0, _ => rfl
  | 1, _ => rfl
  | 2, _ => rfl
  | 3, _ => rfl
  | k + 4, h => exact absurd h (by omega)
theorem LB_sz {f35 fl fs : Nat → Int32} {tf mf : Nat → Option Nat} : sz (OB :: LB f35 fl fs [(4, .inr (9, [.ref 129, .int 0, .int 1, .int 0])), (40, .inl (2, 40, .inr (.inl (fun _ => 0)))), (4, .inr (9, [.ref 131, .int 0, .int 1, .int 0])), (40, .inl (2, 40, .inr (.inl (fun _ => 0)))), (4, .inr (9, [.ref 133, .int 0, .int 1, .int 0])), (40, .inl (2, 40, .inr (.inl (fun _ => 0)))), (4, .inr (9, [.ref 135, .int 0, .int 1, .int 0])), (40, .inl (2, 40, .inr (.inl (fun _ => 0))))] [(4, .inr (8, [.int 0, .int 0, .int 0, .int 0])), (4, .inr (8, [.int 0, .int 0, .int 0, .int 0]))] tf mf) ≤ 200000 := by
  have lb : nL cv0 ≤ 35 := (leadL_b (P := 0) (D := 0) (by decide) (by decide)).2
  simp only [OB, LB, LC4, LC8, LC1, LC10, LC2, LC7, L5s, sz_app, sz, sz_rep]
  generalize nL cv0 = n at lb ⊢
  omega
theorem law_start (N : Nat) (xs : Nat → Int32) : ∃ H V c m x, fL_law N xs h0 = fL_law_18 N xs (cput H c) 80 138 (nI 0) ∧ Jn 0 H V c m x ∧ H.1 ≤ 162 ∧ H.2.1 ≤ 2000000 := by
  obtain ⟨f35, fl, fs, e1, q1, q2⟩ := i_11
  rw [i_11b, up_4, up_2] at e1
  obtain ⟨LL, eL⟩ : ∃ LL : List (Nat × Cl), LL = OB :: LB f35 fl fs [(4, .inr (9, [.ref 129, .int 0, .int 1, .int 0])), (40, .inl (2, 40, .inr (.inl (fun _ => 0)))), (4, .inr (9, [.ref 131, .int 0, .int 1, .int 0])), (40, .inl (2, 40, .inr (.inl (fun _ => 0)))), (4, .inr (9, [.ref 133, .int 0, .int 1, .int 0])), (40, .inl (2, 40, .inr (.inl (fun _ => 0)))), (4, .inr (9, [.ref 135, .int 0, .int 1, .int 0])), (40, .inl (2, 40, .inr (.inl (fun _ => 0))))] [(4, .inr (8, [.int 0, .int 0, .int 0, .int 0])), (4, .inr (8, [.int 0, .int 0, .int 0, .int 0]))] (fun i => if i < 4 then some (128 + 2 * i) else none) (fun i => if i < 2 then some (136 + i) else none) := ⟨_, rfl⟩
  rw [← eL] at e1
  have eLn : LL.length = 58 := by rw [eL]; rfl
  have eLa : ∀ i, i < 58 → ¬ (6 ≤ i ∧ i < 10) → (LL[i]?).map Prod.snd = some (cell ch0 (80 + i)) := by rw [eL]; exact LB_at
  have l86 : LL[6]? = some (11, .inr (0, [.int (nI (vP cv0)), .int (nI (vD cv0)), .int (nI (vY cv0)), .int (nI (vN cv0)), .int (nI (vG cv0)), .int (nI (vC cv0)), .int (nI (vL cv0)), .null, .null, .ref 88, .ref 89])) := by rw [eL]; rfl
  have l88 : LL[8]? = some (nL cv0, .inl (0, nL cv0, .inl fl)) := by rw [eL]; rfl
  have l89 : LL[9]? = some (4 * nL cv0, .inl (0, 4 * nL cv0, .inl fs)) := by rw [eL]; rfl
  have esz : sz LL ≤ 200000 := by rw [eL]; exact LB_sz
  obtain ⟨G, eG⟩ : ∃ G : Hp, G = Xh h0 LL := ⟨_, rfl⟩
  rw [← eG] at e1
  have G1 : G.1 = 138 := by rw [eG]; show 80 + LL.length = 138; rw [eLn]
  have G2 : G.2.1 ≤ 200000 := by rw [eG]; show 0 + sz LL ≤ 200000; omega
  have Gn : hN G := by rw [eG]; exact Xh_hn _ _
  have Ga : ∀ i n x, LL[i]? = some (n, x) → G.2.2 (80 + i) = some x := fun i n x h => by rw [eG]; exact Xh_at (g := h0) h
  obtain ⟨m', p1, p2, p3, p4, p5⟩ := q_pl1 (m := mu0) (fun _ => rfl)
  have e2 := i_12 Gn
  rw [← m0_put, lX12_plain G.1 _ mu0 1 (by decide), p1] at e2
  obtain ⟨F, eF⟩ : ∃ F : Hp, F = mput G.1 (Xh G (LC12 G.1)) m' := ⟨_, rfl⟩
  have e2 : fX12_init (nO G 12 41) G.1 = some F := by rw [eF]; exact e2
  rw [G1] at eF e2
  have Fl : ∀ j, j < 138 → F.2.2 j = G.2.2 j := fun j hj => by
    rw [eF]
    refine Eq.trans (if_neg (by omega)) ?_
    exact Xh_lo (by omega)
  have F1 : F.1 = 162 := by rw [eF]; show G.1 + 24 = 162; omega
  have F2 : F.2.1 ≤ 2000000 := by
    rw [eF]
    show G.2.1 + sz (LC12 138) ≤ 2000000
    simp only [LC12, sz]
    omega
  have cF : cput F ch0 = F := by
    refine Prod.ext rfl (Prod.ext rfl ?_)
    funext j
    show (if cdom j = true then some (cell ch0 j) else F.2.2 j) = F.2.2 j
    by_cases z : cdom j = true
    · rw [if_pos z]
      have z2 : 80 ≤ j ∧ j < 138 ∧ ¬ (86 ≤ j ∧ j < 90) := by
        simp [cdom] at z
        omega
      rw [Fl j z2.2.1]
      have w := eLa (j - 80) (by omega) (by omega)
      rw [show 80 + (j - 80) = j by omega] at w
      cases hl : LL[j - 80]? with
      | none => rw [hl] at w; cases w
      | some y =>
        rw [hl] at w
        have g := Ga (j - 80) y.1 y.2 hl
        rw [show 80 + (j - 80) = j by omega] at g
        rw [g]
        exact w.symm
    · rw [if_neg z]
  have hcv : CaveAt F 86 cv0 := by
    refine ⟨Or.inl ⟨by decide, by decide⟩, none, none, 88, 89, fl, fs, ?_, rfl, rfl, Or.inl ⟨by decide, by decide⟩, Or.inl ⟨by decide, by decide⟩, ?_, q1, ?_, q2⟩
    · rw [Fl 86 (by decide)]; exact Ga 6 _ _ l86
    · rw [Fl 88 (by decide)]; exact Ga 8 _ _ l88
    · rw [Fl 89 (by decide)]; exact Ga 9 _ _ l89
  refine ⟨F, fun _ => cv0, ch0, m', sp0, ?_, ⟨x0_c hcv, x0_m p2 p4 p5, x0_w, ⟨by omega, fun a ha => ?_⟩, ?_⟩, by omega, F2⟩
  · rw [cF]
    unfold fL_law
    refine b_lt (v := 80) rfl ?_
    refine b_lt rfl ?_
    rw [e1, k_bs]
    refine b_lt G1 ?_
    refine b_lt rfl ?_
    exact (congrArg (fun o => o.bind (fun y6 => fL_law_18 N xs y6 80 138 (0 : Int32))) e2).trans rfl
  · rw [eF]
    refine Eq.trans (if_neg (by omega)) ?_
    refine Xh_hn G (LC12 138) a ?_
    show G.1 + 24 ≤ a
    omega
  · rw [eF]
    exact mput_i _ _
theorem pure_law (N : Nat) (xs : Nat → Int32) (hN : N ≤ 3072) : ∃ h' : Hp, fL_law N xs h0 = some (1, h') ∧ h'.1 ≤ 600080 ∧ h'.2.1 ≤ 7302250 := by
  obtain ⟨H, V, c, m, x, e, J, b1, b2⟩ := law_start N xs
  obtain ⟨h', e', b3, b4⟩ := law_run xs hN 512 0 0 H V c m x (by omega) (Nat.zero_le N) (by decide) J
  exact ⟨h', by rw [e]; exact e', by omega, by omega⟩
