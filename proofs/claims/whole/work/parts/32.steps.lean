/-! methods with loops: from loop head to loop head, printed by wip/whole/gen14.py -/
theorem w_Town_begin_0 {d : Nat} {a0 : Nat} {o1 : Option Value} {S : fm_S} {r : Option Value × am_W} (hs0 : fm_tg a0 = 6) (hs1 : fm_tg (a0 + 16) = 2) (c0 : am_Ev (d + 1) k_Town_begin 32 [some (.ref a0), some (.int 0)] [] (fm_mk (dy_first (fm_wI (fm_wI (fm_wI (fm_wI S a0 0 0) a0 7 0) (a0 + 10) 0 0) a0 14 0) (a0 + 16) 8)) r) : am_Ev (d + 1) k_Town_begin 0 [some (.ref a0), o1] [] (fm_mk S) r := by
  refine b_Town_begin_0 hs0 (s_Days_begin (a0 := (a0 + 16)) (S := (fm_wI (fm_wI (fm_wI (fm_wI S a0 0 0) a0 7 0) (a0 + 10) 0 0) a0 14 0)) hs1) ?_
  refine b_Town_begin_30 ?_
  exact c0
theorem w_Town_begin_32 {d : Nat} {a0 : Nat} {x1 : Int32} {S : fm_S} {r : Option Value × am_W} (hs0 : fm_tg a0 = 6) (hs1 : ¬ 4 ≤ x1 → vp_in x1 4) (c0 : 4 ≤ x1 → am_Ev d k_Town_begin 59 [some (.ref a0), some (.int 0)] [] (fm_mk S) r) (c1 : ¬ 4 ≤ x1 → am_Ev d k_Town_begin 32 [some (.ref a0), some (.int (x1 + 1))] [] (fm_mk (fm_wI (fm_wI S (a0 + 5) x1.toNatClampNeg 0) (a0 + 6) x1.toNatClampNeg x1)) r) : am_Ev d k_Town_begin 32 [some (.ref a0), some (.int x1)] [] (fm_mk S) r := by
  refine b_Town_begin_32 (fun q1_ => ?_) (fun q1_ => ?_)
  · refine b_Town_begin_57 ?_
    exact c0 q1_
  · refine b_Town_begin_37 hs0 (hs1 q1_) ?_
    exact c1 q1_
theorem w_Town_begin_59 {d : Nat} {a0 : Nat} {x1 : Int32} {S : fm_S} {r : Option Value × am_W} (hs0 : fm_tg a0 = 6) (hs1 : ¬ 8 ≤ x1 → vp_in x1 8) (c0 : 8 ≤ x1 → r = (none, fm_mk S)) (c1 : ¬ 8 ≤ x1 → am_Ev d k_Town_begin 59 [some (.ref a0), some (.int (x1 + 1))] [] (fm_mk (fm_wI S (a0 + 4) x1.toNatClampNeg 0)) r) : am_Ev d k_Town_begin 59 [some (.ref a0), some (.int x1)] [] (fm_mk S) r := by
  refine b_Town_begin_59 (fun q1_ => ?_) (fun q1_ => ?_)
  · rw [c0 q1_]; exact b_Town_begin_78
  · refine b_Town_begin_65 hs0 (hs1 q1_) ?_
    exact c1 q1_
