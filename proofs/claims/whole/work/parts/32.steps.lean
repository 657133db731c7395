/-! methods with loops: from loop head to loop head, printed by wip/whole/gen14.py -/
theorem w_Town_begin_0 {d : Nat} {a0 : Nat} {o1 : Option Value} {S : fm_S} {r : Option Value × am_W} (hs0 : fm_tg a0 = 6) (hs1 : fm_tg (a0 + 16) = 2) (c0 : am_Ev (d + 1) k_Town_begin 32 [some (.ref a0), some (.int 0)] [] (fm_mk (dy_first (fm_wI (fm_wI (fm_wI (fm_wI S a0 0 0) a0 7 0) (a0 + 10) 0 0) a0 14 0) (a0 + 16) 8)) r) : am_Ev (d + 1) k_Town_begin 0 [some (.ref a0), o1] [] (fm_mk S) r := by
  refine b_Town_begin_0 hs0 (s_Days_begin (a0 := (a0 + 16)) (S := (fm_wI (fm_wI (fm_wI (fm_wI S a0 0 0) a0 7 0) (a0 + 10) 0 0) a0 14 0)) hs1) ?_
  refine b_Town_begin_30 ?_
  exact c0
theorem w_Town_begin_32 {d : Nat} {a0 : Nat} {x1 : Int32} {S : fm_S} {r : Option Value × am_W} (hs0 : fm_tg a0 = 6) (hs1 : ¬ 4 ≤ x1 → vp_in x1 4) (c0 : 4 ≤ x1 → am_Ev d k_Town_begin 59 [some (.ref a0), some (.int 0)] [] (fm_mk S) r) (c1 : ¬ 4 ≤ x1 → am_Ev d k_Town_begin 32 [some (.ref a0), some (.int (x1 + 1))] [] (fm_mk (fm_wI (fm_wI S (a0 + 5) x1.toNatClampNeg 0) (a0 + 6) x1.toNatClampNeg x1)) r) : am_Ev d k_Town_begin 32 [some (.ref a0), some (.int x1)] [] (fm_mk S) r := by
  refine b_Town_begin_32 (fun q1_ => ?_) (fun q1_ => ?_)
  · refine b_Town_begin_57 ?_
    exact c0 q1_
  · refine b_Town_begin_37 hs0 (hs1 q1_) ?_
    exact c1 q1_
theorem w_Town_begin_59 {d : Nat} {a0 : Nat} {x1 : Int32} {S : fm_S} {r : Option Value × am_W} (hs0 : fm_tg a0 = 6) (hs1 : ¬ 8 ≤ x1 → vp_in x1 8) (c0 : 8 ≤ x1 → r = (none, fm_mk S)) (c1 : ¬ 8 ≤ x1 → am_Ev d k_Town_begin 59 [some (.ref a0), some (.int (x1 + 1))] [] (fm_mk (fm_wI S (a0 + 4) x1.toNatClampNeg 0)) r) : am_Ev d k_Town_begin 59 [some (.ref a0), some (.int x1)] [] (fm_mk S) r := by
  refine b_Town_begin_59 (fun q1_ => ?_) (fun q1_ => ?_)
  · rw [c0 q1_]; exact b_Town_begin_78
  · refine b_Town_begin_65 hs0 (hs1 q1_) ?_
    exact c1 q1_
theorem w_M_digest_0 {d : Nat} {o1 : Option Value} {o2 : Option Value} {o3 : Option Value} {S : fm_S} {r : Option Value × am_W} (c0 : am_Ev d k_M_digest 6 [some (.ref 231), some (.long 1069), none, some (.int 0)] [] (fm_mk S) r) : am_Ev d k_M_digest 0 [some (.ref 231), o1, o2, o3] [] (fm_mk S) r := by
  refine b_M_digest_0 ?_
  exact c0
theorem w_M_digest_6 {d : Nat} {y1 : Int64} {x3 : Int32} {S : fm_S} {r : Option Value × am_W} (hs0 : ¬ 7 ≤ x3 → x3 = 3 → vp_in (S.1 232 0) 9) (c0 : 7 ≤ x3 → am_Ev (d + 2) k_M_digest 33 [some (.ref 231), some (.long y1), none, some (.int 0)] [] (fm_mk S) r) (c1 : ¬ 7 ≤ x3 → am_Ev (d + 2) k_M_digest 6 [some (.ref 231), some (.long ((31 * y1) + (f_M_countOf S x3).toInt64)), none, some (.int (x3 + 1))] [] (fm_mk S) r) : am_Ev (d + 2) k_M_digest 6 [some (.ref 231), some (.long y1), none, some (.int x3)] [] (fm_mk S) r := by
  refine b_M_digest_6 (fun q1_ => ?_) (fun q1_ => ?_)
  · refine b_M_digest_31 ?_
    exact c0 q1_
  · refine b_M_digest_12 (s_M_countOf (x1 := x3) (S := S) (hs0 q1_)) ?_
    refine b_M_digest_22 ?_
    exact c1 q1_
theorem w_M_digest_33 {d : Nat} {y1 : Int64} {x3 : Int32} {S : fm_S} {r : Option Value × am_W} (hs0 : ¬ (6 * (S.1 232 0)) ≤ x3 → vp_in ((5 + (8 * (x3 - x3 / 6 * 6))) + (x3 / 6)) 373) (c0 : (6 * (S.1 232 0)) ≤ x3 → am_Ev d k_M_digest 81 [some (.ref 231), some (.long y1), none, some (.int 0)] [] (fm_mk S) r) (c1 : ¬ (6 * (S.1 232 0)) ≤ x3 → am_Ev d k_M_digest 33 [some (.ref 231), some (.long ((31 * y1) + ((S.1 232 (((5 + (8 * (x3 - x3 / 6 * 6))) + (x3 / 6)).toNatClampNeg)).toInt64))), none, some (.int (x3 + 1))] [] (fm_mk S) r) : am_Ev d k_M_digest 33 [some (.ref 231), some (.long y1), none, some (.int x3)] [] (fm_mk S) r := by
  refine b_M_digest_33 (fun q1_ => ?_) (fun q1_ => ?_)
  · refine b_M_digest_79 ?_
    exact c0 q1_
  · refine b_M_digest_46 (hs0 q1_) ?_
    exact c1 q1_
theorem w_M_digest_81 {d : Nat} {y1 : Int64} {x3 : Int32} {S : fm_S} {r : Option Value × am_W} (hs0 : ¬ 64 ≤ x3 → ¬ (x3 - x3 / 8 * 8) ≤ (x3 / 8) → vp_in (53 + x3) 373) (c0 : 64 ≤ x3 → am_Ev d k_M_digest 127 [some (.ref 231), some (.long y1), none, some (.int 0)] [] (fm_mk S) r) (c1 : ¬ 64 ≤ x3 → (x3 - x3 / 8 * 8) ≤ (x3 / 8) → am_Ev d k_M_digest 81 [some (.ref 231), some (.long y1), none, some (.int (x3 + 1))] [] (fm_mk S) r) (c2 : ¬ 64 ≤ x3 → ¬ (x3 - x3 / 8 * 8) ≤ (x3 / 8) → am_Ev d k_M_digest 81 [some (.ref 231), some (.long ((31 * y1) + ((S.1 232 ((53 + x3).toNatClampNeg)).toInt64))), none, some (.int (x3 + 1))] [] (fm_mk S) r) : am_Ev d k_M_digest 81 [some (.ref 231), some (.long y1), none, some (.int x3)] [] (fm_mk S) r := by
  refine b_M_digest_81 (fun q1_ => ?_) (fun q1_ => ?_)
  · refine b_M_digest_125 ?_
    exact c0 q1_
  · refine b_M_digest_87 (fun q2_ => ?_) (fun q2_ => ?_)
    · refine b_M_digest_117 ?_
      refine b_M_digest_118 ?_
      exact c1 q1_ q2_
    · refine b_M_digest_98 (hs0 q1_ q2_) ?_
      refine b_M_digest_118 ?_
      exact c2 q1_ q2_
theorem w_M_digest_127 {d : Nat} {y1 : Int64} {x3 : Int32} {S : fm_S} {r : Option Value × am_W} (hs0 : ¬ 8 ≤ x3 → vp_in (117 + x3) 373) (c0 : 8 ≤ x3 → am_Ev d k_M_digest 158 [some (.ref 231), some (.long y1), none, some (.int 0)] [] (fm_mk S) r) (c1 : ¬ 8 ≤ x3 → am_Ev d k_M_digest 127 [some (.ref 231), some (.long ((31 * y1) + ((S.1 232 ((117 + x3).toNatClampNeg)).toInt64))), none, some (.int (x3 + 1))] [] (fm_mk S) r) : am_Ev d k_M_digest 127 [some (.ref 231), some (.long y1), none, some (.int x3)] [] (fm_mk S) r := by
  refine b_M_digest_127 (fun q1_ => ?_) (fun q1_ => ?_)
  · refine b_M_digest_156 ?_
    exact c0 q1_
  · refine b_M_digest_133 (hs0 q1_) ?_
    exact c1 q1_
theorem w_M_digest_158 {d : Nat} {y1 : Int64} {x3 : Int32} {S : fm_S} {r : Option Value × am_W} (hs0 : ¬ (3 * (S.1 232 1)) ≤ x3 → vp_in ((125 + (6 * (x3 - x3 / 3 * 3))) + (x3 / 3)) 373) (c0 : (3 * (S.1 232 1)) ≤ x3 → am_Ev d k_M_digest 204 [some (.ref 231), some (.long y1), none, some (.int 0)] [] (fm_mk S) r) (c1 : ¬ (3 * (S.1 232 1)) ≤ x3 → am_Ev d k_M_digest 158 [some (.ref 231), some (.long ((31 * y1) + ((S.1 232 (((125 + (6 * (x3 - x3 / 3 * 3))) + (x3 / 3)).toNatClampNeg)).toInt64))), none, some (.int (x3 + 1))] [] (fm_mk S) r) : am_Ev d k_M_digest 158 [some (.ref 231), some (.long y1), none, some (.int x3)] [] (fm_mk S) r := by
  refine b_M_digest_158 (fun q1_ => ?_) (fun q1_ => ?_)
  · refine b_M_digest_202 ?_
    exact c0 q1_
  · refine b_M_digest_170 (hs0 q1_) ?_
    exact c1 q1_
theorem w_M_digest_204 {d : Nat} {y1 : Int64} {x3 : Int32} {S : fm_S} {r : Option Value × am_W} (hs0 : ¬ (5 * (S.1 232 2)) ≤ x3 → vp_in ((143 + (6 * (x3 - x3 / 5 * 5))) + (x3 / 5)) 373) (c0 : (5 * (S.1 232 2)) ≤ x3 → r = (some (.long ((31 * ((31 * y1) + (S.2.1 231 6))) + (S.2.1 231 7))), fm_mk S)) (c1 : ¬ (5 * (S.1 232 2)) ≤ x3 → am_Ev d k_M_digest 204 [some (.ref 231), some (.long ((31 * y1) + ((S.1 232 (((143 + (6 * (x3 - x3 / 5 * 5))) + (x3 / 5)).toNatClampNeg)).toInt64))), none, some (.int (x3 + 1))] [] (fm_mk S) r) : am_Ev d k_M_digest 204 [some (.ref 231), some (.long y1), none, some (.int x3)] [] (fm_mk S) r := by
  refine b_M_digest_204 (fun q1_ => ?_) (fun q1_ => ?_)
  · rw [c0 q1_]; exact b_M_digest_249
  · refine b_M_digest_216 (hs0 q1_) ?_
    exact c1 q1_
