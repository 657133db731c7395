/-! methods with loops: from loop head to loop head, printed by wip/whole/gen14.py -/
theorem w_Days_begin_0 {d : Nat} {a0 : Nat} {o1 : Option Value} {S : fm_S} {r : Option Value × am_W} (hs0 : fm_tg a0 = 2) (c0 : am_Ev d k_Days_begin 7 [some (.ref a0), some (.int 0)] [] (fm_mk (fm_wI S a0 0 0)) r) : am_Ev d k_Days_begin 0 [some (.ref a0), o1] [] (fm_mk S) r := by
  refine b_Days_begin_0 hs0 ?_
  exact c0
theorem w_Days_begin_7 {d : Nat} {a0 : Nat} {x1 : Int32} {S : fm_S} {r : Option Value × am_W} (hs0 : fm_tg a0 = 2) (hs1 : ¬ 8 ≤ x1 → vp_in x1 8) (c0 : 8 ≤ x1 → r = (none, fm_mk S)) (c1 : ¬ 8 ≤ x1 → am_Ev d k_Days_begin 7 [some (.ref a0), some (.int (x1 + 1))] [] (fm_mk (fm_wI (fm_wI (fm_wI S (a0 + 1) x1.toNatClampNeg (-1)) (a0 + 2) x1.toNatClampNeg (-1)) (a0 + 3) x1.toNatClampNeg 0)) r) : am_Ev d k_Days_begin 7 [some (.ref a0), some (.int x1)] [] (fm_mk S) r := by
  refine b_Days_begin_7 (fun q1_ => ?_) (fun q1_ => ?_)
  · rw [c0 q1_]; exact b_Days_begin_40
  · refine b_Days_begin_13 hs0 (hs1 q1_) ?_
    exact c1 q1_
theorem w_Reader_take_0 {d : Nat} {S : fm_S} {r : Option Value × am_W} (hs0 : (S.1 67 0) ≤ (S.1 67 5) → ((fm_wI S 67 6 (S.1 67 5)).1 67 5) < ((fm_wI S 67 6 (S.1 67 5)).1 67 0) → vp_in ((fm_wI S 67 6 (S.1 67 5)).1 67 5) 150) (hs1 : ¬ (S.1 67 0) ≤ (S.1 67 5) → vp_in (S.1 67 5) 150) (hs2 : ¬ (S.1 67 0) ≤ (S.1 67 5) → ¬ (S.1 121 ((S.1 67 5).toNatClampNeg)) = 32 → ((fm_wI S 67 6 (S.1 67 5)).1 67 5) < ((fm_wI S 67 6 (S.1 67 5)).1 67 0) → vp_in ((fm_wI S 67 6 (S.1 67 5)).1 67 5) 150) (c0 : (S.1 67 0) ≤ (S.1 67 5) → ((fm_wI S 67 6 (S.1 67 5)).1 67 5) < ((fm_wI S 67 6 (S.1 67 5)).1 67 0) → (f_Reader_isLetter ((fm_wI S 67 6 (S.1 67 5)).1 121 (((fm_wI S 67 6 (S.1 67 5)).1 67 5).toNatClampNeg))) = 0 → (f_Reader_isFigure ((fm_wI S 67 6 (S.1 67 5)).1 121 (((fm_wI S 67 6 (S.1 67 5)).1 67 5).toNatClampNeg))) = 0 → ((fm_wI S 67 6 (S.1 67 5)).1 121 (((fm_wI S 67 6 (S.1 67 5)).1 67 5).toNatClampNeg)) = 59 → r = (none, fm_mk (fm_wI (fm_wI (fm_wI S 67 6 (S.1 67 5)) 67 7 3) 67 5 (((fm_wI (fm_wI S 67 6 (S.1 67 5)) 67 7 3).1 67 5) + 1)))) (c1 : (S.1 67 0) ≤ (S.1 67 5) → ((fm_wI S 67 6 (S.1 67 5)).1 67 5) < ((fm_wI S 67 6 (S.1 67 5)).1 67 0) → (f_Reader_isLetter ((fm_wI S 67 6 (S.1 67 5)).1 121 (((fm_wI S 67 6 (S.1 67 5)).1 67 5).toNatClampNeg))) = 0 → (f_Reader_isFigure ((fm_wI S 67 6 (S.1 67 5)).1 121 (((fm_wI S 67 6 (S.1 67 5)).1 67 5).toNatClampNeg))) = 0 → ¬ ((fm_wI S 67 6 (S.1 67 5)).1 121 (((fm_wI S 67 6 (S.1 67 5)).1 67 5).toNatClampNeg)) = 59 → r = (none, fm_mk (fm_wI (fm_wI (fm_wI S 67 6 (S.1 67 5)) 67 7 4) 67 5 (((fm_wI (fm_wI S 67 6 (S.1 67 5)) 67 7 4).1 67 5) + 1)))) (c2 : (S.1 67 0) ≤ (S.1 67 5) → ((fm_wI S 67 6 (S.1 67 5)).1 67 5) < ((fm_wI S 67 6 (S.1 67 5)).1 67 0) → (f_Reader_isLetter ((fm_wI S 67 6 (S.1 67 5)).1 121 (((fm_wI S 67 6 (S.1 67 5)).1 67 5).toNatClampNeg))) = 0 → ¬ (f_Reader_isFigure ((fm_wI S 67 6 (S.1 67 5)).1 121 (((fm_wI S 67 6 (S.1 67 5)).1 67 5).toNatClampNeg))) = 0 → am_Ev (d + 1) k_Reader_take 144 [some (.ref 67)] [] (fm_mk (fm_wI (fm_wI S 67 6 (S.1 67 5)) 67 8 0)) r) (c3 : (S.1 67 0) ≤ (S.1 67 5) → ((fm_wI S 67 6 (S.1 67 5)).1 67 5) < ((fm_wI S 67 6 (S.1 67 5)).1 67 0) → ¬ (f_Reader_isLetter ((fm_wI S 67 6 (S.1 67 5)).1 121 (((fm_wI S 67 6 (S.1 67 5)).1 67 5).toNatClampNeg))) = 0 → am_Ev (d + 1) k_Reader_take 85 [some (.ref 67)] [] (fm_mk (fm_wI (fm_wI S 67 6 (S.1 67 5)) 67 7 1)) r) (c4 : (S.1 67 0) ≤ (S.1 67 5) → ¬ ((fm_wI S 67 6 (S.1 67 5)).1 67 5) < ((fm_wI S 67 6 (S.1 67 5)).1 67 0) → r = (none, fm_mk (fm_wI (fm_wI S 67 6 (S.1 67 5)) 67 7 0))) (c5 : ¬ (S.1 67 0) ≤ (S.1 67 5) → (S.1 121 ((S.1 67 5).toNatClampNeg)) = 32 → am_Ev (d + 1) k_Reader_take 0 [some (.ref 67)] [] (fm_mk (fm_wI S 67 5 ((S.1 67 5) + 1))) r) (c6 : ¬ (S.1 67 0) ≤ (S.1 67 5) → ¬ (S.1 121 ((S.1 67 5).toNatClampNeg)) = 32 → ((fm_wI S 67 6 (S.1 67 5)).1 67 5) < ((fm_wI S 67 6 (S.1 67 5)).1 67 0) → (f_Reader_isLetter ((fm_wI S 67 6 (S.1 67 5)).1 121 (((fm_wI S 67 6 (S.1 67 5)).1 67 5).toNatClampNeg))) = 0 → (f_Reader_isFigure ((fm_wI S 67 6 (S.1 67 5)).1 121 (((fm_wI S 67 6 (S.1 67 5)).1 67 5).toNatClampNeg))) = 0 → ((fm_wI S 67 6 (S.1 67 5)).1 121 (((fm_wI S 67 6 (S.1 67 5)).1 67 5).toNatClampNeg)) = 59 → r = (none, fm_mk (fm_wI (fm_wI (fm_wI S 67 6 (S.1 67 5)) 67 7 3) 67 5 (((fm_wI (fm_wI S 67 6 (S.1 67 5)) 67 7 3).1 67 5) + 1)))) (c7 : ¬ (S.1 67 0) ≤ (S.1 67 5) → ¬ (S.1 121 ((S.1 67 5).toNatClampNeg)) = 32 → ((fm_wI S 67 6 (S.1 67 5)).1 67 5) < ((fm_wI S 67 6 (S.1 67 5)).1 67 0) → (f_Reader_isLetter ((fm_wI S 67 6 (S.1 67 5)).1 121 (((fm_wI S 67 6 (S.1 67 5)).1 67 5).toNatClampNeg))) = 0 → (f_Reader_isFigure ((fm_wI S 67 6 (S.1 67 5)).1 121 (((fm_wI S 67 6 (S.1 67 5)).1 67 5).toNatClampNeg))) = 0 → ¬ ((fm_wI S 67 6 (S.1 67 5)).1 121 (((fm_wI S 67 6 (S.1 67 5)).1 67 5).toNatClampNeg)) = 59 → r = (none, fm_mk (fm_wI (fm_wI (fm_wI S 67 6 (S.1 67 5)) 67 7 4) 67 5 (((fm_wI (fm_wI S 67 6 (S.1 67 5)) 67 7 4).1 67 5) + 1)))) (c8 : ¬ (S.1 67 0) ≤ (S.1 67 5) → ¬ (S.1 121 ((S.1 67 5).toNatClampNeg)) = 32 → ((fm_wI S 67 6 (S.1 67 5)).1 67 5) < ((fm_wI S 67 6 (S.1 67 5)).1 67 0) → (f_Reader_isLetter ((fm_wI S 67 6 (S.1 67 5)).1 121 (((fm_wI S 67 6 (S.1 67 5)).1 67 5).toNatClampNeg))) = 0 → ¬ (f_Reader_isFigure ((fm_wI S 67 6 (S.1 67 5)).1 121 (((fm_wI S 67 6 (S.1 67 5)).1 67 5).toNatClampNeg))) = 0 → am_Ev (d + 1) k_Reader_take 144 [some (.ref 67)] [] (fm_mk (fm_wI (fm_wI S 67 6 (S.1 67 5)) 67 8 0)) r) (c9 : ¬ (S.1 67 0) ≤ (S.1 67 5) → ¬ (S.1 121 ((S.1 67 5).toNatClampNeg)) = 32 → ((fm_wI S 67 6 (S.1 67 5)).1 67 5) < ((fm_wI S 67 6 (S.1 67 5)).1 67 0) → ¬ (f_Reader_isLetter ((fm_wI S 67 6 (S.1 67 5)).1 121 (((fm_wI S 67 6 (S.1 67 5)).1 67 5).toNatClampNeg))) = 0 → am_Ev (d + 1) k_Reader_take 85 [some (.ref 67)] [] (fm_mk (fm_wI (fm_wI S 67 6 (S.1 67 5)) 67 7 1)) r) (c10 : ¬ (S.1 67 0) ≤ (S.1 67 5) → ¬ (S.1 121 ((S.1 67 5).toNatClampNeg)) = 32 → ¬ ((fm_wI S 67 6 (S.1 67 5)).1 67 5) < ((fm_wI S 67 6 (S.1 67 5)).1 67 0) → r = (none, fm_mk (fm_wI (fm_wI S 67 6 (S.1 67 5)) 67 7 0))) : am_Ev (d + 1) k_Reader_take 0 [some (.ref 67)] [] (fm_mk S) r := by
  refine b_Reader_take_0 (fun q1_ => ?_) (fun q1_ => ?_)
  · refine b_Reader_take_38 (fun q2_ => ?_) (fun q2_ => ?_)
    · refine b_Reader_take_65 (hs0 q1_ q2_) (s_Reader_isLetter (x0 := ((fm_wI S 67 6 (S.1 67 5)).1 121 (((fm_wI S 67 6 (S.1 67 5)).1 67 5).toNatClampNeg))) (S := (fm_wI S 67 6 (S.1 67 5)))) ?_
      refine b_Reader_take_77 (fun q3_ => ?_) (fun q3_ => ?_)
      · refine b_Reader_take_124 (hs0 q1_ q2_) (s_Reader_isFigure (x0 := ((fm_wI S 67 6 (S.1 67 5)).1 121 (((fm_wI S 67 6 (S.1 67 5)).1 67 5).toNatClampNeg))) (S := (fm_wI S 67 6 (S.1 67 5)))) ?_
        refine b_Reader_take_136 (fun q4_ => ?_) (fun q4_ => ?_)
        · refine b_Reader_take_245 (hs0 q1_ q2_) (fun q5_ => ?_) (fun q5_ => ?_)
          · refine b_Reader_take_264 ?_
            refine b_Reader_take_265 ?_
            rw [c1 q1_ q2_ q3_ q4_ q5_]; exact b_Reader_take_278
          · refine b_Reader_take_260 ?_
            refine b_Reader_take_265 ?_
            rw [c0 q1_ q2_ q3_ q4_ q5_]; exact b_Reader_take_278
        · refine b_Reader_take_139 ?_
          exact c2 q1_ q2_ q3_ q4_
      · refine b_Reader_take_80 ?_
        exact c3 q1_ q2_ q3_
    · refine b_Reader_take_57 ?_
      rw [c4 q1_ q2_]; exact b_Reader_take_278
  · refine b_Reader_take_11 (hs1 q1_) (fun q6_ => ?_) (fun q6_ => ?_)
    · refine b_Reader_take_38 (fun q7_ => ?_) (fun q7_ => ?_)
      · refine b_Reader_take_65 (hs2 q1_ q6_ q7_) (s_Reader_isLetter (x0 := ((fm_wI S 67 6 (S.1 67 5)).1 121 (((fm_wI S 67 6 (S.1 67 5)).1 67 5).toNatClampNeg))) (S := (fm_wI S 67 6 (S.1 67 5)))) ?_
        refine b_Reader_take_77 (fun q8_ => ?_) (fun q8_ => ?_)
        · refine b_Reader_take_124 (hs2 q1_ q6_ q7_) (s_Reader_isFigure (x0 := ((fm_wI S 67 6 (S.1 67 5)).1 121 (((fm_wI S 67 6 (S.1 67 5)).1 67 5).toNatClampNeg))) (S := (fm_wI S 67 6 (S.1 67 5)))) ?_
          refine b_Reader_take_136 (fun q9_ => ?_) (fun q9_ => ?_)
          · refine b_Reader_take_245 (hs2 q1_ q6_ q7_) (fun q10_ => ?_) (fun q10_ => ?_)
            · refine b_Reader_take_264 ?_
              refine b_Reader_take_265 ?_
              rw [c7 q1_ q6_ q7_ q8_ q9_ q10_]; exact b_Reader_take_278
            · refine b_Reader_take_260 ?_
              refine b_Reader_take_265 ?_
              rw [c6 q1_ q6_ q7_ q8_ q9_ q10_]; exact b_Reader_take_278
          · refine b_Reader_take_139 ?_
            exact c8 q1_ q6_ q7_ q8_ q9_
        · refine b_Reader_take_80 ?_
          exact c9 q1_ q6_ q7_ q8_
      · refine b_Reader_take_57 ?_
        rw [c10 q1_ q6_ q7_]; exact b_Reader_take_278
    · refine b_Reader_take_25 ?_
      exact c5 q1_ q6_
theorem w_Reader_take_85 {d : Nat} {S : fm_S} {r : Option Value × am_W} (hs0 : ¬ (S.1 67 0) ≤ (S.1 67 5) → vp_in (S.1 67 5) 150) (c0 : (S.1 67 0) ≤ (S.1 67 5) → r = (none, fm_mk S)) (c1 : ¬ (S.1 67 0) ≤ (S.1 67 5) → (f_Reader_isLetter (S.1 121 ((S.1 67 5).toNatClampNeg))) = 0 → r = (none, fm_mk S)) (c2 : ¬ (S.1 67 0) ≤ (S.1 67 5) → ¬ (f_Reader_isLetter (S.1 121 ((S.1 67 5).toNatClampNeg))) = 0 → am_Ev (d + 1) k_Reader_take 85 [some (.ref 67)] [] (fm_mk (fm_wI S 67 5 ((S.1 67 5) + 1))) r) : am_Ev (d + 1) k_Reader_take 85 [some (.ref 67)] [] (fm_mk S) r := by
  refine b_Reader_take_85 (fun q1_ => ?_) (fun q1_ => ?_)
  · rw [c0 q1_]; exact b_Reader_take_278
  · refine b_Reader_take_96 (hs0 q1_) (s_Reader_isLetter (x0 := (S.1 121 ((S.1 67 5).toNatClampNeg))) (S := S)) ?_
    refine b_Reader_take_108 (fun q2_ => ?_) (fun q2_ => ?_)
    · rw [c1 q1_ q2_]; exact b_Reader_take_278
    · refine b_Reader_take_111 ?_
      exact c2 q1_ q2_
theorem w_Reader_take_144 {d : Nat} {S : fm_S} {r : Option Value × am_W} (hs0 : ¬ (S.1 67 0) ≤ (S.1 67 5) → vp_in (S.1 67 5) 150) (c0 : (S.1 67 0) ≤ (S.1 67 5) → ((S.1 67 5) - (S.1 67 6)) ≤ 2 → r = (none, fm_mk (fm_wI S 67 7 2))) (c1 : (S.1 67 0) ≤ (S.1 67 5) → ¬ ((S.1 67 5) - (S.1 67 6)) ≤ 2 → r = (none, fm_mk (fm_wI S 67 7 4))) (c2 : ¬ (S.1 67 0) ≤ (S.1 67 5) → (f_Reader_isFigure (S.1 121 ((S.1 67 5).toNatClampNeg))) = 0 → ((S.1 67 5) - (S.1 67 6)) ≤ 2 → r = (none, fm_mk (fm_wI S 67 7 2))) (c3 : ¬ (S.1 67 0) ≤ (S.1 67 5) → (f_Reader_isFigure (S.1 121 ((S.1 67 5).toNatClampNeg))) = 0 → ¬ ((S.1 67 5) - (S.1 67 6)) ≤ 2 → r = (none, fm_mk (fm_wI S 67 7 4))) (c4 : ¬ (S.1 67 0) ≤ (S.1 67 5) → ¬ (f_Reader_isFigure (S.1 121 ((S.1 67 5).toNatClampNeg))) = 0 → 2 ≤ ((S.1 67 5) - (S.1 67 6)) → am_Ev (d + 1) k_Reader_take 144 [some (.ref 67)] [] (fm_mk (fm_wI S 67 5 ((S.1 67 5) + 1))) r) (c5 : ¬ (S.1 67 0) ≤ (S.1 67 5) → ¬ (f_Reader_isFigure (S.1 121 ((S.1 67 5).toNatClampNeg))) = 0 → ¬ 2 ≤ ((S.1 67 5) - (S.1 67 6)) → am_Ev (d + 1) k_Reader_take 144 [some (.ref 67)] [] (fm_mk (fm_wI (fm_wI S 67 8 (((10 * (S.1 67 8)) + (S.1 121 ((S.1 67 5).toNatClampNeg))) - 48)) 67 5 (((fm_wI S 67 8 (((10 * (S.1 67 8)) + (S.1 121 ((S.1 67 5).toNatClampNeg))) - 48)).1 67 5) + 1))) r) : am_Ev (d + 1) k_Reader_take 144 [some (.ref 67)] [] (fm_mk S) r := by
  refine b_Reader_take_144 (fun q1_ => ?_) (fun q1_ => ?_)
  · refine b_Reader_take_220 (fun q2_ => ?_) (fun q2_ => ?_)
    · refine b_Reader_take_238 ?_
      refine b_Reader_take_239 ?_
      rw [c0 q1_ q2_]; exact b_Reader_take_278
    · refine b_Reader_take_234 ?_
      refine b_Reader_take_239 ?_
      rw [c1 q1_ q2_]; exact b_Reader_take_278
  · refine b_Reader_take_155 (hs0 q1_) (s_Reader_isFigure (x0 := (S.1 121 ((S.1 67 5).toNatClampNeg))) (S := S)) ?_
    refine b_Reader_take_167 (fun q3_ => ?_) (fun q3_ => ?_)
    · refine b_Reader_take_220 (fun q4_ => ?_) (fun q4_ => ?_)
      · refine b_Reader_take_238 ?_
        refine b_Reader_take_239 ?_
        rw [c2 q1_ q3_ q4_]; exact b_Reader_take_278
      · refine b_Reader_take_234 ?_
        refine b_Reader_take_239 ?_
        rw [c3 q1_ q3_ q4_]; exact b_Reader_take_278
    · refine b_Reader_take_170 (fun q5_ => ?_) (fun q5_ => ?_)
      · refine b_Reader_take_207 ?_
        exact c4 q1_ q3_ q5_
      · refine b_Reader_take_183 (hs0 q1_) ?_
        refine b_Reader_take_207 ?_
        exact c5 q1_ q3_ q5_
theorem w_Town_copy_0 {d : Nat} {a0 : Nat} {a1 : Nat} {o2 : Option Value} {S : fm_S} {r : Option Value × am_W} (hs0 : fm_tg a1 = 6) (hs1 : fm_tg a0 = 6) (hs2 : fm_tg (a1 + 10) = 4) (hs3 : fm_tg (a0 + 10) = 4) (hs4 : fm_tg (a1 + 16) = 2) (hs5 : fm_tg (a0 + 16) = 2) (c0 : am_Ev (d + 2) k_Town_copy 181 [some (.ref a0), some (.ref a1), some (.int 0)] [] (fm_mk (g_Days_copy (g_Notes_copy (fm_cp (fm_cp (fm_cp (fm_cp (fm_cp (fm_cp (fm_cp (fm_cp (fm_cp (fm_wI (fm_wI (fm_wI S a0 0 (S.1 a1 0)) a0 7 ((fm_wI S a0 0 (S.1 a1 0)).1 a1 7)) a0 14 ((fm_wI (fm_wI S a0 0 (S.1 a1 0)) a0 7 ((fm_wI S a0 0 (S.1 a1 0)).1 a1 7)).1 a1 14)) (a1 + 1) 0 (a0 + 1) 0 8) (a1 + 2) 0 (a0 + 2) 0 8) (a1 + 3) 0 (a0 + 3) 0 8) (a1 + 4) 0 (a0 + 4) 0 8) (a1 + 5) 0 (a0 + 5) 0 4) (a1 + 6) 0 (a0 + 6) 0 4) (a1 + 7) 0 (a0 + 7) 0 6) (a1 + 8) 0 (a0 + 8) 0 6) (a1 + 9) 0 (a0 + 9) 0 6) (a0 + 10) (a1 + 10)) (a0 + 16) (a1 + 16))) r) : am_Ev (d + 2) k_Town_copy 0 [some (.ref a0), some (.ref a1), o2] [] (fm_mk S) r := by
  refine b_Town_copy_0 hs0 hs1 (s_Notes_copy (a0 := (a0 + 10)) (a1 := (a1 + 10)) (S := (fm_cp (fm_cp (fm_cp (fm_cp (fm_cp (fm_cp (fm_cp (fm_cp (fm_cp (fm_wI (fm_wI (fm_wI S a0 0 (S.1 a1 0)) a0 7 ((fm_wI S a0 0 (S.1 a1 0)).1 a1 7)) a0 14 ((fm_wI (fm_wI S a0 0 (S.1 a1 0)) a0 7 ((fm_wI S a0 0 (S.1 a1 0)).1 a1 7)).1 a1 14)) (a1 + 1) 0 (a0 + 1) 0 8) (a1 + 2) 0 (a0 + 2) 0 8) (a1 + 3) 0 (a0 + 3) 0 8) (a1 + 4) 0 (a0 + 4) 0 8) (a1 + 5) 0 (a0 + 5) 0 4) (a1 + 6) 0 (a0 + 6) 0 4) (a1 + 7) 0 (a0 + 7) 0 6) (a1 + 8) 0 (a0 + 8) 0 6) (a1 + 9) 0 (a0 + 9) 0 6)) hs2 hs3) ?_
  refine b_Town_copy_168 hs1 hs0 (s_Days_copy (a0 := (a0 + 16)) (a1 := (a1 + 16)) (S := (g_Notes_copy (fm_cp (fm_cp (fm_cp (fm_cp (fm_cp (fm_cp (fm_cp (fm_cp (fm_cp (fm_wI (fm_wI (fm_wI S a0 0 (S.1 a1 0)) a0 7 ((fm_wI S a0 0 (S.1 a1 0)).1 a1 7)) a0 14 ((fm_wI (fm_wI S a0 0 (S.1 a1 0)) a0 7 ((fm_wI S a0 0 (S.1 a1 0)).1 a1 7)).1 a1 14)) (a1 + 1) 0 (a0 + 1) 0 8) (a1 + 2) 0 (a0 + 2) 0 8) (a1 + 3) 0 (a0 + 3) 0 8) (a1 + 4) 0 (a0 + 4) 0 8) (a1 + 5) 0 (a0 + 5) 0 4) (a1 + 6) 0 (a0 + 6) 0 4) (a1 + 7) 0 (a0 + 7) 0 6) (a1 + 8) 0 (a0 + 8) 0 6) (a1 + 9) 0 (a0 + 9) 0 6) (a0 + 10) (a1 + 10))) hs4 hs5) ?_
  refine b_Town_copy_179 ?_
  exact c0
theorem w_Town_copy_181 {d : Nat} {a0 : Nat} {a1 : Nat} {x2 : Int32} {S : fm_S} {r : Option Value × am_W} (hs0 : fm_tg a0 = 6) (hs1 : ¬ (S.1 a0 14) ≤ x2 → ¬ 8 ≤ x2 → vp_in x2 8) (hs2 : fm_tg a1 = 6) (hs3 : ¬ (S.1 a0 14) ≤ x2 → ¬ 8 ≤ x2 → fm_tg (S.2.2 (a0 + 20) x2.toNatClampNeg) = 2) (hs4 : ¬ (S.1 a0 14) ≤ x2 → ¬ 8 ≤ x2 → fm_tg (S.2.2 (a1 + 20) x2.toNatClampNeg) = 2) (c0 : (S.1 a0 14) ≤ x2 → r = (none, fm_mk S)) (c1 : ¬ (S.1 a0 14) ≤ x2 → 8 ≤ x2 → r = (none, fm_mk S)) (c2 : ¬ (S.1 a0 14) ≤ x2 → ¬ 8 ≤ x2 → am_Ev (d + 2) k_Town_copy 181 [some (.ref a0), some (.ref a1), some (.int (x2 + 1))] [] (fm_mk (g_Days_copy S (S.2.2 (a0 + 20) x2.toNatClampNeg) (S.2.2 (a1 + 20) x2.toNatClampNeg))) r) : am_Ev (d + 2) k_Town_copy 181 [some (.ref a0), some (.ref a1), some (.int x2)] [] (fm_mk S) r := by
  refine b_Town_copy_181 hs0 (fun q1_ => ?_) (fun q1_ => ?_)
  · rw [c0 q1_]; exact b_Town_copy_216
  · refine b_Town_copy_189 (fun q2_ => ?_) (fun q2_ => ?_)
    · rw [c1 q1_ q2_]; exact b_Town_copy_216
    · refine b_Town_copy_195 hs0 (hs1 q1_ q2_) hs2 (hs3 q1_ q2_) (s_Days_copy (a0 := (S.2.2 (a0 + 20) x2.toNatClampNeg)) (a1 := (S.2.2 (a1 + 20) x2.toNatClampNeg)) (S := S) (hs4 q1_ q2_) (hs3 q1_ q2_)) ?_
      refine b_Town_copy_210 ?_
      exact c2 q1_ q2_
theorem w_Town_keepDays_0 {d : Nat} {a0 : Nat} {o1 : Option Value} {o2 : Option Value} {S : fm_S} {r : Option Value × am_W} (hs0 : fm_tg a0 = 6) (hs1 : (S.1 a0 14) < 8 → vp_in (S.1 a0 14) 8) (hs2 : (S.1 a0 14) < 8 → fm_tg (S.2.2 (a0 + 20) ((S.1 a0 14).toNatClampNeg)) = 2) (hs3 : (S.1 a0 14) < 8 → fm_tg (a0 + 16) = 2) (c0 : (S.1 a0 14) < 8 → r = (none, fm_mk (fm_wI (g_Days_copy S (S.2.2 (a0 + 20) ((S.1 a0 14).toNatClampNeg)) (a0 + 16)) a0 14 (((g_Days_copy S (S.2.2 (a0 + 20) ((S.1 a0 14).toNatClampNeg)) (a0 + 16)).1 a0 14) + 1)))) (c1 : ¬ (S.1 a0 14) < 8 → am_Ev (d + 2) k_Town_keepDays 18 [some (.ref a0), some (.ref (S.2.2 (a0 + 20) 0)), some (.int 1)] [] (fm_mk S) r) : am_Ev (d + 2) k_Town_keepDays 0 [some (.ref a0), o1, o2] [] (fm_mk S) r := by
  refine b_Town_keepDays_0 hs0 (fun q1_ => ?_) (fun q1_ => ?_)
  · refine b_Town_keepDays_58 hs0 (hs1 q1_) (hs2 q1_) (s_Days_copy (a0 := (S.2.2 (a0 + 20) ((S.1 a0 14).toNatClampNeg))) (a1 := (a0 + 16)) (S := S) (hs3 q1_) (hs2 q1_)) ?_
    rw [c0 q1_]; exact b_Town_keepDays_74 hs0
  · refine b_Town_keepDays_9 hs0 ?_
    exact c1 q1_
theorem w_Town_keepDays_18 {d : Nat} {a0 : Nat} {a1 : Nat} {x2 : Int32} {S : fm_S} {r : Option Value × am_W} (hs0 : fm_tg a0 = 6) (hs1 : fm_tg a1 = 2) (hs2 : 8 ≤ x2 → vp_in ((fm_wI (fm_wP S (a0 + 20) 7 a1) a0 14 7).1 a0 14) 8) (hs3 : 8 ≤ x2 → fm_tg ((fm_wI (fm_wP S (a0 + 20) 7 a1) a0 14 7).2.2 (a0 + 20) (((fm_wI (fm_wP S (a0 + 20) 7 a1) a0 14 7).1 a0 14).toNatClampNeg)) = 2) (hs4 : 8 ≤ x2 → fm_tg (a0 + 16) = 2) (hs5 : ¬ 8 ≤ x2 → vp_in x2 8) (hs6 : ¬ 8 ≤ x2 → vp_in (x2 - 1) 8) (hs7 : ¬ 8 ≤ x2 → fm_tg (S.2.2 (a0 + 20) x2.toNatClampNeg) = 2) (c0 : 8 ≤ x2 → r = (none, fm_mk (fm_wI (g_Days_copy (fm_wI (fm_wP S (a0 + 20) 7 a1) a0 14 7) ((fm_wI (fm_wP S (a0 + 20) 7 a1) a0 14 7).2.2 (a0 + 20) (((fm_wI (fm_wP S (a0 + 20) 7 a1) a0 14 7).1 a0 14).toNatClampNeg)) (a0 + 16)) a0 14 (((g_Days_copy (fm_wI (fm_wP S (a0 + 20) 7 a1) a0 14 7) ((fm_wI (fm_wP S (a0 + 20) 7 a1) a0 14 7).2.2 (a0 + 20) (((fm_wI (fm_wP S (a0 + 20) 7 a1) a0 14 7).1 a0 14).toNatClampNeg)) (a0 + 16)).1 a0 14) + 1)))) (c1 : ¬ 8 ≤ x2 → am_Ev (d + 2) k_Town_keepDays 18 [some (.ref a0), some (.ref a1), some (.int (x2 + 1))] [] (fm_mk (fm_wP S (a0 + 20) ((x2 - 1).toNatClampNeg) (S.2.2 (a0 + 20) x2.toNatClampNeg))) r) : am_Ev (d + 2) k_Town_keepDays 18 [some (.ref a0), some (.ref a1), some (.int x2)] [] (fm_mk S) r := by
  refine b_Town_keepDays_18 (fun q1_ => ?_) (fun q1_ => ?_)
  · refine b_Town_keepDays_44 hs0 hs1 ?_
    refine b_Town_keepDays_58 hs0 (hs2 q1_) (hs3 q1_) (s_Days_copy (a0 := ((fm_wI (fm_wP S (a0 + 20) 7 a1) a0 14 7).2.2 (a0 + 20) (((fm_wI (fm_wP S (a0 + 20) 7 a1) a0 14 7).1 a0 14).toNatClampNeg))) (a1 := (a0 + 16)) (S := (fm_wI (fm_wP S (a0 + 20) 7 a1) a0 14 7)) (hs4 q1_) (hs3 q1_)) ?_
    rw [c0 q1_]; exact b_Town_keepDays_74 hs0
  · refine b_Town_keepDays_24 hs0 (hs5 q1_) (hs6 q1_) (hs7 q1_) ?_
    exact c1 q1_
theorem w_Air_empty_0 {d : Nat} {o1 : Option Value} {S : fm_S} {r : Option Value × am_W} (c0 : am_Ev d k_Air_empty 2 [some (.ref 56), some (.int 0)] [] (fm_mk S) r) : am_Ev d k_Air_empty 0 [some (.ref 56), o1] [] (fm_mk S) r := by
  refine b_Air_empty_0 ?_
  exact c0
theorem w_Air_empty_2 {d : Nat} {x1 : Int32} {S : fm_S} {r : Option Value × am_W} (hs0 : ¬ 8 ≤ x1 → vp_in x1 8) (c0 : 8 ≤ x1 → r = (none, fm_mk S)) (c1 : ¬ 8 ≤ x1 → am_Ev d k_Air_empty 2 [some (.ref 56), some (.int (x1 + 1))] [] (fm_mk (fm_wI S 57 x1.toNatClampNeg 0)) r) : am_Ev d k_Air_empty 2 [some (.ref 56), some (.int x1)] [] (fm_mk S) r := by
  refine b_Air_empty_2 (fun q1_ => ?_) (fun q1_ => ?_)
  · rw [c0 q1_]; exact b_Air_empty_21
  · refine b_Air_empty_8 (hs0 q1_) ?_
    exact c1 q1_
theorem w_Air_spread_0 {d : Nat} {a1 : Nat} {o2 : Option Value} {o3 : Option Value} {o4 : Option Value} {o5 : Option Value} {o6 : Option Value} {S : fm_S} {r : Option Value × am_W} (c0 : am_Ev d k_Air_spread 4 [some (.ref 56), some (.ref a1), some (.int 0), some (.int 0), o4, o5, o6] [] (fm_mk S) r) : am_Ev d k_Air_spread 0 [some (.ref 56), some (.ref a1), o2, o3, o4, o5, o6] [] (fm_mk S) r := by
  refine b_Air_spread_0 ?_
  exact c0
theorem w_Air_spread_4 {d : Nat} {a1 : Nat} {x2 : Int32} {x3 : Int32} {o4 : Option Value} {o5 : Option Value} {o6 : Option Value} {S : fm_S} {r : Option Value × am_W} (hs0 : fm_tg a1 = 6) (hs1 : (S.1 a1 0) ≤ x3 → x2 = 0 ∨ x2 = 1) (hs2 : ¬ (S.1 a1 0) ≤ x3 → vp_in x3 8) (c0 : (S.1 a1 0) ≤ x3 → r = (some (.int x2), fm_mk S)) (c1 : ¬ (S.1 a1 0) ≤ x3 → (S.1 57 x3.toNatClampNeg) ≤ 2 → am_Ev d k_Air_spread 37 [some (.ref 56), some (.ref a1), some (.int x2), some (.int x3), some (.int 0), some (.int 0), o6] [] (fm_mk S) r) (c2 : ¬ (S.1 a1 0) ≤ x3 → ¬ (S.1 57 x3.toNatClampNeg) ≤ 2 → am_Ev d k_Air_spread 37 [some (.ref 56), some (.ref a1), some (.int x2), some (.int x3), some (.int (S.1 (a1 + 4) x3.toNatClampNeg)), some (.int 0), o6] [] (fm_mk S) r) : am_Ev d k_Air_spread 4 [some (.ref 56), some (.ref a1), some (.int x2), some (.int x3), o4, o5, o6] [] (fm_mk S) r := by
  refine b_Air_spread_4 hs0 (fun q1_ => ?_) (fun q1_ => ?_)
  · rw [c0 q1_]; exact b_Air_spread_109 (hs1 q1_)
  · refine b_Air_spread_12 (hs2 q1_) (fun q2_ => ?_) (fun q2_ => ?_)
    · refine b_Air_spread_31 ?_
      refine b_Air_spread_32 ?_
      exact c1 q1_ q2_
    · refine b_Air_spread_22 hs0 (hs2 q1_) ?_
      refine b_Air_spread_32 ?_
      exact c2 q1_ q2_
theorem w_Air_spread_37 {d : Nat} {a1 : Nat} {x2 : Int32} {x3 : Int32} {x4 : Int32} {x5 : Int32} {o6 : Option Value} {S : fm_S} {r : Option Value × am_W} (hs0 : fm_tg a1 = 6) (hs1 : ¬ (S.1 a1 0) ≤ x5 → vp_in x3 8) (hs2 : ¬ (S.1 a1 0) ≤ x5 → vp_in x5 8) (c0 : (S.1 a1 0) ≤ x5 → am_Ev (d + 1) k_Air_spread 4 [some (.ref 56), some (.ref a1), some (.int x2), some (.int (x3 + 1)), some (.int x4), some (.int x5), o6] [] (fm_mk S) r) (c1 : ¬ (S.1 a1 0) ≤ x5 → (f_X_has x4 x5) = 0 → am_Ev (d + 1) k_Air_spread 37 [some (.ref 56), some (.ref a1), some (.int x2), some (.int x3), some (.int x4), some (.int (x5 + 1)), some (.int (((S.1 57 x3.toNatClampNeg) - 2) - (S.1 58 x5.toNatClampNeg)))] [] (fm_mk S) r) (c2 : ¬ (S.1 a1 0) ≤ x5 → ¬ (f_X_has x4 x5) = 0 → (((S.1 57 x3.toNatClampNeg) - 2) - (S.1 58 x5.toNatClampNeg)) ≤ (S.1 57 x5.toNatClampNeg) → am_Ev (d + 1) k_Air_spread 37 [some (.ref 56), some (.ref a1), some (.int x2), some (.int x3), some (.int x4), some (.int (x5 + 1)), some (.int (((S.1 57 x3.toNatClampNeg) - 2) - (S.1 58 x5.toNatClampNeg)))] [] (fm_mk S) r) (c3 : ¬ (S.1 a1 0) ≤ x5 → ¬ (f_X_has x4 x5) = 0 → ¬ (((S.1 57 x3.toNatClampNeg) - 2) - (S.1 58 x5.toNatClampNeg)) ≤ (S.1 57 x5.toNatClampNeg) → am_Ev (d + 1) k_Air_spread 37 [some (.ref 56), some (.ref a1), some (.int 1), some (.int x3), some (.int x4), some (.int (x5 + 1)), some (.int (((S.1 57 x3.toNatClampNeg) - 2) - (S.1 58 x5.toNatClampNeg)))] [] (fm_mk (fm_wI S 57 x5.toNatClampNeg (((S.1 57 x3.toNatClampNeg) - 2) - (S.1 58 x5.toNatClampNeg)))) r) : am_Ev (d + 1) k_Air_spread 37 [some (.ref 56), some (.ref a1), some (.int x2), some (.int x3), some (.int x4), some (.int x5), o6] [] (fm_mk S) r := by
  refine b_Air_spread_37 hs0 (fun q1_ => ?_) (fun q1_ => ?_)
  · refine b_Air_spread_103 ?_
    exact c0 q1_
  · refine b_Air_spread_46 (hs1 q1_) (hs2 q1_) (s_X_has (x0 := x4) (x1 := x5) (S := S)) ?_
    refine b_Air_spread_71 (fun q2_ => ?_) (fun q2_ => ?_)
    · refine b_Air_spread_97 ?_
      exact c1 q1_ q2_
    · refine b_Air_spread_74 (hs2 q1_) (fun q3_ => ?_) (fun q3_ => ?_)
      · refine b_Air_spread_97 ?_
        exact c2 q1_ q2_ q3_
      · refine b_Air_spread_86 (hs2 q1_) ?_
        refine b_Air_spread_97 ?_
        exact c3 q1_ q2_ q3_
theorem w_Cook_openingBits_0 {d : Nat} {a1 : Nat} {x2 : Int32} {o3 : Option Value} {o4 : Option Value} {S : fm_S} {r : Option Value × am_W} (c0 : am_Ev d k_Cook_openingBits 5 [some (.ref 54), some (.ref a1), some (.int x2), some (.int 0), some (.int 0)] [] (fm_mk S) r) : am_Ev d k_Cook_openingBits 0 [some (.ref 54), some (.ref a1), some (.int x2), o3, o4] [] (fm_mk S) r := by
  refine b_Cook_openingBits_0 ?_
  exact c0
theorem w_Cook_openingBits_5 {d : Nat} {a1 : Nat} {x2 : Int32} {x3 : Int32} {x4 : Int32} {S : fm_S} {r : Option Value × am_W} (hs0 : fm_tg a1 = 2) (hs1 : ¬ (S.1 1 0) ≤ x4 → vp_in x4 8) (hs2 : ¬ (S.1 1 0) ≤ x4 → ¬ (f_Days_isShut S a1 x4) = 0 → vp_in x2 6) (c0 : (S.1 1 0) ≤ x4 → r = (some (.int x3), fm_mk S)) (c1 : ¬ (S.1 1 0) ≤ x4 → (f_Days_isShut S a1 x4) = 0 → am_Ev (d + 3) k_Cook_openingBits 5 [some (.ref 54), some (.ref a1), some (.int x2), some (.int x3), some (.int (x4 + 1))] [] (fm_mk S) r) (c2 : ¬ (S.1 1 0) ≤ x4 → ¬ (f_Days_isShut S a1 x4) = 0 → (f_Cook_pullFromAir S a1 x2 x4) < 10 → am_Ev (d + 3) k_Cook_openingBits 5 [some (.ref 54), some (.ref a1), some (.int x2), some (.int x3), some (.int (x4 + 1))] [] (fm_mk S) r) (c3 : ¬ (S.1 1 0) ≤ x4 → ¬ (f_Days_isShut S a1 x4) = 0 → ¬ (f_Cook_pullFromAir S a1 x2 x4) < 10 → am_Ev (d + 3) k_Cook_openingBits 5 [some (.ref 54), some (.ref a1), some (.int x2), some (.int (x3 ||| (1 <<< (x4 &&& 31)))), some (.int (x4 + 1))] [] (fm_mk S) r) : am_Ev (d + 3) k_Cook_openingBits 5 [some (.ref 54), some (.ref a1), some (.int x2), some (.int x3), some (.int x4)] [] (fm_mk S) r := by
  refine b_Cook_openingBits_5 (fun q1_ => ?_) (fun q1_ => ?_)
  · rw [c0 q1_]; exact b_Cook_openingBits_52
  · refine b_Cook_openingBits_17 hs0 (s_Days_isShut (a0 := a1) (x1 := x4) (S := S) hs0 (hs1 q1_)) ?_
    refine b_Cook_openingBits_23 (fun q2_ => ?_) (fun q2_ => ?_)
    · refine b_Cook_openingBits_46 ?_
      exact c1 q1_ q2_
    · refine b_Cook_openingBits_26 (s_Cook_pullFromAir (a1 := a1) (x2 := x2) (x3 := x4) (S := S) (hs2 q1_ q2_) hs0 (hs1 q1_)) ?_
      refine b_Cook_openingBits_34 (fun q3_ => ?_) (fun q3_ => ?_)
      · refine b_Cook_openingBits_46 ?_
        exact c2 q1_ q2_ q3_
      · refine b_Cook_openingBits_39 ?_
        refine b_Cook_openingBits_46 ?_
        exact c3 q1_ q2_ q3_
theorem w_Cook_lay_0 {d : Nat} {x1 : Int32} {x2 : Int32} {o3 : Option Value} {o4 : Option Value} {o5 : Option Value} {o6 : Option Value} {S : fm_S} {r : Option Value × am_W} (c0 : am_Ev d k_Cook_lay 10 [some (.ref 54), some (.int x1), some (.int x2), some (.int x1), some (.int 0), some (.int (x2 - 1)), o6] [] (fm_mk S) r) : am_Ev d k_Cook_lay 0 [some (.ref 54), some (.int x1), some (.int x2), o3, o4, o5, o6] [] (fm_mk S) r := by
  refine b_Cook_lay_0 ?_
  exact c0
theorem w_Cook_lay_10 {d : Nat} {x1 : Int32} {x2 : Int32} {x3 : Int32} {x4 : Int32} {x5 : Int32} {o6 : Option Value} {S : fm_S} {r : Option Value × am_W} (hs0 : ¬ x5 < 0 → ¬ (S.1 1 7) ≤ 0 → ¬ (S.1 1 7) = 0) (hs1 : ¬ x5 < 0 → ¬ (S.1 1 7) ≤ 0 → (f_X_has x4 (x3 - x3 / (S.1 1 7) * (S.1 1 7))) = 0 → vp_in x5 4) (c0 : x5 < 0 → r = (some (.int 1), fm_mk S)) (c1 : ¬ x5 < 0 → (S.1 1 7) ≤ 0 → r = (some (.int 1), fm_mk S)) (c2 : ¬ x5 < 0 → ¬ (S.1 1 7) ≤ 0 → (f_X_has x4 (x3 - x3 / (S.1 1 7) * (S.1 1 7))) = 0 → am_Ev (d + 1) k_Cook_lay 10 [some (.ref 54), some (.int x1), some (.int x2), some (.int (x3 / (S.1 1 7))), some (.int (x4 ||| (1 <<< ((x3 - x3 / (S.1 1 7) * (S.1 1 7)) &&& 31)))), some (.int (x5 + (-1))), some (.int (x3 - x3 / (S.1 1 7) * (S.1 1 7)))] [] (fm_mk (fm_wI S 63 x5.toNatClampNeg (x3 - x3 / (S.1 1 7) * (S.1 1 7)))) r) (c3 : ¬ x5 < 0 → ¬ (S.1 1 7) ≤ 0 → ¬ (f_X_has x4 (x3 - x3 / (S.1 1 7) * (S.1 1 7))) = 0 → r = (some (.int 0), fm_mk S)) : am_Ev (d + 1) k_Cook_lay 10 [some (.ref 54), some (.int x1), some (.int x2), some (.int x3), some (.int x4), some (.int x5), o6] [] (fm_mk S) r := by
  refine b_Cook_lay_10 (fun q1_ => ?_) (fun q1_ => ?_)
  · rw [c0 q1_]; exact b_Cook_lay_82
  · refine b_Cook_lay_15 (fun q2_ => ?_) (fun q2_ => ?_)
    · rw [c1 q1_ q2_]; exact b_Cook_lay_82
    · refine b_Cook_lay_25 (hs0 q1_ q2_) (s_X_has (x0 := x4) (x1 := (x3 - x3 / (S.1 1 7) * (S.1 1 7))) (S := S)) ?_
      refine b_Cook_lay_53 (fun q3_ => ?_) (fun q3_ => ?_)
      · refine b_Cook_lay_58 (hs1 q1_ q2_ q3_) ?_
        exact c2 q1_ q2_ q3_
      · rw [c3 q1_ q2_ q3_]; exact b_Cook_lay_56
theorem w_Cook_opensLast_0 {d : Nat} {x1 : Int32} {x2 : Int32} {o3 : Option Value} {o4 : Option Value} {o5 : Option Value} {o6 : Option Value} {o7 : Option Value} {o8 : Option Value} {o9 : Option Value} {o10 : Option Value} {S : fm_S} {r : Option Value × am_W} (hs0 : vp_in x1 8) (c0 : am_Ev d k_Cook_opensLast 33 [some (.ref 54), some (.int x1), some (.int x2), some (.int (S.1 19 x1.toNatClampNeg)), some (.int (S.1 20 x1.toNatClampNeg)), some (.int 0), some (.int 0), o7, o8, o9, o10] [] (fm_mk S) r) : am_Ev d k_Cook_opensLast 0 [some (.ref 54), some (.int x1), some (.int x2), o3, o4, o5, o6, o7, o8, o9, o10] [] (fm_mk S) r := by
  refine b_Cook_opensLast_0 hs0 ?_
  exact c0
theorem w_Cook_opensLast_33 {d : Nat} {x1 : Int32} {x2 : Int32} {x3 : Int32} {x4 : Int32} {x5 : Int32} {x6 : Int32} {o7 : Option Value} {o8 : Option Value} {o9 : Option Value} {o10 : Option Value} {S : fm_S} {r : Option Value × am_W} (hs0 : ¬ x2 ≤ x6 → vp_in x6 4) (hs1 : ¬ x2 ≤ x6 → vp_in (S.1 63 x6.toNatClampNeg) 6) (hs2 : ¬ x2 ≤ x6 → vp_in (((S.1 63 x6.toNatClampNeg) * 4) + x6) 24) (hs3 : ¬ x2 ≤ x6 → (S.1 8 ((S.1 63 x6.toNatClampNeg).toNatClampNeg)) = x3 → vp_in x1 8) (hs4 : ¬ x2 ≤ x6 → ¬ (S.1 8 ((S.1 63 x6.toNatClampNeg).toNatClampNeg)) = x3 → vp_in x1 8) (c0 : x2 ≤ x6 → x5 < 10 → r = (some (.int 0), fm_mk S)) (c1 : x2 ≤ x6 → ¬ x5 < 10 → r = (some (.int 1), fm_mk S)) (c2 : ¬ x2 ≤ x6 → (S.1 8 ((S.1 63 x6.toNatClampNeg).toNatClampNeg)) = x3 → (S.1 64 ((((S.1 63 x6.toNatClampNeg) * 4) + x6).toNatClampNeg)) ≤ 0 → am_Ev (d + 2) k_Cook_opensLast 33 [some (.ref 54), some (.int x1), some (.int x2), some (.int (-1)), some (.int 0), some (.int (f_Town_pull S 1 x1 (S.1 63 x6.toNatClampNeg) (S.1 64 ((((S.1 63 x6.toNatClampNeg) * 4) + x6).toNatClampNeg)) ((S.1 17 0) + x6) x4)), some (.int (x6 + 1)), some (.int (S.1 63 x6.toNatClampNeg)), some (.int (S.1 8 ((S.1 63 x6.toNatClampNeg).toNatClampNeg))), some (.int (S.1 64 ((((S.1 63 x6.toNatClampNeg) * 4) + x6).toNatClampNeg))), some (.int x4)] [] (fm_mk S) r) (c3 : ¬ x2 ≤ x6 → (S.1 8 ((S.1 63 x6.toNatClampNeg).toNatClampNeg)) = x3 → ¬ (S.1 64 ((((S.1 63 x6.toNatClampNeg) * 4) + x6).toNatClampNeg)) ≤ 0 → am_Ev (d + 2) k_Cook_opensLast 33 [some (.ref 54), some (.int x1), some (.int x2), some (.int (S.1 8 ((S.1 63 x6.toNatClampNeg).toNatClampNeg))), some (.int (x4 + 1)), some (.int (f_Town_pull S 1 x1 (S.1 63 x6.toNatClampNeg) (S.1 64 ((((S.1 63 x6.toNatClampNeg) * 4) + x6).toNatClampNeg)) ((S.1 17 0) + x6) x4)), some (.int (x6 + 1)), some (.int (S.1 63 x6.toNatClampNeg)), some (.int (S.1 8 ((S.1 63 x6.toNatClampNeg).toNatClampNeg))), some (.int (S.1 64 ((((S.1 63 x6.toNatClampNeg) * 4) + x6).toNatClampNeg))), some (.int x4)] [] (fm_mk S) r) (c4 : ¬ x2 ≤ x6 → ¬ (S.1 8 ((S.1 63 x6.toNatClampNeg).toNatClampNeg)) = x3 → (S.1 64 ((((S.1 63 x6.toNatClampNeg) * 4) + x6).toNatClampNeg)) ≤ 0 → am_Ev (d + 2) k_Cook_opensLast 33 [some (.ref 54), some (.int x1), some (.int x2), some (.int (-1)), some (.int 0), some (.int (f_Town_pull S 1 x1 (S.1 63 x6.toNatClampNeg) (S.1 64 ((((S.1 63 x6.toNatClampNeg) * 4) + x6).toNatClampNeg)) ((S.1 17 0) + x6) 0)), some (.int (x6 + 1)), some (.int (S.1 63 x6.toNatClampNeg)), some (.int (S.1 8 ((S.1 63 x6.toNatClampNeg).toNatClampNeg))), some (.int (S.1 64 ((((S.1 63 x6.toNatClampNeg) * 4) + x6).toNatClampNeg))), some (.int 0)] [] (fm_mk S) r) (c5 : ¬ x2 ≤ x6 → ¬ (S.1 8 ((S.1 63 x6.toNatClampNeg).toNatClampNeg)) = x3 → ¬ (S.1 64 ((((S.1 63 x6.toNatClampNeg) * 4) + x6).toNatClampNeg)) ≤ 0 → am_Ev (d + 2) k_Cook_opensLast 33 [some (.ref 54), some (.int x1), some (.int x2), some (.int (S.1 8 ((S.1 63 x6.toNatClampNeg).toNatClampNeg))), some (.int (0 + 1)), some (.int (f_Town_pull S 1 x1 (S.1 63 x6.toNatClampNeg) (S.1 64 ((((S.1 63 x6.toNatClampNeg) * 4) + x6).toNatClampNeg)) ((S.1 17 0) + x6) 0)), some (.int (x6 + 1)), some (.int (S.1 63 x6.toNatClampNeg)), some (.int (S.1 8 ((S.1 63 x6.toNatClampNeg).toNatClampNeg))), some (.int (S.1 64 ((((S.1 63 x6.toNatClampNeg) * 4) + x6).toNatClampNeg))), some (.int 0)] [] (fm_mk S) r) : am_Ev (d + 2) k_Cook_opensLast 33 [some (.ref 54), some (.int x1), some (.int x2), some (.int x3), some (.int x4), some (.int x5), some (.int x6), o7, o8, o9, o10] [] (fm_mk S) r := by
  refine b_Cook_opensLast_33 (fun q1_ => ?_) (fun q1_ => ?_)
  · refine b_Cook_opensLast_150 (fun q2_ => ?_) (fun q2_ => ?_)
    · refine b_Cook_opensLast_161 ?_
      rw [c0 q1_ q2_]; exact b_Cook_opensLast_162 (by decide)
    · refine b_Cook_opensLast_157 ?_
      rw [c1 q1_ q2_]; exact b_Cook_opensLast_162 (by decide)
  · refine b_Cook_opensLast_39 (hs0 q1_) (hs1 q1_) (hs2 q1_) (fun q3_ => ?_) (fun q3_ => ?_)
    · refine b_Cook_opensLast_85 ?_
      refine b_Cook_opensLast_86 (s_Town_pull (a0 := 1) (x1 := x1) (x2 := (S.1 63 x6.toNatClampNeg)) (x3 := (S.1 64 ((((S.1 63 x6.toNatClampNeg) * 4) + x6).toNatClampNeg))) (x4 := ((S.1 17 0) + x6)) (x5 := 0) (S := S) (by decide +kernel) (hs4 q1_ q3_) (hs1 q1_)) ?_
      refine b_Cook_opensLast_115 (fun q5_ => ?_) (fun q5_ => ?_)
      · refine b_Cook_opensLast_127 ?_
        refine b_Cook_opensLast_128 (fun _ => ?_) (fun z => absurd q5_ z)
        refine b_Cook_opensLast_141 ?_
        refine b_Cook_opensLast_142 ?_
        exact c4 q1_ q3_ q5_
      · refine b_Cook_opensLast_122 ?_
        refine b_Cook_opensLast_128 (fun z => absurd z q5_) (fun _ => ?_)
        refine b_Cook_opensLast_134 ?_
        refine b_Cook_opensLast_142 ?_
        exact c5 q1_ q3_ q5_
    · refine b_Cook_opensLast_80 ?_
      refine b_Cook_opensLast_86 (s_Town_pull (a0 := 1) (x1 := x1) (x2 := (S.1 63 x6.toNatClampNeg)) (x3 := (S.1 64 ((((S.1 63 x6.toNatClampNeg) * 4) + x6).toNatClampNeg))) (x4 := ((S.1 17 0) + x6)) (x5 := x4) (S := S) (by decide +kernel) (hs3 q1_ q3_) (hs1 q1_)) ?_
      refine b_Cook_opensLast_115 (fun q4_ => ?_) (fun q4_ => ?_)
      · refine b_Cook_opensLast_127 ?_
        refine b_Cook_opensLast_128 (fun _ => ?_) (fun z => absurd q4_ z)
        refine b_Cook_opensLast_141 ?_
        refine b_Cook_opensLast_142 ?_
        exact c2 q1_ q3_ q4_
      · refine b_Cook_opensLast_122 ?_
        refine b_Cook_opensLast_128 (fun z => absurd z q4_) (fun _ => ?_)
        refine b_Cook_opensLast_134 ?_
        refine b_Cook_opensLast_142 ?_
        exact c3 q1_ q3_ q4_
theorem w_Town_shutStreets_0 {d : Nat} {a0 : Nat} {o1 : Option Value} {o2 : Option Value} {S : fm_S} {r : Option Value × am_W} (c0 : am_Ev d k_Town_shutStreets 4 [some (.ref a0), some (.int 0), some (.int 0)] [] (fm_mk S) r) : am_Ev d k_Town_shutStreets 0 [some (.ref a0), o1, o2] [] (fm_mk S) r := by
  refine b_Town_shutStreets_0 ?_
  exact c0
theorem w_Town_shutStreets_4 {d : Nat} {a0 : Nat} {x1 : Int32} {x2 : Int32} {S : fm_S} {r : Option Value × am_W} (hs0 : fm_tg a0 = 6) (hs1 : ¬ (S.1 a0 0) ≤ x2 → fm_tg (a0 + 16) = 2) (hs2 : ¬ (S.1 a0 0) ≤ x2 → vp_in x2 8) (c0 : (S.1 a0 0) ≤ x2 → r = (some (.int x1), fm_mk S)) (c1 : ¬ (S.1 a0 0) ≤ x2 → (f_Days_isShut S (a0 + 16) x2) = 0 → am_Ev (d + 1) k_Town_shutStreets 4 [some (.ref a0), some (.int x1), some (.int (x2 + 1))] [] (fm_mk S) r) (c2 : ¬ (S.1 a0 0) ≤ x2 → ¬ (f_Days_isShut S (a0 + 16) x2) = 0 → am_Ev (d + 1) k_Town_shutStreets 4 [some (.ref a0), some (.int (x1 ||| (1 <<< (x2 &&& 31)))), some (.int (x2 + 1))] [] (fm_mk S) r) : am_Ev (d + 1) k_Town_shutStreets 4 [some (.ref a0), some (.int x1), some (.int x2)] [] (fm_mk S) r := by
  refine b_Town_shutStreets_4 hs0 (fun q1_ => ?_) (fun q1_ => ?_)
  · rw [c0 q1_]; exact b_Town_shutStreets_35
  · refine b_Town_shutStreets_12 hs0 (s_Days_isShut (a0 := (a0 + 16)) (x1 := x2) (S := S) (hs1 q1_) (hs2 q1_)) ?_
    refine b_Town_shutStreets_20 (fun q2_ => ?_) (fun q2_ => ?_)
    · refine b_Town_shutStreets_29 ?_
      exact c1 q1_ q2_
    · refine b_Town_shutStreets_23 ?_
      refine b_Town_shutStreets_29 ?_
      exact c2 q1_ q2_
theorem w_Cook_openedAloneOn_0 {d : Nat} {x1 : Int32} {x2 : Int32} {o3 : Option Value} {o4 : Option Value} {S : fm_S} {r : Option Value × am_W} (c0 : am_Ev d k_Cook_openedAloneOn 5 [some (.ref 54), some (.int x1), some (.int x2), some (.int 0), some (.int 0)] [] (fm_mk S) r) : am_Ev d k_Cook_openedAloneOn 0 [some (.ref 54), some (.int x1), some (.int x2), o3, o4] [] (fm_mk S) r := by
  refine b_Cook_openedAloneOn_0 ?_
  exact c0
theorem w_Cook_openedAloneOn_5 {d : Nat} {x1 : Int32} {x2 : Int32} {x3 : Int32} {x4 : Int32} {S : fm_S} {r : Option Value × am_W} (hs0 : ¬ (S.1 1 0) ≤ x4 → vp_in x4 8) (hs1 : ¬ (S.1 1 0) ≤ x4 → vp_in x1 6) (c0 : (S.1 1 0) ≤ x4 → r = (some (.int x3), fm_mk S)) (c1 : ¬ (S.1 1 0) ≤ x4 → (f_Town_pull S 1 x4 x1 (S.1 57 x4.toNatClampNeg) x2 0) < 10 → am_Ev (d + 2) k_Cook_openedAloneOn 5 [some (.ref 54), some (.int x1), some (.int x2), some (.int x3), some (.int (x4 + 1))] [] (fm_mk S) r) (c2 : ¬ (S.1 1 0) ≤ x4 → ¬ (f_Town_pull S 1 x4 x1 (S.1 57 x4.toNatClampNeg) x2 0) < 10 → am_Ev (d + 2) k_Cook_openedAloneOn 5 [some (.ref 54), some (.int x1), some (.int x2), some (.int (x3 ||| (1 <<< (x4 &&& 31)))), some (.int (x4 + 1))] [] (fm_mk S) r) : am_Ev (d + 2) k_Cook_openedAloneOn 5 [some (.ref 54), some (.int x1), some (.int x2), some (.int x3), some (.int x4)] [] (fm_mk S) r := by
  refine b_Cook_openedAloneOn_5 (fun q1_ => ?_) (fun q1_ => ?_)
  · rw [c0 q1_]; exact b_Cook_openedAloneOn_57
  · refine b_Cook_openedAloneOn_17 (hs0 q1_) (s_Town_pull (a0 := 1) (x1 := x4) (x2 := x1) (x3 := (S.1 57 x4.toNatClampNeg)) (x4 := x2) (x5 := 0) (S := S) (by decide +kernel) (hs0 q1_) (hs1 q1_)) ?_
    refine b_Cook_openedAloneOn_39 (fun q2_ => ?_) (fun q2_ => ?_)
    · refine b_Cook_openedAloneOn_51 ?_
      exact c1 q1_ q2_
    · refine b_Cook_openedAloneOn_44 ?_
      refine b_Cook_openedAloneOn_51 ?_
      exact c2 q1_ q2_
theorem w_Cook_openedBy_0 {d : Nat} {x1 : Int32} {o2 : Option Value} {o3 : Option Value} {S : fm_S} {r : Option Value × am_W} (c0 : am_Ev d k_Cook_openedBy 4 [some (.ref 54), some (.int x1), some (.int 0), some (.int 0)] [] (fm_mk S) r) : am_Ev d k_Cook_openedBy 0 [some (.ref 54), some (.int x1), o2, o3] [] (fm_mk S) r := by
  refine b_Cook_openedBy_0 ?_
  exact c0
theorem w_Cook_openedBy_4 {d : Nat} {x1 : Int32} {x2 : Int32} {x3 : Int32} {S : fm_S} {r : Option Value × am_W} (hs0 : ¬ (S.1 1 7) ≤ x3 → ¬ (f_X_has x1 x3) = 0 → vp_in x3 6) (c0 : (S.1 1 7) ≤ x3 → r = (some (.int x2), fm_mk S)) (c1 : ¬ (S.1 1 7) ≤ x3 → (f_X_has x1 x3) = 0 → am_Ev (d + 1) k_Cook_openedBy 4 [some (.ref 54), some (.int x1), some (.int x2), some (.int (x3 + 1))] [] (fm_mk S) r) (c2 : ¬ (S.1 1 7) ≤ x3 → ¬ (f_X_has x1 x3) = 0 → am_Ev (d + 1) k_Cook_openedBy 4 [some (.ref 54), some (.int x1), some (.int (x2 ||| (S.1 65 x3.toNatClampNeg))), some (.int (x3 + 1))] [] (fm_mk S) r) : am_Ev (d + 1) k_Cook_openedBy 4 [some (.ref 54), some (.int x1), some (.int x2), some (.int x3)] [] (fm_mk S) r := by
  refine b_Cook_openedBy_4 (fun q1_ => ?_) (fun q1_ => ?_)
  · rw [c0 q1_]; exact b_Cook_openedBy_38
  · refine b_Cook_openedBy_15 (s_X_has (x0 := x1) (x1 := x3) (S := S)) ?_
    refine b_Cook_openedBy_20 (fun q2_ => ?_) (fun q2_ => ?_)
    · refine b_Cook_openedBy_32 ?_
      exact c1 q1_ q2_
    · refine b_Cook_openedBy_23 (hs0 q1_ q2_) ?_
      refine b_Cook_openedBy_32 ?_
      exact c2 q1_ q2_
theorem w_Cook_butterOf_0 {d : Nat} {x1 : Int32} {o2 : Option Value} {o3 : Option Value} {S : fm_S} {r : Option Value × am_W} (c0 : am_Ev d k_Cook_butterOf 4 [some (.ref 54), some (.int x1), some (.int 0), some (.int 0)] [] (fm_mk S) r) : am_Ev d k_Cook_butterOf 0 [some (.ref 54), some (.int x1), o2, o3] [] (fm_mk S) r := by
  refine b_Cook_butterOf_0 ?_
  exact c0
theorem w_Cook_butterOf_4 {d : Nat} {x1 : Int32} {x2 : Int32} {x3 : Int32} {S : fm_S} {r : Option Value × am_W} (hs0 : ¬ (S.1 1 7) ≤ x3 → ¬ (f_X_has x1 x3) = 0 → vp_in x3 6) (c0 : (S.1 1 7) ≤ x3 → r = (some (.int x2), fm_mk S)) (c1 : ¬ (S.1 1 7) ≤ x3 → (f_X_has x1 x3) = 0 → am_Ev (d + 1) k_Cook_butterOf 4 [some (.ref 54), some (.int x1), some (.int x2), some (.int (x3 + 1))] [] (fm_mk S) r) (c2 : ¬ (S.1 1 7) ≤ x3 → ¬ (f_X_has x1 x3) = 0 → am_Ev (d + 1) k_Cook_butterOf 4 [some (.ref 54), some (.int x1), some (.int (x2 + (S.1 10 x3.toNatClampNeg))), some (.int (x3 + 1))] [] (fm_mk S) r) : am_Ev (d + 1) k_Cook_butterOf 4 [some (.ref 54), some (.int x1), some (.int x2), some (.int x3)] [] (fm_mk S) r := by
  refine b_Cook_butterOf_4 (fun q1_ => ?_) (fun q1_ => ?_)
  · rw [c0 q1_]; exact b_Cook_butterOf_41
  · refine b_Cook_butterOf_15 (s_X_has (x0 := x1) (x1 := x3) (S := S)) ?_
    refine b_Cook_butterOf_20 (fun q2_ => ?_) (fun q2_ => ?_)
    · refine b_Cook_butterOf_35 ?_
      exact c1 q1_ q2_
    · refine b_Cook_butterOf_23 (hs0 q1_ q2_) ?_
      refine b_Cook_butterOf_35 ?_
      exact c2 q1_ q2_
theorem w_Cook_rests_0 {d : Nat} {x1 : Int32} {x2 : Int32} {o3 : Option Value} {o4 : Option Value} {S : fm_S} {r : Option Value × am_W} (hs0 : vp_in (f_Cook_pair x1 x2) 63) (c0 : am_Ev (d + 1) k_Cook_rests 14 [some (.ref 54), some (.int x1), some (.int x2), some (.int (S.1 66 (f_Cook_pair x1 x2).toNatClampNeg)), some (.int (-1))] [] (fm_mk S) r) : am_Ev (d + 1) k_Cook_rests 0 [some (.ref 54), some (.int x1), some (.int x2), o3, o4] [] (fm_mk S) r := by
  refine b_Cook_rests_0 (s_Cook_pair (x0 := x1) (x1 := x2) (S := S)) ?_
  refine b_Cook_rests_9 hs0 ?_
  exact c0
theorem w_Cook_rests_14 {d : Nat} {x1 : Int32} {x2 : Int32} {x3 : Int32} {x4 : Int32} {S : fm_S} {r : Option Value × am_W} (hs0 : ¬ (S.1 1 7) ≤ x4 → vp_in (f_Cook_pair x4 x2) 63) (c0 : (S.1 1 7) ≤ x4 → am_Ev (d + 1) k_Cook_rests 52 [some (.ref 54), some (.int x1), some (.int x2), some (.int x3), some (.int (-1))] [] (fm_mk S) r) (c1 : ¬ (S.1 1 7) ≤ x4 → (S.1 66 (f_Cook_pair x4 x2).toNatClampNeg) ≤ x3 → am_Ev (d + 1) k_Cook_rests 14 [some (.ref 54), some (.int x1), some (.int x2), some (.int x3), some (.int (x4 + 1))] [] (fm_mk S) r) (c2 : ¬ (S.1 1 7) ≤ x4 → ¬ (S.1 66 (f_Cook_pair x4 x2).toNatClampNeg) ≤ x3 → r = (some (.int 0), fm_mk S)) : am_Ev (d + 1) k_Cook_rests 14 [some (.ref 54), some (.int x1), some (.int x2), some (.int x3), some (.int x4)] [] (fm_mk S) r := by
  refine b_Cook_rests_14 (fun q1_ => ?_) (fun q1_ => ?_)
  · refine b_Cook_rests_49 ?_
    exact c0 q1_
  · refine b_Cook_rests_26 (s_Cook_pair (x0 := x4) (x1 := x2) (S := S)) ?_
    refine b_Cook_rests_36 (hs0 q1_) (fun q2_ => ?_) (fun q2_ => ?_)
    · refine b_Cook_rests_43 ?_
      exact c1 q1_ q2_
    · rw [c2 q1_ q2_]; exact b_Cook_rests_41
theorem w_Cook_rests_52 {d : Nat} {x1 : Int32} {x2 : Int32} {x3 : Int32} {x4 : Int32} {S : fm_S} {r : Option Value × am_W} (hs0 : ¬ (S.1 1 0) ≤ x4 → vp_in (f_Cook_pair x1 x4) 63) (c0 : (S.1 1 0) ≤ x4 → r = (some (.int 1), fm_mk S)) (c1 : ¬ (S.1 1 0) ≤ x4 → x3 ≤ (S.1 66 (f_Cook_pair x1 x4).toNatClampNeg) → am_Ev (d + 1) k_Cook_rests 52 [some (.ref 54), some (.int x1), some (.int x2), some (.int x3), some (.int (x4 + 1))] [] (fm_mk S) r) (c2 : ¬ (S.1 1 0) ≤ x4 → ¬ x3 ≤ (S.1 66 (f_Cook_pair x1 x4).toNatClampNeg) → r = (some (.int 0), fm_mk S)) : am_Ev (d + 1) k_Cook_rests 52 [some (.ref 54), some (.int x1), some (.int x2), some (.int x3), some (.int x4)] [] (fm_mk S) r := by
  refine b_Cook_rests_52 (fun q1_ => ?_) (fun q1_ => ?_)
  · rw [c0 q1_]; exact b_Cook_rests_87
  · refine b_Cook_rests_64 (s_Cook_pair (x0 := x1) (x1 := x4) (S := S)) ?_
    refine b_Cook_rests_74 (hs0 q1_) (fun q2_ => ?_) (fun q2_ => ?_)
    · refine b_Cook_rests_81 ?_
      exact c1 q1_ q2_
    · rw [c2 q1_ q2_]; exact b_Cook_rests_79
theorem w_Notes_allSo_0 {d : Nat} {a0 : Nat} {x1 : Int32} {x2 : Int32} {x3 : Int32} {o4 : Option Value} {o5 : Option Value} {S : fm_S} {r : Option Value × am_W} (c0 : am_Ev d k_Notes_allSo 3 [some (.ref a0), some (.int x1), some (.int x2), some (.int x3), some (.int 0), o5] [] (fm_mk S) r) : am_Ev d k_Notes_allSo 0 [some (.ref a0), some (.int x1), some (.int x2), some (.int x3), o4, o5] [] (fm_mk S) r := by
  refine b_Notes_allSo_0 ?_
  exact c0
theorem w_Notes_allSo_3 {d : Nat} {a0 : Nat} {x1 : Int32} {x2 : Int32} {x3 : Int32} {x4 : Int32} {o5 : Option Value} {S : fm_S} {r : Option Value × am_W} (hs0 : fm_tg a0 = 4) (hs1 : ¬ (S.1 a0 0) ≤ x4 → vp_in x4 6) (c0 : (S.1 a0 0) ≤ x4 → r = (some (.int 1), fm_mk S)) (c1 : ¬ (S.1 a0 0) ≤ x4 → (S.1 (a0 + 1) x4.toNatClampNeg) = x1 → (S.1 (a0 + 5) x4.toNatClampNeg) = 1 → (f_Nose_opensAlone x2 x3 (S.1 (a0 + 2) x4.toNatClampNeg) (S.1 (a0 + 3) x4.toNatClampNeg) (S.1 (a0 + 4) x4.toNatClampNeg)) = 1 → am_Ev (d + 2) k_Notes_allSo 3 [some (.ref a0), some (.int x1), some (.int x2), some (.int x3), some (.int (x4 + 1)), some (.int (f_Nose_opensAlone x2 x3 (S.1 (a0 + 2) x4.toNatClampNeg) (S.1 (a0 + 3) x4.toNatClampNeg) (S.1 (a0 + 4) x4.toNatClampNeg)))] [] (fm_mk S) r) (c2 : ¬ (S.1 a0 0) ≤ x4 → (S.1 (a0 + 1) x4.toNatClampNeg) = x1 → (S.1 (a0 + 5) x4.toNatClampNeg) = 1 → ¬ (f_Nose_opensAlone x2 x3 (S.1 (a0 + 2) x4.toNatClampNeg) (S.1 (a0 + 3) x4.toNatClampNeg) (S.1 (a0 + 4) x4.toNatClampNeg)) = 1 → r = (some (.int 0), fm_mk S)) (c3 : ¬ (S.1 a0 0) ≤ x4 → (S.1 (a0 + 1) x4.toNatClampNeg) = x1 → ¬ (S.1 (a0 + 5) x4.toNatClampNeg) = 1 → (f_Nose_opensAlone x2 x3 (S.1 (a0 + 2) x4.toNatClampNeg) (S.1 (a0 + 3) x4.toNatClampNeg) (S.1 (a0 + 4) x4.toNatClampNeg)) = 0 → am_Ev (d + 2) k_Notes_allSo 3 [some (.ref a0), some (.int x1), some (.int x2), some (.int x3), some (.int (x4 + 1)), some (.int (f_Nose_opensAlone x2 x3 (S.1 (a0 + 2) x4.toNatClampNeg) (S.1 (a0 + 3) x4.toNatClampNeg) (S.1 (a0 + 4) x4.toNatClampNeg)))] [] (fm_mk S) r) (c4 : ¬ (S.1 a0 0) ≤ x4 → (S.1 (a0 + 1) x4.toNatClampNeg) = x1 → ¬ (S.1 (a0 + 5) x4.toNatClampNeg) = 1 → ¬ (f_Nose_opensAlone x2 x3 (S.1 (a0 + 2) x4.toNatClampNeg) (S.1 (a0 + 3) x4.toNatClampNeg) (S.1 (a0 + 4) x4.toNatClampNeg)) = 0 → r = (some (.int 0), fm_mk S)) (c5 : ¬ (S.1 a0 0) ≤ x4 → ¬ (S.1 (a0 + 1) x4.toNatClampNeg) = x1 → am_Ev (d + 2) k_Notes_allSo 3 [some (.ref a0), some (.int x1), some (.int x2), some (.int x3), some (.int (x4 + 1)), o5] [] (fm_mk S) r) : am_Ev (d + 2) k_Notes_allSo 3 [some (.ref a0), some (.int x1), some (.int x2), some (.int x3), some (.int x4), o5] [] (fm_mk S) r := by
  refine b_Notes_allSo_3 hs0 (fun q1_ => ?_) (fun q1_ => ?_)
  · rw [c0 q1_]; exact b_Notes_allSo_80
  · refine b_Notes_allSo_12 hs0 (hs1 q1_) (fun q2_ => ?_) (fun q2_ => ?_)
    · refine b_Notes_allSo_74 ?_
      exact c5 q1_ q2_
    · refine b_Notes_allSo_23 hs0 (hs1 q1_) (s_Nose_opensAlone (x0 := x2) (x1 := x3) (x2 := (S.1 (a0 + 2) x4.toNatClampNeg)) (x3 := (S.1 (a0 + 3) x4.toNatClampNeg)) (x4 := (S.1 (a0 + 4) x4.toNatClampNeg)) (S := S)) ?_
      refine b_Notes_allSo_49 hs0 (hs1 q1_) (fun q3_ => ?_) (fun q3_ => ?_)
      · refine b_Notes_allSo_68 ?_
        refine b_Notes_allSo_69 (fun q5_ => ?_) (fun q5_ => ?_)
        · refine b_Notes_allSo_74 ?_
          exact c3 q1_ q2_ q3_ q5_
        · rw [c4 q1_ q2_ q3_ q5_]; exact b_Notes_allSo_72
      · refine b_Notes_allSo_64 ?_
        refine b_Notes_allSo_69 (fun q4_ => ?_) (fun q4_ => ?_)
        · refine b_Notes_allSo_74 ?_
          exact c1 q1_ q2_ q3_ q4_
        · rw [c2 q1_ q2_ q3_ q4_]; exact b_Notes_allSo_72
theorem w_Notes_openers_0 {d : Nat} {x0 : Int32} {x1 : Int32} {x2 : Int32} {x3 : Int32} {x4 : Int32} {o5 : Option Value} {o6 : Option Value} {S : fm_S} {r : Option Value × am_W} (c0 : am_Ev d k_Notes_openers 6 [some (.int x0), some (.int x1), some (.int x2), some (.int x3), some (.int x4), some (.int 0), some (.int 0)] [] (fm_mk S) r) : am_Ev d k_Notes_openers 0 [some (.int x0), some (.int x1), some (.int x2), some (.int x3), some (.int x4), o5, o6] [] (fm_mk S) r := by
  refine b_Notes_openers_0 ?_
  exact c0
theorem w_Notes_openers_6 {d : Nat} {x0 : Int32} {x1 : Int32} {x2 : Int32} {x3 : Int32} {x4 : Int32} {x5 : Int32} {x6 : Int32} {S : fm_S} {r : Option Value × am_W} (c0 : 6 ≤ x6 → r = (some (.int x5), fm_mk S)) (c1 : ¬ 6 ≤ x6 → (f_X_has x0 x6) = 0 → am_Ev (d + 2) k_Notes_openers 6 [some (.int x0), some (.int x1), some (.int x2), some (.int x3), some (.int x4), some (.int x5), some (.int (x6 + 1))] [] (fm_mk S) r) (c2 : ¬ 6 ≤ x6 → ¬ (f_X_has x0 x6) = 0 → (f_Nose_opensAlone x1 x6 x2 x3 x4) = 0 → am_Ev (d + 2) k_Notes_openers 6 [some (.int x0), some (.int x1), some (.int x2), some (.int x3), some (.int x4), some (.int x5), some (.int (x6 + 1))] [] (fm_mk S) r) (c3 : ¬ 6 ≤ x6 → ¬ (f_X_has x0 x6) = 0 → ¬ (f_Nose_opensAlone x1 x6 x2 x3 x4) = 0 → am_Ev (d + 2) k_Notes_openers 6 [some (.int x0), some (.int x1), some (.int x2), some (.int x3), some (.int x4), some (.int (x5 + 1)), some (.int (x6 + 1))] [] (fm_mk S) r) : am_Ev (d + 2) k_Notes_openers 6 [some (.int x0), some (.int x1), some (.int x2), some (.int x3), some (.int x4), some (.int x5), some (.int x6)] [] (fm_mk S) r := by
  refine b_Notes_openers_6 (fun q1_ => ?_) (fun q1_ => ?_)
  · rw [c0 q1_]; exact b_Notes_openers_44
  · refine b_Notes_openers_13 (s_X_has (x0 := x0) (x1 := x6) (S := S)) ?_
    refine b_Notes_openers_19 (fun q2_ => ?_) (fun q2_ => ?_)
    · refine b_Notes_openers_38 ?_
      exact c1 q1_ q2_
    · refine b_Notes_openers_22 (s_Nose_opensAlone (x0 := x1) (x1 := x6) (x2 := x2) (x3 := x3) (x4 := x4) (S := S)) ?_
      refine b_Notes_openers_32 (fun q3_ => ?_) (fun q3_ => ?_)
      · refine b_Notes_openers_38 ?_
        exact c2 q1_ q2_ q3_
      · refine b_Notes_openers_35 ?_
        refine b_Notes_openers_38 ?_
        exact c3 q1_ q2_ q3_
theorem w_Frac_choices_0 {d : Nat} {x0 : Int32} {x1 : Int32} {o2 : Option Value} {o3 : Option Value} {o4 : Option Value} {S : fm_S} {r : Option Value × am_W} (c0 : am_Ev d k_Frac_choices 5 [some (.int x0), some (.int x1), some (.long 1), none, some (.int 1)] [] (fm_mk S) r) : am_Ev d k_Frac_choices 0 [some (.int x0), some (.int x1), o2, o3, o4] [] (fm_mk S) r := by
  refine b_Frac_choices_0 ?_
  exact c0
theorem w_Frac_choices_5 {d : Nat} {x0 : Int32} {x1 : Int32} {y2 : Int64} {x4 : Int32} {S : fm_S} {r : Option Value × am_W} (hs0 : ¬ x1 < x4 → ¬ x4.toInt64 = 0) (c0 : x1 < x4 → r = (some (.long y2), fm_mk S)) (c1 : ¬ x1 < x4 → am_Ev d k_Frac_choices 5 [some (.int x0), some (.int x1), some (.long ((y2 * (((x0 - x1) + x4).toInt64)) / x4.toInt64)), none, some (.int (x4 + 1))] [] (fm_mk S) r) : am_Ev d k_Frac_choices 5 [some (.int x0), some (.int x1), some (.long y2), none, some (.int x4)] [] (fm_mk S) r := by
  refine b_Frac_choices_5 (fun q1_ => ?_) (fun q1_ => ?_)
  · rw [c0 q1_]; exact b_Frac_choices_31
  · refine b_Frac_choices_11 (hs0 q1_) ?_
    exact c1 q1_
theorem w_Frac_power_0 {d : Nat} {x0 : Int32} {x1 : Int32} {o2 : Option Value} {o3 : Option Value} {o4 : Option Value} {S : fm_S} {r : Option Value × am_W} (c0 : am_Ev d k_Frac_power 5 [some (.int x0), some (.int x1), some (.long 1), none, some (.int 0)] [] (fm_mk S) r) : am_Ev d k_Frac_power 0 [some (.int x0), some (.int x1), o2, o3, o4] [] (fm_mk S) r := by
  refine b_Frac_power_0 ?_
  exact c0
theorem w_Frac_power_5 {d : Nat} {x0 : Int32} {x1 : Int32} {y2 : Int64} {x4 : Int32} {S : fm_S} {r : Option Value × am_W} (c0 : x1 ≤ x4 → r = (some (.long y2), fm_mk S)) (c1 : ¬ x1 ≤ x4 → am_Ev d k_Frac_power 5 [some (.int x0), some (.int x1), some (.long (y2 * x0.toInt64)), none, some (.int (x4 + 1))] [] (fm_mk S) r) : am_Ev d k_Frac_power 5 [some (.int x0), some (.int x1), some (.long y2), none, some (.int x4)] [] (fm_mk S) r := by
  refine b_Frac_power_5 (fun q1_ => ?_) (fun q1_ => ?_)
  · rw [c0 q1_]; exact b_Frac_power_22
  · refine b_Frac_power_11 ?_
    exact c1 q1_
theorem w_Frac_commonPart_0 {d : Nat} {y0 : Int64} {y2 : Int64} {o4 : Option Value} {o5 : Option Value} {o6 : Option Value} {S : fm_S} {r : Option Value × am_W} (c0 : am_Ev d k_Frac_commonPart 3 [some (.long y0), none, some (.long y2), none, some (.int 0), o5, o6] [] (fm_mk S) r) : am_Ev d k_Frac_commonPart 0 [some (.long y0), none, some (.long y2), none, o4, o5, o6] [] (fm_mk S) r := by
  refine b_Frac_commonPart_0 ?_
  exact c0
theorem w_Frac_commonPart_3 {d : Nat} {y0 : Int64} {y2 : Int64} {x4 : Int32} {o5 : Option Value} {o6 : Option Value} {S : fm_S} {r : Option Value × am_W} (hs0 : ¬ (lg_cmp y2 0) = 0 → ¬ 100 ≤ x4 → ¬ y2 = 0) (c0 : (lg_cmp y2 0) = 0 → r = (some (.long y0), fm_mk S)) (c1 : ¬ (lg_cmp y2 0) = 0 → 100 ≤ x4 → r = (some (.long y0), fm_mk S)) (c2 : ¬ (lg_cmp y2 0) = 0 → ¬ 100 ≤ x4 → am_Ev d k_Frac_commonPart 3 [some (.long y2), none, some (.long (y0 - y0 / y2 * y2)), none, some (.int (x4 + 1)), some (.long (y0 - y0 / y2 * y2)), none] [] (fm_mk S) r) : am_Ev d k_Frac_commonPart 3 [some (.long y0), none, some (.long y2), none, some (.int x4), o5, o6] [] (fm_mk S) r := by
  refine b_Frac_commonPart_3 (fun q1_ => ?_) (fun q1_ => ?_)
  · rw [c0 q1_]; exact b_Frac_commonPart_32
  · refine b_Frac_commonPart_9 (fun q2_ => ?_) (fun q2_ => ?_)
    · rw [c1 q1_ q2_]; exact b_Frac_commonPart_32
    · refine b_Frac_commonPart_16 (hs0 q1_ q2_) ?_
      exact c2 q1_ q2_
theorem w_Days_openOf_0 {d : Nat} {a0 : Nat} {x1 : Int32} {o2 : Option Value} {o3 : Option Value} {S : fm_S} {r : Option Value × am_W} (c0 : am_Ev d k_Days_openOf 4 [some (.ref a0), some (.int x1), some (.int 0), some (.int 0)] [] (fm_mk S) r) : am_Ev d k_Days_openOf 0 [some (.ref a0), some (.int x1), o2, o3] [] (fm_mk S) r := by
  refine b_Days_openOf_0 ?_
  exact c0
theorem w_Days_openOf_4 {d : Nat} {a0 : Nat} {x1 : Int32} {x2 : Int32} {x3 : Int32} {S : fm_S} {r : Option Value × am_W} (hs0 : fm_tg a0 = 2) (hs1 : ¬ x1 ≤ x3 → vp_in x3 8) (c0 : x1 ≤ x3 → r = (some (.int x2), fm_mk S)) (c1 : ¬ x1 ≤ x3 → (f_Days_isShut S a0 x3) = 0 → am_Ev (d + 1) k_Days_openOf 4 [some (.ref a0), some (.int x1), some (.int (x2 + 1)), some (.int (x3 + 1))] [] (fm_mk S) r) (c2 : ¬ x1 ≤ x3 → ¬ (f_Days_isShut S a0 x3) = 0 → am_Ev (d + 1) k_Days_openOf 4 [some (.ref a0), some (.int x1), some (.int x2), some (.int (x3 + 1))] [] (fm_mk S) r) : am_Ev (d + 1) k_Days_openOf 4 [some (.ref a0), some (.int x1), some (.int x2), some (.int x3)] [] (fm_mk S) r := by
  refine b_Days_openOf_4 (fun q1_ => ?_) (fun q1_ => ?_)
  · rw [c0 q1_]; exact b_Days_openOf_26
  · refine b_Days_openOf_9 hs0 (s_Days_isShut (a0 := a0) (x1 := x3) (S := S) hs0 (hs1 q1_)) ?_
    refine b_Days_openOf_14 (fun q2_ => ?_) (fun q2_ => ?_)
    · refine b_Days_openOf_20 ?_
      exact c2 q1_ q2_
    · refine b_Days_openOf_17 ?_
      refine b_Days_openOf_20 ?_
      exact c1 q1_ q2_
theorem w_Town_mixStreets_0 {d : Nat} {a0 : Nat} {y1 : Int64} {o3 : Option Value} {S : fm_S} {r : Option Value × am_W} (c0 : am_Ev d k_Town_mixStreets 2 [some (.ref a0), some (.long y1), none, some (.int 0)] [] (fm_mk S) r) : am_Ev d k_Town_mixStreets 0 [some (.ref a0), some (.long y1), none, o3] [] (fm_mk S) r := by
  refine b_Town_mixStreets_0 ?_
  exact c0
theorem w_Town_mixStreets_2 {d : Nat} {a0 : Nat} {y1 : Int64} {x3 : Int32} {S : fm_S} {r : Option Value × am_W} (hs0 : fm_tg a0 = 6) (hs1 : ¬ (S.1 a0 0) ≤ x3 → vp_in x3 8) (c0 : (S.1 a0 0) ≤ x3 → r = (some (.long y1), fm_mk S)) (c1 : ¬ (S.1 a0 0) ≤ x3 → am_Ev (d + 1) k_Town_mixStreets 2 [some (.ref a0), some (.long (f_X_mix (f_X_mix (f_X_mix (f_X_mix (f_X_mix (f_X_mix y1 ((S.1 (a0 + 1) x3.toNatClampNeg).toInt64)) ((S.1 (a0 + 2) x3.toNatClampNeg).toInt64)) ((S.1 (a0 + 3) x3.toNatClampNeg).toInt64)) ((S.1 ((a0 + 16) + 1) x3.toNatClampNeg).toInt64)) ((S.1 ((a0 + 16) + 2) x3.toNatClampNeg).toInt64)) ((S.1 ((a0 + 16) + 3) x3.toNatClampNeg).toInt64))), none, some (.int (x3 + 1))] [] (fm_mk S) r) : am_Ev (d + 1) k_Town_mixStreets 2 [some (.ref a0), some (.long y1), none, some (.int x3)] [] (fm_mk S) r := by
  refine b_Town_mixStreets_2 hs0 (fun q1_ => ?_) (fun q1_ => ?_)
  · rw [c0 q1_]; exact b_Town_mixStreets_89
  · refine b_Town_mixStreets_10 hs0 (hs1 q1_) (s_X_mix (y0 := y1) (y2 := ((S.1 (a0 + 1) x3.toNatClampNeg).toInt64)) (S := S)) ?_
    refine b_Town_mixStreets_21 hs0 (hs1 q1_) (s_X_mix (y0 := (f_X_mix y1 ((S.1 (a0 + 1) x3.toNatClampNeg).toInt64))) (y2 := ((S.1 (a0 + 2) x3.toNatClampNeg).toInt64)) (S := S)) ?_
    refine b_Town_mixStreets_31 hs0 (hs1 q1_) (s_X_mix (y0 := (f_X_mix (f_X_mix y1 ((S.1 (a0 + 1) x3.toNatClampNeg).toInt64)) ((S.1 (a0 + 2) x3.toNatClampNeg).toInt64))) (y2 := ((S.1 (a0 + 3) x3.toNatClampNeg).toInt64)) (S := S)) ?_
    refine b_Town_mixStreets_41 hs0 (hs1 q1_) (s_X_mix (y0 := (f_X_mix (f_X_mix (f_X_mix y1 ((S.1 (a0 + 1) x3.toNatClampNeg).toInt64)) ((S.1 (a0 + 2) x3.toNatClampNeg).toInt64)) ((S.1 (a0 + 3) x3.toNatClampNeg).toInt64))) (y2 := ((S.1 ((a0 + 16) + 1) x3.toNatClampNeg).toInt64)) (S := S)) ?_
    refine b_Town_mixStreets_56 hs0 (hs1 q1_) (s_X_mix (y0 := (f_X_mix (f_X_mix (f_X_mix (f_X_mix y1 ((S.1 (a0 + 1) x3.toNatClampNeg).toInt64)) ((S.1 (a0 + 2) x3.toNatClampNeg).toInt64)) ((S.1 (a0 + 3) x3.toNatClampNeg).toInt64)) ((S.1 ((a0 + 16) + 1) x3.toNatClampNeg).toInt64))) (y2 := ((S.1 ((a0 + 16) + 2) x3.toNatClampNeg).toInt64)) (S := S)) ?_
    refine b_Town_mixStreets_69 hs0 (hs1 q1_) (s_X_mix (y0 := (f_X_mix (f_X_mix (f_X_mix (f_X_mix (f_X_mix y1 ((S.1 (a0 + 1) x3.toNatClampNeg).toInt64)) ((S.1 (a0 + 2) x3.toNatClampNeg).toInt64)) ((S.1 (a0 + 3) x3.toNatClampNeg).toInt64)) ((S.1 ((a0 + 16) + 1) x3.toNatClampNeg).toInt64)) ((S.1 ((a0 + 16) + 2) x3.toNatClampNeg).toInt64))) (y2 := ((S.1 ((a0 + 16) + 3) x3.toNatClampNeg).toInt64)) (S := S)) ?_
    refine b_Town_mixStreets_82 ?_
    exact c1 q1_
theorem w_Town_mixLanes_0 {d : Nat} {a0 : Nat} {y1 : Int64} {o3 : Option Value} {o4 : Option Value} {S : fm_S} {r : Option Value × am_W} (c0 : am_Ev d k_Town_mixLanes 2 [some (.ref a0), some (.long y1), none, some (.int 0), o4] [] (fm_mk S) r) : am_Ev d k_Town_mixLanes 0 [some (.ref a0), some (.long y1), none, o3, o4] [] (fm_mk S) r := by
  refine b_Town_mixLanes_0 ?_
  exact c0
theorem w_Town_mixLanes_2 {d : Nat} {a0 : Nat} {y1 : Int64} {x3 : Int32} {o4 : Option Value} {S : fm_S} {r : Option Value × am_W} (c0 : 8 ≤ x3 → r = (some (.long y1), fm_mk S)) (c1 : ¬ 8 ≤ x3 → am_Ev d k_Town_mixLanes 13 [some (.ref a0), some (.long y1), none, some (.int x3), some (.int (x3 + 1))] [] (fm_mk S) r) : am_Ev d k_Town_mixLanes 2 [some (.ref a0), some (.long y1), none, some (.int x3), o4] [] (fm_mk S) r := by
  refine b_Town_mixLanes_2 (fun q1_ => ?_) (fun q1_ => ?_)
  · rw [c0 q1_]; exact b_Town_mixLanes_52
  · refine b_Town_mixLanes_8 ?_
    exact c1 q1_
theorem w_Town_mixLanes_13 {d : Nat} {a0 : Nat} {y1 : Int64} {x3 : Int32} {x4 : Int32} {S : fm_S} {r : Option Value × am_W} (hs0 : fm_tg a0 = 6) (hs1 : ¬ 8 ≤ x4 → vp_in x3 8) (c0 : 8 ≤ x4 → am_Ev (d + 2) k_Town_mixLanes 2 [some (.ref a0), some (.long y1), none, some (.int (x3 + 1)), some (.int x4)] [] (fm_mk S) r) (c1 : ¬ 8 ≤ x4 → (f_Town_hasLane S a0 x3 x4) = 0 → am_Ev (d + 2) k_Town_mixLanes 13 [some (.ref a0), some (.long (f_X_mix y1 0)), none, some (.int x3), some (.int (x4 + 1))] [] (fm_mk S) r) (c2 : ¬ 8 ≤ x4 → ¬ (f_Town_hasLane S a0 x3 x4) = 0 → am_Ev (d + 2) k_Town_mixLanes 13 [some (.ref a0), some (.long (f_X_mix y1 1)), none, some (.int x3), some (.int (x4 + 1))] [] (fm_mk S) r) : am_Ev (d + 2) k_Town_mixLanes 13 [some (.ref a0), some (.long y1), none, some (.int x3), some (.int x4)] [] (fm_mk S) r := by
  refine b_Town_mixLanes_13 (fun q1_ => ?_) (fun q1_ => ?_)
  · refine b_Town_mixLanes_46 ?_
    exact c0 q1_
  · refine b_Town_mixLanes_20 hs0 (s_Town_hasLane (a0 := a0) (x1 := x3) (x2 := x4) (S := S) hs0 (hs1 q1_)) ?_
    refine b_Town_mixLanes_28 (fun q2_ => ?_) (fun q2_ => ?_)
    · refine b_Town_mixLanes_35 ?_
      refine b_Town_mixLanes_36 (s_X_mix (y0 := y1) (y2 := 0) (S := S)) ?_
      refine b_Town_mixLanes_39 ?_
      exact c1 q1_ q2_
    · refine b_Town_mixLanes_31 ?_
      refine b_Town_mixLanes_36 (s_X_mix (y0 := y1) (y2 := 1) (S := S)) ?_
      refine b_Town_mixLanes_39 ?_
      exact c2 q1_ q2_
theorem w_X_mixAll_0 {d : Nat} {y0 : Int64} {a2 : Nat} {o3 : Option Value} {S : fm_S} {r : Option Value × am_W} (c0 : am_Ev d k_X_mixAll 2 [some (.long y0), none, some (.ref a2), some (.int 0)] [] (fm_mk S) r) : am_Ev d k_X_mixAll 0 [some (.long y0), none, some (.ref a2), o3] [] (fm_mk S) r := by
  refine b_X_mixAll_0 ?_
  exact c0
theorem w_X_mixAll_2 {d : Nat} {y0 : Int64} {a2 : Nat} {x3 : Int32} {S : fm_S} {r : Option Value × am_W} (hs0 : fm_tg a2 = 100) (hs1 : ¬ (Int32.ofNat (fm_ln a2)) ≤ x3 → vp_in x3 (fm_ln a2)) (c0 : (Int32.ofNat (fm_ln a2)) ≤ x3 → r = (some (.long y0), fm_mk S)) (c1 : ¬ (Int32.ofNat (fm_ln a2)) ≤ x3 → am_Ev (d + 1) k_X_mixAll 2 [some (.long (f_X_mix y0 ((S.1 a2 x3.toNatClampNeg).toInt64))), none, some (.ref a2), some (.int (x3 + 1))] [] (fm_mk S) r) : am_Ev (d + 1) k_X_mixAll 2 [some (.long y0), none, some (.ref a2), some (.int x3)] [] (fm_mk S) r := by
  refine b_X_mixAll_2 hs0 (fun q1_ => ?_) (fun q1_ => ?_)
  · rw [c0 q1_]; exact b_X_mixAll_23
  · refine b_X_mixAll_8 hs0 (hs1 q1_) (s_X_mix (y0 := y0) (y2 := ((S.1 a2 x3.toNatClampNeg).toInt64)) (S := S)) ?_
    refine b_X_mixAll_16 ?_
    exact c1 q1_
theorem w_Town_mixDishes_0 {d : Nat} {a0 : Nat} {y1 : Int64} {o3 : Option Value} {S : fm_S} {r : Option Value × am_W} (c0 : am_Ev d k_Town_mixDishes 2 [some (.ref a0), some (.long y1), none, some (.int 0)] [] (fm_mk S) r) : am_Ev d k_Town_mixDishes 0 [some (.ref a0), some (.long y1), none, o3] [] (fm_mk S) r := by
  refine b_Town_mixDishes_0 ?_
  exact c0
theorem w_Town_mixDishes_2 {d : Nat} {a0 : Nat} {y1 : Int64} {x3 : Int32} {S : fm_S} {r : Option Value × am_W} (hs0 : fm_tg a0 = 6) (hs1 : ¬ (S.1 a0 7) ≤ x3 → vp_in x3 6) (c0 : (S.1 a0 7) ≤ x3 → r = (some (.long y1), fm_mk S)) (c1 : ¬ (S.1 a0 7) ≤ x3 → am_Ev (d + 1) k_Town_mixDishes 2 [some (.ref a0), some (.long (f_X_mix (f_X_mix (f_X_mix y1 ((S.1 (a0 + 7) x3.toNatClampNeg).toInt64)) ((S.1 (a0 + 8) x3.toNatClampNeg).toInt64)) ((S.1 (a0 + 9) x3.toNatClampNeg).toInt64))), none, some (.int (x3 + 1))] [] (fm_mk S) r) : am_Ev (d + 1) k_Town_mixDishes 2 [some (.ref a0), some (.long y1), none, some (.int x3)] [] (fm_mk S) r := by
  refine b_Town_mixDishes_2 hs0 (fun q1_ => ?_) (fun q1_ => ?_)
  · rw [c0 q1_]; exact b_Town_mixDishes_48
  · refine b_Town_mixDishes_10 hs0 (hs1 q1_) (s_X_mix (y0 := y1) (y2 := ((S.1 (a0 + 7) x3.toNatClampNeg).toInt64)) (S := S)) ?_
    refine b_Town_mixDishes_21 hs0 (hs1 q1_) (s_X_mix (y0 := (f_X_mix y1 ((S.1 (a0 + 7) x3.toNatClampNeg).toInt64))) (y2 := ((S.1 (a0 + 8) x3.toNatClampNeg).toInt64)) (S := S)) ?_
    refine b_Town_mixDishes_31 hs0 (hs1 q1_) (s_X_mix (y0 := (f_X_mix (f_X_mix y1 ((S.1 (a0 + 7) x3.toNatClampNeg).toInt64)) ((S.1 (a0 + 8) x3.toNatClampNeg).toInt64))) (y2 := ((S.1 (a0 + 9) x3.toNatClampNeg).toInt64)) (S := S)) ?_
    refine b_Town_mixDishes_41 ?_
    exact c1 q1_
theorem w_Notes_mixNotes_0 {d : Nat} {a0 : Nat} {y1 : Int64} {o3 : Option Value} {S : fm_S} {r : Option Value × am_W} (c0 : am_Ev d k_Notes_mixNotes 2 [some (.ref a0), some (.long y1), none, some (.int 0)] [] (fm_mk S) r) : am_Ev d k_Notes_mixNotes 0 [some (.ref a0), some (.long y1), none, o3] [] (fm_mk S) r := by
  refine b_Notes_mixNotes_0 ?_
  exact c0
theorem w_Notes_mixNotes_2 {d : Nat} {a0 : Nat} {y1 : Int64} {x3 : Int32} {S : fm_S} {r : Option Value × am_W} (hs0 : fm_tg a0 = 4) (hs1 : ¬ (S.1 a0 0) ≤ x3 → vp_in x3 6) (c0 : (S.1 a0 0) ≤ x3 → r = (some (.long y1), fm_mk S)) (c1 : ¬ (S.1 a0 0) ≤ x3 → am_Ev (d + 1) k_Notes_mixNotes 2 [some (.ref a0), some (.long (f_X_mix (f_X_mix (f_X_mix (f_X_mix (f_X_mix y1 ((S.1 (a0 + 1) x3.toNatClampNeg).toInt64)) ((S.1 (a0 + 2) x3.toNatClampNeg).toInt64)) ((S.1 (a0 + 3) x3.toNatClampNeg).toInt64)) ((S.1 (a0 + 4) x3.toNatClampNeg).toInt64)) ((S.1 (a0 + 5) x3.toNatClampNeg).toInt64))), none, some (.int (x3 + 1))] [] (fm_mk S) r) : am_Ev (d + 1) k_Notes_mixNotes 2 [some (.ref a0), some (.long y1), none, some (.int x3)] [] (fm_mk S) r := by
  refine b_Notes_mixNotes_2 hs0 (fun q1_ => ?_) (fun q1_ => ?_)
  · rw [c0 q1_]; exact b_Notes_mixNotes_70
  · refine b_Notes_mixNotes_10 hs0 (hs1 q1_) (s_X_mix (y0 := y1) (y2 := ((S.1 (a0 + 1) x3.toNatClampNeg).toInt64)) (S := S)) ?_
    refine b_Notes_mixNotes_21 hs0 (hs1 q1_) (s_X_mix (y0 := (f_X_mix y1 ((S.1 (a0 + 1) x3.toNatClampNeg).toInt64))) (y2 := ((S.1 (a0 + 2) x3.toNatClampNeg).toInt64)) (S := S)) ?_
    refine b_Notes_mixNotes_31 hs0 (hs1 q1_) (s_X_mix (y0 := (f_X_mix (f_X_mix y1 ((S.1 (a0 + 1) x3.toNatClampNeg).toInt64)) ((S.1 (a0 + 2) x3.toNatClampNeg).toInt64))) (y2 := ((S.1 (a0 + 3) x3.toNatClampNeg).toInt64)) (S := S)) ?_
    refine b_Notes_mixNotes_41 hs0 (hs1 q1_) (s_X_mix (y0 := (f_X_mix (f_X_mix (f_X_mix y1 ((S.1 (a0 + 1) x3.toNatClampNeg).toInt64)) ((S.1 (a0 + 2) x3.toNatClampNeg).toInt64)) ((S.1 (a0 + 3) x3.toNatClampNeg).toInt64))) (y2 := ((S.1 (a0 + 4) x3.toNatClampNeg).toInt64)) (S := S)) ?_
    refine b_Notes_mixNotes_53 hs0 (hs1 q1_) (s_X_mix (y0 := (f_X_mix (f_X_mix (f_X_mix (f_X_mix y1 ((S.1 (a0 + 1) x3.toNatClampNeg).toInt64)) ((S.1 (a0 + 2) x3.toNatClampNeg).toInt64)) ((S.1 (a0 + 3) x3.toNatClampNeg).toInt64)) ((S.1 (a0 + 4) x3.toNatClampNeg).toInt64))) (y2 := ((S.1 (a0 + 5) x3.toNatClampNeg).toInt64)) (S := S)) ?_
    refine b_Notes_mixNotes_63 ?_
    exact c1 q1_
theorem w_M_first_0 {d : Nat} {a0 : Nat} {o1 : Option Value} {S : fm_S} {r : Option Value × am_W} (c0 : am_Ev d k_M_first 2 [some (.ref a0), some (.int 0)] [] (fm_mk S) r) : am_Ev d k_M_first 0 [some (.ref a0), o1] [] (fm_mk S) r := by
  refine b_M_first_0 ?_
  exact c0
theorem w_M_first_2 {d : Nat} {a0 : Nat} {x1 : Int32} {S : fm_S} {r : Option Value × am_W} (hs0 : fm_tg a0 = 100) (hs1 : ¬ 373 ≤ x1 → vp_in x1 (fm_ln a0)) (c0 : 373 ≤ x1 → am_Ev d k_M_first 21 [some (.ref a0), some (.int 0)] [] (fm_mk S) r) (c1 : ¬ 373 ≤ x1 → am_Ev d k_M_first 2 [some (.ref a0), some (.int (x1 + 1))] [] (fm_mk (fm_wI S a0 x1.toNatClampNeg 0)) r) : am_Ev d k_M_first 2 [some (.ref a0), some (.int x1)] [] (fm_mk S) r := by
  refine b_M_first_2 (fun q1_ => ?_) (fun q1_ => ?_)
  · refine b_M_first_19 ?_
    exact c0 q1_
  · refine b_M_first_9 hs0 (hs1 q1_) ?_
    exact c1 q1_
theorem w_M_first_21 {d : Nat} {a0 : Nat} {x1 : Int32} {S : fm_S} {r : Option Value × am_W} (hs0 : fm_tg a0 = 100) (hs1 : ¬ 4 ≤ x1 → vp_in (121 + x1) (fm_ln a0)) (c0 : 4 ≤ x1 → r = (none, fm_mk S)) (c1 : ¬ 4 ≤ x1 → am_Ev d k_M_first 21 [some (.ref a0), some (.int (x1 + 1))] [] (fm_mk (fm_wI S a0 ((121 + x1).toNatClampNeg) x1)) r) : am_Ev d k_M_first 21 [some (.ref a0), some (.int x1)] [] (fm_mk S) r := by
  refine b_M_first_21 (fun q1_ => ?_) (fun q1_ => ?_)
  · rw [c0 q1_]; exact b_M_first_39
  · refine b_M_first_26 hs0 (hs1 q1_) ?_
    exact c1 q1_
theorem w_M_skip_0 {d : Nat} {S : fm_S} {r : Option Value × am_W} (hs0 : ¬ (S.1 231 5) ≤ (S.1 231 11) → vp_in (S.1 231 11) 150) (c0 : (f_M_byteAt S (S.1 231 11)) = 32 → am_Ev (d + 1) k_M_skip 0 [some (.ref 231)] [] (fm_mk (fm_wI S 231 11 ((S.1 231 11) + 1))) r) (c1 : ¬ (f_M_byteAt S (S.1 231 11)) = 32 → r = (none, fm_mk S)) : am_Ev (d + 1) k_M_skip 0 [some (.ref 231)] [] (fm_mk S) r := by
  refine b_M_skip_0 (s_M_byteAt (x1 := (S.1 231 11)) (S := S) hs0) ?_
  refine b_M_skip_8 (fun q1_ => ?_) (fun q1_ => ?_)
  · rw [c1 q1_]; exact b_M_skip_26
  · refine b_M_skip_13 ?_
    exact c0 q1_
theorem w_M_letterOf_0 {d : Nat} {x0 : Int32} {x1 : Int32} {o2 : Option Value} {o3 : Option Value} {o4 : Option Value} {o5 : Option Value} {o6 : Option Value} {o7 : Option Value} {S : fm_S} {r : Option Value × am_W} (c0 : x0 = 0 → x0 = 1 → am_Ev d k_M_letterOf 80 [some (.int x0), some (.int x1), some (.long 20152314), none, some (.int 6), some (.long 20152314), none, some (.int (6 - 1))] [] (fm_mk S) r) (c1 : x0 = 0 → ¬ x0 = 1 → am_Ev d k_M_letterOf 80 [some (.int x0), some (.int x1), some (.long 20152314), none, some (.int 4), some (.long 20152314), none, some (.int (4 - 1))] [] (fm_mk S) r) (c2 : ¬ x0 = 0 → x0 = 1 → am_Ev d k_M_letterOf 80 [some (.int x0), some (.int x1), some (.long 192018050520), none, some (.int 6), some (.long 192018050520), none, some (.int (6 - 1))] [] (fm_mk S) r) (c3 : ¬ x0 = 0 → ¬ x0 = 1 → x0 = 2 → am_Ev d k_M_letterOf 80 [some (.int x0), some (.int x1), some (.long 12011405), none, some (.int 4), some (.long 12011405), none, some (.int (4 - 1))] [] (fm_mk S) r) (c4 : ¬ x0 = 0 → ¬ x0 = 1 → ¬ x0 = 2 → x0 = 3 → am_Ev d k_M_letterOf 80 [some (.int x0), some (.int x1), some (.long 7012005), none, some (.int 4), some (.long 7012005), none, some (.int (4 - 1))] [] (fm_mk S) r) (c5 : ¬ x0 = 0 → ¬ x0 = 1 → ¬ x0 = 2 → ¬ x0 = 3 → x0 = 4 → am_Ev d k_M_letterOf 80 [some (.int x0), some (.int x1), some (.long 23091404), none, some (.int 4), some (.long 23091404), none, some (.int (4 - 1))] [] (fm_mk S) r) (c6 : ¬ x0 = 0 → ¬ x0 = 1 → ¬ x0 = 2 → ¬ x0 = 3 → ¬ x0 = 4 → am_Ev d k_M_letterOf 80 [some (.int x0), some (.int x1), some (.long 4091908), none, some (.int 4), some (.long 4091908), none, some (.int (4 - 1))] [] (fm_mk S) r) : am_Ev d k_M_letterOf 0 [some (.int x0), some (.int x1), o2, o3, o4, o5, o6, o7] [] (fm_mk S) r := by
  refine b_M_letterOf_0 (fun q1_ => ?_) (fun q1_ => ?_)
  · refine b_M_letterOf_10 (fun q3_ => ?_) (fun q3_ => ?_)
    · refine b_M_letterOf_21 (fun q4_ => ?_) (fun q4_ => ?_)
      · refine b_M_letterOf_32 (fun q5_ => ?_) (fun q5_ => ?_)
        · refine b_M_letterOf_43 (fun q6_ => ?_) (fun q6_ => ?_)
          · refine b_M_letterOf_54 ?_
            refine b_M_letterOf_57 (fun _ => ?_) (fun z => absurd z q3_)
            refine b_M_letterOf_68 ?_
            refine b_M_letterOf_69 ?_
            exact c6 q1_ q3_ q4_ q5_ q6_
          · refine b_M_letterOf_48 ?_
            refine b_M_letterOf_57 (fun _ => ?_) (fun z => absurd z q3_)
            refine b_M_letterOf_68 ?_
            refine b_M_letterOf_69 ?_
            exact c5 q1_ q3_ q4_ q5_ q6_
        · refine b_M_letterOf_37 ?_
          refine b_M_letterOf_57 (fun _ => ?_) (fun z => absurd z q3_)
          refine b_M_letterOf_68 ?_
          refine b_M_letterOf_69 ?_
          exact c4 q1_ q3_ q4_ q5_
      · refine b_M_letterOf_26 ?_
        refine b_M_letterOf_57 (fun _ => ?_) (fun z => absurd z q3_)
        refine b_M_letterOf_68 ?_
        refine b_M_letterOf_69 ?_
        exact c3 q1_ q3_ q4_
    · refine b_M_letterOf_15 ?_
      refine b_M_letterOf_57 (fun z => absurd q3_ z) (fun _ => ?_)
      refine b_M_letterOf_63 ?_
      refine b_M_letterOf_69 ?_
      exact c2 q1_ q3_
  · refine b_M_letterOf_4 ?_
    refine b_M_letterOf_57 (fun q2_ => ?_) (fun q2_ => ?_)
    · refine b_M_letterOf_68 ?_
      refine b_M_letterOf_69 ?_
      exact c1 q1_ q2_
    · refine b_M_letterOf_63 ?_
      refine b_M_letterOf_69 ?_
      exact c0 q1_ q2_
theorem w_M_letterOf_80 {d : Nat} {x0 : Int32} {x1 : Int32} {y2 : Int64} {x4 : Int32} {y5 : Int64} {x7 : Int32} {S : fm_S} {r : Option Value × am_W} (c0 : x7 ≤ x1 → x4 ≤ x1 → r = (some (.int 0), fm_mk S)) (c1 : x7 ≤ x1 → ¬ x4 ≤ x1 → r = (some (.int (((y5 - y5 / 100 * 100).toInt32) + 96)), fm_mk S)) (c2 : ¬ x7 ≤ x1 → am_Ev d k_M_letterOf 80 [some (.int x0), some (.int x1), some (.long y2), none, some (.int x4), some (.long (y5 / 100)), none, some (.int (x7 + (-1)))] [] (fm_mk S) r) : am_Ev d k_M_letterOf 80 [some (.int x0), some (.int x1), some (.long y2), none, some (.int x4), some (.long y5), none, some (.int x7)] [] (fm_mk S) r := by
  refine b_M_letterOf_80 (fun q1_ => ?_) (fun q1_ => ?_)
  · refine b_M_letterOf_100 (fun q2_ => ?_) (fun q2_ => ?_)
    · refine b_M_letterOf_119 ?_
      rw [c0 q1_ q2_]; exact b_M_letterOf_120
    · refine b_M_letterOf_106 ?_
      rw [c1 q1_ q2_]; exact b_M_letterOf_120
  · refine b_M_letterOf_86 ?_
    exact c2 q1_
theorem w_M_past_0 {d : Nat} {a0 : Nat} {a1 : Nat} {x2 : Int32} {x3 : Int32} {o4 : Option Value} {o5 : Option Value} {S : fm_S} {r : Option Value × am_W} (c0 : am_Ev d k_M_past 3 [some (.ref a0), some (.ref a1), some (.int x2), some (.int x3), some (.int 0), o5] [] (fm_mk S) r) : am_Ev d k_M_past 0 [some (.ref a0), some (.ref a1), some (.int x2), some (.int x3), o4, o5] [] (fm_mk S) r := by
  refine b_M_past_0 ?_
  exact c0
theorem w_M_past_3 {d : Nat} {a0 : Nat} {a1 : Nat} {x2 : Int32} {x3 : Int32} {x4 : Int32} {o5 : Option Value} {S : fm_S} {r : Option Value × am_W} (hs0 : fm_tg a0 = 100) (hs1 : ¬ 25 ≤ x4 → x4 = 0 → x3 = 0 → vp_in 4 (fm_ln a0)) (hs2 : fm_tg a1 = 100) (hs3 : ¬ 25 ≤ x4 → x4 = 0 → x3 = 0 → vp_in (x2 + x4) (fm_ln a1)) (hs4 : ¬ 25 ≤ x4 → x4 = 0 → ¬ x3 = 0 → vp_in (x2 + x4) (fm_ln a0)) (hs5 : ¬ 25 ≤ x4 → x4 = 0 → ¬ x3 = 0 → vp_in 4 (fm_ln a1)) (hs6 : ¬ 25 ≤ x4 → ¬ x4 = 0 → x3 = 0 → vp_in (28 + x4) (fm_ln a0)) (hs7 : ¬ 25 ≤ x4 → ¬ x4 = 0 → x3 = 0 → vp_in (x2 + x4) (fm_ln a1)) (hs8 : ¬ 25 ≤ x4 → ¬ x4 = 0 → ¬ x3 = 0 → vp_in (x2 + x4) (fm_ln a0)) (hs9 : ¬ 25 ≤ x4 → ¬ x4 = 0 → ¬ x3 = 0 → vp_in (28 + x4) (fm_ln a1)) (c0 : 25 ≤ x4 → r = (none, fm_mk S)) (c1 : ¬ 25 ≤ x4 → x4 = 0 → x3 = 0 → am_Ev d k_M_past 3 [some (.ref a0), some (.ref a1), some (.int x2), some (.int x3), some (.int (x4 + 1)), some (.int 4)] [] (fm_mk (fm_wI S a1 ((x2 + x4).toNatClampNeg) (S.1 a0 (4 : Int32).toNatClampNeg))) r) (c2 : ¬ 25 ≤ x4 → x4 = 0 → ¬ x3 = 0 → am_Ev d k_M_past 3 [some (.ref a0), some (.ref a1), some (.int x2), some (.int x3), some (.int (x4 + 1)), some (.int 4)] [] (fm_mk (fm_wI S a1 (4 : Int32).toNatClampNeg (S.1 a0 ((x2 + x4).toNatClampNeg)))) r) (c3 : ¬ 25 ≤ x4 → ¬ x4 = 0 → x3 = 0 → am_Ev d k_M_past 3 [some (.ref a0), some (.ref a1), some (.int x2), some (.int x3), some (.int (x4 + 1)), some (.int (28 + x4))] [] (fm_mk (fm_wI S a1 ((x2 + x4).toNatClampNeg) (S.1 a0 (28 + x4).toNatClampNeg))) r) (c4 : ¬ 25 ≤ x4 → ¬ x4 = 0 → ¬ x3 = 0 → am_Ev d k_M_past 3 [some (.ref a0), some (.ref a1), some (.int x2), some (.int x3), some (.int (x4 + 1)), some (.int (28 + x4))] [] (fm_mk (fm_wI S a1 (28 + x4).toNatClampNeg (S.1 a0 ((x2 + x4).toNatClampNeg)))) r) : am_Ev d k_M_past 3 [some (.ref a0), some (.ref a1), some (.int x2), some (.int x3), some (.int x4), o5] [] (fm_mk S) r := by
  refine b_M_past_3 (fun q1_ => ?_) (fun q1_ => ?_)
  · rw [c0 q1_]; exact b_M_past_59
  · refine b_M_past_10 (fun q2_ => ?_) (fun q2_ => ?_)
    · refine b_M_past_19 ?_
      refine b_M_past_24 (fun q4_ => ?_) (fun q4_ => ?_)
      · refine b_M_past_43 hs0 (hs6 q1_ q2_ q4_) hs2 (hs7 q1_ q2_ q4_) ?_
        refine b_M_past_53 ?_
        exact c3 q1_ q2_ q4_
      · refine b_M_past_30 hs0 (hs8 q1_ q2_ q4_) hs2 (hs9 q1_ q2_ q4_) ?_
        refine b_M_past_53 ?_
        exact c4 q1_ q2_ q4_
    · refine b_M_past_15 ?_
      refine b_M_past_24 (fun q3_ => ?_) (fun q3_ => ?_)
      · refine b_M_past_43 hs0 (hs1 q1_ q2_ q3_) hs2 (hs3 q1_ q2_ q3_) ?_
        refine b_M_past_53 ?_
        exact c1 q1_ q2_ q3_
      · refine b_M_past_30 hs0 (hs4 q1_ q2_ q3_) hs2 (hs5 q1_ q2_ q3_) ?_
        refine b_M_past_53 ?_
        exact c2 q1_ q2_ q3_
theorem w_M_spread_0 {d : Nat} {x1 : Int32} {x2 : Int32} {x3 : Int32} {x4 : Int32} {o5 : Option Value} {o6 : Option Value} {o7 : Option Value} {o8 : Option Value} {o9 : Option Value} {o10 : Option Value} {S : fm_S} {r : Option Value × am_W} (c0 : am_Ev d k_M_spread 3 [some (.ref 231), some (.int x1), some (.int x2), some (.int x3), some (.int x4), some (.int 0), o6, o7, o8, o9, o10] [] (fm_mk S) r) : am_Ev d k_M_spread 0 [some (.ref 231), some (.int x1), some (.int x2), some (.int x3), some (.int x4), o5, o6, o7, o8, o9, o10] [] (fm_mk S) r := by
  refine b_M_spread_0 ?_
  exact c0
theorem w_M_spread_3 {d : Nat} {x1 : Int32} {x2 : Int32} {x3 : Int32} {x4 : Int32} {x5 : Int32} {o6 : Option Value} {o7 : Option Value} {o8 : Option Value} {o9 : Option Value} {o10 : Option Value} {S : fm_S} {r : Option Value × am_W} (hs0 : 8 ≤ x5 → vp_in (117 + x2) 373) (hs1 : 8 ≤ x5 → ¬ (f_M_isStreet S (S.1 232 ((117 + x2).toNatClampNeg))) = 0 → vp_in (13 + (S.1 232 ((117 + x2).toNatClampNeg))) 373) (hs2 : 8 ≤ x5 → ¬ (f_M_isStreet S (S.1 232 ((117 + x2).toNatClampNeg))) = 0 → (S.1 232 ((117 + x2).toNatClampNeg)) = x3 → ((x1 - (S.1 232 ((13 + (S.1 232 ((117 + x2).toNatClampNeg))).toNatClampNeg))) - x4) ≤ 0 → vp_in (S.1 232 ((117 + x2).toNatClampNeg)) 8) (hs3 : 8 ≤ x5 → ¬ (f_M_isStreet S (S.1 232 ((117 + x2).toNatClampNeg))) = 0 → (S.1 232 ((117 + x2).toNatClampNeg)) = x3 → ¬ ((x1 - (S.1 232 ((13 + (S.1 232 ((117 + x2).toNatClampNeg))).toNatClampNeg))) - x4) ≤ 0 → vp_in (S.1 232 ((117 + x2).toNatClampNeg)) 8) (hs4 : 8 ≤ x5 → ¬ (f_M_isStreet S (S.1 232 ((117 + x2).toNatClampNeg))) = 0 → ¬ (S.1 232 ((117 + x2).toNatClampNeg)) = x3 → ((x1 - (S.1 232 ((13 + (S.1 232 ((117 + x2).toNatClampNeg))).toNatClampNeg))) - 0) ≤ 0 → vp_in (S.1 232 ((117 + x2).toNatClampNeg)) 8) (hs5 : 8 ≤ x5 → ¬ (f_M_isStreet S (S.1 232 ((117 + x2).toNatClampNeg))) = 0 → ¬ (S.1 232 ((117 + x2).toNatClampNeg)) = x3 → ¬ ((x1 - (S.1 232 ((13 + (S.1 232 ((117 + x2).toNatClampNeg))).toNatClampNeg))) - 0) ≤ 0 → vp_in (S.1 232 ((117 + x2).toNatClampNeg)) 8) (hs6 : ¬ 8 ≤ x5 → vp_in x5 8) (c0 : 8 ≤ x5 → (f_M_isStreet S (S.1 232 ((117 + x2).toNatClampNeg))) = 0 → r = (none, fm_mk S)) (c1 : 8 ≤ x5 → ¬ (f_M_isStreet S (S.1 232 ((117 + x2).toNatClampNeg))) = 0 → (S.1 232 ((117 + x2).toNatClampNeg)) = x3 → ((x1 - (S.1 232 ((13 + (S.1 232 ((117 + x2).toNatClampNeg))).toNatClampNeg))) - x4) ≤ 0 → am_Ev (d + 2) k_M_spread 93 [some (.ref 231), some (.int x1), some (.int x2), some (.int x3), some (.int x4), some (.int (S.1 232 ((117 + x2).toNatClampNeg))), some (.int ((x1 - (S.1 232 ((13 + (S.1 232 ((117 + x2).toNatClampNeg))).toNatClampNeg))) - x4)), some (.int 1), o8, o9, o10] [] (fm_mk (fm_wI S 238 (S.1 232 ((117 + x2).toNatClampNeg)).toNatClampNeg 0)) r) (c2 : 8 ≤ x5 → ¬ (f_M_isStreet S (S.1 232 ((117 + x2).toNatClampNeg))) = 0 → (S.1 232 ((117 + x2).toNatClampNeg)) = x3 → ¬ ((x1 - (S.1 232 ((13 + (S.1 232 ((117 + x2).toNatClampNeg))).toNatClampNeg))) - x4) ≤ 0 → am_Ev (d + 2) k_M_spread 93 [some (.ref 231), some (.int x1), some (.int x2), some (.int x3), some (.int x4), some (.int (S.1 232 ((117 + x2).toNatClampNeg))), some (.int ((x1 - (S.1 232 ((13 + (S.1 232 ((117 + x2).toNatClampNeg))).toNatClampNeg))) - x4)), some (.int 1), o8, o9, o10] [] (fm_mk (fm_wI S 238 (S.1 232 ((117 + x2).toNatClampNeg)).toNatClampNeg ((x1 - (S.1 232 ((13 + (S.1 232 ((117 + x2).toNatClampNeg))).toNatClampNeg))) - x4))) r) (c3 : 8 ≤ x5 → ¬ (f_M_isStreet S (S.1 232 ((117 + x2).toNatClampNeg))) = 0 → ¬ (S.1 232 ((117 + x2).toNatClampNeg)) = x3 → ((x1 - (S.1 232 ((13 + (S.1 232 ((117 + x2).toNatClampNeg))).toNatClampNeg))) - 0) ≤ 0 → am_Ev (d + 2) k_M_spread 93 [some (.ref 231), some (.int x1), some (.int x2), some (.int x3), some (.int x4), some (.int (S.1 232 ((117 + x2).toNatClampNeg))), some (.int ((x1 - (S.1 232 ((13 + (S.1 232 ((117 + x2).toNatClampNeg))).toNatClampNeg))) - 0)), some (.int 1), o8, o9, o10] [] (fm_mk (fm_wI S 238 (S.1 232 ((117 + x2).toNatClampNeg)).toNatClampNeg 0)) r) (c4 : 8 ≤ x5 → ¬ (f_M_isStreet S (S.1 232 ((117 + x2).toNatClampNeg))) = 0 → ¬ (S.1 232 ((117 + x2).toNatClampNeg)) = x3 → ¬ ((x1 - (S.1 232 ((13 + (S.1 232 ((117 + x2).toNatClampNeg))).toNatClampNeg))) - 0) ≤ 0 → am_Ev (d + 2) k_M_spread 93 [some (.ref 231), some (.int x1), some (.int x2), some (.int x3), some (.int x4), some (.int (S.1 232 ((117 + x2).toNatClampNeg))), some (.int ((x1 - (S.1 232 ((13 + (S.1 232 ((117 + x2).toNatClampNeg))).toNatClampNeg))) - 0)), some (.int 1), o8, o9, o10] [] (fm_mk (fm_wI S 238 (S.1 232 ((117 + x2).toNatClampNeg)).toNatClampNeg ((x1 - (S.1 232 ((13 + (S.1 232 ((117 + x2).toNatClampNeg))).toNatClampNeg))) - 0))) r) (c5 : ¬ 8 ≤ x5 → am_Ev (d + 2) k_M_spread 3 [some (.ref 231), some (.int x1), some (.int x2), some (.int x3), some (.int x4), some (.int (x5 + 1)), o6, o7, o8, o9, o10] [] (fm_mk (fm_wI S 238 x5.toNatClampNeg 0)) r) : am_Ev (d + 2) k_M_spread 3 [some (.ref 231), some (.int x1), some (.int x2), some (.int x3), some (.int x4), some (.int x5), o6, o7, o8, o9, o10] [] (fm_mk S) r := by
  refine b_M_spread_3 (fun q1_ => ?_) (fun q1_ => ?_)
  · refine b_M_spread_24 (hs0 q1_) (s_M_isStreet (x1 := (S.1 232 ((117 + x2).toNatClampNeg))) (S := S)) ?_
    refine b_M_spread_41 (fun q2_ => ?_) (fun q2_ => ?_)
    · refine b_M_spread_45 (hs1 q1_ q2_) (fun q3_ => ?_) (fun q3_ => ?_)
      · refine b_M_spread_68 ?_
        refine b_M_spread_69 (fun q5_ => ?_) (fun q5_ => ?_)
        · refine b_M_spread_88 ?_
          refine b_M_spread_89 (hs4 q1_ q2_ q3_ q5_) ?_
          exact c3 q1_ q2_ q3_ q5_
        · refine b_M_spread_83 ?_
          refine b_M_spread_89 (hs5 q1_ q2_ q3_ q5_) ?_
          exact c4 q1_ q2_ q3_ q5_
      · refine b_M_spread_63 ?_
        refine b_M_spread_69 (fun q4_ => ?_) (fun q4_ => ?_)
        · refine b_M_spread_88 ?_
          refine b_M_spread_89 (hs2 q1_ q2_ q3_ q4_) ?_
          exact c1 q1_ q2_ q3_ q4_
        · refine b_M_spread_83 ?_
          refine b_M_spread_89 (hs3 q1_ q2_ q3_ q4_) ?_
          exact c2 q1_ q2_ q3_ q4_
    · rw [c0 q1_ q2_]; exact b_M_spread_44
  · refine b_M_spread_10 (hs6 q1_) ?_
    exact c5 q1_
theorem w_M_spread_93 {d : Nat} {x1 : Int32} {x2 : Int32} {x3 : Int32} {x4 : Int32} {x5 : Int32} {x6 : Int32} {x7 : Int32} {o8 : Option Value} {o9 : Option Value} {o10 : Option Value} {S : fm_S} {r : Option Value × am_W} (c0 : x7 = 0 → r = (none, fm_mk S)) (c1 : ¬ x7 = 0 → am_Ev d k_M_spread 104 [some (.ref 231), some (.int x1), some (.int x2), some (.int x3), some (.int x4), some (.int x5), some (.int x6), some (.int 0), some (.int 0), o9, o10] [] (fm_mk S) r) : am_Ev d k_M_spread 93 [some (.ref 231), some (.int x1), some (.int x2), some (.int x3), some (.int x4), some (.int x5), some (.int x6), some (.int x7), o8, o9, o10] [] (fm_mk S) r := by
  refine b_M_spread_93 (fun q1_ => ?_) (fun q1_ => ?_)
  · rw [c0 q1_]; exact b_M_spread_238
  · refine b_M_spread_98 ?_
    exact c1 q1_
theorem w_M_spread_104 {d : Nat} {x1 : Int32} {x2 : Int32} {x3 : Int32} {x4 : Int32} {x5 : Int32} {x6 : Int32} {x7 : Int32} {x8 : Int32} {o9 : Option Value} {o10 : Option Value} {S : fm_S} {r : Option Value × am_W} (hs0 : ¬ 64 ≤ x8 → vp_in (53 + x8) 373) (hs1 : ¬ 64 ≤ x8 → (S.1 232 ((53 + x8).toNatClampNeg)) = 1 → vp_in (x8 / 8) 8) (hs2 : ¬ 64 ≤ x8 → (S.1 232 ((53 + x8).toNatClampNeg)) = 1 → vp_in (13 + (x8 - x8 / 8 * 8)) 373) (hs3 : ¬ 64 ≤ x8 → (S.1 232 ((53 + x8).toNatClampNeg)) = 1 → (x8 - x8 / 8 * 8) = x3 → x7 = 0 → vp_in (x8 - x8 / 8 * 8) 8) (hs4 : ¬ 64 ≤ x8 → (S.1 232 ((53 + x8).toNatClampNeg)) = 1 → (x8 - x8 / 8 * 8) = x3 → ¬ x7 = 0 → vp_in (x8 - x8 / 8 * 8) 8) (hs5 : ¬ 64 ≤ x8 → (S.1 232 ((53 + x8).toNatClampNeg)) = 1 → ¬ (x8 - x8 / 8 * 8) = x3 → x7 = 0 → vp_in (x8 - x8 / 8 * 8) 8) (hs6 : ¬ 64 ≤ x8 → (S.1 232 ((53 + x8).toNatClampNeg)) = 1 → ¬ (x8 - x8 / 8 * 8) = x3 → ¬ x7 = 0 → vp_in (x8 - x8 / 8 * 8) 8) (hs7 : ¬ 64 ≤ x8 → ¬ (S.1 232 ((53 + x8).toNatClampNeg)) = 1 → x7 = 0 → vp_in (x8 - x8 / 8 * 8) 8) (hs8 : ¬ 64 ≤ x8 → ¬ (S.1 232 ((53 + x8).toNatClampNeg)) = 1 → ¬ x7 = 0 → vp_in (x8 - x8 / 8 * 8) 8) (c0 : 64 ≤ x8 → am_Ev d k_M_spread 93 [some (.ref 231), some (.int x1), some (.int x2), some (.int x3), some (.int x4), some (.int x5), some (.int x6), some (.int x7), some (.int x8), o9, o10] [] (fm_mk S) r) (c1 : ¬ 64 ≤ x8 → (S.1 232 ((53 + x8).toNatClampNeg)) = 1 → (x8 - x8 / 8 * 8) = x3 → x7 = 0 → ((((S.1 238 ((x8 / 8).toNatClampNeg)) - 2) - (S.1 232 ((13 + (x8 - x8 / 8 * 8)).toNatClampNeg))) - x4) ≤ (S.1 238 (x8 - x8 / 8 * 8).toNatClampNeg) → am_Ev d k_M_spread 104 [some (.ref 231), some (.int x1), some (.int x2), some (.int x3), some (.int x4), some (.int x5), some (.int x6), some (.int 0), some (.int (x8 + 1)), some (.int (x8 - x8 / 8 * 8)), some (.int ((((S.1 238 ((x8 / 8).toNatClampNeg)) - 2) - (S.1 232 ((13 + (x8 - x8 / 8 * 8)).toNatClampNeg))) - x4))] [] (fm_mk (fm_wI S 238 (x8 - x8 / 8 * 8).toNatClampNeg (S.1 238 (x8 - x8 / 8 * 8).toNatClampNeg))) r) (c2 : ¬ 64 ≤ x8 → (S.1 232 ((53 + x8).toNatClampNeg)) = 1 → (x8 - x8 / 8 * 8) = x3 → x7 = 0 → ¬ ((((S.1 238 ((x8 / 8).toNatClampNeg)) - 2) - (S.1 232 ((13 + (x8 - x8 / 8 * 8)).toNatClampNeg))) - x4) ≤ (S.1 238 (x8 - x8 / 8 * 8).toNatClampNeg) → am_Ev d k_M_spread 104 [some (.ref 231), some (.int x1), some (.int x2), some (.int x3), some (.int x4), some (.int x5), some (.int x6), some (.int 1), some (.int (x8 + 1)), some (.int (x8 - x8 / 8 * 8)), some (.int ((((S.1 238 ((x8 / 8).toNatClampNeg)) - 2) - (S.1 232 ((13 + (x8 - x8 / 8 * 8)).toNatClampNeg))) - x4))] [] (fm_mk (fm_wI S 238 (x8 - x8 / 8 * 8).toNatClampNeg ((((S.1 238 ((x8 / 8).toNatClampNeg)) - 2) - (S.1 232 ((13 + (x8 - x8 / 8 * 8)).toNatClampNeg))) - x4))) r) (c3 : ¬ 64 ≤ x8 → (S.1 232 ((53 + x8).toNatClampNeg)) = 1 → (x8 - x8 / 8 * 8) = x3 → ¬ x7 = 0 → ((((S.1 238 ((x8 / 8).toNatClampNeg)) - 2) - (S.1 232 ((13 + (x8 - x8 / 8 * 8)).toNatClampNeg))) - x4) ≤ (S.1 238 (x8 - x8 / 8 * 8).toNatClampNeg) → am_Ev d k_M_spread 104 [some (.ref 231), some (.int x1), some (.int x2), some (.int x3), some (.int x4), some (.int x5), some (.int x6), some (.int 1), some (.int (x8 + 1)), some (.int (x8 - x8 / 8 * 8)), some (.int ((((S.1 238 ((x8 / 8).toNatClampNeg)) - 2) - (S.1 232 ((13 + (x8 - x8 / 8 * 8)).toNatClampNeg))) - x4))] [] (fm_mk (fm_wI S 238 (x8 - x8 / 8 * 8).toNatClampNeg (S.1 238 (x8 - x8 / 8 * 8).toNatClampNeg))) r) (c4 : ¬ 64 ≤ x8 → (S.1 232 ((53 + x8).toNatClampNeg)) = 1 → (x8 - x8 / 8 * 8) = x3 → ¬ x7 = 0 → ¬ ((((S.1 238 ((x8 / 8).toNatClampNeg)) - 2) - (S.1 232 ((13 + (x8 - x8 / 8 * 8)).toNatClampNeg))) - x4) ≤ (S.1 238 (x8 - x8 / 8 * 8).toNatClampNeg) → am_Ev d k_M_spread 104 [some (.ref 231), some (.int x1), some (.int x2), some (.int x3), some (.int x4), some (.int x5), some (.int x6), some (.int 1), some (.int (x8 + 1)), some (.int (x8 - x8 / 8 * 8)), some (.int ((((S.1 238 ((x8 / 8).toNatClampNeg)) - 2) - (S.1 232 ((13 + (x8 - x8 / 8 * 8)).toNatClampNeg))) - x4))] [] (fm_mk (fm_wI S 238 (x8 - x8 / 8 * 8).toNatClampNeg ((((S.1 238 ((x8 / 8).toNatClampNeg)) - 2) - (S.1 232 ((13 + (x8 - x8 / 8 * 8)).toNatClampNeg))) - x4))) r) (c5 : ¬ 64 ≤ x8 → (S.1 232 ((53 + x8).toNatClampNeg)) = 1 → ¬ (x8 - x8 / 8 * 8) = x3 → x7 = 0 → ((((S.1 238 ((x8 / 8).toNatClampNeg)) - 2) - (S.1 232 ((13 + (x8 - x8 / 8 * 8)).toNatClampNeg))) - 0) ≤ (S.1 238 (x8 - x8 / 8 * 8).toNatClampNeg) → am_Ev d k_M_spread 104 [some (.ref 231), some (.int x1), some (.int x2), some (.int x3), some (.int x4), some (.int x5), some (.int x6), some (.int 0), some (.int (x8 + 1)), some (.int (x8 - x8 / 8 * 8)), some (.int ((((S.1 238 ((x8 / 8).toNatClampNeg)) - 2) - (S.1 232 ((13 + (x8 - x8 / 8 * 8)).toNatClampNeg))) - 0))] [] (fm_mk (fm_wI S 238 (x8 - x8 / 8 * 8).toNatClampNeg (S.1 238 (x8 - x8 / 8 * 8).toNatClampNeg))) r) (c6 : ¬ 64 ≤ x8 → (S.1 232 ((53 + x8).toNatClampNeg)) = 1 → ¬ (x8 - x8 / 8 * 8) = x3 → x7 = 0 → ¬ ((((S.1 238 ((x8 / 8).toNatClampNeg)) - 2) - (S.1 232 ((13 + (x8 - x8 / 8 * 8)).toNatClampNeg))) - 0) ≤ (S.1 238 (x8 - x8 / 8 * 8).toNatClampNeg) → am_Ev d k_M_spread 104 [some (.ref 231), some (.int x1), some (.int x2), some (.int x3), some (.int x4), some (.int x5), some (.int x6), some (.int 1), some (.int (x8 + 1)), some (.int (x8 - x8 / 8 * 8)), some (.int ((((S.1 238 ((x8 / 8).toNatClampNeg)) - 2) - (S.1 232 ((13 + (x8 - x8 / 8 * 8)).toNatClampNeg))) - 0))] [] (fm_mk (fm_wI S 238 (x8 - x8 / 8 * 8).toNatClampNeg ((((S.1 238 ((x8 / 8).toNatClampNeg)) - 2) - (S.1 232 ((13 + (x8 - x8 / 8 * 8)).toNatClampNeg))) - 0))) r) (c7 : ¬ 64 ≤ x8 → (S.1 232 ((53 + x8).toNatClampNeg)) = 1 → ¬ (x8 - x8 / 8 * 8) = x3 → ¬ x7 = 0 → ((((S.1 238 ((x8 / 8).toNatClampNeg)) - 2) - (S.1 232 ((13 + (x8 - x8 / 8 * 8)).toNatClampNeg))) - 0) ≤ (S.1 238 (x8 - x8 / 8 * 8).toNatClampNeg) → am_Ev d k_M_spread 104 [some (.ref 231), some (.int x1), some (.int x2), some (.int x3), some (.int x4), some (.int x5), some (.int x6), some (.int 1), some (.int (x8 + 1)), some (.int (x8 - x8 / 8 * 8)), some (.int ((((S.1 238 ((x8 / 8).toNatClampNeg)) - 2) - (S.1 232 ((13 + (x8 - x8 / 8 * 8)).toNatClampNeg))) - 0))] [] (fm_mk (fm_wI S 238 (x8 - x8 / 8 * 8).toNatClampNeg (S.1 238 (x8 - x8 / 8 * 8).toNatClampNeg))) r) (c8 : ¬ 64 ≤ x8 → (S.1 232 ((53 + x8).toNatClampNeg)) = 1 → ¬ (x8 - x8 / 8 * 8) = x3 → ¬ x7 = 0 → ¬ ((((S.1 238 ((x8 / 8).toNatClampNeg)) - 2) - (S.1 232 ((13 + (x8 - x8 / 8 * 8)).toNatClampNeg))) - 0) ≤ (S.1 238 (x8 - x8 / 8 * 8).toNatClampNeg) → am_Ev d k_M_spread 104 [some (.ref 231), some (.int x1), some (.int x2), some (.int x3), some (.int x4), some (.int x5), some (.int x6), some (.int 1), some (.int (x8 + 1)), some (.int (x8 - x8 / 8 * 8)), some (.int ((((S.1 238 ((x8 / 8).toNatClampNeg)) - 2) - (S.1 232 ((13 + (x8 - x8 / 8 * 8)).toNatClampNeg))) - 0))] [] (fm_mk (fm_wI S 238 (x8 - x8 / 8 * 8).toNatClampNeg ((((S.1 238 ((x8 / 8).toNatClampNeg)) - 2) - (S.1 232 ((13 + (x8 - x8 / 8 * 8)).toNatClampNeg))) - 0))) r) (c9 : ¬ 64 ≤ x8 → ¬ (S.1 232 ((53 + x8).toNatClampNeg)) = 1 → x7 = 0 → 0 ≤ (S.1 238 (x8 - x8 / 8 * 8).toNatClampNeg) → am_Ev d k_M_spread 104 [some (.ref 231), some (.int x1), some (.int x2), some (.int x3), some (.int x4), some (.int x5), some (.int x6), some (.int 0), some (.int (x8 + 1)), some (.int (x8 - x8 / 8 * 8)), some (.int 0)] [] (fm_mk (fm_wI S 238 (x8 - x8 / 8 * 8).toNatClampNeg (S.1 238 (x8 - x8 / 8 * 8).toNatClampNeg))) r) (c10 : ¬ 64 ≤ x8 → ¬ (S.1 232 ((53 + x8).toNatClampNeg)) = 1 → x7 = 0 → ¬ 0 ≤ (S.1 238 (x8 - x8 / 8 * 8).toNatClampNeg) → am_Ev d k_M_spread 104 [some (.ref 231), some (.int x1), some (.int x2), some (.int x3), some (.int x4), some (.int x5), some (.int x6), some (.int 1), some (.int (x8 + 1)), some (.int (x8 - x8 / 8 * 8)), some (.int 0)] [] (fm_mk (fm_wI S 238 (x8 - x8 / 8 * 8).toNatClampNeg 0)) r) (c11 : ¬ 64 ≤ x8 → ¬ (S.1 232 ((53 + x8).toNatClampNeg)) = 1 → ¬ x7 = 0 → 0 ≤ (S.1 238 (x8 - x8 / 8 * 8).toNatClampNeg) → am_Ev d k_M_spread 104 [some (.ref 231), some (.int x1), some (.int x2), some (.int x3), some (.int x4), some (.int x5), some (.int x6), some (.int 1), some (.int (x8 + 1)), some (.int (x8 - x8 / 8 * 8)), some (.int 0)] [] (fm_mk (fm_wI S 238 (x8 - x8 / 8 * 8).toNatClampNeg (S.1 238 (x8 - x8 / 8 * 8).toNatClampNeg))) r) (c12 : ¬ 64 ≤ x8 → ¬ (S.1 232 ((53 + x8).toNatClampNeg)) = 1 → ¬ x7 = 0 → ¬ 0 ≤ (S.1 238 (x8 - x8 / 8 * 8).toNatClampNeg) → am_Ev d k_M_spread 104 [some (.ref 231), some (.int x1), some (.int x2), some (.int x3), some (.int x4), some (.int x5), some (.int x6), some (.int 1), some (.int (x8 + 1)), some (.int (x8 - x8 / 8 * 8)), some (.int 0)] [] (fm_mk (fm_wI S 238 (x8 - x8 / 8 * 8).toNatClampNeg 0)) r) : am_Ev d k_M_spread 104 [some (.ref 231), some (.int x1), some (.int x2), some (.int x3), some (.int x4), some (.int x5), some (.int x6), some (.int x7), some (.int x8), o9, o10] [] (fm_mk S) r := by
  refine b_M_spread_104 (fun q1_ => ?_) (fun q1_ => ?_)
  · refine b_M_spread_235 ?_
    exact c0 q1_
  · refine b_M_spread_111 (hs0 q1_) (fun q2_ => ?_) (fun q2_ => ?_)
    · refine b_M_spread_171 ?_
      refine b_M_spread_172 (fun q10_ => ?_) (fun q10_ => ?_)
      · refine b_M_spread_191 ?_
        refine b_M_spread_196 (hs8 q1_ q2_ q10_) (fun q12_ => ?_) (fun q12_ => ?_)
        · refine b_M_spread_221 (hs8 q1_ q2_ q10_) ?_
          refine b_M_spread_228 (hs8 q1_ q2_ q10_) ?_
          exact c11 q1_ q2_ q10_ q12_
        · refine b_M_spread_216 ?_
          refine b_M_spread_228 (hs8 q1_ q2_ q10_) ?_
          exact c12 q1_ q2_ q10_ q12_
      · refine b_M_spread_179 (hs7 q1_ q2_ q10_) (fun q11_ => ?_) (fun q11_ => ?_)
        · refine b_M_spread_195 ?_
          refine b_M_spread_196 (hs7 q1_ q2_ q10_) (fun _ => ?_) (fun z => absurd q11_ z)
          refine b_M_spread_221 (hs7 q1_ q2_ q10_) ?_
          refine b_M_spread_228 (hs7 q1_ q2_ q10_) ?_
          exact c9 q1_ q2_ q10_ q11_
        · refine b_M_spread_191 ?_
          refine b_M_spread_196 (hs7 q1_ q2_ q10_) (fun z => absurd z q11_) (fun _ => ?_)
          refine b_M_spread_216 ?_
          refine b_M_spread_228 (hs7 q1_ q2_ q10_) ?_
          exact c10 q1_ q2_ q10_ q11_
    · refine b_M_spread_132 (hs1 q1_ q2_) (hs2 q1_ q2_) (fun q3_ => ?_) (fun q3_ => ?_)
      · refine b_M_spread_166 ?_
        refine b_M_spread_167 ?_
        refine b_M_spread_172 (fun q7_ => ?_) (fun q7_ => ?_)
        · refine b_M_spread_191 ?_
          refine b_M_spread_196 (hs6 q1_ q2_ q3_ q7_) (fun q9_ => ?_) (fun q9_ => ?_)
          · refine b_M_spread_221 (hs6 q1_ q2_ q3_ q7_) ?_
            refine b_M_spread_228 (hs6 q1_ q2_ q3_ q7_) ?_
            exact c7 q1_ q2_ q3_ q7_ q9_
          · refine b_M_spread_216 ?_
            refine b_M_spread_228 (hs6 q1_ q2_ q3_ q7_) ?_
            exact c8 q1_ q2_ q3_ q7_ q9_
        · refine b_M_spread_179 (hs5 q1_ q2_ q3_ q7_) (fun q8_ => ?_) (fun q8_ => ?_)
          · refine b_M_spread_195 ?_
            refine b_M_spread_196 (hs5 q1_ q2_ q3_ q7_) (fun _ => ?_) (fun z => absurd q8_ z)
            refine b_M_spread_221 (hs5 q1_ q2_ q3_ q7_) ?_
            refine b_M_spread_228 (hs5 q1_ q2_ q3_ q7_) ?_
            exact c5 q1_ q2_ q3_ q7_ q8_
          · refine b_M_spread_191 ?_
            refine b_M_spread_196 (hs5 q1_ q2_ q3_ q7_) (fun z => absurd z q8_) (fun _ => ?_)
            refine b_M_spread_216 ?_
            refine b_M_spread_228 (hs5 q1_ q2_ q3_ q7_) ?_
            exact c6 q1_ q2_ q3_ q7_ q8_
      · refine b_M_spread_161 ?_
        refine b_M_spread_167 ?_
        refine b_M_spread_172 (fun q4_ => ?_) (fun q4_ => ?_)
        · refine b_M_spread_191 ?_
          refine b_M_spread_196 (hs4 q1_ q2_ q3_ q4_) (fun q6_ => ?_) (fun q6_ => ?_)
          · refine b_M_spread_221 (hs4 q1_ q2_ q3_ q4_) ?_
            refine b_M_spread_228 (hs4 q1_ q2_ q3_ q4_) ?_
            exact c3 q1_ q2_ q3_ q4_ q6_
          · refine b_M_spread_216 ?_
            refine b_M_spread_228 (hs4 q1_ q2_ q3_ q4_) ?_
            exact c4 q1_ q2_ q3_ q4_ q6_
        · refine b_M_spread_179 (hs3 q1_ q2_ q3_ q4_) (fun q5_ => ?_) (fun q5_ => ?_)
          · refine b_M_spread_195 ?_
            refine b_M_spread_196 (hs3 q1_ q2_ q3_ q4_) (fun _ => ?_) (fun z => absurd q5_ z)
            refine b_M_spread_221 (hs3 q1_ q2_ q3_ q4_) ?_
            refine b_M_spread_228 (hs3 q1_ q2_ q3_ q4_) ?_
            exact c1 q1_ q2_ q3_ q4_ q5_
          · refine b_M_spread_191 ?_
            refine b_M_spread_196 (hs3 q1_ q2_ q3_ q4_) (fun z => absurd z q5_) (fun _ => ?_)
            refine b_M_spread_216 ?_
            refine b_M_spread_228 (hs3 q1_ q2_ q3_ q4_) ?_
            exact c2 q1_ q2_ q3_ q4_ q5_
theorem w_M_dishIn_0 {d : Nat} {x1 : Int32} {x2 : Int32} {x3 : Int32} {o4 : Option Value} {o5 : Option Value} {S : fm_S} {r : Option Value × am_W} (c0 : am_Ev d k_M_dishIn 8 [some (.ref 231), some (.int x1), some (.int x2), some (.int x3), some (.int x1), some (.int (x2 - 1))] [] (fm_mk S) r) : am_Ev d k_M_dishIn 0 [some (.ref 231), some (.int x1), some (.int x2), some (.int x3), o4, o5] [] (fm_mk S) r := by
  refine b_M_dishIn_0 ?_
  exact c0
theorem w_M_dishIn_8 {d : Nat} {x1 : Int32} {x2 : Int32} {x3 : Int32} {x4 : Int32} {x5 : Int32} {S : fm_S} {r : Option Value × am_W} (hs0 : x5 ≤ x3 → ¬ (S.1 232 1) = 0) (hs1 : ¬ x5 ≤ x3 → ¬ (S.1 232 1) = 0) (c0 : x5 ≤ x3 → r = (some (.int (x4 - x4 / (S.1 232 1) * (S.1 232 1))), fm_mk S)) (c1 : ¬ x5 ≤ x3 → am_Ev d k_M_dishIn 8 [some (.ref 231), some (.int x1), some (.int x2), some (.int x3), some (.int (x4 / (S.1 232 1))), some (.int (x5 + (-1)))] [] (fm_mk S) r) : am_Ev d k_M_dishIn 8 [some (.ref 231), some (.int x1), some (.int x2), some (.int x3), some (.int x4), some (.int x5)] [] (fm_mk S) r := by
  refine b_M_dishIn_8 (fun q1_ => ?_) (fun q1_ => ?_)
  · rw [c0 q1_]; exact b_M_dishIn_31 (hs0 q1_)
  · refine b_M_dishIn_14 (hs1 q1_) ?_
    exact c1 q1_
theorem w_M_bits_0 {d : Nat} {x0 : Int32} {o1 : Option Value} {o2 : Option Value} {S : fm_S} {r : Option Value × am_W} (c0 : am_Ev d k_M_bits 4 [some (.int x0), some (.int 0), some (.int 0)] [] (fm_mk S) r) : am_Ev d k_M_bits 0 [some (.int x0), o1, o2] [] (fm_mk S) r := by
  refine b_M_bits_0 ?_
  exact c0
theorem w_M_bits_4 {d : Nat} {x0 : Int32} {x1 : Int32} {x2 : Int32} {S : fm_S} {r : Option Value × am_W} (c0 : 8 ≤ x2 → r = (some (.int x1), fm_mk S)) (c1 : ¬ 8 ≤ x2 → am_Ev d k_M_bits 4 [some (.int x0), some (.int (x1 + ((x0 >>> (x2 &&& 31)) &&& 1))), some (.int (x2 + 1))] [] (fm_mk S) r) : am_Ev d k_M_bits 4 [some (.int x0), some (.int x1), some (.int x2)] [] (fm_mk S) r := by
  refine b_M_bits_4 (fun q1_ => ?_) (fun q1_ => ?_)
  · rw [c0 q1_]; exact b_M_bits_24
  · refine b_M_bits_10 ?_
    exact c1 q1_
theorem w_M_cravings_0 {d : Nat} {x1 : Int32} {x2 : Int32} {o3 : Option Value} {o4 : Option Value} {o5 : Option Value} {o6 : Option Value} {o7 : Option Value} {S : fm_S} {r : Option Value × am_W} (c0 : am_Ev d k_M_cravings 5 [some (.ref 231), some (.int x1), some (.int x2), some (.int 0), some (.int 0), o5, o6, o7] [] (fm_mk S) r) : am_Ev d k_M_cravings 0 [some (.ref 231), some (.int x1), some (.int x2), o3, o4, o5, o6, o7] [] (fm_mk S) r := by
  refine b_M_cravings_0 ?_
  exact c0
theorem w_M_cravings_5 {d : Nat} {x1 : Int32} {x2 : Int32} {x3 : Int32} {x4 : Int32} {o5 : Option Value} {o6 : Option Value} {o7 : Option Value} {S : fm_S} {r : Option Value × am_W} (c0 : 6 ≤ x4 → r = (some (.int x3), fm_mk S)) (c1 : ¬ 6 ≤ x4 → am_Ev d k_M_cravings 20 [some (.ref 231), some (.int x1), some (.int x2), some (.int x3), some (.int x4), some (.int 1), some (.int 143), o7] [] (fm_mk S) r) : am_Ev d k_M_cravings 5 [some (.ref 231), some (.int x1), some (.int x2), some (.int x3), some (.int x4), o5, o6, o7] [] (fm_mk S) r := by
  refine b_M_cravings_5 (fun q1_ => ?_) (fun q1_ => ?_)
  · rw [c0 q1_]; exact b_M_cravings_159
  · refine b_M_cravings_12 ?_
    exact c1 q1_
theorem w_M_cravings_20 {d : Nat} {x1 : Int32} {x2 : Int32} {x3 : Int32} {x4 : Int32} {x5 : Int32} {x6 : Int32} {o7 : Option Value} {S : fm_S} {r : Option Value × am_W} (hs0 : ¬ (143 + (S.1 232 2)) ≤ x6 → vp_in (x6 + 6) 373) (hs1 : ¬ (143 + (S.1 232 2)) ≤ x6 → vp_in (x6 + 12) 373) (hs2 : ¬ (143 + (S.1 232 2)) ≤ x6 → vp_in (x6 + 18) 373) (hs3 : ¬ (143 + (S.1 232 2)) ≤ x6 → (f_M_movedBy x2 x4 (S.1 232 ((x6 + 6).toNatClampNeg)) (S.1 232 ((x6 + 12).toNatClampNeg)) (S.1 232 ((x6 + 18).toNatClampNeg)) 0) < 10 → ¬ x5 = 0 → vp_in x6 373) (hs4 : ¬ (143 + (S.1 232 2)) ≤ x6 → (f_M_movedBy x2 x4 (S.1 232 ((x6 + 6).toNatClampNeg)) (S.1 232 ((x6 + 12).toNatClampNeg)) (S.1 232 ((x6 + 18).toNatClampNeg)) 0) < 10 → ¬ x5 = 0 → (S.1 232 x6.toNatClampNeg) = x1 → vp_in (x6 + 24) 373) (hs5 : ¬ (143 + (S.1 232 2)) ≤ x6 → ¬ (f_M_movedBy x2 x4 (S.1 232 ((x6 + 6).toNatClampNeg)) (S.1 232 ((x6 + 12).toNatClampNeg)) (S.1 232 ((x6 + 18).toNatClampNeg)) 0) < 10 → ¬ x5 = 0 → vp_in x6 373) (hs6 : ¬ (143 + (S.1 232 2)) ≤ x6 → ¬ (f_M_movedBy x2 x4 (S.1 232 ((x6 + 6).toNatClampNeg)) (S.1 232 ((x6 + 12).toNatClampNeg)) (S.1 232 ((x6 + 18).toNatClampNeg)) 0) < 10 → ¬ x5 = 0 → (S.1 232 x6.toNatClampNeg) = x1 → vp_in (x6 + 24) 373) (c0 : (143 + (S.1 232 2)) ≤ x6 → x5 = 0 → am_Ev (d + 1) k_M_cravings 5 [some (.ref 231), some (.int x1), some (.int x2), some (.int (x3 ||| 0)), some (.int (x4 + 1)), some (.int x5), some (.int x6), o7] [] (fm_mk S) r) (c1 : (143 + (S.1 232 2)) ≤ x6 → ¬ x5 = 0 → am_Ev (d + 1) k_M_cravings 5 [some (.ref 231), some (.int x1), some (.int x2), some (.int (x3 ||| (1 <<< (x4 &&& 31)))), some (.int (x4 + 1)), some (.int x5), some (.int x6), o7] [] (fm_mk S) r) (c2 : ¬ (143 + (S.1 232 2)) ≤ x6 → (f_M_movedBy x2 x4 (S.1 232 ((x6 + 6).toNatClampNeg)) (S.1 232 ((x6 + 12).toNatClampNeg)) (S.1 232 ((x6 + 18).toNatClampNeg)) 0) < 10 → x5 = 0 → am_Ev (d + 1) k_M_cravings 20 [some (.ref 231), some (.int x1), some (.int x2), some (.int x3), some (.int x4), some (.int 0), some (.int (x6 + 1)), some (.int 0)] [] (fm_mk S) r) (c3 : ¬ (143 + (S.1 232 2)) ≤ x6 → (f_M_movedBy x2 x4 (S.1 232 ((x6 + 6).toNatClampNeg)) (S.1 232 ((x6 + 12).toNatClampNeg)) (S.1 232 ((x6 + 18).toNatClampNeg)) 0) < 10 → ¬ x5 = 0 → (S.1 232 x6.toNatClampNeg) = x1 → (S.1 232 ((x6 + 24).toNatClampNeg)) = 1 → am_Ev (d + 1) k_M_cravings 20 [some (.ref 231), some (.int x1), some (.int x2), some (.int x3), some (.int x4), some (.int 0), some (.int (x6 + 1)), some (.int 0)] [] (fm_mk S) r) (c4 : ¬ (143 + (S.1 232 2)) ≤ x6 → (f_M_movedBy x2 x4 (S.1 232 ((x6 + 6).toNatClampNeg)) (S.1 232 ((x6 + 12).toNatClampNeg)) (S.1 232 ((x6 + 18).toNatClampNeg)) 0) < 10 → ¬ x5 = 0 → (S.1 232 x6.toNatClampNeg) = x1 → ¬ (S.1 232 ((x6 + 24).toNatClampNeg)) = 1 → am_Ev (d + 1) k_M_cravings 20 [some (.ref 231), some (.int x1), some (.int x2), some (.int x3), some (.int x4), some (.int 1), some (.int (x6 + 1)), some (.int 0)] [] (fm_mk S) r) (c5 : ¬ (143 + (S.1 232 2)) ≤ x6 → (f_M_movedBy x2 x4 (S.1 232 ((x6 + 6).toNatClampNeg)) (S.1 232 ((x6 + 12).toNatClampNeg)) (S.1 232 ((x6 + 18).toNatClampNeg)) 0) < 10 → ¬ x5 = 0 → ¬ (S.1 232 x6.toNatClampNeg) = x1 → am_Ev (d + 1) k_M_cravings 20 [some (.ref 231), some (.int x1), some (.int x2), some (.int x3), some (.int x4), some (.int 1), some (.int (x6 + 1)), some (.int 0)] [] (fm_mk S) r) (c6 : ¬ (143 + (S.1 232 2)) ≤ x6 → ¬ (f_M_movedBy x2 x4 (S.1 232 ((x6 + 6).toNatClampNeg)) (S.1 232 ((x6 + 12).toNatClampNeg)) (S.1 232 ((x6 + 18).toNatClampNeg)) 0) < 10 → x5 = 0 → am_Ev (d + 1) k_M_cravings 20 [some (.ref 231), some (.int x1), some (.int x2), some (.int x3), some (.int x4), some (.int 0), some (.int (x6 + 1)), some (.int 1)] [] (fm_mk S) r) (c7 : ¬ (143 + (S.1 232 2)) ≤ x6 → ¬ (f_M_movedBy x2 x4 (S.1 232 ((x6 + 6).toNatClampNeg)) (S.1 232 ((x6 + 12).toNatClampNeg)) (S.1 232 ((x6 + 18).toNatClampNeg)) 0) < 10 → ¬ x5 = 0 → (S.1 232 x6.toNatClampNeg) = x1 → (S.1 232 ((x6 + 24).toNatClampNeg)) = 1 → am_Ev (d + 1) k_M_cravings 20 [some (.ref 231), some (.int x1), some (.int x2), some (.int x3), some (.int x4), some (.int 1), some (.int (x6 + 1)), some (.int 1)] [] (fm_mk S) r) (c8 : ¬ (143 + (S.1 232 2)) ≤ x6 → ¬ (f_M_movedBy x2 x4 (S.1 232 ((x6 + 6).toNatClampNeg)) (S.1 232 ((x6 + 12).toNatClampNeg)) (S.1 232 ((x6 + 18).toNatClampNeg)) 0) < 10 → ¬ x5 = 0 → (S.1 232 x6.toNatClampNeg) = x1 → ¬ (S.1 232 ((x6 + 24).toNatClampNeg)) = 1 → am_Ev (d + 1) k_M_cravings 20 [some (.ref 231), some (.int x1), some (.int x2), some (.int x3), some (.int x4), some (.int 0), some (.int (x6 + 1)), some (.int 1)] [] (fm_mk S) r) (c9 : ¬ (143 + (S.1 232 2)) ≤ x6 → ¬ (f_M_movedBy x2 x4 (S.1 232 ((x6 + 6).toNatClampNeg)) (S.1 232 ((x6 + 12).toNatClampNeg)) (S.1 232 ((x6 + 18).toNatClampNeg)) 0) < 10 → ¬ x5 = 0 → ¬ (S.1 232 x6.toNatClampNeg) = x1 → am_Ev (d + 1) k_M_cravings 20 [some (.ref 231), some (.int x1), some (.int x2), some (.int x3), some (.int x4), some (.int 1), some (.int (x6 + 1)), some (.int 1)] [] (fm_mk S) r) : am_Ev (d + 1) k_M_cravings 20 [some (.ref 231), some (.int x1), some (.int x2), some (.int x3), some (.int x4), some (.int x5), some (.int x6), o7] [] (fm_mk S) r := by
  refine b_M_cravings_20 (fun q1_ => ?_) (fun q1_ => ?_)
  · refine b_M_cravings_137 (fun q2_ => ?_) (fun q2_ => ?_)
    · refine b_M_cravings_150 ?_
      refine b_M_cravings_151 ?_
      exact c0 q1_ q2_
    · refine b_M_cravings_143 ?_
      refine b_M_cravings_151 ?_
      exact c1 q1_ q2_
  · refine b_M_cravings_35 (hs0 q1_) (hs1 q1_) (hs2 q1_) (s_M_movedBy (x0 := x2) (x1 := x4) (x2 := (S.1 232 ((x6 + 6).toNatClampNeg))) (x3 := (S.1 232 ((x6 + 12).toNatClampNeg))) (x4 := (S.1 232 ((x6 + 18).toNatClampNeg))) (x5 := 0) (S := S)) ?_
    refine b_M_cravings_72 (fun q3_ => ?_) (fun q3_ => ?_)
    · refine b_M_cravings_81 ?_
      refine b_M_cravings_82 (fun q4_ => ?_) (fun q4_ => ?_)
      · refine b_M_cravings_128 ?_
        refine b_M_cravings_129 ?_
        exact c2 q1_ q3_ q4_
      · refine b_M_cravings_89 (hs3 q1_ q3_ q4_) (fun q5_ => ?_) (fun q5_ => ?_)
        · refine b_M_cravings_124 ?_
          refine b_M_cravings_129 ?_
          exact c5 q1_ q3_ q4_ q5_
        · refine b_M_cravings_100 (hs4 q1_ q3_ q4_ q5_) (fun q6_ => ?_) (fun q6_ => ?_)
          · refine b_M_cravings_120 ?_
            refine b_M_cravings_121 (fun z => absurd z (by decide)) (fun _ => ?_)
            refine b_M_cravings_124 ?_
            refine b_M_cravings_129 ?_
            exact c4 q1_ q3_ q4_ q5_ q6_
          · refine b_M_cravings_116 ?_
            refine b_M_cravings_121 (fun _ => ?_) (fun z => absurd z (by decide))
            refine b_M_cravings_128 ?_
            refine b_M_cravings_129 ?_
            exact c3 q1_ q3_ q4_ q5_ q6_
    · refine b_M_cravings_77 ?_
      refine b_M_cravings_82 (fun q7_ => ?_) (fun q7_ => ?_)
      · refine b_M_cravings_128 ?_
        refine b_M_cravings_129 ?_
        exact c6 q1_ q3_ q7_
      · refine b_M_cravings_89 (hs5 q1_ q3_ q7_) (fun q8_ => ?_) (fun q8_ => ?_)
        · refine b_M_cravings_124 ?_
          refine b_M_cravings_129 ?_
          exact c9 q1_ q3_ q7_ q8_
        · refine b_M_cravings_100 (hs6 q1_ q3_ q7_ q8_) (fun q9_ => ?_) (fun q9_ => ?_)
          · refine b_M_cravings_120 ?_
            refine b_M_cravings_121 (fun _ => ?_) (fun z => absurd z (by decide))
            refine b_M_cravings_128 ?_
            refine b_M_cravings_129 ?_
            exact c8 q1_ q3_ q7_ q8_ q9_
          · refine b_M_cravings_116 ?_
            refine b_M_cravings_121 (fun z => absurd z (by decide)) (fun _ => ?_)
            refine b_M_cravings_124 ?_
            refine b_M_cravings_129 ?_
            exact c7 q1_ q3_ q7_ q8_ q9_
theorem w_M_openMany_0 {d : Nat} {o1 : Option Value} {o2 : Option Value} {S : fm_S} {r : Option Value × am_W} (c0 : am_Ev d k_M_openMany 4 [some (.ref 231), some (.int 0), some (.int 0)] [] (fm_mk S) r) : am_Ev d k_M_openMany 0 [some (.ref 231), o1, o2] [] (fm_mk S) r := by
  refine b_M_openMany_0 ?_
  exact c0
theorem w_M_openMany_4 {d : Nat} {x1 : Int32} {x2 : Int32} {S : fm_S} {r : Option Value × am_W} (hs0 : ¬ (S.1 232 0) ≤ x2 → vp_in (29 + x2) 373) (c0 : (S.1 232 0) ≤ x2 → r = (some (.int x1), fm_mk S)) (c1 : ¬ (S.1 232 0) ≤ x2 → (S.1 232 ((29 + x2).toNatClampNeg)) = (-1) → am_Ev d k_M_openMany 4 [some (.ref 231), some (.int (x1 + 0)), some (.int (x2 + 1))] [] (fm_mk S) r) (c2 : ¬ (S.1 232 0) ≤ x2 → ¬ (S.1 232 ((29 + x2).toNatClampNeg)) = (-1) → am_Ev d k_M_openMany 4 [some (.ref 231), some (.int (x1 + 1)), some (.int (x2 + 1))] [] (fm_mk S) r) : am_Ev d k_M_openMany 4 [some (.ref 231), some (.int x1), some (.int x2)] [] (fm_mk S) r := by
  refine b_M_openMany_4 (fun q1_ => ?_) (fun q1_ => ?_)
  · rw [c0 q1_]; exact b_M_openMany_41
  · refine b_M_openMany_14 (hs0 q1_) (fun q2_ => ?_) (fun q2_ => ?_)
    · refine b_M_openMany_32 ?_
      refine b_M_openMany_33 ?_
      exact c1 q1_ q2_
    · refine b_M_openMany_28 ?_
      refine b_M_openMany_33 ?_
      exact c2 q1_ q2_
theorem w_M_image_0 {d : Nat} {x1 : Int32} {o2 : Option Value} {S : fm_S} {r : Option Value × am_W} (c0 : (f_M_in x1.toInt64 0 1) = 0 → r = (some (.int f_M_bad), fm_mk (g_M_bad S))) (c1 : ¬ (f_M_in x1.toInt64 0 1) = 0 → am_Ev (d + 1) k_M_image 17 [some (.ref 231), some (.int x1), some (.int 0)] [] (fm_mk S) r) : am_Ev (d + 1) k_M_image 0 [some (.ref 231), some (.int x1), o2] [] (fm_mk S) r := by
  refine b_M_image_0 (s_M_in (y0 := x1.toInt64) (y2 := 0) (y4 := 1) (S := S)) ?_
  refine b_M_image_7 (fun q1_ => ?_) (fun q1_ => ?_)
  · refine b_M_image_15 ?_
    exact c1 q1_
  · refine b_M_image_10 (s_M_bad (S := S)) ?_
    rw [c0 q1_]; exact b_M_image_14
theorem w_M_image_17 {d : Nat} {x1 : Int32} {x2 : Int32} {S : fm_S} {r : Option Value × am_W} (hs0 : 373 ≤ x2 → vp_in x1 2) (hs1 : ¬ 373 ≤ x2 → vp_in x2 373) (hs2 : ¬ 373 ≤ x2 → vp_in ((373 * x1) + x2) 746) (c0 : 373 ≤ x2 → r = (some (.int 1), fm_mk (fm_wI S 235 x1.toNatClampNeg 1))) (c1 : ¬ 373 ≤ x2 → am_Ev d k_M_image 17 [some (.ref 231), some (.int x1), some (.int (x2 + 1))] [] (fm_mk (fm_wI S 234 (((373 * x1) + x2).toNatClampNeg) (S.1 232 x2.toNatClampNeg))) r) : am_Ev d k_M_image 17 [some (.ref 231), some (.int x1), some (.int x2)] [] (fm_mk S) r := by
  refine b_M_image_17 (fun q1_ => ?_) (fun q1_ => ?_)
  · rw [c0 q1_]; exact b_M_image_48 (hs0 q1_)
  · refine b_M_image_24 (hs1 q1_) (hs2 q1_) ?_
    exact c1 q1_
theorem w_M_from_0 {d : Nat} {x1 : Int32} {o2 : Option Value} {S : fm_S} {r : Option Value × am_W} (hs0 : ¬ (f_M_in x1.toInt64 0 1) = 0 → vp_in x1 2) (c0 : (f_M_in x1.toInt64 0 1) = 0 → r = (some (.int f_M_bad), fm_mk (g_M_bad S))) (c1 : ¬ (f_M_in x1.toInt64 0 1) = 0 → (S.1 235 x1.toNatClampNeg) = 0 → r = (some (.int f_M_no), fm_mk (g_M_no S))) (c2 : ¬ (f_M_in x1.toInt64 0 1) = 0 → ¬ (S.1 235 x1.toNatClampNeg) = 0 → am_Ev (d + 1) k_M_from 31 [some (.ref 231), some (.int x1), some (.int 0)] [] (fm_mk S) r) : am_Ev (d + 1) k_M_from 0 [some (.ref 231), some (.int x1), o2] [] (fm_mk S) r := by
  refine b_M_from_0 (s_M_in (y0 := x1.toInt64) (y2 := 0) (y4 := 1) (S := S)) ?_
  refine b_M_from_7 (fun q1_ => ?_) (fun q1_ => ?_)
  · refine b_M_from_15 (hs0 q1_) (fun q2_ => ?_) (fun q2_ => ?_)
    · refine b_M_from_29 ?_
      exact c2 q1_ q2_
    · refine b_M_from_24 (s_M_no (S := S)) ?_
      rw [c1 q1_ q2_]; exact b_M_from_28
  · refine b_M_from_10 (s_M_bad (S := S)) ?_
    rw [c0 q1_]; exact b_M_from_14
theorem w_M_from_31 {d : Nat} {x1 : Int32} {x2 : Int32} {S : fm_S} {r : Option Value × am_W} (hs0 : ¬ 373 ≤ x2 → vp_in ((373 * x1) + x2) 746) (hs1 : ¬ 373 ≤ x2 → vp_in x2 373) (c0 : 373 ≤ x2 → r = (some (.int 1), fm_mk S)) (c1 : ¬ 373 ≤ x2 → am_Ev d k_M_from 31 [some (.ref 231), some (.int x1), some (.int (x2 + 1))] [] (fm_mk (fm_wI S 232 x2.toNatClampNeg (S.1 234 (((373 * x1) + x2).toNatClampNeg)))) r) : am_Ev d k_M_from 31 [some (.ref 231), some (.int x1), some (.int x2)] [] (fm_mk S) r := by
  refine b_M_from_31 (fun q1_ => ?_) (fun q1_ => ?_)
  · rw [c0 q1_]; exact b_M_from_62
  · refine b_M_from_38 (hs0 q1_) (hs1 q1_) ?_
    exact c1 q1_
