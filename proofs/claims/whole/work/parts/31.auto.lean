/-! methods without loops: their answers and memories, printed by wip/whole/gen14.py -/
def f_X_count (S : fm_S) (x1 : Int32) : Int32 := if x1 = 0 then (S.1 1 0) else if x1 = 1 then (S.1 1 7) else if x1 = 2 then (S.1 17 0) else if x1 = 3 then (n_open S 17 (S.1 1 0).toNatClampNeg) else if x1 = 4 then (S.1 11 0) else if x1 = 5 then (S.1 1 14) else if x1 = 6 then (S.1 67 0) else f_X_bad
def g_X_count (S : fm_S) (x1 : Int32) : fm_S := if x1 = 0 then S else if x1 = 1 then S else if x1 = 2 then S else if x1 = 3 then S else if x1 = 4 then S else if x1 = 5 then S else if x1 = 6 then S else (g_X_bad S)
theorem s_X_count {d : Nat} {x1 : Int32} {S : fm_S} (hs0 : x1 = 3 → vp_in (S.1 1 0) 9) : am_Sp (d + 2) k_X_count [.ref 0, .int x1] (fm_mk S) (some (.int (f_X_count S x1))) (fm_mk (g_X_count S x1)) := by
  unfold f_X_count g_X_count
  refine sp_of (L := [some (.ref 0), some (.int x1)]) rfl (Nat.le_of_ble_eq_true rfl) (Nat.le_of_ble_eq_true rfl) ?_
  refine b_X_count_0 ?_ ?_ ?_ ?_ ?_ ?_ ?_ ?_
  · intro q1_
    simp only [if_pos q1_]
    exact b_X_count_44
  · intro q2_
    have n0_ : ¬ x1 = 0 := by rw [q2_]; decide
    simp only [if_neg n0_, if_pos q2_]
    exact b_X_count_52
  · intro q3_
    have n0_ : ¬ x1 = 0 := by rw [q3_]; decide
    have n1_ : ¬ x1 = 1 := by rw [q3_]; decide
    simp only [if_neg n0_, if_neg n1_, if_pos q3_]
    exact b_X_count_60
  · intro q4_
    have n0_ : ¬ x1 = 0 := by rw [q4_]; decide
    have n1_ : ¬ x1 = 1 := by rw [q4_]; decide
    have n2_ : ¬ x1 = 2 := by rw [q4_]; decide
    simp only [if_neg n0_, if_neg n1_, if_neg n2_, if_pos q4_]
    refine b_X_count_71 (s_Days_openOf_i (a0 := 17) (x1 := (S.1 1 0)) (S := S) (by decide +kernel) (hs0 q4_)) ?_
    exact b_X_count_88
  · intro q5_
    have n0_ : ¬ x1 = 0 := by rw [q5_]; decide
    have n1_ : ¬ x1 = 1 := by rw [q5_]; decide
    have n2_ : ¬ x1 = 2 := by rw [q5_]; decide
    have n3_ : ¬ x1 = 3 := by rw [q5_]; decide
    simp only [if_neg n0_, if_neg n1_, if_neg n2_, if_neg n3_, if_pos q5_]
    exact b_X_count_89
  · intro q6_
    have n0_ : ¬ x1 = 0 := by rw [q6_]; decide
    have n1_ : ¬ x1 = 1 := by rw [q6_]; decide
    have n2_ : ¬ x1 = 2 := by rw [q6_]; decide
    have n3_ : ¬ x1 = 3 := by rw [q6_]; decide
    have n4_ : ¬ x1 = 4 := by rw [q6_]; decide
    simp only [if_neg n0_, if_neg n1_, if_neg n2_, if_neg n3_, if_neg n4_, if_pos q6_]
    exact b_X_count_100
  · intro q7_
    have n0_ : ¬ x1 = 0 := by rw [q7_]; decide
    have n1_ : ¬ x1 = 1 := by rw [q7_]; decide
    have n2_ : ¬ x1 = 2 := by rw [q7_]; decide
    have n3_ : ¬ x1 = 3 := by rw [q7_]; decide
    have n4_ : ¬ x1 = 4 := by rw [q7_]; decide
    have n5_ : ¬ x1 = 5 := by rw [q7_]; decide
    simp only [if_neg n0_, if_neg n1_, if_neg n2_, if_neg n3_, if_neg n4_, if_neg n5_, if_pos q7_]
    exact b_X_count_108
  · intro q8_ q9_ q10_ q11_ q12_ q13_ q14_
    simp only [if_neg q8_, if_neg q9_, if_neg q10_, if_neg q11_, if_neg q12_, if_neg q13_, if_neg q14_]
    refine b_X_count_116 (s_X_bad (S := S)) ?_
    exact b_X_count_120
def f_M_town (S : fm_S) : Int32 := (S.1 232 0)
def g_M_town (S : fm_S) : fm_S := (m_first S 232 4)
theorem s_M_town {d : Nat} {S : fm_S} : am_Sp (d + 1) k_M_town [.ref 231] (fm_mk S) (some (.int (f_M_town S))) (fm_mk (g_M_town S)) := by
  unfold f_M_town g_M_town
  refine sp_of (L := [some (.ref 231), none]) rfl (Nat.le_of_ble_eq_true rfl) (Nat.le_of_ble_eq_true rfl) ?_
  refine b_M_town_0 (s_M_first (a0 := 232) (S := S) (by decide +kernel) (by decide +kernel)) ?_
  exact b_M_town_14
def f_M_undo (S : fm_S) : Int32 := if (S.1 232 3) = 0 then f_M_no else ((g_past (fm_wI S 232 3 ((S.1 232 3) - 1)) 232 232 (173 + (25 * ((fm_wI S 232 3 ((S.1 232 3) - 1)).1 232 3))) 1).1 232 4)
def g_M_undo (S : fm_S) : fm_S := if (S.1 232 3) = 0 then (g_M_no S) else (g_past (fm_wI S 232 3 ((S.1 232 3) - 1)) 232 232 (173 + (25 * ((fm_wI S 232 3 ((S.1 232 3) - 1)).1 232 3))) 1)
theorem s_M_undo {d : Nat} {S : fm_S} (hs0 : ¬ (S.1 232 3) = 0 → ¬ (173 + (25 * ((fm_wI S 232 3 ((S.1 232 3) - 1)).1 232 3))) < 0) (hs1 : ¬ (S.1 232 3) = 0 → 232 ≠ 232 ∨ 53 ≤ (173 + (25 * ((fm_wI S 232 3 ((S.1 232 3) - 1)).1 232 3))).toNatClampNeg) (hs2 : ¬ (S.1 232 3) = 0 → (173 + (25 * ((fm_wI S 232 3 ((S.1 232 3) - 1)).1 232 3))).toNatClampNeg + 25 ≤ (if 1 = 0 then fm_ln 232 else fm_ln 232) ∧ 53 ≤ (if 1 = 0 then fm_ln 232 else fm_ln 232)) : am_Sp (d + 1) k_M_undo [.ref 231] (fm_mk S) (some (.int (f_M_undo S))) (fm_mk (g_M_undo S)) := by
  unfold f_M_undo g_M_undo
  refine sp_of (L := [some (.ref 231)]) rfl (Nat.le_of_ble_eq_true rfl) (Nat.le_of_ble_eq_true rfl) ?_
  refine b_M_undo_0 (fun q1_ => ?_) (fun q1_ => ?_)
  · simp only [if_neg q1_]
    refine b_M_undo_14 (s_M_past (a0 := 232) (a1 := 232) (x2 := (173 + (25 * ((fm_wI S 232 3 ((S.1 232 3) - 1)).1 232 3)))) (x3 := 1) (S := (fm_wI S 232 3 ((S.1 232 3) - 1))) (by decide +kernel) (by decide +kernel) (hs0 q1_) (hs1 q1_) (hs2 q1_)) ?_
    exact b_M_undo_49
  · simp only [if_pos q1_]
    refine b_M_undo_9 (s_M_no (S := S)) ?_
    exact b_M_undo_13
def f_M_countOf (S : fm_S) (x1 : Int32) : Int32 := if x1 = 0 then (S.1 232 0) else if x1 = 1 then (S.1 232 1) else if x1 = 2 then (S.1 232 4) else if x1 = 3 then (n_M_openMany S (((S.1 232 0)).toNatClampNeg)) else if x1 = 4 then (S.1 232 2) else if x1 = 5 then (S.1 232 3) else (S.1 231 5)
theorem s_M_countOf {d : Nat} {x1 : Int32} {S : fm_S} (hs0 : x1 = 3 → vp_in (S.1 232 0) 9) : am_Sp (d + 1) k_M_countOf [.ref 231, .int x1] (fm_mk S) (some (.int (f_M_countOf S x1))) (fm_mk S) := by
  unfold f_M_countOf
  refine sp_of (L := [some (.ref 231), some (.int x1)]) rfl (Nat.le_of_ble_eq_true rfl) (Nat.le_of_ble_eq_true rfl) ?_
  refine b_M_countOf_0 ?_ ?_ ?_ ?_ ?_ ?_ ?_
  · intro q1_
    simp only [if_pos q1_]
    exact b_M_countOf_40
  · intro q2_
    have n0_ : ¬ x1 = 0 := by rw [q2_]; decide
    simp only [if_neg n0_, if_pos q2_]
    exact b_M_countOf_47
  · intro q3_
    have n0_ : ¬ x1 = 0 := by rw [q3_]; decide
    have n1_ : ¬ x1 = 1 := by rw [q3_]; decide
    simp only [if_neg n0_, if_neg n1_, if_pos q3_]
    exact b_M_countOf_54
  · intro q4_
    have n0_ : ¬ x1 = 0 := by rw [q4_]; decide
    have n1_ : ¬ x1 = 1 := by rw [q4_]; decide
    have n2_ : ¬ x1 = 2 := by rw [q4_]; decide
    simp only [if_neg n0_, if_neg n1_, if_neg n2_, if_pos q4_]
    refine b_M_countOf_61 (s_M_openMany (S := S) (hs0 q4_)) ?_
    exact b_M_countOf_65
  · intro q5_
    have n0_ : ¬ x1 = 0 := by rw [q5_]; decide
    have n1_ : ¬ x1 = 1 := by rw [q5_]; decide
    have n2_ : ¬ x1 = 2 := by rw [q5_]; decide
    have n3_ : ¬ x1 = 3 := by rw [q5_]; decide
    simp only [if_neg n0_, if_neg n1_, if_neg n2_, if_neg n3_, if_pos q5_]
    exact b_M_countOf_66
  · intro q6_
    have n0_ : ¬ x1 = 0 := by rw [q6_]; decide
    have n1_ : ¬ x1 = 1 := by rw [q6_]; decide
    have n2_ : ¬ x1 = 2 := by rw [q6_]; decide
    have n3_ : ¬ x1 = 3 := by rw [q6_]; decide
    have n4_ : ¬ x1 = 4 := by rw [q6_]; decide
    simp only [if_neg n0_, if_neg n1_, if_neg n2_, if_neg n3_, if_neg n4_, if_pos q6_]
    exact b_M_countOf_73
  · intro q7_ q8_ q9_ q10_ q11_ q12_
    simp only [if_neg q7_, if_neg q8_, if_neg q9_, if_neg q10_, if_neg q11_, if_neg q12_]
    exact b_M_countOf_80
def f_M_count (S : fm_S) (x1 : Int32) : Int32 := if (f_M_in x1.toInt64 0 6) = 0 then f_M_bad else (f_M_countOf S x1)
def g_M_count (S : fm_S) (x1 : Int32) : fm_S := if (f_M_in x1.toInt64 0 6) = 0 then (g_M_bad S) else S
theorem s_M_count {d : Nat} {x1 : Int32} {S : fm_S} (hs0 : ¬ (f_M_in x1.toInt64 0 6) = 0 → x1 = 3 → vp_in (S.1 232 0) 9) : am_Sp (d + 2) k_M_count [.ref 231, .int x1] (fm_mk S) (some (.int (f_M_count S x1))) (fm_mk (g_M_count S x1)) := by
  unfold f_M_count g_M_count
  refine sp_of (L := [some (.ref 231), some (.int x1)]) rfl (Nat.le_of_ble_eq_true rfl) (Nat.le_of_ble_eq_true rfl) ?_
  refine b_M_count_0 (s_M_in (y0 := x1.toInt64) (y2 := 0) (y4 := 6) (S := S)) ?_
  refine b_M_count_9 (fun q1_ => ?_) (fun q1_ => ?_)
  · simp only [if_pos q1_]
    refine b_M_count_20 (s_M_bad (S := S)) ?_
    exact b_M_count_24
  · simp only [if_neg q1_]
    refine b_M_count_12 (s_M_countOf (x1 := x1) (S := S) (hs0 q1_)) ?_
    refine b_M_count_17 ?_
    exact b_M_count_24
