/-! methods without loops: their answers and memories, printed by wip/whole/gen14.py -/
def f_X_within (x0 : Int32) (x1 : Int32) (x2 : Int32) : Int32 := if x0 < x1 then 0 else if x2 < x0 then 0 else 1
theorem fb_X_within (x0 : Int32) (x1 : Int32) (x2 : Int32) : (f_X_within x0 x1 x2) = 0 ∨ (f_X_within x0 x1 x2) = 1 := by
  unfold f_X_within
  repeat' split
  all_goals first | exact Or.inl rfl | exact Or.inr rfl
theorem s_X_within {d : Nat} {x0 : Int32} {x1 : Int32} {x2 : Int32} {S : fm_S} : am_Sp d k_X_within [.int x0, .int x1, .int x2] (fm_mk S) (some (.int (f_X_within x0 x1 x2))) (fm_mk S) := by
  unfold f_X_within
  refine sp_of (L := [some (.int x0), some (.int x1), some (.int x2)]) rfl (Nat.le_of_ble_eq_true rfl) (Nat.le_of_ble_eq_true rfl) ?_
  refine b_X_within_0 (fun q1_ => ?_) (fun q1_ => ?_)
  · simp only [if_pos q1_]
    refine b_X_within_14 ?_
    exact b_X_within_15 (by decide)
  · simp only [if_neg q1_]
    refine b_X_within_5 (fun q2_ => ?_) (fun q2_ => ?_)
    · simp only [if_pos q2_]
      refine b_X_within_14 ?_
      exact b_X_within_15 (by decide)
    · simp only [if_neg q2_]
      refine b_X_within_10 ?_
      exact b_X_within_15 (by decide)
def f_X_bad : Int32 := (-2)
def g_X_bad (S : fm_S) : fm_S := (fm_wI S 0 6 ((S.1 0 6) + 1))
theorem s_X_bad {d : Nat} {S : fm_S} : am_Sp d k_X_bad [.ref 0] (fm_mk S) (some (.int f_X_bad)) (fm_mk (g_X_bad S)) := by
  unfold f_X_bad g_X_bad
  refine sp_of (L := [some (.ref 0)]) rfl (Nat.le_of_ble_eq_true rfl) (Nat.le_of_ble_eq_true rfl) ?_
  exact b_X_bad_0
def f_Town_addStreet (S : fm_S) (a0 : Nat) (x1 : Int32) (x2 : Int32) (x3 : Int32) : Int32 := if (S.1 a0 0) < 8 then (S.1 a0 0) else (-1)
def g_Town_addStreet (S : fm_S) (a0 : Nat) (x1 : Int32) (x2 : Int32) (x3 : Int32) : fm_S := if (S.1 a0 0) < 8 then (fm_wI (fm_wI (fm_wI (fm_wI (fm_wI S (a0 + 1) ((S.1 a0 0).toNatClampNeg) x1) (a0 + 2) ((S.1 a0 0).toNatClampNeg) x2) (a0 + 3) ((S.1 a0 0).toNatClampNeg) x3) a0 0 (((fm_wI (fm_wI (fm_wI S (a0 + 1) ((S.1 a0 0).toNatClampNeg) x1) (a0 + 2) ((S.1 a0 0).toNatClampNeg) x2) (a0 + 3) ((S.1 a0 0).toNatClampNeg) x3).1 a0 0) + 1)) a0 14 0) else S
theorem s_Town_addStreet {d : Nat} {a0 : Nat} {x1 : Int32} {x2 : Int32} {x3 : Int32} {S : fm_S} (hs0 : fm_tg a0 = 6) (hs1 : (S.1 a0 0) < 8 → vp_in (S.1 a0 0) 8) : am_Sp d k_Town_addStreet [.ref a0, .int x1, .int x2, .int x3] (fm_mk S) (some (.int (f_Town_addStreet S a0 x1 x2 x3))) (fm_mk (g_Town_addStreet S a0 x1 x2 x3)) := by
  unfold f_Town_addStreet g_Town_addStreet
  refine sp_of (L := [some (.ref a0), some (.int x1), some (.int x2), some (.int x3), none]) rfl (Nat.le_of_ble_eq_true rfl) (Nat.le_of_ble_eq_true rfl) ?_
  refine b_Town_addStreet_0 hs0 (fun q1_ => ?_) (fun q1_ => ?_)
  · simp only [if_pos q1_]
    exact b_Town_addStreet_11 hs0 (hs1 q1_)
  · simp only [if_neg q1_]
    exact b_Town_addStreet_9
def f_X_full : Int32 := (-4)
def g_X_full (S : fm_S) : fm_S := (fm_wI S 0 8 ((S.1 0 8) + 1))
theorem s_X_full {d : Nat} {S : fm_S} : am_Sp d k_X_full [.ref 0] (fm_mk S) (some (.int f_X_full)) (fm_mk (g_X_full S)) := by
  unfold f_X_full g_X_full
  refine sp_of (L := [some (.ref 0)]) rfl (Nat.le_of_ble_eq_true rfl) (Nat.le_of_ble_eq_true rfl) ?_
  exact b_X_full_0
def f_X_isStreet (S : fm_S) (x1 : Int32) : Int32 := (f_X_within x1 0 ((S.1 1 0) - 1))
theorem fb_X_isStreet (S : fm_S) (x1 : Int32) : (f_X_isStreet S x1) = 0 ∨ (f_X_isStreet S x1) = 1 := by
  unfold f_X_isStreet
  repeat' split
  all_goals first | exact Or.inl rfl | exact Or.inr rfl | exact fb_X_within ..
theorem s_X_isStreet {d : Nat} {x1 : Int32} {S : fm_S} : am_Sp (d + 1) k_X_isStreet [.ref 0, .int x1] (fm_mk S) (some (.int (f_X_isStreet S x1))) (fm_mk S) := by
  unfold f_X_isStreet
  refine sp_of (L := [some (.ref 0), some (.int x1)]) rfl (Nat.le_of_ble_eq_true rfl) (Nat.le_of_ble_eq_true rfl) ?_
  refine b_X_isStreet_0 (s_X_within (x0 := x1) (x1 := 0) (x2 := ((S.1 1 0) - 1)) (S := S)) ?_
  exact b_X_isStreet_14 (fb_X_within x1 0 ((S.1 1 0) - 1))
def f_X_has (x0 : Int32) (x1 : Int32) : Int32 := if ((x0 >>> (x1 &&& 31)) &&& 1) = 1 then 1 else 0
theorem fb_X_has (x0 : Int32) (x1 : Int32) : (f_X_has x0 x1) = 0 ∨ (f_X_has x0 x1) = 1 := by
  unfold f_X_has
  repeat' split
  all_goals first | exact Or.inl rfl | exact Or.inr rfl
theorem s_X_has {d : Nat} {x0 : Int32} {x1 : Int32} {S : fm_S} : am_Sp d k_X_has [.int x0, .int x1] (fm_mk S) (some (.int (f_X_has x0 x1))) (fm_mk S) := by
  unfold f_X_has
  refine sp_of (L := [some (.int x0), some (.int x1)]) rfl (Nat.le_of_ble_eq_true rfl) (Nat.le_of_ble_eq_true rfl) ?_
  refine b_X_has_0 (fun q1_ => ?_) (fun q1_ => ?_)
  · simp only [if_neg q1_]
    refine b_X_has_13 ?_
    exact b_X_has_14 (by decide)
  · simp only [if_pos q1_]
    refine b_X_has_9 ?_
    exact b_X_has_14 (by decide)
def f_X_no : Int32 := (-3)
def g_X_no (S : fm_S) : fm_S := (fm_wI S 0 7 ((S.1 0 7) + 1))
theorem s_X_no {d : Nat} {S : fm_S} : am_Sp d k_X_no [.ref 0] (fm_mk S) (some (.int f_X_no)) (fm_mk (g_X_no S)) := by
  unfold f_X_no g_X_no
  refine sp_of (L := [some (.ref 0)]) rfl (Nat.le_of_ble_eq_true rfl) (Nat.le_of_ble_eq_true rfl) ?_
  exact b_X_no_0
def g_Town_addLane (S : fm_S) (a0 : Nat) (x1 : Int32) (x2 : Int32) : fm_S := (fm_wI (fm_wI S (a0 + 4) x1.toNatClampNeg ((S.1 (a0 + 4) x1.toNatClampNeg) ||| (1 <<< (x2 &&& 31)))) (a0 + 4) x2.toNatClampNeg (((fm_wI S (a0 + 4) x1.toNatClampNeg ((S.1 (a0 + 4) x1.toNatClampNeg) ||| (1 <<< (x2 &&& 31)))).1 (a0 + 4) x2.toNatClampNeg) ||| (1 <<< (x1 &&& 31))))
theorem s_Town_addLane {d : Nat} {a0 : Nat} {x1 : Int32} {x2 : Int32} {S : fm_S} (hs0 : fm_tg a0 = 6) (hs1 : vp_in x1 8) (hs2 : vp_in x2 8) : am_Sp d k_Town_addLane [.ref a0, .int x1, .int x2] (fm_mk S) (none) (fm_mk (g_Town_addLane S a0 x1 x2)) := by
  unfold g_Town_addLane
  refine sp_of (L := [some (.ref a0), some (.int x1), some (.int x2)]) rfl (Nat.le_of_ble_eq_true rfl) (Nat.le_of_ble_eq_true rfl) ?_
  exact b_Town_addLane_0 hs0 hs1 hs2
def f_X_isWind (x0 : Int32) : Int32 := (f_X_within x0 0 3)
theorem fb_X_isWind (x0 : Int32) : (f_X_isWind x0) = 0 ∨ (f_X_isWind x0) = 1 := by
  unfold f_X_isWind
  repeat' split
  all_goals first | exact Or.inl rfl | exact Or.inr rfl | exact fb_X_within ..
theorem s_X_isWind {d : Nat} {x0 : Int32} {S : fm_S} : am_Sp (d + 1) k_X_isWind [.int x0] (fm_mk S) (some (.int (f_X_isWind x0))) (fm_mk S) := by
  unfold f_X_isWind
  refine sp_of (L := [some (.int x0)]) rfl (Nat.le_of_ble_eq_true rfl) (Nat.le_of_ble_eq_true rfl) ?_
  refine b_X_isWind_0 (s_X_within (x0 := x0) (x1 := 0) (x2 := 3) (S := S)) ?_
  exact b_X_isWind_6 (fb_X_within x0 0 3)
def f_X_wind (S : fm_S) (x1 : Int32) (x2 : Int32) : Int32 := if (f_X_isWind x1) = 0 then f_X_bad else if (f_X_isWind x2) = 0 then f_X_bad else (S.1 7 x1.toNatClampNeg)
def g_X_wind (S : fm_S) (x1 : Int32) (x2 : Int32) : fm_S := if (f_X_isWind x1) = 0 then (g_X_bad S) else if (f_X_isWind x2) = 0 then (g_X_bad S) else (fm_wI S 7 x1.toNatClampNeg x2)
theorem s_X_wind {d : Nat} {x1 : Int32} {x2 : Int32} {S : fm_S} (hs0 : ¬ (f_X_isWind x1) = 0 → ¬ (f_X_isWind x2) = 0 → vp_in x1 4) : am_Sp (d + 2) k_X_wind [.ref 0, .int x1, .int x2] (fm_mk S) (some (.int (f_X_wind S x1 x2))) (fm_mk (g_X_wind S x1 x2)) := by
  unfold f_X_wind g_X_wind
  refine sp_of (L := [some (.ref 0), some (.int x1), some (.int x2), none]) rfl (Nat.le_of_ble_eq_true rfl) (Nat.le_of_ble_eq_true rfl) ?_
  refine b_X_wind_0 (s_X_isWind (x0 := x1) (S := S)) ?_
  refine b_X_wind_4 (fun q1_ => ?_) (fun q1_ => ?_)
  · simp only [if_pos q1_]
    refine b_X_wind_14 (s_X_bad (S := S)) ?_
    exact b_X_wind_18
  · simp only [if_neg q1_]
    refine b_X_wind_7 (s_X_isWind (x0 := x2) (S := S)) ?_
    refine b_X_wind_11 (fun q2_ => ?_) (fun q2_ => ?_)
    · simp only [if_neg q2_]
      exact b_X_wind_19 (hs0 q1_ q2_)
    · simp only [if_pos q2_]
      refine b_X_wind_14 (s_X_bad (S := S)) ?_
      exact b_X_wind_18
def f_Town_addDish (S : fm_S) (a0 : Nat) (x1 : Int32) (x2 : Int32) (x3 : Int32) : Int32 := if (S.1 a0 7) < 6 then (S.1 a0 7) else (-1)
def g_Town_addDish (S : fm_S) (a0 : Nat) (x1 : Int32) (x2 : Int32) (x3 : Int32) : fm_S := if (S.1 a0 7) < 6 then (fm_wI (fm_wI (fm_wI (fm_wI S (a0 + 7) ((S.1 a0 7).toNatClampNeg) x1) (a0 + 8) ((S.1 a0 7).toNatClampNeg) x2) (a0 + 9) ((S.1 a0 7).toNatClampNeg) x3) a0 7 (((fm_wI (fm_wI (fm_wI S (a0 + 7) ((S.1 a0 7).toNatClampNeg) x1) (a0 + 8) ((S.1 a0 7).toNatClampNeg) x2) (a0 + 9) ((S.1 a0 7).toNatClampNeg) x3).1 a0 7) + 1)) else S
theorem s_Town_addDish {d : Nat} {a0 : Nat} {x1 : Int32} {x2 : Int32} {x3 : Int32} {S : fm_S} (hs0 : fm_tg a0 = 6) (hs1 : (S.1 a0 7) < 6 → vp_in (S.1 a0 7) 6) : am_Sp d k_Town_addDish [.ref a0, .int x1, .int x2, .int x3] (fm_mk S) (some (.int (f_Town_addDish S a0 x1 x2 x3))) (fm_mk (g_Town_addDish S a0 x1 x2 x3)) := by
  unfold f_Town_addDish g_Town_addDish
  refine sp_of (L := [some (.ref a0), some (.int x1), some (.int x2), some (.int x3), none]) rfl (Nat.le_of_ble_eq_true rfl) (Nat.le_of_ble_eq_true rfl) ?_
  refine b_Town_addDish_0 hs0 (fun q1_ => ?_) (fun q1_ => ?_)
  · simp only [if_pos q1_]
    exact b_Town_addDish_11 hs0 (hs1 q1_)
  · simp only [if_neg q1_]
    exact b_Town_addDish_9
def f_Reader_put (S : fm_S) (x1 : Int32) : Int32 := if (S.1 67 0) < 150 then ((fm_wI (fm_wI S 121 ((S.1 67 0).toNatClampNeg) x1) 67 0 (((fm_wI S 121 ((S.1 67 0).toNatClampNeg) x1).1 67 0) + 1)).1 67 0) else (-1)
def g_Reader_put (S : fm_S) (x1 : Int32) : fm_S := if (S.1 67 0) < 150 then (fm_wI (fm_wI S 121 ((S.1 67 0).toNatClampNeg) x1) 67 0 (((fm_wI S 121 ((S.1 67 0).toNatClampNeg) x1).1 67 0) + 1)) else S
theorem s_Reader_put {d : Nat} {x1 : Int32} {S : fm_S} (hs0 : (S.1 67 0) < 150 → vp_in (S.1 67 0) 150) : am_Sp d k_Reader_put [.ref 67, .int x1] (fm_mk S) (some (.int (f_Reader_put S x1))) (fm_mk (g_Reader_put S x1)) := by
  unfold f_Reader_put g_Reader_put
  refine sp_of (L := [some (.ref 67), some (.int x1)]) rfl (Nat.le_of_ble_eq_true rfl) (Nat.le_of_ble_eq_true rfl) ?_
  refine b_Reader_put_0 (fun q1_ => ?_) (fun q1_ => ?_)
  · simp only [if_pos q1_]
    exact b_Reader_put_12 (hs0 q1_)
  · simp only [if_neg q1_]
    exact b_Reader_put_10
def f_X_clear (S : fm_S) : Int32 := (S.1 67 0)
def g_X_clear (S : fm_S) : fm_S := (fm_wI S 67 0 0)
theorem s_X_clear {d : Nat} {S : fm_S} : am_Sp d k_X_clear [.ref 0] (fm_mk S) (some (.int (f_X_clear S))) (fm_mk (g_X_clear S)) := by
  unfold f_X_clear g_X_clear
  refine sp_of (L := [some (.ref 0), none]) rfl (Nat.le_of_ble_eq_true rfl) (Nat.le_of_ble_eq_true rfl) ?_
  exact b_X_clear_0
def f_Reader_isLetter (x0 : Int32) : Int32 := if x0 < 97 then 0 else if 122 < x0 then 0 else 1
theorem fb_Reader_isLetter (x0 : Int32) : (f_Reader_isLetter x0) = 0 ∨ (f_Reader_isLetter x0) = 1 := by
  unfold f_Reader_isLetter
  repeat' split
  all_goals first | exact Or.inl rfl | exact Or.inr rfl
theorem s_Reader_isLetter {d : Nat} {x0 : Int32} {S : fm_S} : am_Sp d k_Reader_isLetter [.int x0] (fm_mk S) (some (.int (f_Reader_isLetter x0))) (fm_mk S) := by
  unfold f_Reader_isLetter
  refine sp_of (L := [some (.int x0)]) rfl (Nat.le_of_ble_eq_true rfl) (Nat.le_of_ble_eq_true rfl) ?_
  refine b_Reader_isLetter_0 (fun q1_ => ?_) (fun q1_ => ?_)
  · simp only [if_pos q1_]
    refine b_Reader_isLetter_16 ?_
    exact b_Reader_isLetter_17 (by decide)
  · simp only [if_neg q1_]
    refine b_Reader_isLetter_6 (fun q2_ => ?_) (fun q2_ => ?_)
    · simp only [if_pos q2_]
      refine b_Reader_isLetter_16 ?_
      exact b_Reader_isLetter_17 (by decide)
    · simp only [if_neg q2_]
      refine b_Reader_isLetter_12 ?_
      exact b_Reader_isLetter_17 (by decide)
def f_Reader_isFigure (x0 : Int32) : Int32 := if x0 < 48 then 0 else if 57 < x0 then 0 else 1
theorem fb_Reader_isFigure (x0 : Int32) : (f_Reader_isFigure x0) = 0 ∨ (f_Reader_isFigure x0) = 1 := by
  unfold f_Reader_isFigure
  repeat' split
  all_goals first | exact Or.inl rfl | exact Or.inr rfl
theorem s_Reader_isFigure {d : Nat} {x0 : Int32} {S : fm_S} : am_Sp d k_Reader_isFigure [.int x0] (fm_mk S) (some (.int (f_Reader_isFigure x0))) (fm_mk S) := by
  unfold f_Reader_isFigure
  refine sp_of (L := [some (.int x0)]) rfl (Nat.le_of_ble_eq_true rfl) (Nat.le_of_ble_eq_true rfl) ?_
  refine b_Reader_isFigure_0 (fun q1_ => ?_) (fun q1_ => ?_)
  · simp only [if_pos q1_]
    refine b_Reader_isFigure_16 ?_
    exact b_Reader_isFigure_17 (by decide)
  · simp only [if_neg q1_]
    refine b_Reader_isFigure_6 (fun q2_ => ?_) (fun q2_ => ?_)
    · simp only [if_pos q2_]
      refine b_Reader_isFigure_16 ?_
      exact b_Reader_isFigure_17 (by decide)
    · simp only [if_neg q2_]
      refine b_Reader_isFigure_12 ?_
      exact b_Reader_isFigure_17 (by decide)
def f_Reader_mayStand (S : fm_S) (x1 : Int32) : Int32 := if x1 = 0 then 0 else if x1 = 1 then (if (S.1 67 1) = 0 then 1 else 0) else if x1 = 2 then (if (S.1 67 1) ≤ 0 then 0 else if 8 ≤ (S.1 68 0) then 0 else 1) else if x1 = 3 then (if (S.1 67 1) ≤ 0 then 0 else 1) else if x1 = 4 then (if (S.1 67 1) ≤ 0 then 0 else 1) else if x1 = 5 then (if (S.1 67 1) ≤ 0 then 0 else 1) else if x1 = 6 then (if (S.1 67 1) ≤ 0 then 0 else if 6 ≤ (S.1 68 7) then 0 else 1) else if (S.1 67 1) ≤ 0 then 0 else 1
theorem fb_Reader_mayStand (S : fm_S) (x1 : Int32) : (f_Reader_mayStand S x1) = 0 ∨ (f_Reader_mayStand S x1) = 1 := by
  unfold f_Reader_mayStand
  repeat' split
  all_goals first | exact Or.inl rfl | exact Or.inr rfl
theorem s_Reader_mayStand {d : Nat} {x1 : Int32} {S : fm_S} : am_Sp d k_Reader_mayStand [.ref 67, .int x1] (fm_mk S) (some (.int (f_Reader_mayStand S x1))) (fm_mk S) := by
  unfold f_Reader_mayStand
  refine sp_of (L := [some (.ref 67), some (.int x1)]) rfl (Nat.le_of_ble_eq_true rfl) (Nat.le_of_ble_eq_true rfl) ?_
  refine b_Reader_mayStand_0 ?_ ?_ ?_ ?_ ?_ ?_ ?_ ?_
  · intro q1_
    simp only [if_pos q1_]
    exact b_Reader_mayStand_44
  · intro q2_
    have n0_ : ¬ x1 = 0 := by rw [q2_]; decide
    simp only [if_neg n0_, if_pos q2_]
    refine b_Reader_mayStand_46 (fun q3_ => ?_) (fun q3_ => ?_)
    · simp only [if_neg q3_]
      refine b_Reader_mayStand_57 ?_
      exact b_Reader_mayStand_58 (by decide)
    · simp only [if_pos q3_]
      refine b_Reader_mayStand_53 ?_
      exact b_Reader_mayStand_58 (by decide)
  · intro q4_
    have n0_ : ¬ x1 = 0 := by rw [q4_]; decide
    have n1_ : ¬ x1 = 1 := by rw [q4_]; decide
    simp only [if_neg n0_, if_neg n1_, if_pos q4_]
    refine b_Reader_mayStand_59 (fun q5_ => ?_) (fun q5_ => ?_)
    · simp only [if_pos q5_]
      refine b_Reader_mayStand_82 ?_
      exact b_Reader_mayStand_83 (by decide)
    · simp only [if_neg q5_]
      refine b_Reader_mayStand_66 (fun q6_ => ?_) (fun q6_ => ?_)
      · simp only [if_pos q6_]
        refine b_Reader_mayStand_82 ?_
        exact b_Reader_mayStand_83 (by decide)
      · simp only [if_neg q6_]
        refine b_Reader_mayStand_78 ?_
        exact b_Reader_mayStand_83 (by decide)
  · intro q7_
    have n0_ : ¬ x1 = 0 := by rw [q7_]; decide
    have n1_ : ¬ x1 = 1 := by rw [q7_]; decide
    have n2_ : ¬ x1 = 2 := by rw [q7_]; decide
    simp only [if_neg n0_, if_neg n1_, if_neg n2_, if_pos q7_]
    refine b_Reader_mayStand_109 (fun q8_ => ?_) (fun q8_ => ?_)
    · simp only [if_pos q8_]
      refine b_Reader_mayStand_120 ?_
      exact b_Reader_mayStand_121 (by decide)
    · simp only [if_neg q8_]
      refine b_Reader_mayStand_116 ?_
      exact b_Reader_mayStand_121 (by decide)
  · intro q9_
    have n0_ : ¬ x1 = 0 := by rw [q9_]; decide
    have n1_ : ¬ x1 = 1 := by rw [q9_]; decide
    have n2_ : ¬ x1 = 2 := by rw [q9_]; decide
    have n3_ : ¬ x1 = 3 := by rw [q9_]; decide
    simp only [if_neg n0_, if_neg n1_, if_neg n2_, if_neg n3_, if_pos q9_]
    refine b_Reader_mayStand_109 (fun q10_ => ?_) (fun q10_ => ?_)
    · simp only [if_pos q10_]
      refine b_Reader_mayStand_120 ?_
      exact b_Reader_mayStand_121 (by decide)
    · simp only [if_neg q10_]
      refine b_Reader_mayStand_116 ?_
      exact b_Reader_mayStand_121 (by decide)
  · intro q11_
    have n0_ : ¬ x1 = 0 := by rw [q11_]; decide
    have n1_ : ¬ x1 = 1 := by rw [q11_]; decide
    have n2_ : ¬ x1 = 2 := by rw [q11_]; decide
    have n3_ : ¬ x1 = 3 := by rw [q11_]; decide
    have n4_ : ¬ x1 = 4 := by rw [q11_]; decide
    simp only [if_neg n0_, if_neg n1_, if_neg n2_, if_neg n3_, if_neg n4_, if_pos q11_]
    refine b_Reader_mayStand_109 (fun q12_ => ?_) (fun q12_ => ?_)
    · simp only [if_pos q12_]
      refine b_Reader_mayStand_120 ?_
      exact b_Reader_mayStand_121 (by decide)
    · simp only [if_neg q12_]
      refine b_Reader_mayStand_116 ?_
      exact b_Reader_mayStand_121 (by decide)
  · intro q13_
    have n0_ : ¬ x1 = 0 := by rw [q13_]; decide
    have n1_ : ¬ x1 = 1 := by rw [q13_]; decide
    have n2_ : ¬ x1 = 2 := by rw [q13_]; decide
    have n3_ : ¬ x1 = 3 := by rw [q13_]; decide
    have n4_ : ¬ x1 = 4 := by rw [q13_]; decide
    have n5_ : ¬ x1 = 5 := by rw [q13_]; decide
    simp only [if_neg n0_, if_neg n1_, if_neg n2_, if_neg n3_, if_neg n4_, if_neg n5_, if_pos q13_]
    refine b_Reader_mayStand_84 (fun q14_ => ?_) (fun q14_ => ?_)
    · simp only [if_pos q14_]
      refine b_Reader_mayStand_107 ?_
      exact b_Reader_mayStand_108 (by decide)
    · simp only [if_neg q14_]
      refine b_Reader_mayStand_91 (fun q15_ => ?_) (fun q15_ => ?_)
      · simp only [if_pos q15_]
        refine b_Reader_mayStand_107 ?_
        exact b_Reader_mayStand_108 (by decide)
      · simp only [if_neg q15_]
        refine b_Reader_mayStand_103 ?_
        exact b_Reader_mayStand_108 (by decide)
  · intro q16_ q17_ q18_ q19_ q20_ q21_ q22_
    simp only [if_neg q16_, if_neg q17_, if_neg q18_, if_neg q19_, if_neg q20_, if_neg q21_, if_neg q22_]
    refine b_Reader_mayStand_109 (fun q23_ => ?_) (fun q23_ => ?_)
    · simp only [if_pos q23_]
      refine b_Reader_mayStand_120 ?_
      exact b_Reader_mayStand_121 (by decide)
    · simp only [if_neg q23_]
      refine b_Reader_mayStand_116 ?_
      exact b_Reader_mayStand_121 (by decide)
def g_Notes_copy (S : fm_S) (a0 : Nat) (a1 : Nat) : fm_S := (fm_cp (fm_cp (fm_cp (fm_cp (fm_cp (fm_wI S a0 0 (S.1 a1 0)) (a1 + 1) 0 (a0 + 1) 0 6) (a1 + 2) 0 (a0 + 2) 0 6) (a1 + 3) 0 (a0 + 3) 0 6) (a1 + 4) 0 (a0 + 4) 0 6) (a1 + 5) 0 (a0 + 5) 0 6)
theorem s_Notes_copy {d : Nat} {a0 : Nat} {a1 : Nat} {S : fm_S} (hs0 : fm_tg a1 = 4) (hs1 : fm_tg a0 = 4) : am_Sp (d + 1) k_Notes_copy [.ref a0, .ref a1] (fm_mk S) (none) (fm_mk (g_Notes_copy S a0 a1)) := by
  unfold g_Notes_copy
  refine sp_of (L := [some (.ref a0), some (.ref a1)]) rfl (Nat.le_of_ble_eq_true rfl) (Nat.le_of_ble_eq_true rfl) ?_
  exact b_Notes_copy_0 hs0 hs1
def g_Days_copy (S : fm_S) (a0 : Nat) (a1 : Nat) : fm_S := (fm_cp (fm_cp (fm_cp (fm_wI S a0 0 (S.1 a1 0)) (a1 + 1) 0 (a0 + 1) 0 8) (a1 + 2) 0 (a0 + 2) 0 8) (a1 + 3) 0 (a0 + 3) 0 8)
theorem s_Days_copy {d : Nat} {a0 : Nat} {a1 : Nat} {S : fm_S} (hs0 : fm_tg a1 = 2) (hs1 : fm_tg a0 = 2) : am_Sp (d + 1) k_Days_copy [.ref a0, .ref a1] (fm_mk S) (none) (fm_mk (g_Days_copy S a0 a1)) := by
  unfold g_Days_copy
  refine sp_of (L := [some (.ref a0), some (.ref a1)]) rfl (Nat.le_of_ble_eq_true rfl) (Nat.le_of_ble_eq_true rfl) ?_
  exact b_Days_copy_0 hs0 hs1
def f_X_isDish (S : fm_S) (x1 : Int32) : Int32 := (f_X_within x1 0 ((S.1 1 7) - 1))
theorem fb_X_isDish (S : fm_S) (x1 : Int32) : (f_X_isDish S x1) = 0 ∨ (f_X_isDish S x1) = 1 := by
  unfold f_X_isDish
  repeat' split
  all_goals first | exact Or.inl rfl | exact Or.inr rfl | exact fb_X_within ..
theorem s_X_isDish {d : Nat} {x1 : Int32} {S : fm_S} : am_Sp (d + 1) k_X_isDish [.ref 0, .int x1] (fm_mk S) (some (.int (f_X_isDish S x1))) (fm_mk S) := by
  unfold f_X_isDish
  refine sp_of (L := [some (.ref 0), some (.int x1)]) rfl (Nat.le_of_ble_eq_true rfl) (Nat.le_of_ble_eq_true rfl) ?_
  refine b_X_isDish_0 (s_X_within (x0 := x1) (x1 := 0) (x2 := ((S.1 1 7) - 1)) (S := S)) ?_
  exact b_X_isDish_14 (fb_X_within x1 0 ((S.1 1 7) - 1))
def f_Math_floorMod (x0 : Int32) (x1 : Int32) : Int32 := if 0 ≤ (x0 ^^^ x1) then (x0 - x0 / x1 * x1) else if (x0 - x0 / x1 * x1) = 0 then (x0 - x0 / x1 * x1) else ((x0 - x0 / x1 * x1) + x1)
theorem s_Math_floorMod {d : Nat} {x0 : Int32} {x1 : Int32} {S : fm_S} (hs0 : ¬ x1 = 0) : am_Sp d k_Math_floorMod [.int x0, .int x1] (fm_mk S) (some (.int (f_Math_floorMod x0 x1))) (fm_mk S) := by
  unfold f_Math_floorMod
  refine sp_of (L := [some (.int x0), some (.int x1), none]) rfl (Nat.le_of_ble_eq_true rfl) (Nat.le_of_ble_eq_true rfl) ?_
  refine b_Math_floorMod_0 hs0 (fun q1_ => ?_) (fun q1_ => ?_)
  · simp only [if_pos q1_]
    exact b_Math_floorMod_18
  · simp only [if_neg q1_]
    refine b_Math_floorMod_10 (fun q2_ => ?_) (fun q2_ => ?_)
    · simp only [if_pos q2_]
      exact b_Math_floorMod_18
    · simp only [if_neg q2_]
      exact b_Math_floorMod_14
def f_Town_gateOf (S : fm_S) (a0 : Nat) (x1 : Int32) : Int32 := if x1 < 0 then (if (S.1 a0 0) ≤ (-1) then (-1) else (-1)) else if 4 ≤ x1 then (if (S.1 a0 0) ≤ (-1) then (-1) else (-1)) else if (S.1 a0 0) ≤ (S.1 (a0 + 5) x1.toNatClampNeg) then (-1) else (S.1 (a0 + 5) x1.toNatClampNeg)
theorem s_Town_gateOf {d : Nat} {a0 : Nat} {x1 : Int32} {S : fm_S} (hs0 : fm_tg a0 = 6) (hs1 : ¬ x1 < 0 → ¬ 4 ≤ x1 → vp_in x1 4) : am_Sp d k_Town_gateOf [.ref a0, .int x1] (fm_mk S) (some (.int (f_Town_gateOf S a0 x1))) (fm_mk S) := by
  unfold f_Town_gateOf
  refine sp_of (L := [some (.ref a0), some (.int x1), none]) rfl (Nat.le_of_ble_eq_true rfl) (Nat.le_of_ble_eq_true rfl) ?_
  refine b_Town_gateOf_0 (fun q1_ => ?_) (fun q1_ => ?_)
  · simp only [if_pos q1_]
    refine b_Town_gateOf_18 ?_
    refine b_Town_gateOf_19 hs0 (fun q2_ => ?_) (fun q2_ => ?_)
    · simp only [if_pos q2_]
      refine b_Town_gateOf_32 ?_
      exact b_Town_gateOf_33
    · simp only [if_neg q2_]
      refine b_Town_gateOf_28 ?_
      exact b_Town_gateOf_33
  · simp only [if_neg q1_]
    refine b_Town_gateOf_4 (fun q3_ => ?_) (fun q3_ => ?_)
    · simp only [if_pos q3_]
      refine b_Town_gateOf_18 ?_
      refine b_Town_gateOf_19 hs0 (fun q4_ => ?_) (fun q4_ => ?_)
      · simp only [if_pos q4_]
        refine b_Town_gateOf_32 ?_
        exact b_Town_gateOf_33
      · simp only [if_neg q4_]
        refine b_Town_gateOf_28 ?_
        exact b_Town_gateOf_33
    · simp only [if_neg q3_]
      refine b_Town_gateOf_9 hs0 (hs1 q1_ q3_) ?_
      refine b_Town_gateOf_19 hs0 (fun q5_ => ?_) (fun q5_ => ?_)
      · simp only [if_pos q5_]
        refine b_Town_gateOf_32 ?_
        exact b_Town_gateOf_33
      · simp only [if_neg q5_]
        refine b_Town_gateOf_28 ?_
        exact b_Town_gateOf_33
def f_Math_max (x0 : Int32) (x1 : Int32) : Int32 := if x0 < x1 then x1 else x0
theorem s_Math_max {d : Nat} {x0 : Int32} {x1 : Int32} {S : fm_S} : am_Sp d k_Math_max [.int x0, .int x1] (fm_mk S) (some (.int (f_Math_max x0 x1))) (fm_mk S) := by
  unfold f_Math_max
  refine sp_of (L := [some (.int x0), some (.int x1)]) rfl (Nat.le_of_ble_eq_true rfl) (Nat.le_of_ble_eq_true rfl) ?_
  refine b_Math_max_0 (fun q1_ => ?_) (fun q1_ => ?_)
  · simp only [if_pos q1_]
    refine b_Math_max_9 ?_
    exact b_Math_max_10
  · simp only [if_neg q1_]
    refine b_Math_max_5 ?_
    exact b_Math_max_10
def f_Days_isShut (S : fm_S) (a0 : Nat) (x1 : Int32) : Int32 := if (S.1 (a0 + 1) x1.toNatClampNeg) = (-1) then 1 else 0
theorem fb_Days_isShut (S : fm_S) (a0 : Nat) (x1 : Int32) : (f_Days_isShut S a0 x1) = 0 ∨ (f_Days_isShut S a0 x1) = 1 := by
  unfold f_Days_isShut
  repeat' split
  all_goals first | exact Or.inl rfl | exact Or.inr rfl
theorem s_Days_isShut {d : Nat} {a0 : Nat} {x1 : Int32} {S : fm_S} (hs0 : fm_tg a0 = 2) (hs1 : vp_in x1 8) : am_Sp d k_Days_isShut [.ref a0, .int x1] (fm_mk S) (some (.int (f_Days_isShut S a0 x1))) (fm_mk S) := by
  unfold f_Days_isShut
  refine sp_of (L := [some (.ref a0), some (.int x1)]) rfl (Nat.le_of_ble_eq_true rfl) (Nat.le_of_ble_eq_true rfl) ?_
  refine b_Days_isShut_0 hs0 hs1 (fun q1_ => ?_) (fun q1_ => ?_)
  · simp only [if_neg q1_]
    refine b_Days_isShut_14 ?_
    exact b_Days_isShut_15 (by decide)
  · simp only [if_pos q1_]
    refine b_Days_isShut_10 ?_
    exact b_Days_isShut_15 (by decide)
def f_Days_ahead (S : fm_S) (a0 : Nat) (x1 : Int32) (x2 : Int32) : Int32 := if (S.1 (a0 + 2) x1.toNatClampNeg) = x2 then (S.1 (a0 + 3) x1.toNatClampNeg) else 0
theorem s_Days_ahead {d : Nat} {a0 : Nat} {x1 : Int32} {x2 : Int32} {S : fm_S} (hs0 : fm_tg a0 = 2) (hs1 : vp_in x1 8) : am_Sp d k_Days_ahead [.ref a0, .int x1, .int x2] (fm_mk S) (some (.int (f_Days_ahead S a0 x1 x2))) (fm_mk S) := by
  unfold f_Days_ahead
  refine sp_of (L := [some (.ref a0), some (.int x1), some (.int x2)]) rfl (Nat.le_of_ble_eq_true rfl) (Nat.le_of_ble_eq_true rfl) ?_
  refine b_Days_ahead_0 hs0 hs1 (fun q1_ => ?_) (fun q1_ => ?_)
  · simp only [if_neg q1_]
    refine b_Days_ahead_19 ?_
    exact b_Days_ahead_20
  · simp only [if_pos q1_]
    refine b_Days_ahead_10 hs0 hs1 ?_
    exact b_Days_ahead_20
def f_Nose_pull (x0 : Int32) (x1 : Int32) (x2 : Int32) (x3 : Int32) (x4 : Int32) (x5 : Int32) : Int32 := if x2 = x1 then (if x2 = 0 then (if x0 = 0 then (2 * x3) else if x0 = 1 then ((2 * x3) / 2) else if x0 = 2 then 0 else if x0 = 3 then (if (x4 - x4 / 7 * 7) = 5 then 0 else (2 * x3)) else if x0 = 4 then 0 else if x0 = 5 then (if ((2 * x3) / 2) ≤ 0 then 0 else (((2 * x3) / 2) + (2 * x5))) else 0) else if x0 = 0 then (2 * x3) else if x0 = 1 then ((2 * x3) / 2) else if x0 = 2 then (2 * x3) else if x0 = 3 then (if (x4 - x4 / 7 * 7) = 5 then 0 else (2 * x3)) else if x0 = 4 then (if (2 * x3) ≤ 3 then 0 else ((2 * x3) - 3)) else if x0 = 5 then (if ((2 * x3) / 2) ≤ 0 then 0 else (((2 * x3) / 2) + (2 * x5))) else 0) else if x2 = 0 then (if x0 = 0 then x3 else if x0 = 1 then (x3 / 2) else if x0 = 2 then 0 else if x0 = 3 then (if (x4 - x4 / 7 * 7) = 5 then 0 else x3) else if x0 = 4 then 0 else if x0 = 5 then (if (x3 / 2) ≤ 0 then 0 else ((x3 / 2) + (2 * x5))) else 0) else if x0 = 0 then x3 else if x0 = 1 then (x3 / 2) else if x0 = 2 then x3 else if x0 = 3 then (if (x4 - x4 / 7 * 7) = 5 then 0 else x3) else if x0 = 4 then (if x3 ≤ 3 then 0 else (x3 - 3)) else if x0 = 5 then (if (x3 / 2) ≤ 0 then 0 else ((x3 / 2) + (2 * x5))) else 0
theorem s_Nose_pull {d : Nat} {x0 : Int32} {x1 : Int32} {x2 : Int32} {x3 : Int32} {x4 : Int32} {x5 : Int32} {S : fm_S} : am_Sp d k_Nose_pull [.int x0, .int x1, .int x2, .int x3, .int x4, .int x5] (fm_mk S) (some (.int (f_Nose_pull x0 x1 x2 x3 x4 x5))) (fm_mk S) := by
  unfold f_Nose_pull
  refine sp_of (L := [some (.int x0), some (.int x1), some (.int x2), some (.int x3), some (.int x4), some (.int x5), none, none, none]) rfl (Nat.le_of_ble_eq_true rfl) (Nat.le_of_ble_eq_true rfl) ?_
  refine b_Nose_pull_0 (fun q1_ => ?_) (fun q1_ => ?_)
  · simp only [if_neg q1_]
    refine b_Nose_pull_11 ?_
    refine b_Nose_pull_12 (fun q32_ => ?_) (fun q32_ => ?_)
    · simp only [if_neg q32_]
      refine b_Nose_pull_28 ?_
      refine b_Nose_pull_30 ?_ ?_ ?_ ?_ ?_ ?_ ?_
      · intro q47_
        simp only [if_pos q47_]
        exact b_Nose_pull_72
      · intro q48_
        have n0_ : ¬ x0 = 0 := by rw [q48_]; decide
        simp only [if_neg n0_, if_pos q48_]
        exact b_Nose_pull_75
      · intro q49_
        have n0_ : ¬ x0 = 0 := by rw [q49_]; decide
        have n1_ : ¬ x0 = 1 := by rw [q49_]; decide
        simp only [if_neg n0_, if_neg n1_, if_pos q49_]
        exact b_Nose_pull_78
      · intro q50_
        have n0_ : ¬ x0 = 0 := by rw [q50_]; decide
        have n1_ : ¬ x0 = 1 := by rw [q50_]; decide
        have n2_ : ¬ x0 = 2 := by rw [q50_]; decide
        simp only [if_neg n0_, if_neg n1_, if_neg n2_, if_pos q50_]
        refine b_Nose_pull_81 (fun q51_ => ?_) (fun q51_ => ?_)
        · simp only [if_neg q51_]
          refine b_Nose_pull_94 ?_
          exact b_Nose_pull_96
        · simp only [if_pos q51_]
          refine b_Nose_pull_90 ?_
          exact b_Nose_pull_96
      · intro q52_
        have n0_ : ¬ x0 = 0 := by rw [q52_]; decide
        have n1_ : ¬ x0 = 1 := by rw [q52_]; decide
        have n2_ : ¬ x0 = 2 := by rw [q52_]; decide
        have n3_ : ¬ x0 = 3 := by rw [q52_]; decide
        simp only [if_neg n0_, if_neg n1_, if_neg n2_, if_neg n3_, if_pos q52_]
        refine b_Nose_pull_97 (fun q53_ => ?_) (fun q53_ => ?_)
        · simp only [if_pos q53_]
          refine b_Nose_pull_110 ?_
          exact b_Nose_pull_111
        · simp only [if_neg q53_]
          refine b_Nose_pull_103 ?_
          exact b_Nose_pull_111
      · intro q54_
        have n0_ : ¬ x0 = 0 := by rw [q54_]; decide
        have n1_ : ¬ x0 = 1 := by rw [q54_]; decide
        have n2_ : ¬ x0 = 2 := by rw [q54_]; decide
        have n3_ : ¬ x0 = 3 := by rw [q54_]; decide
        have n4_ : ¬ x0 = 4 := by rw [q54_]; decide
        simp only [if_neg n0_, if_neg n1_, if_neg n2_, if_neg n3_, if_neg n4_, if_pos q54_]
        refine b_Nose_pull_112 (fun q55_ => ?_) (fun q55_ => ?_)
        · simp only [if_pos q55_]
          refine b_Nose_pull_127 ?_
          exact b_Nose_pull_128
        · simp only [if_neg q55_]
          refine b_Nose_pull_117 ?_
          exact b_Nose_pull_128
      · intro q56_ q57_ q58_ q59_ q60_ q61_
        simp only [if_neg q56_, if_neg q57_, if_neg q58_, if_neg q59_, if_neg q60_, if_neg q61_]
        exact b_Nose_pull_129
    · simp only [if_pos q32_]
      refine b_Nose_pull_24 ?_
      refine b_Nose_pull_30 ?_ ?_ ?_ ?_ ?_ ?_ ?_
      · intro q33_
        simp only [if_pos q33_]
        exact b_Nose_pull_72
      · intro q34_
        have n0_ : ¬ x0 = 0 := by rw [q34_]; decide
        simp only [if_neg n0_, if_pos q34_]
        exact b_Nose_pull_75
      · intro q35_
        have n0_ : ¬ x0 = 0 := by rw [q35_]; decide
        have n1_ : ¬ x0 = 1 := by rw [q35_]; decide
        simp only [if_neg n0_, if_neg n1_, if_pos q35_]
        exact b_Nose_pull_78
      · intro q36_
        have n0_ : ¬ x0 = 0 := by rw [q36_]; decide
        have n1_ : ¬ x0 = 1 := by rw [q36_]; decide
        have n2_ : ¬ x0 = 2 := by rw [q36_]; decide
        simp only [if_neg n0_, if_neg n1_, if_neg n2_, if_pos q36_]
        refine b_Nose_pull_81 (fun q37_ => ?_) (fun q37_ => ?_)
        · simp only [if_neg q37_]
          refine b_Nose_pull_94 ?_
          exact b_Nose_pull_96
        · simp only [if_pos q37_]
          refine b_Nose_pull_90 ?_
          exact b_Nose_pull_96
      · intro q38_
        have n0_ : ¬ x0 = 0 := by rw [q38_]; decide
        have n1_ : ¬ x0 = 1 := by rw [q38_]; decide
        have n2_ : ¬ x0 = 2 := by rw [q38_]; decide
        have n3_ : ¬ x0 = 3 := by rw [q38_]; decide
        simp only [if_neg n0_, if_neg n1_, if_neg n2_, if_neg n3_, if_pos q38_]
        refine b_Nose_pull_97 (fun _ => ?_) (fun z => absurd z (by decide))
        refine b_Nose_pull_110 ?_
        exact b_Nose_pull_111
      · intro q39_
        have n0_ : ¬ x0 = 0 := by rw [q39_]; decide
        have n1_ : ¬ x0 = 1 := by rw [q39_]; decide
        have n2_ : ¬ x0 = 2 := by rw [q39_]; decide
        have n3_ : ¬ x0 = 3 := by rw [q39_]; decide
        have n4_ : ¬ x0 = 4 := by rw [q39_]; decide
        simp only [if_neg n0_, if_neg n1_, if_neg n2_, if_neg n3_, if_neg n4_, if_pos q39_]
        refine b_Nose_pull_112 (fun q40_ => ?_) (fun q40_ => ?_)
        · simp only [if_pos q40_]
          refine b_Nose_pull_127 ?_
          exact b_Nose_pull_128
        · simp only [if_neg q40_]
          refine b_Nose_pull_117 ?_
          exact b_Nose_pull_128
      · intro q41_ q42_ q43_ q44_ q45_ q46_
        simp only [if_neg q41_, if_neg q42_, if_neg q43_, if_neg q44_, if_neg q45_, if_neg q46_]
        exact b_Nose_pull_129
  · simp only [if_pos q1_]
    refine b_Nose_pull_5 ?_
    refine b_Nose_pull_12 (fun q2_ => ?_) (fun q2_ => ?_)
    · simp only [if_neg q2_]
      refine b_Nose_pull_28 ?_
      refine b_Nose_pull_30 ?_ ?_ ?_ ?_ ?_ ?_ ?_
      · intro q17_
        simp only [if_pos q17_]
        exact b_Nose_pull_72
      · intro q18_
        have n0_ : ¬ x0 = 0 := by rw [q18_]; decide
        simp only [if_neg n0_, if_pos q18_]
        exact b_Nose_pull_75
      · intro q19_
        have n0_ : ¬ x0 = 0 := by rw [q19_]; decide
        have n1_ : ¬ x0 = 1 := by rw [q19_]; decide
        simp only [if_neg n0_, if_neg n1_, if_pos q19_]
        exact b_Nose_pull_78
      · intro q20_
        have n0_ : ¬ x0 = 0 := by rw [q20_]; decide
        have n1_ : ¬ x0 = 1 := by rw [q20_]; decide
        have n2_ : ¬ x0 = 2 := by rw [q20_]; decide
        simp only [if_neg n0_, if_neg n1_, if_neg n2_, if_pos q20_]
        refine b_Nose_pull_81 (fun q21_ => ?_) (fun q21_ => ?_)
        · simp only [if_neg q21_]
          refine b_Nose_pull_94 ?_
          exact b_Nose_pull_96
        · simp only [if_pos q21_]
          refine b_Nose_pull_90 ?_
          exact b_Nose_pull_96
      · intro q22_
        have n0_ : ¬ x0 = 0 := by rw [q22_]; decide
        have n1_ : ¬ x0 = 1 := by rw [q22_]; decide
        have n2_ : ¬ x0 = 2 := by rw [q22_]; decide
        have n3_ : ¬ x0 = 3 := by rw [q22_]; decide
        simp only [if_neg n0_, if_neg n1_, if_neg n2_, if_neg n3_, if_pos q22_]
        refine b_Nose_pull_97 (fun q23_ => ?_) (fun q23_ => ?_)
        · simp only [if_pos q23_]
          refine b_Nose_pull_110 ?_
          exact b_Nose_pull_111
        · simp only [if_neg q23_]
          refine b_Nose_pull_103 ?_
          exact b_Nose_pull_111
      · intro q24_
        have n0_ : ¬ x0 = 0 := by rw [q24_]; decide
        have n1_ : ¬ x0 = 1 := by rw [q24_]; decide
        have n2_ : ¬ x0 = 2 := by rw [q24_]; decide
        have n3_ : ¬ x0 = 3 := by rw [q24_]; decide
        have n4_ : ¬ x0 = 4 := by rw [q24_]; decide
        simp only [if_neg n0_, if_neg n1_, if_neg n2_, if_neg n3_, if_neg n4_, if_pos q24_]
        refine b_Nose_pull_112 (fun q25_ => ?_) (fun q25_ => ?_)
        · simp only [if_pos q25_]
          refine b_Nose_pull_127 ?_
          exact b_Nose_pull_128
        · simp only [if_neg q25_]
          refine b_Nose_pull_117 ?_
          exact b_Nose_pull_128
      · intro q26_ q27_ q28_ q29_ q30_ q31_
        simp only [if_neg q26_, if_neg q27_, if_neg q28_, if_neg q29_, if_neg q30_, if_neg q31_]
        exact b_Nose_pull_129
    · simp only [if_pos q2_]
      refine b_Nose_pull_24 ?_
      refine b_Nose_pull_30 ?_ ?_ ?_ ?_ ?_ ?_ ?_
      · intro q3_
        simp only [if_pos q3_]
        exact b_Nose_pull_72
      · intro q4_
        have n0_ : ¬ x0 = 0 := by rw [q4_]; decide
        simp only [if_neg n0_, if_pos q4_]
        exact b_Nose_pull_75
      · intro q5_
        have n0_ : ¬ x0 = 0 := by rw [q5_]; decide
        have n1_ : ¬ x0 = 1 := by rw [q5_]; decide
        simp only [if_neg n0_, if_neg n1_, if_pos q5_]
        exact b_Nose_pull_78
      · intro q6_
        have n0_ : ¬ x0 = 0 := by rw [q6_]; decide
        have n1_ : ¬ x0 = 1 := by rw [q6_]; decide
        have n2_ : ¬ x0 = 2 := by rw [q6_]; decide
        simp only [if_neg n0_, if_neg n1_, if_neg n2_, if_pos q6_]
        refine b_Nose_pull_81 (fun q7_ => ?_) (fun q7_ => ?_)
        · simp only [if_neg q7_]
          refine b_Nose_pull_94 ?_
          exact b_Nose_pull_96
        · simp only [if_pos q7_]
          refine b_Nose_pull_90 ?_
          exact b_Nose_pull_96
      · intro q8_
        have n0_ : ¬ x0 = 0 := by rw [q8_]; decide
        have n1_ : ¬ x0 = 1 := by rw [q8_]; decide
        have n2_ : ¬ x0 = 2 := by rw [q8_]; decide
        have n3_ : ¬ x0 = 3 := by rw [q8_]; decide
        simp only [if_neg n0_, if_neg n1_, if_neg n2_, if_neg n3_, if_pos q8_]
        refine b_Nose_pull_97 (fun _ => ?_) (fun z => absurd z (by decide))
        refine b_Nose_pull_110 ?_
        exact b_Nose_pull_111
      · intro q9_
        have n0_ : ¬ x0 = 0 := by rw [q9_]; decide
        have n1_ : ¬ x0 = 1 := by rw [q9_]; decide
        have n2_ : ¬ x0 = 2 := by rw [q9_]; decide
        have n3_ : ¬ x0 = 3 := by rw [q9_]; decide
        have n4_ : ¬ x0 = 4 := by rw [q9_]; decide
        simp only [if_neg n0_, if_neg n1_, if_neg n2_, if_neg n3_, if_neg n4_, if_pos q9_]
        refine b_Nose_pull_112 (fun q10_ => ?_) (fun q10_ => ?_)
        · simp only [if_pos q10_]
          refine b_Nose_pull_127 ?_
          exact b_Nose_pull_128
        · simp only [if_neg q10_]
          refine b_Nose_pull_117 ?_
          exact b_Nose_pull_128
      · intro q11_ q12_ q13_ q14_ q15_ q16_
        simp only [if_neg q11_, if_neg q12_, if_neg q13_, if_neg q14_, if_neg q15_, if_neg q16_]
        exact b_Nose_pull_129
def g_Days_smellAfter (S : fm_S) (a0 : Nat) (x1 : Int32) (x2 : Int32) (x3 : Int32) : fm_S := if x3 ≤ 0 then (fm_wI (fm_wI S (a0 + 3) x1.toNatClampNeg 0) (a0 + 2) x1.toNatClampNeg (-1)) else (fm_wI (fm_wI S (a0 + 3) x1.toNatClampNeg ((f_Days_ahead S a0 x1 x2) + 1)) (a0 + 2) x1.toNatClampNeg x2)
theorem s_Days_smellAfter {d : Nat} {a0 : Nat} {x1 : Int32} {x2 : Int32} {x3 : Int32} {S : fm_S} (hs0 : fm_tg a0 = 2) (hs1 : x3 ≤ 0 → vp_in x1 8) (hs2 : ¬ x3 ≤ 0 → vp_in x1 8) (hs3 : ¬ x3 ≤ 0 → fm_tg (a0 + 3) = 100) (hs4 : ¬ x3 ≤ 0 → vp_in x1 (fm_ln (a0 + 3))) : am_Sp (d + 1) k_Days_smellAfter [.ref a0, .int x1, .int x2, .int x3] (fm_mk S) (none) (fm_mk (g_Days_smellAfter S a0 x1 x2 x3)) := by
  unfold g_Days_smellAfter
  refine sp_of (L := [some (.ref a0), some (.int x1), some (.int x2), some (.int x3)]) rfl (Nat.le_of_ble_eq_true rfl) (Nat.le_of_ble_eq_true rfl) ?_
  refine b_Days_smellAfter_0 (fun q1_ => ?_) (fun q1_ => ?_)
  · simp only [if_pos q1_]
    refine b_Days_smellAfter_28 hs0 (hs1 q1_) ?_
    exact b_Days_smellAfter_42
  · simp only [if_neg q1_]
    refine b_Days_smellAfter_4 hs0 (s_Days_ahead (a0 := a0) (x1 := x1) (x2 := x2) (S := S) hs0 (hs2 q1_)) ?_
    refine b_Days_smellAfter_15 (hs3 q1_) (hs4 q1_) hs0 (hs2 q1_) ?_
    exact b_Days_smellAfter_42
def f_Town_goBack (S : fm_S) (a0 : Nat) : Int32 := if 0 < (S.1 a0 14) then 1 else 0
def g_Town_goBack (S : fm_S) (a0 : Nat) : fm_S := if 0 < (S.1 a0 14) then (g_Days_copy (fm_wI S a0 14 ((S.1 a0 14) - 1)) (a0 + 16) ((fm_wI S a0 14 ((S.1 a0 14) - 1)).2.2 (a0 + 20) (((fm_wI S a0 14 ((S.1 a0 14) - 1)).1 a0 14).toNatClampNeg))) else S
theorem fb_Town_goBack (S : fm_S) (a0 : Nat) : (f_Town_goBack S a0) = 0 ∨ (f_Town_goBack S a0) = 1 := by
  unfold f_Town_goBack
  repeat' split
  all_goals first | exact Or.inl rfl | exact Or.inr rfl
theorem s_Town_goBack {d : Nat} {a0 : Nat} {S : fm_S} (hs0 : fm_tg a0 = 6) (hs1 : 0 < (S.1 a0 14) → vp_in ((fm_wI S a0 14 ((S.1 a0 14) - 1)).1 a0 14) 8) (hs2 : 0 < (S.1 a0 14) → fm_tg ((fm_wI S a0 14 ((S.1 a0 14) - 1)).2.2 (a0 + 20) (((fm_wI S a0 14 ((S.1 a0 14) - 1)).1 a0 14).toNatClampNeg)) = 2) (hs3 : 0 < (S.1 a0 14) → fm_tg (a0 + 16) = 2) : am_Sp (d + 2) k_Town_goBack [.ref a0] (fm_mk S) (some (.int (f_Town_goBack S a0))) (fm_mk (g_Town_goBack S a0)) := by
  unfold f_Town_goBack g_Town_goBack
  refine sp_of (L := [some (.ref a0)]) rfl (Nat.le_of_ble_eq_true rfl) (Nat.le_of_ble_eq_true rfl) ?_
  refine b_Town_goBack_0 hs0 (fun q1_ => ?_) (fun q1_ => ?_)
  · simp only [if_pos q1_]
    refine b_Town_goBack_9 hs0 (hs1 q1_) (s_Days_copy (a0 := (a0 + 16)) (a1 := ((fm_wI S a0 14 ((S.1 a0 14) - 1)).2.2 (a0 + 20) (((fm_wI S a0 14 ((S.1 a0 14) - 1)).1 a0 14).toNatClampNeg))) (S := (fm_wI S a0 14 ((S.1 a0 14) - 1))) (hs2 q1_) (hs3 q1_)) ?_
    exact b_Town_goBack_35
  · simp only [if_neg q1_]
    exact b_Town_goBack_7
def f_X_badTen : Int32 := (-10)
def g_X_badTen (S : fm_S) : fm_S := (fm_wI S 0 6 ((S.1 0 6) + 1))
theorem s_X_badTen {d : Nat} {S : fm_S} : am_Sp d k_X_badTen [.ref 0] (fm_mk S) (some (.int f_X_badTen)) (fm_mk (g_X_badTen S)) := by
  unfold f_X_badTen g_X_badTen
  refine sp_of (L := [some (.ref 0)]) rfl (Nat.le_of_ble_eq_true rfl) (Nat.le_of_ble_eq_true rfl) ?_
  exact b_X_badTen_0
def f_Int_bitCount (x0 : Int32) : Int32 := ((((((((x0 - (((x0.toUInt32 >>> ((1 : Int32).toUInt32 &&& Int32.toUInt32 31)).toInt32) &&& 1431655765)) &&& 858993459) + ((((x0 - (((x0.toUInt32 >>> ((1 : Int32).toUInt32 &&& Int32.toUInt32 31)).toInt32) &&& 1431655765)).toUInt32 >>> ((2 : Int32).toUInt32 &&& Int32.toUInt32 31)).toInt32) &&& 858993459)) + (((((x0 - (((x0.toUInt32 >>> ((1 : Int32).toUInt32 &&& Int32.toUInt32 31)).toInt32) &&& 1431655765)) &&& 858993459) + ((((x0 - (((x0.toUInt32 >>> ((1 : Int32).toUInt32 &&& Int32.toUInt32 31)).toInt32) &&& 1431655765)).toUInt32 >>> ((2 : Int32).toUInt32 &&& Int32.toUInt32 31)).toInt32) &&& 858993459)).toUInt32 >>> ((4 : Int32).toUInt32 &&& Int32.toUInt32 31)).toInt32)) &&& 252645135) + (((((((x0 - (((x0.toUInt32 >>> ((1 : Int32).toUInt32 &&& Int32.toUInt32 31)).toInt32) &&& 1431655765)) &&& 858993459) + ((((x0 - (((x0.toUInt32 >>> ((1 : Int32).toUInt32 &&& Int32.toUInt32 31)).toInt32) &&& 1431655765)).toUInt32 >>> ((2 : Int32).toUInt32 &&& Int32.toUInt32 31)).toInt32) &&& 858993459)) + (((((x0 - (((x0.toUInt32 >>> ((1 : Int32).toUInt32 &&& Int32.toUInt32 31)).toInt32) &&& 1431655765)) &&& 858993459) + ((((x0 - (((x0.toUInt32 >>> ((1 : Int32).toUInt32 &&& Int32.toUInt32 31)).toInt32) &&& 1431655765)).toUInt32 >>> ((2 : Int32).toUInt32 &&& Int32.toUInt32 31)).toInt32) &&& 858993459)).toUInt32 >>> ((4 : Int32).toUInt32 &&& Int32.toUInt32 31)).toInt32)) &&& 252645135).toUInt32 >>> ((8 : Int32).toUInt32 &&& Int32.toUInt32 31)).toInt32)) + ((((((((x0 - (((x0.toUInt32 >>> ((1 : Int32).toUInt32 &&& Int32.toUInt32 31)).toInt32) &&& 1431655765)) &&& 858993459) + ((((x0 - (((x0.toUInt32 >>> ((1 : Int32).toUInt32 &&& Int32.toUInt32 31)).toInt32) &&& 1431655765)).toUInt32 >>> ((2 : Int32).toUInt32 &&& Int32.toUInt32 31)).toInt32) &&& 858993459)) + (((((x0 - (((x0.toUInt32 >>> ((1 : Int32).toUInt32 &&& Int32.toUInt32 31)).toInt32) &&& 1431655765)) &&& 858993459) + ((((x0 - (((x0.toUInt32 >>> ((1 : Int32).toUInt32 &&& Int32.toUInt32 31)).toInt32) &&& 1431655765)).toUInt32 >>> ((2 : Int32).toUInt32 &&& Int32.toUInt32 31)).toInt32) &&& 858993459)).toUInt32 >>> ((4 : Int32).toUInt32 &&& Int32.toUInt32 31)).toInt32)) &&& 252645135) + (((((((x0 - (((x0.toUInt32 >>> ((1 : Int32).toUInt32 &&& Int32.toUInt32 31)).toInt32) &&& 1431655765)) &&& 858993459) + ((((x0 - (((x0.toUInt32 >>> ((1 : Int32).toUInt32 &&& Int32.toUInt32 31)).toInt32) &&& 1431655765)).toUInt32 >>> ((2 : Int32).toUInt32 &&& Int32.toUInt32 31)).toInt32) &&& 858993459)) + (((((x0 - (((x0.toUInt32 >>> ((1 : Int32).toUInt32 &&& Int32.toUInt32 31)).toInt32) &&& 1431655765)) &&& 858993459) + ((((x0 - (((x0.toUInt32 >>> ((1 : Int32).toUInt32 &&& Int32.toUInt32 31)).toInt32) &&& 1431655765)).toUInt32 >>> ((2 : Int32).toUInt32 &&& Int32.toUInt32 31)).toInt32) &&& 858993459)).toUInt32 >>> ((4 : Int32).toUInt32 &&& Int32.toUInt32 31)).toInt32)) &&& 252645135).toUInt32 >>> ((8 : Int32).toUInt32 &&& Int32.toUInt32 31)).toInt32)).toUInt32 >>> ((16 : Int32).toUInt32 &&& Int32.toUInt32 31)).toInt32)) &&& 63)
theorem s_Int_bitCount {d : Nat} {x0 : Int32} {S : fm_S} : am_Sp d k_Int_bitCount [.int x0] (fm_mk S) (some (.int (f_Int_bitCount x0))) (fm_mk S) := by
  unfold f_Int_bitCount
  refine sp_of (L := [some (.int x0)]) rfl (Nat.le_of_ble_eq_true rfl) (Nat.le_of_ble_eq_true rfl) ?_
  exact b_Int_bitCount_0
def f_Cook_pair (x0 : Int32) (x1 : Int32) : Int32 := ((((x0 + 1) * 9) + x1) + 1)
theorem s_Cook_pair {d : Nat} {x0 : Int32} {x1 : Int32} {S : fm_S} : am_Sp d k_Cook_pair [.int x0, .int x1] (fm_mk S) (some (.int (f_Cook_pair x0 x1))) (fm_mk S) := by
  unfold f_Cook_pair
  refine sp_of (L := [some (.int x0), some (.int x1)]) rfl (Nat.le_of_ble_eq_true rfl) (Nat.le_of_ble_eq_true rfl) ?_
  exact b_Cook_pair_0
def f_X_isNoted (x0 : Int32) (x1 : Int32) : Int32 := if (f_X_within x0 1 60) = 0 then 0 else if (f_X_within x1 0 99) = 0 then 0 else 1
theorem fb_X_isNoted (x0 : Int32) (x1 : Int32) : (f_X_isNoted x0 x1) = 0 ∨ (f_X_isNoted x0 x1) = 1 := by
  unfold f_X_isNoted
  repeat' split
  all_goals first | exact Or.inl rfl | exact Or.inr rfl | exact fb_X_within ..
theorem s_X_isNoted {d : Nat} {x0 : Int32} {x1 : Int32} {S : fm_S} : am_Sp (d + 1) k_X_isNoted [.int x0, .int x1] (fm_mk S) (some (.int (f_X_isNoted x0 x1))) (fm_mk S) := by
  unfold f_X_isNoted
  refine sp_of (L := [some (.int x0), some (.int x1)]) rfl (Nat.le_of_ble_eq_true rfl) (Nat.le_of_ble_eq_true rfl) ?_
  refine b_X_isNoted_0 (s_X_within (x0 := x0) (x1 := 1) (x2 := 60) (S := S)) ?_
  refine b_X_isNoted_7 (fun q1_ => ?_) (fun q1_ => ?_)
  · simp only [if_pos q1_]
    refine b_X_isNoted_24 ?_
    exact b_X_isNoted_25 (by decide)
  · simp only [if_neg q1_]
    refine b_X_isNoted_10 (s_X_within (x0 := x1) (x1 := 0) (x2 := 99) (S := S)) ?_
    refine b_X_isNoted_17 (fun q2_ => ?_) (fun q2_ => ?_)
    · simp only [if_pos q2_]
      refine b_X_isNoted_24 ?_
      exact b_X_isNoted_25 (by decide)
    · simp only [if_neg q2_]
      refine b_X_isNoted_20 ?_
      exact b_X_isNoted_25 (by decide)
def f_Notes_add (S : fm_S) (a0 : Nat) (x1 : Int32) (x2 : Int32) (x3 : Int32) (x4 : Int32) (x5 : Int32) : Int32 := if (S.1 a0 0) < 6 then ((fm_wI (fm_wI (fm_wI (fm_wI (fm_wI (fm_wI S (a0 + 1) ((S.1 a0 0).toNatClampNeg) x1) (a0 + 2) (((fm_wI S (a0 + 1) ((S.1 a0 0).toNatClampNeg) x1).1 a0 0).toNatClampNeg) x2) (a0 + 3) (((fm_wI (fm_wI S (a0 + 1) ((S.1 a0 0).toNatClampNeg) x1) (a0 + 2) (((fm_wI S (a0 + 1) ((S.1 a0 0).toNatClampNeg) x1).1 a0 0).toNatClampNeg) x2).1 a0 0).toNatClampNeg) x3) (a0 + 4) (((fm_wI (fm_wI (fm_wI S (a0 + 1) ((S.1 a0 0).toNatClampNeg) x1) (a0 + 2) (((fm_wI S (a0 + 1) ((S.1 a0 0).toNatClampNeg) x1).1 a0 0).toNatClampNeg) x2) (a0 + 3) (((fm_wI (fm_wI S (a0 + 1) ((S.1 a0 0).toNatClampNeg) x1) (a0 + 2) (((fm_wI S (a0 + 1) ((S.1 a0 0).toNatClampNeg) x1).1 a0 0).toNatClampNeg) x2).1 a0 0).toNatClampNeg) x3).1 a0 0).toNatClampNeg) x4) (a0 + 5) (((fm_wI (fm_wI (fm_wI (fm_wI S (a0 + 1) ((S.1 a0 0).toNatClampNeg) x1) (a0 + 2) (((fm_wI S (a0 + 1) ((S.1 a0 0).toNatClampNeg) x1).1 a0 0).toNatClampNeg) x2) (a0 + 3) (((fm_wI (fm_wI S (a0 + 1) ((S.1 a0 0).toNatClampNeg) x1) (a0 + 2) (((fm_wI S (a0 + 1) ((S.1 a0 0).toNatClampNeg) x1).1 a0 0).toNatClampNeg) x2).1 a0 0).toNatClampNeg) x3) (a0 + 4) (((fm_wI (fm_wI (fm_wI S (a0 + 1) ((S.1 a0 0).toNatClampNeg) x1) (a0 + 2) (((fm_wI S (a0 + 1) ((S.1 a0 0).toNatClampNeg) x1).1 a0 0).toNatClampNeg) x2) (a0 + 3) (((fm_wI (fm_wI S (a0 + 1) ((S.1 a0 0).toNatClampNeg) x1) (a0 + 2) (((fm_wI S (a0 + 1) ((S.1 a0 0).toNatClampNeg) x1).1 a0 0).toNatClampNeg) x2).1 a0 0).toNatClampNeg) x3).1 a0 0).toNatClampNeg) x4).1 a0 0).toNatClampNeg) x5) a0 0 (((fm_wI (fm_wI (fm_wI (fm_wI (fm_wI S (a0 + 1) ((S.1 a0 0).toNatClampNeg) x1) (a0 + 2) (((fm_wI S (a0 + 1) ((S.1 a0 0).toNatClampNeg) x1).1 a0 0).toNatClampNeg) x2) (a0 + 3) (((fm_wI (fm_wI S (a0 + 1) ((S.1 a0 0).toNatClampNeg) x1) (a0 + 2) (((fm_wI S (a0 + 1) ((S.1 a0 0).toNatClampNeg) x1).1 a0 0).toNatClampNeg) x2).1 a0 0).toNatClampNeg) x3) (a0 + 4) (((fm_wI (fm_wI (fm_wI S (a0 + 1) ((S.1 a0 0).toNatClampNeg) x1) (a0 + 2) (((fm_wI S (a0 + 1) ((S.1 a0 0).toNatClampNeg) x1).1 a0 0).toNatClampNeg) x2) (a0 + 3) (((fm_wI (fm_wI S (a0 + 1) ((S.1 a0 0).toNatClampNeg) x1) (a0 + 2) (((fm_wI S (a0 + 1) ((S.1 a0 0).toNatClampNeg) x1).1 a0 0).toNatClampNeg) x2).1 a0 0).toNatClampNeg) x3).1 a0 0).toNatClampNeg) x4) (a0 + 5) (((fm_wI (fm_wI (fm_wI (fm_wI S (a0 + 1) ((S.1 a0 0).toNatClampNeg) x1) (a0 + 2) (((fm_wI S (a0 + 1) ((S.1 a0 0).toNatClampNeg) x1).1 a0 0).toNatClampNeg) x2) (a0 + 3) (((fm_wI (fm_wI S (a0 + 1) ((S.1 a0 0).toNatClampNeg) x1) (a0 + 2) (((fm_wI S (a0 + 1) ((S.1 a0 0).toNatClampNeg) x1).1 a0 0).toNatClampNeg) x2).1 a0 0).toNatClampNeg) x3) (a0 + 4) (((fm_wI (fm_wI (fm_wI S (a0 + 1) ((S.1 a0 0).toNatClampNeg) x1) (a0 + 2) (((fm_wI S (a0 + 1) ((S.1 a0 0).toNatClampNeg) x1).1 a0 0).toNatClampNeg) x2) (a0 + 3) (((fm_wI (fm_wI S (a0 + 1) ((S.1 a0 0).toNatClampNeg) x1) (a0 + 2) (((fm_wI S (a0 + 1) ((S.1 a0 0).toNatClampNeg) x1).1 a0 0).toNatClampNeg) x2).1 a0 0).toNatClampNeg) x3).1 a0 0).toNatClampNeg) x4).1 a0 0).toNatClampNeg) x5).1 a0 0) + 1)).1 a0 0) else (-1)
def g_Notes_add (S : fm_S) (a0 : Nat) (x1 : Int32) (x2 : Int32) (x3 : Int32) (x4 : Int32) (x5 : Int32) : fm_S := if (S.1 a0 0) < 6 then (fm_wI (fm_wI (fm_wI (fm_wI (fm_wI (fm_wI S (a0 + 1) ((S.1 a0 0).toNatClampNeg) x1) (a0 + 2) (((fm_wI S (a0 + 1) ((S.1 a0 0).toNatClampNeg) x1).1 a0 0).toNatClampNeg) x2) (a0 + 3) (((fm_wI (fm_wI S (a0 + 1) ((S.1 a0 0).toNatClampNeg) x1) (a0 + 2) (((fm_wI S (a0 + 1) ((S.1 a0 0).toNatClampNeg) x1).1 a0 0).toNatClampNeg) x2).1 a0 0).toNatClampNeg) x3) (a0 + 4) (((fm_wI (fm_wI (fm_wI S (a0 + 1) ((S.1 a0 0).toNatClampNeg) x1) (a0 + 2) (((fm_wI S (a0 + 1) ((S.1 a0 0).toNatClampNeg) x1).1 a0 0).toNatClampNeg) x2) (a0 + 3) (((fm_wI (fm_wI S (a0 + 1) ((S.1 a0 0).toNatClampNeg) x1) (a0 + 2) (((fm_wI S (a0 + 1) ((S.1 a0 0).toNatClampNeg) x1).1 a0 0).toNatClampNeg) x2).1 a0 0).toNatClampNeg) x3).1 a0 0).toNatClampNeg) x4) (a0 + 5) (((fm_wI (fm_wI (fm_wI (fm_wI S (a0 + 1) ((S.1 a0 0).toNatClampNeg) x1) (a0 + 2) (((fm_wI S (a0 + 1) ((S.1 a0 0).toNatClampNeg) x1).1 a0 0).toNatClampNeg) x2) (a0 + 3) (((fm_wI (fm_wI S (a0 + 1) ((S.1 a0 0).toNatClampNeg) x1) (a0 + 2) (((fm_wI S (a0 + 1) ((S.1 a0 0).toNatClampNeg) x1).1 a0 0).toNatClampNeg) x2).1 a0 0).toNatClampNeg) x3) (a0 + 4) (((fm_wI (fm_wI (fm_wI S (a0 + 1) ((S.1 a0 0).toNatClampNeg) x1) (a0 + 2) (((fm_wI S (a0 + 1) ((S.1 a0 0).toNatClampNeg) x1).1 a0 0).toNatClampNeg) x2) (a0 + 3) (((fm_wI (fm_wI S (a0 + 1) ((S.1 a0 0).toNatClampNeg) x1) (a0 + 2) (((fm_wI S (a0 + 1) ((S.1 a0 0).toNatClampNeg) x1).1 a0 0).toNatClampNeg) x2).1 a0 0).toNatClampNeg) x3).1 a0 0).toNatClampNeg) x4).1 a0 0).toNatClampNeg) x5) a0 0 (((fm_wI (fm_wI (fm_wI (fm_wI (fm_wI S (a0 + 1) ((S.1 a0 0).toNatClampNeg) x1) (a0 + 2) (((fm_wI S (a0 + 1) ((S.1 a0 0).toNatClampNeg) x1).1 a0 0).toNatClampNeg) x2) (a0 + 3) (((fm_wI (fm_wI S (a0 + 1) ((S.1 a0 0).toNatClampNeg) x1) (a0 + 2) (((fm_wI S (a0 + 1) ((S.1 a0 0).toNatClampNeg) x1).1 a0 0).toNatClampNeg) x2).1 a0 0).toNatClampNeg) x3) (a0 + 4) (((fm_wI (fm_wI (fm_wI S (a0 + 1) ((S.1 a0 0).toNatClampNeg) x1) (a0 + 2) (((fm_wI S (a0 + 1) ((S.1 a0 0).toNatClampNeg) x1).1 a0 0).toNatClampNeg) x2) (a0 + 3) (((fm_wI (fm_wI S (a0 + 1) ((S.1 a0 0).toNatClampNeg) x1) (a0 + 2) (((fm_wI S (a0 + 1) ((S.1 a0 0).toNatClampNeg) x1).1 a0 0).toNatClampNeg) x2).1 a0 0).toNatClampNeg) x3).1 a0 0).toNatClampNeg) x4) (a0 + 5) (((fm_wI (fm_wI (fm_wI (fm_wI S (a0 + 1) ((S.1 a0 0).toNatClampNeg) x1) (a0 + 2) (((fm_wI S (a0 + 1) ((S.1 a0 0).toNatClampNeg) x1).1 a0 0).toNatClampNeg) x2) (a0 + 3) (((fm_wI (fm_wI S (a0 + 1) ((S.1 a0 0).toNatClampNeg) x1) (a0 + 2) (((fm_wI S (a0 + 1) ((S.1 a0 0).toNatClampNeg) x1).1 a0 0).toNatClampNeg) x2).1 a0 0).toNatClampNeg) x3) (a0 + 4) (((fm_wI (fm_wI (fm_wI S (a0 + 1) ((S.1 a0 0).toNatClampNeg) x1) (a0 + 2) (((fm_wI S (a0 + 1) ((S.1 a0 0).toNatClampNeg) x1).1 a0 0).toNatClampNeg) x2) (a0 + 3) (((fm_wI (fm_wI S (a0 + 1) ((S.1 a0 0).toNatClampNeg) x1) (a0 + 2) (((fm_wI S (a0 + 1) ((S.1 a0 0).toNatClampNeg) x1).1 a0 0).toNatClampNeg) x2).1 a0 0).toNatClampNeg) x3).1 a0 0).toNatClampNeg) x4).1 a0 0).toNatClampNeg) x5).1 a0 0) + 1)) else S
theorem s_Notes_add {d : Nat} {a0 : Nat} {x1 : Int32} {x2 : Int32} {x3 : Int32} {x4 : Int32} {x5 : Int32} {S : fm_S} (hs0 : fm_tg a0 = 4) (hs1 : (S.1 a0 0) < 6 → vp_in (S.1 a0 0) 6) (hs2 : (S.1 a0 0) < 6 → vp_in ((fm_wI S (a0 + 1) ((S.1 a0 0).toNatClampNeg) x1).1 a0 0) 6) (hs3 : (S.1 a0 0) < 6 → vp_in ((fm_wI (fm_wI S (a0 + 1) ((S.1 a0 0).toNatClampNeg) x1) (a0 + 2) (((fm_wI S (a0 + 1) ((S.1 a0 0).toNatClampNeg) x1).1 a0 0).toNatClampNeg) x2).1 a0 0) 6) (hs4 : (S.1 a0 0) < 6 → vp_in ((fm_wI (fm_wI (fm_wI S (a0 + 1) ((S.1 a0 0).toNatClampNeg) x1) (a0 + 2) (((fm_wI S (a0 + 1) ((S.1 a0 0).toNatClampNeg) x1).1 a0 0).toNatClampNeg) x2) (a0 + 3) (((fm_wI (fm_wI S (a0 + 1) ((S.1 a0 0).toNatClampNeg) x1) (a0 + 2) (((fm_wI S (a0 + 1) ((S.1 a0 0).toNatClampNeg) x1).1 a0 0).toNatClampNeg) x2).1 a0 0).toNatClampNeg) x3).1 a0 0) 6) (hs5 : (S.1 a0 0) < 6 → vp_in ((fm_wI (fm_wI (fm_wI (fm_wI S (a0 + 1) ((S.1 a0 0).toNatClampNeg) x1) (a0 + 2) (((fm_wI S (a0 + 1) ((S.1 a0 0).toNatClampNeg) x1).1 a0 0).toNatClampNeg) x2) (a0 + 3) (((fm_wI (fm_wI S (a0 + 1) ((S.1 a0 0).toNatClampNeg) x1) (a0 + 2) (((fm_wI S (a0 + 1) ((S.1 a0 0).toNatClampNeg) x1).1 a0 0).toNatClampNeg) x2).1 a0 0).toNatClampNeg) x3) (a0 + 4) (((fm_wI (fm_wI (fm_wI S (a0 + 1) ((S.1 a0 0).toNatClampNeg) x1) (a0 + 2) (((fm_wI S (a0 + 1) ((S.1 a0 0).toNatClampNeg) x1).1 a0 0).toNatClampNeg) x2) (a0 + 3) (((fm_wI (fm_wI S (a0 + 1) ((S.1 a0 0).toNatClampNeg) x1) (a0 + 2) (((fm_wI S (a0 + 1) ((S.1 a0 0).toNatClampNeg) x1).1 a0 0).toNatClampNeg) x2).1 a0 0).toNatClampNeg) x3).1 a0 0).toNatClampNeg) x4).1 a0 0) 6) : am_Sp d k_Notes_add [.ref a0, .int x1, .int x2, .int x3, .int x4, .int x5] (fm_mk S) (some (.int (f_Notes_add S a0 x1 x2 x3 x4 x5))) (fm_mk (g_Notes_add S a0 x1 x2 x3 x4 x5)) := by
  unfold f_Notes_add g_Notes_add
  refine sp_of (L := [some (.ref a0), some (.int x1), some (.int x2), some (.int x3), some (.int x4), some (.int x5)]) rfl (Nat.le_of_ble_eq_true rfl) (Nat.le_of_ble_eq_true rfl) ?_
  refine b_Notes_add_0 hs0 (fun q1_ => ?_) (fun q1_ => ?_)
  · simp only [if_pos q1_]
    exact b_Notes_add_11 hs0 (hs1 q1_) (hs2 q1_) (hs3 q1_) (hs4 q1_) (hs5 q1_)
  · simp only [if_neg q1_]
    exact b_Notes_add_9
def f_X_forget (S : fm_S) : Int32 := (S.1 11 0)
def g_X_forget (S : fm_S) : fm_S := (fm_wI S 11 0 0)
theorem s_X_forget {d : Nat} {S : fm_S} : am_Sp d k_X_forget [.ref 0] (fm_mk S) (some (.int (f_X_forget S))) (fm_mk (g_X_forget S)) := by
  unfold f_X_forget g_X_forget
  refine sp_of (L := [some (.ref 0), none]) rfl (Nat.le_of_ble_eq_true rfl) (Nat.le_of_ble_eq_true rfl) ?_
  exact b_X_forget_0
def f_Nose_opensAlone (x0 : Int32) (x1 : Int32) (x2 : Int32) (x3 : Int32) (x4 : Int32) : Int32 := if (f_Nose_pull x0 x1 x2 x3 x4 0) < 10 then 0 else 1
theorem fb_Nose_opensAlone (x0 : Int32) (x1 : Int32) (x2 : Int32) (x3 : Int32) (x4 : Int32) : (f_Nose_opensAlone x0 x1 x2 x3 x4) = 0 ∨ (f_Nose_opensAlone x0 x1 x2 x3 x4) = 1 := by
  unfold f_Nose_opensAlone
  repeat' split
  all_goals first | exact Or.inl rfl | exact Or.inr rfl
theorem s_Nose_opensAlone {d : Nat} {x0 : Int32} {x1 : Int32} {x2 : Int32} {x3 : Int32} {x4 : Int32} {S : fm_S} : am_Sp (d + 1) k_Nose_opensAlone [.int x0, .int x1, .int x2, .int x3, .int x4] (fm_mk S) (some (.int (f_Nose_opensAlone x0 x1 x2 x3 x4))) (fm_mk S) := by
  unfold f_Nose_opensAlone
  refine sp_of (L := [some (.int x0), some (.int x1), some (.int x2), some (.int x3), some (.int x4)]) rfl (Nat.le_of_ble_eq_true rfl) (Nat.le_of_ble_eq_true rfl) ?_
  refine b_Nose_opensAlone_0 (s_Nose_pull (x0 := x0) (x1 := x1) (x2 := x2) (x3 := x3) (x4 := x4) (x5 := 0) (S := S)) ?_
  refine b_Nose_opensAlone_10 (fun q1_ => ?_) (fun q1_ => ?_)
  · simp only [if_pos q1_]
    refine b_Nose_opensAlone_19 ?_
    exact b_Nose_opensAlone_20 (by decide)
  · simp only [if_neg q1_]
    refine b_Nose_opensAlone_15 ?_
    exact b_Nose_opensAlone_20 (by decide)
def f_X_part (S : fm_S) (x1 : Int32) : Int64 := if x1 = 0 then (S.2.1 122 0) else if x1 = 1 then (S.2.1 122 1) else f_X_bad.toInt64
def g_X_part (S : fm_S) (x1 : Int32) : fm_S := if x1 = 0 then S else if x1 = 1 then S else (g_X_bad S)
theorem s_X_part {d : Nat} {x1 : Int32} {S : fm_S} : am_Sp (d + 1) k_X_part [.ref 0, .int x1] (fm_mk S) (some (.long (f_X_part S x1))) (fm_mk (g_X_part S x1)) := by
  unfold f_X_part g_X_part
  refine sp_of (L := [some (.ref 0), some (.int x1)]) rfl (Nat.le_of_ble_eq_true rfl) (Nat.le_of_ble_eq_true rfl) ?_
  refine b_X_part_0 ?_ ?_ ?_
  · intro q1_
    simp only [if_pos q1_]
    exact b_X_part_28
  · intro q2_
    have n0_ : ¬ x1 = 0 := by rw [q2_]; decide
    simp only [if_neg n0_, if_pos q2_]
    exact b_X_part_36
  · intro q3_ q4_
    simp only [if_neg q3_, if_neg q4_]
    refine b_X_part_44 (s_X_bad (S := S)) ?_
    exact b_X_part_48
def f_X_isImage (x0 : Int32) : Int32 := (f_X_within x0 0 1)
theorem fb_X_isImage (x0 : Int32) : (f_X_isImage x0) = 0 ∨ (f_X_isImage x0) = 1 := by
  unfold f_X_isImage
  repeat' split
  all_goals first | exact Or.inl rfl | exact Or.inr rfl | exact fb_X_within ..
theorem s_X_isImage {d : Nat} {x0 : Int32} {S : fm_S} : am_Sp (d + 1) k_X_isImage [.int x0] (fm_mk S) (some (.int (f_X_isImage x0))) (fm_mk S) := by
  unfold f_X_isImage
  refine sp_of (L := [some (.int x0)]) rfl (Nat.le_of_ble_eq_true rfl) (Nat.le_of_ble_eq_true rfl) ?_
  refine b_X_isImage_0 (s_X_within (x0 := x0) (x1 := 0) (x2 := 1) (S := S)) ?_
  exact b_X_isImage_6 (fb_X_within x0 0 1)
def f_X_status (S : fm_S) (x1 : Int32) : Int32 := if x1 = 0 then (S.1 0 6) else if x1 = 1 then (S.1 0 7) else if x1 = 2 then (S.1 0 8) else (-1)
def g_X_status (S : fm_S) (x1 : Int32) : fm_S := if x1 = 0 then S else if x1 = 1 then S else if x1 = 2 then S else (g_X_bad S)
theorem s_X_status {d : Nat} {x1 : Int32} {S : fm_S} : am_Sp (d + 1) k_X_status [.ref 0, .int x1] (fm_mk S) (some (.int (f_X_status S x1))) (fm_mk (g_X_status S x1)) := by
  unfold f_X_status g_X_status
  refine sp_of (L := [some (.ref 0), some (.int x1)]) rfl (Nat.le_of_ble_eq_true rfl) (Nat.le_of_ble_eq_true rfl) ?_
  refine b_X_status_0 ?_ ?_ ?_ ?_
  · intro q1_
    simp only [if_pos q1_]
    exact b_X_status_28
  · intro q2_
    have n0_ : ¬ x1 = 0 := by rw [q2_]; decide
    simp only [if_neg n0_, if_pos q2_]
    exact b_X_status_33
  · intro q3_
    have n0_ : ¬ x1 = 0 := by rw [q3_]; decide
    have n1_ : ¬ x1 = 1 := by rw [q3_]; decide
    simp only [if_neg n0_, if_neg n1_, if_pos q3_]
    exact b_X_status_38
  · intro q4_ q5_ q6_
    simp only [if_neg q4_, if_neg q5_, if_neg q6_]
    refine b_X_status_43 (s_X_bad (S := S)) ?_
    exact b_X_status_47
def f_X_mix (y0 : Int64) (y2 : Int64) : Int64 := ((31 * y0) + y2)
theorem s_X_mix {d : Nat} {y0 : Int64} {y2 : Int64} {S : fm_S} : am_Sp d k_X_mix [.long y0, .long y2] (fm_mk S) (some (.long (f_X_mix y0 y2))) (fm_mk S) := by
  unfold f_X_mix
  refine sp_of (L := [some (.long y0), none, some (.long y2), none]) rfl (Nat.le_of_ble_eq_true rfl) (Nat.le_of_ble_eq_true rfl) ?_
  exact b_X_mix_0
def f_M_in (y0 : Int64) (y2 : Int64) (y4 : Int64) : Int32 := if (lg_cmp y0 y2) < 0 then 0 else if 0 < (lg_cmp y0 y4) then 0 else 1
theorem fb_M_in (y0 : Int64) (y2 : Int64) (y4 : Int64) : (f_M_in y0 y2 y4) = 0 ∨ (f_M_in y0 y2 y4) = 1 := by
  unfold f_M_in
  repeat' split
  all_goals first | exact Or.inl rfl | exact Or.inr rfl
theorem s_M_in {d : Nat} {y0 : Int64} {y2 : Int64} {y4 : Int64} {S : fm_S} : am_Sp d k_M_in [.long y0, .long y2, .long y4] (fm_mk S) (some (.int (f_M_in y0 y2 y4))) (fm_mk S) := by
  unfold f_M_in
  refine sp_of (L := [some (.long y0), none, some (.long y2), none, some (.long y4), none]) rfl (Nat.le_of_ble_eq_true rfl) (Nat.le_of_ble_eq_true rfl) ?_
  refine b_M_in_0 (fun q1_ => ?_) (fun q1_ => ?_)
  · simp only [if_pos q1_]
    refine b_M_in_17 ?_
    exact b_M_in_18 (by decide)
  · simp only [if_neg q1_]
    refine b_M_in_6 (fun q2_ => ?_) (fun q2_ => ?_)
    · simp only [if_pos q2_]
      refine b_M_in_17 ?_
      exact b_M_in_18 (by decide)
    · simp only [if_neg q2_]
      refine b_M_in_13 ?_
      exact b_M_in_18 (by decide)
def f_M_bad : Int32 := (-2)
def g_M_bad (S : fm_S) : fm_S := (fm_wI S 231 8 ((S.1 231 8) + 1))
theorem s_M_bad {d : Nat} {S : fm_S} : am_Sp d k_M_bad [.ref 231] (fm_mk S) (some (.int f_M_bad)) (fm_mk (g_M_bad S)) := by
  unfold f_M_bad g_M_bad
  refine sp_of (L := [some (.ref 231)]) rfl (Nat.le_of_ble_eq_true rfl) (Nat.le_of_ble_eq_true rfl) ?_
  exact b_M_bad_0
def f_M_full : Int32 := (-4)
def g_M_full (S : fm_S) : fm_S := (fm_wI S 231 10 ((S.1 231 10) + 1))
theorem s_M_full {d : Nat} {S : fm_S} : am_Sp d k_M_full [.ref 231] (fm_mk S) (some (.int f_M_full)) (fm_mk (g_M_full S)) := by
  unfold f_M_full g_M_full
  refine sp_of (L := [some (.ref 231)]) rfl (Nat.le_of_ble_eq_true rfl) (Nat.le_of_ble_eq_true rfl) ?_
  exact b_M_full_0
def g_M_addStreet (S : fm_S) (a0 : Nat) (x1 : Int32) (x2 : Int32) (x3 : Int32) : fm_S := (fm_wI (fm_wI (fm_wI (fm_wI (fm_wI (fm_wI (fm_wI (fm_wI S a0 ((5 + (S.1 a0 ((0 : Int32).toNatClampNeg))).toNatClampNeg) x1) a0 ((13 + (S.1 a0 ((0 : Int32).toNatClampNeg))).toNatClampNeg) x2) a0 ((21 + (S.1 a0 ((0 : Int32).toNatClampNeg))).toNatClampNeg) x3) a0 ((29 + (S.1 a0 ((0 : Int32).toNatClampNeg))).toNatClampNeg) (-1)) a0 ((37 + (S.1 a0 ((0 : Int32).toNatClampNeg))).toNatClampNeg) (-1)) a0 ((45 + (S.1 a0 ((0 : Int32).toNatClampNeg))).toNatClampNeg) 0) a0 ((0 : Int32).toNatClampNeg) (((fm_wI (fm_wI (fm_wI (fm_wI (fm_wI (fm_wI S a0 ((5 + (S.1 a0 ((0 : Int32).toNatClampNeg))).toNatClampNeg) x1) a0 ((13 + (S.1 a0 ((0 : Int32).toNatClampNeg))).toNatClampNeg) x2) a0 ((21 + (S.1 a0 ((0 : Int32).toNatClampNeg))).toNatClampNeg) x3) a0 ((29 + (S.1 a0 ((0 : Int32).toNatClampNeg))).toNatClampNeg) (-1)) a0 ((37 + (S.1 a0 ((0 : Int32).toNatClampNeg))).toNatClampNeg) (-1)) a0 ((45 + (S.1 a0 ((0 : Int32).toNatClampNeg))).toNatClampNeg) 0).1 a0 ((0 : Int32).toNatClampNeg)) + 1)) a0 ((3 : Int32).toNatClampNeg) 0)
theorem s_M_addStreet {d : Nat} {a0 : Nat} {x1 : Int32} {x2 : Int32} {x3 : Int32} {S : fm_S} (hs0 : fm_tg a0 = 100) (hs1 : vp_in 0 (fm_ln a0)) (hs2 : vp_in (5 + (S.1 a0 ((0 : Int32).toNatClampNeg))) (fm_ln a0)) (hs3 : vp_in (13 + (S.1 a0 ((0 : Int32).toNatClampNeg))) (fm_ln a0)) (hs4 : vp_in (21 + (S.1 a0 ((0 : Int32).toNatClampNeg))) (fm_ln a0)) (hs5 : vp_in (29 + (S.1 a0 ((0 : Int32).toNatClampNeg))) (fm_ln a0)) (hs6 : vp_in (37 + (S.1 a0 ((0 : Int32).toNatClampNeg))) (fm_ln a0)) (hs7 : vp_in (45 + (S.1 a0 ((0 : Int32).toNatClampNeg))) (fm_ln a0)) (hs8 : vp_in 3 (fm_ln a0)) : am_Sp d k_M_addStreet [.ref a0, .int x1, .int x2, .int x3] (fm_mk S) (none) (fm_mk (g_M_addStreet S a0 x1 x2 x3)) := by
  unfold g_M_addStreet
  refine sp_of (L := [some (.ref a0), some (.int x1), some (.int x2), some (.int x3), none]) rfl (Nat.le_of_ble_eq_true rfl) (Nat.le_of_ble_eq_true rfl) ?_
  exact b_M_addStreet_0 hs0 hs1 hs2 hs3 hs4 hs5 hs6 hs7 hs8
def f_M_isStreet (S : fm_S) (x1 : Int32) : Int32 := (f_M_in x1.toInt64 0 (((S.1 232 0) - 1).toInt64))
theorem fb_M_isStreet (S : fm_S) (x1 : Int32) : (f_M_isStreet S x1) = 0 ∨ (f_M_isStreet S x1) = 1 := by
  unfold f_M_isStreet
  repeat' split
  all_goals first | exact Or.inl rfl | exact Or.inr rfl | exact fb_M_in ..
theorem s_M_isStreet {d : Nat} {x1 : Int32} {S : fm_S} : am_Sp (d + 1) k_M_isStreet [.ref 231, .int x1] (fm_mk S) (some (.int (f_M_isStreet S x1))) (fm_mk S) := by
  unfold f_M_isStreet
  refine sp_of (L := [some (.ref 231), some (.int x1)]) rfl (Nat.le_of_ble_eq_true rfl) (Nat.le_of_ble_eq_true rfl) ?_
  refine b_M_isStreet_0 (s_M_in (y0 := x1.toInt64) (y2 := 0) (y4 := (((S.1 232 0) - 1).toInt64)) (S := S)) ?_
  exact b_M_isStreet_15 (fb_M_in x1.toInt64 0 (((S.1 232 0) - 1).toInt64))
def f_M_no : Int32 := (-3)
def g_M_no (S : fm_S) : fm_S := (fm_wI S 231 9 ((S.1 231 9) + 1))
theorem s_M_no {d : Nat} {S : fm_S} : am_Sp d k_M_no [.ref 231] (fm_mk S) (some (.int f_M_no)) (fm_mk (g_M_no S)) := by
  unfold f_M_no g_M_no
  refine sp_of (L := [some (.ref 231)]) rfl (Nat.le_of_ble_eq_true rfl) (Nat.le_of_ble_eq_true rfl) ?_
  exact b_M_no_0
def g_M_addLane (S : fm_S) (a0 : Nat) (x1 : Int32) (x2 : Int32) : fm_S := (fm_wI (fm_wI S a0 (((53 + (8 * x1)) + x2).toNatClampNeg) 1) a0 (((53 + (8 * x2)) + x1).toNatClampNeg) 1)
theorem s_M_addLane {d : Nat} {a0 : Nat} {x1 : Int32} {x2 : Int32} {S : fm_S} (hs0 : fm_tg a0 = 100) (hs1 : vp_in ((53 + (8 * x1)) + x2) (fm_ln a0)) (hs2 : vp_in ((53 + (8 * x2)) + x1) (fm_ln a0)) : am_Sp d k_M_addLane [.ref a0, .int x1, .int x2] (fm_mk S) (none) (fm_mk (g_M_addLane S a0 x1 x2)) := by
  unfold g_M_addLane
  refine sp_of (L := [some (.ref a0), some (.int x1), some (.int x2)]) rfl (Nat.le_of_ble_eq_true rfl) (Nat.le_of_ble_eq_true rfl) ?_
  exact b_M_addLane_0 hs0 hs1 hs2
def f_M_gate (S : fm_S) (x1 : Int32) (x2 : Int32) : Int32 := if (f_M_in x1.toInt64 0 3) = 0 then f_M_bad else if (f_M_isStreet S x2) = 0 then f_M_bad else (S.1 232 ((117 + x1).toNatClampNeg))
def g_M_gate (S : fm_S) (x1 : Int32) (x2 : Int32) : fm_S := if (f_M_in x1.toInt64 0 3) = 0 then (g_M_bad S) else if (f_M_isStreet S x2) = 0 then (g_M_bad S) else (fm_wI S 232 ((117 + x1).toNatClampNeg) x2)
theorem s_M_gate {d : Nat} {x1 : Int32} {x2 : Int32} {S : fm_S} (hs0 : ¬ (f_M_in x1.toInt64 0 3) = 0 → ¬ (f_M_isStreet S x2) = 0 → vp_in (117 + x1) 373) : am_Sp (d + 2) k_M_gate [.ref 231, .int x1, .int x2] (fm_mk S) (some (.int (f_M_gate S x1 x2))) (fm_mk (g_M_gate S x1 x2)) := by
  unfold f_M_gate g_M_gate
  refine sp_of (L := [some (.ref 231), some (.int x1), some (.int x2), none]) rfl (Nat.le_of_ble_eq_true rfl) (Nat.le_of_ble_eq_true rfl) ?_
  refine b_M_gate_0 (s_M_in (y0 := x1.toInt64) (y2 := 0) (y4 := 3) (S := S)) ?_
  refine b_M_gate_9 (fun q1_ => ?_) (fun q1_ => ?_)
  · simp only [if_pos q1_]
    refine b_M_gate_20 (s_M_bad (S := S)) ?_
    exact b_M_gate_24
  · simp only [if_neg q1_]
    refine b_M_gate_12 (s_M_isStreet (x1 := x2) (S := S)) ?_
    refine b_M_gate_17 (fun q2_ => ?_) (fun q2_ => ?_)
    · simp only [if_neg q2_]
      exact b_M_gate_25 (hs0 q1_ q2_)
    · simp only [if_pos q2_]
      refine b_M_gate_20 (s_M_bad (S := S)) ?_
      exact b_M_gate_24
def f_M_wind (S : fm_S) (x1 : Int32) (x2 : Int32) : Int32 := if (f_M_in x1.toInt64 0 3) = 0 then f_M_bad else if (f_M_in x2.toInt64 0 3) = 0 then f_M_bad else (S.1 232 ((121 + x1).toNatClampNeg))
def g_M_wind (S : fm_S) (x1 : Int32) (x2 : Int32) : fm_S := if (f_M_in x1.toInt64 0 3) = 0 then (g_M_bad S) else if (f_M_in x2.toInt64 0 3) = 0 then (g_M_bad S) else (fm_wI S 232 ((121 + x1).toNatClampNeg) x2)
theorem s_M_wind {d : Nat} {x1 : Int32} {x2 : Int32} {S : fm_S} (hs0 : ¬ (f_M_in x1.toInt64 0 3) = 0 → ¬ (f_M_in x2.toInt64 0 3) = 0 → vp_in (121 + x1) 373) : am_Sp (d + 1) k_M_wind [.ref 231, .int x1, .int x2] (fm_mk S) (some (.int (f_M_wind S x1 x2))) (fm_mk (g_M_wind S x1 x2)) := by
  unfold f_M_wind g_M_wind
  refine sp_of (L := [some (.ref 231), some (.int x1), some (.int x2), none]) rfl (Nat.le_of_ble_eq_true rfl) (Nat.le_of_ble_eq_true rfl) ?_
  refine b_M_wind_0 (s_M_in (y0 := x1.toInt64) (y2 := 0) (y4 := 3) (S := S)) ?_
  refine b_M_wind_9 (fun q1_ => ?_) (fun q1_ => ?_)
  · simp only [if_pos q1_]
    refine b_M_wind_24 (s_M_bad (S := S)) ?_
    exact b_M_wind_28
  · simp only [if_neg q1_]
    refine b_M_wind_12 (s_M_in (y0 := x2.toInt64) (y2 := 0) (y4 := 3) (S := S)) ?_
    refine b_M_wind_21 (fun q2_ => ?_) (fun q2_ => ?_)
    · simp only [if_neg q2_]
      exact b_M_wind_29 (hs0 q1_ q2_)
    · simp only [if_pos q2_]
      refine b_M_wind_24 (s_M_bad (S := S)) ?_
      exact b_M_wind_28
def g_M_addDish (S : fm_S) (a0 : Nat) (x1 : Int32) (x2 : Int32) (x3 : Int32) : fm_S := (fm_wI (fm_wI (fm_wI (fm_wI S a0 ((125 + (S.1 a0 ((1 : Int32).toNatClampNeg))).toNatClampNeg) x1) a0 ((131 + (S.1 a0 ((1 : Int32).toNatClampNeg))).toNatClampNeg) x2) a0 ((137 + (S.1 a0 ((1 : Int32).toNatClampNeg))).toNatClampNeg) x3) a0 ((1 : Int32).toNatClampNeg) (((fm_wI (fm_wI (fm_wI S a0 ((125 + (S.1 a0 ((1 : Int32).toNatClampNeg))).toNatClampNeg) x1) a0 ((131 + (S.1 a0 ((1 : Int32).toNatClampNeg))).toNatClampNeg) x2) a0 ((137 + (S.1 a0 ((1 : Int32).toNatClampNeg))).toNatClampNeg) x3).1 a0 ((1 : Int32).toNatClampNeg)) + 1))
theorem s_M_addDish {d : Nat} {a0 : Nat} {x1 : Int32} {x2 : Int32} {x3 : Int32} {S : fm_S} (hs0 : fm_tg a0 = 100) (hs1 : vp_in 1 (fm_ln a0)) (hs2 : vp_in (125 + (S.1 a0 ((1 : Int32).toNatClampNeg))) (fm_ln a0)) (hs3 : vp_in (131 + (S.1 a0 ((1 : Int32).toNatClampNeg))) (fm_ln a0)) (hs4 : vp_in (137 + (S.1 a0 ((1 : Int32).toNatClampNeg))) (fm_ln a0)) : am_Sp d k_M_addDish [.ref a0, .int x1, .int x2, .int x3] (fm_mk S) (none) (fm_mk (g_M_addDish S a0 x1 x2 x3)) := by
  unfold g_M_addDish
  refine sp_of (L := [some (.ref a0), some (.int x1), some (.int x2), some (.int x3), none]) rfl (Nat.le_of_ble_eq_true rfl) (Nat.le_of_ble_eq_true rfl) ?_
  exact b_M_addDish_0 hs0 hs1 hs2 hs3 hs4
def f_M_type (S : fm_S) (x1 : Int32) : Int32 := if (f_M_in x1.toInt64 0 127) = 0 then f_M_bad else if (S.1 231 5) = 150 then f_M_full else ((fm_wI (fm_wI S 236 ((S.1 231 5).toNatClampNeg) x1) 231 5 (((fm_wI S 236 ((S.1 231 5).toNatClampNeg) x1).1 231 5) + 1)).1 231 5)
def g_M_type (S : fm_S) (x1 : Int32) : fm_S := if (f_M_in x1.toInt64 0 127) = 0 then (g_M_bad S) else if (S.1 231 5) = 150 then (g_M_full S) else (fm_wI (fm_wI S 236 ((S.1 231 5).toNatClampNeg) x1) 231 5 (((fm_wI S 236 ((S.1 231 5).toNatClampNeg) x1).1 231 5) + 1))
theorem s_M_type {d : Nat} {x1 : Int32} {S : fm_S} (hs0 : ¬ (f_M_in x1.toInt64 0 127) = 0 → ¬ (S.1 231 5) = 150 → vp_in (S.1 231 5) 150) : am_Sp (d + 1) k_M_type [.ref 231, .int x1] (fm_mk S) (some (.int (f_M_type S x1))) (fm_mk (g_M_type S x1)) := by
  unfold f_M_type g_M_type
  refine sp_of (L := [some (.ref 231), some (.int x1)]) rfl (Nat.le_of_ble_eq_true rfl) (Nat.le_of_ble_eq_true rfl) ?_
  refine b_M_type_0 (s_M_in (y0 := x1.toInt64) (y2 := 0) (y4 := 127) (S := S)) ?_
  refine b_M_type_9 (fun q1_ => ?_) (fun q1_ => ?_)
  · simp only [if_neg q1_]
    refine b_M_type_17 (fun q2_ => ?_) (fun q2_ => ?_)
    · simp only [if_neg q2_]
      exact b_M_type_32 (hs0 q1_ q2_)
    · simp only [if_pos q2_]
      refine b_M_type_27 (s_M_full (S := S)) ?_
      exact b_M_type_31
  · simp only [if_pos q1_]
    refine b_M_type_12 (s_M_bad (S := S)) ?_
    exact b_M_type_16
def f_M_clear (S : fm_S) : Int32 := (S.1 231 5)
def g_M_clear (S : fm_S) : fm_S := (fm_wI S 231 5 0)
theorem s_M_clear {d : Nat} {S : fm_S} : am_Sp d k_M_clear [.ref 231] (fm_mk S) (some (.int (f_M_clear S))) (fm_mk (g_M_clear S)) := by
  unfold f_M_clear g_M_clear
  refine sp_of (L := [some (.ref 231), none]) rfl (Nat.le_of_ble_eq_true rfl) (Nat.le_of_ble_eq_true rfl) ?_
  exact b_M_clear_0
def f_M_byteAt (S : fm_S) (x1 : Int32) : Int32 := if (S.1 231 5) ≤ x1 then (-1) else (S.1 236 x1.toNatClampNeg)
theorem s_M_byteAt {d : Nat} {x1 : Int32} {S : fm_S} (hs0 : ¬ (S.1 231 5) ≤ x1 → vp_in x1 150) : am_Sp d k_M_byteAt [.ref 231, .int x1] (fm_mk S) (some (.int (f_M_byteAt S x1))) (fm_mk S) := by
  unfold f_M_byteAt
  refine sp_of (L := [some (.ref 231), some (.int x1)]) rfl (Nat.le_of_ble_eq_true rfl) (Nat.le_of_ble_eq_true rfl) ?_
  refine b_M_byteAt_0 (fun q1_ => ?_) (fun q1_ => ?_)
  · simp only [if_pos q1_]
    refine b_M_byteAt_17 ?_
    exact b_M_byteAt_18
  · simp only [if_neg q1_]
    refine b_M_byteAt_8 (hs0 q1_) ?_
    exact b_M_byteAt_18
def f_M_fails (S : fm_S) (x1 : Int32) : Int32 := if (S.1 231 5) ≤ x1 then 0 else 0
def g_M_fails (S : fm_S) (x1 : Int32) : fm_S := if (S.1 231 5) ≤ x1 then (fm_wI S 231 12 (S.1 231 5)) else (fm_wI S 231 12 x1)
theorem fb_M_fails (S : fm_S) (x1 : Int32) : (f_M_fails S x1) = 0 ∨ (f_M_fails S x1) = 1 := by
  unfold f_M_fails
  repeat' split
  all_goals first | exact Or.inl rfl | exact Or.inr rfl
theorem s_M_fails {d : Nat} {x1 : Int32} {S : fm_S} : am_Sp d k_M_fails [.ref 231, .int x1] (fm_mk S) (some (.int (f_M_fails S x1))) (fm_mk (g_M_fails S x1)) := by
  unfold f_M_fails g_M_fails
  refine sp_of (L := [some (.ref 231), some (.int x1)]) rfl (Nat.le_of_ble_eq_true rfl) (Nat.le_of_ble_eq_true rfl) ?_
  refine b_M_fails_0 (fun q1_ => ?_) (fun q1_ => ?_)
  · simp only [if_pos q1_]
    refine b_M_fails_13 ?_
    exact b_M_fails_17
  · simp only [if_neg q1_]
    refine b_M_fails_9 ?_
    exact b_M_fails_17
def f_M_isDish (S : fm_S) (x1 : Int32) : Int32 := (f_M_in x1.toInt64 0 (((S.1 232 1) - 1).toInt64))
theorem fb_M_isDish (S : fm_S) (x1 : Int32) : (f_M_isDish S x1) = 0 ∨ (f_M_isDish S x1) = 1 := by
  unfold f_M_isDish
  repeat' split
  all_goals first | exact Or.inl rfl | exact Or.inr rfl | exact fb_M_in ..
theorem s_M_isDish {d : Nat} {x1 : Int32} {S : fm_S} : am_Sp (d + 1) k_M_isDish [.ref 231, .int x1] (fm_mk S) (some (.int (f_M_isDish S x1))) (fm_mk S) := by
  unfold f_M_isDish
  refine sp_of (L := [some (.ref 231), some (.int x1)]) rfl (Nat.le_of_ble_eq_true rfl) (Nat.le_of_ble_eq_true rfl) ?_
  refine b_M_isDish_0 (s_M_in (y0 := x1.toInt64) (y2 := 0) (y4 := (((S.1 232 1) - 1).toInt64)) (S := S)) ?_
  exact b_M_isDish_15 (fb_M_in x1.toInt64 0 (((S.1 232 1) - 1).toInt64))
def f_M_windOf (S : fm_S) (x1 : Int32) : Int32 := (S.1 232 ((121 + (x1 - x1 / 4 * 4)).toNatClampNeg))
theorem s_M_windOf {d : Nat} {x1 : Int32} {S : fm_S} (hs0 : vp_in (121 + (x1 - x1 / 4 * 4)) 373) : am_Sp d k_M_windOf [.ref 231, .int x1] (fm_mk S) (some (.int (f_M_windOf S x1))) (fm_mk S) := by
  unfold f_M_windOf
  refine sp_of (L := [some (.ref 231), some (.int x1)]) rfl (Nat.le_of_ble_eq_true rfl) (Nat.le_of_ble_eq_true rfl) ?_
  exact b_M_windOf_0 hs0
def f_M_movedBy (x0 : Int32) (x1 : Int32) (x2 : Int32) (x3 : Int32) (x4 : Int32) (x5 : Int32) : Int32 := if x2 = x1 then (if x2 = 0 then (if x0 = 0 then (2 * x3) else if x0 = 1 then ((2 * x3) / 2) else if x0 = 2 then 0 else if x0 = 3 then (if (x4 - x4 / 7 * 7) = 5 then 0 else (2 * x3)) else if x0 = 4 then 0 else if ((2 * x3) / 2) ≤ 0 then 0 else (((2 * x3) / 2) + (2 * x5))) else if x0 = 0 then (2 * x3) else if x0 = 1 then ((2 * x3) / 2) else if x0 = 2 then (2 * x3) else if x0 = 3 then (if (x4 - x4 / 7 * 7) = 5 then 0 else (2 * x3)) else if x0 = 4 then (if (2 * x3) ≤ 3 then 0 else ((2 * x3) - 3)) else if ((2 * x3) / 2) ≤ 0 then 0 else (((2 * x3) / 2) + (2 * x5))) else if x2 = 0 then (if x0 = 0 then x3 else if x0 = 1 then (x3 / 2) else if x0 = 2 then 0 else if x0 = 3 then (if (x4 - x4 / 7 * 7) = 5 then 0 else x3) else if x0 = 4 then 0 else if (x3 / 2) ≤ 0 then 0 else ((x3 / 2) + (2 * x5))) else if x0 = 0 then x3 else if x0 = 1 then (x3 / 2) else if x0 = 2 then x3 else if x0 = 3 then (if (x4 - x4 / 7 * 7) = 5 then 0 else x3) else if x0 = 4 then (if x3 ≤ 3 then 0 else (x3 - 3)) else if (x3 / 2) ≤ 0 then 0 else ((x3 / 2) + (2 * x5))
theorem s_M_movedBy {d : Nat} {x0 : Int32} {x1 : Int32} {x2 : Int32} {x3 : Int32} {x4 : Int32} {x5 : Int32} {S : fm_S} : am_Sp d k_M_movedBy [.int x0, .int x1, .int x2, .int x3, .int x4, .int x5] (fm_mk S) (some (.int (f_M_movedBy x0 x1 x2 x3 x4 x5))) (fm_mk S) := by
  unfold f_M_movedBy
  refine sp_of (L := [some (.int x0), some (.int x1), some (.int x2), some (.int x3), some (.int x4), some (.int x5), none, none, none]) rfl (Nat.le_of_ble_eq_true rfl) (Nat.le_of_ble_eq_true rfl) ?_
  refine b_M_movedBy_0 (fun q1_ => ?_) (fun q1_ => ?_)
  · simp only [if_neg q1_]
    refine b_M_movedBy_11 ?_
    refine b_M_movedBy_12 (fun q28_ => ?_) (fun q28_ => ?_)
    · simp only [if_neg q28_]
      refine b_M_movedBy_22 ?_
      refine b_M_movedBy_24 ?_ ?_ ?_ ?_ ?_ ?_
      · intro q41_
        simp only [if_pos q41_]
        exact b_M_movedBy_68
      · intro q42_
        have n0_ : ¬ x0 = 0 := by rw [q42_]; decide
        simp only [if_neg n0_, if_pos q42_]
        exact b_M_movedBy_71
      · intro q43_
        have n0_ : ¬ x0 = 0 := by rw [q43_]; decide
        have n1_ : ¬ x0 = 1 := by rw [q43_]; decide
        simp only [if_neg n0_, if_neg n1_, if_pos q43_]
        exact b_M_movedBy_74
      · intro q44_
        have n0_ : ¬ x0 = 0 := by rw [q44_]; decide
        have n1_ : ¬ x0 = 1 := by rw [q44_]; decide
        have n2_ : ¬ x0 = 2 := by rw [q44_]; decide
        simp only [if_neg n0_, if_neg n1_, if_neg n2_, if_pos q44_]
        refine b_M_movedBy_77 (fun q45_ => ?_) (fun q45_ => ?_)
        · simp only [if_neg q45_]
          refine b_M_movedBy_90 ?_
          exact b_M_movedBy_92
        · simp only [if_pos q45_]
          refine b_M_movedBy_86 ?_
          exact b_M_movedBy_92
      · intro q46_
        have n0_ : ¬ x0 = 0 := by rw [q46_]; decide
        have n1_ : ¬ x0 = 1 := by rw [q46_]; decide
        have n2_ : ¬ x0 = 2 := by rw [q46_]; decide
        have n3_ : ¬ x0 = 3 := by rw [q46_]; decide
        simp only [if_neg n0_, if_neg n1_, if_neg n2_, if_neg n3_, if_pos q46_]
        refine b_M_movedBy_93 (fun q47_ => ?_) (fun q47_ => ?_)
        · simp only [if_pos q47_]
          refine b_M_movedBy_106 ?_
          exact b_M_movedBy_107
        · simp only [if_neg q47_]
          refine b_M_movedBy_99 ?_
          exact b_M_movedBy_107
      · intro q48_ q49_ q50_ q51_ q52_
        simp only [if_neg q48_, if_neg q49_, if_neg q50_, if_neg q51_, if_neg q52_]
        refine b_M_movedBy_108 (fun q53_ => ?_) (fun q53_ => ?_)
        · simp only [if_pos q53_]
          refine b_M_movedBy_123 ?_
          exact b_M_movedBy_124
        · simp only [if_neg q53_]
          refine b_M_movedBy_113 ?_
          exact b_M_movedBy_124
    · simp only [if_pos q28_]
      refine b_M_movedBy_18 ?_
      refine b_M_movedBy_24 ?_ ?_ ?_ ?_ ?_ ?_
      · intro q29_
        simp only [if_pos q29_]
        exact b_M_movedBy_68
      · intro q30_
        have n0_ : ¬ x0 = 0 := by rw [q30_]; decide
        simp only [if_neg n0_, if_pos q30_]
        exact b_M_movedBy_71
      · intro q31_
        have n0_ : ¬ x0 = 0 := by rw [q31_]; decide
        have n1_ : ¬ x0 = 1 := by rw [q31_]; decide
        simp only [if_neg n0_, if_neg n1_, if_pos q31_]
        exact b_M_movedBy_74
      · intro q32_
        have n0_ : ¬ x0 = 0 := by rw [q32_]; decide
        have n1_ : ¬ x0 = 1 := by rw [q32_]; decide
        have n2_ : ¬ x0 = 2 := by rw [q32_]; decide
        simp only [if_neg n0_, if_neg n1_, if_neg n2_, if_pos q32_]
        refine b_M_movedBy_77 (fun q33_ => ?_) (fun q33_ => ?_)
        · simp only [if_neg q33_]
          refine b_M_movedBy_90 ?_
          exact b_M_movedBy_92
        · simp only [if_pos q33_]
          refine b_M_movedBy_86 ?_
          exact b_M_movedBy_92
      · intro q34_
        have n0_ : ¬ x0 = 0 := by rw [q34_]; decide
        have n1_ : ¬ x0 = 1 := by rw [q34_]; decide
        have n2_ : ¬ x0 = 2 := by rw [q34_]; decide
        have n3_ : ¬ x0 = 3 := by rw [q34_]; decide
        simp only [if_neg n0_, if_neg n1_, if_neg n2_, if_neg n3_, if_pos q34_]
        refine b_M_movedBy_93 (fun _ => ?_) (fun z => absurd z (by decide))
        refine b_M_movedBy_106 ?_
        exact b_M_movedBy_107
      · intro q35_ q36_ q37_ q38_ q39_
        simp only [if_neg q35_, if_neg q36_, if_neg q37_, if_neg q38_, if_neg q39_]
        refine b_M_movedBy_108 (fun q40_ => ?_) (fun q40_ => ?_)
        · simp only [if_pos q40_]
          refine b_M_movedBy_123 ?_
          exact b_M_movedBy_124
        · simp only [if_neg q40_]
          refine b_M_movedBy_113 ?_
          exact b_M_movedBy_124
  · simp only [if_pos q1_]
    refine b_M_movedBy_5 ?_
    refine b_M_movedBy_12 (fun q2_ => ?_) (fun q2_ => ?_)
    · simp only [if_neg q2_]
      refine b_M_movedBy_22 ?_
      refine b_M_movedBy_24 ?_ ?_ ?_ ?_ ?_ ?_
      · intro q15_
        simp only [if_pos q15_]
        exact b_M_movedBy_68
      · intro q16_
        have n0_ : ¬ x0 = 0 := by rw [q16_]; decide
        simp only [if_neg n0_, if_pos q16_]
        exact b_M_movedBy_71
      · intro q17_
        have n0_ : ¬ x0 = 0 := by rw [q17_]; decide
        have n1_ : ¬ x0 = 1 := by rw [q17_]; decide
        simp only [if_neg n0_, if_neg n1_, if_pos q17_]
        exact b_M_movedBy_74
      · intro q18_
        have n0_ : ¬ x0 = 0 := by rw [q18_]; decide
        have n1_ : ¬ x0 = 1 := by rw [q18_]; decide
        have n2_ : ¬ x0 = 2 := by rw [q18_]; decide
        simp only [if_neg n0_, if_neg n1_, if_neg n2_, if_pos q18_]
        refine b_M_movedBy_77 (fun q19_ => ?_) (fun q19_ => ?_)
        · simp only [if_neg q19_]
          refine b_M_movedBy_90 ?_
          exact b_M_movedBy_92
        · simp only [if_pos q19_]
          refine b_M_movedBy_86 ?_
          exact b_M_movedBy_92
      · intro q20_
        have n0_ : ¬ x0 = 0 := by rw [q20_]; decide
        have n1_ : ¬ x0 = 1 := by rw [q20_]; decide
        have n2_ : ¬ x0 = 2 := by rw [q20_]; decide
        have n3_ : ¬ x0 = 3 := by rw [q20_]; decide
        simp only [if_neg n0_, if_neg n1_, if_neg n2_, if_neg n3_, if_pos q20_]
        refine b_M_movedBy_93 (fun q21_ => ?_) (fun q21_ => ?_)
        · simp only [if_pos q21_]
          refine b_M_movedBy_106 ?_
          exact b_M_movedBy_107
        · simp only [if_neg q21_]
          refine b_M_movedBy_99 ?_
          exact b_M_movedBy_107
      · intro q22_ q23_ q24_ q25_ q26_
        simp only [if_neg q22_, if_neg q23_, if_neg q24_, if_neg q25_, if_neg q26_]
        refine b_M_movedBy_108 (fun q27_ => ?_) (fun q27_ => ?_)
        · simp only [if_pos q27_]
          refine b_M_movedBy_123 ?_
          exact b_M_movedBy_124
        · simp only [if_neg q27_]
          refine b_M_movedBy_113 ?_
          exact b_M_movedBy_124
    · simp only [if_pos q2_]
      refine b_M_movedBy_18 ?_
      refine b_M_movedBy_24 ?_ ?_ ?_ ?_ ?_ ?_
      · intro q3_
        simp only [if_pos q3_]
        exact b_M_movedBy_68
      · intro q4_
        have n0_ : ¬ x0 = 0 := by rw [q4_]; decide
        simp only [if_neg n0_, if_pos q4_]
        exact b_M_movedBy_71
      · intro q5_
        have n0_ : ¬ x0 = 0 := by rw [q5_]; decide
        have n1_ : ¬ x0 = 1 := by rw [q5_]; decide
        simp only [if_neg n0_, if_neg n1_, if_pos q5_]
        exact b_M_movedBy_74
      · intro q6_
        have n0_ : ¬ x0 = 0 := by rw [q6_]; decide
        have n1_ : ¬ x0 = 1 := by rw [q6_]; decide
        have n2_ : ¬ x0 = 2 := by rw [q6_]; decide
        simp only [if_neg n0_, if_neg n1_, if_neg n2_, if_pos q6_]
        refine b_M_movedBy_77 (fun q7_ => ?_) (fun q7_ => ?_)
        · simp only [if_neg q7_]
          refine b_M_movedBy_90 ?_
          exact b_M_movedBy_92
        · simp only [if_pos q7_]
          refine b_M_movedBy_86 ?_
          exact b_M_movedBy_92
      · intro q8_
        have n0_ : ¬ x0 = 0 := by rw [q8_]; decide
        have n1_ : ¬ x0 = 1 := by rw [q8_]; decide
        have n2_ : ¬ x0 = 2 := by rw [q8_]; decide
        have n3_ : ¬ x0 = 3 := by rw [q8_]; decide
        simp only [if_neg n0_, if_neg n1_, if_neg n2_, if_neg n3_, if_pos q8_]
        refine b_M_movedBy_93 (fun _ => ?_) (fun z => absurd z (by decide))
        refine b_M_movedBy_106 ?_
        exact b_M_movedBy_107
      · intro q9_ q10_ q11_ q12_ q13_
        simp only [if_neg q9_, if_neg q10_, if_neg q11_, if_neg q12_, if_neg q13_]
        refine b_M_movedBy_108 (fun q14_ => ?_) (fun q14_ => ?_)
        · simp only [if_pos q14_]
          refine b_M_movedBy_123 ?_
          exact b_M_movedBy_124
        · simp only [if_neg q14_]
          refine b_M_movedBy_113 ?_
          exact b_M_movedBy_124
def f_M_has (x0 : Int32) (x1 : Int32) : Int32 := if ((x0 >>> (x1 &&& 31)) &&& 1) = 1 then 1 else 0
theorem fb_M_has (x0 : Int32) (x1 : Int32) : (f_M_has x0 x1) = 0 ∨ (f_M_has x0 x1) = 1 := by
  unfold f_M_has
  repeat' split
  all_goals first | exact Or.inl rfl | exact Or.inr rfl
theorem s_M_has {d : Nat} {x0 : Int32} {x1 : Int32} {S : fm_S} : am_Sp d k_M_has [.int x0, .int x1] (fm_mk S) (some (.int (f_M_has x0 x1))) (fm_mk S) := by
  unfold f_M_has
  refine sp_of (L := [some (.int x0), some (.int x1)]) rfl (Nat.le_of_ble_eq_true rfl) (Nat.le_of_ble_eq_true rfl) ?_
  refine b_M_has_0 (fun q1_ => ?_) (fun q1_ => ?_)
  · simp only [if_neg q1_]
    refine b_M_has_13 ?_
    exact b_M_has_14 (by decide)
  · simp only [if_pos q1_]
    refine b_M_has_9 ?_
    exact b_M_has_14 (by decide)
def f_M_bad10 : Int32 := (-10)
def g_M_bad10 (S : fm_S) : fm_S := (fm_wI S 231 8 ((S.1 231 8) + 1))
theorem s_M_bad10 {d : Nat} {S : fm_S} : am_Sp d k_M_bad10 [.ref 231] (fm_mk S) (some (.int f_M_bad10)) (fm_mk (g_M_bad10 S)) := by
  unfold f_M_bad10 g_M_bad10
  refine sp_of (L := [some (.ref 231)]) rfl (Nat.le_of_ble_eq_true rfl) (Nat.le_of_ble_eq_true rfl) ?_
  exact b_M_bad10_0
def f_M_note (S : fm_S) (x1 : Int32) (x2 : Int32) (x3 : Int32) (x4 : Int32) (x5 : Int32) : Int32 := if (f_M_isStreet S x1) = 0 then f_M_bad else if (f_M_in x2.toInt64 0 5) = 0 then f_M_bad else if (f_M_in x3.toInt64 1 60) = 0 then f_M_bad else if (f_M_in x4.toInt64 0 99) = 0 then f_M_bad else if (f_M_in x5.toInt64 0 1) = 0 then f_M_bad else if (S.1 232 2) = 6 then f_M_full else ((fm_wI (fm_wI (fm_wI (fm_wI (fm_wI (fm_wI S 232 ((143 + (S.1 232 2)).toNatClampNeg) x1) 232 (((143 + (S.1 232 2)) + 6).toNatClampNeg) x2) 232 (((143 + (S.1 232 2)) + 12).toNatClampNeg) x3) 232 (((143 + (S.1 232 2)) + 18).toNatClampNeg) x4) 232 (((143 + (S.1 232 2)) + 24).toNatClampNeg) x5) 232 2 (((fm_wI (fm_wI (fm_wI (fm_wI (fm_wI S 232 ((143 + (S.1 232 2)).toNatClampNeg) x1) 232 (((143 + (S.1 232 2)) + 6).toNatClampNeg) x2) 232 (((143 + (S.1 232 2)) + 12).toNatClampNeg) x3) 232 (((143 + (S.1 232 2)) + 18).toNatClampNeg) x4) 232 (((143 + (S.1 232 2)) + 24).toNatClampNeg) x5).1 232 2) + 1)).1 232 2)
def g_M_note (S : fm_S) (x1 : Int32) (x2 : Int32) (x3 : Int32) (x4 : Int32) (x5 : Int32) : fm_S := if (f_M_isStreet S x1) = 0 then (g_M_bad S) else if (f_M_in x2.toInt64 0 5) = 0 then (g_M_bad S) else if (f_M_in x3.toInt64 1 60) = 0 then (g_M_bad S) else if (f_M_in x4.toInt64 0 99) = 0 then (g_M_bad S) else if (f_M_in x5.toInt64 0 1) = 0 then (g_M_bad S) else if (S.1 232 2) = 6 then (g_M_full S) else (fm_wI (fm_wI (fm_wI (fm_wI (fm_wI (fm_wI S 232 ((143 + (S.1 232 2)).toNatClampNeg) x1) 232 (((143 + (S.1 232 2)) + 6).toNatClampNeg) x2) 232 (((143 + (S.1 232 2)) + 12).toNatClampNeg) x3) 232 (((143 + (S.1 232 2)) + 18).toNatClampNeg) x4) 232 (((143 + (S.1 232 2)) + 24).toNatClampNeg) x5) 232 2 (((fm_wI (fm_wI (fm_wI (fm_wI (fm_wI S 232 ((143 + (S.1 232 2)).toNatClampNeg) x1) 232 (((143 + (S.1 232 2)) + 6).toNatClampNeg) x2) 232 (((143 + (S.1 232 2)) + 12).toNatClampNeg) x3) 232 (((143 + (S.1 232 2)) + 18).toNatClampNeg) x4) 232 (((143 + (S.1 232 2)) + 24).toNatClampNeg) x5).1 232 2) + 1))
theorem s_M_note {d : Nat} {x1 : Int32} {x2 : Int32} {x3 : Int32} {x4 : Int32} {x5 : Int32} {S : fm_S} (hs0 : ¬ (f_M_isStreet S x1) = 0 → ¬ (f_M_in x2.toInt64 0 5) = 0 → ¬ (f_M_in x3.toInt64 1 60) = 0 → ¬ (f_M_in x4.toInt64 0 99) = 0 → ¬ (f_M_in x5.toInt64 0 1) = 0 → ¬ (S.1 232 2) = 6 → vp_in (143 + (S.1 232 2)) 373) (hs1 : ¬ (f_M_isStreet S x1) = 0 → ¬ (f_M_in x2.toInt64 0 5) = 0 → ¬ (f_M_in x3.toInt64 1 60) = 0 → ¬ (f_M_in x4.toInt64 0 99) = 0 → ¬ (f_M_in x5.toInt64 0 1) = 0 → ¬ (S.1 232 2) = 6 → vp_in ((143 + (S.1 232 2)) + 6) 373) (hs2 : ¬ (f_M_isStreet S x1) = 0 → ¬ (f_M_in x2.toInt64 0 5) = 0 → ¬ (f_M_in x3.toInt64 1 60) = 0 → ¬ (f_M_in x4.toInt64 0 99) = 0 → ¬ (f_M_in x5.toInt64 0 1) = 0 → ¬ (S.1 232 2) = 6 → vp_in ((143 + (S.1 232 2)) + 12) 373) (hs3 : ¬ (f_M_isStreet S x1) = 0 → ¬ (f_M_in x2.toInt64 0 5) = 0 → ¬ (f_M_in x3.toInt64 1 60) = 0 → ¬ (f_M_in x4.toInt64 0 99) = 0 → ¬ (f_M_in x5.toInt64 0 1) = 0 → ¬ (S.1 232 2) = 6 → vp_in ((143 + (S.1 232 2)) + 18) 373) (hs4 : ¬ (f_M_isStreet S x1) = 0 → ¬ (f_M_in x2.toInt64 0 5) = 0 → ¬ (f_M_in x3.toInt64 1 60) = 0 → ¬ (f_M_in x4.toInt64 0 99) = 0 → ¬ (f_M_in x5.toInt64 0 1) = 0 → ¬ (S.1 232 2) = 6 → vp_in ((143 + (S.1 232 2)) + 24) 373) : am_Sp (d + 2) k_M_note [.ref 231, .int x1, .int x2, .int x3, .int x4, .int x5] (fm_mk S) (some (.int (f_M_note S x1 x2 x3 x4 x5))) (fm_mk (g_M_note S x1 x2 x3 x4 x5)) := by
  unfold f_M_note g_M_note
  refine sp_of (L := [some (.ref 231), some (.int x1), some (.int x2), some (.int x3), some (.int x4), some (.int x5), none]) rfl (Nat.le_of_ble_eq_true rfl) (Nat.le_of_ble_eq_true rfl) ?_
  refine b_M_note_0 (s_M_isStreet (x1 := x1) (S := S)) ?_
  refine b_M_note_5 (fun q1_ => ?_) (fun q1_ => ?_)
  · simp only [if_pos q1_]
    refine b_M_note_56 (s_M_bad (S := S)) ?_
    exact b_M_note_60
  · simp only [if_neg q1_]
    refine b_M_note_8 (s_M_in (y0 := x2.toInt64) (y2 := 0) (y4 := 5) (S := S)) ?_
    refine b_M_note_17 (fun q2_ => ?_) (fun q2_ => ?_)
    · simp only [if_pos q2_]
      refine b_M_note_56 (s_M_bad (S := S)) ?_
      exact b_M_note_60
    · simp only [if_neg q2_]
      refine b_M_note_20 (s_M_in (y0 := x3.toInt64) (y2 := 1) (y4 := 60) (S := S)) ?_
      refine b_M_note_29 (fun q3_ => ?_) (fun q3_ => ?_)
      · simp only [if_pos q3_]
        refine b_M_note_56 (s_M_bad (S := S)) ?_
        exact b_M_note_60
      · simp only [if_neg q3_]
        refine b_M_note_32 (s_M_in (y0 := x4.toInt64) (y2 := 0) (y4 := 99) (S := S)) ?_
        refine b_M_note_42 (fun q4_ => ?_) (fun q4_ => ?_)
        · simp only [if_pos q4_]
          refine b_M_note_56 (s_M_bad (S := S)) ?_
          exact b_M_note_60
        · simp only [if_neg q4_]
          refine b_M_note_45 (s_M_in (y0 := x5.toInt64) (y2 := 0) (y4 := 1) (S := S)) ?_
          refine b_M_note_53 (fun q5_ => ?_) (fun q5_ => ?_)
          · simp only [if_neg q5_]
            refine b_M_note_61 (fun q6_ => ?_) (fun q6_ => ?_)
            · simp only [if_neg q6_]
              exact b_M_note_77 (hs0 q1_ q2_ q3_ q4_ q5_ q6_) (hs1 q1_ q2_ q3_ q4_ q5_ q6_) (hs2 q1_ q2_ q3_ q4_ q5_ q6_) (hs3 q1_ q2_ q3_ q4_ q5_ q6_) (hs4 q1_ q2_ q3_ q4_ q5_ q6_)
            · simp only [if_pos q6_]
              refine b_M_note_72 (s_M_full (S := S)) ?_
              exact b_M_note_76
          · simp only [if_pos q5_]
            refine b_M_note_56 (s_M_bad (S := S)) ?_
            exact b_M_note_60
def f_M_forget (S : fm_S) : Int32 := (S.1 232 2)
def g_M_forget (S : fm_S) : fm_S := (fm_wI S 232 2 0)
theorem s_M_forget {d : Nat} {S : fm_S} : am_Sp d k_M_forget [.ref 231] (fm_mk S) (some (.int (f_M_forget S))) (fm_mk (g_M_forget S)) := by
  unfold f_M_forget g_M_forget
  refine sp_of (L := [some (.ref 231), none]) rfl (Nat.le_of_ble_eq_true rfl) (Nat.le_of_ble_eq_true rfl) ?_
  exact b_M_forget_0
def f_M_part (S : fm_S) (x1 : Int32) : Int64 := if (f_M_in x1.toInt64 0 1) = 0 then f_M_bad.toInt64 else if x1 = 0 then (S.2.1 231 6) else (S.2.1 231 7)
def g_M_part (S : fm_S) (x1 : Int32) : fm_S := if (f_M_in x1.toInt64 0 1) = 0 then (g_M_bad S) else if x1 = 0 then S else S
theorem s_M_part {d : Nat} {x1 : Int32} {S : fm_S} : am_Sp (d + 1) k_M_part [.ref 231, .int x1] (fm_mk S) (some (.long (f_M_part S x1))) (fm_mk (g_M_part S x1)) := by
  unfold f_M_part g_M_part
  refine sp_of (L := [some (.ref 231), some (.int x1)]) rfl (Nat.le_of_ble_eq_true rfl) (Nat.le_of_ble_eq_true rfl) ?_
  refine b_M_part_0 (s_M_in (y0 := x1.toInt64) (y2 := 0) (y4 := 1) (S := S)) ?_
  refine b_M_part_7 (fun q1_ => ?_) (fun q1_ => ?_)
  · simp only [if_neg q1_]
    refine b_M_part_18 (fun q2_ => ?_) (fun q2_ => ?_)
    · simp only [if_neg q2_]
      refine b_M_part_29 ?_
      exact b_M_part_33
    · simp only [if_pos q2_]
      refine b_M_part_22 ?_
      exact b_M_part_33
  · simp only [if_pos q1_]
    refine b_M_part_10 (s_M_bad (S := S)) ?_
    refine b_M_part_14 ?_
    exact b_M_part_33
def f_M_status (S : fm_S) (x1 : Int32) : Int32 := if (f_M_in x1.toInt64 0 2) = 0 then (-1) else if x1 = 0 then (S.1 231 8) else if x1 = 1 then (S.1 231 9) else (S.1 231 10)
def g_M_status (S : fm_S) (x1 : Int32) : fm_S := if (f_M_in x1.toInt64 0 2) = 0 then (fm_wI S 231 8 ((S.1 231 8) + 1)) else if x1 = 0 then S else if x1 = 1 then S else S
theorem s_M_status {d : Nat} {x1 : Int32} {S : fm_S} : am_Sp (d + 1) k_M_status [.ref 231, .int x1] (fm_mk S) (some (.int (f_M_status S x1))) (fm_mk (g_M_status S x1)) := by
  unfold f_M_status g_M_status
  refine sp_of (L := [some (.ref 231), some (.int x1)]) rfl (Nat.le_of_ble_eq_true rfl) (Nat.le_of_ble_eq_true rfl) ?_
  refine b_M_status_0 (s_M_in (y0 := x1.toInt64) (y2 := 0) (y4 := 2) (S := S)) ?_
  refine b_M_status_9 (fun q1_ => ?_) (fun q1_ => ?_)
  · simp only [if_neg q1_]
    refine b_M_status_24 (fun q2_ => ?_) (fun q2_ => ?_)
    · simp only [if_neg q2_]
      refine b_M_status_35 (fun q3_ => ?_) (fun q3_ => ?_)
      · simp only [if_neg q3_]
        refine b_M_status_47 ?_
        exact b_M_status_51
      · simp only [if_pos q3_]
        refine b_M_status_40 ?_
        exact b_M_status_51
    · simp only [if_pos q2_]
      refine b_M_status_28 ?_
      exact b_M_status_51
  · simp only [if_pos q1_]
    exact b_M_status_12
def f_X_street (S : fm_S) (x1 : Int32) (x2 : Int32) (x3 : Int32) : Int32 := if (f_X_within x1 0 5) = 0 then f_X_bad else if (f_X_within x2 0 9) = 0 then f_X_bad else if (f_X_within x3 0 5) = 0 then f_X_bad else if (f_Town_addStreet S 1 x1 x2 x3) = (-1) then f_X_full else (f_Town_addStreet S 1 x1 x2 x3)
def g_X_street (S : fm_S) (x1 : Int32) (x2 : Int32) (x3 : Int32) : fm_S := if (f_X_within x1 0 5) = 0 then (g_X_bad S) else if (f_X_within x2 0 9) = 0 then (g_X_bad S) else if (f_X_within x3 0 5) = 0 then (g_X_bad S) else if (f_Town_addStreet S 1 x1 x2 x3) = (-1) then (g_X_full (g_Town_addStreet S 1 x1 x2 x3)) else (g_Town_addStreet S 1 x1 x2 x3)
theorem s_X_street {d : Nat} {x1 : Int32} {x2 : Int32} {x3 : Int32} {S : fm_S} (hs0 : ¬ (f_X_within x1 0 5) = 0 → ¬ (f_X_within x2 0 9) = 0 → ¬ (f_X_within x3 0 5) = 0 → (S.1 1 0) < 8 → vp_in (S.1 1 0) 8) : am_Sp (d + 1) k_X_street [.ref 0, .int x1, .int x2, .int x3] (fm_mk S) (some (.int (f_X_street S x1 x2 x3))) (fm_mk (g_X_street S x1 x2 x3)) := by
  unfold f_X_street g_X_street
  refine sp_of (L := [some (.ref 0), some (.int x1), some (.int x2), some (.int x3), none]) rfl (Nat.le_of_ble_eq_true rfl) (Nat.le_of_ble_eq_true rfl) ?_
  refine b_X_street_0 (s_X_within (x0 := x1) (x1 := 0) (x2 := 5) (S := S)) ?_
  refine b_X_street_6 (fun q1_ => ?_) (fun q1_ => ?_)
  · simp only [if_pos q1_]
    refine b_X_street_28 (s_X_bad (S := S)) ?_
    exact b_X_street_32
  · simp only [if_neg q1_]
    refine b_X_street_9 (s_X_within (x0 := x2) (x1 := 0) (x2 := 9) (S := S)) ?_
    refine b_X_street_16 (fun q2_ => ?_) (fun q2_ => ?_)
    · simp only [if_pos q2_]
      refine b_X_street_28 (s_X_bad (S := S)) ?_
      exact b_X_street_32
    · simp only [if_neg q2_]
      refine b_X_street_19 (s_X_within (x0 := x3) (x1 := 0) (x2 := 5) (S := S)) ?_
      refine b_X_street_25 (fun q3_ => ?_) (fun q3_ => ?_)
      · simp only [if_neg q3_]
        refine b_X_street_33 (s_Town_addStreet (a0 := 1) (x1 := x1) (x2 := x2) (x3 := x3) (S := S) (by decide +kernel) (hs0 q1_ q2_ q3_)) ?_
        refine b_X_street_43 (fun q4_ => ?_) (fun q4_ => ?_)
        · simp only [if_neg q4_]
          refine b_X_street_58 ?_
          exact b_X_street_60
        · simp only [if_pos q4_]
          refine b_X_street_51 (s_X_full (S := (g_Town_addStreet S 1 x1 x2 x3))) ?_
          refine b_X_street_55 ?_
          exact b_X_street_60
      · simp only [if_pos q3_]
        refine b_X_street_28 (s_X_bad (S := S)) ?_
        exact b_X_street_32
def f_Town_hasLane (S : fm_S) (a0 : Nat) (x1 : Int32) (x2 : Int32) : Int32 := (f_X_has (S.1 (a0 + 4) x1.toNatClampNeg) x2)
theorem fb_Town_hasLane (S : fm_S) (a0 : Nat) (x1 : Int32) (x2 : Int32) : (f_Town_hasLane S a0 x1 x2) = 0 ∨ (f_Town_hasLane S a0 x1 x2) = 1 := by
  unfold f_Town_hasLane
  repeat' split
  all_goals first | exact Or.inl rfl | exact Or.inr rfl | exact fb_X_has ..
theorem s_Town_hasLane {d : Nat} {a0 : Nat} {x1 : Int32} {x2 : Int32} {S : fm_S} (hs0 : fm_tg a0 = 6) (hs1 : vp_in x1 8) : am_Sp (d + 1) k_Town_hasLane [.ref a0, .int x1, .int x2] (fm_mk S) (some (.int (f_Town_hasLane S a0 x1 x2))) (fm_mk S) := by
  unfold f_Town_hasLane
  refine sp_of (L := [some (.ref a0), some (.int x1), some (.int x2)]) rfl (Nat.le_of_ble_eq_true rfl) (Nat.le_of_ble_eq_true rfl) ?_
  refine b_Town_hasLane_0 hs0 hs1 (s_X_has (x0 := (S.1 (a0 + 4) x1.toNatClampNeg)) (x1 := x2) (S := S)) ?_
  exact b_Town_hasLane_10 (fb_X_has (S.1 (a0 + 4) x1.toNatClampNeg) x2)
def f_X_gate (S : fm_S) (x1 : Int32) (x2 : Int32) : Int32 := if (f_X_isWind x1) = 0 then f_X_bad else if (f_X_isStreet S x2) = 0 then f_X_bad else (S.1 6 x1.toNatClampNeg)
def g_X_gate (S : fm_S) (x1 : Int32) (x2 : Int32) : fm_S := if (f_X_isWind x1) = 0 then (g_X_bad S) else if (f_X_isStreet S x2) = 0 then (g_X_bad S) else (fm_wI S 6 x1.toNatClampNeg x2)
theorem s_X_gate {d : Nat} {x1 : Int32} {x2 : Int32} {S : fm_S} (hs0 : ¬ (f_X_isWind x1) = 0 → ¬ (f_X_isStreet S x2) = 0 → vp_in x1 4) : am_Sp (d + 2) k_X_gate [.ref 0, .int x1, .int x2] (fm_mk S) (some (.int (f_X_gate S x1 x2))) (fm_mk (g_X_gate S x1 x2)) := by
  unfold f_X_gate g_X_gate
  refine sp_of (L := [some (.ref 0), some (.int x1), some (.int x2), none]) rfl (Nat.le_of_ble_eq_true rfl) (Nat.le_of_ble_eq_true rfl) ?_
  refine b_X_gate_0 (s_X_isWind (x0 := x1) (S := S)) ?_
  refine b_X_gate_4 (fun q1_ => ?_) (fun q1_ => ?_)
  · simp only [if_pos q1_]
    refine b_X_gate_15 (s_X_bad (S := S)) ?_
    exact b_X_gate_19
  · simp only [if_neg q1_]
    refine b_X_gate_7 (s_X_isStreet (x1 := x2) (S := S)) ?_
    refine b_X_gate_12 (fun q2_ => ?_) (fun q2_ => ?_)
    · simp only [if_neg q2_]
      exact b_X_gate_20 (hs0 q1_ q2_)
    · simp only [if_pos q2_]
      refine b_X_gate_15 (s_X_bad (S := S)) ?_
      exact b_X_gate_19
def f_X_dish (S : fm_S) (x1 : Int32) (x2 : Int32) (x3 : Int32) : Int32 := if (f_X_within x1 0 5) = 0 then f_X_bad else if (f_X_within x2 1 30) = 0 then f_X_bad else if (f_X_within x3 0 9) = 0 then f_X_bad else if (f_Town_addDish S 1 x1 x2 x3) = (-1) then f_X_full else (f_Town_addDish S 1 x1 x2 x3)
def g_X_dish (S : fm_S) (x1 : Int32) (x2 : Int32) (x3 : Int32) : fm_S := if (f_X_within x1 0 5) = 0 then (g_X_bad S) else if (f_X_within x2 1 30) = 0 then (g_X_bad S) else if (f_X_within x3 0 9) = 0 then (g_X_bad S) else if (f_Town_addDish S 1 x1 x2 x3) = (-1) then (g_X_full (g_Town_addDish S 1 x1 x2 x3)) else (g_Town_addDish S 1 x1 x2 x3)
theorem s_X_dish {d : Nat} {x1 : Int32} {x2 : Int32} {x3 : Int32} {S : fm_S} (hs0 : ¬ (f_X_within x1 0 5) = 0 → ¬ (f_X_within x2 1 30) = 0 → ¬ (f_X_within x3 0 9) = 0 → (S.1 1 7) < 6 → vp_in (S.1 1 7) 6) : am_Sp (d + 1) k_X_dish [.ref 0, .int x1, .int x2, .int x3] (fm_mk S) (some (.int (f_X_dish S x1 x2 x3))) (fm_mk (g_X_dish S x1 x2 x3)) := by
  unfold f_X_dish g_X_dish
  refine sp_of (L := [some (.ref 0), some (.int x1), some (.int x2), some (.int x3), none]) rfl (Nat.le_of_ble_eq_true rfl) (Nat.le_of_ble_eq_true rfl) ?_
  refine b_X_dish_0 (s_X_within (x0 := x1) (x1 := 0) (x2 := 5) (S := S)) ?_
  refine b_X_dish_6 (fun q1_ => ?_) (fun q1_ => ?_)
  · simp only [if_pos q1_]
    refine b_X_dish_29 (s_X_bad (S := S)) ?_
    exact b_X_dish_33
  · simp only [if_neg q1_]
    refine b_X_dish_9 (s_X_within (x0 := x2) (x1 := 1) (x2 := 30) (S := S)) ?_
    refine b_X_dish_16 (fun q2_ => ?_) (fun q2_ => ?_)
    · simp only [if_pos q2_]
      refine b_X_dish_29 (s_X_bad (S := S)) ?_
      exact b_X_dish_33
    · simp only [if_neg q2_]
      refine b_X_dish_19 (s_X_within (x0 := x3) (x1 := 0) (x2 := 9) (S := S)) ?_
      refine b_X_dish_26 (fun q3_ => ?_) (fun q3_ => ?_)
      · simp only [if_neg q3_]
        refine b_X_dish_34 (s_Town_addDish (a0 := 1) (x1 := x1) (x2 := x2) (x3 := x3) (S := S) (by decide +kernel) (hs0 q1_ q2_ q3_)) ?_
        refine b_X_dish_44 (fun q4_ => ?_) (fun q4_ => ?_)
        · simp only [if_neg q4_]
          refine b_X_dish_59 ?_
          exact b_X_dish_61
        · simp only [if_pos q4_]
          refine b_X_dish_52 (s_X_full (S := (g_Town_addDish S 1 x1 x2 x3))) ?_
          refine b_X_dish_56 ?_
          exact b_X_dish_61
      · simp only [if_pos q3_]
        refine b_X_dish_29 (s_X_bad (S := S)) ?_
        exact b_X_dish_33
def f_X_type (S : fm_S) (x1 : Int32) : Int32 := if (f_X_within x1 0 127) = 0 then f_X_bad else if (f_Reader_put S x1) = (-1) then f_X_full else (f_Reader_put S x1)
def g_X_type (S : fm_S) (x1 : Int32) : fm_S := if (f_X_within x1 0 127) = 0 then (g_X_bad S) else if (f_Reader_put S x1) = (-1) then (g_X_full (g_Reader_put S x1)) else (g_Reader_put S x1)
theorem s_X_type {d : Nat} {x1 : Int32} {S : fm_S} (hs0 : ¬ (f_X_within x1 0 127) = 0 → (S.1 67 0) < 150 → vp_in (S.1 67 0) 150) : am_Sp (d + 1) k_X_type [.ref 0, .int x1] (fm_mk S) (some (.int (f_X_type S x1))) (fm_mk (g_X_type S x1)) := by
  unfold f_X_type g_X_type
  refine sp_of (L := [some (.ref 0), some (.int x1), none]) rfl (Nat.le_of_ble_eq_true rfl) (Nat.le_of_ble_eq_true rfl) ?_
  refine b_X_type_0 (s_X_within (x0 := x1) (x1 := 0) (x2 := 127) (S := S)) ?_
  refine b_X_type_7 (fun q1_ => ?_) (fun q1_ => ?_)
  · simp only [if_neg q1_]
    refine b_X_type_15 (s_Reader_put (x1 := x1) (S := S) (hs0 q1_)) ?_
    refine b_X_type_23 (fun q2_ => ?_) (fun q2_ => ?_)
    · simp only [if_neg q2_]
      refine b_X_type_36 ?_
      exact b_X_type_37
    · simp only [if_pos q2_]
      refine b_X_type_29 (s_X_full (S := (g_Reader_put S x1))) ?_
      refine b_X_type_33 ?_
      exact b_X_type_37
  · simp only [if_pos q1_]
    refine b_X_type_10 (s_X_bad (S := S)) ?_
    exact b_X_type_14
def f_Town_windOn (S : fm_S) (a0 : Nat) (x1 : Int32) : Int32 := (S.1 (a0 + 6) (f_Math_floorMod x1 4).toNatClampNeg)
theorem s_Town_windOn {d : Nat} {a0 : Nat} {x1 : Int32} {S : fm_S} (hs0 : fm_tg a0 = 6) (hs1 : fm_tg (a0 + 6) = 100) (hs2 : vp_in (f_Math_floorMod x1 4) (fm_ln (a0 + 6))) : am_Sp (d + 1) k_Town_windOn [.ref a0, .int x1] (fm_mk S) (some (.int (f_Town_windOn S a0 x1))) (fm_mk S) := by
  unfold f_Town_windOn
  refine sp_of (L := [some (.ref a0), some (.int x1)]) rfl (Nat.le_of_ble_eq_true rfl) (Nat.le_of_ble_eq_true rfl) ?_
  refine b_Town_windOn_0 hs0 (s_Math_floorMod (x0 := x1) (x1 := 4) (S := S) (by decide)) ?_
  exact b_Town_windOn_9 hs1 hs2
def f_Town_pull (S : fm_S) (a0 : Nat) (x1 : Int32) (x2 : Int32) (x3 : Int32) (x4 : Int32) (x5 : Int32) : Int32 := (f_Nose_pull (S.1 (a0 + 1) x1.toNatClampNeg) (S.1 (a0 + 3) x1.toNatClampNeg) (S.1 (a0 + 7) x2.toNatClampNeg) x3 x4 x5)
theorem s_Town_pull {d : Nat} {a0 : Nat} {x1 : Int32} {x2 : Int32} {x3 : Int32} {x4 : Int32} {x5 : Int32} {S : fm_S} (hs0 : fm_tg a0 = 6) (hs1 : vp_in x1 8) (hs2 : vp_in x2 6) : am_Sp (d + 1) k_Town_pull [.ref a0, .int x1, .int x2, .int x3, .int x4, .int x5] (fm_mk S) (some (.int (f_Town_pull S a0 x1 x2 x3 x4 x5))) (fm_mk S) := by
  unfold f_Town_pull
  refine sp_of (L := [some (.ref a0), some (.int x1), some (.int x2), some (.int x3), some (.int x4), some (.int x5)]) rfl (Nat.le_of_ble_eq_true rfl) (Nat.le_of_ble_eq_true rfl) ?_
  refine b_Town_pull_0 hs0 hs1 hs2 (s_Nose_pull (x0 := (S.1 (a0 + 1) x1.toNatClampNeg)) (x1 := (S.1 (a0 + 3) x1.toNatClampNeg)) (x2 := (S.1 (a0 + 7) x2.toNatClampNeg)) (x3 := x3) (x4 := x4) (x5 := x5) (S := S)) ?_
  exact b_Town_pull_26
def f_X_undo (S : fm_S) : Int32 := if (f_Town_goBack S 1) = 0 then f_X_no else ((g_Town_goBack S 1).1 17 0)
def g_X_undo (S : fm_S) : fm_S := if (f_Town_goBack S 1) = 0 then (g_X_no (g_Town_goBack S 1)) else (g_Town_goBack S 1)
theorem s_X_undo {d : Nat} {S : fm_S} (hs0 : 0 < (S.1 1 14) → vp_in ((fm_wI S 1 14 ((S.1 1 14) - 1)).1 1 14) 8) (hs1 : 0 < (S.1 1 14) → fm_tg ((fm_wI S 1 14 ((S.1 1 14) - 1)).2.2 (1 + 20) (((fm_wI S 1 14 ((S.1 1 14) - 1)).1 1 14).toNatClampNeg)) = 2) (hs2 : 0 < (S.1 1 14) → fm_tg (1 + 16) = 2) : am_Sp (d + 3) k_X_undo [.ref 0] (fm_mk S) (some (.int (f_X_undo S))) (fm_mk (g_X_undo S)) := by
  unfold f_X_undo g_X_undo
  refine sp_of (L := [some (.ref 0)]) rfl (Nat.le_of_ble_eq_true rfl) (Nat.le_of_ble_eq_true rfl) ?_
  refine b_X_undo_0 (s_Town_goBack (a0 := 1) (S := S) (by decide +kernel) hs0 hs1 hs2) ?_
  refine b_X_undo_7 (fun q1_ => ?_) (fun q1_ => ?_)
  · simp only [if_pos q1_]
    refine b_X_undo_23 (s_X_no (S := (g_Town_goBack S 1))) ?_
    exact b_X_undo_27
  · simp only [if_neg q1_]
    refine b_X_undo_10 ?_
    exact b_X_undo_27
def f_X_of (S : fm_S) (x1 : Int32) (x2 : Int32) : Int32 := if (f_X_isStreet S x1) = 0 then f_X_badTen else if x2 = 0 then (S.1 2 x1.toNatClampNeg) else if x2 = 1 then (S.1 3 x1.toNatClampNeg) else if x2 = 2 then (S.1 4 x1.toNatClampNeg) else if x2 = 3 then (S.1 18 x1.toNatClampNeg) else if x2 = 4 then (S.1 19 x1.toNatClampNeg) else if x2 = 5 then (S.1 20 x1.toNatClampNeg) else f_X_badTen
def g_X_of (S : fm_S) (x1 : Int32) (x2 : Int32) : fm_S := if (f_X_isStreet S x1) = 0 then (g_X_badTen S) else if x2 = 0 then S else if x2 = 1 then S else if x2 = 2 then S else if x2 = 3 then S else if x2 = 4 then S else if x2 = 5 then S else (g_X_badTen S)
theorem s_X_of {d : Nat} {x1 : Int32} {x2 : Int32} {S : fm_S} (hs0 : ¬ (f_X_isStreet S x1) = 0 → x2 = 0 → vp_in x1 8) (hs1 : ¬ (f_X_isStreet S x1) = 0 → x2 = 1 → vp_in x1 8) (hs2 : ¬ (f_X_isStreet S x1) = 0 → x2 = 2 → vp_in x1 8) (hs3 : ¬ (f_X_isStreet S x1) = 0 → x2 = 3 → vp_in x1 8) (hs4 : ¬ (f_X_isStreet S x1) = 0 → x2 = 4 → vp_in x1 8) (hs5 : ¬ (f_X_isStreet S x1) = 0 → x2 = 5 → vp_in x1 8) : am_Sp (d + 2) k_X_of [.ref 0, .int x1, .int x2] (fm_mk S) (some (.int (f_X_of S x1 x2))) (fm_mk (g_X_of S x1 x2)) := by
  unfold f_X_of g_X_of
  refine sp_of (L := [some (.ref 0), some (.int x1), some (.int x2)]) rfl (Nat.le_of_ble_eq_true rfl) (Nat.le_of_ble_eq_true rfl) ?_
  refine b_X_of_0 (s_X_isStreet (x1 := x1) (S := S)) ?_
  refine b_X_of_5 (fun q1_ => ?_) (fun q1_ => ?_)
  · simp only [if_neg q1_]
    refine b_X_of_13 ?_ ?_ ?_ ?_ ?_ ?_ ?_
    · intro q2_
      simp only [if_pos q2_]
      exact b_X_of_52 (hs0 q1_ q2_)
    · intro q3_
      have n0_ : ¬ x2 = 0 := by rw [q3_]; decide
      simp only [if_neg n0_, if_pos q3_]
      exact b_X_of_62 (hs1 q1_ q3_)
    · intro q4_
      have n0_ : ¬ x2 = 0 := by rw [q4_]; decide
      have n1_ : ¬ x2 = 1 := by rw [q4_]; decide
      simp only [if_neg n0_, if_neg n1_, if_pos q4_]
      exact b_X_of_72 (hs2 q1_ q4_)
    · intro q5_
      have n0_ : ¬ x2 = 0 := by rw [q5_]; decide
      have n1_ : ¬ x2 = 1 := by rw [q5_]; decide
      have n2_ : ¬ x2 = 2 := by rw [q5_]; decide
      simp only [if_neg n0_, if_neg n1_, if_neg n2_, if_pos q5_]
      exact b_X_of_82 (hs3 q1_ q5_)
    · intro q6_
      have n0_ : ¬ x2 = 0 := by rw [q6_]; decide
      have n1_ : ¬ x2 = 1 := by rw [q6_]; decide
      have n2_ : ¬ x2 = 2 := by rw [q6_]; decide
      have n3_ : ¬ x2 = 3 := by rw [q6_]; decide
      simp only [if_neg n0_, if_neg n1_, if_neg n2_, if_neg n3_, if_pos q6_]
      exact b_X_of_95 (hs4 q1_ q6_)
    · intro q7_
      have n0_ : ¬ x2 = 0 := by rw [q7_]; decide
      have n1_ : ¬ x2 = 1 := by rw [q7_]; decide
      have n2_ : ¬ x2 = 2 := by rw [q7_]; decide
      have n3_ : ¬ x2 = 3 := by rw [q7_]; decide
      have n4_ : ¬ x2 = 4 := by rw [q7_]; decide
      simp only [if_neg n0_, if_neg n1_, if_neg n2_, if_neg n3_, if_neg n4_, if_pos q7_]
      exact b_X_of_108 (hs5 q1_ q7_)
    · intro q8_ q9_ q10_ q11_ q12_ q13_
      simp only [if_neg q8_, if_neg q9_, if_neg q10_, if_neg q11_, if_neg q12_, if_neg q13_]
      refine b_X_of_121 (s_X_badTen (S := S)) ?_
      exact b_X_of_125
  · simp only [if_pos q1_]
    refine b_X_of_8 (s_X_badTen (S := S)) ?_
    exact b_X_of_12
def f_X_note (S : fm_S) (x1 : Int32) (x2 : Int32) (x3 : Int32) (x4 : Int32) (x5 : Int32) : Int32 := if (f_X_isStreet S x1) = 0 then f_X_bad else if (f_X_within x2 0 5) = 0 then f_X_bad else if (f_X_isNoted x3 x4) = 0 then f_X_bad else if (f_X_within x5 0 1) = 0 then f_X_bad else if (f_Notes_add S 11 x1 x2 x3 x4 x5) = (-1) then f_X_full else (f_Notes_add S 11 x1 x2 x3 x4 x5)
def g_X_note (S : fm_S) (x1 : Int32) (x2 : Int32) (x3 : Int32) (x4 : Int32) (x5 : Int32) : fm_S := if (f_X_isStreet S x1) = 0 then (g_X_bad S) else if (f_X_within x2 0 5) = 0 then (g_X_bad S) else if (f_X_isNoted x3 x4) = 0 then (g_X_bad S) else if (f_X_within x5 0 1) = 0 then (g_X_bad S) else if (f_Notes_add S 11 x1 x2 x3 x4 x5) = (-1) then (g_X_full (g_Notes_add S 11 x1 x2 x3 x4 x5)) else (g_Notes_add S 11 x1 x2 x3 x4 x5)
theorem s_X_note {d : Nat} {x1 : Int32} {x2 : Int32} {x3 : Int32} {x4 : Int32} {x5 : Int32} {S : fm_S} (hs0 : ¬ (f_X_isStreet S x1) = 0 → ¬ (f_X_within x2 0 5) = 0 → ¬ (f_X_isNoted x3 x4) = 0 → ¬ (f_X_within x5 0 1) = 0 → (S.1 11 0) < 6 → vp_in (S.1 11 0) 6) (hs1 : ¬ (f_X_isStreet S x1) = 0 → ¬ (f_X_within x2 0 5) = 0 → ¬ (f_X_isNoted x3 x4) = 0 → ¬ (f_X_within x5 0 1) = 0 → (S.1 11 0) < 6 → vp_in ((fm_wI S (11 + 1) ((S.1 11 0).toNatClampNeg) x1).1 11 0) 6) (hs2 : ¬ (f_X_isStreet S x1) = 0 → ¬ (f_X_within x2 0 5) = 0 → ¬ (f_X_isNoted x3 x4) = 0 → ¬ (f_X_within x5 0 1) = 0 → (S.1 11 0) < 6 → vp_in ((fm_wI (fm_wI S (11 + 1) ((S.1 11 0).toNatClampNeg) x1) (11 + 2) (((fm_wI S (11 + 1) ((S.1 11 0).toNatClampNeg) x1).1 11 0).toNatClampNeg) x2).1 11 0) 6) (hs3 : ¬ (f_X_isStreet S x1) = 0 → ¬ (f_X_within x2 0 5) = 0 → ¬ (f_X_isNoted x3 x4) = 0 → ¬ (f_X_within x5 0 1) = 0 → (S.1 11 0) < 6 → vp_in ((fm_wI (fm_wI (fm_wI S (11 + 1) ((S.1 11 0).toNatClampNeg) x1) (11 + 2) (((fm_wI S (11 + 1) ((S.1 11 0).toNatClampNeg) x1).1 11 0).toNatClampNeg) x2) (11 + 3) (((fm_wI (fm_wI S (11 + 1) ((S.1 11 0).toNatClampNeg) x1) (11 + 2) (((fm_wI S (11 + 1) ((S.1 11 0).toNatClampNeg) x1).1 11 0).toNatClampNeg) x2).1 11 0).toNatClampNeg) x3).1 11 0) 6) (hs4 : ¬ (f_X_isStreet S x1) = 0 → ¬ (f_X_within x2 0 5) = 0 → ¬ (f_X_isNoted x3 x4) = 0 → ¬ (f_X_within x5 0 1) = 0 → (S.1 11 0) < 6 → vp_in ((fm_wI (fm_wI (fm_wI (fm_wI S (11 + 1) ((S.1 11 0).toNatClampNeg) x1) (11 + 2) (((fm_wI S (11 + 1) ((S.1 11 0).toNatClampNeg) x1).1 11 0).toNatClampNeg) x2) (11 + 3) (((fm_wI (fm_wI S (11 + 1) ((S.1 11 0).toNatClampNeg) x1) (11 + 2) (((fm_wI S (11 + 1) ((S.1 11 0).toNatClampNeg) x1).1 11 0).toNatClampNeg) x2).1 11 0).toNatClampNeg) x3) (11 + 4) (((fm_wI (fm_wI (fm_wI S (11 + 1) ((S.1 11 0).toNatClampNeg) x1) (11 + 2) (((fm_wI S (11 + 1) ((S.1 11 0).toNatClampNeg) x1).1 11 0).toNatClampNeg) x2) (11 + 3) (((fm_wI (fm_wI S (11 + 1) ((S.1 11 0).toNatClampNeg) x1) (11 + 2) (((fm_wI S (11 + 1) ((S.1 11 0).toNatClampNeg) x1).1 11 0).toNatClampNeg) x2).1 11 0).toNatClampNeg) x3).1 11 0).toNatClampNeg) x4).1 11 0) 6) : am_Sp (d + 2) k_X_note [.ref 0, .int x1, .int x2, .int x3, .int x4, .int x5] (fm_mk S) (some (.int (f_X_note S x1 x2 x3 x4 x5))) (fm_mk (g_X_note S x1 x2 x3 x4 x5)) := by
  unfold f_X_note g_X_note
  refine sp_of (L := [some (.ref 0), some (.int x1), some (.int x2), some (.int x3), some (.int x4), some (.int x5), none]) rfl (Nat.le_of_ble_eq_true rfl) (Nat.le_of_ble_eq_true rfl) ?_
  refine b_X_note_0 (s_X_isStreet (x1 := x1) (S := S)) ?_
  refine b_X_note_5 (fun q1_ => ?_) (fun q1_ => ?_)
  · simp only [if_pos q1_]
    refine b_X_note_36 (s_X_bad (S := S)) ?_
    exact b_X_note_40
  · simp only [if_neg q1_]
    refine b_X_note_8 (s_X_within (x0 := x2) (x1 := 0) (x2 := 5) (S := S)) ?_
    refine b_X_note_14 (fun q2_ => ?_) (fun q2_ => ?_)
    · simp only [if_pos q2_]
      refine b_X_note_36 (s_X_bad (S := S)) ?_
      exact b_X_note_40
    · simp only [if_neg q2_]
      refine b_X_note_17 (s_X_isNoted (x0 := x3) (x1 := x4) (S := S)) ?_
      refine b_X_note_23 (fun q3_ => ?_) (fun q3_ => ?_)
      · simp only [if_pos q3_]
        refine b_X_note_36 (s_X_bad (S := S)) ?_
        exact b_X_note_40
      · simp only [if_neg q3_]
        refine b_X_note_26 (s_X_within (x0 := x5) (x1 := 0) (x2 := 1) (S := S)) ?_
        refine b_X_note_33 (fun q4_ => ?_) (fun q4_ => ?_)
        · simp only [if_neg q4_]
          refine b_X_note_41 (s_Notes_add (a0 := 11) (x1 := x1) (x2 := x2) (x3 := x3) (x4 := x4) (x5 := x5) (S := S) (by decide +kernel) (hs0 q1_ q2_ q3_ q4_) (hs1 q1_ q2_ q3_ q4_) (hs2 q1_ q2_ q3_ q4_) (hs3 q1_ q2_ q3_ q4_) (hs4 q1_ q2_ q3_ q4_)) ?_
          refine b_X_note_58 (fun q5_ => ?_) (fun q5_ => ?_)
          · simp only [if_neg q5_]
            refine b_X_note_73 ?_
            exact b_X_note_75
          · simp only [if_pos q5_]
            refine b_X_note_66 (s_X_full (S := (g_Notes_add S 11 x1 x2 x3 x4 x5))) ?_
            refine b_X_note_70 ?_
            exact b_X_note_75
        · simp only [if_pos q4_]
          refine b_X_note_36 (s_X_bad (S := S)) ?_
          exact b_X_note_40
def f_M_street (S : fm_S) (x1 : Int32) (x2 : Int32) (x3 : Int32) : Int32 := if (f_M_in x1.toInt64 0 5) = 0 then f_M_bad else if (f_M_in x2.toInt64 0 9) = 0 then f_M_bad else if (f_M_in x3.toInt64 0 5) = 0 then f_M_bad else if (S.1 232 0) = 8 then f_M_full else (((g_M_addStreet S 232 x1 x2 x3).1 232 0) - 1)
def g_M_street (S : fm_S) (x1 : Int32) (x2 : Int32) (x3 : Int32) : fm_S := if (f_M_in x1.toInt64 0 5) = 0 then (g_M_bad S) else if (f_M_in x2.toInt64 0 9) = 0 then (g_M_bad S) else if (f_M_in x3.toInt64 0 5) = 0 then (g_M_bad S) else if (S.1 232 0) = 8 then (g_M_full S) else (g_M_addStreet S 232 x1 x2 x3)
theorem s_M_street {d : Nat} {x1 : Int32} {x2 : Int32} {x3 : Int32} {S : fm_S} (hs0 : ¬ (f_M_in x1.toInt64 0 5) = 0 → ¬ (f_M_in x2.toInt64 0 9) = 0 → ¬ (f_M_in x3.toInt64 0 5) = 0 → ¬ (S.1 232 0) = 8 → vp_in 0 (fm_ln 232)) (hs1 : ¬ (f_M_in x1.toInt64 0 5) = 0 → ¬ (f_M_in x2.toInt64 0 9) = 0 → ¬ (f_M_in x3.toInt64 0 5) = 0 → ¬ (S.1 232 0) = 8 → vp_in (5 + (S.1 232 ((0 : Int32).toNatClampNeg))) (fm_ln 232)) (hs2 : ¬ (f_M_in x1.toInt64 0 5) = 0 → ¬ (f_M_in x2.toInt64 0 9) = 0 → ¬ (f_M_in x3.toInt64 0 5) = 0 → ¬ (S.1 232 0) = 8 → vp_in (13 + (S.1 232 ((0 : Int32).toNatClampNeg))) (fm_ln 232)) (hs3 : ¬ (f_M_in x1.toInt64 0 5) = 0 → ¬ (f_M_in x2.toInt64 0 9) = 0 → ¬ (f_M_in x3.toInt64 0 5) = 0 → ¬ (S.1 232 0) = 8 → vp_in (21 + (S.1 232 ((0 : Int32).toNatClampNeg))) (fm_ln 232)) (hs4 : ¬ (f_M_in x1.toInt64 0 5) = 0 → ¬ (f_M_in x2.toInt64 0 9) = 0 → ¬ (f_M_in x3.toInt64 0 5) = 0 → ¬ (S.1 232 0) = 8 → vp_in (29 + (S.1 232 ((0 : Int32).toNatClampNeg))) (fm_ln 232)) (hs5 : ¬ (f_M_in x1.toInt64 0 5) = 0 → ¬ (f_M_in x2.toInt64 0 9) = 0 → ¬ (f_M_in x3.toInt64 0 5) = 0 → ¬ (S.1 232 0) = 8 → vp_in (37 + (S.1 232 ((0 : Int32).toNatClampNeg))) (fm_ln 232)) (hs6 : ¬ (f_M_in x1.toInt64 0 5) = 0 → ¬ (f_M_in x2.toInt64 0 9) = 0 → ¬ (f_M_in x3.toInt64 0 5) = 0 → ¬ (S.1 232 0) = 8 → vp_in (45 + (S.1 232 ((0 : Int32).toNatClampNeg))) (fm_ln 232)) (hs7 : ¬ (f_M_in x1.toInt64 0 5) = 0 → ¬ (f_M_in x2.toInt64 0 9) = 0 → ¬ (f_M_in x3.toInt64 0 5) = 0 → ¬ (S.1 232 0) = 8 → vp_in 3 (fm_ln 232)) : am_Sp (d + 1) k_M_street [.ref 231, .int x1, .int x2, .int x3] (fm_mk S) (some (.int (f_M_street S x1 x2 x3))) (fm_mk (g_M_street S x1 x2 x3)) := by
  unfold f_M_street g_M_street
  refine sp_of (L := [some (.ref 231), some (.int x1), some (.int x2), some (.int x3)]) rfl (Nat.le_of_ble_eq_true rfl) (Nat.le_of_ble_eq_true rfl) ?_
  refine b_M_street_0 (s_M_in (y0 := x1.toInt64) (y2 := 0) (y4 := 5) (S := S)) ?_
  refine b_M_street_9 (fun q1_ => ?_) (fun q1_ => ?_)
  · simp only [if_pos q1_]
    refine b_M_street_36 (s_M_bad (S := S)) ?_
    exact b_M_street_40
  · simp only [if_neg q1_]
    refine b_M_street_12 (s_M_in (y0 := x2.toInt64) (y2 := 0) (y4 := 9) (S := S)) ?_
    refine b_M_street_21 (fun q2_ => ?_) (fun q2_ => ?_)
    · simp only [if_pos q2_]
      refine b_M_street_36 (s_M_bad (S := S)) ?_
      exact b_M_street_40
    · simp only [if_neg q2_]
      refine b_M_street_24 (s_M_in (y0 := x3.toInt64) (y2 := 0) (y4 := 5) (S := S)) ?_
      refine b_M_street_33 (fun q3_ => ?_) (fun q3_ => ?_)
      · simp only [if_neg q3_]
        refine b_M_street_41 (fun q4_ => ?_) (fun q4_ => ?_)
        · simp only [if_neg q4_]
          refine b_M_street_57 (s_M_addStreet (a0 := 232) (x1 := x1) (x2 := x2) (x3 := x3) (S := S) (by decide +kernel) (hs0 q1_ q2_ q3_ q4_) (hs1 q1_ q2_ q3_ q4_) (hs2 q1_ q2_ q3_ q4_) (hs3 q1_ q2_ q3_ q4_) (hs4 q1_ q2_ q3_ q4_) (hs5 q1_ q2_ q3_ q4_) (hs6 q1_ q2_ q3_ q4_) (hs7 q1_ q2_ q3_ q4_)) ?_
          exact b_M_street_67
        · simp only [if_pos q4_]
          refine b_M_street_52 (s_M_full (S := S)) ?_
          exact b_M_street_56
      · simp only [if_pos q3_]
        refine b_M_street_36 (s_M_bad (S := S)) ?_
        exact b_M_street_40
def f_M_lane (S : fm_S) (x1 : Int32) (x2 : Int32) : Int32 := if (f_M_isStreet S x1) = 0 then f_M_bad else if (f_M_isStreet S x2) = 0 then f_M_bad else if x1 = x2 then f_M_bad else if (S.1 232 (((53 + (8 * x1)) + x2).toNatClampNeg)) = 1 then f_M_no else 1
def g_M_lane (S : fm_S) (x1 : Int32) (x2 : Int32) : fm_S := if (f_M_isStreet S x1) = 0 then (g_M_bad S) else if (f_M_isStreet S x2) = 0 then (g_M_bad S) else if x1 = x2 then (g_M_bad S) else if (S.1 232 (((53 + (8 * x1)) + x2).toNatClampNeg)) = 1 then (g_M_no S) else (g_M_addLane S 232 x1 x2)
theorem s_M_lane {d : Nat} {x1 : Int32} {x2 : Int32} {S : fm_S} (hs0 : ¬ (f_M_isStreet S x1) = 0 → ¬ (f_M_isStreet S x2) = 0 → ¬ x1 = x2 → vp_in ((53 + (8 * x1)) + x2) 373) (hs1 : ¬ (f_M_isStreet S x1) = 0 → ¬ (f_M_isStreet S x2) = 0 → ¬ x1 = x2 → ¬ (S.1 232 (((53 + (8 * x1)) + x2).toNatClampNeg)) = 1 → vp_in ((53 + (8 * x1)) + x2) (fm_ln 232)) (hs2 : ¬ (f_M_isStreet S x1) = 0 → ¬ (f_M_isStreet S x2) = 0 → ¬ x1 = x2 → ¬ (S.1 232 (((53 + (8 * x1)) + x2).toNatClampNeg)) = 1 → vp_in ((53 + (8 * x2)) + x1) (fm_ln 232)) : am_Sp (d + 2) k_M_lane [.ref 231, .int x1, .int x2] (fm_mk S) (some (.int (f_M_lane S x1 x2))) (fm_mk (g_M_lane S x1 x2)) := by
  unfold f_M_lane g_M_lane
  refine sp_of (L := [some (.ref 231), some (.int x1), some (.int x2)]) rfl (Nat.le_of_ble_eq_true rfl) (Nat.le_of_ble_eq_true rfl) ?_
  refine b_M_lane_0 (s_M_isStreet (x1 := x1) (S := S)) ?_
  refine b_M_lane_5 (fun q1_ => ?_) (fun q1_ => ?_)
  · simp only [if_pos q1_]
    refine b_M_lane_21 (s_M_bad (S := S)) ?_
    exact b_M_lane_25
  · simp only [if_neg q1_]
    refine b_M_lane_8 (s_M_isStreet (x1 := x2) (S := S)) ?_
    refine b_M_lane_13 (fun q2_ => ?_) (fun q2_ => ?_)
    · simp only [if_pos q2_]
      refine b_M_lane_21 (s_M_bad (S := S)) ?_
      exact b_M_lane_25
    · simp only [if_neg q2_]
      refine b_M_lane_16 (fun q3_ => ?_) (fun q3_ => ?_)
      · simp only [if_neg q3_]
        refine b_M_lane_26 (hs0 q1_ q2_ q3_) (fun q4_ => ?_) (fun q4_ => ?_)
        · simp only [if_neg q4_]
          refine b_M_lane_49 (s_M_addLane (a0 := 232) (x1 := x1) (x2 := x2) (S := S) (by decide +kernel) (hs1 q1_ q2_ q3_ q4_) (hs2 q1_ q2_ q3_ q4_)) ?_
          exact b_M_lane_58
        · simp only [if_pos q4_]
          refine b_M_lane_44 (s_M_no (S := S)) ?_
          exact b_M_lane_48
      · simp only [if_pos q3_]
        refine b_M_lane_21 (s_M_bad (S := S)) ?_
        exact b_M_lane_25
def f_M_dish (S : fm_S) (x1 : Int32) (x2 : Int32) (x3 : Int32) : Int32 := if (f_M_in x1.toInt64 0 5) = 0 then f_M_bad else if (f_M_in x2.toInt64 1 30) = 0 then f_M_bad else if (f_M_in x3.toInt64 0 9) = 0 then f_M_bad else if (S.1 232 1) = 6 then f_M_full else (((g_M_addDish S 232 x1 x2 x3).1 232 1) - 1)
def g_M_dish (S : fm_S) (x1 : Int32) (x2 : Int32) (x3 : Int32) : fm_S := if (f_M_in x1.toInt64 0 5) = 0 then (g_M_bad S) else if (f_M_in x2.toInt64 1 30) = 0 then (g_M_bad S) else if (f_M_in x3.toInt64 0 9) = 0 then (g_M_bad S) else if (S.1 232 1) = 6 then (g_M_full S) else (g_M_addDish S 232 x1 x2 x3)
theorem s_M_dish {d : Nat} {x1 : Int32} {x2 : Int32} {x3 : Int32} {S : fm_S} (hs0 : ¬ (f_M_in x1.toInt64 0 5) = 0 → ¬ (f_M_in x2.toInt64 1 30) = 0 → ¬ (f_M_in x3.toInt64 0 9) = 0 → ¬ (S.1 232 1) = 6 → vp_in 1 (fm_ln 232)) (hs1 : ¬ (f_M_in x1.toInt64 0 5) = 0 → ¬ (f_M_in x2.toInt64 1 30) = 0 → ¬ (f_M_in x3.toInt64 0 9) = 0 → ¬ (S.1 232 1) = 6 → vp_in (125 + (S.1 232 ((1 : Int32).toNatClampNeg))) (fm_ln 232)) (hs2 : ¬ (f_M_in x1.toInt64 0 5) = 0 → ¬ (f_M_in x2.toInt64 1 30) = 0 → ¬ (f_M_in x3.toInt64 0 9) = 0 → ¬ (S.1 232 1) = 6 → vp_in (131 + (S.1 232 ((1 : Int32).toNatClampNeg))) (fm_ln 232)) (hs3 : ¬ (f_M_in x1.toInt64 0 5) = 0 → ¬ (f_M_in x2.toInt64 1 30) = 0 → ¬ (f_M_in x3.toInt64 0 9) = 0 → ¬ (S.1 232 1) = 6 → vp_in (137 + (S.1 232 ((1 : Int32).toNatClampNeg))) (fm_ln 232)) : am_Sp (d + 1) k_M_dish [.ref 231, .int x1, .int x2, .int x3] (fm_mk S) (some (.int (f_M_dish S x1 x2 x3))) (fm_mk (g_M_dish S x1 x2 x3)) := by
  unfold f_M_dish g_M_dish
  refine sp_of (L := [some (.ref 231), some (.int x1), some (.int x2), some (.int x3)]) rfl (Nat.le_of_ble_eq_true rfl) (Nat.le_of_ble_eq_true rfl) ?_
  refine b_M_dish_0 (s_M_in (y0 := x1.toInt64) (y2 := 0) (y4 := 5) (S := S)) ?_
  refine b_M_dish_9 (fun q1_ => ?_) (fun q1_ => ?_)
  · simp only [if_pos q1_]
    refine b_M_dish_36 (s_M_bad (S := S)) ?_
    exact b_M_dish_40
  · simp only [if_neg q1_]
    refine b_M_dish_12 (s_M_in (y0 := x2.toInt64) (y2 := 1) (y4 := 30) (S := S)) ?_
    refine b_M_dish_21 (fun q2_ => ?_) (fun q2_ => ?_)
    · simp only [if_pos q2_]
      refine b_M_dish_36 (s_M_bad (S := S)) ?_
      exact b_M_dish_40
    · simp only [if_neg q2_]
      refine b_M_dish_24 (s_M_in (y0 := x3.toInt64) (y2 := 0) (y4 := 9) (S := S)) ?_
      refine b_M_dish_33 (fun q3_ => ?_) (fun q3_ => ?_)
      · simp only [if_neg q3_]
        refine b_M_dish_41 (fun q4_ => ?_) (fun q4_ => ?_)
        · simp only [if_neg q4_]
          refine b_M_dish_57 (s_M_addDish (a0 := 232) (x1 := x1) (x2 := x2) (x3 := x3) (S := S) (by decide +kernel) (hs0 q1_ q2_ q3_ q4_) (hs1 q1_ q2_ q3_ q4_) (hs2 q1_ q2_ q3_ q4_) (hs3 q1_ q2_ q3_ q4_)) ?_
          exact b_M_dish_67
        · simp only [if_pos q4_]
          refine b_M_dish_52 (s_M_full (S := S)) ?_
          exact b_M_dish_56
      · simp only [if_pos q3_]
        refine b_M_dish_36 (s_M_bad (S := S)) ?_
        exact b_M_dish_40
def f_M_movedIn (S : fm_S) (x1 : Int32) (x2 : Int32) (x3 : Int32) (x4 : Int32) : Int32 := if (S.1 232 ((37 + x1).toNatClampNeg)) = x2 then (f_M_movedBy (S.1 232 ((5 + x1).toNatClampNeg)) (S.1 232 ((21 + x1).toNatClampNeg)) x2 x3 x4 (S.1 232 ((45 + x1).toNatClampNeg))) else (f_M_movedBy (S.1 232 ((5 + x1).toNatClampNeg)) (S.1 232 ((21 + x1).toNatClampNeg)) x2 x3 x4 0)
theorem s_M_movedIn {d : Nat} {x1 : Int32} {x2 : Int32} {x3 : Int32} {x4 : Int32} {S : fm_S} (hs0 : vp_in (37 + x1) 373) (hs1 : (S.1 232 ((37 + x1).toNatClampNeg)) = x2 → vp_in (45 + x1) 373) (hs2 : (S.1 232 ((37 + x1).toNatClampNeg)) = x2 → vp_in (5 + x1) 373) (hs3 : (S.1 232 ((37 + x1).toNatClampNeg)) = x2 → vp_in (21 + x1) 373) (hs4 : ¬ (S.1 232 ((37 + x1).toNatClampNeg)) = x2 → vp_in (5 + x1) 373) (hs5 : ¬ (S.1 232 ((37 + x1).toNatClampNeg)) = x2 → vp_in (21 + x1) 373) : am_Sp (d + 1) k_M_movedIn [.ref 231, .int x1, .int x2, .int x3, .int x4] (fm_mk S) (some (.int (f_M_movedIn S x1 x2 x3 x4))) (fm_mk S) := by
  unfold f_M_movedIn
  refine sp_of (L := [some (.ref 231), some (.int x1), some (.int x2), some (.int x3), some (.int x4), none]) rfl (Nat.le_of_ble_eq_true rfl) (Nat.le_of_ble_eq_true rfl) ?_
  refine b_M_movedIn_0 hs0 (fun q1_ => ?_) (fun q1_ => ?_)
  · simp only [if_neg q1_]
    refine b_M_movedIn_25 ?_
    refine b_M_movedIn_26 (hs4 q1_) (hs5 q1_) (s_M_movedBy (x0 := (S.1 232 ((5 + x1).toNatClampNeg))) (x1 := (S.1 232 ((21 + x1).toNatClampNeg))) (x2 := x2) (x3 := x3) (x4 := x4) (x5 := 0) (S := S)) ?_
    exact b_M_movedIn_54
  · simp only [if_pos q1_]
    refine b_M_movedIn_13 (hs1 q1_) ?_
    refine b_M_movedIn_26 (hs2 q1_) (hs3 q1_) (s_M_movedBy (x0 := (S.1 232 ((5 + x1).toNatClampNeg))) (x1 := (S.1 232 ((21 + x1).toNatClampNeg))) (x2 := x2) (x3 := x3) (x4 := x4) (x5 := (S.1 232 ((45 + x1).toNatClampNeg))) (S := S)) ?_
    exact b_M_movedIn_54
def f_M_of (S : fm_S) (x1 : Int32) (x2 : Int32) : Int32 := if (f_M_isStreet S x1) = 0 then f_M_bad10 else if (f_M_in x2.toInt64 0 5) = 0 then f_M_bad10 else (S.1 232 (((5 + (8 * x2)) + x1).toNatClampNeg))
def g_M_of (S : fm_S) (x1 : Int32) (x2 : Int32) : fm_S := if (f_M_isStreet S x1) = 0 then (g_M_bad10 S) else if (f_M_in x2.toInt64 0 5) = 0 then (g_M_bad10 S) else S
theorem s_M_of {d : Nat} {x1 : Int32} {x2 : Int32} {S : fm_S} (hs0 : ¬ (f_M_isStreet S x1) = 0 → ¬ (f_M_in x2.toInt64 0 5) = 0 → vp_in ((5 + (8 * x2)) + x1) 373) : am_Sp (d + 2) k_M_of [.ref 231, .int x1, .int x2] (fm_mk S) (some (.int (f_M_of S x1 x2))) (fm_mk (g_M_of S x1 x2)) := by
  unfold f_M_of g_M_of
  refine sp_of (L := [some (.ref 231), some (.int x1), some (.int x2)]) rfl (Nat.le_of_ble_eq_true rfl) (Nat.le_of_ble_eq_true rfl) ?_
  refine b_M_of_0 (s_M_isStreet (x1 := x1) (S := S)) ?_
  refine b_M_of_5 (fun q1_ => ?_) (fun q1_ => ?_)
  · simp only [if_pos q1_]
    refine b_M_of_20 (s_M_bad10 (S := S)) ?_
    exact b_M_of_24
  · simp only [if_neg q1_]
    refine b_M_of_8 (s_M_in (y0 := x2.toInt64) (y2 := 0) (y4 := 5) (S := S)) ?_
    refine b_M_of_17 (fun q2_ => ?_) (fun q2_ => ?_)
    · simp only [if_neg q2_]
      exact b_M_of_25 (hs0 q1_ q2_)
    · simp only [if_pos q2_]
      refine b_M_of_20 (s_M_bad10 (S := S)) ?_
      exact b_M_of_24
def f_X_lane (S : fm_S) (x1 : Int32) (x2 : Int32) : Int32 := if (f_X_isStreet S x1) = 0 then f_X_bad else if (f_X_isStreet S x2) = 0 then f_X_bad else if x1 = x2 then f_X_bad else if (f_Town_hasLane S 1 x1 x2) = 0 then 1 else f_X_no
def g_X_lane (S : fm_S) (x1 : Int32) (x2 : Int32) : fm_S := if (f_X_isStreet S x1) = 0 then (g_X_bad S) else if (f_X_isStreet S x2) = 0 then (g_X_bad S) else if x1 = x2 then (g_X_bad S) else if (f_Town_hasLane S 1 x1 x2) = 0 then (g_Town_addLane S 1 x1 x2) else (g_X_no S)
theorem s_X_lane {d : Nat} {x1 : Int32} {x2 : Int32} {S : fm_S} (hs0 : ¬ (f_X_isStreet S x1) = 0 → ¬ (f_X_isStreet S x2) = 0 → ¬ x1 = x2 → vp_in x1 8) (hs1 : ¬ (f_X_isStreet S x1) = 0 → ¬ (f_X_isStreet S x2) = 0 → ¬ x1 = x2 → (f_Town_hasLane S 1 x1 x2) = 0 → vp_in x2 8) : am_Sp (d + 2) k_X_lane [.ref 0, .int x1, .int x2] (fm_mk S) (some (.int (f_X_lane S x1 x2))) (fm_mk (g_X_lane S x1 x2)) := by
  unfold f_X_lane g_X_lane
  refine sp_of (L := [some (.ref 0), some (.int x1), some (.int x2)]) rfl (Nat.le_of_ble_eq_true rfl) (Nat.le_of_ble_eq_true rfl) ?_
  refine b_X_lane_0 (s_X_isStreet (x1 := x1) (S := S)) ?_
  refine b_X_lane_5 (fun q1_ => ?_) (fun q1_ => ?_)
  · simp only [if_pos q1_]
    refine b_X_lane_21 (s_X_bad (S := S)) ?_
    exact b_X_lane_25
  · simp only [if_neg q1_]
    refine b_X_lane_8 (s_X_isStreet (x1 := x2) (S := S)) ?_
    refine b_X_lane_13 (fun q2_ => ?_) (fun q2_ => ?_)
    · simp only [if_pos q2_]
      refine b_X_lane_21 (s_X_bad (S := S)) ?_
      exact b_X_lane_25
    · simp only [if_neg q2_]
      refine b_X_lane_16 (fun q3_ => ?_) (fun q3_ => ?_)
      · simp only [if_neg q3_]
        refine b_X_lane_26 (s_Town_hasLane (a0 := 1) (x1 := x1) (x2 := x2) (S := S) (by decide +kernel) (hs0 q1_ q2_ q3_)) ?_
        refine b_X_lane_35 (fun q4_ => ?_) (fun q4_ => ?_)
        · simp only [if_pos q4_]
          refine b_X_lane_43 (s_Town_addLane (a0 := 1) (x1 := x1) (x2 := x2) (S := S) (by decide +kernel) (hs0 q1_ q2_ q3_) (hs1 q1_ q2_ q3_ q4_)) ?_
          exact b_X_lane_52
        · simp only [if_neg q4_]
          refine b_X_lane_38 (s_X_no (S := S)) ?_
          exact b_X_lane_42
      · simp only [if_pos q3_]
        refine b_X_lane_21 (s_X_bad (S := S)) ?_
        exact b_X_lane_25
def f_Cook_pullFromAir (S : fm_S) (a1 : Nat) (x2 : Int32) (x3 : Int32) : Int32 := (f_Town_pull S 1 x3 x2 (S.1 57 x3.toNatClampNeg) (S.1 a1 0) (f_Days_ahead S a1 x3 (S.1 8 x2.toNatClampNeg)))
theorem s_Cook_pullFromAir {d : Nat} {a1 : Nat} {x2 : Int32} {x3 : Int32} {S : fm_S} (hs0 : vp_in x2 6) (hs1 : fm_tg a1 = 2) (hs2 : vp_in x3 8) : am_Sp (d + 2) k_Cook_pullFromAir [.ref 54, .ref a1, .int x2, .int x3] (fm_mk S) (some (.int (f_Cook_pullFromAir S a1 x2 x3))) (fm_mk S) := by
  unfold f_Cook_pullFromAir
  refine sp_of (L := [some (.ref 54), some (.ref a1), some (.int x2), some (.int x3), none]) rfl (Nat.le_of_ble_eq_true rfl) (Nat.le_of_ble_eq_true rfl) ?_
  refine b_Cook_pullFromAir_0 hs0 hs1 (s_Days_ahead (a0 := a1) (x1 := x3) (x2 := (S.1 8 x2.toNatClampNeg)) (S := S) hs1 hs2) ?_
  refine b_Cook_pullFromAir_14 hs2 hs1 (s_Town_pull (a0 := 1) (x1 := x3) (x2 := x2) (x3 := (S.1 57 x3.toNatClampNeg)) (x4 := (S.1 a1 0)) (x5 := (f_Days_ahead S a1 x3 (S.1 8 x2.toNatClampNeg))) (S := S) (by decide +kernel) hs2 hs0) ?_
  exact b_Cook_pullFromAir_40
