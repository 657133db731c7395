/-! rules as weakest preconditions: printed by wip/whole/gen15.py -/
theorem p_Notes_cravings_0 {d : Nat} {a0 : Nat} {x1 : Int32} {x2 : Int32} {o3 : Option Value} {o4 : Option Value} {S : fm_S} {Q : Int32 → fm_S → Prop}
    (W : am_Po vI (d + 3) k_Notes_cravings 5 [some (.ref a0), some (.int x1), some (.int x2), some (.int 0), some (.int 0)] [] S Q) :
    am_Po vI (d + 3) k_Notes_cravings 0 [some (.ref a0), some (.int x1), some (.int x2), o3, o4] [] S Q := by
  refine po_of (fun _ nx => b_Notes_cravings_0 nx) ?_
  exact W
theorem e_Notes_cravings {d : Nat} {a0 : Nat} {x1 : Int32} {x2 : Int32} {S : fm_S} {Q : Int32 → fm_S → Prop}
    (W : am_Po vI (d + 3) k_Notes_cravings 5 [some (.ref a0), some (.int x1), some (.int x2), some (.int 0), some (.int 0)] [] S Q) :
    am_Ps vI (d + 3) k_Notes_cravings [.ref a0, .int x1, .int x2] S Q := ps_of (L := [some (.ref a0), some (.int x1), some (.int x2), none, none]) rfl (Nat.le_of_ble_eq_true rfl) (Nat.le_of_ble_eq_true rfl) (p_Notes_cravings_0 W)
theorem p_Notes_cravings_5 {d : Nat} {a0 : Nat} {x1 : Int32} {x2 : Int32} {x3 : Int32} {x4 : Int32} {S : fm_S} {Q : Int32 → fm_S → Prop}
    (W : (6 ≤ x4 → Q x3 S) ∧ (¬ 6 ≤ x4 → (fm_tg a0 = 4) ∧ am_Ps vI (d + 2) k_Notes_allSo [.ref a0, .int x1, .int x2, .int x4] S fun v4 S3 => (∀ v6 : Int32, v6 = (if v4 = 0 then x3 else x3 ||| (1 <<< (x4 &&& 31))) → (am_Po vI (d + 3) k_Notes_cravings 5 [some (.ref a0), some (.int x1), some (.int x2), some (.int v6), some (.int (x4 + 1))] [] S3 Q)))) :
    am_Po vI (d + 3) k_Notes_cravings 5 [some (.ref a0), some (.int x1), some (.int x2), some (.int x3), some (.int x4)] [] S Q := by
  by_cases q1 : 6 ≤ x4
  · have W := W.1 q1
    refine po_of (fun _ nx => b_Notes_cravings_5 (fun _ => nx) (fun z => absurd q1 z)) ?_
    exact ⟨_, _, b_Notes_cravings_36, W⟩
  · have W := W.2 q1
    refine po_of (fun _ nx => b_Notes_cravings_5 (fun z => absurd z q1) (fun _ => nx)) ?_
    obtain ⟨g2, W⟩ := W
    obtain ⟨v4, S3, h7, W⟩ := W
    refine po_of (fun _ nx => b_Notes_cravings_12 g2 h7 nx) ?_
    have J : ∀ v6 : Int32, v6 = (if v4 = 0 then x3 else x3 ||| (1 <<< (x4 &&& 31))) → am_Po vI (d + 3) k_Notes_cravings 30 [some (.ref a0), some (.int x1), some (.int x2), some (.int v6), some (.int x4)] [] S3 Q := by
      intro v6 v6_
      have W := W v6 v6_
      refine po_of (fun _ nx => b_Notes_cravings_30 nx) ?_
      exact W
    by_cases q5 : v4 = 0
    · refine po_of (fun _ nx => b_Notes_cravings_20 (fun _ => nx) (fun z => absurd q5 z)) ?_
      exact J _ (by simp only [if_pos q5])
    · refine po_of (fun _ nx => b_Notes_cravings_20 (fun z => absurd z q5) (fun _ => nx)) ?_
      refine po_of (fun _ nx => b_Notes_cravings_23 nx) ?_
      exact J _ (by simp only [if_neg q5])
abbrev H_Notes_cravings_5 (d : Nat) (a0 : Nat) (x1 : Int32) (x2 : Int32) (x3 : Int32) (x4 : Int32) (S : fm_S) (Q : Int32 → fm_S → Prop) : Prop := am_Po vI (d + 3) k_Notes_cravings 5 [some (.ref a0), some (.int x1), some (.int x2), some (.int x3), some (.int x4)] [] S Q
theorem p_Notes_allSo_0 {d : Nat} {a0 : Nat} {x1 : Int32} {x2 : Int32} {x3 : Int32} {o4 : Option Value} {o5 : Option Value} {S : fm_S} {Q : Int32 → fm_S → Prop}
    (W : am_Po vI (d + 2) k_Notes_allSo 3 [some (.ref a0), some (.int x1), some (.int x2), some (.int x3), some (.int 0), o5] [] S Q) :
    am_Po vI (d + 2) k_Notes_allSo 0 [some (.ref a0), some (.int x1), some (.int x2), some (.int x3), o4, o5] [] S Q := by
  refine po_of (fun _ nx => b_Notes_allSo_0 nx) ?_
  exact W
theorem e_Notes_allSo {d : Nat} {a0 : Nat} {x1 : Int32} {x2 : Int32} {x3 : Int32} {S : fm_S} {Q : Int32 → fm_S → Prop}
    (W : am_Po vI (d + 2) k_Notes_allSo 3 [some (.ref a0), some (.int x1), some (.int x2), some (.int x3), some (.int 0), none] [] S Q) :
    am_Ps vI (d + 2) k_Notes_allSo [.ref a0, .int x1, .int x2, .int x3] S Q := ps_of (L := [some (.ref a0), some (.int x1), some (.int x2), some (.int x3), none, none]) rfl (Nat.le_of_ble_eq_true rfl) (Nat.le_of_ble_eq_true rfl) (p_Notes_allSo_0 W)
theorem p_Notes_allSo_3 {d : Nat} {a0 : Nat} {x1 : Int32} {x2 : Int32} {x3 : Int32} {x4 : Int32} {o5 : Option Value} {S : fm_S} {Q : Int32 → fm_S → Prop}
    (W : (fm_tg a0 = 4) ∧ ((S.1 a0 0) ≤ x4 → Q 1 S) ∧ (¬ (S.1 a0 0) ≤ x4 → (vp_in x4 6) ∧ ((S.1 (a0 + 1) x4.toNatClampNeg) = x1 → (fm_tg a0 = 4) ∧ (vp_in x4 6) ∧ ∀ v8 : Int32, v8 = (if (S.1 (a0 + 5) x4.toNatClampNeg) = 1 then (1 : Int32) else (0 : Int32)) → (((f_Nose_opensAlone x2 x3 (S.1 (a0 + 2) x4.toNatClampNeg) (S.1 (a0 + 3) x4.toNatClampNeg) (S.1 (a0 + 4) x4.toNatClampNeg)) = v8 → am_Po vI (d + 2) k_Notes_allSo 3 [some (.ref a0), some (.int x1), some (.int x2), some (.int x3), some (.int (x4 + 1)), some (.int (f_Nose_opensAlone x2 x3 (S.1 (a0 + 2) x4.toNatClampNeg) (S.1 (a0 + 3) x4.toNatClampNeg) (S.1 (a0 + 4) x4.toNatClampNeg)))] [] S Q) ∧ (¬ (f_Nose_opensAlone x2 x3 (S.1 (a0 + 2) x4.toNatClampNeg) (S.1 (a0 + 3) x4.toNatClampNeg) (S.1 (a0 + 4) x4.toNatClampNeg)) = v8 → Q 0 S))) ∧ (¬ (S.1 (a0 + 1) x4.toNatClampNeg) = x1 → am_Po vI (d + 2) k_Notes_allSo 3 [some (.ref a0), some (.int x1), some (.int x2), some (.int x3), some (.int (x4 + 1)), o5] [] S Q))) :
    am_Po vI (d + 2) k_Notes_allSo 3 [some (.ref a0), some (.int x1), some (.int x2), some (.int x3), some (.int x4), o5] [] S Q := by
  obtain ⟨g1, W⟩ := W
  by_cases q2 : (S.1 a0 0) ≤ x4
  · have W := W.1 q2
    refine po_of (fun _ nx => b_Notes_allSo_3 g1 (fun _ => nx) (fun z => absurd q2 z)) ?_
    exact ⟨_, _, b_Notes_allSo_80, W⟩
  · have W := W.2 q2
    refine po_of (fun _ nx => b_Notes_allSo_3 g1 (fun z => absurd z q2) (fun _ => nx)) ?_
    obtain ⟨g3, W⟩ := W
    by_cases q4 : (S.1 (a0 + 1) x4.toNatClampNeg) = x1
    · have W := W.1 q4
      refine po_of (fun _ nx => b_Notes_allSo_12 g1 g3 (fun z => absurd q4 z) (fun _ => nx)) ?_
      refine po_of (fun _ nx => b_Notes_allSo_23 g1 g3 (s_Nose_opensAlone (x0 := x2) (x1 := x3) (x2 := (S.1 (a0 + 2) x4.toNatClampNeg)) (x3 := (S.1 (a0 + 3) x4.toNatClampNeg)) (x4 := (S.1 (a0 + 4) x4.toNatClampNeg)) (S := S)) nx) ?_
      obtain ⟨g5, W⟩ := W
      obtain ⟨g6, W⟩ := W
      have J : ∀ v8 : Int32, v8 = (if (S.1 (a0 + 5) x4.toNatClampNeg) = 1 then (1 : Int32) else (0 : Int32)) → am_Po vI (d + 2) k_Notes_allSo 69 [some (.ref a0), some (.int x1), some (.int x2), some (.int x3), some (.int x4), some (.int (f_Nose_opensAlone x2 x3 (S.1 (a0 + 2) x4.toNatClampNeg) (S.1 (a0 + 3) x4.toNatClampNeg) (S.1 (a0 + 4) x4.toNatClampNeg)))] [.int v8, .int (f_Nose_opensAlone x2 x3 (S.1 (a0 + 2) x4.toNatClampNeg) (S.1 (a0 + 3) x4.toNatClampNeg) (S.1 (a0 + 4) x4.toNatClampNeg))] S Q := by
        intro v8 v8_
        have W := W v8 v8_
        by_cases q9 : (f_Nose_opensAlone x2 x3 (S.1 (a0 + 2) x4.toNatClampNeg) (S.1 (a0 + 3) x4.toNatClampNeg) (S.1 (a0 + 4) x4.toNatClampNeg)) = v8
        · have W := W.1 q9
          refine po_of (fun _ nx => b_Notes_allSo_69 (fun _ => nx) (fun z => absurd q9 z)) ?_
          refine po_of (fun _ nx => b_Notes_allSo_74 nx) ?_
          exact W
        · have W := W.2 q9
          refine po_of (fun _ nx => b_Notes_allSo_69 (fun z => absurd z q9) (fun _ => nx)) ?_
          exact ⟨_, _, b_Notes_allSo_72, W⟩
      by_cases q7 : (S.1 (a0 + 5) x4.toNatClampNeg) = 1
      · refine po_of (fun _ nx => b_Notes_allSo_49 g5 g6 (fun z => absurd q7 z) (fun _ => nx)) ?_
        refine po_of (fun _ nx => b_Notes_allSo_64 nx) ?_
        exact J _ (by simp only [if_pos q7])
      · refine po_of (fun _ nx => b_Notes_allSo_49 g5 g6 (fun _ => nx) (fun z => absurd z q7)) ?_
        refine po_of (fun _ nx => b_Notes_allSo_68 nx) ?_
        exact J _ (by simp only [if_neg q7])
    · have W := W.2 q4
      refine po_of (fun _ nx => b_Notes_allSo_12 g1 g3 (fun _ => nx) (fun z => absurd z q4)) ?_
      refine po_of (fun _ nx => b_Notes_allSo_74 nx) ?_
      exact W
abbrev H_Notes_allSo_3 (d : Nat) (a0 : Nat) (x1 : Int32) (x2 : Int32) (x3 : Int32) (x4 : Int32) (o5 : Option Value) (S : fm_S) (Q : Int32 → fm_S → Prop) : Prop := am_Po vI (d + 2) k_Notes_allSo 3 [some (.ref a0), some (.int x1), some (.int x2), some (.int x3), some (.int x4), o5] [] S Q
theorem p_Notes_bestTrial_0 {d : Nat} {a0 : Nat} {x1 : Int32} {x2 : Int32} {x3 : Int32} {x4 : Int32} {o5 : Option Value} {o6 : Option Value} {o7 : Option Value} {o8 : Option Value} {o9 : Option Value} {o10 : Option Value} {S : fm_S} {Q : Int32 → fm_S → Prop}
    (W : (fm_tg a0 = 4) ∧ am_Ps vI (d + 3) k_Notes_cravings [.ref a0, .int x1, .int x2] S fun v3 S2 => ((v3 = 0 → Q (-1) S2) ∧ (¬ v3 = 0 → am_Po vI (d + 4) k_Notes_bestTrial 25 [some (.ref a0), some (.int x1), some (.int x2), some (.int x3), some (.int x4), some (.int v3), some (.int (-1)), some (.int 7), some (.int 0), o9, o10] [] S2 Q))) :
    am_Po vI (d + 4) k_Notes_bestTrial 0 [some (.ref a0), some (.int x1), some (.int x2), some (.int x3), some (.int x4), o5, o6, o7, o8, o9, o10] [] S Q := by
  obtain ⟨g1, W⟩ := W
  obtain ⟨v3, S2, h5, W⟩ := W
  refine po_of (fun _ nx => b_Notes_bestTrial_0 g1 h5 nx) ?_
  by_cases q4 : v3 = 0
  · have W := W.1 q4
    refine po_of (fun _ nx => b_Notes_bestTrial_6 (fun z => absurd q4 z) (fun _ => nx)) ?_
    exact ⟨_, _, b_Notes_bestTrial_13, W⟩
  · have W := W.2 q4
    refine po_of (fun _ nx => b_Notes_bestTrial_6 (fun _ => nx) (fun z => absurd z q4)) ?_
    refine po_of (fun _ nx => b_Notes_bestTrial_15 nx) ?_
    exact W
theorem e_Notes_bestTrial {d : Nat} {a0 : Nat} {x1 : Int32} {x2 : Int32} {x3 : Int32} {x4 : Int32} {S : fm_S} {Q : Int32 → fm_S → Prop}
    (W : (fm_tg a0 = 4) ∧ am_Ps vI (d + 3) k_Notes_cravings [.ref a0, .int x1, .int x2] S fun v3 S2 => ((v3 = 0 → Q (-1) S2) ∧ (¬ v3 = 0 → am_Po vI (d + 4) k_Notes_bestTrial 25 [some (.ref a0), some (.int x1), some (.int x2), some (.int x3), some (.int x4), some (.int v3), some (.int (-1)), some (.int 7), some (.int 0), none, none] [] S2 Q))) :
    am_Ps vI (d + 4) k_Notes_bestTrial [.ref a0, .int x1, .int x2, .int x3, .int x4] S Q := ps_of (L := [some (.ref a0), some (.int x1), some (.int x2), some (.int x3), some (.int x4), none, none, none, none, none, none]) rfl (Nat.le_of_ble_eq_true rfl) (Nat.le_of_ble_eq_true rfl) (p_Notes_bestTrial_0 W)
theorem p_Notes_bestTrial_25 {d : Nat} {a0 : Nat} {x1 : Int32} {x2 : Int32} {x3 : Int32} {x4 : Int32} {x5 : Int32} {x6 : Int32} {x7 : Int32} {x8 : Int32} {o9 : Option Value} {o10 : Option Value} {S : fm_S} {Q : Int32 → fm_S → Prop}
    (W : (6 ≤ x8 → Q x6 S) ∧ (¬ 6 ≤ x8 → ∀ v3 : Int32, v3 = (if x7 ≤ (f_Math_max (n_Notes_openers S x5 x2 x8 x3 x4 6) ((f_Int_bitCount x5) - (n_Notes_openers S x5 x2 x8 x3 x4 6))) then x6 else x8) → ∀ v4 : Int32, v4 = (if x7 ≤ (f_Math_max (n_Notes_openers S x5 x2 x8 x3 x4 6) ((f_Int_bitCount x5) - (n_Notes_openers S x5 x2 x8 x3 x4 6))) then x7 else (f_Math_max (n_Notes_openers S x5 x2 x8 x3 x4 6) ((f_Int_bitCount x5) - (n_Notes_openers S x5 x2 x8 x3 x4 6)))) → (am_Po vI (d + 4) k_Notes_bestTrial 25 [some (.ref a0), some (.int x1), some (.int x2), some (.int x3), some (.int x4), some (.int x5), some (.int v3), some (.int v4), some (.int (x8 + 1)), some (.int (n_Notes_openers S x5 x2 x8 x3 x4 6)), some (.int (f_Math_max (n_Notes_openers S x5 x2 x8 x3 x4 6) ((f_Int_bitCount x5) - (n_Notes_openers S x5 x2 x8 x3 x4 6))))] [] S Q))) :
    am_Po vI (d + 4) k_Notes_bestTrial 25 [some (.ref a0), some (.int x1), some (.int x2), some (.int x3), some (.int x4), some (.int x5), some (.int x6), some (.int x7), some (.int x8), o9, o10] [] S Q := by
  by_cases q1 : 6 ≤ x8
  · have W := W.1 q1
    refine po_of (fun _ nx => b_Notes_bestTrial_25 (fun _ => nx) (fun z => absurd q1 z)) ?_
    exact ⟨_, _, b_Notes_bestTrial_81, W⟩
  · have W := W.2 q1
    refine po_of (fun _ nx => b_Notes_bestTrial_25 (fun z => absurd z q1) (fun _ => nx)) ?_
    refine po_of (fun _ nx => b_Notes_bestTrial_32 (s_Notes_openers (x0 := x5) (x1 := x2) (x2 := x8) (x3 := x3) (x4 := x4) (S := S)) nx) ?_
    refine po_of (fun _ nx => b_Notes_bestTrial_43 (s_Int_bitCount (x0 := x5) (S := S)) nx) ?_
    refine po_of (fun _ nx => b_Notes_bestTrial_52 (s_Math_max (x0 := (n_Notes_openers S x5 x2 x8 x3 x4 6)) (x1 := ((f_Int_bitCount x5) - (n_Notes_openers S x5 x2 x8 x3 x4 6))) (S := S)) nx) ?_
    have J : ∀ v3 : Int32, v3 = (if x7 ≤ (f_Math_max (n_Notes_openers S x5 x2 x8 x3 x4 6) ((f_Int_bitCount x5) - (n_Notes_openers S x5 x2 x8 x3 x4 6))) then x6 else x8) → ∀ v4 : Int32, v4 = (if x7 ≤ (f_Math_max (n_Notes_openers S x5 x2 x8 x3 x4 6) ((f_Int_bitCount x5) - (n_Notes_openers S x5 x2 x8 x3 x4 6))) then x7 else (f_Math_max (n_Notes_openers S x5 x2 x8 x3 x4 6) ((f_Int_bitCount x5) - (n_Notes_openers S x5 x2 x8 x3 x4 6)))) → am_Po vI (d + 4) k_Notes_bestTrial 75 [some (.ref a0), some (.int x1), some (.int x2), some (.int x3), some (.int x4), some (.int x5), some (.int v3), some (.int v4), some (.int x8), some (.int (n_Notes_openers S x5 x2 x8 x3 x4 6)), some (.int (f_Math_max (n_Notes_openers S x5 x2 x8 x3 x4 6) ((f_Int_bitCount x5) - (n_Notes_openers S x5 x2 x8 x3 x4 6))))] [] S Q := by
      intro v3 v3_ v4 v4_
      have W := W v3 v3_ v4 v4_
      refine po_of (fun _ nx => b_Notes_bestTrial_75 nx) ?_
      exact W
    by_cases q2 : x7 ≤ (f_Math_max (n_Notes_openers S x5 x2 x8 x3 x4 6) ((f_Int_bitCount x5) - (n_Notes_openers S x5 x2 x8 x3 x4 6)))
    · refine po_of (fun _ nx => b_Notes_bestTrial_58 (fun _ => nx) (fun z => absurd q2 z)) ?_
      exact J _ (by simp only [if_pos q2]) _ (by simp only [if_pos q2])
    · refine po_of (fun _ nx => b_Notes_bestTrial_58 (fun z => absurd z q2) (fun _ => nx)) ?_
      refine po_of (fun _ nx => b_Notes_bestTrial_67 nx) ?_
      exact J _ (by simp only [if_neg q2]) _ (by simp only [if_neg q2])
abbrev H_Notes_bestTrial_25 (d : Nat) (a0 : Nat) (x1 : Int32) (x2 : Int32) (x3 : Int32) (x4 : Int32) (x5 : Int32) (x6 : Int32) (x7 : Int32) (x8 : Int32) (o9 : Option Value) (o10 : Option Value) (S : fm_S) (Q : Int32 → fm_S → Prop) : Prop := am_Po vI (d + 4) k_Notes_bestTrial 25 [some (.ref a0), some (.int x1), some (.int x2), some (.int x3), some (.int x4), some (.int x5), some (.int x6), some (.int x7), some (.int x8), o9, o10] [] S Q
theorem p_Frac_chance_0 {d : Nat} {x1 : Int32} {x2 : Int32} {x3 : Int32} {o4 : Option Value} {o5 : Option Value} {o6 : Option Value} {o7 : Option Value} {o8 : Option Value} {o9 : Option Value} {S : fm_S} {Q : Unit → fm_S → Prop}
    (W : am_Po vV (d + 1) k_Frac_chance 6 [some (.ref 122), some (.int x1), some (.int x2), some (.int x3), some (.long 0), none, some (.int x2), o7, o8, o9] [] S Q) :
    am_Po vV (d + 1) k_Frac_chance 0 [some (.ref 122), some (.int x1), some (.int x2), some (.int x3), o4, o5, o6, o7, o8, o9] [] S Q := by
  refine po_of (fun _ nx => b_Frac_chance_0 nx) ?_
  exact W
theorem e_Frac_chance {d : Nat} {x1 : Int32} {x2 : Int32} {x3 : Int32} {S : fm_S} {Q : Unit → fm_S → Prop}
    (W : am_Po vV (d + 1) k_Frac_chance 6 [some (.ref 122), some (.int x1), some (.int x2), some (.int x3), some (.long 0), none, some (.int x2), none, none, none] [] S Q) :
    am_Ps vV (d + 1) k_Frac_chance [.ref 122, .int x1, .int x2, .int x3] S Q := ps_of (L := [some (.ref 122), some (.int x1), some (.int x2), some (.int x3), none, none, none, none, none, none]) rfl (Nat.le_of_ble_eq_true rfl) (Nat.le_of_ble_eq_true rfl) (p_Frac_chance_0 W)
theorem p_Frac_chance_6 {d : Nat} {x1 : Int32} {x2 : Int32} {x3 : Int32} {y4 : Int64} {x6 : Int32} {o7 : Option Value} {o8 : Option Value} {o9 : Option Value} {S : fm_S} {Q : Unit → fm_S → Prop}
    (W : (x1 < x6 → (vp_in x1 9) ∧ am_Ps vL d k_Frac_commonPart [.long y4, .long (n_pow (10 : Int32).toInt64 x1.toNatClampNeg)] S fun v4 S3 => (((lg_cmp v4 0) ≤ 0 → Q () S3) ∧ (¬ (lg_cmp v4 0) ≤ 0 → (¬ v4 = 0) ∧ Q () (fm_wL (fm_wL S3 122 0 (y4 / v4)) 122 1 ((n_pow (10 : Int32).toInt64 x1.toNatClampNeg) / v4))))) ∧ (¬ x1 < x6 → am_Ps vL d k_Frac_choices [.int x1, .int x6] S fun v9 S8 => ((vp_in x6 9) ∧ (vp_in (x1 - x6) 9) ∧ am_Po vV (d + 1) k_Frac_chance 6 [some (.ref 122), some (.int x1), some (.int x2), some (.int x3), some (.long (y4 + ((v9 * (n_pow (10 - x3).toInt64 x6.toNatClampNeg)) * (n_pow x3.toInt64 (x1 - x6).toNatClampNeg)))), none, some (.int (x6 + 1)), o7, o8, o9] [] S8 Q))) :
    am_Po vV (d + 1) k_Frac_chance 6 [some (.ref 122), some (.int x1), some (.int x2), some (.int x3), some (.long y4), none, some (.int x6), o7, o8, o9] [] S Q := by
  by_cases q1 : x1 < x6
  · have W := W.1 q1
    refine po_of (fun _ nx => b_Frac_chance_6 (fun _ => nx) (fun z => absurd q1 z)) ?_
    obtain ⟨g2, W⟩ := W
    refine po_of (fun _ nx => b_Frac_chance_48 (s_Frac_power_i (x0 := 10) (x1 := x1) (S := S) g2) nx) ?_
    obtain ⟨v4, S3, h7, W⟩ := W
    refine po_of (fun _ nx => b_Frac_chance_54 h7 nx) ?_
    by_cases q5 : (lg_cmp v4 0) ≤ 0
    · have W := W.1 q5
      refine po_of (fun _ nx => b_Frac_chance_63 (fun _ => nx) (fun z => absurd q5 z)) ?_
      exact ⟨_, _, b_Frac_chance_90, W⟩
    · have W := W.2 q5
      refine po_of (fun _ nx => b_Frac_chance_63 (fun z => absurd z q5) (fun _ => nx)) ?_
      obtain ⟨g6, W⟩ := W
      refine po_of (fun _ nx => b_Frac_chance_72 g6 nx) ?_
      exact ⟨_, _, b_Frac_chance_90, W⟩
  · have W := W.2 q1
    refine po_of (fun _ nx => b_Frac_chance_6 (fun z => absurd z q1) (fun _ => nx)) ?_
    obtain ⟨v9, S8, h12, W⟩ := W
    refine po_of (fun _ nx => b_Frac_chance_12 h12 nx) ?_
    obtain ⟨g10, W⟩ := W
    refine po_of (fun _ nx => b_Frac_chance_20 (s_Frac_power_i (x0 := (10 - x3)) (x1 := x6) (S := S8) g10) nx) ?_
    obtain ⟨g11, W⟩ := W
    refine po_of (fun _ nx => b_Frac_chance_29 (s_Frac_power_i (x0 := x3) (x1 := (x1 - x6)) (S := S8) g11) nx) ?_
    refine po_of (fun _ nx => b_Frac_chance_38 nx) ?_
    exact W
abbrev H_Frac_chance_6 (d : Nat) (x1 : Int32) (x2 : Int32) (x3 : Int32) (y4 : Int64) (x6 : Int32) (o7 : Option Value) (o8 : Option Value) (o9 : Option Value) (S : fm_S) (Q : Unit → fm_S → Prop) : Prop := am_Po vV (d + 1) k_Frac_chance 6 [some (.ref 122), some (.int x1), some (.int x2), some (.int x3), some (.long y4), none, some (.int x6), o7, o8, o9] [] S Q
theorem p_Frac_choices_0 {d : Nat} {x0 : Int32} {x1 : Int32} {o2 : Option Value} {o3 : Option Value} {o4 : Option Value} {S : fm_S} {Q : Int64 → fm_S → Prop}
    (W : am_Po vL d k_Frac_choices 5 [some (.int x0), some (.int x1), some (.long 1), none, some (.int 1)] [] S Q) :
    am_Po vL d k_Frac_choices 0 [some (.int x0), some (.int x1), o2, o3, o4] [] S Q := by
  refine po_of (fun _ nx => b_Frac_choices_0 nx) ?_
  exact W
theorem e_Frac_choices {d : Nat} {x0 : Int32} {x1 : Int32} {S : fm_S} {Q : Int64 → fm_S → Prop}
    (W : am_Po vL d k_Frac_choices 5 [some (.int x0), some (.int x1), some (.long 1), none, some (.int 1)] [] S Q) :
    am_Ps vL d k_Frac_choices [.int x0, .int x1] S Q := ps_of (L := [some (.int x0), some (.int x1), none, none, none]) rfl (Nat.le_of_ble_eq_true rfl) (Nat.le_of_ble_eq_true rfl) (p_Frac_choices_0 W)
theorem p_Frac_choices_5 {d : Nat} {x0 : Int32} {x1 : Int32} {y2 : Int64} {x4 : Int32} {S : fm_S} {Q : Int64 → fm_S → Prop}
    (W : (x1 < x4 → Q y2 S) ∧ (¬ x1 < x4 → (¬ x4.toInt64 = 0) ∧ am_Po vL d k_Frac_choices 5 [some (.int x0), some (.int x1), some (.long ((y2 * (((x0 - x1) + x4).toInt64)) / x4.toInt64)), none, some (.int (x4 + 1))] [] S Q)) :
    am_Po vL d k_Frac_choices 5 [some (.int x0), some (.int x1), some (.long y2), none, some (.int x4)] [] S Q := by
  by_cases q1 : x1 < x4
  · have W := W.1 q1
    refine po_of (fun _ nx => b_Frac_choices_5 (fun _ => nx) (fun z => absurd q1 z)) ?_
    exact ⟨_, _, b_Frac_choices_31, W⟩
  · have W := W.2 q1
    refine po_of (fun _ nx => b_Frac_choices_5 (fun z => absurd z q1) (fun _ => nx)) ?_
    obtain ⟨g2, W⟩ := W
    refine po_of (fun _ nx => b_Frac_choices_11 g2 nx) ?_
    exact W
abbrev H_Frac_choices_5 (d : Nat) (x0 : Int32) (x1 : Int32) (y2 : Int64) (x4 : Int32) (S : fm_S) (Q : Int64 → fm_S → Prop) : Prop := am_Po vL d k_Frac_choices 5 [some (.int x0), some (.int x1), some (.long y2), none, some (.int x4)] [] S Q
theorem p_Frac_commonPart_0 {d : Nat} {y0 : Int64} {y2 : Int64} {o4 : Option Value} {o5 : Option Value} {o6 : Option Value} {S : fm_S} {Q : Int64 → fm_S → Prop}
    (W : am_Po vL d k_Frac_commonPart 3 [some (.long y0), none, some (.long y2), none, some (.int 0), o5, o6] [] S Q) :
    am_Po vL d k_Frac_commonPart 0 [some (.long y0), none, some (.long y2), none, o4, o5, o6] [] S Q := by
  refine po_of (fun _ nx => b_Frac_commonPart_0 nx) ?_
  exact W
theorem e_Frac_commonPart {d : Nat} {y0 : Int64} {y2 : Int64} {S : fm_S} {Q : Int64 → fm_S → Prop}
    (W : am_Po vL d k_Frac_commonPart 3 [some (.long y0), none, some (.long y2), none, some (.int 0), none, none] [] S Q) :
    am_Ps vL d k_Frac_commonPart [.long y0, .long y2] S Q := ps_of (L := [some (.long y0), none, some (.long y2), none, none, none, none]) rfl (Nat.le_of_ble_eq_true rfl) (Nat.le_of_ble_eq_true rfl) (p_Frac_commonPart_0 W)
theorem p_Frac_commonPart_3 {d : Nat} {y0 : Int64} {y2 : Int64} {x4 : Int32} {o5 : Option Value} {o6 : Option Value} {S : fm_S} {Q : Int64 → fm_S → Prop}
    (W : ((lg_cmp y2 0) = 0 → Q y0 S) ∧ (¬ (lg_cmp y2 0) = 0 → (100 ≤ x4 → Q y0 S) ∧ (¬ 100 ≤ x4 → (¬ y2 = 0) ∧ am_Po vL d k_Frac_commonPart 3 [some (.long y2), none, some (.long (y0 - y0 / y2 * y2)), none, some (.int (x4 + 1)), some (.long (y0 - y0 / y2 * y2)), none] [] S Q))) :
    am_Po vL d k_Frac_commonPart 3 [some (.long y0), none, some (.long y2), none, some (.int x4), o5, o6] [] S Q := by
  by_cases q1 : (lg_cmp y2 0) = 0
  · have W := W.1 q1
    refine po_of (fun _ nx => b_Frac_commonPart_3 (fun _ => nx) (fun z => absurd q1 z)) ?_
    exact ⟨_, _, b_Frac_commonPart_32, W⟩
  · have W := W.2 q1
    refine po_of (fun _ nx => b_Frac_commonPart_3 (fun z => absurd z q1) (fun _ => nx)) ?_
    by_cases q2 : 100 ≤ x4
    · have W := W.1 q2
      refine po_of (fun _ nx => b_Frac_commonPart_9 (fun _ => nx) (fun z => absurd q2 z)) ?_
      exact ⟨_, _, b_Frac_commonPart_32, W⟩
    · have W := W.2 q2
      refine po_of (fun _ nx => b_Frac_commonPart_9 (fun z => absurd z q2) (fun _ => nx)) ?_
      obtain ⟨g3, W⟩ := W
      refine po_of (fun _ nx => b_Frac_commonPart_16 g3 nx) ?_
      exact W
abbrev H_Frac_commonPart_3 (d : Nat) (y0 : Int64) (y2 : Int64) (x4 : Int32) (o5 : Option Value) (o6 : Option Value) (S : fm_S) (Q : Int64 → fm_S → Prop) : Prop := am_Po vL d k_Frac_commonPart 3 [some (.long y0), none, some (.long y2), none, some (.int x4), o5, o6] [] S Q
theorem p_Town_begin_0 {d : Nat} {a0 : Nat} {o1 : Option Value} {S : fm_S} {Q : Unit → fm_S → Prop}
    (W : (fm_tg a0 = 6) ∧ (fm_tg (a0 + 16) = 2) ∧ am_Po vV (d + 1) k_Town_begin 32 [some (.ref a0), some (.int 0)] [] (dy_first (fm_wI (fm_wI (fm_wI (fm_wI S a0 0 0) a0 7 0) (a0 + 10) 0 0) a0 14 0) (a0 + 16) 8) Q) :
    am_Po vV (d + 1) k_Town_begin 0 [some (.ref a0), o1] [] S Q := by
  obtain ⟨g1, W⟩ := W
  obtain ⟨g2, W⟩ := W
  refine po_of (fun _ nx => b_Town_begin_0 g1 (s_Days_begin (a0 := (a0 + 16)) (S := (fm_wI (fm_wI (fm_wI (fm_wI S a0 0 0) a0 7 0) (a0 + 10) 0 0) a0 14 0)) g2) nx) ?_
  refine po_of (fun _ nx => b_Town_begin_30 nx) ?_
  exact W
theorem e_Town_begin {d : Nat} {a0 : Nat} {S : fm_S} {Q : Unit → fm_S → Prop}
    (W : (fm_tg a0 = 6) ∧ (fm_tg (a0 + 16) = 2) ∧ am_Po vV (d + 1) k_Town_begin 32 [some (.ref a0), some (.int 0)] [] (dy_first (fm_wI (fm_wI (fm_wI (fm_wI S a0 0 0) a0 7 0) (a0 + 10) 0 0) a0 14 0) (a0 + 16) 8) Q) :
    am_Ps vV (d + 1) k_Town_begin [.ref a0] S Q := ps_of (L := [some (.ref a0), none]) rfl (Nat.le_of_ble_eq_true rfl) (Nat.le_of_ble_eq_true rfl) (p_Town_begin_0 W)
theorem p_Town_begin_32 {d : Nat} {a0 : Nat} {x1 : Int32} {S : fm_S} {Q : Unit → fm_S → Prop}
    (W : (4 ≤ x1 → am_Po vV (d + 1) k_Town_begin 59 [some (.ref a0), some (.int 0)] [] S Q) ∧ (¬ 4 ≤ x1 → (fm_tg a0 = 6) ∧ (vp_in x1 4) ∧ am_Po vV (d + 1) k_Town_begin 32 [some (.ref a0), some (.int (x1 + 1))] [] (fm_wI (fm_wI S (a0 + 5) x1.toNatClampNeg 0) (a0 + 6) x1.toNatClampNeg x1) Q)) :
    am_Po vV (d + 1) k_Town_begin 32 [some (.ref a0), some (.int x1)] [] S Q := by
  by_cases q1 : 4 ≤ x1
  · have W := W.1 q1
    refine po_of (fun _ nx => b_Town_begin_32 (fun _ => nx) (fun z => absurd q1 z)) ?_
    refine po_of (fun _ nx => b_Town_begin_57 nx) ?_
    exact W
  · have W := W.2 q1
    refine po_of (fun _ nx => b_Town_begin_32 (fun z => absurd z q1) (fun _ => nx)) ?_
    obtain ⟨g2, W⟩ := W
    obtain ⟨g3, W⟩ := W
    refine po_of (fun _ nx => b_Town_begin_37 g2 g3 nx) ?_
    exact W
abbrev H_Town_begin_32 (d : Nat) (a0 : Nat) (x1 : Int32) (S : fm_S) (Q : Unit → fm_S → Prop) : Prop := am_Po vV (d + 1) k_Town_begin 32 [some (.ref a0), some (.int x1)] [] S Q
theorem p_Town_begin_59 {d : Nat} {a0 : Nat} {x1 : Int32} {S : fm_S} {Q : Unit → fm_S → Prop}
    (W : (8 ≤ x1 → Q () S) ∧ (¬ 8 ≤ x1 → (fm_tg a0 = 6) ∧ (vp_in x1 8) ∧ am_Po vV (d + 1) k_Town_begin 59 [some (.ref a0), some (.int (x1 + 1))] [] (fm_wI S (a0 + 4) x1.toNatClampNeg 0) Q)) :
    am_Po vV (d + 1) k_Town_begin 59 [some (.ref a0), some (.int x1)] [] S Q := by
  by_cases q1 : 8 ≤ x1
  · have W := W.1 q1
    refine po_of (fun _ nx => b_Town_begin_59 (fun _ => nx) (fun z => absurd q1 z)) ?_
    exact ⟨_, _, b_Town_begin_78, W⟩
  · have W := W.2 q1
    refine po_of (fun _ nx => b_Town_begin_59 (fun z => absurd z q1) (fun _ => nx)) ?_
    obtain ⟨g2, W⟩ := W
    obtain ⟨g3, W⟩ := W
    refine po_of (fun _ nx => b_Town_begin_65 g2 g3 nx) ?_
    exact W
abbrev H_Town_begin_59 (d : Nat) (a0 : Nat) (x1 : Int32) (S : fm_S) (Q : Unit → fm_S → Prop) : Prop := am_Po vV (d + 1) k_Town_begin 59 [some (.ref a0), some (.int x1)] [] S Q
theorem p_Town_copy_0 {d : Nat} {a0 : Nat} {a1 : Nat} {o2 : Option Value} {S : fm_S} {Q : Unit → fm_S → Prop}
    (W : (fm_tg a1 = 6) ∧ (fm_tg a0 = 6) ∧ (fm_tg (a1 + 10) = 4) ∧ (fm_tg (a0 + 10) = 4) ∧ (fm_tg (a1 + 16) = 2) ∧ (fm_tg (a0 + 16) = 2) ∧ am_Po vV (d + 2) k_Town_copy 181 [some (.ref a0), some (.ref a1), some (.int 0)] [] (g_Days_copy (g_Notes_copy (fm_cp (fm_cp (fm_cp (fm_cp (fm_cp (fm_cp (fm_cp (fm_cp (fm_cp (fm_wI (fm_wI (fm_wI S a0 0 (S.1 a1 0)) a0 7 ((fm_wI S a0 0 (S.1 a1 0)).1 a1 7)) a0 14 ((fm_wI (fm_wI S a0 0 (S.1 a1 0)) a0 7 ((fm_wI S a0 0 (S.1 a1 0)).1 a1 7)).1 a1 14)) (a1 + 1) 0 (a0 + 1) 0 8) (a1 + 2) 0 (a0 + 2) 0 8) (a1 + 3) 0 (a0 + 3) 0 8) (a1 + 4) 0 (a0 + 4) 0 8) (a1 + 5) 0 (a0 + 5) 0 4) (a1 + 6) 0 (a0 + 6) 0 4) (a1 + 7) 0 (a0 + 7) 0 6) (a1 + 8) 0 (a0 + 8) 0 6) (a1 + 9) 0 (a0 + 9) 0 6) (a0 + 10) (a1 + 10)) (a0 + 16) (a1 + 16)) Q) :
    am_Po vV (d + 2) k_Town_copy 0 [some (.ref a0), some (.ref a1), o2] [] S Q := by
  obtain ⟨g1, W⟩ := W
  obtain ⟨g2, W⟩ := W
  obtain ⟨g3, W⟩ := W
  obtain ⟨g4, W⟩ := W
  refine po_of (fun _ nx => b_Town_copy_0 g1 g2 (s_Notes_copy (a0 := (a0 + 10)) (a1 := (a1 + 10)) (S := (fm_cp (fm_cp (fm_cp (fm_cp (fm_cp (fm_cp (fm_cp (fm_cp (fm_cp (fm_wI (fm_wI (fm_wI S a0 0 (S.1 a1 0)) a0 7 ((fm_wI S a0 0 (S.1 a1 0)).1 a1 7)) a0 14 ((fm_wI (fm_wI S a0 0 (S.1 a1 0)) a0 7 ((fm_wI S a0 0 (S.1 a1 0)).1 a1 7)).1 a1 14)) (a1 + 1) 0 (a0 + 1) 0 8) (a1 + 2) 0 (a0 + 2) 0 8) (a1 + 3) 0 (a0 + 3) 0 8) (a1 + 4) 0 (a0 + 4) 0 8) (a1 + 5) 0 (a0 + 5) 0 4) (a1 + 6) 0 (a0 + 6) 0 4) (a1 + 7) 0 (a0 + 7) 0 6) (a1 + 8) 0 (a0 + 8) 0 6) (a1 + 9) 0 (a0 + 9) 0 6)) g3 g4) nx) ?_
  obtain ⟨g5, W⟩ := W
  obtain ⟨g6, W⟩ := W
  refine po_of (fun _ nx => b_Town_copy_168 g2 g1 (s_Days_copy (a0 := (a0 + 16)) (a1 := (a1 + 16)) (S := (g_Notes_copy (fm_cp (fm_cp (fm_cp (fm_cp (fm_cp (fm_cp (fm_cp (fm_cp (fm_cp (fm_wI (fm_wI (fm_wI S a0 0 (S.1 a1 0)) a0 7 ((fm_wI S a0 0 (S.1 a1 0)).1 a1 7)) a0 14 ((fm_wI (fm_wI S a0 0 (S.1 a1 0)) a0 7 ((fm_wI S a0 0 (S.1 a1 0)).1 a1 7)).1 a1 14)) (a1 + 1) 0 (a0 + 1) 0 8) (a1 + 2) 0 (a0 + 2) 0 8) (a1 + 3) 0 (a0 + 3) 0 8) (a1 + 4) 0 (a0 + 4) 0 8) (a1 + 5) 0 (a0 + 5) 0 4) (a1 + 6) 0 (a0 + 6) 0 4) (a1 + 7) 0 (a0 + 7) 0 6) (a1 + 8) 0 (a0 + 8) 0 6) (a1 + 9) 0 (a0 + 9) 0 6) (a0 + 10) (a1 + 10))) g5 g6) nx) ?_
  refine po_of (fun _ nx => b_Town_copy_179 nx) ?_
  exact W
theorem e_Town_copy {d : Nat} {a0 : Nat} {a1 : Nat} {S : fm_S} {Q : Unit → fm_S → Prop}
    (W : (fm_tg a1 = 6) ∧ (fm_tg a0 = 6) ∧ (fm_tg (a1 + 10) = 4) ∧ (fm_tg (a0 + 10) = 4) ∧ (fm_tg (a1 + 16) = 2) ∧ (fm_tg (a0 + 16) = 2) ∧ am_Po vV (d + 2) k_Town_copy 181 [some (.ref a0), some (.ref a1), some (.int 0)] [] (g_Days_copy (g_Notes_copy (fm_cp (fm_cp (fm_cp (fm_cp (fm_cp (fm_cp (fm_cp (fm_cp (fm_cp (fm_wI (fm_wI (fm_wI S a0 0 (S.1 a1 0)) a0 7 ((fm_wI S a0 0 (S.1 a1 0)).1 a1 7)) a0 14 ((fm_wI (fm_wI S a0 0 (S.1 a1 0)) a0 7 ((fm_wI S a0 0 (S.1 a1 0)).1 a1 7)).1 a1 14)) (a1 + 1) 0 (a0 + 1) 0 8) (a1 + 2) 0 (a0 + 2) 0 8) (a1 + 3) 0 (a0 + 3) 0 8) (a1 + 4) 0 (a0 + 4) 0 8) (a1 + 5) 0 (a0 + 5) 0 4) (a1 + 6) 0 (a0 + 6) 0 4) (a1 + 7) 0 (a0 + 7) 0 6) (a1 + 8) 0 (a0 + 8) 0 6) (a1 + 9) 0 (a0 + 9) 0 6) (a0 + 10) (a1 + 10)) (a0 + 16) (a1 + 16)) Q) :
    am_Ps vV (d + 2) k_Town_copy [.ref a0, .ref a1] S Q := ps_of (L := [some (.ref a0), some (.ref a1), none]) rfl (Nat.le_of_ble_eq_true rfl) (Nat.le_of_ble_eq_true rfl) (p_Town_copy_0 W)
theorem p_Town_copy_181 {d : Nat} {a0 : Nat} {a1 : Nat} {x2 : Int32} {S : fm_S} {Q : Unit → fm_S → Prop}
    (W : (fm_tg a0 = 6) ∧ ((S.1 a0 14) ≤ x2 → Q () S) ∧ (¬ (S.1 a0 14) ≤ x2 → (8 ≤ x2 → Q () S) ∧ (¬ 8 ≤ x2 → (vp_in x2 8) ∧ (fm_tg a1 = 6) ∧ (fm_tg (S.2.2 (a0 + 20) x2.toNatClampNeg) = 2) ∧ (fm_tg (S.2.2 (a1 + 20) x2.toNatClampNeg) = 2) ∧ am_Po vV (d + 2) k_Town_copy 181 [some (.ref a0), some (.ref a1), some (.int (x2 + 1))] [] (g_Days_copy S (S.2.2 (a0 + 20) x2.toNatClampNeg) (S.2.2 (a1 + 20) x2.toNatClampNeg)) Q))) :
    am_Po vV (d + 2) k_Town_copy 181 [some (.ref a0), some (.ref a1), some (.int x2)] [] S Q := by
  obtain ⟨g1, W⟩ := W
  by_cases q2 : (S.1 a0 14) ≤ x2
  · have W := W.1 q2
    refine po_of (fun _ nx => b_Town_copy_181 g1 (fun _ => nx) (fun z => absurd q2 z)) ?_
    exact ⟨_, _, b_Town_copy_216, W⟩
  · have W := W.2 q2
    refine po_of (fun _ nx => b_Town_copy_181 g1 (fun z => absurd z q2) (fun _ => nx)) ?_
    by_cases q3 : 8 ≤ x2
    · have W := W.1 q3
      refine po_of (fun _ nx => b_Town_copy_189 (fun _ => nx) (fun z => absurd q3 z)) ?_
      exact ⟨_, _, b_Town_copy_216, W⟩
    · have W := W.2 q3
      refine po_of (fun _ nx => b_Town_copy_189 (fun z => absurd z q3) (fun _ => nx)) ?_
      obtain ⟨g4, W⟩ := W
      obtain ⟨g5, W⟩ := W
      obtain ⟨g6, W⟩ := W
      obtain ⟨g7, W⟩ := W
      refine po_of (fun _ nx => b_Town_copy_195 g1 g4 g5 g6 (s_Days_copy (a0 := (S.2.2 (a0 + 20) x2.toNatClampNeg)) (a1 := (S.2.2 (a1 + 20) x2.toNatClampNeg)) (S := S) g7 g6) nx) ?_
      refine po_of (fun _ nx => b_Town_copy_210 nx) ?_
      exact W
abbrev H_Town_copy_181 (d : Nat) (a0 : Nat) (a1 : Nat) (x2 : Int32) (S : fm_S) (Q : Unit → fm_S → Prop) : Prop := am_Po vV (d + 2) k_Town_copy 181 [some (.ref a0), some (.ref a1), some (.int x2)] [] S Q
theorem p_Town_keepDays_0 {d : Nat} {a0 : Nat} {o1 : Option Value} {o2 : Option Value} {S : fm_S} {Q : Unit → fm_S → Prop}
    (W : (fm_tg a0 = 6) ∧ ((S.1 a0 14) < 8 → (vp_in (S.1 a0 14) 8) ∧ (fm_tg (S.2.2 (a0 + 20) ((S.1 a0 14).toNatClampNeg)) = 2) ∧ (fm_tg (a0 + 16) = 2) ∧ Q () (fm_wI (g_Days_copy S (S.2.2 (a0 + 20) ((S.1 a0 14).toNatClampNeg)) (a0 + 16)) a0 14 (((g_Days_copy S (S.2.2 (a0 + 20) ((S.1 a0 14).toNatClampNeg)) (a0 + 16)).1 a0 14) + 1))) ∧ (¬ (S.1 a0 14) < 8 → am_Po vV (d + 2) k_Town_keepDays 18 [some (.ref a0), some (.ref (S.2.2 (a0 + 20) 0)), some (.int 1)] [] S Q)) :
    am_Po vV (d + 2) k_Town_keepDays 0 [some (.ref a0), o1, o2] [] S Q := by
  obtain ⟨g1, W⟩ := W
  by_cases q2 : (S.1 a0 14) < 8
  · have W := W.1 q2
    refine po_of (fun _ nx => b_Town_keepDays_0 g1 (fun _ => nx) (fun z => absurd q2 z)) ?_
    obtain ⟨g3, W⟩ := W
    obtain ⟨g4, W⟩ := W
    obtain ⟨g5, W⟩ := W
    refine po_of (fun _ nx => b_Town_keepDays_58 g1 g3 g4 (s_Days_copy (a0 := (S.2.2 (a0 + 20) ((S.1 a0 14).toNatClampNeg))) (a1 := (a0 + 16)) (S := S) g5 g4) nx) ?_
    exact ⟨_, _, b_Town_keepDays_74 g1, W⟩
  · have W := W.2 q2
    refine po_of (fun _ nx => b_Town_keepDays_0 g1 (fun z => absurd z q2) (fun _ => nx)) ?_
    refine po_of (fun _ nx => b_Town_keepDays_9 g1 nx) ?_
    exact W
theorem e_Town_keepDays {d : Nat} {a0 : Nat} {S : fm_S} {Q : Unit → fm_S → Prop}
    (W : (fm_tg a0 = 6) ∧ ((S.1 a0 14) < 8 → (vp_in (S.1 a0 14) 8) ∧ (fm_tg (S.2.2 (a0 + 20) ((S.1 a0 14).toNatClampNeg)) = 2) ∧ (fm_tg (a0 + 16) = 2) ∧ Q () (fm_wI (g_Days_copy S (S.2.2 (a0 + 20) ((S.1 a0 14).toNatClampNeg)) (a0 + 16)) a0 14 (((g_Days_copy S (S.2.2 (a0 + 20) ((S.1 a0 14).toNatClampNeg)) (a0 + 16)).1 a0 14) + 1))) ∧ (¬ (S.1 a0 14) < 8 → am_Po vV (d + 2) k_Town_keepDays 18 [some (.ref a0), some (.ref (S.2.2 (a0 + 20) 0)), some (.int 1)] [] S Q)) :
    am_Ps vV (d + 2) k_Town_keepDays [.ref a0] S Q := ps_of (L := [some (.ref a0), none, none]) rfl (Nat.le_of_ble_eq_true rfl) (Nat.le_of_ble_eq_true rfl) (p_Town_keepDays_0 W)
theorem p_Town_keepDays_18 {d : Nat} {a0 : Nat} {a1 : Nat} {x2 : Int32} {S : fm_S} {Q : Unit → fm_S → Prop}
    (W : (8 ≤ x2 → (fm_tg a0 = 6) ∧ (fm_tg a1 = 2) ∧ (vp_in ((fm_wI (fm_wP S (a0 + 20) 7 a1) a0 14 7).1 a0 14) 8) ∧ (fm_tg ((fm_wI (fm_wP S (a0 + 20) 7 a1) a0 14 7).2.2 (a0 + 20) (((fm_wI (fm_wP S (a0 + 20) 7 a1) a0 14 7).1 a0 14).toNatClampNeg)) = 2) ∧ (fm_tg (a0 + 16) = 2) ∧ Q () (fm_wI (g_Days_copy (fm_wI (fm_wP S (a0 + 20) 7 a1) a0 14 7) ((fm_wI (fm_wP S (a0 + 20) 7 a1) a0 14 7).2.2 (a0 + 20) (((fm_wI (fm_wP S (a0 + 20) 7 a1) a0 14 7).1 a0 14).toNatClampNeg)) (a0 + 16)) a0 14 (((g_Days_copy (fm_wI (fm_wP S (a0 + 20) 7 a1) a0 14 7) ((fm_wI (fm_wP S (a0 + 20) 7 a1) a0 14 7).2.2 (a0 + 20) (((fm_wI (fm_wP S (a0 + 20) 7 a1) a0 14 7).1 a0 14).toNatClampNeg)) (a0 + 16)).1 a0 14) + 1))) ∧ (¬ 8 ≤ x2 → (fm_tg a0 = 6) ∧ (vp_in x2 8) ∧ (vp_in (x2 - 1) 8) ∧ (fm_tg (S.2.2 (a0 + 20) x2.toNatClampNeg) = 2) ∧ am_Po vV (d + 2) k_Town_keepDays 18 [some (.ref a0), some (.ref a1), some (.int (x2 + 1))] [] (fm_wP S (a0 + 20) ((x2 - 1).toNatClampNeg) (S.2.2 (a0 + 20) x2.toNatClampNeg)) Q)) :
    am_Po vV (d + 2) k_Town_keepDays 18 [some (.ref a0), some (.ref a1), some (.int x2)] [] S Q := by
  by_cases q1 : 8 ≤ x2
  · have W := W.1 q1
    refine po_of (fun _ nx => b_Town_keepDays_18 (fun _ => nx) (fun z => absurd q1 z)) ?_
    obtain ⟨g2, W⟩ := W
    obtain ⟨g3, W⟩ := W
    refine po_of (fun _ nx => b_Town_keepDays_44 g2 g3 nx) ?_
    obtain ⟨g4, W⟩ := W
    obtain ⟨g5, W⟩ := W
    obtain ⟨g6, W⟩ := W
    refine po_of (fun _ nx => b_Town_keepDays_58 g2 g4 g5 (s_Days_copy (a0 := ((fm_wI (fm_wP S (a0 + 20) 7 a1) a0 14 7).2.2 (a0 + 20) (((fm_wI (fm_wP S (a0 + 20) 7 a1) a0 14 7).1 a0 14).toNatClampNeg))) (a1 := (a0 + 16)) (S := (fm_wI (fm_wP S (a0 + 20) 7 a1) a0 14 7)) g6 g5) nx) ?_
    exact ⟨_, _, b_Town_keepDays_74 g2, W⟩
  · have W := W.2 q1
    refine po_of (fun _ nx => b_Town_keepDays_18 (fun z => absurd z q1) (fun _ => nx)) ?_
    obtain ⟨g7, W⟩ := W
    obtain ⟨g8, W⟩ := W
    obtain ⟨g9, W⟩ := W
    obtain ⟨g10, W⟩ := W
    refine po_of (fun _ nx => b_Town_keepDays_24 g7 g8 g9 g10 nx) ?_
    exact W
abbrev H_Town_keepDays_18 (d : Nat) (a0 : Nat) (a1 : Nat) (x2 : Int32) (S : fm_S) (Q : Unit → fm_S → Prop) : Prop := am_Po vV (d + 2) k_Town_keepDays 18 [some (.ref a0), some (.ref a1), some (.int x2)] [] S Q
theorem p_Town_mixLanes_0 {d : Nat} {a0 : Nat} {y1 : Int64} {o3 : Option Value} {o4 : Option Value} {S : fm_S} {Q : Int64 → fm_S → Prop}
    (W : am_Po vL (d + 2) k_Town_mixLanes 2 [some (.ref a0), some (.long y1), none, some (.int 0), o4] [] S Q) :
    am_Po vL (d + 2) k_Town_mixLanes 0 [some (.ref a0), some (.long y1), none, o3, o4] [] S Q := by
  refine po_of (fun _ nx => b_Town_mixLanes_0 nx) ?_
  exact W
theorem e_Town_mixLanes {d : Nat} {a0 : Nat} {y1 : Int64} {S : fm_S} {Q : Int64 → fm_S → Prop}
    (W : am_Po vL (d + 2) k_Town_mixLanes 2 [some (.ref a0), some (.long y1), none, some (.int 0), none] [] S Q) :
    am_Ps vL (d + 2) k_Town_mixLanes [.ref a0, .long y1] S Q := ps_of (L := [some (.ref a0), some (.long y1), none, none, none]) rfl (Nat.le_of_ble_eq_true rfl) (Nat.le_of_ble_eq_true rfl) (p_Town_mixLanes_0 W)
theorem p_Town_mixLanes_2 {d : Nat} {a0 : Nat} {y1 : Int64} {x3 : Int32} {o4 : Option Value} {S : fm_S} {Q : Int64 → fm_S → Prop}
    (W : (8 ≤ x3 → Q y1 S) ∧ (¬ 8 ≤ x3 → am_Po vL (d + 2) k_Town_mixLanes 13 [some (.ref a0), some (.long y1), none, some (.int x3), some (.int (x3 + 1))] [] S Q)) :
    am_Po vL (d + 2) k_Town_mixLanes 2 [some (.ref a0), some (.long y1), none, some (.int x3), o4] [] S Q := by
  by_cases q1 : 8 ≤ x3
  · have W := W.1 q1
    refine po_of (fun _ nx => b_Town_mixLanes_2 (fun _ => nx) (fun z => absurd q1 z)) ?_
    exact ⟨_, _, b_Town_mixLanes_52, W⟩
  · have W := W.2 q1
    refine po_of (fun _ nx => b_Town_mixLanes_2 (fun z => absurd z q1) (fun _ => nx)) ?_
    refine po_of (fun _ nx => b_Town_mixLanes_8 nx) ?_
    exact W
abbrev H_Town_mixLanes_2 (d : Nat) (a0 : Nat) (y1 : Int64) (x3 : Int32) (o4 : Option Value) (S : fm_S) (Q : Int64 → fm_S → Prop) : Prop := am_Po vL (d + 2) k_Town_mixLanes 2 [some (.ref a0), some (.long y1), none, some (.int x3), o4] [] S Q
theorem p_Town_mixLanes_13 {d : Nat} {a0 : Nat} {y1 : Int64} {x3 : Int32} {x4 : Int32} {S : fm_S} {Q : Int64 → fm_S → Prop}
    (W : (8 ≤ x4 → am_Po vL (d + 2) k_Town_mixLanes 2 [some (.ref a0), some (.long y1), none, some (.int (x3 + 1)), some (.int x4)] [] S Q) ∧ (¬ 8 ≤ x4 → (fm_tg a0 = 6) ∧ (vp_in x3 8) ∧ ∀ v5 : Int64, v5 = (if (f_Town_hasLane S a0 x3 x4) = 0 then (0 : Int64) else (1 : Int64)) → (am_Po vL (d + 2) k_Town_mixLanes 13 [some (.ref a0), some (.long (f_X_mix y1 v5)), none, some (.int x3), some (.int (x4 + 1))] [] S Q))) :
    am_Po vL (d + 2) k_Town_mixLanes 13 [some (.ref a0), some (.long y1), none, some (.int x3), some (.int x4)] [] S Q := by
  by_cases q1 : 8 ≤ x4
  · have W := W.1 q1
    refine po_of (fun _ nx => b_Town_mixLanes_13 (fun _ => nx) (fun z => absurd q1 z)) ?_
    refine po_of (fun _ nx => b_Town_mixLanes_46 nx) ?_
    exact W
  · have W := W.2 q1
    refine po_of (fun _ nx => b_Town_mixLanes_13 (fun z => absurd z q1) (fun _ => nx)) ?_
    obtain ⟨g2, W⟩ := W
    obtain ⟨g3, W⟩ := W
    refine po_of (fun _ nx => b_Town_mixLanes_20 g2 (s_Town_hasLane (a0 := a0) (x1 := x3) (x2 := x4) (S := S) g2 g3) nx) ?_
    have J : ∀ v5 : Int64, v5 = (if (f_Town_hasLane S a0 x3 x4) = 0 then (0 : Int64) else (1 : Int64)) → am_Po vL (d + 2) k_Town_mixLanes 36 [some (.ref a0), some (.long y1), none, some (.int x3), some (.int x4)] [.long v5, .long y1] S Q := by
      intro v5 v5_
      have W := W v5 v5_
      refine po_of (fun _ nx => b_Town_mixLanes_36 (s_X_mix (y0 := y1) (y2 := v5) (S := S)) nx) ?_
      refine po_of (fun _ nx => b_Town_mixLanes_39 nx) ?_
      exact W
    by_cases q4 : (f_Town_hasLane S a0 x3 x4) = 0
    · refine po_of (fun _ nx => b_Town_mixLanes_28 (fun _ => nx) (fun z => absurd q4 z)) ?_
      refine po_of (fun _ nx => b_Town_mixLanes_35 nx) ?_
      exact J _ (by simp only [if_pos q4])
    · refine po_of (fun _ nx => b_Town_mixLanes_28 (fun z => absurd z q4) (fun _ => nx)) ?_
      refine po_of (fun _ nx => b_Town_mixLanes_31 nx) ?_
      exact J _ (by simp only [if_neg q4])
abbrev H_Town_mixLanes_13 (d : Nat) (a0 : Nat) (y1 : Int64) (x3 : Int32) (x4 : Int32) (S : fm_S) (Q : Int64 → fm_S → Prop) : Prop := am_Po vL (d + 2) k_Town_mixLanes 13 [some (.ref a0), some (.long y1), none, some (.int x3), some (.int x4)] [] S Q
theorem p_Air_fill_0 {d : Nat} {a1 : Nat} {x2 : Int32} {x3 : Int32} {S : fm_S} {Q : Unit → fm_S → Prop}
    (W : am_Ps vV (d + 2) k_Air_fillWithSheets [.ref 56, .ref a1, .int x2, .int x3, .int (-1), .int 0] S fun _ S1 => (Q () S1)) :
    am_Po vV (d + 3) k_Air_fill 0 [some (.ref 56), some (.ref a1), some (.int x2), some (.int x3)] [] S Q := by
  obtain ⟨_, S1, h2, W⟩ := W
  refine po_of (fun _ nx => b_Air_fill_0 h2 nx) ?_
  exact ⟨_, _, b_Air_fill_9, W⟩
theorem e_Air_fill {d : Nat} {a1 : Nat} {x2 : Int32} {x3 : Int32} {S : fm_S} {Q : Unit → fm_S → Prop}
    (W : am_Ps vV (d + 2) k_Air_fillWithSheets [.ref 56, .ref a1, .int x2, .int x3, .int (-1), .int 0] S fun _ S1 => (Q () S1)) :
    am_Ps vV (d + 3) k_Air_fill [.ref 56, .ref a1, .int x2, .int x3] S Q := ps_of (L := [some (.ref 56), some (.ref a1), some (.int x2), some (.int x3)]) rfl (Nat.le_of_ble_eq_true rfl) (Nat.le_of_ble_eq_true rfl) (p_Air_fill_0 W)
theorem p_Air_fillWithSheets_0 {d : Nat} {a1 : Nat} {x2 : Int32} {x3 : Int32} {x4 : Int32} {x5 : Int32} {o6 : Option Value} {o7 : Option Value} {o8 : Option Value} {S : fm_S} {Q : Unit → fm_S → Prop}
    (W : (fm_tg a1 = 6) ∧ (¬ x3 < 0 → ¬ 4 ≤ x3 → vp_in x3 4) ∧ (0 ≤ (f_Town_gateOf (ar_none S 8) a1 x3) → am_Po vV (d + 2) k_Air_fillWithSheets 20 [some (.ref 56), some (.ref a1), some (.int x2), some (.int x3), some (.int x4), some (.int x5), some (.int (f_Town_gateOf (ar_none S 8) a1 x3)), some (.int 0), o8] [] (ar_none S 8) Q) ∧ (¬ 0 ≤ (f_Town_gateOf (ar_none S 8) a1 x3) → Q () (ar_none S 8))) :
    am_Po vV (d + 2) k_Air_fillWithSheets 0 [some (.ref 56), some (.ref a1), some (.int x2), some (.int x3), some (.int x4), some (.int x5), o6, o7, o8] [] S Q := by
  refine po_of (fun _ nx => b_Air_fillWithSheets_0 (s_Air_empty (S := S)) nx) ?_
  obtain ⟨g1, W⟩ := W
  obtain ⟨g2, W⟩ := W
  refine po_of (fun _ nx => b_Air_fillWithSheets_4 g1 (s_Town_gateOf (a0 := a1) (x1 := x3) (S := (ar_none S 8)) g1 g2) nx) ?_
  by_cases q3 : 0 ≤ (f_Town_gateOf (ar_none S 8) a1 x3)
  · have W := W.1 q3
    refine po_of (fun _ nx => b_Air_fillWithSheets_9 (fun _ => nx) (fun z => absurd q3 z)) ?_
    refine po_of (fun _ nx => b_Air_fillWithSheets_17 nx) ?_
    exact W
  · have W := W.2 q3
    refine po_of (fun _ nx => b_Air_fillWithSheets_9 (fun z => absurd z q3) (fun _ => nx)) ?_
    exact ⟨_, _, b_Air_fillWithSheets_16, W⟩
theorem e_Air_fillWithSheets {d : Nat} {a1 : Nat} {x2 : Int32} {x3 : Int32} {x4 : Int32} {x5 : Int32} {S : fm_S} {Q : Unit → fm_S → Prop}
    (W : (fm_tg a1 = 6) ∧ (¬ x3 < 0 → ¬ 4 ≤ x3 → vp_in x3 4) ∧ (0 ≤ (f_Town_gateOf (ar_none S 8) a1 x3) → am_Po vV (d + 2) k_Air_fillWithSheets 20 [some (.ref 56), some (.ref a1), some (.int x2), some (.int x3), some (.int x4), some (.int x5), some (.int (f_Town_gateOf (ar_none S 8) a1 x3)), some (.int 0), none] [] (ar_none S 8) Q) ∧ (¬ 0 ≤ (f_Town_gateOf (ar_none S 8) a1 x3) → Q () (ar_none S 8))) :
    am_Ps vV (d + 2) k_Air_fillWithSheets [.ref 56, .ref a1, .int x2, .int x3, .int x4, .int x5] S Q := ps_of (L := [some (.ref 56), some (.ref a1), some (.int x2), some (.int x3), some (.int x4), some (.int x5), none, none, none]) rfl (Nat.le_of_ble_eq_true rfl) (Nat.le_of_ble_eq_true rfl) (p_Air_fillWithSheets_0 W)
theorem p_Air_fillWithSheets_20 {d : Nat} {a1 : Nat} {x2 : Int32} {x3 : Int32} {x4 : Int32} {x5 : Int32} {x6 : Int32} {x7 : Int32} {o8 : Option Value} {S : fm_S} {Q : Unit → fm_S → Prop}
    (W : (8 ≤ x7 → (fm_tg a1 = 6) ∧ (vp_in x2 6) ∧ (vp_in x6 8) ∧ am_Po vV (d + 2) k_Air_fillWithSheets 92 [some (.ref 56), some (.ref a1), some (.int x2), some (.int x3), some (.int x4), some (.int x5), some (.int x6), some (.int 1), some (.int 0)] [] (fm_wI S 57 x6.toNatClampNeg (f_Math_max 0 ((S.1 (a1 + 8) x2.toNatClampNeg) - (S.1 58 x6.toNatClampNeg)))) Q) ∧ (¬ 8 ≤ x7 → (fm_tg a1 = 6) ∧ (vp_in x7 8) ∧ ∀ v10 : Int32, v10 = (if x7 = x4 then x5 else (0 : Int32)) → ((vp_in x7 8) ∧ am_Po vV (d + 2) k_Air_fillWithSheets 20 [some (.ref 56), some (.ref a1), some (.int x2), some (.int x3), some (.int x4), some (.int x5), some (.int x6), some (.int (x7 + 1)), o8] [] (fm_wI S 58 x7.toNatClampNeg ((S.1 (a1 + 2) x7.toNatClampNeg) + v10)) Q))) :
    am_Po vV (d + 2) k_Air_fillWithSheets 20 [some (.ref 56), some (.ref a1), some (.int x2), some (.int x3), some (.int x4), some (.int x5), some (.int x6), some (.int x7), o8] [] S Q := by
  by_cases q1 : 8 ≤ x7
  · have W := W.1 q1
    refine po_of (fun _ nx => b_Air_fillWithSheets_20 (fun _ => nx) (fun z => absurd q1 z)) ?_
    obtain ⟨g2, W⟩ := W
    obtain ⟨g3, W⟩ := W
    obtain ⟨g4, W⟩ := W
    refine po_of (fun _ nx => b_Air_fillWithSheets_61 g2 g3 g4 (s_Math_max (x0 := 0) (x1 := ((S.1 (a1 + 8) x2.toNatClampNeg) - (S.1 58 x6.toNatClampNeg))) (S := S)) nx) ?_
    refine po_of (fun _ nx => b_Air_fillWithSheets_85 g4 nx) ?_
    exact W
  · have W := W.2 q1
    refine po_of (fun _ nx => b_Air_fillWithSheets_20 (fun z => absurd z q1) (fun _ => nx)) ?_
    obtain ⟨g7, W⟩ := W
    obtain ⟨g8, W⟩ := W
    have J : ∀ v10 : Int32, v10 = (if x7 = x4 then x5 else (0 : Int32)) → am_Po vV (d + 2) k_Air_fillWithSheets 53 [some (.ref 56), some (.ref a1), some (.int x2), some (.int x3), some (.int x4), some (.int x5), some (.int x6), some (.int x7), o8] [.int v10, .int (S.1 (a1 + 2) x7.toNatClampNeg), .int x7, .ref 58] S Q := by
      intro v10 v10_
      have W := W v10 v10_
      obtain ⟨g11, W⟩ := W
      refine po_of (fun _ nx => b_Air_fillWithSheets_53 g11 nx) ?_
      exact W
    by_cases q9 : x7 = x4
    · refine po_of (fun _ nx => b_Air_fillWithSheets_27 g7 g8 (fun z => absurd q9 z) (fun _ => nx)) ?_
      refine po_of (fun _ nx => b_Air_fillWithSheets_47 nx) ?_
      exact J _ (by simp only [if_pos q9])
    · refine po_of (fun _ nx => b_Air_fillWithSheets_27 g7 g8 (fun _ => nx) (fun z => absurd z q9)) ?_
      refine po_of (fun _ nx => b_Air_fillWithSheets_52 nx) ?_
      exact J _ (by simp only [if_neg q9])
abbrev H_Air_fillWithSheets_20 (d : Nat) (a1 : Nat) (x2 : Int32) (x3 : Int32) (x4 : Int32) (x5 : Int32) (x6 : Int32) (x7 : Int32) (o8 : Option Value) (S : fm_S) (Q : Unit → fm_S → Prop) : Prop := am_Po vV (d + 2) k_Air_fillWithSheets 20 [some (.ref 56), some (.ref a1), some (.int x2), some (.int x3), some (.int x4), some (.int x5), some (.int x6), some (.int x7), o8] [] S Q
theorem p_Air_fillWithSheets_92 {d : Nat} {a1 : Nat} {x2 : Int32} {x3 : Int32} {x4 : Int32} {x5 : Int32} {x6 : Int32} {x7 : Int32} {x8 : Int32} {S : fm_S} {Q : Unit → fm_S → Prop}
    (W : (x7 = 0 → Q () S) ∧ (¬ x7 = 0 → (8 ≤ x8 → Q () S) ∧ (¬ 8 ≤ x8 → am_Ps vI (d + 1) k_Air_spread [.ref 56, .ref a1] S fun v4 S3 => (am_Po vV (d + 2) k_Air_fillWithSheets 92 [some (.ref 56), some (.ref a1), some (.int x2), some (.int x3), some (.int x4), some (.int x5), some (.int x6), some (.int v4), some (.int (x8 + 1))] [] S3 Q)))) :
    am_Po vV (d + 2) k_Air_fillWithSheets 92 [some (.ref 56), some (.ref a1), some (.int x2), some (.int x3), some (.int x4), some (.int x5), some (.int x6), some (.int x7), some (.int x8)] [] S Q := by
  by_cases q1 : x7 = 0
  · have W := W.1 q1
    refine po_of (fun _ nx => b_Air_fillWithSheets_92 (fun _ => nx) (fun z => absurd q1 z)) ?_
    exact ⟨_, _, b_Air_fillWithSheets_117, W⟩
  · have W := W.2 q1
    refine po_of (fun _ nx => b_Air_fillWithSheets_92 (fun z => absurd z q1) (fun _ => nx)) ?_
    by_cases q2 : 8 ≤ x8
    · have W := W.1 q2
      refine po_of (fun _ nx => b_Air_fillWithSheets_97 (fun _ => nx) (fun z => absurd q2 z)) ?_
      exact ⟨_, _, b_Air_fillWithSheets_117, W⟩
    · have W := W.2 q2
      refine po_of (fun _ nx => b_Air_fillWithSheets_97 (fun z => absurd z q2) (fun _ => nx)) ?_
      obtain ⟨v4, S3, h5, W⟩ := W
      refine po_of (fun _ nx => b_Air_fillWithSheets_104 h5 nx) ?_
      refine po_of (fun _ nx => b_Air_fillWithSheets_109 nx) ?_
      exact W
abbrev H_Air_fillWithSheets_92 (d : Nat) (a1 : Nat) (x2 : Int32) (x3 : Int32) (x4 : Int32) (x5 : Int32) (x6 : Int32) (x7 : Int32) (x8 : Int32) (S : fm_S) (Q : Unit → fm_S → Prop) : Prop := am_Po vV (d + 2) k_Air_fillWithSheets 92 [some (.ref 56), some (.ref a1), some (.int x2), some (.int x3), some (.int x4), some (.int x5), some (.int x6), some (.int x7), some (.int x8)] [] S Q
theorem p_Air_spread_0 {d : Nat} {a1 : Nat} {o2 : Option Value} {o3 : Option Value} {o4 : Option Value} {o5 : Option Value} {o6 : Option Value} {S : fm_S} {Q : Int32 → fm_S → Prop}
    (W : am_Po vI (d + 1) k_Air_spread 4 [some (.ref 56), some (.ref a1), some (.int 0), some (.int 0), o4, o5, o6] [] S Q) :
    am_Po vI (d + 1) k_Air_spread 0 [some (.ref 56), some (.ref a1), o2, o3, o4, o5, o6] [] S Q := by
  refine po_of (fun _ nx => b_Air_spread_0 nx) ?_
  exact W
theorem e_Air_spread {d : Nat} {a1 : Nat} {S : fm_S} {Q : Int32 → fm_S → Prop}
    (W : am_Po vI (d + 1) k_Air_spread 4 [some (.ref 56), some (.ref a1), some (.int 0), some (.int 0), none, none, none] [] S Q) :
    am_Ps vI (d + 1) k_Air_spread [.ref 56, .ref a1] S Q := ps_of (L := [some (.ref 56), some (.ref a1), none, none, none, none, none]) rfl (Nat.le_of_ble_eq_true rfl) (Nat.le_of_ble_eq_true rfl) (p_Air_spread_0 W)
theorem p_Air_spread_4 {d : Nat} {a1 : Nat} {x2 : Int32} {x3 : Int32} {o4 : Option Value} {o5 : Option Value} {o6 : Option Value} {S : fm_S} {Q : Int32 → fm_S → Prop}
    (W : (fm_tg a1 = 6) ∧ ((S.1 a1 0) ≤ x3 → (x2 = 0 ∨ x2 = 1) ∧ Q x2 S) ∧ (¬ (S.1 a1 0) ≤ x3 → (vp_in x3 8) ∧ (¬ (S.1 57 x3.toNatClampNeg) ≤ 2 → fm_tg a1 = 6) ∧ (¬ (S.1 57 x3.toNatClampNeg) ≤ 2 → vp_in x3 8) ∧ ∀ v9 : Int32, v9 = (if (S.1 57 x3.toNatClampNeg) ≤ 2 then (0 : Int32) else S.1 (a1 + 4) x3.toNatClampNeg) → (am_Po vI (d + 1) k_Air_spread 37 [some (.ref 56), some (.ref a1), some (.int x2), some (.int x3), some (.int v9), some (.int 0), o6] [] S Q))) :
    am_Po vI (d + 1) k_Air_spread 4 [some (.ref 56), some (.ref a1), some (.int x2), some (.int x3), o4, o5, o6] [] S Q := by
  obtain ⟨g1, W⟩ := W
  by_cases q2 : (S.1 a1 0) ≤ x3
  · have W := W.1 q2
    refine po_of (fun _ nx => b_Air_spread_4 g1 (fun _ => nx) (fun z => absurd q2 z)) ?_
    obtain ⟨g3, W⟩ := W
    exact ⟨_, _, b_Air_spread_109 g3, W⟩
  · have W := W.2 q2
    refine po_of (fun _ nx => b_Air_spread_4 g1 (fun z => absurd z q2) (fun _ => nx)) ?_
    obtain ⟨g5, W⟩ := W
    obtain ⟨g7, W⟩ := W
    obtain ⟨g8, W⟩ := W
    have J : ∀ v9 : Int32, v9 = (if (S.1 57 x3.toNatClampNeg) ≤ 2 then (0 : Int32) else S.1 (a1 + 4) x3.toNatClampNeg) → am_Po vI (d + 1) k_Air_spread 32 [some (.ref 56), some (.ref a1), some (.int x2), some (.int x3), o4, o5, o6] [.int v9] S Q := by
      intro v9 v9_
      have W := W v9 v9_
      refine po_of (fun _ nx => b_Air_spread_32 nx) ?_
      exact W
    by_cases q6 : (S.1 57 x3.toNatClampNeg) ≤ 2
    · refine po_of (fun _ nx => b_Air_spread_12 g5 (fun _ => nx) (fun z => absurd q6 z)) ?_
      refine po_of (fun _ nx => b_Air_spread_31 nx) ?_
      exact J _ (by simp only [if_pos q6])
    · refine po_of (fun _ nx => b_Air_spread_12 g5 (fun z => absurd z q6) (fun _ => nx)) ?_
      refine po_of (fun _ nx => b_Air_spread_22 (g7 q6) (g8 q6) nx) ?_
      exact J _ (by simp only [if_neg q6])
abbrev H_Air_spread_4 (d : Nat) (a1 : Nat) (x2 : Int32) (x3 : Int32) (o4 : Option Value) (o5 : Option Value) (o6 : Option Value) (S : fm_S) (Q : Int32 → fm_S → Prop) : Prop := am_Po vI (d + 1) k_Air_spread 4 [some (.ref 56), some (.ref a1), some (.int x2), some (.int x3), o4, o5, o6] [] S Q
theorem p_Air_spread_37 {d : Nat} {a1 : Nat} {x2 : Int32} {x3 : Int32} {x4 : Int32} {x5 : Int32} {o6 : Option Value} {S : fm_S} {Q : Int32 → fm_S → Prop}
    (W : (fm_tg a1 = 6) ∧ ((S.1 a1 0) ≤ x5 → am_Po vI (d + 1) k_Air_spread 4 [some (.ref 56), some (.ref a1), some (.int x2), some (.int (x3 + 1)), some (.int x4), some (.int x5), o6] [] S Q) ∧ (¬ (S.1 a1 0) ≤ x5 → (vp_in x3 8) ∧ (vp_in x5 8) ∧ ((f_X_has x4 x5) = 0 → am_Po vI (d + 1) k_Air_spread 37 [some (.ref 56), some (.ref a1), some (.int x2), some (.int x3), some (.int x4), some (.int (x5 + 1)), some (.int (((S.1 57 x3.toNatClampNeg) - 2) - (S.1 58 x5.toNatClampNeg)))] [] S Q) ∧ (¬ (f_X_has x4 x5) = 0 → ((((S.1 57 x3.toNatClampNeg) - 2) - (S.1 58 x5.toNatClampNeg)) ≤ (S.1 57 x5.toNatClampNeg) → am_Po vI (d + 1) k_Air_spread 37 [some (.ref 56), some (.ref a1), some (.int x2), some (.int x3), some (.int x4), some (.int (x5 + 1)), some (.int (((S.1 57 x3.toNatClampNeg) - 2) - (S.1 58 x5.toNatClampNeg)))] [] S Q) ∧ (¬ (((S.1 57 x3.toNatClampNeg) - 2) - (S.1 58 x5.toNatClampNeg)) ≤ (S.1 57 x5.toNatClampNeg) → am_Po vI (d + 1) k_Air_spread 37 [some (.ref 56), some (.ref a1), some (.int 1), some (.int x3), some (.int x4), some (.int (x5 + 1)), some (.int (((S.1 57 x3.toNatClampNeg) - 2) - (S.1 58 x5.toNatClampNeg)))] [] (fm_wI S 57 x5.toNatClampNeg (((S.1 57 x3.toNatClampNeg) - 2) - (S.1 58 x5.toNatClampNeg))) Q)))) :
    am_Po vI (d + 1) k_Air_spread 37 [some (.ref 56), some (.ref a1), some (.int x2), some (.int x3), some (.int x4), some (.int x5), o6] [] S Q := by
  obtain ⟨g1, W⟩ := W
  by_cases q2 : (S.1 a1 0) ≤ x5
  · have W := W.1 q2
    refine po_of (fun _ nx => b_Air_spread_37 g1 (fun _ => nx) (fun z => absurd q2 z)) ?_
    refine po_of (fun _ nx => b_Air_spread_103 nx) ?_
    exact W
  · have W := W.2 q2
    refine po_of (fun _ nx => b_Air_spread_37 g1 (fun z => absurd z q2) (fun _ => nx)) ?_
    obtain ⟨g3, W⟩ := W
    obtain ⟨g4, W⟩ := W
    refine po_of (fun _ nx => b_Air_spread_46 g3 g4 (s_X_has (x0 := x4) (x1 := x5) (S := S)) nx) ?_
    by_cases q5 : (f_X_has x4 x5) = 0
    · have W := W.1 q5
      refine po_of (fun _ nx => b_Air_spread_71 (fun _ => nx) (fun z => absurd q5 z)) ?_
      refine po_of (fun _ nx => b_Air_spread_97 nx) ?_
      exact W
    · have W := W.2 q5
      refine po_of (fun _ nx => b_Air_spread_71 (fun z => absurd z q5) (fun _ => nx)) ?_
      by_cases q6 : (((S.1 57 x3.toNatClampNeg) - 2) - (S.1 58 x5.toNatClampNeg)) ≤ (S.1 57 x5.toNatClampNeg)
      · have W := W.1 q6
        refine po_of (fun _ nx => b_Air_spread_74 g4 (fun _ => nx) (fun z => absurd q6 z)) ?_
        refine po_of (fun _ nx => b_Air_spread_97 nx) ?_
        exact W
      · have W := W.2 q6
        refine po_of (fun _ nx => b_Air_spread_74 g4 (fun z => absurd z q6) (fun _ => nx)) ?_
        refine po_of (fun _ nx => b_Air_spread_86 g4 nx) ?_
        refine po_of (fun _ nx => b_Air_spread_97 nx) ?_
        exact W
abbrev H_Air_spread_37 (d : Nat) (a1 : Nat) (x2 : Int32) (x3 : Int32) (x4 : Int32) (x5 : Int32) (o6 : Option Value) (S : fm_S) (Q : Int32 → fm_S → Prop) : Prop := am_Po vI (d + 1) k_Air_spread 37 [some (.ref 56), some (.ref a1), some (.int x2), some (.int x3), some (.int x4), some (.int x5), o6] [] S Q
