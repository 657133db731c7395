/-! rules as weakest preconditions: printed by wip/whole/gen15.py -/
theorem p_Cook_pass_0 {d : Nat} {a1 : Nat} {x2 : Int32} {o3 : Option Value} {o4 : Option Value} {o5 : Option Value} {S : fm_S} {Q : Int32 → fm_S → Prop}
    (W : (x2 = (-1) → am_Po vI (d + 4) k_Cook_pass 77 [some (.ref 54), some (.ref a1), some (.int x2), some (.int (-1)), some (.int 0), some (.int 0)] [] (ar_none S 8) Q) ∧ (¬ x2 = (-1) → (fm_tg a1 = 2) ∧ (vp_in (f_Math_floorMod (S.1 a1 0) 4) (fm_ln (1 + 6))) ∧ am_Ps vV (d + 3) k_Air_fill [.ref 56, .ref 1, .int x2, .int (f_Town_windOn S 1 (S.1 a1 0))] S fun _ S4 => ((vp_in x2 6) ∧ (vp_in (S4.1 1 0) 9) ∧ am_Po vI (d + 4) k_Cook_pass 77 [some (.ref 54), some (.ref a1), some (.int x2), some (.int (S4.1 8 x2.toNatClampNeg)), some (.int (n_Cook_openingBits S4 a1 x2 (((S4.1 1 0)).toNatClampNeg))), some (.int 0)] [] S4 Q))) :
    am_Po vI (d + 4) k_Cook_pass 0 [some (.ref 54), some (.ref a1), some (.int x2), o3, o4, o5] [] S Q := by
  by_cases q1 : x2 = (-1)
  · have W := W.1 q1
    refine po_of (fun _ nx => b_Cook_pass_0 (fun z => absurd q1 z) (fun _ => nx)) ?_
    refine po_of (fun _ nx => b_Cook_pass_5 (s_Air_empty (S := S)) nx) ?_
    refine po_of (fun _ nx => b_Cook_pass_12 nx) ?_
    refine po_of (fun _ nx => b_Cook_pass_38 (fun z => absurd q1 z) (fun _ => nx)) ?_
    refine po_of (fun _ nx => b_Cook_pass_43 nx) ?_
    refine po_of (fun _ nx => b_Cook_pass_56 (fun z => absurd q1 z) (fun _ => nx)) ?_
    refine po_of (fun _ nx => b_Cook_pass_62 nx) ?_
    refine po_of (fun _ nx => b_Cook_pass_72 nx) ?_
    exact W
  · have W := W.2 q1
    refine po_of (fun _ nx => b_Cook_pass_0 (fun _ => nx) (fun z => absurd z q1)) ?_
    obtain ⟨g2, W⟩ := W
    obtain ⟨g3, W⟩ := W
    refine po_of (fun _ nx => b_Cook_pass_15 g2 (s_Town_windOn (a0 := 1) (x1 := (S.1 a1 0)) (S := S) (by decide +kernel) (by decide +kernel) g3) nx) ?_
    obtain ⟨_, S4, h7, W⟩ := W
    refine po_of (fun _ nx => b_Cook_pass_35 h7 nx) ?_
    refine po_of (fun _ nx => b_Cook_pass_38 (fun _ => nx) (fun z => absurd z q1)) ?_
    obtain ⟨g5, W⟩ := W
    refine po_of (fun _ nx => b_Cook_pass_47 g5 nx) ?_
    refine po_of (fun _ nx => b_Cook_pass_56 (fun _ => nx) (fun z => absurd z q1)) ?_
    obtain ⟨g6, W⟩ := W
    refine po_of (fun _ nx => b_Cook_pass_66 (s_Cook_openingBits (a1 := a1) (x2 := x2) (S := S4) g2 g5 g6) nx) ?_
    refine po_of (fun _ nx => b_Cook_pass_72 nx) ?_
    exact W
theorem e_Cook_pass {d : Nat} {a1 : Nat} {x2 : Int32} {S : fm_S} {Q : Int32 → fm_S → Prop}
    (W : (x2 = (-1) → am_Po vI (d + 4) k_Cook_pass 77 [some (.ref 54), some (.ref a1), some (.int x2), some (.int (-1)), some (.int 0), some (.int 0)] [] (ar_none S 8) Q) ∧ (¬ x2 = (-1) → (fm_tg a1 = 2) ∧ (vp_in (f_Math_floorMod (S.1 a1 0) 4) (fm_ln (1 + 6))) ∧ am_Ps vV (d + 3) k_Air_fill [.ref 56, .ref 1, .int x2, .int (f_Town_windOn S 1 (S.1 a1 0))] S fun _ S4 => ((vp_in x2 6) ∧ (vp_in (S4.1 1 0) 9) ∧ am_Po vI (d + 4) k_Cook_pass 77 [some (.ref 54), some (.ref a1), some (.int x2), some (.int (S4.1 8 x2.toNatClampNeg)), some (.int (n_Cook_openingBits S4 a1 x2 (((S4.1 1 0)).toNatClampNeg))), some (.int 0)] [] S4 Q))) :
    am_Ps vI (d + 4) k_Cook_pass [.ref 54, .ref a1, .int x2] S Q := ps_of (L := [some (.ref 54), some (.ref a1), some (.int x2), none, none, none]) rfl (Nat.le_of_ble_eq_true rfl) (Nat.le_of_ble_eq_true rfl) (p_Cook_pass_0 W)
theorem p_Cook_pass_77 {d : Nat} {a1 : Nat} {x2 : Int32} {x3 : Int32} {x4 : Int32} {x5 : Int32} {S : fm_S} {Q : Int32 → fm_S → Prop}
    (W : ((S.1 1 0) ≤ x5 → (fm_tg a1 = 2) ∧ Q x4 (fm_wI S a1 0 ((S.1 a1 0) + 1))) ∧ (¬ (S.1 1 0) ≤ x5 → ((f_X_has x4 x5) = 0 → (vp_in x5 8) ∧ (fm_tg a1 = 2) ∧ ((S.1 57 x5.toNatClampNeg) ≤ 0 → vp_in x5 8) ∧ (¬ (S.1 57 x5.toNatClampNeg) ≤ 0 → vp_in x5 8) ∧ (¬ (S.1 57 x5.toNatClampNeg) ≤ 0 → fm_tg (a1 + 3) = 100) ∧ (¬ (S.1 57 x5.toNatClampNeg) ≤ 0 → vp_in x5 (fm_ln (a1 + 3))) ∧ am_Po vI (d + 4) k_Cook_pass 77 [some (.ref 54), some (.ref a1), some (.int x2), some (.int x3), some (.int x4), some (.int (x5 + 1))] [] (g_Days_smellAfter S a1 x5 x3 (S.1 57 x5.toNatClampNeg)) Q) ∧ (¬ (f_X_has x4 x5) = 0 → (fm_tg a1 = 2) ∧ (vp_in x5 8) ∧ (((fm_wI S (a1 + 1) x5.toNatClampNeg (S.1 a1 0)).1 57 x5.toNatClampNeg) ≤ 0 → vp_in x5 8) ∧ (¬ ((fm_wI S (a1 + 1) x5.toNatClampNeg (S.1 a1 0)).1 57 x5.toNatClampNeg) ≤ 0 → vp_in x5 8) ∧ (¬ ((fm_wI S (a1 + 1) x5.toNatClampNeg (S.1 a1 0)).1 57 x5.toNatClampNeg) ≤ 0 → fm_tg (a1 + 3) = 100) ∧ (¬ ((fm_wI S (a1 + 1) x5.toNatClampNeg (S.1 a1 0)).1 57 x5.toNatClampNeg) ≤ 0 → vp_in x5 (fm_ln (a1 + 3))) ∧ am_Po vI (d + 4) k_Cook_pass 77 [some (.ref 54), some (.ref a1), some (.int x2), some (.int x3), some (.int x4), some (.int (x5 + 1))] [] (g_Days_smellAfter (fm_wI S (a1 + 1) x5.toNatClampNeg (S.1 a1 0)) a1 x5 x3 ((fm_wI S (a1 + 1) x5.toNatClampNeg (S.1 a1 0)).1 57 x5.toNatClampNeg)) Q))) :
    am_Po vI (d + 4) k_Cook_pass 77 [some (.ref 54), some (.ref a1), some (.int x2), some (.int x3), some (.int x4), some (.int x5)] [] S Q := by
  by_cases q1 : (S.1 1 0) ≤ x5
  · have W := W.1 q1
    refine po_of (fun _ nx => b_Cook_pass_77 (fun _ => nx) (fun z => absurd q1 z)) ?_
    obtain ⟨g2, W⟩ := W
    exact ⟨_, _, b_Cook_pass_133 g2, W⟩
  · have W := W.2 q1
    refine po_of (fun _ nx => b_Cook_pass_77 (fun z => absurd z q1) (fun _ => nx)) ?_
    refine po_of (fun _ nx => b_Cook_pass_89 (s_X_has (x0 := x4) (x1 := x5) (S := S)) nx) ?_
    by_cases q3 : (f_X_has x4 x5) = 0
    · have W := W.1 q3
      refine po_of (fun _ nx => b_Cook_pass_96 (fun _ => nx) (fun z => absurd q3 z)) ?_
      obtain ⟨g4, W⟩ := W
      obtain ⟨g5, W⟩ := W
      obtain ⟨g6, W⟩ := W
      obtain ⟨g7, W⟩ := W
      obtain ⟨g8, W⟩ := W
      obtain ⟨g9, W⟩ := W
      refine po_of (fun _ nx => b_Cook_pass_110 g4 g5 (s_Days_smellAfter (a0 := a1) (x1 := x5) (x2 := x3) (x3 := (S.1 57 x5.toNatClampNeg)) (S := S) g5 g6 g7 g8 g9) nx) ?_
      refine po_of (fun _ nx => b_Cook_pass_127 nx) ?_
      exact W
    · have W := W.2 q3
      refine po_of (fun _ nx => b_Cook_pass_96 (fun z => absurd z q3) (fun _ => nx)) ?_
      obtain ⟨g10, W⟩ := W
      obtain ⟨g11, W⟩ := W
      refine po_of (fun _ nx => b_Cook_pass_99 g10 g11 nx) ?_
      obtain ⟨g12, W⟩ := W
      obtain ⟨g13, W⟩ := W
      obtain ⟨g14, W⟩ := W
      obtain ⟨g15, W⟩ := W
      refine po_of (fun _ nx => b_Cook_pass_110 g11 g10 (s_Days_smellAfter (a0 := a1) (x1 := x5) (x2 := x3) (x3 := ((fm_wI S (a1 + 1) x5.toNatClampNeg (S.1 a1 0)).1 57 x5.toNatClampNeg)) (S := (fm_wI S (a1 + 1) x5.toNatClampNeg (S.1 a1 0))) g10 g12 g13 g14 g15) nx) ?_
      refine po_of (fun _ nx => b_Cook_pass_127 nx) ?_
      exact W
abbrev H_Cook_pass_77 (d : Nat) (a1 : Nat) (x2 : Int32) (x3 : Int32) (x4 : Int32) (x5 : Int32) (S : fm_S) (Q : Int32 → fm_S → Prop) : Prop := am_Po vI (d + 4) k_Cook_pass 77 [some (.ref 54), some (.ref a1), some (.int x2), some (.int x3), some (.int x4), some (.int x5)] [] S Q
theorem p_Cook_strength_0 {d : Nat} {x1 : Int32} {x2 : Int32} {x3 : Int32} {S : fm_S} {Q : Int32 → fm_S → Prop}
    (W : am_Ps vV (d + 3) k_Air_fill [.ref 56, .ref 1, .int x1, .int x2] S fun _ S1 => ((vp_in x3 8) ∧ Q (S1.1 57 x3.toNatClampNeg) S1)) :
    am_Po vI (d + 4) k_Cook_strength 0 [some (.ref 54), some (.int x1), some (.int x2), some (.int x3)] [] S Q := by
  obtain ⟨_, S1, h3, W⟩ := W
  refine po_of (fun _ nx => b_Cook_strength_0 h3 nx) ?_
  obtain ⟨g2, W⟩ := W
  exact ⟨_, _, b_Cook_strength_13 g2, W⟩
theorem e_Cook_strength {d : Nat} {x1 : Int32} {x2 : Int32} {x3 : Int32} {S : fm_S} {Q : Int32 → fm_S → Prop}
    (W : am_Ps vV (d + 3) k_Air_fill [.ref 56, .ref 1, .int x1, .int x2] S fun _ S1 => ((vp_in x3 8) ∧ Q (S1.1 57 x3.toNatClampNeg) S1)) :
    am_Ps vI (d + 4) k_Cook_strength [.ref 54, .int x1, .int x2, .int x3] S Q := ps_of (L := [some (.ref 54), some (.int x1), some (.int x2), some (.int x3)]) rfl (Nat.le_of_ble_eq_true rfl) (Nat.le_of_ble_eq_true rfl) (p_Cook_strength_0 W)
theorem p_Cook_pullNow_0 {d : Nat} {x1 : Int32} {x2 : Int32} {S : fm_S} {Q : Int32 → fm_S → Prop}
    (W : (vp_in (f_Math_floorMod (S.1 17 0) 4) (fm_ln (1 + 6))) ∧ am_Ps vV (d + 3) k_Air_fill [.ref 56, .ref 1, .int x1, .int (f_Town_windOn S 1 (S.1 17 0))] S fun _ S2 => ((vp_in x1 6) ∧ (vp_in x2 8) ∧ Q (f_Cook_pullFromAir S2 17 x1 x2) S2)) :
    am_Po vI (d + 4) k_Cook_pullNow 0 [some (.ref 54), some (.int x1), some (.int x2)] [] S Q := by
  obtain ⟨g1, W⟩ := W
  refine po_of (fun _ nx => b_Cook_pullNow_0 (s_Town_windOn (a0 := 1) (x1 := (S.1 17 0)) (S := S) (by decide +kernel) (by decide +kernel) g1) nx) ?_
  obtain ⟨_, S2, h5, W⟩ := W
  refine po_of (fun _ nx => b_Cook_pullNow_26 h5 nx) ?_
  obtain ⟨g3, W⟩ := W
  obtain ⟨g4, W⟩ := W
  refine po_of (fun _ nx => b_Cook_pullNow_29 (s_Cook_pullFromAir (a1 := 17) (x2 := x1) (x3 := x2) (S := S2) g3 (by decide +kernel) g4) nx) ?_
  exact ⟨_, _, b_Cook_pullNow_42, W⟩
theorem e_Cook_pullNow {d : Nat} {x1 : Int32} {x2 : Int32} {S : fm_S} {Q : Int32 → fm_S → Prop}
    (W : (vp_in (f_Math_floorMod (S.1 17 0) 4) (fm_ln (1 + 6))) ∧ am_Ps vV (d + 3) k_Air_fill [.ref 56, .ref 1, .int x1, .int (f_Town_windOn S 1 (S.1 17 0))] S fun _ S2 => ((vp_in x1 6) ∧ (vp_in x2 8) ∧ Q (f_Cook_pullFromAir S2 17 x1 x2) S2)) :
    am_Ps vI (d + 4) k_Cook_pullNow [.ref 54, .int x1, .int x2] S Q := ps_of (L := [some (.ref 54), some (.int x1), some (.int x2)]) rfl (Nat.le_of_ble_eq_true rfl) (Nat.le_of_ble_eq_true rfl) (p_Cook_pullNow_0 W)
theorem p_Cook_daysToFall_0 {d : Nat} {x1 : Int32} {x2 : Int32} {o3 : Option Value} {o4 : Option Value} {o5 : Option Value} {S : fm_S} {Q : Int32 → fm_S → Prop}
    (W : (vp_in x2 8) ∧ ((f_Days_isShut S 17 x2) = 0 → Q 0 S) ∧ (¬ (f_Days_isShut S 17 x2) = 0 → am_Ps vV (d + 4) k_Cook_measure [.ref 54, .int x1, .int x2] S fun _ S3 => ((vp_in x1 6) ∧ am_Po vI (d + 5) k_Cook_daysToFall 46 [some (.ref 54), some (.int x1), some (.int x2), some (.int (f_Days_ahead S3 17 x2 (S3.1 8 x1.toNatClampNeg))), some (.int 0), o5] [] S3 Q))) :
    am_Po vI (d + 5) k_Cook_daysToFall 0 [some (.ref 54), some (.int x1), some (.int x2), o3, o4, o5] [] S Q := by
  obtain ⟨g1, W⟩ := W
  refine po_of (fun _ nx => b_Cook_daysToFall_0 (s_Days_isShut (a0 := 17) (x1 := x2) (S := S) (by decide +kernel) g1) nx) ?_
  by_cases q2 : (f_Days_isShut S 17 x2) = 0
  · have W := W.1 q2
    refine po_of (fun _ nx => b_Cook_daysToFall_11 (fun z => absurd q2 z) (fun _ => nx)) ?_
    exact ⟨_, _, b_Cook_daysToFall_14, W⟩
  · have W := W.2 q2
    refine po_of (fun _ nx => b_Cook_daysToFall_11 (fun _ => nx) (fun z => absurd z q2)) ?_
    obtain ⟨_, S3, h5, W⟩ := W
    refine po_of (fun _ nx => b_Cook_daysToFall_16 h5 nx) ?_
    obtain ⟨g4, W⟩ := W
    refine po_of (fun _ nx => b_Cook_daysToFall_22 g4 (s_Days_ahead (a0 := 17) (x1 := x2) (x2 := (S3.1 8 x1.toNatClampNeg)) (S := S3) (by decide +kernel) g1) nx) ?_
    refine po_of (fun _ nx => b_Cook_daysToFall_42 nx) ?_
    exact W
theorem e_Cook_daysToFall {d : Nat} {x1 : Int32} {x2 : Int32} {S : fm_S} {Q : Int32 → fm_S → Prop}
    (W : (vp_in x2 8) ∧ ((f_Days_isShut S 17 x2) = 0 → Q 0 S) ∧ (¬ (f_Days_isShut S 17 x2) = 0 → am_Ps vV (d + 4) k_Cook_measure [.ref 54, .int x1, .int x2] S fun _ S3 => ((vp_in x1 6) ∧ am_Po vI (d + 5) k_Cook_daysToFall 46 [some (.ref 54), some (.int x1), some (.int x2), some (.int (f_Days_ahead S3 17 x2 (S3.1 8 x1.toNatClampNeg))), some (.int 0), none] [] S3 Q))) :
    am_Ps vI (d + 5) k_Cook_daysToFall [.ref 54, .int x1, .int x2] S Q := ps_of (L := [some (.ref 54), some (.int x1), some (.int x2), none, none, none]) rfl (Nat.le_of_ble_eq_true rfl) (Nat.le_of_ble_eq_true rfl) (p_Cook_daysToFall_0 W)
theorem p_Cook_daysToFall_46 {d : Nat} {x1 : Int32} {x2 : Int32} {x3 : Int32} {x4 : Int32} {o5 : Option Value} {S : fm_S} {Q : Int32 → fm_S → Prop}
    (W : (30 ≤ x4 → Q (-1) S) ∧ (¬ 30 ≤ x4 → (vp_in ((x1 * 4) + (x4 - x4 / 4 * 4)) 24) ∧ (vp_in x2 8) ∧ (vp_in x1 6) ∧ ((f_Town_pull S 1 x2 x1 (S.1 64 (((x1 * 4) + (x4 - x4 / 4 * 4)).toNatClampNeg)) ((S.1 17 0) + x4) x3) < 10 → ∀ v7 : Int32, v7 = (if (S.1 64 (((x1 * 4) + (x4 - x4 / 4 * 4)).toNatClampNeg)) ≤ 0 then (0 : Int32) else x3 + 1) → (am_Po vI (d + 5) k_Cook_daysToFall 46 [some (.ref 54), some (.int x1), some (.int x2), some (.int v7), some (.int (x4 + 1)), some (.int (S.1 64 (((x1 * 4) + (x4 - x4 / 4 * 4)).toNatClampNeg)))] [] S Q)) ∧ (¬ (f_Town_pull S 1 x2 x1 (S.1 64 (((x1 * 4) + (x4 - x4 / 4 * 4)).toNatClampNeg)) ((S.1 17 0) + x4) x3) < 10 → Q (x4 + 1) S))) :
    am_Po vI (d + 5) k_Cook_daysToFall 46 [some (.ref 54), some (.int x1), some (.int x2), some (.int x3), some (.int x4), o5] [] S Q := by
  by_cases q1 : 30 ≤ x4
  · have W := W.1 q1
    refine po_of (fun _ nx => b_Cook_daysToFall_46 (fun _ => nx) (fun z => absurd q1 z)) ?_
    exact ⟨_, _, b_Cook_daysToFall_122, W⟩
  · have W := W.2 q1
    refine po_of (fun _ nx => b_Cook_daysToFall_46 (fun z => absurd z q1) (fun _ => nx)) ?_
    obtain ⟨g2, W⟩ := W
    obtain ⟨g3, W⟩ := W
    obtain ⟨g4, W⟩ := W
    refine po_of (fun _ nx => b_Cook_daysToFall_53 g2 (s_Town_pull (a0 := 1) (x1 := x2) (x2 := x1) (x3 := (S.1 64 (((x1 * 4) + (x4 - x4 / 4 * 4)).toNatClampNeg))) (x4 := ((S.1 17 0) + x4)) (x5 := x3) (S := S) (by decide +kernel) g3 g4) nx) ?_
    by_cases q5 : (f_Town_pull S 1 x2 x1 (S.1 64 (((x1 * 4) + (x4 - x4 / 4 * 4)).toNatClampNeg)) ((S.1 17 0) + x4) x3) < 10
    · have W := W.1 q5
      refine po_of (fun _ nx => b_Cook_daysToFall_93 (fun _ => nx) (fun z => absurd q5 z)) ?_
      have J : ∀ v7 : Int32, v7 = (if (S.1 64 (((x1 * 4) + (x4 - x4 / 4 * 4)).toNatClampNeg)) ≤ 0 then (0 : Int32) else x3 + 1) → am_Po vI (d + 5) k_Cook_daysToFall 115 [some (.ref 54), some (.int x1), some (.int x2), some (.int x3), some (.int x4), some (.int (S.1 64 (((x1 * 4) + (x4 - x4 / 4 * 4)).toNatClampNeg)))] [.int v7] S Q := by
        intro v7 v7_
        have W := W v7 v7_
        refine po_of (fun _ nx => b_Cook_daysToFall_115 nx) ?_
        exact W
      by_cases q6 : (S.1 64 (((x1 * 4) + (x4 - x4 / 4 * 4)).toNatClampNeg)) ≤ 0
      · refine po_of (fun _ nx => b_Cook_daysToFall_103 (fun _ => nx) (fun z => absurd q6 z)) ?_
        refine po_of (fun _ nx => b_Cook_daysToFall_114 nx) ?_
        exact J _ (by simp only [if_pos q6])
      · refine po_of (fun _ nx => b_Cook_daysToFall_103 (fun z => absurd z q6) (fun _ => nx)) ?_
        refine po_of (fun _ nx => b_Cook_daysToFall_108 nx) ?_
        exact J _ (by simp only [if_neg q6])
    · have W := W.2 q5
      refine po_of (fun _ nx => b_Cook_daysToFall_93 (fun z => absurd z q5) (fun _ => nx)) ?_
      exact ⟨_, _, b_Cook_daysToFall_98, W⟩
abbrev H_Cook_daysToFall_46 (d : Nat) (x1 : Int32) (x2 : Int32) (x3 : Int32) (x4 : Int32) (o5 : Option Value) (S : fm_S) (Q : Int32 → fm_S → Prop) : Prop := am_Po vI (d + 5) k_Cook_daysToFall 46 [some (.ref 54), some (.int x1), some (.int x2), some (.int x3), some (.int x4), o5] [] S Q
theorem p_Cook_measure_0 {d : Nat} {x1 : Int32} {x2 : Int32} {o3 : Option Value} {S : fm_S} {Q : Unit → fm_S → Prop}
    (W : am_Po vV (d + 4) k_Cook_measure 2 [some (.ref 54), some (.int x1), some (.int x2), some (.int 0)] [] S Q) :
    am_Po vV (d + 4) k_Cook_measure 0 [some (.ref 54), some (.int x1), some (.int x2), o3] [] S Q := by
  refine po_of (fun _ nx => b_Cook_measure_0 nx) ?_
  exact W
theorem e_Cook_measure {d : Nat} {x1 : Int32} {x2 : Int32} {S : fm_S} {Q : Unit → fm_S → Prop}
    (W : am_Po vV (d + 4) k_Cook_measure 2 [some (.ref 54), some (.int x1), some (.int x2), some (.int 0)] [] S Q) :
    am_Ps vV (d + 4) k_Cook_measure [.ref 54, .int x1, .int x2] S Q := ps_of (L := [some (.ref 54), some (.int x1), some (.int x2), none]) rfl (Nat.le_of_ble_eq_true rfl) (Nat.le_of_ble_eq_true rfl) (p_Cook_measure_0 W)
theorem p_Cook_measure_2 {d : Nat} {x1 : Int32} {x2 : Int32} {x3 : Int32} {S : fm_S} {Q : Unit → fm_S → Prop}
    (W : (4 ≤ x3 → Q () S) ∧ (¬ 4 ≤ x3 → (vp_in (f_Math_floorMod ((S.1 17 0) + x3) 4) (fm_ln (1 + 6))) ∧ am_Ps vV (d + 3) k_Air_fill [.ref 56, .ref 1, .int x1, .int (f_Town_windOn S 1 ((S.1 17 0) + x3))] S fun _ S3 => ((vp_in x2 8) ∧ (vp_in ((x1 * 4) + x3) 24) ∧ am_Po vV (d + 4) k_Cook_measure 2 [some (.ref 54), some (.int x1), some (.int x2), some (.int (x3 + 1))] [] (fm_wI S3 64 (((x1 * 4) + x3).toNatClampNeg) (S3.1 57 x2.toNatClampNeg)) Q))) :
    am_Po vV (d + 4) k_Cook_measure 2 [some (.ref 54), some (.int x1), some (.int x2), some (.int x3)] [] S Q := by
  by_cases q1 : 4 ≤ x3
  · have W := W.1 q1
    refine po_of (fun _ nx => b_Cook_measure_2 (fun _ => nx) (fun z => absurd q1 z)) ?_
    exact ⟨_, _, b_Cook_measure_63, W⟩
  · have W := W.2 q1
    refine po_of (fun _ nx => b_Cook_measure_2 (fun z => absurd z q1) (fun _ => nx)) ?_
    obtain ⟨g2, W⟩ := W
    refine po_of (fun _ nx => b_Cook_measure_7 (s_Town_windOn (a0 := 1) (x1 := ((S.1 17 0) + x3)) (S := S) (by decide +kernel) (by decide +kernel) g2) nx) ?_
    obtain ⟨_, S3, h6, W⟩ := W
    refine po_of (fun _ nx => b_Cook_measure_35 h6 nx) ?_
    obtain ⟨g4, W⟩ := W
    obtain ⟨g5, W⟩ := W
    refine po_of (fun _ nx => b_Cook_measure_38 g4 g5 nx) ?_
    exact W
abbrev H_Cook_measure_2 (d : Nat) (x1 : Int32) (x2 : Int32) (x3 : Int32) (S : fm_S) (Q : Unit → fm_S → Prop) : Prop := am_Po vV (d + 4) k_Cook_measure 2 [some (.ref 54), some (.int x1), some (.int x2), some (.int x3)] [] S Q
theorem p_Cook_findRow_0 {d : Nat} {x1 : Int32} {o2 : Option Value} {o3 : Option Value} {S : fm_S} {Q : Int32 → fm_S → Prop}
    (W : (vp_in x1 8) ∧ ((f_Days_isShut (fm_wI S 54 1 0) 17 x1) = 0 → Q 0 (fm_wI S 54 1 0)) ∧ (¬ (f_Days_isShut (fm_wI S 54 1 0) 17 x1) = 0 → am_Po vI (d + 5) k_Cook_findRow 23 [some (.ref 54), some (.int x1), some (.int 0), o3] [] (fm_wI S 54 1 0) Q)) :
    am_Po vI (d + 5) k_Cook_findRow 0 [some (.ref 54), some (.int x1), o2, o3] [] S Q := by
  obtain ⟨g1, W⟩ := W
  refine po_of (fun _ nx => b_Cook_findRow_0 (s_Days_isShut (a0 := 17) (x1 := x1) (S := (fm_wI S 54 1 0)) (by decide +kernel) g1) nx) ?_
  by_cases q2 : (f_Days_isShut (fm_wI S 54 1 0) 17 x1) = 0
  · have W := W.1 q2
    refine po_of (fun _ nx => b_Cook_findRow_16 (fun z => absurd q2 z) (fun _ => nx)) ?_
    exact ⟨_, _, b_Cook_findRow_19, W⟩
  · have W := W.2 q2
    refine po_of (fun _ nx => b_Cook_findRow_16 (fun _ => nx) (fun z => absurd z q2)) ?_
    refine po_of (fun _ nx => b_Cook_findRow_21 nx) ?_
    exact W
theorem e_Cook_findRow {d : Nat} {x1 : Int32} {S : fm_S} {Q : Int32 → fm_S → Prop}
    (W : (vp_in x1 8) ∧ ((f_Days_isShut (fm_wI S 54 1 0) 17 x1) = 0 → Q 0 (fm_wI S 54 1 0)) ∧ (¬ (f_Days_isShut (fm_wI S 54 1 0) 17 x1) = 0 → am_Po vI (d + 5) k_Cook_findRow 23 [some (.ref 54), some (.int x1), some (.int 0), none] [] (fm_wI S 54 1 0) Q)) :
    am_Ps vI (d + 5) k_Cook_findRow [.ref 54, .int x1] S Q := ps_of (L := [some (.ref 54), some (.int x1), none, none]) rfl (Nat.le_of_ble_eq_true rfl) (Nat.le_of_ble_eq_true rfl) (p_Cook_findRow_0 W)
theorem p_Cook_findRow_23 {d : Nat} {x1 : Int32} {x2 : Int32} {o3 : Option Value} {S : fm_S} {Q : Int32 → fm_S → Prop}
    (W : ((S.1 1 7) ≤ x2 → am_Po vI (d + 5) k_Cook_findRow 50 [some (.ref 54), some (.int x1), some (.int 1), some (.int 1)] [] S Q) ∧ (¬ (S.1 1 7) ≤ x2 → am_Ps vV (d + 4) k_Cook_measure [.ref 54, .int x2, .int x1] S fun _ S2 => (am_Po vI (d + 5) k_Cook_findRow 23 [some (.ref 54), some (.int x1), some (.int (x2 + 1)), o3] [] S2 Q))) :
    am_Po vI (d + 5) k_Cook_findRow 23 [some (.ref 54), some (.int x1), some (.int x2), o3] [] S Q := by
  by_cases q1 : (S.1 1 7) ≤ x2
  · have W := W.1 q1
    refine po_of (fun _ nx => b_Cook_findRow_23 (fun _ => nx) (fun z => absurd q1 z)) ?_
    refine po_of (fun _ nx => b_Cook_findRow_46 nx) ?_
    exact W
  · have W := W.2 q1
    refine po_of (fun _ nx => b_Cook_findRow_23 (fun z => absurd z q1) (fun _ => nx)) ?_
    obtain ⟨_, S2, h3, W⟩ := W
    refine po_of (fun _ nx => b_Cook_findRow_34 h3 nx) ?_
    refine po_of (fun _ nx => b_Cook_findRow_40 nx) ?_
    exact W
abbrev H_Cook_findRow_23 (d : Nat) (x1 : Int32) (x2 : Int32) (o3 : Option Value) (S : fm_S) (Q : Int32 → fm_S → Prop) : Prop := am_Po vI (d + 5) k_Cook_findRow 23 [some (.ref 54), some (.int x1), some (.int x2), o3] [] S Q
theorem p_Cook_findRow_50 {d : Nat} {x1 : Int32} {x2 : Int32} {x3 : Int32} {S : fm_S} {Q : Int32 → fm_S → Prop}
    (W : (4 < x3 → Q (-1) S) ∧ (¬ 4 < x3 → am_Ps vI (d + 4) k_Cook_findRowOf [.ref 54, .int x3, .int (x2 * (S.1 1 7)), .int x1] S fun v3 S2 => ((v3 = 0 → am_Po vI (d + 5) k_Cook_findRow 50 [some (.ref 54), some (.int x1), some (.int (x2 * (S.1 1 7))), some (.int (x3 + 1))] [] S2 Q) ∧ (¬ v3 = 0 → Q x3 S2)))) :
    am_Po vI (d + 5) k_Cook_findRow 50 [some (.ref 54), some (.int x1), some (.int x2), some (.int x3)] [] S Q := by
  by_cases q1 : 4 < x3
  · have W := W.1 q1
    refine po_of (fun _ nx => b_Cook_findRow_50 (fun _ => nx) (fun z => absurd q1 z)) ?_
    exact ⟨_, _, b_Cook_findRow_83, W⟩
  · have W := W.2 q1
    refine po_of (fun _ nx => b_Cook_findRow_50 (fun z => absurd z q1) (fun _ => nx)) ?_
    obtain ⟨v3, S2, h5, W⟩ := W
    refine po_of (fun _ nx => b_Cook_findRow_55 h5 nx) ?_
    by_cases q4 : v3 = 0
    · have W := W.1 q4
      refine po_of (fun _ nx => b_Cook_findRow_72 (fun _ => nx) (fun z => absurd q4 z)) ?_
      refine po_of (fun _ nx => b_Cook_findRow_77 nx) ?_
      exact W
    · have W := W.2 q4
      refine po_of (fun _ nx => b_Cook_findRow_72 (fun z => absurd z q4) (fun _ => nx)) ?_
      exact ⟨_, _, b_Cook_findRow_75, W⟩
abbrev H_Cook_findRow_50 (d : Nat) (x1 : Int32) (x2 : Int32) (x3 : Int32) (S : fm_S) (Q : Int32 → fm_S → Prop) : Prop := am_Po vI (d + 5) k_Cook_findRow 50 [some (.ref 54), some (.int x1), some (.int x2), some (.int x3)] [] S Q
theorem p_Cook_findRowOf_0 {d : Nat} {x1 : Int32} {x2 : Int32} {x3 : Int32} {o4 : Option Value} {o5 : Option Value} {o6 : Option Value} {o7 : Option Value} {S : fm_S} {Q : Int32 → fm_S → Prop}
    (W : am_Po vI (d + 3) k_Cook_findRowOf 6 [some (.ref 54), some (.int x1), some (.int x2), some (.int x3), some (.int 0), some (.int 0), o6, o7] [] S Q) :
    am_Po vI (d + 3) k_Cook_findRowOf 0 [some (.ref 54), some (.int x1), some (.int x2), some (.int x3), o4, o5, o6, o7] [] S Q := by
  refine po_of (fun _ nx => b_Cook_findRowOf_0 nx) ?_
  exact W
theorem e_Cook_findRowOf {d : Nat} {x1 : Int32} {x2 : Int32} {x3 : Int32} {S : fm_S} {Q : Int32 → fm_S → Prop}
    (W : am_Po vI (d + 3) k_Cook_findRowOf 6 [some (.ref 54), some (.int x1), some (.int x2), some (.int x3), some (.int 0), some (.int 0), none, none] [] S Q) :
    am_Ps vI (d + 3) k_Cook_findRowOf [.ref 54, .int x1, .int x2, .int x3] S Q := ps_of (L := [some (.ref 54), some (.int x1), some (.int x2), some (.int x3), none, none, none, none]) rfl (Nat.le_of_ble_eq_true rfl) (Nat.le_of_ble_eq_true rfl) (p_Cook_findRowOf_0 W)
theorem p_Cook_findRowOf_6 {d : Nat} {x1 : Int32} {x2 : Int32} {x3 : Int32} {x4 : Int32} {x5 : Int32} {o6 : Option Value} {o7 : Option Value} {S : fm_S} {Q : Int32 → fm_S → Prop}
    (W : (x2 ≤ x5 → (x4 = 0 ∨ x4 = 1) ∧ Q x4 S) ∧ (¬ x2 ≤ x5 → am_Ps vI (d + 2) k_Cook_lay [.ref 54, .int x5, .int x1] S fun v4 S3 => ((v4 = 0 → am_Po vI (d + 3) k_Cook_findRowOf 6 [some (.ref 54), some (.int x1), some (.int x2), some (.int x3), some (.int x4), some (.int (x5 + 1)), o6, o7] [] S3 Q) ∧ (¬ v4 = 0 → am_Ps vI (d + 2) k_Cook_opensLast [.ref 54, .int x3, .int x1] S3 fun v7 S6 => ((v7 = 0 → am_Po vI (d + 3) k_Cook_findRowOf 6 [some (.ref 54), some (.int x1), some (.int x2), some (.int x3), some (.int x4), some (.int (x5 + 1)), o6, o7] [] S6 Q) ∧ (¬ v7 = 0 → am_Po vI (d + 3) k_Cook_findRowOf 40 [some (.ref 54), some (.int x1), some (.int x2), some (.int x3), some (.int x4), some (.int x5), some (.int 0), some (.int 0)] [] S6 Q)))))) :
    am_Po vI (d + 3) k_Cook_findRowOf 6 [some (.ref 54), some (.int x1), some (.int x2), some (.int x3), some (.int x4), some (.int x5), o6, o7] [] S Q := by
  by_cases q1 : x2 ≤ x5
  · have W := W.1 q1
    refine po_of (fun _ nx => b_Cook_findRowOf_6 (fun _ => nx) (fun z => absurd q1 z)) ?_
    obtain ⟨g2, W⟩ := W
    exact ⟨_, _, b_Cook_findRowOf_115 g2, W⟩
  · have W := W.2 q1
    refine po_of (fun _ nx => b_Cook_findRowOf_6 (fun z => absurd z q1) (fun _ => nx)) ?_
    obtain ⟨v4, S3, h10, W⟩ := W
    refine po_of (fun _ nx => b_Cook_findRowOf_12 h10 nx) ?_
    by_cases q5 : v4 = 0
    · have W := W.1 q5
      refine po_of (fun _ nx => b_Cook_findRowOf_19 (fun _ => nx) (fun z => absurd q5 z)) ?_
      refine po_of (fun _ nx => b_Cook_findRowOf_109 nx) ?_
      exact W
    · have W := W.2 q5
      refine po_of (fun _ nx => b_Cook_findRowOf_19 (fun z => absurd z q5) (fun _ => nx)) ?_
      obtain ⟨v7, S6, h9, W⟩ := W
      refine po_of (fun _ nx => b_Cook_findRowOf_22 h9 nx) ?_
      by_cases q8 : v7 = 0
      · have W := W.1 q8
        refine po_of (fun _ nx => b_Cook_findRowOf_28 (fun z => absurd q8 z) (fun _ => nx)) ?_
        refine po_of (fun _ nx => b_Cook_findRowOf_31 nx) ?_
        refine po_of (fun _ nx => b_Cook_findRowOf_109 nx) ?_
        exact W
      · have W := W.2 q8
        refine po_of (fun _ nx => b_Cook_findRowOf_28 (fun _ => nx) (fun z => absurd z q8)) ?_
        refine po_of (fun _ nx => b_Cook_findRowOf_34 nx) ?_
        exact W
abbrev H_Cook_findRowOf_6 (d : Nat) (x1 : Int32) (x2 : Int32) (x3 : Int32) (x4 : Int32) (x5 : Int32) (o6 : Option Value) (o7 : Option Value) (S : fm_S) (Q : Int32 → fm_S → Prop) : Prop := am_Po vI (d + 3) k_Cook_findRowOf 6 [some (.ref 54), some (.int x1), some (.int x2), some (.int x3), some (.int x4), some (.int x5), o6, o7] [] S Q
theorem p_Cook_findRowOf_40 {d : Nat} {x1 : Int32} {x2 : Int32} {x3 : Int32} {x4 : Int32} {x5 : Int32} {x6 : Int32} {x7 : Int32} {S : fm_S} {Q : Int32 → fm_S → Prop}
    (W : (x1 ≤ x7 → (x4 = 0 → am_Po vI (d + 3) k_Cook_findRowOf 6 [some (.ref 54), some (.int x1), some (.int x2), some (.int x3), some (.int 1), some (.int (x5 + 1)), some (.int x6), some (.int x7)] [] (fm_cp (fm_wI S 54 1 x6) 63 0 55 0 4) Q) ∧ (¬ x4 = 0 → ((S.1 54 1) ≤ x6 → am_Po vI (d + 3) k_Cook_findRowOf 6 [some (.ref 54), some (.int x1), some (.int x2), some (.int x3), some (.int x4), some (.int (x5 + 1)), some (.int x6), some (.int x7)] [] S Q) ∧ (¬ (S.1 54 1) ≤ x6 → am_Po vI (d + 3) k_Cook_findRowOf 6 [some (.ref 54), some (.int x1), some (.int x2), some (.int x3), some (.int 1), some (.int (x5 + 1)), some (.int x6), some (.int x7)] [] (fm_cp (fm_wI S 54 1 x6) 63 0 55 0 4) Q))) ∧ (¬ x1 ≤ x7 → (vp_in x7 4) ∧ (vp_in (S.1 63 x7.toNatClampNeg) 6) ∧ am_Po vI (d + 3) k_Cook_findRowOf 40 [some (.ref 54), some (.int x1), some (.int x2), some (.int x3), some (.int x4), some (.int x5), some (.int (x6 + (S.1 10 ((S.1 63 x7.toNatClampNeg).toNatClampNeg)))), some (.int (x7 + 1))] [] S Q)) :
    am_Po vI (d + 3) k_Cook_findRowOf 40 [some (.ref 54), some (.int x1), some (.int x2), some (.int x3), some (.int x4), some (.int x5), some (.int x6), some (.int x7)] [] S Q := by
  by_cases q1 : x1 ≤ x7
  · have W := W.1 q1
    refine po_of (fun _ nx => b_Cook_findRowOf_40 (fun _ => nx) (fun z => absurd q1 z)) ?_
    by_cases q2 : x4 = 0
    · have W := W.1 q2
      refine po_of (fun _ nx => b_Cook_findRowOf_72 (fun _ => nx) (fun z => absurd q2 z)) ?_
      refine po_of (fun _ nx => b_Cook_findRowOf_86 nx) ?_
      refine po_of (fun _ nx => b_Cook_findRowOf_109 nx) ?_
      exact W
    · have W := W.2 q2
      refine po_of (fun _ nx => b_Cook_findRowOf_72 (fun z => absurd z q2) (fun _ => nx)) ?_
      by_cases q3 : (S.1 54 1) ≤ x6
      · have W := W.1 q3
        refine po_of (fun _ nx => b_Cook_findRowOf_77 (fun _ => nx) (fun z => absurd q3 z)) ?_
        refine po_of (fun _ nx => b_Cook_findRowOf_109 nx) ?_
        exact W
      · have W := W.2 q3
        refine po_of (fun _ nx => b_Cook_findRowOf_77 (fun z => absurd z q3) (fun _ => nx)) ?_
        refine po_of (fun _ nx => b_Cook_findRowOf_86 nx) ?_
        refine po_of (fun _ nx => b_Cook_findRowOf_109 nx) ?_
        exact W
  · have W := W.2 q1
    refine po_of (fun _ nx => b_Cook_findRowOf_40 (fun z => absurd z q1) (fun _ => nx)) ?_
    obtain ⟨g4, W⟩ := W
    obtain ⟨g5, W⟩ := W
    refine po_of (fun _ nx => b_Cook_findRowOf_46 g4 g5 nx) ?_
    exact W
abbrev H_Cook_findRowOf_40 (d : Nat) (x1 : Int32) (x2 : Int32) (x3 : Int32) (x4 : Int32) (x5 : Int32) (x6 : Int32) (x7 : Int32) (S : fm_S) (Q : Int32 → fm_S → Prop) : Prop := am_Po vI (d + 3) k_Cook_findRowOf 40 [some (.ref 54), some (.int x1), some (.int x2), some (.int x3), some (.int x4), some (.int x5), some (.int x6), some (.int x7)] [] S Q
theorem p_Cook_lay_0 {d : Nat} {x1 : Int32} {x2 : Int32} {o3 : Option Value} {o4 : Option Value} {o5 : Option Value} {o6 : Option Value} {S : fm_S} {Q : Int32 → fm_S → Prop}
    (W : am_Po vI (d + 1) k_Cook_lay 10 [some (.ref 54), some (.int x1), some (.int x2), some (.int x1), some (.int 0), some (.int (x2 - 1)), o6] [] S Q) :
    am_Po vI (d + 1) k_Cook_lay 0 [some (.ref 54), some (.int x1), some (.int x2), o3, o4, o5, o6] [] S Q := by
  refine po_of (fun _ nx => b_Cook_lay_0 nx) ?_
  exact W
theorem e_Cook_lay {d : Nat} {x1 : Int32} {x2 : Int32} {S : fm_S} {Q : Int32 → fm_S → Prop}
    (W : am_Po vI (d + 1) k_Cook_lay 10 [some (.ref 54), some (.int x1), some (.int x2), some (.int x1), some (.int 0), some (.int (x2 - 1)), none] [] S Q) :
    am_Ps vI (d + 1) k_Cook_lay [.ref 54, .int x1, .int x2] S Q := ps_of (L := [some (.ref 54), some (.int x1), some (.int x2), none, none, none, none]) rfl (Nat.le_of_ble_eq_true rfl) (Nat.le_of_ble_eq_true rfl) (p_Cook_lay_0 W)
theorem p_Cook_lay_10 {d : Nat} {x1 : Int32} {x2 : Int32} {x3 : Int32} {x4 : Int32} {x5 : Int32} {o6 : Option Value} {S : fm_S} {Q : Int32 → fm_S → Prop}
    (W : (x5 < 0 → Q 1 S) ∧ (¬ x5 < 0 → ((S.1 1 7) ≤ 0 → Q 1 S) ∧ (¬ (S.1 1 7) ≤ 0 → (¬ (S.1 1 7) = 0) ∧ ((f_X_has x4 (x3 - x3 / (S.1 1 7) * (S.1 1 7))) = 0 → (vp_in x5 4) ∧ am_Po vI (d + 1) k_Cook_lay 10 [some (.ref 54), some (.int x1), some (.int x2), some (.int (x3 / (S.1 1 7))), some (.int (x4 ||| (1 <<< ((x3 - x3 / (S.1 1 7) * (S.1 1 7)) &&& 31)))), some (.int (x5 + (-1))), some (.int (x3 - x3 / (S.1 1 7) * (S.1 1 7)))] [] (fm_wI S 63 x5.toNatClampNeg (x3 - x3 / (S.1 1 7) * (S.1 1 7))) Q) ∧ (¬ (f_X_has x4 (x3 - x3 / (S.1 1 7) * (S.1 1 7))) = 0 → Q 0 S)))) :
    am_Po vI (d + 1) k_Cook_lay 10 [some (.ref 54), some (.int x1), some (.int x2), some (.int x3), some (.int x4), some (.int x5), o6] [] S Q := by
  by_cases q1 : x5 < 0
  · have W := W.1 q1
    refine po_of (fun _ nx => b_Cook_lay_10 (fun _ => nx) (fun z => absurd q1 z)) ?_
    exact ⟨_, _, b_Cook_lay_82, W⟩
  · have W := W.2 q1
    refine po_of (fun _ nx => b_Cook_lay_10 (fun z => absurd z q1) (fun _ => nx)) ?_
    by_cases q2 : (S.1 1 7) ≤ 0
    · have W := W.1 q2
      refine po_of (fun _ nx => b_Cook_lay_15 (fun _ => nx) (fun z => absurd q2 z)) ?_
      exact ⟨_, _, b_Cook_lay_82, W⟩
    · have W := W.2 q2
      refine po_of (fun _ nx => b_Cook_lay_15 (fun z => absurd z q2) (fun _ => nx)) ?_
      obtain ⟨g3, W⟩ := W
      refine po_of (fun _ nx => b_Cook_lay_25 g3 (s_X_has (x0 := x4) (x1 := (x3 - x3 / (S.1 1 7) * (S.1 1 7))) (S := S)) nx) ?_
      by_cases q4 : (f_X_has x4 (x3 - x3 / (S.1 1 7) * (S.1 1 7))) = 0
      · have W := W.1 q4
        refine po_of (fun _ nx => b_Cook_lay_53 (fun _ => nx) (fun z => absurd q4 z)) ?_
        obtain ⟨g5, W⟩ := W
        refine po_of (fun _ nx => b_Cook_lay_58 g5 nx) ?_
        exact W
      · have W := W.2 q4
        refine po_of (fun _ nx => b_Cook_lay_53 (fun z => absurd z q4) (fun _ => nx)) ?_
        exact ⟨_, _, b_Cook_lay_56, W⟩
abbrev H_Cook_lay_10 (d : Nat) (x1 : Int32) (x2 : Int32) (x3 : Int32) (x4 : Int32) (x5 : Int32) (o6 : Option Value) (S : fm_S) (Q : Int32 → fm_S → Prop) : Prop := am_Po vI (d + 1) k_Cook_lay 10 [some (.ref 54), some (.int x1), some (.int x2), some (.int x3), some (.int x4), some (.int x5), o6] [] S Q
theorem p_Cook_opensLast_0 {d : Nat} {x1 : Int32} {x2 : Int32} {o3 : Option Value} {o4 : Option Value} {o5 : Option Value} {o6 : Option Value} {o7 : Option Value} {o8 : Option Value} {o9 : Option Value} {o10 : Option Value} {S : fm_S} {Q : Int32 → fm_S → Prop}
    (W : (vp_in x1 8) ∧ am_Po vI (d + 2) k_Cook_opensLast 33 [some (.ref 54), some (.int x1), some (.int x2), some (.int (S.1 19 x1.toNatClampNeg)), some (.int (S.1 20 x1.toNatClampNeg)), some (.int 0), some (.int 0), o7, o8, o9, o10] [] S Q) :
    am_Po vI (d + 2) k_Cook_opensLast 0 [some (.ref 54), some (.int x1), some (.int x2), o3, o4, o5, o6, o7, o8, o9, o10] [] S Q := by
  obtain ⟨g1, W⟩ := W
  refine po_of (fun _ nx => b_Cook_opensLast_0 g1 nx) ?_
  exact W
theorem e_Cook_opensLast {d : Nat} {x1 : Int32} {x2 : Int32} {S : fm_S} {Q : Int32 → fm_S → Prop}
    (W : (vp_in x1 8) ∧ am_Po vI (d + 2) k_Cook_opensLast 33 [some (.ref 54), some (.int x1), some (.int x2), some (.int (S.1 19 x1.toNatClampNeg)), some (.int (S.1 20 x1.toNatClampNeg)), some (.int 0), some (.int 0), none, none, none, none] [] S Q) :
    am_Ps vI (d + 2) k_Cook_opensLast [.ref 54, .int x1, .int x2] S Q := ps_of (L := [some (.ref 54), some (.int x1), some (.int x2), none, none, none, none, none, none, none, none]) rfl (Nat.le_of_ble_eq_true rfl) (Nat.le_of_ble_eq_true rfl) (p_Cook_opensLast_0 W)
theorem p_Cook_opensLast_33 {d : Nat} {x1 : Int32} {x2 : Int32} {x3 : Int32} {x4 : Int32} {x5 : Int32} {x6 : Int32} {o7 : Option Value} {o8 : Option Value} {o9 : Option Value} {o10 : Option Value} {S : fm_S} {Q : Int32 → fm_S → Prop}
    (W : (x2 ≤ x6 → ∀ v3 : Int32, v3 = (if x5 < 10 then (0 : Int32) else (1 : Int32)) → ((v3 = 0 ∨ v3 = 1) ∧ Q v3 S)) ∧ (¬ x2 ≤ x6 → (vp_in x6 4) ∧ (vp_in (S.1 63 x6.toNatClampNeg) 6) ∧ (vp_in (((S.1 63 x6.toNatClampNeg) * 4) + x6) 24) ∧ ∀ v12 : Int32, v12 = (if (S.1 8 ((S.1 63 x6.toNatClampNeg).toNatClampNeg)) = x3 then x4 else (0 : Int32)) → ((vp_in x1 8) ∧ (vp_in (S.1 63 x6.toNatClampNeg) 6) ∧ ∀ v16 : Int32, v16 = (if (S.1 64 ((((S.1 63 x6.toNatClampNeg) * 4) + x6).toNatClampNeg)) ≤ 0 then (-1 : Int32) else (S.1 8 ((S.1 63 x6.toNatClampNeg).toNatClampNeg))) → (∀ v18 : Int32, v18 = (if (S.1 64 ((((S.1 63 x6.toNatClampNeg) * 4) + x6).toNatClampNeg)) ≤ 0 then (0 : Int32) else v12 + 1) → (am_Po vI (d + 2) k_Cook_opensLast 33 [some (.ref 54), some (.int x1), some (.int x2), some (.int v16), some (.int v18), some (.int (f_Town_pull S 1 x1 (S.1 63 x6.toNatClampNeg) (S.1 64 ((((S.1 63 x6.toNatClampNeg) * 4) + x6).toNatClampNeg)) ((S.1 17 0) + x6) v12)), some (.int (x6 + 1)), some (.int (S.1 63 x6.toNatClampNeg)), some (.int (S.1 8 ((S.1 63 x6.toNatClampNeg).toNatClampNeg))), some (.int (S.1 64 ((((S.1 63 x6.toNatClampNeg) * 4) + x6).toNatClampNeg))), some (.int v12)] [] S Q))))) :
    am_Po vI (d + 2) k_Cook_opensLast 33 [some (.ref 54), some (.int x1), some (.int x2), some (.int x3), some (.int x4), some (.int x5), some (.int x6), o7, o8, o9, o10] [] S Q := by
  by_cases q1 : x2 ≤ x6
  · have W := W.1 q1
    refine po_of (fun _ nx => b_Cook_opensLast_33 (fun _ => nx) (fun z => absurd q1 z)) ?_
    have J : ∀ v3 : Int32, v3 = (if x5 < 10 then (0 : Int32) else (1 : Int32)) → am_Po vI (d + 2) k_Cook_opensLast 162 [some (.ref 54), some (.int x1), some (.int x2), some (.int x3), some (.int x4), some (.int x5), some (.int x6), o7, o8, o9, o10] [.int v3] S Q := by
      intro v3 v3_
      have W := W v3 v3_
      obtain ⟨g4, W⟩ := W
      exact ⟨_, _, b_Cook_opensLast_162 g4, W⟩
    by_cases q2 : x5 < 10
    · refine po_of (fun _ nx => b_Cook_opensLast_150 (fun _ => nx) (fun z => absurd q2 z)) ?_
      refine po_of (fun _ nx => b_Cook_opensLast_161 nx) ?_
      exact J _ (by simp only [if_pos q2])
    · refine po_of (fun _ nx => b_Cook_opensLast_150 (fun z => absurd z q2) (fun _ => nx)) ?_
      refine po_of (fun _ nx => b_Cook_opensLast_157 nx) ?_
      exact J _ (by simp only [if_neg q2])
  · have W := W.2 q1
    refine po_of (fun _ nx => b_Cook_opensLast_33 (fun z => absurd z q1) (fun _ => nx)) ?_
    obtain ⟨g8, W⟩ := W
    obtain ⟨g9, W⟩ := W
    obtain ⟨g10, W⟩ := W
    have J : ∀ v12 : Int32, v12 = (if (S.1 8 ((S.1 63 x6.toNatClampNeg).toNatClampNeg)) = x3 then x4 else (0 : Int32)) → am_Po vI (d + 2) k_Cook_opensLast 86 [some (.ref 54), some (.int x1), some (.int x2), some (.int x3), some (.int x4), some (.int x5), some (.int x6), some (.int (S.1 63 x6.toNatClampNeg)), some (.int (S.1 8 ((S.1 63 x6.toNatClampNeg).toNatClampNeg))), some (.int (S.1 64 ((((S.1 63 x6.toNatClampNeg) * 4) + x6).toNatClampNeg))), o10] [.int v12] S Q := by
      intro v12 v12_
      have W := W v12 v12_
      obtain ⟨g13, W⟩ := W
      obtain ⟨g14, W⟩ := W
      refine po_of (fun _ nx => b_Cook_opensLast_86 (s_Town_pull (a0 := 1) (x1 := x1) (x2 := (S.1 63 x6.toNatClampNeg)) (x3 := (S.1 64 ((((S.1 63 x6.toNatClampNeg) * 4) + x6).toNatClampNeg))) (x4 := ((S.1 17 0) + x6)) (x5 := v12) (S := S) (by decide +kernel) g13 g14) nx) ?_
      have J : ∀ v16 : Int32, v16 = (if (S.1 64 ((((S.1 63 x6.toNatClampNeg) * 4) + x6).toNatClampNeg)) ≤ 0 then (-1 : Int32) else (S.1 8 ((S.1 63 x6.toNatClampNeg).toNatClampNeg))) → am_Po vI (d + 2) k_Cook_opensLast 128 [some (.ref 54), some (.int x1), some (.int x2), some (.int x3), some (.int x4), some (.int (f_Town_pull S 1 x1 (S.1 63 x6.toNatClampNeg) (S.1 64 ((((S.1 63 x6.toNatClampNeg) * 4) + x6).toNatClampNeg)) ((S.1 17 0) + x6) v12)), some (.int x6), some (.int (S.1 63 x6.toNatClampNeg)), some (.int (S.1 8 ((S.1 63 x6.toNatClampNeg).toNatClampNeg))), some (.int (S.1 64 ((((S.1 63 x6.toNatClampNeg) * 4) + x6).toNatClampNeg))), some (.int v12)] [.int v16] S Q := by
        intro v16 v16_
        have W := W v16 v16_
        have J : ∀ v18 : Int32, v18 = (if (S.1 64 ((((S.1 63 x6.toNatClampNeg) * 4) + x6).toNatClampNeg)) ≤ 0 then (0 : Int32) else v12 + 1) → am_Po vI (d + 2) k_Cook_opensLast 142 [some (.ref 54), some (.int x1), some (.int x2), some (.int v16), some (.int x4), some (.int (f_Town_pull S 1 x1 (S.1 63 x6.toNatClampNeg) (S.1 64 ((((S.1 63 x6.toNatClampNeg) * 4) + x6).toNatClampNeg)) ((S.1 17 0) + x6) v12)), some (.int x6), some (.int (S.1 63 x6.toNatClampNeg)), some (.int (S.1 8 ((S.1 63 x6.toNatClampNeg).toNatClampNeg))), some (.int (S.1 64 ((((S.1 63 x6.toNatClampNeg) * 4) + x6).toNatClampNeg))), some (.int v12)] [.int v18] S Q := by
          intro v18 v18_
          have W := W v18 v18_
          refine po_of (fun _ nx => b_Cook_opensLast_142 nx) ?_
          exact W
        by_cases q17 : (S.1 64 ((((S.1 63 x6.toNatClampNeg) * 4) + x6).toNatClampNeg)) ≤ 0
        · refine po_of (fun _ nx => b_Cook_opensLast_128 (fun _ => nx) (fun z => absurd q17 z)) ?_
          refine po_of (fun _ nx => b_Cook_opensLast_141 nx) ?_
          exact J _ (by simp only [if_pos q17])
        · refine po_of (fun _ nx => b_Cook_opensLast_128 (fun z => absurd z q17) (fun _ => nx)) ?_
          refine po_of (fun _ nx => b_Cook_opensLast_134 nx) ?_
          exact J _ (by simp only [if_neg q17])
      by_cases q15 : (S.1 64 ((((S.1 63 x6.toNatClampNeg) * 4) + x6).toNatClampNeg)) ≤ 0
      · refine po_of (fun _ nx => b_Cook_opensLast_115 (fun _ => nx) (fun z => absurd q15 z)) ?_
        refine po_of (fun _ nx => b_Cook_opensLast_127 nx) ?_
        exact J _ (by simp only [if_pos q15])
      · refine po_of (fun _ nx => b_Cook_opensLast_115 (fun z => absurd z q15) (fun _ => nx)) ?_
        refine po_of (fun _ nx => b_Cook_opensLast_122 nx) ?_
        exact J _ (by simp only [if_neg q15])
    by_cases q11 : (S.1 8 ((S.1 63 x6.toNatClampNeg).toNatClampNeg)) = x3
    · refine po_of (fun _ nx => b_Cook_opensLast_39 g8 g9 g10 (fun z => absurd q11 z) (fun _ => nx)) ?_
      refine po_of (fun _ nx => b_Cook_opensLast_80 nx) ?_
      exact J _ (by simp only [if_pos q11])
    · refine po_of (fun _ nx => b_Cook_opensLast_39 g8 g9 g10 (fun _ => nx) (fun z => absurd z q11)) ?_
      refine po_of (fun _ nx => b_Cook_opensLast_85 nx) ?_
      exact J _ (by simp only [if_neg q11])
abbrev H_Cook_opensLast_33 (d : Nat) (x1 : Int32) (x2 : Int32) (x3 : Int32) (x4 : Int32) (x5 : Int32) (x6 : Int32) (o7 : Option Value) (o8 : Option Value) (o9 : Option Value) (o10 : Option Value) (S : fm_S) (Q : Int32 → fm_S → Prop) : Prop := am_Po vI (d + 2) k_Cook_opensLast 33 [some (.ref 54), some (.int x1), some (.int x2), some (.int x3), some (.int x4), some (.int x5), some (.int x6), o7, o8, o9, o10] [] S Q
theorem p_Cook_neverOpened_0 {d : Nat} {o1 : Option Value} {o2 : Option Value} {S : fm_S} {Q : Int32 → fm_S → Prop}
    (W : (vp_in (S.1 1 0) 9) ∧ am_Po vI (d + 5) k_Cook_neverOpened 10 [some (.ref 54), some (.int (n_shut S (1 + 16) (S.1 1 0).toNatClampNeg)), some (.int 0)] [] S Q) :
    am_Po vI (d + 5) k_Cook_neverOpened 0 [some (.ref 54), o1, o2] [] S Q := by
  obtain ⟨g1, W⟩ := W
  refine po_of (fun _ nx => b_Cook_neverOpened_0 (s_Town_shutStreets_i (a0 := 1) (S := S) (by decide +kernel) g1) nx) ?_
  refine po_of (fun _ nx => b_Cook_neverOpened_7 nx) ?_
  exact W
theorem e_Cook_neverOpened {d : Nat} {S : fm_S} {Q : Int32 → fm_S → Prop}
    (W : (vp_in (S.1 1 0) 9) ∧ am_Po vI (d + 5) k_Cook_neverOpened 10 [some (.ref 54), some (.int (n_shut S (1 + 16) (S.1 1 0).toNatClampNeg)), some (.int 0)] [] S Q) :
    am_Ps vI (d + 5) k_Cook_neverOpened [.ref 54] S Q := ps_of (L := [some (.ref 54), none, none]) rfl (Nat.le_of_ble_eq_true rfl) (Nat.le_of_ble_eq_true rfl) (p_Cook_neverOpened_0 W)
theorem p_Cook_neverOpened_10 {d : Nat} {x1 : Int32} {x2 : Int32} {S : fm_S} {Q : Int32 → fm_S → Prop}
    (W : ((S.1 1 7) ≤ x2 → Q x1 S) ∧ (¬ (S.1 1 7) ≤ x2 → am_Ps vI (d + 4) k_Cook_openedAlone [.ref 54, .int x2, .int 28] S fun v3 S2 => (am_Po vI (d + 5) k_Cook_neverOpened 10 [some (.ref 54), some (.int (x1 &&& (v3 ^^^ (-1)))), some (.int (x2 + 1))] [] S2 Q))) :
    am_Po vI (d + 5) k_Cook_neverOpened 10 [some (.ref 54), some (.int x1), some (.int x2)] [] S Q := by
  by_cases q1 : (S.1 1 7) ≤ x2
  · have W := W.1 q1
    refine po_of (fun _ nx => b_Cook_neverOpened_10 (fun _ => nx) (fun z => absurd q1 z)) ?_
    exact ⟨_, _, b_Cook_neverOpened_39, W⟩
  · have W := W.2 q1
    refine po_of (fun _ nx => b_Cook_neverOpened_10 (fun z => absurd z q1) (fun _ => nx)) ?_
    obtain ⟨v3, S2, h4, W⟩ := W
    refine po_of (fun _ nx => b_Cook_neverOpened_21 h4 nx) ?_
    refine po_of (fun _ nx => b_Cook_neverOpened_29 nx) ?_
    exact W
abbrev H_Cook_neverOpened_10 (d : Nat) (x1 : Int32) (x2 : Int32) (S : fm_S) (Q : Int32 → fm_S → Prop) : Prop := am_Po vI (d + 5) k_Cook_neverOpened 10 [some (.ref 54), some (.int x1), some (.int x2)] [] S Q
theorem p_Cook_openedAlone_0 {d : Nat} {x1 : Int32} {x2 : Int32} {o3 : Option Value} {o4 : Option Value} {o5 : Option Value} {S : fm_S} {Q : Int32 → fm_S → Prop}
    (W : am_Po vI (d + 4) k_Cook_openedAlone 5 [some (.ref 54), some (.int x1), some (.int x2), some (.int 0), some (.int 0), o5] [] S Q) :
    am_Po vI (d + 4) k_Cook_openedAlone 0 [some (.ref 54), some (.int x1), some (.int x2), o3, o4, o5] [] S Q := by
  refine po_of (fun _ nx => b_Cook_openedAlone_0 nx) ?_
  exact W
theorem e_Cook_openedAlone {d : Nat} {x1 : Int32} {x2 : Int32} {S : fm_S} {Q : Int32 → fm_S → Prop}
    (W : am_Po vI (d + 4) k_Cook_openedAlone 5 [some (.ref 54), some (.int x1), some (.int x2), some (.int 0), some (.int 0), none] [] S Q) :
    am_Ps vI (d + 4) k_Cook_openedAlone [.ref 54, .int x1, .int x2] S Q := ps_of (L := [some (.ref 54), some (.int x1), some (.int x2), none, none, none]) rfl (Nat.le_of_ble_eq_true rfl) (Nat.le_of_ble_eq_true rfl) (p_Cook_openedAlone_0 W)
theorem p_Cook_openedAlone_5 {d : Nat} {x1 : Int32} {x2 : Int32} {x3 : Int32} {x4 : Int32} {o5 : Option Value} {S : fm_S} {Q : Int32 → fm_S → Prop}
    (W : (4 ≤ x4 → Q x3 S) ∧ (¬ 4 ≤ x4 → (vp_in (f_Math_floorMod ((S.1 17 0) + x4) 4) (fm_ln (1 + 6))) ∧ am_Ps vV (d + 3) k_Air_fill [.ref 56, .ref 1, .int x1, .int (f_Town_windOn S 1 ((S.1 17 0) + x4))] S fun _ S3 => (am_Po vI (d + 4) k_Cook_openedAlone 47 [some (.ref 54), some (.int x1), some (.int x2), some (.int x3), some (.int x4), some (.int x4)] [] S3 Q))) :
    am_Po vI (d + 4) k_Cook_openedAlone 5 [some (.ref 54), some (.int x1), some (.int x2), some (.int x3), some (.int x4), o5] [] S Q := by
  by_cases q1 : 4 ≤ x4
  · have W := W.1 q1
    refine po_of (fun _ nx => b_Cook_openedAlone_5 (fun _ => nx) (fun z => absurd q1 z)) ?_
    exact ⟨_, _, b_Cook_openedAlone_86, W⟩
  · have W := W.2 q1
    refine po_of (fun _ nx => b_Cook_openedAlone_5 (fun z => absurd z q1) (fun _ => nx)) ?_
    obtain ⟨g2, W⟩ := W
    refine po_of (fun _ nx => b_Cook_openedAlone_11 (s_Town_windOn (a0 := 1) (x1 := ((S.1 17 0) + x4)) (S := S) (by decide +kernel) (by decide +kernel) g2) nx) ?_
    obtain ⟨_, S3, h4, W⟩ := W
    refine po_of (fun _ nx => b_Cook_openedAlone_40 h4 nx) ?_
    refine po_of (fun _ nx => b_Cook_openedAlone_43 nx) ?_
    exact W
abbrev H_Cook_openedAlone_5 (d : Nat) (x1 : Int32) (x2 : Int32) (x3 : Int32) (x4 : Int32) (o5 : Option Value) (S : fm_S) (Q : Int32 → fm_S → Prop) : Prop := am_Po vI (d + 4) k_Cook_openedAlone 5 [some (.ref 54), some (.int x1), some (.int x2), some (.int x3), some (.int x4), o5] [] S Q
theorem p_Cook_openedAlone_47 {d : Nat} {x1 : Int32} {x2 : Int32} {x3 : Int32} {x4 : Int32} {x5 : Int32} {S : fm_S} {Q : Int32 → fm_S → Prop}
    (W : (x2 ≤ x5 → am_Po vI (d + 4) k_Cook_openedAlone 5 [some (.ref 54), some (.int x1), some (.int x2), some (.int x3), some (.int (x4 + 1)), some (.int x5)] [] S Q) ∧ (¬ x2 ≤ x5 → (vp_in x1 6) ∧ (vp_in (S.1 1 0) 9) ∧ am_Po vI (d + 4) k_Cook_openedAlone 47 [some (.ref 54), some (.int x1), some (.int x2), some (.int (x3 ||| (n_Cook_openedAloneOn S x1 ((S.1 17 0) + x5) (((S.1 1 0)).toNatClampNeg)))), some (.int x4), some (.int (x5 + 4))] [] S Q)) :
    am_Po vI (d + 4) k_Cook_openedAlone 47 [some (.ref 54), some (.int x1), some (.int x2), some (.int x3), some (.int x4), some (.int x5)] [] S Q := by
  by_cases q1 : x2 ≤ x5
  · have W := W.1 q1
    refine po_of (fun _ nx => b_Cook_openedAlone_47 (fun _ => nx) (fun z => absurd q1 z)) ?_
    refine po_of (fun _ nx => b_Cook_openedAlone_80 nx) ?_
    exact W
  · have W := W.2 q1
    refine po_of (fun _ nx => b_Cook_openedAlone_47 (fun z => absurd z q1) (fun _ => nx)) ?_
    obtain ⟨g2, W⟩ := W
    obtain ⟨g3, W⟩ := W
    refine po_of (fun _ nx => b_Cook_openedAlone_53 (s_Cook_openedAloneOn (x1 := x1) (x2 := ((S.1 17 0) + x5)) (S := S) g2 g3) nx) ?_
    refine po_of (fun _ nx => b_Cook_openedAlone_72 nx) ?_
    exact W
abbrev H_Cook_openedAlone_47 (d : Nat) (x1 : Int32) (x2 : Int32) (x3 : Int32) (x4 : Int32) (x5 : Int32) (S : fm_S) (Q : Int32 → fm_S → Prop) : Prop := am_Po vI (d + 4) k_Cook_openedAlone 47 [some (.ref 54), some (.int x1), some (.int x2), some (.int x3), some (.int x4), some (.int x5)] [] S Q
theorem p_Cook_leastSet_0 {d : Nat} {o1 : Option Value} {o2 : Option Value} {o3 : Option Value} {o4 : Option Value} {o5 : Option Value} {o6 : Option Value} {S : fm_S} {Q : Int32 → fm_S → Prop}
    (W : (vp_in (S.1 1 0) 9) ∧ am_Po vI (d + 5) k_Cook_leastSet 10 [some (.ref 54), some (.int (n_shut S (1 + 16) (S.1 1 0).toNatClampNeg)), some (.int 0), o3, o4, o5, o6] [] S Q) :
    am_Po vI (d + 5) k_Cook_leastSet 0 [some (.ref 54), o1, o2, o3, o4, o5, o6] [] S Q := by
  obtain ⟨g1, W⟩ := W
  refine po_of (fun _ nx => b_Cook_leastSet_0 (s_Town_shutStreets_i (a0 := 1) (S := S) (by decide +kernel) g1) nx) ?_
  refine po_of (fun _ nx => b_Cook_leastSet_7 nx) ?_
  exact W
theorem e_Cook_leastSet {d : Nat} {S : fm_S} {Q : Int32 → fm_S → Prop}
    (W : (vp_in (S.1 1 0) 9) ∧ am_Po vI (d + 5) k_Cook_leastSet 10 [some (.ref 54), some (.int (n_shut S (1 + 16) (S.1 1 0).toNatClampNeg)), some (.int 0), none, none, none, none] [] S Q) :
    am_Ps vI (d + 5) k_Cook_leastSet [.ref 54] S Q := ps_of (L := [some (.ref 54), none, none, none, none, none, none]) rfl (Nat.le_of_ble_eq_true rfl) (Nat.le_of_ble_eq_true rfl) (p_Cook_leastSet_0 W)
theorem p_Cook_leastSet_10 {d : Nat} {x1 : Int32} {x2 : Int32} {o3 : Option Value} {o4 : Option Value} {o5 : Option Value} {o6 : Option Value} {S : fm_S} {Q : Int32 → fm_S → Prop}
    (W : ((S.1 1 7) ≤ x2 → am_Po vI (d + 5) k_Cook_leastSet 46 [some (.ref 54), some (.int x1), some (.int (-1)), some (.int 0), some (.int 0), o5, o6] [] S Q) ∧ (¬ (S.1 1 7) ≤ x2 → am_Ps vI (d + 4) k_Cook_openedAlone [.ref 54, .int x2, .int 4] S fun v3 S2 => ((vp_in x2 6) ∧ am_Po vI (d + 5) k_Cook_leastSet 10 [some (.ref 54), some (.int x1), some (.int (x2 + 1)), o3, o4, o5, o6] [] (fm_wI S2 65 x2.toNatClampNeg v3) Q))) :
    am_Po vI (d + 5) k_Cook_leastSet 10 [some (.ref 54), some (.int x1), some (.int x2), o3, o4, o5, o6] [] S Q := by
  by_cases q1 : (S.1 1 7) ≤ x2
  · have W := W.1 q1
    refine po_of (fun _ nx => b_Cook_leastSet_10 (fun _ => nx) (fun z => absurd q1 z)) ?_
    refine po_of (fun _ nx => b_Cook_leastSet_39 nx) ?_
    exact W
  · have W := W.2 q1
    refine po_of (fun _ nx => b_Cook_leastSet_10 (fun z => absurd z q1) (fun _ => nx)) ?_
    obtain ⟨v3, S2, h5, W⟩ := W
    refine po_of (fun _ nx => b_Cook_leastSet_21 h5 nx) ?_
    obtain ⟨g4, W⟩ := W
    refine po_of (fun _ nx => b_Cook_leastSet_32 g4 nx) ?_
    exact W
abbrev H_Cook_leastSet_10 (d : Nat) (x1 : Int32) (x2 : Int32) (o3 : Option Value) (o4 : Option Value) (o5 : Option Value) (o6 : Option Value) (S : fm_S) (Q : Int32 → fm_S → Prop) : Prop := am_Po vI (d + 5) k_Cook_leastSet 10 [some (.ref 54), some (.int x1), some (.int x2), o3, o4, o5, o6] [] S Q
theorem p_Cook_leastSet_46 {d : Nat} {x1 : Int32} {x2 : Int32} {x3 : Int32} {x4 : Int32} {o5 : Option Value} {o6 : Option Value} {S : fm_S} {Q : Int32 → fm_S → Prop}
    (W : ((1 <<< ((S.1 1 7) &&& 31)) ≤ x4 → Q x2 S) ∧ (¬ (1 <<< ((S.1 1 7) &&& 31)) ≤ x4 → (vp_in (S.1 1 7) 7) ∧ ((x1 &&& ((n_Cook_openedBy S x4 (((S.1 1 7)).toNatClampNeg)) ^^^ (-1))) = 0 → ∀ v5 : Int32, v5 = (if (f_Int_bitCount x2) ≤ (f_Int_bitCount x4) then (0 : Int32) else (1 : Int32)) → (∀ v10 : Int32, v10 = (if x2 = (-1) then x4 else if (n_Cook_butterOf S x4 (((S.1 1 7)).toNatClampNeg)) < x3 then x4 else if (n_Cook_butterOf S x4 (((S.1 1 7)).toNatClampNeg)) = x3 then if v5 = 0 then x2 else x4 else x2) → ∀ v11 : Int32, v11 = (if x2 = (-1) then (n_Cook_butterOf S x4 (((S.1 1 7)).toNatClampNeg)) else if (n_Cook_butterOf S x4 (((S.1 1 7)).toNatClampNeg)) < x3 then (n_Cook_butterOf S x4 (((S.1 1 7)).toNatClampNeg)) else if (n_Cook_butterOf S x4 (((S.1 1 7)).toNatClampNeg)) = x3 then if v5 = 0 then x3 else (n_Cook_butterOf S x4 (((S.1 1 7)).toNatClampNeg)) else x3) → (am_Po vI (d + 5) k_Cook_leastSet 46 [some (.ref 54), some (.int x1), some (.int v10), some (.int v11), some (.int (x4 + 1)), some (.int (n_Cook_butterOf S x4 (((S.1 1 7)).toNatClampNeg))), some (.int v5)] [] S Q))) ∧ (¬ (x1 &&& ((n_Cook_openedBy S x4 (((S.1 1 7)).toNatClampNeg)) ^^^ (-1))) = 0 → am_Po vI (d + 5) k_Cook_leastSet 46 [some (.ref 54), some (.int x1), some (.int x2), some (.int x3), some (.int (x4 + 1)), o5, o6] [] S Q))) :
    am_Po vI (d + 5) k_Cook_leastSet 46 [some (.ref 54), some (.int x1), some (.int x2), some (.int x3), some (.int x4), o5, o6] [] S Q := by
  by_cases q1 : (1 <<< ((S.1 1 7) &&& 31)) ≤ x4
  · have W := W.1 q1
    refine po_of (fun _ nx => b_Cook_leastSet_46 (fun _ => nx) (fun z => absurd q1 z)) ?_
    exact ⟨_, _, b_Cook_leastSet_137, W⟩
  · have W := W.2 q1
    refine po_of (fun _ nx => b_Cook_leastSet_46 (fun z => absurd z q1) (fun _ => nx)) ?_
    obtain ⟨g2, W⟩ := W
    refine po_of (fun _ nx => b_Cook_leastSet_60 (s_Cook_openedBy (x1 := x4) (S := S) g2) nx) ?_
    by_cases q3 : (x1 &&& ((n_Cook_openedBy S x4 (((S.1 1 7)).toNatClampNeg)) ^^^ (-1))) = 0
    · have W := W.1 q3
      refine po_of (fun _ nx => b_Cook_leastSet_67 (fun _ => nx) (fun z => absurd q3 z)) ?_
      refine po_of (fun _ nx => b_Cook_leastSet_76 (s_Cook_butterOf (x1 := x4) (S := S) g2) nx) ?_
      refine po_of (fun _ nx => b_Cook_leastSet_82 (s_Int_bitCount (x0 := x4) (S := S)) nx) ?_
      refine po_of (fun _ nx => b_Cook_leastSet_89 (s_Int_bitCount (x0 := x2) (S := S)) nx) ?_
      have J : ∀ v5 : Int32, v5 = (if (f_Int_bitCount x2) ≤ (f_Int_bitCount x4) then (0 : Int32) else (1 : Int32)) → am_Po vI (d + 5) k_Cook_leastSet 101 [some (.ref 54), some (.int x1), some (.int x2), some (.int x3), some (.int x4), some (.int (n_Cook_butterOf S x4 (((S.1 1 7)).toNatClampNeg))), o6] [.int v5] S Q := by
        intro v5 v5_
        have W := W v5 v5_
        have J : ∀ v10 : Int32, v10 = (if x2 = (-1) then x4 else if (n_Cook_butterOf S x4 (((S.1 1 7)).toNatClampNeg)) < x3 then x4 else if (n_Cook_butterOf S x4 (((S.1 1 7)).toNatClampNeg)) = x3 then if v5 = 0 then x2 else x4 else x2) → ∀ v11 : Int32, v11 = (if x2 = (-1) then (n_Cook_butterOf S x4 (((S.1 1 7)).toNatClampNeg)) else if (n_Cook_butterOf S x4 (((S.1 1 7)).toNatClampNeg)) < x3 then (n_Cook_butterOf S x4 (((S.1 1 7)).toNatClampNeg)) else if (n_Cook_butterOf S x4 (((S.1 1 7)).toNatClampNeg)) = x3 then if v5 = 0 then x3 else (n_Cook_butterOf S x4 (((S.1 1 7)).toNatClampNeg)) else x3) → am_Po vI (d + 5) k_Cook_leastSet 131 [some (.ref 54), some (.int x1), some (.int v10), some (.int v11), some (.int x4), some (.int (n_Cook_butterOf S x4 (((S.1 1 7)).toNatClampNeg))), some (.int v5)] [] S Q := by
          intro v10 v10_ v11 v11_
          have W := W v10 v10_ v11 v11_
          refine po_of (fun _ nx => b_Cook_leastSet_131 nx) ?_
          exact W
        by_cases q6 : x2 = (-1)
        · refine po_of (fun _ nx => b_Cook_leastSet_101 (fun _ => nx) (fun z => absurd q6 z)) ?_
          refine po_of (fun _ nx => b_Cook_leastSet_125 nx) ?_
          exact J _ (by simp only [if_pos q6]) _ (by simp only [if_pos q6])
        · refine po_of (fun _ nx => b_Cook_leastSet_101 (fun z => absurd z q6) (fun _ => nx)) ?_
          by_cases q7 : (n_Cook_butterOf S x4 (((S.1 1 7)).toNatClampNeg)) < x3
          · refine po_of (fun _ nx => b_Cook_leastSet_108 (fun _ => nx) (fun z => absurd q7 z)) ?_
            refine po_of (fun _ nx => b_Cook_leastSet_125 nx) ?_
            exact J _ (by simp only [if_neg q6, if_pos q7]) _ (by simp only [if_neg q6, if_pos q7])
          · refine po_of (fun _ nx => b_Cook_leastSet_108 (fun z => absurd z q7) (fun _ => nx)) ?_
            by_cases q8 : (n_Cook_butterOf S x4 (((S.1 1 7)).toNatClampNeg)) = x3
            · refine po_of (fun _ nx => b_Cook_leastSet_114 (fun z => absurd q8 z) (fun _ => nx)) ?_
              by_cases q9 : v5 = 0
              · refine po_of (fun _ nx => b_Cook_leastSet_120 (fun _ => nx) (fun z => absurd q9 z)) ?_
                exact J _ (by simp only [if_neg q6, if_neg q7, if_pos q8, if_pos q9]) _ (by simp only [if_neg q6, if_neg q7, if_pos q8, if_pos q9])
              · refine po_of (fun _ nx => b_Cook_leastSet_120 (fun z => absurd z q9) (fun _ => nx)) ?_
                refine po_of (fun _ nx => b_Cook_leastSet_125 nx) ?_
                exact J _ (by simp only [if_neg q6, if_neg q7, if_pos q8, if_neg q9]) _ (by simp only [if_neg q6, if_neg q7, if_pos q8, if_neg q9])
            · refine po_of (fun _ nx => b_Cook_leastSet_114 (fun _ => nx) (fun z => absurd z q8)) ?_
              exact J _ (by simp only [if_neg q6, if_neg q7, if_neg q8]) _ (by simp only [if_neg q6, if_neg q7, if_neg q8])
      by_cases q4 : (f_Int_bitCount x2) ≤ (f_Int_bitCount x4)
      · refine po_of (fun _ nx => b_Cook_leastSet_93 (fun _ => nx) (fun z => absurd q4 z)) ?_
        refine po_of (fun _ nx => b_Cook_leastSet_100 nx) ?_
        exact J _ (by simp only [if_pos q4])
      · refine po_of (fun _ nx => b_Cook_leastSet_93 (fun z => absurd z q4) (fun _ => nx)) ?_
        refine po_of (fun _ nx => b_Cook_leastSet_96 nx) ?_
        exact J _ (by simp only [if_neg q4])
    · have W := W.2 q3
      refine po_of (fun _ nx => b_Cook_leastSet_67 (fun z => absurd z q3) (fun _ => nx)) ?_
      refine po_of (fun _ nx => b_Cook_leastSet_73 nx) ?_
      refine po_of (fun _ nx => b_Cook_leastSet_131 nx) ?_
      exact W
abbrev H_Cook_leastSet_46 (d : Nat) (x1 : Int32) (x2 : Int32) (x3 : Int32) (x4 : Int32) (o5 : Option Value) (o6 : Option Value) (S : fm_S) (Q : Int32 → fm_S → Prop) : Prop := am_Po vI (d + 5) k_Cook_leastSet 46 [some (.ref 54), some (.int x1), some (.int x2), some (.int x3), some (.int x4), o5, o6] [] S Q
theorem p_Cook_bestSheets_0 {d : Nat} {x1 : Int32} {x2 : Int32} {o3 : Option Value} {o4 : Option Value} {o5 : Option Value} {o6 : Option Value} {S : fm_S} {Q : Int32 → fm_S → Prop}
    (W : am_Po vI (d + 5) k_Cook_bestSheets 9 [some (.ref 54), some (.int x1), some (.int x2), some (.int (-1)), some (.int 9), some (.int 0), o6] [] S Q) :
    am_Po vI (d + 5) k_Cook_bestSheets 0 [some (.ref 54), some (.int x1), some (.int x2), o3, o4, o5, o6] [] S Q := by
  refine po_of (fun _ nx => b_Cook_bestSheets_0 nx) ?_
  exact W
theorem e_Cook_bestSheets {d : Nat} {x1 : Int32} {x2 : Int32} {S : fm_S} {Q : Int32 → fm_S → Prop}
    (W : am_Po vI (d + 5) k_Cook_bestSheets 9 [some (.ref 54), some (.int x1), some (.int x2), some (.int (-1)), some (.int 9), some (.int 0), none] [] S Q) :
    am_Ps vI (d + 5) k_Cook_bestSheets [.ref 54, .int x1, .int x2] S Q := ps_of (L := [some (.ref 54), some (.int x1), some (.int x2), none, none, none, none]) rfl (Nat.le_of_ble_eq_true rfl) (Nat.le_of_ble_eq_true rfl) (p_Cook_bestSheets_0 W)
theorem p_Cook_bestSheets_9 {d : Nat} {x1 : Int32} {x2 : Int32} {x3 : Int32} {x4 : Int32} {x5 : Int32} {o6 : Option Value} {S : fm_S} {Q : Int32 → fm_S → Prop}
    (W : ((S.1 1 0) ≤ x5 → Q x3 S) ∧ (¬ (S.1 1 0) ≤ x5 → (vp_in x5 8) ∧ ((f_Days_isShut S 17 x5) = 0 → am_Po vI (d + 5) k_Cook_bestSheets 9 [some (.ref 54), some (.int x1), some (.int x2), some (.int x3), some (.int x4), some (.int (x5 + 1)), o6] [] S Q) ∧ (¬ (f_Days_isShut S 17 x5) = 0 → am_Ps vI (d + 4) k_Cook_opening [.ref 54, .int x1, .int x5, .int x2] S fun v5 S4 => (∀ v7 : Int32, v7 = (if x4 ≤ v5 then x3 else x5) → ∀ v8 : Int32, v8 = (if x4 ≤ v5 then x4 else v5) → (am_Po vI (d + 5) k_Cook_bestSheets 9 [some (.ref 54), some (.int x1), some (.int x2), some (.int v7), some (.int v8), some (.int (x5 + 1)), some (.int v5)] [] S4 Q))))) :
    am_Po vI (d + 5) k_Cook_bestSheets 9 [some (.ref 54), some (.int x1), some (.int x2), some (.int x3), some (.int x4), some (.int x5), o6] [] S Q := by
  by_cases q1 : (S.1 1 0) ≤ x5
  · have W := W.1 q1
    refine po_of (fun _ nx => b_Cook_bestSheets_9 (fun _ => nx) (fun z => absurd q1 z)) ?_
    exact ⟨_, _, b_Cook_bestSheets_66, W⟩
  · have W := W.2 q1
    refine po_of (fun _ nx => b_Cook_bestSheets_9 (fun z => absurd z q1) (fun _ => nx)) ?_
    obtain ⟨g2, W⟩ := W
    refine po_of (fun _ nx => b_Cook_bestSheets_21 (s_Days_isShut (a0 := 17) (x1 := x5) (S := S) (by decide +kernel) g2) nx) ?_
    by_cases q3 : (f_Days_isShut S 17 x5) = 0
    · have W := W.1 q3
      refine po_of (fun _ nx => b_Cook_bestSheets_33 (fun _ => nx) (fun z => absurd q3 z)) ?_
      refine po_of (fun _ nx => b_Cook_bestSheets_60 nx) ?_
      exact W
    · have W := W.2 q3
      refine po_of (fun _ nx => b_Cook_bestSheets_33 (fun z => absurd z q3) (fun _ => nx)) ?_
      obtain ⟨v5, S4, h9, W⟩ := W
      refine po_of (fun _ nx => b_Cook_bestSheets_36 h9 nx) ?_
      have J : ∀ v7 : Int32, v7 = (if x4 ≤ v5 then x3 else x5) → ∀ v8 : Int32, v8 = (if x4 ≤ v5 then x4 else v5) → am_Po vI (d + 5) k_Cook_bestSheets 60 [some (.ref 54), some (.int x1), some (.int x2), some (.int v7), some (.int v8), some (.int x5), some (.int v5)] [] S4 Q := by
        intro v7 v7_ v8 v8_
        have W := W v7 v7_ v8 v8_
        refine po_of (fun _ nx => b_Cook_bestSheets_60 nx) ?_
        exact W
      by_cases q6 : x4 ≤ v5
      · refine po_of (fun _ nx => b_Cook_bestSheets_44 (fun _ => nx) (fun z => absurd q6 z)) ?_
        exact J _ (by simp only [if_pos q6]) _ (by simp only [if_pos q6])
      · refine po_of (fun _ nx => b_Cook_bestSheets_44 (fun z => absurd z q6) (fun _ => nx)) ?_
        refine po_of (fun _ nx => b_Cook_bestSheets_53 nx) ?_
        exact J _ (by simp only [if_neg q6]) _ (by simp only [if_neg q6])
abbrev H_Cook_bestSheets_9 (d : Nat) (x1 : Int32) (x2 : Int32) (x3 : Int32) (x4 : Int32) (x5 : Int32) (o6 : Option Value) (S : fm_S) (Q : Int32 → fm_S → Prop) : Prop := am_Po vI (d + 5) k_Cook_bestSheets 9 [some (.ref 54), some (.int x1), some (.int x2), some (.int x3), some (.int x4), some (.int x5), o6] [] S Q
theorem p_Cook_opening_0 {d : Nat} {x1 : Int32} {x2 : Int32} {x3 : Int32} {S : fm_S} {Q : Int32 → fm_S → Prop}
    (W : (x1 = (-1) → Q 0 S) ∧ (¬ x1 = (-1) → (vp_in (f_Math_floorMod (S.1 17 0) 4) (fm_ln (1 + 6))) ∧ am_Ps vV (d + 3) k_Air_fillWithSheets [.ref 56, .ref 1, .int x1, .int (f_Town_windOn S 1 (S.1 17 0)), .int x2, .int x3] S fun _ S3 => ((vp_in x1 6) ∧ (vp_in (S3.1 1 0) 9) ∧ Q (f_Int_bitCount (n_Cook_openingBits S3 17 x1 (((S3.1 1 0)).toNatClampNeg))) S3))) :
    am_Po vI (d + 4) k_Cook_opening 0 [some (.ref 54), some (.int x1), some (.int x2), some (.int x3)] [] S Q := by
  by_cases q1 : x1 = (-1)
  · have W := W.1 q1
    refine po_of (fun _ nx => b_Cook_opening_0 (fun z => absurd q1 z) (fun _ => nx)) ?_
    exact ⟨_, _, b_Cook_opening_5, W⟩
  · have W := W.2 q1
    refine po_of (fun _ nx => b_Cook_opening_0 (fun _ => nx) (fun z => absurd z q1)) ?_
    obtain ⟨g2, W⟩ := W
    refine po_of (fun _ nx => b_Cook_opening_7 (s_Town_windOn (a0 := 1) (x1 := (S.1 17 0)) (S := S) (by decide +kernel) (by decide +kernel) g2) nx) ?_
    obtain ⟨_, S3, h6, W⟩ := W
    refine po_of (fun _ nx => b_Cook_opening_33 h6 nx) ?_
    obtain ⟨g4, W⟩ := W
    obtain ⟨g5, W⟩ := W
    refine po_of (fun _ nx => b_Cook_opening_38 (s_Cook_openingBits (a1 := 17) (x2 := x1) (S := S3) (by decide +kernel) g4 g5) nx) ?_
    refine po_of (fun _ nx => b_Cook_opening_50 (s_Int_bitCount (x0 := (n_Cook_openingBits S3 17 x1 (((S3.1 1 0)).toNatClampNeg))) (S := S3)) nx) ?_
    exact ⟨_, _, b_Cook_opening_53, W⟩
theorem e_Cook_opening {d : Nat} {x1 : Int32} {x2 : Int32} {x3 : Int32} {S : fm_S} {Q : Int32 → fm_S → Prop}
    (W : (x1 = (-1) → Q 0 S) ∧ (¬ x1 = (-1) → (vp_in (f_Math_floorMod (S.1 17 0) 4) (fm_ln (1 + 6))) ∧ am_Ps vV (d + 3) k_Air_fillWithSheets [.ref 56, .ref 1, .int x1, .int (f_Town_windOn S 1 (S.1 17 0)), .int x2, .int x3] S fun _ S3 => ((vp_in x1 6) ∧ (vp_in (S3.1 1 0) 9) ∧ Q (f_Int_bitCount (n_Cook_openingBits S3 17 x1 (((S3.1 1 0)).toNatClampNeg))) S3))) :
    am_Ps vI (d + 4) k_Cook_opening [.ref 54, .int x1, .int x2, .int x3] S Q := ps_of (L := [some (.ref 54), some (.int x1), some (.int x2), some (.int x3)]) rfl (Nat.le_of_ble_eq_true rfl) (Nat.le_of_ble_eq_true rfl) (p_Cook_opening_0 W)
theorem p_Cook_restingPairs_0 {d : Nat} {x1 : Int32} {o2 : Option Value} {o3 : Option Value} {o4 : Option Value} {S : fm_S} {Q : Int32 → fm_S → Prop}
    (W : am_Po vI (d + 5) k_Cook_restingPairs 2 [some (.ref 54), some (.int x1), some (.int (-1)), o3, o4] [] S Q) :
    am_Po vI (d + 5) k_Cook_restingPairs 0 [some (.ref 54), some (.int x1), o2, o3, o4] [] S Q := by
  refine po_of (fun _ nx => b_Cook_restingPairs_0 nx) ?_
  exact W
theorem e_Cook_restingPairs {d : Nat} {x1 : Int32} {S : fm_S} {Q : Int32 → fm_S → Prop}
    (W : am_Po vI (d + 5) k_Cook_restingPairs 2 [some (.ref 54), some (.int x1), some (.int (-1)), none, none] [] S Q) :
    am_Ps vI (d + 5) k_Cook_restingPairs [.ref 54, .int x1] S Q := ps_of (L := [some (.ref 54), some (.int x1), none, none, none]) rfl (Nat.le_of_ble_eq_true rfl) (Nat.le_of_ble_eq_true rfl) (p_Cook_restingPairs_0 W)
theorem p_Cook_restingPairs_2 {d : Nat} {x1 : Int32} {x2 : Int32} {o3 : Option Value} {o4 : Option Value} {S : fm_S} {Q : Int32 → fm_S → Prop}
    (W : ((S.1 1 7) ≤ x2 → am_Po vI (d + 5) k_Cook_restingPairs 59 [some (.ref 54), some (.int x1), some (.int 0), some (.int (-1)), o4] [] S Q) ∧ (¬ (S.1 1 7) ≤ x2 → am_Po vI (d + 5) k_Cook_restingPairs 15 [some (.ref 54), some (.int x1), some (.int x2), some (.int (-1)), o4] [] S Q)) :
    am_Po vI (d + 5) k_Cook_restingPairs 2 [some (.ref 54), some (.int x1), some (.int x2), o3, o4] [] S Q := by
  by_cases q1 : (S.1 1 7) ≤ x2
  · have W := W.1 q1
    refine po_of (fun _ nx => b_Cook_restingPairs_2 (fun _ => nx) (fun z => absurd q1 z)) ?_
    refine po_of (fun _ nx => b_Cook_restingPairs_55 nx) ?_
    exact W
  · have W := W.2 q1
    refine po_of (fun _ nx => b_Cook_restingPairs_2 (fun z => absurd z q1) (fun _ => nx)) ?_
    refine po_of (fun _ nx => b_Cook_restingPairs_13 nx) ?_
    exact W
abbrev H_Cook_restingPairs_2 (d : Nat) (x1 : Int32) (x2 : Int32) (o3 : Option Value) (o4 : Option Value) (S : fm_S) (Q : Int32 → fm_S → Prop) : Prop := am_Po vI (d + 5) k_Cook_restingPairs 2 [some (.ref 54), some (.int x1), some (.int x2), o3, o4] [] S Q
theorem p_Cook_restingPairs_15 {d : Nat} {x1 : Int32} {x2 : Int32} {x3 : Int32} {o4 : Option Value} {S : fm_S} {Q : Int32 → fm_S → Prop}
    (W : ((S.1 1 0) ≤ x3 → am_Po vI (d + 5) k_Cook_restingPairs 2 [some (.ref 54), some (.int x1), some (.int (x2 + 1)), some (.int x3), o4] [] S Q) ∧ (¬ (S.1 1 0) ≤ x3 → am_Ps vI (d + 4) k_Cook_opening [.ref 54, .int x2, .int x3, .int x1] S fun v3 S2 => ((vp_in (f_Cook_pair x2 x3) 63) ∧ am_Po vI (d + 5) k_Cook_restingPairs 15 [some (.ref 54), some (.int x1), some (.int x2), some (.int (x3 + 1)), o4] [] (fm_wI S2 66 (f_Cook_pair x2 x3).toNatClampNeg v3) Q))) :
    am_Po vI (d + 5) k_Cook_restingPairs 15 [some (.ref 54), some (.int x1), some (.int x2), some (.int x3), o4] [] S Q := by
  by_cases q1 : (S.1 1 0) ≤ x3
  · have W := W.1 q1
    refine po_of (fun _ nx => b_Cook_restingPairs_15 (fun _ => nx) (fun z => absurd q1 z)) ?_
    refine po_of (fun _ nx => b_Cook_restingPairs_49 nx) ?_
    exact W
  · have W := W.2 q1
    refine po_of (fun _ nx => b_Cook_restingPairs_15 (fun z => absurd z q1) (fun _ => nx)) ?_
    refine po_of (fun _ nx => b_Cook_restingPairs_26 (s_Cook_pair (x0 := x2) (x1 := x3) (S := S)) nx) ?_
    obtain ⟨v3, S2, h5, W⟩ := W
    refine po_of (fun _ nx => b_Cook_restingPairs_35 h5 nx) ?_
    obtain ⟨g4, W⟩ := W
    refine po_of (fun _ nx => b_Cook_restingPairs_42 g4 nx) ?_
    exact W
abbrev H_Cook_restingPairs_15 (d : Nat) (x1 : Int32) (x2 : Int32) (x3 : Int32) (o4 : Option Value) (S : fm_S) (Q : Int32 → fm_S → Prop) : Prop := am_Po vI (d + 5) k_Cook_restingPairs 15 [some (.ref 54), some (.int x1), some (.int x2), some (.int x3), o4] [] S Q
theorem p_Cook_restingPairs_59 {d : Nat} {x1 : Int32} {x2 : Int32} {x3 : Int32} {o4 : Option Value} {S : fm_S} {Q : Int32 → fm_S → Prop}
    (W : ((S.1 1 7) ≤ x3 → Q x2 S) ∧ (¬ (S.1 1 7) ≤ x3 → am_Po vI (d + 5) k_Cook_restingPairs 73 [some (.ref 54), some (.int x1), some (.int x2), some (.int x3), some (.int (-1))] [] S Q)) :
    am_Po vI (d + 5) k_Cook_restingPairs 59 [some (.ref 54), some (.int x1), some (.int x2), some (.int x3), o4] [] S Q := by
  by_cases q1 : (S.1 1 7) ≤ x3
  · have W := W.1 q1
    refine po_of (fun _ nx => b_Cook_restingPairs_59 (fun _ => nx) (fun z => absurd q1 z)) ?_
    exact ⟨_, _, b_Cook_restingPairs_110, W⟩
  · have W := W.2 q1
    refine po_of (fun _ nx => b_Cook_restingPairs_59 (fun z => absurd z q1) (fun _ => nx)) ?_
    refine po_of (fun _ nx => b_Cook_restingPairs_70 nx) ?_
    exact W
abbrev H_Cook_restingPairs_59 (d : Nat) (x1 : Int32) (x2 : Int32) (x3 : Int32) (o4 : Option Value) (S : fm_S) (Q : Int32 → fm_S → Prop) : Prop := am_Po vI (d + 5) k_Cook_restingPairs 59 [some (.ref 54), some (.int x1), some (.int x2), some (.int x3), o4] [] S Q
theorem p_Cook_restingPairs_73 {d : Nat} {x1 : Int32} {x2 : Int32} {x3 : Int32} {x4 : Int32} {S : fm_S} {Q : Int32 → fm_S → Prop}
    (W : ((S.1 1 0) ≤ x4 → am_Po vI (d + 5) k_Cook_restingPairs 59 [some (.ref 54), some (.int x1), some (.int x2), some (.int (x3 + 1)), some (.int x4)] [] S Q) ∧ (¬ (S.1 1 0) ≤ x4 → am_Ps vI (d + 4) k_Cook_rests [.ref 54, .int x3, .int x4] S fun v3 S2 => (∀ v5 : Int32, v5 = (if v3 = 0 then x2 else x2 + 1) → (am_Po vI (d + 5) k_Cook_restingPairs 73 [some (.ref 54), some (.int x1), some (.int v5), some (.int x3), some (.int (x4 + 1))] [] S2 Q)))) :
    am_Po vI (d + 5) k_Cook_restingPairs 73 [some (.ref 54), some (.int x1), some (.int x2), some (.int x3), some (.int x4)] [] S Q := by
  by_cases q1 : (S.1 1 0) ≤ x4
  · have W := W.1 q1
    refine po_of (fun _ nx => b_Cook_restingPairs_73 (fun _ => nx) (fun z => absurd q1 z)) ?_
    refine po_of (fun _ nx => b_Cook_restingPairs_104 nx) ?_
    exact W
  · have W := W.2 q1
    refine po_of (fun _ nx => b_Cook_restingPairs_73 (fun z => absurd z q1) (fun _ => nx)) ?_
    obtain ⟨v3, S2, h6, W⟩ := W
    refine po_of (fun _ nx => b_Cook_restingPairs_85 h6 nx) ?_
    have J : ∀ v5 : Int32, v5 = (if v3 = 0 then x2 else x2 + 1) → am_Po vI (d + 5) k_Cook_restingPairs 98 [some (.ref 54), some (.int x1), some (.int v5), some (.int x3), some (.int x4)] [] S2 Q := by
      intro v5 v5_
      have W := W v5 v5_
      refine po_of (fun _ nx => b_Cook_restingPairs_98 nx) ?_
      exact W
    by_cases q4 : v3 = 0
    · refine po_of (fun _ nx => b_Cook_restingPairs_92 (fun _ => nx) (fun z => absurd q4 z)) ?_
      exact J _ (by simp only [if_pos q4])
    · refine po_of (fun _ nx => b_Cook_restingPairs_92 (fun z => absurd z q4) (fun _ => nx)) ?_
      refine po_of (fun _ nx => b_Cook_restingPairs_95 nx) ?_
      exact J _ (by simp only [if_neg q4])
abbrev H_Cook_restingPairs_73 (d : Nat) (x1 : Int32) (x2 : Int32) (x3 : Int32) (x4 : Int32) (S : fm_S) (Q : Int32 → fm_S → Prop) : Prop := am_Po vI (d + 5) k_Cook_restingPairs 73 [some (.ref 54), some (.int x1), some (.int x2), some (.int x3), some (.int x4)] [] S Q
theorem p_Cook_rests_0 {d : Nat} {x1 : Int32} {x2 : Int32} {o3 : Option Value} {o4 : Option Value} {S : fm_S} {Q : Int32 → fm_S → Prop}
    (W : (vp_in (f_Cook_pair x1 x2) 63) ∧ am_Po vI (d + 1) k_Cook_rests 14 [some (.ref 54), some (.int x1), some (.int x2), some (.int (S.1 66 (f_Cook_pair x1 x2).toNatClampNeg)), some (.int (-1))] [] S Q) :
    am_Po vI (d + 1) k_Cook_rests 0 [some (.ref 54), some (.int x1), some (.int x2), o3, o4] [] S Q := by
  refine po_of (fun _ nx => b_Cook_rests_0 (s_Cook_pair (x0 := x1) (x1 := x2) (S := S)) nx) ?_
  obtain ⟨g1, W⟩ := W
  refine po_of (fun _ nx => b_Cook_rests_9 g1 nx) ?_
  exact W
theorem e_Cook_rests {d : Nat} {x1 : Int32} {x2 : Int32} {S : fm_S} {Q : Int32 → fm_S → Prop}
    (W : (vp_in (f_Cook_pair x1 x2) 63) ∧ am_Po vI (d + 1) k_Cook_rests 14 [some (.ref 54), some (.int x1), some (.int x2), some (.int (S.1 66 (f_Cook_pair x1 x2).toNatClampNeg)), some (.int (-1))] [] S Q) :
    am_Ps vI (d + 1) k_Cook_rests [.ref 54, .int x1, .int x2] S Q := ps_of (L := [some (.ref 54), some (.int x1), some (.int x2), none, none]) rfl (Nat.le_of_ble_eq_true rfl) (Nat.le_of_ble_eq_true rfl) (p_Cook_rests_0 W)
theorem p_Cook_rests_14 {d : Nat} {x1 : Int32} {x2 : Int32} {x3 : Int32} {x4 : Int32} {S : fm_S} {Q : Int32 → fm_S → Prop}
    (W : ((S.1 1 7) ≤ x4 → am_Po vI (d + 1) k_Cook_rests 52 [some (.ref 54), some (.int x1), some (.int x2), some (.int x3), some (.int (-1))] [] S Q) ∧ (¬ (S.1 1 7) ≤ x4 → (vp_in (f_Cook_pair x4 x2) 63) ∧ ((S.1 66 (f_Cook_pair x4 x2).toNatClampNeg) ≤ x3 → am_Po vI (d + 1) k_Cook_rests 14 [some (.ref 54), some (.int x1), some (.int x2), some (.int x3), some (.int (x4 + 1))] [] S Q) ∧ (¬ (S.1 66 (f_Cook_pair x4 x2).toNatClampNeg) ≤ x3 → Q 0 S))) :
    am_Po vI (d + 1) k_Cook_rests 14 [some (.ref 54), some (.int x1), some (.int x2), some (.int x3), some (.int x4)] [] S Q := by
  by_cases q1 : (S.1 1 7) ≤ x4
  · have W := W.1 q1
    refine po_of (fun _ nx => b_Cook_rests_14 (fun _ => nx) (fun z => absurd q1 z)) ?_
    refine po_of (fun _ nx => b_Cook_rests_49 nx) ?_
    exact W
  · have W := W.2 q1
    refine po_of (fun _ nx => b_Cook_rests_14 (fun z => absurd z q1) (fun _ => nx)) ?_
    refine po_of (fun _ nx => b_Cook_rests_26 (s_Cook_pair (x0 := x4) (x1 := x2) (S := S)) nx) ?_
    obtain ⟨g2, W⟩ := W
    by_cases q3 : (S.1 66 (f_Cook_pair x4 x2).toNatClampNeg) ≤ x3
    · have W := W.1 q3
      refine po_of (fun _ nx => b_Cook_rests_36 g2 (fun _ => nx) (fun z => absurd q3 z)) ?_
      refine po_of (fun _ nx => b_Cook_rests_43 nx) ?_
      exact W
    · have W := W.2 q3
      refine po_of (fun _ nx => b_Cook_rests_36 g2 (fun z => absurd z q3) (fun _ => nx)) ?_
      exact ⟨_, _, b_Cook_rests_41, W⟩
abbrev H_Cook_rests_14 (d : Nat) (x1 : Int32) (x2 : Int32) (x3 : Int32) (x4 : Int32) (S : fm_S) (Q : Int32 → fm_S → Prop) : Prop := am_Po vI (d + 1) k_Cook_rests 14 [some (.ref 54), some (.int x1), some (.int x2), some (.int x3), some (.int x4)] [] S Q
theorem p_Cook_rests_52 {d : Nat} {x1 : Int32} {x2 : Int32} {x3 : Int32} {x4 : Int32} {S : fm_S} {Q : Int32 → fm_S → Prop}
    (W : ((S.1 1 0) ≤ x4 → Q 1 S) ∧ (¬ (S.1 1 0) ≤ x4 → (vp_in (f_Cook_pair x1 x4) 63) ∧ (x3 ≤ (S.1 66 (f_Cook_pair x1 x4).toNatClampNeg) → am_Po vI (d + 1) k_Cook_rests 52 [some (.ref 54), some (.int x1), some (.int x2), some (.int x3), some (.int (x4 + 1))] [] S Q) ∧ (¬ x3 ≤ (S.1 66 (f_Cook_pair x1 x4).toNatClampNeg) → Q 0 S))) :
    am_Po vI (d + 1) k_Cook_rests 52 [some (.ref 54), some (.int x1), some (.int x2), some (.int x3), some (.int x4)] [] S Q := by
  by_cases q1 : (S.1 1 0) ≤ x4
  · have W := W.1 q1
    refine po_of (fun _ nx => b_Cook_rests_52 (fun _ => nx) (fun z => absurd q1 z)) ?_
    exact ⟨_, _, b_Cook_rests_87, W⟩
  · have W := W.2 q1
    refine po_of (fun _ nx => b_Cook_rests_52 (fun z => absurd z q1) (fun _ => nx)) ?_
    refine po_of (fun _ nx => b_Cook_rests_64 (s_Cook_pair (x0 := x1) (x1 := x4) (S := S)) nx) ?_
    obtain ⟨g2, W⟩ := W
    by_cases q3 : x3 ≤ (S.1 66 (f_Cook_pair x1 x4).toNatClampNeg)
    · have W := W.1 q3
      refine po_of (fun _ nx => b_Cook_rests_74 g2 (fun _ => nx) (fun z => absurd q3 z)) ?_
      refine po_of (fun _ nx => b_Cook_rests_81 nx) ?_
      exact W
    · have W := W.2 q3
      refine po_of (fun _ nx => b_Cook_rests_74 g2 (fun z => absurd z q3) (fun _ => nx)) ?_
      exact ⟨_, _, b_Cook_rests_79, W⟩
abbrev H_Cook_rests_52 (d : Nat) (x1 : Int32) (x2 : Int32) (x3 : Int32) (x4 : Int32) (S : fm_S) (Q : Int32 → fm_S → Prop) : Prop := am_Po vI (d + 1) k_Cook_rests 52 [some (.ref 54), some (.int x1), some (.int x2), some (.int x3), some (.int x4)] [] S Q
theorem p_Cook_openAfter_0 {d : Nat} {x1 : Int32} {x2 : Int32} {o3 : Option Value} {o4 : Option Value} {o5 : Option Value} {o6 : Option Value} {S : fm_S} {Q : Int32 → fm_S → Prop}
    (W : am_Po vI (d + 5) k_Cook_openAfter 20 [some (.ref 54), some (.int x1), some (.int x2), some (.long x1.toInt64), none, some (.int 0), o6] [] (g_Days_copy S 59 17) Q) :
    am_Po vI (d + 5) k_Cook_openAfter 0 [some (.ref 54), some (.int x1), some (.int x2), o3, o4, o5, o6] [] S Q := by
  refine po_of (fun _ nx => b_Cook_openAfter_0 (s_Days_copy (a0 := 59) (a1 := 17) (S := S) (by decide +kernel) (by decide +kernel)) nx) ?_
  refine po_of (fun _ nx => b_Cook_openAfter_14 nx) ?_
  exact W
theorem e_Cook_openAfter {d : Nat} {x1 : Int32} {x2 : Int32} {S : fm_S} {Q : Int32 → fm_S → Prop}
    (W : am_Po vI (d + 5) k_Cook_openAfter 20 [some (.ref 54), some (.int x1), some (.int x2), some (.long x1.toInt64), none, some (.int 0), none] [] (g_Days_copy S 59 17) Q) :
    am_Ps vI (d + 5) k_Cook_openAfter [.ref 54, .int x1, .int x2] S Q := ps_of (L := [some (.ref 54), some (.int x1), some (.int x2), none, none, none, none]) rfl (Nat.le_of_ble_eq_true rfl) (Nat.le_of_ble_eq_true rfl) (p_Cook_openAfter_0 W)
theorem p_Cook_openAfter_20 {d : Nat} {x1 : Int32} {x2 : Int32} {y3 : Int64} {x5 : Int32} {o6 : Option Value} {S : fm_S} {Q : Int32 → fm_S → Prop}
    (W : (x2 ≤ x5 → (vp_in (S.1 1 0) 9) ∧ Q (n_open S 59 (S.1 1 0).toNatClampNeg) S) ∧ (¬ x2 ≤ x5 → ∀ v4 : Int32, v4 = (if (S.1 1 7) ≤ ((((((y3 * 1103515245) + 12345) - ((y3 * 1103515245) + 12345) / 2147483648 * 2147483648) / 65536) - ((((y3 * 1103515245) + 12345) - ((y3 * 1103515245) + 12345) / 2147483648 * 2147483648) / 65536) / 7 * 7).toInt32) then (-1 : Int32) else ((((((y3 * 1103515245) + 12345) - ((y3 * 1103515245) + 12345) / 2147483648 * 2147483648) / 65536) - ((((y3 * 1103515245) + 12345) - ((y3 * 1103515245) + 12345) / 2147483648 * 2147483648) / 65536) / 7 * 7).toInt32)) → (am_Ps vI (d + 4) k_Cook_pass [.ref 54, .ref 59, .int v4] S fun v6 S5 => (am_Po vI (d + 5) k_Cook_openAfter 20 [some (.ref 54), some (.int x1), some (.int x2), some (.long (((y3 * 1103515245) + 12345) - ((y3 * 1103515245) + 12345) / 2147483648 * 2147483648)), none, some (.int (x5 + 1)), some (.int ((((((y3 * 1103515245) + 12345) - ((y3 * 1103515245) + 12345) / 2147483648 * 2147483648) / 65536) - ((((y3 * 1103515245) + 12345) - ((y3 * 1103515245) + 12345) / 2147483648 * 2147483648) / 65536) / 7 * 7).toInt32))] [] S5 Q)))) :
    am_Po vI (d + 5) k_Cook_openAfter 20 [some (.ref 54), some (.int x1), some (.int x2), some (.long y3), none, some (.int x5), o6] [] S Q := by
  by_cases q1 : x2 ≤ x5
  · have W := W.1 q1
    refine po_of (fun _ nx => b_Cook_openAfter_20 (fun _ => nx) (fun z => absurd q1 z)) ?_
    obtain ⟨g2, W⟩ := W
    refine po_of (fun _ nx => b_Cook_openAfter_85 (s_Days_openOf_i (a0 := 59) (x1 := (S.1 1 0)) (S := S) (by decide +kernel) g2) nx) ?_
    exact ⟨_, _, b_Cook_openAfter_99, W⟩
  · have W := W.2 q1
    refine po_of (fun _ nx => b_Cook_openAfter_20 (fun z => absurd z q1) (fun _ => nx)) ?_
    have J : ∀ v4 : Int32, v4 = (if (S.1 1 7) ≤ ((((((y3 * 1103515245) + 12345) - ((y3 * 1103515245) + 12345) / 2147483648 * 2147483648) / 65536) - ((((y3 * 1103515245) + 12345) - ((y3 * 1103515245) + 12345) / 2147483648 * 2147483648) / 65536) / 7 * 7).toInt32) then (-1 : Int32) else ((((((y3 * 1103515245) + 12345) - ((y3 * 1103515245) + 12345) / 2147483648 * 2147483648) / 65536) - ((((y3 * 1103515245) + 12345) - ((y3 * 1103515245) + 12345) / 2147483648 * 2147483648) / 65536) / 7 * 7).toInt32)) → am_Po vI (d + 5) k_Cook_openAfter 75 [some (.ref 54), some (.int x1), some (.int x2), some (.long (((y3 * 1103515245) + 12345) - ((y3 * 1103515245) + 12345) / 2147483648 * 2147483648)), none, some (.int x5), some (.int ((((((y3 * 1103515245) + 12345) - ((y3 * 1103515245) + 12345) / 2147483648 * 2147483648) / 65536) - ((((y3 * 1103515245) + 12345) - ((y3 * 1103515245) + 12345) / 2147483648 * 2147483648) / 65536) / 7 * 7).toInt32))] [.int v4, .ref 59, .ref 54] S Q := by
      intro v4 v4_
      have W := W v4 v4_
      obtain ⟨v6, S5, h7, W⟩ := W
      refine po_of (fun _ nx => b_Cook_openAfter_75 h7 nx) ?_
      refine po_of (fun _ nx => b_Cook_openAfter_78 nx) ?_
      exact W
    by_cases q3 : (S.1 1 7) ≤ ((((((y3 * 1103515245) + 12345) - ((y3 * 1103515245) + 12345) / 2147483648 * 2147483648) / 65536) - ((((y3 * 1103515245) + 12345) - ((y3 * 1103515245) + 12345) / 2147483648 * 2147483648) / 65536) / 7 * 7).toInt32)
    · refine po_of (fun _ nx => b_Cook_openAfter_26 (fun _ => nx) (fun z => absurd q3 z)) ?_
      refine po_of (fun _ nx => b_Cook_openAfter_74 nx) ?_
      exact J _ (by simp only [if_pos q3])
    · refine po_of (fun _ nx => b_Cook_openAfter_26 (fun z => absurd z q3) (fun _ => nx)) ?_
      refine po_of (fun _ nx => b_Cook_openAfter_69 nx) ?_
      exact J _ (by simp only [if_neg q3])
abbrev H_Cook_openAfter_20 (d : Nat) (x1 : Int32) (x2 : Int32) (y3 : Int64) (x5 : Int32) (o6 : Option Value) (S : fm_S) (Q : Int32 → fm_S → Prop) : Prop := am_Po vI (d + 5) k_Cook_openAfter 20 [some (.ref 54), some (.int x1), some (.int x2), some (.long y3), none, some (.int x5), o6] [] S Q
