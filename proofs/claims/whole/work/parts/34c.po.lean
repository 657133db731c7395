/-! rules as weakest preconditions: printed by wip/whole/gen15.py -/
theorem p_Reader_parse_0 {d : Nat} {o1 : Option Value} {S : fm_S} {Q : Int32 → fm_S → Prop}
    (W : am_Ps vV (d + 4) k_Town_begin [.ref 68] S fun _ S1 => (am_Ps vV (d + 4) k_Reader_take [.ref 67] (fm_wI (fm_wI (fm_wI S1 67 1 0) 67 5 0) 67 4 (-1)) fun _ S2 => (((S2.1 67 7) = 0 → am_Po vI (d + 5) k_Reader_parse 43 [some (.ref 67), some (.int 0)] [] (fm_wI S2 67 4 (S2.1 67 6)) Q) ∧ (¬ (S2.1 67 7) = 0 → am_Po vI (d + 5) k_Reader_parse 43 [some (.ref 67), some (.int 0)] [] S2 Q)))) :
    am_Po vI (d + 5) k_Reader_parse 0 [some (.ref 67), o1] [] S Q := by
  obtain ⟨_, S1, h5, W⟩ := W
  refine po_of (fun _ nx => b_Reader_parse_0 h5 nx) ?_
  obtain ⟨_, S2, h4, W⟩ := W
  refine po_of (fun _ nx => b_Reader_parse_7 h4 nx) ?_
  by_cases q3 : (S2.1 67 7) = 0
  · have W := W.1 q3
    refine po_of (fun _ nx => b_Reader_parse_26 (fun z => absurd q3 z) (fun _ => nx)) ?_
    refine po_of (fun _ nx => b_Reader_parse_33 nx) ?_
    refine po_of (fun _ nx => b_Reader_parse_41 nx) ?_
    exact W
  · have W := W.2 q3
    refine po_of (fun _ nx => b_Reader_parse_26 (fun _ => nx) (fun z => absurd z q3)) ?_
    refine po_of (fun _ nx => b_Reader_parse_41 nx) ?_
    exact W
theorem e_Reader_parse {d : Nat} {S : fm_S} {Q : Int32 → fm_S → Prop}
    (W : am_Ps vV (d + 4) k_Town_begin [.ref 68] S fun _ S1 => (am_Ps vV (d + 4) k_Reader_take [.ref 67] (fm_wI (fm_wI (fm_wI S1 67 1 0) 67 5 0) 67 4 (-1)) fun _ S2 => (((S2.1 67 7) = 0 → am_Po vI (d + 5) k_Reader_parse 43 [some (.ref 67), some (.int 0)] [] (fm_wI S2 67 4 (S2.1 67 6)) Q) ∧ (¬ (S2.1 67 7) = 0 → am_Po vI (d + 5) k_Reader_parse 43 [some (.ref 67), some (.int 0)] [] S2 Q)))) :
    am_Ps vI (d + 5) k_Reader_parse [.ref 67] S Q := ps_of (L := [some (.ref 67), none]) rfl (Nat.le_of_ble_eq_true rfl) (Nat.le_of_ble_eq_true rfl) (p_Reader_parse_0 W)
theorem p_Reader_parse_43 {d : Nat} {x1 : Int32} {S : fm_S} {Q : Int32 → fm_S → Prop}
    (W : ((S.1 67 7) = 0 → Q (S.1 67 4) S) ∧ (¬ (S.1 67 7) = 0 → ((S.1 67 4) = (-1) → (150 ≤ x1 → Q (S.1 67 4) S) ∧ (¬ 150 ≤ x1 → am_Ps vV (d + 4) k_Reader_item [.ref 67] S fun _ S4 => (am_Ps vV (d + 4) k_Reader_take [.ref 67] S4 fun _ S5 => (am_Po vI (d + 5) k_Reader_parse 43 [some (.ref 67), some (.int (x1 + 1))] [] S5 Q)))) ∧ (¬ (S.1 67 4) = (-1) → Q (S.1 67 4) S))) :
    am_Po vI (d + 5) k_Reader_parse 43 [some (.ref 67), some (.int x1)] [] S Q := by
  by_cases q1 : (S.1 67 7) = 0
  · have W := W.1 q1
    refine po_of (fun _ nx => b_Reader_parse_43 (fun _ => nx) (fun z => absurd q1 z)) ?_
    exact ⟨_, _, b_Reader_parse_79, W⟩
  · have W := W.2 q1
    refine po_of (fun _ nx => b_Reader_parse_43 (fun z => absurd z q1) (fun _ => nx)) ?_
    by_cases q2 : (S.1 67 4) = (-1)
    · have W := W.1 q2
      refine po_of (fun _ nx => b_Reader_parse_50 (fun z => absurd q2 z) (fun _ => nx)) ?_
      by_cases q3 : 150 ≤ x1
      · have W := W.1 q3
        refine po_of (fun _ nx => b_Reader_parse_58 (fun _ => nx) (fun z => absurd q3 z)) ?_
        exact ⟨_, _, b_Reader_parse_79, W⟩
      · have W := W.2 q3
        refine po_of (fun _ nx => b_Reader_parse_58 (fun z => absurd z q3) (fun _ => nx)) ?_
        obtain ⟨_, S4, h7, W⟩ := W
        refine po_of (fun _ nx => b_Reader_parse_65 h7 nx) ?_
        obtain ⟨_, S5, h6, W⟩ := W
        refine po_of (fun _ nx => b_Reader_parse_69 h6 nx) ?_
        refine po_of (fun _ nx => b_Reader_parse_73 nx) ?_
        exact W
    · have W := W.2 q2
      refine po_of (fun _ nx => b_Reader_parse_50 (fun _ => nx) (fun z => absurd z q2)) ?_
      exact ⟨_, _, b_Reader_parse_79, W⟩
abbrev H_Reader_parse_43 (d : Nat) (x1 : Int32) (S : fm_S) (Q : Int32 → fm_S → Prop) : Prop := am_Po vI (d + 5) k_Reader_parse 43 [some (.ref 67), some (.int x1)] [] S Q
theorem p_Reader_take_0 {d : Nat} {S : fm_S} {Q : Unit → fm_S → Prop}
    (W : ((S.1 67 0) ≤ (S.1 67 5) → (((fm_wI S 67 6 (S.1 67 5)).1 67 5) < ((fm_wI S 67 6 (S.1 67 5)).1 67 0) → (vp_in ((fm_wI S 67 6 (S.1 67 5)).1 67 5) 150) ∧ ((f_Reader_isLetter ((fm_wI S 67 6 (S.1 67 5)).1 121 (((fm_wI S 67 6 (S.1 67 5)).1 67 5).toNatClampNeg))) = 0 → ((f_Reader_isFigure ((fm_wI S 67 6 (S.1 67 5)).1 121 (((fm_wI S 67 6 (S.1 67 5)).1 67 5).toNatClampNeg))) = 0 → (vp_in ((fm_wI S 67 6 (S.1 67 5)).1 67 5) 150) ∧ ∀ v8 : Int32, v8 = (if ((fm_wI S 67 6 (S.1 67 5)).1 121 (((fm_wI S 67 6 (S.1 67 5)).1 67 5).toNatClampNeg)) = 59 then (3 : Int32) else (4 : Int32)) → (Q () (fm_wI (fm_wI (fm_wI S 67 6 (S.1 67 5)) 67 7 v8) 67 5 (((fm_wI (fm_wI S 67 6 (S.1 67 5)) 67 7 v8).1 67 5) + 1)))) ∧ (¬ (f_Reader_isFigure ((fm_wI S 67 6 (S.1 67 5)).1 121 (((fm_wI S 67 6 (S.1 67 5)).1 67 5).toNatClampNeg))) = 0 → am_Po vV (d + 1) k_Reader_take 144 [some (.ref 67)] [] (fm_wI (fm_wI S 67 6 (S.1 67 5)) 67 8 0) Q)) ∧ (¬ (f_Reader_isLetter ((fm_wI S 67 6 (S.1 67 5)).1 121 (((fm_wI S 67 6 (S.1 67 5)).1 67 5).toNatClampNeg))) = 0 → am_Po vV (d + 1) k_Reader_take 85 [some (.ref 67)] [] (fm_wI (fm_wI S 67 6 (S.1 67 5)) 67 7 1) Q)) ∧ (¬ ((fm_wI S 67 6 (S.1 67 5)).1 67 5) < ((fm_wI S 67 6 (S.1 67 5)).1 67 0) → Q () (fm_wI (fm_wI S 67 6 (S.1 67 5)) 67 7 0))) ∧ (¬ (S.1 67 0) ≤ (S.1 67 5) → (vp_in (S.1 67 5) 150) ∧ ((S.1 121 ((S.1 67 5).toNatClampNeg)) = 32 → am_Po vV (d + 1) k_Reader_take 0 [some (.ref 67)] [] (fm_wI S 67 5 ((S.1 67 5) + 1)) Q) ∧ (¬ (S.1 121 ((S.1 67 5).toNatClampNeg)) = 32 → (((fm_wI S 67 6 (S.1 67 5)).1 67 5) < ((fm_wI S 67 6 (S.1 67 5)).1 67 0) → (vp_in ((fm_wI S 67 6 (S.1 67 5)).1 67 5) 150) ∧ ((f_Reader_isLetter ((fm_wI S 67 6 (S.1 67 5)).1 121 (((fm_wI S 67 6 (S.1 67 5)).1 67 5).toNatClampNeg))) = 0 → ((f_Reader_isFigure ((fm_wI S 67 6 (S.1 67 5)).1 121 (((fm_wI S 67 6 (S.1 67 5)).1 67 5).toNatClampNeg))) = 0 → (vp_in ((fm_wI S 67 6 (S.1 67 5)).1 67 5) 150) ∧ ∀ v17 : Int32, v17 = (if ((fm_wI S 67 6 (S.1 67 5)).1 121 (((fm_wI S 67 6 (S.1 67 5)).1 67 5).toNatClampNeg)) = 59 then (3 : Int32) else (4 : Int32)) → (Q () (fm_wI (fm_wI (fm_wI S 67 6 (S.1 67 5)) 67 7 v17) 67 5 (((fm_wI (fm_wI S 67 6 (S.1 67 5)) 67 7 v17).1 67 5) + 1)))) ∧ (¬ (f_Reader_isFigure ((fm_wI S 67 6 (S.1 67 5)).1 121 (((fm_wI S 67 6 (S.1 67 5)).1 67 5).toNatClampNeg))) = 0 → am_Po vV (d + 1) k_Reader_take 144 [some (.ref 67)] [] (fm_wI (fm_wI S 67 6 (S.1 67 5)) 67 8 0) Q)) ∧ (¬ (f_Reader_isLetter ((fm_wI S 67 6 (S.1 67 5)).1 121 (((fm_wI S 67 6 (S.1 67 5)).1 67 5).toNatClampNeg))) = 0 → am_Po vV (d + 1) k_Reader_take 85 [some (.ref 67)] [] (fm_wI (fm_wI S 67 6 (S.1 67 5)) 67 7 1) Q)) ∧ (¬ ((fm_wI S 67 6 (S.1 67 5)).1 67 5) < ((fm_wI S 67 6 (S.1 67 5)).1 67 0) → Q () (fm_wI (fm_wI S 67 6 (S.1 67 5)) 67 7 0))))) :
    am_Po vV (d + 1) k_Reader_take 0 [some (.ref 67)] [] S Q := by
  by_cases q1 : (S.1 67 0) ≤ (S.1 67 5)
  · have W := W.1 q1
    refine po_of (fun _ nx => b_Reader_take_0 (fun _ => nx) (fun z => absurd q1 z)) ?_
    by_cases q2 : ((fm_wI S 67 6 (S.1 67 5)).1 67 5) < ((fm_wI S 67 6 (S.1 67 5)).1 67 0)
    · have W := W.1 q2
      refine po_of (fun _ nx => b_Reader_take_38 (fun _ => nx) (fun z => absurd q2 z)) ?_
      obtain ⟨g3, W⟩ := W
      refine po_of (fun _ nx => b_Reader_take_65 g3 (s_Reader_isLetter (x0 := ((fm_wI S 67 6 (S.1 67 5)).1 121 (((fm_wI S 67 6 (S.1 67 5)).1 67 5).toNatClampNeg))) (S := (fm_wI S 67 6 (S.1 67 5)))) nx) ?_
      by_cases q4 : (f_Reader_isLetter ((fm_wI S 67 6 (S.1 67 5)).1 121 (((fm_wI S 67 6 (S.1 67 5)).1 67 5).toNatClampNeg))) = 0
      · have W := W.1 q4
        refine po_of (fun _ nx => b_Reader_take_77 (fun _ => nx) (fun z => absurd q4 z)) ?_
        refine po_of (fun _ nx => b_Reader_take_124 g3 (s_Reader_isFigure (x0 := ((fm_wI S 67 6 (S.1 67 5)).1 121 (((fm_wI S 67 6 (S.1 67 5)).1 67 5).toNatClampNeg))) (S := (fm_wI S 67 6 (S.1 67 5)))) nx) ?_
        by_cases q5 : (f_Reader_isFigure ((fm_wI S 67 6 (S.1 67 5)).1 121 (((fm_wI S 67 6 (S.1 67 5)).1 67 5).toNatClampNeg))) = 0
        · have W := W.1 q5
          refine po_of (fun _ nx => b_Reader_take_136 (fun _ => nx) (fun z => absurd q5 z)) ?_
          obtain ⟨g6, W⟩ := W
          have J : ∀ v8 : Int32, v8 = (if ((fm_wI S 67 6 (S.1 67 5)).1 121 (((fm_wI S 67 6 (S.1 67 5)).1 67 5).toNatClampNeg)) = 59 then (3 : Int32) else (4 : Int32)) → am_Po vV (d + 1) k_Reader_take 265 [some (.ref 67)] [.int v8, .ref 67] (fm_wI S 67 6 (S.1 67 5)) Q := by
            intro v8 v8_
            have W := W v8 v8_
            refine po_of (fun _ nx => b_Reader_take_265 nx) ?_
            exact ⟨_, _, b_Reader_take_278, W⟩
          by_cases q7 : ((fm_wI S 67 6 (S.1 67 5)).1 121 (((fm_wI S 67 6 (S.1 67 5)).1 67 5).toNatClampNeg)) = 59
          · refine po_of (fun _ nx => b_Reader_take_245 g6 (fun z => absurd q7 z) (fun _ => nx)) ?_
            refine po_of (fun _ nx => b_Reader_take_260 nx) ?_
            exact J _ (by simp only [if_pos q7])
          · refine po_of (fun _ nx => b_Reader_take_245 g6 (fun _ => nx) (fun z => absurd z q7)) ?_
            refine po_of (fun _ nx => b_Reader_take_264 nx) ?_
            exact J _ (by simp only [if_neg q7])
        · have W := W.2 q5
          refine po_of (fun _ nx => b_Reader_take_136 (fun z => absurd z q5) (fun _ => nx)) ?_
          refine po_of (fun _ nx => b_Reader_take_139 nx) ?_
          exact W
      · have W := W.2 q4
        refine po_of (fun _ nx => b_Reader_take_77 (fun z => absurd z q4) (fun _ => nx)) ?_
        refine po_of (fun _ nx => b_Reader_take_80 nx) ?_
        exact W
    · have W := W.2 q2
      refine po_of (fun _ nx => b_Reader_take_38 (fun z => absurd z q2) (fun _ => nx)) ?_
      refine po_of (fun _ nx => b_Reader_take_57 nx) ?_
      exact ⟨_, _, b_Reader_take_278, W⟩
  · have W := W.2 q1
    refine po_of (fun _ nx => b_Reader_take_0 (fun z => absurd z q1) (fun _ => nx)) ?_
    obtain ⟨g9, W⟩ := W
    by_cases q10 : (S.1 121 ((S.1 67 5).toNatClampNeg)) = 32
    · have W := W.1 q10
      refine po_of (fun _ nx => b_Reader_take_11 g9 (fun z => absurd q10 z) (fun _ => nx)) ?_
      refine po_of (fun _ nx => b_Reader_take_25 nx) ?_
      exact W
    · have W := W.2 q10
      refine po_of (fun _ nx => b_Reader_take_11 g9 (fun _ => nx) (fun z => absurd z q10)) ?_
      by_cases q11 : ((fm_wI S 67 6 (S.1 67 5)).1 67 5) < ((fm_wI S 67 6 (S.1 67 5)).1 67 0)
      · have W := W.1 q11
        refine po_of (fun _ nx => b_Reader_take_38 (fun _ => nx) (fun z => absurd q11 z)) ?_
        obtain ⟨g12, W⟩ := W
        refine po_of (fun _ nx => b_Reader_take_65 g12 (s_Reader_isLetter (x0 := ((fm_wI S 67 6 (S.1 67 5)).1 121 (((fm_wI S 67 6 (S.1 67 5)).1 67 5).toNatClampNeg))) (S := (fm_wI S 67 6 (S.1 67 5)))) nx) ?_
        by_cases q13 : (f_Reader_isLetter ((fm_wI S 67 6 (S.1 67 5)).1 121 (((fm_wI S 67 6 (S.1 67 5)).1 67 5).toNatClampNeg))) = 0
        · have W := W.1 q13
          refine po_of (fun _ nx => b_Reader_take_77 (fun _ => nx) (fun z => absurd q13 z)) ?_
          refine po_of (fun _ nx => b_Reader_take_124 g12 (s_Reader_isFigure (x0 := ((fm_wI S 67 6 (S.1 67 5)).1 121 (((fm_wI S 67 6 (S.1 67 5)).1 67 5).toNatClampNeg))) (S := (fm_wI S 67 6 (S.1 67 5)))) nx) ?_
          by_cases q14 : (f_Reader_isFigure ((fm_wI S 67 6 (S.1 67 5)).1 121 (((fm_wI S 67 6 (S.1 67 5)).1 67 5).toNatClampNeg))) = 0
          · have W := W.1 q14
            refine po_of (fun _ nx => b_Reader_take_136 (fun _ => nx) (fun z => absurd q14 z)) ?_
            obtain ⟨g15, W⟩ := W
            have J : ∀ v17 : Int32, v17 = (if ((fm_wI S 67 6 (S.1 67 5)).1 121 (((fm_wI S 67 6 (S.1 67 5)).1 67 5).toNatClampNeg)) = 59 then (3 : Int32) else (4 : Int32)) → am_Po vV (d + 1) k_Reader_take 265 [some (.ref 67)] [.int v17, .ref 67] (fm_wI S 67 6 (S.1 67 5)) Q := by
              intro v17 v17_
              have W := W v17 v17_
              refine po_of (fun _ nx => b_Reader_take_265 nx) ?_
              exact ⟨_, _, b_Reader_take_278, W⟩
            by_cases q16 : ((fm_wI S 67 6 (S.1 67 5)).1 121 (((fm_wI S 67 6 (S.1 67 5)).1 67 5).toNatClampNeg)) = 59
            · refine po_of (fun _ nx => b_Reader_take_245 g15 (fun z => absurd q16 z) (fun _ => nx)) ?_
              refine po_of (fun _ nx => b_Reader_take_260 nx) ?_
              exact J _ (by simp only [if_pos q16])
            · refine po_of (fun _ nx => b_Reader_take_245 g15 (fun _ => nx) (fun z => absurd z q16)) ?_
              refine po_of (fun _ nx => b_Reader_take_264 nx) ?_
              exact J _ (by simp only [if_neg q16])
          · have W := W.2 q14
            refine po_of (fun _ nx => b_Reader_take_136 (fun z => absurd z q14) (fun _ => nx)) ?_
            refine po_of (fun _ nx => b_Reader_take_139 nx) ?_
            exact W
        · have W := W.2 q13
          refine po_of (fun _ nx => b_Reader_take_77 (fun z => absurd z q13) (fun _ => nx)) ?_
          refine po_of (fun _ nx => b_Reader_take_80 nx) ?_
          exact W
      · have W := W.2 q11
        refine po_of (fun _ nx => b_Reader_take_38 (fun z => absurd z q11) (fun _ => nx)) ?_
        refine po_of (fun _ nx => b_Reader_take_57 nx) ?_
        exact ⟨_, _, b_Reader_take_278, W⟩
theorem e_Reader_take {d : Nat} {S : fm_S} {Q : Unit → fm_S → Prop}
    (W : ((S.1 67 0) ≤ (S.1 67 5) → (((fm_wI S 67 6 (S.1 67 5)).1 67 5) < ((fm_wI S 67 6 (S.1 67 5)).1 67 0) → (vp_in ((fm_wI S 67 6 (S.1 67 5)).1 67 5) 150) ∧ ((f_Reader_isLetter ((fm_wI S 67 6 (S.1 67 5)).1 121 (((fm_wI S 67 6 (S.1 67 5)).1 67 5).toNatClampNeg))) = 0 → ((f_Reader_isFigure ((fm_wI S 67 6 (S.1 67 5)).1 121 (((fm_wI S 67 6 (S.1 67 5)).1 67 5).toNatClampNeg))) = 0 → (vp_in ((fm_wI S 67 6 (S.1 67 5)).1 67 5) 150) ∧ ∀ v8 : Int32, v8 = (if ((fm_wI S 67 6 (S.1 67 5)).1 121 (((fm_wI S 67 6 (S.1 67 5)).1 67 5).toNatClampNeg)) = 59 then (3 : Int32) else (4 : Int32)) → (Q () (fm_wI (fm_wI (fm_wI S 67 6 (S.1 67 5)) 67 7 v8) 67 5 (((fm_wI (fm_wI S 67 6 (S.1 67 5)) 67 7 v8).1 67 5) + 1)))) ∧ (¬ (f_Reader_isFigure ((fm_wI S 67 6 (S.1 67 5)).1 121 (((fm_wI S 67 6 (S.1 67 5)).1 67 5).toNatClampNeg))) = 0 → am_Po vV (d + 1) k_Reader_take 144 [some (.ref 67)] [] (fm_wI (fm_wI S 67 6 (S.1 67 5)) 67 8 0) Q)) ∧ (¬ (f_Reader_isLetter ((fm_wI S 67 6 (S.1 67 5)).1 121 (((fm_wI S 67 6 (S.1 67 5)).1 67 5).toNatClampNeg))) = 0 → am_Po vV (d + 1) k_Reader_take 85 [some (.ref 67)] [] (fm_wI (fm_wI S 67 6 (S.1 67 5)) 67 7 1) Q)) ∧ (¬ ((fm_wI S 67 6 (S.1 67 5)).1 67 5) < ((fm_wI S 67 6 (S.1 67 5)).1 67 0) → Q () (fm_wI (fm_wI S 67 6 (S.1 67 5)) 67 7 0))) ∧ (¬ (S.1 67 0) ≤ (S.1 67 5) → (vp_in (S.1 67 5) 150) ∧ ((S.1 121 ((S.1 67 5).toNatClampNeg)) = 32 → am_Po vV (d + 1) k_Reader_take 0 [some (.ref 67)] [] (fm_wI S 67 5 ((S.1 67 5) + 1)) Q) ∧ (¬ (S.1 121 ((S.1 67 5).toNatClampNeg)) = 32 → (((fm_wI S 67 6 (S.1 67 5)).1 67 5) < ((fm_wI S 67 6 (S.1 67 5)).1 67 0) → (vp_in ((fm_wI S 67 6 (S.1 67 5)).1 67 5) 150) ∧ ((f_Reader_isLetter ((fm_wI S 67 6 (S.1 67 5)).1 121 (((fm_wI S 67 6 (S.1 67 5)).1 67 5).toNatClampNeg))) = 0 → ((f_Reader_isFigure ((fm_wI S 67 6 (S.1 67 5)).1 121 (((fm_wI S 67 6 (S.1 67 5)).1 67 5).toNatClampNeg))) = 0 → (vp_in ((fm_wI S 67 6 (S.1 67 5)).1 67 5) 150) ∧ ∀ v17 : Int32, v17 = (if ((fm_wI S 67 6 (S.1 67 5)).1 121 (((fm_wI S 67 6 (S.1 67 5)).1 67 5).toNatClampNeg)) = 59 then (3 : Int32) else (4 : Int32)) → (Q () (fm_wI (fm_wI (fm_wI S 67 6 (S.1 67 5)) 67 7 v17) 67 5 (((fm_wI (fm_wI S 67 6 (S.1 67 5)) 67 7 v17).1 67 5) + 1)))) ∧ (¬ (f_Reader_isFigure ((fm_wI S 67 6 (S.1 67 5)).1 121 (((fm_wI S 67 6 (S.1 67 5)).1 67 5).toNatClampNeg))) = 0 → am_Po vV (d + 1) k_Reader_take 144 [some (.ref 67)] [] (fm_wI (fm_wI S 67 6 (S.1 67 5)) 67 8 0) Q)) ∧ (¬ (f_Reader_isLetter ((fm_wI S 67 6 (S.1 67 5)).1 121 (((fm_wI S 67 6 (S.1 67 5)).1 67 5).toNatClampNeg))) = 0 → am_Po vV (d + 1) k_Reader_take 85 [some (.ref 67)] [] (fm_wI (fm_wI S 67 6 (S.1 67 5)) 67 7 1) Q)) ∧ (¬ ((fm_wI S 67 6 (S.1 67 5)).1 67 5) < ((fm_wI S 67 6 (S.1 67 5)).1 67 0) → Q () (fm_wI (fm_wI S 67 6 (S.1 67 5)) 67 7 0))))) :
    am_Ps vV (d + 1) k_Reader_take [.ref 67] S Q := ps_of (L := [some (.ref 67)]) rfl (Nat.le_of_ble_eq_true rfl) (Nat.le_of_ble_eq_true rfl) (p_Reader_take_0 W)
theorem p_Reader_take_85 {d : Nat} {S : fm_S} {Q : Unit → fm_S → Prop}
    (W : ((S.1 67 0) ≤ (S.1 67 5) → Q () S) ∧ (¬ (S.1 67 0) ≤ (S.1 67 5) → (vp_in (S.1 67 5) 150) ∧ ((f_Reader_isLetter (S.1 121 ((S.1 67 5).toNatClampNeg))) = 0 → Q () S) ∧ (¬ (f_Reader_isLetter (S.1 121 ((S.1 67 5).toNatClampNeg))) = 0 → am_Po vV (d + 1) k_Reader_take 85 [some (.ref 67)] [] (fm_wI S 67 5 ((S.1 67 5) + 1)) Q))) :
    am_Po vV (d + 1) k_Reader_take 85 [some (.ref 67)] [] S Q := by
  by_cases q1 : (S.1 67 0) ≤ (S.1 67 5)
  · have W := W.1 q1
    refine po_of (fun _ nx => b_Reader_take_85 (fun _ => nx) (fun z => absurd q1 z)) ?_
    exact ⟨_, _, b_Reader_take_278, W⟩
  · have W := W.2 q1
    refine po_of (fun _ nx => b_Reader_take_85 (fun z => absurd z q1) (fun _ => nx)) ?_
    obtain ⟨g2, W⟩ := W
    refine po_of (fun _ nx => b_Reader_take_96 g2 (s_Reader_isLetter (x0 := (S.1 121 ((S.1 67 5).toNatClampNeg))) (S := S)) nx) ?_
    by_cases q3 : (f_Reader_isLetter (S.1 121 ((S.1 67 5).toNatClampNeg))) = 0
    · have W := W.1 q3
      refine po_of (fun _ nx => b_Reader_take_108 (fun _ => nx) (fun z => absurd q3 z)) ?_
      exact ⟨_, _, b_Reader_take_278, W⟩
    · have W := W.2 q3
      refine po_of (fun _ nx => b_Reader_take_108 (fun z => absurd z q3) (fun _ => nx)) ?_
      refine po_of (fun _ nx => b_Reader_take_111 nx) ?_
      exact W
abbrev H_Reader_take_85 (d : Nat) (S : fm_S) (Q : Unit → fm_S → Prop) : Prop := am_Po vV (d + 1) k_Reader_take 85 [some (.ref 67)] [] S Q
theorem p_Reader_take_144 {d : Nat} {S : fm_S} {Q : Unit → fm_S → Prop}
    (W : ((S.1 67 0) ≤ (S.1 67 5) → ∀ v3 : Int32, v3 = (if ((S.1 67 5) - (S.1 67 6)) ≤ 2 then (2 : Int32) else (4 : Int32)) → (Q () (fm_wI S 67 7 v3))) ∧ (¬ (S.1 67 0) ≤ (S.1 67 5) → (vp_in (S.1 67 5) 150) ∧ ((f_Reader_isFigure (S.1 121 ((S.1 67 5).toNatClampNeg))) = 0 → ∀ v7 : Int32, v7 = (if ((S.1 67 5) - (S.1 67 6)) ≤ 2 then (2 : Int32) else (4 : Int32)) → (Q () (fm_wI S 67 7 v7))) ∧ (¬ (f_Reader_isFigure (S.1 121 ((S.1 67 5).toNatClampNeg))) = 0 → (2 ≤ ((S.1 67 5) - (S.1 67 6)) → am_Po vV (d + 1) k_Reader_take 144 [some (.ref 67)] [] (fm_wI S 67 5 ((S.1 67 5) + 1)) Q) ∧ (¬ 2 ≤ ((S.1 67 5) - (S.1 67 6)) → am_Po vV (d + 1) k_Reader_take 144 [some (.ref 67)] [] (fm_wI (fm_wI S 67 8 (((10 * (S.1 67 8)) + (S.1 121 ((S.1 67 5).toNatClampNeg))) - 48)) 67 5 (((fm_wI S 67 8 (((10 * (S.1 67 8)) + (S.1 121 ((S.1 67 5).toNatClampNeg))) - 48)).1 67 5) + 1)) Q)))) :
    am_Po vV (d + 1) k_Reader_take 144 [some (.ref 67)] [] S Q := by
  by_cases q1 : (S.1 67 0) ≤ (S.1 67 5)
  · have W := W.1 q1
    refine po_of (fun _ nx => b_Reader_take_144 (fun _ => nx) (fun z => absurd q1 z)) ?_
    have J : ∀ v3 : Int32, v3 = (if ((S.1 67 5) - (S.1 67 6)) ≤ 2 then (2 : Int32) else (4 : Int32)) → am_Po vV (d + 1) k_Reader_take 239 [some (.ref 67)] [.int v3, .ref 67] S Q := by
      intro v3 v3_
      have W := W v3 v3_
      refine po_of (fun _ nx => b_Reader_take_239 nx) ?_
      exact ⟨_, _, b_Reader_take_278, W⟩
    by_cases q2 : ((S.1 67 5) - (S.1 67 6)) ≤ 2
    · refine po_of (fun _ nx => b_Reader_take_220 (fun _ => nx) (fun z => absurd q2 z)) ?_
      refine po_of (fun _ nx => b_Reader_take_238 nx) ?_
      exact J _ (by simp only [if_pos q2])
    · refine po_of (fun _ nx => b_Reader_take_220 (fun z => absurd z q2) (fun _ => nx)) ?_
      refine po_of (fun _ nx => b_Reader_take_234 nx) ?_
      exact J _ (by simp only [if_neg q2])
  · have W := W.2 q1
    refine po_of (fun _ nx => b_Reader_take_144 (fun z => absurd z q1) (fun _ => nx)) ?_
    obtain ⟨g4, W⟩ := W
    refine po_of (fun _ nx => b_Reader_take_155 g4 (s_Reader_isFigure (x0 := (S.1 121 ((S.1 67 5).toNatClampNeg))) (S := S)) nx) ?_
    by_cases q5 : (f_Reader_isFigure (S.1 121 ((S.1 67 5).toNatClampNeg))) = 0
    · have W := W.1 q5
      refine po_of (fun _ nx => b_Reader_take_167 (fun _ => nx) (fun z => absurd q5 z)) ?_
      have J : ∀ v7 : Int32, v7 = (if ((S.1 67 5) - (S.1 67 6)) ≤ 2 then (2 : Int32) else (4 : Int32)) → am_Po vV (d + 1) k_Reader_take 239 [some (.ref 67)] [.int v7, .ref 67] S Q := by
        intro v7 v7_
        have W := W v7 v7_
        refine po_of (fun _ nx => b_Reader_take_239 nx) ?_
        exact ⟨_, _, b_Reader_take_278, W⟩
      by_cases q6 : ((S.1 67 5) - (S.1 67 6)) ≤ 2
      · refine po_of (fun _ nx => b_Reader_take_220 (fun _ => nx) (fun z => absurd q6 z)) ?_
        refine po_of (fun _ nx => b_Reader_take_238 nx) ?_
        exact J _ (by simp only [if_pos q6])
      · refine po_of (fun _ nx => b_Reader_take_220 (fun z => absurd z q6) (fun _ => nx)) ?_
        refine po_of (fun _ nx => b_Reader_take_234 nx) ?_
        exact J _ (by simp only [if_neg q6])
    · have W := W.2 q5
      refine po_of (fun _ nx => b_Reader_take_167 (fun z => absurd z q5) (fun _ => nx)) ?_
      by_cases q8 : 2 ≤ ((S.1 67 5) - (S.1 67 6))
      · have W := W.1 q8
        refine po_of (fun _ nx => b_Reader_take_170 (fun _ => nx) (fun z => absurd q8 z)) ?_
        refine po_of (fun _ nx => b_Reader_take_207 nx) ?_
        exact W
      · have W := W.2 q8
        refine po_of (fun _ nx => b_Reader_take_170 (fun z => absurd z q8) (fun _ => nx)) ?_
        refine po_of (fun _ nx => b_Reader_take_183 g4 nx) ?_
        refine po_of (fun _ nx => b_Reader_take_207 nx) ?_
        exact W
abbrev H_Reader_take_144 (d : Nat) (S : fm_S) (Q : Unit → fm_S → Prop) : Prop := am_Po vV (d + 1) k_Reader_take 144 [some (.ref 67)] [] S Q
theorem p_Reader_item_0 {d : Nat} {o1 : Option Value} {S : fm_S} {Q : Unit → fm_S → Prop}
    (W : ((S.1 67 7) = 1 → am_Ps vI (d + 3) k_Reader_word [.ref 67] S fun v3 S2 => (((f_Reader_mayStand S2 v3) = 0 → Q () (fm_wI S2 67 4 (S2.1 67 6))) ∧ (¬ (f_Reader_mayStand S2 v3) = 0 → (v3 = 2 → am_Ps vV (d + 3) k_Reader_streetItem [.ref 67] S2 fun _ S10 => (Q () (fm_wI S10 67 1 ((S10.1 67 1) + 1)))) ∧ (v3 = 3 → am_Ps vV (d + 3) k_Reader_laneItem [.ref 67] S2 fun _ S12 => (Q () (fm_wI S12 67 1 ((S12.1 67 1) + 1)))) ∧ (v3 = 4 → am_Ps vV (d + 3) k_Reader_gateItem [.ref 67] S2 fun _ S14 => (Q () (fm_wI S14 67 1 ((S14.1 67 1) + 1)))) ∧ (v3 = 5 → am_Ps vV (d + 3) k_Reader_windItem [.ref 67] S2 fun _ S16 => (Q () (fm_wI S16 67 1 ((S16.1 67 1) + 1)))) ∧ (v3 = 6 → am_Ps vV (d + 3) k_Reader_dishItem [.ref 67] S2 fun _ S18 => (Q () (fm_wI S18 67 1 ((S18.1 67 1) + 1)))) ∧ (¬ v3 = 2 → ¬ v3 = 3 → ¬ v3 = 4 → ¬ v3 = 5 → ¬ v3 = 6 → am_Ps vI (d + 3) k_Reader_endItem [.ref 67] S2 fun v21 S20 => (Q () (fm_wI S20 67 1 ((S20.1 67 1) + 1))))))) ∧ (¬ (S.1 67 7) = 1 → ((f_Reader_mayStand S 0) = 0 → Q () (fm_wI S 67 4 (S.1 67 6))) ∧ (¬ (f_Reader_mayStand S 0) = 0 → am_Ps vI (d + 3) k_Reader_endItem [.ref 67] S fun v31 S30 => (Q () (fm_wI S30 67 1 ((S30.1 67 1) + 1)))))) :
    am_Po vV (d + 4) k_Reader_item 0 [some (.ref 67), o1] [] S Q := by
  by_cases q1 : (S.1 67 7) = 1
  · have W := W.1 q1
    refine po_of (fun _ nx => b_Reader_item_0 (fun z => absurd q1 z) (fun _ => nx)) ?_
    obtain ⟨v3, S2, h23, W⟩ := W
    refine po_of (fun _ nx => b_Reader_item_8 h23 nx) ?_
    refine po_of (fun _ nx => b_Reader_item_12 nx) ?_
    refine po_of (fun _ nx => b_Reader_item_16 (s_Reader_mayStand (x1 := v3) (S := S2)) nx) ?_
    by_cases q4 : (f_Reader_mayStand S2 v3) = 0
    · have W := W.1 q4
      refine po_of (fun _ nx => b_Reader_item_22 (fun z => absurd q4 z) (fun _ => nx)) ?_
      exact ⟨_, _, b_Reader_item_25, W⟩
    · have W := W.2 q4
      refine po_of (fun _ nx => b_Reader_item_22 (fun _ => nx) (fun z => absurd z q4)) ?_
      by_cases q5 : v3 = 2
      · have W := W.1 q5
        refine po_of (fun _ nx => b_Reader_item_34 (fun _ => nx) (fun z => absurd (q5.symm.trans z) (by decide)) (fun z => absurd (q5.symm.trans z) (by decide)) (fun z => absurd (q5.symm.trans z) (by decide)) (fun z => absurd (q5.symm.trans z) (by decide)) (fun z2 z3 z4 z5 z6 => absurd q5 z2)) ?_
        obtain ⟨_, S10, h11, W⟩ := W
        refine po_of (fun _ nx => b_Reader_item_68 h11 nx) ?_
        refine po_of (fun _ nx => b_Reader_item_72 nx) ?_
        exact ⟨_, _, b_Reader_item_108, W⟩
      by_cases q6 : v3 = 3
      · have W := W.2.1 q6
        refine po_of (fun _ nx => b_Reader_item_34 (fun z => absurd (q6.symm.trans z) (by decide)) (fun _ => nx) (fun z => absurd (q6.symm.trans z) (by decide)) (fun z => absurd (q6.symm.trans z) (by decide)) (fun z => absurd (q6.symm.trans z) (by decide)) (fun z2 z3 z4 z5 z6 => absurd q6 z3)) ?_
        obtain ⟨_, S12, h13, W⟩ := W
        refine po_of (fun _ nx => b_Reader_item_75 h13 nx) ?_
        refine po_of (fun _ nx => b_Reader_item_79 nx) ?_
        exact ⟨_, _, b_Reader_item_108, W⟩
      by_cases q7 : v3 = 4
      · have W := W.2.2.1 q7
        refine po_of (fun _ nx => b_Reader_item_34 (fun z => absurd (q7.symm.trans z) (by decide)) (fun z => absurd (q7.symm.trans z) (by decide)) (fun _ => nx) (fun z => absurd (q7.symm.trans z) (by decide)) (fun z => absurd (q7.symm.trans z) (by decide)) (fun z2 z3 z4 z5 z6 => absurd q7 z4)) ?_
        obtain ⟨_, S14, h15, W⟩ := W
        refine po_of (fun _ nx => b_Reader_item_82 h15 nx) ?_
        refine po_of (fun _ nx => b_Reader_item_86 nx) ?_
        exact ⟨_, _, b_Reader_item_108, W⟩
      by_cases q8 : v3 = 5
      · have W := W.2.2.2.1 q8
        refine po_of (fun _ nx => b_Reader_item_34 (fun z => absurd (q8.symm.trans z) (by decide)) (fun z => absurd (q8.symm.trans z) (by decide)) (fun z => absurd (q8.symm.trans z) (by decide)) (fun _ => nx) (fun z => absurd (q8.symm.trans z) (by decide)) (fun z2 z3 z4 z5 z6 => absurd q8 z5)) ?_
        obtain ⟨_, S16, h17, W⟩ := W
        refine po_of (fun _ nx => b_Reader_item_89 h17 nx) ?_
        refine po_of (fun _ nx => b_Reader_item_93 nx) ?_
        exact ⟨_, _, b_Reader_item_108, W⟩
      by_cases q9 : v3 = 6
      · have W := W.2.2.2.2.1 q9
        refine po_of (fun _ nx => b_Reader_item_34 (fun z => absurd (q9.symm.trans z) (by decide)) (fun z => absurd (q9.symm.trans z) (by decide)) (fun z => absurd (q9.symm.trans z) (by decide)) (fun z => absurd (q9.symm.trans z) (by decide)) (fun _ => nx) (fun z2 z3 z4 z5 z6 => absurd q9 z6)) ?_
        obtain ⟨_, S18, h19, W⟩ := W
        refine po_of (fun _ nx => b_Reader_item_96 h19 nx) ?_
        refine po_of (fun _ nx => b_Reader_item_100 nx) ?_
        exact ⟨_, _, b_Reader_item_108, W⟩
      have W := W.2.2.2.2.2 q5 q6 q7 q8 q9
      refine po_of (fun _ nx => b_Reader_item_34 (fun z => absurd z q5) (fun z => absurd z q6) (fun z => absurd z q7) (fun z => absurd z q8) (fun z => absurd z q9) (fun _ _ _ _ _ => nx)) ?_
      obtain ⟨v21, S20, h22, W⟩ := W
      refine po_of (fun _ nx => b_Reader_item_103 h22 nx) ?_
      refine po_of (fun _ nx => b_Reader_item_107 nx) ?_
      exact ⟨_, _, b_Reader_item_108, W⟩
  · have W := W.2 q1
    refine po_of (fun _ nx => b_Reader_item_0 (fun _ => nx) (fun z => absurd z q1)) ?_
    refine po_of (fun _ nx => b_Reader_item_15 nx) ?_
    refine po_of (fun _ nx => b_Reader_item_16 (s_Reader_mayStand (x1 := 0) (S := S)) nx) ?_
    by_cases q24 : (f_Reader_mayStand S 0) = 0
    · have W := W.1 q24
      refine po_of (fun _ nx => b_Reader_item_22 (fun z => absurd q24 z) (fun _ => nx)) ?_
      exact ⟨_, _, b_Reader_item_25, W⟩
    · have W := W.2 q24
      refine po_of (fun _ nx => b_Reader_item_22 (fun _ => nx) (fun z => absurd z q24)) ?_
      refine po_of (fun _ nx => b_Reader_item_34 (fun z => absurd z (by decide)) (fun z => absurd z (by decide)) (fun z => absurd z (by decide)) (fun z => absurd z (by decide)) (fun z => absurd z (by decide)) (fun _ _ _ _ _ => nx)) ?_
      obtain ⟨v31, S30, h32, W⟩ := W
      refine po_of (fun _ nx => b_Reader_item_103 h32 nx) ?_
      refine po_of (fun _ nx => b_Reader_item_107 nx) ?_
      exact ⟨_, _, b_Reader_item_108, W⟩
theorem e_Reader_item {d : Nat} {S : fm_S} {Q : Unit → fm_S → Prop}
    (W : ((S.1 67 7) = 1 → am_Ps vI (d + 3) k_Reader_word [.ref 67] S fun v3 S2 => (((f_Reader_mayStand S2 v3) = 0 → Q () (fm_wI S2 67 4 (S2.1 67 6))) ∧ (¬ (f_Reader_mayStand S2 v3) = 0 → (v3 = 2 → am_Ps vV (d + 3) k_Reader_streetItem [.ref 67] S2 fun _ S10 => (Q () (fm_wI S10 67 1 ((S10.1 67 1) + 1)))) ∧ (v3 = 3 → am_Ps vV (d + 3) k_Reader_laneItem [.ref 67] S2 fun _ S12 => (Q () (fm_wI S12 67 1 ((S12.1 67 1) + 1)))) ∧ (v3 = 4 → am_Ps vV (d + 3) k_Reader_gateItem [.ref 67] S2 fun _ S14 => (Q () (fm_wI S14 67 1 ((S14.1 67 1) + 1)))) ∧ (v3 = 5 → am_Ps vV (d + 3) k_Reader_windItem [.ref 67] S2 fun _ S16 => (Q () (fm_wI S16 67 1 ((S16.1 67 1) + 1)))) ∧ (v3 = 6 → am_Ps vV (d + 3) k_Reader_dishItem [.ref 67] S2 fun _ S18 => (Q () (fm_wI S18 67 1 ((S18.1 67 1) + 1)))) ∧ (¬ v3 = 2 → ¬ v3 = 3 → ¬ v3 = 4 → ¬ v3 = 5 → ¬ v3 = 6 → am_Ps vI (d + 3) k_Reader_endItem [.ref 67] S2 fun v21 S20 => (Q () (fm_wI S20 67 1 ((S20.1 67 1) + 1))))))) ∧ (¬ (S.1 67 7) = 1 → ((f_Reader_mayStand S 0) = 0 → Q () (fm_wI S 67 4 (S.1 67 6))) ∧ (¬ (f_Reader_mayStand S 0) = 0 → am_Ps vI (d + 3) k_Reader_endItem [.ref 67] S fun v31 S30 => (Q () (fm_wI S30 67 1 ((S30.1 67 1) + 1)))))) :
    am_Ps vV (d + 4) k_Reader_item [.ref 67] S Q := ps_of (L := [some (.ref 67), none]) rfl (Nat.le_of_ble_eq_true rfl) (Nat.le_of_ble_eq_true rfl) (p_Reader_item_0 W)
theorem p_Reader_word_0 {d : Nat} {S : fm_S} {Q : Int32 → fm_S → Prop}
    (W : am_Ps vI d k_Reader_spells [.ref 67, .retAddr 0] S fun v2 S1 => ((v2 = 0 → am_Ps vI d k_Reader_spells [.ref 67, .retAddr 1] S1 fun v5 S4 => ((v5 = 0 → am_Ps vI d k_Reader_spells [.ref 67, .retAddr 2] S4 fun v8 S7 => ((v8 = 0 → am_Ps vI d k_Reader_spells [.ref 67, .retAddr 3] S7 fun v11 S10 => ((v11 = 0 → am_Ps vI d k_Reader_spells [.ref 67, .retAddr 4] S10 fun v14 S13 => ((v14 = 0 → am_Ps vI d k_Reader_spells [.ref 67, .retAddr 5] S13 fun v17 S16 => (∀ v19 : Int32, v19 = (if v17 = 0 then (0 : Int32) else (6 : Int32)) → (Q v19 S16))) ∧ (¬ v14 = 0 → Q 5 S13))) ∧ (¬ v11 = 0 → Q 4 S10))) ∧ (¬ v8 = 0 → Q 3 S7))) ∧ (¬ v5 = 0 → Q 2 S4))) ∧ (¬ v2 = 0 → Q 1 S1))) :
    am_Po vI (d + 1) k_Reader_word 0 [some (.ref 67)] [] S Q := by
  obtain ⟨v2, S1, h25, W⟩ := W
  refine po_of (fun _ nx => b_Reader_word_0 h25 nx) ?_
  by_cases q3 : v2 = 0
  · have W := W.1 q3
    refine po_of (fun _ nx => b_Reader_word_6 (fun _ => nx) (fun z => absurd q3 z)) ?_
    obtain ⟨v5, S4, h24, W⟩ := W
    refine po_of (fun _ nx => b_Reader_word_11 h24 nx) ?_
    by_cases q6 : v5 = 0
    · have W := W.1 q6
      refine po_of (fun _ nx => b_Reader_word_17 (fun _ => nx) (fun z => absurd q6 z)) ?_
      obtain ⟨v8, S7, h23, W⟩ := W
      refine po_of (fun _ nx => b_Reader_word_22 h23 nx) ?_
      by_cases q9 : v8 = 0
      · have W := W.1 q9
        refine po_of (fun _ nx => b_Reader_word_28 (fun _ => nx) (fun z => absurd q9 z)) ?_
        obtain ⟨v11, S10, h22, W⟩ := W
        refine po_of (fun _ nx => b_Reader_word_33 h22 nx) ?_
        by_cases q12 : v11 = 0
        · have W := W.1 q12
          refine po_of (fun _ nx => b_Reader_word_39 (fun _ => nx) (fun z => absurd q12 z)) ?_
          obtain ⟨v14, S13, h21, W⟩ := W
          refine po_of (fun _ nx => b_Reader_word_44 h21 nx) ?_
          by_cases q15 : v14 = 0
          · have W := W.1 q15
            refine po_of (fun _ nx => b_Reader_word_50 (fun _ => nx) (fun z => absurd q15 z)) ?_
            obtain ⟨v17, S16, h20, W⟩ := W
            refine po_of (fun _ nx => b_Reader_word_55 h20 nx) ?_
            have J : ∀ v19 : Int32, v19 = (if v17 = 0 then (0 : Int32) else (6 : Int32)) → am_Po vI (d + 1) k_Reader_word 70 [some (.ref 67)] [.int v19] S16 Q := by
              intro v19 v19_
              have W := W v19 v19_
              exact ⟨_, _, b_Reader_word_70, W⟩
            by_cases q18 : v17 = 0
            · refine po_of (fun _ nx => b_Reader_word_61 (fun _ => nx) (fun z => absurd q18 z)) ?_
              refine po_of (fun _ nx => b_Reader_word_69 nx) ?_
              exact J _ (by simp only [if_pos q18])
            · refine po_of (fun _ nx => b_Reader_word_61 (fun z => absurd z q18) (fun _ => nx)) ?_
              refine po_of (fun _ nx => b_Reader_word_64 nx) ?_
              exact J _ (by simp only [if_neg q18])
          · have W := W.2 q15
            refine po_of (fun _ nx => b_Reader_word_50 (fun z => absurd z q15) (fun _ => nx)) ?_
            exact ⟨_, _, b_Reader_word_53, W⟩
        · have W := W.2 q12
          refine po_of (fun _ nx => b_Reader_word_39 (fun z => absurd z q12) (fun _ => nx)) ?_
          exact ⟨_, _, b_Reader_word_42, W⟩
      · have W := W.2 q9
        refine po_of (fun _ nx => b_Reader_word_28 (fun z => absurd z q9) (fun _ => nx)) ?_
        exact ⟨_, _, b_Reader_word_31, W⟩
    · have W := W.2 q6
      refine po_of (fun _ nx => b_Reader_word_17 (fun z => absurd z q6) (fun _ => nx)) ?_
      exact ⟨_, _, b_Reader_word_20, W⟩
  · have W := W.2 q3
    refine po_of (fun _ nx => b_Reader_word_6 (fun z => absurd z q3) (fun _ => nx)) ?_
    exact ⟨_, _, b_Reader_word_9, W⟩
theorem e_Reader_word {d : Nat} {S : fm_S} {Q : Int32 → fm_S → Prop}
    (W : am_Ps vI d k_Reader_spells [.ref 67, .retAddr 0] S fun v2 S1 => ((v2 = 0 → am_Ps vI d k_Reader_spells [.ref 67, .retAddr 1] S1 fun v5 S4 => ((v5 = 0 → am_Ps vI d k_Reader_spells [.ref 67, .retAddr 2] S4 fun v8 S7 => ((v8 = 0 → am_Ps vI d k_Reader_spells [.ref 67, .retAddr 3] S7 fun v11 S10 => ((v11 = 0 → am_Ps vI d k_Reader_spells [.ref 67, .retAddr 4] S10 fun v14 S13 => ((v14 = 0 → am_Ps vI d k_Reader_spells [.ref 67, .retAddr 5] S13 fun v17 S16 => (∀ v19 : Int32, v19 = (if v17 = 0 then (0 : Int32) else (6 : Int32)) → (Q v19 S16))) ∧ (¬ v14 = 0 → Q 5 S13))) ∧ (¬ v11 = 0 → Q 4 S10))) ∧ (¬ v8 = 0 → Q 3 S7))) ∧ (¬ v5 = 0 → Q 2 S4))) ∧ (¬ v2 = 0 → Q 1 S1))) :
    am_Ps vI (d + 1) k_Reader_word [.ref 67] S Q := ps_of (L := [some (.ref 67)]) rfl (Nat.le_of_ble_eq_true rfl) (Nat.le_of_ble_eq_true rfl) (p_Reader_word_0 W)
theorem p_Reader_streetItem_0 {d : Nat} {o1 : Option Value} {o2 : Option Value} {o3 : Option Value} {S : fm_S} {Q : Unit → fm_S → Prop}
    (W : am_Ps vI (d + 2) k_Reader_number [.ref 67, .int 0, .int 5] S fun v2 S1 => (am_Ps vI (d + 2) k_Reader_number [.ref 67, .int 0, .int 9] S1 fun v4 S3 => (am_Ps vI (d + 2) k_Reader_number [.ref 67, .int 0, .int 5] S3 fun v6 S5 => (am_Ps vI (d + 2) k_Reader_endItem [.ref 67] S5 fun v8 S7 => ((v8 = 0 → Q () S7) ∧ (¬ v8 = 0 → ((S7.1 68 0) < 8 → vp_in (S7.1 68 0) 8) ∧ Q () (g_Town_addStreet S7 68 v2 v4 v6))))))) :
    am_Po vV (d + 3) k_Reader_streetItem 0 [some (.ref 67), o1, o2, o3] [] S Q := by
  obtain ⟨v2, S1, h14, W⟩ := W
  refine po_of (fun _ nx => b_Reader_streetItem_0 h14 nx) ?_
  obtain ⟨v4, S3, h13, W⟩ := W
  refine po_of (fun _ nx => b_Reader_streetItem_6 h13 nx) ?_
  obtain ⟨v6, S5, h12, W⟩ := W
  refine po_of (fun _ nx => b_Reader_streetItem_14 h12 nx) ?_
  obtain ⟨v8, S7, h11, W⟩ := W
  refine po_of (fun _ nx => b_Reader_streetItem_21 h11 nx) ?_
  by_cases q9 : v8 = 0
  · have W := W.1 q9
    refine po_of (fun _ nx => b_Reader_streetItem_26 (fun _ => nx) (fun z => absurd q9 z)) ?_
    exact ⟨_, _, b_Reader_streetItem_40, W⟩
  · have W := W.2 q9
    refine po_of (fun _ nx => b_Reader_streetItem_26 (fun z => absurd z q9) (fun _ => nx)) ?_
    obtain ⟨g10, W⟩ := W
    refine po_of (fun _ nx => b_Reader_streetItem_29 (s_Town_addStreet (a0 := 68) (x1 := v2) (x2 := v4) (x3 := v6) (S := S7) (by decide +kernel) g10) nx) ?_
    refine po_of (fun _ nx => b_Reader_streetItem_39 nx) ?_
    exact ⟨_, _, b_Reader_streetItem_40, W⟩
theorem e_Reader_streetItem {d : Nat} {S : fm_S} {Q : Unit → fm_S → Prop}
    (W : am_Ps vI (d + 2) k_Reader_number [.ref 67, .int 0, .int 5] S fun v2 S1 => (am_Ps vI (d + 2) k_Reader_number [.ref 67, .int 0, .int 9] S1 fun v4 S3 => (am_Ps vI (d + 2) k_Reader_number [.ref 67, .int 0, .int 5] S3 fun v6 S5 => (am_Ps vI (d + 2) k_Reader_endItem [.ref 67] S5 fun v8 S7 => ((v8 = 0 → Q () S7) ∧ (¬ v8 = 0 → ((S7.1 68 0) < 8 → vp_in (S7.1 68 0) 8) ∧ Q () (g_Town_addStreet S7 68 v2 v4 v6))))))) :
    am_Ps vV (d + 3) k_Reader_streetItem [.ref 67] S Q := ps_of (L := [some (.ref 67), none, none, none]) rfl (Nat.le_of_ble_eq_true rfl) (Nat.le_of_ble_eq_true rfl) (p_Reader_streetItem_0 W)
theorem p_Reader_number_0 {d : Nat} {x1 : Int32} {x2 : Int32} {S : fm_S} {Q : Int32 → fm_S → Prop}
    (W : ((S.1 67 4) = (-1) → am_Ps vV (d + 1) k_Reader_take [.ref 67] S fun _ S2 => (((S2.1 67 7) = 2 → ((f_X_within (S2.1 67 8) x1 x2) = 0 → Q ((fm_wI S2 67 4 (S2.1 67 6)).1 67 8) (fm_wI S2 67 4 (S2.1 67 6))) ∧ (¬ (f_X_within (S2.1 67 8) x1 x2) = 0 → Q (S2.1 67 8) S2)) ∧ (¬ (S2.1 67 7) = 2 → Q ((fm_wI S2 67 4 (S2.1 67 6)).1 67 8) (fm_wI S2 67 4 (S2.1 67 6))))) ∧ (¬ (S.1 67 4) = (-1) → Q (S.1 67 8) S)) :
    am_Po vI (d + 2) k_Reader_number 0 [some (.ref 67), some (.int x1), some (.int x2)] [] S Q := by
  by_cases q1 : (S.1 67 4) = (-1)
  · have W := W.1 q1
    refine po_of (fun _ nx => b_Reader_number_0 (fun z => absurd q1 z) (fun _ => nx)) ?_
    obtain ⟨_, S2, h5, W⟩ := W
    refine po_of (fun _ nx => b_Reader_number_8 h5 nx) ?_
    by_cases q3 : (S2.1 67 7) = 2
    · have W := W.1 q3
      refine po_of (fun _ nx => b_Reader_number_12 (fun z => absurd q3 z) (fun _ => nx)) ?_
      refine po_of (fun _ nx => b_Reader_number_20 (s_X_within (x0 := (S2.1 67 8)) (x1 := x1) (x2 := x2) (S := S2)) nx) ?_
      by_cases q4 : (f_X_within (S2.1 67 8) x1 x2) = 0
      · have W := W.1 q4
        refine po_of (fun _ nx => b_Reader_number_29 (fun z => absurd q4 z) (fun _ => nx)) ?_
        refine po_of (fun _ nx => b_Reader_number_32 nx) ?_
        exact ⟨_, _, b_Reader_number_40, W⟩
      · have W := W.2 q4
        refine po_of (fun _ nx => b_Reader_number_29 (fun _ => nx) (fun z => absurd z q4)) ?_
        exact ⟨_, _, b_Reader_number_40, W⟩
    · have W := W.2 q3
      refine po_of (fun _ nx => b_Reader_number_12 (fun _ => nx) (fun z => absurd z q3)) ?_
      refine po_of (fun _ nx => b_Reader_number_32 nx) ?_
      exact ⟨_, _, b_Reader_number_40, W⟩
  · have W := W.2 q1
    refine po_of (fun _ nx => b_Reader_number_0 (fun _ => nx) (fun z => absurd z q1)) ?_
    exact ⟨_, _, b_Reader_number_40, W⟩
theorem e_Reader_number {d : Nat} {x1 : Int32} {x2 : Int32} {S : fm_S} {Q : Int32 → fm_S → Prop}
    (W : ((S.1 67 4) = (-1) → am_Ps vV (d + 1) k_Reader_take [.ref 67] S fun _ S2 => (((S2.1 67 7) = 2 → ((f_X_within (S2.1 67 8) x1 x2) = 0 → Q ((fm_wI S2 67 4 (S2.1 67 6)).1 67 8) (fm_wI S2 67 4 (S2.1 67 6))) ∧ (¬ (f_X_within (S2.1 67 8) x1 x2) = 0 → Q (S2.1 67 8) S2)) ∧ (¬ (S2.1 67 7) = 2 → Q ((fm_wI S2 67 4 (S2.1 67 6)).1 67 8) (fm_wI S2 67 4 (S2.1 67 6))))) ∧ (¬ (S.1 67 4) = (-1) → Q (S.1 67 8) S)) :
    am_Ps vI (d + 2) k_Reader_number [.ref 67, .int x1, .int x2] S Q := ps_of (L := [some (.ref 67), some (.int x1), some (.int x2)]) rfl (Nat.le_of_ble_eq_true rfl) (Nat.le_of_ble_eq_true rfl) (p_Reader_number_0 W)
theorem p_Reader_endItem_0 {d : Nat} {S : fm_S} {Q : Int32 → fm_S → Prop}
    (W : ((S.1 67 4) = (-1) → am_Ps vV (d + 1) k_Reader_take [.ref 67] S fun _ S2 => (((S2.1 67 7) = 3 → ∀ v5 : Int32, v5 = (if (S2.1 67 4) = (-1) then (1 : Int32) else (0 : Int32)) → ((v5 = 0 ∨ v5 = 1) ∧ Q v5 S2)) ∧ (¬ (S2.1 67 7) = 3 → ∀ v8 : Int32, v8 = (if ((fm_wI S2 67 4 (S2.1 67 6)).1 67 4) = (-1) then (1 : Int32) else (0 : Int32)) → ((v8 = 0 ∨ v8 = 1) ∧ Q v8 (fm_wI S2 67 4 (S2.1 67 6)))))) ∧ (¬ (S.1 67 4) = (-1) → Q 0 S)) :
    am_Po vI (d + 2) k_Reader_endItem 0 [some (.ref 67)] [] S Q := by
  by_cases q1 : (S.1 67 4) = (-1)
  · have W := W.1 q1
    refine po_of (fun _ nx => b_Reader_endItem_0 (fun z => absurd q1 z) (fun _ => nx)) ?_
    obtain ⟨_, S2, h10, W⟩ := W
    refine po_of (fun _ nx => b_Reader_endItem_8 h10 nx) ?_
    by_cases q3 : (S2.1 67 7) = 3
    · have W := W.1 q3
      refine po_of (fun _ nx => b_Reader_endItem_12 (fun _ => nx) (fun z => absurd q3 z)) ?_
      have J : ∀ v5 : Int32, v5 = (if (S2.1 67 4) = (-1) then (1 : Int32) else (0 : Int32)) → am_Po vI (d + 2) k_Reader_endItem 41 [some (.ref 67)] [.int v5] S2 Q := by
        intro v5 v5_
        have W := W v5 v5_
        obtain ⟨g6, W⟩ := W
        exact ⟨_, _, b_Reader_endItem_41 g6, W⟩
      by_cases q4 : (S2.1 67 4) = (-1)
      · refine po_of (fun _ nx => b_Reader_endItem_28 (fun z => absurd q4 z) (fun _ => nx)) ?_
        refine po_of (fun _ nx => b_Reader_endItem_36 nx) ?_
        exact J _ (by simp only [if_pos q4])
      · refine po_of (fun _ nx => b_Reader_endItem_28 (fun _ => nx) (fun z => absurd z q4)) ?_
        refine po_of (fun _ nx => b_Reader_endItem_40 nx) ?_
        exact J _ (by simp only [if_neg q4])
    · have W := W.2 q3
      refine po_of (fun _ nx => b_Reader_endItem_12 (fun z => absurd z q3) (fun _ => nx)) ?_
      refine po_of (fun _ nx => b_Reader_endItem_20 nx) ?_
      have J : ∀ v8 : Int32, v8 = (if ((fm_wI S2 67 4 (S2.1 67 6)).1 67 4) = (-1) then (1 : Int32) else (0 : Int32)) → am_Po vI (d + 2) k_Reader_endItem 41 [some (.ref 67)] [.int v8] (fm_wI S2 67 4 (S2.1 67 6)) Q := by
        intro v8 v8_
        have W := W v8 v8_
        obtain ⟨g9, W⟩ := W
        exact ⟨_, _, b_Reader_endItem_41 g9, W⟩
      by_cases q7 : ((fm_wI S2 67 4 (S2.1 67 6)).1 67 4) = (-1)
      · refine po_of (fun _ nx => b_Reader_endItem_28 (fun z => absurd q7 z) (fun _ => nx)) ?_
        refine po_of (fun _ nx => b_Reader_endItem_36 nx) ?_
        exact J _ (by simp only [if_pos q7])
      · refine po_of (fun _ nx => b_Reader_endItem_28 (fun _ => nx) (fun z => absurd z q7)) ?_
        refine po_of (fun _ nx => b_Reader_endItem_40 nx) ?_
        exact J _ (by simp only [if_neg q7])
  · have W := W.2 q1
    refine po_of (fun _ nx => b_Reader_endItem_0 (fun _ => nx) (fun z => absurd z q1)) ?_
    refine po_of (fun _ nx => b_Reader_endItem_28 (fun _ => nx) (fun z => absurd z q1)) ?_
    refine po_of (fun _ nx => b_Reader_endItem_40 nx) ?_
    exact ⟨_, _, b_Reader_endItem_41 (by decide), W⟩
theorem e_Reader_endItem {d : Nat} {S : fm_S} {Q : Int32 → fm_S → Prop}
    (W : ((S.1 67 4) = (-1) → am_Ps vV (d + 1) k_Reader_take [.ref 67] S fun _ S2 => (((S2.1 67 7) = 3 → ∀ v5 : Int32, v5 = (if (S2.1 67 4) = (-1) then (1 : Int32) else (0 : Int32)) → ((v5 = 0 ∨ v5 = 1) ∧ Q v5 S2)) ∧ (¬ (S2.1 67 7) = 3 → ∀ v8 : Int32, v8 = (if ((fm_wI S2 67 4 (S2.1 67 6)).1 67 4) = (-1) then (1 : Int32) else (0 : Int32)) → ((v8 = 0 ∨ v8 = 1) ∧ Q v8 (fm_wI S2 67 4 (S2.1 67 6)))))) ∧ (¬ (S.1 67 4) = (-1) → Q 0 S)) :
    am_Ps vI (d + 2) k_Reader_endItem [.ref 67] S Q := ps_of (L := [some (.ref 67)]) rfl (Nat.le_of_ble_eq_true rfl) (Nat.le_of_ble_eq_true rfl) (p_Reader_endItem_0 W)
theorem p_Reader_laneItem_0 {d : Nat} {o1 : Option Value} {o2 : Option Value} {S : fm_S} {Q : Unit → fm_S → Prop}
    (W : am_Ps vI (d + 2) k_Reader_number [.ref 67, .int 0, .int ((S.1 68 0) - 1)] S fun v2 S1 => (am_Ps vI (d + 2) k_Reader_number [.ref 67, .int 0, .int ((S1.1 68 0) - 1)] S1 fun v4 S3 => (((S3.1 67 4) = (-1) → (v2 = v4 → am_Ps vI (d + 2) k_Reader_endItem [.ref 67] (fm_wI S3 67 4 (S3.1 67 6)) fun v8 S7 => ((v8 = 0 → Q () S7) ∧ (¬ v8 = 0 → (vp_in v2 8) ∧ (vp_in v4 8) ∧ Q () (g_Town_addLane S7 68 v2 v4)))) ∧ (¬ v2 = v4 → am_Ps vI (d + 2) k_Reader_endItem [.ref 67] S3 fun v14 S13 => ((v14 = 0 → Q () S13) ∧ (¬ v14 = 0 → (vp_in v2 8) ∧ (vp_in v4 8) ∧ Q () (g_Town_addLane S13 68 v2 v4))))) ∧ (¬ (S3.1 67 4) = (-1) → am_Ps vI (d + 2) k_Reader_endItem [.ref 67] S3 fun v20 S19 => ((v20 = 0 → Q () S19) ∧ (¬ v20 = 0 → (vp_in v2 8) ∧ (vp_in v4 8) ∧ Q () (g_Town_addLane S19 68 v2 v4))))))) :
    am_Po vV (d + 3) k_Reader_laneItem 0 [some (.ref 67), o1, o2] [] S Q := by
  obtain ⟨v2, S1, h26, W⟩ := W
  refine po_of (fun _ nx => b_Reader_laneItem_0 h26 nx) ?_
  obtain ⟨v4, S3, h25, W⟩ := W
  refine po_of (fun _ nx => b_Reader_laneItem_14 h25 nx) ?_
  by_cases q5 : (S3.1 67 4) = (-1)
  · have W := W.1 q5
    refine po_of (fun _ nx => b_Reader_laneItem_29 (fun z => absurd q5 z) (fun _ => nx)) ?_
    by_cases q6 : v2 = v4
    · have W := W.1 q6
      refine po_of (fun _ nx => b_Reader_laneItem_38 (fun z => absurd q6 z) (fun _ => nx)) ?_
      refine po_of (fun _ nx => b_Reader_laneItem_43 nx) ?_
      obtain ⟨v8, S7, h12, W⟩ := W
      refine po_of (fun _ nx => b_Reader_laneItem_51 h12 nx) ?_
      by_cases q9 : v8 = 0
      · have W := W.1 q9
        refine po_of (fun _ nx => b_Reader_laneItem_55 (fun _ => nx) (fun z => absurd q9 z)) ?_
        exact ⟨_, _, b_Reader_laneItem_67, W⟩
      · have W := W.2 q9
        refine po_of (fun _ nx => b_Reader_laneItem_55 (fun z => absurd z q9) (fun _ => nx)) ?_
        obtain ⟨g10, W⟩ := W
        obtain ⟨g11, W⟩ := W
        refine po_of (fun _ nx => b_Reader_laneItem_58 (s_Town_addLane (a0 := 68) (x1 := v2) (x2 := v4) (S := S7) (by decide +kernel) g10 g11) nx) ?_
        exact ⟨_, _, b_Reader_laneItem_67, W⟩
    · have W := W.2 q6
      refine po_of (fun _ nx => b_Reader_laneItem_38 (fun _ => nx) (fun z => absurd z q6)) ?_
      obtain ⟨v14, S13, h18, W⟩ := W
      refine po_of (fun _ nx => b_Reader_laneItem_51 h18 nx) ?_
      by_cases q15 : v14 = 0
      · have W := W.1 q15
        refine po_of (fun _ nx => b_Reader_laneItem_55 (fun _ => nx) (fun z => absurd q15 z)) ?_
        exact ⟨_, _, b_Reader_laneItem_67, W⟩
      · have W := W.2 q15
        refine po_of (fun _ nx => b_Reader_laneItem_55 (fun z => absurd z q15) (fun _ => nx)) ?_
        obtain ⟨g16, W⟩ := W
        obtain ⟨g17, W⟩ := W
        refine po_of (fun _ nx => b_Reader_laneItem_58 (s_Town_addLane (a0 := 68) (x1 := v2) (x2 := v4) (S := S13) (by decide +kernel) g16 g17) nx) ?_
        exact ⟨_, _, b_Reader_laneItem_67, W⟩
  · have W := W.2 q5
    refine po_of (fun _ nx => b_Reader_laneItem_29 (fun _ => nx) (fun z => absurd z q5)) ?_
    obtain ⟨v20, S19, h24, W⟩ := W
    refine po_of (fun _ nx => b_Reader_laneItem_51 h24 nx) ?_
    by_cases q21 : v20 = 0
    · have W := W.1 q21
      refine po_of (fun _ nx => b_Reader_laneItem_55 (fun _ => nx) (fun z => absurd q21 z)) ?_
      exact ⟨_, _, b_Reader_laneItem_67, W⟩
    · have W := W.2 q21
      refine po_of (fun _ nx => b_Reader_laneItem_55 (fun z => absurd z q21) (fun _ => nx)) ?_
      obtain ⟨g22, W⟩ := W
      obtain ⟨g23, W⟩ := W
      refine po_of (fun _ nx => b_Reader_laneItem_58 (s_Town_addLane (a0 := 68) (x1 := v2) (x2 := v4) (S := S19) (by decide +kernel) g22 g23) nx) ?_
      exact ⟨_, _, b_Reader_laneItem_67, W⟩
theorem e_Reader_laneItem {d : Nat} {S : fm_S} {Q : Unit → fm_S → Prop}
    (W : am_Ps vI (d + 2) k_Reader_number [.ref 67, .int 0, .int ((S.1 68 0) - 1)] S fun v2 S1 => (am_Ps vI (d + 2) k_Reader_number [.ref 67, .int 0, .int ((S1.1 68 0) - 1)] S1 fun v4 S3 => (((S3.1 67 4) = (-1) → (v2 = v4 → am_Ps vI (d + 2) k_Reader_endItem [.ref 67] (fm_wI S3 67 4 (S3.1 67 6)) fun v8 S7 => ((v8 = 0 → Q () S7) ∧ (¬ v8 = 0 → (vp_in v2 8) ∧ (vp_in v4 8) ∧ Q () (g_Town_addLane S7 68 v2 v4)))) ∧ (¬ v2 = v4 → am_Ps vI (d + 2) k_Reader_endItem [.ref 67] S3 fun v14 S13 => ((v14 = 0 → Q () S13) ∧ (¬ v14 = 0 → (vp_in v2 8) ∧ (vp_in v4 8) ∧ Q () (g_Town_addLane S13 68 v2 v4))))) ∧ (¬ (S3.1 67 4) = (-1) → am_Ps vI (d + 2) k_Reader_endItem [.ref 67] S3 fun v20 S19 => ((v20 = 0 → Q () S19) ∧ (¬ v20 = 0 → (vp_in v2 8) ∧ (vp_in v4 8) ∧ Q () (g_Town_addLane S19 68 v2 v4))))))) :
    am_Ps vV (d + 3) k_Reader_laneItem [.ref 67] S Q := ps_of (L := [some (.ref 67), none, none]) rfl (Nat.le_of_ble_eq_true rfl) (Nat.le_of_ble_eq_true rfl) (p_Reader_laneItem_0 W)
theorem p_Reader_gateItem_0 {d : Nat} {o1 : Option Value} {o2 : Option Value} {S : fm_S} {Q : Unit → fm_S → Prop}
    (W : am_Ps vI (d + 2) k_Reader_number [.ref 67, .int 0, .int 3] S fun v2 S1 => (am_Ps vI (d + 2) k_Reader_number [.ref 67, .int 0, .int ((S1.1 68 0) - 1)] S1 fun v4 S3 => (am_Ps vI (d + 2) k_Reader_endItem [.ref 67] S3 fun v6 S5 => ((v6 = 0 → Q () S5) ∧ (¬ v6 = 0 → (vp_in v2 4) ∧ Q () (fm_wI S5 73 v2.toNatClampNeg v4)))))) :
    am_Po vV (d + 3) k_Reader_gateItem 0 [some (.ref 67), o1, o2] [] S Q := by
  obtain ⟨v2, S1, h11, W⟩ := W
  refine po_of (fun _ nx => b_Reader_gateItem_0 h11 nx) ?_
  obtain ⟨v4, S3, h10, W⟩ := W
  refine po_of (fun _ nx => b_Reader_gateItem_6 h10 nx) ?_
  obtain ⟨v6, S5, h9, W⟩ := W
  refine po_of (fun _ nx => b_Reader_gateItem_21 h9 nx) ?_
  by_cases q7 : v6 = 0
  · have W := W.1 q7
    refine po_of (fun _ nx => b_Reader_gateItem_26 (fun _ => nx) (fun z => absurd q7 z)) ?_
    exact ⟨_, _, b_Reader_gateItem_39, W⟩
  · have W := W.2 q7
    refine po_of (fun _ nx => b_Reader_gateItem_26 (fun z => absurd z q7) (fun _ => nx)) ?_
    obtain ⟨g8, W⟩ := W
    refine po_of (fun _ nx => b_Reader_gateItem_29 g8 nx) ?_
    exact ⟨_, _, b_Reader_gateItem_39, W⟩
theorem e_Reader_gateItem {d : Nat} {S : fm_S} {Q : Unit → fm_S → Prop}
    (W : am_Ps vI (d + 2) k_Reader_number [.ref 67, .int 0, .int 3] S fun v2 S1 => (am_Ps vI (d + 2) k_Reader_number [.ref 67, .int 0, .int ((S1.1 68 0) - 1)] S1 fun v4 S3 => (am_Ps vI (d + 2) k_Reader_endItem [.ref 67] S3 fun v6 S5 => ((v6 = 0 → Q () S5) ∧ (¬ v6 = 0 → (vp_in v2 4) ∧ Q () (fm_wI S5 73 v2.toNatClampNeg v4)))))) :
    am_Ps vV (d + 3) k_Reader_gateItem [.ref 67] S Q := ps_of (L := [some (.ref 67), none, none]) rfl (Nat.le_of_ble_eq_true rfl) (Nat.le_of_ble_eq_true rfl) (p_Reader_gateItem_0 W)
theorem p_Reader_windItem_0 {d : Nat} {o1 : Option Value} {o2 : Option Value} {S : fm_S} {Q : Unit → fm_S → Prop}
    (W : am_Ps vI (d + 2) k_Reader_number [.ref 67, .int 0, .int 3] S fun v2 S1 => (am_Ps vI (d + 2) k_Reader_number [.ref 67, .int 0, .int 3] S1 fun v4 S3 => (am_Ps vI (d + 2) k_Reader_endItem [.ref 67] S3 fun v6 S5 => ((v6 = 0 → Q () S5) ∧ (¬ v6 = 0 → (vp_in v2 4) ∧ Q () (fm_wI S5 74 v2.toNatClampNeg v4)))))) :
    am_Po vV (d + 3) k_Reader_windItem 0 [some (.ref 67), o1, o2] [] S Q := by
  obtain ⟨v2, S1, h11, W⟩ := W
  refine po_of (fun _ nx => b_Reader_windItem_0 h11 nx) ?_
  obtain ⟨v4, S3, h10, W⟩ := W
  refine po_of (fun _ nx => b_Reader_windItem_6 h10 nx) ?_
  obtain ⟨v6, S5, h9, W⟩ := W
  refine po_of (fun _ nx => b_Reader_windItem_13 h9 nx) ?_
  by_cases q7 : v6 = 0
  · have W := W.1 q7
    refine po_of (fun _ nx => b_Reader_windItem_18 (fun _ => nx) (fun z => absurd q7 z)) ?_
    exact ⟨_, _, b_Reader_windItem_31, W⟩
  · have W := W.2 q7
    refine po_of (fun _ nx => b_Reader_windItem_18 (fun z => absurd z q7) (fun _ => nx)) ?_
    obtain ⟨g8, W⟩ := W
    refine po_of (fun _ nx => b_Reader_windItem_21 g8 nx) ?_
    exact ⟨_, _, b_Reader_windItem_31, W⟩
theorem e_Reader_windItem {d : Nat} {S : fm_S} {Q : Unit → fm_S → Prop}
    (W : am_Ps vI (d + 2) k_Reader_number [.ref 67, .int 0, .int 3] S fun v2 S1 => (am_Ps vI (d + 2) k_Reader_number [.ref 67, .int 0, .int 3] S1 fun v4 S3 => (am_Ps vI (d + 2) k_Reader_endItem [.ref 67] S3 fun v6 S5 => ((v6 = 0 → Q () S5) ∧ (¬ v6 = 0 → (vp_in v2 4) ∧ Q () (fm_wI S5 74 v2.toNatClampNeg v4)))))) :
    am_Ps vV (d + 3) k_Reader_windItem [.ref 67] S Q := ps_of (L := [some (.ref 67), none, none]) rfl (Nat.le_of_ble_eq_true rfl) (Nat.le_of_ble_eq_true rfl) (p_Reader_windItem_0 W)
theorem p_Reader_dishItem_0 {d : Nat} {o1 : Option Value} {o2 : Option Value} {o3 : Option Value} {S : fm_S} {Q : Unit → fm_S → Prop}
    (W : am_Ps vI (d + 2) k_Reader_number [.ref 67, .int 0, .int 5] S fun v2 S1 => (am_Ps vI (d + 2) k_Reader_number [.ref 67, .int 1, .int 30] S1 fun v4 S3 => (am_Ps vI (d + 2) k_Reader_number [.ref 67, .int 0, .int 9] S3 fun v6 S5 => (am_Ps vI (d + 2) k_Reader_endItem [.ref 67] S5 fun v8 S7 => ((v8 = 0 → Q () S7) ∧ (¬ v8 = 0 → ((S7.1 68 7) < 6 → vp_in (S7.1 68 7) 6) ∧ Q () (g_Town_addDish S7 68 v2 v4 v6))))))) :
    am_Po vV (d + 3) k_Reader_dishItem 0 [some (.ref 67), o1, o2, o3] [] S Q := by
  obtain ⟨v2, S1, h14, W⟩ := W
  refine po_of (fun _ nx => b_Reader_dishItem_0 h14 nx) ?_
  obtain ⟨v4, S3, h13, W⟩ := W
  refine po_of (fun _ nx => b_Reader_dishItem_6 h13 nx) ?_
  obtain ⟨v6, S5, h12, W⟩ := W
  refine po_of (fun _ nx => b_Reader_dishItem_14 h12 nx) ?_
  obtain ⟨v8, S7, h11, W⟩ := W
  refine po_of (fun _ nx => b_Reader_dishItem_22 h11 nx) ?_
  by_cases q9 : v8 = 0
  · have W := W.1 q9
    refine po_of (fun _ nx => b_Reader_dishItem_27 (fun _ => nx) (fun z => absurd q9 z)) ?_
    exact ⟨_, _, b_Reader_dishItem_41, W⟩
  · have W := W.2 q9
    refine po_of (fun _ nx => b_Reader_dishItem_27 (fun z => absurd z q9) (fun _ => nx)) ?_
    obtain ⟨g10, W⟩ := W
    refine po_of (fun _ nx => b_Reader_dishItem_30 (s_Town_addDish (a0 := 68) (x1 := v2) (x2 := v4) (x3 := v6) (S := S7) (by decide +kernel) g10) nx) ?_
    refine po_of (fun _ nx => b_Reader_dishItem_40 nx) ?_
    exact ⟨_, _, b_Reader_dishItem_41, W⟩
theorem e_Reader_dishItem {d : Nat} {S : fm_S} {Q : Unit → fm_S → Prop}
    (W : am_Ps vI (d + 2) k_Reader_number [.ref 67, .int 0, .int 5] S fun v2 S1 => (am_Ps vI (d + 2) k_Reader_number [.ref 67, .int 1, .int 30] S1 fun v4 S3 => (am_Ps vI (d + 2) k_Reader_number [.ref 67, .int 0, .int 9] S3 fun v6 S5 => (am_Ps vI (d + 2) k_Reader_endItem [.ref 67] S5 fun v8 S7 => ((v8 = 0 → Q () S7) ∧ (¬ v8 = 0 → ((S7.1 68 7) < 6 → vp_in (S7.1 68 7) 6) ∧ Q () (g_Town_addDish S7 68 v2 v4 v6))))))) :
    am_Ps vV (d + 3) k_Reader_dishItem [.ref 67] S Q := ps_of (L := [some (.ref 67), none, none, none]) rfl (Nat.le_of_ble_eq_true rfl) (Nat.le_of_ble_eq_true rfl) (p_Reader_dishItem_0 W)
theorem p_X_town_0 {d : Nat} {o1 : Option Value} {S : fm_S} {Q : Int32 → fm_S → Prop}
    (W : am_Ps vV (d + 1) k_Town_begin [.ref 1] S fun _ S1 => (Q (S.1 1 0) S1)) :
    am_Po vI (d + 2) k_X_town 0 [some (.ref 0), o1] [] S Q := by
  obtain ⟨_, S1, h2, W⟩ := W
  refine po_of (fun _ nx => b_X_town_0 h2 nx) ?_
  exact ⟨_, _, b_X_town_15, W⟩
theorem e_X_town {d : Nat} {S : fm_S} {Q : Int32 → fm_S → Prop}
    (W : am_Ps vV (d + 1) k_Town_begin [.ref 1] S fun _ S1 => (Q (S.1 1 0) S1)) :
    am_Ps vI (d + 2) k_X_town [.ref 0] S Q := ps_of (L := [some (.ref 0), none]) rfl (Nat.le_of_ble_eq_true rfl) (Nat.le_of_ble_eq_true rfl) (p_X_town_0 W)
theorem p_X_read_0 {d : Nat} {o1 : Option Value} {S : fm_S} {Q : Int32 → fm_S → Prop}
    (W : am_Ps vI (d + 5) k_Reader_parse [.ref 67] S fun v2 S1 => ((v2 = (-1) → am_Ps vV (d + 5) k_Town_copy [.ref 1, .ref 68] S1 fun _ S4 => (Q (S4.1 67 1) S4)) ∧ (¬ v2 = (-1) → Q ((-10) - v2) S1))) :
    am_Po vI (d + 6) k_X_read 0 [some (.ref 0), o1] [] S Q := by
  obtain ⟨v2, S1, h6, W⟩ := W
  refine po_of (fun _ nx => b_X_read_0 h6 nx) ?_
  by_cases q3 : v2 = (-1)
  · have W := W.1 q3
    refine po_of (fun _ nx => b_X_read_7 (fun _ => nx) (fun z => absurd q3 z)) ?_
    obtain ⟨_, S4, h5, W⟩ := W
    refine po_of (fun _ nx => b_X_read_18 h5 nx) ?_
    exact ⟨_, _, b_X_read_32, W⟩
  · have W := W.2 q3
    refine po_of (fun _ nx => b_X_read_7 (fun z => absurd z q3) (fun _ => nx)) ?_
    exact ⟨_, _, b_X_read_13, W⟩
theorem e_X_read {d : Nat} {S : fm_S} {Q : Int32 → fm_S → Prop}
    (W : am_Ps vI (d + 5) k_Reader_parse [.ref 67] S fun v2 S1 => ((v2 = (-1) → am_Ps vV (d + 5) k_Town_copy [.ref 1, .ref 68] S1 fun _ S4 => (Q (S4.1 67 1) S4)) ∧ (¬ v2 = (-1) → Q ((-10) - v2) S1))) :
    am_Ps vI (d + 6) k_X_read [.ref 0] S Q := ps_of (L := [some (.ref 0), none]) rfl (Nat.le_of_ble_eq_true rfl) (Nat.le_of_ble_eq_true rfl) (p_X_read_0 W)
theorem p_X_day_0 {d : Nat} {x1 : Int32} {S : fm_S} {Q : Int32 → fm_S → Prop}
    (W : (x1 = (-1) → am_Ps vV (d + 4) k_Town_keepDays [.ref 1] S fun _ S2 => (am_Ps vI (d + 4) k_Cook_pass [.ref 54, .ref 17, .int x1] S2 fun v4 S3 => (Q v4 S3))) ∧ (¬ x1 = (-1) → ((f_X_isDish S x1) = 0 → Q f_X_bad (g_X_bad S)) ∧ (¬ (f_X_isDish S x1) = 0 → am_Ps vV (d + 4) k_Town_keepDays [.ref 1] S fun _ S8 => (am_Ps vI (d + 4) k_Cook_pass [.ref 54, .ref 17, .int x1] S8 fun v10 S9 => (Q v10 S9))))) :
    am_Po vI (d + 5) k_X_day 0 [some (.ref 0), some (.int x1)] [] S Q := by
  by_cases q1 : x1 = (-1)
  · have W := W.1 q1
    refine po_of (fun _ nx => b_X_day_0 (fun _ => nx) (fun z => absurd q1 z)) ?_
    obtain ⟨_, S2, h6, W⟩ := W
    refine po_of (fun _ nx => b_X_day_18 h6 nx) ?_
    obtain ⟨v4, S3, h5, W⟩ := W
    refine po_of (fun _ nx => b_X_day_25 h5 nx) ?_
    exact ⟨_, _, b_X_day_40, W⟩
  · have W := W.2 q1
    refine po_of (fun _ nx => b_X_day_0 (fun z => absurd z q1) (fun _ => nx)) ?_
    refine po_of (fun _ nx => b_X_day_5 (s_X_isDish (x1 := x1) (S := S)) nx) ?_
    by_cases q7 : (f_X_isDish S x1) = 0
    · have W := W.1 q7
      refine po_of (fun _ nx => b_X_day_10 (fun z => absurd q7 z) (fun _ => nx)) ?_
      refine po_of (fun _ nx => b_X_day_13 (s_X_bad (S := S)) nx) ?_
      exact ⟨_, _, b_X_day_17, W⟩
    · have W := W.2 q7
      refine po_of (fun _ nx => b_X_day_10 (fun _ => nx) (fun z => absurd z q7)) ?_
      obtain ⟨_, S8, h12, W⟩ := W
      refine po_of (fun _ nx => b_X_day_18 h12 nx) ?_
      obtain ⟨v10, S9, h11, W⟩ := W
      refine po_of (fun _ nx => b_X_day_25 h11 nx) ?_
      exact ⟨_, _, b_X_day_40, W⟩
theorem e_X_day {d : Nat} {x1 : Int32} {S : fm_S} {Q : Int32 → fm_S → Prop}
    (W : (x1 = (-1) → am_Ps vV (d + 4) k_Town_keepDays [.ref 1] S fun _ S2 => (am_Ps vI (d + 4) k_Cook_pass [.ref 54, .ref 17, .int x1] S2 fun v4 S3 => (Q v4 S3))) ∧ (¬ x1 = (-1) → ((f_X_isDish S x1) = 0 → Q f_X_bad (g_X_bad S)) ∧ (¬ (f_X_isDish S x1) = 0 → am_Ps vV (d + 4) k_Town_keepDays [.ref 1] S fun _ S8 => (am_Ps vI (d + 4) k_Cook_pass [.ref 54, .ref 17, .int x1] S8 fun v10 S9 => (Q v10 S9))))) :
    am_Ps vI (d + 5) k_X_day [.ref 0, .int x1] S Q := ps_of (L := [some (.ref 0), some (.int x1)]) rfl (Nat.le_of_ble_eq_true rfl) (Nat.le_of_ble_eq_true rfl) (p_X_day_0 W)
theorem p_X_smells_0 {d : Nat} {x1 : Int32} {x2 : Int32} {x3 : Int32} {S : fm_S} {Q : Int32 → fm_S → Prop}
    (W : ((f_X_isDish S x1) = 0 → Q f_X_bad (g_X_bad S)) ∧ (¬ (f_X_isDish S x1) = 0 → ((f_X_isWind x2) = 0 → Q f_X_bad (g_X_bad S)) ∧ (¬ (f_X_isWind x2) = 0 → ((f_X_isStreet S x3) = 0 → Q f_X_bad (g_X_bad S)) ∧ (¬ (f_X_isStreet S x3) = 0 → am_Ps vI (d + 4) k_Cook_strength [.ref 54, .int x1, .int x2, .int x3] S fun v5 S4 => (Q v5 S4))))) :
    am_Po vI (d + 5) k_X_smells 0 [some (.ref 0), some (.int x1), some (.int x2), some (.int x3)] [] S Q := by
  refine po_of (fun _ nx => b_X_smells_0 (s_X_isDish (x1 := x1) (S := S)) nx) ?_
  by_cases q1 : (f_X_isDish S x1) = 0
  · have W := W.1 q1
    refine po_of (fun _ nx => b_X_smells_5 (fun _ => nx) (fun z => absurd q1 z)) ?_
    refine po_of (fun _ nx => b_X_smells_23 (s_X_bad (S := S)) nx) ?_
    exact ⟨_, _, b_X_smells_27, W⟩
  · have W := W.2 q1
    refine po_of (fun _ nx => b_X_smells_5 (fun z => absurd z q1) (fun _ => nx)) ?_
    refine po_of (fun _ nx => b_X_smells_8 (s_X_isWind (x0 := x2) (S := S)) nx) ?_
    by_cases q2 : (f_X_isWind x2) = 0
    · have W := W.1 q2
      refine po_of (fun _ nx => b_X_smells_12 (fun _ => nx) (fun z => absurd q2 z)) ?_
      refine po_of (fun _ nx => b_X_smells_23 (s_X_bad (S := S)) nx) ?_
      exact ⟨_, _, b_X_smells_27, W⟩
    · have W := W.2 q2
      refine po_of (fun _ nx => b_X_smells_12 (fun z => absurd z q2) (fun _ => nx)) ?_
      refine po_of (fun _ nx => b_X_smells_15 (s_X_isStreet (x1 := x3) (S := S)) nx) ?_
      by_cases q3 : (f_X_isStreet S x3) = 0
      · have W := W.1 q3
        refine po_of (fun _ nx => b_X_smells_20 (fun z => absurd q3 z) (fun _ => nx)) ?_
        refine po_of (fun _ nx => b_X_smells_23 (s_X_bad (S := S)) nx) ?_
        exact ⟨_, _, b_X_smells_27, W⟩
      · have W := W.2 q3
        refine po_of (fun _ nx => b_X_smells_20 (fun _ => nx) (fun z => absurd z q3)) ?_
        obtain ⟨v5, S4, h6, W⟩ := W
        refine po_of (fun _ nx => b_X_smells_28 h6 nx) ?_
        exact ⟨_, _, b_X_smells_38, W⟩
theorem e_X_smells {d : Nat} {x1 : Int32} {x2 : Int32} {x3 : Int32} {S : fm_S} {Q : Int32 → fm_S → Prop}
    (W : ((f_X_isDish S x1) = 0 → Q f_X_bad (g_X_bad S)) ∧ (¬ (f_X_isDish S x1) = 0 → ((f_X_isWind x2) = 0 → Q f_X_bad (g_X_bad S)) ∧ (¬ (f_X_isWind x2) = 0 → ((f_X_isStreet S x3) = 0 → Q f_X_bad (g_X_bad S)) ∧ (¬ (f_X_isStreet S x3) = 0 → am_Ps vI (d + 4) k_Cook_strength [.ref 54, .int x1, .int x2, .int x3] S fun v5 S4 => (Q v5 S4))))) :
    am_Ps vI (d + 5) k_X_smells [.ref 0, .int x1, .int x2, .int x3] S Q := ps_of (L := [some (.ref 0), some (.int x1), some (.int x2), some (.int x3)]) rfl (Nat.le_of_ble_eq_true rfl) (Nat.le_of_ble_eq_true rfl) (p_X_smells_0 W)
theorem p_X_moved_0 {d : Nat} {x1 : Int32} {x2 : Int32} {S : fm_S} {Q : Int32 → fm_S → Prop}
    (W : ((f_X_isDish S x1) = 0 → Q f_X_bad (g_X_bad S)) ∧ (¬ (f_X_isDish S x1) = 0 → ((f_X_isStreet S x2) = 0 → Q f_X_bad (g_X_bad S)) ∧ (¬ (f_X_isStreet S x2) = 0 → am_Ps vI (d + 4) k_Cook_pullNow [.ref 54, .int x1, .int x2] S fun v4 S3 => (Q v4 S3)))) :
    am_Po vI (d + 5) k_X_moved 0 [some (.ref 0), some (.int x1), some (.int x2)] [] S Q := by
  refine po_of (fun _ nx => b_X_moved_0 (s_X_isDish (x1 := x1) (S := S)) nx) ?_
  by_cases q1 : (f_X_isDish S x1) = 0
  · have W := W.1 q1
    refine po_of (fun _ nx => b_X_moved_5 (fun _ => nx) (fun z => absurd q1 z)) ?_
    refine po_of (fun _ nx => b_X_moved_16 (s_X_bad (S := S)) nx) ?_
    exact ⟨_, _, b_X_moved_20, W⟩
  · have W := W.2 q1
    refine po_of (fun _ nx => b_X_moved_5 (fun z => absurd z q1) (fun _ => nx)) ?_
    refine po_of (fun _ nx => b_X_moved_8 (s_X_isStreet (x1 := x2) (S := S)) nx) ?_
    by_cases q2 : (f_X_isStreet S x2) = 0
    · have W := W.1 q2
      refine po_of (fun _ nx => b_X_moved_13 (fun z => absurd q2 z) (fun _ => nx)) ?_
      refine po_of (fun _ nx => b_X_moved_16 (s_X_bad (S := S)) nx) ?_
      exact ⟨_, _, b_X_moved_20, W⟩
    · have W := W.2 q2
      refine po_of (fun _ nx => b_X_moved_13 (fun _ => nx) (fun z => absurd z q2)) ?_
      obtain ⟨v4, S3, h5, W⟩ := W
      refine po_of (fun _ nx => b_X_moved_21 h5 nx) ?_
      exact ⟨_, _, b_X_moved_30, W⟩
theorem e_X_moved {d : Nat} {x1 : Int32} {x2 : Int32} {S : fm_S} {Q : Int32 → fm_S → Prop}
    (W : ((f_X_isDish S x1) = 0 → Q f_X_bad (g_X_bad S)) ∧ (¬ (f_X_isDish S x1) = 0 → ((f_X_isStreet S x2) = 0 → Q f_X_bad (g_X_bad S)) ∧ (¬ (f_X_isStreet S x2) = 0 → am_Ps vI (d + 4) k_Cook_pullNow [.ref 54, .int x1, .int x2] S fun v4 S3 => (Q v4 S3)))) :
    am_Ps vI (d + 5) k_X_moved [.ref 0, .int x1, .int x2] S Q := ps_of (L := [some (.ref 0), some (.int x1), some (.int x2)]) rfl (Nat.le_of_ble_eq_true rfl) (Nat.le_of_ble_eq_true rfl) (p_X_moved_0 W)
theorem p_X_falls_0 {d : Nat} {x1 : Int32} {x2 : Int32} {S : fm_S} {Q : Int32 → fm_S → Prop}
    (W : ((f_X_isDish S x1) = 0 → Q f_X_bad (g_X_bad S)) ∧ (¬ (f_X_isDish S x1) = 0 → ((f_X_isStreet S x2) = 0 → Q f_X_bad (g_X_bad S)) ∧ (¬ (f_X_isStreet S x2) = 0 → am_Ps vI (d + 5) k_Cook_daysToFall [.ref 54, .int x1, .int x2] S fun v4 S3 => (Q v4 S3)))) :
    am_Po vI (d + 6) k_X_falls 0 [some (.ref 0), some (.int x1), some (.int x2)] [] S Q := by
  refine po_of (fun _ nx => b_X_falls_0 (s_X_isDish (x1 := x1) (S := S)) nx) ?_
  by_cases q1 : (f_X_isDish S x1) = 0
  · have W := W.1 q1
    refine po_of (fun _ nx => b_X_falls_5 (fun _ => nx) (fun z => absurd q1 z)) ?_
    refine po_of (fun _ nx => b_X_falls_16 (s_X_bad (S := S)) nx) ?_
    exact ⟨_, _, b_X_falls_20, W⟩
  · have W := W.2 q1
    refine po_of (fun _ nx => b_X_falls_5 (fun z => absurd z q1) (fun _ => nx)) ?_
    refine po_of (fun _ nx => b_X_falls_8 (s_X_isStreet (x1 := x2) (S := S)) nx) ?_
    by_cases q2 : (f_X_isStreet S x2) = 0
    · have W := W.1 q2
      refine po_of (fun _ nx => b_X_falls_13 (fun z => absurd q2 z) (fun _ => nx)) ?_
      refine po_of (fun _ nx => b_X_falls_16 (s_X_bad (S := S)) nx) ?_
      exact ⟨_, _, b_X_falls_20, W⟩
    · have W := W.2 q2
      refine po_of (fun _ nx => b_X_falls_13 (fun _ => nx) (fun z => absurd z q2)) ?_
      obtain ⟨v4, S3, h5, W⟩ := W
      refine po_of (fun _ nx => b_X_falls_21 h5 nx) ?_
      exact ⟨_, _, b_X_falls_30, W⟩
theorem e_X_falls {d : Nat} {x1 : Int32} {x2 : Int32} {S : fm_S} {Q : Int32 → fm_S → Prop}
    (W : ((f_X_isDish S x1) = 0 → Q f_X_bad (g_X_bad S)) ∧ (¬ (f_X_isDish S x1) = 0 → ((f_X_isStreet S x2) = 0 → Q f_X_bad (g_X_bad S)) ∧ (¬ (f_X_isStreet S x2) = 0 → am_Ps vI (d + 5) k_Cook_daysToFall [.ref 54, .int x1, .int x2] S fun v4 S3 => (Q v4 S3)))) :
    am_Ps vI (d + 6) k_X_falls [.ref 0, .int x1, .int x2] S Q := ps_of (L := [some (.ref 0), some (.int x1), some (.int x2)]) rfl (Nat.le_of_ble_eq_true rfl) (Nat.le_of_ble_eq_true rfl) (p_X_falls_0 W)
theorem p_X_order_0 {d : Nat} {x1 : Int32} {x2 : Int32} {o3 : Option Value} {S : fm_S} {Q : Int32 → fm_S → Prop}
    (W : ((f_X_isStreet S x1) = 0 → Q f_X_badTen (g_X_badTen S)) ∧ (¬ (f_X_isStreet S x1) = 0 → ((-2) ≤ x2 → am_Ps vI (d + 5) k_Cook_findRow [.ref 54, .int x1] S fun v4 S3 => ((v4 = (-1) → Q v4 S3) ∧ (¬ v4 = (-1) → (x2 = (-1) → Q v4 S3) ∧ (¬ x2 = (-1) → (x2 = (-2) → Q (S3.1 54 1) S3) ∧ (¬ x2 = (-2) → (¬ v4 ≤ x2 → ¬ 4 ≤ x2 → vp_in x2 4) ∧ ∀ v11 : Int32, v11 = (if v4 ≤ x2 then (-5 : Int32) else if 4 ≤ x2 then (-5 : Int32) else S3.1 55 x2.toNatClampNeg) → (Q v11 S3)))))) ∧ (¬ (-2) ≤ x2 → Q f_X_badTen (g_X_badTen S)))) :
    am_Po vI (d + 6) k_X_order 0 [some (.ref 0), some (.int x1), some (.int x2), o3] [] S Q := by
  refine po_of (fun _ nx => b_X_order_0 (s_X_isStreet (x1 := x1) (S := S)) nx) ?_
  by_cases q1 : (f_X_isStreet S x1) = 0
  · have W := W.1 q1
    refine po_of (fun _ nx => b_X_order_5 (fun _ => nx) (fun z => absurd q1 z)) ?_
    refine po_of (fun _ nx => b_X_order_14 (s_X_badTen (S := S)) nx) ?_
    exact ⟨_, _, b_X_order_18, W⟩
  · have W := W.2 q1
    refine po_of (fun _ nx => b_X_order_5 (fun z => absurd z q1) (fun _ => nx)) ?_
    by_cases q2 : (-2) ≤ x2
    · have W := W.1 q2
      refine po_of (fun _ nx => b_X_order_8 (fun _ => nx) (fun z => absurd q2 z)) ?_
      obtain ⟨v4, S3, h12, W⟩ := W
      refine po_of (fun _ nx => b_X_order_19 h12 nx) ?_
      by_cases q5 : v4 = (-1)
      · have W := W.1 q5
        refine po_of (fun _ nx => b_X_order_27 (fun _ => nx) (fun z => absurd q5 z)) ?_
        exact ⟨_, _, b_X_order_38, W⟩
      · have W := W.2 q5
        refine po_of (fun _ nx => b_X_order_27 (fun z => absurd z q5) (fun _ => nx)) ?_
        by_cases q6 : x2 = (-1)
        · have W := W.1 q6
          refine po_of (fun _ nx => b_X_order_33 (fun z => absurd q6 z) (fun _ => nx)) ?_
          exact ⟨_, _, b_X_order_38, W⟩
        · have W := W.2 q6
          refine po_of (fun _ nx => b_X_order_33 (fun _ => nx) (fun z => absurd z q6)) ?_
          by_cases q7 : x2 = (-2)
          · have W := W.1 q7
            refine po_of (fun _ nx => b_X_order_40 (fun z => absurd q7 z) (fun _ => nx)) ?_
            exact ⟨_, _, b_X_order_46, W⟩
          · have W := W.2 q7
            refine po_of (fun _ nx => b_X_order_40 (fun _ => nx) (fun z => absurd z q7)) ?_
            obtain ⟨g10, W⟩ := W
            have J : ∀ v11 : Int32, v11 = (if v4 ≤ x2 then (-5 : Int32) else if 4 ≤ x2 then (-5 : Int32) else S3.1 55 x2.toNatClampNeg) → am_Po vI (d + 6) k_X_order 78 [some (.ref 0), some (.int x1), some (.int x2), some (.int v4)] [.int v11] S3 Q := by
              intro v11 v11_
              have W := W v11 v11_
              exact ⟨_, _, b_X_order_78, W⟩
            by_cases q8 : v4 ≤ x2
            · refine po_of (fun _ nx => b_X_order_54 (fun _ => nx) (fun z => absurd q8 z)) ?_
              refine po_of (fun _ nx => b_X_order_76 nx) ?_
              exact J _ (by simp only [if_pos q8])
            · refine po_of (fun _ nx => b_X_order_54 (fun z => absurd z q8) (fun _ => nx)) ?_
              by_cases q9 : 4 ≤ x2
              · refine po_of (fun _ nx => b_X_order_59 (fun _ => nx) (fun z => absurd q9 z)) ?_
                refine po_of (fun _ nx => b_X_order_76 nx) ?_
                exact J _ (by simp only [if_neg q8, if_pos q9])
              · refine po_of (fun _ nx => b_X_order_59 (fun z => absurd z q9) (fun _ => nx)) ?_
                refine po_of (fun _ nx => b_X_order_64 (g10 q8 q9) nx) ?_
                exact J _ (by simp only [if_neg q8, if_neg q9])
    · have W := W.2 q2
      refine po_of (fun _ nx => b_X_order_8 (fun z => absurd z q2) (fun _ => nx)) ?_
      refine po_of (fun _ nx => b_X_order_14 (s_X_badTen (S := S)) nx) ?_
      exact ⟨_, _, b_X_order_18, W⟩
theorem e_X_order {d : Nat} {x1 : Int32} {x2 : Int32} {S : fm_S} {Q : Int32 → fm_S → Prop}
    (W : ((f_X_isStreet S x1) = 0 → Q f_X_badTen (g_X_badTen S)) ∧ (¬ (f_X_isStreet S x1) = 0 → ((-2) ≤ x2 → am_Ps vI (d + 5) k_Cook_findRow [.ref 54, .int x1] S fun v4 S3 => ((v4 = (-1) → Q v4 S3) ∧ (¬ v4 = (-1) → (x2 = (-1) → Q v4 S3) ∧ (¬ x2 = (-1) → (x2 = (-2) → Q (S3.1 54 1) S3) ∧ (¬ x2 = (-2) → (¬ v4 ≤ x2 → ¬ 4 ≤ x2 → vp_in x2 4) ∧ ∀ v11 : Int32, v11 = (if v4 ≤ x2 then (-5 : Int32) else if 4 ≤ x2 then (-5 : Int32) else S3.1 55 x2.toNatClampNeg) → (Q v11 S3)))))) ∧ (¬ (-2) ≤ x2 → Q f_X_badTen (g_X_badTen S)))) :
    am_Ps vI (d + 6) k_X_order [.ref 0, .int x1, .int x2] S Q := ps_of (L := [some (.ref 0), some (.int x1), some (.int x2), none]) rfl (Nat.le_of_ble_eq_true rfl) (Nat.le_of_ble_eq_true rfl) (p_X_order_0 W)
theorem p_X_never_0 {d : Nat} {S : fm_S} {Q : Int32 → fm_S → Prop}
    (W : am_Ps vI (d + 5) k_Cook_neverOpened [.ref 54] S fun v2 S1 => (Q v2 S1)) :
    am_Po vI (d + 6) k_X_never 0 [some (.ref 0)] [] S Q := by
  obtain ⟨v2, S1, h3, W⟩ := W
  refine po_of (fun _ nx => b_X_never_0 h3 nx) ?_
  exact ⟨_, _, b_X_never_7, W⟩
theorem e_X_never {d : Nat} {S : fm_S} {Q : Int32 → fm_S → Prop}
    (W : am_Ps vI (d + 5) k_Cook_neverOpened [.ref 54] S fun v2 S1 => (Q v2 S1)) :
    am_Ps vI (d + 6) k_X_never [.ref 0] S Q := ps_of (L := [some (.ref 0)]) rfl (Nat.le_of_ble_eq_true rfl) (Nat.le_of_ble_eq_true rfl) (p_X_never_0 W)
theorem p_X_least_0 {d : Nat} {S : fm_S} {Q : Int32 → fm_S → Prop}
    (W : am_Ps vI (d + 5) k_Cook_leastSet [.ref 54] S fun v2 S1 => (Q v2 S1)) :
    am_Po vI (d + 6) k_X_least 0 [some (.ref 0)] [] S Q := by
  obtain ⟨v2, S1, h3, W⟩ := W
  refine po_of (fun _ nx => b_X_least_0 h3 nx) ?_
  exact ⟨_, _, b_X_least_7, W⟩
theorem e_X_least {d : Nat} {S : fm_S} {Q : Int32 → fm_S → Prop}
    (W : am_Ps vI (d + 5) k_Cook_leastSet [.ref 54] S fun v2 S1 => (Q v2 S1)) :
    am_Ps vI (d + 6) k_X_least [.ref 0] S Q := ps_of (L := [some (.ref 0)]) rfl (Nat.le_of_ble_eq_true rfl) (Nat.le_of_ble_eq_true rfl) (p_X_least_0 W)
theorem p_X_answer_0 {d : Nat} {x1 : Int32} {x2 : Int32} {x3 : Int32} {o4 : Option Value} {S : fm_S} {Q : Int32 → fm_S → Prop}
    (W : ((f_X_isDish S x1) = 0 → Q f_X_bad (g_X_bad S)) ∧ (¬ (f_X_isDish S x1) = 0 → ((f_X_within x2 0 9) = 0 → Q f_X_bad (g_X_bad S)) ∧ (¬ (f_X_within x2 0 9) = 0 → ((f_X_within x3 0 1) = 0 → Q f_X_bad (g_X_bad S)) ∧ (¬ (f_X_within x3 0 1) = 0 → am_Ps vI (d + 5) k_Cook_bestSheets [.ref 54, .int x1, .int x2] S fun v5 S4 => ((v5 = (-1) → Q v5 S4) ∧ (¬ v5 = (-1) → (x3 = 0 → Q v5 S4) ∧ (¬ x3 = 0 → am_Ps vI (d + 5) k_Cook_opening [.ref 54, .int x1, .int v5, .int x2] S4 fun v9 S8 => (Q v9 S8)))))))) :
    am_Po vI (d + 6) k_X_answer 0 [some (.ref 0), some (.int x1), some (.int x2), some (.int x3), o4] [] S Q := by
  refine po_of (fun _ nx => b_X_answer_0 (s_X_isDish (x1 := x1) (S := S)) nx) ?_
  by_cases q1 : (f_X_isDish S x1) = 0
  · have W := W.1 q1
    refine po_of (fun _ nx => b_X_answer_5 (fun _ => nx) (fun z => absurd q1 z)) ?_
    refine po_of (fun _ nx => b_X_answer_27 (s_X_bad (S := S)) nx) ?_
    exact ⟨_, _, b_X_answer_31, W⟩
  · have W := W.2 q1
    refine po_of (fun _ nx => b_X_answer_5 (fun z => absurd z q1) (fun _ => nx)) ?_
    refine po_of (fun _ nx => b_X_answer_8 (s_X_within (x0 := x2) (x1 := 0) (x2 := 9) (S := S)) nx) ?_
    by_cases q2 : (f_X_within x2 0 9) = 0
    · have W := W.1 q2
      refine po_of (fun _ nx => b_X_answer_15 (fun _ => nx) (fun z => absurd q2 z)) ?_
      refine po_of (fun _ nx => b_X_answer_27 (s_X_bad (S := S)) nx) ?_
      exact ⟨_, _, b_X_answer_31, W⟩
    · have W := W.2 q2
      refine po_of (fun _ nx => b_X_answer_15 (fun z => absurd z q2) (fun _ => nx)) ?_
      refine po_of (fun _ nx => b_X_answer_18 (s_X_within (x0 := x3) (x1 := 0) (x2 := 1) (S := S)) nx) ?_
      by_cases q3 : (f_X_within x3 0 1) = 0
      · have W := W.1 q3
        refine po_of (fun _ nx => b_X_answer_24 (fun z => absurd q3 z) (fun _ => nx)) ?_
        refine po_of (fun _ nx => b_X_answer_27 (s_X_bad (S := S)) nx) ?_
        exact ⟨_, _, b_X_answer_31, W⟩
      · have W := W.2 q3
        refine po_of (fun _ nx => b_X_answer_24 (fun _ => nx) (fun z => absurd z q3)) ?_
        obtain ⟨v5, S4, h11, W⟩ := W
        refine po_of (fun _ nx => b_X_answer_32 h11 nx) ?_
        by_cases q6 : v5 = (-1)
        · have W := W.1 q6
          refine po_of (fun _ nx => b_X_answer_41 (fun _ => nx) (fun z => absurd q6 z)) ?_
          exact ⟨_, _, b_X_answer_53, W⟩
        · have W := W.2 q6
          refine po_of (fun _ nx => b_X_answer_41 (fun z => absurd z q6) (fun _ => nx)) ?_
          by_cases q7 : x3 = 0
          · have W := W.1 q7
            refine po_of (fun _ nx => b_X_answer_49 (fun z => absurd q7 z) (fun _ => nx)) ?_
            exact ⟨_, _, b_X_answer_53, W⟩
          · have W := W.2 q7
            refine po_of (fun _ nx => b_X_answer_49 (fun _ => nx) (fun z => absurd z q7)) ?_
            obtain ⟨v9, S8, h10, W⟩ := W
            refine po_of (fun _ nx => b_X_answer_56 h10 nx) ?_
            exact ⟨_, _, b_X_answer_67, W⟩
theorem e_X_answer {d : Nat} {x1 : Int32} {x2 : Int32} {x3 : Int32} {S : fm_S} {Q : Int32 → fm_S → Prop}
    (W : ((f_X_isDish S x1) = 0 → Q f_X_bad (g_X_bad S)) ∧ (¬ (f_X_isDish S x1) = 0 → ((f_X_within x2 0 9) = 0 → Q f_X_bad (g_X_bad S)) ∧ (¬ (f_X_within x2 0 9) = 0 → ((f_X_within x3 0 1) = 0 → Q f_X_bad (g_X_bad S)) ∧ (¬ (f_X_within x3 0 1) = 0 → am_Ps vI (d + 5) k_Cook_bestSheets [.ref 54, .int x1, .int x2] S fun v5 S4 => ((v5 = (-1) → Q v5 S4) ∧ (¬ v5 = (-1) → (x3 = 0 → Q v5 S4) ∧ (¬ x3 = 0 → am_Ps vI (d + 5) k_Cook_opening [.ref 54, .int x1, .int v5, .int x2] S4 fun v9 S8 => (Q v9 S8)))))))) :
    am_Ps vI (d + 6) k_X_answer [.ref 0, .int x1, .int x2, .int x3] S Q := ps_of (L := [some (.ref 0), some (.int x1), some (.int x2), some (.int x3), none]) rfl (Nat.le_of_ble_eq_true rfl) (Nat.le_of_ble_eq_true rfl) (p_X_answer_0 W)
theorem p_X_game_0 {d : Nat} {x1 : Int32} {S : fm_S} {Q : Int32 → fm_S → Prop}
    (W : ((f_X_within x1 0 9) = 0 → Q f_X_bad (g_X_bad S)) ∧ (¬ (f_X_within x1 0 9) = 0 → am_Ps vI (d + 5) k_Cook_restingPairs [.ref 54, .int x1] S fun v3 S2 => (Q v3 S2))) :
    am_Po vI (d + 6) k_X_game 0 [some (.ref 0), some (.int x1)] [] S Q := by
  refine po_of (fun _ nx => b_X_game_0 (s_X_within (x0 := x1) (x1 := 0) (x2 := 9) (S := S)) nx) ?_
  by_cases q1 : (f_X_within x1 0 9) = 0
  · have W := W.1 q1
    refine po_of (fun _ nx => b_X_game_7 (fun z => absurd q1 z) (fun _ => nx)) ?_
    refine po_of (fun _ nx => b_X_game_10 (s_X_bad (S := S)) nx) ?_
    exact ⟨_, _, b_X_game_14, W⟩
  · have W := W.2 q1
    refine po_of (fun _ nx => b_X_game_7 (fun _ => nx) (fun z => absurd z q1)) ?_
    obtain ⟨v3, S2, h4, W⟩ := W
    refine po_of (fun _ nx => b_X_game_15 h4 nx) ?_
    exact ⟨_, _, b_X_game_23, W⟩
theorem e_X_game {d : Nat} {x1 : Int32} {S : fm_S} {Q : Int32 → fm_S → Prop}
    (W : ((f_X_within x1 0 9) = 0 → Q f_X_bad (g_X_bad S)) ∧ (¬ (f_X_within x1 0 9) = 0 → am_Ps vI (d + 5) k_Cook_restingPairs [.ref 54, .int x1] S fun v3 S2 => (Q v3 S2))) :
    am_Ps vI (d + 6) k_X_game [.ref 0, .int x1] S Q := ps_of (L := [some (.ref 0), some (.int x1)]) rfl (Nat.le_of_ble_eq_true rfl) (Nat.le_of_ble_eq_true rfl) (p_X_game_0 W)
theorem p_X_craved_0 {d : Nat} {x1 : Int32} {S : fm_S} {Q : Int32 → fm_S → Prop}
    (W : ((f_X_isStreet S x1) = 0 → Q f_X_bad (g_X_bad S)) ∧ (¬ (f_X_isStreet S x1) = 0 → (vp_in x1 8) ∧ am_Ps vI (d + 3) k_Notes_cravings [.ref 11, .int x1, .int (S.1 2 x1.toNatClampNeg)] S fun v4 S3 => (Q v4 S3))) :
    am_Po vI (d + 4) k_X_craved 0 [some (.ref 0), some (.int x1)] [] S Q := by
  refine po_of (fun _ nx => b_X_craved_0 (s_X_isStreet (x1 := x1) (S := S)) nx) ?_
  by_cases q1 : (f_X_isStreet S x1) = 0
  · have W := W.1 q1
    refine po_of (fun _ nx => b_X_craved_5 (fun z => absurd q1 z) (fun _ => nx)) ?_
    refine po_of (fun _ nx => b_X_craved_8 (s_X_bad (S := S)) nx) ?_
    exact ⟨_, _, b_X_craved_12, W⟩
  · have W := W.2 q1
    refine po_of (fun _ nx => b_X_craved_5 (fun _ => nx) (fun z => absurd z q1)) ?_
    obtain ⟨g2, W⟩ := W
    obtain ⟨v4, S3, h5, W⟩ := W
    refine po_of (fun _ nx => b_X_craved_13 g2 h5 nx) ?_
    exact ⟨_, _, b_X_craved_33, W⟩
theorem e_X_craved {d : Nat} {x1 : Int32} {S : fm_S} {Q : Int32 → fm_S → Prop}
    (W : ((f_X_isStreet S x1) = 0 → Q f_X_bad (g_X_bad S)) ∧ (¬ (f_X_isStreet S x1) = 0 → (vp_in x1 8) ∧ am_Ps vI (d + 3) k_Notes_cravings [.ref 11, .int x1, .int (S.1 2 x1.toNatClampNeg)] S fun v4 S3 => (Q v4 S3))) :
    am_Ps vI (d + 4) k_X_craved [.ref 0, .int x1] S Q := ps_of (L := [some (.ref 0), some (.int x1)]) rfl (Nat.le_of_ble_eq_true rfl) (Nat.le_of_ble_eq_true rfl) (p_X_craved_0 W)
theorem p_X_is_0 {d : Nat} {x1 : Int32} {o2 : Option Value} {o3 : Option Value} {S : fm_S} {Q : Int32 → fm_S → Prop}
    (W : ((f_X_isStreet S x1) = 0 → Q f_X_bad (g_X_bad S)) ∧ (¬ (f_X_isStreet S x1) = 0 → am_Po vI (d + 4) k_X_is 17 [some (.ref 0), some (.int x1), some (.int 0), some (.int 0)] [] S Q)) :
    am_Po vI (d + 4) k_X_is 0 [some (.ref 0), some (.int x1), o2, o3] [] S Q := by
  refine po_of (fun _ nx => b_X_is_0 (s_X_isStreet (x1 := x1) (S := S)) nx) ?_
  by_cases q1 : (f_X_isStreet S x1) = 0
  · have W := W.1 q1
    refine po_of (fun _ nx => b_X_is_5 (fun z => absurd q1 z) (fun _ => nx)) ?_
    refine po_of (fun _ nx => b_X_is_8 (s_X_bad (S := S)) nx) ?_
    exact ⟨_, _, b_X_is_12, W⟩
  · have W := W.2 q1
    refine po_of (fun _ nx => b_X_is_5 (fun _ => nx) (fun z => absurd z q1)) ?_
    refine po_of (fun _ nx => b_X_is_13 nx) ?_
    exact W
theorem e_X_is {d : Nat} {x1 : Int32} {S : fm_S} {Q : Int32 → fm_S → Prop}
    (W : ((f_X_isStreet S x1) = 0 → Q f_X_bad (g_X_bad S)) ∧ (¬ (f_X_isStreet S x1) = 0 → am_Po vI (d + 4) k_X_is 17 [some (.ref 0), some (.int x1), some (.int 0), some (.int 0)] [] S Q)) :
    am_Ps vI (d + 4) k_X_is [.ref 0, .int x1] S Q := ps_of (L := [some (.ref 0), some (.int x1), none, none]) rfl (Nat.le_of_ble_eq_true rfl) (Nat.le_of_ble_eq_true rfl) (p_X_is_0 W)
theorem p_X_is_17 {d : Nat} {x1 : Int32} {x2 : Int32} {x3 : Int32} {S : fm_S} {Q : Int32 → fm_S → Prop}
    (W : (6 ≤ x3 → Q x2 S) ∧ (¬ 6 ≤ x3 → am_Ps vI (d + 3) k_Notes_cravings [.ref 11, .int x1, .int x3] S fun v3 S2 => (∀ v5 : Int32, v5 = (if v3 = 0 then x2 else x2 ||| (1 <<< (x3 &&& 31))) → (am_Po vI (d + 4) k_X_is 17 [some (.ref 0), some (.int x1), some (.int v5), some (.int (x3 + 1))] [] S2 Q)))) :
    am_Po vI (d + 4) k_X_is 17 [some (.ref 0), some (.int x1), some (.int x2), some (.int x3)] [] S Q := by
  by_cases q1 : 6 ≤ x3
  · have W := W.1 q1
    refine po_of (fun _ nx => b_X_is_17 (fun _ => nx) (fun z => absurd q1 z)) ?_
    exact ⟨_, _, b_X_is_50, W⟩
  · have W := W.2 q1
    refine po_of (fun _ nx => b_X_is_17 (fun z => absurd z q1) (fun _ => nx)) ?_
    obtain ⟨v3, S2, h6, W⟩ := W
    refine po_of (fun _ nx => b_X_is_23 h6 nx) ?_
    have J : ∀ v5 : Int32, v5 = (if v3 = 0 then x2 else x2 ||| (1 <<< (x3 &&& 31))) → am_Po vI (d + 4) k_X_is 44 [some (.ref 0), some (.int x1), some (.int v5), some (.int x3)] [] S2 Q := by
      intro v5 v5_
      have W := W v5 v5_
      refine po_of (fun _ nx => b_X_is_44 nx) ?_
      exact W
    by_cases q4 : v3 = 0
    · refine po_of (fun _ nx => b_X_is_35 (fun _ => nx) (fun z => absurd q4 z)) ?_
      exact J _ (by simp only [if_pos q4])
    · refine po_of (fun _ nx => b_X_is_35 (fun z => absurd z q4) (fun _ => nx)) ?_
      refine po_of (fun _ nx => b_X_is_38 nx) ?_
      exact J _ (by simp only [if_neg q4])
abbrev H_X_is_17 (d : Nat) (x1 : Int32) (x2 : Int32) (x3 : Int32) (S : fm_S) (Q : Int32 → fm_S → Prop) : Prop := am_Po vI (d + 4) k_X_is 17 [some (.ref 0), some (.int x1), some (.int x2), some (.int x3)] [] S Q
theorem p_X_tryNext_0 {d : Nat} {x1 : Int32} {x2 : Int32} {x3 : Int32} {S : fm_S} {Q : Int32 → fm_S → Prop}
    (W : ((f_X_isStreet S x1) = 0 → Q f_X_bad (g_X_bad S)) ∧ (¬ (f_X_isStreet S x1) = 0 → ((f_X_isNoted x2 x3) = 0 → Q f_X_bad (g_X_bad S)) ∧ (¬ (f_X_isNoted x2 x3) = 0 → (vp_in x1 8) ∧ am_Ps vI (d + 4) k_Notes_bestTrial [.ref 11, .int x1, .int (S.1 2 x1.toNatClampNeg), .int x2, .int x3] S fun v5 S4 => (Q v5 S4)))) :
    am_Po vI (d + 5) k_X_tryNext 0 [some (.ref 0), some (.int x1), some (.int x2), some (.int x3)] [] S Q := by
  refine po_of (fun _ nx => b_X_tryNext_0 (s_X_isStreet (x1 := x1) (S := S)) nx) ?_
  by_cases q1 : (f_X_isStreet S x1) = 0
  · have W := W.1 q1
    refine po_of (fun _ nx => b_X_tryNext_5 (fun _ => nx) (fun z => absurd q1 z)) ?_
    refine po_of (fun _ nx => b_X_tryNext_16 (s_X_bad (S := S)) nx) ?_
    exact ⟨_, _, b_X_tryNext_20, W⟩
  · have W := W.2 q1
    refine po_of (fun _ nx => b_X_tryNext_5 (fun z => absurd z q1) (fun _ => nx)) ?_
    refine po_of (fun _ nx => b_X_tryNext_8 (s_X_isNoted (x0 := x2) (x1 := x3) (S := S)) nx) ?_
    by_cases q2 : (f_X_isNoted x2 x3) = 0
    · have W := W.1 q2
      refine po_of (fun _ nx => b_X_tryNext_13 (fun z => absurd q2 z) (fun _ => nx)) ?_
      refine po_of (fun _ nx => b_X_tryNext_16 (s_X_bad (S := S)) nx) ?_
      exact ⟨_, _, b_X_tryNext_20, W⟩
    · have W := W.2 q2
      refine po_of (fun _ nx => b_X_tryNext_13 (fun _ => nx) (fun z => absurd z q2)) ?_
      obtain ⟨g3, W⟩ := W
      obtain ⟨v5, S4, h6, W⟩ := W
      refine po_of (fun _ nx => b_X_tryNext_21 g3 h6 nx) ?_
      exact ⟨_, _, b_X_tryNext_43, W⟩
theorem e_X_tryNext {d : Nat} {x1 : Int32} {x2 : Int32} {x3 : Int32} {S : fm_S} {Q : Int32 → fm_S → Prop}
    (W : ((f_X_isStreet S x1) = 0 → Q f_X_bad (g_X_bad S)) ∧ (¬ (f_X_isStreet S x1) = 0 → ((f_X_isNoted x2 x3) = 0 → Q f_X_bad (g_X_bad S)) ∧ (¬ (f_X_isNoted x2 x3) = 0 → (vp_in x1 8) ∧ am_Ps vI (d + 4) k_Notes_bestTrial [.ref 11, .int x1, .int (S.1 2 x1.toNatClampNeg), .int x2, .int x3] S fun v5 S4 => (Q v5 S4)))) :
    am_Ps vI (d + 5) k_X_tryNext [.ref 0, .int x1, .int x2, .int x3] S Q := ps_of (L := [some (.ref 0), some (.int x1), some (.int x2), some (.int x3)]) rfl (Nat.le_of_ble_eq_true rfl) (Nat.le_of_ble_eq_true rfl) (p_X_tryNext_0 W)
theorem p_X_rain_0 {d : Nat} {x1 : Int32} {x2 : Int32} {x3 : Int32} {S : fm_S} {Q : Int32 → fm_S → Prop}
    (W : ((f_X_isDish S x1) = 0 → Q f_X_bad (g_X_bad S)) ∧ (¬ (f_X_isDish S x1) = 0 → ((f_X_within x2 0 10) = 0 → Q f_X_bad (g_X_bad S)) ∧ (¬ (f_X_within x2 0 10) = 0 → ((f_X_within x3 0 8) = 0 → Q f_X_bad (g_X_bad S)) ∧ (¬ (f_X_within x3 0 8) = 0 → am_Ps vI (d + 4) k_Cook_opening [.ref 54, .int x1, .int (-1), .int 0] S fun v5 S4 => (am_Ps vV (d + 4) k_Frac_chance [.ref 122, .int v5, .int x3, .int x2] S4 fun _ S6 => (Q 1 S6)))))) :
    am_Po vI (d + 5) k_X_rain 0 [some (.ref 0), some (.int x1), some (.int x2), some (.int x3)] [] S Q := by
  refine po_of (fun _ nx => b_X_rain_0 (s_X_isDish (x1 := x1) (S := S)) nx) ?_
  by_cases q1 : (f_X_isDish S x1) = 0
  · have W := W.1 q1
    refine po_of (fun _ nx => b_X_rain_5 (fun _ => nx) (fun z => absurd q1 z)) ?_
    refine po_of (fun _ nx => b_X_rain_28 (s_X_bad (S := S)) nx) ?_
    exact ⟨_, _, b_X_rain_32, W⟩
  · have W := W.2 q1
    refine po_of (fun _ nx => b_X_rain_5 (fun z => absurd z q1) (fun _ => nx)) ?_
    refine po_of (fun _ nx => b_X_rain_8 (s_X_within (x0 := x2) (x1 := 0) (x2 := 10) (S := S)) nx) ?_
    by_cases q2 : (f_X_within x2 0 10) = 0
    · have W := W.1 q2
      refine po_of (fun _ nx => b_X_rain_15 (fun _ => nx) (fun z => absurd q2 z)) ?_
      refine po_of (fun _ nx => b_X_rain_28 (s_X_bad (S := S)) nx) ?_
      exact ⟨_, _, b_X_rain_32, W⟩
    · have W := W.2 q2
      refine po_of (fun _ nx => b_X_rain_15 (fun z => absurd z q2) (fun _ => nx)) ?_
      refine po_of (fun _ nx => b_X_rain_18 (s_X_within (x0 := x3) (x1 := 0) (x2 := 8) (S := S)) nx) ?_
      by_cases q3 : (f_X_within x3 0 8) = 0
      · have W := W.1 q3
        refine po_of (fun _ nx => b_X_rain_25 (fun z => absurd q3 z) (fun _ => nx)) ?_
        refine po_of (fun _ nx => b_X_rain_28 (s_X_bad (S := S)) nx) ?_
        exact ⟨_, _, b_X_rain_32, W⟩
      · have W := W.2 q3
        refine po_of (fun _ nx => b_X_rain_25 (fun _ => nx) (fun z => absurd z q3)) ?_
        obtain ⟨v5, S4, h8, W⟩ := W
        refine po_of (fun _ nx => b_X_rain_33 h8 nx) ?_
        obtain ⟨_, S6, h7, W⟩ := W
        refine po_of (fun _ nx => b_X_rain_47 h7 nx) ?_
        exact ⟨_, _, b_X_rain_52, W⟩
theorem e_X_rain {d : Nat} {x1 : Int32} {x2 : Int32} {x3 : Int32} {S : fm_S} {Q : Int32 → fm_S → Prop}
    (W : ((f_X_isDish S x1) = 0 → Q f_X_bad (g_X_bad S)) ∧ (¬ (f_X_isDish S x1) = 0 → ((f_X_within x2 0 10) = 0 → Q f_X_bad (g_X_bad S)) ∧ (¬ (f_X_within x2 0 10) = 0 → ((f_X_within x3 0 8) = 0 → Q f_X_bad (g_X_bad S)) ∧ (¬ (f_X_within x3 0 8) = 0 → am_Ps vI (d + 4) k_Cook_opening [.ref 54, .int x1, .int (-1), .int 0] S fun v5 S4 => (am_Ps vV (d + 4) k_Frac_chance [.ref 122, .int v5, .int x3, .int x2] S4 fun _ S6 => (Q 1 S6)))))) :
    am_Ps vI (d + 5) k_X_rain [.ref 0, .int x1, .int x2, .int x3] S Q := ps_of (L := [some (.ref 0), some (.int x1), some (.int x2), some (.int x3)]) rfl (Nat.le_of_ble_eq_true rfl) (Nat.le_of_ble_eq_true rfl) (p_X_rain_0 W)
theorem p_X_sieges_0 {d : Nat} {x1 : Int32} {x2 : Int32} {S : fm_S} {Q : Int32 → fm_S → Prop}
    (W : ((f_X_within x1 0 999999) = 0 → Q f_X_bad (g_X_bad S)) ∧ (¬ (f_X_within x1 0 999999) = 0 → ((f_X_within x2 0 60) = 0 → Q f_X_bad (g_X_bad S)) ∧ (¬ (f_X_within x2 0 60) = 0 → am_Ps vI (d + 5) k_Cook_openAfter [.ref 54, .int x1, .int x2] S fun v4 S3 => (Q v4 S3)))) :
    am_Po vI (d + 6) k_X_sieges 0 [some (.ref 0), some (.int x1), some (.int x2)] [] S Q := by
  refine po_of (fun _ nx => b_X_sieges_0 (s_X_within (x0 := x1) (x1 := 0) (x2 := 999999) (S := S)) nx) ?_
  by_cases q1 : (f_X_within x1 0 999999) = 0
  · have W := W.1 q1
    refine po_of (fun _ nx => b_X_sieges_7 (fun _ => nx) (fun z => absurd q1 z)) ?_
    refine po_of (fun _ nx => b_X_sieges_20 (s_X_bad (S := S)) nx) ?_
    exact ⟨_, _, b_X_sieges_24, W⟩
  · have W := W.2 q1
    refine po_of (fun _ nx => b_X_sieges_7 (fun z => absurd z q1) (fun _ => nx)) ?_
    refine po_of (fun _ nx => b_X_sieges_10 (s_X_within (x0 := x2) (x1 := 0) (x2 := 60) (S := S)) nx) ?_
    by_cases q2 : (f_X_within x2 0 60) = 0
    · have W := W.1 q2
      refine po_of (fun _ nx => b_X_sieges_17 (fun z => absurd q2 z) (fun _ => nx)) ?_
      refine po_of (fun _ nx => b_X_sieges_20 (s_X_bad (S := S)) nx) ?_
      exact ⟨_, _, b_X_sieges_24, W⟩
    · have W := W.2 q2
      refine po_of (fun _ nx => b_X_sieges_17 (fun _ => nx) (fun z => absurd z q2)) ?_
      obtain ⟨v4, S3, h5, W⟩ := W
      refine po_of (fun _ nx => b_X_sieges_25 h5 nx) ?_
      exact ⟨_, _, b_X_sieges_34, W⟩
theorem e_X_sieges {d : Nat} {x1 : Int32} {x2 : Int32} {S : fm_S} {Q : Int32 → fm_S → Prop}
    (W : ((f_X_within x1 0 999999) = 0 → Q f_X_bad (g_X_bad S)) ∧ (¬ (f_X_within x1 0 999999) = 0 → ((f_X_within x2 0 60) = 0 → Q f_X_bad (g_X_bad S)) ∧ (¬ (f_X_within x2 0 60) = 0 → am_Ps vI (d + 5) k_Cook_openAfter [.ref 54, .int x1, .int x2] S fun v4 S3 => (Q v4 S3)))) :
    am_Ps vI (d + 6) k_X_sieges [.ref 0, .int x1, .int x2] S Q := ps_of (L := [some (.ref 0), some (.int x1), some (.int x2)]) rfl (Nat.le_of_ble_eq_true rfl) (Nat.le_of_ble_eq_true rfl) (p_X_sieges_0 W)
theorem p_X_image_0 {d : Nat} {x1 : Int32} {S : fm_S} {Q : Int32 → fm_S → Prop}
    (W : ((f_X_isImage x1) = 0 → Q f_X_bad (g_X_bad S)) ∧ (¬ (f_X_isImage x1) = 0 → (vp_in x1 2) ∧ (fm_tg (fm_rf 123 x1.toNatClampNeg) = 6) ∧ am_Ps vV (d + 2) k_Town_copy [.ref (fm_rf 123 x1.toNatClampNeg), .ref 1] S fun _ S4 => (Q 1 (fm_wI S4 230 x1.toNatClampNeg 1)))) :
    am_Po vI (d + 3) k_X_image 0 [some (.ref 0), some (.int x1)] [] S Q := by
  refine po_of (fun _ nx => b_X_image_0 (s_X_isImage (x0 := x1) (S := S)) nx) ?_
  by_cases q1 : (f_X_isImage x1) = 0
  · have W := W.1 q1
    refine po_of (fun _ nx => b_X_image_4 (fun z => absurd q1 z) (fun _ => nx)) ?_
    refine po_of (fun _ nx => b_X_image_7 (s_X_bad (S := S)) nx) ?_
    exact ⟨_, _, b_X_image_11, W⟩
  · have W := W.2 q1
    refine po_of (fun _ nx => b_X_image_4 (fun _ => nx) (fun z => absurd z q1)) ?_
    obtain ⟨g2, W⟩ := W
    obtain ⟨g3, W⟩ := W
    obtain ⟨_, S4, h5, W⟩ := W
    refine po_of (fun _ nx => b_X_image_12 g2 g3 h5 nx) ?_
    exact ⟨_, _, b_X_image_25 g2, W⟩
theorem e_X_image {d : Nat} {x1 : Int32} {S : fm_S} {Q : Int32 → fm_S → Prop}
    (W : ((f_X_isImage x1) = 0 → Q f_X_bad (g_X_bad S)) ∧ (¬ (f_X_isImage x1) = 0 → (vp_in x1 2) ∧ (fm_tg (fm_rf 123 x1.toNatClampNeg) = 6) ∧ am_Ps vV (d + 2) k_Town_copy [.ref (fm_rf 123 x1.toNatClampNeg), .ref 1] S fun _ S4 => (Q 1 (fm_wI S4 230 x1.toNatClampNeg 1)))) :
    am_Ps vI (d + 3) k_X_image [.ref 0, .int x1] S Q := ps_of (L := [some (.ref 0), some (.int x1)]) rfl (Nat.le_of_ble_eq_true rfl) (Nat.le_of_ble_eq_true rfl) (p_X_image_0 W)
theorem p_X_from_0 {d : Nat} {x1 : Int32} {S : fm_S} {Q : Int32 → fm_S → Prop}
    (W : ((f_X_isImage x1) = 0 → Q f_X_bad (g_X_bad S)) ∧ (¬ (f_X_isImage x1) = 0 → (vp_in x1 2) ∧ ((S.1 230 x1.toNatClampNeg) = 0 → Q f_X_no (g_X_no S)) ∧ (¬ (S.1 230 x1.toNatClampNeg) = 0 → am_Ps vV (d + 2) k_Town_copy [.ref 1, .ref (fm_rf 123 x1.toNatClampNeg)] S fun _ S4 => (Q 1 S4)))) :
    am_Po vI (d + 3) k_X_from 0 [some (.ref 0), some (.int x1)] [] S Q := by
  refine po_of (fun _ nx => b_X_from_0 (s_X_isImage (x0 := x1) (S := S)) nx) ?_
  by_cases q1 : (f_X_isImage x1) = 0
  · have W := W.1 q1
    refine po_of (fun _ nx => b_X_from_4 (fun z => absurd q1 z) (fun _ => nx)) ?_
    refine po_of (fun _ nx => b_X_from_7 (s_X_bad (S := S)) nx) ?_
    exact ⟨_, _, b_X_from_11, W⟩
  · have W := W.2 q1
    refine po_of (fun _ nx => b_X_from_4 (fun _ => nx) (fun z => absurd z q1)) ?_
    obtain ⟨g2, W⟩ := W
    by_cases q3 : (S.1 230 x1.toNatClampNeg) = 0
    · have W := W.1 q3
      refine po_of (fun _ nx => b_X_from_12 g2 (fun z => absurd q3 z) (fun _ => nx)) ?_
      refine po_of (fun _ nx => b_X_from_21 (s_X_no (S := S)) nx) ?_
      exact ⟨_, _, b_X_from_25, W⟩
    · have W := W.2 q3
      refine po_of (fun _ nx => b_X_from_12 g2 (fun _ => nx) (fun z => absurd z q3)) ?_
      obtain ⟨_, S4, h5, W⟩ := W
      refine po_of (fun _ nx => b_X_from_26 g2 h5 nx) ?_
      exact ⟨_, _, b_X_from_39, W⟩
theorem e_X_from {d : Nat} {x1 : Int32} {S : fm_S} {Q : Int32 → fm_S → Prop}
    (W : ((f_X_isImage x1) = 0 → Q f_X_bad (g_X_bad S)) ∧ (¬ (f_X_isImage x1) = 0 → (vp_in x1 2) ∧ ((S.1 230 x1.toNatClampNeg) = 0 → Q f_X_no (g_X_no S)) ∧ (¬ (S.1 230 x1.toNatClampNeg) = 0 → am_Ps vV (d + 2) k_Town_copy [.ref 1, .ref (fm_rf 123 x1.toNatClampNeg)] S fun _ S4 => (Q 1 S4)))) :
    am_Ps vI (d + 3) k_X_from [.ref 0, .int x1] S Q := ps_of (L := [some (.ref 0), some (.int x1)]) rfl (Nat.le_of_ble_eq_true rfl) (Nat.le_of_ble_eq_true rfl) (p_X_from_0 W)
theorem p_X_digest_0 {d : Nat} {o1 : Option Value} {o2 : Option Value} {o3 : Option Value} {S : fm_S} {Q : Int64 → fm_S → Prop}
    (W : am_Po vL (d + 3) k_X_digest 6 [some (.ref 0), some (.long 1069), none, some (.int 0)] [] S Q) :
    am_Po vL (d + 3) k_X_digest 0 [some (.ref 0), o1, o2, o3] [] S Q := by
  refine po_of (fun _ nx => b_X_digest_0 nx) ?_
  exact W
theorem e_X_digest {d : Nat} {S : fm_S} {Q : Int64 → fm_S → Prop}
    (W : am_Po vL (d + 3) k_X_digest 6 [some (.ref 0), some (.long 1069), none, some (.int 0)] [] S Q) :
    am_Ps vL (d + 3) k_X_digest [.ref 0] S Q := ps_of (L := [some (.ref 0), none, none, none]) rfl (Nat.le_of_ble_eq_true rfl) (Nat.le_of_ble_eq_true rfl) (p_X_digest_0 W)
theorem p_X_digest_6 {d : Nat} {y1 : Int64} {x3 : Int32} {S : fm_S} {Q : Int64 → fm_S → Prop}
    (W : (6 < x3 → (vp_in (S.1 1 0) 9) ∧ am_Ps vL (d + 2) k_Town_mixLanes [.ref 1, .long (n_Town_mixStreets S 1 y1 (((S.1 1 0)).toNatClampNeg))] S fun v4 S3 => (am_Ps vL (d + 2) k_X_mixAll [.long v4, .ref 6] S3 fun v6 S5 => (am_Ps vL (d + 2) k_X_mixAll [.long v6, .ref 7] S5 fun v8 S7 => ((vp_in (S7.1 1 7) 7) ∧ (vp_in (S7.1 11 0) 7) ∧ Q (f_X_mix (f_X_mix (n_Notes_mixNotes S7 11 (n_Town_mixDishes S7 1 v8 (((S7.1 1 7)).toNatClampNeg)) (((S7.1 11 0)).toNatClampNeg)) (S7.2.1 122 0)) (S7.2.1 122 1)) S7)))) ∧ (¬ 6 < x3 → (x3 = 3 → vp_in (S.1 1 0) 9) ∧ am_Po vL (d + 3) k_X_digest 6 [some (.ref 0), some (.long (f_X_mix y1 ((f_X_count S x3).toInt64))), none, some (.int (x3 + 1))] [] (g_X_count S x3) Q)) :
    am_Po vL (d + 3) k_X_digest 6 [some (.ref 0), some (.long y1), none, some (.int x3)] [] S Q := by
  by_cases q1 : 6 < x3
  · have W := W.1 q1
    refine po_of (fun _ nx => b_X_digest_6 (fun _ => nx) (fun z => absurd q1 z)) ?_
    obtain ⟨g2, W⟩ := W
    refine po_of (fun _ nx => b_X_digest_29 (s_Town_mixStreets (a0 := 1) (y1 := y1) (S := S) (by decide +kernel) g2) nx) ?_
    obtain ⟨v4, S3, h13, W⟩ := W
    refine po_of (fun _ nx => b_X_digest_37 h13 nx) ?_
    obtain ⟨v6, S5, h12, W⟩ := W
    refine po_of (fun _ nx => b_X_digest_46 h12 nx) ?_
    obtain ⟨v8, S7, h11, W⟩ := W
    refine po_of (fun _ nx => b_X_digest_58 h11 nx) ?_
    obtain ⟨g9, W⟩ := W
    refine po_of (fun _ nx => b_X_digest_70 (s_Town_mixDishes (a0 := 1) (y1 := v8) (S := S7) (by decide +kernel) g9) nx) ?_
    obtain ⟨g10, W⟩ := W
    refine po_of (fun _ nx => b_X_digest_79 (s_Notes_mixNotes (a0 := 11) (y1 := (n_Town_mixDishes S7 1 v8 (((S7.1 1 7)).toNatClampNeg))) (S := S7) (by decide +kernel) g10) nx) ?_
    refine po_of (fun _ nx => b_X_digest_91 (s_X_mix (y0 := (n_Notes_mixNotes S7 11 (n_Town_mixDishes S7 1 v8 (((S7.1 1 7)).toNatClampNeg)) (((S7.1 11 0)).toNatClampNeg))) (y2 := (S7.2.1 122 0)) (S := S7)) nx) ?_
    refine po_of (fun _ nx => b_X_digest_103 (s_X_mix (y0 := (f_X_mix (n_Notes_mixNotes S7 11 (n_Town_mixDishes S7 1 v8 (((S7.1 1 7)).toNatClampNeg)) (((S7.1 11 0)).toNatClampNeg)) (S7.2.1 122 0))) (y2 := (S7.2.1 122 1)) (S := S7)) nx) ?_
    exact ⟨_, _, b_X_digest_113, W⟩
  · have W := W.2 q1
    refine po_of (fun _ nx => b_X_digest_6 (fun z => absurd z q1) (fun _ => nx)) ?_
    obtain ⟨g14, W⟩ := W
    refine po_of (fun _ nx => b_X_digest_12 (s_X_count (x1 := x3) (S := S) g14) nx) ?_
    refine po_of (fun _ nx => b_X_digest_18 (s_X_mix (y0 := y1) (y2 := ((f_X_count S x3).toInt64)) (S := (g_X_count S x3))) nx) ?_
    refine po_of (fun _ nx => b_X_digest_22 nx) ?_
    exact W
abbrev H_X_digest_6 (d : Nat) (y1 : Int64) (x3 : Int32) (S : fm_S) (Q : Int64 → fm_S → Prop) : Prop := am_Po vL (d + 3) k_X_digest 6 [some (.ref 0), some (.long y1), none, some (.int x3)] [] S Q
theorem p_X_mixAll_0 {d : Nat} {y0 : Int64} {a2 : Nat} {o3 : Option Value} {S : fm_S} {Q : Int64 → fm_S → Prop}
    (W : am_Po vL (d + 1) k_X_mixAll 2 [some (.long y0), none, some (.ref a2), some (.int 0)] [] S Q) :
    am_Po vL (d + 1) k_X_mixAll 0 [some (.long y0), none, some (.ref a2), o3] [] S Q := by
  refine po_of (fun _ nx => b_X_mixAll_0 nx) ?_
  exact W
theorem e_X_mixAll {d : Nat} {y0 : Int64} {a2 : Nat} {S : fm_S} {Q : Int64 → fm_S → Prop}
    (W : am_Po vL (d + 1) k_X_mixAll 2 [some (.long y0), none, some (.ref a2), some (.int 0)] [] S Q) :
    am_Ps vL (d + 1) k_X_mixAll [.long y0, .ref a2] S Q := ps_of (L := [some (.long y0), none, some (.ref a2), none]) rfl (Nat.le_of_ble_eq_true rfl) (Nat.le_of_ble_eq_true rfl) (p_X_mixAll_0 W)
theorem p_X_mixAll_2 {d : Nat} {y0 : Int64} {a2 : Nat} {x3 : Int32} {S : fm_S} {Q : Int64 → fm_S → Prop}
    (W : (fm_tg a2 = 100) ∧ ((Int32.ofNat (fm_ln a2)) ≤ x3 → Q y0 S) ∧ (¬ (Int32.ofNat (fm_ln a2)) ≤ x3 → (vp_in x3 (fm_ln a2)) ∧ am_Po vL (d + 1) k_X_mixAll 2 [some (.long (f_X_mix y0 ((S.1 a2 x3.toNatClampNeg).toInt64))), none, some (.ref a2), some (.int (x3 + 1))] [] S Q)) :
    am_Po vL (d + 1) k_X_mixAll 2 [some (.long y0), none, some (.ref a2), some (.int x3)] [] S Q := by
  obtain ⟨g1, W⟩ := W
  by_cases q2 : (Int32.ofNat (fm_ln a2)) ≤ x3
  · have W := W.1 q2
    refine po_of (fun _ nx => b_X_mixAll_2 g1 (fun _ => nx) (fun z => absurd q2 z)) ?_
    exact ⟨_, _, b_X_mixAll_23, W⟩
  · have W := W.2 q2
    refine po_of (fun _ nx => b_X_mixAll_2 g1 (fun z => absurd z q2) (fun _ => nx)) ?_
    obtain ⟨g3, W⟩ := W
    refine po_of (fun _ nx => b_X_mixAll_8 g1 g3 (s_X_mix (y0 := y0) (y2 := ((S.1 a2 x3.toNatClampNeg).toInt64)) (S := S)) nx) ?_
    refine po_of (fun _ nx => b_X_mixAll_16 nx) ?_
    exact W
abbrev H_X_mixAll_2 (d : Nat) (y0 : Int64) (a2 : Nat) (x3 : Int32) (S : fm_S) (Q : Int64 → fm_S → Prop) : Prop := am_Po vL (d + 1) k_X_mixAll 2 [some (.long y0), none, some (.ref a2), some (.int x3)] [] S Q
