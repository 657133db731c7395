/-! rules as weakest preconditions: printed by wip/whole/gen15.py -/
theorem p_M_read_0 {d : Nat} {o1 : Option Value} {o2 : Option Value} {o3 : Option Value} {o4 : Option Value} {S : fm_S} {Q : Int32 → fm_S → Prop}
    (W : am_Po vI (d + 5) k_M_read 16 [some (.ref 231), some (.int 0), some (.int 1), o3, o4] [] (fm_wI (m_first S 233 4) 231 11 0) Q) :
    am_Po vI (d + 5) k_M_read 0 [some (.ref 231), o1, o2, o3, o4] [] S Q := by
  refine po_of (fun _ nx => b_M_read_0 (s_M_first (a0 := 233) (S := S) (by decide +kernel) (by decide +kernel)) nx) ?_
  refine po_of (fun _ nx => b_M_read_7 nx) ?_
  exact W
theorem e_M_read {d : Nat} {S : fm_S} {Q : Int32 → fm_S → Prop}
    (W : am_Po vI (d + 5) k_M_read 16 [some (.ref 231), some (.int 0), some (.int 1), none, none] [] (fm_wI (m_first S 233 4) 231 11 0) Q) :
    am_Ps vI (d + 5) k_M_read [.ref 231] S Q := ps_of (L := [some (.ref 231), none, none, none, none]) rfl (Nat.le_of_ble_eq_true rfl) (Nat.le_of_ble_eq_true rfl) (p_M_read_0 W)
theorem p_M_read_16 {d : Nat} {x1 : Int32} {x2 : Int32} {o3 : Option Value} {o4 : Option Value} {S : fm_S} {Q : Int32 → fm_S → Prop}
    (W : (x2 = 0 → am_Po vI (d + 5) k_M_read 139 [some (.ref 231), some (.int x1), some (.int x2), some (.int 0), o4] [] S Q) ∧ (¬ x2 = 0 → am_Ps vI (d + 4) k_M_word [.ref 231] S fun v3 S2 => ((v3 < 0 → Q ((-10) - (S2.1 231 12)) S2) ∧ (¬ v3 < 0 → ∀ v6 : Int32, v6 = (if v3 = 0 then (1 : Int32) else (0 : Int32)) → (∀ v8 : Int32, v8 = (if x1 = 0 then (1 : Int32) else (0 : Int32)) → (∀ v16 : Int32, v16 = (if v6 = v8 then if v3 = 1 then if 8 ≤ (S2.1 233 0) then (0 : Int32) else if v3 = 5 then if 6 ≤ (S2.1 233 1) then (0 : Int32) else (1 : Int32) else (1 : Int32) else if v3 = 5 then if 6 ≤ (S2.1 233 1) then (0 : Int32) else (1 : Int32) else (1 : Int32) else (0 : Int32)) → ((v16 = 0 → Q ((-10) - (S2.1 231 12)) S2) ∧ (¬ v16 = 0 → am_Ps vI (d + 4) k_M_item [.ref 231, .int v3] S2 fun v19 S18 => ((v19 = 0 → Q ((-10) - (S18.1 231 12)) S18) ∧ (¬ v19 = 0 → am_Ps vV (d + 4) k_M_skip [.ref 231] S18 fun _ S21 => (∀ v23 : Int32, v23 = (if (S21.1 231 5) ≤ (S21.1 231 11) then (0 : Int32) else (1 : Int32)) → (am_Po vI (d + 5) k_M_read 16 [some (.ref 231), some (.int (x1 + 1)), some (.int v23), some (.int v3), some (.int v16)] [] S21 Q)))))))))))) :
    am_Po vI (d + 5) k_M_read 16 [some (.ref 231), some (.int x1), some (.int x2), o3, o4] [] S Q := by
  by_cases q1 : x2 = 0
  · have W := W.1 q1
    refine po_of (fun _ nx => b_M_read_16 (fun _ => nx) (fun z => absurd q1 z)) ?_
    refine po_of (fun _ nx => b_M_read_137 nx) ?_
    exact W
  · have W := W.2 q1
    refine po_of (fun _ nx => b_M_read_16 (fun z => absurd z q1) (fun _ => nx)) ?_
    obtain ⟨v3, S2, h26, W⟩ := W
    refine po_of (fun _ nx => b_M_read_20 h26 nx) ?_
    by_cases q4 : v3 < 0
    · have W := W.1 q4
      refine po_of (fun _ nx => b_M_read_24 (fun _ => nx) (fun z => absurd q4 z)) ?_
      refine po_of (fun _ nx => b_M_read_86 nx) ?_
      refine po_of (fun _ nx => b_M_read_87 (fun _ => nx) (fun z => absurd z (by decide))) ?_
      exact ⟨_, _, b_M_read_102, W⟩
    · have W := W.2 q4
      refine po_of (fun _ nx => b_M_read_24 (fun z => absurd z q4) (fun _ => nx)) ?_
      have J : ∀ v6 : Int32, v6 = (if v3 = 0 then (1 : Int32) else (0 : Int32)) → am_Po vI (d + 5) k_M_read 38 [some (.ref 231), some (.int x1), some (.int x2), some (.int v3), o4] [.int v6] S2 Q := by
        intro v6 v6_
        have W := W v6 v6_
        have J : ∀ v8 : Int32, v8 = (if x1 = 0 then (1 : Int32) else (0 : Int32)) → am_Po vI (d + 5) k_M_read 47 [some (.ref 231), some (.int x1), some (.int x2), some (.int v3), o4] [.int v8, .int v6] S2 Q := by
          intro v8 v8_
          have W := W v8 v8_
          have J : ∀ v16 : Int32, v16 = (if v6 = v8 then if v3 = 1 then if 8 ≤ (S2.1 233 0) then (0 : Int32) else if v3 = 5 then if 6 ≤ (S2.1 233 1) then (0 : Int32) else (1 : Int32) else (1 : Int32) else if v3 = 5 then if 6 ≤ (S2.1 233 1) then (0 : Int32) else (1 : Int32) else (1 : Int32) else (0 : Int32)) → am_Po vI (d + 5) k_M_read 87 [some (.ref 231), some (.int x1), some (.int x2), some (.int v3), o4] [.int v16] S2 Q := by
            intro v16 v16_
            have W := W v16 v16_
            by_cases q17 : v16 = 0
            · have W := W.1 q17
              refine po_of (fun _ nx => b_M_read_87 (fun _ => nx) (fun z => absurd q17 z)) ?_
              exact ⟨_, _, b_M_read_102, W⟩
            · have W := W.2 q17
              refine po_of (fun _ nx => b_M_read_87 (fun z => absurd z q17) (fun _ => nx)) ?_
              obtain ⟨v19, S18, h25, W⟩ := W
              refine po_of (fun _ nx => b_M_read_94 h25 nx) ?_
              by_cases q20 : v19 = 0
              · have W := W.1 q20
                refine po_of (fun _ nx => b_M_read_99 (fun z => absurd q20 z) (fun _ => nx)) ?_
                exact ⟨_, _, b_M_read_102, W⟩
              · have W := W.2 q20
                refine po_of (fun _ nx => b_M_read_99 (fun _ => nx) (fun z => absurd z q20)) ?_
                obtain ⟨_, S21, h24, W⟩ := W
                refine po_of (fun _ nx => b_M_read_110 h24 nx) ?_
                have J : ∀ v23 : Int32, v23 = (if (S21.1 231 5) ≤ (S21.1 231 11) then (0 : Int32) else (1 : Int32)) → am_Po vI (d + 5) k_M_read 133 [some (.ref 231), some (.int (x1 + 1)), some (.int x2), some (.int v3), some (.int v16)] [.int v23] S21 Q := by
                  intro v23 v23_
                  have W := W v23 v23_
                  refine po_of (fun _ nx => b_M_read_133 nx) ?_
                  exact W
                by_cases q22 : (S21.1 231 5) ≤ (S21.1 231 11)
                · refine po_of (fun _ nx => b_M_read_117 (fun _ => nx) (fun z => absurd q22 z)) ?_
                  refine po_of (fun _ nx => b_M_read_132 nx) ?_
                  exact J _ (by simp only [if_pos q22])
                · refine po_of (fun _ nx => b_M_read_117 (fun z => absurd z q22) (fun _ => nx)) ?_
                  refine po_of (fun _ nx => b_M_read_128 nx) ?_
                  exact J _ (by simp only [if_neg q22])
          by_cases q9 : v6 = v8
          · refine po_of (fun _ nx => b_M_read_47 (fun z => absurd q9 z) (fun _ => nx)) ?_
            by_cases q10 : v3 = 1
            · refine po_of (fun _ nx => b_M_read_50 (fun z => absurd q10 z) (fun _ => nx)) ?_
              by_cases q11 : 8 ≤ (S2.1 233 0)
              · refine po_of (fun _ nx => b_M_read_55 (fun _ => nx) (fun z => absurd q11 z)) ?_
                refine po_of (fun _ nx => b_M_read_86 nx) ?_
                exact J _ (by simp only [if_pos q9, if_pos q10, if_pos q11])
              · refine po_of (fun _ nx => b_M_read_55 (fun z => absurd z q11) (fun _ => nx)) ?_
                by_cases q12 : v3 = 5
                · refine po_of (fun _ nx => b_M_read_66 (fun z => absurd q12 z) (fun _ => nx)) ?_
                  by_cases q13 : 6 ≤ (S2.1 233 1)
                  · refine po_of (fun _ nx => b_M_read_71 (fun _ => nx) (fun z => absurd q13 z)) ?_
                    refine po_of (fun _ nx => b_M_read_86 nx) ?_
                    exact J _ (by simp only [if_pos q9, if_pos q10, if_neg q11, if_pos q12, if_pos q13])
                  · refine po_of (fun _ nx => b_M_read_71 (fun z => absurd z q13) (fun _ => nx)) ?_
                    refine po_of (fun _ nx => b_M_read_82 nx) ?_
                    exact J _ (by simp only [if_pos q9, if_pos q10, if_neg q11, if_pos q12, if_neg q13])
                · refine po_of (fun _ nx => b_M_read_66 (fun _ => nx) (fun z => absurd z q12)) ?_
                  refine po_of (fun _ nx => b_M_read_82 nx) ?_
                  exact J _ (by simp only [if_pos q9, if_pos q10, if_neg q11, if_neg q12])
            · refine po_of (fun _ nx => b_M_read_50 (fun _ => nx) (fun z => absurd z q10)) ?_
              by_cases q14 : v3 = 5
              · refine po_of (fun _ nx => b_M_read_66 (fun z => absurd q14 z) (fun _ => nx)) ?_
                by_cases q15 : 6 ≤ (S2.1 233 1)
                · refine po_of (fun _ nx => b_M_read_71 (fun _ => nx) (fun z => absurd q15 z)) ?_
                  refine po_of (fun _ nx => b_M_read_86 nx) ?_
                  exact J _ (by simp only [if_pos q9, if_neg q10, if_pos q14, if_pos q15])
                · refine po_of (fun _ nx => b_M_read_71 (fun z => absurd z q15) (fun _ => nx)) ?_
                  refine po_of (fun _ nx => b_M_read_82 nx) ?_
                  exact J _ (by simp only [if_pos q9, if_neg q10, if_pos q14, if_neg q15])
              · refine po_of (fun _ nx => b_M_read_66 (fun _ => nx) (fun z => absurd z q14)) ?_
                refine po_of (fun _ nx => b_M_read_82 nx) ?_
                exact J _ (by simp only [if_pos q9, if_neg q10, if_neg q14])
          · refine po_of (fun _ nx => b_M_read_47 (fun _ => nx) (fun z => absurd z q9)) ?_
            refine po_of (fun _ nx => b_M_read_86 nx) ?_
            exact J _ (by simp only [if_neg q9])
        by_cases q7 : x1 = 0
        · refine po_of (fun _ nx => b_M_read_38 (fun z => absurd q7 z) (fun _ => nx)) ?_
          refine po_of (fun _ nx => b_M_read_42 nx) ?_
          exact J _ (by simp only [if_pos q7])
        · refine po_of (fun _ nx => b_M_read_38 (fun _ => nx) (fun z => absurd z q7)) ?_
          refine po_of (fun _ nx => b_M_read_46 nx) ?_
          exact J _ (by simp only [if_neg q7])
      by_cases q5 : v3 = 0
      · refine po_of (fun _ nx => b_M_read_29 (fun z => absurd q5 z) (fun _ => nx)) ?_
        refine po_of (fun _ nx => b_M_read_33 nx) ?_
        exact J _ (by simp only [if_pos q5])
      · refine po_of (fun _ nx => b_M_read_29 (fun _ => nx) (fun z => absurd z q5)) ?_
        refine po_of (fun _ nx => b_M_read_37 nx) ?_
        exact J _ (by simp only [if_neg q5])
abbrev H_M_read_16 (d : Nat) (x1 : Int32) (x2 : Int32) (o3 : Option Value) (o4 : Option Value) (S : fm_S) (Q : Int32 → fm_S → Prop) : Prop := am_Po vI (d + 5) k_M_read 16 [some (.ref 231), some (.int x1), some (.int x2), o3, o4] [] S Q
theorem p_M_read_139 {d : Nat} {x1 : Int32} {x2 : Int32} {x3 : Int32} {o4 : Option Value} {S : fm_S} {Q : Int32 → fm_S → Prop}
    (W : (373 ≤ x3 → Q x1 S) ∧ (¬ 373 ≤ x3 → (vp_in x3 373) ∧ am_Po vI (d + 5) k_M_read 139 [some (.ref 231), some (.int x1), some (.int x2), some (.int (x3 + 1)), o4] [] (fm_wI S 232 x3.toNatClampNeg (S.1 233 x3.toNatClampNeg)) Q)) :
    am_Po vI (d + 5) k_M_read 139 [some (.ref 231), some (.int x1), some (.int x2), some (.int x3), o4] [] S Q := by
  by_cases q1 : 373 ≤ x3
  · have W := W.1 q1
    refine po_of (fun _ nx => b_M_read_139 (fun _ => nx) (fun z => absurd q1 z)) ?_
    exact ⟨_, _, b_M_read_164, W⟩
  · have W := W.2 q1
    refine po_of (fun _ nx => b_M_read_139 (fun z => absurd z q1) (fun _ => nx)) ?_
    obtain ⟨g2, W⟩ := W
    refine po_of (fun _ nx => b_M_read_146 g2 nx) ?_
    exact W
abbrev H_M_read_139 (d : Nat) (x1 : Int32) (x2 : Int32) (x3 : Int32) (o4 : Option Value) (S : fm_S) (Q : Int32 → fm_S → Prop) : Prop := am_Po vI (d + 5) k_M_read 139 [some (.ref 231), some (.int x1), some (.int x2), some (.int x3), o4] [] S Q
theorem p_M_word_0 {d : Nat} {o1 : Option Value} {o2 : Option Value} {o3 : Option Value} {o4 : Option Value} {o5 : Option Value} {o6 : Option Value} {S : fm_S} {Q : Int32 → fm_S → Prop}
    (W : am_Ps vV (d + 1) k_M_skip [.ref 231] S fun _ S1 => (am_Po vI (d + 2) k_M_word 9 [some (.ref 231), some (.int (S1.1 231 11)), o2, o3, o4, o5, o6] [] S1 Q)) :
    am_Po vI (d + 2) k_M_word 0 [some (.ref 231), o1, o2, o3, o4, o5, o6] [] S Q := by
  obtain ⟨_, S1, h2, W⟩ := W
  refine po_of (fun _ nx => b_M_word_0 h2 nx) ?_
  refine po_of (fun _ nx => b_M_word_4 nx) ?_
  exact W
theorem e_M_word {d : Nat} {S : fm_S} {Q : Int32 → fm_S → Prop}
    (W : am_Ps vV (d + 1) k_M_skip [.ref 231] S fun _ S1 => (am_Po vI (d + 2) k_M_word 9 [some (.ref 231), some (.int (S1.1 231 11)), none, none, none, none, none] [] S1 Q)) :
    am_Ps vI (d + 2) k_M_word [.ref 231] S Q := ps_of (L := [some (.ref 231), none, none, none, none, none, none]) rfl (Nat.le_of_ble_eq_true rfl) (Nat.le_of_ble_eq_true rfl) (p_M_word_0 W)
theorem p_M_word_9 {d : Nat} {x1 : Int32} {o2 : Option Value} {o3 : Option Value} {o4 : Option Value} {o5 : Option Value} {o6 : Option Value} {S : fm_S} {Q : Int32 → fm_S → Prop}
    (W : (¬ (S.1 231 5) ≤ (S.1 231 11) → vp_in (S.1 231 11) 150) ∧ ((f_M_in ((f_M_byteAt S (S.1 231 11)).toInt64) 97 122) = 0 → am_Po vI (d + 2) k_M_word 55 [some (.ref 231), some (.int x1), some (.int ((S.1 231 11) - x1)), some (.int (-1)), some (.int 0), o5, o6] [] S Q) ∧ (¬ (f_M_in ((f_M_byteAt S (S.1 231 11)).toInt64) 97 122) = 0 → am_Po vI (d + 2) k_M_word 9 [some (.ref 231), some (.int x1), o2, o3, o4, o5, o6] [] (fm_wI S 231 11 ((S.1 231 11) + 1)) Q)) :
    am_Po vI (d + 2) k_M_word 9 [some (.ref 231), some (.int x1), o2, o3, o4, o5, o6] [] S Q := by
  obtain ⟨g1, W⟩ := W
  refine po_of (fun _ nx => b_M_word_9 (s_M_byteAt (x1 := (S.1 231 11)) (S := S) g1) nx) ?_
  refine po_of (fun _ nx => b_M_word_17 (s_M_in (y0 := ((f_M_byteAt S (S.1 231 11)).toInt64)) (y2 := 97) (y4 := 122) (S := S)) nx) ?_
  by_cases q2 : (f_M_in ((f_M_byteAt S (S.1 231 11)).toInt64) 97 122) = 0
  · have W := W.1 q2
    refine po_of (fun _ nx => b_M_word_27 (fun _ => nx) (fun z => absurd q2 z)) ?_
    refine po_of (fun _ nx => b_M_word_43 nx) ?_
    exact W
  · have W := W.2 q2
    refine po_of (fun _ nx => b_M_word_27 (fun z => absurd z q2) (fun _ => nx)) ?_
    refine po_of (fun _ nx => b_M_word_30 nx) ?_
    exact W
abbrev H_M_word_9 (d : Nat) (x1 : Int32) (o2 : Option Value) (o3 : Option Value) (o4 : Option Value) (o5 : Option Value) (o6 : Option Value) (S : fm_S) (Q : Int32 → fm_S → Prop) : Prop := am_Po vI (d + 2) k_M_word 9 [some (.ref 231), some (.int x1), o2, o3, o4, o5, o6] [] S Q
theorem p_M_word_55 {d : Nat} {x1 : Int32} {x2 : Int32} {x3 : Int32} {x4 : Int32} {o5 : Option Value} {o6 : Option Value} {S : fm_S} {Q : Int32 → fm_S → Prop}
    (W : (6 ≤ x4 → Q x3 (g_M_fails S x1)) ∧ (¬ 6 ≤ x4 → ∀ v3 : Int32, v3 = (if x4 = 1 then (6 : Int32) else (4 : Int32)) → (∀ v5 : Int32, v5 = (if x2 = v3 then (1 : Int32) else (0 : Int32)) → (am_Po vI (d + 2) k_M_word 88 [some (.ref 231), some (.int x1), some (.int x2), some (.int x3), some (.int x4), some (.int v5), some (.int 0)] [] S Q)))) :
    am_Po vI (d + 2) k_M_word 55 [some (.ref 231), some (.int x1), some (.int x2), some (.int x3), some (.int x4), o5, o6] [] S Q := by
  by_cases q1 : 6 ≤ x4
  · have W := W.1 q1
    refine po_of (fun _ nx => b_M_word_55 (fun _ => nx) (fun z => absurd q1 z)) ?_
    refine po_of (fun _ nx => b_M_word_149 (s_M_fails (x1 := x1) (S := S)) nx) ?_
    exact ⟨_, _, b_M_word_154, W⟩
  · have W := W.2 q1
    refine po_of (fun _ nx => b_M_word_55 (fun z => absurd z q1) (fun _ => nx)) ?_
    have J : ∀ v3 : Int32, v3 = (if x4 = 1 then (6 : Int32) else (4 : Int32)) → am_Po vI (d + 2) k_M_word 75 [some (.ref 231), some (.int x1), some (.int x2), some (.int x3), some (.int x4), o5, o6] [.int v3, .int x2] S Q := by
      intro v3 v3_
      have W := W v3 v3_
      have J : ∀ v5 : Int32, v5 = (if x2 = v3 then (1 : Int32) else (0 : Int32)) → am_Po vI (d + 2) k_M_word 83 [some (.ref 231), some (.int x1), some (.int x2), some (.int x3), some (.int x4), o5, o6] [.int v5] S Q := by
        intro v5 v5_
        have W := W v5 v5_
        refine po_of (fun _ nx => b_M_word_83 nx) ?_
        exact W
      by_cases q4 : x2 = v3
      · refine po_of (fun _ nx => b_M_word_75 (fun z => absurd q4 z) (fun _ => nx)) ?_
        refine po_of (fun _ nx => b_M_word_78 nx) ?_
        exact J _ (by simp only [if_pos q4])
      · refine po_of (fun _ nx => b_M_word_75 (fun _ => nx) (fun z => absurd z q4)) ?_
        refine po_of (fun _ nx => b_M_word_82 nx) ?_
        exact J _ (by simp only [if_neg q4])
    by_cases q2 : x4 = 1
    · refine po_of (fun _ nx => b_M_word_62 (fun z => absurd q2 z) (fun _ => nx)) ?_
      refine po_of (fun _ nx => b_M_word_69 nx) ?_
      exact J _ (by simp only [if_pos q2])
    · refine po_of (fun _ nx => b_M_word_62 (fun _ => nx) (fun z => absurd z q2)) ?_
      refine po_of (fun _ nx => b_M_word_74 nx) ?_
      exact J _ (by simp only [if_neg q2])
abbrev H_M_word_55 (d : Nat) (x1 : Int32) (x2 : Int32) (x3 : Int32) (x4 : Int32) (o5 : Option Value) (o6 : Option Value) (S : fm_S) (Q : Int32 → fm_S → Prop) : Prop := am_Po vI (d + 2) k_M_word 55 [some (.ref 231), some (.int x1), some (.int x2), some (.int x3), some (.int x4), o5, o6] [] S Q
theorem p_M_word_88 {d : Nat} {x1 : Int32} {x2 : Int32} {x3 : Int32} {x4 : Int32} {x5 : Int32} {x6 : Int32} {S : fm_S} {Q : Int32 → fm_S → Prop}
    (W : (x2 ≤ x6 → ∀ v3 : Int32, v3 = (if x5 = 0 then x3 else x4) → (am_Po vI (d + 2) k_M_word 55 [some (.ref 231), some (.int x1), some (.int x2), some (.int v3), some (.int (x4 + 1)), some (.int x5), some (.int x6)] [] S Q)) ∧ (¬ x2 ≤ x6 → (x5 = 0 → am_Po vI (d + 2) k_M_word 55 [some (.ref 231), some (.int x1), some (.int x2), some (.int x3), some (.int (x4 + 1)), some (.int x5), some (.int x6)] [] S Q) ∧ (¬ x5 = 0 → (vp_in (x1 + x6) 150) ∧ am_Ps vI (d + 1) k_M_letterOf [.int x4, .int x6] S fun v7 S6 => (∀ v9 : Int32, v9 = (if (S.1 236 ((x1 + x6).toNatClampNeg)) = v7 then (1 : Int32) else (0 : Int32)) → (am_Po vI (d + 2) k_M_word 88 [some (.ref 231), some (.int x1), some (.int x2), some (.int x3), some (.int x4), some (.int v9), some (.int (x6 + 1))] [] S6 Q))))) :
    am_Po vI (d + 2) k_M_word 88 [some (.ref 231), some (.int x1), some (.int x2), some (.int x3), some (.int x4), some (.int x5), some (.int x6)] [] S Q := by
  by_cases q1 : x2 ≤ x6
  · have W := W.1 q1
    refine po_of (fun _ nx => b_M_word_88 (fun _ => nx) (fun z => absurd q1 z)) ?_
    have J : ∀ v3 : Int32, v3 = (if x5 = 0 then x3 else x4) → am_Po vI (d + 2) k_M_word 142 [some (.ref 231), some (.int x1), some (.int x2), some (.int x3), some (.int x4), some (.int x5), some (.int x6)] [.int v3] S Q := by
      intro v3 v3_
      have W := W v3 v3_
      refine po_of (fun _ nx => b_M_word_142 nx) ?_
      exact W
    by_cases q2 : x5 = 0
    · refine po_of (fun _ nx => b_M_word_131 (fun _ => nx) (fun z => absurd q2 z)) ?_
      refine po_of (fun _ nx => b_M_word_141 nx) ?_
      exact J _ (by simp only [if_pos q2])
    · refine po_of (fun _ nx => b_M_word_131 (fun z => absurd z q2) (fun _ => nx)) ?_
      refine po_of (fun _ nx => b_M_word_136 nx) ?_
      exact J _ (by simp only [if_neg q2])
  · have W := W.2 q1
    refine po_of (fun _ nx => b_M_word_88 (fun z => absurd z q1) (fun _ => nx)) ?_
    by_cases q4 : x5 = 0
    · have W := W.1 q4
      refine po_of (fun _ nx => b_M_word_94 (fun _ => nx) (fun z => absurd q4 z)) ?_
      refine po_of (fun _ nx => b_M_word_131 (fun _ => nx) (fun z => absurd q4 z)) ?_
      refine po_of (fun _ nx => b_M_word_141 nx) ?_
      refine po_of (fun _ nx => b_M_word_142 nx) ?_
      exact W
    · have W := W.2 q4
      refine po_of (fun _ nx => b_M_word_94 (fun z => absurd z q4) (fun _ => nx)) ?_
      obtain ⟨g5, W⟩ := W
      obtain ⟨v7, S6, h10, W⟩ := W
      refine po_of (fun _ nx => b_M_word_99 g5 h10 nx) ?_
      have J : ∀ v9 : Int32, v9 = (if (S.1 236 ((x1 + x6).toNatClampNeg)) = v7 then (1 : Int32) else (0 : Int32)) → am_Po vI (d + 2) k_M_word 123 [some (.ref 231), some (.int x1), some (.int x2), some (.int x3), some (.int x4), some (.int x5), some (.int x6)] [.int v9] S6 Q := by
        intro v9 v9_
        have W := W v9 v9_
        refine po_of (fun _ nx => b_M_word_123 nx) ?_
        exact W
      by_cases q8 : (S.1 236 ((x1 + x6).toNatClampNeg)) = v7
      · refine po_of (fun _ nx => b_M_word_115 (fun z => absurd q8 z) (fun _ => nx)) ?_
        refine po_of (fun _ nx => b_M_word_118 nx) ?_
        exact J _ (by simp only [if_pos q8])
      · refine po_of (fun _ nx => b_M_word_115 (fun _ => nx) (fun z => absurd z q8)) ?_
        refine po_of (fun _ nx => b_M_word_122 nx) ?_
        exact J _ (by simp only [if_neg q8])
abbrev H_M_word_88 (d : Nat) (x1 : Int32) (x2 : Int32) (x3 : Int32) (x4 : Int32) (x5 : Int32) (x6 : Int32) (S : fm_S) (Q : Int32 → fm_S → Prop) : Prop := am_Po vI (d + 2) k_M_word 88 [some (.ref 231), some (.int x1), some (.int x2), some (.int x3), some (.int x4), some (.int x5), some (.int x6)] [] S Q
theorem p_M_skip_0 {d : Nat} {S : fm_S} {Q : Unit → fm_S → Prop}
    (W : (¬ (S.1 231 5) ≤ (S.1 231 11) → vp_in (S.1 231 11) 150) ∧ ((f_M_byteAt S (S.1 231 11)) = 32 → am_Po vV (d + 1) k_M_skip 0 [some (.ref 231)] [] (fm_wI S 231 11 ((S.1 231 11) + 1)) Q) ∧ (¬ (f_M_byteAt S (S.1 231 11)) = 32 → Q () S)) :
    am_Po vV (d + 1) k_M_skip 0 [some (.ref 231)] [] S Q := by
  obtain ⟨g1, W⟩ := W
  refine po_of (fun _ nx => b_M_skip_0 (s_M_byteAt (x1 := (S.1 231 11)) (S := S) g1) nx) ?_
  by_cases q2 : (f_M_byteAt S (S.1 231 11)) = 32
  · have W := W.1 q2
    refine po_of (fun _ nx => b_M_skip_8 (fun z => absurd q2 z) (fun _ => nx)) ?_
    refine po_of (fun _ nx => b_M_skip_13 nx) ?_
    exact W
  · have W := W.2 q2
    refine po_of (fun _ nx => b_M_skip_8 (fun _ => nx) (fun z => absurd z q2)) ?_
    exact ⟨_, _, b_M_skip_26, W⟩
theorem e_M_skip {d : Nat} {S : fm_S} {Q : Unit → fm_S → Prop}
    (W : (¬ (S.1 231 5) ≤ (S.1 231 11) → vp_in (S.1 231 11) 150) ∧ ((f_M_byteAt S (S.1 231 11)) = 32 → am_Po vV (d + 1) k_M_skip 0 [some (.ref 231)] [] (fm_wI S 231 11 ((S.1 231 11) + 1)) Q) ∧ (¬ (f_M_byteAt S (S.1 231 11)) = 32 → Q () S)) :
    am_Ps vV (d + 1) k_M_skip [.ref 231] S Q := ps_of (L := [some (.ref 231)]) rfl (Nat.le_of_ble_eq_true rfl) (Nat.le_of_ble_eq_true rfl) (p_M_skip_0 W)
theorem p_M_letterOf_0 {d : Nat} {x0 : Int32} {x1 : Int32} {o2 : Option Value} {o3 : Option Value} {o4 : Option Value} {o5 : Option Value} {o6 : Option Value} {o7 : Option Value} {S : fm_S} {Q : Int32 → fm_S → Prop}
    (W : ∀ v6 : Int64, v6 = (if x0 = 0 then (20152314 : Int64) else if x0 = 1 then (192018050520 : Int64) else if x0 = 2 then (12011405 : Int64) else if x0 = 3 then (7012005 : Int64) else if x0 = 4 then (23091404 : Int64) else (4091908 : Int64)) → (∀ v8 : Int32, v8 = (if x0 = 1 then (6 : Int32) else (4 : Int32)) → (am_Po vI d k_M_letterOf 80 [some (.int x0), some (.int x1), some (.long v6), none, some (.int v8), some (.long v6), none, some (.int (v8 - 1))] [] S Q))) :
    am_Po vI d k_M_letterOf 0 [some (.int x0), some (.int x1), o2, o3, o4, o5, o6, o7] [] S Q := by
  have J : ∀ v6 : Int64, v6 = (if x0 = 0 then (20152314 : Int64) else if x0 = 1 then (192018050520 : Int64) else if x0 = 2 then (12011405 : Int64) else if x0 = 3 then (7012005 : Int64) else if x0 = 4 then (23091404 : Int64) else (4091908 : Int64)) → am_Po vI d k_M_letterOf 57 [some (.int x0), some (.int x1), o2, o3, o4, o5, o6, o7] [.long v6] S Q := by
    intro v6 v6_
    have W := W v6 v6_
    have J : ∀ v8 : Int32, v8 = (if x0 = 1 then (6 : Int32) else (4 : Int32)) → am_Po vI d k_M_letterOf 69 [some (.int x0), some (.int x1), some (.long v6), none, o4, o5, o6, o7] [.int v8] S Q := by
      intro v8 v8_
      have W := W v8 v8_
      refine po_of (fun _ nx => b_M_letterOf_69 nx) ?_
      exact W
    by_cases q7 : x0 = 1
    · refine po_of (fun _ nx => b_M_letterOf_57 (fun z => absurd q7 z) (fun _ => nx)) ?_
      refine po_of (fun _ nx => b_M_letterOf_63 nx) ?_
      exact J _ (by simp only [if_pos q7])
    · refine po_of (fun _ nx => b_M_letterOf_57 (fun _ => nx) (fun z => absurd z q7)) ?_
      refine po_of (fun _ nx => b_M_letterOf_68 nx) ?_
      exact J _ (by simp only [if_neg q7])
  by_cases q1 : x0 = 0
  · refine po_of (fun _ nx => b_M_letterOf_0 (fun z => absurd q1 z) (fun _ => nx)) ?_
    refine po_of (fun _ nx => b_M_letterOf_4 nx) ?_
    exact J _ (by simp only [if_pos q1])
  · refine po_of (fun _ nx => b_M_letterOf_0 (fun _ => nx) (fun z => absurd z q1)) ?_
    by_cases q2 : x0 = 1
    · refine po_of (fun _ nx => b_M_letterOf_10 (fun z => absurd q2 z) (fun _ => nx)) ?_
      refine po_of (fun _ nx => b_M_letterOf_15 nx) ?_
      exact J _ (by simp only [if_neg q1, if_pos q2])
    · refine po_of (fun _ nx => b_M_letterOf_10 (fun _ => nx) (fun z => absurd z q2)) ?_
      by_cases q3 : x0 = 2
      · refine po_of (fun _ nx => b_M_letterOf_21 (fun z => absurd q3 z) (fun _ => nx)) ?_
        refine po_of (fun _ nx => b_M_letterOf_26 nx) ?_
        exact J _ (by simp only [if_neg q1, if_neg q2, if_pos q3])
      · refine po_of (fun _ nx => b_M_letterOf_21 (fun _ => nx) (fun z => absurd z q3)) ?_
        by_cases q4 : x0 = 3
        · refine po_of (fun _ nx => b_M_letterOf_32 (fun z => absurd q4 z) (fun _ => nx)) ?_
          refine po_of (fun _ nx => b_M_letterOf_37 nx) ?_
          exact J _ (by simp only [if_neg q1, if_neg q2, if_neg q3, if_pos q4])
        · refine po_of (fun _ nx => b_M_letterOf_32 (fun _ => nx) (fun z => absurd z q4)) ?_
          by_cases q5 : x0 = 4
          · refine po_of (fun _ nx => b_M_letterOf_43 (fun z => absurd q5 z) (fun _ => nx)) ?_
            refine po_of (fun _ nx => b_M_letterOf_48 nx) ?_
            exact J _ (by simp only [if_neg q1, if_neg q2, if_neg q3, if_neg q4, if_pos q5])
          · refine po_of (fun _ nx => b_M_letterOf_43 (fun _ => nx) (fun z => absurd z q5)) ?_
            refine po_of (fun _ nx => b_M_letterOf_54 nx) ?_
            exact J _ (by simp only [if_neg q1, if_neg q2, if_neg q3, if_neg q4, if_neg q5])
theorem e_M_letterOf {d : Nat} {x0 : Int32} {x1 : Int32} {S : fm_S} {Q : Int32 → fm_S → Prop}
    (W : ∀ v6 : Int64, v6 = (if x0 = 0 then (20152314 : Int64) else if x0 = 1 then (192018050520 : Int64) else if x0 = 2 then (12011405 : Int64) else if x0 = 3 then (7012005 : Int64) else if x0 = 4 then (23091404 : Int64) else (4091908 : Int64)) → (∀ v8 : Int32, v8 = (if x0 = 1 then (6 : Int32) else (4 : Int32)) → (am_Po vI d k_M_letterOf 80 [some (.int x0), some (.int x1), some (.long v6), none, some (.int v8), some (.long v6), none, some (.int (v8 - 1))] [] S Q))) :
    am_Ps vI d k_M_letterOf [.int x0, .int x1] S Q := ps_of (L := [some (.int x0), some (.int x1), none, none, none, none, none, none]) rfl (Nat.le_of_ble_eq_true rfl) (Nat.le_of_ble_eq_true rfl) (p_M_letterOf_0 W)
theorem p_M_letterOf_80 {d : Nat} {x0 : Int32} {x1 : Int32} {y2 : Int64} {x4 : Int32} {y5 : Int64} {x7 : Int32} {S : fm_S} {Q : Int32 → fm_S → Prop}
    (W : (x7 ≤ x1 → ∀ v3 : Int32, v3 = (if x4 ≤ x1 then (0 : Int32) else ((y5 - y5 / 100 * 100).toInt32) + 96) → (Q v3 S)) ∧ (¬ x7 ≤ x1 → am_Po vI d k_M_letterOf 80 [some (.int x0), some (.int x1), some (.long y2), none, some (.int x4), some (.long (y5 / 100)), none, some (.int (x7 + (-1)))] [] S Q)) :
    am_Po vI d k_M_letterOf 80 [some (.int x0), some (.int x1), some (.long y2), none, some (.int x4), some (.long y5), none, some (.int x7)] [] S Q := by
  by_cases q1 : x7 ≤ x1
  · have W := W.1 q1
    refine po_of (fun _ nx => b_M_letterOf_80 (fun _ => nx) (fun z => absurd q1 z)) ?_
    have J : ∀ v3 : Int32, v3 = (if x4 ≤ x1 then (0 : Int32) else ((y5 - y5 / 100 * 100).toInt32) + 96) → am_Po vI d k_M_letterOf 120 [some (.int x0), some (.int x1), some (.long y2), none, some (.int x4), some (.long y5), none, some (.int x7)] [.int v3] S Q := by
      intro v3 v3_
      have W := W v3 v3_
      exact ⟨_, _, b_M_letterOf_120, W⟩
    by_cases q2 : x4 ≤ x1
    · refine po_of (fun _ nx => b_M_letterOf_100 (fun _ => nx) (fun z => absurd q2 z)) ?_
      refine po_of (fun _ nx => b_M_letterOf_119 nx) ?_
      exact J _ (by simp only [if_pos q2])
    · refine po_of (fun _ nx => b_M_letterOf_100 (fun z => absurd z q2) (fun _ => nx)) ?_
      refine po_of (fun _ nx => b_M_letterOf_106 nx) ?_
      exact J _ (by simp only [if_neg q2])
  · have W := W.2 q1
    refine po_of (fun _ nx => b_M_letterOf_80 (fun z => absurd z q1) (fun _ => nx)) ?_
    refine po_of (fun _ nx => b_M_letterOf_86 nx) ?_
    exact W
abbrev H_M_letterOf_80 (d : Nat) (x0 : Int32) (x1 : Int32) (y2 : Int64) (x4 : Int32) (y5 : Int64) (x7 : Int32) (S : fm_S) (Q : Int32 → fm_S → Prop) : Prop := am_Po vI d k_M_letterOf 80 [some (.int x0), some (.int x1), some (.long y2), none, some (.int x4), some (.long y5), none, some (.int x7)] [] S Q
theorem p_M_item_0 {d : Nat} {x1 : Int32} {S : fm_S} {Q : Int32 → fm_S → Prop}
    (W : (x1 = 0 → am_Ps vI (d + 3) k_M_ends [.ref 231] S fun v7 S6 => ((v7 = 0 ∨ v7 = 1) ∧ Q v7 S6)) ∧ (x1 = 1 → am_Ps vI (d + 3) k_M_number [.ref 231, .int 0, .int 0, .int 5] S fun v11 S10 => ((v11 = 0 → Q 0 S10) ∧ (¬ v11 = 0 → am_Ps vI (d + 3) k_M_number [.ref 231, .int 1, .int 0, .int 9] S10 fun v14 S13 => ((v14 = 0 → Q 0 S13) ∧ (¬ v14 = 0 → am_Ps vI (d + 3) k_M_number [.ref 231, .int 2, .int 0, .int 5] S13 fun v17 S16 => ((v17 = 0 → Q 0 S16) ∧ (¬ v17 = 0 → am_Ps vI (d + 3) k_M_ends [.ref 231] S16 fun v20 S19 => ((v20 = 0 → Q 0 S19) ∧ (¬ v20 = 0 → (vp_in 0 (fm_ln 233)) ∧ (vp_in (5 + (S19.1 233 ((0 : Int32).toNatClampNeg))) (fm_ln 233)) ∧ (vp_in (13 + (S19.1 233 ((0 : Int32).toNatClampNeg))) (fm_ln 233)) ∧ (vp_in (21 + (S19.1 233 ((0 : Int32).toNatClampNeg))) (fm_ln 233)) ∧ (vp_in (29 + (S19.1 233 ((0 : Int32).toNatClampNeg))) (fm_ln 233)) ∧ (vp_in (37 + (S19.1 233 ((0 : Int32).toNatClampNeg))) (fm_ln 233)) ∧ (vp_in (45 + (S19.1 233 ((0 : Int32).toNatClampNeg))) (fm_ln 233)) ∧ (vp_in 3 (fm_ln 233)) ∧ Q 1 (g_M_addStreet S19 233 (S19.1 237 0) (S19.1 237 1) (S19.1 237 2))))))))))) ∧ (x1 = 2 → am_Ps vI (d + 3) k_M_laneItem [.ref 231] S fun v35 S34 => ((v35 = 0 ∨ v35 = 1) ∧ Q v35 S34)) ∧ (x1 = 3 → am_Ps vI (d + 3) k_M_number [.ref 231, .int 0, .int 0, .int 3] S fun v39 S38 => ((v39 = 0 → Q 0 S38) ∧ (¬ v39 = 0 → am_Ps vI (d + 3) k_M_number [.ref 231, .int 1, .int 0, .int ((S38.1 233 0) - 1)] S38 fun v42 S41 => ((v42 = 0 → Q 0 S41) ∧ (¬ v42 = 0 → am_Ps vI (d + 3) k_M_ends [.ref 231] S41 fun v45 S44 => ((v45 = 0 → Q 0 S44) ∧ (¬ v45 = 0 → (vp_in (117 + (S44.1 237 0)) 373) ∧ Q 1 (fm_wI S44 233 ((117 + (S44.1 237 0)).toNatClampNeg) (S44.1 237 1))))))))) ∧ (x1 = 4 → am_Ps vI (d + 3) k_M_number [.ref 231, .int 0, .int 0, .int 3] S fun v52 S51 => ((v52 = 0 → Q 0 S51) ∧ (¬ v52 = 0 → am_Ps vI (d + 3) k_M_number [.ref 231, .int 1, .int 0, .int 3] S51 fun v55 S54 => ((v55 = 0 → Q 0 S54) ∧ (¬ v55 = 0 → am_Ps vI (d + 3) k_M_ends [.ref 231] S54 fun v58 S57 => ((v58 = 0 → Q 0 S57) ∧ (¬ v58 = 0 → (vp_in (121 + (S57.1 237 0)) 373) ∧ Q 1 (fm_wI S57 233 ((121 + (S57.1 237 0)).toNatClampNeg) (S57.1 237 1))))))))) ∧ (¬ x1 = 0 → ¬ x1 = 1 → ¬ x1 = 2 → ¬ x1 = 3 → ¬ x1 = 4 → am_Ps vI (d + 3) k_M_number [.ref 231, .int 0, .int 0, .int 5] S fun v65 S64 => ((v65 = 0 → Q 0 S64) ∧ (¬ v65 = 0 → am_Ps vI (d + 3) k_M_number [.ref 231, .int 1, .int 1, .int 30] S64 fun v68 S67 => ((v68 = 0 → Q 0 S67) ∧ (¬ v68 = 0 → am_Ps vI (d + 3) k_M_number [.ref 231, .int 2, .int 0, .int 9] S67 fun v71 S70 => ((v71 = 0 → Q 0 S70) ∧ (¬ v71 = 0 → am_Ps vI (d + 3) k_M_ends [.ref 231] S70 fun v74 S73 => ((v74 = 0 → Q 0 S73) ∧ (¬ v74 = 0 → (vp_in 1 (fm_ln 233)) ∧ (vp_in (125 + (S73.1 233 ((1 : Int32).toNatClampNeg))) (fm_ln 233)) ∧ (vp_in (131 + (S73.1 233 ((1 : Int32).toNatClampNeg))) (fm_ln 233)) ∧ (vp_in (137 + (S73.1 233 ((1 : Int32).toNatClampNeg))) (fm_ln 233)) ∧ Q 1 (g_M_addDish S73 233 (S73.1 237 0) (S73.1 237 1) (S73.1 237 2)))))))))))) :
    am_Po vI (d + 4) k_M_item 0 [some (.ref 231), some (.int x1)] [] S Q := by
  by_cases q1 : x1 = 0
  · have W := W.1 q1
    refine po_of (fun _ nx => b_M_item_0 (fun _ => nx) (fun z => absurd (q1.symm.trans z) (by decide)) (fun z => absurd (q1.symm.trans z) (by decide)) (fun z => absurd (q1.symm.trans z) (by decide)) (fun z => absurd (q1.symm.trans z) (by decide)) (fun z0 z1 z2 z3 z4 => absurd q1 z0)) ?_
    obtain ⟨v7, S6, h9, W⟩ := W
    refine po_of (fun _ nx => b_M_item_36 h9 nx) ?_
    obtain ⟨g8, W⟩ := W
    exact ⟨_, _, b_M_item_40 g8, W⟩
  by_cases q2 : x1 = 1
  · have W := W.2.1 q2
    refine po_of (fun _ nx => b_M_item_0 (fun z => absurd (q2.symm.trans z) (by decide)) (fun _ => nx) (fun z => absurd (q2.symm.trans z) (by decide)) (fun z => absurd (q2.symm.trans z) (by decide)) (fun z => absurd (q2.symm.trans z) (by decide)) (fun z0 z1 z2 z3 z4 => absurd q2 z1)) ?_
    obtain ⟨v11, S10, h33, W⟩ := W
    refine po_of (fun _ nx => b_M_item_41 h33 nx) ?_
    by_cases q12 : v11 = 0
    · have W := W.1 q12
      refine po_of (fun _ nx => b_M_item_48 (fun _ => nx) (fun z => absurd q12 z)) ?_
      exact ⟨_, _, b_M_item_79, W⟩
    · have W := W.2 q12
      refine po_of (fun _ nx => b_M_item_48 (fun z => absurd z q12) (fun _ => nx)) ?_
      obtain ⟨v14, S13, h32, W⟩ := W
      refine po_of (fun _ nx => b_M_item_51 h32 nx) ?_
      by_cases q15 : v14 = 0
      · have W := W.1 q15
        refine po_of (fun _ nx => b_M_item_59 (fun _ => nx) (fun z => absurd q15 z)) ?_
        exact ⟨_, _, b_M_item_79, W⟩
      · have W := W.2 q15
        refine po_of (fun _ nx => b_M_item_59 (fun z => absurd z q15) (fun _ => nx)) ?_
        obtain ⟨v17, S16, h31, W⟩ := W
        refine po_of (fun _ nx => b_M_item_62 h31 nx) ?_
        by_cases q18 : v17 = 0
        · have W := W.1 q18
          refine po_of (fun _ nx => b_M_item_69 (fun _ => nx) (fun z => absurd q18 z)) ?_
          exact ⟨_, _, b_M_item_79, W⟩
        · have W := W.2 q18
          refine po_of (fun _ nx => b_M_item_69 (fun z => absurd z q18) (fun _ => nx)) ?_
          obtain ⟨v20, S19, h30, W⟩ := W
          refine po_of (fun _ nx => b_M_item_72 h30 nx) ?_
          by_cases q21 : v20 = 0
          · have W := W.1 q21
            refine po_of (fun _ nx => b_M_item_76 (fun z => absurd q21 z) (fun _ => nx)) ?_
            exact ⟨_, _, b_M_item_79, W⟩
          · have W := W.2 q21
            refine po_of (fun _ nx => b_M_item_76 (fun _ => nx) (fun z => absurd z q21)) ?_
            obtain ⟨g22, W⟩ := W
            obtain ⟨g23, W⟩ := W
            obtain ⟨g24, W⟩ := W
            obtain ⟨g25, W⟩ := W
            obtain ⟨g26, W⟩ := W
            obtain ⟨g27, W⟩ := W
            obtain ⟨g28, W⟩ := W
            obtain ⟨g29, W⟩ := W
            refine po_of (fun _ nx => b_M_item_81 (s_M_addStreet (a0 := 233) (x1 := (S19.1 237 0)) (x2 := (S19.1 237 1)) (x3 := (S19.1 237 2)) (S := S19) (by decide +kernel) g22 g23 g24 g25 g26 g27 g28 g29) nx) ?_
            exact ⟨_, _, b_M_item_106, W⟩
  by_cases q3 : x1 = 2
  · have W := W.2.2.1 q3
    refine po_of (fun _ nx => b_M_item_0 (fun z => absurd (q3.symm.trans z) (by decide)) (fun z => absurd (q3.symm.trans z) (by decide)) (fun _ => nx) (fun z => absurd (q3.symm.trans z) (by decide)) (fun z => absurd (q3.symm.trans z) (by decide)) (fun z0 z1 z2 z3 z4 => absurd q3 z2)) ?_
    obtain ⟨v35, S34, h37, W⟩ := W
    refine po_of (fun _ nx => b_M_item_108 h37 nx) ?_
    obtain ⟨g36, W⟩ := W
    exact ⟨_, _, b_M_item_112 g36, W⟩
  by_cases q4 : x1 = 3
  · have W := W.2.2.2.1 q4
    refine po_of (fun _ nx => b_M_item_0 (fun z => absurd (q4.symm.trans z) (by decide)) (fun z => absurd (q4.symm.trans z) (by decide)) (fun z => absurd (q4.symm.trans z) (by decide)) (fun _ => nx) (fun z => absurd (q4.symm.trans z) (by decide)) (fun z0 z1 z2 z3 z4 => absurd q4 z3)) ?_
    obtain ⟨v39, S38, h50, W⟩ := W
    refine po_of (fun _ nx => b_M_item_113 h50 nx) ?_
    by_cases q40 : v39 = 0
    · have W := W.1 q40
      refine po_of (fun _ nx => b_M_item_120 (fun _ => nx) (fun z => absurd q40 z)) ?_
      exact ⟨_, _, b_M_item_147, W⟩
    · have W := W.2 q40
      refine po_of (fun _ nx => b_M_item_120 (fun z => absurd z q40) (fun _ => nx)) ?_
      obtain ⟨v42, S41, h49, W⟩ := W
      refine po_of (fun _ nx => b_M_item_123 h49 nx) ?_
      by_cases q43 : v42 = 0
      · have W := W.1 q43
        refine po_of (fun _ nx => b_M_item_137 (fun _ => nx) (fun z => absurd q43 z)) ?_
        exact ⟨_, _, b_M_item_147, W⟩
      · have W := W.2 q43
        refine po_of (fun _ nx => b_M_item_137 (fun z => absurd z q43) (fun _ => nx)) ?_
        obtain ⟨v45, S44, h48, W⟩ := W
        refine po_of (fun _ nx => b_M_item_140 h48 nx) ?_
        by_cases q46 : v45 = 0
        · have W := W.1 q46
          refine po_of (fun _ nx => b_M_item_144 (fun z => absurd q46 z) (fun _ => nx)) ?_
          exact ⟨_, _, b_M_item_147, W⟩
        · have W := W.2 q46
          refine po_of (fun _ nx => b_M_item_144 (fun _ => nx) (fun z => absurd z q46)) ?_
          obtain ⟨g47, W⟩ := W
          exact ⟨_, _, b_M_item_149 g47, W⟩
  by_cases q5 : x1 = 4
  · have W := W.2.2.2.2.1 q5
    refine po_of (fun _ nx => b_M_item_0 (fun z => absurd (q5.symm.trans z) (by decide)) (fun z => absurd (q5.symm.trans z) (by decide)) (fun z => absurd (q5.symm.trans z) (by decide)) (fun z => absurd (q5.symm.trans z) (by decide)) (fun _ => nx) (fun z0 z1 z2 z3 z4 => absurd q5 z4)) ?_
    obtain ⟨v52, S51, h63, W⟩ := W
    refine po_of (fun _ nx => b_M_item_171 h63 nx) ?_
    by_cases q53 : v52 = 0
    · have W := W.1 q53
      refine po_of (fun _ nx => b_M_item_178 (fun _ => nx) (fun z => absurd q53 z)) ?_
      exact ⟨_, _, b_M_item_198, W⟩
    · have W := W.2 q53
      refine po_of (fun _ nx => b_M_item_178 (fun z => absurd z q53) (fun _ => nx)) ?_
      obtain ⟨v55, S54, h62, W⟩ := W
      refine po_of (fun _ nx => b_M_item_181 h62 nx) ?_
      by_cases q56 : v55 = 0
      · have W := W.1 q56
        refine po_of (fun _ nx => b_M_item_188 (fun _ => nx) (fun z => absurd q56 z)) ?_
        exact ⟨_, _, b_M_item_198, W⟩
      · have W := W.2 q56
        refine po_of (fun _ nx => b_M_item_188 (fun z => absurd z q56) (fun _ => nx)) ?_
        obtain ⟨v58, S57, h61, W⟩ := W
        refine po_of (fun _ nx => b_M_item_191 h61 nx) ?_
        by_cases q59 : v58 = 0
        · have W := W.1 q59
          refine po_of (fun _ nx => b_M_item_195 (fun z => absurd q59 z) (fun _ => nx)) ?_
          exact ⟨_, _, b_M_item_198, W⟩
        · have W := W.2 q59
          refine po_of (fun _ nx => b_M_item_195 (fun _ => nx) (fun z => absurd z q59)) ?_
          obtain ⟨g60, W⟩ := W
          exact ⟨_, _, b_M_item_200 g60, W⟩
  have W := W.2.2.2.2.2 q1 q2 q3 q4 q5
  refine po_of (fun _ nx => b_M_item_0 (fun z => absurd z q1) (fun z => absurd z q2) (fun z => absurd z q3) (fun z => absurd z q4) (fun z => absurd z q5) (fun _ _ _ _ _ => nx)) ?_
  obtain ⟨v65, S64, h83, W⟩ := W
  refine po_of (fun _ nx => b_M_item_222 h83 nx) ?_
  by_cases q66 : v65 = 0
  · have W := W.1 q66
    refine po_of (fun _ nx => b_M_item_229 (fun _ => nx) (fun z => absurd q66 z)) ?_
    exact ⟨_, _, b_M_item_261, W⟩
  · have W := W.2 q66
    refine po_of (fun _ nx => b_M_item_229 (fun z => absurd z q66) (fun _ => nx)) ?_
    obtain ⟨v68, S67, h82, W⟩ := W
    refine po_of (fun _ nx => b_M_item_232 h82 nx) ?_
    by_cases q69 : v68 = 0
    · have W := W.1 q69
      refine po_of (fun _ nx => b_M_item_240 (fun _ => nx) (fun z => absurd q69 z)) ?_
      exact ⟨_, _, b_M_item_261, W⟩
    · have W := W.2 q69
      refine po_of (fun _ nx => b_M_item_240 (fun z => absurd z q69) (fun _ => nx)) ?_
      obtain ⟨v71, S70, h81, W⟩ := W
      refine po_of (fun _ nx => b_M_item_243 h81 nx) ?_
      by_cases q72 : v71 = 0
      · have W := W.1 q72
        refine po_of (fun _ nx => b_M_item_251 (fun _ => nx) (fun z => absurd q72 z)) ?_
        exact ⟨_, _, b_M_item_261, W⟩
      · have W := W.2 q72
        refine po_of (fun _ nx => b_M_item_251 (fun z => absurd z q72) (fun _ => nx)) ?_
        obtain ⟨v74, S73, h80, W⟩ := W
        refine po_of (fun _ nx => b_M_item_254 h80 nx) ?_
        by_cases q75 : v74 = 0
        · have W := W.1 q75
          refine po_of (fun _ nx => b_M_item_258 (fun z => absurd q75 z) (fun _ => nx)) ?_
          exact ⟨_, _, b_M_item_261, W⟩
        · have W := W.2 q75
          refine po_of (fun _ nx => b_M_item_258 (fun _ => nx) (fun z => absurd z q75)) ?_
          obtain ⟨g76, W⟩ := W
          obtain ⟨g77, W⟩ := W
          obtain ⟨g78, W⟩ := W
          obtain ⟨g79, W⟩ := W
          refine po_of (fun _ nx => b_M_item_263 (s_M_addDish (a0 := 233) (x1 := (S73.1 237 0)) (x2 := (S73.1 237 1)) (x3 := (S73.1 237 2)) (S := S73) (by decide +kernel) g76 g77 g78 g79) nx) ?_
          exact ⟨_, _, b_M_item_288, W⟩
theorem e_M_item {d : Nat} {x1 : Int32} {S : fm_S} {Q : Int32 → fm_S → Prop}
    (W : (x1 = 0 → am_Ps vI (d + 3) k_M_ends [.ref 231] S fun v7 S6 => ((v7 = 0 ∨ v7 = 1) ∧ Q v7 S6)) ∧ (x1 = 1 → am_Ps vI (d + 3) k_M_number [.ref 231, .int 0, .int 0, .int 5] S fun v11 S10 => ((v11 = 0 → Q 0 S10) ∧ (¬ v11 = 0 → am_Ps vI (d + 3) k_M_number [.ref 231, .int 1, .int 0, .int 9] S10 fun v14 S13 => ((v14 = 0 → Q 0 S13) ∧ (¬ v14 = 0 → am_Ps vI (d + 3) k_M_number [.ref 231, .int 2, .int 0, .int 5] S13 fun v17 S16 => ((v17 = 0 → Q 0 S16) ∧ (¬ v17 = 0 → am_Ps vI (d + 3) k_M_ends [.ref 231] S16 fun v20 S19 => ((v20 = 0 → Q 0 S19) ∧ (¬ v20 = 0 → (vp_in 0 (fm_ln 233)) ∧ (vp_in (5 + (S19.1 233 ((0 : Int32).toNatClampNeg))) (fm_ln 233)) ∧ (vp_in (13 + (S19.1 233 ((0 : Int32).toNatClampNeg))) (fm_ln 233)) ∧ (vp_in (21 + (S19.1 233 ((0 : Int32).toNatClampNeg))) (fm_ln 233)) ∧ (vp_in (29 + (S19.1 233 ((0 : Int32).toNatClampNeg))) (fm_ln 233)) ∧ (vp_in (37 + (S19.1 233 ((0 : Int32).toNatClampNeg))) (fm_ln 233)) ∧ (vp_in (45 + (S19.1 233 ((0 : Int32).toNatClampNeg))) (fm_ln 233)) ∧ (vp_in 3 (fm_ln 233)) ∧ Q 1 (g_M_addStreet S19 233 (S19.1 237 0) (S19.1 237 1) (S19.1 237 2))))))))))) ∧ (x1 = 2 → am_Ps vI (d + 3) k_M_laneItem [.ref 231] S fun v35 S34 => ((v35 = 0 ∨ v35 = 1) ∧ Q v35 S34)) ∧ (x1 = 3 → am_Ps vI (d + 3) k_M_number [.ref 231, .int 0, .int 0, .int 3] S fun v39 S38 => ((v39 = 0 → Q 0 S38) ∧ (¬ v39 = 0 → am_Ps vI (d + 3) k_M_number [.ref 231, .int 1, .int 0, .int ((S38.1 233 0) - 1)] S38 fun v42 S41 => ((v42 = 0 → Q 0 S41) ∧ (¬ v42 = 0 → am_Ps vI (d + 3) k_M_ends [.ref 231] S41 fun v45 S44 => ((v45 = 0 → Q 0 S44) ∧ (¬ v45 = 0 → (vp_in (117 + (S44.1 237 0)) 373) ∧ Q 1 (fm_wI S44 233 ((117 + (S44.1 237 0)).toNatClampNeg) (S44.1 237 1))))))))) ∧ (x1 = 4 → am_Ps vI (d + 3) k_M_number [.ref 231, .int 0, .int 0, .int 3] S fun v52 S51 => ((v52 = 0 → Q 0 S51) ∧ (¬ v52 = 0 → am_Ps vI (d + 3) k_M_number [.ref 231, .int 1, .int 0, .int 3] S51 fun v55 S54 => ((v55 = 0 → Q 0 S54) ∧ (¬ v55 = 0 → am_Ps vI (d + 3) k_M_ends [.ref 231] S54 fun v58 S57 => ((v58 = 0 → Q 0 S57) ∧ (¬ v58 = 0 → (vp_in (121 + (S57.1 237 0)) 373) ∧ Q 1 (fm_wI S57 233 ((121 + (S57.1 237 0)).toNatClampNeg) (S57.1 237 1))))))))) ∧ (¬ x1 = 0 → ¬ x1 = 1 → ¬ x1 = 2 → ¬ x1 = 3 → ¬ x1 = 4 → am_Ps vI (d + 3) k_M_number [.ref 231, .int 0, .int 0, .int 5] S fun v65 S64 => ((v65 = 0 → Q 0 S64) ∧ (¬ v65 = 0 → am_Ps vI (d + 3) k_M_number [.ref 231, .int 1, .int 1, .int 30] S64 fun v68 S67 => ((v68 = 0 → Q 0 S67) ∧ (¬ v68 = 0 → am_Ps vI (d + 3) k_M_number [.ref 231, .int 2, .int 0, .int 9] S67 fun v71 S70 => ((v71 = 0 → Q 0 S70) ∧ (¬ v71 = 0 → am_Ps vI (d + 3) k_M_ends [.ref 231] S70 fun v74 S73 => ((v74 = 0 → Q 0 S73) ∧ (¬ v74 = 0 → (vp_in 1 (fm_ln 233)) ∧ (vp_in (125 + (S73.1 233 ((1 : Int32).toNatClampNeg))) (fm_ln 233)) ∧ (vp_in (131 + (S73.1 233 ((1 : Int32).toNatClampNeg))) (fm_ln 233)) ∧ (vp_in (137 + (S73.1 233 ((1 : Int32).toNatClampNeg))) (fm_ln 233)) ∧ Q 1 (g_M_addDish S73 233 (S73.1 237 0) (S73.1 237 1) (S73.1 237 2)))))))))))) :
    am_Ps vI (d + 4) k_M_item [.ref 231, .int x1] S Q := ps_of (L := [some (.ref 231), some (.int x1)]) rfl (Nat.le_of_ble_eq_true rfl) (Nat.le_of_ble_eq_true rfl) (p_M_item_0 W)
theorem p_M_ends_0 {d : Nat} {S : fm_S} {Q : Int32 → fm_S → Prop}
    (W : am_Ps vV (d + 1) k_M_skip [.ref 231] S fun _ S1 => ((¬ (S1.1 231 5) ≤ (S1.1 231 11) → vp_in (S1.1 231 11) 150) ∧ ((f_M_byteAt S1 (S1.1 231 11)) = 59 → Q 1 (fm_wI S1 231 11 ((S1.1 231 11) + 1))) ∧ (¬ (f_M_byteAt S1 (S1.1 231 11)) = 59 → Q (f_M_fails S1 (S1.1 231 11)) (g_M_fails S1 (S1.1 231 11))))) :
    am_Po vI (d + 2) k_M_ends 0 [some (.ref 231)] [] S Q := by
  obtain ⟨_, S1, h4, W⟩ := W
  refine po_of (fun _ nx => b_M_ends_0 h4 nx) ?_
  obtain ⟨g2, W⟩ := W
  refine po_of (fun _ nx => b_M_ends_4 (s_M_byteAt (x1 := (S1.1 231 11)) (S := S1) g2) nx) ?_
  by_cases q3 : (f_M_byteAt S1 (S1.1 231 11)) = 59
  · have W := W.1 q3
    refine po_of (fun _ nx => b_M_ends_12 (fun _ => nx) (fun z => absurd q3 z)) ?_
    exact ⟨_, _, b_M_ends_26, W⟩
  · have W := W.2 q3
    refine po_of (fun _ nx => b_M_ends_12 (fun z => absurd z q3) (fun _ => nx)) ?_
    refine po_of (fun _ nx => b_M_ends_17 (s_M_fails (x1 := (S1.1 231 11)) (S := S1)) nx) ?_
    exact ⟨_, _, b_M_ends_25 (fb_M_fails S1 (S1.1 231 11)), W⟩
theorem e_M_ends {d : Nat} {S : fm_S} {Q : Int32 → fm_S → Prop}
    (W : am_Ps vV (d + 1) k_M_skip [.ref 231] S fun _ S1 => ((¬ (S1.1 231 5) ≤ (S1.1 231 11) → vp_in (S1.1 231 11) 150) ∧ ((f_M_byteAt S1 (S1.1 231 11)) = 59 → Q 1 (fm_wI S1 231 11 ((S1.1 231 11) + 1))) ∧ (¬ (f_M_byteAt S1 (S1.1 231 11)) = 59 → Q (f_M_fails S1 (S1.1 231 11)) (g_M_fails S1 (S1.1 231 11))))) :
    am_Ps vI (d + 2) k_M_ends [.ref 231] S Q := ps_of (L := [some (.ref 231)]) rfl (Nat.le_of_ble_eq_true rfl) (Nat.le_of_ble_eq_true rfl) (p_M_ends_0 W)
theorem p_M_number_0 {d : Nat} {x1 : Int32} {x2 : Int32} {x3 : Int32} {o4 : Option Value} {o5 : Option Value} {o6 : Option Value} {S : fm_S} {Q : Int32 → fm_S → Prop}
    (W : am_Ps vV (d + 1) k_M_skip [.ref 231] S fun _ S1 => (am_Po vI (d + 2) k_M_number 16 [some (.ref 231), some (.int x1), some (.int x2), some (.int x3), some (.int (S1.1 231 11)), some (.int 0), some (.int 0)] [] S1 Q)) :
    am_Po vI (d + 2) k_M_number 0 [some (.ref 231), some (.int x1), some (.int x2), some (.int x3), o4, o5, o6] [] S Q := by
  obtain ⟨_, S1, h2, W⟩ := W
  refine po_of (fun _ nx => b_M_number_0 h2 nx) ?_
  refine po_of (fun _ nx => b_M_number_4 nx) ?_
  exact W
theorem e_M_number {d : Nat} {x1 : Int32} {x2 : Int32} {x3 : Int32} {S : fm_S} {Q : Int32 → fm_S → Prop}
    (W : am_Ps vV (d + 1) k_M_skip [.ref 231] S fun _ S1 => (am_Po vI (d + 2) k_M_number 16 [some (.ref 231), some (.int x1), some (.int x2), some (.int x3), some (.int (S1.1 231 11)), some (.int 0), some (.int 0)] [] S1 Q)) :
    am_Ps vI (d + 2) k_M_number [.ref 231, .int x1, .int x2, .int x3] S Q := ps_of (L := [some (.ref 231), some (.int x1), some (.int x2), some (.int x3), none, none, none]) rfl (Nat.le_of_ble_eq_true rfl) (Nat.le_of_ble_eq_true rfl) (p_M_number_0 W)
theorem p_M_number_16 {d : Nat} {x1 : Int32} {x2 : Int32} {x3 : Int32} {x4 : Int32} {x5 : Int32} {x6 : Int32} {S : fm_S} {Q : Int32 → fm_S → Prop}
    (W : (¬ (S.1 231 5) ≤ (S.1 231 11) → vp_in (S.1 231 11) 150) ∧ ((f_M_in ((f_M_byteAt S (S.1 231 11)).toInt64) 48 57) = 0 → ((f_M_in x6.toInt64 1 2) = 0 → Q (f_M_fails S x4) (g_M_fails S x4)) ∧ (¬ (f_M_in x6.toInt64 1 2) = 0 → ((f_M_in x5.toInt64 x2.toInt64 x3.toInt64) = 0 → Q (f_M_fails S x4) (g_M_fails S x4)) ∧ (¬ (f_M_in x5.toInt64 x2.toInt64 x3.toInt64) = 0 → (vp_in x1 3) ∧ Q 1 (fm_wI S 237 x1.toNatClampNeg x5)))) ∧ (¬ (f_M_in ((f_M_byteAt S (S.1 231 11)).toInt64) 48 57) = 0 → (¬ 3 ≤ x6 → ¬ (S.1 231 5) ≤ (S.1 231 11) → vp_in (S.1 231 11) 150) ∧ ∀ v8 : Int32, v8 = (if 3 ≤ x6 then x5 else ((10 * x5) + (f_M_byteAt S (S.1 231 11))) - 48) → (am_Po vI (d + 2) k_M_number 16 [some (.ref 231), some (.int x1), some (.int x2), some (.int x3), some (.int x4), some (.int v8), some (.int (x6 + 1))] [] (fm_wI S 231 11 ((S.1 231 11) + 1)) Q))) :
    am_Po vI (d + 2) k_M_number 16 [some (.ref 231), some (.int x1), some (.int x2), some (.int x3), some (.int x4), some (.int x5), some (.int x6)] [] S Q := by
  obtain ⟨g1, W⟩ := W
  refine po_of (fun _ nx => b_M_number_16 (s_M_byteAt (x1 := (S.1 231 11)) (S := S) g1) nx) ?_
  refine po_of (fun _ nx => b_M_number_24 (s_M_in (y0 := ((f_M_byteAt S (S.1 231 11)).toInt64)) (y2 := 48) (y4 := 57) (S := S)) nx) ?_
  by_cases q2 : (f_M_in ((f_M_byteAt S (S.1 231 11)).toInt64) 48 57) = 0
  · have W := W.1 q2
    refine po_of (fun _ nx => b_M_number_34 (fun _ => nx) (fun z => absurd q2 z)) ?_
    refine po_of (fun _ nx => b_M_number_83 (s_M_in (y0 := x6.toInt64) (y2 := 1) (y4 := 2) (S := S)) nx) ?_
    by_cases q3 : (f_M_in x6.toInt64 1 2) = 0
    · have W := W.1 q3
      refine po_of (fun _ nx => b_M_number_93 (fun _ => nx) (fun z => absurd q3 z)) ?_
      refine po_of (fun _ nx => b_M_number_109 (s_M_fails (x1 := x4) (S := S)) nx) ?_
      exact ⟨_, _, b_M_number_115 (fb_M_fails S x4), W⟩
    · have W := W.2 q3
      refine po_of (fun _ nx => b_M_number_93 (fun z => absurd z q3) (fun _ => nx)) ?_
      refine po_of (fun _ nx => b_M_number_96 (s_M_in (y0 := x5.toInt64) (y2 := x2.toInt64) (y4 := x3.toInt64) (S := S)) nx) ?_
      by_cases q4 : (f_M_in x5.toInt64 x2.toInt64 x3.toInt64) = 0
      · have W := W.1 q4
        refine po_of (fun _ nx => b_M_number_106 (fun z => absurd q4 z) (fun _ => nx)) ?_
        refine po_of (fun _ nx => b_M_number_109 (s_M_fails (x1 := x4) (S := S)) nx) ?_
        exact ⟨_, _, b_M_number_115 (fb_M_fails S x4), W⟩
      · have W := W.2 q4
        refine po_of (fun _ nx => b_M_number_106 (fun _ => nx) (fun z => absurd z q4)) ?_
        obtain ⟨g5, W⟩ := W
        exact ⟨_, _, b_M_number_116 g5, W⟩
  · have W := W.2 q2
    refine po_of (fun _ nx => b_M_number_34 (fun z => absurd z q2) (fun _ => nx)) ?_
    obtain ⟨g7, W⟩ := W
    have J : ∀ v8 : Int32, v8 = (if 3 ≤ x6 then x5 else ((10 * x5) + (f_M_byteAt S (S.1 231 11))) - 48) → am_Po vI (d + 2) k_M_number 65 [some (.ref 231), some (.int x1), some (.int x2), some (.int x3), some (.int x4), some (.int x5), some (.int x6)] [.int v8] S Q := by
      intro v8 v8_
      have W := W v8 v8_
      refine po_of (fun _ nx => b_M_number_65 nx) ?_
      exact W
    by_cases q6 : 3 ≤ x6
    · refine po_of (fun _ nx => b_M_number_37 (fun _ => nx) (fun z => absurd q6 z)) ?_
      refine po_of (fun _ nx => b_M_number_63 nx) ?_
      exact J _ (by simp only [if_pos q6])
    · refine po_of (fun _ nx => b_M_number_37 (fun z => absurd z q6) (fun _ => nx)) ?_
      refine po_of (fun _ nx => b_M_number_43 (s_M_byteAt (x1 := (S.1 231 11)) (S := S) (g7 q6)) nx) ?_
      refine po_of (fun _ nx => b_M_number_56 nx) ?_
      exact J _ (by simp only [if_neg q6])
abbrev H_M_number_16 (d : Nat) (x1 : Int32) (x2 : Int32) (x3 : Int32) (x4 : Int32) (x5 : Int32) (x6 : Int32) (S : fm_S) (Q : Int32 → fm_S → Prop) : Prop := am_Po vI (d + 2) k_M_number 16 [some (.ref 231), some (.int x1), some (.int x2), some (.int x3), some (.int x4), some (.int x5), some (.int x6)] [] S Q
theorem p_M_laneItem_0 {d : Nat} {o1 : Option Value} {S : fm_S} {Q : Int32 → fm_S → Prop}
    (W : am_Ps vI (d + 2) k_M_number [.ref 231, .int 0, .int 0, .int ((S.1 233 0) - 1)] S fun v2 S1 => ((v2 = 0 → Q 0 S1) ∧ (¬ v2 = 0 → am_Ps vV (d + 2) k_M_skip [.ref 231] S1 fun _ S4 => (am_Ps vI (d + 2) k_M_number [.ref 231, .int 1, .int 0, .int ((S4.1 233 0) - 1)] S4 fun v6 S5 => ((v6 = 0 → Q 0 S5) ∧ (¬ v6 = 0 → ((S5.1 237 0) = (S5.1 237 1) → Q (f_M_fails S5 (S4.1 231 11)) (g_M_fails S5 (S4.1 231 11))) ∧ (¬ (S5.1 237 0) = (S5.1 237 1) → am_Ps vI (d + 2) k_M_ends [.ref 231] S5 fun v10 S9 => ((v10 = 0 → Q 0 S9) ∧ (¬ v10 = 0 → (vp_in ((53 + (8 * (S9.1 237 0))) + (S9.1 237 1)) (fm_ln 233)) ∧ (vp_in ((53 + (8 * (S9.1 237 1))) + (S9.1 237 0)) (fm_ln 233)) ∧ Q 1 (g_M_addLane S9 233 (S9.1 237 0) (S9.1 237 1))))))))))) :
    am_Po vI (d + 3) k_M_laneItem 0 [some (.ref 231), o1] [] S Q := by
  obtain ⟨v2, S1, h17, W⟩ := W
  refine po_of (fun _ nx => b_M_laneItem_0 h17 nx) ?_
  by_cases q3 : v2 = 0
  · have W := W.1 q3
    refine po_of (fun _ nx => b_M_laneItem_14 (fun z => absurd q3 z) (fun _ => nx)) ?_
    exact ⟨_, _, b_M_laneItem_17, W⟩
  · have W := W.2 q3
    refine po_of (fun _ nx => b_M_laneItem_14 (fun _ => nx) (fun z => absurd z q3)) ?_
    obtain ⟨_, S4, h16, W⟩ := W
    refine po_of (fun _ nx => b_M_laneItem_19 h16 nx) ?_
    obtain ⟨v6, S5, h15, W⟩ := W
    refine po_of (fun _ nx => b_M_laneItem_23 h15 nx) ?_
    by_cases q7 : v6 = 0
    · have W := W.1 q7
      refine po_of (fun _ nx => b_M_laneItem_42 (fun z => absurd q7 z) (fun _ => nx)) ?_
      exact ⟨_, _, b_M_laneItem_45, W⟩
    · have W := W.2 q7
      refine po_of (fun _ nx => b_M_laneItem_42 (fun _ => nx) (fun z => absurd z q7)) ?_
      by_cases q8 : (S5.1 237 0) = (S5.1 237 1)
      · have W := W.1 q8
        refine po_of (fun _ nx => b_M_laneItem_47 (fun z => absurd q8 z) (fun _ => nx)) ?_
        refine po_of (fun _ nx => b_M_laneItem_62 (s_M_fails (x1 := (S4.1 231 11)) (S := S5)) nx) ?_
        exact ⟨_, _, b_M_laneItem_67 (fb_M_fails S5 (S4.1 231 11)), W⟩
      · have W := W.2 q8
        refine po_of (fun _ nx => b_M_laneItem_47 (fun _ => nx) (fun z => absurd z q8)) ?_
        obtain ⟨v10, S9, h14, W⟩ := W
        refine po_of (fun _ nx => b_M_laneItem_68 h14 nx) ?_
        by_cases q11 : v10 = 0
        · have W := W.1 q11
          refine po_of (fun _ nx => b_M_laneItem_72 (fun z => absurd q11 z) (fun _ => nx)) ?_
          exact ⟨_, _, b_M_laneItem_75, W⟩
        · have W := W.2 q11
          refine po_of (fun _ nx => b_M_laneItem_72 (fun _ => nx) (fun z => absurd z q11)) ?_
          obtain ⟨g12, W⟩ := W
          obtain ⟨g13, W⟩ := W
          refine po_of (fun _ nx => b_M_laneItem_77 (s_M_addLane (a0 := 233) (x1 := (S9.1 237 0)) (x2 := (S9.1 237 1)) (S := S9) (by decide +kernel) g12 g13) nx) ?_
          exact ⟨_, _, b_M_laneItem_96, W⟩
theorem e_M_laneItem {d : Nat} {S : fm_S} {Q : Int32 → fm_S → Prop}
    (W : am_Ps vI (d + 2) k_M_number [.ref 231, .int 0, .int 0, .int ((S.1 233 0) - 1)] S fun v2 S1 => ((v2 = 0 → Q 0 S1) ∧ (¬ v2 = 0 → am_Ps vV (d + 2) k_M_skip [.ref 231] S1 fun _ S4 => (am_Ps vI (d + 2) k_M_number [.ref 231, .int 1, .int 0, .int ((S4.1 233 0) - 1)] S4 fun v6 S5 => ((v6 = 0 → Q 0 S5) ∧ (¬ v6 = 0 → ((S5.1 237 0) = (S5.1 237 1) → Q (f_M_fails S5 (S4.1 231 11)) (g_M_fails S5 (S4.1 231 11))) ∧ (¬ (S5.1 237 0) = (S5.1 237 1) → am_Ps vI (d + 2) k_M_ends [.ref 231] S5 fun v10 S9 => ((v10 = 0 → Q 0 S9) ∧ (¬ v10 = 0 → (vp_in ((53 + (8 * (S9.1 237 0))) + (S9.1 237 1)) (fm_ln 233)) ∧ (vp_in ((53 + (8 * (S9.1 237 1))) + (S9.1 237 0)) (fm_ln 233)) ∧ Q 1 (g_M_addLane S9 233 (S9.1 237 0) (S9.1 237 1))))))))))) :
    am_Ps vI (d + 3) k_M_laneItem [.ref 231] S Q := ps_of (L := [some (.ref 231), none]) rfl (Nat.le_of_ble_eq_true rfl) (Nat.le_of_ble_eq_true rfl) (p_M_laneItem_0 W)
theorem p_M_day_0 {d : Nat} {x1 : Int32} {o2 : Option Value} {S : fm_S} {Q : Int32 → fm_S → Prop}
    (W : (x1 = (-1) → ((S.1 232 3) = 8 → am_Po vI (d + 5) k_M_day 31 [some (.ref 231), some (.int x1), some (.int 0)] [] S Q) ∧ (¬ (S.1 232 3) = 8 → (¬ (173 + (25 * (S.1 232 3))) < 0) ∧ (232 ≠ 232 ∨ 53 ≤ (173 + (25 * (S.1 232 3))).toNatClampNeg) ∧ ((173 + (25 * (S.1 232 3))).toNatClampNeg + 25 ≤ (if 0 = 0 then fm_ln 232 else fm_ln 232) ∧ 53 ≤ (if 0 = 0 then fm_ln 232 else fm_ln 232)) ∧ am_Ps vI (d + 4) k_M_goDay [.ref 231, .int x1] (fm_wI (g_past S 232 232 (173 + (25 * (S.1 232 3))) 0) 232 3 (((g_past S 232 232 (173 + (25 * (S.1 232 3))) 0).1 232 3) + 1)) fun v7 S6 => (Q v7 S6))) ∧ (¬ x1 = (-1) → ((f_M_isDish S x1) = 0 → Q f_M_bad (g_M_bad S)) ∧ (¬ (f_M_isDish S x1) = 0 → ((S.1 232 3) = 8 → am_Po vI (d + 5) k_M_day 31 [some (.ref 231), some (.int x1), some (.int 0)] [] S Q) ∧ (¬ (S.1 232 3) = 8 → (¬ (173 + (25 * (S.1 232 3))) < 0) ∧ (232 ≠ 232 ∨ 53 ≤ (173 + (25 * (S.1 232 3))).toNatClampNeg) ∧ ((173 + (25 * (S.1 232 3))).toNatClampNeg + 25 ≤ (if 0 = 0 then fm_ln 232 else fm_ln 232) ∧ 53 ≤ (if 0 = 0 then fm_ln 232 else fm_ln 232)) ∧ am_Ps vI (d + 4) k_M_goDay [.ref 231, .int x1] (fm_wI (g_past S 232 232 (173 + (25 * (S.1 232 3))) 0) 232 3 (((g_past S 232 232 (173 + (25 * (S.1 232 3))) 0).1 232 3) + 1)) fun v15 S14 => (Q v15 S14))))) :
    am_Po vI (d + 5) k_M_day 0 [some (.ref 231), some (.int x1), o2] [] S Q := by
  by_cases q1 : x1 = (-1)
  · have W := W.1 q1
    refine po_of (fun _ nx => b_M_day_0 (fun _ => nx) (fun z => absurd q1 z)) ?_
    by_cases q2 : (S.1 232 3) = 8
    · have W := W.1 q2
      refine po_of (fun _ nx => b_M_day_18 (fun z => absurd q2 z) (fun _ => nx)) ?_
      refine po_of (fun _ nx => b_M_day_29 nx) ?_
      exact W
    · have W := W.2 q2
      refine po_of (fun _ nx => b_M_day_18 (fun _ => nx) (fun z => absurd z q2)) ?_
      obtain ⟨g3, W⟩ := W
      obtain ⟨g4, W⟩ := W
      obtain ⟨g5, W⟩ := W
      refine po_of (fun _ nx => b_M_day_74 (s_M_past (a0 := 232) (a1 := 232) (x2 := (173 + (25 * (S.1 232 3)))) (x3 := 0) (S := S) (by decide +kernel) (by decide +kernel) g3 g4 g5) nx) ?_
      obtain ⟨v7, S6, h8, W⟩ := W
      refine po_of (fun _ nx => b_M_day_99 h8 nx) ?_
      exact ⟨_, _, b_M_day_114, W⟩
  · have W := W.2 q1
    refine po_of (fun _ nx => b_M_day_0 (fun z => absurd z q1) (fun _ => nx)) ?_
    refine po_of (fun _ nx => b_M_day_5 (s_M_isDish (x1 := x1) (S := S)) nx) ?_
    by_cases q9 : (f_M_isDish S x1) = 0
    · have W := W.1 q9
      refine po_of (fun _ nx => b_M_day_10 (fun z => absurd q9 z) (fun _ => nx)) ?_
      refine po_of (fun _ nx => b_M_day_13 (s_M_bad (S := S)) nx) ?_
      exact ⟨_, _, b_M_day_17, W⟩
    · have W := W.2 q9
      refine po_of (fun _ nx => b_M_day_10 (fun _ => nx) (fun z => absurd z q9)) ?_
      by_cases q10 : (S.1 232 3) = 8
      · have W := W.1 q10
        refine po_of (fun _ nx => b_M_day_18 (fun z => absurd q10 z) (fun _ => nx)) ?_
        refine po_of (fun _ nx => b_M_day_29 nx) ?_
        exact W
      · have W := W.2 q10
        refine po_of (fun _ nx => b_M_day_18 (fun _ => nx) (fun z => absurd z q10)) ?_
        obtain ⟨g11, W⟩ := W
        obtain ⟨g12, W⟩ := W
        obtain ⟨g13, W⟩ := W
        refine po_of (fun _ nx => b_M_day_74 (s_M_past (a0 := 232) (a1 := 232) (x2 := (173 + (25 * (S.1 232 3)))) (x3 := 0) (S := S) (by decide +kernel) (by decide +kernel) g11 g12 g13) nx) ?_
        obtain ⟨v15, S14, h16, W⟩ := W
        refine po_of (fun _ nx => b_M_day_99 h16 nx) ?_
        exact ⟨_, _, b_M_day_114, W⟩
theorem e_M_day {d : Nat} {x1 : Int32} {S : fm_S} {Q : Int32 → fm_S → Prop}
    (W : (x1 = (-1) → ((S.1 232 3) = 8 → am_Po vI (d + 5) k_M_day 31 [some (.ref 231), some (.int x1), some (.int 0)] [] S Q) ∧ (¬ (S.1 232 3) = 8 → (¬ (173 + (25 * (S.1 232 3))) < 0) ∧ (232 ≠ 232 ∨ 53 ≤ (173 + (25 * (S.1 232 3))).toNatClampNeg) ∧ ((173 + (25 * (S.1 232 3))).toNatClampNeg + 25 ≤ (if 0 = 0 then fm_ln 232 else fm_ln 232) ∧ 53 ≤ (if 0 = 0 then fm_ln 232 else fm_ln 232)) ∧ am_Ps vI (d + 4) k_M_goDay [.ref 231, .int x1] (fm_wI (g_past S 232 232 (173 + (25 * (S.1 232 3))) 0) 232 3 (((g_past S 232 232 (173 + (25 * (S.1 232 3))) 0).1 232 3) + 1)) fun v7 S6 => (Q v7 S6))) ∧ (¬ x1 = (-1) → ((f_M_isDish S x1) = 0 → Q f_M_bad (g_M_bad S)) ∧ (¬ (f_M_isDish S x1) = 0 → ((S.1 232 3) = 8 → am_Po vI (d + 5) k_M_day 31 [some (.ref 231), some (.int x1), some (.int 0)] [] S Q) ∧ (¬ (S.1 232 3) = 8 → (¬ (173 + (25 * (S.1 232 3))) < 0) ∧ (232 ≠ 232 ∨ 53 ≤ (173 + (25 * (S.1 232 3))).toNatClampNeg) ∧ ((173 + (25 * (S.1 232 3))).toNatClampNeg + 25 ≤ (if 0 = 0 then fm_ln 232 else fm_ln 232) ∧ 53 ≤ (if 0 = 0 then fm_ln 232 else fm_ln 232)) ∧ am_Ps vI (d + 4) k_M_goDay [.ref 231, .int x1] (fm_wI (g_past S 232 232 (173 + (25 * (S.1 232 3))) 0) 232 3 (((g_past S 232 232 (173 + (25 * (S.1 232 3))) 0).1 232 3) + 1)) fun v15 S14 => (Q v15 S14))))) :
    am_Ps vI (d + 5) k_M_day [.ref 231, .int x1] S Q := ps_of (L := [some (.ref 231), some (.int x1), none]) rfl (Nat.le_of_ble_eq_true rfl) (Nat.le_of_ble_eq_true rfl) (p_M_day_0 W)
theorem p_M_day_31 {d : Nat} {x1 : Int32} {x2 : Int32} {S : fm_S} {Q : Int32 → fm_S → Prop}
    (W : (175 ≤ x2 → (¬ (173 + (25 * ((fm_wI S 232 3 ((S.1 232 3) - 1)).1 232 3))) < 0) ∧ (232 ≠ 232 ∨ 53 ≤ (173 + (25 * ((fm_wI S 232 3 ((S.1 232 3) - 1)).1 232 3))).toNatClampNeg) ∧ ((173 + (25 * ((fm_wI S 232 3 ((S.1 232 3) - 1)).1 232 3))).toNatClampNeg + 25 ≤ (if 0 = 0 then fm_ln 232 else fm_ln 232) ∧ 53 ≤ (if 0 = 0 then fm_ln 232 else fm_ln 232)) ∧ am_Ps vI (d + 4) k_M_goDay [.ref 231, .int x1] (fm_wI (g_past (fm_wI S 232 3 ((S.1 232 3) - 1)) 232 232 (173 + (25 * ((fm_wI S 232 3 ((S.1 232 3) - 1)).1 232 3))) 0) 232 3 (((g_past (fm_wI S 232 3 ((S.1 232 3) - 1)) 232 232 (173 + (25 * ((fm_wI S 232 3 ((S.1 232 3) - 1)).1 232 3))) 0).1 232 3) + 1)) fun v6 S5 => (Q v6 S5)) ∧ (¬ 175 ≤ x2 → (vp_in (198 + x2) 373) ∧ (vp_in (173 + x2) 373) ∧ am_Po vI (d + 5) k_M_day 31 [some (.ref 231), some (.int x1), some (.int (x2 + 1))] [] (fm_wI S 232 ((173 + x2).toNatClampNeg) (S.1 232 ((198 + x2).toNatClampNeg))) Q)) :
    am_Po vI (d + 5) k_M_day 31 [some (.ref 231), some (.int x1), some (.int x2)] [] S Q := by
  by_cases q1 : 175 ≤ x2
  · have W := W.1 q1
    refine po_of (fun _ nx => b_M_day_31 (fun _ => nx) (fun z => absurd q1 z)) ?_
    refine po_of (fun _ nx => b_M_day_64 nx) ?_
    obtain ⟨g2, W⟩ := W
    obtain ⟨g3, W⟩ := W
    obtain ⟨g4, W⟩ := W
    refine po_of (fun _ nx => b_M_day_74 (s_M_past (a0 := 232) (a1 := 232) (x2 := (173 + (25 * ((fm_wI S 232 3 ((S.1 232 3) - 1)).1 232 3)))) (x3 := 0) (S := (fm_wI S 232 3 ((S.1 232 3) - 1))) (by decide +kernel) (by decide +kernel) g2 g3 g4) nx) ?_
    obtain ⟨v6, S5, h7, W⟩ := W
    refine po_of (fun _ nx => b_M_day_99 h7 nx) ?_
    exact ⟨_, _, b_M_day_114, W⟩
  · have W := W.2 q1
    refine po_of (fun _ nx => b_M_day_31 (fun z => absurd z q1) (fun _ => nx)) ?_
    obtain ⟨g8, W⟩ := W
    obtain ⟨g9, W⟩ := W
    refine po_of (fun _ nx => b_M_day_38 g8 g9 nx) ?_
    exact W
abbrev H_M_day_31 (d : Nat) (x1 : Int32) (x2 : Int32) (S : fm_S) (Q : Int32 → fm_S → Prop) : Prop := am_Po vI (d + 5) k_M_day 31 [some (.ref 231), some (.int x1), some (.int x2)] [] S Q
theorem p_M_goDay_0 {d : Nat} {x1 : Int32} {o2 : Option Value} {o3 : Option Value} {o4 : Option Value} {o5 : Option Value} {S : fm_S} {Q : Int32 → fm_S → Prop}
    (W : am_Ps vI (d + 3) k_M_opening [.ref 231, .int x1, .int (-1), .int 0] S fun v2 S1 => (am_Po vI (d + 4) k_M_goDay 10 [some (.ref 231), some (.int x1), some (.int v2), some (.int 0), o4, o5] [] S1 Q)) :
    am_Po vI (d + 4) k_M_goDay 0 [some (.ref 231), some (.int x1), o2, o3, o4, o5] [] S Q := by
  obtain ⟨v2, S1, h3, W⟩ := W
  refine po_of (fun _ nx => b_M_goDay_0 h3 nx) ?_
  refine po_of (fun _ nx => b_M_goDay_7 nx) ?_
  exact W
theorem e_M_goDay {d : Nat} {x1 : Int32} {S : fm_S} {Q : Int32 → fm_S → Prop}
    (W : am_Ps vI (d + 3) k_M_opening [.ref 231, .int x1, .int (-1), .int 0] S fun v2 S1 => (am_Po vI (d + 4) k_M_goDay 10 [some (.ref 231), some (.int x1), some (.int v2), some (.int 0), none, none] [] S1 Q)) :
    am_Ps vI (d + 4) k_M_goDay [.ref 231, .int x1] S Q := ps_of (L := [some (.ref 231), some (.int x1), none, none, none, none]) rfl (Nat.le_of_ble_eq_true rfl) (Nat.le_of_ble_eq_true rfl) (p_M_goDay_0 W)
theorem p_M_goDay_10 {d : Nat} {x1 : Int32} {x2 : Int32} {x3 : Int32} {o4 : Option Value} {o5 : Option Value} {S : fm_S} {Q : Int32 → fm_S → Prop}
    (W : ((S.1 232 0) ≤ x3 → Q x2 (fm_wI S 232 4 ((S.1 232 4) + 1))) ∧ (¬ (S.1 232 0) ≤ x3 → ((f_M_has x2 x3) = 0 → vp_in (29 + x3) 373) ∧ ∀ v4 : Int32, v4 = (if (f_M_has x2 x3) = 0 then S.1 232 ((29 + x3).toNatClampNeg) else S.1 232 4) → ((vp_in (29 + x3) 373) ∧ (¬ (f_M_isDish (fm_wI S 232 (29 + x3).toNatClampNeg v4) x1) = 0 → vp_in x3 8) ∧ ∀ v9 : Int32, v9 = (if (f_M_isDish (fm_wI S 232 (29 + x3).toNatClampNeg v4) x1) = 0 then (0 : Int32) else if ((fm_wI S 232 (29 + x3).toNatClampNeg v4).1 238 x3.toNatClampNeg) ≤ 0 then (0 : Int32) else (1 : Int32)) → ((¬ v9 = 0 → vp_in (125 + x1) 373) ∧ ∀ v12 : Int32, v12 = (if v9 = 0 then (-1 : Int32) else (fm_wI S 232 (29 + x3).toNatClampNeg v4).1 232 ((125 + x1).toNatClampNeg)) → ((¬ v9 = 0 → vp_in (37 + x3) 373) ∧ (¬ v9 = 0 → ((fm_wI S 232 (29 + x3).toNatClampNeg v4).1 232 ((37 + x3).toNatClampNeg)) = v12 → vp_in (45 + x3) 373) ∧ ∀ v17 : Int32, v17 = (if v9 = 0 then (0 : Int32) else if ((fm_wI S 232 (29 + x3).toNatClampNeg v4).1 232 ((37 + x3).toNatClampNeg)) = v12 then ((fm_wI S 232 (29 + x3).toNatClampNeg v4).1 232 ((45 + x3).toNatClampNeg)) + 1 else (1 : Int32)) → ((vp_in (45 + x3) 373) ∧ (vp_in (37 + x3) 373) ∧ am_Po vI (d + 4) k_M_goDay 10 [some (.ref 231), some (.int x1), some (.int x2), some (.int (x3 + 1)), some (.int v9), some (.int v12)] [] (fm_wI (fm_wI (fm_wI S 232 (29 + x3).toNatClampNeg v4) 232 (45 + x3).toNatClampNeg v17) 232 ((37 + x3).toNatClampNeg) v12) Q)))))) :
    am_Po vI (d + 4) k_M_goDay 10 [some (.ref 231), some (.int x1), some (.int x2), some (.int x3), o4, o5] [] S Q := by
  by_cases q1 : (S.1 232 0) ≤ x3
  · have W := W.1 q1
    refine po_of (fun _ nx => b_M_goDay_10 (fun _ => nx) (fun z => absurd q1 z)) ?_
    exact ⟨_, _, b_M_goDay_163, W⟩
  · have W := W.2 q1
    refine po_of (fun _ nx => b_M_goDay_10 (fun z => absurd z q1) (fun _ => nx)) ?_
    refine po_of (fun _ nx => b_M_goDay_20 (s_M_has (x0 := x2) (x1 := x3) (S := S)) nx) ?_
    obtain ⟨g3, W⟩ := W
    have J : ∀ v4 : Int32, v4 = (if (f_M_has x2 x3) = 0 then S.1 232 ((29 + x3).toNatClampNeg) else S.1 232 4) → am_Po vI (d + 4) k_M_goDay 54 [some (.ref 231), some (.int x1), some (.int x2), some (.int x3), o4, o5] [.int v4, .int (29 + x3), .ref 232] S Q := by
      intro v4 v4_
      have W := W v4 v4_
      obtain ⟨g5, W⟩ := W
      refine po_of (fun _ nx => b_M_goDay_54 g5 (s_M_isDish (x1 := x1) (S := (fm_wI S 232 (29 + x3).toNatClampNeg v4))) nx) ?_
      obtain ⟨g7, W⟩ := W
      have J : ∀ v9 : Int32, v9 = (if (f_M_isDish (fm_wI S 232 (29 + x3).toNatClampNeg v4) x1) = 0 then (0 : Int32) else if ((fm_wI S 232 (29 + x3).toNatClampNeg v4).1 238 x3.toNatClampNeg) ≤ 0 then (0 : Int32) else (1 : Int32)) → am_Po vI (d + 4) k_M_goDay 77 [some (.ref 231), some (.int x1), some (.int x2), some (.int x3), o4, o5] [.int v9] (fm_wI S 232 (29 + x3).toNatClampNeg v4) Q := by
        intro v9 v9_
        have W := W v9 v9_
        obtain ⟨g11, W⟩ := W
        have J : ∀ v12 : Int32, v12 = (if v9 = 0 then (-1 : Int32) else (fm_wI S 232 (29 + x3).toNatClampNeg v4).1 232 ((125 + x1).toNatClampNeg)) → am_Po vI (d + 4) k_M_goDay 97 [some (.ref 231), some (.int x1), some (.int x2), some (.int x3), some (.int v9), o5] [.int v12] (fm_wI S 232 (29 + x3).toNatClampNeg v4) Q := by
          intro v12 v12_
          have W := W v12 v12_
          obtain ⟨g14, W⟩ := W
          obtain ⟨g16, W⟩ := W
          have J : ∀ v17 : Int32, v17 = (if v9 = 0 then (0 : Int32) else if ((fm_wI S 232 (29 + x3).toNatClampNeg v4).1 232 ((37 + x3).toNatClampNeg)) = v12 then ((fm_wI S 232 (29 + x3).toNatClampNeg v4).1 232 ((45 + x3).toNatClampNeg)) + 1 else (1 : Int32)) → am_Po vI (d + 4) k_M_goDay 145 [some (.ref 231), some (.int x1), some (.int x2), some (.int x3), some (.int v9), some (.int v12)] [.int v17, .int (45 + x3), .ref 232] (fm_wI S 232 (29 + x3).toNatClampNeg v4) Q := by
            intro v17 v17_
            have W := W v17 v17_
            obtain ⟨g18, W⟩ := W
            obtain ⟨g19, W⟩ := W
            refine po_of (fun _ nx => b_M_goDay_145 g18 g19 nx) ?_
            exact W
          by_cases q13 : v9 = 0
          · refine po_of (fun _ nx => b_M_goDay_97 (fun z => absurd q13 z) (fun _ => nx)) ?_
            refine po_of (fun _ nx => b_M_goDay_112 nx) ?_
            exact J _ (by simp only [if_pos q13])
          · refine po_of (fun _ nx => b_M_goDay_97 (fun _ => nx) (fun z => absurd z q13)) ?_
            by_cases q15 : ((fm_wI S 232 (29 + x3).toNatClampNeg v4).1 232 ((37 + x3).toNatClampNeg)) = v12
            · refine po_of (fun _ nx => b_M_goDay_116 (g14 q13) (fun z => absurd q15 z) (fun _ => nx)) ?_
              refine po_of (fun _ nx => b_M_goDay_130 (g16 q13 q15) nx) ?_
              exact J _ (by simp only [if_neg q13, if_pos q15])
            · refine po_of (fun _ nx => b_M_goDay_116 (g14 q13) (fun _ => nx) (fun z => absurd z q15)) ?_
              refine po_of (fun _ nx => b_M_goDay_144 nx) ?_
              exact J _ (by simp only [if_neg q13, if_neg q15])
        by_cases q10 : v9 = 0
        · refine po_of (fun _ nx => b_M_goDay_77 (fun _ => nx) (fun z => absurd q10 z)) ?_
          refine po_of (fun _ nx => b_M_goDay_96 nx) ?_
          exact J _ (by simp only [if_pos q10])
        · refine po_of (fun _ nx => b_M_goDay_77 (fun z => absurd z q10) (fun _ => nx)) ?_
          refine po_of (fun _ nx => b_M_goDay_84 (g11 q10) nx) ?_
          exact J _ (by simp only [if_neg q10])
      by_cases q6 : (f_M_isDish (fm_wI S 232 (29 + x3).toNatClampNeg v4) x1) = 0
      · refine po_of (fun _ nx => b_M_goDay_60 (fun _ => nx) (fun z => absurd q6 z)) ?_
        refine po_of (fun _ nx => b_M_goDay_76 nx) ?_
        exact J _ (by simp only [if_pos q6])
      · refine po_of (fun _ nx => b_M_goDay_60 (fun z => absurd z q6) (fun _ => nx)) ?_
        by_cases q8 : ((fm_wI S 232 (29 + x3).toNatClampNeg v4).1 238 x3.toNatClampNeg) ≤ 0
        · refine po_of (fun _ nx => b_M_goDay_63 (g7 q6) (fun _ => nx) (fun z => absurd q8 z)) ?_
          refine po_of (fun _ nx => b_M_goDay_76 nx) ?_
          exact J _ (by simp only [if_neg q6, if_pos q8])
        · refine po_of (fun _ nx => b_M_goDay_63 (g7 q6) (fun z => absurd z q8) (fun _ => nx)) ?_
          refine po_of (fun _ nx => b_M_goDay_72 nx) ?_
          exact J _ (by simp only [if_neg q6, if_neg q8])
    by_cases q2 : (f_M_has x2 x3) = 0
    · refine po_of (fun _ nx => b_M_goDay_33 (fun _ => nx) (fun z => absurd q2 z)) ?_
      refine po_of (fun _ nx => b_M_goDay_45 (g3 q2) nx) ?_
      exact J _ (by simp only [if_pos q2])
    · refine po_of (fun _ nx => b_M_goDay_33 (fun z => absurd z q2) (fun _ => nx)) ?_
      refine po_of (fun _ nx => b_M_goDay_36 nx) ?_
      exact J _ (by simp only [if_neg q2])
abbrev H_M_goDay_10 (d : Nat) (x1 : Int32) (x2 : Int32) (x3 : Int32) (o4 : Option Value) (o5 : Option Value) (S : fm_S) (Q : Int32 → fm_S → Prop) : Prop := am_Po vI (d + 4) k_M_goDay 10 [some (.ref 231), some (.int x1), some (.int x2), some (.int x3), o4, o5] [] S Q
theorem p_M_opening_0 {d : Nat} {x1 : Int32} {x2 : Int32} {x3 : Int32} {o4 : Option Value} {o5 : Option Value} {o6 : Option Value} {S : fm_S} {Q : Int32 → fm_S → Prop}
    (W : ((f_M_isDish S x1) = 0 → Q 0 S) ∧ (¬ (f_M_isDish S x1) = 0 → (vp_in (131 + x1) 373) ∧ (vp_in (121 + ((S.1 232 4) - (S.1 232 4) / 4 * 4)) 373) ∧ am_Ps vV (d + 2) k_M_spread [.ref 231, .int (S.1 232 ((131 + x1).toNatClampNeg)), .int (f_M_windOf S (S.1 232 4)), .int x2, .int x3] S fun _ S4 => (am_Po vI (d + 3) k_M_opening 40 [some (.ref 231), some (.int x1), some (.int x2), some (.int x3), some (.int 0), some (.int 0), o6] [] S4 Q))) :
    am_Po vI (d + 3) k_M_opening 0 [some (.ref 231), some (.int x1), some (.int x2), some (.int x3), o4, o5, o6] [] S Q := by
  refine po_of (fun _ nx => b_M_opening_0 (s_M_isDish (x1 := x1) (S := S)) nx) ?_
  by_cases q1 : (f_M_isDish S x1) = 0
  · have W := W.1 q1
    refine po_of (fun _ nx => b_M_opening_8 (fun _ => nx) (fun z => absurd q1 z)) ?_
    exact ⟨_, _, b_M_opening_129, W⟩
  · have W := W.2 q1
    refine po_of (fun _ nx => b_M_opening_8 (fun z => absurd z q1) (fun _ => nx)) ?_
    obtain ⟨g2, W⟩ := W
    obtain ⟨g3, W⟩ := W
    refine po_of (fun _ nx => b_M_opening_11 g2 (s_M_windOf (x1 := (S.1 232 4)) (S := S) g3) nx) ?_
    obtain ⟨_, S4, h5, W⟩ := W
    refine po_of (fun _ nx => b_M_opening_32 h5 nx) ?_
    refine po_of (fun _ nx => b_M_opening_37 nx) ?_
    exact W
theorem e_M_opening {d : Nat} {x1 : Int32} {x2 : Int32} {x3 : Int32} {S : fm_S} {Q : Int32 → fm_S → Prop}
    (W : ((f_M_isDish S x1) = 0 → Q 0 S) ∧ (¬ (f_M_isDish S x1) = 0 → (vp_in (131 + x1) 373) ∧ (vp_in (121 + ((S.1 232 4) - (S.1 232 4) / 4 * 4)) 373) ∧ am_Ps vV (d + 2) k_M_spread [.ref 231, .int (S.1 232 ((131 + x1).toNatClampNeg)), .int (f_M_windOf S (S.1 232 4)), .int x2, .int x3] S fun _ S4 => (am_Po vI (d + 3) k_M_opening 40 [some (.ref 231), some (.int x1), some (.int x2), some (.int x3), some (.int 0), some (.int 0), none] [] S4 Q))) :
    am_Ps vI (d + 3) k_M_opening [.ref 231, .int x1, .int x2, .int x3] S Q := ps_of (L := [some (.ref 231), some (.int x1), some (.int x2), some (.int x3), none, none, none]) rfl (Nat.le_of_ble_eq_true rfl) (Nat.le_of_ble_eq_true rfl) (p_M_opening_0 W)
theorem p_M_opening_40 {d : Nat} {x1 : Int32} {x2 : Int32} {x3 : Int32} {x4 : Int32} {x5 : Int32} {o6 : Option Value} {S : fm_S} {Q : Int32 → fm_S → Prop}
    (W : ((S.1 232 0) ≤ x5 → Q x4 S) ∧ (¬ (S.1 232 0) ≤ x5 → (vp_in (29 + x5) 373) ∧ ((S.1 232 ((29 + x5).toNatClampNeg)) = (-1) → vp_in (125 + x1) 373) ∧ ((S.1 232 ((29 + x5).toNatClampNeg)) = (-1) → vp_in x5 8) ∧ ((S.1 232 ((29 + x5).toNatClampNeg)) = (-1) → vp_in (37 + x5) 373) ∧ ((S.1 232 ((29 + x5).toNatClampNeg)) = (-1) → (S.1 232 ((37 + x5).toNatClampNeg)) = (S.1 232 ((125 + x1).toNatClampNeg)) → vp_in (45 + x5) 373) ∧ ((S.1 232 ((29 + x5).toNatClampNeg)) = (-1) → (S.1 232 ((37 + x5).toNatClampNeg)) = (S.1 232 ((125 + x1).toNatClampNeg)) → vp_in (5 + x5) 373) ∧ ((S.1 232 ((29 + x5).toNatClampNeg)) = (-1) → (S.1 232 ((37 + x5).toNatClampNeg)) = (S.1 232 ((125 + x1).toNatClampNeg)) → vp_in (21 + x5) 373) ∧ ((S.1 232 ((29 + x5).toNatClampNeg)) = (-1) → ¬ (S.1 232 ((37 + x5).toNatClampNeg)) = (S.1 232 ((125 + x1).toNatClampNeg)) → vp_in (5 + x5) 373) ∧ ((S.1 232 ((29 + x5).toNatClampNeg)) = (-1) → ¬ (S.1 232 ((37 + x5).toNatClampNeg)) = (S.1 232 ((125 + x1).toNatClampNeg)) → vp_in (21 + x5) 373) ∧ ∀ v14 : Int32, v14 = (if (S.1 232 ((29 + x5).toNatClampNeg)) = (-1) then if (f_M_movedIn S x5 (S.1 232 ((125 + x1).toNatClampNeg)) (S.1 238 x5.toNatClampNeg) (S.1 232 4)) < 10 then (0 : Int32) else (1 : Int32) else (0 : Int32)) → (∀ v16 : Int32, v16 = (if v14 = 0 then (0 : Int32) else 1 <<< (x5 &&& 31)) → (am_Po vI (d + 3) k_M_opening 40 [some (.ref 231), some (.int x1), some (.int x2), some (.int x3), some (.int (x4 ||| v16)), some (.int (x5 + 1)), some (.int v14)] [] S Q)))) :
    am_Po vI (d + 3) k_M_opening 40 [some (.ref 231), some (.int x1), some (.int x2), some (.int x3), some (.int x4), some (.int x5), o6] [] S Q := by
  by_cases q1 : (S.1 232 0) ≤ x5
  · have W := W.1 q1
    refine po_of (fun _ nx => b_M_opening_40 (fun _ => nx) (fun z => absurd q1 z)) ?_
    exact ⟨_, _, b_M_opening_129, W⟩
  · have W := W.2 q1
    refine po_of (fun _ nx => b_M_opening_40 (fun z => absurd z q1) (fun _ => nx)) ?_
    obtain ⟨g3, W⟩ := W
    obtain ⟨g5, W⟩ := W
    obtain ⟨g6, W⟩ := W
    obtain ⟨g7, W⟩ := W
    obtain ⟨g8, W⟩ := W
    obtain ⟨g9, W⟩ := W
    obtain ⟨g10, W⟩ := W
    obtain ⟨g11, W⟩ := W
    obtain ⟨g12, W⟩ := W
    have J : ∀ v14 : Int32, v14 = (if (S.1 232 ((29 + x5).toNatClampNeg)) = (-1) then if (f_M_movedIn S x5 (S.1 232 ((125 + x1).toNatClampNeg)) (S.1 238 x5.toNatClampNeg) (S.1 232 4)) < 10 then (0 : Int32) else (1 : Int32) else (0 : Int32)) → am_Po vI (d + 3) k_M_opening 103 [some (.ref 231), some (.int x1), some (.int x2), some (.int x3), some (.int x4), some (.int x5), o6] [.int v14] S Q := by
      intro v14 v14_
      have W := W v14 v14_
      have J : ∀ v16 : Int32, v16 = (if v14 = 0 then (0 : Int32) else 1 <<< (x5 &&& 31)) → am_Po vI (d + 3) k_M_opening 120 [some (.ref 231), some (.int x1), some (.int x2), some (.int x3), some (.int x4), some (.int x5), some (.int v14)] [.int v16, .int x4] S Q := by
        intro v16 v16_
        have W := W v16 v16_
        refine po_of (fun _ nx => b_M_opening_120 nx) ?_
        exact W
      by_cases q15 : v14 = 0
      · refine po_of (fun _ nx => b_M_opening_103 (fun _ => nx) (fun z => absurd q15 z)) ?_
        refine po_of (fun _ nx => b_M_opening_119 nx) ?_
        exact J _ (by simp only [if_pos q15])
      · refine po_of (fun _ nx => b_M_opening_103 (fun z => absurd z q15) (fun _ => nx)) ?_
        refine po_of (fun _ nx => b_M_opening_112 nx) ?_
        exact J _ (by simp only [if_neg q15])
    by_cases q4 : (S.1 232 ((29 + x5).toNatClampNeg)) = (-1)
    · refine po_of (fun _ nx => b_M_opening_51 g3 (fun z => absurd q4 z) (fun _ => nx)) ?_
      refine po_of (fun _ nx => b_M_opening_65 (g5 q4) (g6 q4) (s_M_movedIn (x1 := x5) (x2 := (S.1 232 ((125 + x1).toNatClampNeg))) (x3 := (S.1 238 x5.toNatClampNeg)) (x4 := (S.1 232 4)) (S := S) (g7 q4) (g8 q4) (g9 q4) (g10 q4) (g11 q4) (g12 q4)) nx) ?_
      by_cases q13 : (f_M_movedIn S x5 (S.1 232 ((125 + x1).toNatClampNeg)) (S.1 238 x5.toNatClampNeg) (S.1 232 4)) < 10
      · refine po_of (fun _ nx => b_M_opening_93 (fun _ => nx) (fun z => absurd q13 z)) ?_
        refine po_of (fun _ nx => b_M_opening_102 nx) ?_
        exact J _ (by simp only [if_pos q4, if_pos q13])
      · refine po_of (fun _ nx => b_M_opening_93 (fun z => absurd z q13) (fun _ => nx)) ?_
        refine po_of (fun _ nx => b_M_opening_98 nx) ?_
        exact J _ (by simp only [if_pos q4, if_neg q13])
    · refine po_of (fun _ nx => b_M_opening_51 g3 (fun _ => nx) (fun z => absurd z q4)) ?_
      refine po_of (fun _ nx => b_M_opening_102 nx) ?_
      exact J _ (by simp only [if_neg q4])
abbrev H_M_opening_40 (d : Nat) (x1 : Int32) (x2 : Int32) (x3 : Int32) (x4 : Int32) (x5 : Int32) (o6 : Option Value) (S : fm_S) (Q : Int32 → fm_S → Prop) : Prop := am_Po vI (d + 3) k_M_opening 40 [some (.ref 231), some (.int x1), some (.int x2), some (.int x3), some (.int x4), some (.int x5), o6] [] S Q
theorem p_M_spread_0 {d : Nat} {x1 : Int32} {x2 : Int32} {x3 : Int32} {x4 : Int32} {o5 : Option Value} {o6 : Option Value} {o7 : Option Value} {o8 : Option Value} {o9 : Option Value} {o10 : Option Value} {S : fm_S} {Q : Unit → fm_S → Prop}
    (W : am_Po vV (d + 2) k_M_spread 3 [some (.ref 231), some (.int x1), some (.int x2), some (.int x3), some (.int x4), some (.int 0), o6, o7, o8, o9, o10] [] S Q) :
    am_Po vV (d + 2) k_M_spread 0 [some (.ref 231), some (.int x1), some (.int x2), some (.int x3), some (.int x4), o5, o6, o7, o8, o9, o10] [] S Q := by
  refine po_of (fun _ nx => b_M_spread_0 nx) ?_
  exact W
theorem e_M_spread {d : Nat} {x1 : Int32} {x2 : Int32} {x3 : Int32} {x4 : Int32} {S : fm_S} {Q : Unit → fm_S → Prop}
    (W : am_Po vV (d + 2) k_M_spread 3 [some (.ref 231), some (.int x1), some (.int x2), some (.int x3), some (.int x4), some (.int 0), none, none, none, none, none] [] S Q) :
    am_Ps vV (d + 2) k_M_spread [.ref 231, .int x1, .int x2, .int x3, .int x4] S Q := ps_of (L := [some (.ref 231), some (.int x1), some (.int x2), some (.int x3), some (.int x4), none, none, none, none, none, none]) rfl (Nat.le_of_ble_eq_true rfl) (Nat.le_of_ble_eq_true rfl) (p_M_spread_0 W)
theorem p_M_spread_3 {d : Nat} {x1 : Int32} {x2 : Int32} {x3 : Int32} {x4 : Int32} {x5 : Int32} {o6 : Option Value} {o7 : Option Value} {o8 : Option Value} {o9 : Option Value} {o10 : Option Value} {S : fm_S} {Q : Unit → fm_S → Prop}
    (W : (8 ≤ x5 → (vp_in (117 + x2) 373) ∧ ((f_M_isStreet S (S.1 232 ((117 + x2).toNatClampNeg))) = 0 → Q () S) ∧ (¬ (f_M_isStreet S (S.1 232 ((117 + x2).toNatClampNeg))) = 0 → (vp_in (13 + (S.1 232 ((117 + x2).toNatClampNeg))) 373) ∧ ∀ v7 : Int32, v7 = (if (S.1 232 ((117 + x2).toNatClampNeg)) = x3 then x4 else (0 : Int32)) → (∀ v9 : Int32, v9 = (if ((x1 - (S.1 232 ((13 + (S.1 232 ((117 + x2).toNatClampNeg))).toNatClampNeg))) - v7) ≤ 0 then (0 : Int32) else ((x1 - (S.1 232 ((13 + (S.1 232 ((117 + x2).toNatClampNeg))).toNatClampNeg))) - v7)) → ((vp_in (S.1 232 ((117 + x2).toNatClampNeg)) 8) ∧ am_Po vV (d + 2) k_M_spread 93 [some (.ref 231), some (.int x1), some (.int x2), some (.int x3), some (.int x4), some (.int (S.1 232 ((117 + x2).toNatClampNeg))), some (.int ((x1 - (S.1 232 ((13 + (S.1 232 ((117 + x2).toNatClampNeg))).toNatClampNeg))) - v7)), some (.int 1), o8, o9, o10] [] (fm_wI S 238 (S.1 232 ((117 + x2).toNatClampNeg)).toNatClampNeg v9) Q)))) ∧ (¬ 8 ≤ x5 → (vp_in x5 8) ∧ am_Po vV (d + 2) k_M_spread 3 [some (.ref 231), some (.int x1), some (.int x2), some (.int x3), some (.int x4), some (.int (x5 + 1)), o6, o7, o8, o9, o10] [] (fm_wI S 238 x5.toNatClampNeg 0) Q)) :
    am_Po vV (d + 2) k_M_spread 3 [some (.ref 231), some (.int x1), some (.int x2), some (.int x3), some (.int x4), some (.int x5), o6, o7, o8, o9, o10] [] S Q := by
  by_cases q1 : 8 ≤ x5
  · have W := W.1 q1
    refine po_of (fun _ nx => b_M_spread_3 (fun _ => nx) (fun z => absurd q1 z)) ?_
    obtain ⟨g2, W⟩ := W
    refine po_of (fun _ nx => b_M_spread_24 g2 (s_M_isStreet (x1 := (S.1 232 ((117 + x2).toNatClampNeg))) (S := S)) nx) ?_
    by_cases q3 : (f_M_isStreet S (S.1 232 ((117 + x2).toNatClampNeg))) = 0
    · have W := W.1 q3
      refine po_of (fun _ nx => b_M_spread_41 (fun z => absurd q3 z) (fun _ => nx)) ?_
      exact ⟨_, _, b_M_spread_44, W⟩
    · have W := W.2 q3
      refine po_of (fun _ nx => b_M_spread_41 (fun _ => nx) (fun z => absurd z q3)) ?_
      obtain ⟨g5, W⟩ := W
      have J : ∀ v7 : Int32, v7 = (if (S.1 232 ((117 + x2).toNatClampNeg)) = x3 then x4 else (0 : Int32)) → am_Po vV (d + 2) k_M_spread 69 [some (.ref 231), some (.int x1), some (.int x2), some (.int x3), some (.int x4), some (.int (S.1 232 ((117 + x2).toNatClampNeg))), o6, o7, o8, o9, o10] [.int v7, .int (x1 - (S.1 232 ((13 + (S.1 232 ((117 + x2).toNatClampNeg))).toNatClampNeg)))] S Q := by
        intro v7 v7_
        have W := W v7 v7_
        have J : ∀ v9 : Int32, v9 = (if ((x1 - (S.1 232 ((13 + (S.1 232 ((117 + x2).toNatClampNeg))).toNatClampNeg))) - v7) ≤ 0 then (0 : Int32) else ((x1 - (S.1 232 ((13 + (S.1 232 ((117 + x2).toNatClampNeg))).toNatClampNeg))) - v7)) → am_Po vV (d + 2) k_M_spread 89 [some (.ref 231), some (.int x1), some (.int x2), some (.int x3), some (.int x4), some (.int (S.1 232 ((117 + x2).toNatClampNeg))), some (.int ((x1 - (S.1 232 ((13 + (S.1 232 ((117 + x2).toNatClampNeg))).toNatClampNeg))) - v7)), o7, o8, o9, o10] [.int v9, .int (S.1 232 ((117 + x2).toNatClampNeg)), .ref 238] S Q := by
          intro v9 v9_
          have W := W v9 v9_
          obtain ⟨g10, W⟩ := W
          refine po_of (fun _ nx => b_M_spread_89 g10 nx) ?_
          exact W
        by_cases q8 : ((x1 - (S.1 232 ((13 + (S.1 232 ((117 + x2).toNatClampNeg))).toNatClampNeg))) - v7) ≤ 0
        · refine po_of (fun _ nx => b_M_spread_69 (fun _ => nx) (fun z => absurd q8 z)) ?_
          refine po_of (fun _ nx => b_M_spread_88 nx) ?_
          exact J _ (by simp only [if_pos q8])
        · refine po_of (fun _ nx => b_M_spread_69 (fun z => absurd z q8) (fun _ => nx)) ?_
          refine po_of (fun _ nx => b_M_spread_83 nx) ?_
          exact J _ (by simp only [if_neg q8])
      by_cases q6 : (S.1 232 ((117 + x2).toNatClampNeg)) = x3
      · refine po_of (fun _ nx => b_M_spread_45 g5 (fun z => absurd q6 z) (fun _ => nx)) ?_
        refine po_of (fun _ nx => b_M_spread_63 nx) ?_
        exact J _ (by simp only [if_pos q6])
      · refine po_of (fun _ nx => b_M_spread_45 g5 (fun _ => nx) (fun z => absurd z q6)) ?_
        refine po_of (fun _ nx => b_M_spread_68 nx) ?_
        exact J _ (by simp only [if_neg q6])
  · have W := W.2 q1
    refine po_of (fun _ nx => b_M_spread_3 (fun z => absurd z q1) (fun _ => nx)) ?_
    obtain ⟨g11, W⟩ := W
    refine po_of (fun _ nx => b_M_spread_10 g11 nx) ?_
    exact W
abbrev H_M_spread_3 (d : Nat) (x1 : Int32) (x2 : Int32) (x3 : Int32) (x4 : Int32) (x5 : Int32) (o6 : Option Value) (o7 : Option Value) (o8 : Option Value) (o9 : Option Value) (o10 : Option Value) (S : fm_S) (Q : Unit → fm_S → Prop) : Prop := am_Po vV (d + 2) k_M_spread 3 [some (.ref 231), some (.int x1), some (.int x2), some (.int x3), some (.int x4), some (.int x5), o6, o7, o8, o9, o10] [] S Q
theorem p_M_spread_93 {d : Nat} {x1 : Int32} {x2 : Int32} {x3 : Int32} {x4 : Int32} {x5 : Int32} {x6 : Int32} {x7 : Int32} {o8 : Option Value} {o9 : Option Value} {o10 : Option Value} {S : fm_S} {Q : Unit → fm_S → Prop}
    (W : (x7 = 0 → Q () S) ∧ (¬ x7 = 0 → am_Po vV (d + 2) k_M_spread 104 [some (.ref 231), some (.int x1), some (.int x2), some (.int x3), some (.int x4), some (.int x5), some (.int x6), some (.int 0), some (.int 0), o9, o10] [] S Q)) :
    am_Po vV (d + 2) k_M_spread 93 [some (.ref 231), some (.int x1), some (.int x2), some (.int x3), some (.int x4), some (.int x5), some (.int x6), some (.int x7), o8, o9, o10] [] S Q := by
  by_cases q1 : x7 = 0
  · have W := W.1 q1
    refine po_of (fun _ nx => b_M_spread_93 (fun _ => nx) (fun z => absurd q1 z)) ?_
    exact ⟨_, _, b_M_spread_238, W⟩
  · have W := W.2 q1
    refine po_of (fun _ nx => b_M_spread_93 (fun z => absurd z q1) (fun _ => nx)) ?_
    refine po_of (fun _ nx => b_M_spread_98 nx) ?_
    exact W
abbrev H_M_spread_93 (d : Nat) (x1 : Int32) (x2 : Int32) (x3 : Int32) (x4 : Int32) (x5 : Int32) (x6 : Int32) (x7 : Int32) (o8 : Option Value) (o9 : Option Value) (o10 : Option Value) (S : fm_S) (Q : Unit → fm_S → Prop) : Prop := am_Po vV (d + 2) k_M_spread 93 [some (.ref 231), some (.int x1), some (.int x2), some (.int x3), some (.int x4), some (.int x5), some (.int x6), some (.int x7), o8, o9, o10] [] S Q
theorem p_M_spread_104 {d : Nat} {x1 : Int32} {x2 : Int32} {x3 : Int32} {x4 : Int32} {x5 : Int32} {x6 : Int32} {x7 : Int32} {x8 : Int32} {o9 : Option Value} {o10 : Option Value} {S : fm_S} {Q : Unit → fm_S → Prop}
    (W : (64 ≤ x8 → am_Po vV (d + 2) k_M_spread 93 [some (.ref 231), some (.int x1), some (.int x2), some (.int x3), some (.int x4), some (.int x5), some (.int x6), some (.int x7), some (.int x8), o9, o10] [] S Q) ∧ (¬ 64 ≤ x8 → (vp_in (53 + x8) 373) ∧ ((S.1 232 ((53 + x8).toNatClampNeg)) = 1 → vp_in (x8 / 8) 8) ∧ ((S.1 232 ((53 + x8).toNatClampNeg)) = 1 → vp_in (13 + (x8 - x8 / 8 * 8)) 373) ∧ ∀ v8 : Int32, v8 = (if (S.1 232 ((53 + x8).toNatClampNeg)) = 1 then if (x8 - x8 / 8 * 8) = x3 then (((S.1 238 ((x8 / 8).toNatClampNeg)) - 2) - (S.1 232 ((13 + (x8 - x8 / 8 * 8)).toNatClampNeg))) - x4 else (((S.1 238 ((x8 / 8).toNatClampNeg)) - 2) - (S.1 232 ((13 + (x8 - x8 / 8 * 8)).toNatClampNeg))) - 0 else (0 : Int32)) → ((x7 = 0 → vp_in (x8 - x8 / 8 * 8) 8) ∧ ∀ v12 : Int32, v12 = (if x7 = 0 then if v8 ≤ (S.1 238 (x8 - x8 / 8 * 8).toNatClampNeg) then (0 : Int32) else (1 : Int32) else (1 : Int32)) → ((vp_in (x8 - x8 / 8 * 8) 8) ∧ (v8 ≤ (S.1 238 (x8 - x8 / 8 * 8).toNatClampNeg) → vp_in (x8 - x8 / 8 * 8) 8) ∧ ∀ v17 : Int32, v17 = (if v8 ≤ (S.1 238 (x8 - x8 / 8 * 8).toNatClampNeg) then S.1 238 (x8 - x8 / 8 * 8).toNatClampNeg else v8) → ((vp_in (x8 - x8 / 8 * 8) 8) ∧ am_Po vV (d + 2) k_M_spread 104 [some (.ref 231), some (.int x1), some (.int x2), some (.int x3), some (.int x4), some (.int x5), some (.int x6), some (.int v12), some (.int (x8 + 1)), some (.int (x8 - x8 / 8 * 8)), some (.int v8)] [] (fm_wI S 238 (x8 - x8 / 8 * 8).toNatClampNeg v17) Q))))) :
    am_Po vV (d + 2) k_M_spread 104 [some (.ref 231), some (.int x1), some (.int x2), some (.int x3), some (.int x4), some (.int x5), some (.int x6), some (.int x7), some (.int x8), o9, o10] [] S Q := by
  by_cases q1 : 64 ≤ x8
  · have W := W.1 q1
    refine po_of (fun _ nx => b_M_spread_104 (fun _ => nx) (fun z => absurd q1 z)) ?_
    refine po_of (fun _ nx => b_M_spread_235 nx) ?_
    exact W
  · have W := W.2 q1
    refine po_of (fun _ nx => b_M_spread_104 (fun z => absurd z q1) (fun _ => nx)) ?_
    obtain ⟨g3, W⟩ := W
    obtain ⟨g5, W⟩ := W
    obtain ⟨g6, W⟩ := W
    have J : ∀ v8 : Int32, v8 = (if (S.1 232 ((53 + x8).toNatClampNeg)) = 1 then if (x8 - x8 / 8 * 8) = x3 then (((S.1 238 ((x8 / 8).toNatClampNeg)) - 2) - (S.1 232 ((13 + (x8 - x8 / 8 * 8)).toNatClampNeg))) - x4 else (((S.1 238 ((x8 / 8).toNatClampNeg)) - 2) - (S.1 232 ((13 + (x8 - x8 / 8 * 8)).toNatClampNeg))) - 0 else (0 : Int32)) → am_Po vV (d + 2) k_M_spread 172 [some (.ref 231), some (.int x1), some (.int x2), some (.int x3), some (.int x4), some (.int x5), some (.int x6), some (.int x7), some (.int x8), some (.int (x8 - x8 / 8 * 8)), o10] [.int v8] S Q := by
      intro v8 v8_
      have W := W v8 v8_
      obtain ⟨g10, W⟩ := W
      have J : ∀ v12 : Int32, v12 = (if x7 = 0 then if v8 ≤ (S.1 238 (x8 - x8 / 8 * 8).toNatClampNeg) then (0 : Int32) else (1 : Int32) else (1 : Int32)) → am_Po vV (d + 2) k_M_spread 196 [some (.ref 231), some (.int x1), some (.int x2), some (.int x3), some (.int x4), some (.int x5), some (.int x6), some (.int x7), some (.int x8), some (.int (x8 - x8 / 8 * 8)), some (.int v8)] [.int v12] S Q := by
        intro v12 v12_
        have W := W v12 v12_
        obtain ⟨g14, W⟩ := W
        obtain ⟨g16, W⟩ := W
        have J : ∀ v17 : Int32, v17 = (if v8 ≤ (S.1 238 (x8 - x8 / 8 * 8).toNatClampNeg) then S.1 238 (x8 - x8 / 8 * 8).toNatClampNeg else v8) → am_Po vV (d + 2) k_M_spread 228 [some (.ref 231), some (.int x1), some (.int x2), some (.int x3), some (.int x4), some (.int x5), some (.int x6), some (.int v12), some (.int x8), some (.int (x8 - x8 / 8 * 8)), some (.int v8)] [.int v17, .int (x8 - x8 / 8 * 8), .ref 238] S Q := by
          intro v17 v17_
          have W := W v17 v17_
          obtain ⟨g18, W⟩ := W
          refine po_of (fun _ nx => b_M_spread_228 g18 nx) ?_
          exact W
        by_cases q15 : v8 ≤ (S.1 238 (x8 - x8 / 8 * 8).toNatClampNeg)
        · refine po_of (fun _ nx => b_M_spread_196 g14 (fun _ => nx) (fun z => absurd q15 z)) ?_
          refine po_of (fun _ nx => b_M_spread_221 (g16 q15) nx) ?_
          exact J _ (by simp only [if_pos q15])
        · refine po_of (fun _ nx => b_M_spread_196 g14 (fun z => absurd z q15) (fun _ => nx)) ?_
          refine po_of (fun _ nx => b_M_spread_216 nx) ?_
          exact J _ (by simp only [if_neg q15])
      by_cases q9 : x7 = 0
      · refine po_of (fun _ nx => b_M_spread_172 (fun z => absurd q9 z) (fun _ => nx)) ?_
        by_cases q11 : v8 ≤ (S.1 238 (x8 - x8 / 8 * 8).toNatClampNeg)
        · refine po_of (fun _ nx => b_M_spread_179 (g10 q9) (fun _ => nx) (fun z => absurd q11 z)) ?_
          refine po_of (fun _ nx => b_M_spread_195 nx) ?_
          exact J _ (by simp only [if_pos q9, if_pos q11])
        · refine po_of (fun _ nx => b_M_spread_179 (g10 q9) (fun z => absurd z q11) (fun _ => nx)) ?_
          refine po_of (fun _ nx => b_M_spread_191 nx) ?_
          exact J _ (by simp only [if_pos q9, if_neg q11])
      · refine po_of (fun _ nx => b_M_spread_172 (fun _ => nx) (fun z => absurd z q9)) ?_
        refine po_of (fun _ nx => b_M_spread_191 nx) ?_
        exact J _ (by simp only [if_neg q9])
    by_cases q4 : (S.1 232 ((53 + x8).toNatClampNeg)) = 1
    · refine po_of (fun _ nx => b_M_spread_111 g3 (fun z => absurd q4 z) (fun _ => nx)) ?_
      by_cases q7 : (x8 - x8 / 8 * 8) = x3
      · refine po_of (fun _ nx => b_M_spread_132 (g5 q4) (g6 q4) (fun z => absurd q7 z) (fun _ => nx)) ?_
        refine po_of (fun _ nx => b_M_spread_161 nx) ?_
        refine po_of (fun _ nx => b_M_spread_167 nx) ?_
        exact J _ (by simp only [if_pos q4, if_pos q7])
      · refine po_of (fun _ nx => b_M_spread_132 (g5 q4) (g6 q4) (fun _ => nx) (fun z => absurd z q7)) ?_
        refine po_of (fun _ nx => b_M_spread_166 nx) ?_
        refine po_of (fun _ nx => b_M_spread_167 nx) ?_
        exact J _ (by simp only [if_pos q4, if_neg q7])
    · refine po_of (fun _ nx => b_M_spread_111 g3 (fun _ => nx) (fun z => absurd z q4)) ?_
      refine po_of (fun _ nx => b_M_spread_171 nx) ?_
      exact J _ (by simp only [if_neg q4])
abbrev H_M_spread_104 (d : Nat) (x1 : Int32) (x2 : Int32) (x3 : Int32) (x4 : Int32) (x5 : Int32) (x6 : Int32) (x7 : Int32) (x8 : Int32) (o9 : Option Value) (o10 : Option Value) (S : fm_S) (Q : Unit → fm_S → Prop) : Prop := am_Po vV (d + 2) k_M_spread 104 [some (.ref 231), some (.int x1), some (.int x2), some (.int x3), some (.int x4), some (.int x5), some (.int x6), some (.int x7), some (.int x8), o9, o10] [] S Q
theorem p_M_smells_0 {d : Nat} {x1 : Int32} {x2 : Int32} {x3 : Int32} {S : fm_S} {Q : Int32 → fm_S → Prop}
    (W : ((f_M_isDish S x1) = 0 → Q f_M_bad (g_M_bad S)) ∧ (¬ (f_M_isDish S x1) = 0 → ((f_M_in x2.toInt64 0 3) = 0 → Q f_M_bad (g_M_bad S)) ∧ (¬ (f_M_in x2.toInt64 0 3) = 0 → ((f_M_isStreet S x3) = 0 → Q f_M_bad (g_M_bad S)) ∧ (¬ (f_M_isStreet S x3) = 0 → (vp_in (131 + x1) 373) ∧ am_Ps vV (d + 2) k_M_spread [.ref 231, .int (S.1 232 ((131 + x1).toNatClampNeg)), .int x2, .int (-1), .int 0] S fun _ S5 => ((vp_in x3 8) ∧ Q (S5.1 238 x3.toNatClampNeg) S5))))) :
    am_Po vI (d + 3) k_M_smells 0 [some (.ref 231), some (.int x1), some (.int x2), some (.int x3)] [] S Q := by
  refine po_of (fun _ nx => b_M_smells_0 (s_M_isDish (x1 := x1) (S := S)) nx) ?_
  by_cases q1 : (f_M_isDish S x1) = 0
  · have W := W.1 q1
    refine po_of (fun _ nx => b_M_smells_5 (fun _ => nx) (fun z => absurd q1 z)) ?_
    refine po_of (fun _ nx => b_M_smells_28 (s_M_bad (S := S)) nx) ?_
    exact ⟨_, _, b_M_smells_32, W⟩
  · have W := W.2 q1
    refine po_of (fun _ nx => b_M_smells_5 (fun z => absurd z q1) (fun _ => nx)) ?_
    refine po_of (fun _ nx => b_M_smells_8 (s_M_in (y0 := x2.toInt64) (y2 := 0) (y4 := 3) (S := S)) nx) ?_
    by_cases q2 : (f_M_in x2.toInt64 0 3) = 0
    · have W := W.1 q2
      refine po_of (fun _ nx => b_M_smells_17 (fun _ => nx) (fun z => absurd q2 z)) ?_
      refine po_of (fun _ nx => b_M_smells_28 (s_M_bad (S := S)) nx) ?_
      exact ⟨_, _, b_M_smells_32, W⟩
    · have W := W.2 q2
      refine po_of (fun _ nx => b_M_smells_17 (fun z => absurd z q2) (fun _ => nx)) ?_
      refine po_of (fun _ nx => b_M_smells_20 (s_M_isStreet (x1 := x3) (S := S)) nx) ?_
      by_cases q3 : (f_M_isStreet S x3) = 0
      · have W := W.1 q3
        refine po_of (fun _ nx => b_M_smells_25 (fun z => absurd q3 z) (fun _ => nx)) ?_
        refine po_of (fun _ nx => b_M_smells_28 (s_M_bad (S := S)) nx) ?_
        exact ⟨_, _, b_M_smells_32, W⟩
      · have W := W.2 q3
        refine po_of (fun _ nx => b_M_smells_25 (fun _ => nx) (fun z => absurd z q3)) ?_
        obtain ⟨g4, W⟩ := W
        obtain ⟨_, S5, h7, W⟩ := W
        refine po_of (fun _ nx => b_M_smells_33 g4 h7 nx) ?_
        obtain ⟨g6, W⟩ := W
        exact ⟨_, _, b_M_smells_50 g6, W⟩
theorem e_M_smells {d : Nat} {x1 : Int32} {x2 : Int32} {x3 : Int32} {S : fm_S} {Q : Int32 → fm_S → Prop}
    (W : ((f_M_isDish S x1) = 0 → Q f_M_bad (g_M_bad S)) ∧ (¬ (f_M_isDish S x1) = 0 → ((f_M_in x2.toInt64 0 3) = 0 → Q f_M_bad (g_M_bad S)) ∧ (¬ (f_M_in x2.toInt64 0 3) = 0 → ((f_M_isStreet S x3) = 0 → Q f_M_bad (g_M_bad S)) ∧ (¬ (f_M_isStreet S x3) = 0 → (vp_in (131 + x1) 373) ∧ am_Ps vV (d + 2) k_M_spread [.ref 231, .int (S.1 232 ((131 + x1).toNatClampNeg)), .int x2, .int (-1), .int 0] S fun _ S5 => ((vp_in x3 8) ∧ Q (S5.1 238 x3.toNatClampNeg) S5))))) :
    am_Ps vI (d + 3) k_M_smells [.ref 231, .int x1, .int x2, .int x3] S Q := ps_of (L := [some (.ref 231), some (.int x1), some (.int x2), some (.int x3)]) rfl (Nat.le_of_ble_eq_true rfl) (Nat.le_of_ble_eq_true rfl) (p_M_smells_0 W)
theorem p_M_moved_0 {d : Nat} {x1 : Int32} {x2 : Int32} {S : fm_S} {Q : Int32 → fm_S → Prop}
    (W : ((f_M_isDish S x1) = 0 → Q f_M_bad (g_M_bad S)) ∧ (¬ (f_M_isDish S x1) = 0 → ((f_M_isStreet S x2) = 0 → Q f_M_bad (g_M_bad S)) ∧ (¬ (f_M_isStreet S x2) = 0 → (vp_in (131 + x1) 373) ∧ (vp_in (121 + ((S.1 232 4) - (S.1 232 4) / 4 * 4)) 373) ∧ am_Ps vV (d + 2) k_M_spread [.ref 231, .int (S.1 232 ((131 + x1).toNatClampNeg)), .int (f_M_windOf S (S.1 232 4)), .int (-1), .int 0] S fun _ S5 => ((vp_in (125 + x1) 373) ∧ (vp_in x2 8) ∧ (vp_in (37 + x2) 373) ∧ ((S5.1 232 ((37 + x2).toNatClampNeg)) = (S5.1 232 ((125 + x1).toNatClampNeg)) → vp_in (45 + x2) 373) ∧ ((S5.1 232 ((37 + x2).toNatClampNeg)) = (S5.1 232 ((125 + x1).toNatClampNeg)) → vp_in (5 + x2) 373) ∧ ((S5.1 232 ((37 + x2).toNatClampNeg)) = (S5.1 232 ((125 + x1).toNatClampNeg)) → vp_in (21 + x2) 373) ∧ (¬ (S5.1 232 ((37 + x2).toNatClampNeg)) = (S5.1 232 ((125 + x1).toNatClampNeg)) → vp_in (5 + x2) 373) ∧ (¬ (S5.1 232 ((37 + x2).toNatClampNeg)) = (S5.1 232 ((125 + x1).toNatClampNeg)) → vp_in (21 + x2) 373) ∧ Q (f_M_movedIn S5 x2 (S5.1 232 ((125 + x1).toNatClampNeg)) (S5.1 238 x2.toNatClampNeg) (S5.1 232 4)) S5)))) :
    am_Po vI (d + 3) k_M_moved 0 [some (.ref 231), some (.int x1), some (.int x2)] [] S Q := by
  refine po_of (fun _ nx => b_M_moved_0 (s_M_isDish (x1 := x1) (S := S)) nx) ?_
  by_cases q1 : (f_M_isDish S x1) = 0
  · have W := W.1 q1
    refine po_of (fun _ nx => b_M_moved_5 (fun _ => nx) (fun z => absurd q1 z)) ?_
    refine po_of (fun _ nx => b_M_moved_16 (s_M_bad (S := S)) nx) ?_
    exact ⟨_, _, b_M_moved_20, W⟩
  · have W := W.2 q1
    refine po_of (fun _ nx => b_M_moved_5 (fun z => absurd z q1) (fun _ => nx)) ?_
    refine po_of (fun _ nx => b_M_moved_8 (s_M_isStreet (x1 := x2) (S := S)) nx) ?_
    by_cases q2 : (f_M_isStreet S x2) = 0
    · have W := W.1 q2
      refine po_of (fun _ nx => b_M_moved_13 (fun z => absurd q2 z) (fun _ => nx)) ?_
      refine po_of (fun _ nx => b_M_moved_16 (s_M_bad (S := S)) nx) ?_
      exact ⟨_, _, b_M_moved_20, W⟩
    · have W := W.2 q2
      refine po_of (fun _ nx => b_M_moved_13 (fun _ => nx) (fun z => absurd z q2)) ?_
      obtain ⟨g3, W⟩ := W
      obtain ⟨g4, W⟩ := W
      refine po_of (fun _ nx => b_M_moved_21 g3 (s_M_windOf (x1 := (S.1 232 4)) (S := S) g4) nx) ?_
      obtain ⟨_, S5, h14, W⟩ := W
      refine po_of (fun _ nx => b_M_moved_42 h14 nx) ?_
      obtain ⟨g6, W⟩ := W
      obtain ⟨g7, W⟩ := W
      obtain ⟨g8, W⟩ := W
      obtain ⟨g9, W⟩ := W
      obtain ⟨g10, W⟩ := W
      obtain ⟨g11, W⟩ := W
      obtain ⟨g12, W⟩ := W
      obtain ⟨g13, W⟩ := W
      refine po_of (fun _ nx => b_M_moved_47 g6 g7 (s_M_movedIn (x1 := x2) (x2 := (S5.1 232 ((125 + x1).toNatClampNeg))) (x3 := (S5.1 238 x2.toNatClampNeg)) (x4 := (S5.1 232 4)) (S := S5) g8 g9 g10 g11 g12 g13) nx) ?_
      exact ⟨_, _, b_M_moved_73, W⟩
theorem e_M_moved {d : Nat} {x1 : Int32} {x2 : Int32} {S : fm_S} {Q : Int32 → fm_S → Prop}
    (W : ((f_M_isDish S x1) = 0 → Q f_M_bad (g_M_bad S)) ∧ (¬ (f_M_isDish S x1) = 0 → ((f_M_isStreet S x2) = 0 → Q f_M_bad (g_M_bad S)) ∧ (¬ (f_M_isStreet S x2) = 0 → (vp_in (131 + x1) 373) ∧ (vp_in (121 + ((S.1 232 4) - (S.1 232 4) / 4 * 4)) 373) ∧ am_Ps vV (d + 2) k_M_spread [.ref 231, .int (S.1 232 ((131 + x1).toNatClampNeg)), .int (f_M_windOf S (S.1 232 4)), .int (-1), .int 0] S fun _ S5 => ((vp_in (125 + x1) 373) ∧ (vp_in x2 8) ∧ (vp_in (37 + x2) 373) ∧ ((S5.1 232 ((37 + x2).toNatClampNeg)) = (S5.1 232 ((125 + x1).toNatClampNeg)) → vp_in (45 + x2) 373) ∧ ((S5.1 232 ((37 + x2).toNatClampNeg)) = (S5.1 232 ((125 + x1).toNatClampNeg)) → vp_in (5 + x2) 373) ∧ ((S5.1 232 ((37 + x2).toNatClampNeg)) = (S5.1 232 ((125 + x1).toNatClampNeg)) → vp_in (21 + x2) 373) ∧ (¬ (S5.1 232 ((37 + x2).toNatClampNeg)) = (S5.1 232 ((125 + x1).toNatClampNeg)) → vp_in (5 + x2) 373) ∧ (¬ (S5.1 232 ((37 + x2).toNatClampNeg)) = (S5.1 232 ((125 + x1).toNatClampNeg)) → vp_in (21 + x2) 373) ∧ Q (f_M_movedIn S5 x2 (S5.1 232 ((125 + x1).toNatClampNeg)) (S5.1 238 x2.toNatClampNeg) (S5.1 232 4)) S5)))) :
    am_Ps vI (d + 3) k_M_moved [.ref 231, .int x1, .int x2] S Q := ps_of (L := [some (.ref 231), some (.int x1), some (.int x2)]) rfl (Nat.le_of_ble_eq_true rfl) (Nat.le_of_ble_eq_true rfl) (p_M_moved_0 W)
theorem p_M_falls_0 {d : Nat} {x1 : Int32} {x2 : Int32} {o3 : Option Value} {S : fm_S} {Q : Int32 → fm_S → Prop}
    (W : ((f_M_isDish S x1) = 0 → Q f_M_bad (g_M_bad S)) ∧ (¬ (f_M_isDish S x1) = 0 → ((f_M_isStreet S x2) = 0 → Q f_M_bad (g_M_bad S)) ∧ (¬ (f_M_isStreet S x2) = 0 → am_Po vI (d + 5) k_M_falls 36 [some (.ref 231), some (.int x1), some (.int x2), some (.int 0)] [] (g_past S 232 239 0 0) Q))) :
    am_Po vI (d + 5) k_M_falls 0 [some (.ref 231), some (.int x1), some (.int x2), o3] [] S Q := by
  refine po_of (fun _ nx => b_M_falls_0 (s_M_isDish (x1 := x1) (S := S)) nx) ?_
  by_cases q1 : (f_M_isDish S x1) = 0
  · have W := W.1 q1
    refine po_of (fun _ nx => b_M_falls_5 (fun _ => nx) (fun z => absurd q1 z)) ?_
    refine po_of (fun _ nx => b_M_falls_16 (s_M_bad (S := S)) nx) ?_
    exact ⟨_, _, b_M_falls_20, W⟩
  · have W := W.2 q1
    refine po_of (fun _ nx => b_M_falls_5 (fun z => absurd z q1) (fun _ => nx)) ?_
    refine po_of (fun _ nx => b_M_falls_8 (s_M_isStreet (x1 := x2) (S := S)) nx) ?_
    by_cases q2 : (f_M_isStreet S x2) = 0
    · have W := W.1 q2
      refine po_of (fun _ nx => b_M_falls_13 (fun z => absurd q2 z) (fun _ => nx)) ?_
      refine po_of (fun _ nx => b_M_falls_16 (s_M_bad (S := S)) nx) ?_
      exact ⟨_, _, b_M_falls_20, W⟩
    · have W := W.2 q2
      refine po_of (fun _ nx => b_M_falls_13 (fun _ => nx) (fun z => absurd z q2)) ?_
      refine po_of (fun _ nx => b_M_falls_21 (s_M_past (a0 := 232) (a1 := 239) (x2 := 0) (x3 := 0) (S := S) (by decide +kernel) (by decide +kernel) (by decide) (by decide +kernel) (by decide +kernel)) nx) ?_
      refine po_of (fun _ nx => b_M_falls_34 nx) ?_
      exact W
theorem e_M_falls {d : Nat} {x1 : Int32} {x2 : Int32} {S : fm_S} {Q : Int32 → fm_S → Prop}
    (W : ((f_M_isDish S x1) = 0 → Q f_M_bad (g_M_bad S)) ∧ (¬ (f_M_isDish S x1) = 0 → ((f_M_isStreet S x2) = 0 → Q f_M_bad (g_M_bad S)) ∧ (¬ (f_M_isStreet S x2) = 0 → am_Po vI (d + 5) k_M_falls 36 [some (.ref 231), some (.int x1), some (.int x2), some (.int 0)] [] (g_past S 232 239 0 0) Q))) :
    am_Ps vI (d + 5) k_M_falls [.ref 231, .int x1, .int x2] S Q := ps_of (L := [some (.ref 231), some (.int x1), some (.int x2), none]) rfl (Nat.le_of_ble_eq_true rfl) (Nat.le_of_ble_eq_true rfl) (p_M_falls_0 W)
theorem p_M_falls_36 {d : Nat} {x1 : Int32} {x2 : Int32} {x3 : Int32} {S : fm_S} {Q : Int32 → fm_S → Prop}
    (W : (31 ≤ x3 → Q (-1) (g_past S 239 232 0 1)) ∧ (¬ 31 ≤ x3 → (vp_in (29 + x2) 373) ∧ ((S.1 232 ((29 + x2).toNatClampNeg)) = (-1) → am_Ps vI (d + 4) k_M_goDay [.ref 231, .int x1] S fun v5 S4 => (am_Po vI (d + 5) k_M_falls 36 [some (.ref 231), some (.int x1), some (.int x2), some (.int (x3 + 1))] [] S4 Q)) ∧ (¬ (S.1 232 ((29 + x2).toNatClampNeg)) = (-1) → Q x3 (g_past S 239 232 0 1)))) :
    am_Po vI (d + 5) k_M_falls 36 [some (.ref 231), some (.int x1), some (.int x2), some (.int x3)] [] S Q := by
  by_cases q1 : 31 ≤ x3
  · have W := W.1 q1
    refine po_of (fun _ nx => b_M_falls_36 (fun _ => nx) (fun z => absurd q1 z)) ?_
    refine po_of (fun _ nx => b_M_falls_67 (s_M_past (a0 := 239) (a1 := 232) (x2 := 0) (x3 := 1) (S := S) (by decide +kernel) (by decide +kernel) (by decide) (by decide +kernel) (by decide +kernel)) nx) ?_
    refine po_of (fun _ nx => b_M_falls_80 (fun _ => nx) (fun z => absurd q1 z)) ?_
    refine po_of (fun _ nx => b_M_falls_90 nx) ?_
    exact ⟨_, _, b_M_falls_91, W⟩
  · have W := W.2 q1
    refine po_of (fun _ nx => b_M_falls_36 (fun z => absurd z q1) (fun _ => nx)) ?_
    obtain ⟨g2, W⟩ := W
    by_cases q3 : (S.1 232 ((29 + x2).toNatClampNeg)) = (-1)
    · have W := W.1 q3
      refine po_of (fun _ nx => b_M_falls_42 g2 (fun z => absurd q3 z) (fun _ => nx)) ?_
      obtain ⟨v5, S4, h6, W⟩ := W
      refine po_of (fun _ nx => b_M_falls_55 h6 nx) ?_
      refine po_of (fun _ nx => b_M_falls_60 nx) ?_
      exact W
    · have W := W.2 q3
      refine po_of (fun _ nx => b_M_falls_42 g2 (fun _ => nx) (fun z => absurd z q3)) ?_
      refine po_of (fun _ nx => b_M_falls_67 (s_M_past (a0 := 239) (a1 := 232) (x2 := 0) (x3 := 1) (S := S) (by decide +kernel) (by decide +kernel) (by decide) (by decide +kernel) (by decide +kernel)) nx) ?_
      refine po_of (fun _ nx => b_M_falls_80 (fun z => absurd z q1) (fun _ => nx)) ?_
      refine po_of (fun _ nx => b_M_falls_86 nx) ?_
      exact ⟨_, _, b_M_falls_91, W⟩
abbrev H_M_falls_36 (d : Nat) (x1 : Int32) (x2 : Int32) (x3 : Int32) (S : fm_S) (Q : Int32 → fm_S → Prop) : Prop := am_Po vI (d + 5) k_M_falls 36 [some (.ref 231), some (.int x1), some (.int x2), some (.int x3)] [] S Q
theorem p_M_order_0 {d : Nat} {x1 : Int32} {x2 : Int32} {o3 : Option Value} {o4 : Option Value} {o5 : Option Value} {o6 : Option Value} {o7 : Option Value} {o8 : Option Value} {S : fm_S} {Q : Int32 → fm_S → Prop}
    (W : ((f_M_isStreet S x1) = 0 → Q f_M_bad10 (g_M_bad10 S)) ∧ (¬ (f_M_isStreet S x1) = 0 → ((-2) ≤ x2 → (vp_in (29 + x1) 373) ∧ ((S.1 232 ((29 + x1).toNatClampNeg)) = (-1) → am_Po vI (d + 6) k_M_order 48 [some (.ref 231), some (.int x1), some (.int x2), some (.int 1), some (.int 1), o5, o6, o7, o8] [] S Q) ∧ (¬ (S.1 232 ((29 + x1).toNatClampNeg)) = (-1) → ∀ v6 : Int32, v6 = (if 0 ≤ x2 then (-5 : Int32) else (0 : Int32)) → (Q v6 S))) ∧ (¬ (-2) ≤ x2 → Q f_M_bad10 (g_M_bad10 S)))) :
    am_Po vI (d + 6) k_M_order 0 [some (.ref 231), some (.int x1), some (.int x2), o3, o4, o5, o6, o7, o8] [] S Q := by
  refine po_of (fun _ nx => b_M_order_0 (s_M_isStreet (x1 := x1) (S := S)) nx) ?_
  by_cases q1 : (f_M_isStreet S x1) = 0
  · have W := W.1 q1
    refine po_of (fun _ nx => b_M_order_5 (fun _ => nx) (fun z => absurd q1 z)) ?_
    refine po_of (fun _ nx => b_M_order_14 (s_M_bad10 (S := S)) nx) ?_
    exact ⟨_, _, b_M_order_18, W⟩
  · have W := W.2 q1
    refine po_of (fun _ nx => b_M_order_5 (fun z => absurd z q1) (fun _ => nx)) ?_
    by_cases q2 : (-2) ≤ x2
    · have W := W.1 q2
      refine po_of (fun _ nx => b_M_order_8 (fun _ => nx) (fun z => absurd q2 z)) ?_
      obtain ⟨g3, W⟩ := W
      by_cases q4 : (S.1 232 ((29 + x1).toNatClampNeg)) = (-1)
      · have W := W.1 q4
        refine po_of (fun _ nx => b_M_order_19 g3 (fun _ => nx) (fun z => absurd q4 z)) ?_
        refine po_of (fun _ nx => b_M_order_43 nx) ?_
        exact W
      · have W := W.2 q4
        refine po_of (fun _ nx => b_M_order_19 g3 (fun z => absurd z q4) (fun _ => nx)) ?_
        have J : ∀ v6 : Int32, v6 = (if 0 ≤ x2 then (-5 : Int32) else (0 : Int32)) → am_Po vI (d + 6) k_M_order 42 [some (.ref 231), some (.int x1), some (.int x2), o3, o4, o5, o6, o7, o8] [.int v6] S Q := by
          intro v6 v6_
          have W := W v6 v6_
          exact ⟨_, _, b_M_order_42, W⟩
        by_cases q5 : 0 ≤ x2
        · refine po_of (fun _ nx => b_M_order_32 (fun _ => nx) (fun z => absurd q5 z)) ?_
          refine po_of (fun _ nx => b_M_order_40 nx) ?_
          exact J _ (by simp only [if_pos q5])
        · refine po_of (fun _ nx => b_M_order_32 (fun z => absurd z q5) (fun _ => nx)) ?_
          refine po_of (fun _ nx => b_M_order_36 nx) ?_
          exact J _ (by simp only [if_neg q5])
    · have W := W.2 q2
      refine po_of (fun _ nx => b_M_order_8 (fun z => absurd z q2) (fun _ => nx)) ?_
      refine po_of (fun _ nx => b_M_order_14 (s_M_bad10 (S := S)) nx) ?_
      exact ⟨_, _, b_M_order_18, W⟩
theorem e_M_order {d : Nat} {x1 : Int32} {x2 : Int32} {S : fm_S} {Q : Int32 → fm_S → Prop}
    (W : ((f_M_isStreet S x1) = 0 → Q f_M_bad10 (g_M_bad10 S)) ∧ (¬ (f_M_isStreet S x1) = 0 → ((-2) ≤ x2 → (vp_in (29 + x1) 373) ∧ ((S.1 232 ((29 + x1).toNatClampNeg)) = (-1) → am_Po vI (d + 6) k_M_order 48 [some (.ref 231), some (.int x1), some (.int x2), some (.int 1), some (.int 1), none, none, none, none] [] S Q) ∧ (¬ (S.1 232 ((29 + x1).toNatClampNeg)) = (-1) → ∀ v6 : Int32, v6 = (if 0 ≤ x2 then (-5 : Int32) else (0 : Int32)) → (Q v6 S))) ∧ (¬ (-2) ≤ x2 → Q f_M_bad10 (g_M_bad10 S)))) :
    am_Ps vI (d + 6) k_M_order [.ref 231, .int x1, .int x2] S Q := ps_of (L := [some (.ref 231), some (.int x1), some (.int x2), none, none, none, none, none, none]) rfl (Nat.le_of_ble_eq_true rfl) (Nat.le_of_ble_eq_true rfl) (p_M_order_0 W)
theorem p_M_order_48 {d : Nat} {x1 : Int32} {x2 : Int32} {x3 : Int32} {x4 : Int32} {o5 : Option Value} {o6 : Option Value} {o7 : Option Value} {o8 : Option Value} {S : fm_S} {Q : Int32 → fm_S → Prop}
    (W : (5 ≤ x4 → Q (-1) S) ∧ (¬ 5 ≤ x4 → am_Po vI (d + 6) k_M_order 69 [some (.ref 231), some (.int x1), some (.int x2), some (.int (x3 * (S.1 232 1))), some (.int x4), some (.int (-1)), some (.int 0), o7, o8] [] S Q)) :
    am_Po vI (d + 6) k_M_order 48 [some (.ref 231), some (.int x1), some (.int x2), some (.int x3), some (.int x4), o5, o6, o7, o8] [] S Q := by
  by_cases q1 : 5 ≤ x4
  · have W := W.1 q1
    refine po_of (fun _ nx => b_M_order_48 (fun _ => nx) (fun z => absurd q1 z)) ?_
    exact ⟨_, _, b_M_order_196, W⟩
  · have W := W.2 q1
    refine po_of (fun _ nx => b_M_order_48 (fun z => absurd z q1) (fun _ => nx)) ?_
    refine po_of (fun _ nx => b_M_order_54 nx) ?_
    exact W
abbrev H_M_order_48 (d : Nat) (x1 : Int32) (x2 : Int32) (x3 : Int32) (x4 : Int32) (o5 : Option Value) (o6 : Option Value) (o7 : Option Value) (o8 : Option Value) (S : fm_S) (Q : Int32 → fm_S → Prop) : Prop := am_Po vI (d + 6) k_M_order 48 [some (.ref 231), some (.int x1), some (.int x2), some (.int x3), some (.int x4), o5, o6, o7, o8] [] S Q
theorem p_M_order_69 {d : Nat} {x1 : Int32} {x2 : Int32} {x3 : Int32} {x4 : Int32} {x5 : Int32} {x6 : Int32} {o7 : Option Value} {o8 : Option Value} {S : fm_S} {Q : Int32 → fm_S → Prop}
    (W : (x3 ≤ x6 → (x5 < 0 → am_Po vI (d + 6) k_M_order 48 [some (.ref 231), some (.int x1), some (.int x2), some (.int x3), some (.int (x4 + 1)), some (.int x5), some (.int x6), o7, o8] [] S Q) ∧ (¬ x5 < 0 → (¬ x2 = (-1) → ¬ x2 = (-2) → ¬ x4 ≤ x2 → vp_in x2 4) ∧ ∀ v7 : Int32, v7 = (if x2 = (-1) then x4 else if x2 = (-2) then x5 else if x4 ≤ x2 then (-5 : Int32) else S.1 240 x2.toNatClampNeg) → (Q v7 S))) ∧ (¬ x3 ≤ x6 → am_Ps vI (d + 5) k_M_butterOf [.ref 231, .int x6, .int x4, .int x1] S fun v9 S8 => ((v9 < 0 → am_Po vI (d + 6) k_M_order 69 [some (.ref 231), some (.int x1), some (.int x2), some (.int x3), some (.int x4), some (.int x5), some (.int (x6 + 1)), some (.int v9), o8] [] S8 Q) ∧ (¬ v9 < 0 → (x5 < 0 → am_Po vI (d + 6) k_M_order 110 [some (.ref 231), some (.int x1), some (.int x2), some (.int x3), some (.int x4), some (.int v9), some (.int x6), some (.int v9), some (.int 0)] [] S8 Q) ∧ (¬ x5 < 0 → (x5 ≤ v9 → am_Po vI (d + 6) k_M_order 69 [some (.ref 231), some (.int x1), some (.int x2), some (.int x3), some (.int x4), some (.int x5), some (.int (x6 + 1)), some (.int v9), o8] [] S8 Q) ∧ (¬ x5 ≤ v9 → am_Po vI (d + 6) k_M_order 110 [some (.ref 231), some (.int x1), some (.int x2), some (.int x3), some (.int x4), some (.int v9), some (.int x6), some (.int v9), some (.int 0)] [] S8 Q)))))) :
    am_Po vI (d + 6) k_M_order 69 [some (.ref 231), some (.int x1), some (.int x2), some (.int x3), some (.int x4), some (.int x5), some (.int x6), o7, o8] [] S Q := by
  by_cases q1 : x3 ≤ x6
  · have W := W.1 q1
    refine po_of (fun _ nx => b_M_order_69 (fun _ => nx) (fun z => absurd q1 z)) ?_
    by_cases q2 : x5 < 0
    · have W := W.1 q2
      refine po_of (fun _ nx => b_M_order_146 (fun _ => nx) (fun z => absurd q2 z)) ?_
      refine po_of (fun _ nx => b_M_order_190 nx) ?_
      exact W
    · have W := W.2 q2
      refine po_of (fun _ nx => b_M_order_146 (fun z => absurd z q2) (fun _ => nx)) ?_
      obtain ⟨g6, W⟩ := W
      have J : ∀ v7 : Int32, v7 = (if x2 = (-1) then x4 else if x2 = (-2) then x5 else if x4 ≤ x2 then (-5 : Int32) else S.1 240 x2.toNatClampNeg) → am_Po vI (d + 6) k_M_order 189 [some (.ref 231), some (.int x1), some (.int x2), some (.int x3), some (.int x4), some (.int x5), some (.int x6), o7, o8] [.int v7] S Q := by
        intro v7 v7_
        have W := W v7 v7_
        exact ⟨_, _, b_M_order_189, W⟩
      by_cases q3 : x2 = (-1)
      · refine po_of (fun _ nx => b_M_order_151 (fun z => absurd q3 z) (fun _ => nx)) ?_
        refine po_of (fun _ nx => b_M_order_156 nx) ?_
        exact J _ (by simp only [if_pos q3])
      · refine po_of (fun _ nx => b_M_order_151 (fun _ => nx) (fun z => absurd z q3)) ?_
        by_cases q4 : x2 = (-2)
        · refine po_of (fun _ nx => b_M_order_161 (fun z => absurd q4 z) (fun _ => nx)) ?_
          refine po_of (fun _ nx => b_M_order_167 nx) ?_
          exact J _ (by simp only [if_neg q3, if_pos q4])
        · refine po_of (fun _ nx => b_M_order_161 (fun _ => nx) (fun z => absurd z q4)) ?_
          by_cases q5 : x4 ≤ x2
          · refine po_of (fun _ nx => b_M_order_172 (fun _ => nx) (fun z => absurd q5 z)) ?_
            refine po_of (fun _ nx => b_M_order_187 nx) ?_
            exact J _ (by simp only [if_neg q3, if_neg q4, if_pos q5])
          · refine po_of (fun _ nx => b_M_order_172 (fun z => absurd z q5) (fun _ => nx)) ?_
            refine po_of (fun _ nx => b_M_order_178 (g6 q3 q4 q5) nx) ?_
            exact J _ (by simp only [if_neg q3, if_neg q4, if_neg q5])
  · have W := W.2 q1
    refine po_of (fun _ nx => b_M_order_69 (fun z => absurd z q1) (fun _ => nx)) ?_
    obtain ⟨v9, S8, h13, W⟩ := W
    refine po_of (fun _ nx => b_M_order_75 h13 nx) ?_
    by_cases q10 : v9 < 0
    · have W := W.1 q10
      refine po_of (fun _ nx => b_M_order_84 (fun _ => nx) (fun z => absurd q10 z)) ?_
      refine po_of (fun _ nx => b_M_order_140 nx) ?_
      exact W
    · have W := W.2 q10
      refine po_of (fun _ nx => b_M_order_84 (fun z => absurd z q10) (fun _ => nx)) ?_
      by_cases q11 : x5 < 0
      · have W := W.1 q11
        refine po_of (fun _ nx => b_M_order_91 (fun _ => nx) (fun z => absurd q11 z)) ?_
        refine po_of (fun _ nx => b_M_order_103 nx) ?_
        exact W
      · have W := W.2 q11
        refine po_of (fun _ nx => b_M_order_91 (fun z => absurd z q11) (fun _ => nx)) ?_
        by_cases q12 : x5 ≤ v9
        · have W := W.1 q12
          refine po_of (fun _ nx => b_M_order_96 (fun _ => nx) (fun z => absurd q12 z)) ?_
          refine po_of (fun _ nx => b_M_order_140 nx) ?_
          exact W
        · have W := W.2 q12
          refine po_of (fun _ nx => b_M_order_96 (fun z => absurd z q12) (fun _ => nx)) ?_
          refine po_of (fun _ nx => b_M_order_103 nx) ?_
          exact W
abbrev H_M_order_69 (d : Nat) (x1 : Int32) (x2 : Int32) (x3 : Int32) (x4 : Int32) (x5 : Int32) (x6 : Int32) (o7 : Option Value) (o8 : Option Value) (S : fm_S) (Q : Int32 → fm_S → Prop) : Prop := am_Po vI (d + 6) k_M_order 69 [some (.ref 231), some (.int x1), some (.int x2), some (.int x3), some (.int x4), some (.int x5), some (.int x6), o7, o8] [] S Q
theorem p_M_order_110 {d : Nat} {x1 : Int32} {x2 : Int32} {x3 : Int32} {x4 : Int32} {x5 : Int32} {x6 : Int32} {x7 : Int32} {x8 : Int32} {S : fm_S} {Q : Int32 → fm_S → Prop}
    (W : (x4 ≤ x8 → am_Po vI (d + 6) k_M_order 69 [some (.ref 231), some (.int x1), some (.int x2), some (.int x3), some (.int x4), some (.int x5), some (.int (x6 + 1)), some (.int x7), some (.int x8)] [] S Q) ∧ (¬ x4 ≤ x8 → am_Ps vI (d + 5) k_M_dishIn [.ref 231, .int x6, .int x4, .int x8] S fun v3 S2 => ((vp_in x8 4) ∧ am_Po vI (d + 6) k_M_order 110 [some (.ref 231), some (.int x1), some (.int x2), some (.int x3), some (.int x4), some (.int x5), some (.int x6), some (.int x7), some (.int (x8 + 1))] [] (fm_wI S2 240 x8.toNatClampNeg v3) Q))) :
    am_Po vI (d + 6) k_M_order 110 [some (.ref 231), some (.int x1), some (.int x2), some (.int x3), some (.int x4), some (.int x5), some (.int x6), some (.int x7), some (.int x8)] [] S Q := by
  by_cases q1 : x4 ≤ x8
  · have W := W.1 q1
    refine po_of (fun _ nx => b_M_order_110 (fun _ => nx) (fun z => absurd q1 z)) ?_
    refine po_of (fun _ nx => b_M_order_140 nx) ?_
    exact W
  · have W := W.2 q1
    refine po_of (fun _ nx => b_M_order_110 (fun z => absurd z q1) (fun _ => nx)) ?_
    obtain ⟨v3, S2, h5, W⟩ := W
    refine po_of (fun _ nx => b_M_order_117 h5 nx) ?_
    obtain ⟨g4, W⟩ := W
    refine po_of (fun _ nx => b_M_order_133 g4 nx) ?_
    exact W
abbrev H_M_order_110 (d : Nat) (x1 : Int32) (x2 : Int32) (x3 : Int32) (x4 : Int32) (x5 : Int32) (x6 : Int32) (x7 : Int32) (x8 : Int32) (S : fm_S) (Q : Int32 → fm_S → Prop) : Prop := am_Po vI (d + 6) k_M_order 110 [some (.ref 231), some (.int x1), some (.int x2), some (.int x3), some (.int x4), some (.int x5), some (.int x6), some (.int x7), some (.int x8)] [] S Q
theorem p_M_butterOf_0 {d : Nat} {x1 : Int32} {x2 : Int32} {x3 : Int32} {o4 : Option Value} {o5 : Option Value} {o6 : Option Value} {o7 : Option Value} {S : fm_S} {Q : Int32 → fm_S → Prop}
    (W : am_Po vI (d + 5) k_M_butterOf 9 [some (.ref 231), some (.int x1), some (.int x2), some (.int x3), some (.int 0), some (.int 0), some (.int 0), o7] [] S Q) :
    am_Po vI (d + 5) k_M_butterOf 0 [some (.ref 231), some (.int x1), some (.int x2), some (.int x3), o4, o5, o6, o7] [] S Q := by
  refine po_of (fun _ nx => b_M_butterOf_0 nx) ?_
  exact W
theorem e_M_butterOf {d : Nat} {x1 : Int32} {x2 : Int32} {x3 : Int32} {S : fm_S} {Q : Int32 → fm_S → Prop}
    (W : am_Po vI (d + 5) k_M_butterOf 9 [some (.ref 231), some (.int x1), some (.int x2), some (.int x3), some (.int 0), some (.int 0), some (.int 0), none] [] S Q) :
    am_Ps vI (d + 5) k_M_butterOf [.ref 231, .int x1, .int x2, .int x3] S Q := ps_of (L := [some (.ref 231), some (.int x1), some (.int x2), some (.int x3), none, none, none, none]) rfl (Nat.le_of_ble_eq_true rfl) (Nat.le_of_ble_eq_true rfl) (p_M_butterOf_0 W)
theorem p_M_butterOf_9 {d : Nat} {x1 : Int32} {x2 : Int32} {x3 : Int32} {x4 : Int32} {x5 : Int32} {x6 : Int32} {o7 : Option Value} {S : fm_S} {Q : Int32 → fm_S → Prop}
    (W : (x2 ≤ x6 → (x2 ≤ (n_bits x4 8) → am_Po vI (d + 5) k_M_butterOf 83 [some (.ref 231), some (.int x1), some (.int x2), some (.int x3), some (.int x4), some (.int x5), some (.int 0), o7] [] (g_past S 232 239 0 0) Q) ∧ (¬ x2 ≤ (n_bits x4 8) → Q (-1) S)) ∧ (¬ x2 ≤ x6 → am_Ps vI (d + 4) k_M_dishIn [.ref 231, .int x1, .int x2, .int x6] S fun v4 S3 => ((vp_in (137 + v4) 373) ∧ am_Po vI (d + 5) k_M_butterOf 9 [some (.ref 231), some (.int x1), some (.int x2), some (.int x3), some (.int (x4 ||| (1 <<< (v4 &&& 31)))), some (.int (x5 + (S3.1 232 ((137 + v4).toNatClampNeg)))), some (.int (x6 + 1)), some (.int v4)] [] S3 Q))) :
    am_Po vI (d + 5) k_M_butterOf 9 [some (.ref 231), some (.int x1), some (.int x2), some (.int x3), some (.int x4), some (.int x5), some (.int x6), o7] [] S Q := by
  by_cases q1 : x2 ≤ x6
  · have W := W.1 q1
    refine po_of (fun _ nx => b_M_butterOf_9 (fun _ => nx) (fun z => absurd q1 z)) ?_
    refine po_of (fun _ nx => b_M_butterOf_56 (s_M_bits (x0 := x4) (S := S)) nx) ?_
    by_cases q2 : x2 ≤ (n_bits x4 8)
    · have W := W.1 q2
      refine po_of (fun _ nx => b_M_butterOf_61 (fun _ => nx) (fun z => absurd q2 z)) ?_
      refine po_of (fun _ nx => b_M_butterOf_67 (s_M_past (a0 := 232) (a1 := 239) (x2 := 0) (x3 := 0) (S := S) (by decide +kernel) (by decide +kernel) (by decide) (by decide +kernel) (by decide +kernel)) nx) ?_
      refine po_of (fun _ nx => b_M_butterOf_80 nx) ?_
      exact W
    · have W := W.2 q2
      refine po_of (fun _ nx => b_M_butterOf_61 (fun z => absurd z q2) (fun _ => nx)) ?_
      exact ⟨_, _, b_M_butterOf_65, W⟩
  · have W := W.2 q1
    refine po_of (fun _ nx => b_M_butterOf_9 (fun z => absurd z q1) (fun _ => nx)) ?_
    obtain ⟨v4, S3, h6, W⟩ := W
    refine po_of (fun _ nx => b_M_butterOf_15 h6 nx) ?_
    obtain ⟨g5, W⟩ := W
    refine po_of (fun _ nx => b_M_butterOf_23 g5 nx) ?_
    exact W
abbrev H_M_butterOf_9 (d : Nat) (x1 : Int32) (x2 : Int32) (x3 : Int32) (x4 : Int32) (x5 : Int32) (x6 : Int32) (o7 : Option Value) (S : fm_S) (Q : Int32 → fm_S → Prop) : Prop := am_Po vI (d + 5) k_M_butterOf 9 [some (.ref 231), some (.int x1), some (.int x2), some (.int x3), some (.int x4), some (.int x5), some (.int x6), o7] [] S Q
theorem p_M_butterOf_83 {d : Nat} {x1 : Int32} {x2 : Int32} {x3 : Int32} {x4 : Int32} {x5 : Int32} {x6 : Int32} {o7 : Option Value} {S : fm_S} {Q : Int32 → fm_S → Prop}
    (W : (x2 ≤ x6 → (vp_in (29 + x3) 373) ∧ ∀ v5 : Int32, v5 = (if (S.1 232 ((29 + x3).toNatClampNeg)) = (-1) then (0 : Int32) else (1 : Int32)) → ((v5 = 0 → Q (-1) (g_past S 239 232 0 1)) ∧ (¬ v5 = 0 → Q x5 (g_past S 239 232 0 1)))) ∧ (¬ x2 ≤ x6 → am_Ps vI (d + 4) k_M_dishIn [.ref 231, .int x1, .int x2, .int x6] S fun v8 S7 => (am_Ps vI (d + 4) k_M_goDay [.ref 231, .int v8] S7 fun v10 S9 => (am_Po vI (d + 5) k_M_butterOf 83 [some (.ref 231), some (.int x1), some (.int x2), some (.int x3), some (.int x4), some (.int x5), some (.int (x6 + 1)), o7] [] S9 Q)))) :
    am_Po vI (d + 5) k_M_butterOf 83 [some (.ref 231), some (.int x1), some (.int x2), some (.int x3), some (.int x4), some (.int x5), some (.int x6), o7] [] S Q := by
  by_cases q1 : x2 ≤ x6
  · have W := W.1 q1
    refine po_of (fun _ nx => b_M_butterOf_83 (fun _ => nx) (fun z => absurd q1 z)) ?_
    obtain ⟨g3, W⟩ := W
    have J : ∀ v5 : Int32, v5 = (if (S.1 232 ((29 + x3).toNatClampNeg)) = (-1) then (0 : Int32) else (1 : Int32)) → am_Po vI (d + 5) k_M_butterOf 126 [some (.ref 231), some (.int x1), some (.int x2), some (.int x3), some (.int x4), some (.int x5), some (.int x6), o7] [.int v5] S Q := by
      intro v5 v5_
      have W := W v5 v5_
      refine po_of (fun _ nx => b_M_butterOf_126 (s_M_past (a0 := 239) (a1 := 232) (x2 := 0) (x3 := 1) (S := S) (by decide +kernel) (by decide +kernel) (by decide) (by decide +kernel) (by decide +kernel)) nx) ?_
      by_cases q6 : v5 = 0
      · have W := W.1 q6
        refine po_of (fun _ nx => b_M_butterOf_141 (fun _ => nx) (fun z => absurd q6 z)) ?_
        refine po_of (fun _ nx => b_M_butterOf_151 nx) ?_
        exact ⟨_, _, b_M_butterOf_152, W⟩
      · have W := W.2 q6
        refine po_of (fun _ nx => b_M_butterOf_141 (fun z => absurd z q6) (fun _ => nx)) ?_
        refine po_of (fun _ nx => b_M_butterOf_146 nx) ?_
        exact ⟨_, _, b_M_butterOf_152, W⟩
    by_cases q4 : (S.1 232 ((29 + x3).toNatClampNeg)) = (-1)
    · refine po_of (fun _ nx => b_M_butterOf_108 g3 (fun _ => nx) (fun z => absurd q4 z)) ?_
      refine po_of (fun _ nx => b_M_butterOf_125 nx) ?_
      exact J _ (by simp only [if_pos q4])
    · refine po_of (fun _ nx => b_M_butterOf_108 g3 (fun z => absurd z q4) (fun _ => nx)) ?_
      refine po_of (fun _ nx => b_M_butterOf_121 nx) ?_
      exact J _ (by simp only [if_neg q4])
  · have W := W.2 q1
    refine po_of (fun _ nx => b_M_butterOf_83 (fun z => absurd z q1) (fun _ => nx)) ?_
    obtain ⟨v8, S7, h12, W⟩ := W
    refine po_of (fun _ nx => b_M_butterOf_89 h12 nx) ?_
    obtain ⟨v10, S9, h11, W⟩ := W
    refine po_of (fun _ nx => b_M_butterOf_98 h11 nx) ?_
    refine po_of (fun _ nx => b_M_butterOf_101 nx) ?_
    exact W
abbrev H_M_butterOf_83 (d : Nat) (x1 : Int32) (x2 : Int32) (x3 : Int32) (x4 : Int32) (x5 : Int32) (x6 : Int32) (o7 : Option Value) (S : fm_S) (Q : Int32 → fm_S → Prop) : Prop := am_Po vI (d + 5) k_M_butterOf 83 [some (.ref 231), some (.int x1), some (.int x2), some (.int x3), some (.int x4), some (.int x5), some (.int x6), o7] [] S Q
theorem p_M_dishIn_0 {d : Nat} {x1 : Int32} {x2 : Int32} {x3 : Int32} {o4 : Option Value} {o5 : Option Value} {S : fm_S} {Q : Int32 → fm_S → Prop}
    (W : am_Po vI d k_M_dishIn 8 [some (.ref 231), some (.int x1), some (.int x2), some (.int x3), some (.int x1), some (.int (x2 - 1))] [] S Q) :
    am_Po vI d k_M_dishIn 0 [some (.ref 231), some (.int x1), some (.int x2), some (.int x3), o4, o5] [] S Q := by
  refine po_of (fun _ nx => b_M_dishIn_0 nx) ?_
  exact W
theorem e_M_dishIn {d : Nat} {x1 : Int32} {x2 : Int32} {x3 : Int32} {S : fm_S} {Q : Int32 → fm_S → Prop}
    (W : am_Po vI d k_M_dishIn 8 [some (.ref 231), some (.int x1), some (.int x2), some (.int x3), some (.int x1), some (.int (x2 - 1))] [] S Q) :
    am_Ps vI d k_M_dishIn [.ref 231, .int x1, .int x2, .int x3] S Q := ps_of (L := [some (.ref 231), some (.int x1), some (.int x2), some (.int x3), none, none]) rfl (Nat.le_of_ble_eq_true rfl) (Nat.le_of_ble_eq_true rfl) (p_M_dishIn_0 W)
theorem p_M_dishIn_8 {d : Nat} {x1 : Int32} {x2 : Int32} {x3 : Int32} {x4 : Int32} {x5 : Int32} {S : fm_S} {Q : Int32 → fm_S → Prop}
    (W : (x5 ≤ x3 → (¬ (S.1 232 1) = 0) ∧ Q (x4 - x4 / (S.1 232 1) * (S.1 232 1)) S) ∧ (¬ x5 ≤ x3 → (¬ (S.1 232 1) = 0) ∧ am_Po vI d k_M_dishIn 8 [some (.ref 231), some (.int x1), some (.int x2), some (.int x3), some (.int (x4 / (S.1 232 1))), some (.int (x5 + (-1)))] [] S Q)) :
    am_Po vI d k_M_dishIn 8 [some (.ref 231), some (.int x1), some (.int x2), some (.int x3), some (.int x4), some (.int x5)] [] S Q := by
  by_cases q1 : x5 ≤ x3
  · have W := W.1 q1
    refine po_of (fun _ nx => b_M_dishIn_8 (fun _ => nx) (fun z => absurd q1 z)) ?_
    obtain ⟨g2, W⟩ := W
    exact ⟨_, _, b_M_dishIn_31 g2, W⟩
  · have W := W.2 q1
    refine po_of (fun _ nx => b_M_dishIn_8 (fun z => absurd z q1) (fun _ => nx)) ?_
    obtain ⟨g3, W⟩ := W
    refine po_of (fun _ nx => b_M_dishIn_14 g3 nx) ?_
    exact W
abbrev H_M_dishIn_8 (d : Nat) (x1 : Int32) (x2 : Int32) (x3 : Int32) (x4 : Int32) (x5 : Int32) (S : fm_S) (Q : Int32 → fm_S → Prop) : Prop := am_Po vI d k_M_dishIn 8 [some (.ref 231), some (.int x1), some (.int x2), some (.int x3), some (.int x4), some (.int x5)] [] S Q
theorem p_M_never_0 {d : Nat} {o1 : Option Value} {o2 : Option Value} {o3 : Option Value} {o4 : Option Value} {S : fm_S} {Q : Int32 → fm_S → Prop}
    (W : am_Po vI (d + 5) k_M_never 4 [some (.ref 231), some (.int 0), some (.int 0), o3, o4] [] S Q) :
    am_Po vI (d + 5) k_M_never 0 [some (.ref 231), o1, o2, o3, o4] [] S Q := by
  refine po_of (fun _ nx => b_M_never_0 nx) ?_
  exact W
theorem e_M_never {d : Nat} {S : fm_S} {Q : Int32 → fm_S → Prop}
    (W : am_Po vI (d + 5) k_M_never 4 [some (.ref 231), some (.int 0), some (.int 0), none, none] [] S Q) :
    am_Ps vI (d + 5) k_M_never [.ref 231] S Q := ps_of (L := [some (.ref 231), none, none, none, none]) rfl (Nat.le_of_ble_eq_true rfl) (Nat.le_of_ble_eq_true rfl) (p_M_never_0 W)
theorem p_M_never_4 {d : Nat} {x1 : Int32} {x2 : Int32} {o3 : Option Value} {o4 : Option Value} {S : fm_S} {Q : Int32 → fm_S → Prop}
    (W : ((S.1 232 0) ≤ x2 → Q x1 S) ∧ (¬ (S.1 232 0) ≤ x2 → (vp_in (29 + x2) 373) ∧ ∀ v5 : Int32, v5 = (if (S.1 232 ((29 + x2).toNatClampNeg)) = (-1) then (1 : Int32) else (0 : Int32)) → (am_Po vI (d + 5) k_M_never 36 [some (.ref 231), some (.int x1), some (.int x2), some (.int v5), some (.int 0)] [] S Q))) :
    am_Po vI (d + 5) k_M_never 4 [some (.ref 231), some (.int x1), some (.int x2), o3, o4] [] S Q := by
  by_cases q1 : (S.1 232 0) ≤ x2
  · have W := W.1 q1
    refine po_of (fun _ nx => b_M_never_4 (fun _ => nx) (fun z => absurd q1 z)) ?_
    exact ⟨_, _, b_M_never_95, W⟩
  · have W := W.2 q1
    refine po_of (fun _ nx => b_M_never_4 (fun z => absurd z q1) (fun _ => nx)) ?_
    obtain ⟨g3, W⟩ := W
    have J : ∀ v5 : Int32, v5 = (if (S.1 232 ((29 + x2).toNatClampNeg)) = (-1) then (1 : Int32) else (0 : Int32)) → am_Po vI (d + 5) k_M_never 32 [some (.ref 231), some (.int x1), some (.int x2), o3, o4] [.int v5] S Q := by
      intro v5 v5_
      have W := W v5 v5_
      refine po_of (fun _ nx => b_M_never_32 nx) ?_
      exact W
    by_cases q4 : (S.1 232 ((29 + x2).toNatClampNeg)) = (-1)
    · refine po_of (fun _ nx => b_M_never_14 g3 (fun z => absurd q4 z) (fun _ => nx)) ?_
      refine po_of (fun _ nx => b_M_never_27 nx) ?_
      exact J _ (by simp only [if_pos q4])
    · refine po_of (fun _ nx => b_M_never_14 g3 (fun _ => nx) (fun z => absurd z q4)) ?_
      refine po_of (fun _ nx => b_M_never_31 nx) ?_
      exact J _ (by simp only [if_neg q4])
abbrev H_M_never_4 (d : Nat) (x1 : Int32) (x2 : Int32) (o3 : Option Value) (o4 : Option Value) (S : fm_S) (Q : Int32 → fm_S → Prop) : Prop := am_Po vI (d + 5) k_M_never 4 [some (.ref 231), some (.int x1), some (.int x2), o3, o4] [] S Q
theorem p_M_never_36 {d : Nat} {x1 : Int32} {x2 : Int32} {x3 : Int32} {x4 : Int32} {S : fm_S} {Q : Int32 → fm_S → Prop}
    (W : ((S.1 232 1) ≤ x4 → ∀ v3 : Int32, v3 = (if x3 = 0 then (0 : Int32) else 1 <<< (x2 &&& 31)) → (am_Po vI (d + 5) k_M_never 4 [some (.ref 231), some (.int (x1 ||| v3)), some (.int (x2 + 1)), some (.int x3), some (.int x4)] [] S Q)) ∧ (¬ (S.1 232 1) ≤ x4 → (x3 = 0 → am_Po vI (d + 5) k_M_never 36 [some (.ref 231), some (.int x1), some (.int x2), some (.int 0), some (.int (x4 + 1))] [] S Q) ∧ (¬ x3 = 0 → am_Ps vI (d + 4) k_M_opensIn [.ref 231, .int x4, .int x2, .int 28] S fun v6 S5 => (∀ v8 : Int32, v8 = (if v6 = 0 then (1 : Int32) else (0 : Int32)) → (am_Po vI (d + 5) k_M_never 36 [some (.ref 231), some (.int x1), some (.int x2), some (.int v8), some (.int (x4 + 1))] [] S5 Q))))) :
    am_Po vI (d + 5) k_M_never 36 [some (.ref 231), some (.int x1), some (.int x2), some (.int x3), some (.int x4)] [] S Q := by
  by_cases q1 : (S.1 232 1) ≤ x4
  · have W := W.1 q1
    refine po_of (fun _ nx => b_M_never_36 (fun _ => nx) (fun z => absurd q1 z)) ?_
    have J : ∀ v3 : Int32, v3 = (if x3 = 0 then (0 : Int32) else 1 <<< (x2 &&& 31)) → am_Po vI (d + 5) k_M_never 87 [some (.ref 231), some (.int x1), some (.int x2), some (.int x3), some (.int x4)] [.int v3, .int x1] S Q := by
      intro v3 v3_
      have W := W v3 v3_
      refine po_of (fun _ nx => b_M_never_87 nx) ?_
      exact W
    by_cases q2 : x3 = 0
    · refine po_of (fun _ nx => b_M_never_75 (fun _ => nx) (fun z => absurd q2 z)) ?_
      refine po_of (fun _ nx => b_M_never_86 nx) ?_
      exact J _ (by simp only [if_pos q2])
    · refine po_of (fun _ nx => b_M_never_75 (fun z => absurd z q2) (fun _ => nx)) ?_
      refine po_of (fun _ nx => b_M_never_80 nx) ?_
      exact J _ (by simp only [if_neg q2])
  · have W := W.2 q1
    refine po_of (fun _ nx => b_M_never_36 (fun z => absurd z q1) (fun _ => nx)) ?_
    by_cases q4 : x3 = 0
    · have W := W.1 q4
      refine po_of (fun _ nx => b_M_never_47 (fun _ => nx) (fun z => absurd q4 z)) ?_
      refine po_of (fun _ nx => b_M_never_67 nx) ?_
      refine po_of (fun _ nx => b_M_never_68 nx) ?_
      exact W
    · have W := W.2 q4
      refine po_of (fun _ nx => b_M_never_47 (fun z => absurd z q4) (fun _ => nx)) ?_
      obtain ⟨v6, S5, h9, W⟩ := W
      refine po_of (fun _ nx => b_M_never_51 h9 nx) ?_
      have J : ∀ v8 : Int32, v8 = (if v6 = 0 then (1 : Int32) else (0 : Int32)) → am_Po vI (d + 5) k_M_never 68 [some (.ref 231), some (.int x1), some (.int x2), some (.int x3), some (.int x4)] [.int v8] S5 Q := by
        intro v8 v8_
        have W := W v8 v8_
        refine po_of (fun _ nx => b_M_never_68 nx) ?_
        exact W
      by_cases q7 : v6 = 0
      · refine po_of (fun _ nx => b_M_never_60 (fun z => absurd q7 z) (fun _ => nx)) ?_
        refine po_of (fun _ nx => b_M_never_63 nx) ?_
        exact J _ (by simp only [if_pos q7])
      · refine po_of (fun _ nx => b_M_never_60 (fun _ => nx) (fun z => absurd z q7)) ?_
        refine po_of (fun _ nx => b_M_never_67 nx) ?_
        exact J _ (by simp only [if_neg q7])
abbrev H_M_never_36 (d : Nat) (x1 : Int32) (x2 : Int32) (x3 : Int32) (x4 : Int32) (S : fm_S) (Q : Int32 → fm_S → Prop) : Prop := am_Po vI (d + 5) k_M_never 36 [some (.ref 231), some (.int x1), some (.int x2), some (.int x3), some (.int x4)] [] S Q
theorem p_M_opensIn_0 {d : Nat} {x1 : Int32} {x2 : Int32} {x3 : Int32} {o4 : Option Value} {o5 : Option Value} {S : fm_S} {Q : Int32 → fm_S → Prop}
    (W : am_Po vI (d + 4) k_M_opensIn 6 [some (.ref 231), some (.int x1), some (.int x2), some (.int x3), some (.int 0), some (.int 0)] [] S Q) :
    am_Po vI (d + 4) k_M_opensIn 0 [some (.ref 231), some (.int x1), some (.int x2), some (.int x3), o4, o5] [] S Q := by
  refine po_of (fun _ nx => b_M_opensIn_0 nx) ?_
  exact W
theorem e_M_opensIn {d : Nat} {x1 : Int32} {x2 : Int32} {x3 : Int32} {S : fm_S} {Q : Int32 → fm_S → Prop}
    (W : am_Po vI (d + 4) k_M_opensIn 6 [some (.ref 231), some (.int x1), some (.int x2), some (.int x3), some (.int 0), some (.int 0)] [] S Q) :
    am_Ps vI (d + 4) k_M_opensIn [.ref 231, .int x1, .int x2, .int x3] S Q := ps_of (L := [some (.ref 231), some (.int x1), some (.int x2), some (.int x3), none, none]) rfl (Nat.le_of_ble_eq_true rfl) (Nat.le_of_ble_eq_true rfl) (p_M_opensIn_0 W)
theorem p_M_opensIn_6 {d : Nat} {x1 : Int32} {x2 : Int32} {x3 : Int32} {x4 : Int32} {x5 : Int32} {S : fm_S} {Q : Int32 → fm_S → Prop}
    (W : (x3 ≤ x5 → (x4 = 0 ∨ x4 = 1) ∧ Q x4 S) ∧ (¬ x3 ≤ x5 → (x4 = 0 → am_Ps vI (d + 3) k_M_opensOn [.ref 231, .int x1, .int x2, .int ((S.1 232 4) + x5)] S fun v5 S4 => (∀ v7 : Int32, v7 = (if v5 = 0 then (0 : Int32) else (1 : Int32)) → (am_Po vI (d + 4) k_M_opensIn 6 [some (.ref 231), some (.int x1), some (.int x2), some (.int x3), some (.int v7), some (.int (x5 + 1))] [] S4 Q))) ∧ (¬ x4 = 0 → am_Po vI (d + 4) k_M_opensIn 6 [some (.ref 231), some (.int x1), some (.int x2), some (.int x3), some (.int 1), some (.int (x5 + 1))] [] S Q))) :
    am_Po vI (d + 4) k_M_opensIn 6 [some (.ref 231), some (.int x1), some (.int x2), some (.int x3), some (.int x4), some (.int x5)] [] S Q := by
  by_cases q1 : x3 ≤ x5
  · have W := W.1 q1
    refine po_of (fun _ nx => b_M_opensIn_6 (fun _ => nx) (fun z => absurd q1 z)) ?_
    obtain ⟨g2, W⟩ := W
    exact ⟨_, _, b_M_opensIn_48 g2, W⟩
  · have W := W.2 q1
    refine po_of (fun _ nx => b_M_opensIn_6 (fun z => absurd z q1) (fun _ => nx)) ?_
    by_cases q3 : x4 = 0
    · have W := W.1 q3
      refine po_of (fun _ nx => b_M_opensIn_12 (fun z => absurd q3 z) (fun _ => nx)) ?_
      obtain ⟨v5, S4, h8, W⟩ := W
      refine po_of (fun _ nx => b_M_opensIn_17 h8 nx) ?_
      have J : ∀ v7 : Int32, v7 = (if v5 = 0 then (0 : Int32) else (1 : Int32)) → am_Po vI (d + 4) k_M_opensIn 40 [some (.ref 231), some (.int x1), some (.int x2), some (.int x3), some (.int x4), some (.int x5)] [.int v7] S4 Q := by
        intro v7 v7_
        have W := W v7 v7_
        refine po_of (fun _ nx => b_M_opensIn_40 nx) ?_
        exact W
      by_cases q6 : v5 = 0
      · refine po_of (fun _ nx => b_M_opensIn_32 (fun _ => nx) (fun z => absurd q6 z)) ?_
        refine po_of (fun _ nx => b_M_opensIn_39 nx) ?_
        exact J _ (by simp only [if_pos q6])
      · refine po_of (fun _ nx => b_M_opensIn_32 (fun z => absurd z q6) (fun _ => nx)) ?_
        refine po_of (fun _ nx => b_M_opensIn_35 nx) ?_
        exact J _ (by simp only [if_neg q6])
    · have W := W.2 q3
      refine po_of (fun _ nx => b_M_opensIn_12 (fun _ => nx) (fun z => absurd z q3)) ?_
      refine po_of (fun _ nx => b_M_opensIn_35 nx) ?_
      refine po_of (fun _ nx => b_M_opensIn_40 nx) ?_
      exact W
abbrev H_M_opensIn_6 (d : Nat) (x1 : Int32) (x2 : Int32) (x3 : Int32) (x4 : Int32) (x5 : Int32) (S : fm_S) (Q : Int32 → fm_S → Prop) : Prop := am_Po vI (d + 4) k_M_opensIn 6 [some (.ref 231), some (.int x1), some (.int x2), some (.int x3), some (.int x4), some (.int x5)] [] S Q
theorem p_M_opensOn_0 {d : Nat} {x1 : Int32} {x2 : Int32} {x3 : Int32} {S : fm_S} {Q : Int32 → fm_S → Prop}
    (W : (vp_in (131 + x1) 373) ∧ (vp_in (121 + (x3 - x3 / 4 * 4)) 373) ∧ am_Ps vV (d + 2) k_M_spread [.ref 231, .int (S.1 232 ((131 + x1).toNatClampNeg)), .int (f_M_windOf S x3), .int (-1), .int 0] S fun _ S3 => ((vp_in (5 + x2) 373) ∧ (vp_in (21 + x2) 373) ∧ (vp_in (125 + x1) 373) ∧ (vp_in x2 8) ∧ ∀ v9 : Int32, v9 = (if (f_M_movedBy (S3.1 232 ((5 + x2).toNatClampNeg)) (S3.1 232 ((21 + x2).toNatClampNeg)) (S3.1 232 ((125 + x1).toNatClampNeg)) (S3.1 238 x2.toNatClampNeg) x3 0) < 10 then (0 : Int32) else (1 : Int32)) → ((v9 = 0 ∨ v9 = 1) ∧ Q v9 S3))) :
    am_Po vI (d + 3) k_M_opensOn 0 [some (.ref 231), some (.int x1), some (.int x2), some (.int x3)] [] S Q := by
  obtain ⟨g1, W⟩ := W
  obtain ⟨g2, W⟩ := W
  refine po_of (fun _ nx => b_M_opensOn_0 g1 (s_M_windOf (x1 := x3) (S := S) g2) nx) ?_
  obtain ⟨_, S3, h11, W⟩ := W
  refine po_of (fun _ nx => b_M_opensOn_16 h11 nx) ?_
  obtain ⟨g4, W⟩ := W
  obtain ⟨g5, W⟩ := W
  obtain ⟨g6, W⟩ := W
  obtain ⟨g7, W⟩ := W
  refine po_of (fun _ nx => b_M_opensOn_21 g4 g5 g6 g7 (s_M_movedBy (x0 := (S3.1 232 ((5 + x2).toNatClampNeg))) (x1 := (S3.1 232 ((21 + x2).toNatClampNeg))) (x2 := (S3.1 232 ((125 + x1).toNatClampNeg))) (x3 := (S3.1 238 x2.toNatClampNeg)) (x4 := x3) (x5 := 0) (S := S3)) nx) ?_
  have J : ∀ v9 : Int32, v9 = (if (f_M_movedBy (S3.1 232 ((5 + x2).toNatClampNeg)) (S3.1 232 ((21 + x2).toNatClampNeg)) (S3.1 232 ((125 + x1).toNatClampNeg)) (S3.1 238 x2.toNatClampNeg) x3 0) < 10 then (0 : Int32) else (1 : Int32)) → am_Po vI (d + 3) k_M_opensOn 68 [some (.ref 231), some (.int x1), some (.int x2), some (.int x3)] [.int v9] S3 Q := by
    intro v9 v9_
    have W := W v9 v9_
    obtain ⟨g10, W⟩ := W
    exact ⟨_, _, b_M_opensOn_68 g10, W⟩
  by_cases q8 : (f_M_movedBy (S3.1 232 ((5 + x2).toNatClampNeg)) (S3.1 232 ((21 + x2).toNatClampNeg)) (S3.1 232 ((125 + x1).toNatClampNeg)) (S3.1 238 x2.toNatClampNeg) x3 0) < 10
  · refine po_of (fun _ nx => b_M_opensOn_58 (fun _ => nx) (fun z => absurd q8 z)) ?_
    refine po_of (fun _ nx => b_M_opensOn_67 nx) ?_
    exact J _ (by simp only [if_pos q8])
  · refine po_of (fun _ nx => b_M_opensOn_58 (fun z => absurd z q8) (fun _ => nx)) ?_
    refine po_of (fun _ nx => b_M_opensOn_63 nx) ?_
    exact J _ (by simp only [if_neg q8])
theorem e_M_opensOn {d : Nat} {x1 : Int32} {x2 : Int32} {x3 : Int32} {S : fm_S} {Q : Int32 → fm_S → Prop}
    (W : (vp_in (131 + x1) 373) ∧ (vp_in (121 + (x3 - x3 / 4 * 4)) 373) ∧ am_Ps vV (d + 2) k_M_spread [.ref 231, .int (S.1 232 ((131 + x1).toNatClampNeg)), .int (f_M_windOf S x3), .int (-1), .int 0] S fun _ S3 => ((vp_in (5 + x2) 373) ∧ (vp_in (21 + x2) 373) ∧ (vp_in (125 + x1) 373) ∧ (vp_in x2 8) ∧ ∀ v9 : Int32, v9 = (if (f_M_movedBy (S3.1 232 ((5 + x2).toNatClampNeg)) (S3.1 232 ((21 + x2).toNatClampNeg)) (S3.1 232 ((125 + x1).toNatClampNeg)) (S3.1 238 x2.toNatClampNeg) x3 0) < 10 then (0 : Int32) else (1 : Int32)) → ((v9 = 0 ∨ v9 = 1) ∧ Q v9 S3))) :
    am_Ps vI (d + 3) k_M_opensOn [.ref 231, .int x1, .int x2, .int x3] S Q := ps_of (L := [some (.ref 231), some (.int x1), some (.int x2), some (.int x3)]) rfl (Nat.le_of_ble_eq_true rfl) (Nat.le_of_ble_eq_true rfl) (p_M_opensOn_0 W)
theorem p_M_least_0 {d : Nat} {o1 : Option Value} {o2 : Option Value} {o3 : Option Value} {o4 : Option Value} {o5 : Option Value} {o6 : Option Value} {o7 : Option Value} {S : fm_S} {Q : Int32 → fm_S → Prop}
    (W : am_Po vI (d + 5) k_M_least 4 [some (.ref 231), some (.int 0), some (.int 0), o3, o4, o5, o6, o7] [] S Q) :
    am_Po vI (d + 5) k_M_least 0 [some (.ref 231), o1, o2, o3, o4, o5, o6, o7] [] S Q := by
  refine po_of (fun _ nx => b_M_least_0 nx) ?_
  exact W
theorem e_M_least {d : Nat} {S : fm_S} {Q : Int32 → fm_S → Prop}
    (W : am_Po vI (d + 5) k_M_least 4 [some (.ref 231), some (.int 0), some (.int 0), none, none, none, none, none] [] S Q) :
    am_Ps vI (d + 5) k_M_least [.ref 231] S Q := ps_of (L := [some (.ref 231), none, none, none, none, none, none, none]) rfl (Nat.le_of_ble_eq_true rfl) (Nat.le_of_ble_eq_true rfl) (p_M_least_0 W)
theorem p_M_least_4 {d : Nat} {x1 : Int32} {x2 : Int32} {o3 : Option Value} {o4 : Option Value} {o5 : Option Value} {o6 : Option Value} {o7 : Option Value} {S : fm_S} {Q : Int32 → fm_S → Prop}
    (W : ((S.1 232 0) ≤ x2 → am_Po vI (d + 5) k_M_least 45 [some (.ref 231), some (.int x1), some (.int 0), o3, o4, o5, o6, o7] [] S Q) ∧ (¬ (S.1 232 0) ≤ x2 → (vp_in (29 + x2) 373) ∧ ∀ v5 : Int32, v5 = (if (S.1 232 ((29 + x2).toNatClampNeg)) = (-1) then 1 <<< (x2 &&& 31) else (0 : Int32)) → (am_Po vI (d + 5) k_M_least 4 [some (.ref 231), some (.int (x1 ||| v5)), some (.int (x2 + 1)), o3, o4, o5, o6, o7] [] S Q))) :
    am_Po vI (d + 5) k_M_least 4 [some (.ref 231), some (.int x1), some (.int x2), o3, o4, o5, o6, o7] [] S Q := by
  by_cases q1 : (S.1 232 0) ≤ x2
  · have W := W.1 q1
    refine po_of (fun _ nx => b_M_least_4 (fun _ => nx) (fun z => absurd q1 z)) ?_
    refine po_of (fun _ nx => b_M_least_43 nx) ?_
    exact W
  · have W := W.2 q1
    refine po_of (fun _ nx => b_M_least_4 (fun z => absurd z q1) (fun _ => nx)) ?_
    obtain ⟨g3, W⟩ := W
    have J : ∀ v5 : Int32, v5 = (if (S.1 232 ((29 + x2).toNatClampNeg)) = (-1) then 1 <<< (x2 &&& 31) else (0 : Int32)) → am_Po vI (d + 5) k_M_least 35 [some (.ref 231), some (.int x1), some (.int x2), o3, o4, o5, o6, o7] [.int v5, .int x1] S Q := by
      intro v5 v5_
      have W := W v5 v5_
      refine po_of (fun _ nx => b_M_least_35 nx) ?_
      exact W
    by_cases q4 : (S.1 232 ((29 + x2).toNatClampNeg)) = (-1)
    · refine po_of (fun _ nx => b_M_least_14 g3 (fun z => absurd q4 z) (fun _ => nx)) ?_
      refine po_of (fun _ nx => b_M_least_28 nx) ?_
      exact J _ (by simp only [if_pos q4])
    · refine po_of (fun _ nx => b_M_least_14 g3 (fun _ => nx) (fun z => absurd z q4)) ?_
      refine po_of (fun _ nx => b_M_least_34 nx) ?_
      exact J _ (by simp only [if_neg q4])
abbrev H_M_least_4 (d : Nat) (x1 : Int32) (x2 : Int32) (o3 : Option Value) (o4 : Option Value) (o5 : Option Value) (o6 : Option Value) (o7 : Option Value) (S : fm_S) (Q : Int32 → fm_S → Prop) : Prop := am_Po vI (d + 5) k_M_least 4 [some (.ref 231), some (.int x1), some (.int x2), o3, o4, o5, o6, o7] [] S Q
theorem p_M_least_45 {d : Nat} {x1 : Int32} {x2 : Int32} {o3 : Option Value} {o4 : Option Value} {o5 : Option Value} {o6 : Option Value} {o7 : Option Value} {S : fm_S} {Q : Int32 → fm_S → Prop}
    (W : ((S.1 232 1) ≤ x2 → am_Po vI (d + 5) k_M_least 119 [some (.ref 231), some (.int x1), some (.int (-1)), some (.int 0), some (.int 0), o5, o6, o7] [] S Q) ∧ (¬ (S.1 232 1) ≤ x2 → (vp_in x2 6) ∧ am_Po vI (d + 5) k_M_least 64 [some (.ref 231), some (.int x1), some (.int x2), some (.int 0), o4, o5, o6, o7] [] (fm_wI S 241 x2.toNatClampNeg 0) Q)) :
    am_Po vI (d + 5) k_M_least 45 [some (.ref 231), some (.int x1), some (.int x2), o3, o4, o5, o6, o7] [] S Q := by
  by_cases q1 : (S.1 232 1) ≤ x2
  · have W := W.1 q1
    refine po_of (fun _ nx => b_M_least_45 (fun _ => nx) (fun z => absurd q1 z)) ?_
    refine po_of (fun _ nx => b_M_least_112 nx) ?_
    exact W
  · have W := W.2 q1
    refine po_of (fun _ nx => b_M_least_45 (fun z => absurd z q1) (fun _ => nx)) ?_
    obtain ⟨g2, W⟩ := W
    refine po_of (fun _ nx => b_M_least_55 g2 nx) ?_
    exact W
abbrev H_M_least_45 (d : Nat) (x1 : Int32) (x2 : Int32) (o3 : Option Value) (o4 : Option Value) (o5 : Option Value) (o6 : Option Value) (o7 : Option Value) (S : fm_S) (Q : Int32 → fm_S → Prop) : Prop := am_Po vI (d + 5) k_M_least 45 [some (.ref 231), some (.int x1), some (.int x2), o3, o4, o5, o6, o7] [] S Q
theorem p_M_least_64 {d : Nat} {x1 : Int32} {x2 : Int32} {x3 : Int32} {o4 : Option Value} {o5 : Option Value} {o6 : Option Value} {o7 : Option Value} {S : fm_S} {Q : Int32 → fm_S → Prop}
    (W : ((S.1 232 0) ≤ x3 → am_Po vI (d + 5) k_M_least 45 [some (.ref 231), some (.int x1), some (.int (x2 + 1)), some (.int x3), o4, o5, o6, o7] [] S Q) ∧ (¬ (S.1 232 0) ≤ x3 → (vp_in x2 6) ∧ am_Ps vI (d + 4) k_M_opensIn [.ref 231, .int x2, .int x3, .int 4] S fun v4 S3 => (∀ v6 : Int32, v6 = (if v4 = 0 then (0 : Int32) else 1 <<< (x3 &&& 31)) → (am_Po vI (d + 5) k_M_least 64 [some (.ref 231), some (.int x1), some (.int x2), some (.int (x3 + 1)), o4, o5, o6, o7] [] (fm_wI S3 241 x2.toNatClampNeg ((S.1 241 x2.toNatClampNeg) ||| v6)) Q)))) :
    am_Po vI (d + 5) k_M_least 64 [some (.ref 231), some (.int x1), some (.int x2), some (.int x3), o4, o5, o6, o7] [] S Q := by
  by_cases q1 : (S.1 232 0) ≤ x3
  · have W := W.1 q1
    refine po_of (fun _ nx => b_M_least_64 (fun _ => nx) (fun z => absurd q1 z)) ?_
    refine po_of (fun _ nx => b_M_least_106 nx) ?_
    exact W
  · have W := W.2 q1
    refine po_of (fun _ nx => b_M_least_64 (fun z => absurd z q1) (fun _ => nx)) ?_
    obtain ⟨g2, W⟩ := W
    obtain ⟨v4, S3, h7, W⟩ := W
    refine po_of (fun _ nx => b_M_least_74 g2 h7 nx) ?_
    have J : ∀ v6 : Int32, v6 = (if v4 = 0 then (0 : Int32) else 1 <<< (x3 &&& 31)) → am_Po vI (d + 5) k_M_least 98 [some (.ref 231), some (.int x1), some (.int x2), some (.int x3), o4, o5, o6, o7] [.int v6, .int (S.1 241 x2.toNatClampNeg), .int x2, .ref 241] S3 Q := by
      intro v6 v6_
      have W := W v6 v6_
      refine po_of (fun _ nx => b_M_least_98 g2 nx) ?_
      exact W
    by_cases q5 : v4 = 0
    · refine po_of (fun _ nx => b_M_least_88 (fun _ => nx) (fun z => absurd q5 z)) ?_
      refine po_of (fun _ nx => b_M_least_97 nx) ?_
      exact J _ (by simp only [if_pos q5])
    · refine po_of (fun _ nx => b_M_least_88 (fun z => absurd z q5) (fun _ => nx)) ?_
      refine po_of (fun _ nx => b_M_least_91 nx) ?_
      exact J _ (by simp only [if_neg q5])
abbrev H_M_least_64 (d : Nat) (x1 : Int32) (x2 : Int32) (x3 : Int32) (o4 : Option Value) (o5 : Option Value) (o6 : Option Value) (o7 : Option Value) (S : fm_S) (Q : Int32 → fm_S → Prop) : Prop := am_Po vI (d + 5) k_M_least 64 [some (.ref 231), some (.int x1), some (.int x2), some (.int x3), o4, o5, o6, o7] [] S Q
theorem p_M_least_119 {d : Nat} {x1 : Int32} {x2 : Int32} {x3 : Int32} {x4 : Int32} {o5 : Option Value} {o6 : Option Value} {o7 : Option Value} {S : fm_S} {Q : Int32 → fm_S → Prop}
    (W : ((1 <<< ((S.1 232 1) &&& 31)) ≤ x4 → Q x2 S) ∧ (¬ (1 <<< ((S.1 232 1) &&& 31)) ≤ x4 → am_Po vI (d + 5) k_M_least 141 [some (.ref 231), some (.int x1), some (.int x2), some (.int x3), some (.int x4), some (.int 0), some (.int 0), some (.int 0)] [] S Q)) :
    am_Po vI (d + 5) k_M_least 119 [some (.ref 231), some (.int x1), some (.int x2), some (.int x3), some (.int x4), o5, o6, o7] [] S Q := by
  by_cases q1 : (1 <<< ((S.1 232 1) &&& 31)) ≤ x4
  · have W := W.1 q1
    refine po_of (fun _ nx => b_M_least_119 (fun _ => nx) (fun z => absurd q1 z)) ?_
    exact ⟨_, _, b_M_least_275, W⟩
  · have W := W.2 q1
    refine po_of (fun _ nx => b_M_least_119 (fun z => absurd z q1) (fun _ => nx)) ?_
    refine po_of (fun _ nx => b_M_least_132 nx) ?_
    exact W
abbrev H_M_least_119 (d : Nat) (x1 : Int32) (x2 : Int32) (x3 : Int32) (x4 : Int32) (o5 : Option Value) (o6 : Option Value) (o7 : Option Value) (S : fm_S) (Q : Int32 → fm_S → Prop) : Prop := am_Po vI (d + 5) k_M_least 119 [some (.ref 231), some (.int x1), some (.int x2), some (.int x3), some (.int x4), o5, o6, o7] [] S Q
theorem p_M_least_141 {d : Nat} {x1 : Int32} {x2 : Int32} {x3 : Int32} {x4 : Int32} {x5 : Int32} {x6 : Int32} {x7 : Int32} {S : fm_S} {Q : Int32 → fm_S → Prop}
    (W : ((S.1 232 1) ≤ x7 → ∀ v6 : Int32, v6 = (if x2 < 0 then (1 : Int32) else if x5 < x3 then (1 : Int32) else if x5 = x3 then if (n_bits x2 8) ≤ (n_bits x4 8) then (0 : Int32) else (1 : Int32) else (0 : Int32)) → (∀ v9 : Int32, v9 = (if (x1 &&& (x6 ^^^ (-1))) = 0 then if v6 = 0 then x2 else x4 else x2) → ∀ v10 : Int32, v10 = (if (x1 &&& (x6 ^^^ (-1))) = 0 then if v6 = 0 then x3 else x5 else x3) → (am_Po vI (d + 5) k_M_least 119 [some (.ref 231), some (.int x1), some (.int v9), some (.int v10), some (.int (x4 + 1)), some (.int x5), some (.int x6), some (.int v6)] [] S Q))) ∧ (¬ (S.1 232 1) ≤ x7 → (¬ (f_M_has x4 x7) = 0 → vp_in (137 + x7) 373) ∧ ∀ v13 : Int32, v13 = (if (f_M_has x4 x7) = 0 then (0 : Int32) else S.1 232 ((137 + x7).toNatClampNeg)) → ((¬ (f_M_has x4 x7) = 0 → vp_in x7 6) ∧ ∀ v16 : Int32, v16 = (if (f_M_has x4 x7) = 0 then (0 : Int32) else S.1 241 x7.toNatClampNeg) → (am_Po vI (d + 5) k_M_least 141 [some (.ref 231), some (.int x1), some (.int x2), some (.int x3), some (.int x4), some (.int (x5 + v13)), some (.int (x6 ||| v16)), some (.int (x7 + 1))] [] S Q)))) :
    am_Po vI (d + 5) k_M_least 141 [some (.ref 231), some (.int x1), some (.int x2), some (.int x3), some (.int x4), some (.int x5), some (.int x6), some (.int x7)] [] S Q := by
  by_cases q1 : (S.1 232 1) ≤ x7
  · have W := W.1 q1
    refine po_of (fun _ nx => b_M_least_141 (fun _ => nx) (fun z => absurd q1 z)) ?_
    have J : ∀ v6 : Int32, v6 = (if x2 < 0 then (1 : Int32) else if x5 < x3 then (1 : Int32) else if x5 = x3 then if (n_bits x2 8) ≤ (n_bits x4 8) then (0 : Int32) else (1 : Int32) else (0 : Int32)) → am_Po vI (d + 5) k_M_least 247 [some (.ref 231), some (.int x1), some (.int x2), some (.int x3), some (.int x4), some (.int x5), some (.int x6), some (.int x7)] [.int v6] S Q := by
      intro v6 v6_
      have W := W v6 v6_
      have J : ∀ v9 : Int32, v9 = (if (x1 &&& (x6 ^^^ (-1))) = 0 then if v6 = 0 then x2 else x4 else x2) → ∀ v10 : Int32, v10 = (if (x1 &&& (x6 ^^^ (-1))) = 0 then if v6 = 0 then x3 else x5 else x3) → am_Po vI (d + 5) k_M_least 269 [some (.ref 231), some (.int x1), some (.int v9), some (.int v10), some (.int x4), some (.int x5), some (.int x6), some (.int v6)] [] S Q := by
        intro v9 v9_ v10 v10_
        have W := W v9 v9_ v10 v10_
        refine po_of (fun _ nx => b_M_least_269 nx) ?_
        exact W
      by_cases q7 : (x1 &&& (x6 ^^^ (-1))) = 0
      · refine po_of (fun _ nx => b_M_least_247 (fun z => absurd q7 z) (fun _ => nx)) ?_
        by_cases q8 : v6 = 0
        · refine po_of (fun _ nx => b_M_least_258 (fun _ => nx) (fun z => absurd q8 z)) ?_
          exact J _ (by simp only [if_pos q7, if_pos q8]) _ (by simp only [if_pos q7, if_pos q8])
        · refine po_of (fun _ nx => b_M_least_258 (fun z => absurd z q8) (fun _ => nx)) ?_
          refine po_of (fun _ nx => b_M_least_263 nx) ?_
          exact J _ (by simp only [if_pos q7, if_neg q8]) _ (by simp only [if_pos q7, if_neg q8])
      · refine po_of (fun _ nx => b_M_least_247 (fun _ => nx) (fun z => absurd z q7)) ?_
        exact J _ (by simp only [if_neg q7]) _ (by simp only [if_neg q7])
    by_cases q2 : x2 < 0
    · refine po_of (fun _ nx => b_M_least_214 (fun _ => nx) (fun z => absurd q2 z)) ?_
      refine po_of (fun _ nx => b_M_least_242 nx) ?_
      exact J _ (by simp only [if_pos q2])
    · refine po_of (fun _ nx => b_M_least_214 (fun z => absurd z q2) (fun _ => nx)) ?_
      by_cases q3 : x5 < x3
      · refine po_of (fun _ nx => b_M_least_218 (fun _ => nx) (fun z => absurd q3 z)) ?_
        refine po_of (fun _ nx => b_M_least_242 nx) ?_
        exact J _ (by simp only [if_neg q2, if_pos q3])
      · refine po_of (fun _ nx => b_M_least_218 (fun z => absurd z q3) (fun _ => nx)) ?_
        by_cases q4 : x5 = x3
        · refine po_of (fun _ nx => b_M_least_224 (fun z => absurd q4 z) (fun _ => nx)) ?_
          refine po_of (fun _ nx => b_M_least_230 (s_M_bits (x0 := x4) (S := S)) nx) ?_
          refine po_of (fun _ nx => b_M_least_235 (s_M_bits (x0 := x2) (S := S)) nx) ?_
          by_cases q5 : (n_bits x2 8) ≤ (n_bits x4 8)
          · refine po_of (fun _ nx => b_M_least_239 (fun _ => nx) (fun z => absurd q5 z)) ?_
            refine po_of (fun _ nx => b_M_least_246 nx) ?_
            exact J _ (by simp only [if_neg q2, if_neg q3, if_pos q4, if_pos q5])
          · refine po_of (fun _ nx => b_M_least_239 (fun z => absurd z q5) (fun _ => nx)) ?_
            refine po_of (fun _ nx => b_M_least_242 nx) ?_
            exact J _ (by simp only [if_neg q2, if_neg q3, if_pos q4, if_neg q5])
        · refine po_of (fun _ nx => b_M_least_224 (fun _ => nx) (fun z => absurd z q4)) ?_
          refine po_of (fun _ nx => b_M_least_246 nx) ?_
          exact J _ (by simp only [if_neg q2, if_neg q3, if_neg q4])
  · have W := W.2 q1
    refine po_of (fun _ nx => b_M_least_141 (fun z => absurd z q1) (fun _ => nx)) ?_
    refine po_of (fun _ nx => b_M_least_152 (s_M_has (x0 := x4) (x1 := x7) (S := S)) nx) ?_
    obtain ⟨g12, W⟩ := W
    have J : ∀ v13 : Int32, v13 = (if (f_M_has x4 x7) = 0 then (0 : Int32) else S.1 232 ((137 + x7).toNatClampNeg)) → am_Po vI (d + 5) k_M_least 179 [some (.ref 231), some (.int x1), some (.int x2), some (.int x3), some (.int x4), some (.int x5), some (.int x6), some (.int x7)] [.int v13, .int x5] S Q := by
      intro v13 v13_
      have W := W v13 v13_
      refine po_of (fun _ nx => b_M_least_179 (s_M_has (x0 := x4) (x1 := x7) (S := S)) nx) ?_
      obtain ⟨g15, W⟩ := W
      have J : ∀ v16 : Int32, v16 = (if (f_M_has x4 x7) = 0 then (0 : Int32) else S.1 241 x7.toNatClampNeg) → am_Po vI (d + 5) k_M_least 205 [some (.ref 231), some (.int x1), some (.int x2), some (.int x3), some (.int x4), some (.int (x5 + v13)), some (.int x6), some (.int x7)] [.int v16, .int x6] S Q := by
        intro v16 v16_
        have W := W v16 v16_
        refine po_of (fun _ nx => b_M_least_205 nx) ?_
        exact W
      by_cases q14 : (f_M_has x4 x7) = 0
      · refine po_of (fun _ nx => b_M_least_191 (fun _ => nx) (fun z => absurd q14 z)) ?_
        refine po_of (fun _ nx => b_M_least_204 nx) ?_
        exact J _ (by simp only [if_pos q14])
      · refine po_of (fun _ nx => b_M_least_191 (fun z => absurd z q14) (fun _ => nx)) ?_
        refine po_of (fun _ nx => b_M_least_194 (g15 q14) nx) ?_
        exact J _ (by simp only [if_neg q14])
    by_cases q11 : (f_M_has x4 x7) = 0
    · refine po_of (fun _ nx => b_M_least_161 (fun _ => nx) (fun z => absurd q11 z)) ?_
      refine po_of (fun _ nx => b_M_least_178 nx) ?_
      exact J _ (by simp only [if_pos q11])
    · refine po_of (fun _ nx => b_M_least_161 (fun z => absurd z q11) (fun _ => nx)) ?_
      refine po_of (fun _ nx => b_M_least_164 (g12 q11) nx) ?_
      exact J _ (by simp only [if_neg q11])
abbrev H_M_least_141 (d : Nat) (x1 : Int32) (x2 : Int32) (x3 : Int32) (x4 : Int32) (x5 : Int32) (x6 : Int32) (x7 : Int32) (S : fm_S) (Q : Int32 → fm_S → Prop) : Prop := am_Po vI (d + 5) k_M_least 141 [some (.ref 231), some (.int x1), some (.int x2), some (.int x3), some (.int x4), some (.int x5), some (.int x6), some (.int x7)] [] S Q
theorem p_M_answer_0 {d : Nat} {x1 : Int32} {x2 : Int32} {x3 : Int32} {o4 : Option Value} {o5 : Option Value} {o6 : Option Value} {o7 : Option Value} {S : fm_S} {Q : Int32 → fm_S → Prop}
    (W : ((f_M_isDish S x1) = 0 → Q f_M_bad (g_M_bad S)) ∧ (¬ (f_M_isDish S x1) = 0 → ((f_M_in x2.toInt64 0 9) = 0 → Q f_M_bad (g_M_bad S)) ∧ (¬ (f_M_in x2.toInt64 0 9) = 0 → ((f_M_in x3.toInt64 0 1) = 0 → Q f_M_bad (g_M_bad S)) ∧ (¬ (f_M_in x3.toInt64 0 1) = 0 → am_Po vI (d + 4) k_M_answer 45 [some (.ref 231), some (.int x1), some (.int x2), some (.int x3), some (.int (-1)), some (.int 9), some (.int 0), o7] [] S Q)))) :
    am_Po vI (d + 4) k_M_answer 0 [some (.ref 231), some (.int x1), some (.int x2), some (.int x3), o4, o5, o6, o7] [] S Q := by
  refine po_of (fun _ nx => b_M_answer_0 (s_M_isDish (x1 := x1) (S := S)) nx) ?_
  by_cases q1 : (f_M_isDish S x1) = 0
  · have W := W.1 q1
    refine po_of (fun _ nx => b_M_answer_5 (fun _ => nx) (fun z => absurd q1 z)) ?_
    refine po_of (fun _ nx => b_M_answer_30 (s_M_bad (S := S)) nx) ?_
    exact ⟨_, _, b_M_answer_34, W⟩
  · have W := W.2 q1
    refine po_of (fun _ nx => b_M_answer_5 (fun z => absurd z q1) (fun _ => nx)) ?_
    refine po_of (fun _ nx => b_M_answer_8 (s_M_in (y0 := x2.toInt64) (y2 := 0) (y4 := 9) (S := S)) nx) ?_
    by_cases q2 : (f_M_in x2.toInt64 0 9) = 0
    · have W := W.1 q2
      refine po_of (fun _ nx => b_M_answer_17 (fun _ => nx) (fun z => absurd q2 z)) ?_
      refine po_of (fun _ nx => b_M_answer_30 (s_M_bad (S := S)) nx) ?_
      exact ⟨_, _, b_M_answer_34, W⟩
    · have W := W.2 q2
      refine po_of (fun _ nx => b_M_answer_17 (fun z => absurd z q2) (fun _ => nx)) ?_
      refine po_of (fun _ nx => b_M_answer_20 (s_M_in (y0 := x3.toInt64) (y2 := 0) (y4 := 1) (S := S)) nx) ?_
      by_cases q3 : (f_M_in x3.toInt64 0 1) = 0
      · have W := W.1 q3
        refine po_of (fun _ nx => b_M_answer_27 (fun z => absurd q3 z) (fun _ => nx)) ?_
        refine po_of (fun _ nx => b_M_answer_30 (s_M_bad (S := S)) nx) ?_
        exact ⟨_, _, b_M_answer_34, W⟩
      · have W := W.2 q3
        refine po_of (fun _ nx => b_M_answer_27 (fun _ => nx) (fun z => absurd z q3)) ?_
        refine po_of (fun _ nx => b_M_answer_35 nx) ?_
        exact W
theorem e_M_answer {d : Nat} {x1 : Int32} {x2 : Int32} {x3 : Int32} {S : fm_S} {Q : Int32 → fm_S → Prop}
    (W : ((f_M_isDish S x1) = 0 → Q f_M_bad (g_M_bad S)) ∧ (¬ (f_M_isDish S x1) = 0 → ((f_M_in x2.toInt64 0 9) = 0 → Q f_M_bad (g_M_bad S)) ∧ (¬ (f_M_in x2.toInt64 0 9) = 0 → ((f_M_in x3.toInt64 0 1) = 0 → Q f_M_bad (g_M_bad S)) ∧ (¬ (f_M_in x3.toInt64 0 1) = 0 → am_Po vI (d + 4) k_M_answer 45 [some (.ref 231), some (.int x1), some (.int x2), some (.int x3), some (.int (-1)), some (.int 9), some (.int 0), none] [] S Q)))) :
    am_Ps vI (d + 4) k_M_answer [.ref 231, .int x1, .int x2, .int x3] S Q := ps_of (L := [some (.ref 231), some (.int x1), some (.int x2), some (.int x3), none, none, none, none]) rfl (Nat.le_of_ble_eq_true rfl) (Nat.le_of_ble_eq_true rfl) (p_M_answer_0 W)
theorem p_M_answer_45 {d : Nat} {x1 : Int32} {x2 : Int32} {x3 : Int32} {x4 : Int32} {x5 : Int32} {x6 : Int32} {o7 : Option Value} {S : fm_S} {Q : Int32 → fm_S → Prop}
    (W : ((S.1 232 0) ≤ x6 → ∀ v4 : Int32, v4 = (if x4 < 0 then x4 else if x3 = 0 then x4 else x5) → (Q v4 S)) ∧ (¬ (S.1 232 0) ≤ x6 → am_Ps vI (d + 3) k_M_opening [.ref 231, .int x1, .int x6, .int x2] S fun v6 S5 => ((vp_in (29 + x6) 373) ∧ ∀ v11 : Int32, v11 = (if (S5.1 232 ((29 + x6).toNatClampNeg)) = (-1) then if x5 ≤ (n_bits v6 8) then x4 else x6 else x4) → ∀ v12 : Int32, v12 = (if (S5.1 232 ((29 + x6).toNatClampNeg)) = (-1) then if x5 ≤ (n_bits v6 8) then x5 else (n_bits v6 8) else x5) → (am_Po vI (d + 4) k_M_answer 45 [some (.ref 231), some (.int x1), some (.int x2), some (.int x3), some (.int v11), some (.int v12), some (.int (x6 + 1)), some (.int (n_bits v6 8))] [] S5 Q)))) :
    am_Po vI (d + 4) k_M_answer 45 [some (.ref 231), some (.int x1), some (.int x2), some (.int x3), some (.int x4), some (.int x5), some (.int x6), o7] [] S Q := by
  by_cases q1 : (S.1 232 0) ≤ x6
  · have W := W.1 q1
    refine po_of (fun _ nx => b_M_answer_45 (fun _ => nx) (fun z => absurd q1 z)) ?_
    have J : ∀ v4 : Int32, v4 = (if x4 < 0 then x4 else if x3 = 0 then x4 else x5) → am_Po vI (d + 4) k_M_answer 120 [some (.ref 231), some (.int x1), some (.int x2), some (.int x3), some (.int x4), some (.int x5), some (.int x6), o7] [.int v4] S Q := by
      intro v4 v4_
      have W := W v4 v4_
      exact ⟨_, _, b_M_answer_120, W⟩
    by_cases q2 : x4 < 0
    · refine po_of (fun _ nx => b_M_answer_104 (fun _ => nx) (fun z => absurd q2 z)) ?_
      refine po_of (fun _ nx => b_M_answer_113 nx) ?_
      exact J _ (by simp only [if_pos q2])
    · refine po_of (fun _ nx => b_M_answer_104 (fun z => absurd z q2) (fun _ => nx)) ?_
      by_cases q3 : x3 = 0
      · refine po_of (fun _ nx => b_M_answer_109 (fun z => absurd q3 z) (fun _ => nx)) ?_
        refine po_of (fun _ nx => b_M_answer_113 nx) ?_
        exact J _ (by simp only [if_neg q2, if_pos q3])
      · refine po_of (fun _ nx => b_M_answer_109 (fun _ => nx) (fun z => absurd z q3)) ?_
        refine po_of (fun _ nx => b_M_answer_118 nx) ?_
        exact J _ (by simp only [if_neg q2, if_neg q3])
  · have W := W.2 q1
    refine po_of (fun _ nx => b_M_answer_45 (fun z => absurd z q1) (fun _ => nx)) ?_
    obtain ⟨v6, S5, h13, W⟩ := W
    refine po_of (fun _ nx => b_M_answer_56 h13 nx) ?_
    refine po_of (fun _ nx => b_M_answer_64 (s_M_bits (x0 := v6) (S := S5)) nx) ?_
    obtain ⟨g8, W⟩ := W
    have J : ∀ v11 : Int32, v11 = (if (S5.1 232 ((29 + x6).toNatClampNeg)) = (-1) then if x5 ≤ (n_bits v6 8) then x4 else x6 else x4) → ∀ v12 : Int32, v12 = (if (S5.1 232 ((29 + x6).toNatClampNeg)) = (-1) then if x5 ≤ (n_bits v6 8) then x5 else (n_bits v6 8) else x5) → am_Po vI (d + 4) k_M_answer 98 [some (.ref 231), some (.int x1), some (.int x2), some (.int x3), some (.int v11), some (.int v12), some (.int x6), some (.int (n_bits v6 8))] [] S5 Q := by
      intro v11 v11_ v12 v12_
      have W := W v11 v11_ v12 v12_
      refine po_of (fun _ nx => b_M_answer_98 nx) ?_
      exact W
    by_cases q9 : (S5.1 232 ((29 + x6).toNatClampNeg)) = (-1)
    · refine po_of (fun _ nx => b_M_answer_67 g8 (fun z => absurd q9 z) (fun _ => nx)) ?_
      by_cases q10 : x5 ≤ (n_bits v6 8)
      · refine po_of (fun _ nx => b_M_answer_83 (fun _ => nx) (fun z => absurd q10 z)) ?_
        exact J _ (by simp only [if_pos q9, if_pos q10]) _ (by simp only [if_pos q9, if_pos q10])
      · refine po_of (fun _ nx => b_M_answer_83 (fun z => absurd z q10) (fun _ => nx)) ?_
        refine po_of (fun _ nx => b_M_answer_90 nx) ?_
        exact J _ (by simp only [if_pos q9, if_neg q10]) _ (by simp only [if_pos q9, if_neg q10])
    · refine po_of (fun _ nx => b_M_answer_67 g8 (fun _ => nx) (fun z => absurd z q9)) ?_
      exact J _ (by simp only [if_neg q9]) _ (by simp only [if_neg q9])
abbrev H_M_answer_45 (d : Nat) (x1 : Int32) (x2 : Int32) (x3 : Int32) (x4 : Int32) (x5 : Int32) (x6 : Int32) (o7 : Option Value) (S : fm_S) (Q : Int32 → fm_S → Prop) : Prop := am_Po vI (d + 4) k_M_answer 45 [some (.ref 231), some (.int x1), some (.int x2), some (.int x3), some (.int x4), some (.int x5), some (.int x6), o7] [] S Q
theorem p_M_game_0 {d : Nat} {x1 : Int32} {o2 : Option Value} {o3 : Option Value} {o4 : Option Value} {o5 : Option Value} {o6 : Option Value} {S : fm_S} {Q : Int32 → fm_S → Prop}
    (W : ((f_M_in x1.toInt64 0 9) = 0 → Q f_M_bad (g_M_bad S)) ∧ (¬ (f_M_in x1.toInt64 0 9) = 0 → am_Po vI (d + 4) k_M_game 19 [some (.ref 231), some (.int x1), some (.int 0), o3, o4, o5, o6] [] S Q)) :
    am_Po vI (d + 4) k_M_game 0 [some (.ref 231), some (.int x1), o2, o3, o4, o5, o6] [] S Q := by
  refine po_of (fun _ nx => b_M_game_0 (s_M_in (y0 := x1.toInt64) (y2 := 0) (y4 := 9) (S := S)) nx) ?_
  by_cases q1 : (f_M_in x1.toInt64 0 9) = 0
  · have W := W.1 q1
    refine po_of (fun _ nx => b_M_game_9 (fun z => absurd q1 z) (fun _ => nx)) ?_
    refine po_of (fun _ nx => b_M_game_12 (s_M_bad (S := S)) nx) ?_
    exact ⟨_, _, b_M_game_16, W⟩
  · have W := W.2 q1
    refine po_of (fun _ nx => b_M_game_9 (fun _ => nx) (fun z => absurd z q1)) ?_
    refine po_of (fun _ nx => b_M_game_17 nx) ?_
    exact W
theorem e_M_game {d : Nat} {x1 : Int32} {S : fm_S} {Q : Int32 → fm_S → Prop}
    (W : ((f_M_in x1.toInt64 0 9) = 0 → Q f_M_bad (g_M_bad S)) ∧ (¬ (f_M_in x1.toInt64 0 9) = 0 → am_Po vI (d + 4) k_M_game 19 [some (.ref 231), some (.int x1), some (.int 0), none, none, none, none] [] S Q)) :
    am_Ps vI (d + 4) k_M_game [.ref 231, .int x1] S Q := ps_of (L := [some (.ref 231), some (.int x1), none, none, none, none, none]) rfl (Nat.le_of_ble_eq_true rfl) (Nat.le_of_ble_eq_true rfl) (p_M_game_0 W)
theorem p_M_game_19 {d : Nat} {x1 : Int32} {x2 : Int32} {o3 : Option Value} {o4 : Option Value} {o5 : Option Value} {o6 : Option Value} {S : fm_S} {Q : Int32 → fm_S → Prop}
    (W : (63 ≤ x2 → am_Po vI (d + 4) k_M_game 91 [some (.ref 231), some (.int x1), some (.int 0), some (.int 0), o4, o5, o6] [] S Q) ∧ (¬ 63 ≤ x2 → ∀ v3 : Int32, v3 = (if (S.1 232 1) ≤ (x2 / 9) then (-1 : Int32) else x2 / 9) → (∀ v5 : Int32, v5 = (if (S.1 232 0) ≤ (x2 - x2 / 9 * 9) then (-1 : Int32) else x2 - x2 / 9 * 9) → (am_Ps vI (d + 3) k_M_opening [.ref 231, .int v3, .int v5, .int x1] S fun v7 S6 => ((vp_in x2 63) ∧ am_Po vI (d + 4) k_M_game 19 [some (.ref 231), some (.int x1), some (.int (x2 + 1)), o3, o4, o5, o6] [] (fm_wI S6 242 x2.toNatClampNeg (n_bits v7 8)) Q))))) :
    am_Po vI (d + 4) k_M_game 19 [some (.ref 231), some (.int x1), some (.int x2), o3, o4, o5, o6] [] S Q := by
  by_cases q1 : 63 ≤ x2
  · have W := W.1 q1
    refine po_of (fun _ nx => b_M_game_19 (fun _ => nx) (fun z => absurd q1 z)) ?_
    refine po_of (fun _ nx => b_M_game_87 nx) ?_
    exact W
  · have W := W.2 q1
    refine po_of (fun _ nx => b_M_game_19 (fun z => absurd z q1) (fun _ => nx)) ?_
    have J : ∀ v3 : Int32, v3 = (if (S.1 232 1) ≤ (x2 / 9) then (-1 : Int32) else x2 / 9) → am_Po vI (d + 4) k_M_game 52 [some (.ref 231), some (.int x1), some (.int x2), o3, o4, o5, o6] [.int v3, .ref 231, .int x2, .ref 242] S Q := by
      intro v3 v3_
      have W := W v3 v3_
      have J : ∀ v5 : Int32, v5 = (if (S.1 232 0) ≤ (x2 - x2 / 9 * 9) then (-1 : Int32) else x2 - x2 / 9 * 9) → am_Po vI (d + 4) k_M_game 73 [some (.ref 231), some (.int x1), some (.int x2), o3, o4, o5, o6] [.int v5, .int v3, .ref 231, .int x2, .ref 242] S Q := by
        intro v5 v5_
        have W := W v5 v5_
        obtain ⟨v7, S6, h9, W⟩ := W
        refine po_of (fun _ nx => b_M_game_73 h9 nx) ?_
        refine po_of (fun _ nx => b_M_game_77 (s_M_bits (x0 := v7) (S := S6)) nx) ?_
        obtain ⟨g8, W⟩ := W
        refine po_of (fun _ nx => b_M_game_80 g8 nx) ?_
        exact W
      by_cases q4 : (S.1 232 0) ≤ (x2 - x2 / 9 * 9)
      · refine po_of (fun _ nx => b_M_game_52 (fun _ => nx) (fun z => absurd q4 z)) ?_
        refine po_of (fun _ nx => b_M_game_72 nx) ?_
        exact J _ (by simp only [if_pos q4])
      · refine po_of (fun _ nx => b_M_game_52 (fun z => absurd z q4) (fun _ => nx)) ?_
        refine po_of (fun _ nx => b_M_game_65 nx) ?_
        exact J _ (by simp only [if_neg q4])
    by_cases q2 : (S.1 232 1) ≤ (x2 / 9)
    · refine po_of (fun _ nx => b_M_game_25 (fun _ => nx) (fun z => absurd q2 z)) ?_
      refine po_of (fun _ nx => b_M_game_51 nx) ?_
      exact J _ (by simp only [if_pos q2])
    · refine po_of (fun _ nx => b_M_game_25 (fun z => absurd z q2) (fun _ => nx)) ?_
      refine po_of (fun _ nx => b_M_game_44 nx) ?_
      exact J _ (by simp only [if_neg q2])
abbrev H_M_game_19 (d : Nat) (x1 : Int32) (x2 : Int32) (o3 : Option Value) (o4 : Option Value) (o5 : Option Value) (o6 : Option Value) (S : fm_S) (Q : Int32 → fm_S → Prop) : Prop := am_Po vI (d + 4) k_M_game 19 [some (.ref 231), some (.int x1), some (.int x2), o3, o4, o5, o6] [] S Q
theorem p_M_game_91 {d : Nat} {x1 : Int32} {x2 : Int32} {x3 : Int32} {o4 : Option Value} {o5 : Option Value} {o6 : Option Value} {S : fm_S} {Q : Int32 → fm_S → Prop}
    (W : ((S.1 232 1) < x3 → Q x2 S) ∧ (¬ (S.1 232 1) < x3 → am_Po vI (d + 4) k_M_game 104 [some (.ref 231), some (.int x1), some (.int x2), some (.int x3), some (.int 0), o5, o6] [] S Q)) :
    am_Po vI (d + 4) k_M_game 91 [some (.ref 231), some (.int x1), some (.int x2), some (.int x3), o4, o5, o6] [] S Q := by
  by_cases q1 : (S.1 232 1) < x3
  · have W := W.1 q1
    refine po_of (fun _ nx => b_M_game_91 (fun _ => nx) (fun z => absurd q1 z)) ?_
    exact ⟨_, _, b_M_game_262, W⟩
  · have W := W.2 q1
    refine po_of (fun _ nx => b_M_game_91 (fun z => absurd z q1) (fun _ => nx)) ?_
    refine po_of (fun _ nx => b_M_game_101 nx) ?_
    exact W
abbrev H_M_game_91 (d : Nat) (x1 : Int32) (x2 : Int32) (x3 : Int32) (o4 : Option Value) (o5 : Option Value) (o6 : Option Value) (S : fm_S) (Q : Int32 → fm_S → Prop) : Prop := am_Po vI (d + 4) k_M_game 91 [some (.ref 231), some (.int x1), some (.int x2), some (.int x3), o4, o5, o6] [] S Q
theorem p_M_game_104 {d : Nat} {x1 : Int32} {x2 : Int32} {x3 : Int32} {x4 : Int32} {o5 : Option Value} {o6 : Option Value} {S : fm_S} {Q : Int32 → fm_S → Prop}
    (W : ((S.1 232 0) < x4 → am_Po vI (d + 4) k_M_game 91 [some (.ref 231), some (.int x1), some (.int x2), some (.int (x3 + 1)), some (.int x4), o5, o6] [] S Q) ∧ (¬ (S.1 232 0) < x4 → am_Po vI (d + 4) k_M_game 121 [some (.ref 231), some (.int x1), some (.int x2), some (.int x3), some (.int x4), some (.int 1), some (.int 0)] [] S Q)) :
    am_Po vI (d + 4) k_M_game 104 [some (.ref 231), some (.int x1), some (.int x2), some (.int x3), some (.int x4), o5, o6] [] S Q := by
  by_cases q1 : (S.1 232 0) < x4
  · have W := W.1 q1
    refine po_of (fun _ nx => b_M_game_104 (fun _ => nx) (fun z => absurd q1 z)) ?_
    refine po_of (fun _ nx => b_M_game_256 nx) ?_
    exact W
  · have W := W.2 q1
    refine po_of (fun _ nx => b_M_game_104 (fun z => absurd z q1) (fun _ => nx)) ?_
    refine po_of (fun _ nx => b_M_game_115 nx) ?_
    exact W
abbrev H_M_game_104 (d : Nat) (x1 : Int32) (x2 : Int32) (x3 : Int32) (x4 : Int32) (o5 : Option Value) (o6 : Option Value) (S : fm_S) (Q : Int32 → fm_S → Prop) : Prop := am_Po vI (d + 4) k_M_game 104 [some (.ref 231), some (.int x1), some (.int x2), some (.int x3), some (.int x4), o5, o6] [] S Q
theorem p_M_game_121 {d : Nat} {x1 : Int32} {x2 : Int32} {x3 : Int32} {x4 : Int32} {x5 : Int32} {x6 : Int32} {S : fm_S} {Q : Int32 → fm_S → Prop}
    (W : ((S.1 232 1) < x6 → am_Po vI (d + 4) k_M_game 181 [some (.ref 231), some (.int x1), some (.int x2), some (.int x3), some (.int x4), some (.int x5), some (.int 0)] [] S Q) ∧ (¬ (S.1 232 1) < x6 → (¬ x5 = 0 → vp_in ((9 * x6) + x4) 63) ∧ (¬ x5 = 0 → vp_in ((9 * x3) + x4) 63) ∧ ∀ v6 : Int32, v6 = (if x5 = 0 then (0 : Int32) else if (S.1 242 (((9 * x3) + x4).toNatClampNeg)) < (S.1 242 (((9 * x6) + x4).toNatClampNeg)) then (0 : Int32) else (1 : Int32)) → (am_Po vI (d + 4) k_M_game 121 [some (.ref 231), some (.int x1), some (.int x2), some (.int x3), some (.int x4), some (.int v6), some (.int (x6 + 1))] [] S Q))) :
    am_Po vI (d + 4) k_M_game 121 [some (.ref 231), some (.int x1), some (.int x2), some (.int x3), some (.int x4), some (.int x5), some (.int x6)] [] S Q := by
  by_cases q1 : (S.1 232 1) < x6
  · have W := W.1 q1
    refine po_of (fun _ nx => b_M_game_121 (fun _ => nx) (fun z => absurd q1 z)) ?_
    refine po_of (fun _ nx => b_M_game_178 nx) ?_
    exact W
  · have W := W.2 q1
    refine po_of (fun _ nx => b_M_game_121 (fun z => absurd z q1) (fun _ => nx)) ?_
    obtain ⟨g3, W⟩ := W
    obtain ⟨g4, W⟩ := W
    have J : ∀ v6 : Int32, v6 = (if x5 = 0 then (0 : Int32) else if (S.1 242 (((9 * x3) + x4).toNatClampNeg)) < (S.1 242 (((9 * x6) + x4).toNatClampNeg)) then (0 : Int32) else (1 : Int32)) → am_Po vI (d + 4) k_M_game 170 [some (.ref 231), some (.int x1), some (.int x2), some (.int x3), some (.int x4), some (.int x5), some (.int x6)] [.int v6] S Q := by
      intro v6 v6_
      have W := W v6 v6_
      refine po_of (fun _ nx => b_M_game_170 nx) ?_
      exact W
    by_cases q2 : x5 = 0
    · refine po_of (fun _ nx => b_M_game_132 (fun _ => nx) (fun z => absurd q2 z)) ?_
      refine po_of (fun _ nx => b_M_game_169 nx) ?_
      exact J _ (by simp only [if_pos q2])
    · refine po_of (fun _ nx => b_M_game_132 (fun z => absurd z q2) (fun _ => nx)) ?_
      by_cases q5 : (S.1 242 (((9 * x3) + x4).toNatClampNeg)) < (S.1 242 (((9 * x6) + x4).toNatClampNeg))
      · refine po_of (fun _ nx => b_M_game_137 (g3 q2) (g4 q2) (fun _ => nx) (fun z => absurd q5 z)) ?_
        refine po_of (fun _ nx => b_M_game_169 nx) ?_
        exact J _ (by simp only [if_neg q2, if_pos q5])
      · refine po_of (fun _ nx => b_M_game_137 (g3 q2) (g4 q2) (fun z => absurd z q5) (fun _ => nx)) ?_
        refine po_of (fun _ nx => b_M_game_165 nx) ?_
        exact J _ (by simp only [if_neg q2, if_neg q5])
abbrev H_M_game_121 (d : Nat) (x1 : Int32) (x2 : Int32) (x3 : Int32) (x4 : Int32) (x5 : Int32) (x6 : Int32) (S : fm_S) (Q : Int32 → fm_S → Prop) : Prop := am_Po vI (d + 4) k_M_game 121 [some (.ref 231), some (.int x1), some (.int x2), some (.int x3), some (.int x4), some (.int x5), some (.int x6)] [] S Q
theorem p_M_game_181 {d : Nat} {x1 : Int32} {x2 : Int32} {x3 : Int32} {x4 : Int32} {x5 : Int32} {x6 : Int32} {S : fm_S} {Q : Int32 → fm_S → Prop}
    (W : ((S.1 232 0) < x6 → ∀ v3 : Int32, v3 = (if x5 = 0 then (0 : Int32) else (1 : Int32)) → (am_Po vI (d + 4) k_M_game 104 [some (.ref 231), some (.int x1), some (.int (x2 + v3)), some (.int x3), some (.int (x4 + 1)), some (.int x5), some (.int x6)] [] S Q)) ∧ (¬ (S.1 232 0) < x6 → (¬ x5 = 0 → vp_in ((9 * x3) + x6) 63) ∧ (¬ x5 = 0 → vp_in ((9 * x3) + x4) 63) ∧ ∀ v8 : Int32, v8 = (if x5 = 0 then (0 : Int32) else if (S.1 242 (((9 * x3) + x6).toNatClampNeg)) < (S.1 242 (((9 * x3) + x4).toNatClampNeg)) then (0 : Int32) else (1 : Int32)) → (am_Po vI (d + 4) k_M_game 181 [some (.ref 231), some (.int x1), some (.int x2), some (.int x3), some (.int x4), some (.int v8), some (.int (x6 + 1))] [] S Q))) :
    am_Po vI (d + 4) k_M_game 181 [some (.ref 231), some (.int x1), some (.int x2), some (.int x3), some (.int x4), some (.int x5), some (.int x6)] [] S Q := by
  by_cases q1 : (S.1 232 0) < x6
  · have W := W.1 q1
    refine po_of (fun _ nx => b_M_game_181 (fun _ => nx) (fun z => absurd q1 z)) ?_
    have J : ∀ v3 : Int32, v3 = (if x5 = 0 then (0 : Int32) else (1 : Int32)) → am_Po vI (d + 4) k_M_game 248 [some (.ref 231), some (.int x1), some (.int x2), some (.int x3), some (.int x4), some (.int x5), some (.int x6)] [.int v3, .int x2] S Q := by
      intro v3 v3_
      have W := W v3 v3_
      refine po_of (fun _ nx => b_M_game_248 nx) ?_
      exact W
    by_cases q2 : x5 = 0
    · refine po_of (fun _ nx => b_M_game_237 (fun _ => nx) (fun z => absurd q2 z)) ?_
      refine po_of (fun _ nx => b_M_game_247 nx) ?_
      exact J _ (by simp only [if_pos q2])
    · refine po_of (fun _ nx => b_M_game_237 (fun z => absurd z q2) (fun _ => nx)) ?_
      refine po_of (fun _ nx => b_M_game_243 nx) ?_
      exact J _ (by simp only [if_neg q2])
  · have W := W.2 q1
    refine po_of (fun _ nx => b_M_game_181 (fun z => absurd z q1) (fun _ => nx)) ?_
    obtain ⟨g5, W⟩ := W
    obtain ⟨g6, W⟩ := W
    have J : ∀ v8 : Int32, v8 = (if x5 = 0 then (0 : Int32) else if (S.1 242 (((9 * x3) + x6).toNatClampNeg)) < (S.1 242 (((9 * x3) + x4).toNatClampNeg)) then (0 : Int32) else (1 : Int32)) → am_Po vI (d + 4) k_M_game 229 [some (.ref 231), some (.int x1), some (.int x2), some (.int x3), some (.int x4), some (.int x5), some (.int x6)] [.int v8] S Q := by
      intro v8 v8_
      have W := W v8 v8_
      refine po_of (fun _ nx => b_M_game_229 nx) ?_
      exact W
    by_cases q4 : x5 = 0
    · refine po_of (fun _ nx => b_M_game_192 (fun _ => nx) (fun z => absurd q4 z)) ?_
      refine po_of (fun _ nx => b_M_game_228 nx) ?_
      exact J _ (by simp only [if_pos q4])
    · refine po_of (fun _ nx => b_M_game_192 (fun z => absurd z q4) (fun _ => nx)) ?_
      by_cases q7 : (S.1 242 (((9 * x3) + x6).toNatClampNeg)) < (S.1 242 (((9 * x3) + x4).toNatClampNeg))
      · refine po_of (fun _ nx => b_M_game_197 (g5 q4) (g6 q4) (fun _ => nx) (fun z => absurd q7 z)) ?_
        refine po_of (fun _ nx => b_M_game_228 nx) ?_
        exact J _ (by simp only [if_neg q4, if_pos q7])
      · refine po_of (fun _ nx => b_M_game_197 (g5 q4) (g6 q4) (fun z => absurd z q7) (fun _ => nx)) ?_
        refine po_of (fun _ nx => b_M_game_224 nx) ?_
        exact J _ (by simp only [if_neg q4, if_neg q7])
abbrev H_M_game_181 (d : Nat) (x1 : Int32) (x2 : Int32) (x3 : Int32) (x4 : Int32) (x5 : Int32) (x6 : Int32) (S : fm_S) (Q : Int32 → fm_S → Prop) : Prop := am_Po vI (d + 4) k_M_game 181 [some (.ref 231), some (.int x1), some (.int x2), some (.int x3), some (.int x4), some (.int x5), some (.int x6)] [] S Q
theorem p_M_craved_0 {d : Nat} {x1 : Int32} {S : fm_S} {Q : Int32 → fm_S → Prop}
    (W : ((f_M_isStreet S x1) = 0 → Q f_M_bad (g_M_bad S)) ∧ (¬ (f_M_isStreet S x1) = 0 → (vp_in (5 + x1) 373) ∧ am_Ps vI (d + 1) k_M_cravings [.ref 231, .int x1, .int (S.1 232 ((5 + x1).toNatClampNeg))] S fun v4 S3 => (Q v4 S3))) :
    am_Po vI (d + 2) k_M_craved 0 [some (.ref 231), some (.int x1)] [] S Q := by
  refine po_of (fun _ nx => b_M_craved_0 (s_M_isStreet (x1 := x1) (S := S)) nx) ?_
  by_cases q1 : (f_M_isStreet S x1) = 0
  · have W := W.1 q1
    refine po_of (fun _ nx => b_M_craved_5 (fun _ => nx) (fun z => absurd q1 z)) ?_
    refine po_of (fun _ nx => b_M_craved_24 (s_M_bad (S := S)) nx) ?_
    exact ⟨_, _, b_M_craved_28, W⟩
  · have W := W.2 q1
    refine po_of (fun _ nx => b_M_craved_5 (fun z => absurd z q1) (fun _ => nx)) ?_
    obtain ⟨g2, W⟩ := W
    obtain ⟨v4, S3, h5, W⟩ := W
    refine po_of (fun _ nx => b_M_craved_8 g2 h5 nx) ?_
    refine po_of (fun _ nx => b_M_craved_21 nx) ?_
    exact ⟨_, _, b_M_craved_28, W⟩
theorem e_M_craved {d : Nat} {x1 : Int32} {S : fm_S} {Q : Int32 → fm_S → Prop}
    (W : ((f_M_isStreet S x1) = 0 → Q f_M_bad (g_M_bad S)) ∧ (¬ (f_M_isStreet S x1) = 0 → (vp_in (5 + x1) 373) ∧ am_Ps vI (d + 1) k_M_cravings [.ref 231, .int x1, .int (S.1 232 ((5 + x1).toNatClampNeg))] S fun v4 S3 => (Q v4 S3))) :
    am_Ps vI (d + 2) k_M_craved [.ref 231, .int x1] S Q := ps_of (L := [some (.ref 231), some (.int x1)]) rfl (Nat.le_of_ble_eq_true rfl) (Nat.le_of_ble_eq_true rfl) (p_M_craved_0 W)
theorem p_M_cravings_0 {d : Nat} {x1 : Int32} {x2 : Int32} {o3 : Option Value} {o4 : Option Value} {o5 : Option Value} {o6 : Option Value} {o7 : Option Value} {S : fm_S} {Q : Int32 → fm_S → Prop}
    (W : am_Po vI (d + 1) k_M_cravings 5 [some (.ref 231), some (.int x1), some (.int x2), some (.int 0), some (.int 0), o5, o6, o7] [] S Q) :
    am_Po vI (d + 1) k_M_cravings 0 [some (.ref 231), some (.int x1), some (.int x2), o3, o4, o5, o6, o7] [] S Q := by
  refine po_of (fun _ nx => b_M_cravings_0 nx) ?_
  exact W
theorem e_M_cravings {d : Nat} {x1 : Int32} {x2 : Int32} {S : fm_S} {Q : Int32 → fm_S → Prop}
    (W : am_Po vI (d + 1) k_M_cravings 5 [some (.ref 231), some (.int x1), some (.int x2), some (.int 0), some (.int 0), none, none, none] [] S Q) :
    am_Ps vI (d + 1) k_M_cravings [.ref 231, .int x1, .int x2] S Q := ps_of (L := [some (.ref 231), some (.int x1), some (.int x2), none, none, none, none, none]) rfl (Nat.le_of_ble_eq_true rfl) (Nat.le_of_ble_eq_true rfl) (p_M_cravings_0 W)
theorem p_M_cravings_5 {d : Nat} {x1 : Int32} {x2 : Int32} {x3 : Int32} {x4 : Int32} {o5 : Option Value} {o6 : Option Value} {o7 : Option Value} {S : fm_S} {Q : Int32 → fm_S → Prop}
    (W : (6 ≤ x4 → Q x3 S) ∧ (¬ 6 ≤ x4 → am_Po vI (d + 1) k_M_cravings 20 [some (.ref 231), some (.int x1), some (.int x2), some (.int x3), some (.int x4), some (.int 1), some (.int 143), o7] [] S Q)) :
    am_Po vI (d + 1) k_M_cravings 5 [some (.ref 231), some (.int x1), some (.int x2), some (.int x3), some (.int x4), o5, o6, o7] [] S Q := by
  by_cases q1 : 6 ≤ x4
  · have W := W.1 q1
    refine po_of (fun _ nx => b_M_cravings_5 (fun _ => nx) (fun z => absurd q1 z)) ?_
    exact ⟨_, _, b_M_cravings_159, W⟩
  · have W := W.2 q1
    refine po_of (fun _ nx => b_M_cravings_5 (fun z => absurd z q1) (fun _ => nx)) ?_
    refine po_of (fun _ nx => b_M_cravings_12 nx) ?_
    exact W
abbrev H_M_cravings_5 (d : Nat) (x1 : Int32) (x2 : Int32) (x3 : Int32) (x4 : Int32) (o5 : Option Value) (o6 : Option Value) (o7 : Option Value) (S : fm_S) (Q : Int32 → fm_S → Prop) : Prop := am_Po vI (d + 1) k_M_cravings 5 [some (.ref 231), some (.int x1), some (.int x2), some (.int x3), some (.int x4), o5, o6, o7] [] S Q
theorem p_M_cravings_20 {d : Nat} {x1 : Int32} {x2 : Int32} {x3 : Int32} {x4 : Int32} {x5 : Int32} {x6 : Int32} {o7 : Option Value} {S : fm_S} {Q : Int32 → fm_S → Prop}
    (W : ((143 + (S.1 232 2)) ≤ x6 → ∀ v3 : Int32, v3 = (if x5 = 0 then (0 : Int32) else 1 <<< (x4 &&& 31)) → (am_Po vI (d + 1) k_M_cravings 5 [some (.ref 231), some (.int x1), some (.int x2), some (.int (x3 ||| v3)), some (.int (x4 + 1)), some (.int x5), some (.int x6), o7] [] S Q)) ∧ (¬ (143 + (S.1 232 2)) ≤ x6 → (vp_in (x6 + 6) 373) ∧ (vp_in (x6 + 12) 373) ∧ (vp_in (x6 + 18) 373) ∧ ∀ v8 : Int32, v8 = (if (f_M_movedBy x2 x4 (S.1 232 ((x6 + 6).toNatClampNeg)) (S.1 232 ((x6 + 12).toNatClampNeg)) (S.1 232 ((x6 + 18).toNatClampNeg)) 0) < 10 then (0 : Int32) else (1 : Int32)) → ((¬ x5 = 0 → vp_in x6 373) ∧ (¬ x5 = 0 → (S.1 232 x6.toNatClampNeg) = x1 → vp_in (x6 + 24) 373) ∧ ∀ v16 : Int32, v16 = (if x5 = 0 then (0 : Int32) else if (S.1 232 x6.toNatClampNeg) = x1 then if (S.1 232 ((x6 + 24).toNatClampNeg)) = 1 then if v8 = 1 then (1 : Int32) else (0 : Int32) else if v8 = 0 then (1 : Int32) else (0 : Int32) else (1 : Int32)) → (am_Po vI (d + 1) k_M_cravings 20 [some (.ref 231), some (.int x1), some (.int x2), some (.int x3), some (.int x4), some (.int v16), some (.int (x6 + 1)), some (.int v8)] [] S Q)))) :
    am_Po vI (d + 1) k_M_cravings 20 [some (.ref 231), some (.int x1), some (.int x2), some (.int x3), some (.int x4), some (.int x5), some (.int x6), o7] [] S Q := by
  by_cases q1 : (143 + (S.1 232 2)) ≤ x6
  · have W := W.1 q1
    refine po_of (fun _ nx => b_M_cravings_20 (fun _ => nx) (fun z => absurd q1 z)) ?_
    have J : ∀ v3 : Int32, v3 = (if x5 = 0 then (0 : Int32) else 1 <<< (x4 &&& 31)) → am_Po vI (d + 1) k_M_cravings 151 [some (.ref 231), some (.int x1), some (.int x2), some (.int x3), some (.int x4), some (.int x5), some (.int x6), o7] [.int v3, .int x3] S Q := by
      intro v3 v3_
      have W := W v3 v3_
      refine po_of (fun _ nx => b_M_cravings_151 nx) ?_
      exact W
    by_cases q2 : x5 = 0
    · refine po_of (fun _ nx => b_M_cravings_137 (fun _ => nx) (fun z => absurd q2 z)) ?_
      refine po_of (fun _ nx => b_M_cravings_150 nx) ?_
      exact J _ (by simp only [if_pos q2])
    · refine po_of (fun _ nx => b_M_cravings_137 (fun z => absurd z q2) (fun _ => nx)) ?_
      refine po_of (fun _ nx => b_M_cravings_143 nx) ?_
      exact J _ (by simp only [if_neg q2])
  · have W := W.2 q1
    refine po_of (fun _ nx => b_M_cravings_20 (fun z => absurd z q1) (fun _ => nx)) ?_
    obtain ⟨g4, W⟩ := W
    obtain ⟨g5, W⟩ := W
    obtain ⟨g6, W⟩ := W
    refine po_of (fun _ nx => b_M_cravings_35 g4 g5 g6 (s_M_movedBy (x0 := x2) (x1 := x4) (x2 := (S.1 232 ((x6 + 6).toNatClampNeg))) (x3 := (S.1 232 ((x6 + 12).toNatClampNeg))) (x4 := (S.1 232 ((x6 + 18).toNatClampNeg))) (x5 := 0) (S := S)) nx) ?_
    have J : ∀ v8 : Int32, v8 = (if (f_M_movedBy x2 x4 (S.1 232 ((x6 + 6).toNatClampNeg)) (S.1 232 ((x6 + 12).toNatClampNeg)) (S.1 232 ((x6 + 18).toNatClampNeg)) 0) < 10 then (0 : Int32) else (1 : Int32)) → am_Po vI (d + 1) k_M_cravings 82 [some (.ref 231), some (.int x1), some (.int x2), some (.int x3), some (.int x4), some (.int x5), some (.int x6), o7] [.int v8] S Q := by
      intro v8 v8_
      have W := W v8 v8_
      obtain ⟨g10, W⟩ := W
      obtain ⟨g12, W⟩ := W
      have J : ∀ v16 : Int32, v16 = (if x5 = 0 then (0 : Int32) else if (S.1 232 x6.toNatClampNeg) = x1 then if (S.1 232 ((x6 + 24).toNatClampNeg)) = 1 then if v8 = 1 then (1 : Int32) else (0 : Int32) else if v8 = 0 then (1 : Int32) else (0 : Int32) else (1 : Int32)) → am_Po vI (d + 1) k_M_cravings 129 [some (.ref 231), some (.int x1), some (.int x2), some (.int x3), some (.int x4), some (.int x5), some (.int x6), some (.int v8)] [.int v16] S Q := by
        intro v16 v16_
        have W := W v16 v16_
        refine po_of (fun _ nx => b_M_cravings_129 nx) ?_
        exact W
      by_cases q9 : x5 = 0
      · refine po_of (fun _ nx => b_M_cravings_82 (fun _ => nx) (fun z => absurd q9 z)) ?_
        refine po_of (fun _ nx => b_M_cravings_128 nx) ?_
        exact J _ (by simp only [if_pos q9])
      · refine po_of (fun _ nx => b_M_cravings_82 (fun z => absurd z q9) (fun _ => nx)) ?_
        by_cases q11 : (S.1 232 x6.toNatClampNeg) = x1
        · refine po_of (fun _ nx => b_M_cravings_89 (g10 q9) (fun z => absurd q11 z) (fun _ => nx)) ?_
          by_cases q13 : (S.1 232 ((x6 + 24).toNatClampNeg)) = 1
          · refine po_of (fun _ nx => b_M_cravings_100 (g12 q9 q11) (fun z => absurd q13 z) (fun _ => nx)) ?_
            refine po_of (fun _ nx => b_M_cravings_116 nx) ?_
            by_cases q14 : v8 = 1
            · refine po_of (fun _ nx => b_M_cravings_121 (fun z => absurd q14 z) (fun _ => nx)) ?_
              refine po_of (fun _ nx => b_M_cravings_124 nx) ?_
              exact J _ (by simp only [if_neg q9, if_pos q11, if_pos q13, if_pos q14])
            · refine po_of (fun _ nx => b_M_cravings_121 (fun _ => nx) (fun z => absurd z q14)) ?_
              refine po_of (fun _ nx => b_M_cravings_128 nx) ?_
              exact J _ (by simp only [if_neg q9, if_pos q11, if_pos q13, if_neg q14])
          · refine po_of (fun _ nx => b_M_cravings_100 (g12 q9 q11) (fun _ => nx) (fun z => absurd z q13)) ?_
            refine po_of (fun _ nx => b_M_cravings_120 nx) ?_
            by_cases q15 : v8 = 0
            · refine po_of (fun _ nx => b_M_cravings_121 (fun z => absurd q15 z) (fun _ => nx)) ?_
              refine po_of (fun _ nx => b_M_cravings_124 nx) ?_
              exact J _ (by simp only [if_neg q9, if_pos q11, if_neg q13, if_pos q15])
            · refine po_of (fun _ nx => b_M_cravings_121 (fun _ => nx) (fun z => absurd z q15)) ?_
              refine po_of (fun _ nx => b_M_cravings_128 nx) ?_
              exact J _ (by simp only [if_neg q9, if_pos q11, if_neg q13, if_neg q15])
        · refine po_of (fun _ nx => b_M_cravings_89 (g10 q9) (fun _ => nx) (fun z => absurd z q11)) ?_
          refine po_of (fun _ nx => b_M_cravings_124 nx) ?_
          exact J _ (by simp only [if_neg q9, if_neg q11])
    by_cases q7 : (f_M_movedBy x2 x4 (S.1 232 ((x6 + 6).toNatClampNeg)) (S.1 232 ((x6 + 12).toNatClampNeg)) (S.1 232 ((x6 + 18).toNatClampNeg)) 0) < 10
    · refine po_of (fun _ nx => b_M_cravings_72 (fun _ => nx) (fun z => absurd q7 z)) ?_
      refine po_of (fun _ nx => b_M_cravings_81 nx) ?_
      exact J _ (by simp only [if_pos q7])
    · refine po_of (fun _ nx => b_M_cravings_72 (fun z => absurd z q7) (fun _ => nx)) ?_
      refine po_of (fun _ nx => b_M_cravings_77 nx) ?_
      exact J _ (by simp only [if_neg q7])
abbrev H_M_cravings_20 (d : Nat) (x1 : Int32) (x2 : Int32) (x3 : Int32) (x4 : Int32) (x5 : Int32) (x6 : Int32) (o7 : Option Value) (S : fm_S) (Q : Int32 → fm_S → Prop) : Prop := am_Po vI (d + 1) k_M_cravings 20 [some (.ref 231), some (.int x1), some (.int x2), some (.int x3), some (.int x4), some (.int x5), some (.int x6), o7] [] S Q
theorem p_M_is_0 {d : Nat} {x1 : Int32} {o2 : Option Value} {o3 : Option Value} {S : fm_S} {Q : Int32 → fm_S → Prop}
    (W : ((f_M_isStreet S x1) = 0 → Q f_M_bad (g_M_bad S)) ∧ (¬ (f_M_isStreet S x1) = 0 → am_Po vI (d + 2) k_M_is 17 [some (.ref 231), some (.int x1), some (.int 0), some (.int 0)] [] S Q)) :
    am_Po vI (d + 2) k_M_is 0 [some (.ref 231), some (.int x1), o2, o3] [] S Q := by
  refine po_of (fun _ nx => b_M_is_0 (s_M_isStreet (x1 := x1) (S := S)) nx) ?_
  by_cases q1 : (f_M_isStreet S x1) = 0
  · have W := W.1 q1
    refine po_of (fun _ nx => b_M_is_5 (fun z => absurd q1 z) (fun _ => nx)) ?_
    refine po_of (fun _ nx => b_M_is_8 (s_M_bad (S := S)) nx) ?_
    exact ⟨_, _, b_M_is_12, W⟩
  · have W := W.2 q1
    refine po_of (fun _ nx => b_M_is_5 (fun _ => nx) (fun z => absurd z q1)) ?_
    refine po_of (fun _ nx => b_M_is_13 nx) ?_
    exact W
theorem e_M_is {d : Nat} {x1 : Int32} {S : fm_S} {Q : Int32 → fm_S → Prop}
    (W : ((f_M_isStreet S x1) = 0 → Q f_M_bad (g_M_bad S)) ∧ (¬ (f_M_isStreet S x1) = 0 → am_Po vI (d + 2) k_M_is 17 [some (.ref 231), some (.int x1), some (.int 0), some (.int 0)] [] S Q)) :
    am_Ps vI (d + 2) k_M_is [.ref 231, .int x1] S Q := ps_of (L := [some (.ref 231), some (.int x1), none, none]) rfl (Nat.le_of_ble_eq_true rfl) (Nat.le_of_ble_eq_true rfl) (p_M_is_0 W)
theorem p_M_is_17 {d : Nat} {x1 : Int32} {x2 : Int32} {x3 : Int32} {S : fm_S} {Q : Int32 → fm_S → Prop}
    (W : (6 ≤ x3 → Q x2 S) ∧ (¬ 6 ≤ x3 → am_Ps vI (d + 1) k_M_cravings [.ref 231, .int x1, .int x3] S fun v3 S2 => (∀ v5 : Int32, v5 = (if v3 = 0 then (0 : Int32) else 1 <<< (x3 &&& 31)) → (am_Po vI (d + 2) k_M_is 17 [some (.ref 231), some (.int x1), some (.int (x2 ||| v5)), some (.int (x3 + 1))] [] S2 Q)))) :
    am_Po vI (d + 2) k_M_is 17 [some (.ref 231), some (.int x1), some (.int x2), some (.int x3)] [] S Q := by
  by_cases q1 : 6 ≤ x3
  · have W := W.1 q1
    refine po_of (fun _ nx => b_M_is_17 (fun _ => nx) (fun z => absurd q1 z)) ?_
    exact ⟨_, _, b_M_is_48, W⟩
  · have W := W.2 q1
    refine po_of (fun _ nx => b_M_is_17 (fun z => absurd z q1) (fun _ => nx)) ?_
    obtain ⟨v3, S2, h6, W⟩ := W
    refine po_of (fun _ nx => b_M_is_23 h6 nx) ?_
    have J : ∀ v5 : Int32, v5 = (if v3 = 0 then (0 : Int32) else 1 <<< (x3 &&& 31)) → am_Po vI (d + 2) k_M_is 40 [some (.ref 231), some (.int x1), some (.int x2), some (.int x3)] [.int v5, .int x2] S2 Q := by
      intro v5 v5_
      have W := W v5 v5_
      refine po_of (fun _ nx => b_M_is_40 nx) ?_
      exact W
    by_cases q4 : v3 = 0
    · refine po_of (fun _ nx => b_M_is_30 (fun _ => nx) (fun z => absurd q4 z)) ?_
      refine po_of (fun _ nx => b_M_is_39 nx) ?_
      exact J _ (by simp only [if_pos q4])
    · refine po_of (fun _ nx => b_M_is_30 (fun z => absurd z q4) (fun _ => nx)) ?_
      refine po_of (fun _ nx => b_M_is_33 nx) ?_
      exact J _ (by simp only [if_neg q4])
abbrev H_M_is_17 (d : Nat) (x1 : Int32) (x2 : Int32) (x3 : Int32) (S : fm_S) (Q : Int32 → fm_S → Prop) : Prop := am_Po vI (d + 2) k_M_is 17 [some (.ref 231), some (.int x1), some (.int x2), some (.int x3)] [] S Q
theorem p_M_tryNext_0 {d : Nat} {x1 : Int32} {x2 : Int32} {x3 : Int32} {o4 : Option Value} {o5 : Option Value} {o6 : Option Value} {o7 : Option Value} {o8 : Option Value} {o9 : Option Value} {o10 : Option Value} {S : fm_S} {Q : Int32 → fm_S → Prop}
    (W : ((f_M_isStreet S x1) = 0 → Q f_M_bad (g_M_bad S)) ∧ (¬ (f_M_isStreet S x1) = 0 → ((f_M_in x2.toInt64 1 60) = 0 → Q f_M_bad (g_M_bad S)) ∧ (¬ (f_M_in x2.toInt64 1 60) = 0 → ((f_M_in x3.toInt64 0 99) = 0 → Q f_M_bad (g_M_bad S)) ∧ (¬ (f_M_in x3.toInt64 0 99) = 0 → (vp_in (5 + x1) 373) ∧ am_Ps vI (d + 1) k_M_cravings [.ref 231, .int x1, .int (S.1 232 ((5 + x1).toNatClampNeg))] S fun v6 S5 => (am_Po vI (d + 2) k_M_tryNext 62 [some (.ref 231), some (.int x1), some (.int x2), some (.int x3), some (.int v6), some (.int (-1)), some (.int 9), some (.int 0), o8, o9, o10] [] S5 Q))))) :
    am_Po vI (d + 2) k_M_tryNext 0 [some (.ref 231), some (.int x1), some (.int x2), some (.int x3), o4, o5, o6, o7, o8, o9, o10] [] S Q := by
  refine po_of (fun _ nx => b_M_tryNext_0 (s_M_isStreet (x1 := x1) (S := S)) nx) ?_
  by_cases q1 : (f_M_isStreet S x1) = 0
  · have W := W.1 q1
    refine po_of (fun _ nx => b_M_tryNext_5 (fun _ => nx) (fun z => absurd q1 z)) ?_
    refine po_of (fun _ nx => b_M_tryNext_32 (s_M_bad (S := S)) nx) ?_
    exact ⟨_, _, b_M_tryNext_36, W⟩
  · have W := W.2 q1
    refine po_of (fun _ nx => b_M_tryNext_5 (fun z => absurd z q1) (fun _ => nx)) ?_
    refine po_of (fun _ nx => b_M_tryNext_8 (s_M_in (y0 := x2.toInt64) (y2 := 1) (y4 := 60) (S := S)) nx) ?_
    by_cases q2 : (f_M_in x2.toInt64 1 60) = 0
    · have W := W.1 q2
      refine po_of (fun _ nx => b_M_tryNext_17 (fun _ => nx) (fun z => absurd q2 z)) ?_
      refine po_of (fun _ nx => b_M_tryNext_32 (s_M_bad (S := S)) nx) ?_
      exact ⟨_, _, b_M_tryNext_36, W⟩
    · have W := W.2 q2
      refine po_of (fun _ nx => b_M_tryNext_17 (fun z => absurd z q2) (fun _ => nx)) ?_
      refine po_of (fun _ nx => b_M_tryNext_20 (s_M_in (y0 := x3.toInt64) (y2 := 0) (y4 := 99) (S := S)) nx) ?_
      by_cases q3 : (f_M_in x3.toInt64 0 99) = 0
      · have W := W.1 q3
        refine po_of (fun _ nx => b_M_tryNext_29 (fun z => absurd q3 z) (fun _ => nx)) ?_
        refine po_of (fun _ nx => b_M_tryNext_32 (s_M_bad (S := S)) nx) ?_
        exact ⟨_, _, b_M_tryNext_36, W⟩
      · have W := W.2 q3
        refine po_of (fun _ nx => b_M_tryNext_29 (fun _ => nx) (fun z => absurd z q3)) ?_
        obtain ⟨g4, W⟩ := W
        obtain ⟨v6, S5, h7, W⟩ := W
        refine po_of (fun _ nx => b_M_tryNext_37 g4 h7 nx) ?_
        refine po_of (fun _ nx => b_M_tryNext_50 nx) ?_
        exact W
theorem e_M_tryNext {d : Nat} {x1 : Int32} {x2 : Int32} {x3 : Int32} {S : fm_S} {Q : Int32 → fm_S → Prop}
    (W : ((f_M_isStreet S x1) = 0 → Q f_M_bad (g_M_bad S)) ∧ (¬ (f_M_isStreet S x1) = 0 → ((f_M_in x2.toInt64 1 60) = 0 → Q f_M_bad (g_M_bad S)) ∧ (¬ (f_M_in x2.toInt64 1 60) = 0 → ((f_M_in x3.toInt64 0 99) = 0 → Q f_M_bad (g_M_bad S)) ∧ (¬ (f_M_in x3.toInt64 0 99) = 0 → (vp_in (5 + x1) 373) ∧ am_Ps vI (d + 1) k_M_cravings [.ref 231, .int x1, .int (S.1 232 ((5 + x1).toNatClampNeg))] S fun v6 S5 => (am_Po vI (d + 2) k_M_tryNext 62 [some (.ref 231), some (.int x1), some (.int x2), some (.int x3), some (.int v6), some (.int (-1)), some (.int 9), some (.int 0), none, none, none] [] S5 Q))))) :
    am_Ps vI (d + 2) k_M_tryNext [.ref 231, .int x1, .int x2, .int x3] S Q := ps_of (L := [some (.ref 231), some (.int x1), some (.int x2), some (.int x3), none, none, none, none, none, none, none]) rfl (Nat.le_of_ble_eq_true rfl) (Nat.le_of_ble_eq_true rfl) (p_M_tryNext_0 W)
theorem p_M_tryNext_62 {d : Nat} {x1 : Int32} {x2 : Int32} {x3 : Int32} {x4 : Int32} {x5 : Int32} {x6 : Int32} {x7 : Int32} {o8 : Option Value} {o9 : Option Value} {o10 : Option Value} {S : fm_S} {Q : Int32 → fm_S → Prop}
    (W : (6 ≤ x7 → Q x5 S) ∧ (¬ 6 ≤ x7 → (x4 = 0 → Q x5 S) ∧ (¬ x4 = 0 → am_Po vI (d + 2) k_M_tryNext 80 [some (.ref 231), some (.int x1), some (.int x2), some (.int x3), some (.int x4), some (.int x5), some (.int x6), some (.int x7), some (.int 0), some (.int 0), o10] [] S Q))) :
    am_Po vI (d + 2) k_M_tryNext 62 [some (.ref 231), some (.int x1), some (.int x2), some (.int x3), some (.int x4), some (.int x5), some (.int x6), some (.int x7), o8, o9, o10] [] S Q := by
  by_cases q1 : 6 ≤ x7
  · have W := W.1 q1
    refine po_of (fun _ nx => b_M_tryNext_62 (fun _ => nx) (fun z => absurd q1 z)) ?_
    exact ⟨_, _, b_M_tryNext_200, W⟩
  · have W := W.2 q1
    refine po_of (fun _ nx => b_M_tryNext_62 (fun z => absurd z q1) (fun _ => nx)) ?_
    by_cases q2 : x4 = 0
    · have W := W.1 q2
      refine po_of (fun _ nx => b_M_tryNext_69 (fun _ => nx) (fun z => absurd q2 z)) ?_
      exact ⟨_, _, b_M_tryNext_200, W⟩
    · have W := W.2 q2
      refine po_of (fun _ nx => b_M_tryNext_69 (fun z => absurd z q2) (fun _ => nx)) ?_
      refine po_of (fun _ nx => b_M_tryNext_74 nx) ?_
      exact W
abbrev H_M_tryNext_62 (d : Nat) (x1 : Int32) (x2 : Int32) (x3 : Int32) (x4 : Int32) (x5 : Int32) (x6 : Int32) (x7 : Int32) (o8 : Option Value) (o9 : Option Value) (o10 : Option Value) (S : fm_S) (Q : Int32 → fm_S → Prop) : Prop := am_Po vI (d + 2) k_M_tryNext 62 [some (.ref 231), some (.int x1), some (.int x2), some (.int x3), some (.int x4), some (.int x5), some (.int x6), some (.int x7), o8, o9, o10] [] S Q
theorem p_M_tryNext_80 {d : Nat} {x1 : Int32} {x2 : Int32} {x3 : Int32} {x4 : Int32} {x5 : Int32} {x6 : Int32} {x7 : Int32} {x8 : Int32} {x9 : Int32} {o10 : Option Value} {S : fm_S} {Q : Int32 → fm_S → Prop}
    (W : (6 ≤ x9 → ∀ v3 : Int32, v3 = (if x8 ≤ ((n_bits x4 8) - x8) then ((n_bits x4 8) - x8) else x8) → (∀ v5 : Int32, v5 = (if x6 ≤ v3 then x5 else x7) → (∀ v7 : Int32, v7 = (if x6 ≤ v3 then x6 else v3) → (am_Po vI (d + 2) k_M_tryNext 62 [some (.ref 231), some (.int x1), some (.int x2), some (.int x3), some (.int x4), some (.int v5), some (.int v7), some (.int (x7 + 1)), some (.int x8), some (.int ((n_bits x4 8) - x8)), some (.int v3)] [] S Q)))) ∧ (¬ 6 ≤ x9 → (¬ (f_M_has x4 x9) = 0 → vp_in (5 + x1) 373) ∧ ∀ v11 : Int32, v11 = (if (f_M_has x4 x9) = 0 then (0 : Int32) else if (f_M_movedBy (S.1 232 ((5 + x1).toNatClampNeg)) x9 x7 x2 x3 0) < 10 then (0 : Int32) else (1 : Int32)) → (am_Po vI (d + 2) k_M_tryNext 80 [some (.ref 231), some (.int x1), some (.int x2), some (.int x3), some (.int x4), some (.int x5), some (.int x6), some (.int x7), some (.int (x8 + v11)), some (.int (x9 + 1)), o10] [] S Q))) :
    am_Po vI (d + 2) k_M_tryNext 80 [some (.ref 231), some (.int x1), some (.int x2), some (.int x3), some (.int x4), some (.int x5), some (.int x6), some (.int x7), some (.int x8), some (.int x9), o10] [] S Q := by
  by_cases q1 : 6 ≤ x9
  · have W := W.1 q1
    refine po_of (fun _ nx => b_M_tryNext_80 (fun _ => nx) (fun z => absurd q1 z)) ?_
    refine po_of (fun _ nx => b_M_tryNext_136 (s_M_bits (x0 := x4) (S := S)) nx) ?_
    have J : ∀ v3 : Int32, v3 = (if x8 ≤ ((n_bits x4 8) - x8) then ((n_bits x4 8) - x8) else x8) → am_Po vI (d + 2) k_M_tryNext 160 [some (.ref 231), some (.int x1), some (.int x2), some (.int x3), some (.int x4), some (.int x5), some (.int x6), some (.int x7), some (.int x8), some (.int ((n_bits x4 8) - x8)), o10] [.int v3] S Q := by
      intro v3 v3_
      have W := W v3 v3_
      have J : ∀ v5 : Int32, v5 = (if x6 ≤ v3 then x5 else x7) → am_Po vI (d + 2) k_M_tryNext 176 [some (.ref 231), some (.int x1), some (.int x2), some (.int x3), some (.int x4), some (.int x5), some (.int x6), some (.int x7), some (.int x8), some (.int ((n_bits x4 8) - x8)), some (.int v3)] [.int v5] S Q := by
        intro v5 v5_
        have W := W v5 v5_
        have J : ∀ v7 : Int32, v7 = (if x6 ≤ v3 then x6 else v3) → am_Po vI (d + 2) k_M_tryNext 192 [some (.ref 231), some (.int x1), some (.int x2), some (.int x3), some (.int x4), some (.int v5), some (.int x6), some (.int x7), some (.int x8), some (.int ((n_bits x4 8) - x8)), some (.int v3)] [.int v7] S Q := by
          intro v7 v7_
          have W := W v7 v7_
          refine po_of (fun _ nx => b_M_tryNext_192 nx) ?_
          exact W
        by_cases q6 : x6 ≤ v3
        · refine po_of (fun _ nx => b_M_tryNext_176 (fun _ => nx) (fun z => absurd q6 z)) ?_
          refine po_of (fun _ nx => b_M_tryNext_190 nx) ?_
          exact J _ (by simp only [if_pos q6])
        · refine po_of (fun _ nx => b_M_tryNext_176 (fun z => absurd z q6) (fun _ => nx)) ?_
          refine po_of (fun _ nx => b_M_tryNext_185 nx) ?_
          exact J _ (by simp only [if_neg q6])
      by_cases q4 : x6 ≤ v3
      · refine po_of (fun _ nx => b_M_tryNext_160 (fun _ => nx) (fun z => absurd q4 z)) ?_
        refine po_of (fun _ nx => b_M_tryNext_174 nx) ?_
        exact J _ (by simp only [if_pos q4])
      · refine po_of (fun _ nx => b_M_tryNext_160 (fun z => absurd z q4) (fun _ => nx)) ?_
        refine po_of (fun _ nx => b_M_tryNext_169 nx) ?_
        exact J _ (by simp only [if_neg q4])
    by_cases q2 : x8 ≤ ((n_bits x4 8) - x8)
    · refine po_of (fun _ nx => b_M_tryNext_141 (fun _ => nx) (fun z => absurd q2 z)) ?_
      refine po_of (fun _ nx => b_M_tryNext_158 nx) ?_
      exact J _ (by simp only [if_pos q2])
    · refine po_of (fun _ nx => b_M_tryNext_141 (fun z => absurd z q2) (fun _ => nx)) ?_
      refine po_of (fun _ nx => b_M_tryNext_153 nx) ?_
      exact J _ (by simp only [if_neg q2])
  · have W := W.2 q1
    refine po_of (fun _ nx => b_M_tryNext_80 (fun z => absurd z q1) (fun _ => nx)) ?_
    refine po_of (fun _ nx => b_M_tryNext_87 (s_M_has (x0 := x4) (x1 := x9) (S := S)) nx) ?_
    obtain ⟨g9, W⟩ := W
    have J : ∀ v11 : Int32, v11 = (if (f_M_has x4 x9) = 0 then (0 : Int32) else if (f_M_movedBy (S.1 232 ((5 + x1).toNatClampNeg)) x9 x7 x2 x3 0) < 10 then (0 : Int32) else (1 : Int32)) → am_Po vI (d + 2) k_M_tryNext 127 [some (.ref 231), some (.int x1), some (.int x2), some (.int x3), some (.int x4), some (.int x5), some (.int x6), some (.int x7), some (.int x8), some (.int x9), o10] [.int v11, .int x8] S Q := by
      intro v11 v11_
      have W := W v11 v11_
      refine po_of (fun _ nx => b_M_tryNext_127 nx) ?_
      exact W
    by_cases q8 : (f_M_has x4 x9) = 0
    · refine po_of (fun _ nx => b_M_tryNext_96 (fun _ => nx) (fun z => absurd q8 z)) ?_
      refine po_of (fun _ nx => b_M_tryNext_126 nx) ?_
      exact J _ (by simp only [if_pos q8])
    · refine po_of (fun _ nx => b_M_tryNext_96 (fun z => absurd z q8) (fun _ => nx)) ?_
      refine po_of (fun _ nx => b_M_tryNext_99 (g9 q8) (s_M_movedBy (x0 := (S.1 232 ((5 + x1).toNatClampNeg))) (x1 := x9) (x2 := x7) (x3 := x2) (x4 := x3) (x5 := 0) (S := S)) nx) ?_
      by_cases q10 : (f_M_movedBy (S.1 232 ((5 + x1).toNatClampNeg)) x9 x7 x2 x3 0) < 10
      · refine po_of (fun _ nx => b_M_tryNext_117 (fun _ => nx) (fun z => absurd q10 z)) ?_
        refine po_of (fun _ nx => b_M_tryNext_126 nx) ?_
        exact J _ (by simp only [if_neg q8, if_pos q10])
      · refine po_of (fun _ nx => b_M_tryNext_117 (fun z => absurd z q10) (fun _ => nx)) ?_
        refine po_of (fun _ nx => b_M_tryNext_122 nx) ?_
        exact J _ (by simp only [if_neg q8, if_neg q10])
abbrev H_M_tryNext_80 (d : Nat) (x1 : Int32) (x2 : Int32) (x3 : Int32) (x4 : Int32) (x5 : Int32) (x6 : Int32) (x7 : Int32) (x8 : Int32) (x9 : Int32) (o10 : Option Value) (S : fm_S) (Q : Int32 → fm_S → Prop) : Prop := am_Po vI (d + 2) k_M_tryNext 80 [some (.ref 231), some (.int x1), some (.int x2), some (.int x3), some (.int x4), some (.int x5), some (.int x6), some (.int x7), some (.int x8), some (.int x9), o10] [] S Q
theorem p_M_rain_0 {d : Nat} {x1 : Int32} {x2 : Int32} {x3 : Int32} {o4 : Option Value} {o5 : Option Value} {o6 : Option Value} {o7 : Option Value} {o8 : Option Value} {o9 : Option Value} {o10 : Option Value} {S : fm_S} {Q : Int32 → fm_S → Prop}
    (W : ((f_M_isDish S x1) = 0 → Q f_M_bad (g_M_bad S)) ∧ (¬ (f_M_isDish S x1) = 0 → ((f_M_in x2.toInt64 0 10) = 0 → Q f_M_bad (g_M_bad S)) ∧ (¬ (f_M_in x2.toInt64 0 10) = 0 → ((f_M_in x3.toInt64 0 8) = 0 → Q f_M_bad (g_M_bad S)) ∧ (¬ (f_M_in x3.toInt64 0 8) = 0 → am_Ps vI (d + 3) k_M_opening [.ref 231, .int x1, .int (-1), .int 0] S fun v5 S4 => (am_Po vI (d + 4) k_M_rain 62 [some (.ref 231), some (.int x1), some (.int x2), some (.int x3), some (.int (n_bits v5 8)), some (.long 1), none, some (.int 0), o8, o9, o10] [] (fm_wL S4 243 0 1) Q))))) :
    am_Po vI (d + 4) k_M_rain 0 [some (.ref 231), some (.int x1), some (.int x2), some (.int x3), o4, o5, o6, o7, o8, o9, o10] [] S Q := by
  refine po_of (fun _ nx => b_M_rain_0 (s_M_isDish (x1 := x1) (S := S)) nx) ?_
  by_cases q1 : (f_M_isDish S x1) = 0
  · have W := W.1 q1
    refine po_of (fun _ nx => b_M_rain_5 (fun _ => nx) (fun z => absurd q1 z)) ?_
    refine po_of (fun _ nx => b_M_rain_32 (s_M_bad (S := S)) nx) ?_
    exact ⟨_, _, b_M_rain_36, W⟩
  · have W := W.2 q1
    refine po_of (fun _ nx => b_M_rain_5 (fun z => absurd z q1) (fun _ => nx)) ?_
    refine po_of (fun _ nx => b_M_rain_8 (s_M_in (y0 := x2.toInt64) (y2 := 0) (y4 := 10) (S := S)) nx) ?_
    by_cases q2 : (f_M_in x2.toInt64 0 10) = 0
    · have W := W.1 q2
      refine po_of (fun _ nx => b_M_rain_17 (fun _ => nx) (fun z => absurd q2 z)) ?_
      refine po_of (fun _ nx => b_M_rain_32 (s_M_bad (S := S)) nx) ?_
      exact ⟨_, _, b_M_rain_36, W⟩
    · have W := W.2 q2
      refine po_of (fun _ nx => b_M_rain_17 (fun z => absurd z q2) (fun _ => nx)) ?_
      refine po_of (fun _ nx => b_M_rain_20 (s_M_in (y0 := x3.toInt64) (y2 := 0) (y4 := 8) (S := S)) nx) ?_
      by_cases q3 : (f_M_in x3.toInt64 0 8) = 0
      · have W := W.1 q3
        refine po_of (fun _ nx => b_M_rain_29 (fun z => absurd q3 z) (fun _ => nx)) ?_
        refine po_of (fun _ nx => b_M_rain_32 (s_M_bad (S := S)) nx) ?_
        exact ⟨_, _, b_M_rain_36, W⟩
      · have W := W.2 q3
        refine po_of (fun _ nx => b_M_rain_29 (fun _ => nx) (fun z => absurd z q3)) ?_
        obtain ⟨v5, S4, h6, W⟩ := W
        refine po_of (fun _ nx => b_M_rain_37 h6 nx) ?_
        refine po_of (fun _ nx => b_M_rain_44 (s_M_bits (x0 := v5) (S := S4)) nx) ?_
        refine po_of (fun _ nx => b_M_rain_47 nx) ?_
        exact W
theorem e_M_rain {d : Nat} {x1 : Int32} {x2 : Int32} {x3 : Int32} {S : fm_S} {Q : Int32 → fm_S → Prop}
    (W : ((f_M_isDish S x1) = 0 → Q f_M_bad (g_M_bad S)) ∧ (¬ (f_M_isDish S x1) = 0 → ((f_M_in x2.toInt64 0 10) = 0 → Q f_M_bad (g_M_bad S)) ∧ (¬ (f_M_in x2.toInt64 0 10) = 0 → ((f_M_in x3.toInt64 0 8) = 0 → Q f_M_bad (g_M_bad S)) ∧ (¬ (f_M_in x3.toInt64 0 8) = 0 → am_Ps vI (d + 3) k_M_opening [.ref 231, .int x1, .int (-1), .int 0] S fun v5 S4 => (am_Po vI (d + 4) k_M_rain 62 [some (.ref 231), some (.int x1), some (.int x2), some (.int x3), some (.int (n_bits v5 8)), some (.long 1), none, some (.int 0), none, none, none] [] (fm_wL S4 243 0 1) Q))))) :
    am_Ps vI (d + 4) k_M_rain [.ref 231, .int x1, .int x2, .int x3] S Q := ps_of (L := [some (.ref 231), some (.int x1), some (.int x2), some (.int x3), none, none, none, none, none, none, none]) rfl (Nat.le_of_ble_eq_true rfl) (Nat.le_of_ble_eq_true rfl) (p_M_rain_0 W)
theorem p_M_rain_62 {d : Nat} {x1 : Int32} {x2 : Int32} {x3 : Int32} {x4 : Int32} {y5 : Int64} {x7 : Int32} {o8 : Option Value} {o9 : Option Value} {o10 : Option Value} {S : fm_S} {Q : Int32 → fm_S → Prop}
    (W : (x4 ≤ x7 → am_Po vI (d + 4) k_M_rain 160 [some (.ref 231), some (.int x1), some (.int x2), some (.int x3), some (.int x4), some (.long y5), none, some (.long 0), none, some (.int x3), o10] [] S Q) ∧ (¬ x4 ≤ x7 → (vp_in (x7 + 1) 9) ∧ am_Po vI (d + 4) k_M_rain 85 [some (.ref 231), some (.int x1), some (.int x2), some (.int x3), some (.int x4), some (.long y5), none, some (.int x7), some (.int (x7 + 1)), o9, o10] [] (fm_wL S 243 ((x7 + 1).toNatClampNeg) 0) Q)) :
    am_Po vI (d + 4) k_M_rain 62 [some (.ref 231), some (.int x1), some (.int x2), some (.int x3), some (.int x4), some (.long y5), none, some (.int x7), o8, o9, o10] [] S Q := by
  by_cases q1 : x4 ≤ x7
  · have W := W.1 q1
    refine po_of (fun _ nx => b_M_rain_62 (fun _ => nx) (fun z => absurd q1 z)) ?_
    refine po_of (fun _ nx => b_M_rain_154 nx) ?_
    exact W
  · have W := W.2 q1
    refine po_of (fun _ nx => b_M_rain_62 (fun z => absurd z q1) (fun _ => nx)) ?_
    obtain ⟨g2, W⟩ := W
    refine po_of (fun _ nx => b_M_rain_69 g2 nx) ?_
    exact W
abbrev H_M_rain_62 (d : Nat) (x1 : Int32) (x2 : Int32) (x3 : Int32) (x4 : Int32) (y5 : Int64) (x7 : Int32) (o8 : Option Value) (o9 : Option Value) (o10 : Option Value) (S : fm_S) (Q : Int32 → fm_S → Prop) : Prop := am_Po vI (d + 4) k_M_rain 62 [some (.ref 231), some (.int x1), some (.int x2), some (.int x3), some (.int x4), some (.long y5), none, some (.int x7), o8, o9, o10] [] S Q
theorem p_M_rain_85 {d : Nat} {x1 : Int32} {x2 : Int32} {x3 : Int32} {x4 : Int32} {y5 : Int64} {x7 : Int32} {x8 : Int32} {o9 : Option Value} {o10 : Option Value} {S : fm_S} {Q : Int32 → fm_S → Prop}
    (W : (x8 ≤ 0 → am_Po vI (d + 4) k_M_rain 62 [some (.ref 231), some (.int x1), some (.int x2), some (.int x3), some (.int x4), some (.long (y5 * 10)), none, some (.int (x7 + 1)), some (.int x8), o9, o10] [] (fm_wL S 243 0 ((S.2.1 243 0) * x2.toInt64)) Q) ∧ (¬ x8 ≤ 0 → (vp_in x8 9) ∧ (vp_in (x8 - 1) 9) ∧ am_Po vI (d + 4) k_M_rain 85 [some (.ref 231), some (.int x1), some (.int x2), some (.int x3), some (.int x4), some (.long y5), none, some (.int x7), some (.int (x8 + (-1))), o9, o10] [] (fm_wL S 243 x8.toNatClampNeg (((S.2.1 243 x8.toNatClampNeg) * x2.toInt64) + ((S.2.1 243 ((x8 - 1).toNatClampNeg)) * ((10 - x2).toInt64)))) Q)) :
    am_Po vI (d + 4) k_M_rain 85 [some (.ref 231), some (.int x1), some (.int x2), some (.int x3), some (.int x4), some (.long y5), none, some (.int x7), some (.int x8), o9, o10] [] S Q := by
  by_cases q1 : x8 ≤ 0
  · have W := W.1 q1
    refine po_of (fun _ nx => b_M_rain_85 (fun _ => nx) (fun z => absurd q1 z)) ?_
    refine po_of (fun _ nx => b_M_rain_129 nx) ?_
    exact W
  · have W := W.2 q1
    refine po_of (fun _ nx => b_M_rain_85 (fun z => absurd z q1) (fun _ => nx)) ?_
    obtain ⟨g2, W⟩ := W
    obtain ⟨g3, W⟩ := W
    refine po_of (fun _ nx => b_M_rain_90 g2 g3 nx) ?_
    exact W
abbrev H_M_rain_85 (d : Nat) (x1 : Int32) (x2 : Int32) (x3 : Int32) (x4 : Int32) (y5 : Int64) (x7 : Int32) (x8 : Int32) (o9 : Option Value) (o10 : Option Value) (S : fm_S) (Q : Int32 → fm_S → Prop) : Prop := am_Po vI (d + 4) k_M_rain 85 [some (.ref 231), some (.int x1), some (.int x2), some (.int x3), some (.int x4), some (.long y5), none, some (.int x7), some (.int x8), o9, o10] [] S Q
theorem p_M_rain_160 {d : Nat} {x1 : Int32} {x2 : Int32} {x3 : Int32} {x4 : Int32} {y5 : Int64} {y7 : Int64} {x9 : Int32} {o10 : Option Value} {S : fm_S} {Q : Int32 → fm_S → Prop}
    (W : (x4 < x9 → am_Po vI (d + 4) k_M_rain 197 [some (.ref 231), some (.int x1), some (.int x2), some (.int x3), some (.int x4), some (.long y5), none, some (.long y7), none, some (.int x9), o10] [] (fm_wL (fm_wL S 231 6 y7) 231 7 y5) Q) ∧ (¬ x4 < x9 → (vp_in x9 9) ∧ am_Po vI (d + 4) k_M_rain 160 [some (.ref 231), some (.int x1), some (.int x2), some (.int x3), some (.int x4), some (.long y5), none, some (.long (y7 + (S.2.1 243 x9.toNatClampNeg))), none, some (.int (x9 + 1)), o10] [] S Q)) :
    am_Po vI (d + 4) k_M_rain 160 [some (.ref 231), some (.int x1), some (.int x2), some (.int x3), some (.int x4), some (.long y5), none, some (.long y7), none, some (.int x9), o10] [] S Q := by
  by_cases q1 : x4 < x9
  · have W := W.1 q1
    refine po_of (fun _ nx => b_M_rain_160 (fun _ => nx) (fun z => absurd q1 z)) ?_
    refine po_of (fun _ nx => b_M_rain_185 nx) ?_
    exact W
  · have W := W.2 q1
    refine po_of (fun _ nx => b_M_rain_160 (fun z => absurd z q1) (fun _ => nx)) ?_
    obtain ⟨g2, W⟩ := W
    refine po_of (fun _ nx => b_M_rain_167 g2 nx) ?_
    exact W
abbrev H_M_rain_160 (d : Nat) (x1 : Int32) (x2 : Int32) (x3 : Int32) (x4 : Int32) (y5 : Int64) (y7 : Int64) (x9 : Int32) (o10 : Option Value) (S : fm_S) (Q : Int32 → fm_S → Prop) : Prop := am_Po vI (d + 4) k_M_rain 160 [some (.ref 231), some (.int x1), some (.int x2), some (.int x3), some (.int x4), some (.long y5), none, some (.long y7), none, some (.int x9), o10] [] S Q
theorem p_M_rain_197 {d : Nat} {x1 : Int32} {x2 : Int32} {x3 : Int32} {x4 : Int32} {y5 : Int64} {y7 : Int64} {o9 : Option Value} {o10 : Option Value} {S : fm_S} {Q : Int32 → fm_S → Prop}
    (W : ((lg_cmp y5 0) = 0 → (¬ y7 = 0) ∧ Q 1 (fm_wL (fm_wL S 231 6 ((S.2.1 231 6) / y7)) 231 7 (((fm_wL S 231 6 ((S.2.1 231 6) / y7)).2.1 231 7) / y7))) ∧ (¬ (lg_cmp y5 0) = 0 → (¬ y5 = 0) ∧ am_Po vI (d + 4) k_M_rain 197 [some (.ref 231), some (.int x1), some (.int x2), some (.int x3), some (.int x4), some (.long (y7 - y7 / y5 * y5)), none, some (.long y5), none, some (.long (y7 - y7 / y5 * y5)), none] [] S Q)) :
    am_Po vI (d + 4) k_M_rain 197 [some (.ref 231), some (.int x1), some (.int x2), some (.int x3), some (.int x4), some (.long y5), none, some (.long y7), none, o9, o10] [] S Q := by
  by_cases q1 : (lg_cmp y5 0) = 0
  · have W := W.1 q1
    refine po_of (fun _ nx => b_M_rain_197 (fun _ => nx) (fun z => absurd q1 z)) ?_
    obtain ⟨g2, W⟩ := W
    exact ⟨_, _, b_M_rain_222 g2, W⟩
  · have W := W.2 q1
    refine po_of (fun _ nx => b_M_rain_197 (fun z => absurd z q1) (fun _ => nx)) ?_
    obtain ⟨g3, W⟩ := W
    refine po_of (fun _ nx => b_M_rain_204 g3 nx) ?_
    exact W
abbrev H_M_rain_197 (d : Nat) (x1 : Int32) (x2 : Int32) (x3 : Int32) (x4 : Int32) (y5 : Int64) (y7 : Int64) (o9 : Option Value) (o10 : Option Value) (S : fm_S) (Q : Int32 → fm_S → Prop) : Prop := am_Po vI (d + 4) k_M_rain 197 [some (.ref 231), some (.int x1), some (.int x2), some (.int x3), some (.int x4), some (.long y5), none, some (.long y7), none, o9, o10] [] S Q
theorem p_M_sieges_0 {d : Nat} {x1 : Int32} {x2 : Int32} {o3 : Option Value} {o4 : Option Value} {o5 : Option Value} {S : fm_S} {Q : Int32 → fm_S → Prop}
    (W : ((f_M_in x1.toInt64 0 999999) = 0 → Q f_M_bad (g_M_bad S)) ∧ (¬ (f_M_in x1.toInt64 0 999999) = 0 → ((f_M_in x2.toInt64 0 60) = 0 → Q f_M_bad (g_M_bad S)) ∧ (¬ (f_M_in x2.toInt64 0 60) = 0 → am_Po vI (d + 5) k_M_sieges 48 [some (.ref 231), some (.int x1), some (.int x2), some (.long x1.toInt64), none, some (.int 0)] [] (g_past S 232 239 0 0) Q))) :
    am_Po vI (d + 5) k_M_sieges 0 [some (.ref 231), some (.int x1), some (.int x2), o3, o4, o5] [] S Q := by
  refine po_of (fun _ nx => b_M_sieges_0 (s_M_in (y0 := x1.toInt64) (y2 := 0) (y4 := 999999) (S := S)) nx) ?_
  by_cases q1 : (f_M_in x1.toInt64 0 999999) = 0
  · have W := W.1 q1
    refine po_of (fun _ nx => b_M_sieges_9 (fun _ => nx) (fun z => absurd q1 z)) ?_
    refine po_of (fun _ nx => b_M_sieges_24 (s_M_bad (S := S)) nx) ?_
    exact ⟨_, _, b_M_sieges_28, W⟩
  · have W := W.2 q1
    refine po_of (fun _ nx => b_M_sieges_9 (fun z => absurd z q1) (fun _ => nx)) ?_
    refine po_of (fun _ nx => b_M_sieges_12 (s_M_in (y0 := x2.toInt64) (y2 := 0) (y4 := 60) (S := S)) nx) ?_
    by_cases q2 : (f_M_in x2.toInt64 0 60) = 0
    · have W := W.1 q2
      refine po_of (fun _ nx => b_M_sieges_21 (fun z => absurd q2 z) (fun _ => nx)) ?_
      refine po_of (fun _ nx => b_M_sieges_24 (s_M_bad (S := S)) nx) ?_
      exact ⟨_, _, b_M_sieges_28, W⟩
    · have W := W.2 q2
      refine po_of (fun _ nx => b_M_sieges_21 (fun _ => nx) (fun z => absurd z q2)) ?_
      refine po_of (fun _ nx => b_M_sieges_29 (s_M_past (a0 := 232) (a1 := 239) (x2 := 0) (x3 := 0) (S := S) (by decide +kernel) (by decide +kernel) (by decide) (by decide +kernel) (by decide +kernel)) nx) ?_
      refine po_of (fun _ nx => b_M_sieges_42 nx) ?_
      exact W
theorem e_M_sieges {d : Nat} {x1 : Int32} {x2 : Int32} {S : fm_S} {Q : Int32 → fm_S → Prop}
    (W : ((f_M_in x1.toInt64 0 999999) = 0 → Q f_M_bad (g_M_bad S)) ∧ (¬ (f_M_in x1.toInt64 0 999999) = 0 → ((f_M_in x2.toInt64 0 60) = 0 → Q f_M_bad (g_M_bad S)) ∧ (¬ (f_M_in x2.toInt64 0 60) = 0 → am_Po vI (d + 5) k_M_sieges 48 [some (.ref 231), some (.int x1), some (.int x2), some (.long x1.toInt64), none, some (.int 0)] [] (g_past S 232 239 0 0) Q))) :
    am_Ps vI (d + 5) k_M_sieges [.ref 231, .int x1, .int x2] S Q := ps_of (L := [some (.ref 231), some (.int x1), some (.int x2), none, none, none]) rfl (Nat.le_of_ble_eq_true rfl) (Nat.le_of_ble_eq_true rfl) (p_M_sieges_0 W)
theorem p_M_sieges_48 {d : Nat} {x1 : Int32} {x2 : Int32} {y3 : Int64} {x5 : Int32} {S : fm_S} {Q : Int32 → fm_S → Prop}
    (W : (x2 ≤ x5 → (vp_in (S.1 232 0) 9) ∧ Q (n_M_openMany S (((S.1 232 0)).toNatClampNeg)) (g_past S 239 232 0 1)) ∧ (¬ x2 ≤ x5 → am_Ps vI (d + 4) k_M_goDay [.ref 231, .int ((((((y3 * 1103515245) + 12345) - ((y3 * 1103515245) + 12345) / 2147483648 * 2147483648) / 65536) - ((((y3 * 1103515245) + 12345) - ((y3 * 1103515245) + 12345) / 2147483648 * 2147483648) / 65536) / 7 * 7).toInt32)] S fun v4 S3 => (am_Po vI (d + 5) k_M_sieges 48 [some (.ref 231), some (.int x1), some (.int x2), some (.long (((y3 * 1103515245) + 12345) - ((y3 * 1103515245) + 12345) / 2147483648 * 2147483648)), none, some (.int (x5 + 1))] [] S3 Q))) :
    am_Po vI (d + 5) k_M_sieges 48 [some (.ref 231), some (.int x1), some (.int x2), some (.long y3), none, some (.int x5)] [] S Q := by
  by_cases q1 : x2 ≤ x5
  · have W := W.1 q1
    refine po_of (fun _ nx => b_M_sieges_48 (fun _ => nx) (fun z => absurd q1 z)) ?_
    obtain ⟨g2, W⟩ := W
    refine po_of (fun _ nx => b_M_sieges_89 (s_M_openMany (S := S) g2) nx) ?_
    refine po_of (fun _ nx => b_M_sieges_93 (s_M_past (a0 := 239) (a1 := 232) (x2 := 0) (x3 := 1) (S := S) (by decide +kernel) (by decide +kernel) (by decide) (by decide +kernel) (by decide +kernel)) nx) ?_
    exact ⟨_, _, b_M_sieges_108, W⟩
  · have W := W.2 q1
    refine po_of (fun _ nx => b_M_sieges_48 (fun z => absurd z q1) (fun _ => nx)) ?_
    obtain ⟨v4, S3, h5, W⟩ := W
    refine po_of (fun _ nx => b_M_sieges_54 h5 nx) ?_
    refine po_of (fun _ nx => b_M_sieges_82 nx) ?_
    exact W
abbrev H_M_sieges_48 (d : Nat) (x1 : Int32) (x2 : Int32) (y3 : Int64) (x5 : Int32) (S : fm_S) (Q : Int32 → fm_S → Prop) : Prop := am_Po vI (d + 5) k_M_sieges 48 [some (.ref 231), some (.int x1), some (.int x2), some (.long y3), none, some (.int x5)] [] S Q
theorem p_M_image_0 {d : Nat} {x1 : Int32} {o2 : Option Value} {S : fm_S} {Q : Int32 → fm_S → Prop}
    (W : ((f_M_in x1.toInt64 0 1) = 0 → Q f_M_bad (g_M_bad S)) ∧ (¬ (f_M_in x1.toInt64 0 1) = 0 → am_Po vI (d + 1) k_M_image 17 [some (.ref 231), some (.int x1), some (.int 0)] [] S Q)) :
    am_Po vI (d + 1) k_M_image 0 [some (.ref 231), some (.int x1), o2] [] S Q := by
  refine po_of (fun _ nx => b_M_image_0 (s_M_in (y0 := x1.toInt64) (y2 := 0) (y4 := 1) (S := S)) nx) ?_
  by_cases q1 : (f_M_in x1.toInt64 0 1) = 0
  · have W := W.1 q1
    refine po_of (fun _ nx => b_M_image_7 (fun z => absurd q1 z) (fun _ => nx)) ?_
    refine po_of (fun _ nx => b_M_image_10 (s_M_bad (S := S)) nx) ?_
    exact ⟨_, _, b_M_image_14, W⟩
  · have W := W.2 q1
    refine po_of (fun _ nx => b_M_image_7 (fun _ => nx) (fun z => absurd z q1)) ?_
    refine po_of (fun _ nx => b_M_image_15 nx) ?_
    exact W
theorem e_M_image {d : Nat} {x1 : Int32} {S : fm_S} {Q : Int32 → fm_S → Prop}
    (W : ((f_M_in x1.toInt64 0 1) = 0 → Q f_M_bad (g_M_bad S)) ∧ (¬ (f_M_in x1.toInt64 0 1) = 0 → am_Po vI (d + 1) k_M_image 17 [some (.ref 231), some (.int x1), some (.int 0)] [] S Q)) :
    am_Ps vI (d + 1) k_M_image [.ref 231, .int x1] S Q := ps_of (L := [some (.ref 231), some (.int x1), none]) rfl (Nat.le_of_ble_eq_true rfl) (Nat.le_of_ble_eq_true rfl) (p_M_image_0 W)
theorem p_M_image_17 {d : Nat} {x1 : Int32} {x2 : Int32} {S : fm_S} {Q : Int32 → fm_S → Prop}
    (W : (373 ≤ x2 → (vp_in x1 2) ∧ Q 1 (fm_wI S 235 x1.toNatClampNeg 1)) ∧ (¬ 373 ≤ x2 → (vp_in x2 373) ∧ (vp_in ((373 * x1) + x2) 746) ∧ am_Po vI (d + 1) k_M_image 17 [some (.ref 231), some (.int x1), some (.int (x2 + 1))] [] (fm_wI S 234 (((373 * x1) + x2).toNatClampNeg) (S.1 232 x2.toNatClampNeg)) Q)) :
    am_Po vI (d + 1) k_M_image 17 [some (.ref 231), some (.int x1), some (.int x2)] [] S Q := by
  by_cases q1 : 373 ≤ x2
  · have W := W.1 q1
    refine po_of (fun _ nx => b_M_image_17 (fun _ => nx) (fun z => absurd q1 z)) ?_
    obtain ⟨g2, W⟩ := W
    exact ⟨_, _, b_M_image_48 g2, W⟩
  · have W := W.2 q1
    refine po_of (fun _ nx => b_M_image_17 (fun z => absurd z q1) (fun _ => nx)) ?_
    obtain ⟨g3, W⟩ := W
    obtain ⟨g4, W⟩ := W
    refine po_of (fun _ nx => b_M_image_24 g3 g4 nx) ?_
    exact W
abbrev H_M_image_17 (d : Nat) (x1 : Int32) (x2 : Int32) (S : fm_S) (Q : Int32 → fm_S → Prop) : Prop := am_Po vI (d + 1) k_M_image 17 [some (.ref 231), some (.int x1), some (.int x2)] [] S Q
theorem p_M_from_0 {d : Nat} {x1 : Int32} {o2 : Option Value} {S : fm_S} {Q : Int32 → fm_S → Prop}
    (W : ((f_M_in x1.toInt64 0 1) = 0 → Q f_M_bad (g_M_bad S)) ∧ (¬ (f_M_in x1.toInt64 0 1) = 0 → (vp_in x1 2) ∧ ((S.1 235 x1.toNatClampNeg) = 0 → Q f_M_no (g_M_no S)) ∧ (¬ (S.1 235 x1.toNatClampNeg) = 0 → am_Po vI (d + 1) k_M_from 31 [some (.ref 231), some (.int x1), some (.int 0)] [] S Q))) :
    am_Po vI (d + 1) k_M_from 0 [some (.ref 231), some (.int x1), o2] [] S Q := by
  refine po_of (fun _ nx => b_M_from_0 (s_M_in (y0 := x1.toInt64) (y2 := 0) (y4 := 1) (S := S)) nx) ?_
  by_cases q1 : (f_M_in x1.toInt64 0 1) = 0
  · have W := W.1 q1
    refine po_of (fun _ nx => b_M_from_7 (fun z => absurd q1 z) (fun _ => nx)) ?_
    refine po_of (fun _ nx => b_M_from_10 (s_M_bad (S := S)) nx) ?_
    exact ⟨_, _, b_M_from_14, W⟩
  · have W := W.2 q1
    refine po_of (fun _ nx => b_M_from_7 (fun _ => nx) (fun z => absurd z q1)) ?_
    obtain ⟨g2, W⟩ := W
    by_cases q3 : (S.1 235 x1.toNatClampNeg) = 0
    · have W := W.1 q3
      refine po_of (fun _ nx => b_M_from_15 g2 (fun z => absurd q3 z) (fun _ => nx)) ?_
      refine po_of (fun _ nx => b_M_from_24 (s_M_no (S := S)) nx) ?_
      exact ⟨_, _, b_M_from_28, W⟩
    · have W := W.2 q3
      refine po_of (fun _ nx => b_M_from_15 g2 (fun _ => nx) (fun z => absurd z q3)) ?_
      refine po_of (fun _ nx => b_M_from_29 nx) ?_
      exact W
theorem e_M_from {d : Nat} {x1 : Int32} {S : fm_S} {Q : Int32 → fm_S → Prop}
    (W : ((f_M_in x1.toInt64 0 1) = 0 → Q f_M_bad (g_M_bad S)) ∧ (¬ (f_M_in x1.toInt64 0 1) = 0 → (vp_in x1 2) ∧ ((S.1 235 x1.toNatClampNeg) = 0 → Q f_M_no (g_M_no S)) ∧ (¬ (S.1 235 x1.toNatClampNeg) = 0 → am_Po vI (d + 1) k_M_from 31 [some (.ref 231), some (.int x1), some (.int 0)] [] S Q))) :
    am_Ps vI (d + 1) k_M_from [.ref 231, .int x1] S Q := ps_of (L := [some (.ref 231), some (.int x1), none]) rfl (Nat.le_of_ble_eq_true rfl) (Nat.le_of_ble_eq_true rfl) (p_M_from_0 W)
theorem p_M_from_31 {d : Nat} {x1 : Int32} {x2 : Int32} {S : fm_S} {Q : Int32 → fm_S → Prop}
    (W : (373 ≤ x2 → Q 1 S) ∧ (¬ 373 ≤ x2 → (vp_in ((373 * x1) + x2) 746) ∧ (vp_in x2 373) ∧ am_Po vI (d + 1) k_M_from 31 [some (.ref 231), some (.int x1), some (.int (x2 + 1))] [] (fm_wI S 232 x2.toNatClampNeg (S.1 234 (((373 * x1) + x2).toNatClampNeg))) Q)) :
    am_Po vI (d + 1) k_M_from 31 [some (.ref 231), some (.int x1), some (.int x2)] [] S Q := by
  by_cases q1 : 373 ≤ x2
  · have W := W.1 q1
    refine po_of (fun _ nx => b_M_from_31 (fun _ => nx) (fun z => absurd q1 z)) ?_
    exact ⟨_, _, b_M_from_62, W⟩
  · have W := W.2 q1
    refine po_of (fun _ nx => b_M_from_31 (fun z => absurd z q1) (fun _ => nx)) ?_
    obtain ⟨g2, W⟩ := W
    obtain ⟨g3, W⟩ := W
    refine po_of (fun _ nx => b_M_from_38 g2 g3 nx) ?_
    exact W
abbrev H_M_from_31 (d : Nat) (x1 : Int32) (x2 : Int32) (S : fm_S) (Q : Int32 → fm_S → Prop) : Prop := am_Po vI (d + 1) k_M_from 31 [some (.ref 231), some (.int x1), some (.int x2)] [] S Q
theorem p_M_digest_0 {d : Nat} {o1 : Option Value} {o2 : Option Value} {o3 : Option Value} {S : fm_S} {Q : Int64 → fm_S → Prop}
    (W : am_Po vL (d + 2) k_M_digest 6 [some (.ref 231), some (.long 1069), none, some (.int 0)] [] S Q) :
    am_Po vL (d + 2) k_M_digest 0 [some (.ref 231), o1, o2, o3] [] S Q := by
  refine po_of (fun _ nx => b_M_digest_0 nx) ?_
  exact W
theorem e_M_digest {d : Nat} {S : fm_S} {Q : Int64 → fm_S → Prop}
    (W : am_Po vL (d + 2) k_M_digest 6 [some (.ref 231), some (.long 1069), none, some (.int 0)] [] S Q) :
    am_Ps vL (d + 2) k_M_digest [.ref 231] S Q := ps_of (L := [some (.ref 231), none, none, none]) rfl (Nat.le_of_ble_eq_true rfl) (Nat.le_of_ble_eq_true rfl) (p_M_digest_0 W)
theorem p_M_digest_6 {d : Nat} {y1 : Int64} {x3 : Int32} {S : fm_S} {Q : Int64 → fm_S → Prop}
    (W : (7 ≤ x3 → am_Po vL (d + 2) k_M_digest 33 [some (.ref 231), some (.long y1), none, some (.int 0)] [] S Q) ∧ (¬ 7 ≤ x3 → (x3 = 3 → vp_in (S.1 232 0) 9) ∧ am_Po vL (d + 2) k_M_digest 6 [some (.ref 231), some (.long ((31 * y1) + (f_M_countOf S x3).toInt64)), none, some (.int (x3 + 1))] [] S Q)) :
    am_Po vL (d + 2) k_M_digest 6 [some (.ref 231), some (.long y1), none, some (.int x3)] [] S Q := by
  by_cases q1 : 7 ≤ x3
  · have W := W.1 q1
    refine po_of (fun _ nx => b_M_digest_6 (fun _ => nx) (fun z => absurd q1 z)) ?_
    refine po_of (fun _ nx => b_M_digest_31 nx) ?_
    exact W
  · have W := W.2 q1
    refine po_of (fun _ nx => b_M_digest_6 (fun z => absurd z q1) (fun _ => nx)) ?_
    obtain ⟨g2, W⟩ := W
    refine po_of (fun _ nx => b_M_digest_12 (s_M_countOf (x1 := x3) (S := S) g2) nx) ?_
    refine po_of (fun _ nx => b_M_digest_22 nx) ?_
    exact W
abbrev H_M_digest_6 (d : Nat) (y1 : Int64) (x3 : Int32) (S : fm_S) (Q : Int64 → fm_S → Prop) : Prop := am_Po vL (d + 2) k_M_digest 6 [some (.ref 231), some (.long y1), none, some (.int x3)] [] S Q
theorem p_M_digest_33 {d : Nat} {y1 : Int64} {x3 : Int32} {S : fm_S} {Q : Int64 → fm_S → Prop}
    (W : ((6 * (S.1 232 0)) ≤ x3 → am_Po vL (d + 2) k_M_digest 81 [some (.ref 231), some (.long y1), none, some (.int 0)] [] S Q) ∧ (¬ (6 * (S.1 232 0)) ≤ x3 → (vp_in ((5 + (8 * (x3 - x3 / 6 * 6))) + (x3 / 6)) 373) ∧ am_Po vL (d + 2) k_M_digest 33 [some (.ref 231), some (.long ((31 * y1) + ((S.1 232 (((5 + (8 * (x3 - x3 / 6 * 6))) + (x3 / 6)).toNatClampNeg)).toInt64))), none, some (.int (x3 + 1))] [] S Q)) :
    am_Po vL (d + 2) k_M_digest 33 [some (.ref 231), some (.long y1), none, some (.int x3)] [] S Q := by
  by_cases q1 : (6 * (S.1 232 0)) ≤ x3
  · have W := W.1 q1
    refine po_of (fun _ nx => b_M_digest_33 (fun _ => nx) (fun z => absurd q1 z)) ?_
    refine po_of (fun _ nx => b_M_digest_79 nx) ?_
    exact W
  · have W := W.2 q1
    refine po_of (fun _ nx => b_M_digest_33 (fun z => absurd z q1) (fun _ => nx)) ?_
    obtain ⟨g2, W⟩ := W
    refine po_of (fun _ nx => b_M_digest_46 g2 nx) ?_
    exact W
abbrev H_M_digest_33 (d : Nat) (y1 : Int64) (x3 : Int32) (S : fm_S) (Q : Int64 → fm_S → Prop) : Prop := am_Po vL (d + 2) k_M_digest 33 [some (.ref 231), some (.long y1), none, some (.int x3)] [] S Q
theorem p_M_digest_81 {d : Nat} {y1 : Int64} {x3 : Int32} {S : fm_S} {Q : Int64 → fm_S → Prop}
    (W : (64 ≤ x3 → am_Po vL (d + 2) k_M_digest 127 [some (.ref 231), some (.long y1), none, some (.int 0)] [] S Q) ∧ (¬ 64 ≤ x3 → (¬ (x3 - x3 / 8 * 8) ≤ (x3 / 8) → vp_in (53 + x3) 373) ∧ ∀ v4 : Int64, v4 = (if (x3 - x3 / 8 * 8) ≤ (x3 / 8) then y1 else (31 * y1) + ((S.1 232 ((53 + x3).toNatClampNeg)).toInt64)) → (am_Po vL (d + 2) k_M_digest 81 [some (.ref 231), some (.long v4), none, some (.int (x3 + 1))] [] S Q))) :
    am_Po vL (d + 2) k_M_digest 81 [some (.ref 231), some (.long y1), none, some (.int x3)] [] S Q := by
  by_cases q1 : 64 ≤ x3
  · have W := W.1 q1
    refine po_of (fun _ nx => b_M_digest_81 (fun _ => nx) (fun z => absurd q1 z)) ?_
    refine po_of (fun _ nx => b_M_digest_125 nx) ?_
    exact W
  · have W := W.2 q1
    refine po_of (fun _ nx => b_M_digest_81 (fun z => absurd z q1) (fun _ => nx)) ?_
    obtain ⟨g3, W⟩ := W
    have J : ∀ v4 : Int64, v4 = (if (x3 - x3 / 8 * 8) ≤ (x3 / 8) then y1 else (31 * y1) + ((S.1 232 ((53 + x3).toNatClampNeg)).toInt64)) → am_Po vL (d + 2) k_M_digest 118 [some (.ref 231), some (.long y1), none, some (.int x3)] [.long v4] S Q := by
      intro v4 v4_
      have W := W v4 v4_
      refine po_of (fun _ nx => b_M_digest_118 nx) ?_
      exact W
    by_cases q2 : (x3 - x3 / 8 * 8) ≤ (x3 / 8)
    · refine po_of (fun _ nx => b_M_digest_87 (fun _ => nx) (fun z => absurd q2 z)) ?_
      refine po_of (fun _ nx => b_M_digest_117 nx) ?_
      exact J _ (by simp only [if_pos q2])
    · refine po_of (fun _ nx => b_M_digest_87 (fun z => absurd z q2) (fun _ => nx)) ?_
      refine po_of (fun _ nx => b_M_digest_98 (g3 q2) nx) ?_
      exact J _ (by simp only [if_neg q2])
abbrev H_M_digest_81 (d : Nat) (y1 : Int64) (x3 : Int32) (S : fm_S) (Q : Int64 → fm_S → Prop) : Prop := am_Po vL (d + 2) k_M_digest 81 [some (.ref 231), some (.long y1), none, some (.int x3)] [] S Q
theorem p_M_digest_127 {d : Nat} {y1 : Int64} {x3 : Int32} {S : fm_S} {Q : Int64 → fm_S → Prop}
    (W : (8 ≤ x3 → am_Po vL (d + 2) k_M_digest 158 [some (.ref 231), some (.long y1), none, some (.int 0)] [] S Q) ∧ (¬ 8 ≤ x3 → (vp_in (117 + x3) 373) ∧ am_Po vL (d + 2) k_M_digest 127 [some (.ref 231), some (.long ((31 * y1) + ((S.1 232 ((117 + x3).toNatClampNeg)).toInt64))), none, some (.int (x3 + 1))] [] S Q)) :
    am_Po vL (d + 2) k_M_digest 127 [some (.ref 231), some (.long y1), none, some (.int x3)] [] S Q := by
  by_cases q1 : 8 ≤ x3
  · have W := W.1 q1
    refine po_of (fun _ nx => b_M_digest_127 (fun _ => nx) (fun z => absurd q1 z)) ?_
    refine po_of (fun _ nx => b_M_digest_156 nx) ?_
    exact W
  · have W := W.2 q1
    refine po_of (fun _ nx => b_M_digest_127 (fun z => absurd z q1) (fun _ => nx)) ?_
    obtain ⟨g2, W⟩ := W
    refine po_of (fun _ nx => b_M_digest_133 g2 nx) ?_
    exact W
abbrev H_M_digest_127 (d : Nat) (y1 : Int64) (x3 : Int32) (S : fm_S) (Q : Int64 → fm_S → Prop) : Prop := am_Po vL (d + 2) k_M_digest 127 [some (.ref 231), some (.long y1), none, some (.int x3)] [] S Q
theorem p_M_digest_158 {d : Nat} {y1 : Int64} {x3 : Int32} {S : fm_S} {Q : Int64 → fm_S → Prop}
    (W : ((3 * (S.1 232 1)) ≤ x3 → am_Po vL (d + 2) k_M_digest 204 [some (.ref 231), some (.long y1), none, some (.int 0)] [] S Q) ∧ (¬ (3 * (S.1 232 1)) ≤ x3 → (vp_in ((125 + (6 * (x3 - x3 / 3 * 3))) + (x3 / 3)) 373) ∧ am_Po vL (d + 2) k_M_digest 158 [some (.ref 231), some (.long ((31 * y1) + ((S.1 232 (((125 + (6 * (x3 - x3 / 3 * 3))) + (x3 / 3)).toNatClampNeg)).toInt64))), none, some (.int (x3 + 1))] [] S Q)) :
    am_Po vL (d + 2) k_M_digest 158 [some (.ref 231), some (.long y1), none, some (.int x3)] [] S Q := by
  by_cases q1 : (3 * (S.1 232 1)) ≤ x3
  · have W := W.1 q1
    refine po_of (fun _ nx => b_M_digest_158 (fun _ => nx) (fun z => absurd q1 z)) ?_
    refine po_of (fun _ nx => b_M_digest_202 nx) ?_
    exact W
  · have W := W.2 q1
    refine po_of (fun _ nx => b_M_digest_158 (fun z => absurd z q1) (fun _ => nx)) ?_
    obtain ⟨g2, W⟩ := W
    refine po_of (fun _ nx => b_M_digest_170 g2 nx) ?_
    exact W
abbrev H_M_digest_158 (d : Nat) (y1 : Int64) (x3 : Int32) (S : fm_S) (Q : Int64 → fm_S → Prop) : Prop := am_Po vL (d + 2) k_M_digest 158 [some (.ref 231), some (.long y1), none, some (.int x3)] [] S Q
theorem p_M_digest_204 {d : Nat} {y1 : Int64} {x3 : Int32} {S : fm_S} {Q : Int64 → fm_S → Prop}
    (W : ((5 * (S.1 232 2)) ≤ x3 → Q ((31 * ((31 * y1) + (S.2.1 231 6))) + (S.2.1 231 7)) S) ∧ (¬ (5 * (S.1 232 2)) ≤ x3 → (vp_in ((143 + (6 * (x3 - x3 / 5 * 5))) + (x3 / 5)) 373) ∧ am_Po vL (d + 2) k_M_digest 204 [some (.ref 231), some (.long ((31 * y1) + ((S.1 232 (((143 + (6 * (x3 - x3 / 5 * 5))) + (x3 / 5)).toNatClampNeg)).toInt64))), none, some (.int (x3 + 1))] [] S Q)) :
    am_Po vL (d + 2) k_M_digest 204 [some (.ref 231), some (.long y1), none, some (.int x3)] [] S Q := by
  by_cases q1 : (5 * (S.1 232 2)) ≤ x3
  · have W := W.1 q1
    refine po_of (fun _ nx => b_M_digest_204 (fun _ => nx) (fun z => absurd q1 z)) ?_
    exact ⟨_, _, b_M_digest_249, W⟩
  · have W := W.2 q1
    refine po_of (fun _ nx => b_M_digest_204 (fun z => absurd z q1) (fun _ => nx)) ?_
    obtain ⟨g2, W⟩ := W
    refine po_of (fun _ nx => b_M_digest_216 g2 nx) ?_
    exact W
abbrev H_M_digest_204 (d : Nat) (y1 : Int64) (x3 : Int32) (S : fm_S) (Q : Int64 → fm_S → Prop) : Prop := am_Po vL (d + 2) k_M_digest 204 [some (.ref 231), some (.long y1), none, some (.int x3)] [] S Q
