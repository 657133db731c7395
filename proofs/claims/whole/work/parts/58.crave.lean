/-! who craved what -/
/-- the notes at a+10 of the town a stand for A's -/
def RN (S : fm_S) (t : Nat) (A : Nat → Int32) (q : Nat) : Prop :=
  q ≤ 6 ∧ A 2 = nI q ∧ S.1 (t + 10) 0 = nI q ∧ (∀ k, k < q → S.1 (t + 11) k = A (143 + k)) ∧ (∀ k, k < q → S.1 (t + 12) k = A (149 + k)) ∧ (∀ k, k < q → S.1 (t + 13) k = A (155 + k)) ∧
  (∀ k, k < q → S.1 (t + 14) k = A (161 + k)) ∧ (∀ k, k < q → S.1 (t + 15) k = A (167 + k))
def nok (A : Nat → Int32) (s kd c : Int32) (i : Nat) : Bool := decide (A (143 + i) = s → ((¬ f_M_movedBy kd c (A (149 + i)) (A (155 + i)) (A (161 + i)) 0 < 10) ↔ A (167 + i) = 1))
def cvA (A : Nat → Int32) (q : Nat) (s kd : Int32) : Int32 := bt (fun c => pal (nok A s kd (nI c)) q) 6
theorem nok_m {b : Bool} {P R U : Prop} [Decidable P] [Decidable R] [Decidable U] : (if (if b = true then (1 : Int32) else 0) = 0 then (0 : Int32) else if P then if U then if (if R then (0 : Int32) else 1) = 1 then 1 else 0 else if (if R then (0 : Int32) else 1) = 0 then 1 else 0 else 1) = if (b && decide (P → ((¬ R) ↔ U))) = true then 1 else 0 := by
  cases b
  · rfl
  · by_cases h1 : P <;> by_cases h2 : R <;> by_cases h3 : U <;> simp [h1, h2, h3]
section CRAVE
variable {d n m y q : Nat} {S : fm_S} {A : Nat → Int32}
theorem s_mcrav {Q : Int32 → fm_S → Prop} {s kd : Int32} (hq : q ≤ 6) (h2 : S.1 232 2 = nI q) (W : Q (cvA (S.1 232) q s kd) S) :
    am_Ps vI (d + 1) k_M_cravings [.ref 231, .int s, .int kd] S Q := by
  refine e_M_cravings ?_
  have key : ∀ c, c ≤ 6 → ∀ o5 o6 o7, H_M_cravings_5 d s kd (bt (fun c => pal (nok (S.1 232) s kd (nI c)) q) c) (nI c) o5 o6 o7 S Q := by
    refine up_to (fun o5 o6 o7 => ?_) fun c hc ih o5 o6 o7 => ?_
    · refine p_M_cravings_5 ?_
      simp (disch := omega) only [lit_add, add_lit, lit_mul, mul_lit, nI_add, nI_clamp, nI_subI, nI_sub1, nI_divL, vp_T, ge_F, ge_T, geL_F, geL_T, leL_F, leL_T, le0_F, le0_T, ge0_T, row_self, row_ne, row_l, row_p, row_row, wI_row, wI_same, wI_cell, wI_place, wI_l, wI_p, lt_T, lt_F, ltL_T, ltL_F, gtL_T, gtL_F, lt0_F, eq_T, eq_F, eqL_T, eqL_F, eqM_F, leM_F, nat_mod, i_10, i_01, i_m1, eq_self_iff_true, rw8_lt, up1_ne, up1_eq, wi_T, ite_self, tg_1, tg_68, tg_124, tg_177, tg_11, tg_17, tg_59, tg_78, tg_84, ln_7, ln_16, ln_233, ln_232, ln_6, true_and, and_true, not_true_eq_false, not_false_eq_true, false_implies, true_implies, implies_true, forall_const, forall_eq, if_true, if_false, false_and, and_false]
      exact W
    · refine p_M_cravings_5 ?_
      simp (disch := omega) only [lit_add, add_lit, lit_mul, mul_lit, nI_add, nI_clamp, nI_subI, nI_sub1, nI_divL, vp_T, ge_F, ge_T, geL_F, geL_T, leL_F, leL_T, le0_F, le0_T, ge0_T, row_self, row_ne, row_l, row_p, row_row, wI_row, wI_same, wI_cell, wI_place, wI_l, wI_p, lt_T, lt_F, ltL_T, ltL_F, gtL_T, gtL_F, lt0_F, eq_T, eq_F, eqL_T, eqL_F, eqM_F, leM_F, nat_mod, i_10, i_01, i_m1, eq_self_iff_true, rw8_lt, up1_ne, up1_eq, wi_T, ite_self, tg_1, tg_68, tg_124, tg_177, tg_11, tg_17, tg_59, tg_78, tg_84, ln_7, ln_16, ln_233, ln_232, ln_6, true_and, and_true, not_true_eq_false, not_false_eq_true, false_implies, true_implies, implies_true, forall_const, forall_eq, if_true, if_false, false_and, and_false]
      have loop : ∀ i, i ≤ q → ∀ o7, H_M_cravings_20 d s kd (bt (fun c => pal (nok (S.1 232) s kd (nI c)) q) c) (nI c) (if pal (nok (S.1 232) s kd (nI c)) i = true then 1 else 0) (nI (143 + i)) o7 S Q := by
        refine up_to (fun o7 => ?_) fun i hi ih2 o7 => ?_
        · rw [bt] at ih
          refine p_M_cravings_20 ?_
          simp (disch := omega) only [lit_add, add_lit, lit_mul, mul_lit, nI_add, nI_clamp, nI_subI, nI_sub1, nI_divL, vp_T, ge_F, ge_T, geL_F, geL_T, leL_F, leL_T, le0_F, le0_T, ge0_T, row_self, row_ne, row_l, row_p, row_row, wI_row, wI_same, wI_cell, wI_place, wI_l, wI_p, lt_T, lt_F, ltL_T, ltL_F, gtL_T, gtL_F, lt0_F, eq_T, eq_F, eqL_T, eqL_F, eqM_F, leM_F, nat_mod, i_10, i_01, i_m1, eq_self_iff_true, rw8_lt, up1_ne, up1_eq, wi_T, ite_self, tg_1, tg_68, tg_124, tg_177, tg_11, tg_17, tg_59, tg_78, tg_84, ln_7, ln_16, ln_233, ln_232, ln_6, true_and, and_true, not_true_eq_false, not_false_eq_true, false_implies, true_implies, implies_true, forall_const, forall_eq, if_true, if_false, false_and, and_false, h2]
          rw [fl_2, or_if]
          exact ih _ _ _
        · rw [pal] at ih2
          generalize pal (nok (S.1 232) s kd (nI c)) i = b at ih2 ⊢
          refine p_M_cravings_20 ?_
          simp (disch := omega) only [lit_add, add_lit, lit_mul, mul_lit, nI_add, nI_clamp, nI_subI, nI_sub1, nI_divL, vp_T, ge_F, ge_T, geL_F, geL_T, leL_F, leL_T, le0_F, le0_T, ge0_T, row_self, row_ne, row_l, row_p, row_row, wI_row, wI_same, wI_cell, wI_place, wI_l, wI_p, lt_T, lt_F, ltL_T, ltL_F, gtL_T, gtL_F, lt0_F, eq_T, eq_F, eqL_T, eqL_F, eqM_F, leM_F, nat_mod, i_10, i_01, i_m1, eq_self_iff_true, rw8_lt, up1_ne, up1_eq, wi_T, ite_self, tg_1, tg_68, tg_124, tg_177, tg_11, tg_17, tg_59, tg_78, tg_84, ln_7, ln_16, ln_233, ln_232, ln_6, true_and, and_true, not_true_eq_false, not_false_eq_true, false_implies, true_implies, implies_true, forall_const, forall_eq, if_true, if_false, false_and, and_false, h2]
          rw [show 143 + i + 6 = 149 + i by omega, show 143 + i + 12 = 155 + i by omega, show 143 + i + 18 = 161 + i by omega, show 143 + i + 24 = 167 + i by omega, nok_m]
          exact ih2 _
      exact loop 0 (Nat.zero_le _) _
  exact key 0 (Nat.zero_le _) _ _ _
theorem s_xcrav {Q : Int32 → fm_S → Prop} {s kd : Int32} (hR : RN S 1 A q) (hk : iN kd 5) (W : Q (cvA A q s kd) S) :
    am_Ps vI (d + 3) k_Notes_cravings [.ref 11, .int s, .int kd] S Q := by
  obtain ⟨hq, h2, n0, n1, n2, n3, n4, n5⟩ := hR
  have n0 : S.1 11 0 = nI q := n0
  have n1 : ∀ k, k < q → S.1 12 k = A (143 + k) := n1
  have n2 : ∀ k, k < q → S.1 13 k = A (149 + k) := n2
  have n3 : ∀ k, k < q → S.1 14 k = A (155 + k) := n3
  have n4 : ∀ k, k < q → S.1 15 k = A (161 + k) := n4
  have n5 : ∀ k, k < q → S.1 16 k = A (167 + k) := n5
  refine e_Notes_cravings ?_
  have key : ∀ c, c ≤ 6 → H_Notes_cravings_5 d 11 s kd (bt (fun c => pal (nok A s kd (nI c)) q) c) (nI c) S Q := by
    refine up_to ?_ fun c hc ih => ?_
    · refine p_Notes_cravings_5 ?_
      simp (disch := omega) only [lit_add, add_lit, lit_mul, mul_lit, nI_add, nI_clamp, nI_subI, nI_sub1, nI_divL, vp_T, ge_F, ge_T, geL_F, geL_T, leL_F, leL_T, le0_F, le0_T, ge0_T, row_self, row_ne, row_l, row_p, row_row, wI_row, wI_same, wI_cell, wI_place, wI_l, wI_p, lt_T, lt_F, ltL_T, ltL_F, gtL_T, gtL_F, lt0_F, eq_T, eq_F, eqL_T, eqL_F, eqM_F, leM_F, nat_mod, i_10, i_01, i_m1, eq_self_iff_true, rw8_lt, up1_ne, up1_eq, wi_T, ite_self, tg_1, tg_68, tg_124, tg_177, tg_11, tg_17, tg_59, tg_78, tg_84, ln_7, ln_16, ln_233, ln_232, ln_6, true_and, and_true, not_true_eq_false, not_false_eq_true, false_implies, true_implies, implies_true, forall_const, forall_eq, if_true, if_false, false_and, and_false]
      exact W
    · refine p_Notes_cravings_5 ?_
      simp (disch := omega) only [lit_add, add_lit, lit_mul, mul_lit, nI_add, nI_clamp, nI_subI, nI_sub1, nI_divL, vp_T, ge_F, ge_T, geL_F, geL_T, leL_F, leL_T, le0_F, le0_T, ge0_T, row_self, row_ne, row_l, row_p, row_row, wI_row, wI_same, wI_cell, wI_place, wI_l, wI_p, lt_T, lt_F, ltL_T, ltL_F, gtL_T, gtL_F, lt0_F, eq_T, eq_F, eqL_T, eqL_F, eqM_F, leM_F, nat_mod, i_10, i_01, i_m1, eq_self_iff_true, rw8_lt, up1_ne, up1_eq, wi_T, ite_self, tg_1, tg_68, tg_124, tg_177, tg_11, tg_17, tg_59, tg_78, tg_84, ln_7, ln_16, ln_233, ln_232, ln_6, true_and, and_true, not_true_eq_false, not_false_eq_true, false_implies, true_implies, implies_true, forall_const, forall_eq, if_true, if_false, false_and, and_false]
      refine e_Notes_allSo ?_
      rw [bt] at ih
      have loop : ∀ i, i ≤ q → pal (nok A s kd (nI c)) i = true → ∀ o5, H_Notes_allSo_3 d 11 s kd (nI c) (nI i) o5 S (fun v4 S3 => am_Po vI (d + 3) k_Notes_cravings 5 [some (.ref 11), some (.int s), some (.int kd), some (.int (if v4 = 0 then bt (fun c => pal (nok A s kd (nI c)) q) c else bt (fun c => pal (nok A s kd (nI c)) q) c ||| 1 <<< (nI c &&& 31))), some (.int (nI (c + 1)))] [] S3 Q) := by
        refine up_to (fun hp o5 => ?_) fun i hi ih2 hp o5 => ?_
        · refine p_Notes_allSo_3 ?_
          simp (disch := omega) only [lit_add, add_lit, lit_mul, mul_lit, nI_add, nI_clamp, nI_subI, nI_sub1, nI_divL, vp_T, ge_F, ge_T, geL_F, geL_T, leL_F, leL_T, le0_F, le0_T, ge0_T, row_self, row_ne, row_l, row_p, row_row, wI_row, wI_same, wI_cell, wI_place, wI_l, wI_p, lt_T, lt_F, ltL_T, ltL_F, gtL_T, gtL_F, lt0_F, eq_T, eq_F, eqL_T, eqL_F, eqM_F, leM_F, nat_mod, i_10, i_01, i_m1, eq_self_iff_true, rw8_lt, up1_ne, up1_eq, wi_T, ite_self, tg_1, tg_68, tg_124, tg_177, tg_11, tg_17, tg_59, tg_78, tg_84, ln_7, ln_16, ln_233, ln_232, ln_6, true_and, and_true, not_true_eq_false, not_false_eq_true, false_implies, true_implies, implies_true, forall_const, forall_eq, if_true, if_false, false_and, and_false, n0]
          rw [if_pos hp] at ih
          exact ih
        · have bad : nok A s kd (nI c) i = false → am_Po vI (d + 3) k_Notes_cravings 5 [some (.ref 11), some (.int s), some (.int kd), some (.int (bt (fun c => pal (nok A s kd (nI c)) q) c)), some (.int (nI (c + 1)))] [] S Q := fun hb => by
            rw [if_neg (fun z => by rw [pal_iff.mp z i hi] at hb; cases hb)] at ih
            exact ih
          have go : nok A s kd (nI c) i = true → ∀ o5, H_Notes_allSo_3 d 11 s kd (nI c) (nI (i + 1)) o5 S _ := fun hb o5 => ih2 (by rw [pal, hp, hb]; rfl) o5
          unfold nok at bad go
          refine p_Notes_allSo_3 ?_
          simp (disch := omega) only [lit_add, add_lit, lit_mul, mul_lit, nI_add, nI_clamp, nI_subI, nI_sub1, nI_divL, vp_T, ge_F, ge_T, geL_F, geL_T, leL_F, leL_T, le0_F, le0_T, ge0_T, row_self, row_ne, row_l, row_p, row_row, wI_row, wI_same, wI_cell, wI_place, wI_l, wI_p, lt_T, lt_F, ltL_T, ltL_F, gtL_T, gtL_F, lt0_F, eq_T, eq_F, eqL_T, eqL_F, eqM_F, leM_F, nat_mod, i_10, i_01, i_m1, eq_self_iff_true, rw8_lt, up1_ne, up1_eq, wi_T, ite_self, tg_1, tg_68, tg_124, tg_177, tg_11, tg_17, tg_59, tg_78, tg_84, ln_7, ln_16, ln_233, ln_232, ln_6, true_and, and_true, not_true_eq_false, not_false_eq_true, false_implies, true_implies, implies_true, forall_const, forall_eq, if_true, if_false, false_and, and_false, n0, n1, n2, n3, n4, n5]
          unfold f_Nose_opensAlone
          rw [np_eq hk]
          by_cases e1 : A (143 + i) = s
          · by_cases e2 : f_M_movedBy kd (nI c) (A (149 + i)) (A (155 + i)) (A (161 + i)) 0 < 10 <;> by_cases e3 : A (167 + i) = 1
            all_goals simp only [e1, e2, e3, true_implies, not_true_eq_false, false_implies, not_false_eq_true, and_true, true_and, if_true, if_false, iff_true, iff_false, true_iff, false_iff, decide_true, decide_false, Bool.true_eq_false, Bool.false_eq_true] at bad go ⊢
            all_goals try simp only [i_10, i_01, eq_self_iff_true, true_implies, not_true_eq_false, false_implies, not_false_eq_true, and_true, true_and]
            all_goals first | exact go _ | exact bad
          · simp only [e1, false_implies, decide_true, true_implies, not_false_eq_true, true_and] at go ⊢
            exact go _
      exact loop 0 (Nat.zero_le _) rfl _
  exact key 0 (Nat.zero_le _)
def isA (A : Nat → Int32) (q : Nat) (s : Int32) : Int32 := bt (fun k => decide (¬ cvA A q s (nI k) = 0)) 6
theorem bt_s {P : Nat → Prop} [∀ k, Decidable (P k)] {k : Nat} : bt (fun k => decide (¬ P k)) (k + 1) = if P k then bt (fun k => decide (¬ P k)) k else bt (fun k => decide (¬ P k)) k ||| (1 <<< (nI k &&& 31)) := by
  rw [bt]
  by_cases h : P k <;> simp [h]
theorem s_mis {Q : Int32 → fm_S → Prop} {s : Int32} (hq : q ≤ 6) (h2 : S.1 232 2 = nI q) (W : Q (isA (S.1 232) q s) S) :
    H_M_is_17 d s 0 0 S Q := by
  have key : ∀ k, k ≤ 6 → H_M_is_17 d s (bt (fun k => decide (¬ cvA (S.1 232) q s (nI k) = 0)) k) (nI k) S Q := by
    refine up_to ?_ fun k hk ih => ?_
    · refine p_M_is_17 ?_
      simp (disch := omega) only [lit_add, add_lit, lit_mul, mul_lit, nI_add, nI_clamp, nI_subI, nI_sub1, nI_divL, vp_T, ge_F, ge_T, geL_F, geL_T, leL_F, leL_T, le0_F, le0_T, ge0_T, row_self, row_ne, row_l, row_p, row_row, wI_row, wI_same, wI_cell, wI_place, wI_l, wI_p, lt_T, lt_F, ltL_T, ltL_F, gtL_T, gtL_F, lt0_F, eq_T, eq_F, eqL_T, eqL_F, eqM_F, leM_F, nat_mod, i_10, i_01, i_m1, eq_self_iff_true, rw8_lt, up1_ne, up1_eq, wi_T, ite_self, tg_1, tg_68, tg_124, tg_177, tg_11, tg_17, tg_59, tg_78, tg_84, ln_7, ln_16, ln_233, ln_232, ln_6, true_and, and_true, not_true_eq_false, not_false_eq_true, false_implies, true_implies, implies_true, forall_const, forall_eq, if_true, if_false, false_and, and_false]
      exact W
    · rw [bt_s] at ih
      refine p_M_is_17 ?_
      simp (disch := omega) only [lit_add, add_lit, lit_mul, mul_lit, nI_add, nI_clamp, nI_subI, nI_sub1, nI_divL, vp_T, ge_F, ge_T, geL_F, geL_T, leL_F, leL_T, le0_F, le0_T, ge0_T, row_self, row_ne, row_l, row_p, row_row, wI_row, wI_same, wI_cell, wI_place, wI_l, wI_p, lt_T, lt_F, ltL_T, ltL_F, gtL_T, gtL_F, lt0_F, eq_T, eq_F, eqL_T, eqL_F, eqM_F, leM_F, nat_mod, i_10, i_01, i_m1, eq_self_iff_true, rw8_lt, up1_ne, up1_eq, wi_T, ite_self, tg_1, tg_68, tg_124, tg_177, tg_11, tg_17, tg_59, tg_78, tg_84, ln_7, ln_16, ln_233, ln_232, ln_6, true_and, and_true, not_true_eq_false, not_false_eq_true, false_implies, true_implies, implies_true, forall_const, forall_eq, if_true, if_false, false_and, and_false]
      refine s_mcrav hq h2 ?_
      rw [or_if0]
      exact ih
  exact key 0 (Nat.zero_le _)
theorem s_xis {Q : Int32 → fm_S → Prop} {s : Int32} (hR : RN S 1 A q) (W : Q (isA A q s) S) :
    H_X_is_17 d s 0 0 S Q := by
  have key : ∀ k, k ≤ 6 → H_X_is_17 d s (bt (fun k => decide (¬ cvA A q s (nI k) = 0)) k) (nI k) S Q := by
    refine up_to ?_ fun k hk ih => ?_
    · refine p_X_is_17 ?_
      simp (disch := omega) only [lit_add, add_lit, lit_mul, mul_lit, nI_add, nI_clamp, nI_subI, nI_sub1, nI_divL, vp_T, ge_F, ge_T, geL_F, geL_T, leL_F, leL_T, le0_F, le0_T, ge0_T, row_self, row_ne, row_l, row_p, row_row, wI_row, wI_same, wI_cell, wI_place, wI_l, wI_p, lt_T, lt_F, ltL_T, ltL_F, gtL_T, gtL_F, lt0_F, eq_T, eq_F, eqL_T, eqL_F, eqM_F, leM_F, nat_mod, i_10, i_01, i_m1, eq_self_iff_true, rw8_lt, up1_ne, up1_eq, wi_T, ite_self, tg_1, tg_68, tg_124, tg_177, tg_11, tg_17, tg_59, tg_78, tg_84, ln_7, ln_16, ln_233, ln_232, ln_6, true_and, and_true, not_true_eq_false, not_false_eq_true, false_implies, true_implies, implies_true, forall_const, forall_eq, if_true, if_false, false_and, and_false]
      exact W
    · rw [bt_s] at ih
      refine p_X_is_17 ?_
      simp (disch := omega) only [lit_add, add_lit, lit_mul, mul_lit, nI_add, nI_clamp, nI_subI, nI_sub1, nI_divL, vp_T, ge_F, ge_T, geL_F, geL_T, leL_F, leL_T, le0_F, le0_T, ge0_T, row_self, row_ne, row_l, row_p, row_row, wI_row, wI_same, wI_cell, wI_place, wI_l, wI_p, lt_T, lt_F, ltL_T, ltL_F, gtL_T, gtL_F, lt0_F, eq_T, eq_F, eqL_T, eqL_F, eqM_F, leM_F, nat_mod, i_10, i_01, i_m1, eq_self_iff_true, rw8_lt, up1_ne, up1_eq, wi_T, ite_self, tg_1, tg_68, tg_124, tg_177, tg_11, tg_17, tg_59, tg_78, tg_84, ln_7, ln_16, ln_233, ln_232, ln_6, true_and, and_true, not_true_eq_false, not_false_eq_true, false_implies, true_implies, implies_true, forall_const, forall_eq, if_true, if_false, false_and, and_false]
      refine s_xcrav hR (iN_of rfl (by omega) (by omega)) ?_
      exact ih
  exact key 0 (Nat.zero_le _)
/-- the trial -/
def opN (may kd s so dy : Int32) : Nat → Int32
  | 0 => 0
  | i + 1 => if f_X_has may (nI i) = 0 then opN may kd s so dy i else if f_M_movedBy kd (nI i) s so dy 0 < 10 then opN may kd s so dy i else opN may kd s so dy i + 1
def tnG (may kd so dy : Int32) (s : Nat) : Int32 := if opN may kd (nI s) so dy 6 ≤ n_bits may 8 - opN may kd (nI s) so dy 6 then n_bits may 8 - opN may kd (nI s) so dy 6 else opN may kd (nI s) so dy 6
def tnP (may kd so dy : Int32) : Nat → Int32 × Int32
  | 0 => (-1, 7)
  | s + 1 => if (tnP may kd so dy s).2 ≤ tnG may kd so dy s then tnP may kd so dy s else (nI s, tnG may kd so dy s)
theorem fst_ifn {P : Prop} [Decidable P] {a b : Int32} {r : Int32 × Int32} : (if P then r else (a, b)).1 = if P then r.1 else a := by split <;> rfl
theorem snd_ifn {P : Prop} [Decidable P] {a b : Int32} {r : Int32 × Int32} : (if P then r else (a, b)).2 = if P then r.2 else b := by split <;> rfl
theorem opN_n {may kd s so dy : Int32} : ∀ i, ∃ o, o ≤ i ∧ opN may kd s so dy i = nI o
  | 0 => ⟨0, Nat.le_refl _, rfl⟩
  | i + 1 => by
    obtain ⟨o, h1, h2⟩ := opN_n (may := may) (kd := kd) (s := s) (so := so) (dy := dy) i
    rw [opN]
    split
    · exact ⟨o, by omega, h2⟩
    · split
      · exact ⟨o, by omega, h2⟩
      · exact ⟨o + 1, by omega, by rw [h2, nI_s]⟩
theorem bits_6 : ∀ k, k < 64 → (n_bits (nI k) 8).toNatClampNeg ≤ 6 ∧ n_bits (nI k) 8 = nI (n_bits (nI k) 8).toNatClampNeg := by decide +kernel
theorem tnG_lt {p : Nat → Bool} {kd so dy : Int32} {s : Nat} : (7 ≤ tnG (bt p 6) kd so dy s) = False ∧ (9 ≤ tnG (bt p 6) kd so dy s) = False := by
  obtain ⟨o, h1, h2⟩ := opN_n (may := bt p 6) (kd := kd) (s := nI s) (so := so) (dy := dy) 6
  have hb : ∃ b, b ≤ 6 ∧ n_bits (bt p 6) 8 = nI b := by
    rw [bt_bn (by omega)]
    have := bits_6 (bn p 6) (bn_lt 6)
    exact ⟨_, this.1, this.2⟩
  obtain ⟨b, h3, h4⟩ := hb
  unfold tnG
  rw [h2, h4]
  have k7 : (7 : Int32).toInt = 7 := by decide
  have k9 : (9 : Int32).toInt = 9 := by decide
  have ks := pk_sub_toInt (a := b) (b := o) (by omega) (by omega)
  have ko := nI_toInt (n := o) (by omega)
  constructor
  · refine eq_false fun z => ?_
    rw [Int32.le_iff_toInt_le, k7] at z
    split at z
    · rw [ks] at z; omega
    · rw [ko] at z; omega
  · refine eq_false fun z => ?_
    rw [Int32.le_iff_toInt_le, k9] at z
    split at z
    · rw [ks] at z; omega
    · rw [ko] at z; omega
theorem add_if2 {P R : Prop} [Decidable P] [Decidable R] {x : Int32} : (x + if P then 0 else if R then 0 else 1) = if P then x else if R then x else x + 1 := by
  by_cases h : P
  · simp [h]
  · by_cases h2 : R <;> simp [h, h2]
theorem s_mtry {Q : Int32 → fm_S → Prop} {x : Nat} {p : Nat → Bool} {so dy : Int32} (hx : x < 8) (W : Q (if bt p 6 = 0 then -1 else (tnP (bt p 6) (S.1 232 (5 + x)) so dy 6).1) S) :
    H_M_tryNext_62 d (nI x) so dy (bt p 6) (-1) 9 0 none none none S Q := by
  by_cases h0 : bt p 6 = 0
  · refine p_M_tryNext_62 ?_
    simp (disch := omega) only [lit_add, add_lit, lit_mul, mul_lit, nI_add, nI_clamp, nI_subI, nI_sub1, nI_divL, vp_T, ge_F, ge_T, geL_F, geL_T, leL_F, leL_T, le0_F, le0_T, ge0_T, row_self, row_ne, row_l, row_p, row_row, wI_row, wI_same, wI_cell, wI_place, wI_l, wI_p, lt_T, lt_F, ltL_T, ltL_F, gtL_T, gtL_F, lt0_F, eq_T, eq_F, eqL_T, eqL_F, eqM_F, leM_F, nat_mod, i_10, i_01, i_m1, eq_self_iff_true, rw8_lt, up1_ne, up1_eq, wi_T, ite_self, tg_1, tg_68, tg_124, tg_177, tg_11, tg_17, tg_59, tg_78, tg_84, ln_7, ln_16, ln_233, ln_232, ln_6, true_and, and_true, not_true_eq_false, not_false_eq_true, false_implies, true_implies, implies_true, forall_const, forall_eq, if_true, if_false, false_and, and_false, h0]
    rw [if_pos h0] at W
    exact ⟨fun z => absurd z (by decide), fun _ => W⟩
  · rw [if_neg h0] at W
    have key : ∀ s, s ≤ 6 → ∀ o8 o9 o10, H_M_tryNext_62 d (nI x) so dy (bt p 6) (tnP (bt p 6) (S.1 232 (5 + x)) so dy s).1 (if s = 0 then 9 else (tnP (bt p 6) (S.1 232 (5 + x)) so dy s).2) (nI s) o8 o9 o10 S Q := by
      refine up_to (fun o8 o9 o10 => ?_) fun s hs ih o8 o9 o10 => ?_
      · refine p_M_tryNext_62 ?_
        simp (disch := omega) only [lit_add, add_lit, lit_mul, mul_lit, nI_add, nI_clamp, nI_subI, nI_sub1, nI_divL, vp_T, ge_F, ge_T, geL_F, geL_T, leL_F, leL_T, le0_F, le0_T, ge0_T, row_self, row_ne, row_l, row_p, row_row, wI_row, wI_same, wI_cell, wI_place, wI_l, wI_p, lt_T, lt_F, ltL_T, ltL_F, gtL_T, gtL_F, lt0_F, eq_T, eq_F, eqL_T, eqL_F, eqM_F, leM_F, nat_mod, i_10, i_01, i_m1, eq_self_iff_true, rw8_lt, up1_ne, up1_eq, wi_T, ite_self, tg_1, tg_68, tg_124, tg_177, tg_11, tg_17, tg_59, tg_78, tg_84, ln_7, ln_16, ln_233, ln_232, ln_6, true_and, and_true, not_true_eq_false, not_false_eq_true, false_implies, true_implies, implies_true, forall_const, forall_eq, if_true, if_false, false_and, and_false]
        exact W
      · refine p_M_tryNext_62 ?_
        simp (disch := omega) only [lit_add, add_lit, lit_mul, mul_lit, nI_add, nI_clamp, nI_subI, nI_sub1, nI_divL, vp_T, ge_F, ge_T, geL_F, geL_T, leL_F, leL_T, le0_F, le0_T, ge0_T, row_self, row_ne, row_l, row_p, row_row, wI_row, wI_same, wI_cell, wI_place, wI_l, wI_p, lt_T, lt_F, ltL_T, ltL_F, gtL_T, gtL_F, lt0_F, eq_T, eq_F, eqL_T, eqL_F, eqM_F, leM_F, nat_mod, i_10, i_01, i_m1, eq_self_iff_true, rw8_lt, up1_ne, up1_eq, wi_T, ite_self, tg_1, tg_68, tg_124, tg_177, tg_11, tg_17, tg_59, tg_78, tg_84, ln_7, ln_16, ln_233, ln_232, ln_6, true_and, and_true, not_true_eq_false, not_false_eq_true, false_implies, true_implies, implies_true, forall_const, forall_eq, if_true, if_false, false_and, and_false, h0]
        have loop : ∀ c, c ≤ 6 → ∀ o10, H_M_tryNext_80 d (nI x) so dy (bt p 6) (tnP (bt p 6) (S.1 232 (5 + x)) so dy s).1 (if s = 0 then 9 else (tnP (bt p 6) (S.1 232 (5 + x)) so dy s).2) (nI s) (opN (bt p 6) (S.1 232 (5 + x)) (nI s) so dy c) (nI c) o10 S Q := by
          refine up_to (fun o10 => ?_) fun c hc ih2 o10 => ?_
          · refine p_M_tryNext_80 ?_
            simp (disch := omega) only [lit_add, add_lit, lit_mul, mul_lit, nI_add, nI_clamp, nI_subI, nI_sub1, nI_divL, vp_T, ge_F, ge_T, geL_F, geL_T, leL_F, leL_T, le0_F, le0_T, ge0_T, row_self, row_ne, row_l, row_p, row_row, wI_row, wI_same, wI_cell, wI_place, wI_l, wI_p, lt_T, lt_F, ltL_T, ltL_F, gtL_T, gtL_F, lt0_F, eq_T, eq_F, eqL_T, eqL_F, eqM_F, leM_F, nat_mod, i_10, i_01, i_m1, eq_self_iff_true, rw8_lt, up1_ne, up1_eq, wi_T, ite_self, tg_1, tg_68, tg_124, tg_177, tg_11, tg_17, tg_59, tg_78, tg_84, ln_7, ln_16, ln_233, ln_232, ln_6, true_and, and_true, not_true_eq_false, not_false_eq_true, false_implies, true_implies, implies_true, forall_const, forall_eq, if_true, if_false, false_and, and_false]
            rw [if_neg (by omega), tnP, fst_ifn, snd_ifn] at ih
            have hg : (if opN (bt p 6) (S.1 232 (5 + x)) (nI s) so dy 6 ≤ n_bits (bt p 6) 8 - opN (bt p 6) (S.1 232 (5 + x)) (nI s) so dy 6 then n_bits (bt p 6) 8 - opN (bt p 6) (S.1 232 (5 + x)) (nI s) so dy 6 else opN (bt p 6) (S.1 232 (5 + x)) (nI s) so dy 6) = tnG (bt p 6) (S.1 232 (5 + x)) so dy s := rfl
            rw [hg]
            rcases s with _ | s
            · have z := tnG_lt (p := p) (kd := S.1 232 (5 + x)) (so := so) (dy := dy) (s := 0)
              simp only [tnP, z.1, z.2, if_true, if_false] at ih ⊢
              exact ih _ _ _
            · simp only [Nat.add_one_ne_zero, if_false]
              exact ih _ _ _
          · rw [opN] at ih2
            refine p_M_tryNext_80 ?_
            simp (disch := omega) only [lit_add, add_lit, lit_mul, mul_lit, nI_add, nI_clamp, nI_subI, nI_sub1, nI_divL, vp_T, ge_F, ge_T, geL_F, geL_T, leL_F, leL_T, le0_F, le0_T, ge0_T, row_self, row_ne, row_l, row_p, row_row, wI_row, wI_same, wI_cell, wI_place, wI_l, wI_p, lt_T, lt_F, ltL_T, ltL_F, gtL_T, gtL_F, lt0_F, eq_T, eq_F, eqL_T, eqL_F, eqM_F, leM_F, nat_mod, i_10, i_01, i_m1, eq_self_iff_true, rw8_lt, up1_ne, up1_eq, wi_T, ite_self, tg_1, tg_68, tg_124, tg_177, tg_11, tg_17, tg_59, tg_78, tg_84, ln_7, ln_16, ln_233, ln_232, ln_6, true_and, and_true, not_true_eq_false, not_false_eq_true, false_implies, true_implies, implies_true, forall_const, forall_eq, if_true, if_false, false_and, and_false, mx_has, add_if2]
            exact ih2 _
        exact loop 0 (Nat.zero_le _) _
    exact key 0 (Nat.zero_le _) _ _ _
theorem opX {T : fm_S} {may kd s so dy : Int32} (hk : iN kd 5) : ∀ i, i ≤ 6 → n_Notes_openers T may kd s so dy i = opN may kd s so dy i
  | 0, _ => rfl
  | i + 1, hi => by
    rw [n_Notes_openers, opN, opX hk i (by omega)]
    unfold f_Nose_opensAlone
    rw [np_eq hk]
    by_cases h : f_M_movedBy kd (nI i) s so dy 0 < 10
    · simp [h]
    · simp [h]
theorem max_le (a b : Int32) : f_Math_max a b = if a ≤ b then b else a := by
  unfold f_Math_max
  by_cases h : a < b
  · rw [if_pos h, if_pos (Int32.le_of_lt h)]
  · rw [if_neg h]
    split
    · rename_i q
      exact Int32.le_antisymm q (Int32.not_lt.mp h)
    · rfl
theorem s_xtry {Q : Int32 → fm_S → Prop} {s so dy kd : Int32} (hR : RN S 1 A q) (hk : iN kd 5) (W : Q (if cvA A q s kd = 0 then -1 else (tnP (cvA A q s kd) kd so dy 6).1) S) :
    am_Ps vI (d + 4) k_Notes_bestTrial [.ref 11, .int s, .int kd, .int so, .int dy] S Q := by
  refine e_Notes_bestTrial ⟨by decide +kernel, ?_⟩
  refine s_xcrav hR hk ⟨fun h0 => ?_, fun h0 => ?_⟩
  · rw [if_pos h0] at W
    exact W
  · rw [if_neg h0] at W
    have hbc : f_Int_bitCount (cvA A q s kd) = n_bits (cvA A q s kd) 8 := bt_count (by decide)
    have key : ∀ i, i ≤ 6 → ∀ o9 o10, H_Notes_bestTrial_25 d 11 s kd so dy (cvA A q s kd) (tnP (cvA A q s kd) kd so dy i).1 (tnP (cvA A q s kd) kd so dy i).2 (nI i) o9 o10 S Q := by
      refine up_to (fun o9 o10 => ?_) fun i hi ih o9 o10 => ?_
      · refine p_Notes_bestTrial_25 ?_
        simp (disch := omega) only [lit_add, add_lit, lit_mul, mul_lit, nI_add, nI_clamp, nI_subI, nI_sub1, nI_divL, vp_T, ge_F, ge_T, geL_F, geL_T, leL_F, leL_T, le0_F, le0_T, ge0_T, row_self, row_ne, row_l, row_p, row_row, wI_row, wI_same, wI_cell, wI_place, wI_l, wI_p, lt_T, lt_F, ltL_T, ltL_F, gtL_T, gtL_F, lt0_F, eq_T, eq_F, eqL_T, eqL_F, eqM_F, leM_F, nat_mod, i_10, i_01, i_m1, eq_self_iff_true, rw8_lt, up1_ne, up1_eq, wi_T, ite_self, tg_1, tg_68, tg_124, tg_177, tg_11, tg_17, tg_59, tg_78, tg_84, ln_7, ln_16, ln_233, ln_232, ln_6, true_and, and_true, not_true_eq_false, not_false_eq_true, false_implies, true_implies, implies_true, forall_const, forall_eq, if_true, if_false, false_and, and_false]
        exact W
      · rw [tnP, fst_ifn, snd_ifn] at ih
        refine p_Notes_bestTrial_25 ?_
        simp (disch := omega) only [lit_add, add_lit, lit_mul, mul_lit, nI_add, nI_clamp, nI_subI, nI_sub1, nI_divL, vp_T, ge_F, ge_T, geL_F, geL_T, leL_F, leL_T, le0_F, le0_T, ge0_T, row_self, row_ne, row_l, row_p, row_row, wI_row, wI_same, wI_cell, wI_place, wI_l, wI_p, lt_T, lt_F, ltL_T, ltL_F, gtL_T, gtL_F, lt0_F, eq_T, eq_F, eqL_T, eqL_F, eqM_F, leM_F, nat_mod, i_10, i_01, i_m1, eq_self_iff_true, rw8_lt, up1_ne, up1_eq, wi_T, ite_self, tg_1, tg_68, tg_124, tg_177, tg_11, tg_17, tg_59, tg_78, tg_84, ln_7, ln_16, ln_233, ln_232, ln_6, true_and, and_true, not_true_eq_false, not_false_eq_true, false_implies, true_implies, implies_true, forall_const, forall_eq, if_true, if_false, false_and, and_false, opX hk 6 (Nat.le_refl 6), hbc, max_le]
        exact ih _ _
    exact key 0 (Nat.zero_le _) _ _
end CRAVE
