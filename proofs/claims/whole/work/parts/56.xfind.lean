/-! order: the class' search -/
/-- what the class answers of the search's answer v -/
def ansX (v : Int32) (S : fm_S) (i : Int32) : Int32 := if v = -1 then v else if i = -1 then v else if i = -2 then S.1 54 1 else if v ≤ i then -5 else if 4 ≤ i then -5 else S.1 55 (tn i)
section XFIND
variable {d n m y : Nat} {S : fm_S} {A : Nat → Int32}
theorem s_xfind {Q : Int32 → fm_S → Prop} {x : Nat} (cx : CX S A n m y) (hx : x < n)
    (W : ∀ S' v, ex 54 66 S S' → (v = -1 ∨ ∃ N, N ≤ 4 ∧ v = nI N) → (∀ i, -2 ≤ i → ansX v S' i = orA A y x m i) → Q v S') :
    am_Ps vI (d + 5) k_Cook_findRow [.ref 54, .int (nI x)] S Q := by
  have hn := cx.1.1
  have hm6 := cx.1.2.1
  have hS0 : ex 54 66 S (fm_wI S 54 1 0) := ex_wI (ex_id S) (by decide) (by decide)
  have e1 : (f_Days_isShut (fm_wI S 54 1 0) 17 (nI x) = 0) = ¬ A (29 + x) = -1 := by
    have c2 := CX_ex hS0 cx
    unfold f_Days_isShut
    rw [nI_clamp (by omega), c2.2.2.1.2.1 x (by omega), ow_1]
    by_cases q : A (29 + x) = -1 <;> simp [q]
  refine e_Cook_findRow ?_
  simp (disch := omega) only [lit_add, add_lit, lit_mul, mul_lit, nI_add, nI_clamp, nI_subI, nI_sub1, nI_divL, vp_T, ge_F, ge_T, geL_F, geL_T, leL_F, leL_T, le0_F, le0_T, ge0_T, row_self, row_ne, row_l, row_p, row_row, wI_row, wI_same, wI_cell, wI_place, wI_l, wI_p, lt_T, lt_F, ltL_T, ltL_F, gtL_T, gtL_F, lt0_F, eq_T, eq_F, eqL_T, eqL_F, eqM_F, leM_F, nat_mod, i_10, i_01, i_m1, eq_self_iff_true, rw8_lt, up1_ne, up1_eq, wi_T, ite_self, tg_1, tg_68, tg_124, tg_177, tg_11, tg_17, tg_59, tg_78, tg_84, ln_7, ln_16, ln_233, ln_232, ln_6, true_and, and_true, not_true_eq_false, not_false_eq_true, false_implies, true_implies, implies_true, forall_const, forall_eq, if_true, if_false, false_and, and_false, e1]
  refine ⟨fun q => ?_, fun q => ?_⟩
  · refine W _ 0 hS0 (Or.inr ⟨0, by omega, rfl⟩) fun i hi => ?_
    unfold ansX orA
    rw [if_neg q, if_neg (by decide)]
    by_cases q1 : i = -1
    · subst q1; rw [if_pos rfl]; decide
    · rw [if_neg q1]
      by_cases q2 : i = -2
      · subst q2
        rw [if_pos rfl, wI_same]
        decide
      · rw [if_neg q2]
        have h0 : (0 : Int32) ≤ i := by
          rw [Int32.le_iff_toInt_le, show (-2 : Int32).toInt = -2 by decide] at hi
          rw [Int32.le_iff_toInt_le, show (0 : Int32).toInt = 0 by decide]
          have a1 : i.toInt ≠ -1 := fun q => q1 (Int32.toInt_inj.mp (by rw [q]; decide))
          have a2 : i.toInt ≠ -2 := fun q => q2 (Int32.toInt_inj.mp (by rw [q]; decide))
          omega
        rw [if_pos h0, if_pos h0]
  · have q := Classical.not_not.mp q
    have W2 : ∀ S' v, ex 54 66 S S' → (v = -1 ∨ ∃ N, N ≤ 4 ∧ v = nI N) → (∀ i, -2 ≤ i → ansX v S' i = ordF A y x m i 4 1) → Q v S' := fun S' v h1 h2 h3 => W S' v h1 h2 fun i hi => by rw [h3 i hi]; unfold orA; rw [if_pos q]
    have fin : ∀ f N, f + N = 5 → 0 < N → ∀ T, ex 54 66 S T → (∀ e k, e < m → k < 4 → T.1 64 (4 * e + k) = nI (sv A y e x k)) → (∀ N', 0 < N' → N' < N → ∀ c', c' < m ^ N' → vr A y x m N' c' = false) →
        (∀ i, ordF A y x m i 4 1 = ordF A y x m i f N) → H_Cook_findRow_50 d (nI x) (nI (m ^ (N - 1))) (nI N) T Q := by
      intro f
      induction f with
      | zero =>
        intro N hN h0 T hT h4 hV hF
        refine p_Cook_findRow_50 ?_
        simp (disch := omega) only [lit_add, add_lit, lit_mul, mul_lit, nI_add, nI_clamp, nI_subI, nI_sub1, nI_divL, vp_T, ge_F, ge_T, geL_F, geL_T, leL_F, leL_T, le0_F, le0_T, ge0_T, row_self, row_ne, row_l, row_p, row_row, wI_row, wI_same, wI_cell, wI_place, wI_l, wI_p, lt_T, lt_F, ltL_T, ltL_F, gtL_T, gtL_F, lt0_F, eq_T, eq_F, eqL_T, eqL_F, eqM_F, leM_F, nat_mod, i_10, i_01, i_m1, eq_self_iff_true, rw8_lt, up1_ne, up1_eq, wi_T, ite_self, tg_1, tg_68, tg_124, tg_177, tg_11, tg_17, tg_59, tg_78, tg_84, ln_7, ln_16, ln_233, ln_232, ln_6, true_and, and_true, not_true_eq_false, not_false_eq_true, false_implies, true_implies, implies_true, forall_const, forall_eq, if_true, if_false, false_and, and_false]
        refine W2 T (-1) hT (Or.inl rfl) fun i hi => ?_
        rw [hF i, ordF]
        unfold ansX
        rw [if_pos rfl]
      | succ f ih =>
        intro N hN h0 T hT h4 hV hF
        have c2 := CX_ex hT cx
        have hp := pow_b (N := N) hm6 (by omega)
        have hnn := orP_nn (y := y) (x := x) (N := N) cx.1 (by omega) (m ^ N) (Nat.le_refl _)
        refine p_Cook_findRow_50 ?_
        simp (disch := omega) only [lit_add, add_lit, lit_mul, mul_lit, nI_add, nI_clamp, nI_subI, nI_sub1, nI_divL, vp_T, ge_F, ge_T, geL_F, geL_T, leL_F, leL_T, le0_F, le0_T, ge0_T, row_self, row_ne, row_l, row_p, row_row, wI_row, wI_same, wI_cell, wI_place, wI_l, wI_p, lt_T, lt_F, ltL_T, ltL_F, gtL_T, gtL_F, lt0_F, eq_T, eq_F, eqL_T, eqL_F, eqM_F, leM_F, nat_mod, i_10, i_01, i_m1, eq_self_iff_true, rw8_lt, up1_ne, up1_eq, wi_T, ite_self, tg_1, tg_68, tg_124, tg_177, tg_11, tg_17, tg_59, tg_78, tg_84, ln_7, ln_16, ln_233, ln_232, ln_6, true_and, and_true, not_true_eq_false, not_false_eq_true, false_implies, true_implies, implies_true, forall_const, forall_eq, if_true, if_false, false_and, and_false, show T.1 1 7 = nI m from c2.2.1.2.1, nI_mul]
        rw [← Nat.pow_succ, Nat.succ_eq_add_one, Nat.sub_add_cancel (by omega)]
        refine s_xrowOf c2 hx h0 (by omega) hV h4 fun T2 hT2 h42 hB => ?_
        have hT3 := ex_tr hT hT2
        by_cases q2 : (orP A y x m N (m ^ N)).1 < 0
        · rw [if_pos q2]
          refine ⟨fun _ => ?_, fun z => absurd rfl z⟩
          have z := ih (N + 1) (by omega) (by omega) T2 hT3 (by rw [h42]; exact h4) (fun N' h1 h2 => by
            by_cases e : N' = N
            · subst e; exact hnn.2.1 q2
            · exact hV N' h1 (by omega)) fun i => by rw [hF i, ordF, if_pos q2]
          rw [Nat.add_sub_cancel] at z
          exact z
        · rw [if_neg q2]
          refine ⟨fun z => absurd z (by decide), fun _ => ?_⟩
          refine W2 T2 (nI N) hT3 (Or.inr ⟨N, by omega, rfl⟩) fun i hi => ?_
          rw [hF i, ordF, if_neg q2]
          unfold ansX
          rw [if_neg (by rw [eqM_F (by omega)]; exact id)]
          by_cases q3 : i = -1
          · rw [if_pos q3, if_pos q3]
          · rw [if_neg q3, if_neg q3]
            by_cases q4 : i = -2
            · rw [if_pos q4, if_pos q4]; exact (hB q2).1
            · rw [if_neg q4, if_neg q4]
              by_cases q5 : nI N ≤ i
              · rw [if_pos q5, if_pos q5]
              · rw [if_neg q5, if_neg q5]
                have hv := io_in hi q3 q4 q5 (by omega)
                have ht := vp_of hv (by omega)
                rw [if_neg, (hB q2).2 _ ht.2]
                rw [ht.1]
                exact nI_ge (b := 4) (by omega) (by decide)
    have key : ∀ e, e ≤ m → ∀ T o3, ex 54 66 S T → (∀ e' k, e' < e → k < 4 → T.1 64 (4 * e' + k) = nI (sv A y e' x k)) → H_Cook_findRow_23 d (nI x) (nI e) o3 T Q := by
      refine up_to (fun T o3 hT h4 => ?_) fun e he ih T o3 hT h4 => ?_
      · have c2 := CX_ex hT cx
        refine p_Cook_findRow_23 ?_
        simp (disch := omega) only [lit_add, add_lit, lit_mul, mul_lit, nI_add, nI_clamp, nI_subI, nI_sub1, nI_divL, vp_T, ge_F, ge_T, geL_F, geL_T, leL_F, leL_T, le0_F, le0_T, ge0_T, row_self, row_ne, row_l, row_p, row_row, wI_row, wI_same, wI_cell, wI_place, wI_l, wI_p, lt_T, lt_F, ltL_T, ltL_F, gtL_T, gtL_F, lt0_F, eq_T, eq_F, eqL_T, eqL_F, eqM_F, leM_F, nat_mod, i_10, i_01, i_m1, eq_self_iff_true, rw8_lt, up1_ne, up1_eq, wi_T, ite_self, tg_1, tg_68, tg_124, tg_177, tg_11, tg_17, tg_59, tg_78, tg_84, ln_7, ln_16, ln_233, ln_232, ln_6, true_and, and_true, not_true_eq_false, not_false_eq_true, false_implies, true_implies, implies_true, forall_const, forall_eq, if_true, if_false, false_and, and_false, show T.1 1 7 = nI m from c2.2.1.2.1]
        have z := fin 4 1 rfl (by decide) T hT h4 (fun N' h1 h2 => absurd h1 (by omega)) fun i => rfl
        rw [show 1 - 1 = 0 from rfl, Nat.pow_zero] at z
        exact z
      · have c2 := CX_ex hT cx
        refine p_Cook_findRow_23 ?_
        simp (disch := omega) only [lit_add, add_lit, lit_mul, mul_lit, nI_add, nI_clamp, nI_subI, nI_sub1, nI_divL, vp_T, ge_F, ge_T, geL_F, geL_T, leL_F, leL_T, le0_F, le0_T, ge0_T, row_self, row_ne, row_l, row_p, row_row, wI_row, wI_same, wI_cell, wI_place, wI_l, wI_p, lt_T, lt_F, ltL_T, ltL_F, gtL_T, gtL_F, lt0_F, eq_T, eq_F, eqL_T, eqL_F, eqM_F, leM_F, nat_mod, i_10, i_01, i_m1, eq_self_iff_true, rw8_lt, up1_ne, up1_eq, wi_T, ite_self, tg_1, tg_68, tg_124, tg_177, tg_11, tg_17, tg_59, tg_78, tg_84, ln_7, ln_16, ln_233, ln_232, ln_6, true_and, and_true, not_true_eq_false, not_false_eq_true, false_implies, true_implies, implies_true, forall_const, forall_eq, if_true, if_false, false_and, and_false, show T.1 1 7 = nI m from c2.2.1.2.1]
        refine s_xmeasure c2 he hx fun T2 hT2 _ hM hM2 => ?_
        refine ih T2 _ (ex_tr hT (ex_mono hT2 (by decide) (by decide))) fun e' k h1 h2 => ?_
        by_cases e2 : e' = e
        · subst e2; exact hM k h2
        · rw [hM2 _ (by omega)]; exact h4 e' k (by omega) h2
    exact key 0 (Nat.zero_le _) _ none hS0 fun e' k h _ => absurd h (by omega)
end XFIND
