/-! more calls that change something -/
section CALLS3
variable {S : fm_S} {N : Nat} {x1 x2 x3 x4 x5 : Int32}
/-- the text alone has changed -/
theorem Inv_x {S2 : fm_S} {L : Nat} (hI : Inv S N) (hN : N < 600) (h1 : ∀ c, c ≠ 67 → c ≠ 121 → c ≠ 231 → c ≠ 236 → S2.1 c = S.1 c) (h2 : S2.2 = S.2) (h231 : ∀ j, j ≠ 5 → S2.1 231 j = S.1 231 j) (hL : L ≤ 150) (a : S2.1 67 0 = nI L) (b : S2.1 231 5 = nI L) (t : ∀ k, k < L → S2.1 121 k = S2.1 236 k) : Inv S2 (N + 1) := by
  obtain ⟨h0, ⟨n, m, q, u, y, hr⟩, ⟨p1, p2, p3, p4⟩, hi, _, hf, hs⟩ := hI
  have e2 : S2.2.2 = S.2.2 := by rw [h2]
  refine ⟨by omega, ⟨n, m, q, u, y, ?_⟩, ⟨PP_fr (by rw [e2]) p1, PP_fr (by rw [e2]) p2, PP_fr (by rw [e2]) p3, PP_fr (by rw [e2]) p4⟩, fun i hi2 => ?_, ⟨L, hL, a, b, t⟩, by rw [h2]; exact hf, ?_⟩
  · rw [h1 232 (by omega) (by omega) (by omega) (by omega)]
    exact RT_mono (by omega) (RT_fr (fun c a b => h1 c (by omega) (by omega) (by omega) (by omega)) (by rw [e2]) p1 hr)
  · rw [h1 230 (by omega) (by omega) (by omega) (by omega), h1 235 (by omega) (by omega) (by omega) (by omega), h1 234 (by omega) (by omega) (by omega) (by omega)]
    refine ⟨(hi i hi2).1, (hi i hi2).2.imp_right fun ⟨n, m, q, u, y, hr⟩ => ⟨n, m, q, u, y, ?_⟩⟩
    have hp : PP S (124 + 53 * i) := by
      have : i = 0 ∨ i = 1 := by omega
      rcases this with rfl | rfl
      · exact p3
      · exact p4
    exact RT_mono (by omega) (RT_fr (fun c a b => h1 c (by omega) (by omega) (by omega) (by omega)) (by rw [e2]) hp hr)
  · rw [h1 0 (by omega) (by omega) (by omega) (by omega), h231 8 (by omega), h231 9 (by omega), h231 10 (by omega)]
    exact hs
theorem c_clear (hI : Inv S N) (hN : N < 600) : pair vI k_X_clear k_M_clear [.ref 0] [.ref 231] S N := by
  obtain ⟨L, l1, l2, l3, l4⟩ := hI.2.2.2.2.1
  refine ps_sp s_X_clear (ps_sp s_M_clear ?_)
  unfold f_X_clear f_M_clear g_M_clear g_X_clear
  refine ⟨?_, ?_⟩
  · rw [wI_cell (by omega), l2, l3]
  · refine Inv_x (L := 0) hI hN (fun c a b d e => by rw [wI_ce d, wI_ce a]) rfl (fun j hj => by rw [wI_place hj, wI_cell (by omega)]) (by omega) ?_ wI_same fun k h => absurd h (by omega)
    rw [wI_cell (by omega), wI_same]; rfl
theorem c_type (hI : Inv S N) (hN : N < 600) : pair vI k_X_type k_M_type [.ref 0, .int x1] [.ref 231, .int x1] S N := by
  obtain ⟨L, l1, l2, l3, l4⟩ := hI.2.2.2.2.1
  have lt1 : (S.1 67 0 < 150) = (L < 150) := by rw [l2, show (150 : Int32) = nI 150 from rfl, nI_ltI (by omega) (by omega)]
  have f231 : (g_X_type S x1).1 231 = S.1 231 := by
    funext j
    unfold g_X_type g_X_bad g_X_full g_Reader_put
    repeat' split
    all_goals first | rfl | simp (disch := omega) only [wI_cell]
  refine ps_sp (s_X_type fun _ z => ?_) (ps_sp (s_M_type fun _ z => ?_) ?_)
  · rw [lt1] at z
    rw [l2]
    exact vp_in_nI z (by decide)
  · rw [f231, l3] at z ⊢
    have : L ≠ 150 := fun e => z (by rw [e]; rfl)
    exact vp_in_nI (by omega) (by decide)
  · unfold f_X_type f_M_type g_M_type
    rw [in_lit (by decide) (by decide), f231, l3]
    unfold g_X_type
    by_cases g1 : f_X_within x1 0 127 = 0
    · simp only [if_pos g1]; exact ⟨rfl, Inv_bad hI hN⟩
    · by_cases g2 : L < 150
      · have z1 : S.1 67 0 < 150 := by rw [lt1]; exact g2
        have z2 : ¬ nI L = 150 := by rw [eqL_F (by omega) (by omega) (by omega)]; exact id
        have fA : f_Reader_put S x1 = nI (L + 1) := by
          unfold f_Reader_put
          rw [if_pos z1]
          simp (disch := omega) only [lit_add, add_lit, lit_mul, mul_lit, nI_add, nI_clamp, nI_subI, nI_sub1, nI_divL, vp_T, ge_F, ge_T, geL_F, geL_T, leL_F, leL_T, le0_F, le0_T, ge0_T, row_self, row_ne, row_l, row_p, row_row, wI_row, wI_same, wI_cell, wI_place, wI_l, wI_p, lt_T, lt_F, ltL_T, ltL_F, gtL_T, gtL_F, lt0_F, eq_T, eq_F, eqL_T, eqL_F, eqM_F, leM_F, nat_mod, i_10, i_01, i_m1, eq_self_iff_true, rw8_lt, up1_ne, up1_eq, wi_T, ite_self, tg_1, tg_68, tg_124, tg_177, tg_11, tg_17, tg_59, tg_78, tg_84, ln_7, ln_16, ln_233, ln_232, ln_6, true_and, and_true, not_true_eq_false, not_false_eq_true, false_implies, true_implies, implies_true, forall_const, forall_eq, if_true, if_false, false_and, and_false, l2]
        have z3 : ¬ (f_Reader_put S x1 = -1) := by rw [fA, eqM_F (by omega)]; exact id
        simp only [if_neg g1, if_neg z3, if_neg z2]
        rw [fA]
        unfold g_Reader_put
        rw [if_pos z1]
        simp (disch := omega) only [lit_add, add_lit, lit_mul, mul_lit, nI_add, nI_clamp, nI_subI, nI_sub1, nI_divL, vp_T, ge_F, ge_T, geL_F, geL_T, leL_F, leL_T, le0_F, le0_T, ge0_T, row_self, row_ne, row_l, row_p, row_row, wI_row, wI_same, wI_cell, wI_place, wI_l, wI_p, lt_T, lt_F, ltL_T, ltL_F, gtL_T, gtL_F, lt0_F, eq_T, eq_F, eqL_T, eqL_F, eqM_F, leM_F, nat_mod, i_10, i_01, i_m1, eq_self_iff_true, rw8_lt, up1_ne, up1_eq, wi_T, ite_self, tg_1, tg_68, tg_124, tg_177, tg_11, tg_17, tg_59, tg_78, tg_84, ln_7, ln_16, ln_233, ln_232, ln_6, true_and, and_true, not_true_eq_false, not_false_eq_true, false_implies, true_implies, implies_true, forall_const, forall_eq, if_true, if_false, false_and, and_false, l2, l3]
        refine Inv_x (L := L + 1) hI hN (fun c a b d e => by rw [wI_ce d, wI_ce e, wI_ce a, wI_ce b]) rfl (fun j hj => by simp (disch := omega) only [wI_place, wI_cell]) (by omega) ?_ wI_same fun k h => ?_
        · simp (disch := omega) only [wI_cell, wI_same]
        · by_cases e : k = L
          · subst e
            simp (disch := omega) only [wI_cell, wI_same]
          · simp (disch := omega) only [wI_cell, wI_place]
            exact l4 k (by omega)
      · have z1 : ¬ S.1 67 0 < 150 := by rw [lt1]; exact g2
        have z2 : nI L = 150 := by rw [show L = 150 by omega]; rfl
        have z3 : f_Reader_put S x1 = -1 := by unfold f_Reader_put; rw [if_neg z1]
        have z4 : g_Reader_put S x1 = S := by unfold g_Reader_put; rw [if_neg z1]
        simp only [if_neg g1, if_pos z3, if_pos z2]
        rw [z4]
        exact ⟨rfl, Inv_full hI hN⟩
theorem c_count (hI : Inv S N) (hN : N < 600) : pair vI k_X_count k_M_count [.ref 0, .int x1] [.ref 231, .int x1] S N := by
  obtain ⟨n, m, q, u, y, c, mx, hr, hrt⟩ := Inv_cx hI
  obtain ⟨L, l1, l2, l3, l4⟩ := hI.2.2.2.2.1
  have hn := c.1.1
  have f232 : (g_X_count S x1).1 232 = S.1 232 := by
    funext j
    unfold g_X_count g_X_bad
    repeat' split
    all_goals first | rfl | simp (disch := omega) only [wI_cell]
  have r0 : S.1 1 0 = nI n := c.2.1.1
  have m0 : S.1 232 0 = nI n := c.1.2.2.1
  refine ps_sp (s_X_count fun _ => ?_) (ps_sp (s_M_count fun _ _ => ?_) ?_)
  · rw [r0]; exact vp_in_nI (by omega) (by decide)
  · rw [f232, m0]; exact vp_in_nI (by omega) (by decide)
  · unfold f_X_count f_M_count g_M_count g_X_count
    rw [in_lit (by decide) (by decide)]
    by_cases g2 : f_X_within x1 0 6 = 0
    · have ne : ∀ j, j ≤ 6 → ¬ x1 = nI j := fun j hj e => by
        rw [e] at g2
        have : f_X_within (nI j) 0 (nI 6) = 1 := wi_T hj (by decide)
        rw [show (6 : Int32) = nI 6 from rfl, this] at g2
        cases g2
      have a0 := ne 0 (by omega)
      have a1 := ne 1 (by omega)
      have a2 := ne 2 (by omega)
      have a3 := ne 3 (by omega)
      have a4 := ne 4 (by omega)
      have a5 := ne 5 (by omega)
      have a6 := ne 6 (by omega)
      rw [show nI 0 = 0 from rfl] at a0
      rw [show nI 1 = 1 from rfl] at a1
      rw [show nI 2 = 2 from rfl] at a2
      rw [show nI 3 = 3 from rfl] at a3
      rw [show nI 4 = 4 from rfl] at a4
      rw [show nI 5 = 5 from rfl] at a5
      rw [show nI 6 = 6 from rfl] at a6
      simp only [if_pos g2, a0, a1, a2, a3, a4, a5, a6, if_false]
      exact ⟨rfl, Inv_bad hI hN⟩
    · obtain ⟨b, _, hb, rfl⟩ := wi_L (a := 0) (b := 6) (by decide) g2 (by decide)
      have k1 : S.1 1 7 = nI m := c.2.1.2.1
      have k1' : S.1 232 1 = nI m := c.1.2.2.2.1
      have k2 : S.1 17 0 = S.1 232 4 := by rw [show S.1 17 0 = ow (S.1 232) 0 from c.2.2.1.1]; rfl
      have k4 : S.1 11 0 = nI q := hr.2.2.1
      have k4' : S.1 232 2 = nI q := hr.2.1
      have k5 : S.1 1 14 = nI u := hrt.2.2.2.2.1.2.2
      have k5' : S.1 232 3 = nI u := hrt.2.2.2.2.1.2.1
      have : b = 0 ∨ b = 1 ∨ b = 2 ∨ b = 3 ∨ b = 4 ∨ b = 5 ∨ b = 6 := by omega
      simp only [if_neg g2]
      unfold f_M_countOf
      rcases this with rfl | rfl | rfl | rfl | rfl | rfl | rfl
      all_goals simp (disch := omega) only [lit_add, add_lit, lit_mul, mul_lit, nI_add, nI_clamp, nI_subI, nI_sub1, nI_divL, vp_T, ge_F, ge_T, geL_F, geL_T, leL_F, leL_T, le0_F, le0_T, ge0_T, row_self, row_ne, row_l, row_p, row_row, wI_row, wI_same, wI_cell, wI_place, wI_l, wI_p, lt_T, lt_F, ltL_T, ltL_F, gtL_T, gtL_F, lt0_F, eq_T, eq_F, eqL_T, eqL_F, eqM_F, leM_F, nat_mod, i_10, i_01, i_m1, eq_self_iff_true, rw8_lt, up1_ne, up1_eq, wi_T, ite_self, tg_1, tg_68, tg_124, tg_177, tg_11, tg_17, tg_59, tg_78, tg_84, ln_7, ln_16, ln_233, ln_232, ln_6, true_and, and_true, not_true_eq_false, not_false_eq_true, false_implies, true_implies, implies_true, forall_const, forall_eq, if_true, if_false, false_and, and_false, r0, m0, k1, k1', k2, k4, k4', k5, k5', l2, l3, openX c.2.2.1 hn n (Nat.le_refl n), openM hn n (Nat.le_refl n)]
      all_goals exact Inv_up hI hN
theorem c_note (hI : Inv S N) (hN : N < 600) : pair vI k_X_note k_M_note [.ref 0, .int x1, .int x2, .int x3, .int x4, .int x5] [.ref 231, .int x1, .int x2, .int x3, .int x4, .int x5] S N := by
  obtain ⟨n, m, q, u, y, c, mx, hr, hrt⟩ := Inv_cx hI
  have hn := c.1.1
  have hq := hr.1
  have r0 : S.1 11 0 = nI q := hr.2.2.1
  have lt6 : (S.1 11 0 < 6) = (q < 6) := by rw [r0, show (6 : Int32) = nI 6 from rfl, nI_ltI (by omega) (by omega)]
  have f232 : (g_X_note S x1 x2 x3 x4 x5).1 232 = S.1 232 := by
    funext j
    unfold g_X_note g_X_bad g_X_full g_Notes_add
    repeat' split
    all_goals first | rfl | simp (disch := omega) only [wI_cell]
  have m2 : (g_X_note S x1 x2 x3 x4 x5).1 232 2 = nI q := by rw [f232]; exact hr.2.1
  have eq6 : ¬ (g_X_note S x1 x2 x3 x4 x5).1 232 2 = 6 → q < 6 := fun z => by
    rw [m2] at z
    have : q ≠ 6 := fun e => z (by rw [e]; rfl)
    omega
  have v6 : (S.1 11 0) < 6 → vp_in (S.1 11 0) 6 := fun z => by
    rw [lt6] at z
    rw [r0]
    exact vp_in_nI z (by decide)
  have main : f_X_note S x1 x2 x3 x4 x5 = f_M_note (g_X_note S x1 x2 x3 x4 x5) x1 x2 x3 x4 x5 ∧ Inv (g_M_note (g_X_note S x1 x2 x3 x4 x5) x1 x2 x3 x4 x5) (N + 1) := by
    unfold f_X_note f_M_note g_M_note
    rw [mStreet (MX_1 f232 mx), xStreet c, in_lit (by decide) (by decide), in_lit (by decide) (by decide), in_lit (by decide) (by decide), in_lit (by decide) (by decide), m2]
    unfold g_X_note f_X_isNoted
    rw [xStreet c]
    by_cases g1 : f_X_within x1 0 (nI n - 1) = 0
    · simp only [if_pos g1]; exact ⟨rfl, Inv_bad hI hN⟩
    · by_cases g2 : f_X_within x2 0 5 = 0
      · simp only [if_neg g1, if_pos g2]; exact ⟨rfl, Inv_bad hI hN⟩
      · by_cases g3 : f_X_within x3 1 60 = 0
        · simp only [if_neg g1, if_neg g2, if_pos g3, if_true]; exact ⟨rfl, Inv_bad hI hN⟩
        · by_cases g4 : f_X_within x4 0 99 = 0
          · simp only [if_neg g1, if_neg g2, if_neg g3, if_pos g4, if_true]; exact ⟨rfl, Inv_bad hI hN⟩
          · by_cases g5 : f_X_within x5 0 1 = 0
            · simp only [if_neg g1, if_neg g2, if_neg g3, if_neg g4, if_pos g5, i_10, if_false]; exact ⟨rfl, Inv_bad hI hN⟩
            · by_cases g6 : q < 6
              · have fA := aNo_f (x1 := x1) (x2 := x2) (x3 := x3) (x4 := x4) (x5 := x5) r0 g6
                have z1 : ¬ (f_Notes_add S 11 x1 x2 x3 x4 x5 = -1) := by rw [fA, eqM_F (by omega)]; exact id
                have z2 : ¬ (nI q = 6) := by rw [eqL_F (by omega) (by omega) (by omega)]; exact id
                simp only [if_neg g1, if_neg g2, if_neg g3, if_neg g4, if_neg g5, if_neg z1, if_neg z2, i_10, if_false]
                rw [fA, aNo_g r0 g6]
                clear z1 fA
                have eo : ∀ c, (c < 11 ∨ 16 < c) → (aNo S 11 x1 x2 x3 x4 x5).1 c = S.1 c := fun c hc => by
                  funext j
                  unfold aNo
                  simp (disch := omega) only [wI_cell]
                have e2 : (aNo S 11 x1 x2 x3 x4 x5).1 232 2 = nI q := by rw [eo 232 (by omega)]; exact hr.2.1
                have hz := RT_mono (Nat.le_succ N) (RT_note (x1 := x1) (x2 := x2) (x3 := x3) (x4 := x4) (x5 := x5) hrt hI.2.2.1.1 g6)
                have hz : RT (aNo S 11 x1 x2 x3 x4 x5) 1 (adN (S.1 232) q x1 x2 x3 x4 x5) n m (q + 1) u y (N + 1) := hz
                have e232 := eo 232 (by omega)
                have hP : PP (aNo S 11 x1 x2 x3 x4 x5) 1 := hI.2.2.1.1
                have h21 : (aNo S 11 x1 x2 x3 x4 x5).2 = S.2 := rfl
                generalize aNo S 11 x1 x2 x3 x4 x5 = T at eo e2 hz e232 hP h21 ⊢
                have hm : fm_wI (fm_wI (fm_wI (fm_wI (fm_wI (fm_wI T 232 ((143 + nI q).toNatClampNeg) x1) 232 (((143 + nI q) + 6).toNatClampNeg) x2) 232 (((143 + nI q) + 12).toNatClampNeg) x3) 232 (((143 + nI q) + 18).toNatClampNeg) x4) 232 (((143 + nI q) + 24).toNatClampNeg) x5) 232 2 (((fm_wI (fm_wI (fm_wI (fm_wI (fm_wI T 232 ((143 + nI q).toNatClampNeg) x1) 232 (((143 + nI q) + 6).toNatClampNeg) x2) 232 (((143 + nI q) + 12).toNatClampNeg) x3) 232 (((143 + nI q) + 18).toNatClampNeg) x4) 232 (((143 + nI q) + 24).toNatClampNeg) x5).1 232 2) + 1) = fm_row T 232 (adN (S.1 232) q x1 x2 x3 x4 x5) := by
                  simp (disch := omega) only [lit_add, add_lit, lit_mul, mul_lit, nI_add, nI_clamp, nI_subI, nI_sub1, nI_divL, vp_T, ge_F, ge_T, geL_F, geL_T, leL_F, leL_T, le0_F, le0_T, ge0_T, row_self, row_ne, row_l, row_p, row_row, wI_row, wI_same, wI_cell, wI_place, wI_l, wI_p, lt_T, lt_F, ltL_T, ltL_F, gtL_T, gtL_F, lt0_F, eq_T, eq_F, eqL_T, eqL_F, eqM_F, leM_F, nat_mod, i_10, i_01, i_m1, eq_self_iff_true, rw8_lt, up1_ne, up1_eq, wi_T, ite_self, tg_1, tg_68, tg_124, tg_177, tg_11, tg_17, tg_59, tg_78, tg_84, ln_7, ln_16, ln_233, ln_232, ln_6, true_and, and_true, not_true_eq_false, not_false_eq_true, false_implies, true_implies, implies_true, forall_const, forall_eq, if_true, if_false, false_and, and_false, e2]
                  rw [wI_as T, wI_row, wI_row, wI_row, wI_row, wI_row, e232]
                  unfold adN
                  rw [show 143 + q + 6 = 149 + q by omega, show 143 + q + 12 = 155 + q by omega, show 143 + q + 18 = 161 + q by omega, show 143 + q + 24 = 167 + q by omega]
                refine ⟨?_, Inv_op hI hN (fun c hc => eo c (by omega)) (by rw [h21]) (fun _ _ => by rw [h21]) hP hm hz⟩
                rw [wI_same]
                simp (disch := omega) only [lit_add, add_lit, lit_mul, mul_lit, nI_add, nI_clamp, nI_subI, nI_sub1, nI_divL, vp_T, ge_F, ge_T, geL_F, geL_T, leL_F, leL_T, le0_F, le0_T, ge0_T, row_self, row_ne, row_l, row_p, row_row, wI_row, wI_same, wI_cell, wI_place, wI_l, wI_p, lt_T, lt_F, ltL_T, ltL_F, gtL_T, gtL_F, lt0_F, eq_T, eq_F, eqL_T, eqL_F, eqM_F, leM_F, nat_mod, i_10, i_01, i_m1, eq_self_iff_true, rw8_lt, up1_ne, up1_eq, wi_T, ite_self, tg_1, tg_68, tg_124, tg_177, tg_11, tg_17, tg_59, tg_78, tg_84, ln_7, ln_16, ln_233, ln_232, ln_6, true_and, and_true, not_true_eq_false, not_false_eq_true, false_implies, true_implies, implies_true, forall_const, forall_eq, if_true, if_false, false_and, and_false, e2]
              · have e8 : q = 6 := by omega
                have r8 : S.1 11 0 = nI 6 := by rw [r0, e8]
                have z1 := aNo_f6 (x1 := x1) (x2 := x2) (x3 := x3) (x4 := x4) (x5 := x5) r8
                have z2 : nI q = 6 := by rw [e8]; rfl
                simp only [if_neg g1, if_neg g2, if_neg g3, if_neg g4, if_neg g5, if_pos z1, if_pos z2, i_10, if_false]
                rw [aNo_g6 r8]
                exact ⟨rfl, Inv_full hI hN⟩
  have hv : ∀ T : fm_S, T.1 11 0 = S.1 11 0 → (S.1 11 0) < 6 → vp_in (T.1 11 0) 6 := fun T h z => by rw [h]; exact v6 z
  refine ps_sp (s_X_note (fun _ _ _ _ z => v6 z) (fun _ _ _ _ z => ?_) (fun _ _ _ _ z => ?_) (fun _ _ _ _ z => ?_) (fun _ _ _ _ z => ?_)) (ps_sp (s_M_note ?_ ?_ ?_ ?_ ?_) main)
  iterate 4
    · refine hv _ ?_ z
      simp (disch := omega) only [wI_cell]
  iterate 5
    · intro _ _ _ _ _ z
      have := eq6 z
      simp (disch := omega) only [lit_add, add_lit, lit_mul, mul_lit, nI_add, nI_clamp, nI_subI, nI_sub1, nI_divL, vp_T, ge_F, ge_T, geL_F, geL_T, leL_F, leL_T, le0_F, le0_T, ge0_T, row_self, row_ne, row_l, row_p, row_row, wI_row, wI_same, wI_cell, wI_place, wI_l, wI_p, lt_T, lt_F, ltL_T, ltL_F, gtL_T, gtL_F, lt0_F, eq_T, eq_F, eqL_T, eqL_F, eqM_F, leM_F, nat_mod, i_10, i_01, i_m1, eq_self_iff_true, rw8_lt, up1_ne, up1_eq, wi_T, ite_self, tg_1, tg_68, tg_124, tg_177, tg_11, tg_17, tg_59, tg_78, tg_84, ln_7, ln_16, ln_233, ln_232, ln_6, true_and, and_true, not_true_eq_false, not_false_eq_true, false_implies, true_implies, implies_true, forall_const, forall_eq, if_true, if_false, false_and, and_false, m2]
end CALLS3
