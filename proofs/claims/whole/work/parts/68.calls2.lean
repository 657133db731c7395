/-! the calls that change something -/
section CALLS2
variable {S : fm_S} {N : Nat} {x1 x2 x3 x4 x5 : Int32}
theorem wi_iff {x a b : Int32} : f_X_within x a b = 0 ∨ f_X_within x a b = 1 := fb_X_within x a b
/-- the town alone has changed, both sides -/
theorem Inv_op {S1 S2 : fm_S} {B : Nat → Int32} {n m q u y : Nat} (hI : Inv S N) (hN : N < 600) (h1 : ∀ c, (c < 1 ∨ 53 < c) → S1.1 c = S.1 c) (h1s : S1.2.1 = S.2.1) (h1p : ∀ c, c ≠ 21 → S1.2.2 c = S.2.2 c) (hP : PP S1 1) (h2 : S2 = fm_row S1 232 B) (hR : RT S1 1 B n m q u y (N + 1)) : Inv S2 (N + 1) := by
  subst h2
  have e : ∀ c, c ≠ 232 → (c < 1 ∨ 53 < c) → (fm_row S1 232 B).1 c = S.1 c := fun c a b => by
    rw [← h1 c b]
    exact funext fun j => row_ne a
  refine Inv_t hI (by omega) (by omega) ⟨n, m, q, u, y, ?_⟩ (PP_fr rfl hP) (fun c hc => e c (by omega) (by omega)) (by rw [e 67 (by omega) (by omega)]) (by rw [e 231 (by omega) (by omega)]) ?_ h1p ?_
  · rw [show (fm_row S1 232 B).1 232 = B from funext fun j => row_self]
    exact RT_fr (fun c a b => funext fun j => row_ne (by omega)) rfl hP hR
  · rw [e 0 (by omega) (by omega), e 231 (by omega) (by omega)]; exact hI.2.2.2.2.2.2
  · rw [show (fm_row S1 232 B).2.1 = S.2.1 from h1s]; exact hI.2.2.2.2.2.1
theorem c_town (hI : Inv S N) (hN : N < 600) : pair vI k_X_town k_M_town [.ref 0] [.ref 231] S N := by
  obtain ⟨n, m, q, u, y, c, mx, hr, hrt⟩ := Inv_cx hI
  refine e_X_town ?_
  refine s_begin (by decide +kernel) (by decide +kernel) fun S1 h1 h2 h3 => ?_
  have e232 : S1.1 232 = S.1 232 := h1 232 (by omega)
  refine ps_sp (x := f_M_town S1) s_M_town ?_
  refine ⟨?_, ?_⟩
  · unfold f_M_town
    rw [e232, show S.1 1 0 = nI n from c.2.1.1]
    exact c.1.2.2.1.symm
  · unfold g_M_town
    have hs2 : S1.2.2 = S.2.2 := by rw [h2]
    refine Inv_op (S1 := S1) (B := (m_first S1 232 4).1 232) (n := 0) (m := 0) (q := 0) (u := 0) (y := 0) hI hN (fun c hc => h1 c (by omega)) (by rw [h2]) (fun c _ => by rw [hs2]) (PP_fr (by rw [hs2]) hI.2.2.1.1) ?_ ?_
    · refine fm_ext (fun c i => ?_) (fun _ _ => rfl) fun _ _ => rfl
      show _ = if c = 232 then (m_first S1 232 4).1 232 i else S1.1 c i
      by_cases e : c = 232
      · rw [if_pos e, e]
      · rw [if_neg e]
        show (if c = 232 ∧ 121 ≤ i ∧ i < 121 + 4 then nI (i - 121) else if c = 232 ∧ i < 373 then 0 else S1.1 c i) = _
        rw [if_neg (fun z => e z.1), if_neg (fun z => e z.1)]
    · exact RT_A (fun k hk => fA_first hk) (RT_mono (by omega) h3)
theorem c_street (hI : Inv S N) (hN : N < 600) : pair vI k_X_street k_M_street [.ref 0, .int x1, .int x2, .int x3] [.ref 231, .int x1, .int x2, .int x3] S N := by
  obtain ⟨n, m, q, u, y, c, mx, hr, hrt⟩ := Inv_cx hI
  have hn := c.1.1
  have r0 : S.1 1 0 = nI n := c.2.1.1
  have lt8 : (S.1 1 0 < 8) = (n < 8) := by rw [r0, show (8 : Int32) = nI 8 from rfl, nI_ltI (by omega) (by omega)]
  have f232 : (g_X_street S x1 x2 x3).1 232 = S.1 232 := by
    funext j
    unfold g_X_street g_X_bad g_X_full g_Town_addStreet
    repeat' split
    all_goals first | rfl | simp (disch := omega) only [wI_cell]
  have m0 : (g_X_street S x1 x2 x3).1 232 0 = nI n := by rw [f232]; exact c.1.2.2.1
  have eq8 : ¬ (g_X_street S x1 x2 x3).1 232 0 = 8 → n < 8 := fun z => by
    rw [m0] at z
    have : n ≠ 8 := fun e => z (by rw [e]; rfl)
    omega
  refine ps_sp (s_X_street fun _ _ _ z => ?_) ?_
  · rw [r0]; exact vp_in_nI (by rw [lt8] at z; exact z) (by decide)
  · refine ps_sp (s_M_street ?_ ?_ ?_ ?_ ?_ ?_ ?_ ?_) ?_
    · intro _ _ _ _; rw [ln_232]; exact vp_in_nI (n := 0) (by decide) (by decide)
    iterate 6
      · intro _ _ _ z
        have := eq8 z
        simp (disch := omega) only [tn_L, m0, lit_add, add_lit, lit_mul, mul_lit, nI_add, nI_clamp, nI_subI, nI_sub1, nI_divL, vp_T, ge_F, ge_T, geL_F, geL_T, leL_F, leL_T, le0_F, le0_T, ge0_T, row_self, row_ne, row_l, row_p, row_row, wI_row, wI_same, wI_cell, wI_place, wI_l, wI_p, lt_T, lt_F, ltL_T, ltL_F, gtL_T, gtL_F, lt0_F, eq_T, eq_F, eqL_T, eqL_F, eqM_F, leM_F, nat_mod, i_10, i_01, i_m1, eq_self_iff_true, rw8_lt, up1_ne, up1_eq, wi_T, ite_self, tg_1, tg_68, tg_124, tg_177, tg_11, tg_17, tg_59, tg_78, tg_84, ln_7, ln_16, ln_233, ln_232, ln_6, true_and, and_true, not_true_eq_false, not_false_eq_true, false_implies, true_implies, implies_true, forall_const, forall_eq, if_true, if_false, false_and, and_false]
    · intro _ _ _ _; rw [ln_232]; exact vp_in_nI (n := 3) (by decide) (by decide)
    · unfold f_X_street f_M_street g_M_street
      rw [in_lit (by decide) (by decide), in_lit (by decide) (by decide), in_lit (by decide) (by decide), m0]
      unfold g_X_street
      by_cases g1 : f_X_within x1 0 5 = 0
      · simp only [if_pos g1]; exact ⟨rfl, Inv_bad hI hN⟩
      · by_cases g2 : f_X_within x2 0 9 = 0
        · simp only [if_neg g1, if_pos g2]; exact ⟨rfl, Inv_bad hI hN⟩
        · by_cases g3 : f_X_within x3 0 5 = 0
          · simp only [if_neg g1, if_neg g2, if_pos g3]; exact ⟨rfl, Inv_bad hI hN⟩
          · by_cases g4 : n < 8
            · have fA := aSt_f (x1 := x1) (x2 := x2) (x3 := x3) r0 g4
              have z1 : ¬ (f_Town_addStreet S 1 x1 x2 x3 = -1) := by rw [fA, eqM_F (by omega)]; exact id
              have z2 : ¬ (nI n = 8) := by rw [eqL_F (by omega) (by omega) (by omega)]; exact id
              simp only [if_neg g1, if_neg g2, if_neg g3, if_neg z1, if_neg z2]
              rw [fA, aSt_g r0 g4]
              clear z1 fA
              obtain ⟨a1, _, b1, rfl⟩ := wi_L (a := 0) (b := 5) (by decide) g1 (by decide)
              obtain ⟨a2, _, b2, rfl⟩ := wi_L (a := 0) (b := 9) (by decide) g2 (by decide)
              have e0 : (aSt S 1 (nI a1) (nI a2) x3).1 232 0 = nI n := by
                unfold aSt; simp (disch := omega) only [wI_cell]; exact c.1.2.2.1
              have eo : ∀ c, (c < 1 ∨ 4 < c) → (aSt S 1 (nI a1) (nI a2) x3).1 c = S.1 c := fun c hc => by
                funext j
                unfold aSt
                simp (disch := omega) only [wI_cell]
              rw [g_adS e0 g4, row_self, eo 232 (by omega)]
              refine ⟨?_, Inv_op hI hN (fun c hc => eo c (by omega)) rfl (fun _ _ => rfl) hI.2.2.1.1 rfl (RT_mono (Nat.le_succ N) (RT_street hrt g4 (iN_of rfl b1 (by omega)) (iN_of rfl b2 (by omega))))⟩
              unfold adS
              rw [up1_ne (by omega), up1_eq]
              exact (nI_pred n).symm
            · have e8 : n = 8 := by omega
              have r8 : S.1 1 0 = nI 8 := by rw [r0, e8]
              have z1 := aSt_f8 (x1 := x1) (x2 := x2) (x3 := x3) r8
              have z2 : nI n = 8 := by rw [e8]; rfl
              simp only [if_neg g1, if_neg g2, if_neg g3, if_pos z1, if_pos z2]
              rw [aSt_g8 r8]
              exact ⟨rfl, Inv_full hI hN⟩
theorem c_dish (hI : Inv S N) (hN : N < 600) : pair vI k_X_dish k_M_dish [.ref 0, .int x1, .int x2, .int x3] [.ref 231, .int x1, .int x2, .int x3] S N := by
  obtain ⟨n, m, q, u, y, c, mx, hr, hrt⟩ := Inv_cx hI
  have hm := c.1.2.1
  have r0 : S.1 1 7 = nI m := c.2.1.2.1
  have lt8 : (S.1 1 7 < 6) = (m < 6) := by rw [r0, show (6 : Int32) = nI 6 from rfl, nI_ltI (by omega) (by omega)]
  have f232 : (g_X_dish S x1 x2 x3).1 232 = S.1 232 := by
    funext j
    unfold g_X_dish g_X_bad g_X_full g_Town_addDish
    repeat' split
    all_goals first | rfl | simp (disch := omega) only [wI_cell]
  have m0 : (g_X_dish S x1 x2 x3).1 232 1 = nI m := by rw [f232]; exact c.1.2.2.2.1
  have eq8 : ¬ (g_X_dish S x1 x2 x3).1 232 1 = 6 → m < 6 := fun z => by
    rw [m0] at z
    have : m ≠ 6 := fun e => z (by rw [e]; rfl)
    omega
  refine ps_sp (s_X_dish fun _ _ _ z => ?_) ?_
  · rw [r0]; exact vp_in_nI (by rw [lt8] at z; exact z) (by decide)
  · refine ps_sp (s_M_dish ?_ ?_ ?_ ?_) ?_
    · intro _ _ _ _; rw [ln_232]; exact vp_in_nI (n := 1) (by decide) (by decide)
    iterate 3
      · intro _ _ _ z
        have := eq8 z
        simp (disch := omega) only [tn_L, m0, lit_add, add_lit, lit_mul, mul_lit, nI_add, nI_clamp, nI_subI, nI_sub1, nI_divL, vp_T, ge_F, ge_T, geL_F, geL_T, leL_F, leL_T, le0_F, le0_T, ge0_T, row_self, row_ne, row_l, row_p, row_row, wI_row, wI_same, wI_cell, wI_place, wI_l, wI_p, lt_T, lt_F, ltL_T, ltL_F, gtL_T, gtL_F, lt0_F, eq_T, eq_F, eqL_T, eqL_F, eqM_F, leM_F, nat_mod, i_10, i_01, i_m1, eq_self_iff_true, rw8_lt, up1_ne, up1_eq, wi_T, ite_self, tg_1, tg_68, tg_124, tg_177, tg_11, tg_17, tg_59, tg_78, tg_84, ln_7, ln_16, ln_233, ln_232, ln_6, true_and, and_true, not_true_eq_false, not_false_eq_true, false_implies, true_implies, implies_true, forall_const, forall_eq, if_true, if_false, false_and, and_false]
    · unfold f_X_dish f_M_dish g_M_dish
      rw [in_lit (by decide) (by decide), in_lit (by decide) (by decide), in_lit (by decide) (by decide), m0]
      unfold g_X_dish
      by_cases g1 : f_X_within x1 0 5 = 0
      · simp only [if_pos g1]; exact ⟨rfl, Inv_bad hI hN⟩
      · by_cases g2 : f_X_within x2 1 30 = 0
        · simp only [if_neg g1, if_pos g2]; exact ⟨rfl, Inv_bad hI hN⟩
        · by_cases g3 : f_X_within x3 0 9 = 0
          · simp only [if_neg g1, if_neg g2, if_pos g3]; exact ⟨rfl, Inv_bad hI hN⟩
          · by_cases g4 : m < 6
            · have fA := aDi_f (x1 := x1) (x2 := x2) (x3 := x3) r0 g4
              have z1 : ¬ (f_Town_addDish S 1 x1 x2 x3 = -1) := by rw [fA, eqM_F (by omega)]; exact id
              have z2 : ¬ (nI m = 6) := by rw [eqL_F (by omega) (by omega) (by omega)]; exact id
              simp only [if_neg g1, if_neg g2, if_neg g3, if_neg z1, if_neg z2]
              rw [fA, aDi_g r0 g4]
              clear z1 fA
              obtain ⟨a1, _, b1, rfl⟩ := wi_L (a := 0) (b := 5) (by decide) g1 (by decide)
              obtain ⟨a2, _, b2, rfl⟩ := wi_L (a := 1) (b := 30) (by decide) g2 (by decide)
              obtain ⟨a3, _, b3, rfl⟩ := wi_L (a := 0) (b := 9) (by decide) g3 (by decide)
              have e0 : (aDi S 1 (nI a1) (nI a2) (nI a3)).1 232 1 = nI m := by
                unfold aDi; simp (disch := omega) only [wI_cell]; exact c.1.2.2.2.1
              have eo : ∀ c, (c < 1 ∨ 10 < c) → (aDi S 1 (nI a1) (nI a2) (nI a3)).1 c = S.1 c := fun c hc => by
                funext j
                unfold aDi
                simp (disch := omega) only [wI_cell]
              rw [g_adD e0 g4, row_self, eo 232 (by omega)]
              refine ⟨?_, Inv_op hI hN (fun c hc => eo c (by omega)) rfl (fun _ _ => rfl) hI.2.2.1.1 rfl (RT_mono (Nat.le_succ N) (RT_dish hrt hI.2.2.1.1 g4 (iN_of rfl b1 (by omega)) (iN_of rfl b2 (by omega)) (iN_of rfl b3 (by omega))))⟩
              unfold adD
              rw [up1_eq]
              exact (nI_pred m).symm
            · have e8 : m = 6 := by omega
              have r8 : S.1 1 7 = nI 6 := by rw [r0, e8]
              have z1 := aDi_f6 (x1 := x1) (x2 := x2) (x3 := x3) r8
              have z2 : nI m = 6 := by rw [e8]; rfl
              simp only [if_neg g1, if_neg g2, if_neg g3, if_pos z1, if_pos z2]
              rw [aDi_g6 r8]
              exact ⟨rfl, Inv_full hI hN⟩
theorem c_wind (hI : Inv S N) (hN : N < 600) : pair vI k_X_wind k_M_wind [.ref 0, .int x1, .int x2] [.ref 231, .int x1, .int x2] S N := by
  obtain ⟨n, m, q, u, y, c, mx, hr, hrt⟩ := Inv_cx hI
  have w4 : ∀ {x : Int32}, ¬ f_X_within x 0 3 = 0 → ∃ j, j < 4 ∧ x = nI j := fun h => by
    obtain ⟨a, _, b, e⟩ := wi_L (a := 0) (b := 3) (by decide) h (by decide)
    exact ⟨a, by omega, e⟩
  refine ps_sp (s_X_wind fun z _ => ?_) ?_
  · unfold f_X_isWind at z
    obtain ⟨a, b, rfl⟩ := w4 z
    exact vp_in_nI b (by decide)
  · refine ps_sp (s_M_wind fun z _ => ?_) ?_
    · rw [in_lit (by decide) (by decide)] at z
      obtain ⟨a, b, rfl⟩ := w4 z
      simp (disch := omega) only [lit_add, add_lit, lit_mul, mul_lit, nI_add, nI_clamp, nI_subI, nI_sub1, nI_divL, vp_T, ge_F, ge_T, geL_F, geL_T, leL_F, leL_T, le0_F, le0_T, ge0_T, row_self, row_ne, row_l, row_p, row_row, wI_row, wI_same, wI_cell, wI_place, wI_l, wI_p, lt_T, lt_F, ltL_T, ltL_F, gtL_T, gtL_F, lt0_F, eq_T, eq_F, eqL_T, eqL_F, eqM_F, leM_F, nat_mod, i_10, i_01, i_m1, eq_self_iff_true, rw8_lt, up1_ne, up1_eq, wi_T, ite_self, tg_1, tg_68, tg_124, tg_177, tg_11, tg_17, tg_59, tg_78, tg_84, ln_7, ln_16, ln_233, ln_232, ln_6, true_and, and_true, not_true_eq_false, not_false_eq_true, false_implies, true_implies, implies_true, forall_const, forall_eq, if_true, if_false, false_and, and_false]
    · unfold f_X_wind f_M_wind g_M_wind g_X_wind f_X_isWind
      rw [in_lit (by decide) (by decide), in_lit (by decide) (by decide)]
      by_cases g1 : f_X_within x1 0 3 = 0
      · simp only [if_pos g1]; exact ⟨rfl, Inv_bad hI hN⟩
      · by_cases g2 : f_X_within x2 0 3 = 0
        · simp only [if_neg g1, if_pos g2]; exact ⟨rfl, Inv_bad hI hN⟩
        · simp only [if_neg g1, if_neg g2]
          obtain ⟨a, ha, rfl⟩ := w4 g1
          obtain ⟨b, hb, rfl⟩ := w4 g2
          simp (disch := omega) only [lit_add, add_lit, lit_mul, mul_lit, nI_add, nI_clamp, nI_subI, nI_sub1, nI_divL, vp_T, ge_F, ge_T, geL_F, geL_T, leL_F, leL_T, le0_F, le0_T, ge0_T, row_self, row_ne, row_l, row_p, row_row, wI_row, wI_same, wI_cell, wI_place, wI_l, wI_p, lt_T, lt_F, ltL_T, ltL_F, gtL_T, gtL_F, lt0_F, eq_T, eq_F, eqL_T, eqL_F, eqM_F, leM_F, nat_mod, i_10, i_01, i_m1, eq_self_iff_true, rw8_lt, up1_ne, up1_eq, wi_T, ite_self, tg_1, tg_68, tg_124, tg_177, tg_11, tg_17, tg_59, tg_78, tg_84, ln_7, ln_16, ln_233, ln_232, ln_6, true_and, and_true, not_true_eq_false, not_false_eq_true, false_implies, true_implies, implies_true, forall_const, forall_eq, if_true, if_false, false_and, and_false]
          refine ⟨c.2.1.2.2.2.2.2.2.2.1 a ha, ?_⟩
          exact Inv_op (S1 := fm_wI S 7 a (nI b)) hI hN (fun c hc => wI_ce (by omega)) rfl (fun _ _ => rfl) hI.2.2.1.1 (wI_as _ _ _ _) (RT_mono (Nat.le_succ N) (RT_wind hrt hI.2.2.1.1 ha hb))
theorem c_gate (hI : Inv S N) (hN : N < 600) : pair vI k_X_gate k_M_gate [.ref 0, .int x1, .int x2] [.ref 231, .int x1, .int x2] S N := by
  obtain ⟨n, m, q, u, y, c, mx, hr, hrt⟩ := Inv_cx hI
  have hn := c.1.1
  have w4 : ∀ {x : Int32}, ¬ f_X_within x 0 3 = 0 → ∃ j, j < 4 ∧ x = nI j := fun h => by
    obtain ⟨a, _, b, e⟩ := wi_L (a := 0) (b := 3) (by decide) h (by decide)
    exact ⟨a, by omega, e⟩
  have f232 : (g_X_gate S x1 x2).1 232 = S.1 232 := by
    funext j
    unfold g_X_gate g_X_bad
    repeat' split
    all_goals simp (disch := omega) only [wI_cell]
  refine ps_sp (s_X_gate fun z _ => ?_) ?_
  · unfold f_X_isWind at z
    obtain ⟨a, b, rfl⟩ := w4 z
    exact vp_in_nI b (by decide)
  · refine ps_sp (s_M_gate fun z _ => ?_) ?_
    · rw [in_lit (by decide) (by decide)] at z
      obtain ⟨a, b, rfl⟩ := w4 z
      simp (disch := omega) only [lit_add, add_lit, lit_mul, mul_lit, nI_add, nI_clamp, nI_subI, nI_sub1, nI_divL, vp_T, ge_F, ge_T, geL_F, geL_T, leL_F, leL_T, le0_F, le0_T, ge0_T, row_self, row_ne, row_l, row_p, row_row, wI_row, wI_same, wI_cell, wI_place, wI_l, wI_p, lt_T, lt_F, ltL_T, ltL_F, gtL_T, gtL_F, lt0_F, eq_T, eq_F, eqL_T, eqL_F, eqM_F, leM_F, nat_mod, i_10, i_01, i_m1, eq_self_iff_true, rw8_lt, up1_ne, up1_eq, wi_T, ite_self, tg_1, tg_68, tg_124, tg_177, tg_11, tg_17, tg_59, tg_78, tg_84, ln_7, ln_16, ln_233, ln_232, ln_6, true_and, and_true, not_true_eq_false, not_false_eq_true, false_implies, true_implies, implies_true, forall_const, forall_eq, if_true, if_false, false_and, and_false]
    · unfold f_X_gate f_M_gate g_M_gate f_X_isWind
      rw [in_lit (by decide) (by decide), mStreet (MX_1 f232 mx), xStreet c]
      unfold g_X_gate f_X_isWind
      rw [xStreet c]
      by_cases g1 : f_X_within x1 0 3 = 0
      · simp only [if_pos g1]; exact ⟨rfl, Inv_bad hI hN⟩
      · by_cases g2 : f_X_within x2 0 (nI n - 1) = 0
        · simp only [if_neg g1, if_pos g2]; exact ⟨rfl, Inv_bad hI hN⟩
        · simp only [if_neg g1, if_neg g2]
          obtain ⟨a, ha, rfl⟩ := w4 g1
          obtain ⟨b, hb, rfl⟩ := wi_ne (by omega) g2
          simp (disch := omega) only [lit_add, add_lit, lit_mul, mul_lit, nI_add, nI_clamp, nI_subI, nI_sub1, nI_divL, vp_T, ge_F, ge_T, geL_F, geL_T, leL_F, leL_T, le0_F, le0_T, ge0_T, row_self, row_ne, row_l, row_p, row_row, wI_row, wI_same, wI_cell, wI_place, wI_l, wI_p, lt_T, lt_F, ltL_T, ltL_F, gtL_T, gtL_F, lt0_F, eq_T, eq_F, eqL_T, eqL_F, eqM_F, leM_F, nat_mod, i_10, i_01, i_m1, eq_self_iff_true, rw8_lt, up1_ne, up1_eq, wi_T, ite_self, tg_1, tg_68, tg_124, tg_177, tg_11, tg_17, tg_59, tg_78, tg_84, ln_7, ln_16, ln_233, ln_232, ln_6, true_and, and_true, not_true_eq_false, not_false_eq_true, false_implies, true_implies, implies_true, forall_const, forall_eq, if_true, if_false, false_and, and_false]
          refine ⟨c.2.1.2.2.2.2.2.2.1 a ha, ?_⟩
          exact Inv_op (S1 := fm_wI S 6 a (nI b)) hI hN (fun c hc => wI_ce (by omega)) rfl (fun _ _ => rfl) hI.2.2.1.1 (wI_as _ _ _ _) (RT_mono (Nat.le_succ N) (RT_gate hrt hI.2.2.1.1 ha hb))
theorem c_lane (hI : Inv S N) (hN : N < 600) : pair vI k_X_lane k_M_lane [.ref 0, .int x1, .int x2] [.ref 231, .int x1, .int x2] S N := by
  obtain ⟨n, m, q, u, y, c, mx, hr, hrt⟩ := Inv_cx hI
  have hn := c.1.1
  have f232 : (g_X_lane S x1 x2).1 232 = S.1 232 := by
    funext j
    unfold g_X_lane g_X_bad g_X_no g_Town_addLane
    repeat' split
    all_goals simp (disch := omega) only [wI_cell]
  have ix : ∀ a b, a < 8 → b < 8 → ((53 : Int32) + 8 * nI a) + nI b = nI (53 + (8 * a + b)) := fun a b ha hb => by
    simp (disch := omega) only [lit_add, add_lit, lit_mul, mul_lit, nI_add, nI_clamp, nI_subI, nI_sub1, nI_divL, vp_T, ge_F, ge_T, geL_F, geL_T, leL_F, leL_T, le0_F, le0_T, ge0_T, row_self, row_ne, row_l, row_p, row_row, wI_row, wI_same, wI_cell, wI_place, wI_l, wI_p, lt_T, lt_F, ltL_T, ltL_F, gtL_T, gtL_F, lt0_F, eq_T, eq_F, eqL_T, eqL_F, eqM_F, leM_F, nat_mod, i_10, i_01, i_m1, eq_self_iff_true, rw8_lt, up1_ne, up1_eq, wi_T, ite_self, tg_1, tg_68, tg_124, tg_177, tg_11, tg_17, tg_59, tg_78, tg_84, ln_7, ln_16, ln_233, ln_232, ln_6, true_and, and_true, not_true_eq_false, not_false_eq_true, false_implies, true_implies, implies_true, forall_const, forall_eq, if_true, if_false, false_and, and_false]
    try rw [Nat.add_assoc]
  refine ps_sp (s_X_lane (fun z _ _ => ?_) fun _ z _ _ => ?_) ?_
  · rw [xStreet c] at z
    obtain ⟨a, b, rfl⟩ := wi_ne (by omega) z
    exact vp_in_nI (by omega) (by decide)
  · rw [xStreet c] at z
    obtain ⟨a, b, rfl⟩ := wi_ne (by omega) z
    exact vp_in_nI (by omega) (by decide)
  · refine ps_sp (s_M_lane (fun z z' _ => ?_) (fun z z' _ _ => ?_) fun z z' _ _ => ?_) ?_
    iterate 3
      · rw [mStreet (MX_1 f232 mx)] at z z'
        obtain ⟨a, ha, rfl⟩ := wi_ne (by omega) z
        obtain ⟨b, hb, rfl⟩ := wi_ne (by omega) z'
        rw [ix _ _ (by omega) (by omega)]
        first | exact vp_in_nI (N := 373) (by omega) (by decide) | (rw [ln_232]; exact vp_in_nI (N := 373) (by omega) (by decide))
    · unfold f_X_lane f_M_lane g_M_lane
      rw [mStreet (MX_1 f232 mx), mStreet (MX_1 f232 mx), xStreet c, xStreet c, f232]
      unfold g_X_lane
      rw [xStreet c, xStreet c]
      by_cases g1 : f_X_within x1 0 (nI n - 1) = 0
      · simp only [if_pos g1]; exact ⟨rfl, Inv_bad hI hN⟩
      · by_cases g2 : f_X_within x2 0 (nI n - 1) = 0
        · simp only [if_neg g1, if_pos g2]; exact ⟨rfl, Inv_bad hI hN⟩
        · by_cases g3 : x1 = x2
          · simp only [if_neg g1, if_neg g2, if_pos g3]; exact ⟨rfl, Inv_bad hI hN⟩
          · simp only [if_neg g1, if_neg g2, if_neg g3]
            obtain ⟨a, ha, rfl⟩ := wi_ne (by omega) g1
            obtain ⟨b, hb, rfl⟩ := wi_ne (by omega) g2
            have hl : f_Town_hasLane S 1 (nI a) (nI b) = S.1 232 (53 + (8 * a + b)) := by
              unfold f_Town_hasLane
              rw [nI_clamp (by omega)]
              exact c.2.1.2.2.2.2.2.1 a b (by omega) (by omega)
            have h01 : f_Town_hasLane S 1 (nI a) (nI b) = 0 ∨ f_Town_hasLane S 1 (nI a) (nI b) = 1 := fb_X_has _ _
            rw [ix a b (by omega) (by omega), nI_clamp (by omega), ← hl]
            rcases h01 with h | h
            · rw [h]
              simp only [if_true, i_01, if_false]
              refine ⟨trivial, ?_⟩
              have hab : a ≠ b := fun e => g3 (by rw [e])
              have eo : ∀ c, c ≠ 5 → (g_Town_addLane S 1 (nI a) (nI b)).1 c = S.1 c := fun c hc => by
                funext j
                unfold g_Town_addLane
                simp (disch := omega) only [wI_cell]
              rw [g_adL (by omega) (by omega), eo 232 (by omega)]
              exact Inv_op hI hN (fun c hc => eo c (by omega)) rfl (fun _ _ => rfl) hI.2.2.1.1 rfl (RT_mono (Nat.le_succ N) (RT_lane hrt hI.2.2.1.1 ha hb hab))
            · rw [h]
              simp only [i_10, if_true, if_false]
              exact ⟨rfl, Inv_no hI hN⟩
theorem c_forget (hI : Inv S N) (hN : N < 600) : pair vI k_X_forget k_M_forget [.ref 0] [.ref 231] S N := by
  obtain ⟨n, m, q, u, y, c, mx, hr, hrt⟩ := Inv_cx hI
  refine ps_sp s_X_forget (ps_sp s_M_forget ?_)
  unfold f_X_forget f_M_forget g_M_forget g_X_forget
  refine ⟨?_, ?_⟩
  · rw [wI_cell (by omega), hr.2.1]; exact hr.2.2.1
  · exact Inv_op (S1 := fm_wI S 11 0 0) hI hN (fun c hc => wI_ce (by omega)) rfl (fun _ _ => rfl) hI.2.2.1.1 (wI_as _ _ _ _) (RT_mono (Nat.le_succ N) (RT_forget hrt hI.2.2.1.1))
theorem c_of (hI : Inv S N) (hN : N < 600) : pair vI k_X_of k_M_of [.ref 0, .int x1, .int x2] [.ref 231, .int x1, .int x2] S N := by
  obtain ⟨n, m, q, u, y, c, mx, hr, hrt⟩ := Inv_cx hI
  have hn := c.1.1
  have f232 : (g_X_of S x1 x2).1 232 = S.1 232 := by
    funext j
    unfold g_X_of g_X_badTen
    repeat' split
    all_goals first | rfl | simp (disch := omega) only [wI_cell]
  have v8 : ¬ f_X_isStreet S x1 = 0 → vp_in x1 8 := fun z => by
    rw [xStreet c] at z
    obtain ⟨a, b, rfl⟩ := wi_ne (by omega) z
    exact vp_in_nI (by omega) (by decide)
  refine ps_sp (s_X_of (fun z _ => v8 z) (fun z _ => v8 z) (fun z _ => v8 z) (fun z _ => v8 z) (fun z _ => v8 z) fun z _ => v8 z) ?_
  refine ps_sp (s_M_of fun z z' => ?_) ?_
  · rw [mStreet (MX_1 f232 mx)] at z
    rw [in_lit (by decide) (by decide)] at z'
    obtain ⟨a, ha, rfl⟩ := wi_ne (by omega) z
    obtain ⟨b, _, hb, rfl⟩ := wi_L (a := 0) (b := 5) (by decide) z' (by decide)
    simp (disch := omega) only [lit_add, add_lit, lit_mul, mul_lit, nI_add, nI_clamp, nI_subI, nI_sub1, nI_divL, vp_T, ge_F, ge_T, geL_F, geL_T, leL_F, leL_T, le0_F, le0_T, ge0_T, row_self, row_ne, row_l, row_p, row_row, wI_row, wI_same, wI_cell, wI_place, wI_l, wI_p, lt_T, lt_F, ltL_T, ltL_F, gtL_T, gtL_F, lt0_F, eq_T, eq_F, eqL_T, eqL_F, eqM_F, leM_F, nat_mod, i_10, i_01, i_m1, eq_self_iff_true, rw8_lt, up1_ne, up1_eq, wi_T, ite_self, tg_1, tg_68, tg_124, tg_177, tg_11, tg_17, tg_59, tg_78, tg_84, ln_7, ln_16, ln_233, ln_232, ln_6, true_and, and_true, not_true_eq_false, not_false_eq_true, false_implies, true_implies, implies_true, forall_const, forall_eq, if_true, if_false, false_and, and_false]
  · unfold f_X_of f_M_of g_M_of
    rw [mStreet (MX_1 f232 mx), in_lit (by decide) (by decide), xStreet c, f232]
    unfold g_X_of
    rw [xStreet c]
    by_cases g1 : f_X_within x1 0 (nI n - 1) = 0
    · simp only [if_pos g1]; exact ⟨rfl, Inv_bad10 hI hN⟩
    · obtain ⟨a, ha, rfl⟩ := wi_ne (by omega) g1
      by_cases g2 : f_X_within x2 0 5 = 0
      · have ne : ∀ j, j ≤ 5 → ¬ x2 = nI j := fun j hj e => by
          rw [e] at g2
          have : f_X_within (nI j) 0 (nI 5) = 1 := wi_T hj (by decide)
          rw [show (5 : Int32) = nI 5 from rfl, this] at g2
          cases g2
        have a0 := ne 0 (by omega)
        have a1 := ne 1 (by omega)
        have a2 := ne 2 (by omega)
        have a3 := ne 3 (by omega)
        have a4 := ne 4 (by omega)
        have a5 := ne 5 (by omega)
        rw [show nI 0 = 0 from rfl] at a0
        rw [show nI 1 = 1 from rfl] at a1
        rw [show nI 2 = 2 from rfl] at a2
        rw [show nI 3 = 3 from rfl] at a3
        rw [show nI 4 = 4 from rfl] at a4
        rw [show nI 5 = 5 from rfl] at a5
        simp only [if_neg g1, if_pos g2, a0, a1, a2, a3, a4, a5, if_false]
        exact ⟨rfl, Inv_bad10 hI hN⟩
      · obtain ⟨b, _, hb, rfl⟩ := wi_L (a := 0) (b := 5) (by decide) g2 (by decide)
        have k0 : S.1 2 a = S.1 232 (5 + a) := c.2.1.2.2.1 a ha
        have k1 : S.1 3 a = S.1 232 (13 + a) := c.2.1.2.2.2.1 a ha
        have k2 : S.1 4 a = S.1 232 (21 + a) := c.2.1.2.2.2.2.1 a ha
        have k3 : S.1 18 a = S.1 232 (29 + a) := by rw [show S.1 18 a = ow (S.1 232) (1 + a) from c.2.2.1.2.1 a ha, ow_1]
        have k4 : S.1 19 a = S.1 232 (37 + a) := by rw [show S.1 19 a = ow (S.1 232) (9 + a) from c.2.2.1.2.2.1 a ha, ow_2]
        have k5 : S.1 20 a = S.1 232 (45 + a) := by rw [show S.1 20 a = ow (S.1 232) (17 + a) from c.2.2.1.2.2.2.1 a ha, ow_3]
        have : b = 0 ∨ b = 1 ∨ b = 2 ∨ b = 3 ∨ b = 4 ∨ b = 5 := by omega
        simp only [if_neg g1, if_neg g2]
        rcases this with rfl | rfl | rfl | rfl | rfl | rfl
        all_goals simp (disch := omega) only [lit_add, add_lit, lit_mul, mul_lit, nI_add, nI_clamp, nI_subI, nI_sub1, nI_divL, vp_T, ge_F, ge_T, geL_F, geL_T, leL_F, leL_T, le0_F, le0_T, ge0_T, row_self, row_ne, row_l, row_p, row_row, wI_row, wI_same, wI_cell, wI_place, wI_l, wI_p, lt_T, lt_F, ltL_T, ltL_F, gtL_T, gtL_F, lt0_F, eq_T, eq_F, eqL_T, eqL_F, eqM_F, leM_F, nat_mod, i_10, i_01, i_m1, eq_self_iff_true, rw8_lt, up1_ne, up1_eq, wi_T, ite_self, tg_1, tg_68, tg_124, tg_177, tg_11, tg_17, tg_59, tg_78, tg_84, ln_7, ln_16, ln_233, ln_232, ln_6, true_and, and_true, not_true_eq_false, not_false_eq_true, false_implies, true_implies, implies_true, forall_const, forall_eq, if_true, if_false, false_and, and_false, k0, k1, k2, k3, k4, k5]
        all_goals exact Inv_up hI hN
theorem c_part (hI : Inv S N) (hN : N < 600) : pair vL k_X_part k_M_part [.ref 0, .int x1] [.ref 231, .int x1] S N := by
  refine ps_sp s_X_part (ps_sp s_M_part ?_)
  unfold f_X_part f_M_part g_M_part g_X_part
  rw [in_lit (by decide) (by decide)]
  by_cases g1 : x1 = 0
  · subst g1
    rw [show f_X_within 0 0 1 = 1 by decide]
    simp only [if_true, i_10, if_false]
    exact ⟨hI.2.2.2.2.2.1.1, Inv_up hI hN⟩
  · by_cases g2 : x1 = 1
    · subst g2
      rw [show f_X_within 1 0 1 = 1 by decide]
      simp only [if_true, i_10, if_false]
      exact ⟨hI.2.2.2.2.2.1.2, Inv_up hI hN⟩
    · have g3 : f_X_within x1 0 1 = 0 := by
        rcases wi_iff (x := x1) (a := 0) (b := 1) with h | h
        · exact h
        · obtain ⟨a, _, b, rfl⟩ := wi_L (x := x1) (a := 0) (b := 1) (by decide) (fun z => by rw [show nI 0 = 0 from rfl, show nI 1 = 1 from rfl, h] at z; cases z) (by decide)
          have : a = 0 ∨ a = 1 := by omega
          rcases this with rfl | rfl
          · exact absurd rfl g1
          · exact absurd rfl g2
      simp only [if_neg g1, if_neg g2, if_pos g3]
      exact ⟨rfl, Inv_bad hI hN⟩
theorem c_status (hI : Inv S N) (hN : N < 600) : pair vI k_X_status k_M_status [.ref 0, .int x1] [.ref 231, .int x1] S N := by
  have hs := hI.2.2.2.2.2.2
  refine ps_sp s_X_status (ps_sp s_M_status ?_)
  unfold f_X_status f_M_status g_M_status g_X_status
  rw [in_lit (by decide) (by decide)]
  by_cases g1 : x1 = 0
  · subst g1
    rw [show f_X_within 0 0 2 = 1 by decide]
    simp only [if_true, i_10, if_false]
    exact ⟨hs.1, Inv_up hI hN⟩
  · by_cases g2 : x1 = 1
    · subst g2
      rw [show f_X_within 1 0 2 = 1 by decide]
      simp only [if_true, i_10, if_false]
      exact ⟨hs.2.1, Inv_up hI hN⟩
    · by_cases g2' : x1 = 2
      · subst g2'
        rw [show f_X_within 2 0 2 = 1 by decide]
        simp only [if_true, i_10, if_false, g1, g2]
        exact ⟨hs.2.2, Inv_up hI hN⟩
      · have g3 : f_X_within x1 0 2 = 0 := by
          rcases wi_iff (x := x1) (a := 0) (b := 2) with h | h
          · exact h
          · obtain ⟨a, _, b, rfl⟩ := wi_L (x := x1) (a := 0) (b := 2) (by decide) (fun z => by rw [show nI 0 = 0 from rfl, show nI 2 = 2 from rfl, h] at z; cases z) (by decide)
            have : a = 0 ∨ a = 1 ∨ a = 2 := by omega
            rcases this with rfl | rfl | rfl
            · exact absurd rfl g1
            · exact absurd rfl g2
            · exact absurd rfl g2'
        simp only [if_neg g1, if_neg g2, if_neg g2', if_pos g3]
        exact ⟨trivial, Inv_bad hI hN⟩
end CALLS2
