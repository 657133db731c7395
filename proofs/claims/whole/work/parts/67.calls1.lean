/-! the calls, one by one: the queries -/
section CALLS
variable {S : fm_S} {N : Nat} {x1 x2 x3 x4 x5 : Int32}
theorem wi_01 {x a b : Int32} (h : ¬ f_X_within x a b = 0) : f_X_within x a b = 1 := (fb_X_within x a b).resolve_left h
theorem c_smells (hI : Inv S N) (hN : N < 600) : pair vI k_X_smells k_M_smells [.ref 0, .int x1, .int x2, .int x3] [.ref 231, .int x1, .int x2, .int x3] S N := by
  obtain ⟨n, m, q, u, y, c, mx, -⟩ := Inv_cx hI
  have hn := c.1.1
  have hm := c.1.2.1
  have mb : MX (g_X_bad S) n m y := MX_1 (wI_ce (by omega)) mx
  unfold pair
  refine e_X_smells ?_
  unfold f_X_isWind
  rw [xDish c, xStreet c]
  refine ⟨fun g1 => ?_, fun g1 => ⟨fun g2 => ?_, fun g2 => ⟨fun g3 => ?_, fun g3 => ?_⟩⟩⟩
  · refine e_M_smells ?_
    rw [mDish mb]
    exact ⟨fun _ => ⟨rfl, Inv_bad hI hN⟩, fun z => absurd g1 z⟩
  · refine e_M_smells ?_
    rw [mDish mb, in_lit (by decide) (by decide)]
    exact ⟨fun z => absurd z g1, fun _ => ⟨fun _ => ⟨rfl, Inv_bad hI hN⟩, fun z => absurd g2 z⟩⟩
  · refine e_M_smells ?_
    rw [mDish mb, in_lit (by decide) (by decide), mStreet mb]
    exact ⟨fun z => absurd z g1, fun _ => ⟨fun z => absurd z g2, fun _ => ⟨fun _ => ⟨rfl, Inv_bad hI hN⟩, fun z => absurd g3 z⟩⟩⟩
  · obtain ⟨dd, hd, rfl⟩ := wi_ne (by omega) g1
    obtain ⟨x, hx, rfl⟩ := wi_ne (by omega) g3
    obtain ⟨w, hw0, hw, rfl⟩ := wi_L (a := 0) (b := 3) (by decide) g2 (by decide)
    refine s_xstrength c hd (by omega) hx fun S1 hS1 => ?_
    have mx1 : MX S1 n m y := MX_1 (hS1.1 232 (by omega)) mx
    obtain ⟨es, ls⟩ := mx1.1.2.2.2.2.2.2.2.2.2.2.1 dd hd
    have e232 : S1.1 232 = S.1 232 := hS1.1 232 (by omega)
    refine e_M_smells ?_
    rw [mDish mx1, in_lit (by decide) (by decide), mStreet mx1]
    refine ⟨fun z => absurd z g1, fun _ => ⟨fun z => absurd z g2, fun _ => ⟨fun z => absurd z g3, fun _ => ?_⟩⟩⟩
    simp (disch := omega) only [lit_add, add_lit, lit_mul, mul_lit, nI_add, nI_clamp, nI_subI, nI_sub1, nI_divL, vp_T, ge_F, ge_T, geL_F, geL_T, leL_F, leL_T, le0_F, le0_T, ge0_T, row_self, row_ne, row_l, row_p, row_row, wI_row, wI_same, wI_cell, wI_place, wI_l, wI_p, lt_T, lt_F, ltL_T, ltL_F, gtL_T, gtL_F, lt0_F, eq_T, eq_F, eqL_T, eqL_F, eqM_F, leM_F, nat_mod, i_10, i_01, i_m1, eq_self_iff_true, rw8_lt, up1_ne, up1_eq, wi_T, ite_self, tg_1, tg_68, tg_124, tg_177, tg_11, tg_17, tg_59, tg_78, tg_84, ln_7, ln_16, ln_233, ln_232, ln_6, true_and, and_true, not_true_eq_false, not_false_eq_true, false_implies, true_implies, implies_true, forall_const, forall_eq, if_true, if_false, false_and, and_false]
    rw [es]
    refine s_ms (mm := 0) mx1.1 ls (by omega) (by omega) fun v hv => ?_
    rw [row_self, hv x (by omega), e232]
    exact ⟨rfl, Inv_q hI hN hS1 (ex_row (ex_id _) (by decide) (by decide))⟩
theorem c_moved (hI : Inv S N) (hN : N < 600) : pair vI k_X_moved k_M_moved [.ref 0, .int x1, .int x2] [.ref 231, .int x1, .int x2] S N := by
  obtain ⟨n, m, q, u, y, c, mx, -⟩ := Inv_cx hI
  have hn := c.1.1
  have hm := c.1.2.1
  have hyb := c.2.2.2.2
  have mb : MX (g_X_bad S) n m y := MX_1 (wI_ce (by omega)) mx
  unfold pair
  refine e_X_moved ?_
  rw [xDish c, xStreet c]
  refine ⟨fun g1 => ?_, fun g1 => ⟨fun g2 => ?_, fun g2 => ?_⟩⟩
  · refine e_M_moved ?_
    rw [mDish mb]
    exact ⟨fun _ => ⟨rfl, Inv_bad hI hN⟩, fun z => absurd g1 z⟩
  · refine e_M_moved ?_
    rw [mDish mb, mStreet mb]
    exact ⟨fun z => absurd z g1, fun _ => ⟨fun _ => ⟨rfl, Inv_bad hI hN⟩, fun z => absurd g2 z⟩⟩
  · obtain ⟨dd, hd, rfl⟩ := wi_ne (by omega) g1
    obtain ⟨x, hx, rfl⟩ := wi_ne (by omega) g2
    refine s_xpullNow c hd hx fun S1 hS1 => ?_
    have mx1 : MX S1 n m y := MX_1 (hS1.1 232 (by omega)) mx
    have hy := mx1.2.1
    obtain ⟨es, ls⟩ := mx1.1.2.2.2.2.2.2.2.2.2.2.1 dd hd
    obtain ⟨ew, lw⟩ := wd_lt (z := y) mx1.1
    have e232 : S1.1 232 = S.1 232 := hS1.1 232 (by omega)
    have hyt : tn (S1.1 232 4) = y := by rw [hy]; unfold tn; exact nI_clamp (by omega)
    refine e_M_moved ?_
    rw [mDish mx1, mStreet mx1]
    refine ⟨fun z => absurd z g1, fun _ => ⟨fun z => absurd z g2, fun _ => ?_⟩⟩
    unfold f_M_windOf
    simp (disch := omega) only [lit_add, add_lit, lit_mul, mul_lit, nI_add, nI_clamp, nI_subI, nI_sub1, nI_divL, vp_T, ge_F, ge_T, geL_F, geL_T, leL_F, leL_T, le0_F, le0_T, ge0_T, row_self, row_ne, row_l, row_p, row_row, wI_row, wI_same, wI_cell, wI_place, wI_l, wI_p, lt_T, lt_F, ltL_T, ltL_F, gtL_T, gtL_F, lt0_F, eq_T, eq_F, eqL_T, eqL_F, eqM_F, leM_F, nat_mod, i_10, i_01, i_m1, eq_self_iff_true, rw8_lt, up1_ne, up1_eq, wi_T, ite_self, tg_1, tg_68, tg_124, tg_177, tg_11, tg_17, tg_59, tg_78, tg_84, ln_7, ln_16, ln_233, ln_232, ln_6, true_and, and_true, not_true_eq_false, not_false_eq_true, false_implies, true_implies, implies_true, forall_const, forall_eq, if_true, if_false, false_and, and_false, hy, ew]
    rw [es]
    refine s_ms (mm := 0) mx1.1 ls lw (by omega) fun v hv => ?_
    simp (disch := omega) only [lit_add, add_lit, lit_mul, mul_lit, nI_add, nI_clamp, nI_subI, nI_sub1, nI_divL, vp_T, ge_F, ge_T, geL_F, geL_T, leL_F, leL_T, le0_F, le0_T, ge0_T, row_self, row_ne, row_l, row_p, row_row, wI_row, wI_same, wI_cell, wI_place, wI_l, wI_p, lt_T, lt_F, ltL_T, ltL_F, gtL_T, gtL_F, lt0_F, eq_T, eq_F, eqL_T, eqL_F, eqM_F, leM_F, nat_mod, i_10, i_01, i_m1, eq_self_iff_true, rw8_lt, up1_ne, up1_eq, wi_T, ite_self, tg_1, tg_68, tg_124, tg_177, tg_11, tg_17, tg_59, tg_78, tg_84, ln_7, ln_16, ln_233, ln_232, ln_6, true_and, and_true, not_true_eq_false, not_false_eq_true, false_implies, true_implies, implies_true, forall_const, forall_eq, if_true, if_false, false_and, and_false, movedIn_eq]
    refine ⟨?_, Inv_q hI hN hS1 (ex_row (ex_id _) (by decide) (by decide))⟩
    unfold mvI
    rw [hv x (by omega), ← e232, hyt]
theorem c_falls (hI : Inv S N) (hN : N < 600) : pair vI k_X_falls k_M_falls [.ref 0, .int x1, .int x2] [.ref 231, .int x1, .int x2] S N := by
  obtain ⟨n, m, q, u, y, c, mx, -⟩ := Inv_cx hI
  have hn := c.1.1
  have hm := c.1.2.1
  have mb : MX (g_X_bad S) n m y := MX_1 (wI_ce (by omega)) mx
  unfold pair
  refine e_X_falls ?_
  rw [xDish c, xStreet c]
  refine ⟨fun g1 => ?_, fun g1 => ⟨fun g2 => ?_, fun g2 => ?_⟩⟩
  · refine e_M_falls ?_
    rw [mDish mb]
    exact ⟨fun _ => ⟨rfl, Inv_bad hI hN⟩, fun z => absurd g1 z⟩
  · refine e_M_falls ?_
    rw [mDish mb, mStreet mb]
    exact ⟨fun z => absurd z g1, fun _ => ⟨fun _ => ⟨rfl, Inv_bad hI hN⟩, fun z => absurd g2 z⟩⟩
  · obtain ⟨dd, hd, rfl⟩ := wi_ne (by omega) g1
    obtain ⟨x, hx, rfl⟩ := wi_ne (by omega) g2
    refine s_xfalls c hd hx fun S1 hS1 => ?_
    have mx1 : MX S1 n m y := MX_1 (hS1.1 232 (by omega)) mx
    have e232 : S1.1 232 = S.1 232 := hS1.1 232 (by omega)
    refine e_M_falls ?_
    rw [mDish mx1, mStreet mx1]
    refine ⟨fun z => absurd z g1, fun _ => ⟨fun z => absurd z g2, fun _ => ?_⟩⟩
    exact s_mfalls mx1 hd hx fun S2 hS2 => ⟨by rw [e232], Inv_q hI hN hS1 hS2⟩
theorem c_never (hI : Inv S N) (hN : N < 600) : pair vI k_X_never k_M_never [.ref 0] [.ref 231] S N := by
  obtain ⟨n, m, q, u, y, c, mx, -⟩ := Inv_cx hI
  refine e_X_never ?_
  refine s_xnever c fun S1 hS1 => ?_
  have e232 : S1.1 232 = S.1 232 := hS1.1 232 (by omega)
  exact s_mnever (MX_1 e232 mx) fun S2 hS2 => ⟨by rw [e232], Inv_q hI hN hS1 hS2⟩
theorem c_least (hI : Inv S N) (hN : N < 600) : pair vI k_X_least k_M_least [.ref 0] [.ref 231] S N := by
  obtain ⟨n, m, q, u, y, c, mx, -⟩ := Inv_cx hI
  refine e_X_least ?_
  refine s_xleast c fun S1 hS1 => ?_
  have e232 : S1.1 232 = S.1 232 := hS1.1 232 (by omega)
  exact s_mleast (MX_1 e232 mx) fun S2 hS2 => ⟨by rw [e232], Inv_q hI hN hS1 hS2⟩
theorem c_game (hI : Inv S N) (hN : N < 600) : pair vI k_X_game k_M_game [.ref 0, .int x1] [.ref 231, .int x1] S N := by
  obtain ⟨n, m, q, u, y, c, mx, -⟩ := Inv_cx hI
  refine e_X_game ⟨fun g1 => ?_, fun g1 => ?_⟩
  · refine e_M_game ?_
    rw [in_lit (by decide) (by decide)]
    exact ⟨fun _ => ⟨rfl, Inv_bad hI hN⟩, fun z => absurd g1 z⟩
  · obtain ⟨w, hw0, hw, rfl⟩ := wi_L (a := 0) (b := 9) (by decide) g1 (by decide)
    refine s_xgame c (by omega) fun S1 hS1 => ?_
    have e232 : S1.1 232 = S.1 232 := hS1.1 232 (by omega)
    refine e_M_game ?_
    rw [in_lit (by decide) (by decide)]
    exact ⟨fun z => absurd z g1, fun _ => s_mgame (MX_1 e232 mx) (by omega) fun S2 hS2 => ⟨by rw [e232], Inv_q hI hN hS1 hS2⟩⟩
theorem c_answer (hI : Inv S N) (hN : N < 600) : pair vI k_X_answer k_M_answer [.ref 0, .int x1, .int x2, .int x3] [.ref 231, .int x1, .int x2, .int x3] S N := by
  obtain ⟨n, m, q, u, y, c, mx, -⟩ := Inv_cx hI
  have hn := c.1.1
  have hm := c.1.2.1
  have hyb := c.2.2.2.2
  have mb : MX (g_X_bad S) n m y := MX_1 (wI_ce (by omega)) mx
  unfold pair
  refine e_X_answer ?_
  rw [xDish c]
  refine ⟨fun g1 => ?_, fun g1 => ⟨fun g2 => ?_, fun g2 => ⟨fun g3 => ?_, fun g3 => ?_⟩⟩⟩
  · refine e_M_answer ?_
    rw [mDish mb]
    exact ⟨fun _ => ⟨rfl, Inv_bad hI hN⟩, fun z => absurd g1 z⟩
  · refine e_M_answer ?_
    rw [mDish mb, in_lit (by decide) (by decide)]
    exact ⟨fun z => absurd z g1, fun _ => ⟨fun _ => ⟨rfl, Inv_bad hI hN⟩, fun z => absurd g2 z⟩⟩
  · refine e_M_answer ?_
    rw [mDish mb, in_lit (by decide) (by decide), in_lit (by decide) (by decide)]
    exact ⟨fun z => absurd z g1, fun _ => ⟨fun z => absurd z g2, fun _ => ⟨fun _ => ⟨rfl, Inv_bad hI hN⟩, fun z => absurd g3 z⟩⟩⟩
  · obtain ⟨dd, hd, rfl⟩ := wi_ne (by omega) g1
    obtain ⟨w, hw0, hw, rfl⟩ := wi_L (a := 0) (b := 9) (by decide) g2 (by decide)
    refine s_xbest c hd (by omega) fun S1 hS1 => ?_
    have ref : ∀ S2 v, ex 54 66 S S2 → v = (if (anP (S.1 232) dd w n n).1 < 0 then (anP (S.1 232) dd w n n).1 else if x3 = 0 then (anP (S.1 232) dd w n n).1 else (anP (S.1 232) dd w n n).2) →
        am_Ps vI 11 k_M_answer [.ref 231, .int (nI dd), .int (nI w), .int x3] S2 fun y S3 => v = y ∧ Inv S3 (N + 1) := by
      intro S2 v hS2 hv
      have e232 : S2.1 232 = S.1 232 := hS2.1 232 (by omega)
      have mx2 := MX_1 e232 mx
      refine e_M_answer ?_
      rw [mDish mx2, in_lit (by decide) (by decide), in_lit (by decide) (by decide)]
      refine ⟨fun z => absurd z g1, fun _ => ⟨fun z => absurd z g2, fun _ => ⟨fun z => absurd z g3, fun _ => ?_⟩⟩⟩
      exact s_manswer mx2 hd (by omega) fun S3 hS3 => ⟨by rw [hv, e232], Inv_q hI hN hS2 hS3⟩
    rcases anP_1 (A := S.1 232) (dd := dd) (mm := w) (n := n) n with h | ⟨k, h1, h2, h3⟩
    · rw [h]
      refine ⟨fun _ => ref S1 _ hS1 (by rw [h, if_pos (by decide)]), fun z => absurd rfl z⟩
    · have hk : (nI k < 0) = False := lt0_F (by omega)
      rw [h2]
      refine ⟨fun z => absurd z (by rw [eqM_F (by omega)]; exact id), fun _ => ⟨fun z => ref S1 _ hS1 ?_, fun z => ?_⟩⟩
      · rw [h2, z]; simp [hk]
      · have c1 := CX_ex hS1 c
        refine s_xo c1.1 c1.2.1 c1.2.2.1 hd c1.2.2.2.1 (by omega) (by omega) fun S2 hS2 => ?_
        refine ref S2 _ (ex_tr hS1 (ex_mono hS2 (by decide) (by decide))) ?_
        rw [h2, h3]
        simp only [hk, if_false, z]
theorem c_craved (hI : Inv S N) (hN : N < 600) : pair vI k_X_craved k_M_craved [.ref 0, .int x1] [.ref 231, .int x1] S N := by
  obtain ⟨n, m, q, u, y, c, mx, hr, -⟩ := Inv_cx hI
  have hn := c.1.1
  have mb : MX (g_X_bad S) n m y := MX_1 (wI_ce (by omega)) mx
  unfold pair
  refine e_X_craved ?_
  rw [xStreet c]
  refine ⟨fun g1 => ?_, fun g1 => ?_⟩
  · refine e_M_craved ?_
    rw [mStreet mb]
    exact ⟨fun _ => ⟨rfl, Inv_bad hI hN⟩, fun z => absurd g1 z⟩
  · obtain ⟨x, hx, rfl⟩ := wi_ne (by omega) g1
    rw [nI_clamp (by omega), show S.1 2 x = S.1 232 (5 + x) from c.2.1.2.2.1 x hx]
    refine ⟨vp_in_nI (by omega) (by decide), s_xcrav hr (c.1.2.2.2.2.1 x hx) ?_⟩
    refine e_M_craved ?_
    rw [mStreet mx]
    refine ⟨fun z => absurd z g1, fun _ => ?_⟩
    simp (disch := omega) only [lit_add, add_lit, lit_mul, mul_lit, nI_add, nI_clamp, nI_subI, nI_sub1, nI_divL, vp_T, ge_F, ge_T, geL_F, geL_T, leL_F, leL_T, le0_F, le0_T, ge0_T, row_self, row_ne, row_l, row_p, row_row, wI_row, wI_same, wI_cell, wI_place, wI_l, wI_p, lt_T, lt_F, ltL_T, ltL_F, gtL_T, gtL_F, lt0_F, eq_T, eq_F, eqL_T, eqL_F, eqM_F, leM_F, nat_mod, i_10, i_01, i_m1, eq_self_iff_true, rw8_lt, up1_ne, up1_eq, wi_T, ite_self, tg_1, tg_68, tg_124, tg_177, tg_11, tg_17, tg_59, tg_78, tg_84, ln_7, ln_16, ln_233, ln_232, ln_6, true_and, and_true, not_true_eq_false, not_false_eq_true, false_implies, true_implies, implies_true, forall_const, forall_eq, if_true, if_false, false_and, and_false]
    exact s_mcrav hr.1 hr.2.1 ⟨rfl, Inv_up hI hN⟩
theorem c_is (hI : Inv S N) (hN : N < 600) : pair vI k_X_is k_M_is [.ref 0, .int x1] [.ref 231, .int x1] S N := by
  obtain ⟨n, m, q, u, y, c, mx, hr, -⟩ := Inv_cx hI
  have hn := c.1.1
  have mb : MX (g_X_bad S) n m y := MX_1 (wI_ce (by omega)) mx
  unfold pair
  refine e_X_is ?_
  rw [xStreet c]
  refine ⟨fun g1 => ?_, fun g1 => ?_⟩
  · refine e_M_is ?_
    rw [mStreet mb]
    exact ⟨fun _ => ⟨rfl, Inv_bad hI hN⟩, fun z => absurd g1 z⟩
  · refine s_xis hr ?_
    refine e_M_is ?_
    rw [mStreet mx]
    exact ⟨fun z => absurd z g1, fun _ => s_mis hr.1 hr.2.1 ⟨rfl, Inv_up hI hN⟩⟩
theorem c_tryNext (hI : Inv S N) (hN : N < 600) : pair vI k_X_tryNext k_M_tryNext [.ref 0, .int x1, .int x2, .int x3] [.ref 231, .int x1, .int x2, .int x3] S N := by
  obtain ⟨n, m, q, u, y, c, mx, hr, -⟩ := Inv_cx hI
  have hn := c.1.1
  have mb : MX (g_X_bad S) n m y := MX_1 (wI_ce (by omega)) mx
  unfold pair
  refine e_X_tryNext ?_
  unfold f_X_isNoted
  rw [xStreet c]
  refine ⟨fun g1 => ?_, fun g1 => ⟨fun g2 => ?_, fun g2 => ?_⟩⟩
  · refine e_M_tryNext ?_
    rw [mStreet mb]
    exact ⟨fun _ => ⟨rfl, Inv_bad hI hN⟩, fun z => absurd g1 z⟩
  · refine e_M_tryNext ?_
    rw [mStreet mb, in_lit (by decide) (by decide), in_lit (by decide) (by decide)]
    refine ⟨fun z => absurd z g1, fun _ => ⟨fun _ => ⟨rfl, Inv_bad hI hN⟩, fun z1 => ⟨fun _ => ⟨rfl, Inv_bad hI hN⟩, fun z2 => absurd g2 ?_⟩⟩⟩
    rw [if_neg z1, if_neg z2]
    decide
  · have z1 : ¬ f_X_within x2 1 60 = 0 := fun z => g2 (by rw [if_pos z])
    have z2 : ¬ f_X_within x3 0 99 = 0 := fun z => g2 (by rw [if_neg z1, if_pos z])
    obtain ⟨x, hx, rfl⟩ := wi_ne (by omega) g1
    rw [nI_clamp (by omega), show S.1 2 x = S.1 232 (5 + x) from c.2.1.2.2.1 x hx]
    refine ⟨vp_in_nI (by omega) (by decide), s_xtry hr (c.1.2.2.2.2.1 x hx) ?_⟩
    refine e_M_tryNext ?_
    rw [mStreet mx, in_lit (by decide) (by decide), in_lit (by decide) (by decide)]
    refine ⟨fun z => absurd z g1, fun _ => ⟨fun z => absurd z z1, fun _ => ⟨fun z => absurd z z2, fun _ => ?_⟩⟩⟩
    simp (disch := omega) only [lit_add, add_lit, lit_mul, mul_lit, nI_add, nI_clamp, nI_subI, nI_sub1, nI_divL, vp_T, ge_F, ge_T, geL_F, geL_T, leL_F, leL_T, le0_F, le0_T, ge0_T, row_self, row_ne, row_l, row_p, row_row, wI_row, wI_same, wI_cell, wI_place, wI_l, wI_p, lt_T, lt_F, ltL_T, ltL_F, gtL_T, gtL_F, lt0_F, eq_T, eq_F, eqL_T, eqL_F, eqM_F, leM_F, nat_mod, i_10, i_01, i_m1, eq_self_iff_true, rw8_lt, up1_ne, up1_eq, wi_T, ite_self, tg_1, tg_68, tg_124, tg_177, tg_11, tg_17, tg_59, tg_78, tg_84, ln_7, ln_16, ln_233, ln_232, ln_6, true_and, and_true, not_true_eq_false, not_false_eq_true, false_implies, true_implies, implies_true, forall_const, forall_eq, if_true, if_false, false_and, and_false]
    refine s_mcrav hr.1 hr.2.1 ?_
    exact s_mtry (p := fun c => pal (nok (S.1 232) (nI x) (S.1 232 (5 + x)) (nI c)) q) (by omega) ⟨rfl, Inv_up hI hN⟩
theorem c_sieges (hI : Inv S N) (hN : N < 600) : pair vI k_X_sieges k_M_sieges [.ref 0, .int x1, .int x2] [.ref 231, .int x1, .int x2] S N := by
  obtain ⟨n, m, q, u, y, c, mx, hr, -⟩ := Inv_cx hI
  refine e_X_sieges ⟨fun g1 => ?_, fun g1 => ⟨fun g2 => ?_, fun g2 => ?_⟩⟩
  · refine e_M_sieges ?_
    rw [in_lit (by decide) (by decide)]
    exact ⟨fun _ => ⟨rfl, Inv_bad hI hN⟩, fun z => absurd g1 z⟩
  · refine e_M_sieges ?_
    rw [in_lit (by decide) (by decide), in_lit (by decide) (by decide)]
    exact ⟨fun z => absurd z g1, fun _ => ⟨fun _ => ⟨rfl, Inv_bad hI hN⟩, fun z => absurd g2 z⟩⟩
  · obtain ⟨s, hs0, hs, rfl⟩ := wi_L (a := 0) (b := 999999) (by decide) g1 (by decide)
    obtain ⟨k, hk0, hk, rfl⟩ := wi_L (a := 0) (b := 60) (by decide) g2 (by decide)
    refine s_xsieges c (by omega) (by omega) fun S1 hS1 => ?_
    have e232 : S1.1 232 = S.1 232 := hS1.1 232 (by omega)
    refine e_M_sieges ?_
    rw [in_lit (by decide) (by decide), in_lit (by decide) (by decide), nI_l (by omega)]
    exact ⟨fun z => absurd z g1, fun _ => ⟨fun z => absurd z g2, fun _ => s_msieges (MX_1 e232 mx) (by omega) hk fun S2 hS2 => ⟨by rw [e232], Inv_q hI hN hS1 hS2⟩⟩⟩
theorem c_rain (hI : Inv S N) (hN : N < 600) : pair vI k_X_rain k_M_rain [.ref 0, .int x1, .int x2, .int x3] [.ref 231, .int x1, .int x2, .int x3] S N := by
  obtain ⟨n, m, q, u, y, c, mx, hr, -⟩ := Inv_cx hI
  have hn := c.1.1
  have hm := c.1.2.1
  have hyb := c.2.2.2.2
  have mb : MX (g_X_bad S) n m y := MX_1 (wI_ce (by omega)) mx
  unfold pair
  refine e_X_rain ?_
  rw [xDish c]
  refine ⟨fun g1 => ?_, fun g1 => ⟨fun g2 => ?_, fun g2 => ⟨fun g3 => ?_, fun g3 => ?_⟩⟩⟩
  · refine e_M_rain ?_
    rw [mDish mb]
    exact ⟨fun _ => ⟨rfl, Inv_bad hI hN⟩, fun z => absurd g1 z⟩
  · refine e_M_rain ?_
    rw [mDish mb, in_lit (by decide) (by decide)]
    exact ⟨fun z => absurd z g1, fun _ => ⟨fun _ => ⟨rfl, Inv_bad hI hN⟩, fun z => absurd g2 z⟩⟩
  · refine e_M_rain ?_
    rw [mDish mb, in_lit (by decide) (by decide), in_lit (by decide) (by decide)]
    exact ⟨fun z => absurd z g1, fun _ => ⟨fun z => absurd z g2, fun _ => ⟨fun _ => ⟨rfl, Inv_bad hI hN⟩, fun z => absurd g3 z⟩⟩⟩
  · obtain ⟨dd, hd, rfl⟩ := wi_ne (by omega) g1
    obtain ⟨cc, hc0, hc, rfl⟩ := wi_L (a := 0) (b := 10) (by decide) g2 (by decide)
    obtain ⟨k, hk0, hk, rfl⟩ := wi_L (a := 0) (b := 8) (by decide) g3 (by decide)
    refine s_xo (mm := 0) c.1 c.2.1 c.2.2.1 hd c.2.2.2.1 (by omega) (by omega) fun S1 hS1 => ?_
    have hM := bc_le (p := po (S.1 232) dd (-1) 0) hn
    generalize hMe : bc (po (S.1 232) dd (-1) 0) n = M at hM ⊢
    refine s_xchance hM hc hk ?_
    have e232 : S1.1 232 = S.1 232 := hS1.1 232 (by omega)
    generalize hS2 : fm_wL (fm_wL S1 122 0 (lN (wR M cc k / gcF 60 (wR M cc k) (10 ^ M)))) 122 1 (lN (10 ^ M / gcF 60 (wR M cc k) (10 ^ M))) = S2
    have f1 : S2.1 = S1.1 := by rw [← hS2]; rfl
    have f3 : S2.2.2 = S1.2.2 := by rw [← hS2]; rfl
    have l0 : S2.2.1 122 0 = lN (wR M cc k / gcF 60 (wR M cc k) (10 ^ M)) := by rw [← hS2, wL_o (by omega), wL_s]
    have l1 : S2.2.1 122 1 = lN (10 ^ M / gcF 60 (wR M cc k) (10 ^ M)) := by rw [← hS2, wL_s]
    have mx2 : MX S2 n m y := MX_1 (by rw [f1, e232]) mx
    refine e_M_rain ?_
    rw [mDish mx2, in_lit (by decide) (by decide), in_lit (by decide) (by decide)]
    refine ⟨fun z => absurd z g1, fun _ => ⟨fun z => absurd z g2, fun _ => ⟨fun z => absurd z g3, fun _ => ?_⟩⟩⟩
    refine s_mo (mm := 0) mx2.1 mx2.2.1 (by omega) hd (by omega) fun v hv => ?_
    rw [bt_bits hn, show S2.1 232 = S.1 232 by rw [f1, e232], hMe]
    refine s_mrain hM hc hk fun S3 hS3 a6 a7 => ⟨rfl, ?_⟩
    have e : ∀ c, (c < 54 ∨ (66 < c ∧ c < 238)) → S3.1 c = S.1 c := fun c hc => by
      rw [hS3.1, show (fm_row S2 238 v).1 c = S2.1 c from funext fun j => row_ne (by omega), f1, hS1.1 c (by omega)]
    refine Inv_c hI (by omega) (by omega) (fun c hc => e c (by omega)) (by rw [e 67 (by omega)]) (by rw [e 231 (by omega)]) ?_ (by rw [hS3.2.1]; exact f3.trans hS1.2.2) ?_
    · rw [e 0 (by omega), e 231 (by omega)]; exact hI.2.2.2.2.2.2
    · rw [a6, a7, hS3.2.2 122 (by omega) (by omega)]
      exact ⟨l0, l1⟩
theorem c_order (hI : Inv S N) (hN : N < 600) : pair vI k_X_order k_M_order [.ref 0, .int x1, .int x2] [.ref 231, .int x1, .int x2] S N := by
  obtain ⟨n, m, q, u, y, c, mx, hr, -⟩ := Inv_cx hI
  have hn := c.1.1
  have hm := c.1.2.1
  have mb : MX (g_X_badTen S) n m y := MX_1 (wI_ce (by omega)) mx
  unfold pair
  refine e_X_order ?_
  rw [xStreet c]
  refine ⟨fun g1 => ?_, fun g1 => ⟨fun g2 => ?_, fun g2 => ?_⟩⟩
  · refine e_M_order ?_
    rw [mStreet mb]
    exact ⟨fun _ => ⟨rfl, Inv_bad10 hI hN⟩, fun z => absurd g1 z⟩
  · obtain ⟨x, hx, rfl⟩ := wi_ne (by omega) g1
    refine s_xfind c hx fun S1 v hS1 hv hA => ?_
    have hA := hA x2 g2
    have e232 : S1.1 232 = S.1 232 := hS1.1 232 (by omega)
    have mx1 := MX_1 e232 mx
    have ref : am_Ps vI 11 k_M_order [.ref 231, .int (nI x), .int x2] S1 fun y S2 => ansX v S1 x2 = y ∧ Inv S2 (N + 1) := by
      refine e_M_order ?_
      rw [mStreet mx1]
      refine ⟨fun z => absurd z g1, fun _ => ⟨fun _ => ?_, fun z => absurd g2 z⟩⟩
      simp (disch := omega) only [lit_add, add_lit, lit_mul, mul_lit, nI_add, nI_clamp, nI_subI, nI_sub1, nI_divL, vp_T, ge_F, ge_T, geL_F, geL_T, leL_F, leL_T, le0_F, le0_T, ge0_T, row_self, row_ne, row_l, row_p, row_row, wI_row, wI_same, wI_cell, wI_place, wI_l, wI_p, lt_T, lt_F, ltL_T, ltL_F, gtL_T, gtL_F, lt0_F, eq_T, eq_F, eqL_T, eqL_F, eqM_F, leM_F, nat_mod, i_10, i_01, i_m1, eq_self_iff_true, rw8_lt, up1_ne, up1_eq, wi_T, ite_self, tg_1, tg_68, tg_124, tg_177, tg_11, tg_17, tg_59, tg_78, tg_84, ln_7, ln_16, ln_233, ln_232, ln_6, true_and, and_true, not_true_eq_false, not_false_eq_true, false_implies, true_implies, implies_true, forall_const, forall_eq, if_true, if_false, false_and, and_false, e232]
      refine ⟨fun z => ?_, fun z => ?_⟩
      · refine s_morder mx1 hx (by rw [e232]; exact z) g2 fun S2 hS2 => ⟨?_, Inv_q hI hN hS1 hS2⟩
        rw [hA, e232]
        unfold orA
        rw [if_pos z]
      · refine ⟨?_, Inv_q hI hN hS1 (ex_id _)⟩
        rw [hA]
        unfold orA
        rw [if_neg z]
    have hv4 : ¬ v ≤ x2 → v = -1 ∨ ∃ N, N ≤ 4 ∧ v = nI N := fun _ => hv
    refine ⟨fun z => ?_, fun z => ⟨fun z2 => ?_, fun z2 => ⟨fun z3 => ?_, fun z3 => ⟨fun z4 z5 => ?_, ?_⟩⟩⟩⟩
    · unfold ansX at ref
      rw [if_pos z] at ref
      exact ref
    · unfold ansX at ref
      rw [if_neg z, if_pos z2] at ref
      exact ref
    · unfold ansX at ref
      rw [if_neg z, if_neg z2, if_pos z3] at ref
      exact ref
    · exact io_in g2 z2 z3 (by rw [show nI 4 = 4 from rfl]; exact z5) (by omega)
    · intro w hw
      subst hw
      unfold ansX at ref
      rw [if_neg z, if_neg z2, if_neg z3] at ref
      exact ref
  · refine e_M_order ?_
    rw [mStreet mb]
    exact ⟨fun z => absurd z g1, fun _ => ⟨fun z => absurd z g2, fun _ => ⟨rfl, Inv_bad10 hI hN⟩⟩⟩
theorem c_digest (hI : Inv S N) (hN : N < 600) : pair vL k_X_digest k_M_digest [.ref 0] [.ref 231] S N := by
  obtain ⟨n, m, q, u, y, c, mx, hr, hrt⟩ := Inv_cx hI
  obtain ⟨L, l1, l2, l3, -⟩ := hI.2.2.2.2.1
  refine s_xdigest c.2.1 c.2.2.1 hr c.1.1 c.1.2.1 l1 c.1.2.2.1 c.1.2.2.2.1 (by rw [hrt.2.2.2.2.1.2.2, hrt.2.2.2.2.1.2.1]) l2 ?_
  refine s_mdigest c.1.1 c.1.2.1 hr.1 l1 c.1.2.2.1 c.1.2.2.2.1 hr.2.1 l3 ⟨?_, Inv_up hI hN⟩
  rw [hI.2.2.2.2.2.1.1, hI.2.2.2.2.2.1.2]
end CALLS
