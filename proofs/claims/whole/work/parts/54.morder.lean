/-! order: the reference -/
theorem io_in {i : Int32} {N : Nat} (hi : -2 ≤ i) (h1 : ¬ i = -1) (h2 : ¬ i = -2) (h3 : ¬ nI N ≤ i) (hN : N ≤ 4) : vp_in i N := by
  rw [vp_in_iff]
  rw [Int32.le_iff_toInt_le, show (-2 : Int32).toInt = -2 by decide] at hi
  rw [Int32.le_iff_toInt_le, nI_toInt (by omega)] at h3
  have e1 : i.toInt ≠ -1 := fun q => h1 (Int32.toInt_inj.mp (by rw [q]; decide))
  have e2 : i.toInt ≠ -2 := fun q => h2 (Int32.toInt_inj.mp (by rw [q]; decide))
  omega
theorem vp_mono {i : Int32} {N M : Nat} (h : vp_in i N) (hM : N ≤ M) : vp_in i M := by
  rw [vp_in_iff] at h ⊢
  omega
section MORDER
variable {d n m y : Nat} {S : fm_S} {A : Nat → Int32}
theorem s_mdish {Q : Int32 → fm_S → Prop} {c N i : Nat} (h1 : S.1 232 1 = nI m) (hm : 0 < m) (hm6 : m ≤ 6) (hc : c < 2000) (hN : N ≤ 4) (hi : i < N)
    (W : Q (nI (dg m c N i)) S) : am_Ps vI d k_M_dishIn [.ref 231, .int (nI c), .int (nI N), .int (nI i)] S Q := by
  refine e_M_dishIn ?_
  rw [show (1 : Int32) = nI 1 from rfl, nI_subI (by omega)]
  have hle : ∀ j, c / m ^ j < 2000 := fun j => Nat.lt_of_le_of_lt (Nat.div_le_self _ _) hc
  have key : ∀ j, j ≤ N - 1 - i → H_M_dishIn_8 d (nI c) (nI N) (nI i) (nI (c / m ^ j)) (nI (N - 1 - j)) S Q := by
    refine up_to ?_ fun j hj ih => ?_
    · have hlj := hle (N - 1 - i)
      refine p_M_dishIn_8 ?_
      simp (disch := omega) only [lit_add, add_lit, lit_mul, mul_lit, nI_add, nI_clamp, nI_subI, nI_sub1, nI_divL, vp_T, ge_F, ge_T, geL_F, geL_T, leL_F, leL_T, le0_F, le0_T, ge0_T, row_self, row_ne, row_l, row_p, row_row, wI_row, wI_same, wI_cell, wI_place, wI_l, wI_p, lt_T, lt_F, ltL_T, ltL_F, gtL_T, gtL_F, lt0_F, eq_T, eq_F, eqL_T, eqL_F, eqM_F, leM_F, nat_mod, i_10, i_01, i_m1, eq_self_iff_true, rw8_lt, up1_ne, up1_eq, wi_T, ite_self, tg_1, tg_68, tg_124, tg_177, tg_11, tg_17, tg_59, tg_78, tg_84, ln_7, ln_16, ln_233, ln_232, ln_6, true_and, and_true, not_true_eq_false, not_false_eq_true, false_implies, true_implies, implies_true, forall_const, forall_eq, if_true, if_false, false_and, and_false, h1]
      rw [pk_rem (by omega) hm (by omega)]
      exact W
    · have hlj := hle j
      refine p_M_dishIn_8 ?_
      simp (disch := omega) only [lit_add, add_lit, lit_mul, mul_lit, nI_add, nI_clamp, nI_subI, nI_sub1, nI_divL, vp_T, ge_F, ge_T, geL_F, geL_T, leL_F, leL_T, le0_F, le0_T, ge0_T, row_self, row_ne, row_l, row_p, row_row, wI_row, wI_same, wI_cell, wI_place, wI_l, wI_p, lt_T, lt_F, ltL_T, ltL_F, gtL_T, gtL_F, lt0_F, eq_T, eq_F, eqL_T, eqL_F, eqM_F, leM_F, nat_mod, i_10, i_01, i_m1, eq_self_iff_true, rw8_lt, up1_ne, up1_eq, wi_T, ite_self, tg_1, tg_68, tg_124, tg_177, tg_11, tg_17, tg_59, tg_78, tg_84, ln_7, ln_16, ln_233, ln_232, ln_6, true_and, and_true, not_true_eq_false, not_false_eq_true, false_implies, true_implies, implies_true, forall_const, forall_eq, if_true, if_false, false_and, and_false, h1, nI_m1]
      rw [pk_div (by omega) hm (by omega), Nat.div_div_eq_div_mul, ← Nat.pow_succ, show N - 1 - j - 1 = N - 1 - (j + 1) by omega]
      exact ih
  have z := key 0 (Nat.zero_le _)
  rw [Nat.pow_zero, Nat.div_one] at z
  exact z
theorem s_mbutter {Q : Int32 → fm_S → Prop} {x c N : Nat} (cx : MX S n m y) (hx : x < n) (ho : S.1 232 (29 + x) = -1) (hN0 : 0 < N) (hN : N ≤ 4) (hc : c < m ^ N)
    (W : ∀ S', ex 238 239 S S' → Q (if vr (S.1 232) y x m N c = true then bsu (S.1 232) (dg m c N) N else -1) S') :
    am_Ps vI (d + 5) k_M_butterOf [.ref 231, .int (nI c), .int (nI N), .int (nI x)] S Q := by
  obtain ⟨hW, hy, hyb⟩ := cx
  have hn := hW.1
  have hm6 := hW.2.1
  have h1 := hW.2.2.2.1
  have hp := pow_b hm6 hN
  have hD : ∀ i, dg m c N i < m := fun i => (dg_lt hc).resolve_right (by omega)
  have hm0 : 0 < m := by have := hD 0; omega
  have hD6 : ∀ a, a < N → dg m c N a < 6 := fun a _ => by have := hD a; omega
  refine e_M_butterOf ?_
  have key : ∀ i, i ≤ N → ∀ o7, H_M_butterOf_9 d (nI c) (nI N) (nI x) (usd (dg m c N) i) (bsu (S.1 232) (dg m c N) i) (nI i) o7 S Q := by
    refine up_to (fun o7 => ?_) fun i hi ih o7 => ?_
    · have hu := uc_le (D := dg m c N) N
      refine p_M_butterOf_9 ?_
      simp (disch := omega) only [lit_add, add_lit, lit_mul, mul_lit, nI_add, nI_clamp, nI_subI, nI_sub1, nI_divL, vp_T, ge_F, ge_T, geL_F, geL_T, leL_F, leL_T, le0_F, le0_T, ge0_T, row_self, row_ne, row_l, row_p, row_row, wI_row, wI_same, wI_cell, wI_place, wI_l, wI_p, lt_T, lt_F, ltL_T, ltL_F, gtL_T, gtL_F, lt0_F, eq_T, eq_F, eqL_T, eqL_F, eqM_F, leM_F, nat_mod, i_10, i_01, i_m1, eq_self_iff_true, rw8_lt, up1_ne, up1_eq, wi_T, ite_self, tg_1, tg_68, tg_124, tg_177, tg_11, tg_17, tg_59, tg_78, tg_84, ln_7, ln_16, ln_233, ln_232, ln_6, true_and, and_true, not_true_eq_false, not_false_eq_true, false_implies, true_implies, implies_true, forall_const, forall_eq, if_true, if_false, false_and, and_false, usd_n hD6]
      rw [nI_leI (by omega) (by omega), uc_nd]
      refine ⟨fun hnd => ?_, fun hnd => ?_⟩
      · have key2 : ∀ k, k ≤ N → ∀ S' o7, frM S S' → S'.1 232 = sqA (S.1 232) n (dg m c N) k → H_M_butterOf_83 d (nI c) (nI N) (nI x) (usd (dg m c N) N) (bsu (S.1 232) (dg m c N) N) (nI k) o7 S' Q := by
          refine up_to (fun S' o7 hS hA => ?_) fun k hk ih S' o7 hS hA => ?_
          · have hE : stE (S.1 232) (S'.1 232) := by rw [hA]; exact sqA_st hn N
            have z := W _ (frM_e hS hE)
            have hx2 := (sqA_x (D := dg m c N) hW hy hx (K := N) (by omega) (fun k _ => hD k) N (Nat.le_refl N)).2.2 ho
            unfold vr at z
            rw [hnd, Bool.true_and] at z
            refine p_M_butterOf_83 ?_
            simp (disch := omega) only [lit_add, add_lit, lit_mul, mul_lit, nI_add, nI_clamp, nI_subI, nI_sub1, nI_divL, vp_T, ge_F, ge_T, geL_F, geL_T, leL_F, leL_T, le0_F, le0_T, ge0_T, row_self, row_ne, row_l, row_p, row_row, wI_row, wI_same, wI_cell, wI_place, wI_l, wI_p, lt_T, lt_F, ltL_T, ltL_F, gtL_T, gtL_F, lt0_F, eq_T, eq_F, eqL_T, eqL_F, eqM_F, leM_F, nat_mod, i_10, i_01, i_m1, eq_self_iff_true, rw8_lt, up1_ne, up1_eq, wi_T, ite_self, tg_1, tg_68, tg_124, tg_177, tg_11, tg_17, tg_59, tg_78, tg_84, ln_7, ln_16, ln_233, ln_232, ln_6, true_and, and_true, not_true_eq_false, not_false_eq_true, false_implies, true_implies, implies_true, forall_const, forall_eq, if_true, if_false, false_and, and_false, hA]
            rcases hp : pex (sop (S.1 232) y x (dg m c N)) N with _ | _
            · rw [hp, if_neg (by decide)] at z
              have e := hx2.mpr hp
              simp only [e, if_true, true_implies, not_true_eq_false, false_implies, and_true]
              exact z
            · rw [hp, if_pos rfl] at z
              have e : (sqA (S.1 232) n (dg m c N) N (29 + x) = -1) = False := eq_false fun q => by
                have := hx2.mp q
                rw [hp] at this
                cases this
              simp only [e, if_false, i_10, false_implies, not_false_eq_true, true_implies, true_and]
              exact z
          · have hDk := hD k
            have h1' : S'.1 232 1 = nI m := by rw [hA, sqA_st hn k 1 (by omega) (by omega)]; exact h1
            refine p_M_butterOf_83 ?_
            simp (disch := omega) only [lit_add, add_lit, lit_mul, mul_lit, nI_add, nI_clamp, nI_subI, nI_sub1, nI_divL, vp_T, ge_F, ge_T, geL_F, geL_T, leL_F, leL_T, le0_F, le0_T, ge0_T, row_self, row_ne, row_l, row_p, row_row, wI_row, wI_same, wI_cell, wI_place, wI_l, wI_p, lt_T, lt_F, ltL_T, ltL_F, gtL_T, gtL_F, lt0_F, eq_T, eq_F, eqL_T, eqL_F, eqM_F, leM_F, nat_mod, i_10, i_01, i_m1, eq_self_iff_true, rw8_lt, up1_ne, up1_eq, wi_T, ite_self, tg_1, tg_68, tg_124, tg_177, tg_11, tg_17, tg_59, tg_78, tg_84, ln_7, ln_16, ln_233, ln_232, ln_6, true_and, and_true, not_true_eq_false, not_false_eq_true, false_implies, true_implies, implies_true, forall_const, forall_eq, if_true, if_false, false_and, and_false]
            refine s_mdish h1' hm0 hm6 (by omega) hN hk ?_
            refine s_mgd (by rw [hA]; exact WS_st (sqA_st hn k) hW) (by rw [hA]; exact sqA_4 hy k) (by omega) hDk fun v => ?_
            refine ih _ _ (frM_d hS) ?_
            rw [show (fm_row (fm_row S' 238 v) 232 (dayA (S'.1 232) n (dg m c N k))).1 232 = dayA (S'.1 232) n (dg m c N k) from funext fun j => row_self, hA]; rfl
        exact key2 0 (Nat.zero_le _) _ _ frM_0 (m_sv.2.1 232 (by decide))
      · have z := W S (ex_id S)
        unfold vr at z
        rw [show nd (dg m c N) N = false from by cases h : nd (dg m c N) N with
          | false => rfl
          | true => exact absurd h hnd, Bool.false_and, if_neg (by decide)] at z
        exact z
    · have hDi := hD i
      refine p_M_butterOf_9 ?_
      simp (disch := omega) only [lit_add, add_lit, lit_mul, mul_lit, nI_add, nI_clamp, nI_subI, nI_sub1, nI_divL, vp_T, ge_F, ge_T, geL_F, geL_T, leL_F, leL_T, le0_F, le0_T, ge0_T, row_self, row_ne, row_l, row_p, row_row, wI_row, wI_same, wI_cell, wI_place, wI_l, wI_p, lt_T, lt_F, ltL_T, ltL_F, gtL_T, gtL_F, lt0_F, eq_T, eq_F, eqL_T, eqL_F, eqM_F, leM_F, nat_mod, i_10, i_01, i_m1, eq_self_iff_true, rw8_lt, up1_ne, up1_eq, wi_T, ite_self, tg_1, tg_68, tg_124, tg_177, tg_11, tg_17, tg_59, tg_78, tg_84, ln_7, ln_16, ln_233, ln_232, ln_6, true_and, and_true, not_true_eq_false, not_false_eq_true, false_implies, true_implies, implies_true, forall_const, forall_eq, if_true, if_false, false_and, and_false]
      refine s_mdish h1 hm0 hm6 (by omega) hN hi ?_
      simp (disch := omega) only [lit_add, add_lit, lit_mul, mul_lit, nI_add, nI_clamp, nI_subI, nI_sub1, nI_divL, vp_T, ge_F, ge_T, geL_F, geL_T, leL_F, leL_T, le0_F, le0_T, ge0_T, row_self, row_ne, row_l, row_p, row_row, wI_row, wI_same, wI_cell, wI_place, wI_l, wI_p, lt_T, lt_F, ltL_T, ltL_F, gtL_T, gtL_F, lt0_F, eq_T, eq_F, eqL_T, eqL_F, eqM_F, leM_F, nat_mod, i_10, i_01, i_m1, eq_self_iff_true, rw8_lt, up1_ne, up1_eq, wi_T, ite_self, tg_1, tg_68, tg_124, tg_177, tg_11, tg_17, tg_59, tg_78, tg_84, ln_7, ln_16, ln_233, ln_232, ln_6, true_and, and_true, not_true_eq_false, not_false_eq_true, false_implies, true_implies, implies_true, forall_const, forall_eq, if_true, if_false, false_and, and_false]
      exact ih _
  exact key 0 (Nat.zero_le _) _
theorem s_morder {Q : Int32 → fm_S → Prop} {x : Nat} {i : Int32} (cx : MX S n m y) (hx : x < n) (ho : S.1 232 (29 + x) = -1) (hi : -2 ≤ i)
    (W : ∀ S', ex 238 242 S S' → Q (ordF (S.1 232) y x m i 4 1) S') :
    H_M_order_48 d (nI x) i 1 1 none none none none S Q := by
  have hn := cx.1.1
  have hm6 := cx.1.2.1
  have key : ∀ f N, f + N = 5 → 0 < N → ∀ S' o5 o6 o7 o8, ex 238 242 S S' → (∀ S', ex 238 242 S S' → Q (ordF (S.1 232) y x m i f N) S') → H_M_order_48 d (nI x) i (nI (m ^ (N - 1))) (nI N) o5 o6 o7 o8 S' Q := by
    intro f
    induction f with
    | zero =>
      intro N hN h0 S' o5 o6 o7 o8 hS hQ
      refine p_M_order_48 ?_
      simp (disch := omega) only [lit_add, add_lit, lit_mul, mul_lit, nI_add, nI_clamp, nI_subI, nI_sub1, nI_divL, vp_T, ge_F, ge_T, geL_F, geL_T, leL_F, leL_T, le0_F, le0_T, ge0_T, row_self, row_ne, row_l, row_p, row_row, wI_row, wI_same, wI_cell, wI_place, wI_l, wI_p, lt_T, lt_F, ltL_T, ltL_F, gtL_T, gtL_F, lt0_F, eq_T, eq_F, eqL_T, eqL_F, eqM_F, leM_F, nat_mod, i_10, i_01, i_m1, eq_self_iff_true, rw8_lt, up1_ne, up1_eq, wi_T, ite_self, tg_1, tg_68, tg_124, tg_177, tg_11, tg_17, tg_59, tg_78, tg_84, ln_7, ln_16, ln_233, ln_232, ln_6, true_and, and_true, not_true_eq_false, not_false_eq_true, false_implies, true_implies, implies_true, forall_const, forall_eq, if_true, if_false, false_and, and_false]
      exact hQ S' hS
    | succ f ih =>
      intro N hN h0 S' o5 o6 o7 o8 hS hQ
      have c2 := MX_ex hS cx
      have hA := ex_A hS
      have hp := pow_b (N := N) hm6 (by omega)
      refine p_M_order_48 ?_
      simp (disch := omega) only [lit_add, add_lit, lit_mul, mul_lit, nI_add, nI_clamp, nI_subI, nI_sub1, nI_divL, vp_T, ge_F, ge_T, geL_F, geL_T, leL_F, leL_T, le0_F, le0_T, ge0_T, row_self, row_ne, row_l, row_p, row_row, wI_row, wI_same, wI_cell, wI_place, wI_l, wI_p, lt_T, lt_F, ltL_T, ltL_F, gtL_T, gtL_F, lt0_F, eq_T, eq_F, eqL_T, eqL_F, eqM_F, leM_F, nat_mod, i_10, i_01, i_m1, eq_self_iff_true, rw8_lt, up1_ne, up1_eq, wi_T, ite_self, tg_1, tg_68, tg_124, tg_177, tg_11, tg_17, tg_59, tg_78, tg_84, ln_7, ln_16, ln_233, ln_232, ln_6, true_and, and_true, not_true_eq_false, not_false_eq_true, false_implies, true_implies, implies_true, forall_const, forall_eq, if_true, if_false, false_and, and_false, c2.1.2.2.2.1, nI_mul]
      rw [← Nat.pow_succ, Nat.succ_eq_add_one, Nat.sub_add_cancel (by omega)]
      have loop : ∀ c, c ≤ m ^ N → ∀ S' o7 o8, ex 238 242 S S' → (¬ (orP (S.1 232) y x m N c).1 < 0 → ∀ k, k < N → S'.1 240 k = nI (dg m (orP (S.1 232) y x m N c).2 N k)) →
          H_M_order_69 d (nI x) i (nI (m ^ N)) (nI N) (orP (S.1 232) y x m N c).1 (nI c) o7 o8 S' Q := by
        refine up_to (fun S' o7 o8 hS hB => ?_) fun c hc ih2 S' o7 o8 hS hB => ?_
        · have hQ2 := hQ S' hS
          rw [ordF] at hQ2
          refine p_M_order_69 ?_
          simp (disch := omega) only [lit_add, add_lit, lit_mul, mul_lit, nI_add, nI_clamp, nI_subI, nI_sub1, nI_divL, vp_T, ge_F, ge_T, geL_F, geL_T, leL_F, leL_T, le0_F, le0_T, ge0_T, row_self, row_ne, row_l, row_p, row_row, wI_row, wI_same, wI_cell, wI_place, wI_l, wI_p, lt_T, lt_F, ltL_T, ltL_F, gtL_T, gtL_F, lt0_F, eq_T, eq_F, eqL_T, eqL_F, eqM_F, leM_F, nat_mod, i_10, i_01, i_m1, eq_self_iff_true, rw8_lt, up1_ne, up1_eq, wi_T, ite_self, tg_1, tg_68, tg_124, tg_177, tg_11, tg_17, tg_59, tg_78, tg_84, ln_7, ln_16, ln_233, ln_232, ln_6, true_and, and_true, not_true_eq_false, not_false_eq_true, false_implies, true_implies, implies_true, forall_const, forall_eq, if_true, if_false, false_and, and_false]
          refine ⟨fun q => ?_, fun q => ?_⟩
          · have z := ih (N + 1) (by omega) (by omega) S' (some (.int (orP (S.1 232) y x m N (m ^ N)).1)) (some (.int (nI (m ^ N)))) o7 o8 hS fun S2 hS2 => by
              have z2 := hQ S2 hS2
              rw [ordF, if_pos q] at z2
              exact z2
            rw [Nat.add_sub_cancel] at z
            exact z
          · rw [if_neg q] at hQ2
            refine ⟨fun q1 q2 q3 => vp_mono (io_in hi q1 q2 q3 (by omega)) (by omega), ?_⟩
            by_cases q1 : i = -1
            · rw [if_pos q1] at hQ2 ⊢; exact hQ2
            · rw [if_neg q1] at hQ2 ⊢
              by_cases q2 : i = -2
              · rw [if_pos q2] at hQ2 ⊢; exact hQ2
              · rw [if_neg q2] at hQ2 ⊢
                by_cases q3 : nI N ≤ i
                · rw [if_pos q3] at hQ2 ⊢; exact hQ2
                · rw [if_neg q3] at hQ2 ⊢
                  rw [hB q _ (vp_of (io_in hi q1 q2 q3 (by omega)) (by omega)).2]
                  exact hQ2
        · have c3 := MX_ex hS cx
          have hA3 := ex_A hS
          have hW := cx.1
          have hD : ∀ i, dg m c N i < m := fun i => (dg_lt hc).resolve_right (by omega)
          have copy : ∀ L B, (orP (S.1 232) y x m N (c + 1)).1 = L → (orP (S.1 232) y x m N (c + 1)).2 = c → ∀ k, k ≤ N → ∀ T, ex 238 242 S T → (∀ k', k' < k → T.1 240 k' = nI (dg m c N k')) → H_M_order_110 d (nI x) i (nI (m ^ N)) (nI N) L (nI c) B (nI k) T Q := by
            intro L B hL hC
            refine up_to (fun T hT hB2 => ?_) fun k hk ih3 T hT hB2 => ?_
            · refine p_M_order_110 ?_
              simp (disch := omega) only [lit_add, add_lit, lit_mul, mul_lit, nI_add, nI_clamp, nI_subI, nI_sub1, nI_divL, vp_T, ge_F, ge_T, geL_F, geL_T, leL_F, leL_T, le0_F, le0_T, ge0_T, row_self, row_ne, row_l, row_p, row_row, wI_row, wI_same, wI_cell, wI_place, wI_l, wI_p, lt_T, lt_F, ltL_T, ltL_F, gtL_T, gtL_F, lt0_F, eq_T, eq_F, eqL_T, eqL_F, eqM_F, leM_F, nat_mod, i_10, i_01, i_m1, eq_self_iff_true, rw8_lt, up1_ne, up1_eq, wi_T, ite_self, tg_1, tg_68, tg_124, tg_177, tg_11, tg_17, tg_59, tg_78, tg_84, ln_7, ln_16, ln_233, ln_232, ln_6, true_and, and_true, not_true_eq_false, not_false_eq_true, false_implies, true_implies, implies_true, forall_const, forall_eq, if_true, if_false, false_and, and_false]
              rw [← hL]
              exact ih2 T _ _ hT fun _ k hk => by rw [hC]; exact hB2 k hk
            · have hDk := hD k
              refine p_M_order_110 ?_
              simp (disch := omega) only [lit_add, add_lit, lit_mul, mul_lit, nI_add, nI_clamp, nI_subI, nI_sub1, nI_divL, vp_T, ge_F, ge_T, geL_F, geL_T, leL_F, leL_T, le0_F, le0_T, ge0_T, row_self, row_ne, row_l, row_p, row_row, wI_row, wI_same, wI_cell, wI_place, wI_l, wI_p, lt_T, lt_F, ltL_T, ltL_F, gtL_T, gtL_F, lt0_F, eq_T, eq_F, eqL_T, eqL_F, eqM_F, leM_F, nat_mod, i_10, i_01, i_m1, eq_self_iff_true, rw8_lt, up1_ne, up1_eq, wi_T, ite_self, tg_1, tg_68, tg_124, tg_177, tg_11, tg_17, tg_59, tg_78, tg_84, ln_7, ln_16, ln_233, ln_232, ln_6, true_and, and_true, not_true_eq_false, not_false_eq_true, false_implies, true_implies, implies_true, forall_const, forall_eq, if_true, if_false, false_and, and_false]
              refine s_mdish (by rw [ex_A hT]; exact hW.2.2.2.1) (by omega) hm6 (by omega) (by omega) hk ?_
              refine ih3 _ (ex_wI hT (by decide) (by decide)) fun k' hk' => ?_
              by_cases e : k' = k
              · subst e; exact wI_same
              · rw [wI_place e]; exact hB2 k' (by omega)
          have hnn := orP_nn (y := y) (x := x) (N := N) hW (by omega) c (by omega)
          refine p_M_order_69 ?_
          simp (disch := omega) only [lit_add, add_lit, lit_mul, mul_lit, nI_add, nI_clamp, nI_subI, nI_sub1, nI_divL, vp_T, ge_F, ge_T, geL_F, geL_T, leL_F, leL_T, le0_F, le0_T, ge0_T, row_self, row_ne, row_l, row_p, row_row, wI_row, wI_same, wI_cell, wI_place, wI_l, wI_p, lt_T, lt_F, ltL_T, ltL_F, gtL_T, gtL_F, lt0_F, eq_T, eq_F, eqL_T, eqL_F, eqM_F, leM_F, nat_mod, i_10, i_01, i_m1, eq_self_iff_true, rw8_lt, up1_ne, up1_eq, wi_T, ite_self, tg_1, tg_68, tg_124, tg_177, tg_11, tg_17, tg_59, tg_78, tg_84, ln_7, ln_16, ln_233, ln_232, ln_6, true_and, and_true, not_true_eq_false, not_false_eq_true, false_implies, true_implies, implies_true, forall_const, forall_eq, if_true, if_false, false_and, and_false]
          refine s_mbutter c3 hx (by rw [hA3]; exact ho) h0 (by omega) hc fun T hT => ?_
          have hT2 := ex_tr hS (ex_mono hT (lo' := 238) (hi' := 242) (by decide) (by decide))
          have hT4 : T.1 240 = S'.1 240 := hT.1 240 (by decide)
          rw [hA3]
          have st : ∀ o7 o8, orP (S.1 232) y x m N (c + 1) = orP (S.1 232) y x m N c → H_M_order_69 d (nI x) i (nI (m ^ N)) (nI N) (orP (S.1 232) y x m N c).1 (nI (c + 1)) o7 o8 T Q := fun o7 o8 e => by
            have z := ih2 T o7 o8 hT2 (by rw [e, hT4]; exact hB)
            rw [e] at z
            exact z
          by_cases hv : vr (S.1 232) y x m N c = true
          · rw [if_pos hv]
            obtain ⟨b, hb1, hb2⟩ := bsu_n (D := dg m c N) (i := N) hW fun a _ => hD a
            have hnb : (bsu (S.1 232) (dg m c N) N < 0) = False := by rw [hb2]; exact lt0_F (by omega)
            simp only [hnb, false_implies, not_false_eq_true, true_implies, true_and]
            refine ⟨fun q => ?_, fun q => ⟨fun q2 => ?_, fun q2 => ?_⟩⟩
            · have e : orP (S.1 232) y x m N (c + 1) = (bsu (S.1 232) (dg m c N) N, c) := by rw [orP, if_pos ⟨hv, Or.inl q⟩]
              exact copy _ _ (by rw [e]) (by rw [e]) 0 (Nat.zero_le _) T hT2 fun k' h => absurd h (by omega)
            · refine st _ _ ?_
              rw [orP, if_neg (fun z => z.2.elim q fun z2 => z2 q2)]
            · have e : orP (S.1 232) y x m N (c + 1) = (bsu (S.1 232) (dg m c N) N, c) := by rw [orP, if_pos ⟨hv, Or.inr q2⟩]
              exact copy _ _ (by rw [e]) (by rw [e]) 0 (Nat.zero_le _) T hT2 fun k' h => absurd h (by omega)
          · rw [if_neg hv]
            refine ⟨fun _ => ?_, fun q => absurd (by decide) q⟩
            refine st _ _ ?_
            rw [orP, if_neg (fun z => hv z.1)]
      have z := loop 0 (Nat.zero_le _) S' o7 o8 hS fun h => absurd (show (-1 : Int32) < 0 by decide) h
      exact z
  have z := key 4 1 rfl (by decide) S none none none none (ex_id S) W
  rw [show 1 - 1 = 0 from rfl, Nat.pow_zero] at z
  exact z
end MORDER
