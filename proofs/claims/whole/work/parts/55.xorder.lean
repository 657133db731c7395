/-! order: the class -/
theorem cI_pos : ∀ {p : Nat}, 0 < p → cI p = nI (p - 1)
  | 0, h => absurd h (by omega)
  | p + 1, _ => rfl
section XORDER
variable {d n m y : Nat} {S : fm_S} {A : Nat → Int32}
theorem s_xlay {Q : Int32 → fm_S → Prop} {c N : Nat} {T : fm_S} (h7 : T.1 1 7 = nI m) (hm6 : m ≤ 6) (hN0 : 0 < N) (hN : N ≤ 4) (hc : c < m ^ N)
    (W : ∀ T', ex 63 63 T T' → (nd (dg m c N) N = true → ∀ k, k < N → T'.1 63 k = nI (dg m c N k)) → Q (if nd (dg m c N) N = true then 1 else 0) T') :
    am_Ps vI (d + 1) k_Cook_lay [.ref 54, .int (nI c), .int (nI N)] T Q := by
  have hp := pow_b hm6 hN
  have hD : ∀ i, dg m c N i < m := fun i => (dg_lt hc).resolve_right (by omega)
  have hm0 : 0 < m := by have := hD 0; omega
  have hD6 : ∀ a, dg m c N (N - 1 - a) < 6 := fun a => by have := hD (N - 1 - a); omega
  have hrev : nd (fun a => dg m c N (N - 1 - a)) N = nd (dg m c N) N := nd_rev
  refine e_Cook_lay ?_
  have key : ∀ j, j ≤ N → ∀ T', ex 63 63 T T' → nd (fun a => dg m c N (N - 1 - a)) j = true → (∀ a, a < j → T'.1 63 (N - 1 - a) = nI (dg m c N (N - 1 - a))) → ∀ o6, H_Cook_lay_10 d (nI c) (nI N) (nI (c / m ^ j)) (usd (fun a => dg m c N (N - 1 - a)) j) (cI (N - j)) o6 T' Q := by
    refine up_to (fun T' hT hd hB o6 => ?_) fun j hj ih T' hT hd hB o6 => ?_
    · refine p_Cook_lay_10 ?_
      rw [hrev] at hd
      have z := W T' hT fun _ k hk => by
        have := hB (N - 1 - k) (by omega)
        rw [show N - 1 - (N - 1 - k) = k by omega] at this
        exact this
      rw [hd, if_pos rfl] at z
      rw [Nat.sub_self]
      refine ⟨fun _ => z, fun q => absurd (by decide) q⟩
    · have hlj : c / m ^ j < 2000 := Nat.lt_of_le_of_lt (Nat.div_le_self _ _) (by omega)
      have h7' : T'.1 1 7 = nI m := by rw [hT.1 1 (by decide)]; exact h7
      have hDj : c / m ^ j % m = dg m c N (N - 1 - j) := by unfold dg; rw [show N - 1 - (N - 1 - j) = j by omega]
      have hDl := hD (N - 1 - j)
      have hu := usd_has (D := fun a => dg m c N (N - 1 - a)) (e := dg m c N (N - 1 - j)) (i := j) (by omega) fun a _ => hD6 a
      refine p_Cook_lay_10 ?_
      rw [cI_pos (by omega)]
      simp (disch := omega) only [lit_add, add_lit, lit_mul, mul_lit, nI_add, nI_clamp, nI_subI, nI_sub1, nI_divL, vp_T, ge_F, ge_T, geL_F, geL_T, leL_F, leL_T, le0_F, le0_T, ge0_T, row_self, row_ne, row_l, row_p, row_row, wI_row, wI_same, wI_cell, wI_place, wI_l, wI_p, lt_T, lt_F, ltL_T, ltL_F, gtL_T, gtL_F, lt0_F, eq_T, eq_F, eqL_T, eqL_F, eqM_F, leM_F, nat_mod, i_10, i_01, i_m1, eq_self_iff_true, rw8_lt, up1_ne, up1_eq, wi_T, ite_self, tg_1, tg_68, tg_124, tg_177, tg_11, tg_17, tg_59, tg_78, tg_84, ln_7, ln_16, ln_233, ln_232, ln_6, true_and, and_true, not_true_eq_false, not_false_eq_true, false_implies, true_implies, implies_true, forall_const, forall_eq, if_true, if_false, false_and, and_false, h7']
      rw [pk_rem (by omega) hm0 (by omega), pk_div (by omega) hm0 (by omega), hDj, hu, Nat.div_div_eq_div_mul, ← Nat.pow_succ]
      have hcI : nI (N - j - 1) + (-1) = cI (N - (j + 1)) := by
        have := cI_m1 (N - (j + 1))
        rw [show cI (N - (j + 1) + 1) = nI (N - (j + 1)) from rfl] at this
        rw [show N - j - 1 = N - (j + 1) by omega]
        exact this
      rw [hcI]
      have hs : nd (fun a => dg m c N (N - 1 - a)) (j + 1) = (nd (fun a => dg m c N (N - 1 - a)) j && !hit (fun a => dg m c N (N - 1 - a)) (dg m c N (N - 1 - j)) j) := rfl
      rcases hh : hit (fun a => dg m c N (N - 1 - a)) (dg m c N (N - 1 - j)) j with _ | _
      · refine ⟨fun _ => ?_, fun q => absurd rfl q⟩
        rw [hh, hd] at hs
        refine ih _ (ex_wI hT (by decide) (by decide)) hs (fun a ha => ?_) _
        by_cases e : a = j
        · subst e
          rw [show N - 1 - a = N - a - 1 by omega]; exact wI_same
        · rw [wI_place (by omega)]; exact hB a (by omega)
      · refine ⟨fun q => absurd q (by decide), fun _ => ?_⟩
        have hn : nd (dg m c N) N = false := by
          rw [← hrev]
          rcases z : nd (fun a => dg m c N (N - 1 - a)) N with _ | _
          · rfl
          · have := pal_iff.mp z j hj
            rw [hh] at this
            cases this
        have z := W T' hT fun h => by rw [hn] at h; cases h
        rw [hn, if_neg (by decide)] at z
        exact z
  have z := key 0 (Nat.zero_le _) T (ex_id T) rfl (fun a h => absurd h (by omega)) none
  rw [Nat.pow_zero, Nat.div_one, Nat.sub_zero, cI_pos hN0, ← nI_subI (b := 1) (by omega)] at z
  exact z
def plD (A : Nat → Int32) (y x : Nat) (D : Nat → Nat) : Nat → Int32
  | 0 => 0
  | k + 1 => spu A y x D k
theorem s_xlast {Q : Int32 → fm_S → Prop} {x N : Nat} {T : fm_S} {D : Nat → Nat} (c : CX T A n m y) (hx : x < n) (hN0 : 0 < N) (hN : N ≤ 4) (hD : ∀ k, k < N → D k < m)
    (h63 : ∀ k, k < N → T.1 63 k = nI (D k)) (h64 : ∀ e k, e < m → k < 4 → T.1 64 (4 * e + k) = nI (sv A y e x k)) (W : Q (if sop A y x D (N - 1) = true then 1 else 0) T) :
    am_Ps vI (d + 2) k_Cook_opensLast [.ref 54, .int (nI x), .int (nI N)] T Q := by
  have hn := c.1.1
  have hm6 := c.1.2.1
  have hyb := c.2.2.2.2
  have hd0 : T.1 17 0 = nI y := by rw [c.2.2.1.1, ow_0, c.2.2.2.1]
  have hd2 : T.1 19 x = A (37 + x) := by rw [show T.1 19 x = ow A (9 + x) from c.2.2.1.2.2.1 x hx, ow_2]
  have hd3 : T.1 20 x = A (45 + x) := by rw [show T.1 20 x = ow A (17 + x) from c.2.2.1.2.2.2.1 x hx, ow_3]
  refine e_Cook_opensLast ?_
  simp (disch := omega) only [lit_add, add_lit, lit_mul, mul_lit, nI_add, nI_clamp, nI_subI, nI_sub1, nI_divL, vp_T, ge_F, ge_T, geL_F, geL_T, leL_F, leL_T, le0_F, le0_T, ge0_T, row_self, row_ne, row_l, row_p, row_row, wI_row, wI_same, wI_cell, wI_place, wI_l, wI_p, lt_T, lt_F, ltL_T, ltL_F, gtL_T, gtL_F, lt0_F, eq_T, eq_F, eqL_T, eqL_F, eqM_F, leM_F, nat_mod, i_10, i_01, i_m1, eq_self_iff_true, rw8_lt, up1_ne, up1_eq, wi_T, ite_self, tg_1, tg_68, tg_124, tg_177, tg_11, tg_17, tg_59, tg_78, tg_84, ln_7, ln_16, ln_233, ln_232, ln_6, true_and, and_true, not_true_eq_false, not_false_eq_true, false_implies, true_implies, implies_true, forall_const, forall_eq, if_true, if_false, false_and, and_false, hd2, hd3]
  have key : ∀ k, k ≤ N → ∀ o7 o8 o9 o10, H_Cook_opensLast_33 d (nI x) (nI N) (ssm A y x D k).1 (ssm A y x D k).2 (plD A y x D k) (nI k) o7 o8 o9 o10 T Q := by
    refine up_to (fun o7 o8 o9 o10 => ?_) fun k hk ih o7 o8 o9 o10 => ?_
    · refine p_Cook_opensLast_33 ?_
      simp (disch := omega) only [lit_add, add_lit, lit_mul, mul_lit, nI_add, nI_clamp, nI_subI, nI_sub1, nI_divL, vp_T, ge_F, ge_T, geL_F, geL_T, leL_F, leL_T, le0_F, le0_T, ge0_T, row_self, row_ne, row_l, row_p, row_row, wI_row, wI_same, wI_cell, wI_place, wI_l, wI_p, lt_T, lt_F, ltL_T, ltL_F, gtL_T, gtL_F, lt0_F, eq_T, eq_F, eqL_T, eqL_F, eqM_F, leM_F, nat_mod, i_10, i_01, i_m1, eq_self_iff_true, rw8_lt, up1_ne, up1_eq, wi_T, ite_self, tg_1, tg_68, tg_124, tg_177, tg_11, tg_17, tg_59, tg_78, tg_84, ln_7, ln_16, ln_233, ln_232, ln_6, true_and, and_true, not_true_eq_false, not_false_eq_true, false_implies, true_implies, implies_true, forall_const, forall_eq, if_true, if_false, false_and, and_false]
      obtain ⟨N, rfl⟩ : ∃ q, N = q + 1 := ⟨N - 1, by omega⟩
      rw [plD, ne_if]
      exact ⟨zo _, W⟩
    · have hDk := hD k hk
      have h8 : T.1 8 (D k) = A (125 + D k) := c.2.1.2.2.2.2.2.2.2.2.1 (D k) hDk
      have h2 : T.1 2 x = A (5 + x) := c.2.1.2.2.1 x hx
      have h4 : T.1 4 x = A (21 + x) := c.2.1.2.2.2.2.1 x hx
      have hm := h64 (D k) k hDk (by omega)
      have hpl : f_Town_pull T 1 (nI x) (nI (D k)) (nI (sv A y (D k) x k)) (nI (y + k)) (if A (125 + D k) = (ssm A y x D k).1 then (ssm A y x D k).2 else 0) = spu A y x D k := by
        unfold f_Town_pull spu
        rw [nI_clamp (by omega), nI_clamp (by omega)]
        rw [show T.1 (1 + 1) x = A (5 + x) from h2, show T.1 (1 + 3) x = A (21 + x) from h4, show T.1 (1 + 7) (D k) = A (125 + D k) from h8]
        rw [np_eq (c.1.2.2.2.2.1 x hx)]
        simp only [eq_comm]
      have h30 : sv A y (D k) x k ≤ 30 := by
        have := (c.1.2.2.2.2.2.2.2.2.2.2.1 (D k) hDk).2
        unfold sv
        exact Nat.le_trans (spA_le x) this
      have hle : (nI (sv A y (D k) x k) ≤ 0) = ¬ 0 < sv A y (D k) x k := by
        by_cases z : 0 < sv A y (D k) x k
        · rw [le0_F z (by omega)]; simp [z]
        · rw [show sv A y (D k) x k = 0 by omega]; simp [le0_T]
      rw [Nat.mul_comm] at hm
      rw [ssm, plD] at ih
      refine p_Cook_opensLast_33 ?_
      simp (disch := omega) only [lit_add, add_lit, lit_mul, mul_lit, nI_add, nI_clamp, nI_subI, nI_sub1, nI_divL, vp_T, ge_F, ge_T, geL_F, geL_T, leL_F, leL_T, le0_F, le0_T, ge0_T, row_self, row_ne, row_l, row_p, row_row, wI_row, wI_same, wI_cell, wI_place, wI_l, wI_p, lt_T, lt_F, ltL_T, ltL_F, gtL_T, gtL_F, lt0_F, eq_T, eq_F, eqL_T, eqL_F, eqM_F, leM_F, nat_mod, i_10, i_01, i_m1, eq_self_iff_true, rw8_lt, up1_ne, up1_eq, wi_T, ite_self, tg_1, tg_68, tg_124, tg_177, tg_11, tg_17, tg_59, tg_78, tg_84, ln_7, ln_16, ln_233, ln_232, ln_6, true_and, and_true, not_true_eq_false, not_false_eq_true, false_implies, true_implies, implies_true, forall_const, forall_eq, if_true, if_false, false_and, and_false, h63, h8, hm, hd0, hpl, hle]
      by_cases q : 0 < sv A y (D k) x k
      · simp only [q, if_true, if_false, not_true_eq_false] at ih ⊢
        have e : (if A (125 + D k) = (ssm A y x D k).1 then (ssm A y x D k).2 else 0) + 1 = if (ssm A y x D k).1 = A (125 + D k) then (ssm A y x D k).2 + 1 else 1 := by
          rw [ah_if]; simp only [eq_comm]
        rw [e]
        exact ih _ _ _ _
      · simp only [q, if_true, if_false, not_false_eq_true] at ih ⊢
        exact ih _ _ _ _
  exact key 0 (Nat.zero_le _) _ _ _ _
theorem CX_fr {S S' : fm_S} (h : ∀ c, c < 54 → S'.1 c = S.1 c) (c : CX S A n m y) : CX S' A n m y :=
  ⟨c.1, RS_fr (fun k h1 h2 => h k (by omega)) c.2.1, RD_fr (fun k h1 h2 => h k (by omega)) c.2.2.1, c.2.2.2⟩
theorem ex_cp {lo hi b sp a dp k : Nat} {S S' : fm_S} (h : ex lo hi S S') (h1 : lo ≤ a) (h2 : a ≤ hi) : ex lo hi S (fm_cp S' b sp a dp k) := by
  refine ex_tr h ⟨fun c hc => ?_, rfl, rfl⟩
  funext j
  show (if c = a ∧ _ then _ else _) = _
  rw [if_neg (by omega)]
/-- one length -/
theorem s_xrowOf {Q : Int32 → fm_S → Prop} {x N : Nat} (cx : CX S A n m y) (hx : x < n) (hN0 : 0 < N) (hN : N ≤ 4)
    (hV : ∀ N', 0 < N' → N' < N → ∀ c', c' < m ^ N' → vr A y x m N' c' = false)
    (h64 : ∀ e k, e < m → k < 4 → S.1 64 (4 * e + k) = nI (sv A y e x k))
    (W : ∀ S', ex 54 66 S S' → S'.1 64 = S.1 64 → (¬ (orP A y x m N (m ^ N)).1 < 0 → S'.1 54 1 = (orP A y x m N (m ^ N)).1 ∧ ∀ k, k < N → S'.1 55 k = nI (dg m (orP A y x m N (m ^ N)).2 N k)) → Q (if (orP A y x m N (m ^ N)).1 < 0 then 0 else 1) S') :
    am_Ps vI (d + 3) k_Cook_findRowOf [.ref 54, .int (nI N), .int (nI (m ^ N)), .int (nI x)] S Q := by
  have hn := cx.1.1
  have hm6 := cx.1.2.1
  have hp := pow_b hm6 hN
  have r9 : ∀ T, CX T A n m y → ∀ e, e < m → T.1 10 e = A (137 + e) := fun T c => c.2.1.2.2.2.2.2.2.2.2.2.2
  refine e_Cook_findRowOf ?_
  have key : ∀ c, c ≤ m ^ N → ∀ T o6 o7, ex 54 66 S T → T.1 64 = S.1 64 → (¬ (orP A y x m N c).1 < 0 → T.1 54 1 = (orP A y x m N c).1 ∧ ∀ k, k < N → T.1 55 k = nI (dg m (orP A y x m N c).2 N k)) →
      H_Cook_findRowOf_6 d (nI N) (nI (m ^ N)) (nI x) (if (orP A y x m N c).1 < 0 then 0 else 1) (nI c) o6 o7 T Q := by
    refine up_to (fun T o6 o7 hT h4 hB => ?_) fun c hc ih T o6 o7 hT h4 hB => ?_
    · refine p_Cook_findRowOf_6 ?_
      simp (disch := omega) only [lit_add, add_lit, lit_mul, mul_lit, nI_add, nI_clamp, nI_subI, nI_sub1, nI_divL, vp_T, ge_F, ge_T, geL_F, geL_T, leL_F, leL_T, le0_F, le0_T, ge0_T, row_self, row_ne, row_l, row_p, row_row, wI_row, wI_same, wI_cell, wI_place, wI_l, wI_p, lt_T, lt_F, ltL_T, ltL_F, gtL_T, gtL_F, lt0_F, eq_T, eq_F, eqL_T, eqL_F, eqM_F, leM_F, nat_mod, i_10, i_01, i_m1, eq_self_iff_true, rw8_lt, up1_ne, up1_eq, wi_T, ite_self, tg_1, tg_68, tg_124, tg_177, tg_11, tg_17, tg_59, tg_78, tg_84, ln_7, ln_16, ln_233, ln_232, ln_6, true_and, and_true, not_true_eq_false, not_false_eq_true, false_implies, true_implies, implies_true, forall_const, forall_eq, if_true, if_false, false_and, and_false]
      refine ⟨?_, W T hT h4 hB⟩
      split
      · exact Or.inl rfl
      · exact Or.inr rfl
    · have hD : ∀ i, dg m c N i < m := fun i => (dg_lt hc).resolve_right (by omega)
      have st : ∀ T, ex 54 66 S T → T.1 64 = S.1 64 → (¬ (orP A y x m N c).1 < 0 → T.1 54 1 = (orP A y x m N c).1 ∧ ∀ k, k < N → T.1 55 k = nI (dg m (orP A y x m N c).2 N k)) → orP A y x m N (c + 1) = orP A y x m N c → ∀ o6 o7, H_Cook_findRowOf_6 d (nI N) (nI (m ^ N)) (nI x) (if (orP A y x m N c).1 < 0 then 0 else 1) (nI (c + 1)) o6 o7 T Q := by
        intro T hT h4 hB e o6 o7
        have z := ih T o6 o7 hT h4
        rw [e] at z
        exact z hB
      have hl := vr_last (A := A) (y := y) (x := x) hN0 hc hV
      refine p_Cook_findRowOf_6 ?_
      simp (disch := omega) only [lit_add, add_lit, lit_mul, mul_lit, nI_add, nI_clamp, nI_subI, nI_sub1, nI_divL, vp_T, ge_F, ge_T, geL_F, geL_T, leL_F, leL_T, le0_F, le0_T, ge0_T, row_self, row_ne, row_l, row_p, row_row, wI_row, wI_same, wI_cell, wI_place, wI_l, wI_p, lt_T, lt_F, ltL_T, ltL_F, gtL_T, gtL_F, lt0_F, eq_T, eq_F, eqL_T, eqL_F, eqM_F, leM_F, nat_mod, i_10, i_01, i_m1, eq_self_iff_true, rw8_lt, up1_ne, up1_eq, wi_T, ite_self, tg_1, tg_68, tg_124, tg_177, tg_11, tg_17, tg_59, tg_78, tg_84, ln_7, ln_16, ln_233, ln_232, ln_6, true_and, and_true, not_true_eq_false, not_false_eq_true, false_implies, true_implies, implies_true, forall_const, forall_eq, if_true, if_false, false_and, and_false]
      refine s_xlay (CX_ex hT cx).2.1.2.1 hm6 hN0 hN hc fun T2 hT2 hr => ?_
      have hT2' := ex_tr hT (ex_mono hT2 (lo' := 54) (hi' := 66) (by decide) (by decide))
      have h42 : T2.1 64 = S.1 64 := by rw [hT2.1 64 (by decide)]; exact h4
      have hB2 : ¬ (orP A y x m N c).1 < 0 → T2.1 54 1 = (orP A y x m N c).1 ∧ ∀ k, k < N → T2.1 55 k = nI (dg m (orP A y x m N c).2 N k) := by
        rw [hT2.1 54 (by decide), hT2.1 55 (by decide)]; exact hB
      rcases hnd : nd (dg m c N) N with _ | _
      · rw [hnd, Bool.false_and] at hl
        refine ⟨fun _ => st T2 hT2' h42 hB2 ?_ _ _, fun q => absurd rfl q⟩
        rw [orP, if_neg (fun z => by rw [hl] at z; cases z.1)]
      · rw [hnd, Bool.true_and] at hl
        refine ⟨fun q => absurd q (by decide), fun _ => ?_⟩
        have c2 := CX_ex hT2' cx
        refine s_xlast c2 hx hN0 hN (fun k _ => hD k) (hr hnd) (by rw [h42]; exact h64) ?_
        rcases hso : sop A y x (dg m c N) (N - 1) with _ | _
        · rw [hso] at hl
          refine ⟨fun _ => st T2 hT2' h42 hB2 ?_ _ _, fun q => absurd rfl q⟩
          rw [orP, if_neg (fun z => by rw [hl] at z; cases z.1)]
        · rw [hso] at hl
          refine ⟨fun q => absurd q (by decide), fun _ => ?_⟩
          have loop : ∀ i, i ≤ N → H_Cook_findRowOf_40 d (nI N) (nI (m ^ N)) (nI x) (if (orP A y x m N c).1 < 0 then 0 else 1) (nI c) (bsu A (dg m c N) i) (nI i) T2 Q := by
            refine up_to ?_ fun i hi ih3 => ?_
            · have take : (orP A y x m N (c + 1)) = (bsu A (dg m c N) N, c) → H_Cook_findRowOf_6 d (nI N) (nI (m ^ N)) (nI x) 1 (nI (c + 1)) (some (.int (bsu A (dg m c N) N))) (some (.int (nI N))) (fm_cp (fm_wI T2 54 1 (bsu A (dg m c N) N)) 63 0 55 0 4) Q := by
                intro e
                obtain ⟨b, hb1, hb2⟩ := bsu_n (D := dg m c N) (i := N) cx.1 fun a _ => hD a
                have z := ih (fm_cp (fm_wI T2 54 1 (bsu A (dg m c N) N)) 63 0 55 0 4) (some (.int (bsu A (dg m c N) N))) (some (.int (nI N))) (ex_cp (ex_wI hT2' (by decide) (by decide)) (by decide) (by decide)) h42 fun _ => by
                  rw [e]
                  refine ⟨?_, fun k hk => ?_⟩
                  · show (fm_wI T2 54 1 (bsu A (dg m c N) N)).1 54 1 = _
                    exact wI_same
                  · show (if 55 = 55 ∧ 0 ≤ k ∧ k < 0 + 4 then T2.1 63 (0 + (k - 0)) else _) = _
                    rw [if_pos (by omega), show 0 + (k - 0) = k by omega]
                    exact hr hnd k hk
                rw [e] at z
                have e2 : ((bsu A (dg m c N) N, c).1 < 0) = False := by
                  show (bsu A (dg m c N) N < 0) = False
                  rw [hb2]; exact lt0_F (by omega)
                simp only [e2, if_false] at z
                exact z
              refine p_Cook_findRowOf_40 ?_
              simp (disch := omega) only [lit_add, add_lit, lit_mul, mul_lit, nI_add, nI_clamp, nI_subI, nI_sub1, nI_divL, vp_T, ge_F, ge_T, geL_F, geL_T, leL_F, leL_T, le0_F, le0_T, ge0_T, row_self, row_ne, row_l, row_p, row_row, wI_row, wI_same, wI_cell, wI_place, wI_l, wI_p, lt_T, lt_F, ltL_T, ltL_F, gtL_T, gtL_F, lt0_F, eq_T, eq_F, eqL_T, eqL_F, eqM_F, leM_F, nat_mod, i_10, i_01, i_m1, eq_self_iff_true, rw8_lt, up1_ne, up1_eq, wi_T, ite_self, tg_1, tg_68, tg_124, tg_177, tg_11, tg_17, tg_59, tg_78, tg_84, ln_7, ln_16, ln_233, ln_232, ln_6, true_and, and_true, not_true_eq_false, not_false_eq_true, false_implies, true_implies, implies_true, forall_const, forall_eq, if_true, if_false, false_and, and_false]
              by_cases q : (orP A y x m N c).1 < 0
              · simp only [q, if_true, true_implies, not_true_eq_false, false_implies, and_true]
                exact take (by rw [orP, if_pos ⟨hl, Or.inl q⟩])
              · have hB3 := hB2 q
                simp only [q, if_false, i_10, false_implies, not_false_eq_true, true_implies, true_and, hB3.1]
                refine ⟨fun q2 => ?_, fun q2 => ?_⟩
                · have z := st T2 hT2' h42 hB2 (by rw [orP, if_neg (fun z => z.2.elim q fun z2 => z2 q2)]) (some (.int (bsu A (dg m c N) N))) (some (.int (nI N)))
                  rw [if_neg q] at z
                  exact z
                · exact take (by rw [orP, if_pos ⟨hl, Or.inr q2⟩])
            · have hDi := hD i
              refine p_Cook_findRowOf_40 ?_
              simp (disch := omega) only [lit_add, add_lit, lit_mul, mul_lit, nI_add, nI_clamp, nI_subI, nI_sub1, nI_divL, vp_T, ge_F, ge_T, geL_F, geL_T, leL_F, leL_T, le0_F, le0_T, ge0_T, row_self, row_ne, row_l, row_p, row_row, wI_row, wI_same, wI_cell, wI_place, wI_l, wI_p, lt_T, lt_F, ltL_T, ltL_F, gtL_T, gtL_F, lt0_F, eq_T, eq_F, eqL_T, eqL_F, eqM_F, leM_F, nat_mod, i_10, i_01, i_m1, eq_self_iff_true, rw8_lt, up1_ne, up1_eq, wi_T, ite_self, tg_1, tg_68, tg_124, tg_177, tg_11, tg_17, tg_59, tg_78, tg_84, ln_7, ln_16, ln_233, ln_232, ln_6, true_and, and_true, not_true_eq_false, not_false_eq_true, false_implies, true_implies, implies_true, forall_const, forall_eq, if_true, if_false, false_and, and_false, hr hnd, r9 T2 c2]
              exact ih3
          exact loop 0 (Nat.zero_le _)
  have z := key 0 (Nat.zero_le _) S none none (ex_id S) rfl fun h => absurd (show (-1 : Int32) < 0 by decide) h
  rw [show (orP A y x m N 0).1 = -1 from rfl, if_pos (by decide)] at z
  exact z
end XORDER
