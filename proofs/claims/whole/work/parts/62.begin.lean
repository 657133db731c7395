/-! a town begins, is copied -/
def fA : Nat → Int32 := fun i => if 121 ≤ i ∧ i < 125 then nI (i - 121) else 0
theorem fA_0 {i : Nat} (h : i < 121 ∨ 125 ≤ i) : fA i = 0 := by unfold fA; rw [if_neg (by omega)]
theorem fA_w {i : Nat} (h : i < 4) : fA (121 + i) = nI i := by unfold fA; rw [if_pos (by omega), show 121 + i - 121 = i by omega]
theorem fA_first {S : fm_S} {c k : Nat} (h : k < 373) : (m_first S c 4).1 c k = fA k := by
  show (if c = c ∧ 121 ≤ k ∧ k < 121 + 4 then nI (k - 121) else if c = c ∧ k < 373 then 0 else S.1 c k) = _
  unfold fA
  by_cases q : 121 ≤ k ∧ k < 125
  · rw [if_pos (by omega), if_pos q]
  · rw [if_neg (by omega), if_pos (by omega), if_neg q]
section BEGIN
variable {d n m q u y N : Nat} {S : fm_S} {A : Nat → Int32}
theorem RT_first {T : fm_S} {t : Nat} (e0 : T.1 t 0 = 0) (e7 : T.1 t 7 = 0) (e14 : T.1 t 14 = 0) (e10 : T.1 (t + 10) 0 = 0) (e4 : ∀ k, k < 8 → T.1 (t + 4) k = 0) (e5 : ∀ k, k < 4 → T.1 (t + 5) k = 0) (e6 : ∀ k, k < 4 → T.1 (t + 6) k = nI k)
    (d0 : T.1 (t + 16) 0 = 0) (d1 : ∀ k, k < 8 → T.1 (t + 16 + 1) k = -1 ∧ T.1 (t + 16 + 2) k = -1 ∧ T.1 (t + 16 + 3) k = 0) : RT T t fA 0 0 0 0 0 0 := by
  refine ⟨⟨by omega, by omega, by rw [fA_0 (by omega)]; rfl, by rw [fA_0 (by omega)]; rfl, fun k h => absurd h (by omega), fun k h => ?_, fun k h h1 => ?_, fun k h => ?_, fun k h => ?_, fun k h => absurd h (by omega), fun k h => absurd h (by omega), fun k h => absurd h (by omega)⟩,
    ⟨e0, e7, fun k h => absurd h (by omega), fun k h => absurd h (by omega), fun k h => absurd h (by omega), fun a b h h' => ?_, fun k h => ?_, fun k h => ?_, fun k h => absurd h (by omega), fun k h => absurd h (by omega), fun k h => absurd h (by omega)⟩,
    ⟨?_, fun k h => absurd h (by omega), fun k h => absurd h (by omega), fun k h => absurd h (by omega), fun k _ h => d1 k h⟩,
    ⟨by omega, by rw [fA_0 (by omega)]; rfl, e10, fun k h => absurd h (by omega), fun k h => absurd h (by omega), fun k h => absurd h (by omega), fun k h => absurd h (by omega), fun k h => absurd h (by omega)⟩,
    ⟨by omega, by rw [fA_0 (by omega)]; rfl, e14⟩, fun j h => absurd h (by omega), by rw [fA_0 (by omega)]; rfl, by omega, fun j h => absurd h (by omega)⟩
  · rw [fA_0 (by omega)]; exact iN_of (j := 0) rfl (by omega) (by omega)
  · rw [fA_0 (by omega)] at h1; exact absurd h1 (by decide)
  · rw [fA_0 (by omega)]; exact iN_of (j := 0) rfl (by omega) (by omega)
  · rw [fA_w h]; exact iN_of rfl (by omega) (by omega)
  · rw [fA_0 (by omega), e4 a h]; exact fx_has0 _
  · rw [fA_0 (by omega)]; exact e5 k h
  · rw [fA_w h]; exact e6 k h
  · rw [ow_0, fA_0 (by omega)]; exact d0
theorem s_begin {Q : Unit → fm_S → Prop} {t : Nat} (h6 : fm_tg t = 6) (h2 : fm_tg (t + 16) = 2)
    (W : ∀ S', (∀ c, c < t ∨ t + 19 < c → S'.1 c = S.1 c) → S'.2 = S.2 → RT S' t fA 0 0 0 0 0 0 → Q () S') :
    am_Ps vV (d + 1) k_Town_begin [.ref t] S Q := by
  refine e_Town_begin ⟨h6, h2, ?_⟩
  generalize hT : dy_first (fm_wI (fm_wI (fm_wI (fm_wI S t 0 0) t 7 0) (t + 10) 0 0) t 14 0) (t + 16) 8 = T
  have hf : ∀ c, c < t ∨ t + 19 < c → T.1 c = S.1 c := fun c hc => by
    subst hT
    funext j
    simp only [dy_first]
    rw [if_neg (by omega), if_neg (by omega), if_neg (by omega), wI_cell (by omega), wI_cell (by omega), wI_cell (by omega), wI_cell (by omega)]
  have hs : T.2 = S.2 := by subst hT; rfl
  have e0 : T.1 t 0 = 0 := by
    subst hT
    simp only [dy_first]
    rw [if_neg (by omega), if_neg (by omega), if_neg (by omega), wI_place (by omega), wI_cell (by omega), wI_place (by omega), wI_same]
  have e7 : T.1 t 7 = 0 := by
    subst hT
    simp only [dy_first]
    rw [if_neg (by omega), if_neg (by omega), if_neg (by omega), wI_place (by omega), wI_cell (by omega), wI_same]
  have e14 : T.1 t 14 = 0 := by
    subst hT
    simp only [dy_first]
    rw [if_neg (by omega), if_neg (by omega), if_neg (by omega), wI_same]
  have e10 : T.1 (t + 10) 0 = 0 := by
    subst hT
    simp only [dy_first]
    rw [if_neg (by omega), if_neg (by omega), if_neg (by omega), wI_cell (by omega), wI_same]
  have d0 : T.1 (t + 16) 0 = 0 := by
    subst hT
    show (if t + 16 = t + 16 ∧ 0 = 0 then (0 : Int32) else _) = 0
    rw [if_pos ⟨rfl, rfl⟩]
  have d1 : ∀ k, k < 8 → T.1 (t + 16 + 1) k = -1 ∧ T.1 (t + 16 + 2) k = -1 ∧ T.1 (t + 16 + 3) k = 0 := fun k hk => by
    subst hT
    refine ⟨?_, ?_, ?_⟩
    · show (if t + 16 + 1 = t + 16 ∧ k = 0 then (0 : Int32) else if (t + 16 + 1 = t + 16 + 1 ∨ t + 16 + 1 = t + 16 + 2) ∧ k < 8 then -1 else _) = _
      rw [if_neg (by omega), if_pos ⟨Or.inl rfl, hk⟩]
    · show (if t + 16 + 2 = t + 16 ∧ k = 0 then (0 : Int32) else if (t + 16 + 2 = t + 16 + 1 ∨ t + 16 + 2 = t + 16 + 2) ∧ k < 8 then -1 else _) = _
      rw [if_neg (by omega), if_pos ⟨Or.inr rfl, hk⟩]
    · show (if t + 16 + 3 = t + 16 ∧ k = 0 then (0 : Int32) else if (t + 16 + 3 = t + 16 + 1 ∨ t + 16 + 3 = t + 16 + 2) ∧ k < 8 then -1 else if t + 16 + 3 = t + 16 + 3 ∧ k < 8 then 0 else _) = _
      rw [if_neg (by omega), if_neg (by omega), if_pos ⟨rfl, hk⟩]
  clear hT
  have fin : ∀ k, k ≤ 8 → ∀ U, (∀ c, c < t + 4 ∨ t + 6 < c → U.1 c = T.1 c) → U.2 = T.2 → (∀ k, k < 4 → U.1 (t + 5) k = 0) → (∀ k, k < 4 → U.1 (t + 6) k = nI k) → (∀ k', k' < k → U.1 (t + 4) k' = 0) → H_Town_begin_59 d t (nI k) U Q := by
    refine up_to (fun U h1 h3 h5 h6' h4 => ?_) fun k hk ih U h1 h3 h5 h6' h4 => ?_
    · refine p_Town_begin_59 ?_
      simp (disch := omega) only [lit_add, add_lit, lit_mul, mul_lit, nI_add, nI_clamp, nI_subI, nI_sub1, nI_divL, vp_T, ge_F, ge_T, geL_F, geL_T, leL_F, leL_T, le0_F, le0_T, ge0_T, row_self, row_ne, row_l, row_p, row_row, wI_row, wI_same, wI_cell, wI_place, wI_l, wI_p, lt_T, lt_F, ltL_T, ltL_F, gtL_T, gtL_F, lt0_F, eq_T, eq_F, eqL_T, eqL_F, eqM_F, leM_F, nat_mod, i_10, i_01, i_m1, eq_self_iff_true, rw8_lt, up1_ne, up1_eq, wi_T, ite_self, tg_1, tg_68, tg_124, tg_177, tg_11, tg_17, tg_59, tg_78, tg_84, ln_7, ln_16, ln_233, ln_232, ln_6, true_and, and_true, not_true_eq_false, not_false_eq_true, false_implies, true_implies, implies_true, forall_const, forall_eq, if_true, if_false, false_and, and_false]
      refine W U (fun c hc => by rw [h1 c (by omega), hf c hc]) (h3.trans hs) (RT_first ?_ ?_ ?_ ?_ h4 h5 h6' ?_ fun k hk => ?_)
      · rw [h1 t (by omega)]; exact e0
      · rw [h1 t (by omega)]; exact e7
      · rw [h1 t (by omega)]; exact e14
      · rw [h1 _ (by omega)]; exact e10
      · rw [h1 _ (by omega)]; exact d0
      · rw [h1 _ (by omega), h1 _ (by omega), h1 _ (by omega)]; exact d1 k hk
    · refine p_Town_begin_59 ?_
      simp (disch := omega) only [lit_add, add_lit, lit_mul, mul_lit, nI_add, nI_clamp, nI_subI, nI_sub1, nI_divL, vp_T, ge_F, ge_T, geL_F, geL_T, leL_F, leL_T, le0_F, le0_T, ge0_T, row_self, row_ne, row_l, row_p, row_row, wI_row, wI_same, wI_cell, wI_place, wI_l, wI_p, lt_T, lt_F, ltL_T, ltL_F, gtL_T, gtL_F, lt0_F, eq_T, eq_F, eqL_T, eqL_F, eqM_F, leM_F, nat_mod, i_10, i_01, i_m1, eq_self_iff_true, rw8_lt, up1_ne, up1_eq, wi_T, ite_self, tg_1, tg_68, tg_124, tg_177, tg_11, tg_17, tg_59, tg_78, tg_84, ln_7, ln_16, ln_233, ln_232, ln_6, true_and, and_true, not_true_eq_false, not_false_eq_true, false_implies, true_implies, implies_true, forall_const, forall_eq, if_true, if_false, false_and, and_false, h6]
      refine ih _ (fun c hc => ?_) h3 (fun k hk => ?_) (fun k hk => ?_) fun k' hk' => ?_
      · rw [wI_ce (by omega)]; exact h1 c hc
      · rw [wI_cell (by omega)]; exact h5 k hk
      · rw [wI_cell (by omega)]; exact h6' k hk
      · by_cases e : k' = k
        · subst e; exact wI_same
        · rw [wI_place e]; exact h4 k' (by omega)
  have key : ∀ k, k ≤ 4 → ∀ U, (∀ c, c < t + 4 ∨ t + 6 < c → U.1 c = T.1 c) → U.2 = T.2 → (∀ k', k' < k → U.1 (t + 5) k' = 0) → (∀ k', k' < k → U.1 (t + 6) k' = nI k') → H_Town_begin_32 d t (nI k) U Q := by
    refine up_to (fun U h1 h3 h5 h6' => ?_) fun k hk ih U h1 h3 h5 h6' => ?_
    · refine p_Town_begin_32 ?_
      simp (disch := omega) only [lit_add, add_lit, lit_mul, mul_lit, nI_add, nI_clamp, nI_subI, nI_sub1, nI_divL, vp_T, ge_F, ge_T, geL_F, geL_T, leL_F, leL_T, le0_F, le0_T, ge0_T, row_self, row_ne, row_l, row_p, row_row, wI_row, wI_same, wI_cell, wI_place, wI_l, wI_p, lt_T, lt_F, ltL_T, ltL_F, gtL_T, gtL_F, lt0_F, eq_T, eq_F, eqL_T, eqL_F, eqM_F, leM_F, nat_mod, i_10, i_01, i_m1, eq_self_iff_true, rw8_lt, up1_ne, up1_eq, wi_T, ite_self, tg_1, tg_68, tg_124, tg_177, tg_11, tg_17, tg_59, tg_78, tg_84, ln_7, ln_16, ln_233, ln_232, ln_6, true_and, and_true, not_true_eq_false, not_false_eq_true, false_implies, true_implies, implies_true, forall_const, forall_eq, if_true, if_false, false_and, and_false]
      exact fin 0 (by omega) U h1 h3 h5 h6' fun k' h => absurd h (by omega)
    · refine p_Town_begin_32 ?_
      simp (disch := omega) only [lit_add, add_lit, lit_mul, mul_lit, nI_add, nI_clamp, nI_subI, nI_sub1, nI_divL, vp_T, ge_F, ge_T, geL_F, geL_T, leL_F, leL_T, le0_F, le0_T, ge0_T, row_self, row_ne, row_l, row_p, row_row, wI_row, wI_same, wI_cell, wI_place, wI_l, wI_p, lt_T, lt_F, ltL_T, ltL_F, gtL_T, gtL_F, lt0_F, eq_T, eq_F, eqL_T, eqL_F, eqM_F, leM_F, nat_mod, i_10, i_01, i_m1, eq_self_iff_true, rw8_lt, up1_ne, up1_eq, wi_T, ite_self, tg_1, tg_68, tg_124, tg_177, tg_11, tg_17, tg_59, tg_78, tg_84, ln_7, ln_16, ln_233, ln_232, ln_6, true_and, and_true, not_true_eq_false, not_false_eq_true, false_implies, true_implies, implies_true, forall_const, forall_eq, if_true, if_false, false_and, and_false, h6]
      refine ih _ (fun c hc => ?_) h3 (fun k' hk' => ?_) (fun k' hk' => ?_)
      · rw [wI_ce (by omega), wI_ce (by omega)]; exact h1 c hc
      · rw [wI_cell (by omega)]
        by_cases e : k' = k
        · subst e; exact wI_same
        · rw [wI_place e]; exact h5 k' (by omega)
      · by_cases e : k' = k
        · subst e; exact wI_same
        · rw [wI_place e, wI_cell (by omega)]; exact h6' k' (by omega)
  exact key 0 (by omega) T (fun _ _ => rfl) rfl (fun k' h => absurd h (by omega)) fun k' h => absurd h (by omega)
end BEGIN
