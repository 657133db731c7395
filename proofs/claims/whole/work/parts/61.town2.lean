/-! what each change does to the relation: printed by wip/whole/gen60.py -/
section OPS2
variable {S : fm_S} {t n m q u y N c : Nat} {A : Nat → Int32}
def adL (A : Nat → Int32) (a b : Nat) : Nat → Int32 := up1 (up1 A (53 + (8 * a + b)) 1) (53 + (8 * b + a)) 1
theorem g_adL {a b : Nat} (ha : a < 8) (hb : b < 8) : g_M_addLane S c (nI a) (nI b) = fm_row S c (adL (S.1 c) a b) := by
  unfold g_M_addLane adL
  rw [wI_as S c]
  simp (disch := omega) only [lit_add, add_lit, lit_mul, mul_lit, nI_add, nI_clamp, nI_subI, nI_sub1, nI_divL, vp_T, ge_F, ge_T, geL_F, geL_T, leL_F, leL_T, le0_F, le0_T, ge0_T, row_self, row_ne, row_l, row_p, row_row, wI_row, wI_same, wI_cell, wI_place, wI_l, wI_p, lt_T, lt_F, ltL_T, ltL_F, gtL_T, gtL_F, lt0_F, eq_T, eq_F, eqL_T, eqL_F, eqM_F, leM_F, nat_mod, i_10, i_01, i_m1, eq_self_iff_true, rw8_lt, up1_ne, up1_eq, wi_T, ite_self, tg_1, tg_68, tg_124, tg_177, tg_11, tg_17, tg_59, tg_78, tg_84, ln_7, ln_16, ln_233, ln_232, ln_6, true_and, and_true, not_true_eq_false, not_false_eq_true, false_implies, true_implies, implies_true, forall_const, forall_eq, if_true, if_false, false_and, and_false]
  rw [show 53 + 8 * a + b = 53 + (8 * a + b) by omega, show 53 + 8 * b + a = 53 + (8 * b + a) by omega]
theorem adL_o {a b j : Nat} (ha : a < 8) (hb : b < 8) (h : j < 53 ∨ 117 ≤ j) : adL A a b j = A j := by
  unfold adL
  simp (disch := omega) only [up1_ne]
theorem adL_v {a b i j : Nat} (ha : a < 8) (hb : b < 8) (hi : i < 8) (hj : j < 8) : adL A a b (53 + (8 * i + j)) = if (i = a ∧ j = b) ∨ (i = b ∧ j = a) then 1 else A (53 + (8 * i + j)) := by
  unfold adL up1
  by_cases h : (i = a ∧ j = b) ∨ (i = b ∧ j = a)
  · rw [if_pos h]
    by_cases e : 53 + (8 * i + j) = 53 + (8 * b + a)
    · rw [if_pos e]
    · rw [if_neg e, if_pos (by omega)]
  · rw [if_neg h, if_neg (by omega), if_neg (by omega)]
theorem or_has {x : Int32} {b j : Nat} (hb : b < 8) (hj : j < 8) : f_X_has (x ||| (1 <<< (nI b &&& 31))) (nI j) = if j = b then 1 else f_X_has x (nI j) := by
  rw [tb_has _ (by omega), tb_has _ (by omega), tb_or, tb_one b (by omega) j (by omega)]
  by_cases e : j = b <;> simp [e]
theorem RT_lane {x w : Nat} (hR : RT S t A n m q u y N) (hP : PP S t) (hx : x < n) (hw : w < n) (hne : x ≠ w) : RT (g_Town_addLane S t (nI x) (nI w)) t (adL A x w) n m q u y N := by
  obtain ⟨⟨hn, hm6, h0, h1, hk, hw9, hl, hg, hwi, hsm, hst, hbu⟩, ⟨r0, r7, r1, r2, r3, r4, r5, r6, r7', r8, r9⟩, ⟨d0, d1, d2, d3, d4⟩, ⟨q0, q1, q2, n1, n2, n3, n4, n5⟩, h5, h6, h7, h8, h9⟩ := hR
  have eo : ∀ c, c ≠ t + 4 → (g_Town_addLane S t (nI x) (nI w)).1 c = S.1 c := fun c hc => by
    funext j
    unfold g_Town_addLane
    simp (disch := omega) only [lit_add, add_lit, lit_mul, mul_lit, nI_add, nI_clamp, nI_subI, nI_sub1, nI_divL, vp_T, ge_F, ge_T, geL_F, geL_T, leL_F, leL_T, le0_F, le0_T, ge0_T, row_self, row_ne, row_l, row_p, row_row, wI_row, wI_same, wI_cell, wI_place, wI_l, wI_p, lt_T, lt_F, ltL_T, ltL_F, gtL_T, gtL_F, lt0_F, eq_T, eq_F, eqL_T, eqL_F, eqM_F, leM_F, nat_mod, i_10, i_01, i_m1, eq_self_iff_true, rw8_lt, up1_ne, up1_eq, wi_T, ite_self, tg_1, tg_68, tg_124, tg_177, tg_11, tg_17, tg_59, tg_78, tg_84, ln_7, ln_16, ln_233, ln_232, ln_6, true_and, and_true, not_true_eq_false, not_false_eq_true, false_implies, true_implies, implies_true, forall_const, forall_eq, if_true, if_false, false_and, and_false]
  have ebx : (g_Town_addLane S t (nI x) (nI w)).1 (t + 4) x = S.1 (t + 4) x ||| (1 <<< (nI w &&& 31)) := by
    unfold g_Town_addLane
    simp (disch := omega) only [lit_add, add_lit, lit_mul, mul_lit, nI_add, nI_clamp, nI_subI, nI_sub1, nI_divL, vp_T, ge_F, ge_T, geL_F, geL_T, leL_F, leL_T, le0_F, le0_T, ge0_T, row_self, row_ne, row_l, row_p, row_row, wI_row, wI_same, wI_cell, wI_place, wI_l, wI_p, lt_T, lt_F, ltL_T, ltL_F, gtL_T, gtL_F, lt0_F, eq_T, eq_F, eqL_T, eqL_F, eqM_F, leM_F, nat_mod, i_10, i_01, i_m1, eq_self_iff_true, rw8_lt, up1_ne, up1_eq, wi_T, ite_self, tg_1, tg_68, tg_124, tg_177, tg_11, tg_17, tg_59, tg_78, tg_84, ln_7, ln_16, ln_233, ln_232, ln_6, true_and, and_true, not_true_eq_false, not_false_eq_true, false_implies, true_implies, implies_true, forall_const, forall_eq, if_true, if_false, false_and, and_false]
  have ebw : (g_Town_addLane S t (nI x) (nI w)).1 (t + 4) w = S.1 (t + 4) w ||| (1 <<< (nI x &&& 31)) := by
    unfold g_Town_addLane
    simp (disch := omega) only [lit_add, add_lit, lit_mul, mul_lit, nI_add, nI_clamp, nI_subI, nI_sub1, nI_divL, vp_T, ge_F, ge_T, geL_F, geL_T, leL_F, leL_T, le0_F, le0_T, ge0_T, row_self, row_ne, row_l, row_p, row_row, wI_row, wI_same, wI_cell, wI_place, wI_l, wI_p, lt_T, lt_F, ltL_T, ltL_F, gtL_T, gtL_F, lt0_F, eq_T, eq_F, eqL_T, eqL_F, eqM_F, leM_F, nat_mod, i_10, i_01, i_m1, eq_self_iff_true, rw8_lt, up1_ne, up1_eq, wi_T, ite_self, tg_1, tg_68, tg_124, tg_177, tg_11, tg_17, tg_59, tg_78, tg_84, ln_7, ln_16, ln_233, ln_232, ln_6, true_and, and_true, not_true_eq_false, not_false_eq_true, false_implies, true_implies, implies_true, forall_const, forall_eq, if_true, if_false, false_and, and_false]
  have ebo : ∀ i, i ≠ x → i ≠ w → (g_Town_addLane S t (nI x) (nI w)).1 (t + 4) i = S.1 (t + 4) i := fun i h1 h2 => by
    unfold g_Town_addLane
    simp (disch := omega) only [lit_add, add_lit, lit_mul, mul_lit, nI_add, nI_clamp, nI_subI, nI_sub1, nI_divL, vp_T, ge_F, ge_T, geL_F, geL_T, leL_F, leL_T, le0_F, le0_T, ge0_T, row_self, row_ne, row_l, row_p, row_row, wI_row, wI_same, wI_cell, wI_place, wI_l, wI_p, lt_T, lt_F, ltL_T, ltL_F, gtL_T, gtL_F, lt0_F, eq_T, eq_F, eqL_T, eqL_F, eqM_F, leM_F, nat_mod, i_10, i_01, i_m1, eq_self_iff_true, rw8_lt, up1_ne, up1_eq, wi_T, ite_self, tg_1, tg_68, tg_124, tg_177, tg_11, tg_17, tg_59, tg_78, tg_84, ln_7, ln_16, ln_233, ln_232, ln_6, true_and, and_true, not_true_eq_false, not_false_eq_true, false_implies, true_implies, implies_true, forall_const, forall_eq, if_true, if_false, false_and, and_false]
  have bo : ∀ {j}, (j < 53 ∨ 117 ≤ j) → adL A x w j = A j := fun h => adL_o (by omega) (by omega) h
  have ep : (g_Town_addLane S t (nI x) (nI w)).2.2 = S.2.2 := rfl
  generalize (g_Town_addLane S t (nI x) (nI w)) = T at *
  generalize hB : (adL A x w) = B at *
  refine ⟨⟨hn, hm6, by rw [bo (by omega)]; exact h0, by rw [bo (by omega)]; exact h1, fun k h => ?_, fun k h => ?_, fun k h => ?_, fun k h => ?_, fun k h => ?_, fun k h => ?_, fun k h => ?_, fun k h => ?_⟩, ⟨by rw [eo _ (by omega)]; exact r0, by rw [eo _ (by omega)]; exact r7, fun k h => ?_, fun k h => ?_, fun k h => ?_, fun a b h h' => ?_, fun k h => ?_, fun k h => ?_, fun k h => ?_, fun k h => ?_, fun k h => ?_⟩, ⟨?_, fun k h => ?_, fun k h => ?_, fun k h => ?_, fun k a b => ?_⟩, ⟨q0, ?_, ?_, fun k h => ?_, fun k h => ?_, fun k h => ?_, fun k h => ?_, fun k h => ?_⟩, ⟨h5.1, by rw [bo (by omega)]; exact h5.2.1, by rw [eo _ (by omega)]; exact h5.2.2⟩, fun j hj => ?_, by rw [bo (by omega)]; exact h7, h8, fun j hj => by rw [bo (by have := h5.1; omega)]; exact h9 j hj⟩
  · rw [bo (by omega)]; exact hk k h
  · rw [bo (by omega)]; exact hw9 k h
  · have hk := h
    obtain ⟨i, j, hi, hj, e⟩ : ∃ i j, i < 8 ∧ j < 8 ∧ k = 8 * i + j := ⟨k / 8, k % 8, by omega, by omega, by omega⟩
    subst e
    rw [← hB, adL_v (by omega) (by omega) hi hj]
    split
    · intro _; omega
    · exact hl _ hk
  · rw [bo (by omega)]; exact hg k h
  · rw [bo (by omega)]; exact hwi k h
  · rw [bo (by omega)]; exact hsm k h
  · rw [bo (by omega)]; exact hst k h
  · rw [bo (by omega)]; exact hbu k h
  · rw [bo (by omega), eo _ (by omega)]; exact r1 k h
  · rw [bo (by omega), eo _ (by omega)]; exact r2 k h
  · rw [bo (by omega), eo _ (by omega)]; exact r3 k h
  · rw [← hB, adL_v (by omega) (by omega) h h']
    have z := r4 a b h h'
    by_cases e1 : a = x
    · subst e1
      rw [ebx]
      by_cases e2 : b = w
      · subst e2; rw [or_has (by omega) h', if_pos rfl, if_pos (by omega)]
      · rw [or_has (by omega) h', if_neg e2, if_neg (by omega)]; exact z
    · by_cases e1' : a = w
      · subst e1'
        rw [ebw]
        by_cases e2 : b = x
        · subst e2; rw [or_has (by omega) h', if_pos rfl, if_pos (by omega)]
        · rw [or_has (by omega) h', if_neg e2, if_neg (by omega)]; exact z
      · rw [ebo a e1 e1', if_neg (by omega)]; exact z
  · rw [bo (by omega), eo _ (by omega)]; exact r5 k h
  · rw [bo (by omega), eo _ (by omega)]; exact r6 k h
  · rw [bo (by omega), eo _ (by omega)]; exact r7' k h
  · rw [bo (by omega), eo _ (by omega)]; exact r8 k h
  · rw [bo (by omega), eo _ (by omega)]; exact r9 k h
  · rw [eo _ (by omega), ow_0, bo (by omega)]; exact d0
  · rw [eo _ (by omega), ow_1, bo (by omega), ← ow_1 A]; exact d1 k h
  · rw [eo _ (by omega), ow_2, bo (by omega), ← ow_2 A]; exact d2 k h
  · rw [eo _ (by omega), ow_3, bo (by omega), ← ow_3 A]; exact d3 k h
  · rw [eo _ (by omega), eo _ (by omega), eo _ (by omega)]; exact d4 k a b
  · rw [bo (by omega)]; exact q1
  · rw [eo _ (by omega)]; exact q2
  · rw [bo (by omega), eo _ (by omega)]; exact n1 k h
  · rw [bo (by omega), eo _ (by omega)]; exact n2 k h
  · rw [bo (by omega), eo _ (by omega)]; exact n3 k h
  · rw [bo (by omega), eo _ (by omega)]; exact n4 k h
  · rw [bo (by omega), eo _ (by omega)]; exact n5 k h
  · obtain ⟨i, hi, e⟩ := hP.1 j (by have := h5.1; omega)
    rw [ep]
    exact RD_c hn (fun i hi => bo (by have := h5.1; omega)) (RD_fr (fun c a b => eo c (by omega)) (h6 j hj))
theorem RT_gate {w g : Nat} (hR : RT S t A n m q u y N) (hP : PP S t) (hw : w < 4) (hg8 : g < n) : RT (fm_wI S (t + 5) w (nI g)) t (up1 A (117 + w) (nI g)) n m q u y N := by
  obtain ⟨⟨hn, hm6, h0, h1, hk, hw9, hl, hg, hwi, hsm, hst, hbu⟩, ⟨r0, r7, r1, r2, r3, r4, r5, r6, r7', r8, r9⟩, ⟨d0, d1, d2, d3, d4⟩, ⟨q0, q1, q2, n1, n2, n3, n4, n5⟩, h5, h6, h7, h8, h9⟩ := hR
  have eo : ∀ c, c ≠ t + 5 → (fm_wI S (t + 5) w (nI g)).1 c = S.1 c := fun c hc => wI_ce hc
  have e5 : ∀ k, (fm_wI S (t + 5) w (nI g)).1 (t + 5) k = if k = w then nI g else S.1 (t + 5) k := fun k => by
    by_cases z : k = w
    · subst z; rw [if_pos rfl, wI_same]
    · rw [if_neg z, wI_place z]
  have bo : ∀ {j}, j ≠ 117 + w → up1 A (117 + w) (nI g) j = A j := fun h => up1_ne h
  have b5 : up1 A (117 + w) (nI g) (117 + w) = nI g := up1_eq
  have ep : (fm_wI S (t + 5) w (nI g)).2.2 = S.2.2 := rfl
  generalize (fm_wI S (t + 5) w (nI g)) = T at *
  generalize hB : (up1 A (117 + w) (nI g)) = B at *
  refine ⟨⟨hn, hm6, by rw [bo (by omega)]; exact h0, by rw [bo (by omega)]; exact h1, fun k h => ?_, fun k h => ?_, fun k h => ?_, fun k h => ?_, fun k h => ?_, fun k h => ?_, fun k h => ?_, fun k h => ?_⟩, ⟨by rw [eo _ (by omega)]; exact r0, by rw [eo _ (by omega)]; exact r7, fun k h => ?_, fun k h => ?_, fun k h => ?_, fun a b h h' => ?_, fun k h => ?_, fun k h => ?_, fun k h => ?_, fun k h => ?_, fun k h => ?_⟩, ⟨?_, fun k h => ?_, fun k h => ?_, fun k h => ?_, fun k a b => ?_⟩, ⟨q0, ?_, ?_, fun k h => ?_, fun k h => ?_, fun k h => ?_, fun k h => ?_, fun k h => ?_⟩, ⟨h5.1, by rw [bo (by omega)]; exact h5.2.1, by rw [eo _ (by omega)]; exact h5.2.2⟩, fun j hj => ?_, by rw [bo (by omega)]; exact h7, h8, fun j hj => by rw [bo (by have := h5.1; omega)]; exact h9 j hj⟩
  · rw [bo (by omega)]; exact hk k h
  · rw [bo (by omega)]; exact hw9 k h
  · rw [bo (by omega)]; exact hl k h
  · by_cases z : k = w
    · subst z; rw [b5]; exact iN_of rfl (by omega) (by omega)
    · rw [bo (by omega)]; exact hg k h
  · rw [bo (by omega)]; exact hwi k h
  · rw [bo (by omega)]; exact hsm k h
  · rw [bo (by omega)]; exact hst k h
  · rw [bo (by omega)]; exact hbu k h
  · rw [bo (by omega), eo _ (by omega)]; exact r1 k h
  · rw [bo (by omega), eo _ (by omega)]; exact r2 k h
  · rw [bo (by omega), eo _ (by omega)]; exact r3 k h
  · rw [bo (by omega), eo _ (by omega)]; exact r4 a b h h'
  · rw [e5]
    by_cases z : k = w
    · subst z; rw [if_pos rfl, b5]
    · rw [if_neg z, bo (by omega)]; exact r5 k h
  · rw [bo (by omega), eo _ (by omega)]; exact r6 k h
  · rw [bo (by omega), eo _ (by omega)]; exact r7' k h
  · rw [bo (by omega), eo _ (by omega)]; exact r8 k h
  · rw [bo (by omega), eo _ (by omega)]; exact r9 k h
  · rw [eo _ (by omega), ow_0, bo (by omega)]; exact d0
  · rw [eo _ (by omega), ow_1, bo (by omega), ← ow_1 A]; exact d1 k h
  · rw [eo _ (by omega), ow_2, bo (by omega), ← ow_2 A]; exact d2 k h
  · rw [eo _ (by omega), ow_3, bo (by omega), ← ow_3 A]; exact d3 k h
  · rw [eo _ (by omega), eo _ (by omega), eo _ (by omega)]; exact d4 k a b
  · rw [bo (by omega)]; exact q1
  · rw [eo _ (by omega)]; exact q2
  · rw [bo (by omega), eo _ (by omega)]; exact n1 k h
  · rw [bo (by omega), eo _ (by omega)]; exact n2 k h
  · rw [bo (by omega), eo _ (by omega)]; exact n3 k h
  · rw [bo (by omega), eo _ (by omega)]; exact n4 k h
  · rw [bo (by omega), eo _ (by omega)]; exact n5 k h
  · obtain ⟨i, hi, e⟩ := hP.1 j (by have := h5.1; omega)
    rw [ep]
    exact RD_c hn (fun i hi => bo (by have := h5.1; omega)) (RD_fr (fun c a b => eo c (by omega)) (h6 j hj))
theorem RT_wind {w g : Nat} (hR : RT S t A n m q u y N) (hP : PP S t) (hw : w < 4) (hg8 : g < 4) : RT (fm_wI S (t + 6) w (nI g)) t (up1 A (121 + w) (nI g)) n m q u y N := by
  obtain ⟨⟨hn, hm6, h0, h1, hk, hw9, hl, hg, hwi, hsm, hst, hbu⟩, ⟨r0, r7, r1, r2, r3, r4, r5, r6, r7', r8, r9⟩, ⟨d0, d1, d2, d3, d4⟩, ⟨q0, q1, q2, n1, n2, n3, n4, n5⟩, h5, h6, h7, h8, h9⟩ := hR
  have eo : ∀ c, c ≠ t + 6 → (fm_wI S (t + 6) w (nI g)).1 c = S.1 c := fun c hc => wI_ce hc
  have e5 : ∀ k, (fm_wI S (t + 6) w (nI g)).1 (t + 6) k = if k = w then nI g else S.1 (t + 6) k := fun k => by
    by_cases z : k = w
    · subst z; rw [if_pos rfl, wI_same]
    · rw [if_neg z, wI_place z]
  have bo : ∀ {j}, j ≠ 121 + w → up1 A (121 + w) (nI g) j = A j := fun h => up1_ne h
  have b5 : up1 A (121 + w) (nI g) (121 + w) = nI g := up1_eq
  have ep : (fm_wI S (t + 6) w (nI g)).2.2 = S.2.2 := rfl
  generalize (fm_wI S (t + 6) w (nI g)) = T at *
  generalize hB : (up1 A (121 + w) (nI g)) = B at *
  refine ⟨⟨hn, hm6, by rw [bo (by omega)]; exact h0, by rw [bo (by omega)]; exact h1, fun k h => ?_, fun k h => ?_, fun k h => ?_, fun k h => ?_, fun k h => ?_, fun k h => ?_, fun k h => ?_, fun k h => ?_⟩, ⟨by rw [eo _ (by omega)]; exact r0, by rw [eo _ (by omega)]; exact r7, fun k h => ?_, fun k h => ?_, fun k h => ?_, fun a b h h' => ?_, fun k h => ?_, fun k h => ?_, fun k h => ?_, fun k h => ?_, fun k h => ?_⟩, ⟨?_, fun k h => ?_, fun k h => ?_, fun k h => ?_, fun k a b => ?_⟩, ⟨q0, ?_, ?_, fun k h => ?_, fun k h => ?_, fun k h => ?_, fun k h => ?_, fun k h => ?_⟩, ⟨h5.1, by rw [bo (by omega)]; exact h5.2.1, by rw [eo _ (by omega)]; exact h5.2.2⟩, fun j hj => ?_, by rw [bo (by omega)]; exact h7, h8, fun j hj => by rw [bo (by have := h5.1; omega)]; exact h9 j hj⟩
  · rw [bo (by omega)]; exact hk k h
  · rw [bo (by omega)]; exact hw9 k h
  · rw [bo (by omega)]; exact hl k h
  · rw [bo (by omega)]; exact hg k h
  · by_cases z : k = w
    · subst z; rw [b5]; exact iN_of rfl (by omega) (by omega)
    · rw [bo (by omega)]; exact hwi k h
  · rw [bo (by omega)]; exact hsm k h
  · rw [bo (by omega)]; exact hst k h
  · rw [bo (by omega)]; exact hbu k h
  · rw [bo (by omega), eo _ (by omega)]; exact r1 k h
  · rw [bo (by omega), eo _ (by omega)]; exact r2 k h
  · rw [bo (by omega), eo _ (by omega)]; exact r3 k h
  · rw [bo (by omega), eo _ (by omega)]; exact r4 a b h h'
  · rw [bo (by omega), eo _ (by omega)]; exact r5 k h
  · rw [e5]
    by_cases z : k = w
    · subst z; rw [if_pos rfl, b5]
    · rw [if_neg z, bo (by omega)]; exact r6 k h
  · rw [bo (by omega), eo _ (by omega)]; exact r7' k h
  · rw [bo (by omega), eo _ (by omega)]; exact r8 k h
  · rw [bo (by omega), eo _ (by omega)]; exact r9 k h
  · rw [eo _ (by omega), ow_0, bo (by omega)]; exact d0
  · rw [eo _ (by omega), ow_1, bo (by omega), ← ow_1 A]; exact d1 k h
  · rw [eo _ (by omega), ow_2, bo (by omega), ← ow_2 A]; exact d2 k h
  · rw [eo _ (by omega), ow_3, bo (by omega), ← ow_3 A]; exact d3 k h
  · rw [eo _ (by omega), eo _ (by omega), eo _ (by omega)]; exact d4 k a b
  · rw [bo (by omega)]; exact q1
  · rw [eo _ (by omega)]; exact q2
  · rw [bo (by omega), eo _ (by omega)]; exact n1 k h
  · rw [bo (by omega), eo _ (by omega)]; exact n2 k h
  · rw [bo (by omega), eo _ (by omega)]; exact n3 k h
  · rw [bo (by omega), eo _ (by omega)]; exact n4 k h
  · rw [bo (by omega), eo _ (by omega)]; exact n5 k h
  · obtain ⟨i, hi, e⟩ := hP.1 j (by have := h5.1; omega)
    rw [ep]
    exact RD_c hn (fun i hi => bo (by have := h5.1; omega)) (RD_fr (fun c a b => eo c (by omega)) (h6 j hj))
def aDi (S : fm_S) (a0 : Nat) (x1 x2 x3 : Int32) : fm_S := fm_wI (fm_wI (fm_wI (fm_wI S (a0 + 7) ((S.1 a0 7).toNatClampNeg) x1) (a0 + 8) ((S.1 a0 7).toNatClampNeg) x2) (a0 + 9) ((S.1 a0 7).toNatClampNeg) x3) a0 7 (((fm_wI (fm_wI (fm_wI S (a0 + 7) ((S.1 a0 7).toNatClampNeg) x1) (a0 + 8) ((S.1 a0 7).toNatClampNeg) x2) (a0 + 9) ((S.1 a0 7).toNatClampNeg) x3).1 a0 7) + 1)
theorem aDi_g {x1 x2 x3 : Int32} (h : S.1 c 7 = nI m) (hm : m < 6) : g_Town_addDish S c x1 x2 x3 = aDi S c x1 x2 x3 := by
  unfold g_Town_addDish
  rw [if_pos (by rw [h]; exact nI_lt (b := 6) hm (by decide))]
  rfl
theorem aDi_f {x1 x2 x3 : Int32} (h : S.1 c 7 = nI m) (hm : m < 6) : f_Town_addDish S c x1 x2 x3 = nI m := by
  unfold f_Town_addDish
  rw [if_pos (by rw [h]; exact nI_lt (b := 6) hm (by decide)), h]
theorem aDi_g6 {x1 x2 x3 : Int32} (h : S.1 c 7 = nI 6) : g_Town_addDish S c x1 x2 x3 = S := by
  unfold g_Town_addDish
  rw [if_neg (by rw [h]; decide)]
theorem aDi_f6 {x1 x2 x3 : Int32} (h : S.1 c 7 = nI 6) : f_Town_addDish S c x1 x2 x3 = -1 := by
  unfold f_Town_addDish
  rw [if_neg (by rw [h]; decide)]
def adD (A : Nat → Int32) (m : Nat) (x1 x2 x3 : Int32) : Nat → Int32 := up1 (up1 (up1 (up1 A (125 + m) x1) (131 + m) x2) (137 + m) x3) 1 (nI (m + 1))
theorem g_adD {x1 x2 x3 : Int32} (h0 : S.1 c 1 = nI m) (hm : m < 6) : g_M_addDish S c x1 x2 x3 = fm_row S c (adD (S.1 c) m x1 x2 x3) := by
  unfold g_M_addDish adD
  rw [wI_as S c]
  simp (disch := omega) only [lit_add, add_lit, lit_mul, mul_lit, nI_add, nI_clamp, nI_subI, nI_sub1, nI_divL, vp_T, ge_F, ge_T, geL_F, geL_T, leL_F, leL_T, le0_F, le0_T, ge0_T, row_self, row_ne, row_l, row_p, row_row, wI_row, wI_same, wI_cell, wI_place, wI_l, wI_p, lt_T, lt_F, ltL_T, ltL_F, gtL_T, gtL_F, lt0_F, eq_T, eq_F, eqL_T, eqL_F, eqM_F, leM_F, nat_mod, i_10, i_01, i_m1, eq_self_iff_true, rw8_lt, up1_ne, up1_eq, wi_T, ite_self, tg_1, tg_68, tg_124, tg_177, tg_11, tg_17, tg_59, tg_78, tg_84, ln_7, ln_16, ln_233, ln_232, ln_6, true_and, and_true, not_true_eq_false, not_false_eq_true, false_implies, true_implies, implies_true, forall_const, forall_eq, if_true, if_false, false_and, and_false, tn_L, h0]
theorem adD_o {x1 x2 x3 : Int32} {j : Nat} (h : j ≠ 1 ∧ j ≠ 125 + m ∧ j ≠ 131 + m ∧ j ≠ 137 + m) : adD A m x1 x2 x3 j = A j := by
  unfold adD
  simp (disch := omega) only [up1_ne]
theorem RT_dish {x1 x2 x3 : Int32} (hR : RT S t A n m q u y N) (hP : PP S t) (hm : m < 6) (k1 : iN x1 5) (k2 : iN x2 30) (k3 : iN x3 9) : RT (aDi S t x1 x2 x3) t (adD A m x1 x2 x3) n (m + 1) q u y N := by
  obtain ⟨⟨hn, hm6, h0, h1, hk, hw9, hl, hg, hwi, hsm, hst, hbu⟩, ⟨r0, r7, r1, r2, r3, r4, r5, r6, r7', r8, r9⟩, ⟨d0, d1, d2, d3, d4⟩, ⟨q0, q1, q2, n1, n2, n3, n4, n5⟩, h5, h6, h7, h8, h9⟩ := hR
  have e0 : (aDi S t x1 x2 x3).1 t 0 = nI n := by
    unfold aDi; simp (disch := omega) only [lit_add, add_lit, lit_mul, mul_lit, nI_add, nI_clamp, nI_subI, nI_sub1, nI_divL, vp_T, ge_F, ge_T, geL_F, geL_T, leL_F, leL_T, le0_F, le0_T, ge0_T, row_self, row_ne, row_l, row_p, row_row, wI_row, wI_same, wI_cell, wI_place, wI_l, wI_p, lt_T, lt_F, ltL_T, ltL_F, gtL_T, gtL_F, lt0_F, eq_T, eq_F, eqL_T, eqL_F, eqM_F, leM_F, nat_mod, i_10, i_01, i_m1, eq_self_iff_true, rw8_lt, up1_ne, up1_eq, wi_T, ite_self, tg_1, tg_68, tg_124, tg_177, tg_11, tg_17, tg_59, tg_78, tg_84, ln_7, ln_16, ln_233, ln_232, ln_6, true_and, and_true, not_true_eq_false, not_false_eq_true, false_implies, true_implies, implies_true, forall_const, forall_eq, if_true, if_false, false_and, and_false, r0]
  have e14 : (aDi S t x1 x2 x3).1 t 14 = nI u := by
    unfold aDi; simp (disch := omega) only [lit_add, add_lit, lit_mul, mul_lit, nI_add, nI_clamp, nI_subI, nI_sub1, nI_divL, vp_T, ge_F, ge_T, geL_F, geL_T, leL_F, leL_T, le0_F, le0_T, ge0_T, row_self, row_ne, row_l, row_p, row_row, wI_row, wI_same, wI_cell, wI_place, wI_l, wI_p, lt_T, lt_F, ltL_T, ltL_F, gtL_T, gtL_F, lt0_F, eq_T, eq_F, eqL_T, eqL_F, eqM_F, leM_F, nat_mod, i_10, i_01, i_m1, eq_self_iff_true, rw8_lt, up1_ne, up1_eq, wi_T, ite_self, tg_1, tg_68, tg_124, tg_177, tg_11, tg_17, tg_59, tg_78, tg_84, ln_7, ln_16, ln_233, ln_232, ln_6, true_and, and_true, not_true_eq_false, not_false_eq_true, false_implies, true_implies, implies_true, forall_const, forall_eq, if_true, if_false, false_and, and_false, r7]; exact h5.2.2
  have em : (aDi S t x1 x2 x3).1 t 7 = nI (m + 1) := by
    unfold aDi; simp (disch := omega) only [lit_add, add_lit, lit_mul, mul_lit, nI_add, nI_clamp, nI_subI, nI_sub1, nI_divL, vp_T, ge_F, ge_T, geL_F, geL_T, leL_F, leL_T, le0_F, le0_T, ge0_T, row_self, row_ne, row_l, row_p, row_row, wI_row, wI_same, wI_cell, wI_place, wI_l, wI_p, lt_T, lt_F, ltL_T, ltL_F, gtL_T, gtL_F, lt0_F, eq_T, eq_F, eqL_T, eqL_F, eqM_F, leM_F, nat_mod, i_10, i_01, i_m1, eq_self_iff_true, rw8_lt, up1_ne, up1_eq, wi_T, ite_self, tg_1, tg_68, tg_124, tg_177, tg_11, tg_17, tg_59, tg_78, tg_84, ln_7, ln_16, ln_233, ln_232, ln_6, true_and, and_true, not_true_eq_false, not_false_eq_true, false_implies, true_implies, implies_true, forall_const, forall_eq, if_true, if_false, false_and, and_false, r7]
  have e7 : ∀ k, (aDi S t x1 x2 x3).1 (t + 7) k = if k = m then x1 else S.1 (t + 7) k := fun k => by
    unfold aDi
    by_cases z : k = m
    · subst z; simp (disch := omega) only [lit_add, add_lit, lit_mul, mul_lit, nI_add, nI_clamp, nI_subI, nI_sub1, nI_divL, vp_T, ge_F, ge_T, geL_F, geL_T, leL_F, leL_T, le0_F, le0_T, ge0_T, row_self, row_ne, row_l, row_p, row_row, wI_row, wI_same, wI_cell, wI_place, wI_l, wI_p, lt_T, lt_F, ltL_T, ltL_F, gtL_T, gtL_F, lt0_F, eq_T, eq_F, eqL_T, eqL_F, eqM_F, leM_F, nat_mod, i_10, i_01, i_m1, eq_self_iff_true, rw8_lt, up1_ne, up1_eq, wi_T, ite_self, tg_1, tg_68, tg_124, tg_177, tg_11, tg_17, tg_59, tg_78, tg_84, ln_7, ln_16, ln_233, ln_232, ln_6, true_and, and_true, not_true_eq_false, not_false_eq_true, false_implies, true_implies, implies_true, forall_const, forall_eq, if_true, if_false, false_and, and_false, r7]
    · rw [if_neg z]; simp (disch := omega) only [lit_add, add_lit, lit_mul, mul_lit, nI_add, nI_clamp, nI_subI, nI_sub1, nI_divL, vp_T, ge_F, ge_T, geL_F, geL_T, leL_F, leL_T, le0_F, le0_T, ge0_T, row_self, row_ne, row_l, row_p, row_row, wI_row, wI_same, wI_cell, wI_place, wI_l, wI_p, lt_T, lt_F, ltL_T, ltL_F, gtL_T, gtL_F, lt0_F, eq_T, eq_F, eqL_T, eqL_F, eqM_F, leM_F, nat_mod, i_10, i_01, i_m1, eq_self_iff_true, rw8_lt, up1_ne, up1_eq, wi_T, ite_self, tg_1, tg_68, tg_124, tg_177, tg_11, tg_17, tg_59, tg_78, tg_84, ln_7, ln_16, ln_233, ln_232, ln_6, true_and, and_true, not_true_eq_false, not_false_eq_true, false_implies, true_implies, implies_true, forall_const, forall_eq, if_true, if_false, false_and, and_false, r7]
  have e8 : ∀ k, (aDi S t x1 x2 x3).1 (t + 8) k = if k = m then x2 else S.1 (t + 8) k := fun k => by
    unfold aDi
    by_cases z : k = m
    · subst z; simp (disch := omega) only [lit_add, add_lit, lit_mul, mul_lit, nI_add, nI_clamp, nI_subI, nI_sub1, nI_divL, vp_T, ge_F, ge_T, geL_F, geL_T, leL_F, leL_T, le0_F, le0_T, ge0_T, row_self, row_ne, row_l, row_p, row_row, wI_row, wI_same, wI_cell, wI_place, wI_l, wI_p, lt_T, lt_F, ltL_T, ltL_F, gtL_T, gtL_F, lt0_F, eq_T, eq_F, eqL_T, eqL_F, eqM_F, leM_F, nat_mod, i_10, i_01, i_m1, eq_self_iff_true, rw8_lt, up1_ne, up1_eq, wi_T, ite_self, tg_1, tg_68, tg_124, tg_177, tg_11, tg_17, tg_59, tg_78, tg_84, ln_7, ln_16, ln_233, ln_232, ln_6, true_and, and_true, not_true_eq_false, not_false_eq_true, false_implies, true_implies, implies_true, forall_const, forall_eq, if_true, if_false, false_and, and_false, r7]
    · rw [if_neg z]; simp (disch := omega) only [lit_add, add_lit, lit_mul, mul_lit, nI_add, nI_clamp, nI_subI, nI_sub1, nI_divL, vp_T, ge_F, ge_T, geL_F, geL_T, leL_F, leL_T, le0_F, le0_T, ge0_T, row_self, row_ne, row_l, row_p, row_row, wI_row, wI_same, wI_cell, wI_place, wI_l, wI_p, lt_T, lt_F, ltL_T, ltL_F, gtL_T, gtL_F, lt0_F, eq_T, eq_F, eqL_T, eqL_F, eqM_F, leM_F, nat_mod, i_10, i_01, i_m1, eq_self_iff_true, rw8_lt, up1_ne, up1_eq, wi_T, ite_self, tg_1, tg_68, tg_124, tg_177, tg_11, tg_17, tg_59, tg_78, tg_84, ln_7, ln_16, ln_233, ln_232, ln_6, true_and, and_true, not_true_eq_false, not_false_eq_true, false_implies, true_implies, implies_true, forall_const, forall_eq, if_true, if_false, false_and, and_false, r7]
  have e9 : ∀ k, (aDi S t x1 x2 x3).1 (t + 9) k = if k = m then x3 else S.1 (t + 9) k := fun k => by
    unfold aDi
    by_cases z : k = m
    · subst z; simp (disch := omega) only [lit_add, add_lit, lit_mul, mul_lit, nI_add, nI_clamp, nI_subI, nI_sub1, nI_divL, vp_T, ge_F, ge_T, geL_F, geL_T, leL_F, leL_T, le0_F, le0_T, ge0_T, row_self, row_ne, row_l, row_p, row_row, wI_row, wI_same, wI_cell, wI_place, wI_l, wI_p, lt_T, lt_F, ltL_T, ltL_F, gtL_T, gtL_F, lt0_F, eq_T, eq_F, eqL_T, eqL_F, eqM_F, leM_F, nat_mod, i_10, i_01, i_m1, eq_self_iff_true, rw8_lt, up1_ne, up1_eq, wi_T, ite_self, tg_1, tg_68, tg_124, tg_177, tg_11, tg_17, tg_59, tg_78, tg_84, ln_7, ln_16, ln_233, ln_232, ln_6, true_and, and_true, not_true_eq_false, not_false_eq_true, false_implies, true_implies, implies_true, forall_const, forall_eq, if_true, if_false, false_and, and_false, r7]
    · rw [if_neg z]; simp (disch := omega) only [lit_add, add_lit, lit_mul, mul_lit, nI_add, nI_clamp, nI_subI, nI_sub1, nI_divL, vp_T, ge_F, ge_T, geL_F, geL_T, leL_F, leL_T, le0_F, le0_T, ge0_T, row_self, row_ne, row_l, row_p, row_row, wI_row, wI_same, wI_cell, wI_place, wI_l, wI_p, lt_T, lt_F, ltL_T, ltL_F, gtL_T, gtL_F, lt0_F, eq_T, eq_F, eqL_T, eqL_F, eqM_F, leM_F, nat_mod, i_10, i_01, i_m1, eq_self_iff_true, rw8_lt, up1_ne, up1_eq, wi_T, ite_self, tg_1, tg_68, tg_124, tg_177, tg_11, tg_17, tg_59, tg_78, tg_84, ln_7, ln_16, ln_233, ln_232, ln_6, true_and, and_true, not_true_eq_false, not_false_eq_true, false_implies, true_implies, implies_true, forall_const, forall_eq, if_true, if_false, false_and, and_false, r7]
  have eo : ∀ c, (c < t ∨ (t < c ∧ c < t + 7) ∨ t + 9 < c) → (aDi S t x1 x2 x3).1 c = S.1 c := fun c hc => by
    funext j
    unfold aDi
    simp (disch := omega) only [lit_add, add_lit, lit_mul, mul_lit, nI_add, nI_clamp, nI_subI, nI_sub1, nI_divL, vp_T, ge_F, ge_T, geL_F, geL_T, leL_F, leL_T, le0_F, le0_T, ge0_T, row_self, row_ne, row_l, row_p, row_row, wI_row, wI_same, wI_cell, wI_place, wI_l, wI_p, lt_T, lt_F, ltL_T, ltL_F, gtL_T, gtL_F, lt0_F, eq_T, eq_F, eqL_T, eqL_F, eqM_F, leM_F, nat_mod, i_10, i_01, i_m1, eq_self_iff_true, rw8_lt, up1_ne, up1_eq, wi_T, ite_self, tg_1, tg_68, tg_124, tg_177, tg_11, tg_17, tg_59, tg_78, tg_84, ln_7, ln_16, ln_233, ln_232, ln_6, true_and, and_true, not_true_eq_false, not_false_eq_true, false_implies, true_implies, implies_true, forall_const, forall_eq, if_true, if_false, false_and, and_false]
  have bo : ∀ {j}, (j ≠ 1 ∧ j ≠ 125 + m ∧ j ≠ 131 + m ∧ j ≠ 137 + m) → adD A m x1 x2 x3 j = A j := fun h => adD_o h
  have b7 : adD A m x1 x2 x3 (125 + m) = x1 := by unfold adD; simp (disch := omega) only [up1_ne, up1_eq]
  have b8 : adD A m x1 x2 x3 (131 + m) = x2 := by unfold adD; simp (disch := omega) only [up1_ne, up1_eq]
  have b9 : adD A m x1 x2 x3 (137 + m) = x3 := by unfold adD; simp (disch := omega) only [up1_ne, up1_eq]
  have b1 : adD A m x1 x2 x3 1 = nI (m + 1) := by unfold adD; simp (disch := omega) only [up1_eq]
  have ep : (aDi S t x1 x2 x3).2.2 = S.2.2 := rfl
  generalize (aDi S t x1 x2 x3) = T at *
  generalize hB : (adD A m x1 x2 x3) = B at *
  refine ⟨⟨hn, by omega, by rw [bo (by omega)]; exact h0, b1, fun k h => ?_, fun k h => ?_, fun k h => ?_, fun k h => ?_, fun k h => ?_, fun k h => ?_, fun k h => ?_, fun k h => ?_⟩, ⟨e0, em, fun k h => ?_, fun k h => ?_, fun k h => ?_, fun a b h h' => ?_, fun k h => ?_, fun k h => ?_, fun k h => ?_, fun k h => ?_, fun k h => ?_⟩, ⟨?_, fun k h => ?_, fun k h => ?_, fun k h => ?_, fun k a b => ?_⟩, ⟨q0, ?_, ?_, fun k h => ?_, fun k h => ?_, fun k h => ?_, fun k h => ?_, fun k h => ?_⟩, ⟨h5.1, by rw [bo (by omega)]; exact h5.2.1, e14⟩, fun j hj => ?_, by rw [bo (by omega)]; exact h7, h8, fun j hj => by rw [bo (by have := h5.1; omega)]; exact h9 j hj⟩
  · rw [bo (by omega)]; exact hk k h
  · rw [bo (by omega)]; exact hw9 k h
  · rw [bo (by omega)]; exact hl k h
  · rw [bo (by omega)]; exact hg k h
  · rw [bo (by omega)]; exact hwi k h
  · by_cases z : k = m
    · subst z; rw [b7]; exact k1
    · rw [bo (by omega)]; exact hsm k (by omega)
  · by_cases z : k = m
    · subst z; rw [b8]; exact k2
    · rw [bo (by omega)]; exact hst k (by omega)
  · by_cases z : k = m
    · subst z; rw [b9]; exact k3
    · rw [bo (by omega)]; exact hbu k (by omega)
  · rw [bo (by omega), eo _ (by omega)]; exact r1 k h
  · rw [bo (by omega), eo _ (by omega)]; exact r2 k h
  · rw [bo (by omega), eo _ (by omega)]; exact r3 k h
  · rw [bo (by omega), eo _ (by omega)]; exact r4 a b h h'
  · rw [bo (by omega), eo _ (by omega)]; exact r5 k h
  · rw [bo (by omega), eo _ (by omega)]; exact r6 k h
  · rw [e7]
    by_cases z : k = m
    · subst z; rw [if_pos rfl, b7]
    · rw [if_neg z, bo (by omega)]; exact r7' k (by omega)
  · rw [e8]
    by_cases z : k = m
    · subst z; rw [if_pos rfl, b8]
    · rw [if_neg z, bo (by omega)]; exact r8 k (by omega)
  · rw [e9]
    by_cases z : k = m
    · subst z; rw [if_pos rfl, b9]
    · rw [if_neg z, bo (by omega)]; exact r9 k (by omega)
  · rw [eo _ (by omega), ow_0, bo (by omega)]; exact d0
  · rw [eo _ (by omega), ow_1, bo (by omega), ← ow_1 A]; exact d1 k h
  · rw [eo _ (by omega), ow_2, bo (by omega), ← ow_2 A]; exact d2 k h
  · rw [eo _ (by omega), ow_3, bo (by omega), ← ow_3 A]; exact d3 k h
  · rw [eo _ (by omega), eo _ (by omega), eo _ (by omega)]; exact d4 k a b
  · rw [bo (by omega)]; exact q1
  · rw [eo _ (by omega)]; exact q2
  · rw [bo (by omega), eo _ (by omega)]; exact n1 k h
  · rw [bo (by omega), eo _ (by omega)]; exact n2 k h
  · rw [bo (by omega), eo _ (by omega)]; exact n3 k h
  · rw [bo (by omega), eo _ (by omega)]; exact n4 k h
  · rw [bo (by omega), eo _ (by omega)]; exact n5 k h
  · obtain ⟨i, hi, e⟩ := hP.1 j (by have := h5.1; omega)
    rw [ep]
    exact RD_c hn (fun i hi => bo (by have := h5.1; omega)) (RD_fr (fun c a b => eo c (by omega)) (h6 j hj))
def aNo (S : fm_S) (a0 : Nat) (x1 x2 x3 x4 x5 : Int32) : fm_S := fm_wI (fm_wI (fm_wI (fm_wI (fm_wI (fm_wI S (a0 + 1) ((S.1 a0 0).toNatClampNeg) x1) (a0 + 2) (((fm_wI S (a0 + 1) ((S.1 a0 0).toNatClampNeg) x1).1 a0 0).toNatClampNeg) x2) (a0 + 3) (((fm_wI (fm_wI S (a0 + 1) ((S.1 a0 0).toNatClampNeg) x1) (a0 + 2) (((fm_wI S (a0 + 1) ((S.1 a0 0).toNatClampNeg) x1).1 a0 0).toNatClampNeg) x2).1 a0 0).toNatClampNeg) x3) (a0 + 4) (((fm_wI (fm_wI (fm_wI S (a0 + 1) ((S.1 a0 0).toNatClampNeg) x1) (a0 + 2) (((fm_wI S (a0 + 1) ((S.1 a0 0).toNatClampNeg) x1).1 a0 0).toNatClampNeg) x2) (a0 + 3) (((fm_wI (fm_wI S (a0 + 1) ((S.1 a0 0).toNatClampNeg) x1) (a0 + 2) (((fm_wI S (a0 + 1) ((S.1 a0 0).toNatClampNeg) x1).1 a0 0).toNatClampNeg) x2).1 a0 0).toNatClampNeg) x3).1 a0 0).toNatClampNeg) x4) (a0 + 5) (((fm_wI (fm_wI (fm_wI (fm_wI S (a0 + 1) ((S.1 a0 0).toNatClampNeg) x1) (a0 + 2) (((fm_wI S (a0 + 1) ((S.1 a0 0).toNatClampNeg) x1).1 a0 0).toNatClampNeg) x2) (a0 + 3) (((fm_wI (fm_wI S (a0 + 1) ((S.1 a0 0).toNatClampNeg) x1) (a0 + 2) (((fm_wI S (a0 + 1) ((S.1 a0 0).toNatClampNeg) x1).1 a0 0).toNatClampNeg) x2).1 a0 0).toNatClampNeg) x3) (a0 + 4) (((fm_wI (fm_wI (fm_wI S (a0 + 1) ((S.1 a0 0).toNatClampNeg) x1) (a0 + 2) (((fm_wI S (a0 + 1) ((S.1 a0 0).toNatClampNeg) x1).1 a0 0).toNatClampNeg) x2) (a0 + 3) (((fm_wI (fm_wI S (a0 + 1) ((S.1 a0 0).toNatClampNeg) x1) (a0 + 2) (((fm_wI S (a0 + 1) ((S.1 a0 0).toNatClampNeg) x1).1 a0 0).toNatClampNeg) x2).1 a0 0).toNatClampNeg) x3).1 a0 0).toNatClampNeg) x4).1 a0 0).toNatClampNeg) x5) a0 0 (((fm_wI (fm_wI (fm_wI (fm_wI (fm_wI S (a0 + 1) ((S.1 a0 0).toNatClampNeg) x1) (a0 + 2) (((fm_wI S (a0 + 1) ((S.1 a0 0).toNatClampNeg) x1).1 a0 0).toNatClampNeg) x2) (a0 + 3) (((fm_wI (fm_wI S (a0 + 1) ((S.1 a0 0).toNatClampNeg) x1) (a0 + 2) (((fm_wI S (a0 + 1) ((S.1 a0 0).toNatClampNeg) x1).1 a0 0).toNatClampNeg) x2).1 a0 0).toNatClampNeg) x3) (a0 + 4) (((fm_wI (fm_wI (fm_wI S (a0 + 1) ((S.1 a0 0).toNatClampNeg) x1) (a0 + 2) (((fm_wI S (a0 + 1) ((S.1 a0 0).toNatClampNeg) x1).1 a0 0).toNatClampNeg) x2) (a0 + 3) (((fm_wI (fm_wI S (a0 + 1) ((S.1 a0 0).toNatClampNeg) x1) (a0 + 2) (((fm_wI S (a0 + 1) ((S.1 a0 0).toNatClampNeg) x1).1 a0 0).toNatClampNeg) x2).1 a0 0).toNatClampNeg) x3).1 a0 0).toNatClampNeg) x4) (a0 + 5) (((fm_wI (fm_wI (fm_wI (fm_wI S (a0 + 1) ((S.1 a0 0).toNatClampNeg) x1) (a0 + 2) (((fm_wI S (a0 + 1) ((S.1 a0 0).toNatClampNeg) x1).1 a0 0).toNatClampNeg) x2) (a0 + 3) (((fm_wI (fm_wI S (a0 + 1) ((S.1 a0 0).toNatClampNeg) x1) (a0 + 2) (((fm_wI S (a0 + 1) ((S.1 a0 0).toNatClampNeg) x1).1 a0 0).toNatClampNeg) x2).1 a0 0).toNatClampNeg) x3) (a0 + 4) (((fm_wI (fm_wI (fm_wI S (a0 + 1) ((S.1 a0 0).toNatClampNeg) x1) (a0 + 2) (((fm_wI S (a0 + 1) ((S.1 a0 0).toNatClampNeg) x1).1 a0 0).toNatClampNeg) x2) (a0 + 3) (((fm_wI (fm_wI S (a0 + 1) ((S.1 a0 0).toNatClampNeg) x1) (a0 + 2) (((fm_wI S (a0 + 1) ((S.1 a0 0).toNatClampNeg) x1).1 a0 0).toNatClampNeg) x2).1 a0 0).toNatClampNeg) x3).1 a0 0).toNatClampNeg) x4).1 a0 0).toNatClampNeg) x5).1 a0 0) + 1)
theorem aNo_g {x1 x2 x3 x4 x5 : Int32} (h : S.1 c 0 = nI q) (hq : q < 6) : g_Notes_add S c x1 x2 x3 x4 x5 = aNo S c x1 x2 x3 x4 x5 := by
  unfold g_Notes_add
  rw [if_pos (by rw [h]; exact nI_lt (b := 6) hq (by decide))]
  rfl
theorem aNo_f {x1 x2 x3 x4 x5 : Int32} (h : S.1 c 0 = nI q) (hq : q < 6) : f_Notes_add S c x1 x2 x3 x4 x5 = nI (q + 1) := by
  unfold f_Notes_add
  rw [if_pos (by rw [h]; exact nI_lt (b := 6) hq (by decide))]
  simp (disch := omega) only [lit_add, add_lit, lit_mul, mul_lit, nI_add, nI_clamp, nI_subI, nI_sub1, nI_divL, vp_T, ge_F, ge_T, geL_F, geL_T, leL_F, leL_T, le0_F, le0_T, ge0_T, row_self, row_ne, row_l, row_p, row_row, wI_row, wI_same, wI_cell, wI_place, wI_l, wI_p, lt_T, lt_F, ltL_T, ltL_F, gtL_T, gtL_F, lt0_F, eq_T, eq_F, eqL_T, eqL_F, eqM_F, leM_F, nat_mod, i_10, i_01, i_m1, eq_self_iff_true, rw8_lt, up1_ne, up1_eq, wi_T, ite_self, tg_1, tg_68, tg_124, tg_177, tg_11, tg_17, tg_59, tg_78, tg_84, ln_7, ln_16, ln_233, ln_232, ln_6, true_and, and_true, not_true_eq_false, not_false_eq_true, false_implies, true_implies, implies_true, forall_const, forall_eq, if_true, if_false, false_and, and_false, h]
theorem aNo_g6 {x1 x2 x3 x4 x5 : Int32} (h : S.1 c 0 = nI 6) : g_Notes_add S c x1 x2 x3 x4 x5 = S := by
  unfold g_Notes_add
  rw [if_neg (by rw [h]; decide)]
theorem aNo_f6 {x1 x2 x3 x4 x5 : Int32} (h : S.1 c 0 = nI 6) : f_Notes_add S c x1 x2 x3 x4 x5 = -1 := by
  unfold f_Notes_add
  rw [if_neg (by rw [h]; decide)]
def adN (A : Nat → Int32) (q : Nat) (x1 x2 x3 x4 x5 : Int32) : Nat → Int32 := up1 (up1 (up1 (up1 (up1 (up1 A (143 + q) x1) (149 + q) x2) (155 + q) x3) (161 + q) x4) (167 + q) x5) 2 (nI (q + 1))
theorem adN_o {x1 x2 x3 x4 x5 : Int32} {j : Nat} (h : j ≠ 2 ∧ j ≠ 143 + q ∧ j ≠ 149 + q ∧ j ≠ 155 + q ∧ j ≠ 161 + q ∧ j ≠ 167 + q) : adN A q x1 x2 x3 x4 x5 j = A j := by
  unfold adN
  simp (disch := omega) only [up1_ne]
theorem RT_note {x1 x2 x3 x4 x5 : Int32} (hR : RT S t A n m q u y N) (hP : PP S t) (hq : q < 6) : RT (aNo S (t + 10) x1 x2 x3 x4 x5) t (adN A q x1 x2 x3 x4 x5) n m (q + 1) u y N := by
  obtain ⟨⟨hn, hm6, h0, h1, hk, hw9, hl, hg, hwi, hsm, hst, hbu⟩, ⟨r0, r7, r1, r2, r3, r4, r5, r6, r7', r8, r9⟩, ⟨d0, d1, d2, d3, d4⟩, ⟨q0, q1, q2, n1, n2, n3, n4, n5⟩, h5, h6, h7, h8, h9⟩ := hR
  have eq0 : (aNo S (t + 10) x1 x2 x3 x4 x5).1 (t + 10) 0 = nI (q + 1) := by
    unfold aNo; simp (disch := omega) only [lit_add, add_lit, lit_mul, mul_lit, nI_add, nI_clamp, nI_subI, nI_sub1, nI_divL, vp_T, ge_F, ge_T, geL_F, geL_T, leL_F, leL_T, le0_F, le0_T, ge0_T, row_self, row_ne, row_l, row_p, row_row, wI_row, wI_same, wI_cell, wI_place, wI_l, wI_p, lt_T, lt_F, ltL_T, ltL_F, gtL_T, gtL_F, lt0_F, eq_T, eq_F, eqL_T, eqL_F, eqM_F, leM_F, nat_mod, i_10, i_01, i_m1, eq_self_iff_true, rw8_lt, up1_ne, up1_eq, wi_T, ite_self, tg_1, tg_68, tg_124, tg_177, tg_11, tg_17, tg_59, tg_78, tg_84, ln_7, ln_16, ln_233, ln_232, ln_6, true_and, and_true, not_true_eq_false, not_false_eq_true, false_implies, true_implies, implies_true, forall_const, forall_eq, if_true, if_false, false_and, and_false, q2]
  have e11 : ∀ k, (aNo S (t + 10) x1 x2 x3 x4 x5).1 (t + 11) k = if k = q then x1 else S.1 (t + 11) k := fun k => by
    unfold aNo
    by_cases z : k = q
    · subst z; simp (disch := omega) only [lit_add, add_lit, lit_mul, mul_lit, nI_add, nI_clamp, nI_subI, nI_sub1, nI_divL, vp_T, ge_F, ge_T, geL_F, geL_T, leL_F, leL_T, le0_F, le0_T, ge0_T, row_self, row_ne, row_l, row_p, row_row, wI_row, wI_same, wI_cell, wI_place, wI_l, wI_p, lt_T, lt_F, ltL_T, ltL_F, gtL_T, gtL_F, lt0_F, eq_T, eq_F, eqL_T, eqL_F, eqM_F, leM_F, nat_mod, i_10, i_01, i_m1, eq_self_iff_true, rw8_lt, up1_ne, up1_eq, wi_T, ite_self, tg_1, tg_68, tg_124, tg_177, tg_11, tg_17, tg_59, tg_78, tg_84, ln_7, ln_16, ln_233, ln_232, ln_6, true_and, and_true, not_true_eq_false, not_false_eq_true, false_implies, true_implies, implies_true, forall_const, forall_eq, if_true, if_false, false_and, and_false, q2, show t + 10 + 1 = t + 11 by omega, show t + 10 + 1 = t + 11 by omega, show t + 10 + 2 = t + 12 by omega, show t + 10 + 3 = t + 13 by omega, show t + 10 + 4 = t + 14 by omega, show t + 10 + 5 = t + 15 by omega]
    · rw [if_neg z]; simp (disch := omega) only [lit_add, add_lit, lit_mul, mul_lit, nI_add, nI_clamp, nI_subI, nI_sub1, nI_divL, vp_T, ge_F, ge_T, geL_F, geL_T, leL_F, leL_T, le0_F, le0_T, ge0_T, row_self, row_ne, row_l, row_p, row_row, wI_row, wI_same, wI_cell, wI_place, wI_l, wI_p, lt_T, lt_F, ltL_T, ltL_F, gtL_T, gtL_F, lt0_F, eq_T, eq_F, eqL_T, eqL_F, eqM_F, leM_F, nat_mod, i_10, i_01, i_m1, eq_self_iff_true, rw8_lt, up1_ne, up1_eq, wi_T, ite_self, tg_1, tg_68, tg_124, tg_177, tg_11, tg_17, tg_59, tg_78, tg_84, ln_7, ln_16, ln_233, ln_232, ln_6, true_and, and_true, not_true_eq_false, not_false_eq_true, false_implies, true_implies, implies_true, forall_const, forall_eq, if_true, if_false, false_and, and_false, q2, show t + 10 + 1 = t + 11 by omega, show t + 10 + 2 = t + 12 by omega, show t + 10 + 3 = t + 13 by omega, show t + 10 + 4 = t + 14 by omega, show t + 10 + 5 = t + 15 by omega]
  have e12 : ∀ k, (aNo S (t + 10) x1 x2 x3 x4 x5).1 (t + 12) k = if k = q then x2 else S.1 (t + 12) k := fun k => by
    unfold aNo
    by_cases z : k = q
    · subst z; simp (disch := omega) only [lit_add, add_lit, lit_mul, mul_lit, nI_add, nI_clamp, nI_subI, nI_sub1, nI_divL, vp_T, ge_F, ge_T, geL_F, geL_T, leL_F, leL_T, le0_F, le0_T, ge0_T, row_self, row_ne, row_l, row_p, row_row, wI_row, wI_same, wI_cell, wI_place, wI_l, wI_p, lt_T, lt_F, ltL_T, ltL_F, gtL_T, gtL_F, lt0_F, eq_T, eq_F, eqL_T, eqL_F, eqM_F, leM_F, nat_mod, i_10, i_01, i_m1, eq_self_iff_true, rw8_lt, up1_ne, up1_eq, wi_T, ite_self, tg_1, tg_68, tg_124, tg_177, tg_11, tg_17, tg_59, tg_78, tg_84, ln_7, ln_16, ln_233, ln_232, ln_6, true_and, and_true, not_true_eq_false, not_false_eq_true, false_implies, true_implies, implies_true, forall_const, forall_eq, if_true, if_false, false_and, and_false, q2, show t + 10 + 2 = t + 12 by omega, show t + 10 + 1 = t + 11 by omega, show t + 10 + 2 = t + 12 by omega, show t + 10 + 3 = t + 13 by omega, show t + 10 + 4 = t + 14 by omega, show t + 10 + 5 = t + 15 by omega]
    · rw [if_neg z]; simp (disch := omega) only [lit_add, add_lit, lit_mul, mul_lit, nI_add, nI_clamp, nI_subI, nI_sub1, nI_divL, vp_T, ge_F, ge_T, geL_F, geL_T, leL_F, leL_T, le0_F, le0_T, ge0_T, row_self, row_ne, row_l, row_p, row_row, wI_row, wI_same, wI_cell, wI_place, wI_l, wI_p, lt_T, lt_F, ltL_T, ltL_F, gtL_T, gtL_F, lt0_F, eq_T, eq_F, eqL_T, eqL_F, eqM_F, leM_F, nat_mod, i_10, i_01, i_m1, eq_self_iff_true, rw8_lt, up1_ne, up1_eq, wi_T, ite_self, tg_1, tg_68, tg_124, tg_177, tg_11, tg_17, tg_59, tg_78, tg_84, ln_7, ln_16, ln_233, ln_232, ln_6, true_and, and_true, not_true_eq_false, not_false_eq_true, false_implies, true_implies, implies_true, forall_const, forall_eq, if_true, if_false, false_and, and_false, q2, show t + 10 + 1 = t + 11 by omega, show t + 10 + 2 = t + 12 by omega, show t + 10 + 3 = t + 13 by omega, show t + 10 + 4 = t + 14 by omega, show t + 10 + 5 = t + 15 by omega]
  have e13 : ∀ k, (aNo S (t + 10) x1 x2 x3 x4 x5).1 (t + 13) k = if k = q then x3 else S.1 (t + 13) k := fun k => by
    unfold aNo
    by_cases z : k = q
    · subst z; simp (disch := omega) only [lit_add, add_lit, lit_mul, mul_lit, nI_add, nI_clamp, nI_subI, nI_sub1, nI_divL, vp_T, ge_F, ge_T, geL_F, geL_T, leL_F, leL_T, le0_F, le0_T, ge0_T, row_self, row_ne, row_l, row_p, row_row, wI_row, wI_same, wI_cell, wI_place, wI_l, wI_p, lt_T, lt_F, ltL_T, ltL_F, gtL_T, gtL_F, lt0_F, eq_T, eq_F, eqL_T, eqL_F, eqM_F, leM_F, nat_mod, i_10, i_01, i_m1, eq_self_iff_true, rw8_lt, up1_ne, up1_eq, wi_T, ite_self, tg_1, tg_68, tg_124, tg_177, tg_11, tg_17, tg_59, tg_78, tg_84, ln_7, ln_16, ln_233, ln_232, ln_6, true_and, and_true, not_true_eq_false, not_false_eq_true, false_implies, true_implies, implies_true, forall_const, forall_eq, if_true, if_false, false_and, and_false, q2, show t + 10 + 3 = t + 13 by omega, show t + 10 + 1 = t + 11 by omega, show t + 10 + 2 = t + 12 by omega, show t + 10 + 3 = t + 13 by omega, show t + 10 + 4 = t + 14 by omega, show t + 10 + 5 = t + 15 by omega]
    · rw [if_neg z]; simp (disch := omega) only [lit_add, add_lit, lit_mul, mul_lit, nI_add, nI_clamp, nI_subI, nI_sub1, nI_divL, vp_T, ge_F, ge_T, geL_F, geL_T, leL_F, leL_T, le0_F, le0_T, ge0_T, row_self, row_ne, row_l, row_p, row_row, wI_row, wI_same, wI_cell, wI_place, wI_l, wI_p, lt_T, lt_F, ltL_T, ltL_F, gtL_T, gtL_F, lt0_F, eq_T, eq_F, eqL_T, eqL_F, eqM_F, leM_F, nat_mod, i_10, i_01, i_m1, eq_self_iff_true, rw8_lt, up1_ne, up1_eq, wi_T, ite_self, tg_1, tg_68, tg_124, tg_177, tg_11, tg_17, tg_59, tg_78, tg_84, ln_7, ln_16, ln_233, ln_232, ln_6, true_and, and_true, not_true_eq_false, not_false_eq_true, false_implies, true_implies, implies_true, forall_const, forall_eq, if_true, if_false, false_and, and_false, q2, show t + 10 + 1 = t + 11 by omega, show t + 10 + 2 = t + 12 by omega, show t + 10 + 3 = t + 13 by omega, show t + 10 + 4 = t + 14 by omega, show t + 10 + 5 = t + 15 by omega]
  have e14 : ∀ k, (aNo S (t + 10) x1 x2 x3 x4 x5).1 (t + 14) k = if k = q then x4 else S.1 (t + 14) k := fun k => by
    unfold aNo
    by_cases z : k = q
    · subst z; simp (disch := omega) only [lit_add, add_lit, lit_mul, mul_lit, nI_add, nI_clamp, nI_subI, nI_sub1, nI_divL, vp_T, ge_F, ge_T, geL_F, geL_T, leL_F, leL_T, le0_F, le0_T, ge0_T, row_self, row_ne, row_l, row_p, row_row, wI_row, wI_same, wI_cell, wI_place, wI_l, wI_p, lt_T, lt_F, ltL_T, ltL_F, gtL_T, gtL_F, lt0_F, eq_T, eq_F, eqL_T, eqL_F, eqM_F, leM_F, nat_mod, i_10, i_01, i_m1, eq_self_iff_true, rw8_lt, up1_ne, up1_eq, wi_T, ite_self, tg_1, tg_68, tg_124, tg_177, tg_11, tg_17, tg_59, tg_78, tg_84, ln_7, ln_16, ln_233, ln_232, ln_6, true_and, and_true, not_true_eq_false, not_false_eq_true, false_implies, true_implies, implies_true, forall_const, forall_eq, if_true, if_false, false_and, and_false, q2, show t + 10 + 4 = t + 14 by omega, show t + 10 + 1 = t + 11 by omega, show t + 10 + 2 = t + 12 by omega, show t + 10 + 3 = t + 13 by omega, show t + 10 + 4 = t + 14 by omega, show t + 10 + 5 = t + 15 by omega]
    · rw [if_neg z]; simp (disch := omega) only [lit_add, add_lit, lit_mul, mul_lit, nI_add, nI_clamp, nI_subI, nI_sub1, nI_divL, vp_T, ge_F, ge_T, geL_F, geL_T, leL_F, leL_T, le0_F, le0_T, ge0_T, row_self, row_ne, row_l, row_p, row_row, wI_row, wI_same, wI_cell, wI_place, wI_l, wI_p, lt_T, lt_F, ltL_T, ltL_F, gtL_T, gtL_F, lt0_F, eq_T, eq_F, eqL_T, eqL_F, eqM_F, leM_F, nat_mod, i_10, i_01, i_m1, eq_self_iff_true, rw8_lt, up1_ne, up1_eq, wi_T, ite_self, tg_1, tg_68, tg_124, tg_177, tg_11, tg_17, tg_59, tg_78, tg_84, ln_7, ln_16, ln_233, ln_232, ln_6, true_and, and_true, not_true_eq_false, not_false_eq_true, false_implies, true_implies, implies_true, forall_const, forall_eq, if_true, if_false, false_and, and_false, q2, show t + 10 + 1 = t + 11 by omega, show t + 10 + 2 = t + 12 by omega, show t + 10 + 3 = t + 13 by omega, show t + 10 + 4 = t + 14 by omega, show t + 10 + 5 = t + 15 by omega]
  have e15 : ∀ k, (aNo S (t + 10) x1 x2 x3 x4 x5).1 (t + 15) k = if k = q then x5 else S.1 (t + 15) k := fun k => by
    unfold aNo
    by_cases z : k = q
    · subst z; simp (disch := omega) only [lit_add, add_lit, lit_mul, mul_lit, nI_add, nI_clamp, nI_subI, nI_sub1, nI_divL, vp_T, ge_F, ge_T, geL_F, geL_T, leL_F, leL_T, le0_F, le0_T, ge0_T, row_self, row_ne, row_l, row_p, row_row, wI_row, wI_same, wI_cell, wI_place, wI_l, wI_p, lt_T, lt_F, ltL_T, ltL_F, gtL_T, gtL_F, lt0_F, eq_T, eq_F, eqL_T, eqL_F, eqM_F, leM_F, nat_mod, i_10, i_01, i_m1, eq_self_iff_true, rw8_lt, up1_ne, up1_eq, wi_T, ite_self, tg_1, tg_68, tg_124, tg_177, tg_11, tg_17, tg_59, tg_78, tg_84, ln_7, ln_16, ln_233, ln_232, ln_6, true_and, and_true, not_true_eq_false, not_false_eq_true, false_implies, true_implies, implies_true, forall_const, forall_eq, if_true, if_false, false_and, and_false, q2, show t + 10 + 5 = t + 15 by omega, show t + 10 + 1 = t + 11 by omega, show t + 10 + 2 = t + 12 by omega, show t + 10 + 3 = t + 13 by omega, show t + 10 + 4 = t + 14 by omega, show t + 10 + 5 = t + 15 by omega]
    · rw [if_neg z]; simp (disch := omega) only [lit_add, add_lit, lit_mul, mul_lit, nI_add, nI_clamp, nI_subI, nI_sub1, nI_divL, vp_T, ge_F, ge_T, geL_F, geL_T, leL_F, leL_T, le0_F, le0_T, ge0_T, row_self, row_ne, row_l, row_p, row_row, wI_row, wI_same, wI_cell, wI_place, wI_l, wI_p, lt_T, lt_F, ltL_T, ltL_F, gtL_T, gtL_F, lt0_F, eq_T, eq_F, eqL_T, eqL_F, eqM_F, leM_F, nat_mod, i_10, i_01, i_m1, eq_self_iff_true, rw8_lt, up1_ne, up1_eq, wi_T, ite_self, tg_1, tg_68, tg_124, tg_177, tg_11, tg_17, tg_59, tg_78, tg_84, ln_7, ln_16, ln_233, ln_232, ln_6, true_and, and_true, not_true_eq_false, not_false_eq_true, false_implies, true_implies, implies_true, forall_const, forall_eq, if_true, if_false, false_and, and_false, q2, show t + 10 + 1 = t + 11 by omega, show t + 10 + 2 = t + 12 by omega, show t + 10 + 3 = t + 13 by omega, show t + 10 + 4 = t + 14 by omega, show t + 10 + 5 = t + 15 by omega]
  have eo : ∀ c, (c < t + 10 ∨ t + 15 < c) → (aNo S (t + 10) x1 x2 x3 x4 x5).1 c = S.1 c := fun c hc => by
    funext j
    unfold aNo
    simp (disch := omega) only [lit_add, add_lit, lit_mul, mul_lit, nI_add, nI_clamp, nI_subI, nI_sub1, nI_divL, vp_T, ge_F, ge_T, geL_F, geL_T, leL_F, leL_T, le0_F, le0_T, ge0_T, row_self, row_ne, row_l, row_p, row_row, wI_row, wI_same, wI_cell, wI_place, wI_l, wI_p, lt_T, lt_F, ltL_T, ltL_F, gtL_T, gtL_F, lt0_F, eq_T, eq_F, eqL_T, eqL_F, eqM_F, leM_F, nat_mod, i_10, i_01, i_m1, eq_self_iff_true, rw8_lt, up1_ne, up1_eq, wi_T, ite_self, tg_1, tg_68, tg_124, tg_177, tg_11, tg_17, tg_59, tg_78, tg_84, ln_7, ln_16, ln_233, ln_232, ln_6, true_and, and_true, not_true_eq_false, not_false_eq_true, false_implies, true_implies, implies_true, forall_const, forall_eq, if_true, if_false, false_and, and_false]
  have bo : ∀ {j}, (j ≠ 2 ∧ j ≠ 143 + q ∧ j ≠ 149 + q ∧ j ≠ 155 + q ∧ j ≠ 161 + q ∧ j ≠ 167 + q) → adN A q x1 x2 x3 x4 x5 j = A j := fun h => adN_o h
  have b1 : adN A q x1 x2 x3 x4 x5 (143 + q) = x1 := by unfold adN; simp (disch := omega) only [up1_ne, up1_eq]
  have b2 : adN A q x1 x2 x3 x4 x5 (149 + q) = x2 := by unfold adN; simp (disch := omega) only [up1_ne, up1_eq]
  have b3 : adN A q x1 x2 x3 x4 x5 (155 + q) = x3 := by unfold adN; simp (disch := omega) only [up1_ne, up1_eq]
  have b4 : adN A q x1 x2 x3 x4 x5 (161 + q) = x4 := by unfold adN; simp (disch := omega) only [up1_ne, up1_eq]
  have b5 : adN A q x1 x2 x3 x4 x5 (167 + q) = x5 := by unfold adN; simp (disch := omega) only [up1_ne, up1_eq]
  have b0 : adN A q x1 x2 x3 x4 x5 2 = nI (q + 1) := by unfold adN; simp (disch := omega) only [up1_eq]
  have ep : (aNo S (t + 10) x1 x2 x3 x4 x5).2.2 = S.2.2 := rfl
  generalize (aNo S (t + 10) x1 x2 x3 x4 x5) = T at *
  generalize hB : (adN A q x1 x2 x3 x4 x5) = B at *
  refine ⟨⟨hn, hm6, by rw [bo (by omega)]; exact h0, by rw [bo (by omega)]; exact h1, fun k h => ?_, fun k h => ?_, fun k h => ?_, fun k h => ?_, fun k h => ?_, fun k h => ?_, fun k h => ?_, fun k h => ?_⟩, ⟨by rw [eo _ (by omega)]; exact r0, by rw [eo _ (by omega)]; exact r7, fun k h => ?_, fun k h => ?_, fun k h => ?_, fun a b h h' => ?_, fun k h => ?_, fun k h => ?_, fun k h => ?_, fun k h => ?_, fun k h => ?_⟩, ⟨?_, fun k h => ?_, fun k h => ?_, fun k h => ?_, fun k a b => ?_⟩, ⟨by omega, ?_, ?_, fun k h => ?_, fun k h => ?_, fun k h => ?_, fun k h => ?_, fun k h => ?_⟩, ⟨h5.1, by rw [bo (by omega)]; exact h5.2.1, by rw [eo _ (by omega)]; exact h5.2.2⟩, fun j hj => ?_, by rw [bo (by omega)]; exact h7, h8, fun j hj => by rw [bo (by have := h5.1; omega)]; exact h9 j hj⟩
  · rw [bo (by omega)]; exact hk k h
  · rw [bo (by omega)]; exact hw9 k h
  · rw [bo (by omega)]; exact hl k h
  · rw [bo (by omega)]; exact hg k h
  · rw [bo (by omega)]; exact hwi k h
  · rw [bo (by omega)]; exact hsm k h
  · rw [bo (by omega)]; exact hst k h
  · rw [bo (by omega)]; exact hbu k h
  · rw [bo (by omega), eo _ (by omega)]; exact r1 k h
  · rw [bo (by omega), eo _ (by omega)]; exact r2 k h
  · rw [bo (by omega), eo _ (by omega)]; exact r3 k h
  · rw [bo (by omega), eo _ (by omega)]; exact r4 a b h h'
  · rw [bo (by omega), eo _ (by omega)]; exact r5 k h
  · rw [bo (by omega), eo _ (by omega)]; exact r6 k h
  · rw [bo (by omega), eo _ (by omega)]; exact r7' k h
  · rw [bo (by omega), eo _ (by omega)]; exact r8 k h
  · rw [bo (by omega), eo _ (by omega)]; exact r9 k h
  · rw [eo _ (by omega), ow_0, bo (by omega)]; exact d0
  · rw [eo _ (by omega), ow_1, bo (by omega), ← ow_1 A]; exact d1 k h
  · rw [eo _ (by omega), ow_2, bo (by omega), ← ow_2 A]; exact d2 k h
  · rw [eo _ (by omega), ow_3, bo (by omega), ← ow_3 A]; exact d3 k h
  · rw [eo _ (by omega), eo _ (by omega), eo _ (by omega)]; exact d4 k a b
  · exact b0
  · exact eq0
  · rw [e11]
    by_cases z : k = q
    · subst z; rw [if_pos rfl, b1]
    · rw [if_neg z, bo (by omega)]; exact n1 k (by omega)
  · rw [e12]
    by_cases z : k = q
    · subst z; rw [if_pos rfl, b2]
    · rw [if_neg z, bo (by omega)]; exact n2 k (by omega)
  · rw [e13]
    by_cases z : k = q
    · subst z; rw [if_pos rfl, b3]
    · rw [if_neg z, bo (by omega)]; exact n3 k (by omega)
  · rw [e14]
    by_cases z : k = q
    · subst z; rw [if_pos rfl, b4]
    · rw [if_neg z, bo (by omega)]; exact n4 k (by omega)
  · rw [e15]
    by_cases z : k = q
    · subst z; rw [if_pos rfl, b5]
    · rw [if_neg z, bo (by omega)]; exact n5 k (by omega)
  · obtain ⟨i, hi, e⟩ := hP.1 j (by have := h5.1; omega)
    rw [ep]
    exact RD_c hn (fun i hi => bo (by have := h5.1; omega)) (RD_fr (fun c a b => eo c (by omega)) (h6 j hj))
theorem RT_forget  (hR : RT S t A n m q u y N) (hP : PP S t)  : RT (fm_wI S (t + 10) 0 0) t (up1 A 2 0) n m 0 u y N := by
  obtain ⟨⟨hn, hm6, h0, h1, hk, hw9, hl, hg, hwi, hsm, hst, hbu⟩, ⟨r0, r7, r1, r2, r3, r4, r5, r6, r7', r8, r9⟩, ⟨d0, d1, d2, d3, d4⟩, ⟨q0, q1, q2, n1, n2, n3, n4, n5⟩, h5, h6, h7, h8, h9⟩ := hR
  have eo : ∀ c, c ≠ t + 10 → (fm_wI S (t + 10) 0 0).1 c = S.1 c := fun c hc => wI_ce hc
  have e10 : (fm_wI S (t + 10) 0 0).1 (t + 10) 0 = 0 := wI_same
  have bo : ∀ {j}, j ≠ 2 → up1 A 2 0 j = A j := fun h => up1_ne h
  have b2 : up1 A 2 0 2 = 0 := up1_eq
  have ep : (fm_wI S (t + 10) 0 0).2.2 = S.2.2 := rfl
  generalize (fm_wI S (t + 10) 0 0) = T at *
  generalize hB : (up1 A 2 0) = B at *
  refine ⟨⟨hn, hm6, by rw [bo (by omega)]; exact h0, by rw [bo (by omega)]; exact h1, fun k h => ?_, fun k h => ?_, fun k h => ?_, fun k h => ?_, fun k h => ?_, fun k h => ?_, fun k h => ?_, fun k h => ?_⟩, ⟨by rw [eo _ (by omega)]; exact r0, by rw [eo _ (by omega)]; exact r7, fun k h => ?_, fun k h => ?_, fun k h => ?_, fun a b h h' => ?_, fun k h => ?_, fun k h => ?_, fun k h => ?_, fun k h => ?_, fun k h => ?_⟩, ⟨?_, fun k h => ?_, fun k h => ?_, fun k h => ?_, fun k a b => ?_⟩, ⟨by omega, ?_, ?_, fun k h => ?_, fun k h => ?_, fun k h => ?_, fun k h => ?_, fun k h => ?_⟩, ⟨h5.1, by rw [bo (by omega)]; exact h5.2.1, by rw [eo _ (by omega)]; exact h5.2.2⟩, fun j hj => ?_, by rw [bo (by omega)]; exact h7, h8, fun j hj => by rw [bo (by have := h5.1; omega)]; exact h9 j hj⟩
  · rw [bo (by omega)]; exact hk k h
  · rw [bo (by omega)]; exact hw9 k h
  · rw [bo (by omega)]; exact hl k h
  · rw [bo (by omega)]; exact hg k h
  · rw [bo (by omega)]; exact hwi k h
  · rw [bo (by omega)]; exact hsm k h
  · rw [bo (by omega)]; exact hst k h
  · rw [bo (by omega)]; exact hbu k h
  · rw [bo (by omega), eo _ (by omega)]; exact r1 k h
  · rw [bo (by omega), eo _ (by omega)]; exact r2 k h
  · rw [bo (by omega), eo _ (by omega)]; exact r3 k h
  · rw [bo (by omega), eo _ (by omega)]; exact r4 a b h h'
  · rw [bo (by omega), eo _ (by omega)]; exact r5 k h
  · rw [bo (by omega), eo _ (by omega)]; exact r6 k h
  · rw [bo (by omega), eo _ (by omega)]; exact r7' k h
  · rw [bo (by omega), eo _ (by omega)]; exact r8 k h
  · rw [bo (by omega), eo _ (by omega)]; exact r9 k h
  · rw [eo _ (by omega), ow_0, bo (by omega)]; exact d0
  · rw [eo _ (by omega), ow_1, bo (by omega), ← ow_1 A]; exact d1 k h
  · rw [eo _ (by omega), ow_2, bo (by omega), ← ow_2 A]; exact d2 k h
  · rw [eo _ (by omega), ow_3, bo (by omega), ← ow_3 A]; exact d3 k h
  · rw [eo _ (by omega), eo _ (by omega), eo _ (by omega)]; exact d4 k a b
  · exact b2
  · exact e10
  · exact absurd h (by omega)
  · exact absurd h (by omega)
  · exact absurd h (by omega)
  · exact absurd h (by omega)
  · exact absurd h (by omega)
  · obtain ⟨i, hi, e⟩ := hP.1 j (by have := h5.1; omega)
    rw [ep]
    exact RD_c hn (fun i hi => bo (by have := h5.1; omega)) (RD_fr (fun c a b => eo c (by omega)) (h6 j hj))
end OPS2
