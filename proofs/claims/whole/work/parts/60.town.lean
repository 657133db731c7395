/-! the town at t stands for the array A -/
def PP (S : fm_S) (t : Nat) : Prop := (∀ j, j < 8 → ∃ i, i < 8 ∧ S.2.2 (t + 20) j = t + 21 + 4 * i) ∧ (∀ i j, i < 8 → j < 8 → i ≠ j → S.2.2 (t + 20) i ≠ S.2.2 (t + 20) j)
/-- n streets, m dishes, q notes, u days to undo, day y, no day above N -/
def RT (S : fm_S) (t : Nat) (A : Nat → Int32) (n m q u y N : Nat) : Prop :=
  WS A n m ∧ RS S t A n m ∧ RD S (t + 16) (ow A) n ∧ RN S t A q ∧ (u ≤ 8 ∧ A 3 = nI u ∧ S.1 t 14 = nI u) ∧
  (∀ j, j < u → RD S (S.2.2 (t + 20) j) (fun i => A (173 + 25 * j + i)) n) ∧ A 4 = nI y ∧ y ≤ N ∧ (∀ j, j < u → iN (A (173 + 25 * j)) N)
theorem PP_fr {S S' : fm_S} {t : Nat} (h : S'.2.2 (t + 20) = S.2.2 (t + 20)) (hP : PP S t) : PP S' t := by
  unfold PP
  rw [h]
  exact hP
theorem RN_fr {S S' : fm_S} {t q : Nat} {A : Nat → Int32} (h : ∀ c, t + 10 ≤ c → c ≤ t + 15 → S'.1 c = S.1 c) (hR : RN S t A q) : RN S' t A q := by
  unfold RN
  rw [h (t + 10) (by omega) (by omega), h (t + 11) (by omega) (by omega), h (t + 12) (by omega) (by omega), h (t + 13) (by omega) (by omega), h (t + 14) (by omega) (by omega), h (t + 15) (by omega) (by omega)]
  exact hR
theorem RT_fr {S S' : fm_S} {t n m q u y N : Nat} {A : Nat → Int32} (h : ∀ c, t ≤ c → c ≤ t + 52 → S'.1 c = S.1 c) (hp : S'.2.2 (t + 20) = S.2.2 (t + 20)) (hP : PP S t) (hR : RT S t A n m q u y N) : RT S' t A n m q u y N := by
  obtain ⟨h1, h2, h3, h4, h5, h6, h7⟩ := hR
  refine ⟨h1, RS_fr (fun c a b => h c (by omega) (by omega)) h2, RD_fr (fun c a b => h c (by omega) (by omega)) h3, RN_fr (fun c a b => h c (by omega) (by omega)) h4, ?_, fun j hj => ?_, h7⟩
  · rw [h t (by omega) (by omega)]; exact h5
  · rw [hp]
    obtain ⟨i, hi, e⟩ := hP.1 j (by have := h5.1; omega)
    exact RD_fr (fun c a b => h c (by omega) (by omega)) (h6 j hj)
theorem RT_mono {S : fm_S} {t n m q u y N N' : Nat} {A : Nat → Int32} (hN : N ≤ N') (hR : RT S t A n m q u y N) : RT S t A n m q u y N' := by
  obtain ⟨h1, h2, h3, h4, h5, h6, h7, h8, h9⟩ := hR
  exact ⟨h1, h2, h3, h4, h5, h6, h7, by omega, fun j hj => ⟨(h9 j hj).1, by have := (h9 j hj).2; omega⟩⟩
theorem RD_c {S : fm_S} {a n : Nat} {f g : Nat → Int32} (hn : n ≤ 8) (h : ∀ i, i < 25 → g i = f i) (hR : RD S a f n) : RD S a g n := by
  obtain ⟨d0, d1, d2, d3, d4⟩ := hR
  exact ⟨by rw [h 0 (by omega)]; exact d0, fun k hk => by rw [h _ (by omega)]; exact d1 k hk, fun k hk => by rw [h _ (by omega)]; exact d2 k hk, fun k hk => by rw [h _ (by omega)]; exact d3 k hk, d4⟩
theorem m_ow_lt {i : Nat} (h : i < 25) : m_ow i < 53 := by unfold m_ow; split <;> omega
/-- an array alike -/
theorem RT_A {S : fm_S} {t n m q u y N : Nat} {A B : Nat → Int32} (hE : ∀ k, k < 373 → B k = A k) (hR : RT S t A n m q u y N) : RT S t B n m q u y N := by
  obtain ⟨⟨hn, hm6, h0, h1, hk, hw9, hl, hg, hwi, hsm, hst, hbu⟩, ⟨r0, r7, r1, r2, r3, r4, r5, r6, r7', r8, r9⟩, h3, ⟨q0, q1, q2, n1, n2, n3, n4, n5⟩, h5, h6, h7, h8, h9⟩ := hR
  refine ⟨⟨hn, hm6, by rw [hE _ (by omega)]; exact h0, by rw [hE _ (by omega)]; exact h1, fun k h => ?_, fun k h => ?_, fun k h => ?_, fun k h => ?_, fun k h => ?_, fun k h => ?_, fun k h => ?_, fun k h => ?_⟩, ⟨r0, r7, fun k h => ?_, fun k h => ?_, fun k h => ?_, fun a b h h' => ?_, fun k h => ?_, fun k h => ?_, fun k h => ?_, fun k h => ?_, fun k h => ?_⟩, ?_, ⟨q0, ?_, q2, fun k h => ?_, fun k h => ?_, fun k h => ?_, fun k h => ?_, fun k h => ?_⟩, ?_, fun j hj => ?_, ?_, h8, fun j hj => ?_⟩
  · rw [hE _ (by omega)]; exact hk k h
  · rw [hE _ (by omega)]; exact hw9 k h
  · rw [hE _ (by omega)]; exact hl k h
  · rw [hE _ (by omega)]; exact hg k h
  · rw [hE _ (by omega)]; exact hwi k h
  · rw [hE _ (by omega)]; exact hsm k h
  · rw [hE _ (by omega)]; exact hst k h
  · rw [hE _ (by omega)]; exact hbu k h
  · rw [hE _ (by omega)]; exact r1 k h
  · rw [hE _ (by omega)]; exact r2 k h
  · rw [hE _ (by omega)]; exact r3 k h
  · rw [hE _ (by omega)]; exact r4 a b h h'
  · rw [hE _ (by omega)]; exact r5 k h
  · rw [hE _ (by omega)]; exact r6 k h
  · rw [hE _ (by omega)]; exact r7' k h
  · rw [hE _ (by omega)]; exact r8 k h
  · rw [hE _ (by omega)]; exact r9 k h
  · exact RD_c hn (fun i hi => hE _ (by have := m_ow_lt hi; omega)) h3
  · rw [hE _ (by omega)]; exact q1
  · rw [hE _ (by omega)]; exact n1 k h
  · rw [hE _ (by omega)]; exact n2 k h
  · rw [hE _ (by omega)]; exact n3 k h
  · rw [hE _ (by omega)]; exact n4 k h
  · rw [hE _ (by omega)]; exact n5 k h
  · rw [hE _ (by omega)]; exact h5
  · exact RD_c hn (fun i hi => hE _ (by have := h5.1; omega)) (h6 j hj)
  · rw [hE _ (by omega)]; exact h7
  · rw [hE _ (by have := h5.1; omega)]; exact h9 j hj
theorem tn_L {n : Nat} (h : (OfNat.ofNat n : Nat) < 2 ^ 31) : (no_index (OfNat.ofNat n) : Int32).toNatClampNeg = OfNat.ofNat n := nI_clamp (n := OfNat.ofNat n) h
section OPS
variable {S : fm_S} {t n m q u y N c : Nat} {A : Nat → Int32}
/-! a street; what the class does where there is room, and where there is none -/
def aSt (S : fm_S) (a0 : Nat) (x1 x2 x3 : Int32) : fm_S := fm_wI (fm_wI (fm_wI (fm_wI (fm_wI S (a0 + 1) ((S.1 a0 0).toNatClampNeg) x1) (a0 + 2) ((S.1 a0 0).toNatClampNeg) x2) (a0 + 3) ((S.1 a0 0).toNatClampNeg) x3) a0 0 (((fm_wI (fm_wI (fm_wI S (a0 + 1) ((S.1 a0 0).toNatClampNeg) x1) (a0 + 2) ((S.1 a0 0).toNatClampNeg) x2) (a0 + 3) ((S.1 a0 0).toNatClampNeg) x3).1 a0 0) + 1)) a0 14 0
theorem aSt_g {x1 x2 x3 : Int32} (h : S.1 c 0 = nI n) (hn : n < 8) : g_Town_addStreet S c x1 x2 x3 = aSt S c x1 x2 x3 := by
  unfold g_Town_addStreet
  rw [if_pos (by rw [h]; exact nI_lt (b := 8) hn (by decide))]
  rfl
theorem aSt_f {x1 x2 x3 : Int32} (h : S.1 c 0 = nI n) (hn : n < 8) : f_Town_addStreet S c x1 x2 x3 = nI n := by
  unfold f_Town_addStreet
  rw [if_pos (by rw [h]; exact nI_lt (b := 8) hn (by decide)), h]
theorem aSt_g8 {x1 x2 x3 : Int32} (h : S.1 c 0 = nI 8) : g_Town_addStreet S c x1 x2 x3 = S := by
  unfold g_Town_addStreet
  rw [if_neg (by rw [h]; decide)]
theorem aSt_f8 {x1 x2 x3 : Int32} (h : S.1 c 0 = nI 8) : f_Town_addStreet S c x1 x2 x3 = -1 := by
  unfold f_Town_addStreet
  rw [if_neg (by rw [h]; decide)]
def adS (A : Nat → Int32) (n : Nat) (x1 x2 x3 : Int32) : Nat → Int32 := up1 (up1 (up1 (up1 (up1 (up1 (up1 (up1 A (5 + n) x1) (13 + n) x2) (21 + n) x3) (29 + n) (-1)) (37 + n) (-1)) (45 + n) 0) 0 (nI (n + 1))) 3 0
theorem g_adS {x1 x2 x3 : Int32} (h0 : S.1 c 0 = nI n) (hn : n < 8) : g_M_addStreet S c x1 x2 x3 = fm_row S c (adS (S.1 c) n x1 x2 x3) := by
  unfold g_M_addStreet adS
  rw [wI_as S c]
  simp (disch := omega) only [lit_add, add_lit, lit_mul, mul_lit, nI_add, nI_clamp, nI_subI, nI_sub1, nI_divL, vp_T, ge_F, ge_T, geL_F, geL_T, leL_F, leL_T, le0_F, le0_T, ge0_T, row_self, row_ne, row_l, row_p, row_row, wI_row, wI_same, wI_cell, wI_place, wI_l, wI_p, lt_T, lt_F, ltL_T, ltL_F, gtL_T, gtL_F, lt0_F, eq_T, eq_F, eqL_T, eqL_F, eqM_F, leM_F, nat_mod, i_10, i_01, i_m1, eq_self_iff_true, rw8_lt, up1_ne, up1_eq, wi_T, ite_self, tg_1, tg_68, tg_124, tg_177, tg_11, tg_17, tg_59, tg_78, tg_84, ln_7, ln_16, ln_233, ln_232, ln_6, true_and, and_true, not_true_eq_false, not_false_eq_true, false_implies, true_implies, implies_true, forall_const, forall_eq, if_true, if_false, false_and, and_false, tn_L, h0]
theorem adS_o {x1 x2 x3 : Int32} {j : Nat} (h : j ≠ 0 ∧ j ≠ 3 ∧ j ≠ 5 + n ∧ j ≠ 13 + n ∧ j ≠ 21 + n ∧ j ≠ 29 + n ∧ j ≠ 37 + n ∧ j ≠ 45 + n) : adS A n x1 x2 x3 j = A j := by
  unfold adS
  simp (disch := omega) only [up1_ne]
theorem RT_street {x1 x2 x3 : Int32} (hR : RT S t A n m q u y N) (hn : n < 8) (k1 : iN x1 5) (k2 : iN x2 9) : RT (aSt S t x1 x2 x3) t (adS A n x1 x2 x3) (n + 1) m q 0 y N := by
  obtain ⟨⟨_, hm6, h0, h1, hk, hw9, hl, hg, hwi, hsm, hst, hbu⟩, ⟨r0, r7, r1, r2, r3, r4, r5, r6, r7', r8, r9⟩, ⟨d0, d1, d2, d3, d4⟩, ⟨q0, q1, q2, n1, n2, n3, n4, n5⟩, h5, h6, h7, h8, h9⟩ := hR
  have e0 : (aSt S t x1 x2 x3).1 t 0 = nI (n + 1) := by
    unfold aSt; simp (disch := omega) only [lit_add, add_lit, lit_mul, mul_lit, nI_add, nI_clamp, nI_subI, nI_sub1, nI_divL, vp_T, ge_F, ge_T, geL_F, geL_T, leL_F, leL_T, le0_F, le0_T, ge0_T, row_self, row_ne, row_l, row_p, row_row, wI_row, wI_same, wI_cell, wI_place, wI_l, wI_p, lt_T, lt_F, ltL_T, ltL_F, gtL_T, gtL_F, lt0_F, eq_T, eq_F, eqL_T, eqL_F, eqM_F, leM_F, nat_mod, i_10, i_01, i_m1, eq_self_iff_true, rw8_lt, up1_ne, up1_eq, wi_T, ite_self, tg_1, tg_68, tg_124, tg_177, tg_11, tg_17, tg_59, tg_78, tg_84, ln_7, ln_16, ln_233, ln_232, ln_6, true_and, and_true, not_true_eq_false, not_false_eq_true, false_implies, true_implies, implies_true, forall_const, forall_eq, if_true, if_false, false_and, and_false, r0]
  have e14 : (aSt S t x1 x2 x3).1 t 14 = 0 := by
    unfold aSt; simp (disch := omega) only [lit_add, add_lit, lit_mul, mul_lit, nI_add, nI_clamp, nI_subI, nI_sub1, nI_divL, vp_T, ge_F, ge_T, geL_F, geL_T, leL_F, leL_T, le0_F, le0_T, ge0_T, row_self, row_ne, row_l, row_p, row_row, wI_row, wI_same, wI_cell, wI_place, wI_l, wI_p, lt_T, lt_F, ltL_T, ltL_F, gtL_T, gtL_F, lt0_F, eq_T, eq_F, eqL_T, eqL_F, eqM_F, leM_F, nat_mod, i_10, i_01, i_m1, eq_self_iff_true, rw8_lt, up1_ne, up1_eq, wi_T, ite_self, tg_1, tg_68, tg_124, tg_177, tg_11, tg_17, tg_59, tg_78, tg_84, ln_7, ln_16, ln_233, ln_232, ln_6, true_and, and_true, not_true_eq_false, not_false_eq_true, false_implies, true_implies, implies_true, forall_const, forall_eq, if_true, if_false, false_and, and_false, r0]
  have e7 : (aSt S t x1 x2 x3).1 t 7 = nI m := by
    unfold aSt; simp (disch := omega) only [lit_add, add_lit, lit_mul, mul_lit, nI_add, nI_clamp, nI_subI, nI_sub1, nI_divL, vp_T, ge_F, ge_T, geL_F, geL_T, leL_F, leL_T, le0_F, le0_T, ge0_T, row_self, row_ne, row_l, row_p, row_row, wI_row, wI_same, wI_cell, wI_place, wI_l, wI_p, lt_T, lt_F, ltL_T, ltL_F, gtL_T, gtL_F, lt0_F, eq_T, eq_F, eqL_T, eqL_F, eqM_F, leM_F, nat_mod, i_10, i_01, i_m1, eq_self_iff_true, rw8_lt, up1_ne, up1_eq, wi_T, ite_self, tg_1, tg_68, tg_124, tg_177, tg_11, tg_17, tg_59, tg_78, tg_84, ln_7, ln_16, ln_233, ln_232, ln_6, true_and, and_true, not_true_eq_false, not_false_eq_true, false_implies, true_implies, implies_true, forall_const, forall_eq, if_true, if_false, false_and, and_false, r0, r7]
  have e1 : ∀ k, (aSt S t x1 x2 x3).1 (t + 1) k = if k = n then x1 else S.1 (t + 1) k := fun k => by
    unfold aSt
    by_cases z : k = n
    · subst z; simp (disch := omega) only [lit_add, add_lit, lit_mul, mul_lit, nI_add, nI_clamp, nI_subI, nI_sub1, nI_divL, vp_T, ge_F, ge_T, geL_F, geL_T, leL_F, leL_T, le0_F, le0_T, ge0_T, row_self, row_ne, row_l, row_p, row_row, wI_row, wI_same, wI_cell, wI_place, wI_l, wI_p, lt_T, lt_F, ltL_T, ltL_F, gtL_T, gtL_F, lt0_F, eq_T, eq_F, eqL_T, eqL_F, eqM_F, leM_F, nat_mod, i_10, i_01, i_m1, eq_self_iff_true, rw8_lt, up1_ne, up1_eq, wi_T, ite_self, tg_1, tg_68, tg_124, tg_177, tg_11, tg_17, tg_59, tg_78, tg_84, ln_7, ln_16, ln_233, ln_232, ln_6, true_and, and_true, not_true_eq_false, not_false_eq_true, false_implies, true_implies, implies_true, forall_const, forall_eq, if_true, if_false, false_and, and_false, r0]
    · rw [if_neg z]; simp (disch := omega) only [lit_add, add_lit, lit_mul, mul_lit, nI_add, nI_clamp, nI_subI, nI_sub1, nI_divL, vp_T, ge_F, ge_T, geL_F, geL_T, leL_F, leL_T, le0_F, le0_T, ge0_T, row_self, row_ne, row_l, row_p, row_row, wI_row, wI_same, wI_cell, wI_place, wI_l, wI_p, lt_T, lt_F, ltL_T, ltL_F, gtL_T, gtL_F, lt0_F, eq_T, eq_F, eqL_T, eqL_F, eqM_F, leM_F, nat_mod, i_10, i_01, i_m1, eq_self_iff_true, rw8_lt, up1_ne, up1_eq, wi_T, ite_self, tg_1, tg_68, tg_124, tg_177, tg_11, tg_17, tg_59, tg_78, tg_84, ln_7, ln_16, ln_233, ln_232, ln_6, true_and, and_true, not_true_eq_false, not_false_eq_true, false_implies, true_implies, implies_true, forall_const, forall_eq, if_true, if_false, false_and, and_false, r0]
  have e2 : ∀ k, (aSt S t x1 x2 x3).1 (t + 2) k = if k = n then x2 else S.1 (t + 2) k := fun k => by
    unfold aSt
    by_cases z : k = n
    · subst z; simp (disch := omega) only [lit_add, add_lit, lit_mul, mul_lit, nI_add, nI_clamp, nI_subI, nI_sub1, nI_divL, vp_T, ge_F, ge_T, geL_F, geL_T, leL_F, leL_T, le0_F, le0_T, ge0_T, row_self, row_ne, row_l, row_p, row_row, wI_row, wI_same, wI_cell, wI_place, wI_l, wI_p, lt_T, lt_F, ltL_T, ltL_F, gtL_T, gtL_F, lt0_F, eq_T, eq_F, eqL_T, eqL_F, eqM_F, leM_F, nat_mod, i_10, i_01, i_m1, eq_self_iff_true, rw8_lt, up1_ne, up1_eq, wi_T, ite_self, tg_1, tg_68, tg_124, tg_177, tg_11, tg_17, tg_59, tg_78, tg_84, ln_7, ln_16, ln_233, ln_232, ln_6, true_and, and_true, not_true_eq_false, not_false_eq_true, false_implies, true_implies, implies_true, forall_const, forall_eq, if_true, if_false, false_and, and_false, r0]
    · rw [if_neg z]; simp (disch := omega) only [lit_add, add_lit, lit_mul, mul_lit, nI_add, nI_clamp, nI_subI, nI_sub1, nI_divL, vp_T, ge_F, ge_T, geL_F, geL_T, leL_F, leL_T, le0_F, le0_T, ge0_T, row_self, row_ne, row_l, row_p, row_row, wI_row, wI_same, wI_cell, wI_place, wI_l, wI_p, lt_T, lt_F, ltL_T, ltL_F, gtL_T, gtL_F, lt0_F, eq_T, eq_F, eqL_T, eqL_F, eqM_F, leM_F, nat_mod, i_10, i_01, i_m1, eq_self_iff_true, rw8_lt, up1_ne, up1_eq, wi_T, ite_self, tg_1, tg_68, tg_124, tg_177, tg_11, tg_17, tg_59, tg_78, tg_84, ln_7, ln_16, ln_233, ln_232, ln_6, true_and, and_true, not_true_eq_false, not_false_eq_true, false_implies, true_implies, implies_true, forall_const, forall_eq, if_true, if_false, false_and, and_false, r0]
  have e3 : ∀ k, (aSt S t x1 x2 x3).1 (t + 3) k = if k = n then x3 else S.1 (t + 3) k := fun k => by
    unfold aSt
    by_cases z : k = n
    · subst z; simp (disch := omega) only [lit_add, add_lit, lit_mul, mul_lit, nI_add, nI_clamp, nI_subI, nI_sub1, nI_divL, vp_T, ge_F, ge_T, geL_F, geL_T, leL_F, leL_T, le0_F, le0_T, ge0_T, row_self, row_ne, row_l, row_p, row_row, wI_row, wI_same, wI_cell, wI_place, wI_l, wI_p, lt_T, lt_F, ltL_T, ltL_F, gtL_T, gtL_F, lt0_F, eq_T, eq_F, eqL_T, eqL_F, eqM_F, leM_F, nat_mod, i_10, i_01, i_m1, eq_self_iff_true, rw8_lt, up1_ne, up1_eq, wi_T, ite_self, tg_1, tg_68, tg_124, tg_177, tg_11, tg_17, tg_59, tg_78, tg_84, ln_7, ln_16, ln_233, ln_232, ln_6, true_and, and_true, not_true_eq_false, not_false_eq_true, false_implies, true_implies, implies_true, forall_const, forall_eq, if_true, if_false, false_and, and_false, r0]
    · rw [if_neg z]; simp (disch := omega) only [lit_add, add_lit, lit_mul, mul_lit, nI_add, nI_clamp, nI_subI, nI_sub1, nI_divL, vp_T, ge_F, ge_T, geL_F, geL_T, leL_F, leL_T, le0_F, le0_T, ge0_T, row_self, row_ne, row_l, row_p, row_row, wI_row, wI_same, wI_cell, wI_place, wI_l, wI_p, lt_T, lt_F, ltL_T, ltL_F, gtL_T, gtL_F, lt0_F, eq_T, eq_F, eqL_T, eqL_F, eqM_F, leM_F, nat_mod, i_10, i_01, i_m1, eq_self_iff_true, rw8_lt, up1_ne, up1_eq, wi_T, ite_self, tg_1, tg_68, tg_124, tg_177, tg_11, tg_17, tg_59, tg_78, tg_84, ln_7, ln_16, ln_233, ln_232, ln_6, true_and, and_true, not_true_eq_false, not_false_eq_true, false_implies, true_implies, implies_true, forall_const, forall_eq, if_true, if_false, false_and, and_false, r0]
  have eo : ∀ c, (c < t ∨ t + 3 < c) → (aSt S t x1 x2 x3).1 c = S.1 c := fun c hc => by
    funext j
    unfold aSt
    simp (disch := omega) only [lit_add, add_lit, lit_mul, mul_lit, nI_add, nI_clamp, nI_subI, nI_sub1, nI_divL, vp_T, ge_F, ge_T, geL_F, geL_T, leL_F, leL_T, le0_F, le0_T, ge0_T, row_self, row_ne, row_l, row_p, row_row, wI_row, wI_same, wI_cell, wI_place, wI_l, wI_p, lt_T, lt_F, ltL_T, ltL_F, gtL_T, gtL_F, lt0_F, eq_T, eq_F, eqL_T, eqL_F, eqM_F, leM_F, nat_mod, i_10, i_01, i_m1, eq_self_iff_true, rw8_lt, up1_ne, up1_eq, wi_T, ite_self, tg_1, tg_68, tg_124, tg_177, tg_11, tg_17, tg_59, tg_78, tg_84, ln_7, ln_16, ln_233, ln_232, ln_6, true_and, and_true, not_true_eq_false, not_false_eq_true, false_implies, true_implies, implies_true, forall_const, forall_eq, if_true, if_false, false_and, and_false]
  generalize aSt S t x1 x2 x3 = T at *
  have a5 : adS A n x1 x2 x3 (5 + n) = x1 := by unfold adS; simp (disch := omega) only [up1_ne, up1_eq]
  have a13 : adS A n x1 x2 x3 (13 + n) = x2 := by unfold adS; simp (disch := omega) only [up1_ne, up1_eq]
  have a21 : adS A n x1 x2 x3 (21 + n) = x3 := by unfold adS; simp (disch := omega) only [up1_ne, up1_eq]
  have a29 : adS A n x1 x2 x3 (29 + n) = -1 := by unfold adS; simp (disch := omega) only [up1_ne, up1_eq]
  have a37 : adS A n x1 x2 x3 (37 + n) = -1 := by unfold adS; simp (disch := omega) only [up1_ne, up1_eq]
  have a45 : adS A n x1 x2 x3 (45 + n) = 0 := by unfold adS; simp (disch := omega) only [up1_ne, up1_eq]
  have a0 : adS A n x1 x2 x3 0 = nI (n + 1) := by unfold adS; simp (disch := omega) only [up1_ne, up1_eq]
  have a3 : adS A n x1 x2 x3 3 = 0 := by unfold adS; simp (disch := omega) only [up1_eq]
  refine ⟨⟨by omega, hm6, a0, by rw [adS_o (by omega)]; exact h1, fun k h => ?_, fun k h => ?_, fun k h => ?_, fun k h => ?_, fun k h => ?_, fun k h => ?_, fun k h => ?_, fun k h => ?_⟩, ⟨e0, e7, fun k h => ?_, fun k h => ?_, fun k h => ?_, fun a b h h' => ?_, fun k h => ?_, fun k h => ?_, fun k h => ?_, fun k h => ?_, fun k h => ?_⟩, ⟨?_, fun k h => ?_, fun k h => ?_, fun k h => ?_, fun k a b => ?_⟩, ⟨q0, ?_, ?_, fun k h => ?_, fun k h => ?_, fun k h => ?_, fun k h => ?_, fun k h => ?_⟩, ⟨by omega, a3, e14⟩, fun j hj => absurd hj (by omega), ?_, h8, fun j hj => absurd hj (by omega)⟩
  · by_cases z : k = n
    · subst z; rw [a5]; exact k1
    · rw [adS_o (by omega)]; exact hk k (by omega)
  · by_cases z : k = n
    · subst z; rw [a13]; exact k2
    · rw [adS_o (by omega)]; exact hw9 k (by omega)
  · rw [adS_o (by omega)]
    intro hz
    have := hl k h hz
    omega
  · rw [adS_o (by omega)]; exact hg k h
  · rw [adS_o (by omega)]; exact hwi k h
  · rw [adS_o (by omega)]; exact hsm k h
  · rw [adS_o (by omega)]; exact hst k h
  · rw [adS_o (by omega)]; exact hbu k h
  · rw [e1]
    by_cases z : k = n
    · subst z; rw [a5, if_pos rfl]
    · rw [adS_o (by omega), if_neg z]; exact r1 k (by omega)
  · rw [e2]
    by_cases z : k = n
    · subst z; rw [a13, if_pos rfl]
    · rw [adS_o (by omega), if_neg z]; exact r2 k (by omega)
  · rw [e3]
    by_cases z : k = n
    · subst z; rw [a21, if_pos rfl]
    · rw [adS_o (by omega), if_neg z]; exact r3 k (by omega)
  · rw [adS_o (by omega), eo _ (by omega)]; exact r4 a b h h'
  · rw [adS_o (by omega), eo _ (by omega)]; exact r5 k h
  · rw [adS_o (by omega), eo _ (by omega)]; exact r6 k h
  · rw [adS_o (by omega), eo _ (by omega)]; exact r7' k h
  · rw [adS_o (by omega), eo _ (by omega)]; exact r8 k h
  · rw [adS_o (by omega), eo _ (by omega)]; exact r9 k h
  · rw [eo _ (by omega), ow_0, adS_o (by omega)]; exact d0
  · rw [eo _ (by omega), ow_1]
    by_cases z : k = n
    · subst z; rw [a29]; exact (d4 k (by omega) hn).1
    · rw [adS_o (by omega), ← ow_1 A]; exact d1 k (by omega)
  · rw [eo _ (by omega), ow_2]
    by_cases z : k = n
    · subst z; rw [a37]; exact (d4 k (by omega) hn).2.1
    · rw [adS_o (by omega), ← ow_2 A]; exact d2 k (by omega)
  · rw [eo _ (by omega), ow_3]
    by_cases z : k = n
    · subst z; rw [a45]; exact (d4 k (by omega) hn).2.2
    · rw [adS_o (by omega), ← ow_3 A]; exact d3 k (by omega)
  · rw [eo _ (by omega), eo _ (by omega), eo _ (by omega)]; exact d4 k (by omega) b
  · rw [adS_o (by omega)]; exact q1
  · rw [eo _ (by omega)]; exact q2
  · rw [adS_o (by omega), eo _ (by omega)]; exact n1 k h
  · rw [adS_o (by omega), eo _ (by omega)]; exact n2 k h
  · rw [adS_o (by omega), eo _ (by omega)]; exact n3 k h
  · rw [adS_o (by omega), eo _ (by omega)]; exact n4 k h
  · rw [adS_o (by omega), eo _ (by omega)]; exact n5 k h
  · rw [adS_o (by omega)]; exact h7
end OPS
