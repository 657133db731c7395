/-! undo; the digest -/
section UNDO
variable {d n m q u y N : Nat} {S : fm_S} {A : Nat → Int32} {t : Nat}
theorem RT_undo {v : Nat} (hN : N < 3000) (hP : PP S t) (hR : RT S t A n m q (v + 1) y N) : ∃ z, A (173 + 25 * v) = nI z ∧ z ≤ N ∧ RT (g_Days_copy (fm_wI S t 14 (nI v)) (t + 16) (S.2.2 (t + 20) v)) t (undoA A v) n m q v z N := by
  obtain ⟨h1, h2, h3, h4, h5, h6, h7, h8, h9⟩ := hR
  have hv : v < 8 := by have := h5.1; omega
  obtain ⟨i, hi, ei⟩ := hP.1 v hv
  obtain ⟨z1, z2⟩ := h9 v (by omega)
  refine ⟨_, z1, z2, ?_⟩
  have hs2 : (g_Days_copy (fm_wI S t 14 (nI v)) (t + 16) (S.2.2 (t + 20) v)).2 = S.2 := by rw [dc_s2, wI_s2]
  have fr : ∀ c, c ≠ t → (c < t + 16 ∨ t + 19 < c) → (g_Days_copy (fm_wI S t 14 (nI v)) (t + 16) (S.2.2 (t + 20) v)).1 c = S.1 c := fun c a b => by
    rw [dc_fr (by omega), wI_ce a]
  have frt : ∀ j, j ≠ 14 → (g_Days_copy (fm_wI S t 14 (nI v)) (t + 16) (S.2.2 (t + 20) v)).1 t j = S.1 t j := fun j a => by
    rw [dc_fr (by omega), wI_place a]
  have e14 : (g_Days_copy (fm_wI S t 14 (nI v)) (t + 16) (S.2.2 (t + 20) v)).1 t 14 = nI v := by rw [dc_fr (by omega), wI_same]
  have hnew : RD (g_Days_copy (fm_wI S t 14 (nI v)) (t + 16) (S.2.2 (t + 20) v)) (t + 16) (fun i => A (173 + 25 * v + i)) n := by
    have z := h6 v (by omega)
    rw [ei] at z ⊢
    exact dc_RD (RD_fr (fun c a b => wI_ce (by omega)) z) h1.1 (by omega)
  have pe : ∀ j, j ≠ 3 → j ≠ 4 → (j < 29 ∨ 53 ≤ j) → undoA A v j = A j := fun j a b c => by
    unfold undoA
    rw [if_neg a, if_neg b, if_neg (by omega)]
  have pn : ∀ k, k < 25 → ow (undoA A v) k = A (173 + 25 * v + k) := fun k hk => by
    unfold ow m_ow undoA
    by_cases e : k = 0
    · subst e; rfl
    · rw [if_neg e, if_neg (by omega), if_neg (by omega), if_pos (by omega), show 28 + k - 28 = k by omega]
  generalize g_Days_copy (fm_wI S t 14 (nI v)) (t + 16) (S.2.2 (t + 20) v) = T at *
  refine ⟨WS_o (fun j hj => pe j (by omega) (by omega) (by omega)) h1, RS_o h1.1 h1.2.1 (fun j hj => pe j (by omega) (by omega) (by omega)) ?_, RD_c h1.1 (fun j hj => pn j hj) hnew, RN_o (fun j hj => pe j (by omega) (by omega) (by omega)) (RN_fr (fun c a b => fr c (by omega) (by omega)) h4), ⟨by omega, rfl, e14⟩, fun j hj => ?_, ?_, z2, fun j hj => ?_⟩
  · unfold RS at h2 ⊢
    rw [frt 0 (by omega), frt 7 (by omega), fr (t + 1) (by omega) (by omega), fr (t + 2) (by omega) (by omega), fr (t + 3) (by omega) (by omega), fr (t + 4) (by omega) (by omega), fr (t + 5) (by omega) (by omega), fr (t + 6) (by omega) (by omega), fr (t + 7) (by omega) (by omega), fr (t + 8) (by omega) (by omega), fr (t + 9) (by omega) (by omega)]
    exact h2
  · rw [hs2]
    obtain ⟨i2, hi2, ei2⟩ := hP.1 j (by omega)
    have z := h6 j (by omega)
    rw [ei2] at z ⊢
    exact RD_c h1.1 (fun k hk => pe _ (by omega) (by omega) (by omega)) (RD_fr (fun c a b => fr c (by omega) (by omega)) z)
  · have z := pn 0 (by omega)
    rw [ow_0, Nat.add_zero] at z
    rw [z]; exact z1
  · rw [pe _ (by omega) (by omega) (by omega)]; exact h9 j (by omega)
theorem mget_row {B : Nat → Int32} {v : Nat} (hv : v < 8) (h3 : B 3 = nI v) : g_past (fm_row S 232 B) 232 232 (nI (173 + 25 * v)) 1 = fm_row S 232 (undoA B v) := by
  have hg : g_past (fm_row S 232 B) 232 232 (nI (173 + 25 * v)) 1 = m_get (fm_row S 232 B) 232 232 (173 + 25 * v) 25 := by
    unfold g_past
    rw [if_neg (by decide), nI_clamp (by omega)]
  rw [hg]
  refine fm_ext (fun c i => ?_) (fun _ _ => rfl) fun _ _ => rfl
  show (if c = 232 ∧ i = 4 ∧ 0 < 25 then (fm_row S 232 B).1 232 (173 + 25 * v) else if c = 232 ∧ 29 ≤ i ∧ i < 28 + 25 then (fm_row S 232 B).1 232 (173 + 25 * v + (i - 28)) else (fm_row S 232 B).1 c i) = if c = 232 then undoA B v i else S.1 c i
  by_cases e : c = 232
  · subst e
    rw [if_pos rfl, row_self, row_self, row_self]
    unfold undoA
    by_cases e4 : i = 4
    · rw [if_pos ⟨rfl, e4, by omega⟩, if_neg (by omega), if_pos e4]
    · rw [if_neg (fun z => e4 z.2.1)]
      by_cases e3 : i = 3
      · subst e3; rw [if_neg (by omega), if_pos rfl]; exact h3
      · rw [if_neg e3, if_neg e4]
        by_cases e5 : 29 ≤ i ∧ i < 53
        · rw [if_pos (by omega), if_pos e5]
        · rw [if_neg (by omega), if_neg e5]
  · rw [if_neg (fun z => e z.1), if_neg (fun z => e z.1), if_neg e, row_ne e]
end UNDO
/-! the digest -/
def cnA (A : Nat → Int32) (n L k : Nat) : Int32 := if k = 0 then A 0 else if k = 1 then A 1 else if k = 2 then A 4 else if k = 3 then opn A n else if k = 4 then A 2 else if k = 5 then A 3 else nI L
def dgF (f : Nat → Int64) (h : Int64) : Nat → Int64
  | 0 => h
  | k + 1 => 31 * dgF f h k + f k
def dgL (A : Nat → Int32) (h : Int64) : Nat → Int64
  | 0 => h
  | k + 1 => if k % 8 ≤ k / 8 then dgL A h k else 31 * dgL A h k + (A (53 + k)).toInt64
def dg1 (A : Nat → Int32) (n L : Nat) : Int64 := dgF (fun k => (cnA A n L k).toInt64) 1069 7
def dg2 (A : Nat → Int32) (n L : Nat) : Int64 := dgF (fun k => (A (5 + 8 * (k % 6) + k / 6)).toInt64) (dg1 A n L) (6 * n)
def dg3 (A : Nat → Int32) (n L : Nat) : Int64 := dgL A (dg2 A n L) 64
def dg4 (A : Nat → Int32) (n L : Nat) : Int64 := dgF (fun k => (A (117 + k)).toInt64) (dg3 A n L) 8
def dg5 (A : Nat → Int32) (n m L : Nat) : Int64 := dgF (fun k => (A (125 + 6 * (k % 3) + k / 3)).toInt64) (dg4 A n L) (3 * m)
def dg6 (A : Nat → Int32) (n m q L : Nat) : Int64 := dgF (fun k => (A (143 + 6 * (k % 5) + k / 5)).toInt64) (dg5 A n m L) (5 * q)
section DIGEST
variable {d n m q L : Nat} {S : fm_S} {A : Nat → Int32}
theorem s_mdigest {Q : Int64 → fm_S → Prop} (hn : n ≤ 8) (hm : m ≤ 6) (hq : q ≤ 6) (hL : L ≤ 150) (h0 : S.1 232 0 = nI n) (h1 : S.1 232 1 = nI m) (h2 : S.1 232 2 = nI q) (hl : S.1 231 5 = nI L)
    (W : Q (31 * (31 * dg6 (S.1 232) n m q L + S.2.1 231 6) + S.2.1 231 7) S) :
    am_Ps vL (d + 2) k_M_digest [.ref 231] S Q := by
  refine e_M_digest ?_
  have l6 : ∀ k, k ≤ 5 * q → H_M_digest_204 d (dgF (fun k => (S.1 232 (143 + 6 * (k % 5) + k / 5)).toInt64) (dg5 (S.1 232) n m L) k) (nI k) S Q := by
    refine up_to ?_ fun k hk ih => ?_
    · refine p_M_digest_204 ?_
      simp (disch := omega) only [lit_add, add_lit, lit_mul, mul_lit, nI_add, nI_clamp, nI_subI, nI_sub1, nI_divL, vp_T, ge_F, ge_T, geL_F, geL_T, leL_F, leL_T, le0_F, le0_T, ge0_T, row_self, row_ne, row_l, row_p, row_row, wI_row, wI_same, wI_cell, wI_place, wI_l, wI_p, lt_T, lt_F, ltL_T, ltL_F, gtL_T, gtL_F, lt0_F, eq_T, eq_F, eqL_T, eqL_F, eqM_F, leM_F, nat_mod, i_10, i_01, i_m1, eq_self_iff_true, rw8_lt, up1_ne, up1_eq, wi_T, ite_self, tg_1, tg_68, tg_124, tg_177, tg_11, tg_17, tg_59, tg_78, tg_84, ln_7, ln_16, ln_233, ln_232, ln_6, true_and, and_true, not_true_eq_false, not_false_eq_true, false_implies, true_implies, implies_true, forall_const, forall_eq, if_true, if_false, false_and, and_false, h2]
      exact W
    · refine p_M_digest_204 ?_
      simp (disch := omega) only [lit_add, add_lit, lit_mul, mul_lit, nI_add, nI_clamp, nI_subI, nI_sub1, nI_divL, vp_T, ge_F, ge_T, geL_F, geL_T, leL_F, leL_T, le0_F, le0_T, ge0_T, row_self, row_ne, row_l, row_p, row_row, wI_row, wI_same, wI_cell, wI_place, wI_l, wI_p, lt_T, lt_F, ltL_T, ltL_F, gtL_T, gtL_F, lt0_F, eq_T, eq_F, eqL_T, eqL_F, eqM_F, leM_F, nat_mod, i_10, i_01, i_m1, eq_self_iff_true, rw8_lt, up1_ne, up1_eq, wi_T, ite_self, tg_1, tg_68, tg_124, tg_177, tg_11, tg_17, tg_59, tg_78, tg_84, ln_7, ln_16, ln_233, ln_232, ln_6, true_and, and_true, not_true_eq_false, not_false_eq_true, false_implies, true_implies, implies_true, forall_const, forall_eq, if_true, if_false, false_and, and_false, h2]
      exact ih
  have l5 : ∀ k, k ≤ 3 * m → H_M_digest_158 d (dgF (fun k => (S.1 232 (125 + 6 * (k % 3) + k / 3)).toInt64) (dg4 (S.1 232) n L) k) (nI k) S Q := by
    refine up_to ?_ fun k hk ih => ?_
    · refine p_M_digest_158 ?_
      simp (disch := omega) only [lit_add, add_lit, lit_mul, mul_lit, nI_add, nI_clamp, nI_subI, nI_sub1, nI_divL, vp_T, ge_F, ge_T, geL_F, geL_T, leL_F, leL_T, le0_F, le0_T, ge0_T, row_self, row_ne, row_l, row_p, row_row, wI_row, wI_same, wI_cell, wI_place, wI_l, wI_p, lt_T, lt_F, ltL_T, ltL_F, gtL_T, gtL_F, lt0_F, eq_T, eq_F, eqL_T, eqL_F, eqM_F, leM_F, nat_mod, i_10, i_01, i_m1, eq_self_iff_true, rw8_lt, up1_ne, up1_eq, wi_T, ite_self, tg_1, tg_68, tg_124, tg_177, tg_11, tg_17, tg_59, tg_78, tg_84, ln_7, ln_16, ln_233, ln_232, ln_6, true_and, and_true, not_true_eq_false, not_false_eq_true, false_implies, true_implies, implies_true, forall_const, forall_eq, if_true, if_false, false_and, and_false, h1]
      exact l6 0 (Nat.zero_le _)
    · refine p_M_digest_158 ?_
      simp (disch := omega) only [lit_add, add_lit, lit_mul, mul_lit, nI_add, nI_clamp, nI_subI, nI_sub1, nI_divL, vp_T, ge_F, ge_T, geL_F, geL_T, leL_F, leL_T, le0_F, le0_T, ge0_T, row_self, row_ne, row_l, row_p, row_row, wI_row, wI_same, wI_cell, wI_place, wI_l, wI_p, lt_T, lt_F, ltL_T, ltL_F, gtL_T, gtL_F, lt0_F, eq_T, eq_F, eqL_T, eqL_F, eqM_F, leM_F, nat_mod, i_10, i_01, i_m1, eq_self_iff_true, rw8_lt, up1_ne, up1_eq, wi_T, ite_self, tg_1, tg_68, tg_124, tg_177, tg_11, tg_17, tg_59, tg_78, tg_84, ln_7, ln_16, ln_233, ln_232, ln_6, true_and, and_true, not_true_eq_false, not_false_eq_true, false_implies, true_implies, implies_true, forall_const, forall_eq, if_true, if_false, false_and, and_false, h1]
      exact ih
  have l4 : ∀ k, k ≤ 8 → H_M_digest_127 d (dgF (fun k => (S.1 232 (117 + k)).toInt64) (dg3 (S.1 232) n L) k) (nI k) S Q := by
    refine up_to ?_ fun k hk ih => ?_
    · refine p_M_digest_127 ?_
      simp (disch := omega) only [lit_add, add_lit, lit_mul, mul_lit, nI_add, nI_clamp, nI_subI, nI_sub1, nI_divL, vp_T, ge_F, ge_T, geL_F, geL_T, leL_F, leL_T, le0_F, le0_T, ge0_T, row_self, row_ne, row_l, row_p, row_row, wI_row, wI_same, wI_cell, wI_place, wI_l, wI_p, lt_T, lt_F, ltL_T, ltL_F, gtL_T, gtL_F, lt0_F, eq_T, eq_F, eqL_T, eqL_F, eqM_F, leM_F, nat_mod, i_10, i_01, i_m1, eq_self_iff_true, rw8_lt, up1_ne, up1_eq, wi_T, ite_self, tg_1, tg_68, tg_124, tg_177, tg_11, tg_17, tg_59, tg_78, tg_84, ln_7, ln_16, ln_233, ln_232, ln_6, true_and, and_true, not_true_eq_false, not_false_eq_true, false_implies, true_implies, implies_true, forall_const, forall_eq, if_true, if_false, false_and, and_false]
      exact l5 0 (Nat.zero_le _)
    · refine p_M_digest_127 ?_
      simp (disch := omega) only [lit_add, add_lit, lit_mul, mul_lit, nI_add, nI_clamp, nI_subI, nI_sub1, nI_divL, vp_T, ge_F, ge_T, geL_F, geL_T, leL_F, leL_T, le0_F, le0_T, ge0_T, row_self, row_ne, row_l, row_p, row_row, wI_row, wI_same, wI_cell, wI_place, wI_l, wI_p, lt_T, lt_F, ltL_T, ltL_F, gtL_T, gtL_F, lt0_F, eq_T, eq_F, eqL_T, eqL_F, eqM_F, leM_F, nat_mod, i_10, i_01, i_m1, eq_self_iff_true, rw8_lt, up1_ne, up1_eq, wi_T, ite_self, tg_1, tg_68, tg_124, tg_177, tg_11, tg_17, tg_59, tg_78, tg_84, ln_7, ln_16, ln_233, ln_232, ln_6, true_and, and_true, not_true_eq_false, not_false_eq_true, false_implies, true_implies, implies_true, forall_const, forall_eq, if_true, if_false, false_and, and_false]
      exact ih
  have l3 : ∀ k, k ≤ 64 → H_M_digest_81 d (dgL (S.1 232) (dg2 (S.1 232) n L) k) (nI k) S Q := by
    refine up_to ?_ fun k hk ih => ?_
    · refine p_M_digest_81 ?_
      simp (disch := omega) only [lit_add, add_lit, lit_mul, mul_lit, nI_add, nI_clamp, nI_subI, nI_sub1, nI_divL, vp_T, ge_F, ge_T, geL_F, geL_T, leL_F, leL_T, le0_F, le0_T, ge0_T, row_self, row_ne, row_l, row_p, row_row, wI_row, wI_same, wI_cell, wI_place, wI_l, wI_p, lt_T, lt_F, ltL_T, ltL_F, gtL_T, gtL_F, lt0_F, eq_T, eq_F, eqL_T, eqL_F, eqM_F, leM_F, nat_mod, i_10, i_01, i_m1, eq_self_iff_true, rw8_lt, up1_ne, up1_eq, wi_T, ite_self, tg_1, tg_68, tg_124, tg_177, tg_11, tg_17, tg_59, tg_78, tg_84, ln_7, ln_16, ln_233, ln_232, ln_6, true_and, and_true, not_true_eq_false, not_false_eq_true, false_implies, true_implies, implies_true, forall_const, forall_eq, if_true, if_false, false_and, and_false]
      exact l4 0 (Nat.zero_le _)
    · refine p_M_digest_81 ?_
      rw [dgL] at ih
      simp (disch := omega) only [lit_add, add_lit, lit_mul, mul_lit, nI_add, nI_clamp, nI_subI, nI_sub1, nI_divL, vp_T, ge_F, ge_T, geL_F, geL_T, leL_F, leL_T, le0_F, le0_T, ge0_T, row_self, row_ne, row_l, row_p, row_row, wI_row, wI_same, wI_cell, wI_place, wI_l, wI_p, lt_T, lt_F, ltL_T, ltL_F, gtL_T, gtL_F, lt0_F, eq_T, eq_F, eqL_T, eqL_F, eqM_F, leM_F, nat_mod, i_10, i_01, i_m1, eq_self_iff_true, rw8_lt, up1_ne, up1_eq, wi_T, ite_self, tg_1, tg_68, tg_124, tg_177, tg_11, tg_17, tg_59, tg_78, tg_84, ln_7, ln_16, ln_233, ln_232, ln_6, true_and, and_true, not_true_eq_false, not_false_eq_true, false_implies, true_implies, implies_true, forall_const, forall_eq, if_true, if_false, false_and, and_false]
      by_cases z : k % 8 ≤ k / 8
      · rw [if_pos z] at ih
        rw [if_pos (nI_le z (by omega))]
        exact ih
      · rw [if_neg z] at ih
        rw [if_neg (nI_ge (by omega) (by omega))]
        exact ih
  have l2 : ∀ k, k ≤ 6 * n → H_M_digest_33 d (dgF (fun k => (S.1 232 (5 + 8 * (k % 6) + k / 6)).toInt64) (dg1 (S.1 232) n L) k) (nI k) S Q := by
    refine up_to ?_ fun k hk ih => ?_
    · refine p_M_digest_33 ?_
      simp (disch := omega) only [lit_add, add_lit, lit_mul, mul_lit, nI_add, nI_clamp, nI_subI, nI_sub1, nI_divL, vp_T, ge_F, ge_T, geL_F, geL_T, leL_F, leL_T, le0_F, le0_T, ge0_T, row_self, row_ne, row_l, row_p, row_row, wI_row, wI_same, wI_cell, wI_place, wI_l, wI_p, lt_T, lt_F, ltL_T, ltL_F, gtL_T, gtL_F, lt0_F, eq_T, eq_F, eqL_T, eqL_F, eqM_F, leM_F, nat_mod, i_10, i_01, i_m1, eq_self_iff_true, rw8_lt, up1_ne, up1_eq, wi_T, ite_self, tg_1, tg_68, tg_124, tg_177, tg_11, tg_17, tg_59, tg_78, tg_84, ln_7, ln_16, ln_233, ln_232, ln_6, true_and, and_true, not_true_eq_false, not_false_eq_true, false_implies, true_implies, implies_true, forall_const, forall_eq, if_true, if_false, false_and, and_false, h0]
      exact l3 0 (Nat.zero_le _)
    · refine p_M_digest_33 ?_
      simp (disch := omega) only [lit_add, add_lit, lit_mul, mul_lit, nI_add, nI_clamp, nI_subI, nI_sub1, nI_divL, vp_T, ge_F, ge_T, geL_F, geL_T, leL_F, leL_T, le0_F, le0_T, ge0_T, row_self, row_ne, row_l, row_p, row_row, wI_row, wI_same, wI_cell, wI_place, wI_l, wI_p, lt_T, lt_F, ltL_T, ltL_F, gtL_T, gtL_F, lt0_F, eq_T, eq_F, eqL_T, eqL_F, eqM_F, leM_F, nat_mod, i_10, i_01, i_m1, eq_self_iff_true, rw8_lt, up1_ne, up1_eq, wi_T, ite_self, tg_1, tg_68, tg_124, tg_177, tg_11, tg_17, tg_59, tg_78, tg_84, ln_7, ln_16, ln_233, ln_232, ln_6, true_and, and_true, not_true_eq_false, not_false_eq_true, false_implies, true_implies, implies_true, forall_const, forall_eq, if_true, if_false, false_and, and_false, h0]
      exact ih
  have cv : ∀ k, k < 7 → f_M_countOf S (nI k) = cnA (S.1 232) n L k := fun k hk => by
    have : k = 0 ∨ k = 1 ∨ k = 2 ∨ k = 3 ∨ k = 4 ∨ k = 5 ∨ k = 6 := by omega
    unfold f_M_countOf cnA
    rw [h0, nI_clamp (by omega), openM hn n (Nat.le_refl n)]
    rcases this with rfl | rfl | rfl | rfl | rfl | rfl | rfl <;> simp (disch := omega) only [lit_add, add_lit, lit_mul, mul_lit, nI_add, nI_clamp, nI_subI, nI_sub1, nI_divL, vp_T, ge_F, ge_T, geL_F, geL_T, leL_F, leL_T, le0_F, le0_T, ge0_T, row_self, row_ne, row_l, row_p, row_row, wI_row, wI_same, wI_cell, wI_place, wI_l, wI_p, lt_T, lt_F, ltL_T, ltL_F, gtL_T, gtL_F, lt0_F, eq_T, eq_F, eqL_T, eqL_F, eqM_F, leM_F, nat_mod, i_10, i_01, i_m1, eq_self_iff_true, rw8_lt, up1_ne, up1_eq, wi_T, ite_self, tg_1, tg_68, tg_124, tg_177, tg_11, tg_17, tg_59, tg_78, tg_84, ln_7, ln_16, ln_233, ln_232, ln_6, true_and, and_true, not_true_eq_false, not_false_eq_true, false_implies, true_implies, implies_true, forall_const, forall_eq, if_true, if_false, false_and, and_false, hl] <;> rfl
  have l1 : ∀ k, k ≤ 7 → H_M_digest_6 d (dgF (fun k => (cnA (S.1 232) n L k).toInt64) 1069 k) (nI k) S Q := by
    refine up_to ?_ fun k hk ih => ?_
    · refine p_M_digest_6 ?_
      simp (disch := omega) only [lit_add, add_lit, lit_mul, mul_lit, nI_add, nI_clamp, nI_subI, nI_sub1, nI_divL, vp_T, ge_F, ge_T, geL_F, geL_T, leL_F, leL_T, le0_F, le0_T, ge0_T, row_self, row_ne, row_l, row_p, row_row, wI_row, wI_same, wI_cell, wI_place, wI_l, wI_p, lt_T, lt_F, ltL_T, ltL_F, gtL_T, gtL_F, lt0_F, eq_T, eq_F, eqL_T, eqL_F, eqM_F, leM_F, nat_mod, i_10, i_01, i_m1, eq_self_iff_true, rw8_lt, up1_ne, up1_eq, wi_T, ite_self, tg_1, tg_68, tg_124, tg_177, tg_11, tg_17, tg_59, tg_78, tg_84, ln_7, ln_16, ln_233, ln_232, ln_6, true_and, and_true, not_true_eq_false, not_false_eq_true, false_implies, true_implies, implies_true, forall_const, forall_eq, if_true, if_false, false_and, and_false]
      exact l2 0 (Nat.zero_le _)
    · refine p_M_digest_6 ?_
      simp (disch := omega) only [lit_add, add_lit, lit_mul, mul_lit, nI_add, nI_clamp, nI_subI, nI_sub1, nI_divL, vp_T, ge_F, ge_T, geL_F, geL_T, leL_F, leL_T, le0_F, le0_T, ge0_T, row_self, row_ne, row_l, row_p, row_row, wI_row, wI_same, wI_cell, wI_place, wI_l, wI_p, lt_T, lt_F, ltL_T, ltL_F, gtL_T, gtL_F, lt0_F, eq_T, eq_F, eqL_T, eqL_F, eqM_F, leM_F, nat_mod, i_10, i_01, i_m1, eq_self_iff_true, rw8_lt, up1_ne, up1_eq, wi_T, ite_self, tg_1, tg_68, tg_124, tg_177, tg_11, tg_17, tg_59, tg_78, tg_84, ln_7, ln_16, ln_233, ln_232, ln_6, true_and, and_true, not_true_eq_false, not_false_eq_true, false_implies, true_implies, implies_true, forall_const, forall_eq, if_true, if_false, false_and, and_false, cv, h0]
      exact ih
  exact l1 0 (Nat.zero_le _)
theorem dg_6 {f : Nat → Int64} {h : Int64} {i : Nat} : dgF f h (6 * (i + 1)) = f_X_mix (f_X_mix (f_X_mix (f_X_mix (f_X_mix (f_X_mix (dgF f h (6 * i)) (f (6 * i))) (f (6 * i + 1))) (f (6 * i + 2))) (f (6 * i + 3))) (f (6 * i + 4))) (f (6 * i + 5)) := by
  rw [show 6 * (i + 1) = 6 * i + 1 + 1 + 1 + 1 + 1 + 1 by omega, dgF, dgF, dgF, dgF, dgF, dgF]; rfl
theorem dg_3 {f : Nat → Int64} {h : Int64} {i : Nat} : dgF f h (3 * (i + 1)) = f_X_mix (f_X_mix (f_X_mix (dgF f h (3 * i)) (f (3 * i))) (f (3 * i + 1))) (f (3 * i + 2)) := by
  rw [show 3 * (i + 1) = 3 * i + 1 + 1 + 1 by omega, dgF, dgF, dgF]; rfl
theorem dg_5 {f : Nat → Int64} {h : Int64} {i : Nat} : dgF f h (5 * (i + 1)) = f_X_mix (f_X_mix (f_X_mix (f_X_mix (f_X_mix (dgF f h (5 * i)) (f (5 * i))) (f (5 * i + 1))) (f (5 * i + 2))) (f (5 * i + 3))) (f (5 * i + 4)) := by
  rw [show 5 * (i + 1) = 5 * i + 1 + 1 + 1 + 1 + 1 by omega, dgF, dgF, dgF, dgF, dgF]; rfl
theorem mixS {T : fm_S} {h : Int64} (hR : RS T 1 A n m) (hD : RD T 17 (ow A) n) (hn : n ≤ 8) : ∀ i, i ≤ n → n_Town_mixStreets T 1 h i = dgF (fun k => (A (5 + 8 * (k % 6) + k / 6)).toInt64) h (6 * i)
  | 0, _ => rfl
  | i + 1, hi => by
    rw [n_Town_mixStreets, dg_6, mixS hR hD hn i (by omega), nI_clamp (by omega)]
    rw [hR.2.2.1 i (by omega), hR.2.2.2.1 i (by omega), hR.2.2.2.2.1 i (by omega)]
    rw [show T.1 (1 + 16 + 1) i = A (29 + i) by rw [show T.1 (1 + 16 + 1) i = ow A (1 + i) from hD.2.1 i (by omega), ow_1], show T.1 (1 + 16 + 2) i = A (37 + i) by rw [show T.1 (1 + 16 + 2) i = ow A (9 + i) from hD.2.2.1 i (by omega), ow_2], show T.1 (1 + 16 + 3) i = A (45 + i) by rw [show T.1 (1 + 16 + 3) i = ow A (17 + i) from hD.2.2.2.1 i (by omega), ow_3]]
    rw [show 5 + 8 * ((6 * i) % 6) + (6 * i) / 6 = 5 + i by omega, show 5 + 8 * ((6 * i + 1) % 6) + (6 * i + 1) / 6 = 13 + i by omega, show 5 + 8 * ((6 * i + 2) % 6) + (6 * i + 2) / 6 = 21 + i by omega, show 5 + 8 * ((6 * i + 3) % 6) + (6 * i + 3) / 6 = 29 + i by omega, show 5 + 8 * ((6 * i + 4) % 6) + (6 * i + 4) / 6 = 37 + i by omega, show 5 + 8 * ((6 * i + 5) % 6) + (6 * i + 5) / 6 = 45 + i by omega]
theorem mixD {T : fm_S} {h : Int64} (hR : RS T 1 A n m) (hm : m ≤ 6) : ∀ i, i ≤ m → n_Town_mixDishes T 1 h i = dgF (fun k => (A (125 + 6 * (k % 3) + k / 3)).toInt64) h (3 * i)
  | 0, _ => rfl
  | i + 1, hi => by
    rw [n_Town_mixDishes, dg_3, mixD hR hm i (by omega), nI_clamp (by omega)]
    rw [hR.2.2.2.2.2.2.2.2.1 i (by omega), hR.2.2.2.2.2.2.2.2.2.1 i (by omega), hR.2.2.2.2.2.2.2.2.2.2 i (by omega)]
    rw [show 125 + 6 * ((3 * i) % 3) + (3 * i) / 3 = 125 + i by omega, show 125 + 6 * ((3 * i + 1) % 3) + (3 * i + 1) / 3 = 131 + i by omega, show 125 + 6 * ((3 * i + 2) % 3) + (3 * i + 2) / 3 = 137 + i by omega]
theorem mixN {T : fm_S} {h : Int64} (hR : RN T 1 A q) : ∀ i, i ≤ q → n_Notes_mixNotes T 11 h i = dgF (fun k => (A (143 + 6 * (k % 5) + k / 5)).toInt64) h (5 * i)
  | 0, _ => rfl
  | i + 1, hi => by
    obtain ⟨q0, q1, q2, n1, n2, n3, n4, n5⟩ := hR
    rw [n_Notes_mixNotes, dg_5, mixN ⟨q0, q1, q2, n1, n2, n3, n4, n5⟩ i (by omega), nI_clamp (by omega)]
    rw [show T.1 (11 + 1) i = A (143 + i) from n1 i (by omega), show T.1 (11 + 2) i = A (149 + i) from n2 i (by omega), show T.1 (11 + 3) i = A (155 + i) from n3 i (by omega), show T.1 (11 + 4) i = A (161 + i) from n4 i (by omega), show T.1 (11 + 5) i = A (167 + i) from n5 i (by omega)]
    rw [show 143 + 6 * ((5 * i) % 5) + (5 * i) / 5 = 143 + i by omega, show 143 + 6 * ((5 * i + 1) % 5) + (5 * i + 1) / 5 = 149 + i by omega, show 143 + 6 * ((5 * i + 2) % 5) + (5 * i + 2) / 5 = 155 + i by omega, show 143 + 6 * ((5 * i + 3) % 5) + (5 * i + 3) / 5 = 161 + i by omega, show 143 + 6 * ((5 * i + 4) % 5) + (5 * i + 4) / 5 = 167 + i by omega]
theorem dgL_skip {h : Int64} {a : Nat} (ha : a < 8) : ∀ b, b ≤ a + 1 → dgL A h (8 * a + b) = dgL A h (8 * a)
  | 0, _ => rfl
  | b + 1, hb => by
    rw [show 8 * a + (b + 1) = (8 * a + b) + 1 by omega, dgL, if_pos (by omega)]
    exact dgL_skip ha b (by omega)
theorem s_xlanes {Q : Int64 → fm_S → Prop} {T : fm_S} {h : Int64} (hR : RS T 1 A n m) (W : Q (dgL A h 64) T) : am_Ps vL (d + 2) k_Town_mixLanes [.ref 1, .long h] T Q := by
  have rl := hR.2.2.2.2.2.1
  refine e_Town_mixLanes ?_
  have key : ∀ a, a ≤ 8 → ∀ o4, H_Town_mixLanes_2 d 1 (dgL A h (8 * a)) (nI a) o4 T Q := by
    refine up_to (fun o4 => ?_) fun a ha ih o4 => ?_
    · refine p_Town_mixLanes_2 ?_
      simp (disch := omega) only [lit_add, add_lit, lit_mul, mul_lit, nI_add, nI_clamp, nI_subI, nI_sub1, nI_divL, vp_T, ge_F, ge_T, geL_F, geL_T, leL_F, leL_T, le0_F, le0_T, ge0_T, row_self, row_ne, row_l, row_p, row_row, wI_row, wI_same, wI_cell, wI_place, wI_l, wI_p, lt_T, lt_F, ltL_T, ltL_F, gtL_T, gtL_F, lt0_F, eq_T, eq_F, eqL_T, eqL_F, eqM_F, leM_F, nat_mod, i_10, i_01, i_m1, eq_self_iff_true, rw8_lt, up1_ne, up1_eq, wi_T, ite_self, tg_1, tg_68, tg_124, tg_177, tg_11, tg_17, tg_59, tg_78, tg_84, ln_7, ln_16, ln_233, ln_232, ln_6, true_and, and_true, not_true_eq_false, not_false_eq_true, false_implies, true_implies, implies_true, forall_const, forall_eq, if_true, if_false, false_and, and_false]
      exact W
    · refine p_Town_mixLanes_2 ?_
      simp (disch := omega) only [lit_add, add_lit, lit_mul, mul_lit, nI_add, nI_clamp, nI_subI, nI_sub1, nI_divL, vp_T, ge_F, ge_T, geL_F, geL_T, leL_F, leL_T, le0_F, le0_T, ge0_T, row_self, row_ne, row_l, row_p, row_row, wI_row, wI_same, wI_cell, wI_place, wI_l, wI_p, lt_T, lt_F, ltL_T, ltL_F, gtL_T, gtL_F, lt0_F, eq_T, eq_F, eqL_T, eqL_F, eqM_F, leM_F, nat_mod, i_10, i_01, i_m1, eq_self_iff_true, rw8_lt, up1_ne, up1_eq, wi_T, ite_self, tg_1, tg_68, tg_124, tg_177, tg_11, tg_17, tg_59, tg_78, tg_84, ln_7, ln_16, ln_233, ln_232, ln_6, true_and, and_true, not_true_eq_false, not_false_eq_true, false_implies, true_implies, implies_true, forall_const, forall_eq, if_true, if_false, false_and, and_false]
      have loop : ∀ b, b ≤ 8 → a + 1 ≤ b → H_Town_mixLanes_13 d 1 (dgL A h (8 * a + b)) (nI a) (nI b) T Q := by
        refine up_to (fun _ => ?_) fun b hb ih2 hab => ?_
        · refine p_Town_mixLanes_13 ?_
          simp (disch := omega) only [lit_add, add_lit, lit_mul, mul_lit, nI_add, nI_clamp, nI_subI, nI_sub1, nI_divL, vp_T, ge_F, ge_T, geL_F, geL_T, leL_F, leL_T, le0_F, le0_T, ge0_T, row_self, row_ne, row_l, row_p, row_row, wI_row, wI_same, wI_cell, wI_place, wI_l, wI_p, lt_T, lt_F, ltL_T, ltL_F, gtL_T, gtL_F, lt0_F, eq_T, eq_F, eqL_T, eqL_F, eqM_F, leM_F, nat_mod, i_10, i_01, i_m1, eq_self_iff_true, rw8_lt, up1_ne, up1_eq, wi_T, ite_self, tg_1, tg_68, tg_124, tg_177, tg_11, tg_17, tg_59, tg_78, tg_84, ln_7, ln_16, ln_233, ln_232, ln_6, true_and, and_true, not_true_eq_false, not_false_eq_true, false_implies, true_implies, implies_true, forall_const, forall_eq, if_true, if_false, false_and, and_false]
          exact ih _
        · have z := ih2 (by omega)
          rw [show 8 * a + (b + 1) = (8 * a + b) + 1 by omega, dgL, if_neg (by omega)] at z
          have hl := rl a b (by omega) (by omega)
          refine p_Town_mixLanes_13 ?_
          unfold f_Town_hasLane
          simp (disch := omega) only [lit_add, add_lit, lit_mul, mul_lit, nI_add, nI_clamp, nI_subI, nI_sub1, nI_divL, vp_T, ge_F, ge_T, geL_F, geL_T, leL_F, leL_T, le0_F, le0_T, ge0_T, row_self, row_ne, row_l, row_p, row_row, wI_row, wI_same, wI_cell, wI_place, wI_l, wI_p, lt_T, lt_F, ltL_T, ltL_F, gtL_T, gtL_F, lt0_F, eq_T, eq_F, eqL_T, eqL_F, eqM_F, leM_F, nat_mod, i_10, i_01, i_m1, eq_self_iff_true, rw8_lt, up1_ne, up1_eq, wi_T, ite_self, tg_1, tg_68, tg_124, tg_177, tg_11, tg_17, tg_59, tg_78, tg_84, ln_7, ln_16, ln_233, ln_232, ln_6, true_and, and_true, not_true_eq_false, not_false_eq_true, false_implies, true_implies, implies_true, forall_const, forall_eq, if_true, if_false, false_and, and_false]
          rw [hl]
          have e : (if A (53 + (8 * a + b)) = 0 then (0 : Int64) else 1) = (A (53 + (8 * a + b))).toInt64 := by
            rw [← hl]
            rcases fb_X_has (T.1 (1 + 4) a) (nI b) with w | w
            · rw [w]; decide
            · rw [w]; decide
          rw [e]
          exact z
      have z := loop (a + 1) (by omega) (Nat.le_refl _)
      rw [dgL_skip ha (a + 1) (Nat.le_refl _)] at z
      exact z
  exact key 0 (by omega) _
theorem s_xmixAll {Q : Int64 → fm_S → Prop} {T : fm_S} {h : Int64} {c b : Nat} {f : Nat → Int64} (hc : fm_tg c = 100) (hl : fm_ln c = 4) (hf : ∀ k, k < 4 → (T.1 c k).toInt64 = f (b + k)) (W : Q (dgF f h (b + 4)) T) :
    am_Ps vL (d + 2) k_X_mixAll [.long (dgF f h b), .ref c] T Q := by
  refine e_X_mixAll ?_
  have key : ∀ k, k ≤ 4 → am_Po vL (d + 1 + 1) k_X_mixAll 2 [some (.long (dgF f h (b + k))), none, some (.ref c), some (.int (nI k))] [] T Q := by
    refine up_to ?_ fun k hk ih => ?_
    · refine p_X_mixAll_2 ?_
      rw [hl]
      exact ⟨hc, fun _ => W, fun z => absurd (by decide) z⟩
    · refine p_X_mixAll_2 ?_
      rw [hl]
      refine ⟨hc, fun z => absurd z (nI_ge (b := 4) hk (by decide)), fun _ => ⟨vp_in_nI hk (by decide), ?_⟩⟩
      rw [nI_clamp (by omega), nI_s, hf k hk]
      exact ih
  exact key 0 (by omega)
theorem s_xdigest {Q : Int64 → fm_S → Prop} (hR : RS S 1 A n m) (hD : RD S 17 (ow A) n) (hN : RN S 1 A q) (hn : n ≤ 8) (hm : m ≤ 6) (hL : L ≤ 150) (h0 : A 0 = nI n) (h1 : A 1 = nI m) (h14 : S.1 1 14 = A 3) (hl : S.1 67 0 = nI L)
    (W : Q (31 * (31 * dg6 A n m q L + S.2.1 122 0) + S.2.1 122 1) S) :
    am_Ps vL (d + 3) k_X_digest [.ref 0] S Q := by
  have r0 : S.1 1 0 = nI n := hR.1
  have r7 : S.1 1 7 = nI m := hR.2.1
  have hq := hN.1
  have q2 : S.1 11 0 = nI q := hN.2.2.1
  have d0 : S.1 17 0 = A 4 := hD.1
  have cv : ∀ k, k < 7 → f_X_count S (nI k) = cnA A n L k ∧ g_X_count S (nI k) = S := fun k hk => by
    have : k = 0 ∨ k = 1 ∨ k = 2 ∨ k = 3 ∨ k = 4 ∨ k = 5 ∨ k = 6 := by omega
    unfold f_X_count g_X_count cnA
    rw [r0, r7, nI_clamp (by omega), openX hD hn n (Nat.le_refl n)]
    rcases this with rfl | rfl | rfl | rfl | rfl | rfl | rfl <;> simp (disch := omega) only [lit_add, add_lit, lit_mul, mul_lit, nI_add, nI_clamp, nI_subI, nI_sub1, nI_divL, vp_T, ge_F, ge_T, geL_F, geL_T, leL_F, leL_T, le0_F, le0_T, ge0_T, row_self, row_ne, row_l, row_p, row_row, wI_row, wI_same, wI_cell, wI_place, wI_l, wI_p, lt_T, lt_F, ltL_T, ltL_F, gtL_T, gtL_F, lt0_F, eq_T, eq_F, eqL_T, eqL_F, eqM_F, leM_F, nat_mod, i_10, i_01, i_m1, eq_self_iff_true, rw8_lt, up1_ne, up1_eq, wi_T, ite_self, tg_1, tg_68, tg_124, tg_177, tg_11, tg_17, tg_59, tg_78, tg_84, ln_7, ln_16, ln_233, ln_232, ln_6, true_and, and_true, not_true_eq_false, not_false_eq_true, false_implies, true_implies, implies_true, forall_const, forall_eq, if_true, if_false, false_and, and_false, hl, h0, h1, h14, d0, q2, hN.2.1] <;> simp
  refine e_X_digest ?_
  have l1 : ∀ k, k ≤ 7 → H_X_digest_6 d (dgF (fun k => (cnA A n L k).toInt64) 1069 k) (nI k) S Q := by
    refine up_to ?_ fun k hk ih => ?_
    · refine p_X_digest_6 ⟨fun _ => ?_, fun z => absurd (by decide) z⟩
      rw [r0, nI_clamp (by omega), mixS hR hD hn n (Nat.le_refl n)]
      refine ⟨vp_in_nI (by omega) (by decide), ?_⟩
      refine s_xlanes hR ?_
      refine s_xmixAll (b := 0) (f := fun k => (A (117 + k)).toInt64) (by decide +kernel) (by decide +kernel) (fun k hk => by rw [Nat.zero_add]; exact congrArg _ (hR.2.2.2.2.2.2.1 k hk)) ?_
      refine s_xmixAll (b := 4) (f := fun k => (A (117 + k)).toInt64) (by decide +kernel) (by decide +kernel) (fun k hk => by rw [show 117 + (4 + k) = 121 + k by omega]; exact congrArg _ (hR.2.2.2.2.2.2.2.1 k hk)) ?_
      rw [r7, q2, nI_clamp (n := m) (by omega), nI_clamp (n := q) (by omega), mixD hR hm m (Nat.le_refl m), mixN hN q (Nat.le_refl q)]
      exact ⟨vp_in_nI (by omega) (by decide), vp_in_nI (by omega) (by decide), W⟩
    · have e := cv k hk
      refine p_X_digest_6 ?_
      simp (disch := omega) only [lit_add, add_lit, lit_mul, mul_lit, nI_add, nI_clamp, nI_subI, nI_sub1, nI_divL, vp_T, ge_F, ge_T, geL_F, geL_T, leL_F, leL_T, le0_F, le0_T, ge0_T, row_self, row_ne, row_l, row_p, row_row, wI_row, wI_same, wI_cell, wI_place, wI_l, wI_p, lt_T, lt_F, ltL_T, ltL_F, gtL_T, gtL_F, lt0_F, eq_T, eq_F, eqL_T, eqL_F, eqM_F, leM_F, nat_mod, i_10, i_01, i_m1, eq_self_iff_true, rw8_lt, up1_ne, up1_eq, wi_T, ite_self, tg_1, tg_68, tg_124, tg_177, tg_11, tg_17, tg_59, tg_78, tg_84, ln_7, ln_16, ln_233, ln_232, ln_6, true_and, and_true, not_true_eq_false, not_false_eq_true, false_implies, true_implies, implies_true, forall_const, forall_eq, if_true, if_false, false_and, and_false, e.1, e.2, r0]
      exact ih
  exact l1 0 (by omega)
end DIGEST
