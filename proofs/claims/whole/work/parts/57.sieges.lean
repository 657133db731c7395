/-! sieges -/
/-- the drawn numbers -/
def lc (x : Nat) : Nat := (x * 1103515245 + 12345) % 2147483648
theorem lc_lt (x : Nat) : lc x < 2147483648 := Nat.mod_lt _ (by decide)
theorem lc_L {x : Nat} (hx : x < 2147483648) : (lN x * 1103515245 + 12345) - (lN x * 1103515245 + 12345) / 2147483648 * 2147483648 = lN (lc x) := by
  rw [show (1103515245 : Int64) = lN 1103515245 from rfl, show (12345 : Int64) = lN 12345 from rfl, show (2147483648 : Int64) = lN 2147483648 from rfl, lN_mul, lN_add]
  exact pk_lRem (by omega) (by decide) (by decide)
theorem lc_D {x : Nat} (hx : x < 2147483648) : ((lN x / 65536) - (lN x / 65536) / 7 * 7).toInt32 = nI (x / 65536 % 7) := by
  rw [show (65536 : Int64) = lN 65536 from rfl, show (7 : Int64) = lN 7 from rfl, pk_lDiv (by omega) (by decide) (by decide), pk_lRem (by omega) (by decide) (by decide)]
  exact lN_i _
/-- the array behind k drawn days -/
def sgx (seed : Nat) : Nat → Nat
  | 0 => seed
  | k + 1 => lc (sgx seed k)
def sgA (A : Nat → Int32) (n m seed : Nat) : Nat → Nat → Int32
  | 0 => A
  | k + 1 => if sgx seed (k + 1) / 65536 % 7 < m then dayA (sgA A n m seed k) n (sgx seed (k + 1) / 65536 % 7) else day0 (sgA A n m seed k) n
def opn (A : Nat → Int32) : Nat → Int32
  | 0 => 0
  | x + 1 => if A (29 + x) = -1 then opn A x else opn A x + 1
section SIEGES
variable {d n m y : Nat} {S : fm_S} {A : Nat → Int32}
theorem sgx_lt {seed : Nat} (hs : seed < 2147483648) : ∀ k, sgx seed k < 2147483648
  | 0 => hs
  | k + 1 => lc_lt _
theorem sgA_st {seed : Nat} (hn : n ≤ 8) : ∀ k, stE A (sgA A n m seed k)
  | 0 => stE_id A
  | k + 1 => by
    rw [sgA]
    split
    · exact stE_gd hn (sgA_st hn k)
    · exact stE_gd hn (sgA_st hn k)
theorem sgA_4 {seed : Nat} (hy : A 4 = nI y) : ∀ k, sgA A n m seed k 4 = nI (y + k)
  | 0 => hy
  | k + 1 => by
    rw [sgA]
    split
    · unfold dayA gdA
      rw [up1_eq, sgA_4 hy k, nI_s]; rfl
    · unfold day0 gdA
      rw [up1_eq, sgA_4 hy k, nI_s]; rfl
theorem isDish_F {S : fm_S} {e m : Nat} (h1 : S.1 232 1 = nI m) (hm : m < 1000) (he : e < 1000) (hd : ¬ e < m) : f_M_isDish S (nI e) = 0 := by rw [isDish_n h1, wi_str (by omega) (by omega), if_neg hd]
theorem openM {T : fm_S} (hn : n ≤ 8) : ∀ i, i ≤ n → n_M_openMany T i = opn (T.1 232) i
  | 0, _ => rfl
  | i + 1, hi => by
    rw [n_M_openMany, opn, openM hn i (by omega)]
    simp (disch := omega) only [lit_add, add_lit, lit_mul, mul_lit, nI_add, nI_clamp, nI_subI, nI_sub1, nI_divL, vp_T, ge_F, ge_T, geL_F, geL_T, leL_F, leL_T, le0_F, le0_T, ge0_T, row_self, row_ne, row_l, row_p, row_row, wI_row, wI_same, wI_cell, wI_place, wI_l, wI_p, lt_T, lt_F, ltL_T, ltL_F, gtL_T, gtL_F, lt0_F, eq_T, eq_F, eqL_T, eqL_F, eqM_F, leM_F, nat_mod, i_10, i_01, i_m1, eq_self_iff_true, rw8_lt, up1_ne, up1_eq, wi_T, ite_self, tg_1, tg_68, tg_124, tg_177, tg_11, tg_17, tg_59, tg_78, tg_84, ln_7, ln_16, ln_233, ln_232, ln_6, true_and, and_true, not_true_eq_false, not_false_eq_true, false_implies, true_implies, implies_true, forall_const, forall_eq, if_true, if_false, false_and, and_false]
    split
    · exact Int32.add_zero _
    · rfl
theorem s_msieges {Q : Int32 → fm_S → Prop} {seed K : Nat} (c : MX S n m y) (hs : seed < 2147483648) (hK : K ≤ 60)
    (W : ∀ S', ex 238 242 S S' → Q (opn (sgA (S.1 232) n m seed K) n) S') :
    H_M_sieges_48 d (nI seed) (nI K) (lN seed) 0 (g_past S 232 239 0 0) Q := by
  obtain ⟨hW, hy, hyb⟩ := c
  have hn := hW.1
  have hm6 := hW.2.1
  have key : ∀ k, k ≤ K → ∀ S', frM S S' → S'.1 232 = sgA (S.1 232) n m seed k → H_M_sieges_48 d (nI seed) (nI K) (lN (sgx seed k)) (nI k) S' Q := by
    refine up_to (fun S' hS hA => ?_) fun k hk ih S' hS hA => ?_
    · have hE : stE (S.1 232) (S'.1 232) := by rw [hA]; exact sgA_st hn K
      have h0 : S'.1 232 0 = nI n := by rw [hE 0 (by omega) (by omega)]; exact hW.2.2.1
      refine p_M_sieges_48 ?_
      simp (disch := omega) only [lit_add, add_lit, lit_mul, mul_lit, nI_add, nI_clamp, nI_subI, nI_sub1, nI_divL, vp_T, ge_F, ge_T, geL_F, geL_T, leL_F, leL_T, le0_F, le0_T, ge0_T, row_self, row_ne, row_l, row_p, row_row, wI_row, wI_same, wI_cell, wI_place, wI_l, wI_p, lt_T, lt_F, ltL_T, ltL_F, gtL_T, gtL_F, lt0_F, eq_T, eq_F, eqL_T, eqL_F, eqM_F, leM_F, nat_mod, i_10, i_01, i_m1, eq_self_iff_true, rw8_lt, up1_ne, up1_eq, wi_T, ite_self, tg_1, tg_68, tg_124, tg_177, tg_11, tg_17, tg_59, tg_78, tg_84, ln_7, ln_16, ln_233, ln_232, ln_6, true_and, and_true, not_true_eq_false, not_false_eq_true, false_implies, true_implies, implies_true, forall_const, forall_eq, if_true, if_false, false_and, and_false, h0, openM hn n (Nat.le_refl n), hA]
      exact W _ (ex_mono (frM_e hS hE) (by decide) (by decide))
    · have hx := sgx_lt hs k
      have hx2 := lc_lt (sgx seed k)
      have hE : stE (S.1 232) (S'.1 232) := by rw [hA]; exact sgA_st hn k
      have h1' : S'.1 232 1 = nI m := by rw [hE 1 (by omega) (by omega)]; exact hW.2.2.2.1
      refine p_M_sieges_48 ?_
      rw [lc_L hx, lc_D hx2]
      simp (disch := omega) only [lit_add, add_lit, lit_mul, mul_lit, nI_add, nI_clamp, nI_subI, nI_sub1, nI_divL, vp_T, ge_F, ge_T, geL_F, geL_T, leL_F, leL_T, le0_F, le0_T, ge0_T, row_self, row_ne, row_l, row_p, row_row, wI_row, wI_same, wI_cell, wI_place, wI_l, wI_p, lt_T, lt_F, ltL_T, ltL_F, gtL_T, gtL_F, lt0_F, eq_T, eq_F, eqL_T, eqL_F, eqM_F, leM_F, nat_mod, i_10, i_01, i_m1, eq_self_iff_true, rw8_lt, up1_ne, up1_eq, wi_T, ite_self, tg_1, tg_68, tg_124, tg_177, tg_11, tg_17, tg_59, tg_78, tg_84, ln_7, ln_16, ln_233, ln_232, ln_6, true_and, and_true, not_true_eq_false, not_false_eq_true, false_implies, true_implies, implies_true, forall_const, forall_eq, if_true, if_false, false_and, and_false]
      by_cases q : lc (sgx seed k) / 65536 % 7 < m
      · refine s_mgd (y := y + k) (WS_st hE hW) (by rw [hA]; exact sgA_4 hy k) (by omega) q fun v => ?_
        refine ih _ (frM_d hS) ?_
        rw [show (fm_row (fm_row S' 238 v) 232 (dayA (S'.1 232) n (lc (sgx seed k) / 65536 % 7))).1 232 = dayA (S'.1 232) n (lc (sgx seed k) / 65536 % 7) from funext fun j => row_self, hA, sgA, if_pos (show sgx seed (k + 1) / 65536 % 7 < m from q)]; rfl
      · refine s_mgd0 (WS_st hE hW) (isDish_F h1' (by omega) (by omega) q) ?_
        refine ih _ (frM_c hS) ?_
        rw [show (fm_row S' 232 (day0 (S'.1 232) n)).1 232 = day0 (S'.1 232) n from funext fun j => row_self, hA, sgA, if_neg (show ¬ sgx seed (k + 1) / 65536 % 7 < m from q)]
  exact key 0 (Nat.zero_le _) _ frM_0 (m_sv.2.1 232 (by decide))
theorem openX {T : fm_S} {a : Nat} (hD : RD T a (ow A) n) (hn : n ≤ 8) : ∀ i, i ≤ n → n_open T a i = opn A i
  | 0, _ => rfl
  | i + 1, hi => by
    rw [n_open, opn, openX hD hn i (by omega)]
    unfold f_Days_isShut
    rw [nI_clamp (by omega), hD.2.1 i (by omega), ow_1]
    by_cases q : A (29 + i) = -1 <;> simp [q]
/-- days copied -/
theorem cp_self {S : fm_S} {a b k j : Nat} (h : j < k) : (fm_cp S b 0 a 0 k).1 a j = S.1 b j := by
  show (if a = a ∧ 0 ≤ j ∧ j < 0 + k then S.1 b (0 + (j - 0)) else S.1 a j) = _
  rw [if_pos (by omega), show 0 + (j - 0) = j by omega]
theorem cp_ne {S : fm_S} {a b k sp dp c : Nat} (h : c ≠ a) : (fm_cp S b sp a dp k).1 c = S.1 c := by
  funext j
  show (if c = a ∧ dp ≤ j ∧ j < dp + k then S.1 b (sp + (j - dp)) else S.1 c j) = _
  rw [if_neg (by omega)]
theorem wI_ce {S : fm_S} {a i c : Nat} {x : Int32} (h : c ≠ a) : (fm_wI S a i x).1 c = S.1 c := funext fun _ => wI_cell h
theorem dc_0 {S : fm_S} {a b : Nat} : (g_Days_copy S a b).1 a 0 = S.1 b 0 := by
  unfold g_Days_copy
  rw [cp_ne (by omega), cp_ne (by omega), cp_ne (by omega), wI_same]
theorem dc_1 {S : fm_S} {a b k : Nat} (hd : a + 3 < b ∨ b + 3 < a) (hk : k < 8) : (g_Days_copy S a b).1 (a + 1) k = S.1 (b + 1) k := by
  unfold g_Days_copy
  rw [cp_ne (by omega), cp_ne (by omega), cp_self hk, wI_ce (by omega)]
theorem dc_2 {S : fm_S} {a b k : Nat} (hd : a + 3 < b ∨ b + 3 < a) (hk : k < 8) : (g_Days_copy S a b).1 (a + 2) k = S.1 (b + 2) k := by
  unfold g_Days_copy
  rw [cp_ne (by omega), cp_self hk, cp_ne (by omega), wI_ce (by omega)]
theorem dc_3 {S : fm_S} {a b k : Nat} (hd : a + 3 < b ∨ b + 3 < a) (hk : k < 8) : (g_Days_copy S a b).1 (a + 3) k = S.1 (b + 3) k := by
  unfold g_Days_copy
  rw [cp_self hk, cp_ne (by omega), cp_ne (by omega), wI_ce (by omega)]
theorem dc_RD {S : fm_S} {a b k : Nat} {f : Nat → Int32} (h : RD S b f k) (hk : k ≤ 8) (hd : a + 3 < b ∨ b + 3 < a) : RD (g_Days_copy S a b) a f k := by
  obtain ⟨d0, d1, d2, d3, d4⟩ := h
  refine ⟨by rw [dc_0]; exact d0, fun j hj => ?_, fun j hj => ?_, fun j hj => ?_, fun j h1 h2 => ?_⟩
  · rw [dc_1 hd (by omega)]; exact d1 j hj
  · rw [dc_2 hd (by omega)]; exact d2 j hj
  · rw [dc_3 hd (by omega)]; exact d3 j hj
  · rw [dc_1 hd h2, dc_2 hd h2, dc_3 hd h2]; exact d4 j h1 h2
theorem dc_fr {S : fm_S} {a b c : Nat} (h : c < a ∨ a + 3 < c) : (g_Days_copy S a b).1 c = S.1 c := by
  unfold g_Days_copy
  rw [cp_ne (by omega), cp_ne (by omega), cp_ne (by omega), wI_ce (by omega)]
theorem s_xsieges {Q : Int32 → fm_S → Prop} {seed K : Nat} (c : CX S A n m y) (hs : seed < 2147483648) (hK : K ≤ 60)
    (W : ∀ S', ex 54 66 S S' → Q (opn (sgA A n m seed K) n) S') :
    am_Ps vI (d + 5) k_Cook_openAfter [.ref 54, .int (nI seed), .int (nI K)] S Q := by
  obtain ⟨hW, hR, hD, hy, hyb⟩ := c
  have hn := hW.1
  have hm6 := hW.2.1
  refine e_Cook_openAfter ?_
  rw [nI_l (by omega)]
  have key : ∀ k, k ≤ K → ∀ T o6, ex 54 66 S T → RD T 59 (ow (sgA A n m seed k)) n → H_Cook_openAfter_20 d (nI seed) (nI K) (lN (sgx seed k)) (nI k) o6 T Q := by
    refine up_to (fun T o6 hT hDT => ?_) fun k hk ih T o6 hT hDT => ?_
    · have h1 : T.1 1 0 = nI n := by rw [hT.1 1 (by decide)]; exact hR.1
      refine p_Cook_openAfter_20 ?_
      simp (disch := omega) only [lit_add, add_lit, lit_mul, mul_lit, nI_add, nI_clamp, nI_subI, nI_sub1, nI_divL, vp_T, ge_F, ge_T, geL_F, geL_T, leL_F, leL_T, le0_F, le0_T, ge0_T, row_self, row_ne, row_l, row_p, row_row, wI_row, wI_same, wI_cell, wI_place, wI_l, wI_p, lt_T, lt_F, ltL_T, ltL_F, gtL_T, gtL_F, lt0_F, eq_T, eq_F, eqL_T, eqL_F, eqM_F, leM_F, nat_mod, i_10, i_01, i_m1, eq_self_iff_true, rw8_lt, up1_ne, up1_eq, wi_T, ite_self, tg_1, tg_68, tg_124, tg_177, tg_11, tg_17, tg_59, tg_78, tg_84, ln_7, ln_16, ln_233, ln_232, ln_6, true_and, and_true, not_true_eq_false, not_false_eq_true, false_implies, true_implies, implies_true, forall_const, forall_eq, if_true, if_false, false_and, and_false, h1, openX hDT hn n (Nat.le_refl n)]
      exact W T hT
    · have hx := sgx_lt hs k
      have hx2 := lc_lt (sgx seed k)
      have hE : stE A (sgA A n m seed k) := sgA_st hn k
      have h7 : T.1 1 7 = nI m := by rw [hT.1 1 (by decide)]; exact hR.2.1
      have hRT : RS T 1 (sgA A n m seed k) n m := RS_st hn hm6 hE (RS_fr (fun c h1 h2 => hT.1 c (by omega)) hR)
      have fr : ∀ S', fr2 59 T S' → ex 54 66 S S' := fun S' h => ex_tr hT ⟨fun c hc => h.1 c (by omega) (by omega), h.2⟩
      refine p_Cook_openAfter_20 ?_
      rw [lc_L hx, lc_D hx2]
      by_cases q : lc (sgx seed k) / 65536 % 7 < m
      · simp (disch := omega) only [lit_add, add_lit, lit_mul, mul_lit, nI_add, nI_clamp, nI_subI, nI_sub1, nI_divL, vp_T, ge_F, ge_T, geL_F, geL_T, leL_F, leL_T, le0_F, le0_T, ge0_T, row_self, row_ne, row_l, row_p, row_row, wI_row, wI_same, wI_cell, wI_place, wI_l, wI_p, lt_T, lt_F, ltL_T, ltL_F, gtL_T, gtL_F, lt0_F, eq_T, eq_F, eqL_T, eqL_F, eqM_F, leM_F, nat_mod, i_10, i_01, i_m1, eq_self_iff_true, rw8_lt, up1_ne, up1_eq, wi_T, ite_self, tg_1, tg_68, tg_124, tg_177, tg_11, tg_17, tg_59, tg_78, tg_84, ln_7, ln_16, ln_233, ln_232, ln_6, true_and, and_true, not_true_eq_false, not_false_eq_true, false_implies, true_implies, implies_true, forall_const, forall_eq, if_true, if_false, false_and, and_false, h7]
        refine s_xp (y := y + k) (WS_st hE hW) hRT (Or.inr rfl) hDT q (sgA_4 hy k) (by omega) fun S' h1 h2 => ?_
        refine ih _ _ (fr S' h1) ?_
        rw [sgA, if_pos (show sgx seed (k + 1) / 65536 % 7 < m from q)]
        exact h2
      · simp (disch := omega) only [lit_add, add_lit, lit_mul, mul_lit, nI_add, nI_clamp, nI_subI, nI_sub1, nI_divL, vp_T, ge_F, ge_T, geL_F, geL_T, leL_F, leL_T, le0_F, le0_T, ge0_T, row_self, row_ne, row_l, row_p, row_row, wI_row, wI_same, wI_cell, wI_place, wI_l, wI_p, lt_T, lt_F, ltL_T, ltL_F, gtL_T, gtL_F, lt0_F, eq_T, eq_F, eqL_T, eqL_F, eqM_F, leM_F, nat_mod, i_10, i_01, i_m1, eq_self_iff_true, rw8_lt, up1_ne, up1_eq, wi_T, ite_self, tg_1, tg_68, tg_124, tg_177, tg_11, tg_17, tg_59, tg_78, tg_84, ln_7, ln_16, ln_233, ln_232, ln_6, true_and, and_true, not_true_eq_false, not_false_eq_true, false_implies, true_implies, implies_true, forall_const, forall_eq, if_true, if_false, false_and, and_false, h7]
        refine s_xp0 (WS_st hE hW) hRT (Or.inr rfl) hDT fun S' h1 h2 => ?_
        refine ih _ _ (fr S' h1) ?_
        rw [sgA, if_neg (show ¬ sgx seed (k + 1) / 65536 % 7 < m from q), ← day0_s]
        exact h2
  refine key 0 (Nat.zero_le _) _ none ⟨fun c hc => dc_fr (by omega), rfl, rfl⟩ (dc_RD hD hn (by omega))
end SIEGES
