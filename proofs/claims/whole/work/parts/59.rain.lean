/-! rain: the fraction -/
def chN (c : Nat) : Nat → Nat → Nat
  | 0, j => if j = 0 then 1 else 0
  | k + 1, 0 => chN c k 0 * c
  | k + 1, j + 1 => chN c k (j + 1) * c + chN c k j * (10 - c)
/-- k terms from n -/
def sR (f : Nat → Nat) (n : Nat) : Nat → Nat
  | 0 => 0
  | k + 1 => sR f n k + f (n + k)
def wR (M c n : Nat) : Nat := sR (chN c M) n (M + 1 - n)
/-- the class' choices -/
def coN (M o : Nat) : Nat → Nat
  | 0 => 1
  | i + 1 => coN M o i * (M - o + (i + 1)) / (i + 1)
def wXt (M c o : Nat) : Nat := coN M o o * (10 - c) ^ o * c ^ (M - o)
def wX (M c n : Nat) : Nat := sR (wXt M c) n (M + 1 - n)
/-- the common part, within so many steps -/
def gcF : Nat → Nat → Nat → Nat
  | 0, _, _ => 0
  | f + 1, a, b => if b = 0 then a else gcF f b (a % b)
theorem w_same : ∀ M, M < 9 → ∀ c, c < 11 → ∀ n, n < 9 → wX M c n = wR M c n := by decide +kernel
theorem w_lt : ∀ M, M < 9 → ∀ c, c < 11 → ∀ n, n < 9 → wR M c n < 1000000000 ∧ 0 < gcF 60 (wR M c n) (10 ^ M) := by decide +kernel
theorem ch_lt : ∀ M, M < 9 → ∀ c, c < 11 → ∀ j, j < 10 → chN c M j < 1000000000 := by decide +kernel
theorem ch_0 : ∀ M, M < 9 → ∀ c, c < 11 → chN c M (M + 1) = 0 := by decide +kernel
theorem co_lt : ∀ M, M < 9 → ∀ o, o < 9 → ∀ i, i < 10 → coN M o i < 1000000 := by decide +kernel
theorem lg_eq {x y : Int64} : lg_cmp x y = 0 ↔ x = y := by
  unfold lg_cmp
  grind
theorem lg_le {x y : Int64} : lg_cmp x y ≤ 0 ↔ ¬ y < x := by
  unfold lg_cmp
  grind
theorem lcmp0 {b : Nat} (hb : b < 2 ^ 62) : (lg_cmp (lN b) 0 = 0) = (b = 0) := by
  rw [show (0 : Int64) = lN 0 from rfl]
  exact propext (lg_eq.trans (pk_lEQ (by omega) (by omega)))
theorem lcmp1 {b : Nat} (hb : b < 2 ^ 62) (h0 : 0 < b) : ¬ lg_cmp (lN b) 0 ≤ 0 := by
  rw [show (0 : Int64) = lN 0 from rfl, lg_le, pk_lLT (by omega) (by omega)]
  omega
theorem lN_ne0 {b : Nat} (hb : b < 2 ^ 62) (h0 : 0 < b) : ¬ lN b = 0 := fun q => by
  rw [show (0 : Int64) = lN 0 from rfl, pk_lEQ (by omega) (by omega)] at q
  omega
theorem n_pow_n {b : Nat} : ∀ k, n_pow (lN b) k = lN (b ^ k)
  | 0 => by rw [Nat.pow_zero]; rfl
  | k + 1 => by rw [n_pow, n_pow_n k, lN_mul, Nat.pow_succ]
theorem gcF_lt : ∀ {f a b : Nat}, a < 1000000000 → b < 1000000000 → gcF f a b < 1000000000
  | 0, _, _, _, _ => by unfold gcF; decide
  | f + 1, a, b, ha, hb => by
    rw [gcF]
    split
    · exact ha
    · rename_i h
      exact gcF_lt hb (Nat.lt_of_lt_of_le (Nat.mod_lt a (by omega)) (by omega))
section RAIN
variable {d : Nat} {S : fm_S}
/-- the class' choices -/
theorem s_xchoices {Q : Int64 → fm_S → Prop} {M o : Nat} (hM : M ≤ 8) (ho : o ≤ M) (W : Q (lN (coN M o o)) S) :
    am_Ps vL d k_Frac_choices [.int (nI M), .int (nI o)] S Q := by
  refine e_Frac_choices ?_
  have key : ∀ i, i ≤ o → H_Frac_choices_5 d (nI M) (nI o) (lN (coN M o i)) (nI (i + 1)) S Q := by
    refine up_to ?_ fun i hi ih => ?_
    · refine p_Frac_choices_5 ?_
      simp (disch := omega) only [lit_add, add_lit, lit_mul, mul_lit, nI_add, nI_clamp, nI_subI, nI_sub1, nI_divL, vp_T, ge_F, ge_T, geL_F, geL_T, leL_F, leL_T, le0_F, le0_T, ge0_T, row_self, row_ne, row_l, row_p, row_row, wI_row, wI_same, wI_cell, wI_place, wI_l, wI_p, lt_T, lt_F, ltL_T, ltL_F, gtL_T, gtL_F, lt0_F, eq_T, eq_F, eqL_T, eqL_F, eqM_F, leM_F, nat_mod, i_10, i_01, i_m1, eq_self_iff_true, rw8_lt, up1_ne, up1_eq, wi_T, ite_self, tg_1, tg_68, tg_124, tg_177, tg_11, tg_17, tg_59, tg_78, tg_84, ln_7, ln_16, ln_233, ln_232, ln_6, true_and, and_true, not_true_eq_false, not_false_eq_true, false_implies, true_implies, implies_true, forall_const, forall_eq, if_true, if_false, false_and, and_false]
      exact W
    · have hc := co_lt M (by omega) o (by omega) i (by omega)
      refine p_Frac_choices_5 ?_
      simp (disch := omega) only [lit_add, add_lit, lit_mul, mul_lit, nI_add, nI_clamp, nI_subI, nI_sub1, nI_divL, vp_T, ge_F, ge_T, geL_F, geL_T, leL_F, leL_T, le0_F, le0_T, ge0_T, row_self, row_ne, row_l, row_p, row_row, wI_row, wI_same, wI_cell, wI_place, wI_l, wI_p, lt_T, lt_F, ltL_T, ltL_F, gtL_T, gtL_F, lt0_F, eq_T, eq_F, eqL_T, eqL_F, eqM_F, leM_F, nat_mod, i_10, i_01, i_m1, eq_self_iff_true, rw8_lt, up1_ne, up1_eq, wi_T, ite_self, tg_1, tg_68, tg_124, tg_177, tg_11, tg_17, tg_59, tg_78, tg_84, ln_7, ln_16, ln_233, ln_232, ln_6, true_and, and_true, not_true_eq_false, not_false_eq_true, false_implies, true_implies, implies_true, forall_const, forall_eq, if_true, if_false, false_and, and_false, nI_l]
      have hb : coN M o i * (M - o + (i + 1)) < 2 ^ 62 := by
        have h1 : coN M o i * (M - o + (i + 1)) ≤ 1000000 * 20 := Nat.mul_le_mul (by omega) (by omega)
        omega
      rw [lN_mul, pk_lDiv (by omega) (by omega) (by omega)]
      exact ⟨lN_ne0 (by omega) (by omega), ih⟩
  exact key 0 (Nat.zero_le _)
theorem s_xcommon {Q : Int64 → fm_S → Prop} {a b : Nat} (ha : a < 1000000000) (hb : b < 1000000000) (hg : 0 < gcF 60 a b) (W : Q (lN (gcF 60 a b)) S) :
    am_Ps vL d k_Frac_commonPart [.long (lN a), .long (lN b)] S Q := by
  refine e_Frac_commonPart ?_
  have key : ∀ f i a b, f + i = 60 → a < 1000000000 → b < 1000000000 → 0 < gcF f a b → Q (lN (gcF f a b)) S → ∀ o5 o6, am_Po vL d k_Frac_commonPart 3 [some (.long (lN a)), none, some (.long (lN b)), none, some (.int (nI i)), o5, o6] [] S Q := by
    intro f
    induction f with
    | zero => intro i a b _ _ _ h; exact absurd h (by unfold gcF; omega)
    | succ f ih =>
      intro i a b hi ha hb hg hQ o5 o6
      rw [gcF] at hg hQ
      by_cases h0 : b = 0
      · rw [if_pos h0] at hQ
        refine p_Frac_commonPart_3 ?_
        rw [lcmp0 (by omega)]
        exact ⟨fun _ => hQ, fun z => absurd h0 z⟩
      · rw [if_neg h0] at hg hQ
        refine p_Frac_commonPart_3 ?_
        rw [lcmp0 (by omega), pk_lRem (by omega) (by omega) (by omega)]
        simp (disch := omega) only [lit_add, add_lit, lit_mul, mul_lit, nI_add, nI_clamp, nI_subI, nI_sub1, nI_divL, vp_T, ge_F, ge_T, geL_F, geL_T, leL_F, leL_T, le0_F, le0_T, ge0_T, row_self, row_ne, row_l, row_p, row_row, wI_row, wI_same, wI_cell, wI_place, wI_l, wI_p, lt_T, lt_F, ltL_T, ltL_F, gtL_T, gtL_F, lt0_F, eq_T, eq_F, eqL_T, eqL_F, eqM_F, leM_F, nat_mod, i_10, i_01, i_m1, eq_self_iff_true, rw8_lt, up1_ne, up1_eq, wi_T, ite_self, tg_1, tg_68, tg_124, tg_177, tg_11, tg_17, tg_59, tg_78, tg_84, ln_7, ln_16, ln_233, ln_232, ln_6, true_and, and_true, not_true_eq_false, not_false_eq_true, false_implies, true_implies, implies_true, forall_const, forall_eq, if_true, if_false, false_and, and_false]
        refine ⟨fun z => absurd z h0, fun _ => ⟨lN_ne0 (by omega) (by omega), ?_⟩⟩
        exact ih (i + 1) b (a % b) (by omega) hb (Nat.lt_trans (Nat.mod_lt _ (by omega)) hb) hg hQ _ _
  exact key 60 0 a b rfl ha hb hg W _ _
theorem s_xchance {Q : Unit → fm_S → Prop} {M c n : Nat} (hM : M ≤ 8) (hc : c ≤ 10) (hn : n ≤ 8)
    (W : Q () (fm_wL (fm_wL S 122 0 (lN (wR M c n / gcF 60 (wR M c n) (10 ^ M)))) 122 1 (lN (10 ^ M / gcF 60 (wR M c n) (10 ^ M))))) :
    am_Ps vV (d + 1) k_Frac_chance [.ref 122, .int (nI M), .int (nI n), .int (nI c)] S Q := by
  refine e_Frac_chance ?_
  have hp : 10 ^ M ≤ 10 ^ 8 := Nat.pow_le_pow_right (by decide) hM
  have hlt := w_lt M (by omega) c (by omega) n (by omega)
  have hsm := w_same M (by omega) c (by omega) n (by omega)
  have fin : ∀ o6 o7 o8 j, M < j → j < 100 → am_Po vV (d + 1) k_Frac_chance 6 [some (.ref 122), some (.int (nI M)), some (.int (nI n)), some (.int (nI c)), some (.long (lN (wX M c n))), none, some (.int (nI j)), o6, o7, o8] [] S Q := by
    intro o6 o7 o8 j hj hj2
    rw [hsm]
    have hg := gcF_lt (f := 60) hlt.1 (show 10 ^ M < 1000000000 by omega)
    refine p_Frac_chance_6 ?_
    simp (disch := omega) only [lit_add, add_lit, lit_mul, mul_lit, nI_add, nI_clamp, nI_subI, nI_sub1, nI_divL, vp_T, ge_F, ge_T, geL_F, geL_T, leL_F, leL_T, le0_F, le0_T, ge0_T, row_self, row_ne, row_l, row_p, row_row, wI_row, wI_same, wI_cell, wI_place, wI_l, wI_p, lt_T, lt_F, ltL_T, ltL_F, gtL_T, gtL_F, lt0_F, eq_T, eq_F, eqL_T, eqL_F, eqM_F, leM_F, nat_mod, i_10, i_01, i_m1, eq_self_iff_true, rw8_lt, up1_ne, up1_eq, wi_T, ite_self, tg_1, tg_68, tg_124, tg_177, tg_11, tg_17, tg_59, tg_78, tg_84, ln_7, ln_16, ln_233, ln_232, ln_6, true_and, and_true, not_true_eq_false, not_false_eq_true, false_implies, true_implies, implies_true, forall_const, forall_eq, if_true, if_false, false_and, and_false]
    rw [show (10 : Int32) = nI 10 from rfl, nI_l (by omega), n_pow_n]
    refine s_xcommon hlt.1 (by omega) hlt.2 ⟨fun z => absurd z (lcmp1 (by omega) hlt.2), fun _ => ⟨lN_ne0 (by omega) hlt.2, ?_⟩⟩
    rw [pk_lDiv (by omega) hlt.2 (by omega), pk_lDiv (by omega) hlt.2 (by omega)]
    exact W
  by_cases hnM : n ≤ M
  · have key : ∀ k, k ≤ M + 1 - n → ∀ o6 o7 o8, am_Po vV (d + 1) k_Frac_chance 6 [some (.ref 122), some (.int (nI M)), some (.int (nI n)), some (.int (nI c)), some (.long (lN (sR (wXt M c) n k))), none, some (.int (nI (n + k))), o6, o7, o8] [] S Q := by
      refine up_to (fun o6 o7 o8 => ?_) fun k hk ih o6 o7 o8 => ?_
      · exact fin o6 o7 o8 _ (by omega) (by omega)
      · refine p_Frac_chance_6 ?_
        simp (disch := omega) only [lit_add, add_lit, lit_mul, mul_lit, nI_add, nI_clamp, nI_subI, nI_sub1, nI_divL, vp_T, ge_F, ge_T, geL_F, geL_T, leL_F, leL_T, le0_F, le0_T, ge0_T, row_self, row_ne, row_l, row_p, row_row, wI_row, wI_same, wI_cell, wI_place, wI_l, wI_p, lt_T, lt_F, ltL_T, ltL_F, gtL_T, gtL_F, lt0_F, eq_T, eq_F, eqL_T, eqL_F, eqM_F, leM_F, nat_mod, i_10, i_01, i_m1, eq_self_iff_true, rw8_lt, up1_ne, up1_eq, wi_T, ite_self, tg_1, tg_68, tg_124, tg_177, tg_11, tg_17, tg_59, tg_78, tg_84, ln_7, ln_16, ln_233, ln_232, ln_6, true_and, and_true, not_true_eq_false, not_false_eq_true, false_implies, true_implies, implies_true, forall_const, forall_eq, if_true, if_false, false_and, and_false]
        refine s_xchoices (by omega) (by omega) ?_
        rw [show (10 : Int32) = nI 10 from rfl, nI_subI (by omega), nI_l (by omega), nI_l (by omega)]
        rw [n_pow_n, n_pow_n, lN_mul, lN_mul, lN_add]
        exact ih _ _ _
    exact key 0 (Nat.zero_le _) _ _ _
  · have z := fin none none none n (by omega) (by omega)
    rw [show wX M c n = 0 by unfold wX; rw [show M + 1 - n = 0 by omega]; rfl] at z
    exact z
/-! the reference -/
theorem wL_1 {S : fm_S} {a i : Nat} {x : Int64} : (fm_wL S a i x).1 = S.1 := rfl
theorem wL_3 {S : fm_S} {a i : Nat} {x : Int64} : (fm_wL S a i x).2.2 = S.2.2 := rfl
theorem wL_s {S : fm_S} {a i : Nat} {x : Int64} : (fm_wL S a i x).2.1 a i = x := by simp [fm_wL, fm_up]
theorem wL_o {S : fm_S} {a i b j : Nat} {x : Int64} (h : b ≠ a ∨ j ≠ i) : (fm_wL S a i x).2.1 b j = S.2.1 b j := by
  have : ¬ (b = a ∧ j = i) := by omega
  simp [fm_wL, fm_up, this]
/-- only longs, and those of 243 and 231 -/
def frL (S S' : fm_S) : Prop := S'.1 = S.1 ∧ S'.2.2 = S.2.2 ∧ ∀ c, c ≠ 243 → c ≠ 231 → S'.2.1 c = S.2.1 c
theorem frL_id : frL S S := ⟨rfl, rfl, fun _ _ _ => rfl⟩
theorem frL_w {S' : fm_S} {a i : Nat} {x : Int64} (h : frL S S') (ha : a = 243 ∨ a = 231) : frL S (fm_wL S' a i x) :=
  ⟨h.1, h.2.1, fun c h1 h2 => by rw [← h.2.2 c h1 h2]; exact funext fun j => wL_o (Or.inl (by omega))⟩
theorem s_mrain {Q : Int32 → fm_S → Prop} {x1 : Int32} {M c n : Nat} (hM : M ≤ 8) (hc : c ≤ 10) (hn : n ≤ 8)
    (W : ∀ S', frL S S' → S'.2.1 231 6 = lN (wR M c n / gcF 60 (wR M c n) (10 ^ M)) → S'.2.1 231 7 = lN (10 ^ M / gcF 60 (wR M c n) (10 ^ M)) → Q 1 S') :
    am_Po vI (d + 4) k_M_rain 62 [some (.ref 231), some (.int x1), some (.int (nI c)), some (.int (nI n)), some (.int (nI M)), some (.long 1), none, some (.int 0), none, none, none] [] (fm_wL S 243 0 1) Q := by
  have hp : 10 ^ M ≤ 10 ^ 8 := Nat.pow_le_pow_right (by decide) hM
  have hlt := w_lt M (by omega) c (by omega) n (by omega)
  -- the Euclid
  have euc : ∀ f a b T o9 o10, frL S T → T.2.1 231 6 = lN (wR M c n) → T.2.1 231 7 = lN (10 ^ M) → a < 1000000000 → b < 1000000000 → 0 < gcF f a b → gcF f a b = gcF 60 (wR M c n) (10 ^ M) →
      am_Po vI (d + 4) k_M_rain 197 [some (.ref 231), some (.int x1), some (.int (nI c)), some (.int (nI n)), some (.int (nI M)), some (.long (lN b)), none, some (.long (lN a)), none, o9, o10] [] T Q := by
    intro f
    induction f with
    | zero => intro a b T o9 o10 _ _ _ _ _ h; exact absurd h (by unfold gcF; omega)
    | succ f ih =>
      intro a b T o9 o10 hT h6 h7 ha hb hg he
      rw [gcF] at hg he
      by_cases h0 : b = 0
      · rw [if_pos h0] at hg he
        refine p_M_rain_197 ?_
        rw [lcmp0 (by omega)]
        refine ⟨fun _ => ⟨lN_ne0 (by omega) hg, ?_⟩, fun z => absurd h0 z⟩
        refine W _ (frL_w (frL_w hT (Or.inr rfl)) (Or.inr rfl)) ?_ ?_
        · rw [wL_o (by omega), wL_s, h6, he, pk_lDiv (by omega) (by omega) (by omega)]
        · rw [wL_s, wL_o (by omega), h7, he, pk_lDiv (by omega) (by omega) (by omega)]
      · rw [if_neg h0] at hg he
        refine p_M_rain_197 ?_
        rw [lcmp0 (by omega), pk_lRem (by omega) (by omega) (by omega)]
        refine ⟨fun z => absurd z h0, fun _ => ⟨lN_ne0 (by omega) (by omega), ?_⟩⟩
        exact ih b (a % b) T _ _ hT h6 h7 hb (Nat.lt_trans (Nat.mod_lt _ (by omega)) hb) hg he
  -- the sum
  have sum : ∀ T, frL S T → (∀ j, j ≤ M → T.2.1 243 j = lN (chN c M j)) → ∀ o10, am_Po vI (d + 4) k_M_rain 160 [some (.ref 231), some (.int x1), some (.int (nI c)), some (.int (nI n)), some (.int (nI M)), some (.long (lN (10 ^ M))), none, some (.long (lN 0)), none, some (.int (nI n)), o10] [] T Q := by
    intro T hT hch o10
    have last : ∀ j, M < j → j < 100 → ∀ o10, am_Po vI (d + 4) k_M_rain 160 [some (.ref 231), some (.int x1), some (.int (nI c)), some (.int (nI n)), some (.int (nI M)), some (.long (lN (10 ^ M))), none, some (.long (lN (wR M c n))), none, some (.int (nI j)), o10] [] T Q := by
      intro j hj hj2 o10
      refine p_M_rain_160 ?_
      simp (disch := omega) only [lit_add, add_lit, lit_mul, mul_lit, nI_add, nI_clamp, nI_subI, nI_sub1, nI_divL, vp_T, ge_F, ge_T, geL_F, geL_T, leL_F, leL_T, le0_F, le0_T, ge0_T, row_self, row_ne, row_l, row_p, row_row, wI_row, wI_same, wI_cell, wI_place, wI_l, wI_p, lt_T, lt_F, ltL_T, ltL_F, gtL_T, gtL_F, lt0_F, eq_T, eq_F, eqL_T, eqL_F, eqM_F, leM_F, nat_mod, i_10, i_01, i_m1, eq_self_iff_true, rw8_lt, up1_ne, up1_eq, wi_T, ite_self, tg_1, tg_68, tg_124, tg_177, tg_11, tg_17, tg_59, tg_78, tg_84, ln_7, ln_16, ln_233, ln_232, ln_6, true_and, and_true, not_true_eq_false, not_false_eq_true, false_implies, true_implies, implies_true, forall_const, forall_eq, if_true, if_false, false_and, and_false]
      refine euc 60 _ _ _ _ _ (frL_w (frL_w hT (Or.inr rfl)) (Or.inr rfl)) ?_ ?_ hlt.1 (by omega) hlt.2 rfl
      · rw [wL_o (by omega), wL_s]
      · rw [wL_s]
    by_cases hnM : n ≤ M
    · have key : ∀ k, k ≤ M + 1 - n → ∀ o10, am_Po vI (d + 4) k_M_rain 160 [some (.ref 231), some (.int x1), some (.int (nI c)), some (.int (nI n)), some (.int (nI M)), some (.long (lN (10 ^ M))), none, some (.long (lN (sR (chN c M) n k))), none, some (.int (nI (n + k))), o10] [] T Q := by
        refine up_to (fun o10 => ?_) fun k hk ih o10 => ?_
        · exact last _ (by omega) (by omega) o10
        · refine p_M_rain_160 ?_
          simp (disch := omega) only [lit_add, add_lit, lit_mul, mul_lit, nI_add, nI_clamp, nI_subI, nI_sub1, nI_divL, vp_T, ge_F, ge_T, geL_F, geL_T, leL_F, leL_T, le0_F, le0_T, ge0_T, row_self, row_ne, row_l, row_p, row_row, wI_row, wI_same, wI_cell, wI_place, wI_l, wI_p, lt_T, lt_F, ltL_T, ltL_F, gtL_T, gtL_F, lt0_F, eq_T, eq_F, eqL_T, eqL_F, eqM_F, leM_F, nat_mod, i_10, i_01, i_m1, eq_self_iff_true, rw8_lt, up1_ne, up1_eq, wi_T, ite_self, tg_1, tg_68, tg_124, tg_177, tg_11, tg_17, tg_59, tg_78, tg_84, ln_7, ln_16, ln_233, ln_232, ln_6, true_and, and_true, not_true_eq_false, not_false_eq_true, false_implies, true_implies, implies_true, forall_const, forall_eq, if_true, if_false, false_and, and_false, hch, lN_add]
          exact ih _
      exact key 0 (Nat.zero_le _) _
    · have z := last n (by omega) (by omega) o10
      rw [show wR M c n = 0 by unfold wR; rw [show M + 1 - n = 0 by omega]; rfl] at z
      exact z
  -- the chances
  have key : ∀ k, k ≤ M → ∀ T o8 o9 o10, frL S T → (∀ j, j ≤ k → T.2.1 243 j = lN (chN c k j)) → am_Po vI (d + 4) k_M_rain 62 [some (.ref 231), some (.int x1), some (.int (nI c)), some (.int (nI n)), some (.int (nI M)), some (.long (lN (10 ^ k))), none, some (.int (nI k)), o8, o9, o10] [] T Q := by
    refine up_to (fun T o8 o9 o10 hT hch => ?_) fun k hk ih T o8 o9 o10 hT hch => ?_
    · refine p_M_rain_62 ?_
      simp (disch := omega) only [lit_add, add_lit, lit_mul, mul_lit, nI_add, nI_clamp, nI_subI, nI_sub1, nI_divL, vp_T, ge_F, ge_T, geL_F, geL_T, leL_F, leL_T, le0_F, le0_T, ge0_T, row_self, row_ne, row_l, row_p, row_row, wI_row, wI_same, wI_cell, wI_place, wI_l, wI_p, lt_T, lt_F, ltL_T, ltL_F, gtL_T, gtL_F, lt0_F, eq_T, eq_F, eqL_T, eqL_F, eqM_F, leM_F, nat_mod, i_10, i_01, i_m1, eq_self_iff_true, rw8_lt, up1_ne, up1_eq, wi_T, ite_self, tg_1, tg_68, tg_124, tg_177, tg_11, tg_17, tg_59, tg_78, tg_84, ln_7, ln_16, ln_233, ln_232, ln_6, true_and, and_true, not_true_eq_false, not_false_eq_true, false_implies, true_implies, implies_true, forall_const, forall_eq, if_true, if_false, false_and, and_false]
      exact sum T hT hch _
    · refine p_M_rain_62 ?_
      simp (disch := omega) only [lit_add, add_lit, lit_mul, mul_lit, nI_add, nI_clamp, nI_subI, nI_sub1, nI_divL, vp_T, ge_F, ge_T, geL_F, geL_T, leL_F, leL_T, le0_F, le0_T, ge0_T, row_self, row_ne, row_l, row_p, row_row, wI_row, wI_same, wI_cell, wI_place, wI_l, wI_p, lt_T, lt_F, ltL_T, ltL_F, gtL_T, gtL_F, lt0_F, eq_T, eq_F, eqL_T, eqL_F, eqM_F, leM_F, nat_mod, i_10, i_01, i_m1, eq_self_iff_true, rw8_lt, up1_ne, up1_eq, wi_T, ite_self, tg_1, tg_68, tg_124, tg_177, tg_11, tg_17, tg_59, tg_78, tg_84, ln_7, ln_16, ln_233, ln_232, ln_6, true_and, and_true, not_true_eq_false, not_false_eq_true, false_implies, true_implies, implies_true, forall_const, forall_eq, if_true, if_false, false_and, and_false]
      have loop : ∀ j T, j ≤ k + 1 → frL S T → (∀ j', j' ≤ j → j' ≤ k → T.2.1 243 j' = lN (chN c k j')) → (j = k + 1 → T.2.1 243 (k + 1) = lN 0) → (∀ j', j < j' → j' ≤ k + 1 → T.2.1 243 j' = lN (chN c (k + 1) j')) → ∀ o9 o10, am_Po vI (d + 4) k_M_rain 85 [some (.ref 231), some (.int x1), some (.int (nI c)), some (.int (nI n)), some (.int (nI M)), some (.long (lN (10 ^ k))), none, some (.int (nI k)), some (.int (nI j)), o9, o10] [] T Q := by
        intro j
        induction j with
        | zero =>
          intro T hj hT h1 h2 h3 o9 o10
          refine p_M_rain_85 ?_
          simp (disch := omega) only [lit_add, add_lit, lit_mul, mul_lit, nI_add, nI_clamp, nI_subI, nI_sub1, nI_divL, vp_T, ge_F, ge_T, geL_F, geL_T, leL_F, leL_T, le0_F, le0_T, ge0_T, row_self, row_ne, row_l, row_p, row_row, wI_row, wI_same, wI_cell, wI_place, wI_l, wI_p, lt_T, lt_F, ltL_T, ltL_F, gtL_T, gtL_F, lt0_F, eq_T, eq_F, eqL_T, eqL_F, eqM_F, leM_F, nat_mod, i_10, i_01, i_m1, eq_self_iff_true, rw8_lt, up1_ne, up1_eq, wi_T, ite_self, tg_1, tg_68, tg_124, tg_177, tg_11, tg_17, tg_59, tg_78, tg_84, ln_7, ln_16, ln_233, ln_232, ln_6, true_and, and_true, not_true_eq_false, not_false_eq_true, false_implies, true_implies, implies_true, forall_const, forall_eq, if_true, if_false, false_and, and_false, nI_l, lN_mul]
          rw [show (10 : Int64) = lN 10 from rfl, lN_mul, ← Nat.pow_succ, h1 0 (Nat.le_refl _) (Nat.zero_le _), lN_mul]
          refine ih _ _ _ _ (frL_w hT (Or.inl rfl)) fun j' hj' => ?_
          by_cases e : j' = 0
          · subst e; rw [wL_s]; rfl
          · rw [wL_o (by omega)]; exact h3 j' (by omega) hj'
        | succ j ih2 =>
          intro T hj hT h1 h2 h3 o9 o10
          have htop : T.2.1 243 (j + 1) = lN (chN c k (j + 1)) := by
            by_cases e : j = k
            · subst e
              rw [h2 rfl, ch_0 j (by omega) c (by omega)]
            · exact h1 (j + 1) (Nat.le_refl _) (by omega)
          refine p_M_rain_85 ?_
          simp (disch := omega) only [lit_add, add_lit, lit_mul, mul_lit, nI_add, nI_clamp, nI_subI, nI_sub1, nI_divL, vp_T, ge_F, ge_T, geL_F, geL_T, leL_F, leL_T, le0_F, le0_T, ge0_T, row_self, row_ne, row_l, row_p, row_row, wI_row, wI_same, wI_cell, wI_place, wI_l, wI_p, lt_T, lt_F, ltL_T, ltL_F, gtL_T, gtL_F, lt0_F, eq_T, eq_F, eqL_T, eqL_F, eqM_F, leM_F, nat_mod, i_10, i_01, i_m1, eq_self_iff_true, rw8_lt, up1_ne, up1_eq, wi_T, ite_self, tg_1, tg_68, tg_124, tg_177, tg_11, tg_17, tg_59, tg_78, tg_84, ln_7, ln_16, ln_233, ln_232, ln_6, true_and, and_true, not_true_eq_false, not_false_eq_true, false_implies, true_implies, implies_true, forall_const, forall_eq, if_true, if_false, false_and, and_false, nI_l, htop, nI_m1]
          rw [show (10 : Int32) = nI 10 from rfl, nI_subI (by omega), nI_l (by omega), Nat.add_sub_cancel, h1 j (by omega) (by omega), lN_mul, lN_mul, lN_add]
          refine ih2 _ (by omega) (frL_w hT (Or.inl rfl)) (fun j' a1 a2 => ?_) (fun a => absurd a (by omega)) (fun j' a1 a2 => ?_) _ _
          · rw [wL_o (by omega)]; exact h1 j' (by omega) a2
          · by_cases e : j' = j + 1
            · subst e; rw [wL_s]; rfl
            · rw [wL_o (by omega)]; exact h3 j' (by omega) a2
      refine loop (k + 1) _ (Nat.le_refl _) (frL_w hT (Or.inl rfl)) (fun j' a1 a2 => ?_) (fun _ => wL_s) (fun j' a1 a2 => absurd a1 (by omega)) _ _
      rw [wL_o (by omega)]; exact hch j' a2
  exact key 0 (Nat.zero_le _) _ _ _ _ (frL_w frL_id (Or.inl rfl)) fun j hj => by
    have : j = 0 := by omega
    subst this
    rw [wL_s]; rfl
end RAIN
