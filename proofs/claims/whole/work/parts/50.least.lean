/-! the least butter for a town -/
def oA (A : Nat → Int32) (n y e : Nat) : Int32 := bt (fun x => pin A e y 4 x) n
def shA (A : Nat → Int32) (n : Nat) : Int32 := bt (fun x => decide (A (29 + x) = -1)) n
def buA (A : Nat → Int32) (s : Int32) : Nat → Int32
  | 0 => 0
  | e + 1 => if f_X_has s (nI e) = 0 then buA A s e else buA A s e + A (137 + e)
def obA (A : Nat → Int32) (n y : Nat) (s : Int32) : Nat → Int32
  | 0 => 0
  | e + 1 => if f_X_has s (nI e) = 0 then obA A n y s e else obA A n y s e ||| oA A n y e
def lsP (A : Nat → Int32) (n m y : Nat) : Nat → Int32 × Int32
  | 0 => (-1, 0)
  | s + 1 => if shA A n &&& (obA A n y (nI s) m ^^^ (-1)) = 0 ∧ ((lsP A n m y s).1 < 0 ∨ buA A (nI s) m < (lsP A n m y s).2 ∨ (buA A (nI s) m = (lsP A n m y s).2 ∧ ¬ n_bits (lsP A n m y s).1 8 ≤ n_bits (nI s) 8)) then (nI s, buA A (nI s) m) else lsP A n m y s
theorem lsP_1 {A : Nat → Int32} {n m y : Nat} : ∀ s, (lsP A n m y s).1 = -1 ∨ ∃ k, k < s ∧ (lsP A n m y s).1 = nI k
  | 0 => Or.inl rfl
  | s + 1 => by
    rw [lsP]
    split
    · exact Or.inr ⟨s, by omega, rfl⟩
    · rcases lsP_1 (A := A) (n := n) (m := m) (y := y) s with h | ⟨k, h1, h2⟩
      · exact Or.inl h
      · exact Or.inr ⟨k, by omega, h2⟩
theorem shl_pow : ∀ m, m < 8 → (1 : Int32) <<< (nI m &&& 31) = nI (2 ^ m) := by decide +kernel
theorem or_ifP {P : Prop} [Decidable P] {x z : Int32} : (x ||| if P then z else 0) = if decide P = true then x ||| z else x := by
  by_cases h : P
  · simp [h]
  · simp [h]
theorem or_if0 {P : Prop} [Decidable P] {x z : Int32} : (x ||| if P then 0 else z) = if P then x else x ||| z := by
  by_cases h : P
  · simp [h]
  · simp [h]
theorem add_if0 {P : Prop} [Decidable P] {x z : Int32} : (x + if P then 0 else z) = if P then x else x + z := by
  by_cases h : P
  · simp [h]
  · simp [h]
theorem pow_le6 {m : Nat} (h : m ≤ 6) : 2 ^ m ≤ 64 := Nat.pow_le_pow_right (by decide) h
/-- the reference's choice in a step -/
theorem ls_m {c x2 x3 x5 bx bs : Int32} {p : Prop} [Decidable p] (hp : p = (c = 0)) {a b : Int32} :
    (if c = 0 then if (if x2 < 0 then (1 : Int32) else if x5 < x3 then 1 else if x5 = x3 then if bx ≤ bs then 0 else 1 else 0) = 0 then a else b else a) =
    if p ∧ (x2 < 0 ∨ x5 < x3 ∨ (x5 = x3 ∧ ¬ bx ≤ bs)) then b else a := by
  subst hp
  by_cases h1 : c = 0
  · by_cases h2 : x2 < 0
    · simp [h1, h2]
    · by_cases h3 : x5 < x3
      · simp [h1, h2, h3]
      · by_cases h4 : x5 = x3
        · by_cases h5 : bx ≤ bs
          · simp only [h1, h2, h3, h4, h5, if_true, if_false]; simp
          · simp only [h1, h2, h3, h4, h5, if_true, if_false]; simp
        · simp [h1, h2, h3, h4]
  · simp [h1]
theorem fst_if {P : Prop} [Decidable P] {a b : Int32} {r : Int32 × Int32} : (if P then (a, b) else r).1 = if P then a else r.1 := by split <;> rfl
theorem snd_if {P : Prop} [Decidable P] {a b : Int32} {r : Int32 × Int32} : (if P then (a, b) else r).2 = if P then b else r.2 := by split <;> rfl
section LEAST
variable {d n m y : Nat} {S : fm_S} {A : Nat → Int32}
theorem s_mleast {Q : Int32 → fm_S → Prop} (c : MX S n m y)
    (W : ∀ S', ex 238 242 S S' → Q (lsP (S.1 232) n m y (2 ^ m)).1 S') :
    am_Ps vI (d + 5) k_M_least [.ref 231] S Q := by
  refine e_M_least ?_
  have hn := c.1.1
  have hm6 := c.1.2.1
  have h2m := pow_le6 hm6
  -- the sets
  have fin : ∀ S', ex 238 242 S S' → (∀ e, e < m → S'.1 241 e = oA (S.1 232) n y e) → ∀ o5 o6 o7, H_M_least_119 d (shA (S.1 232) n) (-1) 0 0 o5 o6 o7 S' Q := by
    intro S' hS hO
    have c2 := MX_ex hS c
    have key : ∀ s, s ≤ 2 ^ m → ∀ o5 o6 o7, H_M_least_119 d (shA (S.1 232) n) (lsP (S.1 232) n m y s).1 (lsP (S.1 232) n m y s).2 (nI s) o5 o6 o7 S' Q := by
      refine up_to (fun o5 o6 o7 => ?_) fun s hs ih o5 o6 o7 => ?_
      · refine p_M_least_119 ?_
        simp (disch := omega) only [lit_add, add_lit, lit_mul, mul_lit, nI_add, nI_clamp, nI_subI, nI_sub1, nI_divL, vp_T, ge_F, ge_T, geL_F, geL_T, leL_F, leL_T, le0_F, le0_T, ge0_T, row_self, row_ne, row_l, row_p, row_row, wI_row, wI_same, wI_cell, wI_place, wI_l, wI_p, lt_T, lt_F, ltL_T, ltL_F, gtL_T, gtL_F, lt0_F, eq_T, eq_F, eqL_T, eqL_F, eqM_F, leM_F, nat_mod, i_10, i_01, i_m1, eq_self_iff_true, rw8_lt, up1_ne, up1_eq, wi_T, ite_self, tg_1, tg_68, tg_124, tg_177, tg_11, tg_17, tg_59, tg_78, tg_84, ln_7, ln_16, ln_233, ln_232, ln_6, true_and, and_true, not_true_eq_false, not_false_eq_true, false_implies, true_implies, implies_true, forall_const, forall_eq, if_true, if_false, false_and, and_false, c2.1.2.2.2.1, shl_pow]
        exact W S' hS
      · refine p_M_least_119 ?_
        simp (disch := omega) only [lit_add, add_lit, lit_mul, mul_lit, nI_add, nI_clamp, nI_subI, nI_sub1, nI_divL, vp_T, ge_F, ge_T, geL_F, geL_T, leL_F, leL_T, le0_F, le0_T, ge0_T, row_self, row_ne, row_l, row_p, row_row, wI_row, wI_same, wI_cell, wI_place, wI_l, wI_p, lt_T, lt_F, ltL_T, ltL_F, gtL_T, gtL_F, lt0_F, eq_T, eq_F, eqL_T, eqL_F, eqM_F, leM_F, nat_mod, i_10, i_01, i_m1, eq_self_iff_true, rw8_lt, up1_ne, up1_eq, wi_T, ite_self, tg_1, tg_68, tg_124, tg_177, tg_11, tg_17, tg_59, tg_78, tg_84, ln_7, ln_16, ln_233, ln_232, ln_6, true_and, and_true, not_true_eq_false, not_false_eq_true, false_implies, true_implies, implies_true, forall_const, forall_eq, if_true, if_false, false_and, and_false, c2.1.2.2.2.1, shl_pow]
        have loop : ∀ e, e ≤ m → H_M_least_141 d (shA (S.1 232) n) (lsP (S.1 232) n m y s).1 (lsP (S.1 232) n m y s).2 (nI s) (buA (S.1 232) (nI s) e) (obA (S.1 232) n y (nI s) e) (nI e) S' Q := by
          refine up_to ?_ fun e he ih2 => ?_
          · refine p_M_least_141 ?_
            simp (disch := omega) only [lit_add, add_lit, lit_mul, mul_lit, nI_add, nI_clamp, nI_subI, nI_sub1, nI_divL, vp_T, ge_F, ge_T, geL_F, geL_T, leL_F, leL_T, le0_F, le0_T, ge0_T, row_self, row_ne, row_l, row_p, row_row, wI_row, wI_same, wI_cell, wI_place, wI_l, wI_p, lt_T, lt_F, ltL_T, ltL_F, gtL_T, gtL_F, lt0_F, eq_T, eq_F, eqL_T, eqL_F, eqM_F, leM_F, nat_mod, i_10, i_01, i_m1, eq_self_iff_true, rw8_lt, up1_ne, up1_eq, wi_T, ite_self, tg_1, tg_68, tg_124, tg_177, tg_11, tg_17, tg_59, tg_78, tg_84, ln_7, ln_16, ln_233, ln_232, ln_6, true_and, and_true, not_true_eq_false, not_false_eq_true, false_implies, true_implies, implies_true, forall_const, forall_eq, if_true, if_false, false_and, and_false, c2.1.2.2.2.1]
            rw [lsP] at ih
            rw [ls_m rfl, ls_m rfl]
            simp only [fst_if, snd_if] at ih
            exact ih _ _ _
          · refine p_M_least_141 ?_
            simp (disch := omega) only [lit_add, add_lit, lit_mul, mul_lit, nI_add, nI_clamp, nI_subI, nI_sub1, nI_divL, vp_T, ge_F, ge_T, geL_F, geL_T, leL_F, leL_T, le0_F, le0_T, ge0_T, row_self, row_ne, row_l, row_p, row_row, wI_row, wI_same, wI_cell, wI_place, wI_l, wI_p, lt_T, lt_F, ltL_T, ltL_F, gtL_T, gtL_F, lt0_F, eq_T, eq_F, eqL_T, eqL_F, eqM_F, leM_F, nat_mod, i_10, i_01, i_m1, eq_self_iff_true, rw8_lt, up1_ne, up1_eq, wi_T, ite_self, tg_1, tg_68, tg_124, tg_177, tg_11, tg_17, tg_59, tg_78, tg_84, ln_7, ln_16, ln_233, ln_232, ln_6, true_and, and_true, not_true_eq_false, not_false_eq_true, false_implies, true_implies, implies_true, forall_const, forall_eq, if_true, if_false, false_and, and_false, c2.1.2.2.2.1, mx_has, hO, or_if0, add_if0, ex_A hS]
            rw [buA, obA] at ih2
            exact ih2
        exact loop 0 (by omega)
    exact key 0 (Nat.zero_le _)
  -- what each dish opens
  have mid : ∀ e, e ≤ m → ∀ S', ex 238 242 S S' → (∀ e', e' < e → S'.1 241 e' = oA (S.1 232) n y e') → ∀ o3 o4 o5 o6 o7, H_M_least_45 d (shA (S.1 232) n) (nI e) o3 o4 o5 o6 o7 S' Q := by
    refine up_to (fun S' hS hO o3 o4 o5 o6 o7 => ?_) fun e he ih S' hS hO o3 o4 o5 o6 o7 => ?_
    · have c2 := MX_ex hS c
      refine p_M_least_45 ?_
      simp (disch := omega) only [lit_add, add_lit, lit_mul, mul_lit, nI_add, nI_clamp, nI_subI, nI_sub1, nI_divL, vp_T, ge_F, ge_T, geL_F, geL_T, leL_F, leL_T, le0_F, le0_T, ge0_T, row_self, row_ne, row_l, row_p, row_row, wI_row, wI_same, wI_cell, wI_place, wI_l, wI_p, lt_T, lt_F, ltL_T, ltL_F, gtL_T, gtL_F, lt0_F, eq_T, eq_F, eqL_T, eqL_F, eqM_F, leM_F, nat_mod, i_10, i_01, i_m1, eq_self_iff_true, rw8_lt, up1_ne, up1_eq, wi_T, ite_self, tg_1, tg_68, tg_124, tg_177, tg_11, tg_17, tg_59, tg_78, tg_84, ln_7, ln_16, ln_233, ln_232, ln_6, true_and, and_true, not_true_eq_false, not_false_eq_true, false_implies, true_implies, implies_true, forall_const, forall_eq, if_true, if_false, false_and, and_false, c2.1.2.2.2.1]
      exact fin S' hS hO _ _ _
    · have c2 := MX_ex hS c
      refine p_M_least_45 ?_
      simp (disch := omega) only [lit_add, add_lit, lit_mul, mul_lit, nI_add, nI_clamp, nI_subI, nI_sub1, nI_divL, vp_T, ge_F, ge_T, geL_F, geL_T, leL_F, leL_T, le0_F, le0_T, ge0_T, row_self, row_ne, row_l, row_p, row_row, wI_row, wI_same, wI_cell, wI_place, wI_l, wI_p, lt_T, lt_F, ltL_T, ltL_F, gtL_T, gtL_F, lt0_F, eq_T, eq_F, eqL_T, eqL_F, eqM_F, leM_F, nat_mod, i_10, i_01, i_m1, eq_self_iff_true, rw8_lt, up1_ne, up1_eq, wi_T, ite_self, tg_1, tg_68, tg_124, tg_177, tg_11, tg_17, tg_59, tg_78, tg_84, ln_7, ln_16, ln_233, ln_232, ln_6, true_and, and_true, not_true_eq_false, not_false_eq_true, false_implies, true_implies, implies_true, forall_const, forall_eq, if_true, if_false, false_and, and_false, c2.1.2.2.2.1]
      have loop : ∀ x, x ≤ n → ∀ S', ex 238 242 S S' → (∀ e', e' < e → S'.1 241 e' = oA (S.1 232) n y e') → S'.1 241 e = bt (fun x => pin (S.1 232) e y 4 x) x → ∀ o4 o5 o6 o7, H_M_least_64 d (shA (S.1 232) n) (nI e) (nI x) o4 o5 o6 o7 S' Q := by
        refine up_to (fun S' hS hO hE o4 o5 o6 o7 => ?_) fun x hx ih2 S' hS hO hE o4 o5 o6 o7 => ?_
        · have c2 := MX_ex hS c
          refine p_M_least_64 ?_
          simp (disch := omega) only [lit_add, add_lit, lit_mul, mul_lit, nI_add, nI_clamp, nI_subI, nI_sub1, nI_divL, vp_T, ge_F, ge_T, geL_F, geL_T, leL_F, leL_T, le0_F, le0_T, ge0_T, row_self, row_ne, row_l, row_p, row_row, wI_row, wI_same, wI_cell, wI_place, wI_l, wI_p, lt_T, lt_F, ltL_T, ltL_F, gtL_T, gtL_F, lt0_F, eq_T, eq_F, eqL_T, eqL_F, eqM_F, leM_F, nat_mod, i_10, i_01, i_m1, eq_self_iff_true, rw8_lt, up1_ne, up1_eq, wi_T, ite_self, tg_1, tg_68, tg_124, tg_177, tg_11, tg_17, tg_59, tg_78, tg_84, ln_7, ln_16, ln_233, ln_232, ln_6, true_and, and_true, not_true_eq_false, not_false_eq_true, false_implies, true_implies, implies_true, forall_const, forall_eq, if_true, if_false, false_and, and_false, c2.1.2.2.1]
          refine ih S' hS (fun e' h => ?_) _ _ _ _ _
          by_cases q : e' = e
          · subst q; exact hE
          · exact hO e' (by omega)
        · have c2 := MX_ex hS c
          refine p_M_least_64 ?_
          simp (disch := omega) only [lit_add, add_lit, lit_mul, mul_lit, nI_add, nI_clamp, nI_subI, nI_sub1, nI_divL, vp_T, ge_F, ge_T, geL_F, geL_T, leL_F, leL_T, le0_F, le0_T, ge0_T, row_self, row_ne, row_l, row_p, row_row, wI_row, wI_same, wI_cell, wI_place, wI_l, wI_p, lt_T, lt_F, ltL_T, ltL_F, gtL_T, gtL_F, lt0_F, eq_T, eq_F, eqL_T, eqL_F, eqM_F, leM_F, nat_mod, i_10, i_01, i_m1, eq_self_iff_true, rw8_lt, up1_ne, up1_eq, wi_T, ite_self, tg_1, tg_68, tg_124, tg_177, tg_11, tg_17, tg_59, tg_78, tg_84, ln_7, ln_16, ln_233, ln_232, ln_6, true_and, and_true, not_true_eq_false, not_false_eq_true, false_implies, true_implies, implies_true, forall_const, forall_eq, if_true, if_false, false_and, and_false, c2.1.2.2.1]
          refine s_moi c2 he hx (by decide) fun T hT => ?_
          have hS3 := ex_tr hS (ex_mono hT (by decide) (by decide))
          rw [fl_2, or_if, hE, ex_A hS]
          refine ih2 _ (ex_wI hS3 (by decide) (by decide)) (fun e' h => ?_) ?_ _ _ _ _
          · rw [wI_place (by omega), hT.1 241 (by decide)]
            exact hO e' h
          · rw [wI_same, bt]
      refine loop 0 (by omega) _ (ex_wI hS (by decide) (by decide)) (fun e' h => ?_) wI_same _ _ _ _
      rw [wI_place (by omega)]
      exact hO e' h
  -- the shut streets
  have key : ∀ x, x ≤ n → ∀ o3 o4 o5 o6 o7, H_M_least_4 d (bt (fun x => decide (S.1 232 (29 + x) = -1)) x) (nI x) o3 o4 o5 o6 o7 S Q := by
    refine up_to (fun o3 o4 o5 o6 o7 => ?_) fun x hx ih o3 o4 o5 o6 o7 => ?_
    · refine p_M_least_4 ?_
      simp (disch := omega) only [lit_add, add_lit, lit_mul, mul_lit, nI_add, nI_clamp, nI_subI, nI_sub1, nI_divL, vp_T, ge_F, ge_T, geL_F, geL_T, leL_F, leL_T, le0_F, le0_T, ge0_T, row_self, row_ne, row_l, row_p, row_row, wI_row, wI_same, wI_cell, wI_place, wI_l, wI_p, lt_T, lt_F, ltL_T, ltL_F, gtL_T, gtL_F, lt0_F, eq_T, eq_F, eqL_T, eqL_F, eqM_F, leM_F, nat_mod, i_10, i_01, i_m1, eq_self_iff_true, rw8_lt, up1_ne, up1_eq, wi_T, ite_self, tg_1, tg_68, tg_124, tg_177, tg_11, tg_17, tg_59, tg_78, tg_84, ln_7, ln_16, ln_233, ln_232, ln_6, true_and, and_true, not_true_eq_false, not_false_eq_true, false_implies, true_implies, implies_true, forall_const, forall_eq, if_true, if_false, false_and, and_false, c.1.2.2.1]
      exact mid 0 (by omega) S (ex_id S) (fun e' h => absurd h (by omega)) _ _ _ _ _
    · refine p_M_least_4 ?_
      simp (disch := omega) only [lit_add, add_lit, lit_mul, mul_lit, nI_add, nI_clamp, nI_subI, nI_sub1, nI_divL, vp_T, ge_F, ge_T, geL_F, geL_T, leL_F, leL_T, le0_F, le0_T, ge0_T, row_self, row_ne, row_l, row_p, row_row, wI_row, wI_same, wI_cell, wI_place, wI_l, wI_p, lt_T, lt_F, ltL_T, ltL_F, gtL_T, gtL_F, lt0_F, eq_T, eq_F, eqL_T, eqL_F, eqM_F, leM_F, nat_mod, i_10, i_01, i_m1, eq_self_iff_true, rw8_lt, up1_ne, up1_eq, wi_T, ite_self, tg_1, tg_68, tg_124, tg_177, tg_11, tg_17, tg_59, tg_78, tg_84, ln_7, ln_16, ln_233, ln_232, ln_6, true_and, and_true, not_true_eq_false, not_false_eq_true, false_implies, true_implies, implies_true, forall_const, forall_eq, if_true, if_false, false_and, and_false, c.1.2.2.1]
      rw [or_ifP]
      rw [bt] at ih
      exact ih _ _ _ _ _
  exact key 0 (by omega) _ _ _ _ _
/-- the class' choice in a step -/
theorem ls_x {x2 x3 x5 s : Int32} {k j : Nat} {a b : Int32} (h2 : x2 = -1 ∨ ∃ k, k < 256 ∧ x2 = nI k) (hs : s = nI j) (hj : j < 256) :
    (if x2 = -1 then b else if x5 < x3 then b else if x5 = x3 then if (if f_Int_bitCount x2 ≤ f_Int_bitCount s then (0 : Int32) else 1) = 0 then a else b else a) =
    if x2 < 0 ∨ x5 < x3 ∨ (x5 = x3 ∧ ¬ n_bits x2 8 ≤ n_bits s 8) then b else a := by
  subst hs
  rcases h2 with rfl | ⟨k, hk, rfl⟩
  · simp
  · rw [bits_same k hk, bits_same j hj]
    have e1 : (nI k = -1) = False := eqM_F (by omega)
    have e2 : (nI k < 0) = False := lt0_F (by omega)
    simp only [e1, e2, if_false, false_or]
    by_cases h3 : x5 < x3
    · simp [h3]
    · by_cases h4 : x5 = x3
      · by_cases h5 : n_bits (nI k) 8 ≤ n_bits (nI j) 8
        · simp only [h3, h4, h5, if_true, if_false]; simp
        · simp only [h3, h4, h5, if_true, if_false]; simp
      · simp [h3, h4]
theorem xbu {T : fm_S} {s : Int32} (hR : RS T 1 A n m) (hm : m ≤ 6) : ∀ e, e ≤ m → n_Cook_butterOf T s e = buA A s e
  | 0, _ => rfl
  | e + 1, he => by
    rw [n_Cook_butterOf, buA, xbu hR hm e (by omega), nI_clamp (by omega), hR.2.2.2.2.2.2.2.2.2.2 e (by omega)]
theorem xob {T : fm_S} {s : Int32} (hO : ∀ e, e < m → T.1 65 e = oA A n y e) (hm : m ≤ 6) : ∀ e, e ≤ m → n_Cook_openedBy T s e = obA A n y s e
  | 0, _ => rfl
  | e + 1, he => by
    rw [n_Cook_openedBy, obA, xob hO hm e (by omega), nI_clamp (by omega), hO e (by omega)]
theorem s_xleast {Q : Int32 → fm_S → Prop} (c : CX S A n m y)
    (W : ∀ S', ex 54 66 S S' → Q (lsP A n m y (2 ^ m)).1 S') :
    am_Ps vI (d + 5) k_Cook_leastSet [.ref 54] S Q := by
  have hn := c.1.1
  have hm6 := c.1.2.1
  have h2m := pow_le6 hm6
  refine e_Cook_leastSet ?_
  rw [show S.1 1 0 = nI n from c.2.1.1, show (nI n).toNatClampNeg = n from nI_clamp (by omega), show (1 + 16 : Nat) = 17 from rfl, shut_bt c.2.2.1 hn n (Nat.le_refl n)]
  refine ⟨vp_in_nI (by omega) (by decide), ?_⟩
  have fin : ∀ S', ex 54 66 S S' → (∀ e, e < m → S'.1 65 e = oA A n y e) → ∀ o5 o6, H_Cook_leastSet_46 d (shA A n) (-1) 0 0 o5 o6 S' Q := by
    intro S' hS hO
    have c2 := CX_ex hS c
    have r7 : S'.1 1 7 = nI m := c2.2.1.2.1
    have key : ∀ s, s ≤ 2 ^ m → ∀ o5 o6, H_Cook_leastSet_46 d (shA A n) (lsP A n m y s).1 (lsP A n m y s).2 (nI s) o5 o6 S' Q := by
      refine up_to (fun o5 o6 => ?_) fun s hs ih o5 o6 => ?_
      · refine p_Cook_leastSet_46 ?_
        simp (disch := omega) only [lit_add, add_lit, lit_mul, mul_lit, nI_add, nI_clamp, nI_subI, nI_sub1, nI_divL, vp_T, ge_F, ge_T, geL_F, geL_T, leL_F, leL_T, le0_F, le0_T, ge0_T, row_self, row_ne, row_l, row_p, row_row, wI_row, wI_same, wI_cell, wI_place, wI_l, wI_p, lt_T, lt_F, ltL_T, ltL_F, gtL_T, gtL_F, lt0_F, eq_T, eq_F, eqL_T, eqL_F, eqM_F, leM_F, nat_mod, i_10, i_01, i_m1, eq_self_iff_true, rw8_lt, up1_ne, up1_eq, wi_T, ite_self, tg_1, tg_68, tg_124, tg_177, tg_11, tg_17, tg_59, tg_78, tg_84, ln_7, ln_16, ln_233, ln_232, ln_6, true_and, and_true, not_true_eq_false, not_false_eq_true, false_implies, true_implies, implies_true, forall_const, forall_eq, if_true, if_false, false_and, and_false, r7, shl_pow]
        exact W S' hS
      · refine p_Cook_leastSet_46 ?_
        simp (disch := omega) only [lit_add, add_lit, lit_mul, mul_lit, nI_add, nI_clamp, nI_subI, nI_sub1, nI_divL, vp_T, ge_F, ge_T, geL_F, geL_T, leL_F, leL_T, le0_F, le0_T, ge0_T, row_self, row_ne, row_l, row_p, row_row, wI_row, wI_same, wI_cell, wI_place, wI_l, wI_p, lt_T, lt_F, ltL_T, ltL_F, gtL_T, gtL_F, lt0_F, eq_T, eq_F, eqL_T, eqL_F, eqM_F, leM_F, nat_mod, i_10, i_01, i_m1, eq_self_iff_true, rw8_lt, up1_ne, up1_eq, wi_T, ite_self, tg_1, tg_68, tg_124, tg_177, tg_11, tg_17, tg_59, tg_78, tg_84, ln_7, ln_16, ln_233, ln_232, ln_6, true_and, and_true, not_true_eq_false, not_false_eq_true, false_implies, true_implies, implies_true, forall_const, forall_eq, if_true, if_false, false_and, and_false, r7, shl_pow, xbu c2.2.1 hm6 m (Nat.le_refl m), xob hO hm6 m (Nat.le_refl m)]
        have h1 := lsP_1 (A := A) (n := n) (m := m) (y := y) s
        have h1' : (lsP A n m y s).1 = -1 ∨ ∃ k, k < 256 ∧ (lsP A n m y s).1 = nI k := by
          rcases h1 with h | ⟨k, a, b⟩
          · exact Or.inl h
          · exact Or.inr ⟨k, by omega, b⟩
        rw [lsP] at ih
        simp only [fst_if, snd_if] at ih
        refine ⟨fun q => ?_, fun q => ?_⟩
        · rw [ls_x (k := 0) h1' rfl (by omega), ls_x (k := 0) h1' rfl (by omega)]
          simp only [q, true_and] at ih
          exact ih _ _
        · simp only [q, false_and, if_false] at ih
          exact ih _ _
    exact key 0 (Nat.zero_le _)
  have key : ∀ e, e ≤ m → ∀ S', ex 54 66 S S' → (∀ e', e' < e → S'.1 65 e' = oA A n y e') → ∀ o3 o4 o5 o6, H_Cook_leastSet_10 d (shA A n) (nI e) o3 o4 o5 o6 S' Q := by
    refine up_to (fun S' hS hO o3 o4 o5 o6 => ?_) fun e he ih S' hS hO o3 o4 o5 o6 => ?_
    · have c2 := CX_ex hS c
      refine p_Cook_leastSet_10 ?_
      simp (disch := omega) only [lit_add, add_lit, lit_mul, mul_lit, nI_add, nI_clamp, nI_subI, nI_sub1, nI_divL, vp_T, ge_F, ge_T, geL_F, geL_T, leL_F, leL_T, le0_F, le0_T, ge0_T, row_self, row_ne, row_l, row_p, row_row, wI_row, wI_same, wI_cell, wI_place, wI_l, wI_p, lt_T, lt_F, ltL_T, ltL_F, gtL_T, gtL_F, lt0_F, eq_T, eq_F, eqL_T, eqL_F, eqM_F, leM_F, nat_mod, i_10, i_01, i_m1, eq_self_iff_true, rw8_lt, up1_ne, up1_eq, wi_T, ite_self, tg_1, tg_68, tg_124, tg_177, tg_11, tg_17, tg_59, tg_78, tg_84, ln_7, ln_16, ln_233, ln_232, ln_6, true_and, and_true, not_true_eq_false, not_false_eq_true, false_implies, true_implies, implies_true, forall_const, forall_eq, if_true, if_false, false_and, and_false, show S'.1 1 7 = nI m from c2.2.1.2.1]
      exact fin S' hS hO _ _
    · have c2 := CX_ex hS c
      refine p_Cook_leastSet_10 ?_
      simp (disch := omega) only [lit_add, add_lit, lit_mul, mul_lit, nI_add, nI_clamp, nI_subI, nI_sub1, nI_divL, vp_T, ge_F, ge_T, geL_F, geL_T, leL_F, leL_T, le0_F, le0_T, ge0_T, row_self, row_ne, row_l, row_p, row_row, wI_row, wI_same, wI_cell, wI_place, wI_l, wI_p, lt_T, lt_F, ltL_T, ltL_F, gtL_T, gtL_F, lt0_F, eq_T, eq_F, eqL_T, eqL_F, eqM_F, leM_F, nat_mod, i_10, i_01, i_m1, eq_self_iff_true, rw8_lt, up1_ne, up1_eq, wi_T, ite_self, tg_1, tg_68, tg_124, tg_177, tg_11, tg_17, tg_59, tg_78, tg_84, ln_7, ln_16, ln_233, ln_232, ln_6, true_and, and_true, not_true_eq_false, not_false_eq_true, false_implies, true_implies, implies_true, forall_const, forall_eq, if_true, if_false, false_and, and_false, show S'.1 1 7 = nI m from c2.2.1.2.1]
      refine s_xalone c2 he (by decide) fun T hT => ?_
      refine ih _ (ex_wI (ex_tr hS (ex_mono hT (by decide) (by decide))) (by decide) (by decide)) (fun e' h => ?_) _ _ _ _
      by_cases q : e' = e
      · subst q; exact wI_same
      · rw [wI_place q, hT.1 65 (by decide)]
        exact hO e' (by omega)
  exact key 0 (by omega) S (ex_id S) (fun e' h => absurd h (by omega)) _ _ _ _
end LEAST
