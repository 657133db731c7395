/-! what opens, and a day: the reference's array behind it -/
def wd (A : Nat → Int32) (z : Nat) : Nat := tn (A (121 + z % 4))
def mvI (A : Nat → Int32) (dd : Nat) (h : Int32) (mm x : Nat) : Int32 :=
  f_M_movedBy (A (5 + x)) (A (21 + x)) (A (125 + dd)) (nI (spA A (tn (A (131 + dd))) (wd A (tn (A 4))) h mm x)) (A 4) (if A (37 + x) = A (125 + dd) then A (45 + x) else 0)
def po (A : Nat → Int32) (dd : Nat) (h : Int32) (mm x : Nat) : Bool := decide (A (29 + x) = -1 ∧ ¬ mvI A dd h mm x < 10)
def smA (A : Nat → Int32) (dd x : Nat) : Bool := decide (0 < spA A (tn (A (131 + dd))) (wd A (tn (A 4))) (-1) 0 x)
/-- the first i streets behind the day: p opens, sm smells, of s -/
def gdi (A : Nat → Int32) (p sm : Nat → Bool) (s : Int32) (i : Nat) : Nat → Int32 := fun j =>
  if 29 ≤ j ∧ j < 29 + i then (if p (j - 29) = true then A 4 else A j)
  else if 37 ≤ j ∧ j < 37 + i then (if sm (j - 37) = true then s else -1)
  else if 45 ≤ j ∧ j < 45 + i then (if sm (j - 45) = true then (if A (j - 8) = s then A j + 1 else 1) else 0)
  else A j
theorem gdi_0 (A : Nat → Int32) (p sm : Nat → Bool) (s : Int32) : gdi A p sm s 0 = A := by
  funext j
  unfold gdi
  rw [if_neg (by omega), if_neg (by omega), if_neg (by omega)]
theorem gdi_o {A : Nat → Int32} {p sm : Nat → Bool} {s : Int32} {i j : Nat} (hi : i ≤ 8) (h : j < 29 ∨ 53 ≤ j ∨ (29 + i ≤ j ∧ j < 37) ∨ (37 + i ≤ j ∧ j < 45) ∨ 45 + i ≤ j) : gdi A p sm s i j = A j := by
  unfold gdi
  rw [if_neg (by omega), if_neg (by omega), if_neg (by omega)]
theorem gdi_s {A : Nat → Int32} {p sm : Nat → Bool} {s : Int32} {i : Nat} (hi : i < 8) :
    up1 (up1 (up1 (gdi A p sm s i) (29 + i) (if p i = true then A 4 else A (29 + i))) (45 + i) (if sm i = true then (if A (37 + i) = s then A (45 + i) + 1 else 1) else 0)) (37 + i) (if sm i = true then s else -1) = gdi A p sm s (i + 1) := by
  funext j
  simp only [up1]
  by_cases e1 : j = 37 + i
  · subst e1
    rw [if_pos rfl]
    symm
    unfold gdi
    rw [if_neg (by omega), if_pos (by omega), show 37 + i - 37 = i by omega]
  · rw [if_neg e1]
    by_cases e2 : j = 45 + i
    · subst e2
      rw [if_pos rfl]
      symm
      unfold gdi
      rw [if_neg (by omega), if_neg (by omega), if_pos (by omega), show 45 + i - 45 = i by omega, show 45 + i - 8 = 37 + i by omega]
    · rw [if_neg e2]
      by_cases e3 : j = 29 + i
      · subst e3
        rw [if_pos rfl]
        symm
        unfold gdi
        rw [if_pos (by omega), show 29 + i - 29 = i by omega]
      · rw [if_neg e3]
        have c1 : (29 ≤ j ∧ j < 29 + (i + 1)) = (29 ≤ j ∧ j < 29 + i) := propext (by omega)
        have c2 : (37 ≤ j ∧ j < 37 + (i + 1)) = (37 ≤ j ∧ j < 37 + i) := propext (by omega)
        have c3 : (45 ≤ j ∧ j < 45 + (i + 1)) = (45 ≤ j ∧ j < 45 + i) := propext (by omega)
        unfold gdi
        simp only [c1, c2, c3]
/-- the array behind a day -/
def gdA (A : Nat → Int32) (p sm : Nat → Bool) (s : Int32) (n : Nat) : Nat → Int32 := up1 (gdi A p sm s n) 4 (A 4 + 1)
theorem wd_lt {A : Nat → Int32} {n m z : Nat} (hW : WS A n m) : A (121 + z % 4) = nI (wd A z) ∧ wd A z < 4 := by
  have h := hW.2.2.2.2.2.2.2.2.1 (z % 4) (by omega)
  exact ⟨h.1, by have := h.2; unfold wd; omega⟩
theorem movedIn_eq {S : fm_S} {x : Nat} {sm v dy : Int32} (hx : x < 8) : f_M_movedIn S (nI x) sm v dy = f_M_movedBy (S.1 232 (5 + x)) (S.1 232 (21 + x)) sm v dy (if S.1 232 (37 + x) = sm then S.1 232 (45 + x) else 0) := by
  unfold f_M_movedIn
  simp (disch := omega) only [lit_add, add_lit, lit_mul, mul_lit, nI_add, nI_clamp, nI_subI, nI_sub1, nI_divL, vp_T, ge_F, ge_T, geL_F, geL_T, leL_F, leL_T, le0_F, le0_T, ge0_T, row_self, row_ne, row_l, row_p, row_row, wI_row, wI_same, wI_cell, wI_place, wI_l, wI_p, lt_T, lt_F, ltL_T, ltL_F, gtL_T, gtL_F, lt0_F, eq_T, eq_F, eqL_T, eqL_F, eqM_F, leM_F, nat_mod, i_10, i_01, i_m1, eq_self_iff_true, rw8_lt, up1_ne, up1_eq, wi_T, ite_self, tg_1, tg_68, tg_124, tg_177, tg_11, tg_17, tg_59, tg_78, tg_84, ln_7, ln_16, ln_233, ln_232, ln_6, true_and, and_true, not_true_eq_false, not_false_eq_true, false_implies, true_implies, implies_true, forall_const, forall_eq, if_true, if_false, false_and, and_false]
  split <;> rfl
theorem isDish_n {S : fm_S} {x : Int32} {m : Nat} (h1 : S.1 232 1 = nI m) : f_M_isDish S x = f_X_within x 0 (nI m - 1) := by rw [isDish_w, h1]
theorem isDish_T {S : fm_S} {dd m : Nat} (h1 : S.1 232 1 = nI m) (hm : m < 1000) (hd : dd < m) : f_M_isDish S (nI dd) = 1 := by rw [isDish_n h1, wi_str (by omega) (by omega), if_pos hd]
theorem op_if {P R : Prop} [Decidable P] [Decidable R] : (if P then if R then (0 : Int32) else 1 else 0) = if decide (P ∧ ¬ R) = true then 1 else 0 := by
  by_cases h : P <;> by_cases h2 : R <;> simp [h, h2]
theorem fl_2 {b : Bool} {z : Int32} : (if (if b = true then (1 : Int32) else 0) = 0 then (0 : Int32) else z) = if b = true then z else 0 := by cases b <;> rfl
theorem or_if {b : Bool} {x z : Int32} : (x ||| if b = true then z else 0) = if b = true then x ||| z else x := by
  cases b
  · exact Int32.or_zero
  · rfl
section DAY
variable {d n m y : Nat} {S : fm_S} {h : Int32} {mm dd : Nat}
/-- the reference's opening -/
theorem s_mo {Q : Int32 → fm_S → Prop} (hW : WS (S.1 232) n m) (hy : S.1 232 4 = nI y) (hyb : y < 2000) (hd : dd < m) (hm : mm ≤ 9)
    (W : ∀ v, (∀ x, x < 8 → v x = nI (spA (S.1 232) (tn (S.1 232 (131 + dd))) (wd (S.1 232) (tn (S.1 232 4))) h mm x)) → Q (bt (po (S.1 232) dd h mm) n) (fm_row S 238 v)) :
    am_Ps vI (d + 3) k_M_opening [.ref 231, .int (nI dd), .int h, .int (nI mm)] S Q := by
  have hW' := hW
  obtain ⟨hn, hm6, h0, h1, hk, hw9, hl, hg, hwi, hsm, hst, -⟩ := hW'
  obtain ⟨es, ls⟩ := hst dd hd
  obtain ⟨ew, lw⟩ := wd_lt (z := y) hW
  refine e_M_opening ?_
  rw [isDish_T h1 (by omega) hd]
  refine ⟨fun q => absurd q (by decide), fun _ => ?_⟩
  · unfold f_M_windOf
    simp (disch := omega) only [lit_add, add_lit, lit_mul, mul_lit, nI_add, nI_clamp, nI_subI, nI_sub1, nI_divL, vp_T, ge_F, ge_T, geL_F, geL_T, leL_F, leL_T, le0_F, le0_T, ge0_T, row_self, row_ne, row_l, row_p, row_row, wI_row, wI_same, wI_cell, wI_place, wI_l, wI_p, lt_T, lt_F, ltL_T, ltL_F, gtL_T, gtL_F, lt0_F, eq_T, eq_F, eqL_T, eqL_F, eqM_F, leM_F, nat_mod, i_10, i_01, i_m1, eq_self_iff_true, rw8_lt, up1_ne, up1_eq, wi_T, ite_self, tg_1, tg_68, tg_124, tg_177, tg_11, tg_17, tg_59, tg_78, tg_84, ln_7, ln_16, ln_233, ln_232, ln_6, true_and, and_true, not_true_eq_false, not_false_eq_true, false_implies, true_implies, implies_true, forall_const, forall_eq, if_true, if_false, false_and, and_false, hy, ew]
    rw [es]
    refine s_ms hW ls lw hm fun v hv => ?_
    have hyt : tn (S.1 232 4) = y := by rw [hy]; unfold tn; exact nI_clamp (by omega)
    have key : ∀ i, i ≤ n → ∀ o6, H_M_opening_40 d (nI dd) h (nI mm) (bt (po (S.1 232) dd h mm) i) (nI i) o6 (fm_row S 238 v) Q := by
      refine up_to (fun o6 => ?_) fun i hi ih o6 => ?_
      · refine p_M_opening_40 ?_
        simp (disch := omega) only [lit_add, add_lit, lit_mul, mul_lit, nI_add, nI_clamp, nI_subI, nI_sub1, nI_divL, vp_T, ge_F, ge_T, geL_F, geL_T, leL_F, leL_T, le0_F, le0_T, ge0_T, row_self, row_ne, row_l, row_p, row_row, wI_row, wI_same, wI_cell, wI_place, wI_l, wI_p, lt_T, lt_F, ltL_T, ltL_F, gtL_T, gtL_F, lt0_F, eq_T, eq_F, eqL_T, eqL_F, eqM_F, leM_F, nat_mod, i_10, i_01, i_m1, eq_self_iff_true, rw8_lt, up1_ne, up1_eq, wi_T, ite_self, tg_1, tg_68, tg_124, tg_177, tg_11, tg_17, tg_59, tg_78, tg_84, ln_7, ln_16, ln_233, ln_232, ln_6, true_and, and_true, not_true_eq_false, not_false_eq_true, false_implies, true_implies, implies_true, forall_const, forall_eq, if_true, if_false, false_and, and_false, h0]
        refine W v fun x hx => ?_
        rw [hv x hx, hyt]
      · refine p_M_opening_40 ?_
        simp (disch := omega) only [lit_add, add_lit, lit_mul, mul_lit, nI_add, nI_clamp, nI_subI, nI_sub1, nI_divL, vp_T, ge_F, ge_T, geL_F, geL_T, leL_F, leL_T, le0_F, le0_T, ge0_T, row_self, row_ne, row_l, row_p, row_row, wI_row, wI_same, wI_cell, wI_place, wI_l, wI_p, lt_T, lt_F, ltL_T, ltL_F, gtL_T, gtL_F, lt0_F, eq_T, eq_F, eqL_T, eqL_F, eqM_F, leM_F, nat_mod, i_10, i_01, i_m1, eq_self_iff_true, rw8_lt, up1_ne, up1_eq, wi_T, ite_self, tg_1, tg_68, tg_124, tg_177, tg_11, tg_17, tg_59, tg_78, tg_84, ln_7, ln_16, ln_233, ln_232, ln_6, true_and, and_true, not_true_eq_false, not_false_eq_true, false_implies, true_implies, implies_true, forall_const, forall_eq, if_true, if_false, false_and, and_false, h0, movedIn_eq]
        have e := ih
        rw [bt] at e
        have em : f_M_movedBy (S.1 232 (5 + i)) (S.1 232 (21 + i)) (S.1 232 (125 + dd)) (v i) (S.1 232 4) (if S.1 232 (37 + i) = S.1 232 (125 + dd) then S.1 232 (45 + i) else 0) = mvI (S.1 232) dd h mm i := by
          unfold mvI
          rw [hv i (by omega), hyt]
        rw [em, op_if]
        rw [show decide (S.1 232 (29 + i) = -1 ∧ ¬ mvI (S.1 232) dd h mm i < 10) = po (S.1 232) dd h mm i from rfl, fl_2, or_if]
        exact e _
    exact key 0 (by omega) _
theorem s_mo0 {Q : Int32 → fm_S → Prop} {x : Int32} (hx : f_M_isDish S x = 0) (W : Q 0 S) : am_Ps vI (d + 3) k_M_opening [.ref 231, .int x, .int h, .int (nI mm)] S Q :=
  e_M_opening ⟨fun _ => W, fun q => absurd hx q⟩
/-- the reference's loop over the streets -/
theorem s_mgl {Q : Int32 → fm_S → Prop} {x1 : Int32} {v : Nat → Int32} {p sm : Nat → Bool} {s : Int32} (hW : WS (S.1 232) n m)
    (hD : (f_M_isDish S x1 = 0 ∧ ∀ x, sm x = false) ∨ (∃ dd, dd < m ∧ x1 = nI dd ∧ s = S.1 232 (125 + dd) ∧ ∀ x, x < n → (v x ≤ 0 ↔ sm x = false)))
    (W : Q (bt p n) (fm_row (fm_row S 238 v) 232 (gdA (S.1 232) p sm s n))) :
    H_M_goDay_10 d x1 (bt p n) 0 none none (fm_row S 238 v) Q := by
  obtain ⟨hn, hm6, h0, h1, -⟩ := hW
  have key : ∀ i, i ≤ n → ∀ o4 o5, H_M_goDay_10 d x1 (bt p n) (nI i) o4 o5 (fm_row (fm_row S 238 v) 232 (gdi (S.1 232) p sm s i)) Q := by
    refine up_to (fun o4 o5 => ?_) fun i hi ih o4 o5 => ?_
    · refine p_M_goDay_10 ?_
      simp (disch := omega) only [lit_add, add_lit, lit_mul, mul_lit, nI_add, nI_clamp, nI_subI, nI_sub1, nI_divL, vp_T, ge_F, ge_T, geL_F, geL_T, leL_F, leL_T, le0_F, le0_T, ge0_T, row_self, row_ne, row_l, row_p, row_row, wI_row, wI_same, wI_cell, wI_place, wI_l, wI_p, lt_T, lt_F, ltL_T, ltL_F, gtL_T, gtL_F, lt0_F, eq_T, eq_F, eqL_T, eqL_F, eqM_F, leM_F, nat_mod, i_10, i_01, i_m1, eq_self_iff_true, rw8_lt, up1_ne, up1_eq, wi_T, ite_self, tg_1, tg_68, tg_124, tg_177, tg_11, tg_17, tg_59, tg_78, tg_84, ln_7, ln_16, ln_233, ln_232, ln_6, true_and, and_true, not_true_eq_false, not_false_eq_true, false_implies, true_implies, implies_true, forall_const, forall_eq, if_true, if_false, false_and, and_false, h0, gdi_o]
      exact W
    · refine p_M_goDay_10 ?_
      have e := ih
      rw [← gdi_s (by omega)] at e
      have ep : (if (if p i = true then (1 : Int32) else 0) = 0 then S.1 232 (29 + i) else S.1 232 4) = if p i = true then S.1 232 4 else S.1 232 (29 + i) := by cases p i <;> rfl
      rcases hD with ⟨hz, hs⟩ | ⟨dd, hd, rfl, rfl, hv⟩
      · rw [isDish_n h1] at hz
        simp (disch := omega) only [lit_add, add_lit, lit_mul, mul_lit, nI_add, nI_clamp, nI_subI, nI_sub1, nI_divL, vp_T, ge_F, ge_T, geL_F, geL_T, leL_F, leL_T, le0_F, le0_T, ge0_T, row_self, row_ne, row_l, row_p, row_row, wI_row, wI_same, wI_cell, wI_place, wI_l, wI_p, lt_T, lt_F, ltL_T, ltL_F, gtL_T, gtL_F, lt0_F, eq_T, eq_F, eqL_T, eqL_F, eqM_F, leM_F, nat_mod, i_10, i_01, i_m1, eq_self_iff_true, rw8_lt, up1_ne, up1_eq, wi_T, ite_self, tg_1, tg_68, tg_124, tg_177, tg_11, tg_17, tg_59, tg_78, tg_84, ln_7, ln_16, ln_233, ln_232, ln_6, true_and, and_true, not_true_eq_false, not_false_eq_true, false_implies, true_implies, implies_true, forall_const, forall_eq, if_true, if_false, false_and, and_false, h0, h1, gdi_o, isDish_w, mx_has, bt_has, hz, ep]
        rw [hs i] at e
        exact e _ _
      · rcases hb : sm i with _ | _
        · have hvi : (v i ≤ 0) = True := eq_true ((hv i hi).mpr hb)
          simp (disch := omega) only [lit_add, add_lit, lit_mul, mul_lit, nI_add, nI_clamp, nI_subI, nI_sub1, nI_divL, vp_T, ge_F, ge_T, geL_F, geL_T, leL_F, leL_T, le0_F, le0_T, ge0_T, row_self, row_ne, row_l, row_p, row_row, wI_row, wI_same, wI_cell, wI_place, wI_l, wI_p, lt_T, lt_F, ltL_T, ltL_F, gtL_T, gtL_F, lt0_F, eq_T, eq_F, eqL_T, eqL_F, eqM_F, leM_F, nat_mod, i_10, i_01, i_m1, eq_self_iff_true, rw8_lt, up1_ne, up1_eq, wi_T, ite_self, tg_1, tg_68, tg_124, tg_177, tg_11, tg_17, tg_59, tg_78, tg_84, ln_7, ln_16, ln_233, ln_232, ln_6, true_and, and_true, not_true_eq_false, not_false_eq_true, false_implies, true_implies, implies_true, forall_const, forall_eq, if_true, if_false, false_and, and_false, h0, h1, gdi_o, isDish_w, mx_has, bt_has, hvi, ep]
          rw [hb] at e
          exact e _ _
        · have hvi : (v i ≤ 0) = False := eq_false fun q => by rw [(hv i hi).mp q] at hb; cases hb
          simp (disch := omega) only [lit_add, add_lit, lit_mul, mul_lit, nI_add, nI_clamp, nI_subI, nI_sub1, nI_divL, vp_T, ge_F, ge_T, geL_F, geL_T, leL_F, leL_T, le0_F, le0_T, ge0_T, row_self, row_ne, row_l, row_p, row_row, wI_row, wI_same, wI_cell, wI_place, wI_l, wI_p, lt_T, lt_F, ltL_T, ltL_F, gtL_T, gtL_F, lt0_F, eq_T, eq_F, eqL_T, eqL_F, eqM_F, leM_F, nat_mod, i_10, i_01, i_m1, eq_self_iff_true, rw8_lt, up1_ne, up1_eq, wi_T, ite_self, tg_1, tg_68, tg_124, tg_177, tg_11, tg_17, tg_59, tg_78, tg_84, ln_7, ln_16, ln_233, ln_232, ln_6, true_and, and_true, not_true_eq_false, not_false_eq_true, false_implies, true_implies, implies_true, forall_const, forall_eq, if_true, if_false, false_and, and_false, h0, h1, gdi_o, isDish_w, mx_has, bt_has, hvi, ep]
          rw [hb] at e
          simp only [if_true] at e
          exact e _ _
  have z := key 0 (by omega) none none
  rw [gdi_0, show fm_row (fm_row S 238 v) 232 (S.1 232) = fm_row S 238 v from row_id (fm_row S 238 v) 232] at z
  exact z
/-- the reference's day -/
theorem gd_end {A : Nat → Int32} {p sm : Nat → Bool} {s : Int32} {n i : Nat} (hi : i ≠ 4) : gdA A p sm s n i = gdi A p sm s n i := up1_ne hi
def dayA (A : Nat → Int32) (n dd : Nat) : Nat → Int32 := gdA A (po A dd (-1) 0) (smA A dd) (A (125 + dd)) n
def day0 (A : Nat → Int32) (n : Nat) : Nat → Int32 := gdA A (fun _ => false) (fun _ => false) 0 n
theorem bt_none : ∀ n, bt (fun _ => false) n = 0
  | 0 => rfl
  | n + 1 => by rw [bt]; exact bt_none n
theorem s_mgd {Q : Int32 → fm_S → Prop} (hW : WS (S.1 232) n m) (hy : S.1 232 4 = nI y) (hyb : y < 2000) (hd : dd < m)
    (W : ∀ v, Q (bt (po (S.1 232) dd (-1) 0) n) (fm_row (fm_row S 238 v) 232 (dayA (S.1 232) n dd))) :
    am_Ps vI (d + 4) k_M_goDay [.ref 231, .int (nI dd)] S Q := by
  refine e_M_goDay ?_
  refine s_mo (mm := 0) hW hy hyb hd (by decide) fun v hv => ?_
  refine s_mgl (sm := smA (S.1 232) dd) (s := S.1 232 (125 + dd)) hW (Or.inr ⟨dd, hd, rfl, rfl, fun x hx => ?_⟩) (W v)
  rw [hv x (by have := hW.1; omega)]
  have hle := spA_le (A := S.1 232) (so := tn (S.1 232 (131 + dd))) (w := wd (S.1 232) (tn (S.1 232 4))) (h := -1) (m := 0) x
  have h30 := (hW.2.2.2.2.2.2.2.2.2.2.1 dd hd).2
  unfold smA
  generalize spA (S.1 232) (tn (S.1 232 (131 + dd))) (wd (S.1 232) (tn (S.1 232 4))) (-1) 0 x = z at hle
  rcases Nat.eq_zero_or_pos z with q | q
  · subst q
    exact ⟨fun _ => rfl, fun _ => by decide⟩
  · exact ⟨fun q2 => absurd q2 (nI_nle q (by omega)), fun q2 => absurd q (of_decide_eq_false q2)⟩
theorem s_mgd0 {Q : Int32 → fm_S → Prop} {x : Int32} (hW : WS (S.1 232) n m) (hx : f_M_isDish S x = 0)
    (W : Q 0 (fm_row S 232 (day0 (S.1 232) n))) :
    am_Ps vI (d + 4) k_M_goDay [.ref 231, .int x] S Q := by
  refine e_M_goDay (s_mo0 (mm := 0) hx ?_)
  have z := s_mgl (d := d) (Q := Q) (v := S.1 238) (p := fun _ => false) (sm := fun _ => false) (s := 0) (x1 := x) hW (Or.inl ⟨hx, fun _ => rfl⟩)
  rw [bt_none, row_id] at z
  exact z W
end DAY
