/-! the text: where runs end -/
def bl (x : Int32) : Bool := decide (x = 32)
def lt (x : Int32) : Bool := decide (¬ f_X_within x 97 122 = 0)
def fg (x : Int32) : Bool := decide (¬ f_X_within x 48 57 = 0)
def rn (P : Int32 → Bool) (T : Nat → Int32) (L : Nat) : Nat → Nat → Nat
  | 0, p => p
  | f + 1, p => if p < L ∧ P (T p) = true then rn P T L f (p + 1) else p
def re (P : Int32 → Bool) (T : Nat → Int32) (L p : Nat) : Nat := rn P T L (L - p) p
section RE
variable {P : Int32 → Bool} {T : Nat → Int32} {L p : Nat}
theorem re_go (h : p < L) (h2 : P (T p) = true) : re P T L p = re P T L (p + 1) := by
  unfold re
  obtain ⟨k, hk⟩ : ∃ k, L - p = k + 1 := ⟨L - p - 1, by omega⟩
  rw [hk, rn, if_pos ⟨h, h2⟩, show L - (p + 1) = k by omega]
theorem re_st (h : L ≤ p ∨ P (T p) = false) : re P T L p = p := by
  unfold re
  rcases hk : L - p with _ | k
  · rfl
  · rw [rn, if_neg]
    rintro ⟨a, b⟩
    rcases h with h | h
    · omega
    · rw [h] at b; cases b
theorem rn_ge : ∀ f p, p ≤ rn P T L f p
  | 0, p => Nat.le_refl p
  | f + 1, p => by
    rw [rn]
    split
    · exact Nat.le_trans (Nat.le_succ p) (rn_ge f (p + 1))
    · exact Nat.le_refl p
theorem rn_le : ∀ f p, p ≤ L → rn P T L f p ≤ L
  | 0, p, h => h
  | f + 1, p, h => by
    rw [rn]
    split
    · rename_i z; exact rn_le f (p + 1) z.1
    · exact h
theorem re_ge : p ≤ re P T L p := rn_ge _ p
theorem re_le (h : p ≤ L) : re P T L p ≤ L := rn_le _ p h
/-- going down a run -/
theorem re_ind {C : Nat → Prop} (h : ∀ p, p ≤ L → (L ≤ p ∨ P (T p) = false) → C p) (hs : ∀ p, p < L → P (T p) = true → C (p + 1) → C p) : ∀ p, p ≤ L → C p := by
  intro p hp
  obtain ⟨k, hk⟩ : ∃ k, k + p = L := ⟨L - p, by omega⟩
  induction k generalizing p with
  | zero => exact h p hp (Or.inl (by omega))
  | succ k ih =>
    rcases hb : P (T p) with _ | _
    · exact h p hp (Or.inr hb)
    · exact hs p (by omega) hb (ih (p + 1) (by omega) (by omega))
end RE
/-- of a number the value -/
def vl (T : Nat → Int32) (b : Nat) : Nat → Int32
  | 0 => 0
  | k + 1 => if k < 2 then 10 * vl T b k + T (b + k) - 48 else vl T b k
section TAKE
variable {d L p : Nat} {S : fm_S} {T : Nat → Int32} {Q : Unit → fm_S → Prop}
/-- what take leaves in the reader -/
def tkR (T : Nat → Int32) (L p : Nat) (g r : Nat → Int32) : Prop :=
  (∀ j, j ≠ 5 → j ≠ 6 → j ≠ 7 → j ≠ 8 → r j = g j) ∧ r 6 = nI (re bl T L p) ∧
  (re bl T L p = L → r 7 = 0 ∧ r 5 = nI L) ∧
  (re bl T L p < L → lt (T (re bl T L p)) = true → r 7 = 1 ∧ r 5 = nI (re lt T L (re bl T L p))) ∧
  (re bl T L p < L → lt (T (re bl T L p)) = false → fg (T (re bl T L p)) = true → r 5 = nI (re fg T L (re bl T L p)) ∧ r 7 = (if re fg T L (re bl T L p) - re bl T L p ≤ 2 then 2 else 4) ∧ (re fg T L (re bl T L p) - re bl T L p ≤ 2 → r 8 = vl T (re bl T L p) (re fg T L (re bl T L p) - re bl T L p))) ∧
  (re bl T L p < L → lt (T (re bl T L p)) = false → fg (T (re bl T L p)) = false → r 5 = nI (re bl T L p + 1) ∧ r 7 = if T (re bl T L p) = 59 then 3 else 4)
theorem rd_lt {x : Int32} : (f_Reader_isLetter x = 0) = (lt x = false) := by
  show (f_X_within x 97 122 = 0) = _
  unfold lt
  by_cases h : f_X_within x 97 122 = 0 <;> simp [h]
theorem rd_fg {x : Int32} : (f_Reader_isFigure x = 0) = (fg x = false) := by
  show (f_X_within x 48 57 = 0) = _
  unfold fg
  by_cases h : f_X_within x 48 57 = 0 <;> simp [h]
/-- through the letters -/
theorem take_l (hL : L ≤ 150) (hT : ∀ k, k < L → S.1 121 k = T k) : ∀ p, p ≤ L → ∀ g : Nat → Int32, g 0 = nI L → g 5 = nI p → (∀ r, (∀ j, j ≠ 5 → r j = g j) → r 5 = nI (re lt T L p) → Q () (fm_row S 67 r)) → H_Reader_take_85 d (fm_row S 67 g) Q := by
  refine re_ind (P := lt) (T := T) (fun p hp hb g g0 g5 W => ?_) fun p hp hb ih g g0 g5 W => ?_
  · have z := W g (fun _ _ => rfl) (by rw [re_st hb]; exact g5)
    refine p_Reader_take_85 ?_
    rcases Nat.lt_or_ge p L with q | q
    · have hb' := hb.resolve_left (by omega)
      have e : (f_Reader_isLetter (T p) = 0) = True := by rw [rd_lt, hb']; simp
      simp (disch := omega) only [lit_add, add_lit, lit_mul, mul_lit, nI_add, nI_clamp, nI_subI, nI_sub1, nI_divL, vp_T, ge_F, ge_T, geL_F, geL_T, leL_F, leL_T, le0_F, le0_T, ge0_T, row_self, row_ne, row_l, row_p, row_row, wI_row, wI_same, wI_cell, wI_place, wI_l, wI_p, lt_T, lt_F, ltL_T, ltL_F, gtL_T, gtL_F, lt0_F, eq_T, eq_F, eqL_T, eqL_F, eqM_F, leM_F, nat_mod, i_10, i_01, i_m1, eq_self_iff_true, rw8_lt, up1_ne, up1_eq, wi_T, ite_self, tg_1, tg_68, tg_124, tg_177, tg_11, tg_17, tg_59, tg_78, tg_84, ln_7, ln_16, ln_233, ln_232, ln_6, true_and, and_true, not_true_eq_false, not_false_eq_true, false_implies, true_implies, implies_true, forall_const, forall_eq, if_true, if_false, false_and, and_false, g0, g5, hT, e]
      exact z
    · simp (disch := omega) only [lit_add, add_lit, lit_mul, mul_lit, nI_add, nI_clamp, nI_subI, nI_sub1, nI_divL, vp_T, ge_F, ge_T, geL_F, geL_T, leL_F, leL_T, le0_F, le0_T, ge0_T, row_self, row_ne, row_l, row_p, row_row, wI_row, wI_same, wI_cell, wI_place, wI_l, wI_p, lt_T, lt_F, ltL_T, ltL_F, gtL_T, gtL_F, lt0_F, eq_T, eq_F, eqL_T, eqL_F, eqM_F, leM_F, nat_mod, i_10, i_01, i_m1, eq_self_iff_true, rw8_lt, up1_ne, up1_eq, wi_T, ite_self, tg_1, tg_68, tg_124, tg_177, tg_11, tg_17, tg_59, tg_78, tg_84, ln_7, ln_16, ln_233, ln_232, ln_6, true_and, and_true, not_true_eq_false, not_false_eq_true, false_implies, true_implies, implies_true, forall_const, forall_eq, if_true, if_false, false_and, and_false, g0, g5]
      exact z
  · have e : (f_Reader_isLetter (T p) = 0) = False := by rw [rd_lt, hb]; simp
    refine p_Reader_take_85 ?_
    simp (disch := omega) only [lit_add, add_lit, lit_mul, mul_lit, nI_add, nI_clamp, nI_subI, nI_sub1, nI_divL, vp_T, ge_F, ge_T, geL_F, geL_T, leL_F, leL_T, le0_F, le0_T, ge0_T, row_self, row_ne, row_l, row_p, row_row, wI_row, wI_same, wI_cell, wI_place, wI_l, wI_p, lt_T, lt_F, ltL_T, ltL_F, gtL_T, gtL_F, lt0_F, eq_T, eq_F, eqL_T, eqL_F, eqM_F, leM_F, nat_mod, i_10, i_01, i_m1, eq_self_iff_true, rw8_lt, up1_ne, up1_eq, wi_T, ite_self, tg_1, tg_68, tg_124, tg_177, tg_11, tg_17, tg_59, tg_78, tg_84, ln_7, ln_16, ln_233, ln_232, ln_6, true_and, and_true, not_true_eq_false, not_false_eq_true, false_implies, true_implies, implies_true, forall_const, forall_eq, if_true, if_false, false_and, and_false, g0, g5, hT, e]
    refine ih _ (by rw [up1_ne (by omega)]; exact g0) up1_eq fun r h1 h2 => W r (fun j hj => by rw [h1 j hj, up1_ne hj]) (by rw [re_go hp hb]; exact h2)
/-- through the figures -/
theorem take_f (hL : L ≤ 150) (hT : ∀ k, k < L → S.1 121 k = T k) {b : Nat} : ∀ p, p ≤ L → b ≤ p → ∀ g : Nat → Int32, g 0 = nI L → g 6 = nI b → g 5 = nI p → g 8 = vl T b (p - b) →
    (∀ r, (∀ j, j ≠ 5 → j ≠ 7 → j ≠ 8 → r j = g j) → r 5 = nI (re fg T L p) → r 7 = (if re fg T L p - b ≤ 2 then 2 else 4) → r 8 = vl T b (re fg T L p - b) → Q () (fm_row S 67 r)) → H_Reader_take_144 d (fm_row S 67 g) Q := by
  refine re_ind (P := fg) (T := T) (fun p hp hb hbp g g0 g6 g5 g8 W => ?_) fun p hp hb ih hbp g g0 g6 g5 g8 W => ?_
  · have z : Q () (fm_row S 67 (up1 g 7 (if nI (p - b) ≤ 2 then (2 : Int32) else 4))) := by
      refine W _ (fun j a b c => up1_ne b) (by rw [up1_ne (by omega), re_st hb]; exact g5) ?_ (by rw [up1_ne (by omega), re_st hb]; exact g8)
      rw [up1_eq, re_st hb]
      by_cases q : p - b ≤ 2
      · rw [if_pos q]; exact if_pos (nI_le (b := 2) q (by omega))
      · rw [if_neg q]; exact if_neg (nI_ge (a := 2) (b := p - b) (by omega) (by omega))
    refine p_Reader_take_144 ?_
    rcases Nat.lt_or_ge p L with q | q
    · have hb' := hb.resolve_left (by omega)
      have e : (f_Reader_isFigure (T p) = 0) = True := by rw [rd_fg, hb']; simp
      simp (disch := omega) only [lit_add, add_lit, lit_mul, mul_lit, nI_add, nI_clamp, nI_subI, nI_sub1, nI_divL, vp_T, ge_F, ge_T, geL_F, geL_T, leL_F, leL_T, le0_F, le0_T, ge0_T, row_self, row_ne, row_l, row_p, row_row, wI_row, wI_same, wI_cell, wI_place, wI_l, wI_p, lt_T, lt_F, ltL_T, ltL_F, gtL_T, gtL_F, lt0_F, eq_T, eq_F, eqL_T, eqL_F, eqM_F, leM_F, nat_mod, i_10, i_01, i_m1, eq_self_iff_true, rw8_lt, up1_ne, up1_eq, wi_T, ite_self, tg_1, tg_68, tg_124, tg_177, tg_11, tg_17, tg_59, tg_78, tg_84, ln_7, ln_16, ln_233, ln_232, ln_6, true_and, and_true, not_true_eq_false, not_false_eq_true, false_implies, true_implies, implies_true, forall_const, forall_eq, if_true, if_false, false_and, and_false, g0, g5, g6, hT, e]
      exact z
    · simp (disch := omega) only [lit_add, add_lit, lit_mul, mul_lit, nI_add, nI_clamp, nI_subI, nI_sub1, nI_divL, vp_T, ge_F, ge_T, geL_F, geL_T, leL_F, leL_T, le0_F, le0_T, ge0_T, row_self, row_ne, row_l, row_p, row_row, wI_row, wI_same, wI_cell, wI_place, wI_l, wI_p, lt_T, lt_F, ltL_T, ltL_F, gtL_T, gtL_F, lt0_F, eq_T, eq_F, eqL_T, eqL_F, eqM_F, leM_F, nat_mod, i_10, i_01, i_m1, eq_self_iff_true, rw8_lt, up1_ne, up1_eq, wi_T, ite_self, tg_1, tg_68, tg_124, tg_177, tg_11, tg_17, tg_59, tg_78, tg_84, ln_7, ln_16, ln_233, ln_232, ln_6, true_and, and_true, not_true_eq_false, not_false_eq_true, false_implies, true_implies, implies_true, forall_const, forall_eq, if_true, if_false, false_and, and_false, g0, g5, g6]
      exact z
  · have e : (f_Reader_isFigure (T p) = 0) = False := by rw [rd_fg, hb]; simp
    have hs : p + 1 - b = (p - b) + 1 := by omega
    have hv : vl T b (p + 1 - b) = if p - b < 2 then 10 * vl T b (p - b) + T p - 48 else vl T b (p - b) := by
      rw [hs, vl, show b + (p - b) = p by omega]
    refine p_Reader_take_144 ?_
    by_cases q : p - b < 2
    · rw [if_pos q] at hv
      simp (disch := omega) only [lit_add, add_lit, lit_mul, mul_lit, nI_add, nI_clamp, nI_subI, nI_sub1, nI_divL, vp_T, ge_F, ge_T, geL_F, geL_T, leL_F, leL_T, le0_F, le0_T, ge0_T, row_self, row_ne, row_l, row_p, row_row, wI_row, wI_same, wI_cell, wI_place, wI_l, wI_p, lt_T, lt_F, ltL_T, ltL_F, gtL_T, gtL_F, lt0_F, eq_T, eq_F, eqL_T, eqL_F, eqM_F, leM_F, nat_mod, i_10, i_01, i_m1, eq_self_iff_true, rw8_lt, up1_ne, up1_eq, wi_T, ite_self, tg_1, tg_68, tg_124, tg_177, tg_11, tg_17, tg_59, tg_78, tg_84, ln_7, ln_16, ln_233, ln_232, ln_6, true_and, and_true, not_true_eq_false, not_false_eq_true, false_implies, true_implies, implies_true, forall_const, forall_eq, if_true, if_false, false_and, and_false, g0, g5, g6, g8, hT, e]
      refine ih (by omega) _ ?_ ?_ up1_eq ?_ fun r h1 h2 h3 h4 => W r (fun j a b c => by rw [h1 j a b c, up1_ne a, up1_ne c]) (by rw [re_go hp hb]; exact h2) (by rw [re_go hp hb]; exact h3) (by rw [re_go hp hb]; exact h4)
      · rw [up1_ne (by omega), up1_ne (by omega)]; exact g0
      · rw [up1_ne (by omega), up1_ne (by omega)]; exact g6
      · rw [up1_ne (by omega), up1_eq, hv]
    · rw [if_neg q] at hv
      simp (disch := omega) only [lit_add, add_lit, lit_mul, mul_lit, nI_add, nI_clamp, nI_subI, nI_sub1, nI_divL, vp_T, ge_F, ge_T, geL_F, geL_T, leL_F, leL_T, le0_F, le0_T, ge0_T, row_self, row_ne, row_l, row_p, row_row, wI_row, wI_same, wI_cell, wI_place, wI_l, wI_p, lt_T, lt_F, ltL_T, ltL_F, gtL_T, gtL_F, lt0_F, eq_T, eq_F, eqL_T, eqL_F, eqM_F, leM_F, nat_mod, i_10, i_01, i_m1, eq_self_iff_true, rw8_lt, up1_ne, up1_eq, wi_T, ite_self, tg_1, tg_68, tg_124, tg_177, tg_11, tg_17, tg_59, tg_78, tg_84, ln_7, ln_16, ln_233, ln_232, ln_6, true_and, and_true, not_true_eq_false, not_false_eq_true, false_implies, true_implies, implies_true, forall_const, forall_eq, if_true, if_false, false_and, and_false, g0, g5, g6, g8, hT, e]
      refine ih (by omega) _ ?_ ?_ up1_eq ?_ fun r h1 h2 h3 h4 => W r (fun j a b c => by rw [h1 j a b c, up1_ne a]) (by rw [re_go hp hb]; exact h2) (by rw [re_go hp hb]; exact h3) (by rw [re_go hp hb]; exact h4)
      · rw [up1_ne (by omega)]; exact g0
      · rw [up1_ne (by omega)]; exact g6
      · rw [up1_ne (by omega), hv]; exact g8
theorem s_take (hL : L ≤ 150) (h0 : S.1 67 0 = nI L) (hT : ∀ k, k < L → S.1 121 k = T k) (h5 : S.1 67 5 = nI p) (hp : p ≤ L)
    (W : ∀ r, tkR T L p (S.1 67) r → Q () (fm_row S 67 r)) :
    am_Ps vV (d + 1) k_Reader_take [.ref 67] S Q := by
  have key : ∀ p, p ≤ L → ∀ g : Nat → Int32, g 0 = nI L → g 5 = nI p → (∀ r, tkR T L p g r → Q () (fm_row S 67 r)) → am_Po vV (d + 1) k_Reader_take 0 [some (.ref 67)] [] (fm_row S 67 g) Q := by
    refine re_ind (P := bl) (T := T) (fun p hp hb g g0 g5 W => ?_) fun p hp hb ih g g0 g5 W => ?_
    · have hre := re_st hb
      unfold tkR at W
      rw [hre] at W
      have done : ∀ r, (∀ j, j ≠ 5 → j ≠ 6 → j ≠ 7 → j ≠ 8 → r j = g j) → r 6 = nI p → (p = L → r 7 = 0 ∧ r 5 = nI L) → (p < L → lt (T p) = true → r 7 = 1 ∧ r 5 = nI (re lt T L p)) → (p < L → lt (T p) = false → fg (T p) = true → r 5 = nI (re fg T L p) ∧ r 7 = (if re fg T L p - p ≤ 2 then 2 else 4) ∧ (re fg T L p - p ≤ 2 → r 8 = vl T p (re fg T L p - p))) → (p < L → lt (T p) = false → fg (T p) = false → r 5 = nI (p + 1) ∧ r 7 = if T p = 59 then 3 else 4) → Q () (fm_row S 67 r) := fun r a1 a2 a3 a4 a5 a6 => W r ⟨a1, a2, a3, a4, a5, a6⟩
      have fin : ∀ Z : Prop, (p < L → (lt (T p) = true → Z) ∧ (lt (T p) = false → (fg (T p) = true → Z) ∧ (fg (T p) = false → Z))) → (L ≤ p → Z) → Z := fun Z a b => by
        rcases Nat.lt_or_ge p L with q | q
        · obtain ⟨a1, a2⟩ := a q
          rcases h1 : lt (T p) with _ | _
          · obtain ⟨a3, a4⟩ := a2 h1
            rcases h2 : fg (T p) with _ | _
            · exact a4 h2
            · exact a3 h2
          · exact a1 h1
        · exact b q
      refine fin _ (fun q => ⟨fun h1 => ?_, fun h1 => ⟨fun h2 => ?_, fun h2 => ?_⟩⟩) fun q => ?_
      · have hb' : (T p = 32) = False := eq_false (of_decide_eq_false (hb.resolve_left (by omega)))
        have e1 : (f_Reader_isLetter (T p) = 0) = False := by rw [rd_lt, h1]; simp
        refine p_Reader_take_0 ?_
        simp (disch := omega) only [lit_add, add_lit, lit_mul, mul_lit, nI_add, nI_clamp, nI_subI, nI_sub1, nI_divL, vp_T, ge_F, ge_T, geL_F, geL_T, leL_F, leL_T, le0_F, le0_T, ge0_T, row_self, row_ne, row_l, row_p, row_row, wI_row, wI_same, wI_cell, wI_place, wI_l, wI_p, lt_T, lt_F, ltL_T, ltL_F, gtL_T, gtL_F, lt0_F, eq_T, eq_F, eqL_T, eqL_F, eqM_F, leM_F, nat_mod, i_10, i_01, i_m1, eq_self_iff_true, rw8_lt, up1_ne, up1_eq, wi_T, ite_self, tg_1, tg_68, tg_124, tg_177, tg_11, tg_17, tg_59, tg_78, tg_84, ln_7, ln_16, ln_233, ln_232, ln_6, true_and, and_true, not_true_eq_false, not_false_eq_true, false_implies, true_implies, implies_true, forall_const, forall_eq, if_true, if_false, false_and, and_false, g0, g5, hT, e1, hb']
        refine take_l hL hT p hp _ ?_ ?_ fun r r1 r2 => done r (fun j a b c e => ?_) ?_ (fun z => absurd z (by omega)) (fun _ _ => ⟨?_, r2⟩) (fun _ z => by rw [h1] at z; cases z) fun _ z => by rw [h1] at z; cases z
        · simp (disch := omega) only [up1_ne]; exact g0
        · simp (disch := omega) only [up1_ne]; exact g5
        · rw [r1 j a]; simp (disch := omega) only [up1_ne]
        · rw [r1 6 (by omega)]; simp (disch := omega) only [up1_ne, up1_eq]
        · rw [r1 7 (by omega)]; simp (disch := omega) only [up1_ne, up1_eq]
      · have hb' : (T p = 32) = False := eq_false (of_decide_eq_false (hb.resolve_left (by omega)))
        have e1 : (f_Reader_isLetter (T p) = 0) = True := by rw [rd_lt, h1]; simp
        have e2 : (f_Reader_isFigure (T p) = 0) = False := by rw [rd_fg, h2]; simp
        refine p_Reader_take_0 ?_
        simp (disch := omega) only [lit_add, add_lit, lit_mul, mul_lit, nI_add, nI_clamp, nI_subI, nI_sub1, nI_divL, vp_T, ge_F, ge_T, geL_F, geL_T, leL_F, leL_T, le0_F, le0_T, ge0_T, row_self, row_ne, row_l, row_p, row_row, wI_row, wI_same, wI_cell, wI_place, wI_l, wI_p, lt_T, lt_F, ltL_T, ltL_F, gtL_T, gtL_F, lt0_F, eq_T, eq_F, eqL_T, eqL_F, eqM_F, leM_F, nat_mod, i_10, i_01, i_m1, eq_self_iff_true, rw8_lt, up1_ne, up1_eq, wi_T, ite_self, tg_1, tg_68, tg_124, tg_177, tg_11, tg_17, tg_59, tg_78, tg_84, ln_7, ln_16, ln_233, ln_232, ln_6, true_and, and_true, not_true_eq_false, not_false_eq_true, false_implies, true_implies, implies_true, forall_const, forall_eq, if_true, if_false, false_and, and_false, g0, g5, hT, e1, e2, hb']
        refine take_f hL hT p hp (Nat.le_refl p) _ ?_ ?_ ?_ ?_ fun r r1 r2 r3 r4 => done r (fun j a b c e => ?_) ?_ (fun z => absurd z (by omega)) (fun _ z => by rw [h1] at z; cases z) (fun _ _ _ => ⟨r2, r3, fun _ => r4⟩) fun _ _ z => by rw [h2] at z; cases z
        · simp (disch := omega) only [up1_ne]; exact g0
        · simp (disch := omega) only [up1_ne, up1_eq]
        · simp (disch := omega) only [up1_ne]; exact g5
        · simp (disch := omega) only [up1_eq, Nat.sub_self]; rfl
        · rw [r1 j a c e]; simp (disch := omega) only [up1_ne]
        · rw [r1 6 (by omega) (by omega) (by omega)]; simp (disch := omega) only [up1_ne, up1_eq]
      · have hb' : (T p = 32) = False := eq_false (of_decide_eq_false (hb.resolve_left (by omega)))
        have e1 : (f_Reader_isLetter (T p) = 0) = True := by rw [rd_lt, h1]; simp
        have e2 : (f_Reader_isFigure (T p) = 0) = True := by rw [rd_fg, h2]; simp
        refine p_Reader_take_0 ?_
        simp (disch := omega) only [lit_add, add_lit, lit_mul, mul_lit, nI_add, nI_clamp, nI_subI, nI_sub1, nI_divL, vp_T, ge_F, ge_T, geL_F, geL_T, leL_F, leL_T, le0_F, le0_T, ge0_T, row_self, row_ne, row_l, row_p, row_row, wI_row, wI_same, wI_cell, wI_place, wI_l, wI_p, lt_T, lt_F, ltL_T, ltL_F, gtL_T, gtL_F, lt0_F, eq_T, eq_F, eqL_T, eqL_F, eqM_F, leM_F, nat_mod, i_10, i_01, i_m1, eq_self_iff_true, rw8_lt, up1_ne, up1_eq, wi_T, ite_self, tg_1, tg_68, tg_124, tg_177, tg_11, tg_17, tg_59, tg_78, tg_84, ln_7, ln_16, ln_233, ln_232, ln_6, true_and, and_true, not_true_eq_false, not_false_eq_true, false_implies, true_implies, implies_true, forall_const, forall_eq, if_true, if_false, false_and, and_false, g0, g5, hT, e1, e2, hb']
        refine done _ (fun j a b c e => ?_) ?_ (fun z => absurd z (by omega)) (fun _ z => by rw [h1] at z; cases z) (fun _ _ z => by rw [h2] at z; cases z) fun _ _ _ => ⟨up1_eq, ?_⟩
        · simp (disch := omega) only [up1_ne]
        · simp (disch := omega) only [up1_ne, up1_eq]
        · simp (disch := omega) only [up1_ne, up1_eq]
      · have : p = L := by omega
        refine p_Reader_take_0 ?_
        simp (disch := omega) only [lit_add, add_lit, lit_mul, mul_lit, nI_add, nI_clamp, nI_subI, nI_sub1, nI_divL, vp_T, ge_F, ge_T, geL_F, geL_T, leL_F, leL_T, le0_F, le0_T, ge0_T, row_self, row_ne, row_l, row_p, row_row, wI_row, wI_same, wI_cell, wI_place, wI_l, wI_p, lt_T, lt_F, ltL_T, ltL_F, gtL_T, gtL_F, lt0_F, eq_T, eq_F, eqL_T, eqL_F, eqM_F, leM_F, nat_mod, i_10, i_01, i_m1, eq_self_iff_true, rw8_lt, up1_ne, up1_eq, wi_T, ite_self, tg_1, tg_68, tg_124, tg_177, tg_11, tg_17, tg_59, tg_78, tg_84, ln_7, ln_16, ln_233, ln_232, ln_6, true_and, and_true, not_true_eq_false, not_false_eq_true, false_implies, true_implies, implies_true, forall_const, forall_eq, if_true, if_false, false_and, and_false, g0, g5]
        refine done _ (fun j a b c e => ?_) ?_ (fun _ => ⟨up1_eq, ?_⟩) (fun z => absurd z (by omega)) (fun z => absurd z (by omega)) fun z => absurd z (by omega)
        · simp (disch := omega) only [up1_ne]
        · simp (disch := omega) only [up1_ne, up1_eq]
        · simp (disch := omega) only [up1_ne]; rw [g5, this]
    · have hb' : (T p = 32) = True := eq_true (of_decide_eq_true hb)
      refine p_Reader_take_0 ?_
      simp (disch := omega) only [lit_add, add_lit, lit_mul, mul_lit, nI_add, nI_clamp, nI_subI, nI_sub1, nI_divL, vp_T, ge_F, ge_T, geL_F, geL_T, leL_F, leL_T, le0_F, le0_T, ge0_T, row_self, row_ne, row_l, row_p, row_row, wI_row, wI_same, wI_cell, wI_place, wI_l, wI_p, lt_T, lt_F, ltL_T, ltL_F, gtL_T, gtL_F, lt0_F, eq_T, eq_F, eqL_T, eqL_F, eqM_F, leM_F, nat_mod, i_10, i_01, i_m1, eq_self_iff_true, rw8_lt, up1_ne, up1_eq, wi_T, ite_self, tg_1, tg_68, tg_124, tg_177, tg_11, tg_17, tg_59, tg_78, tg_84, ln_7, ln_16, ln_233, ln_232, ln_6, true_and, and_true, not_true_eq_false, not_false_eq_true, false_implies, true_implies, implies_true, forall_const, forall_eq, if_true, if_false, false_and, and_false, g0, g5, hT, hb']
      refine ih _ (by rw [up1_ne (by omega)]; exact g0) up1_eq fun r hr => W r ?_
      unfold tkR at hr ⊢
      rw [re_go hp hb]
      exact ⟨fun j a b c e => by rw [hr.1 j a b c e, up1_ne a], hr.2⟩
  have z := key p hp (S.1 67) h0 h5 W
  rw [row_id] at z
  exact ps_of (L := [some (.ref 67)]) rfl (Nat.le_of_ble_eq_true rfl) (Nat.le_of_ble_eq_true rfl) z
end TAKE
