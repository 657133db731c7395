/-! both spreads whole -/
theorem row_sw {S : fm_S} {a b : Nat} {f g : Nat → Int32} (h : a ≠ b) : fm_row (fm_row S a f) b g = fm_row (fm_row S b g) a f := by
  refine fm_ext (fun c i => ?_) (fun _ _ => rfl) (fun _ _ => rfl)
  simp only [fm_row]; grind
theorem wI_sw {S : fm_S} {a b j : Nat} {f : Nat → Int32} {x : Int32} (h : a ≠ b) : fm_wI (fm_row S a f) b j x = fm_row (fm_wI S b j x) a f := by
  refine fm_ext (fun c i => ?_) (fun _ _ => rfl) (fun _ _ => rfl)
  simp only [fm_row, fm_wI, fm_up]; grind
theorem ar_row (S : fm_S) : ar_none S 8 = fm_row S 57 (rw8 (S.1 57) fun _ => 0) := by
  refine fm_ext (fun c i => ?_) (fun _ _ => rfl) (fun _ _ => rfl)
  simp only [fm_row, ar_none, rw8, nI_0]; grind
theorem RS_fr {S S' : fm_S} {t n m : Nat} {A : Nat → Int32} (h : ∀ c, t ≤ c → c ≤ t + 9 → S'.1 c = S.1 c) (hR : RS S t A n m) : RS S' t A n m := by
  unfold RS
  rw [h t (by omega) (by omega), h (t + 1) (by omega) (by omega), h (t + 2) (by omega) (by omega), h (t + 3) (by omega) (by omega), h (t + 4) (by omega) (by omega), h (t + 5) (by omega) (by omega), h (t + 6) (by omega) (by omega), h (t + 7) (by omega) (by omega), h (t + 8) (by omega) (by omega), h (t + 9) (by omega) (by omega)]
  exact hR
theorem spA_in {A : Nat → Int32} {so w g n : Nat} {h : Int32} {mm : Nat} (h0 : A 0 = nI n) (hn : n < 1000) (hg : A (117 + w) = nI g) (hg8 : g < 1000) : spA A so w h mm = if g < n then sn_n (sL A) (sC A h mm) (s0 A so g h mm) 8 else fun _ => 0 := by
  unfold spA tn
  rw [h0, hg, nI_clamp (by omega), nI_clamp (by omega)]
section FILL
variable {d n m : Nat} {S : fm_S} {h : Int32} {so w mm : Nat}
theorem s_ms {Q : Unit → fm_S → Prop} (hW : WS (S.1 232) n m) (hso : so ≤ 30) (hw : w < 4) (hm : mm ≤ 9)
    (W : ∀ v, (∀ y, y < 8 → v y = nI (spA (S.1 232) so w h mm y)) → Q () (fm_row S 238 v)) :
    am_Ps vV (d + 2) k_M_spread [.ref 231, .int (nI so), .int (nI w), .int h, .int (nI mm)] S Q := by
  have hW' := hW
  obtain ⟨hn, hm6, h0, h1, hk, hw9, hl, hg, -⟩ := hW'
  obtain ⟨eg, lg⟩ := hg w hw
  generalize hgg : tn (S.1 232 (117 + w)) = g at eg lg
  have hsp := spA_in (so := so) (h := h) (mm := mm) h0 (by omega) eg (by omega)
  have ew := hw9 g (by omega)
  refine e_M_spread ?_
  have key : ∀ i, i ≤ 8 → ∀ o6 o7 o8 o9 o10, H_M_spread_3 d (nI so) (nI w) h (nI mm) (nI i) o6 o7 o8 o9 o10 (fm_row S 238 (zr (S.1 238) i)) Q := by
    refine up_to (fun o6 o7 o8 o9 o10 => ?_) fun i hi ih o6 o7 o8 o9 o10 => ?_
    · refine p_M_spread_3 ?_
      simp (disch := omega) only [lit_add, add_lit, lit_mul, mul_lit, nI_add, nI_clamp, nI_subI, nI_sub1, nI_divL, vp_T, ge_F, ge_T, geL_F, geL_T, leL_F, leL_T, le0_F, le0_T, ge0_T, row_self, row_ne, row_l, row_p, row_row, wI_row, wI_same, wI_cell, wI_place, wI_l, wI_p, lt_T, lt_F, ltL_T, ltL_F, gtL_T, gtL_F, lt0_F, eq_T, eq_F, eqL_T, eqL_F, eqM_F, leM_F, nat_mod, i_10, i_01, i_m1, eq_self_iff_true, rw8_lt, up1_ne, up1_eq, wi_T, ite_self, tg_1, tg_68, tg_124, tg_177, tg_11, tg_17, tg_59, tg_78, tg_84, ln_7, ln_16, ln_233, ln_232, ln_6, true_and, and_true, not_true_eq_false, not_false_eq_true, false_implies, true_implies, implies_true, forall_const, forall_eq, if_true, if_false, false_and, and_false, isStreet_w, eg, h0, wi_str]
      rw [zr_8]
      by_cases q : g < n
      · simp (disch := omega) only [q, lit_add, add_lit, lit_mul, mul_lit, nI_add, nI_clamp, nI_subI, nI_sub1, nI_divL, vp_T, ge_F, ge_T, geL_F, geL_T, leL_F, leL_T, le0_F, le0_T, ge0_T, row_self, row_ne, row_l, row_p, row_row, wI_row, wI_same, wI_cell, wI_place, wI_l, wI_p, lt_T, lt_F, ltL_T, ltL_F, gtL_T, gtL_F, lt0_F, eq_T, eq_F, eqL_T, eqL_F, eqM_F, leM_F, nat_mod, i_10, i_01, i_m1, eq_self_iff_true, rw8_lt, up1_ne, up1_eq, wi_T, ite_self, tg_1, tg_68, tg_124, tg_177, tg_11, tg_17, tg_59, tg_78, tg_84, ln_7, ln_16, ln_233, ln_232, ln_6, true_and, and_true, not_true_eq_false, not_false_eq_true, false_implies, true_implies, implies_true, forall_const, forall_eq, if_true, if_false, false_and, and_false]
        rw [ew.1, sE_v, sub_subI, nI_add]
        have e9 : (if nI so - nI (tn (S.1 232 (13 + g)) + sE h mm g) ≤ 0 then 0 else nI so - nI (tn (S.1 232 (13 + g)) + sE h mm g)) = nI (so - (tn (S.1 232 (13 + g)) + sE h mm g)) := by
          have := ew.2
          have := sE_le (h := h) (m := mm) (b := g)
          by_cases z : so ≤ tn (S.1 232 (13 + g)) + sE h mm g
          · rw [if_pos (by rw [d_le0 (by omega) (by omega)]; exact z), show so - (tn (S.1 232 (13 + g)) + sE h mm g) = 0 by omega]; rfl
          · rw [if_neg (by rw [d_le0 (by omega) (by omega)]; exact z)]
            exact nI_subI (by omega)
        rw [e9, rw8_up (by omega)]
        have loop : ∀ j i, i + j = 7 → ∀ x5 x6 o8 o9 o10, H_M_spread_93 d (nI so) (nI w) h (nI mm) x5 x6 1 o8 o9 o10 (fm_row S 238 (rw8 (S.1 238) (sn_n (sL (S.1 232)) (sC (S.1 232) h mm) (s0 (S.1 232) so g h mm) i))) Q := by
          intro j
          induction j with
          | zero =>
            intro i hij x5 x6 o8 o9 o10
            have hi7 : i = 7 := by omega
            subst hi7
            refine p_M_spread_93 ⟨fun q => absurd q (by decide), fun _ => ?_⟩
            refine ms_round hW hm (fun y => Nat.le_trans (sn_n_le (fun y => s0_le y) 7 y) hso) fun o9 o10 => ?_
            rw [sn_stop (fun y => sC_pos y)]
            refine p_M_spread_93 ⟨fun _ => ?_, fun q => absurd rfl q⟩
            refine W _ fun y hy => ?_
            rw [rw8_lt hy, hsp, if_pos q]
            rfl
          | succ j ih =>
            intro i hij x5 x6 o8 o9 o10
            refine p_M_spread_93 ⟨fun q => absurd q (by decide), fun _ => ?_⟩
            refine ms_round hW hm (fun y => Nat.le_trans (sn_n_le (fun y => s0_le y) i y) hso) fun o9 o10 => ?_
            rcases hf : sn_f (sL (S.1 232)) (sC (S.1 232) h mm) (sn_n (sL (S.1 232)) (sC (S.1 232) h mm) (s0 (S.1 232) so g h mm) i) 64 with _ | _
            · refine p_M_spread_93 ⟨fun _ => ?_, fun q => absurd rfl q⟩
              refine W _ fun y hy => ?_
              have ha := sn_all hf (8 - i)
              rw [show i + (8 - i) = 8 by omega] at ha
              rw [rw8_lt hy, hsp, if_pos q, ha, sn_id hf]
            · exact ih (i + 1) (by omega) _ _ _ _ _
        exact loop 7 0 rfl _ _ _ _ _
      · simp (disch := omega) only [q, lit_add, add_lit, lit_mul, mul_lit, nI_add, nI_clamp, nI_subI, nI_sub1, nI_divL, vp_T, ge_F, ge_T, geL_F, geL_T, leL_F, leL_T, le0_F, le0_T, ge0_T, row_self, row_ne, row_l, row_p, row_row, wI_row, wI_same, wI_cell, wI_place, wI_l, wI_p, lt_T, lt_F, ltL_T, ltL_F, gtL_T, gtL_F, lt0_F, eq_T, eq_F, eqL_T, eqL_F, eqM_F, leM_F, nat_mod, i_10, i_01, i_m1, eq_self_iff_true, rw8_lt, up1_ne, up1_eq, wi_T, ite_self, tg_1, tg_68, tg_124, tg_177, tg_11, tg_17, tg_59, tg_78, tg_84, ln_7, ln_16, ln_233, ln_232, ln_6, true_and, and_true, not_true_eq_false, not_false_eq_true, false_implies, true_implies, implies_true, forall_const, forall_eq, if_true, if_false, false_and, and_false]
        refine W _ fun y hy => ?_
        rw [rw8_lt hy, hsp, if_neg q]
    · refine p_M_spread_3 ?_
      simp (disch := omega) only [lit_add, add_lit, lit_mul, mul_lit, nI_add, nI_clamp, nI_subI, nI_sub1, nI_divL, vp_T, ge_F, ge_T, geL_F, geL_T, leL_F, leL_T, le0_F, le0_T, ge0_T, row_self, row_ne, row_l, row_p, row_row, wI_row, wI_same, wI_cell, wI_place, wI_l, wI_p, lt_T, lt_F, ltL_T, ltL_F, gtL_T, gtL_F, lt0_F, eq_T, eq_F, eqL_T, eqL_F, eqM_F, leM_F, nat_mod, i_10, i_01, i_m1, eq_self_iff_true, rw8_lt, up1_ne, up1_eq, wi_T, ite_self, tg_1, tg_68, tg_124, tg_177, tg_11, tg_17, tg_59, tg_78, tg_84, ln_7, ln_16, ln_233, ln_232, ln_6, true_and, and_true, not_true_eq_false, not_false_eq_true, false_implies, true_implies, implies_true, forall_const, forall_eq, if_true, if_false, false_and, and_false]
      rw [zr_s]
      exact ih _ _ _ _ _
  have z := key 0 (by omega) none none none none none
  rw [zr_0, row_id] at z
  exact z
/-- walls with sheets -/
def wr (S : fm_S) (h : Int32) (mm i : Nat) : Nat → Int32 := fun y => if y < i then S.1 3 y + nI (sE h mm y) else S.1 58 y
theorem wr_s {S : fm_S} {h : Int32} {mm i : Nat} : up1 (wr S h mm i) i (S.1 3 i + nI (sE h mm i)) = wr S h mm (i + 1) := by
  funext y
  unfold up1 wr
  by_cases e : y = i
  · subst e; rw [if_pos rfl, if_pos (by omega)]
  · rw [if_neg e]
    by_cases q : y < i
    · rw [if_pos q, if_pos (by omega)]
    · rw [if_neg q, if_neg (by omega)]
theorem s_fill {Q : Unit → fm_S → Prop} {A : Nat → Int32} {dd : Nat} (hW : WS A n m) (hR : RS S 1 A n m) (hd : dd < m) (hw : w < 4) (hm : mm ≤ 9)
    (W : ∀ S', ex 57 58 S S' → (∀ y, y < 8 → S'.1 57 y = nI (spA A (tn (A (131 + dd))) w h mm y)) → Q () S') :
    am_Ps vV (d + 2) k_Air_fillWithSheets [.ref 56, .ref 1, .int (nI dd), .int (nI w), .int h, .int (nI mm)] S Q := by
  have hW' := hW
  have hR' := hR
  obtain ⟨hn, hm6, h0, h1, hk, hw9, hl, hg, hwi, hsm, hst, -⟩ := hW'
  obtain ⟨r0, r7, -, r2, -, -, r5, -, -, r8, -⟩ := hR'
  have r0 : S.1 1 0 = nI n := r0
  have r2 : ∀ k, k < n → S.1 3 k = A (13 + k) := r2
  have r5 : ∀ w, w < 4 → S.1 6 w = A (117 + w) := r5
  have r8 : ∀ k, k < m → S.1 9 k = A (131 + k) := r8
  obtain ⟨eg, lg⟩ := hg w hw
  generalize hgg : tn (A (117 + w)) = g at eg lg
  obtain ⟨es, ls⟩ := hst dd hd
  generalize hso : tn (A (131 + dd)) = so at es ls W
  have hsp := spA_in (so := so) (h := h) (mm := mm) h0 (by omega) eg (by omega)
  have eG : f_Town_gateOf (ar_none S 8) 1 (nI w) = if g < n then nI g else -1 := by
    rw [ar_row]
    unfold f_Town_gateOf
    by_cases q : g < n
    · rw [if_pos q]; simp (disch := omega) only [lit_add, add_lit, lit_mul, mul_lit, nI_add, nI_clamp, nI_subI, nI_sub1, nI_divL, vp_T, ge_F, ge_T, geL_F, geL_T, leL_F, leL_T, le0_F, le0_T, ge0_T, row_self, row_ne, row_l, row_p, row_row, wI_row, wI_same, wI_cell, wI_place, wI_l, wI_p, lt_T, lt_F, ltL_T, ltL_F, gtL_T, gtL_F, lt0_F, eq_T, eq_F, eqL_T, eqL_F, eqM_F, leM_F, nat_mod, i_10, i_01, i_m1, eq_self_iff_true, rw8_lt, up1_ne, up1_eq, wi_T, ite_self, tg_1, tg_68, tg_124, tg_177, tg_11, tg_17, tg_59, tg_78, tg_84, ln_7, ln_16, ln_233, ln_232, ln_6, true_and, and_true, not_true_eq_false, not_false_eq_true, false_implies, true_implies, implies_true, forall_const, forall_eq, if_true, if_false, false_and, and_false, r0, r5, eg]
    · rw [if_neg q]; simp (disch := omega) only [lit_add, add_lit, lit_mul, mul_lit, nI_add, nI_clamp, nI_subI, nI_sub1, nI_divL, vp_T, ge_F, ge_T, geL_F, geL_T, leL_F, leL_T, le0_F, le0_T, ge0_T, row_self, row_ne, row_l, row_p, row_row, wI_row, wI_same, wI_cell, wI_place, wI_l, wI_p, lt_T, lt_F, ltL_T, ltL_F, gtL_T, gtL_F, lt0_F, eq_T, eq_F, eqL_T, eqL_F, eqM_F, leM_F, nat_mod, i_10, i_01, i_m1, eq_self_iff_true, rw8_lt, up1_ne, up1_eq, wi_T, ite_self, tg_1, tg_68, tg_124, tg_177, tg_11, tg_17, tg_59, tg_78, tg_84, ln_7, ln_16, ln_233, ln_232, ln_6, true_and, and_true, not_true_eq_false, not_false_eq_true, false_implies, true_implies, implies_true, forall_const, forall_eq, if_true, if_false, false_and, and_false, r0, r5, eg]
  have em1 : ((0 : Int32) ≤ -1) = False := eq_false (by decide)
  refine e_Air_fillWithSheets ?_
  rw [eG, ar_row]
  simp (disch := omega) only [lit_add, add_lit, lit_mul, mul_lit, nI_add, nI_clamp, nI_subI, nI_sub1, nI_divL, vp_T, ge_F, ge_T, geL_F, geL_T, leL_F, leL_T, le0_F, le0_T, ge0_T, row_self, row_ne, row_l, row_p, row_row, wI_row, wI_same, wI_cell, wI_place, wI_l, wI_p, lt_T, lt_F, ltL_T, ltL_F, gtL_T, gtL_F, lt0_F, eq_T, eq_F, eqL_T, eqL_F, eqM_F, leM_F, nat_mod, i_10, i_01, i_m1, eq_self_iff_true, rw8_lt, up1_ne, up1_eq, wi_T, ite_self, tg_1, tg_68, tg_124, tg_177, tg_11, tg_17, tg_59, tg_78, tg_84, ln_7, ln_16, ln_233, ln_232, ln_6, true_and, and_true, not_true_eq_false, not_false_eq_true, false_implies, true_implies, implies_true, forall_const, forall_eq, if_true, if_false, false_and, and_false]
  by_cases q : g < n
  · simp (disch := omega) only [q, lit_add, add_lit, lit_mul, mul_lit, nI_add, nI_clamp, nI_subI, nI_sub1, nI_divL, vp_T, ge_F, ge_T, geL_F, geL_T, leL_F, leL_T, le0_F, le0_T, ge0_T, row_self, row_ne, row_l, row_p, row_row, wI_row, wI_same, wI_cell, wI_place, wI_l, wI_p, lt_T, lt_F, ltL_T, ltL_F, gtL_T, gtL_F, lt0_F, eq_T, eq_F, eqL_T, eqL_F, eqM_F, leM_F, nat_mod, i_10, i_01, i_m1, eq_self_iff_true, rw8_lt, up1_ne, up1_eq, wi_T, ite_self, tg_1, tg_68, tg_124, tg_177, tg_11, tg_17, tg_59, tg_78, tg_84, ln_7, ln_16, ln_233, ln_232, ln_6, true_and, and_true, not_true_eq_false, not_false_eq_true, false_implies, true_implies, implies_true, forall_const, forall_eq, if_true, if_false, false_and, and_false]
    have ew := hw9 g (by omega)
    have key : ∀ i, i ≤ 8 → ∀ o8, H_Air_fillWithSheets_20 d 1 (nI dd) (nI w) h (nI mm) (nI g) (nI i) o8 (fm_row (fm_row S 58 (wr S h mm i)) 57 (rw8 (S.1 57) fun _ => 0)) Q := by
      refine up_to (fun o8 => ?_) fun i hi ih o8 => ?_
      · refine p_Air_fillWithSheets_20 ?_
        simp (disch := omega) only [lit_add, add_lit, lit_mul, mul_lit, nI_add, nI_clamp, nI_subI, nI_sub1, nI_divL, vp_T, ge_F, ge_T, geL_F, geL_T, leL_F, leL_T, le0_F, le0_T, ge0_T, row_self, row_ne, row_l, row_p, row_row, wI_row, wI_same, wI_cell, wI_place, wI_l, wI_p, lt_T, lt_F, ltL_T, ltL_F, gtL_T, gtL_F, lt0_F, eq_T, eq_F, eqL_T, eqL_F, eqM_F, leM_F, nat_mod, i_10, i_01, i_m1, eq_self_iff_true, rw8_lt, up1_ne, up1_eq, wi_T, ite_self, tg_1, tg_68, tg_124, tg_177, tg_11, tg_17, tg_59, tg_78, tg_84, ln_7, ln_16, ln_233, ln_232, ln_6, true_and, and_true, not_true_eq_false, not_false_eq_true, false_implies, true_implies, implies_true, forall_const, forall_eq, if_true, if_false, false_and, and_false, r8, es]
        have eu : ∀ y, y < n → wr S h mm 8 y = nI (tn (A (13 + y)) + sE h mm y) := fun y hy => by
          unfold wr
          rw [if_pos (by omega), r2 y hy, (hw9 y (by omega)).1, nI_add, ← (hw9 y (by omega)).1]
        have e9 : f_Math_max 0 (nI so - wr S h mm 8 g) = nI (so - (tn (A (13 + g)) + sE h mm g)) := by
          have := ew.2
          have := sE_le (h := h) (m := mm) (b := g)
          rw [eu g q]
          unfold f_Math_max
          by_cases z : so ≤ tn (A (13 + g)) + sE h mm g
          · rw [if_neg, show so - (tn (A (13 + g)) + sE h mm g) = 0 by omega]
            · rfl
            · have z2 := d_le0 (p := so) (s := tn (A (13 + g)) + sE h mm g) (by omega) (by omega)
              rw [Int32.not_lt, z2]
              exact z
          · rw [nI_subI (by omega)]
            exact if_pos (nI_lt (a := 0) (by omega) (by omega))
        rw [e9, rw8_up (by omega)]
        have hR2 : RS (fm_row S 58 (wr S h mm 8)) 1 A n m := RS_fr (fun c h1 h2 => by funext j; exact row_ne (by omega)) hR
        have loop : ∀ i, i ≤ 8 → H_Air_fillWithSheets_92 d 1 (nI dd) (nI w) h (nI mm) (nI g) 1 (nI i) (fm_row (fm_row S 58 (wr S h mm 8)) 57 (rw8 (S.1 57) (sn_n (sL A) (sC A h mm) (s0 A so g h mm) i))) Q := by
          have fin : ∀ V, (∀ y, y < 8 → V y = spA A so w h mm y) → Q () (fm_row (fm_row S 58 (wr S h mm 8)) 57 (rw8 (S.1 57) V)) := fun V hV => by
            refine W _ (ex_row (ex_row (ex_id S) (by decide) (by decide)) (by decide) (by decide)) fun y hy => ?_
            rw [row_self, rw8_lt hy, hV y hy]
          refine up_to ?_ fun i hi ih => ?_
          · refine p_Air_fillWithSheets_92 ⟨fun q => absurd q (by decide), fun _ => ⟨fun _ => ?_, fun q => absurd (by decide) q⟩⟩
            exact fin _ fun y hy => by rw [hsp, if_pos q]
          · refine p_Air_fillWithSheets_92 ⟨fun q => absurd q (by decide), fun _ => ⟨fun q => absurd q (nI_ge (b := 8) hi (by decide)), fun _ => ?_⟩⟩
            refine xs_round (mm := mm) (h := h) hW hR2 (fun y hy => by rw [row_self, eu y hy]) hm (fun y => Nat.le_trans (sn_n_le (fun y => s0_le y) i y) ls) ?_
            rw [nI_s]
            rcases hf : sn_f (sL A) (sC A h mm) (sn_n (sL A) (sC A h mm) (s0 A so g h mm) i) 64 with _ | _
            · refine p_Air_fillWithSheets_92 ⟨fun _ => ?_, fun q => absurd rfl q⟩
              refine fin _ fun y hy => ?_
              have ha := sn_all hf (8 - i)
              rw [show i + (8 - i) = 8 by omega] at ha
              rw [hsp, if_pos q, ha, sn_id hf]
            · exact ih
        exact loop 0 (by omega)
      · refine p_Air_fillWithSheets_20 ?_
        simp (disch := omega) only [lit_add, add_lit, lit_mul, mul_lit, nI_add, nI_clamp, nI_subI, nI_sub1, nI_divL, vp_T, ge_F, ge_T, geL_F, geL_T, leL_F, leL_T, le0_F, le0_T, ge0_T, row_self, row_ne, row_l, row_p, row_row, wI_row, wI_same, wI_cell, wI_place, wI_l, wI_p, lt_T, lt_F, ltL_T, ltL_F, gtL_T, gtL_F, lt0_F, eq_T, eq_F, eqL_T, eqL_F, eqM_F, leM_F, nat_mod, i_10, i_01, i_m1, eq_self_iff_true, rw8_lt, up1_ne, up1_eq, wi_T, ite_self, tg_1, tg_68, tg_124, tg_177, tg_11, tg_17, tg_59, tg_78, tg_84, ln_7, ln_16, ln_233, ln_232, ln_6, true_and, and_true, not_true_eq_false, not_false_eq_true, false_implies, true_implies, implies_true, forall_const, forall_eq, if_true, if_false, false_and, and_false]
        rw [sE_v, wI_sw (by decide), wI_row, wr_s]
        exact ih _
    have z := key 0 (by omega) none
    rw [show wr S h mm 0 = S.1 58 from rfl, row_id] at z
    exact z
  · simp (disch := omega) only [q, lit_add, add_lit, lit_mul, mul_lit, nI_add, nI_clamp, nI_subI, nI_sub1, nI_divL, vp_T, ge_F, ge_T, geL_F, geL_T, leL_F, leL_T, le0_F, le0_T, ge0_T, row_self, row_ne, row_l, row_p, row_row, wI_row, wI_same, wI_cell, wI_place, wI_l, wI_p, lt_T, lt_F, ltL_T, ltL_F, gtL_T, gtL_F, lt0_F, eq_T, eq_F, eqL_T, eqL_F, eqM_F, leM_F, nat_mod, i_10, i_01, i_m1, eq_self_iff_true, rw8_lt, up1_ne, up1_eq, wi_T, ite_self, tg_1, tg_68, tg_124, tg_177, tg_11, tg_17, tg_59, tg_78, tg_84, ln_7, ln_16, ln_233, ln_232, ln_6, true_and, and_true, not_true_eq_false, not_false_eq_true, false_implies, true_implies, implies_true, forall_const, forall_eq, if_true, if_false, false_and, and_false, em1]
    refine W _ (ex_row (ex_id S) (by decide) (by decide)) fun y hy => ?_
    rw [row_self, rw8_lt hy, hsp, if_neg q]
end FILL
