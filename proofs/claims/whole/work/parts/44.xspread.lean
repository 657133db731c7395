/-! the class' spread -/
/-- the town at t stands for the reference's array A: what no day changes -/
def RS (S : fm_S) (t : Nat) (A : Nat → Int32) (n m : Nat) : Prop :=
  S.1 t 0 = nI n ∧ S.1 t 7 = nI m ∧
  (∀ k, k < n → S.1 (t + 1) k = A (5 + k)) ∧
  (∀ k, k < n → S.1 (t + 2) k = A (13 + k)) ∧
  (∀ k, k < n → S.1 (t + 3) k = A (21 + k)) ∧
  (∀ a b, a < 8 → b < 8 → f_X_has (S.1 (t + 4) a) (nI b) = A (53 + (8 * a + b))) ∧
  (∀ w, w < 4 → S.1 (t + 5) w = A (117 + w)) ∧
  (∀ w, w < 4 → S.1 (t + 6) w = A (121 + w)) ∧
  (∀ k, k < m → S.1 (t + 7) k = A (125 + k)) ∧
  (∀ k, k < m → S.1 (t + 8) k = A (131 + k)) ∧
  (∀ k, k < m → S.1 (t + 9) k = A (137 + k))
theorem fx_has0 (y : Int32) : f_X_has 0 y = 0 := by
  unfold f_X_has
  have e : (0 : Int32) >>> (y &&& 31) = 0 := by
    apply Int32.toBitVec_inj.mp
    rw [Int32.toBitVec_shiftRight]
    simp [BitVec.sshiftRight']
  rw [e]
  decide
section XSP
variable {d n m : Nat} {S : fm_S} {A : Nat → Int32} {h : Int32} {mm : Nat}
/-- a place is not raised by its own row -/
theorem sn_own {L : Nat → Nat → Bool} {C : Nat → Nat} {V : Nat → Nat} {a : Nat} : ∀ b, b ≤ 8 → sn_r L C V (8 * a + b) a = sn_r L C V (8 * a) a
  | 0, _ => rfl
  | b + 1, hb => by
    rw [show 8 * a + (b + 1) = (8 * a + b) + 1 by omega, sn_r, sn_s]
    split
    · exact sn_own b (by omega)
    · rename_i q
      unfold u1
      split
      · rename_i e
        exfalso
        apply q
        unfold sn_c
        rw [show (8 * a + b) / 8 = a by omega, ← e]
        split <;> omega
      · exact sn_own b (by omega)
/-- where no lane is, nothing comes -/
theorem sn_rest {L : Nat → Nat → Bool} {C : Nat → Nat} {V : Nat → Nat} {i : Nat} : ∀ j, (∀ k, i ≤ k → k < i + j → L (k / 8) (k % 8) = false) → sn_r L C V (i + j) = sn_r L C V i ∧ sn_f L C V (i + j) = sn_f L C V i
  | 0, _ => ⟨rfl, rfl⟩
  | j + 1, hL => by
    have ih := sn_rest (V := V) (C := C) (i := i) j fun k h1 h2 => hL k h1 (by omega)
    have z : sn_c L C (sn_r L C V (i + j)) (i + j) = 0 := by
      unfold sn_c
      rw [hL (i + j) (by omega) (by omega)]
      rfl
    rw [show i + (j + 1) = (i + j) + 1 by omega, sn_r, sn_f, sn_s, z, if_pos (Nat.zero_le _)]
    exact ⟨ih.1, by rw [ih.2]; simp⟩
theorem xs_row {Q : Int32 → fm_S → Prop} {a : Nat} {o6 : Option Value} {v : Nat → Int32} {V : Nat → Nat} (hW : WS A n m) (hR : RS S 1 A n m) (hu : ∀ y, y < n → S.1 58 y = nI (tn (A (13 + y)) + sE h mm y)) (hm : mm ≤ 9) (hV : ∀ y, V y ≤ 30) (ha : a < n)
    (W : ∀ o4 o5 o6, H_Air_spread_4 d 1 (if sn_f (sL A) (sC A h mm) V (8 * (a + 1)) = true then 1 else 0) (nI (a + 1)) o4 o5 o6 (fm_row S 57 (rw8 v (sn_r (sL A) (sC A h mm) V (8 * (a + 1))))) Q) :
    H_Air_spread_37 d 1 (if sn_f (sL A) (sC A h mm) V (8 * a) = true then 1 else 0) (nI a) (if (nI (sn_r (sL A) (sC A h mm) V (8 * a) a)) ≤ 2 then (0 : Int32) else S.1 5 a) 0 o6 (fm_row S 57 (rw8 v (sn_r (sL A) (sC A h mm) V (8 * a)))) Q := by
  obtain ⟨hn, hm6, h0, h1, hk, hw9, hl, -⟩ := hW
  obtain ⟨r0, -, -, -, -, rl, -⟩ := hR
  have hvb := sn_r_le (L := sL A) (C := sC A h mm) hV
  have key : ∀ b, b ≤ n → ∀ o6, H_Air_spread_37 d 1 (if sn_f (sL A) (sC A h mm) V (8 * a + b) = true then 1 else 0) (nI a) (if (nI (sn_r (sL A) (sC A h mm) V (8 * a) a)) ≤ 2 then (0 : Int32) else S.1 5 a) (nI b) o6 (fm_row S 57 (rw8 v (sn_r (sL A) (sC A h mm) V (8 * a + b)))) Q := by
    refine up_to (fun o6 => ?_) fun b hb ih o6 => ?_
    · refine p_Air_spread_37 ?_
      simp (disch := omega) only [lit_add, add_lit, lit_mul, mul_lit, nI_add, nI_clamp, nI_subI, nI_sub1, nI_divL, vp_T, ge_F, ge_T, geL_F, geL_T, leL_F, leL_T, le0_F, le0_T, ge0_T, row_self, row_ne, row_l, row_p, row_row, wI_row, wI_same, wI_cell, wI_place, wI_l, wI_p, lt_T, lt_F, ltL_T, ltL_F, gtL_T, gtL_F, lt0_F, eq_T, eq_F, eqL_T, eqL_F, eqM_F, leM_F, nat_mod, i_10, i_01, i_m1, eq_self_iff_true, rw8_lt, up1_ne, up1_eq, wi_T, ite_self, tg_1, tg_68, tg_124, tg_177, tg_11, tg_17, tg_59, tg_78, tg_84, ln_7, ln_16, ln_233, ln_232, ln_6, true_and, and_true, not_true_eq_false, not_false_eq_true, false_implies, true_implies, implies_true, forall_const, forall_eq, if_true, if_false, false_and, and_false, r0]
      have z := sn_rest (L := sL A) (C := sC A h mm) (V := V) (i := 8 * a + n) (8 - n) fun k h1 h2 => by
        rw [sL_k]
        refine decide_eq_false fun q => ?_
        have := (hl k (by omega) q).2
        omega
      rw [show 8 * a + n + (8 - n) = 8 * (a + 1) by omega] at z
      rw [← z.1, ← z.2]
      exact W _ _ _
    · have hv := hvb (8 * a + b)
      have own := sn_own (L := sL A) (C := sC A h mm) (V := V) (a := a) b (by omega)
      rw [← own]
      have ih' := ih
      rw [← own, show 8 * a + (b + 1) = (8 * a + b) + 1 by omega, sn_r, sn_f, sn_s] at ih'
      generalize sn_r (sL A) (sC A h mm) V (8 * a + b) = U at hv ih' ⊢
      generalize sn_f (sL A) (sC A h mm) V (8 * a + b) = f at ih' ⊢
      have va := hv a
      have vb := hv b
      have ew := (hw9 b (by omega)).2
      have eE := sE_le (h := h) (m := mm) (b := b)
      have hub := hu b hb
      have hlane := rl a b (by omega) (by omega)
      rw [show (8 * a + b) % 8 = b by omega] at ih'
      refine p_Air_spread_37 ?_
      simp (disch := omega) only [lit_add, add_lit, lit_mul, mul_lit, nI_add, nI_clamp, nI_subI, nI_sub1, nI_divL, vp_T, ge_F, ge_T, geL_F, geL_T, leL_F, leL_T, le0_F, le0_T, ge0_T, row_self, row_ne, row_l, row_p, row_row, wI_row, wI_same, wI_cell, wI_place, wI_l, wI_p, lt_T, lt_F, ltL_T, ltL_F, gtL_T, gtL_F, lt0_F, eq_T, eq_F, eqL_T, eqL_F, eqM_F, leM_F, nat_mod, i_10, i_01, i_m1, eq_self_iff_true, rw8_lt, up1_ne, up1_eq, wi_T, ite_self, tg_1, tg_68, tg_124, tg_177, tg_11, tg_17, tg_59, tg_78, tg_84, ln_7, ln_16, ln_233, ln_232, ln_6, true_and, and_true, not_true_eq_false, not_false_eq_true, false_implies, true_implies, implies_true, forall_const, forall_eq, if_true, if_false, false_and, and_false, r0, hub]
      have hlane : f_X_has (S.1 5 a) (nI b) = A (53 + (8 * a + b)) := hlane
      have hcN : sn_c (sL A) (sC A h mm) U (8 * a + b) = if A (53 + (8 * a + b)) = 1 then U a - (2 + tn (A (13 + b)) + sE h mm b) else 0 := by
        unfold sn_c sL sC
        rw [show (8 * a + b) / 8 = a by omega, show (8 * a + b) % 8 = b by omega]
        simp only [decide_eq_true_eq]
      have cE : (nI (U a) - 2 - nI (tn (A (13 + b)) + sE h mm b) ≤ nI (U b)) = (U a ≤ U b + (2 + (tn (A (13 + b)) + sE h mm b))) := by
        rw [sub_subI, show (2 : Int32) = nI 2 from rfl, nI_add, d_le (by omega) (by omega) (by omega)]
      refine ⟨fun q => ?_, fun q => ?_⟩
      · have hc0 : sn_c (sL A) (sC A h mm) U (8 * a + b) ≤ U b := by
          rcases Nat.lt_or_ge 2 (U a) with g | g
          · have e : (nI (U a) ≤ 2) = False := leL_F g (by omega)
            simp only [e, if_false] at q
            rw [hlane] at q
            rw [hcN, if_neg (by rw [q]; decide)]
            exact Nat.zero_le _
          · rw [hcN]; split <;> omega
        simp only [hc0, if_true, not_true_eq_false, decide_false, Bool.or_false] at ih'
        exact ih' _
      · have g : 2 < U a := by
          rcases Nat.lt_or_ge 2 (U a) with g | g
          · exact g
          · have e : (nI (U a) ≤ 2) = True := leL_T g (by decide)
            simp only [e, if_true] at q
            exact absurd (fx_has0 _) q
        have e : (nI (U a) ≤ 2) = False := leL_F g (by omega)
        simp only [e, if_false] at q ih' ⊢
        have hA : A (53 + (8 * a + b)) = 1 := by
          rcases fb_X_has (S.1 5 a) (nI b) with z | z
          · exact absurd z q
          · rw [← hlane]; exact z
        rw [if_pos hA] at hcN
        rw [cE]
        refine ⟨fun z => ?_, fun z => ?_⟩
        · have hc0 : sn_c (sL A) (sC A h mm) U (8 * a + b) ≤ U b := by omega
          simp only [hc0, if_true, not_true_eq_false, decide_false, Bool.or_false] at ih'
          exact ih' _
        · have hc0 : ¬ sn_c (sL A) (sC A h mm) U (8 * a + b) ≤ U b := by omega
          simp only [hc0, if_true, if_false, not_false_eq_true, decide_true, Bool.or_true] at ih'
          have e2 : nI (U a) - 2 - nI (tn (A (13 + b)) + sE h mm b) = nI (sn_c (sL A) (sC A h mm) U (8 * a + b)) := by
            rw [sub_subI, show (2 : Int32) = nI 2 from rfl, nI_add, hcN, show 2 + tn (A (13 + b)) + sE h mm b = 2 + (tn (A (13 + b)) + sE h mm b) by omega]
            exact nI_subI (by omega)
          rw [e2, rw8_up (by omega)]
          exact ih' _
  exact key 0 (by omega) _
/-- a round -/
theorem xs_round {Q : Int32 → fm_S → Prop} {v : Nat → Int32} {V : Nat → Nat} (hW : WS A n m) (hR : RS S 1 A n m) (hu : ∀ y, y < n → S.1 58 y = nI (tn (A (13 + y)) + sE h mm y)) (hm : mm ≤ 9) (hV : ∀ y, V y ≤ 30)
    (W : Q (if sn_f (sL A) (sC A h mm) V 64 = true then 1 else 0) (fm_row S 57 (rw8 v (sn_r (sL A) (sC A h mm) V 64)))) :
    am_Ps vI (d + 1) k_Air_spread [.ref 56, .ref 1] (fm_row S 57 (rw8 v V)) Q := by
  refine e_Air_spread ?_
  have hn := hW.1
  have hl := hW.2.2.2.2.2.2.1
  have r0 := hR.1
  have hvb := sn_r_le (L := sL A) (C := sC A h mm) hV
  have key : ∀ a, a ≤ n → ∀ o4 o5 o6, H_Air_spread_4 d 1 (if sn_f (sL A) (sC A h mm) V (8 * a) = true then 1 else 0) (nI a) o4 o5 o6 (fm_row S 57 (rw8 v (sn_r (sL A) (sC A h mm) V (8 * a)))) Q := by
    refine up_to (fun o4 o5 o6 => ?_) fun a ha ih o4 o5 o6 => ?_
    · refine p_Air_spread_4 ?_
      simp (disch := omega) only [lit_add, add_lit, lit_mul, mul_lit, nI_add, nI_clamp, nI_subI, nI_sub1, nI_divL, vp_T, ge_F, ge_T, geL_F, geL_T, leL_F, leL_T, le0_F, le0_T, ge0_T, row_self, row_ne, row_l, row_p, row_row, wI_row, wI_same, wI_cell, wI_place, wI_l, wI_p, lt_T, lt_F, ltL_T, ltL_F, gtL_T, gtL_F, lt0_F, eq_T, eq_F, eqL_T, eqL_F, eqM_F, leM_F, nat_mod, i_10, i_01, i_m1, eq_self_iff_true, rw8_lt, up1_ne, up1_eq, wi_T, ite_self, tg_1, tg_68, tg_124, tg_177, tg_11, tg_17, tg_59, tg_78, tg_84, ln_7, ln_16, ln_233, ln_232, ln_6, true_and, and_true, not_true_eq_false, not_false_eq_true, false_implies, true_implies, implies_true, forall_const, forall_eq, if_true, if_false, false_and, and_false, r0]
      have z := sn_rest (L := sL A) (C := sC A h mm) (V := V) (i := 8 * n) (64 - 8 * n) fun k h1 h2 => by
        rw [sL_k]
        refine decide_eq_false fun q => ?_
        have := (hl k (by omega) q).1
        omega
      rw [show 8 * n + (64 - 8 * n) = 64 by omega] at z
      rw [← z.1, ← z.2]
      refine ⟨?_, W⟩
      cases sn_f (sL A) (sC A h mm) V 64 <;> simp
    · refine p_Air_spread_4 ?_
      simp (disch := omega) only [lit_add, add_lit, lit_mul, mul_lit, nI_add, nI_clamp, nI_subI, nI_sub1, nI_divL, vp_T, ge_F, ge_T, geL_F, geL_T, leL_F, leL_T, le0_F, le0_T, ge0_T, row_self, row_ne, row_l, row_p, row_row, wI_row, wI_same, wI_cell, wI_place, wI_l, wI_p, lt_T, lt_F, ltL_T, ltL_F, gtL_T, gtL_F, lt0_F, eq_T, eq_F, eqL_T, eqL_F, eqM_F, leM_F, nat_mod, i_10, i_01, i_m1, eq_self_iff_true, rw8_lt, up1_ne, up1_eq, wi_T, ite_self, tg_1, tg_68, tg_124, tg_177, tg_11, tg_17, tg_59, tg_78, tg_84, ln_7, ln_16, ln_233, ln_232, ln_6, true_and, and_true, not_true_eq_false, not_false_eq_true, false_implies, true_implies, implies_true, forall_const, forall_eq, if_true, if_false, false_and, and_false, r0]
      exact xs_row hW hR hu hm hV ha ih
  exact key 0 (by omega) _ _ _
end XSP
