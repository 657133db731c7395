/-! the reference's spread -/
/-- what comes at step k, as the code has it -/
theorem sp_v {p w t q : Nat} {h x : Int32} {b : Bool} (hp : p ≤ 100) (hw : w ≤ 100) (ht : t ≤ 100) (hq : q ≤ 100) (hx : x = nI t) (c : Prop) [Decidable c] (hc : b = decide c) :
    ((if c then ((nI p - 2) - nI w) - x else 0) ≤ nI q) = ((if b = true then p - (2 + w + t) else 0) ≤ q) ∧
    (¬ (if b = true then p - (2 + w + t) else 0) ≤ q → (if c then ((nI p - 2) - nI w) - x else 0) = nI (if b = true then p - (2 + w + t) else 0)) := by
  subst hc hx
  by_cases g : c
  · rw [if_pos g, if_pos (decide_eq_true g), sub_subI, sub_subI, show (2 : Int32) = nI 2 from rfl, nI_add, nI_add, d_le (by omega) (by omega) (by omega)]
    refine ⟨propext (by omega), fun q1 => ?_⟩
    rw [show 2 + w + t = 2 + (w + t) by omega] at q1 ⊢
    exact nI_subI (by omega)
  · rw [if_neg g, if_neg (by simp [g])]
    exact ⟨propext ⟨fun _ => Nat.zero_le _, fun _ => nI_pos' (by omega)⟩, fun q1 => absurd (Nat.zero_le _) q1⟩
theorem sp_if {c d : Prop} [Decidable c] [Decidable d] {y : Int32} {t : Nat} {hb : Int32} (hd : d = (nI t = hb)) (m : Nat) : (if c then if d then y - nI m else y - 0 else 0) = (if c then y - nI (sE hb m t) else 0) := by
  subst hd
  unfold sE
  by_cases g : c
  · rw [if_pos g, if_pos g]
    by_cases e : nI t = hb
    · rw [if_pos e, if_pos e]
    · rw [if_neg e, if_neg e]; rfl
  · rw [if_neg g, if_neg g]
section MSP
variable {d n m : Nat} {S : fm_S} {so w mm : Nat} {h : Int32}
theorem ms_round {x5 x6 : Int32} {o9 o10 : Option Value} {Q : Unit → fm_S → Prop} {v : Nat → Int32} {V : Nat → Nat} (hW : WS (S.1 232) n m) (hm : mm ≤ 9) (hV : ∀ y, V y ≤ 30)
    (W : ∀ o9 o10, H_M_spread_93 d (nI so) (nI w) h (nI mm) x5 x6 (if sn_f (sL (S.1 232)) (sC (S.1 232) h mm) V 64 = true then 1 else 0) (some (.int (nI 64))) o9 o10 (fm_row S 238 (rw8 v (sn_r (sL (S.1 232)) (sC (S.1 232) h mm) V 64))) Q) :
    H_M_spread_104 d (nI so) (nI w) h (nI mm) x5 x6 0 0 o9 o10 (fm_row S 238 (rw8 v V)) Q := by
  obtain ⟨hn, hm6, h0, h1, hk, hw9, hl, -⟩ := hW
  have key : ∀ k, k ≤ 64 → ∀ o9 o10, H_M_spread_104 d (nI so) (nI w) h (nI mm) x5 x6 (if sn_f (sL (S.1 232)) (sC (S.1 232) h mm) V k = true then 1 else 0) (nI k) o9 o10 (fm_row S 238 (rw8 v (sn_r (sL (S.1 232)) (sC (S.1 232) h mm) V k))) Q := by
    refine up_to (fun o9 o10 => ?_) fun k hk ih o9 o10 => ?_
    · refine p_M_spread_104 ?_
      simp (disch := omega) only [lit_add, add_lit, lit_mul, mul_lit, nI_add, nI_clamp, nI_subI, nI_sub1, nI_divL, vp_T, ge_F, ge_T, geL_F, geL_T, leL_F, leL_T, le0_F, le0_T, ge0_T, row_self, row_ne, row_l, row_p, row_row, wI_row, wI_same, wI_cell, wI_place, wI_l, wI_p, lt_T, lt_F, ltL_T, ltL_F, gtL_T, gtL_F, lt0_F, eq_T, eq_F, eqL_T, eqL_F, eqM_F, leM_F, nat_mod, i_10, i_01, i_m1, eq_self_iff_true, rw8_lt, up1_ne, up1_eq, wi_T, ite_self, tg_1, tg_68, tg_124, tg_177, tg_11, tg_17, tg_59, tg_78, tg_84, ln_7, ln_16, ln_233, ln_232, ln_6, true_and, and_true, not_true_eq_false, not_false_eq_true, false_implies, true_implies, implies_true, forall_const, forall_eq, if_true, if_false, false_and, and_false]
      exact W _ _
    · have hv := sn_r_le (L := sL (S.1 232)) (C := sC (S.1 232) h mm) hV k
      have ih' := ih
      rw [sn_r, sn_f, sn_s] at ih'
      generalize sn_r (sL (S.1 232)) (sC (S.1 232) h mm) V k = U at hv ih ih' ⊢
      generalize sn_f (sL (S.1 232)) (sC (S.1 232) h mm) V k = f at ih ih' ⊢
      have ew := hw9 (k % 8) (by omega)
      have hc := sp_v (h := h) (p := U (k / 8)) (w := tn (S.1 232 (13 + k % 8))) (t := sE h mm (k % 8)) (q := U (k % 8)) (x := nI (sE h mm (k % 8))) (by have := hv (k / 8); omega) (by have := ew.2; omega) (by have := sE_le (h := h) (m := mm) (b := k % 8); omega) (by have := hv (k % 8); omega) rfl (S.1 232 (53 + k) = 1) (sL_k (S.1 232) k)
      refine p_M_spread_104 ?_
      simp (disch := omega) only [lit_add, add_lit, lit_mul, mul_lit, nI_add, nI_clamp, nI_subI, nI_sub1, nI_divL, vp_T, ge_F, ge_T, geL_F, geL_T, leL_F, leL_T, le0_F, le0_T, ge0_T, row_self, row_ne, row_l, row_p, row_row, wI_row, wI_same, wI_cell, wI_place, wI_l, wI_p, lt_T, lt_F, ltL_T, ltL_F, gtL_T, gtL_F, lt0_F, eq_T, eq_F, eqL_T, eqL_F, eqM_F, leM_F, nat_mod, i_10, i_01, i_m1, eq_self_iff_true, rw8_lt, up1_ne, up1_eq, wi_T, ite_self, tg_1, tg_68, tg_124, tg_177, tg_11, tg_17, tg_59, tg_78, tg_84, ln_7, ln_16, ln_233, ln_232, ln_6, true_and, and_true, not_true_eq_false, not_false_eq_true, false_implies, true_implies, implies_true, forall_const, forall_eq, if_true, if_false, false_and, and_false]
      rw [sp_if (hb := h) (t := k % 8) rfl mm, ew.1]
      obtain ⟨c1, c2⟩ := hc
      have eN : (if sL (S.1 232) (k / 8) (k % 8) = true then U (k / 8) - (2 + tn (S.1 232 (13 + k % 8)) + sE h mm (k % 8)) else 0) = sn_c (sL (S.1 232)) (sC (S.1 232) h mm) U k := rfl
      rw [eN] at c1 c2
      simp only [c1]
      by_cases q : sn_c (sL (S.1 232)) (sC (S.1 232) h mm) U k ≤ U (k % 8)
      · simp only [q, if_true, if_false, not_true_eq_false, decide_false, Bool.or_false] at ih' ⊢
        rw [rw8_up (by omega), u1_id, fl_0]
        exact ih' _ _
      · simp only [c2 q]
        simp only [q, if_true, if_false, not_false_eq_true, decide_true, Bool.or_true, ite_self] at ih' ⊢
        rw [rw8_up (by omega)]
        exact ih' _ _
  exact key 0 (by omega) _ _
end MSP
