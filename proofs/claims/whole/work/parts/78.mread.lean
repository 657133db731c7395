/-! the reference's loop, and read whole -/
section MLOOP
variable {d L : Nat} {T : Nat → Int32} {Q : Int32 → fm_S → Prop}
def frJ (S S' : fm_S) : Prop := (∀ c, c ≠ 231 → c ≠ 232 → c ≠ 233 → c ≠ 237 → S'.1 c = S.1 c) ∧ (∀ j, j ≠ 11 → j ≠ 12 → S'.1 231 j = S.1 231 j) ∧ S'.2 = S.2
def PN (r : Nat ⊕ (Nat × (Nat → Int32))) (S : fm_S) (v : Int32) (S' : fm_S) : Prop :=
  frJ S S' ∧ match r with
  | .inl f => v = -10 - nI f ∧ S'.1 232 = S.1 232
  | .inr q => v = nI q.1 ∧ S'.1 232 = frR q.2 (S.1 232) 373
theorem frJ_tr {S S' S'' : fm_S} (h : frJ S S') (h2 : frJ S' S'') : frJ S S'' := ⟨fun c a b d e => (h2.1 c a b d e).trans (h.1 c a b d e), fun j a b => (h2.2.1 j a b).trans (h.2.1 j a b), h2.2.2.trans h.2.2⟩
theorem frI_J {S S' : fm_S} (h : frI S S') : frJ S S' := ⟨fun c a _ b d => h.1 c a b d, h.2.1, h.2.2⟩
theorem frJ_row {S : fm_S} {f : Nat → Int32} : frJ S (fm_row S 232 f) := ⟨fun c a b d e => funext fun j => row_ne b, fun j a b => row_ne (by omega), rfl⟩
theorem frR_s {B g : Nat → Int32} {k : Nat} : up1 (frR B g k) k (B k) = frR B g (k + 1) := by
  funext j
  unfold up1 frR
  by_cases e : j = k
  · subst e; rw [if_pos rfl, if_pos (by omega)]
  · rw [if_neg e]
    by_cases e2 : j < k
    · rw [if_pos e2, if_pos (by omega)]
    · rw [if_neg e2, if_neg (by omega)]
theorem m_cp {x1 x2 : Int32} {o4 : Option Value} {S : fm_S} {B : Nat → Int32} (h : S.1 233 = B) (W : Q x1 (fm_row S 232 (frR B (S.1 232) 373))) : am_Po vI (d + 9) k_M_read 139 [some (.ref 231), some (.int x1), some (.int x2), some (.int 0), o4] [] S Q := by
  have key : ∀ k, k ≤ 373 → am_Po vI (d + 9) k_M_read 139 [some (.ref 231), some (.int x1), some (.int x2), some (.int (nI k)), o4] [] (fm_row S 232 (frR B (S.1 232) k)) Q := by
    refine up_to ?_ fun k hk ih => ?_
    · exact p_M_read_139 (d := d + 4) ⟨fun _ => W, fun z => absurd (by decide) z⟩
    · refine p_M_read_139 (d := d + 4) ?_
      simp (disch := omega) only [lit_add, add_lit, lit_mul, mul_lit, nI_add, nI_clamp, nI_subI, nI_sub1, nI_divL, vp_T, ge_F, ge_T, geL_F, geL_T, leL_F, leL_T, le0_F, le0_T, ge0_T, row_self, row_ne, row_l, row_p, row_row, wI_row, wI_same, wI_cell, wI_place, wI_l, wI_p, lt_T, lt_F, ltL_T, ltL_F, gtL_T, gtL_F, lt0_F, eq_T, eq_F, eqL_T, eqL_F, eqM_F, leM_F, nat_mod, i_10, i_01, i_m1, eq_self_iff_true, rw8_lt, up1_ne, up1_eq, wi_T, ite_self, tg_1, tg_68, tg_124, tg_177, tg_11, tg_17, tg_59, tg_78, tg_84, ln_7, ln_16, ln_233, ln_232, ln_6, true_and, and_true, not_true_eq_false, not_false_eq_true, false_implies, true_implies, implies_true, forall_const, forall_eq, if_true, if_false, false_and, and_false, h]
      rw [frR_s]
      exact ih
  have z := key 0 (by omega)
  have e0 : frR B (S.1 232) 0 = S.1 232 := by
    funext j
    unfold frR
    rw [if_neg (by omega)]
  rw [e0, row_id] at z
  exact z
theorem cn_v {w i n m : Nat} (hw : w < 6) (hi : i < 1000) (hn : n ≤ 8) (hm : m ≤ 6) {v6 v8 v16 : Int32} (e6 : v6 = if nI w = 0 then (1 : Int32) else 0) (e8 : v8 = if nI i = 0 then (1 : Int32) else 0)
    (e16 : v16 = (if v6 = v8 then if nI w = 1 then if 8 ≤ nI n then (0 : Int32) else if nI w = 5 then if 6 ≤ nI m then (0 : Int32) else (1 : Int32) else (1 : Int32) else if nI w = 5 then if 6 ≤ nI m then (0 : Int32) else (1 : Int32) else (1 : Int32) else (0 : Int32))) : v16 = if cn w i n m = true then 1 else 0 := by
  have e0 : (nI i = 0) = (i = 0) := by rw [show (0 : Int32) = nI 0 from rfl]; exact propext (nI_eq (by omega) (by omega))
  have e8' : (8 ≤ nI n) = (8 ≤ n) := by rw [show (8 : Int32) = nI 8 from rfl, nI_leI (by omega) (by omega)]
  have e6' : (6 ≤ nI m) = (6 ≤ m) := by rw [show (6 : Int32) = nI 6 from rfl, nI_leI (by omega) (by omega)]
  unfold cn
  simp only [e0, e8', e6'] at e6 e8 e16
  subst e6 e8
  have : w = 0 ∨ w = 1 ∨ w = 2 ∨ w = 3 ∨ w = 4 ∨ w = 5 := by omega
  rcases this with rfl | rfl | rfl | rfl | rfl | rfl
  all_goals
    rw [e16]
    simp [nI]
    try (repeat' split) <;> simp_all <;> omega
theorem m_loop : ∀ f p q i A n m S o3 o4, L - p < f → i ≤ p → nb T L q = nb T L p → RM S L T q → S.1 233 = A → GH A n m → p ≤ L → (0 < i → nb T L p < L) → (∀ v S', PN (rd T L f p i A) S v S' → Q v S') →
    am_Po vI (d + 9) k_M_read 16 [some (.ref 231), some (.int (nI i)), some (.int 1), o3, o4] [] S Q := by
  intro f
  induction f with
  | zero => intro p q i A n m S o3 o4 hf; omega
  | succ f ih =>
    intro p q i A n m S o3 o4 hf hip hq hM h233 hG hp hi W
    obtain ⟨a0, a1, hn, hm, b0, b1⟩ := GH_01 hG
    have hL := hM.1
    have hwe := we_le (T := T) hp
    rw [rd, a0, a1, if_neg (by omega)] at W
    have ewe : we T L q = we T L p := by unfold we; rw [hq]
    have ewh : wh T L q = wh T L p := by unfold wh; rw [hq, ewe]
    refine p_M_read_16 (d := d + 4) ⟨fun z => absurd z (by decide), fun _ => ?_⟩
    refine s_mword (d := d + 6) hM fun S1 f1 e237 e11 e12 => ?_
    rw [ewe] at e11
    rw [hq] at e12
    have e233 : S1.1 233 = A := by rw [m_233 f1]; exact h233
    rw [e12, e233, b0, b1, ewh]
    have bad : cn (wh T L p) i n m = false → Q (-10 - nI (nb T L p)) S1 := fun hcn => by
      rw [if_neg (by rw [hcn]; exact Bool.false_ne_true)] at W
      exact W _ _ ⟨frI_J (frN_I f1), rfl, f1.1 232 (by omega) (by omega)⟩
    by_cases hw : wh T L p < 6
    · rw [if_pos hw]
      refine ⟨fun z => absurd z (by rw [lt0_F (by omega)]; exact id), fun _ v6 e6 v8 e8 v16 e16 => ?_⟩
      have h16 := cn_v hw (by omega) hn hm e6 e8 e16
      clear e6 e8 e16
      subst h16
      rcases hcn : cn (wh T L p) i n m with _ | _
      · exact ⟨fun _ => bad hcn, fun z => absurd rfl z⟩
      · rw [if_pos hcn] at W
        obtain ⟨c6, c0, c1, c5⟩ := of_decide_eq_true hcn
        refine ⟨fun z => absurd z (by decide), fun _ => ?_⟩
        obtain ⟨SG, hPG, hRG⟩ := hG
        have hM1 : RM S1 L T (we T L p) := RM_fr hM f1 e11 hwe
        refine m_it (d := d + 4) (n := n) (m := m) hM1 (by rw [e233]; exact hRG.1) hw c1 c5 fun v S2 hv => ?_
        rw [e233] at hv
        obtain ⟨hv1, hv2⟩ := hv
        have fJ := frJ_tr (frI_J (frN_I f1)) (frI_J hv1)
        have e232 : S2.1 232 = S.1 232 := by rw [hv1.1 232 (by omega) (by omega) (by omega), f1.1 232 (by omega) (by omega)]
        rcases hit : itA T L (we T L p) A n m (wh T L p) with g | r
        · rw [hit] at W hv2
          obtain ⟨rfl, h12⟩ := hv2
          rw [h12]
          exact ⟨fun _ => W _ _ ⟨fJ, rfl, e232⟩, fun z => absurd rfl z⟩
        · obtain ⟨hlt, n', m', hG'⟩ := it_st ⟨SG, hPG, hRG⟩ c6 c1 c5 hit
          rw [hit] at W hv2
          obtain ⟨rfl, hM2, h233'⟩ := hv2
          have hr := hM2.2.2.2.2
          have hnb := nb_le (T := T) hr
          have hpw : p ≤ we T L p := Nat.le_trans nb_ge we_ge
          refine ⟨fun z => absurd z (by decide), fun _ => ?_⟩
          refine s_mskip hM2 ?_
          intro v23 e23
          rw [show (fm_wI S2 231 11 (nI (nb T L r.1))).1 231 11 = nI (nb T L r.1) from wI_same, show (fm_wI S2 231 11 (nI (nb T L r.1))).1 231 5 = nI L from (wI_place (by omega)).trans hM2.2.1] at e23
          simp only [nI_leI (show L < 2147483648 by omega) (show nb T L r.1 < 2147483648 by omega)] at e23
          have fJ2 : frJ S (fm_wI S2 231 11 (nI (nb T L r.1))) := frJ_tr fJ (frI_J (frN_I frN_11))
          have e232' : (fm_wI S2 231 11 (nI (nb T L r.1))).1 232 = S.1 232 := (wI_ce (by omega)).trans e232
          have e233' : (fm_wI S2 231 11 (nI (nb T L r.1))).1 233 = r.2 := (wI_ce (by omega)).trans h233'
          rw [nI_s]
          by_cases hend : L ≤ nb T L r.1
          · rw [if_pos hend] at e23
            subst e23
            refine p_M_read_16 (d := d + 4) ⟨fun _ => ?_, fun z => absurd rfl z⟩
            obtain ⟨f', rfl⟩ : ∃ f', f = f' + 1 := ⟨f - 1, by omega⟩
            dsimp only at W
            rw [rd, if_pos ⟨by omega, hend⟩] at W
            refine m_cp e233' (W _ _ ⟨frJ_tr fJ2 frJ_row, rfl, ?_⟩)
            rw [e232']
            exact funext fun j => row_self
          · rw [if_neg hend] at e23
            subst e23
            refine ih r.1 (nb T L r.1) (i + 1) r.2 n' m' _ _ _ (by omega) (by omega) (nb_nb hr) (RM_fr hM2 frN_11 wI_same hnb) e233' hG' hr (fun _ => by omega) fun v S' hS' => W v S' ?_
            obtain ⟨z1, z2⟩ := hS'
            refine ⟨frJ_tr fJ2 z1, ?_⟩
            revert z2
            dsimp only
            rcases rd T L f r.1 (i + 1) r.2 with g | g
            · exact fun z2 => ⟨z2.1, z2.2.trans e232'⟩
            · exact fun z2 => ⟨z2.1, by rw [← e232']; exact z2.2⟩
    · rw [if_neg hw]
      exact ⟨fun _ => bad (decide_eq_false fun y => hw y.1), fun z => absurd (by decide) z⟩
end MLOOP
