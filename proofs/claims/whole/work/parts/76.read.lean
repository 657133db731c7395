/-! a text read, both sides -/
def cn (w i n m : Nat) : Bool := decide (w < 6 ∧ (w = 0 ↔ i = 0) ∧ (w = 1 → n < 8) ∧ (w = 5 → m < 6))
def rd (T : Nat → Int32) (L : Nat) : Nat → Nat → Nat → (Nat → Int32) → Nat ⊕ (Nat × (Nat → Int32))
  | 0, _, _, _ => .inl 0
  | f + 1, p, i, A => if 0 < i ∧ L ≤ nb T L p then .inr (i, A) else if cn (wh T L p) i (tn (A 0)) (tn (A 1)) = true then
      (match itA T L (we T L p) A (tn (A 0)) (tn (A 1)) (wh T L p) with
        | .inl g => .inl g
        | .inr q => rd T L f q.1 (i + 1) q.2) else .inl (nb T L p)
/-- a town somewhere that stands for A -/
def GH (A : Nat → Int32) (n m : Nat) : Prop := ∃ S, PP S 68 ∧ RT S 68 A n m 0 0 0 0
section READ
variable {d L p n m : Nat} {S : fm_S} {T A : Nat → Int32}
theorem GH_mk {S' : fm_S} (hR : RT S' 68 A n m 0 0 0 0) (hP : PP S' 68) : GH A n m := ⟨S', hP, hR⟩
theorem eB_i {q : Nat × (Nat → Int32)} (h : eB T L p A = .inr q) : q = (nb T L p + 1, A) := by
  unfold eB at h
  split at h
  · cases h; rfl
  · cases h
theorem nB_i {lo hi : Int32} {k : Int32 → Nat → Nat ⊕ (Nat × (Nat → Int32))} {q : Nat × (Nat → Int32)} (h : nB T L p lo hi k = .inr q) : nok' T L p lo hi = true ∧ k (nv T L p) (nz T L p) = .inr q := by
  unfold nB at h
  split at h
  · rename_i z; exact ⟨z, h⟩
  · cases h
theorem GH_01 (h : GH A n m) : tn (A 0) = n ∧ tn (A 1) = m ∧ n ≤ 8 ∧ m ≤ 6 ∧ A 0 = nI n ∧ A 1 = nI m := by
  obtain ⟨S, _, hR⟩ := h
  obtain ⟨a, b, c, e, _⟩ := hR.1
  exact ⟨by rw [c]; exact nI_clamp (by omega), by rw [e]; exact nI_clamp (by omega), a, b, c, e⟩
theorem nz_p : p ≤ nz T L p := Nat.le_trans nb_ge nz_ge
theorem it_st {w : Nat} {q : Nat × (Nat → Int32)} (hg : GH A n m) (hw : w < 6) (hw1 : w = 1 → n < 8) (hw5 : w = 5 → m < 6) (h : itA T L p A n m w = .inr q) : p < q.1 ∧ ∃ n' m', GH q.2 n' m' := by
  obtain ⟨S, hP, hR⟩ := hg
  have hn := hR.1.1
  have : w = 0 ∨ w = 1 ∨ w = 2 ∨ w = 3 ∨ w = 4 ∨ w = 5 := by omega
  rcases this with rfl | rfl | rfl | rfl | rfl | rfl
  · obtain rfl := eB_i h
    exact ⟨Nat.lt_succ_of_le nb_ge, n, m, S, hP, hR⟩
  · obtain ⟨g1, h⟩ := nB_i (show it1 T L p A n = _ from h)
    obtain ⟨g2, h⟩ := nB_i h
    obtain ⟨g3, h⟩ := nB_i h
    obtain rfl := eB_i h
    refine ⟨Nat.lt_succ_of_le (Nat.le_trans nz_p (Nat.le_trans nz_p (Nat.le_trans nz_p nb_ge))), n + 1, m, ?_⟩
    obtain ⟨a, _, ha, ea⟩ := wi_L (a := 0) (b := 5) (by decide) (of_decide_eq_true g1).2 (by decide)
    obtain ⟨b, _, hb, eb⟩ := wi_L (a := 0) (b := 9) (by decide) (of_decide_eq_true g2).2 (by decide)
    exact GH_mk (RT_street hR (hw1 rfl) (iN_of ea ha (by omega)) (iN_of eb hb (by omega))) hP
  · obtain ⟨g1, h⟩ := nB_i (show it2 T L p A n = _ from h)
    obtain ⟨g2, h⟩ := nB_i h
    by_cases hne : nv T L p = nv T L (nz T L p)
    · have h := (if_pos hne).symm.trans h
      cases h
    · have h := (if_neg hne).symm.trans h
      obtain rfl := eB_i h
      refine ⟨Nat.lt_succ_of_le (Nat.le_trans nz_p (Nat.le_trans nz_p nb_ge)), n, m, ?_⟩
      obtain ⟨a, ha, ea⟩ := wi_ne (by omega) (of_decide_eq_true g1).2
      obtain ⟨b, hb, eb⟩ := wi_ne (by omega) (of_decide_eq_true g2).2
      rw [ea, eb] at hne ⊢
      have et : tn (nI a) = a := nI_clamp (by omega)
      have et2 : tn (nI b) = b := nI_clamp (by omega)
      rw [et, et2]
      exact GH_mk (RT_lane hR hP ha hb fun e => hne (by rw [e])) hP
  · obtain ⟨g1, h⟩ := nB_i (show it3 T L p A n = _ from h)
    obtain ⟨g2, h⟩ := nB_i h
    obtain rfl := eB_i h
    refine ⟨Nat.lt_succ_of_le (Nat.le_trans nz_p (Nat.le_trans nz_p nb_ge)), n, m, ?_⟩
    obtain ⟨a, _, ha, ea⟩ := wi_L (a := 0) (b := 3) (by decide) (of_decide_eq_true g1).2 (by decide)
    obtain ⟨b, hb, eb⟩ := wi_ne (by omega) (of_decide_eq_true g2).2
    rw [ea, eb]
    have et : tn (nI a) = a := nI_clamp (by omega)
    rw [et]
    exact GH_mk (RT_gate hR hP (by omega) hb) hP
  · obtain ⟨g1, h⟩ := nB_i (show it4 T L p A = _ from h)
    obtain ⟨g2, h⟩ := nB_i h
    obtain rfl := eB_i h
    refine ⟨Nat.lt_succ_of_le (Nat.le_trans nz_p (Nat.le_trans nz_p nb_ge)), n, m, ?_⟩
    obtain ⟨a, _, ha, ea⟩ := wi_L (a := 0) (b := 3) (by decide) (of_decide_eq_true g1).2 (by decide)
    obtain ⟨b, _, hb, eb⟩ := wi_L (a := 0) (b := 3) (by decide) (of_decide_eq_true g2).2 (by decide)
    rw [ea, eb]
    have et : tn (nI a) = a := nI_clamp (by omega)
    rw [et]
    exact GH_mk (RT_wind hR hP (by omega) (by omega)) hP
  · obtain ⟨g1, h⟩ := nB_i (show it5 T L p A m = _ from h)
    obtain ⟨g2, h⟩ := nB_i h
    obtain ⟨g3, h⟩ := nB_i h
    obtain rfl := eB_i h
    refine ⟨Nat.lt_succ_of_le (Nat.le_trans nz_p (Nat.le_trans nz_p (Nat.le_trans nz_p nb_ge))), n, m + 1, ?_⟩
    obtain ⟨a, _, ha, ea⟩ := wi_L (a := 0) (b := 5) (by decide) (of_decide_eq_true g1).2 (by decide)
    obtain ⟨b, _, hb, eb⟩ := wi_L (a := 1) (b := 30) (by decide) (of_decide_eq_true g2).2 (by decide)
    obtain ⟨c, _, hc, ec⟩ := wi_L (a := 0) (b := 9) (by decide) (of_decide_eq_true g3).2 (by decide)
    exact GH_mk (RT_dish hR hP (hw5 rfl) (iN_of ea ha (by omega)) (iN_of eb hb (by omega)) (iN_of ec hc (by omega))) hP
/-! the class -/
def frP (S S' : fm_S) : Prop := (∀ c, (c < 67 ∨ 120 < c) → S'.1 c = S.1 c) ∧ S'.1 67 0 = S.1 67 0 ∧ S'.2 = S.2
theorem frP_tr {S S' S'' : fm_S} (h : frP S S') (h2 : frP S' S'') : frP S S'' := ⟨fun c hc => (h2.1 c hc).trans (h.1 c hc), h2.2.1.trans h.2.1, h2.2.2.trans h.2.2⟩
theorem frD_P {S S' : fm_S} (h : frD S S') : frP S S' := ⟨h.1, h.2.1, h.2.2.2.1⟩
theorem frP_w {S : fm_S} {j : Nat} {x : Int32} (hj : j ≠ 0) : frP S (fm_wI S 67 j x) := ⟨fun c hc => wI_ce (by omega), wI_place (by omega), rfl⟩
def PR (T : Nat → Int32) (L : Nat) (r : Nat ⊕ (Nat × (Nat → Int32))) (S : fm_S) (v : Int32) (S' : fm_S) : Prop :=
  frP S S' ∧ match r with
  | .inl f => v = nI f ∧ f ≤ L
  | .inr q => v = -1 ∧ S'.1 67 1 = nI q.1 ∧ ∃ n m, RT S' 68 q.2 n m 0 0 0 0
theorem PR_tr {S S1 : fm_S} {v : Int32} {S' : fm_S} {r : Nat ⊕ (Nat × (Nat → Int32))} (h : frP S S1) (h2 : PR T L r S1 v S') : PR T L r S v S' := ⟨frP_tr h h2.1, h2.2⟩
/-- behind a fault -/
theorem x_bad {d' : Nat} {x : Int32} {f : Nat} {Q : Int32 → fm_S → Prop} (hL : PL S) (hf : S.1 67 4 = nI f) (hb : f < 1000) (W : ∀ S', frP S S' → Q (nI f) S') :
    am_Ps vV (d + 1) k_Reader_take [.ref 67] S fun _ S5 => am_Po vI (d' + 5) k_Reader_parse 43 [some (.ref 67), some (.int x)] [] S5 Q := by
  obtain ⟨L, p, hL, h0, hp, h5⟩ := hL
  refine s_take (T := S.1 121) hL h0 (fun _ _ => rfl) h5 hp fun r hr => ?_
  have hfr := tk_fr hL h0 hp hr
  have e4 : (fm_row S 67 r).1 67 4 = nI f := by rw [row_self, hr.1 4 (by omega) (by omega) (by omega) (by omega)]; exact hf
  have w := W _ (frD_P (frT_D hfr))
  refine p_Reader_parse_43 ?_
  rw [e4]
  exact ⟨fun _ => w, fun _ => ⟨fun z => absurd z (by rw [eqM_F (by omega)]; exact id), fun _ => w⟩⟩
def HC (S : fm_S) (L : Nat) (T : Nat → Int32) (p : Nat) : Prop := L ≤ 150 ∧ S.1 67 0 = nI L ∧ (∀ k, k < L → S.1 121 k = T k) ∧ S.1 67 4 = -1 ∧ p ≤ L ∧ ∃ g, tkR T L p g (S.1 67)
theorem tk_7 {g r : Nat → Int32} (hp : p ≤ L) (h : tkR T L p g r) : r 6 = nI (nb T L p) ∧ ((L ≤ nb T L p ∧ r 7 = 0) ∨ (nb T L p < L ∧ lt (T (nb T L p)) = true ∧ r 7 = 1 ∧ r 5 = nI (we T L p)) ∨ (nb T L p < L ∧ lt (T (nb T L p)) = false ∧ r 7 ≠ 0 ∧ r 7 ≠ 1)) := by
  have hb := nb_le (T := T) hp
  obtain ⟨t1, t2, t3, t4, t5, t6⟩ := h
  refine ⟨t2, ?_⟩
  rcases Nat.lt_or_ge (nb T L p) L with q | q
  · refine Or.inr ?_
    rcases h1 : lt (T (nb T L p)) with _ | _
    · refine Or.inr ⟨q, rfl, ?_⟩
      rcases h2 : fg (T (nb T L p)) with _ | _
      · have z := (t6 q h1 h2).2
        rw [z]
        split <;> decide
      · have z := (t5 q h1 h2).2.1
        rw [z]
        split <;> decide
    · exact Or.inl ⟨q, rfl, t4 q h1⟩
  · exact Or.inl ⟨q, (t3 (by show nb T L p = L; omega)).1⟩
theorem wh_6 (h : lt (T (nb T L p)) = false) : wh T L p = 6 := by
  rcases Nat.lt_or_ge (wh T L p) 6 with q | q
  · have := wh_ma q
    unfold we at this
    rw [re_st (Or.inr h)] at this
    omega
  · exact Nat.le_antisymm wh_le q
theorem ms_0 : f_Reader_mayStand S 0 = 0 := rfl
theorem ms_w {w i : Nat} (hw : w < 6) (h1 : S.1 67 1 = nI i) (hi : i < 1000) (hR : RT S 68 A n m 0 0 0 0) : (f_Reader_mayStand S (nI (w + 1)) = 0) = (cn w i n m = false) := by
  have hn : S.1 68 0 = nI n := hR.2.1.1
  have hm : S.1 68 7 = nI m := hR.2.1.2.1
  have hnb := hR.1.1
  have hmb := hR.1.2.1
  have e1 : (nI i ≤ 0) = (i = 0) := by rw [show (0 : Int32) = nI 0 from rfl, nI_leI (by omega) (by omega)]; exact propext (by omega)
  have e0 : (nI i = 0) = (i = 0) := by rw [show (0 : Int32) = nI 0 from rfl]; exact propext (nI_eq (by omega) (by omega))
  have e8 : (8 ≤ nI n) = (8 ≤ n) := by rw [show (8 : Int32) = nI 8 from rfl, nI_leI (by omega) (by omega)]
  have e6 : (6 ≤ nI m) = (6 ≤ m) := by rw [show (6 : Int32) = nI 6 from rfl, nI_leI (by omega) (by omega)]
  unfold f_Reader_mayStand cn
  simp only [h1, hn, hm, e1, e0, e8, e6]
  have : w = 0 ∨ w = 1 ∨ w = 2 ∨ w = 3 ∨ w = 4 ∨ w = 5 := by omega
  rcases this with rfl | rfl | rfl | rfl | rfl | rfl
  all_goals
    apply propext
    simp [nI]
    try (repeat' split) <;> simp_all <;> omega
end READ
