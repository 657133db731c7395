/-! an item: what it does -/
def nB (T : Nat → Int32) (L p : Nat) (lo hi : Int32) (k : Int32 → Nat → Nat ⊕ (Nat × (Nat → Int32))) : Nat ⊕ (Nat × (Nat → Int32)) := if nok' T L p lo hi = true then k (nv T L p) (nz T L p) else .inl (nb T L p)
def eB (T : Nat → Int32) (L p : Nat) (A : Nat → Int32) : Nat ⊕ (Nat × (Nat → Int32)) := if eok T L p = true then .inr (nb T L p + 1, A) else .inl (nb T L p)
def it0 (T : Nat → Int32) (L p : Nat) (A : Nat → Int32) : Nat ⊕ (Nat × (Nat → Int32)) := eB T L p A
def it1 (T : Nat → Int32) (L p : Nat) (A : Nat → Int32) (n : Nat) : Nat ⊕ (Nat × (Nat → Int32)) := nB T L p 0 5 fun x1 p1 => nB T L p1 0 9 fun x2 p2 => nB T L p2 0 5 fun x3 p3 => eB T L p3 (adS A n x1 x2 x3)
def it2 (T : Nat → Int32) (L p : Nat) (A : Nat → Int32) (n : Nat) : Nat ⊕ (Nat × (Nat → Int32)) := nB T L p 0 (nI n - 1) fun x1 p1 => nB T L p1 0 (nI n - 1) fun x2 p2 => if x1 = x2 then .inl (nb T L p1) else eB T L p2 (adL A (tn x1) (tn x2))
def it3 (T : Nat → Int32) (L p : Nat) (A : Nat → Int32) (n : Nat) : Nat ⊕ (Nat × (Nat → Int32)) := nB T L p 0 3 fun x1 p1 => nB T L p1 0 (nI n - 1) fun x2 p2 => eB T L p2 (up1 A (117 + tn x1) x2)
def it4 (T : Nat → Int32) (L p : Nat) (A : Nat → Int32) : Nat ⊕ (Nat × (Nat → Int32)) := nB T L p 0 3 fun x1 p1 => nB T L p1 0 3 fun x2 p2 => eB T L p2 (up1 A (121 + tn x1) x2)
def it5 (T : Nat → Int32) (L p : Nat) (A : Nat → Int32) (m : Nat) : Nat ⊕ (Nat × (Nat → Int32)) := nB T L p 0 5 fun x1 p1 => nB T L p1 1 30 fun x2 p2 => nB T L p2 0 9 fun x3 p3 => eB T L p3 (adD A m x1 x2 x3)
def itA (T : Nat → Int32) (L p : Nat) (A : Nat → Int32) (n m w : Nat) : Nat ⊕ (Nat × (Nat → Int32)) :=
  if w = 0 then it0 T L p A else if w = 1 then it1 T L p A n else if w = 2 then it2 T L p A n else if w = 3 then it3 T L p A n else if w = 4 then it4 T L p A else it5 T L p A m
/-- the class behind an item -/
def frD (S S' : fm_S) : Prop := (∀ c, (c < 67 ∨ 120 < c) → S'.1 c = S.1 c) ∧ S'.1 67 0 = S.1 67 0 ∧ S'.1 67 1 = S.1 67 1 ∧ S'.2 = S.2
def PX (T : Nat → Int32) (L : Nat) (r : Nat ⊕ (Nat × (Nat → Int32))) (S S' : fm_S) : Prop :=
  frD S S' ∧ match r with
  | .inl f => f ≤ L ∧ S'.1 67 4 = nI f
  | .inr q => RC S' L T q.1 ∧ ∃ n m, RT S' 68 q.2 n m 0 0 0 0
theorem frT_D {S S' : fm_S} (h : frT S S') : frD S S' := ⟨fun c hc => h.1 c (by omega), h.2.1, h.2.2.1, h.2.2.2⟩
theorem frD_tr {S S' S'' : fm_S} (h : frD S S') (h2 : frD S' S'') : frD S S'' := ⟨fun c hc => (h2.1 c hc).trans (h.1 c hc), h2.2.1.trans h.2.1, h2.2.2.1.trans h.2.2.1, h2.2.2.2.trans h.2.2.2⟩
theorem RT_T {S S' : fm_S} {A : Nat → Int32} {n m q u y N : Nat} (h : frT S S') (hP : PP S 68) (hR : RT S 68 A n m q u y N) : RT S' 68 A n m q u y N :=
  RT_fr (fun c a b => h.1 c (by omega)) (by rw [h.2.2.2]) hP hR
theorem PP_T {S S' : fm_S} {t : Nat} (h : frT S S') (hP : PP S t) : PP S' t := PP_fr (by rw [h.2.2.2]) hP
section ITEM
variable {d L p n m : Nat} {S : fm_S} {T A : Nat → Int32}
theorem RC_le (h : RC S L T p) : p ≤ L ∧ L ≤ 150 := ⟨h.2.2.2.2.2, h.1⟩
/-- the draft alone changes -/
theorem RC_o {S' : fm_S} (h : RC S L T p) (h1 : ∀ c, (c < 68 ∨ 120 < c) → S'.1 c = S.1 c) : RC S' L T p := by
  unfold RC
  rw [h1 67 (by omega), h1 121 (by omega)]
  exact h
theorem frD_o {S' : fm_S} (h1 : ∀ c, (c < 68 ∨ 120 < c) → S'.1 c = S.1 c) (h2 : S'.2 = S.2) : frD S S' := ⟨fun c hc => h1 c (by omega), by rw [h1 67 (by omega)], by rw [h1 67 (by omega)], h2⟩
theorem aS_o {t x1 x2 x3} {c : Nat} (h : c < t ∨ t + 3 < c) : (g_Town_addStreet S t x1 x2 x3).1 c = S.1 c := by
  funext j
  unfold g_Town_addStreet
  simp (disch := omega) only [wI_cell]
theorem aD_o {t x1 x2 x3} {c : Nat} (h : c < t ∨ t + 9 < c) : (g_Town_addDish S t x1 x2 x3).1 c = S.1 c := by
  funext j
  unfold g_Town_addDish
  simp (disch := omega) only [wI_cell]
theorem aL_o {t x1 x2} {c : Nat} (h : c ≠ t + 4) : (g_Town_addLane S t x1 x2).1 c = S.1 c := by
  funext j
  unfold g_Town_addLane
  simp (disch := omega) only [wI_cell]
theorem x_it1 {Q : Unit → fm_S → Prop} (h : RC S L T p) (hP : PP S 68) (hR : RT S 68 A n m 0 0 0 0) (hn : n < 8) (W : ∀ S', PX T L (it1 T L p A n) S S' → Q () S') : am_Ps vV (d + 3) k_Reader_streetItem [.ref 67] S Q := by
  have hp := RC_le h
  refine e_Reader_streetItem ?_
  unfold it1 nB at W
  refine s_xnum h (fun g1 S1 h1 f1 => ?_) fun g1 S1 v f1 b1 => ?_
  · simp only [eB, g1, eq_self_iff_true, if_true] at W
    have hp1 := RC_le h1
    refine s_xnum h1 (fun g2 S2 h2 f2 => ?_) fun g2 S2 v f2 b2 => ?_
    · simp only [eB, g2, eq_self_iff_true, if_true] at W
      have hp2 := RC_le h2
      refine s_xnum h2 (fun g3 S3 h3 f3 => ?_) fun g3 S3 v f3 b3 => ?_
      · simp only [eB, g3, eq_self_iff_true, if_true] at W
        have hp3 := RC_le h3
        have f03 := frT_tr f1 (frT_tr f2 f3)
        refine s_xend h3 (fun g4 S4 h4 f4 => ?_) fun g4 S4 f4 b4 => ?_
        · simp only [eB, g4, eq_self_iff_true, if_true] at W
          have f04 := frT_tr f03 f4
          have hR4 := RT_T f04 hP hR
          refine ⟨fun z => absurd z (by decide), fun _ => ⟨?_, W _ ⟨frD_tr (frT_D f04) (frD_o (fun c hc => aS_o (by omega)) rfl), RC_o h4 fun c hc => aS_o (by omega), n + 1, m, ?_⟩⟩⟩
          · rw [hR4.2.1.1]; exact vp_in_nI hn (by decide)
          · obtain ⟨a, _, ha, ea⟩ := wi_L (a := 0) (b := 5) (by decide) (of_decide_eq_true g1).2 (by decide)
            obtain ⟨b, _, hb, eb⟩ := wi_L (a := 0) (b := 9) (by decide) (of_decide_eq_true g2).2 (by decide)
            exact RT_street hR4 hn (iN_of ea ha (by omega)) (iN_of eb hb (by omega))
        · simp only [eB, g4, Bool.false_eq_true, if_false] at W
          exact ⟨fun _ => W _ ⟨frT_D (frT_tr f03 f4), nb_le hp3.1, b4⟩, fun z => absurd rfl z⟩
      · simp only [eB, g3, Bool.false_eq_true, if_false] at W
        have hb := nb_le (T := T) hp2.1
        refine s_xend_f b3 (by omega) ⟨fun _ => W _ ⟨frT_D (frT_tr f1 (frT_tr f2 f3)), hb, b3⟩, fun z => absurd rfl z⟩
    · simp only [eB, g2, Bool.false_eq_true, if_false] at W
      have hb := nb_le (T := T) hp1.1
      refine s_xnum_f b2 (by omega) (s_xend_f b2 (by omega) ⟨fun _ => W _ ⟨frT_D (frT_tr f1 f2), hb, b2⟩, fun z => absurd rfl z⟩)
  · simp only [eB, g1, Bool.false_eq_true, if_false] at W
    have hb := nb_le (T := T) hp.1
    refine s_xnum_f b1 (by omega) (s_xnum_f b1 (by omega) (s_xend_f b1 (by omega) ⟨fun _ => W _ ⟨frT_D f1, hb, b1⟩, fun z => absurd rfl z⟩))
theorem x_it5 {Q : Unit → fm_S → Prop} (h : RC S L T p) (hP : PP S 68) (hR : RT S 68 A n m 0 0 0 0) (hm : m < 6) (W : ∀ S', PX T L (it5 T L p A m) S S' → Q () S') : am_Ps vV (d + 3) k_Reader_dishItem [.ref 67] S Q := by
  have hp := RC_le h
  refine e_Reader_dishItem ?_
  unfold it5 nB at W
  refine s_xnum h (fun g1 S1 h1 f1 => ?_) fun g1 S1 v f1 b1 => ?_
  · simp only [eB, g1, eq_self_iff_true, if_true] at W
    have hp1 := RC_le h1
    refine s_xnum h1 (fun g2 S2 h2 f2 => ?_) fun g2 S2 v f2 b2 => ?_
    · simp only [eB, g2, eq_self_iff_true, if_true] at W
      have hp2 := RC_le h2
      refine s_xnum h2 (fun g3 S3 h3 f3 => ?_) fun g3 S3 v f3 b3 => ?_
      · simp only [eB, g3, eq_self_iff_true, if_true] at W
        have hp3 := RC_le h3
        have f03 := frT_tr f1 (frT_tr f2 f3)
        refine s_xend h3 (fun g4 S4 h4 f4 => ?_) fun g4 S4 f4 b4 => ?_
        · simp only [eB, g4, eq_self_iff_true, if_true] at W
          have f04 := frT_tr f03 f4
          have hR4 := RT_T f04 hP hR
          refine ⟨fun z => absurd z (by decide), fun _ => ⟨?_, W _ ⟨frD_tr (frT_D f04) (frD_o (fun c hc => aD_o (by omega)) rfl), RC_o h4 fun c hc => aD_o (by omega), n, m + 1, ?_⟩⟩⟩
          · rw [hR4.2.1.2.1]; exact vp_in_nI hm (by decide)
          · obtain ⟨a, _, ha, ea⟩ := wi_L (a := 0) (b := 5) (by decide) (of_decide_eq_true g1).2 (by decide)
            obtain ⟨b, _, hb, eb⟩ := wi_L (a := 1) (b := 30) (by decide) (of_decide_eq_true g2).2 (by decide)
            obtain ⟨c, _, hc, ec⟩ := wi_L (a := 0) (b := 9) (by decide) (of_decide_eq_true g3).2 (by decide)
            exact RT_dish hR4 (PP_T f04 hP) hm (iN_of ea ha (by omega)) (iN_of eb hb (by omega)) (iN_of ec hc (by omega))
        · simp only [eB, g4, Bool.false_eq_true, if_false] at W
          exact ⟨fun _ => W _ ⟨frT_D (frT_tr f03 f4), nb_le hp3.1, b4⟩, fun z => absurd rfl z⟩
      · simp only [eB, g3, Bool.false_eq_true, if_false] at W
        have hb := nb_le (T := T) hp2.1
        refine s_xend_f b3 (by omega) ⟨fun _ => W _ ⟨frT_D (frT_tr f1 (frT_tr f2 f3)), hb, b3⟩, fun z => absurd rfl z⟩
    · simp only [eB, g2, Bool.false_eq_true, if_false] at W
      have hb := nb_le (T := T) hp1.1
      refine s_xnum_f b2 (by omega) (s_xend_f b2 (by omega) ⟨fun _ => W _ ⟨frT_D (frT_tr f1 f2), hb, b2⟩, fun z => absurd rfl z⟩)
  · simp only [eB, g1, Bool.false_eq_true, if_false] at W
    have hb := nb_le (T := T) hp.1
    refine s_xnum_f b1 (by omega) (s_xnum_f b1 (by omega) (s_xend_f b1 (by omega) ⟨fun _ => W _ ⟨frT_D f1, hb, b1⟩, fun z => absurd rfl z⟩))
theorem x_it4 {Q : Unit → fm_S → Prop} (h : RC S L T p) (hP : PP S 68) (hR : RT S 68 A n m 0 0 0 0) (W : ∀ S', PX T L (it4 T L p A) S S' → Q () S') : am_Ps vV (d + 3) k_Reader_windItem [.ref 67] S Q := by
  have hp := RC_le h
  refine e_Reader_windItem ?_
  unfold it4 nB at W
  refine s_xnum h (fun g1 S1 h1 f1 => ?_) fun g1 S1 v f1 b1 => ?_
  · simp only [eB, g1, eq_self_iff_true, if_true] at W
    have hp1 := RC_le h1
    refine s_xnum h1 (fun g2 S2 h2 f2 => ?_) fun g2 S2 v f2 b2 => ?_
    · simp only [eB, g2, eq_self_iff_true, if_true] at W
      have hp2 := RC_le h2
      have f02 := frT_tr f1 f2
      refine s_xend h2 (fun g4 S4 h4 f4 => ?_) fun g4 S4 f4 b4 => ?_
      · simp only [eB, g4, eq_self_iff_true, if_true] at W
        have f04 := frT_tr f02 f4
        have hR4 := RT_T f04 hP hR
        obtain ⟨a, _, ha, ea⟩ := wi_L (a := 0) (b := 3) (by decide) (of_decide_eq_true g1).2 (by decide)
        obtain ⟨b, _, hb, eb⟩ := wi_L (a := 0) (b := 3) (by decide) (of_decide_eq_true g2).2 (by decide)
        rw [ea, eb] at W ⊢
        rw [nI_clamp (by omega)]
        have et : tn (nI a) = a := nI_clamp (by omega)
        rw [et] at W
        exact ⟨fun z => absurd z (by decide), fun _ => ⟨vp_in_nI (by omega) (by decide), W _ ⟨frD_tr (frT_D f04) (frD_o (fun c hc => wI_ce (by omega)) rfl), RC_o h4 fun c hc => wI_ce (by omega), n, m, RT_wind hR4 (PP_T f04 hP) (by omega) (by omega)⟩⟩⟩
      · simp only [eB, g4, Bool.false_eq_true, if_false] at W
        exact ⟨fun _ => W _ ⟨frT_D (frT_tr f02 f4), nb_le hp2.1, b4⟩, fun z => absurd rfl z⟩
    · simp only [eB, g2, Bool.false_eq_true, if_false] at W
      have hb := nb_le (T := T) hp1.1
      exact s_xend_f b2 (by omega) ⟨fun _ => W _ ⟨frT_D (frT_tr f1 f2), hb, b2⟩, fun z => absurd rfl z⟩
  · simp only [eB, g1, Bool.false_eq_true, if_false] at W
    have hb := nb_le (T := T) hp.1
    exact s_xnum_f b1 (by omega) (s_xend_f b1 (by omega) ⟨fun _ => W _ ⟨frT_D f1, hb, b1⟩, fun z => absurd rfl z⟩)
theorem x_it3 {Q : Unit → fm_S → Prop} (h : RC S L T p) (hP : PP S 68) (hR : RT S 68 A n m 0 0 0 0) (W : ∀ S', PX T L (it3 T L p A n) S S' → Q () S') : am_Ps vV (d + 3) k_Reader_gateItem [.ref 67] S Q := by
  have hp := RC_le h
  have hn := hR.1.1
  refine e_Reader_gateItem ?_
  unfold it3 nB at W
  refine s_xnum h (fun g1 S1 h1 f1 => ?_) fun g1 S1 v f1 b1 => ?_
  · simp only [eB, g1, eq_self_iff_true, if_true] at W
    have hp1 := RC_le h1
    rw [show S1.1 68 0 = nI n from (RT_T f1 hP hR).2.1.1]
    refine s_xnum h1 (fun g2 S2 h2 f2 => ?_) fun g2 S2 v f2 b2 => ?_
    · simp only [eB, g2, eq_self_iff_true, if_true] at W
      have hp2 := RC_le h2
      have f02 := frT_tr f1 f2
      refine s_xend h2 (fun g4 S4 h4 f4 => ?_) fun g4 S4 f4 b4 => ?_
      · simp only [eB, g4, eq_self_iff_true, if_true] at W
        have f04 := frT_tr f02 f4
        have hR4 := RT_T f04 hP hR
        obtain ⟨a, _, ha, ea⟩ := wi_L (a := 0) (b := 3) (by decide) (of_decide_eq_true g1).2 (by decide)
        obtain ⟨b, hb, eb⟩ := wi_ne (by omega) (of_decide_eq_true g2).2
        rw [ea, eb] at W ⊢
        rw [nI_clamp (by omega)]
        have et : tn (nI a) = a := nI_clamp (by omega)
        rw [et] at W
        exact ⟨fun z => absurd z (by decide), fun _ => ⟨vp_in_nI (by omega) (by decide), W _ ⟨frD_tr (frT_D f04) (frD_o (fun c hc => wI_ce (by omega)) rfl), RC_o h4 fun c hc => wI_ce (by omega), n, m, RT_gate hR4 (PP_T f04 hP) (by omega) hb⟩⟩⟩
      · simp only [eB, g4, Bool.false_eq_true, if_false] at W
        exact ⟨fun _ => W _ ⟨frT_D (frT_tr f02 f4), nb_le hp2.1, b4⟩, fun z => absurd rfl z⟩
    · simp only [eB, g2, Bool.false_eq_true, if_false] at W
      have hb := nb_le (T := T) hp1.1
      exact s_xend_f b2 (by omega) ⟨fun _ => W _ ⟨frT_D (frT_tr f1 f2), hb, b2⟩, fun z => absurd rfl z⟩
  · simp only [eB, g1, Bool.false_eq_true, if_false] at W
    have hb := nb_le (T := T) hp.1
    exact s_xnum_f b1 (by omega) (s_xend_f b1 (by omega) ⟨fun _ => W _ ⟨frT_D f1, hb, b1⟩, fun z => absurd rfl z⟩)
end ITEM
