/-! an item: what it does -/
def nB (T : Nat → Int32) (L p : Nat) (lo hi : Int32) (k : Int32 → Nat → Nat ⊕ (Nat × (Nat → Int32))) : Nat ⊕ (Nat × (Nat → Int32)) := if nok' T L p lo hi = true then k (nv T L p) (nz T L p) else .inl (nb T L p)
def eB (T : Nat → Int32) (L p : Nat) (A : Nat → Int32) : Nat ⊕ (Nat × (Nat → Int32)) := if eok T L p = true then .inr (nb T L p + 1, A) else .inl (nb T L p)
def it0 (T : Nat → Int32) (L p : Nat) (A : Nat → Int32) : Nat ⊕ (Nat × (Nat → Int32)) := eB T L p A
def it1 (T : Nat → Int32) (L p : Nat) (A : Nat → Int32) (n : Nat) : Nat ⊕ (Nat × (Nat → Int32)) := nB T L p 0 5 fun x1 p1 => nB T L p1 0 9 fun x2 p2 => nB T L p2 0 5 fun x3 p3 => eB T L p3 (adS A n x1 x2 x3)
def it2 (T : Nat → Int32) (L p : Nat) (A : Nat → Int32) (n : Nat) : Nat ⊕ (Nat × (Nat → Int32)) := nB T L p 0 (nI n - 1) fun x1 p1 => nB T L p1 0 (nI n - 1) fun x2 p2 => if x1 = x2 then .inl (nb T L p1) else eB T L p2 (adL A (tn x1) (tn x2))
def it3 (T : Nat → Int32) (L p : Nat) (A : Nat → Int32) (n : Nat) : Nat ⊕ (Nat × (Nat → Int32)) := nB T L p 0 3 fun x1 p1 => nB T L p1 0 (nI n - 1) fun x2 p2 => eB T L p2 (up1 A (117 + tn x1) x2)
def it4 (T : Nat → Int32) (L p : Nat) (A : Nat → Int32) : Nat ⊕ (Nat × (Nat → Int32)) := nB T L p 0 3 fun x1 p1 => nB T L p1 0 3 fun x2 p2 => eB T L p2 (up1 A (121 + tn x1) x2)
def it5 (T : Nat → Int32) (L p : Nat) (A : Nat → Int32) (m : Nat) : Nat ⊕ (Nat × (Nat → Int32)) := nB T L p 0 5 fun x1 p1 => nB T L p1 1 30 fun x2 p2 => nB T L p2 0 9 fun x3 p3 => eB T L p3 (adD A m x1 x2 x3)
def itA (T : Nat → Int32) (L p : Nat) (A : Nat → Int32) (n m w : Nat) : Nat ⊕ (Nat × (Nat → Int32)) :=
  if w = 0 then it0 T L p A else if w = 1 then it1 T L p A n else if w = 2 then it2 T L p A n else if w = 3 then it3 T L p A n else if w = 4 then it4 T L p A else it5 T L p A m
/-- the class behind an item -/
def frD (S S' : fm_S) : Prop := (∀ c, (c < 67 ∨ 120 < c) → S'.1 c = S.1 c) ∧ S'.1 67 0 = S.1 67 0 ∧ S'.1 67 1 = S.1 67 1 ∧ S'.2 = S.2 ∧ (PL S → PL S')
def PX (T : Nat → Int32) (L : Nat) (r : Nat ⊕ (Nat × (Nat → Int32))) (S S' : fm_S) : Prop :=
  frD S S' ∧ match r with
  | .inl f => f ≤ L ∧ S'.1 67 4 = nI f
  | .inr q => RC S' L T q.1 ∧ ∃ n m, RT S' 68 q.2 n m 0 0 0 0
theorem frT_D {S S' : fm_S} (h : frT S S') : frD S S' := ⟨fun c hc => h.1 c (by omega), h.2.1, h.2.2.1, h.2.2.2.1, h.2.2.2.2⟩
theorem frD_tr {S S' S'' : fm_S} (h : frD S S') (h2 : frD S' S'') : frD S S'' := ⟨fun c hc => (h2.1 c hc).trans (h.1 c hc), h2.2.1.trans h.2.1, h2.2.2.1.trans h.2.2.1, h2.2.2.2.1.trans h.2.2.2.1, fun z => h2.2.2.2.2 (h.2.2.2.2 z)⟩
theorem RT_T {S S' : fm_S} {A : Nat → Int32} {n m q u y N : Nat} (h : frT S S') (hP : PP S 68) (hR : RT S 68 A n m q u y N) : RT S' 68 A n m q u y N :=
  RT_fr (fun c a b => h.1 c (by omega)) (by rw [h.2.2.2.1]) hP hR
theorem PP_T {S S' : fm_S} {t : Nat} (h : frT S S') (hP : PP S t) : PP S' t := PP_fr (by rw [h.2.2.2.1]) hP
section ITEM
variable {d L p n m : Nat} {S : fm_S} {T A : Nat → Int32}
theorem RC_le (h : RC S L T p) : p ≤ L ∧ L ≤ 150 := ⟨h.2.2.2.2.2, h.1⟩
/-- the draft alone changes -/
theorem RC_o {S' : fm_S} (h : RC S L T p) (h1 : ∀ c, (c < 68 ∨ 120 < c) → S'.1 c = S.1 c) : RC S' L T p := by
  unfold RC
  rw [h1 67 (by omega), h1 121 (by omega)]
  exact h
theorem frD_o {S' : fm_S} (h1 : ∀ c, (c < 68 ∨ 120 < c) → S'.1 c = S.1 c) (h2 : S'.2 = S.2) : frD S S' := ⟨fun c hc => h1 c (by omega), by rw [h1 67 (by omega)], by rw [h1 67 (by omega)], h2, fun z => by unfold PL at z ⊢; rw [h1 67 (by omega)]; exact z⟩
theorem aS_o {t x1 x2 x3} {c : Nat} (h : c < t ∨ t + 3 < c) : (aSt S t x1 x2 x3).1 c = S.1 c := by
  funext j
  unfold aSt
  simp (disch := omega) only [wI_cell]
theorem aD_o {t x1 x2 x3} {c : Nat} (h : c < t ∨ t + 9 < c) : (aDi S t x1 x2 x3).1 c = S.1 c := by
  funext j
  unfold aDi
  simp (disch := omega) only [wI_cell]
theorem aL_o {t x1 x2} {c : Nat} (h : c ≠ t + 4) : (g_Town_addLane S t x1 x2).1 c = S.1 c := by
  funext j
  unfold g_Town_addLane
  simp (disch := omega) only [wI_cell]
theorem x_it1 {Q : Unit → fm_S → Prop} (h : RC S L T p) (hP : PP S 68) (hR : RT S 68 A n m 0 0 0 0) (hn : n < 8) (W : ∀ S', PX T L (it1 T L p A n) S S' → Q () S') : am_Ps vV (d + 3) k_Reader_streetItem [.ref 67] S Q := by
  have hp := RC_le h
  refine e_Reader_streetItem ?_
  unfold it1 nB at W
  refine s_xnum h (fun g1 S1 h1 f1 => ?_) fun g1 S1 v f1 b1 => ?_
  · simp only [eB, g1, eq_self_iff_true, if_true] at W
    have hp1 := RC_le h1
    refine s_xnum h1 (fun g2 S2 h2 f2 => ?_) fun g2 S2 v f2 b2 => ?_
    · simp only [eB, g2, eq_self_iff_true, if_true] at W
      have hp2 := RC_le h2
      refine s_xnum h2 (fun g3 S3 h3 f3 => ?_) fun g3 S3 v f3 b3 => ?_
      · simp only [eB, g3, eq_self_iff_true, if_true] at W
        have hp3 := RC_le h3
        have f03 := frT_tr f1 (frT_tr f2 f3)
        refine s_xend h3 (fun g4 S4 h4 f4 => ?_) fun g4 S4 f4 b4 => ?_
        · simp only [eB, g4, eq_self_iff_true, if_true] at W
          have f04 := frT_tr f03 f4
          have hR4 := RT_T f04 hP hR
          refine ⟨fun z => absurd z (by decide), fun _ => ⟨fun _ => ?_, ?_⟩⟩
          · rw [hR4.2.1.1]; exact vp_in_nI hn (by decide)
          · rw [aSt_g hR4.2.1.1 hn]
            refine W _ ⟨frD_tr (frT_D f04) (frD_o (fun c hc => aS_o (by omega)) rfl), RC_o h4 fun c hc => aS_o (by omega), n + 1, m, ?_⟩
            obtain ⟨a, _, ha, ea⟩ := wi_L (a := 0) (b := 5) (by decide) (of_decide_eq_true g1).2 (by decide)
            obtain ⟨b, _, hb, eb⟩ := wi_L (a := 0) (b := 9) (by decide) (of_decide_eq_true g2).2 (by decide)
            exact RT_street hR4 hn (iN_of ea ha (by omega)) (iN_of eb hb (by omega))
        · simp only [eB, g4, Bool.false_eq_true, if_false] at W
          exact ⟨fun _ => W _ ⟨frT_D (frT_tr f03 f4), nb_le hp3.1, b4⟩, fun z => absurd rfl z⟩
      · simp only [eB, g3, Bool.false_eq_true, if_false] at W
        have hb := nb_le (T := T) hp2.1
        refine s_xend_f b3 (by omega) ⟨fun _ => W _ ⟨frT_D (frT_tr f1 (frT_tr f2 f3)), hb, b3⟩, fun z => absurd rfl z⟩
    · simp only [eB, g2, Bool.false_eq_true, if_false] at W
      have hb := nb_le (T := T) hp1.1
      refine s_xnum_f b2 (by omega) (s_xend_f b2 (by omega) ⟨fun _ => W _ ⟨frT_D (frT_tr f1 f2), hb, b2⟩, fun z => absurd rfl z⟩)
  · simp only [eB, g1, Bool.false_eq_true, if_false] at W
    have hb := nb_le (T := T) hp.1
    refine s_xnum_f b1 (by omega) (s_xnum_f b1 (by omega) (s_xend_f b1 (by omega) ⟨fun _ => W _ ⟨frT_D f1, hb, b1⟩, fun z => absurd rfl z⟩))
theorem x_it5 {Q : Unit → fm_S → Prop} (h : RC S L T p) (hP : PP S 68) (hR : RT S 68 A n m 0 0 0 0) (hm : m < 6) (W : ∀ S', PX T L (it5 T L p A m) S S' → Q () S') : am_Ps vV (d + 3) k_Reader_dishItem [.ref 67] S Q := by
  have hp := RC_le h
  refine e_Reader_dishItem ?_
  unfold it5 nB at W
  refine s_xnum h (fun g1 S1 h1 f1 => ?_) fun g1 S1 v f1 b1 => ?_
  · simp only [eB, g1, eq_self_iff_true, if_true] at W
    have hp1 := RC_le h1
    refine s_xnum h1 (fun g2 S2 h2 f2 => ?_) fun g2 S2 v f2 b2 => ?_
    · simp only [eB, g2, eq_self_iff_true, if_true] at W
      have hp2 := RC_le h2
      refine s_xnum h2 (fun g3 S3 h3 f3 => ?_) fun g3 S3 v f3 b3 => ?_
      · simp only [eB, g3, eq_self_iff_true, if_true] at W
        have hp3 := RC_le h3
        have f03 := frT_tr f1 (frT_tr f2 f3)
        refine s_xend h3 (fun g4 S4 h4 f4 => ?_) fun g4 S4 f4 b4 => ?_
        · simp only [eB, g4, eq_self_iff_true, if_true] at W
          have f04 := frT_tr f03 f4
          have hR4 := RT_T f04 hP hR
          refine ⟨fun z => absurd z (by decide), fun _ => ⟨fun _ => ?_, ?_⟩⟩
          · rw [hR4.2.1.2.1]; exact vp_in_nI hm (by decide)
          · rw [aDi_g hR4.2.1.2.1 hm]
            refine W _ ⟨frD_tr (frT_D f04) (frD_o (fun c hc => aD_o (by omega)) rfl), RC_o h4 fun c hc => aD_o (by omega), n, m + 1, ?_⟩
            obtain ⟨a, _, ha, ea⟩ := wi_L (a := 0) (b := 5) (by decide) (of_decide_eq_true g1).2 (by decide)
            obtain ⟨b, _, hb, eb⟩ := wi_L (a := 1) (b := 30) (by decide) (of_decide_eq_true g2).2 (by decide)
            obtain ⟨c, _, hc, ec⟩ := wi_L (a := 0) (b := 9) (by decide) (of_decide_eq_true g3).2 (by decide)
            exact RT_dish hR4 (PP_T f04 hP) hm (iN_of ea ha (by omega)) (iN_of eb hb (by omega)) (iN_of ec hc (by omega))
        · simp only [eB, g4, Bool.false_eq_true, if_false] at W
          exact ⟨fun _ => W _ ⟨frT_D (frT_tr f03 f4), nb_le hp3.1, b4⟩, fun z => absurd rfl z⟩
      · simp only [eB, g3, Bool.false_eq_true, if_false] at W
        have hb := nb_le (T := T) hp2.1
        refine s_xend_f b3 (by omega) ⟨fun _ => W _ ⟨frT_D (frT_tr f1 (frT_tr f2 f3)), hb, b3⟩, fun z => absurd rfl z⟩
    · simp only [eB, g2, Bool.false_eq_true, if_false] at W
      have hb := nb_le (T := T) hp1.1
      refine s_xnum_f b2 (by omega) (s_xend_f b2 (by omega) ⟨fun _ => W _ ⟨frT_D (frT_tr f1 f2), hb, b2⟩, fun z => absurd rfl z⟩)
  · simp only [eB, g1, Bool.false_eq_true, if_false] at W
    have hb := nb_le (T := T) hp.1
    refine s_xnum_f b1 (by omega) (s_xnum_f b1 (by omega) (s_xend_f b1 (by omega) ⟨fun _ => W _ ⟨frT_D f1, hb, b1⟩, fun z => absurd rfl z⟩))
theorem x_it4 {Q : Unit → fm_S → Prop} (h : RC S L T p) (hP : PP S 68) (hR : RT S 68 A n m 0 0 0 0) (W : ∀ S', PX T L (it4 T L p A) S S' → Q () S') : am_Ps vV (d + 3) k_Reader_windItem [.ref 67] S Q := by
  have hp := RC_le h
  refine e_Reader_windItem ?_
  unfold it4 nB at W
  refine s_xnum h (fun g1 S1 h1 f1 => ?_) fun g1 S1 v f1 b1 => ?_
  · simp only [eB, g1, eq_self_iff_true, if_true] at W
    have hp1 := RC_le h1
    refine s_xnum h1 (fun g2 S2 h2 f2 => ?_) fun g2 S2 v f2 b2 => ?_
    · simp only [eB, g2, eq_self_iff_true, if_true] at W
      have hp2 := RC_le h2
      have f02 := frT_tr f1 f2
      refine s_xend h2 (fun g4 S4 h4 f4 => ?_) fun g4 S4 f4 b4 => ?_
      · simp only [eB, g4, eq_self_iff_true, if_true] at W
        have f04 := frT_tr f02 f4
        have hR4 := RT_T f04 hP hR
        obtain ⟨a, _, ha, ea⟩ := wi_L (a := 0) (b := 3) (by decide) (of_decide_eq_true g1).2 (by decide)
        obtain ⟨b, _, hb, eb⟩ := wi_L (a := 0) (b := 3) (by decide) (of_decide_eq_true g2).2 (by decide)
        rw [ea, eb] at W ⊢
        rw [nI_clamp (by omega)]
        have et : tn (nI a) = a := nI_clamp (by omega)
        rw [et] at W
        exact ⟨fun z => absurd z (by decide), fun _ => ⟨vp_in_nI (by omega) (by decide), W _ ⟨frD_tr (frT_D f04) (frD_o (fun c hc => wI_ce (by omega)) rfl), RC_o h4 fun c hc => wI_ce (by omega), n, m, RT_wind hR4 (PP_T f04 hP) (by omega) (by omega)⟩⟩⟩
      · simp only [eB, g4, Bool.false_eq_true, if_false] at W
        exact ⟨fun _ => W _ ⟨frT_D (frT_tr f02 f4), nb_le hp2.1, b4⟩, fun z => absurd rfl z⟩
    · simp only [eB, g2, Bool.false_eq_true, if_false] at W
      have hb := nb_le (T := T) hp1.1
      exact s_xend_f b2 (by omega) ⟨fun _ => W _ ⟨frT_D (frT_tr f1 f2), hb, b2⟩, fun z => absurd rfl z⟩
  · simp only [eB, g1, Bool.false_eq_true, if_false] at W
    have hb := nb_le (T := T) hp.1
    exact s_xnum_f b1 (by omega) (s_xend_f b1 (by omega) ⟨fun _ => W _ ⟨frT_D f1, hb, b1⟩, fun z => absurd rfl z⟩)
theorem x_it3 {Q : Unit → fm_S → Prop} (h : RC S L T p) (hP : PP S 68) (hR : RT S 68 A n m 0 0 0 0) (W : ∀ S', PX T L (it3 T L p A n) S S' → Q () S') : am_Ps vV (d + 3) k_Reader_gateItem [.ref 67] S Q := by
  have hp := RC_le h
  have hn := hR.1.1
  refine e_Reader_gateItem ?_
  unfold it3 nB at W
  refine s_xnum h (fun g1 S1 h1 f1 => ?_) fun g1 S1 v f1 b1 => ?_
  · simp only [eB, g1, eq_self_iff_true, if_true] at W
    have hp1 := RC_le h1
    rw [show S1.1 68 0 = nI n from (RT_T f1 hP hR).2.1.1]
    refine s_xnum h1 (fun g2 S2 h2 f2 => ?_) fun g2 S2 v f2 b2 => ?_
    · simp only [eB, g2, eq_self_iff_true, if_true] at W
      have hp2 := RC_le h2
      have f02 := frT_tr f1 f2
      refine s_xend h2 (fun g4 S4 h4 f4 => ?_) fun g4 S4 f4 b4 => ?_
      · simp only [eB, g4, eq_self_iff_true, if_true] at W
        have f04 := frT_tr f02 f4
        have hR4 := RT_T f04 hP hR
        obtain ⟨a, _, ha, ea⟩ := wi_L (a := 0) (b := 3) (by decide) (of_decide_eq_true g1).2 (by decide)
        obtain ⟨b, hb, eb⟩ := wi_ne (by omega) (of_decide_eq_true g2).2
        rw [ea, eb] at W ⊢
        rw [nI_clamp (by omega)]
        have et : tn (nI a) = a := nI_clamp (by omega)
        rw [et] at W
        exact ⟨fun z => absurd z (by decide), fun _ => ⟨vp_in_nI (by omega) (by decide), W _ ⟨frD_tr (frT_D f04) (frD_o (fun c hc => wI_ce (by omega)) rfl), RC_o h4 fun c hc => wI_ce (by omega), n, m, RT_gate hR4 (PP_T f04 hP) (by omega) hb⟩⟩⟩
      · simp only [eB, g4, Bool.false_eq_true, if_false] at W
        exact ⟨fun _ => W _ ⟨frT_D (frT_tr f02 f4), nb_le hp2.1, b4⟩, fun z => absurd rfl z⟩
    · simp only [eB, g2, Bool.false_eq_true, if_false] at W
      have hb := nb_le (T := T) hp1.1
      exact s_xend_f b2 (by omega) ⟨fun _ => W _ ⟨frT_D (frT_tr f1 f2), hb, b2⟩, fun z => absurd rfl z⟩
  · simp only [eB, g1, Bool.false_eq_true, if_false] at W
    have hb := nb_le (T := T) hp.1
    exact s_xnum_f b1 (by omega) (s_xend_f b1 (by omega) ⟨fun _ => W _ ⟨frT_D f1, hb, b1⟩, fun z => absurd rfl z⟩)
theorem x_it2 {Q : Unit → fm_S → Prop} (h : RC S L T p) (hP : PP S 68) (hR : RT S 68 A n m 0 0 0 0) (W : ∀ S', PX T L (it2 T L p A n) S S' → Q () S') : am_Ps vV (d + 3) k_Reader_laneItem [.ref 67] S Q := by
  have hp := RC_le h
  have hn := hR.1.1
  refine e_Reader_laneItem ?_
  unfold it2 nB at W
  rw [show S.1 68 0 = nI n from hR.2.1.1]
  have ne4 : ∀ {f : Nat}, f < 1000 → ¬ nI f = -1 := fun hf z => by rw [eqM_F (by omega)] at z; exact z
  refine s_xnum h (fun g1 S1 h1 f1 => ?_) fun g1 S1 v f1 b1 => ?_
  · simp only [eB, g1, eq_self_iff_true, if_true] at W
    have hp1 := RC_le h1
    have hb := nb_le (T := T) hp1.1
    rw [show S1.1 68 0 = nI n from (RT_T f1 hP hR).2.1.1]
    refine s_xnum6 h1 (fun g2 S2 h2 f2 e6 => ?_) fun g2 S2 v f2 b2 => ?_
    · simp only [g2, eq_self_iff_true, if_true] at W
      have hp2 := RC_le h2
      have f02 := frT_tr f1 f2
      refine ⟨fun _ => ⟨fun heq => ?_, fun hne => ?_⟩, fun z => absurd h2.2.2.2.1 z⟩
      · rw [if_pos heq] at W
        rw [e6]
        refine s_xend_f (f := nb T L (nz T L p)) wI_same (by omega) ⟨fun _ => W _ ⟨frT_D (frT_4 f02), hb, wI_same⟩, fun z => absurd rfl z⟩
      · rw [if_neg hne] at W
        refine s_xend h2 (fun g4 S4 h4 f4 => ?_) fun g4 S4 f4 b4 => ?_
        · simp only [g4, eq_self_iff_true, if_true] at W
          have f04 := frT_tr f02 f4
          have hR4 := RT_T f04 hP hR
          obtain ⟨a, ha, ea⟩ := wi_ne (by omega) (of_decide_eq_true g1).2
          obtain ⟨b, hb, eb⟩ := wi_ne (by omega) (of_decide_eq_true g2).2
          rw [ea, eb] at W hne ⊢
          have et : tn (nI a) = a := nI_clamp (by omega)
          have et2 : tn (nI b) = b := nI_clamp (by omega)
          rw [et, et2] at W
          exact ⟨fun z => absurd z (by decide), fun _ => ⟨vp_in_nI (by omega) (by decide), vp_in_nI (by omega) (by decide), W _ ⟨frD_tr (frT_D f04) (frD_o (fun c hc => aL_o (by omega)) rfl), RC_o h4 fun c hc => aL_o (by omega), n, m, RT_lane hR4 (PP_T f04 hP) ha hb fun e => hne (by rw [e])⟩⟩⟩
        · simp only [g4, Bool.false_eq_true, if_false] at W
          exact ⟨fun _ => W _ ⟨frT_D (frT_tr f02 f4), nb_le hp2.1, b4⟩, fun z => absurd rfl z⟩
    · simp only [g2, Bool.false_eq_true, if_false] at W
      refine ⟨fun z => absurd z (by rw [b2]; exact ne4 (by omega)), fun _ => ?_⟩
      exact s_xend_f b2 (by omega) ⟨fun _ => W _ ⟨frT_D (frT_tr f1 f2), hb, b2⟩, fun z => absurd rfl z⟩
  · simp only [eB, g1, Bool.false_eq_true, if_false] at W
    have hb := nb_le (T := T) hp.1
    refine s_xnum_f b1 (by omega) ⟨fun z => absurd z (by rw [b1]; exact ne4 (by omega)), fun _ => ?_⟩
    exact s_xend_f b1 (by omega) ⟨fun _ => W _ ⟨frT_D f1, hb, b1⟩, fun z => absurd rfl z⟩
theorem x_it0 {Q : Int32 → fm_S → Prop} (h : RC S L T p) (hP : PP S 68) (hR : RT S 68 A n m 0 0 0 0) (W : ∀ S' v, PX T L (it0 T L p A) S S' → Q v S') : am_Ps vI (d + 2) k_Reader_endItem [.ref 67] S Q := by
  have hp := RC_le h
  unfold it0 eB at W
  refine s_xend h (fun g4 S4 h4 f4 => ?_) fun g4 S4 f4 b4 => ?_
  · simp only [g4, eq_self_iff_true, if_true] at W
    exact W _ _ ⟨frT_D f4, h4, n, m, RT_T f4 hP hR⟩
  · simp only [g4, Bool.false_eq_true, if_false] at W
    exact W _ _ ⟨frT_D f4, nb_le hp.1, b4⟩
end ITEM
/-! the reference -/
def frI (S S' : fm_S) : Prop := (∀ c, c ≠ 231 → c ≠ 233 → c ≠ 237 → S'.1 c = S.1 c) ∧ (∀ j, j ≠ 11 → j ≠ 12 → S'.1 231 j = S.1 231 j) ∧ S'.2 = S.2
def PM (T : Nat → Int32) (L : Nat) (r : Nat ⊕ (Nat × (Nat → Int32))) (S : fm_S) (v : Int32) (S' : fm_S) : Prop :=
  frI S S' ∧ match r with
  | .inl f => v = 0 ∧ S'.1 231 12 = nI f
  | .inr q => v = 1 ∧ RM S' L T q.1 ∧ S'.1 233 = q.2
theorem frN_I {S S' : fm_S} (h : frN S S') : frI S S' := ⟨fun c a b d => h.1 c a d, h.2.1, h.2.2⟩
theorem frI_tr {S S' S'' : fm_S} (h : frI S S') (h2 : frI S' S'') : frI S S'' := ⟨fun c a b d => (h2.1 c a b d).trans (h.1 c a b d), fun j a b => (h2.2.1 j a b).trans (h.2.1 j a b), h2.2.2.trans h.2.2⟩
theorem frI_row {S S' : fm_S} {f : Nat → Int32} (h : frI S S') : frI S (fm_row S' 233 f) := ⟨fun c a b d => by rw [← h.1 c a b d]; exact funext fun j => row_ne b, fun j a b => by rw [← h.2.1 j a b]; exact row_ne (by omega), h.2.2⟩
theorem RM_row {S : fm_S} {L p : Nat} {T f : Nat → Int32} (h : RM S L T p) : RM (fm_row S 233 f) L T p := by
  unfold RM at h ⊢
  rw [show (fm_row S 233 f).1 231 = S.1 231 from funext fun j => row_ne (by omega), show (fm_row S 233 f).1 236 = S.1 236 from funext fun j => row_ne (by omega)]
  exact h
theorem frI_w233 {S S' : fm_S} {i : Nat} {x : Int32} (h : frI S S') : frI S (fm_wI S' 233 i x) := ⟨fun c a b d => by rw [← h.1 c a b d]; exact wI_ce b, fun j a b => by rw [← h.2.1 j a b]; exact wI_cell (by omega), h.2.2⟩
theorem RM_w233 {S : fm_S} {L p i : Nat} {T : Nat → Int32} {x : Int32} (h : RM S L T p) : RM (fm_wI S 233 i x) L T p := by
  unfold RM at h ⊢
  rw [show (fm_wI S 233 i x).1 231 = S.1 231 from wI_ce (by omega), show (fm_wI S 233 i x).1 236 = S.1 236 from wI_ce (by omega)]
  exact h
theorem wI_up {S : fm_S} {c i : Nat} {x : Int32} : (fm_wI S c i x).1 c = up1 (S.1 c) i x := by
  funext j
  unfold up1
  split
  · rename_i e; subst e; exact wI_same
  · rename_i e; exact wI_place e
section MITEM
variable {d L p n m : Nat} {S : fm_S} {T : Nat → Int32}
theorem nb_nb (hp : p ≤ L) : nb T L (nb T L p) = nb T L p :=
  re_ind (P := bl) (T := T) (C := fun p => re bl T L (re bl T L p) = re bl T L p) (fun p _ hb => by rw [re_st hb, re_st hb]) (fun p hp hb ih => by rw [re_go hp hb]; exact ih) p hp
theorem nz_nb (hp : p ≤ L) : nz T L (nb T L p) = nz T L p := by unfold nz; rw [nb_nb hp]
theorem nv_nb (hp : p ≤ L) : nv T L (nb T L p) = nv T L p := by unfold nv; rw [nz_nb hp, nb_nb hp]
theorem nok_nb {lo hi : Int32} (hp : p ≤ L) : nok' T L (nb T L p) lo hi = nok' T L p lo hi := by unfold nok'; rw [nv_nb hp, nz_nb hp, nb_nb hp]
theorem m_233 {S S' : fm_S} (h : frN S S') : S'.1 233 = S.1 233 := h.1 233 (by omega) (by omega)
theorem m_it {Q : Int32 → fm_S → Prop} {w : Nat} (h : RM S L T p) (hW : WS (S.1 233) n m) (hw : w < 6) (h1 : w = 1 → n < 8) (h5 : w = 5 → m < 6) (W : ∀ v S', PM T L (itA T L p (S.1 233) n m w) S v S' → Q v S') : am_Ps vI (d + 4) k_M_item [.ref 231, .int (nI w)] S Q := by
  have hn := hW.1
  have hm := hW.2.1
  have h0 := hW.2.2.1
  have h1' := hW.2.2.2.1
  have w01 : ∀ {v : Int32} {P : Prop}, (v = 0 ∨ v = 1) → P → (v = 0 ∨ v = 1) ∧ P := fun a b => ⟨a, b⟩
  refine e_M_item ⟨fun e => ?_, fun e => ?_, fun e => ?_, fun e => ?_, fun e => ?_, fun e0 e1 e2 e3 e4 => ?_⟩
  · have hw0 : w = 0 := by rw [show (0 : Int32) = nI 0 from rfl, nI_eq (by omega) (by omega)] at e; exact e
    subst hw0
    rw [show itA T L p (S.1 233) n m 0 = eB T L p (S.1 233) from rfl] at W
    refine s_mends h (fun g S1 h1 f1 _ => ?_) fun g S1 f1 b1 => ?_
    · simp only [eB, g, eq_self_iff_true, if_true] at W
      exact ⟨Or.inr rfl, W _ _ ⟨frN_I f1, rfl, h1, m_233 f1⟩⟩
    · simp only [eB, g, Bool.false_eq_true, if_false] at W
      exact ⟨Or.inl rfl, W _ _ ⟨frN_I f1, rfl, b1⟩⟩
  · have hw1 : w = 1 := by rw [show (1 : Int32) = nI 1 from rfl, nI_eq (by omega) (by omega)] at e; exact e
    subst hw1
    have hn8 := h1 rfl
    rw [show itA T L p (S.1 233) n m 1 = it1 T L p (S.1 233) n from rfl] at W
    unfold it1 nB at W
    refine s_mnum (k := 0) (by omega) h (fun g1 S1 r1 f1 v1 o1 => ?_) fun g1 S1 f1 b1 => ?_
    · simp only [eB, g1, eq_self_iff_true, if_true] at W
      refine ⟨fun z => absurd z (by decide), fun _ => ?_⟩
      refine s_mnum (k := 1) (by omega) r1 (fun g2 S2 r2 f2 v2 o2 => ?_) fun g2 S2 f2 b2 => ?_
      · simp only [g2, eq_self_iff_true, if_true] at W
        refine ⟨fun z => absurd z (by decide), fun _ => ?_⟩
        refine s_mnum (k := 2) (by omega) r2 (fun g3 S3 r3 f3 v3 o3 => ?_) fun g3 S3 f3 b3 => ?_
        · simp only [g3, eq_self_iff_true, if_true] at W
          refine ⟨fun z => absurd z (by decide), fun _ => ?_⟩
          refine s_mends r3 (fun g4 S4 r4 f4 s4 => ?_) fun g4 S4 f4 b4 => ?_
          · simp only [g4, eq_self_iff_true, if_true] at W
            have ff := frN_tr f1 (frN_tr f2 (frN_tr f3 f4))
            have a0 : S4.1 237 0 = nv T L p := by rw [s4, o3 0 (by omega), o2 0 (by omega)]; exact v1
            have a1 : S4.1 237 1 = nv T L (nz T L p) := by rw [s4, o3 1 (by omega)]; exact v2
            have a2 : S4.1 237 2 = nv T L (nz T L (nz T L p)) := by rw [s4]; exact v3
            have e233 : S4.1 233 = S.1 233 := m_233 ff
            have e0 : S4.1 233 0 = nI n := by rw [e233]; exact h0
            refine ⟨fun z => absurd z (by decide), fun _ => ?_⟩
            rw [tn_L (by decide), e0, ln_233, a0, a1, a2, g_adS e0 hn8, e233]
            simp (disch := omega) only [lit_add, add_lit, lit_mul, mul_lit, nI_add, nI_clamp, nI_subI, nI_sub1, nI_divL, vp_T, ge_F, ge_T, geL_F, geL_T, leL_F, leL_T, le0_F, le0_T, ge0_T, row_self, row_ne, row_l, row_p, row_row, wI_row, wI_same, wI_cell, wI_place, wI_l, wI_p, lt_T, lt_F, ltL_T, ltL_F, gtL_T, gtL_F, lt0_F, eq_T, eq_F, eqL_T, eqL_F, eqM_F, leM_F, nat_mod, i_10, i_01, i_m1, eq_self_iff_true, rw8_lt, up1_ne, up1_eq, wi_T, ite_self, tg_1, tg_68, tg_124, tg_177, tg_11, tg_17, tg_59, tg_78, tg_84, ln_7, ln_16, ln_233, ln_232, ln_6, true_and, and_true, not_true_eq_false, not_false_eq_true, false_implies, true_implies, implies_true, forall_const, forall_eq, if_true, if_false, false_and, and_false]
            refine ⟨vp_in_nI (n := 0) (by decide) (by decide), vp_in_nI (n := 3) (by decide) (by decide), ?_⟩
            exact W _ _ ⟨frI_row (frN_I ff), rfl, RM_row r4, funext fun j => row_self⟩
          · simp only [g4, Bool.false_eq_true, if_false] at W
            exact ⟨fun _ => W _ _ ⟨frN_I (frN_tr f1 (frN_tr f2 (frN_tr f3 f4))), rfl, b4⟩, fun z => absurd rfl z⟩
        · simp only [g3, Bool.false_eq_true, if_false] at W
          exact ⟨fun _ => W _ _ ⟨frN_I (frN_tr f1 (frN_tr f2 f3)), rfl, b3⟩, fun z => absurd rfl z⟩
      · simp only [g2, Bool.false_eq_true, if_false] at W
        exact ⟨fun _ => W _ _ ⟨frN_I (frN_tr f1 f2), rfl, b2⟩, fun z => absurd rfl z⟩
    · simp only [eB, g1, Bool.false_eq_true, if_false] at W
      exact ⟨fun _ => W _ _ ⟨frN_I f1, rfl, b1⟩, fun z => absurd rfl z⟩
  · have hw2 : w = 2 := by rw [show (2 : Int32) = nI 2 from rfl, nI_eq (by omega) (by omega)] at e; exact e
    subst hw2
    rw [show itA T L p (S.1 233) n m 2 = it2 T L p (S.1 233) n from rfl] at W
    refine ps_mono (Q := fun v S' => (v = 0 ∨ v = 1) ∧ Q v S') ?_ (fun x S' h => h)
    unfold it2 nB at W
    refine e_M_laneItem ?_
    rw [h0]
    refine s_mnum (k := 0) (by omega) h (fun g1 S1 r1 f1 v1 o1 => ?_) fun g1 S1 f1 b1 => ?_
    · simp only [eB, g1, eq_self_iff_true, if_true] at W
      refine ⟨fun z => absurd z (by decide), fun _ => ?_⟩
      refine s_mskip r1 ?_
      have fs : frN S1 (fm_wI S1 231 11 (nI (nb T L (nz T L p)))) := frN_11
      have rs' := RM_fr r1 fs wI_same (nb_le r1.2.2.2.2)
      have e11 : (fm_wI S1 231 11 (nI (nb T L (nz T L p)))).1 231 11 = nI (nb T L (nz T L p)) := wI_same
      have e237 : (fm_wI S1 231 11 (nI (nb T L (nz T L p)))).1 237 = S1.1 237 := wI_ce (by omega)
      have e233 : (fm_wI S1 231 11 (nI (nb T L (nz T L p)))).1 233 0 = nI n := by rw [m_233 fs, m_233 f1]; exact h0
      rw [e233, e11]
      generalize fm_wI S1 231 11 (nI (nb T L (nz T L p))) = Sx at fs rs' e237 ⊢
      have hp1 := nz_le (T := T) h.2.2.2.2
      refine s_mnum (k := 1) (by omega) rs' (fun g2 S2 r2 f2 v2 o2 => ?_) fun g2 S2 f2 b2 => ?_
      · rw [nok_nb hp1] at g2
        rw [nz_nb hp1] at r2
        rw [nv_nb hp1] at v2
        simp only [g2, eq_self_iff_true, if_true] at W
        have a0 : S2.1 237 0 = nv T L p := by rw [o2 0 (by omega), e237]; exact v1
        have ff := frN_tr f1 (frN_tr fs f2)
        refine ⟨fun z => absurd z (by decide), fun _ => ?_⟩
        rw [a0, v2]
        refine ⟨fun heq => ?_, fun hne => ?_⟩
        · rw [if_pos heq] at W
          have hff := fails_f r2.2.1 r2.1 (nb_le (T := T) hp1)
          rw [hff.1]
          exact ⟨Or.inl rfl, W _ _ ⟨frN_I (frN_tr ff hff.2.1), rfl, hff.2.2⟩⟩
        · rw [if_neg hne] at W
          refine s_mends r2 (fun g4 S4 r4 f4 s4 => ?_) fun g4 S4 f4 b4 => ?_
          · simp only [g4, eq_self_iff_true, if_true] at W
            obtain ⟨a, ha, ea⟩ := wi_ne (by omega) (of_decide_eq_true g1).2
            obtain ⟨b, hb, eb⟩ := wi_ne (by omega) (of_decide_eq_true g2).2
            rw [ea, eb] at W
            have et : tn (nI a) = a := nI_clamp (by omega)
            have et2 : tn (nI b) = b := nI_clamp (by omega)
            rw [et, et2] at W
            have a0 : S4.1 237 0 = nI a := by rw [s4, a0, ea]
            have a1 : S4.1 237 1 = nI b := by rw [s4, v2, eb]
            refine ⟨fun z => absurd z (by decide), fun _ => ?_⟩
            rw [a0, a1, g_adL (by omega) (by omega), ln_233, m_233 (frN_tr ff f4)]
            simp (disch := omega) only [lit_add, add_lit, lit_mul, mul_lit, nI_add, nI_clamp, nI_subI, nI_sub1, nI_divL, vp_T, ge_F, ge_T, geL_F, geL_T, leL_F, leL_T, le0_F, le0_T, ge0_T, row_self, row_ne, row_l, row_p, row_row, wI_row, wI_same, wI_cell, wI_place, wI_l, wI_p, lt_T, lt_F, ltL_T, ltL_F, gtL_T, gtL_F, lt0_F, eq_T, eq_F, eqL_T, eqL_F, eqM_F, leM_F, nat_mod, i_10, i_01, i_m1, eq_self_iff_true, rw8_lt, up1_ne, up1_eq, wi_T, ite_self, tg_1, tg_68, tg_124, tg_177, tg_11, tg_17, tg_59, tg_78, tg_84, ln_7, ln_16, ln_233, ln_232, ln_6, true_and, and_true, not_true_eq_false, not_false_eq_true, false_implies, true_implies, implies_true, forall_const, forall_eq, if_true, if_false, false_and, and_false]
            exact ⟨Or.inr trivial, W _ _ ⟨frI_row (frN_I (frN_tr ff f4)), rfl, RM_row r4, funext fun j => row_self⟩⟩
          · simp only [g4, Bool.false_eq_true, if_false] at W
            exact ⟨fun _ => ⟨Or.inl rfl, W _ _ ⟨frN_I (frN_tr ff f4), rfl, b4⟩⟩, fun z => absurd rfl z⟩
      · rw [nok_nb hp1] at g2
        rw [nb_nb hp1] at b2
        simp only [g2, Bool.false_eq_true, if_false] at W
        exact ⟨fun _ => ⟨Or.inl rfl, W _ _ ⟨frN_I (frN_tr f1 (frN_tr fs f2)), rfl, b2⟩⟩, fun z => absurd rfl z⟩
    · simp only [eB, g1, Bool.false_eq_true, if_false] at W
      exact ⟨fun _ => ⟨Or.inl rfl, W _ _ ⟨frN_I f1, rfl, b1⟩⟩, fun z => absurd rfl z⟩
  · have hw3 : w = 3 := by rw [show (3 : Int32) = nI 3 from rfl, nI_eq (by omega) (by omega)] at e; exact e
    subst hw3
    rw [show itA T L p (S.1 233) n m 3 = it3 T L p (S.1 233) n from rfl] at W
    unfold it3 nB at W
    refine s_mnum (k := 0) (by omega) h (fun g1 S1 r1 f1 v1 o1 => ?_) fun g1 S1 f1 b1 => ?_
    · simp only [eB, g1, eq_self_iff_true, if_true] at W
      refine ⟨fun z => absurd z (by decide), fun _ => ?_⟩
      rw [show S1.1 233 0 = nI n from by rw [m_233 f1]; exact h0]
      refine s_mnum (k := 1) (by omega) r1 (fun g2 S2 r2 f2 v2 o2 => ?_) fun g2 S2 f2 b2 => ?_
      · simp only [g2, eq_self_iff_true, if_true] at W
        refine ⟨fun z => absurd z (by decide), fun _ => ?_⟩
        refine s_mends r2 (fun g4 S4 r4 f4 s4 => ?_) fun g4 S4 f4 b4 => ?_
        · simp only [g4, eq_self_iff_true, if_true] at W
          have ff := frN_tr f1 (frN_tr f2 f4)
          obtain ⟨a, _, ha, ea⟩ := wi_L (a := 0) (b := 3) (by decide) (of_decide_eq_true g1).2 (by decide)
          rw [ea] at W
          have et : tn (nI a) = a := nI_clamp (by omega)
          rw [et] at W
          have a0 : S4.1 237 0 = nI a := by rw [s4, o2 0 (by omega), v1, ea]
          have a1 : S4.1 237 1 = nv T L (nz T L p) := by rw [s4]; exact v2
          refine ⟨fun z => absurd z (by decide), fun _ => ?_⟩
          rw [a0, a1]
          simp (disch := omega) only [lit_add, add_lit, lit_mul, mul_lit, nI_add, nI_clamp, nI_subI, nI_sub1, nI_divL, vp_T, ge_F, ge_T, geL_F, geL_T, leL_F, leL_T, le0_F, le0_T, ge0_T, row_self, row_ne, row_l, row_p, row_row, wI_row, wI_same, wI_cell, wI_place, wI_l, wI_p, lt_T, lt_F, ltL_T, ltL_F, gtL_T, gtL_F, lt0_F, eq_T, eq_F, eqL_T, eqL_F, eqM_F, leM_F, nat_mod, i_10, i_01, i_m1, eq_self_iff_true, rw8_lt, up1_ne, up1_eq, wi_T, ite_self, tg_1, tg_68, tg_124, tg_177, tg_11, tg_17, tg_59, tg_78, tg_84, ln_7, ln_16, ln_233, ln_232, ln_6, true_and, and_true, not_true_eq_false, not_false_eq_true, false_implies, true_implies, implies_true, forall_const, forall_eq, if_true, if_false, false_and, and_false]
          refine W _ _ ⟨frI_w233 (frN_I ff), rfl, RM_w233 r4, ?_⟩
          rw [← m_233 ff]
          exact wI_up
        · simp only [g4, Bool.false_eq_true, if_false] at W
          exact ⟨fun _ => W _ _ ⟨frN_I (frN_tr f1 (frN_tr f2 f4)), rfl, b4⟩, fun z => absurd rfl z⟩
      · simp only [g2, Bool.false_eq_true, if_false] at W
        exact ⟨fun _ => W _ _ ⟨frN_I (frN_tr f1 f2), rfl, b2⟩, fun z => absurd rfl z⟩
    · simp only [eB, g1, Bool.false_eq_true, if_false] at W
      exact ⟨fun _ => W _ _ ⟨frN_I f1, rfl, b1⟩, fun z => absurd rfl z⟩
  · have hw4 : w = 4 := by rw [show (4 : Int32) = nI 4 from rfl, nI_eq (by omega) (by omega)] at e; exact e
    subst hw4
    rw [show itA T L p (S.1 233) n m 4 = it4 T L p (S.1 233) from rfl] at W
    unfold it4 nB at W
    refine s_mnum (k := 0) (by omega) h (fun g1 S1 r1 f1 v1 o1 => ?_) fun g1 S1 f1 b1 => ?_
    · simp only [eB, g1, eq_self_iff_true, if_true] at W
      refine ⟨fun z => absurd z (by decide), fun _ => ?_⟩
      refine s_mnum (k := 1) (by omega) r1 (fun g2 S2 r2 f2 v2 o2 => ?_) fun g2 S2 f2 b2 => ?_
      · simp only [g2, eq_self_iff_true, if_true] at W
        refine ⟨fun z => absurd z (by decide), fun _ => ?_⟩
        refine s_mends r2 (fun g4 S4 r4 f4 s4 => ?_) fun g4 S4 f4 b4 => ?_
        · simp only [g4, eq_self_iff_true, if_true] at W
          have ff := frN_tr f1 (frN_tr f2 f4)
          obtain ⟨a, _, ha, ea⟩ := wi_L (a := 0) (b := 3) (by decide) (of_decide_eq_true g1).2 (by decide)
          rw [ea] at W
          have et : tn (nI a) = a := nI_clamp (by omega)
          rw [et] at W
          have a0 : S4.1 237 0 = nI a := by rw [s4, o2 0 (by omega), v1, ea]
          have a1 : S4.1 237 1 = nv T L (nz T L p) := by rw [s4]; exact v2
          refine ⟨fun z => absurd z (by decide), fun _ => ?_⟩
          rw [a0, a1]
          simp (disch := omega) only [lit_add, add_lit, lit_mul, mul_lit, nI_add, nI_clamp, nI_subI, nI_sub1, nI_divL, vp_T, ge_F, ge_T, geL_F, geL_T, leL_F, leL_T, le0_F, le0_T, ge0_T, row_self, row_ne, row_l, row_p, row_row, wI_row, wI_same, wI_cell, wI_place, wI_l, wI_p, lt_T, lt_F, ltL_T, ltL_F, gtL_T, gtL_F, lt0_F, eq_T, eq_F, eqL_T, eqL_F, eqM_F, leM_F, nat_mod, i_10, i_01, i_m1, eq_self_iff_true, rw8_lt, up1_ne, up1_eq, wi_T, ite_self, tg_1, tg_68, tg_124, tg_177, tg_11, tg_17, tg_59, tg_78, tg_84, ln_7, ln_16, ln_233, ln_232, ln_6, true_and, and_true, not_true_eq_false, not_false_eq_true, false_implies, true_implies, implies_true, forall_const, forall_eq, if_true, if_false, false_and, and_false]
          refine W _ _ ⟨frI_w233 (frN_I ff), rfl, RM_w233 r4, ?_⟩
          rw [← m_233 ff]
          exact wI_up
        · simp only [g4, Bool.false_eq_true, if_false] at W
          exact ⟨fun _ => W _ _ ⟨frN_I (frN_tr f1 (frN_tr f2 f4)), rfl, b4⟩, fun z => absurd rfl z⟩
      · simp only [g2, Bool.false_eq_true, if_false] at W
        exact ⟨fun _ => W _ _ ⟨frN_I (frN_tr f1 f2), rfl, b2⟩, fun z => absurd rfl z⟩
    · simp only [eB, g1, Bool.false_eq_true, if_false] at W
      exact ⟨fun _ => W _ _ ⟨frN_I f1, rfl, b1⟩, fun z => absurd rfl z⟩
  · have hw5 : w = 5 := by
      have : w = 0 ∨ w = 1 ∨ w = 2 ∨ w = 3 ∨ w = 4 ∨ w = 5 := by omega
      rcases this with rfl | rfl | rfl | rfl | rfl | rfl
      · exact absurd rfl e0
      · exact absurd rfl e1
      · exact absurd rfl e2
      · exact absurd rfl e3
      · exact absurd rfl e4
      · rfl
    subst hw5
    have hm6 := h5 rfl
    rw [show itA T L p (S.1 233) n m 5 = it5 T L p (S.1 233) m from rfl] at W
    unfold it5 nB at W
    refine s_mnum (k := 0) (by omega) h (fun g1 S1 r1 f1 v1 o1 => ?_) fun g1 S1 f1 b1 => ?_
    · simp only [eB, g1, eq_self_iff_true, if_true] at W
      refine ⟨fun z => absurd z (by decide), fun _ => ?_⟩
      refine s_mnum (k := 1) (by omega) r1 (fun g2 S2 r2 f2 v2 o2 => ?_) fun g2 S2 f2 b2 => ?_
      · simp only [g2, eq_self_iff_true, if_true] at W
        refine ⟨fun z => absurd z (by decide), fun _ => ?_⟩
        refine s_mnum (k := 2) (by omega) r2 (fun g3 S3 r3 f3 v3 o3 => ?_) fun g3 S3 f3 b3 => ?_
        · simp only [g3, eq_self_iff_true, if_true] at W
          refine ⟨fun z => absurd z (by decide), fun _ => ?_⟩
          refine s_mends r3 (fun g4 S4 r4 f4 s4 => ?_) fun g4 S4 f4 b4 => ?_
          · simp only [g4, eq_self_iff_true, if_true] at W
            have ff := frN_tr f1 (frN_tr f2 (frN_tr f3 f4))
            have a0 : S4.1 237 0 = nv T L p := by rw [s4, o3 0 (by omega), o2 0 (by omega)]; exact v1
            have a1 : S4.1 237 1 = nv T L (nz T L p) := by rw [s4, o3 1 (by omega)]; exact v2
            have a2 : S4.1 237 2 = nv T L (nz T L (nz T L p)) := by rw [s4]; exact v3
            have e233 : S4.1 233 = S.1 233 := m_233 ff
            have e0 : S4.1 233 1 = nI m := by rw [e233]; exact h1'
            refine ⟨fun z => absurd z (by decide), fun _ => ?_⟩
            rw [show ((1 : Int32).toNatClampNeg) = 1 from rfl, e0, ln_233, a0, a1, a2, g_adD e0 hm6, e233]
            simp (disch := omega) only [lit_add, add_lit, lit_mul, mul_lit, nI_add, nI_clamp, nI_subI, nI_sub1, nI_divL, vp_T, ge_F, ge_T, geL_F, geL_T, leL_F, leL_T, le0_F, le0_T, ge0_T, row_self, row_ne, row_l, row_p, row_row, wI_row, wI_same, wI_cell, wI_place, wI_l, wI_p, lt_T, lt_F, ltL_T, ltL_F, gtL_T, gtL_F, lt0_F, eq_T, eq_F, eqL_T, eqL_F, eqM_F, leM_F, nat_mod, i_10, i_01, i_m1, eq_self_iff_true, rw8_lt, up1_ne, up1_eq, wi_T, ite_self, tg_1, tg_68, tg_124, tg_177, tg_11, tg_17, tg_59, tg_78, tg_84, ln_7, ln_16, ln_233, ln_232, ln_6, true_and, and_true, not_true_eq_false, not_false_eq_true, false_implies, true_implies, implies_true, forall_const, forall_eq, if_true, if_false, false_and, and_false]
            refine ⟨vp_in_nI (n := 1) (by decide) (by decide), ?_⟩
            exact W _ _ ⟨frI_row (frN_I ff), rfl, RM_row r4, funext fun j => row_self⟩
          · simp only [g4, Bool.false_eq_true, if_false] at W
            exact ⟨fun _ => W _ _ ⟨frN_I (frN_tr f1 (frN_tr f2 (frN_tr f3 f4))), rfl, b4⟩, fun z => absurd rfl z⟩
        · simp only [g3, Bool.false_eq_true, if_false] at W
          exact ⟨fun _ => W _ _ ⟨frN_I (frN_tr f1 (frN_tr f2 f3)), rfl, b3⟩, fun z => absurd rfl z⟩
      · simp only [g2, Bool.false_eq_true, if_false] at W
        exact ⟨fun _ => W _ _ ⟨frN_I (frN_tr f1 f2), rfl, b2⟩, fun z => absurd rfl z⟩
    · simp only [eB, g1, Bool.false_eq_true, if_false] at W
      exact ⟨fun _ => W _ _ ⟨frN_I f1, rfl, b1⟩, fun z => absurd rfl z⟩
end MITEM
