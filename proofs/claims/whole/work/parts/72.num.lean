/-! numbers and ends, both sides -/
theorem fg_lt {x : Int32} (h : fg x = true) : lt x = false := by
  unfold fg lt at *
  have h := of_decide_eq_true h
  obtain ⟨j, a, b, rfl⟩ := wi_L (a := 48) (b := 57) (by decide) h (by decide)
  refine decide_eq_false fun z => z ?_
  unfold f_X_within
  exact if_pos (nI_lt (b := 97) (by omega) (by decide))
theorem lt_fg {x : Int32} (h : lt x = true) : fg x = false := by
  rcases hf : fg x with _ | _
  · rfl
  · rw [fg_lt hf] at h; cases h
section NUM
variable {d L p : Nat} {S : fm_S} {T : Nat → Int32}
def nb (T : Nat → Int32) (L p : Nat) : Nat := re bl T L p
def nz (T : Nat → Int32) (L p : Nat) : Nat := re fg T L (nb T L p)
def nv (T : Nat → Int32) (L p : Nat) : Int32 := vl T (nb T L p) (nz T L p - nb T L p)
def nok' (T : Nat → Int32) (L p : Nat) (lo hi : Int32) : Bool := decide ((1 ≤ nz T L p - nb T L p ∧ nz T L p - nb T L p ≤ 2) ∧ ¬ f_X_within (nv T L p) lo hi = 0)
def eok (T : Nat → Int32) (L p : Nat) : Bool := decide (nb T L p < L ∧ T (nb T L p) = 59)
theorem nb_le (hp : p ≤ L) : nb T L p ≤ L := re_le hp
theorem nz_le (hp : p ≤ L) : nz T L p ≤ L := re_le (nb_le hp)
theorem nb_ge : p ≤ nb T L p := re_ge
theorem nz_ge : nb T L p ≤ nz T L p := re_ge
theorem nz_st (h : L ≤ nb T L p ∨ fg (T (nb T L p)) = false) : nz T L p = nb T L p := re_st h
theorem nz_go (h : nb T L p < L) (h2 : fg (T (nb T L p)) = true) : nb T L p < nz T L p := by
  unfold nz
  rw [re_go h h2]
  exact Nat.lt_of_lt_of_le (Nat.lt_succ_self _) re_ge
/-- the class' reader without a fault, at place p -/
def RC (S : fm_S) (L : Nat) (T : Nat → Int32) (p : Nat) : Prop := L ≤ 150 ∧ S.1 67 0 = nI L ∧ (∀ k, k < L → S.1 121 k = T k) ∧ S.1 67 4 = -1 ∧ S.1 67 5 = nI p ∧ p ≤ L
def PL (S : fm_S) : Prop := ∃ L p, L ≤ 150 ∧ S.1 67 0 = nI L ∧ p ≤ L ∧ S.1 67 5 = nI p
def frT (S S' : fm_S) : Prop := (∀ c, c ≠ 67 → S'.1 c = S.1 c) ∧ S'.1 67 0 = S.1 67 0 ∧ S'.1 67 1 = S.1 67 1 ∧ S'.2 = S.2 ∧ (PL S → PL S')
theorem frT_id : frT S S := ⟨fun _ _ => rfl, rfl, rfl, rfl, id⟩
theorem frT_tr {S' S'' : fm_S} (h : frT S S') (h2 : frT S' S'') : frT S S'' := ⟨fun c hc => (h2.1 c hc).trans (h.1 c hc), h2.2.1.trans h.2.1, h2.2.2.1.trans h.2.2.1, h2.2.2.2.1.trans h.2.2.2.1, fun z => h2.2.2.2.2 (h.2.2.2.2 z)⟩
theorem tk_5 {g r : Nat → Int32} (hp : p ≤ L) (h : tkR T L p g r) : ∃ q, q ≤ L ∧ r 5 = nI q := by
  have hb : re bl T L p ≤ L := re_le hp
  obtain ⟨t1, t2, t3, t4, t5, t6⟩ := h
  rcases Nat.lt_or_ge (re bl T L p) L with q | q
  · rcases h1 : lt (T (re bl T L p)) with _ | _
    · rcases h2 : fg (T (re bl T L p)) with _ | _
      · exact ⟨_, by omega, (t6 q h1 h2).1⟩
      · exact ⟨_, re_le hb, (t5 q h1 h2).1⟩
    · exact ⟨_, re_le hb, (t4 q h1).2⟩
  · exact ⟨L, Nat.le_refl L, (t3 (by omega)).2⟩
theorem tk_fr {r : Nat → Int32} (hL : L ≤ 150) (h0 : S.1 67 0 = nI L) (hp : p ≤ L) (h : tkR T L p (S.1 67) r) : frT S (fm_row S 67 r) := by
  have e0 : r 0 = S.1 67 0 := h.1 0 (by omega) (by omega) (by omega) (by omega)
  refine ⟨fun c hc => funext fun j => row_ne hc, by rw [row_self]; exact e0, by rw [row_self]; exact h.1 1 (by omega) (by omega) (by omega) (by omega), rfl, fun _ => ?_⟩
  obtain ⟨q, a, b⟩ := tk_5 hp h
  exact ⟨L, q, hL, by rw [row_self, e0]; exact h0, a, by rw [row_self]; exact b⟩
theorem frT_4 {S' : fm_S} {x : Int32} (h : frT S S') : frT S (fm_wI S' 67 4 x) :=
  frT_tr h ⟨fun c hc => wI_ce hc, wI_place (by omega), wI_place (by omega), rfl, fun ⟨L, p, a, b, c, e⟩ => ⟨L, p, a, by rw [wI_place (by omega)]; exact b, c, by rw [wI_place (by omega)]; exact e⟩⟩
theorem s_xnum6 {Q : Int32 → fm_S → Prop} {lo hi : Int32} (h : RC S L T p)
    (W1 : nok' T L p lo hi = true → ∀ S', RC S' L T (nz T L p) → frT S S' → S'.1 67 6 = nI (nb T L p) → Q (nv T L p) S')
    (W0 : nok' T L p lo hi = false → ∀ S' v, frT S S' → S'.1 67 4 = nI (nb T L p) → Q v S') :
    am_Ps vI (d + 2) k_Reader_number [.ref 67, .int lo, .int hi] S Q := by
  obtain ⟨hL, h0, hT, h4, h5, hp⟩ := h
  refine e_Reader_number ⟨fun _ => ?_, fun z => absurd h4 z⟩
  refine s_take hL h0 hT h5 hp fun r hr => ?_
  have hfr := tk_fr hL h0 hp hr
  obtain ⟨t1, t2, t3, t4, t5, t6⟩ := hr
  have bad : nok' T L p lo hi = false → ∀ v, Q v (fm_wI (fm_row S 67 r) 67 4 ((fm_row S 67 r).1 67 6)) := fun hb v => W0 hb _ v (frT_4 hfr) (by rw [wI_same, row_self]; exact t2)
  have e7 : (fm_row S 67 r).1 67 7 = r 7 := row_self
  have e8 : (fm_row S 67 r).1 67 8 = r 8 := row_self
  rw [e7, e8]
  have no2 : r 7 ≠ 2 → nok' T L p lo hi = false → (r 7 = 2 → (f_X_within (r 8) lo hi = 0 → Q ((fm_wI (fm_row S 67 r) 67 4 ((fm_row S 67 r).1 67 6)).1 67 8) (fm_wI (fm_row S 67 r) 67 4 ((fm_row S 67 r).1 67 6))) ∧ (¬ f_X_within (r 8) lo hi = 0 → Q (r 8) (fm_row S 67 r))) ∧ (¬ r 7 = 2 → Q ((fm_wI (fm_row S 67 r) 67 4 ((fm_row S 67 r).1 67 6)).1 67 8) (fm_wI (fm_row S 67 r) 67 4 ((fm_row S 67 r).1 67 6))) :=
    fun z hb => ⟨fun z2 => absurd z2 z, fun _ => bad hb _⟩
  have nst : nz T L p = nb T L p → nok' T L p lo hi = false := fun z => decide_eq_false fun a => by omega
  change (re bl T L p = L → _) at t3
  rcases Nat.lt_or_ge (nb T L p) L with q | q
  · rcases h1 : lt (T (nb T L p)) with _ | _
    · rcases h2 : fg (T (nb T L p)) with _ | _
      · have z := t6 q h1 h2
        refine no2 ?_ (nst (nz_st (Or.inr h2)))
        rw [z.2]
        split <;> decide
      · obtain ⟨z1, z2, z3⟩ := t5 q h1 h2
        have hgo := nz_go q h2
        by_cases hle : nz T L p - nb T L p ≤ 2
        · rw [if_pos (show re fg T L (re bl T L p) - re bl T L p ≤ 2 from hle)] at z2
          have z3 : r 8 = nv T L p := z3 hle
          refine ⟨fun _ => ⟨fun hw => ?_, fun hw => ?_⟩, fun z => absurd z2 z⟩
          · rw [z3] at hw
            exact bad (decide_eq_false fun a => a.2 hw) _
          · rw [z3] at hw ⊢
            refine W1 (decide_eq_true ⟨⟨by omega, hle⟩, hw⟩) _ ⟨hL, ?_, fun k hk => ?_, ?_, ?_, nz_le hp⟩ hfr ?_
            · rw [row_self, t1 0 (by omega) (by omega) (by omega) (by omega)]; exact h0
            · rw [row_ne (by omega)]; exact hT k hk
            · rw [row_self, t1 4 (by omega) (by omega) (by omega) (by omega)]; exact h4
            · rw [row_self]; exact z1
            · rw [row_self]; exact t2
        · rw [if_neg (show ¬ re fg T L (re bl T L p) - re bl T L p ≤ 2 from hle)] at z2
          refine no2 (by rw [z2]; decide) (decide_eq_false fun a => hle a.1.2)
    · have z := t4 q h1
      refine no2 (by rw [z.1]; decide) (nst (nz_st (Or.inr (lt_fg h1))))
  · have hbL : nb T L p = L := by have := nb_le (T := T) hp; omega
    have z := t3 hbL
    refine no2 (by rw [z.1]; decide) (nst (nz_st (Or.inl q)))
theorem s_xnum {Q : Int32 → fm_S → Prop} {lo hi : Int32} (h : RC S L T p)
    (W1 : nok' T L p lo hi = true → ∀ S', RC S' L T (nz T L p) → frT S S' → Q (nv T L p) S')
    (W0 : nok' T L p lo hi = false → ∀ S' v, frT S S' → S'.1 67 4 = nI (nb T L p) → Q v S') :
    am_Ps vI (d + 2) k_Reader_number [.ref 67, .int lo, .int hi] S Q := s_xnum6 h (fun g S' a b _ => W1 g S' a b) W0
theorem s_xnum_f {Q : Int32 → fm_S → Prop} {lo hi : Int32} {f : Nat} (hf : S.1 67 4 = nI f) (hb : f < 1000) (W : Q (S.1 67 8) S) : am_Ps vI (d + 2) k_Reader_number [.ref 67, .int lo, .int hi] S Q :=
  e_Reader_number ⟨fun z => absurd z (by rw [hf, eqM_F (by omega)]; exact id), fun _ => W⟩
theorem s_xend {Q : Int32 → fm_S → Prop} (h : RC S L T p)
    (W1 : eok T L p = true → ∀ S', RC S' L T (nb T L p + 1) → frT S S' → Q 1 S')
    (W0 : eok T L p = false → ∀ S', frT S S' → S'.1 67 4 = nI (nb T L p) → Q 0 S') :
    am_Ps vI (d + 2) k_Reader_endItem [.ref 67] S Q := by
  obtain ⟨hL, h0, hT, h4, h5, hp⟩ := h
  have hle := nb_le (T := T) hp
  refine e_Reader_endItem ⟨fun _ => ?_, fun z => absurd h4 z⟩
  refine s_take hL h0 hT h5 hp fun r hr => ?_
  have hfr := tk_fr hL h0 hp hr
  obtain ⟨t1, t2, t3, t4, t5, t6⟩ := hr
  have e7 : (fm_row S 67 r).1 67 7 = r 7 := row_self
  have e4 : (fm_row S 67 r).1 67 4 = -1 := by rw [row_self, t1 4 (by omega) (by omega) (by omega) (by omega)]; exact h4
  have e6 : (fm_row S 67 r).1 67 6 = nI (nb T L p) := by rw [row_self]; exact t2
  have w4 : ∀ x, (fm_wI (fm_row S 67 r) 67 4 x).1 67 4 = x := fun x => wI_same
  rw [e7, e4, e6, w4]
  have no3 : r 7 ≠ 3 → eok T L p = false → (r 7 = 3 → ∀ v5 : Int32, v5 = (if (-1 : Int32) = -1 then (1 : Int32) else 0) → (v5 = 0 ∨ v5 = 1) ∧ Q v5 (fm_row S 67 r)) ∧ (¬ r 7 = 3 → ∀ v8 : Int32, v8 = (if nI (nb T L p) = -1 then (1 : Int32) else 0) → (v8 = 0 ∨ v8 = 1) ∧ Q v8 (fm_wI (fm_row S 67 r) 67 4 (nI (nb T L p)))) := fun z hb => by
    refine ⟨fun z2 => absurd z2 z, fun _ v8 e => ?_⟩
    rw [if_neg (by rw [eqM_F (by omega)]; exact id)] at e
    subst e
    exact ⟨Or.inl rfl, W0 hb _ (frT_4 hfr) wI_same⟩
  rcases Nat.lt_or_ge (nb T L p) L with q | q
  · have lt59 : T (nb T L p) = 59 → lt (T (nb T L p)) = false ∧ fg (T (nb T L p)) = false := fun z => by rw [z]; exact ⟨by decide, by decide⟩
    rcases h1 : lt (T (nb T L p)) with _ | _
    · rcases h2 : fg (T (nb T L p)) with _ | _
      · obtain ⟨z1, z2⟩ := t6 q h1 h2
        by_cases h59 : T (nb T L p) = 59
        · rw [if_pos (show T (re bl T L p) = 59 from h59)] at z2
          refine ⟨fun _ v5 e => ?_, fun z => absurd z2 z⟩
          rw [if_pos rfl] at e
          subst e
          refine ⟨Or.inr rfl, W1 (decide_eq_true ⟨q, h59⟩) _ ⟨hL, ?_, fun k hk => ?_, ?_, ?_, by omega⟩ hfr⟩
          · rw [row_self, t1 0 (by omega) (by omega) (by omega) (by omega)]; exact h0
          · rw [row_ne (by omega)]; exact hT k hk
          · rw [row_self, t1 4 (by omega) (by omega) (by omega) (by omega)]; exact h4
          · rw [row_self]; exact z1
        · rw [if_neg (show ¬ T (re bl T L p) = 59 from h59)] at z2
          exact no3 (by rw [z2]; decide) (decide_eq_false fun a => h59 a.2)
      · obtain ⟨z1, z2, z3⟩ := t5 q h1 h2
        refine no3 (by rw [z2]; split <;> decide) (decide_eq_false fun a => ?_)
        rw [(lt59 a.2).2] at h2; cases h2
    · have z := t4 q h1
      refine no3 (by rw [z.1]; decide) (decide_eq_false fun a => ?_)
      rw [(lt59 a.2).1] at h1; cases h1
  · have hbL : nb T L p = L := by omega
    have z := t3 hbL
    exact no3 (by rw [z.1]; decide) (decide_eq_false fun a => by omega)
theorem s_xend_f {Q : Int32 → fm_S → Prop} {f : Nat} (hf : S.1 67 4 = nI f) (hb : f < 1000) (W : Q 0 S) : am_Ps vI (d + 2) k_Reader_endItem [.ref 67] S Q :=
  e_Reader_endItem ⟨fun z => absurd z (by rw [hf, eqM_F (by omega)]; exact id), fun _ => W⟩
/-! the reference -/
def RM (S : fm_S) (L : Nat) (T : Nat → Int32) (p : Nat) : Prop := L ≤ 150 ∧ S.1 231 5 = nI L ∧ (∀ k, k < L → S.1 236 k = T k) ∧ S.1 231 11 = nI p ∧ p ≤ L
def frN (S S' : fm_S) : Prop := (∀ c, c ≠ 231 → c ≠ 237 → S'.1 c = S.1 c) ∧ (∀ j, j ≠ 11 → j ≠ 12 → S'.1 231 j = S.1 231 j) ∧ S'.2 = S.2
theorem frN_id : frN S S := ⟨fun _ _ _ => rfl, fun _ _ _ => rfl, rfl⟩
theorem frN_tr {S' S'' : fm_S} (h : frN S S') (h2 : frN S' S'') : frN S S'' := ⟨fun c a b => (h2.1 c a b).trans (h.1 c a b), fun j a b => (h2.2.1 j a b).trans (h.2.1 j a b), h2.2.2.trans h.2.2⟩
theorem frN_11 {x : Int32} : frN S (fm_wI S 231 11 x) := ⟨fun c a _ => wI_ce a, fun j a _ => wI_place a, rfl⟩
theorem frN_12 {x : Int32} : frN S (fm_wI S 231 12 x) := ⟨fun c a _ => wI_ce a, fun j _ b => wI_place b, rfl⟩
theorem frN_237 {k : Nat} {x : Int32} : frN S (fm_wI S 237 k x) := ⟨fun c _ b => wI_ce b, fun j _ _ => wI_cell (by omega), rfl⟩
theorem RM_fr {S' : fm_S} {q : Nat} (h : RM S L T p) (hf : frN S S') (h11 : S'.1 231 11 = nI q) (hq : q ≤ L) : RM S' L T q :=
  ⟨h.1, by rw [hf.2.1 5 (by omega) (by omega)]; exact h.2.1, fun k hk => by rw [hf.1 236 (by omega) (by omega)]; exact h.2.2.1 k hk, h11, hq⟩
theorem byte_in (h : RM S L T p) (hp : p < L) : f_M_byteAt S (nI p) = T p := by
  unfold f_M_byteAt
  rw [h.2.1, if_neg (nI_ge hp (by have := h.1; omega)), nI_clamp (by have := h.1; omega)]
  exact h.2.2.1 p hp
theorem byte_out (h : RM S L T p) (hp : L ≤ p) : f_M_byteAt S (nI p) = -1 := by
  unfold f_M_byteAt
  rw [h.2.1, if_pos (nI_le hp (by have := h.1; have := h.2.2.2.2; omega))]
theorem wI_idI {a i : Nat} {x : Int32} (h : S.1 a i = x) : fm_wI S a i x = S := by
  refine fm_ext (fun c j => ?_) (fun _ _ => rfl) fun _ _ => rfl
  show (if c = a ∧ j = i then x else S.1 c j) = _
  by_cases e : c = a ∧ j = i
  · rw [if_pos e, ← h, e.1, e.2]
  · rw [if_neg e]
theorem wI_wI {a i : Nat} {x y : Int32} : fm_wI (fm_wI S a i x) a i y = fm_wI S a i y := by
  refine fm_ext (fun c j => ?_) (fun _ _ => rfl) fun _ _ => rfl
  show (if c = a ∧ j = i then y else if c = a ∧ j = i then x else S.1 c j) = if c = a ∧ j = i then y else S.1 c j
  split <;> rfl
theorem s_mskip {Q : Unit → fm_S → Prop} (h : RM S L T p) (W : Q () (fm_wI S 231 11 (nI (nb T L p)))) : am_Ps vV (d + 1) k_M_skip [.ref 231] S Q := by
  have key : ∀ p, p ≤ L → ∀ U, RM U L T p → fm_wI U 231 11 (nI (nb T L p)) = fm_wI S 231 11 (nI (nb T L p)) → Q () (fm_wI S 231 11 (nI (nb T L p))) → am_Po vV (d + 1) k_M_skip 0 [some (.ref 231)] [] U Q := by
    unfold nb
    refine re_ind (P := bl) (T := T) (fun p hp hb U hU e W => ?_) fun p hp hb ih U hU e W => ?_
    · have hL := hU.1
      have h5 := hU.2.1
      have h11 := hU.2.2.2.1
      rw [re_st hb] at e W
      rw [wI_idI h11] at e
      rw [← e] at W
      refine p_M_skip_0 ?_
      rw [h11, h5]
      rcases Nat.lt_or_ge p L with q | q
      · have hb' := of_decide_eq_false (hb.resolve_left (by omega))
        rw [byte_in hU q]
        exact ⟨fun _ => vp_in_nI (by omega) (by decide), fun z => absurd z hb', fun _ => W⟩
      · rw [byte_out hU q]
        exact ⟨fun z => absurd (nI_le q (by omega)) z, fun z => absurd z (by decide), fun _ => W⟩
    · have hL := hU.1
      have h5 := hU.2.1
      have h11 := hU.2.2.2.1
      have hb' := of_decide_eq_true hb
      refine p_M_skip_0 ?_
      rw [h11, h5, byte_in hU hp]
      refine ⟨fun _ => vp_in_nI (by omega) (by decide), fun _ => ?_, fun z => absurd hb' z⟩
      rw [nI_s]
      rw [re_go hp hb] at e W
      refine ih _ (RM_fr hU frN_11 wI_same (by omega)) ?_ W
      rw [← e]
      exact wI_wI
  exact ps_of (L := [some (.ref 231)]) rfl (Nat.le_of_ble_eq_true rfl) (Nat.le_of_ble_eq_true rfl) (key p h.2.2.2.2 S h rfl W)
def vl3 (T : Nat → Int32) (b : Nat) : Nat → Int32
  | 0 => 0
  | k + 1 => if k < 3 then 10 * vl3 T b k + T (b + k) - 48 else vl3 T b k
theorem vl3_2 {b : Nat} : ∀ {k}, k ≤ 2 → vl3 T b k = vl T b k
  | 0, _ => rfl
  | k + 1, h => by rw [vl3, vl, if_pos (by omega), if_pos (by omega), vl3_2 (by omega)]
theorem fails_f {f : Nat} (h : S.1 231 5 = nI L) (hL : L ≤ 150) (hf : f ≤ L) : f_M_fails S (nI f) = 0 ∧ frN S (g_M_fails S (nI f)) ∧ (g_M_fails S (nI f)).1 231 12 = nI f := by
  unfold f_M_fails g_M_fails
  rw [h, ite_self]
  refine ⟨rfl, ?_⟩
  by_cases q : nI L ≤ nI f
  · rw [if_pos q]
    refine ⟨frN_12, ?_⟩
    rw [nI_leI (by omega) (by omega)] at q
    rw [wI_same, show L = f by omega]
  · rw [if_neg q]
    exact ⟨frN_12, wI_same⟩
theorem s_mnum {Q : Int32 → fm_S → Prop} {lo hi : Int32} {k : Nat} (hk : k < 3) (h : RM S L T p)
    (W1 : nok' T L p lo hi = true → ∀ S', RM S' L T (nz T L p) → frN S S' → S'.1 237 k = nv T L p → (∀ j, j ≠ k → S'.1 237 j = S.1 237 j) → Q 1 S')
    (W0 : nok' T L p lo hi = false → ∀ S', frN S S' → S'.1 231 12 = nI (nb T L p) → Q 0 S') :
    am_Ps vI (d + 2) k_M_number [.ref 231, .int (nI k), .int lo, .int hi] S Q := by
  have hL := h.1
  have hp := h.2.2.2.2
  have hle := nb_le (T := T) hp
  refine e_M_number (s_mskip h ?_)
  rw [show (fm_wI S 231 11 (nI (nb T L p))).1 231 11 = nI (nb T L p) from wI_same]
  have h0 : RM (fm_wI S 231 11 (nI (nb T L p))) L T (nb T L p) := RM_fr h frN_11 wI_same hle
  have key : ∀ e, e ≤ L → nb T L p ≤ e → re fg T L e = nz T L p → ∀ U, RM U L T e → frN S U → U.1 237 = S.1 237 → H_M_number_16 d (nI k) lo hi (nI (nb T L p)) (vl3 T (nb T L p) (e - nb T L p)) (nI (e - nb T L p)) U Q := by
    refine re_ind (P := fg) (T := T) (fun e he hb hbe hz U hU hf h237 => ?_) fun e he hb ih hbe hz U hU hf h237 => ?_
    · rw [re_st hb] at hz
      have h5 := hU.2.1
      have h11 := hU.2.2.2.1
      have hff := fails_f h5 hL hle
      have bad : nok' T L p lo hi = false → Q (f_M_fails U (nI (nb T L p))) (g_M_fails U (nI (nb T L p))) := fun hb => by
        rw [hff.1]
        exact W0 hb _ (frN_tr hf hff.2.1) hff.2.2
      have n12 : (f_M_in (nI (e - nb T L p)).toInt64 1 2 = 0) = ¬ (1 ≤ e - nb T L p ∧ e - nb T L p ≤ 2) := by
        rw [in_lit (by decide) (by decide)]
        refine propext ⟨fun z a => ?_, fun z => ?_⟩
        · have : f_X_within (nI (e - nb T L p)) (nI 1) (nI 2) = 1 := by
            unfold f_X_within
            rw [if_neg (nI_nlt (by omega) (by omega)), if_neg (nI_nlt (by omega) (by omega))]
          rw [show (1 : Int32) = nI 1 from rfl, show (2 : Int32) = nI 2 from rfl, this] at z
          cases z
        · rcases wi_iff (x := nI (e - nb T L p)) (a := 1) (b := 2) with w | w
          · exact w
          · exfalso
            obtain ⟨j, a, b, e2⟩ := wi_L (x := nI (e - nb T L p)) (a := 1) (b := 2) (by decide) (fun z => by rw [show nI 1 = 1 from rfl, show nI 2 = 2 from rfl, w] at z; cases z) (by decide)
            rw [nI_eq (by omega) (by omega)] at e2
            exact z (by omega)
      have hby : f_M_in (f_M_byteAt U (nI e)).toInt64 48 57 = 0 := by
        rw [in_lit (by decide) (by decide)]
        rcases Nat.lt_or_ge e L with q | q
        · rw [byte_in hU q]
          have := of_decide_eq_false (hb.resolve_left (by omega))
          exact Classical.not_not.mp this
        · rw [byte_out hU q]; decide
      refine p_M_number_16 ?_
      rw [h11, h5, n12, in_w]
      refine ⟨fun z => vp_in_nI (by
        rcases Nat.lt_or_ge e L with q | q
        · omega
        · exact absurd (nI_le q (by omega)) z) (by decide), fun _ => ⟨fun z => ?_, fun z => ⟨fun z2 => ?_, fun z2 => ⟨vp_in_nI hk (by decide), ?_⟩⟩⟩, fun z => absurd hby z⟩
      · refine bad (decide_eq_false fun a => z ?_)
        rw [← hz] at a
        exact a.1
      · refine bad (decide_eq_false fun a => a.2 ?_)
        have z := Classical.not_not.mp z
        rw [vl3_2 z.2] at z2
        unfold nv
        rw [← hz]
        exact z2
      · have z := Classical.not_not.mp z
        rw [vl3_2 z.2] at z2 ⊢
        rw [nI_clamp (by omega)]
        have env : nv T L p = vl T (nb T L p) (e - nb T L p) := by unfold nv; rw [← hz]
        rw [← env] at z2 ⊢
        refine W1 (decide_eq_true ⟨by rw [← hz]; exact z, z2⟩) _ (RM_fr hU frN_237 (by rw [wI_cell (by omega), h11, hz]) (nz_le hp)) (frN_tr hf frN_237) wI_same fun j hj => by rw [wI_place hj, h237]
    · have h5 := hU.2.1
      have h11 := hU.2.2.2.1
      have hby : ¬ f_M_in (f_M_byteAt U (nI e)).toInt64 48 57 = 0 := by
        rw [in_lit (by decide) (by decide), byte_in hU he]
        exact of_decide_eq_true hb
      refine p_M_number_16 ?_
      rw [h11, h5]
      refine ⟨fun _ => vp_in_nI (by omega) (by decide), fun z => absurd z hby, fun _ => ⟨fun _ _ => vp_in_nI (by omega) (by decide), fun v8 e8 => ?_⟩⟩
      rw [byte_in hU he] at e8
      have hv : v8 = vl3 T (nb T L p) (e + 1 - nb T L p) := by
        rw [e8, show e + 1 - nb T L p = (e - nb T L p) + 1 by omega, vl3, show nb T L p + (e - nb T L p) = e by omega]
        by_cases q : e - nb T L p < 3
        · rw [if_pos q]; exact if_neg (nI_ge (b := 3) q (by decide))
        · rw [if_neg q]; exact if_pos (nI_le (a := 3) (b := e - nb T L p) (by omega) (by omega))
      rw [hv, nI_s, nI_s, show e - nb T L p + 1 = e + 1 - nb T L p by omega]
      refine ih (by omega) (by rw [← re_go he hb]; exact hz) _ (RM_fr hU frN_11 wI_same (by omega)) (frN_tr hf frN_11) ?_
      rw [wI_ce (by omega)]; exact h237
  have z := key (nb T L p) hle (Nat.le_refl _) rfl _ h0 frN_11 (wI_ce (by omega))
  rw [Nat.sub_self] at z
  exact z
theorem s_mends {Q : Int32 → fm_S → Prop} (h : RM S L T p)
    (W1 : eok T L p = true → ∀ S', RM S' L T (nb T L p + 1) → frN S S' → S'.1 237 = S.1 237 → Q 1 S')
    (W0 : eok T L p = false → ∀ S', frN S S' → S'.1 231 12 = nI (nb T L p) → Q 0 S') :
    am_Ps vI (d + 2) k_M_ends [.ref 231] S Q := by
  have hL := h.1
  have hp := h.2.2.2.2
  have hle := nb_le (T := T) hp
  refine e_M_ends (s_mskip h ?_)
  have h0 : RM (fm_wI S 231 11 (nI (nb T L p))) L T (nb T L p) := RM_fr h frN_11 wI_same hle
  have f0 : frN S (fm_wI S 231 11 (nI (nb T L p))) := frN_11
  have g0 : (fm_wI S 231 11 (nI (nb T L p))).1 237 = S.1 237 := wI_ce (by omega)
  generalize fm_wI S 231 11 (nI (nb T L p)) = U at h0 f0 g0 ⊢
  have h5 := h0.2.1
  have h11 := h0.2.2.2.1
  have hff := fails_f h5 hL hle
  rw [h11, h5]
  refine ⟨fun z => vp_in_nI (by
    rcases Nat.lt_or_ge (nb T L p) L with q | q
    · omega
    · exact absurd (nI_le q (by omega)) z) (by decide), fun z => ?_, fun z => ?_⟩
  · rcases Nat.lt_or_ge (nb T L p) L with q | q
    · rw [byte_in h0 q] at z
      rw [nI_s]
      exact W1 (decide_eq_true ⟨q, z⟩) _ (RM_fr h0 frN_11 wI_same (by omega)) (frN_tr f0 frN_11) (by rw [wI_ce (by omega)]; exact g0)
    · rw [byte_out h0 q] at z
      exact absurd z (by decide)
  · rw [hff.1]
    refine W0 (decide_eq_false fun a => z ?_) _ (frN_tr f0 hff.2.1) hff.2.2
    rw [byte_in h0 a.1]; exact a.2
end NUM
