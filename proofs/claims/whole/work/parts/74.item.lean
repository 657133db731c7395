/-! an item, both sides -/
def we (T : Nat → Int32) (L p : Nat) : Nat := re lt T L (nb T L p)
def wh (T : Nat → Int32) (L p : Nat) : Nat := whN T (nb T L p) (we T L p) 6
section MWORD
variable {d L p : Nat} {S : fm_S} {T : Nat → Int32}
theorem we_le (hp : p ≤ L) : we T L p ≤ L := re_le (nb_le hp)
theorem we_ge : nb T L p ≤ we T L p := re_ge
theorem ma_lt {b e k : Nat} (h : ma T b e k = true) : b + 4 ≤ e := by
  unfold ma wn at h
  rw [Bool.and_eq_true] at h
  have := of_decide_eq_true h.1
  split at this <;> omega
theorem wh_le : wh T L p ≤ 6 := whN_le 6 (Nat.le_refl 6)
theorem wh_ma (h : wh T L p < 6) : nb T L p + 4 ≤ we T L p := by
  rcases Classical.em (∃ k, k < 6 ∧ ma T (nb T L p) (we T L p) k = true) with ⟨k, _, hk⟩ | hn
  · exact ma_lt hk
  · have : wh T L p = 6 := whN_n (fun k hk => by
      rcases z : ma T (nb T L p) (we T L p) k with _ | _
      · rfl
      · exact absurd ⟨k, hk, z⟩ hn) 6 (Nat.le_refl 6)
    omega
theorem s_mword {Q : Int32 → fm_S → Prop} (h : RM S L T p)
    (W : ∀ S', frN S S' → S'.1 237 = S.1 237 → S'.1 231 11 = nI (we T L p) → S'.1 231 12 = nI (nb T L p) → Q (if wh T L p < 6 then nI (wh T L p) else -1) S') :
    am_Ps vI (d + 2) k_M_word [.ref 231] S Q := by
  have hL := h.1
  have hp := h.2.2.2.2
  have hle := nb_le (T := T) hp
  have hwe := we_le (T := T) hp
  have hge := we_ge (T := T) (L := L) (p := p)
  refine e_M_word (s_mskip h ?_)
  rw [show (fm_wI S 231 11 (nI (nb T L p))).1 231 11 = nI (nb T L p) from wI_same]
  have h0 : RM (fm_wI S 231 11 (nI (nb T L p))) L T (nb T L p) := RM_fr h frN_11 wI_same hle
  have cmp : ∀ U, RM U L T (we T L p) → frN S U → U.1 237 = S.1 237 → ∀ w, w ≤ 6 → ∀ o5 o6, H_M_word_55 d (nI (nb T L p)) (nI (we T L p - nb T L p)) (if whN T (nb T L p) (we T L p) w < 6 then nI (whN T (nb T L p) (we T L p) w) else -1) (nI w) o5 o6 U Q := by
    intro U hU hf h237
    refine up_to (fun o5 o6 => ?_) fun w hw ih o5 o6 => ?_
    · have hff := fails_f hU.2.1 hL hle
      refine p_M_word_55 ⟨fun _ => ?_, fun z => absurd (by decide) z⟩
      refine W _ (frN_tr hf hff.2.1) ?_ ?_ hff.2.2
      · unfold g_M_fails
        split
        · rw [wI_ce (by omega)]; exact h237
        · rw [wI_ce (by omega)]; exact h237
      · unfold g_M_fails
        split
        · rw [wI_place (by omega)]; exact hU.2.2.2.1
        · rw [wI_place (by omega)]; exact hU.2.2.2.1
    · have hn6 : wn w ≤ 6 := by unfold wn; split <;> omega
      have hwn : (if nI w = 1 then (6 : Int32) else 4) = nI (wn w) := by
        unfold wn
        by_cases q : w = 1
        · subst q; decide
        · rw [if_neg q, if_neg (by rw [eqL_F (by omega) (by omega) (by omega)]; exact id)]; rfl
      have hnext : (if whN T (nb T L p) (we T L p) (w + 1) < 6 then nI (whN T (nb T L p) (we T L p) (w + 1)) else -1) = if ma T (nb T L p) (we T L p) w = true then nI w else (if whN T (nb T L p) (we T L p) w < 6 then nI (whN T (nb T L p) (we T L p) w) else -1) := by
        rw [whN]
        by_cases q : ma T (nb T L p) (we T L p) w = true
        · rw [if_pos q, if_pos q, if_pos hw]
        · rw [if_neg q, if_neg q]
      rw [hnext] at ih
      refine p_M_word_55 ⟨fun z => absurd z (nI_ge (b := 6) hw (by decide)), fun _ v3 e3 v5 e5 => ?_⟩
      rw [hwn] at e3
      subst e3
      generalize hX : (if whN T (nb T L p) (we T L p) w < 6 then nI (whN T (nb T L p) (we T L p) w) else (-1 : Int32)) = X at ih ⊢
      by_cases hl : we T L p - nb T L p = wn w
      · rw [if_pos (by rw [hl])] at e5
        subst e5
        have loop : ∀ k, k ≤ wn w → ∀ b : Bool, b = pal (fun i => decide (T (nb T L p + i) = wc w i)) k → (b = false → ma T (nb T L p) (we T L p) w = false) → H_M_word_88 d (nI (nb T L p)) (nI (we T L p - nb T L p)) X (nI w) (if b = true then 1 else 0) (nI k) U Q := by
          refine up_to (fun b hb hbad => ?_) fun k hk ih2 b hb hbad => ?_
          · refine p_M_word_88 ⟨fun _ v3 e3 => ?_, fun z => absurd (nI_le (by omega) (by omega)) z⟩
            rw [nI_s, e3]
            cases b with
            | false =>
              rw [hbad rfl, if_neg (by decide)] at ih
              exact ih _ _
            | true =>
              have hm : ma T (nb T L p) (we T L p) w = true := by unfold ma; rw [decide_eq_true hl, ← hb]; rfl
              rw [hm, if_pos rfl] at ih
              exact ih _ _
          · refine p_M_word_88 ⟨fun z => absurd z (nI_ge (by omega) (by omega)), fun _ => ⟨fun z => ?_, fun z => ?_⟩⟩
            · cases b with
              | true => exact absurd z (by decide)
              | false =>
                rw [hbad rfl, if_neg (by decide)] at ih
                rw [nI_s]
                exact ih _ _
            · cases b with
              | false => exact absurd rfl z
              | true =>
                rw [nI_add]
                refine ⟨vp_in_nI (by omega) (by decide), ?_⟩
                refine s_mletter hw hk fun v9 e9 => ?_
                rw [nI_clamp (by omega), hU.2.2.1 _ (by omega)] at e9
                rw [nI_s]
                have z := ih2 (decide (T (nb T L p + k) = wc w k)) (by rw [pal, ← hb, Bool.true_and]) fun q => by
                  unfold ma
                  rw [show pal (fun i => decide (T (nb T L p + i) = wc w i)) (wn w) = false from by
                    rcases y : pal (fun i => decide (T (nb T L p + i) = wc w i)) (wn w) with _ | _
                    · rfl
                    · exact absurd (of_decide_eq_true (pal_iff.mp y k hk)) (of_decide_eq_false q), Bool.and_false]
                rw [e9]
                by_cases q : T (nb T L p + k) = wc w k
                · rw [decide_eq_true q, if_pos rfl] at z
                  rw [if_pos q]
                  exact z
                · rw [decide_eq_false q, if_neg (by decide)] at z
                  rw [if_neg q]
                  exact z
        exact loop 0 (Nat.zero_le _) true rfl (fun z => by cases z)
      · rw [if_neg (fun z => hl ((nI_eq (by omega) (by omega)).mp z))] at e5
        subst e5
        have hm : ma T (nb T L p) (we T L p) w = false := by unfold ma; rw [decide_eq_false hl, Bool.false_and]
        rw [hm, if_neg (by decide)] at ih
        refine p_M_word_88 ⟨fun _ v3 e3 => ?_, fun _ => ⟨fun _ => ?_, fun z => absurd rfl z⟩⟩
        · rw [if_pos rfl] at e3
          rw [e3, nI_s]
          exact ih _ _
        · rw [nI_s]
          exact ih _ _
  have key : ∀ e, e ≤ L → nb T L p ≤ e → re lt T L e = we T L p → ∀ U, RM U L T e → frN S U → U.1 237 = S.1 237 → ∀ o2 o3 o4 o5 o6, H_M_word_9 d (nI (nb T L p)) o2 o3 o4 o5 o6 U Q := by
    refine re_ind (P := lt) (T := T) (fun e he hb hbe hz U hU hf h237 o2 o3 o4 o5 o6 => ?_) fun e he hb ih hbe hz U hU hf h237 o2 o3 o4 o5 o6 => ?_
    · rw [re_st hb] at hz
      have h5 := hU.2.1
      have h11 := hU.2.2.2.1
      have hby : f_M_in (f_M_byteAt U (nI e)).toInt64 97 122 = 0 := by
        rw [in_lit (by decide) (by decide)]
        rcases Nat.lt_or_ge e L with q | q
        · rw [byte_in hU q]
          have := of_decide_eq_false (hb.resolve_left (by omega))
          exact Classical.not_not.mp this
        · rw [byte_out hU q]; decide
      refine p_M_word_9 ?_
      rw [h11, h5, nI_subI hbe]
      refine ⟨fun z => vp_in_nI (by
        rcases Nat.lt_or_ge e L with q | q
        · omega
        · exact absurd (nI_le q (by omega)) z) (by decide), fun _ => ?_, fun z => absurd hby z⟩
      subst hz
      exact cmp U hU hf h237 0 (by omega) _ _
    · have h5 := hU.2.1
      have h11 := hU.2.2.2.1
      have hby : ¬ f_M_in (f_M_byteAt U (nI e)).toInt64 97 122 = 0 := by
        rw [in_lit (by decide) (by decide), byte_in hU he]
        exact of_decide_eq_true hb
      refine p_M_word_9 ?_
      rw [h11, h5]
      refine ⟨fun _ => vp_in_nI (by omega) (by decide), fun z => absurd z hby, fun _ => ?_⟩
      rw [nI_s]
      exact ih (by omega) (by rw [← re_go he hb]; exact hz) _ (RM_fr hU frN_11 wI_same (by omega)) (frN_tr hf frN_11) (by rw [wI_ce (by omega)]; exact h237) _ _ _ _ _
  exact key (nb T L p) hle (Nat.le_refl _) rfl _ h0 frN_11 (wI_ce (by omega)) _ _ _ _ _
end MWORD
