/-! the loops of read -/
section LOOP
variable {d L : Nat} {T : Nat → Int32} {Q : Int32 → fm_S → Prop}
theorem PL_w {S : fm_S} {j : Nat} {x : Int32} (h0 : j ≠ 0) (h5 : j ≠ 5) (h : PL S) : PL (fm_wI S 67 j x) := by
  obtain ⟨L, p, a, b, c, e⟩ := h
  exact ⟨L, p, a, by rw [wI_place (by omega)]; exact b, c, by rw [wI_place (by omega)]; exact e⟩
theorem x_loop : ∀ f p i A n m S, L - p < f → i ≤ p → HC S L T p → PP S 68 → RT S 68 A n m 0 0 0 0 → S.1 67 1 = nI i → (0 < i ∨ nb T L p < L) → (∀ v S', PR T L (rd T L f p i A) S v S' → Q v S') →
    am_Po vI (d + 9) k_Reader_parse 43 [some (.ref 67), some (.int (nI i))] [] S Q := by
  intro f
  induction f with
  | zero => intro p i A n m S hf; omega
  | succ f ih =>
    intro p i A n m S hf hip hc hP hR h1 hi W
    obtain ⟨hL, h0, hT, h4, hp, g, hg⟩ := hc
    obtain ⟨e6, e7⟩ := tk_7 hp hg
    have hle := nb_le (T := T) hp
    have hwe := we_le (T := T) hp
    have hge := we_ge (T := T) (L := L) (p := p)
    have hnp := nb_ge (T := T) (L := L) (p := p)
    obtain ⟨a0, a1, hn, hm, _, _⟩ := GH_01 ⟨S, hP, hR⟩
    rw [rd, a0, a1] at W
    have hPL : PL S := by
      obtain ⟨q, a, b⟩ := tk_5 hp hg
      exact ⟨L, q, hL, h0, a, b⟩
    refine p_Reader_parse_43 ⟨fun z7 => ?_, fun n7 => ⟨fun _ => ⟨fun ge => ?_, fun _ => ?_⟩, fun z => absurd h4 z⟩⟩
    · have hend : L ≤ nb T L p := by
        rcases e7 with ⟨a, _⟩ | ⟨_, _, b, _⟩ | ⟨_, _, b, _⟩
        · exact a
        · rw [b] at z7; exact absurd z7 (by decide)
        · exact absurd z7 b
      rw [if_pos ⟨by omega, hend⟩] at W
      exact W _ _ ⟨⟨fun _ _ => rfl, rfl, rfl⟩, h4, h1, n, m, hR⟩
    · exfalso
      rw [show (150 : Int32) = nI 150 from rfl, nI_leI (by omega) (by omega)] at ge
      rcases e7 with ⟨_, b⟩ | ⟨a, _⟩ | ⟨a, _⟩
      · exact n7 b
      · omega
      · omega
    · have hlt : nb T L p < L := by
        rcases e7 with ⟨_, b⟩ | ⟨a, _⟩ | ⟨a, _⟩
        · exact absurd b n7
        · exact a
        · exact a
      rw [if_neg (by omega)] at W
      have bad : cn (wh T L p) i n m = false → am_Ps vV (d + 8) k_Reader_take [.ref 67] (fm_wI S 67 4 (S.1 67 6)) fun _ S5 => am_Po vI (d + 9) k_Reader_parse 43 [some (.ref 67), some (.int (nI i + 1))] [] S5 Q := fun hcn => by
        rw [if_neg (by rw [hcn]; exact Bool.false_ne_true)] at W
        refine x_bad (d := d + 7) (d' := d + 4) (PL_w (by omega) (by omega) hPL) (by rw [wI_same]; exact e6) (by omega) fun S' hS' => W _ _ ⟨frP_tr (frP_w (by omega)) hS', rfl, hle⟩
      have next : cn (wh T L p) i n m = true → ∀ S', PX T L (itA T L (we T L p) A n m (wh T L p)) S S' → am_Ps vV (d + 8) k_Reader_take [.ref 67] (fm_wI S' 67 1 (S'.1 67 1 + 1)) fun _ S5 => am_Po vI (d + 9) k_Reader_parse 43 [some (.ref 67), some (.int (nI i + 1))] [] S5 Q := fun hcn S' hS' => by
        rw [if_pos hcn] at W
        obtain ⟨c6, c0, c1, c5⟩ := of_decide_eq_true hcn
        obtain ⟨hf1, hf2⟩ := hS'
        have hf1' := hf1
        obtain ⟨f1, f2, f3, f4, f5⟩ := hf1
        rcases hit : itA T L (we T L p) A n m (wh T L p) with g | q
        · rw [hit] at W hf2
          obtain ⟨b1, b2⟩ := hf2
          refine x_bad (d := d + 7) (d' := d + 4) (PL_w (by omega) (by omega) (f5 hPL)) (by rw [wI_place (by omega)]; exact b2) (by omega) fun S2 hS2 => W _ _ ⟨frP_tr (frP_tr (frD_P hf1') (frP_w (by omega))) hS2, rfl, b1⟩
        · obtain ⟨hq, _⟩ := it_st ⟨S, hP, hR⟩ c6 c1 c5 hit
          rw [hit] at W hf2
          obtain ⟨⟨r1, r2, r3, r4, r5, r6⟩, n', m', hR'⟩ := hf2
          refine s_take (T := T) (p := q.1) hL (by rw [wI_place (by omega)]; exact r2) (fun k hk => by rw [wI_cell (by omega)]; exact r3 k hk) (by rw [wI_place (by omega)]; exact r5) r6 fun r hr => ?_
          have hfr := tk_fr hL (by rw [wI_place (by omega)]; exact r2) r6 hr
          have h1' : r 1 = nI (i + 1) := by
            rw [hr.1 1 (by omega) (by omega) (by omega) (by omega), wI_same, f3, h1, nI_s]
          have hPf : frP S (fm_row (fm_wI S' 67 1 (S'.1 67 1 + 1)) 67 r) := frP_tr (frP_tr (frD_P hf1') (frP_w (by omega))) (frD_P (frT_D hfr))
          rw [nI_s]
          refine ih q.1 (i + 1) q.2 n' m' _ (by omega) (by omega) ⟨hL, ?_, ?_, ?_, r6, r, ?_⟩ ?_ ?_ ?_ (Or.inl (by omega)) fun v S2 h2 => W v S2 (PR_tr hPf h2)
          · rw [hfr.2.1, wI_place (by omega)]; exact r2
          · intro k hk
            rw [row_ne (by omega), wI_cell (by omega)]; exact r3 k hk
          · rw [row_self, hr.1 4 (by omega) (by omega) (by omega) (by omega), wI_place (by omega)]; exact r4
          · unfold tkR
            have er : (fm_row (fm_wI S' 67 1 (S'.1 67 1 + 1)) 67 r).1 67 = r := funext fun j => row_self
            rw [er]
            exact ⟨fun _ _ _ _ _ => rfl, hr.2⟩
          · exact PP_fr (by rw [hPf.2.2]) hP
          · refine RT_fr (S := S') (fun c a b => ?_) rfl (PP_fr (by rw [f4]) hP) hR'
            rw [hfr.1 c (by omega), wI_ce (by omega)]
          · rw [row_self]; exact h1'
      refine e_Reader_item (d := d + 4) ⟨fun y7 => ?_, fun n1 => ?_⟩
      · have h5 : S.1 67 5 = nI (we T L p) := by
          rcases e7 with ⟨_, b⟩ | ⟨_, _, _, b⟩ | ⟨_, _, _, b⟩
          · exact absurd b n7
          · exact b
          · exact absurd y7 b
        refine s_xword (d := d) (T := T) h5 e6 hge (by omega) (fun k hk => hT k (by omega)) ?_
        generalize hv : (if whN T (nb T L p) (we T L p) 6 < 6 then nI (whN T (nb T L p) (we T L p) 6 + 1) else 0) = v
        change (if wh T L p < 6 then nI (wh T L p + 1) else 0) = v at hv
        by_cases hw : wh T L p < 6
        · have hms := ms_w hw h1 (by omega) hR
          rw [if_pos hw] at hv
          subst hv
          refine ⟨fun z => bad (by rw [← hms]; exact z), fun z => ?_⟩
          have hcn : cn (wh T L p) i n m = true := by
            rcases hb : cn (wh T L p) i n m with _ | _
            · exact absurd (by rw [hms]; exact hb) z
            · rfl
          have nx := next hcn
          have hRC : RC S L T (we T L p) := ⟨hL, h0, hT, h4, h5, hwe⟩
          obtain ⟨c6, c0, c1, c5⟩ := of_decide_eq_true hcn
          generalize wh T L p = w at *
          have : w = 0 ∨ w = 1 ∨ w = 2 ∨ w = 3 ∨ w = 4 ∨ w = 5 := by omega
          rcases this with rfl | rfl | rfl | rfl | rfl | rfl
          · exact ⟨fun y => absurd y (by decide), fun y => absurd y (by decide), fun y => absurd y (by decide), fun y => absurd y (by decide), fun y => absurd y (by decide), fun _ _ _ _ _ => x_it0 (d := d + 5) hRC hP hR fun S' v hx => nx S' hx⟩
          · exact ⟨fun _ => x_it1 (d := d + 4) hRC hP hR (c1 rfl) nx, fun y => absurd y (by decide), fun y => absurd y (by decide), fun y => absurd y (by decide), fun y => absurd y (by decide), fun y => absurd rfl y⟩
          · exact ⟨fun y => absurd y (by decide), fun _ => x_it2 (d := d + 4) hRC hP hR nx, fun y => absurd y (by decide), fun y => absurd y (by decide), fun y => absurd y (by decide), fun _ y => absurd rfl y⟩
          · exact ⟨fun y => absurd y (by decide), fun y => absurd y (by decide), fun _ => x_it3 (d := d + 4) hRC hP hR nx, fun y => absurd y (by decide), fun y => absurd y (by decide), fun _ _ y => absurd rfl y⟩
          · exact ⟨fun y => absurd y (by decide), fun y => absurd y (by decide), fun y => absurd y (by decide), fun _ => x_it4 (d := d + 4) hRC hP hR nx, fun y => absurd y (by decide), fun _ _ _ y => absurd rfl y⟩
          · exact ⟨fun y => absurd y (by decide), fun y => absurd y (by decide), fun y => absurd y (by decide), fun y => absurd y (by decide), fun _ => x_it5 (d := d + 4) hRC hP hR (c5 rfl) nx, fun _ _ _ _ y => absurd rfl y⟩
        · rw [if_neg hw] at hv
          subst hv
          refine ⟨fun _ => bad (decide_eq_false fun y => hw y.1), fun z => absurd ms_0 z⟩
      · have hlt2 : lt (T (nb T L p)) = false := by
          rcases e7 with ⟨_, b⟩ | ⟨_, _, b, _⟩ | ⟨_, b, _⟩
          · exact absurd b n7
          · exact absurd b n1
          · exact b
        refine ⟨fun _ => bad (decide_eq_false fun y => ?_), fun z => absurd ms_0 z⟩
        rw [wh_6 hlt2] at y
        exact absurd y.1 (by decide)
end LOOP
