/-! read -/
section CREAD
variable {S : fm_S} {N : Nat}
theorem k68 : fm_tg 68 = 6 ∧ fm_tg (68 + 10) = 4 ∧ fm_tg (68 + 16) = 2 := by decide +kernel
theorem k68d : ∀ j, j < 8 → fm_tg (68 + 21 + 4 * j) = 2 := by decide +kernel
theorem c_read (hI : Inv S N) (hN : N < 600) : pair vI k_X_read k_M_read [.ref 0] [.ref 231] S N := by
  obtain ⟨n, m, q, u, y, c, mx, hr, hrt⟩ := Inv_cx hI
  obtain ⟨p1, p2, p3, p4⟩ := hI.2.2.1
  obtain ⟨L, hL, l67, l231, lT⟩ := hI.2.2.2.2.1
  have hctr := hI.2.2.2.2.2.2
  have hfrac := hI.2.2.2.2.2.1
  unfold pair
  generalize hB : (m_first S 233 4).1 233 = B
  have hBk : ∀ k, k < 373 → B k = fA k := fun k hk => by rw [← hB]; exact fA_first hk
  -- the reference, behind a class that changed its own cells alone
  have ref : ∀ (S1 : fm_S) (Q : Int32 → fm_S → Prop), (∀ c, 120 < c → S1.1 c = S.1 c) → S1.2 = S.2 → GH B 0 0 → (∀ v S', PN (rd (S.1 121) L 151 0 0 B) (fm_wI (m_first S1 233 4) 231 11 0) v S' → Q v S') → am_Ps vI 11 k_M_read [.ref 231] S1 Q := by
    intro S1 Q h1 h2 hG W
    refine e_M_read (d := 6) ?_
    have eM : ∀ c, c ≠ 233 → (m_first S1 233 4).1 c = S1.1 c := fun c hc => by
      funext j
      show (if c = 233 ∧ _ then _ else if c = 233 ∧ _ then _ else S1.1 c j) = _
      rw [if_neg (fun z => hc z.1), if_neg (fun z => hc z.1)]
    refine m_loop (d := 2) (T := S.1 121) (L := L) 151 0 0 0 B 0 0 _ _ _ (by omega) (by omega) rfl ⟨hL, ?_, fun k hk => ?_, wI_same, by omega⟩ ?_ hG (by omega) (fun z => absurd z (by omega)) W
    · rw [wI_place (by omega), eM 231 (by omega), h1 231 (by omega)]; exact l231
    · rw [wI_ce (by omega), eM 236 (by omega), h1 236 (by omega)]; exact (lT k hk).symm
    · rw [wI_ce (by omega), ← hB]
      funext j
      show (if 233 = 233 ∧ _ then _ else if 233 = 233 ∧ _ then _ else S1.1 233 j) = (if 233 = 233 ∧ _ then _ else if 233 = 233 ∧ _ then _ else S.1 233 j)
      rw [h1 233 (by omega)]
  have eF : ∀ (S1 : fm_S) c, c ≠ 231 → c ≠ 233 → (fm_wI (m_first S1 233 4) 231 11 0).1 c = S1.1 c := fun S1 c h1 h2 => by
    funext j
    rw [wI_cell (by omega)]
    show (if c = 233 ∧ _ then _ else if c = 233 ∧ _ then _ else S1.1 c j) = _
    rw [if_neg (fun z => h2 z.1), if_neg (fun z => h2 z.1)]
  have eG : ∀ (S1 : fm_S) j, j ≠ 11 → (fm_wI (m_first S1 233 4) 231 11 0).1 231 j = S1.1 231 j := fun S1 j h1 => by
    rw [wI_place h1]
    unfold m_first
    simp
  -- behind the class' parse
  have fin : ∀ v (S1 : fm_S), GH B 0 0 → PP S1 68 → PR (S.1 121) L (rd (S.1 121) L 151 0 0 B) S v S1 → (v = -1 → am_Ps vV 10 k_Town_copy [.ref 1, .ref 68] S1 fun _ S4 => am_Ps vI 11 k_M_read [.ref 231] S4 fun y S2 => S4.1 67 1 = y ∧ Inv S2 (N + 1)) ∧ (¬ v = -1 → am_Ps vI 11 k_M_read [.ref 231] S1 fun y S2 => -10 - v = y ∧ Inv S2 (N + 1)) := by
    intro v S1 hG hP68 hPR
    obtain ⟨⟨f1, f2, f3⟩, hr2⟩ := hPR
    have hP1 : PP S1 1 := PP_fr (by rw [f3]) p1
    rcases hrd : rd (S.1 121) L 151 0 0 B with g | r
    · rw [hrd] at hr2
      obtain ⟨rfl, hg⟩ := hr2
      refine ⟨fun z => absurd z (by rw [eqM_F (by omega)]; exact id), fun _ => ref S1 _ (fun c hc => f1 c (by omega)) f3 hG fun v' S' hv' => ?_⟩
      rw [hrd] at hv'
      obtain ⟨⟨j1, j2, j3⟩, rfl, j4⟩ := hv'
      have e : ∀ c, c ≠ 231 → c ≠ 232 → c ≠ 233 → c ≠ 237 → (c < 67 ∨ 120 < c) → S'.1 c = S.1 c := fun c a1 a2 a3 a4 a5 => by rw [j1 c a1 a2 a3 a4, eF S1 c a1 a3, f1 c a5]
      have e231 : ∀ j, j ≠ 11 → j ≠ 12 → S'.1 231 j = S.1 231 j := fun j a b => by rw [j2 j a b, eG S1 j a, f1 231 (by omega)]
      have e2 : S'.2 = S.2 := by rw [j3]; exact f3
      refine ⟨rfl, Inv_c hI (by omega) (by omega) (fun c hc => ?_) ?_ (e231 5 (by omega) (by omega)) ?_ (by rw [e2]) (by rw [e2]; exact hfrac)⟩
      · by_cases q : c = 232
        · subst q; rw [j4, eF S1 232 (by omega) (by omega), f1 232 (by omega)]
        · exact e c (by omega) q (by omega) (by omega) (by omega)
      · rw [j1 67 (by omega) (by omega) (by omega) (by omega), eF S1 67 (by omega) (by omega)]; exact f2
      · rw [e 0 (by omega) (by omega) (by omega) (by omega) (by omega), e231 8 (by omega) (by omega), e231 9 (by omega) (by omega), e231 10 (by omega) (by omega)]; exact hctr
    · rw [hrd] at hr2
      obtain ⟨rfl, hi1, n', m', hR'⟩ := hr2
      refine ⟨fun _ => ?_, fun z => absurd rfl z⟩
      refine s_copy (d := 8) hR' hP1 hP68 (by omega) know k68 k21 k68d fun S4 h1 h2 hR4 => ?_
      refine ref S4 _ (fun c hc => by rw [h1 c (by omega), f1 c (by omega)]) (by rw [h2]; exact f3) hG fun v' S' hv' => ?_
      rw [hrd] at hv'
      obtain ⟨⟨j1, j2, j3⟩, rfl, j4⟩ := hv'
      have e4 : ∀ c, c ≠ 231 → c ≠ 232 → c ≠ 233 → c ≠ 237 → S'.1 c = S4.1 c := fun c a1 a2 a3 a4 => by rw [j1 c a1 a2 a3 a4, eF S4 c a1 a3]
      have e : ∀ c, c ≠ 231 → c ≠ 232 → c ≠ 233 → c ≠ 237 → (c < 1 ∨ (53 < c ∧ c < 67) ∨ 120 < c) → S'.1 c = S.1 c := fun c a1 a2 a3 a4 a5 => by rw [e4 c a1 a2 a3 a4, h1 c (by omega), f1 c (by omega)]
      have e231 : ∀ j, j ≠ 11 → j ≠ 12 → S'.1 231 j = S.1 231 j := fun j a b => by rw [j2 j a b, eG S4 j a, h1 231 (by omega), f1 231 (by omega)]
      have e2 : S'.2 = S.2 := by rw [j3]; exact h2.trans f3
      have hPS : PP S' 1 := PP_fr (by rw [e2]) p1
      refine ⟨?_, Inv_t hI (by omega) (by omega) ⟨n', m', 0, 0, 0, ?_⟩ hPS (fun c hc => e c (by omega) (by omega) (by omega) (by omega) (by omega)) ?_ (e231 5 (by omega) (by omega)) ?_ (fun c _ => by rw [e2]) (by rw [e2]; exact hfrac)⟩
      · rw [h1 67 (by omega)]; exact hi1
      · refine RT_mono (Nat.zero_le _) (RT_fr (S := S4) (fun c a b => e4 c (by omega) (by omega) (by omega) (by omega)) (by rw [e2, h2, f3]) (PP_fr (by rw [h2]) hP1) (RT_A (A := r.2) (fun k hk => ?_) hR4))
        rw [j4]
        unfold frR
        rw [if_pos hk]
      · rw [e4 67 (by omega) (by omega) (by omega) (by omega), h1 67 (by omega)]; exact f2
      · rw [e 0 (by omega) (by omega) (by omega) (by omega) (by omega), e231 8 (by omega) (by omega), e231 9 (by omega) (by omega), e231 10 (by omega) (by omega)]; exact hctr
  refine e_X_read (d := 5) ?_
  refine e_Reader_parse (d := 5) ?_
  refine s_begin (d := 8) k68.1 k68.2.2 fun S1 h1 h2 hR => ?_
  have hP68 : PP S1 68 := PP_fr (by rw [h2]) p2
  have hRB : RT S1 68 B 0 0 0 0 0 0 := RT_A hBk hR
  have hG : GH B 0 0 := ⟨S1, hP68, hRB⟩
  have ea : ∀ c, c ≠ 67 → (fm_wI (fm_wI (fm_wI S1 67 1 0) 67 5 0) 67 4 (-1)).1 c = S1.1 c := fun c hc => by rw [wI_ce hc, wI_ce hc, wI_ce hc]
  have e0 : (fm_wI (fm_wI (fm_wI S1 67 1 0) 67 5 0) 67 4 (-1)).1 67 0 = S.1 67 0 := by rw [wI_place (by omega), wI_place (by omega), wI_place (by omega), h1 67 (by omega)]
  have e1 : (fm_wI (fm_wI (fm_wI S1 67 1 0) 67 5 0) 67 4 (-1)).1 67 1 = 0 := by rw [wI_place (by omega), wI_place (by omega), wI_same]
  have e5 : (fm_wI (fm_wI (fm_wI S1 67 1 0) 67 5 0) 67 4 (-1)).1 67 5 = nI 0 := by rw [wI_place (by omega), wI_same]; rfl
  have e4 : (fm_wI (fm_wI (fm_wI S1 67 1 0) 67 5 0) 67 4 (-1)).1 67 4 = -1 := wI_same
  have es : (fm_wI (fm_wI (fm_wI S1 67 1 0) 67 5 0) 67 4 (-1)).2 = S.2 := h2
  generalize fm_wI (fm_wI (fm_wI S1 67 1 0) 67 5 0) 67 4 (-1) = S2 at ea e0 e1 e5 e4 es ⊢
  refine s_take (T := S.1 121) (L := L) (p := 0) hL (by rw [e0]; exact l67) (fun k _ => by rw [ea 121 (by omega), h1 121 (by omega)]) e5 (by omega) fun r hr => ?_
  have hfr := tk_fr hL (by rw [e0]; exact l67) (Nat.zero_le _) hr
  obtain ⟨z6, z7⟩ := tk_7 (Nat.zero_le _) hr
  have hfS : frP S (fm_row S2 67 r) := ⟨fun c hc => by rw [hfr.1 c (by omega), ea c (by omega), h1 c (by omega)], by rw [hfr.2.1]; exact e0, es⟩
  have hP2 : PP (fm_row S2 67 r) 68 := PP_fr (by rw [hfS.2.2]) p2
  have hR2 : RT (fm_row S2 67 r) 68 B 0 0 0 0 0 0 := RT_fr (S := S1) (fun c a b => by rw [hfr.1 c (by omega), ea c (by omega)]) (by rw [hfS.2.2, h2]) hP68 hRB
  have r7 : (fm_row S2 67 r).1 67 7 = r 7 := row_self
  have r6 : (fm_row S2 67 r).1 67 6 = nI (nb (S.1 121) L 0) := by rw [row_self]; exact z6
  refine ⟨fun y7 => ?_, fun n7 => ?_⟩
  · have hend : L ≤ nb (S.1 121) L 0 := by
      rw [r7] at y7
      rcases z7 with ⟨a, _⟩ | ⟨_, _, b, _⟩ | ⟨_, _, b, _⟩
      · exact a
      · rw [b] at y7; exact absurd y7 (by decide)
      · exact absurd y7 b
    have hnb := nb_le (T := S.1 121) (Nat.zero_le L)
    have hwh : wh (S.1 121) L 0 = 6 := by
      rcases Nat.lt_or_ge (wh (S.1 121) L 0) 6 with w | w
      · have := wh_ma w
        have := we_le (T := S.1 121) (Nat.zero_le L)
        omega
      · exact Nat.le_antisymm wh_le w
    have hrd : rd (S.1 121) L 151 0 0 B = .inl (nb (S.1 121) L 0) := by
      rw [rd, if_neg (by omega), if_neg]
      rw [hwh]
      unfold cn
      simp
    refine p_Reader_parse_43 (d := 5) ⟨fun _ => ?_, fun z => absurd (by rw [wI_place (by omega)]; exact y7) z⟩
    rw [wI_same, r6]
    refine fin _ _ hG (PP_fr rfl hP2) ⟨frP_tr hfS (frP_w (by omega)), ?_⟩
    rw [hrd]
    exact ⟨rfl, hnb⟩
  · have hlt : nb (S.1 121) L 0 < L := by
      rw [r7] at n7
      rcases z7 with ⟨_, b⟩ | ⟨a, _⟩ | ⟨a, _⟩
      · exact absurd b n7
      · exact a
      · exact a
    refine x_loop (d := 1) (T := S.1 121) (L := L) 151 0 0 B 0 0 _ (by omega) (by omega) ⟨hL, ?_, fun k hk => ?_, ?_, Nat.zero_le _, r, ?_⟩ hP2 hR2 ?_ (Or.inr hlt) fun v S' hv => fin v S' hG ?_ (PR_tr hfS hv)
    · rw [hfS.2.1]; exact l67
    · rw [hfS.1 121 (by omega)]
    · rw [row_self, hr.1 4 (by omega) (by omega) (by omega) (by omega)]; exact e4
    · have er : (fm_row S2 67 r).1 67 = r := funext fun j => row_self
      unfold tkR
      rw [er]
      exact ⟨fun _ _ _ _ _ => rfl, hr.2⟩
    · rw [row_self, hr.1 1 (by omega) (by omega) (by omega) (by omega)]; exact e1
    · exact PP_fr (by rw [hv.1.2.2]) hP2
end CREAD
