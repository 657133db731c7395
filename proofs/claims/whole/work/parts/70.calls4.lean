/-! day, undo, image, from -/
section CALLS4
variable {S : fm_S} {N : Nat} {x1 x2 x3 x4 x5 : Int32}
theorem keepA_o {A : Nat → Int32} {u i : Nat} (hu : u ≤ 8) (h3 : i ≠ 3) (hi : i < 173) : keepA A u i = A i := by
  unfold keepA
  split
  · unfold pushA
    rw [if_neg (by omega), if_neg h3]
    exact sf_o h3 hi
  · unfold pushA
    rw [if_neg (by omega), if_neg h3]
/-- behind a day, both sides -/
theorem Inv_day {S1 S2 S4 : fm_S} {A1 B : Nat → Int32} {n m q u y : Nat} (hI : Inv S N) (hN : N < 600) (h1 : ∀ c, c < 1 ∨ 53 < c → S1.1 c = S.1 c) (h1s : S1.2.1 = S.2.1) (h1p : ∀ c, c ≠ 21 → S1.2.2 c = S.2.2 c) (hP : PP S1 1)
    (hR : RT S1 1 A1 n m q u y N) (hf : fr2 17 S1 S2) (hE : stE A1 B) (h4 : B 4 = nI (y + 1)) (hD : RD S2 17 (ow B) n) (e1 : ∀ c, c ≠ 232 → c ≠ 238 → S4.1 c = S2.1 c) (e2 : S4.1 232 = B) (e3 : S4.2 = S2.2) : Inv S4 (N + 1) := by
  have hR2 : RT S2 1 B n m q u (y + 1) (N + 1) := RT_day hP hR hE h4 (fun c a b d => hf.1 c (by omega) (by omega)) (by rw [hf.2.2]) hD
  have e : ∀ c, c ≠ 232 → c ≠ 238 → (c < 1 ∨ 58 < c) → S4.1 c = S.1 c := fun c a b d => by
    rw [e1 c a b, hf.1 c (by omega) (by omega), h1 c (by omega)]
  have p4 : S4.2.2 = S1.2.2 := by rw [e3, hf.2.2]
  refine Inv_t hI (by omega) (by omega) ⟨n, m, q, u, y + 1, ?_⟩ (PP_fr (by rw [p4]) hP) (fun c hc => e c (by omega) (by omega) (by omega)) (by rw [e 67 (by omega) (by omega) (by omega)]) (by rw [e 231 (by omega) (by omega) (by omega)]) ?_ (fun c hc => by rw [p4]; exact h1p c hc) ?_
  · rw [e2]
    exact RT_fr (fun c a b => e1 c (by omega) (by omega)) (by rw [e3]) (PP_fr (by rw [hf.2.2]) hP) hR2
  · rw [e 0 (by omega) (by omega) (by omega), e 231 (by omega) (by omega) (by omega)]; exact hI.2.2.2.2.2.2
  · rw [e3, hf.2.1, h1s]; exact hI.2.2.2.2.2.1
theorem k21 : ∀ i, i < 8 → fm_tg (1 + 21 + 4 * i) = 2 := by decide +kernel
theorem c_day (hI : Inv S N) (hN : N < 600) : pair vI k_X_day k_M_day [.ref 0, .int x1] [.ref 231, .int x1] S N := by
  obtain ⟨n, m, q, u, y, c, mx, hr, hrt⟩ := Inv_cx hI
  have hn := c.1.1
  have hm := c.1.2.1
  have hyb := c.2.2.2.2
  have hu : u ≤ 8 := hrt.2.2.2.2.1.1
  have h3 : S.1 232 3 = nI u := hrt.2.2.2.2.1.2.1
  have hy : S.1 232 4 = nI y := mx.2.1
  have hN2 : N < 3000 := by omega
  have mb : MX (g_X_bad S) n m y := MX_1 (wI_ce (by omega)) mx
  have y1 : keepA (S.1 232) u 4 = nI y := by rw [keepA_o hu (by omega) (by omega)]; exact hy
  refine e_X_day ⟨fun g => ?_, fun g => ⟨fun g1 => ?_, fun g1 => ?_⟩⟩
  · subst g
    refine s_keep hN2 hI.2.2.1.1 hrt (by decide +kernel) (by decide +kernel) k21 fun S1 h1 h1s h1p hP hR => ?_
    refine s_xp0 hR.1 hR.2.1 (Or.inl rfl) hR.2.2.1 fun S2 hf hD => ?_
    have e232 : S2.1 232 = S.1 232 := by rw [hf.1 232 (by omega) (by omega), h1 232 (by omega)]
    refine s_mday hu (by rw [e232]; exact h3) (Or.inl rfl) ?_
    rw [e232]
    have eA : (fm_row S2 232 (keepA (S.1 232) u)).1 232 = keepA (S.1 232) u := funext fun j => row_self
    refine s_mgd0 (n := n) (m := m) (by rw [eA]; exact hR.1) ?_ ⟨rfl, ?_⟩
    · rw [isDish_w]; exact wi_m1
    · rw [eA]
      rw [day0_s] at hD
      refine Inv_day hI hN h1 h1s h1p hP hR hf (B := day0 (keepA (S.1 232) u) n) (stE_gd hn (stE_id _)) ?_ hD (fun c a b => funext fun j => by rw [row_ne a, row_ne a]) (funext fun j => row_self) rfl
      unfold day0 gdA
      rw [up1_eq, y1, nI_s]
  · rw [xDish c] at g1
    refine e_M_day ⟨fun z => absurd z g, fun _ => ⟨fun _ => ⟨rfl, Inv_bad hI hN⟩, fun z => absurd ?_ z⟩⟩
    rw [mDish mb]
    exact g1
  · rw [xDish c] at g1
    have g1' := g1
    obtain ⟨dd, hd, rfl⟩ := wi_ne (by omega) g1
    refine s_keep hN2 hI.2.2.1.1 hrt (by decide +kernel) (by decide +kernel) k21 fun S1 h1 h1s h1p hP hR => ?_
    refine s_xp hR.1 hR.2.1 (Or.inl rfl) hR.2.2.1 hd y1 (by omega) fun S2 hf hD => ?_
    have e232 : S2.1 232 = S.1 232 := by rw [hf.1 232 (by omega) (by omega), h1 232 (by omega)]
    refine s_mday hu (by rw [e232]; exact h3) (Or.inr ?_) ?_
    · rw [mDish (MX_1 e232 mx)]; exact g1'
    · rw [e232]
      have eA : (fm_row S2 232 (keepA (S.1 232) u)).1 232 = keepA (S.1 232) u := funext fun j => row_self
      refine s_mgd (y := y) (by rw [eA]; exact hR.1) (by rw [eA]; exact y1) (by omega) hd fun v => ⟨?_, ?_⟩
      · rw [eA]
      · rw [eA]
        refine Inv_day hI hN h1 h1s h1p hP hR hf (B := dayA (keepA (S.1 232) u) n dd) (stE_gd hn (stE_id _)) ?_ hD (fun c a b => funext fun j => by rw [row_ne a, row_ne b, row_ne a]) (funext fun j => row_self) rfl
        unfold dayA gdA
        rw [up1_eq, y1, nI_s]
theorem c_undo (hI : Inv S N) (hN : N < 600) : pair vI k_X_undo k_M_undo [.ref 0] [.ref 231] S N := by
  obtain ⟨n, m, q, u, y, c, mx, hr, hrt⟩ := Inv_cx hI
  have hu : u ≤ 8 := hrt.2.2.2.2.1.1
  have h3 : S.1 232 3 = nI u := hrt.2.2.2.2.1.2.1
  have h14 : S.1 1 14 = nI u := hrt.2.2.2.2.1.2.2
  rcases u with _ | v
  · have h14 : S.1 1 14 = 0 := h14
    have h3 : S.1 232 3 = 0 := h3
    have e3 : (g_X_no S).1 232 3 = 0 := by unfold g_X_no; rw [wI_cell (by omega)]; exact h3
    have fb : f_Town_goBack S 1 = 0 := by unfold f_Town_goBack; rw [h14, if_neg (by decide)]
    have gb : g_Town_goBack S 1 = S := by unfold g_Town_goBack; rw [h14, if_neg (by decide)]
    have gx : g_X_undo S = g_X_no S := by unfold g_X_undo; rw [if_pos fb, gb]
    refine ps_sp (s_X_undo (fun z => absurd z (by rw [h14]; decide)) (fun z => absurd z (by rw [h14]; decide)) fun z => absurd z (by rw [h14]; decide)) ?_
    rw [gx]
    refine ps_sp (s_M_undo (fun z => absurd e3 z) (fun z => absurd e3 z) fun z => absurd e3 z) ?_
    unfold f_X_undo f_M_undo g_M_undo
    rw [if_pos fb, if_pos e3, if_pos e3]
    exact ⟨rfl, Inv_no hI hN⟩
  · have hv : v < 8 := by omega
    have w14 : fm_wI S 1 14 (S.1 1 14 - 1) = fm_wI S 1 14 (nI v) := by rw [h14]; exact congrArg _ (nI_pred v)
    obtain ⟨i, hi, ei⟩ := hI.2.2.1.1.1 v hv
    have p14 : 0 < S.1 1 14 := by rw [h14]; exact nI_lt (a := 0) (by omega) (by omega)
    have fb : ¬ (f_Town_goBack S 1 = 0) := by unfold f_Town_goBack; rw [if_pos p14]; decide
    have gx : g_X_undo S = g_Days_copy (fm_wI S 1 14 (nI v)) (1 + 16) (S.2.2 (1 + 20) v) := by
      unfold g_X_undo
      rw [if_neg fb]
      unfold g_Town_goBack
      rw [if_pos p14, w14, wI_same, nI_clamp (by omega)]
      rfl
    have fx : f_X_undo S = (g_X_undo S).1 17 0 := by
      unfold f_X_undo g_X_undo
      rw [if_neg fb, if_neg fb]
    obtain ⟨z, z1, z2, hz⟩ := RT_undo (by omega) hI.2.2.1.1 hrt
    have hP2 : (g_X_undo S).2 = S.2 := by rw [gx, dc_s2, wI_s2]
    have eo : ∀ c, c ≠ 1 → (c < 17 ∨ 20 < c) → (g_X_undo S).1 c = S.1 c := fun c a b => by rw [gx, dc_fr (by omega), wI_ce a]
    refine ps_sp (s_X_undo (fun _ => ?_) (fun _ => ?_) fun _ => by decide +kernel) ?_
    · rw [w14, wI_same]; exact vp_in_nI hv (by decide)
    · rw [w14, wI_same, nI_clamp (by omega)]
      show fm_tg (S.2.2 (1 + 20) v) = 2
      rw [ei]; exact k21 i hi
    · rw [← gx] at hz
      have e232 := eo 232 (by omega) (by omega)
      have e3 : (g_X_undo S).1 232 3 = nI (v + 1) := by rw [e232]; exact h3
      have hd : ((g_X_undo S).1 17 0) = undoA (S.1 232) v 4 := hz.2.2.1.1
      rw [fx]
      generalize g_X_undo S = T at *
      have n0 : ¬ T.1 232 3 = 0 := by rw [e3]; exact nI_ne0 (by omega) (by omega)
      have w3 : fm_wI T 232 3 (T.1 232 3 - 1) = fm_row T 232 (up1 (S.1 232) 3 (nI v)) := by
        rw [wI_as, e232, h3, nI_pred]
      have r3 : (fm_row T 232 (up1 (S.1 232) 3 (nI v))).1 232 3 = nI v := by rw [row_self]; exact up1_eq
      refine ps_sp (s_M_undo (fun _ => ?_) (fun _ => ?_) fun _ => ?_) ?_
      · rw [w3, r3, lit_mul, lit_add]; exact nI_pos (by omega)
      · rw [w3, r3, lit_mul, lit_add, nI_clamp (by omega)]; exact Or.inr (by omega)
      · rw [w3, r3, lit_mul, lit_add, nI_clamp (by omega), if_neg (by decide), ln_232]; omega
      · unfold f_M_undo g_M_undo
        rw [if_neg n0, if_neg n0, w3, r3, lit_mul, lit_add, mget_row hv (show up1 (S.1 232) 3 (nI v) 3 = nI v from up1_eq)]
        have eu : undoA (up1 (S.1 232) 3 (nI v)) v = undoA (S.1 232) v := by
          funext j
          unfold undoA
          by_cases a : j = 3
          · rw [if_pos a, if_pos a]
          · rw [if_neg a, if_neg a, up1_ne (by omega), up1_ne a]
            by_cases b : j = 4
            · rw [if_pos b, if_pos b]
            · rw [if_neg b, if_neg b]
              by_cases d : 29 ≤ j ∧ j < 53
              · rw [if_pos d, if_pos d, up1_ne (by omega)]
              · rw [if_neg d, if_neg d]
        rw [eu, row_self]
        exact ⟨hd, Inv_op hI hN (fun c hc => eo c (by omega) (by omega)) (by rw [hP2]) (fun c _ => by rw [hP2]) (PP_fr (by rw [hP2]) hI.2.2.1.1) rfl (RT_mono (Nat.le_succ N) hz)⟩
theorem rf123 : ∀ i, i < 2 → fm_rf 123 i = 124 + 53 * i := by decide +kernel
theorem ktown : ∀ i, i < 2 → fm_tg (124 + 53 * i) = 6 ∧ fm_tg (124 + 53 * i + 10) = 4 ∧ fm_tg (124 + 53 * i + 16) = 2 := by decide +kernel
theorem kdays : ∀ i, i < 2 → ∀ j, j < 8 → fm_tg (124 + 53 * i + 21 + 4 * j) = 2 := by decide +kernel
theorem know : fm_tg 1 = 6 ∧ fm_tg (1 + 10) = 4 ∧ fm_tg (1 + 16) = 2 := by decide +kernel
def imR (A g : Nat → Int32) (i k : Nat) : Nat → Int32 := fun j => if 373 * i ≤ j ∧ j < 373 * i + k then A (j - 373 * i) else g j
theorem imR_s {A g : Nat → Int32} {i k : Nat} : up1 (imR A g i k) (373 * i + k) (A k) = imR A g i (k + 1) := by
  funext j
  unfold up1 imR
  by_cases e : j = 373 * i + k
  · subst e
    rw [if_pos rfl, if_pos (by omega), show 373 * i + k - 373 * i = k by omega]
  · rw [if_neg e]
    by_cases e2 : 373 * i ≤ j ∧ j < 373 * i + k
    · rw [if_pos e2, if_pos (by omega)]
    · rw [if_neg e2, if_neg (by omega)]
theorem c_image (hI : Inv S N) (hN : N < 600) : pair vI k_X_image k_M_image [.ref 0, .int x1] [.ref 231, .int x1] S N := by
  obtain ⟨n, m, q, u, y, c, mx, hr, hrt⟩ := Inv_cx hI
  obtain ⟨p1, p2, p3, p4⟩ := hI.2.2.1
  unfold pair
  refine e_X_image ?_
  unfold f_X_isImage
  refine ⟨fun g1 => ?_, fun g1 => ?_⟩
  · refine e_M_image ?_
    rw [in_lit (by decide) (by decide)]
    exact ⟨fun _ => ⟨rfl, Inv_bad hI hN⟩, fun z => absurd g1 z⟩
  · have g1' := g1
    obtain ⟨i, _, hi, rfl⟩ := wi_L (a := 0) (b := 1) (by decide) g1 (by decide)
    have hi2 : i < 2 := by omega
    have hp : PP S (124 + 53 * i) := by
      have : i = 0 ∨ i = 1 := by omega
      rcases this with rfl | rfl
      · exact p3
      · exact p4
    rw [nI_clamp (by omega), rf123 i hi2]
    refine ⟨vp_in_nI hi2 (by decide), (ktown i hi2).1, ?_⟩
    refine s_copy hrt hp p1 (by omega) (ktown i hi2) know (kdays i hi2) k21 fun S1 h1 h2 hR => ?_
    have f230 : ∀ c, c ≠ 230 → (fm_wI S1 230 i 1).1 c = S1.1 c := fun c hc => wI_ce hc
    refine e_M_image ?_
    rw [in_lit (by decide) (by decide)]
    refine ⟨fun z => absurd z g1', fun _ => ?_⟩
    generalize hT : fm_wI S1 230 i 1 = T
    have t230 : ∀ j, T.1 230 j = if j = i then 1 else S.1 230 j := fun j => by
      rw [← hT]
      by_cases e : j = i
      · subst e; rw [wI_same, if_pos rfl]
      · rw [wI_place e, if_neg e, h1 230 (by omega)]
    have tf : ∀ c, c ≠ 230 → (c < 124 + 53 * i ∨ 124 + 53 * i + 52 < c) → T.1 c = S.1 c := fun c a b => by rw [← hT, f230 c a, h1 c b]
    have t2 : T.2 = S.2 := by rw [← hT]; exact h2
    have hRT : RT T (124 + 53 * i) (S.1 232) n m q u y N := by
      rw [← hT]
      exact RT_fr (fun c a b => f230 c (by omega)) rfl (PP_fr (by rw [h2]) hp) hR
    have t232 := tf 232 (by omega) (by omega)
    have key : ∀ k, k ≤ 373 → am_Po vI 11 k_M_image 17 [some (.ref 231), some (.int (nI i)), some (.int (nI k))] [] (fm_row T 234 (imR (S.1 232) (S.1 234) i k)) fun y S2 => 1 = y ∧ Inv S2 (N + 1) := by
      refine up_to ?_ fun k hk ih => ?_
      · refine p_M_image_17 ⟨fun _ => ⟨vp_in_nI hi2 (by decide), ?_⟩, fun z => absurd (by decide) z⟩
        rw [nI_clamp (by omega)]
        refine ⟨rfl, ?_⟩
        generalize hU : fm_wI (fm_row T 234 (imR (S.1 232) (S.1 234) i 373)) 235 i 1 = U
        have u235 : ∀ j, U.1 235 j = if j = i then 1 else S.1 235 j := fun j => by
          rw [← hU]
          by_cases e : j = i
          · subst e; rw [wI_same, if_pos rfl]
          · rw [wI_place e, if_neg e, row_ne (by omega), tf 235 (by omega) (by omega)]
        have u234 : U.1 234 = imR (S.1 232) (S.1 234) i 373 := by rw [← hU, wI_ce (by omega)]; exact funext fun j => row_self
        have uf : ∀ c, c ≠ 235 → c ≠ 234 → U.1 c = T.1 c := fun c a b => by rw [← hU, wI_ce a]; exact funext fun j => row_ne b
        have u2 : U.2 = S.2 := by rw [← hU]; exact t2
        have uS : ∀ c, c ≠ 235 → c ≠ 234 → c ≠ 230 → (c < 124 + 53 * i ∨ 124 + 53 * i + 52 < c) → U.1 c = S.1 c := fun c a b d e => by rw [uf c a b, tf c d e]
        have u22 : U.2.2 = S.2.2 := by rw [u2]
        obtain ⟨L, l1, l2, l3, l4⟩ := hI.2.2.2.2.1
        refine ⟨by omega, ⟨n, m, q, u, y, ?_⟩, ⟨PP_fr (by rw [u22]) p1, PP_fr (by rw [u22]) p2, PP_fr (by rw [u22]) p3, PP_fr (by rw [u22]) p4⟩, fun i' hi' => ?_, ⟨L, l1, ?_, ?_, fun k hk => ?_⟩, by rw [u2]; exact hI.2.2.2.2.2.1, ?_⟩
        · rw [uS 232 (by omega) (by omega) (by omega) (by omega)]
          exact RT_mono (by omega) (RT_fr (fun c a b => uS c (by omega) (by omega) (by omega) (by omega)) (by rw [u22]) p1 hrt)
        · rw [uf 230 (by omega) (by omega), t230, u235, u234]
          by_cases e : i' = i
          · subst e
            rw [if_pos rfl, if_pos rfl]
            refine ⟨rfl, Or.inr ⟨n, m, q, u, y, ?_⟩⟩
            refine RT_mono (Nat.le_succ N) (RT_A (A := S.1 232) (fun k hk => ?_) (RT_fr (fun c a b => uf c (by omega) (by omega)) (by rw [u2, t2]) (PP_fr (by rw [t2]) hp) hRT))
            unfold imR
            rw [if_pos (by omega), show 373 * i' + k - 373 * i' = k by omega]
          · rw [if_neg e, if_neg e]
            have hh := hI.2.2.2.1 i' hi'
            have hp' : PP S (124 + 53 * i') := by
              have : i' = 0 ∨ i' = 1 := by omega
              rcases this with rfl | rfl
              · exact p3
              · exact p4
            refine ⟨hh.1, hh.2.imp_right fun ⟨n, m, q, u, y, hr⟩ => ⟨n, m, q, u, y, ?_⟩⟩
            refine RT_mono (Nat.le_succ N) (RT_A (A := fun k => S.1 234 (373 * i' + k)) (fun k hk => ?_) (RT_fr (fun c a b => uS c (by omega) (by omega) (by omega) (by omega)) (by rw [u22]) hp' hr))
            unfold imR
            rw [if_neg (by omega)]
        · rw [uS 67 (by omega) (by omega) (by omega) (by omega)]; exact l2
        · rw [uS 231 (by omega) (by omega) (by omega) (by omega)]; exact l3
        · rw [uS 121 (by omega) (by omega) (by omega) (by omega), uS 236 (by omega) (by omega) (by omega) (by omega)]; exact l4 k hk
        · rw [uS 0 (by omega) (by omega) (by omega) (by omega), uS 231 (by omega) (by omega) (by omega) (by omega)]; exact hI.2.2.2.2.2.2
      · refine p_M_image_17 ?_
        simp (disch := omega) only [lit_add, add_lit, lit_mul, mul_lit, nI_add, nI_clamp, nI_subI, nI_sub1, nI_divL, vp_T, ge_F, ge_T, geL_F, geL_T, leL_F, leL_T, le0_F, le0_T, ge0_T, row_self, row_ne, row_l, row_p, row_row, wI_row, wI_same, wI_cell, wI_place, wI_l, wI_p, lt_T, lt_F, ltL_T, ltL_F, gtL_T, gtL_F, lt0_F, eq_T, eq_F, eqL_T, eqL_F, eqM_F, leM_F, nat_mod, i_10, i_01, i_m1, eq_self_iff_true, rw8_lt, up1_ne, up1_eq, wi_T, ite_self, tg_1, tg_68, tg_124, tg_177, tg_11, tg_17, tg_59, tg_78, tg_84, ln_7, ln_16, ln_233, ln_232, ln_6, true_and, and_true, not_true_eq_false, not_false_eq_true, false_implies, true_implies, implies_true, forall_const, forall_eq, if_true, if_false, false_and, and_false, t232]
        rw [imR_s]
        exact ih
    have z := key 0 (by omega)
    have e0 : imR (S.1 232) (S.1 234) i 0 = T.1 234 := by
      rw [tf 234 (by omega) (by omega)]
      funext j
      unfold imR
      rw [if_neg (by omega)]
    rw [e0, row_id] at z
    exact z
def frR (A g : Nat → Int32) (k : Nat) : Nat → Int32 := fun j => if j < k then A j else g j
theorem c_from (hI : Inv S N) (hN : N < 600) : pair vI k_X_from k_M_from [.ref 0, .int x1] [.ref 231, .int x1] S N := by
  obtain ⟨n, m, q, u, y, c, mx, hr, hrt⟩ := Inv_cx hI
  obtain ⟨p1, p2, p3, p4⟩ := hI.2.2.1
  unfold pair
  refine e_X_from ?_
  unfold f_X_isImage
  refine ⟨fun g1 => ?_, fun g1 => ?_⟩
  · refine e_M_from ?_
    rw [in_lit (by decide) (by decide)]
    exact ⟨fun _ => ⟨rfl, Inv_bad hI hN⟩, fun z => absurd g1 z⟩
  · have g1' := g1
    obtain ⟨i, _, hi, rfl⟩ := wi_L (a := 0) (b := 1) (by decide) g1 (by decide)
    have hi2 : i < 2 := by omega
    have hp : PP S (124 + 53 * i) := by
      have : i = 0 ∨ i = 1 := by omega
      rcases this with rfl | rfl
      · exact p3
      · exact p4
    have hh := hI.2.2.2.1 i hi2
    rw [nI_clamp (by omega), rf123 i hi2]
    refine ⟨vp_in_nI hi2 (by decide), fun g2 => ?_, fun g2 => ?_⟩
    · refine e_M_from ?_
      rw [in_lit (by decide) (by decide), nI_clamp (by omega), show (g_X_no S).1 235 i = S.1 235 i from wI_cell (by omega), ← hh.1]
      exact ⟨fun z => absurd z g1', fun _ => ⟨vp_in_nI hi2 (by decide), fun _ => ⟨rfl, Inv_no hI hN⟩, fun z => absurd g2 z⟩⟩
    · obtain ⟨n', m', q', u', y', hr'⟩ := hh.2.resolve_left g2
      refine s_copy hr' p1 hp (by omega) know (ktown i hi2) k21 (kdays i hi2) fun S1 h1 h2 hR => ?_
      refine e_M_from ?_
      rw [in_lit (by decide) (by decide), nI_clamp (by omega), h1 235 (by omega), ← hh.1]
      refine ⟨fun z => absurd z g1', fun _ => ⟨vp_in_nI hi2 (by decide), fun z => absurd z g2, fun _ => ?_⟩⟩
      have e234 := h1 234 (by omega)
      have s22 : S1.2.2 = S.2.2 := by rw [h2]
      have key : ∀ k, k ≤ 373 → am_Po vI 11 k_M_from 31 [some (.ref 231), some (.int (nI i)), some (.int (nI k))] [] (fm_row S1 232 (frR (fun k => S.1 234 (373 * i + k)) (S1.1 232) k)) fun y S2 => 1 = y ∧ Inv S2 (N + 1) := by
        refine up_to ?_ fun k hk ih => ?_
        · refine p_M_from_31 ⟨fun _ => ⟨rfl, ?_⟩, fun z => absurd (by decide) z⟩
          refine Inv_op hI hN (fun c hc => h1 c (by omega)) (by rw [h2]) (fun c _ => by rw [s22]) (PP_fr (by rw [s22]) p1) rfl (RT_mono (Nat.le_succ N) (RT_A (A := fun k => S.1 234 (373 * i + k)) (fun k hk => ?_) hR))
          unfold frR
          rw [if_pos hk]
        · refine p_M_from_31 ?_
          simp (disch := omega) only [lit_add, add_lit, lit_mul, mul_lit, nI_add, nI_clamp, nI_subI, nI_sub1, nI_divL, vp_T, ge_F, ge_T, geL_F, geL_T, leL_F, leL_T, le0_F, le0_T, ge0_T, row_self, row_ne, row_l, row_p, row_row, wI_row, wI_same, wI_cell, wI_place, wI_l, wI_p, lt_T, lt_F, ltL_T, ltL_F, gtL_T, gtL_F, lt0_F, eq_T, eq_F, eqL_T, eqL_F, eqM_F, leM_F, nat_mod, i_10, i_01, i_m1, eq_self_iff_true, rw8_lt, up1_ne, up1_eq, wi_T, ite_self, tg_1, tg_68, tg_124, tg_177, tg_11, tg_17, tg_59, tg_78, tg_84, ln_7, ln_16, ln_233, ln_232, ln_6, true_and, and_true, not_true_eq_false, not_false_eq_true, false_implies, true_implies, implies_true, forall_const, forall_eq, if_true, if_false, false_and, and_false, e234]
          have es : up1 (frR (fun k => S.1 234 (373 * i + k)) (S1.1 232) k) k (S.1 234 (373 * i + k)) = frR (fun k => S.1 234 (373 * i + k)) (S1.1 232) (k + 1) := by
            funext j
            unfold up1 frR
            by_cases e : j = k
            · subst e; rw [if_pos rfl, if_pos (by omega)]
            · rw [if_neg e]
              by_cases e2 : j < k
              · rw [if_pos e2, if_pos (by omega)]
              · rw [if_neg e2, if_neg (by omega)]
          rw [es]
          exact ih
      have z := key 0 (by omega)
      have e0 : frR (fun k => S.1 234 (373 * i + k)) (S1.1 232) 0 = S1.1 232 := by
        funext j
        unfold frR
        rw [if_neg (by omega)]
      rw [e0, row_id] at z
      exact z
end CALLS4
