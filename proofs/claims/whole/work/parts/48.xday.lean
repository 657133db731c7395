/-! what opens, and a day: the class -/
/-- the days at a stand for f: the day, since when open, the smell, on how many days -/
def RD (S : fm_S) (a : Nat) (f : Nat → Int32) (n : Nat) : Prop :=
  S.1 a 0 = f 0 ∧ (∀ k, k < n → S.1 (a + 1) k = f (1 + k)) ∧ (∀ k, k < n → S.1 (a + 2) k = f (9 + k)) ∧ (∀ k, k < n → S.1 (a + 3) k = f (17 + k)) ∧
  (∀ k, n ≤ k → k < 8 → S.1 (a + 1) k = -1 ∧ S.1 (a + 2) k = -1 ∧ S.1 (a + 3) k = 0)
def ow (A : Nat → Int32) : Nat → Int32 := fun j => A (m_ow j)
theorem ow_0 (A : Nat → Int32) : ow A 0 = A 4 := rfl
theorem ow_1 (A : Nat → Int32) (k : Nat) : ow A (1 + k) = A (29 + k) := by unfold ow m_ow; rw [if_neg (by omega), show 28 + (1 + k) = 29 + k by omega]
theorem ow_2 (A : Nat → Int32) (k : Nat) : ow A (9 + k) = A (37 + k) := by unfold ow m_ow; rw [if_neg (by omega), show 28 + (9 + k) = 37 + k by omega]
theorem ow_3 (A : Nat → Int32) (k : Nat) : ow A (17 + k) = A (45 + k) := by unfold ow m_ow; rw [if_neg (by omega), show 28 + (17 + k) = 45 + k by omega]
theorem RD_fr {S S' : fm_S} {a n : Nat} {f : Nat → Int32} (h : ∀ c, a ≤ c → c ≤ a + 3 → S'.1 c = S.1 c) (hR : RD S a f n) : RD S' a f n := by
  unfold RD
  rw [h a (by omega) (by omega), h (a + 1) (by omega) (by omega), h (a + 2) (by omega) (by omega), h (a + 3) (by omega) (by omega)]
  exact hR
theorem np_eq {k c s v dy ah : Int32} (h : iN k 5) : f_Nose_pull k c s v dy ah = f_M_movedBy k c s v dy ah := by
  obtain ⟨h1, h2⟩ := h
  generalize tn k = j at h1 h2
  subst h1
  have : j = 0 ∨ j = 1 ∨ j = 2 ∨ j = 3 ∨ j = 4 ∨ j = 5 := by omega
  have e5 : ∀ a b : Int32, (if nI 5 = 5 then a else b) = a := fun a b => if_pos rfl
  have e : ∀ i, i < 5 → (nI 5 = nI i) = False := fun i hi => eq_F (by omega) (by omega) (by omega)
  unfold f_Nose_pull f_M_movedBy
  rcases this with rfl | rfl | rfl | rfl | rfl | rfl
  all_goals simp (disch := omega) only [eqL_T, eqL_F, if_true, if_false, nI_0, show (0 : Int32) = 0 ↔ True from by simp]
theorem floor4 : ∀ y, y < 2048 → f_Math_floorMod (nI y) 4 = nI (y % 4) := by decide +kernel
theorem windOn_n {S : fm_S} {n m y : Nat} {A : Nat → Int32} (hW : WS A n m) (hR : RS S 1 A n m) (hy : y < 2048) : f_Town_windOn S 1 (nI y) = nI (wd A y) := by
  unfold f_Town_windOn
  rw [floor4 y hy, nI_clamp (by omega), hR.2.2.2.2.2.2.2.1 (y % 4) (by omega)]
  exact (wd_lt hW).1
/-- what the class says opens is what the reference says -/
theorem xo_bits {S : fm_S} {n m y a dd mm : Nat} {A : Nat → Int32} {h : Int32} (hW : WS A n m) (hR : RS S 1 A n m) (hD : RD S a (ow A) n) (hd : dd < m)
    (hy : A 4 = nI y) (hyb : y < 2000) (hs : ∀ x, x < 8 → S.1 57 x = nI (spA A (tn (A (131 + dd))) (wd A y) h mm x)) :
    ∀ i, i ≤ n → n_Cook_openingBits S a (nI dd) i = bt (po A dd h mm) i
  | 0, _ => rfl
  | i + 1, hi => by
    have ih := xo_bits hW hR hD hd hy hyb hs i (by omega)
    obtain ⟨hn, hm6, h0, h1, hk, -⟩ := hW
    obtain ⟨r0, r7, r1, r2, r3, r4, r5, r6, r7', r8, r9⟩ := hR
    obtain ⟨d0, d1, d2, d3, -⟩ := hD
    have hyt : tn (A 4) = y := by rw [hy]; unfold tn; exact nI_clamp (by omega)
    have e1 : (f_Days_isShut S a (nI i) = 0) = ¬ A (29 + i) = -1 := by
      unfold f_Days_isShut
      rw [nI_clamp (by omega), d1 i (by omega), ow_1]
      by_cases q : A (29 + i) = -1 <;> simp [q]
    have e2 : f_Cook_pullFromAir S a (nI dd) (nI i) = mvI A dd h mm i := by
      unfold f_Cook_pullFromAir f_Town_pull f_Days_ahead mvI
      rw [nI_clamp (by omega), nI_clamp (by omega), r1 i (by omega), r3 i (by omega), r7' dd hd, hs i (by omega), d0, d2 i (by omega), d3 i (by omega), ow_0, ow_2, ow_3, hyt]
      exact np_eq (hk i (by omega))
    rw [n_Cook_openingBits, bt, ih, e2]
    unfold po
    by_cases q : A (29 + i) = -1
    · rw [if_neg (by rw [e1]; simp [q])]
      by_cases q2 : mvI A dd h mm i < 10
      · rw [if_pos q2, if_neg (by simp [q2])]
      · rw [if_neg q2, if_pos (by simp [q, q2])]
    · rw [if_pos (by rw [e1]; exact q), if_neg (by simp [q])]
def cr1 (g : Nat → Int32) (p : Nat → Bool) (v : Int32) (i : Nat) : Nat → Int32 := fun k => if k < i then (if p k = true then v else g k) else g k
def cr2 (g : Nat → Int32) (sm : Nat → Bool) (s : Int32) (i : Nat) : Nat → Int32 := fun k => if k < i then (if sm k = true then s else -1) else g k
def cr3 (g2 g3 : Nat → Int32) (sm : Nat → Bool) (s : Int32) (i : Nat) : Nat → Int32 := fun k => if k < i then (if sm k = true then (if g2 k = s then g3 k + 1 else 1) else 0) else g3 k
theorem cr1_s {g : Nat → Int32} {p : Nat → Bool} {v : Int32} {i : Nat} : cr1 g p v (i + 1) = if p i = true then up1 (cr1 g p v i) i v else cr1 g p v i := by
  funext k
  by_cases hp : p i = true
  · rw [if_pos hp]; simp only [cr1, up1]
    by_cases e : k = i
    · subst e; simp [hp]
    · have : (k < i + 1) = (k < i) := propext (by omega)
      simp [e, this]
  · rw [if_neg hp]; simp only [cr1]
    by_cases e : k = i
    · subst e; simp [hp]
    · have : (k < i + 1) = (k < i) := propext (by omega)
      simp [this]
theorem cr2_s {g : Nat → Int32} {sm : Nat → Bool} {s : Int32} {i : Nat} : cr2 g sm s (i + 1) = up1 (cr2 g sm s i) i (if sm i = true then s else -1) := by
  funext k
  simp only [cr2, up1]
  by_cases e : k = i
  · subst e; simp
  · have : (k < i + 1) = (k < i) := propext (by omega)
    simp [e, this]
theorem cr3_s {g2 g3 : Nat → Int32} {sm : Nat → Bool} {s : Int32} {i : Nat} : cr3 g2 g3 sm s (i + 1) = up1 (cr3 g2 g3 sm s i) i (if sm i = true then (if g2 i = s then g3 i + 1 else 1) else 0) := by
  funext k
  simp only [cr3, up1]
  by_cases e : k = i
  · subst e; simp
  · have : (k < i + 1) = (k < i) := propext (by omega)
    simp [e, this]
theorem cr1_i {g : Nat → Int32} {p : Nat → Bool} {v : Int32} {i : Nat} : cr1 g p v i i = g i := by unfold cr1; rw [if_neg (by omega)]
theorem cr2_i {g : Nat → Int32} {sm : Nat → Bool} {s : Int32} {i : Nat} : cr2 g sm s i i = g i := by unfold cr2; rw [if_neg (by omega)]
theorem cr3_i {g2 g3 : Nat → Int32} {sm : Nat → Bool} {s : Int32} {i : Nat} : cr3 g2 g3 sm s i i = g3 i := by unfold cr3; rw [if_neg (by omega)]
def crS (T : fm_S) (a : Nat) (p sm : Nat → Bool) (v s : Int32) (i : Nat) : fm_S :=
  fm_row (fm_row (fm_row T (a + 1) (cr1 (T.1 (a + 1)) p v i)) (a + 3) (cr3 (T.1 (a + 2)) (T.1 (a + 3)) sm s i)) (a + 2) (cr2 (T.1 (a + 2)) sm s i)
theorem crS_0 {T : fm_S} {a : Nat} {p sm : Nat → Bool} {v s : Int32} : crS T a p sm v s 0 = T := by
  unfold crS
  rw [show cr1 (T.1 (a + 1)) p v 0 = T.1 (a + 1) from rfl, row_id, show cr3 (T.1 (a + 2)) (T.1 (a + 3)) sm s 0 = T.1 (a + 3) from rfl, row_id, show cr2 (T.1 (a + 2)) sm s 0 = T.1 (a + 2) from rfl, row_id]
theorem ah_if {c : Prop} [Decidable c] {x : Int32} : (if c then x else 0) + 1 = if c then x + 1 else 1 := by split <;> rfl
section XDAY
variable {d n m y : Nat} {S T : fm_S} {A : Nat → Int32} {h : Int32} {mm dd a : Nat}
theorem s_xpl {Q : Int32 → fm_S → Prop} {x2 : Int32} {p sm : Nat → Bool} {s dv : Int32} (ha : a = 17 ∨ a = 59) (hn : n ≤ 8) (h1 : T.1 1 0 = nI n) (hdv : T.1 a 0 = dv)
    (hs : ∀ x, x < n → (T.1 57 x ≤ 0) = (sm x = false)) (W : Q (bt p n) (fm_wI (crS T a p sm dv s n) a 0 (dv + 1))) :
    H_Cook_pass_77 d a x2 s (bt p n) 0 T Q := by
  have ht2 : fm_tg a = 2 := by rcases ha with rfl | rfl <;> decide +kernel
  have ht3 : fm_tg (a + 3) = 100 := by rcases ha with rfl | rfl <;> decide +kernel
  have hl3 : fm_ln (a + 3) = 8 := by rcases ha with rfl | rfl <;> decide +kernel
  have key : ∀ i, i ≤ n → H_Cook_pass_77 d a x2 s (bt p n) (nI i) (crS T a p sm dv s i) Q := by
    refine up_to ?_ fun i hi ih => ?_
    · refine p_Cook_pass_77 ?_
      unfold crS at W ⊢
      simp (disch := omega) only [lit_add, add_lit, lit_mul, mul_lit, nI_add, nI_clamp, nI_subI, nI_sub1, nI_divL, vp_T, ge_F, ge_T, geL_F, geL_T, leL_F, leL_T, le0_F, le0_T, ge0_T, row_self, row_ne, row_l, row_p, row_row, wI_row, wI_same, wI_cell, wI_place, wI_l, wI_p, lt_T, lt_F, ltL_T, ltL_F, gtL_T, gtL_F, lt0_F, eq_T, eq_F, eqL_T, eqL_F, eqM_F, leM_F, nat_mod, i_10, i_01, i_m1, eq_self_iff_true, rw8_lt, up1_ne, up1_eq, wi_T, ite_self, tg_1, tg_68, tg_124, tg_177, tg_11, tg_17, tg_59, tg_78, tg_84, ln_7, ln_16, ln_233, ln_232, ln_6, true_and, and_true, not_true_eq_false, not_false_eq_true, false_implies, true_implies, implies_true, forall_const, forall_eq, if_true, if_false, false_and, and_false, h1, ht2, hdv]
      exact W
    · refine p_Cook_pass_77 ?_
      have e := ih
      unfold crS at e ⊢
      rw [cr1_s, cr2_s, cr3_s] at e
      have hsi := hs i hi
      unfold g_Days_smellAfter f_Days_ahead
      rcases hp : p i with _ | _ <;> rcases hb : sm i with _ | _
      all_goals simp (disch := omega) only [hb, hp, eq_self_iff_true, if_true, if_false, Bool.false_eq_true, Bool.true_eq_false] at e hsi
      all_goals simp (disch := omega) only [lit_add, add_lit, lit_mul, mul_lit, nI_add, nI_clamp, nI_subI, nI_sub1, nI_divL, vp_T, ge_F, ge_T, geL_F, geL_T, leL_F, leL_T, le0_F, le0_T, ge0_T, row_self, row_ne, row_l, row_p, row_row, wI_row, wI_same, wI_cell, wI_place, wI_l, wI_p, lt_T, lt_F, ltL_T, ltL_F, gtL_T, gtL_F, lt0_F, eq_T, eq_F, eqL_T, eqL_F, eqM_F, leM_F, nat_mod, i_10, i_01, i_m1, eq_self_iff_true, rw8_lt, up1_ne, up1_eq, wi_T, ite_self, tg_1, tg_68, tg_124, tg_177, tg_11, tg_17, tg_59, tg_78, tg_84, ln_7, ln_16, ln_233, ln_232, ln_6, true_and, and_true, not_true_eq_false, not_false_eq_true, false_implies, true_implies, implies_true, forall_const, forall_eq, if_true, if_false, false_and, and_false, h1, ht2, ht3, hl3, bt_has, hp, hsi, hdv, wI_sw, cr2_i, cr3_i, Bool.false_eq_true, ah_if]
      all_goals exact e
  have z := key 0 (by omega)
  rw [crS_0] at z
  exact z
/-- the days behind the loop -/
theorem crS_RD {p sm : Nat → Bool} {s : Int32} (ha : a = 17 ∨ a = 59) (hn : n ≤ 8) (hD : RD T a (ow A) n) : RD (fm_wI (crS T a p sm (A 4) s n) a 0 (A 4 + 1)) a (ow (gdA A p sm s n)) n := by
  obtain ⟨d0, d1, d2, d3, d4⟩ := hD
  refine ⟨?_, fun k hk => ?_, fun k hk => ?_, fun k hk => ?_, fun k h1 h2 => ?_⟩
  · rw [wI_same, ow_0]; exact up1_eq.symm
  · rw [wI_cell (by omega), ow_1, gd_end (by omega)]
    unfold crS
    rw [row_ne (by omega), row_ne (by omega), row_self]
    symm
    unfold cr1 gdi
    rw [if_pos (by omega), if_pos hk, show 29 + k - 29 = k by omega, d1 k hk, ow_1]
  · rw [wI_cell (by omega), ow_2, gd_end (by omega)]
    unfold crS
    rw [row_self]
    symm
    unfold cr2 gdi
    rw [if_neg (by omega), if_pos (by omega), if_pos hk, show 37 + k - 37 = k by omega]
  · rw [wI_cell (by omega), ow_3, gd_end (by omega)]
    unfold crS
    rw [row_ne (by omega), row_self]
    symm
    unfold cr3 gdi
    rw [if_neg (by omega), if_neg (by omega), if_pos (by omega), if_pos hk, show 45 + k - 45 = k by omega, show 45 + k - 8 = 37 + k by omega, d2 k hk, d3 k hk, ow_2, ow_3]
  · rw [wI_cell (by omega), wI_cell (by omega), wI_cell (by omega)]
    unfold crS
    rw [row_ne (by omega), row_ne (by omega), row_self, row_self, row_ne (by omega), row_self]
    unfold cr1 cr2 cr3
    rw [if_neg (by omega), if_neg (by omega), if_neg (by omega)]
    exact d4 k h1 h2
def fr2 (a : Nat) (S S' : fm_S) : Prop := (∀ c, (c < a ∨ a + 3 < c) → (c < 57 ∨ 58 < c) → S'.1 c = S.1 c) ∧ S'.2.1 = S.2.1 ∧ S'.2.2 = S.2.2
theorem crS_fr {p sm : Nat → Bool} {s dv x : Int32} (ha : a = 17 ∨ a = 59) (hx : ex 57 58 S T) : fr2 a S (fm_wI (crS T a p sm dv s n) a 0 x) := by
  refine ⟨fun c h1 h2 => ?_, hx.2.1, hx.2.2⟩
  rw [← hx.1 c (by omega)]
  funext j
  rw [wI_cell (by omega)]
  unfold crS
  rw [row_ne (by omega), row_ne (by omega), row_ne (by omega)]
theorem tg_a (ha : a = 17 ∨ a = 59) : fm_tg a = 2 := by rcases ha with rfl | rfl <;> decide +kernel
/-- the class' day with a dish -/
theorem s_xp {Q : Int32 → fm_S → Prop} (hW : WS A n m) (hR : RS S 1 A n m) (ha : a = 17 ∨ a = 59) (hD : RD S a (ow A) n) (hd : dd < m) (hy : A 4 = nI y) (hyb : y < 2000)
    (W : ∀ S', fr2 a S S' → RD S' a (ow (dayA A n dd)) n → Q (bt (po A dd (-1) 0) n) S') :
    am_Ps vI (d + 4) k_Cook_pass [.ref 54, .ref a, .int (nI dd)] S Q := by
  have hn := hW.1
  have hm6 := hW.2.1
  have hyt : tn (A 4) = y := by rw [hy]; unfold tn; exact nI_clamp (by omega)
  refine e_Cook_pass ⟨fun q => absurd q (by rw [eqM_F (by omega)]; exact id), fun _ => ⟨tg_a ha, ?_, ?_⟩⟩
  · rw [hD.1, ow_0, hy, floor4 y (by omega)]
    exact vp_in_nI (by rw [show fm_ln (1 + 6) = 4 from by decide +kernel]; omega) (by decide +kernel)
  · rw [hD.1, ow_0, hy, windOn_n hW hR (by omega)]
    refine e_Air_fill ?_
    refine s_fill (mm := 0) hW hR hd (wd_lt hW).2 (by decide) fun T hT hv => ?_
    have hR2 : RS T 1 A n m := RS_fr (fun c h1 h2 => hT.1 c (by omega)) hR
    have hD2 : RD T a (ow A) n := RD_fr (fun c h1 h2 => hT.1 c (by omega)) hD
    have b := xo_bits hW hR2 hD2 hd hy hyb hv n (Nat.le_refl n)
    rw [show T.1 1 0 = nI n from hR2.1, nI_clamp (n := n) (by omega), nI_clamp (n := dd) (by omega), b, show T.1 8 dd = A (125 + dd) from hR2.2.2.2.2.2.2.2.2.1 dd hd]
    refine ⟨vp_in_nI (by omega) (by decide), vp_in_nI (by omega) (by decide), ?_⟩
    refine s_xpl (sm := smA A dd) (dv := A 4) ha hn hR2.1 (by rw [hD2.1, ow_0]) (fun x hx => ?_) (W _ (crS_fr ha hT) (crS_RD ha hn hD2))
    rw [hv x (by omega)]
    have hle := spA_le (A := A) (so := tn (A (131 + dd))) (w := wd A y) (h := -1) (m := 0) x
    have h30 := (hW.2.2.2.2.2.2.2.2.2.2.1 dd hd).2
    unfold smA
    rw [hyt]
    generalize spA A (tn (A (131 + dd))) (wd A y) (-1) 0 x = z at hle
    rcases Nat.eq_zero_or_pos z with q | q
    · subst q
      decide
    · exact propext ⟨fun q2 => absurd q2 (nI_nle q (by omega)), fun q2 => absurd q (of_decide_eq_false q2)⟩
/-- and without -/
theorem s_xp0 {Q : Int32 → fm_S → Prop} (hW : WS A n m) (hR : RS S 1 A n m) (ha : a = 17 ∨ a = 59) (hD : RD S a (ow A) n)
    (W : ∀ S', fr2 a S S' → RD S' a (ow (gdA A (fun _ => false) (fun _ => false) (-1) n)) n → Q 0 S') :
    am_Ps vI (d + 4) k_Cook_pass [.ref 54, .ref a, .int (-1)] S Q := by
  have hn := hW.1
  refine e_Cook_pass ⟨fun _ => ?_, fun q => absurd rfl q⟩
  have hT : ex 57 58 S (ar_none S 8) := by rw [ar_row]; exact ex_row (ex_id S) (by decide) (by decide)
  have hR2 : RS (ar_none S 8) 1 A n m := RS_fr (fun c h1 h2 => hT.1 c (by omega)) hR
  have hD2 : RD (ar_none S 8) a (ow A) n := RD_fr (fun c h1 h2 => hT.1 c (by omega)) hD
  have z := s_xpl (d := d) (Q := Q) (x2 := -1) (T := ar_none S 8) (p := fun _ => false) (sm := fun _ => false) (s := -1) (dv := A 4) ha hn hR2.1 (by rw [hD2.1, ow_0]) (fun x hx => ?_)
  · rw [bt_none] at z
    exact z (W _ (crS_fr ha hT) (crS_RD ha hn hD2))
  · rw [ar_row, row_self, rw8_lt (by omega)]
    decide
theorem day0_s {s : Int32} : gdA A (fun _ => false) (fun _ => false) s n = day0 A n := by
  unfold day0 gdA gdi
  simp
/-- how many streets open, with sheets -/
theorem s_xo {Q : Int32 → fm_S → Prop} (hW : WS A n m) (hR : RS S 1 A n m) (hD : RD S 17 (ow A) n) (hd : dd < m) (hy : A 4 = nI y) (hyb : y < 2000) (hm : mm ≤ 9)
    (W : ∀ S', ex 57 58 S S' → Q (nI (bc (po A dd h mm) n)) S') :
    am_Ps vI (d + 4) k_Cook_opening [.ref 54, .int (nI dd), .int h, .int (nI mm)] S Q := by
  have hn := hW.1
  have hm6 := hW.2.1
  refine e_Cook_opening ⟨fun q => absurd q (by rw [eqM_F (by omega)]; exact id), fun _ => ⟨?_, ?_⟩⟩
  · rw [hD.1, ow_0, hy, floor4 y (by omega)]
    exact vp_in_nI (by rw [show fm_ln (1 + 6) = 4 from by decide +kernel]; omega) (by decide +kernel)
  · rw [hD.1, ow_0, hy, windOn_n hW hR (by omega)]
    refine s_fill hW hR hd (wd_lt hW).2 hm fun T hT hv => ?_
    have hR2 : RS T 1 A n m := RS_fr (fun c h1 h2 => hT.1 c (by omega)) hR
    have hD2 : RD T 17 (ow A) n := RD_fr (fun c h1 h2 => hT.1 c (by omega)) hD
    have b := xo_bits hW hR2 hD2 hd hy hyb hv n (Nat.le_refl n)
    rw [show T.1 1 0 = nI n from hR2.1, nI_clamp (n := n) (by omega), b, bt_count hn, bt_bits hn]
    exact ⟨vp_in_nI (by omega) (by decide), vp_in_nI (by omega) (by decide), W T hT⟩
theorem s_xo0 {Q : Int32 → fm_S → Prop} (W : Q 0 S) : am_Ps vI (d + 4) k_Cook_opening [.ref 54, .int (-1), .int h, .int (nI mm)] S Q :=
  e_Cook_opening ⟨fun _ => W, fun q => absurd rfl q⟩
end XDAY
