/-! which street smells what, is moved; never -/
theorem bt_or {p q : Nat → Bool} {n : Nat} (hn : n ≤ 32) : bt p n ||| bt q n = bt (fun x => p x || q x) n := by
  refine tb_ext fun i hi => ?_
  rw [tb_or, tb_bt hn i hi, tb_bt hn i hi, tb_bt hn i hi]
  cases decide (i < n) <;> simp
theorem bt_not {p q : Nat → Bool} {n : Nat} (hn : n ≤ 32) : bt p n &&& (bt q n ^^^ (-1)) = bt (fun x => p x && !q x) n := by
  refine tb_ext fun i hi => ?_
  rw [tb_and, tb_not _ hi, tb_bt hn i hi, tb_bt hn i hi, tb_bt hn i hi]
  cases decide (i < n) <;> simp
/-- some k below K -/
def pex (P : Nat → Bool) : Nat → Bool
  | 0 => false
  | k + 1 => pex P k || P k
theorem pex_iff {P : Nat → Bool} : ∀ {K : Nat}, pex P K = true ↔ ∃ k, k < K ∧ P k = true
  | 0 => by simp [pex]
  | K + 1 => by
    rw [pex, Bool.or_eq_true, pex_iff (K := K)]
    constructor
    · rintro (⟨k, h1, h2⟩ | h)
      · exact ⟨k, by omega, h2⟩
      · exact ⟨K, by omega, h⟩
    · rintro ⟨k, h1, h2⟩
      by_cases e : k = K
      · subst e; exact Or.inr h2
      · exact Or.inl ⟨k, by omega, h2⟩
theorem pex_cong {P Q : Nat → Bool} {K : Nat} (h : ∀ k, k < K → P k = Q k) : pex P K = pex Q K := by
  rw [Bool.eq_iff_iff, pex_iff, pex_iff]
  exact ⟨fun ⟨k, h1, h2⟩ => ⟨k, h1, by rw [← h k h1]; exact h2⟩, fun ⟨k, h1, h2⟩ => ⟨k, h1, by rw [h k h1]; exact h2⟩⟩
/-- the class and the reference, what a query needs -/
def CX (S : fm_S) (A : Nat → Int32) (n m y : Nat) : Prop := WS A n m ∧ RS S 1 A n m ∧ RD S 17 (ow A) n ∧ A 4 = nI y ∧ y < 1900
def MX (S : fm_S) (n m y : Nat) : Prop := WS (S.1 232) n m ∧ S.1 232 4 = nI y ∧ y < 1900
theorem CX_ex {S S' : fm_S} {A : Nat → Int32} {n m y : Nat} (h : ex 54 66 S S') (c : CX S A n m y) : CX S' A n m y :=
  ⟨c.1, RS_fr (fun k h1 h2 => h.1 k (by omega)) c.2.1, RD_fr (fun k h1 h2 => h.1 k (by omega)) c.2.2.1, c.2.2.2⟩
theorem MX_ex {S S' : fm_S} {n m y : Nat} (h : ex 238 242 S S') (c : MX S n m y) : MX S' n m y := by
  unfold MX at c ⊢
  rw [h.1 232 (by omega)]
  exact c
theorem ex_A {S S' : fm_S} (h : ex 238 242 S S') : S'.1 232 = S.1 232 := h.1 232 (by omega)
def pon (A : Nat → Int32) (dd x z : Nat) : Bool := decide (¬ f_M_movedBy (A (5 + x)) (A (21 + x)) (A (125 + dd)) (nI (spA A (tn (A (131 + dd))) (wd A z) (-1) 0 x)) (nI z) 0 < 10)
theorem ne_if {P : Prop} [Decidable P] : (if P then (0 : Int32) else 1) = if decide (¬ P) = true then 1 else 0 := by by_cases h : P <;> simp [h]
theorem wd_mod {A : Nat → Int32} {z z' : Nat} (h : z % 4 = z' % 4) : wd A z = wd A z' := by unfold wd; rw [h]
theorem fl_0' (b : Bool) : (if (if b = true then (1 : Int32) else 0) = 0 then (0 : Int32) else 1) = if b = true then 1 else 0 := by cases b <;> decide
theorem zo (b : Bool) : (if b = true then (1 : Int32) else 0) = 0 ∨ (if b = true then (1 : Int32) else 0) = 1 := by cases b <;> decide
section NEVER
variable {d n m y : Nat} {S : fm_S} {A : Nat → Int32}
theorem pfa {T : fm_S} {a dd mm i : Nat} {h : Int32} (hW : WS A n m) (hR : RS T 1 A n m) (hD : RD T a (ow A) n) (hd : dd < m) (hi : i < n) (hy : A 4 = nI y) (hyb : y < 2000)
    (hs : ∀ x, x < 8 → T.1 57 x = nI (spA A (tn (A (131 + dd))) (wd A y) h mm x)) : f_Cook_pullFromAir T a (nI dd) (nI i) = mvI A dd h mm i := by
  obtain ⟨hn, hm6, h0, h1, hk, -⟩ := hW
  obtain ⟨r0, r7, r1, r2, r3, r4, r5, r6, r7', r8, r9⟩ := hR
  obtain ⟨d0, d1, d2, d3, -⟩ := hD
  have hyt : tn (A 4) = y := by rw [hy]; unfold tn; exact nI_clamp (by omega)
  unfold f_Cook_pullFromAir f_Town_pull f_Days_ahead mvI
  rw [nI_clamp (by omega), nI_clamp (by omega), r1 i (by omega), r3 i (by omega), r7' dd hd, hs i (by omega), d0, d2 i (by omega), d3 i (by omega), ow_0, ow_2, ow_3, hyt]
  exact np_eq (hk i (by omega))
theorem s_xstrength {Q : Int32 → fm_S → Prop} {dd w x : Nat} (c : CX S A n m y) (hd : dd < m) (hw : w < 4) (hx : x < n)
    (W : ∀ S', ex 54 66 S S' → Q (nI (spA A (tn (A (131 + dd))) w (-1) 0 x)) S') :
    am_Ps vI (d + 4) k_Cook_strength [.ref 54, .int (nI dd), .int (nI w), .int (nI x)] S Q := by
  obtain ⟨hW, hR, hD, hy, hyb⟩ := c
  have hn := hW.1
  refine e_Cook_strength (e_Air_fill ?_)
  refine s_fill (mm := 0) hW hR hd hw (by decide) fun T hT hv => ⟨vp_in_nI (by omega) (by decide), ?_⟩
  rw [nI_clamp (by omega), hv x (by omega)]
  exact W T (ex_mono hT (by decide) (by decide))
theorem s_xpullNow {Q : Int32 → fm_S → Prop} {dd x : Nat} (c : CX S A n m y) (hd : dd < m) (hx : x < n)
    (W : ∀ S', ex 54 66 S S' → Q (mvI A dd (-1) 0 x) S') :
    am_Ps vI (d + 4) k_Cook_pullNow [.ref 54, .int (nI dd), .int (nI x)] S Q := by
  obtain ⟨hW, hR, hD, hy, hyb⟩ := c
  have hn := hW.1
  have hm6 := hW.2.1
  refine e_Cook_pullNow ⟨?_, ?_⟩
  · rw [hD.1, ow_0, hy, floor4 y (by omega)]
    exact vp_in_nI (by rw [show fm_ln (1 + 6) = 4 from by decide +kernel]; omega) (by decide +kernel)
  · rw [hD.1, ow_0, hy, windOn_n hW hR (by omega)]
    refine e_Air_fill ?_
    refine s_fill (mm := 0) hW hR hd (wd_lt hW).2 (by decide) fun T hT hv => ⟨vp_in_nI (by omega) (by decide), vp_in_nI (by omega) (by decide), ?_⟩
    rw [pfa hW (RS_fr (fun c h1 h2 => hT.1 c (by omega)) hR) (RD_fr (fun c h1 h2 => hT.1 c (by omega)) hD) hd hx hy (by omega) hv]
    exact W T (ex_mono hT (by decide) (by decide))
/-- the reference: does a dish alone open a street on a day -/
theorem s_mon {Q : Int32 → fm_S → Prop} {dd x z : Nat} (hW : WS (S.1 232) n m) (hd : dd < m) (hx : x < n) (hz : z < 2000)
    (W : ∀ S', ex 238 238 S S' → Q (if pon (S.1 232) dd x z = true then 1 else 0) S') :
    am_Ps vI (d + 3) k_M_opensOn [.ref 231, .int (nI dd), .int (nI x), .int (nI z)] S Q := by
  have hW' := hW
  obtain ⟨hn, hm6, h0, h1, hk, hw9, hl, hg, hwi, hsm, hst, -⟩ := hW'
  obtain ⟨es, ls⟩ := hst dd hd
  obtain ⟨ew, lw⟩ := wd_lt (z := z) hW
  refine e_M_opensOn ?_
  unfold f_M_windOf
  simp (disch := omega) only [lit_add, add_lit, lit_mul, mul_lit, nI_add, nI_clamp, nI_subI, nI_sub1, nI_divL, vp_T, ge_F, ge_T, geL_F, geL_T, leL_F, leL_T, le0_F, le0_T, ge0_T, row_self, row_ne, row_l, row_p, row_row, wI_row, wI_same, wI_cell, wI_place, wI_l, wI_p, lt_T, lt_F, ltL_T, ltL_F, gtL_T, gtL_F, lt0_F, eq_T, eq_F, eqL_T, eqL_F, eqM_F, leM_F, nat_mod, i_10, i_01, i_m1, eq_self_iff_true, rw8_lt, up1_ne, up1_eq, wi_T, ite_self, tg_1, tg_68, tg_124, tg_177, tg_11, tg_17, tg_59, tg_78, tg_84, ln_7, ln_16, ln_233, ln_232, ln_6, true_and, and_true, not_true_eq_false, not_false_eq_true, false_implies, true_implies, implies_true, forall_const, forall_eq, if_true, if_false, false_and, and_false, ew]
  rw [es]
  refine s_ms (mm := 0) hW ls lw (by decide) fun v hv => ?_
  simp (disch := omega) only [lit_add, add_lit, lit_mul, mul_lit, nI_add, nI_clamp, nI_subI, nI_sub1, nI_divL, vp_T, ge_F, ge_T, geL_F, geL_T, leL_F, leL_T, le0_F, le0_T, ge0_T, row_self, row_ne, row_l, row_p, row_row, wI_row, wI_same, wI_cell, wI_place, wI_l, wI_p, lt_T, lt_F, ltL_T, ltL_F, gtL_T, gtL_F, lt0_F, eq_T, eq_F, eqL_T, eqL_F, eqM_F, leM_F, nat_mod, i_10, i_01, i_m1, eq_self_iff_true, rw8_lt, up1_ne, up1_eq, wi_T, ite_self, tg_1, tg_68, tg_124, tg_177, tg_11, tg_17, tg_59, tg_78, tg_84, ln_7, ln_16, ln_233, ln_232, ln_6, true_and, and_true, not_true_eq_false, not_false_eq_true, false_implies, true_implies, implies_true, forall_const, forall_eq, if_true, if_false, false_and, and_false]
  rw [hv x (by omega), ne_if]
  exact ⟨zo _, W _ (ex_row (ex_id S) (by decide) (by decide))⟩
def pin (A : Nat → Int32) (dd y K x : Nat) : Bool := pex (fun k => pon A dd x (y + k)) K
theorem s_moi {Q : Int32 → fm_S → Prop} {dd x K : Nat} (c : MX S n m y) (hd : dd < m) (hx : x < n) (hK : K ≤ 50)
    (W : ∀ S', ex 238 238 S S' → Q (if pin (S.1 232) dd y K x = true then 1 else 0) S') :
    am_Ps vI (d + 4) k_M_opensIn [.ref 231, .int (nI dd), .int (nI x), .int (nI K)] S Q := by
  refine e_M_opensIn ?_
  have key : ∀ k, k ≤ K → ∀ S', ex 238 238 S S' → H_M_opensIn_6 d (nI dd) (nI x) (nI K) (if pex (fun k => pon (S.1 232) dd x (y + k)) k = true then 1 else 0) (nI k) S' Q := by
    refine up_to (fun S' hS => ?_) fun k hk ih S' hS => ?_
    · refine p_M_opensIn_6 ?_
      simp (disch := omega) only [lit_add, add_lit, lit_mul, mul_lit, nI_add, nI_clamp, nI_subI, nI_sub1, nI_divL, vp_T, ge_F, ge_T, geL_F, geL_T, leL_F, leL_T, le0_F, le0_T, ge0_T, row_self, row_ne, row_l, row_p, row_row, wI_row, wI_same, wI_cell, wI_place, wI_l, wI_p, lt_T, lt_F, ltL_T, ltL_F, gtL_T, gtL_F, lt0_F, eq_T, eq_F, eqL_T, eqL_F, eqM_F, leM_F, nat_mod, i_10, i_01, i_m1, eq_self_iff_true, rw8_lt, up1_ne, up1_eq, wi_T, ite_self, tg_1, tg_68, tg_124, tg_177, tg_11, tg_17, tg_59, tg_78, tg_84, ln_7, ln_16, ln_233, ln_232, ln_6, true_and, and_true, not_true_eq_false, not_false_eq_true, false_implies, true_implies, implies_true, forall_const, forall_eq, if_true, if_false, false_and, and_false]
      exact ⟨zo _, W S' hS⟩
    · obtain ⟨hW, hy, hyb⟩ := MX_ex (ex_mono hS (by decide) (by decide)) c
      refine p_M_opensIn_6 ?_
      simp (disch := omega) only [lit_add, add_lit, lit_mul, mul_lit, nI_add, nI_clamp, nI_subI, nI_sub1, nI_divL, vp_T, ge_F, ge_T, geL_F, geL_T, leL_F, leL_T, le0_F, le0_T, ge0_T, row_self, row_ne, row_l, row_p, row_row, wI_row, wI_same, wI_cell, wI_place, wI_l, wI_p, lt_T, lt_F, ltL_T, ltL_F, gtL_T, gtL_F, lt0_F, eq_T, eq_F, eqL_T, eqL_F, eqM_F, leM_F, nat_mod, i_10, i_01, i_m1, eq_self_iff_true, rw8_lt, up1_ne, up1_eq, wi_T, ite_self, tg_1, tg_68, tg_124, tg_177, tg_11, tg_17, tg_59, tg_78, tg_84, ln_7, ln_16, ln_233, ln_232, ln_6, true_and, and_true, not_true_eq_false, not_false_eq_true, false_implies, true_implies, implies_true, forall_const, forall_eq, if_true, if_false, false_and, and_false, hy]
      rw [pex] at ih
      generalize pex (fun k => pon (S.1 232) dd x (y + k)) k = b at ih ⊢
      refine ⟨fun q => ?_, fun q => ?_⟩
      · refine s_mon hW hd hx (by omega) fun S2 hS2 => ?_
        rw [hS.1 232 (by decide)]
        have hb : b = false := by cases b with
          | false => rfl
          | true => exact absurd q (by decide)
        subst hb
        have e := ih S2 (ex_tr hS hS2)
        rw [Bool.false_or] at e
        rw [fl_0']
        exact e
      · have hb : b = true := by cases b with
          | true => rfl
          | false => exact absurd rfl q
        subst hb
        exact ih S' hS
  exact key 0 (by omega) S (ex_id S)
/-- the reference's never -/
def pne (A : Nat → Int32) (y x : Nat) : Nat → Bool
  | 0 => decide (A (29 + x) = -1)
  | e + 1 => pne A y x e && !pin A e y 28 x
theorem yes_if {P : Prop} [Decidable P] : (if P then (1 : Int32) else 0) = if decide P = true then 1 else 0 := by by_cases h : P <;> simp [h]
theorem s_mnever {Q : Int32 → fm_S → Prop} (c : MX S n m y)
    (W : ∀ S', ex 238 242 S S' → Q (bt (fun x => pne (S.1 232) y x m) n) S') :
    am_Ps vI (d + 5) k_M_never [.ref 231] S Q := by
  refine e_M_never ?_
  have hn := c.1.1
  have hm6 := c.1.2.1
  have key : ∀ x, x ≤ n → ∀ S' o3 o4, ex 238 242 S S' → H_M_never_4 d (bt (fun x => pne (S.1 232) y x m) x) (nI x) o3 o4 S' Q := by
    refine up_to (fun S' o3 o4 hS => ?_) fun x hx ih S' o3 o4 hS => ?_
    · have c2 := MX_ex hS c
      refine p_M_never_4 ?_
      simp (disch := omega) only [lit_add, add_lit, lit_mul, mul_lit, nI_add, nI_clamp, nI_subI, nI_sub1, nI_divL, vp_T, ge_F, ge_T, geL_F, geL_T, leL_F, leL_T, le0_F, le0_T, ge0_T, row_self, row_ne, row_l, row_p, row_row, wI_row, wI_same, wI_cell, wI_place, wI_l, wI_p, lt_T, lt_F, ltL_T, ltL_F, gtL_T, gtL_F, lt0_F, eq_T, eq_F, eqL_T, eqL_F, eqM_F, leM_F, nat_mod, i_10, i_01, i_m1, eq_self_iff_true, rw8_lt, up1_ne, up1_eq, wi_T, ite_self, tg_1, tg_68, tg_124, tg_177, tg_11, tg_17, tg_59, tg_78, tg_84, ln_7, ln_16, ln_233, ln_232, ln_6, true_and, and_true, not_true_eq_false, not_false_eq_true, false_implies, true_implies, implies_true, forall_const, forall_eq, if_true, if_false, false_and, and_false, c2.1.2.2.1]
      exact W S' hS
    · have c2 := MX_ex hS c
      refine p_M_never_4 ?_
      simp (disch := omega) only [lit_add, add_lit, lit_mul, mul_lit, nI_add, nI_clamp, nI_subI, nI_sub1, nI_divL, vp_T, ge_F, ge_T, geL_F, geL_T, leL_F, leL_T, le0_F, le0_T, ge0_T, row_self, row_ne, row_l, row_p, row_row, wI_row, wI_same, wI_cell, wI_place, wI_l, wI_p, lt_T, lt_F, ltL_T, ltL_F, gtL_T, gtL_F, lt0_F, eq_T, eq_F, eqL_T, eqL_F, eqM_F, leM_F, nat_mod, i_10, i_01, i_m1, eq_self_iff_true, rw8_lt, up1_ne, up1_eq, wi_T, ite_self, tg_1, tg_68, tg_124, tg_177, tg_11, tg_17, tg_59, tg_78, tg_84, ln_7, ln_16, ln_233, ln_232, ln_6, true_and, and_true, not_true_eq_false, not_false_eq_true, false_implies, true_implies, implies_true, forall_const, forall_eq, if_true, if_false, false_and, and_false, c2.1.2.2.1]
      rw [ex_A hS, yes_if]
      have loop : ∀ e, e ≤ m → ∀ S', ex 238 242 S S' → H_M_never_36 d (bt (fun x => pne (S.1 232) y x m) x) (nI x) (if pne (S.1 232) y x e = true then 1 else 0) (nI e) S' Q := by
        refine up_to (fun S' hS => ?_) fun e he ih2 S' hS => ?_
        · have c2 := MX_ex hS c
          have z := ih S'
          rw [bt] at z
          refine p_M_never_36 ?_
          simp (disch := omega) only [lit_add, add_lit, lit_mul, mul_lit, nI_add, nI_clamp, nI_subI, nI_sub1, nI_divL, vp_T, ge_F, ge_T, geL_F, geL_T, leL_F, leL_T, le0_F, le0_T, ge0_T, row_self, row_ne, row_l, row_p, row_row, wI_row, wI_same, wI_cell, wI_place, wI_l, wI_p, lt_T, lt_F, ltL_T, ltL_F, gtL_T, gtL_F, lt0_F, eq_T, eq_F, eqL_T, eqL_F, eqM_F, leM_F, nat_mod, i_10, i_01, i_m1, eq_self_iff_true, rw8_lt, up1_ne, up1_eq, wi_T, ite_self, tg_1, tg_68, tg_124, tg_177, tg_11, tg_17, tg_59, tg_78, tg_84, ln_7, ln_16, ln_233, ln_232, ln_6, true_and, and_true, not_true_eq_false, not_false_eq_true, false_implies, true_implies, implies_true, forall_const, forall_eq, if_true, if_false, false_and, and_false, c2.1.2.2.2.1]
          rw [fl_2, or_if]
          exact z _ _ hS
        · have c2 := MX_ex hS c
          refine p_M_never_36 ?_
          simp (disch := omega) only [lit_add, add_lit, lit_mul, mul_lit, nI_add, nI_clamp, nI_subI, nI_sub1, nI_divL, vp_T, ge_F, ge_T, geL_F, geL_T, leL_F, leL_T, le0_F, le0_T, ge0_T, row_self, row_ne, row_l, row_p, row_row, wI_row, wI_same, wI_cell, wI_place, wI_l, wI_p, lt_T, lt_F, ltL_T, ltL_F, gtL_T, gtL_F, lt0_F, eq_T, eq_F, eqL_T, eqL_F, eqM_F, leM_F, nat_mod, i_10, i_01, i_m1, eq_self_iff_true, rw8_lt, up1_ne, up1_eq, wi_T, ite_self, tg_1, tg_68, tg_124, tg_177, tg_11, tg_17, tg_59, tg_78, tg_84, ln_7, ln_16, ln_233, ln_232, ln_6, true_and, and_true, not_true_eq_false, not_false_eq_true, false_implies, true_implies, implies_true, forall_const, forall_eq, if_true, if_false, false_and, and_false, c2.1.2.2.2.1]
          rw [pne] at ih2
          generalize pne (S.1 232) y x e = b at ih2 ⊢
          refine ⟨fun q => ?_, fun q => ?_⟩
          · have hb : b = false := by cases b with
              | false => rfl
              | true => exact absurd q (by decide)
            subst hb
            exact ih2 S' hS
          · have hb : b = true := by cases b with
              | true => rfl
              | false => exact absurd rfl q
            subst hb
            refine s_moi c2 he hx (by decide) fun S2 hS2 => ?_
            rw [ex_A hS]
            have z := ih2 S2 (ex_tr hS (ex_mono hS2 (by decide) (by decide)))
            rw [Bool.true_and] at z
            generalize pin (S.1 232) e y 28 x = b2 at z ⊢
            cases b2 <;> exact z
      exact loop 0 (by omega) S' hS
  exact key 0 (by omega) S none none (ex_id S)
/-- the class: what a dish alone opens on a day -/
theorem xo_alone {T : fm_S} {dd z : Nat} (hW : WS A n m) (hR : RS T 1 A n m) (hd : dd < m) (hz : z < 2000) (hs : ∀ x, x < 8 → T.1 57 x = nI (spA A (tn (A (131 + dd))) (wd A z) (-1) 0 x)) :
    ∀ i, i ≤ n → n_Cook_openedAloneOn T (nI dd) (nI z) i = bt (fun x => pon A dd x z) i
  | 0, _ => rfl
  | i + 1, hi => by
    have ih := xo_alone hW hR hd hz hs i (by omega)
    obtain ⟨hn, hm6, h0, h1, hk, -⟩ := hW
    obtain ⟨r0, r7, r1, r2, r3, r4, r5, r6, r7', r8, r9⟩ := hR
    have e2 : f_Town_pull T 1 (nI i) (nI dd) (T.1 57 (nI i).toNatClampNeg) (nI z) 0 = f_M_movedBy (A (5 + i)) (A (21 + i)) (A (125 + dd)) (nI (spA A (tn (A (131 + dd))) (wd A z) (-1) 0 i)) (nI z) 0 := by
      unfold f_Town_pull
      rw [nI_clamp (by omega), nI_clamp (by omega), r1 i (by omega), r3 i (by omega), r7' dd hd, hs i (by omega)]
      exact np_eq (hk i (by omega))
    rw [n_Cook_openedAloneOn, bt, ih, e2]
    unfold pon
    by_cases q2 : f_M_movedBy (A (5 + i)) (A (21 + i)) (A (125 + dd)) (nI (spA A (tn (A (131 + dd))) (wd A z) (-1) 0 i)) (nI z) 0 < 10
    · rw [if_pos q2, if_neg (by simp [q2])]
    · rw [if_neg q2, if_pos (by simp [q2])]
/-- what has been looked at: firsts below f, and of f the days below k -/
def psn (A : Nat → Int32) (dd y K f k x : Nat) : Bool := pex (fun j => (decide (j % 4 < f) || (decide (j % 4 = f) && decide (j < k))) && pon A dd x (y + j)) K
theorem psn_0 {A : Nat → Int32} {dd y K x : Nat} : psn A dd y K 0 0 x = false := by
  rcases h : psn A dd y K 0 0 x with _ | _
  · rfl
  · obtain ⟨j, h1, h2⟩ := pex_iff.mp h
    simp at h2
theorem psn_e {A : Nat → Int32} {dd y K x : Nat} : psn A dd y K 4 4 x = pin A dd y K x := by
  refine pex_cong fun k hk => ?_
  rw [decide_eq_true (show k % 4 < 4 by omega)]
  simp
theorem psn_n {A : Nat → Int32} {dd y K f k x : Nat} (hk : K ≤ k) : psn A dd y K f k x = psn A dd y K (f + 1) (f + 1) x := by
  refine pex_cong fun j hj => ?_
  congr 1
  rw [Bool.eq_iff_iff]
  simp only [Bool.or_eq_true, Bool.and_eq_true, decide_eq_true_eq]
  omega
theorem psn_s {A : Nat → Int32} {dd y K f k x : Nat} (hk : k < K) (hf : k % 4 = f) : (psn A dd y K f k x || pon A dd x (y + k)) = psn A dd y K f (k + 4) x := by
  rw [Bool.eq_iff_iff, Bool.or_eq_true]
  unfold psn
  rw [pex_iff, pex_iff]
  simp only [Bool.or_eq_true, Bool.and_eq_true, decide_eq_true_eq]
  constructor
  · rintro (⟨j, h1, h2, h3⟩ | h)
    · exact ⟨j, h1, by omega, h3⟩
    · exact ⟨k, hk, by omega, h⟩
  · rintro ⟨j, h1, h2, h3⟩
    by_cases e : j = k
    · subst e; exact Or.inr h3
    · exact Or.inl ⟨j, h1, by omega, h3⟩
theorem s_xalone {Q : Int32 → fm_S → Prop} {dd K : Nat} (c : CX S A n m y) (hd : dd < m) (hK : K ≤ 50)
    (W : ∀ S', ex 57 58 S S' → Q (bt (fun x => pin A dd y K x) n) S') :
    am_Ps vI (d + 4) k_Cook_openedAlone [.ref 54, .int (nI dd), .int (nI K)] S Q := by
  refine e_Cook_openedAlone ?_
  have hn := c.1.1
  have hm6 := c.1.2.1
  have hyb := c.2.2.2.2
  have key : ∀ f, f ≤ 4 → ∀ S' o5, ex 57 58 S S' → H_Cook_openedAlone_5 d (nI dd) (nI K) (bt (fun x => psn A dd y K f f x) n) (nI f) o5 S' Q := by
    refine up_to (fun S' o5 hS => ?_) fun f hf ih S' o5 hS => ?_
    · refine p_Cook_openedAlone_5 ?_
      simp (disch := omega) only [lit_add, add_lit, lit_mul, mul_lit, nI_add, nI_clamp, nI_subI, nI_sub1, nI_divL, vp_T, ge_F, ge_T, geL_F, geL_T, leL_F, leL_T, le0_F, le0_T, ge0_T, row_self, row_ne, row_l, row_p, row_row, wI_row, wI_same, wI_cell, wI_place, wI_l, wI_p, lt_T, lt_F, ltL_T, ltL_F, gtL_T, gtL_F, lt0_F, eq_T, eq_F, eqL_T, eqL_F, eqM_F, leM_F, nat_mod, i_10, i_01, i_m1, eq_self_iff_true, rw8_lt, up1_ne, up1_eq, wi_T, ite_self, tg_1, tg_68, tg_124, tg_177, tg_11, tg_17, tg_59, tg_78, tg_84, ln_7, ln_16, ln_233, ln_232, ln_6, true_and, and_true, not_true_eq_false, not_false_eq_true, false_implies, true_implies, implies_true, forall_const, forall_eq, if_true, if_false, false_and, and_false, psn_e]
      exact W S' hS
    · have c2 := CX_ex (ex_mono hS (by decide) (by decide)) c
      have hD0 : S'.1 17 0 = nI y := by rw [c2.2.2.1.1, ow_0, c2.2.2.2.1]
      refine p_Cook_openedAlone_5 ?_
      simp (disch := omega) only [lit_add, add_lit, lit_mul, mul_lit, nI_add, nI_clamp, nI_subI, nI_sub1, nI_divL, vp_T, ge_F, ge_T, geL_F, geL_T, leL_F, leL_T, le0_F, le0_T, ge0_T, row_self, row_ne, row_l, row_p, row_row, wI_row, wI_same, wI_cell, wI_place, wI_l, wI_p, lt_T, lt_F, ltL_T, ltL_F, gtL_T, gtL_F, lt0_F, eq_T, eq_F, eqL_T, eqL_F, eqM_F, leM_F, nat_mod, i_10, i_01, i_m1, eq_self_iff_true, rw8_lt, up1_ne, up1_eq, wi_T, ite_self, tg_1, tg_68, tg_124, tg_177, tg_11, tg_17, tg_59, tg_78, tg_84, ln_7, ln_16, ln_233, ln_232, ln_6, true_and, and_true, not_true_eq_false, not_false_eq_true, false_implies, true_implies, implies_true, forall_const, forall_eq, if_true, if_false, false_and, and_false, hD0, floor4, windOn_n c2.1 c2.2.1]
      refine e_Air_fill ?_
      refine s_fill (mm := 0) c2.1 c2.2.1 hd (wd_lt c2.1).2 (by decide) fun T hT hv => ?_
      have c3 := CX_ex (ex_mono (ex_tr hS hT) (by decide) (by decide)) c
      have hD3 : T.1 17 0 = nI y := by rw [c3.2.2.1.1, ow_0, c3.2.2.2.1]
      have loop : ∀ i j k, k = f + 4 * j → i + j = 20 → H_Cook_openedAlone_47 d (nI dd) (nI K) (bt (fun x => psn A dd y K f k x) n) (nI f) (nI k) T Q := by
        intro i
        induction i with
        | zero =>
          intro j k hk hij
          refine p_Cook_openedAlone_47 ?_
          simp (disch := omega) only [lit_add, add_lit, lit_mul, mul_lit, nI_add, nI_clamp, nI_subI, nI_sub1, nI_divL, vp_T, ge_F, ge_T, geL_F, geL_T, leL_F, leL_T, le0_F, le0_T, ge0_T, row_self, row_ne, row_l, row_p, row_row, wI_row, wI_same, wI_cell, wI_place, wI_l, wI_p, lt_T, lt_F, ltL_T, ltL_F, gtL_T, gtL_F, lt0_F, eq_T, eq_F, eqL_T, eqL_F, eqM_F, leM_F, nat_mod, i_10, i_01, i_m1, eq_self_iff_true, rw8_lt, up1_ne, up1_eq, wi_T, ite_self, tg_1, tg_68, tg_124, tg_177, tg_11, tg_17, tg_59, tg_78, tg_84, ln_7, ln_16, ln_233, ln_232, ln_6, true_and, and_true, not_true_eq_false, not_false_eq_true, false_implies, true_implies, implies_true, forall_const, forall_eq, if_true, if_false, false_and, and_false]
          have z := ih T (some (.int (nI k))) (ex_tr hS hT)
          rw [bt_cong (q := fun x => psn A dd y K f k x) fun x _ => (psn_n (by omega)).symm] at z
          exact z
        | succ i ih3 =>
          intro j k hk hij
          by_cases q : K ≤ k
          · refine p_Cook_openedAlone_47 ?_
            simp (disch := omega) only [lit_add, add_lit, lit_mul, mul_lit, nI_add, nI_clamp, nI_subI, nI_sub1, nI_divL, vp_T, ge_F, ge_T, geL_F, geL_T, leL_F, leL_T, le0_F, le0_T, ge0_T, row_self, row_ne, row_l, row_p, row_row, wI_row, wI_same, wI_cell, wI_place, wI_l, wI_p, lt_T, lt_F, ltL_T, ltL_F, gtL_T, gtL_F, lt0_F, eq_T, eq_F, eqL_T, eqL_F, eqM_F, leM_F, nat_mod, i_10, i_01, i_m1, eq_self_iff_true, rw8_lt, up1_ne, up1_eq, wi_T, ite_self, tg_1, tg_68, tg_124, tg_177, tg_11, tg_17, tg_59, tg_78, tg_84, ln_7, ln_16, ln_233, ln_232, ln_6, true_and, and_true, not_true_eq_false, not_false_eq_true, false_implies, true_implies, implies_true, forall_const, forall_eq, if_true, if_false, false_and, and_false]
            have z := ih T (some (.int (nI k))) (ex_tr hS hT)
            rw [bt_cong (q := fun x => psn A dd y K f k x) fun x _ => (psn_n (by omega)).symm] at z
            exact z
          · have b := xo_alone c3.1 c3.2.1 (z := y + k) hd (by omega) (fun x hx => by rw [hv x hx, wd_mod (z := y + k) (z' := y + f) (by omega)]) n (Nat.le_refl n)
            refine p_Cook_openedAlone_47 ?_
            simp (disch := omega) only [lit_add, add_lit, lit_mul, mul_lit, nI_add, nI_clamp, nI_subI, nI_sub1, nI_divL, vp_T, ge_F, ge_T, geL_F, geL_T, leL_F, leL_T, le0_F, le0_T, ge0_T, row_self, row_ne, row_l, row_p, row_row, wI_row, wI_same, wI_cell, wI_place, wI_l, wI_p, lt_T, lt_F, ltL_T, ltL_F, gtL_T, gtL_F, lt0_F, eq_T, eq_F, eqL_T, eqL_F, eqM_F, leM_F, nat_mod, i_10, i_01, i_m1, eq_self_iff_true, rw8_lt, up1_ne, up1_eq, wi_T, ite_self, tg_1, tg_68, tg_124, tg_177, tg_11, tg_17, tg_59, tg_78, tg_84, ln_7, ln_16, ln_233, ln_232, ln_6, true_and, and_true, not_true_eq_false, not_false_eq_true, false_implies, true_implies, implies_true, forall_const, forall_eq, if_true, if_false, false_and, and_false, hD3, c3.2.1.1, b, bt_or]
            have z := ih3 (j + 1) (k + 4) (by omega) (by omega)
            rw [bt_cong (q := fun x => psn A dd y K f k x || pon A dd x (y + k)) fun x _ => (psn_s (by omega) (by omega)).symm] at z
            exact z
      exact loop 20 0 f rfl rfl
  have z := key 0 (by omega) S none (ex_id S)
  rw [bt_cong (q := fun _ => false) fun x _ => psn_0, bt_none] at z
  exact z
theorem shut_bt {a : Nat} (hD : RD S a (ow A) n) (hn : n ≤ 8) : ∀ i, i ≤ n → n_shut S a i = bt (fun x => decide (A (29 + x) = -1)) i
  | 0, _ => rfl
  | i + 1, hi => by
    rw [n_shut, bt, shut_bt hD hn i (by omega)]
    unfold f_Days_isShut
    rw [nI_clamp (by omega), hD.2.1 i (by omega), ow_1]
    by_cases q : A (29 + i) = -1
    · simp [q]
    · simp [q]
theorem s_xnever {Q : Int32 → fm_S → Prop} (c : CX S A n m y)
    (W : ∀ S', ex 54 66 S S' → Q (bt (fun x => pne A y x m) n) S') :
    am_Ps vI (d + 5) k_Cook_neverOpened [.ref 54] S Q := by
  have hn := c.1.1
  have hm6 := c.1.2.1
  refine e_Cook_neverOpened ?_
  rw [show S.1 1 0 = nI n from c.2.1.1, show (nI n).toNatClampNeg = n from nI_clamp (by omega), show (1 + 16 : Nat) = 17 from rfl, shut_bt c.2.2.1 hn n (Nat.le_refl n)]
  refine ⟨vp_in_nI (by omega) (by decide), ?_⟩
  have key : ∀ e, e ≤ m → ∀ S', ex 54 66 S S' → H_Cook_neverOpened_10 d (bt (fun x => pne A y x e) n) (nI e) S' Q := by
    refine up_to (fun S' hS => ?_) fun e he ih S' hS => ?_
    · have c2 := CX_ex hS c
      refine p_Cook_neverOpened_10 ?_
      simp (disch := omega) only [lit_add, add_lit, lit_mul, mul_lit, nI_add, nI_clamp, nI_subI, nI_sub1, nI_divL, vp_T, ge_F, ge_T, geL_F, geL_T, leL_F, leL_T, le0_F, le0_T, ge0_T, row_self, row_ne, row_l, row_p, row_row, wI_row, wI_same, wI_cell, wI_place, wI_l, wI_p, lt_T, lt_F, ltL_T, ltL_F, gtL_T, gtL_F, lt0_F, eq_T, eq_F, eqL_T, eqL_F, eqM_F, leM_F, nat_mod, i_10, i_01, i_m1, eq_self_iff_true, rw8_lt, up1_ne, up1_eq, wi_T, ite_self, tg_1, tg_68, tg_124, tg_177, tg_11, tg_17, tg_59, tg_78, tg_84, ln_7, ln_16, ln_233, ln_232, ln_6, true_and, and_true, not_true_eq_false, not_false_eq_true, false_implies, true_implies, implies_true, forall_const, forall_eq, if_true, if_false, false_and, and_false, show S'.1 1 7 = nI m from c2.2.1.2.1]
      exact W S' hS
    · have c2 := CX_ex hS c
      refine p_Cook_neverOpened_10 ?_
      simp (disch := omega) only [lit_add, add_lit, lit_mul, mul_lit, nI_add, nI_clamp, nI_subI, nI_sub1, nI_divL, vp_T, ge_F, ge_T, geL_F, geL_T, leL_F, leL_T, le0_F, le0_T, ge0_T, row_self, row_ne, row_l, row_p, row_row, wI_row, wI_same, wI_cell, wI_place, wI_l, wI_p, lt_T, lt_F, ltL_T, ltL_F, gtL_T, gtL_F, lt0_F, eq_T, eq_F, eqL_T, eqL_F, eqM_F, leM_F, nat_mod, i_10, i_01, i_m1, eq_self_iff_true, rw8_lt, up1_ne, up1_eq, wi_T, ite_self, tg_1, tg_68, tg_124, tg_177, tg_11, tg_17, tg_59, tg_78, tg_84, ln_7, ln_16, ln_233, ln_232, ln_6, true_and, and_true, not_true_eq_false, not_false_eq_true, false_implies, true_implies, implies_true, forall_const, forall_eq, if_true, if_false, false_and, and_false, show S'.1 1 7 = nI m from c2.2.1.2.1]
      refine s_xalone c2 he (by decide) fun T hT => ?_
      rw [bt_not (by omega)]
      exact ih T (ex_tr hS (ex_mono hT (by decide) (by decide)))
  exact key 0 (by omega) S (ex_id S)
end NEVER
