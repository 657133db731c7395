/-! days on end with a dish each: what one street sees -/
def stE (A B : Nat → Int32) : Prop := ∀ j, j ≠ 4 → (j < 29 ∨ 53 ≤ j) → B j = A j
theorem stE_id (A : Nat → Int32) : stE A A := fun _ _ _ => rfl
theorem stE_gd {A B : Nat → Int32} {p sm : Nat → Bool} {s : Int32} {n : Nat} (hn : n ≤ 8) (h : stE A B) : stE A (gdA B p sm s n) := fun j h1 h2 => by
  rw [gd_end h1, gdi_o hn (by omega)]
  exact h j h1 h2
theorem sn_r_cong {L L' : Nat → Nat → Bool} {C C' : Nat → Nat} {V : Nat → Nat} (hL : ∀ k, k < 64 → L (k / 8) (k % 8) = L' (k / 8) (k % 8)) (hC : ∀ b, b < 8 → C b = C' b) : ∀ k, k ≤ 64 → sn_r L C V k = sn_r L' C' V k
  | 0, _ => rfl
  | k + 1, hk => by
    rw [sn_r, sn_r, sn_r_cong hL hC k (by omega)]
    unfold sn_s sn_c
    rw [hL k (by omega), hC (k % 8) (by omega)]
theorem sn_n_cong {L L' : Nat → Nat → Bool} {C C' : Nat → Nat} {V : Nat → Nat} (hL : ∀ k, k < 64 → L (k / 8) (k % 8) = L' (k / 8) (k % 8)) (hC : ∀ b, b < 8 → C b = C' b) : ∀ n, sn_n L C V n = sn_n L' C' V n
  | 0 => rfl
  | n + 1 => by rw [sn_n, sn_n, sn_n_cong hL hC n, sn_r_cong hL hC 64 (Nat.le_refl _)]
theorem spA_st {A B : Nat → Int32} {so w mm n m : Nat} {h : Int32} (hW : WS A n m) (hw : w < 4) (hE : stE A B) : spA B so w h mm = spA A so w h mm := by
  unfold spA
  rw [hE (117 + w) (by omega) (by omega), hE 0 (by omega) (by omega)]
  split
  · have hg := (hW.2.2.2.2.2.2.2.1 w hw).2
    rw [sn_n_cong (L := sL B) (L' := sL A) (C := sC B h mm) (C' := sC A h mm) (fun k hk => by rw [sL_k, sL_k, hE (53 + k) (by omega) (by omega)]) (fun b hb => by unfold sC; rw [hE (13 + b) (by omega) (by omega)])]
    congr 1
    unfold s0
    rw [hE (13 + tn (A (117 + w))) (by omega) (by omega)]
  · rfl
theorem wd_st {A B : Nat → Int32} {z : Nat} (hE : stE A B) : wd B z = wd A z := by
  unfold wd
  rw [hE (121 + z % 4) (by omega) (by omega)]
theorem WS_st {A B : Nat → Int32} {n m : Nat} (hE : stE A B) (hW : WS A n m) : WS B n m := by
  obtain ⟨hn, hm6, h0, h1, hk, hw9, hl, hg, hwi, hsm, hst, hbu⟩ := hW
  refine ⟨hn, hm6, by rw [hE 0 (by omega) (by omega)]; exact h0, by rw [hE 1 (by omega) (by omega)]; exact h1, fun k h => ?_, fun k h => ?_, fun k h => ?_, fun k h => ?_, fun k h => ?_, fun k h => ?_, fun k h => ?_, fun k h => ?_⟩
  · rw [hE (5 + k) (by omega) (by omega)]; exact hk k h
  · rw [hE (13 + k) (by omega) (by omega)]; exact hw9 k h
  · rw [hE (53 + k) (by omega) (by omega)]; exact hl k h
  · rw [hE (117 + k) (by omega) (by omega)]; exact hg k h
  · rw [hE (121 + k) (by omega) (by omega)]; exact hwi k h
  · rw [hE (125 + k) (by omega) (by omega)]; exact hsm k h
  · rw [hE (131 + k) (by omega) (by omega)]; exact hst k h
  · rw [hE (137 + k) (by omega) (by omega)]; exact hbu k h
theorem RS_st {S : fm_S} {t n m : Nat} {A B : Nat → Int32} (hn : n ≤ 8) (hm : m ≤ 6) (hE : stE A B) (hR : RS S t A n m) : RS S t B n m := by
  obtain ⟨r0, r7, r1, r2, r3, r4, r5, r6, r7', r8, r9⟩ := hR
  refine ⟨r0, r7, fun k h => ?_, fun k h => ?_, fun k h => ?_, fun a b h h' => ?_, fun k h => ?_, fun k h => ?_, fun k h => ?_, fun k h => ?_, fun k h => ?_⟩
  · rw [hE (5 + k) (by omega) (by omega)]; exact r1 k h
  · rw [hE (13 + k) (by omega) (by omega)]; exact r2 k h
  · rw [hE (21 + k) (by omega) (by omega)]; exact r3 k h
  · rw [hE _ (by omega) (by omega)]; exact r4 a b h h'
  · rw [hE (117 + k) (by omega) (by omega)]; exact r5 k h
  · rw [hE (121 + k) (by omega) (by omega)]; exact r6 k h
  · rw [hE (125 + k) (by omega) (by omega)]; exact r7' k h
  · rw [hE (131 + k) (by omega) (by omega)]; exact r8 k h
  · rw [hE (137 + k) (by omega) (by omega)]; exact r9 k h
/-- how strong dish e stands in street x, k days from day y -/
def sv (A : Nat → Int32) (y e x k : Nat) : Nat := spA A (tn (A (131 + e))) (wd A (y + k)) (-1) 0 x
/-- the array behind k days, dish D j on day j -/
def sqA (A : Nat → Int32) (n : Nat) (D : Nat → Nat) : Nat → Nat → Int32
  | 0 => A
  | k + 1 => dayA (sqA A n D k) n (D k)
def ssm (A : Nat → Int32) (y x : Nat) (D : Nat → Nat) : Nat → Int32 × Int32
  | 0 => (A (37 + x), A (45 + x))
  | k + 1 => if 0 < sv A y (D k) x k then (A (125 + D k), if (ssm A y x D k).1 = A (125 + D k) then (ssm A y x D k).2 + 1 else 1) else (-1, 0)
def spu (A : Nat → Int32) (y x : Nat) (D : Nat → Nat) (k : Nat) : Int32 :=
  f_M_movedBy (A (5 + x)) (A (21 + x)) (A (125 + D k)) (nI (sv A y (D k) x k)) (nI (y + k)) (if (ssm A y x D k).1 = A (125 + D k) then (ssm A y x D k).2 else 0)
def sop (A : Nat → Int32) (y x : Nat) (D : Nat → Nat) (k : Nat) : Bool := decide (¬ spu A y x D k < 10)
section SEQ
variable {d n m y : Nat} {S : fm_S} {A : Nat → Int32} {D : Nat → Nat}
theorem sqA_st (hn : n ≤ 8) : ∀ k, stE A (sqA A n D k)
  | 0 => stE_id A
  | k + 1 => stE_gd hn (sqA_st hn k)
theorem sqA_4 (hy : A 4 = nI y) : ∀ k, sqA A n D k 4 = nI (y + k)
  | 0 => hy
  | k + 1 => by
    rw [sqA]
    unfold dayA gdA
    rw [up1_eq, sqA_4 hy k, nI_s]; rfl
theorem sqA_x (hW : WS A n m) (hy : A 4 = nI y) {x K : Nat} (hx : x < n) (hyb : y + K < 2000) (hD : ∀ k, k < K → D k < m) : ∀ k, k ≤ K →
    sqA A n D k (37 + x) = (ssm A y x D k).1 ∧ sqA A n D k (45 + x) = (ssm A y x D k).2 ∧
    (A (29 + x) = -1 → (sqA A n D k (29 + x) = -1 ↔ pex (sop A y x D) k = false))
  | 0, _ => ⟨rfl, rfl, fun h => ⟨fun _ => rfl, fun _ => h⟩⟩
  | k + 1, hk => by
    have hn := hW.1
    have hm6 := hW.2.1
    obtain ⟨i1, i2, i3⟩ := sqA_x hW hy hx hyb hD k (by omega)
    have hE := sqA_st (A := A) (D := D) hn k
    have h4 := sqA_4 (n := n) (D := D) hy k
    have hDk := hD k (by omega)
    have ht : tn (sqA A n D k 4) = y + k := by rw [h4]; unfold tn; exact nI_clamp (by omega)
    have hv : spA (sqA A n D k) (tn (sqA A n D k (131 + D k))) (wd (sqA A n D k) (tn (sqA A n D k 4))) (-1) 0 x = sv A y (D k) x k := by
      rw [ht, wd_st hE, hE (131 + D k) (by omega) (by omega), spA_st hW (wd_lt hW).2 hE]; rfl
    have hsm : smA (sqA A n D k) (D k) x = decide (0 < sv A y (D k) x k) := by unfold smA; rw [hv]
    have hmv : mvI (sqA A n D k) (D k) (-1) 0 x = spu A y x D k := by
      unfold mvI spu
      rw [hv, hE (5 + x) (by omega) (by omega), hE (21 + x) (by omega) (by omega), hE (125 + D k) (by omega) (by omega), h4, i1, i2]
    refine ⟨?_, ?_, fun ho => ?_⟩
    · rw [sqA, ssm]
      unfold dayA
      rw [gd_end (by omega)]
      unfold gdi
      rw [if_neg (by omega), if_pos (by omega), show 37 + x - 37 = x by omega, hsm, hE (125 + D k) (by omega) (by omega)]
      by_cases q : 0 < sv A y (D k) x k
      · simp only [q, decide_true, if_true]
      · simp only [q, decide_false, if_false, Bool.false_eq_true]
    · rw [sqA, ssm]
      unfold dayA
      rw [gd_end (by omega)]
      unfold gdi
      rw [if_neg (by omega), if_neg (by omega), if_pos (by omega), show 45 + x - 45 = x by omega, show 45 + x - 8 = 37 + x by omega, hsm, hE (125 + D k) (by omega) (by omega), i1, i2]
      by_cases q : 0 < sv A y (D k) x k
      · simp only [q, decide_true, if_true]
      · simp only [q, decide_false, if_false, Bool.false_eq_true]
    · have i3 := i3 ho
      rw [sqA, pex]
      unfold dayA
      rw [gd_end (by omega)]
      unfold gdi
      rw [if_pos (by omega), show 29 + x - 29 = x by omega]
      unfold po
      rw [hmv, h4]
      unfold sop at i3 ⊢
      by_cases q : pex (fun k => decide (¬ spu A y x D k < 10)) k = false
      · have e := i3.mpr q
        rw [e, q, Bool.false_or]
        by_cases q2 : spu A y x D k < 10
        · simp [q2]
        · simp only [q2, not_false_eq_true, decide_true, and_self, if_true, Bool.true_eq_false, iff_false]
          rw [eqM_F (by omega)]
          exact id
      · have e : ¬ sqA A n D k (29 + x) = -1 := fun z => q (i3.mp z)
        have q' : pex (fun k => decide (¬ spu A y x D k < 10)) k = true := by
          cases h : pex (fun k => decide (¬ spu A y x D k < 10)) k with
          | false => exact absurd h q
          | true => rfl
        rw [q', Bool.true_or]
        simp [e]
/-! the reference saves and restores -/
theorem m_sv {S : fm_S} : (∀ i, i < 25 → (g_past S 232 239 0 0).1 239 i = S.1 232 (m_ow i)) ∧ (∀ c, c ≠ 239 → (g_past S 232 239 0 0).1 c = S.1 c) ∧ (g_past S 232 239 0 0).2.1 = S.2.1 ∧ (g_past S 232 239 0 0).2.2 = S.2.2 := by
  refine ⟨fun i hi => ?_, fun c hc => ?_, rfl, rfl⟩
  · show (if (239 : Nat) = 239 ∧ 0 ≤ i ∧ i < 0 + 25 then S.1 232 (m_ow (i - 0)) else S.1 239 i) = _
    rw [if_pos (by omega)]; rfl
  · funext i
    show (if c = 239 ∧ 0 ≤ i ∧ i < 0 + 25 then S.1 232 (m_ow (i - 0)) else S.1 c i) = _
    rw [if_neg (by omega)]
theorem m_rs {S : fm_S} (hE : stE A (S.1 232)) (hs : ∀ i, i < 25 → S.1 239 i = A (m_ow i)) : (g_past S 239 232 0 1).1 232 = A ∧ (∀ c, c ≠ 232 → (g_past S 239 232 0 1).1 c = S.1 c) ∧ (g_past S 239 232 0 1).2.1 = S.2.1 ∧ (g_past S 239 232 0 1).2.2 = S.2.2 := by
  refine ⟨funext fun i => ?_, fun c hc => funext fun i => ?_, rfl, rfl⟩
  · show (if (232 : Nat) = 232 ∧ i = 4 ∧ 0 < 25 then S.1 239 0 else if (232 : Nat) = 232 ∧ 29 ≤ i ∧ i < 28 + 25 then S.1 239 (0 + (i - 28)) else S.1 232 i) = _
    by_cases e : i = 4
    · subst e
      rw [if_pos (by omega), hs 0 (by omega)]; rfl
    · rw [if_neg (by omega)]
      by_cases e2 : 29 ≤ i ∧ i < 53
      · rw [if_pos (by omega), hs _ (by omega)]
        unfold m_ow
        rw [if_neg (by omega), show 28 + (0 + (i - 28)) = i by omega]
      · rw [if_neg (by omega)]
        exact hE i e (by omega)
  · show (if c = 232 ∧ i = 4 ∧ 0 < 25 then S.1 239 0 else if c = 232 ∧ 29 ≤ i ∧ i < 28 + 25 then S.1 239 (0 + (i - 28)) else S.1 c i) = _
    rw [if_neg (by omega), if_neg (by omega)]
/-- between: the days go on -/
def frM (S S' : fm_S) : Prop := (∀ c, c ≠ 232 → (c < 238 ∨ 239 < c) → S'.1 c = S.1 c) ∧ (∀ i, i < 25 → S'.1 239 i = S.1 232 (m_ow i)) ∧ S'.2.1 = S.2.1 ∧ S'.2.2 = S.2.2
theorem frM_0 : frM S (g_past S 232 239 0 0) := ⟨fun c _ h2 => m_sv.2.1 c (by omega), m_sv.1, m_sv.2.2.1, m_sv.2.2.2⟩
theorem frM_e {S' : fm_S} (h : frM S S') (hE : stE (S.1 232) (S'.1 232)) : ex 238 239 S (g_past S' 239 232 0 1) := by
  have z := m_rs hE h.2.1
  refine ⟨fun c hc => ?_, z.2.2.1.trans h.2.2.1, z.2.2.2.trans h.2.2.2⟩
  by_cases e : c = 232
  · subst e; exact z.1
  · rw [z.2.1 c e]; exact h.1 c e hc
theorem frM_d {S' : fm_S} {v B : Nat → Int32} (h : frM S S') : frM S (fm_row (fm_row S' 238 v) 232 B) :=
  ⟨fun c h1 h2 => by rw [show (fm_row (fm_row S' 238 v) 232 B).1 c = S'.1 c from funext fun j => by rw [row_ne h1, row_ne (by omega)]]; exact h.1 c h1 h2, fun i hi => by rw [row_ne (by omega), row_ne (by omega)]; exact h.2.1 i hi, h.2.2⟩
theorem frM_c {S' : fm_S} {B : Nat → Int32} (h : frM S S') : frM S (fm_row S' 232 B) :=
  ⟨fun c h1 h2 => by rw [show (fm_row S' 232 B).1 c = S'.1 c from funext fun j => by rw [row_ne h1]]; exact h.1 c h1 h2, fun i hi => by rw [row_ne (by omega)]; exact h.2.1 i hi, h.2.2⟩
/-! falls -/
def ffl (A : Nat → Int32) (y x : Nat) (D : Nat → Nat) : Nat → Nat → Int32
  | 0, _ => -1
  | f + 1, k => if sop A y x D k = true then nI (k + 1) else ffl A y x D f (k + 1)
def faA (A : Nat → Int32) (y dd x : Nat) : Int32 := if A (29 + x) = -1 then ffl A y x (fun _ => dd) 30 0 else 0
theorem s_mfalls {Q : Int32 → fm_S → Prop} {dd x : Nat} (c : MX S n m y) (hd : dd < m) (hx : x < n)
    (W : ∀ S', ex 238 242 S S' → Q (faA (S.1 232) y dd x) S') :
    H_M_falls_36 d (nI dd) (nI x) 0 (g_past S 232 239 0 0) Q := by
  obtain ⟨hW, hy, hyb⟩ := c
  have hn := hW.1
  by_cases ho : S.1 232 (29 + x) = -1
  · have key : ∀ f k, f + k = 31 → pex (sop (S.1 232) y x fun _ => dd) k = false → faA (S.1 232) y dd x = ffl (S.1 232) y x (fun _ => dd) (f - 1) k → ∀ S', frM S S' → S'.1 232 = sqA (S.1 232) n (fun _ => dd) k → H_M_falls_36 d (nI dd) (nI x) (nI k) S' Q := by
      intro f
      induction f with
      | zero =>
        intro k hk hp hF S' hS hA
        have hE : stE (S.1 232) (S'.1 232) := by rw [hA]; exact sqA_st hn k
        refine p_M_falls_36 ?_
        simp (disch := omega) only [lit_add, add_lit, lit_mul, mul_lit, nI_add, nI_clamp, nI_subI, nI_sub1, nI_divL, vp_T, ge_F, ge_T, geL_F, geL_T, leL_F, leL_T, le0_F, le0_T, ge0_T, row_self, row_ne, row_l, row_p, row_row, wI_row, wI_same, wI_cell, wI_place, wI_l, wI_p, lt_T, lt_F, ltL_T, ltL_F, gtL_T, gtL_F, lt0_F, eq_T, eq_F, eqL_T, eqL_F, eqM_F, leM_F, nat_mod, i_10, i_01, i_m1, eq_self_iff_true, rw8_lt, up1_ne, up1_eq, wi_T, ite_self, tg_1, tg_68, tg_124, tg_177, tg_11, tg_17, tg_59, tg_78, tg_84, ln_7, ln_16, ln_233, ln_232, ln_6, true_and, and_true, not_true_eq_false, not_false_eq_true, false_implies, true_implies, implies_true, forall_const, forall_eq, if_true, if_false, false_and, and_false]
        rw [show (0 - 1 : Nat) = 0 from rfl, ffl] at hF
        rw [← hF]
        exact W _ (ex_mono (frM_e hS hE) (by decide) (by decide))
      | succ f ih =>
        intro k hk hp hF S' hS hA
        have hE : stE (S.1 232) (S'.1 232) := by rw [hA]; exact sqA_st hn k
        have hk2 := (sqA_x (D := fun _ => dd) hW hy hx (K := k) (by omega) (fun _ _ => hd) k (Nat.le_refl k)).2.2 ho
        refine p_M_falls_36 ?_
        simp (disch := omega) only [lit_add, add_lit, lit_mul, mul_lit, nI_add, nI_clamp, nI_subI, nI_sub1, nI_divL, vp_T, ge_F, ge_T, geL_F, geL_T, leL_F, leL_T, le0_F, le0_T, ge0_T, row_self, row_ne, row_l, row_p, row_row, wI_row, wI_same, wI_cell, wI_place, wI_l, wI_p, lt_T, lt_F, ltL_T, ltL_F, gtL_T, gtL_F, lt0_F, eq_T, eq_F, eqL_T, eqL_F, eqM_F, leM_F, nat_mod, i_10, i_01, i_m1, eq_self_iff_true, rw8_lt, up1_ne, up1_eq, wi_T, ite_self, tg_1, tg_68, tg_124, tg_177, tg_11, tg_17, tg_59, tg_78, tg_84, ln_7, ln_16, ln_233, ln_232, ln_6, true_and, and_true, not_true_eq_false, not_false_eq_true, false_implies, true_implies, implies_true, forall_const, forall_eq, if_true, if_false, false_and, and_false, hA, hk2.mpr hp]
        refine s_mgd (by rw [hA]; exact WS_st (sqA_st hn k) hW) (by rw [hA]; exact sqA_4 hy k) (by omega) hd fun v => ?_
        have hT : (fm_row (fm_row S' 238 v) 232 (dayA (S'.1 232) n dd)).1 232 = sqA (S.1 232) n (fun _ => dd) (k + 1) := by
          rw [show (fm_row (fm_row S' 238 v) 232 (dayA (S'.1 232) n dd)).1 232 = dayA (S'.1 232) n dd from funext fun j => row_self, hA]; rfl
        have hF2 := frM_d (v := v) (B := dayA (S'.1 232) n dd) hS
        generalize fm_row (fm_row S' 238 v) 232 (dayA (S'.1 232) n dd) = T at hT hF2 ⊢
        rw [show f + 1 - 1 = f from rfl] at hF
        rcases hs : sop (S.1 232) y x (fun _ => dd) k with _ | _
        · refine ih (k + 1) (by omega) (by rw [pex, hp, hs]; rfl) ?_ T hF2 hT
          rw [hF]
          rcases f with _ | f
          · rfl
          · rw [ffl, hs, if_neg (by decide)]; rfl
        · have hE2 : stE (S.1 232) (T.1 232) := by rw [hT]; exact sqA_st hn (k + 1)
          refine p_M_falls_36 ?_
          rcases f with _ | f
          · simp (disch := omega) only [lit_add, add_lit, lit_mul, mul_lit, nI_add, nI_clamp, nI_subI, nI_sub1, nI_divL, vp_T, ge_F, ge_T, geL_F, geL_T, leL_F, leL_T, le0_F, le0_T, ge0_T, row_self, row_ne, row_l, row_p, row_row, wI_row, wI_same, wI_cell, wI_place, wI_l, wI_p, lt_T, lt_F, ltL_T, ltL_F, gtL_T, gtL_F, lt0_F, eq_T, eq_F, eqL_T, eqL_F, eqM_F, leM_F, nat_mod, i_10, i_01, i_m1, eq_self_iff_true, rw8_lt, up1_ne, up1_eq, wi_T, ite_self, tg_1, tg_68, tg_124, tg_177, tg_11, tg_17, tg_59, tg_78, tg_84, ln_7, ln_16, ln_233, ln_232, ln_6, true_and, and_true, not_true_eq_false, not_false_eq_true, false_implies, true_implies, implies_true, forall_const, forall_eq, if_true, if_false, false_and, and_false]
            rw [ffl] at hF
            rw [← hF]
            exact W _ (ex_mono (frM_e hF2 hE2) (by decide) (by decide))
          · have h3 := (sqA_x (D := fun _ => dd) hW hy hx (K := k + 1) (by omega) (fun _ _ => hd) (k + 1) (Nat.le_refl _)).2.2 ho
            have h4 : (sqA (S.1 232) n (fun _ => dd) (k + 1) (29 + x) = -1) = False := eq_false fun q => by
              have := h3.mp q
              rw [pex, hs, Bool.or_true] at this
              cases this
            simp (disch := omega) only [lit_add, add_lit, lit_mul, mul_lit, nI_add, nI_clamp, nI_subI, nI_sub1, nI_divL, vp_T, ge_F, ge_T, geL_F, geL_T, leL_F, leL_T, le0_F, le0_T, ge0_T, row_self, row_ne, row_l, row_p, row_row, wI_row, wI_same, wI_cell, wI_place, wI_l, wI_p, lt_T, lt_F, ltL_T, ltL_F, gtL_T, gtL_F, lt0_F, eq_T, eq_F, eqL_T, eqL_F, eqM_F, leM_F, nat_mod, i_10, i_01, i_m1, eq_self_iff_true, rw8_lt, up1_ne, up1_eq, wi_T, ite_self, tg_1, tg_68, tg_124, tg_177, tg_11, tg_17, tg_59, tg_78, tg_84, ln_7, ln_16, ln_233, ln_232, ln_6, true_and, and_true, not_true_eq_false, not_false_eq_true, false_implies, true_implies, implies_true, forall_const, forall_eq, if_true, if_false, false_and, and_false, hT, h4]
            rw [ffl, hs, if_pos rfl] at hF
            rw [← hF]
            exact W _ (ex_mono (frM_e hF2 hE2) (by decide) (by decide))
    exact key 31 0 rfl rfl (by unfold faA; rw [if_pos ho]) _ frM_0 (m_sv.2.1 232 (by decide))
  · refine p_M_falls_36 ?_
    have h232 : (g_past S 232 239 0 0).1 232 = S.1 232 := m_sv.2.1 232 (by decide)
    simp (disch := omega) only [lit_add, add_lit, lit_mul, mul_lit, nI_add, nI_clamp, nI_subI, nI_sub1, nI_divL, vp_T, ge_F, ge_T, geL_F, geL_T, leL_F, leL_T, le0_F, le0_T, ge0_T, row_self, row_ne, row_l, row_p, row_row, wI_row, wI_same, wI_cell, wI_place, wI_l, wI_p, lt_T, lt_F, ltL_T, ltL_F, gtL_T, gtL_F, lt0_F, eq_T, eq_F, eqL_T, eqL_F, eqM_F, leM_F, nat_mod, i_10, i_01, i_m1, eq_self_iff_true, rw8_lt, up1_ne, up1_eq, wi_T, ite_self, tg_1, tg_68, tg_124, tg_177, tg_11, tg_17, tg_59, tg_78, tg_84, ln_7, ln_16, ln_233, ln_232, ln_6, true_and, and_true, not_true_eq_false, not_false_eq_true, false_implies, true_implies, implies_true, forall_const, forall_eq, if_true, if_false, false_and, and_false, h232, ho]
    have z := W _ (ex_mono (frM_e frM_0 (by rw [h232]; exact stE_id _)) (by decide) (by decide))
    unfold faA at z
    rw [if_neg ho] at z
    exact ⟨fun q => absurd q (by decide), fun _ => z⟩
/-- the class measures -/
theorem s_xmeasure {Q : Unit → fm_S → Prop} {dd x : Nat} (c : CX S A n m y) (hd : dd < m) (hx : x < n)
    (W : ∀ S', ex 57 64 S S' → S'.1 63 = S.1 63 → (∀ k, k < 4 → S'.1 64 (4 * dd + k) = nI (sv A y dd x k)) → (∀ j, j < 4 * dd ∨ 4 * dd + 4 ≤ j → S'.1 64 j = S.1 64 j) → Q () S') :
    am_Ps vV (d + 4) k_Cook_measure [.ref 54, .int (nI dd), .int (nI x)] S Q := by
  refine e_Cook_measure ?_
  have hn := c.1.1
  have hm6 := c.1.2.1
  have hyb := c.2.2.2.2
  have key : ∀ k, k ≤ 4 → ∀ S', ex 57 64 S S' → S'.1 63 = S.1 63 → (∀ k', k' < k → S'.1 64 (4 * dd + k') = nI (sv A y dd x k')) → (∀ j, j < 4 * dd ∨ 4 * dd + 4 ≤ j → S'.1 64 j = S.1 64 j) → H_Cook_measure_2 d (nI dd) (nI x) (nI k) S' Q := by
    refine up_to (fun S' hS h63 h1 h2 => ?_) fun k hk ih S' hS h63 h1 h2 => ?_
    · refine p_Cook_measure_2 ?_
      simp (disch := omega) only [lit_add, add_lit, lit_mul, mul_lit, nI_add, nI_clamp, nI_subI, nI_sub1, nI_divL, vp_T, ge_F, ge_T, geL_F, geL_T, leL_F, leL_T, le0_F, le0_T, ge0_T, row_self, row_ne, row_l, row_p, row_row, wI_row, wI_same, wI_cell, wI_place, wI_l, wI_p, lt_T, lt_F, ltL_T, ltL_F, gtL_T, gtL_F, lt0_F, eq_T, eq_F, eqL_T, eqL_F, eqM_F, leM_F, nat_mod, i_10, i_01, i_m1, eq_self_iff_true, rw8_lt, up1_ne, up1_eq, wi_T, ite_self, tg_1, tg_68, tg_124, tg_177, tg_11, tg_17, tg_59, tg_78, tg_84, ln_7, ln_16, ln_233, ln_232, ln_6, true_and, and_true, not_true_eq_false, not_false_eq_true, false_implies, true_implies, implies_true, forall_const, forall_eq, if_true, if_false, false_and, and_false]
      exact W S' hS h63 h1 h2
    · have c2 := CX_ex (ex_mono hS (by decide) (by decide)) c
      have hD0 : S'.1 17 0 = nI y := by rw [c2.2.2.1.1, ow_0, c2.2.2.2.1]
      refine p_Cook_measure_2 ?_
      simp (disch := omega) only [lit_add, add_lit, lit_mul, mul_lit, nI_add, nI_clamp, nI_subI, nI_sub1, nI_divL, vp_T, ge_F, ge_T, geL_F, geL_T, leL_F, leL_T, le0_F, le0_T, ge0_T, row_self, row_ne, row_l, row_p, row_row, wI_row, wI_same, wI_cell, wI_place, wI_l, wI_p, lt_T, lt_F, ltL_T, ltL_F, gtL_T, gtL_F, lt0_F, eq_T, eq_F, eqL_T, eqL_F, eqM_F, leM_F, nat_mod, i_10, i_01, i_m1, eq_self_iff_true, rw8_lt, up1_ne, up1_eq, wi_T, ite_self, tg_1, tg_68, tg_124, tg_177, tg_11, tg_17, tg_59, tg_78, tg_84, ln_7, ln_16, ln_233, ln_232, ln_6, true_and, and_true, not_true_eq_false, not_false_eq_true, false_implies, true_implies, implies_true, forall_const, forall_eq, if_true, if_false, false_and, and_false, hD0, floor4, windOn_n c2.1 c2.2.1]
      refine e_Air_fill ?_
      refine s_fill (mm := 0) c2.1 c2.2.1 hd (wd_lt c2.1).2 (by decide) fun T hT hv => ?_
      rw [hv x (by omega)]
      have h64 : T.1 64 = S'.1 64 := hT.1 64 (by decide)
      have h632 : T.1 63 = S'.1 63 := hT.1 63 (by decide)
      refine ih _ (ex_wI (ex_tr hS (ex_mono hT (by decide) (by decide))) (by decide) (by decide)) ?_ (fun k' h => ?_) (fun j h => ?_)
      · rw [← h63, ← h632]; funext j; exact wI_cell (by decide)
      · by_cases e : k' = k
        · subst e
          rw [show 4 * dd + k' = dd * 4 + k' by omega, wI_same]; rfl
        · rw [wI_place (by omega), h64]; exact h1 k' (by omega)
      · rw [wI_place (by omega), h64]; exact h2 j h
  exact key 0 (by omega) S (ex_id S) rfl (fun k' h => absurd h (by omega)) fun _ _ => rfl
theorem spA_4 {dd x k : Nat} : sv A y dd x (k % 4) = sv A y dd x k := by
  unfold sv
  rw [wd_mod (z := y + k % 4) (z' := y + k) (by omega)]
theorem s_xfalls {Q : Int32 → fm_S → Prop} {dd x : Nat} (c : CX S A n m y) (hd : dd < m) (hx : x < n)
    (W : ∀ S', ex 54 66 S S' → Q (faA A y dd x) S') :
    am_Ps vI (d + 5) k_Cook_daysToFall [.ref 54, .int (nI dd), .int (nI x)] S Q := by
  have hn := c.1.1
  have hm6 := c.1.2.1
  have hyb := c.2.2.2.2
  have e1 : ∀ S', CX S' A n m y → (f_Days_isShut S' 17 (nI x) = 0) = ¬ A (29 + x) = -1 := fun S' c2 => by
    unfold f_Days_isShut
    rw [nI_clamp (by omega), c2.2.2.1.2.1 x (by omega), ow_1]
    by_cases q : A (29 + x) = -1 <;> simp [q]
  refine e_Cook_daysToFall ?_
  simp (disch := omega) only [lit_add, add_lit, lit_mul, mul_lit, nI_add, nI_clamp, nI_subI, nI_sub1, nI_divL, vp_T, ge_F, ge_T, geL_F, geL_T, leL_F, leL_T, le0_F, le0_T, ge0_T, row_self, row_ne, row_l, row_p, row_row, wI_row, wI_same, wI_cell, wI_place, wI_l, wI_p, lt_T, lt_F, ltL_T, ltL_F, gtL_T, gtL_F, lt0_F, eq_T, eq_F, eqL_T, eqL_F, eqM_F, leM_F, nat_mod, i_10, i_01, i_m1, eq_self_iff_true, rw8_lt, up1_ne, up1_eq, wi_T, ite_self, tg_1, tg_68, tg_124, tg_177, tg_11, tg_17, tg_59, tg_78, tg_84, ln_7, ln_16, ln_233, ln_232, ln_6, true_and, and_true, not_true_eq_false, not_false_eq_true, false_implies, true_implies, implies_true, forall_const, forall_eq, if_true, if_false, false_and, and_false, e1 S c]
  refine ⟨fun q => ?_, fun q => ?_⟩
  · have z := W S (ex_id S)
    unfold faA at z
    rw [if_neg q] at z
    exact z
  · have q := Classical.not_not.mp q
    refine s_xmeasure c hd hx fun T hT _ hM _ => ?_
    have hS := ex_mono (lo' := 54) (hi' := 66) hT (by decide) (by decide)
    have c2 := CX_ex hS c
    have hW2 : Q (ffl A y x (fun _ => dd) 30 0) T := by
      have z := W T hS
      unfold faA at z
      rw [if_pos q] at z
      exact z
    have h8 : T.1 8 dd = A (125 + dd) := c2.2.1.2.2.2.2.2.2.2.2.1 dd hd
    have h2 : T.1 2 x = A (5 + x) := c2.2.1.2.2.1 x hx
    have h4 : T.1 4 x = A (21 + x) := c2.2.1.2.2.2.2.1 x hx
    have hd0 : T.1 17 0 = nI y := by rw [c2.2.2.1.1, ow_0, c2.2.2.2.1]
    have hd2 : T.1 19 x = A (37 + x) := by rw [show T.1 19 x = ow A (9 + x) from c2.2.2.1.2.2.1 x hx, ow_2]
    have hd3 : T.1 20 x = A (45 + x) := by rw [show T.1 20 x = ow A (17 + x) from c2.2.2.1.2.2.2.1 x hx, ow_3]
    have ah : ∀ k, (if 0 < sv A y dd x k then (if (ssm A y x (fun _ => dd) k).1 = A (125 + dd) then (ssm A y x (fun _ => dd) k).2 else 0) + 1 else 0) = if (ssm A y x (fun _ => dd) (k + 1)).1 = A (125 + dd) then (ssm A y x (fun _ => dd) (k + 1)).2 else 0 := fun k => by
      rw [ssm]
      by_cases q : 0 < sv A y dd x k
      · simp only [q, if_true, ah_if]
      · simp only [q, if_false]
        by_cases e : (-1 : Int32) = A (125 + dd) <;> simp [e]
    have key : ∀ f k, f + k = 30 → Q (ffl A y x (fun _ => dd) f k) T → ∀ o5, H_Cook_daysToFall_46 d (nI dd) (nI x) (if (ssm A y x (fun _ => dd) k).1 = A (125 + dd) then (ssm A y x (fun _ => dd) k).2 else 0) (nI k) o5 T Q := by
      intro f
      induction f with
      | zero =>
        intro k hk hQ o5
        refine p_Cook_daysToFall_46 ?_
        simp (disch := omega) only [lit_add, add_lit, lit_mul, mul_lit, nI_add, nI_clamp, nI_subI, nI_sub1, nI_divL, vp_T, ge_F, ge_T, geL_F, geL_T, leL_F, leL_T, le0_F, le0_T, ge0_T, row_self, row_ne, row_l, row_p, row_row, wI_row, wI_same, wI_cell, wI_place, wI_l, wI_p, lt_T, lt_F, ltL_T, ltL_F, gtL_T, gtL_F, lt0_F, eq_T, eq_F, eqL_T, eqL_F, eqM_F, leM_F, nat_mod, i_10, i_01, i_m1, eq_self_iff_true, rw8_lt, up1_ne, up1_eq, wi_T, ite_self, tg_1, tg_68, tg_124, tg_177, tg_11, tg_17, tg_59, tg_78, tg_84, ln_7, ln_16, ln_233, ln_232, ln_6, true_and, and_true, not_true_eq_false, not_false_eq_true, false_implies, true_implies, implies_true, forall_const, forall_eq, if_true, if_false, false_and, and_false]
        exact hQ
      | succ f ih =>
        intro k hk hQ o5
        have hm := hM (k % 4) (by omega)
        rw [spA_4] at hm
        have hpl : f_Town_pull T 1 (nI x) (nI dd) (nI (sv A y dd x k)) (nI (y + k)) (if (ssm A y x (fun _ => dd) k).1 = A (125 + dd) then (ssm A y x (fun _ => dd) k).2 else 0) = spu A y x (fun _ => dd) k := by
          unfold f_Town_pull spu
          rw [nI_clamp (by omega), nI_clamp (by omega)]
          rw [show T.1 (1 + 1) x = A (5 + x) from h2, show T.1 (1 + 3) x = A (21 + x) from h4, show T.1 (1 + 7) dd = A (125 + dd) from h8]
          exact np_eq (c.1.2.2.2.2.1 x hx)
        have h30 : sv A y dd x k ≤ 30 := by
          have := (c.1.2.2.2.2.2.2.2.2.2.2.1 dd hd).2
          unfold sv
          exact Nat.le_trans (spA_le x) this
        have hle : (nI (sv A y dd x k) ≤ 0) = ¬ 0 < sv A y dd x k := by
          by_cases z : 0 < sv A y dd x k
          · rw [le0_F z (by omega)]; simp [z]
          · rw [show sv A y dd x k = 0 by omega]; simp [le0_T]
        rw [ffl] at hQ
        unfold sop at hQ
        refine p_Cook_daysToFall_46 ?_
        rw [Nat.mul_comm] at hm
        simp (disch := omega) only [lit_add, add_lit, lit_mul, mul_lit, nI_add, nI_clamp, nI_subI, nI_sub1, nI_divL, vp_T, ge_F, ge_T, geL_F, geL_T, leL_F, leL_T, le0_F, le0_T, ge0_T, row_self, row_ne, row_l, row_p, row_row, wI_row, wI_same, wI_cell, wI_place, wI_l, wI_p, lt_T, lt_F, ltL_T, ltL_F, gtL_T, gtL_F, lt0_F, eq_T, eq_F, eqL_T, eqL_F, eqM_F, leM_F, nat_mod, i_10, i_01, i_m1, eq_self_iff_true, rw8_lt, up1_ne, up1_eq, wi_T, ite_self, tg_1, tg_68, tg_124, tg_177, tg_11, tg_17, tg_59, tg_78, tg_84, ln_7, ln_16, ln_233, ln_232, ln_6, true_and, and_true, not_true_eq_false, not_false_eq_true, false_implies, true_implies, implies_true, forall_const, forall_eq, if_true, if_false, false_and, and_false, hm, hd0, hpl, hle]
        refine ⟨fun q2 => ?_, fun q2 => ?_⟩
        · simp only [q2, not_true_eq_false, decide_false, Bool.false_eq_true, if_false] at hQ
          have z := ih (k + 1) (by omega) hQ
          rw [← ah k] at z
          simp only [ite_not]
          exact z _
        · simp only [q2, not_false_eq_true, decide_true, if_true] at hQ
          exact hQ
    have z := key 30 0 rfl hW2 none
    unfold f_Days_ahead
    simp (disch := omega) only [lit_add, add_lit, lit_mul, mul_lit, nI_add, nI_clamp, nI_subI, nI_sub1, nI_divL, vp_T, ge_F, ge_T, geL_F, geL_T, leL_F, leL_T, le0_F, le0_T, ge0_T, row_self, row_ne, row_l, row_p, row_row, wI_row, wI_same, wI_cell, wI_place, wI_l, wI_p, lt_T, lt_F, ltL_T, ltL_F, gtL_T, gtL_F, lt0_F, eq_T, eq_F, eqL_T, eqL_F, eqM_F, leM_F, nat_mod, i_10, i_01, i_m1, eq_self_iff_true, rw8_lt, up1_ne, up1_eq, wi_T, ite_self, tg_1, tg_68, tg_124, tg_177, tg_11, tg_17, tg_59, tg_78, tg_84, ln_7, ln_16, ln_233, ln_232, ln_6, true_and, and_true, not_true_eq_false, not_false_eq_true, false_implies, true_implies, implies_true, forall_const, forall_eq, if_true, if_false, false_and, and_false, h8, hd2, hd3]
    exact z
end SEQ
