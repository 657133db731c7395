/-! days kept and gone back to -/
def pushA (B : Nat → Int32) (v : Nat) : Nat → Int32 := fun i => if 173 + 25 * v ≤ i ∧ i < 173 + 25 * v + 25 then B (m_ow (i - (173 + 25 * v))) else if i = 3 then nI (v + 1) else B i
def shk (A : Nat → Int32) (k : Nat) : Nat → Int32 := fun i => if 173 ≤ i ∧ i < 173 + k then A (i + 25) else A i
def sfA (A : Nat → Int32) : Nat → Int32 := up1 (shk A 175) 3 (nI 7)
def keepA (A : Nat → Int32) (u : Nat) : Nat → Int32 := if u = 8 then pushA (sfA A) 7 else pushA A u
def undoA (A : Nat → Int32) (v : Nat) : Nat → Int32 := fun i => if i = 3 then nI v else if i = 4 then A (173 + 25 * v) else if 29 ≤ i ∧ i < 53 then A (173 + 25 * v + (i - 28)) else A i
section KEEP
variable {d n m q u y N : Nat} {S : fm_S} {A : Nat → Int32} {t : Nat}
theorem WS_o {A B : Nat → Int32} (h : ∀ i, (i = 0 ∨ i = 1 ∨ (5 ≤ i ∧ i < 29) ∨ (53 ≤ i ∧ i < 143)) → B i = A i) (hW : WS A n m) : WS B n m := by
  obtain ⟨hn, hm6, h0, h1, hk, hw9, hl, hg, hwi, hsm, hst, hbu⟩ := hW
  refine ⟨hn, hm6, by rw [h 0 (by omega)]; exact h0, by rw [h 1 (by omega)]; exact h1, fun k z => ?_, fun k z => ?_, fun k z => ?_, fun k z => ?_, fun k z => ?_, fun k z => ?_, fun k z => ?_, fun k z => ?_⟩
  · rw [h _ (by omega)]; exact hk k z
  · rw [h _ (by omega)]; exact hw9 k z
  · rw [h _ (by omega)]; exact hl k z
  · rw [h _ (by omega)]; exact hg k z
  · rw [h _ (by omega)]; exact hwi k z
  · rw [h _ (by omega)]; exact hsm k z
  · rw [h _ (by omega)]; exact hst k z
  · rw [h _ (by omega)]; exact hbu k z
theorem RS_o {A B : Nat → Int32} (hn : n ≤ 8) (hm : m ≤ 6) (h : ∀ i, (i = 0 ∨ i = 1 ∨ (5 ≤ i ∧ i < 29) ∨ (53 ≤ i ∧ i < 143)) → B i = A i) (hR : RS S t A n m) : RS S t B n m := by
  obtain ⟨r0, r7, r1, r2, r3, r4, r5, r6, r7', r8, r9⟩ := hR
  refine ⟨r0, r7, fun k z => ?_, fun k z => ?_, fun k z => ?_, fun a b z z' => ?_, fun k z => ?_, fun k z => ?_, fun k z => ?_, fun k z => ?_, fun k z => ?_⟩
  · rw [h _ (by omega)]; exact r1 k z
  · rw [h _ (by omega)]; exact r2 k z
  · rw [h _ (by omega)]; exact r3 k z
  · rw [h _ (by omega)]; exact r4 a b z z'
  · rw [h _ (by omega)]; exact r5 k z
  · rw [h _ (by omega)]; exact r6 k z
  · rw [h _ (by omega)]; exact r7' k z
  · rw [h _ (by omega)]; exact r8 k z
  · rw [h _ (by omega)]; exact r9 k z
theorem RN_o {A B : Nat → Int32} (h : ∀ i, (i = 2 ∨ (143 ≤ i ∧ i < 173)) → B i = A i) (hR : RN S t A q) : RN S t B q := by
  obtain ⟨q0, q1, q2, n1, n2, n3, n4, n5⟩ := hR
  refine ⟨q0, by rw [h 2 (by omega)]; exact q1, q2, fun k z => ?_, fun k z => ?_, fun k z => ?_, fun k z => ?_, fun k z => ?_⟩
  · rw [h _ (by omega)]; exact n1 k z
  · rw [h _ (by omega)]; exact n2 k z
  · rw [h _ (by omega)]; exact n3 k z
  · rw [h _ (by omega)]; exact n4 k z
  · rw [h _ (by omega)]; exact n5 k z
/-- one more day kept -/
theorem RT_push {v : Nat} (hN : N < 3000) (hv : v < 8) (hP : PP S t) (hR : RT S t A n m q v y N) : RT (fm_wI (g_Days_copy S (S.2.2 (t + 20) v) (t + 16)) t 14 (nI (v + 1))) t (pushA A v) n m q (v + 1) y N := by
  obtain ⟨h1, h2, h3, h4, h5, h6, h7, h8, h9⟩ := hR
  obtain ⟨i, hi, ei⟩ := hP.1 v hv
  have hs2 : (fm_wI (g_Days_copy S (S.2.2 (t + 20) v) (t + 16)) t 14 (nI (v + 1))).2 = S.2 := by rw [wI_s2, dc_s2]
  have fr : ∀ c, c ≠ t → (c < t + 21 + 4 * i ∨ t + 21 + 4 * i + 3 < c) → (fm_wI (g_Days_copy S (S.2.2 (t + 20) v) (t + 16)) t 14 (nI (v + 1))).1 c = S.1 c := fun c a b => by
    rw [wI_ce a, dc_fr (by omega)]
  have frt : ∀ j, j ≠ 14 → (fm_wI (g_Days_copy S (S.2.2 (t + 20) v) (t + 16)) t 14 (nI (v + 1))).1 t j = S.1 t j := fun j a => by
    rw [wI_place a, dc_fr (by omega)]
  have e14 : (fm_wI (g_Days_copy S (S.2.2 (t + 20) v) (t + 16)) t 14 (nI (v + 1))).1 t 14 = nI (v + 1) := wI_same
  have hnew : RD (fm_wI (g_Days_copy S (S.2.2 (t + 20) v) (t + 16)) t 14 (nI (v + 1))) (t + 21 + 4 * i) (ow A) n := by
    refine RD_fr (S := g_Days_copy S (t + 21 + 4 * i) (t + 16)) (fun c a b => ?_) (dc_RD h3 h1.1 (by omega))
    rw [wI_ce (by omega), ei]
  have pe : ∀ j, (j < 173 ∨ 173 + 25 * v + 25 ≤ j ∨ j < 173 + 25 * v) → j ≠ 3 → pushA A v j = A j := fun j a b => by
    unfold pushA
    rw [if_neg (by omega), if_neg b]
  have pn : ∀ k, k < 25 → pushA A v (173 + 25 * v + k) = ow A k := fun k hk => by
    unfold pushA
    rw [if_pos (by omega), show 173 + 25 * v + k - (173 + 25 * v) = k by omega]; rfl
  generalize fm_wI (g_Days_copy S (S.2.2 (t + 20) v) (t + 16)) t 14 (nI (v + 1)) = T at *
  refine ⟨WS_o (fun j hj => pe j (by omega) (by omega)) h1, RS_o h1.1 h1.2.1 (fun j hj => pe j (by omega) (by omega)) ?_, RD_c h1.1 (fun j hj => ?_) (RD_fr (fun c a b => fr c (by omega) (by omega)) h3), RN_o (fun j hj => pe j (by omega) (by omega)) (RN_fr (fun c a b => fr c (by omega) (by omega)) h4), ⟨by omega, ?_, e14⟩, fun j hj => ?_, ?_, h8, fun j hj => ?_⟩
  · unfold RS at h2 ⊢
    rw [frt 0 (by omega), frt 7 (by omega), fr (t + 1) (by omega) (by omega), fr (t + 2) (by omega) (by omega), fr (t + 3) (by omega) (by omega), fr (t + 4) (by omega) (by omega), fr (t + 5) (by omega) (by omega), fr (t + 6) (by omega) (by omega), fr (t + 7) (by omega) (by omega), fr (t + 8) (by omega) (by omega), fr (t + 9) (by omega) (by omega)]
    exact h2
  · have := m_ow_lt hj
    exact pe _ (by omega) (by unfold m_ow; split <;> omega)
  · unfold pushA
    rw [if_neg (by omega), if_pos rfl]
  · rw [hs2]
    by_cases e : j = v
    · subst e
      rw [ei]
      exact RD_c h1.1 (fun k hk => pn k hk) hnew
    · obtain ⟨i2, hi2, ei2⟩ := hP.1 j (by omega)
      have hne := hP.2 j v (by omega) hv e
      rw [ei, ei2] at hne
      have z := h6 j (by omega)
      rw [ei2] at z ⊢
      exact RD_c h1.1 (fun k hk => pe _ (by omega) (by omega)) (RD_fr (fun c a b => fr c (by omega) (by omega)) z)
  · rw [pe 4 (by omega) (by omega)]; exact h7
  · by_cases e : j = v
    · subst e
      have z := pn 0 (by omega)
      rw [Nat.add_zero] at z
      rw [z, ow_0]
      exact iN_of h7 h8 (by omega)
    · rw [pe _ (by omega) (by omega)]; exact h9 j (by omega)
/-- the references go round -/
def rotP (S : fm_S) (t : Nat) (k : Nat) : fm_S := (S.1, S.2.1, fun c j => if c = t + 20 ∧ j < k then S.2.2 c (j + 1) else S.2.2 c j)
theorem rot_s {k : Nat} : fm_wP (rotP S t k) (t + 20) k (S.2.2 (t + 20) (k + 1)) = rotP S t (k + 1) := by
  refine fm_ext (fun _ _ => rfl) (fun _ _ => rfl) fun c j => ?_
  show (if c = t + 20 ∧ j = k then S.2.2 (t + 20) (k + 1) else if c = t + 20 ∧ j < k then S.2.2 c (j + 1) else S.2.2 c j) = if c = t + 20 ∧ j < k + 1 then S.2.2 c (j + 1) else S.2.2 c j
  by_cases e : c = t + 20 ∧ j = k
  · rw [if_pos e, if_pos (by omega), e.1, e.2]
  · rw [if_neg e]
    by_cases e2 : c = t + 20 ∧ j < k
    · rw [if_pos e2, if_pos (by omega)]
    · rw [if_neg e2, if_neg (by omega)]
theorem rot_0 : rotP S t 0 = S := by
  refine fm_ext (fun _ _ => rfl) (fun _ _ => rfl) fun c j => ?_
  show (if c = t + 20 ∧ j < 0 then S.2.2 c (j + 1) else S.2.2 c j) = _
  rw [if_neg (by omega)]
def rotE (S : fm_S) (t : Nat) : fm_S := fm_wI (fm_wP (rotP S t 7) (t + 20) 7 (S.2.2 (t + 20) 0)) t 14 7
theorem rotE_1 {c : Nat} (h : c ≠ t) : (rotE S t).1 c = S.1 c := wI_ce h
theorem rotE_t {j : Nat} (h : j ≠ 14) : (rotE S t).1 t j = S.1 t j := wI_place h
theorem rotE_14 : (rotE S t).1 t 14 = nI 7 := wI_same
theorem rotE_p {j : Nat} (h : j < 8) : (rotE S t).2.2 (t + 20) j = if j < 7 then S.2.2 (t + 20) (j + 1) else S.2.2 (t + 20) 0 := by
  show (if t + 20 = t + 20 ∧ j = 7 then S.2.2 (t + 20) 0 else if t + 20 = t + 20 ∧ j < 7 then S.2.2 (t + 20) (j + 1) else S.2.2 (t + 20) j) = _
  by_cases e : j = 7
  · rw [if_pos ⟨rfl, e⟩, if_neg (by omega)]
  · rw [if_neg (fun z => e z.2), if_pos ⟨rfl, by omega⟩, if_pos (by omega)]
theorem rotE_PP (hP : PP S t) : PP (rotE S t) t := by
  refine ⟨fun j hj => ?_, fun i j hi hj hne => ?_⟩
  · rw [rotE_p hj]
    split
    · exact hP.1 _ (by omega)
    · exact hP.1 _ (by omega)
  · rw [rotE_p hi, rotE_p hj]
    split <;> split
    · exact hP.2 _ _ (by omega) (by omega) (by omega)
    · exact hP.2 _ _ (by omega) (by omega) (by omega)
    · exact hP.2 _ _ (by omega) (by omega) (by omega)
    · omega
theorem sf_o {i : Nat} (h : i ≠ 3) (h2 : i < 173) : sfA A i = A i := by
  unfold sfA shk
  rw [up1_ne h, if_neg (by omega)]
theorem RT_rot (hP : PP S t) (hR : RT S t A n m q 8 y N) : RT (rotE S t) t (sfA A) n m q 7 y N := by
  obtain ⟨h1, h2, h3, h4, h5, h6, h7, h8, h9⟩ := hR
  refine ⟨WS_o (fun j hj => sf_o (by omega) (by omega)) h1, RS_o h1.1 h1.2.1 (fun j hj => sf_o (by omega) (by omega)) ?_, RD_c h1.1 (fun j hj => ?_) (RD_fr (fun c a b => rotE_1 (by omega)) h3), RN_o (fun j hj => sf_o (by omega) (by omega)) (RN_fr (fun c a b => rotE_1 (by omega)) h4), ⟨by omega, up1_eq, rotE_14⟩, fun j hj => ?_, ?_, h8, fun j hj => ?_⟩
  · unfold RS at h2 ⊢
    rw [rotE_t (by omega), rotE_t (by omega), rotE_1 (by omega), rotE_1 (by omega), rotE_1 (by omega), rotE_1 (by omega), rotE_1 (by omega), rotE_1 (by omega), rotE_1 (by omega), rotE_1 (by omega), rotE_1 (by omega)]
    exact h2
  · have := m_ow_lt hj
    exact sf_o (by unfold m_ow; split <;> omega) (by omega)
  · rw [rotE_p (by omega), if_pos hj]
    have z := h6 (j + 1) (by omega)
    refine RD_c h1.1 (fun k hk => ?_) ?_ (f := fun i => A (173 + 25 * (j + 1) + i))
    · unfold sfA shk
      rw [up1_ne (by omega), if_pos (by omega), show 173 + 25 * j + k + 25 = 173 + 25 * (j + 1) + k by omega]
    · obtain ⟨i, hi, ei⟩ := hP.1 (j + 1) (by omega)
      rw [ei] at z ⊢
      exact RD_fr (fun c a b => rotE_1 (by omega)) z
  · rw [sf_o (by omega) (by omega)]; exact h7
  · unfold sfA shk
    rw [up1_ne (by omega), if_pos (by omega), show 173 + 25 * j + 25 = 173 + 25 * (j + 1) by omega]; exact h9 (j + 1) (by omega)
def vK (u : Nat) : Nat := if u = 8 then 8 else u + 1
/-- what the class' keepDays leaves -/
theorem s_keep {Q : Unit → fm_S → Prop} (hN : N < 3000) (hP : PP S t) (hR : RT S t A n m q u y N) (k6 : fm_tg t = 6) (k2 : fm_tg (t + 16) = 2) (kt : ∀ i, i < 8 → fm_tg (t + 21 + 4 * i) = 2)
    (W : ∀ S', (∀ c, c < t ∨ t + 52 < c → S'.1 c = S.1 c) → S'.2.1 = S.2.1 → (∀ c, c ≠ t + 20 → S'.2.2 c = S.2.2 c) → PP S' t → RT S' t (keepA A u) n m q (vK u) y N → Q () S') :
    am_Ps vV (d + 2) k_Town_keepDays [.ref t] S Q := by
  have hu : u ≤ 8 := hR.2.2.2.2.1.1
  have e14 : S.1 t 14 = nI u := hR.2.2.2.2.1.2.2
  have frp : ∀ (T : fm_S) (v : Nat), PP T t → v < 8 → ∀ c, c < t ∨ t + 52 < c → (fm_wI (g_Days_copy T (T.2.2 (t + 20) v) (t + 16)) t 14 (nI (v + 1))).1 c = T.1 c := fun T v hPT hv c hc => by
    obtain ⟨i, hi, ei⟩ := hPT.1 v hv
    rw [wI_ce (by omega), ei, dc_fr (by omega)]
  refine e_Town_keepDays ⟨k6, fun q1 => ?_, fun q1 => ?_⟩
  · have hu8 : u < 8 := by
      rw [e14, show (8 : Int32) = nI 8 from rfl, nI_ltI (by omega) (by omega)] at q1
      exact q1
    obtain ⟨i, hi, ei⟩ := hP.1 u hu8
    have z := W _ (frp S u hP hu8) (by rw [show (fm_wI (g_Days_copy S (S.2.2 (t + 20) u) (t + 16)) t 14 (nI (u + 1))).2 = S.2 by rw [wI_s2, dc_s2]]) (fun c _ => by rw [show (fm_wI (g_Days_copy S (S.2.2 (t + 20) u) (t + 16)) t 14 (nI (u + 1))).2 = S.2 by rw [wI_s2, dc_s2]])
      (PP_fr (by rw [show (fm_wI (g_Days_copy S (S.2.2 (t + 20) u) (t + 16)) t 14 (nI (u + 1))).2 = S.2 by rw [wI_s2, dc_s2]]) hP) (by
        unfold keepA vK
        rw [if_neg (by omega), if_neg (by omega)]
        exact RT_push hN hu8 hP hR)
    rw [e14, nI_clamp (by omega), show (g_Days_copy S (S.2.2 (t + 20) u) (t + 16)).1 t 14 = nI u by rw [ei, dc_fr (by omega)]; exact e14, nI_s]
    exact ⟨vp_in_nI hu8 (by decide), by rw [ei]; exact kt i hi, k2, z⟩
  · have hu8 : u = 8 := by
      rw [e14, show (8 : Int32) = nI 8 from rfl, nI_ltI (by omega) (by omega)] at q1
      omega
    subst hu8
    have key : ∀ k, k ≤ 7 → H_Town_keepDays_18 d t (S.2.2 (t + 20) 0) (nI (k + 1)) (rotP S t k) Q := by
      refine up_to ?_ fun k hk ih => ?_
      · have hPE := rotE_PP hP
        have hRE := RT_rot hP hR
        obtain ⟨i0, hi0, ei0⟩ := hP.1 0 (by omega)
        obtain ⟨i, hi, ei⟩ := hPE.1 7 (by omega)
        have hz : ∀ c, c < t ∨ t + 52 < c → (fm_wI (g_Days_copy (rotE S t) ((rotE S t).2.2 (t + 20) 7) (t + 16)) t 14 (nI 8)).1 c = S.1 c := fun c hc => by
          rw [frp _ 7 hPE (by omega) c hc, rotE_1 (by omega)]
        have hs2 : (fm_wI (g_Days_copy (rotE S t) ((rotE S t).2.2 (t + 20) 7) (t + 16)) t 14 (nI 8)).2 = (rotE S t).2 := by rw [wI_s2, dc_s2]
        have z := W _ hz (by rw [hs2]; rfl) (fun c hc => by
          rw [hs2]
          funext j
          show (if c = t + 20 ∧ j = 7 then _ else if c = t + 20 ∧ j < 7 then _ else S.2.2 c j) = _
          rw [if_neg (fun z => hc z.1), if_neg (fun z => hc z.1)]) (PP_fr (by rw [hs2]) hPE) (by
          unfold keepA vK
          rw [if_pos rfl, if_pos rfl]
          exact RT_push hN (by omega) hPE hRE)
        refine p_Town_keepDays_18 ⟨fun _ => ?_, fun z => absurd (by decide) z⟩
        show fm_tg t = 6 ∧ fm_tg (S.2.2 (t + 20) 0) = 2 ∧ vp_in ((rotE S t).1 t 14) 8 ∧ fm_tg ((rotE S t).2.2 (t + 20) ((rotE S t).1 t 14).toNatClampNeg) = 2 ∧ fm_tg (t + 16) = 2 ∧ Q () (fm_wI (g_Days_copy (rotE S t) ((rotE S t).2.2 (t + 20) ((rotE S t).1 t 14).toNatClampNeg) (t + 16)) t 14 (((g_Days_copy (rotE S t) ((rotE S t).2.2 (t + 20) ((rotE S t).1 t 14).toNatClampNeg) (t + 16)).1 t 14) + 1))
        rw [rotE_14, nI_clamp (by omega), show (g_Days_copy (rotE S t) ((rotE S t).2.2 (t + 20) 7) (t + 16)).1 t 14 = nI 7 by rw [ei, dc_fr (by omega)]; exact rotE_14, nI_s]
        exact ⟨k6, by rw [ei0]; exact kt i0 hi0, vp_in_nI (by omega) (by decide), by rw [ei]; exact kt i hi, k2, z⟩
      · have hr : (rotP S t k).2.2 (t + 20) (k + 1) = S.2.2 (t + 20) (k + 1) := by
          show (if t + 20 = t + 20 ∧ k + 1 < k then _ else _) = _
          rw [if_neg (by omega)]
        obtain ⟨i, hi, ei⟩ := hP.1 (k + 1) (by omega)
        refine p_Town_keepDays_18 ?_
        simp (disch := omega) only [lit_add, add_lit, lit_mul, mul_lit, nI_add, nI_clamp, nI_subI, nI_sub1, nI_divL, vp_T, ge_F, ge_T, geL_F, geL_T, leL_F, leL_T, le0_F, le0_T, ge0_T, row_self, row_ne, row_l, row_p, row_row, wI_row, wI_same, wI_cell, wI_place, wI_l, wI_p, lt_T, lt_F, ltL_T, ltL_F, gtL_T, gtL_F, lt0_F, eq_T, eq_F, eqL_T, eqL_F, eqM_F, leM_F, nat_mod, i_10, i_01, i_m1, eq_self_iff_true, rw8_lt, up1_ne, up1_eq, wi_T, ite_self, tg_1, tg_68, tg_124, tg_177, tg_11, tg_17, tg_59, tg_78, tg_84, ln_7, ln_16, ln_233, ln_232, ln_6, true_and, and_true, not_true_eq_false, not_false_eq_true, false_implies, true_implies, implies_true, forall_const, forall_eq, if_true, if_false, false_and, and_false, k6, hr, Nat.add_sub_cancel, rot_s, ei, kt]
        rw [← ei, rot_s]
        exact ih
    have z := key 0 (by omega)
    rw [rot_0] at z
    exact z
/-- the reference keeps -/
theorem mput_row {B : Nat → Int32} {v : Nat} (hv : v < 8) (h3 : B 3 = nI v) : fm_wI (g_past (fm_row S 232 B) 232 232 (nI (173 + 25 * v)) 0) 232 3 ((g_past (fm_row S 232 B) 232 232 (nI (173 + 25 * v)) 0).1 232 3 + 1) = fm_row S 232 (pushA B v) := by
  have hg : g_past (fm_row S 232 B) 232 232 (nI (173 + 25 * v)) 0 = m_put (fm_row S 232 B) 232 232 (173 + 25 * v) 25 := by
    unfold g_past
    rw [if_pos rfl, nI_clamp (by omega)]
  rw [hg]
  have e3 : (m_put (fm_row S 232 B) 232 232 (173 + 25 * v) 25).1 232 3 = nI v := by
    show (if 232 = 232 ∧ 173 + 25 * v ≤ 3 ∧ 3 < 173 + 25 * v + 25 then _ else (fm_row S 232 B).1 232 3) = _
    rw [if_neg (by omega), row_self]; exact h3
  rw [e3, nI_s]
  refine fm_ext (fun c i => ?_) (fun _ _ => rfl) fun _ _ => rfl
  show (if c = 232 ∧ i = 3 then nI (v + 1) else if c = 232 ∧ 173 + 25 * v ≤ i ∧ i < 173 + 25 * v + 25 then (fm_row S 232 B).1 232 (m_ow (i - (173 + 25 * v))) else (fm_row S 232 B).1 c i) = if c = 232 then pushA B v i else S.1 c i
  by_cases e : c = 232
  · subst e
    rw [if_pos rfl]
    unfold pushA
    by_cases e3 : i = 3
    · rw [if_pos ⟨rfl, e3⟩, if_neg (by omega), if_pos e3]
    · rw [if_neg (fun z => e3 z.2)]
      by_cases e4 : 173 + 25 * v ≤ i ∧ i < 173 + 25 * v + 25
      · rw [if_pos ⟨rfl, e4⟩, if_pos e4, row_self]
      · rw [if_neg (fun z => e4 z.2), if_neg e4, if_neg e3, row_self]
  · rw [if_neg (fun z => e z.1), if_neg (fun z => e z.1), if_neg e, row_ne e]
theorem shk_s {k : Nat} (hk : k < 175) : up1 (shk A k) (173 + k) (shk A k (198 + k)) = shk A (k + 1) := by
  funext i
  unfold up1 shk
  by_cases e : i = 173 + k
  · subst e
    rw [if_pos rfl, if_neg (by omega), if_pos (by omega), show 173 + k + 25 = 198 + k by omega]
  · rw [if_neg e]
    by_cases e2 : 173 ≤ i ∧ i < 173 + k
    · rw [if_pos e2, if_pos (by omega)]
    · rw [if_neg e2, if_neg (by omega)]
theorem shk_0 : shk A 0 = A := by
  funext i
  unfold shk
  rw [if_neg (by omega)]
/-- the reference's day, up to what goDay does -/
theorem s_mday {Q : Int32 → fm_S → Prop} {x1 : Int32} (hu : u ≤ 8) (h3 : S.1 232 3 = nI u) (hx : x1 = -1 ∨ ¬ f_M_isDish S x1 = 0)
    (W : am_Ps vI (d + 4) k_M_goDay [.ref 231, .int x1] (fm_row S 232 (keepA (S.1 232) u)) Q) :
    am_Ps vI (d + 5) k_M_day [.ref 231, .int x1] S Q := by
  have direct : ¬ S.1 232 3 = 8 → u < 8 := fun z => by
    rw [h3] at z
    have : u ≠ 8 := fun e => z (by rw [e]; rfl)
    omega
  have A1 : ¬ S.1 232 3 = 8 → (¬ (173 + (25 * (S.1 232 3))) < 0) ∧ (232 ≠ 232 ∨ 53 ≤ (173 + (25 * (S.1 232 3))).toNatClampNeg) ∧ ((173 + (25 * (S.1 232 3))).toNatClampNeg + 25 ≤ (if 0 = 0 then fm_ln 232 else fm_ln 232) ∧ 53 ≤ (if 0 = 0 then fm_ln 232 else fm_ln 232)) ∧ am_Ps vI (d + 4) k_M_goDay [.ref 231, .int x1] (fm_wI (g_past S 232 232 (173 + (25 * (S.1 232 3))) 0) 232 3 (((g_past S 232 232 (173 + (25 * (S.1 232 3))) 0).1 232 3) + 1)) fun v7 S6 => (Q v7 S6) := fun z => by
    have hu8 := direct z
    unfold keepA at W
    rw [if_neg (by omega), ← mput_row hu8 h3, row_id] at W
    rw [h3, lit_mul, lit_add, nI_clamp (by omega)]
    refine ⟨nI_pos (by omega), Or.inr (by omega), ?_, W⟩
    rw [if_pos rfl, ln_232]
    omega
  have A2 : S.1 232 3 = 8 → am_Po vI (d + 5) k_M_day 31 [some (.ref 231), some (.int x1), some (.int 0)] [] S Q := fun z => by
    have hu8 : u = 8 := by
      rw [h3, show (8 : Int32) = nI 8 from rfl, nI_eq (by omega) (by omega)] at z
      exact z
    subst hu8
    have key : ∀ k, k ≤ 175 → am_Po vI (d + 5) k_M_day 31 [some (.ref 231), some (.int x1), some (.int (nI k))] [] (fm_row S 232 (shk (S.1 232) k)) Q := by
      refine up_to ?_ fun k hk ih => ?_
      · have e3 : shk (S.1 232) 175 3 = nI 8 := by unfold shk; rw [if_neg (by omega)]; exact h3
        unfold keepA at W
        rw [if_pos rfl, ← mput_row (by omega) (show sfA (S.1 232) 3 = nI 7 from up1_eq)] at W
        refine p_M_day_31 ⟨fun _ => ?_, fun z => absurd (by decide) z⟩
        have es : fm_wI (fm_row S 232 (shk (S.1 232) 175)) 232 3 ((fm_row S 232 (shk (S.1 232) 175)).1 232 3 - 1) = fm_row S 232 (sfA (S.1 232)) := by
          rw [row_self, e3, wI_row, show (1 : Int32) = nI 1 from rfl, nI_subI (by omega)]; rfl
        rw [es, show (fm_row S 232 (sfA (S.1 232))).1 232 3 = nI 7 by rw [row_self]; exact up1_eq, lit_mul, lit_add, nI_clamp (by omega)]
        refine ⟨nI_pos (by omega), Or.inr (by omega), ?_, W⟩
        rw [if_pos rfl, ln_232]
        omega
      · refine p_M_day_31 ?_
        simp (disch := omega) only [lit_add, add_lit, lit_mul, mul_lit, nI_add, nI_clamp, nI_subI, nI_sub1, nI_divL, vp_T, ge_F, ge_T, geL_F, geL_T, leL_F, leL_T, le0_F, le0_T, ge0_T, row_self, row_ne, row_l, row_p, row_row, wI_row, wI_same, wI_cell, wI_place, wI_l, wI_p, lt_T, lt_F, ltL_T, ltL_F, gtL_T, gtL_F, lt0_F, eq_T, eq_F, eqL_T, eqL_F, eqM_F, leM_F, nat_mod, i_10, i_01, i_m1, eq_self_iff_true, rw8_lt, up1_ne, up1_eq, wi_T, ite_self, tg_1, tg_68, tg_124, tg_177, tg_11, tg_17, tg_59, tg_78, tg_84, ln_7, ln_16, ln_233, ln_232, ln_6, true_and, and_true, not_true_eq_false, not_false_eq_true, false_implies, true_implies, implies_true, forall_const, forall_eq, if_true, if_false, false_and, and_false]
        rw [shk_s hk]
        exact ih
    have z := key 0 (by omega)
    rw [shk_0, row_id] at z
    exact z
  refine e_M_day ⟨fun q => ⟨A2, A1⟩, fun q => ⟨fun z => ?_, fun _ => ⟨A2, A1⟩⟩⟩
  rcases hx with hx | hx
  · exact absurd hx q
  · exact absurd z hx
/-- a day gone: the relation behind it -/
theorem RT_day {T : fm_S} {B : Nat → Int32} (hP : PP S t) (hR : RT S t A n m q u y N) (hE : stE A B) (h4 : B 4 = nI (y + 1)) (hf : ∀ c, t ≤ c → c ≤ t + 52 → (c < t + 16 ∨ t + 19 < c) → T.1 c = S.1 c) (hp : T.2.2 (t + 20) = S.2.2 (t + 20)) (hD : RD T (t + 16) (ow B) n) :
    RT T t B n m q u (y + 1) (N + 1) := by
  obtain ⟨h1, h2, h3, h4', h5, h6, h7, h8, h9⟩ := hR
  refine ⟨WS_st hE h1, RS_st h1.1 h1.2.1 hE (RS_fr (fun c a b => hf c (by omega) (by omega) (by omega)) h2), hD, RN_o (fun j hj => hE j (by omega) (by omega)) (RN_fr (fun c a b => hf c (by omega) (by omega) (by omega)) h4'), ⟨h5.1, by rw [hE 3 (by omega) (by omega)]; exact h5.2.1, by rw [hf t (by omega) (by omega) (by omega)]; exact h5.2.2⟩, fun j hj => ?_, h4, by omega, fun j hj => ?_⟩
  · rw [hp]
    obtain ⟨i, hi, ei⟩ := hP.1 j (by have := h5.1; omega)
    have z := h6 j hj
    rw [ei] at z ⊢
    exact RD_c h1.1 (fun k hk => hE _ (by omega) (by omega)) (RD_fr (fun c a b => hf c (by omega) (by omega) (by omega)) z)
  · rw [hE _ (by omega) (by omega)]
    exact ⟨(h9 j hj).1, by have := (h9 j hj).2; omega⟩
end KEEP
