/-! the answer of the besieged, the game -/
def anP (A : Nat → Int32) (dd mm n : Nat) : Nat → Int32 × Int32
  | 0 => (-1, 9)
  | x + 1 => if A (29 + x) = -1 ∧ ¬ (anP A dd mm n x).2 ≤ nI (bc (po A dd (nI x) mm) n) then (nI x, nI (bc (po A dd (nI x) mm) n)) else anP A dd mm n x
theorem anP_1 {A : Nat → Int32} {dd mm n : Nat} : ∀ x, (anP A dd mm n x).1 = -1 ∨ ∃ k, k < x ∧ (anP A dd mm n x).1 = nI k ∧ (anP A dd mm n x).2 = nI (bc (po A dd (nI k) mm) n)
  | 0 => Or.inl rfl
  | x + 1 => by
    rw [anP]
    split
    · exact Or.inr ⟨x, by omega, rfl, rfl⟩
    · rcases anP_1 (A := A) (dd := dd) (mm := mm) (n := n) x with h | ⟨k, h1, h2⟩
      · exact Or.inl h
      · exact Or.inr ⟨k, by omega, h2⟩
theorem an_if {P R : Prop} [Decidable P] [Decidable R] {a b : Int32} : (if P then if R then a else b else a) = if P ∧ ¬ R then b else a := by
  by_cases h1 : P <;> by_cases h2 : R <;> simp [h1, h2]
theorem if_flip {R : Prop} [Decidable R] {a b : Int32} : (if R then a else b) = if ¬ R then b else a := by by_cases h : R <;> simp [h]
section ANSWER
variable {d n m y : Nat} {S : fm_S} {A : Nat → Int32} {dd mm : Nat}
theorem s_manswer {Q : Int32 → fm_S → Prop} {x3 : Int32} (c : MX S n m y) (hd : dd < m) (hm : mm ≤ 9)
    (W : ∀ S', ex 238 242 S S' → Q (if (anP (S.1 232) dd mm n n).1 < 0 then (anP (S.1 232) dd mm n n).1 else if x3 = 0 then (anP (S.1 232) dd mm n n).1 else (anP (S.1 232) dd mm n n).2) S') :
    H_M_answer_45 d (nI dd) (nI mm) x3 (-1) 9 0 none S Q := by
  have hn := c.1.1
  have key : ∀ x, x ≤ n → ∀ S' o7, ex 238 242 S S' → H_M_answer_45 d (nI dd) (nI mm) x3 (anP (S.1 232) dd mm n x).1 (anP (S.1 232) dd mm n x).2 (nI x) o7 S' Q := by
    refine up_to (fun S' o7 hS => ?_) fun x hx ih S' o7 hS => ?_
    · have c2 := MX_ex hS c
      refine p_M_answer_45 ?_
      simp (disch := omega) only [lit_add, add_lit, lit_mul, mul_lit, nI_add, nI_clamp, nI_subI, nI_sub1, nI_divL, vp_T, ge_F, ge_T, geL_F, geL_T, leL_F, leL_T, le0_F, le0_T, ge0_T, row_self, row_ne, row_l, row_p, row_row, wI_row, wI_same, wI_cell, wI_place, wI_l, wI_p, lt_T, lt_F, ltL_T, ltL_F, gtL_T, gtL_F, lt0_F, eq_T, eq_F, eqL_T, eqL_F, eqM_F, leM_F, nat_mod, i_10, i_01, i_m1, eq_self_iff_true, rw8_lt, up1_ne, up1_eq, wi_T, ite_self, tg_1, tg_68, tg_124, tg_177, tg_11, tg_17, tg_59, tg_78, tg_84, ln_7, ln_16, ln_233, ln_232, ln_6, true_and, and_true, not_true_eq_false, not_false_eq_true, false_implies, true_implies, implies_true, forall_const, forall_eq, if_true, if_false, false_and, and_false, c2.1.2.2.1]
      exact W S' hS
    · have c2 := MX_ex hS c
      refine p_M_answer_45 ?_
      simp (disch := omega) only [lit_add, add_lit, lit_mul, mul_lit, nI_add, nI_clamp, nI_subI, nI_sub1, nI_divL, vp_T, ge_F, ge_T, geL_F, geL_T, leL_F, leL_T, le0_F, le0_T, ge0_T, row_self, row_ne, row_l, row_p, row_row, wI_row, wI_same, wI_cell, wI_place, wI_l, wI_p, lt_T, lt_F, ltL_T, ltL_F, gtL_T, gtL_F, lt0_F, eq_T, eq_F, eqL_T, eqL_F, eqM_F, leM_F, nat_mod, i_10, i_01, i_m1, eq_self_iff_true, rw8_lt, up1_ne, up1_eq, wi_T, ite_self, tg_1, tg_68, tg_124, tg_177, tg_11, tg_17, tg_59, tg_78, tg_84, ln_7, ln_16, ln_233, ln_232, ln_6, true_and, and_true, not_true_eq_false, not_false_eq_true, false_implies, true_implies, implies_true, forall_const, forall_eq, if_true, if_false, false_and, and_false, c2.1.2.2.1]
      refine s_mo c2.1 c2.2.1 (by have := c2.2.2; omega) hd hm fun v hv => ?_
      rw [ex_A hS, bt_bits hn]
      simp (disch := omega) only [lit_add, add_lit, lit_mul, mul_lit, nI_add, nI_clamp, nI_subI, nI_sub1, nI_divL, vp_T, ge_F, ge_T, geL_F, geL_T, leL_F, leL_T, le0_F, le0_T, ge0_T, row_self, row_ne, row_l, row_p, row_row, wI_row, wI_same, wI_cell, wI_place, wI_l, wI_p, lt_T, lt_F, ltL_T, ltL_F, gtL_T, gtL_F, lt0_F, eq_T, eq_F, eqL_T, eqL_F, eqM_F, leM_F, nat_mod, i_10, i_01, i_m1, eq_self_iff_true, rw8_lt, up1_ne, up1_eq, wi_T, ite_self, tg_1, tg_68, tg_124, tg_177, tg_11, tg_17, tg_59, tg_78, tg_84, ln_7, ln_16, ln_233, ln_232, ln_6, true_and, and_true, not_true_eq_false, not_false_eq_true, false_implies, true_implies, implies_true, forall_const, forall_eq, if_true, if_false, false_and, and_false, ex_A hS]
      rw [anP] at ih
      simp only [fst_if, snd_if] at ih
      rw [an_if, an_if]
      exact ih _ _ (ex_row hS (by decide) (by decide))
  exact key 0 (by omega) S none (ex_id S)
theorem s_xbest {Q : Int32 → fm_S → Prop} (c : CX S A n m y) (hd : dd < m) (hm : mm ≤ 9)
    (W : ∀ S', ex 54 66 S S' → Q (anP A dd mm n n).1 S') :
    am_Ps vI (d + 5) k_Cook_bestSheets [.ref 54, .int (nI dd), .int (nI mm)] S Q := by
  have hn := c.1.1
  refine e_Cook_bestSheets ?_
  have key : ∀ x, x ≤ n → ∀ S' o6, ex 54 66 S S' → H_Cook_bestSheets_9 d (nI dd) (nI mm) (anP A dd mm n x).1 (anP A dd mm n x).2 (nI x) o6 S' Q := by
    refine up_to (fun S' o6 hS => ?_) fun x hx ih S' o6 hS => ?_
    · have c2 := CX_ex hS c
      refine p_Cook_bestSheets_9 ?_
      simp (disch := omega) only [lit_add, add_lit, lit_mul, mul_lit, nI_add, nI_clamp, nI_subI, nI_sub1, nI_divL, vp_T, ge_F, ge_T, geL_F, geL_T, leL_F, leL_T, le0_F, le0_T, ge0_T, row_self, row_ne, row_l, row_p, row_row, wI_row, wI_same, wI_cell, wI_place, wI_l, wI_p, lt_T, lt_F, ltL_T, ltL_F, gtL_T, gtL_F, lt0_F, eq_T, eq_F, eqL_T, eqL_F, eqM_F, leM_F, nat_mod, i_10, i_01, i_m1, eq_self_iff_true, rw8_lt, up1_ne, up1_eq, wi_T, ite_self, tg_1, tg_68, tg_124, tg_177, tg_11, tg_17, tg_59, tg_78, tg_84, ln_7, ln_16, ln_233, ln_232, ln_6, true_and, and_true, not_true_eq_false, not_false_eq_true, false_implies, true_implies, implies_true, forall_const, forall_eq, if_true, if_false, false_and, and_false, show S'.1 1 0 = nI n from c2.2.1.1]
      exact W S' hS
    · have c2 := CX_ex hS c
      have e1 : (f_Days_isShut S' 17 (nI x) = 0) = ¬ A (29 + x) = -1 := by
        unfold f_Days_isShut
        rw [nI_clamp (by omega), c2.2.2.1.2.1 x (by omega), ow_1]
        by_cases q : A (29 + x) = -1 <;> simp [q]
      rw [anP] at ih
      simp only [fst_if, snd_if] at ih
      refine p_Cook_bestSheets_9 ?_
      simp (disch := omega) only [lit_add, add_lit, lit_mul, mul_lit, nI_add, nI_clamp, nI_subI, nI_sub1, nI_divL, vp_T, ge_F, ge_T, geL_F, geL_T, leL_F, leL_T, le0_F, le0_T, ge0_T, row_self, row_ne, row_l, row_p, row_row, wI_row, wI_same, wI_cell, wI_place, wI_l, wI_p, lt_T, lt_F, ltL_T, ltL_F, gtL_T, gtL_F, lt0_F, eq_T, eq_F, eqL_T, eqL_F, eqM_F, leM_F, nat_mod, i_10, i_01, i_m1, eq_self_iff_true, rw8_lt, up1_ne, up1_eq, wi_T, ite_self, tg_1, tg_68, tg_124, tg_177, tg_11, tg_17, tg_59, tg_78, tg_84, ln_7, ln_16, ln_233, ln_232, ln_6, true_and, and_true, not_true_eq_false, not_false_eq_true, false_implies, true_implies, implies_true, forall_const, forall_eq, if_true, if_false, false_and, and_false, show S'.1 1 0 = nI n from c2.2.1.1, e1]
      refine ⟨fun q => ?_, fun q => ?_⟩
      · simp only [q, false_and, if_false] at ih
        exact ih _ _ hS
      · have q := Classical.not_not.mp q
        simp only [q, true_and] at ih
        refine s_xo c2.1 c2.2.1 c2.2.2.1 hd c2.2.2.2.1 (by have := c2.2.2.2.2; omega) hm fun T hT => ?_
        simp only [ite_not] at ih
        exact ih _ _ (ex_tr hS (ex_mono hT (by decide) (by decide)))
  exact key 0 (by omega) S none (ex_id S)
end ANSWER
/-! the game -/
def cI : Nat → Int32
  | 0 => -1
  | k + 1 => nI k
theorem cI_s : ∀ D, cI D + 1 = cI (D + 1)
  | 0 => by decide
  | k + 1 => nI_s k
theorem cI_F : ∀ {D m : Nat}, D ≤ m → m < 2 ^ 30 → (nI m ≤ cI D) = False
  | 0, m, _, h => leM_F (by omega)
  | k + 1, m, h, h2 => eq_false (nI_ge (by omega) (by omega))
theorem cI_T : ∀ {D m : Nat}, m < D → D < 2 ^ 30 → (nI m ≤ cI D) = True
  | 0, m, h, _ => absurd h (by omega)
  | k + 1, m, h, h2 => eq_true (nI_le (by omega) (by omega))
theorem cI_p : ∀ D H, f_Cook_pair (cI D) (cI H) = nI (9 * D + H)
  | D, H => by
    unfold f_Cook_pair
    rw [cI_s D, Int32.add_assoc, cI_s H, show cI (D + 1) = nI D from rfl, show cI (H + 1) = nI H from rfl, mul_lit, nI_add, Nat.mul_comm]
theorem cN_shift {q : Nat → Bool} : ∀ k, cN q (k + 1) = (if q 0 = true then 1 else 0) + cN (fun z => q (z + 1)) k
  | 0 => by simp [cN]
  | k + 1 => by
    rw [cN, cN_shift k, cN]
    omega
theorem cN_cong {p q : Nat → Bool} : ∀ {n : Nat}, (∀ z, z < n → p z = q z) → cN p n = cN q n
  | 0, _ => rfl
  | n + 1, h => by rw [cN, cN, cN_cong (n := n) fun z hz => h z (by omega), h n (by omega)]
theorem cN_le {p : Nat → Bool} : ∀ n, cN p n ≤ n
  | 0 => Nat.le_refl _
  | n + 1 => by
    have := cN_le (p := p) n
    rw [cN]
    split <;> omega
/-- none first, or none last -/
def rt (n H : Nat) : Nat := if H = 0 then n else H - 1
theorem cN_rt {p : Nat → Bool} {n : Nat} : cN (fun H => p (rt n H)) (n + 1) = cN p (n + 1) := by
  rw [cN_shift, cN]
  have e : cN (fun z => p (rt n (z + 1))) n = cN p n := cN_cong fun z _ => by unfold rt; rw [if_neg (by omega), Nat.add_sub_cancel]
  rw [e, show rt n 0 = n from rfl]
  omega
def sN (f : Nat → Nat) : Nat → Nat
  | 0 => 0
  | k + 1 => sN f k + f k
theorem sN_shift {f : Nat → Nat} : ∀ k, sN f (k + 1) = f 0 + sN (fun z => f (z + 1)) k
  | 0 => by simp [sN]
  | k + 1 => by
    rw [sN, sN_shift k, sN]
    omega
theorem sN_cong {f g : Nat → Nat} : ∀ {n : Nat}, (∀ z, z < n → f z = g z) → sN f n = sN g n
  | 0, _ => rfl
  | n + 1, h => by rw [sN, sN, sN_cong (n := n) fun z hz => h z (by omega), h n (by omega)]
theorem sN_rt {f : Nat → Nat} {n : Nat} : sN (fun H => f (rt n H)) (n + 1) = sN f (n + 1) := by
  rw [sN_shift, sN]
  have e : sN (fun z => f (rt n (z + 1))) n = sN f n := sN_cong fun z _ => by unfold rt; rw [if_neg (by omega), Nat.add_sub_cancel]
  rw [e, show rt n 0 = n from rfl]
  omega
theorem sN_le {f : Nat → Nat} {B : Nat} (h : ∀ z, f z ≤ B) : ∀ n, sN f n ≤ B * n
  | 0 => Nat.zero_le _
  | n + 1 => by
    have := sN_le h n
    have := h n
    rw [sN, Nat.mul_succ]
    omega
/-- all below K -/
def pal (P : Nat → Bool) : Nat → Bool
  | 0 => true
  | k + 1 => pal P k && P k
theorem pal_iff {P : Nat → Bool} : ∀ {K : Nat}, pal P K = true ↔ ∀ k, k < K → P k = true
  | 0 => by simp [pal]
  | K + 1 => by
    rw [pal, Bool.and_eq_true, pal_iff (K := K)]
    constructor
    · rintro ⟨h1, h2⟩ k hk
      by_cases e : k = K
      · subst e; exact h2
      · exact h1 k (by omega)
    · intro h
      exact ⟨fun k hk => h k (by omega), h K (by omega)⟩
/-- how many open: dish d (m: none), street x (n: none) -/
def gv (A : Nat → Int32) (n m mm d x : Nat) : Int32 := if d < m then nI (bc (po A d (if x < n then nI x else -1) mm) n) else 0
def rs (A : Nat → Int32) (n m mm d x : Nat) : Bool :=
  pal (fun o => decide (¬ gv A n m mm d x < gv A n m mm o x)) (m + 1) && pal (fun o => decide (¬ gv A n m mm d o < gv A n m mm d x)) (n + 1)
def gaA (A : Nat → Int32) (n m mm : Nat) : Nat := sN (fun d => cN (fun x => rs A n m mm d x) (n + 1)) (m + 1)
theorem gv_9 {A : Nat → Int32} {n m mm : Nat} (hn : n ≤ 8) (o x : Nat) : gv A n m mm o x = gv A n m mm o (min x n) := by
  unfold gv
  split
  · congr 3
    by_cases h : x < n
    · rw [if_pos h, show min x n = x by omega, if_pos h]
    · rw [if_neg h, show min x n = n by omega, if_neg (by omega)]
  · rfl
theorem cnt_if {b : Bool} {a : Nat} : nI a + (if (if b = true then (1 : Int32) else 0) = 0 then (0 : Int32) else 1) = nI (a + if b = true then 1 else 0) := by
  cases b
  · exact Int32.add_zero _
  · exact nI_s a
theorem st_if {b : Bool} {P : Prop} [Decidable P] : (if (if b = true then (1 : Int32) else 0) = 0 then (0 : Int32) else if P then 0 else 1) = if (b && decide (¬ P)) = true then 1 else 0 := by
  cases b
  · rfl
  · by_cases h : P <;> simp [h]
theorem wi_m1 {b : Int32} : f_X_within (-1) 0 b = 0 := by unfold f_X_within; rw [if_pos (by decide)]
section GAME
variable {d n m y : Nat} {S : fm_S} {A : Nat → Int32} {mm : Nat}
theorem n_bits_0 : n_bits 0 8 = 0 := by decide
theorem s_mgame {Q : Int32 → fm_S → Prop} (c : MX S n m y) (hm : mm ≤ 9)
    (W : ∀ S', ex 238 242 S S' → Q (nI (gaA (S.1 232) n m mm)) S') :
    H_M_game_19 d (nI mm) 0 none none none none S Q := by
  have hn := c.1.1
  have hm6 := c.1.2.1
  have fin : ∀ S', ex 238 242 S S' → (∀ k, k < 63 → k / 9 ≤ m → k % 9 ≤ n → S'.1 242 k = gv (S.1 232) n m mm (k / 9) (k % 9)) → ∀ o4 o5 o6, H_M_game_91 d (nI mm) 0 0 o4 o5 o6 S' Q := by
    intro S' hS hT
    have c2 := MX_ex hS c
    have tv : ∀ o x, o ≤ m → x ≤ n → S'.1 242 (9 * o + x) = gv (S.1 232) n m mm o x := fun o x ho hx => by
      have z := hT (9 * o + x) (by omega) (by omega) (by omega)
      rw [show (9 * o + x) / 9 = o by omega, show (9 * o + x) % 9 = x by omega] at z
      exact z
    have key : ∀ e, e ≤ m + 1 → ∀ o4 o5 o6, H_M_game_91 d (nI mm) (nI (sN (fun d => cN (fun x => rs (S.1 232) n m mm d x) (n + 1)) e)) (nI e) o4 o5 o6 S' Q := by
      refine up_to (fun o4 o5 o6 => ?_) fun e he ih o4 o5 o6 => ?_
      · refine p_M_game_91 ?_
        simp (disch := omega) only [lit_add, add_lit, lit_mul, mul_lit, nI_add, nI_clamp, nI_subI, nI_sub1, nI_divL, vp_T, ge_F, ge_T, geL_F, geL_T, leL_F, leL_T, le0_F, le0_T, ge0_T, row_self, row_ne, row_l, row_p, row_row, wI_row, wI_same, wI_cell, wI_place, wI_l, wI_p, lt_T, lt_F, ltL_T, ltL_F, gtL_T, gtL_F, lt0_F, eq_T, eq_F, eqL_T, eqL_F, eqM_F, leM_F, nat_mod, i_10, i_01, i_m1, eq_self_iff_true, rw8_lt, up1_ne, up1_eq, wi_T, ite_self, tg_1, tg_68, tg_124, tg_177, tg_11, tg_17, tg_59, tg_78, tg_84, ln_7, ln_16, ln_233, ln_232, ln_6, true_and, and_true, not_true_eq_false, not_false_eq_true, false_implies, true_implies, implies_true, forall_const, forall_eq, if_true, if_false, false_and, and_false, c2.1.2.2.2.1]
        exact W S' hS
      · refine p_M_game_91 ?_
        simp (disch := omega) only [lit_add, add_lit, lit_mul, mul_lit, nI_add, nI_clamp, nI_subI, nI_sub1, nI_divL, vp_T, ge_F, ge_T, geL_F, geL_T, leL_F, leL_T, le0_F, le0_T, ge0_T, row_self, row_ne, row_l, row_p, row_row, wI_row, wI_same, wI_cell, wI_place, wI_l, wI_p, lt_T, lt_F, ltL_T, ltL_F, gtL_T, gtL_F, lt0_F, eq_T, eq_F, eqL_T, eqL_F, eqM_F, leM_F, nat_mod, i_10, i_01, i_m1, eq_self_iff_true, rw8_lt, up1_ne, up1_eq, wi_T, ite_self, tg_1, tg_68, tg_124, tg_177, tg_11, tg_17, tg_59, tg_78, tg_84, ln_7, ln_16, ln_233, ln_232, ln_6, true_and, and_true, not_true_eq_false, not_false_eq_true, false_implies, true_implies, implies_true, forall_const, forall_eq, if_true, if_false, false_and, and_false, c2.1.2.2.2.1]
        rw [sN] at ih
        generalize sN (fun d => cN (fun x => rs (S.1 232) n m mm d x) (n + 1)) e = s0 at ih ⊢
        have loop : ∀ x, x ≤ n + 1 → ∀ o5 o6, H_M_game_104 d (nI mm) (nI (s0 + cN (fun x => rs (S.1 232) n m mm e x) x)) (nI e) (nI x) o5 o6 S' Q := by
          refine up_to (fun o5 o6 => ?_) fun x hx ih2 o5 o6 => ?_
          · refine p_M_game_104 ?_
            simp (disch := omega) only [lit_add, add_lit, lit_mul, mul_lit, nI_add, nI_clamp, nI_subI, nI_sub1, nI_divL, vp_T, ge_F, ge_T, geL_F, geL_T, leL_F, leL_T, le0_F, le0_T, ge0_T, row_self, row_ne, row_l, row_p, row_row, wI_row, wI_same, wI_cell, wI_place, wI_l, wI_p, lt_T, lt_F, ltL_T, ltL_F, gtL_T, gtL_F, lt0_F, eq_T, eq_F, eqL_T, eqL_F, eqM_F, leM_F, nat_mod, i_10, i_01, i_m1, eq_self_iff_true, rw8_lt, up1_ne, up1_eq, wi_T, ite_self, tg_1, tg_68, tg_124, tg_177, tg_11, tg_17, tg_59, tg_78, tg_84, ln_7, ln_16, ln_233, ln_232, ln_6, true_and, and_true, not_true_eq_false, not_false_eq_true, false_implies, true_implies, implies_true, forall_const, forall_eq, if_true, if_false, false_and, and_false, c2.1.2.2.1]
            exact ih _ _ _
          · refine p_M_game_104 ?_
            simp (disch := omega) only [lit_add, add_lit, lit_mul, mul_lit, nI_add, nI_clamp, nI_subI, nI_sub1, nI_divL, vp_T, ge_F, ge_T, geL_F, geL_T, leL_F, leL_T, le0_F, le0_T, ge0_T, row_self, row_ne, row_l, row_p, row_row, wI_row, wI_same, wI_cell, wI_place, wI_l, wI_p, lt_T, lt_F, ltL_T, ltL_F, gtL_T, gtL_F, lt0_F, eq_T, eq_F, eqL_T, eqL_F, eqM_F, leM_F, nat_mod, i_10, i_01, i_m1, eq_self_iff_true, rw8_lt, up1_ne, up1_eq, wi_T, ite_self, tg_1, tg_68, tg_124, tg_177, tg_11, tg_17, tg_59, tg_78, tg_84, ln_7, ln_16, ln_233, ln_232, ln_6, true_and, and_true, not_true_eq_false, not_false_eq_true, false_implies, true_implies, implies_true, forall_const, forall_eq, if_true, if_false, false_and, and_false, c2.1.2.2.1]
            rw [cN] at ih2
            generalize hc : cN (fun x => rs (S.1 232) n m mm e x) x = c0 at ih2 ⊢
            generalize hF1 : (fun o => decide (¬ gv (S.1 232) n m mm e x < gv (S.1 232) n m mm o x)) = F1
            generalize hF2 : (fun o => decide (¬ gv (S.1 232) n m mm e o < gv (S.1 232) n m mm e x)) = F2
            have hrs : rs (S.1 232) n m mm e x = (pal F1 (m + 1) && pal F2 (n + 1)) := by rw [← hF1, ← hF2]; rfl
            rw [hrs, ← Nat.add_assoc] at ih2
            have loop1 : ∀ o, o ≤ m + 1 → H_M_game_121 d (nI mm) (nI (s0 + c0)) (nI e) (nI x) (if pal F1 o = true then 1 else 0) (nI o) S' Q := by
              refine up_to ?_ fun o ho ih3 => ?_
              · generalize pal F1 (m + 1) = b1 at ih2 ⊢
                refine p_M_game_121 ?_
                simp (disch := omega) only [lit_add, add_lit, lit_mul, mul_lit, nI_add, nI_clamp, nI_subI, nI_sub1, nI_divL, vp_T, ge_F, ge_T, geL_F, geL_T, leL_F, leL_T, le0_F, le0_T, ge0_T, row_self, row_ne, row_l, row_p, row_row, wI_row, wI_same, wI_cell, wI_place, wI_l, wI_p, lt_T, lt_F, ltL_T, ltL_F, gtL_T, gtL_F, lt0_F, eq_T, eq_F, eqL_T, eqL_F, eqM_F, leM_F, nat_mod, i_10, i_01, i_m1, eq_self_iff_true, rw8_lt, up1_ne, up1_eq, wi_T, ite_self, tg_1, tg_68, tg_124, tg_177, tg_11, tg_17, tg_59, tg_78, tg_84, ln_7, ln_16, ln_233, ln_232, ln_6, true_and, and_true, not_true_eq_false, not_false_eq_true, false_implies, true_implies, implies_true, forall_const, forall_eq, if_true, if_false, false_and, and_false, c2.1.2.2.2.1]
                have loop2 : ∀ o, o ≤ n + 1 → H_M_game_181 d (nI mm) (nI (s0 + c0)) (nI e) (nI x) (if (b1 && pal F2 o) = true then 1 else 0) (nI o) S' Q := by
                  refine up_to ?_ fun o ho ih3 => ?_
                  · generalize (b1 && pal F2 (n + 1)) = b at ih2 ⊢
                    refine p_M_game_181 ?_
                    simp (disch := omega) only [lit_add, add_lit, lit_mul, mul_lit, nI_add, nI_clamp, nI_subI, nI_sub1, nI_divL, vp_T, ge_F, ge_T, geL_F, geL_T, leL_F, leL_T, le0_F, le0_T, ge0_T, row_self, row_ne, row_l, row_p, row_row, wI_row, wI_same, wI_cell, wI_place, wI_l, wI_p, lt_T, lt_F, ltL_T, ltL_F, gtL_T, gtL_F, lt0_F, eq_T, eq_F, eqL_T, eqL_F, eqM_F, leM_F, nat_mod, i_10, i_01, i_m1, eq_self_iff_true, rw8_lt, up1_ne, up1_eq, wi_T, ite_self, tg_1, tg_68, tg_124, tg_177, tg_11, tg_17, tg_59, tg_78, tg_84, ln_7, ln_16, ln_233, ln_232, ln_6, true_and, and_true, not_true_eq_false, not_false_eq_true, false_implies, true_implies, implies_true, forall_const, forall_eq, if_true, if_false, false_and, and_false, c2.1.2.2.1]
                    rw [cnt_if]
                    exact ih2 _ _
                  · rw [show pal F2 (o + 1) = (pal F2 o && F2 o) from rfl, ← Bool.and_assoc] at ih3
                    generalize (b1 && pal F2 o) = b at ih3 ⊢
                    have hf : F2 o = decide (¬ gv (S.1 232) n m mm e o < gv (S.1 232) n m mm e x) := by rw [← hF2]
                    rw [hf] at ih3
                    refine p_M_game_181 ?_
                    simp (disch := omega) only [lit_add, add_lit, lit_mul, mul_lit, nI_add, nI_clamp, nI_subI, nI_sub1, nI_divL, vp_T, ge_F, ge_T, geL_F, geL_T, leL_F, leL_T, le0_F, le0_T, ge0_T, row_self, row_ne, row_l, row_p, row_row, wI_row, wI_same, wI_cell, wI_place, wI_l, wI_p, lt_T, lt_F, ltL_T, ltL_F, gtL_T, gtL_F, lt0_F, eq_T, eq_F, eqL_T, eqL_F, eqM_F, leM_F, nat_mod, i_10, i_01, i_m1, eq_self_iff_true, rw8_lt, up1_ne, up1_eq, wi_T, ite_self, tg_1, tg_68, tg_124, tg_177, tg_11, tg_17, tg_59, tg_78, tg_84, ln_7, ln_16, ln_233, ln_232, ln_6, true_and, and_true, not_true_eq_false, not_false_eq_true, false_implies, true_implies, implies_true, forall_const, forall_eq, if_true, if_false, false_and, and_false, c2.1.2.2.1, tv]
                    rw [st_if]
                    exact ih3
                have z := loop2 0 (by omega)
                rw [show pal F2 0 = true from rfl, Bool.and_true] at z
                exact z
              · rw [show pal F1 (o + 1) = (pal F1 o && F1 o) from rfl] at ih3
                generalize pal F1 o = b at ih3 ⊢
                have hf : F1 o = decide (¬ gv (S.1 232) n m mm e x < gv (S.1 232) n m mm o x) := by rw [← hF1]
                rw [hf] at ih3
                refine p_M_game_121 ?_
                simp (disch := omega) only [lit_add, add_lit, lit_mul, mul_lit, nI_add, nI_clamp, nI_subI, nI_sub1, nI_divL, vp_T, ge_F, ge_T, geL_F, geL_T, leL_F, leL_T, le0_F, le0_T, ge0_T, row_self, row_ne, row_l, row_p, row_row, wI_row, wI_same, wI_cell, wI_place, wI_l, wI_p, lt_T, lt_F, ltL_T, ltL_F, gtL_T, gtL_F, lt0_F, eq_T, eq_F, eqL_T, eqL_F, eqM_F, leM_F, nat_mod, i_10, i_01, i_m1, eq_self_iff_true, rw8_lt, up1_ne, up1_eq, wi_T, ite_self, tg_1, tg_68, tg_124, tg_177, tg_11, tg_17, tg_59, tg_78, tg_84, ln_7, ln_16, ln_233, ln_232, ln_6, true_and, and_true, not_true_eq_false, not_false_eq_true, false_implies, true_implies, implies_true, forall_const, forall_eq, if_true, if_false, false_and, and_false, c2.1.2.2.2.1, tv]
                rw [st_if]
                exact ih3
            exact loop1 0 (by omega)
        exact loop 0 (by omega) _ _
    exact key 0 (by omega)
  have key : ∀ k, k ≤ 63 → ∀ S', ex 238 242 S S' → (∀ k', k' < k → k' / 9 ≤ m → k' % 9 ≤ n → S'.1 242 k' = gv (S.1 232) n m mm (k' / 9) (k' % 9)) → ∀ o3 o4 o5 o6, H_M_game_19 d (nI mm) (nI k) o3 o4 o5 o6 S' Q := by
    refine up_to (fun S' hS hT o3 o4 o5 o6 => ?_) fun k hk ih S' hS hT o3 o4 o5 o6 => ?_
    · refine p_M_game_19 ?_
      simp (disch := omega) only [lit_add, add_lit, lit_mul, mul_lit, nI_add, nI_clamp, nI_subI, nI_sub1, nI_divL, vp_T, ge_F, ge_T, geL_F, geL_T, leL_F, leL_T, le0_F, le0_T, ge0_T, row_self, row_ne, row_l, row_p, row_row, wI_row, wI_same, wI_cell, wI_place, wI_l, wI_p, lt_T, lt_F, ltL_T, ltL_F, gtL_T, gtL_F, lt0_F, eq_T, eq_F, eqL_T, eqL_F, eqM_F, leM_F, nat_mod, i_10, i_01, i_m1, eq_self_iff_true, rw8_lt, up1_ne, up1_eq, wi_T, ite_self, tg_1, tg_68, tg_124, tg_177, tg_11, tg_17, tg_59, tg_78, tg_84, ln_7, ln_16, ln_233, ln_232, ln_6, true_and, and_true, not_true_eq_false, not_false_eq_true, false_implies, true_implies, implies_true, forall_const, forall_eq, if_true, if_false, false_and, and_false]
      exact fin S' hS hT _ _ _
    · have c2 := MX_ex hS c
      have hv5 : (if nI n ≤ nI (k % 9) then (-1 : Int32) else nI (k % 9)) = if k % 9 < n then nI (k % 9) else -1 := by
        by_cases q : k % 9 < n
        · rw [if_neg (nI_ge q (by omega)), if_pos q]
        · rw [if_pos (nI_le (by omega) (by omega)), if_neg q]
      refine p_M_game_19 ?_
      by_cases q : k / 9 < m
      · simp (disch := omega) only [lit_add, add_lit, lit_mul, mul_lit, nI_add, nI_clamp, nI_subI, nI_sub1, nI_divL, vp_T, ge_F, ge_T, geL_F, geL_T, leL_F, leL_T, le0_F, le0_T, ge0_T, row_self, row_ne, row_l, row_p, row_row, wI_row, wI_same, wI_cell, wI_place, wI_l, wI_p, lt_T, lt_F, ltL_T, ltL_F, gtL_T, gtL_F, lt0_F, eq_T, eq_F, eqL_T, eqL_F, eqM_F, leM_F, nat_mod, i_10, i_01, i_m1, eq_self_iff_true, rw8_lt, up1_ne, up1_eq, wi_T, ite_self, tg_1, tg_68, tg_124, tg_177, tg_11, tg_17, tg_59, tg_78, tg_84, ln_7, ln_16, ln_233, ln_232, ln_6, true_and, and_true, not_true_eq_false, not_false_eq_true, false_implies, true_implies, implies_true, forall_const, forall_eq, if_true, if_false, false_and, and_false, c2.1.2.2.1, c2.1.2.2.2.1]
        rw [hv5]
        refine s_mo c2.1 c2.2.1 (by have := c2.2.2; omega) q hm fun v hv => ?_
        rw [ex_A hS, bt_bits hn]
        refine ih _ (ex_wI (ex_row hS (by decide) (by decide)) (by decide) (by decide)) (fun k' h1 h2 h3 => ?_) _ _ _ _
        by_cases e : k' = k
        · subst e
          rw [wI_same]
          unfold gv
          rw [if_pos q]
        · rw [wI_place e, row_ne (by decide)]
          exact hT k' (by omega) h2 h3
      · simp (disch := omega) only [lit_add, add_lit, lit_mul, mul_lit, nI_add, nI_clamp, nI_subI, nI_sub1, nI_divL, vp_T, ge_F, ge_T, geL_F, geL_T, leL_F, leL_T, le0_F, le0_T, ge0_T, row_self, row_ne, row_l, row_p, row_row, wI_row, wI_same, wI_cell, wI_place, wI_l, wI_p, lt_T, lt_F, ltL_T, ltL_F, gtL_T, gtL_F, lt0_F, eq_T, eq_F, eqL_T, eqL_F, eqM_F, leM_F, nat_mod, i_10, i_01, i_m1, eq_self_iff_true, rw8_lt, up1_ne, up1_eq, wi_T, ite_self, tg_1, tg_68, tg_124, tg_177, tg_11, tg_17, tg_59, tg_78, tg_84, ln_7, ln_16, ln_233, ln_232, ln_6, true_and, and_true, not_true_eq_false, not_false_eq_true, false_implies, true_implies, implies_true, forall_const, forall_eq, if_true, if_false, false_and, and_false, c2.1.2.2.1, c2.1.2.2.2.1]
        refine s_mo0 (by rw [isDish_w, wi_m1]) ?_
        rw [n_bits_0]
        refine ih _ (ex_wI hS (by decide) (by decide)) (fun k' h1 h2 h3 => ?_) _ _ _ _
        by_cases e : k' = k
        · subst e
          rw [wI_same]
          unfold gv
          rw [if_neg q]
        · rw [wI_place e]
          exact hT k' (by omega) h2 h3
  exact key 0 (by omega) S (ex_id S) (fun k' h => absurd h (by omega)) _ _ _ _
/-- the class' rests -/
theorem s_xrests {Q : Int32 → fm_S → Prop} {T : fm_S} {D H : Nat} (h1 : T.1 1 0 = nI n) (h7 : T.1 1 7 = nI m) (hn : n ≤ 8) (hm6 : m ≤ 6) (hD : D ≤ m) (hH : H ≤ n)
    (hT : ∀ D H, D ≤ m → H ≤ n → T.1 66 (9 * D + H) = gv A n m mm (rt m D) (rt n H))
    (W : Q (if rs A n m mm (rt m D) (rt n H) = true then 1 else 0) T) :
    am_Ps vI (d + 1) k_Cook_rests [.ref 54, .int (cI D), .int (cI H)] T Q := by
  refine e_Cook_rests ?_
  simp (disch := omega) only [lit_add, add_lit, lit_mul, mul_lit, nI_add, nI_clamp, nI_subI, nI_sub1, nI_divL, vp_T, ge_F, ge_T, geL_F, geL_T, leL_F, leL_T, le0_F, le0_T, ge0_T, row_self, row_ne, row_l, row_p, row_row, wI_row, wI_same, wI_cell, wI_place, wI_l, wI_p, lt_T, lt_F, ltL_T, ltL_F, gtL_T, gtL_F, lt0_F, eq_T, eq_F, eqL_T, eqL_F, eqM_F, leM_F, nat_mod, i_10, i_01, i_m1, eq_self_iff_true, rw8_lt, up1_ne, up1_eq, wi_T, ite_self, tg_1, tg_68, tg_124, tg_177, tg_11, tg_17, tg_59, tg_78, tg_84, ln_7, ln_16, ln_233, ln_232, ln_6, true_and, and_true, not_true_eq_false, not_false_eq_true, false_implies, true_implies, implies_true, forall_const, forall_eq, if_true, if_false, false_and, and_false, cI_p, hT]
  have bad : rs A n m mm (rt m D) (rt n H) = false → Q 0 T := fun q => by rw [q] at W; exact W
  have l2 : (∀ O, O ≤ m → ¬ gv A n m mm (rt m D) (rt n H) < gv A n m mm (rt m O) (rt n H)) → ∀ O, O ≤ n + 1 → (∀ O', O' < O → ¬ gv A n m mm (rt m D) (rt n O') < gv A n m mm (rt m D) (rt n H)) → H_Cook_rests_52 d (cI D) (cI H) (gv A n m mm (rt m D) (rt n H)) (cI O) T Q := by
    intro ha
    refine up_to (fun hb => ?_) fun O hO ih hb => ?_
    · refine p_Cook_rests_52 ?_
      simp (disch := omega) only [lit_add, add_lit, lit_mul, mul_lit, nI_add, nI_clamp, nI_subI, nI_sub1, nI_divL, vp_T, ge_F, ge_T, geL_F, geL_T, leL_F, leL_T, le0_F, le0_T, ge0_T, row_self, row_ne, row_l, row_p, row_row, wI_row, wI_same, wI_cell, wI_place, wI_l, wI_p, lt_T, lt_F, ltL_T, ltL_F, gtL_T, gtL_F, lt0_F, eq_T, eq_F, eqL_T, eqL_F, eqM_F, leM_F, nat_mod, i_10, i_01, i_m1, eq_self_iff_true, rw8_lt, up1_ne, up1_eq, wi_T, ite_self, tg_1, tg_68, tg_124, tg_177, tg_11, tg_17, tg_59, tg_78, tg_84, ln_7, ln_16, ln_233, ln_232, ln_6, true_and, and_true, not_true_eq_false, not_false_eq_true, false_implies, true_implies, implies_true, forall_const, forall_eq, if_true, if_false, false_and, and_false, cI_T, cI_F, h1]
      have z : rs A n m mm (rt m D) (rt n H) = true := by
        unfold rs
        rw [Bool.and_eq_true, pal_iff, pal_iff]
        refine ⟨fun o ho => decide_eq_true ?_, fun o ho => decide_eq_true ?_⟩
        · have e : rt m (if o = m then 0 else o + 1) = o := by unfold rt; split <;> (try split) <;> omega
          have := ha (if o = m then 0 else o + 1) (by split <;> omega)
          rw [e] at this
          exact this
        · have e : rt n (if o = n then 0 else o + 1) = o := by unfold rt; split <;> (try split) <;> omega
          have := hb (if o = n then 0 else o + 1) (by split <;> omega)
          rw [e] at this
          exact this
      rw [z] at W
      exact W
    · refine p_Cook_rests_52 ?_
      simp (disch := omega) only [lit_add, add_lit, lit_mul, mul_lit, nI_add, nI_clamp, nI_subI, nI_sub1, nI_divL, vp_T, ge_F, ge_T, geL_F, geL_T, leL_F, leL_T, le0_F, le0_T, ge0_T, row_self, row_ne, row_l, row_p, row_row, wI_row, wI_same, wI_cell, wI_place, wI_l, wI_p, lt_T, lt_F, ltL_T, ltL_F, gtL_T, gtL_F, lt0_F, eq_T, eq_F, eqL_T, eqL_F, eqM_F, leM_F, nat_mod, i_10, i_01, i_m1, eq_self_iff_true, rw8_lt, up1_ne, up1_eq, wi_T, ite_self, tg_1, tg_68, tg_124, tg_177, tg_11, tg_17, tg_59, tg_78, tg_84, ln_7, ln_16, ln_233, ln_232, ln_6, true_and, and_true, not_true_eq_false, not_false_eq_true, false_implies, true_implies, implies_true, forall_const, forall_eq, if_true, if_false, false_and, and_false, cI_F, h1, cI_p, hT, cI_s]
      refine ⟨fun q => ih fun O' hO' => ?_, fun q => bad ?_⟩
      · by_cases e : O' = O
        · subst e; exact Int32.not_lt.mpr q
        · exact hb O' (by omega)
      · rcases z : rs A n m mm (rt m D) (rt n H) with _ | _
        · rfl
        · unfold rs at z
          rw [Bool.and_eq_true, pal_iff, pal_iff] at z
          have := of_decide_eq_true (z.2 (rt n O) (by unfold rt; split <;> omega))
          exact absurd (Int32.not_lt.mp this) q
  have l1 : ∀ O, O ≤ m + 1 → (∀ O', O' < O → ¬ gv A n m mm (rt m D) (rt n H) < gv A n m mm (rt m O') (rt n H)) → H_Cook_rests_14 d (cI D) (cI H) (gv A n m mm (rt m D) (rt n H)) (cI O) T Q := by
    refine up_to (fun hb => ?_) fun O hO ih hb => ?_
    · refine p_Cook_rests_14 ?_
      simp (disch := omega) only [lit_add, add_lit, lit_mul, mul_lit, nI_add, nI_clamp, nI_subI, nI_sub1, nI_divL, vp_T, ge_F, ge_T, geL_F, geL_T, leL_F, leL_T, le0_F, le0_T, ge0_T, row_self, row_ne, row_l, row_p, row_row, wI_row, wI_same, wI_cell, wI_place, wI_l, wI_p, lt_T, lt_F, ltL_T, ltL_F, gtL_T, gtL_F, lt0_F, eq_T, eq_F, eqL_T, eqL_F, eqM_F, leM_F, nat_mod, i_10, i_01, i_m1, eq_self_iff_true, rw8_lt, up1_ne, up1_eq, wi_T, ite_self, tg_1, tg_68, tg_124, tg_177, tg_11, tg_17, tg_59, tg_78, tg_84, ln_7, ln_16, ln_233, ln_232, ln_6, true_and, and_true, not_true_eq_false, not_false_eq_true, false_implies, true_implies, implies_true, forall_const, forall_eq, if_true, if_false, false_and, and_false, cI_T, cI_F, h7]
      exact l2 (fun O hO => hb O (by omega)) 0 (by omega) (fun O' h => absurd h (by omega))
    · refine p_Cook_rests_14 ?_
      simp (disch := omega) only [lit_add, add_lit, lit_mul, mul_lit, nI_add, nI_clamp, nI_subI, nI_sub1, nI_divL, vp_T, ge_F, ge_T, geL_F, geL_T, leL_F, leL_T, le0_F, le0_T, ge0_T, row_self, row_ne, row_l, row_p, row_row, wI_row, wI_same, wI_cell, wI_place, wI_l, wI_p, lt_T, lt_F, ltL_T, ltL_F, gtL_T, gtL_F, lt0_F, eq_T, eq_F, eqL_T, eqL_F, eqM_F, leM_F, nat_mod, i_10, i_01, i_m1, eq_self_iff_true, rw8_lt, up1_ne, up1_eq, wi_T, ite_self, tg_1, tg_68, tg_124, tg_177, tg_11, tg_17, tg_59, tg_78, tg_84, ln_7, ln_16, ln_233, ln_232, ln_6, true_and, and_true, not_true_eq_false, not_false_eq_true, false_implies, true_implies, implies_true, forall_const, forall_eq, if_true, if_false, false_and, and_false, cI_F, h7, cI_p, hT, cI_s]
      refine ⟨fun q => ih fun O' hO' => ?_, fun q => bad ?_⟩
      · by_cases e : O' = O
        · subst e; exact Int32.not_lt.mpr q
        · exact hb O' (by omega)
      · rcases z : rs A n m mm (rt m D) (rt n H) with _ | _
        · rfl
        · unfold rs at z
          rw [Bool.and_eq_true, pal_iff, pal_iff] at z
          have := of_decide_eq_true (z.1 (rt m O) (by unfold rt; split <;> omega))
          exact absurd (Int32.not_lt.mp this) q
  exact l1 0 (by omega) (fun O' h => absurd h (by omega))
theorem s_xgame {Q : Int32 → fm_S → Prop} (c : CX S A n m y) (hm : mm ≤ 9)
    (W : ∀ S', ex 54 66 S S' → Q (nI (gaA A n m mm)) S') :
    am_Ps vI (d + 5) k_Cook_restingPairs [.ref 54, .int (nI mm)] S Q := by
  have hn := c.1.1
  have hm6 := c.1.2.1
  refine e_Cook_restingPairs ?_
  have fin : ∀ S', ex 54 66 S S' → (∀ D H, D ≤ m → H ≤ n → S'.1 66 (9 * D + H) = gv A n m mm (rt m D) (rt n H)) → ∀ o4, H_Cook_restingPairs_59 d (nI mm) 0 (-1) o4 S' Q := by
    intro S' hS hT
    have c2 := CX_ex hS c
    have h1 : S'.1 1 0 = nI n := c2.2.1.1
    have h7 : S'.1 1 7 = nI m := c2.2.1.2.1
    have key : ∀ D, D ≤ m + 1 → ∀ o4, H_Cook_restingPairs_59 d (nI mm) (nI (sN (fun D => cN (fun x => rs A n m mm (rt m D) x) (n + 1)) D)) (cI D) o4 S' Q := by
      refine up_to (fun o4 => ?_) fun D hD ih o4 => ?_
      · refine p_Cook_restingPairs_59 ?_
        simp (disch := omega) only [lit_add, add_lit, lit_mul, mul_lit, nI_add, nI_clamp, nI_subI, nI_sub1, nI_divL, vp_T, ge_F, ge_T, geL_F, geL_T, leL_F, leL_T, le0_F, le0_T, ge0_T, row_self, row_ne, row_l, row_p, row_row, wI_row, wI_same, wI_cell, wI_place, wI_l, wI_p, lt_T, lt_F, ltL_T, ltL_F, gtL_T, gtL_F, lt0_F, eq_T, eq_F, eqL_T, eqL_F, eqM_F, leM_F, nat_mod, i_10, i_01, i_m1, eq_self_iff_true, rw8_lt, up1_ne, up1_eq, wi_T, ite_self, tg_1, tg_68, tg_124, tg_177, tg_11, tg_17, tg_59, tg_78, tg_84, ln_7, ln_16, ln_233, ln_232, ln_6, true_and, and_true, not_true_eq_false, not_false_eq_true, false_implies, true_implies, implies_true, forall_const, forall_eq, if_true, if_false, false_and, and_false, h7, cI_T]
        have z := W S' hS
        unfold gaA at z
        rw [← sN_rt (f := fun d => cN (fun x => rs A n m mm d x) (n + 1))] at z
        exact z
      · refine p_Cook_restingPairs_59 ?_
        simp (disch := omega) only [lit_add, add_lit, lit_mul, mul_lit, nI_add, nI_clamp, nI_subI, nI_sub1, nI_divL, vp_T, ge_F, ge_T, geL_F, geL_T, leL_F, leL_T, le0_F, le0_T, ge0_T, row_self, row_ne, row_l, row_p, row_row, wI_row, wI_same, wI_cell, wI_place, wI_l, wI_p, lt_T, lt_F, ltL_T, ltL_F, gtL_T, gtL_F, lt0_F, eq_T, eq_F, eqL_T, eqL_F, eqM_F, leM_F, nat_mod, i_10, i_01, i_m1, eq_self_iff_true, rw8_lt, up1_ne, up1_eq, wi_T, ite_self, tg_1, tg_68, tg_124, tg_177, tg_11, tg_17, tg_59, tg_78, tg_84, ln_7, ln_16, ln_233, ln_232, ln_6, true_and, and_true, not_true_eq_false, not_false_eq_true, false_implies, true_implies, implies_true, forall_const, forall_eq, if_true, if_false, false_and, and_false, h7, cI_F]
        rw [sN] at ih
        generalize sN (fun D => cN (fun x => rs A n m mm (rt m D) x) (n + 1)) D = s0 at ih ⊢
        have loop : ∀ H, H ≤ n + 1 → H_Cook_restingPairs_73 d (nI mm) (nI (s0 + cN (fun H => rs A n m mm (rt m D) (rt n H)) H)) (cI D) (cI H) S' Q := by
          refine up_to ?_ fun H hH ih2 => ?_
          · refine p_Cook_restingPairs_73 ?_
            simp (disch := omega) only [lit_add, add_lit, lit_mul, mul_lit, nI_add, nI_clamp, nI_subI, nI_sub1, nI_divL, vp_T, ge_F, ge_T, geL_F, geL_T, leL_F, leL_T, le0_F, le0_T, ge0_T, row_self, row_ne, row_l, row_p, row_row, wI_row, wI_same, wI_cell, wI_place, wI_l, wI_p, lt_T, lt_F, ltL_T, ltL_F, gtL_T, gtL_F, lt0_F, eq_T, eq_F, eqL_T, eqL_F, eqM_F, leM_F, nat_mod, i_10, i_01, i_m1, eq_self_iff_true, rw8_lt, up1_ne, up1_eq, wi_T, ite_self, tg_1, tg_68, tg_124, tg_177, tg_11, tg_17, tg_59, tg_78, tg_84, ln_7, ln_16, ln_233, ln_232, ln_6, true_and, and_true, not_true_eq_false, not_false_eq_true, false_implies, true_implies, implies_true, forall_const, forall_eq, if_true, if_false, false_and, and_false, h1, cI_T, cI_s]
            rw [cN_rt (p := fun x => rs A n m mm (rt m D) x)]
            exact ih _
          · refine p_Cook_restingPairs_73 ?_
            simp (disch := omega) only [lit_add, add_lit, lit_mul, mul_lit, nI_add, nI_clamp, nI_subI, nI_sub1, nI_divL, vp_T, ge_F, ge_T, geL_F, geL_T, leL_F, leL_T, le0_F, le0_T, ge0_T, row_self, row_ne, row_l, row_p, row_row, wI_row, wI_same, wI_cell, wI_place, wI_l, wI_p, lt_T, lt_F, ltL_T, ltL_F, gtL_T, gtL_F, lt0_F, eq_T, eq_F, eqL_T, eqL_F, eqM_F, leM_F, nat_mod, i_10, i_01, i_m1, eq_self_iff_true, rw8_lt, up1_ne, up1_eq, wi_T, ite_self, tg_1, tg_68, tg_124, tg_177, tg_11, tg_17, tg_59, tg_78, tg_84, ln_7, ln_16, ln_233, ln_232, ln_6, true_and, and_true, not_true_eq_false, not_false_eq_true, false_implies, true_implies, implies_true, forall_const, forall_eq, if_true, if_false, false_and, and_false, h1, cI_F, cI_s]
            refine s_xrests h1 h7 hn hm6 (by omega) (by omega) hT ?_
            rw [cN, ← Nat.add_assoc] at ih2
            generalize rs A n m mm (rt m D) (rt n H) = b at ih2 ⊢
            cases b with
            | false => exact ih2
            | true => exact ih2
        exact loop 0 (by omega)
    exact key 0 (by omega)
  have key : ∀ D, D ≤ m + 1 → ∀ S', ex 54 66 S S' → (∀ D' H, D' < D → H ≤ n → S'.1 66 (9 * D' + H) = gv A n m mm (rt m D') (rt n H)) → ∀ o3 o4, H_Cook_restingPairs_2 d (nI mm) (cI D) o3 o4 S' Q := by
    refine up_to (fun S' hS hT o3 o4 => ?_) fun D hD ih S' hS hT o3 o4 => ?_
    · have c2 := CX_ex hS c
      refine p_Cook_restingPairs_2 ?_
      simp (disch := omega) only [lit_add, add_lit, lit_mul, mul_lit, nI_add, nI_clamp, nI_subI, nI_sub1, nI_divL, vp_T, ge_F, ge_T, geL_F, geL_T, leL_F, leL_T, le0_F, le0_T, ge0_T, row_self, row_ne, row_l, row_p, row_row, wI_row, wI_same, wI_cell, wI_place, wI_l, wI_p, lt_T, lt_F, ltL_T, ltL_F, gtL_T, gtL_F, lt0_F, eq_T, eq_F, eqL_T, eqL_F, eqM_F, leM_F, nat_mod, i_10, i_01, i_m1, eq_self_iff_true, rw8_lt, up1_ne, up1_eq, wi_T, ite_self, tg_1, tg_68, tg_124, tg_177, tg_11, tg_17, tg_59, tg_78, tg_84, ln_7, ln_16, ln_233, ln_232, ln_6, true_and, and_true, not_true_eq_false, not_false_eq_true, false_implies, true_implies, implies_true, forall_const, forall_eq, if_true, if_false, false_and, and_false, show S'.1 1 7 = nI m from c2.2.1.2.1, cI_T]
      exact fin S' hS (fun D' H h1 h2 => hT D' H (by omega) h2) _
    · have c2 := CX_ex hS c
      refine p_Cook_restingPairs_2 ?_
      simp (disch := omega) only [lit_add, add_lit, lit_mul, mul_lit, nI_add, nI_clamp, nI_subI, nI_sub1, nI_divL, vp_T, ge_F, ge_T, geL_F, geL_T, leL_F, leL_T, le0_F, le0_T, ge0_T, row_self, row_ne, row_l, row_p, row_row, wI_row, wI_same, wI_cell, wI_place, wI_l, wI_p, lt_T, lt_F, ltL_T, ltL_F, gtL_T, gtL_F, lt0_F, eq_T, eq_F, eqL_T, eqL_F, eqM_F, leM_F, nat_mod, i_10, i_01, i_m1, eq_self_iff_true, rw8_lt, up1_ne, up1_eq, wi_T, ite_self, tg_1, tg_68, tg_124, tg_177, tg_11, tg_17, tg_59, tg_78, tg_84, ln_7, ln_16, ln_233, ln_232, ln_6, true_and, and_true, not_true_eq_false, not_false_eq_true, false_implies, true_implies, implies_true, forall_const, forall_eq, if_true, if_false, false_and, and_false, show S'.1 1 7 = nI m from c2.2.1.2.1, cI_F]
      have loop : ∀ H, H ≤ n + 1 → ∀ S', ex 54 66 S S' → (∀ D' H, D' < D → H ≤ n → S'.1 66 (9 * D' + H) = gv A n m mm (rt m D') (rt n H)) → (∀ H', H' < H → S'.1 66 (9 * D + H') = gv A n m mm (rt m D) (rt n H')) → ∀ o4, H_Cook_restingPairs_15 d (nI mm) (cI D) (cI H) o4 S' Q := by
        refine up_to (fun S' hS hT hU o4 => ?_) fun H hH ih2 S' hS hT hU o4 => ?_
        · have c2 := CX_ex hS c
          refine p_Cook_restingPairs_15 ?_
          simp (disch := omega) only [lit_add, add_lit, lit_mul, mul_lit, nI_add, nI_clamp, nI_subI, nI_sub1, nI_divL, vp_T, ge_F, ge_T, geL_F, geL_T, leL_F, leL_T, le0_F, le0_T, ge0_T, row_self, row_ne, row_l, row_p, row_row, wI_row, wI_same, wI_cell, wI_place, wI_l, wI_p, lt_T, lt_F, ltL_T, ltL_F, gtL_T, gtL_F, lt0_F, eq_T, eq_F, eqL_T, eqL_F, eqM_F, leM_F, nat_mod, i_10, i_01, i_m1, eq_self_iff_true, rw8_lt, up1_ne, up1_eq, wi_T, ite_self, tg_1, tg_68, tg_124, tg_177, tg_11, tg_17, tg_59, tg_78, tg_84, ln_7, ln_16, ln_233, ln_232, ln_6, true_and, and_true, not_true_eq_false, not_false_eq_true, false_implies, true_implies, implies_true, forall_const, forall_eq, if_true, if_false, false_and, and_false, show S'.1 1 0 = nI n from c2.2.1.1, cI_T, cI_s]
          refine ih S' hS (fun D' H h1 h2 => ?_) _ _
          by_cases e : D' = D
          · subst e; exact hU H (by omega)
          · exact hT D' H (by omega) h2
        · have c2 := CX_ex hS c
          have put : ∀ T, ex 54 66 S T → (T.1 66 = S'.1 66) → ∀ x, x = gv A n m mm (rt m D) (rt n H) → ∀ o4, H_Cook_restingPairs_15 d (nI mm) (cI D) (cI (H + 1)) o4 (fm_wI T 66 (9 * D + H) x) Q := by
            intro T hT2 hT6 x hx o4
            refine ih2 _ (ex_wI hT2 (by decide) (by decide)) (fun D' H' h1 h2 => ?_) (fun H' h1 => ?_) o4
            · rw [wI_place (by omega), hT6]; exact hT D' H' h1 h2
            · by_cases e : H' = H
              · subst e; rw [wI_same]; exact hx
              · rw [wI_place (by omega), hT6]; exact hU H' (by omega)
          refine p_Cook_restingPairs_15 ?_
          simp (disch := omega) only [lit_add, add_lit, lit_mul, mul_lit, nI_add, nI_clamp, nI_subI, nI_sub1, nI_divL, vp_T, ge_F, ge_T, geL_F, geL_T, leL_F, leL_T, le0_F, le0_T, ge0_T, row_self, row_ne, row_l, row_p, row_row, wI_row, wI_same, wI_cell, wI_place, wI_l, wI_p, lt_T, lt_F, ltL_T, ltL_F, gtL_T, gtL_F, lt0_F, eq_T, eq_F, eqL_T, eqL_F, eqM_F, leM_F, nat_mod, i_10, i_01, i_m1, eq_self_iff_true, rw8_lt, up1_ne, up1_eq, wi_T, ite_self, tg_1, tg_68, tg_124, tg_177, tg_11, tg_17, tg_59, tg_78, tg_84, ln_7, ln_16, ln_233, ln_232, ln_6, true_and, and_true, not_true_eq_false, not_false_eq_true, false_implies, true_implies, implies_true, forall_const, forall_eq, if_true, if_false, false_and, and_false, show S'.1 1 0 = nI n from c2.2.1.1, cI_F, cI_s, cI_p]
          rcases D with _ | e
          · refine s_xo0 ?_
            exact put S' hS rfl 0 (by unfold gv rt; rw [if_pos rfl, if_neg (by omega)]) _
          · refine s_xo c2.1 c2.2.1 c2.2.2.1 (by omega) c2.2.2.2.1 (by have := c2.2.2.2.2; omega) hm fun T hT => ?_
            refine put T (ex_tr hS (ex_mono hT (by decide) (by decide))) (hT.1 66 (by decide)) _ ?_ _
            rw [show rt m (e + 1) = e from rfl]
            unfold gv
            rw [if_pos (by omega)]
            rcases H with _ | x
            · rw [show rt n 0 = n from rfl, if_neg (by omega)]; rfl
            · rw [show rt n (x + 1) = x from rfl, if_pos (by omega)]; rfl
      exact loop 0 (by omega) S' hS hT (fun H' h => absurd h (by omega)) _
  exact key 0 (by omega) S (ex_id S) (fun D' H h => absurd h (by omega)) _ _
end GAME
