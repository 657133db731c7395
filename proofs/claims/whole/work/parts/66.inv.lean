/-! the relation between the two, whole -/
def Inv (S : fm_S) (N : Nat) : Prop :=
  N ≤ 600 ∧
  (∃ n m q u y, RT S 1 (S.1 232) n m q u y N) ∧
  (PP S 1 ∧ PP S 68 ∧ PP S 124 ∧ PP S 177) ∧
  (∀ i, i < 2 → S.1 230 i = S.1 235 i ∧ (S.1 230 i = 0 ∨ ∃ n m q u y, RT S (124 + 53 * i) (fun k => S.1 234 (373 * i + k)) n m q u y N)) ∧
  (∃ L, L ≤ 150 ∧ S.1 67 0 = nI L ∧ S.1 231 5 = nI L ∧ ∀ k, k < L → S.1 121 k = S.1 236 k) ∧
  (S.2.1 122 0 = S.2.1 231 6 ∧ S.2.1 122 1 = S.2.1 231 7) ∧
  (S.1 0 6 = S.1 231 8 ∧ S.1 0 7 = S.1 231 9 ∧ S.1 0 8 = S.1 231 10)
section INV
variable {S S' : fm_S} {N N' : Nat}
/-- the town of now changes, and the text and the images don't -/
theorem Inv_t (h : Inv S N) (hN : N ≤ N') (hN' : N' ≤ 600) (hR : ∃ n m q u y, RT S' 1 (S'.1 232) n m q u y N') (hP : PP S' 1)
    (h1 : ∀ c, (c = 121 ∨ (124 ≤ c ∧ c ≤ 230) ∨ (234 ≤ c ∧ c ≤ 236)) → S'.1 c = S.1 c) (h2 : S'.1 67 0 = S.1 67 0) (h3 : S'.1 231 5 = S.1 231 5)
    (h4 : S'.1 0 6 = S'.1 231 8 ∧ S'.1 0 7 = S'.1 231 9 ∧ S'.1 0 8 = S'.1 231 10) (h7 : ∀ c, c ≠ 21 → S'.2.2 c = S.2.2 c) (h8 : S'.2.1 122 0 = S'.2.1 231 6 ∧ S'.2.1 122 1 = S'.2.1 231 7) : Inv S' N' := by
  obtain ⟨_, _, ⟨p1, p2, p3, p4⟩, hi, ⟨L, l1, l2, l3, l4⟩, _, _⟩ := h
  refine ⟨hN', hR, ⟨hP, PP_fr (h7 88 (by omega)) p2, PP_fr (h7 144 (by omega)) p3, PP_fr (h7 197 (by omega)) p4⟩, fun i hi2 => ?_, ⟨L, l1, by rw [h2]; exact l2, by rw [h3]; exact l3, fun k hk => by rw [h1 121 (by omega), h1 236 (by omega)]; exact l4 k hk⟩, h8, h4⟩
  rw [h1 230 (by omega), h1 235 (by omega), h1 234 (by omega)]
  refine ⟨(hi i hi2).1, (hi i hi2).2.imp_right fun ⟨n, m, q, u, y, hr⟩ => ⟨n, m, q, u, y, ?_⟩⟩
  have hp : PP S (124 + 53 * i) := by
    have : i = 0 ∨ i = 1 := by omega
    rcases this with rfl | rfl
    · exact p3
    · exact p4
  exact RT_mono hN (RT_fr (fun c a b => h1 c (by omega)) (h7 _ (by omega)) hp hr)
/-- neither does the town -/
theorem Inv_c (h : Inv S N) (hN : N ≤ N') (hN' : N' ≤ 600)
    (h1 : ∀ c, ((1 ≤ c ∧ c ≤ 53) ∨ c = 121 ∨ (124 ≤ c ∧ c ≤ 230) ∨ c = 232 ∨ (234 ≤ c ∧ c ≤ 236)) → S'.1 c = S.1 c) (h2 : S'.1 67 0 = S.1 67 0) (h3 : S'.1 231 5 = S.1 231 5)
    (h4 : S'.1 0 6 = S'.1 231 8 ∧ S'.1 0 7 = S'.1 231 9 ∧ S'.1 0 8 = S'.1 231 10) (h7 : S'.2.2 = S.2.2) (h8 : S'.2.1 122 0 = S'.2.1 231 6 ∧ S'.2.1 122 1 = S'.2.1 231 7) : Inv S' N' := by
  obtain ⟨n, m, q, u, y, hr⟩ := h.2.1
  refine Inv_t h hN hN' ⟨n, m, q, u, y, ?_⟩ (PP_fr (by rw [h7]) h.2.2.1.1) (fun c hc => h1 c (by omega)) h2 h3 h4 (fun c _ => by rw [h7]) h8
  rw [h1 232 (by omega)]
  exact RT_mono hN (RT_fr (fun c a b => h1 c (by omega)) (by rw [h7]) h.2.2.1.1 hr)
/-- a query -/
theorem Inv_q {S1 S2 : fm_S} (h : Inv S N) (hN : N < 600) (h1 : ex 54 66 S S1) (h2 : ex 238 242 S1 S2) : Inv S2 (N + 1) := by
  have e : ∀ c, (c < 54 ∨ (66 < c ∧ c < 238)) → S2.1 c = S.1 c := fun c hc => by rw [h2.1 c (by omega), h1.1 c (by omega)]
  refine Inv_c h (by omega) (by omega) (fun c hc => e c (by omega)) (by rw [e 67 (by omega)]) (by rw [e 231 (by omega)]) ?_ (by rw [h2.2.2, h1.2.2]) ?_
  · rw [e 0 (by omega), e 231 (by omega)]; exact h.2.2.2.2.2.2
  · rw [h2.2.1, h1.2.1]; exact h.2.2.2.2.2.1
/-- what is refused -/
theorem Inv_w {i j : Nat} {x y : Int32} (hij : (i = 6 ∧ j = 8) ∨ (i = 7 ∧ j = 9) ∨ (i = 8 ∧ j = 10)) (hxy : x = y) (h : Inv S N) (hN : N < 600) : Inv (fm_wI (fm_wI S 0 i x) 231 j y) (N + 1) := by
  refine Inv_c h (by omega) (by omega) (fun c hc => by rw [wI_ce (by omega), wI_ce (by omega)]) (by rw [wI_cell (by omega), wI_cell (by omega)]) (by rw [wI_place (by omega), wI_cell (by omega)]) ?_ rfl h.2.2.2.2.2.1
  obtain ⟨a, b, c⟩ := h.2.2.2.2.2.2
  subst hxy
  rcases hij with ⟨rfl, rfl⟩ | ⟨rfl, rfl⟩ | ⟨rfl, rfl⟩
  all_goals simp (disch := omega) only [wI_cell, wI_place, wI_same]
  · exact ⟨trivial, b, c⟩
  · exact ⟨a, trivial, c⟩
  · exact ⟨a, b, trivial⟩
theorem Inv_bad (h : Inv S N) (hN : N < 600) : Inv (g_M_bad (g_X_bad S)) (N + 1) :=
  Inv_w (Or.inl ⟨rfl, rfl⟩) (by unfold g_X_bad; rw [wI_cell (by omega), h.2.2.2.2.2.2.1]) h hN
theorem Inv_bad10 (h : Inv S N) (hN : N < 600) : Inv (g_M_bad10 (g_X_badTen S)) (N + 1) :=
  Inv_w (Or.inl ⟨rfl, rfl⟩) (by unfold g_X_badTen; rw [wI_cell (by omega), h.2.2.2.2.2.2.1]) h hN
theorem Inv_no (h : Inv S N) (hN : N < 600) : Inv (g_M_no (g_X_no S)) (N + 1) :=
  Inv_w (Or.inr (Or.inl ⟨rfl, rfl⟩)) (by unfold g_X_no; rw [wI_cell (by omega), h.2.2.2.2.2.2.2.1]) h hN
theorem Inv_full (h : Inv S N) (hN : N < 600) : Inv (g_M_full (g_X_full S)) (N + 1) :=
  Inv_w (Or.inr (Or.inr ⟨rfl, rfl⟩)) (by unfold g_X_full; rw [wI_cell (by omega), h.2.2.2.2.2.2.2.2]) h hN
theorem Inv_up (h : Inv S N) (hN : N < 600) : Inv S (N + 1) := Inv_q h hN (ex_id S) (ex_id S)
def pair {α : Type} (e : α → Option Value) (kX kM : Nat) (aX aM : List Value) (S : fm_S) (N : Nat) : Prop :=
  am_Ps e 11 kX aX S fun x S1 => am_Ps e 11 kM aM S1 fun y S2 => x = y ∧ Inv S2 (N + 1)
theorem Inv_cx (h : Inv S N) : ∃ n m q u y, CX S (S.1 232) n m y ∧ MX S n m y ∧ RN S 1 (S.1 232) q ∧ RT S 1 (S.1 232) n m q u y N := by
  obtain ⟨h0, ⟨n, m, q, u, y, hr⟩, _⟩ := h
  have hr' := hr
  obtain ⟨h1, h2, h3, h4, h5, h6, h7, h8, h9⟩ := hr'
  exact ⟨n, m, q, u, y, ⟨h1, h2, h3, h7, by omega⟩, ⟨h1, h7, by omega⟩, h4, hr⟩
theorem in_lit {x : Int32} {a b : Nat} (ha : (OfNat.ofNat a : Nat) < 2 ^ 31) (hb : (OfNat.ofNat b : Nat) < 2 ^ 31) : f_M_in x.toInt64 (no_index (OfNat.ofNat a)) (no_index (OfNat.ofNat b)) = f_X_within x (no_index (OfNat.ofNat a)) (no_index (OfNat.ofNat b)) := by
  rw [← in_w]
  have e1 : ((OfNat.ofNat a : Int32)).toInt64 = lN (OfNat.ofNat a) := nI_l (n := OfNat.ofNat a) ha
  have e2 : ((OfNat.ofNat b : Int32)).toInt64 = lN (OfNat.ofNat b) := nI_l (n := OfNat.ofNat b) hb
  rw [e1, e2]; rfl
theorem xStreet {n m y : Nat} {A : Nat → Int32} {x : Int32} (c : CX S A n m y) : f_X_isStreet S x = f_X_within x 0 (nI n - 1) := by unfold f_X_isStreet; rw [show S.1 1 0 = nI n from c.2.1.1]
theorem xDish {n m y : Nat} {A : Nat → Int32} {x : Int32} (c : CX S A n m y) : f_X_isDish S x = f_X_within x 0 (nI m - 1) := by unfold f_X_isDish; rw [show S.1 1 7 = nI m from c.2.1.2.1]
theorem mStreet {n m y : Nat} {x : Int32} (c : MX S n m y) : f_M_isStreet S x = f_X_within x 0 (nI n - 1) := by rw [isStreet_w, c.1.2.2.1]
theorem mDish {n m y : Nat} {x : Int32} (c : MX S n m y) : f_M_isDish S x = f_X_within x 0 (nI m - 1) := by rw [isDish_w, c.1.2.2.2.1]
theorem MX_1 {n m y : Nat} (h : S'.1 232 = S.1 232) (c : MX S n m y) : MX S' n m y := by
  unfold MX at c ⊢
  rw [h]
  exact c
end INV
