/-! counters, places, rows of the memory: for simp -/
theorem lit_add {n i : Nat} : (no_index (OfNat.ofNat n) : Int32) + nI i = nI (OfNat.ofNat n + i) := by rw [← nI_add]; rfl
theorem add_lit {n i : Nat} : nI i + (no_index (OfNat.ofNat n) : Int32) = nI (i + OfNat.ofNat n) := by rw [← nI_add]; rfl
theorem nI_mul (a b : Nat) : nI a * nI b = nI (a * b) := (Int32.ofNat_mul a b).symm
theorem lit_mul {n i : Nat} : (no_index (OfNat.ofNat n) : Int32) * nI i = nI (OfNat.ofNat n * i) := by rw [← nI_mul]; rfl
theorem mul_lit {n i : Nat} : nI i * (no_index (OfNat.ofNat n) : Int32) = nI (i * OfNat.ofNat n) := by rw [← nI_mul]; rfl
theorem nI_subI {a b : Nat} (h : b ≤ a) : nI a - nI b = nI (a - b) := by
  have e := nI_add (a - b) b
  rw [show a - b + b = a by omega] at e
  rw [← e, Int32.add_sub_cancel]
theorem nI_sub1 {a n : Nat} (h : OfNat.ofNat n ≤ a) : nI a - (no_index (OfNat.ofNat n) : Int32) = nI (a - OfNat.ofNat n) := nI_subI (b := OfNat.ofNat n) h
theorem nI_div {a b : Nat} (ha : a < 2 ^ 31) (hb : b < 2 ^ 31) : nI a / nI b = nI (a / b) := by
  apply Int32.toInt_inj.mp
  have hab : a / b ≤ a := Nat.div_le_self a b
  rw [Int32.toInt_div, nI_toInt ha, nI_toInt hb, nI_toInt (by omega)]
  have e : (a : Int).tdiv (b : Int) = ((a / b : Nat) : Int) := by
    rw [Int.tdiv_eq_ediv_of_nonneg (by omega)]; rfl
  rw [e]
  generalize a / b = q at hab ⊢
  rw [Int.bmod_eq_of_le] <;> omega
theorem nI_divL {a n : Nat} (ha : a < 2 ^ 31) (hb : (OfNat.ofNat n : Nat) < 2 ^ 31) : nI a / (no_index (OfNat.ofNat n) : Int32) = nI (a / OfNat.ofNat n) := nI_div (b := OfNat.ofNat n) ha hb
theorem vp_T {n N : Nat} (h : n < N) (hN : N < 2 ^ 31) : vp_in (nI n) N = True := eq_true (vp_in_nI h hN)
theorem ge_F {a b : Nat} (h : a < b) (hb : b < 2 ^ 31) : (nI b ≤ nI a) = False := eq_false (nI_ge h hb)
theorem ge_T {a b : Nat} (h : a ≤ b) (hb : b < 2 ^ 31) : (nI a ≤ nI b) = True := eq_true (nI_le h hb)
theorem geL_F {a n : Nat} (h : a < OfNat.ofNat n) (hb : (OfNat.ofNat n : Nat) < 2 ^ 31) : ((no_index (OfNat.ofNat n) : Int32) ≤ nI a) = False := eq_false (nI_ge (b := OfNat.ofNat n) h hb)
theorem geL_T {a n : Nat} (h : OfNat.ofNat n ≤ a) (hb : a < 2 ^ 31) : ((no_index (OfNat.ofNat n) : Int32) ≤ nI a) = True := eq_true (nI_le (a := OfNat.ofNat n) h hb)
theorem leL_F {a n : Nat} (h : OfNat.ofNat n < a) (hb : a < 2 ^ 31) : (nI a ≤ (no_index (OfNat.ofNat n) : Int32)) = False := eq_false (nI_ge (a := OfNat.ofNat n) h hb)
theorem leL_T {a n : Nat} (h : a ≤ OfNat.ofNat n) (hb : (OfNat.ofNat n : Nat) < 2 ^ 31) : (nI a ≤ (no_index (OfNat.ofNat n) : Int32)) = True := eq_true (nI_le (b := OfNat.ofNat n) h hb)
theorem le0_F {a : Nat} (h : 0 < a) (hb : a < 2 ^ 31) : (nI a ≤ 0) = False := eq_false (nI_nle h hb)
theorem le0_T : (nI 0 ≤ 0) = True := eq_true (by decide)
theorem ge0_T {a : Nat} (hb : a < 2 ^ 31) : ((0 : Int32) ≤ nI a) = True := eq_true (nI_pos' hb)
def up1 {α : Type} (f : Nat → α) (j : Nat) (x : α) : Nat → α := fun y => if y = j then x else f y
def fm_row (S : fm_S) (c : Nat) (f : Nat → Int32) : fm_S := (fun a i => if a = c then f i else S.1 a i, S.2.1, S.2.2)
theorem row_self {S : fm_S} {c i : Nat} {f : Nat → Int32} : (fm_row S c f).1 c i = f i := by simp [fm_row]
theorem row_ne {S : fm_S} {a c i : Nat} {f : Nat → Int32} (h : a ≠ c) : (fm_row S c f).1 a i = S.1 a i := by simp [fm_row, h]
theorem row_l {S : fm_S} {c : Nat} {f : Nat → Int32} : (fm_row S c f).2.1 = S.2.1 := rfl
theorem row_p {S : fm_S} {c : Nat} {f : Nat → Int32} : (fm_row S c f).2.2 = S.2.2 := rfl
theorem row_row {S : fm_S} {c : Nat} {f g : Nat → Int32} : fm_row (fm_row S c f) c g = fm_row S c g := by
  refine fm_ext (fun a i => ?_) (fun _ _ => rfl) (fun _ _ => rfl)
  simp only [fm_row]; split <;> rfl
theorem wI_row {S : fm_S} {c j : Nat} {f : Nat → Int32} {x : Int32} : fm_wI (fm_row S c f) c j x = fm_row S c (up1 f j x) := by
  refine fm_ext (fun a i => ?_) (fun _ _ => rfl) (fun _ _ => rfl)
  simp only [fm_row, fm_wI, fm_up, up1]; grind
theorem wI_as (S : fm_S) (c j : Nat) (x : Int32) : fm_wI S c j x = fm_row S c (up1 (S.1 c) j x) := by
  refine fm_ext (fun a i => ?_) (fun _ _ => rfl) (fun _ _ => rfl)
  simp only [fm_row, fm_wI, fm_up, up1]; grind
theorem row_id (S : fm_S) (c : Nat) : fm_row S c (S.1 c) = S := by
  refine fm_ext (fun a i => ?_) (fun _ _ => rfl) (fun _ _ => rfl)
  simp only [fm_row]; grind
theorem wI_same {S : fm_S} {a i : Nat} {x : Int32} : (fm_wI S a i x).1 a i = x := by simp [fm_wI, fm_up]
theorem wI_cell {S : fm_S} {a b i j : Nat} {x : Int32} (h : b ≠ a) : (fm_wI S a i x).1 b j = S.1 b j := by simp [fm_wI, fm_up, h]
theorem wI_place {S : fm_S} {a b i j : Nat} {x : Int32} (h : j ≠ i) : (fm_wI S a i x).1 b j = S.1 b j := by simp [fm_wI, fm_up, h]
theorem wI_l {S : fm_S} {a i : Nat} {x : Int32} : (fm_wI S a i x).2.1 = S.2.1 := rfl
theorem wI_p {S : fm_S} {a i : Nat} {x : Int32} : (fm_wI S a i x).2.2 = S.2.2 := rfl
theorem nI_of9 {x : Int32} {n : Nat} (h : vp_in x n) (hn : n < 2 ^ 31) : ∃ j, j < n ∧ x = nI j := vp_in_of h hn
/-- the reference's in is the class' within -/
theorem lg_lt {x y : Int64} : lg_cmp x y < 0 ↔ x < y := by
  unfold lg_cmp
  grind
theorem lg_gt {x y : Int64} : 0 < lg_cmp x y ↔ y < x := by
  unfold lg_cmp
  grind
theorem l_lt {x y : Int32} : x.toInt64 < y.toInt64 ↔ x < y := by
  rw [Int64.lt_iff_toInt_lt, Int32.lt_iff_toInt_lt, Int32.toInt_toInt64, Int32.toInt_toInt64]
theorem in_w (x a b : Int32) : f_M_in x.toInt64 a.toInt64 b.toInt64 = f_X_within x a b := by
  unfold f_M_in f_X_within
  simp only [lg_lt, lg_gt, l_lt]
theorem in_wL (x : Int32) (a b : Nat) (ha : a < 1000) (hb : b < 1000) : f_M_in x.toInt64 (Int64.ofNat a) (Int64.ofNat b) = f_X_within x (nI a) (nI b) := by
  rw [← in_w, nI_l (by omega), nI_l (by omega)]; rfl
theorem isStreet_w (S : fm_S) (x : Int32) : f_M_isStreet S x = f_X_within x 0 (S.1 232 0 - 1) := in_w x 0 _
theorem isDish_w (S : fm_S) (x : Int32) : f_M_isDish S x = f_X_within x 0 (S.1 232 1 - 1) := in_w x 0 _
