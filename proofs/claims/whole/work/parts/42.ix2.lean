/-! more for simp; the relation's words -/
abbrev tn (x : Int32) : Nat := x.toNatClampNeg
def iN (x : Int32) (b : Nat) : Prop := x = nI (tn x) ∧ tn x ≤ b
theorem iN_of {x : Int32} {b j : Nat} (h : x = nI j) (hj : j ≤ b) (hb : b < 2 ^ 31) : iN x b := by
  unfold iN tn
  rw [h, nI_clamp (by omega)]
  exact ⟨rfl, hj⟩
theorem lt_T {a b : Nat} (h : a < b) (hb : b < 2 ^ 31) : (nI a < nI b) = True := eq_true (nI_lt h hb)
theorem lt_F {a b : Nat} (h : b ≤ a) (ha : a < 2 ^ 31) : (nI a < nI b) = False := eq_false (nI_nlt h ha)
theorem ltL_T {a n : Nat} (h : OfNat.ofNat n < a) (hb : a < 2 ^ 31) : ((no_index (OfNat.ofNat n) : Int32) < nI a) = True := eq_true (nI_lt (a := OfNat.ofNat n) h hb)
theorem ltL_F {a n : Nat} (h : a ≤ OfNat.ofNat n) (hb : (OfNat.ofNat n : Nat) < 2 ^ 31) : ((no_index (OfNat.ofNat n) : Int32) < nI a) = False := eq_false (nI_nlt (b := a) h hb)
theorem gtL_T {a n : Nat} (h : a < OfNat.ofNat n) (hb : (OfNat.ofNat n : Nat) < 2 ^ 31) : (nI a < (no_index (OfNat.ofNat n) : Int32)) = True := eq_true (nI_lt (b := OfNat.ofNat n) h hb)
theorem gtL_F {a n : Nat} (h : OfNat.ofNat n ≤ a) (hb : a < 2 ^ 31) : (nI a < (no_index (OfNat.ofNat n) : Int32)) = False := eq_false (nI_nlt (b := OfNat.ofNat n) h hb)
theorem lt0_F {a : Nat} (hb : a < 2 ^ 31) : (nI a < 0) = False := eq_false (nI_pos hb)
theorem eq_T {a b : Nat} (h : a = b) : (nI a = nI b) = True := eq_true (by rw [h])
theorem eq_F {a b : Nat} (h : a ≠ b) (ha : a < 2 ^ 31) (hb : b < 2 ^ 31) : (nI a = nI b) = False := eq_false fun q => h ((nI_eq ha hb).mp q)
theorem eqL_T {a n : Nat} (h : a = OfNat.ofNat n) : (nI a = (no_index (OfNat.ofNat n) : Int32)) = True := eq_true (by rw [h]; rfl)
theorem eqL_F {a n : Nat} (h : a ≠ OfNat.ofNat n) (ha : a < 2 ^ 31) (hb : (OfNat.ofNat n : Nat) < 2 ^ 31) : (nI a = (no_index (OfNat.ofNat n) : Int32)) = False := eq_false fun q => h ((nI_eq (b := OfNat.ofNat n) ha hb).mp q)
theorem eqM_F {a : Nat} (ha : a < 2 ^ 31) : (nI a = -1) = False := eq_false fun q => nI_pos ha (by rw [q]; decide)
theorem leM_F {a : Nat} (ha : a < 2 ^ 31) : (nI a ≤ -1) = False := eq_false fun q => by
  rw [Int32.le_iff_toInt_le, nI_toInt ha, show (-1 : Int32).toInt = -1 by decide] at q
  omega
theorem i_10 : ((1 : Int32) = 0) = False := eq_false (by decide)
theorem i_01 : ((0 : Int32) = 1) = False := eq_false (by decide)
theorem i_m1 : ((-1 : Int32) = 0) = False := eq_false (by decide)
theorem nat_mod (k n : Nat) : k - k / n * n = k % n := by
  have := Nat.div_add_mod k n
  rw [Nat.mul_comm] at this
  omega
theorem sub_subI (x y z : Int32) : x - y - z = x - (y + z) := by
  rw [Int32.sub_eq_add_neg, Int32.sub_eq_add_neg, Int32.sub_eq_add_neg, Int32.neg_add, Int32.add_assoc, Int32.sub_eq_add_neg]
theorem d_le {p s q : Nat} (hp : p < 2 ^ 30) (hs : s < 2 ^ 30) (hq : q < 2 ^ 30) : (nI p - nI s ≤ nI q) = (p ≤ q + s) := propext (by
  rw [Int32.le_iff_toInt_le, pk_sub_toInt hp hs, nI_toInt (by omega)]
  omega)
theorem d_le0 {p s : Nat} (hp : p < 2 ^ 30) (hs : s < 2 ^ 30) : (nI p - nI s ≤ 0) = (p ≤ s) := by
  rw [show (0 : Int32) = nI 0 from rfl, d_le hp hs (by decide)]
  simp
theorem sub_0I (x : Int32) : x - 0 = x := Int32.sub_zero x
/-- within, of naturals -/
theorem wi_str {g n : Nat} (hg : g < 2 ^ 30) (hn : n < 2 ^ 30) : f_X_within (nI g) 0 (nI n - 1) = if g < n then 1 else 0 := by
  unfold f_X_within
  rw [if_neg (nI_pos (by omega))]
  have e : (nI n - 1 < nI g) = ¬ g < n := propext (by
    rw [Int32.lt_iff_toInt_lt, show (1 : Int32) = nI 1 from rfl, pk_sub_toInt hn (by decide), nI_toInt (by omega)]
    omega)
  simp only [e]
  by_cases q : g < n
  · rw [if_neg (fun z => z q), if_pos q]
  · rw [if_pos q, if_neg q]
/-- what is no street's number -/
theorem wi_ne {x : Int32} {n : Nat} (hn : n < 2 ^ 30) (h : ¬ f_X_within x 0 (nI n - 1) = 0) : ∃ j, j < n ∧ x = nI j := by
  have h0 : ¬ x < 0 := fun q => h (by unfold f_X_within; rw [if_pos q])
  obtain ⟨j, hj, rfl⟩ := nI_of h0
  refine ⟨j, ?_, rfl⟩
  have h1 : ¬ nI n - 1 < nI j := fun q => h (by unfold f_X_within; rw [if_neg h0, if_pos q])
  rw [Int32.lt_iff_toInt_lt, show (1 : Int32) = nI 1 from rfl, pk_sub_toInt hn (by decide), nI_toInt (by omega)] at h1
  omega
theorem wi_L {x : Int32} {a b : Nat} (hb : b < 2 ^ 30) (h : ¬ f_X_within x (nI a) (nI b) = 0) (ha : a < 2 ^ 30) : ∃ j, a ≤ j ∧ j ≤ b ∧ x = nI j := by
  have h0 : ¬ x < nI a := fun q => h (by unfold f_X_within; rw [if_pos q])
  have h1 : ¬ nI b < x := fun q => h (by unfold f_X_within; rw [if_neg h0, if_pos q])
  have hz : ¬ x < 0 := fun q => h0 (by
    rw [Int32.lt_iff_toInt_lt] at q ⊢
    rw [nI_toInt (by omega)]
    have : (0 : Int32).toInt = 0 := by decide
    omega)
  obtain ⟨j, hj, rfl⟩ := nI_of hz
  rw [nI_ltI hj (by omega)] at h0
  rw [nI_ltI (by omega) hj] at h1
  exact ⟨j, by omega, by omega, rfl⟩
/-! rows with eight places of naturals -/
def rw8 (v : Nat → Int32) (V : Nat → Nat) : Nat → Int32 := fun y => if y < 8 then nI (V y) else v y
theorem rw8_lt {v : Nat → Int32} {V : Nat → Nat} {y : Nat} (h : y < 8) : rw8 v V y = nI (V y) := by unfold rw8; rw [if_pos h]
theorem rw8_up {v : Nat → Int32} {V : Nat → Nat} {j x : Nat} (h : j < 8) : up1 (rw8 v V) j (nI x) = rw8 v (u1 V j x) := by
  funext y
  unfold up1 rw8 u1
  by_cases e : y = j
  · subst e; rw [if_pos rfl, if_pos h, if_pos rfl]
  · rw [if_neg e, if_neg e]
theorem u1_id {α : Type} (U : Nat → α) (j : Nat) : u1 U j (U j) = U := by
  funext y
  unfold u1
  by_cases e : y = j
  · subst e; rw [if_pos rfl]
  · rw [if_neg e]
theorem fl_0 (f : Bool) : (if (if f = true then (1 : Int32) else 0) = 0 then (0 : Int32) else 1) = if f = true then 1 else 0 := by cases f <;> decide
theorem fl_1 (f : Bool) : ((if f = true then (1 : Int32) else 0) = 0) = (f = false) := by cases f <;> decide
def zr (v : Nat → Int32) (i : Nat) : Nat → Int32 := fun y => if y < i then 0 else v y
theorem zr_0 (v : Nat → Int32) : zr v 0 = v := by funext y; simp [zr]
theorem zr_s (v : Nat → Int32) (i : Nat) : up1 (zr v i) i 0 = zr v (i + 1) := by
  funext y
  unfold up1 zr
  by_cases e : y = i
  · subst e; rw [if_pos rfl, if_pos (by omega)]
  · rw [if_neg e]
    by_cases q : y < i
    · rw [if_pos q, if_pos (by omega)]
    · rw [if_neg q, if_neg (by omega)]
theorem zr_8 (v : Nat → Int32) : zr v 8 = rw8 v (fun _ => 0) := rfl
theorem up1_ne {α : Type} {f : Nat → α} {j y : Nat} {x : α} (h : y ≠ j) : up1 f j x y = f y := by unfold up1; rw [if_neg h]
theorem up1_eq {α : Type} {f : Nat → α} {j : Nat} {x : α} : up1 f j x j = x := by unfold up1; rw [if_pos rfl]
theorem wi_T {a b : Nat} (h : a ≤ b) (hb : b < 2 ^ 31) : f_X_within (nI a) 0 (nI b) = 1 := by
  unfold f_X_within
  rw [if_neg (nI_pos (by omega)), if_neg (nI_nlt h (by omega))]
/-! kinds of cells -/
theorem tg_1 : (fm_tg 1 = 6) = True := eq_true (by decide +kernel)
theorem tg_68 : (fm_tg 68 = 6) = True := eq_true (by decide +kernel)
theorem tg_124 : (fm_tg 124 = 6) = True := eq_true (by decide +kernel)
theorem tg_177 : (fm_tg 177 = 6) = True := eq_true (by decide +kernel)
theorem tg_11 : (fm_tg 11 = 4) = True := eq_true (by decide +kernel)
theorem tg_17 : (fm_tg 17 = 2) = True := eq_true (by decide +kernel)
theorem tg_59 : (fm_tg 59 = 2) = True := eq_true (by decide +kernel)
theorem tg_78 : (fm_tg 78 = 4) = True := eq_true (by decide +kernel)
theorem tg_84 : (fm_tg 84 = 2) = True := eq_true (by decide +kernel)
theorem ln_7 : fm_ln 7 = 4 := by decide +kernel
theorem ln_233 : fm_ln 233 = 373 := by decide +kernel
theorem ln_232 : fm_ln 232 = 373 := by decide +kernel
theorem ln_6 : fm_ln 6 = 4 := by decide +kernel
theorem ln_16 : fm_ln (1 + 6) = 4 := by decide +kernel
/-! what a call leaves alone -/
def ex (lo hi : Nat) (S S' : fm_S) : Prop := (∀ c, (c < lo ∨ hi < c) → S'.1 c = S.1 c) ∧ S'.2.1 = S.2.1 ∧ S'.2.2 = S.2.2
theorem ex_id {lo hi : Nat} (S : fm_S) : ex lo hi S S := ⟨fun _ _ => rfl, rfl, rfl⟩
theorem ex_tr {lo hi : Nat} {S S' S'' : fm_S} (h : ex lo hi S S') (h2 : ex lo hi S' S'') : ex lo hi S S'' := ⟨fun c hc => (h2.1 c hc).trans (h.1 c hc), h2.2.1.trans h.2.1, h2.2.2.trans h.2.2⟩
theorem ex_mono {lo hi lo' hi' : Nat} {S S' : fm_S} (h : ex lo hi S S') (h1 : lo' ≤ lo) (h2 : hi ≤ hi') : ex lo' hi' S S' := ⟨fun c hc => h.1 c (by omega), h.2.1, h.2.2⟩
theorem ex_wI {lo hi a i : Nat} {x : Int32} {S S' : fm_S} (h : ex lo hi S S') (h1 : lo ≤ a) (h2 : a ≤ hi) : ex lo hi S (fm_wI S' a i x) := by
  refine ex_tr h ⟨fun c hc => ?_, rfl, rfl⟩
  funext j
  exact wI_cell (by omega)
theorem ex_row {lo hi a : Nat} {f : Nat → Int32} {S S' : fm_S} (h : ex lo hi S S') (h1 : lo ≤ a) (h2 : a ≤ hi) : ex lo hi S (fm_row S' a f) := by
  refine ex_tr h ⟨fun c hc => ?_, rfl, rfl⟩
  funext j
  exact row_ne (by omega)
/-! the reference's array, well formed: n streets, m dishes -/
def WS (A : Nat → Int32) (n m : Nat) : Prop :=
  n ≤ 8 ∧ m ≤ 6 ∧ A 0 = nI n ∧ A 1 = nI m ∧
  (∀ k, k < n → iN (A (5 + k)) 5) ∧
  (∀ k, k < 8 → iN (A (13 + k)) 9) ∧
  (∀ k, k < 64 → A (53 + k) = 1 → k / 8 < n ∧ k % 8 < n) ∧
  (∀ w, w < 4 → iN (A (117 + w)) 7) ∧
  (∀ i, i < 4 → iN (A (121 + i)) 3) ∧
  (∀ k, k < m → iN (A (125 + k)) 5) ∧
  (∀ k, k < m → iN (A (131 + k)) 30) ∧
  (∀ k, k < m → iN (A (137 + k)) 9)
/-- how strong a smell stands in each street: so strong, wind w, street h has m sheets -/
def sL (A : Nat → Int32) (a b : Nat) : Bool := decide (A (53 + (8 * a + b)) = 1)
def sE (h : Int32) (m b : Nat) : Nat := if nI b = h then m else 0
def sC (A : Nat → Int32) (h : Int32) (m : Nat) (b : Nat) : Nat := 2 + tn (A (13 + b)) + sE h m b
def s0 (A : Nat → Int32) (so g : Nat) (h : Int32) (m : Nat) : Nat → Nat := u1 (fun _ => 0) g (so - (tn (A (13 + g)) + sE h m g))
def spA (A : Nat → Int32) (so w : Nat) (h : Int32) (m : Nat) : Nat → Nat := if tn (A (117 + w)) < tn (A 0) then sn_n (sL A) (sC A h m) (s0 A so (tn (A (117 + w))) h m) 8 else fun _ => 0
theorem sL_k (A : Nat → Int32) (k : Nat) : sL A (k / 8) (k % 8) = decide (A (53 + k) = 1) := by
  unfold sL
  rw [show 8 * (k / 8) + k % 8 = k by omega]
theorem s0_le {A : Nat → Int32} {so g : Nat} {h : Int32} {m : Nat} (y : Nat) : s0 A so g h m y ≤ so := by
  unfold s0 u1
  split
  · omega
  · exact Nat.zero_le _
theorem spA_le {A : Nat → Int32} {so w : Nat} {h : Int32} {m : Nat} (y : Nat) : spA A so w h m y ≤ so := by
  unfold spA
  split
  · exact sn_n_le (fun y => s0_le y) 8 y
  · exact Nat.zero_le _
theorem sE_le {h : Int32} {m b : Nat} : sE h m b ≤ m := by unfold sE; split <;> omega
theorem sE_v {h : Int32} {m b : Nat} : (if nI b = h then nI m else 0) = nI (sE h m b) := by unfold sE; split <;> rfl
theorem sC_pos {A : Nat → Int32} {h : Int32} {m : Nat} (y : Nat) : 0 < sC A h m y := by unfold sC; omega
