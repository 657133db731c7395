/-! order -/
theorem nI_m1 {p : Nat} (h : 0 < p) : nI p + (-1) = nI (p - 1) := by
  obtain ⟨q, rfl⟩ : ∃ q, p = q + 1 := ⟨p - 1, by omega⟩
  rw [nI_succ, Int32.add_assoc, show (1 : Int32) + -1 = 0 by decide, Int32.add_zero]; rfl
theorem cI_m1 : ∀ p, cI (p + 1) + (-1) = cI p
  | 0 => by decide
  | p + 1 => by rw [show cI (p + 1 + 1) = nI (p + 1) from rfl, nI_m1 (by omega)]; rfl
theorem cI_lt : ∀ {p : Nat}, p < 2 ^ 30 → (cI p < 0) = (p = 0)
  | 0, _ => by decide
  | p + 1, h => by
    rw [show cI (p + 1) = nI p from rfl]
    exact propext ⟨fun q => absurd q (nI_pos (by omega)), fun q => absurd q (by omega)⟩
/-- the i-th dish of the row with this number -/
def dg (m c N i : Nat) : Nat := c / m ^ (N - 1 - i) % m
/-- those used -/
def usd (D : Nat → Nat) : Nat → Int32
  | 0 => 0
  | i + 1 => usd D i ||| (1 <<< (nI (D i) &&& 31))
def hit (D : Nat → Nat) (e : Nat) (i : Nat) : Bool := pex (fun a => decide (D a = e)) i
def uc (D : Nat → Nat) : Nat → Nat
  | 0 => 0
  | i + 1 => uc D i + (if hit D (D i) i = true then 0 else 1)
def nd (D : Nat → Nat) (N : Nat) : Bool := pal (fun i => !hit D (D i) i) N
theorem or_u : ∀ u, u < 64 → ∀ e, e < 6 → nI u ||| (1 <<< (nI e &&& 31)) = nI (u ||| 1 <<< e) ∧ u ||| 1 <<< e < 64 := by decide +kernel
theorem bit_add : ∀ u, u < 64 → ∀ e, e < 6 → n_bits (nI u ||| (1 <<< (nI e &&& 31))) 8 = n_bits (nI u) 8 + (if f_X_has (nI u) (nI e) = 1 then 0 else 1) := by decide +kernel
theorem usd_u {D : Nat → Nat} : ∀ {i : Nat}, (∀ a, a < i → D a < 6) → ∃ u, u < 64 ∧ usd D i = nI u
  | 0, _ => ⟨0, by decide, rfl⟩
  | i + 1, h => by
    obtain ⟨u, h1, h2⟩ := usd_u (D := D) (i := i) fun a ha => h a (by omega)
    have z := or_u u h1 (D i) (h i (by omega))
    exact ⟨_, z.2, by rw [usd, h2]; exact z.1⟩
theorem usd_tb {D : Nat → Nat} {e : Nat} (he : e < 32) : ∀ {i : Nat}, (∀ a, a < i → D a < 6) → tb (usd D i) e = hit D e i
  | 0, _ => tb_0 e
  | i + 1, h => by
    rw [usd, tb_or, usd_tb he (i := i) fun a ha => h a (by omega), tb_one (D i) (by have := h i (by omega); omega) e he]
    unfold hit
    rw [pex]
    congr 1
    exact decide_eq_decide.mpr ⟨fun q => q.symm, fun q => q.symm⟩
theorem usd_has {D : Nat → Nat} {e i : Nat} (he : e < 32) (h : ∀ a, a < i → D a < 6) : f_X_has (usd D i) (nI e) = if hit D e i = true then 1 else 0 := by
  rw [tb_has _ he, usd_tb he h]
theorem usd_n {D : Nat → Nat} : ∀ {i : Nat}, (∀ a, a < i → D a < 6) → n_bits (usd D i) 8 = nI (uc D i)
  | 0, _ => show n_bits 0 8 = nI 0 by decide
  | i + 1, h => by
    have h' : ∀ a, a < i → D a < 6 := fun a ha => h a (by omega)
    obtain ⟨u, h1, h2⟩ := usd_u h'
    have hh := usd_has (e := D i) (by have := h i (by omega); omega) h'
    rw [usd, uc, ← nI_add, ← usd_n h', h2] at *
    rw [bit_add u h1 (D i) (h i (by omega)), hh]
    cases hit D (D i) i <;> rfl
theorem uc_le {D : Nat → Nat} : ∀ i, uc D i ≤ i
  | 0 => Nat.le_refl _
  | i + 1 => by
    have := uc_le (D := D) i
    rw [uc]
    split <;> omega
theorem uc_nd {D : Nat → Nat} : ∀ i, (i ≤ uc D i) = (nd D i = true)
  | 0 => by simp [uc, nd, pal]
  | i + 1 => by
    have ih := uc_nd (D := D) i
    have hle := uc_le (D := D) i
    unfold nd at ih ⊢
    rw [uc, pal]
    apply propext
    rw [Bool.and_eq_true, ← ih]
    cases hit D (D i) i with
    | false => simp
    | true =>
      simp
      omega
theorem nd_iff {D : Nat → Nat} {N : Nat} : nd D N = true ↔ ∀ a b, a < b → b < N → D a ≠ D b := by
  unfold nd
  rw [pal_iff]
  constructor
  · intro h a b h1 h2 e
    have z := h b h2
    rw [Bool.not_eq_true', ← Bool.not_eq_true] at z
    exact z (pex_iff.mpr ⟨a, h1, decide_eq_true e⟩)
  · intro h k hk
    rw [Bool.not_eq_true', ← Bool.not_eq_true]
    intro z
    obtain ⟨a, h1, h2⟩ := pex_iff.mp z
    exact h a k h1 hk (of_decide_eq_true h2)
theorem nd_rev {D : Nat → Nat} {N : Nat} : nd (fun a => D (N - 1 - a)) N = nd D N := by
  rw [Bool.eq_iff_iff, nd_iff, nd_iff]
  constructor
  · intro h a b h1 h2 e
    refine h (N - 1 - b) (N - 1 - a) (by omega) (by omega) ?_
    rw [show N - 1 - (N - 1 - b) = b by omega, show N - 1 - (N - 1 - a) = a by omega]
    exact e.symm
  · intro h a b h1 h2 e
    exact h (N - 1 - b) (N - 1 - a) (by omega) (by omega) e.symm
/-- what a row costs -/
def bsu (A : Nat → Int32) (D : Nat → Nat) : Nat → Int32
  | 0 => 0
  | i + 1 => bsu A D i + A (137 + D i)
theorem bsu_n {A : Nat → Int32} {n m : Nat} {D : Nat → Nat} (hW : WS A n m) : ∀ {i : Nat}, (∀ a, a < i → D a < m) → ∃ b, b ≤ 9 * i ∧ bsu A D i = nI b
  | 0, _ => ⟨0, Nat.le_refl _, rfl⟩
  | i + 1, h => by
    obtain ⟨b, h1, h2⟩ := bsu_n hW (D := D) (i := i) fun a ha => h a (by omega)
    obtain ⟨e1, e2⟩ := hW.2.2.2.2.2.2.2.2.2.2.2 (D i) (h i (by omega))
    exact ⟨b + tn (A (137 + D i)), by omega, by rw [bsu, h2, e1, nI_add, ← e1]⟩
/-- a row of unlike dishes behind which the street is open -/
def vr (A : Nat → Int32) (y x m N c : Nat) : Bool := nd (dg m c N) N && pex (sop A y x (dg m c N)) N
def orP (A : Nat → Int32) (y x m N : Nat) : Nat → Int32 × Nat
  | 0 => (-1, 0)
  | c + 1 => if vr A y x m N c = true ∧ ((orP A y x m N c).1 < 0 ∨ ¬ (orP A y x m N c).1 ≤ bsu A (dg m c N) N) then (bsu A (dg m c N) N, c) else orP A y x m N c
def ordF (A : Nat → Int32) (y x m : Nat) (i : Int32) : Nat → Nat → Int32
  | 0, _ => -1
  | f + 1, N => if (orP A y x m N (m ^ N)).1 < 0 then ordF A y x m i f (N + 1)
    else if i = -1 then nI N else if i = -2 then (orP A y x m N (m ^ N)).1 else if nI N ≤ i then -5 else nI (dg m (orP A y x m N (m ^ N)).2 N (tn i))
def orA (A : Nat → Int32) (y x m : Nat) (i : Int32) : Int32 := if A (29 + x) = -1 then ordF A y x m i 4 1 else if 0 ≤ i then -5 else 0
theorem dg_lt {m c N i : Nat} (h : c < m ^ N) : dg m c N i < m ∨ N = 0 := by
  rcases Nat.eq_zero_or_pos N with q | q
  · exact Or.inr q
  · left
    refine Nat.mod_lt _ ?_
    rcases Nat.eq_zero_or_pos m with z | z
    · subst z
      rw [Nat.zero_pow q] at h
      omega
    · exact z
theorem pow_b {m N : Nat} (hm : m ≤ 6) (hN : N ≤ 4) : m ^ N ≤ 1296 := by
  have h1 : m ^ N ≤ 6 ^ N := Nat.pow_le_pow_left hm N
  have h2 : 6 ^ N ≤ 6 ^ 4 := Nat.pow_le_pow_right (by decide) hN
  omega
theorem ssm_cong {A : Nat → Int32} {y x : Nat} {D E : Nat → Nat} : ∀ {k : Nat}, (∀ j, j < k → D j = E j) → ssm A y x D k = ssm A y x E k
  | 0, _ => rfl
  | k + 1, h => by rw [ssm, ssm, ssm_cong (k := k) fun j hj => h j (by omega), h k (by omega)]
theorem sop_cong {A : Nat → Int32} {y x : Nat} {D E : Nat → Nat} {k : Nat} (h : ∀ j, j ≤ k → D j = E j) : sop A y x D k = sop A y x E k := by
  unfold sop spu
  rw [ssm_cong (E := E) fun j hj => h j (by omega), h k (Nat.le_refl k)]
/-- where no shorter row opens, a row opens on its last day or not at all -/
theorem vr_last {A : Nat → Int32} {y x m N c : Nat} (hN : 0 < N) (hc : c < m ^ N) (hS : ∀ N', 0 < N' → N' < N → ∀ c', c' < m ^ N' → vr A y x m N' c' = false) :
    vr A y x m N c = (nd (dg m c N) N && sop A y x (dg m c N) (N - 1)) := by
  unfold vr
  rcases hn : nd (dg m c N) N with _ | _
  · rfl
  · rw [Bool.true_and, Bool.true_and, Bool.eq_iff_iff, pex_iff]
    constructor
    · rintro ⟨j, hj, ho⟩
      by_cases e : j = N - 1
      · subst e; exact ho
      · exfalso
        have hm : 0 < m := by
          rcases Nat.eq_zero_or_pos m with z | z
          · subst z; rw [Nat.zero_pow hN] at hc; omega
          · exact z
        have hdg : ∀ i, i ≤ j → dg m (c / m ^ (N - 1 - j)) (j + 1) i = dg m c N i := fun i hi => by
          unfold dg
          rw [Nat.div_div_eq_div_mul, ← Nat.pow_add, show N - 1 - j + (j + 1 - 1 - i) = N - 1 - i by omega]
        have z := hS (j + 1) (by omega) (by omega) (c / m ^ (N - 1 - j)) (by
          rw [Nat.div_lt_iff_lt_mul (Nat.pow_pos hm), ← Nat.pow_add, show j + 1 + (N - 1 - j) = N by omega]
          exact hc)
        have z2 : vr A y x m (j + 1) (c / m ^ (N - 1 - j)) = true := by
          unfold vr
          rw [Bool.and_eq_true, nd_iff, pex_iff]
          refine ⟨fun a b h1 h2 => ?_, j, by omega, ?_⟩
          · rw [hdg a (by omega), hdg b (by omega)]
            exact nd_iff.mp hn a b h1 (by omega)
          · rw [sop_cong fun i hi => hdg i hi]; exact ho
        rw [z] at z2
        cases z2
    · intro h
      exact ⟨N - 1, by omega, h⟩
theorem orP_nn {A : Nat → Int32} {y x n m N : Nat} (hW : WS A n m) (hN : N ≤ 4) : ∀ c, c ≤ m ^ N → ((orP A y x m N c).1 = -1 ∨ ∃ b, b ≤ 36 ∧ (orP A y x m N c).1 = nI b) ∧ ((orP A y x m N c).1 < 0 → ∀ c', c' < c → vr A y x m N c' = false) ∧ (¬ (orP A y x m N c).1 < 0 → (orP A y x m N c).2 < m ^ N)
  | 0, _ => ⟨Or.inl rfl, fun _ c' h => absurd h (by omega), fun h => absurd (show (-1 : Int32) < 0 by decide) h⟩
  | c + 1, hc => by
    obtain ⟨i1, i2, i3⟩ := orP_nn (y := y) (x := x) hW hN c (by omega)
    have hb : ∃ b, b ≤ 36 ∧ bsu A (dg m c N) N = nI b := by
      rcases Nat.eq_zero_or_pos N with q | q
      · subst q; exact ⟨0, by omega, rfl⟩
      · obtain ⟨b, h1, h2⟩ := bsu_n (D := dg m c N) (i := N) hW fun a _ => (dg_lt (by omega)).resolve_right (by omega)
        exact ⟨b, by omega, h2⟩
    rw [orP]
    by_cases q : vr A y x m N c = true ∧ ((orP A y x m N c).1 < 0 ∨ ¬ (orP A y x m N c).1 ≤ bsu A (dg m c N) N)
    · rw [if_pos q]
      obtain ⟨b, h1, h2⟩ := hb
      exact ⟨Or.inr ⟨b, h1, h2⟩, fun h => absurd h (by rw [h2]; exact nI_pos (by omega)), fun _ => by show c < _; omega⟩
    · rw [if_neg q]
      refine ⟨i1, fun h c' h' => ?_, i3⟩
      by_cases e : c' = c
      · subst e
        rcases z : vr A y x m N c' with _ | _
        · rfl
        · exact absurd ⟨z, Or.inl h⟩ q
      · exact i2 h c' (by omega)
