/-! sets as bits -/
def tb (x : Int32) (i : Nat) : Bool := x.toBitVec.getLsbD i
theorem tb_ext {x y : Int32} (h : ∀ i, i < 32 → tb x i = tb y i) : x = y := by
  apply Int32.toBitVec_inj.mp
  exact BitVec.eq_of_getLsbD_eq fun i hi => h i hi
theorem tb_or (x y : Int32) (i : Nat) : tb (x ||| y) i = (tb x i || tb y i) := by unfold tb; rw [Int32.toBitVec_or]; simp
theorem tb_and (x y : Int32) (i : Nat) : tb (x &&& y) i = (tb x i && tb y i) := by unfold tb; rw [Int32.toBitVec_and]; simp
theorem tb_not (y : Int32) {i : Nat} (hi : i < 32) : tb (y ^^^ (-1)) i = !tb y i := by
  unfold tb
  rw [Int32.toBitVec_xor, show (-1 : Int32).toBitVec = BitVec.allOnes 32 by decide, BitVec.getLsbD_xor, BitVec.getLsbD_allOnes]
  simp [hi]
theorem tb_0 (i : Nat) : tb 0 i = false := by
  unfold tb
  rw [show (0 : Int32).toBitVec = 0#32 by decide]
  simp
theorem tb_one : ∀ k, k < 32 → ∀ i, i < 32 → tb ((1 : Int32) <<< (nI k &&& 31)) i = decide (i = k) := by decide +kernel
theorem tb_has' : ∀ k, k < 32 → (nI k &&& 31).toBitVec.smod 32 = BitVec.ofNat 32 k := by decide +kernel
theorem tb_has (x : Int32) {k : Nat} (hk : k < 32) : f_X_has x (nI k) = if tb x k = true then 1 else 0 := by
  unfold f_X_has
  have e : ((x >>> (nI k &&& 31)) &&& 1 = 1) = (tb x k = true) := by
    rw [← Int32.toBitVec_inj, Int32.toBitVec_and, Int32.toBitVec_shiftRight, tb_has' k hk]
    apply propext
    rw [show (1 : Int32).toBitVec = 1#32 by decide]
    have e2 : (x.toBitVec.sshiftRight' (BitVec.ofNat 32 k) &&& 1#32) = if tb x k = true then 1#32 else 0#32 := by
      apply BitVec.eq_of_getLsbD_eq
      intro i hi
      unfold tb
      rw [BitVec.getLsbD_and, BitVec.sshiftRight', BitVec.getLsbD_sshiftRight]
      by_cases q : i = 0
      · subst q
        have h3 : (BitVec.ofNat 32 k).toNat = k := by simp; omega
        rw [h3]
        cases hb : x.toBitVec.getLsbD k <;> simp [hb, hk]
      · have h4 : (1#32).getLsbD i = false := by simp [BitVec.getLsbD_one, q]
        rw [h4, Bool.and_false]
        split
        · exact h4.symm
        · simp
    rw [e2]
    by_cases q : tb x k = true
    · simp [q]
    · simp [q]
  simp only [e]
/-- the first n places of which p holds -/
def bt (p : Nat → Bool) : Nat → Int32
  | 0 => 0
  | n + 1 => if p n = true then bt p n ||| (1 <<< (nI n &&& 31)) else bt p n
theorem tb_bt {p : Nat → Bool} : ∀ {n : Nat}, n ≤ 32 → ∀ i, i < 32 → tb (bt p n) i = (decide (i < n) && p i)
  | 0, _, i, _ => by rw [bt, tb_0]; simp
  | n + 1, hn, i, hi => by
    have ih := tb_bt (p := p) (n := n) (by omega) i hi
    rw [bt]
    by_cases hp : p n = true
    · rw [if_pos hp, tb_or, ih, tb_one n (by omega) i hi]
      by_cases e : i = n
      · subst e; simp [hp]
      · have : (i < n + 1) = (i < n) := propext (by omega)
        simp [e, this]
    · rw [if_neg hp, ih]
      by_cases e : i = n
      · subst e; simp [hp]
      · have : (i < n + 1) = (i < n) := propext (by omega)
        simp [this]
theorem bt_has {p : Nat → Bool} {n k : Nat} (hn : n ≤ 32) (hk : k < n) : f_X_has (bt p n) (nI k) = if p k = true then 1 else 0 := by
  rw [tb_has _ (by omega), tb_bt hn k (by omega)]
  simp [hk]
theorem bt_cong {p q : Nat → Bool} : ∀ {n : Nat}, (∀ k, k < n → p k = q k) → bt p n = bt q n
  | 0, _ => rfl
  | n + 1, h => by rw [bt, bt, bt_cong (n := n) fun k hk => h k (by omega), h n (by omega)]
/-- as one of 256 -/
def bn (p : Nat → Bool) : Nat → Nat
  | 0 => 0
  | n + 1 => if p n = true then bn p n + 2 ^ n else bn p n
theorem bn_lt {p : Nat → Bool} : ∀ n, bn p n < 2 ^ n
  | 0 => Nat.zero_lt_one
  | n + 1 => by
    have := bn_lt (p := p) n
    rw [bn, Nat.pow_succ]
    split <;> omega
theorem or_pow : ∀ n, n < 8 → ∀ a, a < 2 ^ n → nI a ||| (1 <<< (nI n &&& 31)) = nI (a + 2 ^ n) := by decide +kernel
theorem bt_bn {p : Nat → Bool} : ∀ {n : Nat}, n ≤ 8 → bt p n = nI (bn p n)
  | 0, _ => rfl
  | n + 1, hn => by
    rw [bt, bn, bt_bn (n := n) (by omega)]
    split
    · exact or_pow n (by omega) _ (bn_lt n)
    · rfl
theorem bits_same : ∀ k, k < 256 → f_Int_bitCount (nI k) = n_bits (nI k) 8 := by decide +kernel
theorem bits_le : ∀ k, k < 256 → (n_bits (nI k) 8).toNatClampNeg ≤ 8 ∧ n_bits (nI k) 8 = nI (n_bits (nI k) 8).toNatClampNeg := by decide +kernel
theorem bt_256 {p : Nat → Bool} {n : Nat} (hn : n ≤ 8) : ∃ k, k < 256 ∧ bt p n = nI k := by
  refine ⟨bn p n, ?_, bt_bn hn⟩
  have := bn_lt (p := p) n
  have h2 : 2 ^ n ≤ 2 ^ 8 := Nat.pow_le_pow_right (by decide) hn
  omega
theorem bt_count {p : Nat → Bool} {n : Nat} (hn : n ≤ 8) : f_Int_bitCount (bt p n) = n_bits (bt p n) 8 := by
  obtain ⟨k, hk, e⟩ := bt_256 (p := p) hn
  rw [e]; exact bits_same k hk
/-- how many bits -/
def bc (p : Nat → Bool) (n : Nat) : Nat := (n_bits (bt p n) 8).toNatClampNeg
theorem bt_bits {p : Nat → Bool} {n : Nat} (hn : n ≤ 8) : n_bits (bt p n) 8 = nI (bc p n) := by
  unfold bc
  obtain ⟨k, hk, e⟩ := bt_256 (p := p) hn
  rw [e]; exact (bits_le k hk).2
theorem bc_le {p : Nat → Bool} {n : Nat} (hn : n ≤ 8) : bc p n ≤ 8 := by
  unfold bc
  obtain ⟨k, hk, e⟩ := bt_256 (p := p) hn
  rw [e]; exact (bits_le k hk).1
/-- has is has -/
theorem mx_has (x y : Int32) : f_M_has x y = f_X_has x y := rfl
