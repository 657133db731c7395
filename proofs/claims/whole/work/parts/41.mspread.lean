/-! the reference's spread -/
/-- what comes to place k % 8 from place k / 8 -/
def sp_c (A : Nat → Int32) (h m : Int32) (k : Nat) (v : Nat → Int32) : Int32 := if A (53 + k) = 1 then if nI (k - k / 8 * 8) = h then v (k / 8) - 2 - A (13 + (k - k / 8 * 8)) - m else v (k / 8) - 2 - A (13 + (k - k / 8 * 8)) - 0 else 0
/-- the first k steps of a round, and whether any rises -/
def sp_r (A : Nat → Int32) (h m : Int32) (v : Nat → Int32) : Nat → Nat → Int32
  | 0 => v
  | k + 1 => up1 (sp_r A h m v k) (k - k / 8 * 8) (if sp_c A h m k (sp_r A h m v k) ≤ sp_r A h m v k (k - k / 8 * 8) then sp_r A h m v k (k - k / 8 * 8) else sp_c A h m k (sp_r A h m v k))
def sp_f (A : Nat → Int32) (h m : Int32) (v : Nat → Int32) : Nat → Int32
  | 0 => 0
  | k + 1 => if sp_f A h m v k = 0 then (if sp_c A h m k (sp_r A h m v k) ≤ sp_r A h m v k (k - k / 8 * 8) then 0 else 1) else 1
def sp_n (A : Nat → Int32) (h m : Int32) (v : Nat → Int32) : Nat → Nat → Int32
  | 0 => v
  | n + 1 => sp_r A h m (sp_n A h m v n) 64
def sp_z (v : Nat → Int32) (n : Nat) : Nat → Int32 := fun y => if y < n then 0 else v y
def sp_0 (A : Nat → Int32) (so w h m : Int32) (v : Nat → Int32) : Nat → Int32 := fun y =>
  if y = (A ((117 + w).toNatClampNeg)).toNatClampNeg then (if so - A (13 + y) - (if nI y = h then m else 0) ≤ 0 then 0 else so - A (13 + y) - (if nI y = h then m else 0)) else if y < 8 then 0 else v y
theorem sp_z0 (v : Nat → Int32) : sp_z v 0 = v := by funext y; simp [sp_z]
theorem sp_zs (v : Nat → Int32) (n : Nat) : up1 (sp_z v n) n 0 = sp_z v (n + 1) := by funext y; simp only [up1, sp_z]; grind
/-- a round of the loop -/
theorem sp_round {d : Nat} {x1 x2 x3 x4 x5 x6 : Int32} {o9 o10 : Option Value} {S : fm_S} {Q : Unit → fm_S → Prop} (v : Nat → Int32)
    (W : ∀ o9 o10, H_M_spread_93 d x1 x2 x3 x4 x5 x6 (sp_f (S.1 232) x3 x4 v 64) (some (.int (nI 64))) o9 o10 (fm_row S 238 (sp_r (S.1 232) x3 x4 v 64)) Q) :
    H_M_spread_104 d x1 x2 x3 x4 x5 x6 0 0 o9 o10 (fm_row S 238 v) Q := by
  have key : ∀ k, k ≤ 64 → ∀ o9 o10, H_M_spread_104 d x1 x2 x3 x4 x5 x6 (sp_f (S.1 232) x3 x4 v k) (nI k) o9 o10 (fm_row S 238 (sp_r (S.1 232) x3 x4 v k)) Q := by
    refine up_to (fun o9 o10 => ?_) fun k hk ih o9 o10 => ?_
    · refine p_M_spread_104 ?_
      simp (disch := omega) only [lit_add, add_lit, lit_mul, mul_lit, nI_add, nI_clamp, nI_subI, nI_sub1, nI_divL, vp_T, ge_F, ge_T, geL_F, geL_T, leL_F, leL_T, le0_F, le0_T, ge0_T, row_self, row_ne, row_l, row_p, row_row, wI_row, wI_same, wI_cell, wI_place, wI_l, wI_p, true_and, and_true, not_true_eq_false, not_false_eq_true, false_implies, true_implies, implies_true, forall_const, forall_eq, if_true, if_false, false_and, and_false]
      exact W _ _
    · refine p_M_spread_104 ?_
      simp (disch := omega) only [lit_add, add_lit, lit_mul, mul_lit, nI_add, nI_clamp, nI_subI, nI_sub1, nI_divL, vp_T, ge_F, ge_T, geL_F, geL_T, leL_F, leL_T, le0_F, le0_T, ge0_T, row_self, row_ne, row_l, row_p, row_row, wI_row, wI_same, wI_cell, wI_place, wI_l, wI_p, true_and, and_true, not_true_eq_false, not_false_eq_true, false_implies, true_implies, implies_true, forall_const, forall_eq, if_true, if_false, false_and, and_false]
      exact ih _ _
  exact key 0 (by omega) _ _
