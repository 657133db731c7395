/-! methods with loops, first level: by hand out of the steps -/
/-- how many of the first streets are open -/
def n_open (S : fm_S) (a : Nat) : Nat → Int32
  | 0 => 0
  | i + 1 => if f_Days_isShut S a (nI i) = 0 then n_open S a i + 1 else n_open S a i
/-- Days.openOf -/
theorem s_Days_openOf {d a n : Nat} {S : fm_S} (h : fm_tg a = 2) (hn : n ≤ 8) : am_Sp (d + 1) k_Days_openOf [.ref a, .int (nI n)] (fm_mk S) (some (.int (n_open S a n))) (fm_mk S) := by
  refine sp_of (L := [some (.ref a), some (.int (nI n)), none, none]) rfl (Nat.le_of_ble_eq_true rfl) (Nat.le_of_ble_eq_true rfl) ?_
  refine w_Days_openOf_0 ?_
  have key : ∀ i, i ≤ n → am_Ev (d + 1) k_Days_openOf 4 [some (.ref a), some (.int (nI n)), some (.int (n_open S a i)), some (.int (nI i))] [] (fm_mk S) (some (.int (n_open S a n)), fm_mk S) := by
    refine up_to ?_ fun i hi ih => ?_
    · exact w_Days_openOf_4 h (fun q => absurd (nI_le (Nat.le_refl n) (by omega)) q) (fun _ => rfl) (fun q => absurd (nI_le (Nat.le_refl n) (by omega)) q) (fun q => absurd (nI_le (Nat.le_refl n) (by omega)) q)
    · refine w_Days_openOf_4 h (fun _ => vp_in_nI (by omega) (by decide)) (fun q => absurd q (nI_ge hi (by omega))) (fun _ q => ?_) (fun _ q => ?_)
      · rw [nI_s]; rw [show n_open S a (i + 1) = n_open S a i + 1 by rw [n_open, if_pos q]] at ih; exact ih
      · rw [nI_s]; rw [show n_open S a (i + 1) = n_open S a i by rw [n_open, if_neg q]] at ih; exact ih
  exact key 0 (by omega)
/-- the air is empty -/
def ar_none (S : fm_S) (n : Nat) : fm_S := (fun c i => if c = 57 ∧ i < n then 0 else S.1 c i, S.2.1, S.2.2)
theorem ar_none_0 (S : fm_S) : S = ar_none S 0 := by
  refine fm_ext (fun c i => ?_) (fun _ _ => rfl) (fun _ _ => rfl)
  simp [ar_none]
theorem ar_none_s (S : fm_S) (n : Nat) : fm_wI (ar_none S n) 57 n 0 = ar_none S (n + 1) := by
  refine fm_ext (fun c i => ?_) (fun _ _ => rfl) (fun _ _ => rfl)
  simp only [fm_wI, fm_up, ar_none]
  grind
/-- Air.empty -/
theorem s_Air_empty {d : Nat} {S : fm_S} : am_Sp d k_Air_empty [.ref 56] (fm_mk S) none (fm_mk (ar_none S 8)) := by
  refine sp_of (L := [some (.ref 56), none]) rfl (Nat.le_of_ble_eq_true rfl) (Nat.le_of_ble_eq_true rfl) ?_
  refine w_Air_empty_0 ?_
  have key : ∀ i, i ≤ 8 → am_Ev d k_Air_empty 2 [some (.ref 56), some (.int (nI i))] [] (fm_mk (ar_none S i)) (none, fm_mk (ar_none S 8)) := by
    refine up_to (w_Air_empty_2 (fun q => absurd (by decide) q) (fun _ => rfl) (fun q => absurd (by decide) q)) fun i hi ih => ?_
    refine w_Air_empty_2 (fun _ => vp_in_nI hi (by decide)) (fun q => absurd q (nI_ge (b := 8) hi (by decide))) (fun _ => ?_)
    rw [nI_clamp (by omega), ar_none_s, nI_s]
    exact ih
  rw [show (fm_mk S) = fm_mk (ar_none S 0) by rw [← ar_none_0]]
  exact key 0 (by omega)
/-- the shut streets, as bits -/
def n_shut (S : fm_S) (a : Nat) : Nat → Int32
  | 0 => 0
  | i + 1 => if f_Days_isShut S a (nI i) = 0 then n_shut S a i else n_shut S a i ||| (1 <<< (nI i &&& 31))
/-- Town.shutStreets -/
theorem s_Town_shutStreets {d a n : Nat} {S : fm_S} (h : fm_tg a = 6) (hn : S.1 a 0 = nI n) (hn8 : n ≤ 8) : am_Sp (d + 1) k_Town_shutStreets [.ref a] (fm_mk S) (some (.int (n_shut S (a + 16) n))) (fm_mk S) := by
  have hD : fm_tg (a + 16) = 2 := (fm_town h).2.2.1
  refine sp_of (L := [some (.ref a), none, none]) rfl (Nat.le_of_ble_eq_true rfl) (Nat.le_of_ble_eq_true rfl) ?_
  refine w_Town_shutStreets_0 ?_
  have key : ∀ i, i ≤ n → am_Ev (d + 1) k_Town_shutStreets 4 [some (.ref a), some (.int (n_shut S (a + 16) i)), some (.int (nI i))] [] (fm_mk S) (some (.int (n_shut S (a + 16) n)), fm_mk S) := by
    refine up_to ?_ fun i hi ih => ?_
    · have z : S.1 a 0 ≤ nI n := by rw [hn]; exact nI_le (Nat.le_refl n) (by omega)
      exact w_Town_shutStreets_4 h (fun q => absurd z q) (fun q => absurd z q) (fun _ => rfl) (fun q => absurd z q) (fun q => absurd z q)
    · refine w_Town_shutStreets_4 h (fun _ => hD) (fun _ => vp_in_nI (by omega) (by decide)) (fun q => absurd (by rw [hn] at q; exact q) (nI_ge hi (by omega))) (fun _ q => ?_) (fun _ q => ?_)
      · rw [nI_s]; rw [show n_shut S (a + 16) (i + 1) = n_shut S (a + 16) i by rw [n_shut, if_pos q]] at ih; exact ih
      · rw [nI_s]; rw [show n_shut S (a + 16) (i + 1) = n_shut S (a + 16) i ||| (1 <<< (nI i &&& 31)) by rw [n_shut, if_neg q]] at ih; exact ih
  exact key 0 (by omega)
/-- the bits of the first n -/
def n_bits (x : Int32) : Nat → Int32
  | 0 => 0
  | i + 1 => n_bits x i + ((x >>> (nI i &&& 31)) &&& 1)
/-- the reference's bits -/
theorem s_M_bits {d : Nat} {x0 : Int32} {S : fm_S} : am_Sp d k_M_bits [.int x0] (fm_mk S) (some (.int (n_bits x0 8))) (fm_mk S) := by
  refine sp_of (L := [some (.int x0), none, none]) rfl (Nat.le_of_ble_eq_true rfl) (Nat.le_of_ble_eq_true rfl) ?_
  refine w_M_bits_0 ?_
  have key : ∀ i, i ≤ 8 → am_Ev d k_M_bits 4 [some (.int x0), some (.int (n_bits x0 i)), some (.int (nI i))] [] (fm_mk S) (some (.int (n_bits x0 8)), fm_mk S) := by
    refine up_to (w_M_bits_4 (fun _ => rfl) (fun q => absurd (by decide) q)) fun i hi ih => ?_
    refine w_M_bits_4 (fun q => absurd q (nI_ge (b := 8) hi (by decide))) (fun _ => ?_)
    rw [nI_s]
    exact ih
  exact key 0 (by omega)
/-- powers -/
def n_pow (x : Int64) : Nat → Int64
  | 0 => 1
  | i + 1 => n_pow x i * x
theorem s_Frac_power {d n : Nat} {x0 : Int32} {S : fm_S} (hn : n ≤ 8) : am_Sp d k_Frac_power [.int x0, .int (nI n)] (fm_mk S) (some (.long (n_pow x0.toInt64 n))) (fm_mk S) := by
  refine sp_of (L := [some (.int x0), some (.int (nI n)), none, none, none]) rfl (Nat.le_of_ble_eq_true rfl) (Nat.le_of_ble_eq_true rfl) ?_
  refine w_Frac_power_0 ?_
  have key : ∀ i, i ≤ n → am_Ev d k_Frac_power 5 [some (.int x0), some (.int (nI n)), some (.long (n_pow x0.toInt64 i)), none, some (.int (nI i))] [] (fm_mk S) (some (.long (n_pow x0.toInt64 n)), fm_mk S) := by
    refine up_to (w_Frac_power_5 (fun _ => rfl) (fun q => absurd (nI_le (Nat.le_refl n) (by omega)) q)) fun i hi ih => ?_
    refine w_Frac_power_5 (fun q => absurd q (nI_ge hi (by omega))) (fun _ => ?_)
    rw [nI_s]
    exact ih
  exact key 0 (by omega)
/-! the same for any int: what gen14's registry (wip/whole/specs.json) names -/
theorem vp_of {x : Int32} {n : Nat} (h : vp_in x n) (hn : n < 2 ^ 31) : x = nI x.toNatClampNeg ∧ x.toNatClampNeg < n := by
  obtain ⟨j, hj, rfl⟩ := vp_in_of h hn
  rw [nI_clamp (by omega)]
  exact ⟨rfl, hj⟩
theorem s_Days_begin {d a0 : Nat} {S : fm_S} (h : fm_tg a0 = 2) : am_Sp d k_Days_begin [.ref a0] (fm_mk S) none (fm_mk (dy_first S a0 8)) := s_days_begin h S d
theorem s_Days_openOf_i {d a0 : Nat} {x1 : Int32} {S : fm_S} (h : fm_tg a0 = 2) (hx : vp_in x1 9) : am_Sp (d + 1) k_Days_openOf [.ref a0, .int x1] (fm_mk S) (some (.int (n_open S a0 x1.toNatClampNeg))) (fm_mk S) := by
  obtain ⟨e, hl⟩ := vp_of hx (by decide)
  have := s_Days_openOf (d := d) (S := S) h (show x1.toNatClampNeg ≤ 8 by omega)
  rw [← e] at this
  exact this
theorem s_Town_shutStreets_i {d a0 : Nat} {S : fm_S} (h : fm_tg a0 = 6) (hx : vp_in (S.1 a0 0) 9) : am_Sp (d + 1) k_Town_shutStreets [.ref a0] (fm_mk S) (some (.int (n_shut S (a0 + 16) (S.1 a0 0).toNatClampNeg))) (fm_mk S) := by
  obtain ⟨e, hl⟩ := vp_of hx (by decide)
  exact s_Town_shutStreets h e (by omega)
theorem s_Frac_power_i {d : Nat} {x0 x1 : Int32} {S : fm_S} (hx : vp_in x1 9) : am_Sp d k_Frac_power [.int x0, .int x1] (fm_mk S) (some (.long (n_pow x0.toInt64 x1.toNatClampNeg))) (fm_mk S) := by
  obtain ⟨e, hl⟩ := vp_of hx (by decide)
  have := s_Frac_power (d := d) (S := S) (x0 := x0) (show x1.toNatClampNeg ≤ 8 by omega)
  rw [← e] at this
  exact this
