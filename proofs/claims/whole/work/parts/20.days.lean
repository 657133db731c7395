/-! DAYS, NOSE: what each method answers and does to the memory -/
theorem sp_of {d k : Nat} {as : List Value} {w w' : am_W} {v : Option Value} {L : List (Option Value)} (hL : am_en as ++ List.replicate (am_mx k - (am_en as).length) none = L) (he : (am_en as).length ≤ am_mx k) (hk : k < am_N) (h : am_Ev d k 0 L [] w (v, w')) : am_Sp d k as w v w' := ⟨he, hk, hL ▸ h⟩
/-- counting up: from i to n by a step of the invariant -/
theorem up_to {n : Nat} {P : Nat → Prop} (hn : P n) (hs : ∀ i, i < n → P (i + 1) → P i) : ∀ i, i ≤ n → P i := by
  intro i hi
  obtain ⟨j, rfl⟩ := Nat.exists_eq_add_of_le hi
  clear hi
  induction j generalizing i with
  | zero => exact hn
  | succ j ih =>
    refine hs i (by omega) ?_
    have h2 := ih (i := i + 1)
    rw [show i + 1 + j = i + (j + 1) by omega] at h2
    exact h2 hn hs
theorem nI_s (i : Nat) : nI i + 1 = nI (i + 1) := (nI_succ i).symm
theorem fm_ext {S S' : fm_S} (h1 : ∀ a i, S.1 a i = S'.1 a i) (h2 : ∀ a i, S.2.1 a i = S'.2.1 a i) (h3 : ∀ a i, S.2.2 a i = S'.2.2 a i) : S = S' := by
  obtain ⟨m, g, p⟩ := S
  obtain ⟨m', g', p'⟩ := S'
  have e1 : m = m' := funext fun a => funext fun i => h1 a i
  have e2 : g = g' := funext fun a => funext fun i => h2 a i
  have e3 : p = p' := funext fun a => funext fun i => h3 a i
  rw [e1, e2, e3]
/-- the first n places of the days' rows as at first -/
def dy_first (S : fm_S) (a n : Nat) : fm_S := (fun c i => if c = a ∧ i = 0 then 0 else if (c = a + 1 ∨ c = a + 2) ∧ i < n then -1 else if c = a + 3 ∧ i < n then 0 else S.1 c i, S.2.1, S.2.2)
theorem dy_first_0 (S : fm_S) (a : Nat) : fm_wI S a 0 0 = dy_first S a 0 := by
  refine fm_ext (fun c i => ?_) (fun _ _ => rfl) (fun _ _ => rfl)
  simp [fm_wI, fm_up, dy_first]
theorem dy_first_s (S : fm_S) (a n : Nat) : fm_wI (fm_wI (fm_wI (dy_first S a n) (a + 1) n (-1)) (a + 2) n (-1)) (a + 3) n 0 = dy_first S a (n + 1) := by
  refine fm_ext (fun c i => ?_) (fun _ _ => rfl) (fun _ _ => rfl)
  simp only [fm_wI, fm_up, dy_first]
  grind
/-- Days.begin -/
theorem s_days_begin {a : Nat} (h : fm_tg a = 2) (S : fm_S) (d : Nat) : am_Sp d k_Days_begin [.ref a] (fm_mk S) none (fm_mk (dy_first S a 8)) := by
  refine sp_of (L := [some (.ref a), none]) rfl (Nat.le_of_ble_eq_true rfl) (Nat.le_of_ble_eq_true rfl) ?_
  refine b_Days_begin_0 h ?_
  rw [dy_first_0]
  have key : ∀ i, i ≤ 8 → am_Ev d k_Days_begin 7 [some (.ref a), some (.int (nI i))] [] (fm_mk (dy_first S a i)) (none, fm_mk (dy_first S a 8)) := by
    refine up_to (b_Days_begin_7 (fun _ => b_Days_begin_40) (fun q => absurd (by decide) q)) fun i hi ih => ?_
    refine b_Days_begin_7 (fun q => absurd q (nI_ge (b := 8) hi (by decide))) fun _ => ?_
    refine b_Days_begin_13 h (vp_in_nI hi (by decide)) ?_
    rw [nI_clamp (by omega), dy_first_s, nI_s]
    exact ih
  exact key 0 (by omega)
