/-! the reference's past -/
theorem fm_ln_le (a : Nat) : fm_ln a ≤ 746 := by
  have h : ∀ q ∈ fm_sh, q.2 ≤ 746 := by decide +kernel
  unfold fm_ln
  rw [List.getD_eq_getElem?_getD]
  cases hq : fm_sh[a]? with
  | none => exact Nat.zero_le _
  | some q => exact h q (List.mem_of_getElem? hq)
def m_ow (k : Nat) : Nat := if k = 0 then 4 else 28 + k
def m_put (S : fm_S) (a0 a1 p n : Nat) : fm_S := (fun c i => if c = a1 ∧ p ≤ i ∧ i < p + n then S.1 a0 (m_ow (i - p)) else S.1 c i, S.2.1, S.2.2)
def m_get (S : fm_S) (a0 a1 p n : Nat) : fm_S := (fun c i => if c = a1 ∧ i = 4 ∧ 0 < n then S.1 a0 p else if c = a1 ∧ 29 ≤ i ∧ i < 28 + n then S.1 a0 (p + (i - 28)) else S.1 c i, S.2.1, S.2.2)
theorem m_put_0 (S : fm_S) (a0 a1 p : Nat) : S = m_put S a0 a1 p 0 := by
  refine fm_ext (fun c i => ?_) (fun _ _ => rfl) (fun _ _ => rfl)
  simp only [m_put]
  rw [if_neg (by omega)]
theorem m_get_0 (S : fm_S) (a0 a1 p : Nat) : S = m_get S a0 a1 p 0 := by
  refine fm_ext (fun c i => ?_) (fun _ _ => rfl) (fun _ _ => rfl)
  simp only [m_get]
  rw [if_neg (by omega), if_neg (by omega)]
theorem m_put_r {S : fm_S} {a0 a1 p n : Nat} (hd : a0 ≠ a1 ∨ 53 ≤ p) (hn : n < 25) : (m_put S a0 a1 p n).1 a0 (m_ow n) = S.1 a0 (m_ow n) := by
  simp only [m_put]
  rw [if_neg]
  rintro ⟨h1, h2, h3⟩
  have : m_ow n ≤ 52 := by unfold m_ow; split <;> omega
  rcases hd with hd | hd
  · exact hd h1
  · omega
theorem m_put_s {S : fm_S} {a0 a1 p n : Nat} (hd : a0 ≠ a1 ∨ 53 ≤ p) (hn : n < 25) : fm_wI (m_put S a0 a1 p n) a1 (p + n) ((m_put S a0 a1 p n).1 a0 (m_ow n)) = m_put S a0 a1 p (n + 1) := by
  rw [m_put_r hd hn]
  refine fm_ext (fun c i => ?_) (fun _ _ => rfl) (fun _ _ => rfl)
  simp only [fm_wI, fm_up, m_put]
  by_cases h : c = a1 ∧ i = p + n
  · obtain ⟨rfl, rfl⟩ := h
    rw [if_pos ⟨rfl, rfl⟩, if_pos ⟨rfl, by omega, by omega⟩, show p + n - p = n by omega]
  · rw [if_neg h]
    by_cases h2 : c = a1 ∧ p ≤ i ∧ i < p + n
    · rw [if_pos h2, if_pos ⟨h2.1, h2.2.1, by omega⟩]
    · rw [if_neg h2, if_neg (fun q => h2 ⟨q.1, q.2.1, by rcases Nat.lt_or_ge i (p + n) with z | z; exact z; exact absurd ⟨q.1, by omega⟩ h⟩)]
theorem m_get_r {S : fm_S} {a0 a1 p n : Nat} (hd : a0 ≠ a1 ∨ 53 ≤ p) (hn : n < 25) : (m_get S a0 a1 p n).1 a0 (p + n) = S.1 a0 (p + n) := by
  simp only [m_get]
  rw [if_neg, if_neg]
  · rintro ⟨h1, h2, h3⟩
    rcases hd with hd | hd
    · exact hd h1
    · omega
  · rintro ⟨h1, h2, h3⟩
    rcases hd with hd | hd
    · exact hd h1
    · omega
theorem m_get_s {S : fm_S} {a0 a1 p n : Nat} (hd : a0 ≠ a1 ∨ 53 ≤ p) (hn : n < 25) : fm_wI (m_get S a0 a1 p n) a1 (m_ow n) ((m_get S a0 a1 p n).1 a0 (p + n)) = m_get S a0 a1 p (n + 1) := by
  rw [m_get_r hd hn]
  refine fm_ext (fun c i => ?_) (fun _ _ => rfl) (fun _ _ => rfl)
  simp only [fm_wI, fm_up, m_get, m_ow]
  by_cases hz : n = 0
  · subst hz
    simp only [if_true]
    by_cases h : c = a1 ∧ i = 4
    · obtain ⟨rfl, rfl⟩ := h
      simp
    · rw [if_neg h, if_neg (by omega), if_neg (by omega), if_neg (by omega), if_neg (by omega)]
  · rw [if_neg hz]
    by_cases h : c = a1 ∧ i = 28 + n
    · obtain ⟨rfl, rfl⟩ := h
      rw [if_pos ⟨rfl, rfl⟩, if_neg (by omega), if_pos ⟨rfl, by omega, by omega⟩, show 28 + n - 28 = n by omega]
    · rw [if_neg h]
      by_cases h4 : c = a1 ∧ i = 4 ∧ 0 < n
      · rw [if_pos h4, if_pos ⟨h4.1, h4.2.1, by omega⟩]
      · have h4' : ¬ (c = a1 ∧ i = 4 ∧ 0 < n + 1) := fun q => h4 ⟨q.1, q.2.1, by omega⟩
        rw [if_neg h4, if_neg h4']
        by_cases h5 : c = a1 ∧ 29 ≤ i ∧ i < 28 + n
        · rw [if_pos h5, if_pos ⟨h5.1, h5.2.1, by omega⟩]
        · rw [if_neg h5, if_neg (fun q => h5 ⟨q.1, q.2.1, by rcases Nat.lt_or_ge i (28 + n) with z | z; exact z; exact absurd ⟨q.1, by omega⟩ h⟩)]
def g_past (S : fm_S) (a0 a1 : Nat) (x2 x3 : Int32) : fm_S := if x3 = 0 then m_put S a0 a1 x2.toNatClampNeg 25 else m_get S a0 a1 x2.toNatClampNeg 25
/-- the reference's past -/
theorem s_M_past {d a0 a1 : Nat} {x2 x3 : Int32} {S : fm_S} (h0 : fm_tg a0 = 100) (h1 : fm_tg a1 = 100) (hx : ¬ x2 < 0) (hd : a0 ≠ a1 ∨ 53 ≤ x2.toNatClampNeg) (hl : x2.toNatClampNeg + 25 ≤ (if x3 = 0 then fm_ln a1 else fm_ln a0) ∧ 53 ≤ (if x3 = 0 then fm_ln a0 else fm_ln a1)) :
    am_Sp d k_M_past [.ref a0, .ref a1, .int x2, .int x3] (fm_mk S) none (fm_mk (g_past S a0 a1 x2 x3)) := by
  obtain ⟨p, hp, rfl⟩ := nI_of hx
  rw [nI_clamp hp] at hd hl
  unfold g_past
  rw [nI_clamp hp]
  have u0 := fm_ln_le a0
  have u1 := fm_ln_le a1
  refine sp_of (L := [some (.ref a0), some (.ref a1), some (.int (nI p)), some (.int x3), none, none]) rfl (Nat.le_of_ble_eq_true rfl) (Nat.le_of_ble_eq_true rfl) ?_
  refine w_M_past_0 ?_
  have e28 : ∀ n, (28 : Int32) + nI n = nI (28 + n) := fun n => by rw [← nI_add]; rfl
  have z0 : ∀ n, n < 25 → (nI n = 0 ↔ n = 0) := fun n hn => by
    rw [show (0 : Int32) = nI 0 from nI_0.symm]
    exact nI_eq (by omega) (by omega)
  by_cases hb : x3 = 0
  · rw [if_pos hb] at hl ⊢
    rw [if_pos hb] at hl
    have key : ∀ i, i ≤ 25 → ∀ o5 : Option Value, am_Ev d k_M_past 3 [some (.ref a0), some (.ref a1), some (.int (nI p)), some (.int x3), some (.int (nI i)), o5] [] (fm_mk (m_put S a0 a1 p i)) (none, fm_mk (m_put S a0 a1 p 25)) := by
      refine up_to ?_ fun i hi ih => ?_
      · intro o5
        have z : (25 : Int32) ≤ nI 25 := by decide
        exact w_M_past_3 h0 (fun q => absurd z q) h1 (fun q => absurd z q) (fun q => absurd z q) (fun q => absurd z q) (fun q => absurd z q) (fun q => absurd z q) (fun q => absurd z q) (fun q => absurd z q) (fun _ => rfl) (fun q => absurd z q) (fun q => absurd z q) (fun q => absurd z q) (fun q => absurd z q)
      · intro o5
        have ge := nI_ge (b := 25) hi (by decide)
        refine w_M_past_3 h0 (fun _ _ _ => vp_c (by decide) (by show 4 < _; omega)) h1 (fun _ _ _ => by rw [nI_add]; exact vp_in_nI (by omega) (by omega)) (fun _ _ q => absurd hb q) (fun _ _ q => absurd hb q) (fun _ _ _ => by rw [e28]; exact vp_in_nI (by omega) (by omega)) (fun _ _ _ => by rw [nI_add]; exact vp_in_nI (by omega) (by omega)) (fun _ _ q => absurd hb q) (fun _ _ q => absurd hb q) (fun q => absurd q ge) (fun _ q _ => ?_) (fun _ _ q => absurd hb q) (fun _ q _ => ?_) (fun _ _ q => absurd hb q)
        · have hz := (z0 i hi).mp q
          rw [nI_add, nI_clamp (by omega), nI_s, show (4 : Int32).toNatClampNeg = m_ow i by subst hz; decide, m_put_s hd hi]
          exact ih _
        · have hz : ¬ i = 0 := fun y => q ((z0 i hi).mpr y)
          rw [nI_add, e28, nI_clamp (by omega), nI_clamp (by omega), nI_s, show 28 + i = m_ow i by unfold m_ow; rw [if_neg hz], m_put_s hd hi]
          exact ih _
    rw [show (fm_mk S) = fm_mk (m_put S a0 a1 p 0) by rw [← m_put_0]]
    exact key 0 (by omega) _
  · rw [if_neg hb] at hl ⊢
    rw [if_neg hb] at hl
    have key : ∀ i, i ≤ 25 → ∀ o5 : Option Value, am_Ev d k_M_past 3 [some (.ref a0), some (.ref a1), some (.int (nI p)), some (.int x3), some (.int (nI i)), o5] [] (fm_mk (m_get S a0 a1 p i)) (none, fm_mk (m_get S a0 a1 p 25)) := by
      refine up_to ?_ fun i hi ih => ?_
      · intro o5
        have z : (25 : Int32) ≤ nI 25 := by decide
        exact w_M_past_3 h0 (fun q => absurd z q) h1 (fun q => absurd z q) (fun q => absurd z q) (fun q => absurd z q) (fun q => absurd z q) (fun q => absurd z q) (fun q => absurd z q) (fun q => absurd z q) (fun _ => rfl) (fun q => absurd z q) (fun q => absurd z q) (fun q => absurd z q) (fun q => absurd z q)
      · intro o5
        have ge := nI_ge (b := 25) hi (by decide)
        refine w_M_past_3 h0 (fun _ _ q => absurd q hb) h1 (fun _ _ q => absurd q hb) (fun _ _ _ => by rw [nI_add]; exact vp_in_nI (by omega) (by omega)) (fun _ _ _ => vp_c (by decide) (by show 4 < _; omega)) (fun _ _ q => absurd q hb) (fun _ _ q => absurd q hb) (fun _ _ _ => by rw [nI_add]; exact vp_in_nI (by omega) (by omega)) (fun _ _ _ => by rw [e28]; exact vp_in_nI (by omega) (by omega)) (fun q => absurd q ge) (fun _ _ q => absurd q hb) (fun _ q _ => ?_) (fun _ _ q => absurd q hb) (fun _ q _ => ?_)
        · have hz := (z0 i hi).mp q
          rw [nI_add, nI_clamp (by omega), nI_s, show (4 : Int32).toNatClampNeg = m_ow i by subst hz; decide, m_get_s hd hi]
          exact ih _
        · have hz : ¬ i = 0 := fun y => q ((z0 i hi).mpr y)
          rw [nI_add, e28, nI_clamp (by omega), nI_clamp (by omega), nI_s, show 28 + i = m_ow i by unfold m_ow; rw [if_neg hz], m_get_s hd hi]
          exact ih _
    rw [show (fm_mk S) = fm_mk (m_get S a0 a1 p 0) by rw [← m_get_0]]
    exact key 0 (by omega) _
