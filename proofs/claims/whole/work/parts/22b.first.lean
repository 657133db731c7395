/-- the reference's array as at first -/
def m_zero (S : fm_S) (a n : Nat) : fm_S := (fun c i => if c = a ∧ i < n then 0 else S.1 c i, S.2.1, S.2.2)
def m_first (S : fm_S) (a n : Nat) : fm_S := (fun c i => if c = a ∧ 121 ≤ i ∧ i < 121 + n then nI (i - 121) else if c = a ∧ i < 373 then 0 else S.1 c i, S.2.1, S.2.2)
theorem m_zero_0 (S : fm_S) (a : Nat) : S = m_zero S a 0 := by
  refine fm_ext (fun c i => ?_) (fun _ _ => rfl) (fun _ _ => rfl)
  simp [m_zero]
theorem m_zero_s (S : fm_S) (a n : Nat) : fm_wI (m_zero S a n) a n 0 = m_zero S a (n + 1) := by
  refine fm_ext (fun c i => ?_) (fun _ _ => rfl) (fun _ _ => rfl)
  simp only [fm_wI, fm_up, m_zero]
  grind
theorem m_first_0 (S : fm_S) (a : Nat) : m_zero S a 373 = m_first S a 0 := by
  refine fm_ext (fun c i => ?_) (fun _ _ => rfl) (fun _ _ => rfl)
  simp only [m_zero, m_first]
  grind
theorem m_first_s (S : fm_S) (a n : Nat) : fm_wI (m_first S a n) a (121 + n) (nI n) = m_first S a (n + 1) := by
  refine fm_ext (fun c i => ?_) (fun _ _ => rfl) (fun _ _ => rfl)
  simp only [fm_wI, fm_up, m_first]
  by_cases h : c = a ∧ i = 121 + n
  · obtain ⟨rfl, rfl⟩ := h
    rw [if_pos ⟨rfl, rfl⟩, if_pos ⟨rfl, by omega, by omega⟩, show 121 + n - 121 = n by omega]
  · rw [if_neg h]
    grind
/-- the reference's first -/
theorem s_M_first {d a0 : Nat} {S : fm_S} (h : fm_tg a0 = 100) (hl : fm_ln a0 = 373) : am_Sp d k_M_first [.ref a0] (fm_mk S) none (fm_mk (m_first S a0 4)) := by
  refine sp_of (L := [some (.ref a0), none]) rfl (Nat.le_of_ble_eq_true rfl) (Nat.le_of_ble_eq_true rfl) ?_
  refine w_M_first_0 ?_
  have key2 : ∀ i, i ≤ 4 → am_Ev d k_M_first 21 [some (.ref a0), some (.int (nI i))] [] (fm_mk (m_first S a0 i)) (none, fm_mk (m_first S a0 4)) := by
    refine up_to (w_M_first_21 h (fun q => absurd (by decide) q) (fun _ => rfl) (fun q => absurd (by decide) q)) fun i hi ih => ?_
    have e : (121 : Int32) + nI i = nI (121 + i) := by rw [← nI_add]; rfl
    refine w_M_first_21 h (fun _ => by rw [e, hl]; exact vp_in_nI (by omega) (by decide)) (fun q => absurd q (nI_ge (b := 4) hi (by decide))) (fun _ => ?_)
    rw [e, nI_clamp (by omega), m_first_s, nI_s]
    exact ih
  have key : ∀ i, i ≤ 373 → am_Ev d k_M_first 2 [some (.ref a0), some (.int (nI i))] [] (fm_mk (m_zero S a0 i)) (none, fm_mk (m_first S a0 4)) := by
    refine up_to (w_M_first_2 h (fun q => absurd (by decide) q) (fun _ => by rw [m_first_0]; exact key2 0 (by omega)) (fun q => absurd (by decide) q)) fun i hi ih => ?_
    refine w_M_first_2 h (fun _ => by rw [hl]; exact vp_in_nI hi (by decide)) (fun q => absurd q (nI_ge (b := 373) hi (by decide))) (fun _ => ?_)
    rw [nI_clamp (by omega), m_zero_s, nI_s]
    exact ih
  rw [show (fm_mk S) = fm_mk (m_zero S a0 0) by rw [← m_zero_0]]
  exact key 0 (by omega)
