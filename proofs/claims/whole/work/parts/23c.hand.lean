/-! Town.copy -/
def tc_base (S : fm_S) (a0 a1 : Nat) : fm_S := (g_Days_copy (g_Notes_copy (fm_cp (fm_cp (fm_cp (fm_cp (fm_cp (fm_cp (fm_cp (fm_cp (fm_cp (fm_wI (fm_wI (fm_wI S a0 0 (S.1 a1 0)) a0 7 ((fm_wI S a0 0 (S.1 a1 0)).1 a1 7)) a0 14 ((fm_wI (fm_wI S a0 0 (S.1 a1 0)) a0 7 ((fm_wI S a0 0 (S.1 a1 0)).1 a1 7)).1 a1 14)) (a1 + 1) 0 (a0 + 1) 0 8) (a1 + 2) 0 (a0 + 2) 0 8) (a1 + 3) 0 (a0 + 3) 0 8) (a1 + 4) 0 (a0 + 4) 0 8) (a1 + 5) 0 (a0 + 5) 0 4) (a1 + 6) 0 (a0 + 6) 0 4) (a1 + 7) 0 (a0 + 7) 0 6) (a1 + 8) 0 (a0 + 8) 0 6) (a1 + 9) 0 (a0 + 9) 0 6) (a0 + 10) (a1 + 10)) (a0 + 16) (a1 + 16))
def tc_days (S : fm_S) (a0 a1 : Nat) : Nat → fm_S
  | 0 => S
  | i + 1 => g_Days_copy (tc_days S a0 a1 i) ((tc_days S a0 a1 i).2.2 (a0 + 20) i) ((tc_days S a0 a1 i).2.2 (a1 + 20) i)
theorem tc_days_P (S : fm_S) (a0 a1 : Nat) : ∀ i, (tc_days S a0 a1 i).2.2 = S.2.2
  | 0 => rfl
  | i + 1 => by rw [tc_days]; exact tc_days_P S a0 a1 i
theorem dc_else {T : fm_S} {p q c : Nat} (hp : fm_tg p = 2) (h : c ≠ p ∧ c ≠ p + 1 ∧ c ≠ p + 2 ∧ c ≠ p + 3) (i : Nat) : (g_Days_copy T p q).1 c i = T.1 c i := by
  obtain ⟨h0, h1, h2, h3⟩ := h
  unfold g_Days_copy
  simp only [fm_cp, fm_wI, fm_up]
  rw [if_neg (fun z => h3 z.1), if_neg (fun z => h2 z.1), if_neg (fun z => h1 z.1), if_neg (fun z => h0 z.1)]
theorem dc_town {T : fm_S} {p q c : Nat} (hp : fm_tg p = 2) (hc : fm_tg c = 6) (i : Nat) : (g_Days_copy T p q).1 c i = T.1 c i := by
  obtain ⟨t1, -, t2, -, t3, -⟩ := fm_days hp
  refine dc_else hp ⟨?_, ?_, ?_, ?_⟩ i
  · rintro rfl; omega
  · rintro rfl; omega
  · rintro rfl; omega
  · rintro rfl; omega
theorem tc_days_c {S : fm_S} {a0 a1 : Nat} (h0 : fm_tg a0 = 6) (hp : ∀ i, i < 8 → fm_tg (S.2.2 (a0 + 20) i) = 2) : ∀ i, i ≤ 8 → ∀ j, (tc_days S a0 a1 i).1 a0 j = S.1 a0 j
  | 0, _, _ => rfl
  | i + 1, hi, j => by
    rw [tc_days, dc_town (by rw [tc_days_P]; exact hp i (by omega)) h0]
    exact tc_days_c h0 hp i (by omega) j
def g_Town_copy (S : fm_S) (a0 a1 : Nat) : fm_S := tc_days (tc_base S a0 a1) a0 a1 ((tc_base S a0 a1).1 a0 14).toNatClampNeg
theorem s_Town_copy {d a0 a1 : Nat} {S : fm_S} (h0 : fm_tg a0 = 6) (h1 : fm_tg a1 = 6) (hc : vp_in ((tc_base S a0 a1).1 a0 14) 9) (hp : ∀ i, i < 8 → fm_tg (S.2.2 (a0 + 20) i) = 2 ∧ fm_tg (S.2.2 (a1 + 20) i) = 2) :
    am_Sp (d + 2) k_Town_copy [.ref a0, .ref a1] (fm_mk S) none (fm_mk (g_Town_copy S a0 a1)) := by
  have T0 := fm_town h0
  have T1 := fm_town h1
  refine sp_of (L := [some (.ref a0), some (.ref a1), none]) rfl (Nat.le_of_ble_eq_true rfl) (Nat.le_of_ble_eq_true rfl) ?_
  refine w_Town_copy_0 h1 h0 T1.2.1 T0.2.1 T1.2.2.1 T0.2.2.1 ?_
  unfold g_Town_copy
  show am_Ev (d + 2) k_Town_copy 181 [some (.ref a0), some (.ref a1), some (.int 0)] [] (fm_mk (tc_base S a0 a1)) _
  have hP : (tc_base S a0 a1).2.2 = S.2.2 := rfl
  obtain ⟨eB, lB⟩ := vp_of hc (by decide)
  generalize tc_base S a0 a1 = U at eB lB hP ⊢
  generalize hn : (U.1 a0 14).toNatClampNeg = n at eB lB ⊢
  have hq0 : ∀ i, i < 8 → fm_tg (U.2.2 (a0 + 20) i) = 2 := fun i hi => by rw [hP]; exact (hp i hi).1
  have hq1 : ∀ i, i < 8 → fm_tg (U.2.2 (a1 + 20) i) = 2 := fun i hi => by rw [hP]; exact (hp i hi).2
  have key : ∀ i, i ≤ n → am_Ev (d + 2) k_Town_copy 181 [some (.ref a0), some (.ref a1), some (.int (nI i))] [] (fm_mk (tc_days U a0 a1 i)) (none, fm_mk (tc_days U a0 a1 n)) := by
    refine up_to ?_ fun i hi ih => ?_
    · have z : (tc_days U a0 a1 n).1 a0 14 ≤ nI n := by rw [tc_days_c h0 hq0 n (by omega), eB]; exact nI_le (Nat.le_refl _) (by omega)
      exact w_Town_copy_181 h0 (fun q => absurd z q) h1 (fun q => absurd z q) (fun q => absurd z q) (fun _ => rfl) (fun q => absurd z q) (fun q => absurd z q)
    · have z : ¬ (tc_days U a0 a1 i).1 a0 14 ≤ nI i := by rw [tc_days_c h0 hq0 i (by omega), eB]; exact nI_ge hi (by omega)
      have z8 : ¬ (8 : Int32) ≤ nI i := nI_ge (b := 8) (by omega) (by decide)
      refine w_Town_copy_181 h0 (fun _ _ => vp_in_nI (by omega) (by decide)) h1 (fun _ _ => by rw [nI_clamp (by omega), tc_days_P]; exact hq0 i (by omega)) (fun _ _ => by rw [nI_clamp (by omega), tc_days_P]; exact hq1 i (by omega)) (fun q => absurd q z) (fun _ q => absurd q z8) (fun _ _ => ?_)
      rw [nI_clamp (by omega), nI_s]
      exact ih
  exact key 0 (by omega)
