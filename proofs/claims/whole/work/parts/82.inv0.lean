/-! the start -/
theorem PP_Z (t : Nat) : PP fm_Z t := by
  have e : ∀ j, fm_Z.2.2 (t + 20) j = t + 20 + 1 + 4 * j := fun j => rfl
  refine ⟨fun j hj => ⟨j, hj, by rw [e]⟩, fun i j _ _ hne => ?_⟩
  rw [e, e]
  omega
theorem Inv_0 : Inv fm_Z 0 := by
  refine ⟨by omega, ⟨0, 0, 0, 0, 0, ?_⟩, ⟨PP_Z 1, PP_Z 68, PP_Z 124, PP_Z 177⟩, fun i hi => ⟨?_, Or.inl ?_⟩, ⟨0, by omega, by decide +kernel, by decide +kernel, fun k h => absurd h (by omega)⟩, ⟨by decide +kernel, by decide +kernel⟩, ⟨by decide +kernel, by decide +kernel, by decide +kernel⟩⟩
  · refine RT_A (A := fA) (fun k hk => fA_first hk) (RT_first (by decide +kernel) (by decide +kernel) (by decide +kernel) (by decide +kernel) ?_ ?_ ?_ (by decide +kernel) ?_)
    · decide +kernel
    · decide +kernel
    · decide +kernel
    · decide +kernel
  · have h : ∀ i, i < 2 → fm_Z.1 230 i = fm_Z.1 235 i := by decide +kernel
    exact h i hi
  · have h : ∀ i, i < 2 → fm_Z.1 230 i = 0 := by decide +kernel
    exact h i hi
