/-! both constructors: the class' by the kernel, the reference's up to its call of first by the kernel -/
def fm_i1 : List (Nat × Nat × Int32) := [(7, 1, 1), (7, 2, 2), (7, 3, 3), (18, 0, -1), (18, 1, -1), (18, 2, -1), (18, 3, -1), (18, 4, -1), (18, 5, -1), (18, 6, -1), (18, 7, -1), (19, 0, -1), (19, 1, -1), (19, 2, -1), (19, 3, -1), (19, 4, -1), (19, 5, -1), (19, 6, -1), (19, 7, -1), (74, 1, 1), (74, 2, 2), (74, 3, 3), (85, 0, -1), (85, 1, -1), (85, 2, -1), (85, 3, -1), (85, 4, -1), (85, 5, -1), (85, 6, -1), (85, 7, -1), (86, 0, -1), (86, 1, -1), (86, 2, -1), (86, 3, -1), (86, 4, -1), (86, 5, -1), (86, 6, -1), (86, 7, -1), (130, 1, 1), (130, 2, 2), (130, 3, 3), (141, 0, -1), (141, 1, -1), (141, 2, -1), (141, 3, -1), (141, 4, -1), (141, 5, -1), (141, 6, -1), (141, 7, -1), (142, 0, -1), (142, 1, -1), (142, 2, -1), (142, 3, -1), (142, 4, -1), (142, 5, -1), (142, 6, -1), (142, 7, -1), (183, 1, 1), (183, 2, 2), (183, 3, 3), (194, 0, -1), (194, 1, -1), (194, 2, -1), (194, 3, -1), (194, 4, -1), (194, 5, -1), (194, 6, -1), (194, 7, -1), (195, 0, -1), (195, 1, -1), (195, 2, -1), (195, 3, -1), (195, 4, -1), (195, 5, -1), (195, 6, -1), (195, 7, -1)]
/-- the memory ahead of the reference's first -/
def fm_S1 : fm_S := (fm_lk 0 fm_i1, fm_lk 0 fm_l0, fun a i => a + 1 + 4 * i)
theorem fm_newX : am_runF 9000 11 0 0 [some (.ref 0), none] [] [(7, am_df 7)] = some (none, (fm_mk fm_S1).take fm_nx) := by decide +kernel
/-- n instructions of one method, none a call -/
def am_stp : Nat → Nat → Nat → Nat → List (Option Value) → List Value → am_W → Option (Nat × List (Option Value) × List Value × am_W)
  | 0, _, _, pc, L, st, w => some (pc, L, st, w)
  | n + 1, d, k, pc, L, st, w => match am_fcode k pc with
    | some (i, z) => match am_one (am_kl k) (decide ((am_y k).name = "<init>")) d pc i z L st w with
      | some (pc', L', st', w') => am_stp n d k pc' L' st' w'
      | none => none
    | none => none
theorem am_stp_ok : ∀ (n : Nat) {d k pc pc' : Nat} {L L' : List (Option Value)} {st st' : List Value} {w w' : am_W} {r : Option Value × am_W}, am_stp n d k pc L st w = some (pc', L', st', w') → am_Ev d k pc' L' st' w' r → am_Ev d k pc L st w r := by
  intro n
  induction n with
  | zero => intro d k pc pc' L L' st st' w w' r h nx; cases h; exact nx
  | succ n ih =>
    intro d k pc pc' L L' st st' w w' r h nx
    rw [am_stp] at h
    split at h
    next i z hd =>
      split at h
      next p1 L1 s1 w1 h1 => exact ev_one (am_fok hd) h1 (ih h nx)
      next => cases h
    next => cases h
theorem fm_newM1 : am_stp 55 11 134 0 [some (.ref fm_nx)] [] ((fm_mk fm_S1).take fm_nx ++ [(8, am_df 8)]) = some (110, [some (.ref fm_nx)], [.ref 232], fm_mk fm_S1) := by decide +kernel
/-- the memory behind both constructors -/
def fm_Z : fm_S := m_first fm_S1 232 4
theorem fm_newM  : am_Sp 11 k_M_new [.ref fm_nx] ((fm_mk fm_S1).take fm_nx ++ [(8, am_df 8)]) none (fm_mk fm_Z) := by
  refine sp_of (L := [some (.ref fm_nx)]) rfl (Nat.le_of_ble_eq_true rfl) (Nat.le_of_ble_eq_true rfl) ?_
  refine am_stp_ok 55 fm_newM1 ?_
  refine fe_callS (idx := 51) (kd := 0) (n := 1) (wp := 942) (q := (943, 0)) (k' := k_M_first) (as := [.ref 232]) (rs := []) (by decide +kernel) (by decide +kernel) (by decide +kernel) (by decide) rfl (Nat.le_of_ble_eq_true rfl) rfl (s_M_first (a0 := 232) (by decide +kernel) (by decide +kernel)) ?_
  exact fe_retV (by decide +kernel) (by decide +kernel)
theorem fm_newX2 : am_Sp 11 k_X_new [.ref 0] [(7, am_df 7)] none ((fm_mk fm_S1).take fm_nx) :=
  sp_of (L := [some (.ref 0), none]) rfl (Nat.le_of_ble_eq_true rfl) (Nat.le_of_ble_eq_true rfl) ⟨_, am_runF_ok _ fm_newX⟩
