/-! basic blocks: printed by wip/whole/gen13.py -/
-- KitchenSiege.town()I
theorem b_X_town_0 {d : Nat} {o1 : Option Value} {S1 : fm_S} {S : fm_S} {r : Option Value × am_W} (hc : am_Sp d k_Town_begin [.ref 1] (fm_mk S) (none) (fm_mk S1)) (nx : am_Ev (d + 1) k_X_town 15 [some (.ref 0), some (.int (S.1 1 0))] [] (fm_mk S1) r) : am_Ev (d + 1) k_X_town 0 [some (.ref 0), o1] [] (fm_mk S) r := by
  refine fs_aloadn (j := 0) (by decide +kernel) rfl ?_
  refine fe_getR (idx := 10) (t := 7) (f := 0) (fk := 2) (fin := 1) (wp := 332) (x := 1) (by decide +kernel) (by decide +kernel) (by decide +kernel) (by decide +kernel) (by decide +kernel) ?_
  refine fe_getI (idx := 47) (t := 6) (f := 0) (fk := 0) (fin := 0) (wp := 157) (by decide +kernel) (by decide +kernel) (by decide +kernel) (by decide +kernel) ?_
  refine fs_istoren (j := 1) (L' := [some (.ref 0), some (.int (S.1 1 0))]) (by decide +kernel) (Nat.le_of_ble_eq_true rfl) rfl ?_
  refine fs_aloadn (j := 0) (by decide +kernel) rfl ?_
  refine fe_getR (idx := 10) (t := 7) (f := 0) (fk := 2) (fin := 1) (wp := 332) (x := 1) (by decide +kernel) (by decide +kernel) (by decide +kernel) (by decide +kernel) (by decide +kernel) ?_
  exact fe_callV (t := 6) (idx := 51) (n := 0) (wp := 365) (q := (149, 150)) (as := []) (rs := []) (by decide +kernel) (by decide +kernel) (by decide +kernel) (by decide +kernel) rfl (Nat.le_of_ble_eq_true rfl) rfl hc nx
theorem b_X_town_15 {d : Nat} {x1 : Int32} {S : fm_S}  : am_Ev d k_X_town 15 [some (.ref 0), some (.int x1)] [] (fm_mk S) (some (.int x1), fm_mk S) := by
  refine fs_iloadn (j := 1) (by decide +kernel) rfl ?_
  exact fe_retI (by decide +kernel) (by decide +kernel)
-- KitchenSiege.street(III)I
theorem b_X_street_0 {d : Nat} {x1 : Int32} {x2 : Int32} {x3 : Int32} {o4 : Option Value} {v : Int32} {S1 : fm_S} {S : fm_S} {r : Option Value × am_W} (hc : am_Sp d k_X_within [.int x1, .int 0, .int 5] (fm_mk S) (some (.int v)) (fm_mk S1)) (nx : am_Ev (d + 1) k_X_street 6 [some (.ref 0), some (.int x1), some (.int x2), some (.int x3), o4] [.int v] (fm_mk S1) r) : am_Ev (d + 1) k_X_street 0 [some (.ref 0), some (.int x1), some (.int x2), some (.int x3), o4] [] (fm_mk S) r := by
  refine fs_iloadn (j := 1) (by decide +kernel) rfl ?_
  refine fs_iconst (n := 0) (v := 0) (by decide +kernel) (by decide) ?_
  refine fs_iconst (n := 5) (v := 5) (by decide +kernel) (by decide) ?_
  exact fe_callS (idx := 54) (kd := 0) (n := 3) (wp := 370) (q := (371, 0)) (as := [.int x1, .int 0, .int 5]) (rs := []) (by decide +kernel) (by decide +kernel) (by decide +kernel) (by decide) rfl (Nat.le_of_ble_eq_true rfl) rfl hc nx
theorem b_X_street_6 {d : Nat} {x1 : Int32} {x2 : Int32} {x3 : Int32} {o4 : Option Value} {sx0 : Int32} {S : fm_S} {r : Option Value × am_W} (kt : sx0 = 0 → am_Ev d k_X_street 28 [some (.ref 0), some (.int x1), some (.int x2), some (.int x3), o4] [] (fm_mk S) r) (kf : ¬ sx0 = 0 → am_Ev d k_X_street 9 [some (.ref 0), some (.int x1), some (.int x2), some (.int x3), o4] [] (fm_mk S) r) : am_Ev d k_X_street 6 [some (.ref 0), some (.int x1), some (.int x2), some (.int x3), o4] [.int sx0] (fm_mk S) r := by
  exact fs_ifeq (off := 22) (tgt := 28) (by decide +kernel) (by decide) kt kf
theorem b_X_street_9 {d : Nat} {x1 : Int32} {x2 : Int32} {x3 : Int32} {o4 : Option Value} {v : Int32} {S1 : fm_S} {S : fm_S} {r : Option Value × am_W} (hc : am_Sp d k_X_within [.int x2, .int 0, .int 9] (fm_mk S) (some (.int v)) (fm_mk S1)) (nx : am_Ev (d + 1) k_X_street 16 [some (.ref 0), some (.int x1), some (.int x2), some (.int x3), o4] [.int v] (fm_mk S1) r) : am_Ev (d + 1) k_X_street 9 [some (.ref 0), some (.int x1), some (.int x2), some (.int x3), o4] [] (fm_mk S) r := by
  refine fs_iloadn (j := 2) (by decide +kernel) rfl ?_
  refine fs_iconst (n := 0) (v := 0) (by decide +kernel) (by decide) ?_
  refine fs_bipush (n := 9) (v := 9) (by decide +kernel) (by decide) ?_
  exact fe_callS (idx := 54) (kd := 0) (n := 3) (wp := 370) (q := (371, 0)) (as := [.int x2, .int 0, .int 9]) (rs := []) (by decide +kernel) (by decide +kernel) (by decide +kernel) (by decide) rfl (Nat.le_of_ble_eq_true rfl) rfl hc nx
theorem b_X_street_16 {d : Nat} {x1 : Int32} {x2 : Int32} {x3 : Int32} {o4 : Option Value} {sx0 : Int32} {S : fm_S} {r : Option Value × am_W} (kt : sx0 = 0 → am_Ev d k_X_street 28 [some (.ref 0), some (.int x1), some (.int x2), some (.int x3), o4] [] (fm_mk S) r) (kf : ¬ sx0 = 0 → am_Ev d k_X_street 19 [some (.ref 0), some (.int x1), some (.int x2), some (.int x3), o4] [] (fm_mk S) r) : am_Ev d k_X_street 16 [some (.ref 0), some (.int x1), some (.int x2), some (.int x3), o4] [.int sx0] (fm_mk S) r := by
  exact fs_ifeq (off := 12) (tgt := 28) (by decide +kernel) (by decide) kt kf
theorem b_X_street_19 {d : Nat} {x1 : Int32} {x2 : Int32} {x3 : Int32} {o4 : Option Value} {v : Int32} {S1 : fm_S} {S : fm_S} {r : Option Value × am_W} (hc : am_Sp d k_X_within [.int x3, .int 0, .int 5] (fm_mk S) (some (.int v)) (fm_mk S1)) (nx : am_Ev (d + 1) k_X_street 25 [some (.ref 0), some (.int x1), some (.int x2), some (.int x3), o4] [.int v] (fm_mk S1) r) : am_Ev (d + 1) k_X_street 19 [some (.ref 0), some (.int x1), some (.int x2), some (.int x3), o4] [] (fm_mk S) r := by
  refine fs_iloadn (j := 3) (by decide +kernel) rfl ?_
  refine fs_iconst (n := 0) (v := 0) (by decide +kernel) (by decide) ?_
  refine fs_iconst (n := 5) (v := 5) (by decide +kernel) (by decide) ?_
  exact fe_callS (idx := 54) (kd := 0) (n := 3) (wp := 370) (q := (371, 0)) (as := [.int x3, .int 0, .int 5]) (rs := []) (by decide +kernel) (by decide +kernel) (by decide +kernel) (by decide) rfl (Nat.le_of_ble_eq_true rfl) rfl hc nx
theorem b_X_street_25 {d : Nat} {x1 : Int32} {x2 : Int32} {x3 : Int32} {o4 : Option Value} {sx0 : Int32} {S : fm_S} {r : Option Value × am_W} (kt : ¬ sx0 = 0 → am_Ev d k_X_street 33 [some (.ref 0), some (.int x1), some (.int x2), some (.int x3), o4] [] (fm_mk S) r) (kf : sx0 = 0 → am_Ev d k_X_street 28 [some (.ref 0), some (.int x1), some (.int x2), some (.int x3), o4] [] (fm_mk S) r) : am_Ev d k_X_street 25 [some (.ref 0), some (.int x1), some (.int x2), some (.int x3), o4] [.int sx0] (fm_mk S) r := by
  exact fs_ifne (off := 8) (tgt := 33) (by decide +kernel) (by decide) kt kf
theorem b_X_street_28 {d : Nat} {x1 : Int32} {x2 : Int32} {x3 : Int32} {o4 : Option Value} {v : Int32} {S1 : fm_S} {S : fm_S} {r : Option Value × am_W} (hc : am_Sp d k_X_bad [.ref 0] (fm_mk S) (some (.int v)) (fm_mk S1)) (nx : am_Ev (d + 1) k_X_street 32 [some (.ref 0), some (.int x1), some (.int x2), some (.int x3), o4] [.int v] (fm_mk S1) r) : am_Ev (d + 1) k_X_street 28 [some (.ref 0), some (.int x1), some (.int x2), some (.int x3), o4] [] (fm_mk S) r := by
  refine fs_aloadn (j := 0) (by decide +kernel) rfl ?_
  exact fe_callV (t := 7) (idx := 58) (n := 0) (wp := 373) (q := (375, 0)) (as := []) (rs := []) (by decide +kernel) (by decide +kernel) (by decide +kernel) (by decide +kernel) rfl (Nat.le_of_ble_eq_true rfl) rfl hc nx
theorem b_X_street_32 {d : Nat} {x1 : Int32} {x2 : Int32} {x3 : Int32} {o4 : Option Value} {sx0 : Int32} {S : fm_S}  : am_Ev d k_X_street 32 [some (.ref 0), some (.int x1), some (.int x2), some (.int x3), o4] [.int sx0] (fm_mk S) (some (.int sx0), fm_mk S) := by
  exact fe_retI (by decide +kernel) (by decide +kernel)
theorem b_X_street_33 {d : Nat} {x1 : Int32} {x2 : Int32} {x3 : Int32} {o4 : Option Value} {v : Int32} {S1 : fm_S} {S : fm_S} {r : Option Value × am_W} (hc : am_Sp d k_Town_addStreet [.ref 1, .int x1, .int x2, .int x3] (fm_mk S) (some (.int v)) (fm_mk S1)) (nx : am_Ev (d + 1) k_X_street 43 [some (.ref 0), some (.int x1), some (.int x2), some (.int x3), o4] [.int v] (fm_mk S1) r) : am_Ev (d + 1) k_X_street 33 [some (.ref 0), some (.int x1), some (.int x2), some (.int x3), o4] [] (fm_mk S) r := by
  refine fs_aloadn (j := 0) (by decide +kernel) rfl ?_
  refine fe_getR (idx := 10) (t := 7) (f := 0) (fk := 2) (fin := 1) (wp := 332) (x := 1) (by decide +kernel) (by decide +kernel) (by decide +kernel) (by decide +kernel) (by decide +kernel) ?_
  refine fs_iloadn (j := 1) (by decide +kernel) rfl ?_
  refine fs_iloadn (j := 2) (by decide +kernel) rfl ?_
  refine fs_iloadn (j := 3) (by decide +kernel) rfl ?_
  exact fe_callV (t := 6) (idx := 62) (n := 3) (wp := 377) (q := (378, 379)) (as := [.int x1, .int x2, .int x3]) (rs := []) (by decide +kernel) (by decide +kernel) (by decide +kernel) (by decide +kernel) rfl (Nat.le_of_ble_eq_true rfl) rfl hc nx
theorem b_X_street_43 {d : Nat} {x1 : Int32} {x2 : Int32} {x3 : Int32} {o4 : Option Value} {sx0 : Int32} {S : fm_S} {r : Option Value × am_W} (kt : ¬ sx0 = (-1) → am_Ev d k_X_street 58 [some (.ref 0), some (.int x1), some (.int x2), some (.int x3), some (.int sx0)] [] (fm_mk S) r) (kf : sx0 = (-1) → am_Ev d k_X_street 51 [some (.ref 0), some (.int x1), some (.int x2), some (.int x3), some (.int sx0)] [] (fm_mk S) r) : am_Ev d k_X_street 43 [some (.ref 0), some (.int x1), some (.int x2), some (.int x3), o4] [.int sx0] (fm_mk S) r := by
  refine fs_istore (j := 4) (L' := [some (.ref 0), some (.int x1), some (.int x2), some (.int x3), some (.int sx0)]) (by decide +kernel) (Nat.le_of_ble_eq_true rfl) rfl ?_
  refine fs_iload (j := 4) (by decide +kernel) rfl ?_
  refine fs_iconst (n := -1) (v := (-1)) (by decide +kernel) (by decide) ?_
  exact fs_icne (off := 10) (tgt := 58) (by decide +kernel) (by decide) kt kf
theorem b_X_street_51 {d : Nat} {x1 : Int32} {x2 : Int32} {x3 : Int32} {x4 : Int32} {v : Int32} {S1 : fm_S} {S : fm_S} {r : Option Value × am_W} (hc : am_Sp d k_X_full [.ref 0] (fm_mk S) (some (.int v)) (fm_mk S1)) (nx : am_Ev (d + 1) k_X_street 55 [some (.ref 0), some (.int x1), some (.int x2), some (.int x3), some (.int x4)] [.int v] (fm_mk S1) r) : am_Ev (d + 1) k_X_street 51 [some (.ref 0), some (.int x1), some (.int x2), some (.int x3), some (.int x4)] [] (fm_mk S) r := by
  refine fs_aloadn (j := 0) (by decide +kernel) rfl ?_
  exact fe_callV (t := 7) (idx := 66) (n := 0) (wp := 381) (q := (383, 1)) (as := []) (rs := []) (by decide +kernel) (by decide +kernel) (by decide +kernel) (by decide +kernel) rfl (Nat.le_of_ble_eq_true rfl) rfl hc nx
theorem b_X_street_55 {d : Nat} {x1 : Int32} {x2 : Int32} {x3 : Int32} {x4 : Int32} {sx0 : Int32} {S : fm_S} {r : Option Value × am_W} (nx : am_Ev d k_X_street 60 [some (.ref 0), some (.int x1), some (.int x2), some (.int x3), some (.int x4)] [.int sx0] (fm_mk S) r) : am_Ev d k_X_street 55 [some (.ref 0), some (.int x1), some (.int x2), some (.int x3), some (.int x4)] [.int sx0] (fm_mk S) r := by
  refine fs_goto (off := 5) (tgt := 60) (by decide +kernel) (by decide) ?_
  exact nx
theorem b_X_street_58 {d : Nat} {x1 : Int32} {x2 : Int32} {x3 : Int32} {x4 : Int32} {S : fm_S} {r : Option Value × am_W} (nx : am_Ev d k_X_street 60 [some (.ref 0), some (.int x1), some (.int x2), some (.int x3), some (.int x4)] [.int x4] (fm_mk S) r) : am_Ev d k_X_street 58 [some (.ref 0), some (.int x1), some (.int x2), some (.int x3), some (.int x4)] [] (fm_mk S) r := by
  refine fs_iload (j := 4) (by decide +kernel) rfl ?_
  exact nx
theorem b_X_street_60 {d : Nat} {x1 : Int32} {x2 : Int32} {x3 : Int32} {x4 : Int32} {sx0 : Int32} {S : fm_S}  : am_Ev d k_X_street 60 [some (.ref 0), some (.int x1), some (.int x2), some (.int x3), some (.int x4)] [.int sx0] (fm_mk S) (some (.int sx0), fm_mk S) := by
  exact fe_retI (by decide +kernel) (by decide +kernel)
-- KitchenSiege.within(III)Z
theorem b_X_within_0 {d : Nat} {x0 : Int32} {x1 : Int32} {x2 : Int32} {S : fm_S} {r : Option Value × am_W} (kt : x0 < x1 → am_Ev d k_X_within 14 [some (.int x0), some (.int x1), some (.int x2)] [] (fm_mk S) r) (kf : ¬ x0 < x1 → am_Ev d k_X_within 5 [some (.int x0), some (.int x1), some (.int x2)] [] (fm_mk S) r) : am_Ev d k_X_within 0 [some (.int x0), some (.int x1), some (.int x2)] [] (fm_mk S) r := by
  refine fs_iloadn (j := 0) (by decide +kernel) rfl ?_
  refine fs_iloadn (j := 1) (by decide +kernel) rfl ?_
  exact fs_iclt (off := 12) (tgt := 14) (by decide +kernel) (by decide) kt kf
theorem b_X_within_5 {d : Nat} {x0 : Int32} {x1 : Int32} {x2 : Int32} {S : fm_S} {r : Option Value × am_W} (kt : x2 < x0 → am_Ev d k_X_within 14 [some (.int x0), some (.int x1), some (.int x2)] [] (fm_mk S) r) (kf : ¬ x2 < x0 → am_Ev d k_X_within 10 [some (.int x0), some (.int x1), some (.int x2)] [] (fm_mk S) r) : am_Ev d k_X_within 5 [some (.int x0), some (.int x1), some (.int x2)] [] (fm_mk S) r := by
  refine fs_iloadn (j := 0) (by decide +kernel) rfl ?_
  refine fs_iloadn (j := 2) (by decide +kernel) rfl ?_
  exact fs_icgt (off := 7) (tgt := 14) (by decide +kernel) (by decide) kt kf
theorem b_X_within_10 {d : Nat} {x0 : Int32} {x1 : Int32} {x2 : Int32} {S : fm_S} {r : Option Value × am_W} (nx : am_Ev d k_X_within 15 [some (.int x0), some (.int x1), some (.int x2)] [.int 1] (fm_mk S) r) : am_Ev d k_X_within 10 [some (.int x0), some (.int x1), some (.int x2)] [] (fm_mk S) r := by
  refine fs_iconst (n := 1) (v := 1) (by decide +kernel) (by decide) ?_
  refine fs_goto (off := 4) (tgt := 15) (by decide +kernel) (by decide) ?_
  exact nx
theorem b_X_within_14 {d : Nat} {x0 : Int32} {x1 : Int32} {x2 : Int32} {S : fm_S} {r : Option Value × am_W} (nx : am_Ev d k_X_within 15 [some (.int x0), some (.int x1), some (.int x2)] [.int 0] (fm_mk S) r) : am_Ev d k_X_within 14 [some (.int x0), some (.int x1), some (.int x2)] [] (fm_mk S) r := by
  refine fs_iconst (n := 0) (v := 0) (by decide +kernel) (by decide) ?_
  exact nx
theorem b_X_within_15 {d : Nat} {x0 : Int32} {x1 : Int32} {x2 : Int32} {sx0 : Int32} {S : fm_S}  (hz : sx0 = 0 ∨ sx0 = 1) : am_Ev d k_X_within 15 [some (.int x0), some (.int x1), some (.int x2)] [.int sx0] (fm_mk S) (some (.int sx0), fm_mk S) := by
  exact fe_retZ (by decide +kernel) (by decide +kernel) hz
-- KitchenSiege.bad()I
theorem b_X_bad_0 {d : Nat} {S : fm_S}  : am_Ev d k_X_bad 0 [some (.ref 0)] [] (fm_mk S) (some (.int (-2)), fm_mk (fm_wI S 0 6 ((S.1 0 6) + 1))) := by
  refine fs_aloadn (j := 0) (by decide +kernel) rfl ?_
  refine fs_dup (by decide +kernel) rfl ?_
  refine fe_getI (idx := 235) (t := 7) (f := 6) (fk := 0) (fin := 0) (wp := 338) (by decide +kernel) (by decide +kernel) (by decide +kernel) (by decide +kernel) ?_
  refine fs_iconst (n := 1) (v := 1) (by decide +kernel) (by decide) ?_
  refine fs_iadd (by decide +kernel) ?_
  refine fe_putI (idx := 235) (t := 7) (f := 6) (wp := 338) (by decide +kernel) (by decide +kernel) (by decide +kernel) (by decide +kernel) ?_
  refine fs_bipush (n := -2) (v := (-2)) (by decide +kernel) (by decide) ?_
  exact fe_retI (by decide +kernel) (by decide +kernel)
-- KitchenSiege.full()I
theorem b_X_full_0 {d : Nat} {S : fm_S}  : am_Ev d k_X_full 0 [some (.ref 0)] [] (fm_mk S) (some (.int (-4)), fm_mk (fm_wI S 0 8 ((S.1 0 8) + 1))) := by
  refine fs_aloadn (j := 0) (by decide +kernel) rfl ?_
  refine fs_dup (by decide +kernel) rfl ?_
  refine fe_getI (idx := 241) (t := 7) (f := 8) (fk := 0) (fin := 0) (wp := 340) (by decide +kernel) (by decide +kernel) (by decide +kernel) (by decide +kernel) ?_
  refine fs_iconst (n := 1) (v := 1) (by decide +kernel) (by decide) ?_
  refine fs_iadd (by decide +kernel) ?_
  refine fe_putI (idx := 241) (t := 7) (f := 8) (wp := 340) (by decide +kernel) (by decide +kernel) (by decide +kernel) (by decide +kernel) ?_
  refine fs_bipush (n := -4) (v := (-4)) (by decide +kernel) (by decide) ?_
  exact fe_retI (by decide +kernel) (by decide +kernel)
-- KitchenSiege.lane(II)I
theorem b_X_lane_0 {d : Nat} {x1 : Int32} {x2 : Int32} {v : Int32} {S1 : fm_S} {S : fm_S} {r : Option Value × am_W} (hc : am_Sp d k_X_isStreet [.ref 0, .int x1] (fm_mk S) (some (.int v)) (fm_mk S1)) (nx : am_Ev (d + 1) k_X_lane 5 [some (.ref 0), some (.int x1), some (.int x2)] [.int v] (fm_mk S1) r) : am_Ev (d + 1) k_X_lane 0 [some (.ref 0), some (.int x1), some (.int x2)] [] (fm_mk S) r := by
  refine fs_aloadn (j := 0) (by decide +kernel) rfl ?_
  refine fs_iloadn (j := 1) (by decide +kernel) rfl ?_
  exact fe_callV (t := 7) (idx := 69) (n := 1) (wp := 389) (q := (391, 2)) (as := [.int x1]) (rs := []) (by decide +kernel) (by decide +kernel) (by decide +kernel) (by decide +kernel) rfl (Nat.le_of_ble_eq_true rfl) rfl hc nx
theorem b_X_lane_5 {d : Nat} {x1 : Int32} {x2 : Int32} {sx0 : Int32} {S : fm_S} {r : Option Value × am_W} (kt : sx0 = 0 → am_Ev d k_X_lane 21 [some (.ref 0), some (.int x1), some (.int x2)] [] (fm_mk S) r) (kf : ¬ sx0 = 0 → am_Ev d k_X_lane 8 [some (.ref 0), some (.int x1), some (.int x2)] [] (fm_mk S) r) : am_Ev d k_X_lane 5 [some (.ref 0), some (.int x1), some (.int x2)] [.int sx0] (fm_mk S) r := by
  exact fs_ifeq (off := 16) (tgt := 21) (by decide +kernel) (by decide) kt kf
theorem b_X_lane_8 {d : Nat} {x1 : Int32} {x2 : Int32} {v : Int32} {S1 : fm_S} {S : fm_S} {r : Option Value × am_W} (hc : am_Sp d k_X_isStreet [.ref 0, .int x2] (fm_mk S) (some (.int v)) (fm_mk S1)) (nx : am_Ev (d + 1) k_X_lane 13 [some (.ref 0), some (.int x1), some (.int x2)] [.int v] (fm_mk S1) r) : am_Ev (d + 1) k_X_lane 8 [some (.ref 0), some (.int x1), some (.int x2)] [] (fm_mk S) r := by
  refine fs_aloadn (j := 0) (by decide +kernel) rfl ?_
  refine fs_iloadn (j := 2) (by decide +kernel) rfl ?_
  exact fe_callV (t := 7) (idx := 69) (n := 1) (wp := 389) (q := (391, 2)) (as := [.int x2]) (rs := []) (by decide +kernel) (by decide +kernel) (by decide +kernel) (by decide +kernel) rfl (Nat.le_of_ble_eq_true rfl) rfl hc nx
theorem b_X_lane_13 {d : Nat} {x1 : Int32} {x2 : Int32} {sx0 : Int32} {S : fm_S} {r : Option Value × am_W} (kt : sx0 = 0 → am_Ev d k_X_lane 21 [some (.ref 0), some (.int x1), some (.int x2)] [] (fm_mk S) r) (kf : ¬ sx0 = 0 → am_Ev d k_X_lane 16 [some (.ref 0), some (.int x1), some (.int x2)] [] (fm_mk S) r) : am_Ev d k_X_lane 13 [some (.ref 0), some (.int x1), some (.int x2)] [.int sx0] (fm_mk S) r := by
  exact fs_ifeq (off := 8) (tgt := 21) (by decide +kernel) (by decide) kt kf
theorem b_X_lane_16 {d : Nat} {x1 : Int32} {x2 : Int32} {S : fm_S} {r : Option Value × am_W} (kt : ¬ x1 = x2 → am_Ev d k_X_lane 26 [some (.ref 0), some (.int x1), some (.int x2)] [] (fm_mk S) r) (kf : x1 = x2 → am_Ev d k_X_lane 21 [some (.ref 0), some (.int x1), some (.int x2)] [] (fm_mk S) r) : am_Ev d k_X_lane 16 [some (.ref 0), some (.int x1), some (.int x2)] [] (fm_mk S) r := by
  refine fs_iloadn (j := 1) (by decide +kernel) rfl ?_
  refine fs_iloadn (j := 2) (by decide +kernel) rfl ?_
  exact fs_icne (off := 8) (tgt := 26) (by decide +kernel) (by decide) kt kf
theorem b_X_lane_21 {d : Nat} {x1 : Int32} {x2 : Int32} {v : Int32} {S1 : fm_S} {S : fm_S} {r : Option Value × am_W} (hc : am_Sp d k_X_bad [.ref 0] (fm_mk S) (some (.int v)) (fm_mk S1)) (nx : am_Ev (d + 1) k_X_lane 25 [some (.ref 0), some (.int x1), some (.int x2)] [.int v] (fm_mk S1) r) : am_Ev (d + 1) k_X_lane 21 [some (.ref 0), some (.int x1), some (.int x2)] [] (fm_mk S) r := by
  refine fs_aloadn (j := 0) (by decide +kernel) rfl ?_
  exact fe_callV (t := 7) (idx := 58) (n := 0) (wp := 373) (q := (375, 0)) (as := []) (rs := []) (by decide +kernel) (by decide +kernel) (by decide +kernel) (by decide +kernel) rfl (Nat.le_of_ble_eq_true rfl) rfl hc nx
theorem b_X_lane_25 {d : Nat} {x1 : Int32} {x2 : Int32} {sx0 : Int32} {S : fm_S}  : am_Ev d k_X_lane 25 [some (.ref 0), some (.int x1), some (.int x2)] [.int sx0] (fm_mk S) (some (.int sx0), fm_mk S) := by
  exact fe_retI (by decide +kernel) (by decide +kernel)
theorem b_X_lane_26 {d : Nat} {x1 : Int32} {x2 : Int32} {v : Int32} {S1 : fm_S} {S : fm_S} {r : Option Value × am_W} (hc : am_Sp d k_Town_hasLane [.ref 1, .int x1, .int x2] (fm_mk S) (some (.int v)) (fm_mk S1)) (nx : am_Ev (d + 1) k_X_lane 35 [some (.ref 0), some (.int x1), some (.int x2)] [.int v] (fm_mk S1) r) : am_Ev (d + 1) k_X_lane 26 [some (.ref 0), some (.int x1), some (.int x2)] [] (fm_mk S) r := by
  refine fs_aloadn (j := 0) (by decide +kernel) rfl ?_
  refine fe_getR (idx := 10) (t := 7) (f := 0) (fk := 2) (fin := 1) (wp := 332) (x := 1) (by decide +kernel) (by decide +kernel) (by decide +kernel) (by decide +kernel) (by decide +kernel) ?_
  refine fs_iloadn (j := 1) (by decide +kernel) rfl ?_
  refine fs_iloadn (j := 2) (by decide +kernel) rfl ?_
  exact fe_callV (t := 6) (idx := 73) (n := 2) (wp := 393) (q := (394, 395)) (as := [.int x1, .int x2]) (rs := []) (by decide +kernel) (by decide +kernel) (by decide +kernel) (by decide +kernel) rfl (Nat.le_of_ble_eq_true rfl) rfl hc nx
theorem b_X_lane_35 {d : Nat} {x1 : Int32} {x2 : Int32} {sx0 : Int32} {S : fm_S} {r : Option Value × am_W} (kt : sx0 = 0 → am_Ev d k_X_lane 43 [some (.ref 0), some (.int x1), some (.int x2)] [] (fm_mk S) r) (kf : ¬ sx0 = 0 → am_Ev d k_X_lane 38 [some (.ref 0), some (.int x1), some (.int x2)] [] (fm_mk S) r) : am_Ev d k_X_lane 35 [some (.ref 0), some (.int x1), some (.int x2)] [.int sx0] (fm_mk S) r := by
  exact fs_ifeq (off := 8) (tgt := 43) (by decide +kernel) (by decide) kt kf
theorem b_X_lane_38 {d : Nat} {x1 : Int32} {x2 : Int32} {v : Int32} {S1 : fm_S} {S : fm_S} {r : Option Value × am_W} (hc : am_Sp d k_X_no [.ref 0] (fm_mk S) (some (.int v)) (fm_mk S1)) (nx : am_Ev (d + 1) k_X_lane 42 [some (.ref 0), some (.int x1), some (.int x2)] [.int v] (fm_mk S1) r) : am_Ev (d + 1) k_X_lane 38 [some (.ref 0), some (.int x1), some (.int x2)] [] (fm_mk S) r := by
  refine fs_aloadn (j := 0) (by decide +kernel) rfl ?_
  exact fe_callV (t := 7) (idx := 77) (n := 0) (wp := 400) (q := (402, 3)) (as := []) (rs := []) (by decide +kernel) (by decide +kernel) (by decide +kernel) (by decide +kernel) rfl (Nat.le_of_ble_eq_true rfl) rfl hc nx
theorem b_X_lane_42 {d : Nat} {x1 : Int32} {x2 : Int32} {sx0 : Int32} {S : fm_S}  : am_Ev d k_X_lane 42 [some (.ref 0), some (.int x1), some (.int x2)] [.int sx0] (fm_mk S) (some (.int sx0), fm_mk S) := by
  exact fe_retI (by decide +kernel) (by decide +kernel)
theorem b_X_lane_43 {d : Nat} {x1 : Int32} {x2 : Int32} {S1 : fm_S} {S : fm_S} {r : Option Value × am_W} (hc : am_Sp d k_Town_addLane [.ref 1, .int x1, .int x2] (fm_mk S) (none) (fm_mk S1)) (nx : am_Ev (d + 1) k_X_lane 52 [some (.ref 0), some (.int x1), some (.int x2)] [] (fm_mk S1) r) : am_Ev (d + 1) k_X_lane 43 [some (.ref 0), some (.int x1), some (.int x2)] [] (fm_mk S) r := by
  refine fs_aloadn (j := 0) (by decide +kernel) rfl ?_
  refine fe_getR (idx := 10) (t := 7) (f := 0) (fk := 2) (fin := 1) (wp := 332) (x := 1) (by decide +kernel) (by decide +kernel) (by decide +kernel) (by decide +kernel) (by decide +kernel) ?_
  refine fs_iloadn (j := 1) (by decide +kernel) rfl ?_
  refine fs_iloadn (j := 2) (by decide +kernel) rfl ?_
  exact fe_callV (t := 6) (idx := 80) (n := 2) (wp := 404) (q := (405, 406)) (as := [.int x1, .int x2]) (rs := []) (by decide +kernel) (by decide +kernel) (by decide +kernel) (by decide +kernel) rfl (Nat.le_of_ble_eq_true rfl) rfl hc nx
theorem b_X_lane_52 {d : Nat} {x1 : Int32} {x2 : Int32} {S : fm_S}  : am_Ev d k_X_lane 52 [some (.ref 0), some (.int x1), some (.int x2)] [] (fm_mk S) (some (.int 1), fm_mk S) := by
  refine fs_iconst (n := 1) (v := 1) (by decide +kernel) (by decide) ?_
  exact fe_retI (by decide +kernel) (by decide +kernel)
-- KitchenSiege.isStreet(I)Z
theorem b_X_isStreet_0 {d : Nat} {x1 : Int32} {v : Int32} {S1 : fm_S} {S : fm_S} {r : Option Value × am_W} (hc : am_Sp d k_X_within [.int x1, .int 0, .int ((S.1 1 0) - 1)] (fm_mk S) (some (.int v)) (fm_mk S1)) (nx : am_Ev (d + 1) k_X_isStreet 14 [some (.ref 0), some (.int x1)] [.int v] (fm_mk S1) r) : am_Ev (d + 1) k_X_isStreet 0 [some (.ref 0), some (.int x1)] [] (fm_mk S) r := by
  refine fs_iloadn (j := 1) (by decide +kernel) rfl ?_
  refine fs_iconst (n := 0) (v := 0) (by decide +kernel) (by decide) ?_
  refine fs_aloadn (j := 0) (by decide +kernel) rfl ?_
  refine fe_getR (idx := 10) (t := 7) (f := 0) (fk := 2) (fin := 1) (wp := 332) (x := 1) (by decide +kernel) (by decide +kernel) (by decide +kernel) (by decide +kernel) (by decide +kernel) ?_
  refine fe_getI (idx := 47) (t := 6) (f := 0) (fk := 0) (fin := 0) (wp := 157) (by decide +kernel) (by decide +kernel) (by decide +kernel) (by decide +kernel) ?_
  refine fs_iconst (n := 1) (v := 1) (by decide +kernel) (by decide) ?_
  refine fs_isub (by decide +kernel) ?_
  exact fe_callS (idx := 54) (kd := 0) (n := 3) (wp := 370) (q := (371, 0)) (as := [.int x1, .int 0, .int ((S.1 1 0) - 1)]) (rs := []) (by decide +kernel) (by decide +kernel) (by decide +kernel) (by decide) rfl (Nat.le_of_ble_eq_true rfl) rfl hc nx
theorem b_X_isStreet_14 {d : Nat} {x1 : Int32} {sx0 : Int32} {S : fm_S}  (hz : sx0 = 0 ∨ sx0 = 1) : am_Ev d k_X_isStreet 14 [some (.ref 0), some (.int x1)] [.int sx0] (fm_mk S) (some (.int sx0), fm_mk S) := by
  exact fe_retZ (by decide +kernel) (by decide +kernel) hz
-- KitchenSiege.has(II)Z
theorem b_X_has_0 {d : Nat} {x0 : Int32} {x1 : Int32} {S : fm_S} {r : Option Value × am_W} (kt : ¬ ((x0 >>> (x1 &&& 31)) &&& 1) = 1 → am_Ev d k_X_has 13 [some (.int x0), some (.int x1)] [] (fm_mk S) r) (kf : ((x0 >>> (x1 &&& 31)) &&& 1) = 1 → am_Ev d k_X_has 9 [some (.int x0), some (.int x1)] [] (fm_mk S) r) : am_Ev d k_X_has 0 [some (.int x0), some (.int x1)] [] (fm_mk S) r := by
  refine fs_iloadn (j := 0) (by decide +kernel) rfl ?_
  refine fs_iloadn (j := 1) (by decide +kernel) rfl ?_
  refine fs_ishr (by decide +kernel) ?_
  refine fs_iconst (n := 1) (v := 1) (by decide +kernel) (by decide) ?_
  refine fs_iand (by decide +kernel) ?_
  refine fs_iconst (n := 1) (v := 1) (by decide +kernel) (by decide) ?_
  exact fs_icne (off := 7) (tgt := 13) (by decide +kernel) (by decide) kt kf
theorem b_X_has_9 {d : Nat} {x0 : Int32} {x1 : Int32} {S : fm_S} {r : Option Value × am_W} (nx : am_Ev d k_X_has 14 [some (.int x0), some (.int x1)] [.int 1] (fm_mk S) r) : am_Ev d k_X_has 9 [some (.int x0), some (.int x1)] [] (fm_mk S) r := by
  refine fs_iconst (n := 1) (v := 1) (by decide +kernel) (by decide) ?_
  refine fs_goto (off := 4) (tgt := 14) (by decide +kernel) (by decide) ?_
  exact nx
theorem b_X_has_13 {d : Nat} {x0 : Int32} {x1 : Int32} {S : fm_S} {r : Option Value × am_W} (nx : am_Ev d k_X_has 14 [some (.int x0), some (.int x1)] [.int 0] (fm_mk S) r) : am_Ev d k_X_has 13 [some (.int x0), some (.int x1)] [] (fm_mk S) r := by
  refine fs_iconst (n := 0) (v := 0) (by decide +kernel) (by decide) ?_
  exact nx
theorem b_X_has_14 {d : Nat} {x0 : Int32} {x1 : Int32} {sx0 : Int32} {S : fm_S}  (hz : sx0 = 0 ∨ sx0 = 1) : am_Ev d k_X_has 14 [some (.int x0), some (.int x1)] [.int sx0] (fm_mk S) (some (.int sx0), fm_mk S) := by
  exact fe_retZ (by decide +kernel) (by decide +kernel) hz
-- KitchenSiege.no()I
theorem b_X_no_0 {d : Nat} {S : fm_S}  : am_Ev d k_X_no 0 [some (.ref 0)] [] (fm_mk S) (some (.int (-3)), fm_mk (fm_wI S 0 7 ((S.1 0 7) + 1))) := by
  refine fs_aloadn (j := 0) (by decide +kernel) rfl ?_
  refine fs_dup (by decide +kernel) rfl ?_
  refine fe_getI (idx := 238) (t := 7) (f := 7) (fk := 0) (fin := 0) (wp := 339) (by decide +kernel) (by decide +kernel) (by decide +kernel) (by decide +kernel) ?_
  refine fs_iconst (n := 1) (v := 1) (by decide +kernel) (by decide) ?_
  refine fs_iadd (by decide +kernel) ?_
  refine fe_putI (idx := 238) (t := 7) (f := 7) (wp := 339) (by decide +kernel) (by decide +kernel) (by decide +kernel) (by decide +kernel) ?_
  refine fs_bipush (n := -3) (v := (-3)) (by decide +kernel) (by decide) ?_
  exact fe_retI (by decide +kernel) (by decide +kernel)
-- KitchenSiege.gate(II)I
theorem b_X_gate_0 {d : Nat} {x1 : Int32} {x2 : Int32} {o3 : Option Value} {v : Int32} {S1 : fm_S} {S : fm_S} {r : Option Value × am_W} (hc : am_Sp d k_X_isWind [.int x1] (fm_mk S) (some (.int v)) (fm_mk S1)) (nx : am_Ev (d + 1) k_X_gate 4 [some (.ref 0), some (.int x1), some (.int x2), o3] [.int v] (fm_mk S1) r) : am_Ev (d + 1) k_X_gate 0 [some (.ref 0), some (.int x1), some (.int x2), o3] [] (fm_mk S) r := by
  refine fs_iloadn (j := 1) (by decide +kernel) rfl ?_
  exact fe_callS (idx := 84) (kd := 0) (n := 1) (wp := 412) (q := (413, 0)) (as := [.int x1]) (rs := []) (by decide +kernel) (by decide +kernel) (by decide +kernel) (by decide) rfl (Nat.le_of_ble_eq_true rfl) rfl hc nx
theorem b_X_gate_4 {d : Nat} {x1 : Int32} {x2 : Int32} {o3 : Option Value} {sx0 : Int32} {S : fm_S} {r : Option Value × am_W} (kt : sx0 = 0 → am_Ev d k_X_gate 15 [some (.ref 0), some (.int x1), some (.int x2), o3] [] (fm_mk S) r) (kf : ¬ sx0 = 0 → am_Ev d k_X_gate 7 [some (.ref 0), some (.int x1), some (.int x2), o3] [] (fm_mk S) r) : am_Ev d k_X_gate 4 [some (.ref 0), some (.int x1), some (.int x2), o3] [.int sx0] (fm_mk S) r := by
  exact fs_ifeq (off := 11) (tgt := 15) (by decide +kernel) (by decide) kt kf
theorem b_X_gate_7 {d : Nat} {x1 : Int32} {x2 : Int32} {o3 : Option Value} {v : Int32} {S1 : fm_S} {S : fm_S} {r : Option Value × am_W} (hc : am_Sp d k_X_isStreet [.ref 0, .int x2] (fm_mk S) (some (.int v)) (fm_mk S1)) (nx : am_Ev (d + 1) k_X_gate 12 [some (.ref 0), some (.int x1), some (.int x2), o3] [.int v] (fm_mk S1) r) : am_Ev (d + 1) k_X_gate 7 [some (.ref 0), some (.int x1), some (.int x2), o3] [] (fm_mk S) r := by
  refine fs_aloadn (j := 0) (by decide +kernel) rfl ?_
  refine fs_iloadn (j := 2) (by decide +kernel) rfl ?_
  exact fe_callV (t := 7) (idx := 69) (n := 1) (wp := 389) (q := (391, 2)) (as := [.int x2]) (rs := []) (by decide +kernel) (by decide +kernel) (by decide +kernel) (by decide +kernel) rfl (Nat.le_of_ble_eq_true rfl) rfl hc nx
theorem b_X_gate_12 {d : Nat} {x1 : Int32} {x2 : Int32} {o3 : Option Value} {sx0 : Int32} {S : fm_S} {r : Option Value × am_W} (kt : ¬ sx0 = 0 → am_Ev d k_X_gate 20 [some (.ref 0), some (.int x1), some (.int x2), o3] [] (fm_mk S) r) (kf : sx0 = 0 → am_Ev d k_X_gate 15 [some (.ref 0), some (.int x1), some (.int x2), o3] [] (fm_mk S) r) : am_Ev d k_X_gate 12 [some (.ref 0), some (.int x1), some (.int x2), o3] [.int sx0] (fm_mk S) r := by
  exact fs_ifne (off := 8) (tgt := 20) (by decide +kernel) (by decide) kt kf
theorem b_X_gate_15 {d : Nat} {x1 : Int32} {x2 : Int32} {o3 : Option Value} {v : Int32} {S1 : fm_S} {S : fm_S} {r : Option Value × am_W} (hc : am_Sp d k_X_bad [.ref 0] (fm_mk S) (some (.int v)) (fm_mk S1)) (nx : am_Ev (d + 1) k_X_gate 19 [some (.ref 0), some (.int x1), some (.int x2), o3] [.int v] (fm_mk S1) r) : am_Ev (d + 1) k_X_gate 15 [some (.ref 0), some (.int x1), some (.int x2), o3] [] (fm_mk S) r := by
  refine fs_aloadn (j := 0) (by decide +kernel) rfl ?_
  exact fe_callV (t := 7) (idx := 58) (n := 0) (wp := 373) (q := (375, 0)) (as := []) (rs := []) (by decide +kernel) (by decide +kernel) (by decide +kernel) (by decide +kernel) rfl (Nat.le_of_ble_eq_true rfl) rfl hc nx
theorem b_X_gate_19 {d : Nat} {x1 : Int32} {x2 : Int32} {o3 : Option Value} {sx0 : Int32} {S : fm_S}  : am_Ev d k_X_gate 19 [some (.ref 0), some (.int x1), some (.int x2), o3] [.int sx0] (fm_mk S) (some (.int sx0), fm_mk S) := by
  exact fe_retI (by decide +kernel) (by decide +kernel)
theorem b_X_gate_20 {d : Nat} {x1 : Int32} {x2 : Int32} {o3 : Option Value} {S : fm_S}  (hi0 : vp_in x1 4) : am_Ev d k_X_gate 20 [some (.ref 0), some (.int x1), some (.int x2), o3] [] (fm_mk S) (some (.int (S.1 6 x1.toNatClampNeg)), fm_mk (fm_wI S 6 x1.toNatClampNeg x2)) := by
  refine fs_aloadn (j := 0) (by decide +kernel) rfl ?_
  refine fe_getR (idx := 10) (t := 7) (f := 0) (fk := 2) (fin := 1) (wp := 332) (x := 1) (by decide +kernel) (by decide +kernel) (by decide +kernel) (by decide +kernel) (by decide +kernel) ?_
  refine fe_getR (idx := 87) (t := 6) (f := 5) (fk := 2) (fin := 1) (wp := 171) (x := 6) (by decide +kernel) (by decide +kernel) (by decide +kernel) (by decide +kernel) (by decide +kernel) ?_
  refine fs_iloadn (j := 1) (by decide +kernel) rfl ?_
  refine fx_iald (n := x1.toNatClampNeg) (len := 4) (by decide +kernel) (by decide +kernel) (by decide +kernel) hi0 rfl ?_
  refine fs_istoren (j := 3) (L' := [some (.ref 0), some (.int x1), some (.int x2), some (.int (S.1 6 x1.toNatClampNeg))]) (by decide +kernel) (Nat.le_of_ble_eq_true rfl) rfl ?_
  refine fs_aloadn (j := 0) (by decide +kernel) rfl ?_
  refine fe_getR (idx := 10) (t := 7) (f := 0) (fk := 2) (fin := 1) (wp := 332) (x := 1) (by decide +kernel) (by decide +kernel) (by decide +kernel) (by decide +kernel) (by decide +kernel) ?_
  refine fe_getR (idx := 87) (t := 6) (f := 5) (fk := 2) (fin := 1) (wp := 171) (x := 6) (by decide +kernel) (by decide +kernel) (by decide +kernel) (by decide +kernel) (by decide +kernel) ?_
  refine fs_iloadn (j := 1) (by decide +kernel) rfl ?_
  refine fs_iloadn (j := 2) (by decide +kernel) rfl ?_
  refine fx_iast (n := x1.toNatClampNeg) (len := 4) (by decide +kernel) (by decide +kernel) (by decide +kernel) hi0 rfl ?_
  refine fs_iloadn (j := 3) (by decide +kernel) rfl ?_
  exact fe_retI (by decide +kernel) (by decide +kernel)
-- KitchenSiege.isWind(I)Z
theorem b_X_isWind_0 {d : Nat} {x0 : Int32} {v : Int32} {S1 : fm_S} {S : fm_S} {r : Option Value × am_W} (hc : am_Sp d k_X_within [.int x0, .int 0, .int 3] (fm_mk S) (some (.int v)) (fm_mk S1)) (nx : am_Ev (d + 1) k_X_isWind 6 [some (.int x0)] [.int v] (fm_mk S1) r) : am_Ev (d + 1) k_X_isWind 0 [some (.int x0)] [] (fm_mk S) r := by
  refine fs_iloadn (j := 0) (by decide +kernel) rfl ?_
  refine fs_iconst (n := 0) (v := 0) (by decide +kernel) (by decide) ?_
  refine fs_iconst (n := 3) (v := 3) (by decide +kernel) (by decide) ?_
  exact fe_callS (idx := 54) (kd := 0) (n := 3) (wp := 370) (q := (371, 0)) (as := [.int x0, .int 0, .int 3]) (rs := []) (by decide +kernel) (by decide +kernel) (by decide +kernel) (by decide) rfl (Nat.le_of_ble_eq_true rfl) rfl hc nx
theorem b_X_isWind_6 {d : Nat} {x0 : Int32} {sx0 : Int32} {S : fm_S}  (hz : sx0 = 0 ∨ sx0 = 1) : am_Ev d k_X_isWind 6 [some (.int x0)] [.int sx0] (fm_mk S) (some (.int sx0), fm_mk S) := by
  exact fe_retZ (by decide +kernel) (by decide +kernel) hz
-- KitchenSiege.wind(II)I
theorem b_X_wind_0 {d : Nat} {x1 : Int32} {x2 : Int32} {o3 : Option Value} {v : Int32} {S1 : fm_S} {S : fm_S} {r : Option Value × am_W} (hc : am_Sp d k_X_isWind [.int x1] (fm_mk S) (some (.int v)) (fm_mk S1)) (nx : am_Ev (d + 1) k_X_wind 4 [some (.ref 0), some (.int x1), some (.int x2), o3] [.int v] (fm_mk S1) r) : am_Ev (d + 1) k_X_wind 0 [some (.ref 0), some (.int x1), some (.int x2), o3] [] (fm_mk S) r := by
  refine fs_iloadn (j := 1) (by decide +kernel) rfl ?_
  exact fe_callS (idx := 84) (kd := 0) (n := 1) (wp := 412) (q := (413, 0)) (as := [.int x1]) (rs := []) (by decide +kernel) (by decide +kernel) (by decide +kernel) (by decide) rfl (Nat.le_of_ble_eq_true rfl) rfl hc nx
theorem b_X_wind_4 {d : Nat} {x1 : Int32} {x2 : Int32} {o3 : Option Value} {sx0 : Int32} {S : fm_S} {r : Option Value × am_W} (kt : sx0 = 0 → am_Ev d k_X_wind 14 [some (.ref 0), some (.int x1), some (.int x2), o3] [] (fm_mk S) r) (kf : ¬ sx0 = 0 → am_Ev d k_X_wind 7 [some (.ref 0), some (.int x1), some (.int x2), o3] [] (fm_mk S) r) : am_Ev d k_X_wind 4 [some (.ref 0), some (.int x1), some (.int x2), o3] [.int sx0] (fm_mk S) r := by
  exact fs_ifeq (off := 10) (tgt := 14) (by decide +kernel) (by decide) kt kf
theorem b_X_wind_7 {d : Nat} {x1 : Int32} {x2 : Int32} {o3 : Option Value} {v : Int32} {S1 : fm_S} {S : fm_S} {r : Option Value × am_W} (hc : am_Sp d k_X_isWind [.int x2] (fm_mk S) (some (.int v)) (fm_mk S1)) (nx : am_Ev (d + 1) k_X_wind 11 [some (.ref 0), some (.int x1), some (.int x2), o3] [.int v] (fm_mk S1) r) : am_Ev (d + 1) k_X_wind 7 [some (.ref 0), some (.int x1), some (.int x2), o3] [] (fm_mk S) r := by
  refine fs_iloadn (j := 2) (by decide +kernel) rfl ?_
  exact fe_callS (idx := 84) (kd := 0) (n := 1) (wp := 412) (q := (413, 0)) (as := [.int x2]) (rs := []) (by decide +kernel) (by decide +kernel) (by decide +kernel) (by decide) rfl (Nat.le_of_ble_eq_true rfl) rfl hc nx
theorem b_X_wind_11 {d : Nat} {x1 : Int32} {x2 : Int32} {o3 : Option Value} {sx0 : Int32} {S : fm_S} {r : Option Value × am_W} (kt : ¬ sx0 = 0 → am_Ev d k_X_wind 19 [some (.ref 0), some (.int x1), some (.int x2), o3] [] (fm_mk S) r) (kf : sx0 = 0 → am_Ev d k_X_wind 14 [some (.ref 0), some (.int x1), some (.int x2), o3] [] (fm_mk S) r) : am_Ev d k_X_wind 11 [some (.ref 0), some (.int x1), some (.int x2), o3] [.int sx0] (fm_mk S) r := by
  exact fs_ifne (off := 8) (tgt := 19) (by decide +kernel) (by decide) kt kf
theorem b_X_wind_14 {d : Nat} {x1 : Int32} {x2 : Int32} {o3 : Option Value} {v : Int32} {S1 : fm_S} {S : fm_S} {r : Option Value × am_W} (hc : am_Sp d k_X_bad [.ref 0] (fm_mk S) (some (.int v)) (fm_mk S1)) (nx : am_Ev (d + 1) k_X_wind 18 [some (.ref 0), some (.int x1), some (.int x2), o3] [.int v] (fm_mk S1) r) : am_Ev (d + 1) k_X_wind 14 [some (.ref 0), some (.int x1), some (.int x2), o3] [] (fm_mk S) r := by
  refine fs_aloadn (j := 0) (by decide +kernel) rfl ?_
  exact fe_callV (t := 7) (idx := 58) (n := 0) (wp := 373) (q := (375, 0)) (as := []) (rs := []) (by decide +kernel) (by decide +kernel) (by decide +kernel) (by decide +kernel) rfl (Nat.le_of_ble_eq_true rfl) rfl hc nx
theorem b_X_wind_18 {d : Nat} {x1 : Int32} {x2 : Int32} {o3 : Option Value} {sx0 : Int32} {S : fm_S}  : am_Ev d k_X_wind 18 [some (.ref 0), some (.int x1), some (.int x2), o3] [.int sx0] (fm_mk S) (some (.int sx0), fm_mk S) := by
  exact fe_retI (by decide +kernel) (by decide +kernel)
theorem b_X_wind_19 {d : Nat} {x1 : Int32} {x2 : Int32} {o3 : Option Value} {S : fm_S}  (hi0 : vp_in x1 4) : am_Ev d k_X_wind 19 [some (.ref 0), some (.int x1), some (.int x2), o3] [] (fm_mk S) (some (.int (S.1 7 x1.toNatClampNeg)), fm_mk (fm_wI S 7 x1.toNatClampNeg x2)) := by
  refine fs_aloadn (j := 0) (by decide +kernel) rfl ?_
  refine fe_getR (idx := 10) (t := 7) (f := 0) (fk := 2) (fin := 1) (wp := 332) (x := 1) (by decide +kernel) (by decide +kernel) (by decide +kernel) (by decide +kernel) (by decide +kernel) ?_
  refine fe_getR (idx := 91) (t := 6) (f := 6) (fk := 2) (fin := 1) (wp := 174) (x := 7) (by decide +kernel) (by decide +kernel) (by decide +kernel) (by decide +kernel) (by decide +kernel) ?_
  refine fs_iloadn (j := 1) (by decide +kernel) rfl ?_
  refine fx_iald (n := x1.toNatClampNeg) (len := 4) (by decide +kernel) (by decide +kernel) (by decide +kernel) hi0 rfl ?_
  refine fs_istoren (j := 3) (L' := [some (.ref 0), some (.int x1), some (.int x2), some (.int (S.1 7 x1.toNatClampNeg))]) (by decide +kernel) (Nat.le_of_ble_eq_true rfl) rfl ?_
  refine fs_aloadn (j := 0) (by decide +kernel) rfl ?_
  refine fe_getR (idx := 10) (t := 7) (f := 0) (fk := 2) (fin := 1) (wp := 332) (x := 1) (by decide +kernel) (by decide +kernel) (by decide +kernel) (by decide +kernel) (by decide +kernel) ?_
  refine fe_getR (idx := 91) (t := 6) (f := 6) (fk := 2) (fin := 1) (wp := 174) (x := 7) (by decide +kernel) (by decide +kernel) (by decide +kernel) (by decide +kernel) (by decide +kernel) ?_
  refine fs_iloadn (j := 1) (by decide +kernel) rfl ?_
  refine fs_iloadn (j := 2) (by decide +kernel) rfl ?_
  refine fx_iast (n := x1.toNatClampNeg) (len := 4) (by decide +kernel) (by decide +kernel) (by decide +kernel) hi0 rfl ?_
  refine fs_iloadn (j := 3) (by decide +kernel) rfl ?_
  exact fe_retI (by decide +kernel) (by decide +kernel)
-- KitchenSiege.dish(III)I
theorem b_X_dish_0 {d : Nat} {x1 : Int32} {x2 : Int32} {x3 : Int32} {o4 : Option Value} {v : Int32} {S1 : fm_S} {S : fm_S} {r : Option Value × am_W} (hc : am_Sp d k_X_within [.int x1, .int 0, .int 5] (fm_mk S) (some (.int v)) (fm_mk S1)) (nx : am_Ev (d + 1) k_X_dish 6 [some (.ref 0), some (.int x1), some (.int x2), some (.int x3), o4] [.int v] (fm_mk S1) r) : am_Ev (d + 1) k_X_dish 0 [some (.ref 0), some (.int x1), some (.int x2), some (.int x3), o4] [] (fm_mk S) r := by
  refine fs_iloadn (j := 1) (by decide +kernel) rfl ?_
  refine fs_iconst (n := 0) (v := 0) (by decide +kernel) (by decide) ?_
  refine fs_iconst (n := 5) (v := 5) (by decide +kernel) (by decide) ?_
  exact fe_callS (idx := 54) (kd := 0) (n := 3) (wp := 370) (q := (371, 0)) (as := [.int x1, .int 0, .int 5]) (rs := []) (by decide +kernel) (by decide +kernel) (by decide +kernel) (by decide) rfl (Nat.le_of_ble_eq_true rfl) rfl hc nx
theorem b_X_dish_6 {d : Nat} {x1 : Int32} {x2 : Int32} {x3 : Int32} {o4 : Option Value} {sx0 : Int32} {S : fm_S} {r : Option Value × am_W} (kt : sx0 = 0 → am_Ev d k_X_dish 29 [some (.ref 0), some (.int x1), some (.int x2), some (.int x3), o4] [] (fm_mk S) r) (kf : ¬ sx0 = 0 → am_Ev d k_X_dish 9 [some (.ref 0), some (.int x1), some (.int x2), some (.int x3), o4] [] (fm_mk S) r) : am_Ev d k_X_dish 6 [some (.ref 0), some (.int x1), some (.int x2), some (.int x3), o4] [.int sx0] (fm_mk S) r := by
  exact fs_ifeq (off := 23) (tgt := 29) (by decide +kernel) (by decide) kt kf
theorem b_X_dish_9 {d : Nat} {x1 : Int32} {x2 : Int32} {x3 : Int32} {o4 : Option Value} {v : Int32} {S1 : fm_S} {S : fm_S} {r : Option Value × am_W} (hc : am_Sp d k_X_within [.int x2, .int 1, .int 30] (fm_mk S) (some (.int v)) (fm_mk S1)) (nx : am_Ev (d + 1) k_X_dish 16 [some (.ref 0), some (.int x1), some (.int x2), some (.int x3), o4] [.int v] (fm_mk S1) r) : am_Ev (d + 1) k_X_dish 9 [some (.ref 0), some (.int x1), some (.int x2), some (.int x3), o4] [] (fm_mk S) r := by
  refine fs_iloadn (j := 2) (by decide +kernel) rfl ?_
  refine fs_iconst (n := 1) (v := 1) (by decide +kernel) (by decide) ?_
  refine fs_bipush (n := 30) (v := 30) (by decide +kernel) (by decide) ?_
  exact fe_callS (idx := 54) (kd := 0) (n := 3) (wp := 370) (q := (371, 0)) (as := [.int x2, .int 1, .int 30]) (rs := []) (by decide +kernel) (by decide +kernel) (by decide +kernel) (by decide) rfl (Nat.le_of_ble_eq_true rfl) rfl hc nx
theorem b_X_dish_16 {d : Nat} {x1 : Int32} {x2 : Int32} {x3 : Int32} {o4 : Option Value} {sx0 : Int32} {S : fm_S} {r : Option Value × am_W} (kt : sx0 = 0 → am_Ev d k_X_dish 29 [some (.ref 0), some (.int x1), some (.int x2), some (.int x3), o4] [] (fm_mk S) r) (kf : ¬ sx0 = 0 → am_Ev d k_X_dish 19 [some (.ref 0), some (.int x1), some (.int x2), some (.int x3), o4] [] (fm_mk S) r) : am_Ev d k_X_dish 16 [some (.ref 0), some (.int x1), some (.int x2), some (.int x3), o4] [.int sx0] (fm_mk S) r := by
  exact fs_ifeq (off := 13) (tgt := 29) (by decide +kernel) (by decide) kt kf
theorem b_X_dish_19 {d : Nat} {x1 : Int32} {x2 : Int32} {x3 : Int32} {o4 : Option Value} {v : Int32} {S1 : fm_S} {S : fm_S} {r : Option Value × am_W} (hc : am_Sp d k_X_within [.int x3, .int 0, .int 9] (fm_mk S) (some (.int v)) (fm_mk S1)) (nx : am_Ev (d + 1) k_X_dish 26 [some (.ref 0), some (.int x1), some (.int x2), some (.int x3), o4] [.int v] (fm_mk S1) r) : am_Ev (d + 1) k_X_dish 19 [some (.ref 0), some (.int x1), some (.int x2), some (.int x3), o4] [] (fm_mk S) r := by
  refine fs_iloadn (j := 3) (by decide +kernel) rfl ?_
  refine fs_iconst (n := 0) (v := 0) (by decide +kernel) (by decide) ?_
  refine fs_bipush (n := 9) (v := 9) (by decide +kernel) (by decide) ?_
  exact fe_callS (idx := 54) (kd := 0) (n := 3) (wp := 370) (q := (371, 0)) (as := [.int x3, .int 0, .int 9]) (rs := []) (by decide +kernel) (by decide +kernel) (by decide +kernel) (by decide) rfl (Nat.le_of_ble_eq_true rfl) rfl hc nx
theorem b_X_dish_26 {d : Nat} {x1 : Int32} {x2 : Int32} {x3 : Int32} {o4 : Option Value} {sx0 : Int32} {S : fm_S} {r : Option Value × am_W} (kt : ¬ sx0 = 0 → am_Ev d k_X_dish 34 [some (.ref 0), some (.int x1), some (.int x2), some (.int x3), o4] [] (fm_mk S) r) (kf : sx0 = 0 → am_Ev d k_X_dish 29 [some (.ref 0), some (.int x1), some (.int x2), some (.int x3), o4] [] (fm_mk S) r) : am_Ev d k_X_dish 26 [some (.ref 0), some (.int x1), some (.int x2), some (.int x3), o4] [.int sx0] (fm_mk S) r := by
  exact fs_ifne (off := 8) (tgt := 34) (by decide +kernel) (by decide) kt kf
theorem b_X_dish_29 {d : Nat} {x1 : Int32} {x2 : Int32} {x3 : Int32} {o4 : Option Value} {v : Int32} {S1 : fm_S} {S : fm_S} {r : Option Value × am_W} (hc : am_Sp d k_X_bad [.ref 0] (fm_mk S) (some (.int v)) (fm_mk S1)) (nx : am_Ev (d + 1) k_X_dish 33 [some (.ref 0), some (.int x1), some (.int x2), some (.int x3), o4] [.int v] (fm_mk S1) r) : am_Ev (d + 1) k_X_dish 29 [some (.ref 0), some (.int x1), some (.int x2), some (.int x3), o4] [] (fm_mk S) r := by
  refine fs_aloadn (j := 0) (by decide +kernel) rfl ?_
  exact fe_callV (t := 7) (idx := 58) (n := 0) (wp := 373) (q := (375, 0)) (as := []) (rs := []) (by decide +kernel) (by decide +kernel) (by decide +kernel) (by decide +kernel) rfl (Nat.le_of_ble_eq_true rfl) rfl hc nx
theorem b_X_dish_33 {d : Nat} {x1 : Int32} {x2 : Int32} {x3 : Int32} {o4 : Option Value} {sx0 : Int32} {S : fm_S}  : am_Ev d k_X_dish 33 [some (.ref 0), some (.int x1), some (.int x2), some (.int x3), o4] [.int sx0] (fm_mk S) (some (.int sx0), fm_mk S) := by
  exact fe_retI (by decide +kernel) (by decide +kernel)
theorem b_X_dish_34 {d : Nat} {x1 : Int32} {x2 : Int32} {x3 : Int32} {o4 : Option Value} {v : Int32} {S1 : fm_S} {S : fm_S} {r : Option Value × am_W} (hc : am_Sp d k_Town_addDish [.ref 1, .int x1, .int x2, .int x3] (fm_mk S) (some (.int v)) (fm_mk S1)) (nx : am_Ev (d + 1) k_X_dish 44 [some (.ref 0), some (.int x1), some (.int x2), some (.int x3), o4] [.int v] (fm_mk S1) r) : am_Ev (d + 1) k_X_dish 34 [some (.ref 0), some (.int x1), some (.int x2), some (.int x3), o4] [] (fm_mk S) r := by
  refine fs_aloadn (j := 0) (by decide +kernel) rfl ?_
  refine fe_getR (idx := 10) (t := 7) (f := 0) (fk := 2) (fin := 1) (wp := 332) (x := 1) (by decide +kernel) (by decide +kernel) (by decide +kernel) (by decide +kernel) (by decide +kernel) ?_
  refine fs_iloadn (j := 1) (by decide +kernel) rfl ?_
  refine fs_iloadn (j := 2) (by decide +kernel) rfl ?_
  refine fs_iloadn (j := 3) (by decide +kernel) rfl ?_
  exact fe_callV (t := 6) (idx := 94) (n := 3) (wp := 423) (q := (424, 425)) (as := [.int x1, .int x2, .int x3]) (rs := []) (by decide +kernel) (by decide +kernel) (by decide +kernel) (by decide +kernel) rfl (Nat.le_of_ble_eq_true rfl) rfl hc nx
theorem b_X_dish_44 {d : Nat} {x1 : Int32} {x2 : Int32} {x3 : Int32} {o4 : Option Value} {sx0 : Int32} {S : fm_S} {r : Option Value × am_W} (kt : ¬ sx0 = (-1) → am_Ev d k_X_dish 59 [some (.ref 0), some (.int x1), some (.int x2), some (.int x3), some (.int sx0)] [] (fm_mk S) r) (kf : sx0 = (-1) → am_Ev d k_X_dish 52 [some (.ref 0), some (.int x1), some (.int x2), some (.int x3), some (.int sx0)] [] (fm_mk S) r) : am_Ev d k_X_dish 44 [some (.ref 0), some (.int x1), some (.int x2), some (.int x3), o4] [.int sx0] (fm_mk S) r := by
  refine fs_istore (j := 4) (L' := [some (.ref 0), some (.int x1), some (.int x2), some (.int x3), some (.int sx0)]) (by decide +kernel) (Nat.le_of_ble_eq_true rfl) rfl ?_
  refine fs_iload (j := 4) (by decide +kernel) rfl ?_
  refine fs_iconst (n := -1) (v := (-1)) (by decide +kernel) (by decide) ?_
  exact fs_icne (off := 10) (tgt := 59) (by decide +kernel) (by decide) kt kf
theorem b_X_dish_52 {d : Nat} {x1 : Int32} {x2 : Int32} {x3 : Int32} {x4 : Int32} {v : Int32} {S1 : fm_S} {S : fm_S} {r : Option Value × am_W} (hc : am_Sp d k_X_full [.ref 0] (fm_mk S) (some (.int v)) (fm_mk S1)) (nx : am_Ev (d + 1) k_X_dish 56 [some (.ref 0), some (.int x1), some (.int x2), some (.int x3), some (.int x4)] [.int v] (fm_mk S1) r) : am_Ev (d + 1) k_X_dish 52 [some (.ref 0), some (.int x1), some (.int x2), some (.int x3), some (.int x4)] [] (fm_mk S) r := by
  refine fs_aloadn (j := 0) (by decide +kernel) rfl ?_
  exact fe_callV (t := 7) (idx := 66) (n := 0) (wp := 381) (q := (383, 1)) (as := []) (rs := []) (by decide +kernel) (by decide +kernel) (by decide +kernel) (by decide +kernel) rfl (Nat.le_of_ble_eq_true rfl) rfl hc nx
theorem b_X_dish_56 {d : Nat} {x1 : Int32} {x2 : Int32} {x3 : Int32} {x4 : Int32} {sx0 : Int32} {S : fm_S} {r : Option Value × am_W} (nx : am_Ev d k_X_dish 61 [some (.ref 0), some (.int x1), some (.int x2), some (.int x3), some (.int x4)] [.int sx0] (fm_mk S) r) : am_Ev d k_X_dish 56 [some (.ref 0), some (.int x1), some (.int x2), some (.int x3), some (.int x4)] [.int sx0] (fm_mk S) r := by
  refine fs_goto (off := 5) (tgt := 61) (by decide +kernel) (by decide) ?_
  exact nx
theorem b_X_dish_59 {d : Nat} {x1 : Int32} {x2 : Int32} {x3 : Int32} {x4 : Int32} {S : fm_S} {r : Option Value × am_W} (nx : am_Ev d k_X_dish 61 [some (.ref 0), some (.int x1), some (.int x2), some (.int x3), some (.int x4)] [.int x4] (fm_mk S) r) : am_Ev d k_X_dish 59 [some (.ref 0), some (.int x1), some (.int x2), some (.int x3), some (.int x4)] [] (fm_mk S) r := by
  refine fs_iload (j := 4) (by decide +kernel) rfl ?_
  exact nx
theorem b_X_dish_61 {d : Nat} {x1 : Int32} {x2 : Int32} {x3 : Int32} {x4 : Int32} {sx0 : Int32} {S : fm_S}  : am_Ev d k_X_dish 61 [some (.ref 0), some (.int x1), some (.int x2), some (.int x3), some (.int x4)] [.int sx0] (fm_mk S) (some (.int sx0), fm_mk S) := by
  exact fe_retI (by decide +kernel) (by decide +kernel)
-- KitchenSiege.type(I)I
theorem b_X_type_0 {d : Nat} {x1 : Int32} {o2 : Option Value} {v : Int32} {S1 : fm_S} {S : fm_S} {r : Option Value × am_W} (hc : am_Sp d k_X_within [.int x1, .int 0, .int 127] (fm_mk S) (some (.int v)) (fm_mk S1)) (nx : am_Ev (d + 1) k_X_type 7 [some (.ref 0), some (.int x1), o2] [.int v] (fm_mk S1) r) : am_Ev (d + 1) k_X_type 0 [some (.ref 0), some (.int x1), o2] [] (fm_mk S) r := by
  refine fs_iloadn (j := 1) (by decide +kernel) rfl ?_
  refine fs_iconst (n := 0) (v := 0) (by decide +kernel) (by decide) ?_
  refine fs_bipush (n := 127) (v := 127) (by decide +kernel) (by decide) ?_
  exact fe_callS (idx := 54) (kd := 0) (n := 3) (wp := 370) (q := (371, 0)) (as := [.int x1, .int 0, .int 127]) (rs := []) (by decide +kernel) (by decide +kernel) (by decide +kernel) (by decide) rfl (Nat.le_of_ble_eq_true rfl) rfl hc nx
theorem b_X_type_7 {d : Nat} {x1 : Int32} {o2 : Option Value} {sx0 : Int32} {S : fm_S} {r : Option Value × am_W} (kt : ¬ sx0 = 0 → am_Ev d k_X_type 15 [some (.ref 0), some (.int x1), o2] [] (fm_mk S) r) (kf : sx0 = 0 → am_Ev d k_X_type 10 [some (.ref 0), some (.int x1), o2] [] (fm_mk S) r) : am_Ev d k_X_type 7 [some (.ref 0), some (.int x1), o2] [.int sx0] (fm_mk S) r := by
  exact fs_ifne (off := 8) (tgt := 15) (by decide +kernel) (by decide) kt kf
theorem b_X_type_10 {d : Nat} {x1 : Int32} {o2 : Option Value} {v : Int32} {S1 : fm_S} {S : fm_S} {r : Option Value × am_W} (hc : am_Sp d k_X_bad [.ref 0] (fm_mk S) (some (.int v)) (fm_mk S1)) (nx : am_Ev (d + 1) k_X_type 14 [some (.ref 0), some (.int x1), o2] [.int v] (fm_mk S1) r) : am_Ev (d + 1) k_X_type 10 [some (.ref 0), some (.int x1), o2] [] (fm_mk S) r := by
  refine fs_aloadn (j := 0) (by decide +kernel) rfl ?_
  exact fe_callV (t := 7) (idx := 58) (n := 0) (wp := 373) (q := (375, 0)) (as := []) (rs := []) (by decide +kernel) (by decide +kernel) (by decide +kernel) (by decide +kernel) rfl (Nat.le_of_ble_eq_true rfl) rfl hc nx
theorem b_X_type_14 {d : Nat} {x1 : Int32} {o2 : Option Value} {sx0 : Int32} {S : fm_S}  : am_Ev d k_X_type 14 [some (.ref 0), some (.int x1), o2] [.int sx0] (fm_mk S) (some (.int sx0), fm_mk S) := by
  exact fe_retI (by decide +kernel) (by decide +kernel)
theorem b_X_type_15 {d : Nat} {x1 : Int32} {o2 : Option Value} {v : Int32} {S1 : fm_S} {S : fm_S} {r : Option Value × am_W} (hc : am_Sp d k_Reader_put [.ref 67, .int x1] (fm_mk S) (some (.int v)) (fm_mk S1)) (nx : am_Ev (d + 1) k_X_type 23 [some (.ref 0), some (.int x1), o2] [.int v] (fm_mk S1) r) : am_Ev (d + 1) k_X_type 15 [some (.ref 0), some (.int x1), o2] [] (fm_mk S) r := by
  refine fs_aloadn (j := 0) (by decide +kernel) rfl ?_
  refine fe_getR (idx := 28) (t := 7) (f := 2) (fk := 2) (fin := 1) (wp := 334) (x := 67) (by decide +kernel) (by decide +kernel) (by decide +kernel) (by decide +kernel) (by decide +kernel) ?_
  refine fs_iloadn (j := 1) (by decide +kernel) rfl ?_
  exact fe_callV (t := 5) (idx := 97) (n := 1) (wp := 431) (q := (432, 433)) (as := [.int x1]) (rs := []) (by decide +kernel) (by decide +kernel) (by decide +kernel) (by decide +kernel) rfl (Nat.le_of_ble_eq_true rfl) rfl hc nx
theorem b_X_type_23 {d : Nat} {x1 : Int32} {o2 : Option Value} {sx0 : Int32} {S : fm_S} {r : Option Value × am_W} (kt : ¬ sx0 = (-1) → am_Ev d k_X_type 36 [some (.ref 0), some (.int x1), some (.int sx0)] [] (fm_mk S) r) (kf : sx0 = (-1) → am_Ev d k_X_type 29 [some (.ref 0), some (.int x1), some (.int sx0)] [] (fm_mk S) r) : am_Ev d k_X_type 23 [some (.ref 0), some (.int x1), o2] [.int sx0] (fm_mk S) r := by
  refine fs_istoren (j := 2) (L' := [some (.ref 0), some (.int x1), some (.int sx0)]) (by decide +kernel) (Nat.le_of_ble_eq_true rfl) rfl ?_
  refine fs_iloadn (j := 2) (by decide +kernel) rfl ?_
  refine fs_iconst (n := -1) (v := (-1)) (by decide +kernel) (by decide) ?_
  exact fs_icne (off := 10) (tgt := 36) (by decide +kernel) (by decide) kt kf
theorem b_X_type_29 {d : Nat} {x1 : Int32} {x2 : Int32} {v : Int32} {S1 : fm_S} {S : fm_S} {r : Option Value × am_W} (hc : am_Sp d k_X_full [.ref 0] (fm_mk S) (some (.int v)) (fm_mk S1)) (nx : am_Ev (d + 1) k_X_type 33 [some (.ref 0), some (.int x1), some (.int x2)] [.int v] (fm_mk S1) r) : am_Ev (d + 1) k_X_type 29 [some (.ref 0), some (.int x1), some (.int x2)] [] (fm_mk S) r := by
  refine fs_aloadn (j := 0) (by decide +kernel) rfl ?_
  exact fe_callV (t := 7) (idx := 66) (n := 0) (wp := 381) (q := (383, 1)) (as := []) (rs := []) (by decide +kernel) (by decide +kernel) (by decide +kernel) (by decide +kernel) rfl (Nat.le_of_ble_eq_true rfl) rfl hc nx
theorem b_X_type_33 {d : Nat} {x1 : Int32} {x2 : Int32} {sx0 : Int32} {S : fm_S} {r : Option Value × am_W} (nx : am_Ev d k_X_type 37 [some (.ref 0), some (.int x1), some (.int x2)] [.int sx0] (fm_mk S) r) : am_Ev d k_X_type 33 [some (.ref 0), some (.int x1), some (.int x2)] [.int sx0] (fm_mk S) r := by
  refine fs_goto (off := 4) (tgt := 37) (by decide +kernel) (by decide) ?_
  exact nx
theorem b_X_type_36 {d : Nat} {x1 : Int32} {x2 : Int32} {S : fm_S} {r : Option Value × am_W} (nx : am_Ev d k_X_type 37 [some (.ref 0), some (.int x1), some (.int x2)] [.int x2] (fm_mk S) r) : am_Ev d k_X_type 36 [some (.ref 0), some (.int x1), some (.int x2)] [] (fm_mk S) r := by
  refine fs_iloadn (j := 2) (by decide +kernel) rfl ?_
  exact nx
theorem b_X_type_37 {d : Nat} {x1 : Int32} {x2 : Int32} {sx0 : Int32} {S : fm_S}  : am_Ev d k_X_type 37 [some (.ref 0), some (.int x1), some (.int x2)] [.int sx0] (fm_mk S) (some (.int sx0), fm_mk S) := by
  exact fe_retI (by decide +kernel) (by decide +kernel)
-- KitchenSiege.clear()I
theorem b_X_clear_0 {d : Nat} {o1 : Option Value} {S : fm_S}  : am_Ev d k_X_clear 0 [some (.ref 0), o1] [] (fm_mk S) (some (.int (S.1 67 0)), fm_mk (fm_wI S 67 0 0)) := by
  refine fs_aloadn (j := 0) (by decide +kernel) rfl ?_
  refine fe_getR (idx := 28) (t := 7) (f := 2) (fk := 2) (fin := 1) (wp := 334) (x := 67) (by decide +kernel) (by decide +kernel) (by decide +kernel) (by decide +kernel) (by decide +kernel) ?_
  refine fe_getI (idx := 101) (t := 5) (f := 0) (fk := 0) (fin := 0) (wp := 286) (by decide +kernel) (by decide +kernel) (by decide +kernel) (by decide +kernel) ?_
  refine fs_istoren (j := 1) (L' := [some (.ref 0), some (.int (S.1 67 0))]) (by decide +kernel) (Nat.le_of_ble_eq_true rfl) rfl ?_
  refine fs_aloadn (j := 0) (by decide +kernel) rfl ?_
  refine fe_getR (idx := 28) (t := 7) (f := 2) (fk := 2) (fin := 1) (wp := 334) (x := 67) (by decide +kernel) (by decide +kernel) (by decide +kernel) (by decide +kernel) (by decide +kernel) ?_
  refine fs_iconst (n := 0) (v := 0) (by decide +kernel) (by decide) ?_
  refine fe_putI (idx := 101) (t := 5) (f := 0) (wp := 286) (by decide +kernel) (by decide +kernel) (by decide +kernel) (by decide +kernel) ?_
  refine fs_iloadn (j := 1) (by decide +kernel) rfl ?_
  exact fe_retI (by decide +kernel) (by decide +kernel)
-- KitchenSiege.read()I
theorem b_X_read_0 {d : Nat} {o1 : Option Value} {v : Int32} {S1 : fm_S} {S : fm_S} {r : Option Value × am_W} (hc : am_Sp d k_Reader_parse [.ref 67] (fm_mk S) (some (.int v)) (fm_mk S1)) (nx : am_Ev (d + 1) k_X_read 7 [some (.ref 0), o1] [.int v] (fm_mk S1) r) : am_Ev (d + 1) k_X_read 0 [some (.ref 0), o1] [] (fm_mk S) r := by
  refine fs_aloadn (j := 0) (by decide +kernel) rfl ?_
  refine fe_getR (idx := 28) (t := 7) (f := 2) (fk := 2) (fin := 1) (wp := 334) (x := 67) (by decide +kernel) (by decide +kernel) (by decide +kernel) (by decide +kernel) (by decide +kernel) ?_
  exact fe_callV (t := 5) (idx := 104) (n := 0) (wp := 443) (q := (444, 445)) (as := []) (rs := []) (by decide +kernel) (by decide +kernel) (by decide +kernel) (by decide +kernel) rfl (Nat.le_of_ble_eq_true rfl) rfl hc nx
theorem b_X_read_7 {d : Nat} {o1 : Option Value} {sx0 : Int32} {S : fm_S} {r : Option Value × am_W} (kt : sx0 = (-1) → am_Ev d k_X_read 18 [some (.ref 0), some (.int sx0)] [] (fm_mk S) r) (kf : ¬ sx0 = (-1) → am_Ev d k_X_read 13 [some (.ref 0), some (.int sx0)] [] (fm_mk S) r) : am_Ev d k_X_read 7 [some (.ref 0), o1] [.int sx0] (fm_mk S) r := by
  refine fs_istoren (j := 1) (L' := [some (.ref 0), some (.int sx0)]) (by decide +kernel) (Nat.le_of_ble_eq_true rfl) rfl ?_
  refine fs_iloadn (j := 1) (by decide +kernel) rfl ?_
  refine fs_iconst (n := -1) (v := (-1)) (by decide +kernel) (by decide) ?_
  exact fs_iceq (off := 8) (tgt := 18) (by decide +kernel) (by decide) kt kf
theorem b_X_read_13 {d : Nat} {x1 : Int32} {S : fm_S}  : am_Ev d k_X_read 13 [some (.ref 0), some (.int x1)] [] (fm_mk S) (some (.int ((-10) - x1)), fm_mk S) := by
  refine fs_bipush (n := -10) (v := (-10)) (by decide +kernel) (by decide) ?_
  refine fs_iloadn (j := 1) (by decide +kernel) rfl ?_
  refine fs_isub (by decide +kernel) ?_
  exact fe_retI (by decide +kernel) (by decide +kernel)
theorem b_X_read_18 {d : Nat} {x1 : Int32} {S1 : fm_S} {S : fm_S} {r : Option Value × am_W} (hc : am_Sp d k_Town_copy [.ref 1, .ref 68] (fm_mk S) (none) (fm_mk S1)) (nx : am_Ev (d + 1) k_X_read 32 [some (.ref 0), some (.int x1)] [] (fm_mk S1) r) : am_Ev (d + 1) k_X_read 18 [some (.ref 0), some (.int x1)] [] (fm_mk S) r := by
  refine fs_aloadn (j := 0) (by decide +kernel) rfl ?_
  refine fe_getR (idx := 10) (t := 7) (f := 0) (fk := 2) (fin := 1) (wp := 332) (x := 1) (by decide +kernel) (by decide +kernel) (by decide +kernel) (by decide +kernel) (by decide +kernel) ?_
  refine fs_aloadn (j := 0) (by decide +kernel) rfl ?_
  refine fe_getR (idx := 28) (t := 7) (f := 2) (fk := 2) (fin := 1) (wp := 334) (x := 67) (by decide +kernel) (by decide +kernel) (by decide +kernel) (by decide +kernel) (by decide +kernel) ?_
  refine fe_getR (idx := 107) (t := 5) (f := 2) (fk := 2) (fin := 1) (wp := 290) (x := 68) (by decide +kernel) (by decide +kernel) (by decide +kernel) (by decide +kernel) (by decide +kernel) ?_
  exact fe_callV (t := 6) (idx := 110) (n := 1) (wp := 560) (q := (561, 562)) (as := [.ref 68]) (rs := []) (by decide +kernel) (by decide +kernel) (by decide +kernel) (by decide +kernel) rfl (Nat.le_of_ble_eq_true rfl) rfl hc nx
theorem b_X_read_32 {d : Nat} {x1 : Int32} {S : fm_S}  : am_Ev d k_X_read 32 [some (.ref 0), some (.int x1)] [] (fm_mk S) (some (.int (S.1 67 1)), fm_mk S) := by
  refine fs_aloadn (j := 0) (by decide +kernel) rfl ?_
  refine fe_getR (idx := 28) (t := 7) (f := 2) (fk := 2) (fin := 1) (wp := 334) (x := 67) (by decide +kernel) (by decide +kernel) (by decide +kernel) (by decide +kernel) (by decide +kernel) ?_
  refine fe_getI (idx := 113) (t := 5) (f := 1) (fk := 0) (fin := 0) (wp := 288) (by decide +kernel) (by decide +kernel) (by decide +kernel) (by decide +kernel) ?_
  exact fe_retI (by decide +kernel) (by decide +kernel)
-- KitchenSiege.day(I)I
theorem b_X_day_0 {d : Nat} {x1 : Int32} {S : fm_S} {r : Option Value × am_W} (kt : x1 = (-1) → am_Ev d k_X_day 18 [some (.ref 0), some (.int x1)] [] (fm_mk S) r) (kf : ¬ x1 = (-1) → am_Ev d k_X_day 5 [some (.ref 0), some (.int x1)] [] (fm_mk S) r) : am_Ev d k_X_day 0 [some (.ref 0), some (.int x1)] [] (fm_mk S) r := by
  refine fs_iloadn (j := 1) (by decide +kernel) rfl ?_
  refine fs_iconst (n := -1) (v := (-1)) (by decide +kernel) (by decide) ?_
  exact fs_iceq (off := 16) (tgt := 18) (by decide +kernel) (by decide) kt kf
theorem b_X_day_5 {d : Nat} {x1 : Int32} {v : Int32} {S1 : fm_S} {S : fm_S} {r : Option Value × am_W} (hc : am_Sp d k_X_isDish [.ref 0, .int x1] (fm_mk S) (some (.int v)) (fm_mk S1)) (nx : am_Ev (d + 1) k_X_day 10 [some (.ref 0), some (.int x1)] [.int v] (fm_mk S1) r) : am_Ev (d + 1) k_X_day 5 [some (.ref 0), some (.int x1)] [] (fm_mk S) r := by
  refine fs_aloadn (j := 0) (by decide +kernel) rfl ?_
  refine fs_iloadn (j := 1) (by decide +kernel) rfl ?_
  exact fe_callV (t := 7) (idx := 116) (n := 1) (wp := 582) (q := (584, 16)) (as := [.int x1]) (rs := []) (by decide +kernel) (by decide +kernel) (by decide +kernel) (by decide +kernel) rfl (Nat.le_of_ble_eq_true rfl) rfl hc nx
theorem b_X_day_10 {d : Nat} {x1 : Int32} {sx0 : Int32} {S : fm_S} {r : Option Value × am_W} (kt : ¬ sx0 = 0 → am_Ev d k_X_day 18 [some (.ref 0), some (.int x1)] [] (fm_mk S) r) (kf : sx0 = 0 → am_Ev d k_X_day 13 [some (.ref 0), some (.int x1)] [] (fm_mk S) r) : am_Ev d k_X_day 10 [some (.ref 0), some (.int x1)] [.int sx0] (fm_mk S) r := by
  exact fs_ifne (off := 8) (tgt := 18) (by decide +kernel) (by decide) kt kf
theorem b_X_day_13 {d : Nat} {x1 : Int32} {v : Int32} {S1 : fm_S} {S : fm_S} {r : Option Value × am_W} (hc : am_Sp d k_X_bad [.ref 0] (fm_mk S) (some (.int v)) (fm_mk S1)) (nx : am_Ev (d + 1) k_X_day 17 [some (.ref 0), some (.int x1)] [.int v] (fm_mk S1) r) : am_Ev (d + 1) k_X_day 13 [some (.ref 0), some (.int x1)] [] (fm_mk S) r := by
  refine fs_aloadn (j := 0) (by decide +kernel) rfl ?_
  exact fe_callV (t := 7) (idx := 58) (n := 0) (wp := 373) (q := (375, 0)) (as := []) (rs := []) (by decide +kernel) (by decide +kernel) (by decide +kernel) (by decide +kernel) rfl (Nat.le_of_ble_eq_true rfl) rfl hc nx
theorem b_X_day_17 {d : Nat} {x1 : Int32} {sx0 : Int32} {S : fm_S}  : am_Ev d k_X_day 17 [some (.ref 0), some (.int x1)] [.int sx0] (fm_mk S) (some (.int sx0), fm_mk S) := by
  exact fe_retI (by decide +kernel) (by decide +kernel)
theorem b_X_day_18 {d : Nat} {x1 : Int32} {S1 : fm_S} {S : fm_S} {r : Option Value × am_W} (hc : am_Sp d k_Town_keepDays [.ref 1] (fm_mk S) (none) (fm_mk S1)) (nx : am_Ev (d + 1) k_X_day 25 [some (.ref 0), some (.int x1)] [] (fm_mk S1) r) : am_Ev (d + 1) k_X_day 18 [some (.ref 0), some (.int x1)] [] (fm_mk S) r := by
  refine fs_aloadn (j := 0) (by decide +kernel) rfl ?_
  refine fe_getR (idx := 10) (t := 7) (f := 0) (fk := 2) (fin := 1) (wp := 332) (x := 1) (by decide +kernel) (by decide +kernel) (by decide +kernel) (by decide +kernel) (by decide +kernel) ?_
  exact fe_callV (t := 6) (idx := 119) (n := 0) (wp := 586) (q := (587, 588)) (as := []) (rs := []) (by decide +kernel) (by decide +kernel) (by decide +kernel) (by decide +kernel) rfl (Nat.le_of_ble_eq_true rfl) rfl hc nx
theorem b_X_day_25 {d : Nat} {x1 : Int32} {v : Int32} {S1 : fm_S} {S : fm_S} {r : Option Value × am_W} (hc : am_Sp d k_Cook_pass [.ref 54, .ref 17, .int x1] (fm_mk S) (some (.int v)) (fm_mk S1)) (nx : am_Ev (d + 1) k_X_day 40 [some (.ref 0), some (.int x1)] [.int v] (fm_mk S1) r) : am_Ev (d + 1) k_X_day 25 [some (.ref 0), some (.int x1)] [] (fm_mk S) r := by
  refine fs_aloadn (j := 0) (by decide +kernel) rfl ?_
  refine fe_getR (idx := 21) (t := 7) (f := 1) (fk := 2) (fin := 1) (wp := 333) (x := 54) (by decide +kernel) (by decide +kernel) (by decide +kernel) (by decide +kernel) (by decide +kernel) ?_
  refine fs_aloadn (j := 0) (by decide +kernel) rfl ?_
  refine fe_getR (idx := 10) (t := 7) (f := 0) (fk := 2) (fin := 1) (wp := 332) (x := 1) (by decide +kernel) (by decide +kernel) (by decide +kernel) (by decide +kernel) (by decide +kernel) ?_
  refine fe_getR (idx := 122) (t := 6) (f := 12) (fk := 2) (fin := 1) (wp := 190) (x := 17) (by decide +kernel) (by decide +kernel) (by decide +kernel) (by decide +kernel) (by decide +kernel) ?_
  refine fs_iloadn (j := 1) (by decide +kernel) rfl ?_
  exact fe_callV (t := 1) (idx := 126) (n := 2) (wp := 590) (q := (591, 592)) (as := [.ref 17, .int x1]) (rs := []) (by decide +kernel) (by decide +kernel) (by decide +kernel) (by decide +kernel) rfl (Nat.le_of_ble_eq_true rfl) rfl hc nx
theorem b_X_day_40 {d : Nat} {x1 : Int32} {sx0 : Int32} {S : fm_S}  : am_Ev d k_X_day 40 [some (.ref 0), some (.int x1)] [.int sx0] (fm_mk S) (some (.int sx0), fm_mk S) := by
  exact fe_retI (by decide +kernel) (by decide +kernel)
-- KitchenSiege.isDish(I)Z
theorem b_X_isDish_0 {d : Nat} {x1 : Int32} {v : Int32} {S1 : fm_S} {S : fm_S} {r : Option Value × am_W} (hc : am_Sp d k_X_within [.int x1, .int 0, .int ((S.1 1 7) - 1)] (fm_mk S) (some (.int v)) (fm_mk S1)) (nx : am_Ev (d + 1) k_X_isDish 14 [some (.ref 0), some (.int x1)] [.int v] (fm_mk S1) r) : am_Ev (d + 1) k_X_isDish 0 [some (.ref 0), some (.int x1)] [] (fm_mk S) r := by
  refine fs_iloadn (j := 1) (by decide +kernel) rfl ?_
  refine fs_iconst (n := 0) (v := 0) (by decide +kernel) (by decide) ?_
  refine fs_aloadn (j := 0) (by decide +kernel) rfl ?_
  refine fe_getR (idx := 10) (t := 7) (f := 0) (fk := 2) (fin := 1) (wp := 332) (x := 1) (by decide +kernel) (by decide +kernel) (by decide +kernel) (by decide +kernel) (by decide +kernel) ?_
  refine fe_getI (idx := 244) (t := 6) (f := 7) (fk := 0) (fin := 0) (wp := 179) (by decide +kernel) (by decide +kernel) (by decide +kernel) (by decide +kernel) ?_
  refine fs_iconst (n := 1) (v := 1) (by decide +kernel) (by decide) ?_
  refine fs_isub (by decide +kernel) ?_
  exact fe_callS (idx := 54) (kd := 0) (n := 3) (wp := 370) (q := (371, 0)) (as := [.int x1, .int 0, .int ((S.1 1 7) - 1)]) (rs := []) (by decide +kernel) (by decide +kernel) (by decide +kernel) (by decide) rfl (Nat.le_of_ble_eq_true rfl) rfl hc nx
theorem b_X_isDish_14 {d : Nat} {x1 : Int32} {sx0 : Int32} {S : fm_S}  (hz : sx0 = 0 ∨ sx0 = 1) : am_Ev d k_X_isDish 14 [some (.ref 0), some (.int x1)] [.int sx0] (fm_mk S) (some (.int sx0), fm_mk S) := by
  exact fe_retZ (by decide +kernel) (by decide +kernel) hz
-- KitchenSiege.undo()I
theorem b_X_undo_0 {d : Nat} {v : Int32} {S1 : fm_S} {S : fm_S} {r : Option Value × am_W} (hc : am_Sp d k_Town_goBack [.ref 1] (fm_mk S) (some (.int v)) (fm_mk S1)) (nx : am_Ev (d + 1) k_X_undo 7 [some (.ref 0)] [.int v] (fm_mk S1) r) : am_Ev (d + 1) k_X_undo 0 [some (.ref 0)] [] (fm_mk S) r := by
  refine fs_aloadn (j := 0) (by decide +kernel) rfl ?_
  refine fe_getR (idx := 10) (t := 7) (f := 0) (fk := 2) (fin := 1) (wp := 332) (x := 1) (by decide +kernel) (by decide +kernel) (by decide +kernel) (by decide +kernel) (by decide +kernel) ?_
  exact fe_callV (t := 6) (idx := 130) (n := 0) (wp := 659) (q := (660, 661)) (as := []) (rs := []) (by decide +kernel) (by decide +kernel) (by decide +kernel) (by decide +kernel) rfl (Nat.le_of_ble_eq_true rfl) rfl hc nx
theorem b_X_undo_7 {d : Nat} {sx0 : Int32} {S : fm_S} {r : Option Value × am_W} (kt : sx0 = 0 → am_Ev d k_X_undo 23 [some (.ref 0)] [] (fm_mk S) r) (kf : ¬ sx0 = 0 → am_Ev d k_X_undo 10 [some (.ref 0)] [] (fm_mk S) r) : am_Ev d k_X_undo 7 [some (.ref 0)] [.int sx0] (fm_mk S) r := by
  exact fs_ifeq (off := 16) (tgt := 23) (by decide +kernel) (by decide) kt kf
theorem b_X_undo_10 {d : Nat} {S : fm_S} {r : Option Value × am_W} (nx : am_Ev d k_X_undo 27 [some (.ref 0)] [.int (S.1 17 0)] (fm_mk S) r) : am_Ev d k_X_undo 10 [some (.ref 0)] [] (fm_mk S) r := by
  refine fs_aloadn (j := 0) (by decide +kernel) rfl ?_
  refine fe_getR (idx := 10) (t := 7) (f := 0) (fk := 2) (fin := 1) (wp := 332) (x := 1) (by decide +kernel) (by decide +kernel) (by decide +kernel) (by decide +kernel) (by decide +kernel) ?_
  refine fe_getR (idx := 122) (t := 6) (f := 12) (fk := 2) (fin := 1) (wp := 190) (x := 17) (by decide +kernel) (by decide +kernel) (by decide +kernel) (by decide +kernel) (by decide +kernel) ?_
  refine fe_getI (idx := 134) (t := 2) (f := 0) (fk := 0) (fin := 0) (wp := 125) (by decide +kernel) (by decide +kernel) (by decide +kernel) (by decide +kernel) ?_
  refine fs_goto (off := 7) (tgt := 27) (by decide +kernel) (by decide) ?_
  exact nx
theorem b_X_undo_23 {d : Nat} {v : Int32} {S1 : fm_S} {S : fm_S} {r : Option Value × am_W} (hc : am_Sp d k_X_no [.ref 0] (fm_mk S) (some (.int v)) (fm_mk S1)) (nx : am_Ev (d + 1) k_X_undo 27 [some (.ref 0)] [.int v] (fm_mk S1) r) : am_Ev (d + 1) k_X_undo 23 [some (.ref 0)] [] (fm_mk S) r := by
  refine fs_aloadn (j := 0) (by decide +kernel) rfl ?_
  exact fe_callV (t := 7) (idx := 77) (n := 0) (wp := 400) (q := (402, 3)) (as := []) (rs := []) (by decide +kernel) (by decide +kernel) (by decide +kernel) (by decide +kernel) rfl (Nat.le_of_ble_eq_true rfl) rfl hc nx
theorem b_X_undo_27 {d : Nat} {sx0 : Int32} {S : fm_S}  : am_Ev d k_X_undo 27 [some (.ref 0)] [.int sx0] (fm_mk S) (some (.int sx0), fm_mk S) := by
  exact fe_retI (by decide +kernel) (by decide +kernel)
-- KitchenSiege.of(II)I
theorem b_X_of_0 {d : Nat} {x1 : Int32} {x2 : Int32} {v : Int32} {S1 : fm_S} {S : fm_S} {r : Option Value × am_W} (hc : am_Sp d k_X_isStreet [.ref 0, .int x1] (fm_mk S) (some (.int v)) (fm_mk S1)) (nx : am_Ev (d + 1) k_X_of 5 [some (.ref 0), some (.int x1), some (.int x2)] [.int v] (fm_mk S1) r) : am_Ev (d + 1) k_X_of 0 [some (.ref 0), some (.int x1), some (.int x2)] [] (fm_mk S) r := by
  refine fs_aloadn (j := 0) (by decide +kernel) rfl ?_
  refine fs_iloadn (j := 1) (by decide +kernel) rfl ?_
  exact fe_callV (t := 7) (idx := 69) (n := 1) (wp := 389) (q := (391, 2)) (as := [.int x1]) (rs := []) (by decide +kernel) (by decide +kernel) (by decide +kernel) (by decide +kernel) rfl (Nat.le_of_ble_eq_true rfl) rfl hc nx
theorem b_X_of_5 {d : Nat} {x1 : Int32} {x2 : Int32} {sx0 : Int32} {S : fm_S} {r : Option Value × am_W} (kt : ¬ sx0 = 0 → am_Ev d k_X_of 13 [some (.ref 0), some (.int x1), some (.int x2)] [] (fm_mk S) r) (kf : sx0 = 0 → am_Ev d k_X_of 8 [some (.ref 0), some (.int x1), some (.int x2)] [] (fm_mk S) r) : am_Ev d k_X_of 5 [some (.ref 0), some (.int x1), some (.int x2)] [.int sx0] (fm_mk S) r := by
  exact fs_ifne (off := 8) (tgt := 13) (by decide +kernel) (by decide) kt kf
theorem b_X_of_8 {d : Nat} {x1 : Int32} {x2 : Int32} {v : Int32} {S1 : fm_S} {S : fm_S} {r : Option Value × am_W} (hc : am_Sp d k_X_badTen [.ref 0] (fm_mk S) (some (.int v)) (fm_mk S1)) (nx : am_Ev (d + 1) k_X_of 12 [some (.ref 0), some (.int x1), some (.int x2)] [.int v] (fm_mk S1) r) : am_Ev (d + 1) k_X_of 8 [some (.ref 0), some (.int x1), some (.int x2)] [] (fm_mk S) r := by
  refine fs_aloadn (j := 0) (by decide +kernel) rfl ?_
  exact fe_callV (t := 7) (idx := 139) (n := 0) (wp := 667) (q := (669, 20)) (as := []) (rs := []) (by decide +kernel) (by decide +kernel) (by decide +kernel) (by decide +kernel) rfl (Nat.le_of_ble_eq_true rfl) rfl hc nx
theorem b_X_of_12 {d : Nat} {x1 : Int32} {x2 : Int32} {sx0 : Int32} {S : fm_S}  : am_Ev d k_X_of 12 [some (.ref 0), some (.int x1), some (.int x2)] [.int sx0] (fm_mk S) (some (.int sx0), fm_mk S) := by
  exact fe_retI (by decide +kernel) (by decide +kernel)
theorem b_X_of_13 {d : Nat} {x1 : Int32} {x2 : Int32} {S : fm_S} {r : Option Value × am_W} (k0 : x2 = 0 → am_Ev d k_X_of 52 [some (.ref 0), some (.int x1), some (.int x2)] [] (fm_mk S) r) (k1 : x2 = 1 → am_Ev d k_X_of 62 [some (.ref 0), some (.int x1), some (.int x2)] [] (fm_mk S) r) (k2 : x2 = 2 → am_Ev d k_X_of 72 [some (.ref 0), some (.int x1), some (.int x2)] [] (fm_mk S) r) (k3 : x2 = 3 → am_Ev d k_X_of 82 [some (.ref 0), some (.int x1), some (.int x2)] [] (fm_mk S) r) (k4 : x2 = 4 → am_Ev d k_X_of 95 [some (.ref 0), some (.int x1), some (.int x2)] [] (fm_mk S) r) (k5 : x2 = 5 → am_Ev d k_X_of 108 [some (.ref 0), some (.int x1), some (.int x2)] [] (fm_mk S) r) (kd : ¬ x2 = 0 → ¬ x2 = 1 → ¬ x2 = 2 → ¬ x2 = 3 → ¬ x2 = 4 → ¬ x2 = 5 → am_Ev d k_X_of 121 [some (.ref 0), some (.int x1), some (.int x2)] [] (fm_mk S) r) : am_Ev d k_X_of 13 [some (.ref 0), some (.int x1), some (.int x2)] [] (fm_mk S) r := by
  refine fs_iloadn (j := 2) (by decide +kernel) rfl ?_
  by_cases c0 : x2 = 0
  · exact fs_sw (i := .tableswitch 107 0 5 #[38, 48, 58, 68, 81, 94]) (z := 38) (by decide +kernel) rfl (by rw [c0]; rfl) (k0 c0)
  by_cases c1 : x2 = 1
  · exact fs_sw (i := .tableswitch 107 0 5 #[38, 48, 58, 68, 81, 94]) (z := 38) (by decide +kernel) rfl (by rw [c1]; rfl) (k1 c1)
  by_cases c2 : x2 = 2
  · exact fs_sw (i := .tableswitch 107 0 5 #[38, 48, 58, 68, 81, 94]) (z := 38) (by decide +kernel) rfl (by rw [c2]; rfl) (k2 c2)
  by_cases c3 : x2 = 3
  · exact fs_sw (i := .tableswitch 107 0 5 #[38, 48, 58, 68, 81, 94]) (z := 38) (by decide +kernel) rfl (by rw [c3]; rfl) (k3 c3)
  by_cases c4 : x2 = 4
  · exact fs_sw (i := .tableswitch 107 0 5 #[38, 48, 58, 68, 81, 94]) (z := 38) (by decide +kernel) rfl (by rw [c4]; rfl) (k4 c4)
  by_cases c5 : x2 = 5
  · exact fs_sw (i := .tableswitch 107 0 5 #[38, 48, 58, 68, 81, 94]) (z := 38) (by decide +kernel) rfl (by rw [c5]; rfl) (k5 c5)
  have e0 : ¬ (x2).toInt = 0 := fun q => c0 (Int32.toInt_inj.mp (q.trans (by decide)))
  have e1 : ¬ (x2).toInt = 1 := fun q => c1 (Int32.toInt_inj.mp (q.trans (by decide)))
  have e2 : ¬ (x2).toInt = 2 := fun q => c2 (Int32.toInt_inj.mp (q.trans (by decide)))
  have e3 : ¬ (x2).toInt = 3 := fun q => c3 (Int32.toInt_inj.mp (q.trans (by decide)))
  have e4 : ¬ (x2).toInt = 4 := fun q => c4 (Int32.toInt_inj.mp (q.trans (by decide)))
  have e5 : ¬ (x2).toInt = 5 := fun q => c5 (Int32.toInt_inj.mp (q.trans (by decide)))
  exact fs_tout (dflt := 107) (lo := 0) (hi := 5) (offs := #[38, 48, 58, 68, 81, 94]) (z := 38) (by decide +kernel) (by omega) (by decide) (kd c0 c1 c2 c3 c4 c5)
theorem b_X_of_52 {d : Nat} {x1 : Int32} {x2 : Int32} {S : fm_S}  (hi0 : vp_in x1 8) : am_Ev d k_X_of 52 [some (.ref 0), some (.int x1), some (.int x2)] [] (fm_mk S) (some (.int (S.1 2 x1.toNatClampNeg)), fm_mk S) := by
  refine fs_aloadn (j := 0) (by decide +kernel) rfl ?_
  refine fe_getR (idx := 10) (t := 7) (f := 0) (fk := 2) (fin := 1) (wp := 332) (x := 1) (by decide +kernel) (by decide +kernel) (by decide +kernel) (by decide +kernel) (by decide +kernel) ?_
  refine fe_getR (idx := 142) (t := 6) (f := 1) (fk := 2) (fin := 1) (wp := 162) (x := 2) (by decide +kernel) (by decide +kernel) (by decide +kernel) (by decide +kernel) (by decide +kernel) ?_
  refine fs_iloadn (j := 1) (by decide +kernel) rfl ?_
  refine fx_iald (n := x1.toNatClampNeg) (len := 8) (by decide +kernel) (by decide +kernel) (by decide +kernel) hi0 rfl ?_
  exact fe_retI (by decide +kernel) (by decide +kernel)
theorem b_X_of_62 {d : Nat} {x1 : Int32} {x2 : Int32} {S : fm_S}  (hi0 : vp_in x1 8) : am_Ev d k_X_of 62 [some (.ref 0), some (.int x1), some (.int x2)] [] (fm_mk S) (some (.int (S.1 3 x1.toNatClampNeg)), fm_mk S) := by
  refine fs_aloadn (j := 0) (by decide +kernel) rfl ?_
  refine fe_getR (idx := 10) (t := 7) (f := 0) (fk := 2) (fin := 1) (wp := 332) (x := 1) (by decide +kernel) (by decide +kernel) (by decide +kernel) (by decide +kernel) (by decide +kernel) ?_
  refine fe_getR (idx := 145) (t := 6) (f := 2) (fk := 2) (fin := 1) (wp := 165) (x := 3) (by decide +kernel) (by decide +kernel) (by decide +kernel) (by decide +kernel) (by decide +kernel) ?_
  refine fs_iloadn (j := 1) (by decide +kernel) rfl ?_
  refine fx_iald (n := x1.toNatClampNeg) (len := 8) (by decide +kernel) (by decide +kernel) (by decide +kernel) hi0 rfl ?_
  exact fe_retI (by decide +kernel) (by decide +kernel)
theorem b_X_of_72 {d : Nat} {x1 : Int32} {x2 : Int32} {S : fm_S}  (hi0 : vp_in x1 8) : am_Ev d k_X_of 72 [some (.ref 0), some (.int x1), some (.int x2)] [] (fm_mk S) (some (.int (S.1 4 x1.toNatClampNeg)), fm_mk S) := by
  refine fs_aloadn (j := 0) (by decide +kernel) rfl ?_
  refine fe_getR (idx := 10) (t := 7) (f := 0) (fk := 2) (fin := 1) (wp := 332) (x := 1) (by decide +kernel) (by decide +kernel) (by decide +kernel) (by decide +kernel) (by decide +kernel) ?_
  refine fe_getR (idx := 148) (t := 6) (f := 3) (fk := 2) (fin := 1) (wp := 167) (x := 4) (by decide +kernel) (by decide +kernel) (by decide +kernel) (by decide +kernel) (by decide +kernel) ?_
  refine fs_iloadn (j := 1) (by decide +kernel) rfl ?_
  refine fx_iald (n := x1.toNatClampNeg) (len := 8) (by decide +kernel) (by decide +kernel) (by decide +kernel) hi0 rfl ?_
  exact fe_retI (by decide +kernel) (by decide +kernel)
theorem b_X_of_82 {d : Nat} {x1 : Int32} {x2 : Int32} {S : fm_S}  (hi0 : vp_in x1 8) : am_Ev d k_X_of 82 [some (.ref 0), some (.int x1), some (.int x2)] [] (fm_mk S) (some (.int (S.1 18 x1.toNatClampNeg)), fm_mk S) := by
  refine fs_aloadn (j := 0) (by decide +kernel) rfl ?_
  refine fe_getR (idx := 10) (t := 7) (f := 0) (fk := 2) (fin := 1) (wp := 332) (x := 1) (by decide +kernel) (by decide +kernel) (by decide +kernel) (by decide +kernel) (by decide +kernel) ?_
  refine fe_getR (idx := 122) (t := 6) (f := 12) (fk := 2) (fin := 1) (wp := 190) (x := 17) (by decide +kernel) (by decide +kernel) (by decide +kernel) (by decide +kernel) (by decide +kernel) ?_
  refine fe_getR (idx := 151) (t := 2) (f := 1) (fk := 2) (fin := 1) (wp := 128) (x := 18) (by decide +kernel) (by decide +kernel) (by decide +kernel) (by decide +kernel) (by decide +kernel) ?_
  refine fs_iloadn (j := 1) (by decide +kernel) rfl ?_
  refine fx_iald (n := x1.toNatClampNeg) (len := 8) (by decide +kernel) (by decide +kernel) (by decide +kernel) hi0 rfl ?_
  exact fe_retI (by decide +kernel) (by decide +kernel)
theorem b_X_of_95 {d : Nat} {x1 : Int32} {x2 : Int32} {S : fm_S}  (hi0 : vp_in x1 8) : am_Ev d k_X_of 95 [some (.ref 0), some (.int x1), some (.int x2)] [] (fm_mk S) (some (.int (S.1 19 x1.toNatClampNeg)), fm_mk S) := by
  refine fs_aloadn (j := 0) (by decide +kernel) rfl ?_
  refine fe_getR (idx := 10) (t := 7) (f := 0) (fk := 2) (fin := 1) (wp := 332) (x := 1) (by decide +kernel) (by decide +kernel) (by decide +kernel) (by decide +kernel) (by decide +kernel) ?_
  refine fe_getR (idx := 122) (t := 6) (f := 12) (fk := 2) (fin := 1) (wp := 190) (x := 17) (by decide +kernel) (by decide +kernel) (by decide +kernel) (by decide +kernel) (by decide +kernel) ?_
  refine fe_getR (idx := 154) (t := 2) (f := 2) (fk := 2) (fin := 1) (wp := 132) (x := 19) (by decide +kernel) (by decide +kernel) (by decide +kernel) (by decide +kernel) (by decide +kernel) ?_
  refine fs_iloadn (j := 1) (by decide +kernel) rfl ?_
  refine fx_iald (n := x1.toNatClampNeg) (len := 8) (by decide +kernel) (by decide +kernel) (by decide +kernel) hi0 rfl ?_
  exact fe_retI (by decide +kernel) (by decide +kernel)
theorem b_X_of_108 {d : Nat} {x1 : Int32} {x2 : Int32} {S : fm_S}  (hi0 : vp_in x1 8) : am_Ev d k_X_of 108 [some (.ref 0), some (.int x1), some (.int x2)] [] (fm_mk S) (some (.int (S.1 20 x1.toNatClampNeg)), fm_mk S) := by
  refine fs_aloadn (j := 0) (by decide +kernel) rfl ?_
  refine fe_getR (idx := 10) (t := 7) (f := 0) (fk := 2) (fin := 1) (wp := 332) (x := 1) (by decide +kernel) (by decide +kernel) (by decide +kernel) (by decide +kernel) (by decide +kernel) ?_
  refine fe_getR (idx := 122) (t := 6) (f := 12) (fk := 2) (fin := 1) (wp := 190) (x := 17) (by decide +kernel) (by decide +kernel) (by decide +kernel) (by decide +kernel) (by decide +kernel) ?_
  refine fe_getR (idx := 157) (t := 2) (f := 3) (fk := 2) (fin := 1) (wp := 136) (x := 20) (by decide +kernel) (by decide +kernel) (by decide +kernel) (by decide +kernel) (by decide +kernel) ?_
  refine fs_iloadn (j := 1) (by decide +kernel) rfl ?_
  refine fx_iald (n := x1.toNatClampNeg) (len := 8) (by decide +kernel) (by decide +kernel) (by decide +kernel) hi0 rfl ?_
  exact fe_retI (by decide +kernel) (by decide +kernel)
theorem b_X_of_121 {d : Nat} {x1 : Int32} {x2 : Int32} {v : Int32} {S1 : fm_S} {S : fm_S} {r : Option Value × am_W} (hc : am_Sp d k_X_badTen [.ref 0] (fm_mk S) (some (.int v)) (fm_mk S1)) (nx : am_Ev (d + 1) k_X_of 125 [some (.ref 0), some (.int x1), some (.int x2)] [.int v] (fm_mk S1) r) : am_Ev (d + 1) k_X_of 121 [some (.ref 0), some (.int x1), some (.int x2)] [] (fm_mk S) r := by
  refine fs_aloadn (j := 0) (by decide +kernel) rfl ?_
  exact fe_callV (t := 7) (idx := 139) (n := 0) (wp := 667) (q := (669, 20)) (as := []) (rs := []) (by decide +kernel) (by decide +kernel) (by decide +kernel) (by decide +kernel) rfl (Nat.le_of_ble_eq_true rfl) rfl hc nx
theorem b_X_of_125 {d : Nat} {x1 : Int32} {x2 : Int32} {sx0 : Int32} {S : fm_S}  : am_Ev d k_X_of 125 [some (.ref 0), some (.int x1), some (.int x2)] [.int sx0] (fm_mk S) (some (.int sx0), fm_mk S) := by
  exact fe_retI (by decide +kernel) (by decide +kernel)
-- KitchenSiege.badTen()I
theorem b_X_badTen_0 {d : Nat} {S : fm_S}  : am_Ev d k_X_badTen 0 [some (.ref 0)] [] (fm_mk S) (some (.int (-10)), fm_mk (fm_wI S 0 6 ((S.1 0 6) + 1))) := by
  refine fs_aloadn (j := 0) (by decide +kernel) rfl ?_
  refine fs_dup (by decide +kernel) rfl ?_
  refine fe_getI (idx := 235) (t := 7) (f := 6) (fk := 0) (fin := 0) (wp := 338) (by decide +kernel) (by decide +kernel) (by decide +kernel) (by decide +kernel) ?_
  refine fs_iconst (n := 1) (v := 1) (by decide +kernel) (by decide) ?_
  refine fs_iadd (by decide +kernel) ?_
  refine fe_putI (idx := 235) (t := 7) (f := 6) (wp := 338) (by decide +kernel) (by decide +kernel) (by decide +kernel) (by decide +kernel) ?_
  refine fs_bipush (n := -10) (v := (-10)) (by decide +kernel) (by decide) ?_
  exact fe_retI (by decide +kernel) (by decide +kernel)
-- KitchenSiege.smells(III)I
theorem b_X_smells_0 {d : Nat} {x1 : Int32} {x2 : Int32} {x3 : Int32} {v : Int32} {S1 : fm_S} {S : fm_S} {r : Option Value × am_W} (hc : am_Sp d k_X_isDish [.ref 0, .int x1] (fm_mk S) (some (.int v)) (fm_mk S1)) (nx : am_Ev (d + 1) k_X_smells 5 [some (.ref 0), some (.int x1), some (.int x2), some (.int x3)] [.int v] (fm_mk S1) r) : am_Ev (d + 1) k_X_smells 0 [some (.ref 0), some (.int x1), some (.int x2), some (.int x3)] [] (fm_mk S) r := by
  refine fs_aloadn (j := 0) (by decide +kernel) rfl ?_
  refine fs_iloadn (j := 1) (by decide +kernel) rfl ?_
  exact fe_callV (t := 7) (idx := 116) (n := 1) (wp := 582) (q := (584, 16)) (as := [.int x1]) (rs := []) (by decide +kernel) (by decide +kernel) (by decide +kernel) (by decide +kernel) rfl (Nat.le_of_ble_eq_true rfl) rfl hc nx
theorem b_X_smells_5 {d : Nat} {x1 : Int32} {x2 : Int32} {x3 : Int32} {sx0 : Int32} {S : fm_S} {r : Option Value × am_W} (kt : sx0 = 0 → am_Ev d k_X_smells 23 [some (.ref 0), some (.int x1), some (.int x2), some (.int x3)] [] (fm_mk S) r) (kf : ¬ sx0 = 0 → am_Ev d k_X_smells 8 [some (.ref 0), some (.int x1), some (.int x2), some (.int x3)] [] (fm_mk S) r) : am_Ev d k_X_smells 5 [some (.ref 0), some (.int x1), some (.int x2), some (.int x3)] [.int sx0] (fm_mk S) r := by
  exact fs_ifeq (off := 18) (tgt := 23) (by decide +kernel) (by decide) kt kf
theorem b_X_smells_8 {d : Nat} {x1 : Int32} {x2 : Int32} {x3 : Int32} {v : Int32} {S1 : fm_S} {S : fm_S} {r : Option Value × am_W} (hc : am_Sp d k_X_isWind [.int x2] (fm_mk S) (some (.int v)) (fm_mk S1)) (nx : am_Ev (d + 1) k_X_smells 12 [some (.ref 0), some (.int x1), some (.int x2), some (.int x3)] [.int v] (fm_mk S1) r) : am_Ev (d + 1) k_X_smells 8 [some (.ref 0), some (.int x1), some (.int x2), some (.int x3)] [] (fm_mk S) r := by
  refine fs_iloadn (j := 2) (by decide +kernel) rfl ?_
  exact fe_callS (idx := 84) (kd := 0) (n := 1) (wp := 412) (q := (413, 0)) (as := [.int x2]) (rs := []) (by decide +kernel) (by decide +kernel) (by decide +kernel) (by decide) rfl (Nat.le_of_ble_eq_true rfl) rfl hc nx
theorem b_X_smells_12 {d : Nat} {x1 : Int32} {x2 : Int32} {x3 : Int32} {sx0 : Int32} {S : fm_S} {r : Option Value × am_W} (kt : sx0 = 0 → am_Ev d k_X_smells 23 [some (.ref 0), some (.int x1), some (.int x2), some (.int x3)] [] (fm_mk S) r) (kf : ¬ sx0 = 0 → am_Ev d k_X_smells 15 [some (.ref 0), some (.int x1), some (.int x2), some (.int x3)] [] (fm_mk S) r) : am_Ev d k_X_smells 12 [some (.ref 0), some (.int x1), some (.int x2), some (.int x3)] [.int sx0] (fm_mk S) r := by
  exact fs_ifeq (off := 11) (tgt := 23) (by decide +kernel) (by decide) kt kf
theorem b_X_smells_15 {d : Nat} {x1 : Int32} {x2 : Int32} {x3 : Int32} {v : Int32} {S1 : fm_S} {S : fm_S} {r : Option Value × am_W} (hc : am_Sp d k_X_isStreet [.ref 0, .int x3] (fm_mk S) (some (.int v)) (fm_mk S1)) (nx : am_Ev (d + 1) k_X_smells 20 [some (.ref 0), some (.int x1), some (.int x2), some (.int x3)] [.int v] (fm_mk S1) r) : am_Ev (d + 1) k_X_smells 15 [some (.ref 0), some (.int x1), some (.int x2), some (.int x3)] [] (fm_mk S) r := by
  refine fs_aloadn (j := 0) (by decide +kernel) rfl ?_
  refine fs_iloadn (j := 3) (by decide +kernel) rfl ?_
  exact fe_callV (t := 7) (idx := 69) (n := 1) (wp := 389) (q := (391, 2)) (as := [.int x3]) (rs := []) (by decide +kernel) (by decide +kernel) (by decide +kernel) (by decide +kernel) rfl (Nat.le_of_ble_eq_true rfl) rfl hc nx
theorem b_X_smells_20 {d : Nat} {x1 : Int32} {x2 : Int32} {x3 : Int32} {sx0 : Int32} {S : fm_S} {r : Option Value × am_W} (kt : ¬ sx0 = 0 → am_Ev d k_X_smells 28 [some (.ref 0), some (.int x1), some (.int x2), some (.int x3)] [] (fm_mk S) r) (kf : sx0 = 0 → am_Ev d k_X_smells 23 [some (.ref 0), some (.int x1), some (.int x2), some (.int x3)] [] (fm_mk S) r) : am_Ev d k_X_smells 20 [some (.ref 0), some (.int x1), some (.int x2), some (.int x3)] [.int sx0] (fm_mk S) r := by
  exact fs_ifne (off := 8) (tgt := 28) (by decide +kernel) (by decide) kt kf
theorem b_X_smells_23 {d : Nat} {x1 : Int32} {x2 : Int32} {x3 : Int32} {v : Int32} {S1 : fm_S} {S : fm_S} {r : Option Value × am_W} (hc : am_Sp d k_X_bad [.ref 0] (fm_mk S) (some (.int v)) (fm_mk S1)) (nx : am_Ev (d + 1) k_X_smells 27 [some (.ref 0), some (.int x1), some (.int x2), some (.int x3)] [.int v] (fm_mk S1) r) : am_Ev (d + 1) k_X_smells 23 [some (.ref 0), some (.int x1), some (.int x2), some (.int x3)] [] (fm_mk S) r := by
  refine fs_aloadn (j := 0) (by decide +kernel) rfl ?_
  exact fe_callV (t := 7) (idx := 58) (n := 0) (wp := 373) (q := (375, 0)) (as := []) (rs := []) (by decide +kernel) (by decide +kernel) (by decide +kernel) (by decide +kernel) rfl (Nat.le_of_ble_eq_true rfl) rfl hc nx
theorem b_X_smells_27 {d : Nat} {x1 : Int32} {x2 : Int32} {x3 : Int32} {sx0 : Int32} {S : fm_S}  : am_Ev d k_X_smells 27 [some (.ref 0), some (.int x1), some (.int x2), some (.int x3)] [.int sx0] (fm_mk S) (some (.int sx0), fm_mk S) := by
  exact fe_retI (by decide +kernel) (by decide +kernel)
theorem b_X_smells_28 {d : Nat} {x1 : Int32} {x2 : Int32} {x3 : Int32} {v : Int32} {S1 : fm_S} {S : fm_S} {r : Option Value × am_W} (hc : am_Sp d k_Cook_strength [.ref 54, .int x1, .int x2, .int x3] (fm_mk S) (some (.int v)) (fm_mk S1)) (nx : am_Ev (d + 1) k_X_smells 38 [some (.ref 0), some (.int x1), some (.int x2), some (.int x3)] [.int v] (fm_mk S1) r) : am_Ev (d + 1) k_X_smells 28 [some (.ref 0), some (.int x1), some (.int x2), some (.int x3)] [] (fm_mk S) r := by
  refine fs_aloadn (j := 0) (by decide +kernel) rfl ?_
  refine fe_getR (idx := 21) (t := 7) (f := 1) (fk := 2) (fin := 1) (wp := 333) (x := 54) (by decide +kernel) (by decide +kernel) (by decide +kernel) (by decide +kernel) (by decide +kernel) ?_
  refine fs_iloadn (j := 1) (by decide +kernel) rfl ?_
  refine fs_iloadn (j := 2) (by decide +kernel) rfl ?_
  refine fs_iloadn (j := 3) (by decide +kernel) rfl ?_
  exact fe_callV (t := 1) (idx := 160) (n := 3) (wp := 675) (q := (676, 677)) (as := [.int x1, .int x2, .int x3]) (rs := []) (by decide +kernel) (by decide +kernel) (by decide +kernel) (by decide +kernel) rfl (Nat.le_of_ble_eq_true rfl) rfl hc nx
theorem b_X_smells_38 {d : Nat} {x1 : Int32} {x2 : Int32} {x3 : Int32} {sx0 : Int32} {S : fm_S}  : am_Ev d k_X_smells 38 [some (.ref 0), some (.int x1), some (.int x2), some (.int x3)] [.int sx0] (fm_mk S) (some (.int sx0), fm_mk S) := by
  exact fe_retI (by decide +kernel) (by decide +kernel)
-- KitchenSiege.moved(II)I
theorem b_X_moved_0 {d : Nat} {x1 : Int32} {x2 : Int32} {v : Int32} {S1 : fm_S} {S : fm_S} {r : Option Value × am_W} (hc : am_Sp d k_X_isDish [.ref 0, .int x1] (fm_mk S) (some (.int v)) (fm_mk S1)) (nx : am_Ev (d + 1) k_X_moved 5 [some (.ref 0), some (.int x1), some (.int x2)] [.int v] (fm_mk S1) r) : am_Ev (d + 1) k_X_moved 0 [some (.ref 0), some (.int x1), some (.int x2)] [] (fm_mk S) r := by
  refine fs_aloadn (j := 0) (by decide +kernel) rfl ?_
  refine fs_iloadn (j := 1) (by decide +kernel) rfl ?_
  exact fe_callV (t := 7) (idx := 116) (n := 1) (wp := 582) (q := (584, 16)) (as := [.int x1]) (rs := []) (by decide +kernel) (by decide +kernel) (by decide +kernel) (by decide +kernel) rfl (Nat.le_of_ble_eq_true rfl) rfl hc nx
theorem b_X_moved_5 {d : Nat} {x1 : Int32} {x2 : Int32} {sx0 : Int32} {S : fm_S} {r : Option Value × am_W} (kt : sx0 = 0 → am_Ev d k_X_moved 16 [some (.ref 0), some (.int x1), some (.int x2)] [] (fm_mk S) r) (kf : ¬ sx0 = 0 → am_Ev d k_X_moved 8 [some (.ref 0), some (.int x1), some (.int x2)] [] (fm_mk S) r) : am_Ev d k_X_moved 5 [some (.ref 0), some (.int x1), some (.int x2)] [.int sx0] (fm_mk S) r := by
  exact fs_ifeq (off := 11) (tgt := 16) (by decide +kernel) (by decide) kt kf
theorem b_X_moved_8 {d : Nat} {x1 : Int32} {x2 : Int32} {v : Int32} {S1 : fm_S} {S : fm_S} {r : Option Value × am_W} (hc : am_Sp d k_X_isStreet [.ref 0, .int x2] (fm_mk S) (some (.int v)) (fm_mk S1)) (nx : am_Ev (d + 1) k_X_moved 13 [some (.ref 0), some (.int x1), some (.int x2)] [.int v] (fm_mk S1) r) : am_Ev (d + 1) k_X_moved 8 [some (.ref 0), some (.int x1), some (.int x2)] [] (fm_mk S) r := by
  refine fs_aloadn (j := 0) (by decide +kernel) rfl ?_
  refine fs_iloadn (j := 2) (by decide +kernel) rfl ?_
  exact fe_callV (t := 7) (idx := 69) (n := 1) (wp := 389) (q := (391, 2)) (as := [.int x2]) (rs := []) (by decide +kernel) (by decide +kernel) (by decide +kernel) (by decide +kernel) rfl (Nat.le_of_ble_eq_true rfl) rfl hc nx
theorem b_X_moved_13 {d : Nat} {x1 : Int32} {x2 : Int32} {sx0 : Int32} {S : fm_S} {r : Option Value × am_W} (kt : ¬ sx0 = 0 → am_Ev d k_X_moved 21 [some (.ref 0), some (.int x1), some (.int x2)] [] (fm_mk S) r) (kf : sx0 = 0 → am_Ev d k_X_moved 16 [some (.ref 0), some (.int x1), some (.int x2)] [] (fm_mk S) r) : am_Ev d k_X_moved 13 [some (.ref 0), some (.int x1), some (.int x2)] [.int sx0] (fm_mk S) r := by
  exact fs_ifne (off := 8) (tgt := 21) (by decide +kernel) (by decide) kt kf
theorem b_X_moved_16 {d : Nat} {x1 : Int32} {x2 : Int32} {v : Int32} {S1 : fm_S} {S : fm_S} {r : Option Value × am_W} (hc : am_Sp d k_X_bad [.ref 0] (fm_mk S) (some (.int v)) (fm_mk S1)) (nx : am_Ev (d + 1) k_X_moved 20 [some (.ref 0), some (.int x1), some (.int x2)] [.int v] (fm_mk S1) r) : am_Ev (d + 1) k_X_moved 16 [some (.ref 0), some (.int x1), some (.int x2)] [] (fm_mk S) r := by
  refine fs_aloadn (j := 0) (by decide +kernel) rfl ?_
  exact fe_callV (t := 7) (idx := 58) (n := 0) (wp := 373) (q := (375, 0)) (as := []) (rs := []) (by decide +kernel) (by decide +kernel) (by decide +kernel) (by decide +kernel) rfl (Nat.le_of_ble_eq_true rfl) rfl hc nx
theorem b_X_moved_20 {d : Nat} {x1 : Int32} {x2 : Int32} {sx0 : Int32} {S : fm_S}  : am_Ev d k_X_moved 20 [some (.ref 0), some (.int x1), some (.int x2)] [.int sx0] (fm_mk S) (some (.int sx0), fm_mk S) := by
  exact fe_retI (by decide +kernel) (by decide +kernel)
theorem b_X_moved_21 {d : Nat} {x1 : Int32} {x2 : Int32} {v : Int32} {S1 : fm_S} {S : fm_S} {r : Option Value × am_W} (hc : am_Sp d k_Cook_pullNow [.ref 54, .int x1, .int x2] (fm_mk S) (some (.int v)) (fm_mk S1)) (nx : am_Ev (d + 1) k_X_moved 30 [some (.ref 0), some (.int x1), some (.int x2)] [.int v] (fm_mk S1) r) : am_Ev (d + 1) k_X_moved 21 [some (.ref 0), some (.int x1), some (.int x2)] [] (fm_mk S) r := by
  refine fs_aloadn (j := 0) (by decide +kernel) rfl ?_
  refine fe_getR (idx := 21) (t := 7) (f := 1) (fk := 2) (fin := 1) (wp := 333) (x := 54) (by decide +kernel) (by decide +kernel) (by decide +kernel) (by decide +kernel) (by decide +kernel) ?_
  refine fs_iloadn (j := 1) (by decide +kernel) rfl ?_
  refine fs_iloadn (j := 2) (by decide +kernel) rfl ?_
  exact fe_callV (t := 1) (idx := 163) (n := 2) (wp := 683) (q := (684, 685)) (as := [.int x1, .int x2]) (rs := []) (by decide +kernel) (by decide +kernel) (by decide +kernel) (by decide +kernel) rfl (Nat.le_of_ble_eq_true rfl) rfl hc nx
theorem b_X_moved_30 {d : Nat} {x1 : Int32} {x2 : Int32} {sx0 : Int32} {S : fm_S}  : am_Ev d k_X_moved 30 [some (.ref 0), some (.int x1), some (.int x2)] [.int sx0] (fm_mk S) (some (.int sx0), fm_mk S) := by
  exact fe_retI (by decide +kernel) (by decide +kernel)
-- KitchenSiege.falls(II)I
theorem b_X_falls_0 {d : Nat} {x1 : Int32} {x2 : Int32} {v : Int32} {S1 : fm_S} {S : fm_S} {r : Option Value × am_W} (hc : am_Sp d k_X_isDish [.ref 0, .int x1] (fm_mk S) (some (.int v)) (fm_mk S1)) (nx : am_Ev (d + 1) k_X_falls 5 [some (.ref 0), some (.int x1), some (.int x2)] [.int v] (fm_mk S1) r) : am_Ev (d + 1) k_X_falls 0 [some (.ref 0), some (.int x1), some (.int x2)] [] (fm_mk S) r := by
  refine fs_aloadn (j := 0) (by decide +kernel) rfl ?_
  refine fs_iloadn (j := 1) (by decide +kernel) rfl ?_
  exact fe_callV (t := 7) (idx := 116) (n := 1) (wp := 582) (q := (584, 16)) (as := [.int x1]) (rs := []) (by decide +kernel) (by decide +kernel) (by decide +kernel) (by decide +kernel) rfl (Nat.le_of_ble_eq_true rfl) rfl hc nx
theorem b_X_falls_5 {d : Nat} {x1 : Int32} {x2 : Int32} {sx0 : Int32} {S : fm_S} {r : Option Value × am_W} (kt : sx0 = 0 → am_Ev d k_X_falls 16 [some (.ref 0), some (.int x1), some (.int x2)] [] (fm_mk S) r) (kf : ¬ sx0 = 0 → am_Ev d k_X_falls 8 [some (.ref 0), some (.int x1), some (.int x2)] [] (fm_mk S) r) : am_Ev d k_X_falls 5 [some (.ref 0), some (.int x1), some (.int x2)] [.int sx0] (fm_mk S) r := by
  exact fs_ifeq (off := 11) (tgt := 16) (by decide +kernel) (by decide) kt kf
theorem b_X_falls_8 {d : Nat} {x1 : Int32} {x2 : Int32} {v : Int32} {S1 : fm_S} {S : fm_S} {r : Option Value × am_W} (hc : am_Sp d k_X_isStreet [.ref 0, .int x2] (fm_mk S) (some (.int v)) (fm_mk S1)) (nx : am_Ev (d + 1) k_X_falls 13 [some (.ref 0), some (.int x1), some (.int x2)] [.int v] (fm_mk S1) r) : am_Ev (d + 1) k_X_falls 8 [some (.ref 0), some (.int x1), some (.int x2)] [] (fm_mk S) r := by
  refine fs_aloadn (j := 0) (by decide +kernel) rfl ?_
  refine fs_iloadn (j := 2) (by decide +kernel) rfl ?_
  exact fe_callV (t := 7) (idx := 69) (n := 1) (wp := 389) (q := (391, 2)) (as := [.int x2]) (rs := []) (by decide +kernel) (by decide +kernel) (by decide +kernel) (by decide +kernel) rfl (Nat.le_of_ble_eq_true rfl) rfl hc nx
theorem b_X_falls_13 {d : Nat} {x1 : Int32} {x2 : Int32} {sx0 : Int32} {S : fm_S} {r : Option Value × am_W} (kt : ¬ sx0 = 0 → am_Ev d k_X_falls 21 [some (.ref 0), some (.int x1), some (.int x2)] [] (fm_mk S) r) (kf : sx0 = 0 → am_Ev d k_X_falls 16 [some (.ref 0), some (.int x1), some (.int x2)] [] (fm_mk S) r) : am_Ev d k_X_falls 13 [some (.ref 0), some (.int x1), some (.int x2)] [.int sx0] (fm_mk S) r := by
  exact fs_ifne (off := 8) (tgt := 21) (by decide +kernel) (by decide) kt kf
theorem b_X_falls_16 {d : Nat} {x1 : Int32} {x2 : Int32} {v : Int32} {S1 : fm_S} {S : fm_S} {r : Option Value × am_W} (hc : am_Sp d k_X_bad [.ref 0] (fm_mk S) (some (.int v)) (fm_mk S1)) (nx : am_Ev (d + 1) k_X_falls 20 [some (.ref 0), some (.int x1), some (.int x2)] [.int v] (fm_mk S1) r) : am_Ev (d + 1) k_X_falls 16 [some (.ref 0), some (.int x1), some (.int x2)] [] (fm_mk S) r := by
  refine fs_aloadn (j := 0) (by decide +kernel) rfl ?_
  exact fe_callV (t := 7) (idx := 58) (n := 0) (wp := 373) (q := (375, 0)) (as := []) (rs := []) (by decide +kernel) (by decide +kernel) (by decide +kernel) (by decide +kernel) rfl (Nat.le_of_ble_eq_true rfl) rfl hc nx
theorem b_X_falls_20 {d : Nat} {x1 : Int32} {x2 : Int32} {sx0 : Int32} {S : fm_S}  : am_Ev d k_X_falls 20 [some (.ref 0), some (.int x1), some (.int x2)] [.int sx0] (fm_mk S) (some (.int sx0), fm_mk S) := by
  exact fe_retI (by decide +kernel) (by decide +kernel)
theorem b_X_falls_21 {d : Nat} {x1 : Int32} {x2 : Int32} {v : Int32} {S1 : fm_S} {S : fm_S} {r : Option Value × am_W} (hc : am_Sp d k_Cook_daysToFall [.ref 54, .int x1, .int x2] (fm_mk S) (some (.int v)) (fm_mk S1)) (nx : am_Ev (d + 1) k_X_falls 30 [some (.ref 0), some (.int x1), some (.int x2)] [.int v] (fm_mk S1) r) : am_Ev (d + 1) k_X_falls 21 [some (.ref 0), some (.int x1), some (.int x2)] [] (fm_mk S) r := by
  refine fs_aloadn (j := 0) (by decide +kernel) rfl ?_
  refine fe_getR (idx := 21) (t := 7) (f := 1) (fk := 2) (fin := 1) (wp := 333) (x := 54) (by decide +kernel) (by decide +kernel) (by decide +kernel) (by decide +kernel) (by decide +kernel) ?_
  refine fs_iloadn (j := 1) (by decide +kernel) rfl ?_
  refine fs_iloadn (j := 2) (by decide +kernel) rfl ?_
  exact fe_callV (t := 1) (idx := 167) (n := 2) (wp := 691) (q := (692, 693)) (as := [.int x1, .int x2]) (rs := []) (by decide +kernel) (by decide +kernel) (by decide +kernel) (by decide +kernel) rfl (Nat.le_of_ble_eq_true rfl) rfl hc nx
theorem b_X_falls_30 {d : Nat} {x1 : Int32} {x2 : Int32} {sx0 : Int32} {S : fm_S}  : am_Ev d k_X_falls 30 [some (.ref 0), some (.int x1), some (.int x2)] [.int sx0] (fm_mk S) (some (.int sx0), fm_mk S) := by
  exact fe_retI (by decide +kernel) (by decide +kernel)
-- KitchenSiege.order(II)I
theorem b_X_order_0 {d : Nat} {x1 : Int32} {x2 : Int32} {o3 : Option Value} {v : Int32} {S1 : fm_S} {S : fm_S} {r : Option Value × am_W} (hc : am_Sp d k_X_isStreet [.ref 0, .int x1] (fm_mk S) (some (.int v)) (fm_mk S1)) (nx : am_Ev (d + 1) k_X_order 5 [some (.ref 0), some (.int x1), some (.int x2), o3] [.int v] (fm_mk S1) r) : am_Ev (d + 1) k_X_order 0 [some (.ref 0), some (.int x1), some (.int x2), o3] [] (fm_mk S) r := by
  refine fs_aloadn (j := 0) (by decide +kernel) rfl ?_
  refine fs_iloadn (j := 1) (by decide +kernel) rfl ?_
  exact fe_callV (t := 7) (idx := 69) (n := 1) (wp := 389) (q := (391, 2)) (as := [.int x1]) (rs := []) (by decide +kernel) (by decide +kernel) (by decide +kernel) (by decide +kernel) rfl (Nat.le_of_ble_eq_true rfl) rfl hc nx
theorem b_X_order_5 {d : Nat} {x1 : Int32} {x2 : Int32} {o3 : Option Value} {sx0 : Int32} {S : fm_S} {r : Option Value × am_W} (kt : sx0 = 0 → am_Ev d k_X_order 14 [some (.ref 0), some (.int x1), some (.int x2), o3] [] (fm_mk S) r) (kf : ¬ sx0 = 0 → am_Ev d k_X_order 8 [some (.ref 0), some (.int x1), some (.int x2), o3] [] (fm_mk S) r) : am_Ev d k_X_order 5 [some (.ref 0), some (.int x1), some (.int x2), o3] [.int sx0] (fm_mk S) r := by
  exact fs_ifeq (off := 9) (tgt := 14) (by decide +kernel) (by decide) kt kf
theorem b_X_order_8 {d : Nat} {x1 : Int32} {x2 : Int32} {o3 : Option Value} {S : fm_S} {r : Option Value × am_W} (kt : (-2) ≤ x2 → am_Ev d k_X_order 19 [some (.ref 0), some (.int x1), some (.int x2), o3] [] (fm_mk S) r) (kf : ¬ (-2) ≤ x2 → am_Ev d k_X_order 14 [some (.ref 0), some (.int x1), some (.int x2), o3] [] (fm_mk S) r) : am_Ev d k_X_order 8 [some (.ref 0), some (.int x1), some (.int x2), o3] [] (fm_mk S) r := by
  refine fs_iloadn (j := 2) (by decide +kernel) rfl ?_
  refine fs_bipush (n := -2) (v := (-2)) (by decide +kernel) (by decide) ?_
  exact fs_icge (off := 8) (tgt := 19) (by decide +kernel) (by decide) kt kf
theorem b_X_order_14 {d : Nat} {x1 : Int32} {x2 : Int32} {o3 : Option Value} {v : Int32} {S1 : fm_S} {S : fm_S} {r : Option Value × am_W} (hc : am_Sp d k_X_badTen [.ref 0] (fm_mk S) (some (.int v)) (fm_mk S1)) (nx : am_Ev (d + 1) k_X_order 18 [some (.ref 0), some (.int x1), some (.int x2), o3] [.int v] (fm_mk S1) r) : am_Ev (d + 1) k_X_order 14 [some (.ref 0), some (.int x1), some (.int x2), o3] [] (fm_mk S) r := by
  refine fs_aloadn (j := 0) (by decide +kernel) rfl ?_
  exact fe_callV (t := 7) (idx := 139) (n := 0) (wp := 667) (q := (669, 20)) (as := []) (rs := []) (by decide +kernel) (by decide +kernel) (by decide +kernel) (by decide +kernel) rfl (Nat.le_of_ble_eq_true rfl) rfl hc nx
theorem b_X_order_18 {d : Nat} {x1 : Int32} {x2 : Int32} {o3 : Option Value} {sx0 : Int32} {S : fm_S}  : am_Ev d k_X_order 18 [some (.ref 0), some (.int x1), some (.int x2), o3] [.int sx0] (fm_mk S) (some (.int sx0), fm_mk S) := by
  exact fe_retI (by decide +kernel) (by decide +kernel)
theorem b_X_order_19 {d : Nat} {x1 : Int32} {x2 : Int32} {o3 : Option Value} {v : Int32} {S1 : fm_S} {S : fm_S} {r : Option Value × am_W} (hc : am_Sp d k_Cook_findRow [.ref 54, .int x1] (fm_mk S) (some (.int v)) (fm_mk S1)) (nx : am_Ev (d + 1) k_X_order 27 [some (.ref 0), some (.int x1), some (.int x2), o3] [.int v] (fm_mk S1) r) : am_Ev (d + 1) k_X_order 19 [some (.ref 0), some (.int x1), some (.int x2), o3] [] (fm_mk S) r := by
  refine fs_aloadn (j := 0) (by decide +kernel) rfl ?_
  refine fe_getR (idx := 21) (t := 7) (f := 1) (fk := 2) (fin := 1) (wp := 333) (x := 54) (by decide +kernel) (by decide +kernel) (by decide +kernel) (by decide +kernel) (by decide +kernel) ?_
  refine fs_iloadn (j := 1) (by decide +kernel) rfl ?_
  exact fe_callV (t := 1) (idx := 170) (n := 1) (wp := 703) (q := (704, 705)) (as := [.int x1]) (rs := []) (by decide +kernel) (by decide +kernel) (by decide +kernel) (by decide +kernel) rfl (Nat.le_of_ble_eq_true rfl) rfl hc nx
theorem b_X_order_27 {d : Nat} {x1 : Int32} {x2 : Int32} {o3 : Option Value} {sx0 : Int32} {S : fm_S} {r : Option Value × am_W} (kt : sx0 = (-1) → am_Ev d k_X_order 38 [some (.ref 0), some (.int x1), some (.int x2), some (.int sx0)] [] (fm_mk S) r) (kf : ¬ sx0 = (-1) → am_Ev d k_X_order 33 [some (.ref 0), some (.int x1), some (.int x2), some (.int sx0)] [] (fm_mk S) r) : am_Ev d k_X_order 27 [some (.ref 0), some (.int x1), some (.int x2), o3] [.int sx0] (fm_mk S) r := by
  refine fs_istoren (j := 3) (L' := [some (.ref 0), some (.int x1), some (.int x2), some (.int sx0)]) (by decide +kernel) (Nat.le_of_ble_eq_true rfl) rfl ?_
  refine fs_iloadn (j := 3) (by decide +kernel) rfl ?_
  refine fs_iconst (n := -1) (v := (-1)) (by decide +kernel) (by decide) ?_
  exact fs_iceq (off := 8) (tgt := 38) (by decide +kernel) (by decide) kt kf
theorem b_X_order_33 {d : Nat} {x1 : Int32} {x2 : Int32} {x3 : Int32} {S : fm_S} {r : Option Value × am_W} (kt : ¬ x2 = (-1) → am_Ev d k_X_order 40 [some (.ref 0), some (.int x1), some (.int x2), some (.int x3)] [] (fm_mk S) r) (kf : x2 = (-1) → am_Ev d k_X_order 38 [some (.ref 0), some (.int x1), some (.int x2), some (.int x3)] [] (fm_mk S) r) : am_Ev d k_X_order 33 [some (.ref 0), some (.int x1), some (.int x2), some (.int x3)] [] (fm_mk S) r := by
  refine fs_iloadn (j := 2) (by decide +kernel) rfl ?_
  refine fs_iconst (n := -1) (v := (-1)) (by decide +kernel) (by decide) ?_
  exact fs_icne (off := 5) (tgt := 40) (by decide +kernel) (by decide) kt kf
theorem b_X_order_38 {d : Nat} {x1 : Int32} {x2 : Int32} {x3 : Int32} {S : fm_S}  : am_Ev d k_X_order 38 [some (.ref 0), some (.int x1), some (.int x2), some (.int x3)] [] (fm_mk S) (some (.int x3), fm_mk S) := by
  refine fs_iloadn (j := 3) (by decide +kernel) rfl ?_
  exact fe_retI (by decide +kernel) (by decide +kernel)
theorem b_X_order_40 {d : Nat} {x1 : Int32} {x2 : Int32} {x3 : Int32} {S : fm_S} {r : Option Value × am_W} (kt : ¬ x2 = (-2) → am_Ev d k_X_order 54 [some (.ref 0), some (.int x1), some (.int x2), some (.int x3)] [] (fm_mk S) r) (kf : x2 = (-2) → am_Ev d k_X_order 46 [some (.ref 0), some (.int x1), some (.int x2), some (.int x3)] [] (fm_mk S) r) : am_Ev d k_X_order 40 [some (.ref 0), some (.int x1), some (.int x2), some (.int x3)] [] (fm_mk S) r := by
  refine fs_iloadn (j := 2) (by decide +kernel) rfl ?_
  refine fs_bipush (n := -2) (v := (-2)) (by decide +kernel) (by decide) ?_
  exact fs_icne (off := 11) (tgt := 54) (by decide +kernel) (by decide) kt kf
theorem b_X_order_46 {d : Nat} {x1 : Int32} {x2 : Int32} {x3 : Int32} {S : fm_S}  : am_Ev d k_X_order 46 [some (.ref 0), some (.int x1), some (.int x2), some (.int x3)] [] (fm_mk S) (some (.int (S.1 54 1)), fm_mk S) := by
  refine fs_aloadn (j := 0) (by decide +kernel) rfl ?_
  refine fe_getR (idx := 21) (t := 7) (f := 1) (fk := 2) (fin := 1) (wp := 333) (x := 54) (by decide +kernel) (by decide +kernel) (by decide +kernel) (by decide +kernel) (by decide +kernel) ?_
  refine fe_getI (idx := 173) (t := 1) (f := 1) (fk := 0) (fin := 0) (wp := 250) (by decide +kernel) (by decide +kernel) (by decide +kernel) (by decide +kernel) ?_
  exact fe_retI (by decide +kernel) (by decide +kernel)
theorem b_X_order_54 {d : Nat} {x1 : Int32} {x2 : Int32} {x3 : Int32} {S : fm_S} {r : Option Value × am_W} (kt : x3 ≤ x2 → am_Ev d k_X_order 76 [some (.ref 0), some (.int x1), some (.int x2), some (.int x3)] [] (fm_mk S) r) (kf : ¬ x3 ≤ x2 → am_Ev d k_X_order 59 [some (.ref 0), some (.int x1), some (.int x2), some (.int x3)] [] (fm_mk S) r) : am_Ev d k_X_order 54 [some (.ref 0), some (.int x1), some (.int x2), some (.int x3)] [] (fm_mk S) r := by
  refine fs_iloadn (j := 2) (by decide +kernel) rfl ?_
  refine fs_iloadn (j := 3) (by decide +kernel) rfl ?_
  exact fs_icge (off := 20) (tgt := 76) (by decide +kernel) (by decide) kt kf
theorem b_X_order_59 {d : Nat} {x1 : Int32} {x2 : Int32} {x3 : Int32} {S : fm_S} {r : Option Value × am_W} (kt : 4 ≤ x2 → am_Ev d k_X_order 76 [some (.ref 0), some (.int x1), some (.int x2), some (.int x3)] [] (fm_mk S) r) (kf : ¬ 4 ≤ x2 → am_Ev d k_X_order 64 [some (.ref 0), some (.int x1), some (.int x2), some (.int x3)] [] (fm_mk S) r) : am_Ev d k_X_order 59 [some (.ref 0), some (.int x1), some (.int x2), some (.int x3)] [] (fm_mk S) r := by
  refine fs_iloadn (j := 2) (by decide +kernel) rfl ?_
  refine fs_iconst (n := 4) (v := 4) (by decide +kernel) (by decide) ?_
  exact fs_icge (off := 15) (tgt := 76) (by decide +kernel) (by decide) kt kf
theorem b_X_order_64 {d : Nat} {x1 : Int32} {x2 : Int32} {x3 : Int32} {S : fm_S} {r : Option Value × am_W} (hi0 : vp_in x2 4) (nx : am_Ev d k_X_order 78 [some (.ref 0), some (.int x1), some (.int x2), some (.int x3)] [.int (S.1 55 x2.toNatClampNeg)] (fm_mk S) r) : am_Ev d k_X_order 64 [some (.ref 0), some (.int x1), some (.int x2), some (.int x3)] [] (fm_mk S) r := by
  refine fs_aloadn (j := 0) (by decide +kernel) rfl ?_
  refine fe_getR (idx := 21) (t := 7) (f := 1) (fk := 2) (fin := 1) (wp := 333) (x := 54) (by decide +kernel) (by decide +kernel) (by decide +kernel) (by decide +kernel) (by decide +kernel) ?_
  refine fe_getR (idx := 176) (t := 1) (f := 0) (fk := 2) (fin := 1) (wp := 248) (x := 55) (by decide +kernel) (by decide +kernel) (by decide +kernel) (by decide +kernel) (by decide +kernel) ?_
  refine fs_iloadn (j := 2) (by decide +kernel) rfl ?_
  refine fx_iald (n := x2.toNatClampNeg) (len := 4) (by decide +kernel) (by decide +kernel) (by decide +kernel) hi0 rfl ?_
  refine fs_goto (off := 5) (tgt := 78) (by decide +kernel) (by decide) ?_
  exact nx
theorem b_X_order_76 {d : Nat} {x1 : Int32} {x2 : Int32} {x3 : Int32} {S : fm_S} {r : Option Value × am_W} (nx : am_Ev d k_X_order 78 [some (.ref 0), some (.int x1), some (.int x2), some (.int x3)] [.int (-5)] (fm_mk S) r) : am_Ev d k_X_order 76 [some (.ref 0), some (.int x1), some (.int x2), some (.int x3)] [] (fm_mk S) r := by
  refine fs_bipush (n := -5) (v := (-5)) (by decide +kernel) (by decide) ?_
  exact nx
theorem b_X_order_78 {d : Nat} {x1 : Int32} {x2 : Int32} {x3 : Int32} {sx0 : Int32} {S : fm_S}  : am_Ev d k_X_order 78 [some (.ref 0), some (.int x1), some (.int x2), some (.int x3)] [.int sx0] (fm_mk S) (some (.int sx0), fm_mk S) := by
  exact fe_retI (by decide +kernel) (by decide +kernel)
-- KitchenSiege.never()I
theorem b_X_never_0 {d : Nat} {v : Int32} {S1 : fm_S} {S : fm_S} {r : Option Value × am_W} (hc : am_Sp d k_Cook_neverOpened [.ref 54] (fm_mk S) (some (.int v)) (fm_mk S1)) (nx : am_Ev (d + 1) k_X_never 7 [some (.ref 0)] [.int v] (fm_mk S1) r) : am_Ev (d + 1) k_X_never 0 [some (.ref 0)] [] (fm_mk S) r := by
  refine fs_aloadn (j := 0) (by decide +kernel) rfl ?_
  refine fe_getR (idx := 21) (t := 7) (f := 1) (fk := 2) (fin := 1) (wp := 333) (x := 54) (by decide +kernel) (by decide +kernel) (by decide +kernel) (by decide +kernel) (by decide +kernel) ?_
  exact fe_callV (t := 1) (idx := 179) (n := 0) (wp := 724) (q := (725, 726)) (as := []) (rs := []) (by decide +kernel) (by decide +kernel) (by decide +kernel) (by decide +kernel) rfl (Nat.le_of_ble_eq_true rfl) rfl hc nx
theorem b_X_never_7 {d : Nat} {sx0 : Int32} {S : fm_S}  : am_Ev d k_X_never 7 [some (.ref 0)] [.int sx0] (fm_mk S) (some (.int sx0), fm_mk S) := by
  exact fe_retI (by decide +kernel) (by decide +kernel)
-- KitchenSiege.least()I
theorem b_X_least_0 {d : Nat} {v : Int32} {S1 : fm_S} {S : fm_S} {r : Option Value × am_W} (hc : am_Sp d k_Cook_leastSet [.ref 54] (fm_mk S) (some (.int v)) (fm_mk S1)) (nx : am_Ev (d + 1) k_X_least 7 [some (.ref 0)] [.int v] (fm_mk S1) r) : am_Ev (d + 1) k_X_least 0 [some (.ref 0)] [] (fm_mk S) r := by
  refine fs_aloadn (j := 0) (by decide +kernel) rfl ?_
  refine fe_getR (idx := 21) (t := 7) (f := 1) (fk := 2) (fin := 1) (wp := 333) (x := 54) (by decide +kernel) (by decide +kernel) (by decide +kernel) (by decide +kernel) (by decide +kernel) ?_
  exact fe_callV (t := 1) (idx := 182) (n := 0) (wp := 745) (q := (746, 747)) (as := []) (rs := []) (by decide +kernel) (by decide +kernel) (by decide +kernel) (by decide +kernel) rfl (Nat.le_of_ble_eq_true rfl) rfl hc nx
theorem b_X_least_7 {d : Nat} {sx0 : Int32} {S : fm_S}  : am_Ev d k_X_least 7 [some (.ref 0)] [.int sx0] (fm_mk S) (some (.int sx0), fm_mk S) := by
  exact fe_retI (by decide +kernel) (by decide +kernel)
-- KitchenSiege.answer(III)I
theorem b_X_answer_0 {d : Nat} {x1 : Int32} {x2 : Int32} {x3 : Int32} {o4 : Option Value} {v : Int32} {S1 : fm_S} {S : fm_S} {r : Option Value × am_W} (hc : am_Sp d k_X_isDish [.ref 0, .int x1] (fm_mk S) (some (.int v)) (fm_mk S1)) (nx : am_Ev (d + 1) k_X_answer 5 [some (.ref 0), some (.int x1), some (.int x2), some (.int x3), o4] [.int v] (fm_mk S1) r) : am_Ev (d + 1) k_X_answer 0 [some (.ref 0), some (.int x1), some (.int x2), some (.int x3), o4] [] (fm_mk S) r := by
  refine fs_aloadn (j := 0) (by decide +kernel) rfl ?_
  refine fs_iloadn (j := 1) (by decide +kernel) rfl ?_
  exact fe_callV (t := 7) (idx := 116) (n := 1) (wp := 582) (q := (584, 16)) (as := [.int x1]) (rs := []) (by decide +kernel) (by decide +kernel) (by decide +kernel) (by decide +kernel) rfl (Nat.le_of_ble_eq_true rfl) rfl hc nx
theorem b_X_answer_5 {d : Nat} {x1 : Int32} {x2 : Int32} {x3 : Int32} {o4 : Option Value} {sx0 : Int32} {S : fm_S} {r : Option Value × am_W} (kt : sx0 = 0 → am_Ev d k_X_answer 27 [some (.ref 0), some (.int x1), some (.int x2), some (.int x3), o4] [] (fm_mk S) r) (kf : ¬ sx0 = 0 → am_Ev d k_X_answer 8 [some (.ref 0), some (.int x1), some (.int x2), some (.int x3), o4] [] (fm_mk S) r) : am_Ev d k_X_answer 5 [some (.ref 0), some (.int x1), some (.int x2), some (.int x3), o4] [.int sx0] (fm_mk S) r := by
  exact fs_ifeq (off := 22) (tgt := 27) (by decide +kernel) (by decide) kt kf
theorem b_X_answer_8 {d : Nat} {x1 : Int32} {x2 : Int32} {x3 : Int32} {o4 : Option Value} {v : Int32} {S1 : fm_S} {S : fm_S} {r : Option Value × am_W} (hc : am_Sp d k_X_within [.int x2, .int 0, .int 9] (fm_mk S) (some (.int v)) (fm_mk S1)) (nx : am_Ev (d + 1) k_X_answer 15 [some (.ref 0), some (.int x1), some (.int x2), some (.int x3), o4] [.int v] (fm_mk S1) r) : am_Ev (d + 1) k_X_answer 8 [some (.ref 0), some (.int x1), some (.int x2), some (.int x3), o4] [] (fm_mk S) r := by
  refine fs_iloadn (j := 2) (by decide +kernel) rfl ?_
  refine fs_iconst (n := 0) (v := 0) (by decide +kernel) (by decide) ?_
  refine fs_bipush (n := 9) (v := 9) (by decide +kernel) (by decide) ?_
  exact fe_callS (idx := 54) (kd := 0) (n := 3) (wp := 370) (q := (371, 0)) (as := [.int x2, .int 0, .int 9]) (rs := []) (by decide +kernel) (by decide +kernel) (by decide +kernel) (by decide) rfl (Nat.le_of_ble_eq_true rfl) rfl hc nx
theorem b_X_answer_15 {d : Nat} {x1 : Int32} {x2 : Int32} {x3 : Int32} {o4 : Option Value} {sx0 : Int32} {S : fm_S} {r : Option Value × am_W} (kt : sx0 = 0 → am_Ev d k_X_answer 27 [some (.ref 0), some (.int x1), some (.int x2), some (.int x3), o4] [] (fm_mk S) r) (kf : ¬ sx0 = 0 → am_Ev d k_X_answer 18 [some (.ref 0), some (.int x1), some (.int x2), some (.int x3), o4] [] (fm_mk S) r) : am_Ev d k_X_answer 15 [some (.ref 0), some (.int x1), some (.int x2), some (.int x3), o4] [.int sx0] (fm_mk S) r := by
  exact fs_ifeq (off := 12) (tgt := 27) (by decide +kernel) (by decide) kt kf
theorem b_X_answer_18 {d : Nat} {x1 : Int32} {x2 : Int32} {x3 : Int32} {o4 : Option Value} {v : Int32} {S1 : fm_S} {S : fm_S} {r : Option Value × am_W} (hc : am_Sp d k_X_within [.int x3, .int 0, .int 1] (fm_mk S) (some (.int v)) (fm_mk S1)) (nx : am_Ev (d + 1) k_X_answer 24 [some (.ref 0), some (.int x1), some (.int x2), some (.int x3), o4] [.int v] (fm_mk S1) r) : am_Ev (d + 1) k_X_answer 18 [some (.ref 0), some (.int x1), some (.int x2), some (.int x3), o4] [] (fm_mk S) r := by
  refine fs_iloadn (j := 3) (by decide +kernel) rfl ?_
  refine fs_iconst (n := 0) (v := 0) (by decide +kernel) (by decide) ?_
  refine fs_iconst (n := 1) (v := 1) (by decide +kernel) (by decide) ?_
  exact fe_callS (idx := 54) (kd := 0) (n := 3) (wp := 370) (q := (371, 0)) (as := [.int x3, .int 0, .int 1]) (rs := []) (by decide +kernel) (by decide +kernel) (by decide +kernel) (by decide) rfl (Nat.le_of_ble_eq_true rfl) rfl hc nx
theorem b_X_answer_24 {d : Nat} {x1 : Int32} {x2 : Int32} {x3 : Int32} {o4 : Option Value} {sx0 : Int32} {S : fm_S} {r : Option Value × am_W} (kt : ¬ sx0 = 0 → am_Ev d k_X_answer 32 [some (.ref 0), some (.int x1), some (.int x2), some (.int x3), o4] [] (fm_mk S) r) (kf : sx0 = 0 → am_Ev d k_X_answer 27 [some (.ref 0), some (.int x1), some (.int x2), some (.int x3), o4] [] (fm_mk S) r) : am_Ev d k_X_answer 24 [some (.ref 0), some (.int x1), some (.int x2), some (.int x3), o4] [.int sx0] (fm_mk S) r := by
  exact fs_ifne (off := 8) (tgt := 32) (by decide +kernel) (by decide) kt kf
theorem b_X_answer_27 {d : Nat} {x1 : Int32} {x2 : Int32} {x3 : Int32} {o4 : Option Value} {v : Int32} {S1 : fm_S} {S : fm_S} {r : Option Value × am_W} (hc : am_Sp d k_X_bad [.ref 0] (fm_mk S) (some (.int v)) (fm_mk S1)) (nx : am_Ev (d + 1) k_X_answer 31 [some (.ref 0), some (.int x1), some (.int x2), some (.int x3), o4] [.int v] (fm_mk S1) r) : am_Ev (d + 1) k_X_answer 27 [some (.ref 0), some (.int x1), some (.int x2), some (.int x3), o4] [] (fm_mk S) r := by
  refine fs_aloadn (j := 0) (by decide +kernel) rfl ?_
  exact fe_callV (t := 7) (idx := 58) (n := 0) (wp := 373) (q := (375, 0)) (as := []) (rs := []) (by decide +kernel) (by decide +kernel) (by decide +kernel) (by decide +kernel) rfl (Nat.le_of_ble_eq_true rfl) rfl hc nx
theorem b_X_answer_31 {d : Nat} {x1 : Int32} {x2 : Int32} {x3 : Int32} {o4 : Option Value} {sx0 : Int32} {S : fm_S}  : am_Ev d k_X_answer 31 [some (.ref 0), some (.int x1), some (.int x2), some (.int x3), o4] [.int sx0] (fm_mk S) (some (.int sx0), fm_mk S) := by
  exact fe_retI (by decide +kernel) (by decide +kernel)
theorem b_X_answer_32 {d : Nat} {x1 : Int32} {x2 : Int32} {x3 : Int32} {o4 : Option Value} {v : Int32} {S1 : fm_S} {S : fm_S} {r : Option Value × am_W} (hc : am_Sp d k_Cook_bestSheets [.ref 54, .int x1, .int x2] (fm_mk S) (some (.int v)) (fm_mk S1)) (nx : am_Ev (d + 1) k_X_answer 41 [some (.ref 0), some (.int x1), some (.int x2), some (.int x3), o4] [.int v] (fm_mk S1) r) : am_Ev (d + 1) k_X_answer 32 [some (.ref 0), some (.int x1), some (.int x2), some (.int x3), o4] [] (fm_mk S) r := by
  refine fs_aloadn (j := 0) (by decide +kernel) rfl ?_
  refine fe_getR (idx := 21) (t := 7) (f := 1) (fk := 2) (fin := 1) (wp := 333) (x := 54) (by decide +kernel) (by decide +kernel) (by decide +kernel) (by decide +kernel) (by decide +kernel) ?_
  refine fs_iloadn (j := 1) (by decide +kernel) rfl ?_
  refine fs_iloadn (j := 2) (by decide +kernel) rfl ?_
  exact fe_callV (t := 1) (idx := 185) (n := 2) (wp := 767) (q := (768, 769)) (as := [.int x1, .int x2]) (rs := []) (by decide +kernel) (by decide +kernel) (by decide +kernel) (by decide +kernel) rfl (Nat.le_of_ble_eq_true rfl) rfl hc nx
theorem b_X_answer_41 {d : Nat} {x1 : Int32} {x2 : Int32} {x3 : Int32} {o4 : Option Value} {sx0 : Int32} {S : fm_S} {r : Option Value × am_W} (kt : sx0 = (-1) → am_Ev d k_X_answer 53 [some (.ref 0), some (.int x1), some (.int x2), some (.int x3), some (.int sx0)] [] (fm_mk S) r) (kf : ¬ sx0 = (-1) → am_Ev d k_X_answer 49 [some (.ref 0), some (.int x1), some (.int x2), some (.int x3), some (.int sx0)] [] (fm_mk S) r) : am_Ev d k_X_answer 41 [some (.ref 0), some (.int x1), some (.int x2), some (.int x3), o4] [.int sx0] (fm_mk S) r := by
  refine fs_istore (j := 4) (L' := [some (.ref 0), some (.int x1), some (.int x2), some (.int x3), some (.int sx0)]) (by decide +kernel) (Nat.le_of_ble_eq_true rfl) rfl ?_
  refine fs_iload (j := 4) (by decide +kernel) rfl ?_
  refine fs_iconst (n := -1) (v := (-1)) (by decide +kernel) (by decide) ?_
  exact fs_iceq (off := 7) (tgt := 53) (by decide +kernel) (by decide) kt kf
theorem b_X_answer_49 {d : Nat} {x1 : Int32} {x2 : Int32} {x3 : Int32} {x4 : Int32} {S : fm_S} {r : Option Value × am_W} (kt : ¬ x3 = 0 → am_Ev d k_X_answer 56 [some (.ref 0), some (.int x1), some (.int x2), some (.int x3), some (.int x4)] [] (fm_mk S) r) (kf : x3 = 0 → am_Ev d k_X_answer 53 [some (.ref 0), some (.int x1), some (.int x2), some (.int x3), some (.int x4)] [] (fm_mk S) r) : am_Ev d k_X_answer 49 [some (.ref 0), some (.int x1), some (.int x2), some (.int x3), some (.int x4)] [] (fm_mk S) r := by
  refine fs_iloadn (j := 3) (by decide +kernel) rfl ?_
  exact fs_ifne (off := 6) (tgt := 56) (by decide +kernel) (by decide) kt kf
theorem b_X_answer_53 {d : Nat} {x1 : Int32} {x2 : Int32} {x3 : Int32} {x4 : Int32} {S : fm_S}  : am_Ev d k_X_answer 53 [some (.ref 0), some (.int x1), some (.int x2), some (.int x3), some (.int x4)] [] (fm_mk S) (some (.int x4), fm_mk S) := by
  refine fs_iload (j := 4) (by decide +kernel) rfl ?_
  exact fe_retI (by decide +kernel) (by decide +kernel)
theorem b_X_answer_56 {d : Nat} {x1 : Int32} {x2 : Int32} {x3 : Int32} {x4 : Int32} {v : Int32} {S1 : fm_S} {S : fm_S} {r : Option Value × am_W} (hc : am_Sp d k_Cook_opening [.ref 54, .int x1, .int x4, .int x2] (fm_mk S) (some (.int v)) (fm_mk S1)) (nx : am_Ev (d + 1) k_X_answer 67 [some (.ref 0), some (.int x1), some (.int x2), some (.int x3), some (.int x4)] [.int v] (fm_mk S1) r) : am_Ev (d + 1) k_X_answer 56 [some (.ref 0), some (.int x1), some (.int x2), some (.int x3), some (.int x4)] [] (fm_mk S) r := by
  refine fs_aloadn (j := 0) (by decide +kernel) rfl ?_
  refine fe_getR (idx := 21) (t := 7) (f := 1) (fk := 2) (fin := 1) (wp := 333) (x := 54) (by decide +kernel) (by decide +kernel) (by decide +kernel) (by decide +kernel) (by decide +kernel) ?_
  refine fs_iloadn (j := 1) (by decide +kernel) rfl ?_
  refine fs_iload (j := 4) (by decide +kernel) rfl ?_
  refine fs_iloadn (j := 2) (by decide +kernel) rfl ?_
  exact fe_callV (t := 1) (idx := 188) (n := 3) (wp := 776) (q := (772, 773)) (as := [.int x1, .int x4, .int x2]) (rs := []) (by decide +kernel) (by decide +kernel) (by decide +kernel) (by decide +kernel) rfl (Nat.le_of_ble_eq_true rfl) rfl hc nx
theorem b_X_answer_67 {d : Nat} {x1 : Int32} {x2 : Int32} {x3 : Int32} {x4 : Int32} {sx0 : Int32} {S : fm_S}  : am_Ev d k_X_answer 67 [some (.ref 0), some (.int x1), some (.int x2), some (.int x3), some (.int x4)] [.int sx0] (fm_mk S) (some (.int sx0), fm_mk S) := by
  exact fe_retI (by decide +kernel) (by decide +kernel)
-- KitchenSiege.game(I)I
theorem b_X_game_0 {d : Nat} {x1 : Int32} {v : Int32} {S1 : fm_S} {S : fm_S} {r : Option Value × am_W} (hc : am_Sp d k_X_within [.int x1, .int 0, .int 9] (fm_mk S) (some (.int v)) (fm_mk S1)) (nx : am_Ev (d + 1) k_X_game 7 [some (.ref 0), some (.int x1)] [.int v] (fm_mk S1) r) : am_Ev (d + 1) k_X_game 0 [some (.ref 0), some (.int x1)] [] (fm_mk S) r := by
  refine fs_iloadn (j := 1) (by decide +kernel) rfl ?_
  refine fs_iconst (n := 0) (v := 0) (by decide +kernel) (by decide) ?_
  refine fs_bipush (n := 9) (v := 9) (by decide +kernel) (by decide) ?_
  exact fe_callS (idx := 54) (kd := 0) (n := 3) (wp := 370) (q := (371, 0)) (as := [.int x1, .int 0, .int 9]) (rs := []) (by decide +kernel) (by decide +kernel) (by decide +kernel) (by decide) rfl (Nat.le_of_ble_eq_true rfl) rfl hc nx
theorem b_X_game_7 {d : Nat} {x1 : Int32} {sx0 : Int32} {S : fm_S} {r : Option Value × am_W} (kt : ¬ sx0 = 0 → am_Ev d k_X_game 15 [some (.ref 0), some (.int x1)] [] (fm_mk S) r) (kf : sx0 = 0 → am_Ev d k_X_game 10 [some (.ref 0), some (.int x1)] [] (fm_mk S) r) : am_Ev d k_X_game 7 [some (.ref 0), some (.int x1)] [.int sx0] (fm_mk S) r := by
  exact fs_ifne (off := 8) (tgt := 15) (by decide +kernel) (by decide) kt kf
theorem b_X_game_10 {d : Nat} {x1 : Int32} {v : Int32} {S1 : fm_S} {S : fm_S} {r : Option Value × am_W} (hc : am_Sp d k_X_bad [.ref 0] (fm_mk S) (some (.int v)) (fm_mk S1)) (nx : am_Ev (d + 1) k_X_game 14 [some (.ref 0), some (.int x1)] [.int v] (fm_mk S1) r) : am_Ev (d + 1) k_X_game 10 [some (.ref 0), some (.int x1)] [] (fm_mk S) r := by
  refine fs_aloadn (j := 0) (by decide +kernel) rfl ?_
  exact fe_callV (t := 7) (idx := 58) (n := 0) (wp := 373) (q := (375, 0)) (as := []) (rs := []) (by decide +kernel) (by decide +kernel) (by decide +kernel) (by decide +kernel) rfl (Nat.le_of_ble_eq_true rfl) rfl hc nx
theorem b_X_game_14 {d : Nat} {x1 : Int32} {sx0 : Int32} {S : fm_S}  : am_Ev d k_X_game 14 [some (.ref 0), some (.int x1)] [.int sx0] (fm_mk S) (some (.int sx0), fm_mk S) := by
  exact fe_retI (by decide +kernel) (by decide +kernel)
theorem b_X_game_15 {d : Nat} {x1 : Int32} {v : Int32} {S1 : fm_S} {S : fm_S} {r : Option Value × am_W} (hc : am_Sp d k_Cook_restingPairs [.ref 54, .int x1] (fm_mk S) (some (.int v)) (fm_mk S1)) (nx : am_Ev (d + 1) k_X_game 23 [some (.ref 0), some (.int x1)] [.int v] (fm_mk S1) r) : am_Ev (d + 1) k_X_game 15 [some (.ref 0), some (.int x1)] [] (fm_mk S) r := by
  refine fs_aloadn (j := 0) (by decide +kernel) rfl ?_
  refine fe_getR (idx := 21) (t := 7) (f := 1) (fk := 2) (fin := 1) (wp := 333) (x := 54) (by decide +kernel) (by decide +kernel) (by decide +kernel) (by decide +kernel) (by decide +kernel) ?_
  refine fs_iloadn (j := 1) (by decide +kernel) rfl ?_
  exact fe_callV (t := 1) (idx := 191) (n := 1) (wp := 781) (q := (782, 783)) (as := [.int x1]) (rs := []) (by decide +kernel) (by decide +kernel) (by decide +kernel) (by decide +kernel) rfl (Nat.le_of_ble_eq_true rfl) rfl hc nx
theorem b_X_game_23 {d : Nat} {x1 : Int32} {sx0 : Int32} {S : fm_S}  : am_Ev d k_X_game 23 [some (.ref 0), some (.int x1)] [.int sx0] (fm_mk S) (some (.int sx0), fm_mk S) := by
  exact fe_retI (by decide +kernel) (by decide +kernel)
-- KitchenSiege.note(IIIII)I
theorem b_X_note_0 {d : Nat} {x1 : Int32} {x2 : Int32} {x3 : Int32} {x4 : Int32} {x5 : Int32} {o6 : Option Value} {v : Int32} {S1 : fm_S} {S : fm_S} {r : Option Value × am_W} (hc : am_Sp d k_X_isStreet [.ref 0, .int x1] (fm_mk S) (some (.int v)) (fm_mk S1)) (nx : am_Ev (d + 1) k_X_note 5 [some (.ref 0), some (.int x1), some (.int x2), some (.int x3), some (.int x4), some (.int x5), o6] [.int v] (fm_mk S1) r) : am_Ev (d + 1) k_X_note 0 [some (.ref 0), some (.int x1), some (.int x2), some (.int x3), some (.int x4), some (.int x5), o6] [] (fm_mk S) r := by
  refine fs_aloadn (j := 0) (by decide +kernel) rfl ?_
  refine fs_iloadn (j := 1) (by decide +kernel) rfl ?_
  exact fe_callV (t := 7) (idx := 69) (n := 1) (wp := 389) (q := (391, 2)) (as := [.int x1]) (rs := []) (by decide +kernel) (by decide +kernel) (by decide +kernel) (by decide +kernel) rfl (Nat.le_of_ble_eq_true rfl) rfl hc nx
theorem b_X_note_5 {d : Nat} {x1 : Int32} {x2 : Int32} {x3 : Int32} {x4 : Int32} {x5 : Int32} {o6 : Option Value} {sx0 : Int32} {S : fm_S} {r : Option Value × am_W} (kt : sx0 = 0 → am_Ev d k_X_note 36 [some (.ref 0), some (.int x1), some (.int x2), some (.int x3), some (.int x4), some (.int x5), o6] [] (fm_mk S) r) (kf : ¬ sx0 = 0 → am_Ev d k_X_note 8 [some (.ref 0), some (.int x1), some (.int x2), some (.int x3), some (.int x4), some (.int x5), o6] [] (fm_mk S) r) : am_Ev d k_X_note 5 [some (.ref 0), some (.int x1), some (.int x2), some (.int x3), some (.int x4), some (.int x5), o6] [.int sx0] (fm_mk S) r := by
  exact fs_ifeq (off := 31) (tgt := 36) (by decide +kernel) (by decide) kt kf
theorem b_X_note_8 {d : Nat} {x1 : Int32} {x2 : Int32} {x3 : Int32} {x4 : Int32} {x5 : Int32} {o6 : Option Value} {v : Int32} {S1 : fm_S} {S : fm_S} {r : Option Value × am_W} (hc : am_Sp d k_X_within [.int x2, .int 0, .int 5] (fm_mk S) (some (.int v)) (fm_mk S1)) (nx : am_Ev (d + 1) k_X_note 14 [some (.ref 0), some (.int x1), some (.int x2), some (.int x3), some (.int x4), some (.int x5), o6] [.int v] (fm_mk S1) r) : am_Ev (d + 1) k_X_note 8 [some (.ref 0), some (.int x1), some (.int x2), some (.int x3), some (.int x4), some (.int x5), o6] [] (fm_mk S) r := by
  refine fs_iloadn (j := 2) (by decide +kernel) rfl ?_
  refine fs_iconst (n := 0) (v := 0) (by decide +kernel) (by decide) ?_
  refine fs_iconst (n := 5) (v := 5) (by decide +kernel) (by decide) ?_
  exact fe_callS (idx := 54) (kd := 0) (n := 3) (wp := 370) (q := (371, 0)) (as := [.int x2, .int 0, .int 5]) (rs := []) (by decide +kernel) (by decide +kernel) (by decide +kernel) (by decide) rfl (Nat.le_of_ble_eq_true rfl) rfl hc nx
theorem b_X_note_14 {d : Nat} {x1 : Int32} {x2 : Int32} {x3 : Int32} {x4 : Int32} {x5 : Int32} {o6 : Option Value} {sx0 : Int32} {S : fm_S} {r : Option Value × am_W} (kt : sx0 = 0 → am_Ev d k_X_note 36 [some (.ref 0), some (.int x1), some (.int x2), some (.int x3), some (.int x4), some (.int x5), o6] [] (fm_mk S) r) (kf : ¬ sx0 = 0 → am_Ev d k_X_note 17 [some (.ref 0), some (.int x1), some (.int x2), some (.int x3), some (.int x4), some (.int x5), o6] [] (fm_mk S) r) : am_Ev d k_X_note 14 [some (.ref 0), some (.int x1), some (.int x2), some (.int x3), some (.int x4), some (.int x5), o6] [.int sx0] (fm_mk S) r := by
  exact fs_ifeq (off := 22) (tgt := 36) (by decide +kernel) (by decide) kt kf
theorem b_X_note_17 {d : Nat} {x1 : Int32} {x2 : Int32} {x3 : Int32} {x4 : Int32} {x5 : Int32} {o6 : Option Value} {v : Int32} {S1 : fm_S} {S : fm_S} {r : Option Value × am_W} (hc : am_Sp d k_X_isNoted [.int x3, .int x4] (fm_mk S) (some (.int v)) (fm_mk S1)) (nx : am_Ev (d + 1) k_X_note 23 [some (.ref 0), some (.int x1), some (.int x2), some (.int x3), some (.int x4), some (.int x5), o6] [.int v] (fm_mk S1) r) : am_Ev (d + 1) k_X_note 17 [some (.ref 0), some (.int x1), some (.int x2), some (.int x3), some (.int x4), some (.int x5), o6] [] (fm_mk S) r := by
  refine fs_iloadn (j := 3) (by decide +kernel) rfl ?_
  refine fs_iload (j := 4) (by decide +kernel) rfl ?_
  exact fe_callS (idx := 194) (kd := 0) (n := 2) (wp := 796) (q := (797, 0)) (as := [.int x3, .int x4]) (rs := []) (by decide +kernel) (by decide +kernel) (by decide +kernel) (by decide) rfl (Nat.le_of_ble_eq_true rfl) rfl hc nx
theorem b_X_note_23 {d : Nat} {x1 : Int32} {x2 : Int32} {x3 : Int32} {x4 : Int32} {x5 : Int32} {o6 : Option Value} {sx0 : Int32} {S : fm_S} {r : Option Value × am_W} (kt : sx0 = 0 → am_Ev d k_X_note 36 [some (.ref 0), some (.int x1), some (.int x2), some (.int x3), some (.int x4), some (.int x5), o6] [] (fm_mk S) r) (kf : ¬ sx0 = 0 → am_Ev d k_X_note 26 [some (.ref 0), some (.int x1), some (.int x2), some (.int x3), some (.int x4), some (.int x5), o6] [] (fm_mk S) r) : am_Ev d k_X_note 23 [some (.ref 0), some (.int x1), some (.int x2), some (.int x3), some (.int x4), some (.int x5), o6] [.int sx0] (fm_mk S) r := by
  exact fs_ifeq (off := 13) (tgt := 36) (by decide +kernel) (by decide) kt kf
theorem b_X_note_26 {d : Nat} {x1 : Int32} {x2 : Int32} {x3 : Int32} {x4 : Int32} {x5 : Int32} {o6 : Option Value} {v : Int32} {S1 : fm_S} {S : fm_S} {r : Option Value × am_W} (hc : am_Sp d k_X_within [.int x5, .int 0, .int 1] (fm_mk S) (some (.int v)) (fm_mk S1)) (nx : am_Ev (d + 1) k_X_note 33 [some (.ref 0), some (.int x1), some (.int x2), some (.int x3), some (.int x4), some (.int x5), o6] [.int v] (fm_mk S1) r) : am_Ev (d + 1) k_X_note 26 [some (.ref 0), some (.int x1), some (.int x2), some (.int x3), some (.int x4), some (.int x5), o6] [] (fm_mk S) r := by
  refine fs_iload (j := 5) (by decide +kernel) rfl ?_
  refine fs_iconst (n := 0) (v := 0) (by decide +kernel) (by decide) ?_
  refine fs_iconst (n := 1) (v := 1) (by decide +kernel) (by decide) ?_
  exact fe_callS (idx := 54) (kd := 0) (n := 3) (wp := 370) (q := (371, 0)) (as := [.int x5, .int 0, .int 1]) (rs := []) (by decide +kernel) (by decide +kernel) (by decide +kernel) (by decide) rfl (Nat.le_of_ble_eq_true rfl) rfl hc nx
theorem b_X_note_33 {d : Nat} {x1 : Int32} {x2 : Int32} {x3 : Int32} {x4 : Int32} {x5 : Int32} {o6 : Option Value} {sx0 : Int32} {S : fm_S} {r : Option Value × am_W} (kt : ¬ sx0 = 0 → am_Ev d k_X_note 41 [some (.ref 0), some (.int x1), some (.int x2), some (.int x3), some (.int x4), some (.int x5), o6] [] (fm_mk S) r) (kf : sx0 = 0 → am_Ev d k_X_note 36 [some (.ref 0), some (.int x1), some (.int x2), some (.int x3), some (.int x4), some (.int x5), o6] [] (fm_mk S) r) : am_Ev d k_X_note 33 [some (.ref 0), some (.int x1), some (.int x2), some (.int x3), some (.int x4), some (.int x5), o6] [.int sx0] (fm_mk S) r := by
  exact fs_ifne (off := 8) (tgt := 41) (by decide +kernel) (by decide) kt kf
theorem b_X_note_36 {d : Nat} {x1 : Int32} {x2 : Int32} {x3 : Int32} {x4 : Int32} {x5 : Int32} {o6 : Option Value} {v : Int32} {S1 : fm_S} {S : fm_S} {r : Option Value × am_W} (hc : am_Sp d k_X_bad [.ref 0] (fm_mk S) (some (.int v)) (fm_mk S1)) (nx : am_Ev (d + 1) k_X_note 40 [some (.ref 0), some (.int x1), some (.int x2), some (.int x3), some (.int x4), some (.int x5), o6] [.int v] (fm_mk S1) r) : am_Ev (d + 1) k_X_note 36 [some (.ref 0), some (.int x1), some (.int x2), some (.int x3), some (.int x4), some (.int x5), o6] [] (fm_mk S) r := by
  refine fs_aloadn (j := 0) (by decide +kernel) rfl ?_
  exact fe_callV (t := 7) (idx := 58) (n := 0) (wp := 373) (q := (375, 0)) (as := []) (rs := []) (by decide +kernel) (by decide +kernel) (by decide +kernel) (by decide +kernel) rfl (Nat.le_of_ble_eq_true rfl) rfl hc nx
theorem b_X_note_40 {d : Nat} {x1 : Int32} {x2 : Int32} {x3 : Int32} {x4 : Int32} {x5 : Int32} {o6 : Option Value} {sx0 : Int32} {S : fm_S}  : am_Ev d k_X_note 40 [some (.ref 0), some (.int x1), some (.int x2), some (.int x3), some (.int x4), some (.int x5), o6] [.int sx0] (fm_mk S) (some (.int sx0), fm_mk S) := by
  exact fe_retI (by decide +kernel) (by decide +kernel)
theorem b_X_note_41 {d : Nat} {x1 : Int32} {x2 : Int32} {x3 : Int32} {x4 : Int32} {x5 : Int32} {o6 : Option Value} {v : Int32} {S1 : fm_S} {S : fm_S} {r : Option Value × am_W} (hc : am_Sp d k_Notes_add [.ref 11, .int x1, .int x2, .int x3, .int x4, .int x5] (fm_mk S) (some (.int v)) (fm_mk S1)) (nx : am_Ev (d + 1) k_X_note 58 [some (.ref 0), some (.int x1), some (.int x2), some (.int x3), some (.int x4), some (.int x5), o6] [.int v] (fm_mk S1) r) : am_Ev (d + 1) k_X_note 41 [some (.ref 0), some (.int x1), some (.int x2), some (.int x3), some (.int x4), some (.int x5), o6] [] (fm_mk S) r := by
  refine fs_aloadn (j := 0) (by decide +kernel) rfl ?_
  refine fe_getR (idx := 10) (t := 7) (f := 0) (fk := 2) (fin := 1) (wp := 332) (x := 1) (by decide +kernel) (by decide +kernel) (by decide +kernel) (by decide +kernel) (by decide +kernel) ?_
  refine fe_getR (idx := 197) (t := 6) (f := 11) (fk := 2) (fin := 1) (wp := 187) (x := 11) (by decide +kernel) (by decide +kernel) (by decide +kernel) (by decide +kernel) (by decide +kernel) ?_
  refine fs_iloadn (j := 1) (by decide +kernel) rfl ?_
  refine fs_iloadn (j := 2) (by decide +kernel) rfl ?_
  refine fs_iloadn (j := 3) (by decide +kernel) rfl ?_
  refine fs_iload (j := 4) (by decide +kernel) rfl ?_
  refine fs_iload (j := 5) (by decide +kernel) rfl ?_
  exact fe_callV (t := 4) (idx := 201) (n := 5) (wp := 799) (q := (800, 801)) (as := [.int x1, .int x2, .int x3, .int x4, .int x5]) (rs := []) (by decide +kernel) (by decide +kernel) (by decide +kernel) (by decide +kernel) rfl (Nat.le_of_ble_eq_true rfl) rfl hc nx
theorem b_X_note_58 {d : Nat} {x1 : Int32} {x2 : Int32} {x3 : Int32} {x4 : Int32} {x5 : Int32} {o6 : Option Value} {sx0 : Int32} {S : fm_S} {r : Option Value × am_W} (kt : ¬ sx0 = (-1) → am_Ev d k_X_note 73 [some (.ref 0), some (.int x1), some (.int x2), some (.int x3), some (.int x4), some (.int x5), some (.int sx0)] [] (fm_mk S) r) (kf : sx0 = (-1) → am_Ev d k_X_note 66 [some (.ref 0), some (.int x1), some (.int x2), some (.int x3), some (.int x4), some (.int x5), some (.int sx0)] [] (fm_mk S) r) : am_Ev d k_X_note 58 [some (.ref 0), some (.int x1), some (.int x2), some (.int x3), some (.int x4), some (.int x5), o6] [.int sx0] (fm_mk S) r := by
  refine fs_istore (j := 6) (L' := [some (.ref 0), some (.int x1), some (.int x2), some (.int x3), some (.int x4), some (.int x5), some (.int sx0)]) (by decide +kernel) (Nat.le_of_ble_eq_true rfl) rfl ?_
  refine fs_iload (j := 6) (by decide +kernel) rfl ?_
  refine fs_iconst (n := -1) (v := (-1)) (by decide +kernel) (by decide) ?_
  exact fs_icne (off := 10) (tgt := 73) (by decide +kernel) (by decide) kt kf
theorem b_X_note_66 {d : Nat} {x1 : Int32} {x2 : Int32} {x3 : Int32} {x4 : Int32} {x5 : Int32} {x6 : Int32} {v : Int32} {S1 : fm_S} {S : fm_S} {r : Option Value × am_W} (hc : am_Sp d k_X_full [.ref 0] (fm_mk S) (some (.int v)) (fm_mk S1)) (nx : am_Ev (d + 1) k_X_note 70 [some (.ref 0), some (.int x1), some (.int x2), some (.int x3), some (.int x4), some (.int x5), some (.int x6)] [.int v] (fm_mk S1) r) : am_Ev (d + 1) k_X_note 66 [some (.ref 0), some (.int x1), some (.int x2), some (.int x3), some (.int x4), some (.int x5), some (.int x6)] [] (fm_mk S) r := by
  refine fs_aloadn (j := 0) (by decide +kernel) rfl ?_
  exact fe_callV (t := 7) (idx := 66) (n := 0) (wp := 381) (q := (383, 1)) (as := []) (rs := []) (by decide +kernel) (by decide +kernel) (by decide +kernel) (by decide +kernel) rfl (Nat.le_of_ble_eq_true rfl) rfl hc nx
theorem b_X_note_70 {d : Nat} {x1 : Int32} {x2 : Int32} {x3 : Int32} {x4 : Int32} {x5 : Int32} {x6 : Int32} {sx0 : Int32} {S : fm_S} {r : Option Value × am_W} (nx : am_Ev d k_X_note 75 [some (.ref 0), some (.int x1), some (.int x2), some (.int x3), some (.int x4), some (.int x5), some (.int x6)] [.int sx0] (fm_mk S) r) : am_Ev d k_X_note 70 [some (.ref 0), some (.int x1), some (.int x2), some (.int x3), some (.int x4), some (.int x5), some (.int x6)] [.int sx0] (fm_mk S) r := by
  refine fs_goto (off := 5) (tgt := 75) (by decide +kernel) (by decide) ?_
  exact nx
theorem b_X_note_73 {d : Nat} {x1 : Int32} {x2 : Int32} {x3 : Int32} {x4 : Int32} {x5 : Int32} {x6 : Int32} {S : fm_S} {r : Option Value × am_W} (nx : am_Ev d k_X_note 75 [some (.ref 0), some (.int x1), some (.int x2), some (.int x3), some (.int x4), some (.int x5), some (.int x6)] [.int x6] (fm_mk S) r) : am_Ev d k_X_note 73 [some (.ref 0), some (.int x1), some (.int x2), some (.int x3), some (.int x4), some (.int x5), some (.int x6)] [] (fm_mk S) r := by
  refine fs_iload (j := 6) (by decide +kernel) rfl ?_
  exact nx
theorem b_X_note_75 {d : Nat} {x1 : Int32} {x2 : Int32} {x3 : Int32} {x4 : Int32} {x5 : Int32} {x6 : Int32} {sx0 : Int32} {S : fm_S}  : am_Ev d k_X_note 75 [some (.ref 0), some (.int x1), some (.int x2), some (.int x3), some (.int x4), some (.int x5), some (.int x6)] [.int sx0] (fm_mk S) (some (.int sx0), fm_mk S) := by
  exact fe_retI (by decide +kernel) (by decide +kernel)
-- KitchenSiege.isNoted(II)Z
theorem b_X_isNoted_0 {d : Nat} {x0 : Int32} {x1 : Int32} {v : Int32} {S1 : fm_S} {S : fm_S} {r : Option Value × am_W} (hc : am_Sp d k_X_within [.int x0, .int 1, .int 60] (fm_mk S) (some (.int v)) (fm_mk S1)) (nx : am_Ev (d + 1) k_X_isNoted 7 [some (.int x0), some (.int x1)] [.int v] (fm_mk S1) r) : am_Ev (d + 1) k_X_isNoted 0 [some (.int x0), some (.int x1)] [] (fm_mk S) r := by
  refine fs_iloadn (j := 0) (by decide +kernel) rfl ?_
  refine fs_iconst (n := 1) (v := 1) (by decide +kernel) (by decide) ?_
  refine fs_bipush (n := 60) (v := 60) (by decide +kernel) (by decide) ?_
  exact fe_callS (idx := 54) (kd := 0) (n := 3) (wp := 370) (q := (371, 0)) (as := [.int x0, .int 1, .int 60]) (rs := []) (by decide +kernel) (by decide +kernel) (by decide +kernel) (by decide) rfl (Nat.le_of_ble_eq_true rfl) rfl hc nx
theorem b_X_isNoted_7 {d : Nat} {x0 : Int32} {x1 : Int32} {sx0 : Int32} {S : fm_S} {r : Option Value × am_W} (kt : sx0 = 0 → am_Ev d k_X_isNoted 24 [some (.int x0), some (.int x1)] [] (fm_mk S) r) (kf : ¬ sx0 = 0 → am_Ev d k_X_isNoted 10 [some (.int x0), some (.int x1)] [] (fm_mk S) r) : am_Ev d k_X_isNoted 7 [some (.int x0), some (.int x1)] [.int sx0] (fm_mk S) r := by
  exact fs_ifeq (off := 17) (tgt := 24) (by decide +kernel) (by decide) kt kf
theorem b_X_isNoted_10 {d : Nat} {x0 : Int32} {x1 : Int32} {v : Int32} {S1 : fm_S} {S : fm_S} {r : Option Value × am_W} (hc : am_Sp d k_X_within [.int x1, .int 0, .int 99] (fm_mk S) (some (.int v)) (fm_mk S1)) (nx : am_Ev (d + 1) k_X_isNoted 17 [some (.int x0), some (.int x1)] [.int v] (fm_mk S1) r) : am_Ev (d + 1) k_X_isNoted 10 [some (.int x0), some (.int x1)] [] (fm_mk S) r := by
  refine fs_iloadn (j := 1) (by decide +kernel) rfl ?_
  refine fs_iconst (n := 0) (v := 0) (by decide +kernel) (by decide) ?_
  refine fs_bipush (n := 99) (v := 99) (by decide +kernel) (by decide) ?_
  exact fe_callS (idx := 54) (kd := 0) (n := 3) (wp := 370) (q := (371, 0)) (as := [.int x1, .int 0, .int 99]) (rs := []) (by decide +kernel) (by decide +kernel) (by decide +kernel) (by decide) rfl (Nat.le_of_ble_eq_true rfl) rfl hc nx
theorem b_X_isNoted_17 {d : Nat} {x0 : Int32} {x1 : Int32} {sx0 : Int32} {S : fm_S} {r : Option Value × am_W} (kt : sx0 = 0 → am_Ev d k_X_isNoted 24 [some (.int x0), some (.int x1)] [] (fm_mk S) r) (kf : ¬ sx0 = 0 → am_Ev d k_X_isNoted 20 [some (.int x0), some (.int x1)] [] (fm_mk S) r) : am_Ev d k_X_isNoted 17 [some (.int x0), some (.int x1)] [.int sx0] (fm_mk S) r := by
  exact fs_ifeq (off := 7) (tgt := 24) (by decide +kernel) (by decide) kt kf
theorem b_X_isNoted_20 {d : Nat} {x0 : Int32} {x1 : Int32} {S : fm_S} {r : Option Value × am_W} (nx : am_Ev d k_X_isNoted 25 [some (.int x0), some (.int x1)] [.int 1] (fm_mk S) r) : am_Ev d k_X_isNoted 20 [some (.int x0), some (.int x1)] [] (fm_mk S) r := by
  refine fs_iconst (n := 1) (v := 1) (by decide +kernel) (by decide) ?_
  refine fs_goto (off := 4) (tgt := 25) (by decide +kernel) (by decide) ?_
  exact nx
theorem b_X_isNoted_24 {d : Nat} {x0 : Int32} {x1 : Int32} {S : fm_S} {r : Option Value × am_W} (nx : am_Ev d k_X_isNoted 25 [some (.int x0), some (.int x1)] [.int 0] (fm_mk S) r) : am_Ev d k_X_isNoted 24 [some (.int x0), some (.int x1)] [] (fm_mk S) r := by
  refine fs_iconst (n := 0) (v := 0) (by decide +kernel) (by decide) ?_
  exact nx
theorem b_X_isNoted_25 {d : Nat} {x0 : Int32} {x1 : Int32} {sx0 : Int32} {S : fm_S}  (hz : sx0 = 0 ∨ sx0 = 1) : am_Ev d k_X_isNoted 25 [some (.int x0), some (.int x1)] [.int sx0] (fm_mk S) (some (.int sx0), fm_mk S) := by
  exact fe_retZ (by decide +kernel) (by decide +kernel) hz
-- KitchenSiege.forget()I
theorem b_X_forget_0 {d : Nat} {o1 : Option Value} {S : fm_S}  : am_Ev d k_X_forget 0 [some (.ref 0), o1] [] (fm_mk S) (some (.int (S.1 11 0)), fm_mk (fm_wI S 11 0 0)) := by
  refine fs_aloadn (j := 0) (by decide +kernel) rfl ?_
  refine fe_getR (idx := 10) (t := 7) (f := 0) (fk := 2) (fin := 1) (wp := 332) (x := 1) (by decide +kernel) (by decide +kernel) (by decide +kernel) (by decide +kernel) (by decide +kernel) ?_
  refine fe_getR (idx := 197) (t := 6) (f := 11) (fk := 2) (fin := 1) (wp := 187) (x := 11) (by decide +kernel) (by decide +kernel) (by decide +kernel) (by decide +kernel) (by decide +kernel) ?_
  refine fe_getI (idx := 207) (t := 4) (f := 0) (fk := 0) (fin := 0) (wp := 97) (by decide +kernel) (by decide +kernel) (by decide +kernel) (by decide +kernel) ?_
  refine fs_istoren (j := 1) (L' := [some (.ref 0), some (.int (S.1 11 0))]) (by decide +kernel) (Nat.le_of_ble_eq_true rfl) rfl ?_
  refine fs_aloadn (j := 0) (by decide +kernel) rfl ?_
  refine fe_getR (idx := 10) (t := 7) (f := 0) (fk := 2) (fin := 1) (wp := 332) (x := 1) (by decide +kernel) (by decide +kernel) (by decide +kernel) (by decide +kernel) (by decide +kernel) ?_
  refine fe_getR (idx := 197) (t := 6) (f := 11) (fk := 2) (fin := 1) (wp := 187) (x := 11) (by decide +kernel) (by decide +kernel) (by decide +kernel) (by decide +kernel) (by decide +kernel) ?_
  refine fs_iconst (n := 0) (v := 0) (by decide +kernel) (by decide) ?_
  refine fe_putI (idx := 207) (t := 4) (f := 0) (wp := 97) (by decide +kernel) (by decide +kernel) (by decide +kernel) (by decide +kernel) ?_
  refine fs_iloadn (j := 1) (by decide +kernel) rfl ?_
  exact fe_retI (by decide +kernel) (by decide +kernel)
-- KitchenSiege.craved(I)I
theorem b_X_craved_0 {d : Nat} {x1 : Int32} {v : Int32} {S1 : fm_S} {S : fm_S} {r : Option Value × am_W} (hc : am_Sp d k_X_isStreet [.ref 0, .int x1] (fm_mk S) (some (.int v)) (fm_mk S1)) (nx : am_Ev (d + 1) k_X_craved 5 [some (.ref 0), some (.int x1)] [.int v] (fm_mk S1) r) : am_Ev (d + 1) k_X_craved 0 [some (.ref 0), some (.int x1)] [] (fm_mk S) r := by
  refine fs_aloadn (j := 0) (by decide +kernel) rfl ?_
  refine fs_iloadn (j := 1) (by decide +kernel) rfl ?_
  exact fe_callV (t := 7) (idx := 69) (n := 1) (wp := 389) (q := (391, 2)) (as := [.int x1]) (rs := []) (by decide +kernel) (by decide +kernel) (by decide +kernel) (by decide +kernel) rfl (Nat.le_of_ble_eq_true rfl) rfl hc nx
theorem b_X_craved_5 {d : Nat} {x1 : Int32} {sx0 : Int32} {S : fm_S} {r : Option Value × am_W} (kt : ¬ sx0 = 0 → am_Ev d k_X_craved 13 [some (.ref 0), some (.int x1)] [] (fm_mk S) r) (kf : sx0 = 0 → am_Ev d k_X_craved 8 [some (.ref 0), some (.int x1)] [] (fm_mk S) r) : am_Ev d k_X_craved 5 [some (.ref 0), some (.int x1)] [.int sx0] (fm_mk S) r := by
  exact fs_ifne (off := 8) (tgt := 13) (by decide +kernel) (by decide) kt kf
theorem b_X_craved_8 {d : Nat} {x1 : Int32} {v : Int32} {S1 : fm_S} {S : fm_S} {r : Option Value × am_W} (hc : am_Sp d k_X_bad [.ref 0] (fm_mk S) (some (.int v)) (fm_mk S1)) (nx : am_Ev (d + 1) k_X_craved 12 [some (.ref 0), some (.int x1)] [.int v] (fm_mk S1) r) : am_Ev (d + 1) k_X_craved 8 [some (.ref 0), some (.int x1)] [] (fm_mk S) r := by
  refine fs_aloadn (j := 0) (by decide +kernel) rfl ?_
  exact fe_callV (t := 7) (idx := 58) (n := 0) (wp := 373) (q := (375, 0)) (as := []) (rs := []) (by decide +kernel) (by decide +kernel) (by decide +kernel) (by decide +kernel) rfl (Nat.le_of_ble_eq_true rfl) rfl hc nx
theorem b_X_craved_12 {d : Nat} {x1 : Int32} {sx0 : Int32} {S : fm_S}  : am_Ev d k_X_craved 12 [some (.ref 0), some (.int x1)] [.int sx0] (fm_mk S) (some (.int sx0), fm_mk S) := by
  exact fe_retI (by decide +kernel) (by decide +kernel)
theorem b_X_craved_13 {d : Nat} {x1 : Int32} {v : Int32} {S1 : fm_S} {S : fm_S} {r : Option Value × am_W} (hi0 : vp_in x1 8) (hc : am_Sp d k_Notes_cravings [.ref 11, .int x1, .int (S.1 2 x1.toNatClampNeg)] (fm_mk S) (some (.int v)) (fm_mk S1)) (nx : am_Ev (d + 1) k_X_craved 33 [some (.ref 0), some (.int x1)] [.int v] (fm_mk S1) r) : am_Ev (d + 1) k_X_craved 13 [some (.ref 0), some (.int x1)] [] (fm_mk S) r := by
  refine fs_aloadn (j := 0) (by decide +kernel) rfl ?_
  refine fe_getR (idx := 10) (t := 7) (f := 0) (fk := 2) (fin := 1) (wp := 332) (x := 1) (by decide +kernel) (by decide +kernel) (by decide +kernel) (by decide +kernel) (by decide +kernel) ?_
  refine fe_getR (idx := 197) (t := 6) (f := 11) (fk := 2) (fin := 1) (wp := 187) (x := 11) (by decide +kernel) (by decide +kernel) (by decide +kernel) (by decide +kernel) (by decide +kernel) ?_
  refine fs_iloadn (j := 1) (by decide +kernel) rfl ?_
  refine fs_aloadn (j := 0) (by decide +kernel) rfl ?_
  refine fe_getR (idx := 10) (t := 7) (f := 0) (fk := 2) (fin := 1) (wp := 332) (x := 1) (by decide +kernel) (by decide +kernel) (by decide +kernel) (by decide +kernel) (by decide +kernel) ?_
  refine fe_getR (idx := 142) (t := 6) (f := 1) (fk := 2) (fin := 1) (wp := 162) (x := 2) (by decide +kernel) (by decide +kernel) (by decide +kernel) (by decide +kernel) (by decide +kernel) ?_
  refine fs_iloadn (j := 1) (by decide +kernel) rfl ?_
  refine fx_iald (n := x1.toNatClampNeg) (len := 8) (by decide +kernel) (by decide +kernel) (by decide +kernel) hi0 rfl ?_
  exact fe_callV (t := 4) (idx := 210) (n := 2) (wp := 811) (q := (812, 813)) (as := [.int x1, .int (S.1 2 x1.toNatClampNeg)]) (rs := []) (by decide +kernel) (by decide +kernel) (by decide +kernel) (by decide +kernel) rfl (Nat.le_of_ble_eq_true rfl) rfl hc nx
theorem b_X_craved_33 {d : Nat} {x1 : Int32} {sx0 : Int32} {S : fm_S}  : am_Ev d k_X_craved 33 [some (.ref 0), some (.int x1)] [.int sx0] (fm_mk S) (some (.int sx0), fm_mk S) := by
  exact fe_retI (by decide +kernel) (by decide +kernel)
-- KitchenSiege.is(I)I
theorem b_X_is_0 {d : Nat} {x1 : Int32} {o2 : Option Value} {o3 : Option Value} {v : Int32} {S1 : fm_S} {S : fm_S} {r : Option Value × am_W} (hc : am_Sp d k_X_isStreet [.ref 0, .int x1] (fm_mk S) (some (.int v)) (fm_mk S1)) (nx : am_Ev (d + 1) k_X_is 5 [some (.ref 0), some (.int x1), o2, o3] [.int v] (fm_mk S1) r) : am_Ev (d + 1) k_X_is 0 [some (.ref 0), some (.int x1), o2, o3] [] (fm_mk S) r := by
  refine fs_aloadn (j := 0) (by decide +kernel) rfl ?_
  refine fs_iloadn (j := 1) (by decide +kernel) rfl ?_
  exact fe_callV (t := 7) (idx := 69) (n := 1) (wp := 389) (q := (391, 2)) (as := [.int x1]) (rs := []) (by decide +kernel) (by decide +kernel) (by decide +kernel) (by decide +kernel) rfl (Nat.le_of_ble_eq_true rfl) rfl hc nx
theorem b_X_is_5 {d : Nat} {x1 : Int32} {o2 : Option Value} {o3 : Option Value} {sx0 : Int32} {S : fm_S} {r : Option Value × am_W} (kt : ¬ sx0 = 0 → am_Ev d k_X_is 13 [some (.ref 0), some (.int x1), o2, o3] [] (fm_mk S) r) (kf : sx0 = 0 → am_Ev d k_X_is 8 [some (.ref 0), some (.int x1), o2, o3] [] (fm_mk S) r) : am_Ev d k_X_is 5 [some (.ref 0), some (.int x1), o2, o3] [.int sx0] (fm_mk S) r := by
  exact fs_ifne (off := 8) (tgt := 13) (by decide +kernel) (by decide) kt kf
theorem b_X_is_8 {d : Nat} {x1 : Int32} {o2 : Option Value} {o3 : Option Value} {v : Int32} {S1 : fm_S} {S : fm_S} {r : Option Value × am_W} (hc : am_Sp d k_X_bad [.ref 0] (fm_mk S) (some (.int v)) (fm_mk S1)) (nx : am_Ev (d + 1) k_X_is 12 [some (.ref 0), some (.int x1), o2, o3] [.int v] (fm_mk S1) r) : am_Ev (d + 1) k_X_is 8 [some (.ref 0), some (.int x1), o2, o3] [] (fm_mk S) r := by
  refine fs_aloadn (j := 0) (by decide +kernel) rfl ?_
  exact fe_callV (t := 7) (idx := 58) (n := 0) (wp := 373) (q := (375, 0)) (as := []) (rs := []) (by decide +kernel) (by decide +kernel) (by decide +kernel) (by decide +kernel) rfl (Nat.le_of_ble_eq_true rfl) rfl hc nx
theorem b_X_is_12 {d : Nat} {x1 : Int32} {o2 : Option Value} {o3 : Option Value} {sx0 : Int32} {S : fm_S}  : am_Ev d k_X_is 12 [some (.ref 0), some (.int x1), o2, o3] [.int sx0] (fm_mk S) (some (.int sx0), fm_mk S) := by
  exact fe_retI (by decide +kernel) (by decide +kernel)
theorem b_X_is_13 {d : Nat} {x1 : Int32} {o2 : Option Value} {o3 : Option Value} {S : fm_S} {r : Option Value × am_W} (nx : am_Ev d k_X_is 17 [some (.ref 0), some (.int x1), some (.int 0), some (.int 0)] [] (fm_mk S) r) : am_Ev d k_X_is 13 [some (.ref 0), some (.int x1), o2, o3] [] (fm_mk S) r := by
  refine fs_iconst (n := 0) (v := 0) (by decide +kernel) (by decide) ?_
  refine fs_istoren (j := 2) (L' := [some (.ref 0), some (.int x1), some (.int 0), o3]) (by decide +kernel) (Nat.le_of_ble_eq_true rfl) rfl ?_
  refine fs_iconst (n := 0) (v := 0) (by decide +kernel) (by decide) ?_
  refine fs_istoren (j := 3) (L' := [some (.ref 0), some (.int x1), some (.int 0), some (.int 0)]) (by decide +kernel) (Nat.le_of_ble_eq_true rfl) rfl ?_
  exact nx
theorem b_X_is_17 {d : Nat} {x1 : Int32} {x2 : Int32} {x3 : Int32} {S : fm_S} {r : Option Value × am_W} (kt : 6 ≤ x3 → am_Ev d k_X_is 50 [some (.ref 0), some (.int x1), some (.int x2), some (.int x3)] [] (fm_mk S) r) (kf : ¬ 6 ≤ x3 → am_Ev d k_X_is 23 [some (.ref 0), some (.int x1), some (.int x2), some (.int x3)] [] (fm_mk S) r) : am_Ev d k_X_is 17 [some (.ref 0), some (.int x1), some (.int x2), some (.int x3)] [] (fm_mk S) r := by
  refine fs_iloadn (j := 3) (by decide +kernel) rfl ?_
  refine fs_bipush (n := 6) (v := 6) (by decide +kernel) (by decide) ?_
  exact fs_icge (off := 30) (tgt := 50) (by decide +kernel) (by decide) kt kf
theorem b_X_is_23 {d : Nat} {x1 : Int32} {x2 : Int32} {x3 : Int32} {v : Int32} {S1 : fm_S} {S : fm_S} {r : Option Value × am_W} (hc : am_Sp d k_Notes_cravings [.ref 11, .int x1, .int x3] (fm_mk S) (some (.int v)) (fm_mk S1)) (nx : am_Ev (d + 1) k_X_is 35 [some (.ref 0), some (.int x1), some (.int x2), some (.int x3)] [.int v] (fm_mk S1) r) : am_Ev (d + 1) k_X_is 23 [some (.ref 0), some (.int x1), some (.int x2), some (.int x3)] [] (fm_mk S) r := by
  refine fs_aloadn (j := 0) (by decide +kernel) rfl ?_
  refine fe_getR (idx := 10) (t := 7) (f := 0) (fk := 2) (fin := 1) (wp := 332) (x := 1) (by decide +kernel) (by decide +kernel) (by decide +kernel) (by decide +kernel) (by decide +kernel) ?_
  refine fe_getR (idx := 197) (t := 6) (f := 11) (fk := 2) (fin := 1) (wp := 187) (x := 11) (by decide +kernel) (by decide +kernel) (by decide +kernel) (by decide +kernel) (by decide +kernel) ?_
  refine fs_iloadn (j := 1) (by decide +kernel) rfl ?_
  refine fs_iloadn (j := 3) (by decide +kernel) rfl ?_
  exact fe_callV (t := 4) (idx := 210) (n := 2) (wp := 811) (q := (812, 813)) (as := [.int x1, .int x3]) (rs := []) (by decide +kernel) (by decide +kernel) (by decide +kernel) (by decide +kernel) rfl (Nat.le_of_ble_eq_true rfl) rfl hc nx
theorem b_X_is_35 {d : Nat} {x1 : Int32} {x2 : Int32} {x3 : Int32} {sx0 : Int32} {S : fm_S} {r : Option Value × am_W} (kt : sx0 = 0 → am_Ev d k_X_is 44 [some (.ref 0), some (.int x1), some (.int x2), some (.int x3)] [] (fm_mk S) r) (kf : ¬ sx0 = 0 → am_Ev d k_X_is 38 [some (.ref 0), some (.int x1), some (.int x2), some (.int x3)] [] (fm_mk S) r) : am_Ev d k_X_is 35 [some (.ref 0), some (.int x1), some (.int x2), some (.int x3)] [.int sx0] (fm_mk S) r := by
  exact fs_ifeq (off := 9) (tgt := 44) (by decide +kernel) (by decide) kt kf
theorem b_X_is_38 {d : Nat} {x1 : Int32} {x2 : Int32} {x3 : Int32} {S : fm_S} {r : Option Value × am_W} (nx : am_Ev d k_X_is 44 [some (.ref 0), some (.int x1), some (.int (x2 ||| (1 <<< (x3 &&& 31)))), some (.int x3)] [] (fm_mk S) r) : am_Ev d k_X_is 38 [some (.ref 0), some (.int x1), some (.int x2), some (.int x3)] [] (fm_mk S) r := by
  refine fs_iloadn (j := 2) (by decide +kernel) rfl ?_
  refine fs_iconst (n := 1) (v := 1) (by decide +kernel) (by decide) ?_
  refine fs_iloadn (j := 3) (by decide +kernel) rfl ?_
  refine fs_ishl (by decide +kernel) ?_
  refine fs_ior (by decide +kernel) ?_
  refine fs_istoren (j := 2) (L' := [some (.ref 0), some (.int x1), some (.int (x2 ||| (1 <<< (x3 &&& 31)))), some (.int x3)]) (by decide +kernel) (Nat.le_of_ble_eq_true rfl) rfl ?_
  exact nx
theorem b_X_is_44 {d : Nat} {x1 : Int32} {x2 : Int32} {x3 : Int32} {S : fm_S} {r : Option Value × am_W} (nx : am_Ev d k_X_is 17 [some (.ref 0), some (.int x1), some (.int x2), some (.int (x3 + 1))] [] (fm_mk S) r) : am_Ev d k_X_is 44 [some (.ref 0), some (.int x1), some (.int x2), some (.int x3)] [] (fm_mk S) r := by
  refine fs_iinc (j := 3) (n := 1) (v := 1) (L' := [some (.ref 0), some (.int x1), some (.int x2), some (.int (x3 + 1))]) (by decide +kernel) rfl (Nat.le_of_ble_eq_true rfl) (by decide) rfl ?_
  refine fs_goto (off := -30) (tgt := 17) (by decide +kernel) (by decide) ?_
  exact nx
theorem b_X_is_50 {d : Nat} {x1 : Int32} {x2 : Int32} {x3 : Int32} {S : fm_S}  : am_Ev d k_X_is 50 [some (.ref 0), some (.int x1), some (.int x2), some (.int x3)] [] (fm_mk S) (some (.int x2), fm_mk S) := by
  refine fs_iloadn (j := 2) (by decide +kernel) rfl ?_
  exact fe_retI (by decide +kernel) (by decide +kernel)
-- KitchenSiege.tryNext(III)I
theorem b_X_tryNext_0 {d : Nat} {x1 : Int32} {x2 : Int32} {x3 : Int32} {v : Int32} {S1 : fm_S} {S : fm_S} {r : Option Value × am_W} (hc : am_Sp d k_X_isStreet [.ref 0, .int x1] (fm_mk S) (some (.int v)) (fm_mk S1)) (nx : am_Ev (d + 1) k_X_tryNext 5 [some (.ref 0), some (.int x1), some (.int x2), some (.int x3)] [.int v] (fm_mk S1) r) : am_Ev (d + 1) k_X_tryNext 0 [some (.ref 0), some (.int x1), some (.int x2), some (.int x3)] [] (fm_mk S) r := by
  refine fs_aloadn (j := 0) (by decide +kernel) rfl ?_
  refine fs_iloadn (j := 1) (by decide +kernel) rfl ?_
  exact fe_callV (t := 7) (idx := 69) (n := 1) (wp := 389) (q := (391, 2)) (as := [.int x1]) (rs := []) (by decide +kernel) (by decide +kernel) (by decide +kernel) (by decide +kernel) rfl (Nat.le_of_ble_eq_true rfl) rfl hc nx
theorem b_X_tryNext_5 {d : Nat} {x1 : Int32} {x2 : Int32} {x3 : Int32} {sx0 : Int32} {S : fm_S} {r : Option Value × am_W} (kt : sx0 = 0 → am_Ev d k_X_tryNext 16 [some (.ref 0), some (.int x1), some (.int x2), some (.int x3)] [] (fm_mk S) r) (kf : ¬ sx0 = 0 → am_Ev d k_X_tryNext 8 [some (.ref 0), some (.int x1), some (.int x2), some (.int x3)] [] (fm_mk S) r) : am_Ev d k_X_tryNext 5 [some (.ref 0), some (.int x1), some (.int x2), some (.int x3)] [.int sx0] (fm_mk S) r := by
  exact fs_ifeq (off := 11) (tgt := 16) (by decide +kernel) (by decide) kt kf
theorem b_X_tryNext_8 {d : Nat} {x1 : Int32} {x2 : Int32} {x3 : Int32} {v : Int32} {S1 : fm_S} {S : fm_S} {r : Option Value × am_W} (hc : am_Sp d k_X_isNoted [.int x2, .int x3] (fm_mk S) (some (.int v)) (fm_mk S1)) (nx : am_Ev (d + 1) k_X_tryNext 13 [some (.ref 0), some (.int x1), some (.int x2), some (.int x3)] [.int v] (fm_mk S1) r) : am_Ev (d + 1) k_X_tryNext 8 [some (.ref 0), some (.int x1), some (.int x2), some (.int x3)] [] (fm_mk S) r := by
  refine fs_iloadn (j := 2) (by decide +kernel) rfl ?_
  refine fs_iloadn (j := 3) (by decide +kernel) rfl ?_
  exact fe_callS (idx := 194) (kd := 0) (n := 2) (wp := 796) (q := (797, 0)) (as := [.int x2, .int x3]) (rs := []) (by decide +kernel) (by decide +kernel) (by decide +kernel) (by decide) rfl (Nat.le_of_ble_eq_true rfl) rfl hc nx
theorem b_X_tryNext_13 {d : Nat} {x1 : Int32} {x2 : Int32} {x3 : Int32} {sx0 : Int32} {S : fm_S} {r : Option Value × am_W} (kt : ¬ sx0 = 0 → am_Ev d k_X_tryNext 21 [some (.ref 0), some (.int x1), some (.int x2), some (.int x3)] [] (fm_mk S) r) (kf : sx0 = 0 → am_Ev d k_X_tryNext 16 [some (.ref 0), some (.int x1), some (.int x2), some (.int x3)] [] (fm_mk S) r) : am_Ev d k_X_tryNext 13 [some (.ref 0), some (.int x1), some (.int x2), some (.int x3)] [.int sx0] (fm_mk S) r := by
  exact fs_ifne (off := 8) (tgt := 21) (by decide +kernel) (by decide) kt kf
theorem b_X_tryNext_16 {d : Nat} {x1 : Int32} {x2 : Int32} {x3 : Int32} {v : Int32} {S1 : fm_S} {S : fm_S} {r : Option Value × am_W} (hc : am_Sp d k_X_bad [.ref 0] (fm_mk S) (some (.int v)) (fm_mk S1)) (nx : am_Ev (d + 1) k_X_tryNext 20 [some (.ref 0), some (.int x1), some (.int x2), some (.int x3)] [.int v] (fm_mk S1) r) : am_Ev (d + 1) k_X_tryNext 16 [some (.ref 0), some (.int x1), some (.int x2), some (.int x3)] [] (fm_mk S) r := by
  refine fs_aloadn (j := 0) (by decide +kernel) rfl ?_
  exact fe_callV (t := 7) (idx := 58) (n := 0) (wp := 373) (q := (375, 0)) (as := []) (rs := []) (by decide +kernel) (by decide +kernel) (by decide +kernel) (by decide +kernel) rfl (Nat.le_of_ble_eq_true rfl) rfl hc nx
theorem b_X_tryNext_20 {d : Nat} {x1 : Int32} {x2 : Int32} {x3 : Int32} {sx0 : Int32} {S : fm_S}  : am_Ev d k_X_tryNext 20 [some (.ref 0), some (.int x1), some (.int x2), some (.int x3)] [.int sx0] (fm_mk S) (some (.int sx0), fm_mk S) := by
  exact fe_retI (by decide +kernel) (by decide +kernel)
theorem b_X_tryNext_21 {d : Nat} {x1 : Int32} {x2 : Int32} {x3 : Int32} {v : Int32} {S1 : fm_S} {S : fm_S} {r : Option Value × am_W} (hi0 : vp_in x1 8) (hc : am_Sp d k_Notes_bestTrial [.ref 11, .int x1, .int (S.1 2 x1.toNatClampNeg), .int x2, .int x3] (fm_mk S) (some (.int v)) (fm_mk S1)) (nx : am_Ev (d + 1) k_X_tryNext 43 [some (.ref 0), some (.int x1), some (.int x2), some (.int x3)] [.int v] (fm_mk S1) r) : am_Ev (d + 1) k_X_tryNext 21 [some (.ref 0), some (.int x1), some (.int x2), some (.int x3)] [] (fm_mk S) r := by
  refine fs_aloadn (j := 0) (by decide +kernel) rfl ?_
  refine fe_getR (idx := 10) (t := 7) (f := 0) (fk := 2) (fin := 1) (wp := 332) (x := 1) (by decide +kernel) (by decide +kernel) (by decide +kernel) (by decide +kernel) (by decide +kernel) ?_
  refine fe_getR (idx := 197) (t := 6) (f := 11) (fk := 2) (fin := 1) (wp := 187) (x := 11) (by decide +kernel) (by decide +kernel) (by decide +kernel) (by decide +kernel) (by decide +kernel) ?_
  refine fs_iloadn (j := 1) (by decide +kernel) rfl ?_
  refine fs_aloadn (j := 0) (by decide +kernel) rfl ?_
  refine fe_getR (idx := 10) (t := 7) (f := 0) (fk := 2) (fin := 1) (wp := 332) (x := 1) (by decide +kernel) (by decide +kernel) (by decide +kernel) (by decide +kernel) (by decide +kernel) ?_
  refine fe_getR (idx := 142) (t := 6) (f := 1) (fk := 2) (fin := 1) (wp := 162) (x := 2) (by decide +kernel) (by decide +kernel) (by decide +kernel) (by decide +kernel) (by decide +kernel) ?_
  refine fs_iloadn (j := 1) (by decide +kernel) rfl ?_
  refine fx_iald (n := x1.toNatClampNeg) (len := 8) (by decide +kernel) (by decide +kernel) (by decide +kernel) hi0 rfl ?_
  refine fs_iloadn (j := 2) (by decide +kernel) rfl ?_
  refine fs_iloadn (j := 3) (by decide +kernel) rfl ?_
  exact fe_callV (t := 4) (idx := 213) (n := 4) (wp := 831) (q := (832, 833)) (as := [.int x1, .int (S.1 2 x1.toNatClampNeg), .int x2, .int x3]) (rs := []) (by decide +kernel) (by decide +kernel) (by decide +kernel) (by decide +kernel) rfl (Nat.le_of_ble_eq_true rfl) rfl hc nx
theorem b_X_tryNext_43 {d : Nat} {x1 : Int32} {x2 : Int32} {x3 : Int32} {sx0 : Int32} {S : fm_S}  : am_Ev d k_X_tryNext 43 [some (.ref 0), some (.int x1), some (.int x2), some (.int x3)] [.int sx0] (fm_mk S) (some (.int sx0), fm_mk S) := by
  exact fe_retI (by decide +kernel) (by decide +kernel)
-- KitchenSiege.rain(III)I
theorem b_X_rain_0 {d : Nat} {x1 : Int32} {x2 : Int32} {x3 : Int32} {v : Int32} {S1 : fm_S} {S : fm_S} {r : Option Value × am_W} (hc : am_Sp d k_X_isDish [.ref 0, .int x1] (fm_mk S) (some (.int v)) (fm_mk S1)) (nx : am_Ev (d + 1) k_X_rain 5 [some (.ref 0), some (.int x1), some (.int x2), some (.int x3)] [.int v] (fm_mk S1) r) : am_Ev (d + 1) k_X_rain 0 [some (.ref 0), some (.int x1), some (.int x2), some (.int x3)] [] (fm_mk S) r := by
  refine fs_aloadn (j := 0) (by decide +kernel) rfl ?_
  refine fs_iloadn (j := 1) (by decide +kernel) rfl ?_
  exact fe_callV (t := 7) (idx := 116) (n := 1) (wp := 582) (q := (584, 16)) (as := [.int x1]) (rs := []) (by decide +kernel) (by decide +kernel) (by decide +kernel) (by decide +kernel) rfl (Nat.le_of_ble_eq_true rfl) rfl hc nx
theorem b_X_rain_5 {d : Nat} {x1 : Int32} {x2 : Int32} {x3 : Int32} {sx0 : Int32} {S : fm_S} {r : Option Value × am_W} (kt : sx0 = 0 → am_Ev d k_X_rain 28 [some (.ref 0), some (.int x1), some (.int x2), some (.int x3)] [] (fm_mk S) r) (kf : ¬ sx0 = 0 → am_Ev d k_X_rain 8 [some (.ref 0), some (.int x1), some (.int x2), some (.int x3)] [] (fm_mk S) r) : am_Ev d k_X_rain 5 [some (.ref 0), some (.int x1), some (.int x2), some (.int x3)] [.int sx0] (fm_mk S) r := by
  exact fs_ifeq (off := 23) (tgt := 28) (by decide +kernel) (by decide) kt kf
theorem b_X_rain_8 {d : Nat} {x1 : Int32} {x2 : Int32} {x3 : Int32} {v : Int32} {S1 : fm_S} {S : fm_S} {r : Option Value × am_W} (hc : am_Sp d k_X_within [.int x2, .int 0, .int 10] (fm_mk S) (some (.int v)) (fm_mk S1)) (nx : am_Ev (d + 1) k_X_rain 15 [some (.ref 0), some (.int x1), some (.int x2), some (.int x3)] [.int v] (fm_mk S1) r) : am_Ev (d + 1) k_X_rain 8 [some (.ref 0), some (.int x1), some (.int x2), some (.int x3)] [] (fm_mk S) r := by
  refine fs_iloadn (j := 2) (by decide +kernel) rfl ?_
  refine fs_iconst (n := 0) (v := 0) (by decide +kernel) (by decide) ?_
  refine fs_bipush (n := 10) (v := 10) (by decide +kernel) (by decide) ?_
  exact fe_callS (idx := 54) (kd := 0) (n := 3) (wp := 370) (q := (371, 0)) (as := [.int x2, .int 0, .int 10]) (rs := []) (by decide +kernel) (by decide +kernel) (by decide +kernel) (by decide) rfl (Nat.le_of_ble_eq_true rfl) rfl hc nx
theorem b_X_rain_15 {d : Nat} {x1 : Int32} {x2 : Int32} {x3 : Int32} {sx0 : Int32} {S : fm_S} {r : Option Value × am_W} (kt : sx0 = 0 → am_Ev d k_X_rain 28 [some (.ref 0), some (.int x1), some (.int x2), some (.int x3)] [] (fm_mk S) r) (kf : ¬ sx0 = 0 → am_Ev d k_X_rain 18 [some (.ref 0), some (.int x1), some (.int x2), some (.int x3)] [] (fm_mk S) r) : am_Ev d k_X_rain 15 [some (.ref 0), some (.int x1), some (.int x2), some (.int x3)] [.int sx0] (fm_mk S) r := by
  exact fs_ifeq (off := 13) (tgt := 28) (by decide +kernel) (by decide) kt kf
theorem b_X_rain_18 {d : Nat} {x1 : Int32} {x2 : Int32} {x3 : Int32} {v : Int32} {S1 : fm_S} {S : fm_S} {r : Option Value × am_W} (hc : am_Sp d k_X_within [.int x3, .int 0, .int 8] (fm_mk S) (some (.int v)) (fm_mk S1)) (nx : am_Ev (d + 1) k_X_rain 25 [some (.ref 0), some (.int x1), some (.int x2), some (.int x3)] [.int v] (fm_mk S1) r) : am_Ev (d + 1) k_X_rain 18 [some (.ref 0), some (.int x1), some (.int x2), some (.int x3)] [] (fm_mk S) r := by
  refine fs_iloadn (j := 3) (by decide +kernel) rfl ?_
  refine fs_iconst (n := 0) (v := 0) (by decide +kernel) (by decide) ?_
  refine fs_bipush (n := 8) (v := 8) (by decide +kernel) (by decide) ?_
  exact fe_callS (idx := 54) (kd := 0) (n := 3) (wp := 370) (q := (371, 0)) (as := [.int x3, .int 0, .int 8]) (rs := []) (by decide +kernel) (by decide +kernel) (by decide +kernel) (by decide) rfl (Nat.le_of_ble_eq_true rfl) rfl hc nx
theorem b_X_rain_25 {d : Nat} {x1 : Int32} {x2 : Int32} {x3 : Int32} {sx0 : Int32} {S : fm_S} {r : Option Value × am_W} (kt : ¬ sx0 = 0 → am_Ev d k_X_rain 33 [some (.ref 0), some (.int x1), some (.int x2), some (.int x3)] [] (fm_mk S) r) (kf : sx0 = 0 → am_Ev d k_X_rain 28 [some (.ref 0), some (.int x1), some (.int x2), some (.int x3)] [] (fm_mk S) r) : am_Ev d k_X_rain 25 [some (.ref 0), some (.int x1), some (.int x2), some (.int x3)] [.int sx0] (fm_mk S) r := by
  exact fs_ifne (off := 8) (tgt := 33) (by decide +kernel) (by decide) kt kf
theorem b_X_rain_28 {d : Nat} {x1 : Int32} {x2 : Int32} {x3 : Int32} {v : Int32} {S1 : fm_S} {S : fm_S} {r : Option Value × am_W} (hc : am_Sp d k_X_bad [.ref 0] (fm_mk S) (some (.int v)) (fm_mk S1)) (nx : am_Ev (d + 1) k_X_rain 32 [some (.ref 0), some (.int x1), some (.int x2), some (.int x3)] [.int v] (fm_mk S1) r) : am_Ev (d + 1) k_X_rain 28 [some (.ref 0), some (.int x1), some (.int x2), some (.int x3)] [] (fm_mk S) r := by
  refine fs_aloadn (j := 0) (by decide +kernel) rfl ?_
  exact fe_callV (t := 7) (idx := 58) (n := 0) (wp := 373) (q := (375, 0)) (as := []) (rs := []) (by decide +kernel) (by decide +kernel) (by decide +kernel) (by decide +kernel) rfl (Nat.le_of_ble_eq_true rfl) rfl hc nx
theorem b_X_rain_32 {d : Nat} {x1 : Int32} {x2 : Int32} {x3 : Int32} {sx0 : Int32} {S : fm_S}  : am_Ev d k_X_rain 32 [some (.ref 0), some (.int x1), some (.int x2), some (.int x3)] [.int sx0] (fm_mk S) (some (.int sx0), fm_mk S) := by
  exact fe_retI (by decide +kernel) (by decide +kernel)
theorem b_X_rain_33 {d : Nat} {x1 : Int32} {x2 : Int32} {x3 : Int32} {v : Int32} {S1 : fm_S} {S : fm_S} {r : Option Value × am_W} (hc : am_Sp d k_Cook_opening [.ref 54, .int x1, .int (-1), .int 0] (fm_mk S) (some (.int v)) (fm_mk S1)) (nx : am_Ev (d + 1) k_X_rain 47 [some (.ref 0), some (.int x1), some (.int x2), some (.int x3)] [.int v, .ref 122] (fm_mk S1) r) : am_Ev (d + 1) k_X_rain 33 [some (.ref 0), some (.int x1), some (.int x2), some (.int x3)] [] (fm_mk S) r := by
  refine fs_aloadn (j := 0) (by decide +kernel) rfl ?_
  refine fe_getR (idx := 35) (t := 7) (f := 3) (fk := 2) (fin := 1) (wp := 335) (x := 122) (by decide +kernel) (by decide +kernel) (by decide +kernel) (by decide +kernel) (by decide +kernel) ?_
  refine fs_aloadn (j := 0) (by decide +kernel) rfl ?_
  refine fe_getR (idx := 21) (t := 7) (f := 1) (fk := 2) (fin := 1) (wp := 333) (x := 54) (by decide +kernel) (by decide +kernel) (by decide +kernel) (by decide +kernel) (by decide +kernel) ?_
  refine fs_iloadn (j := 1) (by decide +kernel) rfl ?_
  refine fs_iconst (n := -1) (v := (-1)) (by decide +kernel) (by decide) ?_
  refine fs_iconst (n := 0) (v := 0) (by decide +kernel) (by decide) ?_
  exact fe_callV (t := 1) (idx := 188) (n := 3) (wp := 776) (q := (772, 773)) (as := [.int x1, .int (-1), .int 0]) (rs := [.ref 122]) (by decide +kernel) (by decide +kernel) (by decide +kernel) (by decide +kernel) rfl (Nat.le_of_ble_eq_true rfl) rfl hc nx
theorem b_X_rain_47 {d : Nat} {x1 : Int32} {x2 : Int32} {x3 : Int32} {sx1 : Int32} {S1 : fm_S} {S : fm_S} {r : Option Value × am_W} (hc : am_Sp d k_Frac_chance [.ref 122, .int sx1, .int x3, .int x2] (fm_mk S) (none) (fm_mk S1)) (nx : am_Ev (d + 1) k_X_rain 52 [some (.ref 0), some (.int x1), some (.int x2), some (.int x3)] [] (fm_mk S1) r) : am_Ev (d + 1) k_X_rain 47 [some (.ref 0), some (.int x1), some (.int x2), some (.int x3)] [.int sx1, .ref 122] (fm_mk S) r := by
  refine fs_iloadn (j := 3) (by decide +kernel) rfl ?_
  refine fs_iloadn (j := 2) (by decide +kernel) rfl ?_
  exact fe_callV (t := 3) (idx := 217) (n := 3) (wp := 846) (q := (847, 848)) (as := [.int sx1, .int x3, .int x2]) (rs := []) (by decide +kernel) (by decide +kernel) (by decide +kernel) (by decide +kernel) rfl (Nat.le_of_ble_eq_true rfl) rfl hc nx
theorem b_X_rain_52 {d : Nat} {x1 : Int32} {x2 : Int32} {x3 : Int32} {S : fm_S}  : am_Ev d k_X_rain 52 [some (.ref 0), some (.int x1), some (.int x2), some (.int x3)] [] (fm_mk S) (some (.int 1), fm_mk S) := by
  refine fs_iconst (n := 1) (v := 1) (by decide +kernel) (by decide) ?_
  exact fe_retI (by decide +kernel) (by decide +kernel)
-- KitchenSiege.sieges(II)I
theorem b_X_sieges_0 {d : Nat} {x1 : Int32} {x2 : Int32} {v : Int32} {S1 : fm_S} {S : fm_S} {r : Option Value × am_W} (hc : am_Sp d k_X_within [.int x1, .int 0, .int 999999] (fm_mk S) (some (.int v)) (fm_mk S1)) (nx : am_Ev (d + 1) k_X_sieges 7 [some (.ref 0), some (.int x1), some (.int x2)] [.int v] (fm_mk S1) r) : am_Ev (d + 1) k_X_sieges 0 [some (.ref 0), some (.int x1), some (.int x2)] [] (fm_mk S) r := by
  refine fs_iloadn (j := 1) (by decide +kernel) rfl ?_
  refine fs_iconst (n := 0) (v := 0) (by decide +kernel) (by decide) ?_
  refine fs_ldc (idx := 221) (q := 863) (v := 999999) (by decide +kernel) (by decide +kernel) ?_
  exact fe_callS (idx := 54) (kd := 0) (n := 3) (wp := 370) (q := (371, 0)) (as := [.int x1, .int 0, .int 999999]) (rs := []) (by decide +kernel) (by decide +kernel) (by decide +kernel) (by decide) rfl (Nat.le_of_ble_eq_true rfl) rfl hc nx
theorem b_X_sieges_7 {d : Nat} {x1 : Int32} {x2 : Int32} {sx0 : Int32} {S : fm_S} {r : Option Value × am_W} (kt : sx0 = 0 → am_Ev d k_X_sieges 20 [some (.ref 0), some (.int x1), some (.int x2)] [] (fm_mk S) r) (kf : ¬ sx0 = 0 → am_Ev d k_X_sieges 10 [some (.ref 0), some (.int x1), some (.int x2)] [] (fm_mk S) r) : am_Ev d k_X_sieges 7 [some (.ref 0), some (.int x1), some (.int x2)] [.int sx0] (fm_mk S) r := by
  exact fs_ifeq (off := 13) (tgt := 20) (by decide +kernel) (by decide) kt kf
theorem b_X_sieges_10 {d : Nat} {x1 : Int32} {x2 : Int32} {v : Int32} {S1 : fm_S} {S : fm_S} {r : Option Value × am_W} (hc : am_Sp d k_X_within [.int x2, .int 0, .int 60] (fm_mk S) (some (.int v)) (fm_mk S1)) (nx : am_Ev (d + 1) k_X_sieges 17 [some (.ref 0), some (.int x1), some (.int x2)] [.int v] (fm_mk S1) r) : am_Ev (d + 1) k_X_sieges 10 [some (.ref 0), some (.int x1), some (.int x2)] [] (fm_mk S) r := by
  refine fs_iloadn (j := 2) (by decide +kernel) rfl ?_
  refine fs_iconst (n := 0) (v := 0) (by decide +kernel) (by decide) ?_
  refine fs_bipush (n := 60) (v := 60) (by decide +kernel) (by decide) ?_
  exact fe_callS (idx := 54) (kd := 0) (n := 3) (wp := 370) (q := (371, 0)) (as := [.int x2, .int 0, .int 60]) (rs := []) (by decide +kernel) (by decide +kernel) (by decide +kernel) (by decide) rfl (Nat.le_of_ble_eq_true rfl) rfl hc nx
theorem b_X_sieges_17 {d : Nat} {x1 : Int32} {x2 : Int32} {sx0 : Int32} {S : fm_S} {r : Option Value × am_W} (kt : ¬ sx0 = 0 → am_Ev d k_X_sieges 25 [some (.ref 0), some (.int x1), some (.int x2)] [] (fm_mk S) r) (kf : sx0 = 0 → am_Ev d k_X_sieges 20 [some (.ref 0), some (.int x1), some (.int x2)] [] (fm_mk S) r) : am_Ev d k_X_sieges 17 [some (.ref 0), some (.int x1), some (.int x2)] [.int sx0] (fm_mk S) r := by
  exact fs_ifne (off := 8) (tgt := 25) (by decide +kernel) (by decide) kt kf
theorem b_X_sieges_20 {d : Nat} {x1 : Int32} {x2 : Int32} {v : Int32} {S1 : fm_S} {S : fm_S} {r : Option Value × am_W} (hc : am_Sp d k_X_bad [.ref 0] (fm_mk S) (some (.int v)) (fm_mk S1)) (nx : am_Ev (d + 1) k_X_sieges 24 [some (.ref 0), some (.int x1), some (.int x2)] [.int v] (fm_mk S1) r) : am_Ev (d + 1) k_X_sieges 20 [some (.ref 0), some (.int x1), some (.int x2)] [] (fm_mk S) r := by
  refine fs_aloadn (j := 0) (by decide +kernel) rfl ?_
  exact fe_callV (t := 7) (idx := 58) (n := 0) (wp := 373) (q := (375, 0)) (as := []) (rs := []) (by decide +kernel) (by decide +kernel) (by decide +kernel) (by decide +kernel) rfl (Nat.le_of_ble_eq_true rfl) rfl hc nx
theorem b_X_sieges_24 {d : Nat} {x1 : Int32} {x2 : Int32} {sx0 : Int32} {S : fm_S}  : am_Ev d k_X_sieges 24 [some (.ref 0), some (.int x1), some (.int x2)] [.int sx0] (fm_mk S) (some (.int sx0), fm_mk S) := by
  exact fe_retI (by decide +kernel) (by decide +kernel)
theorem b_X_sieges_25 {d : Nat} {x1 : Int32} {x2 : Int32} {v : Int32} {S1 : fm_S} {S : fm_S} {r : Option Value × am_W} (hc : am_Sp d k_Cook_openAfter [.ref 54, .int x1, .int x2] (fm_mk S) (some (.int v)) (fm_mk S1)) (nx : am_Ev (d + 1) k_X_sieges 34 [some (.ref 0), some (.int x1), some (.int x2)] [.int v] (fm_mk S1) r) : am_Ev (d + 1) k_X_sieges 25 [some (.ref 0), some (.int x1), some (.int x2)] [] (fm_mk S) r := by
  refine fs_aloadn (j := 0) (by decide +kernel) rfl ?_
  refine fe_getR (idx := 21) (t := 7) (f := 1) (fk := 2) (fin := 1) (wp := 333) (x := 54) (by decide +kernel) (by decide +kernel) (by decide +kernel) (by decide +kernel) (by decide +kernel) ?_
  refine fs_iloadn (j := 1) (by decide +kernel) rfl ?_
  refine fs_iloadn (j := 2) (by decide +kernel) rfl ?_
  exact fe_callV (t := 1) (idx := 222) (n := 2) (wp := 864) (q := (865, 866)) (as := [.int x1, .int x2]) (rs := []) (by decide +kernel) (by decide +kernel) (by decide +kernel) (by decide +kernel) rfl (Nat.le_of_ble_eq_true rfl) rfl hc nx
theorem b_X_sieges_34 {d : Nat} {x1 : Int32} {x2 : Int32} {sx0 : Int32} {S : fm_S}  : am_Ev d k_X_sieges 34 [some (.ref 0), some (.int x1), some (.int x2)] [.int sx0] (fm_mk S) (some (.int sx0), fm_mk S) := by
  exact fe_retI (by decide +kernel) (by decide +kernel)
-- KitchenSiege.part(I)J
theorem b_X_part_0 {d : Nat} {x1 : Int32} {S : fm_S} {r : Option Value × am_W} (k0 : x1 = 0 → am_Ev d k_X_part 28 [some (.ref 0), some (.int x1)] [] (fm_mk S) r) (k1 : x1 = 1 → am_Ev d k_X_part 36 [some (.ref 0), some (.int x1)] [] (fm_mk S) r) (kd : ¬ x1 = 0 → ¬ x1 = 1 → am_Ev d k_X_part 44 [some (.ref 0), some (.int x1)] [] (fm_mk S) r) : am_Ev d k_X_part 0 [some (.ref 0), some (.int x1)] [] (fm_mk S) r := by
  refine fs_iloadn (j := 1) (by decide +kernel) rfl ?_
  by_cases c0 : x1 = 0
  · exact fs_sw (i := .lookupswitch 43 #[(0, 27), (1, 35)]) (z := 27) (by decide +kernel) rfl (by rw [c0]; rfl) (k0 c0)
  by_cases c1 : x1 = 1
  · exact fs_sw (i := .lookupswitch 43 #[(0, 27), (1, 35)]) (z := 27) (by decide +kernel) rfl (by rw [c1]; rfl) (k1 c1)
  exact fs_lout2 (dflt := 43) (o0 := 27) (o1 := 35) (z := 27) (by decide +kernel) c0 c1 (by decide) (kd c0 c1)
theorem b_X_part_28 {d : Nat} {x1 : Int32} {S : fm_S}  : am_Ev d k_X_part 28 [some (.ref 0), some (.int x1)] [] (fm_mk S) (some (.long (S.2.1 122 0)), fm_mk S) := by
  refine fs_aloadn (j := 0) (by decide +kernel) rfl ?_
  refine fe_getR (idx := 35) (t := 7) (f := 3) (fk := 2) (fin := 1) (wp := 335) (x := 122) (by decide +kernel) (by decide +kernel) (by decide +kernel) (by decide +kernel) (by decide +kernel) ?_
  refine fe_getL (idx := 225) (t := 3) (f := 0) (fk := 1) (fin := 0) (wp := 323) (by decide +kernel) (by decide +kernel) (by decide +kernel) (by decide +kernel) ?_
  exact fe_retL (by decide +kernel) (by decide +kernel)
theorem b_X_part_36 {d : Nat} {x1 : Int32} {S : fm_S}  : am_Ev d k_X_part 36 [some (.ref 0), some (.int x1)] [] (fm_mk S) (some (.long (S.2.1 122 1)), fm_mk S) := by
  refine fs_aloadn (j := 0) (by decide +kernel) rfl ?_
  refine fe_getR (idx := 35) (t := 7) (f := 3) (fk := 2) (fin := 1) (wp := 335) (x := 122) (by decide +kernel) (by decide +kernel) (by decide +kernel) (by decide +kernel) (by decide +kernel) ?_
  refine fe_getL (idx := 229) (t := 3) (f := 1) (fk := 1) (fin := 0) (wp := 325) (by decide +kernel) (by decide +kernel) (by decide +kernel) (by decide +kernel) ?_
  exact fe_retL (by decide +kernel) (by decide +kernel)
theorem b_X_part_44 {d : Nat} {x1 : Int32} {v : Int32} {S1 : fm_S} {S : fm_S} {r : Option Value × am_W} (hc : am_Sp d k_X_bad [.ref 0] (fm_mk S) (some (.int v)) (fm_mk S1)) (nx : am_Ev (d + 1) k_X_part 48 [some (.ref 0), some (.int x1)] [.int v] (fm_mk S1) r) : am_Ev (d + 1) k_X_part 44 [some (.ref 0), some (.int x1)] [] (fm_mk S) r := by
  refine fs_aloadn (j := 0) (by decide +kernel) rfl ?_
  exact fe_callV (t := 7) (idx := 58) (n := 0) (wp := 373) (q := (375, 0)) (as := []) (rs := []) (by decide +kernel) (by decide +kernel) (by decide +kernel) (by decide +kernel) rfl (Nat.le_of_ble_eq_true rfl) rfl hc nx
theorem b_X_part_48 {d : Nat} {x1 : Int32} {sx0 : Int32} {S : fm_S}  : am_Ev d k_X_part 48 [some (.ref 0), some (.int x1)] [.int sx0] (fm_mk S) (some (.long sx0.toInt64), fm_mk S) := by
  refine fs_i2l (by decide +kernel) ?_
  exact fe_retL (by decide +kernel) (by decide +kernel)
-- KitchenSiege.image(I)I
theorem b_X_image_0 {d : Nat} {x1 : Int32} {v : Int32} {S1 : fm_S} {S : fm_S} {r : Option Value × am_W} (hc : am_Sp d k_X_isImage [.int x1] (fm_mk S) (some (.int v)) (fm_mk S1)) (nx : am_Ev (d + 1) k_X_image 4 [some (.ref 0), some (.int x1)] [.int v] (fm_mk S1) r) : am_Ev (d + 1) k_X_image 0 [some (.ref 0), some (.int x1)] [] (fm_mk S) r := by
  refine fs_iloadn (j := 1) (by decide +kernel) rfl ?_
  exact fe_callS (idx := 232) (kd := 0) (n := 1) (wp := 888) (q := (889, 0)) (as := [.int x1]) (rs := []) (by decide +kernel) (by decide +kernel) (by decide +kernel) (by decide) rfl (Nat.le_of_ble_eq_true rfl) rfl hc nx
theorem b_X_image_4 {d : Nat} {x1 : Int32} {sx0 : Int32} {S : fm_S} {r : Option Value × am_W} (kt : ¬ sx0 = 0 → am_Ev d k_X_image 12 [some (.ref 0), some (.int x1)] [] (fm_mk S) r) (kf : sx0 = 0 → am_Ev d k_X_image 7 [some (.ref 0), some (.int x1)] [] (fm_mk S) r) : am_Ev d k_X_image 4 [some (.ref 0), some (.int x1)] [.int sx0] (fm_mk S) r := by
  exact fs_ifne (off := 8) (tgt := 12) (by decide +kernel) (by decide) kt kf
theorem b_X_image_7 {d : Nat} {x1 : Int32} {v : Int32} {S1 : fm_S} {S : fm_S} {r : Option Value × am_W} (hc : am_Sp d k_X_bad [.ref 0] (fm_mk S) (some (.int v)) (fm_mk S1)) (nx : am_Ev (d + 1) k_X_image 11 [some (.ref 0), some (.int x1)] [.int v] (fm_mk S1) r) : am_Ev (d + 1) k_X_image 7 [some (.ref 0), some (.int x1)] [] (fm_mk S) r := by
  refine fs_aloadn (j := 0) (by decide +kernel) rfl ?_
  exact fe_callV (t := 7) (idx := 58) (n := 0) (wp := 373) (q := (375, 0)) (as := []) (rs := []) (by decide +kernel) (by decide +kernel) (by decide +kernel) (by decide +kernel) rfl (Nat.le_of_ble_eq_true rfl) rfl hc nx
theorem b_X_image_11 {d : Nat} {x1 : Int32} {sx0 : Int32} {S : fm_S}  : am_Ev d k_X_image 11 [some (.ref 0), some (.int x1)] [.int sx0] (fm_mk S) (some (.int sx0), fm_mk S) := by
  exact fe_retI (by decide +kernel) (by decide +kernel)
theorem b_X_image_12 {d : Nat} {x1 : Int32} {S1 : fm_S} {S : fm_S} {r : Option Value × am_W} (hi0 : vp_in x1 2) (ht1 : fm_tg (fm_rf 123 x1.toNatClampNeg) = 6) (hc : am_Sp d k_Town_copy [.ref (fm_rf 123 x1.toNatClampNeg), .ref 1] (fm_mk S) (none) (fm_mk S1)) (nx : am_Ev (d + 1) k_X_image 25 [some (.ref 0), some (.int x1)] [] (fm_mk S1) r) : am_Ev (d + 1) k_X_image 12 [some (.ref 0), some (.int x1)] [] (fm_mk S) r := by
  refine fs_aloadn (j := 0) (by decide +kernel) rfl ?_
  refine fe_getR (idx := 39) (t := 7) (f := 4) (fk := 2) (fin := 1) (wp := 336) (x := 123) (by decide +kernel) (by decide +kernel) (by decide +kernel) (by decide +kernel) (by decide +kernel) ?_
  refine fs_iloadn (j := 1) (by decide +kernel) rfl ?_
  refine fx_aald4 (n := x1.toNatClampNeg) (len := 2) (by decide +kernel) (by decide +kernel) (by decide +kernel) hi0 rfl ?_
  refine fs_aloadn (j := 0) (by decide +kernel) rfl ?_
  refine fe_getR (idx := 10) (t := 7) (f := 0) (fk := 2) (fin := 1) (wp := 332) (x := 1) (by decide +kernel) (by decide +kernel) (by decide +kernel) (by decide +kernel) (by decide +kernel) ?_
  exact fe_callV (t := 6) (idx := 110) (n := 1) (wp := 560) (q := (561, 562)) (as := [.ref 1]) (rs := []) (by decide +kernel) (by decide +kernel) ht1 (by decide +kernel) rfl (Nat.le_of_ble_eq_true rfl) rfl hc nx
theorem b_X_image_25 {d : Nat} {x1 : Int32} {S : fm_S}  (hi0 : vp_in x1 2) : am_Ev d k_X_image 25 [some (.ref 0), some (.int x1)] [] (fm_mk S) (some (.int 1), fm_mk (fm_wI S 230 x1.toNatClampNeg 1)) := by
  refine fs_aloadn (j := 0) (by decide +kernel) rfl ?_
  refine fe_getR (idx := 43) (t := 7) (f := 5) (fk := 2) (fin := 1) (wp := 337) (x := 230) (by decide +kernel) (by decide +kernel) (by decide +kernel) (by decide +kernel) (by decide +kernel) ?_
  refine fs_iloadn (j := 1) (by decide +kernel) rfl ?_
  refine fs_iconst (n := 1) (v := 1) (by decide +kernel) (by decide) ?_
  refine fx_bast (n := x1.toNatClampNeg) (len := 2) (by decide +kernel) (by decide +kernel) (by decide +kernel) hi0 rfl (by decide) ?_
  refine fs_iconst (n := 1) (v := 1) (by decide +kernel) (by decide) ?_
  exact fe_retI (by decide +kernel) (by decide +kernel)
-- KitchenSiege.isImage(I)Z
theorem b_X_isImage_0 {d : Nat} {x0 : Int32} {v : Int32} {S1 : fm_S} {S : fm_S} {r : Option Value × am_W} (hc : am_Sp d k_X_within [.int x0, .int 0, .int 1] (fm_mk S) (some (.int v)) (fm_mk S1)) (nx : am_Ev (d + 1) k_X_isImage 6 [some (.int x0)] [.int v] (fm_mk S1) r) : am_Ev (d + 1) k_X_isImage 0 [some (.int x0)] [] (fm_mk S) r := by
  refine fs_iloadn (j := 0) (by decide +kernel) rfl ?_
  refine fs_iconst (n := 0) (v := 0) (by decide +kernel) (by decide) ?_
  refine fs_iconst (n := 1) (v := 1) (by decide +kernel) (by decide) ?_
  exact fe_callS (idx := 54) (kd := 0) (n := 3) (wp := 370) (q := (371, 0)) (as := [.int x0, .int 0, .int 1]) (rs := []) (by decide +kernel) (by decide +kernel) (by decide +kernel) (by decide) rfl (Nat.le_of_ble_eq_true rfl) rfl hc nx
theorem b_X_isImage_6 {d : Nat} {x0 : Int32} {sx0 : Int32} {S : fm_S}  (hz : sx0 = 0 ∨ sx0 = 1) : am_Ev d k_X_isImage 6 [some (.int x0)] [.int sx0] (fm_mk S) (some (.int sx0), fm_mk S) := by
  exact fe_retZ (by decide +kernel) (by decide +kernel) hz
-- KitchenSiege.from(I)I
theorem b_X_from_0 {d : Nat} {x1 : Int32} {v : Int32} {S1 : fm_S} {S : fm_S} {r : Option Value × am_W} (hc : am_Sp d k_X_isImage [.int x1] (fm_mk S) (some (.int v)) (fm_mk S1)) (nx : am_Ev (d + 1) k_X_from 4 [some (.ref 0), some (.int x1)] [.int v] (fm_mk S1) r) : am_Ev (d + 1) k_X_from 0 [some (.ref 0), some (.int x1)] [] (fm_mk S) r := by
  refine fs_iloadn (j := 1) (by decide +kernel) rfl ?_
  exact fe_callS (idx := 232) (kd := 0) (n := 1) (wp := 888) (q := (889, 0)) (as := [.int x1]) (rs := []) (by decide +kernel) (by decide +kernel) (by decide +kernel) (by decide) rfl (Nat.le_of_ble_eq_true rfl) rfl hc nx
theorem b_X_from_4 {d : Nat} {x1 : Int32} {sx0 : Int32} {S : fm_S} {r : Option Value × am_W} (kt : ¬ sx0 = 0 → am_Ev d k_X_from 12 [some (.ref 0), some (.int x1)] [] (fm_mk S) r) (kf : sx0 = 0 → am_Ev d k_X_from 7 [some (.ref 0), some (.int x1)] [] (fm_mk S) r) : am_Ev d k_X_from 4 [some (.ref 0), some (.int x1)] [.int sx0] (fm_mk S) r := by
  exact fs_ifne (off := 8) (tgt := 12) (by decide +kernel) (by decide) kt kf
theorem b_X_from_7 {d : Nat} {x1 : Int32} {v : Int32} {S1 : fm_S} {S : fm_S} {r : Option Value × am_W} (hc : am_Sp d k_X_bad [.ref 0] (fm_mk S) (some (.int v)) (fm_mk S1)) (nx : am_Ev (d + 1) k_X_from 11 [some (.ref 0), some (.int x1)] [.int v] (fm_mk S1) r) : am_Ev (d + 1) k_X_from 7 [some (.ref 0), some (.int x1)] [] (fm_mk S) r := by
  refine fs_aloadn (j := 0) (by decide +kernel) rfl ?_
  exact fe_callV (t := 7) (idx := 58) (n := 0) (wp := 373) (q := (375, 0)) (as := []) (rs := []) (by decide +kernel) (by decide +kernel) (by decide +kernel) (by decide +kernel) rfl (Nat.le_of_ble_eq_true rfl) rfl hc nx
theorem b_X_from_11 {d : Nat} {x1 : Int32} {sx0 : Int32} {S : fm_S}  : am_Ev d k_X_from 11 [some (.ref 0), some (.int x1)] [.int sx0] (fm_mk S) (some (.int sx0), fm_mk S) := by
  exact fe_retI (by decide +kernel) (by decide +kernel)
theorem b_X_from_12 {d : Nat} {x1 : Int32} {S : fm_S} {r : Option Value × am_W} (hi0 : vp_in x1 2) (kt : ¬ (S.1 230 x1.toNatClampNeg) = 0 → am_Ev d k_X_from 26 [some (.ref 0), some (.int x1)] [] (fm_mk S) r) (kf : (S.1 230 x1.toNatClampNeg) = 0 → am_Ev d k_X_from 21 [some (.ref 0), some (.int x1)] [] (fm_mk S) r) : am_Ev d k_X_from 12 [some (.ref 0), some (.int x1)] [] (fm_mk S) r := by
  refine fs_aloadn (j := 0) (by decide +kernel) rfl ?_
  refine fe_getR (idx := 43) (t := 7) (f := 5) (fk := 2) (fin := 1) (wp := 337) (x := 230) (by decide +kernel) (by decide +kernel) (by decide +kernel) (by decide +kernel) (by decide +kernel) ?_
  refine fs_iloadn (j := 1) (by decide +kernel) rfl ?_
  refine fx_bald (n := x1.toNatClampNeg) (len := 2) (by decide +kernel) (by decide +kernel) (by decide +kernel) hi0 rfl ?_
  exact fs_ifne (off := 8) (tgt := 26) (by decide +kernel) (by decide) kt kf
theorem b_X_from_21 {d : Nat} {x1 : Int32} {v : Int32} {S1 : fm_S} {S : fm_S} {r : Option Value × am_W} (hc : am_Sp d k_X_no [.ref 0] (fm_mk S) (some (.int v)) (fm_mk S1)) (nx : am_Ev (d + 1) k_X_from 25 [some (.ref 0), some (.int x1)] [.int v] (fm_mk S1) r) : am_Ev (d + 1) k_X_from 21 [some (.ref 0), some (.int x1)] [] (fm_mk S) r := by
  refine fs_aloadn (j := 0) (by decide +kernel) rfl ?_
  exact fe_callV (t := 7) (idx := 77) (n := 0) (wp := 400) (q := (402, 3)) (as := []) (rs := []) (by decide +kernel) (by decide +kernel) (by decide +kernel) (by decide +kernel) rfl (Nat.le_of_ble_eq_true rfl) rfl hc nx
theorem b_X_from_25 {d : Nat} {x1 : Int32} {sx0 : Int32} {S : fm_S}  : am_Ev d k_X_from 25 [some (.ref 0), some (.int x1)] [.int sx0] (fm_mk S) (some (.int sx0), fm_mk S) := by
  exact fe_retI (by decide +kernel) (by decide +kernel)
theorem b_X_from_26 {d : Nat} {x1 : Int32} {S1 : fm_S} {S : fm_S} {r : Option Value × am_W} (hi0 : vp_in x1 2) (hc : am_Sp d k_Town_copy [.ref 1, .ref (fm_rf 123 x1.toNatClampNeg)] (fm_mk S) (none) (fm_mk S1)) (nx : am_Ev (d + 1) k_X_from 39 [some (.ref 0), some (.int x1)] [] (fm_mk S1) r) : am_Ev (d + 1) k_X_from 26 [some (.ref 0), some (.int x1)] [] (fm_mk S) r := by
  refine fs_aloadn (j := 0) (by decide +kernel) rfl ?_
  refine fe_getR (idx := 10) (t := 7) (f := 0) (fk := 2) (fin := 1) (wp := 332) (x := 1) (by decide +kernel) (by decide +kernel) (by decide +kernel) (by decide +kernel) (by decide +kernel) ?_
  refine fs_aloadn (j := 0) (by decide +kernel) rfl ?_
  refine fe_getR (idx := 39) (t := 7) (f := 4) (fk := 2) (fin := 1) (wp := 336) (x := 123) (by decide +kernel) (by decide +kernel) (by decide +kernel) (by decide +kernel) (by decide +kernel) ?_
  refine fs_iloadn (j := 1) (by decide +kernel) rfl ?_
  refine fx_aald4 (n := x1.toNatClampNeg) (len := 2) (by decide +kernel) (by decide +kernel) (by decide +kernel) hi0 rfl ?_
  exact fe_callV (t := 6) (idx := 110) (n := 1) (wp := 560) (q := (561, 562)) (as := [.ref (fm_rf 123 x1.toNatClampNeg)]) (rs := []) (by decide +kernel) (by decide +kernel) (by decide +kernel) (by decide +kernel) rfl (Nat.le_of_ble_eq_true rfl) rfl hc nx
theorem b_X_from_39 {d : Nat} {x1 : Int32} {S : fm_S}  : am_Ev d k_X_from 39 [some (.ref 0), some (.int x1)] [] (fm_mk S) (some (.int 1), fm_mk S) := by
  refine fs_iconst (n := 1) (v := 1) (by decide +kernel) (by decide) ?_
  exact fe_retI (by decide +kernel) (by decide +kernel)
-- KitchenSiege.status(I)I
theorem b_X_status_0 {d : Nat} {x1 : Int32} {S : fm_S} {r : Option Value × am_W} (k0 : x1 = 0 → am_Ev d k_X_status 28 [some (.ref 0), some (.int x1)] [] (fm_mk S) r) (k1 : x1 = 1 → am_Ev d k_X_status 33 [some (.ref 0), some (.int x1)] [] (fm_mk S) r) (k2 : x1 = 2 → am_Ev d k_X_status 38 [some (.ref 0), some (.int x1)] [] (fm_mk S) r) (kd : ¬ x1 = 0 → ¬ x1 = 1 → ¬ x1 = 2 → am_Ev d k_X_status 43 [some (.ref 0), some (.int x1)] [] (fm_mk S) r) : am_Ev d k_X_status 0 [some (.ref 0), some (.int x1)] [] (fm_mk S) r := by
  refine fs_iloadn (j := 1) (by decide +kernel) rfl ?_
  by_cases c0 : x1 = 0
  · exact fs_sw (i := .tableswitch 42 0 2 #[27, 32, 37]) (z := 27) (by decide +kernel) rfl (by rw [c0]; rfl) (k0 c0)
  by_cases c1 : x1 = 1
  · exact fs_sw (i := .tableswitch 42 0 2 #[27, 32, 37]) (z := 27) (by decide +kernel) rfl (by rw [c1]; rfl) (k1 c1)
  by_cases c2 : x1 = 2
  · exact fs_sw (i := .tableswitch 42 0 2 #[27, 32, 37]) (z := 27) (by decide +kernel) rfl (by rw [c2]; rfl) (k2 c2)
  have e0 : ¬ (x1).toInt = 0 := fun q => c0 (Int32.toInt_inj.mp (q.trans (by decide)))
  have e1 : ¬ (x1).toInt = 1 := fun q => c1 (Int32.toInt_inj.mp (q.trans (by decide)))
  have e2 : ¬ (x1).toInt = 2 := fun q => c2 (Int32.toInt_inj.mp (q.trans (by decide)))
  exact fs_tout (dflt := 42) (lo := 0) (hi := 2) (offs := #[27, 32, 37]) (z := 27) (by decide +kernel) (by omega) (by decide) (kd c0 c1 c2)
theorem b_X_status_28 {d : Nat} {x1 : Int32} {S : fm_S}  : am_Ev d k_X_status 28 [some (.ref 0), some (.int x1)] [] (fm_mk S) (some (.int (S.1 0 6)), fm_mk S) := by
  refine fs_aloadn (j := 0) (by decide +kernel) rfl ?_
  refine fe_getI (idx := 235) (t := 7) (f := 6) (fk := 0) (fin := 0) (wp := 338) (by decide +kernel) (by decide +kernel) (by decide +kernel) (by decide +kernel) ?_
  exact fe_retI (by decide +kernel) (by decide +kernel)
theorem b_X_status_33 {d : Nat} {x1 : Int32} {S : fm_S}  : am_Ev d k_X_status 33 [some (.ref 0), some (.int x1)] [] (fm_mk S) (some (.int (S.1 0 7)), fm_mk S) := by
  refine fs_aloadn (j := 0) (by decide +kernel) rfl ?_
  refine fe_getI (idx := 238) (t := 7) (f := 7) (fk := 0) (fin := 0) (wp := 339) (by decide +kernel) (by decide +kernel) (by decide +kernel) (by decide +kernel) ?_
  exact fe_retI (by decide +kernel) (by decide +kernel)
theorem b_X_status_38 {d : Nat} {x1 : Int32} {S : fm_S}  : am_Ev d k_X_status 38 [some (.ref 0), some (.int x1)] [] (fm_mk S) (some (.int (S.1 0 8)), fm_mk S) := by
  refine fs_aloadn (j := 0) (by decide +kernel) rfl ?_
  refine fe_getI (idx := 241) (t := 7) (f := 8) (fk := 0) (fin := 0) (wp := 340) (by decide +kernel) (by decide +kernel) (by decide +kernel) (by decide +kernel) ?_
  exact fe_retI (by decide +kernel) (by decide +kernel)
theorem b_X_status_43 {d : Nat} {x1 : Int32} {v : Int32} {S1 : fm_S} {S : fm_S} {r : Option Value × am_W} (hc : am_Sp d k_X_bad [.ref 0] (fm_mk S) (some (.int v)) (fm_mk S1)) (nx : am_Ev (d + 1) k_X_status 47 [some (.ref 0), some (.int x1)] [.int v] (fm_mk S1) r) : am_Ev (d + 1) k_X_status 43 [some (.ref 0), some (.int x1)] [] (fm_mk S) r := by
  refine fs_aloadn (j := 0) (by decide +kernel) rfl ?_
  exact fe_callV (t := 7) (idx := 58) (n := 0) (wp := 373) (q := (375, 0)) (as := []) (rs := []) (by decide +kernel) (by decide +kernel) (by decide +kernel) (by decide +kernel) rfl (Nat.le_of_ble_eq_true rfl) rfl hc nx
theorem b_X_status_47 {d : Nat} {x1 : Int32} {sx0 : Int32} {S : fm_S}  : am_Ev d k_X_status 47 [some (.ref 0), some (.int x1)] [.int sx0] (fm_mk S) (some (.int (-1)), fm_mk S) := by
  refine fs_pop (by decide +kernel) rfl ?_
  refine fs_iconst (n := -1) (v := (-1)) (by decide +kernel) (by decide) ?_
  exact fe_retI (by decide +kernel) (by decide +kernel)
-- KitchenSiege.count(I)I
theorem b_X_count_0 {d : Nat} {x1 : Int32} {S : fm_S} {r : Option Value × am_W} (k0 : x1 = 0 → am_Ev d k_X_count 44 [some (.ref 0), some (.int x1)] [] (fm_mk S) r) (k1 : x1 = 1 → am_Ev d k_X_count 52 [some (.ref 0), some (.int x1)] [] (fm_mk S) r) (k2 : x1 = 2 → am_Ev d k_X_count 60 [some (.ref 0), some (.int x1)] [] (fm_mk S) r) (k3 : x1 = 3 → am_Ev d k_X_count 71 [some (.ref 0), some (.int x1)] [] (fm_mk S) r) (k4 : x1 = 4 → am_Ev d k_X_count 89 [some (.ref 0), some (.int x1)] [] (fm_mk S) r) (k5 : x1 = 5 → am_Ev d k_X_count 100 [some (.ref 0), some (.int x1)] [] (fm_mk S) r) (k6 : x1 = 6 → am_Ev d k_X_count 108 [some (.ref 0), some (.int x1)] [] (fm_mk S) r) (kd : ¬ x1 = 0 → ¬ x1 = 1 → ¬ x1 = 2 → ¬ x1 = 3 → ¬ x1 = 4 → ¬ x1 = 5 → ¬ x1 = 6 → am_Ev d k_X_count 116 [some (.ref 0), some (.int x1)] [] (fm_mk S) r) : am_Ev d k_X_count 0 [some (.ref 0), some (.int x1)] [] (fm_mk S) r := by
  refine fs_iloadn (j := 1) (by decide +kernel) rfl ?_
  by_cases c0 : x1 = 0
  · exact fs_sw (i := .tableswitch 115 0 6 #[43, 51, 59, 70, 88, 99, 107]) (z := 43) (by decide +kernel) rfl (by rw [c0]; rfl) (k0 c0)
  by_cases c1 : x1 = 1
  · exact fs_sw (i := .tableswitch 115 0 6 #[43, 51, 59, 70, 88, 99, 107]) (z := 43) (by decide +kernel) rfl (by rw [c1]; rfl) (k1 c1)
  by_cases c2 : x1 = 2
  · exact fs_sw (i := .tableswitch 115 0 6 #[43, 51, 59, 70, 88, 99, 107]) (z := 43) (by decide +kernel) rfl (by rw [c2]; rfl) (k2 c2)
  by_cases c3 : x1 = 3
  · exact fs_sw (i := .tableswitch 115 0 6 #[43, 51, 59, 70, 88, 99, 107]) (z := 43) (by decide +kernel) rfl (by rw [c3]; rfl) (k3 c3)
  by_cases c4 : x1 = 4
  · exact fs_sw (i := .tableswitch 115 0 6 #[43, 51, 59, 70, 88, 99, 107]) (z := 43) (by decide +kernel) rfl (by rw [c4]; rfl) (k4 c4)
  by_cases c5 : x1 = 5
  · exact fs_sw (i := .tableswitch 115 0 6 #[43, 51, 59, 70, 88, 99, 107]) (z := 43) (by decide +kernel) rfl (by rw [c5]; rfl) (k5 c5)
  by_cases c6 : x1 = 6
  · exact fs_sw (i := .tableswitch 115 0 6 #[43, 51, 59, 70, 88, 99, 107]) (z := 43) (by decide +kernel) rfl (by rw [c6]; rfl) (k6 c6)
  have e0 : ¬ (x1).toInt = 0 := fun q => c0 (Int32.toInt_inj.mp (q.trans (by decide)))
  have e1 : ¬ (x1).toInt = 1 := fun q => c1 (Int32.toInt_inj.mp (q.trans (by decide)))
  have e2 : ¬ (x1).toInt = 2 := fun q => c2 (Int32.toInt_inj.mp (q.trans (by decide)))
  have e3 : ¬ (x1).toInt = 3 := fun q => c3 (Int32.toInt_inj.mp (q.trans (by decide)))
  have e4 : ¬ (x1).toInt = 4 := fun q => c4 (Int32.toInt_inj.mp (q.trans (by decide)))
  have e5 : ¬ (x1).toInt = 5 := fun q => c5 (Int32.toInt_inj.mp (q.trans (by decide)))
  have e6 : ¬ (x1).toInt = 6 := fun q => c6 (Int32.toInt_inj.mp (q.trans (by decide)))
  exact fs_tout (dflt := 115) (lo := 0) (hi := 6) (offs := #[43, 51, 59, 70, 88, 99, 107]) (z := 43) (by decide +kernel) (by omega) (by decide) (kd c0 c1 c2 c3 c4 c5 c6)
theorem b_X_count_44 {d : Nat} {x1 : Int32} {S : fm_S}  : am_Ev d k_X_count 44 [some (.ref 0), some (.int x1)] [] (fm_mk S) (some (.int (S.1 1 0)), fm_mk S) := by
  refine fs_aloadn (j := 0) (by decide +kernel) rfl ?_
  refine fe_getR (idx := 10) (t := 7) (f := 0) (fk := 2) (fin := 1) (wp := 332) (x := 1) (by decide +kernel) (by decide +kernel) (by decide +kernel) (by decide +kernel) (by decide +kernel) ?_
  refine fe_getI (idx := 47) (t := 6) (f := 0) (fk := 0) (fin := 0) (wp := 157) (by decide +kernel) (by decide +kernel) (by decide +kernel) (by decide +kernel) ?_
  exact fe_retI (by decide +kernel) (by decide +kernel)
theorem b_X_count_52 {d : Nat} {x1 : Int32} {S : fm_S}  : am_Ev d k_X_count 52 [some (.ref 0), some (.int x1)] [] (fm_mk S) (some (.int (S.1 1 7)), fm_mk S) := by
  refine fs_aloadn (j := 0) (by decide +kernel) rfl ?_
  refine fe_getR (idx := 10) (t := 7) (f := 0) (fk := 2) (fin := 1) (wp := 332) (x := 1) (by decide +kernel) (by decide +kernel) (by decide +kernel) (by decide +kernel) (by decide +kernel) ?_
  refine fe_getI (idx := 244) (t := 6) (f := 7) (fk := 0) (fin := 0) (wp := 179) (by decide +kernel) (by decide +kernel) (by decide +kernel) (by decide +kernel) ?_
  exact fe_retI (by decide +kernel) (by decide +kernel)
theorem b_X_count_60 {d : Nat} {x1 : Int32} {S : fm_S}  : am_Ev d k_X_count 60 [some (.ref 0), some (.int x1)] [] (fm_mk S) (some (.int (S.1 17 0)), fm_mk S) := by
  refine fs_aloadn (j := 0) (by decide +kernel) rfl ?_
  refine fe_getR (idx := 10) (t := 7) (f := 0) (fk := 2) (fin := 1) (wp := 332) (x := 1) (by decide +kernel) (by decide +kernel) (by decide +kernel) (by decide +kernel) (by decide +kernel) ?_
  refine fe_getR (idx := 122) (t := 6) (f := 12) (fk := 2) (fin := 1) (wp := 190) (x := 17) (by decide +kernel) (by decide +kernel) (by decide +kernel) (by decide +kernel) (by decide +kernel) ?_
  refine fe_getI (idx := 134) (t := 2) (f := 0) (fk := 0) (fin := 0) (wp := 125) (by decide +kernel) (by decide +kernel) (by decide +kernel) (by decide +kernel) ?_
  exact fe_retI (by decide +kernel) (by decide +kernel)
theorem b_X_count_71 {d : Nat} {x1 : Int32} {v : Int32} {S1 : fm_S} {S : fm_S} {r : Option Value × am_W} (hc : am_Sp d k_Days_openOf [.ref 17, .int (S.1 1 0)] (fm_mk S) (some (.int v)) (fm_mk S1)) (nx : am_Ev (d + 1) k_X_count 88 [some (.ref 0), some (.int x1)] [.int v] (fm_mk S1) r) : am_Ev (d + 1) k_X_count 71 [some (.ref 0), some (.int x1)] [] (fm_mk S) r := by
  refine fs_aloadn (j := 0) (by decide +kernel) rfl ?_
  refine fe_getR (idx := 10) (t := 7) (f := 0) (fk := 2) (fin := 1) (wp := 332) (x := 1) (by decide +kernel) (by decide +kernel) (by decide +kernel) (by decide +kernel) (by decide +kernel) ?_
  refine fe_getR (idx := 122) (t := 6) (f := 12) (fk := 2) (fin := 1) (wp := 190) (x := 17) (by decide +kernel) (by decide +kernel) (by decide +kernel) (by decide +kernel) (by decide +kernel) ?_
  refine fs_aloadn (j := 0) (by decide +kernel) rfl ?_
  refine fe_getR (idx := 10) (t := 7) (f := 0) (fk := 2) (fin := 1) (wp := 332) (x := 1) (by decide +kernel) (by decide +kernel) (by decide +kernel) (by decide +kernel) (by decide +kernel) ?_
  refine fe_getI (idx := 47) (t := 6) (f := 0) (fk := 0) (fin := 0) (wp := 157) (by decide +kernel) (by decide +kernel) (by decide +kernel) (by decide +kernel) ?_
  exact fe_callV (t := 2) (idx := 247) (n := 1) (wp := 903) (q := (876, 877)) (as := [.int (S.1 1 0)]) (rs := []) (by decide +kernel) (by decide +kernel) (by decide +kernel) (by decide +kernel) rfl (Nat.le_of_ble_eq_true rfl) rfl hc nx
theorem b_X_count_88 {d : Nat} {x1 : Int32} {sx0 : Int32} {S : fm_S}  : am_Ev d k_X_count 88 [some (.ref 0), some (.int x1)] [.int sx0] (fm_mk S) (some (.int sx0), fm_mk S) := by
  exact fe_retI (by decide +kernel) (by decide +kernel)
theorem b_X_count_89 {d : Nat} {x1 : Int32} {S : fm_S}  : am_Ev d k_X_count 89 [some (.ref 0), some (.int x1)] [] (fm_mk S) (some (.int (S.1 11 0)), fm_mk S) := by
  refine fs_aloadn (j := 0) (by decide +kernel) rfl ?_
  refine fe_getR (idx := 10) (t := 7) (f := 0) (fk := 2) (fin := 1) (wp := 332) (x := 1) (by decide +kernel) (by decide +kernel) (by decide +kernel) (by decide +kernel) (by decide +kernel) ?_
  refine fe_getR (idx := 197) (t := 6) (f := 11) (fk := 2) (fin := 1) (wp := 187) (x := 11) (by decide +kernel) (by decide +kernel) (by decide +kernel) (by decide +kernel) (by decide +kernel) ?_
  refine fe_getI (idx := 207) (t := 4) (f := 0) (fk := 0) (fin := 0) (wp := 97) (by decide +kernel) (by decide +kernel) (by decide +kernel) (by decide +kernel) ?_
  exact fe_retI (by decide +kernel) (by decide +kernel)
theorem b_X_count_100 {d : Nat} {x1 : Int32} {S : fm_S}  : am_Ev d k_X_count 100 [some (.ref 0), some (.int x1)] [] (fm_mk S) (some (.int (S.1 1 14)), fm_mk S) := by
  refine fs_aloadn (j := 0) (by decide +kernel) rfl ?_
  refine fe_getR (idx := 10) (t := 7) (f := 0) (fk := 2) (fin := 1) (wp := 332) (x := 1) (by decide +kernel) (by decide +kernel) (by decide +kernel) (by decide +kernel) (by decide +kernel) ?_
  refine fe_getI (idx := 250) (t := 6) (f := 14) (fk := 0) (fin := 0) (wp := 193) (by decide +kernel) (by decide +kernel) (by decide +kernel) (by decide +kernel) ?_
  exact fe_retI (by decide +kernel) (by decide +kernel)
theorem b_X_count_108 {d : Nat} {x1 : Int32} {S : fm_S}  : am_Ev d k_X_count 108 [some (.ref 0), some (.int x1)] [] (fm_mk S) (some (.int (S.1 67 0)), fm_mk S) := by
  refine fs_aloadn (j := 0) (by decide +kernel) rfl ?_
  refine fe_getR (idx := 28) (t := 7) (f := 2) (fk := 2) (fin := 1) (wp := 334) (x := 67) (by decide +kernel) (by decide +kernel) (by decide +kernel) (by decide +kernel) (by decide +kernel) ?_
  refine fe_getI (idx := 101) (t := 5) (f := 0) (fk := 0) (fin := 0) (wp := 286) (by decide +kernel) (by decide +kernel) (by decide +kernel) (by decide +kernel) ?_
  exact fe_retI (by decide +kernel) (by decide +kernel)
theorem b_X_count_116 {d : Nat} {x1 : Int32} {v : Int32} {S1 : fm_S} {S : fm_S} {r : Option Value × am_W} (hc : am_Sp d k_X_bad [.ref 0] (fm_mk S) (some (.int v)) (fm_mk S1)) (nx : am_Ev (d + 1) k_X_count 120 [some (.ref 0), some (.int x1)] [.int v] (fm_mk S1) r) : am_Ev (d + 1) k_X_count 116 [some (.ref 0), some (.int x1)] [] (fm_mk S) r := by
  refine fs_aloadn (j := 0) (by decide +kernel) rfl ?_
  exact fe_callV (t := 7) (idx := 58) (n := 0) (wp := 373) (q := (375, 0)) (as := []) (rs := []) (by decide +kernel) (by decide +kernel) (by decide +kernel) (by decide +kernel) rfl (Nat.le_of_ble_eq_true rfl) rfl hc nx
theorem b_X_count_120 {d : Nat} {x1 : Int32} {sx0 : Int32} {S : fm_S}  : am_Ev d k_X_count 120 [some (.ref 0), some (.int x1)] [.int sx0] (fm_mk S) (some (.int sx0), fm_mk S) := by
  exact fe_retI (by decide +kernel) (by decide +kernel)
-- KitchenSiege.digest()J
theorem b_X_digest_0 {d : Nat} {o1 : Option Value} {o2 : Option Value} {o3 : Option Value} {S : fm_S} {r : Option Value × am_W} (nx : am_Ev d k_X_digest 6 [some (.ref 0), some (.long 1069), none, some (.int 0)] [] (fm_mk S) r) : am_Ev d k_X_digest 0 [some (.ref 0), o1, o2, o3] [] (fm_mk S) r := by
  refine fs_ldc2 (idx := 253) (q := 908) (v := 1069) (by decide +kernel) (by decide +kernel) ?_
  refine fs_lstoren (j := 1) (L' := [some (.ref 0), some (.long 1069), none, o3]) (by decide +kernel) (Nat.le_of_ble_eq_true rfl) rfl ?_
  refine fs_iconst (n := 0) (v := 0) (by decide +kernel) (by decide) ?_
  refine fs_istoren (j := 3) (L' := [some (.ref 0), some (.long 1069), none, some (.int 0)]) (by decide +kernel) (Nat.le_of_ble_eq_true rfl) rfl ?_
  exact nx
theorem b_X_digest_6 {d : Nat} {y1 : Int64} {x3 : Int32} {S : fm_S} {r : Option Value × am_W} (kt : 6 < x3 → am_Ev d k_X_digest 29 [some (.ref 0), some (.long y1), none, some (.int x3)] [] (fm_mk S) r) (kf : ¬ 6 < x3 → am_Ev d k_X_digest 12 [some (.ref 0), some (.long y1), none, some (.int x3)] [] (fm_mk S) r) : am_Ev d k_X_digest 6 [some (.ref 0), some (.long y1), none, some (.int x3)] [] (fm_mk S) r := by
  refine fs_iloadn (j := 3) (by decide +kernel) rfl ?_
  refine fs_bipush (n := 6) (v := 6) (by decide +kernel) (by decide) ?_
  exact fs_icgt (off := 20) (tgt := 29) (by decide +kernel) (by decide) kt kf
theorem b_X_digest_12 {d : Nat} {y1 : Int64} {x3 : Int32} {v : Int32} {S1 : fm_S} {S : fm_S} {r : Option Value × am_W} (hc : am_Sp d k_X_count [.ref 0, .int x3] (fm_mk S) (some (.int v)) (fm_mk S1)) (nx : am_Ev (d + 1) k_X_digest 18 [some (.ref 0), some (.long y1), none, some (.int x3)] [.int v, .long y1] (fm_mk S1) r) : am_Ev (d + 1) k_X_digest 12 [some (.ref 0), some (.long y1), none, some (.int x3)] [] (fm_mk S) r := by
  refine fs_lloadn (j := 1) (by decide +kernel) rfl ?_
  refine fs_aloadn (j := 0) (by decide +kernel) rfl ?_
  refine fs_iloadn (j := 3) (by decide +kernel) rfl ?_
  exact fe_callV (t := 7) (idx := 255) (n := 1) (wp := 909) (q := (900, 901)) (as := [.int x3]) (rs := [.long y1]) (by decide +kernel) (by decide +kernel) (by decide +kernel) (by decide +kernel) rfl (Nat.le_of_ble_eq_true rfl) rfl hc nx
theorem b_X_digest_18 {d : Nat} {y1 : Int64} {x3 : Int32} {sy0 : Int64} {sx1 : Int32} {v : Int64} {S1 : fm_S} {S : fm_S} {r : Option Value × am_W} (hc : am_Sp d k_X_mix [.long sy0, .long sx1.toInt64] (fm_mk S) (some (.long v)) (fm_mk S1)) (nx : am_Ev (d + 1) k_X_digest 22 [some (.ref 0), some (.long y1), none, some (.int x3)] [.long v] (fm_mk S1) r) : am_Ev (d + 1) k_X_digest 18 [some (.ref 0), some (.long y1), none, some (.int x3)] [.int sx1, .long sy0] (fm_mk S) r := by
  refine fs_i2l (by decide +kernel) ?_
  exact fe_callS (idx := 258) (kd := 0) (n := 2) (wp := 910) (q := (911, 0)) (as := [.long sy0, .long sx1.toInt64]) (rs := []) (by decide +kernel) (by decide +kernel) (by decide +kernel) (by decide) rfl (Nat.le_of_ble_eq_true rfl) rfl hc nx
theorem b_X_digest_22 {d : Nat} {y1 : Int64} {x3 : Int32} {sy0 : Int64} {S : fm_S} {r : Option Value × am_W} (nx : am_Ev d k_X_digest 6 [some (.ref 0), some (.long sy0), none, some (.int (x3 + 1))] [] (fm_mk S) r) : am_Ev d k_X_digest 22 [some (.ref 0), some (.long y1), none, some (.int x3)] [.long sy0] (fm_mk S) r := by
  refine fs_lstoren (j := 1) (L' := [some (.ref 0), some (.long sy0), none, some (.int x3)]) (by decide +kernel) (Nat.le_of_ble_eq_true rfl) rfl ?_
  refine fs_iinc (j := 3) (n := 1) (v := 1) (L' := [some (.ref 0), some (.long sy0), none, some (.int (x3 + 1))]) (by decide +kernel) rfl (Nat.le_of_ble_eq_true rfl) (by decide) rfl ?_
  refine fs_goto (off := -20) (tgt := 6) (by decide +kernel) (by decide) ?_
  exact nx
theorem b_X_digest_29 {d : Nat} {y1 : Int64} {x3 : Int32} {v : Int64} {S1 : fm_S} {S : fm_S} {r : Option Value × am_W} (hc : am_Sp d k_Town_mixStreets [.ref 1, .long y1] (fm_mk S) (some (.long v)) (fm_mk S1)) (nx : am_Ev (d + 1) k_X_digest 37 [some (.ref 0), some (.long y1), none, some (.int x3)] [.long v] (fm_mk S1) r) : am_Ev (d + 1) k_X_digest 29 [some (.ref 0), some (.long y1), none, some (.int x3)] [] (fm_mk S) r := by
  refine fs_aloadn (j := 0) (by decide +kernel) rfl ?_
  refine fe_getR (idx := 10) (t := 7) (f := 0) (fk := 2) (fin := 1) (wp := 332) (x := 1) (by decide +kernel) (by decide +kernel) (by decide +kernel) (by decide +kernel) (by decide +kernel) ?_
  refine fs_lloadn (j := 1) (by decide +kernel) rfl ?_
  exact fe_callV (t := 6) (idx := 262) (n := 1) (wp := 914) (q := (915, 916)) (as := [.long y1]) (rs := []) (by decide +kernel) (by decide +kernel) (by decide +kernel) (by decide +kernel) rfl (Nat.le_of_ble_eq_true rfl) rfl hc nx
theorem b_X_digest_37 {d : Nat} {y1 : Int64} {x3 : Int32} {sy0 : Int64} {v : Int64} {S1 : fm_S} {S : fm_S} {r : Option Value × am_W} (hc : am_Sp d k_Town_mixLanes [.ref 1, .long sy0] (fm_mk S) (some (.long v)) (fm_mk S1)) (nx : am_Ev (d + 1) k_X_digest 46 [some (.ref 0), some (.long sy0), none, some (.int x3)] [.long v] (fm_mk S1) r) : am_Ev (d + 1) k_X_digest 37 [some (.ref 0), some (.long y1), none, some (.int x3)] [.long sy0] (fm_mk S) r := by
  refine fs_lstoren (j := 1) (L' := [some (.ref 0), some (.long sy0), none, some (.int x3)]) (by decide +kernel) (Nat.le_of_ble_eq_true rfl) rfl ?_
  refine fs_aloadn (j := 0) (by decide +kernel) rfl ?_
  refine fe_getR (idx := 10) (t := 7) (f := 0) (fk := 2) (fin := 1) (wp := 332) (x := 1) (by decide +kernel) (by decide +kernel) (by decide +kernel) (by decide +kernel) (by decide +kernel) ?_
  refine fs_lloadn (j := 1) (by decide +kernel) rfl ?_
  exact fe_callV (t := 6) (idx := 266) (n := 1) (wp := 919) (q := (920, 921)) (as := [.long sy0]) (rs := []) (by decide +kernel) (by decide +kernel) (by decide +kernel) (by decide +kernel) rfl (Nat.le_of_ble_eq_true rfl) rfl hc nx
theorem b_X_digest_46 {d : Nat} {y1 : Int64} {x3 : Int32} {sy0 : Int64} {v : Int64} {S1 : fm_S} {S : fm_S} {r : Option Value × am_W} (hc : am_Sp d k_X_mixAll [.long sy0, .ref 6] (fm_mk S) (some (.long v)) (fm_mk S1)) (nx : am_Ev (d + 1) k_X_digest 58 [some (.ref 0), some (.long sy0), none, some (.int x3)] [.long v] (fm_mk S1) r) : am_Ev (d + 1) k_X_digest 46 [some (.ref 0), some (.long y1), none, some (.int x3)] [.long sy0] (fm_mk S) r := by
  refine fs_lstoren (j := 1) (L' := [some (.ref 0), some (.long sy0), none, some (.int x3)]) (by decide +kernel) (Nat.le_of_ble_eq_true rfl) rfl ?_
  refine fs_lloadn (j := 1) (by decide +kernel) rfl ?_
  refine fs_aloadn (j := 0) (by decide +kernel) rfl ?_
  refine fe_getR (idx := 10) (t := 7) (f := 0) (fk := 2) (fin := 1) (wp := 332) (x := 1) (by decide +kernel) (by decide +kernel) (by decide +kernel) (by decide +kernel) (by decide +kernel) ?_
  refine fe_getR (idx := 87) (t := 6) (f := 5) (fk := 2) (fin := 1) (wp := 171) (x := 6) (by decide +kernel) (by decide +kernel) (by decide +kernel) (by decide +kernel) (by decide +kernel) ?_
  exact fe_callS (idx := 269) (kd := 0) (n := 2) (wp := 924) (q := (925, 0)) (as := [.long sy0, .ref 6]) (rs := []) (by decide +kernel) (by decide +kernel) (by decide +kernel) (by decide) rfl (Nat.le_of_ble_eq_true rfl) rfl hc nx
theorem b_X_digest_58 {d : Nat} {y1 : Int64} {x3 : Int32} {sy0 : Int64} {v : Int64} {S1 : fm_S} {S : fm_S} {r : Option Value × am_W} (hc : am_Sp d k_X_mixAll [.long sy0, .ref 7] (fm_mk S) (some (.long v)) (fm_mk S1)) (nx : am_Ev (d + 1) k_X_digest 70 [some (.ref 0), some (.long sy0), none, some (.int x3)] [.long v] (fm_mk S1) r) : am_Ev (d + 1) k_X_digest 58 [some (.ref 0), some (.long y1), none, some (.int x3)] [.long sy0] (fm_mk S) r := by
  refine fs_lstoren (j := 1) (L' := [some (.ref 0), some (.long sy0), none, some (.int x3)]) (by decide +kernel) (Nat.le_of_ble_eq_true rfl) rfl ?_
  refine fs_lloadn (j := 1) (by decide +kernel) rfl ?_
  refine fs_aloadn (j := 0) (by decide +kernel) rfl ?_
  refine fe_getR (idx := 10) (t := 7) (f := 0) (fk := 2) (fin := 1) (wp := 332) (x := 1) (by decide +kernel) (by decide +kernel) (by decide +kernel) (by decide +kernel) (by decide +kernel) ?_
  refine fe_getR (idx := 91) (t := 6) (f := 6) (fk := 2) (fin := 1) (wp := 174) (x := 7) (by decide +kernel) (by decide +kernel) (by decide +kernel) (by decide +kernel) (by decide +kernel) ?_
  exact fe_callS (idx := 269) (kd := 0) (n := 2) (wp := 924) (q := (925, 0)) (as := [.long sy0, .ref 7]) (rs := []) (by decide +kernel) (by decide +kernel) (by decide +kernel) (by decide) rfl (Nat.le_of_ble_eq_true rfl) rfl hc nx
theorem b_X_digest_70 {d : Nat} {y1 : Int64} {x3 : Int32} {sy0 : Int64} {v : Int64} {S1 : fm_S} {S : fm_S} {r : Option Value × am_W} (hc : am_Sp d k_Town_mixDishes [.ref 1, .long sy0] (fm_mk S) (some (.long v)) (fm_mk S1)) (nx : am_Ev (d + 1) k_X_digest 79 [some (.ref 0), some (.long sy0), none, some (.int x3)] [.long v] (fm_mk S1) r) : am_Ev (d + 1) k_X_digest 70 [some (.ref 0), some (.long y1), none, some (.int x3)] [.long sy0] (fm_mk S) r := by
  refine fs_lstoren (j := 1) (L' := [some (.ref 0), some (.long sy0), none, some (.int x3)]) (by decide +kernel) (Nat.le_of_ble_eq_true rfl) rfl ?_
  refine fs_aloadn (j := 0) (by decide +kernel) rfl ?_
  refine fe_getR (idx := 10) (t := 7) (f := 0) (fk := 2) (fin := 1) (wp := 332) (x := 1) (by decide +kernel) (by decide +kernel) (by decide +kernel) (by decide +kernel) (by decide +kernel) ?_
  refine fs_lloadn (j := 1) (by decide +kernel) rfl ?_
  exact fe_callV (t := 6) (idx := 273) (n := 1) (wp := 927) (q := (928, 929)) (as := [.long sy0]) (rs := []) (by decide +kernel) (by decide +kernel) (by decide +kernel) (by decide +kernel) rfl (Nat.le_of_ble_eq_true rfl) rfl hc nx
theorem b_X_digest_79 {d : Nat} {y1 : Int64} {x3 : Int32} {sy0 : Int64} {v : Int64} {S1 : fm_S} {S : fm_S} {r : Option Value × am_W} (hc : am_Sp d k_Notes_mixNotes [.ref 11, .long sy0] (fm_mk S) (some (.long v)) (fm_mk S1)) (nx : am_Ev (d + 1) k_X_digest 91 [some (.ref 0), some (.long sy0), none, some (.int x3)] [.long v] (fm_mk S1) r) : am_Ev (d + 1) k_X_digest 79 [some (.ref 0), some (.long y1), none, some (.int x3)] [.long sy0] (fm_mk S) r := by
  refine fs_lstoren (j := 1) (L' := [some (.ref 0), some (.long sy0), none, some (.int x3)]) (by decide +kernel) (Nat.le_of_ble_eq_true rfl) rfl ?_
  refine fs_aloadn (j := 0) (by decide +kernel) rfl ?_
  refine fe_getR (idx := 10) (t := 7) (f := 0) (fk := 2) (fin := 1) (wp := 332) (x := 1) (by decide +kernel) (by decide +kernel) (by decide +kernel) (by decide +kernel) (by decide +kernel) ?_
  refine fe_getR (idx := 197) (t := 6) (f := 11) (fk := 2) (fin := 1) (wp := 187) (x := 11) (by decide +kernel) (by decide +kernel) (by decide +kernel) (by decide +kernel) (by decide +kernel) ?_
  refine fs_lloadn (j := 1) (by decide +kernel) rfl ?_
  exact fe_callV (t := 4) (idx := 276) (n := 1) (wp := 931) (q := (932, 933)) (as := [.long sy0]) (rs := []) (by decide +kernel) (by decide +kernel) (by decide +kernel) (by decide +kernel) rfl (Nat.le_of_ble_eq_true rfl) rfl hc nx
theorem b_X_digest_91 {d : Nat} {y1 : Int64} {x3 : Int32} {sy0 : Int64} {v : Int64} {S1 : fm_S} {S : fm_S} {r : Option Value × am_W} (hc : am_Sp d k_X_mix [.long sy0, .long (S.2.1 122 0)] (fm_mk S) (some (.long v)) (fm_mk S1)) (nx : am_Ev (d + 1) k_X_digest 103 [some (.ref 0), some (.long sy0), none, some (.int x3)] [.long v] (fm_mk S1) r) : am_Ev (d + 1) k_X_digest 91 [some (.ref 0), some (.long y1), none, some (.int x3)] [.long sy0] (fm_mk S) r := by
  refine fs_lstoren (j := 1) (L' := [some (.ref 0), some (.long sy0), none, some (.int x3)]) (by decide +kernel) (Nat.le_of_ble_eq_true rfl) rfl ?_
  refine fs_lloadn (j := 1) (by decide +kernel) rfl ?_
  refine fs_aloadn (j := 0) (by decide +kernel) rfl ?_
  refine fe_getR (idx := 35) (t := 7) (f := 3) (fk := 2) (fin := 1) (wp := 335) (x := 122) (by decide +kernel) (by decide +kernel) (by decide +kernel) (by decide +kernel) (by decide +kernel) ?_
  refine fe_getL (idx := 225) (t := 3) (f := 0) (fk := 1) (fin := 0) (wp := 323) (by decide +kernel) (by decide +kernel) (by decide +kernel) (by decide +kernel) ?_
  exact fe_callS (idx := 258) (kd := 0) (n := 2) (wp := 910) (q := (911, 0)) (as := [.long sy0, .long (S.2.1 122 0)]) (rs := []) (by decide +kernel) (by decide +kernel) (by decide +kernel) (by decide) rfl (Nat.le_of_ble_eq_true rfl) rfl hc nx
theorem b_X_digest_103 {d : Nat} {y1 : Int64} {x3 : Int32} {sy0 : Int64} {v : Int64} {S1 : fm_S} {S : fm_S} {r : Option Value × am_W} (hc : am_Sp d k_X_mix [.long sy0, .long (S.2.1 122 1)] (fm_mk S) (some (.long v)) (fm_mk S1)) (nx : am_Ev (d + 1) k_X_digest 113 [some (.ref 0), some (.long y1), none, some (.int x3)] [.long v] (fm_mk S1) r) : am_Ev (d + 1) k_X_digest 103 [some (.ref 0), some (.long y1), none, some (.int x3)] [.long sy0] (fm_mk S) r := by
  refine fs_aloadn (j := 0) (by decide +kernel) rfl ?_
  refine fe_getR (idx := 35) (t := 7) (f := 3) (fk := 2) (fin := 1) (wp := 335) (x := 122) (by decide +kernel) (by decide +kernel) (by decide +kernel) (by decide +kernel) (by decide +kernel) ?_
  refine fe_getL (idx := 229) (t := 3) (f := 1) (fk := 1) (fin := 0) (wp := 325) (by decide +kernel) (by decide +kernel) (by decide +kernel) (by decide +kernel) ?_
  exact fe_callS (idx := 258) (kd := 0) (n := 2) (wp := 910) (q := (911, 0)) (as := [.long sy0, .long (S.2.1 122 1)]) (rs := []) (by decide +kernel) (by decide +kernel) (by decide +kernel) (by decide) rfl (Nat.le_of_ble_eq_true rfl) rfl hc nx
theorem b_X_digest_113 {d : Nat} {y1 : Int64} {x3 : Int32} {sy0 : Int64} {S : fm_S}  : am_Ev d k_X_digest 113 [some (.ref 0), some (.long y1), none, some (.int x3)] [.long sy0] (fm_mk S) (some (.long sy0), fm_mk S) := by
  exact fe_retL (by decide +kernel) (by decide +kernel)
-- KitchenSiege.mix(JJ)J
theorem b_X_mix_0 {d : Nat} {y0 : Int64} {y2 : Int64} {S : fm_S}  : am_Ev d k_X_mix 0 [some (.long y0), none, some (.long y2), none] [] (fm_mk S) (some (.long ((31 * y0) + y2)), fm_mk S) := by
  refine fs_ldc2 (idx := 279) (q := 913) (v := 31) (by decide +kernel) (by decide +kernel) ?_
  refine fs_lloadn (j := 0) (by decide +kernel) rfl ?_
  refine fs_lmul (by decide +kernel) ?_
  refine fs_lloadn (j := 2) (by decide +kernel) rfl ?_
  refine fs_ladd (by decide +kernel) ?_
  exact fe_retL (by decide +kernel) (by decide +kernel)
-- KitchenSiege.mixAll(J[I)J
theorem b_X_mixAll_0 {d : Nat} {y0 : Int64} {a2 : Nat} {o3 : Option Value} {S : fm_S} {r : Option Value × am_W} (nx : am_Ev d k_X_mixAll 2 [some (.long y0), none, some (.ref a2), some (.int 0)] [] (fm_mk S) r) : am_Ev d k_X_mixAll 0 [some (.long y0), none, some (.ref a2), o3] [] (fm_mk S) r := by
  refine fs_iconst (n := 0) (v := 0) (by decide +kernel) (by decide) ?_
  refine fs_istoren (j := 3) (L' := [some (.long y0), none, some (.ref a2), some (.int 0)]) (by decide +kernel) (Nat.le_of_ble_eq_true rfl) rfl ?_
  exact nx
theorem b_X_mixAll_2 {d : Nat} {y0 : Int64} {a2 : Nat} {x3 : Int32} {S : fm_S} {r : Option Value × am_W} (h_a2 : fm_tg a2 = 100) (kt : (Int32.ofNat (fm_ln a2)) ≤ x3 → am_Ev d k_X_mixAll 23 [some (.long y0), none, some (.ref a2), some (.int x3)] [] (fm_mk S) r) (kf : ¬ (Int32.ofNat (fm_ln a2)) ≤ x3 → am_Ev d k_X_mixAll 8 [some (.long y0), none, some (.ref a2), some (.int x3)] [] (fm_mk S) r) : am_Ev d k_X_mixAll 2 [some (.long y0), none, some (.ref a2), some (.int x3)] [] (fm_mk S) r := by
  refine fs_iloadn (j := 3) (by decide +kernel) rfl ?_
  refine fs_aloadn (j := 2) (by decide +kernel) rfl ?_
  refine fx_alen (len := fm_ln a2) (v := Int32.ofNat (fm_ln a2)) (by decide +kernel) (by rw [h_a2]; decide) rfl rfl ?_
  exact fs_icge (off := 18) (tgt := 23) (by decide +kernel) (by decide) kt kf
theorem b_X_mixAll_8 {d : Nat} {y0 : Int64} {a2 : Nat} {x3 : Int32} {v : Int64} {S1 : fm_S} {S : fm_S} {r : Option Value × am_W} (h_a2 : fm_tg a2 = 100) (hi1 : vp_in x3 (fm_ln a2)) (hc : am_Sp d k_X_mix [.long y0, .long ((S.1 a2 x3.toNatClampNeg).toInt64)] (fm_mk S) (some (.long v)) (fm_mk S1)) (nx : am_Ev (d + 1) k_X_mixAll 16 [some (.long y0), none, some (.ref a2), some (.int x3)] [.long v] (fm_mk S1) r) : am_Ev (d + 1) k_X_mixAll 8 [some (.long y0), none, some (.ref a2), some (.int x3)] [] (fm_mk S) r := by
  refine fs_lloadn (j := 0) (by decide +kernel) rfl ?_
  refine fs_aloadn (j := 2) (by decide +kernel) rfl ?_
  refine fs_iloadn (j := 3) (by decide +kernel) rfl ?_
  refine fx_iald (n := x3.toNatClampNeg) (len := fm_ln a2) (by decide +kernel) h_a2 rfl hi1 rfl ?_
  refine fs_i2l (by decide +kernel) ?_
  exact fe_callS (idx := 258) (kd := 0) (n := 2) (wp := 910) (q := (911, 0)) (as := [.long y0, .long ((S.1 a2 x3.toNatClampNeg).toInt64)]) (rs := []) (by decide +kernel) (by decide +kernel) (by decide +kernel) (by decide) rfl (Nat.le_of_ble_eq_true rfl) rfl hc nx
theorem b_X_mixAll_16 {d : Nat} {y0 : Int64} {a2 : Nat} {x3 : Int32} {sy0 : Int64} {S : fm_S} {r : Option Value × am_W} (nx : am_Ev d k_X_mixAll 2 [some (.long sy0), none, some (.ref a2), some (.int (x3 + 1))] [] (fm_mk S) r) : am_Ev d k_X_mixAll 16 [some (.long y0), none, some (.ref a2), some (.int x3)] [.long sy0] (fm_mk S) r := by
  refine fs_lstoren (j := 0) (L' := [some (.long sy0), none, some (.ref a2), some (.int x3)]) (by decide +kernel) (Nat.le_of_ble_eq_true rfl) rfl ?_
  refine fs_iinc (j := 3) (n := 1) (v := 1) (L' := [some (.long sy0), none, some (.ref a2), some (.int (x3 + 1))]) (by decide +kernel) rfl (Nat.le_of_ble_eq_true rfl) (by decide) rfl ?_
  refine fs_goto (off := -18) (tgt := 2) (by decide +kernel) (by decide) ?_
  exact nx
theorem b_X_mixAll_23 {d : Nat} {y0 : Int64} {a2 : Nat} {x3 : Int32} {S : fm_S}  : am_Ev d k_X_mixAll 23 [some (.long y0), none, some (.ref a2), some (.int x3)] [] (fm_mk S) (some (.long y0), fm_mk S) := by
  refine fs_lloadn (j := 0) (by decide +kernel) rfl ?_
  exact fe_retL (by decide +kernel) (by decide +kernel)
