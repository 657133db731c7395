/-! basic blocks: printed by wip/whole/gen13.py -/
-- KitchenSiege.town()I
theorem b10_0 {d : Nat} {o1 : Option Value} {S1 : fm_S} {S : fm_S} {r : Option Value × am_W} (hc : am_Sp d 4 [.ref 1] (fm_mk S) (none) (fm_mk S1)) (nx : am_Ev (d + 1) 10 15 [some (.ref 0), some (.int (S.1 1 0))] [] (fm_mk S1) r) : am_Ev (d + 1) 10 0 [some (.ref 0), o1] [] (fm_mk S) r := by
  refine fs_aloadn (j := 0) (by decide +kernel) rfl ?_
  refine fe_getR (idx := 10) (t := 7) (f := 0) (fk := 2) (fin := 1) (wp := 333) (x := 1) (by decide +kernel) (by decide +kernel) (by decide +kernel) (by decide +kernel) (by decide +kernel) ?_
  refine fe_getI (idx := 47) (t := 6) (f := 0) (fk := 0) (fin := 0) (wp := 157) (by decide +kernel) (by decide +kernel) (by decide +kernel) (by decide +kernel) ?_
  refine fs_istoren (j := 1) (L' := [some (.ref 0), some (.int (S.1 1 0))]) (by decide +kernel) (Nat.le_of_ble_eq_true rfl) rfl ?_
  refine fs_aloadn (j := 0) (by decide +kernel) rfl ?_
  refine fe_getR (idx := 10) (t := 7) (f := 0) (fk := 2) (fin := 1) (wp := 333) (x := 1) (by decide +kernel) (by decide +kernel) (by decide +kernel) (by decide +kernel) (by decide +kernel) ?_
  exact fe_callV (idx := 51) (n := 0) (wp := 366) (q := (149, 150)) (as := []) (rs := []) (by decide +kernel) (by decide +kernel) (by decide +kernel) (by decide +kernel) rfl (Nat.le_of_ble_eq_true rfl) rfl hc nx
theorem b10_15 {d : Nat} {x1 : Int32} {S : fm_S}  : am_Ev d 10 15 [some (.ref 0), some (.int x1)] [] (fm_mk S) (some (.int x1), fm_mk S) := by
  refine fs_iloadn (j := 1) (by decide +kernel) rfl ?_
  exact fe_retI (by decide +kernel) (by decide +kernel)
-- KitchenSiege.street(III)I
theorem b11_0 {d : Nat} {x1 : Int32} {x2 : Int32} {x3 : Int32} {v : Int32} {S1 : fm_S} {S : fm_S} {r : Option Value × am_W} (hc : am_Sp d 12 [.int x1, .int 0, .int 5] (fm_mk S) (some (.int v)) (fm_mk S1)) (nx : am_Ev (d + 1) 11 6 [some (.ref 0), some (.int x1), some (.int x2), some (.int x3)] [.int v] (fm_mk S1) r) : am_Ev (d + 1) 11 0 [some (.ref 0), some (.int x1), some (.int x2), some (.int x3)] [] (fm_mk S) r := by
  refine fs_iloadn (j := 1) (by decide +kernel) rfl ?_
  refine fs_iconst (n := 0) (v := 0) (by decide +kernel) (by decide) ?_
  refine fs_iconst (n := 5) (v := 5) (by decide +kernel) (by decide) ?_
  exact fe_callS (idx := 54) (kd := 0) (n := 3) (wp := 371) (q := (372, 0)) (as := [.int x1, .int 0, .int 5]) (rs := []) (by decide +kernel) (by decide +kernel) (by decide +kernel) (by decide) rfl (Nat.le_of_ble_eq_true rfl) rfl hc nx
theorem b11_6 {d : Nat} {x1 : Int32} {x2 : Int32} {x3 : Int32} {sx0 : Int32} {S : fm_S} {r : Option Value × am_W} (kt : sx0 = 0 → am_Ev d 11 28 [some (.ref 0), some (.int x1), some (.int x2), some (.int x3)] [] (fm_mk S) r) (kf : ¬ sx0 = 0 → am_Ev d 11 9 [some (.ref 0), some (.int x1), some (.int x2), some (.int x3)] [] (fm_mk S) r) : am_Ev d 11 6 [some (.ref 0), some (.int x1), some (.int x2), some (.int x3)] [.int sx0] (fm_mk S) r := by
  exact fs_ifeq (off := 22) (tgt := 28) (by decide +kernel) (by decide) kt kf
theorem b11_9 {d : Nat} {x1 : Int32} {x2 : Int32} {x3 : Int32} {v : Int32} {S1 : fm_S} {S : fm_S} {r : Option Value × am_W} (hc : am_Sp d 12 [.int x2, .int 0, .int 9] (fm_mk S) (some (.int v)) (fm_mk S1)) (nx : am_Ev (d + 1) 11 16 [some (.ref 0), some (.int x1), some (.int x2), some (.int x3)] [.int v] (fm_mk S1) r) : am_Ev (d + 1) 11 9 [some (.ref 0), some (.int x1), some (.int x2), some (.int x3)] [] (fm_mk S) r := by
  refine fs_iloadn (j := 2) (by decide +kernel) rfl ?_
  refine fs_iconst (n := 0) (v := 0) (by decide +kernel) (by decide) ?_
  refine fs_bipush (n := 9) (v := 9) (by decide +kernel) (by decide) ?_
  exact fe_callS (idx := 54) (kd := 0) (n := 3) (wp := 371) (q := (372, 0)) (as := [.int x2, .int 0, .int 9]) (rs := []) (by decide +kernel) (by decide +kernel) (by decide +kernel) (by decide) rfl (Nat.le_of_ble_eq_true rfl) rfl hc nx
theorem b11_16 {d : Nat} {x1 : Int32} {x2 : Int32} {x3 : Int32} {sx0 : Int32} {S : fm_S} {r : Option Value × am_W} (kt : sx0 = 0 → am_Ev d 11 28 [some (.ref 0), some (.int x1), some (.int x2), some (.int x3)] [] (fm_mk S) r) (kf : ¬ sx0 = 0 → am_Ev d 11 19 [some (.ref 0), some (.int x1), some (.int x2), some (.int x3)] [] (fm_mk S) r) : am_Ev d 11 16 [some (.ref 0), some (.int x1), some (.int x2), some (.int x3)] [.int sx0] (fm_mk S) r := by
  exact fs_ifeq (off := 12) (tgt := 28) (by decide +kernel) (by decide) kt kf
theorem b11_19 {d : Nat} {x1 : Int32} {x2 : Int32} {x3 : Int32} {v : Int32} {S1 : fm_S} {S : fm_S} {r : Option Value × am_W} (hc : am_Sp d 12 [.int x3, .int 0, .int 5] (fm_mk S) (some (.int v)) (fm_mk S1)) (nx : am_Ev (d + 1) 11 25 [some (.ref 0), some (.int x1), some (.int x2), some (.int x3)] [.int v] (fm_mk S1) r) : am_Ev (d + 1) 11 19 [some (.ref 0), some (.int x1), some (.int x2), some (.int x3)] [] (fm_mk S) r := by
  refine fs_iloadn (j := 3) (by decide +kernel) rfl ?_
  refine fs_iconst (n := 0) (v := 0) (by decide +kernel) (by decide) ?_
  refine fs_iconst (n := 5) (v := 5) (by decide +kernel) (by decide) ?_
  exact fe_callS (idx := 54) (kd := 0) (n := 3) (wp := 371) (q := (372, 0)) (as := [.int x3, .int 0, .int 5]) (rs := []) (by decide +kernel) (by decide +kernel) (by decide +kernel) (by decide) rfl (Nat.le_of_ble_eq_true rfl) rfl hc nx
theorem b11_25 {d : Nat} {x1 : Int32} {x2 : Int32} {x3 : Int32} {sx0 : Int32} {S : fm_S} {r : Option Value × am_W} (kt : ¬ sx0 = 0 → am_Ev d 11 33 [some (.ref 0), some (.int x1), some (.int x2), some (.int x3)] [] (fm_mk S) r) (kf : sx0 = 0 → am_Ev d 11 28 [some (.ref 0), some (.int x1), some (.int x2), some (.int x3)] [] (fm_mk S) r) : am_Ev d 11 25 [some (.ref 0), some (.int x1), some (.int x2), some (.int x3)] [.int sx0] (fm_mk S) r := by
  exact fs_ifne (off := 8) (tgt := 33) (by decide +kernel) (by decide) kt kf
theorem b11_28 {d : Nat} {x1 : Int32} {x2 : Int32} {x3 : Int32} {v : Int32} {S1 : fm_S} {S : fm_S} {r : Option Value × am_W} (hc : am_Sp d 13 [.ref 0] (fm_mk S) (some (.int v)) (fm_mk S1)) (nx : am_Ev (d + 1) 11 32 [some (.ref 0), some (.int x1), some (.int x2), some (.int x3)] [.int v] (fm_mk S1) r) : am_Ev (d + 1) 11 28 [some (.ref 0), some (.int x1), some (.int x2), some (.int x3)] [] (fm_mk S) r := by
  refine fs_aloadn (j := 0) (by decide +kernel) rfl ?_
  exact fe_callV (idx := 58) (n := 0) (wp := 374) (q := (376, 0)) (as := []) (rs := []) (by decide +kernel) (by decide +kernel) (by decide +kernel) (by decide +kernel) rfl (Nat.le_of_ble_eq_true rfl) rfl hc nx
theorem b11_32 {d : Nat} {x1 : Int32} {x2 : Int32} {x3 : Int32} {sx0 : Int32} {S : fm_S}  : am_Ev d 11 32 [some (.ref 0), some (.int x1), some (.int x2), some (.int x3)] [.int sx0] (fm_mk S) (some (.int sx0), fm_mk S) := by
  exact fe_retI (by decide +kernel) (by decide +kernel)
theorem b11_33 {d : Nat} {x1 : Int32} {x2 : Int32} {x3 : Int32} {S : fm_S} {r : Option Value × am_W} (kt : (S.1 1 0) < 8 → am_Ev d 11 50 [some (.ref 0), some (.int x1), some (.int x2), some (.int x3)] [] (fm_mk S) r) (kf : ¬ (S.1 1 0) < 8 → am_Ev d 11 45 [some (.ref 0), some (.int x1), some (.int x2), some (.int x3)] [] (fm_mk S) r) : am_Ev d 11 33 [some (.ref 0), some (.int x1), some (.int x2), some (.int x3)] [] (fm_mk S) r := by
  refine fs_aloadn (j := 0) (by decide +kernel) rfl ?_
  refine fe_getR (idx := 10) (t := 7) (f := 0) (fk := 2) (fin := 1) (wp := 333) (x := 1) (by decide +kernel) (by decide +kernel) (by decide +kernel) (by decide +kernel) (by decide +kernel) ?_
  refine fe_getI (idx := 47) (t := 6) (f := 0) (fk := 0) (fin := 0) (wp := 157) (by decide +kernel) (by decide +kernel) (by decide +kernel) (by decide +kernel) ?_
  refine fs_bipush (n := 8) (v := 8) (by decide +kernel) (by decide) ?_
  exact fs_iclt (off := 8) (tgt := 50) (by decide +kernel) (by decide) kt kf
theorem b11_45 {d : Nat} {x1 : Int32} {x2 : Int32} {x3 : Int32} {v : Int32} {S1 : fm_S} {S : fm_S} {r : Option Value × am_W} (hc : am_Sp d 14 [.ref 0] (fm_mk S) (some (.int v)) (fm_mk S1)) (nx : am_Ev (d + 1) 11 49 [some (.ref 0), some (.int x1), some (.int x2), some (.int x3)] [.int v] (fm_mk S1) r) : am_Ev (d + 1) 11 45 [some (.ref 0), some (.int x1), some (.int x2), some (.int x3)] [] (fm_mk S) r := by
  refine fs_aloadn (j := 0) (by decide +kernel) rfl ?_
  exact fe_callV (idx := 62) (n := 0) (wp := 378) (q := (380, 1)) (as := []) (rs := []) (by decide +kernel) (by decide +kernel) (by decide +kernel) (by decide +kernel) rfl (Nat.le_of_ble_eq_true rfl) rfl hc nx
theorem b11_49 {d : Nat} {x1 : Int32} {x2 : Int32} {x3 : Int32} {sx0 : Int32} {S : fm_S}  : am_Ev d 11 49 [some (.ref 0), some (.int x1), some (.int x2), some (.int x3)] [.int sx0] (fm_mk S) (some (.int sx0), fm_mk S) := by
  exact fe_retI (by decide +kernel) (by decide +kernel)
theorem b11_50 {d : Nat} {x1 : Int32} {x2 : Int32} {x3 : Int32} {v : Int32} {S1 : fm_S} {S : fm_S} {r : Option Value × am_W} (hc : am_Sp d 15 [.ref 1, .int x1, .int x2, .int x3] (fm_mk S) (some (.int v)) (fm_mk S1)) (nx : am_Ev (d + 1) 11 60 [some (.ref 0), some (.int x1), some (.int x2), some (.int x3)] [.int v] (fm_mk S1) r) : am_Ev (d + 1) 11 50 [some (.ref 0), some (.int x1), some (.int x2), some (.int x3)] [] (fm_mk S) r := by
  refine fs_aloadn (j := 0) (by decide +kernel) rfl ?_
  refine fe_getR (idx := 10) (t := 7) (f := 0) (fk := 2) (fin := 1) (wp := 333) (x := 1) (by decide +kernel) (by decide +kernel) (by decide +kernel) (by decide +kernel) (by decide +kernel) ?_
  refine fs_iloadn (j := 1) (by decide +kernel) rfl ?_
  refine fs_iloadn (j := 2) (by decide +kernel) rfl ?_
  refine fs_iloadn (j := 3) (by decide +kernel) rfl ?_
  exact fe_callV (idx := 65) (n := 3) (wp := 382) (q := (383, 384)) (as := [.int x1, .int x2, .int x3]) (rs := []) (by decide +kernel) (by decide +kernel) (by decide +kernel) (by decide +kernel) rfl (Nat.le_of_ble_eq_true rfl) rfl hc nx
theorem b11_60 {d : Nat} {x1 : Int32} {x2 : Int32} {x3 : Int32} {sx0 : Int32} {S : fm_S}  : am_Ev d 11 60 [some (.ref 0), some (.int x1), some (.int x2), some (.int x3)] [.int sx0] (fm_mk S) (some (.int sx0), fm_mk S) := by
  exact fe_retI (by decide +kernel) (by decide +kernel)
-- KitchenSiege.within(III)Z
theorem b12_0 {d : Nat} {x0 : Int32} {x1 : Int32} {x2 : Int32} {S : fm_S} {r : Option Value × am_W} (kt : x0 < x1 → am_Ev d 12 14 [some (.int x0), some (.int x1), some (.int x2)] [] (fm_mk S) r) (kf : ¬ x0 < x1 → am_Ev d 12 5 [some (.int x0), some (.int x1), some (.int x2)] [] (fm_mk S) r) : am_Ev d 12 0 [some (.int x0), some (.int x1), some (.int x2)] [] (fm_mk S) r := by
  refine fs_iloadn (j := 0) (by decide +kernel) rfl ?_
  refine fs_iloadn (j := 1) (by decide +kernel) rfl ?_
  exact fs_iclt (off := 12) (tgt := 14) (by decide +kernel) (by decide) kt kf
theorem b12_5 {d : Nat} {x0 : Int32} {x1 : Int32} {x2 : Int32} {S : fm_S} {r : Option Value × am_W} (kt : x2 < x0 → am_Ev d 12 14 [some (.int x0), some (.int x1), some (.int x2)] [] (fm_mk S) r) (kf : ¬ x2 < x0 → am_Ev d 12 10 [some (.int x0), some (.int x1), some (.int x2)] [] (fm_mk S) r) : am_Ev d 12 5 [some (.int x0), some (.int x1), some (.int x2)] [] (fm_mk S) r := by
  refine fs_iloadn (j := 0) (by decide +kernel) rfl ?_
  refine fs_iloadn (j := 2) (by decide +kernel) rfl ?_
  exact fs_icgt (off := 7) (tgt := 14) (by decide +kernel) (by decide) kt kf
theorem b12_10 {d : Nat} {x0 : Int32} {x1 : Int32} {x2 : Int32} {S : fm_S} {r : Option Value × am_W} (nx : am_Ev d 12 15 [some (.int x0), some (.int x1), some (.int x2)] [.int 1] (fm_mk S) r) : am_Ev d 12 10 [some (.int x0), some (.int x1), some (.int x2)] [] (fm_mk S) r := by
  refine fs_iconst (n := 1) (v := 1) (by decide +kernel) (by decide) ?_
  refine fs_goto (off := 4) (tgt := 15) (by decide +kernel) (by decide) ?_
  exact nx
theorem b12_14 {d : Nat} {x0 : Int32} {x1 : Int32} {x2 : Int32} {S : fm_S} {r : Option Value × am_W} (nx : am_Ev d 12 15 [some (.int x0), some (.int x1), some (.int x2)] [.int 0] (fm_mk S) r) : am_Ev d 12 14 [some (.int x0), some (.int x1), some (.int x2)] [] (fm_mk S) r := by
  refine fs_iconst (n := 0) (v := 0) (by decide +kernel) (by decide) ?_
  exact nx
theorem b12_15 {d : Nat} {x0 : Int32} {x1 : Int32} {x2 : Int32} {sx0 : Int32} {S : fm_S}  (hz : sx0 = 0 ∨ sx0 = 1) : am_Ev d 12 15 [some (.int x0), some (.int x1), some (.int x2)] [.int sx0] (fm_mk S) (some (.int sx0), fm_mk S) := by
  exact fe_retZ (by decide +kernel) (by decide +kernel) hz
-- KitchenSiege.bad()I
theorem b13_0 {d : Nat} {S : fm_S}  : am_Ev d 13 0 [some (.ref 0)] [] (fm_mk S) (some (.int (-2)), fm_mk (fm_wI S 0 6 ((S.1 0 6) + 1))) := by
  refine fs_aloadn (j := 0) (by decide +kernel) rfl ?_
  refine fs_dup (by decide +kernel) rfl ?_
  refine fe_getI (idx := 240) (t := 7) (f := 6) (fk := 0) (fin := 0) (wp := 339) (by decide +kernel) (by decide +kernel) (by decide +kernel) (by decide +kernel) ?_
  refine fs_iconst (n := 1) (v := 1) (by decide +kernel) (by decide) ?_
  refine fs_iadd (by decide +kernel) ?_
  refine fe_putI (idx := 240) (t := 7) (f := 6) (wp := 339) (by decide +kernel) (by decide +kernel) (by decide +kernel) (by decide +kernel) ?_
  refine fs_bipush (n := -2) (v := (-2)) (by decide +kernel) (by decide) ?_
  exact fe_retI (by decide +kernel) (by decide +kernel)
-- KitchenSiege.full()I
theorem b14_0 {d : Nat} {S : fm_S}  : am_Ev d 14 0 [some (.ref 0)] [] (fm_mk S) (some (.int (-4)), fm_mk (fm_wI S 0 8 ((S.1 0 8) + 1))) := by
  refine fs_aloadn (j := 0) (by decide +kernel) rfl ?_
  refine fs_dup (by decide +kernel) rfl ?_
  refine fe_getI (idx := 246) (t := 7) (f := 8) (fk := 0) (fin := 0) (wp := 341) (by decide +kernel) (by decide +kernel) (by decide +kernel) (by decide +kernel) ?_
  refine fs_iconst (n := 1) (v := 1) (by decide +kernel) (by decide) ?_
  refine fs_iadd (by decide +kernel) ?_
  refine fe_putI (idx := 246) (t := 7) (f := 8) (wp := 341) (by decide +kernel) (by decide +kernel) (by decide +kernel) (by decide +kernel) ?_
  refine fs_bipush (n := -4) (v := (-4)) (by decide +kernel) (by decide) ?_
  exact fe_retI (by decide +kernel) (by decide +kernel)
-- KitchenSiege.lane(II)I
theorem b16_0 {d : Nat} {x1 : Int32} {x2 : Int32} {v : Int32} {S1 : fm_S} {S : fm_S} {r : Option Value × am_W} (hc : am_Sp d 17 [.ref 0, .int x1] (fm_mk S) (some (.int v)) (fm_mk S1)) (nx : am_Ev (d + 1) 16 5 [some (.ref 0), some (.int x1), some (.int x2)] [.int v] (fm_mk S1) r) : am_Ev (d + 1) 16 0 [some (.ref 0), some (.int x1), some (.int x2)] [] (fm_mk S) r := by
  refine fs_aloadn (j := 0) (by decide +kernel) rfl ?_
  refine fs_iloadn (j := 1) (by decide +kernel) rfl ?_
  exact fe_callV (idx := 69) (n := 1) (wp := 390) (q := (392, 2)) (as := [.int x1]) (rs := []) (by decide +kernel) (by decide +kernel) (by decide +kernel) (by decide +kernel) rfl (Nat.le_of_ble_eq_true rfl) rfl hc nx
theorem b16_5 {d : Nat} {x1 : Int32} {x2 : Int32} {sx0 : Int32} {S : fm_S} {r : Option Value × am_W} (kt : sx0 = 0 → am_Ev d 16 21 [some (.ref 0), some (.int x1), some (.int x2)] [] (fm_mk S) r) (kf : ¬ sx0 = 0 → am_Ev d 16 8 [some (.ref 0), some (.int x1), some (.int x2)] [] (fm_mk S) r) : am_Ev d 16 5 [some (.ref 0), some (.int x1), some (.int x2)] [.int sx0] (fm_mk S) r := by
  exact fs_ifeq (off := 16) (tgt := 21) (by decide +kernel) (by decide) kt kf
theorem b16_8 {d : Nat} {x1 : Int32} {x2 : Int32} {v : Int32} {S1 : fm_S} {S : fm_S} {r : Option Value × am_W} (hc : am_Sp d 17 [.ref 0, .int x2] (fm_mk S) (some (.int v)) (fm_mk S1)) (nx : am_Ev (d + 1) 16 13 [some (.ref 0), some (.int x1), some (.int x2)] [.int v] (fm_mk S1) r) : am_Ev (d + 1) 16 8 [some (.ref 0), some (.int x1), some (.int x2)] [] (fm_mk S) r := by
  refine fs_aloadn (j := 0) (by decide +kernel) rfl ?_
  refine fs_iloadn (j := 2) (by decide +kernel) rfl ?_
  exact fe_callV (idx := 69) (n := 1) (wp := 390) (q := (392, 2)) (as := [.int x2]) (rs := []) (by decide +kernel) (by decide +kernel) (by decide +kernel) (by decide +kernel) rfl (Nat.le_of_ble_eq_true rfl) rfl hc nx
theorem b16_13 {d : Nat} {x1 : Int32} {x2 : Int32} {sx0 : Int32} {S : fm_S} {r : Option Value × am_W} (kt : sx0 = 0 → am_Ev d 16 21 [some (.ref 0), some (.int x1), some (.int x2)] [] (fm_mk S) r) (kf : ¬ sx0 = 0 → am_Ev d 16 16 [some (.ref 0), some (.int x1), some (.int x2)] [] (fm_mk S) r) : am_Ev d 16 13 [some (.ref 0), some (.int x1), some (.int x2)] [.int sx0] (fm_mk S) r := by
  exact fs_ifeq (off := 8) (tgt := 21) (by decide +kernel) (by decide) kt kf
theorem b16_16 {d : Nat} {x1 : Int32} {x2 : Int32} {S : fm_S} {r : Option Value × am_W} (kt : ¬ x1 = x2 → am_Ev d 16 26 [some (.ref 0), some (.int x1), some (.int x2)] [] (fm_mk S) r) (kf : x1 = x2 → am_Ev d 16 21 [some (.ref 0), some (.int x1), some (.int x2)] [] (fm_mk S) r) : am_Ev d 16 16 [some (.ref 0), some (.int x1), some (.int x2)] [] (fm_mk S) r := by
  refine fs_iloadn (j := 1) (by decide +kernel) rfl ?_
  refine fs_iloadn (j := 2) (by decide +kernel) rfl ?_
  exact fs_icne (off := 8) (tgt := 26) (by decide +kernel) (by decide) kt kf
theorem b16_21 {d : Nat} {x1 : Int32} {x2 : Int32} {v : Int32} {S1 : fm_S} {S : fm_S} {r : Option Value × am_W} (hc : am_Sp d 13 [.ref 0] (fm_mk S) (some (.int v)) (fm_mk S1)) (nx : am_Ev (d + 1) 16 25 [some (.ref 0), some (.int x1), some (.int x2)] [.int v] (fm_mk S1) r) : am_Ev (d + 1) 16 21 [some (.ref 0), some (.int x1), some (.int x2)] [] (fm_mk S) r := by
  refine fs_aloadn (j := 0) (by decide +kernel) rfl ?_
  exact fe_callV (idx := 58) (n := 0) (wp := 374) (q := (376, 0)) (as := []) (rs := []) (by decide +kernel) (by decide +kernel) (by decide +kernel) (by decide +kernel) rfl (Nat.le_of_ble_eq_true rfl) rfl hc nx
theorem b16_25 {d : Nat} {x1 : Int32} {x2 : Int32} {sx0 : Int32} {S : fm_S}  : am_Ev d 16 25 [some (.ref 0), some (.int x1), some (.int x2)] [.int sx0] (fm_mk S) (some (.int sx0), fm_mk S) := by
  exact fe_retI (by decide +kernel) (by decide +kernel)
theorem b16_26 {d : Nat} {x1 : Int32} {x2 : Int32} {v : Int32} {S1 : fm_S} {S : fm_S} {r : Option Value × am_W} (hc : am_Sp d 18 [.ref 1, .int x1, .int x2] (fm_mk S) (some (.int v)) (fm_mk S1)) (nx : am_Ev (d + 1) 16 35 [some (.ref 0), some (.int x1), some (.int x2)] [.int v] (fm_mk S1) r) : am_Ev (d + 1) 16 26 [some (.ref 0), some (.int x1), some (.int x2)] [] (fm_mk S) r := by
  refine fs_aloadn (j := 0) (by decide +kernel) rfl ?_
  refine fe_getR (idx := 10) (t := 7) (f := 0) (fk := 2) (fin := 1) (wp := 333) (x := 1) (by decide +kernel) (by decide +kernel) (by decide +kernel) (by decide +kernel) (by decide +kernel) ?_
  refine fs_iloadn (j := 1) (by decide +kernel) rfl ?_
  refine fs_iloadn (j := 2) (by decide +kernel) rfl ?_
  exact fe_callV (idx := 73) (n := 2) (wp := 394) (q := (395, 396)) (as := [.int x1, .int x2]) (rs := []) (by decide +kernel) (by decide +kernel) (by decide +kernel) (by decide +kernel) rfl (Nat.le_of_ble_eq_true rfl) rfl hc nx
theorem b16_35 {d : Nat} {x1 : Int32} {x2 : Int32} {sx0 : Int32} {S : fm_S} {r : Option Value × am_W} (kt : sx0 = 0 → am_Ev d 16 43 [some (.ref 0), some (.int x1), some (.int x2)] [] (fm_mk S) r) (kf : ¬ sx0 = 0 → am_Ev d 16 38 [some (.ref 0), some (.int x1), some (.int x2)] [] (fm_mk S) r) : am_Ev d 16 35 [some (.ref 0), some (.int x1), some (.int x2)] [.int sx0] (fm_mk S) r := by
  exact fs_ifeq (off := 8) (tgt := 43) (by decide +kernel) (by decide) kt kf
theorem b16_38 {d : Nat} {x1 : Int32} {x2 : Int32} {v : Int32} {S1 : fm_S} {S : fm_S} {r : Option Value × am_W} (hc : am_Sp d 20 [.ref 0] (fm_mk S) (some (.int v)) (fm_mk S1)) (nx : am_Ev (d + 1) 16 42 [some (.ref 0), some (.int x1), some (.int x2)] [.int v] (fm_mk S1) r) : am_Ev (d + 1) 16 38 [some (.ref 0), some (.int x1), some (.int x2)] [] (fm_mk S) r := by
  refine fs_aloadn (j := 0) (by decide +kernel) rfl ?_
  exact fe_callV (idx := 77) (n := 0) (wp := 401) (q := (403, 3)) (as := []) (rs := []) (by decide +kernel) (by decide +kernel) (by decide +kernel) (by decide +kernel) rfl (Nat.le_of_ble_eq_true rfl) rfl hc nx
theorem b16_42 {d : Nat} {x1 : Int32} {x2 : Int32} {sx0 : Int32} {S : fm_S}  : am_Ev d 16 42 [some (.ref 0), some (.int x1), some (.int x2)] [.int sx0] (fm_mk S) (some (.int sx0), fm_mk S) := by
  exact fe_retI (by decide +kernel) (by decide +kernel)
theorem b16_43 {d : Nat} {x1 : Int32} {x2 : Int32} {S1 : fm_S} {S : fm_S} {r : Option Value × am_W} (hc : am_Sp d 21 [.ref 1, .int x1, .int x2] (fm_mk S) (none) (fm_mk S1)) (nx : am_Ev (d + 1) 16 52 [some (.ref 0), some (.int x1), some (.int x2)] [] (fm_mk S1) r) : am_Ev (d + 1) 16 43 [some (.ref 0), some (.int x1), some (.int x2)] [] (fm_mk S) r := by
  refine fs_aloadn (j := 0) (by decide +kernel) rfl ?_
  refine fe_getR (idx := 10) (t := 7) (f := 0) (fk := 2) (fin := 1) (wp := 333) (x := 1) (by decide +kernel) (by decide +kernel) (by decide +kernel) (by decide +kernel) (by decide +kernel) ?_
  refine fs_iloadn (j := 1) (by decide +kernel) rfl ?_
  refine fs_iloadn (j := 2) (by decide +kernel) rfl ?_
  exact fe_callV (idx := 80) (n := 2) (wp := 405) (q := (406, 407)) (as := [.int x1, .int x2]) (rs := []) (by decide +kernel) (by decide +kernel) (by decide +kernel) (by decide +kernel) rfl (Nat.le_of_ble_eq_true rfl) rfl hc nx
theorem b16_52 {d : Nat} {x1 : Int32} {x2 : Int32} {S : fm_S}  : am_Ev d 16 52 [some (.ref 0), some (.int x1), some (.int x2)] [] (fm_mk S) (some (.int 1), fm_mk S) := by
  refine fs_iconst (n := 1) (v := 1) (by decide +kernel) (by decide) ?_
  exact fe_retI (by decide +kernel) (by decide +kernel)
-- KitchenSiege.isStreet(I)Z
theorem b17_0 {d : Nat} {x1 : Int32} {v : Int32} {S1 : fm_S} {S : fm_S} {r : Option Value × am_W} (hc : am_Sp d 12 [.int x1, .int 0, .int ((S.1 1 0) - 1)] (fm_mk S) (some (.int v)) (fm_mk S1)) (nx : am_Ev (d + 1) 17 14 [some (.ref 0), some (.int x1)] [.int v] (fm_mk S1) r) : am_Ev (d + 1) 17 0 [some (.ref 0), some (.int x1)] [] (fm_mk S) r := by
  refine fs_iloadn (j := 1) (by decide +kernel) rfl ?_
  refine fs_iconst (n := 0) (v := 0) (by decide +kernel) (by decide) ?_
  refine fs_aloadn (j := 0) (by decide +kernel) rfl ?_
  refine fe_getR (idx := 10) (t := 7) (f := 0) (fk := 2) (fin := 1) (wp := 333) (x := 1) (by decide +kernel) (by decide +kernel) (by decide +kernel) (by decide +kernel) (by decide +kernel) ?_
  refine fe_getI (idx := 47) (t := 6) (f := 0) (fk := 0) (fin := 0) (wp := 157) (by decide +kernel) (by decide +kernel) (by decide +kernel) (by decide +kernel) ?_
  refine fs_iconst (n := 1) (v := 1) (by decide +kernel) (by decide) ?_
  refine fs_isub (by decide +kernel) ?_
  exact fe_callS (idx := 54) (kd := 0) (n := 3) (wp := 371) (q := (372, 0)) (as := [.int x1, .int 0, .int ((S.1 1 0) - 1)]) (rs := []) (by decide +kernel) (by decide +kernel) (by decide +kernel) (by decide) rfl (Nat.le_of_ble_eq_true rfl) rfl hc nx
theorem b17_14 {d : Nat} {x1 : Int32} {sx0 : Int32} {S : fm_S}  (hz : sx0 = 0 ∨ sx0 = 1) : am_Ev d 17 14 [some (.ref 0), some (.int x1)] [.int sx0] (fm_mk S) (some (.int sx0), fm_mk S) := by
  exact fe_retZ (by decide +kernel) (by decide +kernel) hz
-- KitchenSiege.has(II)Z
theorem b19_0 {d : Nat} {x0 : Int32} {x1 : Int32} {S : fm_S} {r : Option Value × am_W} (kt : ¬ ((x0 >>> (x1 &&& 31)) &&& 1) = 1 → am_Ev d 19 13 [some (.int x0), some (.int x1)] [] (fm_mk S) r) (kf : ((x0 >>> (x1 &&& 31)) &&& 1) = 1 → am_Ev d 19 9 [some (.int x0), some (.int x1)] [] (fm_mk S) r) : am_Ev d 19 0 [some (.int x0), some (.int x1)] [] (fm_mk S) r := by
  refine fs_iloadn (j := 0) (by decide +kernel) rfl ?_
  refine fs_iloadn (j := 1) (by decide +kernel) rfl ?_
  refine fs_ishr (by decide +kernel) ?_
  refine fs_iconst (n := 1) (v := 1) (by decide +kernel) (by decide) ?_
  refine fs_iand (by decide +kernel) ?_
  refine fs_iconst (n := 1) (v := 1) (by decide +kernel) (by decide) ?_
  exact fs_icne (off := 7) (tgt := 13) (by decide +kernel) (by decide) kt kf
theorem b19_9 {d : Nat} {x0 : Int32} {x1 : Int32} {S : fm_S} {r : Option Value × am_W} (nx : am_Ev d 19 14 [some (.int x0), some (.int x1)] [.int 1] (fm_mk S) r) : am_Ev d 19 9 [some (.int x0), some (.int x1)] [] (fm_mk S) r := by
  refine fs_iconst (n := 1) (v := 1) (by decide +kernel) (by decide) ?_
  refine fs_goto (off := 4) (tgt := 14) (by decide +kernel) (by decide) ?_
  exact nx
theorem b19_13 {d : Nat} {x0 : Int32} {x1 : Int32} {S : fm_S} {r : Option Value × am_W} (nx : am_Ev d 19 14 [some (.int x0), some (.int x1)] [.int 0] (fm_mk S) r) : am_Ev d 19 13 [some (.int x0), some (.int x1)] [] (fm_mk S) r := by
  refine fs_iconst (n := 0) (v := 0) (by decide +kernel) (by decide) ?_
  exact nx
theorem b19_14 {d : Nat} {x0 : Int32} {x1 : Int32} {sx0 : Int32} {S : fm_S}  (hz : sx0 = 0 ∨ sx0 = 1) : am_Ev d 19 14 [some (.int x0), some (.int x1)] [.int sx0] (fm_mk S) (some (.int sx0), fm_mk S) := by
  exact fe_retZ (by decide +kernel) (by decide +kernel) hz
-- KitchenSiege.no()I
theorem b20_0 {d : Nat} {S : fm_S}  : am_Ev d 20 0 [some (.ref 0)] [] (fm_mk S) (some (.int (-3)), fm_mk (fm_wI S 0 7 ((S.1 0 7) + 1))) := by
  refine fs_aloadn (j := 0) (by decide +kernel) rfl ?_
  refine fs_dup (by decide +kernel) rfl ?_
  refine fe_getI (idx := 243) (t := 7) (f := 7) (fk := 0) (fin := 0) (wp := 340) (by decide +kernel) (by decide +kernel) (by decide +kernel) (by decide +kernel) ?_
  refine fs_iconst (n := 1) (v := 1) (by decide +kernel) (by decide) ?_
  refine fs_iadd (by decide +kernel) ?_
  refine fe_putI (idx := 243) (t := 7) (f := 7) (wp := 340) (by decide +kernel) (by decide +kernel) (by decide +kernel) (by decide +kernel) ?_
  refine fs_bipush (n := -3) (v := (-3)) (by decide +kernel) (by decide) ?_
  exact fe_retI (by decide +kernel) (by decide +kernel)
-- KitchenSiege.gate(II)I
theorem b22_0 {d : Nat} {x1 : Int32} {x2 : Int32} {o3 : Option Value} {v : Int32} {S1 : fm_S} {S : fm_S} {r : Option Value × am_W} (hc : am_Sp d 23 [.int x1] (fm_mk S) (some (.int v)) (fm_mk S1)) (nx : am_Ev (d + 1) 22 4 [some (.ref 0), some (.int x1), some (.int x2), o3] [.int v] (fm_mk S1) r) : am_Ev (d + 1) 22 0 [some (.ref 0), some (.int x1), some (.int x2), o3] [] (fm_mk S) r := by
  refine fs_iloadn (j := 1) (by decide +kernel) rfl ?_
  exact fe_callS (idx := 84) (kd := 0) (n := 1) (wp := 413) (q := (414, 0)) (as := [.int x1]) (rs := []) (by decide +kernel) (by decide +kernel) (by decide +kernel) (by decide) rfl (Nat.le_of_ble_eq_true rfl) rfl hc nx
theorem b22_4 {d : Nat} {x1 : Int32} {x2 : Int32} {o3 : Option Value} {sx0 : Int32} {S : fm_S} {r : Option Value × am_W} (kt : sx0 = 0 → am_Ev d 22 15 [some (.ref 0), some (.int x1), some (.int x2), o3] [] (fm_mk S) r) (kf : ¬ sx0 = 0 → am_Ev d 22 7 [some (.ref 0), some (.int x1), some (.int x2), o3] [] (fm_mk S) r) : am_Ev d 22 4 [some (.ref 0), some (.int x1), some (.int x2), o3] [.int sx0] (fm_mk S) r := by
  exact fs_ifeq (off := 11) (tgt := 15) (by decide +kernel) (by decide) kt kf
theorem b22_7 {d : Nat} {x1 : Int32} {x2 : Int32} {o3 : Option Value} {v : Int32} {S1 : fm_S} {S : fm_S} {r : Option Value × am_W} (hc : am_Sp d 17 [.ref 0, .int x2] (fm_mk S) (some (.int v)) (fm_mk S1)) (nx : am_Ev (d + 1) 22 12 [some (.ref 0), some (.int x1), some (.int x2), o3] [.int v] (fm_mk S1) r) : am_Ev (d + 1) 22 7 [some (.ref 0), some (.int x1), some (.int x2), o3] [] (fm_mk S) r := by
  refine fs_aloadn (j := 0) (by decide +kernel) rfl ?_
  refine fs_iloadn (j := 2) (by decide +kernel) rfl ?_
  exact fe_callV (idx := 69) (n := 1) (wp := 390) (q := (392, 2)) (as := [.int x2]) (rs := []) (by decide +kernel) (by decide +kernel) (by decide +kernel) (by decide +kernel) rfl (Nat.le_of_ble_eq_true rfl) rfl hc nx
theorem b22_12 {d : Nat} {x1 : Int32} {x2 : Int32} {o3 : Option Value} {sx0 : Int32} {S : fm_S} {r : Option Value × am_W} (kt : ¬ sx0 = 0 → am_Ev d 22 20 [some (.ref 0), some (.int x1), some (.int x2), o3] [] (fm_mk S) r) (kf : sx0 = 0 → am_Ev d 22 15 [some (.ref 0), some (.int x1), some (.int x2), o3] [] (fm_mk S) r) : am_Ev d 22 12 [some (.ref 0), some (.int x1), some (.int x2), o3] [.int sx0] (fm_mk S) r := by
  exact fs_ifne (off := 8) (tgt := 20) (by decide +kernel) (by decide) kt kf
theorem b22_15 {d : Nat} {x1 : Int32} {x2 : Int32} {o3 : Option Value} {v : Int32} {S1 : fm_S} {S : fm_S} {r : Option Value × am_W} (hc : am_Sp d 13 [.ref 0] (fm_mk S) (some (.int v)) (fm_mk S1)) (nx : am_Ev (d + 1) 22 19 [some (.ref 0), some (.int x1), some (.int x2), o3] [.int v] (fm_mk S1) r) : am_Ev (d + 1) 22 15 [some (.ref 0), some (.int x1), some (.int x2), o3] [] (fm_mk S) r := by
  refine fs_aloadn (j := 0) (by decide +kernel) rfl ?_
  exact fe_callV (idx := 58) (n := 0) (wp := 374) (q := (376, 0)) (as := []) (rs := []) (by decide +kernel) (by decide +kernel) (by decide +kernel) (by decide +kernel) rfl (Nat.le_of_ble_eq_true rfl) rfl hc nx
theorem b22_19 {d : Nat} {x1 : Int32} {x2 : Int32} {o3 : Option Value} {sx0 : Int32} {S : fm_S}  : am_Ev d 22 19 [some (.ref 0), some (.int x1), some (.int x2), o3] [.int sx0] (fm_mk S) (some (.int sx0), fm_mk S) := by
  exact fe_retI (by decide +kernel) (by decide +kernel)
theorem b22_20 {d : Nat} {x1 : Int32} {x2 : Int32} {o3 : Option Value} {S : fm_S}  (hi0 : vp_in x1 4) : am_Ev d 22 20 [some (.ref 0), some (.int x1), some (.int x2), o3] [] (fm_mk S) (some (.int (S.1 6 x1.toNatClampNeg)), fm_mk (fm_wI S 6 x1.toNatClampNeg x2)) := by
  refine fs_aloadn (j := 0) (by decide +kernel) rfl ?_
  refine fe_getR (idx := 10) (t := 7) (f := 0) (fk := 2) (fin := 1) (wp := 333) (x := 1) (by decide +kernel) (by decide +kernel) (by decide +kernel) (by decide +kernel) (by decide +kernel) ?_
  refine fe_getR (idx := 87) (t := 6) (f := 5) (fk := 2) (fin := 1) (wp := 172) (x := 6) (by decide +kernel) (by decide +kernel) (by decide +kernel) (by decide +kernel) (by decide +kernel) ?_
  refine fs_iloadn (j := 1) (by decide +kernel) rfl ?_
  refine fx_iald (n := x1.toNatClampNeg) (len := 4) (by decide +kernel) (by decide +kernel) (by decide +kernel) hi0 rfl ?_
  refine fs_istoren (j := 3) (L' := [some (.ref 0), some (.int x1), some (.int x2), some (.int (S.1 6 x1.toNatClampNeg))]) (by decide +kernel) (Nat.le_of_ble_eq_true rfl) rfl ?_
  refine fs_aloadn (j := 0) (by decide +kernel) rfl ?_
  refine fe_getR (idx := 10) (t := 7) (f := 0) (fk := 2) (fin := 1) (wp := 333) (x := 1) (by decide +kernel) (by decide +kernel) (by decide +kernel) (by decide +kernel) (by decide +kernel) ?_
  refine fe_getR (idx := 87) (t := 6) (f := 5) (fk := 2) (fin := 1) (wp := 172) (x := 6) (by decide +kernel) (by decide +kernel) (by decide +kernel) (by decide +kernel) (by decide +kernel) ?_
  refine fs_iloadn (j := 1) (by decide +kernel) rfl ?_
  refine fs_iloadn (j := 2) (by decide +kernel) rfl ?_
  refine fx_iast (n := x1.toNatClampNeg) (len := 4) (by decide +kernel) (by decide +kernel) (by decide +kernel) hi0 rfl ?_
  refine fs_iloadn (j := 3) (by decide +kernel) rfl ?_
  exact fe_retI (by decide +kernel) (by decide +kernel)
-- KitchenSiege.isWind(I)Z
theorem b23_0 {d : Nat} {x0 : Int32} {v : Int32} {S1 : fm_S} {S : fm_S} {r : Option Value × am_W} (hc : am_Sp d 12 [.int x0, .int 0, .int 3] (fm_mk S) (some (.int v)) (fm_mk S1)) (nx : am_Ev (d + 1) 23 6 [some (.int x0)] [.int v] (fm_mk S1) r) : am_Ev (d + 1) 23 0 [some (.int x0)] [] (fm_mk S) r := by
  refine fs_iloadn (j := 0) (by decide +kernel) rfl ?_
  refine fs_iconst (n := 0) (v := 0) (by decide +kernel) (by decide) ?_
  refine fs_iconst (n := 3) (v := 3) (by decide +kernel) (by decide) ?_
  exact fe_callS (idx := 54) (kd := 0) (n := 3) (wp := 371) (q := (372, 0)) (as := [.int x0, .int 0, .int 3]) (rs := []) (by decide +kernel) (by decide +kernel) (by decide +kernel) (by decide) rfl (Nat.le_of_ble_eq_true rfl) rfl hc nx
theorem b23_6 {d : Nat} {x0 : Int32} {sx0 : Int32} {S : fm_S}  (hz : sx0 = 0 ∨ sx0 = 1) : am_Ev d 23 6 [some (.int x0)] [.int sx0] (fm_mk S) (some (.int sx0), fm_mk S) := by
  exact fe_retZ (by decide +kernel) (by decide +kernel) hz
-- KitchenSiege.wind(II)I
theorem b24_0 {d : Nat} {x1 : Int32} {x2 : Int32} {o3 : Option Value} {v : Int32} {S1 : fm_S} {S : fm_S} {r : Option Value × am_W} (hc : am_Sp d 23 [.int x1] (fm_mk S) (some (.int v)) (fm_mk S1)) (nx : am_Ev (d + 1) 24 4 [some (.ref 0), some (.int x1), some (.int x2), o3] [.int v] (fm_mk S1) r) : am_Ev (d + 1) 24 0 [some (.ref 0), some (.int x1), some (.int x2), o3] [] (fm_mk S) r := by
  refine fs_iloadn (j := 1) (by decide +kernel) rfl ?_
  exact fe_callS (idx := 84) (kd := 0) (n := 1) (wp := 413) (q := (414, 0)) (as := [.int x1]) (rs := []) (by decide +kernel) (by decide +kernel) (by decide +kernel) (by decide) rfl (Nat.le_of_ble_eq_true rfl) rfl hc nx
theorem b24_4 {d : Nat} {x1 : Int32} {x2 : Int32} {o3 : Option Value} {sx0 : Int32} {S : fm_S} {r : Option Value × am_W} (kt : sx0 = 0 → am_Ev d 24 14 [some (.ref 0), some (.int x1), some (.int x2), o3] [] (fm_mk S) r) (kf : ¬ sx0 = 0 → am_Ev d 24 7 [some (.ref 0), some (.int x1), some (.int x2), o3] [] (fm_mk S) r) : am_Ev d 24 4 [some (.ref 0), some (.int x1), some (.int x2), o3] [.int sx0] (fm_mk S) r := by
  exact fs_ifeq (off := 10) (tgt := 14) (by decide +kernel) (by decide) kt kf
theorem b24_7 {d : Nat} {x1 : Int32} {x2 : Int32} {o3 : Option Value} {v : Int32} {S1 : fm_S} {S : fm_S} {r : Option Value × am_W} (hc : am_Sp d 23 [.int x2] (fm_mk S) (some (.int v)) (fm_mk S1)) (nx : am_Ev (d + 1) 24 11 [some (.ref 0), some (.int x1), some (.int x2), o3] [.int v] (fm_mk S1) r) : am_Ev (d + 1) 24 7 [some (.ref 0), some (.int x1), some (.int x2), o3] [] (fm_mk S) r := by
  refine fs_iloadn (j := 2) (by decide +kernel) rfl ?_
  exact fe_callS (idx := 84) (kd := 0) (n := 1) (wp := 413) (q := (414, 0)) (as := [.int x2]) (rs := []) (by decide +kernel) (by decide +kernel) (by decide +kernel) (by decide) rfl (Nat.le_of_ble_eq_true rfl) rfl hc nx
theorem b24_11 {d : Nat} {x1 : Int32} {x2 : Int32} {o3 : Option Value} {sx0 : Int32} {S : fm_S} {r : Option Value × am_W} (kt : ¬ sx0 = 0 → am_Ev d 24 19 [some (.ref 0), some (.int x1), some (.int x2), o3] [] (fm_mk S) r) (kf : sx0 = 0 → am_Ev d 24 14 [some (.ref 0), some (.int x1), some (.int x2), o3] [] (fm_mk S) r) : am_Ev d 24 11 [some (.ref 0), some (.int x1), some (.int x2), o3] [.int sx0] (fm_mk S) r := by
  exact fs_ifne (off := 8) (tgt := 19) (by decide +kernel) (by decide) kt kf
theorem b24_14 {d : Nat} {x1 : Int32} {x2 : Int32} {o3 : Option Value} {v : Int32} {S1 : fm_S} {S : fm_S} {r : Option Value × am_W} (hc : am_Sp d 13 [.ref 0] (fm_mk S) (some (.int v)) (fm_mk S1)) (nx : am_Ev (d + 1) 24 18 [some (.ref 0), some (.int x1), some (.int x2), o3] [.int v] (fm_mk S1) r) : am_Ev (d + 1) 24 14 [some (.ref 0), some (.int x1), some (.int x2), o3] [] (fm_mk S) r := by
  refine fs_aloadn (j := 0) (by decide +kernel) rfl ?_
  exact fe_callV (idx := 58) (n := 0) (wp := 374) (q := (376, 0)) (as := []) (rs := []) (by decide +kernel) (by decide +kernel) (by decide +kernel) (by decide +kernel) rfl (Nat.le_of_ble_eq_true rfl) rfl hc nx
theorem b24_18 {d : Nat} {x1 : Int32} {x2 : Int32} {o3 : Option Value} {sx0 : Int32} {S : fm_S}  : am_Ev d 24 18 [some (.ref 0), some (.int x1), some (.int x2), o3] [.int sx0] (fm_mk S) (some (.int sx0), fm_mk S) := by
  exact fe_retI (by decide +kernel) (by decide +kernel)
theorem b24_19 {d : Nat} {x1 : Int32} {x2 : Int32} {o3 : Option Value} {S : fm_S}  (hi0 : vp_in x1 4) : am_Ev d 24 19 [some (.ref 0), some (.int x1), some (.int x2), o3] [] (fm_mk S) (some (.int (S.1 7 x1.toNatClampNeg)), fm_mk (fm_wI S 7 x1.toNatClampNeg x2)) := by
  refine fs_aloadn (j := 0) (by decide +kernel) rfl ?_
  refine fe_getR (idx := 10) (t := 7) (f := 0) (fk := 2) (fin := 1) (wp := 333) (x := 1) (by decide +kernel) (by decide +kernel) (by decide +kernel) (by decide +kernel) (by decide +kernel) ?_
  refine fe_getR (idx := 91) (t := 6) (f := 6) (fk := 2) (fin := 1) (wp := 175) (x := 7) (by decide +kernel) (by decide +kernel) (by decide +kernel) (by decide +kernel) (by decide +kernel) ?_
  refine fs_iloadn (j := 1) (by decide +kernel) rfl ?_
  refine fx_iald (n := x1.toNatClampNeg) (len := 4) (by decide +kernel) (by decide +kernel) (by decide +kernel) hi0 rfl ?_
  refine fs_istoren (j := 3) (L' := [some (.ref 0), some (.int x1), some (.int x2), some (.int (S.1 7 x1.toNatClampNeg))]) (by decide +kernel) (Nat.le_of_ble_eq_true rfl) rfl ?_
  refine fs_aloadn (j := 0) (by decide +kernel) rfl ?_
  refine fe_getR (idx := 10) (t := 7) (f := 0) (fk := 2) (fin := 1) (wp := 333) (x := 1) (by decide +kernel) (by decide +kernel) (by decide +kernel) (by decide +kernel) (by decide +kernel) ?_
  refine fe_getR (idx := 91) (t := 6) (f := 6) (fk := 2) (fin := 1) (wp := 175) (x := 7) (by decide +kernel) (by decide +kernel) (by decide +kernel) (by decide +kernel) (by decide +kernel) ?_
  refine fs_iloadn (j := 1) (by decide +kernel) rfl ?_
  refine fs_iloadn (j := 2) (by decide +kernel) rfl ?_
  refine fx_iast (n := x1.toNatClampNeg) (len := 4) (by decide +kernel) (by decide +kernel) (by decide +kernel) hi0 rfl ?_
  refine fs_iloadn (j := 3) (by decide +kernel) rfl ?_
  exact fe_retI (by decide +kernel) (by decide +kernel)
-- KitchenSiege.dish(III)I
theorem b25_0 {d : Nat} {x1 : Int32} {x2 : Int32} {x3 : Int32} {v : Int32} {S1 : fm_S} {S : fm_S} {r : Option Value × am_W} (hc : am_Sp d 12 [.int x1, .int 0, .int 5] (fm_mk S) (some (.int v)) (fm_mk S1)) (nx : am_Ev (d + 1) 25 6 [some (.ref 0), some (.int x1), some (.int x2), some (.int x3)] [.int v] (fm_mk S1) r) : am_Ev (d + 1) 25 0 [some (.ref 0), some (.int x1), some (.int x2), some (.int x3)] [] (fm_mk S) r := by
  refine fs_iloadn (j := 1) (by decide +kernel) rfl ?_
  refine fs_iconst (n := 0) (v := 0) (by decide +kernel) (by decide) ?_
  refine fs_iconst (n := 5) (v := 5) (by decide +kernel) (by decide) ?_
  exact fe_callS (idx := 54) (kd := 0) (n := 3) (wp := 371) (q := (372, 0)) (as := [.int x1, .int 0, .int 5]) (rs := []) (by decide +kernel) (by decide +kernel) (by decide +kernel) (by decide) rfl (Nat.le_of_ble_eq_true rfl) rfl hc nx
theorem b25_6 {d : Nat} {x1 : Int32} {x2 : Int32} {x3 : Int32} {sx0 : Int32} {S : fm_S} {r : Option Value × am_W} (kt : sx0 = 0 → am_Ev d 25 29 [some (.ref 0), some (.int x1), some (.int x2), some (.int x3)] [] (fm_mk S) r) (kf : ¬ sx0 = 0 → am_Ev d 25 9 [some (.ref 0), some (.int x1), some (.int x2), some (.int x3)] [] (fm_mk S) r) : am_Ev d 25 6 [some (.ref 0), some (.int x1), some (.int x2), some (.int x3)] [.int sx0] (fm_mk S) r := by
  exact fs_ifeq (off := 23) (tgt := 29) (by decide +kernel) (by decide) kt kf
theorem b25_9 {d : Nat} {x1 : Int32} {x2 : Int32} {x3 : Int32} {v : Int32} {S1 : fm_S} {S : fm_S} {r : Option Value × am_W} (hc : am_Sp d 12 [.int x2, .int 1, .int 30] (fm_mk S) (some (.int v)) (fm_mk S1)) (nx : am_Ev (d + 1) 25 16 [some (.ref 0), some (.int x1), some (.int x2), some (.int x3)] [.int v] (fm_mk S1) r) : am_Ev (d + 1) 25 9 [some (.ref 0), some (.int x1), some (.int x2), some (.int x3)] [] (fm_mk S) r := by
  refine fs_iloadn (j := 2) (by decide +kernel) rfl ?_
  refine fs_iconst (n := 1) (v := 1) (by decide +kernel) (by decide) ?_
  refine fs_bipush (n := 30) (v := 30) (by decide +kernel) (by decide) ?_
  exact fe_callS (idx := 54) (kd := 0) (n := 3) (wp := 371) (q := (372, 0)) (as := [.int x2, .int 1, .int 30]) (rs := []) (by decide +kernel) (by decide +kernel) (by decide +kernel) (by decide) rfl (Nat.le_of_ble_eq_true rfl) rfl hc nx
theorem b25_16 {d : Nat} {x1 : Int32} {x2 : Int32} {x3 : Int32} {sx0 : Int32} {S : fm_S} {r : Option Value × am_W} (kt : sx0 = 0 → am_Ev d 25 29 [some (.ref 0), some (.int x1), some (.int x2), some (.int x3)] [] (fm_mk S) r) (kf : ¬ sx0 = 0 → am_Ev d 25 19 [some (.ref 0), some (.int x1), some (.int x2), some (.int x3)] [] (fm_mk S) r) : am_Ev d 25 16 [some (.ref 0), some (.int x1), some (.int x2), some (.int x3)] [.int sx0] (fm_mk S) r := by
  exact fs_ifeq (off := 13) (tgt := 29) (by decide +kernel) (by decide) kt kf
theorem b25_19 {d : Nat} {x1 : Int32} {x2 : Int32} {x3 : Int32} {v : Int32} {S1 : fm_S} {S : fm_S} {r : Option Value × am_W} (hc : am_Sp d 12 [.int x3, .int 0, .int 9] (fm_mk S) (some (.int v)) (fm_mk S1)) (nx : am_Ev (d + 1) 25 26 [some (.ref 0), some (.int x1), some (.int x2), some (.int x3)] [.int v] (fm_mk S1) r) : am_Ev (d + 1) 25 19 [some (.ref 0), some (.int x1), some (.int x2), some (.int x3)] [] (fm_mk S) r := by
  refine fs_iloadn (j := 3) (by decide +kernel) rfl ?_
  refine fs_iconst (n := 0) (v := 0) (by decide +kernel) (by decide) ?_
  refine fs_bipush (n := 9) (v := 9) (by decide +kernel) (by decide) ?_
  exact fe_callS (idx := 54) (kd := 0) (n := 3) (wp := 371) (q := (372, 0)) (as := [.int x3, .int 0, .int 9]) (rs := []) (by decide +kernel) (by decide +kernel) (by decide +kernel) (by decide) rfl (Nat.le_of_ble_eq_true rfl) rfl hc nx
theorem b25_26 {d : Nat} {x1 : Int32} {x2 : Int32} {x3 : Int32} {sx0 : Int32} {S : fm_S} {r : Option Value × am_W} (kt : ¬ sx0 = 0 → am_Ev d 25 34 [some (.ref 0), some (.int x1), some (.int x2), some (.int x3)] [] (fm_mk S) r) (kf : sx0 = 0 → am_Ev d 25 29 [some (.ref 0), some (.int x1), some (.int x2), some (.int x3)] [] (fm_mk S) r) : am_Ev d 25 26 [some (.ref 0), some (.int x1), some (.int x2), some (.int x3)] [.int sx0] (fm_mk S) r := by
  exact fs_ifne (off := 8) (tgt := 34) (by decide +kernel) (by decide) kt kf
theorem b25_29 {d : Nat} {x1 : Int32} {x2 : Int32} {x3 : Int32} {v : Int32} {S1 : fm_S} {S : fm_S} {r : Option Value × am_W} (hc : am_Sp d 13 [.ref 0] (fm_mk S) (some (.int v)) (fm_mk S1)) (nx : am_Ev (d + 1) 25 33 [some (.ref 0), some (.int x1), some (.int x2), some (.int x3)] [.int v] (fm_mk S1) r) : am_Ev (d + 1) 25 29 [some (.ref 0), some (.int x1), some (.int x2), some (.int x3)] [] (fm_mk S) r := by
  refine fs_aloadn (j := 0) (by decide +kernel) rfl ?_
  exact fe_callV (idx := 58) (n := 0) (wp := 374) (q := (376, 0)) (as := []) (rs := []) (by decide +kernel) (by decide +kernel) (by decide +kernel) (by decide +kernel) rfl (Nat.le_of_ble_eq_true rfl) rfl hc nx
theorem b25_33 {d : Nat} {x1 : Int32} {x2 : Int32} {x3 : Int32} {sx0 : Int32} {S : fm_S}  : am_Ev d 25 33 [some (.ref 0), some (.int x1), some (.int x2), some (.int x3)] [.int sx0] (fm_mk S) (some (.int sx0), fm_mk S) := by
  exact fe_retI (by decide +kernel) (by decide +kernel)
theorem b25_34 {d : Nat} {x1 : Int32} {x2 : Int32} {x3 : Int32} {S : fm_S} {r : Option Value × am_W} (kt : (S.1 1 7) < 6 → am_Ev d 25 51 [some (.ref 0), some (.int x1), some (.int x2), some (.int x3)] [] (fm_mk S) r) (kf : ¬ (S.1 1 7) < 6 → am_Ev d 25 46 [some (.ref 0), some (.int x1), some (.int x2), some (.int x3)] [] (fm_mk S) r) : am_Ev d 25 34 [some (.ref 0), some (.int x1), some (.int x2), some (.int x3)] [] (fm_mk S) r := by
  refine fs_aloadn (j := 0) (by decide +kernel) rfl ?_
  refine fe_getR (idx := 10) (t := 7) (f := 0) (fk := 2) (fin := 1) (wp := 333) (x := 1) (by decide +kernel) (by decide +kernel) (by decide +kernel) (by decide +kernel) (by decide +kernel) ?_
  refine fe_getI (idx := 94) (t := 6) (f := 7) (fk := 0) (fin := 0) (wp := 179) (by decide +kernel) (by decide +kernel) (by decide +kernel) (by decide +kernel) ?_
  refine fs_bipush (n := 6) (v := 6) (by decide +kernel) (by decide) ?_
  exact fs_iclt (off := 8) (tgt := 51) (by decide +kernel) (by decide) kt kf
theorem b25_46 {d : Nat} {x1 : Int32} {x2 : Int32} {x3 : Int32} {v : Int32} {S1 : fm_S} {S : fm_S} {r : Option Value × am_W} (hc : am_Sp d 14 [.ref 0] (fm_mk S) (some (.int v)) (fm_mk S1)) (nx : am_Ev (d + 1) 25 50 [some (.ref 0), some (.int x1), some (.int x2), some (.int x3)] [.int v] (fm_mk S1) r) : am_Ev (d + 1) 25 46 [some (.ref 0), some (.int x1), some (.int x2), some (.int x3)] [] (fm_mk S) r := by
  refine fs_aloadn (j := 0) (by decide +kernel) rfl ?_
  exact fe_callV (idx := 62) (n := 0) (wp := 378) (q := (380, 1)) (as := []) (rs := []) (by decide +kernel) (by decide +kernel) (by decide +kernel) (by decide +kernel) rfl (Nat.le_of_ble_eq_true rfl) rfl hc nx
theorem b25_50 {d : Nat} {x1 : Int32} {x2 : Int32} {x3 : Int32} {sx0 : Int32} {S : fm_S}  : am_Ev d 25 50 [some (.ref 0), some (.int x1), some (.int x2), some (.int x3)] [.int sx0] (fm_mk S) (some (.int sx0), fm_mk S) := by
  exact fe_retI (by decide +kernel) (by decide +kernel)
theorem b25_51 {d : Nat} {x1 : Int32} {x2 : Int32} {x3 : Int32} {v : Int32} {S1 : fm_S} {S : fm_S} {r : Option Value × am_W} (hc : am_Sp d 26 [.ref 1, .int x1, .int x2, .int x3] (fm_mk S) (some (.int v)) (fm_mk S1)) (nx : am_Ev (d + 1) 25 61 [some (.ref 0), some (.int x1), some (.int x2), some (.int x3)] [.int v] (fm_mk S1) r) : am_Ev (d + 1) 25 51 [some (.ref 0), some (.int x1), some (.int x2), some (.int x3)] [] (fm_mk S) r := by
  refine fs_aloadn (j := 0) (by decide +kernel) rfl ?_
  refine fe_getR (idx := 10) (t := 7) (f := 0) (fk := 2) (fin := 1) (wp := 333) (x := 1) (by decide +kernel) (by decide +kernel) (by decide +kernel) (by decide +kernel) (by decide +kernel) ?_
  refine fs_iloadn (j := 1) (by decide +kernel) rfl ?_
  refine fs_iloadn (j := 2) (by decide +kernel) rfl ?_
  refine fs_iloadn (j := 3) (by decide +kernel) rfl ?_
  exact fe_callV (idx := 97) (n := 3) (wp := 424) (q := (425, 426)) (as := [.int x1, .int x2, .int x3]) (rs := []) (by decide +kernel) (by decide +kernel) (by decide +kernel) (by decide +kernel) rfl (Nat.le_of_ble_eq_true rfl) rfl hc nx
theorem b25_61 {d : Nat} {x1 : Int32} {x2 : Int32} {x3 : Int32} {sx0 : Int32} {S : fm_S}  : am_Ev d 25 61 [some (.ref 0), some (.int x1), some (.int x2), some (.int x3)] [.int sx0] (fm_mk S) (some (.int sx0), fm_mk S) := by
  exact fe_retI (by decide +kernel) (by decide +kernel)
-- KitchenSiege.type(I)I
theorem b27_0 {d : Nat} {x1 : Int32} {v : Int32} {S1 : fm_S} {S : fm_S} {r : Option Value × am_W} (hc : am_Sp d 12 [.int x1, .int 0, .int 127] (fm_mk S) (some (.int v)) (fm_mk S1)) (nx : am_Ev (d + 1) 27 7 [some (.ref 0), some (.int x1)] [.int v] (fm_mk S1) r) : am_Ev (d + 1) 27 0 [some (.ref 0), some (.int x1)] [] (fm_mk S) r := by
  refine fs_iloadn (j := 1) (by decide +kernel) rfl ?_
  refine fs_iconst (n := 0) (v := 0) (by decide +kernel) (by decide) ?_
  refine fs_bipush (n := 127) (v := 127) (by decide +kernel) (by decide) ?_
  exact fe_callS (idx := 54) (kd := 0) (n := 3) (wp := 371) (q := (372, 0)) (as := [.int x1, .int 0, .int 127]) (rs := []) (by decide +kernel) (by decide +kernel) (by decide +kernel) (by decide) rfl (Nat.le_of_ble_eq_true rfl) rfl hc nx
theorem b27_7 {d : Nat} {x1 : Int32} {sx0 : Int32} {S : fm_S} {r : Option Value × am_W} (kt : ¬ sx0 = 0 → am_Ev d 27 15 [some (.ref 0), some (.int x1)] [] (fm_mk S) r) (kf : sx0 = 0 → am_Ev d 27 10 [some (.ref 0), some (.int x1)] [] (fm_mk S) r) : am_Ev d 27 7 [some (.ref 0), some (.int x1)] [.int sx0] (fm_mk S) r := by
  exact fs_ifne (off := 8) (tgt := 15) (by decide +kernel) (by decide) kt kf
theorem b27_10 {d : Nat} {x1 : Int32} {v : Int32} {S1 : fm_S} {S : fm_S} {r : Option Value × am_W} (hc : am_Sp d 13 [.ref 0] (fm_mk S) (some (.int v)) (fm_mk S1)) (nx : am_Ev (d + 1) 27 14 [some (.ref 0), some (.int x1)] [.int v] (fm_mk S1) r) : am_Ev (d + 1) 27 10 [some (.ref 0), some (.int x1)] [] (fm_mk S) r := by
  refine fs_aloadn (j := 0) (by decide +kernel) rfl ?_
  exact fe_callV (idx := 58) (n := 0) (wp := 374) (q := (376, 0)) (as := []) (rs := []) (by decide +kernel) (by decide +kernel) (by decide +kernel) (by decide +kernel) rfl (Nat.le_of_ble_eq_true rfl) rfl hc nx
theorem b27_14 {d : Nat} {x1 : Int32} {sx0 : Int32} {S : fm_S}  : am_Ev d 27 14 [some (.ref 0), some (.int x1)] [.int sx0] (fm_mk S) (some (.int sx0), fm_mk S) := by
  exact fe_retI (by decide +kernel) (by decide +kernel)
theorem b27_15 {d : Nat} {x1 : Int32} {S : fm_S} {r : Option Value × am_W} (kt : (S.1 67 0) < 150 → am_Ev d 27 33 [some (.ref 0), some (.int x1)] [] (fm_mk S) r) (kf : ¬ (S.1 67 0) < 150 → am_Ev d 27 28 [some (.ref 0), some (.int x1)] [] (fm_mk S) r) : am_Ev d 27 15 [some (.ref 0), some (.int x1)] [] (fm_mk S) r := by
  refine fs_aloadn (j := 0) (by decide +kernel) rfl ?_
  refine fe_getR (idx := 28) (t := 7) (f := 2) (fk := 2) (fin := 1) (wp := 335) (x := 67) (by decide +kernel) (by decide +kernel) (by decide +kernel) (by decide +kernel) (by decide +kernel) ?_
  refine fe_getI (idx := 100) (t := 5) (f := 0) (fk := 0) (fin := 0) (wp := 287) (by decide +kernel) (by decide +kernel) (by decide +kernel) (by decide +kernel) ?_
  refine fs_sipush (n := 150) (v := 150) (by decide +kernel) (by decide) ?_
  exact fs_iclt (off := 8) (tgt := 33) (by decide +kernel) (by decide) kt kf
theorem b27_28 {d : Nat} {x1 : Int32} {v : Int32} {S1 : fm_S} {S : fm_S} {r : Option Value × am_W} (hc : am_Sp d 14 [.ref 0] (fm_mk S) (some (.int v)) (fm_mk S1)) (nx : am_Ev (d + 1) 27 32 [some (.ref 0), some (.int x1)] [.int v] (fm_mk S1) r) : am_Ev (d + 1) 27 28 [some (.ref 0), some (.int x1)] [] (fm_mk S) r := by
  refine fs_aloadn (j := 0) (by decide +kernel) rfl ?_
  exact fe_callV (idx := 62) (n := 0) (wp := 378) (q := (380, 1)) (as := []) (rs := []) (by decide +kernel) (by decide +kernel) (by decide +kernel) (by decide +kernel) rfl (Nat.le_of_ble_eq_true rfl) rfl hc nx
theorem b27_32 {d : Nat} {x1 : Int32} {sx0 : Int32} {S : fm_S}  : am_Ev d 27 32 [some (.ref 0), some (.int x1)] [.int sx0] (fm_mk S) (some (.int sx0), fm_mk S) := by
  exact fe_retI (by decide +kernel) (by decide +kernel)
theorem b27_33 {d : Nat} {x1 : Int32} {v : Int32} {S1 : fm_S} {S : fm_S} {r : Option Value × am_W} (hc : am_Sp d 28 [.ref 67, .int x1] (fm_mk S) (some (.int v)) (fm_mk S1)) (nx : am_Ev (d + 1) 27 41 [some (.ref 0), some (.int x1)] [.int v] (fm_mk S1) r) : am_Ev (d + 1) 27 33 [some (.ref 0), some (.int x1)] [] (fm_mk S) r := by
  refine fs_aloadn (j := 0) (by decide +kernel) rfl ?_
  refine fe_getR (idx := 28) (t := 7) (f := 2) (fk := 2) (fin := 1) (wp := 335) (x := 67) (by decide +kernel) (by decide +kernel) (by decide +kernel) (by decide +kernel) (by decide +kernel) ?_
  refine fs_iloadn (j := 1) (by decide +kernel) rfl ?_
  exact fe_callV (idx := 103) (n := 1) (wp := 432) (q := (433, 434)) (as := [.int x1]) (rs := []) (by decide +kernel) (by decide +kernel) (by decide +kernel) (by decide +kernel) rfl (Nat.le_of_ble_eq_true rfl) rfl hc nx
theorem b27_41 {d : Nat} {x1 : Int32} {sx0 : Int32} {S : fm_S}  : am_Ev d 27 41 [some (.ref 0), some (.int x1)] [.int sx0] (fm_mk S) (some (.int sx0), fm_mk S) := by
  exact fe_retI (by decide +kernel) (by decide +kernel)
-- KitchenSiege.clear()I
theorem b29_0 {d : Nat} {o1 : Option Value} {S : fm_S}  : am_Ev d 29 0 [some (.ref 0), o1] [] (fm_mk S) (some (.int (S.1 67 0)), fm_mk (fm_wI S 67 0 0)) := by
  refine fs_aloadn (j := 0) (by decide +kernel) rfl ?_
  refine fe_getR (idx := 28) (t := 7) (f := 2) (fk := 2) (fin := 1) (wp := 335) (x := 67) (by decide +kernel) (by decide +kernel) (by decide +kernel) (by decide +kernel) (by decide +kernel) ?_
  refine fe_getI (idx := 100) (t := 5) (f := 0) (fk := 0) (fin := 0) (wp := 287) (by decide +kernel) (by decide +kernel) (by decide +kernel) (by decide +kernel) ?_
  refine fs_istoren (j := 1) (L' := [some (.ref 0), some (.int (S.1 67 0))]) (by decide +kernel) (Nat.le_of_ble_eq_true rfl) rfl ?_
  refine fs_aloadn (j := 0) (by decide +kernel) rfl ?_
  refine fe_getR (idx := 28) (t := 7) (f := 2) (fk := 2) (fin := 1) (wp := 335) (x := 67) (by decide +kernel) (by decide +kernel) (by decide +kernel) (by decide +kernel) (by decide +kernel) ?_
  refine fs_iconst (n := 0) (v := 0) (by decide +kernel) (by decide) ?_
  refine fe_putI (idx := 100) (t := 5) (f := 0) (wp := 287) (by decide +kernel) (by decide +kernel) (by decide +kernel) (by decide +kernel) ?_
  refine fs_iloadn (j := 1) (by decide +kernel) rfl ?_
  exact fe_retI (by decide +kernel) (by decide +kernel)
-- KitchenSiege.read()I
theorem b30_0 {d : Nat} {o1 : Option Value} {v : Int32} {S1 : fm_S} {S : fm_S} {r : Option Value × am_W} (hc : am_Sp d 31 [.ref 67] (fm_mk S) (some (.int v)) (fm_mk S1)) (nx : am_Ev (d + 1) 30 7 [some (.ref 0), o1] [.int v] (fm_mk S1) r) : am_Ev (d + 1) 30 0 [some (.ref 0), o1] [] (fm_mk S) r := by
  refine fs_aloadn (j := 0) (by decide +kernel) rfl ?_
  refine fe_getR (idx := 28) (t := 7) (f := 2) (fk := 2) (fin := 1) (wp := 335) (x := 67) (by decide +kernel) (by decide +kernel) (by decide +kernel) (by decide +kernel) (by decide +kernel) ?_
  exact fe_callV (idx := 107) (n := 0) (wp := 444) (q := (445, 446)) (as := []) (rs := []) (by decide +kernel) (by decide +kernel) (by decide +kernel) (by decide +kernel) rfl (Nat.le_of_ble_eq_true rfl) rfl hc nx
theorem b30_7 {d : Nat} {o1 : Option Value} {sx0 : Int32} {S : fm_S} {r : Option Value × am_W} (kt : sx0 = (-1) → am_Ev d 30 18 [some (.ref 0), some (.int sx0)] [] (fm_mk S) r) (kf : ¬ sx0 = (-1) → am_Ev d 30 13 [some (.ref 0), some (.int sx0)] [] (fm_mk S) r) : am_Ev d 30 7 [some (.ref 0), o1] [.int sx0] (fm_mk S) r := by
  refine fs_istoren (j := 1) (L' := [some (.ref 0), some (.int sx0)]) (by decide +kernel) (Nat.le_of_ble_eq_true rfl) rfl ?_
  refine fs_iloadn (j := 1) (by decide +kernel) rfl ?_
  refine fs_iconst (n := -1) (v := (-1)) (by decide +kernel) (by decide) ?_
  exact fs_iceq (off := 8) (tgt := 18) (by decide +kernel) (by decide) kt kf
theorem b30_13 {d : Nat} {x1 : Int32} {S : fm_S}  : am_Ev d 30 13 [some (.ref 0), some (.int x1)] [] (fm_mk S) (some (.int ((-10) - x1)), fm_mk S) := by
  refine fs_bipush (n := -10) (v := (-10)) (by decide +kernel) (by decide) ?_
  refine fs_iloadn (j := 1) (by decide +kernel) rfl ?_
  refine fs_isub (by decide +kernel) ?_
  exact fe_retI (by decide +kernel) (by decide +kernel)
theorem b30_18 {d : Nat} {x1 : Int32} {S1 : fm_S} {S : fm_S} {r : Option Value × am_W} (hc : am_Sp d 46 [.ref 1, .ref 68] (fm_mk S) (none) (fm_mk S1)) (nx : am_Ev (d + 1) 30 32 [some (.ref 0), some (.int x1)] [] (fm_mk S1) r) : am_Ev (d + 1) 30 18 [some (.ref 0), some (.int x1)] [] (fm_mk S) r := by
  refine fs_aloadn (j := 0) (by decide +kernel) rfl ?_
  refine fe_getR (idx := 10) (t := 7) (f := 0) (fk := 2) (fin := 1) (wp := 333) (x := 1) (by decide +kernel) (by decide +kernel) (by decide +kernel) (by decide +kernel) (by decide +kernel) ?_
  refine fs_aloadn (j := 0) (by decide +kernel) rfl ?_
  refine fe_getR (idx := 28) (t := 7) (f := 2) (fk := 2) (fin := 1) (wp := 335) (x := 67) (by decide +kernel) (by decide +kernel) (by decide +kernel) (by decide +kernel) (by decide +kernel) ?_
  refine fe_getR (idx := 110) (t := 5) (f := 2) (fk := 2) (fin := 1) (wp := 291) (x := 68) (by decide +kernel) (by decide +kernel) (by decide +kernel) (by decide +kernel) (by decide +kernel) ?_
  exact fe_callV (idx := 113) (n := 1) (wp := 561) (q := (562, 563)) (as := [.ref 68]) (rs := []) (by decide +kernel) (by decide +kernel) (by decide +kernel) (by decide +kernel) rfl (Nat.le_of_ble_eq_true rfl) rfl hc nx
theorem b30_32 {d : Nat} {x1 : Int32} {S : fm_S}  : am_Ev d 30 32 [some (.ref 0), some (.int x1)] [] (fm_mk S) (some (.int (S.1 67 1)), fm_mk S) := by
  refine fs_aloadn (j := 0) (by decide +kernel) rfl ?_
  refine fe_getR (idx := 28) (t := 7) (f := 2) (fk := 2) (fin := 1) (wp := 335) (x := 67) (by decide +kernel) (by decide +kernel) (by decide +kernel) (by decide +kernel) (by decide +kernel) ?_
  refine fe_getI (idx := 116) (t := 5) (f := 1) (fk := 0) (fin := 0) (wp := 289) (by decide +kernel) (by decide +kernel) (by decide +kernel) (by decide +kernel) ?_
  exact fe_retI (by decide +kernel) (by decide +kernel)
-- KitchenSiege.day(I)I
theorem b49_0 {d : Nat} {x1 : Int32} {S : fm_S} {r : Option Value × am_W} (kt : x1 = (-1) → am_Ev d 49 18 [some (.ref 0), some (.int x1)] [] (fm_mk S) r) (kf : ¬ x1 = (-1) → am_Ev d 49 5 [some (.ref 0), some (.int x1)] [] (fm_mk S) r) : am_Ev d 49 0 [some (.ref 0), some (.int x1)] [] (fm_mk S) r := by
  refine fs_iloadn (j := 1) (by decide +kernel) rfl ?_
  refine fs_iconst (n := -1) (v := (-1)) (by decide +kernel) (by decide) ?_
  exact fs_iceq (off := 16) (tgt := 18) (by decide +kernel) (by decide) kt kf
theorem b49_5 {d : Nat} {x1 : Int32} {v : Int32} {S1 : fm_S} {S : fm_S} {r : Option Value × am_W} (hc : am_Sp d 50 [.ref 0, .int x1] (fm_mk S) (some (.int v)) (fm_mk S1)) (nx : am_Ev (d + 1) 49 10 [some (.ref 0), some (.int x1)] [.int v] (fm_mk S1) r) : am_Ev (d + 1) 49 5 [some (.ref 0), some (.int x1)] [] (fm_mk S) r := by
  refine fs_aloadn (j := 0) (by decide +kernel) rfl ?_
  refine fs_iloadn (j := 1) (by decide +kernel) rfl ?_
  exact fe_callV (idx := 119) (n := 1) (wp := 583) (q := (585, 16)) (as := [.int x1]) (rs := []) (by decide +kernel) (by decide +kernel) (by decide +kernel) (by decide +kernel) rfl (Nat.le_of_ble_eq_true rfl) rfl hc nx
theorem b49_10 {d : Nat} {x1 : Int32} {sx0 : Int32} {S : fm_S} {r : Option Value × am_W} (kt : ¬ sx0 = 0 → am_Ev d 49 18 [some (.ref 0), some (.int x1)] [] (fm_mk S) r) (kf : sx0 = 0 → am_Ev d 49 13 [some (.ref 0), some (.int x1)] [] (fm_mk S) r) : am_Ev d 49 10 [some (.ref 0), some (.int x1)] [.int sx0] (fm_mk S) r := by
  exact fs_ifne (off := 8) (tgt := 18) (by decide +kernel) (by decide) kt kf
theorem b49_13 {d : Nat} {x1 : Int32} {v : Int32} {S1 : fm_S} {S : fm_S} {r : Option Value × am_W} (hc : am_Sp d 13 [.ref 0] (fm_mk S) (some (.int v)) (fm_mk S1)) (nx : am_Ev (d + 1) 49 17 [some (.ref 0), some (.int x1)] [.int v] (fm_mk S1) r) : am_Ev (d + 1) 49 13 [some (.ref 0), some (.int x1)] [] (fm_mk S) r := by
  refine fs_aloadn (j := 0) (by decide +kernel) rfl ?_
  exact fe_callV (idx := 58) (n := 0) (wp := 374) (q := (376, 0)) (as := []) (rs := []) (by decide +kernel) (by decide +kernel) (by decide +kernel) (by decide +kernel) rfl (Nat.le_of_ble_eq_true rfl) rfl hc nx
theorem b49_17 {d : Nat} {x1 : Int32} {sx0 : Int32} {S : fm_S}  : am_Ev d 49 17 [some (.ref 0), some (.int x1)] [.int sx0] (fm_mk S) (some (.int sx0), fm_mk S) := by
  exact fe_retI (by decide +kernel) (by decide +kernel)
theorem b49_18 {d : Nat} {x1 : Int32} {S1 : fm_S} {S : fm_S} {r : Option Value × am_W} (hc : am_Sp d 51 [.ref 1] (fm_mk S) (none) (fm_mk S1)) (nx : am_Ev (d + 1) 49 25 [some (.ref 0), some (.int x1)] [] (fm_mk S1) r) : am_Ev (d + 1) 49 18 [some (.ref 0), some (.int x1)] [] (fm_mk S) r := by
  refine fs_aloadn (j := 0) (by decide +kernel) rfl ?_
  refine fe_getR (idx := 10) (t := 7) (f := 0) (fk := 2) (fin := 1) (wp := 333) (x := 1) (by decide +kernel) (by decide +kernel) (by decide +kernel) (by decide +kernel) (by decide +kernel) ?_
  exact fe_callV (idx := 122) (n := 0) (wp := 587) (q := (588, 589)) (as := []) (rs := []) (by decide +kernel) (by decide +kernel) (by decide +kernel) (by decide +kernel) rfl (Nat.le_of_ble_eq_true rfl) rfl hc nx
theorem b49_25 {d : Nat} {x1 : Int32} {v : Int32} {S1 : fm_S} {S : fm_S} {r : Option Value × am_W} (hc : am_Sp d 52 [.ref 54, .ref 17, .int x1] (fm_mk S) (some (.int v)) (fm_mk S1)) (nx : am_Ev (d + 1) 49 40 [some (.ref 0), some (.int x1)] [.int v] (fm_mk S1) r) : am_Ev (d + 1) 49 25 [some (.ref 0), some (.int x1)] [] (fm_mk S) r := by
  refine fs_aloadn (j := 0) (by decide +kernel) rfl ?_
  refine fe_getR (idx := 21) (t := 7) (f := 1) (fk := 2) (fin := 1) (wp := 334) (x := 54) (by decide +kernel) (by decide +kernel) (by decide +kernel) (by decide +kernel) (by decide +kernel) ?_
  refine fs_aloadn (j := 0) (by decide +kernel) rfl ?_
  refine fe_getR (idx := 10) (t := 7) (f := 0) (fk := 2) (fin := 1) (wp := 333) (x := 1) (by decide +kernel) (by decide +kernel) (by decide +kernel) (by decide +kernel) (by decide +kernel) ?_
  refine fe_getR (idx := 125) (t := 6) (f := 12) (fk := 2) (fin := 1) (wp := 191) (x := 17) (by decide +kernel) (by decide +kernel) (by decide +kernel) (by decide +kernel) (by decide +kernel) ?_
  refine fs_iloadn (j := 1) (by decide +kernel) rfl ?_
  exact fe_callV (idx := 129) (n := 2) (wp := 591) (q := (592, 593)) (as := [.ref 17, .int x1]) (rs := []) (by decide +kernel) (by decide +kernel) (by decide +kernel) (by decide +kernel) rfl (Nat.le_of_ble_eq_true rfl) rfl hc nx
theorem b49_40 {d : Nat} {x1 : Int32} {sx0 : Int32} {S : fm_S}  : am_Ev d 49 40 [some (.ref 0), some (.int x1)] [.int sx0] (fm_mk S) (some (.int sx0), fm_mk S) := by
  exact fe_retI (by decide +kernel) (by decide +kernel)
-- KitchenSiege.isDish(I)Z
theorem b50_0 {d : Nat} {x1 : Int32} {v : Int32} {S1 : fm_S} {S : fm_S} {r : Option Value × am_W} (hc : am_Sp d 12 [.int x1, .int 0, .int ((S.1 1 7) - 1)] (fm_mk S) (some (.int v)) (fm_mk S1)) (nx : am_Ev (d + 1) 50 14 [some (.ref 0), some (.int x1)] [.int v] (fm_mk S1) r) : am_Ev (d + 1) 50 0 [some (.ref 0), some (.int x1)] [] (fm_mk S) r := by
  refine fs_iloadn (j := 1) (by decide +kernel) rfl ?_
  refine fs_iconst (n := 0) (v := 0) (by decide +kernel) (by decide) ?_
  refine fs_aloadn (j := 0) (by decide +kernel) rfl ?_
  refine fe_getR (idx := 10) (t := 7) (f := 0) (fk := 2) (fin := 1) (wp := 333) (x := 1) (by decide +kernel) (by decide +kernel) (by decide +kernel) (by decide +kernel) (by decide +kernel) ?_
  refine fe_getI (idx := 94) (t := 6) (f := 7) (fk := 0) (fin := 0) (wp := 179) (by decide +kernel) (by decide +kernel) (by decide +kernel) (by decide +kernel) ?_
  refine fs_iconst (n := 1) (v := 1) (by decide +kernel) (by decide) ?_
  refine fs_isub (by decide +kernel) ?_
  exact fe_callS (idx := 54) (kd := 0) (n := 3) (wp := 371) (q := (372, 0)) (as := [.int x1, .int 0, .int ((S.1 1 7) - 1)]) (rs := []) (by decide +kernel) (by decide +kernel) (by decide +kernel) (by decide) rfl (Nat.le_of_ble_eq_true rfl) rfl hc nx
theorem b50_14 {d : Nat} {x1 : Int32} {sx0 : Int32} {S : fm_S}  (hz : sx0 = 0 ∨ sx0 = 1) : am_Ev d 50 14 [some (.ref 0), some (.int x1)] [.int sx0] (fm_mk S) (some (.int sx0), fm_mk S) := by
  exact fe_retZ (by decide +kernel) (by decide +kernel) hz
-- KitchenSiege.undo()I
theorem b67_0 {d : Nat} {S : fm_S} {r : Option Value × am_W} (kt : 0 < (S.1 1 14) → am_Ev d 67 15 [some (.ref 0)] [] (fm_mk S) r) (kf : ¬ 0 < (S.1 1 14) → am_Ev d 67 10 [some (.ref 0)] [] (fm_mk S) r) : am_Ev d 67 0 [some (.ref 0)] [] (fm_mk S) r := by
  refine fs_aloadn (j := 0) (by decide +kernel) rfl ?_
  refine fe_getR (idx := 10) (t := 7) (f := 0) (fk := 2) (fin := 1) (wp := 333) (x := 1) (by decide +kernel) (by decide +kernel) (by decide +kernel) (by decide +kernel) (by decide +kernel) ?_
  refine fe_getI (idx := 133) (t := 6) (f := 14) (fk := 0) (fin := 0) (wp := 194) (by decide +kernel) (by decide +kernel) (by decide +kernel) (by decide +kernel) ?_
  exact fs_ifgt (off := 8) (tgt := 15) (by decide +kernel) (by decide) kt kf
theorem b67_10 {d : Nat} {v : Int32} {S1 : fm_S} {S : fm_S} {r : Option Value × am_W} (hc : am_Sp d 20 [.ref 0] (fm_mk S) (some (.int v)) (fm_mk S1)) (nx : am_Ev (d + 1) 67 14 [some (.ref 0)] [.int v] (fm_mk S1) r) : am_Ev (d + 1) 67 10 [some (.ref 0)] [] (fm_mk S) r := by
  refine fs_aloadn (j := 0) (by decide +kernel) rfl ?_
  exact fe_callV (idx := 77) (n := 0) (wp := 401) (q := (403, 3)) (as := []) (rs := []) (by decide +kernel) (by decide +kernel) (by decide +kernel) (by decide +kernel) rfl (Nat.le_of_ble_eq_true rfl) rfl hc nx
theorem b67_14 {d : Nat} {sx0 : Int32} {S : fm_S}  : am_Ev d 67 14 [some (.ref 0)] [.int sx0] (fm_mk S) (some (.int sx0), fm_mk S) := by
  exact fe_retI (by decide +kernel) (by decide +kernel)
theorem b67_15 {d : Nat} {S1 : fm_S} {S : fm_S} {r : Option Value × am_W} (hc : am_Sp d 68 [.ref 1] (fm_mk S) (none) (fm_mk S1)) (nx : am_Ev (d + 1) 67 22 [some (.ref 0)] [] (fm_mk S1) r) : am_Ev (d + 1) 67 15 [some (.ref 0)] [] (fm_mk S) r := by
  refine fs_aloadn (j := 0) (by decide +kernel) rfl ?_
  refine fe_getR (idx := 10) (t := 7) (f := 0) (fk := 2) (fin := 1) (wp := 333) (x := 1) (by decide +kernel) (by decide +kernel) (by decide +kernel) (by decide +kernel) (by decide +kernel) ?_
  exact fe_callV (idx := 136) (n := 0) (wp := 657) (q := (658, 659)) (as := []) (rs := []) (by decide +kernel) (by decide +kernel) (by decide +kernel) (by decide +kernel) rfl (Nat.le_of_ble_eq_true rfl) rfl hc nx
theorem b67_22 {d : Nat} {S : fm_S}  : am_Ev d 67 22 [some (.ref 0)] [] (fm_mk S) (some (.int (S.1 17 0)), fm_mk S) := by
  refine fs_aloadn (j := 0) (by decide +kernel) rfl ?_
  refine fe_getR (idx := 10) (t := 7) (f := 0) (fk := 2) (fin := 1) (wp := 333) (x := 1) (by decide +kernel) (by decide +kernel) (by decide +kernel) (by decide +kernel) (by decide +kernel) ?_
  refine fe_getR (idx := 125) (t := 6) (f := 12) (fk := 2) (fin := 1) (wp := 191) (x := 17) (by decide +kernel) (by decide +kernel) (by decide +kernel) (by decide +kernel) (by decide +kernel) ?_
  refine fe_getI (idx := 139) (t := 2) (f := 0) (fk := 0) (fin := 0) (wp := 125) (by decide +kernel) (by decide +kernel) (by decide +kernel) (by decide +kernel) ?_
  exact fe_retI (by decide +kernel) (by decide +kernel)
-- KitchenSiege.of(II)I
theorem b69_0 {d : Nat} {x1 : Int32} {x2 : Int32} {v : Int32} {S1 : fm_S} {S : fm_S} {r : Option Value × am_W} (hc : am_Sp d 17 [.ref 0, .int x1] (fm_mk S) (some (.int v)) (fm_mk S1)) (nx : am_Ev (d + 1) 69 5 [some (.ref 0), some (.int x1), some (.int x2)] [.int v] (fm_mk S1) r) : am_Ev (d + 1) 69 0 [some (.ref 0), some (.int x1), some (.int x2)] [] (fm_mk S) r := by
  refine fs_aloadn (j := 0) (by decide +kernel) rfl ?_
  refine fs_iloadn (j := 1) (by decide +kernel) rfl ?_
  exact fe_callV (idx := 69) (n := 1) (wp := 390) (q := (392, 2)) (as := [.int x1]) (rs := []) (by decide +kernel) (by decide +kernel) (by decide +kernel) (by decide +kernel) rfl (Nat.le_of_ble_eq_true rfl) rfl hc nx
theorem b69_5 {d : Nat} {x1 : Int32} {x2 : Int32} {sx0 : Int32} {S : fm_S} {r : Option Value × am_W} (kt : ¬ sx0 = 0 → am_Ev d 69 13 [some (.ref 0), some (.int x1), some (.int x2)] [] (fm_mk S) r) (kf : sx0 = 0 → am_Ev d 69 8 [some (.ref 0), some (.int x1), some (.int x2)] [] (fm_mk S) r) : am_Ev d 69 5 [some (.ref 0), some (.int x1), some (.int x2)] [.int sx0] (fm_mk S) r := by
  exact fs_ifne (off := 8) (tgt := 13) (by decide +kernel) (by decide) kt kf
theorem b69_8 {d : Nat} {x1 : Int32} {x2 : Int32} {v : Int32} {S1 : fm_S} {S : fm_S} {r : Option Value × am_W} (hc : am_Sp d 70 [.ref 0] (fm_mk S) (some (.int v)) (fm_mk S1)) (nx : am_Ev (d + 1) 69 12 [some (.ref 0), some (.int x1), some (.int x2)] [.int v] (fm_mk S1) r) : am_Ev (d + 1) 69 8 [some (.ref 0), some (.int x1), some (.int x2)] [] (fm_mk S) r := by
  refine fs_aloadn (j := 0) (by decide +kernel) rfl ?_
  exact fe_callV (idx := 144) (n := 0) (wp := 665) (q := (667, 20)) (as := []) (rs := []) (by decide +kernel) (by decide +kernel) (by decide +kernel) (by decide +kernel) rfl (Nat.le_of_ble_eq_true rfl) rfl hc nx
theorem b69_12 {d : Nat} {x1 : Int32} {x2 : Int32} {sx0 : Int32} {S : fm_S}  : am_Ev d 69 12 [some (.ref 0), some (.int x1), some (.int x2)] [.int sx0] (fm_mk S) (some (.int sx0), fm_mk S) := by
  exact fe_retI (by decide +kernel) (by decide +kernel)
theorem b69_13 {d : Nat} {x1 : Int32} {x2 : Int32} {S : fm_S} {r : Option Value × am_W} (k0 : x2 = 0 → am_Ev d 69 52 [some (.ref 0), some (.int x1), some (.int x2)] [] (fm_mk S) r) (k1 : x2 = 1 → am_Ev d 69 62 [some (.ref 0), some (.int x1), some (.int x2)] [] (fm_mk S) r) (k2 : x2 = 2 → am_Ev d 69 72 [some (.ref 0), some (.int x1), some (.int x2)] [] (fm_mk S) r) (k3 : x2 = 3 → am_Ev d 69 82 [some (.ref 0), some (.int x1), some (.int x2)] [] (fm_mk S) r) (k4 : x2 = 4 → am_Ev d 69 95 [some (.ref 0), some (.int x1), some (.int x2)] [] (fm_mk S) r) (k5 : x2 = 5 → am_Ev d 69 108 [some (.ref 0), some (.int x1), some (.int x2)] [] (fm_mk S) r) (kd : ¬ x2 = 0 → ¬ x2 = 1 → ¬ x2 = 2 → ¬ x2 = 3 → ¬ x2 = 4 → ¬ x2 = 5 → am_Ev d 69 121 [some (.ref 0), some (.int x1), some (.int x2)] [] (fm_mk S) r) : am_Ev d 69 13 [some (.ref 0), some (.int x1), some (.int x2)] [] (fm_mk S) r := by
  refine fs_iloadn (j := 2) (by decide +kernel) rfl ?_
  by_cases c0 : x2 = 0
  · exact fs_sw (i := .tableswitch 107 0 5 #[38, 48, 58, 68, 81, 94]) (z := 38) (by decide +kernel) rfl (by rw [c0]; rfl) (k0 c0)
  by_cases c1 : x2 = 1
  · exact fs_sw (i := .tableswitch 107 0 5 #[38, 48, 58, 68, 81, 94]) (z := 38) (by decide +kernel) rfl (by rw [c1]; rfl) (k1 c1)
  by_cases c2 : x2 = 2
  · exact fs_sw (i := .tableswitch 107 0 5 #[38, 48, 58, 68, 81, 94]) (z := 38) (by decide +kernel) rfl (by rw [c2]; rfl) (k2 c2)
  by_cases c3 : x2 = 3
  · exact fs_sw (i := .tableswitch 107 0 5 #[38, 48, 58, 68, 81, 94]) (z := 38) (by decide +kernel) rfl (by rw [c3]; rfl) (k3 c3)
  by_cases c4 : x2 = 4
  · exact fs_sw (i := .tableswitch 107 0 5 #[38, 48, 58, 68, 81, 94]) (z := 38) (by decide +kernel) rfl (by rw [c4]; rfl) (k4 c4)
  by_cases c5 : x2 = 5
  · exact fs_sw (i := .tableswitch 107 0 5 #[38, 48, 58, 68, 81, 94]) (z := 38) (by decide +kernel) rfl (by rw [c5]; rfl) (k5 c5)
  have e0 : ¬ (x2).toInt = 0 := fun q => c0 (Int32.toInt_inj.mp (q.trans (by decide)))
  have e1 : ¬ (x2).toInt = 1 := fun q => c1 (Int32.toInt_inj.mp (q.trans (by decide)))
  have e2 : ¬ (x2).toInt = 2 := fun q => c2 (Int32.toInt_inj.mp (q.trans (by decide)))
  have e3 : ¬ (x2).toInt = 3 := fun q => c3 (Int32.toInt_inj.mp (q.trans (by decide)))
  have e4 : ¬ (x2).toInt = 4 := fun q => c4 (Int32.toInt_inj.mp (q.trans (by decide)))
  have e5 : ¬ (x2).toInt = 5 := fun q => c5 (Int32.toInt_inj.mp (q.trans (by decide)))
  exact fs_tout (dflt := 107) (lo := 0) (hi := 5) (offs := #[38, 48, 58, 68, 81, 94]) (z := 38) (by decide +kernel) (by omega) (by decide) (kd c0 c1 c2 c3 c4 c5)
theorem b69_52 {d : Nat} {x1 : Int32} {x2 : Int32} {S : fm_S}  (hi0 : vp_in x1 8) : am_Ev d 69 52 [some (.ref 0), some (.int x1), some (.int x2)] [] (fm_mk S) (some (.int (S.1 2 x1.toNatClampNeg)), fm_mk S) := by
  refine fs_aloadn (j := 0) (by decide +kernel) rfl ?_
  refine fe_getR (idx := 10) (t := 7) (f := 0) (fk := 2) (fin := 1) (wp := 333) (x := 1) (by decide +kernel) (by decide +kernel) (by decide +kernel) (by decide +kernel) (by decide +kernel) ?_
  refine fe_getR (idx := 147) (t := 6) (f := 1) (fk := 2) (fin := 1) (wp := 162) (x := 2) (by decide +kernel) (by decide +kernel) (by decide +kernel) (by decide +kernel) (by decide +kernel) ?_
  refine fs_iloadn (j := 1) (by decide +kernel) rfl ?_
  refine fx_iald (n := x1.toNatClampNeg) (len := 8) (by decide +kernel) (by decide +kernel) (by decide +kernel) hi0 rfl ?_
  exact fe_retI (by decide +kernel) (by decide +kernel)
theorem b69_62 {d : Nat} {x1 : Int32} {x2 : Int32} {S : fm_S}  (hi0 : vp_in x1 8) : am_Ev d 69 62 [some (.ref 0), some (.int x1), some (.int x2)] [] (fm_mk S) (some (.int (S.1 3 x1.toNatClampNeg)), fm_mk S) := by
  refine fs_aloadn (j := 0) (by decide +kernel) rfl ?_
  refine fe_getR (idx := 10) (t := 7) (f := 0) (fk := 2) (fin := 1) (wp := 333) (x := 1) (by decide +kernel) (by decide +kernel) (by decide +kernel) (by decide +kernel) (by decide +kernel) ?_
  refine fe_getR (idx := 150) (t := 6) (f := 2) (fk := 2) (fin := 1) (wp := 165) (x := 3) (by decide +kernel) (by decide +kernel) (by decide +kernel) (by decide +kernel) (by decide +kernel) ?_
  refine fs_iloadn (j := 1) (by decide +kernel) rfl ?_
  refine fx_iald (n := x1.toNatClampNeg) (len := 8) (by decide +kernel) (by decide +kernel) (by decide +kernel) hi0 rfl ?_
  exact fe_retI (by decide +kernel) (by decide +kernel)
theorem b69_72 {d : Nat} {x1 : Int32} {x2 : Int32} {S : fm_S}  (hi0 : vp_in x1 8) : am_Ev d 69 72 [some (.ref 0), some (.int x1), some (.int x2)] [] (fm_mk S) (some (.int (S.1 4 x1.toNatClampNeg)), fm_mk S) := by
  refine fs_aloadn (j := 0) (by decide +kernel) rfl ?_
  refine fe_getR (idx := 10) (t := 7) (f := 0) (fk := 2) (fin := 1) (wp := 333) (x := 1) (by decide +kernel) (by decide +kernel) (by decide +kernel) (by decide +kernel) (by decide +kernel) ?_
  refine fe_getR (idx := 153) (t := 6) (f := 3) (fk := 2) (fin := 1) (wp := 167) (x := 4) (by decide +kernel) (by decide +kernel) (by decide +kernel) (by decide +kernel) (by decide +kernel) ?_
  refine fs_iloadn (j := 1) (by decide +kernel) rfl ?_
  refine fx_iald (n := x1.toNatClampNeg) (len := 8) (by decide +kernel) (by decide +kernel) (by decide +kernel) hi0 rfl ?_
  exact fe_retI (by decide +kernel) (by decide +kernel)
theorem b69_82 {d : Nat} {x1 : Int32} {x2 : Int32} {S : fm_S}  (hi0 : vp_in x1 8) : am_Ev d 69 82 [some (.ref 0), some (.int x1), some (.int x2)] [] (fm_mk S) (some (.int (S.1 18 x1.toNatClampNeg)), fm_mk S) := by
  refine fs_aloadn (j := 0) (by decide +kernel) rfl ?_
  refine fe_getR (idx := 10) (t := 7) (f := 0) (fk := 2) (fin := 1) (wp := 333) (x := 1) (by decide +kernel) (by decide +kernel) (by decide +kernel) (by decide +kernel) (by decide +kernel) ?_
  refine fe_getR (idx := 125) (t := 6) (f := 12) (fk := 2) (fin := 1) (wp := 191) (x := 17) (by decide +kernel) (by decide +kernel) (by decide +kernel) (by decide +kernel) (by decide +kernel) ?_
  refine fe_getR (idx := 156) (t := 2) (f := 1) (fk := 2) (fin := 1) (wp := 129) (x := 18) (by decide +kernel) (by decide +kernel) (by decide +kernel) (by decide +kernel) (by decide +kernel) ?_
  refine fs_iloadn (j := 1) (by decide +kernel) rfl ?_
  refine fx_iald (n := x1.toNatClampNeg) (len := 8) (by decide +kernel) (by decide +kernel) (by decide +kernel) hi0 rfl ?_
  exact fe_retI (by decide +kernel) (by decide +kernel)
theorem b69_95 {d : Nat} {x1 : Int32} {x2 : Int32} {S : fm_S}  (hi0 : vp_in x1 8) : am_Ev d 69 95 [some (.ref 0), some (.int x1), some (.int x2)] [] (fm_mk S) (some (.int (S.1 19 x1.toNatClampNeg)), fm_mk S) := by
  refine fs_aloadn (j := 0) (by decide +kernel) rfl ?_
  refine fe_getR (idx := 10) (t := 7) (f := 0) (fk := 2) (fin := 1) (wp := 333) (x := 1) (by decide +kernel) (by decide +kernel) (by decide +kernel) (by decide +kernel) (by decide +kernel) ?_
  refine fe_getR (idx := 125) (t := 6) (f := 12) (fk := 2) (fin := 1) (wp := 191) (x := 17) (by decide +kernel) (by decide +kernel) (by decide +kernel) (by decide +kernel) (by decide +kernel) ?_
  refine fe_getR (idx := 159) (t := 2) (f := 2) (fk := 2) (fin := 1) (wp := 133) (x := 19) (by decide +kernel) (by decide +kernel) (by decide +kernel) (by decide +kernel) (by decide +kernel) ?_
  refine fs_iloadn (j := 1) (by decide +kernel) rfl ?_
  refine fx_iald (n := x1.toNatClampNeg) (len := 8) (by decide +kernel) (by decide +kernel) (by decide +kernel) hi0 rfl ?_
  exact fe_retI (by decide +kernel) (by decide +kernel)
theorem b69_108 {d : Nat} {x1 : Int32} {x2 : Int32} {S : fm_S}  (hi0 : vp_in x1 8) : am_Ev d 69 108 [some (.ref 0), some (.int x1), some (.int x2)] [] (fm_mk S) (some (.int (S.1 20 x1.toNatClampNeg)), fm_mk S) := by
  refine fs_aloadn (j := 0) (by decide +kernel) rfl ?_
  refine fe_getR (idx := 10) (t := 7) (f := 0) (fk := 2) (fin := 1) (wp := 333) (x := 1) (by decide +kernel) (by decide +kernel) (by decide +kernel) (by decide +kernel) (by decide +kernel) ?_
  refine fe_getR (idx := 125) (t := 6) (f := 12) (fk := 2) (fin := 1) (wp := 191) (x := 17) (by decide +kernel) (by decide +kernel) (by decide +kernel) (by decide +kernel) (by decide +kernel) ?_
  refine fe_getR (idx := 162) (t := 2) (f := 3) (fk := 2) (fin := 1) (wp := 137) (x := 20) (by decide +kernel) (by decide +kernel) (by decide +kernel) (by decide +kernel) (by decide +kernel) ?_
  refine fs_iloadn (j := 1) (by decide +kernel) rfl ?_
  refine fx_iald (n := x1.toNatClampNeg) (len := 8) (by decide +kernel) (by decide +kernel) (by decide +kernel) hi0 rfl ?_
  exact fe_retI (by decide +kernel) (by decide +kernel)
theorem b69_121 {d : Nat} {x1 : Int32} {x2 : Int32} {v : Int32} {S1 : fm_S} {S : fm_S} {r : Option Value × am_W} (hc : am_Sp d 70 [.ref 0] (fm_mk S) (some (.int v)) (fm_mk S1)) (nx : am_Ev (d + 1) 69 125 [some (.ref 0), some (.int x1), some (.int x2)] [.int v] (fm_mk S1) r) : am_Ev (d + 1) 69 121 [some (.ref 0), some (.int x1), some (.int x2)] [] (fm_mk S) r := by
  refine fs_aloadn (j := 0) (by decide +kernel) rfl ?_
  exact fe_callV (idx := 144) (n := 0) (wp := 665) (q := (667, 20)) (as := []) (rs := []) (by decide +kernel) (by decide +kernel) (by decide +kernel) (by decide +kernel) rfl (Nat.le_of_ble_eq_true rfl) rfl hc nx
theorem b69_125 {d : Nat} {x1 : Int32} {x2 : Int32} {sx0 : Int32} {S : fm_S}  : am_Ev d 69 125 [some (.ref 0), some (.int x1), some (.int x2)] [.int sx0] (fm_mk S) (some (.int sx0), fm_mk S) := by
  exact fe_retI (by decide +kernel) (by decide +kernel)
-- KitchenSiege.badTen()I
theorem b70_0 {d : Nat} {S : fm_S}  : am_Ev d 70 0 [some (.ref 0)] [] (fm_mk S) (some (.int (-10)), fm_mk (fm_wI S 0 6 ((S.1 0 6) + 1))) := by
  refine fs_aloadn (j := 0) (by decide +kernel) rfl ?_
  refine fs_dup (by decide +kernel) rfl ?_
  refine fe_getI (idx := 240) (t := 7) (f := 6) (fk := 0) (fin := 0) (wp := 339) (by decide +kernel) (by decide +kernel) (by decide +kernel) (by decide +kernel) ?_
  refine fs_iconst (n := 1) (v := 1) (by decide +kernel) (by decide) ?_
  refine fs_iadd (by decide +kernel) ?_
  refine fe_putI (idx := 240) (t := 7) (f := 6) (wp := 339) (by decide +kernel) (by decide +kernel) (by decide +kernel) (by decide +kernel) ?_
  refine fs_bipush (n := -10) (v := (-10)) (by decide +kernel) (by decide) ?_
  exact fe_retI (by decide +kernel) (by decide +kernel)
-- KitchenSiege.smells(III)I
theorem b71_0 {d : Nat} {x1 : Int32} {x2 : Int32} {x3 : Int32} {v : Int32} {S1 : fm_S} {S : fm_S} {r : Option Value × am_W} (hc : am_Sp d 50 [.ref 0, .int x1] (fm_mk S) (some (.int v)) (fm_mk S1)) (nx : am_Ev (d + 1) 71 5 [some (.ref 0), some (.int x1), some (.int x2), some (.int x3)] [.int v] (fm_mk S1) r) : am_Ev (d + 1) 71 0 [some (.ref 0), some (.int x1), some (.int x2), some (.int x3)] [] (fm_mk S) r := by
  refine fs_aloadn (j := 0) (by decide +kernel) rfl ?_
  refine fs_iloadn (j := 1) (by decide +kernel) rfl ?_
  exact fe_callV (idx := 119) (n := 1) (wp := 583) (q := (585, 16)) (as := [.int x1]) (rs := []) (by decide +kernel) (by decide +kernel) (by decide +kernel) (by decide +kernel) rfl (Nat.le_of_ble_eq_true rfl) rfl hc nx
theorem b71_5 {d : Nat} {x1 : Int32} {x2 : Int32} {x3 : Int32} {sx0 : Int32} {S : fm_S} {r : Option Value × am_W} (kt : sx0 = 0 → am_Ev d 71 23 [some (.ref 0), some (.int x1), some (.int x2), some (.int x3)] [] (fm_mk S) r) (kf : ¬ sx0 = 0 → am_Ev d 71 8 [some (.ref 0), some (.int x1), some (.int x2), some (.int x3)] [] (fm_mk S) r) : am_Ev d 71 5 [some (.ref 0), some (.int x1), some (.int x2), some (.int x3)] [.int sx0] (fm_mk S) r := by
  exact fs_ifeq (off := 18) (tgt := 23) (by decide +kernel) (by decide) kt kf
theorem b71_8 {d : Nat} {x1 : Int32} {x2 : Int32} {x3 : Int32} {v : Int32} {S1 : fm_S} {S : fm_S} {r : Option Value × am_W} (hc : am_Sp d 23 [.int x2] (fm_mk S) (some (.int v)) (fm_mk S1)) (nx : am_Ev (d + 1) 71 12 [some (.ref 0), some (.int x1), some (.int x2), some (.int x3)] [.int v] (fm_mk S1) r) : am_Ev (d + 1) 71 8 [some (.ref 0), some (.int x1), some (.int x2), some (.int x3)] [] (fm_mk S) r := by
  refine fs_iloadn (j := 2) (by decide +kernel) rfl ?_
  exact fe_callS (idx := 84) (kd := 0) (n := 1) (wp := 413) (q := (414, 0)) (as := [.int x2]) (rs := []) (by decide +kernel) (by decide +kernel) (by decide +kernel) (by decide) rfl (Nat.le_of_ble_eq_true rfl) rfl hc nx
theorem b71_12 {d : Nat} {x1 : Int32} {x2 : Int32} {x3 : Int32} {sx0 : Int32} {S : fm_S} {r : Option Value × am_W} (kt : sx0 = 0 → am_Ev d 71 23 [some (.ref 0), some (.int x1), some (.int x2), some (.int x3)] [] (fm_mk S) r) (kf : ¬ sx0 = 0 → am_Ev d 71 15 [some (.ref 0), some (.int x1), some (.int x2), some (.int x3)] [] (fm_mk S) r) : am_Ev d 71 12 [some (.ref 0), some (.int x1), some (.int x2), some (.int x3)] [.int sx0] (fm_mk S) r := by
  exact fs_ifeq (off := 11) (tgt := 23) (by decide +kernel) (by decide) kt kf
theorem b71_15 {d : Nat} {x1 : Int32} {x2 : Int32} {x3 : Int32} {v : Int32} {S1 : fm_S} {S : fm_S} {r : Option Value × am_W} (hc : am_Sp d 17 [.ref 0, .int x3] (fm_mk S) (some (.int v)) (fm_mk S1)) (nx : am_Ev (d + 1) 71 20 [some (.ref 0), some (.int x1), some (.int x2), some (.int x3)] [.int v] (fm_mk S1) r) : am_Ev (d + 1) 71 15 [some (.ref 0), some (.int x1), some (.int x2), some (.int x3)] [] (fm_mk S) r := by
  refine fs_aloadn (j := 0) (by decide +kernel) rfl ?_
  refine fs_iloadn (j := 3) (by decide +kernel) rfl ?_
  exact fe_callV (idx := 69) (n := 1) (wp := 390) (q := (392, 2)) (as := [.int x3]) (rs := []) (by decide +kernel) (by decide +kernel) (by decide +kernel) (by decide +kernel) rfl (Nat.le_of_ble_eq_true rfl) rfl hc nx
theorem b71_20 {d : Nat} {x1 : Int32} {x2 : Int32} {x3 : Int32} {sx0 : Int32} {S : fm_S} {r : Option Value × am_W} (kt : ¬ sx0 = 0 → am_Ev d 71 28 [some (.ref 0), some (.int x1), some (.int x2), some (.int x3)] [] (fm_mk S) r) (kf : sx0 = 0 → am_Ev d 71 23 [some (.ref 0), some (.int x1), some (.int x2), some (.int x3)] [] (fm_mk S) r) : am_Ev d 71 20 [some (.ref 0), some (.int x1), some (.int x2), some (.int x3)] [.int sx0] (fm_mk S) r := by
  exact fs_ifne (off := 8) (tgt := 28) (by decide +kernel) (by decide) kt kf
theorem b71_23 {d : Nat} {x1 : Int32} {x2 : Int32} {x3 : Int32} {v : Int32} {S1 : fm_S} {S : fm_S} {r : Option Value × am_W} (hc : am_Sp d 13 [.ref 0] (fm_mk S) (some (.int v)) (fm_mk S1)) (nx : am_Ev (d + 1) 71 27 [some (.ref 0), some (.int x1), some (.int x2), some (.int x3)] [.int v] (fm_mk S1) r) : am_Ev (d + 1) 71 23 [some (.ref 0), some (.int x1), some (.int x2), some (.int x3)] [] (fm_mk S) r := by
  refine fs_aloadn (j := 0) (by decide +kernel) rfl ?_
  exact fe_callV (idx := 58) (n := 0) (wp := 374) (q := (376, 0)) (as := []) (rs := []) (by decide +kernel) (by decide +kernel) (by decide +kernel) (by decide +kernel) rfl (Nat.le_of_ble_eq_true rfl) rfl hc nx
theorem b71_27 {d : Nat} {x1 : Int32} {x2 : Int32} {x3 : Int32} {sx0 : Int32} {S : fm_S}  : am_Ev d 71 27 [some (.ref 0), some (.int x1), some (.int x2), some (.int x3)] [.int sx0] (fm_mk S) (some (.int sx0), fm_mk S) := by
  exact fe_retI (by decide +kernel) (by decide +kernel)
theorem b71_28 {d : Nat} {x1 : Int32} {x2 : Int32} {x3 : Int32} {v : Int32} {S1 : fm_S} {S : fm_S} {r : Option Value × am_W} (hc : am_Sp d 72 [.ref 54, .int x1, .int x2, .int x3] (fm_mk S) (some (.int v)) (fm_mk S1)) (nx : am_Ev (d + 1) 71 38 [some (.ref 0), some (.int x1), some (.int x2), some (.int x3)] [.int v] (fm_mk S1) r) : am_Ev (d + 1) 71 28 [some (.ref 0), some (.int x1), some (.int x2), some (.int x3)] [] (fm_mk S) r := by
  refine fs_aloadn (j := 0) (by decide +kernel) rfl ?_
  refine fe_getR (idx := 21) (t := 7) (f := 1) (fk := 2) (fin := 1) (wp := 334) (x := 54) (by decide +kernel) (by decide +kernel) (by decide +kernel) (by decide +kernel) (by decide +kernel) ?_
  refine fs_iloadn (j := 1) (by decide +kernel) rfl ?_
  refine fs_iloadn (j := 2) (by decide +kernel) rfl ?_
  refine fs_iloadn (j := 3) (by decide +kernel) rfl ?_
  exact fe_callV (idx := 165) (n := 3) (wp := 673) (q := (674, 675)) (as := [.int x1, .int x2, .int x3]) (rs := []) (by decide +kernel) (by decide +kernel) (by decide +kernel) (by decide +kernel) rfl (Nat.le_of_ble_eq_true rfl) rfl hc nx
theorem b71_38 {d : Nat} {x1 : Int32} {x2 : Int32} {x3 : Int32} {sx0 : Int32} {S : fm_S}  : am_Ev d 71 38 [some (.ref 0), some (.int x1), some (.int x2), some (.int x3)] [.int sx0] (fm_mk S) (some (.int sx0), fm_mk S) := by
  exact fe_retI (by decide +kernel) (by decide +kernel)
-- KitchenSiege.moved(II)I
theorem b73_0 {d : Nat} {x1 : Int32} {x2 : Int32} {v : Int32} {S1 : fm_S} {S : fm_S} {r : Option Value × am_W} (hc : am_Sp d 50 [.ref 0, .int x1] (fm_mk S) (some (.int v)) (fm_mk S1)) (nx : am_Ev (d + 1) 73 5 [some (.ref 0), some (.int x1), some (.int x2)] [.int v] (fm_mk S1) r) : am_Ev (d + 1) 73 0 [some (.ref 0), some (.int x1), some (.int x2)] [] (fm_mk S) r := by
  refine fs_aloadn (j := 0) (by decide +kernel) rfl ?_
  refine fs_iloadn (j := 1) (by decide +kernel) rfl ?_
  exact fe_callV (idx := 119) (n := 1) (wp := 583) (q := (585, 16)) (as := [.int x1]) (rs := []) (by decide +kernel) (by decide +kernel) (by decide +kernel) (by decide +kernel) rfl (Nat.le_of_ble_eq_true rfl) rfl hc nx
theorem b73_5 {d : Nat} {x1 : Int32} {x2 : Int32} {sx0 : Int32} {S : fm_S} {r : Option Value × am_W} (kt : sx0 = 0 → am_Ev d 73 16 [some (.ref 0), some (.int x1), some (.int x2)] [] (fm_mk S) r) (kf : ¬ sx0 = 0 → am_Ev d 73 8 [some (.ref 0), some (.int x1), some (.int x2)] [] (fm_mk S) r) : am_Ev d 73 5 [some (.ref 0), some (.int x1), some (.int x2)] [.int sx0] (fm_mk S) r := by
  exact fs_ifeq (off := 11) (tgt := 16) (by decide +kernel) (by decide) kt kf
theorem b73_8 {d : Nat} {x1 : Int32} {x2 : Int32} {v : Int32} {S1 : fm_S} {S : fm_S} {r : Option Value × am_W} (hc : am_Sp d 17 [.ref 0, .int x2] (fm_mk S) (some (.int v)) (fm_mk S1)) (nx : am_Ev (d + 1) 73 13 [some (.ref 0), some (.int x1), some (.int x2)] [.int v] (fm_mk S1) r) : am_Ev (d + 1) 73 8 [some (.ref 0), some (.int x1), some (.int x2)] [] (fm_mk S) r := by
  refine fs_aloadn (j := 0) (by decide +kernel) rfl ?_
  refine fs_iloadn (j := 2) (by decide +kernel) rfl ?_
  exact fe_callV (idx := 69) (n := 1) (wp := 390) (q := (392, 2)) (as := [.int x2]) (rs := []) (by decide +kernel) (by decide +kernel) (by decide +kernel) (by decide +kernel) rfl (Nat.le_of_ble_eq_true rfl) rfl hc nx
theorem b73_13 {d : Nat} {x1 : Int32} {x2 : Int32} {sx0 : Int32} {S : fm_S} {r : Option Value × am_W} (kt : ¬ sx0 = 0 → am_Ev d 73 21 [some (.ref 0), some (.int x1), some (.int x2)] [] (fm_mk S) r) (kf : sx0 = 0 → am_Ev d 73 16 [some (.ref 0), some (.int x1), some (.int x2)] [] (fm_mk S) r) : am_Ev d 73 13 [some (.ref 0), some (.int x1), some (.int x2)] [.int sx0] (fm_mk S) r := by
  exact fs_ifne (off := 8) (tgt := 21) (by decide +kernel) (by decide) kt kf
theorem b73_16 {d : Nat} {x1 : Int32} {x2 : Int32} {v : Int32} {S1 : fm_S} {S : fm_S} {r : Option Value × am_W} (hc : am_Sp d 13 [.ref 0] (fm_mk S) (some (.int v)) (fm_mk S1)) (nx : am_Ev (d + 1) 73 20 [some (.ref 0), some (.int x1), some (.int x2)] [.int v] (fm_mk S1) r) : am_Ev (d + 1) 73 16 [some (.ref 0), some (.int x1), some (.int x2)] [] (fm_mk S) r := by
  refine fs_aloadn (j := 0) (by decide +kernel) rfl ?_
  exact fe_callV (idx := 58) (n := 0) (wp := 374) (q := (376, 0)) (as := []) (rs := []) (by decide +kernel) (by decide +kernel) (by decide +kernel) (by decide +kernel) rfl (Nat.le_of_ble_eq_true rfl) rfl hc nx
theorem b73_20 {d : Nat} {x1 : Int32} {x2 : Int32} {sx0 : Int32} {S : fm_S}  : am_Ev d 73 20 [some (.ref 0), some (.int x1), some (.int x2)] [.int sx0] (fm_mk S) (some (.int sx0), fm_mk S) := by
  exact fe_retI (by decide +kernel) (by decide +kernel)
theorem b73_21 {d : Nat} {x1 : Int32} {x2 : Int32} {v : Int32} {S1 : fm_S} {S : fm_S} {r : Option Value × am_W} (hc : am_Sp d 74 [.ref 54, .int x1, .int x2] (fm_mk S) (some (.int v)) (fm_mk S1)) (nx : am_Ev (d + 1) 73 30 [some (.ref 0), some (.int x1), some (.int x2)] [.int v] (fm_mk S1) r) : am_Ev (d + 1) 73 21 [some (.ref 0), some (.int x1), some (.int x2)] [] (fm_mk S) r := by
  refine fs_aloadn (j := 0) (by decide +kernel) rfl ?_
  refine fe_getR (idx := 21) (t := 7) (f := 1) (fk := 2) (fin := 1) (wp := 334) (x := 54) (by decide +kernel) (by decide +kernel) (by decide +kernel) (by decide +kernel) (by decide +kernel) ?_
  refine fs_iloadn (j := 1) (by decide +kernel) rfl ?_
  refine fs_iloadn (j := 2) (by decide +kernel) rfl ?_
  exact fe_callV (idx := 168) (n := 2) (wp := 681) (q := (682, 683)) (as := [.int x1, .int x2]) (rs := []) (by decide +kernel) (by decide +kernel) (by decide +kernel) (by decide +kernel) rfl (Nat.le_of_ble_eq_true rfl) rfl hc nx
theorem b73_30 {d : Nat} {x1 : Int32} {x2 : Int32} {sx0 : Int32} {S : fm_S}  : am_Ev d 73 30 [some (.ref 0), some (.int x1), some (.int x2)] [.int sx0] (fm_mk S) (some (.int sx0), fm_mk S) := by
  exact fe_retI (by decide +kernel) (by decide +kernel)
-- KitchenSiege.falls(II)I
theorem b75_0 {d : Nat} {x1 : Int32} {x2 : Int32} {v : Int32} {S1 : fm_S} {S : fm_S} {r : Option Value × am_W} (hc : am_Sp d 50 [.ref 0, .int x1] (fm_mk S) (some (.int v)) (fm_mk S1)) (nx : am_Ev (d + 1) 75 5 [some (.ref 0), some (.int x1), some (.int x2)] [.int v] (fm_mk S1) r) : am_Ev (d + 1) 75 0 [some (.ref 0), some (.int x1), some (.int x2)] [] (fm_mk S) r := by
  refine fs_aloadn (j := 0) (by decide +kernel) rfl ?_
  refine fs_iloadn (j := 1) (by decide +kernel) rfl ?_
  exact fe_callV (idx := 119) (n := 1) (wp := 583) (q := (585, 16)) (as := [.int x1]) (rs := []) (by decide +kernel) (by decide +kernel) (by decide +kernel) (by decide +kernel) rfl (Nat.le_of_ble_eq_true rfl) rfl hc nx
theorem b75_5 {d : Nat} {x1 : Int32} {x2 : Int32} {sx0 : Int32} {S : fm_S} {r : Option Value × am_W} (kt : sx0 = 0 → am_Ev d 75 16 [some (.ref 0), some (.int x1), some (.int x2)] [] (fm_mk S) r) (kf : ¬ sx0 = 0 → am_Ev d 75 8 [some (.ref 0), some (.int x1), some (.int x2)] [] (fm_mk S) r) : am_Ev d 75 5 [some (.ref 0), some (.int x1), some (.int x2)] [.int sx0] (fm_mk S) r := by
  exact fs_ifeq (off := 11) (tgt := 16) (by decide +kernel) (by decide) kt kf
theorem b75_8 {d : Nat} {x1 : Int32} {x2 : Int32} {v : Int32} {S1 : fm_S} {S : fm_S} {r : Option Value × am_W} (hc : am_Sp d 17 [.ref 0, .int x2] (fm_mk S) (some (.int v)) (fm_mk S1)) (nx : am_Ev (d + 1) 75 13 [some (.ref 0), some (.int x1), some (.int x2)] [.int v] (fm_mk S1) r) : am_Ev (d + 1) 75 8 [some (.ref 0), some (.int x1), some (.int x2)] [] (fm_mk S) r := by
  refine fs_aloadn (j := 0) (by decide +kernel) rfl ?_
  refine fs_iloadn (j := 2) (by decide +kernel) rfl ?_
  exact fe_callV (idx := 69) (n := 1) (wp := 390) (q := (392, 2)) (as := [.int x2]) (rs := []) (by decide +kernel) (by decide +kernel) (by decide +kernel) (by decide +kernel) rfl (Nat.le_of_ble_eq_true rfl) rfl hc nx
theorem b75_13 {d : Nat} {x1 : Int32} {x2 : Int32} {sx0 : Int32} {S : fm_S} {r : Option Value × am_W} (kt : ¬ sx0 = 0 → am_Ev d 75 21 [some (.ref 0), some (.int x1), some (.int x2)] [] (fm_mk S) r) (kf : sx0 = 0 → am_Ev d 75 16 [some (.ref 0), some (.int x1), some (.int x2)] [] (fm_mk S) r) : am_Ev d 75 13 [some (.ref 0), some (.int x1), some (.int x2)] [.int sx0] (fm_mk S) r := by
  exact fs_ifne (off := 8) (tgt := 21) (by decide +kernel) (by decide) kt kf
theorem b75_16 {d : Nat} {x1 : Int32} {x2 : Int32} {v : Int32} {S1 : fm_S} {S : fm_S} {r : Option Value × am_W} (hc : am_Sp d 13 [.ref 0] (fm_mk S) (some (.int v)) (fm_mk S1)) (nx : am_Ev (d + 1) 75 20 [some (.ref 0), some (.int x1), some (.int x2)] [.int v] (fm_mk S1) r) : am_Ev (d + 1) 75 16 [some (.ref 0), some (.int x1), some (.int x2)] [] (fm_mk S) r := by
  refine fs_aloadn (j := 0) (by decide +kernel) rfl ?_
  exact fe_callV (idx := 58) (n := 0) (wp := 374) (q := (376, 0)) (as := []) (rs := []) (by decide +kernel) (by decide +kernel) (by decide +kernel) (by decide +kernel) rfl (Nat.le_of_ble_eq_true rfl) rfl hc nx
theorem b75_20 {d : Nat} {x1 : Int32} {x2 : Int32} {sx0 : Int32} {S : fm_S}  : am_Ev d 75 20 [some (.ref 0), some (.int x1), some (.int x2)] [.int sx0] (fm_mk S) (some (.int sx0), fm_mk S) := by
  exact fe_retI (by decide +kernel) (by decide +kernel)
theorem b75_21 {d : Nat} {x1 : Int32} {x2 : Int32} {v : Int32} {S1 : fm_S} {S : fm_S} {r : Option Value × am_W} (hc : am_Sp d 76 [.ref 54, .int x1, .int x2] (fm_mk S) (some (.int v)) (fm_mk S1)) (nx : am_Ev (d + 1) 75 30 [some (.ref 0), some (.int x1), some (.int x2)] [.int v] (fm_mk S1) r) : am_Ev (d + 1) 75 21 [some (.ref 0), some (.int x1), some (.int x2)] [] (fm_mk S) r := by
  refine fs_aloadn (j := 0) (by decide +kernel) rfl ?_
  refine fe_getR (idx := 21) (t := 7) (f := 1) (fk := 2) (fin := 1) (wp := 334) (x := 54) (by decide +kernel) (by decide +kernel) (by decide +kernel) (by decide +kernel) (by decide +kernel) ?_
  refine fs_iloadn (j := 1) (by decide +kernel) rfl ?_
  refine fs_iloadn (j := 2) (by decide +kernel) rfl ?_
  exact fe_callV (idx := 172) (n := 2) (wp := 689) (q := (690, 691)) (as := [.int x1, .int x2]) (rs := []) (by decide +kernel) (by decide +kernel) (by decide +kernel) (by decide +kernel) rfl (Nat.le_of_ble_eq_true rfl) rfl hc nx
theorem b75_30 {d : Nat} {x1 : Int32} {x2 : Int32} {sx0 : Int32} {S : fm_S}  : am_Ev d 75 30 [some (.ref 0), some (.int x1), some (.int x2)] [.int sx0] (fm_mk S) (some (.int sx0), fm_mk S) := by
  exact fe_retI (by decide +kernel) (by decide +kernel)
-- KitchenSiege.order(II)I
theorem b78_0 {d : Nat} {x1 : Int32} {x2 : Int32} {o3 : Option Value} {v : Int32} {S1 : fm_S} {S : fm_S} {r : Option Value × am_W} (hc : am_Sp d 17 [.ref 0, .int x1] (fm_mk S) (some (.int v)) (fm_mk S1)) (nx : am_Ev (d + 1) 78 5 [some (.ref 0), some (.int x1), some (.int x2), o3] [.int v] (fm_mk S1) r) : am_Ev (d + 1) 78 0 [some (.ref 0), some (.int x1), some (.int x2), o3] [] (fm_mk S) r := by
  refine fs_aloadn (j := 0) (by decide +kernel) rfl ?_
  refine fs_iloadn (j := 1) (by decide +kernel) rfl ?_
  exact fe_callV (idx := 69) (n := 1) (wp := 390) (q := (392, 2)) (as := [.int x1]) (rs := []) (by decide +kernel) (by decide +kernel) (by decide +kernel) (by decide +kernel) rfl (Nat.le_of_ble_eq_true rfl) rfl hc nx
theorem b78_5 {d : Nat} {x1 : Int32} {x2 : Int32} {o3 : Option Value} {sx0 : Int32} {S : fm_S} {r : Option Value × am_W} (kt : sx0 = 0 → am_Ev d 78 14 [some (.ref 0), some (.int x1), some (.int x2), o3] [] (fm_mk S) r) (kf : ¬ sx0 = 0 → am_Ev d 78 8 [some (.ref 0), some (.int x1), some (.int x2), o3] [] (fm_mk S) r) : am_Ev d 78 5 [some (.ref 0), some (.int x1), some (.int x2), o3] [.int sx0] (fm_mk S) r := by
  exact fs_ifeq (off := 9) (tgt := 14) (by decide +kernel) (by decide) kt kf
theorem b78_8 {d : Nat} {x1 : Int32} {x2 : Int32} {o3 : Option Value} {S : fm_S} {r : Option Value × am_W} (kt : (-2) ≤ x2 → am_Ev d 78 19 [some (.ref 0), some (.int x1), some (.int x2), o3] [] (fm_mk S) r) (kf : ¬ (-2) ≤ x2 → am_Ev d 78 14 [some (.ref 0), some (.int x1), some (.int x2), o3] [] (fm_mk S) r) : am_Ev d 78 8 [some (.ref 0), some (.int x1), some (.int x2), o3] [] (fm_mk S) r := by
  refine fs_iloadn (j := 2) (by decide +kernel) rfl ?_
  refine fs_bipush (n := -2) (v := (-2)) (by decide +kernel) (by decide) ?_
  exact fs_icge (off := 8) (tgt := 19) (by decide +kernel) (by decide) kt kf
theorem b78_14 {d : Nat} {x1 : Int32} {x2 : Int32} {o3 : Option Value} {v : Int32} {S1 : fm_S} {S : fm_S} {r : Option Value × am_W} (hc : am_Sp d 70 [.ref 0] (fm_mk S) (some (.int v)) (fm_mk S1)) (nx : am_Ev (d + 1) 78 18 [some (.ref 0), some (.int x1), some (.int x2), o3] [.int v] (fm_mk S1) r) : am_Ev (d + 1) 78 14 [some (.ref 0), some (.int x1), some (.int x2), o3] [] (fm_mk S) r := by
  refine fs_aloadn (j := 0) (by decide +kernel) rfl ?_
  exact fe_callV (idx := 144) (n := 0) (wp := 665) (q := (667, 20)) (as := []) (rs := []) (by decide +kernel) (by decide +kernel) (by decide +kernel) (by decide +kernel) rfl (Nat.le_of_ble_eq_true rfl) rfl hc nx
theorem b78_18 {d : Nat} {x1 : Int32} {x2 : Int32} {o3 : Option Value} {sx0 : Int32} {S : fm_S}  : am_Ev d 78 18 [some (.ref 0), some (.int x1), some (.int x2), o3] [.int sx0] (fm_mk S) (some (.int sx0), fm_mk S) := by
  exact fe_retI (by decide +kernel) (by decide +kernel)
theorem b78_19 {d : Nat} {x1 : Int32} {x2 : Int32} {o3 : Option Value} {v : Int32} {S1 : fm_S} {S : fm_S} {r : Option Value × am_W} (hc : am_Sp d 79 [.ref 54, .int x1] (fm_mk S) (some (.int v)) (fm_mk S1)) (nx : am_Ev (d + 1) 78 27 [some (.ref 0), some (.int x1), some (.int x2), o3] [.int v] (fm_mk S1) r) : am_Ev (d + 1) 78 19 [some (.ref 0), some (.int x1), some (.int x2), o3] [] (fm_mk S) r := by
  refine fs_aloadn (j := 0) (by decide +kernel) rfl ?_
  refine fe_getR (idx := 21) (t := 7) (f := 1) (fk := 2) (fin := 1) (wp := 334) (x := 54) (by decide +kernel) (by decide +kernel) (by decide +kernel) (by decide +kernel) (by decide +kernel) ?_
  refine fs_iloadn (j := 1) (by decide +kernel) rfl ?_
  exact fe_callV (idx := 175) (n := 1) (wp := 701) (q := (702, 703)) (as := [.int x1]) (rs := []) (by decide +kernel) (by decide +kernel) (by decide +kernel) (by decide +kernel) rfl (Nat.le_of_ble_eq_true rfl) rfl hc nx
theorem b78_27 {d : Nat} {x1 : Int32} {x2 : Int32} {o3 : Option Value} {sx0 : Int32} {S : fm_S} {r : Option Value × am_W} (kt : sx0 = (-1) → am_Ev d 78 38 [some (.ref 0), some (.int x1), some (.int x2), some (.int sx0)] [] (fm_mk S) r) (kf : ¬ sx0 = (-1) → am_Ev d 78 33 [some (.ref 0), some (.int x1), some (.int x2), some (.int sx0)] [] (fm_mk S) r) : am_Ev d 78 27 [some (.ref 0), some (.int x1), some (.int x2), o3] [.int sx0] (fm_mk S) r := by
  refine fs_istoren (j := 3) (L' := [some (.ref 0), some (.int x1), some (.int x2), some (.int sx0)]) (by decide +kernel) (Nat.le_of_ble_eq_true rfl) rfl ?_
  refine fs_iloadn (j := 3) (by decide +kernel) rfl ?_
  refine fs_iconst (n := -1) (v := (-1)) (by decide +kernel) (by decide) ?_
  exact fs_iceq (off := 8) (tgt := 38) (by decide +kernel) (by decide) kt kf
theorem b78_33 {d : Nat} {x1 : Int32} {x2 : Int32} {x3 : Int32} {S : fm_S} {r : Option Value × am_W} (kt : ¬ x2 = (-1) → am_Ev d 78 40 [some (.ref 0), some (.int x1), some (.int x2), some (.int x3)] [] (fm_mk S) r) (kf : x2 = (-1) → am_Ev d 78 38 [some (.ref 0), some (.int x1), some (.int x2), some (.int x3)] [] (fm_mk S) r) : am_Ev d 78 33 [some (.ref 0), some (.int x1), some (.int x2), some (.int x3)] [] (fm_mk S) r := by
  refine fs_iloadn (j := 2) (by decide +kernel) rfl ?_
  refine fs_iconst (n := -1) (v := (-1)) (by decide +kernel) (by decide) ?_
  exact fs_icne (off := 5) (tgt := 40) (by decide +kernel) (by decide) kt kf
theorem b78_38 {d : Nat} {x1 : Int32} {x2 : Int32} {x3 : Int32} {S : fm_S}  : am_Ev d 78 38 [some (.ref 0), some (.int x1), some (.int x2), some (.int x3)] [] (fm_mk S) (some (.int x3), fm_mk S) := by
  refine fs_iloadn (j := 3) (by decide +kernel) rfl ?_
  exact fe_retI (by decide +kernel) (by decide +kernel)
theorem b78_40 {d : Nat} {x1 : Int32} {x2 : Int32} {x3 : Int32} {S : fm_S} {r : Option Value × am_W} (kt : ¬ x2 = (-2) → am_Ev d 78 54 [some (.ref 0), some (.int x1), some (.int x2), some (.int x3)] [] (fm_mk S) r) (kf : x2 = (-2) → am_Ev d 78 46 [some (.ref 0), some (.int x1), some (.int x2), some (.int x3)] [] (fm_mk S) r) : am_Ev d 78 40 [some (.ref 0), some (.int x1), some (.int x2), some (.int x3)] [] (fm_mk S) r := by
  refine fs_iloadn (j := 2) (by decide +kernel) rfl ?_
  refine fs_bipush (n := -2) (v := (-2)) (by decide +kernel) (by decide) ?_
  exact fs_icne (off := 11) (tgt := 54) (by decide +kernel) (by decide) kt kf
theorem b78_46 {d : Nat} {x1 : Int32} {x2 : Int32} {x3 : Int32} {S : fm_S}  : am_Ev d 78 46 [some (.ref 0), some (.int x1), some (.int x2), some (.int x3)] [] (fm_mk S) (some (.int (S.1 54 1)), fm_mk S) := by
  refine fs_aloadn (j := 0) (by decide +kernel) rfl ?_
  refine fe_getR (idx := 21) (t := 7) (f := 1) (fk := 2) (fin := 1) (wp := 334) (x := 54) (by decide +kernel) (by decide +kernel) (by decide +kernel) (by decide +kernel) (by decide +kernel) ?_
  refine fe_getI (idx := 178) (t := 1) (f := 1) (fk := 0) (fin := 0) (wp := 251) (by decide +kernel) (by decide +kernel) (by decide +kernel) (by decide +kernel) ?_
  exact fe_retI (by decide +kernel) (by decide +kernel)
theorem b78_54 {d : Nat} {x1 : Int32} {x2 : Int32} {x3 : Int32} {S : fm_S} {r : Option Value × am_W} (kt : x3 ≤ x2 → am_Ev d 78 76 [some (.ref 0), some (.int x1), some (.int x2), some (.int x3)] [] (fm_mk S) r) (kf : ¬ x3 ≤ x2 → am_Ev d 78 59 [some (.ref 0), some (.int x1), some (.int x2), some (.int x3)] [] (fm_mk S) r) : am_Ev d 78 54 [some (.ref 0), some (.int x1), some (.int x2), some (.int x3)] [] (fm_mk S) r := by
  refine fs_iloadn (j := 2) (by decide +kernel) rfl ?_
  refine fs_iloadn (j := 3) (by decide +kernel) rfl ?_
  exact fs_icge (off := 20) (tgt := 76) (by decide +kernel) (by decide) kt kf
theorem b78_59 {d : Nat} {x1 : Int32} {x2 : Int32} {x3 : Int32} {S : fm_S} {r : Option Value × am_W} (kt : 4 ≤ x2 → am_Ev d 78 76 [some (.ref 0), some (.int x1), some (.int x2), some (.int x3)] [] (fm_mk S) r) (kf : ¬ 4 ≤ x2 → am_Ev d 78 64 [some (.ref 0), some (.int x1), some (.int x2), some (.int x3)] [] (fm_mk S) r) : am_Ev d 78 59 [some (.ref 0), some (.int x1), some (.int x2), some (.int x3)] [] (fm_mk S) r := by
  refine fs_iloadn (j := 2) (by decide +kernel) rfl ?_
  refine fs_iconst (n := 4) (v := 4) (by decide +kernel) (by decide) ?_
  exact fs_icge (off := 15) (tgt := 76) (by decide +kernel) (by decide) kt kf
theorem b78_64 {d : Nat} {x1 : Int32} {x2 : Int32} {x3 : Int32} {S : fm_S} {r : Option Value × am_W} (hi0 : vp_in x2 4) (nx : am_Ev d 78 78 [some (.ref 0), some (.int x1), some (.int x2), some (.int x3)] [.int (S.1 55 x2.toNatClampNeg)] (fm_mk S) r) : am_Ev d 78 64 [some (.ref 0), some (.int x1), some (.int x2), some (.int x3)] [] (fm_mk S) r := by
  refine fs_aloadn (j := 0) (by decide +kernel) rfl ?_
  refine fe_getR (idx := 21) (t := 7) (f := 1) (fk := 2) (fin := 1) (wp := 334) (x := 54) (by decide +kernel) (by decide +kernel) (by decide +kernel) (by decide +kernel) (by decide +kernel) ?_
  refine fe_getR (idx := 181) (t := 1) (f := 0) (fk := 2) (fin := 1) (wp := 249) (x := 55) (by decide +kernel) (by decide +kernel) (by decide +kernel) (by decide +kernel) (by decide +kernel) ?_
  refine fs_iloadn (j := 2) (by decide +kernel) rfl ?_
  refine fx_iald (n := x2.toNatClampNeg) (len := 4) (by decide +kernel) (by decide +kernel) (by decide +kernel) hi0 rfl ?_
  refine fs_goto (off := 5) (tgt := 78) (by decide +kernel) (by decide) ?_
  exact nx
theorem b78_76 {d : Nat} {x1 : Int32} {x2 : Int32} {x3 : Int32} {S : fm_S} {r : Option Value × am_W} (nx : am_Ev d 78 78 [some (.ref 0), some (.int x1), some (.int x2), some (.int x3)] [.int (-5)] (fm_mk S) r) : am_Ev d 78 76 [some (.ref 0), some (.int x1), some (.int x2), some (.int x3)] [] (fm_mk S) r := by
  refine fs_bipush (n := -5) (v := (-5)) (by decide +kernel) (by decide) ?_
  exact nx
theorem b78_78 {d : Nat} {x1 : Int32} {x2 : Int32} {x3 : Int32} {sx0 : Int32} {S : fm_S}  : am_Ev d 78 78 [some (.ref 0), some (.int x1), some (.int x2), some (.int x3)] [.int sx0] (fm_mk S) (some (.int sx0), fm_mk S) := by
  exact fe_retI (by decide +kernel) (by decide +kernel)
-- KitchenSiege.never()I
theorem b83_0 {d : Nat} {v : Int32} {S1 : fm_S} {S : fm_S} {r : Option Value × am_W} (hc : am_Sp d 84 [.ref 54] (fm_mk S) (some (.int v)) (fm_mk S1)) (nx : am_Ev (d + 1) 83 7 [some (.ref 0)] [.int v] (fm_mk S1) r) : am_Ev (d + 1) 83 0 [some (.ref 0)] [] (fm_mk S) r := by
  refine fs_aloadn (j := 0) (by decide +kernel) rfl ?_
  refine fe_getR (idx := 21) (t := 7) (f := 1) (fk := 2) (fin := 1) (wp := 334) (x := 54) (by decide +kernel) (by decide +kernel) (by decide +kernel) (by decide +kernel) (by decide +kernel) ?_
  exact fe_callV (idx := 184) (n := 0) (wp := 722) (q := (723, 724)) (as := []) (rs := []) (by decide +kernel) (by decide +kernel) (by decide +kernel) (by decide +kernel) rfl (Nat.le_of_ble_eq_true rfl) rfl hc nx
theorem b83_7 {d : Nat} {sx0 : Int32} {S : fm_S}  : am_Ev d 83 7 [some (.ref 0)] [.int sx0] (fm_mk S) (some (.int sx0), fm_mk S) := by
  exact fe_retI (by decide +kernel) (by decide +kernel)
-- KitchenSiege.least()I
theorem b88_0 {d : Nat} {v : Int32} {S1 : fm_S} {S : fm_S} {r : Option Value × am_W} (hc : am_Sp d 89 [.ref 54] (fm_mk S) (some (.int v)) (fm_mk S1)) (nx : am_Ev (d + 1) 88 7 [some (.ref 0)] [.int v] (fm_mk S1) r) : am_Ev (d + 1) 88 0 [some (.ref 0)] [] (fm_mk S) r := by
  refine fs_aloadn (j := 0) (by decide +kernel) rfl ?_
  refine fe_getR (idx := 21) (t := 7) (f := 1) (fk := 2) (fin := 1) (wp := 334) (x := 54) (by decide +kernel) (by decide +kernel) (by decide +kernel) (by decide +kernel) (by decide +kernel) ?_
  exact fe_callV (idx := 187) (n := 0) (wp := 743) (q := (744, 745)) (as := []) (rs := []) (by decide +kernel) (by decide +kernel) (by decide +kernel) (by decide +kernel) rfl (Nat.le_of_ble_eq_true rfl) rfl hc nx
theorem b88_7 {d : Nat} {sx0 : Int32} {S : fm_S}  : am_Ev d 88 7 [some (.ref 0)] [.int sx0] (fm_mk S) (some (.int sx0), fm_mk S) := by
  exact fe_retI (by decide +kernel) (by decide +kernel)
-- KitchenSiege.answer(III)I
theorem b93_0 {d : Nat} {x1 : Int32} {x2 : Int32} {x3 : Int32} {o4 : Option Value} {v : Int32} {S1 : fm_S} {S : fm_S} {r : Option Value × am_W} (hc : am_Sp d 50 [.ref 0, .int x1] (fm_mk S) (some (.int v)) (fm_mk S1)) (nx : am_Ev (d + 1) 93 5 [some (.ref 0), some (.int x1), some (.int x2), some (.int x3), o4] [.int v] (fm_mk S1) r) : am_Ev (d + 1) 93 0 [some (.ref 0), some (.int x1), some (.int x2), some (.int x3), o4] [] (fm_mk S) r := by
  refine fs_aloadn (j := 0) (by decide +kernel) rfl ?_
  refine fs_iloadn (j := 1) (by decide +kernel) rfl ?_
  exact fe_callV (idx := 119) (n := 1) (wp := 583) (q := (585, 16)) (as := [.int x1]) (rs := []) (by decide +kernel) (by decide +kernel) (by decide +kernel) (by decide +kernel) rfl (Nat.le_of_ble_eq_true rfl) rfl hc nx
theorem b93_5 {d : Nat} {x1 : Int32} {x2 : Int32} {x3 : Int32} {o4 : Option Value} {sx0 : Int32} {S : fm_S} {r : Option Value × am_W} (kt : sx0 = 0 → am_Ev d 93 27 [some (.ref 0), some (.int x1), some (.int x2), some (.int x3), o4] [] (fm_mk S) r) (kf : ¬ sx0 = 0 → am_Ev d 93 8 [some (.ref 0), some (.int x1), some (.int x2), some (.int x3), o4] [] (fm_mk S) r) : am_Ev d 93 5 [some (.ref 0), some (.int x1), some (.int x2), some (.int x3), o4] [.int sx0] (fm_mk S) r := by
  exact fs_ifeq (off := 22) (tgt := 27) (by decide +kernel) (by decide) kt kf
theorem b93_8 {d : Nat} {x1 : Int32} {x2 : Int32} {x3 : Int32} {o4 : Option Value} {v : Int32} {S1 : fm_S} {S : fm_S} {r : Option Value × am_W} (hc : am_Sp d 12 [.int x2, .int 0, .int 9] (fm_mk S) (some (.int v)) (fm_mk S1)) (nx : am_Ev (d + 1) 93 15 [some (.ref 0), some (.int x1), some (.int x2), some (.int x3), o4] [.int v] (fm_mk S1) r) : am_Ev (d + 1) 93 8 [some (.ref 0), some (.int x1), some (.int x2), some (.int x3), o4] [] (fm_mk S) r := by
  refine fs_iloadn (j := 2) (by decide +kernel) rfl ?_
  refine fs_iconst (n := 0) (v := 0) (by decide +kernel) (by decide) ?_
  refine fs_bipush (n := 9) (v := 9) (by decide +kernel) (by decide) ?_
  exact fe_callS (idx := 54) (kd := 0) (n := 3) (wp := 371) (q := (372, 0)) (as := [.int x2, .int 0, .int 9]) (rs := []) (by decide +kernel) (by decide +kernel) (by decide +kernel) (by decide) rfl (Nat.le_of_ble_eq_true rfl) rfl hc nx
theorem b93_15 {d : Nat} {x1 : Int32} {x2 : Int32} {x3 : Int32} {o4 : Option Value} {sx0 : Int32} {S : fm_S} {r : Option Value × am_W} (kt : sx0 = 0 → am_Ev d 93 27 [some (.ref 0), some (.int x1), some (.int x2), some (.int x3), o4] [] (fm_mk S) r) (kf : ¬ sx0 = 0 → am_Ev d 93 18 [some (.ref 0), some (.int x1), some (.int x2), some (.int x3), o4] [] (fm_mk S) r) : am_Ev d 93 15 [some (.ref 0), some (.int x1), some (.int x2), some (.int x3), o4] [.int sx0] (fm_mk S) r := by
  exact fs_ifeq (off := 12) (tgt := 27) (by decide +kernel) (by decide) kt kf
theorem b93_18 {d : Nat} {x1 : Int32} {x2 : Int32} {x3 : Int32} {o4 : Option Value} {v : Int32} {S1 : fm_S} {S : fm_S} {r : Option Value × am_W} (hc : am_Sp d 12 [.int x3, .int 0, .int 1] (fm_mk S) (some (.int v)) (fm_mk S1)) (nx : am_Ev (d + 1) 93 24 [some (.ref 0), some (.int x1), some (.int x2), some (.int x3), o4] [.int v] (fm_mk S1) r) : am_Ev (d + 1) 93 18 [some (.ref 0), some (.int x1), some (.int x2), some (.int x3), o4] [] (fm_mk S) r := by
  refine fs_iloadn (j := 3) (by decide +kernel) rfl ?_
  refine fs_iconst (n := 0) (v := 0) (by decide +kernel) (by decide) ?_
  refine fs_iconst (n := 1) (v := 1) (by decide +kernel) (by decide) ?_
  exact fe_callS (idx := 54) (kd := 0) (n := 3) (wp := 371) (q := (372, 0)) (as := [.int x3, .int 0, .int 1]) (rs := []) (by decide +kernel) (by decide +kernel) (by decide +kernel) (by decide) rfl (Nat.le_of_ble_eq_true rfl) rfl hc nx
theorem b93_24 {d : Nat} {x1 : Int32} {x2 : Int32} {x3 : Int32} {o4 : Option Value} {sx0 : Int32} {S : fm_S} {r : Option Value × am_W} (kt : ¬ sx0 = 0 → am_Ev d 93 32 [some (.ref 0), some (.int x1), some (.int x2), some (.int x3), o4] [] (fm_mk S) r) (kf : sx0 = 0 → am_Ev d 93 27 [some (.ref 0), some (.int x1), some (.int x2), some (.int x3), o4] [] (fm_mk S) r) : am_Ev d 93 24 [some (.ref 0), some (.int x1), some (.int x2), some (.int x3), o4] [.int sx0] (fm_mk S) r := by
  exact fs_ifne (off := 8) (tgt := 32) (by decide +kernel) (by decide) kt kf
theorem b93_27 {d : Nat} {x1 : Int32} {x2 : Int32} {x3 : Int32} {o4 : Option Value} {v : Int32} {S1 : fm_S} {S : fm_S} {r : Option Value × am_W} (hc : am_Sp d 13 [.ref 0] (fm_mk S) (some (.int v)) (fm_mk S1)) (nx : am_Ev (d + 1) 93 31 [some (.ref 0), some (.int x1), some (.int x2), some (.int x3), o4] [.int v] (fm_mk S1) r) : am_Ev (d + 1) 93 27 [some (.ref 0), some (.int x1), some (.int x2), some (.int x3), o4] [] (fm_mk S) r := by
  refine fs_aloadn (j := 0) (by decide +kernel) rfl ?_
  exact fe_callV (idx := 58) (n := 0) (wp := 374) (q := (376, 0)) (as := []) (rs := []) (by decide +kernel) (by decide +kernel) (by decide +kernel) (by decide +kernel) rfl (Nat.le_of_ble_eq_true rfl) rfl hc nx
theorem b93_31 {d : Nat} {x1 : Int32} {x2 : Int32} {x3 : Int32} {o4 : Option Value} {sx0 : Int32} {S : fm_S}  : am_Ev d 93 31 [some (.ref 0), some (.int x1), some (.int x2), some (.int x3), o4] [.int sx0] (fm_mk S) (some (.int sx0), fm_mk S) := by
  exact fe_retI (by decide +kernel) (by decide +kernel)
theorem b93_32 {d : Nat} {x1 : Int32} {x2 : Int32} {x3 : Int32} {o4 : Option Value} {v : Int32} {S1 : fm_S} {S : fm_S} {r : Option Value × am_W} (hc : am_Sp d 94 [.ref 54, .int x1, .int x2] (fm_mk S) (some (.int v)) (fm_mk S1)) (nx : am_Ev (d + 1) 93 41 [some (.ref 0), some (.int x1), some (.int x2), some (.int x3), o4] [.int v] (fm_mk S1) r) : am_Ev (d + 1) 93 32 [some (.ref 0), some (.int x1), some (.int x2), some (.int x3), o4] [] (fm_mk S) r := by
  refine fs_aloadn (j := 0) (by decide +kernel) rfl ?_
  refine fe_getR (idx := 21) (t := 7) (f := 1) (fk := 2) (fin := 1) (wp := 334) (x := 54) (by decide +kernel) (by decide +kernel) (by decide +kernel) (by decide +kernel) (by decide +kernel) ?_
  refine fs_iloadn (j := 1) (by decide +kernel) rfl ?_
  refine fs_iloadn (j := 2) (by decide +kernel) rfl ?_
  exact fe_callV (idx := 190) (n := 2) (wp := 765) (q := (766, 767)) (as := [.int x1, .int x2]) (rs := []) (by decide +kernel) (by decide +kernel) (by decide +kernel) (by decide +kernel) rfl (Nat.le_of_ble_eq_true rfl) rfl hc nx
theorem b93_41 {d : Nat} {x1 : Int32} {x2 : Int32} {x3 : Int32} {o4 : Option Value} {sx0 : Int32} {S : fm_S} {r : Option Value × am_W} (kt : sx0 = (-1) → am_Ev d 93 53 [some (.ref 0), some (.int x1), some (.int x2), some (.int x3), some (.int sx0)] [] (fm_mk S) r) (kf : ¬ sx0 = (-1) → am_Ev d 93 49 [some (.ref 0), some (.int x1), some (.int x2), some (.int x3), some (.int sx0)] [] (fm_mk S) r) : am_Ev d 93 41 [some (.ref 0), some (.int x1), some (.int x2), some (.int x3), o4] [.int sx0] (fm_mk S) r := by
  refine fs_istore (j := 4) (L' := [some (.ref 0), some (.int x1), some (.int x2), some (.int x3), some (.int sx0)]) (by decide +kernel) (Nat.le_of_ble_eq_true rfl) rfl ?_
  refine fs_iload (j := 4) (by decide +kernel) rfl ?_
  refine fs_iconst (n := -1) (v := (-1)) (by decide +kernel) (by decide) ?_
  exact fs_iceq (off := 7) (tgt := 53) (by decide +kernel) (by decide) kt kf
theorem b93_49 {d : Nat} {x1 : Int32} {x2 : Int32} {x3 : Int32} {x4 : Int32} {S : fm_S} {r : Option Value × am_W} (kt : ¬ x3 = 0 → am_Ev d 93 56 [some (.ref 0), some (.int x1), some (.int x2), some (.int x3), some (.int x4)] [] (fm_mk S) r) (kf : x3 = 0 → am_Ev d 93 53 [some (.ref 0), some (.int x1), some (.int x2), some (.int x3), some (.int x4)] [] (fm_mk S) r) : am_Ev d 93 49 [some (.ref 0), some (.int x1), some (.int x2), some (.int x3), some (.int x4)] [] (fm_mk S) r := by
  refine fs_iloadn (j := 3) (by decide +kernel) rfl ?_
  exact fs_ifne (off := 6) (tgt := 56) (by decide +kernel) (by decide) kt kf
theorem b93_53 {d : Nat} {x1 : Int32} {x2 : Int32} {x3 : Int32} {x4 : Int32} {S : fm_S}  : am_Ev d 93 53 [some (.ref 0), some (.int x1), some (.int x2), some (.int x3), some (.int x4)] [] (fm_mk S) (some (.int x4), fm_mk S) := by
  refine fs_iload (j := 4) (by decide +kernel) rfl ?_
  exact fe_retI (by decide +kernel) (by decide +kernel)
theorem b93_56 {d : Nat} {x1 : Int32} {x2 : Int32} {x3 : Int32} {x4 : Int32} {v : Int32} {S1 : fm_S} {S : fm_S} {r : Option Value × am_W} (hc : am_Sp d 95 [.ref 54, .int x1, .int x4, .int x2] (fm_mk S) (some (.int v)) (fm_mk S1)) (nx : am_Ev (d + 1) 93 67 [some (.ref 0), some (.int x1), some (.int x2), some (.int x3), some (.int x4)] [.int v] (fm_mk S1) r) : am_Ev (d + 1) 93 56 [some (.ref 0), some (.int x1), some (.int x2), some (.int x3), some (.int x4)] [] (fm_mk S) r := by
  refine fs_aloadn (j := 0) (by decide +kernel) rfl ?_
  refine fe_getR (idx := 21) (t := 7) (f := 1) (fk := 2) (fin := 1) (wp := 334) (x := 54) (by decide +kernel) (by decide +kernel) (by decide +kernel) (by decide +kernel) (by decide +kernel) ?_
  refine fs_iloadn (j := 1) (by decide +kernel) rfl ?_
  refine fs_iload (j := 4) (by decide +kernel) rfl ?_
  refine fs_iloadn (j := 2) (by decide +kernel) rfl ?_
  exact fe_callV (idx := 193) (n := 3) (wp := 774) (q := (770, 771)) (as := [.int x1, .int x4, .int x2]) (rs := []) (by decide +kernel) (by decide +kernel) (by decide +kernel) (by decide +kernel) rfl (Nat.le_of_ble_eq_true rfl) rfl hc nx
theorem b93_67 {d : Nat} {x1 : Int32} {x2 : Int32} {x3 : Int32} {x4 : Int32} {sx0 : Int32} {S : fm_S}  : am_Ev d 93 67 [some (.ref 0), some (.int x1), some (.int x2), some (.int x3), some (.int x4)] [.int sx0] (fm_mk S) (some (.int sx0), fm_mk S) := by
  exact fe_retI (by decide +kernel) (by decide +kernel)
-- KitchenSiege.game(I)I
theorem b96_0 {d : Nat} {x1 : Int32} {v : Int32} {S1 : fm_S} {S : fm_S} {r : Option Value × am_W} (hc : am_Sp d 12 [.int x1, .int 0, .int 9] (fm_mk S) (some (.int v)) (fm_mk S1)) (nx : am_Ev (d + 1) 96 7 [some (.ref 0), some (.int x1)] [.int v] (fm_mk S1) r) : am_Ev (d + 1) 96 0 [some (.ref 0), some (.int x1)] [] (fm_mk S) r := by
  refine fs_iloadn (j := 1) (by decide +kernel) rfl ?_
  refine fs_iconst (n := 0) (v := 0) (by decide +kernel) (by decide) ?_
  refine fs_bipush (n := 9) (v := 9) (by decide +kernel) (by decide) ?_
  exact fe_callS (idx := 54) (kd := 0) (n := 3) (wp := 371) (q := (372, 0)) (as := [.int x1, .int 0, .int 9]) (rs := []) (by decide +kernel) (by decide +kernel) (by decide +kernel) (by decide) rfl (Nat.le_of_ble_eq_true rfl) rfl hc nx
theorem b96_7 {d : Nat} {x1 : Int32} {sx0 : Int32} {S : fm_S} {r : Option Value × am_W} (kt : ¬ sx0 = 0 → am_Ev d 96 15 [some (.ref 0), some (.int x1)] [] (fm_mk S) r) (kf : sx0 = 0 → am_Ev d 96 10 [some (.ref 0), some (.int x1)] [] (fm_mk S) r) : am_Ev d 96 7 [some (.ref 0), some (.int x1)] [.int sx0] (fm_mk S) r := by
  exact fs_ifne (off := 8) (tgt := 15) (by decide +kernel) (by decide) kt kf
theorem b96_10 {d : Nat} {x1 : Int32} {v : Int32} {S1 : fm_S} {S : fm_S} {r : Option Value × am_W} (hc : am_Sp d 13 [.ref 0] (fm_mk S) (some (.int v)) (fm_mk S1)) (nx : am_Ev (d + 1) 96 14 [some (.ref 0), some (.int x1)] [.int v] (fm_mk S1) r) : am_Ev (d + 1) 96 10 [some (.ref 0), some (.int x1)] [] (fm_mk S) r := by
  refine fs_aloadn (j := 0) (by decide +kernel) rfl ?_
  exact fe_callV (idx := 58) (n := 0) (wp := 374) (q := (376, 0)) (as := []) (rs := []) (by decide +kernel) (by decide +kernel) (by decide +kernel) (by decide +kernel) rfl (Nat.le_of_ble_eq_true rfl) rfl hc nx
theorem b96_14 {d : Nat} {x1 : Int32} {sx0 : Int32} {S : fm_S}  : am_Ev d 96 14 [some (.ref 0), some (.int x1)] [.int sx0] (fm_mk S) (some (.int sx0), fm_mk S) := by
  exact fe_retI (by decide +kernel) (by decide +kernel)
theorem b96_15 {d : Nat} {x1 : Int32} {v : Int32} {S1 : fm_S} {S : fm_S} {r : Option Value × am_W} (hc : am_Sp d 97 [.ref 54, .int x1] (fm_mk S) (some (.int v)) (fm_mk S1)) (nx : am_Ev (d + 1) 96 23 [some (.ref 0), some (.int x1)] [.int v] (fm_mk S1) r) : am_Ev (d + 1) 96 15 [some (.ref 0), some (.int x1)] [] (fm_mk S) r := by
  refine fs_aloadn (j := 0) (by decide +kernel) rfl ?_
  refine fe_getR (idx := 21) (t := 7) (f := 1) (fk := 2) (fin := 1) (wp := 334) (x := 54) (by decide +kernel) (by decide +kernel) (by decide +kernel) (by decide +kernel) (by decide +kernel) ?_
  refine fs_iloadn (j := 1) (by decide +kernel) rfl ?_
  exact fe_callV (idx := 196) (n := 1) (wp := 779) (q := (780, 781)) (as := [.int x1]) (rs := []) (by decide +kernel) (by decide +kernel) (by decide +kernel) (by decide +kernel) rfl (Nat.le_of_ble_eq_true rfl) rfl hc nx
theorem b96_23 {d : Nat} {x1 : Int32} {sx0 : Int32} {S : fm_S}  : am_Ev d 96 23 [some (.ref 0), some (.int x1)] [.int sx0] (fm_mk S) (some (.int sx0), fm_mk S) := by
  exact fe_retI (by decide +kernel) (by decide +kernel)
-- KitchenSiege.note(IIIII)I
theorem b100_0 {d : Nat} {x1 : Int32} {x2 : Int32} {x3 : Int32} {x4 : Int32} {x5 : Int32} {v : Int32} {S1 : fm_S} {S : fm_S} {r : Option Value × am_W} (hc : am_Sp d 17 [.ref 0, .int x1] (fm_mk S) (some (.int v)) (fm_mk S1)) (nx : am_Ev (d + 1) 100 5 [some (.ref 0), some (.int x1), some (.int x2), some (.int x3), some (.int x4), some (.int x5)] [.int v] (fm_mk S1) r) : am_Ev (d + 1) 100 0 [some (.ref 0), some (.int x1), some (.int x2), some (.int x3), some (.int x4), some (.int x5)] [] (fm_mk S) r := by
  refine fs_aloadn (j := 0) (by decide +kernel) rfl ?_
  refine fs_iloadn (j := 1) (by decide +kernel) rfl ?_
  exact fe_callV (idx := 69) (n := 1) (wp := 390) (q := (392, 2)) (as := [.int x1]) (rs := []) (by decide +kernel) (by decide +kernel) (by decide +kernel) (by decide +kernel) rfl (Nat.le_of_ble_eq_true rfl) rfl hc nx
theorem b100_5 {d : Nat} {x1 : Int32} {x2 : Int32} {x3 : Int32} {x4 : Int32} {x5 : Int32} {sx0 : Int32} {S : fm_S} {r : Option Value × am_W} (kt : sx0 = 0 → am_Ev d 100 36 [some (.ref 0), some (.int x1), some (.int x2), some (.int x3), some (.int x4), some (.int x5)] [] (fm_mk S) r) (kf : ¬ sx0 = 0 → am_Ev d 100 8 [some (.ref 0), some (.int x1), some (.int x2), some (.int x3), some (.int x4), some (.int x5)] [] (fm_mk S) r) : am_Ev d 100 5 [some (.ref 0), some (.int x1), some (.int x2), some (.int x3), some (.int x4), some (.int x5)] [.int sx0] (fm_mk S) r := by
  exact fs_ifeq (off := 31) (tgt := 36) (by decide +kernel) (by decide) kt kf
theorem b100_8 {d : Nat} {x1 : Int32} {x2 : Int32} {x3 : Int32} {x4 : Int32} {x5 : Int32} {v : Int32} {S1 : fm_S} {S : fm_S} {r : Option Value × am_W} (hc : am_Sp d 12 [.int x2, .int 0, .int 5] (fm_mk S) (some (.int v)) (fm_mk S1)) (nx : am_Ev (d + 1) 100 14 [some (.ref 0), some (.int x1), some (.int x2), some (.int x3), some (.int x4), some (.int x5)] [.int v] (fm_mk S1) r) : am_Ev (d + 1) 100 8 [some (.ref 0), some (.int x1), some (.int x2), some (.int x3), some (.int x4), some (.int x5)] [] (fm_mk S) r := by
  refine fs_iloadn (j := 2) (by decide +kernel) rfl ?_
  refine fs_iconst (n := 0) (v := 0) (by decide +kernel) (by decide) ?_
  refine fs_iconst (n := 5) (v := 5) (by decide +kernel) (by decide) ?_
  exact fe_callS (idx := 54) (kd := 0) (n := 3) (wp := 371) (q := (372, 0)) (as := [.int x2, .int 0, .int 5]) (rs := []) (by decide +kernel) (by decide +kernel) (by decide +kernel) (by decide) rfl (Nat.le_of_ble_eq_true rfl) rfl hc nx
theorem b100_14 {d : Nat} {x1 : Int32} {x2 : Int32} {x3 : Int32} {x4 : Int32} {x5 : Int32} {sx0 : Int32} {S : fm_S} {r : Option Value × am_W} (kt : sx0 = 0 → am_Ev d 100 36 [some (.ref 0), some (.int x1), some (.int x2), some (.int x3), some (.int x4), some (.int x5)] [] (fm_mk S) r) (kf : ¬ sx0 = 0 → am_Ev d 100 17 [some (.ref 0), some (.int x1), some (.int x2), some (.int x3), some (.int x4), some (.int x5)] [] (fm_mk S) r) : am_Ev d 100 14 [some (.ref 0), some (.int x1), some (.int x2), some (.int x3), some (.int x4), some (.int x5)] [.int sx0] (fm_mk S) r := by
  exact fs_ifeq (off := 22) (tgt := 36) (by decide +kernel) (by decide) kt kf
theorem b100_17 {d : Nat} {x1 : Int32} {x2 : Int32} {x3 : Int32} {x4 : Int32} {x5 : Int32} {v : Int32} {S1 : fm_S} {S : fm_S} {r : Option Value × am_W} (hc : am_Sp d 101 [.int x3, .int x4] (fm_mk S) (some (.int v)) (fm_mk S1)) (nx : am_Ev (d + 1) 100 23 [some (.ref 0), some (.int x1), some (.int x2), some (.int x3), some (.int x4), some (.int x5)] [.int v] (fm_mk S1) r) : am_Ev (d + 1) 100 17 [some (.ref 0), some (.int x1), some (.int x2), some (.int x3), some (.int x4), some (.int x5)] [] (fm_mk S) r := by
  refine fs_iloadn (j := 3) (by decide +kernel) rfl ?_
  refine fs_iload (j := 4) (by decide +kernel) rfl ?_
  exact fe_callS (idx := 199) (kd := 0) (n := 2) (wp := 794) (q := (795, 0)) (as := [.int x3, .int x4]) (rs := []) (by decide +kernel) (by decide +kernel) (by decide +kernel) (by decide) rfl (Nat.le_of_ble_eq_true rfl) rfl hc nx
theorem b100_23 {d : Nat} {x1 : Int32} {x2 : Int32} {x3 : Int32} {x4 : Int32} {x5 : Int32} {sx0 : Int32} {S : fm_S} {r : Option Value × am_W} (kt : sx0 = 0 → am_Ev d 100 36 [some (.ref 0), some (.int x1), some (.int x2), some (.int x3), some (.int x4), some (.int x5)] [] (fm_mk S) r) (kf : ¬ sx0 = 0 → am_Ev d 100 26 [some (.ref 0), some (.int x1), some (.int x2), some (.int x3), some (.int x4), some (.int x5)] [] (fm_mk S) r) : am_Ev d 100 23 [some (.ref 0), some (.int x1), some (.int x2), some (.int x3), some (.int x4), some (.int x5)] [.int sx0] (fm_mk S) r := by
  exact fs_ifeq (off := 13) (tgt := 36) (by decide +kernel) (by decide) kt kf
theorem b100_26 {d : Nat} {x1 : Int32} {x2 : Int32} {x3 : Int32} {x4 : Int32} {x5 : Int32} {v : Int32} {S1 : fm_S} {S : fm_S} {r : Option Value × am_W} (hc : am_Sp d 12 [.int x5, .int 0, .int 1] (fm_mk S) (some (.int v)) (fm_mk S1)) (nx : am_Ev (d + 1) 100 33 [some (.ref 0), some (.int x1), some (.int x2), some (.int x3), some (.int x4), some (.int x5)] [.int v] (fm_mk S1) r) : am_Ev (d + 1) 100 26 [some (.ref 0), some (.int x1), some (.int x2), some (.int x3), some (.int x4), some (.int x5)] [] (fm_mk S) r := by
  refine fs_iload (j := 5) (by decide +kernel) rfl ?_
  refine fs_iconst (n := 0) (v := 0) (by decide +kernel) (by decide) ?_
  refine fs_iconst (n := 1) (v := 1) (by decide +kernel) (by decide) ?_
  exact fe_callS (idx := 54) (kd := 0) (n := 3) (wp := 371) (q := (372, 0)) (as := [.int x5, .int 0, .int 1]) (rs := []) (by decide +kernel) (by decide +kernel) (by decide +kernel) (by decide) rfl (Nat.le_of_ble_eq_true rfl) rfl hc nx
theorem b100_33 {d : Nat} {x1 : Int32} {x2 : Int32} {x3 : Int32} {x4 : Int32} {x5 : Int32} {sx0 : Int32} {S : fm_S} {r : Option Value × am_W} (kt : ¬ sx0 = 0 → am_Ev d 100 41 [some (.ref 0), some (.int x1), some (.int x2), some (.int x3), some (.int x4), some (.int x5)] [] (fm_mk S) r) (kf : sx0 = 0 → am_Ev d 100 36 [some (.ref 0), some (.int x1), some (.int x2), some (.int x3), some (.int x4), some (.int x5)] [] (fm_mk S) r) : am_Ev d 100 33 [some (.ref 0), some (.int x1), some (.int x2), some (.int x3), some (.int x4), some (.int x5)] [.int sx0] (fm_mk S) r := by
  exact fs_ifne (off := 8) (tgt := 41) (by decide +kernel) (by decide) kt kf
theorem b100_36 {d : Nat} {x1 : Int32} {x2 : Int32} {x3 : Int32} {x4 : Int32} {x5 : Int32} {v : Int32} {S1 : fm_S} {S : fm_S} {r : Option Value × am_W} (hc : am_Sp d 13 [.ref 0] (fm_mk S) (some (.int v)) (fm_mk S1)) (nx : am_Ev (d + 1) 100 40 [some (.ref 0), some (.int x1), some (.int x2), some (.int x3), some (.int x4), some (.int x5)] [.int v] (fm_mk S1) r) : am_Ev (d + 1) 100 36 [some (.ref 0), some (.int x1), some (.int x2), some (.int x3), some (.int x4), some (.int x5)] [] (fm_mk S) r := by
  refine fs_aloadn (j := 0) (by decide +kernel) rfl ?_
  exact fe_callV (idx := 58) (n := 0) (wp := 374) (q := (376, 0)) (as := []) (rs := []) (by decide +kernel) (by decide +kernel) (by decide +kernel) (by decide +kernel) rfl (Nat.le_of_ble_eq_true rfl) rfl hc nx
theorem b100_40 {d : Nat} {x1 : Int32} {x2 : Int32} {x3 : Int32} {x4 : Int32} {x5 : Int32} {sx0 : Int32} {S : fm_S}  : am_Ev d 100 40 [some (.ref 0), some (.int x1), some (.int x2), some (.int x3), some (.int x4), some (.int x5)] [.int sx0] (fm_mk S) (some (.int sx0), fm_mk S) := by
  exact fe_retI (by decide +kernel) (by decide +kernel)
theorem b100_41 {d : Nat} {x1 : Int32} {x2 : Int32} {x3 : Int32} {x4 : Int32} {x5 : Int32} {S : fm_S} {r : Option Value × am_W} (kt : (S.1 11 0) < 6 → am_Ev d 100 61 [some (.ref 0), some (.int x1), some (.int x2), some (.int x3), some (.int x4), some (.int x5)] [] (fm_mk S) r) (kf : ¬ (S.1 11 0) < 6 → am_Ev d 100 56 [some (.ref 0), some (.int x1), some (.int x2), some (.int x3), some (.int x4), some (.int x5)] [] (fm_mk S) r) : am_Ev d 100 41 [some (.ref 0), some (.int x1), some (.int x2), some (.int x3), some (.int x4), some (.int x5)] [] (fm_mk S) r := by
  refine fs_aloadn (j := 0) (by decide +kernel) rfl ?_
  refine fe_getR (idx := 10) (t := 7) (f := 0) (fk := 2) (fin := 1) (wp := 333) (x := 1) (by decide +kernel) (by decide +kernel) (by decide +kernel) (by decide +kernel) (by decide +kernel) ?_
  refine fe_getR (idx := 202) (t := 6) (f := 11) (fk := 2) (fin := 1) (wp := 188) (x := 11) (by decide +kernel) (by decide +kernel) (by decide +kernel) (by decide +kernel) (by decide +kernel) ?_
  refine fe_getI (idx := 206) (t := 4) (f := 0) (fk := 0) (fin := 0) (wp := 97) (by decide +kernel) (by decide +kernel) (by decide +kernel) (by decide +kernel) ?_
  refine fs_bipush (n := 6) (v := 6) (by decide +kernel) (by decide) ?_
  exact fs_iclt (off := 8) (tgt := 61) (by decide +kernel) (by decide) kt kf
theorem b100_56 {d : Nat} {x1 : Int32} {x2 : Int32} {x3 : Int32} {x4 : Int32} {x5 : Int32} {v : Int32} {S1 : fm_S} {S : fm_S} {r : Option Value × am_W} (hc : am_Sp d 14 [.ref 0] (fm_mk S) (some (.int v)) (fm_mk S1)) (nx : am_Ev (d + 1) 100 60 [some (.ref 0), some (.int x1), some (.int x2), some (.int x3), some (.int x4), some (.int x5)] [.int v] (fm_mk S1) r) : am_Ev (d + 1) 100 56 [some (.ref 0), some (.int x1), some (.int x2), some (.int x3), some (.int x4), some (.int x5)] [] (fm_mk S) r := by
  refine fs_aloadn (j := 0) (by decide +kernel) rfl ?_
  exact fe_callV (idx := 62) (n := 0) (wp := 378) (q := (380, 1)) (as := []) (rs := []) (by decide +kernel) (by decide +kernel) (by decide +kernel) (by decide +kernel) rfl (Nat.le_of_ble_eq_true rfl) rfl hc nx
theorem b100_60 {d : Nat} {x1 : Int32} {x2 : Int32} {x3 : Int32} {x4 : Int32} {x5 : Int32} {sx0 : Int32} {S : fm_S}  : am_Ev d 100 60 [some (.ref 0), some (.int x1), some (.int x2), some (.int x3), some (.int x4), some (.int x5)] [.int sx0] (fm_mk S) (some (.int sx0), fm_mk S) := by
  exact fe_retI (by decide +kernel) (by decide +kernel)
theorem b100_61 {d : Nat} {x1 : Int32} {x2 : Int32} {x3 : Int32} {x4 : Int32} {x5 : Int32} {v : Int32} {S1 : fm_S} {S : fm_S} {r : Option Value × am_W} (hc : am_Sp d 102 [.ref 11, .int x1, .int x2, .int x3, .int x4, .int x5] (fm_mk S) (some (.int v)) (fm_mk S1)) (nx : am_Ev (d + 1) 100 78 [some (.ref 0), some (.int x1), some (.int x2), some (.int x3), some (.int x4), some (.int x5)] [.int v] (fm_mk S1) r) : am_Ev (d + 1) 100 61 [some (.ref 0), some (.int x1), some (.int x2), some (.int x3), some (.int x4), some (.int x5)] [] (fm_mk S) r := by
  refine fs_aloadn (j := 0) (by decide +kernel) rfl ?_
  refine fe_getR (idx := 10) (t := 7) (f := 0) (fk := 2) (fin := 1) (wp := 333) (x := 1) (by decide +kernel) (by decide +kernel) (by decide +kernel) (by decide +kernel) (by decide +kernel) ?_
  refine fe_getR (idx := 202) (t := 6) (f := 11) (fk := 2) (fin := 1) (wp := 188) (x := 11) (by decide +kernel) (by decide +kernel) (by decide +kernel) (by decide +kernel) (by decide +kernel) ?_
  refine fs_iloadn (j := 1) (by decide +kernel) rfl ?_
  refine fs_iloadn (j := 2) (by decide +kernel) rfl ?_
  refine fs_iloadn (j := 3) (by decide +kernel) rfl ?_
  refine fs_iload (j := 4) (by decide +kernel) rfl ?_
  refine fs_iload (j := 5) (by decide +kernel) rfl ?_
  exact fe_callV (idx := 211) (n := 5) (wp := 797) (q := (798, 799)) (as := [.int x1, .int x2, .int x3, .int x4, .int x5]) (rs := []) (by decide +kernel) (by decide +kernel) (by decide +kernel) (by decide +kernel) rfl (Nat.le_of_ble_eq_true rfl) rfl hc nx
theorem b100_78 {d : Nat} {x1 : Int32} {x2 : Int32} {x3 : Int32} {x4 : Int32} {x5 : Int32} {sx0 : Int32} {S : fm_S}  : am_Ev d 100 78 [some (.ref 0), some (.int x1), some (.int x2), some (.int x3), some (.int x4), some (.int x5)] [.int sx0] (fm_mk S) (some (.int sx0), fm_mk S) := by
  exact fe_retI (by decide +kernel) (by decide +kernel)
-- KitchenSiege.isNoted(II)Z
theorem b101_0 {d : Nat} {x0 : Int32} {x1 : Int32} {v : Int32} {S1 : fm_S} {S : fm_S} {r : Option Value × am_W} (hc : am_Sp d 12 [.int x0, .int 1, .int 60] (fm_mk S) (some (.int v)) (fm_mk S1)) (nx : am_Ev (d + 1) 101 7 [some (.int x0), some (.int x1)] [.int v] (fm_mk S1) r) : am_Ev (d + 1) 101 0 [some (.int x0), some (.int x1)] [] (fm_mk S) r := by
  refine fs_iloadn (j := 0) (by decide +kernel) rfl ?_
  refine fs_iconst (n := 1) (v := 1) (by decide +kernel) (by decide) ?_
  refine fs_bipush (n := 60) (v := 60) (by decide +kernel) (by decide) ?_
  exact fe_callS (idx := 54) (kd := 0) (n := 3) (wp := 371) (q := (372, 0)) (as := [.int x0, .int 1, .int 60]) (rs := []) (by decide +kernel) (by decide +kernel) (by decide +kernel) (by decide) rfl (Nat.le_of_ble_eq_true rfl) rfl hc nx
theorem b101_7 {d : Nat} {x0 : Int32} {x1 : Int32} {sx0 : Int32} {S : fm_S} {r : Option Value × am_W} (kt : sx0 = 0 → am_Ev d 101 24 [some (.int x0), some (.int x1)] [] (fm_mk S) r) (kf : ¬ sx0 = 0 → am_Ev d 101 10 [some (.int x0), some (.int x1)] [] (fm_mk S) r) : am_Ev d 101 7 [some (.int x0), some (.int x1)] [.int sx0] (fm_mk S) r := by
  exact fs_ifeq (off := 17) (tgt := 24) (by decide +kernel) (by decide) kt kf
theorem b101_10 {d : Nat} {x0 : Int32} {x1 : Int32} {v : Int32} {S1 : fm_S} {S : fm_S} {r : Option Value × am_W} (hc : am_Sp d 12 [.int x1, .int 0, .int 99] (fm_mk S) (some (.int v)) (fm_mk S1)) (nx : am_Ev (d + 1) 101 17 [some (.int x0), some (.int x1)] [.int v] (fm_mk S1) r) : am_Ev (d + 1) 101 10 [some (.int x0), some (.int x1)] [] (fm_mk S) r := by
  refine fs_iloadn (j := 1) (by decide +kernel) rfl ?_
  refine fs_iconst (n := 0) (v := 0) (by decide +kernel) (by decide) ?_
  refine fs_bipush (n := 99) (v := 99) (by decide +kernel) (by decide) ?_
  exact fe_callS (idx := 54) (kd := 0) (n := 3) (wp := 371) (q := (372, 0)) (as := [.int x1, .int 0, .int 99]) (rs := []) (by decide +kernel) (by decide +kernel) (by decide +kernel) (by decide) rfl (Nat.le_of_ble_eq_true rfl) rfl hc nx
theorem b101_17 {d : Nat} {x0 : Int32} {x1 : Int32} {sx0 : Int32} {S : fm_S} {r : Option Value × am_W} (kt : sx0 = 0 → am_Ev d 101 24 [some (.int x0), some (.int x1)] [] (fm_mk S) r) (kf : ¬ sx0 = 0 → am_Ev d 101 20 [some (.int x0), some (.int x1)] [] (fm_mk S) r) : am_Ev d 101 17 [some (.int x0), some (.int x1)] [.int sx0] (fm_mk S) r := by
  exact fs_ifeq (off := 7) (tgt := 24) (by decide +kernel) (by decide) kt kf
theorem b101_20 {d : Nat} {x0 : Int32} {x1 : Int32} {S : fm_S} {r : Option Value × am_W} (nx : am_Ev d 101 25 [some (.int x0), some (.int x1)] [.int 1] (fm_mk S) r) : am_Ev d 101 20 [some (.int x0), some (.int x1)] [] (fm_mk S) r := by
  refine fs_iconst (n := 1) (v := 1) (by decide +kernel) (by decide) ?_
  refine fs_goto (off := 4) (tgt := 25) (by decide +kernel) (by decide) ?_
  exact nx
theorem b101_24 {d : Nat} {x0 : Int32} {x1 : Int32} {S : fm_S} {r : Option Value × am_W} (nx : am_Ev d 101 25 [some (.int x0), some (.int x1)] [.int 0] (fm_mk S) r) : am_Ev d 101 24 [some (.int x0), some (.int x1)] [] (fm_mk S) r := by
  refine fs_iconst (n := 0) (v := 0) (by decide +kernel) (by decide) ?_
  exact nx
theorem b101_25 {d : Nat} {x0 : Int32} {x1 : Int32} {sx0 : Int32} {S : fm_S}  (hz : sx0 = 0 ∨ sx0 = 1) : am_Ev d 101 25 [some (.int x0), some (.int x1)] [.int sx0] (fm_mk S) (some (.int sx0), fm_mk S) := by
  exact fe_retZ (by decide +kernel) (by decide +kernel) hz
-- KitchenSiege.forget()I
theorem b103_0 {d : Nat} {o1 : Option Value} {S : fm_S}  : am_Ev d 103 0 [some (.ref 0), o1] [] (fm_mk S) (some (.int (S.1 11 0)), fm_mk (fm_wI S 11 0 0)) := by
  refine fs_aloadn (j := 0) (by decide +kernel) rfl ?_
  refine fe_getR (idx := 10) (t := 7) (f := 0) (fk := 2) (fin := 1) (wp := 333) (x := 1) (by decide +kernel) (by decide +kernel) (by decide +kernel) (by decide +kernel) (by decide +kernel) ?_
  refine fe_getR (idx := 202) (t := 6) (f := 11) (fk := 2) (fin := 1) (wp := 188) (x := 11) (by decide +kernel) (by decide +kernel) (by decide +kernel) (by decide +kernel) (by decide +kernel) ?_
  refine fe_getI (idx := 206) (t := 4) (f := 0) (fk := 0) (fin := 0) (wp := 97) (by decide +kernel) (by decide +kernel) (by decide +kernel) (by decide +kernel) ?_
  refine fs_istoren (j := 1) (L' := [some (.ref 0), some (.int (S.1 11 0))]) (by decide +kernel) (Nat.le_of_ble_eq_true rfl) rfl ?_
  refine fs_aloadn (j := 0) (by decide +kernel) rfl ?_
  refine fe_getR (idx := 10) (t := 7) (f := 0) (fk := 2) (fin := 1) (wp := 333) (x := 1) (by decide +kernel) (by decide +kernel) (by decide +kernel) (by decide +kernel) (by decide +kernel) ?_
  refine fe_getR (idx := 202) (t := 6) (f := 11) (fk := 2) (fin := 1) (wp := 188) (x := 11) (by decide +kernel) (by decide +kernel) (by decide +kernel) (by decide +kernel) (by decide +kernel) ?_
  refine fs_iconst (n := 0) (v := 0) (by decide +kernel) (by decide) ?_
  refine fe_putI (idx := 206) (t := 4) (f := 0) (wp := 97) (by decide +kernel) (by decide +kernel) (by decide +kernel) (by decide +kernel) ?_
  refine fs_iloadn (j := 1) (by decide +kernel) rfl ?_
  exact fe_retI (by decide +kernel) (by decide +kernel)
-- KitchenSiege.craved(I)I
theorem b104_0 {d : Nat} {x1 : Int32} {v : Int32} {S1 : fm_S} {S : fm_S} {r : Option Value × am_W} (hc : am_Sp d 17 [.ref 0, .int x1] (fm_mk S) (some (.int v)) (fm_mk S1)) (nx : am_Ev (d + 1) 104 5 [some (.ref 0), some (.int x1)] [.int v] (fm_mk S1) r) : am_Ev (d + 1) 104 0 [some (.ref 0), some (.int x1)] [] (fm_mk S) r := by
  refine fs_aloadn (j := 0) (by decide +kernel) rfl ?_
  refine fs_iloadn (j := 1) (by decide +kernel) rfl ?_
  exact fe_callV (idx := 69) (n := 1) (wp := 390) (q := (392, 2)) (as := [.int x1]) (rs := []) (by decide +kernel) (by decide +kernel) (by decide +kernel) (by decide +kernel) rfl (Nat.le_of_ble_eq_true rfl) rfl hc nx
theorem b104_5 {d : Nat} {x1 : Int32} {sx0 : Int32} {S : fm_S} {r : Option Value × am_W} (kt : ¬ sx0 = 0 → am_Ev d 104 13 [some (.ref 0), some (.int x1)] [] (fm_mk S) r) (kf : sx0 = 0 → am_Ev d 104 8 [some (.ref 0), some (.int x1)] [] (fm_mk S) r) : am_Ev d 104 5 [some (.ref 0), some (.int x1)] [.int sx0] (fm_mk S) r := by
  exact fs_ifne (off := 8) (tgt := 13) (by decide +kernel) (by decide) kt kf
theorem b104_8 {d : Nat} {x1 : Int32} {v : Int32} {S1 : fm_S} {S : fm_S} {r : Option Value × am_W} (hc : am_Sp d 13 [.ref 0] (fm_mk S) (some (.int v)) (fm_mk S1)) (nx : am_Ev (d + 1) 104 12 [some (.ref 0), some (.int x1)] [.int v] (fm_mk S1) r) : am_Ev (d + 1) 104 8 [some (.ref 0), some (.int x1)] [] (fm_mk S) r := by
  refine fs_aloadn (j := 0) (by decide +kernel) rfl ?_
  exact fe_callV (idx := 58) (n := 0) (wp := 374) (q := (376, 0)) (as := []) (rs := []) (by decide +kernel) (by decide +kernel) (by decide +kernel) (by decide +kernel) rfl (Nat.le_of_ble_eq_true rfl) rfl hc nx
theorem b104_12 {d : Nat} {x1 : Int32} {sx0 : Int32} {S : fm_S}  : am_Ev d 104 12 [some (.ref 0), some (.int x1)] [.int sx0] (fm_mk S) (some (.int sx0), fm_mk S) := by
  exact fe_retI (by decide +kernel) (by decide +kernel)
theorem b104_13 {d : Nat} {x1 : Int32} {v : Int32} {S1 : fm_S} {S : fm_S} {r : Option Value × am_W} (hi0 : vp_in x1 8) (hc : am_Sp d 105 [.ref 11, .int x1, .int (S.1 2 x1.toNatClampNeg)] (fm_mk S) (some (.int v)) (fm_mk S1)) (nx : am_Ev (d + 1) 104 33 [some (.ref 0), some (.int x1)] [.int v] (fm_mk S1) r) : am_Ev (d + 1) 104 13 [some (.ref 0), some (.int x1)] [] (fm_mk S) r := by
  refine fs_aloadn (j := 0) (by decide +kernel) rfl ?_
  refine fe_getR (idx := 10) (t := 7) (f := 0) (fk := 2) (fin := 1) (wp := 333) (x := 1) (by decide +kernel) (by decide +kernel) (by decide +kernel) (by decide +kernel) (by decide +kernel) ?_
  refine fe_getR (idx := 202) (t := 6) (f := 11) (fk := 2) (fin := 1) (wp := 188) (x := 11) (by decide +kernel) (by decide +kernel) (by decide +kernel) (by decide +kernel) (by decide +kernel) ?_
  refine fs_iloadn (j := 1) (by decide +kernel) rfl ?_
  refine fs_aloadn (j := 0) (by decide +kernel) rfl ?_
  refine fe_getR (idx := 10) (t := 7) (f := 0) (fk := 2) (fin := 1) (wp := 333) (x := 1) (by decide +kernel) (by decide +kernel) (by decide +kernel) (by decide +kernel) (by decide +kernel) ?_
  refine fe_getR (idx := 147) (t := 6) (f := 1) (fk := 2) (fin := 1) (wp := 162) (x := 2) (by decide +kernel) (by decide +kernel) (by decide +kernel) (by decide +kernel) (by decide +kernel) ?_
  refine fs_iloadn (j := 1) (by decide +kernel) rfl ?_
  refine fx_iald (n := x1.toNatClampNeg) (len := 8) (by decide +kernel) (by decide +kernel) (by decide +kernel) hi0 rfl ?_
  exact fe_callV (idx := 215) (n := 2) (wp := 809) (q := (810, 811)) (as := [.int x1, .int (S.1 2 x1.toNatClampNeg)]) (rs := []) (by decide +kernel) (by decide +kernel) (by decide +kernel) (by decide +kernel) rfl (Nat.le_of_ble_eq_true rfl) rfl hc nx
theorem b104_33 {d : Nat} {x1 : Int32} {sx0 : Int32} {S : fm_S}  : am_Ev d 104 33 [some (.ref 0), some (.int x1)] [.int sx0] (fm_mk S) (some (.int sx0), fm_mk S) := by
  exact fe_retI (by decide +kernel) (by decide +kernel)
-- KitchenSiege.is(I)I
theorem b108_0 {d : Nat} {x1 : Int32} {o2 : Option Value} {o3 : Option Value} {v : Int32} {S1 : fm_S} {S : fm_S} {r : Option Value × am_W} (hc : am_Sp d 17 [.ref 0, .int x1] (fm_mk S) (some (.int v)) (fm_mk S1)) (nx : am_Ev (d + 1) 108 5 [some (.ref 0), some (.int x1), o2, o3] [.int v] (fm_mk S1) r) : am_Ev (d + 1) 108 0 [some (.ref 0), some (.int x1), o2, o3] [] (fm_mk S) r := by
  refine fs_aloadn (j := 0) (by decide +kernel) rfl ?_
  refine fs_iloadn (j := 1) (by decide +kernel) rfl ?_
  exact fe_callV (idx := 69) (n := 1) (wp := 390) (q := (392, 2)) (as := [.int x1]) (rs := []) (by decide +kernel) (by decide +kernel) (by decide +kernel) (by decide +kernel) rfl (Nat.le_of_ble_eq_true rfl) rfl hc nx
theorem b108_5 {d : Nat} {x1 : Int32} {o2 : Option Value} {o3 : Option Value} {sx0 : Int32} {S : fm_S} {r : Option Value × am_W} (kt : ¬ sx0 = 0 → am_Ev d 108 13 [some (.ref 0), some (.int x1), o2, o3] [] (fm_mk S) r) (kf : sx0 = 0 → am_Ev d 108 8 [some (.ref 0), some (.int x1), o2, o3] [] (fm_mk S) r) : am_Ev d 108 5 [some (.ref 0), some (.int x1), o2, o3] [.int sx0] (fm_mk S) r := by
  exact fs_ifne (off := 8) (tgt := 13) (by decide +kernel) (by decide) kt kf
theorem b108_8 {d : Nat} {x1 : Int32} {o2 : Option Value} {o3 : Option Value} {v : Int32} {S1 : fm_S} {S : fm_S} {r : Option Value × am_W} (hc : am_Sp d 13 [.ref 0] (fm_mk S) (some (.int v)) (fm_mk S1)) (nx : am_Ev (d + 1) 108 12 [some (.ref 0), some (.int x1), o2, o3] [.int v] (fm_mk S1) r) : am_Ev (d + 1) 108 8 [some (.ref 0), some (.int x1), o2, o3] [] (fm_mk S) r := by
  refine fs_aloadn (j := 0) (by decide +kernel) rfl ?_
  exact fe_callV (idx := 58) (n := 0) (wp := 374) (q := (376, 0)) (as := []) (rs := []) (by decide +kernel) (by decide +kernel) (by decide +kernel) (by decide +kernel) rfl (Nat.le_of_ble_eq_true rfl) rfl hc nx
theorem b108_12 {d : Nat} {x1 : Int32} {o2 : Option Value} {o3 : Option Value} {sx0 : Int32} {S : fm_S}  : am_Ev d 108 12 [some (.ref 0), some (.int x1), o2, o3] [.int sx0] (fm_mk S) (some (.int sx0), fm_mk S) := by
  exact fe_retI (by decide +kernel) (by decide +kernel)
theorem b108_13 {d : Nat} {x1 : Int32} {o2 : Option Value} {o3 : Option Value} {S : fm_S} {r : Option Value × am_W} (nx : am_Ev d 108 17 [some (.ref 0), some (.int x1), some (.int 0), some (.int 0)] [] (fm_mk S) r) : am_Ev d 108 13 [some (.ref 0), some (.int x1), o2, o3] [] (fm_mk S) r := by
  refine fs_iconst (n := 0) (v := 0) (by decide +kernel) (by decide) ?_
  refine fs_istoren (j := 2) (L' := [some (.ref 0), some (.int x1), some (.int 0), o3]) (by decide +kernel) (Nat.le_of_ble_eq_true rfl) rfl ?_
  refine fs_iconst (n := 0) (v := 0) (by decide +kernel) (by decide) ?_
  refine fs_istoren (j := 3) (L' := [some (.ref 0), some (.int x1), some (.int 0), some (.int 0)]) (by decide +kernel) (Nat.le_of_ble_eq_true rfl) rfl ?_
  exact nx
theorem b108_17 {d : Nat} {x1 : Int32} {x2 : Int32} {x3 : Int32} {S : fm_S} {r : Option Value × am_W} (kt : 6 ≤ x3 → am_Ev d 108 50 [some (.ref 0), some (.int x1), some (.int x2), some (.int x3)] [] (fm_mk S) r) (kf : ¬ 6 ≤ x3 → am_Ev d 108 23 [some (.ref 0), some (.int x1), some (.int x2), some (.int x3)] [] (fm_mk S) r) : am_Ev d 108 17 [some (.ref 0), some (.int x1), some (.int x2), some (.int x3)] [] (fm_mk S) r := by
  refine fs_iloadn (j := 3) (by decide +kernel) rfl ?_
  refine fs_bipush (n := 6) (v := 6) (by decide +kernel) (by decide) ?_
  exact fs_icge (off := 30) (tgt := 50) (by decide +kernel) (by decide) kt kf
theorem b108_23 {d : Nat} {x1 : Int32} {x2 : Int32} {x3 : Int32} {v : Int32} {S1 : fm_S} {S : fm_S} {r : Option Value × am_W} (hc : am_Sp d 105 [.ref 11, .int x1, .int x3] (fm_mk S) (some (.int v)) (fm_mk S1)) (nx : am_Ev (d + 1) 108 35 [some (.ref 0), some (.int x1), some (.int x2), some (.int x3)] [.int v] (fm_mk S1) r) : am_Ev (d + 1) 108 23 [some (.ref 0), some (.int x1), some (.int x2), some (.int x3)] [] (fm_mk S) r := by
  refine fs_aloadn (j := 0) (by decide +kernel) rfl ?_
  refine fe_getR (idx := 10) (t := 7) (f := 0) (fk := 2) (fin := 1) (wp := 333) (x := 1) (by decide +kernel) (by decide +kernel) (by decide +kernel) (by decide +kernel) (by decide +kernel) ?_
  refine fe_getR (idx := 202) (t := 6) (f := 11) (fk := 2) (fin := 1) (wp := 188) (x := 11) (by decide +kernel) (by decide +kernel) (by decide +kernel) (by decide +kernel) (by decide +kernel) ?_
  refine fs_iloadn (j := 1) (by decide +kernel) rfl ?_
  refine fs_iloadn (j := 3) (by decide +kernel) rfl ?_
  exact fe_callV (idx := 215) (n := 2) (wp := 809) (q := (810, 811)) (as := [.int x1, .int x3]) (rs := []) (by decide +kernel) (by decide +kernel) (by decide +kernel) (by decide +kernel) rfl (Nat.le_of_ble_eq_true rfl) rfl hc nx
theorem b108_35 {d : Nat} {x1 : Int32} {x2 : Int32} {x3 : Int32} {sx0 : Int32} {S : fm_S} {r : Option Value × am_W} (kt : sx0 = 0 → am_Ev d 108 44 [some (.ref 0), some (.int x1), some (.int x2), some (.int x3)] [] (fm_mk S) r) (kf : ¬ sx0 = 0 → am_Ev d 108 38 [some (.ref 0), some (.int x1), some (.int x2), some (.int x3)] [] (fm_mk S) r) : am_Ev d 108 35 [some (.ref 0), some (.int x1), some (.int x2), some (.int x3)] [.int sx0] (fm_mk S) r := by
  exact fs_ifeq (off := 9) (tgt := 44) (by decide +kernel) (by decide) kt kf
theorem b108_38 {d : Nat} {x1 : Int32} {x2 : Int32} {x3 : Int32} {S : fm_S} {r : Option Value × am_W} (nx : am_Ev d 108 44 [some (.ref 0), some (.int x1), some (.int (x2 ||| (1 <<< (x3 &&& 31)))), some (.int x3)] [] (fm_mk S) r) : am_Ev d 108 38 [some (.ref 0), some (.int x1), some (.int x2), some (.int x3)] [] (fm_mk S) r := by
  refine fs_iloadn (j := 2) (by decide +kernel) rfl ?_
  refine fs_iconst (n := 1) (v := 1) (by decide +kernel) (by decide) ?_
  refine fs_iloadn (j := 3) (by decide +kernel) rfl ?_
  refine fs_ishl (by decide +kernel) ?_
  refine fs_ior (by decide +kernel) ?_
  refine fs_istoren (j := 2) (L' := [some (.ref 0), some (.int x1), some (.int (x2 ||| (1 <<< (x3 &&& 31)))), some (.int x3)]) (by decide +kernel) (Nat.le_of_ble_eq_true rfl) rfl ?_
  exact nx
theorem b108_44 {d : Nat} {x1 : Int32} {x2 : Int32} {x3 : Int32} {S : fm_S} {r : Option Value × am_W} (nx : am_Ev d 108 17 [some (.ref 0), some (.int x1), some (.int x2), some (.int (x3 + 1))] [] (fm_mk S) r) : am_Ev d 108 44 [some (.ref 0), some (.int x1), some (.int x2), some (.int x3)] [] (fm_mk S) r := by
  refine fs_iinc (j := 3) (n := 1) (v := 1) (L' := [some (.ref 0), some (.int x1), some (.int x2), some (.int (x3 + 1))]) (by decide +kernel) rfl (Nat.le_of_ble_eq_true rfl) (by decide) rfl ?_
  refine fs_goto (off := -30) (tgt := 17) (by decide +kernel) (by decide) ?_
  exact nx
theorem b108_50 {d : Nat} {x1 : Int32} {x2 : Int32} {x3 : Int32} {S : fm_S}  : am_Ev d 108 50 [some (.ref 0), some (.int x1), some (.int x2), some (.int x3)] [] (fm_mk S) (some (.int x2), fm_mk S) := by
  refine fs_iloadn (j := 2) (by decide +kernel) rfl ?_
  exact fe_retI (by decide +kernel) (by decide +kernel)
-- KitchenSiege.tryNext(III)I
theorem b109_0 {d : Nat} {x1 : Int32} {x2 : Int32} {x3 : Int32} {v : Int32} {S1 : fm_S} {S : fm_S} {r : Option Value × am_W} (hc : am_Sp d 17 [.ref 0, .int x1] (fm_mk S) (some (.int v)) (fm_mk S1)) (nx : am_Ev (d + 1) 109 5 [some (.ref 0), some (.int x1), some (.int x2), some (.int x3)] [.int v] (fm_mk S1) r) : am_Ev (d + 1) 109 0 [some (.ref 0), some (.int x1), some (.int x2), some (.int x3)] [] (fm_mk S) r := by
  refine fs_aloadn (j := 0) (by decide +kernel) rfl ?_
  refine fs_iloadn (j := 1) (by decide +kernel) rfl ?_
  exact fe_callV (idx := 69) (n := 1) (wp := 390) (q := (392, 2)) (as := [.int x1]) (rs := []) (by decide +kernel) (by decide +kernel) (by decide +kernel) (by decide +kernel) rfl (Nat.le_of_ble_eq_true rfl) rfl hc nx
theorem b109_5 {d : Nat} {x1 : Int32} {x2 : Int32} {x3 : Int32} {sx0 : Int32} {S : fm_S} {r : Option Value × am_W} (kt : sx0 = 0 → am_Ev d 109 16 [some (.ref 0), some (.int x1), some (.int x2), some (.int x3)] [] (fm_mk S) r) (kf : ¬ sx0 = 0 → am_Ev d 109 8 [some (.ref 0), some (.int x1), some (.int x2), some (.int x3)] [] (fm_mk S) r) : am_Ev d 109 5 [some (.ref 0), some (.int x1), some (.int x2), some (.int x3)] [.int sx0] (fm_mk S) r := by
  exact fs_ifeq (off := 11) (tgt := 16) (by decide +kernel) (by decide) kt kf
theorem b109_8 {d : Nat} {x1 : Int32} {x2 : Int32} {x3 : Int32} {v : Int32} {S1 : fm_S} {S : fm_S} {r : Option Value × am_W} (hc : am_Sp d 101 [.int x2, .int x3] (fm_mk S) (some (.int v)) (fm_mk S1)) (nx : am_Ev (d + 1) 109 13 [some (.ref 0), some (.int x1), some (.int x2), some (.int x3)] [.int v] (fm_mk S1) r) : am_Ev (d + 1) 109 8 [some (.ref 0), some (.int x1), some (.int x2), some (.int x3)] [] (fm_mk S) r := by
  refine fs_iloadn (j := 2) (by decide +kernel) rfl ?_
  refine fs_iloadn (j := 3) (by decide +kernel) rfl ?_
  exact fe_callS (idx := 199) (kd := 0) (n := 2) (wp := 794) (q := (795, 0)) (as := [.int x2, .int x3]) (rs := []) (by decide +kernel) (by decide +kernel) (by decide +kernel) (by decide) rfl (Nat.le_of_ble_eq_true rfl) rfl hc nx
theorem b109_13 {d : Nat} {x1 : Int32} {x2 : Int32} {x3 : Int32} {sx0 : Int32} {S : fm_S} {r : Option Value × am_W} (kt : ¬ sx0 = 0 → am_Ev d 109 21 [some (.ref 0), some (.int x1), some (.int x2), some (.int x3)] [] (fm_mk S) r) (kf : sx0 = 0 → am_Ev d 109 16 [some (.ref 0), some (.int x1), some (.int x2), some (.int x3)] [] (fm_mk S) r) : am_Ev d 109 13 [some (.ref 0), some (.int x1), some (.int x2), some (.int x3)] [.int sx0] (fm_mk S) r := by
  exact fs_ifne (off := 8) (tgt := 21) (by decide +kernel) (by decide) kt kf
theorem b109_16 {d : Nat} {x1 : Int32} {x2 : Int32} {x3 : Int32} {v : Int32} {S1 : fm_S} {S : fm_S} {r : Option Value × am_W} (hc : am_Sp d 13 [.ref 0] (fm_mk S) (some (.int v)) (fm_mk S1)) (nx : am_Ev (d + 1) 109 20 [some (.ref 0), some (.int x1), some (.int x2), some (.int x3)] [.int v] (fm_mk S1) r) : am_Ev (d + 1) 109 16 [some (.ref 0), some (.int x1), some (.int x2), some (.int x3)] [] (fm_mk S) r := by
  refine fs_aloadn (j := 0) (by decide +kernel) rfl ?_
  exact fe_callV (idx := 58) (n := 0) (wp := 374) (q := (376, 0)) (as := []) (rs := []) (by decide +kernel) (by decide +kernel) (by decide +kernel) (by decide +kernel) rfl (Nat.le_of_ble_eq_true rfl) rfl hc nx
theorem b109_20 {d : Nat} {x1 : Int32} {x2 : Int32} {x3 : Int32} {sx0 : Int32} {S : fm_S}  : am_Ev d 109 20 [some (.ref 0), some (.int x1), some (.int x2), some (.int x3)] [.int sx0] (fm_mk S) (some (.int sx0), fm_mk S) := by
  exact fe_retI (by decide +kernel) (by decide +kernel)
theorem b109_21 {d : Nat} {x1 : Int32} {x2 : Int32} {x3 : Int32} {v : Int32} {S1 : fm_S} {S : fm_S} {r : Option Value × am_W} (hi0 : vp_in x1 8) (hc : am_Sp d 110 [.ref 11, .int x1, .int (S.1 2 x1.toNatClampNeg), .int x2, .int x3] (fm_mk S) (some (.int v)) (fm_mk S1)) (nx : am_Ev (d + 1) 109 43 [some (.ref 0), some (.int x1), some (.int x2), some (.int x3)] [.int v] (fm_mk S1) r) : am_Ev (d + 1) 109 21 [some (.ref 0), some (.int x1), some (.int x2), some (.int x3)] [] (fm_mk S) r := by
  refine fs_aloadn (j := 0) (by decide +kernel) rfl ?_
  refine fe_getR (idx := 10) (t := 7) (f := 0) (fk := 2) (fin := 1) (wp := 333) (x := 1) (by decide +kernel) (by decide +kernel) (by decide +kernel) (by decide +kernel) (by decide +kernel) ?_
  refine fe_getR (idx := 202) (t := 6) (f := 11) (fk := 2) (fin := 1) (wp := 188) (x := 11) (by decide +kernel) (by decide +kernel) (by decide +kernel) (by decide +kernel) (by decide +kernel) ?_
  refine fs_iloadn (j := 1) (by decide +kernel) rfl ?_
  refine fs_aloadn (j := 0) (by decide +kernel) rfl ?_
  refine fe_getR (idx := 10) (t := 7) (f := 0) (fk := 2) (fin := 1) (wp := 333) (x := 1) (by decide +kernel) (by decide +kernel) (by decide +kernel) (by decide +kernel) (by decide +kernel) ?_
  refine fe_getR (idx := 147) (t := 6) (f := 1) (fk := 2) (fin := 1) (wp := 162) (x := 2) (by decide +kernel) (by decide +kernel) (by decide +kernel) (by decide +kernel) (by decide +kernel) ?_
  refine fs_iloadn (j := 1) (by decide +kernel) rfl ?_
  refine fx_iald (n := x1.toNatClampNeg) (len := 8) (by decide +kernel) (by decide +kernel) (by decide +kernel) hi0 rfl ?_
  refine fs_iloadn (j := 2) (by decide +kernel) rfl ?_
  refine fs_iloadn (j := 3) (by decide +kernel) rfl ?_
  exact fe_callV (idx := 218) (n := 4) (wp := 829) (q := (830, 831)) (as := [.int x1, .int (S.1 2 x1.toNatClampNeg), .int x2, .int x3]) (rs := []) (by decide +kernel) (by decide +kernel) (by decide +kernel) (by decide +kernel) rfl (Nat.le_of_ble_eq_true rfl) rfl hc nx
theorem b109_43 {d : Nat} {x1 : Int32} {x2 : Int32} {x3 : Int32} {sx0 : Int32} {S : fm_S}  : am_Ev d 109 43 [some (.ref 0), some (.int x1), some (.int x2), some (.int x3)] [.int sx0] (fm_mk S) (some (.int sx0), fm_mk S) := by
  exact fe_retI (by decide +kernel) (by decide +kernel)
-- KitchenSiege.rain(III)I
theorem b112_0 {d : Nat} {x1 : Int32} {x2 : Int32} {x3 : Int32} {v : Int32} {S1 : fm_S} {S : fm_S} {r : Option Value × am_W} (hc : am_Sp d 50 [.ref 0, .int x1] (fm_mk S) (some (.int v)) (fm_mk S1)) (nx : am_Ev (d + 1) 112 5 [some (.ref 0), some (.int x1), some (.int x2), some (.int x3)] [.int v] (fm_mk S1) r) : am_Ev (d + 1) 112 0 [some (.ref 0), some (.int x1), some (.int x2), some (.int x3)] [] (fm_mk S) r := by
  refine fs_aloadn (j := 0) (by decide +kernel) rfl ?_
  refine fs_iloadn (j := 1) (by decide +kernel) rfl ?_
  exact fe_callV (idx := 119) (n := 1) (wp := 583) (q := (585, 16)) (as := [.int x1]) (rs := []) (by decide +kernel) (by decide +kernel) (by decide +kernel) (by decide +kernel) rfl (Nat.le_of_ble_eq_true rfl) rfl hc nx
theorem b112_5 {d : Nat} {x1 : Int32} {x2 : Int32} {x3 : Int32} {sx0 : Int32} {S : fm_S} {r : Option Value × am_W} (kt : sx0 = 0 → am_Ev d 112 28 [some (.ref 0), some (.int x1), some (.int x2), some (.int x3)] [] (fm_mk S) r) (kf : ¬ sx0 = 0 → am_Ev d 112 8 [some (.ref 0), some (.int x1), some (.int x2), some (.int x3)] [] (fm_mk S) r) : am_Ev d 112 5 [some (.ref 0), some (.int x1), some (.int x2), some (.int x3)] [.int sx0] (fm_mk S) r := by
  exact fs_ifeq (off := 23) (tgt := 28) (by decide +kernel) (by decide) kt kf
theorem b112_8 {d : Nat} {x1 : Int32} {x2 : Int32} {x3 : Int32} {v : Int32} {S1 : fm_S} {S : fm_S} {r : Option Value × am_W} (hc : am_Sp d 12 [.int x2, .int 0, .int 10] (fm_mk S) (some (.int v)) (fm_mk S1)) (nx : am_Ev (d + 1) 112 15 [some (.ref 0), some (.int x1), some (.int x2), some (.int x3)] [.int v] (fm_mk S1) r) : am_Ev (d + 1) 112 8 [some (.ref 0), some (.int x1), some (.int x2), some (.int x3)] [] (fm_mk S) r := by
  refine fs_iloadn (j := 2) (by decide +kernel) rfl ?_
  refine fs_iconst (n := 0) (v := 0) (by decide +kernel) (by decide) ?_
  refine fs_bipush (n := 10) (v := 10) (by decide +kernel) (by decide) ?_
  exact fe_callS (idx := 54) (kd := 0) (n := 3) (wp := 371) (q := (372, 0)) (as := [.int x2, .int 0, .int 10]) (rs := []) (by decide +kernel) (by decide +kernel) (by decide +kernel) (by decide) rfl (Nat.le_of_ble_eq_true rfl) rfl hc nx
theorem b112_15 {d : Nat} {x1 : Int32} {x2 : Int32} {x3 : Int32} {sx0 : Int32} {S : fm_S} {r : Option Value × am_W} (kt : sx0 = 0 → am_Ev d 112 28 [some (.ref 0), some (.int x1), some (.int x2), some (.int x3)] [] (fm_mk S) r) (kf : ¬ sx0 = 0 → am_Ev d 112 18 [some (.ref 0), some (.int x1), some (.int x2), some (.int x3)] [] (fm_mk S) r) : am_Ev d 112 15 [some (.ref 0), some (.int x1), some (.int x2), some (.int x3)] [.int sx0] (fm_mk S) r := by
  exact fs_ifeq (off := 13) (tgt := 28) (by decide +kernel) (by decide) kt kf
theorem b112_18 {d : Nat} {x1 : Int32} {x2 : Int32} {x3 : Int32} {v : Int32} {S1 : fm_S} {S : fm_S} {r : Option Value × am_W} (hc : am_Sp d 12 [.int x3, .int 0, .int 8] (fm_mk S) (some (.int v)) (fm_mk S1)) (nx : am_Ev (d + 1) 112 25 [some (.ref 0), some (.int x1), some (.int x2), some (.int x3)] [.int v] (fm_mk S1) r) : am_Ev (d + 1) 112 18 [some (.ref 0), some (.int x1), some (.int x2), some (.int x3)] [] (fm_mk S) r := by
  refine fs_iloadn (j := 3) (by decide +kernel) rfl ?_
  refine fs_iconst (n := 0) (v := 0) (by decide +kernel) (by decide) ?_
  refine fs_bipush (n := 8) (v := 8) (by decide +kernel) (by decide) ?_
  exact fe_callS (idx := 54) (kd := 0) (n := 3) (wp := 371) (q := (372, 0)) (as := [.int x3, .int 0, .int 8]) (rs := []) (by decide +kernel) (by decide +kernel) (by decide +kernel) (by decide) rfl (Nat.le_of_ble_eq_true rfl) rfl hc nx
theorem b112_25 {d : Nat} {x1 : Int32} {x2 : Int32} {x3 : Int32} {sx0 : Int32} {S : fm_S} {r : Option Value × am_W} (kt : ¬ sx0 = 0 → am_Ev d 112 33 [some (.ref 0), some (.int x1), some (.int x2), some (.int x3)] [] (fm_mk S) r) (kf : sx0 = 0 → am_Ev d 112 28 [some (.ref 0), some (.int x1), some (.int x2), some (.int x3)] [] (fm_mk S) r) : am_Ev d 112 25 [some (.ref 0), some (.int x1), some (.int x2), some (.int x3)] [.int sx0] (fm_mk S) r := by
  exact fs_ifne (off := 8) (tgt := 33) (by decide +kernel) (by decide) kt kf
theorem b112_28 {d : Nat} {x1 : Int32} {x2 : Int32} {x3 : Int32} {v : Int32} {S1 : fm_S} {S : fm_S} {r : Option Value × am_W} (hc : am_Sp d 13 [.ref 0] (fm_mk S) (some (.int v)) (fm_mk S1)) (nx : am_Ev (d + 1) 112 32 [some (.ref 0), some (.int x1), some (.int x2), some (.int x3)] [.int v] (fm_mk S1) r) : am_Ev (d + 1) 112 28 [some (.ref 0), some (.int x1), some (.int x2), some (.int x3)] [] (fm_mk S) r := by
  refine fs_aloadn (j := 0) (by decide +kernel) rfl ?_
  exact fe_callV (idx := 58) (n := 0) (wp := 374) (q := (376, 0)) (as := []) (rs := []) (by decide +kernel) (by decide +kernel) (by decide +kernel) (by decide +kernel) rfl (Nat.le_of_ble_eq_true rfl) rfl hc nx
theorem b112_32 {d : Nat} {x1 : Int32} {x2 : Int32} {x3 : Int32} {sx0 : Int32} {S : fm_S}  : am_Ev d 112 32 [some (.ref 0), some (.int x1), some (.int x2), some (.int x3)] [.int sx0] (fm_mk S) (some (.int sx0), fm_mk S) := by
  exact fe_retI (by decide +kernel) (by decide +kernel)
theorem b112_33 {d : Nat} {x1 : Int32} {x2 : Int32} {x3 : Int32} {v : Int32} {S1 : fm_S} {S : fm_S} {r : Option Value × am_W} (hc : am_Sp d 95 [.ref 54, .int x1, .int (-1), .int 0] (fm_mk S) (some (.int v)) (fm_mk S1)) (nx : am_Ev (d + 1) 112 47 [some (.ref 0), some (.int x1), some (.int x2), some (.int x3)] [.int v, .ref 122] (fm_mk S1) r) : am_Ev (d + 1) 112 33 [some (.ref 0), some (.int x1), some (.int x2), some (.int x3)] [] (fm_mk S) r := by
  refine fs_aloadn (j := 0) (by decide +kernel) rfl ?_
  refine fe_getR (idx := 35) (t := 7) (f := 3) (fk := 2) (fin := 1) (wp := 336) (x := 122) (by decide +kernel) (by decide +kernel) (by decide +kernel) (by decide +kernel) (by decide +kernel) ?_
  refine fs_aloadn (j := 0) (by decide +kernel) rfl ?_
  refine fe_getR (idx := 21) (t := 7) (f := 1) (fk := 2) (fin := 1) (wp := 334) (x := 54) (by decide +kernel) (by decide +kernel) (by decide +kernel) (by decide +kernel) (by decide +kernel) ?_
  refine fs_iloadn (j := 1) (by decide +kernel) rfl ?_
  refine fs_iconst (n := -1) (v := (-1)) (by decide +kernel) (by decide) ?_
  refine fs_iconst (n := 0) (v := 0) (by decide +kernel) (by decide) ?_
  exact fe_callV (idx := 193) (n := 3) (wp := 774) (q := (770, 771)) (as := [.int x1, .int (-1), .int 0]) (rs := [.ref 122]) (by decide +kernel) (by decide +kernel) (by decide +kernel) (by decide +kernel) rfl (Nat.le_of_ble_eq_true rfl) rfl hc nx
theorem b112_47 {d : Nat} {x1 : Int32} {x2 : Int32} {x3 : Int32} {sx1 : Int32} {S1 : fm_S} {S : fm_S} {r : Option Value × am_W} (hc : am_Sp d 113 [.ref 122, .int sx1, .int x3, .int x2] (fm_mk S) (none) (fm_mk S1)) (nx : am_Ev (d + 1) 112 52 [some (.ref 0), some (.int x1), some (.int x2), some (.int x3)] [] (fm_mk S1) r) : am_Ev (d + 1) 112 47 [some (.ref 0), some (.int x1), some (.int x2), some (.int x3)] [.int sx1, .ref 122] (fm_mk S) r := by
  refine fs_iloadn (j := 3) (by decide +kernel) rfl ?_
  refine fs_iloadn (j := 2) (by decide +kernel) rfl ?_
  exact fe_callV (idx := 222) (n := 3) (wp := 844) (q := (845, 846)) (as := [.int sx1, .int x3, .int x2]) (rs := []) (by decide +kernel) (by decide +kernel) (by decide +kernel) (by decide +kernel) rfl (Nat.le_of_ble_eq_true rfl) rfl hc nx
theorem b112_52 {d : Nat} {x1 : Int32} {x2 : Int32} {x3 : Int32} {S : fm_S}  : am_Ev d 112 52 [some (.ref 0), some (.int x1), some (.int x2), some (.int x3)] [] (fm_mk S) (some (.int 1), fm_mk S) := by
  refine fs_iconst (n := 1) (v := 1) (by decide +kernel) (by decide) ?_
  exact fe_retI (by decide +kernel) (by decide +kernel)
-- KitchenSiege.sieges(II)I
theorem b117_0 {d : Nat} {x1 : Int32} {x2 : Int32} {v : Int32} {S1 : fm_S} {S : fm_S} {r : Option Value × am_W} (hc : am_Sp d 12 [.int x1, .int 0, .int 999999] (fm_mk S) (some (.int v)) (fm_mk S1)) (nx : am_Ev (d + 1) 117 7 [some (.ref 0), some (.int x1), some (.int x2)] [.int v] (fm_mk S1) r) : am_Ev (d + 1) 117 0 [some (.ref 0), some (.int x1), some (.int x2)] [] (fm_mk S) r := by
  refine fs_iloadn (j := 1) (by decide +kernel) rfl ?_
  refine fs_iconst (n := 0) (v := 0) (by decide +kernel) (by decide) ?_
  refine fs_ldc (idx := 226) (q := 861) (v := 999999) (by decide +kernel) (by decide +kernel) ?_
  exact fe_callS (idx := 54) (kd := 0) (n := 3) (wp := 371) (q := (372, 0)) (as := [.int x1, .int 0, .int 999999]) (rs := []) (by decide +kernel) (by decide +kernel) (by decide +kernel) (by decide) rfl (Nat.le_of_ble_eq_true rfl) rfl hc nx
theorem b117_7 {d : Nat} {x1 : Int32} {x2 : Int32} {sx0 : Int32} {S : fm_S} {r : Option Value × am_W} (kt : sx0 = 0 → am_Ev d 117 20 [some (.ref 0), some (.int x1), some (.int x2)] [] (fm_mk S) r) (kf : ¬ sx0 = 0 → am_Ev d 117 10 [some (.ref 0), some (.int x1), some (.int x2)] [] (fm_mk S) r) : am_Ev d 117 7 [some (.ref 0), some (.int x1), some (.int x2)] [.int sx0] (fm_mk S) r := by
  exact fs_ifeq (off := 13) (tgt := 20) (by decide +kernel) (by decide) kt kf
theorem b117_10 {d : Nat} {x1 : Int32} {x2 : Int32} {v : Int32} {S1 : fm_S} {S : fm_S} {r : Option Value × am_W} (hc : am_Sp d 12 [.int x2, .int 0, .int 60] (fm_mk S) (some (.int v)) (fm_mk S1)) (nx : am_Ev (d + 1) 117 17 [some (.ref 0), some (.int x1), some (.int x2)] [.int v] (fm_mk S1) r) : am_Ev (d + 1) 117 10 [some (.ref 0), some (.int x1), some (.int x2)] [] (fm_mk S) r := by
  refine fs_iloadn (j := 2) (by decide +kernel) rfl ?_
  refine fs_iconst (n := 0) (v := 0) (by decide +kernel) (by decide) ?_
  refine fs_bipush (n := 60) (v := 60) (by decide +kernel) (by decide) ?_
  exact fe_callS (idx := 54) (kd := 0) (n := 3) (wp := 371) (q := (372, 0)) (as := [.int x2, .int 0, .int 60]) (rs := []) (by decide +kernel) (by decide +kernel) (by decide +kernel) (by decide) rfl (Nat.le_of_ble_eq_true rfl) rfl hc nx
theorem b117_17 {d : Nat} {x1 : Int32} {x2 : Int32} {sx0 : Int32} {S : fm_S} {r : Option Value × am_W} (kt : ¬ sx0 = 0 → am_Ev d 117 25 [some (.ref 0), some (.int x1), some (.int x2)] [] (fm_mk S) r) (kf : sx0 = 0 → am_Ev d 117 20 [some (.ref 0), some (.int x1), some (.int x2)] [] (fm_mk S) r) : am_Ev d 117 17 [some (.ref 0), some (.int x1), some (.int x2)] [.int sx0] (fm_mk S) r := by
  exact fs_ifne (off := 8) (tgt := 25) (by decide +kernel) (by decide) kt kf
theorem b117_20 {d : Nat} {x1 : Int32} {x2 : Int32} {v : Int32} {S1 : fm_S} {S : fm_S} {r : Option Value × am_W} (hc : am_Sp d 13 [.ref 0] (fm_mk S) (some (.int v)) (fm_mk S1)) (nx : am_Ev (d + 1) 117 24 [some (.ref 0), some (.int x1), some (.int x2)] [.int v] (fm_mk S1) r) : am_Ev (d + 1) 117 20 [some (.ref 0), some (.int x1), some (.int x2)] [] (fm_mk S) r := by
  refine fs_aloadn (j := 0) (by decide +kernel) rfl ?_
  exact fe_callV (idx := 58) (n := 0) (wp := 374) (q := (376, 0)) (as := []) (rs := []) (by decide +kernel) (by decide +kernel) (by decide +kernel) (by decide +kernel) rfl (Nat.le_of_ble_eq_true rfl) rfl hc nx
theorem b117_24 {d : Nat} {x1 : Int32} {x2 : Int32} {sx0 : Int32} {S : fm_S}  : am_Ev d 117 24 [some (.ref 0), some (.int x1), some (.int x2)] [.int sx0] (fm_mk S) (some (.int sx0), fm_mk S) := by
  exact fe_retI (by decide +kernel) (by decide +kernel)
theorem b117_25 {d : Nat} {x1 : Int32} {x2 : Int32} {v : Int32} {S1 : fm_S} {S : fm_S} {r : Option Value × am_W} (hc : am_Sp d 118 [.ref 54, .int x1, .int x2] (fm_mk S) (some (.int v)) (fm_mk S1)) (nx : am_Ev (d + 1) 117 34 [some (.ref 0), some (.int x1), some (.int x2)] [.int v] (fm_mk S1) r) : am_Ev (d + 1) 117 25 [some (.ref 0), some (.int x1), some (.int x2)] [] (fm_mk S) r := by
  refine fs_aloadn (j := 0) (by decide +kernel) rfl ?_
  refine fe_getR (idx := 21) (t := 7) (f := 1) (fk := 2) (fin := 1) (wp := 334) (x := 54) (by decide +kernel) (by decide +kernel) (by decide +kernel) (by decide +kernel) (by decide +kernel) ?_
  refine fs_iloadn (j := 1) (by decide +kernel) rfl ?_
  refine fs_iloadn (j := 2) (by decide +kernel) rfl ?_
  exact fe_callV (idx := 227) (n := 2) (wp := 862) (q := (863, 864)) (as := [.int x1, .int x2]) (rs := []) (by decide +kernel) (by decide +kernel) (by decide +kernel) (by decide +kernel) rfl (Nat.le_of_ble_eq_true rfl) rfl hc nx
theorem b117_34 {d : Nat} {x1 : Int32} {x2 : Int32} {sx0 : Int32} {S : fm_S}  : am_Ev d 117 34 [some (.ref 0), some (.int x1), some (.int x2)] [.int sx0] (fm_mk S) (some (.int sx0), fm_mk S) := by
  exact fe_retI (by decide +kernel) (by decide +kernel)
-- KitchenSiege.part(I)J
theorem b120_0 {d : Nat} {x1 : Int32} {S : fm_S} {r : Option Value × am_W} (k0 : x1 = 0 → am_Ev d 120 28 [some (.ref 0), some (.int x1)] [] (fm_mk S) r) (k1 : x1 = 1 → am_Ev d 120 36 [some (.ref 0), some (.int x1)] [] (fm_mk S) r) (kd : ¬ x1 = 0 → ¬ x1 = 1 → am_Ev d 120 44 [some (.ref 0), some (.int x1)] [] (fm_mk S) r) : am_Ev d 120 0 [some (.ref 0), some (.int x1)] [] (fm_mk S) r := by
  refine fs_iloadn (j := 1) (by decide +kernel) rfl ?_
  by_cases c0 : x1 = 0
  · exact fs_sw (i := .lookupswitch 43 #[(0, 27), (1, 35)]) (z := 27) (by decide +kernel) rfl (by rw [c0]; rfl) (k0 c0)
  by_cases c1 : x1 = 1
  · exact fs_sw (i := .lookupswitch 43 #[(0, 27), (1, 35)]) (z := 27) (by decide +kernel) rfl (by rw [c1]; rfl) (k1 c1)
  exact fs_lout2 (dflt := 43) (o0 := 27) (o1 := 35) (z := 27) (by decide +kernel) c0 c1 (by decide) (kd c0 c1)
theorem b120_28 {d : Nat} {x1 : Int32} {S : fm_S}  : am_Ev d 120 28 [some (.ref 0), some (.int x1)] [] (fm_mk S) (some (.long (S.2.1 122 0)), fm_mk S) := by
  refine fs_aloadn (j := 0) (by decide +kernel) rfl ?_
  refine fe_getR (idx := 35) (t := 7) (f := 3) (fk := 2) (fin := 1) (wp := 336) (x := 122) (by decide +kernel) (by decide +kernel) (by decide +kernel) (by decide +kernel) (by decide +kernel) ?_
  refine fe_getL (idx := 230) (t := 3) (f := 0) (fk := 1) (fin := 0) (wp := 324) (by decide +kernel) (by decide +kernel) (by decide +kernel) (by decide +kernel) ?_
  exact fe_retL (by decide +kernel) (by decide +kernel)
theorem b120_36 {d : Nat} {x1 : Int32} {S : fm_S}  : am_Ev d 120 36 [some (.ref 0), some (.int x1)] [] (fm_mk S) (some (.long (S.2.1 122 1)), fm_mk S) := by
  refine fs_aloadn (j := 0) (by decide +kernel) rfl ?_
  refine fe_getR (idx := 35) (t := 7) (f := 3) (fk := 2) (fin := 1) (wp := 336) (x := 122) (by decide +kernel) (by decide +kernel) (by decide +kernel) (by decide +kernel) (by decide +kernel) ?_
  refine fe_getL (idx := 234) (t := 3) (f := 1) (fk := 1) (fin := 0) (wp := 326) (by decide +kernel) (by decide +kernel) (by decide +kernel) (by decide +kernel) ?_
  exact fe_retL (by decide +kernel) (by decide +kernel)
theorem b120_44 {d : Nat} {x1 : Int32} {v : Int32} {S1 : fm_S} {S : fm_S} {r : Option Value × am_W} (hc : am_Sp d 13 [.ref 0] (fm_mk S) (some (.int v)) (fm_mk S1)) (nx : am_Ev (d + 1) 120 48 [some (.ref 0), some (.int x1)] [.int v] (fm_mk S1) r) : am_Ev (d + 1) 120 44 [some (.ref 0), some (.int x1)] [] (fm_mk S) r := by
  refine fs_aloadn (j := 0) (by decide +kernel) rfl ?_
  exact fe_callV (idx := 58) (n := 0) (wp := 374) (q := (376, 0)) (as := []) (rs := []) (by decide +kernel) (by decide +kernel) (by decide +kernel) (by decide +kernel) rfl (Nat.le_of_ble_eq_true rfl) rfl hc nx
theorem b120_48 {d : Nat} {x1 : Int32} {sx0 : Int32} {S : fm_S}  : am_Ev d 120 48 [some (.ref 0), some (.int x1)] [.int sx0] (fm_mk S) (some (.long sx0.toInt64), fm_mk S) := by
  refine fs_i2l (by decide +kernel) ?_
  exact fe_retL (by decide +kernel) (by decide +kernel)
-- KitchenSiege.image(I)I
theorem b121_0 {d : Nat} {x1 : Int32} {v : Int32} {S1 : fm_S} {S : fm_S} {r : Option Value × am_W} (hc : am_Sp d 122 [.int x1] (fm_mk S) (some (.int v)) (fm_mk S1)) (nx : am_Ev (d + 1) 121 4 [some (.ref 0), some (.int x1)] [.int v] (fm_mk S1) r) : am_Ev (d + 1) 121 0 [some (.ref 0), some (.int x1)] [] (fm_mk S) r := by
  refine fs_iloadn (j := 1) (by decide +kernel) rfl ?_
  exact fe_callS (idx := 237) (kd := 0) (n := 1) (wp := 886) (q := (887, 0)) (as := [.int x1]) (rs := []) (by decide +kernel) (by decide +kernel) (by decide +kernel) (by decide) rfl (Nat.le_of_ble_eq_true rfl) rfl hc nx
theorem b121_4 {d : Nat} {x1 : Int32} {sx0 : Int32} {S : fm_S} {r : Option Value × am_W} (kt : ¬ sx0 = 0 → am_Ev d 121 12 [some (.ref 0), some (.int x1)] [] (fm_mk S) r) (kf : sx0 = 0 → am_Ev d 121 7 [some (.ref 0), some (.int x1)] [] (fm_mk S) r) : am_Ev d 121 4 [some (.ref 0), some (.int x1)] [.int sx0] (fm_mk S) r := by
  exact fs_ifne (off := 8) (tgt := 12) (by decide +kernel) (by decide) kt kf
theorem b121_7 {d : Nat} {x1 : Int32} {v : Int32} {S1 : fm_S} {S : fm_S} {r : Option Value × am_W} (hc : am_Sp d 13 [.ref 0] (fm_mk S) (some (.int v)) (fm_mk S1)) (nx : am_Ev (d + 1) 121 11 [some (.ref 0), some (.int x1)] [.int v] (fm_mk S1) r) : am_Ev (d + 1) 121 7 [some (.ref 0), some (.int x1)] [] (fm_mk S) r := by
  refine fs_aloadn (j := 0) (by decide +kernel) rfl ?_
  exact fe_callV (idx := 58) (n := 0) (wp := 374) (q := (376, 0)) (as := []) (rs := []) (by decide +kernel) (by decide +kernel) (by decide +kernel) (by decide +kernel) rfl (Nat.le_of_ble_eq_true rfl) rfl hc nx
theorem b121_11 {d : Nat} {x1 : Int32} {sx0 : Int32} {S : fm_S}  : am_Ev d 121 11 [some (.ref 0), some (.int x1)] [.int sx0] (fm_mk S) (some (.int sx0), fm_mk S) := by
  exact fe_retI (by decide +kernel) (by decide +kernel)
theorem b121_12 {d : Nat} {x1 : Int32} {S1 : fm_S} {S : fm_S} {r : Option Value × am_W} (hi0 : vp_in x1 2) (ht1 : fm_tg (fm_rf 123 x1.toNatClampNeg) = 6) (hc : am_Sp d 46 [.ref (fm_rf 123 x1.toNatClampNeg), .ref 1] (fm_mk S) (none) (fm_mk S1)) (nx : am_Ev (d + 1) 121 25 [some (.ref 0), some (.int x1)] [] (fm_mk S1) r) : am_Ev (d + 1) 121 12 [some (.ref 0), some (.int x1)] [] (fm_mk S) r := by
  refine fs_aloadn (j := 0) (by decide +kernel) rfl ?_
  refine fe_getR (idx := 39) (t := 7) (f := 4) (fk := 2) (fin := 1) (wp := 337) (x := 123) (by decide +kernel) (by decide +kernel) (by decide +kernel) (by decide +kernel) (by decide +kernel) ?_
  refine fs_iloadn (j := 1) (by decide +kernel) rfl ?_
  refine fx_aald4 (n := x1.toNatClampNeg) (len := 2) (by decide +kernel) (by decide +kernel) (by decide +kernel) hi0 rfl ?_
  refine fs_aloadn (j := 0) (by decide +kernel) rfl ?_
  refine fe_getR (idx := 10) (t := 7) (f := 0) (fk := 2) (fin := 1) (wp := 333) (x := 1) (by decide +kernel) (by decide +kernel) (by decide +kernel) (by decide +kernel) (by decide +kernel) ?_
  exact fe_callV (idx := 113) (n := 1) (wp := 561) (q := (562, 563)) (as := [.ref 1]) (rs := []) (by decide +kernel) (by decide +kernel) ht1 (by decide +kernel) rfl (Nat.le_of_ble_eq_true rfl) rfl hc nx
theorem b121_25 {d : Nat} {x1 : Int32} {S : fm_S}  (hi0 : vp_in x1 2) : am_Ev d 121 25 [some (.ref 0), some (.int x1)] [] (fm_mk S) (some (.int 1), fm_mk (fm_wI S 230 x1.toNatClampNeg 1)) := by
  refine fs_aloadn (j := 0) (by decide +kernel) rfl ?_
  refine fe_getR (idx := 43) (t := 7) (f := 5) (fk := 2) (fin := 1) (wp := 338) (x := 230) (by decide +kernel) (by decide +kernel) (by decide +kernel) (by decide +kernel) (by decide +kernel) ?_
  refine fs_iloadn (j := 1) (by decide +kernel) rfl ?_
  refine fs_iconst (n := 1) (v := 1) (by decide +kernel) (by decide) ?_
  refine fx_bast (n := x1.toNatClampNeg) (len := 2) (by decide +kernel) (by decide +kernel) (by decide +kernel) hi0 rfl (by decide) ?_
  refine fs_iconst (n := 1) (v := 1) (by decide +kernel) (by decide) ?_
  exact fe_retI (by decide +kernel) (by decide +kernel)
-- KitchenSiege.isImage(I)Z
theorem b122_0 {d : Nat} {x0 : Int32} {v : Int32} {S1 : fm_S} {S : fm_S} {r : Option Value × am_W} (hc : am_Sp d 12 [.int x0, .int 0, .int 1] (fm_mk S) (some (.int v)) (fm_mk S1)) (nx : am_Ev (d + 1) 122 6 [some (.int x0)] [.int v] (fm_mk S1) r) : am_Ev (d + 1) 122 0 [some (.int x0)] [] (fm_mk S) r := by
  refine fs_iloadn (j := 0) (by decide +kernel) rfl ?_
  refine fs_iconst (n := 0) (v := 0) (by decide +kernel) (by decide) ?_
  refine fs_iconst (n := 1) (v := 1) (by decide +kernel) (by decide) ?_
  exact fe_callS (idx := 54) (kd := 0) (n := 3) (wp := 371) (q := (372, 0)) (as := [.int x0, .int 0, .int 1]) (rs := []) (by decide +kernel) (by decide +kernel) (by decide +kernel) (by decide) rfl (Nat.le_of_ble_eq_true rfl) rfl hc nx
theorem b122_6 {d : Nat} {x0 : Int32} {sx0 : Int32} {S : fm_S}  (hz : sx0 = 0 ∨ sx0 = 1) : am_Ev d 122 6 [some (.int x0)] [.int sx0] (fm_mk S) (some (.int sx0), fm_mk S) := by
  exact fe_retZ (by decide +kernel) (by decide +kernel) hz
-- KitchenSiege.from(I)I
theorem b123_0 {d : Nat} {x1 : Int32} {v : Int32} {S1 : fm_S} {S : fm_S} {r : Option Value × am_W} (hc : am_Sp d 122 [.int x1] (fm_mk S) (some (.int v)) (fm_mk S1)) (nx : am_Ev (d + 1) 123 4 [some (.ref 0), some (.int x1)] [.int v] (fm_mk S1) r) : am_Ev (d + 1) 123 0 [some (.ref 0), some (.int x1)] [] (fm_mk S) r := by
  refine fs_iloadn (j := 1) (by decide +kernel) rfl ?_
  exact fe_callS (idx := 237) (kd := 0) (n := 1) (wp := 886) (q := (887, 0)) (as := [.int x1]) (rs := []) (by decide +kernel) (by decide +kernel) (by decide +kernel) (by decide) rfl (Nat.le_of_ble_eq_true rfl) rfl hc nx
theorem b123_4 {d : Nat} {x1 : Int32} {sx0 : Int32} {S : fm_S} {r : Option Value × am_W} (kt : ¬ sx0 = 0 → am_Ev d 123 12 [some (.ref 0), some (.int x1)] [] (fm_mk S) r) (kf : sx0 = 0 → am_Ev d 123 7 [some (.ref 0), some (.int x1)] [] (fm_mk S) r) : am_Ev d 123 4 [some (.ref 0), some (.int x1)] [.int sx0] (fm_mk S) r := by
  exact fs_ifne (off := 8) (tgt := 12) (by decide +kernel) (by decide) kt kf
theorem b123_7 {d : Nat} {x1 : Int32} {v : Int32} {S1 : fm_S} {S : fm_S} {r : Option Value × am_W} (hc : am_Sp d 13 [.ref 0] (fm_mk S) (some (.int v)) (fm_mk S1)) (nx : am_Ev (d + 1) 123 11 [some (.ref 0), some (.int x1)] [.int v] (fm_mk S1) r) : am_Ev (d + 1) 123 7 [some (.ref 0), some (.int x1)] [] (fm_mk S) r := by
  refine fs_aloadn (j := 0) (by decide +kernel) rfl ?_
  exact fe_callV (idx := 58) (n := 0) (wp := 374) (q := (376, 0)) (as := []) (rs := []) (by decide +kernel) (by decide +kernel) (by decide +kernel) (by decide +kernel) rfl (Nat.le_of_ble_eq_true rfl) rfl hc nx
theorem b123_11 {d : Nat} {x1 : Int32} {sx0 : Int32} {S : fm_S}  : am_Ev d 123 11 [some (.ref 0), some (.int x1)] [.int sx0] (fm_mk S) (some (.int sx0), fm_mk S) := by
  exact fe_retI (by decide +kernel) (by decide +kernel)
theorem b123_12 {d : Nat} {x1 : Int32} {S : fm_S} {r : Option Value × am_W} (hi0 : vp_in x1 2) (kt : ¬ (S.1 230 x1.toNatClampNeg) = 0 → am_Ev d 123 26 [some (.ref 0), some (.int x1)] [] (fm_mk S) r) (kf : (S.1 230 x1.toNatClampNeg) = 0 → am_Ev d 123 21 [some (.ref 0), some (.int x1)] [] (fm_mk S) r) : am_Ev d 123 12 [some (.ref 0), some (.int x1)] [] (fm_mk S) r := by
  refine fs_aloadn (j := 0) (by decide +kernel) rfl ?_
  refine fe_getR (idx := 43) (t := 7) (f := 5) (fk := 2) (fin := 1) (wp := 338) (x := 230) (by decide +kernel) (by decide +kernel) (by decide +kernel) (by decide +kernel) (by decide +kernel) ?_
  refine fs_iloadn (j := 1) (by decide +kernel) rfl ?_
  refine fx_bald (n := x1.toNatClampNeg) (len := 2) (by decide +kernel) (by decide +kernel) (by decide +kernel) hi0 rfl ?_
  exact fs_ifne (off := 8) (tgt := 26) (by decide +kernel) (by decide) kt kf
theorem b123_21 {d : Nat} {x1 : Int32} {v : Int32} {S1 : fm_S} {S : fm_S} {r : Option Value × am_W} (hc : am_Sp d 20 [.ref 0] (fm_mk S) (some (.int v)) (fm_mk S1)) (nx : am_Ev (d + 1) 123 25 [some (.ref 0), some (.int x1)] [.int v] (fm_mk S1) r) : am_Ev (d + 1) 123 21 [some (.ref 0), some (.int x1)] [] (fm_mk S) r := by
  refine fs_aloadn (j := 0) (by decide +kernel) rfl ?_
  exact fe_callV (idx := 77) (n := 0) (wp := 401) (q := (403, 3)) (as := []) (rs := []) (by decide +kernel) (by decide +kernel) (by decide +kernel) (by decide +kernel) rfl (Nat.le_of_ble_eq_true rfl) rfl hc nx
theorem b123_25 {d : Nat} {x1 : Int32} {sx0 : Int32} {S : fm_S}  : am_Ev d 123 25 [some (.ref 0), some (.int x1)] [.int sx0] (fm_mk S) (some (.int sx0), fm_mk S) := by
  exact fe_retI (by decide +kernel) (by decide +kernel)
theorem b123_26 {d : Nat} {x1 : Int32} {S1 : fm_S} {S : fm_S} {r : Option Value × am_W} (hi0 : vp_in x1 2) (hc : am_Sp d 46 [.ref 1, .ref (fm_rf 123 x1.toNatClampNeg)] (fm_mk S) (none) (fm_mk S1)) (nx : am_Ev (d + 1) 123 39 [some (.ref 0), some (.int x1)] [] (fm_mk S1) r) : am_Ev (d + 1) 123 26 [some (.ref 0), some (.int x1)] [] (fm_mk S) r := by
  refine fs_aloadn (j := 0) (by decide +kernel) rfl ?_
  refine fe_getR (idx := 10) (t := 7) (f := 0) (fk := 2) (fin := 1) (wp := 333) (x := 1) (by decide +kernel) (by decide +kernel) (by decide +kernel) (by decide +kernel) (by decide +kernel) ?_
  refine fs_aloadn (j := 0) (by decide +kernel) rfl ?_
  refine fe_getR (idx := 39) (t := 7) (f := 4) (fk := 2) (fin := 1) (wp := 337) (x := 123) (by decide +kernel) (by decide +kernel) (by decide +kernel) (by decide +kernel) (by decide +kernel) ?_
  refine fs_iloadn (j := 1) (by decide +kernel) rfl ?_
  refine fx_aald4 (n := x1.toNatClampNeg) (len := 2) (by decide +kernel) (by decide +kernel) (by decide +kernel) hi0 rfl ?_
  exact fe_callV (idx := 113) (n := 1) (wp := 561) (q := (562, 563)) (as := [.ref (fm_rf 123 x1.toNatClampNeg)]) (rs := []) (by decide +kernel) (by decide +kernel) (by decide +kernel) (by decide +kernel) rfl (Nat.le_of_ble_eq_true rfl) rfl hc nx
theorem b123_39 {d : Nat} {x1 : Int32} {S : fm_S}  : am_Ev d 123 39 [some (.ref 0), some (.int x1)] [] (fm_mk S) (some (.int 1), fm_mk S) := by
  refine fs_iconst (n := 1) (v := 1) (by decide +kernel) (by decide) ?_
  exact fe_retI (by decide +kernel) (by decide +kernel)
-- KitchenSiege.status(I)I
theorem b124_0 {d : Nat} {x1 : Int32} {S : fm_S} {r : Option Value × am_W} (k0 : x1 = 0 → am_Ev d 124 28 [some (.ref 0), some (.int x1)] [] (fm_mk S) r) (k1 : x1 = 1 → am_Ev d 124 33 [some (.ref 0), some (.int x1)] [] (fm_mk S) r) (k2 : x1 = 2 → am_Ev d 124 38 [some (.ref 0), some (.int x1)] [] (fm_mk S) r) (kd : ¬ x1 = 0 → ¬ x1 = 1 → ¬ x1 = 2 → am_Ev d 124 43 [some (.ref 0), some (.int x1)] [] (fm_mk S) r) : am_Ev d 124 0 [some (.ref 0), some (.int x1)] [] (fm_mk S) r := by
  refine fs_iloadn (j := 1) (by decide +kernel) rfl ?_
  by_cases c0 : x1 = 0
  · exact fs_sw (i := .tableswitch 42 0 2 #[27, 32, 37]) (z := 27) (by decide +kernel) rfl (by rw [c0]; rfl) (k0 c0)
  by_cases c1 : x1 = 1
  · exact fs_sw (i := .tableswitch 42 0 2 #[27, 32, 37]) (z := 27) (by decide +kernel) rfl (by rw [c1]; rfl) (k1 c1)
  by_cases c2 : x1 = 2
  · exact fs_sw (i := .tableswitch 42 0 2 #[27, 32, 37]) (z := 27) (by decide +kernel) rfl (by rw [c2]; rfl) (k2 c2)
  have e0 : ¬ (x1).toInt = 0 := fun q => c0 (Int32.toInt_inj.mp (q.trans (by decide)))
  have e1 : ¬ (x1).toInt = 1 := fun q => c1 (Int32.toInt_inj.mp (q.trans (by decide)))
  have e2 : ¬ (x1).toInt = 2 := fun q => c2 (Int32.toInt_inj.mp (q.trans (by decide)))
  exact fs_tout (dflt := 42) (lo := 0) (hi := 2) (offs := #[27, 32, 37]) (z := 27) (by decide +kernel) (by omega) (by decide) (kd c0 c1 c2)
theorem b124_28 {d : Nat} {x1 : Int32} {S : fm_S}  : am_Ev d 124 28 [some (.ref 0), some (.int x1)] [] (fm_mk S) (some (.int (S.1 0 6)), fm_mk S) := by
  refine fs_aloadn (j := 0) (by decide +kernel) rfl ?_
  refine fe_getI (idx := 240) (t := 7) (f := 6) (fk := 0) (fin := 0) (wp := 339) (by decide +kernel) (by decide +kernel) (by decide +kernel) (by decide +kernel) ?_
  exact fe_retI (by decide +kernel) (by decide +kernel)
theorem b124_33 {d : Nat} {x1 : Int32} {S : fm_S}  : am_Ev d 124 33 [some (.ref 0), some (.int x1)] [] (fm_mk S) (some (.int (S.1 0 7)), fm_mk S) := by
  refine fs_aloadn (j := 0) (by decide +kernel) rfl ?_
  refine fe_getI (idx := 243) (t := 7) (f := 7) (fk := 0) (fin := 0) (wp := 340) (by decide +kernel) (by decide +kernel) (by decide +kernel) (by decide +kernel) ?_
  exact fe_retI (by decide +kernel) (by decide +kernel)
theorem b124_38 {d : Nat} {x1 : Int32} {S : fm_S}  : am_Ev d 124 38 [some (.ref 0), some (.int x1)] [] (fm_mk S) (some (.int (S.1 0 8)), fm_mk S) := by
  refine fs_aloadn (j := 0) (by decide +kernel) rfl ?_
  refine fe_getI (idx := 246) (t := 7) (f := 8) (fk := 0) (fin := 0) (wp := 341) (by decide +kernel) (by decide +kernel) (by decide +kernel) (by decide +kernel) ?_
  exact fe_retI (by decide +kernel) (by decide +kernel)
theorem b124_43 {d : Nat} {x1 : Int32} {v : Int32} {S1 : fm_S} {S : fm_S} {r : Option Value × am_W} (hc : am_Sp d 13 [.ref 0] (fm_mk S) (some (.int v)) (fm_mk S1)) (nx : am_Ev (d + 1) 124 47 [some (.ref 0), some (.int x1)] [.int v] (fm_mk S1) r) : am_Ev (d + 1) 124 43 [some (.ref 0), some (.int x1)] [] (fm_mk S) r := by
  refine fs_aloadn (j := 0) (by decide +kernel) rfl ?_
  exact fe_callV (idx := 58) (n := 0) (wp := 374) (q := (376, 0)) (as := []) (rs := []) (by decide +kernel) (by decide +kernel) (by decide +kernel) (by decide +kernel) rfl (Nat.le_of_ble_eq_true rfl) rfl hc nx
theorem b124_47 {d : Nat} {x1 : Int32} {sx0 : Int32} {S : fm_S}  : am_Ev d 124 47 [some (.ref 0), some (.int x1)] [.int sx0] (fm_mk S) (some (.int (-1)), fm_mk S) := by
  refine fs_pop (by decide +kernel) rfl ?_
  refine fs_iconst (n := -1) (v := (-1)) (by decide +kernel) (by decide) ?_
  exact fe_retI (by decide +kernel) (by decide +kernel)
-- KitchenSiege.count(I)I
theorem b125_0 {d : Nat} {x1 : Int32} {S : fm_S} {r : Option Value × am_W} (k0 : x1 = 0 → am_Ev d 125 44 [some (.ref 0), some (.int x1)] [] (fm_mk S) r) (k1 : x1 = 1 → am_Ev d 125 52 [some (.ref 0), some (.int x1)] [] (fm_mk S) r) (k2 : x1 = 2 → am_Ev d 125 60 [some (.ref 0), some (.int x1)] [] (fm_mk S) r) (k3 : x1 = 3 → am_Ev d 125 71 [some (.ref 0), some (.int x1)] [] (fm_mk S) r) (k4 : x1 = 4 → am_Ev d 125 89 [some (.ref 0), some (.int x1)] [] (fm_mk S) r) (k5 : x1 = 5 → am_Ev d 125 100 [some (.ref 0), some (.int x1)] [] (fm_mk S) r) (k6 : x1 = 6 → am_Ev d 125 108 [some (.ref 0), some (.int x1)] [] (fm_mk S) r) (kd : ¬ x1 = 0 → ¬ x1 = 1 → ¬ x1 = 2 → ¬ x1 = 3 → ¬ x1 = 4 → ¬ x1 = 5 → ¬ x1 = 6 → am_Ev d 125 116 [some (.ref 0), some (.int x1)] [] (fm_mk S) r) : am_Ev d 125 0 [some (.ref 0), some (.int x1)] [] (fm_mk S) r := by
  refine fs_iloadn (j := 1) (by decide +kernel) rfl ?_
  by_cases c0 : x1 = 0
  · exact fs_sw (i := .tableswitch 115 0 6 #[43, 51, 59, 70, 88, 99, 107]) (z := 43) (by decide +kernel) rfl (by rw [c0]; rfl) (k0 c0)
  by_cases c1 : x1 = 1
  · exact fs_sw (i := .tableswitch 115 0 6 #[43, 51, 59, 70, 88, 99, 107]) (z := 43) (by decide +kernel) rfl (by rw [c1]; rfl) (k1 c1)
  by_cases c2 : x1 = 2
  · exact fs_sw (i := .tableswitch 115 0 6 #[43, 51, 59, 70, 88, 99, 107]) (z := 43) (by decide +kernel) rfl (by rw [c2]; rfl) (k2 c2)
  by_cases c3 : x1 = 3
  · exact fs_sw (i := .tableswitch 115 0 6 #[43, 51, 59, 70, 88, 99, 107]) (z := 43) (by decide +kernel) rfl (by rw [c3]; rfl) (k3 c3)
  by_cases c4 : x1 = 4
  · exact fs_sw (i := .tableswitch 115 0 6 #[43, 51, 59, 70, 88, 99, 107]) (z := 43) (by decide +kernel) rfl (by rw [c4]; rfl) (k4 c4)
  by_cases c5 : x1 = 5
  · exact fs_sw (i := .tableswitch 115 0 6 #[43, 51, 59, 70, 88, 99, 107]) (z := 43) (by decide +kernel) rfl (by rw [c5]; rfl) (k5 c5)
  by_cases c6 : x1 = 6
  · exact fs_sw (i := .tableswitch 115 0 6 #[43, 51, 59, 70, 88, 99, 107]) (z := 43) (by decide +kernel) rfl (by rw [c6]; rfl) (k6 c6)
  have e0 : ¬ (x1).toInt = 0 := fun q => c0 (Int32.toInt_inj.mp (q.trans (by decide)))
  have e1 : ¬ (x1).toInt = 1 := fun q => c1 (Int32.toInt_inj.mp (q.trans (by decide)))
  have e2 : ¬ (x1).toInt = 2 := fun q => c2 (Int32.toInt_inj.mp (q.trans (by decide)))
  have e3 : ¬ (x1).toInt = 3 := fun q => c3 (Int32.toInt_inj.mp (q.trans (by decide)))
  have e4 : ¬ (x1).toInt = 4 := fun q => c4 (Int32.toInt_inj.mp (q.trans (by decide)))
  have e5 : ¬ (x1).toInt = 5 := fun q => c5 (Int32.toInt_inj.mp (q.trans (by decide)))
  have e6 : ¬ (x1).toInt = 6 := fun q => c6 (Int32.toInt_inj.mp (q.trans (by decide)))
  exact fs_tout (dflt := 115) (lo := 0) (hi := 6) (offs := #[43, 51, 59, 70, 88, 99, 107]) (z := 43) (by decide +kernel) (by omega) (by decide) (kd c0 c1 c2 c3 c4 c5 c6)
theorem b125_44 {d : Nat} {x1 : Int32} {S : fm_S}  : am_Ev d 125 44 [some (.ref 0), some (.int x1)] [] (fm_mk S) (some (.int (S.1 1 0)), fm_mk S) := by
  refine fs_aloadn (j := 0) (by decide +kernel) rfl ?_
  refine fe_getR (idx := 10) (t := 7) (f := 0) (fk := 2) (fin := 1) (wp := 333) (x := 1) (by decide +kernel) (by decide +kernel) (by decide +kernel) (by decide +kernel) (by decide +kernel) ?_
  refine fe_getI (idx := 47) (t := 6) (f := 0) (fk := 0) (fin := 0) (wp := 157) (by decide +kernel) (by decide +kernel) (by decide +kernel) (by decide +kernel) ?_
  exact fe_retI (by decide +kernel) (by decide +kernel)
theorem b125_52 {d : Nat} {x1 : Int32} {S : fm_S}  : am_Ev d 125 52 [some (.ref 0), some (.int x1)] [] (fm_mk S) (some (.int (S.1 1 7)), fm_mk S) := by
  refine fs_aloadn (j := 0) (by decide +kernel) rfl ?_
  refine fe_getR (idx := 10) (t := 7) (f := 0) (fk := 2) (fin := 1) (wp := 333) (x := 1) (by decide +kernel) (by decide +kernel) (by decide +kernel) (by decide +kernel) (by decide +kernel) ?_
  refine fe_getI (idx := 94) (t := 6) (f := 7) (fk := 0) (fin := 0) (wp := 179) (by decide +kernel) (by decide +kernel) (by decide +kernel) (by decide +kernel) ?_
  exact fe_retI (by decide +kernel) (by decide +kernel)
theorem b125_60 {d : Nat} {x1 : Int32} {S : fm_S}  : am_Ev d 125 60 [some (.ref 0), some (.int x1)] [] (fm_mk S) (some (.int (S.1 17 0)), fm_mk S) := by
  refine fs_aloadn (j := 0) (by decide +kernel) rfl ?_
  refine fe_getR (idx := 10) (t := 7) (f := 0) (fk := 2) (fin := 1) (wp := 333) (x := 1) (by decide +kernel) (by decide +kernel) (by decide +kernel) (by decide +kernel) (by decide +kernel) ?_
  refine fe_getR (idx := 125) (t := 6) (f := 12) (fk := 2) (fin := 1) (wp := 191) (x := 17) (by decide +kernel) (by decide +kernel) (by decide +kernel) (by decide +kernel) (by decide +kernel) ?_
  refine fe_getI (idx := 139) (t := 2) (f := 0) (fk := 0) (fin := 0) (wp := 125) (by decide +kernel) (by decide +kernel) (by decide +kernel) (by decide +kernel) ?_
  exact fe_retI (by decide +kernel) (by decide +kernel)
theorem b125_71 {d : Nat} {x1 : Int32} {v : Int32} {S1 : fm_S} {S : fm_S} {r : Option Value × am_W} (hc : am_Sp d 119 [.ref 17, .int (S.1 1 0)] (fm_mk S) (some (.int v)) (fm_mk S1)) (nx : am_Ev (d + 1) 125 88 [some (.ref 0), some (.int x1)] [.int v] (fm_mk S1) r) : am_Ev (d + 1) 125 71 [some (.ref 0), some (.int x1)] [] (fm_mk S) r := by
  refine fs_aloadn (j := 0) (by decide +kernel) rfl ?_
  refine fe_getR (idx := 10) (t := 7) (f := 0) (fk := 2) (fin := 1) (wp := 333) (x := 1) (by decide +kernel) (by decide +kernel) (by decide +kernel) (by decide +kernel) (by decide +kernel) ?_
  refine fe_getR (idx := 125) (t := 6) (f := 12) (fk := 2) (fin := 1) (wp := 191) (x := 17) (by decide +kernel) (by decide +kernel) (by decide +kernel) (by decide +kernel) (by decide +kernel) ?_
  refine fs_aloadn (j := 0) (by decide +kernel) rfl ?_
  refine fe_getR (idx := 10) (t := 7) (f := 0) (fk := 2) (fin := 1) (wp := 333) (x := 1) (by decide +kernel) (by decide +kernel) (by decide +kernel) (by decide +kernel) (by decide +kernel) ?_
  refine fe_getI (idx := 47) (t := 6) (f := 0) (fk := 0) (fin := 0) (wp := 157) (by decide +kernel) (by decide +kernel) (by decide +kernel) (by decide +kernel) ?_
  exact fe_callV (idx := 249) (n := 1) (wp := 901) (q := (874, 875)) (as := [.int (S.1 1 0)]) (rs := []) (by decide +kernel) (by decide +kernel) (by decide +kernel) (by decide +kernel) rfl (Nat.le_of_ble_eq_true rfl) rfl hc nx
theorem b125_88 {d : Nat} {x1 : Int32} {sx0 : Int32} {S : fm_S}  : am_Ev d 125 88 [some (.ref 0), some (.int x1)] [.int sx0] (fm_mk S) (some (.int sx0), fm_mk S) := by
  exact fe_retI (by decide +kernel) (by decide +kernel)
theorem b125_89 {d : Nat} {x1 : Int32} {S : fm_S}  : am_Ev d 125 89 [some (.ref 0), some (.int x1)] [] (fm_mk S) (some (.int (S.1 11 0)), fm_mk S) := by
  refine fs_aloadn (j := 0) (by decide +kernel) rfl ?_
  refine fe_getR (idx := 10) (t := 7) (f := 0) (fk := 2) (fin := 1) (wp := 333) (x := 1) (by decide +kernel) (by decide +kernel) (by decide +kernel) (by decide +kernel) (by decide +kernel) ?_
  refine fe_getR (idx := 202) (t := 6) (f := 11) (fk := 2) (fin := 1) (wp := 188) (x := 11) (by decide +kernel) (by decide +kernel) (by decide +kernel) (by decide +kernel) (by decide +kernel) ?_
  refine fe_getI (idx := 206) (t := 4) (f := 0) (fk := 0) (fin := 0) (wp := 97) (by decide +kernel) (by decide +kernel) (by decide +kernel) (by decide +kernel) ?_
  exact fe_retI (by decide +kernel) (by decide +kernel)
theorem b125_100 {d : Nat} {x1 : Int32} {S : fm_S}  : am_Ev d 125 100 [some (.ref 0), some (.int x1)] [] (fm_mk S) (some (.int (S.1 1 14)), fm_mk S) := by
  refine fs_aloadn (j := 0) (by decide +kernel) rfl ?_
  refine fe_getR (idx := 10) (t := 7) (f := 0) (fk := 2) (fin := 1) (wp := 333) (x := 1) (by decide +kernel) (by decide +kernel) (by decide +kernel) (by decide +kernel) (by decide +kernel) ?_
  refine fe_getI (idx := 133) (t := 6) (f := 14) (fk := 0) (fin := 0) (wp := 194) (by decide +kernel) (by decide +kernel) (by decide +kernel) (by decide +kernel) ?_
  exact fe_retI (by decide +kernel) (by decide +kernel)
theorem b125_108 {d : Nat} {x1 : Int32} {S : fm_S}  : am_Ev d 125 108 [some (.ref 0), some (.int x1)] [] (fm_mk S) (some (.int (S.1 67 0)), fm_mk S) := by
  refine fs_aloadn (j := 0) (by decide +kernel) rfl ?_
  refine fe_getR (idx := 28) (t := 7) (f := 2) (fk := 2) (fin := 1) (wp := 335) (x := 67) (by decide +kernel) (by decide +kernel) (by decide +kernel) (by decide +kernel) (by decide +kernel) ?_
  refine fe_getI (idx := 100) (t := 5) (f := 0) (fk := 0) (fin := 0) (wp := 287) (by decide +kernel) (by decide +kernel) (by decide +kernel) (by decide +kernel) ?_
  exact fe_retI (by decide +kernel) (by decide +kernel)
theorem b125_116 {d : Nat} {x1 : Int32} {v : Int32} {S1 : fm_S} {S : fm_S} {r : Option Value × am_W} (hc : am_Sp d 13 [.ref 0] (fm_mk S) (some (.int v)) (fm_mk S1)) (nx : am_Ev (d + 1) 125 120 [some (.ref 0), some (.int x1)] [.int v] (fm_mk S1) r) : am_Ev (d + 1) 125 116 [some (.ref 0), some (.int x1)] [] (fm_mk S) r := by
  refine fs_aloadn (j := 0) (by decide +kernel) rfl ?_
  exact fe_callV (idx := 58) (n := 0) (wp := 374) (q := (376, 0)) (as := []) (rs := []) (by decide +kernel) (by decide +kernel) (by decide +kernel) (by decide +kernel) rfl (Nat.le_of_ble_eq_true rfl) rfl hc nx
theorem b125_120 {d : Nat} {x1 : Int32} {sx0 : Int32} {S : fm_S}  : am_Ev d 125 120 [some (.ref 0), some (.int x1)] [.int sx0] (fm_mk S) (some (.int sx0), fm_mk S) := by
  exact fe_retI (by decide +kernel) (by decide +kernel)
-- KitchenSiege.digest()J
theorem b126_0 {d : Nat} {o1 : Option Value} {o2 : Option Value} {o3 : Option Value} {S : fm_S} {r : Option Value × am_W} (nx : am_Ev d 126 6 [some (.ref 0), some (.long 1069), none, some (.int 0)] [] (fm_mk S) r) : am_Ev d 126 0 [some (.ref 0), o1, o2, o3] [] (fm_mk S) r := by
  refine fs_ldc2 (idx := 252) (q := 906) (v := 1069) (by decide +kernel) (by decide +kernel) ?_
  refine fs_lstoren (j := 1) (L' := [some (.ref 0), some (.long 1069), none, o3]) (by decide +kernel) (Nat.le_of_ble_eq_true rfl) rfl ?_
  refine fs_iconst (n := 0) (v := 0) (by decide +kernel) (by decide) ?_
  refine fs_istoren (j := 3) (L' := [some (.ref 0), some (.long 1069), none, some (.int 0)]) (by decide +kernel) (Nat.le_of_ble_eq_true rfl) rfl ?_
  exact nx
theorem b126_6 {d : Nat} {y1 : Int64} {x3 : Int32} {S : fm_S} {r : Option Value × am_W} (kt : 6 < x3 → am_Ev d 126 29 [some (.ref 0), some (.long y1), none, some (.int x3)] [] (fm_mk S) r) (kf : ¬ 6 < x3 → am_Ev d 126 12 [some (.ref 0), some (.long y1), none, some (.int x3)] [] (fm_mk S) r) : am_Ev d 126 6 [some (.ref 0), some (.long y1), none, some (.int x3)] [] (fm_mk S) r := by
  refine fs_iloadn (j := 3) (by decide +kernel) rfl ?_
  refine fs_bipush (n := 6) (v := 6) (by decide +kernel) (by decide) ?_
  exact fs_icgt (off := 20) (tgt := 29) (by decide +kernel) (by decide) kt kf
theorem b126_12 {d : Nat} {y1 : Int64} {x3 : Int32} {v : Int32} {S1 : fm_S} {S : fm_S} {r : Option Value × am_W} (hc : am_Sp d 125 [.ref 0, .int x3] (fm_mk S) (some (.int v)) (fm_mk S1)) (nx : am_Ev (d + 1) 126 18 [some (.ref 0), some (.long y1), none, some (.int x3)] [.int v, .long y1] (fm_mk S1) r) : am_Ev (d + 1) 126 12 [some (.ref 0), some (.long y1), none, some (.int x3)] [] (fm_mk S) r := by
  refine fs_lloadn (j := 1) (by decide +kernel) rfl ?_
  refine fs_aloadn (j := 0) (by decide +kernel) rfl ?_
  refine fs_iloadn (j := 3) (by decide +kernel) rfl ?_
  exact fe_callV (idx := 254) (n := 1) (wp := 907) (q := (898, 899)) (as := [.int x3]) (rs := [.long y1]) (by decide +kernel) (by decide +kernel) (by decide +kernel) (by decide +kernel) rfl (Nat.le_of_ble_eq_true rfl) rfl hc nx
theorem b126_18 {d : Nat} {y1 : Int64} {x3 : Int32} {sy0 : Int64} {sx1 : Int32} {v : Int64} {S1 : fm_S} {S : fm_S} {r : Option Value × am_W} (hc : am_Sp d 127 [.long sy0, .long sx1.toInt64] (fm_mk S) (some (.long v)) (fm_mk S1)) (nx : am_Ev (d + 1) 126 22 [some (.ref 0), some (.long y1), none, some (.int x3)] [.long v] (fm_mk S1) r) : am_Ev (d + 1) 126 18 [some (.ref 0), some (.long y1), none, some (.int x3)] [.int sx1, .long sy0] (fm_mk S) r := by
  refine fs_i2l (by decide +kernel) ?_
  exact fe_callS (idx := 257) (kd := 0) (n := 2) (wp := 908) (q := (909, 0)) (as := [.long sy0, .long sx1.toInt64]) (rs := []) (by decide +kernel) (by decide +kernel) (by decide +kernel) (by decide) rfl (Nat.le_of_ble_eq_true rfl) rfl hc nx
theorem b126_22 {d : Nat} {y1 : Int64} {x3 : Int32} {sy0 : Int64} {S : fm_S} {r : Option Value × am_W} (nx : am_Ev d 126 6 [some (.ref 0), some (.long sy0), none, some (.int (x3 + 1))] [] (fm_mk S) r) : am_Ev d 126 22 [some (.ref 0), some (.long y1), none, some (.int x3)] [.long sy0] (fm_mk S) r := by
  refine fs_lstoren (j := 1) (L' := [some (.ref 0), some (.long sy0), none, some (.int x3)]) (by decide +kernel) (Nat.le_of_ble_eq_true rfl) rfl ?_
  refine fs_iinc (j := 3) (n := 1) (v := 1) (L' := [some (.ref 0), some (.long sy0), none, some (.int (x3 + 1))]) (by decide +kernel) rfl (Nat.le_of_ble_eq_true rfl) (by decide) rfl ?_
  refine fs_goto (off := -20) (tgt := 6) (by decide +kernel) (by decide) ?_
  exact nx
theorem b126_29 {d : Nat} {y1 : Int64} {x3 : Int32} {v : Int64} {S1 : fm_S} {S : fm_S} {r : Option Value × am_W} (hc : am_Sp d 128 [.ref 1, .long y1] (fm_mk S) (some (.long v)) (fm_mk S1)) (nx : am_Ev (d + 1) 126 37 [some (.ref 0), some (.long y1), none, some (.int x3)] [.long v] (fm_mk S1) r) : am_Ev (d + 1) 126 29 [some (.ref 0), some (.long y1), none, some (.int x3)] [] (fm_mk S) r := by
  refine fs_aloadn (j := 0) (by decide +kernel) rfl ?_
  refine fe_getR (idx := 10) (t := 7) (f := 0) (fk := 2) (fin := 1) (wp := 333) (x := 1) (by decide +kernel) (by decide +kernel) (by decide +kernel) (by decide +kernel) (by decide +kernel) ?_
  refine fs_lloadn (j := 1) (by decide +kernel) rfl ?_
  exact fe_callV (idx := 261) (n := 1) (wp := 912) (q := (913, 914)) (as := [.long y1]) (rs := []) (by decide +kernel) (by decide +kernel) (by decide +kernel) (by decide +kernel) rfl (Nat.le_of_ble_eq_true rfl) rfl hc nx
theorem b126_37 {d : Nat} {y1 : Int64} {x3 : Int32} {sy0 : Int64} {v : Int64} {S1 : fm_S} {S : fm_S} {r : Option Value × am_W} (hc : am_Sp d 129 [.ref 1, .long sy0] (fm_mk S) (some (.long v)) (fm_mk S1)) (nx : am_Ev (d + 1) 126 46 [some (.ref 0), some (.long sy0), none, some (.int x3)] [.long v] (fm_mk S1) r) : am_Ev (d + 1) 126 37 [some (.ref 0), some (.long y1), none, some (.int x3)] [.long sy0] (fm_mk S) r := by
  refine fs_lstoren (j := 1) (L' := [some (.ref 0), some (.long sy0), none, some (.int x3)]) (by decide +kernel) (Nat.le_of_ble_eq_true rfl) rfl ?_
  refine fs_aloadn (j := 0) (by decide +kernel) rfl ?_
  refine fe_getR (idx := 10) (t := 7) (f := 0) (fk := 2) (fin := 1) (wp := 333) (x := 1) (by decide +kernel) (by decide +kernel) (by decide +kernel) (by decide +kernel) (by decide +kernel) ?_
  refine fs_lloadn (j := 1) (by decide +kernel) rfl ?_
  exact fe_callV (idx := 265) (n := 1) (wp := 917) (q := (918, 919)) (as := [.long sy0]) (rs := []) (by decide +kernel) (by decide +kernel) (by decide +kernel) (by decide +kernel) rfl (Nat.le_of_ble_eq_true rfl) rfl hc nx
theorem b126_46 {d : Nat} {y1 : Int64} {x3 : Int32} {sy0 : Int64} {v : Int64} {S1 : fm_S} {S : fm_S} {r : Option Value × am_W} (hc : am_Sp d 130 [.long sy0, .ref 6] (fm_mk S) (some (.long v)) (fm_mk S1)) (nx : am_Ev (d + 1) 126 58 [some (.ref 0), some (.long sy0), none, some (.int x3)] [.long v] (fm_mk S1) r) : am_Ev (d + 1) 126 46 [some (.ref 0), some (.long y1), none, some (.int x3)] [.long sy0] (fm_mk S) r := by
  refine fs_lstoren (j := 1) (L' := [some (.ref 0), some (.long sy0), none, some (.int x3)]) (by decide +kernel) (Nat.le_of_ble_eq_true rfl) rfl ?_
  refine fs_lloadn (j := 1) (by decide +kernel) rfl ?_
  refine fs_aloadn (j := 0) (by decide +kernel) rfl ?_
  refine fe_getR (idx := 10) (t := 7) (f := 0) (fk := 2) (fin := 1) (wp := 333) (x := 1) (by decide +kernel) (by decide +kernel) (by decide +kernel) (by decide +kernel) (by decide +kernel) ?_
  refine fe_getR (idx := 87) (t := 6) (f := 5) (fk := 2) (fin := 1) (wp := 172) (x := 6) (by decide +kernel) (by decide +kernel) (by decide +kernel) (by decide +kernel) (by decide +kernel) ?_
  exact fe_callS (idx := 268) (kd := 0) (n := 2) (wp := 922) (q := (923, 0)) (as := [.long sy0, .ref 6]) (rs := []) (by decide +kernel) (by decide +kernel) (by decide +kernel) (by decide) rfl (Nat.le_of_ble_eq_true rfl) rfl hc nx
theorem b126_58 {d : Nat} {y1 : Int64} {x3 : Int32} {sy0 : Int64} {v : Int64} {S1 : fm_S} {S : fm_S} {r : Option Value × am_W} (hc : am_Sp d 130 [.long sy0, .ref 7] (fm_mk S) (some (.long v)) (fm_mk S1)) (nx : am_Ev (d + 1) 126 70 [some (.ref 0), some (.long sy0), none, some (.int x3)] [.long v] (fm_mk S1) r) : am_Ev (d + 1) 126 58 [some (.ref 0), some (.long y1), none, some (.int x3)] [.long sy0] (fm_mk S) r := by
  refine fs_lstoren (j := 1) (L' := [some (.ref 0), some (.long sy0), none, some (.int x3)]) (by decide +kernel) (Nat.le_of_ble_eq_true rfl) rfl ?_
  refine fs_lloadn (j := 1) (by decide +kernel) rfl ?_
  refine fs_aloadn (j := 0) (by decide +kernel) rfl ?_
  refine fe_getR (idx := 10) (t := 7) (f := 0) (fk := 2) (fin := 1) (wp := 333) (x := 1) (by decide +kernel) (by decide +kernel) (by decide +kernel) (by decide +kernel) (by decide +kernel) ?_
  refine fe_getR (idx := 91) (t := 6) (f := 6) (fk := 2) (fin := 1) (wp := 175) (x := 7) (by decide +kernel) (by decide +kernel) (by decide +kernel) (by decide +kernel) (by decide +kernel) ?_
  exact fe_callS (idx := 268) (kd := 0) (n := 2) (wp := 922) (q := (923, 0)) (as := [.long sy0, .ref 7]) (rs := []) (by decide +kernel) (by decide +kernel) (by decide +kernel) (by decide) rfl (Nat.le_of_ble_eq_true rfl) rfl hc nx
theorem b126_70 {d : Nat} {y1 : Int64} {x3 : Int32} {sy0 : Int64} {v : Int64} {S1 : fm_S} {S : fm_S} {r : Option Value × am_W} (hc : am_Sp d 131 [.ref 1, .long sy0] (fm_mk S) (some (.long v)) (fm_mk S1)) (nx : am_Ev (d + 1) 126 79 [some (.ref 0), some (.long sy0), none, some (.int x3)] [.long v] (fm_mk S1) r) : am_Ev (d + 1) 126 70 [some (.ref 0), some (.long y1), none, some (.int x3)] [.long sy0] (fm_mk S) r := by
  refine fs_lstoren (j := 1) (L' := [some (.ref 0), some (.long sy0), none, some (.int x3)]) (by decide +kernel) (Nat.le_of_ble_eq_true rfl) rfl ?_
  refine fs_aloadn (j := 0) (by decide +kernel) rfl ?_
  refine fe_getR (idx := 10) (t := 7) (f := 0) (fk := 2) (fin := 1) (wp := 333) (x := 1) (by decide +kernel) (by decide +kernel) (by decide +kernel) (by decide +kernel) (by decide +kernel) ?_
  refine fs_lloadn (j := 1) (by decide +kernel) rfl ?_
  exact fe_callV (idx := 272) (n := 1) (wp := 925) (q := (926, 927)) (as := [.long sy0]) (rs := []) (by decide +kernel) (by decide +kernel) (by decide +kernel) (by decide +kernel) rfl (Nat.le_of_ble_eq_true rfl) rfl hc nx
theorem b126_79 {d : Nat} {y1 : Int64} {x3 : Int32} {sy0 : Int64} {v : Int64} {S1 : fm_S} {S : fm_S} {r : Option Value × am_W} (hc : am_Sp d 132 [.ref 11, .long sy0] (fm_mk S) (some (.long v)) (fm_mk S1)) (nx : am_Ev (d + 1) 126 91 [some (.ref 0), some (.long sy0), none, some (.int x3)] [.long v] (fm_mk S1) r) : am_Ev (d + 1) 126 79 [some (.ref 0), some (.long y1), none, some (.int x3)] [.long sy0] (fm_mk S) r := by
  refine fs_lstoren (j := 1) (L' := [some (.ref 0), some (.long sy0), none, some (.int x3)]) (by decide +kernel) (Nat.le_of_ble_eq_true rfl) rfl ?_
  refine fs_aloadn (j := 0) (by decide +kernel) rfl ?_
  refine fe_getR (idx := 10) (t := 7) (f := 0) (fk := 2) (fin := 1) (wp := 333) (x := 1) (by decide +kernel) (by decide +kernel) (by decide +kernel) (by decide +kernel) (by decide +kernel) ?_
  refine fe_getR (idx := 202) (t := 6) (f := 11) (fk := 2) (fin := 1) (wp := 188) (x := 11) (by decide +kernel) (by decide +kernel) (by decide +kernel) (by decide +kernel) (by decide +kernel) ?_
  refine fs_lloadn (j := 1) (by decide +kernel) rfl ?_
  exact fe_callV (idx := 275) (n := 1) (wp := 929) (q := (930, 931)) (as := [.long sy0]) (rs := []) (by decide +kernel) (by decide +kernel) (by decide +kernel) (by decide +kernel) rfl (Nat.le_of_ble_eq_true rfl) rfl hc nx
theorem b126_91 {d : Nat} {y1 : Int64} {x3 : Int32} {sy0 : Int64} {v : Int64} {S1 : fm_S} {S : fm_S} {r : Option Value × am_W} (hc : am_Sp d 127 [.long sy0, .long (S.2.1 122 0)] (fm_mk S) (some (.long v)) (fm_mk S1)) (nx : am_Ev (d + 1) 126 103 [some (.ref 0), some (.long sy0), none, some (.int x3)] [.long v] (fm_mk S1) r) : am_Ev (d + 1) 126 91 [some (.ref 0), some (.long y1), none, some (.int x3)] [.long sy0] (fm_mk S) r := by
  refine fs_lstoren (j := 1) (L' := [some (.ref 0), some (.long sy0), none, some (.int x3)]) (by decide +kernel) (Nat.le_of_ble_eq_true rfl) rfl ?_
  refine fs_lloadn (j := 1) (by decide +kernel) rfl ?_
  refine fs_aloadn (j := 0) (by decide +kernel) rfl ?_
  refine fe_getR (idx := 35) (t := 7) (f := 3) (fk := 2) (fin := 1) (wp := 336) (x := 122) (by decide +kernel) (by decide +kernel) (by decide +kernel) (by decide +kernel) (by decide +kernel) ?_
  refine fe_getL (idx := 230) (t := 3) (f := 0) (fk := 1) (fin := 0) (wp := 324) (by decide +kernel) (by decide +kernel) (by decide +kernel) (by decide +kernel) ?_
  exact fe_callS (idx := 257) (kd := 0) (n := 2) (wp := 908) (q := (909, 0)) (as := [.long sy0, .long (S.2.1 122 0)]) (rs := []) (by decide +kernel) (by decide +kernel) (by decide +kernel) (by decide) rfl (Nat.le_of_ble_eq_true rfl) rfl hc nx
theorem b126_103 {d : Nat} {y1 : Int64} {x3 : Int32} {sy0 : Int64} {v : Int64} {S1 : fm_S} {S : fm_S} {r : Option Value × am_W} (hc : am_Sp d 127 [.long sy0, .long (S.2.1 122 1)] (fm_mk S) (some (.long v)) (fm_mk S1)) (nx : am_Ev (d + 1) 126 113 [some (.ref 0), some (.long y1), none, some (.int x3)] [.long v] (fm_mk S1) r) : am_Ev (d + 1) 126 103 [some (.ref 0), some (.long y1), none, some (.int x3)] [.long sy0] (fm_mk S) r := by
  refine fs_aloadn (j := 0) (by decide +kernel) rfl ?_
  refine fe_getR (idx := 35) (t := 7) (f := 3) (fk := 2) (fin := 1) (wp := 336) (x := 122) (by decide +kernel) (by decide +kernel) (by decide +kernel) (by decide +kernel) (by decide +kernel) ?_
  refine fe_getL (idx := 234) (t := 3) (f := 1) (fk := 1) (fin := 0) (wp := 326) (by decide +kernel) (by decide +kernel) (by decide +kernel) (by decide +kernel) ?_
  exact fe_callS (idx := 257) (kd := 0) (n := 2) (wp := 908) (q := (909, 0)) (as := [.long sy0, .long (S.2.1 122 1)]) (rs := []) (by decide +kernel) (by decide +kernel) (by decide +kernel) (by decide) rfl (Nat.le_of_ble_eq_true rfl) rfl hc nx
theorem b126_113 {d : Nat} {y1 : Int64} {x3 : Int32} {sy0 : Int64} {S : fm_S}  : am_Ev d 126 113 [some (.ref 0), some (.long y1), none, some (.int x3)] [.long sy0] (fm_mk S) (some (.long sy0), fm_mk S) := by
  exact fe_retL (by decide +kernel) (by decide +kernel)
-- KitchenSiege.mix(JJ)J
theorem b127_0 {d : Nat} {y0 : Int64} {y2 : Int64} {S : fm_S}  : am_Ev d 127 0 [some (.long y0), none, some (.long y2), none] [] (fm_mk S) (some (.long ((31 * y0) + y2)), fm_mk S) := by
  refine fs_ldc2 (idx := 278) (q := 911) (v := 31) (by decide +kernel) (by decide +kernel) ?_
  refine fs_lloadn (j := 0) (by decide +kernel) rfl ?_
  refine fs_lmul (by decide +kernel) ?_
  refine fs_lloadn (j := 2) (by decide +kernel) rfl ?_
  refine fs_ladd (by decide +kernel) ?_
  exact fe_retL (by decide +kernel) (by decide +kernel)
-- KitchenSiege.mixAll(J[I)J
theorem b130_0 {d : Nat} {y0 : Int64} {a2 : Nat} {o3 : Option Value} {S : fm_S} {r : Option Value × am_W} (nx : am_Ev d 130 2 [some (.long y0), none, some (.ref a2), some (.int 0)] [] (fm_mk S) r) : am_Ev d 130 0 [some (.long y0), none, some (.ref a2), o3] [] (fm_mk S) r := by
  refine fs_iconst (n := 0) (v := 0) (by decide +kernel) (by decide) ?_
  refine fs_istoren (j := 3) (L' := [some (.long y0), none, some (.ref a2), some (.int 0)]) (by decide +kernel) (Nat.le_of_ble_eq_true rfl) rfl ?_
  exact nx
theorem b130_2 {d : Nat} {y0 : Int64} {a2 : Nat} {x3 : Int32} {S : fm_S} {r : Option Value × am_W} (h_a2 : fm_tg a2 = 100) (kt : (Int32.ofNat (fm_ln a2)) ≤ x3 → am_Ev d 130 23 [some (.long y0), none, some (.ref a2), some (.int x3)] [] (fm_mk S) r) (kf : ¬ (Int32.ofNat (fm_ln a2)) ≤ x3 → am_Ev d 130 8 [some (.long y0), none, some (.ref a2), some (.int x3)] [] (fm_mk S) r) : am_Ev d 130 2 [some (.long y0), none, some (.ref a2), some (.int x3)] [] (fm_mk S) r := by
  refine fs_iloadn (j := 3) (by decide +kernel) rfl ?_
  refine fs_aloadn (j := 2) (by decide +kernel) rfl ?_
  refine fx_alen (len := fm_ln a2) (v := Int32.ofNat (fm_ln a2)) (by decide +kernel) (by rw [h_a2]; decide) rfl rfl ?_
  exact fs_icge (off := 18) (tgt := 23) (by decide +kernel) (by decide) kt kf
theorem b130_8 {d : Nat} {y0 : Int64} {a2 : Nat} {x3 : Int32} {v : Int64} {S1 : fm_S} {S : fm_S} {r : Option Value × am_W} (h_a2 : fm_tg a2 = 100) (hi1 : vp_in x3 (fm_ln a2)) (hc : am_Sp d 127 [.long y0, .long ((S.1 a2 x3.toNatClampNeg).toInt64)] (fm_mk S) (some (.long v)) (fm_mk S1)) (nx : am_Ev (d + 1) 130 16 [some (.long y0), none, some (.ref a2), some (.int x3)] [.long v] (fm_mk S1) r) : am_Ev (d + 1) 130 8 [some (.long y0), none, some (.ref a2), some (.int x3)] [] (fm_mk S) r := by
  refine fs_lloadn (j := 0) (by decide +kernel) rfl ?_
  refine fs_aloadn (j := 2) (by decide +kernel) rfl ?_
  refine fs_iloadn (j := 3) (by decide +kernel) rfl ?_
  refine fx_iald (n := x3.toNatClampNeg) (len := fm_ln a2) (by decide +kernel) h_a2 rfl hi1 rfl ?_
  refine fs_i2l (by decide +kernel) ?_
  exact fe_callS (idx := 257) (kd := 0) (n := 2) (wp := 908) (q := (909, 0)) (as := [.long y0, .long ((S.1 a2 x3.toNatClampNeg).toInt64)]) (rs := []) (by decide +kernel) (by decide +kernel) (by decide +kernel) (by decide) rfl (Nat.le_of_ble_eq_true rfl) rfl hc nx
theorem b130_16 {d : Nat} {y0 : Int64} {a2 : Nat} {x3 : Int32} {sy0 : Int64} {S : fm_S} {r : Option Value × am_W} (nx : am_Ev d 130 2 [some (.long sy0), none, some (.ref a2), some (.int (x3 + 1))] [] (fm_mk S) r) : am_Ev d 130 16 [some (.long y0), none, some (.ref a2), some (.int x3)] [.long sy0] (fm_mk S) r := by
  refine fs_lstoren (j := 0) (L' := [some (.long sy0), none, some (.ref a2), some (.int x3)]) (by decide +kernel) (Nat.le_of_ble_eq_true rfl) rfl ?_
  refine fs_iinc (j := 3) (n := 1) (v := 1) (L' := [some (.long sy0), none, some (.ref a2), some (.int (x3 + 1))]) (by decide +kernel) rfl (Nat.le_of_ble_eq_true rfl) (by decide) rfl ?_
  refine fs_goto (off := -18) (tgt := 2) (by decide +kernel) (by decide) ?_
  exact nx
theorem b130_23 {d : Nat} {y0 : Int64} {a2 : Nat} {x3 : Int32} {S : fm_S}  : am_Ev d 130 23 [some (.long y0), none, some (.ref a2), some (.int x3)] [] (fm_mk S) (some (.long y0), fm_mk S) := by
  refine fs_lloadn (j := 0) (by decide +kernel) rfl ?_
  exact fe_retL (by decide +kernel) (by decide +kernel)
