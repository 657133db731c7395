/-! basic blocks: printed by wip/whole/gen13.py -/
-- KitchenSiege$Days.begin()V
theorem b_Days_begin_0 {d : Nat} {a0 : Nat} {o1 : Option Value} {S : fm_S} {r : Option Value × am_W} (h_a0 : fm_tg a0 = 2) (nx : am_Ev d k_Days_begin 7 [some (.ref a0), some (.int 0)] [] (fm_mk (fm_wI S a0 0 0)) r) : am_Ev d k_Days_begin 0 [some (.ref a0), o1] [] (fm_mk S) r := by
  have D_a0 := fm_days h_a0
  refine fs_aloadn (j := 0) (by decide +kernel) rfl ?_
  refine fs_iconst (n := 0) (v := 0) (by decide +kernel) (by decide) ?_
  refine fe_putI (idx := 21) (t := 2) (f := 0) (wp := 123) (by decide +kernel) (by decide +kernel) h_a0 (by decide +kernel) ?_
  refine fs_iconst (n := 0) (v := 0) (by decide +kernel) (by decide) ?_
  refine fs_istoren (j := 1) (L' := [some (.ref a0), some (.int 0)]) (by decide +kernel) (Nat.le_of_ble_eq_true rfl) rfl ?_
  exact nx
theorem b_Days_begin_7 {d : Nat} {a0 : Nat} {x1 : Int32} {S : fm_S} {r : Option Value × am_W} (kt : 8 ≤ x1 → am_Ev d k_Days_begin 40 [some (.ref a0), some (.int x1)] [] (fm_mk S) r) (kf : ¬ 8 ≤ x1 → am_Ev d k_Days_begin 13 [some (.ref a0), some (.int x1)] [] (fm_mk S) r) : am_Ev d k_Days_begin 7 [some (.ref a0), some (.int x1)] [] (fm_mk S) r := by
  refine fs_iloadn (j := 1) (by decide +kernel) rfl ?_
  refine fs_bipush (n := 8) (v := 8) (by decide +kernel) (by decide) ?_
  exact fs_icge (off := 30) (tgt := 40) (by decide +kernel) (by decide) kt kf
theorem b_Days_begin_13 {d : Nat} {a0 : Nat} {x1 : Int32} {S : fm_S} {r : Option Value × am_W} (h_a0 : fm_tg a0 = 2) (hi1 : vp_in x1 8) (nx : am_Ev d k_Days_begin 7 [some (.ref a0), some (.int (x1 + 1))] [] (fm_mk (fm_wI (fm_wI (fm_wI S (a0 + 1) x1.toNatClampNeg (-1)) (a0 + 2) x1.toNatClampNeg (-1)) (a0 + 3) x1.toNatClampNeg 0)) r) : am_Ev d k_Days_begin 13 [some (.ref a0), some (.int x1)] [] (fm_mk S) r := by
  have D_a0 := fm_days h_a0
  refine fs_aloadn (j := 0) (by decide +kernel) rfl ?_
  refine fe_getR (idx := 9) (t := 2) (f := 1) (fk := 2) (fin := 1) (wp := 126) (x := a0 + 1) (by decide +kernel) (by decide +kernel) h_a0 (by decide +kernel) (fm_objrf h_a0 (by decide) (by decide +kernel) (by decide +kernel)) ?_
  refine fs_iloadn (j := 1) (by decide +kernel) rfl ?_
  refine fs_iconst (n := -1) (v := (-1)) (by decide +kernel) (by decide) ?_
  refine fx_iast (n := x1.toNatClampNeg) (len := 8) (by decide +kernel) D_a0.1 D_a0.2.1 hi1 rfl ?_
  refine fs_aloadn (j := 0) (by decide +kernel) rfl ?_
  refine fe_getR (idx := 15) (t := 2) (f := 2) (fk := 2) (fin := 1) (wp := 130) (x := a0 + 2) (by decide +kernel) (by decide +kernel) h_a0 (by decide +kernel) (fm_objrf h_a0 (by decide) (by decide +kernel) (by decide +kernel)) ?_
  refine fs_iloadn (j := 1) (by decide +kernel) rfl ?_
  refine fs_iconst (n := -1) (v := (-1)) (by decide +kernel) (by decide) ?_
  refine fx_iast (n := x1.toNatClampNeg) (len := 8) (by decide +kernel) D_a0.2.2.1 D_a0.2.2.2.1 hi1 rfl ?_
  refine fs_aloadn (j := 0) (by decide +kernel) rfl ?_
  refine fe_getR (idx := 18) (t := 2) (f := 3) (fk := 2) (fin := 1) (wp := 134) (x := a0 + 3) (by decide +kernel) (by decide +kernel) h_a0 (by decide +kernel) (fm_objrf h_a0 (by decide) (by decide +kernel) (by decide +kernel)) ?_
  refine fs_iloadn (j := 1) (by decide +kernel) rfl ?_
  refine fs_iconst (n := 0) (v := 0) (by decide +kernel) (by decide) ?_
  refine fx_iast (n := x1.toNatClampNeg) (len := 8) (by decide +kernel) D_a0.2.2.2.2.1 D_a0.2.2.2.2.2 hi1 rfl ?_
  refine fs_iinc (j := 1) (n := 1) (v := 1) (L' := [some (.ref a0), some (.int (x1 + 1))]) (by decide +kernel) rfl (Nat.le_of_ble_eq_true rfl) (by decide) rfl ?_
  refine fs_goto (off := -30) (tgt := 7) (by decide +kernel) (by decide) ?_
  exact nx
theorem b_Days_begin_40 {d : Nat} {a0 : Nat} {x1 : Int32} {S : fm_S}  : am_Ev d k_Days_begin 40 [some (.ref a0), some (.int x1)] [] (fm_mk S) (none, fm_mk S) := by
  exact fe_retV (by decide +kernel) (by decide +kernel)
-- KitchenSiege$Notes.copy(LKitchenSiege$Notes;)V
theorem b_Notes_copy_0 {d : Nat} {a0 : Nat} {a1 : Nat} {S : fm_S}  (h_a1 : fm_tg a1 = 4) (h_a0 : fm_tg a0 = 4) : am_Ev (d + 1) k_Notes_copy 0 [some (.ref a0), some (.ref a1)] [] (fm_mk S) (none, fm_mk (fm_cp (fm_cp (fm_cp (fm_cp (fm_cp (fm_wI S a0 0 (S.1 a1 0)) (a1 + 1) 0 (a0 + 1) 0 6) (a1 + 2) 0 (a0 + 2) 0 6) (a1 + 3) 0 (a0 + 3) 0 6) (a1 + 4) 0 (a0 + 4) 0 6) (a1 + 5) 0 (a0 + 5) 0 6)) := by
  have N_a1 := fm_notes h_a1
  have N_a0 := fm_notes h_a0
  refine fs_aloadn (j := 0) (by decide +kernel) rfl ?_
  refine fs_aloadn (j := 1) (by decide +kernel) rfl ?_
  refine fe_getI (idx := 27) (t := 4) (f := 0) (fk := 0) (fin := 0) (wp := 95) (by decide +kernel) (by decide +kernel) h_a1 (by decide +kernel) ?_
  refine fe_putI (idx := 27) (t := 4) (f := 0) (wp := 95) (by decide +kernel) (by decide +kernel) h_a0 (by decide +kernel) ?_
  refine fs_aloadn (j := 1) (by decide +kernel) rfl ?_
  refine fe_getR (idx := 9) (t := 4) (f := 1) (fk := 2) (fin := 1) (wp := 98) (x := a1 + 1) (by decide +kernel) (by decide +kernel) h_a1 (by decide +kernel) (fm_objrf h_a1 (by decide) (by decide +kernel) (by decide +kernel)) ?_
  refine fs_iconst (n := 0) (v := 0) (by decide +kernel) (by decide) ?_
  refine fs_aloadn (j := 0) (by decide +kernel) rfl ?_
  refine fe_getR (idx := 9) (t := 4) (f := 1) (fk := 2) (fin := 1) (wp := 98) (x := a0 + 1) (by decide +kernel) (by decide +kernel) h_a0 (by decide +kernel) (fm_objrf h_a0 (by decide) (by decide +kernel) (by decide +kernel)) ?_
  refine fs_iconst (n := 0) (v := 0) (by decide +kernel) (by decide) ?_
  refine fs_bipush (n := 6) (v := 6) (by decide +kernel) (by decide) ?_
  refine fx_copy (idx := 31) (q := 571) (l0 := 6) (l1 := 6) (s0 := 0) (d0 := 0) (n0 := 6) (by decide +kernel) (by decide +kernel) N_a1.1 N_a0.1 N_a1.2.1 N_a0.2.1 (by decide) (by decide) (by decide) (by decide) (Nat.le_of_ble_eq_true rfl) ?_
  refine fs_aloadn (j := 1) (by decide +kernel) rfl ?_
  refine fe_getR (idx := 15) (t := 4) (f := 2) (fk := 2) (fin := 1) (wp := 99) (x := a1 + 2) (by decide +kernel) (by decide +kernel) h_a1 (by decide +kernel) (fm_objrf h_a1 (by decide) (by decide +kernel) (by decide +kernel)) ?_
  refine fs_iconst (n := 0) (v := 0) (by decide +kernel) (by decide) ?_
  refine fs_aloadn (j := 0) (by decide +kernel) rfl ?_
  refine fe_getR (idx := 15) (t := 4) (f := 2) (fk := 2) (fin := 1) (wp := 99) (x := a0 + 2) (by decide +kernel) (by decide +kernel) h_a0 (by decide +kernel) (fm_objrf h_a0 (by decide) (by decide +kernel) (by decide +kernel)) ?_
  refine fs_iconst (n := 0) (v := 0) (by decide +kernel) (by decide) ?_
  refine fs_bipush (n := 6) (v := 6) (by decide +kernel) (by decide) ?_
  refine fx_copy (idx := 31) (q := 571) (l0 := 6) (l1 := 6) (s0 := 0) (d0 := 0) (n0 := 6) (by decide +kernel) (by decide +kernel) N_a1.2.2.1 N_a0.2.2.1 N_a1.2.2.2.1 N_a0.2.2.2.1 (by decide) (by decide) (by decide) (by decide) (Nat.le_of_ble_eq_true rfl) ?_
  refine fs_aloadn (j := 1) (by decide +kernel) rfl ?_
  refine fe_getR (idx := 18) (t := 4) (f := 3) (fk := 2) (fin := 1) (wp := 100) (x := a1 + 3) (by decide +kernel) (by decide +kernel) h_a1 (by decide +kernel) (fm_objrf h_a1 (by decide) (by decide +kernel) (by decide +kernel)) ?_
  refine fs_iconst (n := 0) (v := 0) (by decide +kernel) (by decide) ?_
  refine fs_aloadn (j := 0) (by decide +kernel) rfl ?_
  refine fe_getR (idx := 18) (t := 4) (f := 3) (fk := 2) (fin := 1) (wp := 100) (x := a0 + 3) (by decide +kernel) (by decide +kernel) h_a0 (by decide +kernel) (fm_objrf h_a0 (by decide) (by decide +kernel) (by decide +kernel)) ?_
  refine fs_iconst (n := 0) (v := 0) (by decide +kernel) (by decide) ?_
  refine fs_bipush (n := 6) (v := 6) (by decide +kernel) (by decide) ?_
  refine fx_copy (idx := 31) (q := 571) (l0 := 6) (l1 := 6) (s0 := 0) (d0 := 0) (n0 := 6) (by decide +kernel) (by decide +kernel) N_a1.2.2.2.2.1 N_a0.2.2.2.2.1 N_a1.2.2.2.2.2.1 N_a0.2.2.2.2.2.1 (by decide) (by decide) (by decide) (by decide) (Nat.le_of_ble_eq_true rfl) ?_
  refine fs_aloadn (j := 1) (by decide +kernel) rfl ?_
  refine fe_getR (idx := 21) (t := 4) (f := 4) (fk := 2) (fin := 1) (wp := 101) (x := a1 + 4) (by decide +kernel) (by decide +kernel) h_a1 (by decide +kernel) (fm_objrf h_a1 (by decide) (by decide +kernel) (by decide +kernel)) ?_
  refine fs_iconst (n := 0) (v := 0) (by decide +kernel) (by decide) ?_
  refine fs_aloadn (j := 0) (by decide +kernel) rfl ?_
  refine fe_getR (idx := 21) (t := 4) (f := 4) (fk := 2) (fin := 1) (wp := 101) (x := a0 + 4) (by decide +kernel) (by decide +kernel) h_a0 (by decide +kernel) (fm_objrf h_a0 (by decide) (by decide +kernel) (by decide +kernel)) ?_
  refine fs_iconst (n := 0) (v := 0) (by decide +kernel) (by decide) ?_
  refine fs_bipush (n := 6) (v := 6) (by decide +kernel) (by decide) ?_
  refine fx_copy (idx := 31) (q := 571) (l0 := 6) (l1 := 6) (s0 := 0) (d0 := 0) (n0 := 6) (by decide +kernel) (by decide +kernel) N_a1.2.2.2.2.2.2.1 N_a0.2.2.2.2.2.2.1 N_a1.2.2.2.2.2.2.2.1 N_a0.2.2.2.2.2.2.2.1 (by decide) (by decide) (by decide) (by decide) (Nat.le_of_ble_eq_true rfl) ?_
  refine fs_aloadn (j := 1) (by decide +kernel) rfl ?_
  refine fe_getR (idx := 24) (t := 4) (f := 5) (fk := 2) (fin := 1) (wp := 102) (x := a1 + 5) (by decide +kernel) (by decide +kernel) h_a1 (by decide +kernel) (fm_objrf h_a1 (by decide) (by decide +kernel) (by decide +kernel)) ?_
  refine fs_iconst (n := 0) (v := 0) (by decide +kernel) (by decide) ?_
  refine fs_aloadn (j := 0) (by decide +kernel) rfl ?_
  refine fe_getR (idx := 24) (t := 4) (f := 5) (fk := 2) (fin := 1) (wp := 102) (x := a0 + 5) (by decide +kernel) (by decide +kernel) h_a0 (by decide +kernel) (fm_objrf h_a0 (by decide) (by decide +kernel) (by decide +kernel)) ?_
  refine fs_iconst (n := 0) (v := 0) (by decide +kernel) (by decide) ?_
  refine fs_bipush (n := 6) (v := 6) (by decide +kernel) (by decide) ?_
  refine fx_copy (idx := 31) (q := 571) (l0 := 6) (l1 := 6) (s0 := 0) (d0 := 0) (n0 := 6) (by decide +kernel) (by decide +kernel) N_a1.2.2.2.2.2.2.2.2.1 N_a0.2.2.2.2.2.2.2.2.1 N_a1.2.2.2.2.2.2.2.2.2 N_a0.2.2.2.2.2.2.2.2.2 (by decide) (by decide) (by decide) (by decide) (Nat.le_of_ble_eq_true rfl) ?_
  exact fe_retV (by decide +kernel) (by decide +kernel)
-- KitchenSiege$Days.copy(LKitchenSiege$Days;)V
theorem b_Days_copy_0 {d : Nat} {a0 : Nat} {a1 : Nat} {S : fm_S}  (h_a1 : fm_tg a1 = 2) (h_a0 : fm_tg a0 = 2) : am_Ev (d + 1) k_Days_copy 0 [some (.ref a0), some (.ref a1)] [] (fm_mk S) (none, fm_mk (fm_cp (fm_cp (fm_cp (fm_wI S a0 0 (S.1 a1 0)) (a1 + 1) 0 (a0 + 1) 0 8) (a1 + 2) 0 (a0 + 2) 0 8) (a1 + 3) 0 (a0 + 3) 0 8)) := by
  have D_a1 := fm_days h_a1
  have D_a0 := fm_days h_a0
  refine fs_aloadn (j := 0) (by decide +kernel) rfl ?_
  refine fs_aloadn (j := 1) (by decide +kernel) rfl ?_
  refine fe_getI (idx := 21) (t := 2) (f := 0) (fk := 0) (fin := 0) (wp := 123) (by decide +kernel) (by decide +kernel) h_a1 (by decide +kernel) ?_
  refine fe_putI (idx := 21) (t := 2) (f := 0) (wp := 123) (by decide +kernel) (by decide +kernel) h_a0 (by decide +kernel) ?_
  refine fs_aloadn (j := 1) (by decide +kernel) rfl ?_
  refine fe_getR (idx := 9) (t := 2) (f := 1) (fk := 2) (fin := 1) (wp := 126) (x := a1 + 1) (by decide +kernel) (by decide +kernel) h_a1 (by decide +kernel) (fm_objrf h_a1 (by decide) (by decide +kernel) (by decide +kernel)) ?_
  refine fs_iconst (n := 0) (v := 0) (by decide +kernel) (by decide) ?_
  refine fs_aloadn (j := 0) (by decide +kernel) rfl ?_
  refine fe_getR (idx := 9) (t := 2) (f := 1) (fk := 2) (fin := 1) (wp := 126) (x := a0 + 1) (by decide +kernel) (by decide +kernel) h_a0 (by decide +kernel) (fm_objrf h_a0 (by decide) (by decide +kernel) (by decide +kernel)) ?_
  refine fs_iconst (n := 0) (v := 0) (by decide +kernel) (by decide) ?_
  refine fs_bipush (n := 8) (v := 8) (by decide +kernel) (by decide) ?_
  refine fx_copy (idx := 25) (q := 576) (l0 := 8) (l1 := 8) (s0 := 0) (d0 := 0) (n0 := 8) (by decide +kernel) (by decide +kernel) D_a1.1 D_a0.1 D_a1.2.1 D_a0.2.1 (by decide) (by decide) (by decide) (by decide) (Nat.le_of_ble_eq_true rfl) ?_
  refine fs_aloadn (j := 1) (by decide +kernel) rfl ?_
  refine fe_getR (idx := 15) (t := 2) (f := 2) (fk := 2) (fin := 1) (wp := 130) (x := a1 + 2) (by decide +kernel) (by decide +kernel) h_a1 (by decide +kernel) (fm_objrf h_a1 (by decide) (by decide +kernel) (by decide +kernel)) ?_
  refine fs_iconst (n := 0) (v := 0) (by decide +kernel) (by decide) ?_
  refine fs_aloadn (j := 0) (by decide +kernel) rfl ?_
  refine fe_getR (idx := 15) (t := 2) (f := 2) (fk := 2) (fin := 1) (wp := 130) (x := a0 + 2) (by decide +kernel) (by decide +kernel) h_a0 (by decide +kernel) (fm_objrf h_a0 (by decide) (by decide +kernel) (by decide +kernel)) ?_
  refine fs_iconst (n := 0) (v := 0) (by decide +kernel) (by decide) ?_
  refine fs_bipush (n := 8) (v := 8) (by decide +kernel) (by decide) ?_
  refine fx_copy (idx := 25) (q := 576) (l0 := 8) (l1 := 8) (s0 := 0) (d0 := 0) (n0 := 8) (by decide +kernel) (by decide +kernel) D_a1.2.2.1 D_a0.2.2.1 D_a1.2.2.2.1 D_a0.2.2.2.1 (by decide) (by decide) (by decide) (by decide) (Nat.le_of_ble_eq_true rfl) ?_
  refine fs_aloadn (j := 1) (by decide +kernel) rfl ?_
  refine fe_getR (idx := 18) (t := 2) (f := 3) (fk := 2) (fin := 1) (wp := 134) (x := a1 + 3) (by decide +kernel) (by decide +kernel) h_a1 (by decide +kernel) (fm_objrf h_a1 (by decide) (by decide +kernel) (by decide +kernel)) ?_
  refine fs_iconst (n := 0) (v := 0) (by decide +kernel) (by decide) ?_
  refine fs_aloadn (j := 0) (by decide +kernel) rfl ?_
  refine fe_getR (idx := 18) (t := 2) (f := 3) (fk := 2) (fin := 1) (wp := 134) (x := a0 + 3) (by decide +kernel) (by decide +kernel) h_a0 (by decide +kernel) (fm_objrf h_a0 (by decide) (by decide +kernel) (by decide +kernel)) ?_
  refine fs_iconst (n := 0) (v := 0) (by decide +kernel) (by decide) ?_
  refine fs_bipush (n := 8) (v := 8) (by decide +kernel) (by decide) ?_
  refine fx_copy (idx := 25) (q := 576) (l0 := 8) (l1 := 8) (s0 := 0) (d0 := 0) (n0 := 8) (by decide +kernel) (by decide +kernel) D_a1.2.2.2.2.1 D_a0.2.2.2.2.1 D_a1.2.2.2.2.2 D_a0.2.2.2.2.2 (by decide) (by decide) (by decide) (by decide) (Nat.le_of_ble_eq_true rfl) ?_
  exact fe_retV (by decide +kernel) (by decide +kernel)
-- java/lang/Math.floorMod(II)I
theorem b_Math_floorMod_0 {d : Nat} {x0 : Int32} {x1 : Int32} {o2 : Option Value} {S : fm_S} {r : Option Value × am_W} (hd0 : ¬ x1 = 0) (kt : 0 ≤ (x0 ^^^ x1) → am_Ev d k_Math_floorMod 18 [some (.int x0), some (.int x1), some (.int (x0 - x0 / x1 * x1))] [] (fm_mk S) r) (kf : ¬ 0 ≤ (x0 ^^^ x1) → am_Ev d k_Math_floorMod 10 [some (.int x0), some (.int x1), some (.int (x0 - x0 / x1 * x1))] [] (fm_mk S) r) : am_Ev d k_Math_floorMod 0 [some (.int x0), some (.int x1), o2] [] (fm_mk S) r := by
  refine fs_iloadn (j := 0) (by decide +kernel) rfl ?_
  refine fs_iloadn (j := 1) (by decide +kernel) rfl ?_
  refine fe_irem (by decide +kernel) hd0 ?_
  refine fs_istoren (j := 2) (L' := [some (.int x0), some (.int x1), some (.int (x0 - x0 / x1 * x1))]) (by decide +kernel) (Nat.le_of_ble_eq_true rfl) rfl ?_
  refine fs_iloadn (j := 0) (by decide +kernel) rfl ?_
  refine fs_iloadn (j := 1) (by decide +kernel) rfl ?_
  refine fs_ixor (by decide +kernel) ?_
  exact fs_ifge (off := 11) (tgt := 18) (by decide +kernel) (by decide) kt kf
theorem b_Math_floorMod_10 {d : Nat} {x0 : Int32} {x1 : Int32} {x2 : Int32} {S : fm_S} {r : Option Value × am_W} (kt : x2 = 0 → am_Ev d k_Math_floorMod 18 [some (.int x0), some (.int x1), some (.int x2)] [] (fm_mk S) r) (kf : ¬ x2 = 0 → am_Ev d k_Math_floorMod 14 [some (.int x0), some (.int x1), some (.int x2)] [] (fm_mk S) r) : am_Ev d k_Math_floorMod 10 [some (.int x0), some (.int x1), some (.int x2)] [] (fm_mk S) r := by
  refine fs_iloadn (j := 2) (by decide +kernel) rfl ?_
  exact fs_ifeq (off := 7) (tgt := 18) (by decide +kernel) (by decide) kt kf
theorem b_Math_floorMod_14 {d : Nat} {x0 : Int32} {x1 : Int32} {x2 : Int32} {S : fm_S}  : am_Ev d k_Math_floorMod 14 [some (.int x0), some (.int x1), some (.int x2)] [] (fm_mk S) (some (.int (x2 + x1)), fm_mk S) := by
  refine fs_iloadn (j := 2) (by decide +kernel) rfl ?_
  refine fs_iloadn (j := 1) (by decide +kernel) rfl ?_
  refine fs_iadd (by decide +kernel) ?_
  exact fe_retI (by decide +kernel) (by decide +kernel)
theorem b_Math_floorMod_18 {d : Nat} {x0 : Int32} {x1 : Int32} {x2 : Int32} {S : fm_S}  : am_Ev d k_Math_floorMod 18 [some (.int x0), some (.int x1), some (.int x2)] [] (fm_mk S) (some (.int x2), fm_mk S) := by
  refine fs_iloadn (j := 2) (by decide +kernel) rfl ?_
  exact fe_retI (by decide +kernel) (by decide +kernel)
-- java/lang/Math.max(II)I
theorem b_Math_max_0 {d : Nat} {x0 : Int32} {x1 : Int32} {S : fm_S} {r : Option Value × am_W} (kt : x0 < x1 → am_Ev d k_Math_max 9 [some (.int x0), some (.int x1)] [] (fm_mk S) r) (kf : ¬ x0 < x1 → am_Ev d k_Math_max 5 [some (.int x0), some (.int x1)] [] (fm_mk S) r) : am_Ev d k_Math_max 0 [some (.int x0), some (.int x1)] [] (fm_mk S) r := by
  refine fs_iloadn (j := 0) (by decide +kernel) rfl ?_
  refine fs_iloadn (j := 1) (by decide +kernel) rfl ?_
  exact fs_iclt (off := 7) (tgt := 9) (by decide +kernel) (by decide) kt kf
theorem b_Math_max_5 {d : Nat} {x0 : Int32} {x1 : Int32} {S : fm_S} {r : Option Value × am_W} (nx : am_Ev d k_Math_max 10 [some (.int x0), some (.int x1)] [.int x0] (fm_mk S) r) : am_Ev d k_Math_max 5 [some (.int x0), some (.int x1)] [] (fm_mk S) r := by
  refine fs_iloadn (j := 0) (by decide +kernel) rfl ?_
  refine fs_goto (off := 4) (tgt := 10) (by decide +kernel) (by decide) ?_
  exact nx
theorem b_Math_max_9 {d : Nat} {x0 : Int32} {x1 : Int32} {S : fm_S} {r : Option Value × am_W} (nx : am_Ev d k_Math_max 10 [some (.int x0), some (.int x1)] [.int x1] (fm_mk S) r) : am_Ev d k_Math_max 9 [some (.int x0), some (.int x1)] [] (fm_mk S) r := by
  refine fs_iloadn (j := 1) (by decide +kernel) rfl ?_
  exact nx
theorem b_Math_max_10 {d : Nat} {x0 : Int32} {x1 : Int32} {sx0 : Int32} {S : fm_S}  : am_Ev d k_Math_max 10 [some (.int x0), some (.int x1)] [.int sx0] (fm_mk S) (some (.int sx0), fm_mk S) := by
  exact fe_retI (by decide +kernel) (by decide +kernel)
-- KitchenSiege$Days.isShut(I)Z
theorem b_Days_isShut_0 {d : Nat} {a0 : Nat} {x1 : Int32} {S : fm_S} {r : Option Value × am_W} (h_a0 : fm_tg a0 = 2) (hi1 : vp_in x1 8) (kt : ¬ (S.1 (a0 + 1) x1.toNatClampNeg) = (-1) → am_Ev d k_Days_isShut 14 [some (.ref a0), some (.int x1)] [] (fm_mk S) r) (kf : (S.1 (a0 + 1) x1.toNatClampNeg) = (-1) → am_Ev d k_Days_isShut 10 [some (.ref a0), some (.int x1)] [] (fm_mk S) r) : am_Ev d k_Days_isShut 0 [some (.ref a0), some (.int x1)] [] (fm_mk S) r := by
  have D_a0 := fm_days h_a0
  refine fs_aloadn (j := 0) (by decide +kernel) rfl ?_
  refine fe_getR (idx := 9) (t := 2) (f := 1) (fk := 2) (fin := 1) (wp := 126) (x := a0 + 1) (by decide +kernel) (by decide +kernel) h_a0 (by decide +kernel) (fm_objrf h_a0 (by decide) (by decide +kernel) (by decide +kernel)) ?_
  refine fs_iloadn (j := 1) (by decide +kernel) rfl ?_
  refine fx_iald (n := x1.toNatClampNeg) (len := 8) (by decide +kernel) D_a0.1 D_a0.2.1 hi1 rfl ?_
  refine fs_iconst (n := -1) (v := (-1)) (by decide +kernel) (by decide) ?_
  exact fs_icne (off := 7) (tgt := 14) (by decide +kernel) (by decide) kt kf
theorem b_Days_isShut_10 {d : Nat} {a0 : Nat} {x1 : Int32} {S : fm_S} {r : Option Value × am_W} (nx : am_Ev d k_Days_isShut 15 [some (.ref a0), some (.int x1)] [.int 1] (fm_mk S) r) : am_Ev d k_Days_isShut 10 [some (.ref a0), some (.int x1)] [] (fm_mk S) r := by
  refine fs_iconst (n := 1) (v := 1) (by decide +kernel) (by decide) ?_
  refine fs_goto (off := 4) (tgt := 15) (by decide +kernel) (by decide) ?_
  exact nx
theorem b_Days_isShut_14 {d : Nat} {a0 : Nat} {x1 : Int32} {S : fm_S} {r : Option Value × am_W} (nx : am_Ev d k_Days_isShut 15 [some (.ref a0), some (.int x1)] [.int 0] (fm_mk S) r) : am_Ev d k_Days_isShut 14 [some (.ref a0), some (.int x1)] [] (fm_mk S) r := by
  refine fs_iconst (n := 0) (v := 0) (by decide +kernel) (by decide) ?_
  exact nx
theorem b_Days_isShut_15 {d : Nat} {a0 : Nat} {x1 : Int32} {sx0 : Int32} {S : fm_S}  (hz : sx0 = 0 ∨ sx0 = 1) : am_Ev d k_Days_isShut 15 [some (.ref a0), some (.int x1)] [.int sx0] (fm_mk S) (some (.int sx0), fm_mk S) := by
  exact fe_retZ (by decide +kernel) (by decide +kernel) hz
-- KitchenSiege$Days.ahead(II)I
theorem b_Days_ahead_0 {d : Nat} {a0 : Nat} {x1 : Int32} {x2 : Int32} {S : fm_S} {r : Option Value × am_W} (h_a0 : fm_tg a0 = 2) (hi1 : vp_in x1 8) (kt : ¬ (S.1 (a0 + 2) x1.toNatClampNeg) = x2 → am_Ev d k_Days_ahead 19 [some (.ref a0), some (.int x1), some (.int x2)] [] (fm_mk S) r) (kf : (S.1 (a0 + 2) x1.toNatClampNeg) = x2 → am_Ev d k_Days_ahead 10 [some (.ref a0), some (.int x1), some (.int x2)] [] (fm_mk S) r) : am_Ev d k_Days_ahead 0 [some (.ref a0), some (.int x1), some (.int x2)] [] (fm_mk S) r := by
  have D_a0 := fm_days h_a0
  refine fs_aloadn (j := 0) (by decide +kernel) rfl ?_
  refine fe_getR (idx := 15) (t := 2) (f := 2) (fk := 2) (fin := 1) (wp := 130) (x := a0 + 2) (by decide +kernel) (by decide +kernel) h_a0 (by decide +kernel) (fm_objrf h_a0 (by decide) (by decide +kernel) (by decide +kernel)) ?_
  refine fs_iloadn (j := 1) (by decide +kernel) rfl ?_
  refine fx_iald (n := x1.toNatClampNeg) (len := 8) (by decide +kernel) D_a0.2.2.1 D_a0.2.2.2.1 hi1 rfl ?_
  refine fs_iloadn (j := 2) (by decide +kernel) rfl ?_
  exact fs_icne (off := 12) (tgt := 19) (by decide +kernel) (by decide) kt kf
theorem b_Days_ahead_10 {d : Nat} {a0 : Nat} {x1 : Int32} {x2 : Int32} {S : fm_S} {r : Option Value × am_W} (h_a0 : fm_tg a0 = 2) (hi1 : vp_in x1 8) (nx : am_Ev d k_Days_ahead 20 [some (.ref a0), some (.int x1), some (.int x2)] [.int (S.1 (a0 + 3) x1.toNatClampNeg)] (fm_mk S) r) : am_Ev d k_Days_ahead 10 [some (.ref a0), some (.int x1), some (.int x2)] [] (fm_mk S) r := by
  have D_a0 := fm_days h_a0
  refine fs_aloadn (j := 0) (by decide +kernel) rfl ?_
  refine fe_getR (idx := 18) (t := 2) (f := 3) (fk := 2) (fin := 1) (wp := 134) (x := a0 + 3) (by decide +kernel) (by decide +kernel) h_a0 (by decide +kernel) (fm_objrf h_a0 (by decide) (by decide +kernel) (by decide +kernel)) ?_
  refine fs_iloadn (j := 1) (by decide +kernel) rfl ?_
  refine fx_iald (n := x1.toNatClampNeg) (len := 8) (by decide +kernel) D_a0.2.2.2.2.1 D_a0.2.2.2.2.2 hi1 rfl ?_
  refine fs_goto (off := 4) (tgt := 20) (by decide +kernel) (by decide) ?_
  exact nx
theorem b_Days_ahead_19 {d : Nat} {a0 : Nat} {x1 : Int32} {x2 : Int32} {S : fm_S} {r : Option Value × am_W} (nx : am_Ev d k_Days_ahead 20 [some (.ref a0), some (.int x1), some (.int x2)] [.int 0] (fm_mk S) r) : am_Ev d k_Days_ahead 19 [some (.ref a0), some (.int x1), some (.int x2)] [] (fm_mk S) r := by
  refine fs_iconst (n := 0) (v := 0) (by decide +kernel) (by decide) ?_
  exact nx
theorem b_Days_ahead_20 {d : Nat} {a0 : Nat} {x1 : Int32} {x2 : Int32} {sx0 : Int32} {S : fm_S}  : am_Ev d k_Days_ahead 20 [some (.ref a0), some (.int x1), some (.int x2)] [.int sx0] (fm_mk S) (some (.int sx0), fm_mk S) := by
  exact fe_retI (by decide +kernel) (by decide +kernel)
-- KitchenSiege$Nose.pull(IIIIII)I
theorem b_Nose_pull_0 {d : Nat} {x0 : Int32} {x1 : Int32} {x2 : Int32} {x3 : Int32} {x4 : Int32} {x5 : Int32} {o6 : Option Value} {o7 : Option Value} {o8 : Option Value} {S : fm_S} {r : Option Value × am_W} (kt : ¬ x2 = x1 → am_Ev d k_Nose_pull 11 [some (.int x0), some (.int x1), some (.int x2), some (.int x3), some (.int x4), some (.int x5), o6, o7, o8] [] (fm_mk S) r) (kf : x2 = x1 → am_Ev d k_Nose_pull 5 [some (.int x0), some (.int x1), some (.int x2), some (.int x3), some (.int x4), some (.int x5), o6, o7, o8] [] (fm_mk S) r) : am_Ev d k_Nose_pull 0 [some (.int x0), some (.int x1), some (.int x2), some (.int x3), some (.int x4), some (.int x5), o6, o7, o8] [] (fm_mk S) r := by
  refine fs_iloadn (j := 2) (by decide +kernel) rfl ?_
  refine fs_iloadn (j := 1) (by decide +kernel) rfl ?_
  exact fs_icne (off := 9) (tgt := 11) (by decide +kernel) (by decide) kt kf
theorem b_Nose_pull_5 {d : Nat} {x0 : Int32} {x1 : Int32} {x2 : Int32} {x3 : Int32} {x4 : Int32} {x5 : Int32} {o6 : Option Value} {o7 : Option Value} {o8 : Option Value} {S : fm_S} {r : Option Value × am_W} (nx : am_Ev d k_Nose_pull 12 [some (.int x0), some (.int x1), some (.int x2), some (.int x3), some (.int x4), some (.int x5), o6, o7, o8] [.int (2 * x3)] (fm_mk S) r) : am_Ev d k_Nose_pull 5 [some (.int x0), some (.int x1), some (.int x2), some (.int x3), some (.int x4), some (.int x5), o6, o7, o8] [] (fm_mk S) r := by
  refine fs_iconst (n := 2) (v := 2) (by decide +kernel) (by decide) ?_
  refine fs_iloadn (j := 3) (by decide +kernel) rfl ?_
  refine fs_imul (by decide +kernel) ?_
  refine fs_goto (off := 4) (tgt := 12) (by decide +kernel) (by decide) ?_
  exact nx
theorem b_Nose_pull_11 {d : Nat} {x0 : Int32} {x1 : Int32} {x2 : Int32} {x3 : Int32} {x4 : Int32} {x5 : Int32} {o6 : Option Value} {o7 : Option Value} {o8 : Option Value} {S : fm_S} {r : Option Value × am_W} (nx : am_Ev d k_Nose_pull 12 [some (.int x0), some (.int x1), some (.int x2), some (.int x3), some (.int x4), some (.int x5), o6, o7, o8] [.int x3] (fm_mk S) r) : am_Ev d k_Nose_pull 11 [some (.int x0), some (.int x1), some (.int x2), some (.int x3), some (.int x4), some (.int x5), o6, o7, o8] [] (fm_mk S) r := by
  refine fs_iloadn (j := 3) (by decide +kernel) rfl ?_
  exact nx
theorem b_Nose_pull_12 {d : Nat} {x0 : Int32} {x1 : Int32} {x2 : Int32} {x3 : Int32} {x4 : Int32} {x5 : Int32} {o6 : Option Value} {o7 : Option Value} {o8 : Option Value} {sx0 : Int32} {S : fm_S} {r : Option Value × am_W} (kt : ¬ x2 = 0 → am_Ev d k_Nose_pull 28 [some (.int x0), some (.int x1), some (.int x2), some (.int x3), some (.int x4), some (.int x5), some (.int sx0), some (.int (sx0 / 2)), o8] [] (fm_mk S) r) (kf : x2 = 0 → am_Ev d k_Nose_pull 24 [some (.int x0), some (.int x1), some (.int x2), some (.int x3), some (.int x4), some (.int x5), some (.int sx0), some (.int (sx0 / 2)), o8] [] (fm_mk S) r) : am_Ev d k_Nose_pull 12 [some (.int x0), some (.int x1), some (.int x2), some (.int x3), some (.int x4), some (.int x5), o6, o7, o8] [.int sx0] (fm_mk S) r := by
  refine fs_istore (j := 6) (L' := [some (.int x0), some (.int x1), some (.int x2), some (.int x3), some (.int x4), some (.int x5), some (.int sx0), o7, o8]) (by decide +kernel) (Nat.le_of_ble_eq_true rfl) rfl ?_
  refine fs_iload (j := 6) (by decide +kernel) rfl ?_
  refine fs_iconst (n := 2) (v := 2) (by decide +kernel) (by decide) ?_
  refine fe_idiv (by decide +kernel) (by decide) ?_
  refine fs_istore (j := 7) (L' := [some (.int x0), some (.int x1), some (.int x2), some (.int x3), some (.int x4), some (.int x5), some (.int sx0), some (.int (sx0 / 2)), o8]) (by decide +kernel) (Nat.le_of_ble_eq_true rfl) rfl ?_
  refine fs_iloadn (j := 2) (by decide +kernel) rfl ?_
  exact fs_ifne (off := 7) (tgt := 28) (by decide +kernel) (by decide) kt kf
theorem b_Nose_pull_24 {d : Nat} {x0 : Int32} {x1 : Int32} {x2 : Int32} {x3 : Int32} {x4 : Int32} {x5 : Int32} {x6 : Int32} {x7 : Int32} {o8 : Option Value} {S : fm_S} {r : Option Value × am_W} (nx : am_Ev d k_Nose_pull 30 [some (.int x0), some (.int x1), some (.int x2), some (.int x3), some (.int x4), some (.int x5), some (.int x6), some (.int x7), o8] [.int 0] (fm_mk S) r) : am_Ev d k_Nose_pull 24 [some (.int x0), some (.int x1), some (.int x2), some (.int x3), some (.int x4), some (.int x5), some (.int x6), some (.int x7), o8] [] (fm_mk S) r := by
  refine fs_iconst (n := 0) (v := 0) (by decide +kernel) (by decide) ?_
  refine fs_goto (off := 5) (tgt := 30) (by decide +kernel) (by decide) ?_
  exact nx
theorem b_Nose_pull_28 {d : Nat} {x0 : Int32} {x1 : Int32} {x2 : Int32} {x3 : Int32} {x4 : Int32} {x5 : Int32} {x6 : Int32} {x7 : Int32} {o8 : Option Value} {S : fm_S} {r : Option Value × am_W} (nx : am_Ev d k_Nose_pull 30 [some (.int x0), some (.int x1), some (.int x2), some (.int x3), some (.int x4), some (.int x5), some (.int x6), some (.int x7), o8] [.int x6] (fm_mk S) r) : am_Ev d k_Nose_pull 28 [some (.int x0), some (.int x1), some (.int x2), some (.int x3), some (.int x4), some (.int x5), some (.int x6), some (.int x7), o8] [] (fm_mk S) r := by
  refine fs_iload (j := 6) (by decide +kernel) rfl ?_
  exact nx
theorem b_Nose_pull_30 {d : Nat} {x0 : Int32} {x1 : Int32} {x2 : Int32} {x3 : Int32} {x4 : Int32} {x5 : Int32} {x6 : Int32} {x7 : Int32} {o8 : Option Value} {sx0 : Int32} {S : fm_S} {r : Option Value × am_W} (k0 : x0 = 0 → am_Ev d k_Nose_pull 72 [some (.int x0), some (.int x1), some (.int x2), some (.int x3), some (.int x4), some (.int x5), some (.int x6), some (.int x7), some (.int sx0)] [] (fm_mk S) r) (k1 : x0 = 1 → am_Ev d k_Nose_pull 75 [some (.int x0), some (.int x1), some (.int x2), some (.int x3), some (.int x4), some (.int x5), some (.int x6), some (.int x7), some (.int sx0)] [] (fm_mk S) r) (k2 : x0 = 2 → am_Ev d k_Nose_pull 78 [some (.int x0), some (.int x1), some (.int x2), some (.int x3), some (.int x4), some (.int x5), some (.int x6), some (.int x7), some (.int sx0)] [] (fm_mk S) r) (k3 : x0 = 3 → am_Ev d k_Nose_pull 81 [some (.int x0), some (.int x1), some (.int x2), some (.int x3), some (.int x4), some (.int x5), some (.int x6), some (.int x7), some (.int sx0)] [] (fm_mk S) r) (k4 : x0 = 4 → am_Ev d k_Nose_pull 97 [some (.int x0), some (.int x1), some (.int x2), some (.int x3), some (.int x4), some (.int x5), some (.int x6), some (.int x7), some (.int sx0)] [] (fm_mk S) r) (k5 : x0 = 5 → am_Ev d k_Nose_pull 112 [some (.int x0), some (.int x1), some (.int x2), some (.int x3), some (.int x4), some (.int x5), some (.int x6), some (.int x7), some (.int sx0)] [] (fm_mk S) r) (kd : ¬ x0 = 0 → ¬ x0 = 1 → ¬ x0 = 2 → ¬ x0 = 3 → ¬ x0 = 4 → ¬ x0 = 5 → am_Ev d k_Nose_pull 129 [some (.int x0), some (.int x1), some (.int x2), some (.int x3), some (.int x4), some (.int x5), some (.int x6), some (.int x7), some (.int sx0)] [] (fm_mk S) r) : am_Ev d k_Nose_pull 30 [some (.int x0), some (.int x1), some (.int x2), some (.int x3), some (.int x4), some (.int x5), some (.int x6), some (.int x7), o8] [.int sx0] (fm_mk S) r := by
  refine fs_istore (j := 8) (L' := [some (.int x0), some (.int x1), some (.int x2), some (.int x3), some (.int x4), some (.int x5), some (.int x6), some (.int x7), some (.int sx0)]) (by decide +kernel) (Nat.le_of_ble_eq_true rfl) rfl ?_
  refine fs_iloadn (j := 0) (by decide +kernel) rfl ?_
  by_cases c0 : x0 = 0
  · exact fs_sw (i := .tableswitch 96 0 5 #[39, 42, 45, 48, 64, 79]) (z := 39) (by decide +kernel) rfl (by rw [c0]; rfl) (k0 c0)
  by_cases c1 : x0 = 1
  · exact fs_sw (i := .tableswitch 96 0 5 #[39, 42, 45, 48, 64, 79]) (z := 39) (by decide +kernel) rfl (by rw [c1]; rfl) (k1 c1)
  by_cases c2 : x0 = 2
  · exact fs_sw (i := .tableswitch 96 0 5 #[39, 42, 45, 48, 64, 79]) (z := 39) (by decide +kernel) rfl (by rw [c2]; rfl) (k2 c2)
  by_cases c3 : x0 = 3
  · exact fs_sw (i := .tableswitch 96 0 5 #[39, 42, 45, 48, 64, 79]) (z := 39) (by decide +kernel) rfl (by rw [c3]; rfl) (k3 c3)
  by_cases c4 : x0 = 4
  · exact fs_sw (i := .tableswitch 96 0 5 #[39, 42, 45, 48, 64, 79]) (z := 39) (by decide +kernel) rfl (by rw [c4]; rfl) (k4 c4)
  by_cases c5 : x0 = 5
  · exact fs_sw (i := .tableswitch 96 0 5 #[39, 42, 45, 48, 64, 79]) (z := 39) (by decide +kernel) rfl (by rw [c5]; rfl) (k5 c5)
  have e0 : ¬ (x0).toInt = 0 := fun q => c0 (Int32.toInt_inj.mp (q.trans (by decide)))
  have e1 : ¬ (x0).toInt = 1 := fun q => c1 (Int32.toInt_inj.mp (q.trans (by decide)))
  have e2 : ¬ (x0).toInt = 2 := fun q => c2 (Int32.toInt_inj.mp (q.trans (by decide)))
  have e3 : ¬ (x0).toInt = 3 := fun q => c3 (Int32.toInt_inj.mp (q.trans (by decide)))
  have e4 : ¬ (x0).toInt = 4 := fun q => c4 (Int32.toInt_inj.mp (q.trans (by decide)))
  have e5 : ¬ (x0).toInt = 5 := fun q => c5 (Int32.toInt_inj.mp (q.trans (by decide)))
  exact fs_tout (dflt := 96) (lo := 0) (hi := 5) (offs := #[39, 42, 45, 48, 64, 79]) (z := 39) (by decide +kernel) (by omega) (by decide) (kd c0 c1 c2 c3 c4 c5)
theorem b_Nose_pull_72 {d : Nat} {x0 : Int32} {x1 : Int32} {x2 : Int32} {x3 : Int32} {x4 : Int32} {x5 : Int32} {x6 : Int32} {x7 : Int32} {x8 : Int32} {S : fm_S}  : am_Ev d k_Nose_pull 72 [some (.int x0), some (.int x1), some (.int x2), some (.int x3), some (.int x4), some (.int x5), some (.int x6), some (.int x7), some (.int x8)] [] (fm_mk S) (some (.int x6), fm_mk S) := by
  refine fs_iload (j := 6) (by decide +kernel) rfl ?_
  exact fe_retI (by decide +kernel) (by decide +kernel)
theorem b_Nose_pull_75 {d : Nat} {x0 : Int32} {x1 : Int32} {x2 : Int32} {x3 : Int32} {x4 : Int32} {x5 : Int32} {x6 : Int32} {x7 : Int32} {x8 : Int32} {S : fm_S}  : am_Ev d k_Nose_pull 75 [some (.int x0), some (.int x1), some (.int x2), some (.int x3), some (.int x4), some (.int x5), some (.int x6), some (.int x7), some (.int x8)] [] (fm_mk S) (some (.int x7), fm_mk S) := by
  refine fs_iload (j := 7) (by decide +kernel) rfl ?_
  exact fe_retI (by decide +kernel) (by decide +kernel)
theorem b_Nose_pull_78 {d : Nat} {x0 : Int32} {x1 : Int32} {x2 : Int32} {x3 : Int32} {x4 : Int32} {x5 : Int32} {x6 : Int32} {x7 : Int32} {x8 : Int32} {S : fm_S}  : am_Ev d k_Nose_pull 78 [some (.int x0), some (.int x1), some (.int x2), some (.int x3), some (.int x4), some (.int x5), some (.int x6), some (.int x7), some (.int x8)] [] (fm_mk S) (some (.int x8), fm_mk S) := by
  refine fs_iload (j := 8) (by decide +kernel) rfl ?_
  exact fe_retI (by decide +kernel) (by decide +kernel)
theorem b_Nose_pull_81 {d : Nat} {x0 : Int32} {x1 : Int32} {x2 : Int32} {x3 : Int32} {x4 : Int32} {x5 : Int32} {x6 : Int32} {x7 : Int32} {x8 : Int32} {S : fm_S} {r : Option Value × am_W} (kt : ¬ (x4 - x4 / 7 * 7) = 5 → am_Ev d k_Nose_pull 94 [some (.int x0), some (.int x1), some (.int x2), some (.int x3), some (.int x4), some (.int x5), some (.int x6), some (.int x7), some (.int x8)] [] (fm_mk S) r) (kf : (x4 - x4 / 7 * 7) = 5 → am_Ev d k_Nose_pull 90 [some (.int x0), some (.int x1), some (.int x2), some (.int x3), some (.int x4), some (.int x5), some (.int x6), some (.int x7), some (.int x8)] [] (fm_mk S) r) : am_Ev d k_Nose_pull 81 [some (.int x0), some (.int x1), some (.int x2), some (.int x3), some (.int x4), some (.int x5), some (.int x6), some (.int x7), some (.int x8)] [] (fm_mk S) r := by
  refine fs_iload (j := 4) (by decide +kernel) rfl ?_
  refine fs_bipush (n := 7) (v := 7) (by decide +kernel) (by decide) ?_
  refine fe_irem (by decide +kernel) (by decide) ?_
  refine fs_iconst (n := 5) (v := 5) (by decide +kernel) (by decide) ?_
  exact fs_icne (off := 7) (tgt := 94) (by decide +kernel) (by decide) kt kf
theorem b_Nose_pull_90 {d : Nat} {x0 : Int32} {x1 : Int32} {x2 : Int32} {x3 : Int32} {x4 : Int32} {x5 : Int32} {x6 : Int32} {x7 : Int32} {x8 : Int32} {S : fm_S} {r : Option Value × am_W} (nx : am_Ev d k_Nose_pull 96 [some (.int x0), some (.int x1), some (.int x2), some (.int x3), some (.int x4), some (.int x5), some (.int x6), some (.int x7), some (.int x8)] [.int 0] (fm_mk S) r) : am_Ev d k_Nose_pull 90 [some (.int x0), some (.int x1), some (.int x2), some (.int x3), some (.int x4), some (.int x5), some (.int x6), some (.int x7), some (.int x8)] [] (fm_mk S) r := by
  refine fs_iconst (n := 0) (v := 0) (by decide +kernel) (by decide) ?_
  refine fs_goto (off := 5) (tgt := 96) (by decide +kernel) (by decide) ?_
  exact nx
theorem b_Nose_pull_94 {d : Nat} {x0 : Int32} {x1 : Int32} {x2 : Int32} {x3 : Int32} {x4 : Int32} {x5 : Int32} {x6 : Int32} {x7 : Int32} {x8 : Int32} {S : fm_S} {r : Option Value × am_W} (nx : am_Ev d k_Nose_pull 96 [some (.int x0), some (.int x1), some (.int x2), some (.int x3), some (.int x4), some (.int x5), some (.int x6), some (.int x7), some (.int x8)] [.int x6] (fm_mk S) r) : am_Ev d k_Nose_pull 94 [some (.int x0), some (.int x1), some (.int x2), some (.int x3), some (.int x4), some (.int x5), some (.int x6), some (.int x7), some (.int x8)] [] (fm_mk S) r := by
  refine fs_iload (j := 6) (by decide +kernel) rfl ?_
  exact nx
theorem b_Nose_pull_96 {d : Nat} {x0 : Int32} {x1 : Int32} {x2 : Int32} {x3 : Int32} {x4 : Int32} {x5 : Int32} {x6 : Int32} {x7 : Int32} {x8 : Int32} {sx0 : Int32} {S : fm_S}  : am_Ev d k_Nose_pull 96 [some (.int x0), some (.int x1), some (.int x2), some (.int x3), some (.int x4), some (.int x5), some (.int x6), some (.int x7), some (.int x8)] [.int sx0] (fm_mk S) (some (.int sx0), fm_mk S) := by
  exact fe_retI (by decide +kernel) (by decide +kernel)
theorem b_Nose_pull_97 {d : Nat} {x0 : Int32} {x1 : Int32} {x2 : Int32} {x3 : Int32} {x4 : Int32} {x5 : Int32} {x6 : Int32} {x7 : Int32} {x8 : Int32} {S : fm_S} {r : Option Value × am_W} (kt : x8 ≤ 3 → am_Ev d k_Nose_pull 110 [some (.int x0), some (.int x1), some (.int x2), some (.int x3), some (.int x4), some (.int x5), some (.int x6), some (.int x7), some (.int x8)] [] (fm_mk S) r) (kf : ¬ x8 ≤ 3 → am_Ev d k_Nose_pull 103 [some (.int x0), some (.int x1), some (.int x2), some (.int x3), some (.int x4), some (.int x5), some (.int x6), some (.int x7), some (.int x8)] [] (fm_mk S) r) : am_Ev d k_Nose_pull 97 [some (.int x0), some (.int x1), some (.int x2), some (.int x3), some (.int x4), some (.int x5), some (.int x6), some (.int x7), some (.int x8)] [] (fm_mk S) r := by
  refine fs_iload (j := 8) (by decide +kernel) rfl ?_
  refine fs_iconst (n := 3) (v := 3) (by decide +kernel) (by decide) ?_
  exact fs_icle (off := 10) (tgt := 110) (by decide +kernel) (by decide) kt kf
theorem b_Nose_pull_103 {d : Nat} {x0 : Int32} {x1 : Int32} {x2 : Int32} {x3 : Int32} {x4 : Int32} {x5 : Int32} {x6 : Int32} {x7 : Int32} {x8 : Int32} {S : fm_S} {r : Option Value × am_W} (nx : am_Ev d k_Nose_pull 111 [some (.int x0), some (.int x1), some (.int x2), some (.int x3), some (.int x4), some (.int x5), some (.int x6), some (.int x7), some (.int x8)] [.int (x8 - 3)] (fm_mk S) r) : am_Ev d k_Nose_pull 103 [some (.int x0), some (.int x1), some (.int x2), some (.int x3), some (.int x4), some (.int x5), some (.int x6), some (.int x7), some (.int x8)] [] (fm_mk S) r := by
  refine fs_iload (j := 8) (by decide +kernel) rfl ?_
  refine fs_iconst (n := 3) (v := 3) (by decide +kernel) (by decide) ?_
  refine fs_isub (by decide +kernel) ?_
  refine fs_goto (off := 4) (tgt := 111) (by decide +kernel) (by decide) ?_
  exact nx
theorem b_Nose_pull_110 {d : Nat} {x0 : Int32} {x1 : Int32} {x2 : Int32} {x3 : Int32} {x4 : Int32} {x5 : Int32} {x6 : Int32} {x7 : Int32} {x8 : Int32} {S : fm_S} {r : Option Value × am_W} (nx : am_Ev d k_Nose_pull 111 [some (.int x0), some (.int x1), some (.int x2), some (.int x3), some (.int x4), some (.int x5), some (.int x6), some (.int x7), some (.int x8)] [.int 0] (fm_mk S) r) : am_Ev d k_Nose_pull 110 [some (.int x0), some (.int x1), some (.int x2), some (.int x3), some (.int x4), some (.int x5), some (.int x6), some (.int x7), some (.int x8)] [] (fm_mk S) r := by
  refine fs_iconst (n := 0) (v := 0) (by decide +kernel) (by decide) ?_
  exact nx
theorem b_Nose_pull_111 {d : Nat} {x0 : Int32} {x1 : Int32} {x2 : Int32} {x3 : Int32} {x4 : Int32} {x5 : Int32} {x6 : Int32} {x7 : Int32} {x8 : Int32} {sx0 : Int32} {S : fm_S}  : am_Ev d k_Nose_pull 111 [some (.int x0), some (.int x1), some (.int x2), some (.int x3), some (.int x4), some (.int x5), some (.int x6), some (.int x7), some (.int x8)] [.int sx0] (fm_mk S) (some (.int sx0), fm_mk S) := by
  exact fe_retI (by decide +kernel) (by decide +kernel)
theorem b_Nose_pull_112 {d : Nat} {x0 : Int32} {x1 : Int32} {x2 : Int32} {x3 : Int32} {x4 : Int32} {x5 : Int32} {x6 : Int32} {x7 : Int32} {x8 : Int32} {S : fm_S} {r : Option Value × am_W} (kt : x7 ≤ 0 → am_Ev d k_Nose_pull 127 [some (.int x0), some (.int x1), some (.int x2), some (.int x3), some (.int x4), some (.int x5), some (.int x6), some (.int x7), some (.int x8)] [] (fm_mk S) r) (kf : ¬ x7 ≤ 0 → am_Ev d k_Nose_pull 117 [some (.int x0), some (.int x1), some (.int x2), some (.int x3), some (.int x4), some (.int x5), some (.int x6), some (.int x7), some (.int x8)] [] (fm_mk S) r) : am_Ev d k_Nose_pull 112 [some (.int x0), some (.int x1), some (.int x2), some (.int x3), some (.int x4), some (.int x5), some (.int x6), some (.int x7), some (.int x8)] [] (fm_mk S) r := by
  refine fs_iload (j := 7) (by decide +kernel) rfl ?_
  exact fs_ifle (off := 13) (tgt := 127) (by decide +kernel) (by decide) kt kf
theorem b_Nose_pull_117 {d : Nat} {x0 : Int32} {x1 : Int32} {x2 : Int32} {x3 : Int32} {x4 : Int32} {x5 : Int32} {x6 : Int32} {x7 : Int32} {x8 : Int32} {S : fm_S} {r : Option Value × am_W} (nx : am_Ev d k_Nose_pull 128 [some (.int x0), some (.int x1), some (.int x2), some (.int x3), some (.int x4), some (.int x5), some (.int x6), some (.int x7), some (.int x8)] [.int (x7 + (2 * x5))] (fm_mk S) r) : am_Ev d k_Nose_pull 117 [some (.int x0), some (.int x1), some (.int x2), some (.int x3), some (.int x4), some (.int x5), some (.int x6), some (.int x7), some (.int x8)] [] (fm_mk S) r := by
  refine fs_iload (j := 7) (by decide +kernel) rfl ?_
  refine fs_iconst (n := 2) (v := 2) (by decide +kernel) (by decide) ?_
  refine fs_iload (j := 5) (by decide +kernel) rfl ?_
  refine fs_imul (by decide +kernel) ?_
  refine fs_iadd (by decide +kernel) ?_
  refine fs_goto (off := 4) (tgt := 128) (by decide +kernel) (by decide) ?_
  exact nx
theorem b_Nose_pull_127 {d : Nat} {x0 : Int32} {x1 : Int32} {x2 : Int32} {x3 : Int32} {x4 : Int32} {x5 : Int32} {x6 : Int32} {x7 : Int32} {x8 : Int32} {S : fm_S} {r : Option Value × am_W} (nx : am_Ev d k_Nose_pull 128 [some (.int x0), some (.int x1), some (.int x2), some (.int x3), some (.int x4), some (.int x5), some (.int x6), some (.int x7), some (.int x8)] [.int 0] (fm_mk S) r) : am_Ev d k_Nose_pull 127 [some (.int x0), some (.int x1), some (.int x2), some (.int x3), some (.int x4), some (.int x5), some (.int x6), some (.int x7), some (.int x8)] [] (fm_mk S) r := by
  refine fs_iconst (n := 0) (v := 0) (by decide +kernel) (by decide) ?_
  exact nx
theorem b_Nose_pull_128 {d : Nat} {x0 : Int32} {x1 : Int32} {x2 : Int32} {x3 : Int32} {x4 : Int32} {x5 : Int32} {x6 : Int32} {x7 : Int32} {x8 : Int32} {sx0 : Int32} {S : fm_S}  : am_Ev d k_Nose_pull 128 [some (.int x0), some (.int x1), some (.int x2), some (.int x3), some (.int x4), some (.int x5), some (.int x6), some (.int x7), some (.int x8)] [.int sx0] (fm_mk S) (some (.int sx0), fm_mk S) := by
  exact fe_retI (by decide +kernel) (by decide +kernel)
theorem b_Nose_pull_129 {d : Nat} {x0 : Int32} {x1 : Int32} {x2 : Int32} {x3 : Int32} {x4 : Int32} {x5 : Int32} {x6 : Int32} {x7 : Int32} {x8 : Int32} {S : fm_S}  : am_Ev d k_Nose_pull 129 [some (.int x0), some (.int x1), some (.int x2), some (.int x3), some (.int x4), some (.int x5), some (.int x6), some (.int x7), some (.int x8)] [] (fm_mk S) (some (.int 0), fm_mk S) := by
  refine fs_iconst (n := 0) (v := 0) (by decide +kernel) (by decide) ?_
  exact fe_retI (by decide +kernel) (by decide +kernel)
-- KitchenSiege$Days.smellAfter(III)V
theorem b_Days_smellAfter_0 {d : Nat} {a0 : Nat} {x1 : Int32} {x2 : Int32} {x3 : Int32} {S : fm_S} {r : Option Value × am_W} (kt : x3 ≤ 0 → am_Ev d k_Days_smellAfter 28 [some (.ref a0), some (.int x1), some (.int x2), some (.int x3)] [] (fm_mk S) r) (kf : ¬ x3 ≤ 0 → am_Ev d k_Days_smellAfter 4 [some (.ref a0), some (.int x1), some (.int x2), some (.int x3)] [] (fm_mk S) r) : am_Ev d k_Days_smellAfter 0 [some (.ref a0), some (.int x1), some (.int x2), some (.int x3)] [] (fm_mk S) r := by
  refine fs_iloadn (j := 3) (by decide +kernel) rfl ?_
  exact fs_ifle (off := 27) (tgt := 28) (by decide +kernel) (by decide) kt kf
theorem b_Days_smellAfter_4 {d : Nat} {a0 : Nat} {x1 : Int32} {x2 : Int32} {x3 : Int32} {v : Int32} {S1 : fm_S} {S : fm_S} {r : Option Value × am_W} (h_a0 : fm_tg a0 = 2) (hc : am_Sp d k_Days_ahead [.ref a0, .int x1, .int x2] (fm_mk S) (some (.int v)) (fm_mk S1)) (nx : am_Ev (d + 1) k_Days_smellAfter 15 [some (.ref a0), some (.int x1), some (.int x2), some (.int x3)] [.int v, .int x1, .ref (a0 + 3)] (fm_mk S1) r) : am_Ev (d + 1) k_Days_smellAfter 4 [some (.ref a0), some (.int x1), some (.int x2), some (.int x3)] [] (fm_mk S) r := by
  have D_a0 := fm_days h_a0
  refine fs_aloadn (j := 0) (by decide +kernel) rfl ?_
  refine fe_getR (idx := 18) (t := 2) (f := 3) (fk := 2) (fin := 1) (wp := 134) (x := a0 + 3) (by decide +kernel) (by decide +kernel) h_a0 (by decide +kernel) (fm_objrf h_a0 (by decide) (by decide +kernel) (by decide +kernel)) ?_
  refine fs_iloadn (j := 1) (by decide +kernel) rfl ?_
  refine fs_aloadn (j := 0) (by decide +kernel) rfl ?_
  refine fs_iloadn (j := 1) (by decide +kernel) rfl ?_
  refine fs_iloadn (j := 2) (by decide +kernel) rfl ?_
  exact fe_callV (t := 2) (idx := 35) (n := 2) (wp := 654) (q := (639, 640)) (as := [.int x1, .int x2]) (rs := [.int x1, .ref (a0 + 3)]) (by decide +kernel) (by decide +kernel) h_a0 (by decide +kernel) rfl (Nat.le_of_ble_eq_true rfl) rfl hc nx
theorem b_Days_smellAfter_15 {d : Nat} {a0 : Nat} {x1 : Int32} {x2 : Int32} {x3 : Int32} {sa0 : Nat} {sx1 : Int32} {sx2 : Int32} {S : fm_S} {r : Option Value × am_W} (h_sa0 : fm_tg sa0 = 100) (hi1 : vp_in sx1 (fm_ln sa0)) (h_a0 : fm_tg a0 = 2) (hi3 : vp_in x1 8) (nx : am_Ev d k_Days_smellAfter 42 [some (.ref a0), some (.int x1), some (.int x2), some (.int x3)] [] (fm_mk (fm_wI (fm_wI S sa0 sx1.toNatClampNeg (sx2 + 1)) (a0 + 2) x1.toNatClampNeg x2)) r) : am_Ev d k_Days_smellAfter 15 [some (.ref a0), some (.int x1), some (.int x2), some (.int x3)] [.int sx2, .int sx1, .ref sa0] (fm_mk S) r := by
  have D_a0 := fm_days h_a0
  refine fs_iconst (n := 1) (v := 1) (by decide +kernel) (by decide) ?_
  refine fs_iadd (by decide +kernel) ?_
  refine fx_iast (n := sx1.toNatClampNeg) (len := fm_ln sa0) (by decide +kernel) h_sa0 rfl hi1 rfl ?_
  refine fs_aloadn (j := 0) (by decide +kernel) rfl ?_
  refine fe_getR (idx := 15) (t := 2) (f := 2) (fk := 2) (fin := 1) (wp := 130) (x := a0 + 2) (by decide +kernel) (by decide +kernel) h_a0 (by decide +kernel) (fm_objrf h_a0 (by decide) (by decide +kernel) (by decide +kernel)) ?_
  refine fs_iloadn (j := 1) (by decide +kernel) rfl ?_
  refine fs_iloadn (j := 2) (by decide +kernel) rfl ?_
  refine fx_iast (n := x1.toNatClampNeg) (len := 8) (by decide +kernel) D_a0.2.2.1 D_a0.2.2.2.1 hi3 rfl ?_
  refine fs_goto (off := 17) (tgt := 42) (by decide +kernel) (by decide) ?_
  exact nx
theorem b_Days_smellAfter_28 {d : Nat} {a0 : Nat} {x1 : Int32} {x2 : Int32} {x3 : Int32} {S : fm_S} {r : Option Value × am_W} (h_a0 : fm_tg a0 = 2) (hi1 : vp_in x1 8) (nx : am_Ev d k_Days_smellAfter 42 [some (.ref a0), some (.int x1), some (.int x2), some (.int x3)] [] (fm_mk (fm_wI (fm_wI S (a0 + 3) x1.toNatClampNeg 0) (a0 + 2) x1.toNatClampNeg (-1))) r) : am_Ev d k_Days_smellAfter 28 [some (.ref a0), some (.int x1), some (.int x2), some (.int x3)] [] (fm_mk S) r := by
  have D_a0 := fm_days h_a0
  refine fs_aloadn (j := 0) (by decide +kernel) rfl ?_
  refine fe_getR (idx := 18) (t := 2) (f := 3) (fk := 2) (fin := 1) (wp := 134) (x := a0 + 3) (by decide +kernel) (by decide +kernel) h_a0 (by decide +kernel) (fm_objrf h_a0 (by decide) (by decide +kernel) (by decide +kernel)) ?_
  refine fs_iloadn (j := 1) (by decide +kernel) rfl ?_
  refine fs_iconst (n := 0) (v := 0) (by decide +kernel) (by decide) ?_
  refine fx_iast (n := x1.toNatClampNeg) (len := 8) (by decide +kernel) D_a0.2.2.2.2.1 D_a0.2.2.2.2.2 hi1 rfl ?_
  refine fs_aloadn (j := 0) (by decide +kernel) rfl ?_
  refine fe_getR (idx := 15) (t := 2) (f := 2) (fk := 2) (fin := 1) (wp := 130) (x := a0 + 2) (by decide +kernel) (by decide +kernel) h_a0 (by decide +kernel) (fm_objrf h_a0 (by decide) (by decide +kernel) (by decide +kernel)) ?_
  refine fs_iloadn (j := 1) (by decide +kernel) rfl ?_
  refine fs_iconst (n := -1) (v := (-1)) (by decide +kernel) (by decide) ?_
  refine fx_iast (n := x1.toNatClampNeg) (len := 8) (by decide +kernel) D_a0.2.2.1 D_a0.2.2.2.1 hi1 rfl ?_
  exact nx
theorem b_Days_smellAfter_42 {d : Nat} {a0 : Nat} {x1 : Int32} {x2 : Int32} {x3 : Int32} {S : fm_S}  : am_Ev d k_Days_smellAfter 42 [some (.ref a0), some (.int x1), some (.int x2), some (.int x3)] [] (fm_mk S) (none, fm_mk S) := by
  exact fe_retV (by decide +kernel) (by decide +kernel)
-- java/lang/Integer.bitCount(I)I
theorem b_Int_bitCount_0 {d : Nat} {x0 : Int32} {S : fm_S}  : am_Ev d k_Int_bitCount 0 [some (.int x0)] [] (fm_mk S) (some (.int ((((((((x0 - (((x0.toUInt32 >>> ((1 : Int32).toUInt32 &&& Int32.toUInt32 31)).toInt32) &&& 1431655765)) &&& 858993459) + ((((x0 - (((x0.toUInt32 >>> ((1 : Int32).toUInt32 &&& Int32.toUInt32 31)).toInt32) &&& 1431655765)).toUInt32 >>> ((2 : Int32).toUInt32 &&& Int32.toUInt32 31)).toInt32) &&& 858993459)) + (((((x0 - (((x0.toUInt32 >>> ((1 : Int32).toUInt32 &&& Int32.toUInt32 31)).toInt32) &&& 1431655765)) &&& 858993459) + ((((x0 - (((x0.toUInt32 >>> ((1 : Int32).toUInt32 &&& Int32.toUInt32 31)).toInt32) &&& 1431655765)).toUInt32 >>> ((2 : Int32).toUInt32 &&& Int32.toUInt32 31)).toInt32) &&& 858993459)).toUInt32 >>> ((4 : Int32).toUInt32 &&& Int32.toUInt32 31)).toInt32)) &&& 252645135) + (((((((x0 - (((x0.toUInt32 >>> ((1 : Int32).toUInt32 &&& Int32.toUInt32 31)).toInt32) &&& 1431655765)) &&& 858993459) + ((((x0 - (((x0.toUInt32 >>> ((1 : Int32).toUInt32 &&& Int32.toUInt32 31)).toInt32) &&& 1431655765)).toUInt32 >>> ((2 : Int32).toUInt32 &&& Int32.toUInt32 31)).toInt32) &&& 858993459)) + (((((x0 - (((x0.toUInt32 >>> ((1 : Int32).toUInt32 &&& Int32.toUInt32 31)).toInt32) &&& 1431655765)) &&& 858993459) + ((((x0 - (((x0.toUInt32 >>> ((1 : Int32).toUInt32 &&& Int32.toUInt32 31)).toInt32) &&& 1431655765)).toUInt32 >>> ((2 : Int32).toUInt32 &&& Int32.toUInt32 31)).toInt32) &&& 858993459)).toUInt32 >>> ((4 : Int32).toUInt32 &&& Int32.toUInt32 31)).toInt32)) &&& 252645135).toUInt32 >>> ((8 : Int32).toUInt32 &&& Int32.toUInt32 31)).toInt32)) + ((((((((x0 - (((x0.toUInt32 >>> ((1 : Int32).toUInt32 &&& Int32.toUInt32 31)).toInt32) &&& 1431655765)) &&& 858993459) + ((((x0 - (((x0.toUInt32 >>> ((1 : Int32).toUInt32 &&& Int32.toUInt32 31)).toInt32) &&& 1431655765)).toUInt32 >>> ((2 : Int32).toUInt32 &&& Int32.toUInt32 31)).toInt32) &&& 858993459)) + (((((x0 - (((x0.toUInt32 >>> ((1 : Int32).toUInt32 &&& Int32.toUInt32 31)).toInt32) &&& 1431655765)) &&& 858993459) + ((((x0 - (((x0.toUInt32 >>> ((1 : Int32).toUInt32 &&& Int32.toUInt32 31)).toInt32) &&& 1431655765)).toUInt32 >>> ((2 : Int32).toUInt32 &&& Int32.toUInt32 31)).toInt32) &&& 858993459)).toUInt32 >>> ((4 : Int32).toUInt32 &&& Int32.toUInt32 31)).toInt32)) &&& 252645135) + (((((((x0 - (((x0.toUInt32 >>> ((1 : Int32).toUInt32 &&& Int32.toUInt32 31)).toInt32) &&& 1431655765)) &&& 858993459) + ((((x0 - (((x0.toUInt32 >>> ((1 : Int32).toUInt32 &&& Int32.toUInt32 31)).toInt32) &&& 1431655765)).toUInt32 >>> ((2 : Int32).toUInt32 &&& Int32.toUInt32 31)).toInt32) &&& 858993459)) + (((((x0 - (((x0.toUInt32 >>> ((1 : Int32).toUInt32 &&& Int32.toUInt32 31)).toInt32) &&& 1431655765)) &&& 858993459) + ((((x0 - (((x0.toUInt32 >>> ((1 : Int32).toUInt32 &&& Int32.toUInt32 31)).toInt32) &&& 1431655765)).toUInt32 >>> ((2 : Int32).toUInt32 &&& Int32.toUInt32 31)).toInt32) &&& 858993459)).toUInt32 >>> ((4 : Int32).toUInt32 &&& Int32.toUInt32 31)).toInt32)) &&& 252645135).toUInt32 >>> ((8 : Int32).toUInt32 &&& Int32.toUInt32 31)).toInt32)).toUInt32 >>> ((16 : Int32).toUInt32 &&& Int32.toUInt32 31)).toInt32)) &&& 63)), fm_mk S) := by
  refine fs_iloadn (j := 0) (by decide +kernel) rfl ?_
  refine fs_iloadn (j := 0) (by decide +kernel) rfl ?_
  refine fs_iconst (n := 1) (v := 1) (by decide +kernel) (by decide) ?_
  refine fs_iushr (by decide +kernel) ?_
  refine fs_ldcw (idx := 265) (q := 760) (v := 1431655765) (by decide +kernel) (by decide +kernel) ?_
  refine fs_iand (by decide +kernel) ?_
  refine fs_isub (by decide +kernel) ?_
  refine fs_istoren (j := 0) (L' := [some (.int (x0 - (((x0.toUInt32 >>> ((1 : Int32).toUInt32 &&& Int32.toUInt32 31)).toInt32) &&& 1431655765)))]) (by decide +kernel) (Nat.le_of_ble_eq_true rfl) rfl ?_
  refine fs_iloadn (j := 0) (by decide +kernel) rfl ?_
  refine fs_ldcw (idx := 266) (q := 761) (v := 858993459) (by decide +kernel) (by decide +kernel) ?_
  refine fs_iand (by decide +kernel) ?_
  refine fs_iloadn (j := 0) (by decide +kernel) rfl ?_
  refine fs_iconst (n := 2) (v := 2) (by decide +kernel) (by decide) ?_
  refine fs_iushr (by decide +kernel) ?_
  refine fs_ldcw (idx := 266) (q := 761) (v := 858993459) (by decide +kernel) (by decide +kernel) ?_
  refine fs_iand (by decide +kernel) ?_
  refine fs_iadd (by decide +kernel) ?_
  refine fs_istoren (j := 0) (L' := [some (.int (((x0 - (((x0.toUInt32 >>> ((1 : Int32).toUInt32 &&& Int32.toUInt32 31)).toInt32) &&& 1431655765)) &&& 858993459) + ((((x0 - (((x0.toUInt32 >>> ((1 : Int32).toUInt32 &&& Int32.toUInt32 31)).toInt32) &&& 1431655765)).toUInt32 >>> ((2 : Int32).toUInt32 &&& Int32.toUInt32 31)).toInt32) &&& 858993459)))]) (by decide +kernel) (Nat.le_of_ble_eq_true rfl) rfl ?_
  refine fs_iloadn (j := 0) (by decide +kernel) rfl ?_
  refine fs_iloadn (j := 0) (by decide +kernel) rfl ?_
  refine fs_iconst (n := 4) (v := 4) (by decide +kernel) (by decide) ?_
  refine fs_iushr (by decide +kernel) ?_
  refine fs_iadd (by decide +kernel) ?_
  refine fs_ldcw (idx := 267) (q := 762) (v := 252645135) (by decide +kernel) (by decide +kernel) ?_
  refine fs_iand (by decide +kernel) ?_
  refine fs_istoren (j := 0) (L' := [some (.int (((((x0 - (((x0.toUInt32 >>> ((1 : Int32).toUInt32 &&& Int32.toUInt32 31)).toInt32) &&& 1431655765)) &&& 858993459) + ((((x0 - (((x0.toUInt32 >>> ((1 : Int32).toUInt32 &&& Int32.toUInt32 31)).toInt32) &&& 1431655765)).toUInt32 >>> ((2 : Int32).toUInt32 &&& Int32.toUInt32 31)).toInt32) &&& 858993459)) + (((((x0 - (((x0.toUInt32 >>> ((1 : Int32).toUInt32 &&& Int32.toUInt32 31)).toInt32) &&& 1431655765)) &&& 858993459) + ((((x0 - (((x0.toUInt32 >>> ((1 : Int32).toUInt32 &&& Int32.toUInt32 31)).toInt32) &&& 1431655765)).toUInt32 >>> ((2 : Int32).toUInt32 &&& Int32.toUInt32 31)).toInt32) &&& 858993459)).toUInt32 >>> ((4 : Int32).toUInt32 &&& Int32.toUInt32 31)).toInt32)) &&& 252645135))]) (by decide +kernel) (Nat.le_of_ble_eq_true rfl) rfl ?_
  refine fs_iloadn (j := 0) (by decide +kernel) rfl ?_
  refine fs_iloadn (j := 0) (by decide +kernel) rfl ?_
  refine fs_bipush (n := 8) (v := 8) (by decide +kernel) (by decide) ?_
  refine fs_iushr (by decide +kernel) ?_
  refine fs_iadd (by decide +kernel) ?_
  refine fs_istoren (j := 0) (L' := [some (.int ((((((x0 - (((x0.toUInt32 >>> ((1 : Int32).toUInt32 &&& Int32.toUInt32 31)).toInt32) &&& 1431655765)) &&& 858993459) + ((((x0 - (((x0.toUInt32 >>> ((1 : Int32).toUInt32 &&& Int32.toUInt32 31)).toInt32) &&& 1431655765)).toUInt32 >>> ((2 : Int32).toUInt32 &&& Int32.toUInt32 31)).toInt32) &&& 858993459)) + (((((x0 - (((x0.toUInt32 >>> ((1 : Int32).toUInt32 &&& Int32.toUInt32 31)).toInt32) &&& 1431655765)) &&& 858993459) + ((((x0 - (((x0.toUInt32 >>> ((1 : Int32).toUInt32 &&& Int32.toUInt32 31)).toInt32) &&& 1431655765)).toUInt32 >>> ((2 : Int32).toUInt32 &&& Int32.toUInt32 31)).toInt32) &&& 858993459)).toUInt32 >>> ((4 : Int32).toUInt32 &&& Int32.toUInt32 31)).toInt32)) &&& 252645135) + (((((((x0 - (((x0.toUInt32 >>> ((1 : Int32).toUInt32 &&& Int32.toUInt32 31)).toInt32) &&& 1431655765)) &&& 858993459) + ((((x0 - (((x0.toUInt32 >>> ((1 : Int32).toUInt32 &&& Int32.toUInt32 31)).toInt32) &&& 1431655765)).toUInt32 >>> ((2 : Int32).toUInt32 &&& Int32.toUInt32 31)).toInt32) &&& 858993459)) + (((((x0 - (((x0.toUInt32 >>> ((1 : Int32).toUInt32 &&& Int32.toUInt32 31)).toInt32) &&& 1431655765)) &&& 858993459) + ((((x0 - (((x0.toUInt32 >>> ((1 : Int32).toUInt32 &&& Int32.toUInt32 31)).toInt32) &&& 1431655765)).toUInt32 >>> ((2 : Int32).toUInt32 &&& Int32.toUInt32 31)).toInt32) &&& 858993459)).toUInt32 >>> ((4 : Int32).toUInt32 &&& Int32.toUInt32 31)).toInt32)) &&& 252645135).toUInt32 >>> ((8 : Int32).toUInt32 &&& Int32.toUInt32 31)).toInt32)))]) (by decide +kernel) (Nat.le_of_ble_eq_true rfl) rfl ?_
  refine fs_iloadn (j := 0) (by decide +kernel) rfl ?_
  refine fs_iloadn (j := 0) (by decide +kernel) rfl ?_
  refine fs_bipush (n := 16) (v := 16) (by decide +kernel) (by decide) ?_
  refine fs_iushr (by decide +kernel) ?_
  refine fs_iadd (by decide +kernel) ?_
  refine fs_istoren (j := 0) (L' := [some (.int (((((((x0 - (((x0.toUInt32 >>> ((1 : Int32).toUInt32 &&& Int32.toUInt32 31)).toInt32) &&& 1431655765)) &&& 858993459) + ((((x0 - (((x0.toUInt32 >>> ((1 : Int32).toUInt32 &&& Int32.toUInt32 31)).toInt32) &&& 1431655765)).toUInt32 >>> ((2 : Int32).toUInt32 &&& Int32.toUInt32 31)).toInt32) &&& 858993459)) + (((((x0 - (((x0.toUInt32 >>> ((1 : Int32).toUInt32 &&& Int32.toUInt32 31)).toInt32) &&& 1431655765)) &&& 858993459) + ((((x0 - (((x0.toUInt32 >>> ((1 : Int32).toUInt32 &&& Int32.toUInt32 31)).toInt32) &&& 1431655765)).toUInt32 >>> ((2 : Int32).toUInt32 &&& Int32.toUInt32 31)).toInt32) &&& 858993459)).toUInt32 >>> ((4 : Int32).toUInt32 &&& Int32.toUInt32 31)).toInt32)) &&& 252645135) + (((((((x0 - (((x0.toUInt32 >>> ((1 : Int32).toUInt32 &&& Int32.toUInt32 31)).toInt32) &&& 1431655765)) &&& 858993459) + ((((x0 - (((x0.toUInt32 >>> ((1 : Int32).toUInt32 &&& Int32.toUInt32 31)).toInt32) &&& 1431655765)).toUInt32 >>> ((2 : Int32).toUInt32 &&& Int32.toUInt32 31)).toInt32) &&& 858993459)) + (((((x0 - (((x0.toUInt32 >>> ((1 : Int32).toUInt32 &&& Int32.toUInt32 31)).toInt32) &&& 1431655765)) &&& 858993459) + ((((x0 - (((x0.toUInt32 >>> ((1 : Int32).toUInt32 &&& Int32.toUInt32 31)).toInt32) &&& 1431655765)).toUInt32 >>> ((2 : Int32).toUInt32 &&& Int32.toUInt32 31)).toInt32) &&& 858993459)).toUInt32 >>> ((4 : Int32).toUInt32 &&& Int32.toUInt32 31)).toInt32)) &&& 252645135).toUInt32 >>> ((8 : Int32).toUInt32 &&& Int32.toUInt32 31)).toInt32)) + ((((((((x0 - (((x0.toUInt32 >>> ((1 : Int32).toUInt32 &&& Int32.toUInt32 31)).toInt32) &&& 1431655765)) &&& 858993459) + ((((x0 - (((x0.toUInt32 >>> ((1 : Int32).toUInt32 &&& Int32.toUInt32 31)).toInt32) &&& 1431655765)).toUInt32 >>> ((2 : Int32).toUInt32 &&& Int32.toUInt32 31)).toInt32) &&& 858993459)) + (((((x0 - (((x0.toUInt32 >>> ((1 : Int32).toUInt32 &&& Int32.toUInt32 31)).toInt32) &&& 1431655765)) &&& 858993459) + ((((x0 - (((x0.toUInt32 >>> ((1 : Int32).toUInt32 &&& Int32.toUInt32 31)).toInt32) &&& 1431655765)).toUInt32 >>> ((2 : Int32).toUInt32 &&& Int32.toUInt32 31)).toInt32) &&& 858993459)).toUInt32 >>> ((4 : Int32).toUInt32 &&& Int32.toUInt32 31)).toInt32)) &&& 252645135) + (((((((x0 - (((x0.toUInt32 >>> ((1 : Int32).toUInt32 &&& Int32.toUInt32 31)).toInt32) &&& 1431655765)) &&& 858993459) + ((((x0 - (((x0.toUInt32 >>> ((1 : Int32).toUInt32 &&& Int32.toUInt32 31)).toInt32) &&& 1431655765)).toUInt32 >>> ((2 : Int32).toUInt32 &&& Int32.toUInt32 31)).toInt32) &&& 858993459)) + (((((x0 - (((x0.toUInt32 >>> ((1 : Int32).toUInt32 &&& Int32.toUInt32 31)).toInt32) &&& 1431655765)) &&& 858993459) + ((((x0 - (((x0.toUInt32 >>> ((1 : Int32).toUInt32 &&& Int32.toUInt32 31)).toInt32) &&& 1431655765)).toUInt32 >>> ((2 : Int32).toUInt32 &&& Int32.toUInt32 31)).toInt32) &&& 858993459)).toUInt32 >>> ((4 : Int32).toUInt32 &&& Int32.toUInt32 31)).toInt32)) &&& 252645135).toUInt32 >>> ((8 : Int32).toUInt32 &&& Int32.toUInt32 31)).toInt32)).toUInt32 >>> ((16 : Int32).toUInt32 &&& Int32.toUInt32 31)).toInt32)))]) (by decide +kernel) (Nat.le_of_ble_eq_true rfl) rfl ?_
  refine fs_iloadn (j := 0) (by decide +kernel) rfl ?_
  refine fs_bipush (n := 63) (v := 63) (by decide +kernel) (by decide) ?_
  refine fs_iand (by decide +kernel) ?_
  exact fe_retI (by decide +kernel) (by decide +kernel)
-- KitchenSiege$Notes.add(IIIII)I
theorem b_Notes_add_0 {d : Nat} {a0 : Nat} {x1 : Int32} {x2 : Int32} {x3 : Int32} {x4 : Int32} {x5 : Int32} {S : fm_S} {r : Option Value × am_W} (h_a0 : fm_tg a0 = 4) (kt : (S.1 a0 0) < 6 → am_Ev d k_Notes_add 11 [some (.ref a0), some (.int x1), some (.int x2), some (.int x3), some (.int x4), some (.int x5)] [] (fm_mk S) r) (kf : ¬ (S.1 a0 0) < 6 → am_Ev d k_Notes_add 9 [some (.ref a0), some (.int x1), some (.int x2), some (.int x3), some (.int x4), some (.int x5)] [] (fm_mk S) r) : am_Ev d k_Notes_add 0 [some (.ref a0), some (.int x1), some (.int x2), some (.int x3), some (.int x4), some (.int x5)] [] (fm_mk S) r := by
  have N_a0 := fm_notes h_a0
  refine fs_aloadn (j := 0) (by decide +kernel) rfl ?_
  refine fe_getI (idx := 27) (t := 4) (f := 0) (fk := 0) (fin := 0) (wp := 95) (by decide +kernel) (by decide +kernel) h_a0 (by decide +kernel) ?_
  refine fs_bipush (n := 6) (v := 6) (by decide +kernel) (by decide) ?_
  exact fs_iclt (off := 5) (tgt := 11) (by decide +kernel) (by decide) kt kf
theorem b_Notes_add_9 {d : Nat} {a0 : Nat} {x1 : Int32} {x2 : Int32} {x3 : Int32} {x4 : Int32} {x5 : Int32} {S : fm_S}  : am_Ev d k_Notes_add 9 [some (.ref a0), some (.int x1), some (.int x2), some (.int x3), some (.int x4), some (.int x5)] [] (fm_mk S) (some (.int (-1)), fm_mk S) := by
  refine fs_iconst (n := -1) (v := (-1)) (by decide +kernel) (by decide) ?_
  exact fe_retI (by decide +kernel) (by decide +kernel)
theorem b_Notes_add_11 {d : Nat} {a0 : Nat} {x1 : Int32} {x2 : Int32} {x3 : Int32} {x4 : Int32} {x5 : Int32} {S : fm_S}  (h_a0 : fm_tg a0 = 4) (hi1 : vp_in (S.1 a0 0) 6) (hi2 : vp_in ((fm_wI S (a0 + 1) ((S.1 a0 0).toNatClampNeg) x1).1 a0 0) 6) (hi3 : vp_in ((fm_wI (fm_wI S (a0 + 1) ((S.1 a0 0).toNatClampNeg) x1) (a0 + 2) (((fm_wI S (a0 + 1) ((S.1 a0 0).toNatClampNeg) x1).1 a0 0).toNatClampNeg) x2).1 a0 0) 6) (hi4 : vp_in ((fm_wI (fm_wI (fm_wI S (a0 + 1) ((S.1 a0 0).toNatClampNeg) x1) (a0 + 2) (((fm_wI S (a0 + 1) ((S.1 a0 0).toNatClampNeg) x1).1 a0 0).toNatClampNeg) x2) (a0 + 3) (((fm_wI (fm_wI S (a0 + 1) ((S.1 a0 0).toNatClampNeg) x1) (a0 + 2) (((fm_wI S (a0 + 1) ((S.1 a0 0).toNatClampNeg) x1).1 a0 0).toNatClampNeg) x2).1 a0 0).toNatClampNeg) x3).1 a0 0) 6) (hi5 : vp_in ((fm_wI (fm_wI (fm_wI (fm_wI S (a0 + 1) ((S.1 a0 0).toNatClampNeg) x1) (a0 + 2) (((fm_wI S (a0 + 1) ((S.1 a0 0).toNatClampNeg) x1).1 a0 0).toNatClampNeg) x2) (a0 + 3) (((fm_wI (fm_wI S (a0 + 1) ((S.1 a0 0).toNatClampNeg) x1) (a0 + 2) (((fm_wI S (a0 + 1) ((S.1 a0 0).toNatClampNeg) x1).1 a0 0).toNatClampNeg) x2).1 a0 0).toNatClampNeg) x3) (a0 + 4) (((fm_wI (fm_wI (fm_wI S (a0 + 1) ((S.1 a0 0).toNatClampNeg) x1) (a0 + 2) (((fm_wI S (a0 + 1) ((S.1 a0 0).toNatClampNeg) x1).1 a0 0).toNatClampNeg) x2) (a0 + 3) (((fm_wI (fm_wI S (a0 + 1) ((S.1 a0 0).toNatClampNeg) x1) (a0 + 2) (((fm_wI S (a0 + 1) ((S.1 a0 0).toNatClampNeg) x1).1 a0 0).toNatClampNeg) x2).1 a0 0).toNatClampNeg) x3).1 a0 0).toNatClampNeg) x4).1 a0 0) 6) : am_Ev d k_Notes_add 11 [some (.ref a0), some (.int x1), some (.int x2), some (.int x3), some (.int x4), some (.int x5)] [] (fm_mk S) (some (.int ((fm_wI (fm_wI (fm_wI (fm_wI (fm_wI (fm_wI S (a0 + 1) ((S.1 a0 0).toNatClampNeg) x1) (a0 + 2) (((fm_wI S (a0 + 1) ((S.1 a0 0).toNatClampNeg) x1).1 a0 0).toNatClampNeg) x2) (a0 + 3) (((fm_wI (fm_wI S (a0 + 1) ((S.1 a0 0).toNatClampNeg) x1) (a0 + 2) (((fm_wI S (a0 + 1) ((S.1 a0 0).toNatClampNeg) x1).1 a0 0).toNatClampNeg) x2).1 a0 0).toNatClampNeg) x3) (a0 + 4) (((fm_wI (fm_wI (fm_wI S (a0 + 1) ((S.1 a0 0).toNatClampNeg) x1) (a0 + 2) (((fm_wI S (a0 + 1) ((S.1 a0 0).toNatClampNeg) x1).1 a0 0).toNatClampNeg) x2) (a0 + 3) (((fm_wI (fm_wI S (a0 + 1) ((S.1 a0 0).toNatClampNeg) x1) (a0 + 2) (((fm_wI S (a0 + 1) ((S.1 a0 0).toNatClampNeg) x1).1 a0 0).toNatClampNeg) x2).1 a0 0).toNatClampNeg) x3).1 a0 0).toNatClampNeg) x4) (a0 + 5) (((fm_wI (fm_wI (fm_wI (fm_wI S (a0 + 1) ((S.1 a0 0).toNatClampNeg) x1) (a0 + 2) (((fm_wI S (a0 + 1) ((S.1 a0 0).toNatClampNeg) x1).1 a0 0).toNatClampNeg) x2) (a0 + 3) (((fm_wI (fm_wI S (a0 + 1) ((S.1 a0 0).toNatClampNeg) x1) (a0 + 2) (((fm_wI S (a0 + 1) ((S.1 a0 0).toNatClampNeg) x1).1 a0 0).toNatClampNeg) x2).1 a0 0).toNatClampNeg) x3) (a0 + 4) (((fm_wI (fm_wI (fm_wI S (a0 + 1) ((S.1 a0 0).toNatClampNeg) x1) (a0 + 2) (((fm_wI S (a0 + 1) ((S.1 a0 0).toNatClampNeg) x1).1 a0 0).toNatClampNeg) x2) (a0 + 3) (((fm_wI (fm_wI S (a0 + 1) ((S.1 a0 0).toNatClampNeg) x1) (a0 + 2) (((fm_wI S (a0 + 1) ((S.1 a0 0).toNatClampNeg) x1).1 a0 0).toNatClampNeg) x2).1 a0 0).toNatClampNeg) x3).1 a0 0).toNatClampNeg) x4).1 a0 0).toNatClampNeg) x5) a0 0 (((fm_wI (fm_wI (fm_wI (fm_wI (fm_wI S (a0 + 1) ((S.1 a0 0).toNatClampNeg) x1) (a0 + 2) (((fm_wI S (a0 + 1) ((S.1 a0 0).toNatClampNeg) x1).1 a0 0).toNatClampNeg) x2) (a0 + 3) (((fm_wI (fm_wI S (a0 + 1) ((S.1 a0 0).toNatClampNeg) x1) (a0 + 2) (((fm_wI S (a0 + 1) ((S.1 a0 0).toNatClampNeg) x1).1 a0 0).toNatClampNeg) x2).1 a0 0).toNatClampNeg) x3) (a0 + 4) (((fm_wI (fm_wI (fm_wI S (a0 + 1) ((S.1 a0 0).toNatClampNeg) x1) (a0 + 2) (((fm_wI S (a0 + 1) ((S.1 a0 0).toNatClampNeg) x1).1 a0 0).toNatClampNeg) x2) (a0 + 3) (((fm_wI (fm_wI S (a0 + 1) ((S.1 a0 0).toNatClampNeg) x1) (a0 + 2) (((fm_wI S (a0 + 1) ((S.1 a0 0).toNatClampNeg) x1).1 a0 0).toNatClampNeg) x2).1 a0 0).toNatClampNeg) x3).1 a0 0).toNatClampNeg) x4) (a0 + 5) (((fm_wI (fm_wI (fm_wI (fm_wI S (a0 + 1) ((S.1 a0 0).toNatClampNeg) x1) (a0 + 2) (((fm_wI S (a0 + 1) ((S.1 a0 0).toNatClampNeg) x1).1 a0 0).toNatClampNeg) x2) (a0 + 3) (((fm_wI (fm_wI S (a0 + 1) ((S.1 a0 0).toNatClampNeg) x1) (a0 + 2) (((fm_wI S (a0 + 1) ((S.1 a0 0).toNatClampNeg) x1).1 a0 0).toNatClampNeg) x2).1 a0 0).toNatClampNeg) x3) (a0 + 4) (((fm_wI (fm_wI (fm_wI S (a0 + 1) ((S.1 a0 0).toNatClampNeg) x1) (a0 + 2) (((fm_wI S (a0 + 1) ((S.1 a0 0).toNatClampNeg) x1).1 a0 0).toNatClampNeg) x2) (a0 + 3) (((fm_wI (fm_wI S (a0 + 1) ((S.1 a0 0).toNatClampNeg) x1) (a0 + 2) (((fm_wI S (a0 + 1) ((S.1 a0 0).toNatClampNeg) x1).1 a0 0).toNatClampNeg) x2).1 a0 0).toNatClampNeg) x3).1 a0 0).toNatClampNeg) x4).1 a0 0).toNatClampNeg) x5).1 a0 0) + 1)).1 a0 0)), fm_mk (fm_wI (fm_wI (fm_wI (fm_wI (fm_wI (fm_wI S (a0 + 1) ((S.1 a0 0).toNatClampNeg) x1) (a0 + 2) (((fm_wI S (a0 + 1) ((S.1 a0 0).toNatClampNeg) x1).1 a0 0).toNatClampNeg) x2) (a0 + 3) (((fm_wI (fm_wI S (a0 + 1) ((S.1 a0 0).toNatClampNeg) x1) (a0 + 2) (((fm_wI S (a0 + 1) ((S.1 a0 0).toNatClampNeg) x1).1 a0 0).toNatClampNeg) x2).1 a0 0).toNatClampNeg) x3) (a0 + 4) (((fm_wI (fm_wI (fm_wI S (a0 + 1) ((S.1 a0 0).toNatClampNeg) x1) (a0 + 2) (((fm_wI S (a0 + 1) ((S.1 a0 0).toNatClampNeg) x1).1 a0 0).toNatClampNeg) x2) (a0 + 3) (((fm_wI (fm_wI S (a0 + 1) ((S.1 a0 0).toNatClampNeg) x1) (a0 + 2) (((fm_wI S (a0 + 1) ((S.1 a0 0).toNatClampNeg) x1).1 a0 0).toNatClampNeg) x2).1 a0 0).toNatClampNeg) x3).1 a0 0).toNatClampNeg) x4) (a0 + 5) (((fm_wI (fm_wI (fm_wI (fm_wI S (a0 + 1) ((S.1 a0 0).toNatClampNeg) x1) (a0 + 2) (((fm_wI S (a0 + 1) ((S.1 a0 0).toNatClampNeg) x1).1 a0 0).toNatClampNeg) x2) (a0 + 3) (((fm_wI (fm_wI S (a0 + 1) ((S.1 a0 0).toNatClampNeg) x1) (a0 + 2) (((fm_wI S (a0 + 1) ((S.1 a0 0).toNatClampNeg) x1).1 a0 0).toNatClampNeg) x2).1 a0 0).toNatClampNeg) x3) (a0 + 4) (((fm_wI (fm_wI (fm_wI S (a0 + 1) ((S.1 a0 0).toNatClampNeg) x1) (a0 + 2) (((fm_wI S (a0 + 1) ((S.1 a0 0).toNatClampNeg) x1).1 a0 0).toNatClampNeg) x2) (a0 + 3) (((fm_wI (fm_wI S (a0 + 1) ((S.1 a0 0).toNatClampNeg) x1) (a0 + 2) (((fm_wI S (a0 + 1) ((S.1 a0 0).toNatClampNeg) x1).1 a0 0).toNatClampNeg) x2).1 a0 0).toNatClampNeg) x3).1 a0 0).toNatClampNeg) x4).1 a0 0).toNatClampNeg) x5) a0 0 (((fm_wI (fm_wI (fm_wI (fm_wI (fm_wI S (a0 + 1) ((S.1 a0 0).toNatClampNeg) x1) (a0 + 2) (((fm_wI S (a0 + 1) ((S.1 a0 0).toNatClampNeg) x1).1 a0 0).toNatClampNeg) x2) (a0 + 3) (((fm_wI (fm_wI S (a0 + 1) ((S.1 a0 0).toNatClampNeg) x1) (a0 + 2) (((fm_wI S (a0 + 1) ((S.1 a0 0).toNatClampNeg) x1).1 a0 0).toNatClampNeg) x2).1 a0 0).toNatClampNeg) x3) (a0 + 4) (((fm_wI (fm_wI (fm_wI S (a0 + 1) ((S.1 a0 0).toNatClampNeg) x1) (a0 + 2) (((fm_wI S (a0 + 1) ((S.1 a0 0).toNatClampNeg) x1).1 a0 0).toNatClampNeg) x2) (a0 + 3) (((fm_wI (fm_wI S (a0 + 1) ((S.1 a0 0).toNatClampNeg) x1) (a0 + 2) (((fm_wI S (a0 + 1) ((S.1 a0 0).toNatClampNeg) x1).1 a0 0).toNatClampNeg) x2).1 a0 0).toNatClampNeg) x3).1 a0 0).toNatClampNeg) x4) (a0 + 5) (((fm_wI (fm_wI (fm_wI (fm_wI S (a0 + 1) ((S.1 a0 0).toNatClampNeg) x1) (a0 + 2) (((fm_wI S (a0 + 1) ((S.1 a0 0).toNatClampNeg) x1).1 a0 0).toNatClampNeg) x2) (a0 + 3) (((fm_wI (fm_wI S (a0 + 1) ((S.1 a0 0).toNatClampNeg) x1) (a0 + 2) (((fm_wI S (a0 + 1) ((S.1 a0 0).toNatClampNeg) x1).1 a0 0).toNatClampNeg) x2).1 a0 0).toNatClampNeg) x3) (a0 + 4) (((fm_wI (fm_wI (fm_wI S (a0 + 1) ((S.1 a0 0).toNatClampNeg) x1) (a0 + 2) (((fm_wI S (a0 + 1) ((S.1 a0 0).toNatClampNeg) x1).1 a0 0).toNatClampNeg) x2) (a0 + 3) (((fm_wI (fm_wI S (a0 + 1) ((S.1 a0 0).toNatClampNeg) x1) (a0 + 2) (((fm_wI S (a0 + 1) ((S.1 a0 0).toNatClampNeg) x1).1 a0 0).toNatClampNeg) x2).1 a0 0).toNatClampNeg) x3).1 a0 0).toNatClampNeg) x4).1 a0 0).toNatClampNeg) x5).1 a0 0) + 1))) := by
  have N_a0 := fm_notes h_a0
  refine fs_aloadn (j := 0) (by decide +kernel) rfl ?_
  refine fe_getR (idx := 9) (t := 4) (f := 1) (fk := 2) (fin := 1) (wp := 98) (x := a0 + 1) (by decide +kernel) (by decide +kernel) h_a0 (by decide +kernel) (fm_objrf h_a0 (by decide) (by decide +kernel) (by decide +kernel)) ?_
  refine fs_aloadn (j := 0) (by decide +kernel) rfl ?_
  refine fe_getI (idx := 27) (t := 4) (f := 0) (fk := 0) (fin := 0) (wp := 95) (by decide +kernel) (by decide +kernel) h_a0 (by decide +kernel) ?_
  refine fs_iloadn (j := 1) (by decide +kernel) rfl ?_
  refine fx_iast (n := (S.1 a0 0).toNatClampNeg) (len := 6) (by decide +kernel) N_a0.1 N_a0.2.1 hi1 rfl ?_
  refine fs_aloadn (j := 0) (by decide +kernel) rfl ?_
  refine fe_getR (idx := 15) (t := 4) (f := 2) (fk := 2) (fin := 1) (wp := 99) (x := a0 + 2) (by decide +kernel) (by decide +kernel) h_a0 (by decide +kernel) (fm_objrf h_a0 (by decide) (by decide +kernel) (by decide +kernel)) ?_
  refine fs_aloadn (j := 0) (by decide +kernel) rfl ?_
  refine fe_getI (idx := 27) (t := 4) (f := 0) (fk := 0) (fin := 0) (wp := 95) (by decide +kernel) (by decide +kernel) h_a0 (by decide +kernel) ?_
  refine fs_iloadn (j := 2) (by decide +kernel) rfl ?_
  refine fx_iast (n := ((fm_wI S (a0 + 1) ((S.1 a0 0).toNatClampNeg) x1).1 a0 0).toNatClampNeg) (len := 6) (by decide +kernel) N_a0.2.2.1 N_a0.2.2.2.1 hi2 rfl ?_
  refine fs_aloadn (j := 0) (by decide +kernel) rfl ?_
  refine fe_getR (idx := 18) (t := 4) (f := 3) (fk := 2) (fin := 1) (wp := 100) (x := a0 + 3) (by decide +kernel) (by decide +kernel) h_a0 (by decide +kernel) (fm_objrf h_a0 (by decide) (by decide +kernel) (by decide +kernel)) ?_
  refine fs_aloadn (j := 0) (by decide +kernel) rfl ?_
  refine fe_getI (idx := 27) (t := 4) (f := 0) (fk := 0) (fin := 0) (wp := 95) (by decide +kernel) (by decide +kernel) h_a0 (by decide +kernel) ?_
  refine fs_iloadn (j := 3) (by decide +kernel) rfl ?_
  refine fx_iast (n := ((fm_wI (fm_wI S (a0 + 1) ((S.1 a0 0).toNatClampNeg) x1) (a0 + 2) (((fm_wI S (a0 + 1) ((S.1 a0 0).toNatClampNeg) x1).1 a0 0).toNatClampNeg) x2).1 a0 0).toNatClampNeg) (len := 6) (by decide +kernel) N_a0.2.2.2.2.1 N_a0.2.2.2.2.2.1 hi3 rfl ?_
  refine fs_aloadn (j := 0) (by decide +kernel) rfl ?_
  refine fe_getR (idx := 21) (t := 4) (f := 4) (fk := 2) (fin := 1) (wp := 101) (x := a0 + 4) (by decide +kernel) (by decide +kernel) h_a0 (by decide +kernel) (fm_objrf h_a0 (by decide) (by decide +kernel) (by decide +kernel)) ?_
  refine fs_aloadn (j := 0) (by decide +kernel) rfl ?_
  refine fe_getI (idx := 27) (t := 4) (f := 0) (fk := 0) (fin := 0) (wp := 95) (by decide +kernel) (by decide +kernel) h_a0 (by decide +kernel) ?_
  refine fs_iload (j := 4) (by decide +kernel) rfl ?_
  refine fx_iast (n := ((fm_wI (fm_wI (fm_wI S (a0 + 1) ((S.1 a0 0).toNatClampNeg) x1) (a0 + 2) (((fm_wI S (a0 + 1) ((S.1 a0 0).toNatClampNeg) x1).1 a0 0).toNatClampNeg) x2) (a0 + 3) (((fm_wI (fm_wI S (a0 + 1) ((S.1 a0 0).toNatClampNeg) x1) (a0 + 2) (((fm_wI S (a0 + 1) ((S.1 a0 0).toNatClampNeg) x1).1 a0 0).toNatClampNeg) x2).1 a0 0).toNatClampNeg) x3).1 a0 0).toNatClampNeg) (len := 6) (by decide +kernel) N_a0.2.2.2.2.2.2.1 N_a0.2.2.2.2.2.2.2.1 hi4 rfl ?_
  refine fs_aloadn (j := 0) (by decide +kernel) rfl ?_
  refine fe_getR (idx := 24) (t := 4) (f := 5) (fk := 2) (fin := 1) (wp := 102) (x := a0 + 5) (by decide +kernel) (by decide +kernel) h_a0 (by decide +kernel) (fm_objrf h_a0 (by decide) (by decide +kernel) (by decide +kernel)) ?_
  refine fs_aloadn (j := 0) (by decide +kernel) rfl ?_
  refine fe_getI (idx := 27) (t := 4) (f := 0) (fk := 0) (fin := 0) (wp := 95) (by decide +kernel) (by decide +kernel) h_a0 (by decide +kernel) ?_
  refine fs_iload (j := 5) (by decide +kernel) rfl ?_
  refine fx_iast (n := ((fm_wI (fm_wI (fm_wI (fm_wI S (a0 + 1) ((S.1 a0 0).toNatClampNeg) x1) (a0 + 2) (((fm_wI S (a0 + 1) ((S.1 a0 0).toNatClampNeg) x1).1 a0 0).toNatClampNeg) x2) (a0 + 3) (((fm_wI (fm_wI S (a0 + 1) ((S.1 a0 0).toNatClampNeg) x1) (a0 + 2) (((fm_wI S (a0 + 1) ((S.1 a0 0).toNatClampNeg) x1).1 a0 0).toNatClampNeg) x2).1 a0 0).toNatClampNeg) x3) (a0 + 4) (((fm_wI (fm_wI (fm_wI S (a0 + 1) ((S.1 a0 0).toNatClampNeg) x1) (a0 + 2) (((fm_wI S (a0 + 1) ((S.1 a0 0).toNatClampNeg) x1).1 a0 0).toNatClampNeg) x2) (a0 + 3) (((fm_wI (fm_wI S (a0 + 1) ((S.1 a0 0).toNatClampNeg) x1) (a0 + 2) (((fm_wI S (a0 + 1) ((S.1 a0 0).toNatClampNeg) x1).1 a0 0).toNatClampNeg) x2).1 a0 0).toNatClampNeg) x3).1 a0 0).toNatClampNeg) x4).1 a0 0).toNatClampNeg) (len := 6) (by decide +kernel) N_a0.2.2.2.2.2.2.2.2.1 N_a0.2.2.2.2.2.2.2.2.2 hi5 rfl ?_
  refine fs_aloadn (j := 0) (by decide +kernel) rfl ?_
  refine fs_dup (by decide +kernel) rfl ?_
  refine fe_getI (idx := 27) (t := 4) (f := 0) (fk := 0) (fin := 0) (wp := 95) (by decide +kernel) (by decide +kernel) h_a0 (by decide +kernel) ?_
  refine fs_iconst (n := 1) (v := 1) (by decide +kernel) (by decide) ?_
  refine fs_iadd (by decide +kernel) ?_
  refine fe_putI (idx := 27) (t := 4) (f := 0) (wp := 95) (by decide +kernel) (by decide +kernel) h_a0 (by decide +kernel) ?_
  refine fs_aloadn (j := 0) (by decide +kernel) rfl ?_
  refine fe_getI (idx := 27) (t := 4) (f := 0) (fk := 0) (fin := 0) (wp := 95) (by decide +kernel) (by decide +kernel) h_a0 (by decide +kernel) ?_
  exact fe_retI (by decide +kernel) (by decide +kernel)
-- KitchenSiege$Notes.cravings(II)I
theorem b_Notes_cravings_0 {d : Nat} {a0 : Nat} {x1 : Int32} {x2 : Int32} {o3 : Option Value} {o4 : Option Value} {S : fm_S} {r : Option Value × am_W} (nx : am_Ev d k_Notes_cravings 5 [some (.ref a0), some (.int x1), some (.int x2), some (.int 0), some (.int 0)] [] (fm_mk S) r) : am_Ev d k_Notes_cravings 0 [some (.ref a0), some (.int x1), some (.int x2), o3, o4] [] (fm_mk S) r := by
  refine fs_iconst (n := 0) (v := 0) (by decide +kernel) (by decide) ?_
  refine fs_istoren (j := 3) (L' := [some (.ref a0), some (.int x1), some (.int x2), some (.int 0), o4]) (by decide +kernel) (Nat.le_of_ble_eq_true rfl) rfl ?_
  refine fs_iconst (n := 0) (v := 0) (by decide +kernel) (by decide) ?_
  refine fs_istore (j := 4) (L' := [some (.ref a0), some (.int x1), some (.int x2), some (.int 0), some (.int 0)]) (by decide +kernel) (Nat.le_of_ble_eq_true rfl) rfl ?_
  exact nx
theorem b_Notes_cravings_5 {d : Nat} {a0 : Nat} {x1 : Int32} {x2 : Int32} {x3 : Int32} {x4 : Int32} {S : fm_S} {r : Option Value × am_W} (kt : 6 ≤ x4 → am_Ev d k_Notes_cravings 36 [some (.ref a0), some (.int x1), some (.int x2), some (.int x3), some (.int x4)] [] (fm_mk S) r) (kf : ¬ 6 ≤ x4 → am_Ev d k_Notes_cravings 12 [some (.ref a0), some (.int x1), some (.int x2), some (.int x3), some (.int x4)] [] (fm_mk S) r) : am_Ev d k_Notes_cravings 5 [some (.ref a0), some (.int x1), some (.int x2), some (.int x3), some (.int x4)] [] (fm_mk S) r := by
  refine fs_iload (j := 4) (by decide +kernel) rfl ?_
  refine fs_bipush (n := 6) (v := 6) (by decide +kernel) (by decide) ?_
  exact fs_icge (off := 27) (tgt := 36) (by decide +kernel) (by decide) kt kf
theorem b_Notes_cravings_12 {d : Nat} {a0 : Nat} {x1 : Int32} {x2 : Int32} {x3 : Int32} {x4 : Int32} {v : Int32} {S1 : fm_S} {S : fm_S} {r : Option Value × am_W} (h_a0 : fm_tg a0 = 4) (hc : am_Sp d k_Notes_allSo [.ref a0, .int x1, .int x2, .int x4] (fm_mk S) (some (.int v)) (fm_mk S1)) (nx : am_Ev (d + 1) k_Notes_cravings 20 [some (.ref a0), some (.int x1), some (.int x2), some (.int x3), some (.int x4)] [.int v] (fm_mk S1) r) : am_Ev (d + 1) k_Notes_cravings 12 [some (.ref a0), some (.int x1), some (.int x2), some (.int x3), some (.int x4)] [] (fm_mk S) r := by
  have N_a0 := fm_notes h_a0
  refine fs_aloadn (j := 0) (by decide +kernel) rfl ?_
  refine fs_iloadn (j := 1) (by decide +kernel) rfl ?_
  refine fs_iloadn (j := 2) (by decide +kernel) rfl ?_
  refine fs_iload (j := 4) (by decide +kernel) rfl ?_
  exact fe_callV (t := 4) (idx := 37) (n := 3) (wp := 815) (q := (817, 30)) (as := [.int x1, .int x2, .int x4]) (rs := []) (by decide +kernel) (by decide +kernel) h_a0 (by decide +kernel) rfl (Nat.le_of_ble_eq_true rfl) rfl hc nx
theorem b_Notes_cravings_20 {d : Nat} {a0 : Nat} {x1 : Int32} {x2 : Int32} {x3 : Int32} {x4 : Int32} {sx0 : Int32} {S : fm_S} {r : Option Value × am_W} (kt : sx0 = 0 → am_Ev d k_Notes_cravings 30 [some (.ref a0), some (.int x1), some (.int x2), some (.int x3), some (.int x4)] [] (fm_mk S) r) (kf : ¬ sx0 = 0 → am_Ev d k_Notes_cravings 23 [some (.ref a0), some (.int x1), some (.int x2), some (.int x3), some (.int x4)] [] (fm_mk S) r) : am_Ev d k_Notes_cravings 20 [some (.ref a0), some (.int x1), some (.int x2), some (.int x3), some (.int x4)] [.int sx0] (fm_mk S) r := by
  exact fs_ifeq (off := 10) (tgt := 30) (by decide +kernel) (by decide) kt kf
theorem b_Notes_cravings_23 {d : Nat} {a0 : Nat} {x1 : Int32} {x2 : Int32} {x3 : Int32} {x4 : Int32} {S : fm_S} {r : Option Value × am_W} (nx : am_Ev d k_Notes_cravings 30 [some (.ref a0), some (.int x1), some (.int x2), some (.int (x3 ||| (1 <<< (x4 &&& 31)))), some (.int x4)] [] (fm_mk S) r) : am_Ev d k_Notes_cravings 23 [some (.ref a0), some (.int x1), some (.int x2), some (.int x3), some (.int x4)] [] (fm_mk S) r := by
  refine fs_iloadn (j := 3) (by decide +kernel) rfl ?_
  refine fs_iconst (n := 1) (v := 1) (by decide +kernel) (by decide) ?_
  refine fs_iload (j := 4) (by decide +kernel) rfl ?_
  refine fs_ishl (by decide +kernel) ?_
  refine fs_ior (by decide +kernel) ?_
  refine fs_istoren (j := 3) (L' := [some (.ref a0), some (.int x1), some (.int x2), some (.int (x3 ||| (1 <<< (x4 &&& 31)))), some (.int x4)]) (by decide +kernel) (Nat.le_of_ble_eq_true rfl) rfl ?_
  exact nx
theorem b_Notes_cravings_30 {d : Nat} {a0 : Nat} {x1 : Int32} {x2 : Int32} {x3 : Int32} {x4 : Int32} {S : fm_S} {r : Option Value × am_W} (nx : am_Ev d k_Notes_cravings 5 [some (.ref a0), some (.int x1), some (.int x2), some (.int x3), some (.int (x4 + 1))] [] (fm_mk S) r) : am_Ev d k_Notes_cravings 30 [some (.ref a0), some (.int x1), some (.int x2), some (.int x3), some (.int x4)] [] (fm_mk S) r := by
  refine fs_iinc (j := 4) (n := 1) (v := 1) (L' := [some (.ref a0), some (.int x1), some (.int x2), some (.int x3), some (.int (x4 + 1))]) (by decide +kernel) rfl (Nat.le_of_ble_eq_true rfl) (by decide) rfl ?_
  refine fs_goto (off := -28) (tgt := 5) (by decide +kernel) (by decide) ?_
  exact nx
theorem b_Notes_cravings_36 {d : Nat} {a0 : Nat} {x1 : Int32} {x2 : Int32} {x3 : Int32} {x4 : Int32} {S : fm_S}  : am_Ev d k_Notes_cravings 36 [some (.ref a0), some (.int x1), some (.int x2), some (.int x3), some (.int x4)] [] (fm_mk S) (some (.int x3), fm_mk S) := by
  refine fs_iloadn (j := 3) (by decide +kernel) rfl ?_
  exact fe_retI (by decide +kernel) (by decide +kernel)
-- KitchenSiege$Notes.allSo(III)Z
theorem b_Notes_allSo_0 {d : Nat} {a0 : Nat} {x1 : Int32} {x2 : Int32} {x3 : Int32} {o4 : Option Value} {o5 : Option Value} {S : fm_S} {r : Option Value × am_W} (nx : am_Ev d k_Notes_allSo 3 [some (.ref a0), some (.int x1), some (.int x2), some (.int x3), some (.int 0), o5] [] (fm_mk S) r) : am_Ev d k_Notes_allSo 0 [some (.ref a0), some (.int x1), some (.int x2), some (.int x3), o4, o5] [] (fm_mk S) r := by
  refine fs_iconst (n := 0) (v := 0) (by decide +kernel) (by decide) ?_
  refine fs_istore (j := 4) (L' := [some (.ref a0), some (.int x1), some (.int x2), some (.int x3), some (.int 0), o5]) (by decide +kernel) (Nat.le_of_ble_eq_true rfl) rfl ?_
  exact nx
theorem b_Notes_allSo_3 {d : Nat} {a0 : Nat} {x1 : Int32} {x2 : Int32} {x3 : Int32} {x4 : Int32} {o5 : Option Value} {S : fm_S} {r : Option Value × am_W} (h_a0 : fm_tg a0 = 4) (kt : (S.1 a0 0) ≤ x4 → am_Ev d k_Notes_allSo 80 [some (.ref a0), some (.int x1), some (.int x2), some (.int x3), some (.int x4), o5] [] (fm_mk S) r) (kf : ¬ (S.1 a0 0) ≤ x4 → am_Ev d k_Notes_allSo 12 [some (.ref a0), some (.int x1), some (.int x2), some (.int x3), some (.int x4), o5] [] (fm_mk S) r) : am_Ev d k_Notes_allSo 3 [some (.ref a0), some (.int x1), some (.int x2), some (.int x3), some (.int x4), o5] [] (fm_mk S) r := by
  have N_a0 := fm_notes h_a0
  refine fs_iload (j := 4) (by decide +kernel) rfl ?_
  refine fs_aloadn (j := 0) (by decide +kernel) rfl ?_
  refine fe_getI (idx := 27) (t := 4) (f := 0) (fk := 0) (fin := 0) (wp := 95) (by decide +kernel) (by decide +kernel) h_a0 (by decide +kernel) ?_
  exact fs_icge (off := 71) (tgt := 80) (by decide +kernel) (by decide) kt kf
theorem b_Notes_allSo_12 {d : Nat} {a0 : Nat} {x1 : Int32} {x2 : Int32} {x3 : Int32} {x4 : Int32} {o5 : Option Value} {S : fm_S} {r : Option Value × am_W} (h_a0 : fm_tg a0 = 4) (hi1 : vp_in x4 6) (kt : ¬ (S.1 (a0 + 1) x4.toNatClampNeg) = x1 → am_Ev d k_Notes_allSo 74 [some (.ref a0), some (.int x1), some (.int x2), some (.int x3), some (.int x4), o5] [] (fm_mk S) r) (kf : (S.1 (a0 + 1) x4.toNatClampNeg) = x1 → am_Ev d k_Notes_allSo 23 [some (.ref a0), some (.int x1), some (.int x2), some (.int x3), some (.int x4), o5] [] (fm_mk S) r) : am_Ev d k_Notes_allSo 12 [some (.ref a0), some (.int x1), some (.int x2), some (.int x3), some (.int x4), o5] [] (fm_mk S) r := by
  have N_a0 := fm_notes h_a0
  refine fs_aloadn (j := 0) (by decide +kernel) rfl ?_
  refine fe_getR (idx := 9) (t := 4) (f := 1) (fk := 2) (fin := 1) (wp := 98) (x := a0 + 1) (by decide +kernel) (by decide +kernel) h_a0 (by decide +kernel) (fm_objrf h_a0 (by decide) (by decide +kernel) (by decide +kernel)) ?_
  refine fs_iload (j := 4) (by decide +kernel) rfl ?_
  refine fx_iald (n := x4.toNatClampNeg) (len := 6) (by decide +kernel) N_a0.1 N_a0.2.1 hi1 rfl ?_
  refine fs_iloadn (j := 1) (by decide +kernel) rfl ?_
  exact fs_icne (off := 54) (tgt := 74) (by decide +kernel) (by decide) kt kf
theorem b_Notes_allSo_23 {d : Nat} {a0 : Nat} {x1 : Int32} {x2 : Int32} {x3 : Int32} {x4 : Int32} {o5 : Option Value} {v : Int32} {S1 : fm_S} {S : fm_S} {r : Option Value × am_W} (h_a0 : fm_tg a0 = 4) (hi1 : vp_in x4 6) (hc : am_Sp d k_Nose_opensAlone [.int x2, .int x3, .int (S.1 (a0 + 2) x4.toNatClampNeg), .int (S.1 (a0 + 3) x4.toNatClampNeg), .int (S.1 (a0 + 4) x4.toNatClampNeg)] (fm_mk S) (some (.int v)) (fm_mk S1)) (nx : am_Ev (d + 1) k_Notes_allSo 49 [some (.ref a0), some (.int x1), some (.int x2), some (.int x3), some (.int x4), o5] [.int v] (fm_mk S1) r) : am_Ev (d + 1) k_Notes_allSo 23 [some (.ref a0), some (.int x1), some (.int x2), some (.int x3), some (.int x4), o5] [] (fm_mk S) r := by
  have N_a0 := fm_notes h_a0
  refine fs_iloadn (j := 2) (by decide +kernel) rfl ?_
  refine fs_iloadn (j := 3) (by decide +kernel) rfl ?_
  refine fs_aloadn (j := 0) (by decide +kernel) rfl ?_
  refine fe_getR (idx := 15) (t := 4) (f := 2) (fk := 2) (fin := 1) (wp := 99) (x := a0 + 2) (by decide +kernel) (by decide +kernel) h_a0 (by decide +kernel) (fm_objrf h_a0 (by decide) (by decide +kernel) (by decide +kernel)) ?_
  refine fs_iload (j := 4) (by decide +kernel) rfl ?_
  refine fx_iald (n := x4.toNatClampNeg) (len := 6) (by decide +kernel) N_a0.2.2.1 N_a0.2.2.2.1 hi1 rfl ?_
  refine fs_aloadn (j := 0) (by decide +kernel) rfl ?_
  refine fe_getR (idx := 18) (t := 4) (f := 3) (fk := 2) (fin := 1) (wp := 100) (x := a0 + 3) (by decide +kernel) (by decide +kernel) h_a0 (by decide +kernel) (fm_objrf h_a0 (by decide) (by decide +kernel) (by decide +kernel)) ?_
  refine fs_iload (j := 4) (by decide +kernel) rfl ?_
  refine fx_iald (n := x4.toNatClampNeg) (len := 6) (by decide +kernel) N_a0.2.2.2.2.1 N_a0.2.2.2.2.2.1 hi1 rfl ?_
  refine fs_aloadn (j := 0) (by decide +kernel) rfl ?_
  refine fe_getR (idx := 21) (t := 4) (f := 4) (fk := 2) (fin := 1) (wp := 101) (x := a0 + 4) (by decide +kernel) (by decide +kernel) h_a0 (by decide +kernel) (fm_objrf h_a0 (by decide) (by decide +kernel) (by decide +kernel)) ?_
  refine fs_iload (j := 4) (by decide +kernel) rfl ?_
  refine fx_iald (n := x4.toNatClampNeg) (len := 6) (by decide +kernel) N_a0.2.2.2.2.2.2.1 N_a0.2.2.2.2.2.2.2.1 hi1 rfl ?_
  exact fe_callS (idx := 41) (kd := 0) (n := 5) (wp := 819) (q := (820, 0)) (as := [.int x2, .int x3, .int (S.1 (a0 + 2) x4.toNatClampNeg), .int (S.1 (a0 + 3) x4.toNatClampNeg), .int (S.1 (a0 + 4) x4.toNatClampNeg)]) (rs := []) (by decide +kernel) (by decide +kernel) (by decide +kernel) (by decide) rfl (Nat.le_of_ble_eq_true rfl) rfl hc nx
theorem b_Notes_allSo_49 {d : Nat} {a0 : Nat} {x1 : Int32} {x2 : Int32} {x3 : Int32} {x4 : Int32} {o5 : Option Value} {sx0 : Int32} {S : fm_S} {r : Option Value × am_W} (h_a0 : fm_tg a0 = 4) (hi1 : vp_in x4 6) (kt : ¬ (S.1 (a0 + 5) x4.toNatClampNeg) = 1 → am_Ev d k_Notes_allSo 68 [some (.ref a0), some (.int x1), some (.int x2), some (.int x3), some (.int x4), some (.int sx0)] [.int sx0] (fm_mk S) r) (kf : (S.1 (a0 + 5) x4.toNatClampNeg) = 1 → am_Ev d k_Notes_allSo 64 [some (.ref a0), some (.int x1), some (.int x2), some (.int x3), some (.int x4), some (.int sx0)] [.int sx0] (fm_mk S) r) : am_Ev d k_Notes_allSo 49 [some (.ref a0), some (.int x1), some (.int x2), some (.int x3), some (.int x4), o5] [.int sx0] (fm_mk S) r := by
  have N_a0 := fm_notes h_a0
  refine fs_istore (j := 5) (L' := [some (.ref a0), some (.int x1), some (.int x2), some (.int x3), some (.int x4), some (.int sx0)]) (by decide +kernel) (Nat.le_of_ble_eq_true rfl) rfl ?_
  refine fs_iload (j := 5) (by decide +kernel) rfl ?_
  refine fs_aloadn (j := 0) (by decide +kernel) rfl ?_
  refine fe_getR (idx := 24) (t := 4) (f := 5) (fk := 2) (fin := 1) (wp := 102) (x := a0 + 5) (by decide +kernel) (by decide +kernel) h_a0 (by decide +kernel) (fm_objrf h_a0 (by decide) (by decide +kernel) (by decide +kernel)) ?_
  refine fs_iload (j := 4) (by decide +kernel) rfl ?_
  refine fx_iald (n := x4.toNatClampNeg) (len := 6) (by decide +kernel) N_a0.2.2.2.2.2.2.2.2.1 N_a0.2.2.2.2.2.2.2.2.2 hi1 rfl ?_
  refine fs_iconst (n := 1) (v := 1) (by decide +kernel) (by decide) ?_
  exact fs_icne (off := 7) (tgt := 68) (by decide +kernel) (by decide) kt kf
theorem b_Notes_allSo_64 {d : Nat} {a0 : Nat} {x1 : Int32} {x2 : Int32} {x3 : Int32} {x4 : Int32} {x5 : Int32} {sx0 : Int32} {S : fm_S} {r : Option Value × am_W} (nx : am_Ev d k_Notes_allSo 69 [some (.ref a0), some (.int x1), some (.int x2), some (.int x3), some (.int x4), some (.int x5)] [.int 1, .int sx0] (fm_mk S) r) : am_Ev d k_Notes_allSo 64 [some (.ref a0), some (.int x1), some (.int x2), some (.int x3), some (.int x4), some (.int x5)] [.int sx0] (fm_mk S) r := by
  refine fs_iconst (n := 1) (v := 1) (by decide +kernel) (by decide) ?_
  refine fs_goto (off := 4) (tgt := 69) (by decide +kernel) (by decide) ?_
  exact nx
theorem b_Notes_allSo_68 {d : Nat} {a0 : Nat} {x1 : Int32} {x2 : Int32} {x3 : Int32} {x4 : Int32} {x5 : Int32} {sx0 : Int32} {S : fm_S} {r : Option Value × am_W} (nx : am_Ev d k_Notes_allSo 69 [some (.ref a0), some (.int x1), some (.int x2), some (.int x3), some (.int x4), some (.int x5)] [.int 0, .int sx0] (fm_mk S) r) : am_Ev d k_Notes_allSo 68 [some (.ref a0), some (.int x1), some (.int x2), some (.int x3), some (.int x4), some (.int x5)] [.int sx0] (fm_mk S) r := by
  refine fs_iconst (n := 0) (v := 0) (by decide +kernel) (by decide) ?_
  exact nx
theorem b_Notes_allSo_69 {d : Nat} {a0 : Nat} {x1 : Int32} {x2 : Int32} {x3 : Int32} {x4 : Int32} {x5 : Int32} {sx0 : Int32} {sx1 : Int32} {S : fm_S} {r : Option Value × am_W} (kt : sx0 = sx1 → am_Ev d k_Notes_allSo 74 [some (.ref a0), some (.int x1), some (.int x2), some (.int x3), some (.int x4), some (.int x5)] [] (fm_mk S) r) (kf : ¬ sx0 = sx1 → am_Ev d k_Notes_allSo 72 [some (.ref a0), some (.int x1), some (.int x2), some (.int x3), some (.int x4), some (.int x5)] [] (fm_mk S) r) : am_Ev d k_Notes_allSo 69 [some (.ref a0), some (.int x1), some (.int x2), some (.int x3), some (.int x4), some (.int x5)] [.int sx1, .int sx0] (fm_mk S) r := by
  exact fs_iceq (off := 5) (tgt := 74) (by decide +kernel) (by decide) kt kf
theorem b_Notes_allSo_72 {d : Nat} {a0 : Nat} {x1 : Int32} {x2 : Int32} {x3 : Int32} {x4 : Int32} {x5 : Int32} {S : fm_S}  : am_Ev d k_Notes_allSo 72 [some (.ref a0), some (.int x1), some (.int x2), some (.int x3), some (.int x4), some (.int x5)] [] (fm_mk S) (some (.int 0), fm_mk S) := by
  refine fs_iconst (n := 0) (v := 0) (by decide +kernel) (by decide) ?_
  exact fe_retZ (by decide +kernel) (by decide +kernel) (by decide)
theorem b_Notes_allSo_74 {d : Nat} {a0 : Nat} {x1 : Int32} {x2 : Int32} {x3 : Int32} {x4 : Int32} {o5 : Option Value} {S : fm_S} {r : Option Value × am_W} (nx : am_Ev d k_Notes_allSo 3 [some (.ref a0), some (.int x1), some (.int x2), some (.int x3), some (.int (x4 + 1)), o5] [] (fm_mk S) r) : am_Ev d k_Notes_allSo 74 [some (.ref a0), some (.int x1), some (.int x2), some (.int x3), some (.int x4), o5] [] (fm_mk S) r := by
  refine fs_iinc (j := 4) (n := 1) (v := 1) (L' := [some (.ref a0), some (.int x1), some (.int x2), some (.int x3), some (.int (x4 + 1)), o5]) (by decide +kernel) rfl (Nat.le_of_ble_eq_true rfl) (by decide) rfl ?_
  refine fs_goto (off := -74) (tgt := 3) (by decide +kernel) (by decide) ?_
  exact nx
theorem b_Notes_allSo_80 {d : Nat} {a0 : Nat} {x1 : Int32} {x2 : Int32} {x3 : Int32} {x4 : Int32} {o5 : Option Value} {S : fm_S}  : am_Ev d k_Notes_allSo 80 [some (.ref a0), some (.int x1), some (.int x2), some (.int x3), some (.int x4), o5] [] (fm_mk S) (some (.int 1), fm_mk S) := by
  refine fs_iconst (n := 1) (v := 1) (by decide +kernel) (by decide) ?_
  exact fe_retZ (by decide +kernel) (by decide +kernel) (by decide)
-- KitchenSiege$Nose.opensAlone(IIIII)Z
theorem b_Nose_opensAlone_0 {d : Nat} {x0 : Int32} {x1 : Int32} {x2 : Int32} {x3 : Int32} {x4 : Int32} {v : Int32} {S1 : fm_S} {S : fm_S} {r : Option Value × am_W} (hc : am_Sp d k_Nose_pull [.int x0, .int x1, .int x2, .int x3, .int x4, .int 0] (fm_mk S) (some (.int v)) (fm_mk S1)) (nx : am_Ev (d + 1) k_Nose_opensAlone 10 [some (.int x0), some (.int x1), some (.int x2), some (.int x3), some (.int x4)] [.int v] (fm_mk S1) r) : am_Ev (d + 1) k_Nose_opensAlone 0 [some (.int x0), some (.int x1), some (.int x2), some (.int x3), some (.int x4)] [] (fm_mk S) r := by
  refine fs_iloadn (j := 0) (by decide +kernel) rfl ?_
  refine fs_iloadn (j := 1) (by decide +kernel) rfl ?_
  refine fs_iloadn (j := 2) (by decide +kernel) rfl ?_
  refine fs_iloadn (j := 3) (by decide +kernel) rfl ?_
  refine fs_iload (j := 4) (by decide +kernel) rfl ?_
  refine fs_iconst (n := 0) (v := 0) (by decide +kernel) (by decide) ?_
  exact fe_callS (idx := 11) (kd := 0) (n := 6) (wp := 822) (q := (647, 0)) (as := [.int x0, .int x1, .int x2, .int x3, .int x4, .int 0]) (rs := []) (by decide +kernel) (by decide +kernel) (by decide +kernel) (by decide) rfl (Nat.le_of_ble_eq_true rfl) rfl hc nx
theorem b_Nose_opensAlone_10 {d : Nat} {x0 : Int32} {x1 : Int32} {x2 : Int32} {x3 : Int32} {x4 : Int32} {sx0 : Int32} {S : fm_S} {r : Option Value × am_W} (kt : sx0 < 10 → am_Ev d k_Nose_opensAlone 19 [some (.int x0), some (.int x1), some (.int x2), some (.int x3), some (.int x4)] [] (fm_mk S) r) (kf : ¬ sx0 < 10 → am_Ev d k_Nose_opensAlone 15 [some (.int x0), some (.int x1), some (.int x2), some (.int x3), some (.int x4)] [] (fm_mk S) r) : am_Ev d k_Nose_opensAlone 10 [some (.int x0), some (.int x1), some (.int x2), some (.int x3), some (.int x4)] [.int sx0] (fm_mk S) r := by
  refine fs_bipush (n := 10) (v := 10) (by decide +kernel) (by decide) ?_
  exact fs_iclt (off := 7) (tgt := 19) (by decide +kernel) (by decide) kt kf
theorem b_Nose_opensAlone_15 {d : Nat} {x0 : Int32} {x1 : Int32} {x2 : Int32} {x3 : Int32} {x4 : Int32} {S : fm_S} {r : Option Value × am_W} (nx : am_Ev d k_Nose_opensAlone 20 [some (.int x0), some (.int x1), some (.int x2), some (.int x3), some (.int x4)] [.int 1] (fm_mk S) r) : am_Ev d k_Nose_opensAlone 15 [some (.int x0), some (.int x1), some (.int x2), some (.int x3), some (.int x4)] [] (fm_mk S) r := by
  refine fs_iconst (n := 1) (v := 1) (by decide +kernel) (by decide) ?_
  refine fs_goto (off := 4) (tgt := 20) (by decide +kernel) (by decide) ?_
  exact nx
theorem b_Nose_opensAlone_19 {d : Nat} {x0 : Int32} {x1 : Int32} {x2 : Int32} {x3 : Int32} {x4 : Int32} {S : fm_S} {r : Option Value × am_W} (nx : am_Ev d k_Nose_opensAlone 20 [some (.int x0), some (.int x1), some (.int x2), some (.int x3), some (.int x4)] [.int 0] (fm_mk S) r) : am_Ev d k_Nose_opensAlone 19 [some (.int x0), some (.int x1), some (.int x2), some (.int x3), some (.int x4)] [] (fm_mk S) r := by
  refine fs_iconst (n := 0) (v := 0) (by decide +kernel) (by decide) ?_
  exact nx
theorem b_Nose_opensAlone_20 {d : Nat} {x0 : Int32} {x1 : Int32} {x2 : Int32} {x3 : Int32} {x4 : Int32} {sx0 : Int32} {S : fm_S}  (hz : sx0 = 0 ∨ sx0 = 1) : am_Ev d k_Nose_opensAlone 20 [some (.int x0), some (.int x1), some (.int x2), some (.int x3), some (.int x4)] [.int sx0] (fm_mk S) (some (.int sx0), fm_mk S) := by
  exact fe_retZ (by decide +kernel) (by decide +kernel) hz
-- KitchenSiege$Notes.bestTrial(IIII)I
theorem b_Notes_bestTrial_0 {d : Nat} {a0 : Nat} {x1 : Int32} {x2 : Int32} {x3 : Int32} {x4 : Int32} {o5 : Option Value} {o6 : Option Value} {o7 : Option Value} {o8 : Option Value} {o9 : Option Value} {o10 : Option Value} {v : Int32} {S1 : fm_S} {S : fm_S} {r : Option Value × am_W} (h_a0 : fm_tg a0 = 4) (hc : am_Sp d k_Notes_cravings [.ref a0, .int x1, .int x2] (fm_mk S) (some (.int v)) (fm_mk S1)) (nx : am_Ev (d + 1) k_Notes_bestTrial 6 [some (.ref a0), some (.int x1), some (.int x2), some (.int x3), some (.int x4), o5, o6, o7, o8, o9, o10] [.int v] (fm_mk S1) r) : am_Ev (d + 1) k_Notes_bestTrial 0 [some (.ref a0), some (.int x1), some (.int x2), some (.int x3), some (.int x4), o5, o6, o7, o8, o9, o10] [] (fm_mk S) r := by
  have N_a0 := fm_notes h_a0
  refine fs_aloadn (j := 0) (by decide +kernel) rfl ?_
  refine fs_iloadn (j := 1) (by decide +kernel) rfl ?_
  refine fs_iloadn (j := 2) (by decide +kernel) rfl ?_
  exact fe_callV (t := 4) (idx := 47) (n := 2) (wp := 835) (q := (812, 813)) (as := [.int x1, .int x2]) (rs := []) (by decide +kernel) (by decide +kernel) h_a0 (by decide +kernel) rfl (Nat.le_of_ble_eq_true rfl) rfl hc nx
theorem b_Notes_bestTrial_6 {d : Nat} {a0 : Nat} {x1 : Int32} {x2 : Int32} {x3 : Int32} {x4 : Int32} {o5 : Option Value} {o6 : Option Value} {o7 : Option Value} {o8 : Option Value} {o9 : Option Value} {o10 : Option Value} {sx0 : Int32} {S : fm_S} {r : Option Value × am_W} (kt : ¬ sx0 = 0 → am_Ev d k_Notes_bestTrial 15 [some (.ref a0), some (.int x1), some (.int x2), some (.int x3), some (.int x4), some (.int sx0), o6, o7, o8, o9, o10] [] (fm_mk S) r) (kf : sx0 = 0 → am_Ev d k_Notes_bestTrial 13 [some (.ref a0), some (.int x1), some (.int x2), some (.int x3), some (.int x4), some (.int sx0), o6, o7, o8, o9, o10] [] (fm_mk S) r) : am_Ev d k_Notes_bestTrial 6 [some (.ref a0), some (.int x1), some (.int x2), some (.int x3), some (.int x4), o5, o6, o7, o8, o9, o10] [.int sx0] (fm_mk S) r := by
  refine fs_istore (j := 5) (L' := [some (.ref a0), some (.int x1), some (.int x2), some (.int x3), some (.int x4), some (.int sx0), o6, o7, o8, o9, o10]) (by decide +kernel) (Nat.le_of_ble_eq_true rfl) rfl ?_
  refine fs_iload (j := 5) (by decide +kernel) rfl ?_
  exact fs_ifne (off := 5) (tgt := 15) (by decide +kernel) (by decide) kt kf
theorem b_Notes_bestTrial_13 {d : Nat} {a0 : Nat} {x1 : Int32} {x2 : Int32} {x3 : Int32} {x4 : Int32} {x5 : Int32} {o6 : Option Value} {o7 : Option Value} {o8 : Option Value} {o9 : Option Value} {o10 : Option Value} {S : fm_S}  : am_Ev d k_Notes_bestTrial 13 [some (.ref a0), some (.int x1), some (.int x2), some (.int x3), some (.int x4), some (.int x5), o6, o7, o8, o9, o10] [] (fm_mk S) (some (.int (-1)), fm_mk S) := by
  refine fs_iconst (n := -1) (v := (-1)) (by decide +kernel) (by decide) ?_
  exact fe_retI (by decide +kernel) (by decide +kernel)
theorem b_Notes_bestTrial_15 {d : Nat} {a0 : Nat} {x1 : Int32} {x2 : Int32} {x3 : Int32} {x4 : Int32} {x5 : Int32} {o6 : Option Value} {o7 : Option Value} {o8 : Option Value} {o9 : Option Value} {o10 : Option Value} {S : fm_S} {r : Option Value × am_W} (nx : am_Ev d k_Notes_bestTrial 25 [some (.ref a0), some (.int x1), some (.int x2), some (.int x3), some (.int x4), some (.int x5), some (.int (-1)), some (.int 7), some (.int 0), o9, o10] [] (fm_mk S) r) : am_Ev d k_Notes_bestTrial 15 [some (.ref a0), some (.int x1), some (.int x2), some (.int x3), some (.int x4), some (.int x5), o6, o7, o8, o9, o10] [] (fm_mk S) r := by
  refine fs_iconst (n := -1) (v := (-1)) (by decide +kernel) (by decide) ?_
  refine fs_istore (j := 6) (L' := [some (.ref a0), some (.int x1), some (.int x2), some (.int x3), some (.int x4), some (.int x5), some (.int (-1)), o7, o8, o9, o10]) (by decide +kernel) (Nat.le_of_ble_eq_true rfl) rfl ?_
  refine fs_bipush (n := 7) (v := 7) (by decide +kernel) (by decide) ?_
  refine fs_istore (j := 7) (L' := [some (.ref a0), some (.int x1), some (.int x2), some (.int x3), some (.int x4), some (.int x5), some (.int (-1)), some (.int 7), o8, o9, o10]) (by decide +kernel) (Nat.le_of_ble_eq_true rfl) rfl ?_
  refine fs_iconst (n := 0) (v := 0) (by decide +kernel) (by decide) ?_
  refine fs_istore (j := 8) (L' := [some (.ref a0), some (.int x1), some (.int x2), some (.int x3), some (.int x4), some (.int x5), some (.int (-1)), some (.int 7), some (.int 0), o9, o10]) (by decide +kernel) (Nat.le_of_ble_eq_true rfl) rfl ?_
  exact nx
theorem b_Notes_bestTrial_25 {d : Nat} {a0 : Nat} {x1 : Int32} {x2 : Int32} {x3 : Int32} {x4 : Int32} {x5 : Int32} {x6 : Int32} {x7 : Int32} {x8 : Int32} {o9 : Option Value} {o10 : Option Value} {S : fm_S} {r : Option Value × am_W} (kt : 6 ≤ x8 → am_Ev d k_Notes_bestTrial 81 [some (.ref a0), some (.int x1), some (.int x2), some (.int x3), some (.int x4), some (.int x5), some (.int x6), some (.int x7), some (.int x8), o9, o10] [] (fm_mk S) r) (kf : ¬ 6 ≤ x8 → am_Ev d k_Notes_bestTrial 32 [some (.ref a0), some (.int x1), some (.int x2), some (.int x3), some (.int x4), some (.int x5), some (.int x6), some (.int x7), some (.int x8), o9, o10] [] (fm_mk S) r) : am_Ev d k_Notes_bestTrial 25 [some (.ref a0), some (.int x1), some (.int x2), some (.int x3), some (.int x4), some (.int x5), some (.int x6), some (.int x7), some (.int x8), o9, o10] [] (fm_mk S) r := by
  refine fs_iload (j := 8) (by decide +kernel) rfl ?_
  refine fs_bipush (n := 6) (v := 6) (by decide +kernel) (by decide) ?_
  exact fs_icge (off := 52) (tgt := 81) (by decide +kernel) (by decide) kt kf
theorem b_Notes_bestTrial_32 {d : Nat} {a0 : Nat} {x1 : Int32} {x2 : Int32} {x3 : Int32} {x4 : Int32} {x5 : Int32} {x6 : Int32} {x7 : Int32} {x8 : Int32} {o9 : Option Value} {o10 : Option Value} {v : Int32} {S1 : fm_S} {S : fm_S} {r : Option Value × am_W} (hc : am_Sp d k_Notes_openers [.int x5, .int x2, .int x8, .int x3, .int x4] (fm_mk S) (some (.int v)) (fm_mk S1)) (nx : am_Ev (d + 1) k_Notes_bestTrial 43 [some (.ref a0), some (.int x1), some (.int x2), some (.int x3), some (.int x4), some (.int x5), some (.int x6), some (.int x7), some (.int x8), o9, o10] [.int v] (fm_mk S1) r) : am_Ev (d + 1) k_Notes_bestTrial 32 [some (.ref a0), some (.int x1), some (.int x2), some (.int x3), some (.int x4), some (.int x5), some (.int x6), some (.int x7), some (.int x8), o9, o10] [] (fm_mk S) r := by
  refine fs_iload (j := 5) (by decide +kernel) rfl ?_
  refine fs_iloadn (j := 2) (by decide +kernel) rfl ?_
  refine fs_iload (j := 8) (by decide +kernel) rfl ?_
  refine fs_iloadn (j := 3) (by decide +kernel) rfl ?_
  refine fs_iload (j := 4) (by decide +kernel) rfl ?_
  exact fe_callS (idx := 51) (kd := 0) (n := 5) (wp := 836) (q := (837, 0)) (as := [.int x5, .int x2, .int x8, .int x3, .int x4]) (rs := []) (by decide +kernel) (by decide +kernel) (by decide +kernel) (by decide) rfl (Nat.le_of_ble_eq_true rfl) rfl hc nx
theorem b_Notes_bestTrial_43 {d : Nat} {a0 : Nat} {x1 : Int32} {x2 : Int32} {x3 : Int32} {x4 : Int32} {x5 : Int32} {x6 : Int32} {x7 : Int32} {x8 : Int32} {o9 : Option Value} {o10 : Option Value} {sx0 : Int32} {v : Int32} {S1 : fm_S} {S : fm_S} {r : Option Value × am_W} (hc : am_Sp d k_Int_bitCount [.int x5] (fm_mk S) (some (.int v)) (fm_mk S1)) (nx : am_Ev (d + 1) k_Notes_bestTrial 52 [some (.ref a0), some (.int x1), some (.int x2), some (.int x3), some (.int x4), some (.int x5), some (.int x6), some (.int x7), some (.int x8), some (.int sx0), o10] [.int v, .int sx0] (fm_mk S1) r) : am_Ev (d + 1) k_Notes_bestTrial 43 [some (.ref a0), some (.int x1), some (.int x2), some (.int x3), some (.int x4), some (.int x5), some (.int x6), some (.int x7), some (.int x8), o9, o10] [.int sx0] (fm_mk S) r := by
  refine fs_istore (j := 9) (L' := [some (.ref a0), some (.int x1), some (.int x2), some (.int x3), some (.int x4), some (.int x5), some (.int x6), some (.int x7), some (.int x8), some (.int sx0), o10]) (by decide +kernel) (Nat.le_of_ble_eq_true rfl) rfl ?_
  refine fs_iload (j := 9) (by decide +kernel) rfl ?_
  refine fs_iload (j := 5) (by decide +kernel) rfl ?_
  exact fe_callS (idx := 55) (kd := 0) (n := 1) (wp := 840) (q := (758, 0)) (as := [.int x5]) (rs := [.int sx0]) (by decide +kernel) (by decide +kernel) (by decide +kernel) (by decide) rfl (Nat.le_of_ble_eq_true rfl) rfl hc nx
theorem b_Notes_bestTrial_52 {d : Nat} {a0 : Nat} {x1 : Int32} {x2 : Int32} {x3 : Int32} {x4 : Int32} {x5 : Int32} {x6 : Int32} {x7 : Int32} {x8 : Int32} {x9 : Int32} {o10 : Option Value} {sx0 : Int32} {sx1 : Int32} {v : Int32} {S1 : fm_S} {S : fm_S} {r : Option Value × am_W} (hc : am_Sp d k_Math_max [.int sx0, .int (sx1 - x9)] (fm_mk S) (some (.int v)) (fm_mk S1)) (nx : am_Ev (d + 1) k_Notes_bestTrial 58 [some (.ref a0), some (.int x1), some (.int x2), some (.int x3), some (.int x4), some (.int x5), some (.int x6), some (.int x7), some (.int x8), some (.int x9), o10] [.int v] (fm_mk S1) r) : am_Ev (d + 1) k_Notes_bestTrial 52 [some (.ref a0), some (.int x1), some (.int x2), some (.int x3), some (.int x4), some (.int x5), some (.int x6), some (.int x7), some (.int x8), some (.int x9), o10] [.int sx1, .int sx0] (fm_mk S) r := by
  refine fs_iload (j := 9) (by decide +kernel) rfl ?_
  refine fs_isub (by decide +kernel) ?_
  exact fe_callS (idx := 61) (kd := 0) (n := 2) (wp := 841) (q := (619, 0)) (as := [.int sx0, .int (sx1 - x9)]) (rs := []) (by decide +kernel) (by decide +kernel) (by decide +kernel) (by decide) rfl (Nat.le_of_ble_eq_true rfl) rfl hc nx
theorem b_Notes_bestTrial_58 {d : Nat} {a0 : Nat} {x1 : Int32} {x2 : Int32} {x3 : Int32} {x4 : Int32} {x5 : Int32} {x6 : Int32} {x7 : Int32} {x8 : Int32} {x9 : Int32} {o10 : Option Value} {sx0 : Int32} {S : fm_S} {r : Option Value × am_W} (kt : x7 ≤ sx0 → am_Ev d k_Notes_bestTrial 75 [some (.ref a0), some (.int x1), some (.int x2), some (.int x3), some (.int x4), some (.int x5), some (.int x6), some (.int x7), some (.int x8), some (.int x9), some (.int sx0)] [] (fm_mk S) r) (kf : ¬ x7 ≤ sx0 → am_Ev d k_Notes_bestTrial 67 [some (.ref a0), some (.int x1), some (.int x2), some (.int x3), some (.int x4), some (.int x5), some (.int x6), some (.int x7), some (.int x8), some (.int x9), some (.int sx0)] [] (fm_mk S) r) : am_Ev d k_Notes_bestTrial 58 [some (.ref a0), some (.int x1), some (.int x2), some (.int x3), some (.int x4), some (.int x5), some (.int x6), some (.int x7), some (.int x8), some (.int x9), o10] [.int sx0] (fm_mk S) r := by
  refine fs_istore (j := 10) (L' := [some (.ref a0), some (.int x1), some (.int x2), some (.int x3), some (.int x4), some (.int x5), some (.int x6), some (.int x7), some (.int x8), some (.int x9), some (.int sx0)]) (by decide +kernel) (Nat.le_of_ble_eq_true rfl) rfl ?_
  refine fs_iload (j := 10) (by decide +kernel) rfl ?_
  refine fs_iload (j := 7) (by decide +kernel) rfl ?_
  exact fs_icge (off := 11) (tgt := 75) (by decide +kernel) (by decide) kt kf
theorem b_Notes_bestTrial_67 {d : Nat} {a0 : Nat} {x1 : Int32} {x2 : Int32} {x3 : Int32} {x4 : Int32} {x5 : Int32} {x6 : Int32} {x7 : Int32} {x8 : Int32} {x9 : Int32} {x10 : Int32} {S : fm_S} {r : Option Value × am_W} (nx : am_Ev d k_Notes_bestTrial 75 [some (.ref a0), some (.int x1), some (.int x2), some (.int x3), some (.int x4), some (.int x5), some (.int x8), some (.int x10), some (.int x8), some (.int x9), some (.int x10)] [] (fm_mk S) r) : am_Ev d k_Notes_bestTrial 67 [some (.ref a0), some (.int x1), some (.int x2), some (.int x3), some (.int x4), some (.int x5), some (.int x6), some (.int x7), some (.int x8), some (.int x9), some (.int x10)] [] (fm_mk S) r := by
  refine fs_iload (j := 8) (by decide +kernel) rfl ?_
  refine fs_istore (j := 6) (L' := [some (.ref a0), some (.int x1), some (.int x2), some (.int x3), some (.int x4), some (.int x5), some (.int x8), some (.int x7), some (.int x8), some (.int x9), some (.int x10)]) (by decide +kernel) (Nat.le_of_ble_eq_true rfl) rfl ?_
  refine fs_iload (j := 10) (by decide +kernel) rfl ?_
  refine fs_istore (j := 7) (L' := [some (.ref a0), some (.int x1), some (.int x2), some (.int x3), some (.int x4), some (.int x5), some (.int x8), some (.int x10), some (.int x8), some (.int x9), some (.int x10)]) (by decide +kernel) (Nat.le_of_ble_eq_true rfl) rfl ?_
  exact nx
theorem b_Notes_bestTrial_75 {d : Nat} {a0 : Nat} {x1 : Int32} {x2 : Int32} {x3 : Int32} {x4 : Int32} {x5 : Int32} {x6 : Int32} {x7 : Int32} {x8 : Int32} {x9 : Int32} {x10 : Int32} {S : fm_S} {r : Option Value × am_W} (nx : am_Ev d k_Notes_bestTrial 25 [some (.ref a0), some (.int x1), some (.int x2), some (.int x3), some (.int x4), some (.int x5), some (.int x6), some (.int x7), some (.int (x8 + 1)), some (.int x9), some (.int x10)] [] (fm_mk S) r) : am_Ev d k_Notes_bestTrial 75 [some (.ref a0), some (.int x1), some (.int x2), some (.int x3), some (.int x4), some (.int x5), some (.int x6), some (.int x7), some (.int x8), some (.int x9), some (.int x10)] [] (fm_mk S) r := by
  refine fs_iinc (j := 8) (n := 1) (v := 1) (L' := [some (.ref a0), some (.int x1), some (.int x2), some (.int x3), some (.int x4), some (.int x5), some (.int x6), some (.int x7), some (.int (x8 + 1)), some (.int x9), some (.int x10)]) (by decide +kernel) rfl (Nat.le_of_ble_eq_true rfl) (by decide) rfl ?_
  refine fs_goto (off := -53) (tgt := 25) (by decide +kernel) (by decide) ?_
  exact nx
theorem b_Notes_bestTrial_81 {d : Nat} {a0 : Nat} {x1 : Int32} {x2 : Int32} {x3 : Int32} {x4 : Int32} {x5 : Int32} {x6 : Int32} {x7 : Int32} {x8 : Int32} {o9 : Option Value} {o10 : Option Value} {S : fm_S}  : am_Ev d k_Notes_bestTrial 81 [some (.ref a0), some (.int x1), some (.int x2), some (.int x3), some (.int x4), some (.int x5), some (.int x6), some (.int x7), some (.int x8), o9, o10] [] (fm_mk S) (some (.int x6), fm_mk S) := by
  refine fs_iload (j := 6) (by decide +kernel) rfl ?_
  exact fe_retI (by decide +kernel) (by decide +kernel)
-- KitchenSiege$Notes.openers(IIIII)I
theorem b_Notes_openers_0 {d : Nat} {x0 : Int32} {x1 : Int32} {x2 : Int32} {x3 : Int32} {x4 : Int32} {o5 : Option Value} {o6 : Option Value} {S : fm_S} {r : Option Value × am_W} (nx : am_Ev d k_Notes_openers 6 [some (.int x0), some (.int x1), some (.int x2), some (.int x3), some (.int x4), some (.int 0), some (.int 0)] [] (fm_mk S) r) : am_Ev d k_Notes_openers 0 [some (.int x0), some (.int x1), some (.int x2), some (.int x3), some (.int x4), o5, o6] [] (fm_mk S) r := by
  refine fs_iconst (n := 0) (v := 0) (by decide +kernel) (by decide) ?_
  refine fs_istore (j := 5) (L' := [some (.int x0), some (.int x1), some (.int x2), some (.int x3), some (.int x4), some (.int 0), o6]) (by decide +kernel) (Nat.le_of_ble_eq_true rfl) rfl ?_
  refine fs_iconst (n := 0) (v := 0) (by decide +kernel) (by decide) ?_
  refine fs_istore (j := 6) (L' := [some (.int x0), some (.int x1), some (.int x2), some (.int x3), some (.int x4), some (.int 0), some (.int 0)]) (by decide +kernel) (Nat.le_of_ble_eq_true rfl) rfl ?_
  exact nx
theorem b_Notes_openers_6 {d : Nat} {x0 : Int32} {x1 : Int32} {x2 : Int32} {x3 : Int32} {x4 : Int32} {x5 : Int32} {x6 : Int32} {S : fm_S} {r : Option Value × am_W} (kt : 6 ≤ x6 → am_Ev d k_Notes_openers 44 [some (.int x0), some (.int x1), some (.int x2), some (.int x3), some (.int x4), some (.int x5), some (.int x6)] [] (fm_mk S) r) (kf : ¬ 6 ≤ x6 → am_Ev d k_Notes_openers 13 [some (.int x0), some (.int x1), some (.int x2), some (.int x3), some (.int x4), some (.int x5), some (.int x6)] [] (fm_mk S) r) : am_Ev d k_Notes_openers 6 [some (.int x0), some (.int x1), some (.int x2), some (.int x3), some (.int x4), some (.int x5), some (.int x6)] [] (fm_mk S) r := by
  refine fs_iload (j := 6) (by decide +kernel) rfl ?_
  refine fs_bipush (n := 6) (v := 6) (by decide +kernel) (by decide) ?_
  exact fs_icge (off := 34) (tgt := 44) (by decide +kernel) (by decide) kt kf
theorem b_Notes_openers_13 {d : Nat} {x0 : Int32} {x1 : Int32} {x2 : Int32} {x3 : Int32} {x4 : Int32} {x5 : Int32} {x6 : Int32} {v : Int32} {S1 : fm_S} {S : fm_S} {r : Option Value × am_W} (hc : am_Sp d k_X_has [.int x0, .int x6] (fm_mk S) (some (.int v)) (fm_mk S1)) (nx : am_Ev (d + 1) k_Notes_openers 19 [some (.int x0), some (.int x1), some (.int x2), some (.int x3), some (.int x4), some (.int x5), some (.int x6)] [.int v] (fm_mk S1) r) : am_Ev (d + 1) k_Notes_openers 13 [some (.int x0), some (.int x1), some (.int x2), some (.int x3), some (.int x4), some (.int x5), some (.int x6)] [] (fm_mk S) r := by
  refine fs_iloadn (j := 0) (by decide +kernel) rfl ?_
  refine fs_iload (j := 6) (by decide +kernel) rfl ?_
  exact fe_callS (idx := 66) (kd := 4) (n := 2) (wp := 839) (q := (398, 0)) (as := [.int x0, .int x6]) (rs := []) (by decide +kernel) (by decide +kernel) (by decide +kernel) (by decide) rfl (Nat.le_of_ble_eq_true rfl) rfl hc nx
theorem b_Notes_openers_19 {d : Nat} {x0 : Int32} {x1 : Int32} {x2 : Int32} {x3 : Int32} {x4 : Int32} {x5 : Int32} {x6 : Int32} {sx0 : Int32} {S : fm_S} {r : Option Value × am_W} (kt : sx0 = 0 → am_Ev d k_Notes_openers 38 [some (.int x0), some (.int x1), some (.int x2), some (.int x3), some (.int x4), some (.int x5), some (.int x6)] [] (fm_mk S) r) (kf : ¬ sx0 = 0 → am_Ev d k_Notes_openers 22 [some (.int x0), some (.int x1), some (.int x2), some (.int x3), some (.int x4), some (.int x5), some (.int x6)] [] (fm_mk S) r) : am_Ev d k_Notes_openers 19 [some (.int x0), some (.int x1), some (.int x2), some (.int x3), some (.int x4), some (.int x5), some (.int x6)] [.int sx0] (fm_mk S) r := by
  exact fs_ifeq (off := 19) (tgt := 38) (by decide +kernel) (by decide) kt kf
theorem b_Notes_openers_22 {d : Nat} {x0 : Int32} {x1 : Int32} {x2 : Int32} {x3 : Int32} {x4 : Int32} {x5 : Int32} {x6 : Int32} {v : Int32} {S1 : fm_S} {S : fm_S} {r : Option Value × am_W} (hc : am_Sp d k_Nose_opensAlone [.int x1, .int x6, .int x2, .int x3, .int x4] (fm_mk S) (some (.int v)) (fm_mk S1)) (nx : am_Ev (d + 1) k_Notes_openers 32 [some (.int x0), some (.int x1), some (.int x2), some (.int x3), some (.int x4), some (.int x5), some (.int x6)] [.int v] (fm_mk S1) r) : am_Ev (d + 1) k_Notes_openers 22 [some (.int x0), some (.int x1), some (.int x2), some (.int x3), some (.int x4), some (.int x5), some (.int x6)] [] (fm_mk S) r := by
  refine fs_iloadn (j := 1) (by decide +kernel) rfl ?_
  refine fs_iload (j := 6) (by decide +kernel) rfl ?_
  refine fs_iloadn (j := 2) (by decide +kernel) rfl ?_
  refine fs_iloadn (j := 3) (by decide +kernel) rfl ?_
  refine fs_iload (j := 4) (by decide +kernel) rfl ?_
  exact fe_callS (idx := 41) (kd := 0) (n := 5) (wp := 819) (q := (820, 0)) (as := [.int x1, .int x6, .int x2, .int x3, .int x4]) (rs := []) (by decide +kernel) (by decide +kernel) (by decide +kernel) (by decide) rfl (Nat.le_of_ble_eq_true rfl) rfl hc nx
theorem b_Notes_openers_32 {d : Nat} {x0 : Int32} {x1 : Int32} {x2 : Int32} {x3 : Int32} {x4 : Int32} {x5 : Int32} {x6 : Int32} {sx0 : Int32} {S : fm_S} {r : Option Value × am_W} (kt : sx0 = 0 → am_Ev d k_Notes_openers 38 [some (.int x0), some (.int x1), some (.int x2), some (.int x3), some (.int x4), some (.int x5), some (.int x6)] [] (fm_mk S) r) (kf : ¬ sx0 = 0 → am_Ev d k_Notes_openers 35 [some (.int x0), some (.int x1), some (.int x2), some (.int x3), some (.int x4), some (.int x5), some (.int x6)] [] (fm_mk S) r) : am_Ev d k_Notes_openers 32 [some (.int x0), some (.int x1), some (.int x2), some (.int x3), some (.int x4), some (.int x5), some (.int x6)] [.int sx0] (fm_mk S) r := by
  exact fs_ifeq (off := 6) (tgt := 38) (by decide +kernel) (by decide) kt kf
theorem b_Notes_openers_35 {d : Nat} {x0 : Int32} {x1 : Int32} {x2 : Int32} {x3 : Int32} {x4 : Int32} {x5 : Int32} {x6 : Int32} {S : fm_S} {r : Option Value × am_W} (nx : am_Ev d k_Notes_openers 38 [some (.int x0), some (.int x1), some (.int x2), some (.int x3), some (.int x4), some (.int (x5 + 1)), some (.int x6)] [] (fm_mk S) r) : am_Ev d k_Notes_openers 35 [some (.int x0), some (.int x1), some (.int x2), some (.int x3), some (.int x4), some (.int x5), some (.int x6)] [] (fm_mk S) r := by
  refine fs_iinc (j := 5) (n := 1) (v := 1) (L' := [some (.int x0), some (.int x1), some (.int x2), some (.int x3), some (.int x4), some (.int (x5 + 1)), some (.int x6)]) (by decide +kernel) rfl (Nat.le_of_ble_eq_true rfl) (by decide) rfl ?_
  exact nx
theorem b_Notes_openers_38 {d : Nat} {x0 : Int32} {x1 : Int32} {x2 : Int32} {x3 : Int32} {x4 : Int32} {x5 : Int32} {x6 : Int32} {S : fm_S} {r : Option Value × am_W} (nx : am_Ev d k_Notes_openers 6 [some (.int x0), some (.int x1), some (.int x2), some (.int x3), some (.int x4), some (.int x5), some (.int (x6 + 1))] [] (fm_mk S) r) : am_Ev d k_Notes_openers 38 [some (.int x0), some (.int x1), some (.int x2), some (.int x3), some (.int x4), some (.int x5), some (.int x6)] [] (fm_mk S) r := by
  refine fs_iinc (j := 6) (n := 1) (v := 1) (L' := [some (.int x0), some (.int x1), some (.int x2), some (.int x3), some (.int x4), some (.int x5), some (.int (x6 + 1))]) (by decide +kernel) rfl (Nat.le_of_ble_eq_true rfl) (by decide) rfl ?_
  refine fs_goto (off := -35) (tgt := 6) (by decide +kernel) (by decide) ?_
  exact nx
theorem b_Notes_openers_44 {d : Nat} {x0 : Int32} {x1 : Int32} {x2 : Int32} {x3 : Int32} {x4 : Int32} {x5 : Int32} {x6 : Int32} {S : fm_S}  : am_Ev d k_Notes_openers 44 [some (.int x0), some (.int x1), some (.int x2), some (.int x3), some (.int x4), some (.int x5), some (.int x6)] [] (fm_mk S) (some (.int x5), fm_mk S) := by
  refine fs_iload (j := 5) (by decide +kernel) rfl ?_
  exact fe_retI (by decide +kernel) (by decide +kernel)
-- KitchenSiege$Fraction.chance(III)V
theorem b_Frac_chance_0 {d : Nat} {x1 : Int32} {x2 : Int32} {x3 : Int32} {o4 : Option Value} {o5 : Option Value} {o6 : Option Value} {o7 : Option Value} {o8 : Option Value} {o9 : Option Value} {S : fm_S} {r : Option Value × am_W} (nx : am_Ev d k_Frac_chance 6 [some (.ref 122), some (.int x1), some (.int x2), some (.int x3), some (.long 0), none, some (.int x2), o7, o8, o9] [] (fm_mk S) r) : am_Ev d k_Frac_chance 0 [some (.ref 122), some (.int x1), some (.int x2), some (.int x3), o4, o5, o6, o7, o8, o9] [] (fm_mk S) r := by
  refine fs_lconst (n := 0) (v := 0) (by decide +kernel) (by decide) ?_
  refine fs_lstore (j := 4) (L' := [some (.ref 122), some (.int x1), some (.int x2), some (.int x3), some (.long 0), none, o6, o7, o8, o9]) (by decide +kernel) (Nat.le_of_ble_eq_true rfl) rfl ?_
  refine fs_iloadn (j := 2) (by decide +kernel) rfl ?_
  refine fs_istore (j := 6) (L' := [some (.ref 122), some (.int x1), some (.int x2), some (.int x3), some (.long 0), none, some (.int x2), o7, o8, o9]) (by decide +kernel) (Nat.le_of_ble_eq_true rfl) rfl ?_
  exact nx
theorem b_Frac_chance_6 {d : Nat} {x1 : Int32} {x2 : Int32} {x3 : Int32} {y4 : Int64} {x6 : Int32} {o7 : Option Value} {o8 : Option Value} {o9 : Option Value} {S : fm_S} {r : Option Value × am_W} (kt : x1 < x6 → am_Ev d k_Frac_chance 48 [some (.ref 122), some (.int x1), some (.int x2), some (.int x3), some (.long y4), none, some (.int x6), o7, o8, o9] [] (fm_mk S) r) (kf : ¬ x1 < x6 → am_Ev d k_Frac_chance 12 [some (.ref 122), some (.int x1), some (.int x2), some (.int x3), some (.long y4), none, some (.int x6), o7, o8, o9] [] (fm_mk S) r) : am_Ev d k_Frac_chance 6 [some (.ref 122), some (.int x1), some (.int x2), some (.int x3), some (.long y4), none, some (.int x6), o7, o8, o9] [] (fm_mk S) r := by
  refine fs_iload (j := 6) (by decide +kernel) rfl ?_
  refine fs_iloadn (j := 1) (by decide +kernel) rfl ?_
  exact fs_icgt (off := 39) (tgt := 48) (by decide +kernel) (by decide) kt kf
theorem b_Frac_chance_12 {d : Nat} {x1 : Int32} {x2 : Int32} {x3 : Int32} {y4 : Int64} {x6 : Int32} {o7 : Option Value} {o8 : Option Value} {o9 : Option Value} {v : Int64} {S1 : fm_S} {S : fm_S} {r : Option Value × am_W} (hc : am_Sp d k_Frac_choices [.int x1, .int x6] (fm_mk S) (some (.long v)) (fm_mk S1)) (nx : am_Ev (d + 1) k_Frac_chance 20 [some (.ref 122), some (.int x1), some (.int x2), some (.int x3), some (.long y4), none, some (.int x6), o7, o8, o9] [.long v, .long y4] (fm_mk S1) r) : am_Ev (d + 1) k_Frac_chance 12 [some (.ref 122), some (.int x1), some (.int x2), some (.int x3), some (.long y4), none, some (.int x6), o7, o8, o9] [] (fm_mk S) r := by
  refine fs_lload (j := 4) (by decide +kernel) rfl ?_
  refine fs_iloadn (j := 1) (by decide +kernel) rfl ?_
  refine fs_iload (j := 6) (by decide +kernel) rfl ?_
  exact fe_callS (idx := 16) (kd := 0) (n := 2) (wp := 850) (q := (851, 0)) (as := [.int x1, .int x6]) (rs := [.long y4]) (by decide +kernel) (by decide +kernel) (by decide +kernel) (by decide) rfl (Nat.le_of_ble_eq_true rfl) rfl hc nx
theorem b_Frac_chance_20 {d : Nat} {x1 : Int32} {x2 : Int32} {x3 : Int32} {y4 : Int64} {x6 : Int32} {o7 : Option Value} {o8 : Option Value} {o9 : Option Value} {sy0 : Int64} {sy1 : Int64} {v : Int64} {S1 : fm_S} {S : fm_S} {r : Option Value × am_W} (hc : am_Sp d k_Frac_power [.int (10 - x3), .int x6] (fm_mk S) (some (.long v)) (fm_mk S1)) (nx : am_Ev (d + 1) k_Frac_chance 29 [some (.ref 122), some (.int x1), some (.int x2), some (.int x3), some (.long y4), none, some (.int x6), o7, o8, o9] [.long v, .long sy1, .long sy0] (fm_mk S1) r) : am_Ev (d + 1) k_Frac_chance 20 [some (.ref 122), some (.int x1), some (.int x2), some (.int x3), some (.long y4), none, some (.int x6), o7, o8, o9] [.long sy1, .long sy0] (fm_mk S) r := by
  refine fs_bipush (n := 10) (v := 10) (by decide +kernel) (by decide) ?_
  refine fs_iloadn (j := 3) (by decide +kernel) rfl ?_
  refine fs_isub (by decide +kernel) ?_
  refine fs_iload (j := 6) (by decide +kernel) rfl ?_
  exact fe_callS (idx := 20) (kd := 0) (n := 2) (wp := 853) (q := (854, 0)) (as := [.int (10 - x3), .int x6]) (rs := [.long sy1, .long sy0]) (by decide +kernel) (by decide +kernel) (by decide +kernel) (by decide) rfl (Nat.le_of_ble_eq_true rfl) rfl hc nx
theorem b_Frac_chance_29 {d : Nat} {x1 : Int32} {x2 : Int32} {x3 : Int32} {y4 : Int64} {x6 : Int32} {o7 : Option Value} {o8 : Option Value} {o9 : Option Value} {sy0 : Int64} {sy1 : Int64} {sy2 : Int64} {v : Int64} {S1 : fm_S} {S : fm_S} {r : Option Value × am_W} (hc : am_Sp d k_Frac_power [.int x3, .int (x1 - x6)] (fm_mk S) (some (.long v)) (fm_mk S1)) (nx : am_Ev (d + 1) k_Frac_chance 38 [some (.ref 122), some (.int x1), some (.int x2), some (.int x3), some (.long y4), none, some (.int x6), o7, o8, o9] [.long v, .long (sy1 * sy2), .long sy0] (fm_mk S1) r) : am_Ev (d + 1) k_Frac_chance 29 [some (.ref 122), some (.int x1), some (.int x2), some (.int x3), some (.long y4), none, some (.int x6), o7, o8, o9] [.long sy2, .long sy1, .long sy0] (fm_mk S) r := by
  refine fs_lmul (by decide +kernel) ?_
  refine fs_iloadn (j := 3) (by decide +kernel) rfl ?_
  refine fs_iloadn (j := 1) (by decide +kernel) rfl ?_
  refine fs_iload (j := 6) (by decide +kernel) rfl ?_
  refine fs_isub (by decide +kernel) ?_
  exact fe_callS (idx := 20) (kd := 0) (n := 2) (wp := 853) (q := (854, 0)) (as := [.int x3, .int (x1 - x6)]) (rs := [.long (sy1 * sy2), .long sy0]) (by decide +kernel) (by decide +kernel) (by decide +kernel) (by decide) rfl (Nat.le_of_ble_eq_true rfl) rfl hc nx
theorem b_Frac_chance_38 {d : Nat} {x1 : Int32} {x2 : Int32} {x3 : Int32} {y4 : Int64} {x6 : Int32} {o7 : Option Value} {o8 : Option Value} {o9 : Option Value} {sy0 : Int64} {sy1 : Int64} {sy2 : Int64} {S : fm_S} {r : Option Value × am_W} (nx : am_Ev d k_Frac_chance 6 [some (.ref 122), some (.int x1), some (.int x2), some (.int x3), some (.long (sy0 + (sy1 * sy2))), none, some (.int (x6 + 1)), o7, o8, o9] [] (fm_mk S) r) : am_Ev d k_Frac_chance 38 [some (.ref 122), some (.int x1), some (.int x2), some (.int x3), some (.long y4), none, some (.int x6), o7, o8, o9] [.long sy2, .long sy1, .long sy0] (fm_mk S) r := by
  refine fs_lmul (by decide +kernel) ?_
  refine fs_ladd (by decide +kernel) ?_
  refine fs_lstore (j := 4) (L' := [some (.ref 122), some (.int x1), some (.int x2), some (.int x3), some (.long (sy0 + (sy1 * sy2))), none, some (.int x6), o7, o8, o9]) (by decide +kernel) (Nat.le_of_ble_eq_true rfl) rfl ?_
  refine fs_iinc (j := 6) (n := 1) (v := 1) (L' := [some (.ref 122), some (.int x1), some (.int x2), some (.int x3), some (.long (sy0 + (sy1 * sy2))), none, some (.int (x6 + 1)), o7, o8, o9]) (by decide +kernel) rfl (Nat.le_of_ble_eq_true rfl) (by decide) rfl ?_
  refine fs_goto (off := -39) (tgt := 6) (by decide +kernel) (by decide) ?_
  exact nx
theorem b_Frac_chance_48 {d : Nat} {x1 : Int32} {x2 : Int32} {x3 : Int32} {y4 : Int64} {x6 : Int32} {o7 : Option Value} {o8 : Option Value} {o9 : Option Value} {v : Int64} {S1 : fm_S} {S : fm_S} {r : Option Value × am_W} (hc : am_Sp d k_Frac_power [.int 10, .int x1] (fm_mk S) (some (.long v)) (fm_mk S1)) (nx : am_Ev (d + 1) k_Frac_chance 54 [some (.ref 122), some (.int x1), some (.int x2), some (.int x3), some (.long y4), none, some (.int x6), o7, o8, o9] [.long v] (fm_mk S1) r) : am_Ev (d + 1) k_Frac_chance 48 [some (.ref 122), some (.int x1), some (.int x2), some (.int x3), some (.long y4), none, some (.int x6), o7, o8, o9] [] (fm_mk S) r := by
  refine fs_bipush (n := 10) (v := 10) (by decide +kernel) (by decide) ?_
  refine fs_iloadn (j := 1) (by decide +kernel) rfl ?_
  exact fe_callS (idx := 20) (kd := 0) (n := 2) (wp := 853) (q := (854, 0)) (as := [.int 10, .int x1]) (rs := []) (by decide +kernel) (by decide +kernel) (by decide +kernel) (by decide) rfl (Nat.le_of_ble_eq_true rfl) rfl hc nx
theorem b_Frac_chance_54 {d : Nat} {x1 : Int32} {x2 : Int32} {x3 : Int32} {y4 : Int64} {x6 : Int32} {o7 : Option Value} {o8 : Option Value} {o9 : Option Value} {sy0 : Int64} {v : Int64} {S1 : fm_S} {S : fm_S} {r : Option Value × am_W} (hc : am_Sp d k_Frac_commonPart [.long y4, .long sy0] (fm_mk S) (some (.long v)) (fm_mk S1)) (nx : am_Ev (d + 1) k_Frac_chance 63 [some (.ref 122), some (.int x1), some (.int x2), some (.int x3), some (.long y4), none, some (.long sy0), none, o8, o9] [.long v] (fm_mk S1) r) : am_Ev (d + 1) k_Frac_chance 54 [some (.ref 122), some (.int x1), some (.int x2), some (.int x3), some (.long y4), none, some (.int x6), o7, o8, o9] [.long sy0] (fm_mk S) r := by
  refine fs_lstore (j := 6) (L' := [some (.ref 122), some (.int x1), some (.int x2), some (.int x3), some (.long y4), none, some (.long sy0), none, o8, o9]) (by decide +kernel) (Nat.le_of_ble_eq_true rfl) rfl ?_
  refine fs_lload (j := 4) (by decide +kernel) rfl ?_
  refine fs_lload (j := 6) (by decide +kernel) rfl ?_
  exact fe_callS (idx := 23) (kd := 0) (n := 2) (wp := 856) (q := (857, 0)) (as := [.long y4, .long sy0]) (rs := []) (by decide +kernel) (by decide +kernel) (by decide +kernel) (by decide) rfl (Nat.le_of_ble_eq_true rfl) rfl hc nx
theorem b_Frac_chance_63 {d : Nat} {x1 : Int32} {x2 : Int32} {x3 : Int32} {y4 : Int64} {y6 : Int64} {o8 : Option Value} {o9 : Option Value} {sy0 : Int64} {S : fm_S} {r : Option Value × am_W} (kt : (lg_cmp sy0 0) ≤ 0 → am_Ev d k_Frac_chance 90 [some (.ref 122), some (.int x1), some (.int x2), some (.int x3), some (.long y4), none, some (.long y6), none, some (.long sy0), none] [] (fm_mk S) r) (kf : ¬ (lg_cmp sy0 0) ≤ 0 → am_Ev d k_Frac_chance 72 [some (.ref 122), some (.int x1), some (.int x2), some (.int x3), some (.long y4), none, some (.long y6), none, some (.long sy0), none] [] (fm_mk S) r) : am_Ev d k_Frac_chance 63 [some (.ref 122), some (.int x1), some (.int x2), some (.int x3), some (.long y4), none, some (.long y6), none, o8, o9] [.long sy0] (fm_mk S) r := by
  refine fs_lstore (j := 8) (L' := [some (.ref 122), some (.int x1), some (.int x2), some (.int x3), some (.long y4), none, some (.long y6), none, some (.long sy0), none]) (by decide +kernel) (Nat.le_of_ble_eq_true rfl) rfl ?_
  refine fs_lload (j := 8) (by decide +kernel) rfl ?_
  refine fs_lconst (n := 0) (v := 0) (by decide +kernel) (by decide) ?_
  refine fs_lcmp (by decide +kernel) ?_
  exact fs_ifle (off := 21) (tgt := 90) (by decide +kernel) (by decide) kt kf
theorem b_Frac_chance_72 {d : Nat} {x1 : Int32} {x2 : Int32} {x3 : Int32} {y4 : Int64} {y6 : Int64} {y8 : Int64} {S : fm_S} {r : Option Value × am_W} (hd0 : ¬ y8 = 0) (nx : am_Ev d k_Frac_chance 90 [some (.ref 122), some (.int x1), some (.int x2), some (.int x3), some (.long y4), none, some (.long y6), none, some (.long y8), none] [] (fm_mk (fm_wL (fm_wL S 122 0 (y4 / y8)) 122 1 (y6 / y8))) r) : am_Ev d k_Frac_chance 72 [some (.ref 122), some (.int x1), some (.int x2), some (.int x3), some (.long y4), none, some (.long y6), none, some (.long y8), none] [] (fm_mk S) r := by
  refine fs_aloadn (j := 0) (by decide +kernel) rfl ?_
  refine fs_lload (j := 4) (by decide +kernel) rfl ?_
  refine fs_lload (j := 8) (by decide +kernel) rfl ?_
  refine fe_ldiv (by decide +kernel) hd0 ?_
  refine fe_putL (idx := 7) (t := 3) (f := 0) (wp := 322) (by decide +kernel) (by decide +kernel) (by decide +kernel) (by decide +kernel) ?_
  refine fs_aloadn (j := 0) (by decide +kernel) rfl ?_
  refine fs_lload (j := 6) (by decide +kernel) rfl ?_
  refine fs_lload (j := 8) (by decide +kernel) rfl ?_
  refine fe_ldiv (by decide +kernel) hd0 ?_
  refine fe_putL (idx := 13) (t := 3) (f := 1) (wp := 324) (by decide +kernel) (by decide +kernel) (by decide +kernel) (by decide +kernel) ?_
  exact nx
theorem b_Frac_chance_90 {d : Nat} {x1 : Int32} {x2 : Int32} {x3 : Int32} {y4 : Int64} {y6 : Int64} {y8 : Int64} {S : fm_S}  : am_Ev d k_Frac_chance 90 [some (.ref 122), some (.int x1), some (.int x2), some (.int x3), some (.long y4), none, some (.long y6), none, some (.long y8), none] [] (fm_mk S) (none, fm_mk S) := by
  exact fe_retV (by decide +kernel) (by decide +kernel)
-- KitchenSiege$Fraction.choices(II)J
theorem b_Frac_choices_0 {d : Nat} {x0 : Int32} {x1 : Int32} {o2 : Option Value} {o3 : Option Value} {o4 : Option Value} {S : fm_S} {r : Option Value × am_W} (nx : am_Ev d k_Frac_choices 5 [some (.int x0), some (.int x1), some (.long 1), none, some (.int 1)] [] (fm_mk S) r) : am_Ev d k_Frac_choices 0 [some (.int x0), some (.int x1), o2, o3, o4] [] (fm_mk S) r := by
  refine fs_lconst (n := 1) (v := 1) (by decide +kernel) (by decide) ?_
  refine fs_lstoren (j := 2) (L' := [some (.int x0), some (.int x1), some (.long 1), none, o4]) (by decide +kernel) (Nat.le_of_ble_eq_true rfl) rfl ?_
  refine fs_iconst (n := 1) (v := 1) (by decide +kernel) (by decide) ?_
  refine fs_istore (j := 4) (L' := [some (.int x0), some (.int x1), some (.long 1), none, some (.int 1)]) (by decide +kernel) (Nat.le_of_ble_eq_true rfl) rfl ?_
  exact nx
theorem b_Frac_choices_5 {d : Nat} {x0 : Int32} {x1 : Int32} {y2 : Int64} {x4 : Int32} {S : fm_S} {r : Option Value × am_W} (kt : x1 < x4 → am_Ev d k_Frac_choices 31 [some (.int x0), some (.int x1), some (.long y2), none, some (.int x4)] [] (fm_mk S) r) (kf : ¬ x1 < x4 → am_Ev d k_Frac_choices 11 [some (.int x0), some (.int x1), some (.long y2), none, some (.int x4)] [] (fm_mk S) r) : am_Ev d k_Frac_choices 5 [some (.int x0), some (.int x1), some (.long y2), none, some (.int x4)] [] (fm_mk S) r := by
  refine fs_iload (j := 4) (by decide +kernel) rfl ?_
  refine fs_iloadn (j := 1) (by decide +kernel) rfl ?_
  exact fs_icgt (off := 23) (tgt := 31) (by decide +kernel) (by decide) kt kf
theorem b_Frac_choices_11 {d : Nat} {x0 : Int32} {x1 : Int32} {y2 : Int64} {x4 : Int32} {S : fm_S} {r : Option Value × am_W} (hd0 : ¬ x4.toInt64 = 0) (nx : am_Ev d k_Frac_choices 5 [some (.int x0), some (.int x1), some (.long ((y2 * (((x0 - x1) + x4).toInt64)) / x4.toInt64)), none, some (.int (x4 + 1))] [] (fm_mk S) r) : am_Ev d k_Frac_choices 11 [some (.int x0), some (.int x1), some (.long y2), none, some (.int x4)] [] (fm_mk S) r := by
  refine fs_lloadn (j := 2) (by decide +kernel) rfl ?_
  refine fs_iloadn (j := 0) (by decide +kernel) rfl ?_
  refine fs_iloadn (j := 1) (by decide +kernel) rfl ?_
  refine fs_isub (by decide +kernel) ?_
  refine fs_iload (j := 4) (by decide +kernel) rfl ?_
  refine fs_iadd (by decide +kernel) ?_
  refine fs_i2l (by decide +kernel) ?_
  refine fs_lmul (by decide +kernel) ?_
  refine fs_iload (j := 4) (by decide +kernel) rfl ?_
  refine fs_i2l (by decide +kernel) ?_
  refine fe_ldiv (by decide +kernel) hd0 ?_
  refine fs_lstoren (j := 2) (L' := [some (.int x0), some (.int x1), some (.long ((y2 * (((x0 - x1) + x4).toInt64)) / x4.toInt64)), none, some (.int x4)]) (by decide +kernel) (Nat.le_of_ble_eq_true rfl) rfl ?_
  refine fs_iinc (j := 4) (n := 1) (v := 1) (L' := [some (.int x0), some (.int x1), some (.long ((y2 * (((x0 - x1) + x4).toInt64)) / x4.toInt64)), none, some (.int (x4 + 1))]) (by decide +kernel) rfl (Nat.le_of_ble_eq_true rfl) (by decide) rfl ?_
  refine fs_goto (off := -23) (tgt := 5) (by decide +kernel) (by decide) ?_
  exact nx
theorem b_Frac_choices_31 {d : Nat} {x0 : Int32} {x1 : Int32} {y2 : Int64} {x4 : Int32} {S : fm_S}  : am_Ev d k_Frac_choices 31 [some (.int x0), some (.int x1), some (.long y2), none, some (.int x4)] [] (fm_mk S) (some (.long y2), fm_mk S) := by
  refine fs_lloadn (j := 2) (by decide +kernel) rfl ?_
  exact fe_retL (by decide +kernel) (by decide +kernel)
-- KitchenSiege$Fraction.power(II)J
theorem b_Frac_power_0 {d : Nat} {x0 : Int32} {x1 : Int32} {o2 : Option Value} {o3 : Option Value} {o4 : Option Value} {S : fm_S} {r : Option Value × am_W} (nx : am_Ev d k_Frac_power 5 [some (.int x0), some (.int x1), some (.long 1), none, some (.int 0)] [] (fm_mk S) r) : am_Ev d k_Frac_power 0 [some (.int x0), some (.int x1), o2, o3, o4] [] (fm_mk S) r := by
  refine fs_lconst (n := 1) (v := 1) (by decide +kernel) (by decide) ?_
  refine fs_lstoren (j := 2) (L' := [some (.int x0), some (.int x1), some (.long 1), none, o4]) (by decide +kernel) (Nat.le_of_ble_eq_true rfl) rfl ?_
  refine fs_iconst (n := 0) (v := 0) (by decide +kernel) (by decide) ?_
  refine fs_istore (j := 4) (L' := [some (.int x0), some (.int x1), some (.long 1), none, some (.int 0)]) (by decide +kernel) (Nat.le_of_ble_eq_true rfl) rfl ?_
  exact nx
theorem b_Frac_power_5 {d : Nat} {x0 : Int32} {x1 : Int32} {y2 : Int64} {x4 : Int32} {S : fm_S} {r : Option Value × am_W} (kt : x1 ≤ x4 → am_Ev d k_Frac_power 22 [some (.int x0), some (.int x1), some (.long y2), none, some (.int x4)] [] (fm_mk S) r) (kf : ¬ x1 ≤ x4 → am_Ev d k_Frac_power 11 [some (.int x0), some (.int x1), some (.long y2), none, some (.int x4)] [] (fm_mk S) r) : am_Ev d k_Frac_power 5 [some (.int x0), some (.int x1), some (.long y2), none, some (.int x4)] [] (fm_mk S) r := by
  refine fs_iload (j := 4) (by decide +kernel) rfl ?_
  refine fs_iloadn (j := 1) (by decide +kernel) rfl ?_
  exact fs_icge (off := 14) (tgt := 22) (by decide +kernel) (by decide) kt kf
theorem b_Frac_power_11 {d : Nat} {x0 : Int32} {x1 : Int32} {y2 : Int64} {x4 : Int32} {S : fm_S} {r : Option Value × am_W} (nx : am_Ev d k_Frac_power 5 [some (.int x0), some (.int x1), some (.long (y2 * x0.toInt64)), none, some (.int (x4 + 1))] [] (fm_mk S) r) : am_Ev d k_Frac_power 11 [some (.int x0), some (.int x1), some (.long y2), none, some (.int x4)] [] (fm_mk S) r := by
  refine fs_lloadn (j := 2) (by decide +kernel) rfl ?_
  refine fs_iloadn (j := 0) (by decide +kernel) rfl ?_
  refine fs_i2l (by decide +kernel) ?_
  refine fs_lmul (by decide +kernel) ?_
  refine fs_lstoren (j := 2) (L' := [some (.int x0), some (.int x1), some (.long (y2 * x0.toInt64)), none, some (.int x4)]) (by decide +kernel) (Nat.le_of_ble_eq_true rfl) rfl ?_
  refine fs_iinc (j := 4) (n := 1) (v := 1) (L' := [some (.int x0), some (.int x1), some (.long (y2 * x0.toInt64)), none, some (.int (x4 + 1))]) (by decide +kernel) rfl (Nat.le_of_ble_eq_true rfl) (by decide) rfl ?_
  refine fs_goto (off := -14) (tgt := 5) (by decide +kernel) (by decide) ?_
  exact nx
theorem b_Frac_power_22 {d : Nat} {x0 : Int32} {x1 : Int32} {y2 : Int64} {x4 : Int32} {S : fm_S}  : am_Ev d k_Frac_power 22 [some (.int x0), some (.int x1), some (.long y2), none, some (.int x4)] [] (fm_mk S) (some (.long y2), fm_mk S) := by
  refine fs_lloadn (j := 2) (by decide +kernel) rfl ?_
  exact fe_retL (by decide +kernel) (by decide +kernel)
-- KitchenSiege$Fraction.commonPart(JJ)J
theorem b_Frac_commonPart_0 {d : Nat} {y0 : Int64} {y2 : Int64} {o4 : Option Value} {o5 : Option Value} {o6 : Option Value} {S : fm_S} {r : Option Value × am_W} (nx : am_Ev d k_Frac_commonPart 3 [some (.long y0), none, some (.long y2), none, some (.int 0), o5, o6] [] (fm_mk S) r) : am_Ev d k_Frac_commonPart 0 [some (.long y0), none, some (.long y2), none, o4, o5, o6] [] (fm_mk S) r := by
  refine fs_iconst (n := 0) (v := 0) (by decide +kernel) (by decide) ?_
  refine fs_istore (j := 4) (L' := [some (.long y0), none, some (.long y2), none, some (.int 0), o5, o6]) (by decide +kernel) (Nat.le_of_ble_eq_true rfl) rfl ?_
  exact nx
theorem b_Frac_commonPart_3 {d : Nat} {y0 : Int64} {y2 : Int64} {x4 : Int32} {o5 : Option Value} {o6 : Option Value} {S : fm_S} {r : Option Value × am_W} (kt : (lg_cmp y2 0) = 0 → am_Ev d k_Frac_commonPart 32 [some (.long y0), none, some (.long y2), none, some (.int x4), o5, o6] [] (fm_mk S) r) (kf : ¬ (lg_cmp y2 0) = 0 → am_Ev d k_Frac_commonPart 9 [some (.long y0), none, some (.long y2), none, some (.int x4), o5, o6] [] (fm_mk S) r) : am_Ev d k_Frac_commonPart 3 [some (.long y0), none, some (.long y2), none, some (.int x4), o5, o6] [] (fm_mk S) r := by
  refine fs_lloadn (j := 2) (by decide +kernel) rfl ?_
  refine fs_lconst (n := 0) (v := 0) (by decide +kernel) (by decide) ?_
  refine fs_lcmp (by decide +kernel) ?_
  exact fs_ifeq (off := 26) (tgt := 32) (by decide +kernel) (by decide) kt kf
theorem b_Frac_commonPart_9 {d : Nat} {y0 : Int64} {y2 : Int64} {x4 : Int32} {o5 : Option Value} {o6 : Option Value} {S : fm_S} {r : Option Value × am_W} (kt : 100 ≤ x4 → am_Ev d k_Frac_commonPart 32 [some (.long y0), none, some (.long y2), none, some (.int x4), o5, o6] [] (fm_mk S) r) (kf : ¬ 100 ≤ x4 → am_Ev d k_Frac_commonPart 16 [some (.long y0), none, some (.long y2), none, some (.int x4), o5, o6] [] (fm_mk S) r) : am_Ev d k_Frac_commonPart 9 [some (.long y0), none, some (.long y2), none, some (.int x4), o5, o6] [] (fm_mk S) r := by
  refine fs_iload (j := 4) (by decide +kernel) rfl ?_
  refine fs_bipush (n := 100) (v := 100) (by decide +kernel) (by decide) ?_
  exact fs_icge (off := 19) (tgt := 32) (by decide +kernel) (by decide) kt kf
theorem b_Frac_commonPart_16 {d : Nat} {y0 : Int64} {y2 : Int64} {x4 : Int32} {o5 : Option Value} {o6 : Option Value} {S : fm_S} {r : Option Value × am_W} (hd0 : ¬ y2 = 0) (nx : am_Ev d k_Frac_commonPart 3 [some (.long y2), none, some (.long (y0 - y0 / y2 * y2)), none, some (.int (x4 + 1)), some (.long (y0 - y0 / y2 * y2)), none] [] (fm_mk S) r) : am_Ev d k_Frac_commonPart 16 [some (.long y0), none, some (.long y2), none, some (.int x4), o5, o6] [] (fm_mk S) r := by
  refine fs_lloadn (j := 0) (by decide +kernel) rfl ?_
  refine fs_lloadn (j := 2) (by decide +kernel) rfl ?_
  refine fe_lrem (by decide +kernel) hd0 ?_
  refine fs_lstore (j := 5) (L' := [some (.long y0), none, some (.long y2), none, some (.int x4), some (.long (y0 - y0 / y2 * y2)), none]) (by decide +kernel) (Nat.le_of_ble_eq_true rfl) rfl ?_
  refine fs_lloadn (j := 2) (by decide +kernel) rfl ?_
  refine fs_lstoren (j := 0) (L' := [some (.long y2), none, some (.long y2), none, some (.int x4), some (.long (y0 - y0 / y2 * y2)), none]) (by decide +kernel) (Nat.le_of_ble_eq_true rfl) rfl ?_
  refine fs_lload (j := 5) (by decide +kernel) rfl ?_
  refine fs_lstoren (j := 2) (L' := [some (.long y2), none, some (.long (y0 - y0 / y2 * y2)), none, some (.int x4), some (.long (y0 - y0 / y2 * y2)), none]) (by decide +kernel) (Nat.le_of_ble_eq_true rfl) rfl ?_
  refine fs_iinc (j := 4) (n := 1) (v := 1) (L' := [some (.long y2), none, some (.long (y0 - y0 / y2 * y2)), none, some (.int (x4 + 1)), some (.long (y0 - y0 / y2 * y2)), none]) (by decide +kernel) rfl (Nat.le_of_ble_eq_true rfl) (by decide) rfl ?_
  refine fs_goto (off := -26) (tgt := 3) (by decide +kernel) (by decide) ?_
  exact nx
theorem b_Frac_commonPart_32 {d : Nat} {y0 : Int64} {y2 : Int64} {x4 : Int32} {o5 : Option Value} {o6 : Option Value} {S : fm_S}  : am_Ev d k_Frac_commonPart 32 [some (.long y0), none, some (.long y2), none, some (.int x4), o5, o6] [] (fm_mk S) (some (.long y0), fm_mk S) := by
  refine fs_lloadn (j := 0) (by decide +kernel) rfl ?_
  exact fe_retL (by decide +kernel) (by decide +kernel)
-- KitchenSiege$Days.openOf(I)I
theorem b_Days_openOf_0 {d : Nat} {a0 : Nat} {x1 : Int32} {o2 : Option Value} {o3 : Option Value} {S : fm_S} {r : Option Value × am_W} (nx : am_Ev d k_Days_openOf 4 [some (.ref a0), some (.int x1), some (.int 0), some (.int 0)] [] (fm_mk S) r) : am_Ev d k_Days_openOf 0 [some (.ref a0), some (.int x1), o2, o3] [] (fm_mk S) r := by
  refine fs_iconst (n := 0) (v := 0) (by decide +kernel) (by decide) ?_
  refine fs_istoren (j := 2) (L' := [some (.ref a0), some (.int x1), some (.int 0), o3]) (by decide +kernel) (Nat.le_of_ble_eq_true rfl) rfl ?_
  refine fs_iconst (n := 0) (v := 0) (by decide +kernel) (by decide) ?_
  refine fs_istoren (j := 3) (L' := [some (.ref a0), some (.int x1), some (.int 0), some (.int 0)]) (by decide +kernel) (Nat.le_of_ble_eq_true rfl) rfl ?_
  exact nx
theorem b_Days_openOf_4 {d : Nat} {a0 : Nat} {x1 : Int32} {x2 : Int32} {x3 : Int32} {S : fm_S} {r : Option Value × am_W} (kt : x1 ≤ x3 → am_Ev d k_Days_openOf 26 [some (.ref a0), some (.int x1), some (.int x2), some (.int x3)] [] (fm_mk S) r) (kf : ¬ x1 ≤ x3 → am_Ev d k_Days_openOf 9 [some (.ref a0), some (.int x1), some (.int x2), some (.int x3)] [] (fm_mk S) r) : am_Ev d k_Days_openOf 4 [some (.ref a0), some (.int x1), some (.int x2), some (.int x3)] [] (fm_mk S) r := by
  refine fs_iloadn (j := 3) (by decide +kernel) rfl ?_
  refine fs_iloadn (j := 1) (by decide +kernel) rfl ?_
  exact fs_icge (off := 20) (tgt := 26) (by decide +kernel) (by decide) kt kf
theorem b_Days_openOf_9 {d : Nat} {a0 : Nat} {x1 : Int32} {x2 : Int32} {x3 : Int32} {v : Int32} {S1 : fm_S} {S : fm_S} {r : Option Value × am_W} (h_a0 : fm_tg a0 = 2) (hc : am_Sp d k_Days_isShut [.ref a0, .int x3] (fm_mk S) (some (.int v)) (fm_mk S1)) (nx : am_Ev (d + 1) k_Days_openOf 14 [some (.ref a0), some (.int x1), some (.int x2), some (.int x3)] [.int v] (fm_mk S1) r) : am_Ev (d + 1) k_Days_openOf 9 [some (.ref a0), some (.int x1), some (.int x2), some (.int x3)] [] (fm_mk S) r := by
  have D_a0 := fm_days h_a0
  refine fs_aloadn (j := 0) (by decide +kernel) rfl ?_
  refine fs_iloadn (j := 3) (by decide +kernel) rfl ?_
  exact fe_callV (t := 2) (idx := 31) (n := 1) (wp := 879) (q := (631, 632)) (as := [.int x3]) (rs := []) (by decide +kernel) (by decide +kernel) h_a0 (by decide +kernel) rfl (Nat.le_of_ble_eq_true rfl) rfl hc nx
theorem b_Days_openOf_14 {d : Nat} {a0 : Nat} {x1 : Int32} {x2 : Int32} {x3 : Int32} {sx0 : Int32} {S : fm_S} {r : Option Value × am_W} (kt : ¬ sx0 = 0 → am_Ev d k_Days_openOf 20 [some (.ref a0), some (.int x1), some (.int x2), some (.int x3)] [] (fm_mk S) r) (kf : sx0 = 0 → am_Ev d k_Days_openOf 17 [some (.ref a0), some (.int x1), some (.int x2), some (.int x3)] [] (fm_mk S) r) : am_Ev d k_Days_openOf 14 [some (.ref a0), some (.int x1), some (.int x2), some (.int x3)] [.int sx0] (fm_mk S) r := by
  exact fs_ifne (off := 6) (tgt := 20) (by decide +kernel) (by decide) kt kf
theorem b_Days_openOf_17 {d : Nat} {a0 : Nat} {x1 : Int32} {x2 : Int32} {x3 : Int32} {S : fm_S} {r : Option Value × am_W} (nx : am_Ev d k_Days_openOf 20 [some (.ref a0), some (.int x1), some (.int (x2 + 1)), some (.int x3)] [] (fm_mk S) r) : am_Ev d k_Days_openOf 17 [some (.ref a0), some (.int x1), some (.int x2), some (.int x3)] [] (fm_mk S) r := by
  refine fs_iinc (j := 2) (n := 1) (v := 1) (L' := [some (.ref a0), some (.int x1), some (.int (x2 + 1)), some (.int x3)]) (by decide +kernel) rfl (Nat.le_of_ble_eq_true rfl) (by decide) rfl ?_
  exact nx
theorem b_Days_openOf_20 {d : Nat} {a0 : Nat} {x1 : Int32} {x2 : Int32} {x3 : Int32} {S : fm_S} {r : Option Value × am_W} (nx : am_Ev d k_Days_openOf 4 [some (.ref a0), some (.int x1), some (.int x2), some (.int (x3 + 1))] [] (fm_mk S) r) : am_Ev d k_Days_openOf 20 [some (.ref a0), some (.int x1), some (.int x2), some (.int x3)] [] (fm_mk S) r := by
  refine fs_iinc (j := 3) (n := 1) (v := 1) (L' := [some (.ref a0), some (.int x1), some (.int x2), some (.int (x3 + 1))]) (by decide +kernel) rfl (Nat.le_of_ble_eq_true rfl) (by decide) rfl ?_
  refine fs_goto (off := -19) (tgt := 4) (by decide +kernel) (by decide) ?_
  exact nx
theorem b_Days_openOf_26 {d : Nat} {a0 : Nat} {x1 : Int32} {x2 : Int32} {x3 : Int32} {S : fm_S}  : am_Ev d k_Days_openOf 26 [some (.ref a0), some (.int x1), some (.int x2), some (.int x3)] [] (fm_mk S) (some (.int x2), fm_mk S) := by
  refine fs_iloadn (j := 2) (by decide +kernel) rfl ?_
  exact fe_retI (by decide +kernel) (by decide +kernel)
-- KitchenSiege$Notes.mixNotes(J)J
theorem b_Notes_mixNotes_0 {d : Nat} {a0 : Nat} {y1 : Int64} {o3 : Option Value} {S : fm_S} {r : Option Value × am_W} (nx : am_Ev d k_Notes_mixNotes 2 [some (.ref a0), some (.long y1), none, some (.int 0)] [] (fm_mk S) r) : am_Ev d k_Notes_mixNotes 0 [some (.ref a0), some (.long y1), none, o3] [] (fm_mk S) r := by
  refine fs_iconst (n := 0) (v := 0) (by decide +kernel) (by decide) ?_
  refine fs_istoren (j := 3) (L' := [some (.ref a0), some (.long y1), none, some (.int 0)]) (by decide +kernel) (Nat.le_of_ble_eq_true rfl) rfl ?_
  exact nx
theorem b_Notes_mixNotes_2 {d : Nat} {a0 : Nat} {y1 : Int64} {x3 : Int32} {S : fm_S} {r : Option Value × am_W} (h_a0 : fm_tg a0 = 4) (kt : (S.1 a0 0) ≤ x3 → am_Ev d k_Notes_mixNotes 70 [some (.ref a0), some (.long y1), none, some (.int x3)] [] (fm_mk S) r) (kf : ¬ (S.1 a0 0) ≤ x3 → am_Ev d k_Notes_mixNotes 10 [some (.ref a0), some (.long y1), none, some (.int x3)] [] (fm_mk S) r) : am_Ev d k_Notes_mixNotes 2 [some (.ref a0), some (.long y1), none, some (.int x3)] [] (fm_mk S) r := by
  have N_a0 := fm_notes h_a0
  refine fs_iloadn (j := 3) (by decide +kernel) rfl ?_
  refine fs_aloadn (j := 0) (by decide +kernel) rfl ?_
  refine fe_getI (idx := 27) (t := 4) (f := 0) (fk := 0) (fin := 0) (wp := 95) (by decide +kernel) (by decide +kernel) h_a0 (by decide +kernel) ?_
  exact fs_icge (off := 63) (tgt := 70) (by decide +kernel) (by decide) kt kf
theorem b_Notes_mixNotes_10 {d : Nat} {a0 : Nat} {y1 : Int64} {x3 : Int32} {v : Int64} {S1 : fm_S} {S : fm_S} {r : Option Value × am_W} (h_a0 : fm_tg a0 = 4) (hi1 : vp_in x3 6) (hc : am_Sp d k_X_mix [.long y1, .long ((S.1 (a0 + 1) x3.toNatClampNeg).toInt64)] (fm_mk S) (some (.long v)) (fm_mk S1)) (nx : am_Ev (d + 1) k_Notes_mixNotes 21 [some (.ref a0), some (.long y1), none, some (.int x3)] [.long v] (fm_mk S1) r) : am_Ev (d + 1) k_Notes_mixNotes 10 [some (.ref a0), some (.long y1), none, some (.int x3)] [] (fm_mk S) r := by
  have N_a0 := fm_notes h_a0
  refine fs_lloadn (j := 1) (by decide +kernel) rfl ?_
  refine fs_aloadn (j := 0) (by decide +kernel) rfl ?_
  refine fe_getR (idx := 9) (t := 4) (f := 1) (fk := 2) (fin := 1) (wp := 98) (x := a0 + 1) (by decide +kernel) (by decide +kernel) h_a0 (by decide +kernel) (fm_objrf h_a0 (by decide) (by decide +kernel) (by decide +kernel)) ?_
  refine fs_iloadn (j := 3) (by decide +kernel) rfl ?_
  refine fx_iald (n := x3.toNatClampNeg) (len := 6) (by decide +kernel) N_a0.1 N_a0.2.1 hi1 rfl ?_
  refine fs_i2l (by decide +kernel) ?_
  exact fe_callS (idx := 70) (kd := 4) (n := 2) (wp := 935) (q := (911, 0)) (as := [.long y1, .long ((S.1 (a0 + 1) x3.toNatClampNeg).toInt64)]) (rs := []) (by decide +kernel) (by decide +kernel) (by decide +kernel) (by decide) rfl (Nat.le_of_ble_eq_true rfl) rfl hc nx
theorem b_Notes_mixNotes_21 {d : Nat} {a0 : Nat} {y1 : Int64} {x3 : Int32} {sy0 : Int64} {v : Int64} {S1 : fm_S} {S : fm_S} {r : Option Value × am_W} (h_a0 : fm_tg a0 = 4) (hi1 : vp_in x3 6) (hc : am_Sp d k_X_mix [.long sy0, .long ((S.1 (a0 + 2) x3.toNatClampNeg).toInt64)] (fm_mk S) (some (.long v)) (fm_mk S1)) (nx : am_Ev (d + 1) k_Notes_mixNotes 31 [some (.ref a0), some (.long y1), none, some (.int x3)] [.long v] (fm_mk S1) r) : am_Ev (d + 1) k_Notes_mixNotes 21 [some (.ref a0), some (.long y1), none, some (.int x3)] [.long sy0] (fm_mk S) r := by
  have N_a0 := fm_notes h_a0
  refine fs_aloadn (j := 0) (by decide +kernel) rfl ?_
  refine fe_getR (idx := 15) (t := 4) (f := 2) (fk := 2) (fin := 1) (wp := 99) (x := a0 + 2) (by decide +kernel) (by decide +kernel) h_a0 (by decide +kernel) (fm_objrf h_a0 (by decide) (by decide +kernel) (by decide +kernel)) ?_
  refine fs_iloadn (j := 3) (by decide +kernel) rfl ?_
  refine fx_iald (n := x3.toNatClampNeg) (len := 6) (by decide +kernel) N_a0.2.2.1 N_a0.2.2.2.1 hi1 rfl ?_
  refine fs_i2l (by decide +kernel) ?_
  exact fe_callS (idx := 70) (kd := 4) (n := 2) (wp := 935) (q := (911, 0)) (as := [.long sy0, .long ((S.1 (a0 + 2) x3.toNatClampNeg).toInt64)]) (rs := []) (by decide +kernel) (by decide +kernel) (by decide +kernel) (by decide) rfl (Nat.le_of_ble_eq_true rfl) rfl hc nx
theorem b_Notes_mixNotes_31 {d : Nat} {a0 : Nat} {y1 : Int64} {x3 : Int32} {sy0 : Int64} {v : Int64} {S1 : fm_S} {S : fm_S} {r : Option Value × am_W} (h_a0 : fm_tg a0 = 4) (hi1 : vp_in x3 6) (hc : am_Sp d k_X_mix [.long sy0, .long ((S.1 (a0 + 3) x3.toNatClampNeg).toInt64)] (fm_mk S) (some (.long v)) (fm_mk S1)) (nx : am_Ev (d + 1) k_Notes_mixNotes 41 [some (.ref a0), some (.long y1), none, some (.int x3)] [.long v] (fm_mk S1) r) : am_Ev (d + 1) k_Notes_mixNotes 31 [some (.ref a0), some (.long y1), none, some (.int x3)] [.long sy0] (fm_mk S) r := by
  have N_a0 := fm_notes h_a0
  refine fs_aloadn (j := 0) (by decide +kernel) rfl ?_
  refine fe_getR (idx := 18) (t := 4) (f := 3) (fk := 2) (fin := 1) (wp := 100) (x := a0 + 3) (by decide +kernel) (by decide +kernel) h_a0 (by decide +kernel) (fm_objrf h_a0 (by decide) (by decide +kernel) (by decide +kernel)) ?_
  refine fs_iloadn (j := 3) (by decide +kernel) rfl ?_
  refine fx_iald (n := x3.toNatClampNeg) (len := 6) (by decide +kernel) N_a0.2.2.2.2.1 N_a0.2.2.2.2.2.1 hi1 rfl ?_
  refine fs_i2l (by decide +kernel) ?_
  exact fe_callS (idx := 70) (kd := 4) (n := 2) (wp := 935) (q := (911, 0)) (as := [.long sy0, .long ((S.1 (a0 + 3) x3.toNatClampNeg).toInt64)]) (rs := []) (by decide +kernel) (by decide +kernel) (by decide +kernel) (by decide) rfl (Nat.le_of_ble_eq_true rfl) rfl hc nx
theorem b_Notes_mixNotes_41 {d : Nat} {a0 : Nat} {y1 : Int64} {x3 : Int32} {sy0 : Int64} {v : Int64} {S1 : fm_S} {S : fm_S} {r : Option Value × am_W} (h_a0 : fm_tg a0 = 4) (hi1 : vp_in x3 6) (hc : am_Sp d k_X_mix [.long sy0, .long ((S.1 (a0 + 4) x3.toNatClampNeg).toInt64)] (fm_mk S) (some (.long v)) (fm_mk S1)) (nx : am_Ev (d + 1) k_Notes_mixNotes 53 [some (.ref a0), some (.long sy0), none, some (.int x3)] [.long v] (fm_mk S1) r) : am_Ev (d + 1) k_Notes_mixNotes 41 [some (.ref a0), some (.long y1), none, some (.int x3)] [.long sy0] (fm_mk S) r := by
  have N_a0 := fm_notes h_a0
  refine fs_lstoren (j := 1) (L' := [some (.ref a0), some (.long sy0), none, some (.int x3)]) (by decide +kernel) (Nat.le_of_ble_eq_true rfl) rfl ?_
  refine fs_lloadn (j := 1) (by decide +kernel) rfl ?_
  refine fs_aloadn (j := 0) (by decide +kernel) rfl ?_
  refine fe_getR (idx := 21) (t := 4) (f := 4) (fk := 2) (fin := 1) (wp := 101) (x := a0 + 4) (by decide +kernel) (by decide +kernel) h_a0 (by decide +kernel) (fm_objrf h_a0 (by decide) (by decide +kernel) (by decide +kernel)) ?_
  refine fs_iloadn (j := 3) (by decide +kernel) rfl ?_
  refine fx_iald (n := x3.toNatClampNeg) (len := 6) (by decide +kernel) N_a0.2.2.2.2.2.2.1 N_a0.2.2.2.2.2.2.2.1 hi1 rfl ?_
  refine fs_i2l (by decide +kernel) ?_
  exact fe_callS (idx := 70) (kd := 4) (n := 2) (wp := 935) (q := (911, 0)) (as := [.long sy0, .long ((S.1 (a0 + 4) x3.toNatClampNeg).toInt64)]) (rs := []) (by decide +kernel) (by decide +kernel) (by decide +kernel) (by decide) rfl (Nat.le_of_ble_eq_true rfl) rfl hc nx
theorem b_Notes_mixNotes_53 {d : Nat} {a0 : Nat} {y1 : Int64} {x3 : Int32} {sy0 : Int64} {v : Int64} {S1 : fm_S} {S : fm_S} {r : Option Value × am_W} (h_a0 : fm_tg a0 = 4) (hi1 : vp_in x3 6) (hc : am_Sp d k_X_mix [.long sy0, .long ((S.1 (a0 + 5) x3.toNatClampNeg).toInt64)] (fm_mk S) (some (.long v)) (fm_mk S1)) (nx : am_Ev (d + 1) k_Notes_mixNotes 63 [some (.ref a0), some (.long y1), none, some (.int x3)] [.long v] (fm_mk S1) r) : am_Ev (d + 1) k_Notes_mixNotes 53 [some (.ref a0), some (.long y1), none, some (.int x3)] [.long sy0] (fm_mk S) r := by
  have N_a0 := fm_notes h_a0
  refine fs_aloadn (j := 0) (by decide +kernel) rfl ?_
  refine fe_getR (idx := 24) (t := 4) (f := 5) (fk := 2) (fin := 1) (wp := 102) (x := a0 + 5) (by decide +kernel) (by decide +kernel) h_a0 (by decide +kernel) (fm_objrf h_a0 (by decide) (by decide +kernel) (by decide +kernel)) ?_
  refine fs_iloadn (j := 3) (by decide +kernel) rfl ?_
  refine fx_iald (n := x3.toNatClampNeg) (len := 6) (by decide +kernel) N_a0.2.2.2.2.2.2.2.2.1 N_a0.2.2.2.2.2.2.2.2.2 hi1 rfl ?_
  refine fs_i2l (by decide +kernel) ?_
  exact fe_callS (idx := 70) (kd := 4) (n := 2) (wp := 935) (q := (911, 0)) (as := [.long sy0, .long ((S.1 (a0 + 5) x3.toNatClampNeg).toInt64)]) (rs := []) (by decide +kernel) (by decide +kernel) (by decide +kernel) (by decide) rfl (Nat.le_of_ble_eq_true rfl) rfl hc nx
theorem b_Notes_mixNotes_63 {d : Nat} {a0 : Nat} {y1 : Int64} {x3 : Int32} {sy0 : Int64} {S : fm_S} {r : Option Value × am_W} (nx : am_Ev d k_Notes_mixNotes 2 [some (.ref a0), some (.long sy0), none, some (.int (x3 + 1))] [] (fm_mk S) r) : am_Ev d k_Notes_mixNotes 63 [some (.ref a0), some (.long y1), none, some (.int x3)] [.long sy0] (fm_mk S) r := by
  refine fs_lstoren (j := 1) (L' := [some (.ref a0), some (.long sy0), none, some (.int x3)]) (by decide +kernel) (Nat.le_of_ble_eq_true rfl) rfl ?_
  refine fs_iinc (j := 3) (n := 1) (v := 1) (L' := [some (.ref a0), some (.long sy0), none, some (.int (x3 + 1))]) (by decide +kernel) rfl (Nat.le_of_ble_eq_true rfl) (by decide) rfl ?_
  refine fs_goto (off := -65) (tgt := 2) (by decide +kernel) (by decide) ?_
  exact nx
theorem b_Notes_mixNotes_70 {d : Nat} {a0 : Nat} {y1 : Int64} {x3 : Int32} {S : fm_S}  : am_Ev d k_Notes_mixNotes 70 [some (.ref a0), some (.long y1), none, some (.int x3)] [] (fm_mk S) (some (.long y1), fm_mk S) := by
  refine fs_lloadn (j := 1) (by decide +kernel) rfl ?_
  exact fe_retL (by decide +kernel) (by decide +kernel)
