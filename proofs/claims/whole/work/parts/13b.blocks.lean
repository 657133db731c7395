/-! basic blocks: printed by wip/whole/gen13.py -/
-- KitchenSiege$Town.begin()V
theorem b_Town_begin_0 {d : Nat} {a0 : Nat} {o1 : Option Value} {S1 : fm_S} {S : fm_S} {r : Option Value × am_W} (h_a0 : fm_tg a0 = 6) (hc : am_Sp d k_Days_begin [.ref (a0 + 16)] (fm_mk (fm_wI (fm_wI (fm_wI (fm_wI S a0 0 0) a0 7 0) (a0 + 10) 0 0) a0 14 0)) (none) (fm_mk S1)) (nx : am_Ev (d + 1) k_Town_begin 30 [some (.ref a0), o1] [] (fm_mk S1) r) : am_Ev (d + 1) k_Town_begin 0 [some (.ref a0), o1] [] (fm_mk S) r := by
  have T_a0 := fm_town h_a0
  have N_a010 := fm_notes T_a0.2.1
  have D_a016 := fm_days T_a0.2.2.1
  refine fs_aloadn (j := 0) (by decide +kernel) rfl ?_
  refine fs_iconst (n := 0) (v := 0) (by decide +kernel) (by decide) ?_
  refine fe_putI (idx := 60) (t := 6) (f := 0) (wp := 156) (by decide +kernel) (by decide +kernel) h_a0 (by decide +kernel) ?_
  refine fs_aloadn (j := 0) (by decide +kernel) rfl ?_
  refine fs_iconst (n := 0) (v := 0) (by decide +kernel) (by decide) ?_
  refine fe_putI (idx := 64) (t := 6) (f := 7) (wp := 176) (by decide +kernel) (by decide +kernel) h_a0 (by decide +kernel) ?_
  refine fs_aloadn (j := 0) (by decide +kernel) rfl ?_
  refine fe_getR (idx := 42) (t := 6) (f := 11) (fk := 2) (fin := 1) (wp := 186) (x := a0 + 10) (by decide +kernel) (by decide +kernel) h_a0 (by decide +kernel) (fm_objrf h_a0 (by decide) (by decide +kernel) (by decide +kernel)) ?_
  refine fs_iconst (n := 0) (v := 0) (by decide +kernel) (by decide) ?_
  refine fe_putI (idx := 67) (t := 4) (f := 0) (wp := 96) (by decide +kernel) (by decide +kernel) T_a0.2.1 (by decide +kernel) ?_
  refine fs_aloadn (j := 0) (by decide +kernel) rfl ?_
  refine fs_iconst (n := 0) (v := 0) (by decide +kernel) (by decide) ?_
  refine fe_putI (idx := 70) (t := 6) (f := 14) (wp := 192) (by decide +kernel) (by decide +kernel) h_a0 (by decide +kernel) ?_
  refine fs_aloadn (j := 0) (by decide +kernel) rfl ?_
  refine fe_getR (idx := 49) (t := 6) (f := 12) (fk := 2) (fin := 1) (wp := 188) (x := a0 + 16) (by decide +kernel) (by decide +kernel) h_a0 (by decide +kernel) (fm_objrf h_a0 (by decide) (by decide +kernel) (by decide +kernel)) ?_
  exact fe_callV (t := 2) (idx := 73) (n := 0) (wp := 152) (q := (153, 154)) (as := []) (rs := []) (by decide +kernel) (by decide +kernel) T_a0.2.2.1 (by decide +kernel) rfl (Nat.le_of_ble_eq_true rfl) rfl hc nx
theorem b_Town_begin_30 {d : Nat} {a0 : Nat} {o1 : Option Value} {S : fm_S} {r : Option Value × am_W} (nx : am_Ev d k_Town_begin 32 [some (.ref a0), some (.int 0)] [] (fm_mk S) r) : am_Ev d k_Town_begin 30 [some (.ref a0), o1] [] (fm_mk S) r := by
  refine fs_iconst (n := 0) (v := 0) (by decide +kernel) (by decide) ?_
  refine fs_istoren (j := 1) (L' := [some (.ref a0), some (.int 0)]) (by decide +kernel) (Nat.le_of_ble_eq_true rfl) rfl ?_
  exact nx
theorem b_Town_begin_32 {d : Nat} {a0 : Nat} {x1 : Int32} {S : fm_S} {r : Option Value × am_W} (kt : 4 ≤ x1 → am_Ev d k_Town_begin 57 [some (.ref a0), some (.int x1)] [] (fm_mk S) r) (kf : ¬ 4 ≤ x1 → am_Ev d k_Town_begin 37 [some (.ref a0), some (.int x1)] [] (fm_mk S) r) : am_Ev d k_Town_begin 32 [some (.ref a0), some (.int x1)] [] (fm_mk S) r := by
  refine fs_iloadn (j := 1) (by decide +kernel) rfl ?_
  refine fs_iconst (n := 4) (v := 4) (by decide +kernel) (by decide) ?_
  exact fs_icge (off := 23) (tgt := 57) (by decide +kernel) (by decide) kt kf
theorem b_Town_begin_37 {d : Nat} {a0 : Nat} {x1 : Int32} {S : fm_S} {r : Option Value × am_W} (h_a0 : fm_tg a0 = 6) (hi1 : vp_in x1 4) (nx : am_Ev d k_Town_begin 32 [some (.ref a0), some (.int (x1 + 1))] [] (fm_mk (fm_wI (fm_wI S (a0 + 5) x1.toNatClampNeg 0) (a0 + 6) x1.toNatClampNeg x1)) r) : am_Ev d k_Town_begin 37 [some (.ref a0), some (.int x1)] [] (fm_mk S) r := by
  have T_a0 := fm_town h_a0
  refine fs_aloadn (j := 0) (by decide +kernel) rfl ?_
  refine fe_getR (idx := 24) (t := 6) (f := 5) (fk := 2) (fin := 1) (wp := 170) (x := a0 + 5) (by decide +kernel) (by decide +kernel) h_a0 (by decide +kernel) (fm_objrf h_a0 (by decide) (by decide +kernel) (by decide +kernel)) ?_
  refine fs_iloadn (j := 1) (by decide +kernel) rfl ?_
  refine fs_iconst (n := 0) (v := 0) (by decide +kernel) (by decide) ?_
  refine fx_iast (n := x1.toNatClampNeg) (len := 4) (by decide +kernel) T_a0.1.2.2.2.2.2.2.2.2.1 T_a0.1.2.2.2.2.2.2.2.2.2.1 hi1 rfl ?_
  refine fs_aloadn (j := 0) (by decide +kernel) rfl ?_
  refine fe_getR (idx := 27) (t := 6) (f := 6) (fk := 2) (fin := 1) (wp := 173) (x := a0 + 6) (by decide +kernel) (by decide +kernel) h_a0 (by decide +kernel) (fm_objrf h_a0 (by decide) (by decide +kernel) (by decide +kernel)) ?_
  refine fs_iloadn (j := 1) (by decide +kernel) rfl ?_
  refine fs_iloadn (j := 1) (by decide +kernel) rfl ?_
  refine fx_iast (n := x1.toNatClampNeg) (len := 4) (by decide +kernel) T_a0.1.2.2.2.2.2.2.2.2.2.2.1 T_a0.1.2.2.2.2.2.2.2.2.2.2.2.1 hi1 rfl ?_
  refine fs_iinc (j := 1) (n := 1) (v := 1) (L' := [some (.ref a0), some (.int (x1 + 1))]) (by decide +kernel) rfl (Nat.le_of_ble_eq_true rfl) (by decide) rfl ?_
  refine fs_goto (off := -22) (tgt := 32) (by decide +kernel) (by decide) ?_
  exact nx
theorem b_Town_begin_57 {d : Nat} {a0 : Nat} {x1 : Int32} {S : fm_S} {r : Option Value × am_W} (nx : am_Ev d k_Town_begin 59 [some (.ref a0), some (.int 0)] [] (fm_mk S) r) : am_Ev d k_Town_begin 57 [some (.ref a0), some (.int x1)] [] (fm_mk S) r := by
  refine fs_iconst (n := 0) (v := 0) (by decide +kernel) (by decide) ?_
  refine fs_istoren (j := 1) (L' := [some (.ref a0), some (.int 0)]) (by decide +kernel) (Nat.le_of_ble_eq_true rfl) rfl ?_
  exact nx
theorem b_Town_begin_59 {d : Nat} {a0 : Nat} {x1 : Int32} {S : fm_S} {r : Option Value × am_W} (kt : 8 ≤ x1 → am_Ev d k_Town_begin 78 [some (.ref a0), some (.int x1)] [] (fm_mk S) r) (kf : ¬ 8 ≤ x1 → am_Ev d k_Town_begin 65 [some (.ref a0), some (.int x1)] [] (fm_mk S) r) : am_Ev d k_Town_begin 59 [some (.ref a0), some (.int x1)] [] (fm_mk S) r := by
  refine fs_iloadn (j := 1) (by decide +kernel) rfl ?_
  refine fs_bipush (n := 8) (v := 8) (by decide +kernel) (by decide) ?_
  exact fs_icge (off := 16) (tgt := 78) (by decide +kernel) (by decide) kt kf
theorem b_Town_begin_65 {d : Nat} {a0 : Nat} {x1 : Int32} {S : fm_S} {r : Option Value × am_W} (h_a0 : fm_tg a0 = 6) (hi1 : vp_in x1 8) (nx : am_Ev d k_Town_begin 59 [some (.ref a0), some (.int (x1 + 1))] [] (fm_mk (fm_wI S (a0 + 4) x1.toNatClampNeg 0)) r) : am_Ev d k_Town_begin 65 [some (.ref a0), some (.int x1)] [] (fm_mk S) r := by
  have T_a0 := fm_town h_a0
  refine fs_aloadn (j := 0) (by decide +kernel) rfl ?_
  refine fe_getR (idx := 21) (t := 6) (f := 4) (fk := 2) (fin := 1) (wp := 168) (x := a0 + 4) (by decide +kernel) (by decide +kernel) h_a0 (by decide +kernel) (fm_objrf h_a0 (by decide) (by decide +kernel) (by decide +kernel)) ?_
  refine fs_iloadn (j := 1) (by decide +kernel) rfl ?_
  refine fs_iconst (n := 0) (v := 0) (by decide +kernel) (by decide) ?_
  refine fx_iast (n := x1.toNatClampNeg) (len := 8) (by decide +kernel) T_a0.1.2.2.2.2.2.2.1 T_a0.1.2.2.2.2.2.2.2.1 hi1 rfl ?_
  refine fs_iinc (j := 1) (n := 1) (v := 1) (L' := [some (.ref a0), some (.int (x1 + 1))]) (by decide +kernel) rfl (Nat.le_of_ble_eq_true rfl) (by decide) rfl ?_
  refine fs_goto (off := -16) (tgt := 59) (by decide +kernel) (by decide) ?_
  exact nx
theorem b_Town_begin_78 {d : Nat} {a0 : Nat} {x1 : Int32} {S : fm_S}  : am_Ev d k_Town_begin 78 [some (.ref a0), some (.int x1)] [] (fm_mk S) (none, fm_mk S) := by
  exact fe_retV (by decide +kernel) (by decide +kernel)
-- KitchenSiege$Town.addStreet(III)I
theorem b_Town_addStreet_0 {d : Nat} {a0 : Nat} {x1 : Int32} {x2 : Int32} {x3 : Int32} {o4 : Option Value} {S : fm_S} {r : Option Value × am_W} (h_a0 : fm_tg a0 = 6) (kt : (S.1 a0 0) < 8 → am_Ev d k_Town_addStreet 11 [some (.ref a0), some (.int x1), some (.int x2), some (.int x3), o4] [] (fm_mk S) r) (kf : ¬ (S.1 a0 0) < 8 → am_Ev d k_Town_addStreet 9 [some (.ref a0), some (.int x1), some (.int x2), some (.int x3), o4] [] (fm_mk S) r) : am_Ev d k_Town_addStreet 0 [some (.ref a0), some (.int x1), some (.int x2), some (.int x3), o4] [] (fm_mk S) r := by
  have T_a0 := fm_town h_a0
  refine fs_aloadn (j := 0) (by decide +kernel) rfl ?_
  refine fe_getI (idx := 60) (t := 6) (f := 0) (fk := 0) (fin := 0) (wp := 156) (by decide +kernel) (by decide +kernel) h_a0 (by decide +kernel) ?_
  refine fs_bipush (n := 8) (v := 8) (by decide +kernel) (by decide) ?_
  exact fs_iclt (off := 5) (tgt := 11) (by decide +kernel) (by decide) kt kf
theorem b_Town_addStreet_9 {d : Nat} {a0 : Nat} {x1 : Int32} {x2 : Int32} {x3 : Int32} {o4 : Option Value} {S : fm_S}  : am_Ev d k_Town_addStreet 9 [some (.ref a0), some (.int x1), some (.int x2), some (.int x3), o4] [] (fm_mk S) (some (.int (-1)), fm_mk S) := by
  refine fs_iconst (n := -1) (v := (-1)) (by decide +kernel) (by decide) ?_
  exact fe_retI (by decide +kernel) (by decide +kernel)
theorem b_Town_addStreet_11 {d : Nat} {a0 : Nat} {x1 : Int32} {x2 : Int32} {x3 : Int32} {o4 : Option Value} {S : fm_S}  (h_a0 : fm_tg a0 = 6) (hi1 : vp_in (S.1 a0 0) 8) : am_Ev d k_Town_addStreet 11 [some (.ref a0), some (.int x1), some (.int x2), some (.int x3), o4] [] (fm_mk S) (some (.int (S.1 a0 0)), fm_mk (fm_wI (fm_wI (fm_wI (fm_wI (fm_wI S (a0 + 1) ((S.1 a0 0).toNatClampNeg) x1) (a0 + 2) ((S.1 a0 0).toNatClampNeg) x2) (a0 + 3) ((S.1 a0 0).toNatClampNeg) x3) a0 0 (((fm_wI (fm_wI (fm_wI S (a0 + 1) ((S.1 a0 0).toNatClampNeg) x1) (a0 + 2) ((S.1 a0 0).toNatClampNeg) x2) (a0 + 3) ((S.1 a0 0).toNatClampNeg) x3).1 a0 0) + 1)) a0 14 0)) := by
  have T_a0 := fm_town h_a0
  refine fs_aloadn (j := 0) (by decide +kernel) rfl ?_
  refine fe_getI (idx := 60) (t := 6) (f := 0) (fk := 0) (fin := 0) (wp := 156) (by decide +kernel) (by decide +kernel) h_a0 (by decide +kernel) ?_
  refine fs_istore (j := 4) (L' := [some (.ref a0), some (.int x1), some (.int x2), some (.int x3), some (.int (S.1 a0 0))]) (by decide +kernel) (Nat.le_of_ble_eq_true rfl) rfl ?_
  refine fs_aloadn (j := 0) (by decide +kernel) rfl ?_
  refine fe_getR (idx := 9) (t := 6) (f := 1) (fk := 2) (fin := 1) (wp := 161) (x := a0 + 1) (by decide +kernel) (by decide +kernel) h_a0 (by decide +kernel) (fm_objrf h_a0 (by decide) (by decide +kernel) (by decide +kernel)) ?_
  refine fs_iload (j := 4) (by decide +kernel) rfl ?_
  refine fs_iloadn (j := 1) (by decide +kernel) rfl ?_
  refine fx_iast (n := (S.1 a0 0).toNatClampNeg) (len := 8) (by decide +kernel) T_a0.1.1 T_a0.1.2.1 hi1 rfl ?_
  refine fs_aloadn (j := 0) (by decide +kernel) rfl ?_
  refine fe_getR (idx := 15) (t := 6) (f := 2) (fk := 2) (fin := 1) (wp := 163) (x := a0 + 2) (by decide +kernel) (by decide +kernel) h_a0 (by decide +kernel) (fm_objrf h_a0 (by decide) (by decide +kernel) (by decide +kernel)) ?_
  refine fs_iload (j := 4) (by decide +kernel) rfl ?_
  refine fs_iloadn (j := 2) (by decide +kernel) rfl ?_
  refine fx_iast (n := (S.1 a0 0).toNatClampNeg) (len := 8) (by decide +kernel) T_a0.1.2.2.1 T_a0.1.2.2.2.1 hi1 rfl ?_
  refine fs_aloadn (j := 0) (by decide +kernel) rfl ?_
  refine fe_getR (idx := 18) (t := 6) (f := 3) (fk := 2) (fin := 1) (wp := 166) (x := a0 + 3) (by decide +kernel) (by decide +kernel) h_a0 (by decide +kernel) (fm_objrf h_a0 (by decide) (by decide +kernel) (by decide +kernel)) ?_
  refine fs_iload (j := 4) (by decide +kernel) rfl ?_
  refine fs_iloadn (j := 3) (by decide +kernel) rfl ?_
  refine fx_iast (n := (S.1 a0 0).toNatClampNeg) (len := 8) (by decide +kernel) T_a0.1.2.2.2.2.1 T_a0.1.2.2.2.2.2.1 hi1 rfl ?_
  refine fs_aloadn (j := 0) (by decide +kernel) rfl ?_
  refine fs_dup (by decide +kernel) rfl ?_
  refine fe_getI (idx := 60) (t := 6) (f := 0) (fk := 0) (fin := 0) (wp := 156) (by decide +kernel) (by decide +kernel) h_a0 (by decide +kernel) ?_
  refine fs_iconst (n := 1) (v := 1) (by decide +kernel) (by decide) ?_
  refine fs_iadd (by decide +kernel) ?_
  refine fe_putI (idx := 60) (t := 6) (f := 0) (wp := 156) (by decide +kernel) (by decide +kernel) h_a0 (by decide +kernel) ?_
  refine fs_aloadn (j := 0) (by decide +kernel) rfl ?_
  refine fs_iconst (n := 0) (v := 0) (by decide +kernel) (by decide) ?_
  refine fe_putI (idx := 70) (t := 6) (f := 14) (wp := 192) (by decide +kernel) (by decide +kernel) h_a0 (by decide +kernel) ?_
  refine fs_iload (j := 4) (by decide +kernel) rfl ?_
  exact fe_retI (by decide +kernel) (by decide +kernel)
-- KitchenSiege$Town.hasLane(II)Z
theorem b_Town_hasLane_0 {d : Nat} {a0 : Nat} {x1 : Int32} {x2 : Int32} {v : Int32} {S1 : fm_S} {S : fm_S} {r : Option Value × am_W} (h_a0 : fm_tg a0 = 6) (hi1 : vp_in x1 8) (hc : am_Sp d k_X_has [.int (S.1 (a0 + 4) x1.toNatClampNeg), .int x2] (fm_mk S) (some (.int v)) (fm_mk S1)) (nx : am_Ev (d + 1) k_Town_hasLane 10 [some (.ref a0), some (.int x1), some (.int x2)] [.int v] (fm_mk S1) r) : am_Ev (d + 1) k_Town_hasLane 0 [some (.ref a0), some (.int x1), some (.int x2)] [] (fm_mk S) r := by
  have T_a0 := fm_town h_a0
  refine fs_aloadn (j := 0) (by decide +kernel) rfl ?_
  refine fe_getR (idx := 21) (t := 6) (f := 4) (fk := 2) (fin := 1) (wp := 168) (x := a0 + 4) (by decide +kernel) (by decide +kernel) h_a0 (by decide +kernel) (fm_objrf h_a0 (by decide) (by decide +kernel) (by decide +kernel)) ?_
  refine fs_iloadn (j := 1) (by decide +kernel) rfl ?_
  refine fx_iald (n := x1.toNatClampNeg) (len := 8) (by decide +kernel) T_a0.1.2.2.2.2.2.2.1 T_a0.1.2.2.2.2.2.2.2.1 hi1 rfl ?_
  refine fs_iloadn (j := 2) (by decide +kernel) rfl ?_
  exact fe_callS (idx := 87) (kd := 4) (n := 2) (wp := 397) (q := (398, 0)) (as := [.int (S.1 (a0 + 4) x1.toNatClampNeg), .int x2]) (rs := []) (by decide +kernel) (by decide +kernel) (by decide +kernel) (by decide) rfl (Nat.le_of_ble_eq_true rfl) rfl hc nx
theorem b_Town_hasLane_10 {d : Nat} {a0 : Nat} {x1 : Int32} {x2 : Int32} {sx0 : Int32} {S : fm_S}  (hz : sx0 = 0 ∨ sx0 = 1) : am_Ev d k_Town_hasLane 10 [some (.ref a0), some (.int x1), some (.int x2)] [.int sx0] (fm_mk S) (some (.int sx0), fm_mk S) := by
  exact fe_retZ (by decide +kernel) (by decide +kernel) hz
-- KitchenSiege$Town.addLane(II)V
theorem b_Town_addLane_0 {d : Nat} {a0 : Nat} {x1 : Int32} {x2 : Int32} {S : fm_S}  (h_a0 : fm_tg a0 = 6) (hi1 : vp_in x1 8) (hi2 : vp_in x2 8) : am_Ev d k_Town_addLane 0 [some (.ref a0), some (.int x1), some (.int x2)] [] (fm_mk S) (none, fm_mk (fm_wI (fm_wI S (a0 + 4) x1.toNatClampNeg ((S.1 (a0 + 4) x1.toNatClampNeg) ||| (1 <<< (x2 &&& 31)))) (a0 + 4) x2.toNatClampNeg (((fm_wI S (a0 + 4) x1.toNatClampNeg ((S.1 (a0 + 4) x1.toNatClampNeg) ||| (1 <<< (x2 &&& 31)))).1 (a0 + 4) x2.toNatClampNeg) ||| (1 <<< (x1 &&& 31))))) := by
  have T_a0 := fm_town h_a0
  refine fs_aloadn (j := 0) (by decide +kernel) rfl ?_
  refine fe_getR (idx := 21) (t := 6) (f := 4) (fk := 2) (fin := 1) (wp := 168) (x := a0 + 4) (by decide +kernel) (by decide +kernel) h_a0 (by decide +kernel) (fm_objrf h_a0 (by decide) (by decide +kernel) (by decide +kernel)) ?_
  refine fs_iloadn (j := 1) (by decide +kernel) rfl ?_
  refine fs_dup2 (by decide +kernel) ⟨rfl, rfl⟩ ?_
  refine fx_iald (n := x1.toNatClampNeg) (len := 8) (by decide +kernel) T_a0.1.2.2.2.2.2.2.1 T_a0.1.2.2.2.2.2.2.2.1 hi1 rfl ?_
  refine fs_iconst (n := 1) (v := 1) (by decide +kernel) (by decide) ?_
  refine fs_iloadn (j := 2) (by decide +kernel) rfl ?_
  refine fs_ishl (by decide +kernel) ?_
  refine fs_ior (by decide +kernel) ?_
  refine fx_iast (n := x1.toNatClampNeg) (len := 8) (by decide +kernel) T_a0.1.2.2.2.2.2.2.1 T_a0.1.2.2.2.2.2.2.2.1 hi1 rfl ?_
  refine fs_aloadn (j := 0) (by decide +kernel) rfl ?_
  refine fe_getR (idx := 21) (t := 6) (f := 4) (fk := 2) (fin := 1) (wp := 168) (x := a0 + 4) (by decide +kernel) (by decide +kernel) h_a0 (by decide +kernel) (fm_objrf h_a0 (by decide) (by decide +kernel) (by decide +kernel)) ?_
  refine fs_iloadn (j := 2) (by decide +kernel) rfl ?_
  refine fs_dup2 (by decide +kernel) ⟨rfl, rfl⟩ ?_
  refine fx_iald (n := x2.toNatClampNeg) (len := 8) (by decide +kernel) T_a0.1.2.2.2.2.2.2.1 T_a0.1.2.2.2.2.2.2.2.1 hi2 rfl ?_
  refine fs_iconst (n := 1) (v := 1) (by decide +kernel) (by decide) ?_
  refine fs_iloadn (j := 1) (by decide +kernel) rfl ?_
  refine fs_ishl (by decide +kernel) ?_
  refine fs_ior (by decide +kernel) ?_
  refine fx_iast (n := x2.toNatClampNeg) (len := 8) (by decide +kernel) T_a0.1.2.2.2.2.2.2.1 T_a0.1.2.2.2.2.2.2.2.1 hi2 rfl ?_
  exact fe_retV (by decide +kernel) (by decide +kernel)
-- KitchenSiege$Town.addDish(III)I
theorem b_Town_addDish_0 {d : Nat} {a0 : Nat} {x1 : Int32} {x2 : Int32} {x3 : Int32} {o4 : Option Value} {S : fm_S} {r : Option Value × am_W} (h_a0 : fm_tg a0 = 6) (kt : (S.1 a0 7) < 6 → am_Ev d k_Town_addDish 11 [some (.ref a0), some (.int x1), some (.int x2), some (.int x3), o4] [] (fm_mk S) r) (kf : ¬ (S.1 a0 7) < 6 → am_Ev d k_Town_addDish 9 [some (.ref a0), some (.int x1), some (.int x2), some (.int x3), o4] [] (fm_mk S) r) : am_Ev d k_Town_addDish 0 [some (.ref a0), some (.int x1), some (.int x2), some (.int x3), o4] [] (fm_mk S) r := by
  have T_a0 := fm_town h_a0
  refine fs_aloadn (j := 0) (by decide +kernel) rfl ?_
  refine fe_getI (idx := 64) (t := 6) (f := 7) (fk := 0) (fin := 0) (wp := 176) (by decide +kernel) (by decide +kernel) h_a0 (by decide +kernel) ?_
  refine fs_bipush (n := 6) (v := 6) (by decide +kernel) (by decide) ?_
  exact fs_iclt (off := 5) (tgt := 11) (by decide +kernel) (by decide) kt kf
theorem b_Town_addDish_9 {d : Nat} {a0 : Nat} {x1 : Int32} {x2 : Int32} {x3 : Int32} {o4 : Option Value} {S : fm_S}  : am_Ev d k_Town_addDish 9 [some (.ref a0), some (.int x1), some (.int x2), some (.int x3), o4] [] (fm_mk S) (some (.int (-1)), fm_mk S) := by
  refine fs_iconst (n := -1) (v := (-1)) (by decide +kernel) (by decide) ?_
  exact fe_retI (by decide +kernel) (by decide +kernel)
theorem b_Town_addDish_11 {d : Nat} {a0 : Nat} {x1 : Int32} {x2 : Int32} {x3 : Int32} {o4 : Option Value} {S : fm_S}  (h_a0 : fm_tg a0 = 6) (hi1 : vp_in (S.1 a0 7) 6) : am_Ev d k_Town_addDish 11 [some (.ref a0), some (.int x1), some (.int x2), some (.int x3), o4] [] (fm_mk S) (some (.int (S.1 a0 7)), fm_mk (fm_wI (fm_wI (fm_wI (fm_wI S (a0 + 7) ((S.1 a0 7).toNatClampNeg) x1) (a0 + 8) ((S.1 a0 7).toNatClampNeg) x2) (a0 + 9) ((S.1 a0 7).toNatClampNeg) x3) a0 7 (((fm_wI (fm_wI (fm_wI S (a0 + 7) ((S.1 a0 7).toNatClampNeg) x1) (a0 + 8) ((S.1 a0 7).toNatClampNeg) x2) (a0 + 9) ((S.1 a0 7).toNatClampNeg) x3).1 a0 7) + 1))) := by
  have T_a0 := fm_town h_a0
  refine fs_aloadn (j := 0) (by decide +kernel) rfl ?_
  refine fe_getI (idx := 64) (t := 6) (f := 7) (fk := 0) (fin := 0) (wp := 176) (by decide +kernel) (by decide +kernel) h_a0 (by decide +kernel) ?_
  refine fs_istore (j := 4) (L' := [some (.ref a0), some (.int x1), some (.int x2), some (.int x3), some (.int (S.1 a0 7))]) (by decide +kernel) (Nat.le_of_ble_eq_true rfl) rfl ?_
  refine fs_aloadn (j := 0) (by decide +kernel) rfl ?_
  refine fe_getR (idx := 30) (t := 6) (f := 8) (fk := 2) (fin := 1) (wp := 180) (x := a0 + 7) (by decide +kernel) (by decide +kernel) h_a0 (by decide +kernel) (fm_objrf h_a0 (by decide) (by decide +kernel) (by decide +kernel)) ?_
  refine fs_iload (j := 4) (by decide +kernel) rfl ?_
  refine fs_iloadn (j := 1) (by decide +kernel) rfl ?_
  refine fx_iast (n := (S.1 a0 7).toNatClampNeg) (len := 6) (by decide +kernel) T_a0.1.2.2.2.2.2.2.2.2.2.2.2.2.1 T_a0.1.2.2.2.2.2.2.2.2.2.2.2.2.2.1 hi1 rfl ?_
  refine fs_aloadn (j := 0) (by decide +kernel) rfl ?_
  refine fe_getR (idx := 33) (t := 6) (f := 9) (fk := 2) (fin := 1) (wp := 182) (x := a0 + 8) (by decide +kernel) (by decide +kernel) h_a0 (by decide +kernel) (fm_objrf h_a0 (by decide) (by decide +kernel) (by decide +kernel)) ?_
  refine fs_iload (j := 4) (by decide +kernel) rfl ?_
  refine fs_iloadn (j := 2) (by decide +kernel) rfl ?_
  refine fx_iast (n := (S.1 a0 7).toNatClampNeg) (len := 6) (by decide +kernel) T_a0.1.2.2.2.2.2.2.2.2.2.2.2.2.2.2.1 T_a0.1.2.2.2.2.2.2.2.2.2.2.2.2.2.2.2.1 hi1 rfl ?_
  refine fs_aloadn (j := 0) (by decide +kernel) rfl ?_
  refine fe_getR (idx := 36) (t := 6) (f := 10) (fk := 2) (fin := 1) (wp := 184) (x := a0 + 9) (by decide +kernel) (by decide +kernel) h_a0 (by decide +kernel) (fm_objrf h_a0 (by decide) (by decide +kernel) (by decide +kernel)) ?_
  refine fs_iload (j := 4) (by decide +kernel) rfl ?_
  refine fs_iloadn (j := 3) (by decide +kernel) rfl ?_
  refine fx_iast (n := (S.1 a0 7).toNatClampNeg) (len := 6) (by decide +kernel) T_a0.1.2.2.2.2.2.2.2.2.2.2.2.2.2.2.2.2.1 T_a0.1.2.2.2.2.2.2.2.2.2.2.2.2.2.2.2.2.2 hi1 rfl ?_
  refine fs_aloadn (j := 0) (by decide +kernel) rfl ?_
  refine fs_dup (by decide +kernel) rfl ?_
  refine fe_getI (idx := 64) (t := 6) (f := 7) (fk := 0) (fin := 0) (wp := 176) (by decide +kernel) (by decide +kernel) h_a0 (by decide +kernel) ?_
  refine fs_iconst (n := 1) (v := 1) (by decide +kernel) (by decide) ?_
  refine fs_iadd (by decide +kernel) ?_
  refine fe_putI (idx := 64) (t := 6) (f := 7) (wp := 176) (by decide +kernel) (by decide +kernel) h_a0 (by decide +kernel) ?_
  refine fs_iload (j := 4) (by decide +kernel) rfl ?_
  exact fe_retI (by decide +kernel) (by decide +kernel)
-- KitchenSiege$Town.copy(LKitchenSiege$Town;)V
theorem b_Town_copy_0 {d : Nat} {a0 : Nat} {a1 : Nat} {o2 : Option Value} {S1 : fm_S} {S : fm_S} {r : Option Value × am_W} (h_a1 : fm_tg a1 = 6) (h_a0 : fm_tg a0 = 6) (hc : am_Sp d k_Notes_copy [.ref (a0 + 10), .ref (a1 + 10)] (fm_mk (fm_cp (fm_cp (fm_cp (fm_cp (fm_cp (fm_cp (fm_cp (fm_cp (fm_cp (fm_wI (fm_wI (fm_wI S a0 0 (S.1 a1 0)) a0 7 ((fm_wI S a0 0 (S.1 a1 0)).1 a1 7)) a0 14 ((fm_wI (fm_wI S a0 0 (S.1 a1 0)) a0 7 ((fm_wI S a0 0 (S.1 a1 0)).1 a1 7)).1 a1 14)) (a1 + 1) 0 (a0 + 1) 0 8) (a1 + 2) 0 (a0 + 2) 0 8) (a1 + 3) 0 (a0 + 3) 0 8) (a1 + 4) 0 (a0 + 4) 0 8) (a1 + 5) 0 (a0 + 5) 0 4) (a1 + 6) 0 (a0 + 6) 0 4) (a1 + 7) 0 (a0 + 7) 0 6) (a1 + 8) 0 (a0 + 8) 0 6) (a1 + 9) 0 (a0 + 9) 0 6)) (none) (fm_mk S1)) (nx : am_Ev (d + 1) k_Town_copy 168 [some (.ref a0), some (.ref a1), o2] [] (fm_mk S1) r) : am_Ev (d + 1) k_Town_copy 0 [some (.ref a0), some (.ref a1), o2] [] (fm_mk S) r := by
  have T_a1 := fm_town h_a1
  have T_a0 := fm_town h_a0
  have N_a010 := fm_notes T_a0.2.1
  have N_a110 := fm_notes T_a1.2.1
  refine fs_aloadn (j := 0) (by decide +kernel) rfl ?_
  refine fs_aloadn (j := 1) (by decide +kernel) rfl ?_
  refine fe_getI (idx := 60) (t := 6) (f := 0) (fk := 0) (fin := 0) (wp := 156) (by decide +kernel) (by decide +kernel) h_a1 (by decide +kernel) ?_
  refine fe_putI (idx := 60) (t := 6) (f := 0) (wp := 156) (by decide +kernel) (by decide +kernel) h_a0 (by decide +kernel) ?_
  refine fs_aloadn (j := 0) (by decide +kernel) rfl ?_
  refine fs_aloadn (j := 1) (by decide +kernel) rfl ?_
  refine fe_getI (idx := 64) (t := 6) (f := 7) (fk := 0) (fin := 0) (wp := 176) (by decide +kernel) (by decide +kernel) h_a1 (by decide +kernel) ?_
  refine fe_putI (idx := 64) (t := 6) (f := 7) (wp := 176) (by decide +kernel) (by decide +kernel) h_a0 (by decide +kernel) ?_
  refine fs_aloadn (j := 0) (by decide +kernel) rfl ?_
  refine fs_aloadn (j := 1) (by decide +kernel) rfl ?_
  refine fe_getI (idx := 70) (t := 6) (f := 14) (fk := 0) (fin := 0) (wp := 192) (by decide +kernel) (by decide +kernel) h_a1 (by decide +kernel) ?_
  refine fe_putI (idx := 70) (t := 6) (f := 14) (wp := 192) (by decide +kernel) (by decide +kernel) h_a0 (by decide +kernel) ?_
  refine fs_aloadn (j := 1) (by decide +kernel) rfl ?_
  refine fe_getR (idx := 9) (t := 6) (f := 1) (fk := 2) (fin := 1) (wp := 161) (x := a1 + 1) (by decide +kernel) (by decide +kernel) h_a1 (by decide +kernel) (fm_objrf h_a1 (by decide) (by decide +kernel) (by decide +kernel)) ?_
  refine fs_iconst (n := 0) (v := 0) (by decide +kernel) (by decide) ?_
  refine fs_aloadn (j := 0) (by decide +kernel) rfl ?_
  refine fe_getR (idx := 9) (t := 6) (f := 1) (fk := 2) (fin := 1) (wp := 161) (x := a0 + 1) (by decide +kernel) (by decide +kernel) h_a0 (by decide +kernel) (fm_objrf h_a0 (by decide) (by decide +kernel) (by decide +kernel)) ?_
  refine fs_iconst (n := 0) (v := 0) (by decide +kernel) (by decide) ?_
  refine fs_bipush (n := 8) (v := 8) (by decide +kernel) (by decide) ?_
  refine fx_copy (idx := 74) (q := 564) (l0 := 8) (l1 := 8) (s0 := 0) (d0 := 0) (n0 := 8) (by decide +kernel) (by decide +kernel) T_a1.1.1 T_a0.1.1 T_a1.1.2.1 T_a0.1.2.1 (by decide) (by decide) (by decide) (by decide) (Nat.le_of_ble_eq_true rfl) ?_
  refine fs_aloadn (j := 1) (by decide +kernel) rfl ?_
  refine fe_getR (idx := 15) (t := 6) (f := 2) (fk := 2) (fin := 1) (wp := 163) (x := a1 + 2) (by decide +kernel) (by decide +kernel) h_a1 (by decide +kernel) (fm_objrf h_a1 (by decide) (by decide +kernel) (by decide +kernel)) ?_
  refine fs_iconst (n := 0) (v := 0) (by decide +kernel) (by decide) ?_
  refine fs_aloadn (j := 0) (by decide +kernel) rfl ?_
  refine fe_getR (idx := 15) (t := 6) (f := 2) (fk := 2) (fin := 1) (wp := 163) (x := a0 + 2) (by decide +kernel) (by decide +kernel) h_a0 (by decide +kernel) (fm_objrf h_a0 (by decide) (by decide +kernel) (by decide +kernel)) ?_
  refine fs_iconst (n := 0) (v := 0) (by decide +kernel) (by decide) ?_
  refine fs_bipush (n := 8) (v := 8) (by decide +kernel) (by decide) ?_
  refine fx_copy (idx := 74) (q := 564) (l0 := 8) (l1 := 8) (s0 := 0) (d0 := 0) (n0 := 8) (by decide +kernel) (by decide +kernel) T_a1.1.2.2.1 T_a0.1.2.2.1 T_a1.1.2.2.2.1 T_a0.1.2.2.2.1 (by decide) (by decide) (by decide) (by decide) (Nat.le_of_ble_eq_true rfl) ?_
  refine fs_aloadn (j := 1) (by decide +kernel) rfl ?_
  refine fe_getR (idx := 18) (t := 6) (f := 3) (fk := 2) (fin := 1) (wp := 166) (x := a1 + 3) (by decide +kernel) (by decide +kernel) h_a1 (by decide +kernel) (fm_objrf h_a1 (by decide) (by decide +kernel) (by decide +kernel)) ?_
  refine fs_iconst (n := 0) (v := 0) (by decide +kernel) (by decide) ?_
  refine fs_aloadn (j := 0) (by decide +kernel) rfl ?_
  refine fe_getR (idx := 18) (t := 6) (f := 3) (fk := 2) (fin := 1) (wp := 166) (x := a0 + 3) (by decide +kernel) (by decide +kernel) h_a0 (by decide +kernel) (fm_objrf h_a0 (by decide) (by decide +kernel) (by decide +kernel)) ?_
  refine fs_iconst (n := 0) (v := 0) (by decide +kernel) (by decide) ?_
  refine fs_bipush (n := 8) (v := 8) (by decide +kernel) (by decide) ?_
  refine fx_copy (idx := 74) (q := 564) (l0 := 8) (l1 := 8) (s0 := 0) (d0 := 0) (n0 := 8) (by decide +kernel) (by decide +kernel) T_a1.1.2.2.2.2.1 T_a0.1.2.2.2.2.1 T_a1.1.2.2.2.2.2.1 T_a0.1.2.2.2.2.2.1 (by decide) (by decide) (by decide) (by decide) (Nat.le_of_ble_eq_true rfl) ?_
  refine fs_aloadn (j := 1) (by decide +kernel) rfl ?_
  refine fe_getR (idx := 21) (t := 6) (f := 4) (fk := 2) (fin := 1) (wp := 168) (x := a1 + 4) (by decide +kernel) (by decide +kernel) h_a1 (by decide +kernel) (fm_objrf h_a1 (by decide) (by decide +kernel) (by decide +kernel)) ?_
  refine fs_iconst (n := 0) (v := 0) (by decide +kernel) (by decide) ?_
  refine fs_aloadn (j := 0) (by decide +kernel) rfl ?_
  refine fe_getR (idx := 21) (t := 6) (f := 4) (fk := 2) (fin := 1) (wp := 168) (x := a0 + 4) (by decide +kernel) (by decide +kernel) h_a0 (by decide +kernel) (fm_objrf h_a0 (by decide) (by decide +kernel) (by decide +kernel)) ?_
  refine fs_iconst (n := 0) (v := 0) (by decide +kernel) (by decide) ?_
  refine fs_bipush (n := 8) (v := 8) (by decide +kernel) (by decide) ?_
  refine fx_copy (idx := 74) (q := 564) (l0 := 8) (l1 := 8) (s0 := 0) (d0 := 0) (n0 := 8) (by decide +kernel) (by decide +kernel) T_a1.1.2.2.2.2.2.2.1 T_a0.1.2.2.2.2.2.2.1 T_a1.1.2.2.2.2.2.2.2.1 T_a0.1.2.2.2.2.2.2.2.1 (by decide) (by decide) (by decide) (by decide) (Nat.le_of_ble_eq_true rfl) ?_
  refine fs_aloadn (j := 1) (by decide +kernel) rfl ?_
  refine fe_getR (idx := 24) (t := 6) (f := 5) (fk := 2) (fin := 1) (wp := 170) (x := a1 + 5) (by decide +kernel) (by decide +kernel) h_a1 (by decide +kernel) (fm_objrf h_a1 (by decide) (by decide +kernel) (by decide +kernel)) ?_
  refine fs_iconst (n := 0) (v := 0) (by decide +kernel) (by decide) ?_
  refine fs_aloadn (j := 0) (by decide +kernel) rfl ?_
  refine fe_getR (idx := 24) (t := 6) (f := 5) (fk := 2) (fin := 1) (wp := 170) (x := a0 + 5) (by decide +kernel) (by decide +kernel) h_a0 (by decide +kernel) (fm_objrf h_a0 (by decide) (by decide +kernel) (by decide +kernel)) ?_
  refine fs_iconst (n := 0) (v := 0) (by decide +kernel) (by decide) ?_
  refine fs_iconst (n := 4) (v := 4) (by decide +kernel) (by decide) ?_
  refine fx_copy (idx := 74) (q := 564) (l0 := 4) (l1 := 4) (s0 := 0) (d0 := 0) (n0 := 4) (by decide +kernel) (by decide +kernel) T_a1.1.2.2.2.2.2.2.2.2.1 T_a0.1.2.2.2.2.2.2.2.2.1 T_a1.1.2.2.2.2.2.2.2.2.2.1 T_a0.1.2.2.2.2.2.2.2.2.2.1 (by decide) (by decide) (by decide) (by decide) (Nat.le_of_ble_eq_true rfl) ?_
  refine fs_aloadn (j := 1) (by decide +kernel) rfl ?_
  refine fe_getR (idx := 27) (t := 6) (f := 6) (fk := 2) (fin := 1) (wp := 173) (x := a1 + 6) (by decide +kernel) (by decide +kernel) h_a1 (by decide +kernel) (fm_objrf h_a1 (by decide) (by decide +kernel) (by decide +kernel)) ?_
  refine fs_iconst (n := 0) (v := 0) (by decide +kernel) (by decide) ?_
  refine fs_aloadn (j := 0) (by decide +kernel) rfl ?_
  refine fe_getR (idx := 27) (t := 6) (f := 6) (fk := 2) (fin := 1) (wp := 173) (x := a0 + 6) (by decide +kernel) (by decide +kernel) h_a0 (by decide +kernel) (fm_objrf h_a0 (by decide) (by decide +kernel) (by decide +kernel)) ?_
  refine fs_iconst (n := 0) (v := 0) (by decide +kernel) (by decide) ?_
  refine fs_iconst (n := 4) (v := 4) (by decide +kernel) (by decide) ?_
  refine fx_copy (idx := 74) (q := 564) (l0 := 4) (l1 := 4) (s0 := 0) (d0 := 0) (n0 := 4) (by decide +kernel) (by decide +kernel) T_a1.1.2.2.2.2.2.2.2.2.2.2.1 T_a0.1.2.2.2.2.2.2.2.2.2.2.1 T_a1.1.2.2.2.2.2.2.2.2.2.2.2.1 T_a0.1.2.2.2.2.2.2.2.2.2.2.2.1 (by decide) (by decide) (by decide) (by decide) (Nat.le_of_ble_eq_true rfl) ?_
  refine fs_aloadn (j := 1) (by decide +kernel) rfl ?_
  refine fe_getR (idx := 30) (t := 6) (f := 8) (fk := 2) (fin := 1) (wp := 180) (x := a1 + 7) (by decide +kernel) (by decide +kernel) h_a1 (by decide +kernel) (fm_objrf h_a1 (by decide) (by decide +kernel) (by decide +kernel)) ?_
  refine fs_iconst (n := 0) (v := 0) (by decide +kernel) (by decide) ?_
  refine fs_aloadn (j := 0) (by decide +kernel) rfl ?_
  refine fe_getR (idx := 30) (t := 6) (f := 8) (fk := 2) (fin := 1) (wp := 180) (x := a0 + 7) (by decide +kernel) (by decide +kernel) h_a0 (by decide +kernel) (fm_objrf h_a0 (by decide) (by decide +kernel) (by decide +kernel)) ?_
  refine fs_iconst (n := 0) (v := 0) (by decide +kernel) (by decide) ?_
  refine fs_bipush (n := 6) (v := 6) (by decide +kernel) (by decide) ?_
  refine fx_copy (idx := 74) (q := 564) (l0 := 6) (l1 := 6) (s0 := 0) (d0 := 0) (n0 := 6) (by decide +kernel) (by decide +kernel) T_a1.1.2.2.2.2.2.2.2.2.2.2.2.2.1 T_a0.1.2.2.2.2.2.2.2.2.2.2.2.2.1 T_a1.1.2.2.2.2.2.2.2.2.2.2.2.2.2.1 T_a0.1.2.2.2.2.2.2.2.2.2.2.2.2.2.1 (by decide) (by decide) (by decide) (by decide) (Nat.le_of_ble_eq_true rfl) ?_
  refine fs_aloadn (j := 1) (by decide +kernel) rfl ?_
  refine fe_getR (idx := 33) (t := 6) (f := 9) (fk := 2) (fin := 1) (wp := 182) (x := a1 + 8) (by decide +kernel) (by decide +kernel) h_a1 (by decide +kernel) (fm_objrf h_a1 (by decide) (by decide +kernel) (by decide +kernel)) ?_
  refine fs_iconst (n := 0) (v := 0) (by decide +kernel) (by decide) ?_
  refine fs_aloadn (j := 0) (by decide +kernel) rfl ?_
  refine fe_getR (idx := 33) (t := 6) (f := 9) (fk := 2) (fin := 1) (wp := 182) (x := a0 + 8) (by decide +kernel) (by decide +kernel) h_a0 (by decide +kernel) (fm_objrf h_a0 (by decide) (by decide +kernel) (by decide +kernel)) ?_
  refine fs_iconst (n := 0) (v := 0) (by decide +kernel) (by decide) ?_
  refine fs_bipush (n := 6) (v := 6) (by decide +kernel) (by decide) ?_
  refine fx_copy (idx := 74) (q := 564) (l0 := 6) (l1 := 6) (s0 := 0) (d0 := 0) (n0 := 6) (by decide +kernel) (by decide +kernel) T_a1.1.2.2.2.2.2.2.2.2.2.2.2.2.2.2.1 T_a0.1.2.2.2.2.2.2.2.2.2.2.2.2.2.2.1 T_a1.1.2.2.2.2.2.2.2.2.2.2.2.2.2.2.2.1 T_a0.1.2.2.2.2.2.2.2.2.2.2.2.2.2.2.2.1 (by decide) (by decide) (by decide) (by decide) (Nat.le_of_ble_eq_true rfl) ?_
  refine fs_aloadn (j := 1) (by decide +kernel) rfl ?_
  refine fe_getR (idx := 36) (t := 6) (f := 10) (fk := 2) (fin := 1) (wp := 184) (x := a1 + 9) (by decide +kernel) (by decide +kernel) h_a1 (by decide +kernel) (fm_objrf h_a1 (by decide) (by decide +kernel) (by decide +kernel)) ?_
  refine fs_iconst (n := 0) (v := 0) (by decide +kernel) (by decide) ?_
  refine fs_aloadn (j := 0) (by decide +kernel) rfl ?_
  refine fe_getR (idx := 36) (t := 6) (f := 10) (fk := 2) (fin := 1) (wp := 184) (x := a0 + 9) (by decide +kernel) (by decide +kernel) h_a0 (by decide +kernel) (fm_objrf h_a0 (by decide) (by decide +kernel) (by decide +kernel)) ?_
  refine fs_iconst (n := 0) (v := 0) (by decide +kernel) (by decide) ?_
  refine fs_bipush (n := 6) (v := 6) (by decide +kernel) (by decide) ?_
  refine fx_copy (idx := 74) (q := 564) (l0 := 6) (l1 := 6) (s0 := 0) (d0 := 0) (n0 := 6) (by decide +kernel) (by decide +kernel) T_a1.1.2.2.2.2.2.2.2.2.2.2.2.2.2.2.2.2.1 T_a0.1.2.2.2.2.2.2.2.2.2.2.2.2.2.2.2.2.1 T_a1.1.2.2.2.2.2.2.2.2.2.2.2.2.2.2.2.2.2 T_a0.1.2.2.2.2.2.2.2.2.2.2.2.2.2.2.2.2.2 (by decide) (by decide) (by decide) (by decide) (Nat.le_of_ble_eq_true rfl) ?_
  refine fs_aloadn (j := 0) (by decide +kernel) rfl ?_
  refine fe_getR (idx := 42) (t := 6) (f := 11) (fk := 2) (fin := 1) (wp := 186) (x := a0 + 10) (by decide +kernel) (by decide +kernel) h_a0 (by decide +kernel) (fm_objrf h_a0 (by decide) (by decide +kernel) (by decide +kernel)) ?_
  refine fs_aloadn (j := 1) (by decide +kernel) rfl ?_
  refine fe_getR (idx := 42) (t := 6) (f := 11) (fk := 2) (fin := 1) (wp := 186) (x := a1 + 10) (by decide +kernel) (by decide +kernel) h_a1 (by decide +kernel) (fm_objrf h_a1 (by decide) (by decide +kernel) (by decide +kernel)) ?_
  exact fe_callV (t := 4) (idx := 80) (n := 1) (wp := 567) (q := (568, 569)) (as := [.ref (a1 + 10)]) (rs := []) (by decide +kernel) (by decide +kernel) T_a0.2.1 (by decide +kernel) rfl (Nat.le_of_ble_eq_true rfl) rfl hc nx
theorem b_Town_copy_168 {d : Nat} {a0 : Nat} {a1 : Nat} {o2 : Option Value} {S1 : fm_S} {S : fm_S} {r : Option Value × am_W} (h_a0 : fm_tg a0 = 6) (h_a1 : fm_tg a1 = 6) (hc : am_Sp d k_Days_copy [.ref (a0 + 16), .ref (a1 + 16)] (fm_mk S) (none) (fm_mk S1)) (nx : am_Ev (d + 1) k_Town_copy 179 [some (.ref a0), some (.ref a1), o2] [] (fm_mk S1) r) : am_Ev (d + 1) k_Town_copy 168 [some (.ref a0), some (.ref a1), o2] [] (fm_mk S) r := by
  have T_a0 := fm_town h_a0
  have D_a016 := fm_days T_a0.2.2.1
  have T_a1 := fm_town h_a1
  have D_a116 := fm_days T_a1.2.2.1
  refine fs_aloadn (j := 0) (by decide +kernel) rfl ?_
  refine fe_getR (idx := 49) (t := 6) (f := 12) (fk := 2) (fin := 1) (wp := 188) (x := a0 + 16) (by decide +kernel) (by decide +kernel) h_a0 (by decide +kernel) (fm_objrf h_a0 (by decide) (by decide +kernel) (by decide +kernel)) ?_
  refine fs_aloadn (j := 1) (by decide +kernel) rfl ?_
  refine fe_getR (idx := 49) (t := 6) (f := 12) (fk := 2) (fin := 1) (wp := 188) (x := a1 + 16) (by decide +kernel) (by decide +kernel) h_a1 (by decide +kernel) (fm_objrf h_a1 (by decide) (by decide +kernel) (by decide +kernel)) ?_
  exact fe_callV (t := 2) (idx := 84) (n := 1) (wp := 572) (q := (573, 574)) (as := [.ref (a1 + 16)]) (rs := []) (by decide +kernel) (by decide +kernel) T_a0.2.2.1 (by decide +kernel) rfl (Nat.le_of_ble_eq_true rfl) rfl hc nx
theorem b_Town_copy_179 {d : Nat} {a0 : Nat} {a1 : Nat} {o2 : Option Value} {S : fm_S} {r : Option Value × am_W} (nx : am_Ev d k_Town_copy 181 [some (.ref a0), some (.ref a1), some (.int 0)] [] (fm_mk S) r) : am_Ev d k_Town_copy 179 [some (.ref a0), some (.ref a1), o2] [] (fm_mk S) r := by
  refine fs_iconst (n := 0) (v := 0) (by decide +kernel) (by decide) ?_
  refine fs_istoren (j := 2) (L' := [some (.ref a0), some (.ref a1), some (.int 0)]) (by decide +kernel) (Nat.le_of_ble_eq_true rfl) rfl ?_
  exact nx
theorem b_Town_copy_181 {d : Nat} {a0 : Nat} {a1 : Nat} {x2 : Int32} {S : fm_S} {r : Option Value × am_W} (h_a0 : fm_tg a0 = 6) (kt : (S.1 a0 14) ≤ x2 → am_Ev d k_Town_copy 216 [some (.ref a0), some (.ref a1), some (.int x2)] [] (fm_mk S) r) (kf : ¬ (S.1 a0 14) ≤ x2 → am_Ev d k_Town_copy 189 [some (.ref a0), some (.ref a1), some (.int x2)] [] (fm_mk S) r) : am_Ev d k_Town_copy 181 [some (.ref a0), some (.ref a1), some (.int x2)] [] (fm_mk S) r := by
  have T_a0 := fm_town h_a0
  refine fs_iloadn (j := 2) (by decide +kernel) rfl ?_
  refine fs_aloadn (j := 0) (by decide +kernel) rfl ?_
  refine fe_getI (idx := 70) (t := 6) (f := 14) (fk := 0) (fin := 0) (wp := 192) (by decide +kernel) (by decide +kernel) h_a0 (by decide +kernel) ?_
  exact fs_icge (off := 30) (tgt := 216) (by decide +kernel) (by decide) kt kf
theorem b_Town_copy_189 {d : Nat} {a0 : Nat} {a1 : Nat} {x2 : Int32} {S : fm_S} {r : Option Value × am_W} (kt : 8 ≤ x2 → am_Ev d k_Town_copy 216 [some (.ref a0), some (.ref a1), some (.int x2)] [] (fm_mk S) r) (kf : ¬ 8 ≤ x2 → am_Ev d k_Town_copy 195 [some (.ref a0), some (.ref a1), some (.int x2)] [] (fm_mk S) r) : am_Ev d k_Town_copy 189 [some (.ref a0), some (.ref a1), some (.int x2)] [] (fm_mk S) r := by
  refine fs_iloadn (j := 2) (by decide +kernel) rfl ?_
  refine fs_bipush (n := 8) (v := 8) (by decide +kernel) (by decide) ?_
  exact fs_icge (off := 24) (tgt := 216) (by decide +kernel) (by decide) kt kf
theorem b_Town_copy_195 {d : Nat} {a0 : Nat} {a1 : Nat} {x2 : Int32} {S1 : fm_S} {S : fm_S} {r : Option Value × am_W} (h_a0 : fm_tg a0 = 6) (hi1 : vp_in x2 8) (h_a1 : fm_tg a1 = 6) (ht3 : fm_tg (S.2.2 (a0 + 20) x2.toNatClampNeg) = 2) (hc : am_Sp d k_Days_copy [.ref (S.2.2 (a0 + 20) x2.toNatClampNeg), .ref (S.2.2 (a1 + 20) x2.toNatClampNeg)] (fm_mk S) (none) (fm_mk S1)) (nx : am_Ev (d + 1) k_Town_copy 210 [some (.ref a0), some (.ref a1), some (.int x2)] [] (fm_mk S1) r) : am_Ev (d + 1) k_Town_copy 195 [some (.ref a0), some (.ref a1), some (.int x2)] [] (fm_mk S) r := by
  have T_a0 := fm_town h_a0
  have T_a1 := fm_town h_a1
  have D_S22a020x2toNatClampNeg := fm_days ht3
  refine fs_aloadn (j := 0) (by decide +kernel) rfl ?_
  refine fe_getR (idx := 53) (t := 6) (f := 13) (fk := 2) (fin := 1) (wp := 191) (x := a0 + 20) (by decide +kernel) (by decide +kernel) h_a0 (by decide +kernel) (fm_objrf h_a0 (by decide) (by decide +kernel) (by decide +kernel)) ?_
  refine fs_iloadn (j := 2) (by decide +kernel) rfl ?_
  refine fx_aald3 (n := x2.toNatClampNeg) (len := 8) (by decide +kernel) T_a0.2.2.2.1 T_a0.2.2.2.2.1 hi1 rfl ?_
  refine fs_aloadn (j := 1) (by decide +kernel) rfl ?_
  refine fe_getR (idx := 53) (t := 6) (f := 13) (fk := 2) (fin := 1) (wp := 191) (x := a1 + 20) (by decide +kernel) (by decide +kernel) h_a1 (by decide +kernel) (fm_objrf h_a1 (by decide) (by decide +kernel) (by decide +kernel)) ?_
  refine fs_iloadn (j := 2) (by decide +kernel) rfl ?_
  refine fx_aald3 (n := x2.toNatClampNeg) (len := 8) (by decide +kernel) T_a1.2.2.2.1 T_a1.2.2.2.2.1 hi1 rfl ?_
  exact fe_callV (t := 2) (idx := 84) (n := 1) (wp := 572) (q := (573, 574)) (as := [.ref (S.2.2 (a1 + 20) x2.toNatClampNeg)]) (rs := []) (by decide +kernel) (by decide +kernel) ht3 (by decide +kernel) rfl (Nat.le_of_ble_eq_true rfl) rfl hc nx
theorem b_Town_copy_210 {d : Nat} {a0 : Nat} {a1 : Nat} {x2 : Int32} {S : fm_S} {r : Option Value × am_W} (nx : am_Ev d k_Town_copy 181 [some (.ref a0), some (.ref a1), some (.int (x2 + 1))] [] (fm_mk S) r) : am_Ev d k_Town_copy 210 [some (.ref a0), some (.ref a1), some (.int x2)] [] (fm_mk S) r := by
  refine fs_iinc (j := 2) (n := 1) (v := 1) (L' := [some (.ref a0), some (.ref a1), some (.int (x2 + 1))]) (by decide +kernel) rfl (Nat.le_of_ble_eq_true rfl) (by decide) rfl ?_
  refine fs_goto (off := -32) (tgt := 181) (by decide +kernel) (by decide) ?_
  exact nx
theorem b_Town_copy_216 {d : Nat} {a0 : Nat} {a1 : Nat} {x2 : Int32} {S : fm_S}  : am_Ev d k_Town_copy 216 [some (.ref a0), some (.ref a1), some (.int x2)] [] (fm_mk S) (none, fm_mk S) := by
  exact fe_retV (by decide +kernel) (by decide +kernel)
-- KitchenSiege$Town.keepDays()V
theorem b_Town_keepDays_0 {d : Nat} {a0 : Nat} {o1 : Option Value} {o2 : Option Value} {S : fm_S} {r : Option Value × am_W} (h_a0 : fm_tg a0 = 6) (kt : (S.1 a0 14) < 8 → am_Ev d k_Town_keepDays 58 [some (.ref a0), o1, o2] [] (fm_mk S) r) (kf : ¬ (S.1 a0 14) < 8 → am_Ev d k_Town_keepDays 9 [some (.ref a0), o1, o2] [] (fm_mk S) r) : am_Ev d k_Town_keepDays 0 [some (.ref a0), o1, o2] [] (fm_mk S) r := by
  have T_a0 := fm_town h_a0
  refine fs_aloadn (j := 0) (by decide +kernel) rfl ?_
  refine fe_getI (idx := 70) (t := 6) (f := 14) (fk := 0) (fin := 0) (wp := 192) (by decide +kernel) (by decide +kernel) h_a0 (by decide +kernel) ?_
  refine fs_bipush (n := 8) (v := 8) (by decide +kernel) (by decide) ?_
  exact fs_iclt (off := 52) (tgt := 58) (by decide +kernel) (by decide) kt kf
theorem b_Town_keepDays_9 {d : Nat} {a0 : Nat} {o1 : Option Value} {o2 : Option Value} {S : fm_S} {r : Option Value × am_W} (h_a0 : fm_tg a0 = 6) (nx : am_Ev d k_Town_keepDays 18 [some (.ref a0), some (.ref (S.2.2 (a0 + 20) 0)), some (.int 1)] [] (fm_mk S) r) : am_Ev d k_Town_keepDays 9 [some (.ref a0), o1, o2] [] (fm_mk S) r := by
  have T_a0 := fm_town h_a0
  refine fs_aloadn (j := 0) (by decide +kernel) rfl ?_
  refine fe_getR (idx := 53) (t := 6) (f := 13) (fk := 2) (fin := 1) (wp := 191) (x := a0 + 20) (by decide +kernel) (by decide +kernel) h_a0 (by decide +kernel) (fm_objrf h_a0 (by decide) (by decide +kernel) (by decide +kernel)) ?_
  refine fs_iconst (n := 0) (v := 0) (by decide +kernel) (by decide) ?_
  refine fx_aald3 (n := 0) (len := 8) (by decide +kernel) T_a0.2.2.2.1 T_a0.2.2.2.2.1 (vp_c (by decide) (by decide)) (by decide) ?_
  refine fs_astoren (j := 1) (L' := [some (.ref a0), some (.ref (S.2.2 (a0 + 20) 0)), o2]) (by decide +kernel) (Nat.le_of_ble_eq_true rfl) rfl ?_
  refine fs_iconst (n := 1) (v := 1) (by decide +kernel) (by decide) ?_
  refine fs_istoren (j := 2) (L' := [some (.ref a0), some (.ref (S.2.2 (a0 + 20) 0)), some (.int 1)]) (by decide +kernel) (Nat.le_of_ble_eq_true rfl) rfl ?_
  exact nx
theorem b_Town_keepDays_18 {d : Nat} {a0 : Nat} {a1 : Nat} {x2 : Int32} {S : fm_S} {r : Option Value × am_W} (kt : 8 ≤ x2 → am_Ev d k_Town_keepDays 44 [some (.ref a0), some (.ref a1), some (.int x2)] [] (fm_mk S) r) (kf : ¬ 8 ≤ x2 → am_Ev d k_Town_keepDays 24 [some (.ref a0), some (.ref a1), some (.int x2)] [] (fm_mk S) r) : am_Ev d k_Town_keepDays 18 [some (.ref a0), some (.ref a1), some (.int x2)] [] (fm_mk S) r := by
  refine fs_iloadn (j := 2) (by decide +kernel) rfl ?_
  refine fs_bipush (n := 8) (v := 8) (by decide +kernel) (by decide) ?_
  exact fs_icge (off := 23) (tgt := 44) (by decide +kernel) (by decide) kt kf
theorem b_Town_keepDays_24 {d : Nat} {a0 : Nat} {a1 : Nat} {x2 : Int32} {S : fm_S} {r : Option Value × am_W} (h_a0 : fm_tg a0 = 6) (hi1 : vp_in x2 8) (hi2 : vp_in (x2 - 1) 8) (ht3 : fm_tg (S.2.2 (a0 + 20) x2.toNatClampNeg) = 2) (nx : am_Ev d k_Town_keepDays 18 [some (.ref a0), some (.ref a1), some (.int (x2 + 1))] [] (fm_mk (fm_wP S (a0 + 20) ((x2 - 1).toNatClampNeg) (S.2.2 (a0 + 20) x2.toNatClampNeg))) r) : am_Ev d k_Town_keepDays 24 [some (.ref a0), some (.ref a1), some (.int x2)] [] (fm_mk S) r := by
  have T_a0 := fm_town h_a0
  have D_S22a020x2toNatClampNeg := fm_days ht3
  refine fs_aloadn (j := 0) (by decide +kernel) rfl ?_
  refine fe_getR (idx := 53) (t := 6) (f := 13) (fk := 2) (fin := 1) (wp := 191) (x := a0 + 20) (by decide +kernel) (by decide +kernel) h_a0 (by decide +kernel) (fm_objrf h_a0 (by decide) (by decide +kernel) (by decide +kernel)) ?_
  refine fs_iloadn (j := 2) (by decide +kernel) rfl ?_
  refine fs_iconst (n := 1) (v := 1) (by decide +kernel) (by decide) ?_
  refine fs_isub (by decide +kernel) ?_
  refine fs_aloadn (j := 0) (by decide +kernel) rfl ?_
  refine fe_getR (idx := 53) (t := 6) (f := 13) (fk := 2) (fin := 1) (wp := 191) (x := a0 + 20) (by decide +kernel) (by decide +kernel) h_a0 (by decide +kernel) (fm_objrf h_a0 (by decide) (by decide +kernel) (by decide +kernel)) ?_
  refine fs_iloadn (j := 2) (by decide +kernel) rfl ?_
  refine fx_aald3 (n := x2.toNatClampNeg) (len := 8) (by decide +kernel) T_a0.2.2.2.1 T_a0.2.2.2.2.1 hi1 rfl ?_
  refine fx_aast3 (n := (x2 - 1).toNatClampNeg) (len := 8) (by decide +kernel) T_a0.2.2.2.1 T_a0.2.2.2.2.1 hi2 rfl ht3 ?_
  refine fs_iinc (j := 2) (n := 1) (v := 1) (L' := [some (.ref a0), some (.ref a1), some (.int (x2 + 1))]) (by decide +kernel) rfl (Nat.le_of_ble_eq_true rfl) (by decide) rfl ?_
  refine fs_goto (off := -23) (tgt := 18) (by decide +kernel) (by decide) ?_
  exact nx
theorem b_Town_keepDays_44 {d : Nat} {a0 : Nat} {a1 : Nat} {x2 : Int32} {S : fm_S} {r : Option Value × am_W} (h_a0 : fm_tg a0 = 6) (h_a1 : fm_tg a1 = 2) (nx : am_Ev d k_Town_keepDays 58 [some (.ref a0), some (.ref a1), some (.int x2)] [] (fm_mk (fm_wI (fm_wP S (a0 + 20) 7 a1) a0 14 7)) r) : am_Ev d k_Town_keepDays 44 [some (.ref a0), some (.ref a1), some (.int x2)] [] (fm_mk S) r := by
  have T_a0 := fm_town h_a0
  have D_a1 := fm_days h_a1
  refine fs_aloadn (j := 0) (by decide +kernel) rfl ?_
  refine fe_getR (idx := 53) (t := 6) (f := 13) (fk := 2) (fin := 1) (wp := 191) (x := a0 + 20) (by decide +kernel) (by decide +kernel) h_a0 (by decide +kernel) (fm_objrf h_a0 (by decide) (by decide +kernel) (by decide +kernel)) ?_
  refine fs_bipush (n := 7) (v := 7) (by decide +kernel) (by decide) ?_
  refine fs_aloadn (j := 1) (by decide +kernel) rfl ?_
  refine fx_aast3 (n := 7) (len := 8) (by decide +kernel) T_a0.2.2.2.1 T_a0.2.2.2.2.1 (vp_c (by decide) (by decide)) (by decide) h_a1 ?_
  refine fs_aloadn (j := 0) (by decide +kernel) rfl ?_
  refine fs_bipush (n := 7) (v := 7) (by decide +kernel) (by decide) ?_
  refine fe_putI (idx := 70) (t := 6) (f := 14) (wp := 192) (by decide +kernel) (by decide +kernel) h_a0 (by decide +kernel) ?_
  exact nx
theorem b_Town_keepDays_58 {d : Nat} {a0 : Nat} {o1 : Option Value} {o2 : Option Value} {S1 : fm_S} {S : fm_S} {r : Option Value × am_W} (h_a0 : fm_tg a0 = 6) (hi1 : vp_in (S.1 a0 14) 8) (ht2 : fm_tg (S.2.2 (a0 + 20) ((S.1 a0 14).toNatClampNeg)) = 2) (hc : am_Sp d k_Days_copy [.ref (S.2.2 (a0 + 20) ((S.1 a0 14).toNatClampNeg)), .ref (a0 + 16)] (fm_mk S) (none) (fm_mk S1)) (nx : am_Ev (d + 1) k_Town_keepDays 74 [some (.ref a0), o1, o2] [] (fm_mk S1) r) : am_Ev (d + 1) k_Town_keepDays 58 [some (.ref a0), o1, o2] [] (fm_mk S) r := by
  have T_a0 := fm_town h_a0
  have D_a016 := fm_days T_a0.2.2.1
  have D_S22a020S1a014toNatClampNeg := fm_days ht2
  refine fs_aloadn (j := 0) (by decide +kernel) rfl ?_
  refine fe_getR (idx := 53) (t := 6) (f := 13) (fk := 2) (fin := 1) (wp := 191) (x := a0 + 20) (by decide +kernel) (by decide +kernel) h_a0 (by decide +kernel) (fm_objrf h_a0 (by decide) (by decide +kernel) (by decide +kernel)) ?_
  refine fs_aloadn (j := 0) (by decide +kernel) rfl ?_
  refine fe_getI (idx := 70) (t := 6) (f := 14) (fk := 0) (fin := 0) (wp := 192) (by decide +kernel) (by decide +kernel) h_a0 (by decide +kernel) ?_
  refine fx_aald3 (n := (S.1 a0 14).toNatClampNeg) (len := 8) (by decide +kernel) T_a0.2.2.2.1 T_a0.2.2.2.2.1 hi1 rfl ?_
  refine fs_aloadn (j := 0) (by decide +kernel) rfl ?_
  refine fe_getR (idx := 49) (t := 6) (f := 12) (fk := 2) (fin := 1) (wp := 188) (x := a0 + 16) (by decide +kernel) (by decide +kernel) h_a0 (by decide +kernel) (fm_objrf h_a0 (by decide) (by decide +kernel) (by decide +kernel)) ?_
  exact fe_callV (t := 2) (idx := 84) (n := 1) (wp := 572) (q := (573, 574)) (as := [.ref (a0 + 16)]) (rs := []) (by decide +kernel) (by decide +kernel) ht2 (by decide +kernel) rfl (Nat.le_of_ble_eq_true rfl) rfl hc nx
theorem b_Town_keepDays_74 {d : Nat} {a0 : Nat} {o1 : Option Value} {o2 : Option Value} {S : fm_S}  (h_a0 : fm_tg a0 = 6) : am_Ev d k_Town_keepDays 74 [some (.ref a0), o1, o2] [] (fm_mk S) (none, fm_mk (fm_wI S a0 14 ((S.1 a0 14) + 1))) := by
  have T_a0 := fm_town h_a0
  refine fs_aloadn (j := 0) (by decide +kernel) rfl ?_
  refine fs_dup (by decide +kernel) rfl ?_
  refine fe_getI (idx := 70) (t := 6) (f := 14) (fk := 0) (fin := 0) (wp := 192) (by decide +kernel) (by decide +kernel) h_a0 (by decide +kernel) ?_
  refine fs_iconst (n := 1) (v := 1) (by decide +kernel) (by decide) ?_
  refine fs_iadd (by decide +kernel) ?_
  refine fe_putI (idx := 70) (t := 6) (f := 14) (wp := 192) (by decide +kernel) (by decide +kernel) h_a0 (by decide +kernel) ?_
  exact fe_retV (by decide +kernel) (by decide +kernel)
-- KitchenSiege$Air.empty()V
theorem b_Air_empty_0 {d : Nat} {o1 : Option Value} {S : fm_S} {r : Option Value × am_W} (nx : am_Ev d k_Air_empty 2 [some (.ref 56), some (.int 0)] [] (fm_mk S) r) : am_Ev d k_Air_empty 0 [some (.ref 56), o1] [] (fm_mk S) r := by
  refine fs_iconst (n := 0) (v := 0) (by decide +kernel) (by decide) ?_
  refine fs_istoren (j := 1) (L' := [some (.ref 56), some (.int 0)]) (by decide +kernel) (Nat.le_of_ble_eq_true rfl) rfl ?_
  exact nx
theorem b_Air_empty_2 {d : Nat} {x1 : Int32} {S : fm_S} {r : Option Value × am_W} (kt : 8 ≤ x1 → am_Ev d k_Air_empty 21 [some (.ref 56), some (.int x1)] [] (fm_mk S) r) (kf : ¬ 8 ≤ x1 → am_Ev d k_Air_empty 8 [some (.ref 56), some (.int x1)] [] (fm_mk S) r) : am_Ev d k_Air_empty 2 [some (.ref 56), some (.int x1)] [] (fm_mk S) r := by
  refine fs_iloadn (j := 1) (by decide +kernel) rfl ?_
  refine fs_bipush (n := 8) (v := 8) (by decide +kernel) (by decide) ?_
  exact fs_icge (off := 16) (tgt := 21) (by decide +kernel) (by decide) kt kf
theorem b_Air_empty_8 {d : Nat} {x1 : Int32} {S : fm_S} {r : Option Value × am_W} (hi0 : vp_in x1 8) (nx : am_Ev d k_Air_empty 2 [some (.ref 56), some (.int (x1 + 1))] [] (fm_mk (fm_wI S 57 x1.toNatClampNeg 0)) r) : am_Ev d k_Air_empty 8 [some (.ref 56), some (.int x1)] [] (fm_mk S) r := by
  refine fs_aloadn (j := 0) (by decide +kernel) rfl ?_
  refine fe_getR (idx := 9) (t := 0) (f := 0) (fk := 2) (fin := 1) (wp := 237) (x := 57) (by decide +kernel) (by decide +kernel) (by decide +kernel) (by decide +kernel) (by decide +kernel) ?_
  refine fs_iloadn (j := 1) (by decide +kernel) rfl ?_
  refine fs_iconst (n := 0) (v := 0) (by decide +kernel) (by decide) ?_
  refine fx_iast (n := x1.toNatClampNeg) (len := 8) (by decide +kernel) (by decide +kernel) (by decide +kernel) hi0 rfl ?_
  refine fs_iinc (j := 1) (n := 1) (v := 1) (L' := [some (.ref 56), some (.int (x1 + 1))]) (by decide +kernel) rfl (Nat.le_of_ble_eq_true rfl) (by decide) rfl ?_
  refine fs_goto (off := -16) (tgt := 2) (by decide +kernel) (by decide) ?_
  exact nx
theorem b_Air_empty_21 {d : Nat} {x1 : Int32} {S : fm_S}  : am_Ev d k_Air_empty 21 [some (.ref 56), some (.int x1)] [] (fm_mk S) (none, fm_mk S) := by
  exact fe_retV (by decide +kernel) (by decide +kernel)
-- KitchenSiege$Town.windOn(I)I
theorem b_Town_windOn_0 {d : Nat} {a0 : Nat} {x1 : Int32} {v : Int32} {S1 : fm_S} {S : fm_S} {r : Option Value × am_W} (h_a0 : fm_tg a0 = 6) (hc : am_Sp d k_Math_floorMod [.int x1, .int 4] (fm_mk S) (some (.int v)) (fm_mk S1)) (nx : am_Ev (d + 1) k_Town_windOn 9 [some (.ref a0), some (.int x1)] [.int v, .ref (a0 + 6)] (fm_mk S1) r) : am_Ev (d + 1) k_Town_windOn 0 [some (.ref a0), some (.int x1)] [] (fm_mk S) r := by
  have T_a0 := fm_town h_a0
  refine fs_aloadn (j := 0) (by decide +kernel) rfl ?_
  refine fe_getR (idx := 27) (t := 6) (f := 6) (fk := 2) (fin := 1) (wp := 173) (x := a0 + 6) (by decide +kernel) (by decide +kernel) h_a0 (by decide +kernel) (fm_objrf h_a0 (by decide) (by decide +kernel) (by decide +kernel)) ?_
  refine fs_iloadn (j := 1) (by decide +kernel) rfl ?_
  refine fs_iconst (n := 4) (v := 4) (by decide +kernel) (by decide) ?_
  exact fe_callS (idx := 91) (kd := 0) (n := 2) (wp := 602) (q := (603, 0)) (as := [.int x1, .int 4]) (rs := [.ref (a0 + 6)]) (by decide +kernel) (by decide +kernel) (by decide +kernel) (by decide) rfl (Nat.le_of_ble_eq_true rfl) rfl hc nx
theorem b_Town_windOn_9 {d : Nat} {a0 : Nat} {x1 : Int32} {sa0 : Nat} {sx1 : Int32} {S : fm_S}  (h_sa0 : fm_tg sa0 = 100) (hi1 : vp_in sx1 (fm_ln sa0)) : am_Ev d k_Town_windOn 9 [some (.ref a0), some (.int x1)] [.int sx1, .ref sa0] (fm_mk S) (some (.int (S.1 sa0 sx1.toNatClampNeg)), fm_mk S) := by
  refine fx_iald (n := sx1.toNatClampNeg) (len := fm_ln sa0) (by decide +kernel) h_sa0 rfl hi1 rfl ?_
  exact fe_retI (by decide +kernel) (by decide +kernel)
-- KitchenSiege$Air.fill(LKitchenSiege$Town;II)V
theorem b_Air_fill_0 {d : Nat} {a1 : Nat} {x2 : Int32} {x3 : Int32} {S1 : fm_S} {S : fm_S} {r : Option Value × am_W} (hc : am_Sp d k_Air_fillWithSheets [.ref 56, .ref a1, .int x2, .int x3, .int (-1), .int 0] (fm_mk S) (none) (fm_mk S1)) (nx : am_Ev (d + 1) k_Air_fill 9 [some (.ref 56), some (.ref a1), some (.int x2), some (.int x3)] [] (fm_mk S1) r) : am_Ev (d + 1) k_Air_fill 0 [some (.ref 56), some (.ref a1), some (.int x2), some (.int x3)] [] (fm_mk S) r := by
  refine fs_aloadn (j := 0) (by decide +kernel) rfl ?_
  refine fs_aloadn (j := 1) (by decide +kernel) rfl ?_
  refine fs_iloadn (j := 2) (by decide +kernel) rfl ?_
  refine fs_iloadn (j := 3) (by decide +kernel) rfl ?_
  refine fs_iconst (n := -1) (v := (-1)) (by decide +kernel) (by decide) ?_
  refine fs_iconst (n := 0) (v := 0) (by decide +kernel) (by decide) ?_
  exact fe_callV (t := 0) (idx := 18) (n := 5) (wp := 609) (q := (610, 611)) (as := [.ref a1, .int x2, .int x3, .int (-1), .int 0]) (rs := []) (by decide +kernel) (by decide +kernel) (by decide +kernel) (by decide +kernel) rfl (Nat.le_of_ble_eq_true rfl) rfl hc nx
theorem b_Air_fill_9 {d : Nat} {a1 : Nat} {x2 : Int32} {x3 : Int32} {S : fm_S}  : am_Ev d k_Air_fill 9 [some (.ref 56), some (.ref a1), some (.int x2), some (.int x3)] [] (fm_mk S) (none, fm_mk S) := by
  exact fe_retV (by decide +kernel) (by decide +kernel)
-- KitchenSiege$Air.fillWithSheets(LKitchenSiege$Town;IIII)V
theorem b_Air_fillWithSheets_0 {d : Nat} {a1 : Nat} {x2 : Int32} {x3 : Int32} {x4 : Int32} {x5 : Int32} {o6 : Option Value} {o7 : Option Value} {o8 : Option Value} {S1 : fm_S} {S : fm_S} {r : Option Value × am_W} (hc : am_Sp d k_Air_empty [.ref 56] (fm_mk S) (none) (fm_mk S1)) (nx : am_Ev (d + 1) k_Air_fillWithSheets 4 [some (.ref 56), some (.ref a1), some (.int x2), some (.int x3), some (.int x4), some (.int x5), o6, o7, o8] [] (fm_mk S1) r) : am_Ev (d + 1) k_Air_fillWithSheets 0 [some (.ref 56), some (.ref a1), some (.int x2), some (.int x3), some (.int x4), some (.int x5), o6, o7, o8] [] (fm_mk S) r := by
  refine fs_aloadn (j := 0) (by decide +kernel) rfl ?_
  exact fe_callV (t := 0) (idx := 22) (n := 0) (wp := 613) (q := (595, 596)) (as := []) (rs := []) (by decide +kernel) (by decide +kernel) (by decide +kernel) (by decide +kernel) rfl (Nat.le_of_ble_eq_true rfl) rfl hc nx
theorem b_Air_fillWithSheets_4 {d : Nat} {a1 : Nat} {x2 : Int32} {x3 : Int32} {x4 : Int32} {x5 : Int32} {o6 : Option Value} {o7 : Option Value} {o8 : Option Value} {v : Int32} {S1 : fm_S} {S : fm_S} {r : Option Value × am_W} (h_a1 : fm_tg a1 = 6) (hc : am_Sp d k_Town_gateOf [.ref a1, .int x3] (fm_mk S) (some (.int v)) (fm_mk S1)) (nx : am_Ev (d + 1) k_Air_fillWithSheets 9 [some (.ref 56), some (.ref a1), some (.int x2), some (.int x3), some (.int x4), some (.int x5), o6, o7, o8] [.int v] (fm_mk S1) r) : am_Ev (d + 1) k_Air_fillWithSheets 4 [some (.ref 56), some (.ref a1), some (.int x2), some (.int x3), some (.int x4), some (.int x5), o6, o7, o8] [] (fm_mk S) r := by
  have T_a1 := fm_town h_a1
  refine fs_aloadn (j := 1) (by decide +kernel) rfl ?_
  refine fs_iloadn (j := 3) (by decide +kernel) rfl ?_
  exact fe_callV (t := 6) (idx := 25) (n := 1) (wp := 614) (q := (615, 616)) (as := [.int x3]) (rs := []) (by decide +kernel) (by decide +kernel) h_a1 (by decide +kernel) rfl (Nat.le_of_ble_eq_true rfl) rfl hc nx
theorem b_Air_fillWithSheets_9 {d : Nat} {a1 : Nat} {x2 : Int32} {x3 : Int32} {x4 : Int32} {x5 : Int32} {o6 : Option Value} {o7 : Option Value} {o8 : Option Value} {sx0 : Int32} {S : fm_S} {r : Option Value × am_W} (kt : 0 ≤ sx0 → am_Ev d k_Air_fillWithSheets 17 [some (.ref 56), some (.ref a1), some (.int x2), some (.int x3), some (.int x4), some (.int x5), some (.int sx0), o7, o8] [] (fm_mk S) r) (kf : ¬ 0 ≤ sx0 → am_Ev d k_Air_fillWithSheets 16 [some (.ref 56), some (.ref a1), some (.int x2), some (.int x3), some (.int x4), some (.int x5), some (.int sx0), o7, o8] [] (fm_mk S) r) : am_Ev d k_Air_fillWithSheets 9 [some (.ref 56), some (.ref a1), some (.int x2), some (.int x3), some (.int x4), some (.int x5), o6, o7, o8] [.int sx0] (fm_mk S) r := by
  refine fs_istore (j := 6) (L' := [some (.ref 56), some (.ref a1), some (.int x2), some (.int x3), some (.int x4), some (.int x5), some (.int sx0), o7, o8]) (by decide +kernel) (Nat.le_of_ble_eq_true rfl) rfl ?_
  refine fs_iload (j := 6) (by decide +kernel) rfl ?_
  exact fs_ifge (off := 4) (tgt := 17) (by decide +kernel) (by decide) kt kf
theorem b_Air_fillWithSheets_16 {d : Nat} {a1 : Nat} {x2 : Int32} {x3 : Int32} {x4 : Int32} {x5 : Int32} {x6 : Int32} {o7 : Option Value} {o8 : Option Value} {S : fm_S}  : am_Ev d k_Air_fillWithSheets 16 [some (.ref 56), some (.ref a1), some (.int x2), some (.int x3), some (.int x4), some (.int x5), some (.int x6), o7, o8] [] (fm_mk S) (none, fm_mk S) := by
  exact fe_retV (by decide +kernel) (by decide +kernel)
theorem b_Air_fillWithSheets_17 {d : Nat} {a1 : Nat} {x2 : Int32} {x3 : Int32} {x4 : Int32} {x5 : Int32} {x6 : Int32} {o7 : Option Value} {o8 : Option Value} {S : fm_S} {r : Option Value × am_W} (nx : am_Ev d k_Air_fillWithSheets 20 [some (.ref 56), some (.ref a1), some (.int x2), some (.int x3), some (.int x4), some (.int x5), some (.int x6), some (.int 0), o8] [] (fm_mk S) r) : am_Ev d k_Air_fillWithSheets 17 [some (.ref 56), some (.ref a1), some (.int x2), some (.int x3), some (.int x4), some (.int x5), some (.int x6), o7, o8] [] (fm_mk S) r := by
  refine fs_iconst (n := 0) (v := 0) (by decide +kernel) (by decide) ?_
  refine fs_istore (j := 7) (L' := [some (.ref 56), some (.ref a1), some (.int x2), some (.int x3), some (.int x4), some (.int x5), some (.int x6), some (.int 0), o8]) (by decide +kernel) (Nat.le_of_ble_eq_true rfl) rfl ?_
  exact nx
theorem b_Air_fillWithSheets_20 {d : Nat} {a1 : Nat} {x2 : Int32} {x3 : Int32} {x4 : Int32} {x5 : Int32} {x6 : Int32} {x7 : Int32} {o8 : Option Value} {S : fm_S} {r : Option Value × am_W} (kt : 8 ≤ x7 → am_Ev d k_Air_fillWithSheets 61 [some (.ref 56), some (.ref a1), some (.int x2), some (.int x3), some (.int x4), some (.int x5), some (.int x6), some (.int x7), o8] [] (fm_mk S) r) (kf : ¬ 8 ≤ x7 → am_Ev d k_Air_fillWithSheets 27 [some (.ref 56), some (.ref a1), some (.int x2), some (.int x3), some (.int x4), some (.int x5), some (.int x6), some (.int x7), o8] [] (fm_mk S) r) : am_Ev d k_Air_fillWithSheets 20 [some (.ref 56), some (.ref a1), some (.int x2), some (.int x3), some (.int x4), some (.int x5), some (.int x6), some (.int x7), o8] [] (fm_mk S) r := by
  refine fs_iload (j := 7) (by decide +kernel) rfl ?_
  refine fs_bipush (n := 8) (v := 8) (by decide +kernel) (by decide) ?_
  exact fs_icge (off := 37) (tgt := 61) (by decide +kernel) (by decide) kt kf
theorem b_Air_fillWithSheets_27 {d : Nat} {a1 : Nat} {x2 : Int32} {x3 : Int32} {x4 : Int32} {x5 : Int32} {x6 : Int32} {x7 : Int32} {o8 : Option Value} {S : fm_S} {r : Option Value × am_W} (h_a1 : fm_tg a1 = 6) (hi1 : vp_in x7 8) (kt : ¬ x7 = x4 → am_Ev d k_Air_fillWithSheets 52 [some (.ref 56), some (.ref a1), some (.int x2), some (.int x3), some (.int x4), some (.int x5), some (.int x6), some (.int x7), o8] [.int (S.1 (a1 + 2) x7.toNatClampNeg), .int x7, .ref 58] (fm_mk S) r) (kf : x7 = x4 → am_Ev d k_Air_fillWithSheets 47 [some (.ref 56), some (.ref a1), some (.int x2), some (.int x3), some (.int x4), some (.int x5), some (.int x6), some (.int x7), o8] [.int (S.1 (a1 + 2) x7.toNatClampNeg), .int x7, .ref 58] (fm_mk S) r) : am_Ev d k_Air_fillWithSheets 27 [some (.ref 56), some (.ref a1), some (.int x2), some (.int x3), some (.int x4), some (.int x5), some (.int x6), some (.int x7), o8] [] (fm_mk S) r := by
  have T_a1 := fm_town h_a1
  refine fs_aloadn (j := 0) (by decide +kernel) rfl ?_
  refine fe_getR (idx := 15) (t := 0) (f := 1) (fk := 2) (fin := 1) (wp := 239) (x := 58) (by decide +kernel) (by decide +kernel) (by decide +kernel) (by decide +kernel) (by decide +kernel) ?_
  refine fs_iload (j := 7) (by decide +kernel) rfl ?_
  refine fs_aloadn (j := 1) (by decide +kernel) rfl ?_
  refine fe_getR (idx := 31) (t := 6) (f := 2) (fk := 2) (fin := 1) (wp := 164) (x := a1 + 2) (by decide +kernel) (by decide +kernel) h_a1 (by decide +kernel) (fm_objrf h_a1 (by decide) (by decide +kernel) (by decide +kernel)) ?_
  refine fs_iload (j := 7) (by decide +kernel) rfl ?_
  refine fx_iald (n := x7.toNatClampNeg) (len := 8) (by decide +kernel) T_a1.1.2.2.1 T_a1.1.2.2.2.1 hi1 rfl ?_
  refine fs_iload (j := 7) (by decide +kernel) rfl ?_
  refine fs_iload (j := 4) (by decide +kernel) rfl ?_
  exact fs_icne (off := 8) (tgt := 52) (by decide +kernel) (by decide) kt kf
theorem b_Air_fillWithSheets_47 {d : Nat} {a1 : Nat} {x2 : Int32} {x3 : Int32} {x4 : Int32} {x5 : Int32} {x6 : Int32} {x7 : Int32} {o8 : Option Value} {sx1 : Int32} {sx2 : Int32} {S : fm_S} {r : Option Value × am_W} (nx : am_Ev d k_Air_fillWithSheets 53 [some (.ref 56), some (.ref a1), some (.int x2), some (.int x3), some (.int x4), some (.int x5), some (.int x6), some (.int x7), o8] [.int x5, .int sx2, .int sx1, .ref 58] (fm_mk S) r) : am_Ev d k_Air_fillWithSheets 47 [some (.ref 56), some (.ref a1), some (.int x2), some (.int x3), some (.int x4), some (.int x5), some (.int x6), some (.int x7), o8] [.int sx2, .int sx1, .ref 58] (fm_mk S) r := by
  refine fs_iload (j := 5) (by decide +kernel) rfl ?_
  refine fs_goto (off := 4) (tgt := 53) (by decide +kernel) (by decide) ?_
  exact nx
theorem b_Air_fillWithSheets_52 {d : Nat} {a1 : Nat} {x2 : Int32} {x3 : Int32} {x4 : Int32} {x5 : Int32} {x6 : Int32} {x7 : Int32} {o8 : Option Value} {sx1 : Int32} {sx2 : Int32} {S : fm_S} {r : Option Value × am_W} (nx : am_Ev d k_Air_fillWithSheets 53 [some (.ref 56), some (.ref a1), some (.int x2), some (.int x3), some (.int x4), some (.int x5), some (.int x6), some (.int x7), o8] [.int 0, .int sx2, .int sx1, .ref 58] (fm_mk S) r) : am_Ev d k_Air_fillWithSheets 52 [some (.ref 56), some (.ref a1), some (.int x2), some (.int x3), some (.int x4), some (.int x5), some (.int x6), some (.int x7), o8] [.int sx2, .int sx1, .ref 58] (fm_mk S) r := by
  refine fs_iconst (n := 0) (v := 0) (by decide +kernel) (by decide) ?_
  exact nx
theorem b_Air_fillWithSheets_53 {d : Nat} {a1 : Nat} {x2 : Int32} {x3 : Int32} {x4 : Int32} {x5 : Int32} {x6 : Int32} {x7 : Int32} {o8 : Option Value} {sx1 : Int32} {sx2 : Int32} {sx3 : Int32} {S : fm_S} {r : Option Value × am_W} (hi0 : vp_in sx1 8) (nx : am_Ev d k_Air_fillWithSheets 20 [some (.ref 56), some (.ref a1), some (.int x2), some (.int x3), some (.int x4), some (.int x5), some (.int x6), some (.int (x7 + 1)), o8] [] (fm_mk (fm_wI S 58 sx1.toNatClampNeg (sx2 + sx3))) r) : am_Ev d k_Air_fillWithSheets 53 [some (.ref 56), some (.ref a1), some (.int x2), some (.int x3), some (.int x4), some (.int x5), some (.int x6), some (.int x7), o8] [.int sx3, .int sx2, .int sx1, .ref 58] (fm_mk S) r := by
  refine fs_iadd (by decide +kernel) ?_
  refine fx_iast (n := sx1.toNatClampNeg) (len := 8) (by decide +kernel) (by decide +kernel) (by decide +kernel) hi0 rfl ?_
  refine fs_iinc (j := 7) (n := 1) (v := 1) (L' := [some (.ref 56), some (.ref a1), some (.int x2), some (.int x3), some (.int x4), some (.int x5), some (.int x6), some (.int (x7 + 1)), o8]) (by decide +kernel) rfl (Nat.le_of_ble_eq_true rfl) (by decide) rfl ?_
  refine fs_goto (off := -38) (tgt := 20) (by decide +kernel) (by decide) ?_
  exact nx
theorem b_Air_fillWithSheets_61 {d : Nat} {a1 : Nat} {x2 : Int32} {x3 : Int32} {x4 : Int32} {x5 : Int32} {x6 : Int32} {x7 : Int32} {o8 : Option Value} {v : Int32} {S1 : fm_S} {S : fm_S} {r : Option Value × am_W} (h_a1 : fm_tg a1 = 6) (hi1 : vp_in x2 6) (hi2 : vp_in x6 8) (hc : am_Sp d k_Math_max [.int 0, .int ((S.1 (a1 + 8) x2.toNatClampNeg) - (S.1 58 x6.toNatClampNeg))] (fm_mk S) (some (.int v)) (fm_mk S1)) (nx : am_Ev (d + 1) k_Air_fillWithSheets 85 [some (.ref 56), some (.ref a1), some (.int x2), some (.int x3), some (.int x4), some (.int x5), some (.int x6), some (.int x7), o8] [.int v, .int x6, .ref 57] (fm_mk S1) r) : am_Ev (d + 1) k_Air_fillWithSheets 61 [some (.ref 56), some (.ref a1), some (.int x2), some (.int x3), some (.int x4), some (.int x5), some (.int x6), some (.int x7), o8] [] (fm_mk S) r := by
  have T_a1 := fm_town h_a1
  refine fs_aloadn (j := 0) (by decide +kernel) rfl ?_
  refine fe_getR (idx := 9) (t := 0) (f := 0) (fk := 2) (fin := 1) (wp := 237) (x := 57) (by decide +kernel) (by decide +kernel) (by decide +kernel) (by decide +kernel) (by decide +kernel) ?_
  refine fs_iload (j := 6) (by decide +kernel) rfl ?_
  refine fs_iconst (n := 0) (v := 0) (by decide +kernel) (by decide) ?_
  refine fs_aloadn (j := 1) (by decide +kernel) rfl ?_
  refine fe_getR (idx := 34) (t := 6) (f := 9) (fk := 2) (fin := 1) (wp := 183) (x := a1 + 8) (by decide +kernel) (by decide +kernel) h_a1 (by decide +kernel) (fm_objrf h_a1 (by decide) (by decide +kernel) (by decide +kernel)) ?_
  refine fs_iloadn (j := 2) (by decide +kernel) rfl ?_
  refine fx_iald (n := x2.toNatClampNeg) (len := 6) (by decide +kernel) T_a1.1.2.2.2.2.2.2.2.2.2.2.2.2.2.2.1 T_a1.1.2.2.2.2.2.2.2.2.2.2.2.2.2.2.2.1 hi1 rfl ?_
  refine fs_aloadn (j := 0) (by decide +kernel) rfl ?_
  refine fe_getR (idx := 15) (t := 0) (f := 1) (fk := 2) (fin := 1) (wp := 239) (x := 58) (by decide +kernel) (by decide +kernel) (by decide +kernel) (by decide +kernel) (by decide +kernel) ?_
  refine fs_iload (j := 6) (by decide +kernel) rfl ?_
  refine fx_iald (n := x6.toNatClampNeg) (len := 8) (by decide +kernel) (by decide +kernel) (by decide +kernel) hi2 rfl ?_
  refine fs_isub (by decide +kernel) ?_
  exact fe_callS (idx := 37) (kd := 0) (n := 2) (wp := 618) (q := (619, 0)) (as := [.int 0, .int ((S.1 (a1 + 8) x2.toNatClampNeg) - (S.1 58 x6.toNatClampNeg))]) (rs := [.int x6, .ref 57]) (by decide +kernel) (by decide +kernel) (by decide +kernel) (by decide) rfl (Nat.le_of_ble_eq_true rfl) rfl hc nx
theorem b_Air_fillWithSheets_85 {d : Nat} {a1 : Nat} {x2 : Int32} {x3 : Int32} {x4 : Int32} {x5 : Int32} {x6 : Int32} {x7 : Int32} {o8 : Option Value} {sx1 : Int32} {sx2 : Int32} {S : fm_S} {r : Option Value × am_W} (hi0 : vp_in sx1 8) (nx : am_Ev d k_Air_fillWithSheets 92 [some (.ref 56), some (.ref a1), some (.int x2), some (.int x3), some (.int x4), some (.int x5), some (.int x6), some (.int 1), some (.int 0)] [] (fm_mk (fm_wI S 57 sx1.toNatClampNeg sx2)) r) : am_Ev d k_Air_fillWithSheets 85 [some (.ref 56), some (.ref a1), some (.int x2), some (.int x3), some (.int x4), some (.int x5), some (.int x6), some (.int x7), o8] [.int sx2, .int sx1, .ref 57] (fm_mk S) r := by
  refine fx_iast (n := sx1.toNatClampNeg) (len := 8) (by decide +kernel) (by decide +kernel) (by decide +kernel) hi0 rfl ?_
  refine fs_iconst (n := 1) (v := 1) (by decide +kernel) (by decide) ?_
  refine fs_istore (j := 7) (L' := [some (.ref 56), some (.ref a1), some (.int x2), some (.int x3), some (.int x4), some (.int x5), some (.int x6), some (.int 1), o8]) (by decide +kernel) (Nat.le_of_ble_eq_true rfl) rfl ?_
  refine fs_iconst (n := 0) (v := 0) (by decide +kernel) (by decide) ?_
  refine fs_istore (j := 8) (L' := [some (.ref 56), some (.ref a1), some (.int x2), some (.int x3), some (.int x4), some (.int x5), some (.int x6), some (.int 1), some (.int 0)]) (by decide +kernel) (Nat.le_of_ble_eq_true rfl) rfl ?_
  exact nx
theorem b_Air_fillWithSheets_92 {d : Nat} {a1 : Nat} {x2 : Int32} {x3 : Int32} {x4 : Int32} {x5 : Int32} {x6 : Int32} {x7 : Int32} {x8 : Int32} {S : fm_S} {r : Option Value × am_W} (kt : x7 = 0 → am_Ev d k_Air_fillWithSheets 117 [some (.ref 56), some (.ref a1), some (.int x2), some (.int x3), some (.int x4), some (.int x5), some (.int x6), some (.int x7), some (.int x8)] [] (fm_mk S) r) (kf : ¬ x7 = 0 → am_Ev d k_Air_fillWithSheets 97 [some (.ref 56), some (.ref a1), some (.int x2), some (.int x3), some (.int x4), some (.int x5), some (.int x6), some (.int x7), some (.int x8)] [] (fm_mk S) r) : am_Ev d k_Air_fillWithSheets 92 [some (.ref 56), some (.ref a1), some (.int x2), some (.int x3), some (.int x4), some (.int x5), some (.int x6), some (.int x7), some (.int x8)] [] (fm_mk S) r := by
  refine fs_iload (j := 7) (by decide +kernel) rfl ?_
  exact fs_ifeq (off := 23) (tgt := 117) (by decide +kernel) (by decide) kt kf
theorem b_Air_fillWithSheets_97 {d : Nat} {a1 : Nat} {x2 : Int32} {x3 : Int32} {x4 : Int32} {x5 : Int32} {x6 : Int32} {x7 : Int32} {x8 : Int32} {S : fm_S} {r : Option Value × am_W} (kt : 8 ≤ x8 → am_Ev d k_Air_fillWithSheets 117 [some (.ref 56), some (.ref a1), some (.int x2), some (.int x3), some (.int x4), some (.int x5), some (.int x6), some (.int x7), some (.int x8)] [] (fm_mk S) r) (kf : ¬ 8 ≤ x8 → am_Ev d k_Air_fillWithSheets 104 [some (.ref 56), some (.ref a1), some (.int x2), some (.int x3), some (.int x4), some (.int x5), some (.int x6), some (.int x7), some (.int x8)] [] (fm_mk S) r) : am_Ev d k_Air_fillWithSheets 97 [some (.ref 56), some (.ref a1), some (.int x2), some (.int x3), some (.int x4), some (.int x5), some (.int x6), some (.int x7), some (.int x8)] [] (fm_mk S) r := by
  refine fs_iload (j := 8) (by decide +kernel) rfl ?_
  refine fs_bipush (n := 8) (v := 8) (by decide +kernel) (by decide) ?_
  exact fs_icge (off := 16) (tgt := 117) (by decide +kernel) (by decide) kt kf
theorem b_Air_fillWithSheets_104 {d : Nat} {a1 : Nat} {x2 : Int32} {x3 : Int32} {x4 : Int32} {x5 : Int32} {x6 : Int32} {x7 : Int32} {x8 : Int32} {v : Int32} {S1 : fm_S} {S : fm_S} {r : Option Value × am_W} (hc : am_Sp d k_Air_spread [.ref 56, .ref a1] (fm_mk S) (some (.int v)) (fm_mk S1)) (nx : am_Ev (d + 1) k_Air_fillWithSheets 109 [some (.ref 56), some (.ref a1), some (.int x2), some (.int x3), some (.int x4), some (.int x5), some (.int x6), some (.int x7), some (.int x8)] [.int v] (fm_mk S1) r) : am_Ev (d + 1) k_Air_fillWithSheets 104 [some (.ref 56), some (.ref a1), some (.int x2), some (.int x3), some (.int x4), some (.int x5), some (.int x6), some (.int x7), some (.int x8)] [] (fm_mk S) r := by
  refine fs_aloadn (j := 0) (by decide +kernel) rfl ?_
  refine fs_aloadn (j := 1) (by decide +kernel) rfl ?_
  exact fe_callV (t := 0) (idx := 43) (n := 1) (wp := 621) (q := (623, 17)) (as := [.ref a1]) (rs := []) (by decide +kernel) (by decide +kernel) (by decide +kernel) (by decide +kernel) rfl (Nat.le_of_ble_eq_true rfl) rfl hc nx
theorem b_Air_fillWithSheets_109 {d : Nat} {a1 : Nat} {x2 : Int32} {x3 : Int32} {x4 : Int32} {x5 : Int32} {x6 : Int32} {x7 : Int32} {x8 : Int32} {sx0 : Int32} {S : fm_S} {r : Option Value × am_W} (nx : am_Ev d k_Air_fillWithSheets 92 [some (.ref 56), some (.ref a1), some (.int x2), some (.int x3), some (.int x4), some (.int x5), some (.int x6), some (.int sx0), some (.int (x8 + 1))] [] (fm_mk S) r) : am_Ev d k_Air_fillWithSheets 109 [some (.ref 56), some (.ref a1), some (.int x2), some (.int x3), some (.int x4), some (.int x5), some (.int x6), some (.int x7), some (.int x8)] [.int sx0] (fm_mk S) r := by
  refine fs_istore (j := 7) (L' := [some (.ref 56), some (.ref a1), some (.int x2), some (.int x3), some (.int x4), some (.int x5), some (.int x6), some (.int sx0), some (.int x8)]) (by decide +kernel) (Nat.le_of_ble_eq_true rfl) rfl ?_
  refine fs_iinc (j := 8) (n := 1) (v := 1) (L' := [some (.ref 56), some (.ref a1), some (.int x2), some (.int x3), some (.int x4), some (.int x5), some (.int x6), some (.int sx0), some (.int (x8 + 1))]) (by decide +kernel) rfl (Nat.le_of_ble_eq_true rfl) (by decide) rfl ?_
  refine fs_goto (off := -22) (tgt := 92) (by decide +kernel) (by decide) ?_
  exact nx
theorem b_Air_fillWithSheets_117 {d : Nat} {a1 : Nat} {x2 : Int32} {x3 : Int32} {x4 : Int32} {x5 : Int32} {x6 : Int32} {x7 : Int32} {x8 : Int32} {S : fm_S}  : am_Ev d k_Air_fillWithSheets 117 [some (.ref 56), some (.ref a1), some (.int x2), some (.int x3), some (.int x4), some (.int x5), some (.int x6), some (.int x7), some (.int x8)] [] (fm_mk S) (none, fm_mk S) := by
  exact fe_retV (by decide +kernel) (by decide +kernel)
-- KitchenSiege$Town.gateOf(I)I
theorem b_Town_gateOf_0 {d : Nat} {a0 : Nat} {x1 : Int32} {o2 : Option Value} {S : fm_S} {r : Option Value × am_W} (kt : x1 < 0 → am_Ev d k_Town_gateOf 18 [some (.ref a0), some (.int x1), o2] [] (fm_mk S) r) (kf : ¬ x1 < 0 → am_Ev d k_Town_gateOf 4 [some (.ref a0), some (.int x1), o2] [] (fm_mk S) r) : am_Ev d k_Town_gateOf 0 [some (.ref a0), some (.int x1), o2] [] (fm_mk S) r := by
  refine fs_iloadn (j := 1) (by decide +kernel) rfl ?_
  exact fs_iflt (off := 17) (tgt := 18) (by decide +kernel) (by decide) kt kf
theorem b_Town_gateOf_4 {d : Nat} {a0 : Nat} {x1 : Int32} {o2 : Option Value} {S : fm_S} {r : Option Value × am_W} (kt : 4 ≤ x1 → am_Ev d k_Town_gateOf 18 [some (.ref a0), some (.int x1), o2] [] (fm_mk S) r) (kf : ¬ 4 ≤ x1 → am_Ev d k_Town_gateOf 9 [some (.ref a0), some (.int x1), o2] [] (fm_mk S) r) : am_Ev d k_Town_gateOf 4 [some (.ref a0), some (.int x1), o2] [] (fm_mk S) r := by
  refine fs_iloadn (j := 1) (by decide +kernel) rfl ?_
  refine fs_iconst (n := 4) (v := 4) (by decide +kernel) (by decide) ?_
  exact fs_icge (off := 12) (tgt := 18) (by decide +kernel) (by decide) kt kf
theorem b_Town_gateOf_9 {d : Nat} {a0 : Nat} {x1 : Int32} {o2 : Option Value} {S : fm_S} {r : Option Value × am_W} (h_a0 : fm_tg a0 = 6) (hi1 : vp_in x1 4) (nx : am_Ev d k_Town_gateOf 19 [some (.ref a0), some (.int x1), o2] [.int (S.1 (a0 + 5) x1.toNatClampNeg)] (fm_mk S) r) : am_Ev d k_Town_gateOf 9 [some (.ref a0), some (.int x1), o2] [] (fm_mk S) r := by
  have T_a0 := fm_town h_a0
  refine fs_aloadn (j := 0) (by decide +kernel) rfl ?_
  refine fe_getR (idx := 24) (t := 6) (f := 5) (fk := 2) (fin := 1) (wp := 170) (x := a0 + 5) (by decide +kernel) (by decide +kernel) h_a0 (by decide +kernel) (fm_objrf h_a0 (by decide) (by decide +kernel) (by decide +kernel)) ?_
  refine fs_iloadn (j := 1) (by decide +kernel) rfl ?_
  refine fx_iald (n := x1.toNatClampNeg) (len := 4) (by decide +kernel) T_a0.1.2.2.2.2.2.2.2.2.1 T_a0.1.2.2.2.2.2.2.2.2.2.1 hi1 rfl ?_
  refine fs_goto (off := 4) (tgt := 19) (by decide +kernel) (by decide) ?_
  exact nx
theorem b_Town_gateOf_18 {d : Nat} {a0 : Nat} {x1 : Int32} {o2 : Option Value} {S : fm_S} {r : Option Value × am_W} (nx : am_Ev d k_Town_gateOf 19 [some (.ref a0), some (.int x1), o2] [.int (-1)] (fm_mk S) r) : am_Ev d k_Town_gateOf 18 [some (.ref a0), some (.int x1), o2] [] (fm_mk S) r := by
  refine fs_iconst (n := -1) (v := (-1)) (by decide +kernel) (by decide) ?_
  exact nx
theorem b_Town_gateOf_19 {d : Nat} {a0 : Nat} {x1 : Int32} {o2 : Option Value} {sx0 : Int32} {S : fm_S} {r : Option Value × am_W} (h_a0 : fm_tg a0 = 6) (kt : (S.1 a0 0) ≤ sx0 → am_Ev d k_Town_gateOf 32 [some (.ref a0), some (.int x1), some (.int sx0)] [] (fm_mk S) r) (kf : ¬ (S.1 a0 0) ≤ sx0 → am_Ev d k_Town_gateOf 28 [some (.ref a0), some (.int x1), some (.int sx0)] [] (fm_mk S) r) : am_Ev d k_Town_gateOf 19 [some (.ref a0), some (.int x1), o2] [.int sx0] (fm_mk S) r := by
  have T_a0 := fm_town h_a0
  refine fs_istoren (j := 2) (L' := [some (.ref a0), some (.int x1), some (.int sx0)]) (by decide +kernel) (Nat.le_of_ble_eq_true rfl) rfl ?_
  refine fs_iloadn (j := 2) (by decide +kernel) rfl ?_
  refine fs_aloadn (j := 0) (by decide +kernel) rfl ?_
  refine fe_getI (idx := 60) (t := 6) (f := 0) (fk := 0) (fin := 0) (wp := 156) (by decide +kernel) (by decide +kernel) h_a0 (by decide +kernel) ?_
  exact fs_icge (off := 7) (tgt := 32) (by decide +kernel) (by decide) kt kf
theorem b_Town_gateOf_28 {d : Nat} {a0 : Nat} {x1 : Int32} {x2 : Int32} {S : fm_S} {r : Option Value × am_W} (nx : am_Ev d k_Town_gateOf 33 [some (.ref a0), some (.int x1), some (.int x2)] [.int x2] (fm_mk S) r) : am_Ev d k_Town_gateOf 28 [some (.ref a0), some (.int x1), some (.int x2)] [] (fm_mk S) r := by
  refine fs_iloadn (j := 2) (by decide +kernel) rfl ?_
  refine fs_goto (off := 4) (tgt := 33) (by decide +kernel) (by decide) ?_
  exact nx
theorem b_Town_gateOf_32 {d : Nat} {a0 : Nat} {x1 : Int32} {x2 : Int32} {S : fm_S} {r : Option Value × am_W} (nx : am_Ev d k_Town_gateOf 33 [some (.ref a0), some (.int x1), some (.int x2)] [.int (-1)] (fm_mk S) r) : am_Ev d k_Town_gateOf 32 [some (.ref a0), some (.int x1), some (.int x2)] [] (fm_mk S) r := by
  refine fs_iconst (n := -1) (v := (-1)) (by decide +kernel) (by decide) ?_
  exact nx
theorem b_Town_gateOf_33 {d : Nat} {a0 : Nat} {x1 : Int32} {x2 : Int32} {sx0 : Int32} {S : fm_S}  : am_Ev d k_Town_gateOf 33 [some (.ref a0), some (.int x1), some (.int x2)] [.int sx0] (fm_mk S) (some (.int sx0), fm_mk S) := by
  exact fe_retI (by decide +kernel) (by decide +kernel)
-- KitchenSiege$Air.spread(LKitchenSiege$Town;)Z
theorem b_Air_spread_0 {d : Nat} {a1 : Nat} {o2 : Option Value} {o3 : Option Value} {o4 : Option Value} {o5 : Option Value} {o6 : Option Value} {S : fm_S} {r : Option Value × am_W} (nx : am_Ev d k_Air_spread 4 [some (.ref 56), some (.ref a1), some (.int 0), some (.int 0), o4, o5, o6] [] (fm_mk S) r) : am_Ev d k_Air_spread 0 [some (.ref 56), some (.ref a1), o2, o3, o4, o5, o6] [] (fm_mk S) r := by
  refine fs_iconst (n := 0) (v := 0) (by decide +kernel) (by decide) ?_
  refine fs_istoren (j := 2) (L' := [some (.ref 56), some (.ref a1), some (.int 0), o3, o4, o5, o6]) (by decide +kernel) (Nat.le_of_ble_eq_true rfl) rfl ?_
  refine fs_iconst (n := 0) (v := 0) (by decide +kernel) (by decide) ?_
  refine fs_istoren (j := 3) (L' := [some (.ref 56), some (.ref a1), some (.int 0), some (.int 0), o4, o5, o6]) (by decide +kernel) (Nat.le_of_ble_eq_true rfl) rfl ?_
  exact nx
theorem b_Air_spread_4 {d : Nat} {a1 : Nat} {x2 : Int32} {x3 : Int32} {o4 : Option Value} {o5 : Option Value} {o6 : Option Value} {S : fm_S} {r : Option Value × am_W} (h_a1 : fm_tg a1 = 6) (kt : (S.1 a1 0) ≤ x3 → am_Ev d k_Air_spread 109 [some (.ref 56), some (.ref a1), some (.int x2), some (.int x3), o4, o5, o6] [] (fm_mk S) r) (kf : ¬ (S.1 a1 0) ≤ x3 → am_Ev d k_Air_spread 12 [some (.ref 56), some (.ref a1), some (.int x2), some (.int x3), o4, o5, o6] [] (fm_mk S) r) : am_Ev d k_Air_spread 4 [some (.ref 56), some (.ref a1), some (.int x2), some (.int x3), o4, o5, o6] [] (fm_mk S) r := by
  have T_a1 := fm_town h_a1
  refine fs_iloadn (j := 3) (by decide +kernel) rfl ?_
  refine fs_aloadn (j := 1) (by decide +kernel) rfl ?_
  refine fe_getI (idx := 47) (t := 6) (f := 0) (fk := 0) (fin := 0) (wp := 159) (by decide +kernel) (by decide +kernel) h_a1 (by decide +kernel) ?_
  exact fs_icge (off := 100) (tgt := 109) (by decide +kernel) (by decide) kt kf
theorem b_Air_spread_12 {d : Nat} {a1 : Nat} {x2 : Int32} {x3 : Int32} {o4 : Option Value} {o5 : Option Value} {o6 : Option Value} {S : fm_S} {r : Option Value × am_W} (hi0 : vp_in x3 8) (kt : (S.1 57 x3.toNatClampNeg) ≤ 2 → am_Ev d k_Air_spread 31 [some (.ref 56), some (.ref a1), some (.int x2), some (.int x3), o4, o5, o6] [] (fm_mk S) r) (kf : ¬ (S.1 57 x3.toNatClampNeg) ≤ 2 → am_Ev d k_Air_spread 22 [some (.ref 56), some (.ref a1), some (.int x2), some (.int x3), o4, o5, o6] [] (fm_mk S) r) : am_Ev d k_Air_spread 12 [some (.ref 56), some (.ref a1), some (.int x2), some (.int x3), o4, o5, o6] [] (fm_mk S) r := by
  refine fs_aloadn (j := 0) (by decide +kernel) rfl ?_
  refine fe_getR (idx := 9) (t := 0) (f := 0) (fk := 2) (fin := 1) (wp := 237) (x := 57) (by decide +kernel) (by decide +kernel) (by decide +kernel) (by decide +kernel) (by decide +kernel) ?_
  refine fs_iloadn (j := 3) (by decide +kernel) rfl ?_
  refine fx_iald (n := x3.toNatClampNeg) (len := 8) (by decide +kernel) (by decide +kernel) (by decide +kernel) hi0 rfl ?_
  refine fs_iconst (n := 2) (v := 2) (by decide +kernel) (by decide) ?_
  exact fs_icle (off := 12) (tgt := 31) (by decide +kernel) (by decide) kt kf
theorem b_Air_spread_22 {d : Nat} {a1 : Nat} {x2 : Int32} {x3 : Int32} {o4 : Option Value} {o5 : Option Value} {o6 : Option Value} {S : fm_S} {r : Option Value × am_W} (h_a1 : fm_tg a1 = 6) (hi1 : vp_in x3 8) (nx : am_Ev d k_Air_spread 32 [some (.ref 56), some (.ref a1), some (.int x2), some (.int x3), o4, o5, o6] [.int (S.1 (a1 + 4) x3.toNatClampNeg)] (fm_mk S) r) : am_Ev d k_Air_spread 22 [some (.ref 56), some (.ref a1), some (.int x2), some (.int x3), o4, o5, o6] [] (fm_mk S) r := by
  have T_a1 := fm_town h_a1
  refine fs_aloadn (j := 1) (by decide +kernel) rfl ?_
  refine fe_getR (idx := 51) (t := 6) (f := 4) (fk := 2) (fin := 1) (wp := 169) (x := a1 + 4) (by decide +kernel) (by decide +kernel) h_a1 (by decide +kernel) (fm_objrf h_a1 (by decide) (by decide +kernel) (by decide +kernel)) ?_
  refine fs_iloadn (j := 3) (by decide +kernel) rfl ?_
  refine fx_iald (n := x3.toNatClampNeg) (len := 8) (by decide +kernel) T_a1.1.2.2.2.2.2.2.1 T_a1.1.2.2.2.2.2.2.2.1 hi1 rfl ?_
  refine fs_goto (off := 4) (tgt := 32) (by decide +kernel) (by decide) ?_
  exact nx
theorem b_Air_spread_31 {d : Nat} {a1 : Nat} {x2 : Int32} {x3 : Int32} {o4 : Option Value} {o5 : Option Value} {o6 : Option Value} {S : fm_S} {r : Option Value × am_W} (nx : am_Ev d k_Air_spread 32 [some (.ref 56), some (.ref a1), some (.int x2), some (.int x3), o4, o5, o6] [.int 0] (fm_mk S) r) : am_Ev d k_Air_spread 31 [some (.ref 56), some (.ref a1), some (.int x2), some (.int x3), o4, o5, o6] [] (fm_mk S) r := by
  refine fs_iconst (n := 0) (v := 0) (by decide +kernel) (by decide) ?_
  exact nx
theorem b_Air_spread_32 {d : Nat} {a1 : Nat} {x2 : Int32} {x3 : Int32} {o4 : Option Value} {o5 : Option Value} {o6 : Option Value} {sx0 : Int32} {S : fm_S} {r : Option Value × am_W} (nx : am_Ev d k_Air_spread 37 [some (.ref 56), some (.ref a1), some (.int x2), some (.int x3), some (.int sx0), some (.int 0), o6] [] (fm_mk S) r) : am_Ev d k_Air_spread 32 [some (.ref 56), some (.ref a1), some (.int x2), some (.int x3), o4, o5, o6] [.int sx0] (fm_mk S) r := by
  refine fs_istore (j := 4) (L' := [some (.ref 56), some (.ref a1), some (.int x2), some (.int x3), some (.int sx0), o5, o6]) (by decide +kernel) (Nat.le_of_ble_eq_true rfl) rfl ?_
  refine fs_iconst (n := 0) (v := 0) (by decide +kernel) (by decide) ?_
  refine fs_istore (j := 5) (L' := [some (.ref 56), some (.ref a1), some (.int x2), some (.int x3), some (.int sx0), some (.int 0), o6]) (by decide +kernel) (Nat.le_of_ble_eq_true rfl) rfl ?_
  exact nx
theorem b_Air_spread_37 {d : Nat} {a1 : Nat} {x2 : Int32} {x3 : Int32} {x4 : Int32} {x5 : Int32} {o6 : Option Value} {S : fm_S} {r : Option Value × am_W} (h_a1 : fm_tg a1 = 6) (kt : (S.1 a1 0) ≤ x5 → am_Ev d k_Air_spread 103 [some (.ref 56), some (.ref a1), some (.int x2), some (.int x3), some (.int x4), some (.int x5), o6] [] (fm_mk S) r) (kf : ¬ (S.1 a1 0) ≤ x5 → am_Ev d k_Air_spread 46 [some (.ref 56), some (.ref a1), some (.int x2), some (.int x3), some (.int x4), some (.int x5), o6] [] (fm_mk S) r) : am_Ev d k_Air_spread 37 [some (.ref 56), some (.ref a1), some (.int x2), some (.int x3), some (.int x4), some (.int x5), o6] [] (fm_mk S) r := by
  have T_a1 := fm_town h_a1
  refine fs_iload (j := 5) (by decide +kernel) rfl ?_
  refine fs_aloadn (j := 1) (by decide +kernel) rfl ?_
  refine fe_getI (idx := 47) (t := 6) (f := 0) (fk := 0) (fin := 0) (wp := 159) (by decide +kernel) (by decide +kernel) h_a1 (by decide +kernel) ?_
  exact fs_icge (off := 60) (tgt := 103) (by decide +kernel) (by decide) kt kf
theorem b_Air_spread_46 {d : Nat} {a1 : Nat} {x2 : Int32} {x3 : Int32} {x4 : Int32} {x5 : Int32} {o6 : Option Value} {v : Int32} {S1 : fm_S} {S : fm_S} {r : Option Value × am_W} (hi0 : vp_in x3 8) (hi1 : vp_in x5 8) (hc : am_Sp d k_X_has [.int x4, .int x5] (fm_mk S) (some (.int v)) (fm_mk S1)) (nx : am_Ev (d + 1) k_Air_spread 71 [some (.ref 56), some (.ref a1), some (.int x2), some (.int x3), some (.int x4), some (.int x5), some (.int (((S.1 57 x3.toNatClampNeg) - 2) - (S.1 58 x5.toNatClampNeg)))] [.int v] (fm_mk S1) r) : am_Ev (d + 1) k_Air_spread 46 [some (.ref 56), some (.ref a1), some (.int x2), some (.int x3), some (.int x4), some (.int x5), o6] [] (fm_mk S) r := by
  refine fs_aloadn (j := 0) (by decide +kernel) rfl ?_
  refine fe_getR (idx := 9) (t := 0) (f := 0) (fk := 2) (fin := 1) (wp := 237) (x := 57) (by decide +kernel) (by decide +kernel) (by decide +kernel) (by decide +kernel) (by decide +kernel) ?_
  refine fs_iloadn (j := 3) (by decide +kernel) rfl ?_
  refine fx_iald (n := x3.toNatClampNeg) (len := 8) (by decide +kernel) (by decide +kernel) (by decide +kernel) hi0 rfl ?_
  refine fs_iconst (n := 2) (v := 2) (by decide +kernel) (by decide) ?_
  refine fs_isub (by decide +kernel) ?_
  refine fs_aloadn (j := 0) (by decide +kernel) rfl ?_
  refine fe_getR (idx := 15) (t := 0) (f := 1) (fk := 2) (fin := 1) (wp := 239) (x := 58) (by decide +kernel) (by decide +kernel) (by decide +kernel) (by decide +kernel) (by decide +kernel) ?_
  refine fs_iload (j := 5) (by decide +kernel) rfl ?_
  refine fx_iald (n := x5.toNatClampNeg) (len := 8) (by decide +kernel) (by decide +kernel) (by decide +kernel) hi1 rfl ?_
  refine fs_isub (by decide +kernel) ?_
  refine fs_istore (j := 6) (L' := [some (.ref 56), some (.ref a1), some (.int x2), some (.int x3), some (.int x4), some (.int x5), some (.int (((S.1 57 x3.toNatClampNeg) - 2) - (S.1 58 x5.toNatClampNeg)))]) (by decide +kernel) (Nat.le_of_ble_eq_true rfl) rfl ?_
  refine fs_iload (j := 4) (by decide +kernel) rfl ?_
  refine fs_iload (j := 5) (by decide +kernel) rfl ?_
  exact fe_callS (idx := 54) (kd := 4) (n := 2) (wp := 625) (q := (398, 0)) (as := [.int x4, .int x5]) (rs := []) (by decide +kernel) (by decide +kernel) (by decide +kernel) (by decide) rfl (Nat.le_of_ble_eq_true rfl) rfl hc nx
theorem b_Air_spread_71 {d : Nat} {a1 : Nat} {x2 : Int32} {x3 : Int32} {x4 : Int32} {x5 : Int32} {x6 : Int32} {sx0 : Int32} {S : fm_S} {r : Option Value × am_W} (kt : sx0 = 0 → am_Ev d k_Air_spread 97 [some (.ref 56), some (.ref a1), some (.int x2), some (.int x3), some (.int x4), some (.int x5), some (.int x6)] [] (fm_mk S) r) (kf : ¬ sx0 = 0 → am_Ev d k_Air_spread 74 [some (.ref 56), some (.ref a1), some (.int x2), some (.int x3), some (.int x4), some (.int x5), some (.int x6)] [] (fm_mk S) r) : am_Ev d k_Air_spread 71 [some (.ref 56), some (.ref a1), some (.int x2), some (.int x3), some (.int x4), some (.int x5), some (.int x6)] [.int sx0] (fm_mk S) r := by
  exact fs_ifeq (off := 26) (tgt := 97) (by decide +kernel) (by decide) kt kf
theorem b_Air_spread_74 {d : Nat} {a1 : Nat} {x2 : Int32} {x3 : Int32} {x4 : Int32} {x5 : Int32} {x6 : Int32} {S : fm_S} {r : Option Value × am_W} (hi0 : vp_in x5 8) (kt : x6 ≤ (S.1 57 x5.toNatClampNeg) → am_Ev d k_Air_spread 97 [some (.ref 56), some (.ref a1), some (.int x2), some (.int x3), some (.int x4), some (.int x5), some (.int x6)] [] (fm_mk S) r) (kf : ¬ x6 ≤ (S.1 57 x5.toNatClampNeg) → am_Ev d k_Air_spread 86 [some (.ref 56), some (.ref a1), some (.int x2), some (.int x3), some (.int x4), some (.int x5), some (.int x6)] [] (fm_mk S) r) : am_Ev d k_Air_spread 74 [some (.ref 56), some (.ref a1), some (.int x2), some (.int x3), some (.int x4), some (.int x5), some (.int x6)] [] (fm_mk S) r := by
  refine fs_iload (j := 6) (by decide +kernel) rfl ?_
  refine fs_aloadn (j := 0) (by decide +kernel) rfl ?_
  refine fe_getR (idx := 9) (t := 0) (f := 0) (fk := 2) (fin := 1) (wp := 237) (x := 57) (by decide +kernel) (by decide +kernel) (by decide +kernel) (by decide +kernel) (by decide +kernel) ?_
  refine fs_iload (j := 5) (by decide +kernel) rfl ?_
  refine fx_iald (n := x5.toNatClampNeg) (len := 8) (by decide +kernel) (by decide +kernel) (by decide +kernel) hi0 rfl ?_
  exact fs_icle (off := 14) (tgt := 97) (by decide +kernel) (by decide) kt kf
theorem b_Air_spread_86 {d : Nat} {a1 : Nat} {x2 : Int32} {x3 : Int32} {x4 : Int32} {x5 : Int32} {x6 : Int32} {S : fm_S} {r : Option Value × am_W} (hi0 : vp_in x5 8) (nx : am_Ev d k_Air_spread 97 [some (.ref 56), some (.ref a1), some (.int 1), some (.int x3), some (.int x4), some (.int x5), some (.int x6)] [] (fm_mk (fm_wI S 57 x5.toNatClampNeg x6)) r) : am_Ev d k_Air_spread 86 [some (.ref 56), some (.ref a1), some (.int x2), some (.int x3), some (.int x4), some (.int x5), some (.int x6)] [] (fm_mk S) r := by
  refine fs_aloadn (j := 0) (by decide +kernel) rfl ?_
  refine fe_getR (idx := 9) (t := 0) (f := 0) (fk := 2) (fin := 1) (wp := 237) (x := 57) (by decide +kernel) (by decide +kernel) (by decide +kernel) (by decide +kernel) (by decide +kernel) ?_
  refine fs_iload (j := 5) (by decide +kernel) rfl ?_
  refine fs_iload (j := 6) (by decide +kernel) rfl ?_
  refine fx_iast (n := x5.toNatClampNeg) (len := 8) (by decide +kernel) (by decide +kernel) (by decide +kernel) hi0 rfl ?_
  refine fs_iconst (n := 1) (v := 1) (by decide +kernel) (by decide) ?_
  refine fs_istoren (j := 2) (L' := [some (.ref 56), some (.ref a1), some (.int 1), some (.int x3), some (.int x4), some (.int x5), some (.int x6)]) (by decide +kernel) (Nat.le_of_ble_eq_true rfl) rfl ?_
  exact nx
theorem b_Air_spread_97 {d : Nat} {a1 : Nat} {x2 : Int32} {x3 : Int32} {x4 : Int32} {x5 : Int32} {x6 : Int32} {S : fm_S} {r : Option Value × am_W} (nx : am_Ev d k_Air_spread 37 [some (.ref 56), some (.ref a1), some (.int x2), some (.int x3), some (.int x4), some (.int (x5 + 1)), some (.int x6)] [] (fm_mk S) r) : am_Ev d k_Air_spread 97 [some (.ref 56), some (.ref a1), some (.int x2), some (.int x3), some (.int x4), some (.int x5), some (.int x6)] [] (fm_mk S) r := by
  refine fs_iinc (j := 5) (n := 1) (v := 1) (L' := [some (.ref 56), some (.ref a1), some (.int x2), some (.int x3), some (.int x4), some (.int (x5 + 1)), some (.int x6)]) (by decide +kernel) rfl (Nat.le_of_ble_eq_true rfl) (by decide) rfl ?_
  refine fs_goto (off := -63) (tgt := 37) (by decide +kernel) (by decide) ?_
  exact nx
theorem b_Air_spread_103 {d : Nat} {a1 : Nat} {x2 : Int32} {x3 : Int32} {x4 : Int32} {x5 : Int32} {o6 : Option Value} {S : fm_S} {r : Option Value × am_W} (nx : am_Ev d k_Air_spread 4 [some (.ref 56), some (.ref a1), some (.int x2), some (.int (x3 + 1)), some (.int x4), some (.int x5), o6] [] (fm_mk S) r) : am_Ev d k_Air_spread 103 [some (.ref 56), some (.ref a1), some (.int x2), some (.int x3), some (.int x4), some (.int x5), o6] [] (fm_mk S) r := by
  refine fs_iinc (j := 3) (n := 1) (v := 1) (L' := [some (.ref 56), some (.ref a1), some (.int x2), some (.int (x3 + 1)), some (.int x4), some (.int x5), o6]) (by decide +kernel) rfl (Nat.le_of_ble_eq_true rfl) (by decide) rfl ?_
  refine fs_goto (off := -102) (tgt := 4) (by decide +kernel) (by decide) ?_
  exact nx
theorem b_Air_spread_109 {d : Nat} {a1 : Nat} {x2 : Int32} {x3 : Int32} {o4 : Option Value} {o5 : Option Value} {o6 : Option Value} {S : fm_S}  (hz : x2 = 0 ∨ x2 = 1) : am_Ev d k_Air_spread 109 [some (.ref 56), some (.ref a1), some (.int x2), some (.int x3), o4, o5, o6] [] (fm_mk S) (some (.int x2), fm_mk S) := by
  refine fs_iloadn (j := 2) (by decide +kernel) rfl ?_
  exact fe_retZ (by decide +kernel) (by decide +kernel) hz
-- KitchenSiege$Town.pull(IIIII)I
theorem b_Town_pull_0 {d : Nat} {a0 : Nat} {x1 : Int32} {x2 : Int32} {x3 : Int32} {x4 : Int32} {x5 : Int32} {v : Int32} {S1 : fm_S} {S : fm_S} {r : Option Value × am_W} (h_a0 : fm_tg a0 = 6) (hi1 : vp_in x1 8) (hi2 : vp_in x2 6) (hc : am_Sp d k_Nose_pull [.int (S.1 (a0 + 1) x1.toNatClampNeg), .int (S.1 (a0 + 3) x1.toNatClampNeg), .int (S.1 (a0 + 7) x2.toNatClampNeg), .int x3, .int x4, .int x5] (fm_mk S) (some (.int v)) (fm_mk S1)) (nx : am_Ev (d + 1) k_Town_pull 26 [some (.ref a0), some (.int x1), some (.int x2), some (.int x3), some (.int x4), some (.int x5)] [.int v] (fm_mk S1) r) : am_Ev (d + 1) k_Town_pull 0 [some (.ref a0), some (.int x1), some (.int x2), some (.int x3), some (.int x4), some (.int x5)] [] (fm_mk S) r := by
  have T_a0 := fm_town h_a0
  refine fs_aloadn (j := 0) (by decide +kernel) rfl ?_
  refine fe_getR (idx := 9) (t := 6) (f := 1) (fk := 2) (fin := 1) (wp := 161) (x := a0 + 1) (by decide +kernel) (by decide +kernel) h_a0 (by decide +kernel) (fm_objrf h_a0 (by decide) (by decide +kernel) (by decide +kernel)) ?_
  refine fs_iloadn (j := 1) (by decide +kernel) rfl ?_
  refine fx_iald (n := x1.toNatClampNeg) (len := 8) (by decide +kernel) T_a0.1.1 T_a0.1.2.1 hi1 rfl ?_
  refine fs_aloadn (j := 0) (by decide +kernel) rfl ?_
  refine fe_getR (idx := 18) (t := 6) (f := 3) (fk := 2) (fin := 1) (wp := 166) (x := a0 + 3) (by decide +kernel) (by decide +kernel) h_a0 (by decide +kernel) (fm_objrf h_a0 (by decide) (by decide +kernel) (by decide +kernel)) ?_
  refine fs_iloadn (j := 1) (by decide +kernel) rfl ?_
  refine fx_iald (n := x1.toNatClampNeg) (len := 8) (by decide +kernel) T_a0.1.2.2.2.2.1 T_a0.1.2.2.2.2.2.1 hi1 rfl ?_
  refine fs_aloadn (j := 0) (by decide +kernel) rfl ?_
  refine fe_getR (idx := 30) (t := 6) (f := 8) (fk := 2) (fin := 1) (wp := 180) (x := a0 + 7) (by decide +kernel) (by decide +kernel) h_a0 (by decide +kernel) (fm_objrf h_a0 (by decide) (by decide +kernel) (by decide +kernel)) ?_
  refine fs_iloadn (j := 2) (by decide +kernel) rfl ?_
  refine fx_iald (n := x2.toNatClampNeg) (len := 6) (by decide +kernel) T_a0.1.2.2.2.2.2.2.2.2.2.2.2.2.1 T_a0.1.2.2.2.2.2.2.2.2.2.2.2.2.2.1 hi2 rfl ?_
  refine fs_iloadn (j := 3) (by decide +kernel) rfl ?_
  refine fs_iload (j := 4) (by decide +kernel) rfl ?_
  refine fs_iload (j := 5) (by decide +kernel) rfl ?_
  exact fe_callS (idx := 97) (kd := 0) (n := 6) (wp := 646) (q := (647, 0)) (as := [.int (S.1 (a0 + 1) x1.toNatClampNeg), .int (S.1 (a0 + 3) x1.toNatClampNeg), .int (S.1 (a0 + 7) x2.toNatClampNeg), .int x3, .int x4, .int x5]) (rs := []) (by decide +kernel) (by decide +kernel) (by decide +kernel) (by decide) rfl (Nat.le_of_ble_eq_true rfl) rfl hc nx
theorem b_Town_pull_26 {d : Nat} {a0 : Nat} {x1 : Int32} {x2 : Int32} {x3 : Int32} {x4 : Int32} {x5 : Int32} {sx0 : Int32} {S : fm_S}  : am_Ev d k_Town_pull 26 [some (.ref a0), some (.int x1), some (.int x2), some (.int x3), some (.int x4), some (.int x5)] [.int sx0] (fm_mk S) (some (.int sx0), fm_mk S) := by
  exact fe_retI (by decide +kernel) (by decide +kernel)
-- KitchenSiege$Town.goBack()Z
theorem b_Town_goBack_0 {d : Nat} {a0 : Nat} {S : fm_S} {r : Option Value × am_W} (h_a0 : fm_tg a0 = 6) (kt : 0 < (S.1 a0 14) → am_Ev d k_Town_goBack 9 [some (.ref a0)] [] (fm_mk S) r) (kf : ¬ 0 < (S.1 a0 14) → am_Ev d k_Town_goBack 7 [some (.ref a0)] [] (fm_mk S) r) : am_Ev d k_Town_goBack 0 [some (.ref a0)] [] (fm_mk S) r := by
  have T_a0 := fm_town h_a0
  refine fs_aloadn (j := 0) (by decide +kernel) rfl ?_
  refine fe_getI (idx := 70) (t := 6) (f := 14) (fk := 0) (fin := 0) (wp := 192) (by decide +kernel) (by decide +kernel) h_a0 (by decide +kernel) ?_
  exact fs_ifgt (off := 5) (tgt := 9) (by decide +kernel) (by decide) kt kf
theorem b_Town_goBack_7 {d : Nat} {a0 : Nat} {S : fm_S}  : am_Ev d k_Town_goBack 7 [some (.ref a0)] [] (fm_mk S) (some (.int 0), fm_mk S) := by
  refine fs_iconst (n := 0) (v := 0) (by decide +kernel) (by decide) ?_
  exact fe_retZ (by decide +kernel) (by decide +kernel) (by decide)
theorem b_Town_goBack_9 {d : Nat} {a0 : Nat} {S1 : fm_S} {S : fm_S} {r : Option Value × am_W} (h_a0 : fm_tg a0 = 6) (hi1 : vp_in ((fm_wI S a0 14 ((S.1 a0 14) - 1)).1 a0 14) 8) (hc : am_Sp d k_Days_copy [.ref (a0 + 16), .ref ((fm_wI S a0 14 ((S.1 a0 14) - 1)).2.2 (a0 + 20) (((fm_wI S a0 14 ((S.1 a0 14) - 1)).1 a0 14).toNatClampNeg))] (fm_mk (fm_wI S a0 14 ((S.1 a0 14) - 1))) (none) (fm_mk S1)) (nx : am_Ev (d + 1) k_Town_goBack 35 [some (.ref a0)] [] (fm_mk S1) r) : am_Ev (d + 1) k_Town_goBack 9 [some (.ref a0)] [] (fm_mk S) r := by
  have T_a0 := fm_town h_a0
  have D_a016 := fm_days T_a0.2.2.1
  refine fs_aloadn (j := 0) (by decide +kernel) rfl ?_
  refine fs_dup (by decide +kernel) rfl ?_
  refine fe_getI (idx := 70) (t := 6) (f := 14) (fk := 0) (fin := 0) (wp := 192) (by decide +kernel) (by decide +kernel) h_a0 (by decide +kernel) ?_
  refine fs_iconst (n := 1) (v := 1) (by decide +kernel) (by decide) ?_
  refine fs_isub (by decide +kernel) ?_
  refine fe_putI (idx := 70) (t := 6) (f := 14) (wp := 192) (by decide +kernel) (by decide +kernel) h_a0 (by decide +kernel) ?_
  refine fs_aloadn (j := 0) (by decide +kernel) rfl ?_
  refine fe_getR (idx := 49) (t := 6) (f := 12) (fk := 2) (fin := 1) (wp := 188) (x := a0 + 16) (by decide +kernel) (by decide +kernel) h_a0 (by decide +kernel) (fm_objrf h_a0 (by decide) (by decide +kernel) (by decide +kernel)) ?_
  refine fs_aloadn (j := 0) (by decide +kernel) rfl ?_
  refine fe_getR (idx := 53) (t := 6) (f := 13) (fk := 2) (fin := 1) (wp := 191) (x := a0 + 20) (by decide +kernel) (by decide +kernel) h_a0 (by decide +kernel) (fm_objrf h_a0 (by decide) (by decide +kernel) (by decide +kernel)) ?_
  refine fs_aloadn (j := 0) (by decide +kernel) rfl ?_
  refine fe_getI (idx := 70) (t := 6) (f := 14) (fk := 0) (fin := 0) (wp := 192) (by decide +kernel) (by decide +kernel) h_a0 (by decide +kernel) ?_
  refine fx_aald3 (n := ((fm_wI S a0 14 ((S.1 a0 14) - 1)).1 a0 14).toNatClampNeg) (len := 8) (by decide +kernel) T_a0.2.2.2.1 T_a0.2.2.2.2.1 hi1 rfl ?_
  exact fe_callV (t := 2) (idx := 84) (n := 1) (wp := 572) (q := (573, 574)) (as := [.ref ((fm_wI S a0 14 ((S.1 a0 14) - 1)).2.2 (a0 + 20) (((fm_wI S a0 14 ((S.1 a0 14) - 1)).1 a0 14).toNatClampNeg))]) (rs := []) (by decide +kernel) (by decide +kernel) T_a0.2.2.1 (by decide +kernel) rfl (Nat.le_of_ble_eq_true rfl) rfl hc nx
theorem b_Town_goBack_35 {d : Nat} {a0 : Nat} {S : fm_S}  : am_Ev d k_Town_goBack 35 [some (.ref a0)] [] (fm_mk S) (some (.int 1), fm_mk S) := by
  refine fs_iconst (n := 1) (v := 1) (by decide +kernel) (by decide) ?_
  exact fe_retZ (by decide +kernel) (by decide +kernel) (by decide)
-- KitchenSiege$Town.shutStreets()I
theorem b_Town_shutStreets_0 {d : Nat} {a0 : Nat} {o1 : Option Value} {o2 : Option Value} {S : fm_S} {r : Option Value × am_W} (nx : am_Ev d k_Town_shutStreets 4 [some (.ref a0), some (.int 0), some (.int 0)] [] (fm_mk S) r) : am_Ev d k_Town_shutStreets 0 [some (.ref a0), o1, o2] [] (fm_mk S) r := by
  refine fs_iconst (n := 0) (v := 0) (by decide +kernel) (by decide) ?_
  refine fs_istoren (j := 1) (L' := [some (.ref a0), some (.int 0), o2]) (by decide +kernel) (Nat.le_of_ble_eq_true rfl) rfl ?_
  refine fs_iconst (n := 0) (v := 0) (by decide +kernel) (by decide) ?_
  refine fs_istoren (j := 2) (L' := [some (.ref a0), some (.int 0), some (.int 0)]) (by decide +kernel) (Nat.le_of_ble_eq_true rfl) rfl ?_
  exact nx
theorem b_Town_shutStreets_4 {d : Nat} {a0 : Nat} {x1 : Int32} {x2 : Int32} {S : fm_S} {r : Option Value × am_W} (h_a0 : fm_tg a0 = 6) (kt : (S.1 a0 0) ≤ x2 → am_Ev d k_Town_shutStreets 35 [some (.ref a0), some (.int x1), some (.int x2)] [] (fm_mk S) r) (kf : ¬ (S.1 a0 0) ≤ x2 → am_Ev d k_Town_shutStreets 12 [some (.ref a0), some (.int x1), some (.int x2)] [] (fm_mk S) r) : am_Ev d k_Town_shutStreets 4 [some (.ref a0), some (.int x1), some (.int x2)] [] (fm_mk S) r := by
  have T_a0 := fm_town h_a0
  refine fs_iloadn (j := 2) (by decide +kernel) rfl ?_
  refine fs_aloadn (j := 0) (by decide +kernel) rfl ?_
  refine fe_getI (idx := 60) (t := 6) (f := 0) (fk := 0) (fin := 0) (wp := 156) (by decide +kernel) (by decide +kernel) h_a0 (by decide +kernel) ?_
  exact fs_icge (off := 26) (tgt := 35) (by decide +kernel) (by decide) kt kf
theorem b_Town_shutStreets_12 {d : Nat} {a0 : Nat} {x1 : Int32} {x2 : Int32} {v : Int32} {S1 : fm_S} {S : fm_S} {r : Option Value × am_W} (h_a0 : fm_tg a0 = 6) (hc : am_Sp d k_Days_isShut [.ref (a0 + 16), .int x2] (fm_mk S) (some (.int v)) (fm_mk S1)) (nx : am_Ev (d + 1) k_Town_shutStreets 20 [some (.ref a0), some (.int x1), some (.int x2)] [.int v] (fm_mk S1) r) : am_Ev (d + 1) k_Town_shutStreets 12 [some (.ref a0), some (.int x1), some (.int x2)] [] (fm_mk S) r := by
  have T_a0 := fm_town h_a0
  have D_a016 := fm_days T_a0.2.2.1
  refine fs_aloadn (j := 0) (by decide +kernel) rfl ?_
  refine fe_getR (idx := 49) (t := 6) (f := 12) (fk := 2) (fin := 1) (wp := 188) (x := a0 + 16) (by decide +kernel) (by decide +kernel) h_a0 (by decide +kernel) (fm_objrf h_a0 (by decide) (by decide +kernel) (by decide +kernel)) ?_
  refine fs_iloadn (j := 2) (by decide +kernel) rfl ?_
  exact fe_callV (t := 2) (idx := 103) (n := 1) (wp := 732) (q := (631, 632)) (as := [.int x2]) (rs := []) (by decide +kernel) (by decide +kernel) T_a0.2.2.1 (by decide +kernel) rfl (Nat.le_of_ble_eq_true rfl) rfl hc nx
theorem b_Town_shutStreets_20 {d : Nat} {a0 : Nat} {x1 : Int32} {x2 : Int32} {sx0 : Int32} {S : fm_S} {r : Option Value × am_W} (kt : sx0 = 0 → am_Ev d k_Town_shutStreets 29 [some (.ref a0), some (.int x1), some (.int x2)] [] (fm_mk S) r) (kf : ¬ sx0 = 0 → am_Ev d k_Town_shutStreets 23 [some (.ref a0), some (.int x1), some (.int x2)] [] (fm_mk S) r) : am_Ev d k_Town_shutStreets 20 [some (.ref a0), some (.int x1), some (.int x2)] [.int sx0] (fm_mk S) r := by
  exact fs_ifeq (off := 9) (tgt := 29) (by decide +kernel) (by decide) kt kf
theorem b_Town_shutStreets_23 {d : Nat} {a0 : Nat} {x1 : Int32} {x2 : Int32} {S : fm_S} {r : Option Value × am_W} (nx : am_Ev d k_Town_shutStreets 29 [some (.ref a0), some (.int (x1 ||| (1 <<< (x2 &&& 31)))), some (.int x2)] [] (fm_mk S) r) : am_Ev d k_Town_shutStreets 23 [some (.ref a0), some (.int x1), some (.int x2)] [] (fm_mk S) r := by
  refine fs_iloadn (j := 1) (by decide +kernel) rfl ?_
  refine fs_iconst (n := 1) (v := 1) (by decide +kernel) (by decide) ?_
  refine fs_iloadn (j := 2) (by decide +kernel) rfl ?_
  refine fs_ishl (by decide +kernel) ?_
  refine fs_ior (by decide +kernel) ?_
  refine fs_istoren (j := 1) (L' := [some (.ref a0), some (.int (x1 ||| (1 <<< (x2 &&& 31)))), some (.int x2)]) (by decide +kernel) (Nat.le_of_ble_eq_true rfl) rfl ?_
  exact nx
theorem b_Town_shutStreets_29 {d : Nat} {a0 : Nat} {x1 : Int32} {x2 : Int32} {S : fm_S} {r : Option Value × am_W} (nx : am_Ev d k_Town_shutStreets 4 [some (.ref a0), some (.int x1), some (.int (x2 + 1))] [] (fm_mk S) r) : am_Ev d k_Town_shutStreets 29 [some (.ref a0), some (.int x1), some (.int x2)] [] (fm_mk S) r := by
  refine fs_iinc (j := 2) (n := 1) (v := 1) (L' := [some (.ref a0), some (.int x1), some (.int (x2 + 1))]) (by decide +kernel) rfl (Nat.le_of_ble_eq_true rfl) (by decide) rfl ?_
  refine fs_goto (off := -28) (tgt := 4) (by decide +kernel) (by decide) ?_
  exact nx
theorem b_Town_shutStreets_35 {d : Nat} {a0 : Nat} {x1 : Int32} {x2 : Int32} {S : fm_S}  : am_Ev d k_Town_shutStreets 35 [some (.ref a0), some (.int x1), some (.int x2)] [] (fm_mk S) (some (.int x1), fm_mk S) := by
  refine fs_iloadn (j := 1) (by decide +kernel) rfl ?_
  exact fe_retI (by decide +kernel) (by decide +kernel)
-- KitchenSiege$Town.mixStreets(J)J
theorem b_Town_mixStreets_0 {d : Nat} {a0 : Nat} {y1 : Int64} {o3 : Option Value} {S : fm_S} {r : Option Value × am_W} (nx : am_Ev d k_Town_mixStreets 2 [some (.ref a0), some (.long y1), none, some (.int 0)] [] (fm_mk S) r) : am_Ev d k_Town_mixStreets 0 [some (.ref a0), some (.long y1), none, o3] [] (fm_mk S) r := by
  refine fs_iconst (n := 0) (v := 0) (by decide +kernel) (by decide) ?_
  refine fs_istoren (j := 3) (L' := [some (.ref a0), some (.long y1), none, some (.int 0)]) (by decide +kernel) (Nat.le_of_ble_eq_true rfl) rfl ?_
  exact nx
theorem b_Town_mixStreets_2 {d : Nat} {a0 : Nat} {y1 : Int64} {x3 : Int32} {S : fm_S} {r : Option Value × am_W} (h_a0 : fm_tg a0 = 6) (kt : (S.1 a0 0) ≤ x3 → am_Ev d k_Town_mixStreets 89 [some (.ref a0), some (.long y1), none, some (.int x3)] [] (fm_mk S) r) (kf : ¬ (S.1 a0 0) ≤ x3 → am_Ev d k_Town_mixStreets 10 [some (.ref a0), some (.long y1), none, some (.int x3)] [] (fm_mk S) r) : am_Ev d k_Town_mixStreets 2 [some (.ref a0), some (.long y1), none, some (.int x3)] [] (fm_mk S) r := by
  have T_a0 := fm_town h_a0
  refine fs_iloadn (j := 3) (by decide +kernel) rfl ?_
  refine fs_aloadn (j := 0) (by decide +kernel) rfl ?_
  refine fe_getI (idx := 60) (t := 6) (f := 0) (fk := 0) (fin := 0) (wp := 156) (by decide +kernel) (by decide +kernel) h_a0 (by decide +kernel) ?_
  exact fs_icge (off := 82) (tgt := 89) (by decide +kernel) (by decide) kt kf
theorem b_Town_mixStreets_10 {d : Nat} {a0 : Nat} {y1 : Int64} {x3 : Int32} {v : Int64} {S1 : fm_S} {S : fm_S} {r : Option Value × am_W} (h_a0 : fm_tg a0 = 6) (hi1 : vp_in x3 8) (hc : am_Sp d k_X_mix [.long y1, .long ((S.1 (a0 + 1) x3.toNatClampNeg).toInt64)] (fm_mk S) (some (.long v)) (fm_mk S1)) (nx : am_Ev (d + 1) k_Town_mixStreets 21 [some (.ref a0), some (.long y1), none, some (.int x3)] [.long v] (fm_mk S1) r) : am_Ev (d + 1) k_Town_mixStreets 10 [some (.ref a0), some (.long y1), none, some (.int x3)] [] (fm_mk S) r := by
  have T_a0 := fm_town h_a0
  refine fs_lloadn (j := 1) (by decide +kernel) rfl ?_
  refine fs_aloadn (j := 0) (by decide +kernel) rfl ?_
  refine fe_getR (idx := 9) (t := 6) (f := 1) (fk := 2) (fin := 1) (wp := 161) (x := a0 + 1) (by decide +kernel) (by decide +kernel) h_a0 (by decide +kernel) (fm_objrf h_a0 (by decide) (by decide +kernel) (by decide +kernel)) ?_
  refine fs_iloadn (j := 3) (by decide +kernel) rfl ?_
  refine fx_iald (n := x3.toNatClampNeg) (len := 8) (by decide +kernel) T_a0.1.1 T_a0.1.2.1 hi1 rfl ?_
  refine fs_i2l (by decide +kernel) ?_
  exact fe_callS (idx := 107) (kd := 4) (n := 2) (wp := 918) (q := (911, 0)) (as := [.long y1, .long ((S.1 (a0 + 1) x3.toNatClampNeg).toInt64)]) (rs := []) (by decide +kernel) (by decide +kernel) (by decide +kernel) (by decide) rfl (Nat.le_of_ble_eq_true rfl) rfl hc nx
theorem b_Town_mixStreets_21 {d : Nat} {a0 : Nat} {y1 : Int64} {x3 : Int32} {sy0 : Int64} {v : Int64} {S1 : fm_S} {S : fm_S} {r : Option Value × am_W} (h_a0 : fm_tg a0 = 6) (hi1 : vp_in x3 8) (hc : am_Sp d k_X_mix [.long sy0, .long ((S.1 (a0 + 2) x3.toNatClampNeg).toInt64)] (fm_mk S) (some (.long v)) (fm_mk S1)) (nx : am_Ev (d + 1) k_Town_mixStreets 31 [some (.ref a0), some (.long y1), none, some (.int x3)] [.long v] (fm_mk S1) r) : am_Ev (d + 1) k_Town_mixStreets 21 [some (.ref a0), some (.long y1), none, some (.int x3)] [.long sy0] (fm_mk S) r := by
  have T_a0 := fm_town h_a0
  refine fs_aloadn (j := 0) (by decide +kernel) rfl ?_
  refine fe_getR (idx := 15) (t := 6) (f := 2) (fk := 2) (fin := 1) (wp := 163) (x := a0 + 2) (by decide +kernel) (by decide +kernel) h_a0 (by decide +kernel) (fm_objrf h_a0 (by decide) (by decide +kernel) (by decide +kernel)) ?_
  refine fs_iloadn (j := 3) (by decide +kernel) rfl ?_
  refine fx_iald (n := x3.toNatClampNeg) (len := 8) (by decide +kernel) T_a0.1.2.2.1 T_a0.1.2.2.2.1 hi1 rfl ?_
  refine fs_i2l (by decide +kernel) ?_
  exact fe_callS (idx := 107) (kd := 4) (n := 2) (wp := 918) (q := (911, 0)) (as := [.long sy0, .long ((S.1 (a0 + 2) x3.toNatClampNeg).toInt64)]) (rs := []) (by decide +kernel) (by decide +kernel) (by decide +kernel) (by decide) rfl (Nat.le_of_ble_eq_true rfl) rfl hc nx
theorem b_Town_mixStreets_31 {d : Nat} {a0 : Nat} {y1 : Int64} {x3 : Int32} {sy0 : Int64} {v : Int64} {S1 : fm_S} {S : fm_S} {r : Option Value × am_W} (h_a0 : fm_tg a0 = 6) (hi1 : vp_in x3 8) (hc : am_Sp d k_X_mix [.long sy0, .long ((S.1 (a0 + 3) x3.toNatClampNeg).toInt64)] (fm_mk S) (some (.long v)) (fm_mk S1)) (nx : am_Ev (d + 1) k_Town_mixStreets 41 [some (.ref a0), some (.long y1), none, some (.int x3)] [.long v] (fm_mk S1) r) : am_Ev (d + 1) k_Town_mixStreets 31 [some (.ref a0), some (.long y1), none, some (.int x3)] [.long sy0] (fm_mk S) r := by
  have T_a0 := fm_town h_a0
  refine fs_aloadn (j := 0) (by decide +kernel) rfl ?_
  refine fe_getR (idx := 18) (t := 6) (f := 3) (fk := 2) (fin := 1) (wp := 166) (x := a0 + 3) (by decide +kernel) (by decide +kernel) h_a0 (by decide +kernel) (fm_objrf h_a0 (by decide) (by decide +kernel) (by decide +kernel)) ?_
  refine fs_iloadn (j := 3) (by decide +kernel) rfl ?_
  refine fx_iald (n := x3.toNatClampNeg) (len := 8) (by decide +kernel) T_a0.1.2.2.2.2.1 T_a0.1.2.2.2.2.2.1 hi1 rfl ?_
  refine fs_i2l (by decide +kernel) ?_
  exact fe_callS (idx := 107) (kd := 4) (n := 2) (wp := 918) (q := (911, 0)) (as := [.long sy0, .long ((S.1 (a0 + 3) x3.toNatClampNeg).toInt64)]) (rs := []) (by decide +kernel) (by decide +kernel) (by decide +kernel) (by decide) rfl (Nat.le_of_ble_eq_true rfl) rfl hc nx
theorem b_Town_mixStreets_41 {d : Nat} {a0 : Nat} {y1 : Int64} {x3 : Int32} {sy0 : Int64} {v : Int64} {S1 : fm_S} {S : fm_S} {r : Option Value × am_W} (h_a0 : fm_tg a0 = 6) (hi1 : vp_in x3 8) (hc : am_Sp d k_X_mix [.long sy0, .long ((S.1 ((a0 + 16) + 1) x3.toNatClampNeg).toInt64)] (fm_mk S) (some (.long v)) (fm_mk S1)) (nx : am_Ev (d + 1) k_Town_mixStreets 56 [some (.ref a0), some (.long sy0), none, some (.int x3)] [.long v] (fm_mk S1) r) : am_Ev (d + 1) k_Town_mixStreets 41 [some (.ref a0), some (.long y1), none, some (.int x3)] [.long sy0] (fm_mk S) r := by
  have T_a0 := fm_town h_a0
  have D_a016 := fm_days T_a0.2.2.1
  refine fs_lstoren (j := 1) (L' := [some (.ref a0), some (.long sy0), none, some (.int x3)]) (by decide +kernel) (Nat.le_of_ble_eq_true rfl) rfl ?_
  refine fs_lloadn (j := 1) (by decide +kernel) rfl ?_
  refine fs_aloadn (j := 0) (by decide +kernel) rfl ?_
  refine fe_getR (idx := 49) (t := 6) (f := 12) (fk := 2) (fin := 1) (wp := 188) (x := a0 + 16) (by decide +kernel) (by decide +kernel) h_a0 (by decide +kernel) (fm_objrf h_a0 (by decide) (by decide +kernel) (by decide +kernel)) ?_
  refine fe_getR (idx := 111) (t := 2) (f := 1) (fk := 2) (fin := 1) (wp := 129) (x := (a0 + 16) + 1) (by decide +kernel) (by decide +kernel) T_a0.2.2.1 (by decide +kernel) (fm_objrf T_a0.2.2.1 (by decide) (by decide +kernel) (by decide +kernel)) ?_
  refine fs_iloadn (j := 3) (by decide +kernel) rfl ?_
  refine fx_iald (n := x3.toNatClampNeg) (len := 8) (by decide +kernel) D_a016.1 D_a016.2.1 hi1 rfl ?_
  refine fs_i2l (by decide +kernel) ?_
  exact fe_callS (idx := 107) (kd := 4) (n := 2) (wp := 918) (q := (911, 0)) (as := [.long sy0, .long ((S.1 ((a0 + 16) + 1) x3.toNatClampNeg).toInt64)]) (rs := []) (by decide +kernel) (by decide +kernel) (by decide +kernel) (by decide) rfl (Nat.le_of_ble_eq_true rfl) rfl hc nx
theorem b_Town_mixStreets_56 {d : Nat} {a0 : Nat} {y1 : Int64} {x3 : Int32} {sy0 : Int64} {v : Int64} {S1 : fm_S} {S : fm_S} {r : Option Value × am_W} (h_a0 : fm_tg a0 = 6) (hi1 : vp_in x3 8) (hc : am_Sp d k_X_mix [.long sy0, .long ((S.1 ((a0 + 16) + 2) x3.toNatClampNeg).toInt64)] (fm_mk S) (some (.long v)) (fm_mk S1)) (nx : am_Ev (d + 1) k_Town_mixStreets 69 [some (.ref a0), some (.long y1), none, some (.int x3)] [.long v] (fm_mk S1) r) : am_Ev (d + 1) k_Town_mixStreets 56 [some (.ref a0), some (.long y1), none, some (.int x3)] [.long sy0] (fm_mk S) r := by
  have T_a0 := fm_town h_a0
  have D_a016 := fm_days T_a0.2.2.1
  refine fs_aloadn (j := 0) (by decide +kernel) rfl ?_
  refine fe_getR (idx := 49) (t := 6) (f := 12) (fk := 2) (fin := 1) (wp := 188) (x := a0 + 16) (by decide +kernel) (by decide +kernel) h_a0 (by decide +kernel) (fm_objrf h_a0 (by decide) (by decide +kernel) (by decide +kernel)) ?_
  refine fe_getR (idx := 114) (t := 2) (f := 2) (fk := 2) (fin := 1) (wp := 133) (x := (a0 + 16) + 2) (by decide +kernel) (by decide +kernel) T_a0.2.2.1 (by decide +kernel) (fm_objrf T_a0.2.2.1 (by decide) (by decide +kernel) (by decide +kernel)) ?_
  refine fs_iloadn (j := 3) (by decide +kernel) rfl ?_
  refine fx_iald (n := x3.toNatClampNeg) (len := 8) (by decide +kernel) D_a016.2.2.1 D_a016.2.2.2.1 hi1 rfl ?_
  refine fs_i2l (by decide +kernel) ?_
  exact fe_callS (idx := 107) (kd := 4) (n := 2) (wp := 918) (q := (911, 0)) (as := [.long sy0, .long ((S.1 ((a0 + 16) + 2) x3.toNatClampNeg).toInt64)]) (rs := []) (by decide +kernel) (by decide +kernel) (by decide +kernel) (by decide) rfl (Nat.le_of_ble_eq_true rfl) rfl hc nx
theorem b_Town_mixStreets_69 {d : Nat} {a0 : Nat} {y1 : Int64} {x3 : Int32} {sy0 : Int64} {v : Int64} {S1 : fm_S} {S : fm_S} {r : Option Value × am_W} (h_a0 : fm_tg a0 = 6) (hi1 : vp_in x3 8) (hc : am_Sp d k_X_mix [.long sy0, .long ((S.1 ((a0 + 16) + 3) x3.toNatClampNeg).toInt64)] (fm_mk S) (some (.long v)) (fm_mk S1)) (nx : am_Ev (d + 1) k_Town_mixStreets 82 [some (.ref a0), some (.long y1), none, some (.int x3)] [.long v] (fm_mk S1) r) : am_Ev (d + 1) k_Town_mixStreets 69 [some (.ref a0), some (.long y1), none, some (.int x3)] [.long sy0] (fm_mk S) r := by
  have T_a0 := fm_town h_a0
  have D_a016 := fm_days T_a0.2.2.1
  refine fs_aloadn (j := 0) (by decide +kernel) rfl ?_
  refine fe_getR (idx := 49) (t := 6) (f := 12) (fk := 2) (fin := 1) (wp := 188) (x := a0 + 16) (by decide +kernel) (by decide +kernel) h_a0 (by decide +kernel) (fm_objrf h_a0 (by decide) (by decide +kernel) (by decide +kernel)) ?_
  refine fe_getR (idx := 117) (t := 2) (f := 3) (fk := 2) (fin := 1) (wp := 137) (x := (a0 + 16) + 3) (by decide +kernel) (by decide +kernel) T_a0.2.2.1 (by decide +kernel) (fm_objrf T_a0.2.2.1 (by decide) (by decide +kernel) (by decide +kernel)) ?_
  refine fs_iloadn (j := 3) (by decide +kernel) rfl ?_
  refine fx_iald (n := x3.toNatClampNeg) (len := 8) (by decide +kernel) D_a016.2.2.2.2.1 D_a016.2.2.2.2.2 hi1 rfl ?_
  refine fs_i2l (by decide +kernel) ?_
  exact fe_callS (idx := 107) (kd := 4) (n := 2) (wp := 918) (q := (911, 0)) (as := [.long sy0, .long ((S.1 ((a0 + 16) + 3) x3.toNatClampNeg).toInt64)]) (rs := []) (by decide +kernel) (by decide +kernel) (by decide +kernel) (by decide) rfl (Nat.le_of_ble_eq_true rfl) rfl hc nx
theorem b_Town_mixStreets_82 {d : Nat} {a0 : Nat} {y1 : Int64} {x3 : Int32} {sy0 : Int64} {S : fm_S} {r : Option Value × am_W} (nx : am_Ev d k_Town_mixStreets 2 [some (.ref a0), some (.long sy0), none, some (.int (x3 + 1))] [] (fm_mk S) r) : am_Ev d k_Town_mixStreets 82 [some (.ref a0), some (.long y1), none, some (.int x3)] [.long sy0] (fm_mk S) r := by
  refine fs_lstoren (j := 1) (L' := [some (.ref a0), some (.long sy0), none, some (.int x3)]) (by decide +kernel) (Nat.le_of_ble_eq_true rfl) rfl ?_
  refine fs_iinc (j := 3) (n := 1) (v := 1) (L' := [some (.ref a0), some (.long sy0), none, some (.int (x3 + 1))]) (by decide +kernel) rfl (Nat.le_of_ble_eq_true rfl) (by decide) rfl ?_
  refine fs_goto (off := -84) (tgt := 2) (by decide +kernel) (by decide) ?_
  exact nx
theorem b_Town_mixStreets_89 {d : Nat} {a0 : Nat} {y1 : Int64} {x3 : Int32} {S : fm_S}  : am_Ev d k_Town_mixStreets 89 [some (.ref a0), some (.long y1), none, some (.int x3)] [] (fm_mk S) (some (.long y1), fm_mk S) := by
  refine fs_lloadn (j := 1) (by decide +kernel) rfl ?_
  exact fe_retL (by decide +kernel) (by decide +kernel)
-- KitchenSiege$Town.mixLanes(J)J
theorem b_Town_mixLanes_0 {d : Nat} {a0 : Nat} {y1 : Int64} {o3 : Option Value} {o4 : Option Value} {S : fm_S} {r : Option Value × am_W} (nx : am_Ev d k_Town_mixLanes 2 [some (.ref a0), some (.long y1), none, some (.int 0), o4] [] (fm_mk S) r) : am_Ev d k_Town_mixLanes 0 [some (.ref a0), some (.long y1), none, o3, o4] [] (fm_mk S) r := by
  refine fs_iconst (n := 0) (v := 0) (by decide +kernel) (by decide) ?_
  refine fs_istoren (j := 3) (L' := [some (.ref a0), some (.long y1), none, some (.int 0), o4]) (by decide +kernel) (Nat.le_of_ble_eq_true rfl) rfl ?_
  exact nx
theorem b_Town_mixLanes_2 {d : Nat} {a0 : Nat} {y1 : Int64} {x3 : Int32} {o4 : Option Value} {S : fm_S} {r : Option Value × am_W} (kt : 8 ≤ x3 → am_Ev d k_Town_mixLanes 52 [some (.ref a0), some (.long y1), none, some (.int x3), o4] [] (fm_mk S) r) (kf : ¬ 8 ≤ x3 → am_Ev d k_Town_mixLanes 8 [some (.ref a0), some (.long y1), none, some (.int x3), o4] [] (fm_mk S) r) : am_Ev d k_Town_mixLanes 2 [some (.ref a0), some (.long y1), none, some (.int x3), o4] [] (fm_mk S) r := by
  refine fs_iloadn (j := 3) (by decide +kernel) rfl ?_
  refine fs_bipush (n := 8) (v := 8) (by decide +kernel) (by decide) ?_
  exact fs_icge (off := 47) (tgt := 52) (by decide +kernel) (by decide) kt kf
theorem b_Town_mixLanes_8 {d : Nat} {a0 : Nat} {y1 : Int64} {x3 : Int32} {o4 : Option Value} {S : fm_S} {r : Option Value × am_W} (nx : am_Ev d k_Town_mixLanes 13 [some (.ref a0), some (.long y1), none, some (.int x3), some (.int (x3 + 1))] [] (fm_mk S) r) : am_Ev d k_Town_mixLanes 8 [some (.ref a0), some (.long y1), none, some (.int x3), o4] [] (fm_mk S) r := by
  refine fs_iloadn (j := 3) (by decide +kernel) rfl ?_
  refine fs_iconst (n := 1) (v := 1) (by decide +kernel) (by decide) ?_
  refine fs_iadd (by decide +kernel) ?_
  refine fs_istore (j := 4) (L' := [some (.ref a0), some (.long y1), none, some (.int x3), some (.int (x3 + 1))]) (by decide +kernel) (Nat.le_of_ble_eq_true rfl) rfl ?_
  exact nx
theorem b_Town_mixLanes_13 {d : Nat} {a0 : Nat} {y1 : Int64} {x3 : Int32} {x4 : Int32} {S : fm_S} {r : Option Value × am_W} (kt : 8 ≤ x4 → am_Ev d k_Town_mixLanes 46 [some (.ref a0), some (.long y1), none, some (.int x3), some (.int x4)] [] (fm_mk S) r) (kf : ¬ 8 ≤ x4 → am_Ev d k_Town_mixLanes 20 [some (.ref a0), some (.long y1), none, some (.int x3), some (.int x4)] [] (fm_mk S) r) : am_Ev d k_Town_mixLanes 13 [some (.ref a0), some (.long y1), none, some (.int x3), some (.int x4)] [] (fm_mk S) r := by
  refine fs_iload (j := 4) (by decide +kernel) rfl ?_
  refine fs_bipush (n := 8) (v := 8) (by decide +kernel) (by decide) ?_
  exact fs_icge (off := 29) (tgt := 46) (by decide +kernel) (by decide) kt kf
theorem b_Town_mixLanes_20 {d : Nat} {a0 : Nat} {y1 : Int64} {x3 : Int32} {x4 : Int32} {v : Int32} {S1 : fm_S} {S : fm_S} {r : Option Value × am_W} (h_a0 : fm_tg a0 = 6) (hc : am_Sp d k_Town_hasLane [.ref a0, .int x3, .int x4] (fm_mk S) (some (.int v)) (fm_mk S1)) (nx : am_Ev (d + 1) k_Town_mixLanes 28 [some (.ref a0), some (.long y1), none, some (.int x3), some (.int x4)] [.int v, .long y1] (fm_mk S1) r) : am_Ev (d + 1) k_Town_mixLanes 20 [some (.ref a0), some (.long y1), none, some (.int x3), some (.int x4)] [] (fm_mk S) r := by
  have T_a0 := fm_town h_a0
  refine fs_lloadn (j := 1) (by decide +kernel) rfl ?_
  refine fs_aloadn (j := 0) (by decide +kernel) rfl ?_
  refine fs_iloadn (j := 3) (by decide +kernel) rfl ?_
  refine fs_iload (j := 4) (by decide +kernel) rfl ?_
  exact fe_callV (t := 6) (idx := 120) (n := 2) (wp := 923) (q := (394, 395)) (as := [.int x3, .int x4]) (rs := [.long y1]) (by decide +kernel) (by decide +kernel) h_a0 (by decide +kernel) rfl (Nat.le_of_ble_eq_true rfl) rfl hc nx
theorem b_Town_mixLanes_28 {d : Nat} {a0 : Nat} {y1 : Int64} {x3 : Int32} {x4 : Int32} {sy0 : Int64} {sx1 : Int32} {S : fm_S} {r : Option Value × am_W} (kt : sx1 = 0 → am_Ev d k_Town_mixLanes 35 [some (.ref a0), some (.long y1), none, some (.int x3), some (.int x4)] [.long sy0] (fm_mk S) r) (kf : ¬ sx1 = 0 → am_Ev d k_Town_mixLanes 31 [some (.ref a0), some (.long y1), none, some (.int x3), some (.int x4)] [.long sy0] (fm_mk S) r) : am_Ev d k_Town_mixLanes 28 [some (.ref a0), some (.long y1), none, some (.int x3), some (.int x4)] [.int sx1, .long sy0] (fm_mk S) r := by
  exact fs_ifeq (off := 7) (tgt := 35) (by decide +kernel) (by decide) kt kf
theorem b_Town_mixLanes_31 {d : Nat} {a0 : Nat} {y1 : Int64} {x3 : Int32} {x4 : Int32} {sy0 : Int64} {S : fm_S} {r : Option Value × am_W} (nx : am_Ev d k_Town_mixLanes 36 [some (.ref a0), some (.long y1), none, some (.int x3), some (.int x4)] [.long 1, .long sy0] (fm_mk S) r) : am_Ev d k_Town_mixLanes 31 [some (.ref a0), some (.long y1), none, some (.int x3), some (.int x4)] [.long sy0] (fm_mk S) r := by
  refine fs_lconst (n := 1) (v := 1) (by decide +kernel) (by decide) ?_
  refine fs_goto (off := 4) (tgt := 36) (by decide +kernel) (by decide) ?_
  exact nx
theorem b_Town_mixLanes_35 {d : Nat} {a0 : Nat} {y1 : Int64} {x3 : Int32} {x4 : Int32} {sy0 : Int64} {S : fm_S} {r : Option Value × am_W} (nx : am_Ev d k_Town_mixLanes 36 [some (.ref a0), some (.long y1), none, some (.int x3), some (.int x4)] [.long 0, .long sy0] (fm_mk S) r) : am_Ev d k_Town_mixLanes 35 [some (.ref a0), some (.long y1), none, some (.int x3), some (.int x4)] [.long sy0] (fm_mk S) r := by
  refine fs_lconst (n := 0) (v := 0) (by decide +kernel) (by decide) ?_
  exact nx
theorem b_Town_mixLanes_36 {d : Nat} {a0 : Nat} {y1 : Int64} {x3 : Int32} {x4 : Int32} {sy0 : Int64} {sy1 : Int64} {v : Int64} {S1 : fm_S} {S : fm_S} {r : Option Value × am_W} (hc : am_Sp d k_X_mix [.long sy0, .long sy1] (fm_mk S) (some (.long v)) (fm_mk S1)) (nx : am_Ev (d + 1) k_Town_mixLanes 39 [some (.ref a0), some (.long y1), none, some (.int x3), some (.int x4)] [.long v] (fm_mk S1) r) : am_Ev (d + 1) k_Town_mixLanes 36 [some (.ref a0), some (.long y1), none, some (.int x3), some (.int x4)] [.long sy1, .long sy0] (fm_mk S) r := by
  exact fe_callS (idx := 107) (kd := 4) (n := 2) (wp := 918) (q := (911, 0)) (as := [.long sy0, .long sy1]) (rs := []) (by decide +kernel) (by decide +kernel) (by decide +kernel) (by decide) rfl (Nat.le_of_ble_eq_true rfl) rfl hc nx
theorem b_Town_mixLanes_39 {d : Nat} {a0 : Nat} {y1 : Int64} {x3 : Int32} {x4 : Int32} {sy0 : Int64} {S : fm_S} {r : Option Value × am_W} (nx : am_Ev d k_Town_mixLanes 13 [some (.ref a0), some (.long sy0), none, some (.int x3), some (.int (x4 + 1))] [] (fm_mk S) r) : am_Ev d k_Town_mixLanes 39 [some (.ref a0), some (.long y1), none, some (.int x3), some (.int x4)] [.long sy0] (fm_mk S) r := by
  refine fs_lstoren (j := 1) (L' := [some (.ref a0), some (.long sy0), none, some (.int x3), some (.int x4)]) (by decide +kernel) (Nat.le_of_ble_eq_true rfl) rfl ?_
  refine fs_iinc (j := 4) (n := 1) (v := 1) (L' := [some (.ref a0), some (.long sy0), none, some (.int x3), some (.int (x4 + 1))]) (by decide +kernel) rfl (Nat.le_of_ble_eq_true rfl) (by decide) rfl ?_
  refine fs_goto (off := -30) (tgt := 13) (by decide +kernel) (by decide) ?_
  exact nx
theorem b_Town_mixLanes_46 {d : Nat} {a0 : Nat} {y1 : Int64} {x3 : Int32} {x4 : Int32} {S : fm_S} {r : Option Value × am_W} (nx : am_Ev d k_Town_mixLanes 2 [some (.ref a0), some (.long y1), none, some (.int (x3 + 1)), some (.int x4)] [] (fm_mk S) r) : am_Ev d k_Town_mixLanes 46 [some (.ref a0), some (.long y1), none, some (.int x3), some (.int x4)] [] (fm_mk S) r := by
  refine fs_iinc (j := 3) (n := 1) (v := 1) (L' := [some (.ref a0), some (.long y1), none, some (.int (x3 + 1)), some (.int x4)]) (by decide +kernel) rfl (Nat.le_of_ble_eq_true rfl) (by decide) rfl ?_
  refine fs_goto (off := -47) (tgt := 2) (by decide +kernel) (by decide) ?_
  exact nx
theorem b_Town_mixLanes_52 {d : Nat} {a0 : Nat} {y1 : Int64} {x3 : Int32} {o4 : Option Value} {S : fm_S}  : am_Ev d k_Town_mixLanes 52 [some (.ref a0), some (.long y1), none, some (.int x3), o4] [] (fm_mk S) (some (.long y1), fm_mk S) := by
  refine fs_lloadn (j := 1) (by decide +kernel) rfl ?_
  exact fe_retL (by decide +kernel) (by decide +kernel)
-- KitchenSiege$Town.mixDishes(J)J
theorem b_Town_mixDishes_0 {d : Nat} {a0 : Nat} {y1 : Int64} {o3 : Option Value} {S : fm_S} {r : Option Value × am_W} (nx : am_Ev d k_Town_mixDishes 2 [some (.ref a0), some (.long y1), none, some (.int 0)] [] (fm_mk S) r) : am_Ev d k_Town_mixDishes 0 [some (.ref a0), some (.long y1), none, o3] [] (fm_mk S) r := by
  refine fs_iconst (n := 0) (v := 0) (by decide +kernel) (by decide) ?_
  refine fs_istoren (j := 3) (L' := [some (.ref a0), some (.long y1), none, some (.int 0)]) (by decide +kernel) (Nat.le_of_ble_eq_true rfl) rfl ?_
  exact nx
theorem b_Town_mixDishes_2 {d : Nat} {a0 : Nat} {y1 : Int64} {x3 : Int32} {S : fm_S} {r : Option Value × am_W} (h_a0 : fm_tg a0 = 6) (kt : (S.1 a0 7) ≤ x3 → am_Ev d k_Town_mixDishes 48 [some (.ref a0), some (.long y1), none, some (.int x3)] [] (fm_mk S) r) (kf : ¬ (S.1 a0 7) ≤ x3 → am_Ev d k_Town_mixDishes 10 [some (.ref a0), some (.long y1), none, some (.int x3)] [] (fm_mk S) r) : am_Ev d k_Town_mixDishes 2 [some (.ref a0), some (.long y1), none, some (.int x3)] [] (fm_mk S) r := by
  have T_a0 := fm_town h_a0
  refine fs_iloadn (j := 3) (by decide +kernel) rfl ?_
  refine fs_aloadn (j := 0) (by decide +kernel) rfl ?_
  refine fe_getI (idx := 64) (t := 6) (f := 7) (fk := 0) (fin := 0) (wp := 176) (by decide +kernel) (by decide +kernel) h_a0 (by decide +kernel) ?_
  exact fs_icge (off := 41) (tgt := 48) (by decide +kernel) (by decide) kt kf
theorem b_Town_mixDishes_10 {d : Nat} {a0 : Nat} {y1 : Int64} {x3 : Int32} {v : Int64} {S1 : fm_S} {S : fm_S} {r : Option Value × am_W} (h_a0 : fm_tg a0 = 6) (hi1 : vp_in x3 6) (hc : am_Sp d k_X_mix [.long y1, .long ((S.1 (a0 + 7) x3.toNatClampNeg).toInt64)] (fm_mk S) (some (.long v)) (fm_mk S1)) (nx : am_Ev (d + 1) k_Town_mixDishes 21 [some (.ref a0), some (.long y1), none, some (.int x3)] [.long v] (fm_mk S1) r) : am_Ev (d + 1) k_Town_mixDishes 10 [some (.ref a0), some (.long y1), none, some (.int x3)] [] (fm_mk S) r := by
  have T_a0 := fm_town h_a0
  refine fs_lloadn (j := 1) (by decide +kernel) rfl ?_
  refine fs_aloadn (j := 0) (by decide +kernel) rfl ?_
  refine fe_getR (idx := 30) (t := 6) (f := 8) (fk := 2) (fin := 1) (wp := 180) (x := a0 + 7) (by decide +kernel) (by decide +kernel) h_a0 (by decide +kernel) (fm_objrf h_a0 (by decide) (by decide +kernel) (by decide +kernel)) ?_
  refine fs_iloadn (j := 3) (by decide +kernel) rfl ?_
  refine fx_iald (n := x3.toNatClampNeg) (len := 6) (by decide +kernel) T_a0.1.2.2.2.2.2.2.2.2.2.2.2.2.1 T_a0.1.2.2.2.2.2.2.2.2.2.2.2.2.2.1 hi1 rfl ?_
  refine fs_i2l (by decide +kernel) ?_
  exact fe_callS (idx := 107) (kd := 4) (n := 2) (wp := 918) (q := (911, 0)) (as := [.long y1, .long ((S.1 (a0 + 7) x3.toNatClampNeg).toInt64)]) (rs := []) (by decide +kernel) (by decide +kernel) (by decide +kernel) (by decide) rfl (Nat.le_of_ble_eq_true rfl) rfl hc nx
theorem b_Town_mixDishes_21 {d : Nat} {a0 : Nat} {y1 : Int64} {x3 : Int32} {sy0 : Int64} {v : Int64} {S1 : fm_S} {S : fm_S} {r : Option Value × am_W} (h_a0 : fm_tg a0 = 6) (hi1 : vp_in x3 6) (hc : am_Sp d k_X_mix [.long sy0, .long ((S.1 (a0 + 8) x3.toNatClampNeg).toInt64)] (fm_mk S) (some (.long v)) (fm_mk S1)) (nx : am_Ev (d + 1) k_Town_mixDishes 31 [some (.ref a0), some (.long y1), none, some (.int x3)] [.long v] (fm_mk S1) r) : am_Ev (d + 1) k_Town_mixDishes 21 [some (.ref a0), some (.long y1), none, some (.int x3)] [.long sy0] (fm_mk S) r := by
  have T_a0 := fm_town h_a0
  refine fs_aloadn (j := 0) (by decide +kernel) rfl ?_
  refine fe_getR (idx := 33) (t := 6) (f := 9) (fk := 2) (fin := 1) (wp := 182) (x := a0 + 8) (by decide +kernel) (by decide +kernel) h_a0 (by decide +kernel) (fm_objrf h_a0 (by decide) (by decide +kernel) (by decide +kernel)) ?_
  refine fs_iloadn (j := 3) (by decide +kernel) rfl ?_
  refine fx_iald (n := x3.toNatClampNeg) (len := 6) (by decide +kernel) T_a0.1.2.2.2.2.2.2.2.2.2.2.2.2.2.2.1 T_a0.1.2.2.2.2.2.2.2.2.2.2.2.2.2.2.2.1 hi1 rfl ?_
  refine fs_i2l (by decide +kernel) ?_
  exact fe_callS (idx := 107) (kd := 4) (n := 2) (wp := 918) (q := (911, 0)) (as := [.long sy0, .long ((S.1 (a0 + 8) x3.toNatClampNeg).toInt64)]) (rs := []) (by decide +kernel) (by decide +kernel) (by decide +kernel) (by decide) rfl (Nat.le_of_ble_eq_true rfl) rfl hc nx
theorem b_Town_mixDishes_31 {d : Nat} {a0 : Nat} {y1 : Int64} {x3 : Int32} {sy0 : Int64} {v : Int64} {S1 : fm_S} {S : fm_S} {r : Option Value × am_W} (h_a0 : fm_tg a0 = 6) (hi1 : vp_in x3 6) (hc : am_Sp d k_X_mix [.long sy0, .long ((S.1 (a0 + 9) x3.toNatClampNeg).toInt64)] (fm_mk S) (some (.long v)) (fm_mk S1)) (nx : am_Ev (d + 1) k_Town_mixDishes 41 [some (.ref a0), some (.long y1), none, some (.int x3)] [.long v] (fm_mk S1) r) : am_Ev (d + 1) k_Town_mixDishes 31 [some (.ref a0), some (.long y1), none, some (.int x3)] [.long sy0] (fm_mk S) r := by
  have T_a0 := fm_town h_a0
  refine fs_aloadn (j := 0) (by decide +kernel) rfl ?_
  refine fe_getR (idx := 36) (t := 6) (f := 10) (fk := 2) (fin := 1) (wp := 184) (x := a0 + 9) (by decide +kernel) (by decide +kernel) h_a0 (by decide +kernel) (fm_objrf h_a0 (by decide) (by decide +kernel) (by decide +kernel)) ?_
  refine fs_iloadn (j := 3) (by decide +kernel) rfl ?_
  refine fx_iald (n := x3.toNatClampNeg) (len := 6) (by decide +kernel) T_a0.1.2.2.2.2.2.2.2.2.2.2.2.2.2.2.2.2.1 T_a0.1.2.2.2.2.2.2.2.2.2.2.2.2.2.2.2.2.2 hi1 rfl ?_
  refine fs_i2l (by decide +kernel) ?_
  exact fe_callS (idx := 107) (kd := 4) (n := 2) (wp := 918) (q := (911, 0)) (as := [.long sy0, .long ((S.1 (a0 + 9) x3.toNatClampNeg).toInt64)]) (rs := []) (by decide +kernel) (by decide +kernel) (by decide +kernel) (by decide) rfl (Nat.le_of_ble_eq_true rfl) rfl hc nx
theorem b_Town_mixDishes_41 {d : Nat} {a0 : Nat} {y1 : Int64} {x3 : Int32} {sy0 : Int64} {S : fm_S} {r : Option Value × am_W} (nx : am_Ev d k_Town_mixDishes 2 [some (.ref a0), some (.long sy0), none, some (.int (x3 + 1))] [] (fm_mk S) r) : am_Ev d k_Town_mixDishes 41 [some (.ref a0), some (.long y1), none, some (.int x3)] [.long sy0] (fm_mk S) r := by
  refine fs_lstoren (j := 1) (L' := [some (.ref a0), some (.long sy0), none, some (.int x3)]) (by decide +kernel) (Nat.le_of_ble_eq_true rfl) rfl ?_
  refine fs_iinc (j := 3) (n := 1) (v := 1) (L' := [some (.ref a0), some (.long sy0), none, some (.int (x3 + 1))]) (by decide +kernel) rfl (Nat.le_of_ble_eq_true rfl) (by decide) rfl ?_
  refine fs_goto (off := -43) (tgt := 2) (by decide +kernel) (by decide) ?_
  exact nx
theorem b_Town_mixDishes_48 {d : Nat} {a0 : Nat} {y1 : Int64} {x3 : Int32} {S : fm_S}  : am_Ev d k_Town_mixDishes 48 [some (.ref a0), some (.long y1), none, some (.int x3)] [] (fm_mk S) (some (.long y1), fm_mk S) := by
  refine fs_lloadn (j := 1) (by decide +kernel) rfl ?_
  exact fe_retL (by decide +kernel) (by decide +kernel)
