/-! basic blocks: printed by wip/whole/gen13.py -/
-- KitchenSiegeModel.first([I)V
theorem b134_0 {d : Nat} {a0 : Nat} {o1 : Option Value} {S : fm_S} {r : Option Value × am_W} (nx : am_Ev d 134 2 [some (.ref a0), some (.int 0)] [] (fm_mk S) r) : am_Ev d 134 0 [some (.ref a0), o1] [] (fm_mk S) r := by
  refine fs_iconst (n := 0) (v := 0) (by decide +kernel) (by decide) ?_
  refine fs_istoren (j := 1) (L' := [some (.ref a0), some (.int 0)]) (by decide +kernel) (Nat.le_of_ble_eq_true rfl) rfl ?_
  exact nx
theorem b134_2 {d : Nat} {a0 : Nat} {x1 : Int32} {S : fm_S} {r : Option Value × am_W} (kt : 373 ≤ x1 → am_Ev d 134 19 [some (.ref a0), some (.int x1)] [] (fm_mk S) r) (kf : ¬ 373 ≤ x1 → am_Ev d 134 9 [some (.ref a0), some (.int x1)] [] (fm_mk S) r) : am_Ev d 134 2 [some (.ref a0), some (.int x1)] [] (fm_mk S) r := by
  refine fs_iloadn (j := 1) (by decide +kernel) rfl ?_
  refine fs_sipush (n := 373) (v := 373) (by decide +kernel) (by decide) ?_
  exact fs_icge (off := 13) (tgt := 19) (by decide +kernel) (by decide) kt kf
theorem b134_9 {d : Nat} {a0 : Nat} {x1 : Int32} {S : fm_S} {r : Option Value × am_W} (h_a0 : fm_tg a0 = 100) (hi1 : vp_in x1 (fm_ln a0)) (nx : am_Ev d 134 2 [some (.ref a0), some (.int (x1 + 1))] [] (fm_mk (fm_wI S a0 x1.toNatClampNeg 0)) r) : am_Ev d 134 9 [some (.ref a0), some (.int x1)] [] (fm_mk S) r := by
  refine fs_aloadn (j := 0) (by decide +kernel) rfl ?_
  refine fs_iloadn (j := 1) (by decide +kernel) rfl ?_
  refine fs_iconst (n := 0) (v := 0) (by decide +kernel) (by decide) ?_
  refine fx_iast (n := x1.toNatClampNeg) (len := fm_ln a0) (by decide +kernel) h_a0 rfl hi1 rfl ?_
  refine fs_iinc (j := 1) (n := 1) (v := 1) (L' := [some (.ref a0), some (.int (x1 + 1))]) (by decide +kernel) rfl (Nat.le_of_ble_eq_true rfl) (by decide) rfl ?_
  refine fs_goto (off := -14) (tgt := 2) (by decide +kernel) (by decide) ?_
  exact nx
theorem b134_19 {d : Nat} {a0 : Nat} {x1 : Int32} {S : fm_S} {r : Option Value × am_W} (nx : am_Ev d 134 21 [some (.ref a0), some (.int 0)] [] (fm_mk S) r) : am_Ev d 134 19 [some (.ref a0), some (.int x1)] [] (fm_mk S) r := by
  refine fs_iconst (n := 0) (v := 0) (by decide +kernel) (by decide) ?_
  refine fs_istoren (j := 1) (L' := [some (.ref a0), some (.int 0)]) (by decide +kernel) (Nat.le_of_ble_eq_true rfl) rfl ?_
  exact nx
theorem b134_21 {d : Nat} {a0 : Nat} {x1 : Int32} {S : fm_S} {r : Option Value × am_W} (kt : 4 ≤ x1 → am_Ev d 134 39 [some (.ref a0), some (.int x1)] [] (fm_mk S) r) (kf : ¬ 4 ≤ x1 → am_Ev d 134 26 [some (.ref a0), some (.int x1)] [] (fm_mk S) r) : am_Ev d 134 21 [some (.ref a0), some (.int x1)] [] (fm_mk S) r := by
  refine fs_iloadn (j := 1) (by decide +kernel) rfl ?_
  refine fs_iconst (n := 4) (v := 4) (by decide +kernel) (by decide) ?_
  exact fs_icge (off := 16) (tgt := 39) (by decide +kernel) (by decide) kt kf
theorem b134_26 {d : Nat} {a0 : Nat} {x1 : Int32} {S : fm_S} {r : Option Value × am_W} (h_a0 : fm_tg a0 = 100) (hi1 : vp_in (121 + x1) (fm_ln a0)) (nx : am_Ev d 134 21 [some (.ref a0), some (.int (x1 + 1))] [] (fm_mk (fm_wI S a0 ((121 + x1).toNatClampNeg) x1)) r) : am_Ev d 134 26 [some (.ref a0), some (.int x1)] [] (fm_mk S) r := by
  refine fs_aloadn (j := 0) (by decide +kernel) rfl ?_
  refine fs_bipush (n := 121) (v := 121) (by decide +kernel) (by decide) ?_
  refine fs_iloadn (j := 1) (by decide +kernel) rfl ?_
  refine fs_iadd (by decide +kernel) ?_
  refine fs_iloadn (j := 1) (by decide +kernel) rfl ?_
  refine fx_iast (n := (121 + x1).toNatClampNeg) (len := fm_ln a0) (by decide +kernel) h_a0 rfl hi1 rfl ?_
  refine fs_iinc (j := 1) (n := 1) (v := 1) (L' := [some (.ref a0), some (.int (x1 + 1))]) (by decide +kernel) rfl (Nat.le_of_ble_eq_true rfl) (by decide) rfl ?_
  refine fs_goto (off := -15) (tgt := 21) (by decide +kernel) (by decide) ?_
  exact nx
theorem b134_39 {d : Nat} {a0 : Nat} {x1 : Int32} {S : fm_S}  : am_Ev d 134 39 [some (.ref a0), some (.int x1)] [] (fm_mk S) (none, fm_mk S) := by
  exact fe_retV (by decide +kernel) (by decide +kernel)
-- KitchenSiegeModel.town()I
theorem b135_0 {d : Nat} {o1 : Option Value} {S1 : fm_S} {S : fm_S} {r : Option Value × am_W} (hc : am_Sp d 134 [.ref 232] (fm_mk S) (none) (fm_mk S1)) (nx : am_Ev (d + 1) 135 14 [some (.ref 231), some (.int (S.1 232 0))] [] (fm_mk S1) r) : am_Ev (d + 1) 135 0 [some (.ref 231), o1] [] (fm_mk S) r := by
  refine fs_aloadn (j := 0) (by decide +kernel) rfl ?_
  refine fe_getR (idx := 7) (t := 8) (f := 0) (fk := 2) (fin := 1) (wp := 943) (x := 232) (by decide +kernel) (by decide +kernel) (by decide +kernel) (by decide +kernel) (by decide +kernel) ?_
  refine fs_iconst (n := 0) (v := 0) (by decide +kernel) (by decide) ?_
  refine fx_iald (n := 0) (len := 373) (by decide +kernel) (by decide +kernel) (by decide +kernel) (vp_c (by decide) (by decide)) (by decide) ?_
  refine fs_istoren (j := 1) (L' := [some (.ref 231), some (.int (S.1 232 0))]) (by decide +kernel) (Nat.le_of_ble_eq_true rfl) rfl ?_
  refine fs_aloadn (j := 0) (by decide +kernel) rfl ?_
  refine fe_getR (idx := 7) (t := 8) (f := 0) (fk := 2) (fin := 1) (wp := 943) (x := 232) (by decide +kernel) (by decide +kernel) (by decide +kernel) (by decide +kernel) (by decide +kernel) ?_
  exact fe_callS (idx := 51) (kd := 0) (n := 1) (wp := 940) (q := (941, 0)) (as := [.ref 232]) (rs := []) (by decide +kernel) (by decide +kernel) (by decide +kernel) (by decide) rfl (Nat.le_of_ble_eq_true rfl) rfl hc nx
theorem b135_14 {d : Nat} {x1 : Int32} {S : fm_S}  : am_Ev d 135 14 [some (.ref 231), some (.int x1)] [] (fm_mk S) (some (.int x1), fm_mk S) := by
  refine fs_iloadn (j := 1) (by decide +kernel) rfl ?_
  exact fe_retI (by decide +kernel) (by decide +kernel)
-- KitchenSiegeModel.street(III)I
theorem b136_0 {d : Nat} {x1 : Int32} {x2 : Int32} {x3 : Int32} {v : Int32} {S1 : fm_S} {S : fm_S} {r : Option Value × am_W} (hc : am_Sp d 137 [.long x1.toInt64, .long 0, .long 5] (fm_mk S) (some (.int v)) (fm_mk S1)) (nx : am_Ev (d + 1) 136 9 [some (.ref 231), some (.int x1), some (.int x2), some (.int x3)] [.int v] (fm_mk S1) r) : am_Ev (d + 1) 136 0 [some (.ref 231), some (.int x1), some (.int x2), some (.int x3)] [] (fm_mk S) r := by
  refine fs_iloadn (j := 1) (by decide +kernel) rfl ?_
  refine fs_i2l (by decide +kernel) ?_
  refine fs_lconst (n := 0) (v := 0) (by decide +kernel) (by decide) ?_
  refine fs_ldc2 (idx := 65) (q := 1013) (v := 5) (by decide +kernel) (by decide +kernel) ?_
  exact fe_callS (idx := 67) (kd := 0) (n := 3) (wp := 1014) (q := (1015, 0)) (as := [.long x1.toInt64, .long 0, .long 5]) (rs := []) (by decide +kernel) (by decide +kernel) (by decide +kernel) (by decide) rfl (Nat.le_of_ble_eq_true rfl) rfl hc nx
theorem b136_9 {d : Nat} {x1 : Int32} {x2 : Int32} {x3 : Int32} {sx0 : Int32} {S : fm_S} {r : Option Value × am_W} (kt : sx0 = 0 → am_Ev d 136 36 [some (.ref 231), some (.int x1), some (.int x2), some (.int x3)] [] (fm_mk S) r) (kf : ¬ sx0 = 0 → am_Ev d 136 12 [some (.ref 231), some (.int x1), some (.int x2), some (.int x3)] [] (fm_mk S) r) : am_Ev d 136 9 [some (.ref 231), some (.int x1), some (.int x2), some (.int x3)] [.int sx0] (fm_mk S) r := by
  exact fs_ifeq (off := 27) (tgt := 36) (by decide +kernel) (by decide) kt kf
theorem b136_12 {d : Nat} {x1 : Int32} {x2 : Int32} {x3 : Int32} {v : Int32} {S1 : fm_S} {S : fm_S} {r : Option Value × am_W} (hc : am_Sp d 137 [.long x2.toInt64, .long 0, .long 9] (fm_mk S) (some (.int v)) (fm_mk S1)) (nx : am_Ev (d + 1) 136 21 [some (.ref 231), some (.int x1), some (.int x2), some (.int x3)] [.int v] (fm_mk S1) r) : am_Ev (d + 1) 136 12 [some (.ref 231), some (.int x1), some (.int x2), some (.int x3)] [] (fm_mk S) r := by
  refine fs_iloadn (j := 2) (by decide +kernel) rfl ?_
  refine fs_i2l (by decide +kernel) ?_
  refine fs_lconst (n := 0) (v := 0) (by decide +kernel) (by decide) ?_
  refine fs_ldc2 (idx := 71) (q := 1017) (v := 9) (by decide +kernel) (by decide +kernel) ?_
  exact fe_callS (idx := 67) (kd := 0) (n := 3) (wp := 1014) (q := (1015, 0)) (as := [.long x2.toInt64, .long 0, .long 9]) (rs := []) (by decide +kernel) (by decide +kernel) (by decide +kernel) (by decide) rfl (Nat.le_of_ble_eq_true rfl) rfl hc nx
theorem b136_21 {d : Nat} {x1 : Int32} {x2 : Int32} {x3 : Int32} {sx0 : Int32} {S : fm_S} {r : Option Value × am_W} (kt : sx0 = 0 → am_Ev d 136 36 [some (.ref 231), some (.int x1), some (.int x2), some (.int x3)] [] (fm_mk S) r) (kf : ¬ sx0 = 0 → am_Ev d 136 24 [some (.ref 231), some (.int x1), some (.int x2), some (.int x3)] [] (fm_mk S) r) : am_Ev d 136 21 [some (.ref 231), some (.int x1), some (.int x2), some (.int x3)] [.int sx0] (fm_mk S) r := by
  exact fs_ifeq (off := 15) (tgt := 36) (by decide +kernel) (by decide) kt kf
theorem b136_24 {d : Nat} {x1 : Int32} {x2 : Int32} {x3 : Int32} {v : Int32} {S1 : fm_S} {S : fm_S} {r : Option Value × am_W} (hc : am_Sp d 137 [.long x3.toInt64, .long 0, .long 5] (fm_mk S) (some (.int v)) (fm_mk S1)) (nx : am_Ev (d + 1) 136 33 [some (.ref 231), some (.int x1), some (.int x2), some (.int x3)] [.int v] (fm_mk S1) r) : am_Ev (d + 1) 136 24 [some (.ref 231), some (.int x1), some (.int x2), some (.int x3)] [] (fm_mk S) r := by
  refine fs_iloadn (j := 3) (by decide +kernel) rfl ?_
  refine fs_i2l (by decide +kernel) ?_
  refine fs_lconst (n := 0) (v := 0) (by decide +kernel) (by decide) ?_
  refine fs_ldc2 (idx := 65) (q := 1013) (v := 5) (by decide +kernel) (by decide +kernel) ?_
  exact fe_callS (idx := 67) (kd := 0) (n := 3) (wp := 1014) (q := (1015, 0)) (as := [.long x3.toInt64, .long 0, .long 5]) (rs := []) (by decide +kernel) (by decide +kernel) (by decide +kernel) (by decide) rfl (Nat.le_of_ble_eq_true rfl) rfl hc nx
theorem b136_33 {d : Nat} {x1 : Int32} {x2 : Int32} {x3 : Int32} {sx0 : Int32} {S : fm_S} {r : Option Value × am_W} (kt : ¬ sx0 = 0 → am_Ev d 136 41 [some (.ref 231), some (.int x1), some (.int x2), some (.int x3)] [] (fm_mk S) r) (kf : sx0 = 0 → am_Ev d 136 36 [some (.ref 231), some (.int x1), some (.int x2), some (.int x3)] [] (fm_mk S) r) : am_Ev d 136 33 [some (.ref 231), some (.int x1), some (.int x2), some (.int x3)] [.int sx0] (fm_mk S) r := by
  exact fs_ifne (off := 8) (tgt := 41) (by decide +kernel) (by decide) kt kf
theorem b136_36 {d : Nat} {x1 : Int32} {x2 : Int32} {x3 : Int32} {v : Int32} {S1 : fm_S} {S : fm_S} {r : Option Value × am_W} (hc : am_Sp d 138 [.ref 231] (fm_mk S) (some (.int v)) (fm_mk S1)) (nx : am_Ev (d + 1) 136 40 [some (.ref 231), some (.int x1), some (.int x2), some (.int x3)] [.int v] (fm_mk S1) r) : am_Ev (d + 1) 136 36 [some (.ref 231), some (.int x1), some (.int x2), some (.int x3)] [] (fm_mk S) r := by
  refine fs_aloadn (j := 0) (by decide +kernel) rfl ?_
  exact fe_callV (idx := 73) (n := 0) (wp := 1018) (q := (1020, 31)) (as := []) (rs := []) (by decide +kernel) (by decide +kernel) (by decide +kernel) (by decide +kernel) rfl (Nat.le_of_ble_eq_true rfl) rfl hc nx
theorem b136_40 {d : Nat} {x1 : Int32} {x2 : Int32} {x3 : Int32} {sx0 : Int32} {S : fm_S}  : am_Ev d 136 40 [some (.ref 231), some (.int x1), some (.int x2), some (.int x3)] [.int sx0] (fm_mk S) (some (.int sx0), fm_mk S) := by
  exact fe_retI (by decide +kernel) (by decide +kernel)
theorem b136_41 {d : Nat} {x1 : Int32} {x2 : Int32} {x3 : Int32} {S : fm_S} {r : Option Value × am_W} (kt : ¬ (S.1 232 0) = 8 → am_Ev d 136 57 [some (.ref 231), some (.int x1), some (.int x2), some (.int x3)] [] (fm_mk S) r) (kf : (S.1 232 0) = 8 → am_Ev d 136 52 [some (.ref 231), some (.int x1), some (.int x2), some (.int x3)] [] (fm_mk S) r) : am_Ev d 136 41 [some (.ref 231), some (.int x1), some (.int x2), some (.int x3)] [] (fm_mk S) r := by
  refine fs_aloadn (j := 0) (by decide +kernel) rfl ?_
  refine fe_getR (idx := 7) (t := 8) (f := 0) (fk := 2) (fin := 1) (wp := 943) (x := 232) (by decide +kernel) (by decide +kernel) (by decide +kernel) (by decide +kernel) (by decide +kernel) ?_
  refine fs_iconst (n := 0) (v := 0) (by decide +kernel) (by decide) ?_
  refine fx_iald (n := 0) (len := 373) (by decide +kernel) (by decide +kernel) (by decide +kernel) (vp_c (by decide) (by decide)) (by decide) ?_
  refine fs_bipush (n := 8) (v := 8) (by decide +kernel) (by decide) ?_
  exact fs_icne (off := 8) (tgt := 57) (by decide +kernel) (by decide) kt kf
theorem b136_52 {d : Nat} {x1 : Int32} {x2 : Int32} {x3 : Int32} {v : Int32} {S1 : fm_S} {S : fm_S} {r : Option Value × am_W} (hc : am_Sp d 139 [.ref 231] (fm_mk S) (some (.int v)) (fm_mk S1)) (nx : am_Ev (d + 1) 136 56 [some (.ref 231), some (.int x1), some (.int x2), some (.int x3)] [.int v] (fm_mk S1) r) : am_Ev (d + 1) 136 52 [some (.ref 231), some (.int x1), some (.int x2), some (.int x3)] [] (fm_mk S) r := by
  refine fs_aloadn (j := 0) (by decide +kernel) rfl ?_
  exact fe_callV (idx := 77) (n := 0) (wp := 1022) (q := (1024, 32)) (as := []) (rs := []) (by decide +kernel) (by decide +kernel) (by decide +kernel) (by decide +kernel) rfl (Nat.le_of_ble_eq_true rfl) rfl hc nx
theorem b136_56 {d : Nat} {x1 : Int32} {x2 : Int32} {x3 : Int32} {sx0 : Int32} {S : fm_S}  : am_Ev d 136 56 [some (.ref 231), some (.int x1), some (.int x2), some (.int x3)] [.int sx0] (fm_mk S) (some (.int sx0), fm_mk S) := by
  exact fe_retI (by decide +kernel) (by decide +kernel)
theorem b136_57 {d : Nat} {x1 : Int32} {x2 : Int32} {x3 : Int32} {S1 : fm_S} {S : fm_S} {r : Option Value × am_W} (hc : am_Sp d 140 [.ref 232, .int x1, .int x2, .int x3] (fm_mk S) (none) (fm_mk S1)) (nx : am_Ev (d + 1) 136 67 [some (.ref 231), some (.int x1), some (.int x2), some (.int x3)] [] (fm_mk S1) r) : am_Ev (d + 1) 136 57 [some (.ref 231), some (.int x1), some (.int x2), some (.int x3)] [] (fm_mk S) r := by
  refine fs_aloadn (j := 0) (by decide +kernel) rfl ?_
  refine fe_getR (idx := 7) (t := 8) (f := 0) (fk := 2) (fin := 1) (wp := 943) (x := 232) (by decide +kernel) (by decide +kernel) (by decide +kernel) (by decide +kernel) (by decide +kernel) ?_
  refine fs_iloadn (j := 1) (by decide +kernel) rfl ?_
  refine fs_iloadn (j := 2) (by decide +kernel) rfl ?_
  refine fs_iloadn (j := 3) (by decide +kernel) rfl ?_
  exact fe_callS (idx := 80) (kd := 0) (n := 4) (wp := 1026) (q := (1027, 0)) (as := [.ref 232, .int x1, .int x2, .int x3]) (rs := []) (by decide +kernel) (by decide +kernel) (by decide +kernel) (by decide) rfl (Nat.le_of_ble_eq_true rfl) rfl hc nx
theorem b136_67 {d : Nat} {x1 : Int32} {x2 : Int32} {x3 : Int32} {S : fm_S}  : am_Ev d 136 67 [some (.ref 231), some (.int x1), some (.int x2), some (.int x3)] [] (fm_mk S) (some (.int ((S.1 232 0) - 1)), fm_mk S) := by
  refine fs_aloadn (j := 0) (by decide +kernel) rfl ?_
  refine fe_getR (idx := 7) (t := 8) (f := 0) (fk := 2) (fin := 1) (wp := 943) (x := 232) (by decide +kernel) (by decide +kernel) (by decide +kernel) (by decide +kernel) (by decide +kernel) ?_
  refine fs_iconst (n := 0) (v := 0) (by decide +kernel) (by decide) ?_
  refine fx_iald (n := 0) (len := 373) (by decide +kernel) (by decide +kernel) (by decide +kernel) (vp_c (by decide) (by decide)) (by decide) ?_
  refine fs_iconst (n := 1) (v := 1) (by decide +kernel) (by decide) ?_
  refine fs_isub (by decide +kernel) ?_
  exact fe_retI (by decide +kernel) (by decide +kernel)
-- KitchenSiegeModel.in(JJJ)Z
theorem b137_0 {d : Nat} {y0 : Int64} {y2 : Int64} {y4 : Int64} {S : fm_S} {r : Option Value × am_W} (kt : (lg_cmp y0 y2) < 0 → am_Ev d 137 17 [some (.long y0), none, some (.long y2), none, some (.long y4), none] [] (fm_mk S) r) (kf : ¬ (lg_cmp y0 y2) < 0 → am_Ev d 137 6 [some (.long y0), none, some (.long y2), none, some (.long y4), none] [] (fm_mk S) r) : am_Ev d 137 0 [some (.long y0), none, some (.long y2), none, some (.long y4), none] [] (fm_mk S) r := by
  refine fs_lloadn (j := 0) (by decide +kernel) rfl ?_
  refine fs_lloadn (j := 2) (by decide +kernel) rfl ?_
  refine fs_lcmp (by decide +kernel) ?_
  exact fs_iflt (off := 14) (tgt := 17) (by decide +kernel) (by decide) kt kf
theorem b137_6 {d : Nat} {y0 : Int64} {y2 : Int64} {y4 : Int64} {S : fm_S} {r : Option Value × am_W} (kt : 0 < (lg_cmp y0 y4) → am_Ev d 137 17 [some (.long y0), none, some (.long y2), none, some (.long y4), none] [] (fm_mk S) r) (kf : ¬ 0 < (lg_cmp y0 y4) → am_Ev d 137 13 [some (.long y0), none, some (.long y2), none, some (.long y4), none] [] (fm_mk S) r) : am_Ev d 137 6 [some (.long y0), none, some (.long y2), none, some (.long y4), none] [] (fm_mk S) r := by
  refine fs_lloadn (j := 0) (by decide +kernel) rfl ?_
  refine fs_lload (j := 4) (by decide +kernel) rfl ?_
  refine fs_lcmp (by decide +kernel) ?_
  exact fs_ifgt (off := 7) (tgt := 17) (by decide +kernel) (by decide) kt kf
theorem b137_13 {d : Nat} {y0 : Int64} {y2 : Int64} {y4 : Int64} {S : fm_S} {r : Option Value × am_W} (nx : am_Ev d 137 18 [some (.long y0), none, some (.long y2), none, some (.long y4), none] [.int 1] (fm_mk S) r) : am_Ev d 137 13 [some (.long y0), none, some (.long y2), none, some (.long y4), none] [] (fm_mk S) r := by
  refine fs_iconst (n := 1) (v := 1) (by decide +kernel) (by decide) ?_
  refine fs_goto (off := 4) (tgt := 18) (by decide +kernel) (by decide) ?_
  exact nx
theorem b137_17 {d : Nat} {y0 : Int64} {y2 : Int64} {y4 : Int64} {S : fm_S} {r : Option Value × am_W} (nx : am_Ev d 137 18 [some (.long y0), none, some (.long y2), none, some (.long y4), none] [.int 0] (fm_mk S) r) : am_Ev d 137 17 [some (.long y0), none, some (.long y2), none, some (.long y4), none] [] (fm_mk S) r := by
  refine fs_iconst (n := 0) (v := 0) (by decide +kernel) (by decide) ?_
  exact nx
theorem b137_18 {d : Nat} {y0 : Int64} {y2 : Int64} {y4 : Int64} {sx0 : Int32} {S : fm_S}  (hz : sx0 = 0 ∨ sx0 = 1) : am_Ev d 137 18 [some (.long y0), none, some (.long y2), none, some (.long y4), none] [.int sx0] (fm_mk S) (some (.int sx0), fm_mk S) := by
  exact fe_retZ (by decide +kernel) (by decide +kernel) hz
-- KitchenSiegeModel.bad()I
theorem b138_0 {d : Nat} {S : fm_S}  : am_Ev d 138 0 [some (.ref 231)] [] (fm_mk S) (some (.int (-2)), fm_mk (fm_wI S 231 8 ((S.1 231 8) + 1))) := by
  refine fs_aloadn (j := 0) (by decide +kernel) rfl ?_
  refine fs_dup (by decide +kernel) rfl ?_
  refine fe_getI (idx := 55) (t := 8) (f := 8) (fk := 0) (fin := 0) (wp := 951) (by decide +kernel) (by decide +kernel) (by decide +kernel) (by decide +kernel) ?_
  refine fs_iconst (n := 1) (v := 1) (by decide +kernel) (by decide) ?_
  refine fs_iadd (by decide +kernel) ?_
  refine fe_putI (idx := 55) (t := 8) (f := 8) (wp := 951) (by decide +kernel) (by decide +kernel) (by decide +kernel) (by decide +kernel) ?_
  refine fs_bipush (n := -2) (v := (-2)) (by decide +kernel) (by decide) ?_
  exact fe_retI (by decide +kernel) (by decide +kernel)
-- KitchenSiegeModel.full()I
theorem b139_0 {d : Nat} {S : fm_S}  : am_Ev d 139 0 [some (.ref 231)] [] (fm_mk S) (some (.int (-4)), fm_mk (fm_wI S 231 10 ((S.1 231 10) + 1))) := by
  refine fs_aloadn (j := 0) (by decide +kernel) rfl ?_
  refine fs_dup (by decide +kernel) rfl ?_
  refine fe_getI (idx := 62) (t := 8) (f := 10) (fk := 0) (fin := 0) (wp := 953) (by decide +kernel) (by decide +kernel) (by decide +kernel) (by decide +kernel) ?_
  refine fs_iconst (n := 1) (v := 1) (by decide +kernel) (by decide) ?_
  refine fs_iadd (by decide +kernel) ?_
  refine fe_putI (idx := 62) (t := 8) (f := 10) (wp := 953) (by decide +kernel) (by decide +kernel) (by decide +kernel) (by decide +kernel) ?_
  refine fs_bipush (n := -4) (v := (-4)) (by decide +kernel) (by decide) ?_
  exact fe_retI (by decide +kernel) (by decide +kernel)
-- KitchenSiegeModel.addStreet([IIII)V
theorem b140_0 {d : Nat} {a0 : Nat} {x1 : Int32} {x2 : Int32} {x3 : Int32} {o4 : Option Value} {S : fm_S}  (h_a0 : fm_tg a0 = 100) (hi1 : vp_in 0 (fm_ln a0)) (hi2 : vp_in (5 + (S.1 a0 ((0 : Int32).toNatClampNeg))) (fm_ln a0)) (hi3 : vp_in (13 + (S.1 a0 ((0 : Int32).toNatClampNeg))) (fm_ln a0)) (hi4 : vp_in (21 + (S.1 a0 ((0 : Int32).toNatClampNeg))) (fm_ln a0)) (hi5 : vp_in (29 + (S.1 a0 ((0 : Int32).toNatClampNeg))) (fm_ln a0)) (hi6 : vp_in (37 + (S.1 a0 ((0 : Int32).toNatClampNeg))) (fm_ln a0)) (hi7 : vp_in (45 + (S.1 a0 ((0 : Int32).toNatClampNeg))) (fm_ln a0)) (hi8 : vp_in 3 (fm_ln a0)) : am_Ev d 140 0 [some (.ref a0), some (.int x1), some (.int x2), some (.int x3), o4] [] (fm_mk S) (none, fm_mk (fm_wI (fm_wI (fm_wI (fm_wI (fm_wI (fm_wI (fm_wI (fm_wI S a0 ((5 + (S.1 a0 ((0 : Int32).toNatClampNeg))).toNatClampNeg) x1) a0 ((13 + (S.1 a0 ((0 : Int32).toNatClampNeg))).toNatClampNeg) x2) a0 ((21 + (S.1 a0 ((0 : Int32).toNatClampNeg))).toNatClampNeg) x3) a0 ((29 + (S.1 a0 ((0 : Int32).toNatClampNeg))).toNatClampNeg) (-1)) a0 ((37 + (S.1 a0 ((0 : Int32).toNatClampNeg))).toNatClampNeg) (-1)) a0 ((45 + (S.1 a0 ((0 : Int32).toNatClampNeg))).toNatClampNeg) 0) a0 ((0 : Int32).toNatClampNeg) (((fm_wI (fm_wI (fm_wI (fm_wI (fm_wI (fm_wI S a0 ((5 + (S.1 a0 ((0 : Int32).toNatClampNeg))).toNatClampNeg) x1) a0 ((13 + (S.1 a0 ((0 : Int32).toNatClampNeg))).toNatClampNeg) x2) a0 ((21 + (S.1 a0 ((0 : Int32).toNatClampNeg))).toNatClampNeg) x3) a0 ((29 + (S.1 a0 ((0 : Int32).toNatClampNeg))).toNatClampNeg) (-1)) a0 ((37 + (S.1 a0 ((0 : Int32).toNatClampNeg))).toNatClampNeg) (-1)) a0 ((45 + (S.1 a0 ((0 : Int32).toNatClampNeg))).toNatClampNeg) 0).1 a0 ((0 : Int32).toNatClampNeg)) + 1)) a0 ((3 : Int32).toNatClampNeg) 0)) := by
  refine fs_aloadn (j := 0) (by decide +kernel) rfl ?_
  refine fs_iconst (n := 0) (v := 0) (by decide +kernel) (by decide) ?_
  refine fx_iald (n := (0 : Int32).toNatClampNeg) (len := fm_ln a0) (by decide +kernel) h_a0 rfl hi1 rfl ?_
  refine fs_istore (j := 4) (L' := [some (.ref a0), some (.int x1), some (.int x2), some (.int x3), some (.int (S.1 a0 ((0 : Int32).toNatClampNeg)))]) (by decide +kernel) (Nat.le_of_ble_eq_true rfl) rfl ?_
  refine fs_aloadn (j := 0) (by decide +kernel) rfl ?_
  refine fs_iconst (n := 5) (v := 5) (by decide +kernel) (by decide) ?_
  refine fs_iload (j := 4) (by decide +kernel) rfl ?_
  refine fs_iadd (by decide +kernel) ?_
  refine fs_iloadn (j := 1) (by decide +kernel) rfl ?_
  refine fx_iast (n := (5 + (S.1 a0 ((0 : Int32).toNatClampNeg))).toNatClampNeg) (len := fm_ln a0) (by decide +kernel) h_a0 rfl hi2 rfl ?_
  refine fs_aloadn (j := 0) (by decide +kernel) rfl ?_
  refine fs_bipush (n := 13) (v := 13) (by decide +kernel) (by decide) ?_
  refine fs_iload (j := 4) (by decide +kernel) rfl ?_
  refine fs_iadd (by decide +kernel) ?_
  refine fs_iloadn (j := 2) (by decide +kernel) rfl ?_
  refine fx_iast (n := (13 + (S.1 a0 ((0 : Int32).toNatClampNeg))).toNatClampNeg) (len := fm_ln a0) (by decide +kernel) h_a0 rfl hi3 rfl ?_
  refine fs_aloadn (j := 0) (by decide +kernel) rfl ?_
  refine fs_bipush (n := 21) (v := 21) (by decide +kernel) (by decide) ?_
  refine fs_iload (j := 4) (by decide +kernel) rfl ?_
  refine fs_iadd (by decide +kernel) ?_
  refine fs_iloadn (j := 3) (by decide +kernel) rfl ?_
  refine fx_iast (n := (21 + (S.1 a0 ((0 : Int32).toNatClampNeg))).toNatClampNeg) (len := fm_ln a0) (by decide +kernel) h_a0 rfl hi4 rfl ?_
  refine fs_aloadn (j := 0) (by decide +kernel) rfl ?_
  refine fs_bipush (n := 29) (v := 29) (by decide +kernel) (by decide) ?_
  refine fs_iload (j := 4) (by decide +kernel) rfl ?_
  refine fs_iadd (by decide +kernel) ?_
  refine fs_iconst (n := -1) (v := (-1)) (by decide +kernel) (by decide) ?_
  refine fx_iast (n := (29 + (S.1 a0 ((0 : Int32).toNatClampNeg))).toNatClampNeg) (len := fm_ln a0) (by decide +kernel) h_a0 rfl hi5 rfl ?_
  refine fs_aloadn (j := 0) (by decide +kernel) rfl ?_
  refine fs_bipush (n := 37) (v := 37) (by decide +kernel) (by decide) ?_
  refine fs_iload (j := 4) (by decide +kernel) rfl ?_
  refine fs_iadd (by decide +kernel) ?_
  refine fs_iconst (n := -1) (v := (-1)) (by decide +kernel) (by decide) ?_
  refine fx_iast (n := (37 + (S.1 a0 ((0 : Int32).toNatClampNeg))).toNatClampNeg) (len := fm_ln a0) (by decide +kernel) h_a0 rfl hi6 rfl ?_
  refine fs_aloadn (j := 0) (by decide +kernel) rfl ?_
  refine fs_bipush (n := 45) (v := 45) (by decide +kernel) (by decide) ?_
  refine fs_iload (j := 4) (by decide +kernel) rfl ?_
  refine fs_iadd (by decide +kernel) ?_
  refine fs_iconst (n := 0) (v := 0) (by decide +kernel) (by decide) ?_
  refine fx_iast (n := (45 + (S.1 a0 ((0 : Int32).toNatClampNeg))).toNatClampNeg) (len := fm_ln a0) (by decide +kernel) h_a0 rfl hi7 rfl ?_
  refine fs_aloadn (j := 0) (by decide +kernel) rfl ?_
  refine fs_iconst (n := 0) (v := 0) (by decide +kernel) (by decide) ?_
  refine fs_dup2 (by decide +kernel) ⟨rfl, rfl⟩ ?_
  refine fx_iald (n := (0 : Int32).toNatClampNeg) (len := fm_ln a0) (by decide +kernel) h_a0 rfl hi1 rfl ?_
  refine fs_iconst (n := 1) (v := 1) (by decide +kernel) (by decide) ?_
  refine fs_iadd (by decide +kernel) ?_
  refine fx_iast (n := (0 : Int32).toNatClampNeg) (len := fm_ln a0) (by decide +kernel) h_a0 rfl hi1 rfl ?_
  refine fs_aloadn (j := 0) (by decide +kernel) rfl ?_
  refine fs_iconst (n := 3) (v := 3) (by decide +kernel) (by decide) ?_
  refine fs_iconst (n := 0) (v := 0) (by decide +kernel) (by decide) ?_
  refine fx_iast (n := (3 : Int32).toNatClampNeg) (len := fm_ln a0) (by decide +kernel) h_a0 rfl hi8 rfl ?_
  exact fe_retV (by decide +kernel) (by decide +kernel)
-- KitchenSiegeModel.lane(II)I
theorem b141_0 {d : Nat} {x1 : Int32} {x2 : Int32} {v : Int32} {S1 : fm_S} {S : fm_S} {r : Option Value × am_W} (hc : am_Sp d 142 [.ref 231, .int x1] (fm_mk S) (some (.int v)) (fm_mk S1)) (nx : am_Ev (d + 1) 141 5 [some (.ref 231), some (.int x1), some (.int x2)] [.int v] (fm_mk S1) r) : am_Ev (d + 1) 141 0 [some (.ref 231), some (.int x1), some (.int x2)] [] (fm_mk S) r := by
  refine fs_aloadn (j := 0) (by decide +kernel) rfl ?_
  refine fs_iloadn (j := 1) (by decide +kernel) rfl ?_
  exact fe_callV (idx := 84) (n := 1) (wp := 1033) (q := (1035, 33)) (as := [.int x1]) (rs := []) (by decide +kernel) (by decide +kernel) (by decide +kernel) (by decide +kernel) rfl (Nat.le_of_ble_eq_true rfl) rfl hc nx
theorem b141_5 {d : Nat} {x1 : Int32} {x2 : Int32} {sx0 : Int32} {S : fm_S} {r : Option Value × am_W} (kt : sx0 = 0 → am_Ev d 141 21 [some (.ref 231), some (.int x1), some (.int x2)] [] (fm_mk S) r) (kf : ¬ sx0 = 0 → am_Ev d 141 8 [some (.ref 231), some (.int x1), some (.int x2)] [] (fm_mk S) r) : am_Ev d 141 5 [some (.ref 231), some (.int x1), some (.int x2)] [.int sx0] (fm_mk S) r := by
  exact fs_ifeq (off := 16) (tgt := 21) (by decide +kernel) (by decide) kt kf
theorem b141_8 {d : Nat} {x1 : Int32} {x2 : Int32} {v : Int32} {S1 : fm_S} {S : fm_S} {r : Option Value × am_W} (hc : am_Sp d 142 [.ref 231, .int x2] (fm_mk S) (some (.int v)) (fm_mk S1)) (nx : am_Ev (d + 1) 141 13 [some (.ref 231), some (.int x1), some (.int x2)] [.int v] (fm_mk S1) r) : am_Ev (d + 1) 141 8 [some (.ref 231), some (.int x1), some (.int x2)] [] (fm_mk S) r := by
  refine fs_aloadn (j := 0) (by decide +kernel) rfl ?_
  refine fs_iloadn (j := 2) (by decide +kernel) rfl ?_
  exact fe_callV (idx := 84) (n := 1) (wp := 1033) (q := (1035, 33)) (as := [.int x2]) (rs := []) (by decide +kernel) (by decide +kernel) (by decide +kernel) (by decide +kernel) rfl (Nat.le_of_ble_eq_true rfl) rfl hc nx
theorem b141_13 {d : Nat} {x1 : Int32} {x2 : Int32} {sx0 : Int32} {S : fm_S} {r : Option Value × am_W} (kt : sx0 = 0 → am_Ev d 141 21 [some (.ref 231), some (.int x1), some (.int x2)] [] (fm_mk S) r) (kf : ¬ sx0 = 0 → am_Ev d 141 16 [some (.ref 231), some (.int x1), some (.int x2)] [] (fm_mk S) r) : am_Ev d 141 13 [some (.ref 231), some (.int x1), some (.int x2)] [.int sx0] (fm_mk S) r := by
  exact fs_ifeq (off := 8) (tgt := 21) (by decide +kernel) (by decide) kt kf
theorem b141_16 {d : Nat} {x1 : Int32} {x2 : Int32} {S : fm_S} {r : Option Value × am_W} (kt : ¬ x1 = x2 → am_Ev d 141 26 [some (.ref 231), some (.int x1), some (.int x2)] [] (fm_mk S) r) (kf : x1 = x2 → am_Ev d 141 21 [some (.ref 231), some (.int x1), some (.int x2)] [] (fm_mk S) r) : am_Ev d 141 16 [some (.ref 231), some (.int x1), some (.int x2)] [] (fm_mk S) r := by
  refine fs_iloadn (j := 1) (by decide +kernel) rfl ?_
  refine fs_iloadn (j := 2) (by decide +kernel) rfl ?_
  exact fs_icne (off := 8) (tgt := 26) (by decide +kernel) (by decide) kt kf
theorem b141_21 {d : Nat} {x1 : Int32} {x2 : Int32} {v : Int32} {S1 : fm_S} {S : fm_S} {r : Option Value × am_W} (hc : am_Sp d 138 [.ref 231] (fm_mk S) (some (.int v)) (fm_mk S1)) (nx : am_Ev (d + 1) 141 25 [some (.ref 231), some (.int x1), some (.int x2)] [.int v] (fm_mk S1) r) : am_Ev (d + 1) 141 21 [some (.ref 231), some (.int x1), some (.int x2)] [] (fm_mk S) r := by
  refine fs_aloadn (j := 0) (by decide +kernel) rfl ?_
  exact fe_callV (idx := 73) (n := 0) (wp := 1018) (q := (1020, 31)) (as := []) (rs := []) (by decide +kernel) (by decide +kernel) (by decide +kernel) (by decide +kernel) rfl (Nat.le_of_ble_eq_true rfl) rfl hc nx
theorem b141_25 {d : Nat} {x1 : Int32} {x2 : Int32} {sx0 : Int32} {S : fm_S}  : am_Ev d 141 25 [some (.ref 231), some (.int x1), some (.int x2)] [.int sx0] (fm_mk S) (some (.int sx0), fm_mk S) := by
  exact fe_retI (by decide +kernel) (by decide +kernel)
theorem b141_26 {d : Nat} {x1 : Int32} {x2 : Int32} {S : fm_S} {r : Option Value × am_W} (hi0 : vp_in ((53 + (8 * x1)) + x2) 373) (kt : ¬ (S.1 232 (((53 + (8 * x1)) + x2).toNatClampNeg)) = 1 → am_Ev d 141 49 [some (.ref 231), some (.int x1), some (.int x2)] [] (fm_mk S) r) (kf : (S.1 232 (((53 + (8 * x1)) + x2).toNatClampNeg)) = 1 → am_Ev d 141 44 [some (.ref 231), some (.int x1), some (.int x2)] [] (fm_mk S) r) : am_Ev d 141 26 [some (.ref 231), some (.int x1), some (.int x2)] [] (fm_mk S) r := by
  refine fs_aloadn (j := 0) (by decide +kernel) rfl ?_
  refine fe_getR (idx := 7) (t := 8) (f := 0) (fk := 2) (fin := 1) (wp := 943) (x := 232) (by decide +kernel) (by decide +kernel) (by decide +kernel) (by decide +kernel) (by decide +kernel) ?_
  refine fs_bipush (n := 53) (v := 53) (by decide +kernel) (by decide) ?_
  refine fs_bipush (n := 8) (v := 8) (by decide +kernel) (by decide) ?_
  refine fs_iloadn (j := 1) (by decide +kernel) rfl ?_
  refine fs_imul (by decide +kernel) ?_
  refine fs_iadd (by decide +kernel) ?_
  refine fs_iloadn (j := 2) (by decide +kernel) rfl ?_
  refine fs_iadd (by decide +kernel) ?_
  refine fx_iald (n := ((53 + (8 * x1)) + x2).toNatClampNeg) (len := 373) (by decide +kernel) (by decide +kernel) (by decide +kernel) hi0 rfl ?_
  refine fs_iconst (n := 1) (v := 1) (by decide +kernel) (by decide) ?_
  exact fs_icne (off := 8) (tgt := 49) (by decide +kernel) (by decide) kt kf
theorem b141_44 {d : Nat} {x1 : Int32} {x2 : Int32} {v : Int32} {S1 : fm_S} {S : fm_S} {r : Option Value × am_W} (hc : am_Sp d 143 [.ref 231] (fm_mk S) (some (.int v)) (fm_mk S1)) (nx : am_Ev (d + 1) 141 48 [some (.ref 231), some (.int x1), some (.int x2)] [.int v] (fm_mk S1) r) : am_Ev (d + 1) 141 44 [some (.ref 231), some (.int x1), some (.int x2)] [] (fm_mk S) r := by
  refine fs_aloadn (j := 0) (by decide +kernel) rfl ?_
  exact fe_callV (idx := 88) (n := 0) (wp := 1037) (q := (1039, 34)) (as := []) (rs := []) (by decide +kernel) (by decide +kernel) (by decide +kernel) (by decide +kernel) rfl (Nat.le_of_ble_eq_true rfl) rfl hc nx
theorem b141_48 {d : Nat} {x1 : Int32} {x2 : Int32} {sx0 : Int32} {S : fm_S}  : am_Ev d 141 48 [some (.ref 231), some (.int x1), some (.int x2)] [.int sx0] (fm_mk S) (some (.int sx0), fm_mk S) := by
  exact fe_retI (by decide +kernel) (by decide +kernel)
theorem b141_49 {d : Nat} {x1 : Int32} {x2 : Int32} {S1 : fm_S} {S : fm_S} {r : Option Value × am_W} (hc : am_Sp d 144 [.ref 232, .int x1, .int x2] (fm_mk S) (none) (fm_mk S1)) (nx : am_Ev (d + 1) 141 58 [some (.ref 231), some (.int x1), some (.int x2)] [] (fm_mk S1) r) : am_Ev (d + 1) 141 49 [some (.ref 231), some (.int x1), some (.int x2)] [] (fm_mk S) r := by
  refine fs_aloadn (j := 0) (by decide +kernel) rfl ?_
  refine fe_getR (idx := 7) (t := 8) (f := 0) (fk := 2) (fin := 1) (wp := 943) (x := 232) (by decide +kernel) (by decide +kernel) (by decide +kernel) (by decide +kernel) (by decide +kernel) ?_
  refine fs_iloadn (j := 1) (by decide +kernel) rfl ?_
  refine fs_iloadn (j := 2) (by decide +kernel) rfl ?_
  exact fe_callS (idx := 91) (kd := 0) (n := 3) (wp := 1041) (q := (1042, 0)) (as := [.ref 232, .int x1, .int x2]) (rs := []) (by decide +kernel) (by decide +kernel) (by decide +kernel) (by decide) rfl (Nat.le_of_ble_eq_true rfl) rfl hc nx
theorem b141_58 {d : Nat} {x1 : Int32} {x2 : Int32} {S : fm_S}  : am_Ev d 141 58 [some (.ref 231), some (.int x1), some (.int x2)] [] (fm_mk S) (some (.int 1), fm_mk S) := by
  refine fs_iconst (n := 1) (v := 1) (by decide +kernel) (by decide) ?_
  exact fe_retI (by decide +kernel) (by decide +kernel)
-- KitchenSiegeModel.isStreet(I)Z
theorem b142_0 {d : Nat} {x1 : Int32} {v : Int32} {S1 : fm_S} {S : fm_S} {r : Option Value × am_W} (hc : am_Sp d 137 [.long x1.toInt64, .long 0, .long (((S.1 232 0) - 1).toInt64)] (fm_mk S) (some (.int v)) (fm_mk S1)) (nx : am_Ev (d + 1) 142 15 [some (.ref 231), some (.int x1)] [.int v] (fm_mk S1) r) : am_Ev (d + 1) 142 0 [some (.ref 231), some (.int x1)] [] (fm_mk S) r := by
  refine fs_iloadn (j := 1) (by decide +kernel) rfl ?_
  refine fs_i2l (by decide +kernel) ?_
  refine fs_lconst (n := 0) (v := 0) (by decide +kernel) (by decide) ?_
  refine fs_aloadn (j := 0) (by decide +kernel) rfl ?_
  refine fe_getR (idx := 7) (t := 8) (f := 0) (fk := 2) (fin := 1) (wp := 943) (x := 232) (by decide +kernel) (by decide +kernel) (by decide +kernel) (by decide +kernel) (by decide +kernel) ?_
  refine fs_iconst (n := 0) (v := 0) (by decide +kernel) (by decide) ?_
  refine fx_iald (n := 0) (len := 373) (by decide +kernel) (by decide +kernel) (by decide +kernel) (vp_c (by decide) (by decide)) (by decide) ?_
  refine fs_iconst (n := 1) (v := 1) (by decide +kernel) (by decide) ?_
  refine fs_isub (by decide +kernel) ?_
  refine fs_i2l (by decide +kernel) ?_
  exact fe_callS (idx := 67) (kd := 0) (n := 3) (wp := 1014) (q := (1015, 0)) (as := [.long x1.toInt64, .long 0, .long (((S.1 232 0) - 1).toInt64)]) (rs := []) (by decide +kernel) (by decide +kernel) (by decide +kernel) (by decide) rfl (Nat.le_of_ble_eq_true rfl) rfl hc nx
theorem b142_15 {d : Nat} {x1 : Int32} {sx0 : Int32} {S : fm_S}  (hz : sx0 = 0 ∨ sx0 = 1) : am_Ev d 142 15 [some (.ref 231), some (.int x1)] [.int sx0] (fm_mk S) (some (.int sx0), fm_mk S) := by
  exact fe_retZ (by decide +kernel) (by decide +kernel) hz
-- KitchenSiegeModel.no()I
theorem b143_0 {d : Nat} {S : fm_S}  : am_Ev d 143 0 [some (.ref 231)] [] (fm_mk S) (some (.int (-3)), fm_mk (fm_wI S 231 9 ((S.1 231 9) + 1))) := by
  refine fs_aloadn (j := 0) (by decide +kernel) rfl ?_
  refine fs_dup (by decide +kernel) rfl ?_
  refine fe_getI (idx := 59) (t := 8) (f := 9) (fk := 0) (fin := 0) (wp := 952) (by decide +kernel) (by decide +kernel) (by decide +kernel) (by decide +kernel) ?_
  refine fs_iconst (n := 1) (v := 1) (by decide +kernel) (by decide) ?_
  refine fs_iadd (by decide +kernel) ?_
  refine fe_putI (idx := 59) (t := 8) (f := 9) (wp := 952) (by decide +kernel) (by decide +kernel) (by decide +kernel) (by decide +kernel) ?_
  refine fs_bipush (n := -3) (v := (-3)) (by decide +kernel) (by decide) ?_
  exact fe_retI (by decide +kernel) (by decide +kernel)
-- KitchenSiegeModel.addLane([III)V
theorem b144_0 {d : Nat} {a0 : Nat} {x1 : Int32} {x2 : Int32} {S : fm_S}  (h_a0 : fm_tg a0 = 100) (hi1 : vp_in ((53 + (8 * x1)) + x2) (fm_ln a0)) (hi2 : vp_in ((53 + (8 * x2)) + x1) (fm_ln a0)) : am_Ev d 144 0 [some (.ref a0), some (.int x1), some (.int x2)] [] (fm_mk S) (none, fm_mk (fm_wI (fm_wI S a0 (((53 + (8 * x1)) + x2).toNatClampNeg) 1) a0 (((53 + (8 * x2)) + x1).toNatClampNeg) 1)) := by
  refine fs_aloadn (j := 0) (by decide +kernel) rfl ?_
  refine fs_bipush (n := 53) (v := 53) (by decide +kernel) (by decide) ?_
  refine fs_bipush (n := 8) (v := 8) (by decide +kernel) (by decide) ?_
  refine fs_iloadn (j := 1) (by decide +kernel) rfl ?_
  refine fs_imul (by decide +kernel) ?_
  refine fs_iadd (by decide +kernel) ?_
  refine fs_iloadn (j := 2) (by decide +kernel) rfl ?_
  refine fs_iadd (by decide +kernel) ?_
  refine fs_iconst (n := 1) (v := 1) (by decide +kernel) (by decide) ?_
  refine fx_iast (n := ((53 + (8 * x1)) + x2).toNatClampNeg) (len := fm_ln a0) (by decide +kernel) h_a0 rfl hi1 rfl ?_
  refine fs_aloadn (j := 0) (by decide +kernel) rfl ?_
  refine fs_bipush (n := 53) (v := 53) (by decide +kernel) (by decide) ?_
  refine fs_bipush (n := 8) (v := 8) (by decide +kernel) (by decide) ?_
  refine fs_iloadn (j := 2) (by decide +kernel) rfl ?_
  refine fs_imul (by decide +kernel) ?_
  refine fs_iadd (by decide +kernel) ?_
  refine fs_iloadn (j := 1) (by decide +kernel) rfl ?_
  refine fs_iadd (by decide +kernel) ?_
  refine fs_iconst (n := 1) (v := 1) (by decide +kernel) (by decide) ?_
  refine fx_iast (n := ((53 + (8 * x2)) + x1).toNatClampNeg) (len := fm_ln a0) (by decide +kernel) h_a0 rfl hi2 rfl ?_
  exact fe_retV (by decide +kernel) (by decide +kernel)
-- KitchenSiegeModel.gate(II)I
theorem b145_0 {d : Nat} {x1 : Int32} {x2 : Int32} {o3 : Option Value} {v : Int32} {S1 : fm_S} {S : fm_S} {r : Option Value × am_W} (hc : am_Sp d 137 [.long x1.toInt64, .long 0, .long 3] (fm_mk S) (some (.int v)) (fm_mk S1)) (nx : am_Ev (d + 1) 145 9 [some (.ref 231), some (.int x1), some (.int x2), o3] [.int v] (fm_mk S1) r) : am_Ev (d + 1) 145 0 [some (.ref 231), some (.int x1), some (.int x2), o3] [] (fm_mk S) r := by
  refine fs_iloadn (j := 1) (by decide +kernel) rfl ?_
  refine fs_i2l (by decide +kernel) ?_
  refine fs_lconst (n := 0) (v := 0) (by decide +kernel) (by decide) ?_
  refine fs_ldc2 (idx := 95) (q := 1048) (v := 3) (by decide +kernel) (by decide +kernel) ?_
  exact fe_callS (idx := 67) (kd := 0) (n := 3) (wp := 1014) (q := (1015, 0)) (as := [.long x1.toInt64, .long 0, .long 3]) (rs := []) (by decide +kernel) (by decide +kernel) (by decide +kernel) (by decide) rfl (Nat.le_of_ble_eq_true rfl) rfl hc nx
theorem b145_9 {d : Nat} {x1 : Int32} {x2 : Int32} {o3 : Option Value} {sx0 : Int32} {S : fm_S} {r : Option Value × am_W} (kt : sx0 = 0 → am_Ev d 145 20 [some (.ref 231), some (.int x1), some (.int x2), o3] [] (fm_mk S) r) (kf : ¬ sx0 = 0 → am_Ev d 145 12 [some (.ref 231), some (.int x1), some (.int x2), o3] [] (fm_mk S) r) : am_Ev d 145 9 [some (.ref 231), some (.int x1), some (.int x2), o3] [.int sx0] (fm_mk S) r := by
  exact fs_ifeq (off := 11) (tgt := 20) (by decide +kernel) (by decide) kt kf
theorem b145_12 {d : Nat} {x1 : Int32} {x2 : Int32} {o3 : Option Value} {v : Int32} {S1 : fm_S} {S : fm_S} {r : Option Value × am_W} (hc : am_Sp d 142 [.ref 231, .int x2] (fm_mk S) (some (.int v)) (fm_mk S1)) (nx : am_Ev (d + 1) 145 17 [some (.ref 231), some (.int x1), some (.int x2), o3] [.int v] (fm_mk S1) r) : am_Ev (d + 1) 145 12 [some (.ref 231), some (.int x1), some (.int x2), o3] [] (fm_mk S) r := by
  refine fs_aloadn (j := 0) (by decide +kernel) rfl ?_
  refine fs_iloadn (j := 2) (by decide +kernel) rfl ?_
  exact fe_callV (idx := 84) (n := 1) (wp := 1033) (q := (1035, 33)) (as := [.int x2]) (rs := []) (by decide +kernel) (by decide +kernel) (by decide +kernel) (by decide +kernel) rfl (Nat.le_of_ble_eq_true rfl) rfl hc nx
theorem b145_17 {d : Nat} {x1 : Int32} {x2 : Int32} {o3 : Option Value} {sx0 : Int32} {S : fm_S} {r : Option Value × am_W} (kt : ¬ sx0 = 0 → am_Ev d 145 25 [some (.ref 231), some (.int x1), some (.int x2), o3] [] (fm_mk S) r) (kf : sx0 = 0 → am_Ev d 145 20 [some (.ref 231), some (.int x1), some (.int x2), o3] [] (fm_mk S) r) : am_Ev d 145 17 [some (.ref 231), some (.int x1), some (.int x2), o3] [.int sx0] (fm_mk S) r := by
  exact fs_ifne (off := 8) (tgt := 25) (by decide +kernel) (by decide) kt kf
theorem b145_20 {d : Nat} {x1 : Int32} {x2 : Int32} {o3 : Option Value} {v : Int32} {S1 : fm_S} {S : fm_S} {r : Option Value × am_W} (hc : am_Sp d 138 [.ref 231] (fm_mk S) (some (.int v)) (fm_mk S1)) (nx : am_Ev (d + 1) 145 24 [some (.ref 231), some (.int x1), some (.int x2), o3] [.int v] (fm_mk S1) r) : am_Ev (d + 1) 145 20 [some (.ref 231), some (.int x1), some (.int x2), o3] [] (fm_mk S) r := by
  refine fs_aloadn (j := 0) (by decide +kernel) rfl ?_
  exact fe_callV (idx := 73) (n := 0) (wp := 1018) (q := (1020, 31)) (as := []) (rs := []) (by decide +kernel) (by decide +kernel) (by decide +kernel) (by decide +kernel) rfl (Nat.le_of_ble_eq_true rfl) rfl hc nx
theorem b145_24 {d : Nat} {x1 : Int32} {x2 : Int32} {o3 : Option Value} {sx0 : Int32} {S : fm_S}  : am_Ev d 145 24 [some (.ref 231), some (.int x1), some (.int x2), o3] [.int sx0] (fm_mk S) (some (.int sx0), fm_mk S) := by
  exact fe_retI (by decide +kernel) (by decide +kernel)
theorem b145_25 {d : Nat} {x1 : Int32} {x2 : Int32} {o3 : Option Value} {S : fm_S}  (hi0 : vp_in (117 + x1) 373) : am_Ev d 145 25 [some (.ref 231), some (.int x1), some (.int x2), o3] [] (fm_mk S) (some (.int (S.1 232 ((117 + x1).toNatClampNeg))), fm_mk (fm_wI S 232 ((117 + x1).toNatClampNeg) x2)) := by
  refine fs_aloadn (j := 0) (by decide +kernel) rfl ?_
  refine fe_getR (idx := 7) (t := 8) (f := 0) (fk := 2) (fin := 1) (wp := 943) (x := 232) (by decide +kernel) (by decide +kernel) (by decide +kernel) (by decide +kernel) (by decide +kernel) ?_
  refine fs_bipush (n := 117) (v := 117) (by decide +kernel) (by decide) ?_
  refine fs_iloadn (j := 1) (by decide +kernel) rfl ?_
  refine fs_iadd (by decide +kernel) ?_
  refine fx_iald (n := (117 + x1).toNatClampNeg) (len := 373) (by decide +kernel) (by decide +kernel) (by decide +kernel) hi0 rfl ?_
  refine fs_istoren (j := 3) (L' := [some (.ref 231), some (.int x1), some (.int x2), some (.int (S.1 232 ((117 + x1).toNatClampNeg)))]) (by decide +kernel) (Nat.le_of_ble_eq_true rfl) rfl ?_
  refine fs_aloadn (j := 0) (by decide +kernel) rfl ?_
  refine fe_getR (idx := 7) (t := 8) (f := 0) (fk := 2) (fin := 1) (wp := 943) (x := 232) (by decide +kernel) (by decide +kernel) (by decide +kernel) (by decide +kernel) (by decide +kernel) ?_
  refine fs_bipush (n := 117) (v := 117) (by decide +kernel) (by decide) ?_
  refine fs_iloadn (j := 1) (by decide +kernel) rfl ?_
  refine fs_iadd (by decide +kernel) ?_
  refine fs_iloadn (j := 2) (by decide +kernel) rfl ?_
  refine fx_iast (n := (117 + x1).toNatClampNeg) (len := 373) (by decide +kernel) (by decide +kernel) (by decide +kernel) hi0 rfl ?_
  refine fs_iloadn (j := 3) (by decide +kernel) rfl ?_
  exact fe_retI (by decide +kernel) (by decide +kernel)
-- KitchenSiegeModel.wind(II)I
theorem b146_0 {d : Nat} {x1 : Int32} {x2 : Int32} {o3 : Option Value} {v : Int32} {S1 : fm_S} {S : fm_S} {r : Option Value × am_W} (hc : am_Sp d 137 [.long x1.toInt64, .long 0, .long 3] (fm_mk S) (some (.int v)) (fm_mk S1)) (nx : am_Ev (d + 1) 146 9 [some (.ref 231), some (.int x1), some (.int x2), o3] [.int v] (fm_mk S1) r) : am_Ev (d + 1) 146 0 [some (.ref 231), some (.int x1), some (.int x2), o3] [] (fm_mk S) r := by
  refine fs_iloadn (j := 1) (by decide +kernel) rfl ?_
  refine fs_i2l (by decide +kernel) ?_
  refine fs_lconst (n := 0) (v := 0) (by decide +kernel) (by decide) ?_
  refine fs_ldc2 (idx := 95) (q := 1048) (v := 3) (by decide +kernel) (by decide +kernel) ?_
  exact fe_callS (idx := 67) (kd := 0) (n := 3) (wp := 1014) (q := (1015, 0)) (as := [.long x1.toInt64, .long 0, .long 3]) (rs := []) (by decide +kernel) (by decide +kernel) (by decide +kernel) (by decide) rfl (Nat.le_of_ble_eq_true rfl) rfl hc nx
theorem b146_9 {d : Nat} {x1 : Int32} {x2 : Int32} {o3 : Option Value} {sx0 : Int32} {S : fm_S} {r : Option Value × am_W} (kt : sx0 = 0 → am_Ev d 146 24 [some (.ref 231), some (.int x1), some (.int x2), o3] [] (fm_mk S) r) (kf : ¬ sx0 = 0 → am_Ev d 146 12 [some (.ref 231), some (.int x1), some (.int x2), o3] [] (fm_mk S) r) : am_Ev d 146 9 [some (.ref 231), some (.int x1), some (.int x2), o3] [.int sx0] (fm_mk S) r := by
  exact fs_ifeq (off := 15) (tgt := 24) (by decide +kernel) (by decide) kt kf
theorem b146_12 {d : Nat} {x1 : Int32} {x2 : Int32} {o3 : Option Value} {v : Int32} {S1 : fm_S} {S : fm_S} {r : Option Value × am_W} (hc : am_Sp d 137 [.long x2.toInt64, .long 0, .long 3] (fm_mk S) (some (.int v)) (fm_mk S1)) (nx : am_Ev (d + 1) 146 21 [some (.ref 231), some (.int x1), some (.int x2), o3] [.int v] (fm_mk S1) r) : am_Ev (d + 1) 146 12 [some (.ref 231), some (.int x1), some (.int x2), o3] [] (fm_mk S) r := by
  refine fs_iloadn (j := 2) (by decide +kernel) rfl ?_
  refine fs_i2l (by decide +kernel) ?_
  refine fs_lconst (n := 0) (v := 0) (by decide +kernel) (by decide) ?_
  refine fs_ldc2 (idx := 95) (q := 1048) (v := 3) (by decide +kernel) (by decide +kernel) ?_
  exact fe_callS (idx := 67) (kd := 0) (n := 3) (wp := 1014) (q := (1015, 0)) (as := [.long x2.toInt64, .long 0, .long 3]) (rs := []) (by decide +kernel) (by decide +kernel) (by decide +kernel) (by decide) rfl (Nat.le_of_ble_eq_true rfl) rfl hc nx
theorem b146_21 {d : Nat} {x1 : Int32} {x2 : Int32} {o3 : Option Value} {sx0 : Int32} {S : fm_S} {r : Option Value × am_W} (kt : ¬ sx0 = 0 → am_Ev d 146 29 [some (.ref 231), some (.int x1), some (.int x2), o3] [] (fm_mk S) r) (kf : sx0 = 0 → am_Ev d 146 24 [some (.ref 231), some (.int x1), some (.int x2), o3] [] (fm_mk S) r) : am_Ev d 146 21 [some (.ref 231), some (.int x1), some (.int x2), o3] [.int sx0] (fm_mk S) r := by
  exact fs_ifne (off := 8) (tgt := 29) (by decide +kernel) (by decide) kt kf
theorem b146_24 {d : Nat} {x1 : Int32} {x2 : Int32} {o3 : Option Value} {v : Int32} {S1 : fm_S} {S : fm_S} {r : Option Value × am_W} (hc : am_Sp d 138 [.ref 231] (fm_mk S) (some (.int v)) (fm_mk S1)) (nx : am_Ev (d + 1) 146 28 [some (.ref 231), some (.int x1), some (.int x2), o3] [.int v] (fm_mk S1) r) : am_Ev (d + 1) 146 24 [some (.ref 231), some (.int x1), some (.int x2), o3] [] (fm_mk S) r := by
  refine fs_aloadn (j := 0) (by decide +kernel) rfl ?_
  exact fe_callV (idx := 73) (n := 0) (wp := 1018) (q := (1020, 31)) (as := []) (rs := []) (by decide +kernel) (by decide +kernel) (by decide +kernel) (by decide +kernel) rfl (Nat.le_of_ble_eq_true rfl) rfl hc nx
theorem b146_28 {d : Nat} {x1 : Int32} {x2 : Int32} {o3 : Option Value} {sx0 : Int32} {S : fm_S}  : am_Ev d 146 28 [some (.ref 231), some (.int x1), some (.int x2), o3] [.int sx0] (fm_mk S) (some (.int sx0), fm_mk S) := by
  exact fe_retI (by decide +kernel) (by decide +kernel)
theorem b146_29 {d : Nat} {x1 : Int32} {x2 : Int32} {o3 : Option Value} {S : fm_S}  (hi0 : vp_in (121 + x1) 373) : am_Ev d 146 29 [some (.ref 231), some (.int x1), some (.int x2), o3] [] (fm_mk S) (some (.int (S.1 232 ((121 + x1).toNatClampNeg))), fm_mk (fm_wI S 232 ((121 + x1).toNatClampNeg) x2)) := by
  refine fs_aloadn (j := 0) (by decide +kernel) rfl ?_
  refine fe_getR (idx := 7) (t := 8) (f := 0) (fk := 2) (fin := 1) (wp := 943) (x := 232) (by decide +kernel) (by decide +kernel) (by decide +kernel) (by decide +kernel) (by decide +kernel) ?_
  refine fs_bipush (n := 121) (v := 121) (by decide +kernel) (by decide) ?_
  refine fs_iloadn (j := 1) (by decide +kernel) rfl ?_
  refine fs_iadd (by decide +kernel) ?_
  refine fx_iald (n := (121 + x1).toNatClampNeg) (len := 373) (by decide +kernel) (by decide +kernel) (by decide +kernel) hi0 rfl ?_
  refine fs_istoren (j := 3) (L' := [some (.ref 231), some (.int x1), some (.int x2), some (.int (S.1 232 ((121 + x1).toNatClampNeg)))]) (by decide +kernel) (Nat.le_of_ble_eq_true rfl) rfl ?_
  refine fs_aloadn (j := 0) (by decide +kernel) rfl ?_
  refine fe_getR (idx := 7) (t := 8) (f := 0) (fk := 2) (fin := 1) (wp := 943) (x := 232) (by decide +kernel) (by decide +kernel) (by decide +kernel) (by decide +kernel) (by decide +kernel) ?_
  refine fs_bipush (n := 121) (v := 121) (by decide +kernel) (by decide) ?_
  refine fs_iloadn (j := 1) (by decide +kernel) rfl ?_
  refine fs_iadd (by decide +kernel) ?_
  refine fs_iloadn (j := 2) (by decide +kernel) rfl ?_
  refine fx_iast (n := (121 + x1).toNatClampNeg) (len := 373) (by decide +kernel) (by decide +kernel) (by decide +kernel) hi0 rfl ?_
  refine fs_iloadn (j := 3) (by decide +kernel) rfl ?_
  exact fe_retI (by decide +kernel) (by decide +kernel)
-- KitchenSiegeModel.dish(III)I
theorem b147_0 {d : Nat} {x1 : Int32} {x2 : Int32} {x3 : Int32} {v : Int32} {S1 : fm_S} {S : fm_S} {r : Option Value × am_W} (hc : am_Sp d 137 [.long x1.toInt64, .long 0, .long 5] (fm_mk S) (some (.int v)) (fm_mk S1)) (nx : am_Ev (d + 1) 147 9 [some (.ref 231), some (.int x1), some (.int x2), some (.int x3)] [.int v] (fm_mk S1) r) : am_Ev (d + 1) 147 0 [some (.ref 231), some (.int x1), some (.int x2), some (.int x3)] [] (fm_mk S) r := by
  refine fs_iloadn (j := 1) (by decide +kernel) rfl ?_
  refine fs_i2l (by decide +kernel) ?_
  refine fs_lconst (n := 0) (v := 0) (by decide +kernel) (by decide) ?_
  refine fs_ldc2 (idx := 65) (q := 1013) (v := 5) (by decide +kernel) (by decide +kernel) ?_
  exact fe_callS (idx := 67) (kd := 0) (n := 3) (wp := 1014) (q := (1015, 0)) (as := [.long x1.toInt64, .long 0, .long 5]) (rs := []) (by decide +kernel) (by decide +kernel) (by decide +kernel) (by decide) rfl (Nat.le_of_ble_eq_true rfl) rfl hc nx
theorem b147_9 {d : Nat} {x1 : Int32} {x2 : Int32} {x3 : Int32} {sx0 : Int32} {S : fm_S} {r : Option Value × am_W} (kt : sx0 = 0 → am_Ev d 147 36 [some (.ref 231), some (.int x1), some (.int x2), some (.int x3)] [] (fm_mk S) r) (kf : ¬ sx0 = 0 → am_Ev d 147 12 [some (.ref 231), some (.int x1), some (.int x2), some (.int x3)] [] (fm_mk S) r) : am_Ev d 147 9 [some (.ref 231), some (.int x1), some (.int x2), some (.int x3)] [.int sx0] (fm_mk S) r := by
  exact fs_ifeq (off := 27) (tgt := 36) (by decide +kernel) (by decide) kt kf
theorem b147_12 {d : Nat} {x1 : Int32} {x2 : Int32} {x3 : Int32} {v : Int32} {S1 : fm_S} {S : fm_S} {r : Option Value × am_W} (hc : am_Sp d 137 [.long x2.toInt64, .long 1, .long 30] (fm_mk S) (some (.int v)) (fm_mk S1)) (nx : am_Ev (d + 1) 147 21 [some (.ref 231), some (.int x1), some (.int x2), some (.int x3)] [.int v] (fm_mk S1) r) : am_Ev (d + 1) 147 12 [some (.ref 231), some (.int x1), some (.int x2), some (.int x3)] [] (fm_mk S) r := by
  refine fs_iloadn (j := 2) (by decide +kernel) rfl ?_
  refine fs_i2l (by decide +kernel) ?_
  refine fs_lconst (n := 1) (v := 1) (by decide +kernel) (by decide) ?_
  refine fs_ldc2 (idx := 97) (q := 1057) (v := 30) (by decide +kernel) (by decide +kernel) ?_
  exact fe_callS (idx := 67) (kd := 0) (n := 3) (wp := 1014) (q := (1015, 0)) (as := [.long x2.toInt64, .long 1, .long 30]) (rs := []) (by decide +kernel) (by decide +kernel) (by decide +kernel) (by decide) rfl (Nat.le_of_ble_eq_true rfl) rfl hc nx
theorem b147_21 {d : Nat} {x1 : Int32} {x2 : Int32} {x3 : Int32} {sx0 : Int32} {S : fm_S} {r : Option Value × am_W} (kt : sx0 = 0 → am_Ev d 147 36 [some (.ref 231), some (.int x1), some (.int x2), some (.int x3)] [] (fm_mk S) r) (kf : ¬ sx0 = 0 → am_Ev d 147 24 [some (.ref 231), some (.int x1), some (.int x2), some (.int x3)] [] (fm_mk S) r) : am_Ev d 147 21 [some (.ref 231), some (.int x1), some (.int x2), some (.int x3)] [.int sx0] (fm_mk S) r := by
  exact fs_ifeq (off := 15) (tgt := 36) (by decide +kernel) (by decide) kt kf
theorem b147_24 {d : Nat} {x1 : Int32} {x2 : Int32} {x3 : Int32} {v : Int32} {S1 : fm_S} {S : fm_S} {r : Option Value × am_W} (hc : am_Sp d 137 [.long x3.toInt64, .long 0, .long 9] (fm_mk S) (some (.int v)) (fm_mk S1)) (nx : am_Ev (d + 1) 147 33 [some (.ref 231), some (.int x1), some (.int x2), some (.int x3)] [.int v] (fm_mk S1) r) : am_Ev (d + 1) 147 24 [some (.ref 231), some (.int x1), some (.int x2), some (.int x3)] [] (fm_mk S) r := by
  refine fs_iloadn (j := 3) (by decide +kernel) rfl ?_
  refine fs_i2l (by decide +kernel) ?_
  refine fs_lconst (n := 0) (v := 0) (by decide +kernel) (by decide) ?_
  refine fs_ldc2 (idx := 71) (q := 1017) (v := 9) (by decide +kernel) (by decide +kernel) ?_
  exact fe_callS (idx := 67) (kd := 0) (n := 3) (wp := 1014) (q := (1015, 0)) (as := [.long x3.toInt64, .long 0, .long 9]) (rs := []) (by decide +kernel) (by decide +kernel) (by decide +kernel) (by decide) rfl (Nat.le_of_ble_eq_true rfl) rfl hc nx
theorem b147_33 {d : Nat} {x1 : Int32} {x2 : Int32} {x3 : Int32} {sx0 : Int32} {S : fm_S} {r : Option Value × am_W} (kt : ¬ sx0 = 0 → am_Ev d 147 41 [some (.ref 231), some (.int x1), some (.int x2), some (.int x3)] [] (fm_mk S) r) (kf : sx0 = 0 → am_Ev d 147 36 [some (.ref 231), some (.int x1), some (.int x2), some (.int x3)] [] (fm_mk S) r) : am_Ev d 147 33 [some (.ref 231), some (.int x1), some (.int x2), some (.int x3)] [.int sx0] (fm_mk S) r := by
  exact fs_ifne (off := 8) (tgt := 41) (by decide +kernel) (by decide) kt kf
theorem b147_36 {d : Nat} {x1 : Int32} {x2 : Int32} {x3 : Int32} {v : Int32} {S1 : fm_S} {S : fm_S} {r : Option Value × am_W} (hc : am_Sp d 138 [.ref 231] (fm_mk S) (some (.int v)) (fm_mk S1)) (nx : am_Ev (d + 1) 147 40 [some (.ref 231), some (.int x1), some (.int x2), some (.int x3)] [.int v] (fm_mk S1) r) : am_Ev (d + 1) 147 36 [some (.ref 231), some (.int x1), some (.int x2), some (.int x3)] [] (fm_mk S) r := by
  refine fs_aloadn (j := 0) (by decide +kernel) rfl ?_
  exact fe_callV (idx := 73) (n := 0) (wp := 1018) (q := (1020, 31)) (as := []) (rs := []) (by decide +kernel) (by decide +kernel) (by decide +kernel) (by decide +kernel) rfl (Nat.le_of_ble_eq_true rfl) rfl hc nx
theorem b147_40 {d : Nat} {x1 : Int32} {x2 : Int32} {x3 : Int32} {sx0 : Int32} {S : fm_S}  : am_Ev d 147 40 [some (.ref 231), some (.int x1), some (.int x2), some (.int x3)] [.int sx0] (fm_mk S) (some (.int sx0), fm_mk S) := by
  exact fe_retI (by decide +kernel) (by decide +kernel)
theorem b147_41 {d : Nat} {x1 : Int32} {x2 : Int32} {x3 : Int32} {S : fm_S} {r : Option Value × am_W} (kt : ¬ (S.1 232 1) = 6 → am_Ev d 147 57 [some (.ref 231), some (.int x1), some (.int x2), some (.int x3)] [] (fm_mk S) r) (kf : (S.1 232 1) = 6 → am_Ev d 147 52 [some (.ref 231), some (.int x1), some (.int x2), some (.int x3)] [] (fm_mk S) r) : am_Ev d 147 41 [some (.ref 231), some (.int x1), some (.int x2), some (.int x3)] [] (fm_mk S) r := by
  refine fs_aloadn (j := 0) (by decide +kernel) rfl ?_
  refine fe_getR (idx := 7) (t := 8) (f := 0) (fk := 2) (fin := 1) (wp := 943) (x := 232) (by decide +kernel) (by decide +kernel) (by decide +kernel) (by decide +kernel) (by decide +kernel) ?_
  refine fs_iconst (n := 1) (v := 1) (by decide +kernel) (by decide) ?_
  refine fx_iald (n := 1) (len := 373) (by decide +kernel) (by decide +kernel) (by decide +kernel) (vp_c (by decide) (by decide)) (by decide) ?_
  refine fs_bipush (n := 6) (v := 6) (by decide +kernel) (by decide) ?_
  exact fs_icne (off := 8) (tgt := 57) (by decide +kernel) (by decide) kt kf
theorem b147_52 {d : Nat} {x1 : Int32} {x2 : Int32} {x3 : Int32} {v : Int32} {S1 : fm_S} {S : fm_S} {r : Option Value × am_W} (hc : am_Sp d 139 [.ref 231] (fm_mk S) (some (.int v)) (fm_mk S1)) (nx : am_Ev (d + 1) 147 56 [some (.ref 231), some (.int x1), some (.int x2), some (.int x3)] [.int v] (fm_mk S1) r) : am_Ev (d + 1) 147 52 [some (.ref 231), some (.int x1), some (.int x2), some (.int x3)] [] (fm_mk S) r := by
  refine fs_aloadn (j := 0) (by decide +kernel) rfl ?_
  exact fe_callV (idx := 77) (n := 0) (wp := 1022) (q := (1024, 32)) (as := []) (rs := []) (by decide +kernel) (by decide +kernel) (by decide +kernel) (by decide +kernel) rfl (Nat.le_of_ble_eq_true rfl) rfl hc nx
theorem b147_56 {d : Nat} {x1 : Int32} {x2 : Int32} {x3 : Int32} {sx0 : Int32} {S : fm_S}  : am_Ev d 147 56 [some (.ref 231), some (.int x1), some (.int x2), some (.int x3)] [.int sx0] (fm_mk S) (some (.int sx0), fm_mk S) := by
  exact fe_retI (by decide +kernel) (by decide +kernel)
theorem b147_57 {d : Nat} {x1 : Int32} {x2 : Int32} {x3 : Int32} {S1 : fm_S} {S : fm_S} {r : Option Value × am_W} (hc : am_Sp d 148 [.ref 232, .int x1, .int x2, .int x3] (fm_mk S) (none) (fm_mk S1)) (nx : am_Ev (d + 1) 147 67 [some (.ref 231), some (.int x1), some (.int x2), some (.int x3)] [] (fm_mk S1) r) : am_Ev (d + 1) 147 57 [some (.ref 231), some (.int x1), some (.int x2), some (.int x3)] [] (fm_mk S) r := by
  refine fs_aloadn (j := 0) (by decide +kernel) rfl ?_
  refine fe_getR (idx := 7) (t := 8) (f := 0) (fk := 2) (fin := 1) (wp := 943) (x := 232) (by decide +kernel) (by decide +kernel) (by decide +kernel) (by decide +kernel) (by decide +kernel) ?_
  refine fs_iloadn (j := 1) (by decide +kernel) rfl ?_
  refine fs_iloadn (j := 2) (by decide +kernel) rfl ?_
  refine fs_iloadn (j := 3) (by decide +kernel) rfl ?_
  exact fe_callS (idx := 99) (kd := 0) (n := 4) (wp := 1058) (q := (1059, 0)) (as := [.ref 232, .int x1, .int x2, .int x3]) (rs := []) (by decide +kernel) (by decide +kernel) (by decide +kernel) (by decide) rfl (Nat.le_of_ble_eq_true rfl) rfl hc nx
theorem b147_67 {d : Nat} {x1 : Int32} {x2 : Int32} {x3 : Int32} {S : fm_S}  : am_Ev d 147 67 [some (.ref 231), some (.int x1), some (.int x2), some (.int x3)] [] (fm_mk S) (some (.int ((S.1 232 1) - 1)), fm_mk S) := by
  refine fs_aloadn (j := 0) (by decide +kernel) rfl ?_
  refine fe_getR (idx := 7) (t := 8) (f := 0) (fk := 2) (fin := 1) (wp := 943) (x := 232) (by decide +kernel) (by decide +kernel) (by decide +kernel) (by decide +kernel) (by decide +kernel) ?_
  refine fs_iconst (n := 1) (v := 1) (by decide +kernel) (by decide) ?_
  refine fx_iald (n := 1) (len := 373) (by decide +kernel) (by decide +kernel) (by decide +kernel) (vp_c (by decide) (by decide)) (by decide) ?_
  refine fs_iconst (n := 1) (v := 1) (by decide +kernel) (by decide) ?_
  refine fs_isub (by decide +kernel) ?_
  exact fe_retI (by decide +kernel) (by decide +kernel)
-- KitchenSiegeModel.addDish([IIII)V
theorem b148_0 {d : Nat} {a0 : Nat} {x1 : Int32} {x2 : Int32} {x3 : Int32} {o4 : Option Value} {S : fm_S}  (h_a0 : fm_tg a0 = 100) (hi1 : vp_in 1 (fm_ln a0)) (hi2 : vp_in (125 + (S.1 a0 ((1 : Int32).toNatClampNeg))) (fm_ln a0)) (hi3 : vp_in (131 + (S.1 a0 ((1 : Int32).toNatClampNeg))) (fm_ln a0)) (hi4 : vp_in (137 + (S.1 a0 ((1 : Int32).toNatClampNeg))) (fm_ln a0)) : am_Ev d 148 0 [some (.ref a0), some (.int x1), some (.int x2), some (.int x3), o4] [] (fm_mk S) (none, fm_mk (fm_wI (fm_wI (fm_wI (fm_wI S a0 ((125 + (S.1 a0 ((1 : Int32).toNatClampNeg))).toNatClampNeg) x1) a0 ((131 + (S.1 a0 ((1 : Int32).toNatClampNeg))).toNatClampNeg) x2) a0 ((137 + (S.1 a0 ((1 : Int32).toNatClampNeg))).toNatClampNeg) x3) a0 ((1 : Int32).toNatClampNeg) (((fm_wI (fm_wI (fm_wI S a0 ((125 + (S.1 a0 ((1 : Int32).toNatClampNeg))).toNatClampNeg) x1) a0 ((131 + (S.1 a0 ((1 : Int32).toNatClampNeg))).toNatClampNeg) x2) a0 ((137 + (S.1 a0 ((1 : Int32).toNatClampNeg))).toNatClampNeg) x3).1 a0 ((1 : Int32).toNatClampNeg)) + 1))) := by
  refine fs_aloadn (j := 0) (by decide +kernel) rfl ?_
  refine fs_iconst (n := 1) (v := 1) (by decide +kernel) (by decide) ?_
  refine fx_iald (n := (1 : Int32).toNatClampNeg) (len := fm_ln a0) (by decide +kernel) h_a0 rfl hi1 rfl ?_
  refine fs_istore (j := 4) (L' := [some (.ref a0), some (.int x1), some (.int x2), some (.int x3), some (.int (S.1 a0 ((1 : Int32).toNatClampNeg)))]) (by decide +kernel) (Nat.le_of_ble_eq_true rfl) rfl ?_
  refine fs_aloadn (j := 0) (by decide +kernel) rfl ?_
  refine fs_bipush (n := 125) (v := 125) (by decide +kernel) (by decide) ?_
  refine fs_iload (j := 4) (by decide +kernel) rfl ?_
  refine fs_iadd (by decide +kernel) ?_
  refine fs_iloadn (j := 1) (by decide +kernel) rfl ?_
  refine fx_iast (n := (125 + (S.1 a0 ((1 : Int32).toNatClampNeg))).toNatClampNeg) (len := fm_ln a0) (by decide +kernel) h_a0 rfl hi2 rfl ?_
  refine fs_aloadn (j := 0) (by decide +kernel) rfl ?_
  refine fs_sipush (n := 131) (v := 131) (by decide +kernel) (by decide) ?_
  refine fs_iload (j := 4) (by decide +kernel) rfl ?_
  refine fs_iadd (by decide +kernel) ?_
  refine fs_iloadn (j := 2) (by decide +kernel) rfl ?_
  refine fx_iast (n := (131 + (S.1 a0 ((1 : Int32).toNatClampNeg))).toNatClampNeg) (len := fm_ln a0) (by decide +kernel) h_a0 rfl hi3 rfl ?_
  refine fs_aloadn (j := 0) (by decide +kernel) rfl ?_
  refine fs_sipush (n := 137) (v := 137) (by decide +kernel) (by decide) ?_
  refine fs_iload (j := 4) (by decide +kernel) rfl ?_
  refine fs_iadd (by decide +kernel) ?_
  refine fs_iloadn (j := 3) (by decide +kernel) rfl ?_
  refine fx_iast (n := (137 + (S.1 a0 ((1 : Int32).toNatClampNeg))).toNatClampNeg) (len := fm_ln a0) (by decide +kernel) h_a0 rfl hi4 rfl ?_
  refine fs_aloadn (j := 0) (by decide +kernel) rfl ?_
  refine fs_iconst (n := 1) (v := 1) (by decide +kernel) (by decide) ?_
  refine fs_dup2 (by decide +kernel) ⟨rfl, rfl⟩ ?_
  refine fx_iald (n := (1 : Int32).toNatClampNeg) (len := fm_ln a0) (by decide +kernel) h_a0 rfl hi1 rfl ?_
  refine fs_iconst (n := 1) (v := 1) (by decide +kernel) (by decide) ?_
  refine fs_iadd (by decide +kernel) ?_
  refine fx_iast (n := (1 : Int32).toNatClampNeg) (len := fm_ln a0) (by decide +kernel) h_a0 rfl hi1 rfl ?_
  exact fe_retV (by decide +kernel) (by decide +kernel)
-- KitchenSiegeModel.type(I)I
theorem b149_0 {d : Nat} {x1 : Int32} {v : Int32} {S1 : fm_S} {S : fm_S} {r : Option Value × am_W} (hc : am_Sp d 137 [.long x1.toInt64, .long 0, .long 127] (fm_mk S) (some (.int v)) (fm_mk S1)) (nx : am_Ev (d + 1) 149 9 [some (.ref 231), some (.int x1)] [.int v] (fm_mk S1) r) : am_Ev (d + 1) 149 0 [some (.ref 231), some (.int x1)] [] (fm_mk S) r := by
  refine fs_iloadn (j := 1) (by decide +kernel) rfl ?_
  refine fs_i2l (by decide +kernel) ?_
  refine fs_lconst (n := 0) (v := 0) (by decide +kernel) (by decide) ?_
  refine fs_ldc2 (idx := 102) (q := 1065) (v := 127) (by decide +kernel) (by decide +kernel) ?_
  exact fe_callS (idx := 67) (kd := 0) (n := 3) (wp := 1014) (q := (1015, 0)) (as := [.long x1.toInt64, .long 0, .long 127]) (rs := []) (by decide +kernel) (by decide +kernel) (by decide +kernel) (by decide) rfl (Nat.le_of_ble_eq_true rfl) rfl hc nx
theorem b149_9 {d : Nat} {x1 : Int32} {sx0 : Int32} {S : fm_S} {r : Option Value × am_W} (kt : ¬ sx0 = 0 → am_Ev d 149 17 [some (.ref 231), some (.int x1)] [] (fm_mk S) r) (kf : sx0 = 0 → am_Ev d 149 12 [some (.ref 231), some (.int x1)] [] (fm_mk S) r) : am_Ev d 149 9 [some (.ref 231), some (.int x1)] [.int sx0] (fm_mk S) r := by
  exact fs_ifne (off := 8) (tgt := 17) (by decide +kernel) (by decide) kt kf
theorem b149_12 {d : Nat} {x1 : Int32} {v : Int32} {S1 : fm_S} {S : fm_S} {r : Option Value × am_W} (hc : am_Sp d 138 [.ref 231] (fm_mk S) (some (.int v)) (fm_mk S1)) (nx : am_Ev (d + 1) 149 16 [some (.ref 231), some (.int x1)] [.int v] (fm_mk S1) r) : am_Ev (d + 1) 149 12 [some (.ref 231), some (.int x1)] [] (fm_mk S) r := by
  refine fs_aloadn (j := 0) (by decide +kernel) rfl ?_
  exact fe_callV (idx := 73) (n := 0) (wp := 1018) (q := (1020, 31)) (as := []) (rs := []) (by decide +kernel) (by decide +kernel) (by decide +kernel) (by decide +kernel) rfl (Nat.le_of_ble_eq_true rfl) rfl hc nx
theorem b149_16 {d : Nat} {x1 : Int32} {sx0 : Int32} {S : fm_S}  : am_Ev d 149 16 [some (.ref 231), some (.int x1)] [.int sx0] (fm_mk S) (some (.int sx0), fm_mk S) := by
  exact fe_retI (by decide +kernel) (by decide +kernel)
theorem b149_17 {d : Nat} {x1 : Int32} {S : fm_S} {r : Option Value × am_W} (kt : ¬ (S.1 231 5) = 150 → am_Ev d 149 32 [some (.ref 231), some (.int x1)] [] (fm_mk S) r) (kf : (S.1 231 5) = 150 → am_Ev d 149 27 [some (.ref 231), some (.int x1)] [] (fm_mk S) r) : am_Ev d 149 17 [some (.ref 231), some (.int x1)] [] (fm_mk S) r := by
  refine fs_aloadn (j := 0) (by decide +kernel) rfl ?_
  refine fe_getI (idx := 104) (t := 8) (f := 5) (fk := 0) (fin := 0) (wp := 948) (by decide +kernel) (by decide +kernel) (by decide +kernel) (by decide +kernel) ?_
  refine fs_sipush (n := 150) (v := 150) (by decide +kernel) (by decide) ?_
  exact fs_icne (off := 8) (tgt := 32) (by decide +kernel) (by decide) kt kf
theorem b149_27 {d : Nat} {x1 : Int32} {v : Int32} {S1 : fm_S} {S : fm_S} {r : Option Value × am_W} (hc : am_Sp d 139 [.ref 231] (fm_mk S) (some (.int v)) (fm_mk S1)) (nx : am_Ev (d + 1) 149 31 [some (.ref 231), some (.int x1)] [.int v] (fm_mk S1) r) : am_Ev (d + 1) 149 27 [some (.ref 231), some (.int x1)] [] (fm_mk S) r := by
  refine fs_aloadn (j := 0) (by decide +kernel) rfl ?_
  exact fe_callV (idx := 77) (n := 0) (wp := 1022) (q := (1024, 32)) (as := []) (rs := []) (by decide +kernel) (by decide +kernel) (by decide +kernel) (by decide +kernel) rfl (Nat.le_of_ble_eq_true rfl) rfl hc nx
theorem b149_31 {d : Nat} {x1 : Int32} {sx0 : Int32} {S : fm_S}  : am_Ev d 149 31 [some (.ref 231), some (.int x1)] [.int sx0] (fm_mk S) (some (.int sx0), fm_mk S) := by
  exact fe_retI (by decide +kernel) (by decide +kernel)
theorem b149_32 {d : Nat} {x1 : Int32} {S : fm_S}  (hi0 : vp_in (S.1 231 5) 150) : am_Ev d 149 32 [some (.ref 231), some (.int x1)] [] (fm_mk S) (some (.int ((fm_wI (fm_wI S 236 ((S.1 231 5).toNatClampNeg) x1) 231 5 (((fm_wI S 236 ((S.1 231 5).toNatClampNeg) x1).1 231 5) + 1)).1 231 5)), fm_mk (fm_wI (fm_wI S 236 ((S.1 231 5).toNatClampNeg) x1) 231 5 (((fm_wI S 236 ((S.1 231 5).toNatClampNeg) x1).1 231 5) + 1))) := by
  refine fs_aloadn (j := 0) (by decide +kernel) rfl ?_
  refine fe_getR (idx := 22) (t := 8) (f := 4) (fk := 2) (fin := 1) (wp := 947) (x := 236) (by decide +kernel) (by decide +kernel) (by decide +kernel) (by decide +kernel) (by decide +kernel) ?_
  refine fs_aloadn (j := 0) (by decide +kernel) rfl ?_
  refine fe_getI (idx := 104) (t := 8) (f := 5) (fk := 0) (fin := 0) (wp := 948) (by decide +kernel) (by decide +kernel) (by decide +kernel) (by decide +kernel) ?_
  refine fs_iloadn (j := 1) (by decide +kernel) rfl ?_
  refine fx_iast (n := (S.1 231 5).toNatClampNeg) (len := 150) (by decide +kernel) (by decide +kernel) (by decide +kernel) hi0 rfl ?_
  refine fs_aloadn (j := 0) (by decide +kernel) rfl ?_
  refine fs_dup (by decide +kernel) rfl ?_
  refine fe_getI (idx := 104) (t := 8) (f := 5) (fk := 0) (fin := 0) (wp := 948) (by decide +kernel) (by decide +kernel) (by decide +kernel) (by decide +kernel) ?_
  refine fs_iconst (n := 1) (v := 1) (by decide +kernel) (by decide) ?_
  refine fs_iadd (by decide +kernel) ?_
  refine fe_putI (idx := 104) (t := 8) (f := 5) (wp := 948) (by decide +kernel) (by decide +kernel) (by decide +kernel) (by decide +kernel) ?_
  refine fs_aloadn (j := 0) (by decide +kernel) rfl ?_
  refine fe_getI (idx := 104) (t := 8) (f := 5) (fk := 0) (fin := 0) (wp := 948) (by decide +kernel) (by decide +kernel) (by decide +kernel) (by decide +kernel) ?_
  exact fe_retI (by decide +kernel) (by decide +kernel)
-- KitchenSiegeModel.clear()I
theorem b150_0 {d : Nat} {o1 : Option Value} {S : fm_S}  : am_Ev d 150 0 [some (.ref 231), o1] [] (fm_mk S) (some (.int (S.1 231 5)), fm_mk (fm_wI S 231 5 0)) := by
  refine fs_aloadn (j := 0) (by decide +kernel) rfl ?_
  refine fe_getI (idx := 104) (t := 8) (f := 5) (fk := 0) (fin := 0) (wp := 948) (by decide +kernel) (by decide +kernel) (by decide +kernel) (by decide +kernel) ?_
  refine fs_istoren (j := 1) (L' := [some (.ref 231), some (.int (S.1 231 5))]) (by decide +kernel) (Nat.le_of_ble_eq_true rfl) rfl ?_
  refine fs_aloadn (j := 0) (by decide +kernel) rfl ?_
  refine fs_iconst (n := 0) (v := 0) (by decide +kernel) (by decide) ?_
  refine fe_putI (idx := 104) (t := 8) (f := 5) (wp := 948) (by decide +kernel) (by decide +kernel) (by decide +kernel) (by decide +kernel) ?_
  refine fs_iloadn (j := 1) (by decide +kernel) rfl ?_
  exact fe_retI (by decide +kernel) (by decide +kernel)
-- KitchenSiegeModel.read()I
theorem b151_0 {d : Nat} {o1 : Option Value} {o2 : Option Value} {o3 : Option Value} {o4 : Option Value} {S1 : fm_S} {S : fm_S} {r : Option Value × am_W} (hc : am_Sp d 134 [.ref 233] (fm_mk S) (none) (fm_mk S1)) (nx : am_Ev (d + 1) 151 7 [some (.ref 231), o1, o2, o3, o4] [] (fm_mk S1) r) : am_Ev (d + 1) 151 0 [some (.ref 231), o1, o2, o3, o4] [] (fm_mk S) r := by
  refine fs_aloadn (j := 0) (by decide +kernel) rfl ?_
  refine fe_getR (idx := 13) (t := 8) (f := 1) (fk := 2) (fin := 1) (wp := 944) (x := 233) (by decide +kernel) (by decide +kernel) (by decide +kernel) (by decide +kernel) (by decide +kernel) ?_
  exact fe_callS (idx := 51) (kd := 0) (n := 1) (wp := 940) (q := (941, 0)) (as := [.ref 233]) (rs := []) (by decide +kernel) (by decide +kernel) (by decide +kernel) (by decide) rfl (Nat.le_of_ble_eq_true rfl) rfl hc nx
theorem b151_7 {d : Nat} {o1 : Option Value} {o2 : Option Value} {o3 : Option Value} {o4 : Option Value} {S : fm_S} {r : Option Value × am_W} (nx : am_Ev d 151 16 [some (.ref 231), some (.int 0), some (.int 1), o3, o4] [] (fm_mk (fm_wI S 231 11 0)) r) : am_Ev d 151 7 [some (.ref 231), o1, o2, o3, o4] [] (fm_mk S) r := by
  refine fs_aloadn (j := 0) (by decide +kernel) rfl ?_
  refine fs_iconst (n := 0) (v := 0) (by decide +kernel) (by decide) ?_
  refine fe_putI (idx := 107) (t := 8) (f := 11) (wp := 954) (by decide +kernel) (by decide +kernel) (by decide +kernel) (by decide +kernel) ?_
  refine fs_iconst (n := 0) (v := 0) (by decide +kernel) (by decide) ?_
  refine fs_istoren (j := 1) (L' := [some (.ref 231), some (.int 0), o2, o3, o4]) (by decide +kernel) (Nat.le_of_ble_eq_true rfl) rfl ?_
  refine fs_iconst (n := 1) (v := 1) (by decide +kernel) (by decide) ?_
  refine fs_istoren (j := 2) (L' := [some (.ref 231), some (.int 0), some (.int 1), o3, o4]) (by decide +kernel) (Nat.le_of_ble_eq_true rfl) rfl ?_
  exact nx
theorem b151_16 {d : Nat} {x1 : Int32} {x2 : Int32} {o3 : Option Value} {o4 : Option Value} {S : fm_S} {r : Option Value × am_W} (kt : x2 = 0 → am_Ev d 151 137 [some (.ref 231), some (.int x1), some (.int x2), o3, o4] [] (fm_mk S) r) (kf : ¬ x2 = 0 → am_Ev d 151 20 [some (.ref 231), some (.int x1), some (.int x2), o3, o4] [] (fm_mk S) r) : am_Ev d 151 16 [some (.ref 231), some (.int x1), some (.int x2), o3, o4] [] (fm_mk S) r := by
  refine fs_iloadn (j := 2) (by decide +kernel) rfl ?_
  exact fs_ifeq (off := 120) (tgt := 137) (by decide +kernel) (by decide) kt kf
theorem b151_20 {d : Nat} {x1 : Int32} {x2 : Int32} {o3 : Option Value} {o4 : Option Value} {v : Int32} {S1 : fm_S} {S : fm_S} {r : Option Value × am_W} (hc : am_Sp d 152 [.ref 231] (fm_mk S) (some (.int v)) (fm_mk S1)) (nx : am_Ev (d + 1) 151 24 [some (.ref 231), some (.int x1), some (.int x2), o3, o4] [.int v] (fm_mk S1) r) : am_Ev (d + 1) 151 20 [some (.ref 231), some (.int x1), some (.int x2), o3, o4] [] (fm_mk S) r := by
  refine fs_aloadn (j := 0) (by decide +kernel) rfl ?_
  exact fe_callV (idx := 162) (n := 0) (wp := 1074) (q := (1076, 35)) (as := []) (rs := []) (by decide +kernel) (by decide +kernel) (by decide +kernel) (by decide +kernel) rfl (Nat.le_of_ble_eq_true rfl) rfl hc nx
theorem b151_24 {d : Nat} {x1 : Int32} {x2 : Int32} {o3 : Option Value} {o4 : Option Value} {sx0 : Int32} {S : fm_S} {r : Option Value × am_W} (kt : sx0 < 0 → am_Ev d 151 86 [some (.ref 231), some (.int x1), some (.int x2), some (.int sx0), o4] [] (fm_mk S) r) (kf : ¬ sx0 < 0 → am_Ev d 151 29 [some (.ref 231), some (.int x1), some (.int x2), some (.int sx0), o4] [] (fm_mk S) r) : am_Ev d 151 24 [some (.ref 231), some (.int x1), some (.int x2), o3, o4] [.int sx0] (fm_mk S) r := by
  refine fs_istoren (j := 3) (L' := [some (.ref 231), some (.int x1), some (.int x2), some (.int sx0), o4]) (by decide +kernel) (Nat.le_of_ble_eq_true rfl) rfl ?_
  refine fs_iloadn (j := 3) (by decide +kernel) rfl ?_
  exact fs_iflt (off := 60) (tgt := 86) (by decide +kernel) (by decide) kt kf
theorem b151_29 {d : Nat} {x1 : Int32} {x2 : Int32} {x3 : Int32} {o4 : Option Value} {S : fm_S} {r : Option Value × am_W} (kt : ¬ x3 = 0 → am_Ev d 151 37 [some (.ref 231), some (.int x1), some (.int x2), some (.int x3), o4] [] (fm_mk S) r) (kf : x3 = 0 → am_Ev d 151 33 [some (.ref 231), some (.int x1), some (.int x2), some (.int x3), o4] [] (fm_mk S) r) : am_Ev d 151 29 [some (.ref 231), some (.int x1), some (.int x2), some (.int x3), o4] [] (fm_mk S) r := by
  refine fs_iloadn (j := 3) (by decide +kernel) rfl ?_
  exact fs_ifne (off := 7) (tgt := 37) (by decide +kernel) (by decide) kt kf
theorem b151_33 {d : Nat} {x1 : Int32} {x2 : Int32} {x3 : Int32} {o4 : Option Value} {S : fm_S} {r : Option Value × am_W} (nx : am_Ev d 151 38 [some (.ref 231), some (.int x1), some (.int x2), some (.int x3), o4] [.int 1] (fm_mk S) r) : am_Ev d 151 33 [some (.ref 231), some (.int x1), some (.int x2), some (.int x3), o4] [] (fm_mk S) r := by
  refine fs_iconst (n := 1) (v := 1) (by decide +kernel) (by decide) ?_
  refine fs_goto (off := 4) (tgt := 38) (by decide +kernel) (by decide) ?_
  exact nx
theorem b151_37 {d : Nat} {x1 : Int32} {x2 : Int32} {x3 : Int32} {o4 : Option Value} {S : fm_S} {r : Option Value × am_W} (nx : am_Ev d 151 38 [some (.ref 231), some (.int x1), some (.int x2), some (.int x3), o4] [.int 0] (fm_mk S) r) : am_Ev d 151 37 [some (.ref 231), some (.int x1), some (.int x2), some (.int x3), o4] [] (fm_mk S) r := by
  refine fs_iconst (n := 0) (v := 0) (by decide +kernel) (by decide) ?_
  exact nx
theorem b151_38 {d : Nat} {x1 : Int32} {x2 : Int32} {x3 : Int32} {o4 : Option Value} {sx0 : Int32} {S : fm_S} {r : Option Value × am_W} (kt : ¬ x1 = 0 → am_Ev d 151 46 [some (.ref 231), some (.int x1), some (.int x2), some (.int x3), o4] [.int sx0] (fm_mk S) r) (kf : x1 = 0 → am_Ev d 151 42 [some (.ref 231), some (.int x1), some (.int x2), some (.int x3), o4] [.int sx0] (fm_mk S) r) : am_Ev d 151 38 [some (.ref 231), some (.int x1), some (.int x2), some (.int x3), o4] [.int sx0] (fm_mk S) r := by
  refine fs_iloadn (j := 1) (by decide +kernel) rfl ?_
  exact fs_ifne (off := 7) (tgt := 46) (by decide +kernel) (by decide) kt kf
theorem b151_42 {d : Nat} {x1 : Int32} {x2 : Int32} {x3 : Int32} {o4 : Option Value} {sx0 : Int32} {S : fm_S} {r : Option Value × am_W} (nx : am_Ev d 151 47 [some (.ref 231), some (.int x1), some (.int x2), some (.int x3), o4] [.int 1, .int sx0] (fm_mk S) r) : am_Ev d 151 42 [some (.ref 231), some (.int x1), some (.int x2), some (.int x3), o4] [.int sx0] (fm_mk S) r := by
  refine fs_iconst (n := 1) (v := 1) (by decide +kernel) (by decide) ?_
  refine fs_goto (off := 4) (tgt := 47) (by decide +kernel) (by decide) ?_
  exact nx
theorem b151_46 {d : Nat} {x1 : Int32} {x2 : Int32} {x3 : Int32} {o4 : Option Value} {sx0 : Int32} {S : fm_S} {r : Option Value × am_W} (nx : am_Ev d 151 47 [some (.ref 231), some (.int x1), some (.int x2), some (.int x3), o4] [.int 0, .int sx0] (fm_mk S) r) : am_Ev d 151 46 [some (.ref 231), some (.int x1), some (.int x2), some (.int x3), o4] [.int sx0] (fm_mk S) r := by
  refine fs_iconst (n := 0) (v := 0) (by decide +kernel) (by decide) ?_
  exact nx
theorem b151_47 {d : Nat} {x1 : Int32} {x2 : Int32} {x3 : Int32} {o4 : Option Value} {sx0 : Int32} {sx1 : Int32} {S : fm_S} {r : Option Value × am_W} (kt : ¬ sx0 = sx1 → am_Ev d 151 86 [some (.ref 231), some (.int x1), some (.int x2), some (.int x3), o4] [] (fm_mk S) r) (kf : sx0 = sx1 → am_Ev d 151 50 [some (.ref 231), some (.int x1), some (.int x2), some (.int x3), o4] [] (fm_mk S) r) : am_Ev d 151 47 [some (.ref 231), some (.int x1), some (.int x2), some (.int x3), o4] [.int sx1, .int sx0] (fm_mk S) r := by
  exact fs_icne (off := 39) (tgt := 86) (by decide +kernel) (by decide) kt kf
theorem b151_50 {d : Nat} {x1 : Int32} {x2 : Int32} {x3 : Int32} {o4 : Option Value} {S : fm_S} {r : Option Value × am_W} (kt : ¬ x3 = 1 → am_Ev d 151 66 [some (.ref 231), some (.int x1), some (.int x2), some (.int x3), o4] [] (fm_mk S) r) (kf : x3 = 1 → am_Ev d 151 55 [some (.ref 231), some (.int x1), some (.int x2), some (.int x3), o4] [] (fm_mk S) r) : am_Ev d 151 50 [some (.ref 231), some (.int x1), some (.int x2), some (.int x3), o4] [] (fm_mk S) r := by
  refine fs_iloadn (j := 3) (by decide +kernel) rfl ?_
  refine fs_iconst (n := 1) (v := 1) (by decide +kernel) (by decide) ?_
  exact fs_icne (off := 14) (tgt := 66) (by decide +kernel) (by decide) kt kf
theorem b151_55 {d : Nat} {x1 : Int32} {x2 : Int32} {x3 : Int32} {o4 : Option Value} {S : fm_S} {r : Option Value × am_W} (kt : 8 ≤ (S.1 233 0) → am_Ev d 151 86 [some (.ref 231), some (.int x1), some (.int x2), some (.int x3), o4] [] (fm_mk S) r) (kf : ¬ 8 ≤ (S.1 233 0) → am_Ev d 151 66 [some (.ref 231), some (.int x1), some (.int x2), some (.int x3), o4] [] (fm_mk S) r) : am_Ev d 151 55 [some (.ref 231), some (.int x1), some (.int x2), some (.int x3), o4] [] (fm_mk S) r := by
  refine fs_aloadn (j := 0) (by decide +kernel) rfl ?_
  refine fe_getR (idx := 13) (t := 8) (f := 1) (fk := 2) (fin := 1) (wp := 944) (x := 233) (by decide +kernel) (by decide +kernel) (by decide +kernel) (by decide +kernel) (by decide +kernel) ?_
  refine fs_iconst (n := 0) (v := 0) (by decide +kernel) (by decide) ?_
  refine fx_iald (n := 0) (len := 373) (by decide +kernel) (by decide +kernel) (by decide +kernel) (vp_c (by decide) (by decide)) (by decide) ?_
  refine fs_bipush (n := 8) (v := 8) (by decide +kernel) (by decide) ?_
  exact fs_icge (off := 23) (tgt := 86) (by decide +kernel) (by decide) kt kf
theorem b151_66 {d : Nat} {x1 : Int32} {x2 : Int32} {x3 : Int32} {o4 : Option Value} {S : fm_S} {r : Option Value × am_W} (kt : ¬ x3 = 5 → am_Ev d 151 82 [some (.ref 231), some (.int x1), some (.int x2), some (.int x3), o4] [] (fm_mk S) r) (kf : x3 = 5 → am_Ev d 151 71 [some (.ref 231), some (.int x1), some (.int x2), some (.int x3), o4] [] (fm_mk S) r) : am_Ev d 151 66 [some (.ref 231), some (.int x1), some (.int x2), some (.int x3), o4] [] (fm_mk S) r := by
  refine fs_iloadn (j := 3) (by decide +kernel) rfl ?_
  refine fs_iconst (n := 5) (v := 5) (by decide +kernel) (by decide) ?_
  exact fs_icne (off := 14) (tgt := 82) (by decide +kernel) (by decide) kt kf
theorem b151_71 {d : Nat} {x1 : Int32} {x2 : Int32} {x3 : Int32} {o4 : Option Value} {S : fm_S} {r : Option Value × am_W} (kt : 6 ≤ (S.1 233 1) → am_Ev d 151 86 [some (.ref 231), some (.int x1), some (.int x2), some (.int x3), o4] [] (fm_mk S) r) (kf : ¬ 6 ≤ (S.1 233 1) → am_Ev d 151 82 [some (.ref 231), some (.int x1), some (.int x2), some (.int x3), o4] [] (fm_mk S) r) : am_Ev d 151 71 [some (.ref 231), some (.int x1), some (.int x2), some (.int x3), o4] [] (fm_mk S) r := by
  refine fs_aloadn (j := 0) (by decide +kernel) rfl ?_
  refine fe_getR (idx := 13) (t := 8) (f := 1) (fk := 2) (fin := 1) (wp := 944) (x := 233) (by decide +kernel) (by decide +kernel) (by decide +kernel) (by decide +kernel) (by decide +kernel) ?_
  refine fs_iconst (n := 1) (v := 1) (by decide +kernel) (by decide) ?_
  refine fx_iald (n := 1) (len := 373) (by decide +kernel) (by decide +kernel) (by decide +kernel) (vp_c (by decide) (by decide)) (by decide) ?_
  refine fs_bipush (n := 6) (v := 6) (by decide +kernel) (by decide) ?_
  exact fs_icge (off := 7) (tgt := 86) (by decide +kernel) (by decide) kt kf
theorem b151_82 {d : Nat} {x1 : Int32} {x2 : Int32} {x3 : Int32} {o4 : Option Value} {S : fm_S} {r : Option Value × am_W} (nx : am_Ev d 151 87 [some (.ref 231), some (.int x1), some (.int x2), some (.int x3), o4] [.int 1] (fm_mk S) r) : am_Ev d 151 82 [some (.ref 231), some (.int x1), some (.int x2), some (.int x3), o4] [] (fm_mk S) r := by
  refine fs_iconst (n := 1) (v := 1) (by decide +kernel) (by decide) ?_
  refine fs_goto (off := 4) (tgt := 87) (by decide +kernel) (by decide) ?_
  exact nx
theorem b151_86 {d : Nat} {x1 : Int32} {x2 : Int32} {x3 : Int32} {o4 : Option Value} {S : fm_S} {r : Option Value × am_W} (nx : am_Ev d 151 87 [some (.ref 231), some (.int x1), some (.int x2), some (.int x3), o4] [.int 0] (fm_mk S) r) : am_Ev d 151 86 [some (.ref 231), some (.int x1), some (.int x2), some (.int x3), o4] [] (fm_mk S) r := by
  refine fs_iconst (n := 0) (v := 0) (by decide +kernel) (by decide) ?_
  exact nx
theorem b151_87 {d : Nat} {x1 : Int32} {x2 : Int32} {x3 : Int32} {o4 : Option Value} {sx0 : Int32} {S : fm_S} {r : Option Value × am_W} (kt : sx0 = 0 → am_Ev d 151 102 [some (.ref 231), some (.int x1), some (.int x2), some (.int x3), some (.int sx0)] [] (fm_mk S) r) (kf : ¬ sx0 = 0 → am_Ev d 151 94 [some (.ref 231), some (.int x1), some (.int x2), some (.int x3), some (.int sx0)] [] (fm_mk S) r) : am_Ev d 151 87 [some (.ref 231), some (.int x1), some (.int x2), some (.int x3), o4] [.int sx0] (fm_mk S) r := by
  refine fs_istore (j := 4) (L' := [some (.ref 231), some (.int x1), some (.int x2), some (.int x3), some (.int sx0)]) (by decide +kernel) (Nat.le_of_ble_eq_true rfl) rfl ?_
  refine fs_iload (j := 4) (by decide +kernel) rfl ?_
  exact fs_ifeq (off := 11) (tgt := 102) (by decide +kernel) (by decide) kt kf
theorem b151_94 {d : Nat} {x1 : Int32} {x2 : Int32} {x3 : Int32} {x4 : Int32} {v : Int32} {S1 : fm_S} {S : fm_S} {r : Option Value × am_W} (hc : am_Sp d 157 [.ref 231, .int x3] (fm_mk S) (some (.int v)) (fm_mk S1)) (nx : am_Ev (d + 1) 151 99 [some (.ref 231), some (.int x1), some (.int x2), some (.int x3), some (.int x4)] [.int v] (fm_mk S1) r) : am_Ev (d + 1) 151 94 [some (.ref 231), some (.int x1), some (.int x2), some (.int x3), some (.int x4)] [] (fm_mk S) r := by
  refine fs_aloadn (j := 0) (by decide +kernel) rfl ?_
  refine fs_iloadn (j := 3) (by decide +kernel) rfl ?_
  exact fe_callV (idx := 165) (n := 1) (wp := 1102) (q := (1104, 39)) (as := [.int x3]) (rs := []) (by decide +kernel) (by decide +kernel) (by decide +kernel) (by decide +kernel) rfl (Nat.le_of_ble_eq_true rfl) rfl hc nx
theorem b151_99 {d : Nat} {x1 : Int32} {x2 : Int32} {x3 : Int32} {x4 : Int32} {sx0 : Int32} {S : fm_S} {r : Option Value × am_W} (kt : ¬ sx0 = 0 → am_Ev d 151 110 [some (.ref 231), some (.int x1), some (.int x2), some (.int x3), some (.int x4)] [] (fm_mk S) r) (kf : sx0 = 0 → am_Ev d 151 102 [some (.ref 231), some (.int x1), some (.int x2), some (.int x3), some (.int x4)] [] (fm_mk S) r) : am_Ev d 151 99 [some (.ref 231), some (.int x1), some (.int x2), some (.int x3), some (.int x4)] [.int sx0] (fm_mk S) r := by
  exact fs_ifne (off := 11) (tgt := 110) (by decide +kernel) (by decide) kt kf
theorem b151_102 {d : Nat} {x1 : Int32} {x2 : Int32} {x3 : Int32} {x4 : Int32} {S : fm_S}  : am_Ev d 151 102 [some (.ref 231), some (.int x1), some (.int x2), some (.int x3), some (.int x4)] [] (fm_mk S) (some (.int ((-10) - (S.1 231 12))), fm_mk S) := by
  refine fs_bipush (n := -10) (v := (-10)) (by decide +kernel) (by decide) ?_
  refine fs_aloadn (j := 0) (by decide +kernel) rfl ?_
  refine fe_getI (idx := 114) (t := 8) (f := 12) (fk := 0) (fin := 0) (wp := 955) (by decide +kernel) (by decide +kernel) (by decide +kernel) (by decide +kernel) ?_
  refine fs_isub (by decide +kernel) ?_
  exact fe_retI (by decide +kernel) (by decide +kernel)
theorem b151_110 {d : Nat} {x1 : Int32} {x2 : Int32} {x3 : Int32} {x4 : Int32} {S1 : fm_S} {S : fm_S} {r : Option Value × am_W} (hc : am_Sp d 153 [.ref 231] (fm_mk S) (none) (fm_mk S1)) (nx : am_Ev (d + 1) 151 117 [some (.ref 231), some (.int (x1 + 1)), some (.int x2), some (.int x3), some (.int x4)] [] (fm_mk S1) r) : am_Ev (d + 1) 151 110 [some (.ref 231), some (.int x1), some (.int x2), some (.int x3), some (.int x4)] [] (fm_mk S) r := by
  refine fs_iinc (j := 1) (n := 1) (v := 1) (L' := [some (.ref 231), some (.int (x1 + 1)), some (.int x2), some (.int x3), some (.int x4)]) (by decide +kernel) rfl (Nat.le_of_ble_eq_true rfl) (by decide) rfl ?_
  refine fs_aloadn (j := 0) (by decide +kernel) rfl ?_
  exact fe_callV (idx := 117) (n := 0) (wp := 1078) (q := (1080, 36)) (as := []) (rs := []) (by decide +kernel) (by decide +kernel) (by decide +kernel) (by decide +kernel) rfl (Nat.le_of_ble_eq_true rfl) rfl hc nx
theorem b151_117 {d : Nat} {x1 : Int32} {x2 : Int32} {x3 : Int32} {x4 : Int32} {S : fm_S} {r : Option Value × am_W} (kt : (S.1 231 5) ≤ (S.1 231 11) → am_Ev d 151 132 [some (.ref 231), some (.int x1), some (.int x2), some (.int x3), some (.int x4)] [] (fm_mk S) r) (kf : ¬ (S.1 231 5) ≤ (S.1 231 11) → am_Ev d 151 128 [some (.ref 231), some (.int x1), some (.int x2), some (.int x3), some (.int x4)] [] (fm_mk S) r) : am_Ev d 151 117 [some (.ref 231), some (.int x1), some (.int x2), some (.int x3), some (.int x4)] [] (fm_mk S) r := by
  refine fs_aloadn (j := 0) (by decide +kernel) rfl ?_
  refine fe_getI (idx := 107) (t := 8) (f := 11) (fk := 0) (fin := 0) (wp := 954) (by decide +kernel) (by decide +kernel) (by decide +kernel) (by decide +kernel) ?_
  refine fs_aloadn (j := 0) (by decide +kernel) rfl ?_
  refine fe_getI (idx := 104) (t := 8) (f := 5) (fk := 0) (fin := 0) (wp := 948) (by decide +kernel) (by decide +kernel) (by decide +kernel) (by decide +kernel) ?_
  exact fs_icge (off := 7) (tgt := 132) (by decide +kernel) (by decide) kt kf
theorem b151_128 {d : Nat} {x1 : Int32} {x2 : Int32} {x3 : Int32} {x4 : Int32} {S : fm_S} {r : Option Value × am_W} (nx : am_Ev d 151 133 [some (.ref 231), some (.int x1), some (.int x2), some (.int x3), some (.int x4)] [.int 1] (fm_mk S) r) : am_Ev d 151 128 [some (.ref 231), some (.int x1), some (.int x2), some (.int x3), some (.int x4)] [] (fm_mk S) r := by
  refine fs_iconst (n := 1) (v := 1) (by decide +kernel) (by decide) ?_
  refine fs_goto (off := 4) (tgt := 133) (by decide +kernel) (by decide) ?_
  exact nx
theorem b151_132 {d : Nat} {x1 : Int32} {x2 : Int32} {x3 : Int32} {x4 : Int32} {S : fm_S} {r : Option Value × am_W} (nx : am_Ev d 151 133 [some (.ref 231), some (.int x1), some (.int x2), some (.int x3), some (.int x4)] [.int 0] (fm_mk S) r) : am_Ev d 151 132 [some (.ref 231), some (.int x1), some (.int x2), some (.int x3), some (.int x4)] [] (fm_mk S) r := by
  refine fs_iconst (n := 0) (v := 0) (by decide +kernel) (by decide) ?_
  exact nx
theorem b151_133 {d : Nat} {x1 : Int32} {x2 : Int32} {x3 : Int32} {x4 : Int32} {sx0 : Int32} {S : fm_S} {r : Option Value × am_W} (nx : am_Ev d 151 16 [some (.ref 231), some (.int x1), some (.int sx0), some (.int x3), some (.int x4)] [] (fm_mk S) r) : am_Ev d 151 133 [some (.ref 231), some (.int x1), some (.int x2), some (.int x3), some (.int x4)] [.int sx0] (fm_mk S) r := by
  refine fs_istoren (j := 2) (L' := [some (.ref 231), some (.int x1), some (.int sx0), some (.int x3), some (.int x4)]) (by decide +kernel) (Nat.le_of_ble_eq_true rfl) rfl ?_
  refine fs_goto (off := -118) (tgt := 16) (by decide +kernel) (by decide) ?_
  exact nx
theorem b151_137 {d : Nat} {x1 : Int32} {x2 : Int32} {o3 : Option Value} {o4 : Option Value} {S : fm_S} {r : Option Value × am_W} (nx : am_Ev d 151 139 [some (.ref 231), some (.int x1), some (.int x2), some (.int 0), o4] [] (fm_mk S) r) : am_Ev d 151 137 [some (.ref 231), some (.int x1), some (.int x2), o3, o4] [] (fm_mk S) r := by
  refine fs_iconst (n := 0) (v := 0) (by decide +kernel) (by decide) ?_
  refine fs_istoren (j := 3) (L' := [some (.ref 231), some (.int x1), some (.int x2), some (.int 0), o4]) (by decide +kernel) (Nat.le_of_ble_eq_true rfl) rfl ?_
  exact nx
theorem b151_139 {d : Nat} {x1 : Int32} {x2 : Int32} {x3 : Int32} {o4 : Option Value} {S : fm_S} {r : Option Value × am_W} (kt : 373 ≤ x3 → am_Ev d 151 164 [some (.ref 231), some (.int x1), some (.int x2), some (.int x3), o4] [] (fm_mk S) r) (kf : ¬ 373 ≤ x3 → am_Ev d 151 146 [some (.ref 231), some (.int x1), some (.int x2), some (.int x3), o4] [] (fm_mk S) r) : am_Ev d 151 139 [some (.ref 231), some (.int x1), some (.int x2), some (.int x3), o4] [] (fm_mk S) r := by
  refine fs_iloadn (j := 3) (by decide +kernel) rfl ?_
  refine fs_sipush (n := 373) (v := 373) (by decide +kernel) (by decide) ?_
  exact fs_icge (off := 21) (tgt := 164) (by decide +kernel) (by decide) kt kf
theorem b151_146 {d : Nat} {x1 : Int32} {x2 : Int32} {x3 : Int32} {o4 : Option Value} {S : fm_S} {r : Option Value × am_W} (hi0 : vp_in x3 373) (nx : am_Ev d 151 139 [some (.ref 231), some (.int x1), some (.int x2), some (.int (x3 + 1)), o4] [] (fm_mk (fm_wI S 232 x3.toNatClampNeg (S.1 233 x3.toNatClampNeg))) r) : am_Ev d 151 146 [some (.ref 231), some (.int x1), some (.int x2), some (.int x3), o4] [] (fm_mk S) r := by
  refine fs_aloadn (j := 0) (by decide +kernel) rfl ?_
  refine fe_getR (idx := 7) (t := 8) (f := 0) (fk := 2) (fin := 1) (wp := 943) (x := 232) (by decide +kernel) (by decide +kernel) (by decide +kernel) (by decide +kernel) (by decide +kernel) ?_
  refine fs_iloadn (j := 3) (by decide +kernel) rfl ?_
  refine fs_aloadn (j := 0) (by decide +kernel) rfl ?_
  refine fe_getR (idx := 13) (t := 8) (f := 1) (fk := 2) (fin := 1) (wp := 944) (x := 233) (by decide +kernel) (by decide +kernel) (by decide +kernel) (by decide +kernel) (by decide +kernel) ?_
  refine fs_iloadn (j := 3) (by decide +kernel) rfl ?_
  refine fx_iald (n := x3.toNatClampNeg) (len := 373) (by decide +kernel) (by decide +kernel) (by decide +kernel) hi0 rfl ?_
  refine fx_iast (n := x3.toNatClampNeg) (len := 373) (by decide +kernel) (by decide +kernel) (by decide +kernel) hi0 rfl ?_
  refine fs_iinc (j := 3) (n := 1) (v := 1) (L' := [some (.ref 231), some (.int x1), some (.int x2), some (.int (x3 + 1)), o4]) (by decide +kernel) rfl (Nat.le_of_ble_eq_true rfl) (by decide) rfl ?_
  refine fs_goto (off := -22) (tgt := 139) (by decide +kernel) (by decide) ?_
  exact nx
theorem b151_164 {d : Nat} {x1 : Int32} {x2 : Int32} {x3 : Int32} {o4 : Option Value} {S : fm_S}  : am_Ev d 151 164 [some (.ref 231), some (.int x1), some (.int x2), some (.int x3), o4] [] (fm_mk S) (some (.int x1), fm_mk S) := by
  refine fs_iloadn (j := 1) (by decide +kernel) rfl ?_
  exact fe_retI (by decide +kernel) (by decide +kernel)
-- KitchenSiegeModel.word()I
theorem b152_0 {d : Nat} {o1 : Option Value} {o2 : Option Value} {o3 : Option Value} {o4 : Option Value} {o5 : Option Value} {o6 : Option Value} {S1 : fm_S} {S : fm_S} {r : Option Value × am_W} (hc : am_Sp d 153 [.ref 231] (fm_mk S) (none) (fm_mk S1)) (nx : am_Ev (d + 1) 152 4 [some (.ref 231), o1, o2, o3, o4, o5, o6] [] (fm_mk S1) r) : am_Ev (d + 1) 152 0 [some (.ref 231), o1, o2, o3, o4, o5, o6] [] (fm_mk S) r := by
  refine fs_aloadn (j := 0) (by decide +kernel) rfl ?_
  exact fe_callV (idx := 117) (n := 0) (wp := 1078) (q := (1080, 36)) (as := []) (rs := []) (by decide +kernel) (by decide +kernel) (by decide +kernel) (by decide +kernel) rfl (Nat.le_of_ble_eq_true rfl) rfl hc nx
theorem b152_4 {d : Nat} {o1 : Option Value} {o2 : Option Value} {o3 : Option Value} {o4 : Option Value} {o5 : Option Value} {o6 : Option Value} {S : fm_S} {r : Option Value × am_W} (nx : am_Ev d 152 9 [some (.ref 231), some (.int (S.1 231 11)), o2, o3, o4, o5, o6] [] (fm_mk S) r) : am_Ev d 152 4 [some (.ref 231), o1, o2, o3, o4, o5, o6] [] (fm_mk S) r := by
  refine fs_aloadn (j := 0) (by decide +kernel) rfl ?_
  refine fe_getI (idx := 107) (t := 8) (f := 11) (fk := 0) (fin := 0) (wp := 954) (by decide +kernel) (by decide +kernel) (by decide +kernel) (by decide +kernel) ?_
  refine fs_istoren (j := 1) (L' := [some (.ref 231), some (.int (S.1 231 11)), o2, o3, o4, o5, o6]) (by decide +kernel) (Nat.le_of_ble_eq_true rfl) rfl ?_
  exact nx
theorem b152_9 {d : Nat} {x1 : Int32} {o2 : Option Value} {o3 : Option Value} {o4 : Option Value} {o5 : Option Value} {o6 : Option Value} {v : Int32} {S1 : fm_S} {S : fm_S} {r : Option Value × am_W} (hc : am_Sp d 154 [.ref 231, .int (S.1 231 11)] (fm_mk S) (some (.int v)) (fm_mk S1)) (nx : am_Ev (d + 1) 152 17 [some (.ref 231), some (.int x1), o2, o3, o4, o5, o6] [.int v] (fm_mk S1) r) : am_Ev (d + 1) 152 9 [some (.ref 231), some (.int x1), o2, o3, o4, o5, o6] [] (fm_mk S) r := by
  refine fs_aloadn (j := 0) (by decide +kernel) rfl ?_
  refine fs_aloadn (j := 0) (by decide +kernel) rfl ?_
  refine fe_getI (idx := 107) (t := 8) (f := 11) (fk := 0) (fin := 0) (wp := 954) (by decide +kernel) (by decide +kernel) (by decide +kernel) (by decide +kernel) ?_
  exact fe_callV (idx := 110) (n := 1) (wp := 1082) (q := (1084, 37)) (as := [.int (S.1 231 11)]) (rs := []) (by decide +kernel) (by decide +kernel) (by decide +kernel) (by decide +kernel) rfl (Nat.le_of_ble_eq_true rfl) rfl hc nx
theorem b152_17 {d : Nat} {x1 : Int32} {o2 : Option Value} {o3 : Option Value} {o4 : Option Value} {o5 : Option Value} {o6 : Option Value} {sx0 : Int32} {v : Int32} {S1 : fm_S} {S : fm_S} {r : Option Value × am_W} (hc : am_Sp d 137 [.long sx0.toInt64, .long 97, .long 122] (fm_mk S) (some (.int v)) (fm_mk S1)) (nx : am_Ev (d + 1) 152 27 [some (.ref 231), some (.int x1), o2, o3, o4, o5, o6] [.int v] (fm_mk S1) r) : am_Ev (d + 1) 152 17 [some (.ref 231), some (.int x1), o2, o3, o4, o5, o6] [.int sx0] (fm_mk S) r := by
  refine fs_i2l (by decide +kernel) ?_
  refine fs_ldc2 (idx := 143) (q := 1086) (v := 97) (by decide +kernel) (by decide +kernel) ?_
  refine fs_ldc2 (idx := 145) (q := 1087) (v := 122) (by decide +kernel) (by decide +kernel) ?_
  exact fe_callS (idx := 67) (kd := 0) (n := 3) (wp := 1014) (q := (1015, 0)) (as := [.long sx0.toInt64, .long 97, .long 122]) (rs := []) (by decide +kernel) (by decide +kernel) (by decide +kernel) (by decide) rfl (Nat.le_of_ble_eq_true rfl) rfl hc nx
theorem b152_27 {d : Nat} {x1 : Int32} {o2 : Option Value} {o3 : Option Value} {o4 : Option Value} {o5 : Option Value} {o6 : Option Value} {sx0 : Int32} {S : fm_S} {r : Option Value × am_W} (kt : sx0 = 0 → am_Ev d 152 43 [some (.ref 231), some (.int x1), o2, o3, o4, o5, o6] [] (fm_mk S) r) (kf : ¬ sx0 = 0 → am_Ev d 152 30 [some (.ref 231), some (.int x1), o2, o3, o4, o5, o6] [] (fm_mk S) r) : am_Ev d 152 27 [some (.ref 231), some (.int x1), o2, o3, o4, o5, o6] [.int sx0] (fm_mk S) r := by
  exact fs_ifeq (off := 16) (tgt := 43) (by decide +kernel) (by decide) kt kf
theorem b152_30 {d : Nat} {x1 : Int32} {o2 : Option Value} {o3 : Option Value} {o4 : Option Value} {o5 : Option Value} {o6 : Option Value} {S : fm_S} {r : Option Value × am_W} (nx : am_Ev d 152 9 [some (.ref 231), some (.int x1), o2, o3, o4, o5, o6] [] (fm_mk (fm_wI S 231 11 ((S.1 231 11) + 1))) r) : am_Ev d 152 30 [some (.ref 231), some (.int x1), o2, o3, o4, o5, o6] [] (fm_mk S) r := by
  refine fs_aloadn (j := 0) (by decide +kernel) rfl ?_
  refine fs_dup (by decide +kernel) rfl ?_
  refine fe_getI (idx := 107) (t := 8) (f := 11) (fk := 0) (fin := 0) (wp := 954) (by decide +kernel) (by decide +kernel) (by decide +kernel) (by decide +kernel) ?_
  refine fs_iconst (n := 1) (v := 1) (by decide +kernel) (by decide) ?_
  refine fs_iadd (by decide +kernel) ?_
  refine fe_putI (idx := 107) (t := 8) (f := 11) (wp := 954) (by decide +kernel) (by decide +kernel) (by decide +kernel) (by decide +kernel) ?_
  refine fs_goto (off := -31) (tgt := 9) (by decide +kernel) (by decide) ?_
  exact nx
theorem b152_43 {d : Nat} {x1 : Int32} {o2 : Option Value} {o3 : Option Value} {o4 : Option Value} {o5 : Option Value} {o6 : Option Value} {S : fm_S} {r : Option Value × am_W} (nx : am_Ev d 152 55 [some (.ref 231), some (.int x1), some (.int ((S.1 231 11) - x1)), some (.int (-1)), some (.int 0), o5, o6] [] (fm_mk S) r) : am_Ev d 152 43 [some (.ref 231), some (.int x1), o2, o3, o4, o5, o6] [] (fm_mk S) r := by
  refine fs_aloadn (j := 0) (by decide +kernel) rfl ?_
  refine fe_getI (idx := 107) (t := 8) (f := 11) (fk := 0) (fin := 0) (wp := 954) (by decide +kernel) (by decide +kernel) (by decide +kernel) (by decide +kernel) ?_
  refine fs_iloadn (j := 1) (by decide +kernel) rfl ?_
  refine fs_isub (by decide +kernel) ?_
  refine fs_istoren (j := 2) (L' := [some (.ref 231), some (.int x1), some (.int ((S.1 231 11) - x1)), o3, o4, o5, o6]) (by decide +kernel) (Nat.le_of_ble_eq_true rfl) rfl ?_
  refine fs_iconst (n := -1) (v := (-1)) (by decide +kernel) (by decide) ?_
  refine fs_istoren (j := 3) (L' := [some (.ref 231), some (.int x1), some (.int ((S.1 231 11) - x1)), some (.int (-1)), o4, o5, o6]) (by decide +kernel) (Nat.le_of_ble_eq_true rfl) rfl ?_
  refine fs_iconst (n := 0) (v := 0) (by decide +kernel) (by decide) ?_
  refine fs_istore (j := 4) (L' := [some (.ref 231), some (.int x1), some (.int ((S.1 231 11) - x1)), some (.int (-1)), some (.int 0), o5, o6]) (by decide +kernel) (Nat.le_of_ble_eq_true rfl) rfl ?_
  exact nx
theorem b152_55 {d : Nat} {x1 : Int32} {x2 : Int32} {x3 : Int32} {x4 : Int32} {o5 : Option Value} {o6 : Option Value} {S : fm_S} {r : Option Value × am_W} (kt : 6 ≤ x4 → am_Ev d 152 149 [some (.ref 231), some (.int x1), some (.int x2), some (.int x3), some (.int x4), o5, o6] [] (fm_mk S) r) (kf : ¬ 6 ≤ x4 → am_Ev d 152 62 [some (.ref 231), some (.int x1), some (.int x2), some (.int x3), some (.int x4), o5, o6] [] (fm_mk S) r) : am_Ev d 152 55 [some (.ref 231), some (.int x1), some (.int x2), some (.int x3), some (.int x4), o5, o6] [] (fm_mk S) r := by
  refine fs_iload (j := 4) (by decide +kernel) rfl ?_
  refine fs_bipush (n := 6) (v := 6) (by decide +kernel) (by decide) ?_
  exact fs_icge (off := 90) (tgt := 149) (by decide +kernel) (by decide) kt kf
theorem b152_62 {d : Nat} {x1 : Int32} {x2 : Int32} {x3 : Int32} {x4 : Int32} {o5 : Option Value} {o6 : Option Value} {S : fm_S} {r : Option Value × am_W} (kt : ¬ x4 = 1 → am_Ev d 152 74 [some (.ref 231), some (.int x1), some (.int x2), some (.int x3), some (.int x4), o5, o6] [.int x2] (fm_mk S) r) (kf : x4 = 1 → am_Ev d 152 69 [some (.ref 231), some (.int x1), some (.int x2), some (.int x3), some (.int x4), o5, o6] [.int x2] (fm_mk S) r) : am_Ev d 152 62 [some (.ref 231), some (.int x1), some (.int x2), some (.int x3), some (.int x4), o5, o6] [] (fm_mk S) r := by
  refine fs_iloadn (j := 2) (by decide +kernel) rfl ?_
  refine fs_iload (j := 4) (by decide +kernel) rfl ?_
  refine fs_iconst (n := 1) (v := 1) (by decide +kernel) (by decide) ?_
  exact fs_icne (off := 8) (tgt := 74) (by decide +kernel) (by decide) kt kf
theorem b152_69 {d : Nat} {x1 : Int32} {x2 : Int32} {x3 : Int32} {x4 : Int32} {o5 : Option Value} {o6 : Option Value} {sx0 : Int32} {S : fm_S} {r : Option Value × am_W} (nx : am_Ev d 152 75 [some (.ref 231), some (.int x1), some (.int x2), some (.int x3), some (.int x4), o5, o6] [.int 6, .int sx0] (fm_mk S) r) : am_Ev d 152 69 [some (.ref 231), some (.int x1), some (.int x2), some (.int x3), some (.int x4), o5, o6] [.int sx0] (fm_mk S) r := by
  refine fs_bipush (n := 6) (v := 6) (by decide +kernel) (by decide) ?_
  refine fs_goto (off := 4) (tgt := 75) (by decide +kernel) (by decide) ?_
  exact nx
theorem b152_74 {d : Nat} {x1 : Int32} {x2 : Int32} {x3 : Int32} {x4 : Int32} {o5 : Option Value} {o6 : Option Value} {sx0 : Int32} {S : fm_S} {r : Option Value × am_W} (nx : am_Ev d 152 75 [some (.ref 231), some (.int x1), some (.int x2), some (.int x3), some (.int x4), o5, o6] [.int 4, .int sx0] (fm_mk S) r) : am_Ev d 152 74 [some (.ref 231), some (.int x1), some (.int x2), some (.int x3), some (.int x4), o5, o6] [.int sx0] (fm_mk S) r := by
  refine fs_iconst (n := 4) (v := 4) (by decide +kernel) (by decide) ?_
  exact nx
theorem b152_75 {d : Nat} {x1 : Int32} {x2 : Int32} {x3 : Int32} {x4 : Int32} {o5 : Option Value} {o6 : Option Value} {sx0 : Int32} {sx1 : Int32} {S : fm_S} {r : Option Value × am_W} (kt : ¬ sx0 = sx1 → am_Ev d 152 82 [some (.ref 231), some (.int x1), some (.int x2), some (.int x3), some (.int x4), o5, o6] [] (fm_mk S) r) (kf : sx0 = sx1 → am_Ev d 152 78 [some (.ref 231), some (.int x1), some (.int x2), some (.int x3), some (.int x4), o5, o6] [] (fm_mk S) r) : am_Ev d 152 75 [some (.ref 231), some (.int x1), some (.int x2), some (.int x3), some (.int x4), o5, o6] [.int sx1, .int sx0] (fm_mk S) r := by
  exact fs_icne (off := 7) (tgt := 82) (by decide +kernel) (by decide) kt kf
theorem b152_78 {d : Nat} {x1 : Int32} {x2 : Int32} {x3 : Int32} {x4 : Int32} {o5 : Option Value} {o6 : Option Value} {S : fm_S} {r : Option Value × am_W} (nx : am_Ev d 152 83 [some (.ref 231), some (.int x1), some (.int x2), some (.int x3), some (.int x4), o5, o6] [.int 1] (fm_mk S) r) : am_Ev d 152 78 [some (.ref 231), some (.int x1), some (.int x2), some (.int x3), some (.int x4), o5, o6] [] (fm_mk S) r := by
  refine fs_iconst (n := 1) (v := 1) (by decide +kernel) (by decide) ?_
  refine fs_goto (off := 4) (tgt := 83) (by decide +kernel) (by decide) ?_
  exact nx
theorem b152_82 {d : Nat} {x1 : Int32} {x2 : Int32} {x3 : Int32} {x4 : Int32} {o5 : Option Value} {o6 : Option Value} {S : fm_S} {r : Option Value × am_W} (nx : am_Ev d 152 83 [some (.ref 231), some (.int x1), some (.int x2), some (.int x3), some (.int x4), o5, o6] [.int 0] (fm_mk S) r) : am_Ev d 152 82 [some (.ref 231), some (.int x1), some (.int x2), some (.int x3), some (.int x4), o5, o6] [] (fm_mk S) r := by
  refine fs_iconst (n := 0) (v := 0) (by decide +kernel) (by decide) ?_
  exact nx
theorem b152_83 {d : Nat} {x1 : Int32} {x2 : Int32} {x3 : Int32} {x4 : Int32} {o5 : Option Value} {o6 : Option Value} {sx0 : Int32} {S : fm_S} {r : Option Value × am_W} (nx : am_Ev d 152 88 [some (.ref 231), some (.int x1), some (.int x2), some (.int x3), some (.int x4), some (.int sx0), some (.int 0)] [] (fm_mk S) r) : am_Ev d 152 83 [some (.ref 231), some (.int x1), some (.int x2), some (.int x3), some (.int x4), o5, o6] [.int sx0] (fm_mk S) r := by
  refine fs_istore (j := 5) (L' := [some (.ref 231), some (.int x1), some (.int x2), some (.int x3), some (.int x4), some (.int sx0), o6]) (by decide +kernel) (Nat.le_of_ble_eq_true rfl) rfl ?_
  refine fs_iconst (n := 0) (v := 0) (by decide +kernel) (by decide) ?_
  refine fs_istore (j := 6) (L' := [some (.ref 231), some (.int x1), some (.int x2), some (.int x3), some (.int x4), some (.int sx0), some (.int 0)]) (by decide +kernel) (Nat.le_of_ble_eq_true rfl) rfl ?_
  exact nx
theorem b152_88 {d : Nat} {x1 : Int32} {x2 : Int32} {x3 : Int32} {x4 : Int32} {x5 : Int32} {x6 : Int32} {S : fm_S} {r : Option Value × am_W} (kt : x2 ≤ x6 → am_Ev d 152 131 [some (.ref 231), some (.int x1), some (.int x2), some (.int x3), some (.int x4), some (.int x5), some (.int x6)] [] (fm_mk S) r) (kf : ¬ x2 ≤ x6 → am_Ev d 152 94 [some (.ref 231), some (.int x1), some (.int x2), some (.int x3), some (.int x4), some (.int x5), some (.int x6)] [] (fm_mk S) r) : am_Ev d 152 88 [some (.ref 231), some (.int x1), some (.int x2), some (.int x3), some (.int x4), some (.int x5), some (.int x6)] [] (fm_mk S) r := by
  refine fs_iload (j := 6) (by decide +kernel) rfl ?_
  refine fs_iloadn (j := 2) (by decide +kernel) rfl ?_
  exact fs_icge (off := 40) (tgt := 131) (by decide +kernel) (by decide) kt kf
theorem b152_94 {d : Nat} {x1 : Int32} {x2 : Int32} {x3 : Int32} {x4 : Int32} {x5 : Int32} {x6 : Int32} {S : fm_S} {r : Option Value × am_W} (kt : x5 = 0 → am_Ev d 152 131 [some (.ref 231), some (.int x1), some (.int x2), some (.int x3), some (.int x4), some (.int x5), some (.int x6)] [] (fm_mk S) r) (kf : ¬ x5 = 0 → am_Ev d 152 99 [some (.ref 231), some (.int x1), some (.int x2), some (.int x3), some (.int x4), some (.int x5), some (.int x6)] [] (fm_mk S) r) : am_Ev d 152 94 [some (.ref 231), some (.int x1), some (.int x2), some (.int x3), some (.int x4), some (.int x5), some (.int x6)] [] (fm_mk S) r := by
  refine fs_iload (j := 5) (by decide +kernel) rfl ?_
  exact fs_ifeq (off := 35) (tgt := 131) (by decide +kernel) (by decide) kt kf
theorem b152_99 {d : Nat} {x1 : Int32} {x2 : Int32} {x3 : Int32} {x4 : Int32} {x5 : Int32} {x6 : Int32} {v : Int32} {S1 : fm_S} {S : fm_S} {r : Option Value × am_W} (hi0 : vp_in (x1 + x6) 150) (hc : am_Sp d 155 [.int x4, .int x6] (fm_mk S) (some (.int v)) (fm_mk S1)) (nx : am_Ev (d + 1) 152 115 [some (.ref 231), some (.int x1), some (.int x2), some (.int x3), some (.int x4), some (.int x5), some (.int x6)] [.int v, .int (S.1 236 ((x1 + x6).toNatClampNeg))] (fm_mk S1) r) : am_Ev (d + 1) 152 99 [some (.ref 231), some (.int x1), some (.int x2), some (.int x3), some (.int x4), some (.int x5), some (.int x6)] [] (fm_mk S) r := by
  refine fs_aloadn (j := 0) (by decide +kernel) rfl ?_
  refine fe_getR (idx := 22) (t := 8) (f := 4) (fk := 2) (fin := 1) (wp := 947) (x := 236) (by decide +kernel) (by decide +kernel) (by decide +kernel) (by decide +kernel) (by decide +kernel) ?_
  refine fs_iloadn (j := 1) (by decide +kernel) rfl ?_
  refine fs_iload (j := 6) (by decide +kernel) rfl ?_
  refine fs_iadd (by decide +kernel) ?_
  refine fx_iald (n := (x1 + x6).toNatClampNeg) (len := 150) (by decide +kernel) (by decide +kernel) (by decide +kernel) hi0 rfl ?_
  refine fs_iload (j := 4) (by decide +kernel) rfl ?_
  refine fs_iload (j := 6) (by decide +kernel) rfl ?_
  exact fe_callS (idx := 147) (kd := 0) (n := 2) (wp := 1088) (q := (1089, 0)) (as := [.int x4, .int x6]) (rs := [.int (S.1 236 ((x1 + x6).toNatClampNeg))]) (by decide +kernel) (by decide +kernel) (by decide +kernel) (by decide) rfl (Nat.le_of_ble_eq_true rfl) rfl hc nx
theorem b152_115 {d : Nat} {x1 : Int32} {x2 : Int32} {x3 : Int32} {x4 : Int32} {x5 : Int32} {x6 : Int32} {sx0 : Int32} {sx1 : Int32} {S : fm_S} {r : Option Value × am_W} (kt : ¬ sx0 = sx1 → am_Ev d 152 122 [some (.ref 231), some (.int x1), some (.int x2), some (.int x3), some (.int x4), some (.int x5), some (.int x6)] [] (fm_mk S) r) (kf : sx0 = sx1 → am_Ev d 152 118 [some (.ref 231), some (.int x1), some (.int x2), some (.int x3), some (.int x4), some (.int x5), some (.int x6)] [] (fm_mk S) r) : am_Ev d 152 115 [some (.ref 231), some (.int x1), some (.int x2), some (.int x3), some (.int x4), some (.int x5), some (.int x6)] [.int sx1, .int sx0] (fm_mk S) r := by
  exact fs_icne (off := 7) (tgt := 122) (by decide +kernel) (by decide) kt kf
theorem b152_118 {d : Nat} {x1 : Int32} {x2 : Int32} {x3 : Int32} {x4 : Int32} {x5 : Int32} {x6 : Int32} {S : fm_S} {r : Option Value × am_W} (nx : am_Ev d 152 123 [some (.ref 231), some (.int x1), some (.int x2), some (.int x3), some (.int x4), some (.int x5), some (.int x6)] [.int 1] (fm_mk S) r) : am_Ev d 152 118 [some (.ref 231), some (.int x1), some (.int x2), some (.int x3), some (.int x4), some (.int x5), some (.int x6)] [] (fm_mk S) r := by
  refine fs_iconst (n := 1) (v := 1) (by decide +kernel) (by decide) ?_
  refine fs_goto (off := 4) (tgt := 123) (by decide +kernel) (by decide) ?_
  exact nx
theorem b152_122 {d : Nat} {x1 : Int32} {x2 : Int32} {x3 : Int32} {x4 : Int32} {x5 : Int32} {x6 : Int32} {S : fm_S} {r : Option Value × am_W} (nx : am_Ev d 152 123 [some (.ref 231), some (.int x1), some (.int x2), some (.int x3), some (.int x4), some (.int x5), some (.int x6)] [.int 0] (fm_mk S) r) : am_Ev d 152 122 [some (.ref 231), some (.int x1), some (.int x2), some (.int x3), some (.int x4), some (.int x5), some (.int x6)] [] (fm_mk S) r := by
  refine fs_iconst (n := 0) (v := 0) (by decide +kernel) (by decide) ?_
  exact nx
theorem b152_123 {d : Nat} {x1 : Int32} {x2 : Int32} {x3 : Int32} {x4 : Int32} {x5 : Int32} {x6 : Int32} {sx0 : Int32} {S : fm_S} {r : Option Value × am_W} (nx : am_Ev d 152 88 [some (.ref 231), some (.int x1), some (.int x2), some (.int x3), some (.int x4), some (.int sx0), some (.int (x6 + 1))] [] (fm_mk S) r) : am_Ev d 152 123 [some (.ref 231), some (.int x1), some (.int x2), some (.int x3), some (.int x4), some (.int x5), some (.int x6)] [.int sx0] (fm_mk S) r := by
  refine fs_istore (j := 5) (L' := [some (.ref 231), some (.int x1), some (.int x2), some (.int x3), some (.int x4), some (.int sx0), some (.int x6)]) (by decide +kernel) (Nat.le_of_ble_eq_true rfl) rfl ?_
  refine fs_iinc (j := 6) (n := 1) (v := 1) (L' := [some (.ref 231), some (.int x1), some (.int x2), some (.int x3), some (.int x4), some (.int sx0), some (.int (x6 + 1))]) (by decide +kernel) rfl (Nat.le_of_ble_eq_true rfl) (by decide) rfl ?_
  refine fs_goto (off := -40) (tgt := 88) (by decide +kernel) (by decide) ?_
  exact nx
theorem b152_131 {d : Nat} {x1 : Int32} {x2 : Int32} {x3 : Int32} {x4 : Int32} {x5 : Int32} {x6 : Int32} {S : fm_S} {r : Option Value × am_W} (kt : x5 = 0 → am_Ev d 152 141 [some (.ref 231), some (.int x1), some (.int x2), some (.int x3), some (.int x4), some (.int x5), some (.int x6)] [] (fm_mk S) r) (kf : ¬ x5 = 0 → am_Ev d 152 136 [some (.ref 231), some (.int x1), some (.int x2), some (.int x3), some (.int x4), some (.int x5), some (.int x6)] [] (fm_mk S) r) : am_Ev d 152 131 [some (.ref 231), some (.int x1), some (.int x2), some (.int x3), some (.int x4), some (.int x5), some (.int x6)] [] (fm_mk S) r := by
  refine fs_iload (j := 5) (by decide +kernel) rfl ?_
  exact fs_ifeq (off := 8) (tgt := 141) (by decide +kernel) (by decide) kt kf
theorem b152_136 {d : Nat} {x1 : Int32} {x2 : Int32} {x3 : Int32} {x4 : Int32} {x5 : Int32} {x6 : Int32} {S : fm_S} {r : Option Value × am_W} (nx : am_Ev d 152 142 [some (.ref 231), some (.int x1), some (.int x2), some (.int x3), some (.int x4), some (.int x5), some (.int x6)] [.int x4] (fm_mk S) r) : am_Ev d 152 136 [some (.ref 231), some (.int x1), some (.int x2), some (.int x3), some (.int x4), some (.int x5), some (.int x6)] [] (fm_mk S) r := by
  refine fs_iload (j := 4) (by decide +kernel) rfl ?_
  refine fs_goto (off := 4) (tgt := 142) (by decide +kernel) (by decide) ?_
  exact nx
theorem b152_141 {d : Nat} {x1 : Int32} {x2 : Int32} {x3 : Int32} {x4 : Int32} {x5 : Int32} {x6 : Int32} {S : fm_S} {r : Option Value × am_W} (nx : am_Ev d 152 142 [some (.ref 231), some (.int x1), some (.int x2), some (.int x3), some (.int x4), some (.int x5), some (.int x6)] [.int x3] (fm_mk S) r) : am_Ev d 152 141 [some (.ref 231), some (.int x1), some (.int x2), some (.int x3), some (.int x4), some (.int x5), some (.int x6)] [] (fm_mk S) r := by
  refine fs_iloadn (j := 3) (by decide +kernel) rfl ?_
  exact nx
theorem b152_142 {d : Nat} {x1 : Int32} {x2 : Int32} {x3 : Int32} {x4 : Int32} {x5 : Int32} {x6 : Int32} {sx0 : Int32} {S : fm_S} {r : Option Value × am_W} (nx : am_Ev d 152 55 [some (.ref 231), some (.int x1), some (.int x2), some (.int sx0), some (.int (x4 + 1)), some (.int x5), some (.int x6)] [] (fm_mk S) r) : am_Ev d 152 142 [some (.ref 231), some (.int x1), some (.int x2), some (.int x3), some (.int x4), some (.int x5), some (.int x6)] [.int sx0] (fm_mk S) r := by
  refine fs_istoren (j := 3) (L' := [some (.ref 231), some (.int x1), some (.int x2), some (.int sx0), some (.int x4), some (.int x5), some (.int x6)]) (by decide +kernel) (Nat.le_of_ble_eq_true rfl) rfl ?_
  refine fs_iinc (j := 4) (n := 1) (v := 1) (L' := [some (.ref 231), some (.int x1), some (.int x2), some (.int sx0), some (.int (x4 + 1)), some (.int x5), some (.int x6)]) (by decide +kernel) rfl (Nat.le_of_ble_eq_true rfl) (by decide) rfl ?_
  refine fs_goto (off := -91) (tgt := 55) (by decide +kernel) (by decide) ?_
  exact nx
theorem b152_149 {d : Nat} {x1 : Int32} {x2 : Int32} {x3 : Int32} {x4 : Int32} {o5 : Option Value} {o6 : Option Value} {v : Int32} {S1 : fm_S} {S : fm_S} {r : Option Value × am_W} (hc : am_Sp d 156 [.ref 231, .int x1] (fm_mk S) (some (.int v)) (fm_mk S1)) (nx : am_Ev (d + 1) 152 154 [some (.ref 231), some (.int x1), some (.int x2), some (.int x3), some (.int x4), o5, o6] [.int v] (fm_mk S1) r) : am_Ev (d + 1) 152 149 [some (.ref 231), some (.int x1), some (.int x2), some (.int x3), some (.int x4), o5, o6] [] (fm_mk S) r := by
  refine fs_aloadn (j := 0) (by decide +kernel) rfl ?_
  refine fs_iloadn (j := 1) (by decide +kernel) rfl ?_
  exact fe_callV (idx := 126) (n := 1) (wp := 1098) (q := (1100, 38)) (as := [.int x1]) (rs := []) (by decide +kernel) (by decide +kernel) (by decide +kernel) (by decide +kernel) rfl (Nat.le_of_ble_eq_true rfl) rfl hc nx
theorem b152_154 {d : Nat} {x1 : Int32} {x2 : Int32} {x3 : Int32} {x4 : Int32} {o5 : Option Value} {o6 : Option Value} {sx0 : Int32} {S : fm_S}  : am_Ev d 152 154 [some (.ref 231), some (.int x1), some (.int x2), some (.int x3), some (.int x4), o5, o6] [.int sx0] (fm_mk S) (some (.int x3), fm_mk S) := by
  refine fs_pop (by decide +kernel) rfl ?_
  refine fs_iloadn (j := 3) (by decide +kernel) rfl ?_
  exact fe_retI (by decide +kernel) (by decide +kernel)
-- KitchenSiegeModel.skip()V
theorem b153_0 {d : Nat} {v : Int32} {S1 : fm_S} {S : fm_S} {r : Option Value × am_W} (hc : am_Sp d 154 [.ref 231, .int (S.1 231 11)] (fm_mk S) (some (.int v)) (fm_mk S1)) (nx : am_Ev (d + 1) 153 8 [some (.ref 231)] [.int v] (fm_mk S1) r) : am_Ev (d + 1) 153 0 [some (.ref 231)] [] (fm_mk S) r := by
  refine fs_aloadn (j := 0) (by decide +kernel) rfl ?_
  refine fs_aloadn (j := 0) (by decide +kernel) rfl ?_
  refine fe_getI (idx := 107) (t := 8) (f := 11) (fk := 0) (fin := 0) (wp := 954) (by decide +kernel) (by decide +kernel) (by decide +kernel) (by decide +kernel) ?_
  exact fe_callV (idx := 110) (n := 1) (wp := 1082) (q := (1084, 37)) (as := [.int (S.1 231 11)]) (rs := []) (by decide +kernel) (by decide +kernel) (by decide +kernel) (by decide +kernel) rfl (Nat.le_of_ble_eq_true rfl) rfl hc nx
theorem b153_8 {d : Nat} {sx0 : Int32} {S : fm_S} {r : Option Value × am_W} (kt : ¬ sx0 = 32 → am_Ev d 153 26 [some (.ref 231)] [] (fm_mk S) r) (kf : sx0 = 32 → am_Ev d 153 13 [some (.ref 231)] [] (fm_mk S) r) : am_Ev d 153 8 [some (.ref 231)] [.int sx0] (fm_mk S) r := by
  refine fs_bipush (n := 32) (v := 32) (by decide +kernel) (by decide) ?_
  exact fs_icne (off := 16) (tgt := 26) (by decide +kernel) (by decide) kt kf
theorem b153_13 {d : Nat} {S : fm_S} {r : Option Value × am_W} (nx : am_Ev d 153 0 [some (.ref 231)] [] (fm_mk (fm_wI S 231 11 ((S.1 231 11) + 1))) r) : am_Ev d 153 13 [some (.ref 231)] [] (fm_mk S) r := by
  refine fs_aloadn (j := 0) (by decide +kernel) rfl ?_
  refine fs_dup (by decide +kernel) rfl ?_
  refine fe_getI (idx := 107) (t := 8) (f := 11) (fk := 0) (fin := 0) (wp := 954) (by decide +kernel) (by decide +kernel) (by decide +kernel) (by decide +kernel) ?_
  refine fs_iconst (n := 1) (v := 1) (by decide +kernel) (by decide) ?_
  refine fs_iadd (by decide +kernel) ?_
  refine fe_putI (idx := 107) (t := 8) (f := 11) (wp := 954) (by decide +kernel) (by decide +kernel) (by decide +kernel) (by decide +kernel) ?_
  refine fs_goto (off := -23) (tgt := 0) (by decide +kernel) (by decide) ?_
  exact nx
theorem b153_26 {d : Nat} {S : fm_S}  : am_Ev d 153 26 [some (.ref 231)] [] (fm_mk S) (none, fm_mk S) := by
  exact fe_retV (by decide +kernel) (by decide +kernel)
-- KitchenSiegeModel.byteAt(I)I
theorem b154_0 {d : Nat} {x1 : Int32} {S : fm_S} {r : Option Value × am_W} (kt : (S.1 231 5) ≤ x1 → am_Ev d 154 17 [some (.ref 231), some (.int x1)] [] (fm_mk S) r) (kf : ¬ (S.1 231 5) ≤ x1 → am_Ev d 154 8 [some (.ref 231), some (.int x1)] [] (fm_mk S) r) : am_Ev d 154 0 [some (.ref 231), some (.int x1)] [] (fm_mk S) r := by
  refine fs_iloadn (j := 1) (by decide +kernel) rfl ?_
  refine fs_aloadn (j := 0) (by decide +kernel) rfl ?_
  refine fe_getI (idx := 104) (t := 8) (f := 5) (fk := 0) (fin := 0) (wp := 948) (by decide +kernel) (by decide +kernel) (by decide +kernel) (by decide +kernel) ?_
  exact fs_icge (off := 12) (tgt := 17) (by decide +kernel) (by decide) kt kf
theorem b154_8 {d : Nat} {x1 : Int32} {S : fm_S} {r : Option Value × am_W} (hi0 : vp_in x1 150) (nx : am_Ev d 154 18 [some (.ref 231), some (.int x1)] [.int (S.1 236 x1.toNatClampNeg)] (fm_mk S) r) : am_Ev d 154 8 [some (.ref 231), some (.int x1)] [] (fm_mk S) r := by
  refine fs_aloadn (j := 0) (by decide +kernel) rfl ?_
  refine fe_getR (idx := 22) (t := 8) (f := 4) (fk := 2) (fin := 1) (wp := 947) (x := 236) (by decide +kernel) (by decide +kernel) (by decide +kernel) (by decide +kernel) (by decide +kernel) ?_
  refine fs_iloadn (j := 1) (by decide +kernel) rfl ?_
  refine fx_iald (n := x1.toNatClampNeg) (len := 150) (by decide +kernel) (by decide +kernel) (by decide +kernel) hi0 rfl ?_
  refine fs_goto (off := 4) (tgt := 18) (by decide +kernel) (by decide) ?_
  exact nx
theorem b154_17 {d : Nat} {x1 : Int32} {S : fm_S} {r : Option Value × am_W} (nx : am_Ev d 154 18 [some (.ref 231), some (.int x1)] [.int (-1)] (fm_mk S) r) : am_Ev d 154 17 [some (.ref 231), some (.int x1)] [] (fm_mk S) r := by
  refine fs_iconst (n := -1) (v := (-1)) (by decide +kernel) (by decide) ?_
  exact nx
theorem b154_18 {d : Nat} {x1 : Int32} {sx0 : Int32} {S : fm_S}  : am_Ev d 154 18 [some (.ref 231), some (.int x1)] [.int sx0] (fm_mk S) (some (.int sx0), fm_mk S) := by
  exact fe_retI (by decide +kernel) (by decide +kernel)
-- KitchenSiegeModel.letterOf(II)I
theorem b155_0 {d : Nat} {x0 : Int32} {x1 : Int32} {o2 : Option Value} {o3 : Option Value} {o4 : Option Value} {o5 : Option Value} {o6 : Option Value} {o7 : Option Value} {S : fm_S} {r : Option Value × am_W} (kt : ¬ x0 = 0 → am_Ev d 155 10 [some (.int x0), some (.int x1), o2, o3, o4, o5, o6, o7] [] (fm_mk S) r) (kf : x0 = 0 → am_Ev d 155 4 [some (.int x0), some (.int x1), o2, o3, o4, o5, o6, o7] [] (fm_mk S) r) : am_Ev d 155 0 [some (.int x0), some (.int x1), o2, o3, o4, o5, o6, o7] [] (fm_mk S) r := by
  refine fs_iloadn (j := 0) (by decide +kernel) rfl ?_
  exact fs_ifne (off := 9) (tgt := 10) (by decide +kernel) (by decide) kt kf
theorem b155_4 {d : Nat} {x0 : Int32} {x1 : Int32} {o2 : Option Value} {o3 : Option Value} {o4 : Option Value} {o5 : Option Value} {o6 : Option Value} {o7 : Option Value} {S : fm_S} {r : Option Value × am_W} (nx : am_Ev d 155 57 [some (.int x0), some (.int x1), o2, o3, o4, o5, o6, o7] [.long 20152314] (fm_mk S) r) : am_Ev d 155 4 [some (.int x0), some (.int x1), o2, o3, o4, o5, o6, o7] [] (fm_mk S) r := by
  refine fs_ldc2 (idx := 129) (q := 1091) (v := 20152314) (by decide +kernel) (by decide +kernel) ?_
  refine fs_goto (off := 50) (tgt := 57) (by decide +kernel) (by decide) ?_
  exact nx
theorem b155_10 {d : Nat} {x0 : Int32} {x1 : Int32} {o2 : Option Value} {o3 : Option Value} {o4 : Option Value} {o5 : Option Value} {o6 : Option Value} {o7 : Option Value} {S : fm_S} {r : Option Value × am_W} (kt : ¬ x0 = 1 → am_Ev d 155 21 [some (.int x0), some (.int x1), o2, o3, o4, o5, o6, o7] [] (fm_mk S) r) (kf : x0 = 1 → am_Ev d 155 15 [some (.int x0), some (.int x1), o2, o3, o4, o5, o6, o7] [] (fm_mk S) r) : am_Ev d 155 10 [some (.int x0), some (.int x1), o2, o3, o4, o5, o6, o7] [] (fm_mk S) r := by
  refine fs_iloadn (j := 0) (by decide +kernel) rfl ?_
  refine fs_iconst (n := 1) (v := 1) (by decide +kernel) (by decide) ?_
  exact fs_icne (off := 9) (tgt := 21) (by decide +kernel) (by decide) kt kf
theorem b155_15 {d : Nat} {x0 : Int32} {x1 : Int32} {o2 : Option Value} {o3 : Option Value} {o4 : Option Value} {o5 : Option Value} {o6 : Option Value} {o7 : Option Value} {S : fm_S} {r : Option Value × am_W} (nx : am_Ev d 155 57 [some (.int x0), some (.int x1), o2, o3, o4, o5, o6, o7] [.long 192018050520] (fm_mk S) r) : am_Ev d 155 15 [some (.int x0), some (.int x1), o2, o3, o4, o5, o6, o7] [] (fm_mk S) r := by
  refine fs_ldc2 (idx := 131) (q := 1092) (v := 192018050520) (by decide +kernel) (by decide +kernel) ?_
  refine fs_goto (off := 39) (tgt := 57) (by decide +kernel) (by decide) ?_
  exact nx
theorem b155_21 {d : Nat} {x0 : Int32} {x1 : Int32} {o2 : Option Value} {o3 : Option Value} {o4 : Option Value} {o5 : Option Value} {o6 : Option Value} {o7 : Option Value} {S : fm_S} {r : Option Value × am_W} (kt : ¬ x0 = 2 → am_Ev d 155 32 [some (.int x0), some (.int x1), o2, o3, o4, o5, o6, o7] [] (fm_mk S) r) (kf : x0 = 2 → am_Ev d 155 26 [some (.int x0), some (.int x1), o2, o3, o4, o5, o6, o7] [] (fm_mk S) r) : am_Ev d 155 21 [some (.int x0), some (.int x1), o2, o3, o4, o5, o6, o7] [] (fm_mk S) r := by
  refine fs_iloadn (j := 0) (by decide +kernel) rfl ?_
  refine fs_iconst (n := 2) (v := 2) (by decide +kernel) (by decide) ?_
  exact fs_icne (off := 9) (tgt := 32) (by decide +kernel) (by decide) kt kf
theorem b155_26 {d : Nat} {x0 : Int32} {x1 : Int32} {o2 : Option Value} {o3 : Option Value} {o4 : Option Value} {o5 : Option Value} {o6 : Option Value} {o7 : Option Value} {S : fm_S} {r : Option Value × am_W} (nx : am_Ev d 155 57 [some (.int x0), some (.int x1), o2, o3, o4, o5, o6, o7] [.long 12011405] (fm_mk S) r) : am_Ev d 155 26 [some (.int x0), some (.int x1), o2, o3, o4, o5, o6, o7] [] (fm_mk S) r := by
  refine fs_ldc2 (idx := 133) (q := 1093) (v := 12011405) (by decide +kernel) (by decide +kernel) ?_
  refine fs_goto (off := 28) (tgt := 57) (by decide +kernel) (by decide) ?_
  exact nx
theorem b155_32 {d : Nat} {x0 : Int32} {x1 : Int32} {o2 : Option Value} {o3 : Option Value} {o4 : Option Value} {o5 : Option Value} {o6 : Option Value} {o7 : Option Value} {S : fm_S} {r : Option Value × am_W} (kt : ¬ x0 = 3 → am_Ev d 155 43 [some (.int x0), some (.int x1), o2, o3, o4, o5, o6, o7] [] (fm_mk S) r) (kf : x0 = 3 → am_Ev d 155 37 [some (.int x0), some (.int x1), o2, o3, o4, o5, o6, o7] [] (fm_mk S) r) : am_Ev d 155 32 [some (.int x0), some (.int x1), o2, o3, o4, o5, o6, o7] [] (fm_mk S) r := by
  refine fs_iloadn (j := 0) (by decide +kernel) rfl ?_
  refine fs_iconst (n := 3) (v := 3) (by decide +kernel) (by decide) ?_
  exact fs_icne (off := 9) (tgt := 43) (by decide +kernel) (by decide) kt kf
theorem b155_37 {d : Nat} {x0 : Int32} {x1 : Int32} {o2 : Option Value} {o3 : Option Value} {o4 : Option Value} {o5 : Option Value} {o6 : Option Value} {o7 : Option Value} {S : fm_S} {r : Option Value × am_W} (nx : am_Ev d 155 57 [some (.int x0), some (.int x1), o2, o3, o4, o5, o6, o7] [.long 7012005] (fm_mk S) r) : am_Ev d 155 37 [some (.int x0), some (.int x1), o2, o3, o4, o5, o6, o7] [] (fm_mk S) r := by
  refine fs_ldc2 (idx := 135) (q := 1094) (v := 7012005) (by decide +kernel) (by decide +kernel) ?_
  refine fs_goto (off := 17) (tgt := 57) (by decide +kernel) (by decide) ?_
  exact nx
theorem b155_43 {d : Nat} {x0 : Int32} {x1 : Int32} {o2 : Option Value} {o3 : Option Value} {o4 : Option Value} {o5 : Option Value} {o6 : Option Value} {o7 : Option Value} {S : fm_S} {r : Option Value × am_W} (kt : ¬ x0 = 4 → am_Ev d 155 54 [some (.int x0), some (.int x1), o2, o3, o4, o5, o6, o7] [] (fm_mk S) r) (kf : x0 = 4 → am_Ev d 155 48 [some (.int x0), some (.int x1), o2, o3, o4, o5, o6, o7] [] (fm_mk S) r) : am_Ev d 155 43 [some (.int x0), some (.int x1), o2, o3, o4, o5, o6, o7] [] (fm_mk S) r := by
  refine fs_iloadn (j := 0) (by decide +kernel) rfl ?_
  refine fs_iconst (n := 4) (v := 4) (by decide +kernel) (by decide) ?_
  exact fs_icne (off := 9) (tgt := 54) (by decide +kernel) (by decide) kt kf
theorem b155_48 {d : Nat} {x0 : Int32} {x1 : Int32} {o2 : Option Value} {o3 : Option Value} {o4 : Option Value} {o5 : Option Value} {o6 : Option Value} {o7 : Option Value} {S : fm_S} {r : Option Value × am_W} (nx : am_Ev d 155 57 [some (.int x0), some (.int x1), o2, o3, o4, o5, o6, o7] [.long 23091404] (fm_mk S) r) : am_Ev d 155 48 [some (.int x0), some (.int x1), o2, o3, o4, o5, o6, o7] [] (fm_mk S) r := by
  refine fs_ldc2 (idx := 137) (q := 1095) (v := 23091404) (by decide +kernel) (by decide +kernel) ?_
  refine fs_goto (off := 6) (tgt := 57) (by decide +kernel) (by decide) ?_
  exact nx
theorem b155_54 {d : Nat} {x0 : Int32} {x1 : Int32} {o2 : Option Value} {o3 : Option Value} {o4 : Option Value} {o5 : Option Value} {o6 : Option Value} {o7 : Option Value} {S : fm_S} {r : Option Value × am_W} (nx : am_Ev d 155 57 [some (.int x0), some (.int x1), o2, o3, o4, o5, o6, o7] [.long 4091908] (fm_mk S) r) : am_Ev d 155 54 [some (.int x0), some (.int x1), o2, o3, o4, o5, o6, o7] [] (fm_mk S) r := by
  refine fs_ldc2 (idx := 139) (q := 1096) (v := 4091908) (by decide +kernel) (by decide +kernel) ?_
  exact nx
theorem b155_57 {d : Nat} {x0 : Int32} {x1 : Int32} {o2 : Option Value} {o3 : Option Value} {o4 : Option Value} {o5 : Option Value} {o6 : Option Value} {o7 : Option Value} {sy0 : Int64} {S : fm_S} {r : Option Value × am_W} (kt : ¬ x0 = 1 → am_Ev d 155 68 [some (.int x0), some (.int x1), some (.long sy0), none, o4, o5, o6, o7] [] (fm_mk S) r) (kf : x0 = 1 → am_Ev d 155 63 [some (.int x0), some (.int x1), some (.long sy0), none, o4, o5, o6, o7] [] (fm_mk S) r) : am_Ev d 155 57 [some (.int x0), some (.int x1), o2, o3, o4, o5, o6, o7] [.long sy0] (fm_mk S) r := by
  refine fs_lstoren (j := 2) (L' := [some (.int x0), some (.int x1), some (.long sy0), none, o4, o5, o6, o7]) (by decide +kernel) (Nat.le_of_ble_eq_true rfl) rfl ?_
  refine fs_iloadn (j := 0) (by decide +kernel) rfl ?_
  refine fs_iconst (n := 1) (v := 1) (by decide +kernel) (by decide) ?_
  exact fs_icne (off := 8) (tgt := 68) (by decide +kernel) (by decide) kt kf
theorem b155_63 {d : Nat} {x0 : Int32} {x1 : Int32} {y2 : Int64} {o4 : Option Value} {o5 : Option Value} {o6 : Option Value} {o7 : Option Value} {S : fm_S} {r : Option Value × am_W} (nx : am_Ev d 155 69 [some (.int x0), some (.int x1), some (.long y2), none, o4, o5, o6, o7] [.int 6] (fm_mk S) r) : am_Ev d 155 63 [some (.int x0), some (.int x1), some (.long y2), none, o4, o5, o6, o7] [] (fm_mk S) r := by
  refine fs_bipush (n := 6) (v := 6) (by decide +kernel) (by decide) ?_
  refine fs_goto (off := 4) (tgt := 69) (by decide +kernel) (by decide) ?_
  exact nx
theorem b155_68 {d : Nat} {x0 : Int32} {x1 : Int32} {y2 : Int64} {o4 : Option Value} {o5 : Option Value} {o6 : Option Value} {o7 : Option Value} {S : fm_S} {r : Option Value × am_W} (nx : am_Ev d 155 69 [some (.int x0), some (.int x1), some (.long y2), none, o4, o5, o6, o7] [.int 4] (fm_mk S) r) : am_Ev d 155 68 [some (.int x0), some (.int x1), some (.long y2), none, o4, o5, o6, o7] [] (fm_mk S) r := by
  refine fs_iconst (n := 4) (v := 4) (by decide +kernel) (by decide) ?_
  exact nx
theorem b155_69 {d : Nat} {x0 : Int32} {x1 : Int32} {y2 : Int64} {o4 : Option Value} {o5 : Option Value} {o6 : Option Value} {o7 : Option Value} {sx0 : Int32} {S : fm_S} {r : Option Value × am_W} (nx : am_Ev d 155 80 [some (.int x0), some (.int x1), some (.long y2), none, some (.int sx0), some (.long y2), none, some (.int (sx0 - 1))] [] (fm_mk S) r) : am_Ev d 155 69 [some (.int x0), some (.int x1), some (.long y2), none, o4, o5, o6, o7] [.int sx0] (fm_mk S) r := by
  refine fs_istore (j := 4) (L' := [some (.int x0), some (.int x1), some (.long y2), none, some (.int sx0), o5, o6, o7]) (by decide +kernel) (Nat.le_of_ble_eq_true rfl) rfl ?_
  refine fs_lloadn (j := 2) (by decide +kernel) rfl ?_
  refine fs_lstore (j := 5) (L' := [some (.int x0), some (.int x1), some (.long y2), none, some (.int sx0), some (.long y2), none, o7]) (by decide +kernel) (Nat.le_of_ble_eq_true rfl) rfl ?_
  refine fs_iload (j := 4) (by decide +kernel) rfl ?_
  refine fs_iconst (n := 1) (v := 1) (by decide +kernel) (by decide) ?_
  refine fs_isub (by decide +kernel) ?_
  refine fs_istore (j := 7) (L' := [some (.int x0), some (.int x1), some (.long y2), none, some (.int sx0), some (.long y2), none, some (.int (sx0 - 1))]) (by decide +kernel) (Nat.le_of_ble_eq_true rfl) rfl ?_
  exact nx
theorem b155_80 {d : Nat} {x0 : Int32} {x1 : Int32} {y2 : Int64} {x4 : Int32} {y5 : Int64} {x7 : Int32} {S : fm_S} {r : Option Value × am_W} (kt : x7 ≤ x1 → am_Ev d 155 100 [some (.int x0), some (.int x1), some (.long y2), none, some (.int x4), some (.long y5), none, some (.int x7)] [] (fm_mk S) r) (kf : ¬ x7 ≤ x1 → am_Ev d 155 86 [some (.int x0), some (.int x1), some (.long y2), none, some (.int x4), some (.long y5), none, some (.int x7)] [] (fm_mk S) r) : am_Ev d 155 80 [some (.int x0), some (.int x1), some (.long y2), none, some (.int x4), some (.long y5), none, some (.int x7)] [] (fm_mk S) r := by
  refine fs_iload (j := 7) (by decide +kernel) rfl ?_
  refine fs_iloadn (j := 1) (by decide +kernel) rfl ?_
  exact fs_icle (off := 17) (tgt := 100) (by decide +kernel) (by decide) kt kf
theorem b155_86 {d : Nat} {x0 : Int32} {x1 : Int32} {y2 : Int64} {x4 : Int32} {y5 : Int64} {x7 : Int32} {S : fm_S} {r : Option Value × am_W} (nx : am_Ev d 155 80 [some (.int x0), some (.int x1), some (.long y2), none, some (.int x4), some (.long (y5 / 100)), none, some (.int (x7 + (-1)))] [] (fm_mk S) r) : am_Ev d 155 86 [some (.int x0), some (.int x1), some (.long y2), none, some (.int x4), some (.long y5), none, some (.int x7)] [] (fm_mk S) r := by
  refine fs_lload (j := 5) (by decide +kernel) rfl ?_
  refine fs_ldc2 (idx := 141) (q := 1097) (v := 100) (by decide +kernel) (by decide +kernel) ?_
  refine fe_ldiv (by decide +kernel) (by decide) ?_
  refine fs_lstore (j := 5) (L' := [some (.int x0), some (.int x1), some (.long y2), none, some (.int x4), some (.long (y5 / 100)), none, some (.int x7)]) (by decide +kernel) (Nat.le_of_ble_eq_true rfl) rfl ?_
  refine fs_iinc (j := 7) (n := -1) (v := (-1)) (L' := [some (.int x0), some (.int x1), some (.long y2), none, some (.int x4), some (.long (y5 / 100)), none, some (.int (x7 + (-1)))]) (by decide +kernel) rfl (Nat.le_of_ble_eq_true rfl) (by decide) rfl ?_
  refine fs_goto (off := -17) (tgt := 80) (by decide +kernel) (by decide) ?_
  exact nx
theorem b155_100 {d : Nat} {x0 : Int32} {x1 : Int32} {y2 : Int64} {x4 : Int32} {y5 : Int64} {x7 : Int32} {S : fm_S} {r : Option Value × am_W} (kt : x4 ≤ x1 → am_Ev d 155 119 [some (.int x0), some (.int x1), some (.long y2), none, some (.int x4), some (.long y5), none, some (.int x7)] [] (fm_mk S) r) (kf : ¬ x4 ≤ x1 → am_Ev d 155 106 [some (.int x0), some (.int x1), some (.long y2), none, some (.int x4), some (.long y5), none, some (.int x7)] [] (fm_mk S) r) : am_Ev d 155 100 [some (.int x0), some (.int x1), some (.long y2), none, some (.int x4), some (.long y5), none, some (.int x7)] [] (fm_mk S) r := by
  refine fs_iloadn (j := 1) (by decide +kernel) rfl ?_
  refine fs_iload (j := 4) (by decide +kernel) rfl ?_
  exact fs_icge (off := 16) (tgt := 119) (by decide +kernel) (by decide) kt kf
theorem b155_106 {d : Nat} {x0 : Int32} {x1 : Int32} {y2 : Int64} {x4 : Int32} {y5 : Int64} {x7 : Int32} {S : fm_S} {r : Option Value × am_W} (nx : am_Ev d 155 120 [some (.int x0), some (.int x1), some (.long y2), none, some (.int x4), some (.long y5), none, some (.int x7)] [.int (((y5 - y5 / 100 * 100).toInt32) + 96)] (fm_mk S) r) : am_Ev d 155 106 [some (.int x0), some (.int x1), some (.long y2), none, some (.int x4), some (.long y5), none, some (.int x7)] [] (fm_mk S) r := by
  refine fs_lload (j := 5) (by decide +kernel) rfl ?_
  refine fs_ldc2 (idx := 141) (q := 1097) (v := 100) (by decide +kernel) (by decide +kernel) ?_
  refine fe_lrem (by decide +kernel) (by decide) ?_
  refine fs_l2i (by decide +kernel) ?_
  refine fs_bipush (n := 96) (v := 96) (by decide +kernel) (by decide) ?_
  refine fs_iadd (by decide +kernel) ?_
  refine fs_goto (off := 4) (tgt := 120) (by decide +kernel) (by decide) ?_
  exact nx
theorem b155_119 {d : Nat} {x0 : Int32} {x1 : Int32} {y2 : Int64} {x4 : Int32} {y5 : Int64} {x7 : Int32} {S : fm_S} {r : Option Value × am_W} (nx : am_Ev d 155 120 [some (.int x0), some (.int x1), some (.long y2), none, some (.int x4), some (.long y5), none, some (.int x7)] [.int 0] (fm_mk S) r) : am_Ev d 155 119 [some (.int x0), some (.int x1), some (.long y2), none, some (.int x4), some (.long y5), none, some (.int x7)] [] (fm_mk S) r := by
  refine fs_iconst (n := 0) (v := 0) (by decide +kernel) (by decide) ?_
  exact nx
theorem b155_120 {d : Nat} {x0 : Int32} {x1 : Int32} {y2 : Int64} {x4 : Int32} {y5 : Int64} {x7 : Int32} {sx0 : Int32} {S : fm_S}  : am_Ev d 155 120 [some (.int x0), some (.int x1), some (.long y2), none, some (.int x4), some (.long y5), none, some (.int x7)] [.int sx0] (fm_mk S) (some (.int sx0), fm_mk S) := by
  exact fe_retI (by decide +kernel) (by decide +kernel)
-- KitchenSiegeModel.fails(I)Z
theorem b156_0 {d : Nat} {x1 : Int32} {S : fm_S} {r : Option Value × am_W} (kt : (S.1 231 5) ≤ x1 → am_Ev d 156 13 [some (.ref 231), some (.int x1)] [.ref 231] (fm_mk S) r) (kf : ¬ (S.1 231 5) ≤ x1 → am_Ev d 156 9 [some (.ref 231), some (.int x1)] [.ref 231] (fm_mk S) r) : am_Ev d 156 0 [some (.ref 231), some (.int x1)] [] (fm_mk S) r := by
  refine fs_aloadn (j := 0) (by decide +kernel) rfl ?_
  refine fs_iloadn (j := 1) (by decide +kernel) rfl ?_
  refine fs_aloadn (j := 0) (by decide +kernel) rfl ?_
  refine fe_getI (idx := 104) (t := 8) (f := 5) (fk := 0) (fin := 0) (wp := 948) (by decide +kernel) (by decide +kernel) (by decide +kernel) (by decide +kernel) ?_
  exact fs_icge (off := 7) (tgt := 13) (by decide +kernel) (by decide) kt kf
theorem b156_9 {d : Nat} {x1 : Int32} {S : fm_S} {r : Option Value × am_W} (nx : am_Ev d 156 17 [some (.ref 231), some (.int x1)] [.int x1, .ref 231] (fm_mk S) r) : am_Ev d 156 9 [some (.ref 231), some (.int x1)] [.ref 231] (fm_mk S) r := by
  refine fs_iloadn (j := 1) (by decide +kernel) rfl ?_
  refine fs_goto (off := 7) (tgt := 17) (by decide +kernel) (by decide) ?_
  exact nx
theorem b156_13 {d : Nat} {x1 : Int32} {S : fm_S} {r : Option Value × am_W} (nx : am_Ev d 156 17 [some (.ref 231), some (.int x1)] [.int (S.1 231 5), .ref 231] (fm_mk S) r) : am_Ev d 156 13 [some (.ref 231), some (.int x1)] [.ref 231] (fm_mk S) r := by
  refine fs_aloadn (j := 0) (by decide +kernel) rfl ?_
  refine fe_getI (idx := 104) (t := 8) (f := 5) (fk := 0) (fin := 0) (wp := 948) (by decide +kernel) (by decide +kernel) (by decide +kernel) (by decide +kernel) ?_
  exact nx
theorem b156_17 {d : Nat} {x1 : Int32} {sx1 : Int32} {S : fm_S}  : am_Ev d 156 17 [some (.ref 231), some (.int x1)] [.int sx1, .ref 231] (fm_mk S) (some (.int 0), fm_mk (fm_wI S 231 12 sx1)) := by
  refine fe_putI (idx := 114) (t := 8) (f := 12) (wp := 955) (by decide +kernel) (by decide +kernel) (by decide +kernel) (by decide +kernel) ?_
  refine fs_iconst (n := 0) (v := 0) (by decide +kernel) (by decide) ?_
  exact fe_retZ (by decide +kernel) (by decide +kernel) (by decide)
-- KitchenSiegeModel.item(I)Z
theorem b157_0 {d : Nat} {x1 : Int32} {S : fm_S} {r : Option Value × am_W} (k0 : x1 = 0 → am_Ev d 157 36 [some (.ref 231), some (.int x1)] [] (fm_mk S) r) (k1 : x1 = 1 → am_Ev d 157 41 [some (.ref 231), some (.int x1)] [] (fm_mk S) r) (k2 : x1 = 2 → am_Ev d 157 108 [some (.ref 231), some (.int x1)] [] (fm_mk S) r) (k3 : x1 = 3 → am_Ev d 157 113 [some (.ref 231), some (.int x1)] [] (fm_mk S) r) (k4 : x1 = 4 → am_Ev d 157 171 [some (.ref 231), some (.int x1)] [] (fm_mk S) r) (kd : ¬ x1 = 0 → ¬ x1 = 1 → ¬ x1 = 2 → ¬ x1 = 3 → ¬ x1 = 4 → am_Ev d 157 222 [some (.ref 231), some (.int x1)] [] (fm_mk S) r) : am_Ev d 157 0 [some (.ref 231), some (.int x1)] [] (fm_mk S) r := by
  refine fs_iloadn (j := 1) (by decide +kernel) rfl ?_
  by_cases c0 : x1 = 0
  · exact fs_sw (i := .tableswitch 221 0 4 #[35, 40, 107, 112, 170]) (z := 35) (by decide +kernel) rfl (by rw [c0]; rfl) (k0 c0)
  by_cases c1 : x1 = 1
  · exact fs_sw (i := .tableswitch 221 0 4 #[35, 40, 107, 112, 170]) (z := 35) (by decide +kernel) rfl (by rw [c1]; rfl) (k1 c1)
  by_cases c2 : x1 = 2
  · exact fs_sw (i := .tableswitch 221 0 4 #[35, 40, 107, 112, 170]) (z := 35) (by decide +kernel) rfl (by rw [c2]; rfl) (k2 c2)
  by_cases c3 : x1 = 3
  · exact fs_sw (i := .tableswitch 221 0 4 #[35, 40, 107, 112, 170]) (z := 35) (by decide +kernel) rfl (by rw [c3]; rfl) (k3 c3)
  by_cases c4 : x1 = 4
  · exact fs_sw (i := .tableswitch 221 0 4 #[35, 40, 107, 112, 170]) (z := 35) (by decide +kernel) rfl (by rw [c4]; rfl) (k4 c4)
  have e0 : ¬ (x1).toInt = 0 := fun q => c0 (Int32.toInt_inj.mp (q.trans (by decide)))
  have e1 : ¬ (x1).toInt = 1 := fun q => c1 (Int32.toInt_inj.mp (q.trans (by decide)))
  have e2 : ¬ (x1).toInt = 2 := fun q => c2 (Int32.toInt_inj.mp (q.trans (by decide)))
  have e3 : ¬ (x1).toInt = 3 := fun q => c3 (Int32.toInt_inj.mp (q.trans (by decide)))
  have e4 : ¬ (x1).toInt = 4 := fun q => c4 (Int32.toInt_inj.mp (q.trans (by decide)))
  exact fs_tout (dflt := 221) (lo := 0) (hi := 4) (offs := #[35, 40, 107, 112, 170]) (z := 35) (by decide +kernel) (by omega) (by decide) (kd c0 c1 c2 c3 c4)
theorem b157_36 {d : Nat} {x1 : Int32} {v : Int32} {S1 : fm_S} {S : fm_S} {r : Option Value × am_W} (hc : am_Sp d 158 [.ref 231] (fm_mk S) (some (.int v)) (fm_mk S1)) (nx : am_Ev (d + 1) 157 40 [some (.ref 231), some (.int x1)] [.int v] (fm_mk S1) r) : am_Ev (d + 1) 157 36 [some (.ref 231), some (.int x1)] [] (fm_mk S) r := by
  refine fs_aloadn (j := 0) (by decide +kernel) rfl ?_
  exact fe_callV (idx := 155) (n := 0) (wp := 1106) (q := (1108, 40)) (as := []) (rs := []) (by decide +kernel) (by decide +kernel) (by decide +kernel) (by decide +kernel) rfl (Nat.le_of_ble_eq_true rfl) rfl hc nx
theorem b157_40 {d : Nat} {x1 : Int32} {sx0 : Int32} {S : fm_S}  (hz : sx0 = 0 ∨ sx0 = 1) : am_Ev d 157 40 [some (.ref 231), some (.int x1)] [.int sx0] (fm_mk S) (some (.int sx0), fm_mk S) := by
  exact fe_retZ (by decide +kernel) (by decide +kernel) hz
theorem b157_41 {d : Nat} {x1 : Int32} {v : Int32} {S1 : fm_S} {S : fm_S} {r : Option Value × am_W} (hc : am_Sp d 159 [.ref 231, .int 0, .int 0, .int 5] (fm_mk S) (some (.int v)) (fm_mk S1)) (nx : am_Ev (d + 1) 157 48 [some (.ref 231), some (.int x1)] [.int v] (fm_mk S1) r) : am_Ev (d + 1) 157 41 [some (.ref 231), some (.int x1)] [] (fm_mk S) r := by
  refine fs_aloadn (j := 0) (by decide +kernel) rfl ?_
  refine fs_iconst (n := 0) (v := 0) (by decide +kernel) (by decide) ?_
  refine fs_iconst (n := 0) (v := 0) (by decide +kernel) (by decide) ?_
  refine fs_iconst (n := 5) (v := 5) (by decide +kernel) (by decide) ?_
  exact fe_callV (idx := 151) (n := 3) (wp := 1110) (q := (1112, 41)) (as := [.int 0, .int 0, .int 5]) (rs := []) (by decide +kernel) (by decide +kernel) (by decide +kernel) (by decide +kernel) rfl (Nat.le_of_ble_eq_true rfl) rfl hc nx
theorem b157_48 {d : Nat} {x1 : Int32} {sx0 : Int32} {S : fm_S} {r : Option Value × am_W} (kt : sx0 = 0 → am_Ev d 157 79 [some (.ref 231), some (.int x1)] [] (fm_mk S) r) (kf : ¬ sx0 = 0 → am_Ev d 157 51 [some (.ref 231), some (.int x1)] [] (fm_mk S) r) : am_Ev d 157 48 [some (.ref 231), some (.int x1)] [.int sx0] (fm_mk S) r := by
  exact fs_ifeq (off := 31) (tgt := 79) (by decide +kernel) (by decide) kt kf
theorem b157_51 {d : Nat} {x1 : Int32} {v : Int32} {S1 : fm_S} {S : fm_S} {r : Option Value × am_W} (hc : am_Sp d 159 [.ref 231, .int 1, .int 0, .int 9] (fm_mk S) (some (.int v)) (fm_mk S1)) (nx : am_Ev (d + 1) 157 59 [some (.ref 231), some (.int x1)] [.int v] (fm_mk S1) r) : am_Ev (d + 1) 157 51 [some (.ref 231), some (.int x1)] [] (fm_mk S) r := by
  refine fs_aloadn (j := 0) (by decide +kernel) rfl ?_
  refine fs_iconst (n := 1) (v := 1) (by decide +kernel) (by decide) ?_
  refine fs_iconst (n := 0) (v := 0) (by decide +kernel) (by decide) ?_
  refine fs_bipush (n := 9) (v := 9) (by decide +kernel) (by decide) ?_
  exact fe_callV (idx := 151) (n := 3) (wp := 1110) (q := (1112, 41)) (as := [.int 1, .int 0, .int 9]) (rs := []) (by decide +kernel) (by decide +kernel) (by decide +kernel) (by decide +kernel) rfl (Nat.le_of_ble_eq_true rfl) rfl hc nx
theorem b157_59 {d : Nat} {x1 : Int32} {sx0 : Int32} {S : fm_S} {r : Option Value × am_W} (kt : sx0 = 0 → am_Ev d 157 79 [some (.ref 231), some (.int x1)] [] (fm_mk S) r) (kf : ¬ sx0 = 0 → am_Ev d 157 62 [some (.ref 231), some (.int x1)] [] (fm_mk S) r) : am_Ev d 157 59 [some (.ref 231), some (.int x1)] [.int sx0] (fm_mk S) r := by
  exact fs_ifeq (off := 20) (tgt := 79) (by decide +kernel) (by decide) kt kf
theorem b157_62 {d : Nat} {x1 : Int32} {v : Int32} {S1 : fm_S} {S : fm_S} {r : Option Value × am_W} (hc : am_Sp d 159 [.ref 231, .int 2, .int 0, .int 5] (fm_mk S) (some (.int v)) (fm_mk S1)) (nx : am_Ev (d + 1) 157 69 [some (.ref 231), some (.int x1)] [.int v] (fm_mk S1) r) : am_Ev (d + 1) 157 62 [some (.ref 231), some (.int x1)] [] (fm_mk S) r := by
  refine fs_aloadn (j := 0) (by decide +kernel) rfl ?_
  refine fs_iconst (n := 2) (v := 2) (by decide +kernel) (by decide) ?_
  refine fs_iconst (n := 0) (v := 0) (by decide +kernel) (by decide) ?_
  refine fs_iconst (n := 5) (v := 5) (by decide +kernel) (by decide) ?_
  exact fe_callV (idx := 151) (n := 3) (wp := 1110) (q := (1112, 41)) (as := [.int 2, .int 0, .int 5]) (rs := []) (by decide +kernel) (by decide +kernel) (by decide +kernel) (by decide +kernel) rfl (Nat.le_of_ble_eq_true rfl) rfl hc nx
theorem b157_69 {d : Nat} {x1 : Int32} {sx0 : Int32} {S : fm_S} {r : Option Value × am_W} (kt : sx0 = 0 → am_Ev d 157 79 [some (.ref 231), some (.int x1)] [] (fm_mk S) r) (kf : ¬ sx0 = 0 → am_Ev d 157 72 [some (.ref 231), some (.int x1)] [] (fm_mk S) r) : am_Ev d 157 69 [some (.ref 231), some (.int x1)] [.int sx0] (fm_mk S) r := by
  exact fs_ifeq (off := 10) (tgt := 79) (by decide +kernel) (by decide) kt kf
theorem b157_72 {d : Nat} {x1 : Int32} {v : Int32} {S1 : fm_S} {S : fm_S} {r : Option Value × am_W} (hc : am_Sp d 158 [.ref 231] (fm_mk S) (some (.int v)) (fm_mk S1)) (nx : am_Ev (d + 1) 157 76 [some (.ref 231), some (.int x1)] [.int v] (fm_mk S1) r) : am_Ev (d + 1) 157 72 [some (.ref 231), some (.int x1)] [] (fm_mk S) r := by
  refine fs_aloadn (j := 0) (by decide +kernel) rfl ?_
  exact fe_callV (idx := 155) (n := 0) (wp := 1106) (q := (1108, 40)) (as := []) (rs := []) (by decide +kernel) (by decide +kernel) (by decide +kernel) (by decide +kernel) rfl (Nat.le_of_ble_eq_true rfl) rfl hc nx
theorem b157_76 {d : Nat} {x1 : Int32} {sx0 : Int32} {S : fm_S} {r : Option Value × am_W} (kt : ¬ sx0 = 0 → am_Ev d 157 81 [some (.ref 231), some (.int x1)] [] (fm_mk S) r) (kf : sx0 = 0 → am_Ev d 157 79 [some (.ref 231), some (.int x1)] [] (fm_mk S) r) : am_Ev d 157 76 [some (.ref 231), some (.int x1)] [.int sx0] (fm_mk S) r := by
  exact fs_ifne (off := 5) (tgt := 81) (by decide +kernel) (by decide) kt kf
theorem b157_79 {d : Nat} {x1 : Int32} {S : fm_S}  : am_Ev d 157 79 [some (.ref 231), some (.int x1)] [] (fm_mk S) (some (.int 0), fm_mk S) := by
  refine fs_iconst (n := 0) (v := 0) (by decide +kernel) (by decide) ?_
  exact fe_retZ (by decide +kernel) (by decide +kernel) (by decide)
theorem b157_81 {d : Nat} {x1 : Int32} {S1 : fm_S} {S : fm_S} {r : Option Value × am_W} (hc : am_Sp d 140 [.ref 233, .int (S.1 237 0), .int (S.1 237 1), .int (S.1 237 2)] (fm_mk S) (none) (fm_mk S1)) (nx : am_Ev (d + 1) 157 106 [some (.ref 231), some (.int x1)] [] (fm_mk S1) r) : am_Ev (d + 1) 157 81 [some (.ref 231), some (.int x1)] [] (fm_mk S) r := by
  refine fs_aloadn (j := 0) (by decide +kernel) rfl ?_
  refine fe_getR (idx := 13) (t := 8) (f := 1) (fk := 2) (fin := 1) (wp := 944) (x := 233) (by decide +kernel) (by decide +kernel) (by decide +kernel) (by decide +kernel) (by decide +kernel) ?_
  refine fs_aloadn (j := 0) (by decide +kernel) rfl ?_
  refine fe_getR (idx := 25) (t := 8) (f := 13) (fk := 2) (fin := 1) (wp := 956) (x := 237) (by decide +kernel) (by decide +kernel) (by decide +kernel) (by decide +kernel) (by decide +kernel) ?_
  refine fs_iconst (n := 0) (v := 0) (by decide +kernel) (by decide) ?_
  refine fx_iald (n := 0) (len := 3) (by decide +kernel) (by decide +kernel) (by decide +kernel) (vp_c (by decide) (by decide)) (by decide) ?_
  refine fs_aloadn (j := 0) (by decide +kernel) rfl ?_
  refine fe_getR (idx := 25) (t := 8) (f := 13) (fk := 2) (fin := 1) (wp := 956) (x := 237) (by decide +kernel) (by decide +kernel) (by decide +kernel) (by decide +kernel) (by decide +kernel) ?_
  refine fs_iconst (n := 1) (v := 1) (by decide +kernel) (by decide) ?_
  refine fx_iald (n := 1) (len := 3) (by decide +kernel) (by decide +kernel) (by decide +kernel) (vp_c (by decide) (by decide)) (by decide) ?_
  refine fs_aloadn (j := 0) (by decide +kernel) rfl ?_
  refine fe_getR (idx := 25) (t := 8) (f := 13) (fk := 2) (fin := 1) (wp := 956) (x := 237) (by decide +kernel) (by decide +kernel) (by decide +kernel) (by decide +kernel) (by decide +kernel) ?_
  refine fs_iconst (n := 2) (v := 2) (by decide +kernel) (by decide) ?_
  refine fx_iald (n := 2) (len := 3) (by decide +kernel) (by decide +kernel) (by decide +kernel) (vp_c (by decide) (by decide)) (by decide) ?_
  exact fe_callS (idx := 80) (kd := 0) (n := 4) (wp := 1026) (q := (1027, 0)) (as := [.ref 233, .int (S.1 237 0), .int (S.1 237 1), .int (S.1 237 2)]) (rs := []) (by decide +kernel) (by decide +kernel) (by decide +kernel) (by decide) rfl (Nat.le_of_ble_eq_true rfl) rfl hc nx
theorem b157_106 {d : Nat} {x1 : Int32} {S : fm_S}  : am_Ev d 157 106 [some (.ref 231), some (.int x1)] [] (fm_mk S) (some (.int 1), fm_mk S) := by
  refine fs_iconst (n := 1) (v := 1) (by decide +kernel) (by decide) ?_
  exact fe_retZ (by decide +kernel) (by decide +kernel) (by decide)
theorem b157_108 {d : Nat} {x1 : Int32} {v : Int32} {S1 : fm_S} {S : fm_S} {r : Option Value × am_W} (hc : am_Sp d 160 [.ref 231] (fm_mk S) (some (.int v)) (fm_mk S1)) (nx : am_Ev (d + 1) 157 112 [some (.ref 231), some (.int x1)] [.int v] (fm_mk S1) r) : am_Ev (d + 1) 157 108 [some (.ref 231), some (.int x1)] [] (fm_mk S) r := by
  refine fs_aloadn (j := 0) (by decide +kernel) rfl ?_
  exact fe_callV (idx := 159) (n := 0) (wp := 1117) (q := (1119, 42)) (as := []) (rs := []) (by decide +kernel) (by decide +kernel) (by decide +kernel) (by decide +kernel) rfl (Nat.le_of_ble_eq_true rfl) rfl hc nx
theorem b157_112 {d : Nat} {x1 : Int32} {sx0 : Int32} {S : fm_S}  (hz : sx0 = 0 ∨ sx0 = 1) : am_Ev d 157 112 [some (.ref 231), some (.int x1)] [.int sx0] (fm_mk S) (some (.int sx0), fm_mk S) := by
  exact fe_retZ (by decide +kernel) (by decide +kernel) hz
theorem b157_113 {d : Nat} {x1 : Int32} {v : Int32} {S1 : fm_S} {S : fm_S} {r : Option Value × am_W} (hc : am_Sp d 159 [.ref 231, .int 0, .int 0, .int 3] (fm_mk S) (some (.int v)) (fm_mk S1)) (nx : am_Ev (d + 1) 157 120 [some (.ref 231), some (.int x1)] [.int v] (fm_mk S1) r) : am_Ev (d + 1) 157 113 [some (.ref 231), some (.int x1)] [] (fm_mk S) r := by
  refine fs_aloadn (j := 0) (by decide +kernel) rfl ?_
  refine fs_iconst (n := 0) (v := 0) (by decide +kernel) (by decide) ?_
  refine fs_iconst (n := 0) (v := 0) (by decide +kernel) (by decide) ?_
  refine fs_iconst (n := 3) (v := 3) (by decide +kernel) (by decide) ?_
  exact fe_callV (idx := 151) (n := 3) (wp := 1110) (q := (1112, 41)) (as := [.int 0, .int 0, .int 3]) (rs := []) (by decide +kernel) (by decide +kernel) (by decide +kernel) (by decide +kernel) rfl (Nat.le_of_ble_eq_true rfl) rfl hc nx
theorem b157_120 {d : Nat} {x1 : Int32} {sx0 : Int32} {S : fm_S} {r : Option Value × am_W} (kt : sx0 = 0 → am_Ev d 157 147 [some (.ref 231), some (.int x1)] [] (fm_mk S) r) (kf : ¬ sx0 = 0 → am_Ev d 157 123 [some (.ref 231), some (.int x1)] [] (fm_mk S) r) : am_Ev d 157 120 [some (.ref 231), some (.int x1)] [.int sx0] (fm_mk S) r := by
  exact fs_ifeq (off := 27) (tgt := 147) (by decide +kernel) (by decide) kt kf
theorem b157_123 {d : Nat} {x1 : Int32} {v : Int32} {S1 : fm_S} {S : fm_S} {r : Option Value × am_W} (hc : am_Sp d 159 [.ref 231, .int 1, .int 0, .int ((S.1 233 0) - 1)] (fm_mk S) (some (.int v)) (fm_mk S1)) (nx : am_Ev (d + 1) 157 137 [some (.ref 231), some (.int x1)] [.int v] (fm_mk S1) r) : am_Ev (d + 1) 157 123 [some (.ref 231), some (.int x1)] [] (fm_mk S) r := by
  refine fs_aloadn (j := 0) (by decide +kernel) rfl ?_
  refine fs_iconst (n := 1) (v := 1) (by decide +kernel) (by decide) ?_
  refine fs_iconst (n := 0) (v := 0) (by decide +kernel) (by decide) ?_
  refine fs_aloadn (j := 0) (by decide +kernel) rfl ?_
  refine fe_getR (idx := 13) (t := 8) (f := 1) (fk := 2) (fin := 1) (wp := 944) (x := 233) (by decide +kernel) (by decide +kernel) (by decide +kernel) (by decide +kernel) (by decide +kernel) ?_
  refine fs_iconst (n := 0) (v := 0) (by decide +kernel) (by decide) ?_
  refine fx_iald (n := 0) (len := 373) (by decide +kernel) (by decide +kernel) (by decide +kernel) (vp_c (by decide) (by decide)) (by decide) ?_
  refine fs_iconst (n := 1) (v := 1) (by decide +kernel) (by decide) ?_
  refine fs_isub (by decide +kernel) ?_
  exact fe_callV (idx := 151) (n := 3) (wp := 1110) (q := (1112, 41)) (as := [.int 1, .int 0, .int ((S.1 233 0) - 1)]) (rs := []) (by decide +kernel) (by decide +kernel) (by decide +kernel) (by decide +kernel) rfl (Nat.le_of_ble_eq_true rfl) rfl hc nx
theorem b157_137 {d : Nat} {x1 : Int32} {sx0 : Int32} {S : fm_S} {r : Option Value × am_W} (kt : sx0 = 0 → am_Ev d 157 147 [some (.ref 231), some (.int x1)] [] (fm_mk S) r) (kf : ¬ sx0 = 0 → am_Ev d 157 140 [some (.ref 231), some (.int x1)] [] (fm_mk S) r) : am_Ev d 157 137 [some (.ref 231), some (.int x1)] [.int sx0] (fm_mk S) r := by
  exact fs_ifeq (off := 10) (tgt := 147) (by decide +kernel) (by decide) kt kf
theorem b157_140 {d : Nat} {x1 : Int32} {v : Int32} {S1 : fm_S} {S : fm_S} {r : Option Value × am_W} (hc : am_Sp d 158 [.ref 231] (fm_mk S) (some (.int v)) (fm_mk S1)) (nx : am_Ev (d + 1) 157 144 [some (.ref 231), some (.int x1)] [.int v] (fm_mk S1) r) : am_Ev (d + 1) 157 140 [some (.ref 231), some (.int x1)] [] (fm_mk S) r := by
  refine fs_aloadn (j := 0) (by decide +kernel) rfl ?_
  exact fe_callV (idx := 155) (n := 0) (wp := 1106) (q := (1108, 40)) (as := []) (rs := []) (by decide +kernel) (by decide +kernel) (by decide +kernel) (by decide +kernel) rfl (Nat.le_of_ble_eq_true rfl) rfl hc nx
theorem b157_144 {d : Nat} {x1 : Int32} {sx0 : Int32} {S : fm_S} {r : Option Value × am_W} (kt : ¬ sx0 = 0 → am_Ev d 157 149 [some (.ref 231), some (.int x1)] [] (fm_mk S) r) (kf : sx0 = 0 → am_Ev d 157 147 [some (.ref 231), some (.int x1)] [] (fm_mk S) r) : am_Ev d 157 144 [some (.ref 231), some (.int x1)] [.int sx0] (fm_mk S) r := by
  exact fs_ifne (off := 5) (tgt := 149) (by decide +kernel) (by decide) kt kf
theorem b157_147 {d : Nat} {x1 : Int32} {S : fm_S}  : am_Ev d 157 147 [some (.ref 231), some (.int x1)] [] (fm_mk S) (some (.int 0), fm_mk S) := by
  refine fs_iconst (n := 0) (v := 0) (by decide +kernel) (by decide) ?_
  exact fe_retZ (by decide +kernel) (by decide +kernel) (by decide)
theorem b157_149 {d : Nat} {x1 : Int32} {S : fm_S}  (hi0 : vp_in (117 + (S.1 237 0)) 373) : am_Ev d 157 149 [some (.ref 231), some (.int x1)] [] (fm_mk S) (some (.int 1), fm_mk (fm_wI S 233 ((117 + (S.1 237 0)).toNatClampNeg) (S.1 237 1))) := by
  refine fs_aloadn (j := 0) (by decide +kernel) rfl ?_
  refine fe_getR (idx := 13) (t := 8) (f := 1) (fk := 2) (fin := 1) (wp := 944) (x := 233) (by decide +kernel) (by decide +kernel) (by decide +kernel) (by decide +kernel) (by decide +kernel) ?_
  refine fs_bipush (n := 117) (v := 117) (by decide +kernel) (by decide) ?_
  refine fs_aloadn (j := 0) (by decide +kernel) rfl ?_
  refine fe_getR (idx := 25) (t := 8) (f := 13) (fk := 2) (fin := 1) (wp := 956) (x := 237) (by decide +kernel) (by decide +kernel) (by decide +kernel) (by decide +kernel) (by decide +kernel) ?_
  refine fs_iconst (n := 0) (v := 0) (by decide +kernel) (by decide) ?_
  refine fx_iald (n := 0) (len := 3) (by decide +kernel) (by decide +kernel) (by decide +kernel) (vp_c (by decide) (by decide)) (by decide) ?_
  refine fs_iadd (by decide +kernel) ?_
  refine fs_aloadn (j := 0) (by decide +kernel) rfl ?_
  refine fe_getR (idx := 25) (t := 8) (f := 13) (fk := 2) (fin := 1) (wp := 956) (x := 237) (by decide +kernel) (by decide +kernel) (by decide +kernel) (by decide +kernel) (by decide +kernel) ?_
  refine fs_iconst (n := 1) (v := 1) (by decide +kernel) (by decide) ?_
  refine fx_iald (n := 1) (len := 3) (by decide +kernel) (by decide +kernel) (by decide +kernel) (vp_c (by decide) (by decide)) (by decide) ?_
  refine fx_iast (n := (117 + (S.1 237 0)).toNatClampNeg) (len := 373) (by decide +kernel) (by decide +kernel) (by decide +kernel) hi0 rfl ?_
  refine fs_iconst (n := 1) (v := 1) (by decide +kernel) (by decide) ?_
  exact fe_retZ (by decide +kernel) (by decide +kernel) (by decide)
theorem b157_171 {d : Nat} {x1 : Int32} {v : Int32} {S1 : fm_S} {S : fm_S} {r : Option Value × am_W} (hc : am_Sp d 159 [.ref 231, .int 0, .int 0, .int 3] (fm_mk S) (some (.int v)) (fm_mk S1)) (nx : am_Ev (d + 1) 157 178 [some (.ref 231), some (.int x1)] [.int v] (fm_mk S1) r) : am_Ev (d + 1) 157 171 [some (.ref 231), some (.int x1)] [] (fm_mk S) r := by
  refine fs_aloadn (j := 0) (by decide +kernel) rfl ?_
  refine fs_iconst (n := 0) (v := 0) (by decide +kernel) (by decide) ?_
  refine fs_iconst (n := 0) (v := 0) (by decide +kernel) (by decide) ?_
  refine fs_iconst (n := 3) (v := 3) (by decide +kernel) (by decide) ?_
  exact fe_callV (idx := 151) (n := 3) (wp := 1110) (q := (1112, 41)) (as := [.int 0, .int 0, .int 3]) (rs := []) (by decide +kernel) (by decide +kernel) (by decide +kernel) (by decide +kernel) rfl (Nat.le_of_ble_eq_true rfl) rfl hc nx
theorem b157_178 {d : Nat} {x1 : Int32} {sx0 : Int32} {S : fm_S} {r : Option Value × am_W} (kt : sx0 = 0 → am_Ev d 157 198 [some (.ref 231), some (.int x1)] [] (fm_mk S) r) (kf : ¬ sx0 = 0 → am_Ev d 157 181 [some (.ref 231), some (.int x1)] [] (fm_mk S) r) : am_Ev d 157 178 [some (.ref 231), some (.int x1)] [.int sx0] (fm_mk S) r := by
  exact fs_ifeq (off := 20) (tgt := 198) (by decide +kernel) (by decide) kt kf
theorem b157_181 {d : Nat} {x1 : Int32} {v : Int32} {S1 : fm_S} {S : fm_S} {r : Option Value × am_W} (hc : am_Sp d 159 [.ref 231, .int 1, .int 0, .int 3] (fm_mk S) (some (.int v)) (fm_mk S1)) (nx : am_Ev (d + 1) 157 188 [some (.ref 231), some (.int x1)] [.int v] (fm_mk S1) r) : am_Ev (d + 1) 157 181 [some (.ref 231), some (.int x1)] [] (fm_mk S) r := by
  refine fs_aloadn (j := 0) (by decide +kernel) rfl ?_
  refine fs_iconst (n := 1) (v := 1) (by decide +kernel) (by decide) ?_
  refine fs_iconst (n := 0) (v := 0) (by decide +kernel) (by decide) ?_
  refine fs_iconst (n := 3) (v := 3) (by decide +kernel) (by decide) ?_
  exact fe_callV (idx := 151) (n := 3) (wp := 1110) (q := (1112, 41)) (as := [.int 1, .int 0, .int 3]) (rs := []) (by decide +kernel) (by decide +kernel) (by decide +kernel) (by decide +kernel) rfl (Nat.le_of_ble_eq_true rfl) rfl hc nx
theorem b157_188 {d : Nat} {x1 : Int32} {sx0 : Int32} {S : fm_S} {r : Option Value × am_W} (kt : sx0 = 0 → am_Ev d 157 198 [some (.ref 231), some (.int x1)] [] (fm_mk S) r) (kf : ¬ sx0 = 0 → am_Ev d 157 191 [some (.ref 231), some (.int x1)] [] (fm_mk S) r) : am_Ev d 157 188 [some (.ref 231), some (.int x1)] [.int sx0] (fm_mk S) r := by
  exact fs_ifeq (off := 10) (tgt := 198) (by decide +kernel) (by decide) kt kf
theorem b157_191 {d : Nat} {x1 : Int32} {v : Int32} {S1 : fm_S} {S : fm_S} {r : Option Value × am_W} (hc : am_Sp d 158 [.ref 231] (fm_mk S) (some (.int v)) (fm_mk S1)) (nx : am_Ev (d + 1) 157 195 [some (.ref 231), some (.int x1)] [.int v] (fm_mk S1) r) : am_Ev (d + 1) 157 191 [some (.ref 231), some (.int x1)] [] (fm_mk S) r := by
  refine fs_aloadn (j := 0) (by decide +kernel) rfl ?_
  exact fe_callV (idx := 155) (n := 0) (wp := 1106) (q := (1108, 40)) (as := []) (rs := []) (by decide +kernel) (by decide +kernel) (by decide +kernel) (by decide +kernel) rfl (Nat.le_of_ble_eq_true rfl) rfl hc nx
theorem b157_195 {d : Nat} {x1 : Int32} {sx0 : Int32} {S : fm_S} {r : Option Value × am_W} (kt : ¬ sx0 = 0 → am_Ev d 157 200 [some (.ref 231), some (.int x1)] [] (fm_mk S) r) (kf : sx0 = 0 → am_Ev d 157 198 [some (.ref 231), some (.int x1)] [] (fm_mk S) r) : am_Ev d 157 195 [some (.ref 231), some (.int x1)] [.int sx0] (fm_mk S) r := by
  exact fs_ifne (off := 5) (tgt := 200) (by decide +kernel) (by decide) kt kf
theorem b157_198 {d : Nat} {x1 : Int32} {S : fm_S}  : am_Ev d 157 198 [some (.ref 231), some (.int x1)] [] (fm_mk S) (some (.int 0), fm_mk S) := by
  refine fs_iconst (n := 0) (v := 0) (by decide +kernel) (by decide) ?_
  exact fe_retZ (by decide +kernel) (by decide +kernel) (by decide)
theorem b157_200 {d : Nat} {x1 : Int32} {S : fm_S}  (hi0 : vp_in (121 + (S.1 237 0)) 373) : am_Ev d 157 200 [some (.ref 231), some (.int x1)] [] (fm_mk S) (some (.int 1), fm_mk (fm_wI S 233 ((121 + (S.1 237 0)).toNatClampNeg) (S.1 237 1))) := by
  refine fs_aloadn (j := 0) (by decide +kernel) rfl ?_
  refine fe_getR (idx := 13) (t := 8) (f := 1) (fk := 2) (fin := 1) (wp := 944) (x := 233) (by decide +kernel) (by decide +kernel) (by decide +kernel) (by decide +kernel) (by decide +kernel) ?_
  refine fs_bipush (n := 121) (v := 121) (by decide +kernel) (by decide) ?_
  refine fs_aloadn (j := 0) (by decide +kernel) rfl ?_
  refine fe_getR (idx := 25) (t := 8) (f := 13) (fk := 2) (fin := 1) (wp := 956) (x := 237) (by decide +kernel) (by decide +kernel) (by decide +kernel) (by decide +kernel) (by decide +kernel) ?_
  refine fs_iconst (n := 0) (v := 0) (by decide +kernel) (by decide) ?_
  refine fx_iald (n := 0) (len := 3) (by decide +kernel) (by decide +kernel) (by decide +kernel) (vp_c (by decide) (by decide)) (by decide) ?_
  refine fs_iadd (by decide +kernel) ?_
  refine fs_aloadn (j := 0) (by decide +kernel) rfl ?_
  refine fe_getR (idx := 25) (t := 8) (f := 13) (fk := 2) (fin := 1) (wp := 956) (x := 237) (by decide +kernel) (by decide +kernel) (by decide +kernel) (by decide +kernel) (by decide +kernel) ?_
  refine fs_iconst (n := 1) (v := 1) (by decide +kernel) (by decide) ?_
  refine fx_iald (n := 1) (len := 3) (by decide +kernel) (by decide +kernel) (by decide +kernel) (vp_c (by decide) (by decide)) (by decide) ?_
  refine fx_iast (n := (121 + (S.1 237 0)).toNatClampNeg) (len := 373) (by decide +kernel) (by decide +kernel) (by decide +kernel) hi0 rfl ?_
  refine fs_iconst (n := 1) (v := 1) (by decide +kernel) (by decide) ?_
  exact fe_retZ (by decide +kernel) (by decide +kernel) (by decide)
theorem b157_222 {d : Nat} {x1 : Int32} {v : Int32} {S1 : fm_S} {S : fm_S} {r : Option Value × am_W} (hc : am_Sp d 159 [.ref 231, .int 0, .int 0, .int 5] (fm_mk S) (some (.int v)) (fm_mk S1)) (nx : am_Ev (d + 1) 157 229 [some (.ref 231), some (.int x1)] [.int v] (fm_mk S1) r) : am_Ev (d + 1) 157 222 [some (.ref 231), some (.int x1)] [] (fm_mk S) r := by
  refine fs_aloadn (j := 0) (by decide +kernel) rfl ?_
  refine fs_iconst (n := 0) (v := 0) (by decide +kernel) (by decide) ?_
  refine fs_iconst (n := 0) (v := 0) (by decide +kernel) (by decide) ?_
  refine fs_iconst (n := 5) (v := 5) (by decide +kernel) (by decide) ?_
  exact fe_callV (idx := 151) (n := 3) (wp := 1110) (q := (1112, 41)) (as := [.int 0, .int 0, .int 5]) (rs := []) (by decide +kernel) (by decide +kernel) (by decide +kernel) (by decide +kernel) rfl (Nat.le_of_ble_eq_true rfl) rfl hc nx
theorem b157_229 {d : Nat} {x1 : Int32} {sx0 : Int32} {S : fm_S} {r : Option Value × am_W} (kt : sx0 = 0 → am_Ev d 157 261 [some (.ref 231), some (.int x1)] [] (fm_mk S) r) (kf : ¬ sx0 = 0 → am_Ev d 157 232 [some (.ref 231), some (.int x1)] [] (fm_mk S) r) : am_Ev d 157 229 [some (.ref 231), some (.int x1)] [.int sx0] (fm_mk S) r := by
  exact fs_ifeq (off := 32) (tgt := 261) (by decide +kernel) (by decide) kt kf
theorem b157_232 {d : Nat} {x1 : Int32} {v : Int32} {S1 : fm_S} {S : fm_S} {r : Option Value × am_W} (hc : am_Sp d 159 [.ref 231, .int 1, .int 1, .int 30] (fm_mk S) (some (.int v)) (fm_mk S1)) (nx : am_Ev (d + 1) 157 240 [some (.ref 231), some (.int x1)] [.int v] (fm_mk S1) r) : am_Ev (d + 1) 157 232 [some (.ref 231), some (.int x1)] [] (fm_mk S) r := by
  refine fs_aloadn (j := 0) (by decide +kernel) rfl ?_
  refine fs_iconst (n := 1) (v := 1) (by decide +kernel) (by decide) ?_
  refine fs_iconst (n := 1) (v := 1) (by decide +kernel) (by decide) ?_
  refine fs_bipush (n := 30) (v := 30) (by decide +kernel) (by decide) ?_
  exact fe_callV (idx := 151) (n := 3) (wp := 1110) (q := (1112, 41)) (as := [.int 1, .int 1, .int 30]) (rs := []) (by decide +kernel) (by decide +kernel) (by decide +kernel) (by decide +kernel) rfl (Nat.le_of_ble_eq_true rfl) rfl hc nx
theorem b157_240 {d : Nat} {x1 : Int32} {sx0 : Int32} {S : fm_S} {r : Option Value × am_W} (kt : sx0 = 0 → am_Ev d 157 261 [some (.ref 231), some (.int x1)] [] (fm_mk S) r) (kf : ¬ sx0 = 0 → am_Ev d 157 243 [some (.ref 231), some (.int x1)] [] (fm_mk S) r) : am_Ev d 157 240 [some (.ref 231), some (.int x1)] [.int sx0] (fm_mk S) r := by
  exact fs_ifeq (off := 21) (tgt := 261) (by decide +kernel) (by decide) kt kf
theorem b157_243 {d : Nat} {x1 : Int32} {v : Int32} {S1 : fm_S} {S : fm_S} {r : Option Value × am_W} (hc : am_Sp d 159 [.ref 231, .int 2, .int 0, .int 9] (fm_mk S) (some (.int v)) (fm_mk S1)) (nx : am_Ev (d + 1) 157 251 [some (.ref 231), some (.int x1)] [.int v] (fm_mk S1) r) : am_Ev (d + 1) 157 243 [some (.ref 231), some (.int x1)] [] (fm_mk S) r := by
  refine fs_aloadn (j := 0) (by decide +kernel) rfl ?_
  refine fs_iconst (n := 2) (v := 2) (by decide +kernel) (by decide) ?_
  refine fs_iconst (n := 0) (v := 0) (by decide +kernel) (by decide) ?_
  refine fs_bipush (n := 9) (v := 9) (by decide +kernel) (by decide) ?_
  exact fe_callV (idx := 151) (n := 3) (wp := 1110) (q := (1112, 41)) (as := [.int 2, .int 0, .int 9]) (rs := []) (by decide +kernel) (by decide +kernel) (by decide +kernel) (by decide +kernel) rfl (Nat.le_of_ble_eq_true rfl) rfl hc nx
theorem b157_251 {d : Nat} {x1 : Int32} {sx0 : Int32} {S : fm_S} {r : Option Value × am_W} (kt : sx0 = 0 → am_Ev d 157 261 [some (.ref 231), some (.int x1)] [] (fm_mk S) r) (kf : ¬ sx0 = 0 → am_Ev d 157 254 [some (.ref 231), some (.int x1)] [] (fm_mk S) r) : am_Ev d 157 251 [some (.ref 231), some (.int x1)] [.int sx0] (fm_mk S) r := by
  exact fs_ifeq (off := 10) (tgt := 261) (by decide +kernel) (by decide) kt kf
theorem b157_254 {d : Nat} {x1 : Int32} {v : Int32} {S1 : fm_S} {S : fm_S} {r : Option Value × am_W} (hc : am_Sp d 158 [.ref 231] (fm_mk S) (some (.int v)) (fm_mk S1)) (nx : am_Ev (d + 1) 157 258 [some (.ref 231), some (.int x1)] [.int v] (fm_mk S1) r) : am_Ev (d + 1) 157 254 [some (.ref 231), some (.int x1)] [] (fm_mk S) r := by
  refine fs_aloadn (j := 0) (by decide +kernel) rfl ?_
  exact fe_callV (idx := 155) (n := 0) (wp := 1106) (q := (1108, 40)) (as := []) (rs := []) (by decide +kernel) (by decide +kernel) (by decide +kernel) (by decide +kernel) rfl (Nat.le_of_ble_eq_true rfl) rfl hc nx
theorem b157_258 {d : Nat} {x1 : Int32} {sx0 : Int32} {S : fm_S} {r : Option Value × am_W} (kt : ¬ sx0 = 0 → am_Ev d 157 263 [some (.ref 231), some (.int x1)] [] (fm_mk S) r) (kf : sx0 = 0 → am_Ev d 157 261 [some (.ref 231), some (.int x1)] [] (fm_mk S) r) : am_Ev d 157 258 [some (.ref 231), some (.int x1)] [.int sx0] (fm_mk S) r := by
  exact fs_ifne (off := 5) (tgt := 263) (by decide +kernel) (by decide) kt kf
theorem b157_261 {d : Nat} {x1 : Int32} {S : fm_S}  : am_Ev d 157 261 [some (.ref 231), some (.int x1)] [] (fm_mk S) (some (.int 0), fm_mk S) := by
  refine fs_iconst (n := 0) (v := 0) (by decide +kernel) (by decide) ?_
  exact fe_retZ (by decide +kernel) (by decide +kernel) (by decide)
theorem b157_263 {d : Nat} {x1 : Int32} {S1 : fm_S} {S : fm_S} {r : Option Value × am_W} (hc : am_Sp d 148 [.ref 233, .int (S.1 237 0), .int (S.1 237 1), .int (S.1 237 2)] (fm_mk S) (none) (fm_mk S1)) (nx : am_Ev (d + 1) 157 288 [some (.ref 231), some (.int x1)] [] (fm_mk S1) r) : am_Ev (d + 1) 157 263 [some (.ref 231), some (.int x1)] [] (fm_mk S) r := by
  refine fs_aloadn (j := 0) (by decide +kernel) rfl ?_
  refine fe_getR (idx := 13) (t := 8) (f := 1) (fk := 2) (fin := 1) (wp := 944) (x := 233) (by decide +kernel) (by decide +kernel) (by decide +kernel) (by decide +kernel) (by decide +kernel) ?_
  refine fs_aloadn (j := 0) (by decide +kernel) rfl ?_
  refine fe_getR (idx := 25) (t := 8) (f := 13) (fk := 2) (fin := 1) (wp := 956) (x := 237) (by decide +kernel) (by decide +kernel) (by decide +kernel) (by decide +kernel) (by decide +kernel) ?_
  refine fs_iconst (n := 0) (v := 0) (by decide +kernel) (by decide) ?_
  refine fx_iald (n := 0) (len := 3) (by decide +kernel) (by decide +kernel) (by decide +kernel) (vp_c (by decide) (by decide)) (by decide) ?_
  refine fs_aloadn (j := 0) (by decide +kernel) rfl ?_
  refine fe_getR (idx := 25) (t := 8) (f := 13) (fk := 2) (fin := 1) (wp := 956) (x := 237) (by decide +kernel) (by decide +kernel) (by decide +kernel) (by decide +kernel) (by decide +kernel) ?_
  refine fs_iconst (n := 1) (v := 1) (by decide +kernel) (by decide) ?_
  refine fx_iald (n := 1) (len := 3) (by decide +kernel) (by decide +kernel) (by decide +kernel) (vp_c (by decide) (by decide)) (by decide) ?_
  refine fs_aloadn (j := 0) (by decide +kernel) rfl ?_
  refine fe_getR (idx := 25) (t := 8) (f := 13) (fk := 2) (fin := 1) (wp := 956) (x := 237) (by decide +kernel) (by decide +kernel) (by decide +kernel) (by decide +kernel) (by decide +kernel) ?_
  refine fs_iconst (n := 2) (v := 2) (by decide +kernel) (by decide) ?_
  refine fx_iald (n := 2) (len := 3) (by decide +kernel) (by decide +kernel) (by decide +kernel) (vp_c (by decide) (by decide)) (by decide) ?_
  exact fe_callS (idx := 99) (kd := 0) (n := 4) (wp := 1058) (q := (1059, 0)) (as := [.ref 233, .int (S.1 237 0), .int (S.1 237 1), .int (S.1 237 2)]) (rs := []) (by decide +kernel) (by decide +kernel) (by decide +kernel) (by decide) rfl (Nat.le_of_ble_eq_true rfl) rfl hc nx
theorem b157_288 {d : Nat} {x1 : Int32} {S : fm_S}  : am_Ev d 157 288 [some (.ref 231), some (.int x1)] [] (fm_mk S) (some (.int 1), fm_mk S) := by
  refine fs_iconst (n := 1) (v := 1) (by decide +kernel) (by decide) ?_
  exact fe_retZ (by decide +kernel) (by decide +kernel) (by decide)
-- KitchenSiegeModel.ends()Z
theorem b158_0 {d : Nat} {S1 : fm_S} {S : fm_S} {r : Option Value × am_W} (hc : am_Sp d 153 [.ref 231] (fm_mk S) (none) (fm_mk S1)) (nx : am_Ev (d + 1) 158 4 [some (.ref 231)] [] (fm_mk S1) r) : am_Ev (d + 1) 158 0 [some (.ref 231)] [] (fm_mk S) r := by
  refine fs_aloadn (j := 0) (by decide +kernel) rfl ?_
  exact fe_callV (idx := 117) (n := 0) (wp := 1078) (q := (1080, 36)) (as := []) (rs := []) (by decide +kernel) (by decide +kernel) (by decide +kernel) (by decide +kernel) rfl (Nat.le_of_ble_eq_true rfl) rfl hc nx
theorem b158_4 {d : Nat} {v : Int32} {S1 : fm_S} {S : fm_S} {r : Option Value × am_W} (hc : am_Sp d 154 [.ref 231, .int (S.1 231 11)] (fm_mk S) (some (.int v)) (fm_mk S1)) (nx : am_Ev (d + 1) 158 12 [some (.ref 231)] [.int v] (fm_mk S1) r) : am_Ev (d + 1) 158 4 [some (.ref 231)] [] (fm_mk S) r := by
  refine fs_aloadn (j := 0) (by decide +kernel) rfl ?_
  refine fs_aloadn (j := 0) (by decide +kernel) rfl ?_
  refine fe_getI (idx := 107) (t := 8) (f := 11) (fk := 0) (fin := 0) (wp := 954) (by decide +kernel) (by decide +kernel) (by decide +kernel) (by decide +kernel) ?_
  exact fe_callV (idx := 110) (n := 1) (wp := 1082) (q := (1084, 37)) (as := [.int (S.1 231 11)]) (rs := []) (by decide +kernel) (by decide +kernel) (by decide +kernel) (by decide +kernel) rfl (Nat.le_of_ble_eq_true rfl) rfl hc nx
theorem b158_12 {d : Nat} {sx0 : Int32} {S : fm_S} {r : Option Value × am_W} (kt : sx0 = 59 → am_Ev d 158 26 [some (.ref 231)] [] (fm_mk S) r) (kf : ¬ sx0 = 59 → am_Ev d 158 17 [some (.ref 231)] [] (fm_mk S) r) : am_Ev d 158 12 [some (.ref 231)] [.int sx0] (fm_mk S) r := by
  refine fs_bipush (n := 59) (v := 59) (by decide +kernel) (by decide) ?_
  exact fs_iceq (off := 12) (tgt := 26) (by decide +kernel) (by decide) kt kf
theorem b158_17 {d : Nat} {v : Int32} {S1 : fm_S} {S : fm_S} {r : Option Value × am_W} (hc : am_Sp d 156 [.ref 231, .int (S.1 231 11)] (fm_mk S) (some (.int v)) (fm_mk S1)) (nx : am_Ev (d + 1) 158 25 [some (.ref 231)] [.int v] (fm_mk S1) r) : am_Ev (d + 1) 158 17 [some (.ref 231)] [] (fm_mk S) r := by
  refine fs_aloadn (j := 0) (by decide +kernel) rfl ?_
  refine fs_aloadn (j := 0) (by decide +kernel) rfl ?_
  refine fe_getI (idx := 107) (t := 8) (f := 11) (fk := 0) (fin := 0) (wp := 954) (by decide +kernel) (by decide +kernel) (by decide +kernel) (by decide +kernel) ?_
  exact fe_callV (idx := 126) (n := 1) (wp := 1098) (q := (1100, 38)) (as := [.int (S.1 231 11)]) (rs := []) (by decide +kernel) (by decide +kernel) (by decide +kernel) (by decide +kernel) rfl (Nat.le_of_ble_eq_true rfl) rfl hc nx
theorem b158_25 {d : Nat} {sx0 : Int32} {S : fm_S}  (hz : sx0 = 0 ∨ sx0 = 1) : am_Ev d 158 25 [some (.ref 231)] [.int sx0] (fm_mk S) (some (.int sx0), fm_mk S) := by
  exact fe_retZ (by decide +kernel) (by decide +kernel) hz
theorem b158_26 {d : Nat} {S : fm_S}  : am_Ev d 158 26 [some (.ref 231)] [] (fm_mk S) (some (.int 1), fm_mk (fm_wI S 231 11 ((S.1 231 11) + 1))) := by
  refine fs_aloadn (j := 0) (by decide +kernel) rfl ?_
  refine fs_dup (by decide +kernel) rfl ?_
  refine fe_getI (idx := 107) (t := 8) (f := 11) (fk := 0) (fin := 0) (wp := 954) (by decide +kernel) (by decide +kernel) (by decide +kernel) (by decide +kernel) ?_
  refine fs_iconst (n := 1) (v := 1) (by decide +kernel) (by decide) ?_
  refine fs_iadd (by decide +kernel) ?_
  refine fe_putI (idx := 107) (t := 8) (f := 11) (wp := 954) (by decide +kernel) (by decide +kernel) (by decide +kernel) (by decide +kernel) ?_
  refine fs_iconst (n := 1) (v := 1) (by decide +kernel) (by decide) ?_
  exact fe_retZ (by decide +kernel) (by decide +kernel) (by decide)
-- KitchenSiegeModel.number(III)Z
theorem b159_0 {d : Nat} {x1 : Int32} {x2 : Int32} {x3 : Int32} {o4 : Option Value} {o5 : Option Value} {o6 : Option Value} {S1 : fm_S} {S : fm_S} {r : Option Value × am_W} (hc : am_Sp d 153 [.ref 231] (fm_mk S) (none) (fm_mk S1)) (nx : am_Ev (d + 1) 159 4 [some (.ref 231), some (.int x1), some (.int x2), some (.int x3), o4, o5, o6] [] (fm_mk S1) r) : am_Ev (d + 1) 159 0 [some (.ref 231), some (.int x1), some (.int x2), some (.int x3), o4, o5, o6] [] (fm_mk S) r := by
  refine fs_aloadn (j := 0) (by decide +kernel) rfl ?_
  exact fe_callV (idx := 117) (n := 0) (wp := 1078) (q := (1080, 36)) (as := []) (rs := []) (by decide +kernel) (by decide +kernel) (by decide +kernel) (by decide +kernel) rfl (Nat.le_of_ble_eq_true rfl) rfl hc nx
theorem b159_4 {d : Nat} {x1 : Int32} {x2 : Int32} {x3 : Int32} {o4 : Option Value} {o5 : Option Value} {o6 : Option Value} {S : fm_S} {r : Option Value × am_W} (nx : am_Ev d 159 16 [some (.ref 231), some (.int x1), some (.int x2), some (.int x3), some (.int (S.1 231 11)), some (.int 0), some (.int 0)] [] (fm_mk S) r) : am_Ev d 159 4 [some (.ref 231), some (.int x1), some (.int x2), some (.int x3), o4, o5, o6] [] (fm_mk S) r := by
  refine fs_aloadn (j := 0) (by decide +kernel) rfl ?_
  refine fe_getI (idx := 107) (t := 8) (f := 11) (fk := 0) (fin := 0) (wp := 954) (by decide +kernel) (by decide +kernel) (by decide +kernel) (by decide +kernel) ?_
  refine fs_istore (j := 4) (L' := [some (.ref 231), some (.int x1), some (.int x2), some (.int x3), some (.int (S.1 231 11)), o5, o6]) (by decide +kernel) (Nat.le_of_ble_eq_true rfl) rfl ?_
  refine fs_iconst (n := 0) (v := 0) (by decide +kernel) (by decide) ?_
  refine fs_istore (j := 5) (L' := [some (.ref 231), some (.int x1), some (.int x2), some (.int x3), some (.int (S.1 231 11)), some (.int 0), o6]) (by decide +kernel) (Nat.le_of_ble_eq_true rfl) rfl ?_
  refine fs_iconst (n := 0) (v := 0) (by decide +kernel) (by decide) ?_
  refine fs_istore (j := 6) (L' := [some (.ref 231), some (.int x1), some (.int x2), some (.int x3), some (.int (S.1 231 11)), some (.int 0), some (.int 0)]) (by decide +kernel) (Nat.le_of_ble_eq_true rfl) rfl ?_
  exact nx
theorem b159_16 {d : Nat} {x1 : Int32} {x2 : Int32} {x3 : Int32} {x4 : Int32} {x5 : Int32} {x6 : Int32} {v : Int32} {S1 : fm_S} {S : fm_S} {r : Option Value × am_W} (hc : am_Sp d 154 [.ref 231, .int (S.1 231 11)] (fm_mk S) (some (.int v)) (fm_mk S1)) (nx : am_Ev (d + 1) 159 24 [some (.ref 231), some (.int x1), some (.int x2), some (.int x3), some (.int x4), some (.int x5), some (.int x6)] [.int v] (fm_mk S1) r) : am_Ev (d + 1) 159 16 [some (.ref 231), some (.int x1), some (.int x2), some (.int x3), some (.int x4), some (.int x5), some (.int x6)] [] (fm_mk S) r := by
  refine fs_aloadn (j := 0) (by decide +kernel) rfl ?_
  refine fs_aloadn (j := 0) (by decide +kernel) rfl ?_
  refine fe_getI (idx := 107) (t := 8) (f := 11) (fk := 0) (fin := 0) (wp := 954) (by decide +kernel) (by decide +kernel) (by decide +kernel) (by decide +kernel) ?_
  exact fe_callV (idx := 110) (n := 1) (wp := 1082) (q := (1084, 37)) (as := [.int (S.1 231 11)]) (rs := []) (by decide +kernel) (by decide +kernel) (by decide +kernel) (by decide +kernel) rfl (Nat.le_of_ble_eq_true rfl) rfl hc nx
theorem b159_24 {d : Nat} {x1 : Int32} {x2 : Int32} {x3 : Int32} {x4 : Int32} {x5 : Int32} {x6 : Int32} {sx0 : Int32} {v : Int32} {S1 : fm_S} {S : fm_S} {r : Option Value × am_W} (hc : am_Sp d 137 [.long sx0.toInt64, .long 48, .long 57] (fm_mk S) (some (.int v)) (fm_mk S1)) (nx : am_Ev (d + 1) 159 34 [some (.ref 231), some (.int x1), some (.int x2), some (.int x3), some (.int x4), some (.int x5), some (.int x6)] [.int v] (fm_mk S1) r) : am_Ev (d + 1) 159 24 [some (.ref 231), some (.int x1), some (.int x2), some (.int x3), some (.int x4), some (.int x5), some (.int x6)] [.int sx0] (fm_mk S) r := by
  refine fs_i2l (by decide +kernel) ?_
  refine fs_ldc2 (idx := 120) (q := 1114) (v := 48) (by decide +kernel) (by decide +kernel) ?_
  refine fs_ldc2 (idx := 122) (q := 1115) (v := 57) (by decide +kernel) (by decide +kernel) ?_
  exact fe_callS (idx := 67) (kd := 0) (n := 3) (wp := 1014) (q := (1015, 0)) (as := [.long sx0.toInt64, .long 48, .long 57]) (rs := []) (by decide +kernel) (by decide +kernel) (by decide +kernel) (by decide) rfl (Nat.le_of_ble_eq_true rfl) rfl hc nx
theorem b159_34 {d : Nat} {x1 : Int32} {x2 : Int32} {x3 : Int32} {x4 : Int32} {x5 : Int32} {x6 : Int32} {sx0 : Int32} {S : fm_S} {r : Option Value × am_W} (kt : sx0 = 0 → am_Ev d 159 83 [some (.ref 231), some (.int x1), some (.int x2), some (.int x3), some (.int x4), some (.int x5), some (.int x6)] [] (fm_mk S) r) (kf : ¬ sx0 = 0 → am_Ev d 159 37 [some (.ref 231), some (.int x1), some (.int x2), some (.int x3), some (.int x4), some (.int x5), some (.int x6)] [] (fm_mk S) r) : am_Ev d 159 34 [some (.ref 231), some (.int x1), some (.int x2), some (.int x3), some (.int x4), some (.int x5), some (.int x6)] [.int sx0] (fm_mk S) r := by
  exact fs_ifeq (off := 49) (tgt := 83) (by decide +kernel) (by decide) kt kf
theorem b159_37 {d : Nat} {x1 : Int32} {x2 : Int32} {x3 : Int32} {x4 : Int32} {x5 : Int32} {x6 : Int32} {S : fm_S} {r : Option Value × am_W} (kt : 3 ≤ x6 → am_Ev d 159 63 [some (.ref 231), some (.int x1), some (.int x2), some (.int x3), some (.int x4), some (.int x5), some (.int x6)] [] (fm_mk S) r) (kf : ¬ 3 ≤ x6 → am_Ev d 159 43 [some (.ref 231), some (.int x1), some (.int x2), some (.int x3), some (.int x4), some (.int x5), some (.int x6)] [] (fm_mk S) r) : am_Ev d 159 37 [some (.ref 231), some (.int x1), some (.int x2), some (.int x3), some (.int x4), some (.int x5), some (.int x6)] [] (fm_mk S) r := by
  refine fs_iload (j := 6) (by decide +kernel) rfl ?_
  refine fs_iconst (n := 3) (v := 3) (by decide +kernel) (by decide) ?_
  exact fs_icge (off := 23) (tgt := 63) (by decide +kernel) (by decide) kt kf
theorem b159_43 {d : Nat} {x1 : Int32} {x2 : Int32} {x3 : Int32} {x4 : Int32} {x5 : Int32} {x6 : Int32} {v : Int32} {S1 : fm_S} {S : fm_S} {r : Option Value × am_W} (hc : am_Sp d 154 [.ref 231, .int (S.1 231 11)] (fm_mk S) (some (.int v)) (fm_mk S1)) (nx : am_Ev (d + 1) 159 56 [some (.ref 231), some (.int x1), some (.int x2), some (.int x3), some (.int x4), some (.int x5), some (.int x6)] [.int v, .int (10 * x5)] (fm_mk S1) r) : am_Ev (d + 1) 159 43 [some (.ref 231), some (.int x1), some (.int x2), some (.int x3), some (.int x4), some (.int x5), some (.int x6)] [] (fm_mk S) r := by
  refine fs_bipush (n := 10) (v := 10) (by decide +kernel) (by decide) ?_
  refine fs_iload (j := 5) (by decide +kernel) rfl ?_
  refine fs_imul (by decide +kernel) ?_
  refine fs_aloadn (j := 0) (by decide +kernel) rfl ?_
  refine fs_aloadn (j := 0) (by decide +kernel) rfl ?_
  refine fe_getI (idx := 107) (t := 8) (f := 11) (fk := 0) (fin := 0) (wp := 954) (by decide +kernel) (by decide +kernel) (by decide +kernel) (by decide +kernel) ?_
  exact fe_callV (idx := 110) (n := 1) (wp := 1082) (q := (1084, 37)) (as := [.int (S.1 231 11)]) (rs := [.int (10 * x5)]) (by decide +kernel) (by decide +kernel) (by decide +kernel) (by decide +kernel) rfl (Nat.le_of_ble_eq_true rfl) rfl hc nx
theorem b159_56 {d : Nat} {x1 : Int32} {x2 : Int32} {x3 : Int32} {x4 : Int32} {x5 : Int32} {x6 : Int32} {sx0 : Int32} {sx1 : Int32} {S : fm_S} {r : Option Value × am_W} (nx : am_Ev d 159 65 [some (.ref 231), some (.int x1), some (.int x2), some (.int x3), some (.int x4), some (.int x5), some (.int x6)] [.int ((sx0 + sx1) - 48)] (fm_mk S) r) : am_Ev d 159 56 [some (.ref 231), some (.int x1), some (.int x2), some (.int x3), some (.int x4), some (.int x5), some (.int x6)] [.int sx1, .int sx0] (fm_mk S) r := by
  refine fs_iadd (by decide +kernel) ?_
  refine fs_bipush (n := 48) (v := 48) (by decide +kernel) (by decide) ?_
  refine fs_isub (by decide +kernel) ?_
  refine fs_goto (off := 5) (tgt := 65) (by decide +kernel) (by decide) ?_
  exact nx
theorem b159_63 {d : Nat} {x1 : Int32} {x2 : Int32} {x3 : Int32} {x4 : Int32} {x5 : Int32} {x6 : Int32} {S : fm_S} {r : Option Value × am_W} (nx : am_Ev d 159 65 [some (.ref 231), some (.int x1), some (.int x2), some (.int x3), some (.int x4), some (.int x5), some (.int x6)] [.int x5] (fm_mk S) r) : am_Ev d 159 63 [some (.ref 231), some (.int x1), some (.int x2), some (.int x3), some (.int x4), some (.int x5), some (.int x6)] [] (fm_mk S) r := by
  refine fs_iload (j := 5) (by decide +kernel) rfl ?_
  exact nx
theorem b159_65 {d : Nat} {x1 : Int32} {x2 : Int32} {x3 : Int32} {x4 : Int32} {x5 : Int32} {x6 : Int32} {sx0 : Int32} {S : fm_S} {r : Option Value × am_W} (nx : am_Ev d 159 16 [some (.ref 231), some (.int x1), some (.int x2), some (.int x3), some (.int x4), some (.int sx0), some (.int (x6 + 1))] [] (fm_mk (fm_wI S 231 11 ((S.1 231 11) + 1))) r) : am_Ev d 159 65 [some (.ref 231), some (.int x1), some (.int x2), some (.int x3), some (.int x4), some (.int x5), some (.int x6)] [.int sx0] (fm_mk S) r := by
  refine fs_istore (j := 5) (L' := [some (.ref 231), some (.int x1), some (.int x2), some (.int x3), some (.int x4), some (.int sx0), some (.int x6)]) (by decide +kernel) (Nat.le_of_ble_eq_true rfl) rfl ?_
  refine fs_iinc (j := 6) (n := 1) (v := 1) (L' := [some (.ref 231), some (.int x1), some (.int x2), some (.int x3), some (.int x4), some (.int sx0), some (.int (x6 + 1))]) (by decide +kernel) rfl (Nat.le_of_ble_eq_true rfl) (by decide) rfl ?_
  refine fs_aloadn (j := 0) (by decide +kernel) rfl ?_
  refine fs_dup (by decide +kernel) rfl ?_
  refine fe_getI (idx := 107) (t := 8) (f := 11) (fk := 0) (fin := 0) (wp := 954) (by decide +kernel) (by decide +kernel) (by decide +kernel) (by decide +kernel) ?_
  refine fs_iconst (n := 1) (v := 1) (by decide +kernel) (by decide) ?_
  refine fs_iadd (by decide +kernel) ?_
  refine fe_putI (idx := 107) (t := 8) (f := 11) (wp := 954) (by decide +kernel) (by decide +kernel) (by decide +kernel) (by decide +kernel) ?_
  refine fs_goto (off := -64) (tgt := 16) (by decide +kernel) (by decide) ?_
  exact nx
theorem b159_83 {d : Nat} {x1 : Int32} {x2 : Int32} {x3 : Int32} {x4 : Int32} {x5 : Int32} {x6 : Int32} {v : Int32} {S1 : fm_S} {S : fm_S} {r : Option Value × am_W} (hc : am_Sp d 137 [.long x6.toInt64, .long 1, .long 2] (fm_mk S) (some (.int v)) (fm_mk S1)) (nx : am_Ev (d + 1) 159 93 [some (.ref 231), some (.int x1), some (.int x2), some (.int x3), some (.int x4), some (.int x5), some (.int x6)] [.int v] (fm_mk S1) r) : am_Ev (d + 1) 159 83 [some (.ref 231), some (.int x1), some (.int x2), some (.int x3), some (.int x4), some (.int x5), some (.int x6)] [] (fm_mk S) r := by
  refine fs_iload (j := 6) (by decide +kernel) rfl ?_
  refine fs_i2l (by decide +kernel) ?_
  refine fs_lconst (n := 1) (v := 1) (by decide +kernel) (by decide) ?_
  refine fs_ldc2 (idx := 124) (q := 1116) (v := 2) (by decide +kernel) (by decide +kernel) ?_
  exact fe_callS (idx := 67) (kd := 0) (n := 3) (wp := 1014) (q := (1015, 0)) (as := [.long x6.toInt64, .long 1, .long 2]) (rs := []) (by decide +kernel) (by decide +kernel) (by decide +kernel) (by decide) rfl (Nat.le_of_ble_eq_true rfl) rfl hc nx
theorem b159_93 {d : Nat} {x1 : Int32} {x2 : Int32} {x3 : Int32} {x4 : Int32} {x5 : Int32} {x6 : Int32} {sx0 : Int32} {S : fm_S} {r : Option Value × am_W} (kt : sx0 = 0 → am_Ev d 159 109 [some (.ref 231), some (.int x1), some (.int x2), some (.int x3), some (.int x4), some (.int x5), some (.int x6)] [] (fm_mk S) r) (kf : ¬ sx0 = 0 → am_Ev d 159 96 [some (.ref 231), some (.int x1), some (.int x2), some (.int x3), some (.int x4), some (.int x5), some (.int x6)] [] (fm_mk S) r) : am_Ev d 159 93 [some (.ref 231), some (.int x1), some (.int x2), some (.int x3), some (.int x4), some (.int x5), some (.int x6)] [.int sx0] (fm_mk S) r := by
  exact fs_ifeq (off := 16) (tgt := 109) (by decide +kernel) (by decide) kt kf
theorem b159_96 {d : Nat} {x1 : Int32} {x2 : Int32} {x3 : Int32} {x4 : Int32} {x5 : Int32} {x6 : Int32} {v : Int32} {S1 : fm_S} {S : fm_S} {r : Option Value × am_W} (hc : am_Sp d 137 [.long x5.toInt64, .long x2.toInt64, .long x3.toInt64] (fm_mk S) (some (.int v)) (fm_mk S1)) (nx : am_Ev (d + 1) 159 106 [some (.ref 231), some (.int x1), some (.int x2), some (.int x3), some (.int x4), some (.int x5), some (.int x6)] [.int v] (fm_mk S1) r) : am_Ev (d + 1) 159 96 [some (.ref 231), some (.int x1), some (.int x2), some (.int x3), some (.int x4), some (.int x5), some (.int x6)] [] (fm_mk S) r := by
  refine fs_iload (j := 5) (by decide +kernel) rfl ?_
  refine fs_i2l (by decide +kernel) ?_
  refine fs_iloadn (j := 2) (by decide +kernel) rfl ?_
  refine fs_i2l (by decide +kernel) ?_
  refine fs_iloadn (j := 3) (by decide +kernel) rfl ?_
  refine fs_i2l (by decide +kernel) ?_
  exact fe_callS (idx := 67) (kd := 0) (n := 3) (wp := 1014) (q := (1015, 0)) (as := [.long x5.toInt64, .long x2.toInt64, .long x3.toInt64]) (rs := []) (by decide +kernel) (by decide +kernel) (by decide +kernel) (by decide) rfl (Nat.le_of_ble_eq_true rfl) rfl hc nx
theorem b159_106 {d : Nat} {x1 : Int32} {x2 : Int32} {x3 : Int32} {x4 : Int32} {x5 : Int32} {x6 : Int32} {sx0 : Int32} {S : fm_S} {r : Option Value × am_W} (kt : ¬ sx0 = 0 → am_Ev d 159 116 [some (.ref 231), some (.int x1), some (.int x2), some (.int x3), some (.int x4), some (.int x5), some (.int x6)] [] (fm_mk S) r) (kf : sx0 = 0 → am_Ev d 159 109 [some (.ref 231), some (.int x1), some (.int x2), some (.int x3), some (.int x4), some (.int x5), some (.int x6)] [] (fm_mk S) r) : am_Ev d 159 106 [some (.ref 231), some (.int x1), some (.int x2), some (.int x3), some (.int x4), some (.int x5), some (.int x6)] [.int sx0] (fm_mk S) r := by
  exact fs_ifne (off := 10) (tgt := 116) (by decide +kernel) (by decide) kt kf
theorem b159_109 {d : Nat} {x1 : Int32} {x2 : Int32} {x3 : Int32} {x4 : Int32} {x5 : Int32} {x6 : Int32} {v : Int32} {S1 : fm_S} {S : fm_S} {r : Option Value × am_W} (hc : am_Sp d 156 [.ref 231, .int x4] (fm_mk S) (some (.int v)) (fm_mk S1)) (nx : am_Ev (d + 1) 159 115 [some (.ref 231), some (.int x1), some (.int x2), some (.int x3), some (.int x4), some (.int x5), some (.int x6)] [.int v] (fm_mk S1) r) : am_Ev (d + 1) 159 109 [some (.ref 231), some (.int x1), some (.int x2), some (.int x3), some (.int x4), some (.int x5), some (.int x6)] [] (fm_mk S) r := by
  refine fs_aloadn (j := 0) (by decide +kernel) rfl ?_
  refine fs_iload (j := 4) (by decide +kernel) rfl ?_
  exact fe_callV (idx := 126) (n := 1) (wp := 1098) (q := (1100, 38)) (as := [.int x4]) (rs := []) (by decide +kernel) (by decide +kernel) (by decide +kernel) (by decide +kernel) rfl (Nat.le_of_ble_eq_true rfl) rfl hc nx
theorem b159_115 {d : Nat} {x1 : Int32} {x2 : Int32} {x3 : Int32} {x4 : Int32} {x5 : Int32} {x6 : Int32} {sx0 : Int32} {S : fm_S}  (hz : sx0 = 0 ∨ sx0 = 1) : am_Ev d 159 115 [some (.ref 231), some (.int x1), some (.int x2), some (.int x3), some (.int x4), some (.int x5), some (.int x6)] [.int sx0] (fm_mk S) (some (.int sx0), fm_mk S) := by
  exact fe_retZ (by decide +kernel) (by decide +kernel) hz
theorem b159_116 {d : Nat} {x1 : Int32} {x2 : Int32} {x3 : Int32} {x4 : Int32} {x5 : Int32} {x6 : Int32} {S : fm_S}  (hi0 : vp_in x1 3) : am_Ev d 159 116 [some (.ref 231), some (.int x1), some (.int x2), some (.int x3), some (.int x4), some (.int x5), some (.int x6)] [] (fm_mk S) (some (.int 1), fm_mk (fm_wI S 237 x1.toNatClampNeg x5)) := by
  refine fs_aloadn (j := 0) (by decide +kernel) rfl ?_
  refine fe_getR (idx := 25) (t := 8) (f := 13) (fk := 2) (fin := 1) (wp := 956) (x := 237) (by decide +kernel) (by decide +kernel) (by decide +kernel) (by decide +kernel) (by decide +kernel) ?_
  refine fs_iloadn (j := 1) (by decide +kernel) rfl ?_
  refine fs_iload (j := 5) (by decide +kernel) rfl ?_
  refine fx_iast (n := x1.toNatClampNeg) (len := 3) (by decide +kernel) (by decide +kernel) (by decide +kernel) hi0 rfl ?_
  refine fs_iconst (n := 1) (v := 1) (by decide +kernel) (by decide) ?_
  exact fe_retZ (by decide +kernel) (by decide +kernel) (by decide)
-- KitchenSiegeModel.laneItem()Z
theorem b160_0 {d : Nat} {o1 : Option Value} {v : Int32} {S1 : fm_S} {S : fm_S} {r : Option Value × am_W} (hc : am_Sp d 159 [.ref 231, .int 0, .int 0, .int ((S.1 233 0) - 1)] (fm_mk S) (some (.int v)) (fm_mk S1)) (nx : am_Ev (d + 1) 160 14 [some (.ref 231), o1] [.int v] (fm_mk S1) r) : am_Ev (d + 1) 160 0 [some (.ref 231), o1] [] (fm_mk S) r := by
  refine fs_aloadn (j := 0) (by decide +kernel) rfl ?_
  refine fs_iconst (n := 0) (v := 0) (by decide +kernel) (by decide) ?_
  refine fs_iconst (n := 0) (v := 0) (by decide +kernel) (by decide) ?_
  refine fs_aloadn (j := 0) (by decide +kernel) rfl ?_
  refine fe_getR (idx := 13) (t := 8) (f := 1) (fk := 2) (fin := 1) (wp := 944) (x := 233) (by decide +kernel) (by decide +kernel) (by decide +kernel) (by decide +kernel) (by decide +kernel) ?_
  refine fs_iconst (n := 0) (v := 0) (by decide +kernel) (by decide) ?_
  refine fx_iald (n := 0) (len := 373) (by decide +kernel) (by decide +kernel) (by decide +kernel) (vp_c (by decide) (by decide)) (by decide) ?_
  refine fs_iconst (n := 1) (v := 1) (by decide +kernel) (by decide) ?_
  refine fs_isub (by decide +kernel) ?_
  exact fe_callV (idx := 151) (n := 3) (wp := 1110) (q := (1112, 41)) (as := [.int 0, .int 0, .int ((S.1 233 0) - 1)]) (rs := []) (by decide +kernel) (by decide +kernel) (by decide +kernel) (by decide +kernel) rfl (Nat.le_of_ble_eq_true rfl) rfl hc nx
theorem b160_14 {d : Nat} {o1 : Option Value} {sx0 : Int32} {S : fm_S} {r : Option Value × am_W} (kt : ¬ sx0 = 0 → am_Ev d 160 19 [some (.ref 231), o1] [] (fm_mk S) r) (kf : sx0 = 0 → am_Ev d 160 17 [some (.ref 231), o1] [] (fm_mk S) r) : am_Ev d 160 14 [some (.ref 231), o1] [.int sx0] (fm_mk S) r := by
  exact fs_ifne (off := 5) (tgt := 19) (by decide +kernel) (by decide) kt kf
theorem b160_17 {d : Nat} {o1 : Option Value} {S : fm_S}  : am_Ev d 160 17 [some (.ref 231), o1] [] (fm_mk S) (some (.int 0), fm_mk S) := by
  refine fs_iconst (n := 0) (v := 0) (by decide +kernel) (by decide) ?_
  exact fe_retZ (by decide +kernel) (by decide +kernel) (by decide)
theorem b160_19 {d : Nat} {o1 : Option Value} {S1 : fm_S} {S : fm_S} {r : Option Value × am_W} (hc : am_Sp d 153 [.ref 231] (fm_mk S) (none) (fm_mk S1)) (nx : am_Ev (d + 1) 160 23 [some (.ref 231), o1] [] (fm_mk S1) r) : am_Ev (d + 1) 160 19 [some (.ref 231), o1] [] (fm_mk S) r := by
  refine fs_aloadn (j := 0) (by decide +kernel) rfl ?_
  exact fe_callV (idx := 117) (n := 0) (wp := 1078) (q := (1080, 36)) (as := []) (rs := []) (by decide +kernel) (by decide +kernel) (by decide +kernel) (by decide +kernel) rfl (Nat.le_of_ble_eq_true rfl) rfl hc nx
theorem b160_23 {d : Nat} {o1 : Option Value} {v : Int32} {S1 : fm_S} {S : fm_S} {r : Option Value × am_W} (hc : am_Sp d 159 [.ref 231, .int 1, .int 0, .int ((S.1 233 0) - 1)] (fm_mk S) (some (.int v)) (fm_mk S1)) (nx : am_Ev (d + 1) 160 42 [some (.ref 231), some (.int (S.1 231 11))] [.int v] (fm_mk S1) r) : am_Ev (d + 1) 160 23 [some (.ref 231), o1] [] (fm_mk S) r := by
  refine fs_aloadn (j := 0) (by decide +kernel) rfl ?_
  refine fe_getI (idx := 107) (t := 8) (f := 11) (fk := 0) (fin := 0) (wp := 954) (by decide +kernel) (by decide +kernel) (by decide +kernel) (by decide +kernel) ?_
  refine fs_istoren (j := 1) (L' := [some (.ref 231), some (.int (S.1 231 11))]) (by decide +kernel) (Nat.le_of_ble_eq_true rfl) rfl ?_
  refine fs_aloadn (j := 0) (by decide +kernel) rfl ?_
  refine fs_iconst (n := 1) (v := 1) (by decide +kernel) (by decide) ?_
  refine fs_iconst (n := 0) (v := 0) (by decide +kernel) (by decide) ?_
  refine fs_aloadn (j := 0) (by decide +kernel) rfl ?_
  refine fe_getR (idx := 13) (t := 8) (f := 1) (fk := 2) (fin := 1) (wp := 944) (x := 233) (by decide +kernel) (by decide +kernel) (by decide +kernel) (by decide +kernel) (by decide +kernel) ?_
  refine fs_iconst (n := 0) (v := 0) (by decide +kernel) (by decide) ?_
  refine fx_iald (n := 0) (len := 373) (by decide +kernel) (by decide +kernel) (by decide +kernel) (vp_c (by decide) (by decide)) (by decide) ?_
  refine fs_iconst (n := 1) (v := 1) (by decide +kernel) (by decide) ?_
  refine fs_isub (by decide +kernel) ?_
  exact fe_callV (idx := 151) (n := 3) (wp := 1110) (q := (1112, 41)) (as := [.int 1, .int 0, .int ((S.1 233 0) - 1)]) (rs := []) (by decide +kernel) (by decide +kernel) (by decide +kernel) (by decide +kernel) rfl (Nat.le_of_ble_eq_true rfl) rfl hc nx
theorem b160_42 {d : Nat} {x1 : Int32} {sx0 : Int32} {S : fm_S} {r : Option Value × am_W} (kt : ¬ sx0 = 0 → am_Ev d 160 47 [some (.ref 231), some (.int x1)] [] (fm_mk S) r) (kf : sx0 = 0 → am_Ev d 160 45 [some (.ref 231), some (.int x1)] [] (fm_mk S) r) : am_Ev d 160 42 [some (.ref 231), some (.int x1)] [.int sx0] (fm_mk S) r := by
  exact fs_ifne (off := 5) (tgt := 47) (by decide +kernel) (by decide) kt kf
theorem b160_45 {d : Nat} {x1 : Int32} {S : fm_S}  : am_Ev d 160 45 [some (.ref 231), some (.int x1)] [] (fm_mk S) (some (.int 0), fm_mk S) := by
  refine fs_iconst (n := 0) (v := 0) (by decide +kernel) (by decide) ?_
  exact fe_retZ (by decide +kernel) (by decide +kernel) (by decide)
theorem b160_47 {d : Nat} {x1 : Int32} {S : fm_S} {r : Option Value × am_W} (kt : ¬ (S.1 237 0) = (S.1 237 1) → am_Ev d 160 68 [some (.ref 231), some (.int x1)] [] (fm_mk S) r) (kf : (S.1 237 0) = (S.1 237 1) → am_Ev d 160 62 [some (.ref 231), some (.int x1)] [] (fm_mk S) r) : am_Ev d 160 47 [some (.ref 231), some (.int x1)] [] (fm_mk S) r := by
  refine fs_aloadn (j := 0) (by decide +kernel) rfl ?_
  refine fe_getR (idx := 25) (t := 8) (f := 13) (fk := 2) (fin := 1) (wp := 956) (x := 237) (by decide +kernel) (by decide +kernel) (by decide +kernel) (by decide +kernel) (by decide +kernel) ?_
  refine fs_iconst (n := 0) (v := 0) (by decide +kernel) (by decide) ?_
  refine fx_iald (n := 0) (len := 3) (by decide +kernel) (by decide +kernel) (by decide +kernel) (vp_c (by decide) (by decide)) (by decide) ?_
  refine fs_aloadn (j := 0) (by decide +kernel) rfl ?_
  refine fe_getR (idx := 25) (t := 8) (f := 13) (fk := 2) (fin := 1) (wp := 956) (x := 237) (by decide +kernel) (by decide +kernel) (by decide +kernel) (by decide +kernel) (by decide +kernel) ?_
  refine fs_iconst (n := 1) (v := 1) (by decide +kernel) (by decide) ?_
  refine fx_iald (n := 1) (len := 3) (by decide +kernel) (by decide +kernel) (by decide +kernel) (vp_c (by decide) (by decide)) (by decide) ?_
  exact fs_icne (off := 9) (tgt := 68) (by decide +kernel) (by decide) kt kf
theorem b160_62 {d : Nat} {x1 : Int32} {v : Int32} {S1 : fm_S} {S : fm_S} {r : Option Value × am_W} (hc : am_Sp d 156 [.ref 231, .int x1] (fm_mk S) (some (.int v)) (fm_mk S1)) (nx : am_Ev (d + 1) 160 67 [some (.ref 231), some (.int x1)] [.int v] (fm_mk S1) r) : am_Ev (d + 1) 160 62 [some (.ref 231), some (.int x1)] [] (fm_mk S) r := by
  refine fs_aloadn (j := 0) (by decide +kernel) rfl ?_
  refine fs_iloadn (j := 1) (by decide +kernel) rfl ?_
  exact fe_callV (idx := 126) (n := 1) (wp := 1098) (q := (1100, 38)) (as := [.int x1]) (rs := []) (by decide +kernel) (by decide +kernel) (by decide +kernel) (by decide +kernel) rfl (Nat.le_of_ble_eq_true rfl) rfl hc nx
theorem b160_67 {d : Nat} {x1 : Int32} {sx0 : Int32} {S : fm_S}  (hz : sx0 = 0 ∨ sx0 = 1) : am_Ev d 160 67 [some (.ref 231), some (.int x1)] [.int sx0] (fm_mk S) (some (.int sx0), fm_mk S) := by
  exact fe_retZ (by decide +kernel) (by decide +kernel) hz
theorem b160_68 {d : Nat} {x1 : Int32} {v : Int32} {S1 : fm_S} {S : fm_S} {r : Option Value × am_W} (hc : am_Sp d 158 [.ref 231] (fm_mk S) (some (.int v)) (fm_mk S1)) (nx : am_Ev (d + 1) 160 72 [some (.ref 231), some (.int x1)] [.int v] (fm_mk S1) r) : am_Ev (d + 1) 160 68 [some (.ref 231), some (.int x1)] [] (fm_mk S) r := by
  refine fs_aloadn (j := 0) (by decide +kernel) rfl ?_
  exact fe_callV (idx := 155) (n := 0) (wp := 1106) (q := (1108, 40)) (as := []) (rs := []) (by decide +kernel) (by decide +kernel) (by decide +kernel) (by decide +kernel) rfl (Nat.le_of_ble_eq_true rfl) rfl hc nx
theorem b160_72 {d : Nat} {x1 : Int32} {sx0 : Int32} {S : fm_S} {r : Option Value × am_W} (kt : ¬ sx0 = 0 → am_Ev d 160 77 [some (.ref 231), some (.int x1)] [] (fm_mk S) r) (kf : sx0 = 0 → am_Ev d 160 75 [some (.ref 231), some (.int x1)] [] (fm_mk S) r) : am_Ev d 160 72 [some (.ref 231), some (.int x1)] [.int sx0] (fm_mk S) r := by
  exact fs_ifne (off := 5) (tgt := 77) (by decide +kernel) (by decide) kt kf
theorem b160_75 {d : Nat} {x1 : Int32} {S : fm_S}  : am_Ev d 160 75 [some (.ref 231), some (.int x1)] [] (fm_mk S) (some (.int 0), fm_mk S) := by
  refine fs_iconst (n := 0) (v := 0) (by decide +kernel) (by decide) ?_
  exact fe_retZ (by decide +kernel) (by decide +kernel) (by decide)
theorem b160_77 {d : Nat} {x1 : Int32} {S1 : fm_S} {S : fm_S} {r : Option Value × am_W} (hc : am_Sp d 144 [.ref 233, .int (S.1 237 0), .int (S.1 237 1)] (fm_mk S) (none) (fm_mk S1)) (nx : am_Ev (d + 1) 160 96 [some (.ref 231), some (.int x1)] [] (fm_mk S1) r) : am_Ev (d + 1) 160 77 [some (.ref 231), some (.int x1)] [] (fm_mk S) r := by
  refine fs_aloadn (j := 0) (by decide +kernel) rfl ?_
  refine fe_getR (idx := 13) (t := 8) (f := 1) (fk := 2) (fin := 1) (wp := 944) (x := 233) (by decide +kernel) (by decide +kernel) (by decide +kernel) (by decide +kernel) (by decide +kernel) ?_
  refine fs_aloadn (j := 0) (by decide +kernel) rfl ?_
  refine fe_getR (idx := 25) (t := 8) (f := 13) (fk := 2) (fin := 1) (wp := 956) (x := 237) (by decide +kernel) (by decide +kernel) (by decide +kernel) (by decide +kernel) (by decide +kernel) ?_
  refine fs_iconst (n := 0) (v := 0) (by decide +kernel) (by decide) ?_
  refine fx_iald (n := 0) (len := 3) (by decide +kernel) (by decide +kernel) (by decide +kernel) (vp_c (by decide) (by decide)) (by decide) ?_
  refine fs_aloadn (j := 0) (by decide +kernel) rfl ?_
  refine fe_getR (idx := 25) (t := 8) (f := 13) (fk := 2) (fin := 1) (wp := 956) (x := 237) (by decide +kernel) (by decide +kernel) (by decide +kernel) (by decide +kernel) (by decide +kernel) ?_
  refine fs_iconst (n := 1) (v := 1) (by decide +kernel) (by decide) ?_
  refine fx_iald (n := 1) (len := 3) (by decide +kernel) (by decide +kernel) (by decide +kernel) (vp_c (by decide) (by decide)) (by decide) ?_
  exact fe_callS (idx := 91) (kd := 0) (n := 3) (wp := 1041) (q := (1042, 0)) (as := [.ref 233, .int (S.1 237 0), .int (S.1 237 1)]) (rs := []) (by decide +kernel) (by decide +kernel) (by decide +kernel) (by decide) rfl (Nat.le_of_ble_eq_true rfl) rfl hc nx
theorem b160_96 {d : Nat} {x1 : Int32} {S : fm_S}  : am_Ev d 160 96 [some (.ref 231), some (.int x1)] [] (fm_mk S) (some (.int 1), fm_mk S) := by
  refine fs_iconst (n := 1) (v := 1) (by decide +kernel) (by decide) ?_
  exact fe_retZ (by decide +kernel) (by decide +kernel) (by decide)
-- KitchenSiegeModel.day(I)I
theorem b161_0 {d : Nat} {x1 : Int32} {o2 : Option Value} {S : fm_S} {r : Option Value × am_W} (kt : x1 = (-1) → am_Ev d 161 18 [some (.ref 231), some (.int x1), o2] [] (fm_mk S) r) (kf : ¬ x1 = (-1) → am_Ev d 161 5 [some (.ref 231), some (.int x1), o2] [] (fm_mk S) r) : am_Ev d 161 0 [some (.ref 231), some (.int x1), o2] [] (fm_mk S) r := by
  refine fs_iloadn (j := 1) (by decide +kernel) rfl ?_
  refine fs_iconst (n := -1) (v := (-1)) (by decide +kernel) (by decide) ?_
  exact fs_iceq (off := 16) (tgt := 18) (by decide +kernel) (by decide) kt kf
theorem b161_5 {d : Nat} {x1 : Int32} {o2 : Option Value} {v : Int32} {S1 : fm_S} {S : fm_S} {r : Option Value × am_W} (hc : am_Sp d 162 [.ref 231, .int x1] (fm_mk S) (some (.int v)) (fm_mk S1)) (nx : am_Ev (d + 1) 161 10 [some (.ref 231), some (.int x1), o2] [.int v] (fm_mk S1) r) : am_Ev (d + 1) 161 5 [some (.ref 231), some (.int x1), o2] [] (fm_mk S) r := by
  refine fs_aloadn (j := 0) (by decide +kernel) rfl ?_
  refine fs_iloadn (j := 1) (by decide +kernel) rfl ?_
  exact fe_callV (idx := 172) (n := 1) (wp := 1125) (q := (1127, 43)) (as := [.int x1]) (rs := []) (by decide +kernel) (by decide +kernel) (by decide +kernel) (by decide +kernel) rfl (Nat.le_of_ble_eq_true rfl) rfl hc nx
theorem b161_10 {d : Nat} {x1 : Int32} {o2 : Option Value} {sx0 : Int32} {S : fm_S} {r : Option Value × am_W} (kt : ¬ sx0 = 0 → am_Ev d 161 18 [some (.ref 231), some (.int x1), o2] [] (fm_mk S) r) (kf : sx0 = 0 → am_Ev d 161 13 [some (.ref 231), some (.int x1), o2] [] (fm_mk S) r) : am_Ev d 161 10 [some (.ref 231), some (.int x1), o2] [.int sx0] (fm_mk S) r := by
  exact fs_ifne (off := 8) (tgt := 18) (by decide +kernel) (by decide) kt kf
theorem b161_13 {d : Nat} {x1 : Int32} {o2 : Option Value} {v : Int32} {S1 : fm_S} {S : fm_S} {r : Option Value × am_W} (hc : am_Sp d 138 [.ref 231] (fm_mk S) (some (.int v)) (fm_mk S1)) (nx : am_Ev (d + 1) 161 17 [some (.ref 231), some (.int x1), o2] [.int v] (fm_mk S1) r) : am_Ev (d + 1) 161 13 [some (.ref 231), some (.int x1), o2] [] (fm_mk S) r := by
  refine fs_aloadn (j := 0) (by decide +kernel) rfl ?_
  exact fe_callV (idx := 73) (n := 0) (wp := 1018) (q := (1020, 31)) (as := []) (rs := []) (by decide +kernel) (by decide +kernel) (by decide +kernel) (by decide +kernel) rfl (Nat.le_of_ble_eq_true rfl) rfl hc nx
theorem b161_17 {d : Nat} {x1 : Int32} {o2 : Option Value} {sx0 : Int32} {S : fm_S}  : am_Ev d 161 17 [some (.ref 231), some (.int x1), o2] [.int sx0] (fm_mk S) (some (.int sx0), fm_mk S) := by
  exact fe_retI (by decide +kernel) (by decide +kernel)
theorem b161_18 {d : Nat} {x1 : Int32} {o2 : Option Value} {S : fm_S} {r : Option Value × am_W} (kt : ¬ (S.1 232 3) = 8 → am_Ev d 161 74 [some (.ref 231), some (.int x1), o2] [] (fm_mk S) r) (kf : (S.1 232 3) = 8 → am_Ev d 161 29 [some (.ref 231), some (.int x1), o2] [] (fm_mk S) r) : am_Ev d 161 18 [some (.ref 231), some (.int x1), o2] [] (fm_mk S) r := by
  refine fs_aloadn (j := 0) (by decide +kernel) rfl ?_
  refine fe_getR (idx := 7) (t := 8) (f := 0) (fk := 2) (fin := 1) (wp := 943) (x := 232) (by decide +kernel) (by decide +kernel) (by decide +kernel) (by decide +kernel) (by decide +kernel) ?_
  refine fs_iconst (n := 3) (v := 3) (by decide +kernel) (by decide) ?_
  refine fx_iald (n := 3) (len := 373) (by decide +kernel) (by decide +kernel) (by decide +kernel) (vp_c (by decide) (by decide)) (by decide) ?_
  refine fs_bipush (n := 8) (v := 8) (by decide +kernel) (by decide) ?_
  exact fs_icne (off := 48) (tgt := 74) (by decide +kernel) (by decide) kt kf
theorem b161_29 {d : Nat} {x1 : Int32} {o2 : Option Value} {S : fm_S} {r : Option Value × am_W} (nx : am_Ev d 161 31 [some (.ref 231), some (.int x1), some (.int 0)] [] (fm_mk S) r) : am_Ev d 161 29 [some (.ref 231), some (.int x1), o2] [] (fm_mk S) r := by
  refine fs_iconst (n := 0) (v := 0) (by decide +kernel) (by decide) ?_
  refine fs_istoren (j := 2) (L' := [some (.ref 231), some (.int x1), some (.int 0)]) (by decide +kernel) (Nat.le_of_ble_eq_true rfl) rfl ?_
  exact nx
theorem b161_31 {d : Nat} {x1 : Int32} {x2 : Int32} {S : fm_S} {r : Option Value × am_W} (kt : 175 ≤ x2 → am_Ev d 161 64 [some (.ref 231), some (.int x1), some (.int x2)] [] (fm_mk S) r) (kf : ¬ 175 ≤ x2 → am_Ev d 161 38 [some (.ref 231), some (.int x1), some (.int x2)] [] (fm_mk S) r) : am_Ev d 161 31 [some (.ref 231), some (.int x1), some (.int x2)] [] (fm_mk S) r := by
  refine fs_iloadn (j := 2) (by decide +kernel) rfl ?_
  refine fs_sipush (n := 175) (v := 175) (by decide +kernel) (by decide) ?_
  exact fs_icge (off := 29) (tgt := 64) (by decide +kernel) (by decide) kt kf
theorem b161_38 {d : Nat} {x1 : Int32} {x2 : Int32} {S : fm_S} {r : Option Value × am_W} (hi0 : vp_in (198 + x2) 373) (hi1 : vp_in (173 + x2) 373) (nx : am_Ev d 161 31 [some (.ref 231), some (.int x1), some (.int (x2 + 1))] [] (fm_mk (fm_wI S 232 ((173 + x2).toNatClampNeg) (S.1 232 ((198 + x2).toNatClampNeg)))) r) : am_Ev d 161 38 [some (.ref 231), some (.int x1), some (.int x2)] [] (fm_mk S) r := by
  refine fs_aloadn (j := 0) (by decide +kernel) rfl ?_
  refine fe_getR (idx := 7) (t := 8) (f := 0) (fk := 2) (fin := 1) (wp := 943) (x := 232) (by decide +kernel) (by decide +kernel) (by decide +kernel) (by decide +kernel) (by decide +kernel) ?_
  refine fs_sipush (n := 173) (v := 173) (by decide +kernel) (by decide) ?_
  refine fs_iloadn (j := 2) (by decide +kernel) rfl ?_
  refine fs_iadd (by decide +kernel) ?_
  refine fs_aloadn (j := 0) (by decide +kernel) rfl ?_
  refine fe_getR (idx := 7) (t := 8) (f := 0) (fk := 2) (fin := 1) (wp := 943) (x := 232) (by decide +kernel) (by decide +kernel) (by decide +kernel) (by decide +kernel) (by decide +kernel) ?_
  refine fs_sipush (n := 198) (v := 198) (by decide +kernel) (by decide) ?_
  refine fs_iloadn (j := 2) (by decide +kernel) rfl ?_
  refine fs_iadd (by decide +kernel) ?_
  refine fx_iald (n := (198 + x2).toNatClampNeg) (len := 373) (by decide +kernel) (by decide +kernel) (by decide +kernel) hi0 rfl ?_
  refine fx_iast (n := (173 + x2).toNatClampNeg) (len := 373) (by decide +kernel) (by decide +kernel) (by decide +kernel) hi1 rfl ?_
  refine fs_iinc (j := 2) (n := 1) (v := 1) (L' := [some (.ref 231), some (.int x1), some (.int (x2 + 1))]) (by decide +kernel) rfl (Nat.le_of_ble_eq_true rfl) (by decide) rfl ?_
  refine fs_goto (off := -30) (tgt := 31) (by decide +kernel) (by decide) ?_
  exact nx
theorem b161_64 {d : Nat} {x1 : Int32} {x2 : Int32} {S : fm_S} {r : Option Value × am_W} (nx : am_Ev d 161 74 [some (.ref 231), some (.int x1), some (.int x2)] [] (fm_mk (fm_wI S 232 3 ((S.1 232 3) - 1))) r) : am_Ev d 161 64 [some (.ref 231), some (.int x1), some (.int x2)] [] (fm_mk S) r := by
  refine fs_aloadn (j := 0) (by decide +kernel) rfl ?_
  refine fe_getR (idx := 7) (t := 8) (f := 0) (fk := 2) (fin := 1) (wp := 943) (x := 232) (by decide +kernel) (by decide +kernel) (by decide +kernel) (by decide +kernel) (by decide +kernel) ?_
  refine fs_iconst (n := 3) (v := 3) (by decide +kernel) (by decide) ?_
  refine fs_dup2 (by decide +kernel) ⟨rfl, rfl⟩ ?_
  refine fx_iald (n := 3) (len := 373) (by decide +kernel) (by decide +kernel) (by decide +kernel) (vp_c (by decide) (by decide)) (by decide) ?_
  refine fs_iconst (n := 1) (v := 1) (by decide +kernel) (by decide) ?_
  refine fs_isub (by decide +kernel) ?_
  refine fx_iast (n := 3) (len := 373) (by decide +kernel) (by decide +kernel) (by decide +kernel) (vp_c (by decide) (by decide)) (by decide) ?_
  exact nx
theorem b161_74 {d : Nat} {x1 : Int32} {o2 : Option Value} {S1 : fm_S} {S : fm_S} {r : Option Value × am_W} (hc : am_Sp d 163 [.ref 232, .ref 232, .int (173 + (25 * (S.1 232 3))), .int 0] (fm_mk S) (none) (fm_mk S1)) (nx : am_Ev (d + 1) 161 99 [some (.ref 231), some (.int x1), o2] [] (fm_mk S1) r) : am_Ev (d + 1) 161 74 [some (.ref 231), some (.int x1), o2] [] (fm_mk S) r := by
  refine fs_aloadn (j := 0) (by decide +kernel) rfl ?_
  refine fe_getR (idx := 7) (t := 8) (f := 0) (fk := 2) (fin := 1) (wp := 943) (x := 232) (by decide +kernel) (by decide +kernel) (by decide +kernel) (by decide +kernel) (by decide +kernel) ?_
  refine fs_aloadn (j := 0) (by decide +kernel) rfl ?_
  refine fe_getR (idx := 7) (t := 8) (f := 0) (fk := 2) (fin := 1) (wp := 943) (x := 232) (by decide +kernel) (by decide +kernel) (by decide +kernel) (by decide +kernel) (by decide +kernel) ?_
  refine fs_sipush (n := 173) (v := 173) (by decide +kernel) (by decide) ?_
  refine fs_bipush (n := 25) (v := 25) (by decide +kernel) (by decide) ?_
  refine fs_aloadn (j := 0) (by decide +kernel) rfl ?_
  refine fe_getR (idx := 7) (t := 8) (f := 0) (fk := 2) (fin := 1) (wp := 943) (x := 232) (by decide +kernel) (by decide +kernel) (by decide +kernel) (by decide +kernel) (by decide +kernel) ?_
  refine fs_iconst (n := 3) (v := 3) (by decide +kernel) (by decide) ?_
  refine fx_iald (n := 3) (len := 373) (by decide +kernel) (by decide +kernel) (by decide +kernel) (vp_c (by decide) (by decide)) (by decide) ?_
  refine fs_imul (by decide +kernel) ?_
  refine fs_iadd (by decide +kernel) ?_
  refine fs_iconst (n := 0) (v := 0) (by decide +kernel) (by decide) ?_
  exact fe_callS (idx := 194) (kd := 0) (n := 4) (wp := 1129) (q := (1130, 0)) (as := [.ref 232, .ref 232, .int (173 + (25 * (S.1 232 3))), .int 0]) (rs := []) (by decide +kernel) (by decide +kernel) (by decide +kernel) (by decide) rfl (Nat.le_of_ble_eq_true rfl) rfl hc nx
theorem b161_99 {d : Nat} {x1 : Int32} {o2 : Option Value} {v : Int32} {S1 : fm_S} {S : fm_S} {r : Option Value × am_W} (hc : am_Sp d 164 [.ref 231, .int x1] (fm_mk (fm_wI S 232 3 ((S.1 232 3) + 1))) (some (.int v)) (fm_mk S1)) (nx : am_Ev (d + 1) 161 114 [some (.ref 231), some (.int x1), o2] [.int v] (fm_mk S1) r) : am_Ev (d + 1) 161 99 [some (.ref 231), some (.int x1), o2] [] (fm_mk S) r := by
  refine fs_aloadn (j := 0) (by decide +kernel) rfl ?_
  refine fe_getR (idx := 7) (t := 8) (f := 0) (fk := 2) (fin := 1) (wp := 943) (x := 232) (by decide +kernel) (by decide +kernel) (by decide +kernel) (by decide +kernel) (by decide +kernel) ?_
  refine fs_iconst (n := 3) (v := 3) (by decide +kernel) (by decide) ?_
  refine fs_dup2 (by decide +kernel) ⟨rfl, rfl⟩ ?_
  refine fx_iald (n := 3) (len := 373) (by decide +kernel) (by decide +kernel) (by decide +kernel) (vp_c (by decide) (by decide)) (by decide) ?_
  refine fs_iconst (n := 1) (v := 1) (by decide +kernel) (by decide) ?_
  refine fs_iadd (by decide +kernel) ?_
  refine fx_iast (n := 3) (len := 373) (by decide +kernel) (by decide +kernel) (by decide +kernel) (vp_c (by decide) (by decide)) (by decide) ?_
  refine fs_aloadn (j := 0) (by decide +kernel) rfl ?_
  refine fs_iloadn (j := 1) (by decide +kernel) rfl ?_
  exact fe_callV (idx := 198) (n := 1) (wp := 1132) (q := (1134, 44)) (as := [.int x1]) (rs := []) (by decide +kernel) (by decide +kernel) (by decide +kernel) (by decide +kernel) rfl (Nat.le_of_ble_eq_true rfl) rfl hc nx
theorem b161_114 {d : Nat} {x1 : Int32} {o2 : Option Value} {sx0 : Int32} {S : fm_S}  : am_Ev d 161 114 [some (.ref 231), some (.int x1), o2] [.int sx0] (fm_mk S) (some (.int sx0), fm_mk S) := by
  exact fe_retI (by decide +kernel) (by decide +kernel)
-- KitchenSiegeModel.isDish(I)Z
theorem b162_0 {d : Nat} {x1 : Int32} {v : Int32} {S1 : fm_S} {S : fm_S} {r : Option Value × am_W} (hc : am_Sp d 137 [.long x1.toInt64, .long 0, .long (((S.1 232 1) - 1).toInt64)] (fm_mk S) (some (.int v)) (fm_mk S1)) (nx : am_Ev (d + 1) 162 15 [some (.ref 231), some (.int x1)] [.int v] (fm_mk S1) r) : am_Ev (d + 1) 162 0 [some (.ref 231), some (.int x1)] [] (fm_mk S) r := by
  refine fs_iloadn (j := 1) (by decide +kernel) rfl ?_
  refine fs_i2l (by decide +kernel) ?_
  refine fs_lconst (n := 0) (v := 0) (by decide +kernel) (by decide) ?_
  refine fs_aloadn (j := 0) (by decide +kernel) rfl ?_
  refine fe_getR (idx := 7) (t := 8) (f := 0) (fk := 2) (fin := 1) (wp := 943) (x := 232) (by decide +kernel) (by decide +kernel) (by decide +kernel) (by decide +kernel) (by decide +kernel) ?_
  refine fs_iconst (n := 1) (v := 1) (by decide +kernel) (by decide) ?_
  refine fx_iald (n := 1) (len := 373) (by decide +kernel) (by decide +kernel) (by decide +kernel) (vp_c (by decide) (by decide)) (by decide) ?_
  refine fs_iconst (n := 1) (v := 1) (by decide +kernel) (by decide) ?_
  refine fs_isub (by decide +kernel) ?_
  refine fs_i2l (by decide +kernel) ?_
  exact fe_callS (idx := 67) (kd := 0) (n := 3) (wp := 1014) (q := (1015, 0)) (as := [.long x1.toInt64, .long 0, .long (((S.1 232 1) - 1).toInt64)]) (rs := []) (by decide +kernel) (by decide +kernel) (by decide +kernel) (by decide) rfl (Nat.le_of_ble_eq_true rfl) rfl hc nx
theorem b162_15 {d : Nat} {x1 : Int32} {sx0 : Int32} {S : fm_S}  (hz : sx0 = 0 ∨ sx0 = 1) : am_Ev d 162 15 [some (.ref 231), some (.int x1)] [.int sx0] (fm_mk S) (some (.int sx0), fm_mk S) := by
  exact fe_retZ (by decide +kernel) (by decide +kernel) hz
-- KitchenSiegeModel.past([I[IIZ)V
theorem b163_0 {d : Nat} {a0 : Nat} {a1 : Nat} {x2 : Int32} {x3 : Int32} {o4 : Option Value} {o5 : Option Value} {S : fm_S} {r : Option Value × am_W} (nx : am_Ev d 163 3 [some (.ref a0), some (.ref a1), some (.int x2), some (.int x3), some (.int 0), o5] [] (fm_mk S) r) : am_Ev d 163 0 [some (.ref a0), some (.ref a1), some (.int x2), some (.int x3), o4, o5] [] (fm_mk S) r := by
  refine fs_iconst (n := 0) (v := 0) (by decide +kernel) (by decide) ?_
  refine fs_istore (j := 4) (L' := [some (.ref a0), some (.ref a1), some (.int x2), some (.int x3), some (.int 0), o5]) (by decide +kernel) (Nat.le_of_ble_eq_true rfl) rfl ?_
  exact nx
theorem b163_3 {d : Nat} {a0 : Nat} {a1 : Nat} {x2 : Int32} {x3 : Int32} {x4 : Int32} {o5 : Option Value} {S : fm_S} {r : Option Value × am_W} (kt : 25 ≤ x4 → am_Ev d 163 59 [some (.ref a0), some (.ref a1), some (.int x2), some (.int x3), some (.int x4), o5] [] (fm_mk S) r) (kf : ¬ 25 ≤ x4 → am_Ev d 163 10 [some (.ref a0), some (.ref a1), some (.int x2), some (.int x3), some (.int x4), o5] [] (fm_mk S) r) : am_Ev d 163 3 [some (.ref a0), some (.ref a1), some (.int x2), some (.int x3), some (.int x4), o5] [] (fm_mk S) r := by
  refine fs_iload (j := 4) (by decide +kernel) rfl ?_
  refine fs_bipush (n := 25) (v := 25) (by decide +kernel) (by decide) ?_
  exact fs_icge (off := 52) (tgt := 59) (by decide +kernel) (by decide) kt kf
theorem b163_10 {d : Nat} {a0 : Nat} {a1 : Nat} {x2 : Int32} {x3 : Int32} {x4 : Int32} {o5 : Option Value} {S : fm_S} {r : Option Value × am_W} (kt : ¬ x4 = 0 → am_Ev d 163 19 [some (.ref a0), some (.ref a1), some (.int x2), some (.int x3), some (.int x4), o5] [] (fm_mk S) r) (kf : x4 = 0 → am_Ev d 163 15 [some (.ref a0), some (.ref a1), some (.int x2), some (.int x3), some (.int x4), o5] [] (fm_mk S) r) : am_Ev d 163 10 [some (.ref a0), some (.ref a1), some (.int x2), some (.int x3), some (.int x4), o5] [] (fm_mk S) r := by
  refine fs_iload (j := 4) (by decide +kernel) rfl ?_
  exact fs_ifne (off := 7) (tgt := 19) (by decide +kernel) (by decide) kt kf
theorem b163_15 {d : Nat} {a0 : Nat} {a1 : Nat} {x2 : Int32} {x3 : Int32} {x4 : Int32} {o5 : Option Value} {S : fm_S} {r : Option Value × am_W} (nx : am_Ev d 163 24 [some (.ref a0), some (.ref a1), some (.int x2), some (.int x3), some (.int x4), o5] [.int 4] (fm_mk S) r) : am_Ev d 163 15 [some (.ref a0), some (.ref a1), some (.int x2), some (.int x3), some (.int x4), o5] [] (fm_mk S) r := by
  refine fs_iconst (n := 4) (v := 4) (by decide +kernel) (by decide) ?_
  refine fs_goto (off := 8) (tgt := 24) (by decide +kernel) (by decide) ?_
  exact nx
theorem b163_19 {d : Nat} {a0 : Nat} {a1 : Nat} {x2 : Int32} {x3 : Int32} {x4 : Int32} {o5 : Option Value} {S : fm_S} {r : Option Value × am_W} (nx : am_Ev d 163 24 [some (.ref a0), some (.ref a1), some (.int x2), some (.int x3), some (.int x4), o5] [.int (28 + x4)] (fm_mk S) r) : am_Ev d 163 19 [some (.ref a0), some (.ref a1), some (.int x2), some (.int x3), some (.int x4), o5] [] (fm_mk S) r := by
  refine fs_bipush (n := 28) (v := 28) (by decide +kernel) (by decide) ?_
  refine fs_iload (j := 4) (by decide +kernel) rfl ?_
  refine fs_iadd (by decide +kernel) ?_
  exact nx
theorem b163_24 {d : Nat} {a0 : Nat} {a1 : Nat} {x2 : Int32} {x3 : Int32} {x4 : Int32} {o5 : Option Value} {sx0 : Int32} {S : fm_S} {r : Option Value × am_W} (kt : x3 = 0 → am_Ev d 163 43 [some (.ref a0), some (.ref a1), some (.int x2), some (.int x3), some (.int x4), some (.int sx0)] [] (fm_mk S) r) (kf : ¬ x3 = 0 → am_Ev d 163 30 [some (.ref a0), some (.ref a1), some (.int x2), some (.int x3), some (.int x4), some (.int sx0)] [] (fm_mk S) r) : am_Ev d 163 24 [some (.ref a0), some (.ref a1), some (.int x2), some (.int x3), some (.int x4), o5] [.int sx0] (fm_mk S) r := by
  refine fs_istore (j := 5) (L' := [some (.ref a0), some (.ref a1), some (.int x2), some (.int x3), some (.int x4), some (.int sx0)]) (by decide +kernel) (Nat.le_of_ble_eq_true rfl) rfl ?_
  refine fs_iloadn (j := 3) (by decide +kernel) rfl ?_
  exact fs_ifeq (off := 16) (tgt := 43) (by decide +kernel) (by decide) kt kf
theorem b163_30 {d : Nat} {a0 : Nat} {a1 : Nat} {x2 : Int32} {x3 : Int32} {x4 : Int32} {x5 : Int32} {S : fm_S} {r : Option Value × am_W} (h_a0 : fm_tg a0 = 100) (hi1 : vp_in (x2 + x4) (fm_ln a0)) (h_a1 : fm_tg a1 = 100) (hi3 : vp_in x5 (fm_ln a1)) (nx : am_Ev d 163 53 [some (.ref a0), some (.ref a1), some (.int x2), some (.int x3), some (.int x4), some (.int x5)] [] (fm_mk (fm_wI S a1 x5.toNatClampNeg (S.1 a0 ((x2 + x4).toNatClampNeg)))) r) : am_Ev d 163 30 [some (.ref a0), some (.ref a1), some (.int x2), some (.int x3), some (.int x4), some (.int x5)] [] (fm_mk S) r := by
  refine fs_aloadn (j := 1) (by decide +kernel) rfl ?_
  refine fs_iload (j := 5) (by decide +kernel) rfl ?_
  refine fs_aloadn (j := 0) (by decide +kernel) rfl ?_
  refine fs_iloadn (j := 2) (by decide +kernel) rfl ?_
  refine fs_iload (j := 4) (by decide +kernel) rfl ?_
  refine fs_iadd (by decide +kernel) ?_
  refine fx_iald (n := (x2 + x4).toNatClampNeg) (len := fm_ln a0) (by decide +kernel) h_a0 rfl hi1 rfl ?_
  refine fx_iast (n := x5.toNatClampNeg) (len := fm_ln a1) (by decide +kernel) h_a1 rfl hi3 rfl ?_
  refine fs_goto (off := 13) (tgt := 53) (by decide +kernel) (by decide) ?_
  exact nx
theorem b163_43 {d : Nat} {a0 : Nat} {a1 : Nat} {x2 : Int32} {x3 : Int32} {x4 : Int32} {x5 : Int32} {S : fm_S} {r : Option Value × am_W} (h_a0 : fm_tg a0 = 100) (hi1 : vp_in x5 (fm_ln a0)) (h_a1 : fm_tg a1 = 100) (hi3 : vp_in (x2 + x4) (fm_ln a1)) (nx : am_Ev d 163 53 [some (.ref a0), some (.ref a1), some (.int x2), some (.int x3), some (.int x4), some (.int x5)] [] (fm_mk (fm_wI S a1 ((x2 + x4).toNatClampNeg) (S.1 a0 x5.toNatClampNeg))) r) : am_Ev d 163 43 [some (.ref a0), some (.ref a1), some (.int x2), some (.int x3), some (.int x4), some (.int x5)] [] (fm_mk S) r := by
  refine fs_aloadn (j := 1) (by decide +kernel) rfl ?_
  refine fs_iloadn (j := 2) (by decide +kernel) rfl ?_
  refine fs_iload (j := 4) (by decide +kernel) rfl ?_
  refine fs_iadd (by decide +kernel) ?_
  refine fs_aloadn (j := 0) (by decide +kernel) rfl ?_
  refine fs_iload (j := 5) (by decide +kernel) rfl ?_
  refine fx_iald (n := x5.toNatClampNeg) (len := fm_ln a0) (by decide +kernel) h_a0 rfl hi1 rfl ?_
  refine fx_iast (n := (x2 + x4).toNatClampNeg) (len := fm_ln a1) (by decide +kernel) h_a1 rfl hi3 rfl ?_
  exact nx
theorem b163_53 {d : Nat} {a0 : Nat} {a1 : Nat} {x2 : Int32} {x3 : Int32} {x4 : Int32} {x5 : Int32} {S : fm_S} {r : Option Value × am_W} (nx : am_Ev d 163 3 [some (.ref a0), some (.ref a1), some (.int x2), some (.int x3), some (.int (x4 + 1)), some (.int x5)] [] (fm_mk S) r) : am_Ev d 163 53 [some (.ref a0), some (.ref a1), some (.int x2), some (.int x3), some (.int x4), some (.int x5)] [] (fm_mk S) r := by
  refine fs_iinc (j := 4) (n := 1) (v := 1) (L' := [some (.ref a0), some (.ref a1), some (.int x2), some (.int x3), some (.int (x4 + 1)), some (.int x5)]) (by decide +kernel) rfl (Nat.le_of_ble_eq_true rfl) (by decide) rfl ?_
  refine fs_goto (off := -53) (tgt := 3) (by decide +kernel) (by decide) ?_
  exact nx
theorem b163_59 {d : Nat} {a0 : Nat} {a1 : Nat} {x2 : Int32} {x3 : Int32} {x4 : Int32} {o5 : Option Value} {S : fm_S}  : am_Ev d 163 59 [some (.ref a0), some (.ref a1), some (.int x2), some (.int x3), some (.int x4), o5] [] (fm_mk S) (none, fm_mk S) := by
  exact fe_retV (by decide +kernel) (by decide +kernel)
-- KitchenSiegeModel.goDay(I)I
theorem b164_0 {d : Nat} {x1 : Int32} {o2 : Option Value} {o3 : Option Value} {o4 : Option Value} {o5 : Option Value} {v : Int32} {S1 : fm_S} {S : fm_S} {r : Option Value × am_W} (hc : am_Sp d 165 [.ref 231, .int x1, .int (-1), .int 0] (fm_mk S) (some (.int v)) (fm_mk S1)) (nx : am_Ev (d + 1) 164 7 [some (.ref 231), some (.int x1), o2, o3, o4, o5] [.int v] (fm_mk S1) r) : am_Ev (d + 1) 164 0 [some (.ref 231), some (.int x1), o2, o3, o4, o5] [] (fm_mk S) r := by
  refine fs_aloadn (j := 0) (by decide +kernel) rfl ?_
  refine fs_iloadn (j := 1) (by decide +kernel) rfl ?_
  refine fs_iconst (n := -1) (v := (-1)) (by decide +kernel) (by decide) ?_
  refine fs_iconst (n := 0) (v := 0) (by decide +kernel) (by decide) ?_
  exact fe_callV (idx := 186) (n := 3) (wp := 1136) (q := (1138, 45)) (as := [.int x1, .int (-1), .int 0]) (rs := []) (by decide +kernel) (by decide +kernel) (by decide +kernel) (by decide +kernel) rfl (Nat.le_of_ble_eq_true rfl) rfl hc nx
theorem b164_7 {d : Nat} {x1 : Int32} {o2 : Option Value} {o3 : Option Value} {o4 : Option Value} {o5 : Option Value} {sx0 : Int32} {S : fm_S} {r : Option Value × am_W} (nx : am_Ev d 164 10 [some (.ref 231), some (.int x1), some (.int sx0), some (.int 0), o4, o5] [] (fm_mk S) r) : am_Ev d 164 7 [some (.ref 231), some (.int x1), o2, o3, o4, o5] [.int sx0] (fm_mk S) r := by
  refine fs_istoren (j := 2) (L' := [some (.ref 231), some (.int x1), some (.int sx0), o3, o4, o5]) (by decide +kernel) (Nat.le_of_ble_eq_true rfl) rfl ?_
  refine fs_iconst (n := 0) (v := 0) (by decide +kernel) (by decide) ?_
  refine fs_istoren (j := 3) (L' := [some (.ref 231), some (.int x1), some (.int sx0), some (.int 0), o4, o5]) (by decide +kernel) (Nat.le_of_ble_eq_true rfl) rfl ?_
  exact nx
theorem b164_10 {d : Nat} {x1 : Int32} {x2 : Int32} {x3 : Int32} {o4 : Option Value} {o5 : Option Value} {S : fm_S} {r : Option Value × am_W} (kt : (S.1 232 0) ≤ x3 → am_Ev d 164 163 [some (.ref 231), some (.int x1), some (.int x2), some (.int x3), o4, o5] [] (fm_mk S) r) (kf : ¬ (S.1 232 0) ≤ x3 → am_Ev d 164 20 [some (.ref 231), some (.int x1), some (.int x2), some (.int x3), o4, o5] [] (fm_mk S) r) : am_Ev d 164 10 [some (.ref 231), some (.int x1), some (.int x2), some (.int x3), o4, o5] [] (fm_mk S) r := by
  refine fs_iloadn (j := 3) (by decide +kernel) rfl ?_
  refine fs_aloadn (j := 0) (by decide +kernel) rfl ?_
  refine fe_getR (idx := 7) (t := 8) (f := 0) (fk := 2) (fin := 1) (wp := 943) (x := 232) (by decide +kernel) (by decide +kernel) (by decide +kernel) (by decide +kernel) (by decide +kernel) ?_
  refine fs_iconst (n := 0) (v := 0) (by decide +kernel) (by decide) ?_
  refine fx_iald (n := 0) (len := 373) (by decide +kernel) (by decide +kernel) (by decide +kernel) (vp_c (by decide) (by decide)) (by decide) ?_
  exact fs_icge (off := 146) (tgt := 163) (by decide +kernel) (by decide) kt kf
theorem b164_20 {d : Nat} {x1 : Int32} {x2 : Int32} {x3 : Int32} {o4 : Option Value} {o5 : Option Value} {v : Int32} {S1 : fm_S} {S : fm_S} {r : Option Value × am_W} (hc : am_Sp d 170 [.int x2, .int x3] (fm_mk S) (some (.int v)) (fm_mk S1)) (nx : am_Ev (d + 1) 164 33 [some (.ref 231), some (.int x1), some (.int x2), some (.int x3), o4, o5] [.int v, .int (29 + x3), .ref 232] (fm_mk S1) r) : am_Ev (d + 1) 164 20 [some (.ref 231), some (.int x1), some (.int x2), some (.int x3), o4, o5] [] (fm_mk S) r := by
  refine fs_aloadn (j := 0) (by decide +kernel) rfl ?_
  refine fe_getR (idx := 7) (t := 8) (f := 0) (fk := 2) (fin := 1) (wp := 943) (x := 232) (by decide +kernel) (by decide +kernel) (by decide +kernel) (by decide +kernel) (by decide +kernel) ?_
  refine fs_bipush (n := 29) (v := 29) (by decide +kernel) (by decide) ?_
  refine fs_iloadn (j := 3) (by decide +kernel) rfl ?_
  refine fs_iadd (by decide +kernel) ?_
  refine fs_iloadn (j := 2) (by decide +kernel) rfl ?_
  refine fs_iloadn (j := 3) (by decide +kernel) rfl ?_
  exact fe_callS (idx := 190) (kd := 0) (n := 2) (wp := 1155) (q := (1156, 0)) (as := [.int x2, .int x3]) (rs := [.int (29 + x3), .ref 232]) (by decide +kernel) (by decide +kernel) (by decide +kernel) (by decide) rfl (Nat.le_of_ble_eq_true rfl) rfl hc nx
theorem b164_33 {d : Nat} {x1 : Int32} {x2 : Int32} {x3 : Int32} {o4 : Option Value} {o5 : Option Value} {sx1 : Int32} {sx2 : Int32} {S : fm_S} {r : Option Value × am_W} (kt : sx2 = 0 → am_Ev d 164 45 [some (.ref 231), some (.int x1), some (.int x2), some (.int x3), o4, o5] [.int sx1, .ref 232] (fm_mk S) r) (kf : ¬ sx2 = 0 → am_Ev d 164 36 [some (.ref 231), some (.int x1), some (.int x2), some (.int x3), o4, o5] [.int sx1, .ref 232] (fm_mk S) r) : am_Ev d 164 33 [some (.ref 231), some (.int x1), some (.int x2), some (.int x3), o4, o5] [.int sx2, .int sx1, .ref 232] (fm_mk S) r := by
  exact fs_ifeq (off := 12) (tgt := 45) (by decide +kernel) (by decide) kt kf
theorem b164_36 {d : Nat} {x1 : Int32} {x2 : Int32} {x3 : Int32} {o4 : Option Value} {o5 : Option Value} {sx1 : Int32} {S : fm_S} {r : Option Value × am_W} (nx : am_Ev d 164 54 [some (.ref 231), some (.int x1), some (.int x2), some (.int x3), o4, o5] [.int (S.1 232 4), .int sx1, .ref 232] (fm_mk S) r) : am_Ev d 164 36 [some (.ref 231), some (.int x1), some (.int x2), some (.int x3), o4, o5] [.int sx1, .ref 232] (fm_mk S) r := by
  refine fs_aloadn (j := 0) (by decide +kernel) rfl ?_
  refine fe_getR (idx := 7) (t := 8) (f := 0) (fk := 2) (fin := 1) (wp := 943) (x := 232) (by decide +kernel) (by decide +kernel) (by decide +kernel) (by decide +kernel) (by decide +kernel) ?_
  refine fs_iconst (n := 4) (v := 4) (by decide +kernel) (by decide) ?_
  refine fx_iald (n := 4) (len := 373) (by decide +kernel) (by decide +kernel) (by decide +kernel) (vp_c (by decide) (by decide)) (by decide) ?_
  refine fs_goto (off := 12) (tgt := 54) (by decide +kernel) (by decide) ?_
  exact nx
theorem b164_45 {d : Nat} {x1 : Int32} {x2 : Int32} {x3 : Int32} {o4 : Option Value} {o5 : Option Value} {sx1 : Int32} {S : fm_S} {r : Option Value × am_W} (hi0 : vp_in (29 + x3) 373) (nx : am_Ev d 164 54 [some (.ref 231), some (.int x1), some (.int x2), some (.int x3), o4, o5] [.int (S.1 232 ((29 + x3).toNatClampNeg)), .int sx1, .ref 232] (fm_mk S) r) : am_Ev d 164 45 [some (.ref 231), some (.int x1), some (.int x2), some (.int x3), o4, o5] [.int sx1, .ref 232] (fm_mk S) r := by
  refine fs_aloadn (j := 0) (by decide +kernel) rfl ?_
  refine fe_getR (idx := 7) (t := 8) (f := 0) (fk := 2) (fin := 1) (wp := 943) (x := 232) (by decide +kernel) (by decide +kernel) (by decide +kernel) (by decide +kernel) (by decide +kernel) ?_
  refine fs_bipush (n := 29) (v := 29) (by decide +kernel) (by decide) ?_
  refine fs_iloadn (j := 3) (by decide +kernel) rfl ?_
  refine fs_iadd (by decide +kernel) ?_
  refine fx_iald (n := (29 + x3).toNatClampNeg) (len := 373) (by decide +kernel) (by decide +kernel) (by decide +kernel) hi0 rfl ?_
  exact nx
theorem b164_54 {d : Nat} {x1 : Int32} {x2 : Int32} {x3 : Int32} {o4 : Option Value} {o5 : Option Value} {sx1 : Int32} {sx2 : Int32} {v : Int32} {S1 : fm_S} {S : fm_S} {r : Option Value × am_W} (hi0 : vp_in sx1 373) (hc : am_Sp d 162 [.ref 231, .int x1] (fm_mk (fm_wI S 232 sx1.toNatClampNeg sx2)) (some (.int v)) (fm_mk S1)) (nx : am_Ev (d + 1) 164 60 [some (.ref 231), some (.int x1), some (.int x2), some (.int x3), o4, o5] [.int v] (fm_mk S1) r) : am_Ev (d + 1) 164 54 [some (.ref 231), some (.int x1), some (.int x2), some (.int x3), o4, o5] [.int sx2, .int sx1, .ref 232] (fm_mk S) r := by
  refine fx_iast (n := sx1.toNatClampNeg) (len := 373) (by decide +kernel) (by decide +kernel) (by decide +kernel) hi0 rfl ?_
  refine fs_aloadn (j := 0) (by decide +kernel) rfl ?_
  refine fs_iloadn (j := 1) (by decide +kernel) rfl ?_
  exact fe_callV (idx := 172) (n := 1) (wp := 1125) (q := (1127, 43)) (as := [.int x1]) (rs := []) (by decide +kernel) (by decide +kernel) (by decide +kernel) (by decide +kernel) rfl (Nat.le_of_ble_eq_true rfl) rfl hc nx
theorem b164_60 {d : Nat} {x1 : Int32} {x2 : Int32} {x3 : Int32} {o4 : Option Value} {o5 : Option Value} {sx0 : Int32} {S : fm_S} {r : Option Value × am_W} (kt : sx0 = 0 → am_Ev d 164 76 [some (.ref 231), some (.int x1), some (.int x2), some (.int x3), o4, o5] [] (fm_mk S) r) (kf : ¬ sx0 = 0 → am_Ev d 164 63 [some (.ref 231), some (.int x1), some (.int x2), some (.int x3), o4, o5] [] (fm_mk S) r) : am_Ev d 164 60 [some (.ref 231), some (.int x1), some (.int x2), some (.int x3), o4, o5] [.int sx0] (fm_mk S) r := by
  exact fs_ifeq (off := 16) (tgt := 76) (by decide +kernel) (by decide) kt kf
theorem b164_63 {d : Nat} {x1 : Int32} {x2 : Int32} {x3 : Int32} {o4 : Option Value} {o5 : Option Value} {S : fm_S} {r : Option Value × am_W} (hi0 : vp_in x3 8) (kt : (S.1 238 x3.toNatClampNeg) ≤ 0 → am_Ev d 164 76 [some (.ref 231), some (.int x1), some (.int x2), some (.int x3), o4, o5] [] (fm_mk S) r) (kf : ¬ (S.1 238 x3.toNatClampNeg) ≤ 0 → am_Ev d 164 72 [some (.ref 231), some (.int x1), some (.int x2), some (.int x3), o4, o5] [] (fm_mk S) r) : am_Ev d 164 63 [some (.ref 231), some (.int x1), some (.int x2), some (.int x3), o4, o5] [] (fm_mk S) r := by
  refine fs_aloadn (j := 0) (by decide +kernel) rfl ?_
  refine fe_getR (idx := 28) (t := 8) (f := 14) (fk := 2) (fin := 1) (wp := 957) (x := 238) (by decide +kernel) (by decide +kernel) (by decide +kernel) (by decide +kernel) (by decide +kernel) ?_
  refine fs_iloadn (j := 3) (by decide +kernel) rfl ?_
  refine fx_iald (n := x3.toNatClampNeg) (len := 8) (by decide +kernel) (by decide +kernel) (by decide +kernel) hi0 rfl ?_
  exact fs_ifle (off := 7) (tgt := 76) (by decide +kernel) (by decide) kt kf
theorem b164_72 {d : Nat} {x1 : Int32} {x2 : Int32} {x3 : Int32} {o4 : Option Value} {o5 : Option Value} {S : fm_S} {r : Option Value × am_W} (nx : am_Ev d 164 77 [some (.ref 231), some (.int x1), some (.int x2), some (.int x3), o4, o5] [.int 1] (fm_mk S) r) : am_Ev d 164 72 [some (.ref 231), some (.int x1), some (.int x2), some (.int x3), o4, o5] [] (fm_mk S) r := by
  refine fs_iconst (n := 1) (v := 1) (by decide +kernel) (by decide) ?_
  refine fs_goto (off := 4) (tgt := 77) (by decide +kernel) (by decide) ?_
  exact nx
theorem b164_76 {d : Nat} {x1 : Int32} {x2 : Int32} {x3 : Int32} {o4 : Option Value} {o5 : Option Value} {S : fm_S} {r : Option Value × am_W} (nx : am_Ev d 164 77 [some (.ref 231), some (.int x1), some (.int x2), some (.int x3), o4, o5] [.int 0] (fm_mk S) r) : am_Ev d 164 76 [some (.ref 231), some (.int x1), some (.int x2), some (.int x3), o4, o5] [] (fm_mk S) r := by
  refine fs_iconst (n := 0) (v := 0) (by decide +kernel) (by decide) ?_
  exact nx
theorem b164_77 {d : Nat} {x1 : Int32} {x2 : Int32} {x3 : Int32} {o4 : Option Value} {o5 : Option Value} {sx0 : Int32} {S : fm_S} {r : Option Value × am_W} (kt : sx0 = 0 → am_Ev d 164 96 [some (.ref 231), some (.int x1), some (.int x2), some (.int x3), some (.int sx0), o5] [] (fm_mk S) r) (kf : ¬ sx0 = 0 → am_Ev d 164 84 [some (.ref 231), some (.int x1), some (.int x2), some (.int x3), some (.int sx0), o5] [] (fm_mk S) r) : am_Ev d 164 77 [some (.ref 231), some (.int x1), some (.int x2), some (.int x3), o4, o5] [.int sx0] (fm_mk S) r := by
  refine fs_istore (j := 4) (L' := [some (.ref 231), some (.int x1), some (.int x2), some (.int x3), some (.int sx0), o5]) (by decide +kernel) (Nat.le_of_ble_eq_true rfl) rfl ?_
  refine fs_iload (j := 4) (by decide +kernel) rfl ?_
  exact fs_ifeq (off := 15) (tgt := 96) (by decide +kernel) (by decide) kt kf
theorem b164_84 {d : Nat} {x1 : Int32} {x2 : Int32} {x3 : Int32} {x4 : Int32} {o5 : Option Value} {S : fm_S} {r : Option Value × am_W} (hi0 : vp_in (125 + x1) 373) (nx : am_Ev d 164 97 [some (.ref 231), some (.int x1), some (.int x2), some (.int x3), some (.int x4), o5] [.int (S.1 232 ((125 + x1).toNatClampNeg))] (fm_mk S) r) : am_Ev d 164 84 [some (.ref 231), some (.int x1), some (.int x2), some (.int x3), some (.int x4), o5] [] (fm_mk S) r := by
  refine fs_aloadn (j := 0) (by decide +kernel) rfl ?_
  refine fe_getR (idx := 7) (t := 8) (f := 0) (fk := 2) (fin := 1) (wp := 943) (x := 232) (by decide +kernel) (by decide +kernel) (by decide +kernel) (by decide +kernel) (by decide +kernel) ?_
  refine fs_bipush (n := 125) (v := 125) (by decide +kernel) (by decide) ?_
  refine fs_iloadn (j := 1) (by decide +kernel) rfl ?_
  refine fs_iadd (by decide +kernel) ?_
  refine fx_iald (n := (125 + x1).toNatClampNeg) (len := 373) (by decide +kernel) (by decide +kernel) (by decide +kernel) hi0 rfl ?_
  refine fs_goto (off := 4) (tgt := 97) (by decide +kernel) (by decide) ?_
  exact nx
theorem b164_96 {d : Nat} {x1 : Int32} {x2 : Int32} {x3 : Int32} {x4 : Int32} {o5 : Option Value} {S : fm_S} {r : Option Value × am_W} (nx : am_Ev d 164 97 [some (.ref 231), some (.int x1), some (.int x2), some (.int x3), some (.int x4), o5] [.int (-1)] (fm_mk S) r) : am_Ev d 164 96 [some (.ref 231), some (.int x1), some (.int x2), some (.int x3), some (.int x4), o5] [] (fm_mk S) r := by
  refine fs_iconst (n := -1) (v := (-1)) (by decide +kernel) (by decide) ?_
  exact nx
theorem b164_97 {d : Nat} {x1 : Int32} {x2 : Int32} {x3 : Int32} {x4 : Int32} {o5 : Option Value} {sx0 : Int32} {S : fm_S} {r : Option Value × am_W} (kt : ¬ x4 = 0 → am_Ev d 164 116 [some (.ref 231), some (.int x1), some (.int x2), some (.int x3), some (.int x4), some (.int sx0)] [.int (45 + x3), .ref 232] (fm_mk S) r) (kf : x4 = 0 → am_Ev d 164 112 [some (.ref 231), some (.int x1), some (.int x2), some (.int x3), some (.int x4), some (.int sx0)] [.int (45 + x3), .ref 232] (fm_mk S) r) : am_Ev d 164 97 [some (.ref 231), some (.int x1), some (.int x2), some (.int x3), some (.int x4), o5] [.int sx0] (fm_mk S) r := by
  refine fs_istore (j := 5) (L' := [some (.ref 231), some (.int x1), some (.int x2), some (.int x3), some (.int x4), some (.int sx0)]) (by decide +kernel) (Nat.le_of_ble_eq_true rfl) rfl ?_
  refine fs_aloadn (j := 0) (by decide +kernel) rfl ?_
  refine fe_getR (idx := 7) (t := 8) (f := 0) (fk := 2) (fin := 1) (wp := 943) (x := 232) (by decide +kernel) (by decide +kernel) (by decide +kernel) (by decide +kernel) (by decide +kernel) ?_
  refine fs_bipush (n := 45) (v := 45) (by decide +kernel) (by decide) ?_
  refine fs_iloadn (j := 3) (by decide +kernel) rfl ?_
  refine fs_iadd (by decide +kernel) ?_
  refine fs_iload (j := 4) (by decide +kernel) rfl ?_
  exact fs_ifne (off := 7) (tgt := 116) (by decide +kernel) (by decide) kt kf
theorem b164_112 {d : Nat} {x1 : Int32} {x2 : Int32} {x3 : Int32} {x4 : Int32} {x5 : Int32} {sx1 : Int32} {S : fm_S} {r : Option Value × am_W} (nx : am_Ev d 164 145 [some (.ref 231), some (.int x1), some (.int x2), some (.int x3), some (.int x4), some (.int x5)] [.int 0, .int sx1, .ref 232] (fm_mk S) r) : am_Ev d 164 112 [some (.ref 231), some (.int x1), some (.int x2), some (.int x3), some (.int x4), some (.int x5)] [.int sx1, .ref 232] (fm_mk S) r := by
  refine fs_iconst (n := 0) (v := 0) (by decide +kernel) (by decide) ?_
  refine fs_goto (off := 32) (tgt := 145) (by decide +kernel) (by decide) ?_
  exact nx
theorem b164_116 {d : Nat} {x1 : Int32} {x2 : Int32} {x3 : Int32} {x4 : Int32} {x5 : Int32} {sx1 : Int32} {S : fm_S} {r : Option Value × am_W} (hi0 : vp_in (37 + x3) 373) (kt : ¬ (S.1 232 ((37 + x3).toNatClampNeg)) = x5 → am_Ev d 164 144 [some (.ref 231), some (.int x1), some (.int x2), some (.int x3), some (.int x4), some (.int x5)] [.int sx1, .ref 232] (fm_mk S) r) (kf : (S.1 232 ((37 + x3).toNatClampNeg)) = x5 → am_Ev d 164 130 [some (.ref 231), some (.int x1), some (.int x2), some (.int x3), some (.int x4), some (.int x5)] [.int sx1, .ref 232] (fm_mk S) r) : am_Ev d 164 116 [some (.ref 231), some (.int x1), some (.int x2), some (.int x3), some (.int x4), some (.int x5)] [.int sx1, .ref 232] (fm_mk S) r := by
  refine fs_aloadn (j := 0) (by decide +kernel) rfl ?_
  refine fe_getR (idx := 7) (t := 8) (f := 0) (fk := 2) (fin := 1) (wp := 943) (x := 232) (by decide +kernel) (by decide +kernel) (by decide +kernel) (by decide +kernel) (by decide +kernel) ?_
  refine fs_bipush (n := 37) (v := 37) (by decide +kernel) (by decide) ?_
  refine fs_iloadn (j := 3) (by decide +kernel) rfl ?_
  refine fs_iadd (by decide +kernel) ?_
  refine fx_iald (n := (37 + x3).toNatClampNeg) (len := 373) (by decide +kernel) (by decide +kernel) (by decide +kernel) hi0 rfl ?_
  refine fs_iload (j := 5) (by decide +kernel) rfl ?_
  exact fs_icne (off := 17) (tgt := 144) (by decide +kernel) (by decide) kt kf
theorem b164_130 {d : Nat} {x1 : Int32} {x2 : Int32} {x3 : Int32} {x4 : Int32} {x5 : Int32} {sx1 : Int32} {S : fm_S} {r : Option Value × am_W} (hi0 : vp_in (45 + x3) 373) (nx : am_Ev d 164 145 [some (.ref 231), some (.int x1), some (.int x2), some (.int x3), some (.int x4), some (.int x5)] [.int ((S.1 232 ((45 + x3).toNatClampNeg)) + 1), .int sx1, .ref 232] (fm_mk S) r) : am_Ev d 164 130 [some (.ref 231), some (.int x1), some (.int x2), some (.int x3), some (.int x4), some (.int x5)] [.int sx1, .ref 232] (fm_mk S) r := by
  refine fs_aloadn (j := 0) (by decide +kernel) rfl ?_
  refine fe_getR (idx := 7) (t := 8) (f := 0) (fk := 2) (fin := 1) (wp := 943) (x := 232) (by decide +kernel) (by decide +kernel) (by decide +kernel) (by decide +kernel) (by decide +kernel) ?_
  refine fs_bipush (n := 45) (v := 45) (by decide +kernel) (by decide) ?_
  refine fs_iloadn (j := 3) (by decide +kernel) rfl ?_
  refine fs_iadd (by decide +kernel) ?_
  refine fx_iald (n := (45 + x3).toNatClampNeg) (len := 373) (by decide +kernel) (by decide +kernel) (by decide +kernel) hi0 rfl ?_
  refine fs_iconst (n := 1) (v := 1) (by decide +kernel) (by decide) ?_
  refine fs_iadd (by decide +kernel) ?_
  refine fs_goto (off := 4) (tgt := 145) (by decide +kernel) (by decide) ?_
  exact nx
theorem b164_144 {d : Nat} {x1 : Int32} {x2 : Int32} {x3 : Int32} {x4 : Int32} {x5 : Int32} {sx1 : Int32} {S : fm_S} {r : Option Value × am_W} (nx : am_Ev d 164 145 [some (.ref 231), some (.int x1), some (.int x2), some (.int x3), some (.int x4), some (.int x5)] [.int 1, .int sx1, .ref 232] (fm_mk S) r) : am_Ev d 164 144 [some (.ref 231), some (.int x1), some (.int x2), some (.int x3), some (.int x4), some (.int x5)] [.int sx1, .ref 232] (fm_mk S) r := by
  refine fs_iconst (n := 1) (v := 1) (by decide +kernel) (by decide) ?_
  exact nx
theorem b164_145 {d : Nat} {x1 : Int32} {x2 : Int32} {x3 : Int32} {x4 : Int32} {x5 : Int32} {sx1 : Int32} {sx2 : Int32} {S : fm_S} {r : Option Value × am_W} (hi0 : vp_in sx1 373) (hi1 : vp_in (37 + x3) 373) (nx : am_Ev d 164 10 [some (.ref 231), some (.int x1), some (.int x2), some (.int (x3 + 1)), some (.int x4), some (.int x5)] [] (fm_mk (fm_wI (fm_wI S 232 sx1.toNatClampNeg sx2) 232 ((37 + x3).toNatClampNeg) x5)) r) : am_Ev d 164 145 [some (.ref 231), some (.int x1), some (.int x2), some (.int x3), some (.int x4), some (.int x5)] [.int sx2, .int sx1, .ref 232] (fm_mk S) r := by
  refine fx_iast (n := sx1.toNatClampNeg) (len := 373) (by decide +kernel) (by decide +kernel) (by decide +kernel) hi0 rfl ?_
  refine fs_aloadn (j := 0) (by decide +kernel) rfl ?_
  refine fe_getR (idx := 7) (t := 8) (f := 0) (fk := 2) (fin := 1) (wp := 943) (x := 232) (by decide +kernel) (by decide +kernel) (by decide +kernel) (by decide +kernel) (by decide +kernel) ?_
  refine fs_bipush (n := 37) (v := 37) (by decide +kernel) (by decide) ?_
  refine fs_iloadn (j := 3) (by decide +kernel) rfl ?_
  refine fs_iadd (by decide +kernel) ?_
  refine fs_iload (j := 5) (by decide +kernel) rfl ?_
  refine fx_iast (n := (37 + x3).toNatClampNeg) (len := 373) (by decide +kernel) (by decide +kernel) (by decide +kernel) hi1 rfl ?_
  refine fs_iinc (j := 3) (n := 1) (v := 1) (L' := [some (.ref 231), some (.int x1), some (.int x2), some (.int (x3 + 1)), some (.int x4), some (.int x5)]) (by decide +kernel) rfl (Nat.le_of_ble_eq_true rfl) (by decide) rfl ?_
  refine fs_goto (off := -150) (tgt := 10) (by decide +kernel) (by decide) ?_
  exact nx
theorem b164_163 {d : Nat} {x1 : Int32} {x2 : Int32} {x3 : Int32} {o4 : Option Value} {o5 : Option Value} {S : fm_S}  : am_Ev d 164 163 [some (.ref 231), some (.int x1), some (.int x2), some (.int x3), o4, o5] [] (fm_mk S) (some (.int x2), fm_mk (fm_wI S 232 4 ((S.1 232 4) + 1))) := by
  refine fs_aloadn (j := 0) (by decide +kernel) rfl ?_
  refine fe_getR (idx := 7) (t := 8) (f := 0) (fk := 2) (fin := 1) (wp := 943) (x := 232) (by decide +kernel) (by decide +kernel) (by decide +kernel) (by decide +kernel) (by decide +kernel) ?_
  refine fs_iconst (n := 4) (v := 4) (by decide +kernel) (by decide) ?_
  refine fs_dup2 (by decide +kernel) ⟨rfl, rfl⟩ ?_
  refine fx_iald (n := 4) (len := 373) (by decide +kernel) (by decide +kernel) (by decide +kernel) (vp_c (by decide) (by decide)) (by decide) ?_
  refine fs_iconst (n := 1) (v := 1) (by decide +kernel) (by decide) ?_
  refine fs_iadd (by decide +kernel) ?_
  refine fx_iast (n := 4) (len := 373) (by decide +kernel) (by decide +kernel) (by decide +kernel) (vp_c (by decide) (by decide)) (by decide) ?_
  refine fs_iloadn (j := 2) (by decide +kernel) rfl ?_
  exact fe_retI (by decide +kernel) (by decide +kernel)
-- KitchenSiegeModel.opening(III)I
theorem b165_0 {d : Nat} {x1 : Int32} {x2 : Int32} {x3 : Int32} {o4 : Option Value} {o5 : Option Value} {o6 : Option Value} {v : Int32} {S1 : fm_S} {S : fm_S} {r : Option Value × am_W} (hc : am_Sp d 162 [.ref 231, .int x1] (fm_mk S) (some (.int v)) (fm_mk S1)) (nx : am_Ev (d + 1) 165 8 [some (.ref 231), some (.int x1), some (.int x2), some (.int x3), some (.int 0), o5, o6] [.int v] (fm_mk S1) r) : am_Ev (d + 1) 165 0 [some (.ref 231), some (.int x1), some (.int x2), some (.int x3), o4, o5, o6] [] (fm_mk S) r := by
  refine fs_iconst (n := 0) (v := 0) (by decide +kernel) (by decide) ?_
  refine fs_istore (j := 4) (L' := [some (.ref 231), some (.int x1), some (.int x2), some (.int x3), some (.int 0), o5, o6]) (by decide +kernel) (Nat.le_of_ble_eq_true rfl) rfl ?_
  refine fs_aloadn (j := 0) (by decide +kernel) rfl ?_
  refine fs_iloadn (j := 1) (by decide +kernel) rfl ?_
  exact fe_callV (idx := 172) (n := 1) (wp := 1125) (q := (1127, 43)) (as := [.int x1]) (rs := []) (by decide +kernel) (by decide +kernel) (by decide +kernel) (by decide +kernel) rfl (Nat.le_of_ble_eq_true rfl) rfl hc nx
theorem b165_8 {d : Nat} {x1 : Int32} {x2 : Int32} {x3 : Int32} {x4 : Int32} {o5 : Option Value} {o6 : Option Value} {sx0 : Int32} {S : fm_S} {r : Option Value × am_W} (kt : sx0 = 0 → am_Ev d 165 129 [some (.ref 231), some (.int x1), some (.int x2), some (.int x3), some (.int x4), o5, o6] [] (fm_mk S) r) (kf : ¬ sx0 = 0 → am_Ev d 165 11 [some (.ref 231), some (.int x1), some (.int x2), some (.int x3), some (.int x4), o5, o6] [] (fm_mk S) r) : am_Ev d 165 8 [some (.ref 231), some (.int x1), some (.int x2), some (.int x3), some (.int x4), o5, o6] [.int sx0] (fm_mk S) r := by
  exact fs_ifeq (off := 121) (tgt := 129) (by decide +kernel) (by decide) kt kf
theorem b165_11 {d : Nat} {x1 : Int32} {x2 : Int32} {x3 : Int32} {x4 : Int32} {o5 : Option Value} {o6 : Option Value} {v : Int32} {S1 : fm_S} {S : fm_S} {r : Option Value × am_W} (hi0 : vp_in (131 + x1) 373) (hc : am_Sp d 166 [.ref 231, .int (S.1 232 4)] (fm_mk S) (some (.int v)) (fm_mk S1)) (nx : am_Ev (d + 1) 165 32 [some (.ref 231), some (.int x1), some (.int x2), some (.int x3), some (.int x4), o5, o6] [.int v, .int (S.1 232 ((131 + x1).toNatClampNeg)), .ref 231] (fm_mk S1) r) : am_Ev (d + 1) 165 11 [some (.ref 231), some (.int x1), some (.int x2), some (.int x3), some (.int x4), o5, o6] [] (fm_mk S) r := by
  refine fs_aloadn (j := 0) (by decide +kernel) rfl ?_
  refine fs_aloadn (j := 0) (by decide +kernel) rfl ?_
  refine fe_getR (idx := 7) (t := 8) (f := 0) (fk := 2) (fin := 1) (wp := 943) (x := 232) (by decide +kernel) (by decide +kernel) (by decide +kernel) (by decide +kernel) (by decide +kernel) ?_
  refine fs_sipush (n := 131) (v := 131) (by decide +kernel) (by decide) ?_
  refine fs_iloadn (j := 1) (by decide +kernel) rfl ?_
  refine fs_iadd (by decide +kernel) ?_
  refine fx_iald (n := (131 + x1).toNatClampNeg) (len := 373) (by decide +kernel) (by decide +kernel) (by decide +kernel) hi0 rfl ?_
  refine fs_aloadn (j := 0) (by decide +kernel) rfl ?_
  refine fs_aloadn (j := 0) (by decide +kernel) rfl ?_
  refine fe_getR (idx := 7) (t := 8) (f := 0) (fk := 2) (fin := 1) (wp := 943) (x := 232) (by decide +kernel) (by decide +kernel) (by decide +kernel) (by decide +kernel) (by decide +kernel) ?_
  refine fs_iconst (n := 4) (v := 4) (by decide +kernel) (by decide) ?_
  refine fx_iald (n := 4) (len := 373) (by decide +kernel) (by decide +kernel) (by decide +kernel) (vp_c (by decide) (by decide)) (by decide) ?_
  exact fe_callV (idx := 175) (n := 1) (wp := 1140) (q := (1142, 46)) (as := [.int (S.1 232 4)]) (rs := [.int (S.1 232 ((131 + x1).toNatClampNeg)), .ref 231]) (by decide +kernel) (by decide +kernel) (by decide +kernel) (by decide +kernel) rfl (Nat.le_of_ble_eq_true rfl) rfl hc nx
theorem b165_32 {d : Nat} {x1 : Int32} {x2 : Int32} {x3 : Int32} {x4 : Int32} {o5 : Option Value} {o6 : Option Value} {sx1 : Int32} {sx2 : Int32} {S1 : fm_S} {S : fm_S} {r : Option Value × am_W} (hc : am_Sp d 167 [.ref 231, .int sx1, .int sx2, .int x2, .int x3] (fm_mk S) (none) (fm_mk S1)) (nx : am_Ev (d + 1) 165 37 [some (.ref 231), some (.int x1), some (.int x2), some (.int x3), some (.int x4), o5, o6] [] (fm_mk S1) r) : am_Ev (d + 1) 165 32 [some (.ref 231), some (.int x1), some (.int x2), some (.int x3), some (.int x4), o5, o6] [.int sx2, .int sx1, .ref 231] (fm_mk S) r := by
  refine fs_iloadn (j := 2) (by decide +kernel) rfl ?_
  refine fs_iloadn (j := 3) (by decide +kernel) rfl ?_
  exact fe_callV (idx := 178) (n := 4) (wp := 1144) (q := (1146, 47)) (as := [.int sx1, .int sx2, .int x2, .int x3]) (rs := []) (by decide +kernel) (by decide +kernel) (by decide +kernel) (by decide +kernel) rfl (Nat.le_of_ble_eq_true rfl) rfl hc nx
theorem b165_37 {d : Nat} {x1 : Int32} {x2 : Int32} {x3 : Int32} {x4 : Int32} {o5 : Option Value} {o6 : Option Value} {S : fm_S} {r : Option Value × am_W} (nx : am_Ev d 165 40 [some (.ref 231), some (.int x1), some (.int x2), some (.int x3), some (.int x4), some (.int 0), o6] [] (fm_mk S) r) : am_Ev d 165 37 [some (.ref 231), some (.int x1), some (.int x2), some (.int x3), some (.int x4), o5, o6] [] (fm_mk S) r := by
  refine fs_iconst (n := 0) (v := 0) (by decide +kernel) (by decide) ?_
  refine fs_istore (j := 5) (L' := [some (.ref 231), some (.int x1), some (.int x2), some (.int x3), some (.int x4), some (.int 0), o6]) (by decide +kernel) (Nat.le_of_ble_eq_true rfl) rfl ?_
  exact nx
theorem b165_40 {d : Nat} {x1 : Int32} {x2 : Int32} {x3 : Int32} {x4 : Int32} {x5 : Int32} {o6 : Option Value} {S : fm_S} {r : Option Value × am_W} (kt : (S.1 232 0) ≤ x5 → am_Ev d 165 129 [some (.ref 231), some (.int x1), some (.int x2), some (.int x3), some (.int x4), some (.int x5), o6] [] (fm_mk S) r) (kf : ¬ (S.1 232 0) ≤ x5 → am_Ev d 165 51 [some (.ref 231), some (.int x1), some (.int x2), some (.int x3), some (.int x4), some (.int x5), o6] [] (fm_mk S) r) : am_Ev d 165 40 [some (.ref 231), some (.int x1), some (.int x2), some (.int x3), some (.int x4), some (.int x5), o6] [] (fm_mk S) r := by
  refine fs_iload (j := 5) (by decide +kernel) rfl ?_
  refine fs_aloadn (j := 0) (by decide +kernel) rfl ?_
  refine fe_getR (idx := 7) (t := 8) (f := 0) (fk := 2) (fin := 1) (wp := 943) (x := 232) (by decide +kernel) (by decide +kernel) (by decide +kernel) (by decide +kernel) (by decide +kernel) ?_
  refine fs_iconst (n := 0) (v := 0) (by decide +kernel) (by decide) ?_
  refine fx_iald (n := 0) (len := 373) (by decide +kernel) (by decide +kernel) (by decide +kernel) (vp_c (by decide) (by decide)) (by decide) ?_
  exact fs_icge (off := 81) (tgt := 129) (by decide +kernel) (by decide) kt kf
theorem b165_51 {d : Nat} {x1 : Int32} {x2 : Int32} {x3 : Int32} {x4 : Int32} {x5 : Int32} {o6 : Option Value} {S : fm_S} {r : Option Value × am_W} (hi0 : vp_in (29 + x5) 373) (kt : ¬ (S.1 232 ((29 + x5).toNatClampNeg)) = (-1) → am_Ev d 165 102 [some (.ref 231), some (.int x1), some (.int x2), some (.int x3), some (.int x4), some (.int x5), o6] [] (fm_mk S) r) (kf : (S.1 232 ((29 + x5).toNatClampNeg)) = (-1) → am_Ev d 165 65 [some (.ref 231), some (.int x1), some (.int x2), some (.int x3), some (.int x4), some (.int x5), o6] [] (fm_mk S) r) : am_Ev d 165 51 [some (.ref 231), some (.int x1), some (.int x2), some (.int x3), some (.int x4), some (.int x5), o6] [] (fm_mk S) r := by
  refine fs_aloadn (j := 0) (by decide +kernel) rfl ?_
  refine fe_getR (idx := 7) (t := 8) (f := 0) (fk := 2) (fin := 1) (wp := 943) (x := 232) (by decide +kernel) (by decide +kernel) (by decide +kernel) (by decide +kernel) (by decide +kernel) ?_
  refine fs_bipush (n := 29) (v := 29) (by decide +kernel) (by decide) ?_
  refine fs_iload (j := 5) (by decide +kernel) rfl ?_
  refine fs_iadd (by decide +kernel) ?_
  refine fx_iald (n := (29 + x5).toNatClampNeg) (len := 373) (by decide +kernel) (by decide +kernel) (by decide +kernel) hi0 rfl ?_
  refine fs_iconst (n := -1) (v := (-1)) (by decide +kernel) (by decide) ?_
  exact fs_icne (off := 40) (tgt := 102) (by decide +kernel) (by decide) kt kf
theorem b165_65 {d : Nat} {x1 : Int32} {x2 : Int32} {x3 : Int32} {x4 : Int32} {x5 : Int32} {o6 : Option Value} {v : Int32} {S1 : fm_S} {S : fm_S} {r : Option Value × am_W} (hi0 : vp_in (125 + x1) 373) (hi1 : vp_in x5 8) (hc : am_Sp d 168 [.ref 231, .int x5, .int (S.1 232 ((125 + x1).toNatClampNeg)), .int (S.1 238 x5.toNatClampNeg), .int (S.1 232 4)] (fm_mk S) (some (.int v)) (fm_mk S1)) (nx : am_Ev (d + 1) 165 93 [some (.ref 231), some (.int x1), some (.int x2), some (.int x3), some (.int x4), some (.int x5), o6] [.int v] (fm_mk S1) r) : am_Ev (d + 1) 165 65 [some (.ref 231), some (.int x1), some (.int x2), some (.int x3), some (.int x4), some (.int x5), o6] [] (fm_mk S) r := by
  refine fs_aloadn (j := 0) (by decide +kernel) rfl ?_
  refine fs_iload (j := 5) (by decide +kernel) rfl ?_
  refine fs_aloadn (j := 0) (by decide +kernel) rfl ?_
  refine fe_getR (idx := 7) (t := 8) (f := 0) (fk := 2) (fin := 1) (wp := 943) (x := 232) (by decide +kernel) (by decide +kernel) (by decide +kernel) (by decide +kernel) (by decide +kernel) ?_
  refine fs_bipush (n := 125) (v := 125) (by decide +kernel) (by decide) ?_
  refine fs_iloadn (j := 1) (by decide +kernel) rfl ?_
  refine fs_iadd (by decide +kernel) ?_
  refine fx_iald (n := (125 + x1).toNatClampNeg) (len := 373) (by decide +kernel) (by decide +kernel) (by decide +kernel) hi0 rfl ?_
  refine fs_aloadn (j := 0) (by decide +kernel) rfl ?_
  refine fe_getR (idx := 28) (t := 8) (f := 14) (fk := 2) (fin := 1) (wp := 957) (x := 238) (by decide +kernel) (by decide +kernel) (by decide +kernel) (by decide +kernel) (by decide +kernel) ?_
  refine fs_iload (j := 5) (by decide +kernel) rfl ?_
  refine fx_iald (n := x5.toNatClampNeg) (len := 8) (by decide +kernel) (by decide +kernel) (by decide +kernel) hi1 rfl ?_
  refine fs_aloadn (j := 0) (by decide +kernel) rfl ?_
  refine fe_getR (idx := 7) (t := 8) (f := 0) (fk := 2) (fin := 1) (wp := 943) (x := 232) (by decide +kernel) (by decide +kernel) (by decide +kernel) (by decide +kernel) (by decide +kernel) ?_
  refine fs_iconst (n := 4) (v := 4) (by decide +kernel) (by decide) ?_
  refine fx_iald (n := 4) (len := 373) (by decide +kernel) (by decide +kernel) (by decide +kernel) (vp_c (by decide) (by decide)) (by decide) ?_
  exact fe_callV (idx := 182) (n := 4) (wp := 1148) (q := (1150, 48)) (as := [.int x5, .int (S.1 232 ((125 + x1).toNatClampNeg)), .int (S.1 238 x5.toNatClampNeg), .int (S.1 232 4)]) (rs := []) (by decide +kernel) (by decide +kernel) (by decide +kernel) (by decide +kernel) rfl (Nat.le_of_ble_eq_true rfl) rfl hc nx
theorem b165_93 {d : Nat} {x1 : Int32} {x2 : Int32} {x3 : Int32} {x4 : Int32} {x5 : Int32} {o6 : Option Value} {sx0 : Int32} {S : fm_S} {r : Option Value × am_W} (kt : sx0 < 10 → am_Ev d 165 102 [some (.ref 231), some (.int x1), some (.int x2), some (.int x3), some (.int x4), some (.int x5), o6] [] (fm_mk S) r) (kf : ¬ sx0 < 10 → am_Ev d 165 98 [some (.ref 231), some (.int x1), some (.int x2), some (.int x3), some (.int x4), some (.int x5), o6] [] (fm_mk S) r) : am_Ev d 165 93 [some (.ref 231), some (.int x1), some (.int x2), some (.int x3), some (.int x4), some (.int x5), o6] [.int sx0] (fm_mk S) r := by
  refine fs_bipush (n := 10) (v := 10) (by decide +kernel) (by decide) ?_
  exact fs_iclt (off := 7) (tgt := 102) (by decide +kernel) (by decide) kt kf
theorem b165_98 {d : Nat} {x1 : Int32} {x2 : Int32} {x3 : Int32} {x4 : Int32} {x5 : Int32} {o6 : Option Value} {S : fm_S} {r : Option Value × am_W} (nx : am_Ev d 165 103 [some (.ref 231), some (.int x1), some (.int x2), some (.int x3), some (.int x4), some (.int x5), o6] [.int 1] (fm_mk S) r) : am_Ev d 165 98 [some (.ref 231), some (.int x1), some (.int x2), some (.int x3), some (.int x4), some (.int x5), o6] [] (fm_mk S) r := by
  refine fs_iconst (n := 1) (v := 1) (by decide +kernel) (by decide) ?_
  refine fs_goto (off := 4) (tgt := 103) (by decide +kernel) (by decide) ?_
  exact nx
theorem b165_102 {d : Nat} {x1 : Int32} {x2 : Int32} {x3 : Int32} {x4 : Int32} {x5 : Int32} {o6 : Option Value} {S : fm_S} {r : Option Value × am_W} (nx : am_Ev d 165 103 [some (.ref 231), some (.int x1), some (.int x2), some (.int x3), some (.int x4), some (.int x5), o6] [.int 0] (fm_mk S) r) : am_Ev d 165 102 [some (.ref 231), some (.int x1), some (.int x2), some (.int x3), some (.int x4), some (.int x5), o6] [] (fm_mk S) r := by
  refine fs_iconst (n := 0) (v := 0) (by decide +kernel) (by decide) ?_
  exact nx
theorem b165_103 {d : Nat} {x1 : Int32} {x2 : Int32} {x3 : Int32} {x4 : Int32} {x5 : Int32} {o6 : Option Value} {sx0 : Int32} {S : fm_S} {r : Option Value × am_W} (kt : sx0 = 0 → am_Ev d 165 119 [some (.ref 231), some (.int x1), some (.int x2), some (.int x3), some (.int x4), some (.int x5), some (.int sx0)] [.int x4] (fm_mk S) r) (kf : ¬ sx0 = 0 → am_Ev d 165 112 [some (.ref 231), some (.int x1), some (.int x2), some (.int x3), some (.int x4), some (.int x5), some (.int sx0)] [.int x4] (fm_mk S) r) : am_Ev d 165 103 [some (.ref 231), some (.int x1), some (.int x2), some (.int x3), some (.int x4), some (.int x5), o6] [.int sx0] (fm_mk S) r := by
  refine fs_istore (j := 6) (L' := [some (.ref 231), some (.int x1), some (.int x2), some (.int x3), some (.int x4), some (.int x5), some (.int sx0)]) (by decide +kernel) (Nat.le_of_ble_eq_true rfl) rfl ?_
  refine fs_iload (j := 4) (by decide +kernel) rfl ?_
  refine fs_iload (j := 6) (by decide +kernel) rfl ?_
  exact fs_ifeq (off := 10) (tgt := 119) (by decide +kernel) (by decide) kt kf
theorem b165_112 {d : Nat} {x1 : Int32} {x2 : Int32} {x3 : Int32} {x4 : Int32} {x5 : Int32} {x6 : Int32} {sx0 : Int32} {S : fm_S} {r : Option Value × am_W} (nx : am_Ev d 165 120 [some (.ref 231), some (.int x1), some (.int x2), some (.int x3), some (.int x4), some (.int x5), some (.int x6)] [.int (1 <<< (x5 &&& 31)), .int sx0] (fm_mk S) r) : am_Ev d 165 112 [some (.ref 231), some (.int x1), some (.int x2), some (.int x3), some (.int x4), some (.int x5), some (.int x6)] [.int sx0] (fm_mk S) r := by
  refine fs_iconst (n := 1) (v := 1) (by decide +kernel) (by decide) ?_
  refine fs_iload (j := 5) (by decide +kernel) rfl ?_
  refine fs_ishl (by decide +kernel) ?_
  refine fs_goto (off := 4) (tgt := 120) (by decide +kernel) (by decide) ?_
  exact nx
theorem b165_119 {d : Nat} {x1 : Int32} {x2 : Int32} {x3 : Int32} {x4 : Int32} {x5 : Int32} {x6 : Int32} {sx0 : Int32} {S : fm_S} {r : Option Value × am_W} (nx : am_Ev d 165 120 [some (.ref 231), some (.int x1), some (.int x2), some (.int x3), some (.int x4), some (.int x5), some (.int x6)] [.int 0, .int sx0] (fm_mk S) r) : am_Ev d 165 119 [some (.ref 231), some (.int x1), some (.int x2), some (.int x3), some (.int x4), some (.int x5), some (.int x6)] [.int sx0] (fm_mk S) r := by
  refine fs_iconst (n := 0) (v := 0) (by decide +kernel) (by decide) ?_
  exact nx
theorem b165_120 {d : Nat} {x1 : Int32} {x2 : Int32} {x3 : Int32} {x4 : Int32} {x5 : Int32} {x6 : Int32} {sx0 : Int32} {sx1 : Int32} {S : fm_S} {r : Option Value × am_W} (nx : am_Ev d 165 40 [some (.ref 231), some (.int x1), some (.int x2), some (.int x3), some (.int (sx0 ||| sx1)), some (.int (x5 + 1)), some (.int x6)] [] (fm_mk S) r) : am_Ev d 165 120 [some (.ref 231), some (.int x1), some (.int x2), some (.int x3), some (.int x4), some (.int x5), some (.int x6)] [.int sx1, .int sx0] (fm_mk S) r := by
  refine fs_ior (by decide +kernel) ?_
  refine fs_istore (j := 4) (L' := [some (.ref 231), some (.int x1), some (.int x2), some (.int x3), some (.int (sx0 ||| sx1)), some (.int x5), some (.int x6)]) (by decide +kernel) (Nat.le_of_ble_eq_true rfl) rfl ?_
  refine fs_iinc (j := 5) (n := 1) (v := 1) (L' := [some (.ref 231), some (.int x1), some (.int x2), some (.int x3), some (.int (sx0 ||| sx1)), some (.int (x5 + 1)), some (.int x6)]) (by decide +kernel) rfl (Nat.le_of_ble_eq_true rfl) (by decide) rfl ?_
  refine fs_goto (off := -86) (tgt := 40) (by decide +kernel) (by decide) ?_
  exact nx
theorem b165_129 {d : Nat} {x1 : Int32} {x2 : Int32} {x3 : Int32} {x4 : Int32} {o5 : Option Value} {o6 : Option Value} {S : fm_S}  : am_Ev d 165 129 [some (.ref 231), some (.int x1), some (.int x2), some (.int x3), some (.int x4), o5, o6] [] (fm_mk S) (some (.int x4), fm_mk S) := by
  refine fs_iload (j := 4) (by decide +kernel) rfl ?_
  exact fe_retI (by decide +kernel) (by decide +kernel)
-- KitchenSiegeModel.windOf(I)I
theorem b166_0 {d : Nat} {x1 : Int32} {S : fm_S}  (hi0 : vp_in (121 + (x1 - x1 / 4 * 4)) 373) : am_Ev d 166 0 [some (.ref 231), some (.int x1)] [] (fm_mk S) (some (.int (S.1 232 ((121 + (x1 - x1 / 4 * 4)).toNatClampNeg))), fm_mk S) := by
  refine fs_aloadn (j := 0) (by decide +kernel) rfl ?_
  refine fe_getR (idx := 7) (t := 8) (f := 0) (fk := 2) (fin := 1) (wp := 943) (x := 232) (by decide +kernel) (by decide +kernel) (by decide +kernel) (by decide +kernel) (by decide +kernel) ?_
  refine fs_bipush (n := 121) (v := 121) (by decide +kernel) (by decide) ?_
  refine fs_iloadn (j := 1) (by decide +kernel) rfl ?_
  refine fs_iconst (n := 4) (v := 4) (by decide +kernel) (by decide) ?_
  refine fe_irem (by decide +kernel) (by decide) ?_
  refine fs_iadd (by decide +kernel) ?_
  refine fx_iald (n := (121 + (x1 - x1 / 4 * 4)).toNatClampNeg) (len := 373) (by decide +kernel) (by decide +kernel) (by decide +kernel) hi0 rfl ?_
  exact fe_retI (by decide +kernel) (by decide +kernel)
-- KitchenSiegeModel.spread(IIII)V
theorem b167_0 {d : Nat} {x1 : Int32} {x2 : Int32} {x3 : Int32} {x4 : Int32} {o5 : Option Value} {o6 : Option Value} {o7 : Option Value} {o8 : Option Value} {o9 : Option Value} {o10 : Option Value} {S : fm_S} {r : Option Value × am_W} (nx : am_Ev d 167 3 [some (.ref 231), some (.int x1), some (.int x2), some (.int x3), some (.int x4), some (.int 0), o6, o7, o8, o9, o10] [] (fm_mk S) r) : am_Ev d 167 0 [some (.ref 231), some (.int x1), some (.int x2), some (.int x3), some (.int x4), o5, o6, o7, o8, o9, o10] [] (fm_mk S) r := by
  refine fs_iconst (n := 0) (v := 0) (by decide +kernel) (by decide) ?_
  refine fs_istore (j := 5) (L' := [some (.ref 231), some (.int x1), some (.int x2), some (.int x3), some (.int x4), some (.int 0), o6, o7, o8, o9, o10]) (by decide +kernel) (Nat.le_of_ble_eq_true rfl) rfl ?_
  exact nx
theorem b167_3 {d : Nat} {x1 : Int32} {x2 : Int32} {x3 : Int32} {x4 : Int32} {x5 : Int32} {o6 : Option Value} {o7 : Option Value} {o8 : Option Value} {o9 : Option Value} {o10 : Option Value} {S : fm_S} {r : Option Value × am_W} (kt : 8 ≤ x5 → am_Ev d 167 24 [some (.ref 231), some (.int x1), some (.int x2), some (.int x3), some (.int x4), some (.int x5), o6, o7, o8, o9, o10] [] (fm_mk S) r) (kf : ¬ 8 ≤ x5 → am_Ev d 167 10 [some (.ref 231), some (.int x1), some (.int x2), some (.int x3), some (.int x4), some (.int x5), o6, o7, o8, o9, o10] [] (fm_mk S) r) : am_Ev d 167 3 [some (.ref 231), some (.int x1), some (.int x2), some (.int x3), some (.int x4), some (.int x5), o6, o7, o8, o9, o10] [] (fm_mk S) r := by
  refine fs_iload (j := 5) (by decide +kernel) rfl ?_
  refine fs_bipush (n := 8) (v := 8) (by decide +kernel) (by decide) ?_
  exact fs_icge (off := 17) (tgt := 24) (by decide +kernel) (by decide) kt kf
theorem b167_10 {d : Nat} {x1 : Int32} {x2 : Int32} {x3 : Int32} {x4 : Int32} {x5 : Int32} {o6 : Option Value} {o7 : Option Value} {o8 : Option Value} {o9 : Option Value} {o10 : Option Value} {S : fm_S} {r : Option Value × am_W} (hi0 : vp_in x5 8) (nx : am_Ev d 167 3 [some (.ref 231), some (.int x1), some (.int x2), some (.int x3), some (.int x4), some (.int (x5 + 1)), o6, o7, o8, o9, o10] [] (fm_mk (fm_wI S 238 x5.toNatClampNeg 0)) r) : am_Ev d 167 10 [some (.ref 231), some (.int x1), some (.int x2), some (.int x3), some (.int x4), some (.int x5), o6, o7, o8, o9, o10] [] (fm_mk S) r := by
  refine fs_aloadn (j := 0) (by decide +kernel) rfl ?_
  refine fe_getR (idx := 28) (t := 8) (f := 14) (fk := 2) (fin := 1) (wp := 957) (x := 238) (by decide +kernel) (by decide +kernel) (by decide +kernel) (by decide +kernel) (by decide +kernel) ?_
  refine fs_iload (j := 5) (by decide +kernel) rfl ?_
  refine fs_iconst (n := 0) (v := 0) (by decide +kernel) (by decide) ?_
  refine fx_iast (n := x5.toNatClampNeg) (len := 8) (by decide +kernel) (by decide +kernel) (by decide +kernel) hi0 rfl ?_
  refine fs_iinc (j := 5) (n := 1) (v := 1) (L' := [some (.ref 231), some (.int x1), some (.int x2), some (.int x3), some (.int x4), some (.int (x5 + 1)), o6, o7, o8, o9, o10]) (by decide +kernel) rfl (Nat.le_of_ble_eq_true rfl) (by decide) rfl ?_
  refine fs_goto (off := -18) (tgt := 3) (by decide +kernel) (by decide) ?_
  exact nx
theorem b167_24 {d : Nat} {x1 : Int32} {x2 : Int32} {x3 : Int32} {x4 : Int32} {x5 : Int32} {o6 : Option Value} {o7 : Option Value} {o8 : Option Value} {o9 : Option Value} {o10 : Option Value} {v : Int32} {S1 : fm_S} {S : fm_S} {r : Option Value × am_W} (hi0 : vp_in (117 + x2) 373) (hc : am_Sp d 142 [.ref 231, .int (S.1 232 ((117 + x2).toNatClampNeg))] (fm_mk S) (some (.int v)) (fm_mk S1)) (nx : am_Ev (d + 1) 167 41 [some (.ref 231), some (.int x1), some (.int x2), some (.int x3), some (.int x4), some (.int (S.1 232 ((117 + x2).toNatClampNeg))), o6, o7, o8, o9, o10] [.int v] (fm_mk S1) r) : am_Ev (d + 1) 167 24 [some (.ref 231), some (.int x1), some (.int x2), some (.int x3), some (.int x4), some (.int x5), o6, o7, o8, o9, o10] [] (fm_mk S) r := by
  refine fs_aloadn (j := 0) (by decide +kernel) rfl ?_
  refine fe_getR (idx := 7) (t := 8) (f := 0) (fk := 2) (fin := 1) (wp := 943) (x := 232) (by decide +kernel) (by decide +kernel) (by decide +kernel) (by decide +kernel) (by decide +kernel) ?_
  refine fs_bipush (n := 117) (v := 117) (by decide +kernel) (by decide) ?_
  refine fs_iloadn (j := 2) (by decide +kernel) rfl ?_
  refine fs_iadd (by decide +kernel) ?_
  refine fx_iald (n := (117 + x2).toNatClampNeg) (len := 373) (by decide +kernel) (by decide +kernel) (by decide +kernel) hi0 rfl ?_
  refine fs_istore (j := 5) (L' := [some (.ref 231), some (.int x1), some (.int x2), some (.int x3), some (.int x4), some (.int (S.1 232 ((117 + x2).toNatClampNeg))), o6, o7, o8, o9, o10]) (by decide +kernel) (Nat.le_of_ble_eq_true rfl) rfl ?_
  refine fs_aloadn (j := 0) (by decide +kernel) rfl ?_
  refine fs_iload (j := 5) (by decide +kernel) rfl ?_
  exact fe_callV (idx := 84) (n := 1) (wp := 1033) (q := (1035, 33)) (as := [.int (S.1 232 ((117 + x2).toNatClampNeg))]) (rs := []) (by decide +kernel) (by decide +kernel) (by decide +kernel) (by decide +kernel) rfl (Nat.le_of_ble_eq_true rfl) rfl hc nx
theorem b167_41 {d : Nat} {x1 : Int32} {x2 : Int32} {x3 : Int32} {x4 : Int32} {x5 : Int32} {o6 : Option Value} {o7 : Option Value} {o8 : Option Value} {o9 : Option Value} {o10 : Option Value} {sx0 : Int32} {S : fm_S} {r : Option Value × am_W} (kt : ¬ sx0 = 0 → am_Ev d 167 45 [some (.ref 231), some (.int x1), some (.int x2), some (.int x3), some (.int x4), some (.int x5), o6, o7, o8, o9, o10] [] (fm_mk S) r) (kf : sx0 = 0 → am_Ev d 167 44 [some (.ref 231), some (.int x1), some (.int x2), some (.int x3), some (.int x4), some (.int x5), o6, o7, o8, o9, o10] [] (fm_mk S) r) : am_Ev d 167 41 [some (.ref 231), some (.int x1), some (.int x2), some (.int x3), some (.int x4), some (.int x5), o6, o7, o8, o9, o10] [.int sx0] (fm_mk S) r := by
  exact fs_ifne (off := 4) (tgt := 45) (by decide +kernel) (by decide) kt kf
theorem b167_44 {d : Nat} {x1 : Int32} {x2 : Int32} {x3 : Int32} {x4 : Int32} {x5 : Int32} {o6 : Option Value} {o7 : Option Value} {o8 : Option Value} {o9 : Option Value} {o10 : Option Value} {S : fm_S}  : am_Ev d 167 44 [some (.ref 231), some (.int x1), some (.int x2), some (.int x3), some (.int x4), some (.int x5), o6, o7, o8, o9, o10] [] (fm_mk S) (none, fm_mk S) := by
  exact fe_retV (by decide +kernel) (by decide +kernel)
theorem b167_45 {d : Nat} {x1 : Int32} {x2 : Int32} {x3 : Int32} {x4 : Int32} {x5 : Int32} {o6 : Option Value} {o7 : Option Value} {o8 : Option Value} {o9 : Option Value} {o10 : Option Value} {S : fm_S} {r : Option Value × am_W} (hi0 : vp_in (13 + x5) 373) (kt : ¬ x5 = x3 → am_Ev d 167 68 [some (.ref 231), some (.int x1), some (.int x2), some (.int x3), some (.int x4), some (.int x5), o6, o7, o8, o9, o10] [.int (x1 - (S.1 232 ((13 + x5).toNatClampNeg)))] (fm_mk S) r) (kf : x5 = x3 → am_Ev d 167 63 [some (.ref 231), some (.int x1), some (.int x2), some (.int x3), some (.int x4), some (.int x5), o6, o7, o8, o9, o10] [.int (x1 - (S.1 232 ((13 + x5).toNatClampNeg)))] (fm_mk S) r) : am_Ev d 167 45 [some (.ref 231), some (.int x1), some (.int x2), some (.int x3), some (.int x4), some (.int x5), o6, o7, o8, o9, o10] [] (fm_mk S) r := by
  refine fs_iloadn (j := 1) (by decide +kernel) rfl ?_
  refine fs_aloadn (j := 0) (by decide +kernel) rfl ?_
  refine fe_getR (idx := 7) (t := 8) (f := 0) (fk := 2) (fin := 1) (wp := 943) (x := 232) (by decide +kernel) (by decide +kernel) (by decide +kernel) (by decide +kernel) (by decide +kernel) ?_
  refine fs_bipush (n := 13) (v := 13) (by decide +kernel) (by decide) ?_
  refine fs_iload (j := 5) (by decide +kernel) rfl ?_
  refine fs_iadd (by decide +kernel) ?_
  refine fx_iald (n := (13 + x5).toNatClampNeg) (len := 373) (by decide +kernel) (by decide +kernel) (by decide +kernel) hi0 rfl ?_
  refine fs_isub (by decide +kernel) ?_
  refine fs_iload (j := 5) (by decide +kernel) rfl ?_
  refine fs_iloadn (j := 3) (by decide +kernel) rfl ?_
  exact fs_icne (off := 8) (tgt := 68) (by decide +kernel) (by decide) kt kf
theorem b167_63 {d : Nat} {x1 : Int32} {x2 : Int32} {x3 : Int32} {x4 : Int32} {x5 : Int32} {o6 : Option Value} {o7 : Option Value} {o8 : Option Value} {o9 : Option Value} {o10 : Option Value} {sx0 : Int32} {S : fm_S} {r : Option Value × am_W} (nx : am_Ev d 167 69 [some (.ref 231), some (.int x1), some (.int x2), some (.int x3), some (.int x4), some (.int x5), o6, o7, o8, o9, o10] [.int x4, .int sx0] (fm_mk S) r) : am_Ev d 167 63 [some (.ref 231), some (.int x1), some (.int x2), some (.int x3), some (.int x4), some (.int x5), o6, o7, o8, o9, o10] [.int sx0] (fm_mk S) r := by
  refine fs_iload (j := 4) (by decide +kernel) rfl ?_
  refine fs_goto (off := 4) (tgt := 69) (by decide +kernel) (by decide) ?_
  exact nx
theorem b167_68 {d : Nat} {x1 : Int32} {x2 : Int32} {x3 : Int32} {x4 : Int32} {x5 : Int32} {o6 : Option Value} {o7 : Option Value} {o8 : Option Value} {o9 : Option Value} {o10 : Option Value} {sx0 : Int32} {S : fm_S} {r : Option Value × am_W} (nx : am_Ev d 167 69 [some (.ref 231), some (.int x1), some (.int x2), some (.int x3), some (.int x4), some (.int x5), o6, o7, o8, o9, o10] [.int 0, .int sx0] (fm_mk S) r) : am_Ev d 167 68 [some (.ref 231), some (.int x1), some (.int x2), some (.int x3), some (.int x4), some (.int x5), o6, o7, o8, o9, o10] [.int sx0] (fm_mk S) r := by
  refine fs_iconst (n := 0) (v := 0) (by decide +kernel) (by decide) ?_
  exact nx
theorem b167_69 {d : Nat} {x1 : Int32} {x2 : Int32} {x3 : Int32} {x4 : Int32} {x5 : Int32} {o6 : Option Value} {o7 : Option Value} {o8 : Option Value} {o9 : Option Value} {o10 : Option Value} {sx0 : Int32} {sx1 : Int32} {S : fm_S} {r : Option Value × am_W} (kt : (sx0 - sx1) ≤ 0 → am_Ev d 167 88 [some (.ref 231), some (.int x1), some (.int x2), some (.int x3), some (.int x4), some (.int x5), some (.int (sx0 - sx1)), o7, o8, o9, o10] [.int x5, .ref 238] (fm_mk S) r) (kf : ¬ (sx0 - sx1) ≤ 0 → am_Ev d 167 83 [some (.ref 231), some (.int x1), some (.int x2), some (.int x3), some (.int x4), some (.int x5), some (.int (sx0 - sx1)), o7, o8, o9, o10] [.int x5, .ref 238] (fm_mk S) r) : am_Ev d 167 69 [some (.ref 231), some (.int x1), some (.int x2), some (.int x3), some (.int x4), some (.int x5), o6, o7, o8, o9, o10] [.int sx1, .int sx0] (fm_mk S) r := by
  refine fs_isub (by decide +kernel) ?_
  refine fs_istore (j := 6) (L' := [some (.ref 231), some (.int x1), some (.int x2), some (.int x3), some (.int x4), some (.int x5), some (.int (sx0 - sx1)), o7, o8, o9, o10]) (by decide +kernel) (Nat.le_of_ble_eq_true rfl) rfl ?_
  refine fs_aloadn (j := 0) (by decide +kernel) rfl ?_
  refine fe_getR (idx := 28) (t := 8) (f := 14) (fk := 2) (fin := 1) (wp := 957) (x := 238) (by decide +kernel) (by decide +kernel) (by decide +kernel) (by decide +kernel) (by decide +kernel) ?_
  refine fs_iload (j := 5) (by decide +kernel) rfl ?_
  refine fs_iload (j := 6) (by decide +kernel) rfl ?_
  exact fs_ifle (off := 8) (tgt := 88) (by decide +kernel) (by decide) kt kf
theorem b167_83 {d : Nat} {x1 : Int32} {x2 : Int32} {x3 : Int32} {x4 : Int32} {x5 : Int32} {x6 : Int32} {o7 : Option Value} {o8 : Option Value} {o9 : Option Value} {o10 : Option Value} {sx1 : Int32} {S : fm_S} {r : Option Value × am_W} (nx : am_Ev d 167 89 [some (.ref 231), some (.int x1), some (.int x2), some (.int x3), some (.int x4), some (.int x5), some (.int x6), o7, o8, o9, o10] [.int x6, .int sx1, .ref 238] (fm_mk S) r) : am_Ev d 167 83 [some (.ref 231), some (.int x1), some (.int x2), some (.int x3), some (.int x4), some (.int x5), some (.int x6), o7, o8, o9, o10] [.int sx1, .ref 238] (fm_mk S) r := by
  refine fs_iload (j := 6) (by decide +kernel) rfl ?_
  refine fs_goto (off := 4) (tgt := 89) (by decide +kernel) (by decide) ?_
  exact nx
theorem b167_88 {d : Nat} {x1 : Int32} {x2 : Int32} {x3 : Int32} {x4 : Int32} {x5 : Int32} {x6 : Int32} {o7 : Option Value} {o8 : Option Value} {o9 : Option Value} {o10 : Option Value} {sx1 : Int32} {S : fm_S} {r : Option Value × am_W} (nx : am_Ev d 167 89 [some (.ref 231), some (.int x1), some (.int x2), some (.int x3), some (.int x4), some (.int x5), some (.int x6), o7, o8, o9, o10] [.int 0, .int sx1, .ref 238] (fm_mk S) r) : am_Ev d 167 88 [some (.ref 231), some (.int x1), some (.int x2), some (.int x3), some (.int x4), some (.int x5), some (.int x6), o7, o8, o9, o10] [.int sx1, .ref 238] (fm_mk S) r := by
  refine fs_iconst (n := 0) (v := 0) (by decide +kernel) (by decide) ?_
  exact nx
theorem b167_89 {d : Nat} {x1 : Int32} {x2 : Int32} {x3 : Int32} {x4 : Int32} {x5 : Int32} {x6 : Int32} {o7 : Option Value} {o8 : Option Value} {o9 : Option Value} {o10 : Option Value} {sx1 : Int32} {sx2 : Int32} {S : fm_S} {r : Option Value × am_W} (hi0 : vp_in sx1 8) (nx : am_Ev d 167 93 [some (.ref 231), some (.int x1), some (.int x2), some (.int x3), some (.int x4), some (.int x5), some (.int x6), some (.int 1), o8, o9, o10] [] (fm_mk (fm_wI S 238 sx1.toNatClampNeg sx2)) r) : am_Ev d 167 89 [some (.ref 231), some (.int x1), some (.int x2), some (.int x3), some (.int x4), some (.int x5), some (.int x6), o7, o8, o9, o10] [.int sx2, .int sx1, .ref 238] (fm_mk S) r := by
  refine fx_iast (n := sx1.toNatClampNeg) (len := 8) (by decide +kernel) (by decide +kernel) (by decide +kernel) hi0 rfl ?_
  refine fs_iconst (n := 1) (v := 1) (by decide +kernel) (by decide) ?_
  refine fs_istore (j := 7) (L' := [some (.ref 231), some (.int x1), some (.int x2), some (.int x3), some (.int x4), some (.int x5), some (.int x6), some (.int 1), o8, o9, o10]) (by decide +kernel) (Nat.le_of_ble_eq_true rfl) rfl ?_
  exact nx
theorem b167_93 {d : Nat} {x1 : Int32} {x2 : Int32} {x3 : Int32} {x4 : Int32} {x5 : Int32} {x6 : Int32} {x7 : Int32} {o8 : Option Value} {o9 : Option Value} {o10 : Option Value} {S : fm_S} {r : Option Value × am_W} (kt : x7 = 0 → am_Ev d 167 238 [some (.ref 231), some (.int x1), some (.int x2), some (.int x3), some (.int x4), some (.int x5), some (.int x6), some (.int x7), o8, o9, o10] [] (fm_mk S) r) (kf : ¬ x7 = 0 → am_Ev d 167 98 [some (.ref 231), some (.int x1), some (.int x2), some (.int x3), some (.int x4), some (.int x5), some (.int x6), some (.int x7), o8, o9, o10] [] (fm_mk S) r) : am_Ev d 167 93 [some (.ref 231), some (.int x1), some (.int x2), some (.int x3), some (.int x4), some (.int x5), some (.int x6), some (.int x7), o8, o9, o10] [] (fm_mk S) r := by
  refine fs_iload (j := 7) (by decide +kernel) rfl ?_
  exact fs_ifeq (off := 143) (tgt := 238) (by decide +kernel) (by decide) kt kf
theorem b167_98 {d : Nat} {x1 : Int32} {x2 : Int32} {x3 : Int32} {x4 : Int32} {x5 : Int32} {x6 : Int32} {x7 : Int32} {o8 : Option Value} {o9 : Option Value} {o10 : Option Value} {S : fm_S} {r : Option Value × am_W} (nx : am_Ev d 167 104 [some (.ref 231), some (.int x1), some (.int x2), some (.int x3), some (.int x4), some (.int x5), some (.int x6), some (.int 0), some (.int 0), o9, o10] [] (fm_mk S) r) : am_Ev d 167 98 [some (.ref 231), some (.int x1), some (.int x2), some (.int x3), some (.int x4), some (.int x5), some (.int x6), some (.int x7), o8, o9, o10] [] (fm_mk S) r := by
  refine fs_iconst (n := 0) (v := 0) (by decide +kernel) (by decide) ?_
  refine fs_istore (j := 7) (L' := [some (.ref 231), some (.int x1), some (.int x2), some (.int x3), some (.int x4), some (.int x5), some (.int x6), some (.int 0), o8, o9, o10]) (by decide +kernel) (Nat.le_of_ble_eq_true rfl) rfl ?_
  refine fs_iconst (n := 0) (v := 0) (by decide +kernel) (by decide) ?_
  refine fs_istore (j := 8) (L' := [some (.ref 231), some (.int x1), some (.int x2), some (.int x3), some (.int x4), some (.int x5), some (.int x6), some (.int 0), some (.int 0), o9, o10]) (by decide +kernel) (Nat.le_of_ble_eq_true rfl) rfl ?_
  exact nx
theorem b167_104 {d : Nat} {x1 : Int32} {x2 : Int32} {x3 : Int32} {x4 : Int32} {x5 : Int32} {x6 : Int32} {x7 : Int32} {x8 : Int32} {o9 : Option Value} {o10 : Option Value} {S : fm_S} {r : Option Value × am_W} (kt : 64 ≤ x8 → am_Ev d 167 235 [some (.ref 231), some (.int x1), some (.int x2), some (.int x3), some (.int x4), some (.int x5), some (.int x6), some (.int x7), some (.int x8), o9, o10] [] (fm_mk S) r) (kf : ¬ 64 ≤ x8 → am_Ev d 167 111 [some (.ref 231), some (.int x1), some (.int x2), some (.int x3), some (.int x4), some (.int x5), some (.int x6), some (.int x7), some (.int x8), o9, o10] [] (fm_mk S) r) : am_Ev d 167 104 [some (.ref 231), some (.int x1), some (.int x2), some (.int x3), some (.int x4), some (.int x5), some (.int x6), some (.int x7), some (.int x8), o9, o10] [] (fm_mk S) r := by
  refine fs_iload (j := 8) (by decide +kernel) rfl ?_
  refine fs_bipush (n := 64) (v := 64) (by decide +kernel) (by decide) ?_
  exact fs_icge (off := 127) (tgt := 235) (by decide +kernel) (by decide) kt kf
theorem b167_111 {d : Nat} {x1 : Int32} {x2 : Int32} {x3 : Int32} {x4 : Int32} {x5 : Int32} {x6 : Int32} {x7 : Int32} {x8 : Int32} {o9 : Option Value} {o10 : Option Value} {S : fm_S} {r : Option Value × am_W} (hi0 : vp_in (53 + x8) 373) (kt : ¬ (S.1 232 ((53 + x8).toNatClampNeg)) = 1 → am_Ev d 167 171 [some (.ref 231), some (.int x1), some (.int x2), some (.int x3), some (.int x4), some (.int x5), some (.int x6), some (.int x7), some (.int x8), some (.int (x8 - x8 / 8 * 8)), o10] [] (fm_mk S) r) (kf : (S.1 232 ((53 + x8).toNatClampNeg)) = 1 → am_Ev d 167 132 [some (.ref 231), some (.int x1), some (.int x2), some (.int x3), some (.int x4), some (.int x5), some (.int x6), some (.int x7), some (.int x8), some (.int (x8 - x8 / 8 * 8)), o10] [] (fm_mk S) r) : am_Ev d 167 111 [some (.ref 231), some (.int x1), some (.int x2), some (.int x3), some (.int x4), some (.int x5), some (.int x6), some (.int x7), some (.int x8), o9, o10] [] (fm_mk S) r := by
  refine fs_iload (j := 8) (by decide +kernel) rfl ?_
  refine fs_bipush (n := 8) (v := 8) (by decide +kernel) (by decide) ?_
  refine fe_irem (by decide +kernel) (by decide) ?_
  refine fs_istore (j := 9) (L' := [some (.ref 231), some (.int x1), some (.int x2), some (.int x3), some (.int x4), some (.int x5), some (.int x6), some (.int x7), some (.int x8), some (.int (x8 - x8 / 8 * 8)), o10]) (by decide +kernel) (Nat.le_of_ble_eq_true rfl) rfl ?_
  refine fs_aloadn (j := 0) (by decide +kernel) rfl ?_
  refine fe_getR (idx := 7) (t := 8) (f := 0) (fk := 2) (fin := 1) (wp := 943) (x := 232) (by decide +kernel) (by decide +kernel) (by decide +kernel) (by decide +kernel) (by decide +kernel) ?_
  refine fs_bipush (n := 53) (v := 53) (by decide +kernel) (by decide) ?_
  refine fs_iload (j := 8) (by decide +kernel) rfl ?_
  refine fs_iadd (by decide +kernel) ?_
  refine fx_iald (n := (53 + x8).toNatClampNeg) (len := 373) (by decide +kernel) (by decide +kernel) (by decide +kernel) hi0 rfl ?_
  refine fs_iconst (n := 1) (v := 1) (by decide +kernel) (by decide) ?_
  exact fs_icne (off := 42) (tgt := 171) (by decide +kernel) (by decide) kt kf
theorem b167_132 {d : Nat} {x1 : Int32} {x2 : Int32} {x3 : Int32} {x4 : Int32} {x5 : Int32} {x6 : Int32} {x7 : Int32} {x8 : Int32} {x9 : Int32} {o10 : Option Value} {S : fm_S} {r : Option Value × am_W} (hi0 : vp_in (x8 / 8) 8) (hi1 : vp_in (13 + x9) 373) (kt : ¬ x9 = x3 → am_Ev d 167 166 [some (.ref 231), some (.int x1), some (.int x2), some (.int x3), some (.int x4), some (.int x5), some (.int x6), some (.int x7), some (.int x8), some (.int x9), o10] [.int (((S.1 238 ((x8 / 8).toNatClampNeg)) - 2) - (S.1 232 ((13 + x9).toNatClampNeg)))] (fm_mk S) r) (kf : x9 = x3 → am_Ev d 167 161 [some (.ref 231), some (.int x1), some (.int x2), some (.int x3), some (.int x4), some (.int x5), some (.int x6), some (.int x7), some (.int x8), some (.int x9), o10] [.int (((S.1 238 ((x8 / 8).toNatClampNeg)) - 2) - (S.1 232 ((13 + x9).toNatClampNeg)))] (fm_mk S) r) : am_Ev d 167 132 [some (.ref 231), some (.int x1), some (.int x2), some (.int x3), some (.int x4), some (.int x5), some (.int x6), some (.int x7), some (.int x8), some (.int x9), o10] [] (fm_mk S) r := by
  refine fs_aloadn (j := 0) (by decide +kernel) rfl ?_
  refine fe_getR (idx := 28) (t := 8) (f := 14) (fk := 2) (fin := 1) (wp := 957) (x := 238) (by decide +kernel) (by decide +kernel) (by decide +kernel) (by decide +kernel) (by decide +kernel) ?_
  refine fs_iload (j := 8) (by decide +kernel) rfl ?_
  refine fs_bipush (n := 8) (v := 8) (by decide +kernel) (by decide) ?_
  refine fe_idiv (by decide +kernel) (by decide) ?_
  refine fx_iald (n := (x8 / 8).toNatClampNeg) (len := 8) (by decide +kernel) (by decide +kernel) (by decide +kernel) hi0 rfl ?_
  refine fs_iconst (n := 2) (v := 2) (by decide +kernel) (by decide) ?_
  refine fs_isub (by decide +kernel) ?_
  refine fs_aloadn (j := 0) (by decide +kernel) rfl ?_
  refine fe_getR (idx := 7) (t := 8) (f := 0) (fk := 2) (fin := 1) (wp := 943) (x := 232) (by decide +kernel) (by decide +kernel) (by decide +kernel) (by decide +kernel) (by decide +kernel) ?_
  refine fs_bipush (n := 13) (v := 13) (by decide +kernel) (by decide) ?_
  refine fs_iload (j := 9) (by decide +kernel) rfl ?_
  refine fs_iadd (by decide +kernel) ?_
  refine fx_iald (n := (13 + x9).toNatClampNeg) (len := 373) (by decide +kernel) (by decide +kernel) (by decide +kernel) hi1 rfl ?_
  refine fs_isub (by decide +kernel) ?_
  refine fs_iload (j := 9) (by decide +kernel) rfl ?_
  refine fs_iloadn (j := 3) (by decide +kernel) rfl ?_
  exact fs_icne (off := 8) (tgt := 166) (by decide +kernel) (by decide) kt kf
theorem b167_161 {d : Nat} {x1 : Int32} {x2 : Int32} {x3 : Int32} {x4 : Int32} {x5 : Int32} {x6 : Int32} {x7 : Int32} {x8 : Int32} {x9 : Int32} {o10 : Option Value} {sx0 : Int32} {S : fm_S} {r : Option Value × am_W} (nx : am_Ev d 167 167 [some (.ref 231), some (.int x1), some (.int x2), some (.int x3), some (.int x4), some (.int x5), some (.int x6), some (.int x7), some (.int x8), some (.int x9), o10] [.int x4, .int sx0] (fm_mk S) r) : am_Ev d 167 161 [some (.ref 231), some (.int x1), some (.int x2), some (.int x3), some (.int x4), some (.int x5), some (.int x6), some (.int x7), some (.int x8), some (.int x9), o10] [.int sx0] (fm_mk S) r := by
  refine fs_iload (j := 4) (by decide +kernel) rfl ?_
  refine fs_goto (off := 4) (tgt := 167) (by decide +kernel) (by decide) ?_
  exact nx
theorem b167_166 {d : Nat} {x1 : Int32} {x2 : Int32} {x3 : Int32} {x4 : Int32} {x5 : Int32} {x6 : Int32} {x7 : Int32} {x8 : Int32} {x9 : Int32} {o10 : Option Value} {sx0 : Int32} {S : fm_S} {r : Option Value × am_W} (nx : am_Ev d 167 167 [some (.ref 231), some (.int x1), some (.int x2), some (.int x3), some (.int x4), some (.int x5), some (.int x6), some (.int x7), some (.int x8), some (.int x9), o10] [.int 0, .int sx0] (fm_mk S) r) : am_Ev d 167 166 [some (.ref 231), some (.int x1), some (.int x2), some (.int x3), some (.int x4), some (.int x5), some (.int x6), some (.int x7), some (.int x8), some (.int x9), o10] [.int sx0] (fm_mk S) r := by
  refine fs_iconst (n := 0) (v := 0) (by decide +kernel) (by decide) ?_
  exact nx
theorem b167_167 {d : Nat} {x1 : Int32} {x2 : Int32} {x3 : Int32} {x4 : Int32} {x5 : Int32} {x6 : Int32} {x7 : Int32} {x8 : Int32} {x9 : Int32} {o10 : Option Value} {sx0 : Int32} {sx1 : Int32} {S : fm_S} {r : Option Value × am_W} (nx : am_Ev d 167 172 [some (.ref 231), some (.int x1), some (.int x2), some (.int x3), some (.int x4), some (.int x5), some (.int x6), some (.int x7), some (.int x8), some (.int x9), o10] [.int (sx0 - sx1)] (fm_mk S) r) : am_Ev d 167 167 [some (.ref 231), some (.int x1), some (.int x2), some (.int x3), some (.int x4), some (.int x5), some (.int x6), some (.int x7), some (.int x8), some (.int x9), o10] [.int sx1, .int sx0] (fm_mk S) r := by
  refine fs_isub (by decide +kernel) ?_
  refine fs_goto (off := 4) (tgt := 172) (by decide +kernel) (by decide) ?_
  exact nx
theorem b167_171 {d : Nat} {x1 : Int32} {x2 : Int32} {x3 : Int32} {x4 : Int32} {x5 : Int32} {x6 : Int32} {x7 : Int32} {x8 : Int32} {x9 : Int32} {o10 : Option Value} {S : fm_S} {r : Option Value × am_W} (nx : am_Ev d 167 172 [some (.ref 231), some (.int x1), some (.int x2), some (.int x3), some (.int x4), some (.int x5), some (.int x6), some (.int x7), some (.int x8), some (.int x9), o10] [.int 0] (fm_mk S) r) : am_Ev d 167 171 [some (.ref 231), some (.int x1), some (.int x2), some (.int x3), some (.int x4), some (.int x5), some (.int x6), some (.int x7), some (.int x8), some (.int x9), o10] [] (fm_mk S) r := by
  refine fs_iconst (n := 0) (v := 0) (by decide +kernel) (by decide) ?_
  exact nx
theorem b167_172 {d : Nat} {x1 : Int32} {x2 : Int32} {x3 : Int32} {x4 : Int32} {x5 : Int32} {x6 : Int32} {x7 : Int32} {x8 : Int32} {x9 : Int32} {o10 : Option Value} {sx0 : Int32} {S : fm_S} {r : Option Value × am_W} (kt : ¬ x7 = 0 → am_Ev d 167 191 [some (.ref 231), some (.int x1), some (.int x2), some (.int x3), some (.int x4), some (.int x5), some (.int x6), some (.int x7), some (.int x8), some (.int x9), some (.int sx0)] [] (fm_mk S) r) (kf : x7 = 0 → am_Ev d 167 179 [some (.ref 231), some (.int x1), some (.int x2), some (.int x3), some (.int x4), some (.int x5), some (.int x6), some (.int x7), some (.int x8), some (.int x9), some (.int sx0)] [] (fm_mk S) r) : am_Ev d 167 172 [some (.ref 231), some (.int x1), some (.int x2), some (.int x3), some (.int x4), some (.int x5), some (.int x6), some (.int x7), some (.int x8), some (.int x9), o10] [.int sx0] (fm_mk S) r := by
  refine fs_istore (j := 10) (L' := [some (.ref 231), some (.int x1), some (.int x2), some (.int x3), some (.int x4), some (.int x5), some (.int x6), some (.int x7), some (.int x8), some (.int x9), some (.int sx0)]) (by decide +kernel) (Nat.le_of_ble_eq_true rfl) rfl ?_
  refine fs_iload (j := 7) (by decide +kernel) rfl ?_
  exact fs_ifne (off := 15) (tgt := 191) (by decide +kernel) (by decide) kt kf
theorem b167_179 {d : Nat} {x1 : Int32} {x2 : Int32} {x3 : Int32} {x4 : Int32} {x5 : Int32} {x6 : Int32} {x7 : Int32} {x8 : Int32} {x9 : Int32} {x10 : Int32} {S : fm_S} {r : Option Value × am_W} (hi0 : vp_in x9 8) (kt : x10 ≤ (S.1 238 x9.toNatClampNeg) → am_Ev d 167 195 [some (.ref 231), some (.int x1), some (.int x2), some (.int x3), some (.int x4), some (.int x5), some (.int x6), some (.int x7), some (.int x8), some (.int x9), some (.int x10)] [] (fm_mk S) r) (kf : ¬ x10 ≤ (S.1 238 x9.toNatClampNeg) → am_Ev d 167 191 [some (.ref 231), some (.int x1), some (.int x2), some (.int x3), some (.int x4), some (.int x5), some (.int x6), some (.int x7), some (.int x8), some (.int x9), some (.int x10)] [] (fm_mk S) r) : am_Ev d 167 179 [some (.ref 231), some (.int x1), some (.int x2), some (.int x3), some (.int x4), some (.int x5), some (.int x6), some (.int x7), some (.int x8), some (.int x9), some (.int x10)] [] (fm_mk S) r := by
  refine fs_iload (j := 10) (by decide +kernel) rfl ?_
  refine fs_aloadn (j := 0) (by decide +kernel) rfl ?_
  refine fe_getR (idx := 28) (t := 8) (f := 14) (fk := 2) (fin := 1) (wp := 957) (x := 238) (by decide +kernel) (by decide +kernel) (by decide +kernel) (by decide +kernel) (by decide +kernel) ?_
  refine fs_iload (j := 9) (by decide +kernel) rfl ?_
  refine fx_iald (n := x9.toNatClampNeg) (len := 8) (by decide +kernel) (by decide +kernel) (by decide +kernel) hi0 rfl ?_
  exact fs_icle (off := 7) (tgt := 195) (by decide +kernel) (by decide) kt kf
theorem b167_191 {d : Nat} {x1 : Int32} {x2 : Int32} {x3 : Int32} {x4 : Int32} {x5 : Int32} {x6 : Int32} {x7 : Int32} {x8 : Int32} {x9 : Int32} {x10 : Int32} {S : fm_S} {r : Option Value × am_W} (nx : am_Ev d 167 196 [some (.ref 231), some (.int x1), some (.int x2), some (.int x3), some (.int x4), some (.int x5), some (.int x6), some (.int x7), some (.int x8), some (.int x9), some (.int x10)] [.int 1] (fm_mk S) r) : am_Ev d 167 191 [some (.ref 231), some (.int x1), some (.int x2), some (.int x3), some (.int x4), some (.int x5), some (.int x6), some (.int x7), some (.int x8), some (.int x9), some (.int x10)] [] (fm_mk S) r := by
  refine fs_iconst (n := 1) (v := 1) (by decide +kernel) (by decide) ?_
  refine fs_goto (off := 4) (tgt := 196) (by decide +kernel) (by decide) ?_
  exact nx
theorem b167_195 {d : Nat} {x1 : Int32} {x2 : Int32} {x3 : Int32} {x4 : Int32} {x5 : Int32} {x6 : Int32} {x7 : Int32} {x8 : Int32} {x9 : Int32} {x10 : Int32} {S : fm_S} {r : Option Value × am_W} (nx : am_Ev d 167 196 [some (.ref 231), some (.int x1), some (.int x2), some (.int x3), some (.int x4), some (.int x5), some (.int x6), some (.int x7), some (.int x8), some (.int x9), some (.int x10)] [.int 0] (fm_mk S) r) : am_Ev d 167 195 [some (.ref 231), some (.int x1), some (.int x2), some (.int x3), some (.int x4), some (.int x5), some (.int x6), some (.int x7), some (.int x8), some (.int x9), some (.int x10)] [] (fm_mk S) r := by
  refine fs_iconst (n := 0) (v := 0) (by decide +kernel) (by decide) ?_
  exact nx
theorem b167_196 {d : Nat} {x1 : Int32} {x2 : Int32} {x3 : Int32} {x4 : Int32} {x5 : Int32} {x6 : Int32} {x7 : Int32} {x8 : Int32} {x9 : Int32} {x10 : Int32} {sx0 : Int32} {S : fm_S} {r : Option Value × am_W} (hi0 : vp_in x9 8) (kt : x10 ≤ (S.1 238 x9.toNatClampNeg) → am_Ev d 167 221 [some (.ref 231), some (.int x1), some (.int x2), some (.int x3), some (.int x4), some (.int x5), some (.int x6), some (.int sx0), some (.int x8), some (.int x9), some (.int x10)] [.int x9, .ref 238] (fm_mk S) r) (kf : ¬ x10 ≤ (S.1 238 x9.toNatClampNeg) → am_Ev d 167 216 [some (.ref 231), some (.int x1), some (.int x2), some (.int x3), some (.int x4), some (.int x5), some (.int x6), some (.int sx0), some (.int x8), some (.int x9), some (.int x10)] [.int x9, .ref 238] (fm_mk S) r) : am_Ev d 167 196 [some (.ref 231), some (.int x1), some (.int x2), some (.int x3), some (.int x4), some (.int x5), some (.int x6), some (.int x7), some (.int x8), some (.int x9), some (.int x10)] [.int sx0] (fm_mk S) r := by
  refine fs_istore (j := 7) (L' := [some (.ref 231), some (.int x1), some (.int x2), some (.int x3), some (.int x4), some (.int x5), some (.int x6), some (.int sx0), some (.int x8), some (.int x9), some (.int x10)]) (by decide +kernel) (Nat.le_of_ble_eq_true rfl) rfl ?_
  refine fs_aloadn (j := 0) (by decide +kernel) rfl ?_
  refine fe_getR (idx := 28) (t := 8) (f := 14) (fk := 2) (fin := 1) (wp := 957) (x := 238) (by decide +kernel) (by decide +kernel) (by decide +kernel) (by decide +kernel) (by decide +kernel) ?_
  refine fs_iload (j := 9) (by decide +kernel) rfl ?_
  refine fs_iload (j := 10) (by decide +kernel) rfl ?_
  refine fs_aloadn (j := 0) (by decide +kernel) rfl ?_
  refine fe_getR (idx := 28) (t := 8) (f := 14) (fk := 2) (fin := 1) (wp := 957) (x := 238) (by decide +kernel) (by decide +kernel) (by decide +kernel) (by decide +kernel) (by decide +kernel) ?_
  refine fs_iload (j := 9) (by decide +kernel) rfl ?_
  refine fx_iald (n := x9.toNatClampNeg) (len := 8) (by decide +kernel) (by decide +kernel) (by decide +kernel) hi0 rfl ?_
  exact fs_icle (off := 8) (tgt := 221) (by decide +kernel) (by decide) kt kf
theorem b167_216 {d : Nat} {x1 : Int32} {x2 : Int32} {x3 : Int32} {x4 : Int32} {x5 : Int32} {x6 : Int32} {x7 : Int32} {x8 : Int32} {x9 : Int32} {x10 : Int32} {sx1 : Int32} {S : fm_S} {r : Option Value × am_W} (nx : am_Ev d 167 228 [some (.ref 231), some (.int x1), some (.int x2), some (.int x3), some (.int x4), some (.int x5), some (.int x6), some (.int x7), some (.int x8), some (.int x9), some (.int x10)] [.int x10, .int sx1, .ref 238] (fm_mk S) r) : am_Ev d 167 216 [some (.ref 231), some (.int x1), some (.int x2), some (.int x3), some (.int x4), some (.int x5), some (.int x6), some (.int x7), some (.int x8), some (.int x9), some (.int x10)] [.int sx1, .ref 238] (fm_mk S) r := by
  refine fs_iload (j := 10) (by decide +kernel) rfl ?_
  refine fs_goto (off := 10) (tgt := 228) (by decide +kernel) (by decide) ?_
  exact nx
theorem b167_221 {d : Nat} {x1 : Int32} {x2 : Int32} {x3 : Int32} {x4 : Int32} {x5 : Int32} {x6 : Int32} {x7 : Int32} {x8 : Int32} {x9 : Int32} {x10 : Int32} {sx1 : Int32} {S : fm_S} {r : Option Value × am_W} (hi0 : vp_in x9 8) (nx : am_Ev d 167 228 [some (.ref 231), some (.int x1), some (.int x2), some (.int x3), some (.int x4), some (.int x5), some (.int x6), some (.int x7), some (.int x8), some (.int x9), some (.int x10)] [.int (S.1 238 x9.toNatClampNeg), .int sx1, .ref 238] (fm_mk S) r) : am_Ev d 167 221 [some (.ref 231), some (.int x1), some (.int x2), some (.int x3), some (.int x4), some (.int x5), some (.int x6), some (.int x7), some (.int x8), some (.int x9), some (.int x10)] [.int sx1, .ref 238] (fm_mk S) r := by
  refine fs_aloadn (j := 0) (by decide +kernel) rfl ?_
  refine fe_getR (idx := 28) (t := 8) (f := 14) (fk := 2) (fin := 1) (wp := 957) (x := 238) (by decide +kernel) (by decide +kernel) (by decide +kernel) (by decide +kernel) (by decide +kernel) ?_
  refine fs_iload (j := 9) (by decide +kernel) rfl ?_
  refine fx_iald (n := x9.toNatClampNeg) (len := 8) (by decide +kernel) (by decide +kernel) (by decide +kernel) hi0 rfl ?_
  exact nx
theorem b167_228 {d : Nat} {x1 : Int32} {x2 : Int32} {x3 : Int32} {x4 : Int32} {x5 : Int32} {x6 : Int32} {x7 : Int32} {x8 : Int32} {x9 : Int32} {x10 : Int32} {sx1 : Int32} {sx2 : Int32} {S : fm_S} {r : Option Value × am_W} (hi0 : vp_in sx1 8) (nx : am_Ev d 167 104 [some (.ref 231), some (.int x1), some (.int x2), some (.int x3), some (.int x4), some (.int x5), some (.int x6), some (.int x7), some (.int (x8 + 1)), some (.int x9), some (.int x10)] [] (fm_mk (fm_wI S 238 sx1.toNatClampNeg sx2)) r) : am_Ev d 167 228 [some (.ref 231), some (.int x1), some (.int x2), some (.int x3), some (.int x4), some (.int x5), some (.int x6), some (.int x7), some (.int x8), some (.int x9), some (.int x10)] [.int sx2, .int sx1, .ref 238] (fm_mk S) r := by
  refine fx_iast (n := sx1.toNatClampNeg) (len := 8) (by decide +kernel) (by decide +kernel) (by decide +kernel) hi0 rfl ?_
  refine fs_iinc (j := 8) (n := 1) (v := 1) (L' := [some (.ref 231), some (.int x1), some (.int x2), some (.int x3), some (.int x4), some (.int x5), some (.int x6), some (.int x7), some (.int (x8 + 1)), some (.int x9), some (.int x10)]) (by decide +kernel) rfl (Nat.le_of_ble_eq_true rfl) (by decide) rfl ?_
  refine fs_goto (off := -128) (tgt := 104) (by decide +kernel) (by decide) ?_
  exact nx
theorem b167_235 {d : Nat} {x1 : Int32} {x2 : Int32} {x3 : Int32} {x4 : Int32} {x5 : Int32} {x6 : Int32} {x7 : Int32} {x8 : Int32} {o9 : Option Value} {o10 : Option Value} {S : fm_S} {r : Option Value × am_W} (nx : am_Ev d 167 93 [some (.ref 231), some (.int x1), some (.int x2), some (.int x3), some (.int x4), some (.int x5), some (.int x6), some (.int x7), some (.int x8), o9, o10] [] (fm_mk S) r) : am_Ev d 167 235 [some (.ref 231), some (.int x1), some (.int x2), some (.int x3), some (.int x4), some (.int x5), some (.int x6), some (.int x7), some (.int x8), o9, o10] [] (fm_mk S) r := by
  refine fs_goto (off := -142) (tgt := 93) (by decide +kernel) (by decide) ?_
  exact nx
theorem b167_238 {d : Nat} {x1 : Int32} {x2 : Int32} {x3 : Int32} {x4 : Int32} {x5 : Int32} {x6 : Int32} {x7 : Int32} {o8 : Option Value} {o9 : Option Value} {o10 : Option Value} {S : fm_S}  : am_Ev d 167 238 [some (.ref 231), some (.int x1), some (.int x2), some (.int x3), some (.int x4), some (.int x5), some (.int x6), some (.int x7), o8, o9, o10] [] (fm_mk S) (none, fm_mk S) := by
  exact fe_retV (by decide +kernel) (by decide +kernel)
-- KitchenSiegeModel.movedIn(IIII)I
theorem b168_0 {d : Nat} {x1 : Int32} {x2 : Int32} {x3 : Int32} {x4 : Int32} {o5 : Option Value} {S : fm_S} {r : Option Value × am_W} (hi0 : vp_in (37 + x1) 373) (kt : ¬ (S.1 232 ((37 + x1).toNatClampNeg)) = x2 → am_Ev d 168 25 [some (.ref 231), some (.int x1), some (.int x2), some (.int x3), some (.int x4), o5] [] (fm_mk S) r) (kf : (S.1 232 ((37 + x1).toNatClampNeg)) = x2 → am_Ev d 168 13 [some (.ref 231), some (.int x1), some (.int x2), some (.int x3), some (.int x4), o5] [] (fm_mk S) r) : am_Ev d 168 0 [some (.ref 231), some (.int x1), some (.int x2), some (.int x3), some (.int x4), o5] [] (fm_mk S) r := by
  refine fs_aloadn (j := 0) (by decide +kernel) rfl ?_
  refine fe_getR (idx := 7) (t := 8) (f := 0) (fk := 2) (fin := 1) (wp := 943) (x := 232) (by decide +kernel) (by decide +kernel) (by decide +kernel) (by decide +kernel) (by decide +kernel) ?_
  refine fs_bipush (n := 37) (v := 37) (by decide +kernel) (by decide) ?_
  refine fs_iloadn (j := 1) (by decide +kernel) rfl ?_
  refine fs_iadd (by decide +kernel) ?_
  refine fx_iald (n := (37 + x1).toNatClampNeg) (len := 373) (by decide +kernel) (by decide +kernel) (by decide +kernel) hi0 rfl ?_
  refine fs_iloadn (j := 2) (by decide +kernel) rfl ?_
  exact fs_icne (off := 15) (tgt := 25) (by decide +kernel) (by decide) kt kf
theorem b168_13 {d : Nat} {x1 : Int32} {x2 : Int32} {x3 : Int32} {x4 : Int32} {o5 : Option Value} {S : fm_S} {r : Option Value × am_W} (hi0 : vp_in (45 + x1) 373) (nx : am_Ev d 168 26 [some (.ref 231), some (.int x1), some (.int x2), some (.int x3), some (.int x4), o5] [.int (S.1 232 ((45 + x1).toNatClampNeg))] (fm_mk S) r) : am_Ev d 168 13 [some (.ref 231), some (.int x1), some (.int x2), some (.int x3), some (.int x4), o5] [] (fm_mk S) r := by
  refine fs_aloadn (j := 0) (by decide +kernel) rfl ?_
  refine fe_getR (idx := 7) (t := 8) (f := 0) (fk := 2) (fin := 1) (wp := 943) (x := 232) (by decide +kernel) (by decide +kernel) (by decide +kernel) (by decide +kernel) (by decide +kernel) ?_
  refine fs_bipush (n := 45) (v := 45) (by decide +kernel) (by decide) ?_
  refine fs_iloadn (j := 1) (by decide +kernel) rfl ?_
  refine fs_iadd (by decide +kernel) ?_
  refine fx_iald (n := (45 + x1).toNatClampNeg) (len := 373) (by decide +kernel) (by decide +kernel) (by decide +kernel) hi0 rfl ?_
  refine fs_goto (off := 4) (tgt := 26) (by decide +kernel) (by decide) ?_
  exact nx
theorem b168_25 {d : Nat} {x1 : Int32} {x2 : Int32} {x3 : Int32} {x4 : Int32} {o5 : Option Value} {S : fm_S} {r : Option Value × am_W} (nx : am_Ev d 168 26 [some (.ref 231), some (.int x1), some (.int x2), some (.int x3), some (.int x4), o5] [.int 0] (fm_mk S) r) : am_Ev d 168 25 [some (.ref 231), some (.int x1), some (.int x2), some (.int x3), some (.int x4), o5] [] (fm_mk S) r := by
  refine fs_iconst (n := 0) (v := 0) (by decide +kernel) (by decide) ?_
  exact nx
theorem b168_26 {d : Nat} {x1 : Int32} {x2 : Int32} {x3 : Int32} {x4 : Int32} {o5 : Option Value} {sx0 : Int32} {v : Int32} {S1 : fm_S} {S : fm_S} {r : Option Value × am_W} (hi0 : vp_in (5 + x1) 373) (hi1 : vp_in (21 + x1) 373) (hc : am_Sp d 169 [.int (S.1 232 ((5 + x1).toNatClampNeg)), .int (S.1 232 ((21 + x1).toNatClampNeg)), .int x2, .int x3, .int x4, .int sx0] (fm_mk S) (some (.int v)) (fm_mk S1)) (nx : am_Ev (d + 1) 168 54 [some (.ref 231), some (.int x1), some (.int x2), some (.int x3), some (.int x4), some (.int sx0)] [.int v] (fm_mk S1) r) : am_Ev (d + 1) 168 26 [some (.ref 231), some (.int x1), some (.int x2), some (.int x3), some (.int x4), o5] [.int sx0] (fm_mk S) r := by
  refine fs_istore (j := 5) (L' := [some (.ref 231), some (.int x1), some (.int x2), some (.int x3), some (.int x4), some (.int sx0)]) (by decide +kernel) (Nat.le_of_ble_eq_true rfl) rfl ?_
  refine fs_aloadn (j := 0) (by decide +kernel) rfl ?_
  refine fe_getR (idx := 7) (t := 8) (f := 0) (fk := 2) (fin := 1) (wp := 943) (x := 232) (by decide +kernel) (by decide +kernel) (by decide +kernel) (by decide +kernel) (by decide +kernel) ?_
  refine fs_iconst (n := 5) (v := 5) (by decide +kernel) (by decide) ?_
  refine fs_iloadn (j := 1) (by decide +kernel) rfl ?_
  refine fs_iadd (by decide +kernel) ?_
  refine fx_iald (n := (5 + x1).toNatClampNeg) (len := 373) (by decide +kernel) (by decide +kernel) (by decide +kernel) hi0 rfl ?_
  refine fs_aloadn (j := 0) (by decide +kernel) rfl ?_
  refine fe_getR (idx := 7) (t := 8) (f := 0) (fk := 2) (fin := 1) (wp := 943) (x := 232) (by decide +kernel) (by decide +kernel) (by decide +kernel) (by decide +kernel) (by decide +kernel) ?_
  refine fs_bipush (n := 21) (v := 21) (by decide +kernel) (by decide) ?_
  refine fs_iloadn (j := 1) (by decide +kernel) rfl ?_
  refine fs_iadd (by decide +kernel) ?_
  refine fx_iald (n := (21 + x1).toNatClampNeg) (len := 373) (by decide +kernel) (by decide +kernel) (by decide +kernel) hi1 rfl ?_
  refine fs_iloadn (j := 2) (by decide +kernel) rfl ?_
  refine fs_iloadn (j := 3) (by decide +kernel) rfl ?_
  refine fs_iload (j := 4) (by decide +kernel) rfl ?_
  refine fs_iload (j := 5) (by decide +kernel) rfl ?_
  exact fe_callS (idx := 168) (kd := 0) (n := 6) (wp := 1152) (q := (1153, 0)) (as := [.int (S.1 232 ((5 + x1).toNatClampNeg)), .int (S.1 232 ((21 + x1).toNatClampNeg)), .int x2, .int x3, .int x4, .int sx0]) (rs := []) (by decide +kernel) (by decide +kernel) (by decide +kernel) (by decide) rfl (Nat.le_of_ble_eq_true rfl) rfl hc nx
theorem b168_54 {d : Nat} {x1 : Int32} {x2 : Int32} {x3 : Int32} {x4 : Int32} {x5 : Int32} {sx0 : Int32} {S : fm_S}  : am_Ev d 168 54 [some (.ref 231), some (.int x1), some (.int x2), some (.int x3), some (.int x4), some (.int x5)] [.int sx0] (fm_mk S) (some (.int sx0), fm_mk S) := by
  exact fe_retI (by decide +kernel) (by decide +kernel)
-- KitchenSiegeModel.movedBy(IIIIII)I
theorem b169_0 {d : Nat} {x0 : Int32} {x1 : Int32} {x2 : Int32} {x3 : Int32} {x4 : Int32} {x5 : Int32} {o6 : Option Value} {o7 : Option Value} {o8 : Option Value} {S : fm_S} {r : Option Value × am_W} (kt : ¬ x2 = x1 → am_Ev d 169 11 [some (.int x0), some (.int x1), some (.int x2), some (.int x3), some (.int x4), some (.int x5), o6, o7, o8] [] (fm_mk S) r) (kf : x2 = x1 → am_Ev d 169 5 [some (.int x0), some (.int x1), some (.int x2), some (.int x3), some (.int x4), some (.int x5), o6, o7, o8] [] (fm_mk S) r) : am_Ev d 169 0 [some (.int x0), some (.int x1), some (.int x2), some (.int x3), some (.int x4), some (.int x5), o6, o7, o8] [] (fm_mk S) r := by
  refine fs_iloadn (j := 2) (by decide +kernel) rfl ?_
  refine fs_iloadn (j := 1) (by decide +kernel) rfl ?_
  exact fs_icne (off := 9) (tgt := 11) (by decide +kernel) (by decide) kt kf
theorem b169_5 {d : Nat} {x0 : Int32} {x1 : Int32} {x2 : Int32} {x3 : Int32} {x4 : Int32} {x5 : Int32} {o6 : Option Value} {o7 : Option Value} {o8 : Option Value} {S : fm_S} {r : Option Value × am_W} (nx : am_Ev d 169 12 [some (.int x0), some (.int x1), some (.int x2), some (.int x3), some (.int x4), some (.int x5), o6, o7, o8] [.int (2 * x3)] (fm_mk S) r) : am_Ev d 169 5 [some (.int x0), some (.int x1), some (.int x2), some (.int x3), some (.int x4), some (.int x5), o6, o7, o8] [] (fm_mk S) r := by
  refine fs_iconst (n := 2) (v := 2) (by decide +kernel) (by decide) ?_
  refine fs_iloadn (j := 3) (by decide +kernel) rfl ?_
  refine fs_imul (by decide +kernel) ?_
  refine fs_goto (off := 4) (tgt := 12) (by decide +kernel) (by decide) ?_
  exact nx
theorem b169_11 {d : Nat} {x0 : Int32} {x1 : Int32} {x2 : Int32} {x3 : Int32} {x4 : Int32} {x5 : Int32} {o6 : Option Value} {o7 : Option Value} {o8 : Option Value} {S : fm_S} {r : Option Value × am_W} (nx : am_Ev d 169 12 [some (.int x0), some (.int x1), some (.int x2), some (.int x3), some (.int x4), some (.int x5), o6, o7, o8] [.int x3] (fm_mk S) r) : am_Ev d 169 11 [some (.int x0), some (.int x1), some (.int x2), some (.int x3), some (.int x4), some (.int x5), o6, o7, o8] [] (fm_mk S) r := by
  refine fs_iloadn (j := 3) (by decide +kernel) rfl ?_
  exact nx
theorem b169_12 {d : Nat} {x0 : Int32} {x1 : Int32} {x2 : Int32} {x3 : Int32} {x4 : Int32} {x5 : Int32} {o6 : Option Value} {o7 : Option Value} {o8 : Option Value} {sx0 : Int32} {S : fm_S} {r : Option Value × am_W} (kt : ¬ x2 = 0 → am_Ev d 169 22 [some (.int x0), some (.int x1), some (.int x2), some (.int x3), some (.int x4), some (.int x5), some (.int sx0), o7, o8] [] (fm_mk S) r) (kf : x2 = 0 → am_Ev d 169 18 [some (.int x0), some (.int x1), some (.int x2), some (.int x3), some (.int x4), some (.int x5), some (.int sx0), o7, o8] [] (fm_mk S) r) : am_Ev d 169 12 [some (.int x0), some (.int x1), some (.int x2), some (.int x3), some (.int x4), some (.int x5), o6, o7, o8] [.int sx0] (fm_mk S) r := by
  refine fs_istore (j := 6) (L' := [some (.int x0), some (.int x1), some (.int x2), some (.int x3), some (.int x4), some (.int x5), some (.int sx0), o7, o8]) (by decide +kernel) (Nat.le_of_ble_eq_true rfl) rfl ?_
  refine fs_iloadn (j := 2) (by decide +kernel) rfl ?_
  exact fs_ifne (off := 7) (tgt := 22) (by decide +kernel) (by decide) kt kf
theorem b169_18 {d : Nat} {x0 : Int32} {x1 : Int32} {x2 : Int32} {x3 : Int32} {x4 : Int32} {x5 : Int32} {x6 : Int32} {o7 : Option Value} {o8 : Option Value} {S : fm_S} {r : Option Value × am_W} (nx : am_Ev d 169 24 [some (.int x0), some (.int x1), some (.int x2), some (.int x3), some (.int x4), some (.int x5), some (.int x6), o7, o8] [.int 0] (fm_mk S) r) : am_Ev d 169 18 [some (.int x0), some (.int x1), some (.int x2), some (.int x3), some (.int x4), some (.int x5), some (.int x6), o7, o8] [] (fm_mk S) r := by
  refine fs_iconst (n := 0) (v := 0) (by decide +kernel) (by decide) ?_
  refine fs_goto (off := 5) (tgt := 24) (by decide +kernel) (by decide) ?_
  exact nx
theorem b169_22 {d : Nat} {x0 : Int32} {x1 : Int32} {x2 : Int32} {x3 : Int32} {x4 : Int32} {x5 : Int32} {x6 : Int32} {o7 : Option Value} {o8 : Option Value} {S : fm_S} {r : Option Value × am_W} (nx : am_Ev d 169 24 [some (.int x0), some (.int x1), some (.int x2), some (.int x3), some (.int x4), some (.int x5), some (.int x6), o7, o8] [.int x6] (fm_mk S) r) : am_Ev d 169 22 [some (.int x0), some (.int x1), some (.int x2), some (.int x3), some (.int x4), some (.int x5), some (.int x6), o7, o8] [] (fm_mk S) r := by
  refine fs_iload (j := 6) (by decide +kernel) rfl ?_
  exact nx
theorem b169_24 {d : Nat} {x0 : Int32} {x1 : Int32} {x2 : Int32} {x3 : Int32} {x4 : Int32} {x5 : Int32} {x6 : Int32} {o7 : Option Value} {o8 : Option Value} {sx0 : Int32} {S : fm_S} {r : Option Value × am_W} (k0 : x0 = 0 → am_Ev d 169 68 [some (.int x0), some (.int x1), some (.int x2), some (.int x3), some (.int x4), some (.int x5), some (.int x6), some (.int sx0), some (.int (x6 / 2))] [] (fm_mk S) r) (k1 : x0 = 1 → am_Ev d 169 71 [some (.int x0), some (.int x1), some (.int x2), some (.int x3), some (.int x4), some (.int x5), some (.int x6), some (.int sx0), some (.int (x6 / 2))] [] (fm_mk S) r) (k2 : x0 = 2 → am_Ev d 169 74 [some (.int x0), some (.int x1), some (.int x2), some (.int x3), some (.int x4), some (.int x5), some (.int x6), some (.int sx0), some (.int (x6 / 2))] [] (fm_mk S) r) (k3 : x0 = 3 → am_Ev d 169 77 [some (.int x0), some (.int x1), some (.int x2), some (.int x3), some (.int x4), some (.int x5), some (.int x6), some (.int sx0), some (.int (x6 / 2))] [] (fm_mk S) r) (k4 : x0 = 4 → am_Ev d 169 93 [some (.int x0), some (.int x1), some (.int x2), some (.int x3), some (.int x4), some (.int x5), some (.int x6), some (.int sx0), some (.int (x6 / 2))] [] (fm_mk S) r) (kd : ¬ x0 = 0 → ¬ x0 = 1 → ¬ x0 = 2 → ¬ x0 = 3 → ¬ x0 = 4 → am_Ev d 169 108 [some (.int x0), some (.int x1), some (.int x2), some (.int x3), some (.int x4), some (.int x5), some (.int x6), some (.int sx0), some (.int (x6 / 2))] [] (fm_mk S) r) : am_Ev d 169 24 [some (.int x0), some (.int x1), some (.int x2), some (.int x3), some (.int x4), some (.int x5), some (.int x6), o7, o8] [.int sx0] (fm_mk S) r := by
  refine fs_istore (j := 7) (L' := [some (.int x0), some (.int x1), some (.int x2), some (.int x3), some (.int x4), some (.int x5), some (.int x6), some (.int sx0), o8]) (by decide +kernel) (Nat.le_of_ble_eq_true rfl) rfl ?_
  refine fs_iload (j := 6) (by decide +kernel) rfl ?_
  refine fs_iconst (n := 2) (v := 2) (by decide +kernel) (by decide) ?_
  refine fe_idiv (by decide +kernel) (by decide) ?_
  refine fs_istore (j := 8) (L' := [some (.int x0), some (.int x1), some (.int x2), some (.int x3), some (.int x4), some (.int x5), some (.int x6), some (.int sx0), some (.int (x6 / 2))]) (by decide +kernel) (Nat.le_of_ble_eq_true rfl) rfl ?_
  refine fs_iloadn (j := 0) (by decide +kernel) rfl ?_
  by_cases c0 : x0 = 0
  · exact fs_sw (i := .tableswitch 75 0 4 #[35, 38, 41, 44, 60]) (z := 35) (by decide +kernel) rfl (by rw [c0]; rfl) (k0 c0)
  by_cases c1 : x0 = 1
  · exact fs_sw (i := .tableswitch 75 0 4 #[35, 38, 41, 44, 60]) (z := 35) (by decide +kernel) rfl (by rw [c1]; rfl) (k1 c1)
  by_cases c2 : x0 = 2
  · exact fs_sw (i := .tableswitch 75 0 4 #[35, 38, 41, 44, 60]) (z := 35) (by decide +kernel) rfl (by rw [c2]; rfl) (k2 c2)
  by_cases c3 : x0 = 3
  · exact fs_sw (i := .tableswitch 75 0 4 #[35, 38, 41, 44, 60]) (z := 35) (by decide +kernel) rfl (by rw [c3]; rfl) (k3 c3)
  by_cases c4 : x0 = 4
  · exact fs_sw (i := .tableswitch 75 0 4 #[35, 38, 41, 44, 60]) (z := 35) (by decide +kernel) rfl (by rw [c4]; rfl) (k4 c4)
  have e0 : ¬ (x0).toInt = 0 := fun q => c0 (Int32.toInt_inj.mp (q.trans (by decide)))
  have e1 : ¬ (x0).toInt = 1 := fun q => c1 (Int32.toInt_inj.mp (q.trans (by decide)))
  have e2 : ¬ (x0).toInt = 2 := fun q => c2 (Int32.toInt_inj.mp (q.trans (by decide)))
  have e3 : ¬ (x0).toInt = 3 := fun q => c3 (Int32.toInt_inj.mp (q.trans (by decide)))
  have e4 : ¬ (x0).toInt = 4 := fun q => c4 (Int32.toInt_inj.mp (q.trans (by decide)))
  exact fs_tout (dflt := 75) (lo := 0) (hi := 4) (offs := #[35, 38, 41, 44, 60]) (z := 35) (by decide +kernel) (by omega) (by decide) (kd c0 c1 c2 c3 c4)
theorem b169_68 {d : Nat} {x0 : Int32} {x1 : Int32} {x2 : Int32} {x3 : Int32} {x4 : Int32} {x5 : Int32} {x6 : Int32} {x7 : Int32} {x8 : Int32} {S : fm_S}  : am_Ev d 169 68 [some (.int x0), some (.int x1), some (.int x2), some (.int x3), some (.int x4), some (.int x5), some (.int x6), some (.int x7), some (.int x8)] [] (fm_mk S) (some (.int x6), fm_mk S) := by
  refine fs_iload (j := 6) (by decide +kernel) rfl ?_
  exact fe_retI (by decide +kernel) (by decide +kernel)
theorem b169_71 {d : Nat} {x0 : Int32} {x1 : Int32} {x2 : Int32} {x3 : Int32} {x4 : Int32} {x5 : Int32} {x6 : Int32} {x7 : Int32} {x8 : Int32} {S : fm_S}  : am_Ev d 169 71 [some (.int x0), some (.int x1), some (.int x2), some (.int x3), some (.int x4), some (.int x5), some (.int x6), some (.int x7), some (.int x8)] [] (fm_mk S) (some (.int x8), fm_mk S) := by
  refine fs_iload (j := 8) (by decide +kernel) rfl ?_
  exact fe_retI (by decide +kernel) (by decide +kernel)
theorem b169_74 {d : Nat} {x0 : Int32} {x1 : Int32} {x2 : Int32} {x3 : Int32} {x4 : Int32} {x5 : Int32} {x6 : Int32} {x7 : Int32} {x8 : Int32} {S : fm_S}  : am_Ev d 169 74 [some (.int x0), some (.int x1), some (.int x2), some (.int x3), some (.int x4), some (.int x5), some (.int x6), some (.int x7), some (.int x8)] [] (fm_mk S) (some (.int x7), fm_mk S) := by
  refine fs_iload (j := 7) (by decide +kernel) rfl ?_
  exact fe_retI (by decide +kernel) (by decide +kernel)
theorem b169_77 {d : Nat} {x0 : Int32} {x1 : Int32} {x2 : Int32} {x3 : Int32} {x4 : Int32} {x5 : Int32} {x6 : Int32} {x7 : Int32} {x8 : Int32} {S : fm_S} {r : Option Value × am_W} (kt : ¬ (x4 - x4 / 7 * 7) = 5 → am_Ev d 169 90 [some (.int x0), some (.int x1), some (.int x2), some (.int x3), some (.int x4), some (.int x5), some (.int x6), some (.int x7), some (.int x8)] [] (fm_mk S) r) (kf : (x4 - x4 / 7 * 7) = 5 → am_Ev d 169 86 [some (.int x0), some (.int x1), some (.int x2), some (.int x3), some (.int x4), some (.int x5), some (.int x6), some (.int x7), some (.int x8)] [] (fm_mk S) r) : am_Ev d 169 77 [some (.int x0), some (.int x1), some (.int x2), some (.int x3), some (.int x4), some (.int x5), some (.int x6), some (.int x7), some (.int x8)] [] (fm_mk S) r := by
  refine fs_iload (j := 4) (by decide +kernel) rfl ?_
  refine fs_bipush (n := 7) (v := 7) (by decide +kernel) (by decide) ?_
  refine fe_irem (by decide +kernel) (by decide) ?_
  refine fs_iconst (n := 5) (v := 5) (by decide +kernel) (by decide) ?_
  exact fs_icne (off := 7) (tgt := 90) (by decide +kernel) (by decide) kt kf
theorem b169_86 {d : Nat} {x0 : Int32} {x1 : Int32} {x2 : Int32} {x3 : Int32} {x4 : Int32} {x5 : Int32} {x6 : Int32} {x7 : Int32} {x8 : Int32} {S : fm_S} {r : Option Value × am_W} (nx : am_Ev d 169 92 [some (.int x0), some (.int x1), some (.int x2), some (.int x3), some (.int x4), some (.int x5), some (.int x6), some (.int x7), some (.int x8)] [.int 0] (fm_mk S) r) : am_Ev d 169 86 [some (.int x0), some (.int x1), some (.int x2), some (.int x3), some (.int x4), some (.int x5), some (.int x6), some (.int x7), some (.int x8)] [] (fm_mk S) r := by
  refine fs_iconst (n := 0) (v := 0) (by decide +kernel) (by decide) ?_
  refine fs_goto (off := 5) (tgt := 92) (by decide +kernel) (by decide) ?_
  exact nx
theorem b169_90 {d : Nat} {x0 : Int32} {x1 : Int32} {x2 : Int32} {x3 : Int32} {x4 : Int32} {x5 : Int32} {x6 : Int32} {x7 : Int32} {x8 : Int32} {S : fm_S} {r : Option Value × am_W} (nx : am_Ev d 169 92 [some (.int x0), some (.int x1), some (.int x2), some (.int x3), some (.int x4), some (.int x5), some (.int x6), some (.int x7), some (.int x8)] [.int x6] (fm_mk S) r) : am_Ev d 169 90 [some (.int x0), some (.int x1), some (.int x2), some (.int x3), some (.int x4), some (.int x5), some (.int x6), some (.int x7), some (.int x8)] [] (fm_mk S) r := by
  refine fs_iload (j := 6) (by decide +kernel) rfl ?_
  exact nx
theorem b169_92 {d : Nat} {x0 : Int32} {x1 : Int32} {x2 : Int32} {x3 : Int32} {x4 : Int32} {x5 : Int32} {x6 : Int32} {x7 : Int32} {x8 : Int32} {sx0 : Int32} {S : fm_S}  : am_Ev d 169 92 [some (.int x0), some (.int x1), some (.int x2), some (.int x3), some (.int x4), some (.int x5), some (.int x6), some (.int x7), some (.int x8)] [.int sx0] (fm_mk S) (some (.int sx0), fm_mk S) := by
  exact fe_retI (by decide +kernel) (by decide +kernel)
theorem b169_93 {d : Nat} {x0 : Int32} {x1 : Int32} {x2 : Int32} {x3 : Int32} {x4 : Int32} {x5 : Int32} {x6 : Int32} {x7 : Int32} {x8 : Int32} {S : fm_S} {r : Option Value × am_W} (kt : x7 ≤ 3 → am_Ev d 169 106 [some (.int x0), some (.int x1), some (.int x2), some (.int x3), some (.int x4), some (.int x5), some (.int x6), some (.int x7), some (.int x8)] [] (fm_mk S) r) (kf : ¬ x7 ≤ 3 → am_Ev d 169 99 [some (.int x0), some (.int x1), some (.int x2), some (.int x3), some (.int x4), some (.int x5), some (.int x6), some (.int x7), some (.int x8)] [] (fm_mk S) r) : am_Ev d 169 93 [some (.int x0), some (.int x1), some (.int x2), some (.int x3), some (.int x4), some (.int x5), some (.int x6), some (.int x7), some (.int x8)] [] (fm_mk S) r := by
  refine fs_iload (j := 7) (by decide +kernel) rfl ?_
  refine fs_iconst (n := 3) (v := 3) (by decide +kernel) (by decide) ?_
  exact fs_icle (off := 10) (tgt := 106) (by decide +kernel) (by decide) kt kf
theorem b169_99 {d : Nat} {x0 : Int32} {x1 : Int32} {x2 : Int32} {x3 : Int32} {x4 : Int32} {x5 : Int32} {x6 : Int32} {x7 : Int32} {x8 : Int32} {S : fm_S} {r : Option Value × am_W} (nx : am_Ev d 169 107 [some (.int x0), some (.int x1), some (.int x2), some (.int x3), some (.int x4), some (.int x5), some (.int x6), some (.int x7), some (.int x8)] [.int (x7 - 3)] (fm_mk S) r) : am_Ev d 169 99 [some (.int x0), some (.int x1), some (.int x2), some (.int x3), some (.int x4), some (.int x5), some (.int x6), some (.int x7), some (.int x8)] [] (fm_mk S) r := by
  refine fs_iload (j := 7) (by decide +kernel) rfl ?_
  refine fs_iconst (n := 3) (v := 3) (by decide +kernel) (by decide) ?_
  refine fs_isub (by decide +kernel) ?_
  refine fs_goto (off := 4) (tgt := 107) (by decide +kernel) (by decide) ?_
  exact nx
theorem b169_106 {d : Nat} {x0 : Int32} {x1 : Int32} {x2 : Int32} {x3 : Int32} {x4 : Int32} {x5 : Int32} {x6 : Int32} {x7 : Int32} {x8 : Int32} {S : fm_S} {r : Option Value × am_W} (nx : am_Ev d 169 107 [some (.int x0), some (.int x1), some (.int x2), some (.int x3), some (.int x4), some (.int x5), some (.int x6), some (.int x7), some (.int x8)] [.int 0] (fm_mk S) r) : am_Ev d 169 106 [some (.int x0), some (.int x1), some (.int x2), some (.int x3), some (.int x4), some (.int x5), some (.int x6), some (.int x7), some (.int x8)] [] (fm_mk S) r := by
  refine fs_iconst (n := 0) (v := 0) (by decide +kernel) (by decide) ?_
  exact nx
theorem b169_107 {d : Nat} {x0 : Int32} {x1 : Int32} {x2 : Int32} {x3 : Int32} {x4 : Int32} {x5 : Int32} {x6 : Int32} {x7 : Int32} {x8 : Int32} {sx0 : Int32} {S : fm_S}  : am_Ev d 169 107 [some (.int x0), some (.int x1), some (.int x2), some (.int x3), some (.int x4), some (.int x5), some (.int x6), some (.int x7), some (.int x8)] [.int sx0] (fm_mk S) (some (.int sx0), fm_mk S) := by
  exact fe_retI (by decide +kernel) (by decide +kernel)
theorem b169_108 {d : Nat} {x0 : Int32} {x1 : Int32} {x2 : Int32} {x3 : Int32} {x4 : Int32} {x5 : Int32} {x6 : Int32} {x7 : Int32} {x8 : Int32} {S : fm_S} {r : Option Value × am_W} (kt : x8 ≤ 0 → am_Ev d 169 123 [some (.int x0), some (.int x1), some (.int x2), some (.int x3), some (.int x4), some (.int x5), some (.int x6), some (.int x7), some (.int x8)] [] (fm_mk S) r) (kf : ¬ x8 ≤ 0 → am_Ev d 169 113 [some (.int x0), some (.int x1), some (.int x2), some (.int x3), some (.int x4), some (.int x5), some (.int x6), some (.int x7), some (.int x8)] [] (fm_mk S) r) : am_Ev d 169 108 [some (.int x0), some (.int x1), some (.int x2), some (.int x3), some (.int x4), some (.int x5), some (.int x6), some (.int x7), some (.int x8)] [] (fm_mk S) r := by
  refine fs_iload (j := 8) (by decide +kernel) rfl ?_
  exact fs_ifle (off := 13) (tgt := 123) (by decide +kernel) (by decide) kt kf
theorem b169_113 {d : Nat} {x0 : Int32} {x1 : Int32} {x2 : Int32} {x3 : Int32} {x4 : Int32} {x5 : Int32} {x6 : Int32} {x7 : Int32} {x8 : Int32} {S : fm_S} {r : Option Value × am_W} (nx : am_Ev d 169 124 [some (.int x0), some (.int x1), some (.int x2), some (.int x3), some (.int x4), some (.int x5), some (.int x6), some (.int x7), some (.int x8)] [.int (x8 + (2 * x5))] (fm_mk S) r) : am_Ev d 169 113 [some (.int x0), some (.int x1), some (.int x2), some (.int x3), some (.int x4), some (.int x5), some (.int x6), some (.int x7), some (.int x8)] [] (fm_mk S) r := by
  refine fs_iload (j := 8) (by decide +kernel) rfl ?_
  refine fs_iconst (n := 2) (v := 2) (by decide +kernel) (by decide) ?_
  refine fs_iload (j := 5) (by decide +kernel) rfl ?_
  refine fs_imul (by decide +kernel) ?_
  refine fs_iadd (by decide +kernel) ?_
  refine fs_goto (off := 4) (tgt := 124) (by decide +kernel) (by decide) ?_
  exact nx
theorem b169_123 {d : Nat} {x0 : Int32} {x1 : Int32} {x2 : Int32} {x3 : Int32} {x4 : Int32} {x5 : Int32} {x6 : Int32} {x7 : Int32} {x8 : Int32} {S : fm_S} {r : Option Value × am_W} (nx : am_Ev d 169 124 [some (.int x0), some (.int x1), some (.int x2), some (.int x3), some (.int x4), some (.int x5), some (.int x6), some (.int x7), some (.int x8)] [.int 0] (fm_mk S) r) : am_Ev d 169 123 [some (.int x0), some (.int x1), some (.int x2), some (.int x3), some (.int x4), some (.int x5), some (.int x6), some (.int x7), some (.int x8)] [] (fm_mk S) r := by
  refine fs_iconst (n := 0) (v := 0) (by decide +kernel) (by decide) ?_
  exact nx
theorem b169_124 {d : Nat} {x0 : Int32} {x1 : Int32} {x2 : Int32} {x3 : Int32} {x4 : Int32} {x5 : Int32} {x6 : Int32} {x7 : Int32} {x8 : Int32} {sx0 : Int32} {S : fm_S}  : am_Ev d 169 124 [some (.int x0), some (.int x1), some (.int x2), some (.int x3), some (.int x4), some (.int x5), some (.int x6), some (.int x7), some (.int x8)] [.int sx0] (fm_mk S) (some (.int sx0), fm_mk S) := by
  exact fe_retI (by decide +kernel) (by decide +kernel)
-- KitchenSiegeModel.has(II)Z
theorem b170_0 {d : Nat} {x0 : Int32} {x1 : Int32} {S : fm_S} {r : Option Value × am_W} (kt : ¬ ((x0 >>> (x1 &&& 31)) &&& 1) = 1 → am_Ev d 170 13 [some (.int x0), some (.int x1)] [] (fm_mk S) r) (kf : ((x0 >>> (x1 &&& 31)) &&& 1) = 1 → am_Ev d 170 9 [some (.int x0), some (.int x1)] [] (fm_mk S) r) : am_Ev d 170 0 [some (.int x0), some (.int x1)] [] (fm_mk S) r := by
  refine fs_iloadn (j := 0) (by decide +kernel) rfl ?_
  refine fs_iloadn (j := 1) (by decide +kernel) rfl ?_
  refine fs_ishr (by decide +kernel) ?_
  refine fs_iconst (n := 1) (v := 1) (by decide +kernel) (by decide) ?_
  refine fs_iand (by decide +kernel) ?_
  refine fs_iconst (n := 1) (v := 1) (by decide +kernel) (by decide) ?_
  exact fs_icne (off := 7) (tgt := 13) (by decide +kernel) (by decide) kt kf
theorem b170_9 {d : Nat} {x0 : Int32} {x1 : Int32} {S : fm_S} {r : Option Value × am_W} (nx : am_Ev d 170 14 [some (.int x0), some (.int x1)] [.int 1] (fm_mk S) r) : am_Ev d 170 9 [some (.int x0), some (.int x1)] [] (fm_mk S) r := by
  refine fs_iconst (n := 1) (v := 1) (by decide +kernel) (by decide) ?_
  refine fs_goto (off := 4) (tgt := 14) (by decide +kernel) (by decide) ?_
  exact nx
theorem b170_13 {d : Nat} {x0 : Int32} {x1 : Int32} {S : fm_S} {r : Option Value × am_W} (nx : am_Ev d 170 14 [some (.int x0), some (.int x1)] [.int 0] (fm_mk S) r) : am_Ev d 170 13 [some (.int x0), some (.int x1)] [] (fm_mk S) r := by
  refine fs_iconst (n := 0) (v := 0) (by decide +kernel) (by decide) ?_
  exact nx
theorem b170_14 {d : Nat} {x0 : Int32} {x1 : Int32} {sx0 : Int32} {S : fm_S}  (hz : sx0 = 0 ∨ sx0 = 1) : am_Ev d 170 14 [some (.int x0), some (.int x1)] [.int sx0] (fm_mk S) (some (.int sx0), fm_mk S) := by
  exact fe_retZ (by decide +kernel) (by decide +kernel) hz
-- KitchenSiegeModel.undo()I
theorem b171_0 {d : Nat} {S : fm_S} {r : Option Value × am_W} (kt : ¬ (S.1 232 3) = 0 → am_Ev d 171 14 [some (.ref 231)] [] (fm_mk S) r) (kf : (S.1 232 3) = 0 → am_Ev d 171 9 [some (.ref 231)] [] (fm_mk S) r) : am_Ev d 171 0 [some (.ref 231)] [] (fm_mk S) r := by
  refine fs_aloadn (j := 0) (by decide +kernel) rfl ?_
  refine fe_getR (idx := 7) (t := 8) (f := 0) (fk := 2) (fin := 1) (wp := 943) (x := 232) (by decide +kernel) (by decide +kernel) (by decide +kernel) (by decide +kernel) (by decide +kernel) ?_
  refine fs_iconst (n := 3) (v := 3) (by decide +kernel) (by decide) ?_
  refine fx_iald (n := 3) (len := 373) (by decide +kernel) (by decide +kernel) (by decide +kernel) (vp_c (by decide) (by decide)) (by decide) ?_
  exact fs_ifne (off := 8) (tgt := 14) (by decide +kernel) (by decide) kt kf
theorem b171_9 {d : Nat} {v : Int32} {S1 : fm_S} {S : fm_S} {r : Option Value × am_W} (hc : am_Sp d 143 [.ref 231] (fm_mk S) (some (.int v)) (fm_mk S1)) (nx : am_Ev (d + 1) 171 13 [some (.ref 231)] [.int v] (fm_mk S1) r) : am_Ev (d + 1) 171 9 [some (.ref 231)] [] (fm_mk S) r := by
  refine fs_aloadn (j := 0) (by decide +kernel) rfl ?_
  exact fe_callV (idx := 88) (n := 0) (wp := 1037) (q := (1039, 34)) (as := []) (rs := []) (by decide +kernel) (by decide +kernel) (by decide +kernel) (by decide +kernel) rfl (Nat.le_of_ble_eq_true rfl) rfl hc nx
theorem b171_13 {d : Nat} {sx0 : Int32} {S : fm_S}  : am_Ev d 171 13 [some (.ref 231)] [.int sx0] (fm_mk S) (some (.int sx0), fm_mk S) := by
  exact fe_retI (by decide +kernel) (by decide +kernel)
theorem b171_14 {d : Nat} {S1 : fm_S} {S : fm_S} {r : Option Value × am_W} (hc : am_Sp d 163 [.ref 232, .ref 232, .int (173 + (25 * ((fm_wI S 232 3 ((S.1 232 3) - 1)).1 232 3))), .int 1] (fm_mk (fm_wI S 232 3 ((S.1 232 3) - 1))) (none) (fm_mk S1)) (nx : am_Ev (d + 1) 171 49 [some (.ref 231)] [] (fm_mk S1) r) : am_Ev (d + 1) 171 14 [some (.ref 231)] [] (fm_mk S) r := by
  refine fs_aloadn (j := 0) (by decide +kernel) rfl ?_
  refine fe_getR (idx := 7) (t := 8) (f := 0) (fk := 2) (fin := 1) (wp := 943) (x := 232) (by decide +kernel) (by decide +kernel) (by decide +kernel) (by decide +kernel) (by decide +kernel) ?_
  refine fs_iconst (n := 3) (v := 3) (by decide +kernel) (by decide) ?_
  refine fs_dup2 (by decide +kernel) ⟨rfl, rfl⟩ ?_
  refine fx_iald (n := 3) (len := 373) (by decide +kernel) (by decide +kernel) (by decide +kernel) (vp_c (by decide) (by decide)) (by decide) ?_
  refine fs_iconst (n := 1) (v := 1) (by decide +kernel) (by decide) ?_
  refine fs_isub (by decide +kernel) ?_
  refine fx_iast (n := 3) (len := 373) (by decide +kernel) (by decide +kernel) (by decide +kernel) (vp_c (by decide) (by decide)) (by decide) ?_
  refine fs_aloadn (j := 0) (by decide +kernel) rfl ?_
  refine fe_getR (idx := 7) (t := 8) (f := 0) (fk := 2) (fin := 1) (wp := 943) (x := 232) (by decide +kernel) (by decide +kernel) (by decide +kernel) (by decide +kernel) (by decide +kernel) ?_
  refine fs_aloadn (j := 0) (by decide +kernel) rfl ?_
  refine fe_getR (idx := 7) (t := 8) (f := 0) (fk := 2) (fin := 1) (wp := 943) (x := 232) (by decide +kernel) (by decide +kernel) (by decide +kernel) (by decide +kernel) (by decide +kernel) ?_
  refine fs_sipush (n := 173) (v := 173) (by decide +kernel) (by decide) ?_
  refine fs_bipush (n := 25) (v := 25) (by decide +kernel) (by decide) ?_
  refine fs_aloadn (j := 0) (by decide +kernel) rfl ?_
  refine fe_getR (idx := 7) (t := 8) (f := 0) (fk := 2) (fin := 1) (wp := 943) (x := 232) (by decide +kernel) (by decide +kernel) (by decide +kernel) (by decide +kernel) (by decide +kernel) ?_
  refine fs_iconst (n := 3) (v := 3) (by decide +kernel) (by decide) ?_
  refine fx_iald (n := 3) (len := 373) (by decide +kernel) (by decide +kernel) (by decide +kernel) (vp_c (by decide) (by decide)) (by decide) ?_
  refine fs_imul (by decide +kernel) ?_
  refine fs_iadd (by decide +kernel) ?_
  refine fs_iconst (n := 1) (v := 1) (by decide +kernel) (by decide) ?_
  exact fe_callS (idx := 194) (kd := 0) (n := 4) (wp := 1129) (q := (1130, 0)) (as := [.ref 232, .ref 232, .int (173 + (25 * ((fm_wI S 232 3 ((S.1 232 3) - 1)).1 232 3))), .int 1]) (rs := []) (by decide +kernel) (by decide +kernel) (by decide +kernel) (by decide) rfl (Nat.le_of_ble_eq_true rfl) rfl hc nx
theorem b171_49 {d : Nat} {S : fm_S}  : am_Ev d 171 49 [some (.ref 231)] [] (fm_mk S) (some (.int (S.1 232 4)), fm_mk S) := by
  refine fs_aloadn (j := 0) (by decide +kernel) rfl ?_
  refine fe_getR (idx := 7) (t := 8) (f := 0) (fk := 2) (fin := 1) (wp := 943) (x := 232) (by decide +kernel) (by decide +kernel) (by decide +kernel) (by decide +kernel) (by decide +kernel) ?_
  refine fs_iconst (n := 4) (v := 4) (by decide +kernel) (by decide) ?_
  refine fx_iald (n := 4) (len := 373) (by decide +kernel) (by decide +kernel) (by decide +kernel) (vp_c (by decide) (by decide)) (by decide) ?_
  exact fe_retI (by decide +kernel) (by decide +kernel)
-- KitchenSiegeModel.of(II)I
theorem b172_0 {d : Nat} {x1 : Int32} {x2 : Int32} {v : Int32} {S1 : fm_S} {S : fm_S} {r : Option Value × am_W} (hc : am_Sp d 142 [.ref 231, .int x1] (fm_mk S) (some (.int v)) (fm_mk S1)) (nx : am_Ev (d + 1) 172 5 [some (.ref 231), some (.int x1), some (.int x2)] [.int v] (fm_mk S1) r) : am_Ev (d + 1) 172 0 [some (.ref 231), some (.int x1), some (.int x2)] [] (fm_mk S) r := by
  refine fs_aloadn (j := 0) (by decide +kernel) rfl ?_
  refine fs_iloadn (j := 1) (by decide +kernel) rfl ?_
  exact fe_callV (idx := 84) (n := 1) (wp := 1033) (q := (1035, 33)) (as := [.int x1]) (rs := []) (by decide +kernel) (by decide +kernel) (by decide +kernel) (by decide +kernel) rfl (Nat.le_of_ble_eq_true rfl) rfl hc nx
theorem b172_5 {d : Nat} {x1 : Int32} {x2 : Int32} {sx0 : Int32} {S : fm_S} {r : Option Value × am_W} (kt : sx0 = 0 → am_Ev d 172 20 [some (.ref 231), some (.int x1), some (.int x2)] [] (fm_mk S) r) (kf : ¬ sx0 = 0 → am_Ev d 172 8 [some (.ref 231), some (.int x1), some (.int x2)] [] (fm_mk S) r) : am_Ev d 172 5 [some (.ref 231), some (.int x1), some (.int x2)] [.int sx0] (fm_mk S) r := by
  exact fs_ifeq (off := 15) (tgt := 20) (by decide +kernel) (by decide) kt kf
theorem b172_8 {d : Nat} {x1 : Int32} {x2 : Int32} {v : Int32} {S1 : fm_S} {S : fm_S} {r : Option Value × am_W} (hc : am_Sp d 137 [.long x2.toInt64, .long 0, .long 5] (fm_mk S) (some (.int v)) (fm_mk S1)) (nx : am_Ev (d + 1) 172 17 [some (.ref 231), some (.int x1), some (.int x2)] [.int v] (fm_mk S1) r) : am_Ev (d + 1) 172 8 [some (.ref 231), some (.int x1), some (.int x2)] [] (fm_mk S) r := by
  refine fs_iloadn (j := 2) (by decide +kernel) rfl ?_
  refine fs_i2l (by decide +kernel) ?_
  refine fs_lconst (n := 0) (v := 0) (by decide +kernel) (by decide) ?_
  refine fs_ldc2 (idx := 65) (q := 1013) (v := 5) (by decide +kernel) (by decide +kernel) ?_
  exact fe_callS (idx := 67) (kd := 0) (n := 3) (wp := 1014) (q := (1015, 0)) (as := [.long x2.toInt64, .long 0, .long 5]) (rs := []) (by decide +kernel) (by decide +kernel) (by decide +kernel) (by decide) rfl (Nat.le_of_ble_eq_true rfl) rfl hc nx
theorem b172_17 {d : Nat} {x1 : Int32} {x2 : Int32} {sx0 : Int32} {S : fm_S} {r : Option Value × am_W} (kt : ¬ sx0 = 0 → am_Ev d 172 25 [some (.ref 231), some (.int x1), some (.int x2)] [] (fm_mk S) r) (kf : sx0 = 0 → am_Ev d 172 20 [some (.ref 231), some (.int x1), some (.int x2)] [] (fm_mk S) r) : am_Ev d 172 17 [some (.ref 231), some (.int x1), some (.int x2)] [.int sx0] (fm_mk S) r := by
  exact fs_ifne (off := 8) (tgt := 25) (by decide +kernel) (by decide) kt kf
theorem b172_20 {d : Nat} {x1 : Int32} {x2 : Int32} {v : Int32} {S1 : fm_S} {S : fm_S} {r : Option Value × am_W} (hc : am_Sp d 173 [.ref 231] (fm_mk S) (some (.int v)) (fm_mk S1)) (nx : am_Ev (d + 1) 172 24 [some (.ref 231), some (.int x1), some (.int x2)] [.int v] (fm_mk S1) r) : am_Ev (d + 1) 172 20 [some (.ref 231), some (.int x1), some (.int x2)] [] (fm_mk S) r := by
  refine fs_aloadn (j := 0) (by decide +kernel) rfl ?_
  exact fe_callV (idx := 201) (n := 0) (wp := 1166) (q := (1168, 49)) (as := []) (rs := []) (by decide +kernel) (by decide +kernel) (by decide +kernel) (by decide +kernel) rfl (Nat.le_of_ble_eq_true rfl) rfl hc nx
theorem b172_24 {d : Nat} {x1 : Int32} {x2 : Int32} {sx0 : Int32} {S : fm_S}  : am_Ev d 172 24 [some (.ref 231), some (.int x1), some (.int x2)] [.int sx0] (fm_mk S) (some (.int sx0), fm_mk S) := by
  exact fe_retI (by decide +kernel) (by decide +kernel)
theorem b172_25 {d : Nat} {x1 : Int32} {x2 : Int32} {S : fm_S}  (hi0 : vp_in ((5 + (8 * x2)) + x1) 373) : am_Ev d 172 25 [some (.ref 231), some (.int x1), some (.int x2)] [] (fm_mk S) (some (.int (S.1 232 (((5 + (8 * x2)) + x1).toNatClampNeg))), fm_mk S) := by
  refine fs_aloadn (j := 0) (by decide +kernel) rfl ?_
  refine fe_getR (idx := 7) (t := 8) (f := 0) (fk := 2) (fin := 1) (wp := 943) (x := 232) (by decide +kernel) (by decide +kernel) (by decide +kernel) (by decide +kernel) (by decide +kernel) ?_
  refine fs_iconst (n := 5) (v := 5) (by decide +kernel) (by decide) ?_
  refine fs_bipush (n := 8) (v := 8) (by decide +kernel) (by decide) ?_
  refine fs_iloadn (j := 2) (by decide +kernel) rfl ?_
  refine fs_imul (by decide +kernel) ?_
  refine fs_iadd (by decide +kernel) ?_
  refine fs_iloadn (j := 1) (by decide +kernel) rfl ?_
  refine fs_iadd (by decide +kernel) ?_
  refine fx_iald (n := ((5 + (8 * x2)) + x1).toNatClampNeg) (len := 373) (by decide +kernel) (by decide +kernel) (by decide +kernel) hi0 rfl ?_
  exact fe_retI (by decide +kernel) (by decide +kernel)
-- KitchenSiegeModel.bad10()I
theorem b173_0 {d : Nat} {S : fm_S}  : am_Ev d 173 0 [some (.ref 231)] [] (fm_mk S) (some (.int (-10)), fm_mk (fm_wI S 231 8 ((S.1 231 8) + 1))) := by
  refine fs_aloadn (j := 0) (by decide +kernel) rfl ?_
  refine fs_dup (by decide +kernel) rfl ?_
  refine fe_getI (idx := 55) (t := 8) (f := 8) (fk := 0) (fin := 0) (wp := 951) (by decide +kernel) (by decide +kernel) (by decide +kernel) (by decide +kernel) ?_
  refine fs_iconst (n := 1) (v := 1) (by decide +kernel) (by decide) ?_
  refine fs_iadd (by decide +kernel) ?_
  refine fe_putI (idx := 55) (t := 8) (f := 8) (wp := 951) (by decide +kernel) (by decide +kernel) (by decide +kernel) (by decide +kernel) ?_
  refine fs_bipush (n := -10) (v := (-10)) (by decide +kernel) (by decide) ?_
  exact fe_retI (by decide +kernel) (by decide +kernel)
-- KitchenSiegeModel.smells(III)I
theorem b174_0 {d : Nat} {x1 : Int32} {x2 : Int32} {x3 : Int32} {v : Int32} {S1 : fm_S} {S : fm_S} {r : Option Value × am_W} (hc : am_Sp d 162 [.ref 231, .int x1] (fm_mk S) (some (.int v)) (fm_mk S1)) (nx : am_Ev (d + 1) 174 5 [some (.ref 231), some (.int x1), some (.int x2), some (.int x3)] [.int v] (fm_mk S1) r) : am_Ev (d + 1) 174 0 [some (.ref 231), some (.int x1), some (.int x2), some (.int x3)] [] (fm_mk S) r := by
  refine fs_aloadn (j := 0) (by decide +kernel) rfl ?_
  refine fs_iloadn (j := 1) (by decide +kernel) rfl ?_
  exact fe_callV (idx := 172) (n := 1) (wp := 1125) (q := (1127, 43)) (as := [.int x1]) (rs := []) (by decide +kernel) (by decide +kernel) (by decide +kernel) (by decide +kernel) rfl (Nat.le_of_ble_eq_true rfl) rfl hc nx
theorem b174_5 {d : Nat} {x1 : Int32} {x2 : Int32} {x3 : Int32} {sx0 : Int32} {S : fm_S} {r : Option Value × am_W} (kt : sx0 = 0 → am_Ev d 174 28 [some (.ref 231), some (.int x1), some (.int x2), some (.int x3)] [] (fm_mk S) r) (kf : ¬ sx0 = 0 → am_Ev d 174 8 [some (.ref 231), some (.int x1), some (.int x2), some (.int x3)] [] (fm_mk S) r) : am_Ev d 174 5 [some (.ref 231), some (.int x1), some (.int x2), some (.int x3)] [.int sx0] (fm_mk S) r := by
  exact fs_ifeq (off := 23) (tgt := 28) (by decide +kernel) (by decide) kt kf
theorem b174_8 {d : Nat} {x1 : Int32} {x2 : Int32} {x3 : Int32} {v : Int32} {S1 : fm_S} {S : fm_S} {r : Option Value × am_W} (hc : am_Sp d 137 [.long x2.toInt64, .long 0, .long 3] (fm_mk S) (some (.int v)) (fm_mk S1)) (nx : am_Ev (d + 1) 174 17 [some (.ref 231), some (.int x1), some (.int x2), some (.int x3)] [.int v] (fm_mk S1) r) : am_Ev (d + 1) 174 8 [some (.ref 231), some (.int x1), some (.int x2), some (.int x3)] [] (fm_mk S) r := by
  refine fs_iloadn (j := 2) (by decide +kernel) rfl ?_
  refine fs_i2l (by decide +kernel) ?_
  refine fs_lconst (n := 0) (v := 0) (by decide +kernel) (by decide) ?_
  refine fs_ldc2 (idx := 95) (q := 1048) (v := 3) (by decide +kernel) (by decide +kernel) ?_
  exact fe_callS (idx := 67) (kd := 0) (n := 3) (wp := 1014) (q := (1015, 0)) (as := [.long x2.toInt64, .long 0, .long 3]) (rs := []) (by decide +kernel) (by decide +kernel) (by decide +kernel) (by decide) rfl (Nat.le_of_ble_eq_true rfl) rfl hc nx
theorem b174_17 {d : Nat} {x1 : Int32} {x2 : Int32} {x3 : Int32} {sx0 : Int32} {S : fm_S} {r : Option Value × am_W} (kt : sx0 = 0 → am_Ev d 174 28 [some (.ref 231), some (.int x1), some (.int x2), some (.int x3)] [] (fm_mk S) r) (kf : ¬ sx0 = 0 → am_Ev d 174 20 [some (.ref 231), some (.int x1), some (.int x2), some (.int x3)] [] (fm_mk S) r) : am_Ev d 174 17 [some (.ref 231), some (.int x1), some (.int x2), some (.int x3)] [.int sx0] (fm_mk S) r := by
  exact fs_ifeq (off := 11) (tgt := 28) (by decide +kernel) (by decide) kt kf
theorem b174_20 {d : Nat} {x1 : Int32} {x2 : Int32} {x3 : Int32} {v : Int32} {S1 : fm_S} {S : fm_S} {r : Option Value × am_W} (hc : am_Sp d 142 [.ref 231, .int x3] (fm_mk S) (some (.int v)) (fm_mk S1)) (nx : am_Ev (d + 1) 174 25 [some (.ref 231), some (.int x1), some (.int x2), some (.int x3)] [.int v] (fm_mk S1) r) : am_Ev (d + 1) 174 20 [some (.ref 231), some (.int x1), some (.int x2), some (.int x3)] [] (fm_mk S) r := by
  refine fs_aloadn (j := 0) (by decide +kernel) rfl ?_
  refine fs_iloadn (j := 3) (by decide +kernel) rfl ?_
  exact fe_callV (idx := 84) (n := 1) (wp := 1033) (q := (1035, 33)) (as := [.int x3]) (rs := []) (by decide +kernel) (by decide +kernel) (by decide +kernel) (by decide +kernel) rfl (Nat.le_of_ble_eq_true rfl) rfl hc nx
theorem b174_25 {d : Nat} {x1 : Int32} {x2 : Int32} {x3 : Int32} {sx0 : Int32} {S : fm_S} {r : Option Value × am_W} (kt : ¬ sx0 = 0 → am_Ev d 174 33 [some (.ref 231), some (.int x1), some (.int x2), some (.int x3)] [] (fm_mk S) r) (kf : sx0 = 0 → am_Ev d 174 28 [some (.ref 231), some (.int x1), some (.int x2), some (.int x3)] [] (fm_mk S) r) : am_Ev d 174 25 [some (.ref 231), some (.int x1), some (.int x2), some (.int x3)] [.int sx0] (fm_mk S) r := by
  exact fs_ifne (off := 8) (tgt := 33) (by decide +kernel) (by decide) kt kf
theorem b174_28 {d : Nat} {x1 : Int32} {x2 : Int32} {x3 : Int32} {v : Int32} {S1 : fm_S} {S : fm_S} {r : Option Value × am_W} (hc : am_Sp d 138 [.ref 231] (fm_mk S) (some (.int v)) (fm_mk S1)) (nx : am_Ev (d + 1) 174 32 [some (.ref 231), some (.int x1), some (.int x2), some (.int x3)] [.int v] (fm_mk S1) r) : am_Ev (d + 1) 174 28 [some (.ref 231), some (.int x1), some (.int x2), some (.int x3)] [] (fm_mk S) r := by
  refine fs_aloadn (j := 0) (by decide +kernel) rfl ?_
  exact fe_callV (idx := 73) (n := 0) (wp := 1018) (q := (1020, 31)) (as := []) (rs := []) (by decide +kernel) (by decide +kernel) (by decide +kernel) (by decide +kernel) rfl (Nat.le_of_ble_eq_true rfl) rfl hc nx
theorem b174_32 {d : Nat} {x1 : Int32} {x2 : Int32} {x3 : Int32} {sx0 : Int32} {S : fm_S}  : am_Ev d 174 32 [some (.ref 231), some (.int x1), some (.int x2), some (.int x3)] [.int sx0] (fm_mk S) (some (.int sx0), fm_mk S) := by
  exact fe_retI (by decide +kernel) (by decide +kernel)
theorem b174_33 {d : Nat} {x1 : Int32} {x2 : Int32} {x3 : Int32} {S1 : fm_S} {S : fm_S} {r : Option Value × am_W} (hi0 : vp_in (131 + x1) 373) (hc : am_Sp d 167 [.ref 231, .int (S.1 232 ((131 + x1).toNatClampNeg)), .int x2, .int (-1), .int 0] (fm_mk S) (none) (fm_mk S1)) (nx : am_Ev (d + 1) 174 50 [some (.ref 231), some (.int x1), some (.int x2), some (.int x3)] [] (fm_mk S1) r) : am_Ev (d + 1) 174 33 [some (.ref 231), some (.int x1), some (.int x2), some (.int x3)] [] (fm_mk S) r := by
  refine fs_aloadn (j := 0) (by decide +kernel) rfl ?_
  refine fs_aloadn (j := 0) (by decide +kernel) rfl ?_
  refine fe_getR (idx := 7) (t := 8) (f := 0) (fk := 2) (fin := 1) (wp := 943) (x := 232) (by decide +kernel) (by decide +kernel) (by decide +kernel) (by decide +kernel) (by decide +kernel) ?_
  refine fs_sipush (n := 131) (v := 131) (by decide +kernel) (by decide) ?_
  refine fs_iloadn (j := 1) (by decide +kernel) rfl ?_
  refine fs_iadd (by decide +kernel) ?_
  refine fx_iald (n := (131 + x1).toNatClampNeg) (len := 373) (by decide +kernel) (by decide +kernel) (by decide +kernel) hi0 rfl ?_
  refine fs_iloadn (j := 2) (by decide +kernel) rfl ?_
  refine fs_iconst (n := -1) (v := (-1)) (by decide +kernel) (by decide) ?_
  refine fs_iconst (n := 0) (v := 0) (by decide +kernel) (by decide) ?_
  exact fe_callV (idx := 178) (n := 4) (wp := 1144) (q := (1146, 47)) (as := [.int (S.1 232 ((131 + x1).toNatClampNeg)), .int x2, .int (-1), .int 0]) (rs := []) (by decide +kernel) (by decide +kernel) (by decide +kernel) (by decide +kernel) rfl (Nat.le_of_ble_eq_true rfl) rfl hc nx
theorem b174_50 {d : Nat} {x1 : Int32} {x2 : Int32} {x3 : Int32} {S : fm_S}  (hi0 : vp_in x3 8) : am_Ev d 174 50 [some (.ref 231), some (.int x1), some (.int x2), some (.int x3)] [] (fm_mk S) (some (.int (S.1 238 x3.toNatClampNeg)), fm_mk S) := by
  refine fs_aloadn (j := 0) (by decide +kernel) rfl ?_
  refine fe_getR (idx := 28) (t := 8) (f := 14) (fk := 2) (fin := 1) (wp := 957) (x := 238) (by decide +kernel) (by decide +kernel) (by decide +kernel) (by decide +kernel) (by decide +kernel) ?_
  refine fs_iloadn (j := 3) (by decide +kernel) rfl ?_
  refine fx_iald (n := x3.toNatClampNeg) (len := 8) (by decide +kernel) (by decide +kernel) (by decide +kernel) hi0 rfl ?_
  exact fe_retI (by decide +kernel) (by decide +kernel)
-- KitchenSiegeModel.moved(II)I
theorem b175_0 {d : Nat} {x1 : Int32} {x2 : Int32} {v : Int32} {S1 : fm_S} {S : fm_S} {r : Option Value × am_W} (hc : am_Sp d 162 [.ref 231, .int x1] (fm_mk S) (some (.int v)) (fm_mk S1)) (nx : am_Ev (d + 1) 175 5 [some (.ref 231), some (.int x1), some (.int x2)] [.int v] (fm_mk S1) r) : am_Ev (d + 1) 175 0 [some (.ref 231), some (.int x1), some (.int x2)] [] (fm_mk S) r := by
  refine fs_aloadn (j := 0) (by decide +kernel) rfl ?_
  refine fs_iloadn (j := 1) (by decide +kernel) rfl ?_
  exact fe_callV (idx := 172) (n := 1) (wp := 1125) (q := (1127, 43)) (as := [.int x1]) (rs := []) (by decide +kernel) (by decide +kernel) (by decide +kernel) (by decide +kernel) rfl (Nat.le_of_ble_eq_true rfl) rfl hc nx
theorem b175_5 {d : Nat} {x1 : Int32} {x2 : Int32} {sx0 : Int32} {S : fm_S} {r : Option Value × am_W} (kt : sx0 = 0 → am_Ev d 175 16 [some (.ref 231), some (.int x1), some (.int x2)] [] (fm_mk S) r) (kf : ¬ sx0 = 0 → am_Ev d 175 8 [some (.ref 231), some (.int x1), some (.int x2)] [] (fm_mk S) r) : am_Ev d 175 5 [some (.ref 231), some (.int x1), some (.int x2)] [.int sx0] (fm_mk S) r := by
  exact fs_ifeq (off := 11) (tgt := 16) (by decide +kernel) (by decide) kt kf
theorem b175_8 {d : Nat} {x1 : Int32} {x2 : Int32} {v : Int32} {S1 : fm_S} {S : fm_S} {r : Option Value × am_W} (hc : am_Sp d 142 [.ref 231, .int x2] (fm_mk S) (some (.int v)) (fm_mk S1)) (nx : am_Ev (d + 1) 175 13 [some (.ref 231), some (.int x1), some (.int x2)] [.int v] (fm_mk S1) r) : am_Ev (d + 1) 175 8 [some (.ref 231), some (.int x1), some (.int x2)] [] (fm_mk S) r := by
  refine fs_aloadn (j := 0) (by decide +kernel) rfl ?_
  refine fs_iloadn (j := 2) (by decide +kernel) rfl ?_
  exact fe_callV (idx := 84) (n := 1) (wp := 1033) (q := (1035, 33)) (as := [.int x2]) (rs := []) (by decide +kernel) (by decide +kernel) (by decide +kernel) (by decide +kernel) rfl (Nat.le_of_ble_eq_true rfl) rfl hc nx
theorem b175_13 {d : Nat} {x1 : Int32} {x2 : Int32} {sx0 : Int32} {S : fm_S} {r : Option Value × am_W} (kt : ¬ sx0 = 0 → am_Ev d 175 21 [some (.ref 231), some (.int x1), some (.int x2)] [] (fm_mk S) r) (kf : sx0 = 0 → am_Ev d 175 16 [some (.ref 231), some (.int x1), some (.int x2)] [] (fm_mk S) r) : am_Ev d 175 13 [some (.ref 231), some (.int x1), some (.int x2)] [.int sx0] (fm_mk S) r := by
  exact fs_ifne (off := 8) (tgt := 21) (by decide +kernel) (by decide) kt kf
theorem b175_16 {d : Nat} {x1 : Int32} {x2 : Int32} {v : Int32} {S1 : fm_S} {S : fm_S} {r : Option Value × am_W} (hc : am_Sp d 138 [.ref 231] (fm_mk S) (some (.int v)) (fm_mk S1)) (nx : am_Ev (d + 1) 175 20 [some (.ref 231), some (.int x1), some (.int x2)] [.int v] (fm_mk S1) r) : am_Ev (d + 1) 175 16 [some (.ref 231), some (.int x1), some (.int x2)] [] (fm_mk S) r := by
  refine fs_aloadn (j := 0) (by decide +kernel) rfl ?_
  exact fe_callV (idx := 73) (n := 0) (wp := 1018) (q := (1020, 31)) (as := []) (rs := []) (by decide +kernel) (by decide +kernel) (by decide +kernel) (by decide +kernel) rfl (Nat.le_of_ble_eq_true rfl) rfl hc nx
theorem b175_20 {d : Nat} {x1 : Int32} {x2 : Int32} {sx0 : Int32} {S : fm_S}  : am_Ev d 175 20 [some (.ref 231), some (.int x1), some (.int x2)] [.int sx0] (fm_mk S) (some (.int sx0), fm_mk S) := by
  exact fe_retI (by decide +kernel) (by decide +kernel)
theorem b175_21 {d : Nat} {x1 : Int32} {x2 : Int32} {v : Int32} {S1 : fm_S} {S : fm_S} {r : Option Value × am_W} (hi0 : vp_in (131 + x1) 373) (hc : am_Sp d 166 [.ref 231, .int (S.1 232 4)] (fm_mk S) (some (.int v)) (fm_mk S1)) (nx : am_Ev (d + 1) 175 42 [some (.ref 231), some (.int x1), some (.int x2)] [.int v, .int (S.1 232 ((131 + x1).toNatClampNeg)), .ref 231] (fm_mk S1) r) : am_Ev (d + 1) 175 21 [some (.ref 231), some (.int x1), some (.int x2)] [] (fm_mk S) r := by
  refine fs_aloadn (j := 0) (by decide +kernel) rfl ?_
  refine fs_aloadn (j := 0) (by decide +kernel) rfl ?_
  refine fe_getR (idx := 7) (t := 8) (f := 0) (fk := 2) (fin := 1) (wp := 943) (x := 232) (by decide +kernel) (by decide +kernel) (by decide +kernel) (by decide +kernel) (by decide +kernel) ?_
  refine fs_sipush (n := 131) (v := 131) (by decide +kernel) (by decide) ?_
  refine fs_iloadn (j := 1) (by decide +kernel) rfl ?_
  refine fs_iadd (by decide +kernel) ?_
  refine fx_iald (n := (131 + x1).toNatClampNeg) (len := 373) (by decide +kernel) (by decide +kernel) (by decide +kernel) hi0 rfl ?_
  refine fs_aloadn (j := 0) (by decide +kernel) rfl ?_
  refine fs_aloadn (j := 0) (by decide +kernel) rfl ?_
  refine fe_getR (idx := 7) (t := 8) (f := 0) (fk := 2) (fin := 1) (wp := 943) (x := 232) (by decide +kernel) (by decide +kernel) (by decide +kernel) (by decide +kernel) (by decide +kernel) ?_
  refine fs_iconst (n := 4) (v := 4) (by decide +kernel) (by decide) ?_
  refine fx_iald (n := 4) (len := 373) (by decide +kernel) (by decide +kernel) (by decide +kernel) (vp_c (by decide) (by decide)) (by decide) ?_
  exact fe_callV (idx := 175) (n := 1) (wp := 1140) (q := (1142, 46)) (as := [.int (S.1 232 4)]) (rs := [.int (S.1 232 ((131 + x1).toNatClampNeg)), .ref 231]) (by decide +kernel) (by decide +kernel) (by decide +kernel) (by decide +kernel) rfl (Nat.le_of_ble_eq_true rfl) rfl hc nx
theorem b175_42 {d : Nat} {x1 : Int32} {x2 : Int32} {sx1 : Int32} {sx2 : Int32} {S1 : fm_S} {S : fm_S} {r : Option Value × am_W} (hc : am_Sp d 167 [.ref 231, .int sx1, .int sx2, .int (-1), .int 0] (fm_mk S) (none) (fm_mk S1)) (nx : am_Ev (d + 1) 175 47 [some (.ref 231), some (.int x1), some (.int x2)] [] (fm_mk S1) r) : am_Ev (d + 1) 175 42 [some (.ref 231), some (.int x1), some (.int x2)] [.int sx2, .int sx1, .ref 231] (fm_mk S) r := by
  refine fs_iconst (n := -1) (v := (-1)) (by decide +kernel) (by decide) ?_
  refine fs_iconst (n := 0) (v := 0) (by decide +kernel) (by decide) ?_
  exact fe_callV (idx := 178) (n := 4) (wp := 1144) (q := (1146, 47)) (as := [.int sx1, .int sx2, .int (-1), .int 0]) (rs := []) (by decide +kernel) (by decide +kernel) (by decide +kernel) (by decide +kernel) rfl (Nat.le_of_ble_eq_true rfl) rfl hc nx
theorem b175_47 {d : Nat} {x1 : Int32} {x2 : Int32} {v : Int32} {S1 : fm_S} {S : fm_S} {r : Option Value × am_W} (hi0 : vp_in (125 + x1) 373) (hi1 : vp_in x2 8) (hc : am_Sp d 168 [.ref 231, .int x2, .int (S.1 232 ((125 + x1).toNatClampNeg)), .int (S.1 238 x2.toNatClampNeg), .int (S.1 232 4)] (fm_mk S) (some (.int v)) (fm_mk S1)) (nx : am_Ev (d + 1) 175 73 [some (.ref 231), some (.int x1), some (.int x2)] [.int v] (fm_mk S1) r) : am_Ev (d + 1) 175 47 [some (.ref 231), some (.int x1), some (.int x2)] [] (fm_mk S) r := by
  refine fs_aloadn (j := 0) (by decide +kernel) rfl ?_
  refine fs_iloadn (j := 2) (by decide +kernel) rfl ?_
  refine fs_aloadn (j := 0) (by decide +kernel) rfl ?_
  refine fe_getR (idx := 7) (t := 8) (f := 0) (fk := 2) (fin := 1) (wp := 943) (x := 232) (by decide +kernel) (by decide +kernel) (by decide +kernel) (by decide +kernel) (by decide +kernel) ?_
  refine fs_bipush (n := 125) (v := 125) (by decide +kernel) (by decide) ?_
  refine fs_iloadn (j := 1) (by decide +kernel) rfl ?_
  refine fs_iadd (by decide +kernel) ?_
  refine fx_iald (n := (125 + x1).toNatClampNeg) (len := 373) (by decide +kernel) (by decide +kernel) (by decide +kernel) hi0 rfl ?_
  refine fs_aloadn (j := 0) (by decide +kernel) rfl ?_
  refine fe_getR (idx := 28) (t := 8) (f := 14) (fk := 2) (fin := 1) (wp := 957) (x := 238) (by decide +kernel) (by decide +kernel) (by decide +kernel) (by decide +kernel) (by decide +kernel) ?_
  refine fs_iloadn (j := 2) (by decide +kernel) rfl ?_
  refine fx_iald (n := x2.toNatClampNeg) (len := 8) (by decide +kernel) (by decide +kernel) (by decide +kernel) hi1 rfl ?_
  refine fs_aloadn (j := 0) (by decide +kernel) rfl ?_
  refine fe_getR (idx := 7) (t := 8) (f := 0) (fk := 2) (fin := 1) (wp := 943) (x := 232) (by decide +kernel) (by decide +kernel) (by decide +kernel) (by decide +kernel) (by decide +kernel) ?_
  refine fs_iconst (n := 4) (v := 4) (by decide +kernel) (by decide) ?_
  refine fx_iald (n := 4) (len := 373) (by decide +kernel) (by decide +kernel) (by decide +kernel) (vp_c (by decide) (by decide)) (by decide) ?_
  exact fe_callV (idx := 182) (n := 4) (wp := 1148) (q := (1150, 48)) (as := [.int x2, .int (S.1 232 ((125 + x1).toNatClampNeg)), .int (S.1 238 x2.toNatClampNeg), .int (S.1 232 4)]) (rs := []) (by decide +kernel) (by decide +kernel) (by decide +kernel) (by decide +kernel) rfl (Nat.le_of_ble_eq_true rfl) rfl hc nx
theorem b175_73 {d : Nat} {x1 : Int32} {x2 : Int32} {sx0 : Int32} {S : fm_S}  : am_Ev d 175 73 [some (.ref 231), some (.int x1), some (.int x2)] [.int sx0] (fm_mk S) (some (.int sx0), fm_mk S) := by
  exact fe_retI (by decide +kernel) (by decide +kernel)
-- KitchenSiegeModel.falls(II)I
theorem b176_0 {d : Nat} {x1 : Int32} {x2 : Int32} {o3 : Option Value} {v : Int32} {S1 : fm_S} {S : fm_S} {r : Option Value × am_W} (hc : am_Sp d 162 [.ref 231, .int x1] (fm_mk S) (some (.int v)) (fm_mk S1)) (nx : am_Ev (d + 1) 176 5 [some (.ref 231), some (.int x1), some (.int x2), o3] [.int v] (fm_mk S1) r) : am_Ev (d + 1) 176 0 [some (.ref 231), some (.int x1), some (.int x2), o3] [] (fm_mk S) r := by
  refine fs_aloadn (j := 0) (by decide +kernel) rfl ?_
  refine fs_iloadn (j := 1) (by decide +kernel) rfl ?_
  exact fe_callV (idx := 172) (n := 1) (wp := 1125) (q := (1127, 43)) (as := [.int x1]) (rs := []) (by decide +kernel) (by decide +kernel) (by decide +kernel) (by decide +kernel) rfl (Nat.le_of_ble_eq_true rfl) rfl hc nx
theorem b176_5 {d : Nat} {x1 : Int32} {x2 : Int32} {o3 : Option Value} {sx0 : Int32} {S : fm_S} {r : Option Value × am_W} (kt : sx0 = 0 → am_Ev d 176 16 [some (.ref 231), some (.int x1), some (.int x2), o3] [] (fm_mk S) r) (kf : ¬ sx0 = 0 → am_Ev d 176 8 [some (.ref 231), some (.int x1), some (.int x2), o3] [] (fm_mk S) r) : am_Ev d 176 5 [some (.ref 231), some (.int x1), some (.int x2), o3] [.int sx0] (fm_mk S) r := by
  exact fs_ifeq (off := 11) (tgt := 16) (by decide +kernel) (by decide) kt kf
theorem b176_8 {d : Nat} {x1 : Int32} {x2 : Int32} {o3 : Option Value} {v : Int32} {S1 : fm_S} {S : fm_S} {r : Option Value × am_W} (hc : am_Sp d 142 [.ref 231, .int x2] (fm_mk S) (some (.int v)) (fm_mk S1)) (nx : am_Ev (d + 1) 176 13 [some (.ref 231), some (.int x1), some (.int x2), o3] [.int v] (fm_mk S1) r) : am_Ev (d + 1) 176 8 [some (.ref 231), some (.int x1), some (.int x2), o3] [] (fm_mk S) r := by
  refine fs_aloadn (j := 0) (by decide +kernel) rfl ?_
  refine fs_iloadn (j := 2) (by decide +kernel) rfl ?_
  exact fe_callV (idx := 84) (n := 1) (wp := 1033) (q := (1035, 33)) (as := [.int x2]) (rs := []) (by decide +kernel) (by decide +kernel) (by decide +kernel) (by decide +kernel) rfl (Nat.le_of_ble_eq_true rfl) rfl hc nx
theorem b176_13 {d : Nat} {x1 : Int32} {x2 : Int32} {o3 : Option Value} {sx0 : Int32} {S : fm_S} {r : Option Value × am_W} (kt : ¬ sx0 = 0 → am_Ev d 176 21 [some (.ref 231), some (.int x1), some (.int x2), o3] [] (fm_mk S) r) (kf : sx0 = 0 → am_Ev d 176 16 [some (.ref 231), some (.int x1), some (.int x2), o3] [] (fm_mk S) r) : am_Ev d 176 13 [some (.ref 231), some (.int x1), some (.int x2), o3] [.int sx0] (fm_mk S) r := by
  exact fs_ifne (off := 8) (tgt := 21) (by decide +kernel) (by decide) kt kf
theorem b176_16 {d : Nat} {x1 : Int32} {x2 : Int32} {o3 : Option Value} {v : Int32} {S1 : fm_S} {S : fm_S} {r : Option Value × am_W} (hc : am_Sp d 138 [.ref 231] (fm_mk S) (some (.int v)) (fm_mk S1)) (nx : am_Ev (d + 1) 176 20 [some (.ref 231), some (.int x1), some (.int x2), o3] [.int v] (fm_mk S1) r) : am_Ev (d + 1) 176 16 [some (.ref 231), some (.int x1), some (.int x2), o3] [] (fm_mk S) r := by
  refine fs_aloadn (j := 0) (by decide +kernel) rfl ?_
  exact fe_callV (idx := 73) (n := 0) (wp := 1018) (q := (1020, 31)) (as := []) (rs := []) (by decide +kernel) (by decide +kernel) (by decide +kernel) (by decide +kernel) rfl (Nat.le_of_ble_eq_true rfl) rfl hc nx
theorem b176_20 {d : Nat} {x1 : Int32} {x2 : Int32} {o3 : Option Value} {sx0 : Int32} {S : fm_S}  : am_Ev d 176 20 [some (.ref 231), some (.int x1), some (.int x2), o3] [.int sx0] (fm_mk S) (some (.int sx0), fm_mk S) := by
  exact fe_retI (by decide +kernel) (by decide +kernel)
theorem b176_21 {d : Nat} {x1 : Int32} {x2 : Int32} {o3 : Option Value} {S1 : fm_S} {S : fm_S} {r : Option Value × am_W} (hc : am_Sp d 163 [.ref 232, .ref 239, .int 0, .int 0] (fm_mk S) (none) (fm_mk S1)) (nx : am_Ev (d + 1) 176 34 [some (.ref 231), some (.int x1), some (.int x2), o3] [] (fm_mk S1) r) : am_Ev (d + 1) 176 21 [some (.ref 231), some (.int x1), some (.int x2), o3] [] (fm_mk S) r := by
  refine fs_aloadn (j := 0) (by decide +kernel) rfl ?_
  refine fe_getR (idx := 7) (t := 8) (f := 0) (fk := 2) (fin := 1) (wp := 943) (x := 232) (by decide +kernel) (by decide +kernel) (by decide +kernel) (by decide +kernel) (by decide +kernel) ?_
  refine fs_aloadn (j := 0) (by decide +kernel) rfl ?_
  refine fe_getR (idx := 31) (t := 8) (f := 15) (fk := 2) (fin := 1) (wp := 958) (x := 239) (by decide +kernel) (by decide +kernel) (by decide +kernel) (by decide +kernel) (by decide +kernel) ?_
  refine fs_iconst (n := 0) (v := 0) (by decide +kernel) (by decide) ?_
  refine fs_iconst (n := 0) (v := 0) (by decide +kernel) (by decide) ?_
  exact fe_callS (idx := 194) (kd := 0) (n := 4) (wp := 1129) (q := (1130, 0)) (as := [.ref 232, .ref 239, .int 0, .int 0]) (rs := []) (by decide +kernel) (by decide +kernel) (by decide +kernel) (by decide) rfl (Nat.le_of_ble_eq_true rfl) rfl hc nx
theorem b176_34 {d : Nat} {x1 : Int32} {x2 : Int32} {o3 : Option Value} {S : fm_S} {r : Option Value × am_W} (nx : am_Ev d 176 36 [some (.ref 231), some (.int x1), some (.int x2), some (.int 0)] [] (fm_mk S) r) : am_Ev d 176 34 [some (.ref 231), some (.int x1), some (.int x2), o3] [] (fm_mk S) r := by
  refine fs_iconst (n := 0) (v := 0) (by decide +kernel) (by decide) ?_
  refine fs_istoren (j := 3) (L' := [some (.ref 231), some (.int x1), some (.int x2), some (.int 0)]) (by decide +kernel) (Nat.le_of_ble_eq_true rfl) rfl ?_
  exact nx
theorem b176_36 {d : Nat} {x1 : Int32} {x2 : Int32} {x3 : Int32} {S : fm_S} {r : Option Value × am_W} (kt : 31 ≤ x3 → am_Ev d 176 67 [some (.ref 231), some (.int x1), some (.int x2), some (.int x3)] [] (fm_mk S) r) (kf : ¬ 31 ≤ x3 → am_Ev d 176 42 [some (.ref 231), some (.int x1), some (.int x2), some (.int x3)] [] (fm_mk S) r) : am_Ev d 176 36 [some (.ref 231), some (.int x1), some (.int x2), some (.int x3)] [] (fm_mk S) r := by
  refine fs_iloadn (j := 3) (by decide +kernel) rfl ?_
  refine fs_bipush (n := 31) (v := 31) (by decide +kernel) (by decide) ?_
  exact fs_icge (off := 28) (tgt := 67) (by decide +kernel) (by decide) kt kf
theorem b176_42 {d : Nat} {x1 : Int32} {x2 : Int32} {x3 : Int32} {S : fm_S} {r : Option Value × am_W} (hi0 : vp_in (29 + x2) 373) (kt : ¬ (S.1 232 ((29 + x2).toNatClampNeg)) = (-1) → am_Ev d 176 67 [some (.ref 231), some (.int x1), some (.int x2), some (.int x3)] [] (fm_mk S) r) (kf : (S.1 232 ((29 + x2).toNatClampNeg)) = (-1) → am_Ev d 176 55 [some (.ref 231), some (.int x1), some (.int x2), some (.int x3)] [] (fm_mk S) r) : am_Ev d 176 42 [some (.ref 231), some (.int x1), some (.int x2), some (.int x3)] [] (fm_mk S) r := by
  refine fs_aloadn (j := 0) (by decide +kernel) rfl ?_
  refine fe_getR (idx := 7) (t := 8) (f := 0) (fk := 2) (fin := 1) (wp := 943) (x := 232) (by decide +kernel) (by decide +kernel) (by decide +kernel) (by decide +kernel) (by decide +kernel) ?_
  refine fs_bipush (n := 29) (v := 29) (by decide +kernel) (by decide) ?_
  refine fs_iloadn (j := 2) (by decide +kernel) rfl ?_
  refine fs_iadd (by decide +kernel) ?_
  refine fx_iald (n := (29 + x2).toNatClampNeg) (len := 373) (by decide +kernel) (by decide +kernel) (by decide +kernel) hi0 rfl ?_
  refine fs_iconst (n := -1) (v := (-1)) (by decide +kernel) (by decide) ?_
  exact fs_icne (off := 15) (tgt := 67) (by decide +kernel) (by decide) kt kf
theorem b176_55 {d : Nat} {x1 : Int32} {x2 : Int32} {x3 : Int32} {v : Int32} {S1 : fm_S} {S : fm_S} {r : Option Value × am_W} (hc : am_Sp d 164 [.ref 231, .int x1] (fm_mk S) (some (.int v)) (fm_mk S1)) (nx : am_Ev (d + 1) 176 60 [some (.ref 231), some (.int x1), some (.int x2), some (.int x3)] [.int v] (fm_mk S1) r) : am_Ev (d + 1) 176 55 [some (.ref 231), some (.int x1), some (.int x2), some (.int x3)] [] (fm_mk S) r := by
  refine fs_aloadn (j := 0) (by decide +kernel) rfl ?_
  refine fs_iloadn (j := 1) (by decide +kernel) rfl ?_
  exact fe_callV (idx := 198) (n := 1) (wp := 1132) (q := (1134, 44)) (as := [.int x1]) (rs := []) (by decide +kernel) (by decide +kernel) (by decide +kernel) (by decide +kernel) rfl (Nat.le_of_ble_eq_true rfl) rfl hc nx
theorem b176_60 {d : Nat} {x1 : Int32} {x2 : Int32} {x3 : Int32} {sx0 : Int32} {S : fm_S} {r : Option Value × am_W} (nx : am_Ev d 176 36 [some (.ref 231), some (.int x1), some (.int x2), some (.int (x3 + 1))] [] (fm_mk S) r) : am_Ev d 176 60 [some (.ref 231), some (.int x1), some (.int x2), some (.int x3)] [.int sx0] (fm_mk S) r := by
  refine fs_pop (by decide +kernel) rfl ?_
  refine fs_iinc (j := 3) (n := 1) (v := 1) (L' := [some (.ref 231), some (.int x1), some (.int x2), some (.int (x3 + 1))]) (by decide +kernel) rfl (Nat.le_of_ble_eq_true rfl) (by decide) rfl ?_
  refine fs_goto (off := -28) (tgt := 36) (by decide +kernel) (by decide) ?_
  exact nx
theorem b176_67 {d : Nat} {x1 : Int32} {x2 : Int32} {x3 : Int32} {S1 : fm_S} {S : fm_S} {r : Option Value × am_W} (hc : am_Sp d 163 [.ref 239, .ref 232, .int 0, .int 1] (fm_mk S) (none) (fm_mk S1)) (nx : am_Ev (d + 1) 176 80 [some (.ref 231), some (.int x1), some (.int x2), some (.int x3)] [] (fm_mk S1) r) : am_Ev (d + 1) 176 67 [some (.ref 231), some (.int x1), some (.int x2), some (.int x3)] [] (fm_mk S) r := by
  refine fs_aloadn (j := 0) (by decide +kernel) rfl ?_
  refine fe_getR (idx := 31) (t := 8) (f := 15) (fk := 2) (fin := 1) (wp := 958) (x := 239) (by decide +kernel) (by decide +kernel) (by decide +kernel) (by decide +kernel) (by decide +kernel) ?_
  refine fs_aloadn (j := 0) (by decide +kernel) rfl ?_
  refine fe_getR (idx := 7) (t := 8) (f := 0) (fk := 2) (fin := 1) (wp := 943) (x := 232) (by decide +kernel) (by decide +kernel) (by decide +kernel) (by decide +kernel) (by decide +kernel) ?_
  refine fs_iconst (n := 0) (v := 0) (by decide +kernel) (by decide) ?_
  refine fs_iconst (n := 1) (v := 1) (by decide +kernel) (by decide) ?_
  exact fe_callS (idx := 194) (kd := 0) (n := 4) (wp := 1129) (q := (1130, 0)) (as := [.ref 239, .ref 232, .int 0, .int 1]) (rs := []) (by decide +kernel) (by decide +kernel) (by decide +kernel) (by decide) rfl (Nat.le_of_ble_eq_true rfl) rfl hc nx
theorem b176_80 {d : Nat} {x1 : Int32} {x2 : Int32} {x3 : Int32} {S : fm_S} {r : Option Value × am_W} (kt : 31 ≤ x3 → am_Ev d 176 90 [some (.ref 231), some (.int x1), some (.int x2), some (.int x3)] [] (fm_mk S) r) (kf : ¬ 31 ≤ x3 → am_Ev d 176 86 [some (.ref 231), some (.int x1), some (.int x2), some (.int x3)] [] (fm_mk S) r) : am_Ev d 176 80 [some (.ref 231), some (.int x1), some (.int x2), some (.int x3)] [] (fm_mk S) r := by
  refine fs_iloadn (j := 3) (by decide +kernel) rfl ?_
  refine fs_bipush (n := 31) (v := 31) (by decide +kernel) (by decide) ?_
  exact fs_icge (off := 7) (tgt := 90) (by decide +kernel) (by decide) kt kf
theorem b176_86 {d : Nat} {x1 : Int32} {x2 : Int32} {x3 : Int32} {S : fm_S} {r : Option Value × am_W} (nx : am_Ev d 176 91 [some (.ref 231), some (.int x1), some (.int x2), some (.int x3)] [.int x3] (fm_mk S) r) : am_Ev d 176 86 [some (.ref 231), some (.int x1), some (.int x2), some (.int x3)] [] (fm_mk S) r := by
  refine fs_iloadn (j := 3) (by decide +kernel) rfl ?_
  refine fs_goto (off := 4) (tgt := 91) (by decide +kernel) (by decide) ?_
  exact nx
theorem b176_90 {d : Nat} {x1 : Int32} {x2 : Int32} {x3 : Int32} {S : fm_S} {r : Option Value × am_W} (nx : am_Ev d 176 91 [some (.ref 231), some (.int x1), some (.int x2), some (.int x3)] [.int (-1)] (fm_mk S) r) : am_Ev d 176 90 [some (.ref 231), some (.int x1), some (.int x2), some (.int x3)] [] (fm_mk S) r := by
  refine fs_iconst (n := -1) (v := (-1)) (by decide +kernel) (by decide) ?_
  exact nx
theorem b176_91 {d : Nat} {x1 : Int32} {x2 : Int32} {x3 : Int32} {sx0 : Int32} {S : fm_S}  : am_Ev d 176 91 [some (.ref 231), some (.int x1), some (.int x2), some (.int x3)] [.int sx0] (fm_mk S) (some (.int sx0), fm_mk S) := by
  exact fe_retI (by decide +kernel) (by decide +kernel)
-- KitchenSiegeModel.order(II)I
theorem b177_0 {d : Nat} {x1 : Int32} {x2 : Int32} {o3 : Option Value} {o4 : Option Value} {o5 : Option Value} {o6 : Option Value} {o7 : Option Value} {o8 : Option Value} {v : Int32} {S1 : fm_S} {S : fm_S} {r : Option Value × am_W} (hc : am_Sp d 142 [.ref 231, .int x1] (fm_mk S) (some (.int v)) (fm_mk S1)) (nx : am_Ev (d + 1) 177 5 [some (.ref 231), some (.int x1), some (.int x2), o3, o4, o5, o6, o7, o8] [.int v] (fm_mk S1) r) : am_Ev (d + 1) 177 0 [some (.ref 231), some (.int x1), some (.int x2), o3, o4, o5, o6, o7, o8] [] (fm_mk S) r := by
  refine fs_aloadn (j := 0) (by decide +kernel) rfl ?_
  refine fs_iloadn (j := 1) (by decide +kernel) rfl ?_
  exact fe_callV (idx := 84) (n := 1) (wp := 1033) (q := (1035, 33)) (as := [.int x1]) (rs := []) (by decide +kernel) (by decide +kernel) (by decide +kernel) (by decide +kernel) rfl (Nat.le_of_ble_eq_true rfl) rfl hc nx
theorem b177_5 {d : Nat} {x1 : Int32} {x2 : Int32} {o3 : Option Value} {o4 : Option Value} {o5 : Option Value} {o6 : Option Value} {o7 : Option Value} {o8 : Option Value} {sx0 : Int32} {S : fm_S} {r : Option Value × am_W} (kt : sx0 = 0 → am_Ev d 177 14 [some (.ref 231), some (.int x1), some (.int x2), o3, o4, o5, o6, o7, o8] [] (fm_mk S) r) (kf : ¬ sx0 = 0 → am_Ev d 177 8 [some (.ref 231), some (.int x1), some (.int x2), o3, o4, o5, o6, o7, o8] [] (fm_mk S) r) : am_Ev d 177 5 [some (.ref 231), some (.int x1), some (.int x2), o3, o4, o5, o6, o7, o8] [.int sx0] (fm_mk S) r := by
  exact fs_ifeq (off := 9) (tgt := 14) (by decide +kernel) (by decide) kt kf
theorem b177_8 {d : Nat} {x1 : Int32} {x2 : Int32} {o3 : Option Value} {o4 : Option Value} {o5 : Option Value} {o6 : Option Value} {o7 : Option Value} {o8 : Option Value} {S : fm_S} {r : Option Value × am_W} (kt : (-2) ≤ x2 → am_Ev d 177 19 [some (.ref 231), some (.int x1), some (.int x2), o3, o4, o5, o6, o7, o8] [] (fm_mk S) r) (kf : ¬ (-2) ≤ x2 → am_Ev d 177 14 [some (.ref 231), some (.int x1), some (.int x2), o3, o4, o5, o6, o7, o8] [] (fm_mk S) r) : am_Ev d 177 8 [some (.ref 231), some (.int x1), some (.int x2), o3, o4, o5, o6, o7, o8] [] (fm_mk S) r := by
  refine fs_iloadn (j := 2) (by decide +kernel) rfl ?_
  refine fs_bipush (n := -2) (v := (-2)) (by decide +kernel) (by decide) ?_
  exact fs_icge (off := 8) (tgt := 19) (by decide +kernel) (by decide) kt kf
theorem b177_14 {d : Nat} {x1 : Int32} {x2 : Int32} {o3 : Option Value} {o4 : Option Value} {o5 : Option Value} {o6 : Option Value} {o7 : Option Value} {o8 : Option Value} {v : Int32} {S1 : fm_S} {S : fm_S} {r : Option Value × am_W} (hc : am_Sp d 173 [.ref 231] (fm_mk S) (some (.int v)) (fm_mk S1)) (nx : am_Ev (d + 1) 177 18 [some (.ref 231), some (.int x1), some (.int x2), o3, o4, o5, o6, o7, o8] [.int v] (fm_mk S1) r) : am_Ev (d + 1) 177 14 [some (.ref 231), some (.int x1), some (.int x2), o3, o4, o5, o6, o7, o8] [] (fm_mk S) r := by
  refine fs_aloadn (j := 0) (by decide +kernel) rfl ?_
  exact fe_callV (idx := 201) (n := 0) (wp := 1166) (q := (1168, 49)) (as := []) (rs := []) (by decide +kernel) (by decide +kernel) (by decide +kernel) (by decide +kernel) rfl (Nat.le_of_ble_eq_true rfl) rfl hc nx
theorem b177_18 {d : Nat} {x1 : Int32} {x2 : Int32} {o3 : Option Value} {o4 : Option Value} {o5 : Option Value} {o6 : Option Value} {o7 : Option Value} {o8 : Option Value} {sx0 : Int32} {S : fm_S}  : am_Ev d 177 18 [some (.ref 231), some (.int x1), some (.int x2), o3, o4, o5, o6, o7, o8] [.int sx0] (fm_mk S) (some (.int sx0), fm_mk S) := by
  exact fe_retI (by decide +kernel) (by decide +kernel)
theorem b177_19 {d : Nat} {x1 : Int32} {x2 : Int32} {o3 : Option Value} {o4 : Option Value} {o5 : Option Value} {o6 : Option Value} {o7 : Option Value} {o8 : Option Value} {S : fm_S} {r : Option Value × am_W} (hi0 : vp_in (29 + x1) 373) (kt : (S.1 232 ((29 + x1).toNatClampNeg)) = (-1) → am_Ev d 177 43 [some (.ref 231), some (.int x1), some (.int x2), o3, o4, o5, o6, o7, o8] [] (fm_mk S) r) (kf : ¬ (S.1 232 ((29 + x1).toNatClampNeg)) = (-1) → am_Ev d 177 32 [some (.ref 231), some (.int x1), some (.int x2), o3, o4, o5, o6, o7, o8] [] (fm_mk S) r) : am_Ev d 177 19 [some (.ref 231), some (.int x1), some (.int x2), o3, o4, o5, o6, o7, o8] [] (fm_mk S) r := by
  refine fs_aloadn (j := 0) (by decide +kernel) rfl ?_
  refine fe_getR (idx := 7) (t := 8) (f := 0) (fk := 2) (fin := 1) (wp := 943) (x := 232) (by decide +kernel) (by decide +kernel) (by decide +kernel) (by decide +kernel) (by decide +kernel) ?_
  refine fs_bipush (n := 29) (v := 29) (by decide +kernel) (by decide) ?_
  refine fs_iloadn (j := 1) (by decide +kernel) rfl ?_
  refine fs_iadd (by decide +kernel) ?_
  refine fx_iald (n := (29 + x1).toNatClampNeg) (len := 373) (by decide +kernel) (by decide +kernel) (by decide +kernel) hi0 rfl ?_
  refine fs_iconst (n := -1) (v := (-1)) (by decide +kernel) (by decide) ?_
  exact fs_iceq (off := 14) (tgt := 43) (by decide +kernel) (by decide) kt kf
theorem b177_32 {d : Nat} {x1 : Int32} {x2 : Int32} {o3 : Option Value} {o4 : Option Value} {o5 : Option Value} {o6 : Option Value} {o7 : Option Value} {o8 : Option Value} {S : fm_S} {r : Option Value × am_W} (kt : 0 ≤ x2 → am_Ev d 177 40 [some (.ref 231), some (.int x1), some (.int x2), o3, o4, o5, o6, o7, o8] [] (fm_mk S) r) (kf : ¬ 0 ≤ x2 → am_Ev d 177 36 [some (.ref 231), some (.int x1), some (.int x2), o3, o4, o5, o6, o7, o8] [] (fm_mk S) r) : am_Ev d 177 32 [some (.ref 231), some (.int x1), some (.int x2), o3, o4, o5, o6, o7, o8] [] (fm_mk S) r := by
  refine fs_iloadn (j := 2) (by decide +kernel) rfl ?_
  exact fs_ifge (off := 7) (tgt := 40) (by decide +kernel) (by decide) kt kf
theorem b177_36 {d : Nat} {x1 : Int32} {x2 : Int32} {o3 : Option Value} {o4 : Option Value} {o5 : Option Value} {o6 : Option Value} {o7 : Option Value} {o8 : Option Value} {S : fm_S} {r : Option Value × am_W} (nx : am_Ev d 177 42 [some (.ref 231), some (.int x1), some (.int x2), o3, o4, o5, o6, o7, o8] [.int 0] (fm_mk S) r) : am_Ev d 177 36 [some (.ref 231), some (.int x1), some (.int x2), o3, o4, o5, o6, o7, o8] [] (fm_mk S) r := by
  refine fs_iconst (n := 0) (v := 0) (by decide +kernel) (by decide) ?_
  refine fs_goto (off := 5) (tgt := 42) (by decide +kernel) (by decide) ?_
  exact nx
theorem b177_40 {d : Nat} {x1 : Int32} {x2 : Int32} {o3 : Option Value} {o4 : Option Value} {o5 : Option Value} {o6 : Option Value} {o7 : Option Value} {o8 : Option Value} {S : fm_S} {r : Option Value × am_W} (nx : am_Ev d 177 42 [some (.ref 231), some (.int x1), some (.int x2), o3, o4, o5, o6, o7, o8] [.int (-5)] (fm_mk S) r) : am_Ev d 177 40 [some (.ref 231), some (.int x1), some (.int x2), o3, o4, o5, o6, o7, o8] [] (fm_mk S) r := by
  refine fs_bipush (n := -5) (v := (-5)) (by decide +kernel) (by decide) ?_
  exact nx
theorem b177_42 {d : Nat} {x1 : Int32} {x2 : Int32} {o3 : Option Value} {o4 : Option Value} {o5 : Option Value} {o6 : Option Value} {o7 : Option Value} {o8 : Option Value} {sx0 : Int32} {S : fm_S}  : am_Ev d 177 42 [some (.ref 231), some (.int x1), some (.int x2), o3, o4, o5, o6, o7, o8] [.int sx0] (fm_mk S) (some (.int sx0), fm_mk S) := by
  exact fe_retI (by decide +kernel) (by decide +kernel)
theorem b177_43 {d : Nat} {x1 : Int32} {x2 : Int32} {o3 : Option Value} {o4 : Option Value} {o5 : Option Value} {o6 : Option Value} {o7 : Option Value} {o8 : Option Value} {S : fm_S} {r : Option Value × am_W} (nx : am_Ev d 177 48 [some (.ref 231), some (.int x1), some (.int x2), some (.int 1), some (.int 1), o5, o6, o7, o8] [] (fm_mk S) r) : am_Ev d 177 43 [some (.ref 231), some (.int x1), some (.int x2), o3, o4, o5, o6, o7, o8] [] (fm_mk S) r := by
  refine fs_iconst (n := 1) (v := 1) (by decide +kernel) (by decide) ?_
  refine fs_istoren (j := 3) (L' := [some (.ref 231), some (.int x1), some (.int x2), some (.int 1), o4, o5, o6, o7, o8]) (by decide +kernel) (Nat.le_of_ble_eq_true rfl) rfl ?_
  refine fs_iconst (n := 1) (v := 1) (by decide +kernel) (by decide) ?_
  refine fs_istore (j := 4) (L' := [some (.ref 231), some (.int x1), some (.int x2), some (.int 1), some (.int 1), o5, o6, o7, o8]) (by decide +kernel) (Nat.le_of_ble_eq_true rfl) rfl ?_
  exact nx
theorem b177_48 {d : Nat} {x1 : Int32} {x2 : Int32} {x3 : Int32} {x4 : Int32} {o5 : Option Value} {o6 : Option Value} {o7 : Option Value} {o8 : Option Value} {S : fm_S} {r : Option Value × am_W} (kt : 5 ≤ x4 → am_Ev d 177 196 [some (.ref 231), some (.int x1), some (.int x2), some (.int x3), some (.int x4), o5, o6, o7, o8] [] (fm_mk S) r) (kf : ¬ 5 ≤ x4 → am_Ev d 177 54 [some (.ref 231), some (.int x1), some (.int x2), some (.int x3), some (.int x4), o5, o6, o7, o8] [] (fm_mk S) r) : am_Ev d 177 48 [some (.ref 231), some (.int x1), some (.int x2), some (.int x3), some (.int x4), o5, o6, o7, o8] [] (fm_mk S) r := by
  refine fs_iload (j := 4) (by decide +kernel) rfl ?_
  refine fs_iconst (n := 5) (v := 5) (by decide +kernel) (by decide) ?_
  exact fs_icge (off := 145) (tgt := 196) (by decide +kernel) (by decide) kt kf
theorem b177_54 {d : Nat} {x1 : Int32} {x2 : Int32} {x3 : Int32} {x4 : Int32} {o5 : Option Value} {o6 : Option Value} {o7 : Option Value} {o8 : Option Value} {S : fm_S} {r : Option Value × am_W} (nx : am_Ev d 177 69 [some (.ref 231), some (.int x1), some (.int x2), some (.int (x3 * (S.1 232 1))), some (.int x4), some (.int (-1)), some (.int 0), o7, o8] [] (fm_mk S) r) : am_Ev d 177 54 [some (.ref 231), some (.int x1), some (.int x2), some (.int x3), some (.int x4), o5, o6, o7, o8] [] (fm_mk S) r := by
  refine fs_iloadn (j := 3) (by decide +kernel) rfl ?_
  refine fs_aloadn (j := 0) (by decide +kernel) rfl ?_
  refine fe_getR (idx := 7) (t := 8) (f := 0) (fk := 2) (fin := 1) (wp := 943) (x := 232) (by decide +kernel) (by decide +kernel) (by decide +kernel) (by decide +kernel) (by decide +kernel) ?_
  refine fs_iconst (n := 1) (v := 1) (by decide +kernel) (by decide) ?_
  refine fx_iald (n := 1) (len := 373) (by decide +kernel) (by decide +kernel) (by decide +kernel) (vp_c (by decide) (by decide)) (by decide) ?_
  refine fs_imul (by decide +kernel) ?_
  refine fs_istoren (j := 3) (L' := [some (.ref 231), some (.int x1), some (.int x2), some (.int (x3 * (S.1 232 1))), some (.int x4), o5, o6, o7, o8]) (by decide +kernel) (Nat.le_of_ble_eq_true rfl) rfl ?_
  refine fs_iconst (n := -1) (v := (-1)) (by decide +kernel) (by decide) ?_
  refine fs_istore (j := 5) (L' := [some (.ref 231), some (.int x1), some (.int x2), some (.int (x3 * (S.1 232 1))), some (.int x4), some (.int (-1)), o6, o7, o8]) (by decide +kernel) (Nat.le_of_ble_eq_true rfl) rfl ?_
  refine fs_iconst (n := 0) (v := 0) (by decide +kernel) (by decide) ?_
  refine fs_istore (j := 6) (L' := [some (.ref 231), some (.int x1), some (.int x2), some (.int (x3 * (S.1 232 1))), some (.int x4), some (.int (-1)), some (.int 0), o7, o8]) (by decide +kernel) (Nat.le_of_ble_eq_true rfl) rfl ?_
  exact nx
theorem b177_69 {d : Nat} {x1 : Int32} {x2 : Int32} {x3 : Int32} {x4 : Int32} {x5 : Int32} {x6 : Int32} {o7 : Option Value} {o8 : Option Value} {S : fm_S} {r : Option Value × am_W} (kt : x3 ≤ x6 → am_Ev d 177 146 [some (.ref 231), some (.int x1), some (.int x2), some (.int x3), some (.int x4), some (.int x5), some (.int x6), o7, o8] [] (fm_mk S) r) (kf : ¬ x3 ≤ x6 → am_Ev d 177 75 [some (.ref 231), some (.int x1), some (.int x2), some (.int x3), some (.int x4), some (.int x5), some (.int x6), o7, o8] [] (fm_mk S) r) : am_Ev d 177 69 [some (.ref 231), some (.int x1), some (.int x2), some (.int x3), some (.int x4), some (.int x5), some (.int x6), o7, o8] [] (fm_mk S) r := by
  refine fs_iload (j := 6) (by decide +kernel) rfl ?_
  refine fs_iloadn (j := 3) (by decide +kernel) rfl ?_
  exact fs_icge (off := 74) (tgt := 146) (by decide +kernel) (by decide) kt kf
theorem b177_75 {d : Nat} {x1 : Int32} {x2 : Int32} {x3 : Int32} {x4 : Int32} {x5 : Int32} {x6 : Int32} {o7 : Option Value} {o8 : Option Value} {v : Int32} {S1 : fm_S} {S : fm_S} {r : Option Value × am_W} (hc : am_Sp d 178 [.ref 231, .int x6, .int x4, .int x1] (fm_mk S) (some (.int v)) (fm_mk S1)) (nx : am_Ev (d + 1) 177 84 [some (.ref 231), some (.int x1), some (.int x2), some (.int x3), some (.int x4), some (.int x5), some (.int x6), o7, o8] [.int v] (fm_mk S1) r) : am_Ev (d + 1) 177 75 [some (.ref 231), some (.int x1), some (.int x2), some (.int x3), some (.int x4), some (.int x5), some (.int x6), o7, o8] [] (fm_mk S) r := by
  refine fs_aloadn (j := 0) (by decide +kernel) rfl ?_
  refine fs_iload (j := 6) (by decide +kernel) rfl ?_
  refine fs_iload (j := 4) (by decide +kernel) rfl ?_
  refine fs_iloadn (j := 1) (by decide +kernel) rfl ?_
  exact fe_callV (idx := 210) (n := 3) (wp := 1186) (q := (1188, 50)) (as := [.int x6, .int x4, .int x1]) (rs := []) (by decide +kernel) (by decide +kernel) (by decide +kernel) (by decide +kernel) rfl (Nat.le_of_ble_eq_true rfl) rfl hc nx
theorem b177_84 {d : Nat} {x1 : Int32} {x2 : Int32} {x3 : Int32} {x4 : Int32} {x5 : Int32} {x6 : Int32} {o7 : Option Value} {o8 : Option Value} {sx0 : Int32} {S : fm_S} {r : Option Value × am_W} (kt : sx0 < 0 → am_Ev d 177 140 [some (.ref 231), some (.int x1), some (.int x2), some (.int x3), some (.int x4), some (.int x5), some (.int x6), some (.int sx0), o8] [] (fm_mk S) r) (kf : ¬ sx0 < 0 → am_Ev d 177 91 [some (.ref 231), some (.int x1), some (.int x2), some (.int x3), some (.int x4), some (.int x5), some (.int x6), some (.int sx0), o8] [] (fm_mk S) r) : am_Ev d 177 84 [some (.ref 231), some (.int x1), some (.int x2), some (.int x3), some (.int x4), some (.int x5), some (.int x6), o7, o8] [.int sx0] (fm_mk S) r := by
  refine fs_istore (j := 7) (L' := [some (.ref 231), some (.int x1), some (.int x2), some (.int x3), some (.int x4), some (.int x5), some (.int x6), some (.int sx0), o8]) (by decide +kernel) (Nat.le_of_ble_eq_true rfl) rfl ?_
  refine fs_iload (j := 7) (by decide +kernel) rfl ?_
  exact fs_iflt (off := 52) (tgt := 140) (by decide +kernel) (by decide) kt kf
theorem b177_91 {d : Nat} {x1 : Int32} {x2 : Int32} {x3 : Int32} {x4 : Int32} {x5 : Int32} {x6 : Int32} {x7 : Int32} {o8 : Option Value} {S : fm_S} {r : Option Value × am_W} (kt : x5 < 0 → am_Ev d 177 103 [some (.ref 231), some (.int x1), some (.int x2), some (.int x3), some (.int x4), some (.int x5), some (.int x6), some (.int x7), o8] [] (fm_mk S) r) (kf : ¬ x5 < 0 → am_Ev d 177 96 [some (.ref 231), some (.int x1), some (.int x2), some (.int x3), some (.int x4), some (.int x5), some (.int x6), some (.int x7), o8] [] (fm_mk S) r) : am_Ev d 177 91 [some (.ref 231), some (.int x1), some (.int x2), some (.int x3), some (.int x4), some (.int x5), some (.int x6), some (.int x7), o8] [] (fm_mk S) r := by
  refine fs_iload (j := 5) (by decide +kernel) rfl ?_
  exact fs_iflt (off := 10) (tgt := 103) (by decide +kernel) (by decide) kt kf
theorem b177_96 {d : Nat} {x1 : Int32} {x2 : Int32} {x3 : Int32} {x4 : Int32} {x5 : Int32} {x6 : Int32} {x7 : Int32} {o8 : Option Value} {S : fm_S} {r : Option Value × am_W} (kt : x5 ≤ x7 → am_Ev d 177 140 [some (.ref 231), some (.int x1), some (.int x2), some (.int x3), some (.int x4), some (.int x5), some (.int x6), some (.int x7), o8] [] (fm_mk S) r) (kf : ¬ x5 ≤ x7 → am_Ev d 177 103 [some (.ref 231), some (.int x1), some (.int x2), some (.int x3), some (.int x4), some (.int x5), some (.int x6), some (.int x7), o8] [] (fm_mk S) r) : am_Ev d 177 96 [some (.ref 231), some (.int x1), some (.int x2), some (.int x3), some (.int x4), some (.int x5), some (.int x6), some (.int x7), o8] [] (fm_mk S) r := by
  refine fs_iload (j := 7) (by decide +kernel) rfl ?_
  refine fs_iload (j := 5) (by decide +kernel) rfl ?_
  exact fs_icge (off := 40) (tgt := 140) (by decide +kernel) (by decide) kt kf
theorem b177_103 {d : Nat} {x1 : Int32} {x2 : Int32} {x3 : Int32} {x4 : Int32} {x5 : Int32} {x6 : Int32} {x7 : Int32} {o8 : Option Value} {S : fm_S} {r : Option Value × am_W} (nx : am_Ev d 177 110 [some (.ref 231), some (.int x1), some (.int x2), some (.int x3), some (.int x4), some (.int x7), some (.int x6), some (.int x7), some (.int 0)] [] (fm_mk S) r) : am_Ev d 177 103 [some (.ref 231), some (.int x1), some (.int x2), some (.int x3), some (.int x4), some (.int x5), some (.int x6), some (.int x7), o8] [] (fm_mk S) r := by
  refine fs_iload (j := 7) (by decide +kernel) rfl ?_
  refine fs_istore (j := 5) (L' := [some (.ref 231), some (.int x1), some (.int x2), some (.int x3), some (.int x4), some (.int x7), some (.int x6), some (.int x7), o8]) (by decide +kernel) (Nat.le_of_ble_eq_true rfl) rfl ?_
  refine fs_iconst (n := 0) (v := 0) (by decide +kernel) (by decide) ?_
  refine fs_istore (j := 8) (L' := [some (.ref 231), some (.int x1), some (.int x2), some (.int x3), some (.int x4), some (.int x7), some (.int x6), some (.int x7), some (.int 0)]) (by decide +kernel) (Nat.le_of_ble_eq_true rfl) rfl ?_
  exact nx
theorem b177_110 {d : Nat} {x1 : Int32} {x2 : Int32} {x3 : Int32} {x4 : Int32} {x5 : Int32} {x6 : Int32} {x7 : Int32} {x8 : Int32} {S : fm_S} {r : Option Value × am_W} (kt : x4 ≤ x8 → am_Ev d 177 140 [some (.ref 231), some (.int x1), some (.int x2), some (.int x3), some (.int x4), some (.int x5), some (.int x6), some (.int x7), some (.int x8)] [] (fm_mk S) r) (kf : ¬ x4 ≤ x8 → am_Ev d 177 117 [some (.ref 231), some (.int x1), some (.int x2), some (.int x3), some (.int x4), some (.int x5), some (.int x6), some (.int x7), some (.int x8)] [] (fm_mk S) r) : am_Ev d 177 110 [some (.ref 231), some (.int x1), some (.int x2), some (.int x3), some (.int x4), some (.int x5), some (.int x6), some (.int x7), some (.int x8)] [] (fm_mk S) r := by
  refine fs_iload (j := 8) (by decide +kernel) rfl ?_
  refine fs_iload (j := 4) (by decide +kernel) rfl ?_
  exact fs_icge (off := 26) (tgt := 140) (by decide +kernel) (by decide) kt kf
theorem b177_117 {d : Nat} {x1 : Int32} {x2 : Int32} {x3 : Int32} {x4 : Int32} {x5 : Int32} {x6 : Int32} {x7 : Int32} {x8 : Int32} {v : Int32} {S1 : fm_S} {S : fm_S} {r : Option Value × am_W} (hc : am_Sp d 179 [.ref 231, .int x6, .int x4, .int x8] (fm_mk S) (some (.int v)) (fm_mk S1)) (nx : am_Ev (d + 1) 177 133 [some (.ref 231), some (.int x1), some (.int x2), some (.int x3), some (.int x4), some (.int x5), some (.int x6), some (.int x7), some (.int x8)] [.int v, .int x8, .ref 240] (fm_mk S1) r) : am_Ev (d + 1) 177 117 [some (.ref 231), some (.int x1), some (.int x2), some (.int x3), some (.int x4), some (.int x5), some (.int x6), some (.int x7), some (.int x8)] [] (fm_mk S) r := by
  refine fs_aloadn (j := 0) (by decide +kernel) rfl ?_
  refine fe_getR (idx := 34) (t := 8) (f := 16) (fk := 2) (fin := 1) (wp := 959) (x := 240) (by decide +kernel) (by decide +kernel) (by decide +kernel) (by decide +kernel) (by decide +kernel) ?_
  refine fs_iload (j := 8) (by decide +kernel) rfl ?_
  refine fs_aloadn (j := 0) (by decide +kernel) rfl ?_
  refine fs_iload (j := 6) (by decide +kernel) rfl ?_
  refine fs_iload (j := 4) (by decide +kernel) rfl ?_
  refine fs_iload (j := 8) (by decide +kernel) rfl ?_
  exact fe_callV (idx := 204) (n := 3) (wp := 1190) (q := (1192, 51)) (as := [.int x6, .int x4, .int x8]) (rs := [.int x8, .ref 240]) (by decide +kernel) (by decide +kernel) (by decide +kernel) (by decide +kernel) rfl (Nat.le_of_ble_eq_true rfl) rfl hc nx
theorem b177_133 {d : Nat} {x1 : Int32} {x2 : Int32} {x3 : Int32} {x4 : Int32} {x5 : Int32} {x6 : Int32} {x7 : Int32} {x8 : Int32} {sx1 : Int32} {sx2 : Int32} {S : fm_S} {r : Option Value × am_W} (hi0 : vp_in sx1 4) (nx : am_Ev d 177 110 [some (.ref 231), some (.int x1), some (.int x2), some (.int x3), some (.int x4), some (.int x5), some (.int x6), some (.int x7), some (.int (x8 + 1))] [] (fm_mk (fm_wI S 240 sx1.toNatClampNeg sx2)) r) : am_Ev d 177 133 [some (.ref 231), some (.int x1), some (.int x2), some (.int x3), some (.int x4), some (.int x5), some (.int x6), some (.int x7), some (.int x8)] [.int sx2, .int sx1, .ref 240] (fm_mk S) r := by
  refine fx_iast (n := sx1.toNatClampNeg) (len := 4) (by decide +kernel) (by decide +kernel) (by decide +kernel) hi0 rfl ?_
  refine fs_iinc (j := 8) (n := 1) (v := 1) (L' := [some (.ref 231), some (.int x1), some (.int x2), some (.int x3), some (.int x4), some (.int x5), some (.int x6), some (.int x7), some (.int (x8 + 1))]) (by decide +kernel) rfl (Nat.le_of_ble_eq_true rfl) (by decide) rfl ?_
  refine fs_goto (off := -27) (tgt := 110) (by decide +kernel) (by decide) ?_
  exact nx
theorem b177_140 {d : Nat} {x1 : Int32} {x2 : Int32} {x3 : Int32} {x4 : Int32} {x5 : Int32} {x6 : Int32} {x7 : Int32} {o8 : Option Value} {S : fm_S} {r : Option Value × am_W} (nx : am_Ev d 177 69 [some (.ref 231), some (.int x1), some (.int x2), some (.int x3), some (.int x4), some (.int x5), some (.int (x6 + 1)), some (.int x7), o8] [] (fm_mk S) r) : am_Ev d 177 140 [some (.ref 231), some (.int x1), some (.int x2), some (.int x3), some (.int x4), some (.int x5), some (.int x6), some (.int x7), o8] [] (fm_mk S) r := by
  refine fs_iinc (j := 6) (n := 1) (v := 1) (L' := [some (.ref 231), some (.int x1), some (.int x2), some (.int x3), some (.int x4), some (.int x5), some (.int (x6 + 1)), some (.int x7), o8]) (by decide +kernel) rfl (Nat.le_of_ble_eq_true rfl) (by decide) rfl ?_
  refine fs_goto (off := -74) (tgt := 69) (by decide +kernel) (by decide) ?_
  exact nx
theorem b177_146 {d : Nat} {x1 : Int32} {x2 : Int32} {x3 : Int32} {x4 : Int32} {x5 : Int32} {x6 : Int32} {o7 : Option Value} {o8 : Option Value} {S : fm_S} {r : Option Value × am_W} (kt : x5 < 0 → am_Ev d 177 190 [some (.ref 231), some (.int x1), some (.int x2), some (.int x3), some (.int x4), some (.int x5), some (.int x6), o7, o8] [] (fm_mk S) r) (kf : ¬ x5 < 0 → am_Ev d 177 151 [some (.ref 231), some (.int x1), some (.int x2), some (.int x3), some (.int x4), some (.int x5), some (.int x6), o7, o8] [] (fm_mk S) r) : am_Ev d 177 146 [some (.ref 231), some (.int x1), some (.int x2), some (.int x3), some (.int x4), some (.int x5), some (.int x6), o7, o8] [] (fm_mk S) r := by
  refine fs_iload (j := 5) (by decide +kernel) rfl ?_
  exact fs_iflt (off := 42) (tgt := 190) (by decide +kernel) (by decide) kt kf
theorem b177_151 {d : Nat} {x1 : Int32} {x2 : Int32} {x3 : Int32} {x4 : Int32} {x5 : Int32} {x6 : Int32} {o7 : Option Value} {o8 : Option Value} {S : fm_S} {r : Option Value × am_W} (kt : ¬ x2 = (-1) → am_Ev d 177 161 [some (.ref 231), some (.int x1), some (.int x2), some (.int x3), some (.int x4), some (.int x5), some (.int x6), o7, o8] [] (fm_mk S) r) (kf : x2 = (-1) → am_Ev d 177 156 [some (.ref 231), some (.int x1), some (.int x2), some (.int x3), some (.int x4), some (.int x5), some (.int x6), o7, o8] [] (fm_mk S) r) : am_Ev d 177 151 [some (.ref 231), some (.int x1), some (.int x2), some (.int x3), some (.int x4), some (.int x5), some (.int x6), o7, o8] [] (fm_mk S) r := by
  refine fs_iloadn (j := 2) (by decide +kernel) rfl ?_
  refine fs_iconst (n := -1) (v := (-1)) (by decide +kernel) (by decide) ?_
  exact fs_icne (off := 8) (tgt := 161) (by decide +kernel) (by decide) kt kf
theorem b177_156 {d : Nat} {x1 : Int32} {x2 : Int32} {x3 : Int32} {x4 : Int32} {x5 : Int32} {x6 : Int32} {o7 : Option Value} {o8 : Option Value} {S : fm_S} {r : Option Value × am_W} (nx : am_Ev d 177 189 [some (.ref 231), some (.int x1), some (.int x2), some (.int x3), some (.int x4), some (.int x5), some (.int x6), o7, o8] [.int x4] (fm_mk S) r) : am_Ev d 177 156 [some (.ref 231), some (.int x1), some (.int x2), some (.int x3), some (.int x4), some (.int x5), some (.int x6), o7, o8] [] (fm_mk S) r := by
  refine fs_iload (j := 4) (by decide +kernel) rfl ?_
  refine fs_goto (off := 31) (tgt := 189) (by decide +kernel) (by decide) ?_
  exact nx
theorem b177_161 {d : Nat} {x1 : Int32} {x2 : Int32} {x3 : Int32} {x4 : Int32} {x5 : Int32} {x6 : Int32} {o7 : Option Value} {o8 : Option Value} {S : fm_S} {r : Option Value × am_W} (kt : ¬ x2 = (-2) → am_Ev d 177 172 [some (.ref 231), some (.int x1), some (.int x2), some (.int x3), some (.int x4), some (.int x5), some (.int x6), o7, o8] [] (fm_mk S) r) (kf : x2 = (-2) → am_Ev d 177 167 [some (.ref 231), some (.int x1), some (.int x2), some (.int x3), some (.int x4), some (.int x5), some (.int x6), o7, o8] [] (fm_mk S) r) : am_Ev d 177 161 [some (.ref 231), some (.int x1), some (.int x2), some (.int x3), some (.int x4), some (.int x5), some (.int x6), o7, o8] [] (fm_mk S) r := by
  refine fs_iloadn (j := 2) (by decide +kernel) rfl ?_
  refine fs_bipush (n := -2) (v := (-2)) (by decide +kernel) (by decide) ?_
  exact fs_icne (off := 8) (tgt := 172) (by decide +kernel) (by decide) kt kf
theorem b177_167 {d : Nat} {x1 : Int32} {x2 : Int32} {x3 : Int32} {x4 : Int32} {x5 : Int32} {x6 : Int32} {o7 : Option Value} {o8 : Option Value} {S : fm_S} {r : Option Value × am_W} (nx : am_Ev d 177 189 [some (.ref 231), some (.int x1), some (.int x2), some (.int x3), some (.int x4), some (.int x5), some (.int x6), o7, o8] [.int x5] (fm_mk S) r) : am_Ev d 177 167 [some (.ref 231), some (.int x1), some (.int x2), some (.int x3), some (.int x4), some (.int x5), some (.int x6), o7, o8] [] (fm_mk S) r := by
  refine fs_iload (j := 5) (by decide +kernel) rfl ?_
  refine fs_goto (off := 20) (tgt := 189) (by decide +kernel) (by decide) ?_
  exact nx
theorem b177_172 {d : Nat} {x1 : Int32} {x2 : Int32} {x3 : Int32} {x4 : Int32} {x5 : Int32} {x6 : Int32} {o7 : Option Value} {o8 : Option Value} {S : fm_S} {r : Option Value × am_W} (kt : x4 ≤ x2 → am_Ev d 177 187 [some (.ref 231), some (.int x1), some (.int x2), some (.int x3), some (.int x4), some (.int x5), some (.int x6), o7, o8] [] (fm_mk S) r) (kf : ¬ x4 ≤ x2 → am_Ev d 177 178 [some (.ref 231), some (.int x1), some (.int x2), some (.int x3), some (.int x4), some (.int x5), some (.int x6), o7, o8] [] (fm_mk S) r) : am_Ev d 177 172 [some (.ref 231), some (.int x1), some (.int x2), some (.int x3), some (.int x4), some (.int x5), some (.int x6), o7, o8] [] (fm_mk S) r := by
  refine fs_iloadn (j := 2) (by decide +kernel) rfl ?_
  refine fs_iload (j := 4) (by decide +kernel) rfl ?_
  exact fs_icge (off := 12) (tgt := 187) (by decide +kernel) (by decide) kt kf
theorem b177_178 {d : Nat} {x1 : Int32} {x2 : Int32} {x3 : Int32} {x4 : Int32} {x5 : Int32} {x6 : Int32} {o7 : Option Value} {o8 : Option Value} {S : fm_S} {r : Option Value × am_W} (hi0 : vp_in x2 4) (nx : am_Ev d 177 189 [some (.ref 231), some (.int x1), some (.int x2), some (.int x3), some (.int x4), some (.int x5), some (.int x6), o7, o8] [.int (S.1 240 x2.toNatClampNeg)] (fm_mk S) r) : am_Ev d 177 178 [some (.ref 231), some (.int x1), some (.int x2), some (.int x3), some (.int x4), some (.int x5), some (.int x6), o7, o8] [] (fm_mk S) r := by
  refine fs_aloadn (j := 0) (by decide +kernel) rfl ?_
  refine fe_getR (idx := 34) (t := 8) (f := 16) (fk := 2) (fin := 1) (wp := 959) (x := 240) (by decide +kernel) (by decide +kernel) (by decide +kernel) (by decide +kernel) (by decide +kernel) ?_
  refine fs_iloadn (j := 2) (by decide +kernel) rfl ?_
  refine fx_iald (n := x2.toNatClampNeg) (len := 4) (by decide +kernel) (by decide +kernel) (by decide +kernel) hi0 rfl ?_
  refine fs_goto (off := 5) (tgt := 189) (by decide +kernel) (by decide) ?_
  exact nx
theorem b177_187 {d : Nat} {x1 : Int32} {x2 : Int32} {x3 : Int32} {x4 : Int32} {x5 : Int32} {x6 : Int32} {o7 : Option Value} {o8 : Option Value} {S : fm_S} {r : Option Value × am_W} (nx : am_Ev d 177 189 [some (.ref 231), some (.int x1), some (.int x2), some (.int x3), some (.int x4), some (.int x5), some (.int x6), o7, o8] [.int (-5)] (fm_mk S) r) : am_Ev d 177 187 [some (.ref 231), some (.int x1), some (.int x2), some (.int x3), some (.int x4), some (.int x5), some (.int x6), o7, o8] [] (fm_mk S) r := by
  refine fs_bipush (n := -5) (v := (-5)) (by decide +kernel) (by decide) ?_
  exact nx
theorem b177_189 {d : Nat} {x1 : Int32} {x2 : Int32} {x3 : Int32} {x4 : Int32} {x5 : Int32} {x6 : Int32} {o7 : Option Value} {o8 : Option Value} {sx0 : Int32} {S : fm_S}  : am_Ev d 177 189 [some (.ref 231), some (.int x1), some (.int x2), some (.int x3), some (.int x4), some (.int x5), some (.int x6), o7, o8] [.int sx0] (fm_mk S) (some (.int sx0), fm_mk S) := by
  exact fe_retI (by decide +kernel) (by decide +kernel)
theorem b177_190 {d : Nat} {x1 : Int32} {x2 : Int32} {x3 : Int32} {x4 : Int32} {x5 : Int32} {x6 : Int32} {o7 : Option Value} {o8 : Option Value} {S : fm_S} {r : Option Value × am_W} (nx : am_Ev d 177 48 [some (.ref 231), some (.int x1), some (.int x2), some (.int x3), some (.int (x4 + 1)), some (.int x5), some (.int x6), o7, o8] [] (fm_mk S) r) : am_Ev d 177 190 [some (.ref 231), some (.int x1), some (.int x2), some (.int x3), some (.int x4), some (.int x5), some (.int x6), o7, o8] [] (fm_mk S) r := by
  refine fs_iinc (j := 4) (n := 1) (v := 1) (L' := [some (.ref 231), some (.int x1), some (.int x2), some (.int x3), some (.int (x4 + 1)), some (.int x5), some (.int x6), o7, o8]) (by decide +kernel) rfl (Nat.le_of_ble_eq_true rfl) (by decide) rfl ?_
  refine fs_goto (off := -145) (tgt := 48) (by decide +kernel) (by decide) ?_
  exact nx
theorem b177_196 {d : Nat} {x1 : Int32} {x2 : Int32} {x3 : Int32} {x4 : Int32} {o5 : Option Value} {o6 : Option Value} {o7 : Option Value} {o8 : Option Value} {S : fm_S}  : am_Ev d 177 196 [some (.ref 231), some (.int x1), some (.int x2), some (.int x3), some (.int x4), o5, o6, o7, o8] [] (fm_mk S) (some (.int (-1)), fm_mk S) := by
  refine fs_iconst (n := -1) (v := (-1)) (by decide +kernel) (by decide) ?_
  exact fe_retI (by decide +kernel) (by decide +kernel)
-- KitchenSiegeModel.butterOf(III)I
theorem b178_0 {d : Nat} {x1 : Int32} {x2 : Int32} {x3 : Int32} {o4 : Option Value} {o5 : Option Value} {o6 : Option Value} {o7 : Option Value} {S : fm_S} {r : Option Value × am_W} (nx : am_Ev d 178 9 [some (.ref 231), some (.int x1), some (.int x2), some (.int x3), some (.int 0), some (.int 0), some (.int 0), o7] [] (fm_mk S) r) : am_Ev d 178 0 [some (.ref 231), some (.int x1), some (.int x2), some (.int x3), o4, o5, o6, o7] [] (fm_mk S) r := by
  refine fs_iconst (n := 0) (v := 0) (by decide +kernel) (by decide) ?_
  refine fs_istore (j := 4) (L' := [some (.ref 231), some (.int x1), some (.int x2), some (.int x3), some (.int 0), o5, o6, o7]) (by decide +kernel) (Nat.le_of_ble_eq_true rfl) rfl ?_
  refine fs_iconst (n := 0) (v := 0) (by decide +kernel) (by decide) ?_
  refine fs_istore (j := 5) (L' := [some (.ref 231), some (.int x1), some (.int x2), some (.int x3), some (.int 0), some (.int 0), o6, o7]) (by decide +kernel) (Nat.le_of_ble_eq_true rfl) rfl ?_
  refine fs_iconst (n := 0) (v := 0) (by decide +kernel) (by decide) ?_
  refine fs_istore (j := 6) (L' := [some (.ref 231), some (.int x1), some (.int x2), some (.int x3), some (.int 0), some (.int 0), some (.int 0), o7]) (by decide +kernel) (Nat.le_of_ble_eq_true rfl) rfl ?_
  exact nx
theorem b178_9 {d : Nat} {x1 : Int32} {x2 : Int32} {x3 : Int32} {x4 : Int32} {x5 : Int32} {x6 : Int32} {o7 : Option Value} {S : fm_S} {r : Option Value × am_W} (kt : x2 ≤ x6 → am_Ev d 178 56 [some (.ref 231), some (.int x1), some (.int x2), some (.int x3), some (.int x4), some (.int x5), some (.int x6), o7] [] (fm_mk S) r) (kf : ¬ x2 ≤ x6 → am_Ev d 178 15 [some (.ref 231), some (.int x1), some (.int x2), some (.int x3), some (.int x4), some (.int x5), some (.int x6), o7] [] (fm_mk S) r) : am_Ev d 178 9 [some (.ref 231), some (.int x1), some (.int x2), some (.int x3), some (.int x4), some (.int x5), some (.int x6), o7] [] (fm_mk S) r := by
  refine fs_iload (j := 6) (by decide +kernel) rfl ?_
  refine fs_iloadn (j := 2) (by decide +kernel) rfl ?_
  exact fs_icge (off := 44) (tgt := 56) (by decide +kernel) (by decide) kt kf
theorem b178_15 {d : Nat} {x1 : Int32} {x2 : Int32} {x3 : Int32} {x4 : Int32} {x5 : Int32} {x6 : Int32} {o7 : Option Value} {v : Int32} {S1 : fm_S} {S : fm_S} {r : Option Value × am_W} (hc : am_Sp d 179 [.ref 231, .int x1, .int x2, .int x6] (fm_mk S) (some (.int v)) (fm_mk S1)) (nx : am_Ev (d + 1) 178 23 [some (.ref 231), some (.int x1), some (.int x2), some (.int x3), some (.int x4), some (.int x5), some (.int x6), o7] [.int v] (fm_mk S1) r) : am_Ev (d + 1) 178 15 [some (.ref 231), some (.int x1), some (.int x2), some (.int x3), some (.int x4), some (.int x5), some (.int x6), o7] [] (fm_mk S) r := by
  refine fs_aloadn (j := 0) (by decide +kernel) rfl ?_
  refine fs_iloadn (j := 1) (by decide +kernel) rfl ?_
  refine fs_iloadn (j := 2) (by decide +kernel) rfl ?_
  refine fs_iload (j := 6) (by decide +kernel) rfl ?_
  exact fe_callV (idx := 204) (n := 3) (wp := 1190) (q := (1192, 51)) (as := [.int x1, .int x2, .int x6]) (rs := []) (by decide +kernel) (by decide +kernel) (by decide +kernel) (by decide +kernel) rfl (Nat.le_of_ble_eq_true rfl) rfl hc nx
theorem b178_23 {d : Nat} {x1 : Int32} {x2 : Int32} {x3 : Int32} {x4 : Int32} {x5 : Int32} {x6 : Int32} {o7 : Option Value} {sx0 : Int32} {S : fm_S} {r : Option Value × am_W} (hi0 : vp_in (137 + sx0) 373) (nx : am_Ev d 178 9 [some (.ref 231), some (.int x1), some (.int x2), some (.int x3), some (.int (x4 ||| (1 <<< (sx0 &&& 31)))), some (.int (x5 + (S.1 232 ((137 + sx0).toNatClampNeg)))), some (.int (x6 + 1)), some (.int sx0)] [] (fm_mk S) r) : am_Ev d 178 23 [some (.ref 231), some (.int x1), some (.int x2), some (.int x3), some (.int x4), some (.int x5), some (.int x6), o7] [.int sx0] (fm_mk S) r := by
  refine fs_istore (j := 7) (L' := [some (.ref 231), some (.int x1), some (.int x2), some (.int x3), some (.int x4), some (.int x5), some (.int x6), some (.int sx0)]) (by decide +kernel) (Nat.le_of_ble_eq_true rfl) rfl ?_
  refine fs_iload (j := 4) (by decide +kernel) rfl ?_
  refine fs_iconst (n := 1) (v := 1) (by decide +kernel) (by decide) ?_
  refine fs_iload (j := 7) (by decide +kernel) rfl ?_
  refine fs_ishl (by decide +kernel) ?_
  refine fs_ior (by decide +kernel) ?_
  refine fs_istore (j := 4) (L' := [some (.ref 231), some (.int x1), some (.int x2), some (.int x3), some (.int (x4 ||| (1 <<< (sx0 &&& 31)))), some (.int x5), some (.int x6), some (.int sx0)]) (by decide +kernel) (Nat.le_of_ble_eq_true rfl) rfl ?_
  refine fs_iload (j := 5) (by decide +kernel) rfl ?_
  refine fs_aloadn (j := 0) (by decide +kernel) rfl ?_
  refine fe_getR (idx := 7) (t := 8) (f := 0) (fk := 2) (fin := 1) (wp := 943) (x := 232) (by decide +kernel) (by decide +kernel) (by decide +kernel) (by decide +kernel) (by decide +kernel) ?_
  refine fs_sipush (n := 137) (v := 137) (by decide +kernel) (by decide) ?_
  refine fs_iload (j := 7) (by decide +kernel) rfl ?_
  refine fs_iadd (by decide +kernel) ?_
  refine fx_iald (n := (137 + sx0).toNatClampNeg) (len := 373) (by decide +kernel) (by decide +kernel) (by decide +kernel) hi0 rfl ?_
  refine fs_iadd (by decide +kernel) ?_
  refine fs_istore (j := 5) (L' := [some (.ref 231), some (.int x1), some (.int x2), some (.int x3), some (.int (x4 ||| (1 <<< (sx0 &&& 31)))), some (.int (x5 + (S.1 232 ((137 + sx0).toNatClampNeg)))), some (.int x6), some (.int sx0)]) (by decide +kernel) (Nat.le_of_ble_eq_true rfl) rfl ?_
  refine fs_iinc (j := 6) (n := 1) (v := 1) (L' := [some (.ref 231), some (.int x1), some (.int x2), some (.int x3), some (.int (x4 ||| (1 <<< (sx0 &&& 31)))), some (.int (x5 + (S.1 232 ((137 + sx0).toNatClampNeg)))), some (.int (x6 + 1)), some (.int sx0)]) (by decide +kernel) rfl (Nat.le_of_ble_eq_true rfl) (by decide) rfl ?_
  refine fs_goto (off := -44) (tgt := 9) (by decide +kernel) (by decide) ?_
  exact nx
theorem b178_56 {d : Nat} {x1 : Int32} {x2 : Int32} {x3 : Int32} {x4 : Int32} {x5 : Int32} {x6 : Int32} {o7 : Option Value} {v : Int32} {S1 : fm_S} {S : fm_S} {r : Option Value × am_W} (hc : am_Sp d 180 [.int x4] (fm_mk S) (some (.int v)) (fm_mk S1)) (nx : am_Ev (d + 1) 178 61 [some (.ref 231), some (.int x1), some (.int x2), some (.int x3), some (.int x4), some (.int x5), some (.int x6), o7] [.int v] (fm_mk S1) r) : am_Ev (d + 1) 178 56 [some (.ref 231), some (.int x1), some (.int x2), some (.int x3), some (.int x4), some (.int x5), some (.int x6), o7] [] (fm_mk S) r := by
  refine fs_iload (j := 4) (by decide +kernel) rfl ?_
  exact fe_callS (idx := 207) (kd := 0) (n := 1) (wp := 1194) (q := (1195, 0)) (as := [.int x4]) (rs := []) (by decide +kernel) (by decide +kernel) (by decide +kernel) (by decide) rfl (Nat.le_of_ble_eq_true rfl) rfl hc nx
theorem b178_61 {d : Nat} {x1 : Int32} {x2 : Int32} {x3 : Int32} {x4 : Int32} {x5 : Int32} {x6 : Int32} {o7 : Option Value} {sx0 : Int32} {S : fm_S} {r : Option Value × am_W} (kt : x2 ≤ sx0 → am_Ev d 178 67 [some (.ref 231), some (.int x1), some (.int x2), some (.int x3), some (.int x4), some (.int x5), some (.int x6), o7] [] (fm_mk S) r) (kf : ¬ x2 ≤ sx0 → am_Ev d 178 65 [some (.ref 231), some (.int x1), some (.int x2), some (.int x3), some (.int x4), some (.int x5), some (.int x6), o7] [] (fm_mk S) r) : am_Ev d 178 61 [some (.ref 231), some (.int x1), some (.int x2), some (.int x3), some (.int x4), some (.int x5), some (.int x6), o7] [.int sx0] (fm_mk S) r := by
  refine fs_iloadn (j := 2) (by decide +kernel) rfl ?_
  exact fs_icge (off := 5) (tgt := 67) (by decide +kernel) (by decide) kt kf
theorem b178_65 {d : Nat} {x1 : Int32} {x2 : Int32} {x3 : Int32} {x4 : Int32} {x5 : Int32} {x6 : Int32} {o7 : Option Value} {S : fm_S}  : am_Ev d 178 65 [some (.ref 231), some (.int x1), some (.int x2), some (.int x3), some (.int x4), some (.int x5), some (.int x6), o7] [] (fm_mk S) (some (.int (-1)), fm_mk S) := by
  refine fs_iconst (n := -1) (v := (-1)) (by decide +kernel) (by decide) ?_
  exact fe_retI (by decide +kernel) (by decide +kernel)
theorem b178_67 {d : Nat} {x1 : Int32} {x2 : Int32} {x3 : Int32} {x4 : Int32} {x5 : Int32} {x6 : Int32} {o7 : Option Value} {S1 : fm_S} {S : fm_S} {r : Option Value × am_W} (hc : am_Sp d 163 [.ref 232, .ref 239, .int 0, .int 0] (fm_mk S) (none) (fm_mk S1)) (nx : am_Ev (d + 1) 178 80 [some (.ref 231), some (.int x1), some (.int x2), some (.int x3), some (.int x4), some (.int x5), some (.int x6), o7] [] (fm_mk S1) r) : am_Ev (d + 1) 178 67 [some (.ref 231), some (.int x1), some (.int x2), some (.int x3), some (.int x4), some (.int x5), some (.int x6), o7] [] (fm_mk S) r := by
  refine fs_aloadn (j := 0) (by decide +kernel) rfl ?_
  refine fe_getR (idx := 7) (t := 8) (f := 0) (fk := 2) (fin := 1) (wp := 943) (x := 232) (by decide +kernel) (by decide +kernel) (by decide +kernel) (by decide +kernel) (by decide +kernel) ?_
  refine fs_aloadn (j := 0) (by decide +kernel) rfl ?_
  refine fe_getR (idx := 31) (t := 8) (f := 15) (fk := 2) (fin := 1) (wp := 958) (x := 239) (by decide +kernel) (by decide +kernel) (by decide +kernel) (by decide +kernel) (by decide +kernel) ?_
  refine fs_iconst (n := 0) (v := 0) (by decide +kernel) (by decide) ?_
  refine fs_iconst (n := 0) (v := 0) (by decide +kernel) (by decide) ?_
  exact fe_callS (idx := 194) (kd := 0) (n := 4) (wp := 1129) (q := (1130, 0)) (as := [.ref 232, .ref 239, .int 0, .int 0]) (rs := []) (by decide +kernel) (by decide +kernel) (by decide +kernel) (by decide) rfl (Nat.le_of_ble_eq_true rfl) rfl hc nx
theorem b178_80 {d : Nat} {x1 : Int32} {x2 : Int32} {x3 : Int32} {x4 : Int32} {x5 : Int32} {x6 : Int32} {o7 : Option Value} {S : fm_S} {r : Option Value × am_W} (nx : am_Ev d 178 83 [some (.ref 231), some (.int x1), some (.int x2), some (.int x3), some (.int x4), some (.int x5), some (.int 0), o7] [] (fm_mk S) r) : am_Ev d 178 80 [some (.ref 231), some (.int x1), some (.int x2), some (.int x3), some (.int x4), some (.int x5), some (.int x6), o7] [] (fm_mk S) r := by
  refine fs_iconst (n := 0) (v := 0) (by decide +kernel) (by decide) ?_
  refine fs_istore (j := 6) (L' := [some (.ref 231), some (.int x1), some (.int x2), some (.int x3), some (.int x4), some (.int x5), some (.int 0), o7]) (by decide +kernel) (Nat.le_of_ble_eq_true rfl) rfl ?_
  exact nx
theorem b178_83 {d : Nat} {x1 : Int32} {x2 : Int32} {x3 : Int32} {x4 : Int32} {x5 : Int32} {x6 : Int32} {o7 : Option Value} {S : fm_S} {r : Option Value × am_W} (kt : x2 ≤ x6 → am_Ev d 178 108 [some (.ref 231), some (.int x1), some (.int x2), some (.int x3), some (.int x4), some (.int x5), some (.int x6), o7] [] (fm_mk S) r) (kf : ¬ x2 ≤ x6 → am_Ev d 178 89 [some (.ref 231), some (.int x1), some (.int x2), some (.int x3), some (.int x4), some (.int x5), some (.int x6), o7] [] (fm_mk S) r) : am_Ev d 178 83 [some (.ref 231), some (.int x1), some (.int x2), some (.int x3), some (.int x4), some (.int x5), some (.int x6), o7] [] (fm_mk S) r := by
  refine fs_iload (j := 6) (by decide +kernel) rfl ?_
  refine fs_iloadn (j := 2) (by decide +kernel) rfl ?_
  exact fs_icge (off := 22) (tgt := 108) (by decide +kernel) (by decide) kt kf
theorem b178_89 {d : Nat} {x1 : Int32} {x2 : Int32} {x3 : Int32} {x4 : Int32} {x5 : Int32} {x6 : Int32} {o7 : Option Value} {v : Int32} {S1 : fm_S} {S : fm_S} {r : Option Value × am_W} (hc : am_Sp d 179 [.ref 231, .int x1, .int x2, .int x6] (fm_mk S) (some (.int v)) (fm_mk S1)) (nx : am_Ev (d + 1) 178 98 [some (.ref 231), some (.int x1), some (.int x2), some (.int x3), some (.int x4), some (.int x5), some (.int x6), o7] [.int v, .ref 231] (fm_mk S1) r) : am_Ev (d + 1) 178 89 [some (.ref 231), some (.int x1), some (.int x2), some (.int x3), some (.int x4), some (.int x5), some (.int x6), o7] [] (fm_mk S) r := by
  refine fs_aloadn (j := 0) (by decide +kernel) rfl ?_
  refine fs_aloadn (j := 0) (by decide +kernel) rfl ?_
  refine fs_iloadn (j := 1) (by decide +kernel) rfl ?_
  refine fs_iloadn (j := 2) (by decide +kernel) rfl ?_
  refine fs_iload (j := 6) (by decide +kernel) rfl ?_
  exact fe_callV (idx := 204) (n := 3) (wp := 1190) (q := (1192, 51)) (as := [.int x1, .int x2, .int x6]) (rs := [.ref 231]) (by decide +kernel) (by decide +kernel) (by decide +kernel) (by decide +kernel) rfl (Nat.le_of_ble_eq_true rfl) rfl hc nx
theorem b178_98 {d : Nat} {x1 : Int32} {x2 : Int32} {x3 : Int32} {x4 : Int32} {x5 : Int32} {x6 : Int32} {o7 : Option Value} {sx1 : Int32} {v : Int32} {S1 : fm_S} {S : fm_S} {r : Option Value × am_W} (hc : am_Sp d 164 [.ref 231, .int sx1] (fm_mk S) (some (.int v)) (fm_mk S1)) (nx : am_Ev (d + 1) 178 101 [some (.ref 231), some (.int x1), some (.int x2), some (.int x3), some (.int x4), some (.int x5), some (.int x6), o7] [.int v] (fm_mk S1) r) : am_Ev (d + 1) 178 98 [some (.ref 231), some (.int x1), some (.int x2), some (.int x3), some (.int x4), some (.int x5), some (.int x6), o7] [.int sx1, .ref 231] (fm_mk S) r := by
  exact fe_callV (idx := 198) (n := 1) (wp := 1132) (q := (1134, 44)) (as := [.int sx1]) (rs := []) (by decide +kernel) (by decide +kernel) (by decide +kernel) (by decide +kernel) rfl (Nat.le_of_ble_eq_true rfl) rfl hc nx
theorem b178_101 {d : Nat} {x1 : Int32} {x2 : Int32} {x3 : Int32} {x4 : Int32} {x5 : Int32} {x6 : Int32} {o7 : Option Value} {sx0 : Int32} {S : fm_S} {r : Option Value × am_W} (nx : am_Ev d 178 83 [some (.ref 231), some (.int x1), some (.int x2), some (.int x3), some (.int x4), some (.int x5), some (.int (x6 + 1)), o7] [] (fm_mk S) r) : am_Ev d 178 101 [some (.ref 231), some (.int x1), some (.int x2), some (.int x3), some (.int x4), some (.int x5), some (.int x6), o7] [.int sx0] (fm_mk S) r := by
  refine fs_pop (by decide +kernel) rfl ?_
  refine fs_iinc (j := 6) (n := 1) (v := 1) (L' := [some (.ref 231), some (.int x1), some (.int x2), some (.int x3), some (.int x4), some (.int x5), some (.int (x6 + 1)), o7]) (by decide +kernel) rfl (Nat.le_of_ble_eq_true rfl) (by decide) rfl ?_
  refine fs_goto (off := -22) (tgt := 83) (by decide +kernel) (by decide) ?_
  exact nx
theorem b178_108 {d : Nat} {x1 : Int32} {x2 : Int32} {x3 : Int32} {x4 : Int32} {x5 : Int32} {x6 : Int32} {o7 : Option Value} {S : fm_S} {r : Option Value × am_W} (hi0 : vp_in (29 + x3) 373) (kt : (S.1 232 ((29 + x3).toNatClampNeg)) = (-1) → am_Ev d 178 125 [some (.ref 231), some (.int x1), some (.int x2), some (.int x3), some (.int x4), some (.int x5), some (.int x6), o7] [] (fm_mk S) r) (kf : ¬ (S.1 232 ((29 + x3).toNatClampNeg)) = (-1) → am_Ev d 178 121 [some (.ref 231), some (.int x1), some (.int x2), some (.int x3), some (.int x4), some (.int x5), some (.int x6), o7] [] (fm_mk S) r) : am_Ev d 178 108 [some (.ref 231), some (.int x1), some (.int x2), some (.int x3), some (.int x4), some (.int x5), some (.int x6), o7] [] (fm_mk S) r := by
  refine fs_aloadn (j := 0) (by decide +kernel) rfl ?_
  refine fe_getR (idx := 7) (t := 8) (f := 0) (fk := 2) (fin := 1) (wp := 943) (x := 232) (by decide +kernel) (by decide +kernel) (by decide +kernel) (by decide +kernel) (by decide +kernel) ?_
  refine fs_bipush (n := 29) (v := 29) (by decide +kernel) (by decide) ?_
  refine fs_iloadn (j := 3) (by decide +kernel) rfl ?_
  refine fs_iadd (by decide +kernel) ?_
  refine fx_iald (n := (29 + x3).toNatClampNeg) (len := 373) (by decide +kernel) (by decide +kernel) (by decide +kernel) hi0 rfl ?_
  refine fs_iconst (n := -1) (v := (-1)) (by decide +kernel) (by decide) ?_
  exact fs_iceq (off := 7) (tgt := 125) (by decide +kernel) (by decide) kt kf
theorem b178_121 {d : Nat} {x1 : Int32} {x2 : Int32} {x3 : Int32} {x4 : Int32} {x5 : Int32} {x6 : Int32} {o7 : Option Value} {S : fm_S} {r : Option Value × am_W} (nx : am_Ev d 178 126 [some (.ref 231), some (.int x1), some (.int x2), some (.int x3), some (.int x4), some (.int x5), some (.int x6), o7] [.int 1] (fm_mk S) r) : am_Ev d 178 121 [some (.ref 231), some (.int x1), some (.int x2), some (.int x3), some (.int x4), some (.int x5), some (.int x6), o7] [] (fm_mk S) r := by
  refine fs_iconst (n := 1) (v := 1) (by decide +kernel) (by decide) ?_
  refine fs_goto (off := 4) (tgt := 126) (by decide +kernel) (by decide) ?_
  exact nx
theorem b178_125 {d : Nat} {x1 : Int32} {x2 : Int32} {x3 : Int32} {x4 : Int32} {x5 : Int32} {x6 : Int32} {o7 : Option Value} {S : fm_S} {r : Option Value × am_W} (nx : am_Ev d 178 126 [some (.ref 231), some (.int x1), some (.int x2), some (.int x3), some (.int x4), some (.int x5), some (.int x6), o7] [.int 0] (fm_mk S) r) : am_Ev d 178 125 [some (.ref 231), some (.int x1), some (.int x2), some (.int x3), some (.int x4), some (.int x5), some (.int x6), o7] [] (fm_mk S) r := by
  refine fs_iconst (n := 0) (v := 0) (by decide +kernel) (by decide) ?_
  exact nx
theorem b178_126 {d : Nat} {x1 : Int32} {x2 : Int32} {x3 : Int32} {x4 : Int32} {x5 : Int32} {x6 : Int32} {o7 : Option Value} {sx0 : Int32} {S1 : fm_S} {S : fm_S} {r : Option Value × am_W} (hc : am_Sp d 163 [.ref 239, .ref 232, .int 0, .int 1] (fm_mk S) (none) (fm_mk S1)) (nx : am_Ev (d + 1) 178 141 [some (.ref 231), some (.int x1), some (.int x2), some (.int x3), some (.int x4), some (.int x5), some (.int sx0), o7] [] (fm_mk S1) r) : am_Ev (d + 1) 178 126 [some (.ref 231), some (.int x1), some (.int x2), some (.int x3), some (.int x4), some (.int x5), some (.int x6), o7] [.int sx0] (fm_mk S) r := by
  refine fs_istore (j := 6) (L' := [some (.ref 231), some (.int x1), some (.int x2), some (.int x3), some (.int x4), some (.int x5), some (.int sx0), o7]) (by decide +kernel) (Nat.le_of_ble_eq_true rfl) rfl ?_
  refine fs_aloadn (j := 0) (by decide +kernel) rfl ?_
  refine fe_getR (idx := 31) (t := 8) (f := 15) (fk := 2) (fin := 1) (wp := 958) (x := 239) (by decide +kernel) (by decide +kernel) (by decide +kernel) (by decide +kernel) (by decide +kernel) ?_
  refine fs_aloadn (j := 0) (by decide +kernel) rfl ?_
  refine fe_getR (idx := 7) (t := 8) (f := 0) (fk := 2) (fin := 1) (wp := 943) (x := 232) (by decide +kernel) (by decide +kernel) (by decide +kernel) (by decide +kernel) (by decide +kernel) ?_
  refine fs_iconst (n := 0) (v := 0) (by decide +kernel) (by decide) ?_
  refine fs_iconst (n := 1) (v := 1) (by decide +kernel) (by decide) ?_
  exact fe_callS (idx := 194) (kd := 0) (n := 4) (wp := 1129) (q := (1130, 0)) (as := [.ref 239, .ref 232, .int 0, .int 1]) (rs := []) (by decide +kernel) (by decide +kernel) (by decide +kernel) (by decide) rfl (Nat.le_of_ble_eq_true rfl) rfl hc nx
theorem b178_141 {d : Nat} {x1 : Int32} {x2 : Int32} {x3 : Int32} {x4 : Int32} {x5 : Int32} {x6 : Int32} {o7 : Option Value} {S : fm_S} {r : Option Value × am_W} (kt : x6 = 0 → am_Ev d 178 151 [some (.ref 231), some (.int x1), some (.int x2), some (.int x3), some (.int x4), some (.int x5), some (.int x6), o7] [] (fm_mk S) r) (kf : ¬ x6 = 0 → am_Ev d 178 146 [some (.ref 231), some (.int x1), some (.int x2), some (.int x3), some (.int x4), some (.int x5), some (.int x6), o7] [] (fm_mk S) r) : am_Ev d 178 141 [some (.ref 231), some (.int x1), some (.int x2), some (.int x3), some (.int x4), some (.int x5), some (.int x6), o7] [] (fm_mk S) r := by
  refine fs_iload (j := 6) (by decide +kernel) rfl ?_
  exact fs_ifeq (off := 8) (tgt := 151) (by decide +kernel) (by decide) kt kf
theorem b178_146 {d : Nat} {x1 : Int32} {x2 : Int32} {x3 : Int32} {x4 : Int32} {x5 : Int32} {x6 : Int32} {o7 : Option Value} {S : fm_S} {r : Option Value × am_W} (nx : am_Ev d 178 152 [some (.ref 231), some (.int x1), some (.int x2), some (.int x3), some (.int x4), some (.int x5), some (.int x6), o7] [.int x5] (fm_mk S) r) : am_Ev d 178 146 [some (.ref 231), some (.int x1), some (.int x2), some (.int x3), some (.int x4), some (.int x5), some (.int x6), o7] [] (fm_mk S) r := by
  refine fs_iload (j := 5) (by decide +kernel) rfl ?_
  refine fs_goto (off := 4) (tgt := 152) (by decide +kernel) (by decide) ?_
  exact nx
theorem b178_151 {d : Nat} {x1 : Int32} {x2 : Int32} {x3 : Int32} {x4 : Int32} {x5 : Int32} {x6 : Int32} {o7 : Option Value} {S : fm_S} {r : Option Value × am_W} (nx : am_Ev d 178 152 [some (.ref 231), some (.int x1), some (.int x2), some (.int x3), some (.int x4), some (.int x5), some (.int x6), o7] [.int (-1)] (fm_mk S) r) : am_Ev d 178 151 [some (.ref 231), some (.int x1), some (.int x2), some (.int x3), some (.int x4), some (.int x5), some (.int x6), o7] [] (fm_mk S) r := by
  refine fs_iconst (n := -1) (v := (-1)) (by decide +kernel) (by decide) ?_
  exact nx
theorem b178_152 {d : Nat} {x1 : Int32} {x2 : Int32} {x3 : Int32} {x4 : Int32} {x5 : Int32} {x6 : Int32} {o7 : Option Value} {sx0 : Int32} {S : fm_S}  : am_Ev d 178 152 [some (.ref 231), some (.int x1), some (.int x2), some (.int x3), some (.int x4), some (.int x5), some (.int x6), o7] [.int sx0] (fm_mk S) (some (.int sx0), fm_mk S) := by
  exact fe_retI (by decide +kernel) (by decide +kernel)
-- KitchenSiegeModel.dishIn(III)I
theorem b179_0 {d : Nat} {x1 : Int32} {x2 : Int32} {x3 : Int32} {o4 : Option Value} {o5 : Option Value} {S : fm_S} {r : Option Value × am_W} (nx : am_Ev d 179 8 [some (.ref 231), some (.int x1), some (.int x2), some (.int x3), some (.int x1), some (.int (x2 - 1))] [] (fm_mk S) r) : am_Ev d 179 0 [some (.ref 231), some (.int x1), some (.int x2), some (.int x3), o4, o5] [] (fm_mk S) r := by
  refine fs_iloadn (j := 1) (by decide +kernel) rfl ?_
  refine fs_istore (j := 4) (L' := [some (.ref 231), some (.int x1), some (.int x2), some (.int x3), some (.int x1), o5]) (by decide +kernel) (Nat.le_of_ble_eq_true rfl) rfl ?_
  refine fs_iloadn (j := 2) (by decide +kernel) rfl ?_
  refine fs_iconst (n := 1) (v := 1) (by decide +kernel) (by decide) ?_
  refine fs_isub (by decide +kernel) ?_
  refine fs_istore (j := 5) (L' := [some (.ref 231), some (.int x1), some (.int x2), some (.int x3), some (.int x1), some (.int (x2 - 1))]) (by decide +kernel) (Nat.le_of_ble_eq_true rfl) rfl ?_
  exact nx
theorem b179_8 {d : Nat} {x1 : Int32} {x2 : Int32} {x3 : Int32} {x4 : Int32} {x5 : Int32} {S : fm_S} {r : Option Value × am_W} (kt : x5 ≤ x3 → am_Ev d 179 31 [some (.ref 231), some (.int x1), some (.int x2), some (.int x3), some (.int x4), some (.int x5)] [] (fm_mk S) r) (kf : ¬ x5 ≤ x3 → am_Ev d 179 14 [some (.ref 231), some (.int x1), some (.int x2), some (.int x3), some (.int x4), some (.int x5)] [] (fm_mk S) r) : am_Ev d 179 8 [some (.ref 231), some (.int x1), some (.int x2), some (.int x3), some (.int x4), some (.int x5)] [] (fm_mk S) r := by
  refine fs_iload (j := 5) (by decide +kernel) rfl ?_
  refine fs_iloadn (j := 3) (by decide +kernel) rfl ?_
  exact fs_icle (off := 20) (tgt := 31) (by decide +kernel) (by decide) kt kf
theorem b179_14 {d : Nat} {x1 : Int32} {x2 : Int32} {x3 : Int32} {x4 : Int32} {x5 : Int32} {S : fm_S} {r : Option Value × am_W} (hd0 : ¬ (S.1 232 1) = 0) (nx : am_Ev d 179 8 [some (.ref 231), some (.int x1), some (.int x2), some (.int x3), some (.int (x4 / (S.1 232 1))), some (.int (x5 + (-1)))] [] (fm_mk S) r) : am_Ev d 179 14 [some (.ref 231), some (.int x1), some (.int x2), some (.int x3), some (.int x4), some (.int x5)] [] (fm_mk S) r := by
  refine fs_iload (j := 4) (by decide +kernel) rfl ?_
  refine fs_aloadn (j := 0) (by decide +kernel) rfl ?_
  refine fe_getR (idx := 7) (t := 8) (f := 0) (fk := 2) (fin := 1) (wp := 943) (x := 232) (by decide +kernel) (by decide +kernel) (by decide +kernel) (by decide +kernel) (by decide +kernel) ?_
  refine fs_iconst (n := 1) (v := 1) (by decide +kernel) (by decide) ?_
  refine fx_iald (n := 1) (len := 373) (by decide +kernel) (by decide +kernel) (by decide +kernel) (vp_c (by decide) (by decide)) (by decide) ?_
  refine fe_idiv (by decide +kernel) hd0 ?_
  refine fs_istore (j := 4) (L' := [some (.ref 231), some (.int x1), some (.int x2), some (.int x3), some (.int (x4 / (S.1 232 1))), some (.int x5)]) (by decide +kernel) (Nat.le_of_ble_eq_true rfl) rfl ?_
  refine fs_iinc (j := 5) (n := -1) (v := (-1)) (L' := [some (.ref 231), some (.int x1), some (.int x2), some (.int x3), some (.int (x4 / (S.1 232 1))), some (.int (x5 + (-1)))]) (by decide +kernel) rfl (Nat.le_of_ble_eq_true rfl) (by decide) rfl ?_
  refine fs_goto (off := -20) (tgt := 8) (by decide +kernel) (by decide) ?_
  exact nx
theorem b179_31 {d : Nat} {x1 : Int32} {x2 : Int32} {x3 : Int32} {x4 : Int32} {x5 : Int32} {S : fm_S}  (hd0 : ¬ (S.1 232 1) = 0) : am_Ev d 179 31 [some (.ref 231), some (.int x1), some (.int x2), some (.int x3), some (.int x4), some (.int x5)] [] (fm_mk S) (some (.int (x4 - x4 / (S.1 232 1) * (S.1 232 1))), fm_mk S) := by
  refine fs_iload (j := 4) (by decide +kernel) rfl ?_
  refine fs_aloadn (j := 0) (by decide +kernel) rfl ?_
  refine fe_getR (idx := 7) (t := 8) (f := 0) (fk := 2) (fin := 1) (wp := 943) (x := 232) (by decide +kernel) (by decide +kernel) (by decide +kernel) (by decide +kernel) (by decide +kernel) ?_
  refine fs_iconst (n := 1) (v := 1) (by decide +kernel) (by decide) ?_
  refine fx_iald (n := 1) (len := 373) (by decide +kernel) (by decide +kernel) (by decide +kernel) (vp_c (by decide) (by decide)) (by decide) ?_
  refine fe_irem (by decide +kernel) hd0 ?_
  exact fe_retI (by decide +kernel) (by decide +kernel)
-- KitchenSiegeModel.bits(I)I
theorem b180_0 {d : Nat} {x0 : Int32} {o1 : Option Value} {o2 : Option Value} {S : fm_S} {r : Option Value × am_W} (nx : am_Ev d 180 4 [some (.int x0), some (.int 0), some (.int 0)] [] (fm_mk S) r) : am_Ev d 180 0 [some (.int x0), o1, o2] [] (fm_mk S) r := by
  refine fs_iconst (n := 0) (v := 0) (by decide +kernel) (by decide) ?_
  refine fs_istoren (j := 1) (L' := [some (.int x0), some (.int 0), o2]) (by decide +kernel) (Nat.le_of_ble_eq_true rfl) rfl ?_
  refine fs_iconst (n := 0) (v := 0) (by decide +kernel) (by decide) ?_
  refine fs_istoren (j := 2) (L' := [some (.int x0), some (.int 0), some (.int 0)]) (by decide +kernel) (Nat.le_of_ble_eq_true rfl) rfl ?_
  exact nx
theorem b180_4 {d : Nat} {x0 : Int32} {x1 : Int32} {x2 : Int32} {S : fm_S} {r : Option Value × am_W} (kt : 8 ≤ x2 → am_Ev d 180 24 [some (.int x0), some (.int x1), some (.int x2)] [] (fm_mk S) r) (kf : ¬ 8 ≤ x2 → am_Ev d 180 10 [some (.int x0), some (.int x1), some (.int x2)] [] (fm_mk S) r) : am_Ev d 180 4 [some (.int x0), some (.int x1), some (.int x2)] [] (fm_mk S) r := by
  refine fs_iloadn (j := 2) (by decide +kernel) rfl ?_
  refine fs_bipush (n := 8) (v := 8) (by decide +kernel) (by decide) ?_
  exact fs_icge (off := 17) (tgt := 24) (by decide +kernel) (by decide) kt kf
theorem b180_10 {d : Nat} {x0 : Int32} {x1 : Int32} {x2 : Int32} {S : fm_S} {r : Option Value × am_W} (nx : am_Ev d 180 4 [some (.int x0), some (.int (x1 + ((x0 >>> (x2 &&& 31)) &&& 1))), some (.int (x2 + 1))] [] (fm_mk S) r) : am_Ev d 180 10 [some (.int x0), some (.int x1), some (.int x2)] [] (fm_mk S) r := by
  refine fs_iloadn (j := 1) (by decide +kernel) rfl ?_
  refine fs_iloadn (j := 0) (by decide +kernel) rfl ?_
  refine fs_iloadn (j := 2) (by decide +kernel) rfl ?_
  refine fs_ishr (by decide +kernel) ?_
  refine fs_iconst (n := 1) (v := 1) (by decide +kernel) (by decide) ?_
  refine fs_iand (by decide +kernel) ?_
  refine fs_iadd (by decide +kernel) ?_
  refine fs_istoren (j := 1) (L' := [some (.int x0), some (.int (x1 + ((x0 >>> (x2 &&& 31)) &&& 1))), some (.int x2)]) (by decide +kernel) (Nat.le_of_ble_eq_true rfl) rfl ?_
  refine fs_iinc (j := 2) (n := 1) (v := 1) (L' := [some (.int x0), some (.int (x1 + ((x0 >>> (x2 &&& 31)) &&& 1))), some (.int (x2 + 1))]) (by decide +kernel) rfl (Nat.le_of_ble_eq_true rfl) (by decide) rfl ?_
  refine fs_goto (off := -17) (tgt := 4) (by decide +kernel) (by decide) ?_
  exact nx
theorem b180_24 {d : Nat} {x0 : Int32} {x1 : Int32} {x2 : Int32} {S : fm_S}  : am_Ev d 180 24 [some (.int x0), some (.int x1), some (.int x2)] [] (fm_mk S) (some (.int x1), fm_mk S) := by
  refine fs_iloadn (j := 1) (by decide +kernel) rfl ?_
  exact fe_retI (by decide +kernel) (by decide +kernel)
-- KitchenSiegeModel.never()I
theorem b181_0 {d : Nat} {o1 : Option Value} {o2 : Option Value} {o3 : Option Value} {o4 : Option Value} {S : fm_S} {r : Option Value × am_W} (nx : am_Ev d 181 4 [some (.ref 231), some (.int 0), some (.int 0), o3, o4] [] (fm_mk S) r) : am_Ev d 181 0 [some (.ref 231), o1, o2, o3, o4] [] (fm_mk S) r := by
  refine fs_iconst (n := 0) (v := 0) (by decide +kernel) (by decide) ?_
  refine fs_istoren (j := 1) (L' := [some (.ref 231), some (.int 0), o2, o3, o4]) (by decide +kernel) (Nat.le_of_ble_eq_true rfl) rfl ?_
  refine fs_iconst (n := 0) (v := 0) (by decide +kernel) (by decide) ?_
  refine fs_istoren (j := 2) (L' := [some (.ref 231), some (.int 0), some (.int 0), o3, o4]) (by decide +kernel) (Nat.le_of_ble_eq_true rfl) rfl ?_
  exact nx
theorem b181_4 {d : Nat} {x1 : Int32} {x2 : Int32} {o3 : Option Value} {o4 : Option Value} {S : fm_S} {r : Option Value × am_W} (kt : (S.1 232 0) ≤ x2 → am_Ev d 181 95 [some (.ref 231), some (.int x1), some (.int x2), o3, o4] [] (fm_mk S) r) (kf : ¬ (S.1 232 0) ≤ x2 → am_Ev d 181 14 [some (.ref 231), some (.int x1), some (.int x2), o3, o4] [] (fm_mk S) r) : am_Ev d 181 4 [some (.ref 231), some (.int x1), some (.int x2), o3, o4] [] (fm_mk S) r := by
  refine fs_iloadn (j := 2) (by decide +kernel) rfl ?_
  refine fs_aloadn (j := 0) (by decide +kernel) rfl ?_
  refine fe_getR (idx := 7) (t := 8) (f := 0) (fk := 2) (fin := 1) (wp := 943) (x := 232) (by decide +kernel) (by decide +kernel) (by decide +kernel) (by decide +kernel) (by decide +kernel) ?_
  refine fs_iconst (n := 0) (v := 0) (by decide +kernel) (by decide) ?_
  refine fx_iald (n := 0) (len := 373) (by decide +kernel) (by decide +kernel) (by decide +kernel) (vp_c (by decide) (by decide)) (by decide) ?_
  exact fs_icge (off := 84) (tgt := 95) (by decide +kernel) (by decide) kt kf
theorem b181_14 {d : Nat} {x1 : Int32} {x2 : Int32} {o3 : Option Value} {o4 : Option Value} {S : fm_S} {r : Option Value × am_W} (hi0 : vp_in (29 + x2) 373) (kt : ¬ (S.1 232 ((29 + x2).toNatClampNeg)) = (-1) → am_Ev d 181 31 [some (.ref 231), some (.int x1), some (.int x2), o3, o4] [] (fm_mk S) r) (kf : (S.1 232 ((29 + x2).toNatClampNeg)) = (-1) → am_Ev d 181 27 [some (.ref 231), some (.int x1), some (.int x2), o3, o4] [] (fm_mk S) r) : am_Ev d 181 14 [some (.ref 231), some (.int x1), some (.int x2), o3, o4] [] (fm_mk S) r := by
  refine fs_aloadn (j := 0) (by decide +kernel) rfl ?_
  refine fe_getR (idx := 7) (t := 8) (f := 0) (fk := 2) (fin := 1) (wp := 943) (x := 232) (by decide +kernel) (by decide +kernel) (by decide +kernel) (by decide +kernel) (by decide +kernel) ?_
  refine fs_bipush (n := 29) (v := 29) (by decide +kernel) (by decide) ?_
  refine fs_iloadn (j := 2) (by decide +kernel) rfl ?_
  refine fs_iadd (by decide +kernel) ?_
  refine fx_iald (n := (29 + x2).toNatClampNeg) (len := 373) (by decide +kernel) (by decide +kernel) (by decide +kernel) hi0 rfl ?_
  refine fs_iconst (n := -1) (v := (-1)) (by decide +kernel) (by decide) ?_
  exact fs_icne (off := 7) (tgt := 31) (by decide +kernel) (by decide) kt kf
theorem b181_27 {d : Nat} {x1 : Int32} {x2 : Int32} {o3 : Option Value} {o4 : Option Value} {S : fm_S} {r : Option Value × am_W} (nx : am_Ev d 181 32 [some (.ref 231), some (.int x1), some (.int x2), o3, o4] [.int 1] (fm_mk S) r) : am_Ev d 181 27 [some (.ref 231), some (.int x1), some (.int x2), o3, o4] [] (fm_mk S) r := by
  refine fs_iconst (n := 1) (v := 1) (by decide +kernel) (by decide) ?_
  refine fs_goto (off := 4) (tgt := 32) (by decide +kernel) (by decide) ?_
  exact nx
theorem b181_31 {d : Nat} {x1 : Int32} {x2 : Int32} {o3 : Option Value} {o4 : Option Value} {S : fm_S} {r : Option Value × am_W} (nx : am_Ev d 181 32 [some (.ref 231), some (.int x1), some (.int x2), o3, o4] [.int 0] (fm_mk S) r) : am_Ev d 181 31 [some (.ref 231), some (.int x1), some (.int x2), o3, o4] [] (fm_mk S) r := by
  refine fs_iconst (n := 0) (v := 0) (by decide +kernel) (by decide) ?_
  exact nx
theorem b181_32 {d : Nat} {x1 : Int32} {x2 : Int32} {o3 : Option Value} {o4 : Option Value} {sx0 : Int32} {S : fm_S} {r : Option Value × am_W} (nx : am_Ev d 181 36 [some (.ref 231), some (.int x1), some (.int x2), some (.int sx0), some (.int 0)] [] (fm_mk S) r) : am_Ev d 181 32 [some (.ref 231), some (.int x1), some (.int x2), o3, o4] [.int sx0] (fm_mk S) r := by
  refine fs_istoren (j := 3) (L' := [some (.ref 231), some (.int x1), some (.int x2), some (.int sx0), o4]) (by decide +kernel) (Nat.le_of_ble_eq_true rfl) rfl ?_
  refine fs_iconst (n := 0) (v := 0) (by decide +kernel) (by decide) ?_
  refine fs_istore (j := 4) (L' := [some (.ref 231), some (.int x1), some (.int x2), some (.int sx0), some (.int 0)]) (by decide +kernel) (Nat.le_of_ble_eq_true rfl) rfl ?_
  exact nx
theorem b181_36 {d : Nat} {x1 : Int32} {x2 : Int32} {x3 : Int32} {x4 : Int32} {S : fm_S} {r : Option Value × am_W} (kt : (S.1 232 1) ≤ x4 → am_Ev d 181 75 [some (.ref 231), some (.int x1), some (.int x2), some (.int x3), some (.int x4)] [] (fm_mk S) r) (kf : ¬ (S.1 232 1) ≤ x4 → am_Ev d 181 47 [some (.ref 231), some (.int x1), some (.int x2), some (.int x3), some (.int x4)] [] (fm_mk S) r) : am_Ev d 181 36 [some (.ref 231), some (.int x1), some (.int x2), some (.int x3), some (.int x4)] [] (fm_mk S) r := by
  refine fs_iload (j := 4) (by decide +kernel) rfl ?_
  refine fs_aloadn (j := 0) (by decide +kernel) rfl ?_
  refine fe_getR (idx := 7) (t := 8) (f := 0) (fk := 2) (fin := 1) (wp := 943) (x := 232) (by decide +kernel) (by decide +kernel) (by decide +kernel) (by decide +kernel) (by decide +kernel) ?_
  refine fs_iconst (n := 1) (v := 1) (by decide +kernel) (by decide) ?_
  refine fx_iald (n := 1) (len := 373) (by decide +kernel) (by decide +kernel) (by decide +kernel) (vp_c (by decide) (by decide)) (by decide) ?_
  exact fs_icge (off := 31) (tgt := 75) (by decide +kernel) (by decide) kt kf
theorem b181_47 {d : Nat} {x1 : Int32} {x2 : Int32} {x3 : Int32} {x4 : Int32} {S : fm_S} {r : Option Value × am_W} (kt : x3 = 0 → am_Ev d 181 67 [some (.ref 231), some (.int x1), some (.int x2), some (.int x3), some (.int x4)] [] (fm_mk S) r) (kf : ¬ x3 = 0 → am_Ev d 181 51 [some (.ref 231), some (.int x1), some (.int x2), some (.int x3), some (.int x4)] [] (fm_mk S) r) : am_Ev d 181 47 [some (.ref 231), some (.int x1), some (.int x2), some (.int x3), some (.int x4)] [] (fm_mk S) r := by
  refine fs_iloadn (j := 3) (by decide +kernel) rfl ?_
  exact fs_ifeq (off := 19) (tgt := 67) (by decide +kernel) (by decide) kt kf
theorem b181_51 {d : Nat} {x1 : Int32} {x2 : Int32} {x3 : Int32} {x4 : Int32} {v : Int32} {S1 : fm_S} {S : fm_S} {r : Option Value × am_W} (hc : am_Sp d 182 [.ref 231, .int x4, .int x2, .int 28] (fm_mk S) (some (.int v)) (fm_mk S1)) (nx : am_Ev (d + 1) 181 60 [some (.ref 231), some (.int x1), some (.int x2), some (.int x3), some (.int x4)] [.int v] (fm_mk S1) r) : am_Ev (d + 1) 181 51 [some (.ref 231), some (.int x1), some (.int x2), some (.int x3), some (.int x4)] [] (fm_mk S) r := by
  refine fs_aloadn (j := 0) (by decide +kernel) rfl ?_
  refine fs_iload (j := 4) (by decide +kernel) rfl ?_
  refine fs_iloadn (j := 2) (by decide +kernel) rfl ?_
  refine fs_bipush (n := 28) (v := 28) (by decide +kernel) (by decide) ?_
  exact fe_callV (idx := 216) (n := 3) (wp := 1201) (q := (1203, 52)) (as := [.int x4, .int x2, .int 28]) (rs := []) (by decide +kernel) (by decide +kernel) (by decide +kernel) (by decide +kernel) rfl (Nat.le_of_ble_eq_true rfl) rfl hc nx
theorem b181_60 {d : Nat} {x1 : Int32} {x2 : Int32} {x3 : Int32} {x4 : Int32} {sx0 : Int32} {S : fm_S} {r : Option Value × am_W} (kt : ¬ sx0 = 0 → am_Ev d 181 67 [some (.ref 231), some (.int x1), some (.int x2), some (.int x3), some (.int x4)] [] (fm_mk S) r) (kf : sx0 = 0 → am_Ev d 181 63 [some (.ref 231), some (.int x1), some (.int x2), some (.int x3), some (.int x4)] [] (fm_mk S) r) : am_Ev d 181 60 [some (.ref 231), some (.int x1), some (.int x2), some (.int x3), some (.int x4)] [.int sx0] (fm_mk S) r := by
  exact fs_ifne (off := 7) (tgt := 67) (by decide +kernel) (by decide) kt kf
theorem b181_63 {d : Nat} {x1 : Int32} {x2 : Int32} {x3 : Int32} {x4 : Int32} {S : fm_S} {r : Option Value × am_W} (nx : am_Ev d 181 68 [some (.ref 231), some (.int x1), some (.int x2), some (.int x3), some (.int x4)] [.int 1] (fm_mk S) r) : am_Ev d 181 63 [some (.ref 231), some (.int x1), some (.int x2), some (.int x3), some (.int x4)] [] (fm_mk S) r := by
  refine fs_iconst (n := 1) (v := 1) (by decide +kernel) (by decide) ?_
  refine fs_goto (off := 4) (tgt := 68) (by decide +kernel) (by decide) ?_
  exact nx
theorem b181_67 {d : Nat} {x1 : Int32} {x2 : Int32} {x3 : Int32} {x4 : Int32} {S : fm_S} {r : Option Value × am_W} (nx : am_Ev d 181 68 [some (.ref 231), some (.int x1), some (.int x2), some (.int x3), some (.int x4)] [.int 0] (fm_mk S) r) : am_Ev d 181 67 [some (.ref 231), some (.int x1), some (.int x2), some (.int x3), some (.int x4)] [] (fm_mk S) r := by
  refine fs_iconst (n := 0) (v := 0) (by decide +kernel) (by decide) ?_
  exact nx
theorem b181_68 {d : Nat} {x1 : Int32} {x2 : Int32} {x3 : Int32} {x4 : Int32} {sx0 : Int32} {S : fm_S} {r : Option Value × am_W} (nx : am_Ev d 181 36 [some (.ref 231), some (.int x1), some (.int x2), some (.int sx0), some (.int (x4 + 1))] [] (fm_mk S) r) : am_Ev d 181 68 [some (.ref 231), some (.int x1), some (.int x2), some (.int x3), some (.int x4)] [.int sx0] (fm_mk S) r := by
  refine fs_istoren (j := 3) (L' := [some (.ref 231), some (.int x1), some (.int x2), some (.int sx0), some (.int x4)]) (by decide +kernel) (Nat.le_of_ble_eq_true rfl) rfl ?_
  refine fs_iinc (j := 4) (n := 1) (v := 1) (L' := [some (.ref 231), some (.int x1), some (.int x2), some (.int sx0), some (.int (x4 + 1))]) (by decide +kernel) rfl (Nat.le_of_ble_eq_true rfl) (by decide) rfl ?_
  refine fs_goto (off := -36) (tgt := 36) (by decide +kernel) (by decide) ?_
  exact nx
theorem b181_75 {d : Nat} {x1 : Int32} {x2 : Int32} {x3 : Int32} {x4 : Int32} {S : fm_S} {r : Option Value × am_W} (kt : x3 = 0 → am_Ev d 181 86 [some (.ref 231), some (.int x1), some (.int x2), some (.int x3), some (.int x4)] [.int x1] (fm_mk S) r) (kf : ¬ x3 = 0 → am_Ev d 181 80 [some (.ref 231), some (.int x1), some (.int x2), some (.int x3), some (.int x4)] [.int x1] (fm_mk S) r) : am_Ev d 181 75 [some (.ref 231), some (.int x1), some (.int x2), some (.int x3), some (.int x4)] [] (fm_mk S) r := by
  refine fs_iloadn (j := 1) (by decide +kernel) rfl ?_
  refine fs_iloadn (j := 3) (by decide +kernel) rfl ?_
  exact fs_ifeq (off := 9) (tgt := 86) (by decide +kernel) (by decide) kt kf
theorem b181_80 {d : Nat} {x1 : Int32} {x2 : Int32} {x3 : Int32} {x4 : Int32} {sx0 : Int32} {S : fm_S} {r : Option Value × am_W} (nx : am_Ev d 181 87 [some (.ref 231), some (.int x1), some (.int x2), some (.int x3), some (.int x4)] [.int (1 <<< (x2 &&& 31)), .int sx0] (fm_mk S) r) : am_Ev d 181 80 [some (.ref 231), some (.int x1), some (.int x2), some (.int x3), some (.int x4)] [.int sx0] (fm_mk S) r := by
  refine fs_iconst (n := 1) (v := 1) (by decide +kernel) (by decide) ?_
  refine fs_iloadn (j := 2) (by decide +kernel) rfl ?_
  refine fs_ishl (by decide +kernel) ?_
  refine fs_goto (off := 4) (tgt := 87) (by decide +kernel) (by decide) ?_
  exact nx
theorem b181_86 {d : Nat} {x1 : Int32} {x2 : Int32} {x3 : Int32} {x4 : Int32} {sx0 : Int32} {S : fm_S} {r : Option Value × am_W} (nx : am_Ev d 181 87 [some (.ref 231), some (.int x1), some (.int x2), some (.int x3), some (.int x4)] [.int 0, .int sx0] (fm_mk S) r) : am_Ev d 181 86 [some (.ref 231), some (.int x1), some (.int x2), some (.int x3), some (.int x4)] [.int sx0] (fm_mk S) r := by
  refine fs_iconst (n := 0) (v := 0) (by decide +kernel) (by decide) ?_
  exact nx
theorem b181_87 {d : Nat} {x1 : Int32} {x2 : Int32} {x3 : Int32} {x4 : Int32} {sx0 : Int32} {sx1 : Int32} {S : fm_S} {r : Option Value × am_W} (nx : am_Ev d 181 4 [some (.ref 231), some (.int (sx0 ||| sx1)), some (.int (x2 + 1)), some (.int x3), some (.int x4)] [] (fm_mk S) r) : am_Ev d 181 87 [some (.ref 231), some (.int x1), some (.int x2), some (.int x3), some (.int x4)] [.int sx1, .int sx0] (fm_mk S) r := by
  refine fs_ior (by decide +kernel) ?_
  refine fs_istoren (j := 1) (L' := [some (.ref 231), some (.int (sx0 ||| sx1)), some (.int x2), some (.int x3), some (.int x4)]) (by decide +kernel) (Nat.le_of_ble_eq_true rfl) rfl ?_
  refine fs_iinc (j := 2) (n := 1) (v := 1) (L' := [some (.ref 231), some (.int (sx0 ||| sx1)), some (.int (x2 + 1)), some (.int x3), some (.int x4)]) (by decide +kernel) rfl (Nat.le_of_ble_eq_true rfl) (by decide) rfl ?_
  refine fs_goto (off := -88) (tgt := 4) (by decide +kernel) (by decide) ?_
  exact nx
theorem b181_95 {d : Nat} {x1 : Int32} {x2 : Int32} {o3 : Option Value} {o4 : Option Value} {S : fm_S}  : am_Ev d 181 95 [some (.ref 231), some (.int x1), some (.int x2), o3, o4] [] (fm_mk S) (some (.int x1), fm_mk S) := by
  refine fs_iloadn (j := 1) (by decide +kernel) rfl ?_
  exact fe_retI (by decide +kernel) (by decide +kernel)
-- KitchenSiegeModel.opensIn(III)Z
theorem b182_0 {d : Nat} {x1 : Int32} {x2 : Int32} {x3 : Int32} {o4 : Option Value} {o5 : Option Value} {S : fm_S} {r : Option Value × am_W} (nx : am_Ev d 182 6 [some (.ref 231), some (.int x1), some (.int x2), some (.int x3), some (.int 0), some (.int 0)] [] (fm_mk S) r) : am_Ev d 182 0 [some (.ref 231), some (.int x1), some (.int x2), some (.int x3), o4, o5] [] (fm_mk S) r := by
  refine fs_iconst (n := 0) (v := 0) (by decide +kernel) (by decide) ?_
  refine fs_istore (j := 4) (L' := [some (.ref 231), some (.int x1), some (.int x2), some (.int x3), some (.int 0), o5]) (by decide +kernel) (Nat.le_of_ble_eq_true rfl) rfl ?_
  refine fs_iconst (n := 0) (v := 0) (by decide +kernel) (by decide) ?_
  refine fs_istore (j := 5) (L' := [some (.ref 231), some (.int x1), some (.int x2), some (.int x3), some (.int 0), some (.int 0)]) (by decide +kernel) (Nat.le_of_ble_eq_true rfl) rfl ?_
  exact nx
theorem b182_6 {d : Nat} {x1 : Int32} {x2 : Int32} {x3 : Int32} {x4 : Int32} {x5 : Int32} {S : fm_S} {r : Option Value × am_W} (kt : x3 ≤ x5 → am_Ev d 182 48 [some (.ref 231), some (.int x1), some (.int x2), some (.int x3), some (.int x4), some (.int x5)] [] (fm_mk S) r) (kf : ¬ x3 ≤ x5 → am_Ev d 182 12 [some (.ref 231), some (.int x1), some (.int x2), some (.int x3), some (.int x4), some (.int x5)] [] (fm_mk S) r) : am_Ev d 182 6 [some (.ref 231), some (.int x1), some (.int x2), some (.int x3), some (.int x4), some (.int x5)] [] (fm_mk S) r := by
  refine fs_iload (j := 5) (by decide +kernel) rfl ?_
  refine fs_iloadn (j := 3) (by decide +kernel) rfl ?_
  exact fs_icge (off := 39) (tgt := 48) (by decide +kernel) (by decide) kt kf
theorem b182_12 {d : Nat} {x1 : Int32} {x2 : Int32} {x3 : Int32} {x4 : Int32} {x5 : Int32} {S : fm_S} {r : Option Value × am_W} (kt : ¬ x4 = 0 → am_Ev d 182 35 [some (.ref 231), some (.int x1), some (.int x2), some (.int x3), some (.int x4), some (.int x5)] [] (fm_mk S) r) (kf : x4 = 0 → am_Ev d 182 17 [some (.ref 231), some (.int x1), some (.int x2), some (.int x3), some (.int x4), some (.int x5)] [] (fm_mk S) r) : am_Ev d 182 12 [some (.ref 231), some (.int x1), some (.int x2), some (.int x3), some (.int x4), some (.int x5)] [] (fm_mk S) r := by
  refine fs_iload (j := 4) (by decide +kernel) rfl ?_
  exact fs_ifne (off := 21) (tgt := 35) (by decide +kernel) (by decide) kt kf
theorem b182_17 {d : Nat} {x1 : Int32} {x2 : Int32} {x3 : Int32} {x4 : Int32} {x5 : Int32} {v : Int32} {S1 : fm_S} {S : fm_S} {r : Option Value × am_W} (hc : am_Sp d 183 [.ref 231, .int x1, .int x2, .int ((S.1 232 4) + x5)] (fm_mk S) (some (.int v)) (fm_mk S1)) (nx : am_Ev (d + 1) 182 32 [some (.ref 231), some (.int x1), some (.int x2), some (.int x3), some (.int x4), some (.int x5)] [.int v] (fm_mk S1) r) : am_Ev (d + 1) 182 17 [some (.ref 231), some (.int x1), some (.int x2), some (.int x3), some (.int x4), some (.int x5)] [] (fm_mk S) r := by
  refine fs_aloadn (j := 0) (by decide +kernel) rfl ?_
  refine fs_iloadn (j := 1) (by decide +kernel) rfl ?_
  refine fs_iloadn (j := 2) (by decide +kernel) rfl ?_
  refine fs_aloadn (j := 0) (by decide +kernel) rfl ?_
  refine fe_getR (idx := 7) (t := 8) (f := 0) (fk := 2) (fin := 1) (wp := 943) (x := 232) (by decide +kernel) (by decide +kernel) (by decide +kernel) (by decide +kernel) (by decide +kernel) ?_
  refine fs_iconst (n := 4) (v := 4) (by decide +kernel) (by decide) ?_
  refine fx_iald (n := 4) (len := 373) (by decide +kernel) (by decide +kernel) (by decide +kernel) (vp_c (by decide) (by decide)) (by decide) ?_
  refine fs_iload (j := 5) (by decide +kernel) rfl ?_
  refine fs_iadd (by decide +kernel) ?_
  exact fe_callV (idx := 213) (n := 3) (wp := 1205) (q := (1207, 53)) (as := [.int x1, .int x2, .int ((S.1 232 4) + x5)]) (rs := []) (by decide +kernel) (by decide +kernel) (by decide +kernel) (by decide +kernel) rfl (Nat.le_of_ble_eq_true rfl) rfl hc nx
theorem b182_32 {d : Nat} {x1 : Int32} {x2 : Int32} {x3 : Int32} {x4 : Int32} {x5 : Int32} {sx0 : Int32} {S : fm_S} {r : Option Value × am_W} (kt : sx0 = 0 → am_Ev d 182 39 [some (.ref 231), some (.int x1), some (.int x2), some (.int x3), some (.int x4), some (.int x5)] [] (fm_mk S) r) (kf : ¬ sx0 = 0 → am_Ev d 182 35 [some (.ref 231), some (.int x1), some (.int x2), some (.int x3), some (.int x4), some (.int x5)] [] (fm_mk S) r) : am_Ev d 182 32 [some (.ref 231), some (.int x1), some (.int x2), some (.int x3), some (.int x4), some (.int x5)] [.int sx0] (fm_mk S) r := by
  exact fs_ifeq (off := 7) (tgt := 39) (by decide +kernel) (by decide) kt kf
theorem b182_35 {d : Nat} {x1 : Int32} {x2 : Int32} {x3 : Int32} {x4 : Int32} {x5 : Int32} {S : fm_S} {r : Option Value × am_W} (nx : am_Ev d 182 40 [some (.ref 231), some (.int x1), some (.int x2), some (.int x3), some (.int x4), some (.int x5)] [.int 1] (fm_mk S) r) : am_Ev d 182 35 [some (.ref 231), some (.int x1), some (.int x2), some (.int x3), some (.int x4), some (.int x5)] [] (fm_mk S) r := by
  refine fs_iconst (n := 1) (v := 1) (by decide +kernel) (by decide) ?_
  refine fs_goto (off := 4) (tgt := 40) (by decide +kernel) (by decide) ?_
  exact nx
theorem b182_39 {d : Nat} {x1 : Int32} {x2 : Int32} {x3 : Int32} {x4 : Int32} {x5 : Int32} {S : fm_S} {r : Option Value × am_W} (nx : am_Ev d 182 40 [some (.ref 231), some (.int x1), some (.int x2), some (.int x3), some (.int x4), some (.int x5)] [.int 0] (fm_mk S) r) : am_Ev d 182 39 [some (.ref 231), some (.int x1), some (.int x2), some (.int x3), some (.int x4), some (.int x5)] [] (fm_mk S) r := by
  refine fs_iconst (n := 0) (v := 0) (by decide +kernel) (by decide) ?_
  exact nx
theorem b182_40 {d : Nat} {x1 : Int32} {x2 : Int32} {x3 : Int32} {x4 : Int32} {x5 : Int32} {sx0 : Int32} {S : fm_S} {r : Option Value × am_W} (nx : am_Ev d 182 6 [some (.ref 231), some (.int x1), some (.int x2), some (.int x3), some (.int sx0), some (.int (x5 + 1))] [] (fm_mk S) r) : am_Ev d 182 40 [some (.ref 231), some (.int x1), some (.int x2), some (.int x3), some (.int x4), some (.int x5)] [.int sx0] (fm_mk S) r := by
  refine fs_istore (j := 4) (L' := [some (.ref 231), some (.int x1), some (.int x2), some (.int x3), some (.int sx0), some (.int x5)]) (by decide +kernel) (Nat.le_of_ble_eq_true rfl) rfl ?_
  refine fs_iinc (j := 5) (n := 1) (v := 1) (L' := [some (.ref 231), some (.int x1), some (.int x2), some (.int x3), some (.int sx0), some (.int (x5 + 1))]) (by decide +kernel) rfl (Nat.le_of_ble_eq_true rfl) (by decide) rfl ?_
  refine fs_goto (off := -39) (tgt := 6) (by decide +kernel) (by decide) ?_
  exact nx
theorem b182_48 {d : Nat} {x1 : Int32} {x2 : Int32} {x3 : Int32} {x4 : Int32} {x5 : Int32} {S : fm_S}  (hz : x4 = 0 ∨ x4 = 1) : am_Ev d 182 48 [some (.ref 231), some (.int x1), some (.int x2), some (.int x3), some (.int x4), some (.int x5)] [] (fm_mk S) (some (.int x4), fm_mk S) := by
  refine fs_iload (j := 4) (by decide +kernel) rfl ?_
  exact fe_retZ (by decide +kernel) (by decide +kernel) hz
-- KitchenSiegeModel.opensOn(III)Z
theorem b183_0 {d : Nat} {x1 : Int32} {x2 : Int32} {x3 : Int32} {v : Int32} {S1 : fm_S} {S : fm_S} {r : Option Value × am_W} (hi0 : vp_in (131 + x1) 373) (hc : am_Sp d 166 [.ref 231, .int x3] (fm_mk S) (some (.int v)) (fm_mk S1)) (nx : am_Ev (d + 1) 183 16 [some (.ref 231), some (.int x1), some (.int x2), some (.int x3)] [.int v, .int (S.1 232 ((131 + x1).toNatClampNeg)), .ref 231] (fm_mk S1) r) : am_Ev (d + 1) 183 0 [some (.ref 231), some (.int x1), some (.int x2), some (.int x3)] [] (fm_mk S) r := by
  refine fs_aloadn (j := 0) (by decide +kernel) rfl ?_
  refine fs_aloadn (j := 0) (by decide +kernel) rfl ?_
  refine fe_getR (idx := 7) (t := 8) (f := 0) (fk := 2) (fin := 1) (wp := 943) (x := 232) (by decide +kernel) (by decide +kernel) (by decide +kernel) (by decide +kernel) (by decide +kernel) ?_
  refine fs_sipush (n := 131) (v := 131) (by decide +kernel) (by decide) ?_
  refine fs_iloadn (j := 1) (by decide +kernel) rfl ?_
  refine fs_iadd (by decide +kernel) ?_
  refine fx_iald (n := (131 + x1).toNatClampNeg) (len := 373) (by decide +kernel) (by decide +kernel) (by decide +kernel) hi0 rfl ?_
  refine fs_aloadn (j := 0) (by decide +kernel) rfl ?_
  refine fs_iloadn (j := 3) (by decide +kernel) rfl ?_
  exact fe_callV (idx := 175) (n := 1) (wp := 1140) (q := (1142, 46)) (as := [.int x3]) (rs := [.int (S.1 232 ((131 + x1).toNatClampNeg)), .ref 231]) (by decide +kernel) (by decide +kernel) (by decide +kernel) (by decide +kernel) rfl (Nat.le_of_ble_eq_true rfl) rfl hc nx
theorem b183_16 {d : Nat} {x1 : Int32} {x2 : Int32} {x3 : Int32} {sx1 : Int32} {sx2 : Int32} {S1 : fm_S} {S : fm_S} {r : Option Value × am_W} (hc : am_Sp d 167 [.ref 231, .int sx1, .int sx2, .int (-1), .int 0] (fm_mk S) (none) (fm_mk S1)) (nx : am_Ev (d + 1) 183 21 [some (.ref 231), some (.int x1), some (.int x2), some (.int x3)] [] (fm_mk S1) r) : am_Ev (d + 1) 183 16 [some (.ref 231), some (.int x1), some (.int x2), some (.int x3)] [.int sx2, .int sx1, .ref 231] (fm_mk S) r := by
  refine fs_iconst (n := -1) (v := (-1)) (by decide +kernel) (by decide) ?_
  refine fs_iconst (n := 0) (v := 0) (by decide +kernel) (by decide) ?_
  exact fe_callV (idx := 178) (n := 4) (wp := 1144) (q := (1146, 47)) (as := [.int sx1, .int sx2, .int (-1), .int 0]) (rs := []) (by decide +kernel) (by decide +kernel) (by decide +kernel) (by decide +kernel) rfl (Nat.le_of_ble_eq_true rfl) rfl hc nx
theorem b183_21 {d : Nat} {x1 : Int32} {x2 : Int32} {x3 : Int32} {v : Int32} {S1 : fm_S} {S : fm_S} {r : Option Value × am_W} (hi0 : vp_in (5 + x2) 373) (hi1 : vp_in (21 + x2) 373) (hi2 : vp_in (125 + x1) 373) (hi3 : vp_in x2 8) (hc : am_Sp d 169 [.int (S.1 232 ((5 + x2).toNatClampNeg)), .int (S.1 232 ((21 + x2).toNatClampNeg)), .int (S.1 232 ((125 + x1).toNatClampNeg)), .int (S.1 238 x2.toNatClampNeg), .int x3, .int 0] (fm_mk S) (some (.int v)) (fm_mk S1)) (nx : am_Ev (d + 1) 183 58 [some (.ref 231), some (.int x1), some (.int x2), some (.int x3)] [.int v] (fm_mk S1) r) : am_Ev (d + 1) 183 21 [some (.ref 231), some (.int x1), some (.int x2), some (.int x3)] [] (fm_mk S) r := by
  refine fs_aloadn (j := 0) (by decide +kernel) rfl ?_
  refine fe_getR (idx := 7) (t := 8) (f := 0) (fk := 2) (fin := 1) (wp := 943) (x := 232) (by decide +kernel) (by decide +kernel) (by decide +kernel) (by decide +kernel) (by decide +kernel) ?_
  refine fs_iconst (n := 5) (v := 5) (by decide +kernel) (by decide) ?_
  refine fs_iloadn (j := 2) (by decide +kernel) rfl ?_
  refine fs_iadd (by decide +kernel) ?_
  refine fx_iald (n := (5 + x2).toNatClampNeg) (len := 373) (by decide +kernel) (by decide +kernel) (by decide +kernel) hi0 rfl ?_
  refine fs_aloadn (j := 0) (by decide +kernel) rfl ?_
  refine fe_getR (idx := 7) (t := 8) (f := 0) (fk := 2) (fin := 1) (wp := 943) (x := 232) (by decide +kernel) (by decide +kernel) (by decide +kernel) (by decide +kernel) (by decide +kernel) ?_
  refine fs_bipush (n := 21) (v := 21) (by decide +kernel) (by decide) ?_
  refine fs_iloadn (j := 2) (by decide +kernel) rfl ?_
  refine fs_iadd (by decide +kernel) ?_
  refine fx_iald (n := (21 + x2).toNatClampNeg) (len := 373) (by decide +kernel) (by decide +kernel) (by decide +kernel) hi1 rfl ?_
  refine fs_aloadn (j := 0) (by decide +kernel) rfl ?_
  refine fe_getR (idx := 7) (t := 8) (f := 0) (fk := 2) (fin := 1) (wp := 943) (x := 232) (by decide +kernel) (by decide +kernel) (by decide +kernel) (by decide +kernel) (by decide +kernel) ?_
  refine fs_bipush (n := 125) (v := 125) (by decide +kernel) (by decide) ?_
  refine fs_iloadn (j := 1) (by decide +kernel) rfl ?_
  refine fs_iadd (by decide +kernel) ?_
  refine fx_iald (n := (125 + x1).toNatClampNeg) (len := 373) (by decide +kernel) (by decide +kernel) (by decide +kernel) hi2 rfl ?_
  refine fs_aloadn (j := 0) (by decide +kernel) rfl ?_
  refine fe_getR (idx := 28) (t := 8) (f := 14) (fk := 2) (fin := 1) (wp := 957) (x := 238) (by decide +kernel) (by decide +kernel) (by decide +kernel) (by decide +kernel) (by decide +kernel) ?_
  refine fs_iloadn (j := 2) (by decide +kernel) rfl ?_
  refine fx_iald (n := x2.toNatClampNeg) (len := 8) (by decide +kernel) (by decide +kernel) (by decide +kernel) hi3 rfl ?_
  refine fs_iloadn (j := 3) (by decide +kernel) rfl ?_
  refine fs_iconst (n := 0) (v := 0) (by decide +kernel) (by decide) ?_
  exact fe_callS (idx := 168) (kd := 0) (n := 6) (wp := 1152) (q := (1153, 0)) (as := [.int (S.1 232 ((5 + x2).toNatClampNeg)), .int (S.1 232 ((21 + x2).toNatClampNeg)), .int (S.1 232 ((125 + x1).toNatClampNeg)), .int (S.1 238 x2.toNatClampNeg), .int x3, .int 0]) (rs := []) (by decide +kernel) (by decide +kernel) (by decide +kernel) (by decide) rfl (Nat.le_of_ble_eq_true rfl) rfl hc nx
theorem b183_58 {d : Nat} {x1 : Int32} {x2 : Int32} {x3 : Int32} {sx0 : Int32} {S : fm_S} {r : Option Value × am_W} (kt : sx0 < 10 → am_Ev d 183 67 [some (.ref 231), some (.int x1), some (.int x2), some (.int x3)] [] (fm_mk S) r) (kf : ¬ sx0 < 10 → am_Ev d 183 63 [some (.ref 231), some (.int x1), some (.int x2), some (.int x3)] [] (fm_mk S) r) : am_Ev d 183 58 [some (.ref 231), some (.int x1), some (.int x2), some (.int x3)] [.int sx0] (fm_mk S) r := by
  refine fs_bipush (n := 10) (v := 10) (by decide +kernel) (by decide) ?_
  exact fs_iclt (off := 7) (tgt := 67) (by decide +kernel) (by decide) kt kf
theorem b183_63 {d : Nat} {x1 : Int32} {x2 : Int32} {x3 : Int32} {S : fm_S} {r : Option Value × am_W} (nx : am_Ev d 183 68 [some (.ref 231), some (.int x1), some (.int x2), some (.int x3)] [.int 1] (fm_mk S) r) : am_Ev d 183 63 [some (.ref 231), some (.int x1), some (.int x2), some (.int x3)] [] (fm_mk S) r := by
  refine fs_iconst (n := 1) (v := 1) (by decide +kernel) (by decide) ?_
  refine fs_goto (off := 4) (tgt := 68) (by decide +kernel) (by decide) ?_
  exact nx
theorem b183_67 {d : Nat} {x1 : Int32} {x2 : Int32} {x3 : Int32} {S : fm_S} {r : Option Value × am_W} (nx : am_Ev d 183 68 [some (.ref 231), some (.int x1), some (.int x2), some (.int x3)] [.int 0] (fm_mk S) r) : am_Ev d 183 67 [some (.ref 231), some (.int x1), some (.int x2), some (.int x3)] [] (fm_mk S) r := by
  refine fs_iconst (n := 0) (v := 0) (by decide +kernel) (by decide) ?_
  exact nx
theorem b183_68 {d : Nat} {x1 : Int32} {x2 : Int32} {x3 : Int32} {sx0 : Int32} {S : fm_S}  (hz : sx0 = 0 ∨ sx0 = 1) : am_Ev d 183 68 [some (.ref 231), some (.int x1), some (.int x2), some (.int x3)] [.int sx0] (fm_mk S) (some (.int sx0), fm_mk S) := by
  exact fe_retZ (by decide +kernel) (by decide +kernel) hz
-- KitchenSiegeModel.least()I
theorem b184_0 {d : Nat} {o1 : Option Value} {o2 : Option Value} {o3 : Option Value} {o4 : Option Value} {o5 : Option Value} {o6 : Option Value} {o7 : Option Value} {S : fm_S} {r : Option Value × am_W} (nx : am_Ev d 184 4 [some (.ref 231), some (.int 0), some (.int 0), o3, o4, o5, o6, o7] [] (fm_mk S) r) : am_Ev d 184 0 [some (.ref 231), o1, o2, o3, o4, o5, o6, o7] [] (fm_mk S) r := by
  refine fs_iconst (n := 0) (v := 0) (by decide +kernel) (by decide) ?_
  refine fs_istoren (j := 1) (L' := [some (.ref 231), some (.int 0), o2, o3, o4, o5, o6, o7]) (by decide +kernel) (Nat.le_of_ble_eq_true rfl) rfl ?_
  refine fs_iconst (n := 0) (v := 0) (by decide +kernel) (by decide) ?_
  refine fs_istoren (j := 2) (L' := [some (.ref 231), some (.int 0), some (.int 0), o3, o4, o5, o6, o7]) (by decide +kernel) (Nat.le_of_ble_eq_true rfl) rfl ?_
  exact nx
theorem b184_4 {d : Nat} {x1 : Int32} {x2 : Int32} {o3 : Option Value} {o4 : Option Value} {o5 : Option Value} {o6 : Option Value} {o7 : Option Value} {S : fm_S} {r : Option Value × am_W} (kt : (S.1 232 0) ≤ x2 → am_Ev d 184 43 [some (.ref 231), some (.int x1), some (.int x2), o3, o4, o5, o6, o7] [] (fm_mk S) r) (kf : ¬ (S.1 232 0) ≤ x2 → am_Ev d 184 14 [some (.ref 231), some (.int x1), some (.int x2), o3, o4, o5, o6, o7] [] (fm_mk S) r) : am_Ev d 184 4 [some (.ref 231), some (.int x1), some (.int x2), o3, o4, o5, o6, o7] [] (fm_mk S) r := by
  refine fs_iloadn (j := 2) (by decide +kernel) rfl ?_
  refine fs_aloadn (j := 0) (by decide +kernel) rfl ?_
  refine fe_getR (idx := 7) (t := 8) (f := 0) (fk := 2) (fin := 1) (wp := 943) (x := 232) (by decide +kernel) (by decide +kernel) (by decide +kernel) (by decide +kernel) (by decide +kernel) ?_
  refine fs_iconst (n := 0) (v := 0) (by decide +kernel) (by decide) ?_
  refine fx_iald (n := 0) (len := 373) (by decide +kernel) (by decide +kernel) (by decide +kernel) (vp_c (by decide) (by decide)) (by decide) ?_
  exact fs_icge (off := 32) (tgt := 43) (by decide +kernel) (by decide) kt kf
theorem b184_14 {d : Nat} {x1 : Int32} {x2 : Int32} {o3 : Option Value} {o4 : Option Value} {o5 : Option Value} {o6 : Option Value} {o7 : Option Value} {S : fm_S} {r : Option Value × am_W} (hi0 : vp_in (29 + x2) 373) (kt : ¬ (S.1 232 ((29 + x2).toNatClampNeg)) = (-1) → am_Ev d 184 34 [some (.ref 231), some (.int x1), some (.int x2), o3, o4, o5, o6, o7] [.int x1] (fm_mk S) r) (kf : (S.1 232 ((29 + x2).toNatClampNeg)) = (-1) → am_Ev d 184 28 [some (.ref 231), some (.int x1), some (.int x2), o3, o4, o5, o6, o7] [.int x1] (fm_mk S) r) : am_Ev d 184 14 [some (.ref 231), some (.int x1), some (.int x2), o3, o4, o5, o6, o7] [] (fm_mk S) r := by
  refine fs_iloadn (j := 1) (by decide +kernel) rfl ?_
  refine fs_aloadn (j := 0) (by decide +kernel) rfl ?_
  refine fe_getR (idx := 7) (t := 8) (f := 0) (fk := 2) (fin := 1) (wp := 943) (x := 232) (by decide +kernel) (by decide +kernel) (by decide +kernel) (by decide +kernel) (by decide +kernel) ?_
  refine fs_bipush (n := 29) (v := 29) (by decide +kernel) (by decide) ?_
  refine fs_iloadn (j := 2) (by decide +kernel) rfl ?_
  refine fs_iadd (by decide +kernel) ?_
  refine fx_iald (n := (29 + x2).toNatClampNeg) (len := 373) (by decide +kernel) (by decide +kernel) (by decide +kernel) hi0 rfl ?_
  refine fs_iconst (n := -1) (v := (-1)) (by decide +kernel) (by decide) ?_
  exact fs_icne (off := 9) (tgt := 34) (by decide +kernel) (by decide) kt kf
theorem b184_28 {d : Nat} {x1 : Int32} {x2 : Int32} {o3 : Option Value} {o4 : Option Value} {o5 : Option Value} {o6 : Option Value} {o7 : Option Value} {sx0 : Int32} {S : fm_S} {r : Option Value × am_W} (nx : am_Ev d 184 35 [some (.ref 231), some (.int x1), some (.int x2), o3, o4, o5, o6, o7] [.int (1 <<< (x2 &&& 31)), .int sx0] (fm_mk S) r) : am_Ev d 184 28 [some (.ref 231), some (.int x1), some (.int x2), o3, o4, o5, o6, o7] [.int sx0] (fm_mk S) r := by
  refine fs_iconst (n := 1) (v := 1) (by decide +kernel) (by decide) ?_
  refine fs_iloadn (j := 2) (by decide +kernel) rfl ?_
  refine fs_ishl (by decide +kernel) ?_
  refine fs_goto (off := 4) (tgt := 35) (by decide +kernel) (by decide) ?_
  exact nx
theorem b184_34 {d : Nat} {x1 : Int32} {x2 : Int32} {o3 : Option Value} {o4 : Option Value} {o5 : Option Value} {o6 : Option Value} {o7 : Option Value} {sx0 : Int32} {S : fm_S} {r : Option Value × am_W} (nx : am_Ev d 184 35 [some (.ref 231), some (.int x1), some (.int x2), o3, o4, o5, o6, o7] [.int 0, .int sx0] (fm_mk S) r) : am_Ev d 184 34 [some (.ref 231), some (.int x1), some (.int x2), o3, o4, o5, o6, o7] [.int sx0] (fm_mk S) r := by
  refine fs_iconst (n := 0) (v := 0) (by decide +kernel) (by decide) ?_
  exact nx
theorem b184_35 {d : Nat} {x1 : Int32} {x2 : Int32} {o3 : Option Value} {o4 : Option Value} {o5 : Option Value} {o6 : Option Value} {o7 : Option Value} {sx0 : Int32} {sx1 : Int32} {S : fm_S} {r : Option Value × am_W} (nx : am_Ev d 184 4 [some (.ref 231), some (.int (sx0 ||| sx1)), some (.int (x2 + 1)), o3, o4, o5, o6, o7] [] (fm_mk S) r) : am_Ev d 184 35 [some (.ref 231), some (.int x1), some (.int x2), o3, o4, o5, o6, o7] [.int sx1, .int sx0] (fm_mk S) r := by
  refine fs_ior (by decide +kernel) ?_
  refine fs_istoren (j := 1) (L' := [some (.ref 231), some (.int (sx0 ||| sx1)), some (.int x2), o3, o4, o5, o6, o7]) (by decide +kernel) (Nat.le_of_ble_eq_true rfl) rfl ?_
  refine fs_iinc (j := 2) (n := 1) (v := 1) (L' := [some (.ref 231), some (.int (sx0 ||| sx1)), some (.int (x2 + 1)), o3, o4, o5, o6, o7]) (by decide +kernel) rfl (Nat.le_of_ble_eq_true rfl) (by decide) rfl ?_
  refine fs_goto (off := -36) (tgt := 4) (by decide +kernel) (by decide) ?_
  exact nx
theorem b184_43 {d : Nat} {x1 : Int32} {x2 : Int32} {o3 : Option Value} {o4 : Option Value} {o5 : Option Value} {o6 : Option Value} {o7 : Option Value} {S : fm_S} {r : Option Value × am_W} (nx : am_Ev d 184 45 [some (.ref 231), some (.int x1), some (.int 0), o3, o4, o5, o6, o7] [] (fm_mk S) r) : am_Ev d 184 43 [some (.ref 231), some (.int x1), some (.int x2), o3, o4, o5, o6, o7] [] (fm_mk S) r := by
  refine fs_iconst (n := 0) (v := 0) (by decide +kernel) (by decide) ?_
  refine fs_istoren (j := 2) (L' := [some (.ref 231), some (.int x1), some (.int 0), o3, o4, o5, o6, o7]) (by decide +kernel) (Nat.le_of_ble_eq_true rfl) rfl ?_
  exact nx
theorem b184_45 {d : Nat} {x1 : Int32} {x2 : Int32} {o3 : Option Value} {o4 : Option Value} {o5 : Option Value} {o6 : Option Value} {o7 : Option Value} {S : fm_S} {r : Option Value × am_W} (kt : (S.1 232 1) ≤ x2 → am_Ev d 184 112 [some (.ref 231), some (.int x1), some (.int x2), o3, o4, o5, o6, o7] [] (fm_mk S) r) (kf : ¬ (S.1 232 1) ≤ x2 → am_Ev d 184 55 [some (.ref 231), some (.int x1), some (.int x2), o3, o4, o5, o6, o7] [] (fm_mk S) r) : am_Ev d 184 45 [some (.ref 231), some (.int x1), some (.int x2), o3, o4, o5, o6, o7] [] (fm_mk S) r := by
  refine fs_iloadn (j := 2) (by decide +kernel) rfl ?_
  refine fs_aloadn (j := 0) (by decide +kernel) rfl ?_
  refine fe_getR (idx := 7) (t := 8) (f := 0) (fk := 2) (fin := 1) (wp := 943) (x := 232) (by decide +kernel) (by decide +kernel) (by decide +kernel) (by decide +kernel) (by decide +kernel) ?_
  refine fs_iconst (n := 1) (v := 1) (by decide +kernel) (by decide) ?_
  refine fx_iald (n := 1) (len := 373) (by decide +kernel) (by decide +kernel) (by decide +kernel) (vp_c (by decide) (by decide)) (by decide) ?_
  exact fs_icge (off := 60) (tgt := 112) (by decide +kernel) (by decide) kt kf
theorem b184_55 {d : Nat} {x1 : Int32} {x2 : Int32} {o3 : Option Value} {o4 : Option Value} {o5 : Option Value} {o6 : Option Value} {o7 : Option Value} {S : fm_S} {r : Option Value × am_W} (hi0 : vp_in x2 6) (nx : am_Ev d 184 64 [some (.ref 231), some (.int x1), some (.int x2), some (.int 0), o4, o5, o6, o7] [] (fm_mk (fm_wI S 241 x2.toNatClampNeg 0)) r) : am_Ev d 184 55 [some (.ref 231), some (.int x1), some (.int x2), o3, o4, o5, o6, o7] [] (fm_mk S) r := by
  refine fs_aloadn (j := 0) (by decide +kernel) rfl ?_
  refine fe_getR (idx := 37) (t := 8) (f := 17) (fk := 2) (fin := 1) (wp := 960) (x := 241) (by decide +kernel) (by decide +kernel) (by decide +kernel) (by decide +kernel) (by decide +kernel) ?_
  refine fs_iloadn (j := 2) (by decide +kernel) rfl ?_
  refine fs_iconst (n := 0) (v := 0) (by decide +kernel) (by decide) ?_
  refine fx_iast (n := x2.toNatClampNeg) (len := 6) (by decide +kernel) (by decide +kernel) (by decide +kernel) hi0 rfl ?_
  refine fs_iconst (n := 0) (v := 0) (by decide +kernel) (by decide) ?_
  refine fs_istoren (j := 3) (L' := [some (.ref 231), some (.int x1), some (.int x2), some (.int 0), o4, o5, o6, o7]) (by decide +kernel) (Nat.le_of_ble_eq_true rfl) rfl ?_
  exact nx
theorem b184_64 {d : Nat} {x1 : Int32} {x2 : Int32} {x3 : Int32} {o4 : Option Value} {o5 : Option Value} {o6 : Option Value} {o7 : Option Value} {S : fm_S} {r : Option Value × am_W} (kt : (S.1 232 0) ≤ x3 → am_Ev d 184 106 [some (.ref 231), some (.int x1), some (.int x2), some (.int x3), o4, o5, o6, o7] [] (fm_mk S) r) (kf : ¬ (S.1 232 0) ≤ x3 → am_Ev d 184 74 [some (.ref 231), some (.int x1), some (.int x2), some (.int x3), o4, o5, o6, o7] [] (fm_mk S) r) : am_Ev d 184 64 [some (.ref 231), some (.int x1), some (.int x2), some (.int x3), o4, o5, o6, o7] [] (fm_mk S) r := by
  refine fs_iloadn (j := 3) (by decide +kernel) rfl ?_
  refine fs_aloadn (j := 0) (by decide +kernel) rfl ?_
  refine fe_getR (idx := 7) (t := 8) (f := 0) (fk := 2) (fin := 1) (wp := 943) (x := 232) (by decide +kernel) (by decide +kernel) (by decide +kernel) (by decide +kernel) (by decide +kernel) ?_
  refine fs_iconst (n := 0) (v := 0) (by decide +kernel) (by decide) ?_
  refine fx_iald (n := 0) (len := 373) (by decide +kernel) (by decide +kernel) (by decide +kernel) (vp_c (by decide) (by decide)) (by decide) ?_
  exact fs_icge (off := 35) (tgt := 106) (by decide +kernel) (by decide) kt kf
theorem b184_74 {d : Nat} {x1 : Int32} {x2 : Int32} {x3 : Int32} {o4 : Option Value} {o5 : Option Value} {o6 : Option Value} {o7 : Option Value} {v : Int32} {S1 : fm_S} {S : fm_S} {r : Option Value × am_W} (hi0 : vp_in x2 6) (hc : am_Sp d 182 [.ref 231, .int x2, .int x3, .int 4] (fm_mk S) (some (.int v)) (fm_mk S1)) (nx : am_Ev (d + 1) 184 88 [some (.ref 231), some (.int x1), some (.int x2), some (.int x3), o4, o5, o6, o7] [.int v, .int (S.1 241 x2.toNatClampNeg), .int x2, .ref 241] (fm_mk S1) r) : am_Ev (d + 1) 184 74 [some (.ref 231), some (.int x1), some (.int x2), some (.int x3), o4, o5, o6, o7] [] (fm_mk S) r := by
  refine fs_aloadn (j := 0) (by decide +kernel) rfl ?_
  refine fe_getR (idx := 37) (t := 8) (f := 17) (fk := 2) (fin := 1) (wp := 960) (x := 241) (by decide +kernel) (by decide +kernel) (by decide +kernel) (by decide +kernel) (by decide +kernel) ?_
  refine fs_iloadn (j := 2) (by decide +kernel) rfl ?_
  refine fs_dup2 (by decide +kernel) ⟨rfl, rfl⟩ ?_
  refine fx_iald (n := x2.toNatClampNeg) (len := 6) (by decide +kernel) (by decide +kernel) (by decide +kernel) hi0 rfl ?_
  refine fs_aloadn (j := 0) (by decide +kernel) rfl ?_
  refine fs_iloadn (j := 2) (by decide +kernel) rfl ?_
  refine fs_iloadn (j := 3) (by decide +kernel) rfl ?_
  refine fs_iconst (n := 4) (v := 4) (by decide +kernel) (by decide) ?_
  exact fe_callV (idx := 216) (n := 3) (wp := 1201) (q := (1203, 52)) (as := [.int x2, .int x3, .int 4]) (rs := [.int (S.1 241 x2.toNatClampNeg), .int x2, .ref 241]) (by decide +kernel) (by decide +kernel) (by decide +kernel) (by decide +kernel) rfl (Nat.le_of_ble_eq_true rfl) rfl hc nx
theorem b184_88 {d : Nat} {x1 : Int32} {x2 : Int32} {x3 : Int32} {o4 : Option Value} {o5 : Option Value} {o6 : Option Value} {o7 : Option Value} {sx1 : Int32} {sx2 : Int32} {sx3 : Int32} {S : fm_S} {r : Option Value × am_W} (kt : sx3 = 0 → am_Ev d 184 97 [some (.ref 231), some (.int x1), some (.int x2), some (.int x3), o4, o5, o6, o7] [.int sx2, .int sx1, .ref 241] (fm_mk S) r) (kf : ¬ sx3 = 0 → am_Ev d 184 91 [some (.ref 231), some (.int x1), some (.int x2), some (.int x3), o4, o5, o6, o7] [.int sx2, .int sx1, .ref 241] (fm_mk S) r) : am_Ev d 184 88 [some (.ref 231), some (.int x1), some (.int x2), some (.int x3), o4, o5, o6, o7] [.int sx3, .int sx2, .int sx1, .ref 241] (fm_mk S) r := by
  exact fs_ifeq (off := 9) (tgt := 97) (by decide +kernel) (by decide) kt kf
theorem b184_91 {d : Nat} {x1 : Int32} {x2 : Int32} {x3 : Int32} {o4 : Option Value} {o5 : Option Value} {o6 : Option Value} {o7 : Option Value} {sx1 : Int32} {sx2 : Int32} {S : fm_S} {r : Option Value × am_W} (nx : am_Ev d 184 98 [some (.ref 231), some (.int x1), some (.int x2), some (.int x3), o4, o5, o6, o7] [.int (1 <<< (x3 &&& 31)), .int sx2, .int sx1, .ref 241] (fm_mk S) r) : am_Ev d 184 91 [some (.ref 231), some (.int x1), some (.int x2), some (.int x3), o4, o5, o6, o7] [.int sx2, .int sx1, .ref 241] (fm_mk S) r := by
  refine fs_iconst (n := 1) (v := 1) (by decide +kernel) (by decide) ?_
  refine fs_iloadn (j := 3) (by decide +kernel) rfl ?_
  refine fs_ishl (by decide +kernel) ?_
  refine fs_goto (off := 4) (tgt := 98) (by decide +kernel) (by decide) ?_
  exact nx
theorem b184_97 {d : Nat} {x1 : Int32} {x2 : Int32} {x3 : Int32} {o4 : Option Value} {o5 : Option Value} {o6 : Option Value} {o7 : Option Value} {sx1 : Int32} {sx2 : Int32} {S : fm_S} {r : Option Value × am_W} (nx : am_Ev d 184 98 [some (.ref 231), some (.int x1), some (.int x2), some (.int x3), o4, o5, o6, o7] [.int 0, .int sx2, .int sx1, .ref 241] (fm_mk S) r) : am_Ev d 184 97 [some (.ref 231), some (.int x1), some (.int x2), some (.int x3), o4, o5, o6, o7] [.int sx2, .int sx1, .ref 241] (fm_mk S) r := by
  refine fs_iconst (n := 0) (v := 0) (by decide +kernel) (by decide) ?_
  exact nx
theorem b184_98 {d : Nat} {x1 : Int32} {x2 : Int32} {x3 : Int32} {o4 : Option Value} {o5 : Option Value} {o6 : Option Value} {o7 : Option Value} {sx1 : Int32} {sx2 : Int32} {sx3 : Int32} {S : fm_S} {r : Option Value × am_W} (hi0 : vp_in sx1 6) (nx : am_Ev d 184 64 [some (.ref 231), some (.int x1), some (.int x2), some (.int (x3 + 1)), o4, o5, o6, o7] [] (fm_mk (fm_wI S 241 sx1.toNatClampNeg (sx2 ||| sx3))) r) : am_Ev d 184 98 [some (.ref 231), some (.int x1), some (.int x2), some (.int x3), o4, o5, o6, o7] [.int sx3, .int sx2, .int sx1, .ref 241] (fm_mk S) r := by
  refine fs_ior (by decide +kernel) ?_
  refine fx_iast (n := sx1.toNatClampNeg) (len := 6) (by decide +kernel) (by decide +kernel) (by decide +kernel) hi0 rfl ?_
  refine fs_iinc (j := 3) (n := 1) (v := 1) (L' := [some (.ref 231), some (.int x1), some (.int x2), some (.int (x3 + 1)), o4, o5, o6, o7]) (by decide +kernel) rfl (Nat.le_of_ble_eq_true rfl) (by decide) rfl ?_
  refine fs_goto (off := -39) (tgt := 64) (by decide +kernel) (by decide) ?_
  exact nx
theorem b184_106 {d : Nat} {x1 : Int32} {x2 : Int32} {x3 : Int32} {o4 : Option Value} {o5 : Option Value} {o6 : Option Value} {o7 : Option Value} {S : fm_S} {r : Option Value × am_W} (nx : am_Ev d 184 45 [some (.ref 231), some (.int x1), some (.int (x2 + 1)), some (.int x3), o4, o5, o6, o7] [] (fm_mk S) r) : am_Ev d 184 106 [some (.ref 231), some (.int x1), some (.int x2), some (.int x3), o4, o5, o6, o7] [] (fm_mk S) r := by
  refine fs_iinc (j := 2) (n := 1) (v := 1) (L' := [some (.ref 231), some (.int x1), some (.int (x2 + 1)), some (.int x3), o4, o5, o6, o7]) (by decide +kernel) rfl (Nat.le_of_ble_eq_true rfl) (by decide) rfl ?_
  refine fs_goto (off := -64) (tgt := 45) (by decide +kernel) (by decide) ?_
  exact nx
theorem b184_112 {d : Nat} {x1 : Int32} {x2 : Int32} {o3 : Option Value} {o4 : Option Value} {o5 : Option Value} {o6 : Option Value} {o7 : Option Value} {S : fm_S} {r : Option Value × am_W} (nx : am_Ev d 184 119 [some (.ref 231), some (.int x1), some (.int (-1)), some (.int 0), some (.int 0), o5, o6, o7] [] (fm_mk S) r) : am_Ev d 184 112 [some (.ref 231), some (.int x1), some (.int x2), o3, o4, o5, o6, o7] [] (fm_mk S) r := by
  refine fs_iconst (n := -1) (v := (-1)) (by decide +kernel) (by decide) ?_
  refine fs_istoren (j := 2) (L' := [some (.ref 231), some (.int x1), some (.int (-1)), o3, o4, o5, o6, o7]) (by decide +kernel) (Nat.le_of_ble_eq_true rfl) rfl ?_
  refine fs_iconst (n := 0) (v := 0) (by decide +kernel) (by decide) ?_
  refine fs_istoren (j := 3) (L' := [some (.ref 231), some (.int x1), some (.int (-1)), some (.int 0), o4, o5, o6, o7]) (by decide +kernel) (Nat.le_of_ble_eq_true rfl) rfl ?_
  refine fs_iconst (n := 0) (v := 0) (by decide +kernel) (by decide) ?_
  refine fs_istore (j := 4) (L' := [some (.ref 231), some (.int x1), some (.int (-1)), some (.int 0), some (.int 0), o5, o6, o7]) (by decide +kernel) (Nat.le_of_ble_eq_true rfl) rfl ?_
  exact nx
theorem b184_119 {d : Nat} {x1 : Int32} {x2 : Int32} {x3 : Int32} {x4 : Int32} {o5 : Option Value} {o6 : Option Value} {o7 : Option Value} {S : fm_S} {r : Option Value × am_W} (kt : (1 <<< ((S.1 232 1) &&& 31)) ≤ x4 → am_Ev d 184 275 [some (.ref 231), some (.int x1), some (.int x2), some (.int x3), some (.int x4), o5, o6, o7] [] (fm_mk S) r) (kf : ¬ (1 <<< ((S.1 232 1) &&& 31)) ≤ x4 → am_Ev d 184 132 [some (.ref 231), some (.int x1), some (.int x2), some (.int x3), some (.int x4), o5, o6, o7] [] (fm_mk S) r) : am_Ev d 184 119 [some (.ref 231), some (.int x1), some (.int x2), some (.int x3), some (.int x4), o5, o6, o7] [] (fm_mk S) r := by
  refine fs_iload (j := 4) (by decide +kernel) rfl ?_
  refine fs_iconst (n := 1) (v := 1) (by decide +kernel) (by decide) ?_
  refine fs_aloadn (j := 0) (by decide +kernel) rfl ?_
  refine fe_getR (idx := 7) (t := 8) (f := 0) (fk := 2) (fin := 1) (wp := 943) (x := 232) (by decide +kernel) (by decide +kernel) (by decide +kernel) (by decide +kernel) (by decide +kernel) ?_
  refine fs_iconst (n := 1) (v := 1) (by decide +kernel) (by decide) ?_
  refine fx_iald (n := 1) (len := 373) (by decide +kernel) (by decide +kernel) (by decide +kernel) (vp_c (by decide) (by decide)) (by decide) ?_
  refine fs_ishl (by decide +kernel) ?_
  exact fs_icge (off := 146) (tgt := 275) (by decide +kernel) (by decide) kt kf
theorem b184_132 {d : Nat} {x1 : Int32} {x2 : Int32} {x3 : Int32} {x4 : Int32} {o5 : Option Value} {o6 : Option Value} {o7 : Option Value} {S : fm_S} {r : Option Value × am_W} (nx : am_Ev d 184 141 [some (.ref 231), some (.int x1), some (.int x2), some (.int x3), some (.int x4), some (.int 0), some (.int 0), some (.int 0)] [] (fm_mk S) r) : am_Ev d 184 132 [some (.ref 231), some (.int x1), some (.int x2), some (.int x3), some (.int x4), o5, o6, o7] [] (fm_mk S) r := by
  refine fs_iconst (n := 0) (v := 0) (by decide +kernel) (by decide) ?_
  refine fs_istore (j := 5) (L' := [some (.ref 231), some (.int x1), some (.int x2), some (.int x3), some (.int x4), some (.int 0), o6, o7]) (by decide +kernel) (Nat.le_of_ble_eq_true rfl) rfl ?_
  refine fs_iconst (n := 0) (v := 0) (by decide +kernel) (by decide) ?_
  refine fs_istore (j := 6) (L' := [some (.ref 231), some (.int x1), some (.int x2), some (.int x3), some (.int x4), some (.int 0), some (.int 0), o7]) (by decide +kernel) (Nat.le_of_ble_eq_true rfl) rfl ?_
  refine fs_iconst (n := 0) (v := 0) (by decide +kernel) (by decide) ?_
  refine fs_istore (j := 7) (L' := [some (.ref 231), some (.int x1), some (.int x2), some (.int x3), some (.int x4), some (.int 0), some (.int 0), some (.int 0)]) (by decide +kernel) (Nat.le_of_ble_eq_true rfl) rfl ?_
  exact nx
theorem b184_141 {d : Nat} {x1 : Int32} {x2 : Int32} {x3 : Int32} {x4 : Int32} {x5 : Int32} {x6 : Int32} {x7 : Int32} {S : fm_S} {r : Option Value × am_W} (kt : (S.1 232 1) ≤ x7 → am_Ev d 184 214 [some (.ref 231), some (.int x1), some (.int x2), some (.int x3), some (.int x4), some (.int x5), some (.int x6), some (.int x7)] [] (fm_mk S) r) (kf : ¬ (S.1 232 1) ≤ x7 → am_Ev d 184 152 [some (.ref 231), some (.int x1), some (.int x2), some (.int x3), some (.int x4), some (.int x5), some (.int x6), some (.int x7)] [] (fm_mk S) r) : am_Ev d 184 141 [some (.ref 231), some (.int x1), some (.int x2), some (.int x3), some (.int x4), some (.int x5), some (.int x6), some (.int x7)] [] (fm_mk S) r := by
  refine fs_iload (j := 7) (by decide +kernel) rfl ?_
  refine fs_aloadn (j := 0) (by decide +kernel) rfl ?_
  refine fe_getR (idx := 7) (t := 8) (f := 0) (fk := 2) (fin := 1) (wp := 943) (x := 232) (by decide +kernel) (by decide +kernel) (by decide +kernel) (by decide +kernel) (by decide +kernel) ?_
  refine fs_iconst (n := 1) (v := 1) (by decide +kernel) (by decide) ?_
  refine fx_iald (n := 1) (len := 373) (by decide +kernel) (by decide +kernel) (by decide +kernel) (vp_c (by decide) (by decide)) (by decide) ?_
  exact fs_icge (off := 65) (tgt := 214) (by decide +kernel) (by decide) kt kf
theorem b184_152 {d : Nat} {x1 : Int32} {x2 : Int32} {x3 : Int32} {x4 : Int32} {x5 : Int32} {x6 : Int32} {x7 : Int32} {v : Int32} {S1 : fm_S} {S : fm_S} {r : Option Value × am_W} (hc : am_Sp d 170 [.int x4, .int x7] (fm_mk S) (some (.int v)) (fm_mk S1)) (nx : am_Ev (d + 1) 184 161 [some (.ref 231), some (.int x1), some (.int x2), some (.int x3), some (.int x4), some (.int x5), some (.int x6), some (.int x7)] [.int v, .int x5] (fm_mk S1) r) : am_Ev (d + 1) 184 152 [some (.ref 231), some (.int x1), some (.int x2), some (.int x3), some (.int x4), some (.int x5), some (.int x6), some (.int x7)] [] (fm_mk S) r := by
  refine fs_iload (j := 5) (by decide +kernel) rfl ?_
  refine fs_iload (j := 4) (by decide +kernel) rfl ?_
  refine fs_iload (j := 7) (by decide +kernel) rfl ?_
  exact fe_callS (idx := 190) (kd := 0) (n := 2) (wp := 1155) (q := (1156, 0)) (as := [.int x4, .int x7]) (rs := [.int x5]) (by decide +kernel) (by decide +kernel) (by decide +kernel) (by decide) rfl (Nat.le_of_ble_eq_true rfl) rfl hc nx
theorem b184_161 {d : Nat} {x1 : Int32} {x2 : Int32} {x3 : Int32} {x4 : Int32} {x5 : Int32} {x6 : Int32} {x7 : Int32} {sx0 : Int32} {sx1 : Int32} {S : fm_S} {r : Option Value × am_W} (kt : sx1 = 0 → am_Ev d 184 178 [some (.ref 231), some (.int x1), some (.int x2), some (.int x3), some (.int x4), some (.int x5), some (.int x6), some (.int x7)] [.int sx0] (fm_mk S) r) (kf : ¬ sx1 = 0 → am_Ev d 184 164 [some (.ref 231), some (.int x1), some (.int x2), some (.int x3), some (.int x4), some (.int x5), some (.int x6), some (.int x7)] [.int sx0] (fm_mk S) r) : am_Ev d 184 161 [some (.ref 231), some (.int x1), some (.int x2), some (.int x3), some (.int x4), some (.int x5), some (.int x6), some (.int x7)] [.int sx1, .int sx0] (fm_mk S) r := by
  exact fs_ifeq (off := 17) (tgt := 178) (by decide +kernel) (by decide) kt kf
theorem b184_164 {d : Nat} {x1 : Int32} {x2 : Int32} {x3 : Int32} {x4 : Int32} {x5 : Int32} {x6 : Int32} {x7 : Int32} {sx0 : Int32} {S : fm_S} {r : Option Value × am_W} (hi0 : vp_in (137 + x7) 373) (nx : am_Ev d 184 179 [some (.ref 231), some (.int x1), some (.int x2), some (.int x3), some (.int x4), some (.int x5), some (.int x6), some (.int x7)] [.int (S.1 232 ((137 + x7).toNatClampNeg)), .int sx0] (fm_mk S) r) : am_Ev d 184 164 [some (.ref 231), some (.int x1), some (.int x2), some (.int x3), some (.int x4), some (.int x5), some (.int x6), some (.int x7)] [.int sx0] (fm_mk S) r := by
  refine fs_aloadn (j := 0) (by decide +kernel) rfl ?_
  refine fe_getR (idx := 7) (t := 8) (f := 0) (fk := 2) (fin := 1) (wp := 943) (x := 232) (by decide +kernel) (by decide +kernel) (by decide +kernel) (by decide +kernel) (by decide +kernel) ?_
  refine fs_sipush (n := 137) (v := 137) (by decide +kernel) (by decide) ?_
  refine fs_iload (j := 7) (by decide +kernel) rfl ?_
  refine fs_iadd (by decide +kernel) ?_
  refine fx_iald (n := (137 + x7).toNatClampNeg) (len := 373) (by decide +kernel) (by decide +kernel) (by decide +kernel) hi0 rfl ?_
  refine fs_goto (off := 4) (tgt := 179) (by decide +kernel) (by decide) ?_
  exact nx
theorem b184_178 {d : Nat} {x1 : Int32} {x2 : Int32} {x3 : Int32} {x4 : Int32} {x5 : Int32} {x6 : Int32} {x7 : Int32} {sx0 : Int32} {S : fm_S} {r : Option Value × am_W} (nx : am_Ev d 184 179 [some (.ref 231), some (.int x1), some (.int x2), some (.int x3), some (.int x4), some (.int x5), some (.int x6), some (.int x7)] [.int 0, .int sx0] (fm_mk S) r) : am_Ev d 184 178 [some (.ref 231), some (.int x1), some (.int x2), some (.int x3), some (.int x4), some (.int x5), some (.int x6), some (.int x7)] [.int sx0] (fm_mk S) r := by
  refine fs_iconst (n := 0) (v := 0) (by decide +kernel) (by decide) ?_
  exact nx
theorem b184_179 {d : Nat} {x1 : Int32} {x2 : Int32} {x3 : Int32} {x4 : Int32} {x5 : Int32} {x6 : Int32} {x7 : Int32} {sx0 : Int32} {sx1 : Int32} {v : Int32} {S1 : fm_S} {S : fm_S} {r : Option Value × am_W} (hc : am_Sp d 170 [.int x4, .int x7] (fm_mk S) (some (.int v)) (fm_mk S1)) (nx : am_Ev (d + 1) 184 191 [some (.ref 231), some (.int x1), some (.int x2), some (.int x3), some (.int x4), some (.int (sx0 + sx1)), some (.int x6), some (.int x7)] [.int v, .int x6] (fm_mk S1) r) : am_Ev (d + 1) 184 179 [some (.ref 231), some (.int x1), some (.int x2), some (.int x3), some (.int x4), some (.int x5), some (.int x6), some (.int x7)] [.int sx1, .int sx0] (fm_mk S) r := by
  refine fs_iadd (by decide +kernel) ?_
  refine fs_istore (j := 5) (L' := [some (.ref 231), some (.int x1), some (.int x2), some (.int x3), some (.int x4), some (.int (sx0 + sx1)), some (.int x6), some (.int x7)]) (by decide +kernel) (Nat.le_of_ble_eq_true rfl) rfl ?_
  refine fs_iload (j := 6) (by decide +kernel) rfl ?_
  refine fs_iload (j := 4) (by decide +kernel) rfl ?_
  refine fs_iload (j := 7) (by decide +kernel) rfl ?_
  exact fe_callS (idx := 190) (kd := 0) (n := 2) (wp := 1155) (q := (1156, 0)) (as := [.int x4, .int x7]) (rs := [.int x6]) (by decide +kernel) (by decide +kernel) (by decide +kernel) (by decide) rfl (Nat.le_of_ble_eq_true rfl) rfl hc nx
theorem b184_191 {d : Nat} {x1 : Int32} {x2 : Int32} {x3 : Int32} {x4 : Int32} {x5 : Int32} {x6 : Int32} {x7 : Int32} {sx0 : Int32} {sx1 : Int32} {S : fm_S} {r : Option Value × am_W} (kt : sx1 = 0 → am_Ev d 184 204 [some (.ref 231), some (.int x1), some (.int x2), some (.int x3), some (.int x4), some (.int x5), some (.int x6), some (.int x7)] [.int sx0] (fm_mk S) r) (kf : ¬ sx1 = 0 → am_Ev d 184 194 [some (.ref 231), some (.int x1), some (.int x2), some (.int x3), some (.int x4), some (.int x5), some (.int x6), some (.int x7)] [.int sx0] (fm_mk S) r) : am_Ev d 184 191 [some (.ref 231), some (.int x1), some (.int x2), some (.int x3), some (.int x4), some (.int x5), some (.int x6), some (.int x7)] [.int sx1, .int sx0] (fm_mk S) r := by
  exact fs_ifeq (off := 13) (tgt := 204) (by decide +kernel) (by decide) kt kf
theorem b184_194 {d : Nat} {x1 : Int32} {x2 : Int32} {x3 : Int32} {x4 : Int32} {x5 : Int32} {x6 : Int32} {x7 : Int32} {sx0 : Int32} {S : fm_S} {r : Option Value × am_W} (hi0 : vp_in x7 6) (nx : am_Ev d 184 205 [some (.ref 231), some (.int x1), some (.int x2), some (.int x3), some (.int x4), some (.int x5), some (.int x6), some (.int x7)] [.int (S.1 241 x7.toNatClampNeg), .int sx0] (fm_mk S) r) : am_Ev d 184 194 [some (.ref 231), some (.int x1), some (.int x2), some (.int x3), some (.int x4), some (.int x5), some (.int x6), some (.int x7)] [.int sx0] (fm_mk S) r := by
  refine fs_aloadn (j := 0) (by decide +kernel) rfl ?_
  refine fe_getR (idx := 37) (t := 8) (f := 17) (fk := 2) (fin := 1) (wp := 960) (x := 241) (by decide +kernel) (by decide +kernel) (by decide +kernel) (by decide +kernel) (by decide +kernel) ?_
  refine fs_iload (j := 7) (by decide +kernel) rfl ?_
  refine fx_iald (n := x7.toNatClampNeg) (len := 6) (by decide +kernel) (by decide +kernel) (by decide +kernel) hi0 rfl ?_
  refine fs_goto (off := 4) (tgt := 205) (by decide +kernel) (by decide) ?_
  exact nx
theorem b184_204 {d : Nat} {x1 : Int32} {x2 : Int32} {x3 : Int32} {x4 : Int32} {x5 : Int32} {x6 : Int32} {x7 : Int32} {sx0 : Int32} {S : fm_S} {r : Option Value × am_W} (nx : am_Ev d 184 205 [some (.ref 231), some (.int x1), some (.int x2), some (.int x3), some (.int x4), some (.int x5), some (.int x6), some (.int x7)] [.int 0, .int sx0] (fm_mk S) r) : am_Ev d 184 204 [some (.ref 231), some (.int x1), some (.int x2), some (.int x3), some (.int x4), some (.int x5), some (.int x6), some (.int x7)] [.int sx0] (fm_mk S) r := by
  refine fs_iconst (n := 0) (v := 0) (by decide +kernel) (by decide) ?_
  exact nx
theorem b184_205 {d : Nat} {x1 : Int32} {x2 : Int32} {x3 : Int32} {x4 : Int32} {x5 : Int32} {x6 : Int32} {x7 : Int32} {sx0 : Int32} {sx1 : Int32} {S : fm_S} {r : Option Value × am_W} (nx : am_Ev d 184 141 [some (.ref 231), some (.int x1), some (.int x2), some (.int x3), some (.int x4), some (.int x5), some (.int (sx0 ||| sx1)), some (.int (x7 + 1))] [] (fm_mk S) r) : am_Ev d 184 205 [some (.ref 231), some (.int x1), some (.int x2), some (.int x3), some (.int x4), some (.int x5), some (.int x6), some (.int x7)] [.int sx1, .int sx0] (fm_mk S) r := by
  refine fs_ior (by decide +kernel) ?_
  refine fs_istore (j := 6) (L' := [some (.ref 231), some (.int x1), some (.int x2), some (.int x3), some (.int x4), some (.int x5), some (.int (sx0 ||| sx1)), some (.int x7)]) (by decide +kernel) (Nat.le_of_ble_eq_true rfl) rfl ?_
  refine fs_iinc (j := 7) (n := 1) (v := 1) (L' := [some (.ref 231), some (.int x1), some (.int x2), some (.int x3), some (.int x4), some (.int x5), some (.int (sx0 ||| sx1)), some (.int (x7 + 1))]) (by decide +kernel) rfl (Nat.le_of_ble_eq_true rfl) (by decide) rfl ?_
  refine fs_goto (off := -70) (tgt := 141) (by decide +kernel) (by decide) ?_
  exact nx
theorem b184_214 {d : Nat} {x1 : Int32} {x2 : Int32} {x3 : Int32} {x4 : Int32} {x5 : Int32} {x6 : Int32} {x7 : Int32} {S : fm_S} {r : Option Value × am_W} (kt : x2 < 0 → am_Ev d 184 242 [some (.ref 231), some (.int x1), some (.int x2), some (.int x3), some (.int x4), some (.int x5), some (.int x6), some (.int x7)] [] (fm_mk S) r) (kf : ¬ x2 < 0 → am_Ev d 184 218 [some (.ref 231), some (.int x1), some (.int x2), some (.int x3), some (.int x4), some (.int x5), some (.int x6), some (.int x7)] [] (fm_mk S) r) : am_Ev d 184 214 [some (.ref 231), some (.int x1), some (.int x2), some (.int x3), some (.int x4), some (.int x5), some (.int x6), some (.int x7)] [] (fm_mk S) r := by
  refine fs_iloadn (j := 2) (by decide +kernel) rfl ?_
  exact fs_iflt (off := 27) (tgt := 242) (by decide +kernel) (by decide) kt kf
theorem b184_218 {d : Nat} {x1 : Int32} {x2 : Int32} {x3 : Int32} {x4 : Int32} {x5 : Int32} {x6 : Int32} {x7 : Int32} {S : fm_S} {r : Option Value × am_W} (kt : x5 < x3 → am_Ev d 184 242 [some (.ref 231), some (.int x1), some (.int x2), some (.int x3), some (.int x4), some (.int x5), some (.int x6), some (.int x7)] [] (fm_mk S) r) (kf : ¬ x5 < x3 → am_Ev d 184 224 [some (.ref 231), some (.int x1), some (.int x2), some (.int x3), some (.int x4), some (.int x5), some (.int x6), some (.int x7)] [] (fm_mk S) r) : am_Ev d 184 218 [some (.ref 231), some (.int x1), some (.int x2), some (.int x3), some (.int x4), some (.int x5), some (.int x6), some (.int x7)] [] (fm_mk S) r := by
  refine fs_iload (j := 5) (by decide +kernel) rfl ?_
  refine fs_iloadn (j := 3) (by decide +kernel) rfl ?_
  exact fs_iclt (off := 21) (tgt := 242) (by decide +kernel) (by decide) kt kf
theorem b184_224 {d : Nat} {x1 : Int32} {x2 : Int32} {x3 : Int32} {x4 : Int32} {x5 : Int32} {x6 : Int32} {x7 : Int32} {S : fm_S} {r : Option Value × am_W} (kt : ¬ x5 = x3 → am_Ev d 184 246 [some (.ref 231), some (.int x1), some (.int x2), some (.int x3), some (.int x4), some (.int x5), some (.int x6), some (.int x7)] [] (fm_mk S) r) (kf : x5 = x3 → am_Ev d 184 230 [some (.ref 231), some (.int x1), some (.int x2), some (.int x3), some (.int x4), some (.int x5), some (.int x6), some (.int x7)] [] (fm_mk S) r) : am_Ev d 184 224 [some (.ref 231), some (.int x1), some (.int x2), some (.int x3), some (.int x4), some (.int x5), some (.int x6), some (.int x7)] [] (fm_mk S) r := by
  refine fs_iload (j := 5) (by decide +kernel) rfl ?_
  refine fs_iloadn (j := 3) (by decide +kernel) rfl ?_
  exact fs_icne (off := 19) (tgt := 246) (by decide +kernel) (by decide) kt kf
theorem b184_230 {d : Nat} {x1 : Int32} {x2 : Int32} {x3 : Int32} {x4 : Int32} {x5 : Int32} {x6 : Int32} {x7 : Int32} {v : Int32} {S1 : fm_S} {S : fm_S} {r : Option Value × am_W} (hc : am_Sp d 180 [.int x4] (fm_mk S) (some (.int v)) (fm_mk S1)) (nx : am_Ev (d + 1) 184 235 [some (.ref 231), some (.int x1), some (.int x2), some (.int x3), some (.int x4), some (.int x5), some (.int x6), some (.int x7)] [.int v] (fm_mk S1) r) : am_Ev (d + 1) 184 230 [some (.ref 231), some (.int x1), some (.int x2), some (.int x3), some (.int x4), some (.int x5), some (.int x6), some (.int x7)] [] (fm_mk S) r := by
  refine fs_iload (j := 4) (by decide +kernel) rfl ?_
  exact fe_callS (idx := 207) (kd := 0) (n := 1) (wp := 1194) (q := (1195, 0)) (as := [.int x4]) (rs := []) (by decide +kernel) (by decide +kernel) (by decide +kernel) (by decide) rfl (Nat.le_of_ble_eq_true rfl) rfl hc nx
theorem b184_235 {d : Nat} {x1 : Int32} {x2 : Int32} {x3 : Int32} {x4 : Int32} {x5 : Int32} {x6 : Int32} {x7 : Int32} {sx0 : Int32} {v : Int32} {S1 : fm_S} {S : fm_S} {r : Option Value × am_W} (hc : am_Sp d 180 [.int x2] (fm_mk S) (some (.int v)) (fm_mk S1)) (nx : am_Ev (d + 1) 184 239 [some (.ref 231), some (.int x1), some (.int x2), some (.int x3), some (.int x4), some (.int x5), some (.int x6), some (.int x7)] [.int v, .int sx0] (fm_mk S1) r) : am_Ev (d + 1) 184 235 [some (.ref 231), some (.int x1), some (.int x2), some (.int x3), some (.int x4), some (.int x5), some (.int x6), some (.int x7)] [.int sx0] (fm_mk S) r := by
  refine fs_iloadn (j := 2) (by decide +kernel) rfl ?_
  exact fe_callS (idx := 207) (kd := 0) (n := 1) (wp := 1194) (q := (1195, 0)) (as := [.int x2]) (rs := [.int sx0]) (by decide +kernel) (by decide +kernel) (by decide +kernel) (by decide) rfl (Nat.le_of_ble_eq_true rfl) rfl hc nx
theorem b184_239 {d : Nat} {x1 : Int32} {x2 : Int32} {x3 : Int32} {x4 : Int32} {x5 : Int32} {x6 : Int32} {x7 : Int32} {sx0 : Int32} {sx1 : Int32} {S : fm_S} {r : Option Value × am_W} (kt : sx1 ≤ sx0 → am_Ev d 184 246 [some (.ref 231), some (.int x1), some (.int x2), some (.int x3), some (.int x4), some (.int x5), some (.int x6), some (.int x7)] [] (fm_mk S) r) (kf : ¬ sx1 ≤ sx0 → am_Ev d 184 242 [some (.ref 231), some (.int x1), some (.int x2), some (.int x3), some (.int x4), some (.int x5), some (.int x6), some (.int x7)] [] (fm_mk S) r) : am_Ev d 184 239 [some (.ref 231), some (.int x1), some (.int x2), some (.int x3), some (.int x4), some (.int x5), some (.int x6), some (.int x7)] [.int sx1, .int sx0] (fm_mk S) r := by
  exact fs_icge (off := 7) (tgt := 246) (by decide +kernel) (by decide) kt kf
theorem b184_242 {d : Nat} {x1 : Int32} {x2 : Int32} {x3 : Int32} {x4 : Int32} {x5 : Int32} {x6 : Int32} {x7 : Int32} {S : fm_S} {r : Option Value × am_W} (nx : am_Ev d 184 247 [some (.ref 231), some (.int x1), some (.int x2), some (.int x3), some (.int x4), some (.int x5), some (.int x6), some (.int x7)] [.int 1] (fm_mk S) r) : am_Ev d 184 242 [some (.ref 231), some (.int x1), some (.int x2), some (.int x3), some (.int x4), some (.int x5), some (.int x6), some (.int x7)] [] (fm_mk S) r := by
  refine fs_iconst (n := 1) (v := 1) (by decide +kernel) (by decide) ?_
  refine fs_goto (off := 4) (tgt := 247) (by decide +kernel) (by decide) ?_
  exact nx
theorem b184_246 {d : Nat} {x1 : Int32} {x2 : Int32} {x3 : Int32} {x4 : Int32} {x5 : Int32} {x6 : Int32} {x7 : Int32} {S : fm_S} {r : Option Value × am_W} (nx : am_Ev d 184 247 [some (.ref 231), some (.int x1), some (.int x2), some (.int x3), some (.int x4), some (.int x5), some (.int x6), some (.int x7)] [.int 0] (fm_mk S) r) : am_Ev d 184 246 [some (.ref 231), some (.int x1), some (.int x2), some (.int x3), some (.int x4), some (.int x5), some (.int x6), some (.int x7)] [] (fm_mk S) r := by
  refine fs_iconst (n := 0) (v := 0) (by decide +kernel) (by decide) ?_
  exact nx
theorem b184_247 {d : Nat} {x1 : Int32} {x2 : Int32} {x3 : Int32} {x4 : Int32} {x5 : Int32} {x6 : Int32} {x7 : Int32} {sx0 : Int32} {S : fm_S} {r : Option Value × am_W} (kt : ¬ (x1 &&& (x6 ^^^ (-1))) = 0 → am_Ev d 184 269 [some (.ref 231), some (.int x1), some (.int x2), some (.int x3), some (.int x4), some (.int x5), some (.int x6), some (.int sx0)] [] (fm_mk S) r) (kf : (x1 &&& (x6 ^^^ (-1))) = 0 → am_Ev d 184 258 [some (.ref 231), some (.int x1), some (.int x2), some (.int x3), some (.int x4), some (.int x5), some (.int x6), some (.int sx0)] [] (fm_mk S) r) : am_Ev d 184 247 [some (.ref 231), some (.int x1), some (.int x2), some (.int x3), some (.int x4), some (.int x5), some (.int x6), some (.int x7)] [.int sx0] (fm_mk S) r := by
  refine fs_istore (j := 7) (L' := [some (.ref 231), some (.int x1), some (.int x2), some (.int x3), some (.int x4), some (.int x5), some (.int x6), some (.int sx0)]) (by decide +kernel) (Nat.le_of_ble_eq_true rfl) rfl ?_
  refine fs_iloadn (j := 1) (by decide +kernel) rfl ?_
  refine fs_iload (j := 6) (by decide +kernel) rfl ?_
  refine fs_iconst (n := -1) (v := (-1)) (by decide +kernel) (by decide) ?_
  refine fs_ixor (by decide +kernel) ?_
  refine fs_iand (by decide +kernel) ?_
  exact fs_ifne (off := 14) (tgt := 269) (by decide +kernel) (by decide) kt kf
theorem b184_258 {d : Nat} {x1 : Int32} {x2 : Int32} {x3 : Int32} {x4 : Int32} {x5 : Int32} {x6 : Int32} {x7 : Int32} {S : fm_S} {r : Option Value × am_W} (kt : x7 = 0 → am_Ev d 184 269 [some (.ref 231), some (.int x1), some (.int x2), some (.int x3), some (.int x4), some (.int x5), some (.int x6), some (.int x7)] [] (fm_mk S) r) (kf : ¬ x7 = 0 → am_Ev d 184 263 [some (.ref 231), some (.int x1), some (.int x2), some (.int x3), some (.int x4), some (.int x5), some (.int x6), some (.int x7)] [] (fm_mk S) r) : am_Ev d 184 258 [some (.ref 231), some (.int x1), some (.int x2), some (.int x3), some (.int x4), some (.int x5), some (.int x6), some (.int x7)] [] (fm_mk S) r := by
  refine fs_iload (j := 7) (by decide +kernel) rfl ?_
  exact fs_ifeq (off := 9) (tgt := 269) (by decide +kernel) (by decide) kt kf
theorem b184_263 {d : Nat} {x1 : Int32} {x2 : Int32} {x3 : Int32} {x4 : Int32} {x5 : Int32} {x6 : Int32} {x7 : Int32} {S : fm_S} {r : Option Value × am_W} (nx : am_Ev d 184 269 [some (.ref 231), some (.int x1), some (.int x4), some (.int x5), some (.int x4), some (.int x5), some (.int x6), some (.int x7)] [] (fm_mk S) r) : am_Ev d 184 263 [some (.ref 231), some (.int x1), some (.int x2), some (.int x3), some (.int x4), some (.int x5), some (.int x6), some (.int x7)] [] (fm_mk S) r := by
  refine fs_iload (j := 4) (by decide +kernel) rfl ?_
  refine fs_istoren (j := 2) (L' := [some (.ref 231), some (.int x1), some (.int x4), some (.int x3), some (.int x4), some (.int x5), some (.int x6), some (.int x7)]) (by decide +kernel) (Nat.le_of_ble_eq_true rfl) rfl ?_
  refine fs_iload (j := 5) (by decide +kernel) rfl ?_
  refine fs_istoren (j := 3) (L' := [some (.ref 231), some (.int x1), some (.int x4), some (.int x5), some (.int x4), some (.int x5), some (.int x6), some (.int x7)]) (by decide +kernel) (Nat.le_of_ble_eq_true rfl) rfl ?_
  exact nx
theorem b184_269 {d : Nat} {x1 : Int32} {x2 : Int32} {x3 : Int32} {x4 : Int32} {x5 : Int32} {x6 : Int32} {x7 : Int32} {S : fm_S} {r : Option Value × am_W} (nx : am_Ev d 184 119 [some (.ref 231), some (.int x1), some (.int x2), some (.int x3), some (.int (x4 + 1)), some (.int x5), some (.int x6), some (.int x7)] [] (fm_mk S) r) : am_Ev d 184 269 [some (.ref 231), some (.int x1), some (.int x2), some (.int x3), some (.int x4), some (.int x5), some (.int x6), some (.int x7)] [] (fm_mk S) r := by
  refine fs_iinc (j := 4) (n := 1) (v := 1) (L' := [some (.ref 231), some (.int x1), some (.int x2), some (.int x3), some (.int (x4 + 1)), some (.int x5), some (.int x6), some (.int x7)]) (by decide +kernel) rfl (Nat.le_of_ble_eq_true rfl) (by decide) rfl ?_
  refine fs_goto (off := -153) (tgt := 119) (by decide +kernel) (by decide) ?_
  exact nx
theorem b184_275 {d : Nat} {x1 : Int32} {x2 : Int32} {x3 : Int32} {x4 : Int32} {o5 : Option Value} {o6 : Option Value} {o7 : Option Value} {S : fm_S}  : am_Ev d 184 275 [some (.ref 231), some (.int x1), some (.int x2), some (.int x3), some (.int x4), o5, o6, o7] [] (fm_mk S) (some (.int x2), fm_mk S) := by
  refine fs_iloadn (j := 2) (by decide +kernel) rfl ?_
  exact fe_retI (by decide +kernel) (by decide +kernel)
-- KitchenSiegeModel.answer(III)I
theorem b185_0 {d : Nat} {x1 : Int32} {x2 : Int32} {x3 : Int32} {o4 : Option Value} {o5 : Option Value} {o6 : Option Value} {o7 : Option Value} {v : Int32} {S1 : fm_S} {S : fm_S} {r : Option Value × am_W} (hc : am_Sp d 162 [.ref 231, .int x1] (fm_mk S) (some (.int v)) (fm_mk S1)) (nx : am_Ev (d + 1) 185 5 [some (.ref 231), some (.int x1), some (.int x2), some (.int x3), o4, o5, o6, o7] [.int v] (fm_mk S1) r) : am_Ev (d + 1) 185 0 [some (.ref 231), some (.int x1), some (.int x2), some (.int x3), o4, o5, o6, o7] [] (fm_mk S) r := by
  refine fs_aloadn (j := 0) (by decide +kernel) rfl ?_
  refine fs_iloadn (j := 1) (by decide +kernel) rfl ?_
  exact fe_callV (idx := 172) (n := 1) (wp := 1125) (q := (1127, 43)) (as := [.int x1]) (rs := []) (by decide +kernel) (by decide +kernel) (by decide +kernel) (by decide +kernel) rfl (Nat.le_of_ble_eq_true rfl) rfl hc nx
theorem b185_5 {d : Nat} {x1 : Int32} {x2 : Int32} {x3 : Int32} {o4 : Option Value} {o5 : Option Value} {o6 : Option Value} {o7 : Option Value} {sx0 : Int32} {S : fm_S} {r : Option Value × am_W} (kt : sx0 = 0 → am_Ev d 185 30 [some (.ref 231), some (.int x1), some (.int x2), some (.int x3), o4, o5, o6, o7] [] (fm_mk S) r) (kf : ¬ sx0 = 0 → am_Ev d 185 8 [some (.ref 231), some (.int x1), some (.int x2), some (.int x3), o4, o5, o6, o7] [] (fm_mk S) r) : am_Ev d 185 5 [some (.ref 231), some (.int x1), some (.int x2), some (.int x3), o4, o5, o6, o7] [.int sx0] (fm_mk S) r := by
  exact fs_ifeq (off := 25) (tgt := 30) (by decide +kernel) (by decide) kt kf
theorem b185_8 {d : Nat} {x1 : Int32} {x2 : Int32} {x3 : Int32} {o4 : Option Value} {o5 : Option Value} {o6 : Option Value} {o7 : Option Value} {v : Int32} {S1 : fm_S} {S : fm_S} {r : Option Value × am_W} (hc : am_Sp d 137 [.long x2.toInt64, .long 0, .long 9] (fm_mk S) (some (.int v)) (fm_mk S1)) (nx : am_Ev (d + 1) 185 17 [some (.ref 231), some (.int x1), some (.int x2), some (.int x3), o4, o5, o6, o7] [.int v] (fm_mk S1) r) : am_Ev (d + 1) 185 8 [some (.ref 231), some (.int x1), some (.int x2), some (.int x3), o4, o5, o6, o7] [] (fm_mk S) r := by
  refine fs_iloadn (j := 2) (by decide +kernel) rfl ?_
  refine fs_i2l (by decide +kernel) ?_
  refine fs_lconst (n := 0) (v := 0) (by decide +kernel) (by decide) ?_
  refine fs_ldc2 (idx := 71) (q := 1017) (v := 9) (by decide +kernel) (by decide +kernel) ?_
  exact fe_callS (idx := 67) (kd := 0) (n := 3) (wp := 1014) (q := (1015, 0)) (as := [.long x2.toInt64, .long 0, .long 9]) (rs := []) (by decide +kernel) (by decide +kernel) (by decide +kernel) (by decide) rfl (Nat.le_of_ble_eq_true rfl) rfl hc nx
theorem b185_17 {d : Nat} {x1 : Int32} {x2 : Int32} {x3 : Int32} {o4 : Option Value} {o5 : Option Value} {o6 : Option Value} {o7 : Option Value} {sx0 : Int32} {S : fm_S} {r : Option Value × am_W} (kt : sx0 = 0 → am_Ev d 185 30 [some (.ref 231), some (.int x1), some (.int x2), some (.int x3), o4, o5, o6, o7] [] (fm_mk S) r) (kf : ¬ sx0 = 0 → am_Ev d 185 20 [some (.ref 231), some (.int x1), some (.int x2), some (.int x3), o4, o5, o6, o7] [] (fm_mk S) r) : am_Ev d 185 17 [some (.ref 231), some (.int x1), some (.int x2), some (.int x3), o4, o5, o6, o7] [.int sx0] (fm_mk S) r := by
  exact fs_ifeq (off := 13) (tgt := 30) (by decide +kernel) (by decide) kt kf
theorem b185_20 {d : Nat} {x1 : Int32} {x2 : Int32} {x3 : Int32} {o4 : Option Value} {o5 : Option Value} {o6 : Option Value} {o7 : Option Value} {v : Int32} {S1 : fm_S} {S : fm_S} {r : Option Value × am_W} (hc : am_Sp d 137 [.long x3.toInt64, .long 0, .long 1] (fm_mk S) (some (.int v)) (fm_mk S1)) (nx : am_Ev (d + 1) 185 27 [some (.ref 231), some (.int x1), some (.int x2), some (.int x3), o4, o5, o6, o7] [.int v] (fm_mk S1) r) : am_Ev (d + 1) 185 20 [some (.ref 231), some (.int x1), some (.int x2), some (.int x3), o4, o5, o6, o7] [] (fm_mk S) r := by
  refine fs_iloadn (j := 3) (by decide +kernel) rfl ?_
  refine fs_i2l (by decide +kernel) ?_
  refine fs_lconst (n := 0) (v := 0) (by decide +kernel) (by decide) ?_
  refine fs_lconst (n := 1) (v := 1) (by decide +kernel) (by decide) ?_
  exact fe_callS (idx := 67) (kd := 0) (n := 3) (wp := 1014) (q := (1015, 0)) (as := [.long x3.toInt64, .long 0, .long 1]) (rs := []) (by decide +kernel) (by decide +kernel) (by decide +kernel) (by decide) rfl (Nat.le_of_ble_eq_true rfl) rfl hc nx
theorem b185_27 {d : Nat} {x1 : Int32} {x2 : Int32} {x3 : Int32} {o4 : Option Value} {o5 : Option Value} {o6 : Option Value} {o7 : Option Value} {sx0 : Int32} {S : fm_S} {r : Option Value × am_W} (kt : ¬ sx0 = 0 → am_Ev d 185 35 [some (.ref 231), some (.int x1), some (.int x2), some (.int x3), o4, o5, o6, o7] [] (fm_mk S) r) (kf : sx0 = 0 → am_Ev d 185 30 [some (.ref 231), some (.int x1), some (.int x2), some (.int x3), o4, o5, o6, o7] [] (fm_mk S) r) : am_Ev d 185 27 [some (.ref 231), some (.int x1), some (.int x2), some (.int x3), o4, o5, o6, o7] [.int sx0] (fm_mk S) r := by
  exact fs_ifne (off := 8) (tgt := 35) (by decide +kernel) (by decide) kt kf
theorem b185_30 {d : Nat} {x1 : Int32} {x2 : Int32} {x3 : Int32} {o4 : Option Value} {o5 : Option Value} {o6 : Option Value} {o7 : Option Value} {v : Int32} {S1 : fm_S} {S : fm_S} {r : Option Value × am_W} (hc : am_Sp d 138 [.ref 231] (fm_mk S) (some (.int v)) (fm_mk S1)) (nx : am_Ev (d + 1) 185 34 [some (.ref 231), some (.int x1), some (.int x2), some (.int x3), o4, o5, o6, o7] [.int v] (fm_mk S1) r) : am_Ev (d + 1) 185 30 [some (.ref 231), some (.int x1), some (.int x2), some (.int x3), o4, o5, o6, o7] [] (fm_mk S) r := by
  refine fs_aloadn (j := 0) (by decide +kernel) rfl ?_
  exact fe_callV (idx := 73) (n := 0) (wp := 1018) (q := (1020, 31)) (as := []) (rs := []) (by decide +kernel) (by decide +kernel) (by decide +kernel) (by decide +kernel) rfl (Nat.le_of_ble_eq_true rfl) rfl hc nx
theorem b185_34 {d : Nat} {x1 : Int32} {x2 : Int32} {x3 : Int32} {o4 : Option Value} {o5 : Option Value} {o6 : Option Value} {o7 : Option Value} {sx0 : Int32} {S : fm_S}  : am_Ev d 185 34 [some (.ref 231), some (.int x1), some (.int x2), some (.int x3), o4, o5, o6, o7] [.int sx0] (fm_mk S) (some (.int sx0), fm_mk S) := by
  exact fe_retI (by decide +kernel) (by decide +kernel)
theorem b185_35 {d : Nat} {x1 : Int32} {x2 : Int32} {x3 : Int32} {o4 : Option Value} {o5 : Option Value} {o6 : Option Value} {o7 : Option Value} {S : fm_S} {r : Option Value × am_W} (nx : am_Ev d 185 45 [some (.ref 231), some (.int x1), some (.int x2), some (.int x3), some (.int (-1)), some (.int 9), some (.int 0), o7] [] (fm_mk S) r) : am_Ev d 185 35 [some (.ref 231), some (.int x1), some (.int x2), some (.int x3), o4, o5, o6, o7] [] (fm_mk S) r := by
  refine fs_iconst (n := -1) (v := (-1)) (by decide +kernel) (by decide) ?_
  refine fs_istore (j := 4) (L' := [some (.ref 231), some (.int x1), some (.int x2), some (.int x3), some (.int (-1)), o5, o6, o7]) (by decide +kernel) (Nat.le_of_ble_eq_true rfl) rfl ?_
  refine fs_bipush (n := 9) (v := 9) (by decide +kernel) (by decide) ?_
  refine fs_istore (j := 5) (L' := [some (.ref 231), some (.int x1), some (.int x2), some (.int x3), some (.int (-1)), some (.int 9), o6, o7]) (by decide +kernel) (Nat.le_of_ble_eq_true rfl) rfl ?_
  refine fs_iconst (n := 0) (v := 0) (by decide +kernel) (by decide) ?_
  refine fs_istore (j := 6) (L' := [some (.ref 231), some (.int x1), some (.int x2), some (.int x3), some (.int (-1)), some (.int 9), some (.int 0), o7]) (by decide +kernel) (Nat.le_of_ble_eq_true rfl) rfl ?_
  exact nx
theorem b185_45 {d : Nat} {x1 : Int32} {x2 : Int32} {x3 : Int32} {x4 : Int32} {x5 : Int32} {x6 : Int32} {o7 : Option Value} {S : fm_S} {r : Option Value × am_W} (kt : (S.1 232 0) ≤ x6 → am_Ev d 185 104 [some (.ref 231), some (.int x1), some (.int x2), some (.int x3), some (.int x4), some (.int x5), some (.int x6), o7] [] (fm_mk S) r) (kf : ¬ (S.1 232 0) ≤ x6 → am_Ev d 185 56 [some (.ref 231), some (.int x1), some (.int x2), some (.int x3), some (.int x4), some (.int x5), some (.int x6), o7] [] (fm_mk S) r) : am_Ev d 185 45 [some (.ref 231), some (.int x1), some (.int x2), some (.int x3), some (.int x4), some (.int x5), some (.int x6), o7] [] (fm_mk S) r := by
  refine fs_iload (j := 6) (by decide +kernel) rfl ?_
  refine fs_aloadn (j := 0) (by decide +kernel) rfl ?_
  refine fe_getR (idx := 7) (t := 8) (f := 0) (fk := 2) (fin := 1) (wp := 943) (x := 232) (by decide +kernel) (by decide +kernel) (by decide +kernel) (by decide +kernel) (by decide +kernel) ?_
  refine fs_iconst (n := 0) (v := 0) (by decide +kernel) (by decide) ?_
  refine fx_iald (n := 0) (len := 373) (by decide +kernel) (by decide +kernel) (by decide +kernel) (vp_c (by decide) (by decide)) (by decide) ?_
  exact fs_icge (off := 51) (tgt := 104) (by decide +kernel) (by decide) kt kf
theorem b185_56 {d : Nat} {x1 : Int32} {x2 : Int32} {x3 : Int32} {x4 : Int32} {x5 : Int32} {x6 : Int32} {o7 : Option Value} {v : Int32} {S1 : fm_S} {S : fm_S} {r : Option Value × am_W} (hc : am_Sp d 165 [.ref 231, .int x1, .int x6, .int x2] (fm_mk S) (some (.int v)) (fm_mk S1)) (nx : am_Ev (d + 1) 185 64 [some (.ref 231), some (.int x1), some (.int x2), some (.int x3), some (.int x4), some (.int x5), some (.int x6), o7] [.int v] (fm_mk S1) r) : am_Ev (d + 1) 185 56 [some (.ref 231), some (.int x1), some (.int x2), some (.int x3), some (.int x4), some (.int x5), some (.int x6), o7] [] (fm_mk S) r := by
  refine fs_aloadn (j := 0) (by decide +kernel) rfl ?_
  refine fs_iloadn (j := 1) (by decide +kernel) rfl ?_
  refine fs_iload (j := 6) (by decide +kernel) rfl ?_
  refine fs_iloadn (j := 2) (by decide +kernel) rfl ?_
  exact fe_callV (idx := 186) (n := 3) (wp := 1136) (q := (1138, 45)) (as := [.int x1, .int x6, .int x2]) (rs := []) (by decide +kernel) (by decide +kernel) (by decide +kernel) (by decide +kernel) rfl (Nat.le_of_ble_eq_true rfl) rfl hc nx
theorem b185_64 {d : Nat} {x1 : Int32} {x2 : Int32} {x3 : Int32} {x4 : Int32} {x5 : Int32} {x6 : Int32} {o7 : Option Value} {sx0 : Int32} {v : Int32} {S1 : fm_S} {S : fm_S} {r : Option Value × am_W} (hc : am_Sp d 180 [.int sx0] (fm_mk S) (some (.int v)) (fm_mk S1)) (nx : am_Ev (d + 1) 185 67 [some (.ref 231), some (.int x1), some (.int x2), some (.int x3), some (.int x4), some (.int x5), some (.int x6), o7] [.int v] (fm_mk S1) r) : am_Ev (d + 1) 185 64 [some (.ref 231), some (.int x1), some (.int x2), some (.int x3), some (.int x4), some (.int x5), some (.int x6), o7] [.int sx0] (fm_mk S) r := by
  exact fe_callS (idx := 207) (kd := 0) (n := 1) (wp := 1194) (q := (1195, 0)) (as := [.int sx0]) (rs := []) (by decide +kernel) (by decide +kernel) (by decide +kernel) (by decide) rfl (Nat.le_of_ble_eq_true rfl) rfl hc nx
theorem b185_67 {d : Nat} {x1 : Int32} {x2 : Int32} {x3 : Int32} {x4 : Int32} {x5 : Int32} {x6 : Int32} {o7 : Option Value} {sx0 : Int32} {S : fm_S} {r : Option Value × am_W} (hi0 : vp_in (29 + x6) 373) (kt : ¬ (S.1 232 ((29 + x6).toNatClampNeg)) = (-1) → am_Ev d 185 98 [some (.ref 231), some (.int x1), some (.int x2), some (.int x3), some (.int x4), some (.int x5), some (.int x6), some (.int sx0)] [] (fm_mk S) r) (kf : (S.1 232 ((29 + x6).toNatClampNeg)) = (-1) → am_Ev d 185 83 [some (.ref 231), some (.int x1), some (.int x2), some (.int x3), some (.int x4), some (.int x5), some (.int x6), some (.int sx0)] [] (fm_mk S) r) : am_Ev d 185 67 [some (.ref 231), some (.int x1), some (.int x2), some (.int x3), some (.int x4), some (.int x5), some (.int x6), o7] [.int sx0] (fm_mk S) r := by
  refine fs_istore (j := 7) (L' := [some (.ref 231), some (.int x1), some (.int x2), some (.int x3), some (.int x4), some (.int x5), some (.int x6), some (.int sx0)]) (by decide +kernel) (Nat.le_of_ble_eq_true rfl) rfl ?_
  refine fs_aloadn (j := 0) (by decide +kernel) rfl ?_
  refine fe_getR (idx := 7) (t := 8) (f := 0) (fk := 2) (fin := 1) (wp := 943) (x := 232) (by decide +kernel) (by decide +kernel) (by decide +kernel) (by decide +kernel) (by decide +kernel) ?_
  refine fs_bipush (n := 29) (v := 29) (by decide +kernel) (by decide) ?_
  refine fs_iload (j := 6) (by decide +kernel) rfl ?_
  refine fs_iadd (by decide +kernel) ?_
  refine fx_iald (n := (29 + x6).toNatClampNeg) (len := 373) (by decide +kernel) (by decide +kernel) (by decide +kernel) hi0 rfl ?_
  refine fs_iconst (n := -1) (v := (-1)) (by decide +kernel) (by decide) ?_
  exact fs_icne (off := 18) (tgt := 98) (by decide +kernel) (by decide) kt kf
theorem b185_83 {d : Nat} {x1 : Int32} {x2 : Int32} {x3 : Int32} {x4 : Int32} {x5 : Int32} {x6 : Int32} {x7 : Int32} {S : fm_S} {r : Option Value × am_W} (kt : x5 ≤ x7 → am_Ev d 185 98 [some (.ref 231), some (.int x1), some (.int x2), some (.int x3), some (.int x4), some (.int x5), some (.int x6), some (.int x7)] [] (fm_mk S) r) (kf : ¬ x5 ≤ x7 → am_Ev d 185 90 [some (.ref 231), some (.int x1), some (.int x2), some (.int x3), some (.int x4), some (.int x5), some (.int x6), some (.int x7)] [] (fm_mk S) r) : am_Ev d 185 83 [some (.ref 231), some (.int x1), some (.int x2), some (.int x3), some (.int x4), some (.int x5), some (.int x6), some (.int x7)] [] (fm_mk S) r := by
  refine fs_iload (j := 7) (by decide +kernel) rfl ?_
  refine fs_iload (j := 5) (by decide +kernel) rfl ?_
  exact fs_icge (off := 11) (tgt := 98) (by decide +kernel) (by decide) kt kf
theorem b185_90 {d : Nat} {x1 : Int32} {x2 : Int32} {x3 : Int32} {x4 : Int32} {x5 : Int32} {x6 : Int32} {x7 : Int32} {S : fm_S} {r : Option Value × am_W} (nx : am_Ev d 185 98 [some (.ref 231), some (.int x1), some (.int x2), some (.int x3), some (.int x6), some (.int x7), some (.int x6), some (.int x7)] [] (fm_mk S) r) : am_Ev d 185 90 [some (.ref 231), some (.int x1), some (.int x2), some (.int x3), some (.int x4), some (.int x5), some (.int x6), some (.int x7)] [] (fm_mk S) r := by
  refine fs_iload (j := 6) (by decide +kernel) rfl ?_
  refine fs_istore (j := 4) (L' := [some (.ref 231), some (.int x1), some (.int x2), some (.int x3), some (.int x6), some (.int x5), some (.int x6), some (.int x7)]) (by decide +kernel) (Nat.le_of_ble_eq_true rfl) rfl ?_
  refine fs_iload (j := 7) (by decide +kernel) rfl ?_
  refine fs_istore (j := 5) (L' := [some (.ref 231), some (.int x1), some (.int x2), some (.int x3), some (.int x6), some (.int x7), some (.int x6), some (.int x7)]) (by decide +kernel) (Nat.le_of_ble_eq_true rfl) rfl ?_
  exact nx
theorem b185_98 {d : Nat} {x1 : Int32} {x2 : Int32} {x3 : Int32} {x4 : Int32} {x5 : Int32} {x6 : Int32} {x7 : Int32} {S : fm_S} {r : Option Value × am_W} (nx : am_Ev d 185 45 [some (.ref 231), some (.int x1), some (.int x2), some (.int x3), some (.int x4), some (.int x5), some (.int (x6 + 1)), some (.int x7)] [] (fm_mk S) r) : am_Ev d 185 98 [some (.ref 231), some (.int x1), some (.int x2), some (.int x3), some (.int x4), some (.int x5), some (.int x6), some (.int x7)] [] (fm_mk S) r := by
  refine fs_iinc (j := 6) (n := 1) (v := 1) (L' := [some (.ref 231), some (.int x1), some (.int x2), some (.int x3), some (.int x4), some (.int x5), some (.int (x6 + 1)), some (.int x7)]) (by decide +kernel) rfl (Nat.le_of_ble_eq_true rfl) (by decide) rfl ?_
  refine fs_goto (off := -56) (tgt := 45) (by decide +kernel) (by decide) ?_
  exact nx
theorem b185_104 {d : Nat} {x1 : Int32} {x2 : Int32} {x3 : Int32} {x4 : Int32} {x5 : Int32} {x6 : Int32} {o7 : Option Value} {S : fm_S} {r : Option Value × am_W} (kt : x4 < 0 → am_Ev d 185 113 [some (.ref 231), some (.int x1), some (.int x2), some (.int x3), some (.int x4), some (.int x5), some (.int x6), o7] [] (fm_mk S) r) (kf : ¬ x4 < 0 → am_Ev d 185 109 [some (.ref 231), some (.int x1), some (.int x2), some (.int x3), some (.int x4), some (.int x5), some (.int x6), o7] [] (fm_mk S) r) : am_Ev d 185 104 [some (.ref 231), some (.int x1), some (.int x2), some (.int x3), some (.int x4), some (.int x5), some (.int x6), o7] [] (fm_mk S) r := by
  refine fs_iload (j := 4) (by decide +kernel) rfl ?_
  exact fs_iflt (off := 7) (tgt := 113) (by decide +kernel) (by decide) kt kf
theorem b185_109 {d : Nat} {x1 : Int32} {x2 : Int32} {x3 : Int32} {x4 : Int32} {x5 : Int32} {x6 : Int32} {o7 : Option Value} {S : fm_S} {r : Option Value × am_W} (kt : ¬ x3 = 0 → am_Ev d 185 118 [some (.ref 231), some (.int x1), some (.int x2), some (.int x3), some (.int x4), some (.int x5), some (.int x6), o7] [] (fm_mk S) r) (kf : x3 = 0 → am_Ev d 185 113 [some (.ref 231), some (.int x1), some (.int x2), some (.int x3), some (.int x4), some (.int x5), some (.int x6), o7] [] (fm_mk S) r) : am_Ev d 185 109 [some (.ref 231), some (.int x1), some (.int x2), some (.int x3), some (.int x4), some (.int x5), some (.int x6), o7] [] (fm_mk S) r := by
  refine fs_iloadn (j := 3) (by decide +kernel) rfl ?_
  exact fs_ifne (off := 8) (tgt := 118) (by decide +kernel) (by decide) kt kf
theorem b185_113 {d : Nat} {x1 : Int32} {x2 : Int32} {x3 : Int32} {x4 : Int32} {x5 : Int32} {x6 : Int32} {o7 : Option Value} {S : fm_S} {r : Option Value × am_W} (nx : am_Ev d 185 120 [some (.ref 231), some (.int x1), some (.int x2), some (.int x3), some (.int x4), some (.int x5), some (.int x6), o7] [.int x4] (fm_mk S) r) : am_Ev d 185 113 [some (.ref 231), some (.int x1), some (.int x2), some (.int x3), some (.int x4), some (.int x5), some (.int x6), o7] [] (fm_mk S) r := by
  refine fs_iload (j := 4) (by decide +kernel) rfl ?_
  refine fs_goto (off := 5) (tgt := 120) (by decide +kernel) (by decide) ?_
  exact nx
theorem b185_118 {d : Nat} {x1 : Int32} {x2 : Int32} {x3 : Int32} {x4 : Int32} {x5 : Int32} {x6 : Int32} {o7 : Option Value} {S : fm_S} {r : Option Value × am_W} (nx : am_Ev d 185 120 [some (.ref 231), some (.int x1), some (.int x2), some (.int x3), some (.int x4), some (.int x5), some (.int x6), o7] [.int x5] (fm_mk S) r) : am_Ev d 185 118 [some (.ref 231), some (.int x1), some (.int x2), some (.int x3), some (.int x4), some (.int x5), some (.int x6), o7] [] (fm_mk S) r := by
  refine fs_iload (j := 5) (by decide +kernel) rfl ?_
  exact nx
theorem b185_120 {d : Nat} {x1 : Int32} {x2 : Int32} {x3 : Int32} {x4 : Int32} {x5 : Int32} {x6 : Int32} {o7 : Option Value} {sx0 : Int32} {S : fm_S}  : am_Ev d 185 120 [some (.ref 231), some (.int x1), some (.int x2), some (.int x3), some (.int x4), some (.int x5), some (.int x6), o7] [.int sx0] (fm_mk S) (some (.int sx0), fm_mk S) := by
  exact fe_retI (by decide +kernel) (by decide +kernel)
-- KitchenSiegeModel.game(I)I
theorem b186_0 {d : Nat} {x1 : Int32} {o2 : Option Value} {o3 : Option Value} {o4 : Option Value} {o5 : Option Value} {o6 : Option Value} {v : Int32} {S1 : fm_S} {S : fm_S} {r : Option Value × am_W} (hc : am_Sp d 137 [.long x1.toInt64, .long 0, .long 9] (fm_mk S) (some (.int v)) (fm_mk S1)) (nx : am_Ev (d + 1) 186 9 [some (.ref 231), some (.int x1), o2, o3, o4, o5, o6] [.int v] (fm_mk S1) r) : am_Ev (d + 1) 186 0 [some (.ref 231), some (.int x1), o2, o3, o4, o5, o6] [] (fm_mk S) r := by
  refine fs_iloadn (j := 1) (by decide +kernel) rfl ?_
  refine fs_i2l (by decide +kernel) ?_
  refine fs_lconst (n := 0) (v := 0) (by decide +kernel) (by decide) ?_
  refine fs_ldc2 (idx := 71) (q := 1017) (v := 9) (by decide +kernel) (by decide +kernel) ?_
  exact fe_callS (idx := 67) (kd := 0) (n := 3) (wp := 1014) (q := (1015, 0)) (as := [.long x1.toInt64, .long 0, .long 9]) (rs := []) (by decide +kernel) (by decide +kernel) (by decide +kernel) (by decide) rfl (Nat.le_of_ble_eq_true rfl) rfl hc nx
theorem b186_9 {d : Nat} {x1 : Int32} {o2 : Option Value} {o3 : Option Value} {o4 : Option Value} {o5 : Option Value} {o6 : Option Value} {sx0 : Int32} {S : fm_S} {r : Option Value × am_W} (kt : ¬ sx0 = 0 → am_Ev d 186 17 [some (.ref 231), some (.int x1), o2, o3, o4, o5, o6] [] (fm_mk S) r) (kf : sx0 = 0 → am_Ev d 186 12 [some (.ref 231), some (.int x1), o2, o3, o4, o5, o6] [] (fm_mk S) r) : am_Ev d 186 9 [some (.ref 231), some (.int x1), o2, o3, o4, o5, o6] [.int sx0] (fm_mk S) r := by
  exact fs_ifne (off := 8) (tgt := 17) (by decide +kernel) (by decide) kt kf
theorem b186_12 {d : Nat} {x1 : Int32} {o2 : Option Value} {o3 : Option Value} {o4 : Option Value} {o5 : Option Value} {o6 : Option Value} {v : Int32} {S1 : fm_S} {S : fm_S} {r : Option Value × am_W} (hc : am_Sp d 138 [.ref 231] (fm_mk S) (some (.int v)) (fm_mk S1)) (nx : am_Ev (d + 1) 186 16 [some (.ref 231), some (.int x1), o2, o3, o4, o5, o6] [.int v] (fm_mk S1) r) : am_Ev (d + 1) 186 12 [some (.ref 231), some (.int x1), o2, o3, o4, o5, o6] [] (fm_mk S) r := by
  refine fs_aloadn (j := 0) (by decide +kernel) rfl ?_
  exact fe_callV (idx := 73) (n := 0) (wp := 1018) (q := (1020, 31)) (as := []) (rs := []) (by decide +kernel) (by decide +kernel) (by decide +kernel) (by decide +kernel) rfl (Nat.le_of_ble_eq_true rfl) rfl hc nx
theorem b186_16 {d : Nat} {x1 : Int32} {o2 : Option Value} {o3 : Option Value} {o4 : Option Value} {o5 : Option Value} {o6 : Option Value} {sx0 : Int32} {S : fm_S}  : am_Ev d 186 16 [some (.ref 231), some (.int x1), o2, o3, o4, o5, o6] [.int sx0] (fm_mk S) (some (.int sx0), fm_mk S) := by
  exact fe_retI (by decide +kernel) (by decide +kernel)
theorem b186_17 {d : Nat} {x1 : Int32} {o2 : Option Value} {o3 : Option Value} {o4 : Option Value} {o5 : Option Value} {o6 : Option Value} {S : fm_S} {r : Option Value × am_W} (nx : am_Ev d 186 19 [some (.ref 231), some (.int x1), some (.int 0), o3, o4, o5, o6] [] (fm_mk S) r) : am_Ev d 186 17 [some (.ref 231), some (.int x1), o2, o3, o4, o5, o6] [] (fm_mk S) r := by
  refine fs_iconst (n := 0) (v := 0) (by decide +kernel) (by decide) ?_
  refine fs_istoren (j := 2) (L' := [some (.ref 231), some (.int x1), some (.int 0), o3, o4, o5, o6]) (by decide +kernel) (Nat.le_of_ble_eq_true rfl) rfl ?_
  exact nx
theorem b186_19 {d : Nat} {x1 : Int32} {x2 : Int32} {o3 : Option Value} {o4 : Option Value} {o5 : Option Value} {o6 : Option Value} {S : fm_S} {r : Option Value × am_W} (kt : 63 ≤ x2 → am_Ev d 186 87 [some (.ref 231), some (.int x1), some (.int x2), o3, o4, o5, o6] [] (fm_mk S) r) (kf : ¬ 63 ≤ x2 → am_Ev d 186 25 [some (.ref 231), some (.int x1), some (.int x2), o3, o4, o5, o6] [] (fm_mk S) r) : am_Ev d 186 19 [some (.ref 231), some (.int x1), some (.int x2), o3, o4, o5, o6] [] (fm_mk S) r := by
  refine fs_iloadn (j := 2) (by decide +kernel) rfl ?_
  refine fs_bipush (n := 63) (v := 63) (by decide +kernel) (by decide) ?_
  exact fs_icge (off := 65) (tgt := 87) (by decide +kernel) (by decide) kt kf
theorem b186_25 {d : Nat} {x1 : Int32} {x2 : Int32} {o3 : Option Value} {o4 : Option Value} {o5 : Option Value} {o6 : Option Value} {S : fm_S} {r : Option Value × am_W} (kt : (S.1 232 1) ≤ (x2 / 9) → am_Ev d 186 51 [some (.ref 231), some (.int x1), some (.int x2), o3, o4, o5, o6] [.ref 231, .int x2, .ref 242] (fm_mk S) r) (kf : ¬ (S.1 232 1) ≤ (x2 / 9) → am_Ev d 186 44 [some (.ref 231), some (.int x1), some (.int x2), o3, o4, o5, o6] [.ref 231, .int x2, .ref 242] (fm_mk S) r) : am_Ev d 186 25 [some (.ref 231), some (.int x1), some (.int x2), o3, o4, o5, o6] [] (fm_mk S) r := by
  refine fs_aloadn (j := 0) (by decide +kernel) rfl ?_
  refine fe_getR (idx := 40) (t := 8) (f := 18) (fk := 2) (fin := 1) (wp := 961) (x := 242) (by decide +kernel) (by decide +kernel) (by decide +kernel) (by decide +kernel) (by decide +kernel) ?_
  refine fs_iloadn (j := 2) (by decide +kernel) rfl ?_
  refine fs_aloadn (j := 0) (by decide +kernel) rfl ?_
  refine fs_iloadn (j := 2) (by decide +kernel) rfl ?_
  refine fs_bipush (n := 9) (v := 9) (by decide +kernel) (by decide) ?_
  refine fe_idiv (by decide +kernel) (by decide) ?_
  refine fs_aloadn (j := 0) (by decide +kernel) rfl ?_
  refine fe_getR (idx := 7) (t := 8) (f := 0) (fk := 2) (fin := 1) (wp := 943) (x := 232) (by decide +kernel) (by decide +kernel) (by decide +kernel) (by decide +kernel) (by decide +kernel) ?_
  refine fs_iconst (n := 1) (v := 1) (by decide +kernel) (by decide) ?_
  refine fx_iald (n := 1) (len := 373) (by decide +kernel) (by decide +kernel) (by decide +kernel) (vp_c (by decide) (by decide)) (by decide) ?_
  exact fs_icge (off := 10) (tgt := 51) (by decide +kernel) (by decide) kt kf
theorem b186_44 {d : Nat} {x1 : Int32} {x2 : Int32} {o3 : Option Value} {o4 : Option Value} {o5 : Option Value} {o6 : Option Value} {sx1 : Int32} {S : fm_S} {r : Option Value × am_W} (nx : am_Ev d 186 52 [some (.ref 231), some (.int x1), some (.int x2), o3, o4, o5, o6] [.int (x2 / 9), .ref 231, .int sx1, .ref 242] (fm_mk S) r) : am_Ev d 186 44 [some (.ref 231), some (.int x1), some (.int x2), o3, o4, o5, o6] [.ref 231, .int sx1, .ref 242] (fm_mk S) r := by
  refine fs_iloadn (j := 2) (by decide +kernel) rfl ?_
  refine fs_bipush (n := 9) (v := 9) (by decide +kernel) (by decide) ?_
  refine fe_idiv (by decide +kernel) (by decide) ?_
  refine fs_goto (off := 4) (tgt := 52) (by decide +kernel) (by decide) ?_
  exact nx
theorem b186_51 {d : Nat} {x1 : Int32} {x2 : Int32} {o3 : Option Value} {o4 : Option Value} {o5 : Option Value} {o6 : Option Value} {sx1 : Int32} {S : fm_S} {r : Option Value × am_W} (nx : am_Ev d 186 52 [some (.ref 231), some (.int x1), some (.int x2), o3, o4, o5, o6] [.int (-1), .ref 231, .int sx1, .ref 242] (fm_mk S) r) : am_Ev d 186 51 [some (.ref 231), some (.int x1), some (.int x2), o3, o4, o5, o6] [.ref 231, .int sx1, .ref 242] (fm_mk S) r := by
  refine fs_iconst (n := -1) (v := (-1)) (by decide +kernel) (by decide) ?_
  exact nx
theorem b186_52 {d : Nat} {x1 : Int32} {x2 : Int32} {o3 : Option Value} {o4 : Option Value} {o5 : Option Value} {o6 : Option Value} {sx1 : Int32} {sx3 : Int32} {S : fm_S} {r : Option Value × am_W} (kt : (S.1 232 0) ≤ (x2 - x2 / 9 * 9) → am_Ev d 186 72 [some (.ref 231), some (.int x1), some (.int x2), o3, o4, o5, o6] [.int sx3, .ref 231, .int sx1, .ref 242] (fm_mk S) r) (kf : ¬ (S.1 232 0) ≤ (x2 - x2 / 9 * 9) → am_Ev d 186 65 [some (.ref 231), some (.int x1), some (.int x2), o3, o4, o5, o6] [.int sx3, .ref 231, .int sx1, .ref 242] (fm_mk S) r) : am_Ev d 186 52 [some (.ref 231), some (.int x1), some (.int x2), o3, o4, o5, o6] [.int sx3, .ref 231, .int sx1, .ref 242] (fm_mk S) r := by
  refine fs_iloadn (j := 2) (by decide +kernel) rfl ?_
  refine fs_bipush (n := 9) (v := 9) (by decide +kernel) (by decide) ?_
  refine fe_irem (by decide +kernel) (by decide) ?_
  refine fs_aloadn (j := 0) (by decide +kernel) rfl ?_
  refine fe_getR (idx := 7) (t := 8) (f := 0) (fk := 2) (fin := 1) (wp := 943) (x := 232) (by decide +kernel) (by decide +kernel) (by decide +kernel) (by decide +kernel) (by decide +kernel) ?_
  refine fs_iconst (n := 0) (v := 0) (by decide +kernel) (by decide) ?_
  refine fx_iald (n := 0) (len := 373) (by decide +kernel) (by decide +kernel) (by decide +kernel) (vp_c (by decide) (by decide)) (by decide) ?_
  exact fs_icge (off := 10) (tgt := 72) (by decide +kernel) (by decide) kt kf
theorem b186_65 {d : Nat} {x1 : Int32} {x2 : Int32} {o3 : Option Value} {o4 : Option Value} {o5 : Option Value} {o6 : Option Value} {sx1 : Int32} {sx3 : Int32} {S : fm_S} {r : Option Value × am_W} (nx : am_Ev d 186 73 [some (.ref 231), some (.int x1), some (.int x2), o3, o4, o5, o6] [.int (x2 - x2 / 9 * 9), .int sx3, .ref 231, .int sx1, .ref 242] (fm_mk S) r) : am_Ev d 186 65 [some (.ref 231), some (.int x1), some (.int x2), o3, o4, o5, o6] [.int sx3, .ref 231, .int sx1, .ref 242] (fm_mk S) r := by
  refine fs_iloadn (j := 2) (by decide +kernel) rfl ?_
  refine fs_bipush (n := 9) (v := 9) (by decide +kernel) (by decide) ?_
  refine fe_irem (by decide +kernel) (by decide) ?_
  refine fs_goto (off := 4) (tgt := 73) (by decide +kernel) (by decide) ?_
  exact nx
theorem b186_72 {d : Nat} {x1 : Int32} {x2 : Int32} {o3 : Option Value} {o4 : Option Value} {o5 : Option Value} {o6 : Option Value} {sx1 : Int32} {sx3 : Int32} {S : fm_S} {r : Option Value × am_W} (nx : am_Ev d 186 73 [some (.ref 231), some (.int x1), some (.int x2), o3, o4, o5, o6] [.int (-1), .int sx3, .ref 231, .int sx1, .ref 242] (fm_mk S) r) : am_Ev d 186 72 [some (.ref 231), some (.int x1), some (.int x2), o3, o4, o5, o6] [.int sx3, .ref 231, .int sx1, .ref 242] (fm_mk S) r := by
  refine fs_iconst (n := -1) (v := (-1)) (by decide +kernel) (by decide) ?_
  exact nx
theorem b186_73 {d : Nat} {x1 : Int32} {x2 : Int32} {o3 : Option Value} {o4 : Option Value} {o5 : Option Value} {o6 : Option Value} {sx1 : Int32} {sx3 : Int32} {sx4 : Int32} {v : Int32} {S1 : fm_S} {S : fm_S} {r : Option Value × am_W} (hc : am_Sp d 165 [.ref 231, .int sx3, .int sx4, .int x1] (fm_mk S) (some (.int v)) (fm_mk S1)) (nx : am_Ev (d + 1) 186 77 [some (.ref 231), some (.int x1), some (.int x2), o3, o4, o5, o6] [.int v, .int sx1, .ref 242] (fm_mk S1) r) : am_Ev (d + 1) 186 73 [some (.ref 231), some (.int x1), some (.int x2), o3, o4, o5, o6] [.int sx4, .int sx3, .ref 231, .int sx1, .ref 242] (fm_mk S) r := by
  refine fs_iloadn (j := 1) (by decide +kernel) rfl ?_
  exact fe_callV (idx := 186) (n := 3) (wp := 1136) (q := (1138, 45)) (as := [.int sx3, .int sx4, .int x1]) (rs := [.int sx1, .ref 242]) (by decide +kernel) (by decide +kernel) (by decide +kernel) (by decide +kernel) rfl (Nat.le_of_ble_eq_true rfl) rfl hc nx
theorem b186_77 {d : Nat} {x1 : Int32} {x2 : Int32} {o3 : Option Value} {o4 : Option Value} {o5 : Option Value} {o6 : Option Value} {sx1 : Int32} {sx2 : Int32} {v : Int32} {S1 : fm_S} {S : fm_S} {r : Option Value × am_W} (hc : am_Sp d 180 [.int sx2] (fm_mk S) (some (.int v)) (fm_mk S1)) (nx : am_Ev (d + 1) 186 80 [some (.ref 231), some (.int x1), some (.int x2), o3, o4, o5, o6] [.int v, .int sx1, .ref 242] (fm_mk S1) r) : am_Ev (d + 1) 186 77 [some (.ref 231), some (.int x1), some (.int x2), o3, o4, o5, o6] [.int sx2, .int sx1, .ref 242] (fm_mk S) r := by
  exact fe_callS (idx := 207) (kd := 0) (n := 1) (wp := 1194) (q := (1195, 0)) (as := [.int sx2]) (rs := [.int sx1, .ref 242]) (by decide +kernel) (by decide +kernel) (by decide +kernel) (by decide) rfl (Nat.le_of_ble_eq_true rfl) rfl hc nx
theorem b186_80 {d : Nat} {x1 : Int32} {x2 : Int32} {o3 : Option Value} {o4 : Option Value} {o5 : Option Value} {o6 : Option Value} {sx1 : Int32} {sx2 : Int32} {S : fm_S} {r : Option Value × am_W} (hi0 : vp_in sx1 63) (nx : am_Ev d 186 19 [some (.ref 231), some (.int x1), some (.int (x2 + 1)), o3, o4, o5, o6] [] (fm_mk (fm_wI S 242 sx1.toNatClampNeg sx2)) r) : am_Ev d 186 80 [some (.ref 231), some (.int x1), some (.int x2), o3, o4, o5, o6] [.int sx2, .int sx1, .ref 242] (fm_mk S) r := by
  refine fx_iast (n := sx1.toNatClampNeg) (len := 63) (by decide +kernel) (by decide +kernel) (by decide +kernel) hi0 rfl ?_
  refine fs_iinc (j := 2) (n := 1) (v := 1) (L' := [some (.ref 231), some (.int x1), some (.int (x2 + 1)), o3, o4, o5, o6]) (by decide +kernel) rfl (Nat.le_of_ble_eq_true rfl) (by decide) rfl ?_
  refine fs_goto (off := -65) (tgt := 19) (by decide +kernel) (by decide) ?_
  exact nx
theorem b186_87 {d : Nat} {x1 : Int32} {x2 : Int32} {o3 : Option Value} {o4 : Option Value} {o5 : Option Value} {o6 : Option Value} {S : fm_S} {r : Option Value × am_W} (nx : am_Ev d 186 91 [some (.ref 231), some (.int x1), some (.int 0), some (.int 0), o4, o5, o6] [] (fm_mk S) r) : am_Ev d 186 87 [some (.ref 231), some (.int x1), some (.int x2), o3, o4, o5, o6] [] (fm_mk S) r := by
  refine fs_iconst (n := 0) (v := 0) (by decide +kernel) (by decide) ?_
  refine fs_istoren (j := 2) (L' := [some (.ref 231), some (.int x1), some (.int 0), o3, o4, o5, o6]) (by decide +kernel) (Nat.le_of_ble_eq_true rfl) rfl ?_
  refine fs_iconst (n := 0) (v := 0) (by decide +kernel) (by decide) ?_
  refine fs_istoren (j := 3) (L' := [some (.ref 231), some (.int x1), some (.int 0), some (.int 0), o4, o5, o6]) (by decide +kernel) (Nat.le_of_ble_eq_true rfl) rfl ?_
  exact nx
theorem b186_91 {d : Nat} {x1 : Int32} {x2 : Int32} {x3 : Int32} {o4 : Option Value} {o5 : Option Value} {o6 : Option Value} {S : fm_S} {r : Option Value × am_W} (kt : (S.1 232 1) < x3 → am_Ev d 186 262 [some (.ref 231), some (.int x1), some (.int x2), some (.int x3), o4, o5, o6] [] (fm_mk S) r) (kf : ¬ (S.1 232 1) < x3 → am_Ev d 186 101 [some (.ref 231), some (.int x1), some (.int x2), some (.int x3), o4, o5, o6] [] (fm_mk S) r) : am_Ev d 186 91 [some (.ref 231), some (.int x1), some (.int x2), some (.int x3), o4, o5, o6] [] (fm_mk S) r := by
  refine fs_iloadn (j := 3) (by decide +kernel) rfl ?_
  refine fs_aloadn (j := 0) (by decide +kernel) rfl ?_
  refine fe_getR (idx := 7) (t := 8) (f := 0) (fk := 2) (fin := 1) (wp := 943) (x := 232) (by decide +kernel) (by decide +kernel) (by decide +kernel) (by decide +kernel) (by decide +kernel) ?_
  refine fs_iconst (n := 1) (v := 1) (by decide +kernel) (by decide) ?_
  refine fx_iald (n := 1) (len := 373) (by decide +kernel) (by decide +kernel) (by decide +kernel) (vp_c (by decide) (by decide)) (by decide) ?_
  exact fs_icgt (off := 164) (tgt := 262) (by decide +kernel) (by decide) kt kf
theorem b186_101 {d : Nat} {x1 : Int32} {x2 : Int32} {x3 : Int32} {o4 : Option Value} {o5 : Option Value} {o6 : Option Value} {S : fm_S} {r : Option Value × am_W} (nx : am_Ev d 186 104 [some (.ref 231), some (.int x1), some (.int x2), some (.int x3), some (.int 0), o5, o6] [] (fm_mk S) r) : am_Ev d 186 101 [some (.ref 231), some (.int x1), some (.int x2), some (.int x3), o4, o5, o6] [] (fm_mk S) r := by
  refine fs_iconst (n := 0) (v := 0) (by decide +kernel) (by decide) ?_
  refine fs_istore (j := 4) (L' := [some (.ref 231), some (.int x1), some (.int x2), some (.int x3), some (.int 0), o5, o6]) (by decide +kernel) (Nat.le_of_ble_eq_true rfl) rfl ?_
  exact nx
theorem b186_104 {d : Nat} {x1 : Int32} {x2 : Int32} {x3 : Int32} {x4 : Int32} {o5 : Option Value} {o6 : Option Value} {S : fm_S} {r : Option Value × am_W} (kt : (S.1 232 0) < x4 → am_Ev d 186 256 [some (.ref 231), some (.int x1), some (.int x2), some (.int x3), some (.int x4), o5, o6] [] (fm_mk S) r) (kf : ¬ (S.1 232 0) < x4 → am_Ev d 186 115 [some (.ref 231), some (.int x1), some (.int x2), some (.int x3), some (.int x4), o5, o6] [] (fm_mk S) r) : am_Ev d 186 104 [some (.ref 231), some (.int x1), some (.int x2), some (.int x3), some (.int x4), o5, o6] [] (fm_mk S) r := by
  refine fs_iload (j := 4) (by decide +kernel) rfl ?_
  refine fs_aloadn (j := 0) (by decide +kernel) rfl ?_
  refine fe_getR (idx := 7) (t := 8) (f := 0) (fk := 2) (fin := 1) (wp := 943) (x := 232) (by decide +kernel) (by decide +kernel) (by decide +kernel) (by decide +kernel) (by decide +kernel) ?_
  refine fs_iconst (n := 0) (v := 0) (by decide +kernel) (by decide) ?_
  refine fx_iald (n := 0) (len := 373) (by decide +kernel) (by decide +kernel) (by decide +kernel) (vp_c (by decide) (by decide)) (by decide) ?_
  exact fs_icgt (off := 144) (tgt := 256) (by decide +kernel) (by decide) kt kf
theorem b186_115 {d : Nat} {x1 : Int32} {x2 : Int32} {x3 : Int32} {x4 : Int32} {o5 : Option Value} {o6 : Option Value} {S : fm_S} {r : Option Value × am_W} (nx : am_Ev d 186 121 [some (.ref 231), some (.int x1), some (.int x2), some (.int x3), some (.int x4), some (.int 1), some (.int 0)] [] (fm_mk S) r) : am_Ev d 186 115 [some (.ref 231), some (.int x1), some (.int x2), some (.int x3), some (.int x4), o5, o6] [] (fm_mk S) r := by
  refine fs_iconst (n := 1) (v := 1) (by decide +kernel) (by decide) ?_
  refine fs_istore (j := 5) (L' := [some (.ref 231), some (.int x1), some (.int x2), some (.int x3), some (.int x4), some (.int 1), o6]) (by decide +kernel) (Nat.le_of_ble_eq_true rfl) rfl ?_
  refine fs_iconst (n := 0) (v := 0) (by decide +kernel) (by decide) ?_
  refine fs_istore (j := 6) (L' := [some (.ref 231), some (.int x1), some (.int x2), some (.int x3), some (.int x4), some (.int 1), some (.int 0)]) (by decide +kernel) (Nat.le_of_ble_eq_true rfl) rfl ?_
  exact nx
theorem b186_121 {d : Nat} {x1 : Int32} {x2 : Int32} {x3 : Int32} {x4 : Int32} {x5 : Int32} {x6 : Int32} {S : fm_S} {r : Option Value × am_W} (kt : (S.1 232 1) < x6 → am_Ev d 186 178 [some (.ref 231), some (.int x1), some (.int x2), some (.int x3), some (.int x4), some (.int x5), some (.int x6)] [] (fm_mk S) r) (kf : ¬ (S.1 232 1) < x6 → am_Ev d 186 132 [some (.ref 231), some (.int x1), some (.int x2), some (.int x3), some (.int x4), some (.int x5), some (.int x6)] [] (fm_mk S) r) : am_Ev d 186 121 [some (.ref 231), some (.int x1), some (.int x2), some (.int x3), some (.int x4), some (.int x5), some (.int x6)] [] (fm_mk S) r := by
  refine fs_iload (j := 6) (by decide +kernel) rfl ?_
  refine fs_aloadn (j := 0) (by decide +kernel) rfl ?_
  refine fe_getR (idx := 7) (t := 8) (f := 0) (fk := 2) (fin := 1) (wp := 943) (x := 232) (by decide +kernel) (by decide +kernel) (by decide +kernel) (by decide +kernel) (by decide +kernel) ?_
  refine fs_iconst (n := 1) (v := 1) (by decide +kernel) (by decide) ?_
  refine fx_iald (n := 1) (len := 373) (by decide +kernel) (by decide +kernel) (by decide +kernel) (vp_c (by decide) (by decide)) (by decide) ?_
  exact fs_icgt (off := 49) (tgt := 178) (by decide +kernel) (by decide) kt kf
theorem b186_132 {d : Nat} {x1 : Int32} {x2 : Int32} {x3 : Int32} {x4 : Int32} {x5 : Int32} {x6 : Int32} {S : fm_S} {r : Option Value × am_W} (kt : x5 = 0 → am_Ev d 186 169 [some (.ref 231), some (.int x1), some (.int x2), some (.int x3), some (.int x4), some (.int x5), some (.int x6)] [] (fm_mk S) r) (kf : ¬ x5 = 0 → am_Ev d 186 137 [some (.ref 231), some (.int x1), some (.int x2), some (.int x3), some (.int x4), some (.int x5), some (.int x6)] [] (fm_mk S) r) : am_Ev d 186 132 [some (.ref 231), some (.int x1), some (.int x2), some (.int x3), some (.int x4), some (.int x5), some (.int x6)] [] (fm_mk S) r := by
  refine fs_iload (j := 5) (by decide +kernel) rfl ?_
  exact fs_ifeq (off := 35) (tgt := 169) (by decide +kernel) (by decide) kt kf
theorem b186_137 {d : Nat} {x1 : Int32} {x2 : Int32} {x3 : Int32} {x4 : Int32} {x5 : Int32} {x6 : Int32} {S : fm_S} {r : Option Value × am_W} (hi0 : vp_in ((9 * x6) + x4) 63) (hi1 : vp_in ((9 * x3) + x4) 63) (kt : (S.1 242 (((9 * x3) + x4).toNatClampNeg)) < (S.1 242 (((9 * x6) + x4).toNatClampNeg)) → am_Ev d 186 169 [some (.ref 231), some (.int x1), some (.int x2), some (.int x3), some (.int x4), some (.int x5), some (.int x6)] [] (fm_mk S) r) (kf : ¬ (S.1 242 (((9 * x3) + x4).toNatClampNeg)) < (S.1 242 (((9 * x6) + x4).toNatClampNeg)) → am_Ev d 186 165 [some (.ref 231), some (.int x1), some (.int x2), some (.int x3), some (.int x4), some (.int x5), some (.int x6)] [] (fm_mk S) r) : am_Ev d 186 137 [some (.ref 231), some (.int x1), some (.int x2), some (.int x3), some (.int x4), some (.int x5), some (.int x6)] [] (fm_mk S) r := by
  refine fs_aloadn (j := 0) (by decide +kernel) rfl ?_
  refine fe_getR (idx := 40) (t := 8) (f := 18) (fk := 2) (fin := 1) (wp := 961) (x := 242) (by decide +kernel) (by decide +kernel) (by decide +kernel) (by decide +kernel) (by decide +kernel) ?_
  refine fs_bipush (n := 9) (v := 9) (by decide +kernel) (by decide) ?_
  refine fs_iload (j := 6) (by decide +kernel) rfl ?_
  refine fs_imul (by decide +kernel) ?_
  refine fs_iload (j := 4) (by decide +kernel) rfl ?_
  refine fs_iadd (by decide +kernel) ?_
  refine fx_iald (n := ((9 * x6) + x4).toNatClampNeg) (len := 63) (by decide +kernel) (by decide +kernel) (by decide +kernel) hi0 rfl ?_
  refine fs_aloadn (j := 0) (by decide +kernel) rfl ?_
  refine fe_getR (idx := 40) (t := 8) (f := 18) (fk := 2) (fin := 1) (wp := 961) (x := 242) (by decide +kernel) (by decide +kernel) (by decide +kernel) (by decide +kernel) (by decide +kernel) ?_
  refine fs_bipush (n := 9) (v := 9) (by decide +kernel) (by decide) ?_
  refine fs_iloadn (j := 3) (by decide +kernel) rfl ?_
  refine fs_imul (by decide +kernel) ?_
  refine fs_iload (j := 4) (by decide +kernel) rfl ?_
  refine fs_iadd (by decide +kernel) ?_
  refine fx_iald (n := ((9 * x3) + x4).toNatClampNeg) (len := 63) (by decide +kernel) (by decide +kernel) (by decide +kernel) hi1 rfl ?_
  exact fs_icgt (off := 7) (tgt := 169) (by decide +kernel) (by decide) kt kf
theorem b186_165 {d : Nat} {x1 : Int32} {x2 : Int32} {x3 : Int32} {x4 : Int32} {x5 : Int32} {x6 : Int32} {S : fm_S} {r : Option Value × am_W} (nx : am_Ev d 186 170 [some (.ref 231), some (.int x1), some (.int x2), some (.int x3), some (.int x4), some (.int x5), some (.int x6)] [.int 1] (fm_mk S) r) : am_Ev d 186 165 [some (.ref 231), some (.int x1), some (.int x2), some (.int x3), some (.int x4), some (.int x5), some (.int x6)] [] (fm_mk S) r := by
  refine fs_iconst (n := 1) (v := 1) (by decide +kernel) (by decide) ?_
  refine fs_goto (off := 4) (tgt := 170) (by decide +kernel) (by decide) ?_
  exact nx
theorem b186_169 {d : Nat} {x1 : Int32} {x2 : Int32} {x3 : Int32} {x4 : Int32} {x5 : Int32} {x6 : Int32} {S : fm_S} {r : Option Value × am_W} (nx : am_Ev d 186 170 [some (.ref 231), some (.int x1), some (.int x2), some (.int x3), some (.int x4), some (.int x5), some (.int x6)] [.int 0] (fm_mk S) r) : am_Ev d 186 169 [some (.ref 231), some (.int x1), some (.int x2), some (.int x3), some (.int x4), some (.int x5), some (.int x6)] [] (fm_mk S) r := by
  refine fs_iconst (n := 0) (v := 0) (by decide +kernel) (by decide) ?_
  exact nx
theorem b186_170 {d : Nat} {x1 : Int32} {x2 : Int32} {x3 : Int32} {x4 : Int32} {x5 : Int32} {x6 : Int32} {sx0 : Int32} {S : fm_S} {r : Option Value × am_W} (nx : am_Ev d 186 121 [some (.ref 231), some (.int x1), some (.int x2), some (.int x3), some (.int x4), some (.int sx0), some (.int (x6 + 1))] [] (fm_mk S) r) : am_Ev d 186 170 [some (.ref 231), some (.int x1), some (.int x2), some (.int x3), some (.int x4), some (.int x5), some (.int x6)] [.int sx0] (fm_mk S) r := by
  refine fs_istore (j := 5) (L' := [some (.ref 231), some (.int x1), some (.int x2), some (.int x3), some (.int x4), some (.int sx0), some (.int x6)]) (by decide +kernel) (Nat.le_of_ble_eq_true rfl) rfl ?_
  refine fs_iinc (j := 6) (n := 1) (v := 1) (L' := [some (.ref 231), some (.int x1), some (.int x2), some (.int x3), some (.int x4), some (.int sx0), some (.int (x6 + 1))]) (by decide +kernel) rfl (Nat.le_of_ble_eq_true rfl) (by decide) rfl ?_
  refine fs_goto (off := -54) (tgt := 121) (by decide +kernel) (by decide) ?_
  exact nx
theorem b186_178 {d : Nat} {x1 : Int32} {x2 : Int32} {x3 : Int32} {x4 : Int32} {x5 : Int32} {x6 : Int32} {S : fm_S} {r : Option Value × am_W} (nx : am_Ev d 186 181 [some (.ref 231), some (.int x1), some (.int x2), some (.int x3), some (.int x4), some (.int x5), some (.int 0)] [] (fm_mk S) r) : am_Ev d 186 178 [some (.ref 231), some (.int x1), some (.int x2), some (.int x3), some (.int x4), some (.int x5), some (.int x6)] [] (fm_mk S) r := by
  refine fs_iconst (n := 0) (v := 0) (by decide +kernel) (by decide) ?_
  refine fs_istore (j := 6) (L' := [some (.ref 231), some (.int x1), some (.int x2), some (.int x3), some (.int x4), some (.int x5), some (.int 0)]) (by decide +kernel) (Nat.le_of_ble_eq_true rfl) rfl ?_
  exact nx
theorem b186_181 {d : Nat} {x1 : Int32} {x2 : Int32} {x3 : Int32} {x4 : Int32} {x5 : Int32} {x6 : Int32} {S : fm_S} {r : Option Value × am_W} (kt : (S.1 232 0) < x6 → am_Ev d 186 237 [some (.ref 231), some (.int x1), some (.int x2), some (.int x3), some (.int x4), some (.int x5), some (.int x6)] [] (fm_mk S) r) (kf : ¬ (S.1 232 0) < x6 → am_Ev d 186 192 [some (.ref 231), some (.int x1), some (.int x2), some (.int x3), some (.int x4), some (.int x5), some (.int x6)] [] (fm_mk S) r) : am_Ev d 186 181 [some (.ref 231), some (.int x1), some (.int x2), some (.int x3), some (.int x4), some (.int x5), some (.int x6)] [] (fm_mk S) r := by
  refine fs_iload (j := 6) (by decide +kernel) rfl ?_
  refine fs_aloadn (j := 0) (by decide +kernel) rfl ?_
  refine fe_getR (idx := 7) (t := 8) (f := 0) (fk := 2) (fin := 1) (wp := 943) (x := 232) (by decide +kernel) (by decide +kernel) (by decide +kernel) (by decide +kernel) (by decide +kernel) ?_
  refine fs_iconst (n := 0) (v := 0) (by decide +kernel) (by decide) ?_
  refine fx_iald (n := 0) (len := 373) (by decide +kernel) (by decide +kernel) (by decide +kernel) (vp_c (by decide) (by decide)) (by decide) ?_
  exact fs_icgt (off := 48) (tgt := 237) (by decide +kernel) (by decide) kt kf
theorem b186_192 {d : Nat} {x1 : Int32} {x2 : Int32} {x3 : Int32} {x4 : Int32} {x5 : Int32} {x6 : Int32} {S : fm_S} {r : Option Value × am_W} (kt : x5 = 0 → am_Ev d 186 228 [some (.ref 231), some (.int x1), some (.int x2), some (.int x3), some (.int x4), some (.int x5), some (.int x6)] [] (fm_mk S) r) (kf : ¬ x5 = 0 → am_Ev d 186 197 [some (.ref 231), some (.int x1), some (.int x2), some (.int x3), some (.int x4), some (.int x5), some (.int x6)] [] (fm_mk S) r) : am_Ev d 186 192 [some (.ref 231), some (.int x1), some (.int x2), some (.int x3), some (.int x4), some (.int x5), some (.int x6)] [] (fm_mk S) r := by
  refine fs_iload (j := 5) (by decide +kernel) rfl ?_
  exact fs_ifeq (off := 34) (tgt := 228) (by decide +kernel) (by decide) kt kf
theorem b186_197 {d : Nat} {x1 : Int32} {x2 : Int32} {x3 : Int32} {x4 : Int32} {x5 : Int32} {x6 : Int32} {S : fm_S} {r : Option Value × am_W} (hi0 : vp_in ((9 * x3) + x6) 63) (hi1 : vp_in ((9 * x3) + x4) 63) (kt : (S.1 242 (((9 * x3) + x6).toNatClampNeg)) < (S.1 242 (((9 * x3) + x4).toNatClampNeg)) → am_Ev d 186 228 [some (.ref 231), some (.int x1), some (.int x2), some (.int x3), some (.int x4), some (.int x5), some (.int x6)] [] (fm_mk S) r) (kf : ¬ (S.1 242 (((9 * x3) + x6).toNatClampNeg)) < (S.1 242 (((9 * x3) + x4).toNatClampNeg)) → am_Ev d 186 224 [some (.ref 231), some (.int x1), some (.int x2), some (.int x3), some (.int x4), some (.int x5), some (.int x6)] [] (fm_mk S) r) : am_Ev d 186 197 [some (.ref 231), some (.int x1), some (.int x2), some (.int x3), some (.int x4), some (.int x5), some (.int x6)] [] (fm_mk S) r := by
  refine fs_aloadn (j := 0) (by decide +kernel) rfl ?_
  refine fe_getR (idx := 40) (t := 8) (f := 18) (fk := 2) (fin := 1) (wp := 961) (x := 242) (by decide +kernel) (by decide +kernel) (by decide +kernel) (by decide +kernel) (by decide +kernel) ?_
  refine fs_bipush (n := 9) (v := 9) (by decide +kernel) (by decide) ?_
  refine fs_iloadn (j := 3) (by decide +kernel) rfl ?_
  refine fs_imul (by decide +kernel) ?_
  refine fs_iload (j := 6) (by decide +kernel) rfl ?_
  refine fs_iadd (by decide +kernel) ?_
  refine fx_iald (n := ((9 * x3) + x6).toNatClampNeg) (len := 63) (by decide +kernel) (by decide +kernel) (by decide +kernel) hi0 rfl ?_
  refine fs_aloadn (j := 0) (by decide +kernel) rfl ?_
  refine fe_getR (idx := 40) (t := 8) (f := 18) (fk := 2) (fin := 1) (wp := 961) (x := 242) (by decide +kernel) (by decide +kernel) (by decide +kernel) (by decide +kernel) (by decide +kernel) ?_
  refine fs_bipush (n := 9) (v := 9) (by decide +kernel) (by decide) ?_
  refine fs_iloadn (j := 3) (by decide +kernel) rfl ?_
  refine fs_imul (by decide +kernel) ?_
  refine fs_iload (j := 4) (by decide +kernel) rfl ?_
  refine fs_iadd (by decide +kernel) ?_
  refine fx_iald (n := ((9 * x3) + x4).toNatClampNeg) (len := 63) (by decide +kernel) (by decide +kernel) (by decide +kernel) hi1 rfl ?_
  exact fs_iclt (off := 7) (tgt := 228) (by decide +kernel) (by decide) kt kf
theorem b186_224 {d : Nat} {x1 : Int32} {x2 : Int32} {x3 : Int32} {x4 : Int32} {x5 : Int32} {x6 : Int32} {S : fm_S} {r : Option Value × am_W} (nx : am_Ev d 186 229 [some (.ref 231), some (.int x1), some (.int x2), some (.int x3), some (.int x4), some (.int x5), some (.int x6)] [.int 1] (fm_mk S) r) : am_Ev d 186 224 [some (.ref 231), some (.int x1), some (.int x2), some (.int x3), some (.int x4), some (.int x5), some (.int x6)] [] (fm_mk S) r := by
  refine fs_iconst (n := 1) (v := 1) (by decide +kernel) (by decide) ?_
  refine fs_goto (off := 4) (tgt := 229) (by decide +kernel) (by decide) ?_
  exact nx
theorem b186_228 {d : Nat} {x1 : Int32} {x2 : Int32} {x3 : Int32} {x4 : Int32} {x5 : Int32} {x6 : Int32} {S : fm_S} {r : Option Value × am_W} (nx : am_Ev d 186 229 [some (.ref 231), some (.int x1), some (.int x2), some (.int x3), some (.int x4), some (.int x5), some (.int x6)] [.int 0] (fm_mk S) r) : am_Ev d 186 228 [some (.ref 231), some (.int x1), some (.int x2), some (.int x3), some (.int x4), some (.int x5), some (.int x6)] [] (fm_mk S) r := by
  refine fs_iconst (n := 0) (v := 0) (by decide +kernel) (by decide) ?_
  exact nx
theorem b186_229 {d : Nat} {x1 : Int32} {x2 : Int32} {x3 : Int32} {x4 : Int32} {x5 : Int32} {x6 : Int32} {sx0 : Int32} {S : fm_S} {r : Option Value × am_W} (nx : am_Ev d 186 181 [some (.ref 231), some (.int x1), some (.int x2), some (.int x3), some (.int x4), some (.int sx0), some (.int (x6 + 1))] [] (fm_mk S) r) : am_Ev d 186 229 [some (.ref 231), some (.int x1), some (.int x2), some (.int x3), some (.int x4), some (.int x5), some (.int x6)] [.int sx0] (fm_mk S) r := by
  refine fs_istore (j := 5) (L' := [some (.ref 231), some (.int x1), some (.int x2), some (.int x3), some (.int x4), some (.int sx0), some (.int x6)]) (by decide +kernel) (Nat.le_of_ble_eq_true rfl) rfl ?_
  refine fs_iinc (j := 6) (n := 1) (v := 1) (L' := [some (.ref 231), some (.int x1), some (.int x2), some (.int x3), some (.int x4), some (.int sx0), some (.int (x6 + 1))]) (by decide +kernel) rfl (Nat.le_of_ble_eq_true rfl) (by decide) rfl ?_
  refine fs_goto (off := -53) (tgt := 181) (by decide +kernel) (by decide) ?_
  exact nx
theorem b186_237 {d : Nat} {x1 : Int32} {x2 : Int32} {x3 : Int32} {x4 : Int32} {x5 : Int32} {x6 : Int32} {S : fm_S} {r : Option Value × am_W} (kt : x5 = 0 → am_Ev d 186 247 [some (.ref 231), some (.int x1), some (.int x2), some (.int x3), some (.int x4), some (.int x5), some (.int x6)] [.int x2] (fm_mk S) r) (kf : ¬ x5 = 0 → am_Ev d 186 243 [some (.ref 231), some (.int x1), some (.int x2), some (.int x3), some (.int x4), some (.int x5), some (.int x6)] [.int x2] (fm_mk S) r) : am_Ev d 186 237 [some (.ref 231), some (.int x1), some (.int x2), some (.int x3), some (.int x4), some (.int x5), some (.int x6)] [] (fm_mk S) r := by
  refine fs_iloadn (j := 2) (by decide +kernel) rfl ?_
  refine fs_iload (j := 5) (by decide +kernel) rfl ?_
  exact fs_ifeq (off := 7) (tgt := 247) (by decide +kernel) (by decide) kt kf
theorem b186_243 {d : Nat} {x1 : Int32} {x2 : Int32} {x3 : Int32} {x4 : Int32} {x5 : Int32} {x6 : Int32} {sx0 : Int32} {S : fm_S} {r : Option Value × am_W} (nx : am_Ev d 186 248 [some (.ref 231), some (.int x1), some (.int x2), some (.int x3), some (.int x4), some (.int x5), some (.int x6)] [.int 1, .int sx0] (fm_mk S) r) : am_Ev d 186 243 [some (.ref 231), some (.int x1), some (.int x2), some (.int x3), some (.int x4), some (.int x5), some (.int x6)] [.int sx0] (fm_mk S) r := by
  refine fs_iconst (n := 1) (v := 1) (by decide +kernel) (by decide) ?_
  refine fs_goto (off := 4) (tgt := 248) (by decide +kernel) (by decide) ?_
  exact nx
theorem b186_247 {d : Nat} {x1 : Int32} {x2 : Int32} {x3 : Int32} {x4 : Int32} {x5 : Int32} {x6 : Int32} {sx0 : Int32} {S : fm_S} {r : Option Value × am_W} (nx : am_Ev d 186 248 [some (.ref 231), some (.int x1), some (.int x2), some (.int x3), some (.int x4), some (.int x5), some (.int x6)] [.int 0, .int sx0] (fm_mk S) r) : am_Ev d 186 247 [some (.ref 231), some (.int x1), some (.int x2), some (.int x3), some (.int x4), some (.int x5), some (.int x6)] [.int sx0] (fm_mk S) r := by
  refine fs_iconst (n := 0) (v := 0) (by decide +kernel) (by decide) ?_
  exact nx
theorem b186_248 {d : Nat} {x1 : Int32} {x2 : Int32} {x3 : Int32} {x4 : Int32} {x5 : Int32} {x6 : Int32} {sx0 : Int32} {sx1 : Int32} {S : fm_S} {r : Option Value × am_W} (nx : am_Ev d 186 104 [some (.ref 231), some (.int x1), some (.int (sx0 + sx1)), some (.int x3), some (.int (x4 + 1)), some (.int x5), some (.int x6)] [] (fm_mk S) r) : am_Ev d 186 248 [some (.ref 231), some (.int x1), some (.int x2), some (.int x3), some (.int x4), some (.int x5), some (.int x6)] [.int sx1, .int sx0] (fm_mk S) r := by
  refine fs_iadd (by decide +kernel) ?_
  refine fs_istoren (j := 2) (L' := [some (.ref 231), some (.int x1), some (.int (sx0 + sx1)), some (.int x3), some (.int x4), some (.int x5), some (.int x6)]) (by decide +kernel) (Nat.le_of_ble_eq_true rfl) rfl ?_
  refine fs_iinc (j := 4) (n := 1) (v := 1) (L' := [some (.ref 231), some (.int x1), some (.int (sx0 + sx1)), some (.int x3), some (.int (x4 + 1)), some (.int x5), some (.int x6)]) (by decide +kernel) rfl (Nat.le_of_ble_eq_true rfl) (by decide) rfl ?_
  refine fs_goto (off := -149) (tgt := 104) (by decide +kernel) (by decide) ?_
  exact nx
theorem b186_256 {d : Nat} {x1 : Int32} {x2 : Int32} {x3 : Int32} {x4 : Int32} {o5 : Option Value} {o6 : Option Value} {S : fm_S} {r : Option Value × am_W} (nx : am_Ev d 186 91 [some (.ref 231), some (.int x1), some (.int x2), some (.int (x3 + 1)), some (.int x4), o5, o6] [] (fm_mk S) r) : am_Ev d 186 256 [some (.ref 231), some (.int x1), some (.int x2), some (.int x3), some (.int x4), o5, o6] [] (fm_mk S) r := by
  refine fs_iinc (j := 3) (n := 1) (v := 1) (L' := [some (.ref 231), some (.int x1), some (.int x2), some (.int (x3 + 1)), some (.int x4), o5, o6]) (by decide +kernel) rfl (Nat.le_of_ble_eq_true rfl) (by decide) rfl ?_
  refine fs_goto (off := -168) (tgt := 91) (by decide +kernel) (by decide) ?_
  exact nx
theorem b186_262 {d : Nat} {x1 : Int32} {x2 : Int32} {x3 : Int32} {o4 : Option Value} {o5 : Option Value} {o6 : Option Value} {S : fm_S}  : am_Ev d 186 262 [some (.ref 231), some (.int x1), some (.int x2), some (.int x3), o4, o5, o6] [] (fm_mk S) (some (.int x2), fm_mk S) := by
  refine fs_iloadn (j := 2) (by decide +kernel) rfl ?_
  exact fe_retI (by decide +kernel) (by decide +kernel)
-- KitchenSiegeModel.note(IIIII)I
theorem b187_0 {d : Nat} {x1 : Int32} {x2 : Int32} {x3 : Int32} {x4 : Int32} {x5 : Int32} {o6 : Option Value} {v : Int32} {S1 : fm_S} {S : fm_S} {r : Option Value × am_W} (hc : am_Sp d 142 [.ref 231, .int x1] (fm_mk S) (some (.int v)) (fm_mk S1)) (nx : am_Ev (d + 1) 187 5 [some (.ref 231), some (.int x1), some (.int x2), some (.int x3), some (.int x4), some (.int x5), o6] [.int v] (fm_mk S1) r) : am_Ev (d + 1) 187 0 [some (.ref 231), some (.int x1), some (.int x2), some (.int x3), some (.int x4), some (.int x5), o6] [] (fm_mk S) r := by
  refine fs_aloadn (j := 0) (by decide +kernel) rfl ?_
  refine fs_iloadn (j := 1) (by decide +kernel) rfl ?_
  exact fe_callV (idx := 84) (n := 1) (wp := 1033) (q := (1035, 33)) (as := [.int x1]) (rs := []) (by decide +kernel) (by decide +kernel) (by decide +kernel) (by decide +kernel) rfl (Nat.le_of_ble_eq_true rfl) rfl hc nx
theorem b187_5 {d : Nat} {x1 : Int32} {x2 : Int32} {x3 : Int32} {x4 : Int32} {x5 : Int32} {o6 : Option Value} {sx0 : Int32} {S : fm_S} {r : Option Value × am_W} (kt : sx0 = 0 → am_Ev d 187 56 [some (.ref 231), some (.int x1), some (.int x2), some (.int x3), some (.int x4), some (.int x5), o6] [] (fm_mk S) r) (kf : ¬ sx0 = 0 → am_Ev d 187 8 [some (.ref 231), some (.int x1), some (.int x2), some (.int x3), some (.int x4), some (.int x5), o6] [] (fm_mk S) r) : am_Ev d 187 5 [some (.ref 231), some (.int x1), some (.int x2), some (.int x3), some (.int x4), some (.int x5), o6] [.int sx0] (fm_mk S) r := by
  exact fs_ifeq (off := 51) (tgt := 56) (by decide +kernel) (by decide) kt kf
theorem b187_8 {d : Nat} {x1 : Int32} {x2 : Int32} {x3 : Int32} {x4 : Int32} {x5 : Int32} {o6 : Option Value} {v : Int32} {S1 : fm_S} {S : fm_S} {r : Option Value × am_W} (hc : am_Sp d 137 [.long x2.toInt64, .long 0, .long 5] (fm_mk S) (some (.int v)) (fm_mk S1)) (nx : am_Ev (d + 1) 187 17 [some (.ref 231), some (.int x1), some (.int x2), some (.int x3), some (.int x4), some (.int x5), o6] [.int v] (fm_mk S1) r) : am_Ev (d + 1) 187 8 [some (.ref 231), some (.int x1), some (.int x2), some (.int x3), some (.int x4), some (.int x5), o6] [] (fm_mk S) r := by
  refine fs_iloadn (j := 2) (by decide +kernel) rfl ?_
  refine fs_i2l (by decide +kernel) ?_
  refine fs_lconst (n := 0) (v := 0) (by decide +kernel) (by decide) ?_
  refine fs_ldc2 (idx := 65) (q := 1013) (v := 5) (by decide +kernel) (by decide +kernel) ?_
  exact fe_callS (idx := 67) (kd := 0) (n := 3) (wp := 1014) (q := (1015, 0)) (as := [.long x2.toInt64, .long 0, .long 5]) (rs := []) (by decide +kernel) (by decide +kernel) (by decide +kernel) (by decide) rfl (Nat.le_of_ble_eq_true rfl) rfl hc nx
theorem b187_17 {d : Nat} {x1 : Int32} {x2 : Int32} {x3 : Int32} {x4 : Int32} {x5 : Int32} {o6 : Option Value} {sx0 : Int32} {S : fm_S} {r : Option Value × am_W} (kt : sx0 = 0 → am_Ev d 187 56 [some (.ref 231), some (.int x1), some (.int x2), some (.int x3), some (.int x4), some (.int x5), o6] [] (fm_mk S) r) (kf : ¬ sx0 = 0 → am_Ev d 187 20 [some (.ref 231), some (.int x1), some (.int x2), some (.int x3), some (.int x4), some (.int x5), o6] [] (fm_mk S) r) : am_Ev d 187 17 [some (.ref 231), some (.int x1), some (.int x2), some (.int x3), some (.int x4), some (.int x5), o6] [.int sx0] (fm_mk S) r := by
  exact fs_ifeq (off := 39) (tgt := 56) (by decide +kernel) (by decide) kt kf
theorem b187_20 {d : Nat} {x1 : Int32} {x2 : Int32} {x3 : Int32} {x4 : Int32} {x5 : Int32} {o6 : Option Value} {v : Int32} {S1 : fm_S} {S : fm_S} {r : Option Value × am_W} (hc : am_Sp d 137 [.long x3.toInt64, .long 1, .long 60] (fm_mk S) (some (.int v)) (fm_mk S1)) (nx : am_Ev (d + 1) 187 29 [some (.ref 231), some (.int x1), some (.int x2), some (.int x3), some (.int x4), some (.int x5), o6] [.int v] (fm_mk S1) r) : am_Ev (d + 1) 187 20 [some (.ref 231), some (.int x1), some (.int x2), some (.int x3), some (.int x4), some (.int x5), o6] [] (fm_mk S) r := by
  refine fs_iloadn (j := 3) (by decide +kernel) rfl ?_
  refine fs_i2l (by decide +kernel) ?_
  refine fs_lconst (n := 1) (v := 1) (by decide +kernel) (by decide) ?_
  refine fs_ldc2 (idx := 219) (q := 1225) (v := 60) (by decide +kernel) (by decide +kernel) ?_
  exact fe_callS (idx := 67) (kd := 0) (n := 3) (wp := 1014) (q := (1015, 0)) (as := [.long x3.toInt64, .long 1, .long 60]) (rs := []) (by decide +kernel) (by decide +kernel) (by decide +kernel) (by decide) rfl (Nat.le_of_ble_eq_true rfl) rfl hc nx
theorem b187_29 {d : Nat} {x1 : Int32} {x2 : Int32} {x3 : Int32} {x4 : Int32} {x5 : Int32} {o6 : Option Value} {sx0 : Int32} {S : fm_S} {r : Option Value × am_W} (kt : sx0 = 0 → am_Ev d 187 56 [some (.ref 231), some (.int x1), some (.int x2), some (.int x3), some (.int x4), some (.int x5), o6] [] (fm_mk S) r) (kf : ¬ sx0 = 0 → am_Ev d 187 32 [some (.ref 231), some (.int x1), some (.int x2), some (.int x3), some (.int x4), some (.int x5), o6] [] (fm_mk S) r) : am_Ev d 187 29 [some (.ref 231), some (.int x1), some (.int x2), some (.int x3), some (.int x4), some (.int x5), o6] [.int sx0] (fm_mk S) r := by
  exact fs_ifeq (off := 27) (tgt := 56) (by decide +kernel) (by decide) kt kf
theorem b187_32 {d : Nat} {x1 : Int32} {x2 : Int32} {x3 : Int32} {x4 : Int32} {x5 : Int32} {o6 : Option Value} {v : Int32} {S1 : fm_S} {S : fm_S} {r : Option Value × am_W} (hc : am_Sp d 137 [.long x4.toInt64, .long 0, .long 99] (fm_mk S) (some (.int v)) (fm_mk S1)) (nx : am_Ev (d + 1) 187 42 [some (.ref 231), some (.int x1), some (.int x2), some (.int x3), some (.int x4), some (.int x5), o6] [.int v] (fm_mk S1) r) : am_Ev (d + 1) 187 32 [some (.ref 231), some (.int x1), some (.int x2), some (.int x3), some (.int x4), some (.int x5), o6] [] (fm_mk S) r := by
  refine fs_iload (j := 4) (by decide +kernel) rfl ?_
  refine fs_i2l (by decide +kernel) ?_
  refine fs_lconst (n := 0) (v := 0) (by decide +kernel) (by decide) ?_
  refine fs_ldc2 (idx := 221) (q := 1226) (v := 99) (by decide +kernel) (by decide +kernel) ?_
  exact fe_callS (idx := 67) (kd := 0) (n := 3) (wp := 1014) (q := (1015, 0)) (as := [.long x4.toInt64, .long 0, .long 99]) (rs := []) (by decide +kernel) (by decide +kernel) (by decide +kernel) (by decide) rfl (Nat.le_of_ble_eq_true rfl) rfl hc nx
theorem b187_42 {d : Nat} {x1 : Int32} {x2 : Int32} {x3 : Int32} {x4 : Int32} {x5 : Int32} {o6 : Option Value} {sx0 : Int32} {S : fm_S} {r : Option Value × am_W} (kt : sx0 = 0 → am_Ev d 187 56 [some (.ref 231), some (.int x1), some (.int x2), some (.int x3), some (.int x4), some (.int x5), o6] [] (fm_mk S) r) (kf : ¬ sx0 = 0 → am_Ev d 187 45 [some (.ref 231), some (.int x1), some (.int x2), some (.int x3), some (.int x4), some (.int x5), o6] [] (fm_mk S) r) : am_Ev d 187 42 [some (.ref 231), some (.int x1), some (.int x2), some (.int x3), some (.int x4), some (.int x5), o6] [.int sx0] (fm_mk S) r := by
  exact fs_ifeq (off := 14) (tgt := 56) (by decide +kernel) (by decide) kt kf
theorem b187_45 {d : Nat} {x1 : Int32} {x2 : Int32} {x3 : Int32} {x4 : Int32} {x5 : Int32} {o6 : Option Value} {v : Int32} {S1 : fm_S} {S : fm_S} {r : Option Value × am_W} (hc : am_Sp d 137 [.long x5.toInt64, .long 0, .long 1] (fm_mk S) (some (.int v)) (fm_mk S1)) (nx : am_Ev (d + 1) 187 53 [some (.ref 231), some (.int x1), some (.int x2), some (.int x3), some (.int x4), some (.int x5), o6] [.int v] (fm_mk S1) r) : am_Ev (d + 1) 187 45 [some (.ref 231), some (.int x1), some (.int x2), some (.int x3), some (.int x4), some (.int x5), o6] [] (fm_mk S) r := by
  refine fs_iload (j := 5) (by decide +kernel) rfl ?_
  refine fs_i2l (by decide +kernel) ?_
  refine fs_lconst (n := 0) (v := 0) (by decide +kernel) (by decide) ?_
  refine fs_lconst (n := 1) (v := 1) (by decide +kernel) (by decide) ?_
  exact fe_callS (idx := 67) (kd := 0) (n := 3) (wp := 1014) (q := (1015, 0)) (as := [.long x5.toInt64, .long 0, .long 1]) (rs := []) (by decide +kernel) (by decide +kernel) (by decide +kernel) (by decide) rfl (Nat.le_of_ble_eq_true rfl) rfl hc nx
theorem b187_53 {d : Nat} {x1 : Int32} {x2 : Int32} {x3 : Int32} {x4 : Int32} {x5 : Int32} {o6 : Option Value} {sx0 : Int32} {S : fm_S} {r : Option Value × am_W} (kt : ¬ sx0 = 0 → am_Ev d 187 61 [some (.ref 231), some (.int x1), some (.int x2), some (.int x3), some (.int x4), some (.int x5), o6] [] (fm_mk S) r) (kf : sx0 = 0 → am_Ev d 187 56 [some (.ref 231), some (.int x1), some (.int x2), some (.int x3), some (.int x4), some (.int x5), o6] [] (fm_mk S) r) : am_Ev d 187 53 [some (.ref 231), some (.int x1), some (.int x2), some (.int x3), some (.int x4), some (.int x5), o6] [.int sx0] (fm_mk S) r := by
  exact fs_ifne (off := 8) (tgt := 61) (by decide +kernel) (by decide) kt kf
theorem b187_56 {d : Nat} {x1 : Int32} {x2 : Int32} {x3 : Int32} {x4 : Int32} {x5 : Int32} {o6 : Option Value} {v : Int32} {S1 : fm_S} {S : fm_S} {r : Option Value × am_W} (hc : am_Sp d 138 [.ref 231] (fm_mk S) (some (.int v)) (fm_mk S1)) (nx : am_Ev (d + 1) 187 60 [some (.ref 231), some (.int x1), some (.int x2), some (.int x3), some (.int x4), some (.int x5), o6] [.int v] (fm_mk S1) r) : am_Ev (d + 1) 187 56 [some (.ref 231), some (.int x1), some (.int x2), some (.int x3), some (.int x4), some (.int x5), o6] [] (fm_mk S) r := by
  refine fs_aloadn (j := 0) (by decide +kernel) rfl ?_
  exact fe_callV (idx := 73) (n := 0) (wp := 1018) (q := (1020, 31)) (as := []) (rs := []) (by decide +kernel) (by decide +kernel) (by decide +kernel) (by decide +kernel) rfl (Nat.le_of_ble_eq_true rfl) rfl hc nx
theorem b187_60 {d : Nat} {x1 : Int32} {x2 : Int32} {x3 : Int32} {x4 : Int32} {x5 : Int32} {o6 : Option Value} {sx0 : Int32} {S : fm_S}  : am_Ev d 187 60 [some (.ref 231), some (.int x1), some (.int x2), some (.int x3), some (.int x4), some (.int x5), o6] [.int sx0] (fm_mk S) (some (.int sx0), fm_mk S) := by
  exact fe_retI (by decide +kernel) (by decide +kernel)
theorem b187_61 {d : Nat} {x1 : Int32} {x2 : Int32} {x3 : Int32} {x4 : Int32} {x5 : Int32} {o6 : Option Value} {S : fm_S} {r : Option Value × am_W} (kt : ¬ (S.1 232 2) = 6 → am_Ev d 187 77 [some (.ref 231), some (.int x1), some (.int x2), some (.int x3), some (.int x4), some (.int x5), o6] [] (fm_mk S) r) (kf : (S.1 232 2) = 6 → am_Ev d 187 72 [some (.ref 231), some (.int x1), some (.int x2), some (.int x3), some (.int x4), some (.int x5), o6] [] (fm_mk S) r) : am_Ev d 187 61 [some (.ref 231), some (.int x1), some (.int x2), some (.int x3), some (.int x4), some (.int x5), o6] [] (fm_mk S) r := by
  refine fs_aloadn (j := 0) (by decide +kernel) rfl ?_
  refine fe_getR (idx := 7) (t := 8) (f := 0) (fk := 2) (fin := 1) (wp := 943) (x := 232) (by decide +kernel) (by decide +kernel) (by decide +kernel) (by decide +kernel) (by decide +kernel) ?_
  refine fs_iconst (n := 2) (v := 2) (by decide +kernel) (by decide) ?_
  refine fx_iald (n := 2) (len := 373) (by decide +kernel) (by decide +kernel) (by decide +kernel) (vp_c (by decide) (by decide)) (by decide) ?_
  refine fs_bipush (n := 6) (v := 6) (by decide +kernel) (by decide) ?_
  exact fs_icne (off := 8) (tgt := 77) (by decide +kernel) (by decide) kt kf
theorem b187_72 {d : Nat} {x1 : Int32} {x2 : Int32} {x3 : Int32} {x4 : Int32} {x5 : Int32} {o6 : Option Value} {v : Int32} {S1 : fm_S} {S : fm_S} {r : Option Value × am_W} (hc : am_Sp d 139 [.ref 231] (fm_mk S) (some (.int v)) (fm_mk S1)) (nx : am_Ev (d + 1) 187 76 [some (.ref 231), some (.int x1), some (.int x2), some (.int x3), some (.int x4), some (.int x5), o6] [.int v] (fm_mk S1) r) : am_Ev (d + 1) 187 72 [some (.ref 231), some (.int x1), some (.int x2), some (.int x3), some (.int x4), some (.int x5), o6] [] (fm_mk S) r := by
  refine fs_aloadn (j := 0) (by decide +kernel) rfl ?_
  exact fe_callV (idx := 77) (n := 0) (wp := 1022) (q := (1024, 32)) (as := []) (rs := []) (by decide +kernel) (by decide +kernel) (by decide +kernel) (by decide +kernel) rfl (Nat.le_of_ble_eq_true rfl) rfl hc nx
theorem b187_76 {d : Nat} {x1 : Int32} {x2 : Int32} {x3 : Int32} {x4 : Int32} {x5 : Int32} {o6 : Option Value} {sx0 : Int32} {S : fm_S}  : am_Ev d 187 76 [some (.ref 231), some (.int x1), some (.int x2), some (.int x3), some (.int x4), some (.int x5), o6] [.int sx0] (fm_mk S) (some (.int sx0), fm_mk S) := by
  exact fe_retI (by decide +kernel) (by decide +kernel)
theorem b187_77 {d : Nat} {x1 : Int32} {x2 : Int32} {x3 : Int32} {x4 : Int32} {x5 : Int32} {o6 : Option Value} {S : fm_S}  (hi0 : vp_in (143 + (S.1 232 2)) 373) (hi1 : vp_in ((143 + (S.1 232 2)) + 6) 373) (hi2 : vp_in ((143 + (S.1 232 2)) + 12) 373) (hi3 : vp_in ((143 + (S.1 232 2)) + 18) 373) (hi4 : vp_in ((143 + (S.1 232 2)) + 24) 373) : am_Ev d 187 77 [some (.ref 231), some (.int x1), some (.int x2), some (.int x3), some (.int x4), some (.int x5), o6] [] (fm_mk S) (some (.int ((fm_wI (fm_wI (fm_wI (fm_wI (fm_wI (fm_wI S 232 ((143 + (S.1 232 2)).toNatClampNeg) x1) 232 (((143 + (S.1 232 2)) + 6).toNatClampNeg) x2) 232 (((143 + (S.1 232 2)) + 12).toNatClampNeg) x3) 232 (((143 + (S.1 232 2)) + 18).toNatClampNeg) x4) 232 (((143 + (S.1 232 2)) + 24).toNatClampNeg) x5) 232 2 (((fm_wI (fm_wI (fm_wI (fm_wI (fm_wI S 232 ((143 + (S.1 232 2)).toNatClampNeg) x1) 232 (((143 + (S.1 232 2)) + 6).toNatClampNeg) x2) 232 (((143 + (S.1 232 2)) + 12).toNatClampNeg) x3) 232 (((143 + (S.1 232 2)) + 18).toNatClampNeg) x4) 232 (((143 + (S.1 232 2)) + 24).toNatClampNeg) x5).1 232 2) + 1)).1 232 2)), fm_mk (fm_wI (fm_wI (fm_wI (fm_wI (fm_wI (fm_wI S 232 ((143 + (S.1 232 2)).toNatClampNeg) x1) 232 (((143 + (S.1 232 2)) + 6).toNatClampNeg) x2) 232 (((143 + (S.1 232 2)) + 12).toNatClampNeg) x3) 232 (((143 + (S.1 232 2)) + 18).toNatClampNeg) x4) 232 (((143 + (S.1 232 2)) + 24).toNatClampNeg) x5) 232 2 (((fm_wI (fm_wI (fm_wI (fm_wI (fm_wI S 232 ((143 + (S.1 232 2)).toNatClampNeg) x1) 232 (((143 + (S.1 232 2)) + 6).toNatClampNeg) x2) 232 (((143 + (S.1 232 2)) + 12).toNatClampNeg) x3) 232 (((143 + (S.1 232 2)) + 18).toNatClampNeg) x4) 232 (((143 + (S.1 232 2)) + 24).toNatClampNeg) x5).1 232 2) + 1))) := by
  refine fs_sipush (n := 143) (v := 143) (by decide +kernel) (by decide) ?_
  refine fs_aloadn (j := 0) (by decide +kernel) rfl ?_
  refine fe_getR (idx := 7) (t := 8) (f := 0) (fk := 2) (fin := 1) (wp := 943) (x := 232) (by decide +kernel) (by decide +kernel) (by decide +kernel) (by decide +kernel) (by decide +kernel) ?_
  refine fs_iconst (n := 2) (v := 2) (by decide +kernel) (by decide) ?_
  refine fx_iald (n := 2) (len := 373) (by decide +kernel) (by decide +kernel) (by decide +kernel) (vp_c (by decide) (by decide)) (by decide) ?_
  refine fs_iadd (by decide +kernel) ?_
  refine fs_istore (j := 6) (L' := [some (.ref 231), some (.int x1), some (.int x2), some (.int x3), some (.int x4), some (.int x5), some (.int (143 + (S.1 232 2)))]) (by decide +kernel) (Nat.le_of_ble_eq_true rfl) rfl ?_
  refine fs_aloadn (j := 0) (by decide +kernel) rfl ?_
  refine fe_getR (idx := 7) (t := 8) (f := 0) (fk := 2) (fin := 1) (wp := 943) (x := 232) (by decide +kernel) (by decide +kernel) (by decide +kernel) (by decide +kernel) (by decide +kernel) ?_
  refine fs_iload (j := 6) (by decide +kernel) rfl ?_
  refine fs_iloadn (j := 1) (by decide +kernel) rfl ?_
  refine fx_iast (n := (143 + (S.1 232 2)).toNatClampNeg) (len := 373) (by decide +kernel) (by decide +kernel) (by decide +kernel) hi0 rfl ?_
  refine fs_aloadn (j := 0) (by decide +kernel) rfl ?_
  refine fe_getR (idx := 7) (t := 8) (f := 0) (fk := 2) (fin := 1) (wp := 943) (x := 232) (by decide +kernel) (by decide +kernel) (by decide +kernel) (by decide +kernel) (by decide +kernel) ?_
  refine fs_iload (j := 6) (by decide +kernel) rfl ?_
  refine fs_bipush (n := 6) (v := 6) (by decide +kernel) (by decide) ?_
  refine fs_iadd (by decide +kernel) ?_
  refine fs_iloadn (j := 2) (by decide +kernel) rfl ?_
  refine fx_iast (n := ((143 + (S.1 232 2)) + 6).toNatClampNeg) (len := 373) (by decide +kernel) (by decide +kernel) (by decide +kernel) hi1 rfl ?_
  refine fs_aloadn (j := 0) (by decide +kernel) rfl ?_
  refine fe_getR (idx := 7) (t := 8) (f := 0) (fk := 2) (fin := 1) (wp := 943) (x := 232) (by decide +kernel) (by decide +kernel) (by decide +kernel) (by decide +kernel) (by decide +kernel) ?_
  refine fs_iload (j := 6) (by decide +kernel) rfl ?_
  refine fs_bipush (n := 12) (v := 12) (by decide +kernel) (by decide) ?_
  refine fs_iadd (by decide +kernel) ?_
  refine fs_iloadn (j := 3) (by decide +kernel) rfl ?_
  refine fx_iast (n := ((143 + (S.1 232 2)) + 12).toNatClampNeg) (len := 373) (by decide +kernel) (by decide +kernel) (by decide +kernel) hi2 rfl ?_
  refine fs_aloadn (j := 0) (by decide +kernel) rfl ?_
  refine fe_getR (idx := 7) (t := 8) (f := 0) (fk := 2) (fin := 1) (wp := 943) (x := 232) (by decide +kernel) (by decide +kernel) (by decide +kernel) (by decide +kernel) (by decide +kernel) ?_
  refine fs_iload (j := 6) (by decide +kernel) rfl ?_
  refine fs_bipush (n := 18) (v := 18) (by decide +kernel) (by decide) ?_
  refine fs_iadd (by decide +kernel) ?_
  refine fs_iload (j := 4) (by decide +kernel) rfl ?_
  refine fx_iast (n := ((143 + (S.1 232 2)) + 18).toNatClampNeg) (len := 373) (by decide +kernel) (by decide +kernel) (by decide +kernel) hi3 rfl ?_
  refine fs_aloadn (j := 0) (by decide +kernel) rfl ?_
  refine fe_getR (idx := 7) (t := 8) (f := 0) (fk := 2) (fin := 1) (wp := 943) (x := 232) (by decide +kernel) (by decide +kernel) (by decide +kernel) (by decide +kernel) (by decide +kernel) ?_
  refine fs_iload (j := 6) (by decide +kernel) rfl ?_
  refine fs_bipush (n := 24) (v := 24) (by decide +kernel) (by decide) ?_
  refine fs_iadd (by decide +kernel) ?_
  refine fs_iload (j := 5) (by decide +kernel) rfl ?_
  refine fx_iast (n := ((143 + (S.1 232 2)) + 24).toNatClampNeg) (len := 373) (by decide +kernel) (by decide +kernel) (by decide +kernel) hi4 rfl ?_
  refine fs_aloadn (j := 0) (by decide +kernel) rfl ?_
  refine fe_getR (idx := 7) (t := 8) (f := 0) (fk := 2) (fin := 1) (wp := 943) (x := 232) (by decide +kernel) (by decide +kernel) (by decide +kernel) (by decide +kernel) (by decide +kernel) ?_
  refine fs_iconst (n := 2) (v := 2) (by decide +kernel) (by decide) ?_
  refine fs_dup2 (by decide +kernel) ⟨rfl, rfl⟩ ?_
  refine fx_iald (n := 2) (len := 373) (by decide +kernel) (by decide +kernel) (by decide +kernel) (vp_c (by decide) (by decide)) (by decide) ?_
  refine fs_iconst (n := 1) (v := 1) (by decide +kernel) (by decide) ?_
  refine fs_iadd (by decide +kernel) ?_
  refine fx_iast (n := 2) (len := 373) (by decide +kernel) (by decide +kernel) (by decide +kernel) (vp_c (by decide) (by decide)) (by decide) ?_
  refine fs_aloadn (j := 0) (by decide +kernel) rfl ?_
  refine fe_getR (idx := 7) (t := 8) (f := 0) (fk := 2) (fin := 1) (wp := 943) (x := 232) (by decide +kernel) (by decide +kernel) (by decide +kernel) (by decide +kernel) (by decide +kernel) ?_
  refine fs_iconst (n := 2) (v := 2) (by decide +kernel) (by decide) ?_
  refine fx_iald (n := 2) (len := 373) (by decide +kernel) (by decide +kernel) (by decide +kernel) (vp_c (by decide) (by decide)) (by decide) ?_
  exact fe_retI (by decide +kernel) (by decide +kernel)
-- KitchenSiegeModel.forget()I
theorem b188_0 {d : Nat} {o1 : Option Value} {S : fm_S}  : am_Ev d 188 0 [some (.ref 231), o1] [] (fm_mk S) (some (.int (S.1 232 2)), fm_mk (fm_wI S 232 2 0)) := by
  refine fs_aloadn (j := 0) (by decide +kernel) rfl ?_
  refine fe_getR (idx := 7) (t := 8) (f := 0) (fk := 2) (fin := 1) (wp := 943) (x := 232) (by decide +kernel) (by decide +kernel) (by decide +kernel) (by decide +kernel) (by decide +kernel) ?_
  refine fs_iconst (n := 2) (v := 2) (by decide +kernel) (by decide) ?_
  refine fx_iald (n := 2) (len := 373) (by decide +kernel) (by decide +kernel) (by decide +kernel) (vp_c (by decide) (by decide)) (by decide) ?_
  refine fs_istoren (j := 1) (L' := [some (.ref 231), some (.int (S.1 232 2))]) (by decide +kernel) (Nat.le_of_ble_eq_true rfl) rfl ?_
  refine fs_aloadn (j := 0) (by decide +kernel) rfl ?_
  refine fe_getR (idx := 7) (t := 8) (f := 0) (fk := 2) (fin := 1) (wp := 943) (x := 232) (by decide +kernel) (by decide +kernel) (by decide +kernel) (by decide +kernel) (by decide +kernel) ?_
  refine fs_iconst (n := 2) (v := 2) (by decide +kernel) (by decide) ?_
  refine fs_iconst (n := 0) (v := 0) (by decide +kernel) (by decide) ?_
  refine fx_iast (n := 2) (len := 373) (by decide +kernel) (by decide +kernel) (by decide +kernel) (vp_c (by decide) (by decide)) (by decide) ?_
  refine fs_iloadn (j := 1) (by decide +kernel) rfl ?_
  exact fe_retI (by decide +kernel) (by decide +kernel)
-- KitchenSiegeModel.craved(I)I
theorem b189_0 {d : Nat} {x1 : Int32} {v : Int32} {S1 : fm_S} {S : fm_S} {r : Option Value × am_W} (hc : am_Sp d 142 [.ref 231, .int x1] (fm_mk S) (some (.int v)) (fm_mk S1)) (nx : am_Ev (d + 1) 189 5 [some (.ref 231), some (.int x1)] [.int v] (fm_mk S1) r) : am_Ev (d + 1) 189 0 [some (.ref 231), some (.int x1)] [] (fm_mk S) r := by
  refine fs_aloadn (j := 0) (by decide +kernel) rfl ?_
  refine fs_iloadn (j := 1) (by decide +kernel) rfl ?_
  exact fe_callV (idx := 84) (n := 1) (wp := 1033) (q := (1035, 33)) (as := [.int x1]) (rs := []) (by decide +kernel) (by decide +kernel) (by decide +kernel) (by decide +kernel) rfl (Nat.le_of_ble_eq_true rfl) rfl hc nx
theorem b189_5 {d : Nat} {x1 : Int32} {sx0 : Int32} {S : fm_S} {r : Option Value × am_W} (kt : sx0 = 0 → am_Ev d 189 24 [some (.ref 231), some (.int x1)] [] (fm_mk S) r) (kf : ¬ sx0 = 0 → am_Ev d 189 8 [some (.ref 231), some (.int x1)] [] (fm_mk S) r) : am_Ev d 189 5 [some (.ref 231), some (.int x1)] [.int sx0] (fm_mk S) r := by
  exact fs_ifeq (off := 19) (tgt := 24) (by decide +kernel) (by decide) kt kf
theorem b189_8 {d : Nat} {x1 : Int32} {v : Int32} {S1 : fm_S} {S : fm_S} {r : Option Value × am_W} (hi0 : vp_in (5 + x1) 373) (hc : am_Sp d 190 [.ref 231, .int x1, .int (S.1 232 ((5 + x1).toNatClampNeg))] (fm_mk S) (some (.int v)) (fm_mk S1)) (nx : am_Ev (d + 1) 189 21 [some (.ref 231), some (.int x1)] [.int v] (fm_mk S1) r) : am_Ev (d + 1) 189 8 [some (.ref 231), some (.int x1)] [] (fm_mk S) r := by
  refine fs_aloadn (j := 0) (by decide +kernel) rfl ?_
  refine fs_iloadn (j := 1) (by decide +kernel) rfl ?_
  refine fs_aloadn (j := 0) (by decide +kernel) rfl ?_
  refine fe_getR (idx := 7) (t := 8) (f := 0) (fk := 2) (fin := 1) (wp := 943) (x := 232) (by decide +kernel) (by decide +kernel) (by decide +kernel) (by decide +kernel) (by decide +kernel) ?_
  refine fs_iconst (n := 5) (v := 5) (by decide +kernel) (by decide) ?_
  refine fs_iloadn (j := 1) (by decide +kernel) rfl ?_
  refine fs_iadd (by decide +kernel) ?_
  refine fx_iald (n := (5 + x1).toNatClampNeg) (len := 373) (by decide +kernel) (by decide +kernel) (by decide +kernel) hi0 rfl ?_
  exact fe_callV (idx := 223) (n := 2) (wp := 1235) (q := (1237, 54)) (as := [.int x1, .int (S.1 232 ((5 + x1).toNatClampNeg))]) (rs := []) (by decide +kernel) (by decide +kernel) (by decide +kernel) (by decide +kernel) rfl (Nat.le_of_ble_eq_true rfl) rfl hc nx
theorem b189_21 {d : Nat} {x1 : Int32} {sx0 : Int32} {S : fm_S} {r : Option Value × am_W} (nx : am_Ev d 189 28 [some (.ref 231), some (.int x1)] [.int sx0] (fm_mk S) r) : am_Ev d 189 21 [some (.ref 231), some (.int x1)] [.int sx0] (fm_mk S) r := by
  refine fs_goto (off := 7) (tgt := 28) (by decide +kernel) (by decide) ?_
  exact nx
theorem b189_24 {d : Nat} {x1 : Int32} {v : Int32} {S1 : fm_S} {S : fm_S} {r : Option Value × am_W} (hc : am_Sp d 138 [.ref 231] (fm_mk S) (some (.int v)) (fm_mk S1)) (nx : am_Ev (d + 1) 189 28 [some (.ref 231), some (.int x1)] [.int v] (fm_mk S1) r) : am_Ev (d + 1) 189 24 [some (.ref 231), some (.int x1)] [] (fm_mk S) r := by
  refine fs_aloadn (j := 0) (by decide +kernel) rfl ?_
  exact fe_callV (idx := 73) (n := 0) (wp := 1018) (q := (1020, 31)) (as := []) (rs := []) (by decide +kernel) (by decide +kernel) (by decide +kernel) (by decide +kernel) rfl (Nat.le_of_ble_eq_true rfl) rfl hc nx
theorem b189_28 {d : Nat} {x1 : Int32} {sx0 : Int32} {S : fm_S}  : am_Ev d 189 28 [some (.ref 231), some (.int x1)] [.int sx0] (fm_mk S) (some (.int sx0), fm_mk S) := by
  exact fe_retI (by decide +kernel) (by decide +kernel)
-- KitchenSiegeModel.cravings(II)I
theorem b190_0 {d : Nat} {x1 : Int32} {x2 : Int32} {o3 : Option Value} {o4 : Option Value} {o5 : Option Value} {o6 : Option Value} {o7 : Option Value} {S : fm_S} {r : Option Value × am_W} (nx : am_Ev d 190 5 [some (.ref 231), some (.int x1), some (.int x2), some (.int 0), some (.int 0), o5, o6, o7] [] (fm_mk S) r) : am_Ev d 190 0 [some (.ref 231), some (.int x1), some (.int x2), o3, o4, o5, o6, o7] [] (fm_mk S) r := by
  refine fs_iconst (n := 0) (v := 0) (by decide +kernel) (by decide) ?_
  refine fs_istoren (j := 3) (L' := [some (.ref 231), some (.int x1), some (.int x2), some (.int 0), o4, o5, o6, o7]) (by decide +kernel) (Nat.le_of_ble_eq_true rfl) rfl ?_
  refine fs_iconst (n := 0) (v := 0) (by decide +kernel) (by decide) ?_
  refine fs_istore (j := 4) (L' := [some (.ref 231), some (.int x1), some (.int x2), some (.int 0), some (.int 0), o5, o6, o7]) (by decide +kernel) (Nat.le_of_ble_eq_true rfl) rfl ?_
  exact nx
theorem b190_5 {d : Nat} {x1 : Int32} {x2 : Int32} {x3 : Int32} {x4 : Int32} {o5 : Option Value} {o6 : Option Value} {o7 : Option Value} {S : fm_S} {r : Option Value × am_W} (kt : 6 ≤ x4 → am_Ev d 190 159 [some (.ref 231), some (.int x1), some (.int x2), some (.int x3), some (.int x4), o5, o6, o7] [] (fm_mk S) r) (kf : ¬ 6 ≤ x4 → am_Ev d 190 12 [some (.ref 231), some (.int x1), some (.int x2), some (.int x3), some (.int x4), o5, o6, o7] [] (fm_mk S) r) : am_Ev d 190 5 [some (.ref 231), some (.int x1), some (.int x2), some (.int x3), some (.int x4), o5, o6, o7] [] (fm_mk S) r := by
  refine fs_iload (j := 4) (by decide +kernel) rfl ?_
  refine fs_bipush (n := 6) (v := 6) (by decide +kernel) (by decide) ?_
  exact fs_icge (off := 150) (tgt := 159) (by decide +kernel) (by decide) kt kf
theorem b190_12 {d : Nat} {x1 : Int32} {x2 : Int32} {x3 : Int32} {x4 : Int32} {o5 : Option Value} {o6 : Option Value} {o7 : Option Value} {S : fm_S} {r : Option Value × am_W} (nx : am_Ev d 190 20 [some (.ref 231), some (.int x1), some (.int x2), some (.int x3), some (.int x4), some (.int 1), some (.int 143), o7] [] (fm_mk S) r) : am_Ev d 190 12 [some (.ref 231), some (.int x1), some (.int x2), some (.int x3), some (.int x4), o5, o6, o7] [] (fm_mk S) r := by
  refine fs_iconst (n := 1) (v := 1) (by decide +kernel) (by decide) ?_
  refine fs_istore (j := 5) (L' := [some (.ref 231), some (.int x1), some (.int x2), some (.int x3), some (.int x4), some (.int 1), o6, o7]) (by decide +kernel) (Nat.le_of_ble_eq_true rfl) rfl ?_
  refine fs_sipush (n := 143) (v := 143) (by decide +kernel) (by decide) ?_
  refine fs_istore (j := 6) (L' := [some (.ref 231), some (.int x1), some (.int x2), some (.int x3), some (.int x4), some (.int 1), some (.int 143), o7]) (by decide +kernel) (Nat.le_of_ble_eq_true rfl) rfl ?_
  exact nx
theorem b190_20 {d : Nat} {x1 : Int32} {x2 : Int32} {x3 : Int32} {x4 : Int32} {x5 : Int32} {x6 : Int32} {o7 : Option Value} {S : fm_S} {r : Option Value × am_W} (kt : (143 + (S.1 232 2)) ≤ x6 → am_Ev d 190 137 [some (.ref 231), some (.int x1), some (.int x2), some (.int x3), some (.int x4), some (.int x5), some (.int x6), o7] [] (fm_mk S) r) (kf : ¬ (143 + (S.1 232 2)) ≤ x6 → am_Ev d 190 35 [some (.ref 231), some (.int x1), some (.int x2), some (.int x3), some (.int x4), some (.int x5), some (.int x6), o7] [] (fm_mk S) r) : am_Ev d 190 20 [some (.ref 231), some (.int x1), some (.int x2), some (.int x3), some (.int x4), some (.int x5), some (.int x6), o7] [] (fm_mk S) r := by
  refine fs_iload (j := 6) (by decide +kernel) rfl ?_
  refine fs_sipush (n := 143) (v := 143) (by decide +kernel) (by decide) ?_
  refine fs_aloadn (j := 0) (by decide +kernel) rfl ?_
  refine fe_getR (idx := 7) (t := 8) (f := 0) (fk := 2) (fin := 1) (wp := 943) (x := 232) (by decide +kernel) (by decide +kernel) (by decide +kernel) (by decide +kernel) (by decide +kernel) ?_
  refine fs_iconst (n := 2) (v := 2) (by decide +kernel) (by decide) ?_
  refine fx_iald (n := 2) (len := 373) (by decide +kernel) (by decide +kernel) (by decide +kernel) (vp_c (by decide) (by decide)) (by decide) ?_
  refine fs_iadd (by decide +kernel) ?_
  exact fs_icge (off := 105) (tgt := 137) (by decide +kernel) (by decide) kt kf
theorem b190_35 {d : Nat} {x1 : Int32} {x2 : Int32} {x3 : Int32} {x4 : Int32} {x5 : Int32} {x6 : Int32} {o7 : Option Value} {v : Int32} {S1 : fm_S} {S : fm_S} {r : Option Value × am_W} (hi0 : vp_in (x6 + 6) 373) (hi1 : vp_in (x6 + 12) 373) (hi2 : vp_in (x6 + 18) 373) (hc : am_Sp d 169 [.int x2, .int x4, .int (S.1 232 ((x6 + 6).toNatClampNeg)), .int (S.1 232 ((x6 + 12).toNatClampNeg)), .int (S.1 232 ((x6 + 18).toNatClampNeg)), .int 0] (fm_mk S) (some (.int v)) (fm_mk S1)) (nx : am_Ev (d + 1) 190 72 [some (.ref 231), some (.int x1), some (.int x2), some (.int x3), some (.int x4), some (.int x5), some (.int x6), o7] [.int v] (fm_mk S1) r) : am_Ev (d + 1) 190 35 [some (.ref 231), some (.int x1), some (.int x2), some (.int x3), some (.int x4), some (.int x5), some (.int x6), o7] [] (fm_mk S) r := by
  refine fs_iloadn (j := 2) (by decide +kernel) rfl ?_
  refine fs_iload (j := 4) (by decide +kernel) rfl ?_
  refine fs_aloadn (j := 0) (by decide +kernel) rfl ?_
  refine fe_getR (idx := 7) (t := 8) (f := 0) (fk := 2) (fin := 1) (wp := 943) (x := 232) (by decide +kernel) (by decide +kernel) (by decide +kernel) (by decide +kernel) (by decide +kernel) ?_
  refine fs_iload (j := 6) (by decide +kernel) rfl ?_
  refine fs_bipush (n := 6) (v := 6) (by decide +kernel) (by decide) ?_
  refine fs_iadd (by decide +kernel) ?_
  refine fx_iald (n := (x6 + 6).toNatClampNeg) (len := 373) (by decide +kernel) (by decide +kernel) (by decide +kernel) hi0 rfl ?_
  refine fs_aloadn (j := 0) (by decide +kernel) rfl ?_
  refine fe_getR (idx := 7) (t := 8) (f := 0) (fk := 2) (fin := 1) (wp := 943) (x := 232) (by decide +kernel) (by decide +kernel) (by decide +kernel) (by decide +kernel) (by decide +kernel) ?_
  refine fs_iload (j := 6) (by decide +kernel) rfl ?_
  refine fs_bipush (n := 12) (v := 12) (by decide +kernel) (by decide) ?_
  refine fs_iadd (by decide +kernel) ?_
  refine fx_iald (n := (x6 + 12).toNatClampNeg) (len := 373) (by decide +kernel) (by decide +kernel) (by decide +kernel) hi1 rfl ?_
  refine fs_aloadn (j := 0) (by decide +kernel) rfl ?_
  refine fe_getR (idx := 7) (t := 8) (f := 0) (fk := 2) (fin := 1) (wp := 943) (x := 232) (by decide +kernel) (by decide +kernel) (by decide +kernel) (by decide +kernel) (by decide +kernel) ?_
  refine fs_iload (j := 6) (by decide +kernel) rfl ?_
  refine fs_bipush (n := 18) (v := 18) (by decide +kernel) (by decide) ?_
  refine fs_iadd (by decide +kernel) ?_
  refine fx_iald (n := (x6 + 18).toNatClampNeg) (len := 373) (by decide +kernel) (by decide +kernel) (by decide +kernel) hi2 rfl ?_
  refine fs_iconst (n := 0) (v := 0) (by decide +kernel) (by decide) ?_
  exact fe_callS (idx := 168) (kd := 0) (n := 6) (wp := 1152) (q := (1153, 0)) (as := [.int x2, .int x4, .int (S.1 232 ((x6 + 6).toNatClampNeg)), .int (S.1 232 ((x6 + 12).toNatClampNeg)), .int (S.1 232 ((x6 + 18).toNatClampNeg)), .int 0]) (rs := []) (by decide +kernel) (by decide +kernel) (by decide +kernel) (by decide) rfl (Nat.le_of_ble_eq_true rfl) rfl hc nx
theorem b190_72 {d : Nat} {x1 : Int32} {x2 : Int32} {x3 : Int32} {x4 : Int32} {x5 : Int32} {x6 : Int32} {o7 : Option Value} {sx0 : Int32} {S : fm_S} {r : Option Value × am_W} (kt : sx0 < 10 → am_Ev d 190 81 [some (.ref 231), some (.int x1), some (.int x2), some (.int x3), some (.int x4), some (.int x5), some (.int x6), o7] [] (fm_mk S) r) (kf : ¬ sx0 < 10 → am_Ev d 190 77 [some (.ref 231), some (.int x1), some (.int x2), some (.int x3), some (.int x4), some (.int x5), some (.int x6), o7] [] (fm_mk S) r) : am_Ev d 190 72 [some (.ref 231), some (.int x1), some (.int x2), some (.int x3), some (.int x4), some (.int x5), some (.int x6), o7] [.int sx0] (fm_mk S) r := by
  refine fs_bipush (n := 10) (v := 10) (by decide +kernel) (by decide) ?_
  exact fs_iclt (off := 7) (tgt := 81) (by decide +kernel) (by decide) kt kf
theorem b190_77 {d : Nat} {x1 : Int32} {x2 : Int32} {x3 : Int32} {x4 : Int32} {x5 : Int32} {x6 : Int32} {o7 : Option Value} {S : fm_S} {r : Option Value × am_W} (nx : am_Ev d 190 82 [some (.ref 231), some (.int x1), some (.int x2), some (.int x3), some (.int x4), some (.int x5), some (.int x6), o7] [.int 1] (fm_mk S) r) : am_Ev d 190 77 [some (.ref 231), some (.int x1), some (.int x2), some (.int x3), some (.int x4), some (.int x5), some (.int x6), o7] [] (fm_mk S) r := by
  refine fs_iconst (n := 1) (v := 1) (by decide +kernel) (by decide) ?_
  refine fs_goto (off := 4) (tgt := 82) (by decide +kernel) (by decide) ?_
  exact nx
theorem b190_81 {d : Nat} {x1 : Int32} {x2 : Int32} {x3 : Int32} {x4 : Int32} {x5 : Int32} {x6 : Int32} {o7 : Option Value} {S : fm_S} {r : Option Value × am_W} (nx : am_Ev d 190 82 [some (.ref 231), some (.int x1), some (.int x2), some (.int x3), some (.int x4), some (.int x5), some (.int x6), o7] [.int 0] (fm_mk S) r) : am_Ev d 190 81 [some (.ref 231), some (.int x1), some (.int x2), some (.int x3), some (.int x4), some (.int x5), some (.int x6), o7] [] (fm_mk S) r := by
  refine fs_iconst (n := 0) (v := 0) (by decide +kernel) (by decide) ?_
  exact nx
theorem b190_82 {d : Nat} {x1 : Int32} {x2 : Int32} {x3 : Int32} {x4 : Int32} {x5 : Int32} {x6 : Int32} {o7 : Option Value} {sx0 : Int32} {S : fm_S} {r : Option Value × am_W} (kt : x5 = 0 → am_Ev d 190 128 [some (.ref 231), some (.int x1), some (.int x2), some (.int x3), some (.int x4), some (.int x5), some (.int x6), some (.int sx0)] [] (fm_mk S) r) (kf : ¬ x5 = 0 → am_Ev d 190 89 [some (.ref 231), some (.int x1), some (.int x2), some (.int x3), some (.int x4), some (.int x5), some (.int x6), some (.int sx0)] [] (fm_mk S) r) : am_Ev d 190 82 [some (.ref 231), some (.int x1), some (.int x2), some (.int x3), some (.int x4), some (.int x5), some (.int x6), o7] [.int sx0] (fm_mk S) r := by
  refine fs_istore (j := 7) (L' := [some (.ref 231), some (.int x1), some (.int x2), some (.int x3), some (.int x4), some (.int x5), some (.int x6), some (.int sx0)]) (by decide +kernel) (Nat.le_of_ble_eq_true rfl) rfl ?_
  refine fs_iload (j := 5) (by decide +kernel) rfl ?_
  exact fs_ifeq (off := 42) (tgt := 128) (by decide +kernel) (by decide) kt kf
theorem b190_89 {d : Nat} {x1 : Int32} {x2 : Int32} {x3 : Int32} {x4 : Int32} {x5 : Int32} {x6 : Int32} {x7 : Int32} {S : fm_S} {r : Option Value × am_W} (hi0 : vp_in x6 373) (kt : ¬ (S.1 232 x6.toNatClampNeg) = x1 → am_Ev d 190 124 [some (.ref 231), some (.int x1), some (.int x2), some (.int x3), some (.int x4), some (.int x5), some (.int x6), some (.int x7)] [] (fm_mk S) r) (kf : (S.1 232 x6.toNatClampNeg) = x1 → am_Ev d 190 100 [some (.ref 231), some (.int x1), some (.int x2), some (.int x3), some (.int x4), some (.int x5), some (.int x6), some (.int x7)] [] (fm_mk S) r) : am_Ev d 190 89 [some (.ref 231), some (.int x1), some (.int x2), some (.int x3), some (.int x4), some (.int x5), some (.int x6), some (.int x7)] [] (fm_mk S) r := by
  refine fs_aloadn (j := 0) (by decide +kernel) rfl ?_
  refine fe_getR (idx := 7) (t := 8) (f := 0) (fk := 2) (fin := 1) (wp := 943) (x := 232) (by decide +kernel) (by decide +kernel) (by decide +kernel) (by decide +kernel) (by decide +kernel) ?_
  refine fs_iload (j := 6) (by decide +kernel) rfl ?_
  refine fx_iald (n := x6.toNatClampNeg) (len := 373) (by decide +kernel) (by decide +kernel) (by decide +kernel) hi0 rfl ?_
  refine fs_iloadn (j := 1) (by decide +kernel) rfl ?_
  exact fs_icne (off := 27) (tgt := 124) (by decide +kernel) (by decide) kt kf
theorem b190_100 {d : Nat} {x1 : Int32} {x2 : Int32} {x3 : Int32} {x4 : Int32} {x5 : Int32} {x6 : Int32} {x7 : Int32} {S : fm_S} {r : Option Value × am_W} (hi0 : vp_in (x6 + 24) 373) (kt : ¬ (S.1 232 ((x6 + 24).toNatClampNeg)) = 1 → am_Ev d 190 120 [some (.ref 231), some (.int x1), some (.int x2), some (.int x3), some (.int x4), some (.int x5), some (.int x6), some (.int x7)] [.int x7] (fm_mk S) r) (kf : (S.1 232 ((x6 + 24).toNatClampNeg)) = 1 → am_Ev d 190 116 [some (.ref 231), some (.int x1), some (.int x2), some (.int x3), some (.int x4), some (.int x5), some (.int x6), some (.int x7)] [.int x7] (fm_mk S) r) : am_Ev d 190 100 [some (.ref 231), some (.int x1), some (.int x2), some (.int x3), some (.int x4), some (.int x5), some (.int x6), some (.int x7)] [] (fm_mk S) r := by
  refine fs_iload (j := 7) (by decide +kernel) rfl ?_
  refine fs_aloadn (j := 0) (by decide +kernel) rfl ?_
  refine fe_getR (idx := 7) (t := 8) (f := 0) (fk := 2) (fin := 1) (wp := 943) (x := 232) (by decide +kernel) (by decide +kernel) (by decide +kernel) (by decide +kernel) (by decide +kernel) ?_
  refine fs_iload (j := 6) (by decide +kernel) rfl ?_
  refine fs_bipush (n := 24) (v := 24) (by decide +kernel) (by decide) ?_
  refine fs_iadd (by decide +kernel) ?_
  refine fx_iald (n := (x6 + 24).toNatClampNeg) (len := 373) (by decide +kernel) (by decide +kernel) (by decide +kernel) hi0 rfl ?_
  refine fs_iconst (n := 1) (v := 1) (by decide +kernel) (by decide) ?_
  exact fs_icne (off := 7) (tgt := 120) (by decide +kernel) (by decide) kt kf
theorem b190_116 {d : Nat} {x1 : Int32} {x2 : Int32} {x3 : Int32} {x4 : Int32} {x5 : Int32} {x6 : Int32} {x7 : Int32} {sx0 : Int32} {S : fm_S} {r : Option Value × am_W} (nx : am_Ev d 190 121 [some (.ref 231), some (.int x1), some (.int x2), some (.int x3), some (.int x4), some (.int x5), some (.int x6), some (.int x7)] [.int 1, .int sx0] (fm_mk S) r) : am_Ev d 190 116 [some (.ref 231), some (.int x1), some (.int x2), some (.int x3), some (.int x4), some (.int x5), some (.int x6), some (.int x7)] [.int sx0] (fm_mk S) r := by
  refine fs_iconst (n := 1) (v := 1) (by decide +kernel) (by decide) ?_
  refine fs_goto (off := 4) (tgt := 121) (by decide +kernel) (by decide) ?_
  exact nx
theorem b190_120 {d : Nat} {x1 : Int32} {x2 : Int32} {x3 : Int32} {x4 : Int32} {x5 : Int32} {x6 : Int32} {x7 : Int32} {sx0 : Int32} {S : fm_S} {r : Option Value × am_W} (nx : am_Ev d 190 121 [some (.ref 231), some (.int x1), some (.int x2), some (.int x3), some (.int x4), some (.int x5), some (.int x6), some (.int x7)] [.int 0, .int sx0] (fm_mk S) r) : am_Ev d 190 120 [some (.ref 231), some (.int x1), some (.int x2), some (.int x3), some (.int x4), some (.int x5), some (.int x6), some (.int x7)] [.int sx0] (fm_mk S) r := by
  refine fs_iconst (n := 0) (v := 0) (by decide +kernel) (by decide) ?_
  exact nx
theorem b190_121 {d : Nat} {x1 : Int32} {x2 : Int32} {x3 : Int32} {x4 : Int32} {x5 : Int32} {x6 : Int32} {x7 : Int32} {sx0 : Int32} {sx1 : Int32} {S : fm_S} {r : Option Value × am_W} (kt : ¬ sx0 = sx1 → am_Ev d 190 128 [some (.ref 231), some (.int x1), some (.int x2), some (.int x3), some (.int x4), some (.int x5), some (.int x6), some (.int x7)] [] (fm_mk S) r) (kf : sx0 = sx1 → am_Ev d 190 124 [some (.ref 231), some (.int x1), some (.int x2), some (.int x3), some (.int x4), some (.int x5), some (.int x6), some (.int x7)] [] (fm_mk S) r) : am_Ev d 190 121 [some (.ref 231), some (.int x1), some (.int x2), some (.int x3), some (.int x4), some (.int x5), some (.int x6), some (.int x7)] [.int sx1, .int sx0] (fm_mk S) r := by
  exact fs_icne (off := 7) (tgt := 128) (by decide +kernel) (by decide) kt kf
theorem b190_124 {d : Nat} {x1 : Int32} {x2 : Int32} {x3 : Int32} {x4 : Int32} {x5 : Int32} {x6 : Int32} {x7 : Int32} {S : fm_S} {r : Option Value × am_W} (nx : am_Ev d 190 129 [some (.ref 231), some (.int x1), some (.int x2), some (.int x3), some (.int x4), some (.int x5), some (.int x6), some (.int x7)] [.int 1] (fm_mk S) r) : am_Ev d 190 124 [some (.ref 231), some (.int x1), some (.int x2), some (.int x3), some (.int x4), some (.int x5), some (.int x6), some (.int x7)] [] (fm_mk S) r := by
  refine fs_iconst (n := 1) (v := 1) (by decide +kernel) (by decide) ?_
  refine fs_goto (off := 4) (tgt := 129) (by decide +kernel) (by decide) ?_
  exact nx
theorem b190_128 {d : Nat} {x1 : Int32} {x2 : Int32} {x3 : Int32} {x4 : Int32} {x5 : Int32} {x6 : Int32} {x7 : Int32} {S : fm_S} {r : Option Value × am_W} (nx : am_Ev d 190 129 [some (.ref 231), some (.int x1), some (.int x2), some (.int x3), some (.int x4), some (.int x5), some (.int x6), some (.int x7)] [.int 0] (fm_mk S) r) : am_Ev d 190 128 [some (.ref 231), some (.int x1), some (.int x2), some (.int x3), some (.int x4), some (.int x5), some (.int x6), some (.int x7)] [] (fm_mk S) r := by
  refine fs_iconst (n := 0) (v := 0) (by decide +kernel) (by decide) ?_
  exact nx
theorem b190_129 {d : Nat} {x1 : Int32} {x2 : Int32} {x3 : Int32} {x4 : Int32} {x5 : Int32} {x6 : Int32} {x7 : Int32} {sx0 : Int32} {S : fm_S} {r : Option Value × am_W} (nx : am_Ev d 190 20 [some (.ref 231), some (.int x1), some (.int x2), some (.int x3), some (.int x4), some (.int sx0), some (.int (x6 + 1)), some (.int x7)] [] (fm_mk S) r) : am_Ev d 190 129 [some (.ref 231), some (.int x1), some (.int x2), some (.int x3), some (.int x4), some (.int x5), some (.int x6), some (.int x7)] [.int sx0] (fm_mk S) r := by
  refine fs_istore (j := 5) (L' := [some (.ref 231), some (.int x1), some (.int x2), some (.int x3), some (.int x4), some (.int sx0), some (.int x6), some (.int x7)]) (by decide +kernel) (Nat.le_of_ble_eq_true rfl) rfl ?_
  refine fs_iinc (j := 6) (n := 1) (v := 1) (L' := [some (.ref 231), some (.int x1), some (.int x2), some (.int x3), some (.int x4), some (.int sx0), some (.int (x6 + 1)), some (.int x7)]) (by decide +kernel) rfl (Nat.le_of_ble_eq_true rfl) (by decide) rfl ?_
  refine fs_goto (off := -114) (tgt := 20) (by decide +kernel) (by decide) ?_
  exact nx
theorem b190_137 {d : Nat} {x1 : Int32} {x2 : Int32} {x3 : Int32} {x4 : Int32} {x5 : Int32} {x6 : Int32} {o7 : Option Value} {S : fm_S} {r : Option Value × am_W} (kt : x5 = 0 → am_Ev d 190 150 [some (.ref 231), some (.int x1), some (.int x2), some (.int x3), some (.int x4), some (.int x5), some (.int x6), o7] [.int x3] (fm_mk S) r) (kf : ¬ x5 = 0 → am_Ev d 190 143 [some (.ref 231), some (.int x1), some (.int x2), some (.int x3), some (.int x4), some (.int x5), some (.int x6), o7] [.int x3] (fm_mk S) r) : am_Ev d 190 137 [some (.ref 231), some (.int x1), some (.int x2), some (.int x3), some (.int x4), some (.int x5), some (.int x6), o7] [] (fm_mk S) r := by
  refine fs_iloadn (j := 3) (by decide +kernel) rfl ?_
  refine fs_iload (j := 5) (by decide +kernel) rfl ?_
  exact fs_ifeq (off := 10) (tgt := 150) (by decide +kernel) (by decide) kt kf
theorem b190_143 {d : Nat} {x1 : Int32} {x2 : Int32} {x3 : Int32} {x4 : Int32} {x5 : Int32} {x6 : Int32} {o7 : Option Value} {sx0 : Int32} {S : fm_S} {r : Option Value × am_W} (nx : am_Ev d 190 151 [some (.ref 231), some (.int x1), some (.int x2), some (.int x3), some (.int x4), some (.int x5), some (.int x6), o7] [.int (1 <<< (x4 &&& 31)), .int sx0] (fm_mk S) r) : am_Ev d 190 143 [some (.ref 231), some (.int x1), some (.int x2), some (.int x3), some (.int x4), some (.int x5), some (.int x6), o7] [.int sx0] (fm_mk S) r := by
  refine fs_iconst (n := 1) (v := 1) (by decide +kernel) (by decide) ?_
  refine fs_iload (j := 4) (by decide +kernel) rfl ?_
  refine fs_ishl (by decide +kernel) ?_
  refine fs_goto (off := 4) (tgt := 151) (by decide +kernel) (by decide) ?_
  exact nx
theorem b190_150 {d : Nat} {x1 : Int32} {x2 : Int32} {x3 : Int32} {x4 : Int32} {x5 : Int32} {x6 : Int32} {o7 : Option Value} {sx0 : Int32} {S : fm_S} {r : Option Value × am_W} (nx : am_Ev d 190 151 [some (.ref 231), some (.int x1), some (.int x2), some (.int x3), some (.int x4), some (.int x5), some (.int x6), o7] [.int 0, .int sx0] (fm_mk S) r) : am_Ev d 190 150 [some (.ref 231), some (.int x1), some (.int x2), some (.int x3), some (.int x4), some (.int x5), some (.int x6), o7] [.int sx0] (fm_mk S) r := by
  refine fs_iconst (n := 0) (v := 0) (by decide +kernel) (by decide) ?_
  exact nx
theorem b190_151 {d : Nat} {x1 : Int32} {x2 : Int32} {x3 : Int32} {x4 : Int32} {x5 : Int32} {x6 : Int32} {o7 : Option Value} {sx0 : Int32} {sx1 : Int32} {S : fm_S} {r : Option Value × am_W} (nx : am_Ev d 190 5 [some (.ref 231), some (.int x1), some (.int x2), some (.int (sx0 ||| sx1)), some (.int (x4 + 1)), some (.int x5), some (.int x6), o7] [] (fm_mk S) r) : am_Ev d 190 151 [some (.ref 231), some (.int x1), some (.int x2), some (.int x3), some (.int x4), some (.int x5), some (.int x6), o7] [.int sx1, .int sx0] (fm_mk S) r := by
  refine fs_ior (by decide +kernel) ?_
  refine fs_istoren (j := 3) (L' := [some (.ref 231), some (.int x1), some (.int x2), some (.int (sx0 ||| sx1)), some (.int x4), some (.int x5), some (.int x6), o7]) (by decide +kernel) (Nat.le_of_ble_eq_true rfl) rfl ?_
  refine fs_iinc (j := 4) (n := 1) (v := 1) (L' := [some (.ref 231), some (.int x1), some (.int x2), some (.int (sx0 ||| sx1)), some (.int (x4 + 1)), some (.int x5), some (.int x6), o7]) (by decide +kernel) rfl (Nat.le_of_ble_eq_true rfl) (by decide) rfl ?_
  refine fs_goto (off := -151) (tgt := 5) (by decide +kernel) (by decide) ?_
  exact nx
theorem b190_159 {d : Nat} {x1 : Int32} {x2 : Int32} {x3 : Int32} {x4 : Int32} {o5 : Option Value} {o6 : Option Value} {o7 : Option Value} {S : fm_S}  : am_Ev d 190 159 [some (.ref 231), some (.int x1), some (.int x2), some (.int x3), some (.int x4), o5, o6, o7] [] (fm_mk S) (some (.int x3), fm_mk S) := by
  refine fs_iloadn (j := 3) (by decide +kernel) rfl ?_
  exact fe_retI (by decide +kernel) (by decide +kernel)
-- KitchenSiegeModel.is(I)I
theorem b191_0 {d : Nat} {x1 : Int32} {o2 : Option Value} {o3 : Option Value} {v : Int32} {S1 : fm_S} {S : fm_S} {r : Option Value × am_W} (hc : am_Sp d 142 [.ref 231, .int x1] (fm_mk S) (some (.int v)) (fm_mk S1)) (nx : am_Ev (d + 1) 191 5 [some (.ref 231), some (.int x1), o2, o3] [.int v] (fm_mk S1) r) : am_Ev (d + 1) 191 0 [some (.ref 231), some (.int x1), o2, o3] [] (fm_mk S) r := by
  refine fs_aloadn (j := 0) (by decide +kernel) rfl ?_
  refine fs_iloadn (j := 1) (by decide +kernel) rfl ?_
  exact fe_callV (idx := 84) (n := 1) (wp := 1033) (q := (1035, 33)) (as := [.int x1]) (rs := []) (by decide +kernel) (by decide +kernel) (by decide +kernel) (by decide +kernel) rfl (Nat.le_of_ble_eq_true rfl) rfl hc nx
theorem b191_5 {d : Nat} {x1 : Int32} {o2 : Option Value} {o3 : Option Value} {sx0 : Int32} {S : fm_S} {r : Option Value × am_W} (kt : ¬ sx0 = 0 → am_Ev d 191 13 [some (.ref 231), some (.int x1), o2, o3] [] (fm_mk S) r) (kf : sx0 = 0 → am_Ev d 191 8 [some (.ref 231), some (.int x1), o2, o3] [] (fm_mk S) r) : am_Ev d 191 5 [some (.ref 231), some (.int x1), o2, o3] [.int sx0] (fm_mk S) r := by
  exact fs_ifne (off := 8) (tgt := 13) (by decide +kernel) (by decide) kt kf
theorem b191_8 {d : Nat} {x1 : Int32} {o2 : Option Value} {o3 : Option Value} {v : Int32} {S1 : fm_S} {S : fm_S} {r : Option Value × am_W} (hc : am_Sp d 138 [.ref 231] (fm_mk S) (some (.int v)) (fm_mk S1)) (nx : am_Ev (d + 1) 191 12 [some (.ref 231), some (.int x1), o2, o3] [.int v] (fm_mk S1) r) : am_Ev (d + 1) 191 8 [some (.ref 231), some (.int x1), o2, o3] [] (fm_mk S) r := by
  refine fs_aloadn (j := 0) (by decide +kernel) rfl ?_
  exact fe_callV (idx := 73) (n := 0) (wp := 1018) (q := (1020, 31)) (as := []) (rs := []) (by decide +kernel) (by decide +kernel) (by decide +kernel) (by decide +kernel) rfl (Nat.le_of_ble_eq_true rfl) rfl hc nx
theorem b191_12 {d : Nat} {x1 : Int32} {o2 : Option Value} {o3 : Option Value} {sx0 : Int32} {S : fm_S}  : am_Ev d 191 12 [some (.ref 231), some (.int x1), o2, o3] [.int sx0] (fm_mk S) (some (.int sx0), fm_mk S) := by
  exact fe_retI (by decide +kernel) (by decide +kernel)
theorem b191_13 {d : Nat} {x1 : Int32} {o2 : Option Value} {o3 : Option Value} {S : fm_S} {r : Option Value × am_W} (nx : am_Ev d 191 17 [some (.ref 231), some (.int x1), some (.int 0), some (.int 0)] [] (fm_mk S) r) : am_Ev d 191 13 [some (.ref 231), some (.int x1), o2, o3] [] (fm_mk S) r := by
  refine fs_iconst (n := 0) (v := 0) (by decide +kernel) (by decide) ?_
  refine fs_istoren (j := 2) (L' := [some (.ref 231), some (.int x1), some (.int 0), o3]) (by decide +kernel) (Nat.le_of_ble_eq_true rfl) rfl ?_
  refine fs_iconst (n := 0) (v := 0) (by decide +kernel) (by decide) ?_
  refine fs_istoren (j := 3) (L' := [some (.ref 231), some (.int x1), some (.int 0), some (.int 0)]) (by decide +kernel) (Nat.le_of_ble_eq_true rfl) rfl ?_
  exact nx
theorem b191_17 {d : Nat} {x1 : Int32} {x2 : Int32} {x3 : Int32} {S : fm_S} {r : Option Value × am_W} (kt : 6 ≤ x3 → am_Ev d 191 48 [some (.ref 231), some (.int x1), some (.int x2), some (.int x3)] [] (fm_mk S) r) (kf : ¬ 6 ≤ x3 → am_Ev d 191 23 [some (.ref 231), some (.int x1), some (.int x2), some (.int x3)] [] (fm_mk S) r) : am_Ev d 191 17 [some (.ref 231), some (.int x1), some (.int x2), some (.int x3)] [] (fm_mk S) r := by
  refine fs_iloadn (j := 3) (by decide +kernel) rfl ?_
  refine fs_bipush (n := 6) (v := 6) (by decide +kernel) (by decide) ?_
  exact fs_icge (off := 28) (tgt := 48) (by decide +kernel) (by decide) kt kf
theorem b191_23 {d : Nat} {x1 : Int32} {x2 : Int32} {x3 : Int32} {v : Int32} {S1 : fm_S} {S : fm_S} {r : Option Value × am_W} (hc : am_Sp d 190 [.ref 231, .int x1, .int x3] (fm_mk S) (some (.int v)) (fm_mk S1)) (nx : am_Ev (d + 1) 191 30 [some (.ref 231), some (.int x1), some (.int x2), some (.int x3)] [.int v, .int x2] (fm_mk S1) r) : am_Ev (d + 1) 191 23 [some (.ref 231), some (.int x1), some (.int x2), some (.int x3)] [] (fm_mk S) r := by
  refine fs_iloadn (j := 2) (by decide +kernel) rfl ?_
  refine fs_aloadn (j := 0) (by decide +kernel) rfl ?_
  refine fs_iloadn (j := 1) (by decide +kernel) rfl ?_
  refine fs_iloadn (j := 3) (by decide +kernel) rfl ?_
  exact fe_callV (idx := 223) (n := 2) (wp := 1235) (q := (1237, 54)) (as := [.int x1, .int x3]) (rs := [.int x2]) (by decide +kernel) (by decide +kernel) (by decide +kernel) (by decide +kernel) rfl (Nat.le_of_ble_eq_true rfl) rfl hc nx
theorem b191_30 {d : Nat} {x1 : Int32} {x2 : Int32} {x3 : Int32} {sx0 : Int32} {sx1 : Int32} {S : fm_S} {r : Option Value × am_W} (kt : sx1 = 0 → am_Ev d 191 39 [some (.ref 231), some (.int x1), some (.int x2), some (.int x3)] [.int sx0] (fm_mk S) r) (kf : ¬ sx1 = 0 → am_Ev d 191 33 [some (.ref 231), some (.int x1), some (.int x2), some (.int x3)] [.int sx0] (fm_mk S) r) : am_Ev d 191 30 [some (.ref 231), some (.int x1), some (.int x2), some (.int x3)] [.int sx1, .int sx0] (fm_mk S) r := by
  exact fs_ifeq (off := 9) (tgt := 39) (by decide +kernel) (by decide) kt kf
theorem b191_33 {d : Nat} {x1 : Int32} {x2 : Int32} {x3 : Int32} {sx0 : Int32} {S : fm_S} {r : Option Value × am_W} (nx : am_Ev d 191 40 [some (.ref 231), some (.int x1), some (.int x2), some (.int x3)] [.int (1 <<< (x3 &&& 31)), .int sx0] (fm_mk S) r) : am_Ev d 191 33 [some (.ref 231), some (.int x1), some (.int x2), some (.int x3)] [.int sx0] (fm_mk S) r := by
  refine fs_iconst (n := 1) (v := 1) (by decide +kernel) (by decide) ?_
  refine fs_iloadn (j := 3) (by decide +kernel) rfl ?_
  refine fs_ishl (by decide +kernel) ?_
  refine fs_goto (off := 4) (tgt := 40) (by decide +kernel) (by decide) ?_
  exact nx
theorem b191_39 {d : Nat} {x1 : Int32} {x2 : Int32} {x3 : Int32} {sx0 : Int32} {S : fm_S} {r : Option Value × am_W} (nx : am_Ev d 191 40 [some (.ref 231), some (.int x1), some (.int x2), some (.int x3)] [.int 0, .int sx0] (fm_mk S) r) : am_Ev d 191 39 [some (.ref 231), some (.int x1), some (.int x2), some (.int x3)] [.int sx0] (fm_mk S) r := by
  refine fs_iconst (n := 0) (v := 0) (by decide +kernel) (by decide) ?_
  exact nx
theorem b191_40 {d : Nat} {x1 : Int32} {x2 : Int32} {x3 : Int32} {sx0 : Int32} {sx1 : Int32} {S : fm_S} {r : Option Value × am_W} (nx : am_Ev d 191 17 [some (.ref 231), some (.int x1), some (.int (sx0 ||| sx1)), some (.int (x3 + 1))] [] (fm_mk S) r) : am_Ev d 191 40 [some (.ref 231), some (.int x1), some (.int x2), some (.int x3)] [.int sx1, .int sx0] (fm_mk S) r := by
  refine fs_ior (by decide +kernel) ?_
  refine fs_istoren (j := 2) (L' := [some (.ref 231), some (.int x1), some (.int (sx0 ||| sx1)), some (.int x3)]) (by decide +kernel) (Nat.le_of_ble_eq_true rfl) rfl ?_
  refine fs_iinc (j := 3) (n := 1) (v := 1) (L' := [some (.ref 231), some (.int x1), some (.int (sx0 ||| sx1)), some (.int (x3 + 1))]) (by decide +kernel) rfl (Nat.le_of_ble_eq_true rfl) (by decide) rfl ?_
  refine fs_goto (off := -28) (tgt := 17) (by decide +kernel) (by decide) ?_
  exact nx
theorem b191_48 {d : Nat} {x1 : Int32} {x2 : Int32} {x3 : Int32} {S : fm_S}  : am_Ev d 191 48 [some (.ref 231), some (.int x1), some (.int x2), some (.int x3)] [] (fm_mk S) (some (.int x2), fm_mk S) := by
  refine fs_iloadn (j := 2) (by decide +kernel) rfl ?_
  exact fe_retI (by decide +kernel) (by decide +kernel)
-- KitchenSiegeModel.tryNext(III)I
theorem b192_0 {d : Nat} {x1 : Int32} {x2 : Int32} {x3 : Int32} {o4 : Option Value} {o5 : Option Value} {o6 : Option Value} {o7 : Option Value} {o8 : Option Value} {o9 : Option Value} {o10 : Option Value} {v : Int32} {S1 : fm_S} {S : fm_S} {r : Option Value × am_W} (hc : am_Sp d 142 [.ref 231, .int x1] (fm_mk S) (some (.int v)) (fm_mk S1)) (nx : am_Ev (d + 1) 192 5 [some (.ref 231), some (.int x1), some (.int x2), some (.int x3), o4, o5, o6, o7, o8, o9, o10] [.int v] (fm_mk S1) r) : am_Ev (d + 1) 192 0 [some (.ref 231), some (.int x1), some (.int x2), some (.int x3), o4, o5, o6, o7, o8, o9, o10] [] (fm_mk S) r := by
  refine fs_aloadn (j := 0) (by decide +kernel) rfl ?_
  refine fs_iloadn (j := 1) (by decide +kernel) rfl ?_
  exact fe_callV (idx := 84) (n := 1) (wp := 1033) (q := (1035, 33)) (as := [.int x1]) (rs := []) (by decide +kernel) (by decide +kernel) (by decide +kernel) (by decide +kernel) rfl (Nat.le_of_ble_eq_true rfl) rfl hc nx
theorem b192_5 {d : Nat} {x1 : Int32} {x2 : Int32} {x3 : Int32} {o4 : Option Value} {o5 : Option Value} {o6 : Option Value} {o7 : Option Value} {o8 : Option Value} {o9 : Option Value} {o10 : Option Value} {sx0 : Int32} {S : fm_S} {r : Option Value × am_W} (kt : sx0 = 0 → am_Ev d 192 32 [some (.ref 231), some (.int x1), some (.int x2), some (.int x3), o4, o5, o6, o7, o8, o9, o10] [] (fm_mk S) r) (kf : ¬ sx0 = 0 → am_Ev d 192 8 [some (.ref 231), some (.int x1), some (.int x2), some (.int x3), o4, o5, o6, o7, o8, o9, o10] [] (fm_mk S) r) : am_Ev d 192 5 [some (.ref 231), some (.int x1), some (.int x2), some (.int x3), o4, o5, o6, o7, o8, o9, o10] [.int sx0] (fm_mk S) r := by
  exact fs_ifeq (off := 27) (tgt := 32) (by decide +kernel) (by decide) kt kf
theorem b192_8 {d : Nat} {x1 : Int32} {x2 : Int32} {x3 : Int32} {o4 : Option Value} {o5 : Option Value} {o6 : Option Value} {o7 : Option Value} {o8 : Option Value} {o9 : Option Value} {o10 : Option Value} {v : Int32} {S1 : fm_S} {S : fm_S} {r : Option Value × am_W} (hc : am_Sp d 137 [.long x2.toInt64, .long 1, .long 60] (fm_mk S) (some (.int v)) (fm_mk S1)) (nx : am_Ev (d + 1) 192 17 [some (.ref 231), some (.int x1), some (.int x2), some (.int x3), o4, o5, o6, o7, o8, o9, o10] [.int v] (fm_mk S1) r) : am_Ev (d + 1) 192 8 [some (.ref 231), some (.int x1), some (.int x2), some (.int x3), o4, o5, o6, o7, o8, o9, o10] [] (fm_mk S) r := by
  refine fs_iloadn (j := 2) (by decide +kernel) rfl ?_
  refine fs_i2l (by decide +kernel) ?_
  refine fs_lconst (n := 1) (v := 1) (by decide +kernel) (by decide) ?_
  refine fs_ldc2 (idx := 219) (q := 1225) (v := 60) (by decide +kernel) (by decide +kernel) ?_
  exact fe_callS (idx := 67) (kd := 0) (n := 3) (wp := 1014) (q := (1015, 0)) (as := [.long x2.toInt64, .long 1, .long 60]) (rs := []) (by decide +kernel) (by decide +kernel) (by decide +kernel) (by decide) rfl (Nat.le_of_ble_eq_true rfl) rfl hc nx
theorem b192_17 {d : Nat} {x1 : Int32} {x2 : Int32} {x3 : Int32} {o4 : Option Value} {o5 : Option Value} {o6 : Option Value} {o7 : Option Value} {o8 : Option Value} {o9 : Option Value} {o10 : Option Value} {sx0 : Int32} {S : fm_S} {r : Option Value × am_W} (kt : sx0 = 0 → am_Ev d 192 32 [some (.ref 231), some (.int x1), some (.int x2), some (.int x3), o4, o5, o6, o7, o8, o9, o10] [] (fm_mk S) r) (kf : ¬ sx0 = 0 → am_Ev d 192 20 [some (.ref 231), some (.int x1), some (.int x2), some (.int x3), o4, o5, o6, o7, o8, o9, o10] [] (fm_mk S) r) : am_Ev d 192 17 [some (.ref 231), some (.int x1), some (.int x2), some (.int x3), o4, o5, o6, o7, o8, o9, o10] [.int sx0] (fm_mk S) r := by
  exact fs_ifeq (off := 15) (tgt := 32) (by decide +kernel) (by decide) kt kf
theorem b192_20 {d : Nat} {x1 : Int32} {x2 : Int32} {x3 : Int32} {o4 : Option Value} {o5 : Option Value} {o6 : Option Value} {o7 : Option Value} {o8 : Option Value} {o9 : Option Value} {o10 : Option Value} {v : Int32} {S1 : fm_S} {S : fm_S} {r : Option Value × am_W} (hc : am_Sp d 137 [.long x3.toInt64, .long 0, .long 99] (fm_mk S) (some (.int v)) (fm_mk S1)) (nx : am_Ev (d + 1) 192 29 [some (.ref 231), some (.int x1), some (.int x2), some (.int x3), o4, o5, o6, o7, o8, o9, o10] [.int v] (fm_mk S1) r) : am_Ev (d + 1) 192 20 [some (.ref 231), some (.int x1), some (.int x2), some (.int x3), o4, o5, o6, o7, o8, o9, o10] [] (fm_mk S) r := by
  refine fs_iloadn (j := 3) (by decide +kernel) rfl ?_
  refine fs_i2l (by decide +kernel) ?_
  refine fs_lconst (n := 0) (v := 0) (by decide +kernel) (by decide) ?_
  refine fs_ldc2 (idx := 221) (q := 1226) (v := 99) (by decide +kernel) (by decide +kernel) ?_
  exact fe_callS (idx := 67) (kd := 0) (n := 3) (wp := 1014) (q := (1015, 0)) (as := [.long x3.toInt64, .long 0, .long 99]) (rs := []) (by decide +kernel) (by decide +kernel) (by decide +kernel) (by decide) rfl (Nat.le_of_ble_eq_true rfl) rfl hc nx
theorem b192_29 {d : Nat} {x1 : Int32} {x2 : Int32} {x3 : Int32} {o4 : Option Value} {o5 : Option Value} {o6 : Option Value} {o7 : Option Value} {o8 : Option Value} {o9 : Option Value} {o10 : Option Value} {sx0 : Int32} {S : fm_S} {r : Option Value × am_W} (kt : ¬ sx0 = 0 → am_Ev d 192 37 [some (.ref 231), some (.int x1), some (.int x2), some (.int x3), o4, o5, o6, o7, o8, o9, o10] [] (fm_mk S) r) (kf : sx0 = 0 → am_Ev d 192 32 [some (.ref 231), some (.int x1), some (.int x2), some (.int x3), o4, o5, o6, o7, o8, o9, o10] [] (fm_mk S) r) : am_Ev d 192 29 [some (.ref 231), some (.int x1), some (.int x2), some (.int x3), o4, o5, o6, o7, o8, o9, o10] [.int sx0] (fm_mk S) r := by
  exact fs_ifne (off := 8) (tgt := 37) (by decide +kernel) (by decide) kt kf
theorem b192_32 {d : Nat} {x1 : Int32} {x2 : Int32} {x3 : Int32} {o4 : Option Value} {o5 : Option Value} {o6 : Option Value} {o7 : Option Value} {o8 : Option Value} {o9 : Option Value} {o10 : Option Value} {v : Int32} {S1 : fm_S} {S : fm_S} {r : Option Value × am_W} (hc : am_Sp d 138 [.ref 231] (fm_mk S) (some (.int v)) (fm_mk S1)) (nx : am_Ev (d + 1) 192 36 [some (.ref 231), some (.int x1), some (.int x2), some (.int x3), o4, o5, o6, o7, o8, o9, o10] [.int v] (fm_mk S1) r) : am_Ev (d + 1) 192 32 [some (.ref 231), some (.int x1), some (.int x2), some (.int x3), o4, o5, o6, o7, o8, o9, o10] [] (fm_mk S) r := by
  refine fs_aloadn (j := 0) (by decide +kernel) rfl ?_
  exact fe_callV (idx := 73) (n := 0) (wp := 1018) (q := (1020, 31)) (as := []) (rs := []) (by decide +kernel) (by decide +kernel) (by decide +kernel) (by decide +kernel) rfl (Nat.le_of_ble_eq_true rfl) rfl hc nx
theorem b192_36 {d : Nat} {x1 : Int32} {x2 : Int32} {x3 : Int32} {o4 : Option Value} {o5 : Option Value} {o6 : Option Value} {o7 : Option Value} {o8 : Option Value} {o9 : Option Value} {o10 : Option Value} {sx0 : Int32} {S : fm_S}  : am_Ev d 192 36 [some (.ref 231), some (.int x1), some (.int x2), some (.int x3), o4, o5, o6, o7, o8, o9, o10] [.int sx0] (fm_mk S) (some (.int sx0), fm_mk S) := by
  exact fe_retI (by decide +kernel) (by decide +kernel)
theorem b192_37 {d : Nat} {x1 : Int32} {x2 : Int32} {x3 : Int32} {o4 : Option Value} {o5 : Option Value} {o6 : Option Value} {o7 : Option Value} {o8 : Option Value} {o9 : Option Value} {o10 : Option Value} {v : Int32} {S1 : fm_S} {S : fm_S} {r : Option Value × am_W} (hi0 : vp_in (5 + x1) 373) (hc : am_Sp d 190 [.ref 231, .int x1, .int (S.1 232 ((5 + x1).toNatClampNeg))] (fm_mk S) (some (.int v)) (fm_mk S1)) (nx : am_Ev (d + 1) 192 50 [some (.ref 231), some (.int x1), some (.int x2), some (.int x3), o4, o5, o6, o7, o8, o9, o10] [.int v] (fm_mk S1) r) : am_Ev (d + 1) 192 37 [some (.ref 231), some (.int x1), some (.int x2), some (.int x3), o4, o5, o6, o7, o8, o9, o10] [] (fm_mk S) r := by
  refine fs_aloadn (j := 0) (by decide +kernel) rfl ?_
  refine fs_iloadn (j := 1) (by decide +kernel) rfl ?_
  refine fs_aloadn (j := 0) (by decide +kernel) rfl ?_
  refine fe_getR (idx := 7) (t := 8) (f := 0) (fk := 2) (fin := 1) (wp := 943) (x := 232) (by decide +kernel) (by decide +kernel) (by decide +kernel) (by decide +kernel) (by decide +kernel) ?_
  refine fs_iconst (n := 5) (v := 5) (by decide +kernel) (by decide) ?_
  refine fs_iloadn (j := 1) (by decide +kernel) rfl ?_
  refine fs_iadd (by decide +kernel) ?_
  refine fx_iald (n := (5 + x1).toNatClampNeg) (len := 373) (by decide +kernel) (by decide +kernel) (by decide +kernel) hi0 rfl ?_
  exact fe_callV (idx := 223) (n := 2) (wp := 1235) (q := (1237, 54)) (as := [.int x1, .int (S.1 232 ((5 + x1).toNatClampNeg))]) (rs := []) (by decide +kernel) (by decide +kernel) (by decide +kernel) (by decide +kernel) rfl (Nat.le_of_ble_eq_true rfl) rfl hc nx
theorem b192_50 {d : Nat} {x1 : Int32} {x2 : Int32} {x3 : Int32} {o4 : Option Value} {o5 : Option Value} {o6 : Option Value} {o7 : Option Value} {o8 : Option Value} {o9 : Option Value} {o10 : Option Value} {sx0 : Int32} {S : fm_S} {r : Option Value × am_W} (nx : am_Ev d 192 62 [some (.ref 231), some (.int x1), some (.int x2), some (.int x3), some (.int sx0), some (.int (-1)), some (.int 9), some (.int 0), o8, o9, o10] [] (fm_mk S) r) : am_Ev d 192 50 [some (.ref 231), some (.int x1), some (.int x2), some (.int x3), o4, o5, o6, o7, o8, o9, o10] [.int sx0] (fm_mk S) r := by
  refine fs_istore (j := 4) (L' := [some (.ref 231), some (.int x1), some (.int x2), some (.int x3), some (.int sx0), o5, o6, o7, o8, o9, o10]) (by decide +kernel) (Nat.le_of_ble_eq_true rfl) rfl ?_
  refine fs_iconst (n := -1) (v := (-1)) (by decide +kernel) (by decide) ?_
  refine fs_istore (j := 5) (L' := [some (.ref 231), some (.int x1), some (.int x2), some (.int x3), some (.int sx0), some (.int (-1)), o6, o7, o8, o9, o10]) (by decide +kernel) (Nat.le_of_ble_eq_true rfl) rfl ?_
  refine fs_bipush (n := 9) (v := 9) (by decide +kernel) (by decide) ?_
  refine fs_istore (j := 6) (L' := [some (.ref 231), some (.int x1), some (.int x2), some (.int x3), some (.int sx0), some (.int (-1)), some (.int 9), o7, o8, o9, o10]) (by decide +kernel) (Nat.le_of_ble_eq_true rfl) rfl ?_
  refine fs_iconst (n := 0) (v := 0) (by decide +kernel) (by decide) ?_
  refine fs_istore (j := 7) (L' := [some (.ref 231), some (.int x1), some (.int x2), some (.int x3), some (.int sx0), some (.int (-1)), some (.int 9), some (.int 0), o8, o9, o10]) (by decide +kernel) (Nat.le_of_ble_eq_true rfl) rfl ?_
  exact nx
theorem b192_62 {d : Nat} {x1 : Int32} {x2 : Int32} {x3 : Int32} {x4 : Int32} {x5 : Int32} {x6 : Int32} {x7 : Int32} {o8 : Option Value} {o9 : Option Value} {o10 : Option Value} {S : fm_S} {r : Option Value × am_W} (kt : 6 ≤ x7 → am_Ev d 192 200 [some (.ref 231), some (.int x1), some (.int x2), some (.int x3), some (.int x4), some (.int x5), some (.int x6), some (.int x7), o8, o9, o10] [] (fm_mk S) r) (kf : ¬ 6 ≤ x7 → am_Ev d 192 69 [some (.ref 231), some (.int x1), some (.int x2), some (.int x3), some (.int x4), some (.int x5), some (.int x6), some (.int x7), o8, o9, o10] [] (fm_mk S) r) : am_Ev d 192 62 [some (.ref 231), some (.int x1), some (.int x2), some (.int x3), some (.int x4), some (.int x5), some (.int x6), some (.int x7), o8, o9, o10] [] (fm_mk S) r := by
  refine fs_iload (j := 7) (by decide +kernel) rfl ?_
  refine fs_bipush (n := 6) (v := 6) (by decide +kernel) (by decide) ?_
  exact fs_icge (off := 134) (tgt := 200) (by decide +kernel) (by decide) kt kf
theorem b192_69 {d : Nat} {x1 : Int32} {x2 : Int32} {x3 : Int32} {x4 : Int32} {x5 : Int32} {x6 : Int32} {x7 : Int32} {o8 : Option Value} {o9 : Option Value} {o10 : Option Value} {S : fm_S} {r : Option Value × am_W} (kt : x4 = 0 → am_Ev d 192 200 [some (.ref 231), some (.int x1), some (.int x2), some (.int x3), some (.int x4), some (.int x5), some (.int x6), some (.int x7), o8, o9, o10] [] (fm_mk S) r) (kf : ¬ x4 = 0 → am_Ev d 192 74 [some (.ref 231), some (.int x1), some (.int x2), some (.int x3), some (.int x4), some (.int x5), some (.int x6), some (.int x7), o8, o9, o10] [] (fm_mk S) r) : am_Ev d 192 69 [some (.ref 231), some (.int x1), some (.int x2), some (.int x3), some (.int x4), some (.int x5), some (.int x6), some (.int x7), o8, o9, o10] [] (fm_mk S) r := by
  refine fs_iload (j := 4) (by decide +kernel) rfl ?_
  exact fs_ifeq (off := 129) (tgt := 200) (by decide +kernel) (by decide) kt kf
theorem b192_74 {d : Nat} {x1 : Int32} {x2 : Int32} {x3 : Int32} {x4 : Int32} {x5 : Int32} {x6 : Int32} {x7 : Int32} {o8 : Option Value} {o9 : Option Value} {o10 : Option Value} {S : fm_S} {r : Option Value × am_W} (nx : am_Ev d 192 80 [some (.ref 231), some (.int x1), some (.int x2), some (.int x3), some (.int x4), some (.int x5), some (.int x6), some (.int x7), some (.int 0), some (.int 0), o10] [] (fm_mk S) r) : am_Ev d 192 74 [some (.ref 231), some (.int x1), some (.int x2), some (.int x3), some (.int x4), some (.int x5), some (.int x6), some (.int x7), o8, o9, o10] [] (fm_mk S) r := by
  refine fs_iconst (n := 0) (v := 0) (by decide +kernel) (by decide) ?_
  refine fs_istore (j := 8) (L' := [some (.ref 231), some (.int x1), some (.int x2), some (.int x3), some (.int x4), some (.int x5), some (.int x6), some (.int x7), some (.int 0), o9, o10]) (by decide +kernel) (Nat.le_of_ble_eq_true rfl) rfl ?_
  refine fs_iconst (n := 0) (v := 0) (by decide +kernel) (by decide) ?_
  refine fs_istore (j := 9) (L' := [some (.ref 231), some (.int x1), some (.int x2), some (.int x3), some (.int x4), some (.int x5), some (.int x6), some (.int x7), some (.int 0), some (.int 0), o10]) (by decide +kernel) (Nat.le_of_ble_eq_true rfl) rfl ?_
  exact nx
theorem b192_80 {d : Nat} {x1 : Int32} {x2 : Int32} {x3 : Int32} {x4 : Int32} {x5 : Int32} {x6 : Int32} {x7 : Int32} {x8 : Int32} {x9 : Int32} {o10 : Option Value} {S : fm_S} {r : Option Value × am_W} (kt : 6 ≤ x9 → am_Ev d 192 136 [some (.ref 231), some (.int x1), some (.int x2), some (.int x3), some (.int x4), some (.int x5), some (.int x6), some (.int x7), some (.int x8), some (.int x9), o10] [] (fm_mk S) r) (kf : ¬ 6 ≤ x9 → am_Ev d 192 87 [some (.ref 231), some (.int x1), some (.int x2), some (.int x3), some (.int x4), some (.int x5), some (.int x6), some (.int x7), some (.int x8), some (.int x9), o10] [] (fm_mk S) r) : am_Ev d 192 80 [some (.ref 231), some (.int x1), some (.int x2), some (.int x3), some (.int x4), some (.int x5), some (.int x6), some (.int x7), some (.int x8), some (.int x9), o10] [] (fm_mk S) r := by
  refine fs_iload (j := 9) (by decide +kernel) rfl ?_
  refine fs_bipush (n := 6) (v := 6) (by decide +kernel) (by decide) ?_
  exact fs_icge (off := 52) (tgt := 136) (by decide +kernel) (by decide) kt kf
theorem b192_87 {d : Nat} {x1 : Int32} {x2 : Int32} {x3 : Int32} {x4 : Int32} {x5 : Int32} {x6 : Int32} {x7 : Int32} {x8 : Int32} {x9 : Int32} {o10 : Option Value} {v : Int32} {S1 : fm_S} {S : fm_S} {r : Option Value × am_W} (hc : am_Sp d 170 [.int x4, .int x9] (fm_mk S) (some (.int v)) (fm_mk S1)) (nx : am_Ev (d + 1) 192 96 [some (.ref 231), some (.int x1), some (.int x2), some (.int x3), some (.int x4), some (.int x5), some (.int x6), some (.int x7), some (.int x8), some (.int x9), o10] [.int v, .int x8] (fm_mk S1) r) : am_Ev (d + 1) 192 87 [some (.ref 231), some (.int x1), some (.int x2), some (.int x3), some (.int x4), some (.int x5), some (.int x6), some (.int x7), some (.int x8), some (.int x9), o10] [] (fm_mk S) r := by
  refine fs_iload (j := 8) (by decide +kernel) rfl ?_
  refine fs_iload (j := 4) (by decide +kernel) rfl ?_
  refine fs_iload (j := 9) (by decide +kernel) rfl ?_
  exact fe_callS (idx := 190) (kd := 0) (n := 2) (wp := 1155) (q := (1156, 0)) (as := [.int x4, .int x9]) (rs := [.int x8]) (by decide +kernel) (by decide +kernel) (by decide +kernel) (by decide) rfl (Nat.le_of_ble_eq_true rfl) rfl hc nx
theorem b192_96 {d : Nat} {x1 : Int32} {x2 : Int32} {x3 : Int32} {x4 : Int32} {x5 : Int32} {x6 : Int32} {x7 : Int32} {x8 : Int32} {x9 : Int32} {o10 : Option Value} {sx0 : Int32} {sx1 : Int32} {S : fm_S} {r : Option Value × am_W} (kt : sx1 = 0 → am_Ev d 192 126 [some (.ref 231), some (.int x1), some (.int x2), some (.int x3), some (.int x4), some (.int x5), some (.int x6), some (.int x7), some (.int x8), some (.int x9), o10] [.int sx0] (fm_mk S) r) (kf : ¬ sx1 = 0 → am_Ev d 192 99 [some (.ref 231), some (.int x1), some (.int x2), some (.int x3), some (.int x4), some (.int x5), some (.int x6), some (.int x7), some (.int x8), some (.int x9), o10] [.int sx0] (fm_mk S) r) : am_Ev d 192 96 [some (.ref 231), some (.int x1), some (.int x2), some (.int x3), some (.int x4), some (.int x5), some (.int x6), some (.int x7), some (.int x8), some (.int x9), o10] [.int sx1, .int sx0] (fm_mk S) r := by
  exact fs_ifeq (off := 30) (tgt := 126) (by decide +kernel) (by decide) kt kf
theorem b192_99 {d : Nat} {x1 : Int32} {x2 : Int32} {x3 : Int32} {x4 : Int32} {x5 : Int32} {x6 : Int32} {x7 : Int32} {x8 : Int32} {x9 : Int32} {o10 : Option Value} {sx0 : Int32} {v : Int32} {S1 : fm_S} {S : fm_S} {r : Option Value × am_W} (hi0 : vp_in (5 + x1) 373) (hc : am_Sp d 169 [.int (S.1 232 ((5 + x1).toNatClampNeg)), .int x9, .int x7, .int x2, .int x3, .int 0] (fm_mk S) (some (.int v)) (fm_mk S1)) (nx : am_Ev (d + 1) 192 117 [some (.ref 231), some (.int x1), some (.int x2), some (.int x3), some (.int x4), some (.int x5), some (.int x6), some (.int x7), some (.int x8), some (.int x9), o10] [.int v, .int sx0] (fm_mk S1) r) : am_Ev (d + 1) 192 99 [some (.ref 231), some (.int x1), some (.int x2), some (.int x3), some (.int x4), some (.int x5), some (.int x6), some (.int x7), some (.int x8), some (.int x9), o10] [.int sx0] (fm_mk S) r := by
  refine fs_aloadn (j := 0) (by decide +kernel) rfl ?_
  refine fe_getR (idx := 7) (t := 8) (f := 0) (fk := 2) (fin := 1) (wp := 943) (x := 232) (by decide +kernel) (by decide +kernel) (by decide +kernel) (by decide +kernel) (by decide +kernel) ?_
  refine fs_iconst (n := 5) (v := 5) (by decide +kernel) (by decide) ?_
  refine fs_iloadn (j := 1) (by decide +kernel) rfl ?_
  refine fs_iadd (by decide +kernel) ?_
  refine fx_iald (n := (5 + x1).toNatClampNeg) (len := 373) (by decide +kernel) (by decide +kernel) (by decide +kernel) hi0 rfl ?_
  refine fs_iload (j := 9) (by decide +kernel) rfl ?_
  refine fs_iload (j := 7) (by decide +kernel) rfl ?_
  refine fs_iloadn (j := 2) (by decide +kernel) rfl ?_
  refine fs_iloadn (j := 3) (by decide +kernel) rfl ?_
  refine fs_iconst (n := 0) (v := 0) (by decide +kernel) (by decide) ?_
  exact fe_callS (idx := 168) (kd := 0) (n := 6) (wp := 1152) (q := (1153, 0)) (as := [.int (S.1 232 ((5 + x1).toNatClampNeg)), .int x9, .int x7, .int x2, .int x3, .int 0]) (rs := [.int sx0]) (by decide +kernel) (by decide +kernel) (by decide +kernel) (by decide) rfl (Nat.le_of_ble_eq_true rfl) rfl hc nx
theorem b192_117 {d : Nat} {x1 : Int32} {x2 : Int32} {x3 : Int32} {x4 : Int32} {x5 : Int32} {x6 : Int32} {x7 : Int32} {x8 : Int32} {x9 : Int32} {o10 : Option Value} {sx0 : Int32} {sx1 : Int32} {S : fm_S} {r : Option Value × am_W} (kt : sx1 < 10 → am_Ev d 192 126 [some (.ref 231), some (.int x1), some (.int x2), some (.int x3), some (.int x4), some (.int x5), some (.int x6), some (.int x7), some (.int x8), some (.int x9), o10] [.int sx0] (fm_mk S) r) (kf : ¬ sx1 < 10 → am_Ev d 192 122 [some (.ref 231), some (.int x1), some (.int x2), some (.int x3), some (.int x4), some (.int x5), some (.int x6), some (.int x7), some (.int x8), some (.int x9), o10] [.int sx0] (fm_mk S) r) : am_Ev d 192 117 [some (.ref 231), some (.int x1), some (.int x2), some (.int x3), some (.int x4), some (.int x5), some (.int x6), some (.int x7), some (.int x8), some (.int x9), o10] [.int sx1, .int sx0] (fm_mk S) r := by
  refine fs_bipush (n := 10) (v := 10) (by decide +kernel) (by decide) ?_
  exact fs_iclt (off := 7) (tgt := 126) (by decide +kernel) (by decide) kt kf
theorem b192_122 {d : Nat} {x1 : Int32} {x2 : Int32} {x3 : Int32} {x4 : Int32} {x5 : Int32} {x6 : Int32} {x7 : Int32} {x8 : Int32} {x9 : Int32} {o10 : Option Value} {sx0 : Int32} {S : fm_S} {r : Option Value × am_W} (nx : am_Ev d 192 127 [some (.ref 231), some (.int x1), some (.int x2), some (.int x3), some (.int x4), some (.int x5), some (.int x6), some (.int x7), some (.int x8), some (.int x9), o10] [.int 1, .int sx0] (fm_mk S) r) : am_Ev d 192 122 [some (.ref 231), some (.int x1), some (.int x2), some (.int x3), some (.int x4), some (.int x5), some (.int x6), some (.int x7), some (.int x8), some (.int x9), o10] [.int sx0] (fm_mk S) r := by
  refine fs_iconst (n := 1) (v := 1) (by decide +kernel) (by decide) ?_
  refine fs_goto (off := 4) (tgt := 127) (by decide +kernel) (by decide) ?_
  exact nx
theorem b192_126 {d : Nat} {x1 : Int32} {x2 : Int32} {x3 : Int32} {x4 : Int32} {x5 : Int32} {x6 : Int32} {x7 : Int32} {x8 : Int32} {x9 : Int32} {o10 : Option Value} {sx0 : Int32} {S : fm_S} {r : Option Value × am_W} (nx : am_Ev d 192 127 [some (.ref 231), some (.int x1), some (.int x2), some (.int x3), some (.int x4), some (.int x5), some (.int x6), some (.int x7), some (.int x8), some (.int x9), o10] [.int 0, .int sx0] (fm_mk S) r) : am_Ev d 192 126 [some (.ref 231), some (.int x1), some (.int x2), some (.int x3), some (.int x4), some (.int x5), some (.int x6), some (.int x7), some (.int x8), some (.int x9), o10] [.int sx0] (fm_mk S) r := by
  refine fs_iconst (n := 0) (v := 0) (by decide +kernel) (by decide) ?_
  exact nx
theorem b192_127 {d : Nat} {x1 : Int32} {x2 : Int32} {x3 : Int32} {x4 : Int32} {x5 : Int32} {x6 : Int32} {x7 : Int32} {x8 : Int32} {x9 : Int32} {o10 : Option Value} {sx0 : Int32} {sx1 : Int32} {S : fm_S} {r : Option Value × am_W} (nx : am_Ev d 192 80 [some (.ref 231), some (.int x1), some (.int x2), some (.int x3), some (.int x4), some (.int x5), some (.int x6), some (.int x7), some (.int (sx0 + sx1)), some (.int (x9 + 1)), o10] [] (fm_mk S) r) : am_Ev d 192 127 [some (.ref 231), some (.int x1), some (.int x2), some (.int x3), some (.int x4), some (.int x5), some (.int x6), some (.int x7), some (.int x8), some (.int x9), o10] [.int sx1, .int sx0] (fm_mk S) r := by
  refine fs_iadd (by decide +kernel) ?_
  refine fs_istore (j := 8) (L' := [some (.ref 231), some (.int x1), some (.int x2), some (.int x3), some (.int x4), some (.int x5), some (.int x6), some (.int x7), some (.int (sx0 + sx1)), some (.int x9), o10]) (by decide +kernel) (Nat.le_of_ble_eq_true rfl) rfl ?_
  refine fs_iinc (j := 9) (n := 1) (v := 1) (L' := [some (.ref 231), some (.int x1), some (.int x2), some (.int x3), some (.int x4), some (.int x5), some (.int x6), some (.int x7), some (.int (sx0 + sx1)), some (.int (x9 + 1)), o10]) (by decide +kernel) rfl (Nat.le_of_ble_eq_true rfl) (by decide) rfl ?_
  refine fs_goto (off := -53) (tgt := 80) (by decide +kernel) (by decide) ?_
  exact nx
theorem b192_136 {d : Nat} {x1 : Int32} {x2 : Int32} {x3 : Int32} {x4 : Int32} {x5 : Int32} {x6 : Int32} {x7 : Int32} {x8 : Int32} {x9 : Int32} {o10 : Option Value} {v : Int32} {S1 : fm_S} {S : fm_S} {r : Option Value × am_W} (hc : am_Sp d 180 [.int x4] (fm_mk S) (some (.int v)) (fm_mk S1)) (nx : am_Ev (d + 1) 192 141 [some (.ref 231), some (.int x1), some (.int x2), some (.int x3), some (.int x4), some (.int x5), some (.int x6), some (.int x7), some (.int x8), some (.int x9), o10] [.int v] (fm_mk S1) r) : am_Ev (d + 1) 192 136 [some (.ref 231), some (.int x1), some (.int x2), some (.int x3), some (.int x4), some (.int x5), some (.int x6), some (.int x7), some (.int x8), some (.int x9), o10] [] (fm_mk S) r := by
  refine fs_iload (j := 4) (by decide +kernel) rfl ?_
  exact fe_callS (idx := 207) (kd := 0) (n := 1) (wp := 1194) (q := (1195, 0)) (as := [.int x4]) (rs := []) (by decide +kernel) (by decide +kernel) (by decide +kernel) (by decide) rfl (Nat.le_of_ble_eq_true rfl) rfl hc nx
theorem b192_141 {d : Nat} {x1 : Int32} {x2 : Int32} {x3 : Int32} {x4 : Int32} {x5 : Int32} {x6 : Int32} {x7 : Int32} {x8 : Int32} {x9 : Int32} {o10 : Option Value} {sx0 : Int32} {S : fm_S} {r : Option Value × am_W} (kt : x8 ≤ (sx0 - x8) → am_Ev d 192 158 [some (.ref 231), some (.int x1), some (.int x2), some (.int x3), some (.int x4), some (.int x5), some (.int x6), some (.int x7), some (.int x8), some (.int (sx0 - x8)), o10] [] (fm_mk S) r) (kf : ¬ x8 ≤ (sx0 - x8) → am_Ev d 192 153 [some (.ref 231), some (.int x1), some (.int x2), some (.int x3), some (.int x4), some (.int x5), some (.int x6), some (.int x7), some (.int x8), some (.int (sx0 - x8)), o10] [] (fm_mk S) r) : am_Ev d 192 141 [some (.ref 231), some (.int x1), some (.int x2), some (.int x3), some (.int x4), some (.int x5), some (.int x6), some (.int x7), some (.int x8), some (.int x9), o10] [.int sx0] (fm_mk S) r := by
  refine fs_iload (j := 8) (by decide +kernel) rfl ?_
  refine fs_isub (by decide +kernel) ?_
  refine fs_istore (j := 9) (L' := [some (.ref 231), some (.int x1), some (.int x2), some (.int x3), some (.int x4), some (.int x5), some (.int x6), some (.int x7), some (.int x8), some (.int (sx0 - x8)), o10]) (by decide +kernel) (Nat.le_of_ble_eq_true rfl) rfl ?_
  refine fs_iload (j := 8) (by decide +kernel) rfl ?_
  refine fs_iload (j := 9) (by decide +kernel) rfl ?_
  exact fs_icle (off := 8) (tgt := 158) (by decide +kernel) (by decide) kt kf
theorem b192_153 {d : Nat} {x1 : Int32} {x2 : Int32} {x3 : Int32} {x4 : Int32} {x5 : Int32} {x6 : Int32} {x7 : Int32} {x8 : Int32} {x9 : Int32} {o10 : Option Value} {S : fm_S} {r : Option Value × am_W} (nx : am_Ev d 192 160 [some (.ref 231), some (.int x1), some (.int x2), some (.int x3), some (.int x4), some (.int x5), some (.int x6), some (.int x7), some (.int x8), some (.int x9), o10] [.int x8] (fm_mk S) r) : am_Ev d 192 153 [some (.ref 231), some (.int x1), some (.int x2), some (.int x3), some (.int x4), some (.int x5), some (.int x6), some (.int x7), some (.int x8), some (.int x9), o10] [] (fm_mk S) r := by
  refine fs_iload (j := 8) (by decide +kernel) rfl ?_
  refine fs_goto (off := 5) (tgt := 160) (by decide +kernel) (by decide) ?_
  exact nx
theorem b192_158 {d : Nat} {x1 : Int32} {x2 : Int32} {x3 : Int32} {x4 : Int32} {x5 : Int32} {x6 : Int32} {x7 : Int32} {x8 : Int32} {x9 : Int32} {o10 : Option Value} {S : fm_S} {r : Option Value × am_W} (nx : am_Ev d 192 160 [some (.ref 231), some (.int x1), some (.int x2), some (.int x3), some (.int x4), some (.int x5), some (.int x6), some (.int x7), some (.int x8), some (.int x9), o10] [.int x9] (fm_mk S) r) : am_Ev d 192 158 [some (.ref 231), some (.int x1), some (.int x2), some (.int x3), some (.int x4), some (.int x5), some (.int x6), some (.int x7), some (.int x8), some (.int x9), o10] [] (fm_mk S) r := by
  refine fs_iload (j := 9) (by decide +kernel) rfl ?_
  exact nx
theorem b192_160 {d : Nat} {x1 : Int32} {x2 : Int32} {x3 : Int32} {x4 : Int32} {x5 : Int32} {x6 : Int32} {x7 : Int32} {x8 : Int32} {x9 : Int32} {o10 : Option Value} {sx0 : Int32} {S : fm_S} {r : Option Value × am_W} (kt : x6 ≤ sx0 → am_Ev d 192 174 [some (.ref 231), some (.int x1), some (.int x2), some (.int x3), some (.int x4), some (.int x5), some (.int x6), some (.int x7), some (.int x8), some (.int x9), some (.int sx0)] [] (fm_mk S) r) (kf : ¬ x6 ≤ sx0 → am_Ev d 192 169 [some (.ref 231), some (.int x1), some (.int x2), some (.int x3), some (.int x4), some (.int x5), some (.int x6), some (.int x7), some (.int x8), some (.int x9), some (.int sx0)] [] (fm_mk S) r) : am_Ev d 192 160 [some (.ref 231), some (.int x1), some (.int x2), some (.int x3), some (.int x4), some (.int x5), some (.int x6), some (.int x7), some (.int x8), some (.int x9), o10] [.int sx0] (fm_mk S) r := by
  refine fs_istore (j := 10) (L' := [some (.ref 231), some (.int x1), some (.int x2), some (.int x3), some (.int x4), some (.int x5), some (.int x6), some (.int x7), some (.int x8), some (.int x9), some (.int sx0)]) (by decide +kernel) (Nat.le_of_ble_eq_true rfl) rfl ?_
  refine fs_iload (j := 10) (by decide +kernel) rfl ?_
  refine fs_iload (j := 6) (by decide +kernel) rfl ?_
  exact fs_icge (off := 8) (tgt := 174) (by decide +kernel) (by decide) kt kf
theorem b192_169 {d : Nat} {x1 : Int32} {x2 : Int32} {x3 : Int32} {x4 : Int32} {x5 : Int32} {x6 : Int32} {x7 : Int32} {x8 : Int32} {x9 : Int32} {x10 : Int32} {S : fm_S} {r : Option Value × am_W} (nx : am_Ev d 192 176 [some (.ref 231), some (.int x1), some (.int x2), some (.int x3), some (.int x4), some (.int x5), some (.int x6), some (.int x7), some (.int x8), some (.int x9), some (.int x10)] [.int x7] (fm_mk S) r) : am_Ev d 192 169 [some (.ref 231), some (.int x1), some (.int x2), some (.int x3), some (.int x4), some (.int x5), some (.int x6), some (.int x7), some (.int x8), some (.int x9), some (.int x10)] [] (fm_mk S) r := by
  refine fs_iload (j := 7) (by decide +kernel) rfl ?_
  refine fs_goto (off := 5) (tgt := 176) (by decide +kernel) (by decide) ?_
  exact nx
theorem b192_174 {d : Nat} {x1 : Int32} {x2 : Int32} {x3 : Int32} {x4 : Int32} {x5 : Int32} {x6 : Int32} {x7 : Int32} {x8 : Int32} {x9 : Int32} {x10 : Int32} {S : fm_S} {r : Option Value × am_W} (nx : am_Ev d 192 176 [some (.ref 231), some (.int x1), some (.int x2), some (.int x3), some (.int x4), some (.int x5), some (.int x6), some (.int x7), some (.int x8), some (.int x9), some (.int x10)] [.int x5] (fm_mk S) r) : am_Ev d 192 174 [some (.ref 231), some (.int x1), some (.int x2), some (.int x3), some (.int x4), some (.int x5), some (.int x6), some (.int x7), some (.int x8), some (.int x9), some (.int x10)] [] (fm_mk S) r := by
  refine fs_iload (j := 5) (by decide +kernel) rfl ?_
  exact nx
theorem b192_176 {d : Nat} {x1 : Int32} {x2 : Int32} {x3 : Int32} {x4 : Int32} {x5 : Int32} {x6 : Int32} {x7 : Int32} {x8 : Int32} {x9 : Int32} {x10 : Int32} {sx0 : Int32} {S : fm_S} {r : Option Value × am_W} (kt : x6 ≤ x10 → am_Ev d 192 190 [some (.ref 231), some (.int x1), some (.int x2), some (.int x3), some (.int x4), some (.int sx0), some (.int x6), some (.int x7), some (.int x8), some (.int x9), some (.int x10)] [] (fm_mk S) r) (kf : ¬ x6 ≤ x10 → am_Ev d 192 185 [some (.ref 231), some (.int x1), some (.int x2), some (.int x3), some (.int x4), some (.int sx0), some (.int x6), some (.int x7), some (.int x8), some (.int x9), some (.int x10)] [] (fm_mk S) r) : am_Ev d 192 176 [some (.ref 231), some (.int x1), some (.int x2), some (.int x3), some (.int x4), some (.int x5), some (.int x6), some (.int x7), some (.int x8), some (.int x9), some (.int x10)] [.int sx0] (fm_mk S) r := by
  refine fs_istore (j := 5) (L' := [some (.ref 231), some (.int x1), some (.int x2), some (.int x3), some (.int x4), some (.int sx0), some (.int x6), some (.int x7), some (.int x8), some (.int x9), some (.int x10)]) (by decide +kernel) (Nat.le_of_ble_eq_true rfl) rfl ?_
  refine fs_iload (j := 10) (by decide +kernel) rfl ?_
  refine fs_iload (j := 6) (by decide +kernel) rfl ?_
  exact fs_icge (off := 8) (tgt := 190) (by decide +kernel) (by decide) kt kf
theorem b192_185 {d : Nat} {x1 : Int32} {x2 : Int32} {x3 : Int32} {x4 : Int32} {x5 : Int32} {x6 : Int32} {x7 : Int32} {x8 : Int32} {x9 : Int32} {x10 : Int32} {S : fm_S} {r : Option Value × am_W} (nx : am_Ev d 192 192 [some (.ref 231), some (.int x1), some (.int x2), some (.int x3), some (.int x4), some (.int x5), some (.int x6), some (.int x7), some (.int x8), some (.int x9), some (.int x10)] [.int x10] (fm_mk S) r) : am_Ev d 192 185 [some (.ref 231), some (.int x1), some (.int x2), some (.int x3), some (.int x4), some (.int x5), some (.int x6), some (.int x7), some (.int x8), some (.int x9), some (.int x10)] [] (fm_mk S) r := by
  refine fs_iload (j := 10) (by decide +kernel) rfl ?_
  refine fs_goto (off := 5) (tgt := 192) (by decide +kernel) (by decide) ?_
  exact nx
theorem b192_190 {d : Nat} {x1 : Int32} {x2 : Int32} {x3 : Int32} {x4 : Int32} {x5 : Int32} {x6 : Int32} {x7 : Int32} {x8 : Int32} {x9 : Int32} {x10 : Int32} {S : fm_S} {r : Option Value × am_W} (nx : am_Ev d 192 192 [some (.ref 231), some (.int x1), some (.int x2), some (.int x3), some (.int x4), some (.int x5), some (.int x6), some (.int x7), some (.int x8), some (.int x9), some (.int x10)] [.int x6] (fm_mk S) r) : am_Ev d 192 190 [some (.ref 231), some (.int x1), some (.int x2), some (.int x3), some (.int x4), some (.int x5), some (.int x6), some (.int x7), some (.int x8), some (.int x9), some (.int x10)] [] (fm_mk S) r := by
  refine fs_iload (j := 6) (by decide +kernel) rfl ?_
  exact nx
theorem b192_192 {d : Nat} {x1 : Int32} {x2 : Int32} {x3 : Int32} {x4 : Int32} {x5 : Int32} {x6 : Int32} {x7 : Int32} {x8 : Int32} {x9 : Int32} {x10 : Int32} {sx0 : Int32} {S : fm_S} {r : Option Value × am_W} (nx : am_Ev d 192 62 [some (.ref 231), some (.int x1), some (.int x2), some (.int x3), some (.int x4), some (.int x5), some (.int sx0), some (.int (x7 + 1)), some (.int x8), some (.int x9), some (.int x10)] [] (fm_mk S) r) : am_Ev d 192 192 [some (.ref 231), some (.int x1), some (.int x2), some (.int x3), some (.int x4), some (.int x5), some (.int x6), some (.int x7), some (.int x8), some (.int x9), some (.int x10)] [.int sx0] (fm_mk S) r := by
  refine fs_istore (j := 6) (L' := [some (.ref 231), some (.int x1), some (.int x2), some (.int x3), some (.int x4), some (.int x5), some (.int sx0), some (.int x7), some (.int x8), some (.int x9), some (.int x10)]) (by decide +kernel) (Nat.le_of_ble_eq_true rfl) rfl ?_
  refine fs_iinc (j := 7) (n := 1) (v := 1) (L' := [some (.ref 231), some (.int x1), some (.int x2), some (.int x3), some (.int x4), some (.int x5), some (.int sx0), some (.int (x7 + 1)), some (.int x8), some (.int x9), some (.int x10)]) (by decide +kernel) rfl (Nat.le_of_ble_eq_true rfl) (by decide) rfl ?_
  refine fs_goto (off := -135) (tgt := 62) (by decide +kernel) (by decide) ?_
  exact nx
theorem b192_200 {d : Nat} {x1 : Int32} {x2 : Int32} {x3 : Int32} {x4 : Int32} {x5 : Int32} {x6 : Int32} {x7 : Int32} {o8 : Option Value} {o9 : Option Value} {o10 : Option Value} {S : fm_S}  : am_Ev d 192 200 [some (.ref 231), some (.int x1), some (.int x2), some (.int x3), some (.int x4), some (.int x5), some (.int x6), some (.int x7), o8, o9, o10] [] (fm_mk S) (some (.int x5), fm_mk S) := by
  refine fs_iload (j := 5) (by decide +kernel) rfl ?_
  exact fe_retI (by decide +kernel) (by decide +kernel)
-- KitchenSiegeModel.rain(III)I
theorem b193_0 {d : Nat} {x1 : Int32} {x2 : Int32} {x3 : Int32} {o4 : Option Value} {o5 : Option Value} {o6 : Option Value} {o7 : Option Value} {o8 : Option Value} {o9 : Option Value} {o10 : Option Value} {v : Int32} {S1 : fm_S} {S : fm_S} {r : Option Value × am_W} (hc : am_Sp d 162 [.ref 231, .int x1] (fm_mk S) (some (.int v)) (fm_mk S1)) (nx : am_Ev (d + 1) 193 5 [some (.ref 231), some (.int x1), some (.int x2), some (.int x3), o4, o5, o6, o7, o8, o9, o10] [.int v] (fm_mk S1) r) : am_Ev (d + 1) 193 0 [some (.ref 231), some (.int x1), some (.int x2), some (.int x3), o4, o5, o6, o7, o8, o9, o10] [] (fm_mk S) r := by
  refine fs_aloadn (j := 0) (by decide +kernel) rfl ?_
  refine fs_iloadn (j := 1) (by decide +kernel) rfl ?_
  exact fe_callV (idx := 172) (n := 1) (wp := 1125) (q := (1127, 43)) (as := [.int x1]) (rs := []) (by decide +kernel) (by decide +kernel) (by decide +kernel) (by decide +kernel) rfl (Nat.le_of_ble_eq_true rfl) rfl hc nx
theorem b193_5 {d : Nat} {x1 : Int32} {x2 : Int32} {x3 : Int32} {o4 : Option Value} {o5 : Option Value} {o6 : Option Value} {o7 : Option Value} {o8 : Option Value} {o9 : Option Value} {o10 : Option Value} {sx0 : Int32} {S : fm_S} {r : Option Value × am_W} (kt : sx0 = 0 → am_Ev d 193 32 [some (.ref 231), some (.int x1), some (.int x2), some (.int x3), o4, o5, o6, o7, o8, o9, o10] [] (fm_mk S) r) (kf : ¬ sx0 = 0 → am_Ev d 193 8 [some (.ref 231), some (.int x1), some (.int x2), some (.int x3), o4, o5, o6, o7, o8, o9, o10] [] (fm_mk S) r) : am_Ev d 193 5 [some (.ref 231), some (.int x1), some (.int x2), some (.int x3), o4, o5, o6, o7, o8, o9, o10] [.int sx0] (fm_mk S) r := by
  exact fs_ifeq (off := 27) (tgt := 32) (by decide +kernel) (by decide) kt kf
theorem b193_8 {d : Nat} {x1 : Int32} {x2 : Int32} {x3 : Int32} {o4 : Option Value} {o5 : Option Value} {o6 : Option Value} {o7 : Option Value} {o8 : Option Value} {o9 : Option Value} {o10 : Option Value} {v : Int32} {S1 : fm_S} {S : fm_S} {r : Option Value × am_W} (hc : am_Sp d 137 [.long x2.toInt64, .long 0, .long 10] (fm_mk S) (some (.int v)) (fm_mk S1)) (nx : am_Ev (d + 1) 193 17 [some (.ref 231), some (.int x1), some (.int x2), some (.int x3), o4, o5, o6, o7, o8, o9, o10] [.int v] (fm_mk S1) r) : am_Ev (d + 1) 193 8 [some (.ref 231), some (.int x1), some (.int x2), some (.int x3), o4, o5, o6, o7, o8, o9, o10] [] (fm_mk S) r := by
  refine fs_iloadn (j := 2) (by decide +kernel) rfl ?_
  refine fs_i2l (by decide +kernel) ?_
  refine fs_lconst (n := 0) (v := 0) (by decide +kernel) (by decide) ?_
  refine fs_ldc2 (idx := 226) (q := 1251) (v := 10) (by decide +kernel) (by decide +kernel) ?_
  exact fe_callS (idx := 67) (kd := 0) (n := 3) (wp := 1014) (q := (1015, 0)) (as := [.long x2.toInt64, .long 0, .long 10]) (rs := []) (by decide +kernel) (by decide +kernel) (by decide +kernel) (by decide) rfl (Nat.le_of_ble_eq_true rfl) rfl hc nx
theorem b193_17 {d : Nat} {x1 : Int32} {x2 : Int32} {x3 : Int32} {o4 : Option Value} {o5 : Option Value} {o6 : Option Value} {o7 : Option Value} {o8 : Option Value} {o9 : Option Value} {o10 : Option Value} {sx0 : Int32} {S : fm_S} {r : Option Value × am_W} (kt : sx0 = 0 → am_Ev d 193 32 [some (.ref 231), some (.int x1), some (.int x2), some (.int x3), o4, o5, o6, o7, o8, o9, o10] [] (fm_mk S) r) (kf : ¬ sx0 = 0 → am_Ev d 193 20 [some (.ref 231), some (.int x1), some (.int x2), some (.int x3), o4, o5, o6, o7, o8, o9, o10] [] (fm_mk S) r) : am_Ev d 193 17 [some (.ref 231), some (.int x1), some (.int x2), some (.int x3), o4, o5, o6, o7, o8, o9, o10] [.int sx0] (fm_mk S) r := by
  exact fs_ifeq (off := 15) (tgt := 32) (by decide +kernel) (by decide) kt kf
theorem b193_20 {d : Nat} {x1 : Int32} {x2 : Int32} {x3 : Int32} {o4 : Option Value} {o5 : Option Value} {o6 : Option Value} {o7 : Option Value} {o8 : Option Value} {o9 : Option Value} {o10 : Option Value} {v : Int32} {S1 : fm_S} {S : fm_S} {r : Option Value × am_W} (hc : am_Sp d 137 [.long x3.toInt64, .long 0, .long 8] (fm_mk S) (some (.int v)) (fm_mk S1)) (nx : am_Ev (d + 1) 193 29 [some (.ref 231), some (.int x1), some (.int x2), some (.int x3), o4, o5, o6, o7, o8, o9, o10] [.int v] (fm_mk S1) r) : am_Ev (d + 1) 193 20 [some (.ref 231), some (.int x1), some (.int x2), some (.int x3), o4, o5, o6, o7, o8, o9, o10] [] (fm_mk S) r := by
  refine fs_iloadn (j := 3) (by decide +kernel) rfl ?_
  refine fs_i2l (by decide +kernel) ?_
  refine fs_lconst (n := 0) (v := 0) (by decide +kernel) (by decide) ?_
  refine fs_ldc2 (idx := 228) (q := 1252) (v := 8) (by decide +kernel) (by decide +kernel) ?_
  exact fe_callS (idx := 67) (kd := 0) (n := 3) (wp := 1014) (q := (1015, 0)) (as := [.long x3.toInt64, .long 0, .long 8]) (rs := []) (by decide +kernel) (by decide +kernel) (by decide +kernel) (by decide) rfl (Nat.le_of_ble_eq_true rfl) rfl hc nx
theorem b193_29 {d : Nat} {x1 : Int32} {x2 : Int32} {x3 : Int32} {o4 : Option Value} {o5 : Option Value} {o6 : Option Value} {o7 : Option Value} {o8 : Option Value} {o9 : Option Value} {o10 : Option Value} {sx0 : Int32} {S : fm_S} {r : Option Value × am_W} (kt : ¬ sx0 = 0 → am_Ev d 193 37 [some (.ref 231), some (.int x1), some (.int x2), some (.int x3), o4, o5, o6, o7, o8, o9, o10] [] (fm_mk S) r) (kf : sx0 = 0 → am_Ev d 193 32 [some (.ref 231), some (.int x1), some (.int x2), some (.int x3), o4, o5, o6, o7, o8, o9, o10] [] (fm_mk S) r) : am_Ev d 193 29 [some (.ref 231), some (.int x1), some (.int x2), some (.int x3), o4, o5, o6, o7, o8, o9, o10] [.int sx0] (fm_mk S) r := by
  exact fs_ifne (off := 8) (tgt := 37) (by decide +kernel) (by decide) kt kf
theorem b193_32 {d : Nat} {x1 : Int32} {x2 : Int32} {x3 : Int32} {o4 : Option Value} {o5 : Option Value} {o6 : Option Value} {o7 : Option Value} {o8 : Option Value} {o9 : Option Value} {o10 : Option Value} {v : Int32} {S1 : fm_S} {S : fm_S} {r : Option Value × am_W} (hc : am_Sp d 138 [.ref 231] (fm_mk S) (some (.int v)) (fm_mk S1)) (nx : am_Ev (d + 1) 193 36 [some (.ref 231), some (.int x1), some (.int x2), some (.int x3), o4, o5, o6, o7, o8, o9, o10] [.int v] (fm_mk S1) r) : am_Ev (d + 1) 193 32 [some (.ref 231), some (.int x1), some (.int x2), some (.int x3), o4, o5, o6, o7, o8, o9, o10] [] (fm_mk S) r := by
  refine fs_aloadn (j := 0) (by decide +kernel) rfl ?_
  exact fe_callV (idx := 73) (n := 0) (wp := 1018) (q := (1020, 31)) (as := []) (rs := []) (by decide +kernel) (by decide +kernel) (by decide +kernel) (by decide +kernel) rfl (Nat.le_of_ble_eq_true rfl) rfl hc nx
theorem b193_36 {d : Nat} {x1 : Int32} {x2 : Int32} {x3 : Int32} {o4 : Option Value} {o5 : Option Value} {o6 : Option Value} {o7 : Option Value} {o8 : Option Value} {o9 : Option Value} {o10 : Option Value} {sx0 : Int32} {S : fm_S}  : am_Ev d 193 36 [some (.ref 231), some (.int x1), some (.int x2), some (.int x3), o4, o5, o6, o7, o8, o9, o10] [.int sx0] (fm_mk S) (some (.int sx0), fm_mk S) := by
  exact fe_retI (by decide +kernel) (by decide +kernel)
theorem b193_37 {d : Nat} {x1 : Int32} {x2 : Int32} {x3 : Int32} {o4 : Option Value} {o5 : Option Value} {o6 : Option Value} {o7 : Option Value} {o8 : Option Value} {o9 : Option Value} {o10 : Option Value} {v : Int32} {S1 : fm_S} {S : fm_S} {r : Option Value × am_W} (hc : am_Sp d 165 [.ref 231, .int x1, .int (-1), .int 0] (fm_mk S) (some (.int v)) (fm_mk S1)) (nx : am_Ev (d + 1) 193 44 [some (.ref 231), some (.int x1), some (.int x2), some (.int x3), o4, o5, o6, o7, o8, o9, o10] [.int v] (fm_mk S1) r) : am_Ev (d + 1) 193 37 [some (.ref 231), some (.int x1), some (.int x2), some (.int x3), o4, o5, o6, o7, o8, o9, o10] [] (fm_mk S) r := by
  refine fs_aloadn (j := 0) (by decide +kernel) rfl ?_
  refine fs_iloadn (j := 1) (by decide +kernel) rfl ?_
  refine fs_iconst (n := -1) (v := (-1)) (by decide +kernel) (by decide) ?_
  refine fs_iconst (n := 0) (v := 0) (by decide +kernel) (by decide) ?_
  exact fe_callV (idx := 186) (n := 3) (wp := 1136) (q := (1138, 45)) (as := [.int x1, .int (-1), .int 0]) (rs := []) (by decide +kernel) (by decide +kernel) (by decide +kernel) (by decide +kernel) rfl (Nat.le_of_ble_eq_true rfl) rfl hc nx
theorem b193_44 {d : Nat} {x1 : Int32} {x2 : Int32} {x3 : Int32} {o4 : Option Value} {o5 : Option Value} {o6 : Option Value} {o7 : Option Value} {o8 : Option Value} {o9 : Option Value} {o10 : Option Value} {sx0 : Int32} {v : Int32} {S1 : fm_S} {S : fm_S} {r : Option Value × am_W} (hc : am_Sp d 180 [.int sx0] (fm_mk S) (some (.int v)) (fm_mk S1)) (nx : am_Ev (d + 1) 193 47 [some (.ref 231), some (.int x1), some (.int x2), some (.int x3), o4, o5, o6, o7, o8, o9, o10] [.int v] (fm_mk S1) r) : am_Ev (d + 1) 193 44 [some (.ref 231), some (.int x1), some (.int x2), some (.int x3), o4, o5, o6, o7, o8, o9, o10] [.int sx0] (fm_mk S) r := by
  exact fe_callS (idx := 207) (kd := 0) (n := 1) (wp := 1194) (q := (1195, 0)) (as := [.int sx0]) (rs := []) (by decide +kernel) (by decide +kernel) (by decide +kernel) (by decide) rfl (Nat.le_of_ble_eq_true rfl) rfl hc nx
theorem b193_47 {d : Nat} {x1 : Int32} {x2 : Int32} {x3 : Int32} {o4 : Option Value} {o5 : Option Value} {o6 : Option Value} {o7 : Option Value} {o8 : Option Value} {o9 : Option Value} {o10 : Option Value} {sx0 : Int32} {S : fm_S} {r : Option Value × am_W} (nx : am_Ev d 193 62 [some (.ref 231), some (.int x1), some (.int x2), some (.int x3), some (.int sx0), some (.long 1), none, some (.int 0), o8, o9, o10] [] (fm_mk (fm_wL S 243 0 1)) r) : am_Ev d 193 47 [some (.ref 231), some (.int x1), some (.int x2), some (.int x3), o4, o5, o6, o7, o8, o9, o10] [.int sx0] (fm_mk S) r := by
  refine fs_istore (j := 4) (L' := [some (.ref 231), some (.int x1), some (.int x2), some (.int x3), some (.int sx0), o5, o6, o7, o8, o9, o10]) (by decide +kernel) (Nat.le_of_ble_eq_true rfl) rfl ?_
  refine fs_aloadn (j := 0) (by decide +kernel) rfl ?_
  refine fe_getR (idx := 43) (t := 8) (f := 19) (fk := 2) (fin := 1) (wp := 962) (x := 243) (by decide +kernel) (by decide +kernel) (by decide +kernel) (by decide +kernel) (by decide +kernel) ?_
  refine fs_iconst (n := 0) (v := 0) (by decide +kernel) (by decide) ?_
  refine fs_lconst (n := 1) (v := 1) (by decide +kernel) (by decide) ?_
  refine fx_last (n := 0) (len := 9) (by decide +kernel) (by decide +kernel) (by decide +kernel) (vp_c (by decide) (by decide)) (by decide) ?_
  refine fs_lconst (n := 1) (v := 1) (by decide +kernel) (by decide) ?_
  refine fs_lstore (j := 5) (L' := [some (.ref 231), some (.int x1), some (.int x2), some (.int x3), some (.int sx0), some (.long 1), none, o7, o8, o9, o10]) (by decide +kernel) (Nat.le_of_ble_eq_true rfl) rfl ?_
  refine fs_iconst (n := 0) (v := 0) (by decide +kernel) (by decide) ?_
  refine fs_istore (j := 7) (L' := [some (.ref 231), some (.int x1), some (.int x2), some (.int x3), some (.int sx0), some (.long 1), none, some (.int 0), o8, o9, o10]) (by decide +kernel) (Nat.le_of_ble_eq_true rfl) rfl ?_
  exact nx
theorem b193_62 {d : Nat} {x1 : Int32} {x2 : Int32} {x3 : Int32} {x4 : Int32} {y5 : Int64} {x7 : Int32} {o8 : Option Value} {o9 : Option Value} {o10 : Option Value} {S : fm_S} {r : Option Value × am_W} (kt : x4 ≤ x7 → am_Ev d 193 154 [some (.ref 231), some (.int x1), some (.int x2), some (.int x3), some (.int x4), some (.long y5), none, some (.int x7), o8, o9, o10] [] (fm_mk S) r) (kf : ¬ x4 ≤ x7 → am_Ev d 193 69 [some (.ref 231), some (.int x1), some (.int x2), some (.int x3), some (.int x4), some (.long y5), none, some (.int x7), o8, o9, o10] [] (fm_mk S) r) : am_Ev d 193 62 [some (.ref 231), some (.int x1), some (.int x2), some (.int x3), some (.int x4), some (.long y5), none, some (.int x7), o8, o9, o10] [] (fm_mk S) r := by
  refine fs_iload (j := 7) (by decide +kernel) rfl ?_
  refine fs_iload (j := 4) (by decide +kernel) rfl ?_
  exact fs_icge (off := 88) (tgt := 154) (by decide +kernel) (by decide) kt kf
theorem b193_69 {d : Nat} {x1 : Int32} {x2 : Int32} {x3 : Int32} {x4 : Int32} {y5 : Int64} {x7 : Int32} {o8 : Option Value} {o9 : Option Value} {o10 : Option Value} {S : fm_S} {r : Option Value × am_W} (hi0 : vp_in (x7 + 1) 9) (nx : am_Ev d 193 85 [some (.ref 231), some (.int x1), some (.int x2), some (.int x3), some (.int x4), some (.long y5), none, some (.int x7), some (.int (x7 + 1)), o9, o10] [] (fm_mk (fm_wL S 243 ((x7 + 1).toNatClampNeg) 0)) r) : am_Ev d 193 69 [some (.ref 231), some (.int x1), some (.int x2), some (.int x3), some (.int x4), some (.long y5), none, some (.int x7), o8, o9, o10] [] (fm_mk S) r := by
  refine fs_aloadn (j := 0) (by decide +kernel) rfl ?_
  refine fe_getR (idx := 43) (t := 8) (f := 19) (fk := 2) (fin := 1) (wp := 962) (x := 243) (by decide +kernel) (by decide +kernel) (by decide +kernel) (by decide +kernel) (by decide +kernel) ?_
  refine fs_iload (j := 7) (by decide +kernel) rfl ?_
  refine fs_iconst (n := 1) (v := 1) (by decide +kernel) (by decide) ?_
  refine fs_iadd (by decide +kernel) ?_
  refine fs_lconst (n := 0) (v := 0) (by decide +kernel) (by decide) ?_
  refine fx_last (n := (x7 + 1).toNatClampNeg) (len := 9) (by decide +kernel) (by decide +kernel) (by decide +kernel) hi0 rfl ?_
  refine fs_iload (j := 7) (by decide +kernel) rfl ?_
  refine fs_iconst (n := 1) (v := 1) (by decide +kernel) (by decide) ?_
  refine fs_iadd (by decide +kernel) ?_
  refine fs_istore (j := 8) (L' := [some (.ref 231), some (.int x1), some (.int x2), some (.int x3), some (.int x4), some (.long y5), none, some (.int x7), some (.int (x7 + 1)), o9, o10]) (by decide +kernel) (Nat.le_of_ble_eq_true rfl) rfl ?_
  exact nx
theorem b193_85 {d : Nat} {x1 : Int32} {x2 : Int32} {x3 : Int32} {x4 : Int32} {y5 : Int64} {x7 : Int32} {x8 : Int32} {o9 : Option Value} {o10 : Option Value} {S : fm_S} {r : Option Value × am_W} (kt : x8 ≤ 0 → am_Ev d 193 129 [some (.ref 231), some (.int x1), some (.int x2), some (.int x3), some (.int x4), some (.long y5), none, some (.int x7), some (.int x8), o9, o10] [] (fm_mk S) r) (kf : ¬ x8 ≤ 0 → am_Ev d 193 90 [some (.ref 231), some (.int x1), some (.int x2), some (.int x3), some (.int x4), some (.long y5), none, some (.int x7), some (.int x8), o9, o10] [] (fm_mk S) r) : am_Ev d 193 85 [some (.ref 231), some (.int x1), some (.int x2), some (.int x3), some (.int x4), some (.long y5), none, some (.int x7), some (.int x8), o9, o10] [] (fm_mk S) r := by
  refine fs_iload (j := 8) (by decide +kernel) rfl ?_
  exact fs_ifle (off := 42) (tgt := 129) (by decide +kernel) (by decide) kt kf
theorem b193_90 {d : Nat} {x1 : Int32} {x2 : Int32} {x3 : Int32} {x4 : Int32} {y5 : Int64} {x7 : Int32} {x8 : Int32} {o9 : Option Value} {o10 : Option Value} {S : fm_S} {r : Option Value × am_W} (hi0 : vp_in x8 9) (hi1 : vp_in (x8 - 1) 9) (nx : am_Ev d 193 85 [some (.ref 231), some (.int x1), some (.int x2), some (.int x3), some (.int x4), some (.long y5), none, some (.int x7), some (.int (x8 + (-1))), o9, o10] [] (fm_mk (fm_wL S 243 x8.toNatClampNeg (((S.2.1 243 x8.toNatClampNeg) * x2.toInt64) + ((S.2.1 243 ((x8 - 1).toNatClampNeg)) * ((10 - x2).toInt64))))) r) : am_Ev d 193 90 [some (.ref 231), some (.int x1), some (.int x2), some (.int x3), some (.int x4), some (.long y5), none, some (.int x7), some (.int x8), o9, o10] [] (fm_mk S) r := by
  refine fs_aloadn (j := 0) (by decide +kernel) rfl ?_
  refine fe_getR (idx := 43) (t := 8) (f := 19) (fk := 2) (fin := 1) (wp := 962) (x := 243) (by decide +kernel) (by decide +kernel) (by decide +kernel) (by decide +kernel) (by decide +kernel) ?_
  refine fs_iload (j := 8) (by decide +kernel) rfl ?_
  refine fs_aloadn (j := 0) (by decide +kernel) rfl ?_
  refine fe_getR (idx := 43) (t := 8) (f := 19) (fk := 2) (fin := 1) (wp := 962) (x := 243) (by decide +kernel) (by decide +kernel) (by decide +kernel) (by decide +kernel) (by decide +kernel) ?_
  refine fs_iload (j := 8) (by decide +kernel) rfl ?_
  refine fx_lald (n := x8.toNatClampNeg) (len := 9) (by decide +kernel) (by decide +kernel) (by decide +kernel) hi0 rfl ?_
  refine fs_iloadn (j := 2) (by decide +kernel) rfl ?_
  refine fs_i2l (by decide +kernel) ?_
  refine fs_lmul (by decide +kernel) ?_
  refine fs_aloadn (j := 0) (by decide +kernel) rfl ?_
  refine fe_getR (idx := 43) (t := 8) (f := 19) (fk := 2) (fin := 1) (wp := 962) (x := 243) (by decide +kernel) (by decide +kernel) (by decide +kernel) (by decide +kernel) (by decide +kernel) ?_
  refine fs_iload (j := 8) (by decide +kernel) rfl ?_
  refine fs_iconst (n := 1) (v := 1) (by decide +kernel) (by decide) ?_
  refine fs_isub (by decide +kernel) ?_
  refine fx_lald (n := (x8 - 1).toNatClampNeg) (len := 9) (by decide +kernel) (by decide +kernel) (by decide +kernel) hi1 rfl ?_
  refine fs_bipush (n := 10) (v := 10) (by decide +kernel) (by decide) ?_
  refine fs_iloadn (j := 2) (by decide +kernel) rfl ?_
  refine fs_isub (by decide +kernel) ?_
  refine fs_i2l (by decide +kernel) ?_
  refine fs_lmul (by decide +kernel) ?_
  refine fs_ladd (by decide +kernel) ?_
  refine fx_last (n := x8.toNatClampNeg) (len := 9) (by decide +kernel) (by decide +kernel) (by decide +kernel) hi0 rfl ?_
  refine fs_iinc (j := 8) (n := -1) (v := (-1)) (L' := [some (.ref 231), some (.int x1), some (.int x2), some (.int x3), some (.int x4), some (.long y5), none, some (.int x7), some (.int (x8 + (-1))), o9, o10]) (by decide +kernel) rfl (Nat.le_of_ble_eq_true rfl) (by decide) rfl ?_
  refine fs_goto (off := -41) (tgt := 85) (by decide +kernel) (by decide) ?_
  exact nx
theorem b193_129 {d : Nat} {x1 : Int32} {x2 : Int32} {x3 : Int32} {x4 : Int32} {y5 : Int64} {x7 : Int32} {x8 : Int32} {o9 : Option Value} {o10 : Option Value} {S : fm_S} {r : Option Value × am_W} (nx : am_Ev d 193 62 [some (.ref 231), some (.int x1), some (.int x2), some (.int x3), some (.int x4), some (.long (y5 * 10)), none, some (.int (x7 + 1)), some (.int x8), o9, o10] [] (fm_mk (fm_wL S 243 0 ((S.2.1 243 0) * x2.toInt64))) r) : am_Ev d 193 129 [some (.ref 231), some (.int x1), some (.int x2), some (.int x3), some (.int x4), some (.long y5), none, some (.int x7), some (.int x8), o9, o10] [] (fm_mk S) r := by
  refine fs_aloadn (j := 0) (by decide +kernel) rfl ?_
  refine fe_getR (idx := 43) (t := 8) (f := 19) (fk := 2) (fin := 1) (wp := 962) (x := 243) (by decide +kernel) (by decide +kernel) (by decide +kernel) (by decide +kernel) (by decide +kernel) ?_
  refine fs_iconst (n := 0) (v := 0) (by decide +kernel) (by decide) ?_
  refine fs_dup2 (by decide +kernel) ⟨rfl, rfl⟩ ?_
  refine fx_lald (n := 0) (len := 9) (by decide +kernel) (by decide +kernel) (by decide +kernel) (vp_c (by decide) (by decide)) (by decide) ?_
  refine fs_iloadn (j := 2) (by decide +kernel) rfl ?_
  refine fs_i2l (by decide +kernel) ?_
  refine fs_lmul (by decide +kernel) ?_
  refine fx_last (n := 0) (len := 9) (by decide +kernel) (by decide +kernel) (by decide +kernel) (vp_c (by decide) (by decide)) (by decide) ?_
  refine fs_lload (j := 5) (by decide +kernel) rfl ?_
  refine fs_ldc2 (idx := 226) (q := 1251) (v := 10) (by decide +kernel) (by decide +kernel) ?_
  refine fs_lmul (by decide +kernel) ?_
  refine fs_lstore (j := 5) (L' := [some (.ref 231), some (.int x1), some (.int x2), some (.int x3), some (.int x4), some (.long (y5 * 10)), none, some (.int x7), some (.int x8), o9, o10]) (by decide +kernel) (Nat.le_of_ble_eq_true rfl) rfl ?_
  refine fs_iinc (j := 7) (n := 1) (v := 1) (L' := [some (.ref 231), some (.int x1), some (.int x2), some (.int x3), some (.int x4), some (.long (y5 * 10)), none, some (.int (x7 + 1)), some (.int x8), o9, o10]) (by decide +kernel) rfl (Nat.le_of_ble_eq_true rfl) (by decide) rfl ?_
  refine fs_goto (off := -89) (tgt := 62) (by decide +kernel) (by decide) ?_
  exact nx
theorem b193_154 {d : Nat} {x1 : Int32} {x2 : Int32} {x3 : Int32} {x4 : Int32} {y5 : Int64} {x7 : Int32} {o8 : Option Value} {o9 : Option Value} {o10 : Option Value} {S : fm_S} {r : Option Value × am_W} (nx : am_Ev d 193 160 [some (.ref 231), some (.int x1), some (.int x2), some (.int x3), some (.int x4), some (.long y5), none, some (.long 0), none, some (.int x3), o10] [] (fm_mk S) r) : am_Ev d 193 154 [some (.ref 231), some (.int x1), some (.int x2), some (.int x3), some (.int x4), some (.long y5), none, some (.int x7), o8, o9, o10] [] (fm_mk S) r := by
  refine fs_lconst (n := 0) (v := 0) (by decide +kernel) (by decide) ?_
  refine fs_lstore (j := 7) (L' := [some (.ref 231), some (.int x1), some (.int x2), some (.int x3), some (.int x4), some (.long y5), none, some (.long 0), none, o9, o10]) (by decide +kernel) (Nat.le_of_ble_eq_true rfl) rfl ?_
  refine fs_iloadn (j := 3) (by decide +kernel) rfl ?_
  refine fs_istore (j := 9) (L' := [some (.ref 231), some (.int x1), some (.int x2), some (.int x3), some (.int x4), some (.long y5), none, some (.long 0), none, some (.int x3), o10]) (by decide +kernel) (Nat.le_of_ble_eq_true rfl) rfl ?_
  exact nx
theorem b193_160 {d : Nat} {x1 : Int32} {x2 : Int32} {x3 : Int32} {x4 : Int32} {y5 : Int64} {y7 : Int64} {x9 : Int32} {o10 : Option Value} {S : fm_S} {r : Option Value × am_W} (kt : x4 < x9 → am_Ev d 193 185 [some (.ref 231), some (.int x1), some (.int x2), some (.int x3), some (.int x4), some (.long y5), none, some (.long y7), none, some (.int x9), o10] [] (fm_mk S) r) (kf : ¬ x4 < x9 → am_Ev d 193 167 [some (.ref 231), some (.int x1), some (.int x2), some (.int x3), some (.int x4), some (.long y5), none, some (.long y7), none, some (.int x9), o10] [] (fm_mk S) r) : am_Ev d 193 160 [some (.ref 231), some (.int x1), some (.int x2), some (.int x3), some (.int x4), some (.long y5), none, some (.long y7), none, some (.int x9), o10] [] (fm_mk S) r := by
  refine fs_iload (j := 9) (by decide +kernel) rfl ?_
  refine fs_iload (j := 4) (by decide +kernel) rfl ?_
  exact fs_icgt (off := 21) (tgt := 185) (by decide +kernel) (by decide) kt kf
theorem b193_167 {d : Nat} {x1 : Int32} {x2 : Int32} {x3 : Int32} {x4 : Int32} {y5 : Int64} {y7 : Int64} {x9 : Int32} {o10 : Option Value} {S : fm_S} {r : Option Value × am_W} (hi0 : vp_in x9 9) (nx : am_Ev d 193 160 [some (.ref 231), some (.int x1), some (.int x2), some (.int x3), some (.int x4), some (.long y5), none, some (.long (y7 + (S.2.1 243 x9.toNatClampNeg))), none, some (.int (x9 + 1)), o10] [] (fm_mk S) r) : am_Ev d 193 167 [some (.ref 231), some (.int x1), some (.int x2), some (.int x3), some (.int x4), some (.long y5), none, some (.long y7), none, some (.int x9), o10] [] (fm_mk S) r := by
  refine fs_lload (j := 7) (by decide +kernel) rfl ?_
  refine fs_aloadn (j := 0) (by decide +kernel) rfl ?_
  refine fe_getR (idx := 43) (t := 8) (f := 19) (fk := 2) (fin := 1) (wp := 962) (x := 243) (by decide +kernel) (by decide +kernel) (by decide +kernel) (by decide +kernel) (by decide +kernel) ?_
  refine fs_iload (j := 9) (by decide +kernel) rfl ?_
  refine fx_lald (n := x9.toNatClampNeg) (len := 9) (by decide +kernel) (by decide +kernel) (by decide +kernel) hi0 rfl ?_
  refine fs_ladd (by decide +kernel) ?_
  refine fs_lstore (j := 7) (L' := [some (.ref 231), some (.int x1), some (.int x2), some (.int x3), some (.int x4), some (.long y5), none, some (.long (y7 + (S.2.1 243 x9.toNatClampNeg))), none, some (.int x9), o10]) (by decide +kernel) (Nat.le_of_ble_eq_true rfl) rfl ?_
  refine fs_iinc (j := 9) (n := 1) (v := 1) (L' := [some (.ref 231), some (.int x1), some (.int x2), some (.int x3), some (.int x4), some (.long y5), none, some (.long (y7 + (S.2.1 243 x9.toNatClampNeg))), none, some (.int (x9 + 1)), o10]) (by decide +kernel) rfl (Nat.le_of_ble_eq_true rfl) (by decide) rfl ?_
  refine fs_goto (off := -22) (tgt := 160) (by decide +kernel) (by decide) ?_
  exact nx
theorem b193_185 {d : Nat} {x1 : Int32} {x2 : Int32} {x3 : Int32} {x4 : Int32} {y5 : Int64} {y7 : Int64} {x9 : Int32} {o10 : Option Value} {S : fm_S} {r : Option Value × am_W} (nx : am_Ev d 193 197 [some (.ref 231), some (.int x1), some (.int x2), some (.int x3), some (.int x4), some (.long y5), none, some (.long y7), none, some (.int x9), o10] [] (fm_mk (fm_wL (fm_wL S 231 6 y7) 231 7 y5)) r) : am_Ev d 193 185 [some (.ref 231), some (.int x1), some (.int x2), some (.int x3), some (.int x4), some (.long y5), none, some (.long y7), none, some (.int x9), o10] [] (fm_mk S) r := by
  refine fs_aloadn (j := 0) (by decide +kernel) rfl ?_
  refine fs_lload (j := 7) (by decide +kernel) rfl ?_
  refine fe_putL (idx := 230) (t := 8) (f := 6) (wp := 949) (by decide +kernel) (by decide +kernel) (by decide +kernel) (by decide +kernel) ?_
  refine fs_aloadn (j := 0) (by decide +kernel) rfl ?_
  refine fs_lload (j := 5) (by decide +kernel) rfl ?_
  refine fe_putL (idx := 47) (t := 8) (f := 7) (wp := 950) (by decide +kernel) (by decide +kernel) (by decide +kernel) (by decide +kernel) ?_
  exact nx
theorem b193_197 {d : Nat} {x1 : Int32} {x2 : Int32} {x3 : Int32} {x4 : Int32} {y5 : Int64} {y7 : Int64} {o9 : Option Value} {o10 : Option Value} {S : fm_S} {r : Option Value × am_W} (kt : (lg_cmp y5 0) = 0 → am_Ev d 193 222 [some (.ref 231), some (.int x1), some (.int x2), some (.int x3), some (.int x4), some (.long y5), none, some (.long y7), none, o9, o10] [] (fm_mk S) r) (kf : ¬ (lg_cmp y5 0) = 0 → am_Ev d 193 204 [some (.ref 231), some (.int x1), some (.int x2), some (.int x3), some (.int x4), some (.long y5), none, some (.long y7), none, o9, o10] [] (fm_mk S) r) : am_Ev d 193 197 [some (.ref 231), some (.int x1), some (.int x2), some (.int x3), some (.int x4), some (.long y5), none, some (.long y7), none, o9, o10] [] (fm_mk S) r := by
  refine fs_lload (j := 5) (by decide +kernel) rfl ?_
  refine fs_lconst (n := 0) (v := 0) (by decide +kernel) (by decide) ?_
  refine fs_lcmp (by decide +kernel) ?_
  exact fs_ifeq (off := 21) (tgt := 222) (by decide +kernel) (by decide) kt kf
theorem b193_204 {d : Nat} {x1 : Int32} {x2 : Int32} {x3 : Int32} {x4 : Int32} {y5 : Int64} {y7 : Int64} {o9 : Option Value} {o10 : Option Value} {S : fm_S} {r : Option Value × am_W} (hd0 : ¬ y5 = 0) (nx : am_Ev d 193 197 [some (.ref 231), some (.int x1), some (.int x2), some (.int x3), some (.int x4), some (.long (y7 - y7 / y5 * y5)), none, some (.long y5), none, some (.long (y7 - y7 / y5 * y5)), none] [] (fm_mk S) r) : am_Ev d 193 204 [some (.ref 231), some (.int x1), some (.int x2), some (.int x3), some (.int x4), some (.long y5), none, some (.long y7), none, o9, o10] [] (fm_mk S) r := by
  refine fs_lload (j := 7) (by decide +kernel) rfl ?_
  refine fs_lload (j := 5) (by decide +kernel) rfl ?_
  refine fe_lrem (by decide +kernel) hd0 ?_
  refine fs_lstore (j := 9) (L' := [some (.ref 231), some (.int x1), some (.int x2), some (.int x3), some (.int x4), some (.long y5), none, some (.long y7), none, some (.long (y7 - y7 / y5 * y5)), none]) (by decide +kernel) (Nat.le_of_ble_eq_true rfl) rfl ?_
  refine fs_lload (j := 5) (by decide +kernel) rfl ?_
  refine fs_lstore (j := 7) (L' := [some (.ref 231), some (.int x1), some (.int x2), some (.int x3), some (.int x4), some (.long y5), none, some (.long y5), none, some (.long (y7 - y7 / y5 * y5)), none]) (by decide +kernel) (Nat.le_of_ble_eq_true rfl) rfl ?_
  refine fs_lload (j := 9) (by decide +kernel) rfl ?_
  refine fs_lstore (j := 5) (L' := [some (.ref 231), some (.int x1), some (.int x2), some (.int x3), some (.int x4), some (.long (y7 - y7 / y5 * y5)), none, some (.long y5), none, some (.long (y7 - y7 / y5 * y5)), none]) (by decide +kernel) (Nat.le_of_ble_eq_true rfl) rfl ?_
  refine fs_goto (off := -22) (tgt := 197) (by decide +kernel) (by decide) ?_
  exact nx
theorem b193_222 {d : Nat} {x1 : Int32} {x2 : Int32} {x3 : Int32} {x4 : Int32} {y5 : Int64} {y7 : Int64} {o9 : Option Value} {o10 : Option Value} {S : fm_S}  (hd0 : ¬ y7 = 0) : am_Ev d 193 222 [some (.ref 231), some (.int x1), some (.int x2), some (.int x3), some (.int x4), some (.long y5), none, some (.long y7), none, o9, o10] [] (fm_mk S) (some (.int 1), fm_mk (fm_wL (fm_wL S 231 6 ((S.2.1 231 6) / y7)) 231 7 (((fm_wL S 231 6 ((S.2.1 231 6) / y7)).2.1 231 7) / y7))) := by
  refine fs_aloadn (j := 0) (by decide +kernel) rfl ?_
  refine fs_dup (by decide +kernel) rfl ?_
  refine fe_getL (idx := 230) (t := 8) (f := 6) (fk := 1) (fin := 0) (wp := 949) (by decide +kernel) (by decide +kernel) (by decide +kernel) (by decide +kernel) ?_
  refine fs_lload (j := 7) (by decide +kernel) rfl ?_
  refine fe_ldiv (by decide +kernel) hd0 ?_
  refine fe_putL (idx := 230) (t := 8) (f := 6) (wp := 949) (by decide +kernel) (by decide +kernel) (by decide +kernel) (by decide +kernel) ?_
  refine fs_aloadn (j := 0) (by decide +kernel) rfl ?_
  refine fs_dup (by decide +kernel) rfl ?_
  refine fe_getL (idx := 47) (t := 8) (f := 7) (fk := 1) (fin := 0) (wp := 950) (by decide +kernel) (by decide +kernel) (by decide +kernel) (by decide +kernel) ?_
  refine fs_lload (j := 7) (by decide +kernel) rfl ?_
  refine fe_ldiv (by decide +kernel) hd0 ?_
  refine fe_putL (idx := 47) (t := 8) (f := 7) (wp := 950) (by decide +kernel) (by decide +kernel) (by decide +kernel) (by decide +kernel) ?_
  refine fs_iconst (n := 1) (v := 1) (by decide +kernel) (by decide) ?_
  exact fe_retI (by decide +kernel) (by decide +kernel)
-- KitchenSiegeModel.sieges(II)I
theorem b194_0 {d : Nat} {x1 : Int32} {x2 : Int32} {o3 : Option Value} {o4 : Option Value} {o5 : Option Value} {v : Int32} {S1 : fm_S} {S : fm_S} {r : Option Value × am_W} (hc : am_Sp d 137 [.long x1.toInt64, .long 0, .long 999999] (fm_mk S) (some (.int v)) (fm_mk S1)) (nx : am_Ev (d + 1) 194 9 [some (.ref 231), some (.int x1), some (.int x2), o3, o4, o5] [.int v] (fm_mk S1) r) : am_Ev (d + 1) 194 0 [some (.ref 231), some (.int x1), some (.int x2), o3, o4, o5] [] (fm_mk S) r := by
  refine fs_iloadn (j := 1) (by decide +kernel) rfl ?_
  refine fs_i2l (by decide +kernel) ?_
  refine fs_lconst (n := 0) (v := 0) (by decide +kernel) (by decide) ?_
  refine fs_ldc2 (idx := 233) (q := 1257) (v := 999999) (by decide +kernel) (by decide +kernel) ?_
  exact fe_callS (idx := 67) (kd := 0) (n := 3) (wp := 1014) (q := (1015, 0)) (as := [.long x1.toInt64, .long 0, .long 999999]) (rs := []) (by decide +kernel) (by decide +kernel) (by decide +kernel) (by decide) rfl (Nat.le_of_ble_eq_true rfl) rfl hc nx
theorem b194_9 {d : Nat} {x1 : Int32} {x2 : Int32} {o3 : Option Value} {o4 : Option Value} {o5 : Option Value} {sx0 : Int32} {S : fm_S} {r : Option Value × am_W} (kt : sx0 = 0 → am_Ev d 194 24 [some (.ref 231), some (.int x1), some (.int x2), o3, o4, o5] [] (fm_mk S) r) (kf : ¬ sx0 = 0 → am_Ev d 194 12 [some (.ref 231), some (.int x1), some (.int x2), o3, o4, o5] [] (fm_mk S) r) : am_Ev d 194 9 [some (.ref 231), some (.int x1), some (.int x2), o3, o4, o5] [.int sx0] (fm_mk S) r := by
  exact fs_ifeq (off := 15) (tgt := 24) (by decide +kernel) (by decide) kt kf
theorem b194_12 {d : Nat} {x1 : Int32} {x2 : Int32} {o3 : Option Value} {o4 : Option Value} {o5 : Option Value} {v : Int32} {S1 : fm_S} {S : fm_S} {r : Option Value × am_W} (hc : am_Sp d 137 [.long x2.toInt64, .long 0, .long 60] (fm_mk S) (some (.int v)) (fm_mk S1)) (nx : am_Ev (d + 1) 194 21 [some (.ref 231), some (.int x1), some (.int x2), o3, o4, o5] [.int v] (fm_mk S1) r) : am_Ev (d + 1) 194 12 [some (.ref 231), some (.int x1), some (.int x2), o3, o4, o5] [] (fm_mk S) r := by
  refine fs_iloadn (j := 2) (by decide +kernel) rfl ?_
  refine fs_i2l (by decide +kernel) ?_
  refine fs_lconst (n := 0) (v := 0) (by decide +kernel) (by decide) ?_
  refine fs_ldc2 (idx := 219) (q := 1225) (v := 60) (by decide +kernel) (by decide +kernel) ?_
  exact fe_callS (idx := 67) (kd := 0) (n := 3) (wp := 1014) (q := (1015, 0)) (as := [.long x2.toInt64, .long 0, .long 60]) (rs := []) (by decide +kernel) (by decide +kernel) (by decide +kernel) (by decide) rfl (Nat.le_of_ble_eq_true rfl) rfl hc nx
theorem b194_21 {d : Nat} {x1 : Int32} {x2 : Int32} {o3 : Option Value} {o4 : Option Value} {o5 : Option Value} {sx0 : Int32} {S : fm_S} {r : Option Value × am_W} (kt : ¬ sx0 = 0 → am_Ev d 194 29 [some (.ref 231), some (.int x1), some (.int x2), o3, o4, o5] [] (fm_mk S) r) (kf : sx0 = 0 → am_Ev d 194 24 [some (.ref 231), some (.int x1), some (.int x2), o3, o4, o5] [] (fm_mk S) r) : am_Ev d 194 21 [some (.ref 231), some (.int x1), some (.int x2), o3, o4, o5] [.int sx0] (fm_mk S) r := by
  exact fs_ifne (off := 8) (tgt := 29) (by decide +kernel) (by decide) kt kf
theorem b194_24 {d : Nat} {x1 : Int32} {x2 : Int32} {o3 : Option Value} {o4 : Option Value} {o5 : Option Value} {v : Int32} {S1 : fm_S} {S : fm_S} {r : Option Value × am_W} (hc : am_Sp d 138 [.ref 231] (fm_mk S) (some (.int v)) (fm_mk S1)) (nx : am_Ev (d + 1) 194 28 [some (.ref 231), some (.int x1), some (.int x2), o3, o4, o5] [.int v] (fm_mk S1) r) : am_Ev (d + 1) 194 24 [some (.ref 231), some (.int x1), some (.int x2), o3, o4, o5] [] (fm_mk S) r := by
  refine fs_aloadn (j := 0) (by decide +kernel) rfl ?_
  exact fe_callV (idx := 73) (n := 0) (wp := 1018) (q := (1020, 31)) (as := []) (rs := []) (by decide +kernel) (by decide +kernel) (by decide +kernel) (by decide +kernel) rfl (Nat.le_of_ble_eq_true rfl) rfl hc nx
theorem b194_28 {d : Nat} {x1 : Int32} {x2 : Int32} {o3 : Option Value} {o4 : Option Value} {o5 : Option Value} {sx0 : Int32} {S : fm_S}  : am_Ev d 194 28 [some (.ref 231), some (.int x1), some (.int x2), o3, o4, o5] [.int sx0] (fm_mk S) (some (.int sx0), fm_mk S) := by
  exact fe_retI (by decide +kernel) (by decide +kernel)
theorem b194_29 {d : Nat} {x1 : Int32} {x2 : Int32} {o3 : Option Value} {o4 : Option Value} {o5 : Option Value} {S1 : fm_S} {S : fm_S} {r : Option Value × am_W} (hc : am_Sp d 163 [.ref 232, .ref 239, .int 0, .int 0] (fm_mk S) (none) (fm_mk S1)) (nx : am_Ev (d + 1) 194 42 [some (.ref 231), some (.int x1), some (.int x2), o3, o4, o5] [] (fm_mk S1) r) : am_Ev (d + 1) 194 29 [some (.ref 231), some (.int x1), some (.int x2), o3, o4, o5] [] (fm_mk S) r := by
  refine fs_aloadn (j := 0) (by decide +kernel) rfl ?_
  refine fe_getR (idx := 7) (t := 8) (f := 0) (fk := 2) (fin := 1) (wp := 943) (x := 232) (by decide +kernel) (by decide +kernel) (by decide +kernel) (by decide +kernel) (by decide +kernel) ?_
  refine fs_aloadn (j := 0) (by decide +kernel) rfl ?_
  refine fe_getR (idx := 31) (t := 8) (f := 15) (fk := 2) (fin := 1) (wp := 958) (x := 239) (by decide +kernel) (by decide +kernel) (by decide +kernel) (by decide +kernel) (by decide +kernel) ?_
  refine fs_iconst (n := 0) (v := 0) (by decide +kernel) (by decide) ?_
  refine fs_iconst (n := 0) (v := 0) (by decide +kernel) (by decide) ?_
  exact fe_callS (idx := 194) (kd := 0) (n := 4) (wp := 1129) (q := (1130, 0)) (as := [.ref 232, .ref 239, .int 0, .int 0]) (rs := []) (by decide +kernel) (by decide +kernel) (by decide +kernel) (by decide) rfl (Nat.le_of_ble_eq_true rfl) rfl hc nx
theorem b194_42 {d : Nat} {x1 : Int32} {x2 : Int32} {o3 : Option Value} {o4 : Option Value} {o5 : Option Value} {S : fm_S} {r : Option Value × am_W} (nx : am_Ev d 194 48 [some (.ref 231), some (.int x1), some (.int x2), some (.long x1.toInt64), none, some (.int 0)] [] (fm_mk S) r) : am_Ev d 194 42 [some (.ref 231), some (.int x1), some (.int x2), o3, o4, o5] [] (fm_mk S) r := by
  refine fs_iloadn (j := 1) (by decide +kernel) rfl ?_
  refine fs_i2l (by decide +kernel) ?_
  refine fs_lstoren (j := 3) (L' := [some (.ref 231), some (.int x1), some (.int x2), some (.long x1.toInt64), none, o5]) (by decide +kernel) (Nat.le_of_ble_eq_true rfl) rfl ?_
  refine fs_iconst (n := 0) (v := 0) (by decide +kernel) (by decide) ?_
  refine fs_istore (j := 5) (L' := [some (.ref 231), some (.int x1), some (.int x2), some (.long x1.toInt64), none, some (.int 0)]) (by decide +kernel) (Nat.le_of_ble_eq_true rfl) rfl ?_
  exact nx
theorem b194_48 {d : Nat} {x1 : Int32} {x2 : Int32} {y3 : Int64} {x5 : Int32} {S : fm_S} {r : Option Value × am_W} (kt : x2 ≤ x5 → am_Ev d 194 89 [some (.ref 231), some (.int x1), some (.int x2), some (.long y3), none, some (.int x5)] [] (fm_mk S) r) (kf : ¬ x2 ≤ x5 → am_Ev d 194 54 [some (.ref 231), some (.int x1), some (.int x2), some (.long y3), none, some (.int x5)] [] (fm_mk S) r) : am_Ev d 194 48 [some (.ref 231), some (.int x1), some (.int x2), some (.long y3), none, some (.int x5)] [] (fm_mk S) r := by
  refine fs_iload (j := 5) (by decide +kernel) rfl ?_
  refine fs_iloadn (j := 2) (by decide +kernel) rfl ?_
  exact fs_icge (off := 38) (tgt := 89) (by decide +kernel) (by decide) kt kf
theorem b194_54 {d : Nat} {x1 : Int32} {x2 : Int32} {y3 : Int64} {x5 : Int32} {v : Int32} {S1 : fm_S} {S : fm_S} {r : Option Value × am_W} (hc : am_Sp d 164 [.ref 231, .int ((((((y3 * 1103515245) + 12345) - ((y3 * 1103515245) + 12345) / 2147483648 * 2147483648) / 65536) - ((((y3 * 1103515245) + 12345) - ((y3 * 1103515245) + 12345) / 2147483648 * 2147483648) / 65536) / 7 * 7).toInt32)] (fm_mk S) (some (.int v)) (fm_mk S1)) (nx : am_Ev (d + 1) 194 82 [some (.ref 231), some (.int x1), some (.int x2), some (.long (((y3 * 1103515245) + 12345) - ((y3 * 1103515245) + 12345) / 2147483648 * 2147483648)), none, some (.int x5)] [.int v] (fm_mk S1) r) : am_Ev (d + 1) 194 54 [some (.ref 231), some (.int x1), some (.int x2), some (.long y3), none, some (.int x5)] [] (fm_mk S) r := by
  refine fs_lloadn (j := 3) (by decide +kernel) rfl ?_
  refine fs_ldc2 (idx := 235) (q := 1258) (v := 1103515245) (by decide +kernel) (by decide +kernel) ?_
  refine fs_lmul (by decide +kernel) ?_
  refine fs_ldc2 (idx := 237) (q := 1259) (v := 12345) (by decide +kernel) (by decide +kernel) ?_
  refine fs_ladd (by decide +kernel) ?_
  refine fs_ldc2 (idx := 239) (q := 1260) (v := 2147483648) (by decide +kernel) (by decide +kernel) ?_
  refine fe_lrem (by decide +kernel) (by decide) ?_
  refine fs_lstoren (j := 3) (L' := [some (.ref 231), some (.int x1), some (.int x2), some (.long (((y3 * 1103515245) + 12345) - ((y3 * 1103515245) + 12345) / 2147483648 * 2147483648)), none, some (.int x5)]) (by decide +kernel) (Nat.le_of_ble_eq_true rfl) rfl ?_
  refine fs_aloadn (j := 0) (by decide +kernel) rfl ?_
  refine fs_lloadn (j := 3) (by decide +kernel) rfl ?_
  refine fs_ldc2 (idx := 241) (q := 1261) (v := 65536) (by decide +kernel) (by decide +kernel) ?_
  refine fe_ldiv (by decide +kernel) (by decide) ?_
  refine fs_ldc2 (idx := 243) (q := 1262) (v := 7) (by decide +kernel) (by decide +kernel) ?_
  refine fe_lrem (by decide +kernel) (by decide) ?_
  refine fs_l2i (by decide +kernel) ?_
  exact fe_callV (idx := 198) (n := 1) (wp := 1132) (q := (1134, 44)) (as := [.int ((((((y3 * 1103515245) + 12345) - ((y3 * 1103515245) + 12345) / 2147483648 * 2147483648) / 65536) - ((((y3 * 1103515245) + 12345) - ((y3 * 1103515245) + 12345) / 2147483648 * 2147483648) / 65536) / 7 * 7).toInt32)]) (rs := []) (by decide +kernel) (by decide +kernel) (by decide +kernel) (by decide +kernel) rfl (Nat.le_of_ble_eq_true rfl) rfl hc nx
theorem b194_82 {d : Nat} {x1 : Int32} {x2 : Int32} {y3 : Int64} {x5 : Int32} {sx0 : Int32} {S : fm_S} {r : Option Value × am_W} (nx : am_Ev d 194 48 [some (.ref 231), some (.int x1), some (.int x2), some (.long y3), none, some (.int (x5 + 1))] [] (fm_mk S) r) : am_Ev d 194 82 [some (.ref 231), some (.int x1), some (.int x2), some (.long y3), none, some (.int x5)] [.int sx0] (fm_mk S) r := by
  refine fs_pop (by decide +kernel) rfl ?_
  refine fs_iinc (j := 5) (n := 1) (v := 1) (L' := [some (.ref 231), some (.int x1), some (.int x2), some (.long y3), none, some (.int (x5 + 1))]) (by decide +kernel) rfl (Nat.le_of_ble_eq_true rfl) (by decide) rfl ?_
  refine fs_goto (off := -38) (tgt := 48) (by decide +kernel) (by decide) ?_
  exact nx
theorem b194_89 {d : Nat} {x1 : Int32} {x2 : Int32} {y3 : Int64} {x5 : Int32} {v : Int32} {S1 : fm_S} {S : fm_S} {r : Option Value × am_W} (hc : am_Sp d 195 [.ref 231] (fm_mk S) (some (.int v)) (fm_mk S1)) (nx : am_Ev (d + 1) 194 93 [some (.ref 231), some (.int x1), some (.int x2), some (.long y3), none, some (.int x5)] [.int v] (fm_mk S1) r) : am_Ev (d + 1) 194 89 [some (.ref 231), some (.int x1), some (.int x2), some (.long y3), none, some (.int x5)] [] (fm_mk S) r := by
  refine fs_aloadn (j := 0) (by decide +kernel) rfl ?_
  exact fe_callV (idx := 245) (n := 0) (wp := 1263) (q := (1265, 55)) (as := []) (rs := []) (by decide +kernel) (by decide +kernel) (by decide +kernel) (by decide +kernel) rfl (Nat.le_of_ble_eq_true rfl) rfl hc nx
theorem b194_93 {d : Nat} {x1 : Int32} {x2 : Int32} {y3 : Int64} {x5 : Int32} {sx0 : Int32} {S1 : fm_S} {S : fm_S} {r : Option Value × am_W} (hc : am_Sp d 163 [.ref 239, .ref 232, .int 0, .int 1] (fm_mk S) (none) (fm_mk S1)) (nx : am_Ev (d + 1) 194 108 [some (.ref 231), some (.int x1), some (.int x2), some (.long y3), none, some (.int sx0)] [] (fm_mk S1) r) : am_Ev (d + 1) 194 93 [some (.ref 231), some (.int x1), some (.int x2), some (.long y3), none, some (.int x5)] [.int sx0] (fm_mk S) r := by
  refine fs_istore (j := 5) (L' := [some (.ref 231), some (.int x1), some (.int x2), some (.long y3), none, some (.int sx0)]) (by decide +kernel) (Nat.le_of_ble_eq_true rfl) rfl ?_
  refine fs_aloadn (j := 0) (by decide +kernel) rfl ?_
  refine fe_getR (idx := 31) (t := 8) (f := 15) (fk := 2) (fin := 1) (wp := 958) (x := 239) (by decide +kernel) (by decide +kernel) (by decide +kernel) (by decide +kernel) (by decide +kernel) ?_
  refine fs_aloadn (j := 0) (by decide +kernel) rfl ?_
  refine fe_getR (idx := 7) (t := 8) (f := 0) (fk := 2) (fin := 1) (wp := 943) (x := 232) (by decide +kernel) (by decide +kernel) (by decide +kernel) (by decide +kernel) (by decide +kernel) ?_
  refine fs_iconst (n := 0) (v := 0) (by decide +kernel) (by decide) ?_
  refine fs_iconst (n := 1) (v := 1) (by decide +kernel) (by decide) ?_
  exact fe_callS (idx := 194) (kd := 0) (n := 4) (wp := 1129) (q := (1130, 0)) (as := [.ref 239, .ref 232, .int 0, .int 1]) (rs := []) (by decide +kernel) (by decide +kernel) (by decide +kernel) (by decide) rfl (Nat.le_of_ble_eq_true rfl) rfl hc nx
theorem b194_108 {d : Nat} {x1 : Int32} {x2 : Int32} {y3 : Int64} {x5 : Int32} {S : fm_S}  : am_Ev d 194 108 [some (.ref 231), some (.int x1), some (.int x2), some (.long y3), none, some (.int x5)] [] (fm_mk S) (some (.int x5), fm_mk S) := by
  refine fs_iload (j := 5) (by decide +kernel) rfl ?_
  exact fe_retI (by decide +kernel) (by decide +kernel)
-- KitchenSiegeModel.openMany()I
theorem b195_0 {d : Nat} {o1 : Option Value} {o2 : Option Value} {S : fm_S} {r : Option Value × am_W} (nx : am_Ev d 195 4 [some (.ref 231), some (.int 0), some (.int 0)] [] (fm_mk S) r) : am_Ev d 195 0 [some (.ref 231), o1, o2] [] (fm_mk S) r := by
  refine fs_iconst (n := 0) (v := 0) (by decide +kernel) (by decide) ?_
  refine fs_istoren (j := 1) (L' := [some (.ref 231), some (.int 0), o2]) (by decide +kernel) (Nat.le_of_ble_eq_true rfl) rfl ?_
  refine fs_iconst (n := 0) (v := 0) (by decide +kernel) (by decide) ?_
  refine fs_istoren (j := 2) (L' := [some (.ref 231), some (.int 0), some (.int 0)]) (by decide +kernel) (Nat.le_of_ble_eq_true rfl) rfl ?_
  exact nx
theorem b195_4 {d : Nat} {x1 : Int32} {x2 : Int32} {S : fm_S} {r : Option Value × am_W} (kt : (S.1 232 0) ≤ x2 → am_Ev d 195 41 [some (.ref 231), some (.int x1), some (.int x2)] [] (fm_mk S) r) (kf : ¬ (S.1 232 0) ≤ x2 → am_Ev d 195 14 [some (.ref 231), some (.int x1), some (.int x2)] [] (fm_mk S) r) : am_Ev d 195 4 [some (.ref 231), some (.int x1), some (.int x2)] [] (fm_mk S) r := by
  refine fs_iloadn (j := 2) (by decide +kernel) rfl ?_
  refine fs_aloadn (j := 0) (by decide +kernel) rfl ?_
  refine fe_getR (idx := 7) (t := 8) (f := 0) (fk := 2) (fin := 1) (wp := 943) (x := 232) (by decide +kernel) (by decide +kernel) (by decide +kernel) (by decide +kernel) (by decide +kernel) ?_
  refine fs_iconst (n := 0) (v := 0) (by decide +kernel) (by decide) ?_
  refine fx_iald (n := 0) (len := 373) (by decide +kernel) (by decide +kernel) (by decide +kernel) (vp_c (by decide) (by decide)) (by decide) ?_
  exact fs_icge (off := 30) (tgt := 41) (by decide +kernel) (by decide) kt kf
theorem b195_14 {d : Nat} {x1 : Int32} {x2 : Int32} {S : fm_S} {r : Option Value × am_W} (hi0 : vp_in (29 + x2) 373) (kt : (S.1 232 ((29 + x2).toNatClampNeg)) = (-1) → am_Ev d 195 32 [some (.ref 231), some (.int x1), some (.int x2)] [.int x1] (fm_mk S) r) (kf : ¬ (S.1 232 ((29 + x2).toNatClampNeg)) = (-1) → am_Ev d 195 28 [some (.ref 231), some (.int x1), some (.int x2)] [.int x1] (fm_mk S) r) : am_Ev d 195 14 [some (.ref 231), some (.int x1), some (.int x2)] [] (fm_mk S) r := by
  refine fs_iloadn (j := 1) (by decide +kernel) rfl ?_
  refine fs_aloadn (j := 0) (by decide +kernel) rfl ?_
  refine fe_getR (idx := 7) (t := 8) (f := 0) (fk := 2) (fin := 1) (wp := 943) (x := 232) (by decide +kernel) (by decide +kernel) (by decide +kernel) (by decide +kernel) (by decide +kernel) ?_
  refine fs_bipush (n := 29) (v := 29) (by decide +kernel) (by decide) ?_
  refine fs_iloadn (j := 2) (by decide +kernel) rfl ?_
  refine fs_iadd (by decide +kernel) ?_
  refine fx_iald (n := (29 + x2).toNatClampNeg) (len := 373) (by decide +kernel) (by decide +kernel) (by decide +kernel) hi0 rfl ?_
  refine fs_iconst (n := -1) (v := (-1)) (by decide +kernel) (by decide) ?_
  exact fs_iceq (off := 7) (tgt := 32) (by decide +kernel) (by decide) kt kf
theorem b195_28 {d : Nat} {x1 : Int32} {x2 : Int32} {sx0 : Int32} {S : fm_S} {r : Option Value × am_W} (nx : am_Ev d 195 33 [some (.ref 231), some (.int x1), some (.int x2)] [.int 1, .int sx0] (fm_mk S) r) : am_Ev d 195 28 [some (.ref 231), some (.int x1), some (.int x2)] [.int sx0] (fm_mk S) r := by
  refine fs_iconst (n := 1) (v := 1) (by decide +kernel) (by decide) ?_
  refine fs_goto (off := 4) (tgt := 33) (by decide +kernel) (by decide) ?_
  exact nx
theorem b195_32 {d : Nat} {x1 : Int32} {x2 : Int32} {sx0 : Int32} {S : fm_S} {r : Option Value × am_W} (nx : am_Ev d 195 33 [some (.ref 231), some (.int x1), some (.int x2)] [.int 0, .int sx0] (fm_mk S) r) : am_Ev d 195 32 [some (.ref 231), some (.int x1), some (.int x2)] [.int sx0] (fm_mk S) r := by
  refine fs_iconst (n := 0) (v := 0) (by decide +kernel) (by decide) ?_
  exact nx
theorem b195_33 {d : Nat} {x1 : Int32} {x2 : Int32} {sx0 : Int32} {sx1 : Int32} {S : fm_S} {r : Option Value × am_W} (nx : am_Ev d 195 4 [some (.ref 231), some (.int (sx0 + sx1)), some (.int (x2 + 1))] [] (fm_mk S) r) : am_Ev d 195 33 [some (.ref 231), some (.int x1), some (.int x2)] [.int sx1, .int sx0] (fm_mk S) r := by
  refine fs_iadd (by decide +kernel) ?_
  refine fs_istoren (j := 1) (L' := [some (.ref 231), some (.int (sx0 + sx1)), some (.int x2)]) (by decide +kernel) (Nat.le_of_ble_eq_true rfl) rfl ?_
  refine fs_iinc (j := 2) (n := 1) (v := 1) (L' := [some (.ref 231), some (.int (sx0 + sx1)), some (.int (x2 + 1))]) (by decide +kernel) rfl (Nat.le_of_ble_eq_true rfl) (by decide) rfl ?_
  refine fs_goto (off := -34) (tgt := 4) (by decide +kernel) (by decide) ?_
  exact nx
theorem b195_41 {d : Nat} {x1 : Int32} {x2 : Int32} {S : fm_S}  : am_Ev d 195 41 [some (.ref 231), some (.int x1), some (.int x2)] [] (fm_mk S) (some (.int x1), fm_mk S) := by
  refine fs_iloadn (j := 1) (by decide +kernel) rfl ?_
  exact fe_retI (by decide +kernel) (by decide +kernel)
-- KitchenSiegeModel.part(I)J
theorem b196_0 {d : Nat} {x1 : Int32} {v : Int32} {S1 : fm_S} {S : fm_S} {r : Option Value × am_W} (hc : am_Sp d 137 [.long x1.toInt64, .long 0, .long 1] (fm_mk S) (some (.int v)) (fm_mk S1)) (nx : am_Ev (d + 1) 196 7 [some (.ref 231), some (.int x1)] [.int v] (fm_mk S1) r) : am_Ev (d + 1) 196 0 [some (.ref 231), some (.int x1)] [] (fm_mk S) r := by
  refine fs_iloadn (j := 1) (by decide +kernel) rfl ?_
  refine fs_i2l (by decide +kernel) ?_
  refine fs_lconst (n := 0) (v := 0) (by decide +kernel) (by decide) ?_
  refine fs_lconst (n := 1) (v := 1) (by decide +kernel) (by decide) ?_
  exact fe_callS (idx := 67) (kd := 0) (n := 3) (wp := 1014) (q := (1015, 0)) (as := [.long x1.toInt64, .long 0, .long 1]) (rs := []) (by decide +kernel) (by decide +kernel) (by decide +kernel) (by decide) rfl (Nat.le_of_ble_eq_true rfl) rfl hc nx
theorem b196_7 {d : Nat} {x1 : Int32} {sx0 : Int32} {S : fm_S} {r : Option Value × am_W} (kt : ¬ sx0 = 0 → am_Ev d 196 18 [some (.ref 231), some (.int x1)] [] (fm_mk S) r) (kf : sx0 = 0 → am_Ev d 196 10 [some (.ref 231), some (.int x1)] [] (fm_mk S) r) : am_Ev d 196 7 [some (.ref 231), some (.int x1)] [.int sx0] (fm_mk S) r := by
  exact fs_ifne (off := 11) (tgt := 18) (by decide +kernel) (by decide) kt kf
theorem b196_10 {d : Nat} {x1 : Int32} {v : Int32} {S1 : fm_S} {S : fm_S} {r : Option Value × am_W} (hc : am_Sp d 138 [.ref 231] (fm_mk S) (some (.int v)) (fm_mk S1)) (nx : am_Ev (d + 1) 196 14 [some (.ref 231), some (.int x1)] [.int v] (fm_mk S1) r) : am_Ev (d + 1) 196 10 [some (.ref 231), some (.int x1)] [] (fm_mk S) r := by
  refine fs_aloadn (j := 0) (by decide +kernel) rfl ?_
  exact fe_callV (idx := 73) (n := 0) (wp := 1018) (q := (1020, 31)) (as := []) (rs := []) (by decide +kernel) (by decide +kernel) (by decide +kernel) (by decide +kernel) rfl (Nat.le_of_ble_eq_true rfl) rfl hc nx
theorem b196_14 {d : Nat} {x1 : Int32} {sx0 : Int32} {S : fm_S} {r : Option Value × am_W} (nx : am_Ev d 196 33 [some (.ref 231), some (.int x1)] [.long sx0.toInt64] (fm_mk S) r) : am_Ev d 196 14 [some (.ref 231), some (.int x1)] [.int sx0] (fm_mk S) r := by
  refine fs_i2l (by decide +kernel) ?_
  refine fs_goto (off := 18) (tgt := 33) (by decide +kernel) (by decide) ?_
  exact nx
theorem b196_18 {d : Nat} {x1 : Int32} {S : fm_S} {r : Option Value × am_W} (kt : ¬ x1 = 0 → am_Ev d 196 29 [some (.ref 231), some (.int x1)] [] (fm_mk S) r) (kf : x1 = 0 → am_Ev d 196 22 [some (.ref 231), some (.int x1)] [] (fm_mk S) r) : am_Ev d 196 18 [some (.ref 231), some (.int x1)] [] (fm_mk S) r := by
  refine fs_iloadn (j := 1) (by decide +kernel) rfl ?_
  exact fs_ifne (off := 10) (tgt := 29) (by decide +kernel) (by decide) kt kf
theorem b196_22 {d : Nat} {x1 : Int32} {S : fm_S} {r : Option Value × am_W} (nx : am_Ev d 196 33 [some (.ref 231), some (.int x1)] [.long (S.2.1 231 6)] (fm_mk S) r) : am_Ev d 196 22 [some (.ref 231), some (.int x1)] [] (fm_mk S) r := by
  refine fs_aloadn (j := 0) (by decide +kernel) rfl ?_
  refine fe_getL (idx := 230) (t := 8) (f := 6) (fk := 1) (fin := 0) (wp := 949) (by decide +kernel) (by decide +kernel) (by decide +kernel) (by decide +kernel) ?_
  refine fs_goto (off := 7) (tgt := 33) (by decide +kernel) (by decide) ?_
  exact nx
theorem b196_29 {d : Nat} {x1 : Int32} {S : fm_S} {r : Option Value × am_W} (nx : am_Ev d 196 33 [some (.ref 231), some (.int x1)] [.long (S.2.1 231 7)] (fm_mk S) r) : am_Ev d 196 29 [some (.ref 231), some (.int x1)] [] (fm_mk S) r := by
  refine fs_aloadn (j := 0) (by decide +kernel) rfl ?_
  refine fe_getL (idx := 47) (t := 8) (f := 7) (fk := 1) (fin := 0) (wp := 950) (by decide +kernel) (by decide +kernel) (by decide +kernel) (by decide +kernel) ?_
  exact nx
theorem b196_33 {d : Nat} {x1 : Int32} {sy0 : Int64} {S : fm_S}  : am_Ev d 196 33 [some (.ref 231), some (.int x1)] [.long sy0] (fm_mk S) (some (.long sy0), fm_mk S) := by
  exact fe_retL (by decide +kernel) (by decide +kernel)
-- KitchenSiegeModel.image(I)I
theorem b197_0 {d : Nat} {x1 : Int32} {o2 : Option Value} {v : Int32} {S1 : fm_S} {S : fm_S} {r : Option Value × am_W} (hc : am_Sp d 137 [.long x1.toInt64, .long 0, .long 1] (fm_mk S) (some (.int v)) (fm_mk S1)) (nx : am_Ev (d + 1) 197 7 [some (.ref 231), some (.int x1), o2] [.int v] (fm_mk S1) r) : am_Ev (d + 1) 197 0 [some (.ref 231), some (.int x1), o2] [] (fm_mk S) r := by
  refine fs_iloadn (j := 1) (by decide +kernel) rfl ?_
  refine fs_i2l (by decide +kernel) ?_
  refine fs_lconst (n := 0) (v := 0) (by decide +kernel) (by decide) ?_
  refine fs_lconst (n := 1) (v := 1) (by decide +kernel) (by decide) ?_
  exact fe_callS (idx := 67) (kd := 0) (n := 3) (wp := 1014) (q := (1015, 0)) (as := [.long x1.toInt64, .long 0, .long 1]) (rs := []) (by decide +kernel) (by decide +kernel) (by decide +kernel) (by decide) rfl (Nat.le_of_ble_eq_true rfl) rfl hc nx
theorem b197_7 {d : Nat} {x1 : Int32} {o2 : Option Value} {sx0 : Int32} {S : fm_S} {r : Option Value × am_W} (kt : ¬ sx0 = 0 → am_Ev d 197 15 [some (.ref 231), some (.int x1), o2] [] (fm_mk S) r) (kf : sx0 = 0 → am_Ev d 197 10 [some (.ref 231), some (.int x1), o2] [] (fm_mk S) r) : am_Ev d 197 7 [some (.ref 231), some (.int x1), o2] [.int sx0] (fm_mk S) r := by
  exact fs_ifne (off := 8) (tgt := 15) (by decide +kernel) (by decide) kt kf
theorem b197_10 {d : Nat} {x1 : Int32} {o2 : Option Value} {v : Int32} {S1 : fm_S} {S : fm_S} {r : Option Value × am_W} (hc : am_Sp d 138 [.ref 231] (fm_mk S) (some (.int v)) (fm_mk S1)) (nx : am_Ev (d + 1) 197 14 [some (.ref 231), some (.int x1), o2] [.int v] (fm_mk S1) r) : am_Ev (d + 1) 197 10 [some (.ref 231), some (.int x1), o2] [] (fm_mk S) r := by
  refine fs_aloadn (j := 0) (by decide +kernel) rfl ?_
  exact fe_callV (idx := 73) (n := 0) (wp := 1018) (q := (1020, 31)) (as := []) (rs := []) (by decide +kernel) (by decide +kernel) (by decide +kernel) (by decide +kernel) rfl (Nat.le_of_ble_eq_true rfl) rfl hc nx
theorem b197_14 {d : Nat} {x1 : Int32} {o2 : Option Value} {sx0 : Int32} {S : fm_S}  : am_Ev d 197 14 [some (.ref 231), some (.int x1), o2] [.int sx0] (fm_mk S) (some (.int sx0), fm_mk S) := by
  exact fe_retI (by decide +kernel) (by decide +kernel)
theorem b197_15 {d : Nat} {x1 : Int32} {o2 : Option Value} {S : fm_S} {r : Option Value × am_W} (nx : am_Ev d 197 17 [some (.ref 231), some (.int x1), some (.int 0)] [] (fm_mk S) r) : am_Ev d 197 15 [some (.ref 231), some (.int x1), o2] [] (fm_mk S) r := by
  refine fs_iconst (n := 0) (v := 0) (by decide +kernel) (by decide) ?_
  refine fs_istoren (j := 2) (L' := [some (.ref 231), some (.int x1), some (.int 0)]) (by decide +kernel) (Nat.le_of_ble_eq_true rfl) rfl ?_
  exact nx
theorem b197_17 {d : Nat} {x1 : Int32} {x2 : Int32} {S : fm_S} {r : Option Value × am_W} (kt : 373 ≤ x2 → am_Ev d 197 48 [some (.ref 231), some (.int x1), some (.int x2)] [] (fm_mk S) r) (kf : ¬ 373 ≤ x2 → am_Ev d 197 24 [some (.ref 231), some (.int x1), some (.int x2)] [] (fm_mk S) r) : am_Ev d 197 17 [some (.ref 231), some (.int x1), some (.int x2)] [] (fm_mk S) r := by
  refine fs_iloadn (j := 2) (by decide +kernel) rfl ?_
  refine fs_sipush (n := 373) (v := 373) (by decide +kernel) (by decide) ?_
  exact fs_icge (off := 27) (tgt := 48) (by decide +kernel) (by decide) kt kf
theorem b197_24 {d : Nat} {x1 : Int32} {x2 : Int32} {S : fm_S} {r : Option Value × am_W} (hi0 : vp_in x2 373) (hi1 : vp_in ((373 * x1) + x2) 746) (nx : am_Ev d 197 17 [some (.ref 231), some (.int x1), some (.int (x2 + 1))] [] (fm_mk (fm_wI S 234 (((373 * x1) + x2).toNatClampNeg) (S.1 232 x2.toNatClampNeg))) r) : am_Ev d 197 24 [some (.ref 231), some (.int x1), some (.int x2)] [] (fm_mk S) r := by
  refine fs_aloadn (j := 0) (by decide +kernel) rfl ?_
  refine fe_getR (idx := 16) (t := 8) (f := 2) (fk := 2) (fin := 1) (wp := 945) (x := 234) (by decide +kernel) (by decide +kernel) (by decide +kernel) (by decide +kernel) (by decide +kernel) ?_
  refine fs_sipush (n := 373) (v := 373) (by decide +kernel) (by decide) ?_
  refine fs_iloadn (j := 1) (by decide +kernel) rfl ?_
  refine fs_imul (by decide +kernel) ?_
  refine fs_iloadn (j := 2) (by decide +kernel) rfl ?_
  refine fs_iadd (by decide +kernel) ?_
  refine fs_aloadn (j := 0) (by decide +kernel) rfl ?_
  refine fe_getR (idx := 7) (t := 8) (f := 0) (fk := 2) (fin := 1) (wp := 943) (x := 232) (by decide +kernel) (by decide +kernel) (by decide +kernel) (by decide +kernel) (by decide +kernel) ?_
  refine fs_iloadn (j := 2) (by decide +kernel) rfl ?_
  refine fx_iald (n := x2.toNatClampNeg) (len := 373) (by decide +kernel) (by decide +kernel) (by decide +kernel) hi0 rfl ?_
  refine fx_iast (n := ((373 * x1) + x2).toNatClampNeg) (len := 746) (by decide +kernel) (by decide +kernel) (by decide +kernel) hi1 rfl ?_
  refine fs_iinc (j := 2) (n := 1) (v := 1) (L' := [some (.ref 231), some (.int x1), some (.int (x2 + 1))]) (by decide +kernel) rfl (Nat.le_of_ble_eq_true rfl) (by decide) rfl ?_
  refine fs_goto (off := -28) (tgt := 17) (by decide +kernel) (by decide) ?_
  exact nx
theorem b197_48 {d : Nat} {x1 : Int32} {x2 : Int32} {S : fm_S}  (hi0 : vp_in x1 2) : am_Ev d 197 48 [some (.ref 231), some (.int x1), some (.int x2)] [] (fm_mk S) (some (.int 1), fm_mk (fm_wI S 235 x1.toNatClampNeg 1)) := by
  refine fs_aloadn (j := 0) (by decide +kernel) rfl ?_
  refine fe_getR (idx := 19) (t := 8) (f := 3) (fk := 2) (fin := 1) (wp := 946) (x := 235) (by decide +kernel) (by decide +kernel) (by decide +kernel) (by decide +kernel) (by decide +kernel) ?_
  refine fs_iloadn (j := 1) (by decide +kernel) rfl ?_
  refine fs_iconst (n := 1) (v := 1) (by decide +kernel) (by decide) ?_
  refine fx_iast (n := x1.toNatClampNeg) (len := 2) (by decide +kernel) (by decide +kernel) (by decide +kernel) hi0 rfl ?_
  refine fs_iconst (n := 1) (v := 1) (by decide +kernel) (by decide) ?_
  exact fe_retI (by decide +kernel) (by decide +kernel)
-- KitchenSiegeModel.from(I)I
theorem b198_0 {d : Nat} {x1 : Int32} {o2 : Option Value} {v : Int32} {S1 : fm_S} {S : fm_S} {r : Option Value × am_W} (hc : am_Sp d 137 [.long x1.toInt64, .long 0, .long 1] (fm_mk S) (some (.int v)) (fm_mk S1)) (nx : am_Ev (d + 1) 198 7 [some (.ref 231), some (.int x1), o2] [.int v] (fm_mk S1) r) : am_Ev (d + 1) 198 0 [some (.ref 231), some (.int x1), o2] [] (fm_mk S) r := by
  refine fs_iloadn (j := 1) (by decide +kernel) rfl ?_
  refine fs_i2l (by decide +kernel) ?_
  refine fs_lconst (n := 0) (v := 0) (by decide +kernel) (by decide) ?_
  refine fs_lconst (n := 1) (v := 1) (by decide +kernel) (by decide) ?_
  exact fe_callS (idx := 67) (kd := 0) (n := 3) (wp := 1014) (q := (1015, 0)) (as := [.long x1.toInt64, .long 0, .long 1]) (rs := []) (by decide +kernel) (by decide +kernel) (by decide +kernel) (by decide) rfl (Nat.le_of_ble_eq_true rfl) rfl hc nx
theorem b198_7 {d : Nat} {x1 : Int32} {o2 : Option Value} {sx0 : Int32} {S : fm_S} {r : Option Value × am_W} (kt : ¬ sx0 = 0 → am_Ev d 198 15 [some (.ref 231), some (.int x1), o2] [] (fm_mk S) r) (kf : sx0 = 0 → am_Ev d 198 10 [some (.ref 231), some (.int x1), o2] [] (fm_mk S) r) : am_Ev d 198 7 [some (.ref 231), some (.int x1), o2] [.int sx0] (fm_mk S) r := by
  exact fs_ifne (off := 8) (tgt := 15) (by decide +kernel) (by decide) kt kf
theorem b198_10 {d : Nat} {x1 : Int32} {o2 : Option Value} {v : Int32} {S1 : fm_S} {S : fm_S} {r : Option Value × am_W} (hc : am_Sp d 138 [.ref 231] (fm_mk S) (some (.int v)) (fm_mk S1)) (nx : am_Ev (d + 1) 198 14 [some (.ref 231), some (.int x1), o2] [.int v] (fm_mk S1) r) : am_Ev (d + 1) 198 10 [some (.ref 231), some (.int x1), o2] [] (fm_mk S) r := by
  refine fs_aloadn (j := 0) (by decide +kernel) rfl ?_
  exact fe_callV (idx := 73) (n := 0) (wp := 1018) (q := (1020, 31)) (as := []) (rs := []) (by decide +kernel) (by decide +kernel) (by decide +kernel) (by decide +kernel) rfl (Nat.le_of_ble_eq_true rfl) rfl hc nx
theorem b198_14 {d : Nat} {x1 : Int32} {o2 : Option Value} {sx0 : Int32} {S : fm_S}  : am_Ev d 198 14 [some (.ref 231), some (.int x1), o2] [.int sx0] (fm_mk S) (some (.int sx0), fm_mk S) := by
  exact fe_retI (by decide +kernel) (by decide +kernel)
theorem b198_15 {d : Nat} {x1 : Int32} {o2 : Option Value} {S : fm_S} {r : Option Value × am_W} (hi0 : vp_in x1 2) (kt : ¬ (S.1 235 x1.toNatClampNeg) = 0 → am_Ev d 198 29 [some (.ref 231), some (.int x1), o2] [] (fm_mk S) r) (kf : (S.1 235 x1.toNatClampNeg) = 0 → am_Ev d 198 24 [some (.ref 231), some (.int x1), o2] [] (fm_mk S) r) : am_Ev d 198 15 [some (.ref 231), some (.int x1), o2] [] (fm_mk S) r := by
  refine fs_aloadn (j := 0) (by decide +kernel) rfl ?_
  refine fe_getR (idx := 19) (t := 8) (f := 3) (fk := 2) (fin := 1) (wp := 946) (x := 235) (by decide +kernel) (by decide +kernel) (by decide +kernel) (by decide +kernel) (by decide +kernel) ?_
  refine fs_iloadn (j := 1) (by decide +kernel) rfl ?_
  refine fx_iald (n := x1.toNatClampNeg) (len := 2) (by decide +kernel) (by decide +kernel) (by decide +kernel) hi0 rfl ?_
  exact fs_ifne (off := 8) (tgt := 29) (by decide +kernel) (by decide) kt kf
theorem b198_24 {d : Nat} {x1 : Int32} {o2 : Option Value} {v : Int32} {S1 : fm_S} {S : fm_S} {r : Option Value × am_W} (hc : am_Sp d 143 [.ref 231] (fm_mk S) (some (.int v)) (fm_mk S1)) (nx : am_Ev (d + 1) 198 28 [some (.ref 231), some (.int x1), o2] [.int v] (fm_mk S1) r) : am_Ev (d + 1) 198 24 [some (.ref 231), some (.int x1), o2] [] (fm_mk S) r := by
  refine fs_aloadn (j := 0) (by decide +kernel) rfl ?_
  exact fe_callV (idx := 88) (n := 0) (wp := 1037) (q := (1039, 34)) (as := []) (rs := []) (by decide +kernel) (by decide +kernel) (by decide +kernel) (by decide +kernel) rfl (Nat.le_of_ble_eq_true rfl) rfl hc nx
theorem b198_28 {d : Nat} {x1 : Int32} {o2 : Option Value} {sx0 : Int32} {S : fm_S}  : am_Ev d 198 28 [some (.ref 231), some (.int x1), o2] [.int sx0] (fm_mk S) (some (.int sx0), fm_mk S) := by
  exact fe_retI (by decide +kernel) (by decide +kernel)
theorem b198_29 {d : Nat} {x1 : Int32} {o2 : Option Value} {S : fm_S} {r : Option Value × am_W} (nx : am_Ev d 198 31 [some (.ref 231), some (.int x1), some (.int 0)] [] (fm_mk S) r) : am_Ev d 198 29 [some (.ref 231), some (.int x1), o2] [] (fm_mk S) r := by
  refine fs_iconst (n := 0) (v := 0) (by decide +kernel) (by decide) ?_
  refine fs_istoren (j := 2) (L' := [some (.ref 231), some (.int x1), some (.int 0)]) (by decide +kernel) (Nat.le_of_ble_eq_true rfl) rfl ?_
  exact nx
theorem b198_31 {d : Nat} {x1 : Int32} {x2 : Int32} {S : fm_S} {r : Option Value × am_W} (kt : 373 ≤ x2 → am_Ev d 198 62 [some (.ref 231), some (.int x1), some (.int x2)] [] (fm_mk S) r) (kf : ¬ 373 ≤ x2 → am_Ev d 198 38 [some (.ref 231), some (.int x1), some (.int x2)] [] (fm_mk S) r) : am_Ev d 198 31 [some (.ref 231), some (.int x1), some (.int x2)] [] (fm_mk S) r := by
  refine fs_iloadn (j := 2) (by decide +kernel) rfl ?_
  refine fs_sipush (n := 373) (v := 373) (by decide +kernel) (by decide) ?_
  exact fs_icge (off := 27) (tgt := 62) (by decide +kernel) (by decide) kt kf
theorem b198_38 {d : Nat} {x1 : Int32} {x2 : Int32} {S : fm_S} {r : Option Value × am_W} (hi0 : vp_in ((373 * x1) + x2) 746) (hi1 : vp_in x2 373) (nx : am_Ev d 198 31 [some (.ref 231), some (.int x1), some (.int (x2 + 1))] [] (fm_mk (fm_wI S 232 x2.toNatClampNeg (S.1 234 (((373 * x1) + x2).toNatClampNeg)))) r) : am_Ev d 198 38 [some (.ref 231), some (.int x1), some (.int x2)] [] (fm_mk S) r := by
  refine fs_aloadn (j := 0) (by decide +kernel) rfl ?_
  refine fe_getR (idx := 7) (t := 8) (f := 0) (fk := 2) (fin := 1) (wp := 943) (x := 232) (by decide +kernel) (by decide +kernel) (by decide +kernel) (by decide +kernel) (by decide +kernel) ?_
  refine fs_iloadn (j := 2) (by decide +kernel) rfl ?_
  refine fs_aloadn (j := 0) (by decide +kernel) rfl ?_
  refine fe_getR (idx := 16) (t := 8) (f := 2) (fk := 2) (fin := 1) (wp := 945) (x := 234) (by decide +kernel) (by decide +kernel) (by decide +kernel) (by decide +kernel) (by decide +kernel) ?_
  refine fs_sipush (n := 373) (v := 373) (by decide +kernel) (by decide) ?_
  refine fs_iloadn (j := 1) (by decide +kernel) rfl ?_
  refine fs_imul (by decide +kernel) ?_
  refine fs_iloadn (j := 2) (by decide +kernel) rfl ?_
  refine fs_iadd (by decide +kernel) ?_
  refine fx_iald (n := ((373 * x1) + x2).toNatClampNeg) (len := 746) (by decide +kernel) (by decide +kernel) (by decide +kernel) hi0 rfl ?_
  refine fx_iast (n := x2.toNatClampNeg) (len := 373) (by decide +kernel) (by decide +kernel) (by decide +kernel) hi1 rfl ?_
  refine fs_iinc (j := 2) (n := 1) (v := 1) (L' := [some (.ref 231), some (.int x1), some (.int (x2 + 1))]) (by decide +kernel) rfl (Nat.le_of_ble_eq_true rfl) (by decide) rfl ?_
  refine fs_goto (off := -28) (tgt := 31) (by decide +kernel) (by decide) ?_
  exact nx
theorem b198_62 {d : Nat} {x1 : Int32} {x2 : Int32} {S : fm_S}  : am_Ev d 198 62 [some (.ref 231), some (.int x1), some (.int x2)] [] (fm_mk S) (some (.int 1), fm_mk S) := by
  refine fs_iconst (n := 1) (v := 1) (by decide +kernel) (by decide) ?_
  exact fe_retI (by decide +kernel) (by decide +kernel)
-- KitchenSiegeModel.status(I)I
theorem b199_0 {d : Nat} {x1 : Int32} {v : Int32} {S1 : fm_S} {S : fm_S} {r : Option Value × am_W} (hc : am_Sp d 137 [.long x1.toInt64, .long 0, .long 2] (fm_mk S) (some (.int v)) (fm_mk S1)) (nx : am_Ev (d + 1) 199 9 [some (.ref 231), some (.int x1)] [.int v] (fm_mk S1) r) : am_Ev (d + 1) 199 0 [some (.ref 231), some (.int x1)] [] (fm_mk S) r := by
  refine fs_iloadn (j := 1) (by decide +kernel) rfl ?_
  refine fs_i2l (by decide +kernel) ?_
  refine fs_lconst (n := 0) (v := 0) (by decide +kernel) (by decide) ?_
  refine fs_ldc2 (idx := 124) (q := 1116) (v := 2) (by decide +kernel) (by decide +kernel) ?_
  exact fe_callS (idx := 67) (kd := 0) (n := 3) (wp := 1014) (q := (1015, 0)) (as := [.long x1.toInt64, .long 0, .long 2]) (rs := []) (by decide +kernel) (by decide +kernel) (by decide +kernel) (by decide) rfl (Nat.le_of_ble_eq_true rfl) rfl hc nx
theorem b199_9 {d : Nat} {x1 : Int32} {sx0 : Int32} {S : fm_S} {r : Option Value × am_W} (kt : ¬ sx0 = 0 → am_Ev d 199 24 [some (.ref 231), some (.int x1)] [] (fm_mk S) r) (kf : sx0 = 0 → am_Ev d 199 12 [some (.ref 231), some (.int x1)] [] (fm_mk S) r) : am_Ev d 199 9 [some (.ref 231), some (.int x1)] [.int sx0] (fm_mk S) r := by
  exact fs_ifne (off := 15) (tgt := 24) (by decide +kernel) (by decide) kt kf
theorem b199_12 {d : Nat} {x1 : Int32} {S : fm_S}  : am_Ev d 199 12 [some (.ref 231), some (.int x1)] [] (fm_mk S) (some (.int (-1)), fm_mk (fm_wI S 231 8 ((S.1 231 8) + 1))) := by
  refine fs_aloadn (j := 0) (by decide +kernel) rfl ?_
  refine fs_dup (by decide +kernel) rfl ?_
  refine fe_getI (idx := 55) (t := 8) (f := 8) (fk := 0) (fin := 0) (wp := 951) (by decide +kernel) (by decide +kernel) (by decide +kernel) (by decide +kernel) ?_
  refine fs_iconst (n := 1) (v := 1) (by decide +kernel) (by decide) ?_
  refine fs_iadd (by decide +kernel) ?_
  refine fe_putI (idx := 55) (t := 8) (f := 8) (wp := 951) (by decide +kernel) (by decide +kernel) (by decide +kernel) (by decide +kernel) ?_
  refine fs_iconst (n := -1) (v := (-1)) (by decide +kernel) (by decide) ?_
  exact fe_retI (by decide +kernel) (by decide +kernel)
theorem b199_24 {d : Nat} {x1 : Int32} {S : fm_S} {r : Option Value × am_W} (kt : ¬ x1 = 0 → am_Ev d 199 35 [some (.ref 231), some (.int x1)] [] (fm_mk S) r) (kf : x1 = 0 → am_Ev d 199 28 [some (.ref 231), some (.int x1)] [] (fm_mk S) r) : am_Ev d 199 24 [some (.ref 231), some (.int x1)] [] (fm_mk S) r := by
  refine fs_iloadn (j := 1) (by decide +kernel) rfl ?_
  exact fs_ifne (off := 10) (tgt := 35) (by decide +kernel) (by decide) kt kf
theorem b199_28 {d : Nat} {x1 : Int32} {S : fm_S} {r : Option Value × am_W} (nx : am_Ev d 199 51 [some (.ref 231), some (.int x1)] [.int (S.1 231 8)] (fm_mk S) r) : am_Ev d 199 28 [some (.ref 231), some (.int x1)] [] (fm_mk S) r := by
  refine fs_aloadn (j := 0) (by decide +kernel) rfl ?_
  refine fe_getI (idx := 55) (t := 8) (f := 8) (fk := 0) (fin := 0) (wp := 951) (by decide +kernel) (by decide +kernel) (by decide +kernel) (by decide +kernel) ?_
  refine fs_goto (off := 19) (tgt := 51) (by decide +kernel) (by decide) ?_
  exact nx
theorem b199_35 {d : Nat} {x1 : Int32} {S : fm_S} {r : Option Value × am_W} (kt : ¬ x1 = 1 → am_Ev d 199 47 [some (.ref 231), some (.int x1)] [] (fm_mk S) r) (kf : x1 = 1 → am_Ev d 199 40 [some (.ref 231), some (.int x1)] [] (fm_mk S) r) : am_Ev d 199 35 [some (.ref 231), some (.int x1)] [] (fm_mk S) r := by
  refine fs_iloadn (j := 1) (by decide +kernel) rfl ?_
  refine fs_iconst (n := 1) (v := 1) (by decide +kernel) (by decide) ?_
  exact fs_icne (off := 10) (tgt := 47) (by decide +kernel) (by decide) kt kf
theorem b199_40 {d : Nat} {x1 : Int32} {S : fm_S} {r : Option Value × am_W} (nx : am_Ev d 199 51 [some (.ref 231), some (.int x1)] [.int (S.1 231 9)] (fm_mk S) r) : am_Ev d 199 40 [some (.ref 231), some (.int x1)] [] (fm_mk S) r := by
  refine fs_aloadn (j := 0) (by decide +kernel) rfl ?_
  refine fe_getI (idx := 59) (t := 8) (f := 9) (fk := 0) (fin := 0) (wp := 952) (by decide +kernel) (by decide +kernel) (by decide +kernel) (by decide +kernel) ?_
  refine fs_goto (off := 7) (tgt := 51) (by decide +kernel) (by decide) ?_
  exact nx
theorem b199_47 {d : Nat} {x1 : Int32} {S : fm_S} {r : Option Value × am_W} (nx : am_Ev d 199 51 [some (.ref 231), some (.int x1)] [.int (S.1 231 10)] (fm_mk S) r) : am_Ev d 199 47 [some (.ref 231), some (.int x1)] [] (fm_mk S) r := by
  refine fs_aloadn (j := 0) (by decide +kernel) rfl ?_
  refine fe_getI (idx := 62) (t := 8) (f := 10) (fk := 0) (fin := 0) (wp := 953) (by decide +kernel) (by decide +kernel) (by decide +kernel) (by decide +kernel) ?_
  exact nx
theorem b199_51 {d : Nat} {x1 : Int32} {sx0 : Int32} {S : fm_S}  : am_Ev d 199 51 [some (.ref 231), some (.int x1)] [.int sx0] (fm_mk S) (some (.int sx0), fm_mk S) := by
  exact fe_retI (by decide +kernel) (by decide +kernel)
-- KitchenSiegeModel.count(I)I
theorem b200_0 {d : Nat} {x1 : Int32} {v : Int32} {S1 : fm_S} {S : fm_S} {r : Option Value × am_W} (hc : am_Sp d 137 [.long x1.toInt64, .long 0, .long 6] (fm_mk S) (some (.int v)) (fm_mk S1)) (nx : am_Ev (d + 1) 200 9 [some (.ref 231), some (.int x1)] [.int v] (fm_mk S1) r) : am_Ev (d + 1) 200 0 [some (.ref 231), some (.int x1)] [] (fm_mk S) r := by
  refine fs_iloadn (j := 1) (by decide +kernel) rfl ?_
  refine fs_i2l (by decide +kernel) ?_
  refine fs_lconst (n := 0) (v := 0) (by decide +kernel) (by decide) ?_
  refine fs_ldc2 (idx := 248) (q := 1287) (v := 6) (by decide +kernel) (by decide +kernel) ?_
  exact fe_callS (idx := 67) (kd := 0) (n := 3) (wp := 1014) (q := (1015, 0)) (as := [.long x1.toInt64, .long 0, .long 6]) (rs := []) (by decide +kernel) (by decide +kernel) (by decide +kernel) (by decide) rfl (Nat.le_of_ble_eq_true rfl) rfl hc nx
theorem b200_9 {d : Nat} {x1 : Int32} {sx0 : Int32} {S : fm_S} {r : Option Value × am_W} (kt : sx0 = 0 → am_Ev d 200 20 [some (.ref 231), some (.int x1)] [] (fm_mk S) r) (kf : ¬ sx0 = 0 → am_Ev d 200 12 [some (.ref 231), some (.int x1)] [] (fm_mk S) r) : am_Ev d 200 9 [some (.ref 231), some (.int x1)] [.int sx0] (fm_mk S) r := by
  exact fs_ifeq (off := 11) (tgt := 20) (by decide +kernel) (by decide) kt kf
theorem b200_12 {d : Nat} {x1 : Int32} {v : Int32} {S1 : fm_S} {S : fm_S} {r : Option Value × am_W} (hc : am_Sp d 201 [.ref 231, .int x1] (fm_mk S) (some (.int v)) (fm_mk S1)) (nx : am_Ev (d + 1) 200 17 [some (.ref 231), some (.int x1)] [.int v] (fm_mk S1) r) : am_Ev (d + 1) 200 12 [some (.ref 231), some (.int x1)] [] (fm_mk S) r := by
  refine fs_aloadn (j := 0) (by decide +kernel) rfl ?_
  refine fs_iloadn (j := 1) (by decide +kernel) rfl ?_
  exact fe_callV (idx := 250) (n := 1) (wp := 1288) (q := (1290, 56)) (as := [.int x1]) (rs := []) (by decide +kernel) (by decide +kernel) (by decide +kernel) (by decide +kernel) rfl (Nat.le_of_ble_eq_true rfl) rfl hc nx
theorem b200_17 {d : Nat} {x1 : Int32} {sx0 : Int32} {S : fm_S} {r : Option Value × am_W} (nx : am_Ev d 200 24 [some (.ref 231), some (.int x1)] [.int sx0] (fm_mk S) r) : am_Ev d 200 17 [some (.ref 231), some (.int x1)] [.int sx0] (fm_mk S) r := by
  refine fs_goto (off := 7) (tgt := 24) (by decide +kernel) (by decide) ?_
  exact nx
theorem b200_20 {d : Nat} {x1 : Int32} {v : Int32} {S1 : fm_S} {S : fm_S} {r : Option Value × am_W} (hc : am_Sp d 138 [.ref 231] (fm_mk S) (some (.int v)) (fm_mk S1)) (nx : am_Ev (d + 1) 200 24 [some (.ref 231), some (.int x1)] [.int v] (fm_mk S1) r) : am_Ev (d + 1) 200 20 [some (.ref 231), some (.int x1)] [] (fm_mk S) r := by
  refine fs_aloadn (j := 0) (by decide +kernel) rfl ?_
  exact fe_callV (idx := 73) (n := 0) (wp := 1018) (q := (1020, 31)) (as := []) (rs := []) (by decide +kernel) (by decide +kernel) (by decide +kernel) (by decide +kernel) rfl (Nat.le_of_ble_eq_true rfl) rfl hc nx
theorem b200_24 {d : Nat} {x1 : Int32} {sx0 : Int32} {S : fm_S}  : am_Ev d 200 24 [some (.ref 231), some (.int x1)] [.int sx0] (fm_mk S) (some (.int sx0), fm_mk S) := by
  exact fe_retI (by decide +kernel) (by decide +kernel)
-- KitchenSiegeModel.countOf(I)I
theorem b201_0 {d : Nat} {x1 : Int32} {S : fm_S} {r : Option Value × am_W} (k0 : x1 = 0 → am_Ev d 201 40 [some (.ref 231), some (.int x1)] [] (fm_mk S) r) (k1 : x1 = 1 → am_Ev d 201 47 [some (.ref 231), some (.int x1)] [] (fm_mk S) r) (k2 : x1 = 2 → am_Ev d 201 54 [some (.ref 231), some (.int x1)] [] (fm_mk S) r) (k3 : x1 = 3 → am_Ev d 201 61 [some (.ref 231), some (.int x1)] [] (fm_mk S) r) (k4 : x1 = 4 → am_Ev d 201 66 [some (.ref 231), some (.int x1)] [] (fm_mk S) r) (k5 : x1 = 5 → am_Ev d 201 73 [some (.ref 231), some (.int x1)] [] (fm_mk S) r) (kd : ¬ x1 = 0 → ¬ x1 = 1 → ¬ x1 = 2 → ¬ x1 = 3 → ¬ x1 = 4 → ¬ x1 = 5 → am_Ev d 201 80 [some (.ref 231), some (.int x1)] [] (fm_mk S) r) : am_Ev d 201 0 [some (.ref 231), some (.int x1)] [] (fm_mk S) r := by
  refine fs_iloadn (j := 1) (by decide +kernel) rfl ?_
  by_cases c0 : x1 = 0
  · exact fs_sw (i := .tableswitch 79 0 5 #[39, 46, 53, 60, 65, 72]) (z := 39) (by decide +kernel) rfl (by rw [c0]; rfl) (k0 c0)
  by_cases c1 : x1 = 1
  · exact fs_sw (i := .tableswitch 79 0 5 #[39, 46, 53, 60, 65, 72]) (z := 39) (by decide +kernel) rfl (by rw [c1]; rfl) (k1 c1)
  by_cases c2 : x1 = 2
  · exact fs_sw (i := .tableswitch 79 0 5 #[39, 46, 53, 60, 65, 72]) (z := 39) (by decide +kernel) rfl (by rw [c2]; rfl) (k2 c2)
  by_cases c3 : x1 = 3
  · exact fs_sw (i := .tableswitch 79 0 5 #[39, 46, 53, 60, 65, 72]) (z := 39) (by decide +kernel) rfl (by rw [c3]; rfl) (k3 c3)
  by_cases c4 : x1 = 4
  · exact fs_sw (i := .tableswitch 79 0 5 #[39, 46, 53, 60, 65, 72]) (z := 39) (by decide +kernel) rfl (by rw [c4]; rfl) (k4 c4)
  by_cases c5 : x1 = 5
  · exact fs_sw (i := .tableswitch 79 0 5 #[39, 46, 53, 60, 65, 72]) (z := 39) (by decide +kernel) rfl (by rw [c5]; rfl) (k5 c5)
  have e0 : ¬ (x1).toInt = 0 := fun q => c0 (Int32.toInt_inj.mp (q.trans (by decide)))
  have e1 : ¬ (x1).toInt = 1 := fun q => c1 (Int32.toInt_inj.mp (q.trans (by decide)))
  have e2 : ¬ (x1).toInt = 2 := fun q => c2 (Int32.toInt_inj.mp (q.trans (by decide)))
  have e3 : ¬ (x1).toInt = 3 := fun q => c3 (Int32.toInt_inj.mp (q.trans (by decide)))
  have e4 : ¬ (x1).toInt = 4 := fun q => c4 (Int32.toInt_inj.mp (q.trans (by decide)))
  have e5 : ¬ (x1).toInt = 5 := fun q => c5 (Int32.toInt_inj.mp (q.trans (by decide)))
  exact fs_tout (dflt := 79) (lo := 0) (hi := 5) (offs := #[39, 46, 53, 60, 65, 72]) (z := 39) (by decide +kernel) (by omega) (by decide) (kd c0 c1 c2 c3 c4 c5)
theorem b201_40 {d : Nat} {x1 : Int32} {S : fm_S}  : am_Ev d 201 40 [some (.ref 231), some (.int x1)] [] (fm_mk S) (some (.int (S.1 232 0)), fm_mk S) := by
  refine fs_aloadn (j := 0) (by decide +kernel) rfl ?_
  refine fe_getR (idx := 7) (t := 8) (f := 0) (fk := 2) (fin := 1) (wp := 943) (x := 232) (by decide +kernel) (by decide +kernel) (by decide +kernel) (by decide +kernel) (by decide +kernel) ?_
  refine fs_iconst (n := 0) (v := 0) (by decide +kernel) (by decide) ?_
  refine fx_iald (n := 0) (len := 373) (by decide +kernel) (by decide +kernel) (by decide +kernel) (vp_c (by decide) (by decide)) (by decide) ?_
  exact fe_retI (by decide +kernel) (by decide +kernel)
theorem b201_47 {d : Nat} {x1 : Int32} {S : fm_S}  : am_Ev d 201 47 [some (.ref 231), some (.int x1)] [] (fm_mk S) (some (.int (S.1 232 1)), fm_mk S) := by
  refine fs_aloadn (j := 0) (by decide +kernel) rfl ?_
  refine fe_getR (idx := 7) (t := 8) (f := 0) (fk := 2) (fin := 1) (wp := 943) (x := 232) (by decide +kernel) (by decide +kernel) (by decide +kernel) (by decide +kernel) (by decide +kernel) ?_
  refine fs_iconst (n := 1) (v := 1) (by decide +kernel) (by decide) ?_
  refine fx_iald (n := 1) (len := 373) (by decide +kernel) (by decide +kernel) (by decide +kernel) (vp_c (by decide) (by decide)) (by decide) ?_
  exact fe_retI (by decide +kernel) (by decide +kernel)
theorem b201_54 {d : Nat} {x1 : Int32} {S : fm_S}  : am_Ev d 201 54 [some (.ref 231), some (.int x1)] [] (fm_mk S) (some (.int (S.1 232 4)), fm_mk S) := by
  refine fs_aloadn (j := 0) (by decide +kernel) rfl ?_
  refine fe_getR (idx := 7) (t := 8) (f := 0) (fk := 2) (fin := 1) (wp := 943) (x := 232) (by decide +kernel) (by decide +kernel) (by decide +kernel) (by decide +kernel) (by decide +kernel) ?_
  refine fs_iconst (n := 4) (v := 4) (by decide +kernel) (by decide) ?_
  refine fx_iald (n := 4) (len := 373) (by decide +kernel) (by decide +kernel) (by decide +kernel) (vp_c (by decide) (by decide)) (by decide) ?_
  exact fe_retI (by decide +kernel) (by decide +kernel)
theorem b201_61 {d : Nat} {x1 : Int32} {v : Int32} {S1 : fm_S} {S : fm_S} {r : Option Value × am_W} (hc : am_Sp d 195 [.ref 231] (fm_mk S) (some (.int v)) (fm_mk S1)) (nx : am_Ev (d + 1) 201 65 [some (.ref 231), some (.int x1)] [.int v] (fm_mk S1) r) : am_Ev (d + 1) 201 61 [some (.ref 231), some (.int x1)] [] (fm_mk S) r := by
  refine fs_aloadn (j := 0) (by decide +kernel) rfl ?_
  exact fe_callV (idx := 245) (n := 0) (wp := 1263) (q := (1265, 55)) (as := []) (rs := []) (by decide +kernel) (by decide +kernel) (by decide +kernel) (by decide +kernel) rfl (Nat.le_of_ble_eq_true rfl) rfl hc nx
theorem b201_65 {d : Nat} {x1 : Int32} {sx0 : Int32} {S : fm_S}  : am_Ev d 201 65 [some (.ref 231), some (.int x1)] [.int sx0] (fm_mk S) (some (.int sx0), fm_mk S) := by
  exact fe_retI (by decide +kernel) (by decide +kernel)
theorem b201_66 {d : Nat} {x1 : Int32} {S : fm_S}  : am_Ev d 201 66 [some (.ref 231), some (.int x1)] [] (fm_mk S) (some (.int (S.1 232 2)), fm_mk S) := by
  refine fs_aloadn (j := 0) (by decide +kernel) rfl ?_
  refine fe_getR (idx := 7) (t := 8) (f := 0) (fk := 2) (fin := 1) (wp := 943) (x := 232) (by decide +kernel) (by decide +kernel) (by decide +kernel) (by decide +kernel) (by decide +kernel) ?_
  refine fs_iconst (n := 2) (v := 2) (by decide +kernel) (by decide) ?_
  refine fx_iald (n := 2) (len := 373) (by decide +kernel) (by decide +kernel) (by decide +kernel) (vp_c (by decide) (by decide)) (by decide) ?_
  exact fe_retI (by decide +kernel) (by decide +kernel)
theorem b201_73 {d : Nat} {x1 : Int32} {S : fm_S}  : am_Ev d 201 73 [some (.ref 231), some (.int x1)] [] (fm_mk S) (some (.int (S.1 232 3)), fm_mk S) := by
  refine fs_aloadn (j := 0) (by decide +kernel) rfl ?_
  refine fe_getR (idx := 7) (t := 8) (f := 0) (fk := 2) (fin := 1) (wp := 943) (x := 232) (by decide +kernel) (by decide +kernel) (by decide +kernel) (by decide +kernel) (by decide +kernel) ?_
  refine fs_iconst (n := 3) (v := 3) (by decide +kernel) (by decide) ?_
  refine fx_iald (n := 3) (len := 373) (by decide +kernel) (by decide +kernel) (by decide +kernel) (vp_c (by decide) (by decide)) (by decide) ?_
  exact fe_retI (by decide +kernel) (by decide +kernel)
theorem b201_80 {d : Nat} {x1 : Int32} {S : fm_S}  : am_Ev d 201 80 [some (.ref 231), some (.int x1)] [] (fm_mk S) (some (.int (S.1 231 5)), fm_mk S) := by
  refine fs_aloadn (j := 0) (by decide +kernel) rfl ?_
  refine fe_getI (idx := 104) (t := 8) (f := 5) (fk := 0) (fin := 0) (wp := 948) (by decide +kernel) (by decide +kernel) (by decide +kernel) (by decide +kernel) ?_
  exact fe_retI (by decide +kernel) (by decide +kernel)
-- KitchenSiegeModel.digest()J
theorem b202_0 {d : Nat} {o1 : Option Value} {o2 : Option Value} {o3 : Option Value} {S : fm_S} {r : Option Value × am_W} (nx : am_Ev d 202 6 [some (.ref 231), some (.long 1069), none, some (.int 0)] [] (fm_mk S) r) : am_Ev d 202 0 [some (.ref 231), o1, o2, o3] [] (fm_mk S) r := by
  refine fs_ldc2 (idx := 253) (q := 1296) (v := 1069) (by decide +kernel) (by decide +kernel) ?_
  refine fs_lstoren (j := 1) (L' := [some (.ref 231), some (.long 1069), none, o3]) (by decide +kernel) (Nat.le_of_ble_eq_true rfl) rfl ?_
  refine fs_iconst (n := 0) (v := 0) (by decide +kernel) (by decide) ?_
  refine fs_istoren (j := 3) (L' := [some (.ref 231), some (.long 1069), none, some (.int 0)]) (by decide +kernel) (Nat.le_of_ble_eq_true rfl) rfl ?_
  exact nx
theorem b202_6 {d : Nat} {y1 : Int64} {x3 : Int32} {S : fm_S} {r : Option Value × am_W} (kt : 7 ≤ x3 → am_Ev d 202 31 [some (.ref 231), some (.long y1), none, some (.int x3)] [] (fm_mk S) r) (kf : ¬ 7 ≤ x3 → am_Ev d 202 12 [some (.ref 231), some (.long y1), none, some (.int x3)] [] (fm_mk S) r) : am_Ev d 202 6 [some (.ref 231), some (.long y1), none, some (.int x3)] [] (fm_mk S) r := by
  refine fs_iloadn (j := 3) (by decide +kernel) rfl ?_
  refine fs_bipush (n := 7) (v := 7) (by decide +kernel) (by decide) ?_
  exact fs_icge (off := 22) (tgt := 31) (by decide +kernel) (by decide) kt kf
theorem b202_12 {d : Nat} {y1 : Int64} {x3 : Int32} {v : Int32} {S1 : fm_S} {S : fm_S} {r : Option Value × am_W} (hc : am_Sp d 201 [.ref 231, .int x3] (fm_mk S) (some (.int v)) (fm_mk S1)) (nx : am_Ev (d + 1) 202 22 [some (.ref 231), some (.long y1), none, some (.int x3)] [.int v, .long (31 * y1)] (fm_mk S1) r) : am_Ev (d + 1) 202 12 [some (.ref 231), some (.long y1), none, some (.int x3)] [] (fm_mk S) r := by
  refine fs_ldc2 (idx := 255) (q := 1297) (v := 31) (by decide +kernel) (by decide +kernel) ?_
  refine fs_lloadn (j := 1) (by decide +kernel) rfl ?_
  refine fs_lmul (by decide +kernel) ?_
  refine fs_aloadn (j := 0) (by decide +kernel) rfl ?_
  refine fs_iloadn (j := 3) (by decide +kernel) rfl ?_
  exact fe_callV (idx := 250) (n := 1) (wp := 1288) (q := (1290, 56)) (as := [.int x3]) (rs := [.long (31 * y1)]) (by decide +kernel) (by decide +kernel) (by decide +kernel) (by decide +kernel) rfl (Nat.le_of_ble_eq_true rfl) rfl hc nx
theorem b202_22 {d : Nat} {y1 : Int64} {x3 : Int32} {sy0 : Int64} {sx1 : Int32} {S : fm_S} {r : Option Value × am_W} (nx : am_Ev d 202 6 [some (.ref 231), some (.long (sy0 + sx1.toInt64)), none, some (.int (x3 + 1))] [] (fm_mk S) r) : am_Ev d 202 22 [some (.ref 231), some (.long y1), none, some (.int x3)] [.int sx1, .long sy0] (fm_mk S) r := by
  refine fs_i2l (by decide +kernel) ?_
  refine fs_ladd (by decide +kernel) ?_
  refine fs_lstoren (j := 1) (L' := [some (.ref 231), some (.long (sy0 + sx1.toInt64)), none, some (.int x3)]) (by decide +kernel) (Nat.le_of_ble_eq_true rfl) rfl ?_
  refine fs_iinc (j := 3) (n := 1) (v := 1) (L' := [some (.ref 231), some (.long (sy0 + sx1.toInt64)), none, some (.int (x3 + 1))]) (by decide +kernel) rfl (Nat.le_of_ble_eq_true rfl) (by decide) rfl ?_
  refine fs_goto (off := -22) (tgt := 6) (by decide +kernel) (by decide) ?_
  exact nx
theorem b202_31 {d : Nat} {y1 : Int64} {x3 : Int32} {S : fm_S} {r : Option Value × am_W} (nx : am_Ev d 202 33 [some (.ref 231), some (.long y1), none, some (.int 0)] [] (fm_mk S) r) : am_Ev d 202 31 [some (.ref 231), some (.long y1), none, some (.int x3)] [] (fm_mk S) r := by
  refine fs_iconst (n := 0) (v := 0) (by decide +kernel) (by decide) ?_
  refine fs_istoren (j := 3) (L' := [some (.ref 231), some (.long y1), none, some (.int 0)]) (by decide +kernel) (Nat.le_of_ble_eq_true rfl) rfl ?_
  exact nx
theorem b202_33 {d : Nat} {y1 : Int64} {x3 : Int32} {S : fm_S} {r : Option Value × am_W} (kt : (6 * (S.1 232 0)) ≤ x3 → am_Ev d 202 79 [some (.ref 231), some (.long y1), none, some (.int x3)] [] (fm_mk S) r) (kf : ¬ (6 * (S.1 232 0)) ≤ x3 → am_Ev d 202 46 [some (.ref 231), some (.long y1), none, some (.int x3)] [] (fm_mk S) r) : am_Ev d 202 33 [some (.ref 231), some (.long y1), none, some (.int x3)] [] (fm_mk S) r := by
  refine fs_iloadn (j := 3) (by decide +kernel) rfl ?_
  refine fs_bipush (n := 6) (v := 6) (by decide +kernel) (by decide) ?_
  refine fs_aloadn (j := 0) (by decide +kernel) rfl ?_
  refine fe_getR (idx := 7) (t := 8) (f := 0) (fk := 2) (fin := 1) (wp := 943) (x := 232) (by decide +kernel) (by decide +kernel) (by decide +kernel) (by decide +kernel) (by decide +kernel) ?_
  refine fs_iconst (n := 0) (v := 0) (by decide +kernel) (by decide) ?_
  refine fx_iald (n := 0) (len := 373) (by decide +kernel) (by decide +kernel) (by decide +kernel) (vp_c (by decide) (by decide)) (by decide) ?_
  refine fs_imul (by decide +kernel) ?_
  exact fs_icge (off := 36) (tgt := 79) (by decide +kernel) (by decide) kt kf
theorem b202_46 {d : Nat} {y1 : Int64} {x3 : Int32} {S : fm_S} {r : Option Value × am_W} (hi0 : vp_in ((5 + (8 * (x3 - x3 / 6 * 6))) + (x3 / 6)) 373) (nx : am_Ev d 202 33 [some (.ref 231), some (.long ((31 * y1) + ((S.1 232 (((5 + (8 * (x3 - x3 / 6 * 6))) + (x3 / 6)).toNatClampNeg)).toInt64))), none, some (.int (x3 + 1))] [] (fm_mk S) r) : am_Ev d 202 46 [some (.ref 231), some (.long y1), none, some (.int x3)] [] (fm_mk S) r := by
  refine fs_ldc2 (idx := 255) (q := 1297) (v := 31) (by decide +kernel) (by decide +kernel) ?_
  refine fs_lloadn (j := 1) (by decide +kernel) rfl ?_
  refine fs_lmul (by decide +kernel) ?_
  refine fs_aloadn (j := 0) (by decide +kernel) rfl ?_
  refine fe_getR (idx := 7) (t := 8) (f := 0) (fk := 2) (fin := 1) (wp := 943) (x := 232) (by decide +kernel) (by decide +kernel) (by decide +kernel) (by decide +kernel) (by decide +kernel) ?_
  refine fs_iconst (n := 5) (v := 5) (by decide +kernel) (by decide) ?_
  refine fs_bipush (n := 8) (v := 8) (by decide +kernel) (by decide) ?_
  refine fs_iloadn (j := 3) (by decide +kernel) rfl ?_
  refine fs_bipush (n := 6) (v := 6) (by decide +kernel) (by decide) ?_
  refine fe_irem (by decide +kernel) (by decide) ?_
  refine fs_imul (by decide +kernel) ?_
  refine fs_iadd (by decide +kernel) ?_
  refine fs_iloadn (j := 3) (by decide +kernel) rfl ?_
  refine fs_bipush (n := 6) (v := 6) (by decide +kernel) (by decide) ?_
  refine fe_idiv (by decide +kernel) (by decide) ?_
  refine fs_iadd (by decide +kernel) ?_
  refine fx_iald (n := ((5 + (8 * (x3 - x3 / 6 * 6))) + (x3 / 6)).toNatClampNeg) (len := 373) (by decide +kernel) (by decide +kernel) (by decide +kernel) hi0 rfl ?_
  refine fs_i2l (by decide +kernel) ?_
  refine fs_ladd (by decide +kernel) ?_
  refine fs_lstoren (j := 1) (L' := [some (.ref 231), some (.long ((31 * y1) + ((S.1 232 (((5 + (8 * (x3 - x3 / 6 * 6))) + (x3 / 6)).toNatClampNeg)).toInt64))), none, some (.int x3)]) (by decide +kernel) (Nat.le_of_ble_eq_true rfl) rfl ?_
  refine fs_iinc (j := 3) (n := 1) (v := 1) (L' := [some (.ref 231), some (.long ((31 * y1) + ((S.1 232 (((5 + (8 * (x3 - x3 / 6 * 6))) + (x3 / 6)).toNatClampNeg)).toInt64))), none, some (.int (x3 + 1))]) (by decide +kernel) rfl (Nat.le_of_ble_eq_true rfl) (by decide) rfl ?_
  refine fs_goto (off := -43) (tgt := 33) (by decide +kernel) (by decide) ?_
  exact nx
theorem b202_79 {d : Nat} {y1 : Int64} {x3 : Int32} {S : fm_S} {r : Option Value × am_W} (nx : am_Ev d 202 81 [some (.ref 231), some (.long y1), none, some (.int 0)] [] (fm_mk S) r) : am_Ev d 202 79 [some (.ref 231), some (.long y1), none, some (.int x3)] [] (fm_mk S) r := by
  refine fs_iconst (n := 0) (v := 0) (by decide +kernel) (by decide) ?_
  refine fs_istoren (j := 3) (L' := [some (.ref 231), some (.long y1), none, some (.int 0)]) (by decide +kernel) (Nat.le_of_ble_eq_true rfl) rfl ?_
  exact nx
theorem b202_81 {d : Nat} {y1 : Int64} {x3 : Int32} {S : fm_S} {r : Option Value × am_W} (kt : 64 ≤ x3 → am_Ev d 202 125 [some (.ref 231), some (.long y1), none, some (.int x3)] [] (fm_mk S) r) (kf : ¬ 64 ≤ x3 → am_Ev d 202 87 [some (.ref 231), some (.long y1), none, some (.int x3)] [] (fm_mk S) r) : am_Ev d 202 81 [some (.ref 231), some (.long y1), none, some (.int x3)] [] (fm_mk S) r := by
  refine fs_iloadn (j := 3) (by decide +kernel) rfl ?_
  refine fs_bipush (n := 64) (v := 64) (by decide +kernel) (by decide) ?_
  exact fs_icge (off := 41) (tgt := 125) (by decide +kernel) (by decide) kt kf
theorem b202_87 {d : Nat} {y1 : Int64} {x3 : Int32} {S : fm_S} {r : Option Value × am_W} (kt : (x3 - x3 / 8 * 8) ≤ (x3 / 8) → am_Ev d 202 117 [some (.ref 231), some (.long y1), none, some (.int x3)] [] (fm_mk S) r) (kf : ¬ (x3 - x3 / 8 * 8) ≤ (x3 / 8) → am_Ev d 202 98 [some (.ref 231), some (.long y1), none, some (.int x3)] [] (fm_mk S) r) : am_Ev d 202 87 [some (.ref 231), some (.long y1), none, some (.int x3)] [] (fm_mk S) r := by
  refine fs_iloadn (j := 3) (by decide +kernel) rfl ?_
  refine fs_bipush (n := 8) (v := 8) (by decide +kernel) (by decide) ?_
  refine fe_idiv (by decide +kernel) (by decide) ?_
  refine fs_iloadn (j := 3) (by decide +kernel) rfl ?_
  refine fs_bipush (n := 8) (v := 8) (by decide +kernel) (by decide) ?_
  refine fe_irem (by decide +kernel) (by decide) ?_
  exact fs_icge (off := 22) (tgt := 117) (by decide +kernel) (by decide) kt kf
theorem b202_98 {d : Nat} {y1 : Int64} {x3 : Int32} {S : fm_S} {r : Option Value × am_W} (hi0 : vp_in (53 + x3) 373) (nx : am_Ev d 202 118 [some (.ref 231), some (.long y1), none, some (.int x3)] [.long ((31 * y1) + ((S.1 232 ((53 + x3).toNatClampNeg)).toInt64))] (fm_mk S) r) : am_Ev d 202 98 [some (.ref 231), some (.long y1), none, some (.int x3)] [] (fm_mk S) r := by
  refine fs_ldc2 (idx := 255) (q := 1297) (v := 31) (by decide +kernel) (by decide +kernel) ?_
  refine fs_lloadn (j := 1) (by decide +kernel) rfl ?_
  refine fs_lmul (by decide +kernel) ?_
  refine fs_aloadn (j := 0) (by decide +kernel) rfl ?_
  refine fe_getR (idx := 7) (t := 8) (f := 0) (fk := 2) (fin := 1) (wp := 943) (x := 232) (by decide +kernel) (by decide +kernel) (by decide +kernel) (by decide +kernel) (by decide +kernel) ?_
  refine fs_bipush (n := 53) (v := 53) (by decide +kernel) (by decide) ?_
  refine fs_iloadn (j := 3) (by decide +kernel) rfl ?_
  refine fs_iadd (by decide +kernel) ?_
  refine fx_iald (n := (53 + x3).toNatClampNeg) (len := 373) (by decide +kernel) (by decide +kernel) (by decide +kernel) hi0 rfl ?_
  refine fs_i2l (by decide +kernel) ?_
  refine fs_ladd (by decide +kernel) ?_
  refine fs_goto (off := 4) (tgt := 118) (by decide +kernel) (by decide) ?_
  exact nx
theorem b202_117 {d : Nat} {y1 : Int64} {x3 : Int32} {S : fm_S} {r : Option Value × am_W} (nx : am_Ev d 202 118 [some (.ref 231), some (.long y1), none, some (.int x3)] [.long y1] (fm_mk S) r) : am_Ev d 202 117 [some (.ref 231), some (.long y1), none, some (.int x3)] [] (fm_mk S) r := by
  refine fs_lloadn (j := 1) (by decide +kernel) rfl ?_
  exact nx
theorem b202_118 {d : Nat} {y1 : Int64} {x3 : Int32} {sy0 : Int64} {S : fm_S} {r : Option Value × am_W} (nx : am_Ev d 202 81 [some (.ref 231), some (.long sy0), none, some (.int (x3 + 1))] [] (fm_mk S) r) : am_Ev d 202 118 [some (.ref 231), some (.long y1), none, some (.int x3)] [.long sy0] (fm_mk S) r := by
  refine fs_lstoren (j := 1) (L' := [some (.ref 231), some (.long sy0), none, some (.int x3)]) (by decide +kernel) (Nat.le_of_ble_eq_true rfl) rfl ?_
  refine fs_iinc (j := 3) (n := 1) (v := 1) (L' := [some (.ref 231), some (.long sy0), none, some (.int (x3 + 1))]) (by decide +kernel) rfl (Nat.le_of_ble_eq_true rfl) (by decide) rfl ?_
  refine fs_goto (off := -41) (tgt := 81) (by decide +kernel) (by decide) ?_
  exact nx
theorem b202_125 {d : Nat} {y1 : Int64} {x3 : Int32} {S : fm_S} {r : Option Value × am_W} (nx : am_Ev d 202 127 [some (.ref 231), some (.long y1), none, some (.int 0)] [] (fm_mk S) r) : am_Ev d 202 125 [some (.ref 231), some (.long y1), none, some (.int x3)] [] (fm_mk S) r := by
  refine fs_iconst (n := 0) (v := 0) (by decide +kernel) (by decide) ?_
  refine fs_istoren (j := 3) (L' := [some (.ref 231), some (.long y1), none, some (.int 0)]) (by decide +kernel) (Nat.le_of_ble_eq_true rfl) rfl ?_
  exact nx
theorem b202_127 {d : Nat} {y1 : Int64} {x3 : Int32} {S : fm_S} {r : Option Value × am_W} (kt : 8 ≤ x3 → am_Ev d 202 156 [some (.ref 231), some (.long y1), none, some (.int x3)] [] (fm_mk S) r) (kf : ¬ 8 ≤ x3 → am_Ev d 202 133 [some (.ref 231), some (.long y1), none, some (.int x3)] [] (fm_mk S) r) : am_Ev d 202 127 [some (.ref 231), some (.long y1), none, some (.int x3)] [] (fm_mk S) r := by
  refine fs_iloadn (j := 3) (by decide +kernel) rfl ?_
  refine fs_bipush (n := 8) (v := 8) (by decide +kernel) (by decide) ?_
  exact fs_icge (off := 26) (tgt := 156) (by decide +kernel) (by decide) kt kf
theorem b202_133 {d : Nat} {y1 : Int64} {x3 : Int32} {S : fm_S} {r : Option Value × am_W} (hi0 : vp_in (117 + x3) 373) (nx : am_Ev d 202 127 [some (.ref 231), some (.long ((31 * y1) + ((S.1 232 ((117 + x3).toNatClampNeg)).toInt64))), none, some (.int (x3 + 1))] [] (fm_mk S) r) : am_Ev d 202 133 [some (.ref 231), some (.long y1), none, some (.int x3)] [] (fm_mk S) r := by
  refine fs_ldc2 (idx := 255) (q := 1297) (v := 31) (by decide +kernel) (by decide +kernel) ?_
  refine fs_lloadn (j := 1) (by decide +kernel) rfl ?_
  refine fs_lmul (by decide +kernel) ?_
  refine fs_aloadn (j := 0) (by decide +kernel) rfl ?_
  refine fe_getR (idx := 7) (t := 8) (f := 0) (fk := 2) (fin := 1) (wp := 943) (x := 232) (by decide +kernel) (by decide +kernel) (by decide +kernel) (by decide +kernel) (by decide +kernel) ?_
  refine fs_bipush (n := 117) (v := 117) (by decide +kernel) (by decide) ?_
  refine fs_iloadn (j := 3) (by decide +kernel) rfl ?_
  refine fs_iadd (by decide +kernel) ?_
  refine fx_iald (n := (117 + x3).toNatClampNeg) (len := 373) (by decide +kernel) (by decide +kernel) (by decide +kernel) hi0 rfl ?_
  refine fs_i2l (by decide +kernel) ?_
  refine fs_ladd (by decide +kernel) ?_
  refine fs_lstoren (j := 1) (L' := [some (.ref 231), some (.long ((31 * y1) + ((S.1 232 ((117 + x3).toNatClampNeg)).toInt64))), none, some (.int x3)]) (by decide +kernel) (Nat.le_of_ble_eq_true rfl) rfl ?_
  refine fs_iinc (j := 3) (n := 1) (v := 1) (L' := [some (.ref 231), some (.long ((31 * y1) + ((S.1 232 ((117 + x3).toNatClampNeg)).toInt64))), none, some (.int (x3 + 1))]) (by decide +kernel) rfl (Nat.le_of_ble_eq_true rfl) (by decide) rfl ?_
  refine fs_goto (off := -26) (tgt := 127) (by decide +kernel) (by decide) ?_
  exact nx
theorem b202_156 {d : Nat} {y1 : Int64} {x3 : Int32} {S : fm_S} {r : Option Value × am_W} (nx : am_Ev d 202 158 [some (.ref 231), some (.long y1), none, some (.int 0)] [] (fm_mk S) r) : am_Ev d 202 156 [some (.ref 231), some (.long y1), none, some (.int x3)] [] (fm_mk S) r := by
  refine fs_iconst (n := 0) (v := 0) (by decide +kernel) (by decide) ?_
  refine fs_istoren (j := 3) (L' := [some (.ref 231), some (.long y1), none, some (.int 0)]) (by decide +kernel) (Nat.le_of_ble_eq_true rfl) rfl ?_
  exact nx
theorem b202_158 {d : Nat} {y1 : Int64} {x3 : Int32} {S : fm_S} {r : Option Value × am_W} (kt : (3 * (S.1 232 1)) ≤ x3 → am_Ev d 202 202 [some (.ref 231), some (.long y1), none, some (.int x3)] [] (fm_mk S) r) (kf : ¬ (3 * (S.1 232 1)) ≤ x3 → am_Ev d 202 170 [some (.ref 231), some (.long y1), none, some (.int x3)] [] (fm_mk S) r) : am_Ev d 202 158 [some (.ref 231), some (.long y1), none, some (.int x3)] [] (fm_mk S) r := by
  refine fs_iloadn (j := 3) (by decide +kernel) rfl ?_
  refine fs_iconst (n := 3) (v := 3) (by decide +kernel) (by decide) ?_
  refine fs_aloadn (j := 0) (by decide +kernel) rfl ?_
  refine fe_getR (idx := 7) (t := 8) (f := 0) (fk := 2) (fin := 1) (wp := 943) (x := 232) (by decide +kernel) (by decide +kernel) (by decide +kernel) (by decide +kernel) (by decide +kernel) ?_
  refine fs_iconst (n := 1) (v := 1) (by decide +kernel) (by decide) ?_
  refine fx_iald (n := 1) (len := 373) (by decide +kernel) (by decide +kernel) (by decide +kernel) (vp_c (by decide) (by decide)) (by decide) ?_
  refine fs_imul (by decide +kernel) ?_
  exact fs_icge (off := 35) (tgt := 202) (by decide +kernel) (by decide) kt kf
theorem b202_170 {d : Nat} {y1 : Int64} {x3 : Int32} {S : fm_S} {r : Option Value × am_W} (hi0 : vp_in ((125 + (6 * (x3 - x3 / 3 * 3))) + (x3 / 3)) 373) (nx : am_Ev d 202 158 [some (.ref 231), some (.long ((31 * y1) + ((S.1 232 (((125 + (6 * (x3 - x3 / 3 * 3))) + (x3 / 3)).toNatClampNeg)).toInt64))), none, some (.int (x3 + 1))] [] (fm_mk S) r) : am_Ev d 202 170 [some (.ref 231), some (.long y1), none, some (.int x3)] [] (fm_mk S) r := by
  refine fs_ldc2 (idx := 255) (q := 1297) (v := 31) (by decide +kernel) (by decide +kernel) ?_
  refine fs_lloadn (j := 1) (by decide +kernel) rfl ?_
  refine fs_lmul (by decide +kernel) ?_
  refine fs_aloadn (j := 0) (by decide +kernel) rfl ?_
  refine fe_getR (idx := 7) (t := 8) (f := 0) (fk := 2) (fin := 1) (wp := 943) (x := 232) (by decide +kernel) (by decide +kernel) (by decide +kernel) (by decide +kernel) (by decide +kernel) ?_
  refine fs_bipush (n := 125) (v := 125) (by decide +kernel) (by decide) ?_
  refine fs_bipush (n := 6) (v := 6) (by decide +kernel) (by decide) ?_
  refine fs_iloadn (j := 3) (by decide +kernel) rfl ?_
  refine fs_iconst (n := 3) (v := 3) (by decide +kernel) (by decide) ?_
  refine fe_irem (by decide +kernel) (by decide) ?_
  refine fs_imul (by decide +kernel) ?_
  refine fs_iadd (by decide +kernel) ?_
  refine fs_iloadn (j := 3) (by decide +kernel) rfl ?_
  refine fs_iconst (n := 3) (v := 3) (by decide +kernel) (by decide) ?_
  refine fe_idiv (by decide +kernel) (by decide) ?_
  refine fs_iadd (by decide +kernel) ?_
  refine fx_iald (n := ((125 + (6 * (x3 - x3 / 3 * 3))) + (x3 / 3)).toNatClampNeg) (len := 373) (by decide +kernel) (by decide +kernel) (by decide +kernel) hi0 rfl ?_
  refine fs_i2l (by decide +kernel) ?_
  refine fs_ladd (by decide +kernel) ?_
  refine fs_lstoren (j := 1) (L' := [some (.ref 231), some (.long ((31 * y1) + ((S.1 232 (((125 + (6 * (x3 - x3 / 3 * 3))) + (x3 / 3)).toNatClampNeg)).toInt64))), none, some (.int x3)]) (by decide +kernel) (Nat.le_of_ble_eq_true rfl) rfl ?_
  refine fs_iinc (j := 3) (n := 1) (v := 1) (L' := [some (.ref 231), some (.long ((31 * y1) + ((S.1 232 (((125 + (6 * (x3 - x3 / 3 * 3))) + (x3 / 3)).toNatClampNeg)).toInt64))), none, some (.int (x3 + 1))]) (by decide +kernel) rfl (Nat.le_of_ble_eq_true rfl) (by decide) rfl ?_
  refine fs_goto (off := -41) (tgt := 158) (by decide +kernel) (by decide) ?_
  exact nx
theorem b202_202 {d : Nat} {y1 : Int64} {x3 : Int32} {S : fm_S} {r : Option Value × am_W} (nx : am_Ev d 202 204 [some (.ref 231), some (.long y1), none, some (.int 0)] [] (fm_mk S) r) : am_Ev d 202 202 [some (.ref 231), some (.long y1), none, some (.int x3)] [] (fm_mk S) r := by
  refine fs_iconst (n := 0) (v := 0) (by decide +kernel) (by decide) ?_
  refine fs_istoren (j := 3) (L' := [some (.ref 231), some (.long y1), none, some (.int 0)]) (by decide +kernel) (Nat.le_of_ble_eq_true rfl) rfl ?_
  exact nx
theorem b202_204 {d : Nat} {y1 : Int64} {x3 : Int32} {S : fm_S} {r : Option Value × am_W} (kt : (5 * (S.1 232 2)) ≤ x3 → am_Ev d 202 249 [some (.ref 231), some (.long y1), none, some (.int x3)] [] (fm_mk S) r) (kf : ¬ (5 * (S.1 232 2)) ≤ x3 → am_Ev d 202 216 [some (.ref 231), some (.long y1), none, some (.int x3)] [] (fm_mk S) r) : am_Ev d 202 204 [some (.ref 231), some (.long y1), none, some (.int x3)] [] (fm_mk S) r := by
  refine fs_iloadn (j := 3) (by decide +kernel) rfl ?_
  refine fs_iconst (n := 5) (v := 5) (by decide +kernel) (by decide) ?_
  refine fs_aloadn (j := 0) (by decide +kernel) rfl ?_
  refine fe_getR (idx := 7) (t := 8) (f := 0) (fk := 2) (fin := 1) (wp := 943) (x := 232) (by decide +kernel) (by decide +kernel) (by decide +kernel) (by decide +kernel) (by decide +kernel) ?_
  refine fs_iconst (n := 2) (v := 2) (by decide +kernel) (by decide) ?_
  refine fx_iald (n := 2) (len := 373) (by decide +kernel) (by decide +kernel) (by decide +kernel) (vp_c (by decide) (by decide)) (by decide) ?_
  refine fs_imul (by decide +kernel) ?_
  exact fs_icge (off := 36) (tgt := 249) (by decide +kernel) (by decide) kt kf
theorem b202_216 {d : Nat} {y1 : Int64} {x3 : Int32} {S : fm_S} {r : Option Value × am_W} (hi0 : vp_in ((143 + (6 * (x3 - x3 / 5 * 5))) + (x3 / 5)) 373) (nx : am_Ev d 202 204 [some (.ref 231), some (.long ((31 * y1) + ((S.1 232 (((143 + (6 * (x3 - x3 / 5 * 5))) + (x3 / 5)).toNatClampNeg)).toInt64))), none, some (.int (x3 + 1))] [] (fm_mk S) r) : am_Ev d 202 216 [some (.ref 231), some (.long y1), none, some (.int x3)] [] (fm_mk S) r := by
  refine fs_ldc2 (idx := 255) (q := 1297) (v := 31) (by decide +kernel) (by decide +kernel) ?_
  refine fs_lloadn (j := 1) (by decide +kernel) rfl ?_
  refine fs_lmul (by decide +kernel) ?_
  refine fs_aloadn (j := 0) (by decide +kernel) rfl ?_
  refine fe_getR (idx := 7) (t := 8) (f := 0) (fk := 2) (fin := 1) (wp := 943) (x := 232) (by decide +kernel) (by decide +kernel) (by decide +kernel) (by decide +kernel) (by decide +kernel) ?_
  refine fs_sipush (n := 143) (v := 143) (by decide +kernel) (by decide) ?_
  refine fs_bipush (n := 6) (v := 6) (by decide +kernel) (by decide) ?_
  refine fs_iloadn (j := 3) (by decide +kernel) rfl ?_
  refine fs_iconst (n := 5) (v := 5) (by decide +kernel) (by decide) ?_
  refine fe_irem (by decide +kernel) (by decide) ?_
  refine fs_imul (by decide +kernel) ?_
  refine fs_iadd (by decide +kernel) ?_
  refine fs_iloadn (j := 3) (by decide +kernel) rfl ?_
  refine fs_iconst (n := 5) (v := 5) (by decide +kernel) (by decide) ?_
  refine fe_idiv (by decide +kernel) (by decide) ?_
  refine fs_iadd (by decide +kernel) ?_
  refine fx_iald (n := ((143 + (6 * (x3 - x3 / 5 * 5))) + (x3 / 5)).toNatClampNeg) (len := 373) (by decide +kernel) (by decide +kernel) (by decide +kernel) hi0 rfl ?_
  refine fs_i2l (by decide +kernel) ?_
  refine fs_ladd (by decide +kernel) ?_
  refine fs_lstoren (j := 1) (L' := [some (.ref 231), some (.long ((31 * y1) + ((S.1 232 (((143 + (6 * (x3 - x3 / 5 * 5))) + (x3 / 5)).toNatClampNeg)).toInt64))), none, some (.int x3)]) (by decide +kernel) (Nat.le_of_ble_eq_true rfl) rfl ?_
  refine fs_iinc (j := 3) (n := 1) (v := 1) (L' := [some (.ref 231), some (.long ((31 * y1) + ((S.1 232 (((143 + (6 * (x3 - x3 / 5 * 5))) + (x3 / 5)).toNatClampNeg)).toInt64))), none, some (.int (x3 + 1))]) (by decide +kernel) rfl (Nat.le_of_ble_eq_true rfl) (by decide) rfl ?_
  refine fs_goto (off := -42) (tgt := 204) (by decide +kernel) (by decide) ?_
  exact nx
theorem b202_249 {d : Nat} {y1 : Int64} {x3 : Int32} {S : fm_S}  : am_Ev d 202 249 [some (.ref 231), some (.long y1), none, some (.int x3)] [] (fm_mk S) (some (.long ((31 * ((31 * y1) + (S.2.1 231 6))) + (S.2.1 231 7))), fm_mk S) := by
  refine fs_ldc2 (idx := 255) (q := 1297) (v := 31) (by decide +kernel) (by decide +kernel) ?_
  refine fs_ldc2 (idx := 255) (q := 1297) (v := 31) (by decide +kernel) (by decide +kernel) ?_
  refine fs_lloadn (j := 1) (by decide +kernel) rfl ?_
  refine fs_lmul (by decide +kernel) ?_
  refine fs_aloadn (j := 0) (by decide +kernel) rfl ?_
  refine fe_getL (idx := 230) (t := 8) (f := 6) (fk := 1) (fin := 0) (wp := 949) (by decide +kernel) (by decide +kernel) (by decide +kernel) (by decide +kernel) ?_
  refine fs_ladd (by decide +kernel) ?_
  refine fs_lmul (by decide +kernel) ?_
  refine fs_aloadn (j := 0) (by decide +kernel) rfl ?_
  refine fe_getL (idx := 47) (t := 8) (f := 7) (fk := 1) (fin := 0) (wp := 950) (by decide +kernel) (by decide +kernel) (by decide +kernel) (by decide +kernel) ?_
  refine fs_ladd (by decide +kernel) ?_
  exact fe_retL (by decide +kernel) (by decide +kernel)
