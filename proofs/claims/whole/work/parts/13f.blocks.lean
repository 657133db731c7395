/-! basic blocks: printed by wip/whole/gen13.py -/
-- KitchenSiegeModel.first([I)V
theorem b_M_first_0 {d : Nat} {a0 : Nat} {o1 : Option Value} {S : fm_S} {r : Option Value × am_W} (nx : am_Ev d k_M_first 2 [some (.ref a0), some (.int 0)] [] (fm_mk S) r) : am_Ev d k_M_first 0 [some (.ref a0), o1] [] (fm_mk S) r := by
  refine fs_iconst (n := 0) (v := 0) (by decide +kernel) (by decide) ?_
  refine fs_istoren (j := 1) (L' := [some (.ref a0), some (.int 0)]) (by decide +kernel) (Nat.le_of_ble_eq_true rfl) rfl ?_
  exact nx
theorem b_M_first_2 {d : Nat} {a0 : Nat} {x1 : Int32} {S : fm_S} {r : Option Value × am_W} (kt : 373 ≤ x1 → am_Ev d k_M_first 19 [some (.ref a0), some (.int x1)] [] (fm_mk S) r) (kf : ¬ 373 ≤ x1 → am_Ev d k_M_first 9 [some (.ref a0), some (.int x1)] [] (fm_mk S) r) : am_Ev d k_M_first 2 [some (.ref a0), some (.int x1)] [] (fm_mk S) r := by
  refine fs_iloadn (j := 1) (by decide +kernel) rfl ?_
  refine fs_sipush (n := 373) (v := 373) (by decide +kernel) (by decide) ?_
  exact fs_icge (off := 13) (tgt := 19) (by decide +kernel) (by decide) kt kf
theorem b_M_first_9 {d : Nat} {a0 : Nat} {x1 : Int32} {S : fm_S} {r : Option Value × am_W} (h_a0 : fm_tg a0 = 100) (hi1 : vp_in x1 (fm_ln a0)) (nx : am_Ev d k_M_first 2 [some (.ref a0), some (.int (x1 + 1))] [] (fm_mk (fm_wI S a0 x1.toNatClampNeg 0)) r) : am_Ev d k_M_first 9 [some (.ref a0), some (.int x1)] [] (fm_mk S) r := by
  refine fs_aloadn (j := 0) (by decide +kernel) rfl ?_
  refine fs_iloadn (j := 1) (by decide +kernel) rfl ?_
  refine fs_iconst (n := 0) (v := 0) (by decide +kernel) (by decide) ?_
  refine fx_iast (n := x1.toNatClampNeg) (len := fm_ln a0) (by decide +kernel) h_a0 rfl hi1 rfl ?_
  refine fs_iinc (j := 1) (n := 1) (v := 1) (L' := [some (.ref a0), some (.int (x1 + 1))]) (by decide +kernel) rfl (Nat.le_of_ble_eq_true rfl) (by decide) rfl ?_
  refine fs_goto (off := -14) (tgt := 2) (by decide +kernel) (by decide) ?_
  exact nx
theorem b_M_first_19 {d : Nat} {a0 : Nat} {x1 : Int32} {S : fm_S} {r : Option Value × am_W} (nx : am_Ev d k_M_first 21 [some (.ref a0), some (.int 0)] [] (fm_mk S) r) : am_Ev d k_M_first 19 [some (.ref a0), some (.int x1)] [] (fm_mk S) r := by
  refine fs_iconst (n := 0) (v := 0) (by decide +kernel) (by decide) ?_
  refine fs_istoren (j := 1) (L' := [some (.ref a0), some (.int 0)]) (by decide +kernel) (Nat.le_of_ble_eq_true rfl) rfl ?_
  exact nx
theorem b_M_first_21 {d : Nat} {a0 : Nat} {x1 : Int32} {S : fm_S} {r : Option Value × am_W} (kt : 4 ≤ x1 → am_Ev d k_M_first 39 [some (.ref a0), some (.int x1)] [] (fm_mk S) r) (kf : ¬ 4 ≤ x1 → am_Ev d k_M_first 26 [some (.ref a0), some (.int x1)] [] (fm_mk S) r) : am_Ev d k_M_first 21 [some (.ref a0), some (.int x1)] [] (fm_mk S) r := by
  refine fs_iloadn (j := 1) (by decide +kernel) rfl ?_
  refine fs_iconst (n := 4) (v := 4) (by decide +kernel) (by decide) ?_
  exact fs_icge (off := 16) (tgt := 39) (by decide +kernel) (by decide) kt kf
theorem b_M_first_26 {d : Nat} {a0 : Nat} {x1 : Int32} {S : fm_S} {r : Option Value × am_W} (h_a0 : fm_tg a0 = 100) (hi1 : vp_in (121 + x1) (fm_ln a0)) (nx : am_Ev d k_M_first 21 [some (.ref a0), some (.int (x1 + 1))] [] (fm_mk (fm_wI S a0 ((121 + x1).toNatClampNeg) x1)) r) : am_Ev d k_M_first 26 [some (.ref a0), some (.int x1)] [] (fm_mk S) r := by
  refine fs_aloadn (j := 0) (by decide +kernel) rfl ?_
  refine fs_bipush (n := 121) (v := 121) (by decide +kernel) (by decide) ?_
  refine fs_iloadn (j := 1) (by decide +kernel) rfl ?_
  refine fs_iadd (by decide +kernel) ?_
  refine fs_iloadn (j := 1) (by decide +kernel) rfl ?_
  refine fx_iast (n := (121 + x1).toNatClampNeg) (len := fm_ln a0) (by decide +kernel) h_a0 rfl hi1 rfl ?_
  refine fs_iinc (j := 1) (n := 1) (v := 1) (L' := [some (.ref a0), some (.int (x1 + 1))]) (by decide +kernel) rfl (Nat.le_of_ble_eq_true rfl) (by decide) rfl ?_
  refine fs_goto (off := -15) (tgt := 21) (by decide +kernel) (by decide) ?_
  exact nx
theorem b_M_first_39 {d : Nat} {a0 : Nat} {x1 : Int32} {S : fm_S}  : am_Ev d k_M_first 39 [some (.ref a0), some (.int x1)] [] (fm_mk S) (none, fm_mk S) := by
  exact fe_retV (by decide +kernel) (by decide +kernel)
-- KitchenSiegeModel.town()I
theorem b_M_town_0 {d : Nat} {o1 : Option Value} {S1 : fm_S} {S : fm_S} {r : Option Value × am_W} (hc : am_Sp d k_M_first [.ref 232] (fm_mk S) (none) (fm_mk S1)) (nx : am_Ev (d + 1) k_M_town 14 [some (.ref 231), some (.int (S.1 232 0))] [] (fm_mk S1) r) : am_Ev (d + 1) k_M_town 0 [some (.ref 231), o1] [] (fm_mk S) r := by
  refine fs_aloadn (j := 0) (by decide +kernel) rfl ?_
  refine fe_getR (idx := 7) (t := 8) (f := 0) (fk := 2) (fin := 1) (wp := 945) (x := 232) (by decide +kernel) (by decide +kernel) (by decide +kernel) (by decide +kernel) (by decide +kernel) ?_
  refine fs_iconst (n := 0) (v := 0) (by decide +kernel) (by decide) ?_
  refine fx_iald (n := 0) (len := 373) (by decide +kernel) (by decide +kernel) (by decide +kernel) (vp_c (by decide) (by decide)) (by decide) ?_
  refine fs_istoren (j := 1) (L' := [some (.ref 231), some (.int (S.1 232 0))]) (by decide +kernel) (Nat.le_of_ble_eq_true rfl) rfl ?_
  refine fs_aloadn (j := 0) (by decide +kernel) rfl ?_
  refine fe_getR (idx := 7) (t := 8) (f := 0) (fk := 2) (fin := 1) (wp := 945) (x := 232) (by decide +kernel) (by decide +kernel) (by decide +kernel) (by decide +kernel) (by decide +kernel) ?_
  exact fe_callS (idx := 51) (kd := 0) (n := 1) (wp := 942) (q := (943, 0)) (as := [.ref 232]) (rs := []) (by decide +kernel) (by decide +kernel) (by decide +kernel) (by decide) rfl (Nat.le_of_ble_eq_true rfl) rfl hc nx
theorem b_M_town_14 {d : Nat} {x1 : Int32} {S : fm_S}  : am_Ev d k_M_town 14 [some (.ref 231), some (.int x1)] [] (fm_mk S) (some (.int x1), fm_mk S) := by
  refine fs_iloadn (j := 1) (by decide +kernel) rfl ?_
  exact fe_retI (by decide +kernel) (by decide +kernel)
-- KitchenSiegeModel.street(III)I
theorem b_M_street_0 {d : Nat} {x1 : Int32} {x2 : Int32} {x3 : Int32} {v : Int32} {S1 : fm_S} {S : fm_S} {r : Option Value × am_W} (hc : am_Sp d k_M_in [.long x1.toInt64, .long 0, .long 5] (fm_mk S) (some (.int v)) (fm_mk S1)) (nx : am_Ev (d + 1) k_M_street 9 [some (.ref 231), some (.int x1), some (.int x2), some (.int x3)] [.int v] (fm_mk S1) r) : am_Ev (d + 1) k_M_street 0 [some (.ref 231), some (.int x1), some (.int x2), some (.int x3)] [] (fm_mk S) r := by
  refine fs_iloadn (j := 1) (by decide +kernel) rfl ?_
  refine fs_i2l (by decide +kernel) ?_
  refine fs_lconst (n := 0) (v := 0) (by decide +kernel) (by decide) ?_
  refine fs_ldc2 (idx := 65) (q := 1015) (v := 5) (by decide +kernel) (by decide +kernel) ?_
  exact fe_callS (idx := 67) (kd := 0) (n := 3) (wp := 1016) (q := (1017, 0)) (as := [.long x1.toInt64, .long 0, .long 5]) (rs := []) (by decide +kernel) (by decide +kernel) (by decide +kernel) (by decide) rfl (Nat.le_of_ble_eq_true rfl) rfl hc nx
theorem b_M_street_9 {d : Nat} {x1 : Int32} {x2 : Int32} {x3 : Int32} {sx0 : Int32} {S : fm_S} {r : Option Value × am_W} (kt : sx0 = 0 → am_Ev d k_M_street 36 [some (.ref 231), some (.int x1), some (.int x2), some (.int x3)] [] (fm_mk S) r) (kf : ¬ sx0 = 0 → am_Ev d k_M_street 12 [some (.ref 231), some (.int x1), some (.int x2), some (.int x3)] [] (fm_mk S) r) : am_Ev d k_M_street 9 [some (.ref 231), some (.int x1), some (.int x2), some (.int x3)] [.int sx0] (fm_mk S) r := by
  exact fs_ifeq (off := 27) (tgt := 36) (by decide +kernel) (by decide) kt kf
theorem b_M_street_12 {d : Nat} {x1 : Int32} {x2 : Int32} {x3 : Int32} {v : Int32} {S1 : fm_S} {S : fm_S} {r : Option Value × am_W} (hc : am_Sp d k_M_in [.long x2.toInt64, .long 0, .long 9] (fm_mk S) (some (.int v)) (fm_mk S1)) (nx : am_Ev (d + 1) k_M_street 21 [some (.ref 231), some (.int x1), some (.int x2), some (.int x3)] [.int v] (fm_mk S1) r) : am_Ev (d + 1) k_M_street 12 [some (.ref 231), some (.int x1), some (.int x2), some (.int x3)] [] (fm_mk S) r := by
  refine fs_iloadn (j := 2) (by decide +kernel) rfl ?_
  refine fs_i2l (by decide +kernel) ?_
  refine fs_lconst (n := 0) (v := 0) (by decide +kernel) (by decide) ?_
  refine fs_ldc2 (idx := 71) (q := 1019) (v := 9) (by decide +kernel) (by decide +kernel) ?_
  exact fe_callS (idx := 67) (kd := 0) (n := 3) (wp := 1016) (q := (1017, 0)) (as := [.long x2.toInt64, .long 0, .long 9]) (rs := []) (by decide +kernel) (by decide +kernel) (by decide +kernel) (by decide) rfl (Nat.le_of_ble_eq_true rfl) rfl hc nx
theorem b_M_street_21 {d : Nat} {x1 : Int32} {x2 : Int32} {x3 : Int32} {sx0 : Int32} {S : fm_S} {r : Option Value × am_W} (kt : sx0 = 0 → am_Ev d k_M_street 36 [some (.ref 231), some (.int x1), some (.int x2), some (.int x3)] [] (fm_mk S) r) (kf : ¬ sx0 = 0 → am_Ev d k_M_street 24 [some (.ref 231), some (.int x1), some (.int x2), some (.int x3)] [] (fm_mk S) r) : am_Ev d k_M_street 21 [some (.ref 231), some (.int x1), some (.int x2), some (.int x3)] [.int sx0] (fm_mk S) r := by
  exact fs_ifeq (off := 15) (tgt := 36) (by decide +kernel) (by decide) kt kf
theorem b_M_street_24 {d : Nat} {x1 : Int32} {x2 : Int32} {x3 : Int32} {v : Int32} {S1 : fm_S} {S : fm_S} {r : Option Value × am_W} (hc : am_Sp d k_M_in [.long x3.toInt64, .long 0, .long 5] (fm_mk S) (some (.int v)) (fm_mk S1)) (nx : am_Ev (d + 1) k_M_street 33 [some (.ref 231), some (.int x1), some (.int x2), some (.int x3)] [.int v] (fm_mk S1) r) : am_Ev (d + 1) k_M_street 24 [some (.ref 231), some (.int x1), some (.int x2), some (.int x3)] [] (fm_mk S) r := by
  refine fs_iloadn (j := 3) (by decide +kernel) rfl ?_
  refine fs_i2l (by decide +kernel) ?_
  refine fs_lconst (n := 0) (v := 0) (by decide +kernel) (by decide) ?_
  refine fs_ldc2 (idx := 65) (q := 1015) (v := 5) (by decide +kernel) (by decide +kernel) ?_
  exact fe_callS (idx := 67) (kd := 0) (n := 3) (wp := 1016) (q := (1017, 0)) (as := [.long x3.toInt64, .long 0, .long 5]) (rs := []) (by decide +kernel) (by decide +kernel) (by decide +kernel) (by decide) rfl (Nat.le_of_ble_eq_true rfl) rfl hc nx
theorem b_M_street_33 {d : Nat} {x1 : Int32} {x2 : Int32} {x3 : Int32} {sx0 : Int32} {S : fm_S} {r : Option Value × am_W} (kt : ¬ sx0 = 0 → am_Ev d k_M_street 41 [some (.ref 231), some (.int x1), some (.int x2), some (.int x3)] [] (fm_mk S) r) (kf : sx0 = 0 → am_Ev d k_M_street 36 [some (.ref 231), some (.int x1), some (.int x2), some (.int x3)] [] (fm_mk S) r) : am_Ev d k_M_street 33 [some (.ref 231), some (.int x1), some (.int x2), some (.int x3)] [.int sx0] (fm_mk S) r := by
  exact fs_ifne (off := 8) (tgt := 41) (by decide +kernel) (by decide) kt kf
theorem b_M_street_36 {d : Nat} {x1 : Int32} {x2 : Int32} {x3 : Int32} {v : Int32} {S1 : fm_S} {S : fm_S} {r : Option Value × am_W} (hc : am_Sp d k_M_bad [.ref 231] (fm_mk S) (some (.int v)) (fm_mk S1)) (nx : am_Ev (d + 1) k_M_street 40 [some (.ref 231), some (.int x1), some (.int x2), some (.int x3)] [.int v] (fm_mk S1) r) : am_Ev (d + 1) k_M_street 36 [some (.ref 231), some (.int x1), some (.int x2), some (.int x3)] [] (fm_mk S) r := by
  refine fs_aloadn (j := 0) (by decide +kernel) rfl ?_
  exact fe_callV (t := 8) (idx := 73) (n := 0) (wp := 1020) (q := (1022, 31)) (as := []) (rs := []) (by decide +kernel) (by decide +kernel) (by decide +kernel) (by decide +kernel) rfl (Nat.le_of_ble_eq_true rfl) rfl hc nx
theorem b_M_street_40 {d : Nat} {x1 : Int32} {x2 : Int32} {x3 : Int32} {sx0 : Int32} {S : fm_S}  : am_Ev d k_M_street 40 [some (.ref 231), some (.int x1), some (.int x2), some (.int x3)] [.int sx0] (fm_mk S) (some (.int sx0), fm_mk S) := by
  exact fe_retI (by decide +kernel) (by decide +kernel)
theorem b_M_street_41 {d : Nat} {x1 : Int32} {x2 : Int32} {x3 : Int32} {S : fm_S} {r : Option Value × am_W} (kt : ¬ (S.1 232 0) = 8 → am_Ev d k_M_street 57 [some (.ref 231), some (.int x1), some (.int x2), some (.int x3)] [] (fm_mk S) r) (kf : (S.1 232 0) = 8 → am_Ev d k_M_street 52 [some (.ref 231), some (.int x1), some (.int x2), some (.int x3)] [] (fm_mk S) r) : am_Ev d k_M_street 41 [some (.ref 231), some (.int x1), some (.int x2), some (.int x3)] [] (fm_mk S) r := by
  refine fs_aloadn (j := 0) (by decide +kernel) rfl ?_
  refine fe_getR (idx := 7) (t := 8) (f := 0) (fk := 2) (fin := 1) (wp := 945) (x := 232) (by decide +kernel) (by decide +kernel) (by decide +kernel) (by decide +kernel) (by decide +kernel) ?_
  refine fs_iconst (n := 0) (v := 0) (by decide +kernel) (by decide) ?_
  refine fx_iald (n := 0) (len := 373) (by decide +kernel) (by decide +kernel) (by decide +kernel) (vp_c (by decide) (by decide)) (by decide) ?_
  refine fs_bipush (n := 8) (v := 8) (by decide +kernel) (by decide) ?_
  exact fs_icne (off := 8) (tgt := 57) (by decide +kernel) (by decide) kt kf
theorem b_M_street_52 {d : Nat} {x1 : Int32} {x2 : Int32} {x3 : Int32} {v : Int32} {S1 : fm_S} {S : fm_S} {r : Option Value × am_W} (hc : am_Sp d k_M_full [.ref 231] (fm_mk S) (some (.int v)) (fm_mk S1)) (nx : am_Ev (d + 1) k_M_street 56 [some (.ref 231), some (.int x1), some (.int x2), some (.int x3)] [.int v] (fm_mk S1) r) : am_Ev (d + 1) k_M_street 52 [some (.ref 231), some (.int x1), some (.int x2), some (.int x3)] [] (fm_mk S) r := by
  refine fs_aloadn (j := 0) (by decide +kernel) rfl ?_
  exact fe_callV (t := 8) (idx := 77) (n := 0) (wp := 1024) (q := (1026, 32)) (as := []) (rs := []) (by decide +kernel) (by decide +kernel) (by decide +kernel) (by decide +kernel) rfl (Nat.le_of_ble_eq_true rfl) rfl hc nx
theorem b_M_street_56 {d : Nat} {x1 : Int32} {x2 : Int32} {x3 : Int32} {sx0 : Int32} {S : fm_S}  : am_Ev d k_M_street 56 [some (.ref 231), some (.int x1), some (.int x2), some (.int x3)] [.int sx0] (fm_mk S) (some (.int sx0), fm_mk S) := by
  exact fe_retI (by decide +kernel) (by decide +kernel)
theorem b_M_street_57 {d : Nat} {x1 : Int32} {x2 : Int32} {x3 : Int32} {S1 : fm_S} {S : fm_S} {r : Option Value × am_W} (hc : am_Sp d k_M_addStreet [.ref 232, .int x1, .int x2, .int x3] (fm_mk S) (none) (fm_mk S1)) (nx : am_Ev (d + 1) k_M_street 67 [some (.ref 231), some (.int x1), some (.int x2), some (.int x3)] [] (fm_mk S1) r) : am_Ev (d + 1) k_M_street 57 [some (.ref 231), some (.int x1), some (.int x2), some (.int x3)] [] (fm_mk S) r := by
  refine fs_aloadn (j := 0) (by decide +kernel) rfl ?_
  refine fe_getR (idx := 7) (t := 8) (f := 0) (fk := 2) (fin := 1) (wp := 945) (x := 232) (by decide +kernel) (by decide +kernel) (by decide +kernel) (by decide +kernel) (by decide +kernel) ?_
  refine fs_iloadn (j := 1) (by decide +kernel) rfl ?_
  refine fs_iloadn (j := 2) (by decide +kernel) rfl ?_
  refine fs_iloadn (j := 3) (by decide +kernel) rfl ?_
  exact fe_callS (idx := 80) (kd := 0) (n := 4) (wp := 1028) (q := (1029, 0)) (as := [.ref 232, .int x1, .int x2, .int x3]) (rs := []) (by decide +kernel) (by decide +kernel) (by decide +kernel) (by decide) rfl (Nat.le_of_ble_eq_true rfl) rfl hc nx
theorem b_M_street_67 {d : Nat} {x1 : Int32} {x2 : Int32} {x3 : Int32} {S : fm_S}  : am_Ev d k_M_street 67 [some (.ref 231), some (.int x1), some (.int x2), some (.int x3)] [] (fm_mk S) (some (.int ((S.1 232 0) - 1)), fm_mk S) := by
  refine fs_aloadn (j := 0) (by decide +kernel) rfl ?_
  refine fe_getR (idx := 7) (t := 8) (f := 0) (fk := 2) (fin := 1) (wp := 945) (x := 232) (by decide +kernel) (by decide +kernel) (by decide +kernel) (by decide +kernel) (by decide +kernel) ?_
  refine fs_iconst (n := 0) (v := 0) (by decide +kernel) (by decide) ?_
  refine fx_iald (n := 0) (len := 373) (by decide +kernel) (by decide +kernel) (by decide +kernel) (vp_c (by decide) (by decide)) (by decide) ?_
  refine fs_iconst (n := 1) (v := 1) (by decide +kernel) (by decide) ?_
  refine fs_isub (by decide +kernel) ?_
  exact fe_retI (by decide +kernel) (by decide +kernel)
-- KitchenSiegeModel.in(JJJ)Z
theorem b_M_in_0 {d : Nat} {y0 : Int64} {y2 : Int64} {y4 : Int64} {S : fm_S} {r : Option Value × am_W} (kt : (lg_cmp y0 y2) < 0 → am_Ev d k_M_in 17 [some (.long y0), none, some (.long y2), none, some (.long y4), none] [] (fm_mk S) r) (kf : ¬ (lg_cmp y0 y2) < 0 → am_Ev d k_M_in 6 [some (.long y0), none, some (.long y2), none, some (.long y4), none] [] (fm_mk S) r) : am_Ev d k_M_in 0 [some (.long y0), none, some (.long y2), none, some (.long y4), none] [] (fm_mk S) r := by
  refine fs_lloadn (j := 0) (by decide +kernel) rfl ?_
  refine fs_lloadn (j := 2) (by decide +kernel) rfl ?_
  refine fs_lcmp (by decide +kernel) ?_
  exact fs_iflt (off := 14) (tgt := 17) (by decide +kernel) (by decide) kt kf
theorem b_M_in_6 {d : Nat} {y0 : Int64} {y2 : Int64} {y4 : Int64} {S : fm_S} {r : Option Value × am_W} (kt : 0 < (lg_cmp y0 y4) → am_Ev d k_M_in 17 [some (.long y0), none, some (.long y2), none, some (.long y4), none] [] (fm_mk S) r) (kf : ¬ 0 < (lg_cmp y0 y4) → am_Ev d k_M_in 13 [some (.long y0), none, some (.long y2), none, some (.long y4), none] [] (fm_mk S) r) : am_Ev d k_M_in 6 [some (.long y0), none, some (.long y2), none, some (.long y4), none] [] (fm_mk S) r := by
  refine fs_lloadn (j := 0) (by decide +kernel) rfl ?_
  refine fs_lload (j := 4) (by decide +kernel) rfl ?_
  refine fs_lcmp (by decide +kernel) ?_
  exact fs_ifgt (off := 7) (tgt := 17) (by decide +kernel) (by decide) kt kf
theorem b_M_in_13 {d : Nat} {y0 : Int64} {y2 : Int64} {y4 : Int64} {S : fm_S} {r : Option Value × am_W} (nx : am_Ev d k_M_in 18 [some (.long y0), none, some (.long y2), none, some (.long y4), none] [.int 1] (fm_mk S) r) : am_Ev d k_M_in 13 [some (.long y0), none, some (.long y2), none, some (.long y4), none] [] (fm_mk S) r := by
  refine fs_iconst (n := 1) (v := 1) (by decide +kernel) (by decide) ?_
  refine fs_goto (off := 4) (tgt := 18) (by decide +kernel) (by decide) ?_
  exact nx
theorem b_M_in_17 {d : Nat} {y0 : Int64} {y2 : Int64} {y4 : Int64} {S : fm_S} {r : Option Value × am_W} (nx : am_Ev d k_M_in 18 [some (.long y0), none, some (.long y2), none, some (.long y4), none] [.int 0] (fm_mk S) r) : am_Ev d k_M_in 17 [some (.long y0), none, some (.long y2), none, some (.long y4), none] [] (fm_mk S) r := by
  refine fs_iconst (n := 0) (v := 0) (by decide +kernel) (by decide) ?_
  exact nx
theorem b_M_in_18 {d : Nat} {y0 : Int64} {y2 : Int64} {y4 : Int64} {sx0 : Int32} {S : fm_S}  (hz : sx0 = 0 ∨ sx0 = 1) : am_Ev d k_M_in 18 [some (.long y0), none, some (.long y2), none, some (.long y4), none] [.int sx0] (fm_mk S) (some (.int sx0), fm_mk S) := by
  exact fe_retZ (by decide +kernel) (by decide +kernel) hz
-- KitchenSiegeModel.bad()I
theorem b_M_bad_0 {d : Nat} {S : fm_S}  : am_Ev d k_M_bad 0 [some (.ref 231)] [] (fm_mk S) (some (.int (-2)), fm_mk (fm_wI S 231 8 ((S.1 231 8) + 1))) := by
  refine fs_aloadn (j := 0) (by decide +kernel) rfl ?_
  refine fs_dup (by decide +kernel) rfl ?_
  refine fe_getI (idx := 55) (t := 8) (f := 8) (fk := 0) (fin := 0) (wp := 953) (by decide +kernel) (by decide +kernel) (by decide +kernel) (by decide +kernel) ?_
  refine fs_iconst (n := 1) (v := 1) (by decide +kernel) (by decide) ?_
  refine fs_iadd (by decide +kernel) ?_
  refine fe_putI (idx := 55) (t := 8) (f := 8) (wp := 953) (by decide +kernel) (by decide +kernel) (by decide +kernel) (by decide +kernel) ?_
  refine fs_bipush (n := -2) (v := (-2)) (by decide +kernel) (by decide) ?_
  exact fe_retI (by decide +kernel) (by decide +kernel)
-- KitchenSiegeModel.full()I
theorem b_M_full_0 {d : Nat} {S : fm_S}  : am_Ev d k_M_full 0 [some (.ref 231)] [] (fm_mk S) (some (.int (-4)), fm_mk (fm_wI S 231 10 ((S.1 231 10) + 1))) := by
  refine fs_aloadn (j := 0) (by decide +kernel) rfl ?_
  refine fs_dup (by decide +kernel) rfl ?_
  refine fe_getI (idx := 62) (t := 8) (f := 10) (fk := 0) (fin := 0) (wp := 955) (by decide +kernel) (by decide +kernel) (by decide +kernel) (by decide +kernel) ?_
  refine fs_iconst (n := 1) (v := 1) (by decide +kernel) (by decide) ?_
  refine fs_iadd (by decide +kernel) ?_
  refine fe_putI (idx := 62) (t := 8) (f := 10) (wp := 955) (by decide +kernel) (by decide +kernel) (by decide +kernel) (by decide +kernel) ?_
  refine fs_bipush (n := -4) (v := (-4)) (by decide +kernel) (by decide) ?_
  exact fe_retI (by decide +kernel) (by decide +kernel)
-- KitchenSiegeModel.addStreet([IIII)V
theorem b_M_addStreet_0 {d : Nat} {a0 : Nat} {x1 : Int32} {x2 : Int32} {x3 : Int32} {o4 : Option Value} {S : fm_S}  (h_a0 : fm_tg a0 = 100) (hi1 : vp_in 0 (fm_ln a0)) (hi2 : vp_in (5 + (S.1 a0 ((0 : Int32).toNatClampNeg))) (fm_ln a0)) (hi3 : vp_in (13 + (S.1 a0 ((0 : Int32).toNatClampNeg))) (fm_ln a0)) (hi4 : vp_in (21 + (S.1 a0 ((0 : Int32).toNatClampNeg))) (fm_ln a0)) (hi5 : vp_in (29 + (S.1 a0 ((0 : Int32).toNatClampNeg))) (fm_ln a0)) (hi6 : vp_in (37 + (S.1 a0 ((0 : Int32).toNatClampNeg))) (fm_ln a0)) (hi7 : vp_in (45 + (S.1 a0 ((0 : Int32).toNatClampNeg))) (fm_ln a0)) (hi8 : vp_in 3 (fm_ln a0)) : am_Ev d k_M_addStreet 0 [some (.ref a0), some (.int x1), some (.int x2), some (.int x3), o4] [] (fm_mk S) (none, fm_mk (fm_wI (fm_wI (fm_wI (fm_wI (fm_wI (fm_wI (fm_wI (fm_wI S a0 ((5 + (S.1 a0 ((0 : Int32).toNatClampNeg))).toNatClampNeg) x1) a0 ((13 + (S.1 a0 ((0 : Int32).toNatClampNeg))).toNatClampNeg) x2) a0 ((21 + (S.1 a0 ((0 : Int32).toNatClampNeg))).toNatClampNeg) x3) a0 ((29 + (S.1 a0 ((0 : Int32).toNatClampNeg))).toNatClampNeg) (-1)) a0 ((37 + (S.1 a0 ((0 : Int32).toNatClampNeg))).toNatClampNeg) (-1)) a0 ((45 + (S.1 a0 ((0 : Int32).toNatClampNeg))).toNatClampNeg) 0) a0 ((0 : Int32).toNatClampNeg) (((fm_wI (fm_wI (fm_wI (fm_wI (fm_wI (fm_wI S a0 ((5 + (S.1 a0 ((0 : Int32).toNatClampNeg))).toNatClampNeg) x1) a0 ((13 + (S.1 a0 ((0 : Int32).toNatClampNeg))).toNatClampNeg) x2) a0 ((21 + (S.1 a0 ((0 : Int32).toNatClampNeg))).toNatClampNeg) x3) a0 ((29 + (S.1 a0 ((0 : Int32).toNatClampNeg))).toNatClampNeg) (-1)) a0 ((37 + (S.1 a0 ((0 : Int32).toNatClampNeg))).toNatClampNeg) (-1)) a0 ((45 + (S.1 a0 ((0 : Int32).toNatClampNeg))).toNatClampNeg) 0).1 a0 ((0 : Int32).toNatClampNeg)) + 1)) a0 ((3 : Int32).toNatClampNeg) 0)) := by
  refine fs_aloadn (j := 0) (by decide +kernel) rfl ?_
  refine fs_iconst (n := 0) (v := 0) (by decide +kernel) (by decide) ?_
  refine fx_iald (n := (0 : Int32).toNatClampNeg) (len := fm_ln a0) (by decide +kernel) h_a0 rfl hi1 rfl ?_
  refine fs_istore (j := 4) (L' := [some (.ref a0), some (.int x1), some (.int x2), some (.int x3), some (.int (S.1 a0 ((0 : Int32).toNatClampNeg)))]) (by decide +kernel) (Nat.le_of_ble_eq_true rfl) rfl ?_
  refine fs_aloadn (j := 0) (by decide +kernel) rfl ?_
  refine fs_iconst (n := 5) (v := 5) (by decide +kernel) (by decide) ?_
  refine fs_iload (j := 4) (by decide +kernel) rfl ?_
  refine fs_iadd (by decide +kernel) ?_
  refine fs_iloadn (j := 1) (by decide +kernel) rfl ?_
  refine fx_iast (n := (5 + (S.1 a0 ((0 : Int32).toNatClampNeg))).toNatClampNeg) (len := fm_ln a0) (by decide +kernel) h_a0 rfl hi2 rfl ?_
  refine fs_aloadn (j := 0) (by decide +kernel) rfl ?_
  refine fs_bipush (n := 13) (v := 13) (by decide +kernel) (by decide) ?_
  refine fs_iload (j := 4) (by decide +kernel) rfl ?_
  refine fs_iadd (by decide +kernel) ?_
  refine fs_iloadn (j := 2) (by decide +kernel) rfl ?_
  refine fx_iast (n := (13 + (S.1 a0 ((0 : Int32).toNatClampNeg))).toNatClampNeg) (len := fm_ln a0) (by decide +kernel) h_a0 rfl hi3 rfl ?_
  refine fs_aloadn (j := 0) (by decide +kernel) rfl ?_
  refine fs_bipush (n := 21) (v := 21) (by decide +kernel) (by decide) ?_
  refine fs_iload (j := 4) (by decide +kernel) rfl ?_
  refine fs_iadd (by decide +kernel) ?_
  refine fs_iloadn (j := 3) (by decide +kernel) rfl ?_
  refine fx_iast (n := (21 + (S.1 a0 ((0 : Int32).toNatClampNeg))).toNatClampNeg) (len := fm_ln a0) (by decide +kernel) h_a0 rfl hi4 rfl ?_
  refine fs_aloadn (j := 0) (by decide +kernel) rfl ?_
  refine fs_bipush (n := 29) (v := 29) (by decide +kernel) (by decide) ?_
  refine fs_iload (j := 4) (by decide +kernel) rfl ?_
  refine fs_iadd (by decide +kernel) ?_
  refine fs_iconst (n := -1) (v := (-1)) (by decide +kernel) (by decide) ?_
  refine fx_iast (n := (29 + (S.1 a0 ((0 : Int32).toNatClampNeg))).toNatClampNeg) (len := fm_ln a0) (by decide +kernel) h_a0 rfl hi5 rfl ?_
  refine fs_aloadn (j := 0) (by decide +kernel) rfl ?_
  refine fs_bipush (n := 37) (v := 37) (by decide +kernel) (by decide) ?_
  refine fs_iload (j := 4) (by decide +kernel) rfl ?_
  refine fs_iadd (by decide +kernel) ?_
  refine fs_iconst (n := -1) (v := (-1)) (by decide +kernel) (by decide) ?_
  refine fx_iast (n := (37 + (S.1 a0 ((0 : Int32).toNatClampNeg))).toNatClampNeg) (len := fm_ln a0) (by decide +kernel) h_a0 rfl hi6 rfl ?_
  refine fs_aloadn (j := 0) (by decide +kernel) rfl ?_
  refine fs_bipush (n := 45) (v := 45) (by decide +kernel) (by decide) ?_
  refine fs_iload (j := 4) (by decide +kernel) rfl ?_
  refine fs_iadd (by decide +kernel) ?_
  refine fs_iconst (n := 0) (v := 0) (by decide +kernel) (by decide) ?_
  refine fx_iast (n := (45 + (S.1 a0 ((0 : Int32).toNatClampNeg))).toNatClampNeg) (len := fm_ln a0) (by decide +kernel) h_a0 rfl hi7 rfl ?_
  refine fs_aloadn (j := 0) (by decide +kernel) rfl ?_
  refine fs_iconst (n := 0) (v := 0) (by decide +kernel) (by decide) ?_
  refine fs_dup2 (by decide +kernel) ⟨rfl, rfl⟩ ?_
  refine fx_iald (n := (0 : Int32).toNatClampNeg) (len := fm_ln a0) (by decide +kernel) h_a0 rfl hi1 rfl ?_
  refine fs_iconst (n := 1) (v := 1) (by decide +kernel) (by decide) ?_
  refine fs_iadd (by decide +kernel) ?_
  refine fx_iast (n := (0 : Int32).toNatClampNeg) (len := fm_ln a0) (by decide +kernel) h_a0 rfl hi1 rfl ?_
  refine fs_aloadn (j := 0) (by decide +kernel) rfl ?_
  refine fs_iconst (n := 3) (v := 3) (by decide +kernel) (by decide) ?_
  refine fs_iconst (n := 0) (v := 0) (by decide +kernel) (by decide) ?_
  refine fx_iast (n := (3 : Int32).toNatClampNeg) (len := fm_ln a0) (by decide +kernel) h_a0 rfl hi8 rfl ?_
  exact fe_retV (by decide +kernel) (by decide +kernel)
-- KitchenSiegeModel.lane(II)I
theorem b_M_lane_0 {d : Nat} {x1 : Int32} {x2 : Int32} {v : Int32} {S1 : fm_S} {S : fm_S} {r : Option Value × am_W} (hc : am_Sp d k_M_isStreet [.ref 231, .int x1] (fm_mk S) (some (.int v)) (fm_mk S1)) (nx : am_Ev (d + 1) k_M_lane 5 [some (.ref 231), some (.int x1), some (.int x2)] [.int v] (fm_mk S1) r) : am_Ev (d + 1) k_M_lane 0 [some (.ref 231), some (.int x1), some (.int x2)] [] (fm_mk S) r := by
  refine fs_aloadn (j := 0) (by decide +kernel) rfl ?_
  refine fs_iloadn (j := 1) (by decide +kernel) rfl ?_
  exact fe_callV (t := 8) (idx := 84) (n := 1) (wp := 1035) (q := (1037, 33)) (as := [.int x1]) (rs := []) (by decide +kernel) (by decide +kernel) (by decide +kernel) (by decide +kernel) rfl (Nat.le_of_ble_eq_true rfl) rfl hc nx
theorem b_M_lane_5 {d : Nat} {x1 : Int32} {x2 : Int32} {sx0 : Int32} {S : fm_S} {r : Option Value × am_W} (kt : sx0 = 0 → am_Ev d k_M_lane 21 [some (.ref 231), some (.int x1), some (.int x2)] [] (fm_mk S) r) (kf : ¬ sx0 = 0 → am_Ev d k_M_lane 8 [some (.ref 231), some (.int x1), some (.int x2)] [] (fm_mk S) r) : am_Ev d k_M_lane 5 [some (.ref 231), some (.int x1), some (.int x2)] [.int sx0] (fm_mk S) r := by
  exact fs_ifeq (off := 16) (tgt := 21) (by decide +kernel) (by decide) kt kf
theorem b_M_lane_8 {d : Nat} {x1 : Int32} {x2 : Int32} {v : Int32} {S1 : fm_S} {S : fm_S} {r : Option Value × am_W} (hc : am_Sp d k_M_isStreet [.ref 231, .int x2] (fm_mk S) (some (.int v)) (fm_mk S1)) (nx : am_Ev (d + 1) k_M_lane 13 [some (.ref 231), some (.int x1), some (.int x2)] [.int v] (fm_mk S1) r) : am_Ev (d + 1) k_M_lane 8 [some (.ref 231), some (.int x1), some (.int x2)] [] (fm_mk S) r := by
  refine fs_aloadn (j := 0) (by decide +kernel) rfl ?_
  refine fs_iloadn (j := 2) (by decide +kernel) rfl ?_
  exact fe_callV (t := 8) (idx := 84) (n := 1) (wp := 1035) (q := (1037, 33)) (as := [.int x2]) (rs := []) (by decide +kernel) (by decide +kernel) (by decide +kernel) (by decide +kernel) rfl (Nat.le_of_ble_eq_true rfl) rfl hc nx
theorem b_M_lane_13 {d : Nat} {x1 : Int32} {x2 : Int32} {sx0 : Int32} {S : fm_S} {r : Option Value × am_W} (kt : sx0 = 0 → am_Ev d k_M_lane 21 [some (.ref 231), some (.int x1), some (.int x2)] [] (fm_mk S) r) (kf : ¬ sx0 = 0 → am_Ev d k_M_lane 16 [some (.ref 231), some (.int x1), some (.int x2)] [] (fm_mk S) r) : am_Ev d k_M_lane 13 [some (.ref 231), some (.int x1), some (.int x2)] [.int sx0] (fm_mk S) r := by
  exact fs_ifeq (off := 8) (tgt := 21) (by decide +kernel) (by decide) kt kf
theorem b_M_lane_16 {d : Nat} {x1 : Int32} {x2 : Int32} {S : fm_S} {r : Option Value × am_W} (kt : ¬ x1 = x2 → am_Ev d k_M_lane 26 [some (.ref 231), some (.int x1), some (.int x2)] [] (fm_mk S) r) (kf : x1 = x2 → am_Ev d k_M_lane 21 [some (.ref 231), some (.int x1), some (.int x2)] [] (fm_mk S) r) : am_Ev d k_M_lane 16 [some (.ref 231), some (.int x1), some (.int x2)] [] (fm_mk S) r := by
  refine fs_iloadn (j := 1) (by decide +kernel) rfl ?_
  refine fs_iloadn (j := 2) (by decide +kernel) rfl ?_
  exact fs_icne (off := 8) (tgt := 26) (by decide +kernel) (by decide) kt kf
theorem b_M_lane_21 {d : Nat} {x1 : Int32} {x2 : Int32} {v : Int32} {S1 : fm_S} {S : fm_S} {r : Option Value × am_W} (hc : am_Sp d k_M_bad [.ref 231] (fm_mk S) (some (.int v)) (fm_mk S1)) (nx : am_Ev (d + 1) k_M_lane 25 [some (.ref 231), some (.int x1), some (.int x2)] [.int v] (fm_mk S1) r) : am_Ev (d + 1) k_M_lane 21 [some (.ref 231), some (.int x1), some (.int x2)] [] (fm_mk S) r := by
  refine fs_aloadn (j := 0) (by decide +kernel) rfl ?_
  exact fe_callV (t := 8) (idx := 73) (n := 0) (wp := 1020) (q := (1022, 31)) (as := []) (rs := []) (by decide +kernel) (by decide +kernel) (by decide +kernel) (by decide +kernel) rfl (Nat.le_of_ble_eq_true rfl) rfl hc nx
theorem b_M_lane_25 {d : Nat} {x1 : Int32} {x2 : Int32} {sx0 : Int32} {S : fm_S}  : am_Ev d k_M_lane 25 [some (.ref 231), some (.int x1), some (.int x2)] [.int sx0] (fm_mk S) (some (.int sx0), fm_mk S) := by
  exact fe_retI (by decide +kernel) (by decide +kernel)
theorem b_M_lane_26 {d : Nat} {x1 : Int32} {x2 : Int32} {S : fm_S} {r : Option Value × am_W} (hi0 : vp_in ((53 + (8 * x1)) + x2) 373) (kt : ¬ (S.1 232 (((53 + (8 * x1)) + x2).toNatClampNeg)) = 1 → am_Ev d k_M_lane 49 [some (.ref 231), some (.int x1), some (.int x2)] [] (fm_mk S) r) (kf : (S.1 232 (((53 + (8 * x1)) + x2).toNatClampNeg)) = 1 → am_Ev d k_M_lane 44 [some (.ref 231), some (.int x1), some (.int x2)] [] (fm_mk S) r) : am_Ev d k_M_lane 26 [some (.ref 231), some (.int x1), some (.int x2)] [] (fm_mk S) r := by
  refine fs_aloadn (j := 0) (by decide +kernel) rfl ?_
  refine fe_getR (idx := 7) (t := 8) (f := 0) (fk := 2) (fin := 1) (wp := 945) (x := 232) (by decide +kernel) (by decide +kernel) (by decide +kernel) (by decide +kernel) (by decide +kernel) ?_
  refine fs_bipush (n := 53) (v := 53) (by decide +kernel) (by decide) ?_
  refine fs_bipush (n := 8) (v := 8) (by decide +kernel) (by decide) ?_
  refine fs_iloadn (j := 1) (by decide +kernel) rfl ?_
  refine fs_imul (by decide +kernel) ?_
  refine fs_iadd (by decide +kernel) ?_
  refine fs_iloadn (j := 2) (by decide +kernel) rfl ?_
  refine fs_iadd (by decide +kernel) ?_
  refine fx_iald (n := ((53 + (8 * x1)) + x2).toNatClampNeg) (len := 373) (by decide +kernel) (by decide +kernel) (by decide +kernel) hi0 rfl ?_
  refine fs_iconst (n := 1) (v := 1) (by decide +kernel) (by decide) ?_
  exact fs_icne (off := 8) (tgt := 49) (by decide +kernel) (by decide) kt kf
theorem b_M_lane_44 {d : Nat} {x1 : Int32} {x2 : Int32} {v : Int32} {S1 : fm_S} {S : fm_S} {r : Option Value × am_W} (hc : am_Sp d k_M_no [.ref 231] (fm_mk S) (some (.int v)) (fm_mk S1)) (nx : am_Ev (d + 1) k_M_lane 48 [some (.ref 231), some (.int x1), some (.int x2)] [.int v] (fm_mk S1) r) : am_Ev (d + 1) k_M_lane 44 [some (.ref 231), some (.int x1), some (.int x2)] [] (fm_mk S) r := by
  refine fs_aloadn (j := 0) (by decide +kernel) rfl ?_
  exact fe_callV (t := 8) (idx := 88) (n := 0) (wp := 1039) (q := (1041, 34)) (as := []) (rs := []) (by decide +kernel) (by decide +kernel) (by decide +kernel) (by decide +kernel) rfl (Nat.le_of_ble_eq_true rfl) rfl hc nx
theorem b_M_lane_48 {d : Nat} {x1 : Int32} {x2 : Int32} {sx0 : Int32} {S : fm_S}  : am_Ev d k_M_lane 48 [some (.ref 231), some (.int x1), some (.int x2)] [.int sx0] (fm_mk S) (some (.int sx0), fm_mk S) := by
  exact fe_retI (by decide +kernel) (by decide +kernel)
theorem b_M_lane_49 {d : Nat} {x1 : Int32} {x2 : Int32} {S1 : fm_S} {S : fm_S} {r : Option Value × am_W} (hc : am_Sp d k_M_addLane [.ref 232, .int x1, .int x2] (fm_mk S) (none) (fm_mk S1)) (nx : am_Ev (d + 1) k_M_lane 58 [some (.ref 231), some (.int x1), some (.int x2)] [] (fm_mk S1) r) : am_Ev (d + 1) k_M_lane 49 [some (.ref 231), some (.int x1), some (.int x2)] [] (fm_mk S) r := by
  refine fs_aloadn (j := 0) (by decide +kernel) rfl ?_
  refine fe_getR (idx := 7) (t := 8) (f := 0) (fk := 2) (fin := 1) (wp := 945) (x := 232) (by decide +kernel) (by decide +kernel) (by decide +kernel) (by decide +kernel) (by decide +kernel) ?_
  refine fs_iloadn (j := 1) (by decide +kernel) rfl ?_
  refine fs_iloadn (j := 2) (by decide +kernel) rfl ?_
  exact fe_callS (idx := 91) (kd := 0) (n := 3) (wp := 1043) (q := (1044, 0)) (as := [.ref 232, .int x1, .int x2]) (rs := []) (by decide +kernel) (by decide +kernel) (by decide +kernel) (by decide) rfl (Nat.le_of_ble_eq_true rfl) rfl hc nx
theorem b_M_lane_58 {d : Nat} {x1 : Int32} {x2 : Int32} {S : fm_S}  : am_Ev d k_M_lane 58 [some (.ref 231), some (.int x1), some (.int x2)] [] (fm_mk S) (some (.int 1), fm_mk S) := by
  refine fs_iconst (n := 1) (v := 1) (by decide +kernel) (by decide) ?_
  exact fe_retI (by decide +kernel) (by decide +kernel)
-- KitchenSiegeModel.isStreet(I)Z
theorem b_M_isStreet_0 {d : Nat} {x1 : Int32} {v : Int32} {S1 : fm_S} {S : fm_S} {r : Option Value × am_W} (hc : am_Sp d k_M_in [.long x1.toInt64, .long 0, .long (((S.1 232 0) - 1).toInt64)] (fm_mk S) (some (.int v)) (fm_mk S1)) (nx : am_Ev (d + 1) k_M_isStreet 15 [some (.ref 231), some (.int x1)] [.int v] (fm_mk S1) r) : am_Ev (d + 1) k_M_isStreet 0 [some (.ref 231), some (.int x1)] [] (fm_mk S) r := by
  refine fs_iloadn (j := 1) (by decide +kernel) rfl ?_
  refine fs_i2l (by decide +kernel) ?_
  refine fs_lconst (n := 0) (v := 0) (by decide +kernel) (by decide) ?_
  refine fs_aloadn (j := 0) (by decide +kernel) rfl ?_
  refine fe_getR (idx := 7) (t := 8) (f := 0) (fk := 2) (fin := 1) (wp := 945) (x := 232) (by decide +kernel) (by decide +kernel) (by decide +kernel) (by decide +kernel) (by decide +kernel) ?_
  refine fs_iconst (n := 0) (v := 0) (by decide +kernel) (by decide) ?_
  refine fx_iald (n := 0) (len := 373) (by decide +kernel) (by decide +kernel) (by decide +kernel) (vp_c (by decide) (by decide)) (by decide) ?_
  refine fs_iconst (n := 1) (v := 1) (by decide +kernel) (by decide) ?_
  refine fs_isub (by decide +kernel) ?_
  refine fs_i2l (by decide +kernel) ?_
  exact fe_callS (idx := 67) (kd := 0) (n := 3) (wp := 1016) (q := (1017, 0)) (as := [.long x1.toInt64, .long 0, .long (((S.1 232 0) - 1).toInt64)]) (rs := []) (by decide +kernel) (by decide +kernel) (by decide +kernel) (by decide) rfl (Nat.le_of_ble_eq_true rfl) rfl hc nx
theorem b_M_isStreet_15 {d : Nat} {x1 : Int32} {sx0 : Int32} {S : fm_S}  (hz : sx0 = 0 ∨ sx0 = 1) : am_Ev d k_M_isStreet 15 [some (.ref 231), some (.int x1)] [.int sx0] (fm_mk S) (some (.int sx0), fm_mk S) := by
  exact fe_retZ (by decide +kernel) (by decide +kernel) hz
-- KitchenSiegeModel.no()I
theorem b_M_no_0 {d : Nat} {S : fm_S}  : am_Ev d k_M_no 0 [some (.ref 231)] [] (fm_mk S) (some (.int (-3)), fm_mk (fm_wI S 231 9 ((S.1 231 9) + 1))) := by
  refine fs_aloadn (j := 0) (by decide +kernel) rfl ?_
  refine fs_dup (by decide +kernel) rfl ?_
  refine fe_getI (idx := 59) (t := 8) (f := 9) (fk := 0) (fin := 0) (wp := 954) (by decide +kernel) (by decide +kernel) (by decide +kernel) (by decide +kernel) ?_
  refine fs_iconst (n := 1) (v := 1) (by decide +kernel) (by decide) ?_
  refine fs_iadd (by decide +kernel) ?_
  refine fe_putI (idx := 59) (t := 8) (f := 9) (wp := 954) (by decide +kernel) (by decide +kernel) (by decide +kernel) (by decide +kernel) ?_
  refine fs_bipush (n := -3) (v := (-3)) (by decide +kernel) (by decide) ?_
  exact fe_retI (by decide +kernel) (by decide +kernel)
-- KitchenSiegeModel.addLane([III)V
theorem b_M_addLane_0 {d : Nat} {a0 : Nat} {x1 : Int32} {x2 : Int32} {S : fm_S}  (h_a0 : fm_tg a0 = 100) (hi1 : vp_in ((53 + (8 * x1)) + x2) (fm_ln a0)) (hi2 : vp_in ((53 + (8 * x2)) + x1) (fm_ln a0)) : am_Ev d k_M_addLane 0 [some (.ref a0), some (.int x1), some (.int x2)] [] (fm_mk S) (none, fm_mk (fm_wI (fm_wI S a0 (((53 + (8 * x1)) + x2).toNatClampNeg) 1) a0 (((53 + (8 * x2)) + x1).toNatClampNeg) 1)) := by
  refine fs_aloadn (j := 0) (by decide +kernel) rfl ?_
  refine fs_bipush (n := 53) (v := 53) (by decide +kernel) (by decide) ?_
  refine fs_bipush (n := 8) (v := 8) (by decide +kernel) (by decide) ?_
  refine fs_iloadn (j := 1) (by decide +kernel) rfl ?_
  refine fs_imul (by decide +kernel) ?_
  refine fs_iadd (by decide +kernel) ?_
  refine fs_iloadn (j := 2) (by decide +kernel) rfl ?_
  refine fs_iadd (by decide +kernel) ?_
  refine fs_iconst (n := 1) (v := 1) (by decide +kernel) (by decide) ?_
  refine fx_iast (n := ((53 + (8 * x1)) + x2).toNatClampNeg) (len := fm_ln a0) (by decide +kernel) h_a0 rfl hi1 rfl ?_
  refine fs_aloadn (j := 0) (by decide +kernel) rfl ?_
  refine fs_bipush (n := 53) (v := 53) (by decide +kernel) (by decide) ?_
  refine fs_bipush (n := 8) (v := 8) (by decide +kernel) (by decide) ?_
  refine fs_iloadn (j := 2) (by decide +kernel) rfl ?_
  refine fs_imul (by decide +kernel) ?_
  refine fs_iadd (by decide +kernel) ?_
  refine fs_iloadn (j := 1) (by decide +kernel) rfl ?_
  refine fs_iadd (by decide +kernel) ?_
  refine fs_iconst (n := 1) (v := 1) (by decide +kernel) (by decide) ?_
  refine fx_iast (n := ((53 + (8 * x2)) + x1).toNatClampNeg) (len := fm_ln a0) (by decide +kernel) h_a0 rfl hi2 rfl ?_
  exact fe_retV (by decide +kernel) (by decide +kernel)
-- KitchenSiegeModel.gate(II)I
theorem b_M_gate_0 {d : Nat} {x1 : Int32} {x2 : Int32} {o3 : Option Value} {v : Int32} {S1 : fm_S} {S : fm_S} {r : Option Value × am_W} (hc : am_Sp d k_M_in [.long x1.toInt64, .long 0, .long 3] (fm_mk S) (some (.int v)) (fm_mk S1)) (nx : am_Ev (d + 1) k_M_gate 9 [some (.ref 231), some (.int x1), some (.int x2), o3] [.int v] (fm_mk S1) r) : am_Ev (d + 1) k_M_gate 0 [some (.ref 231), some (.int x1), some (.int x2), o3] [] (fm_mk S) r := by
  refine fs_iloadn (j := 1) (by decide +kernel) rfl ?_
  refine fs_i2l (by decide +kernel) ?_
  refine fs_lconst (n := 0) (v := 0) (by decide +kernel) (by decide) ?_
  refine fs_ldc2 (idx := 95) (q := 1050) (v := 3) (by decide +kernel) (by decide +kernel) ?_
  exact fe_callS (idx := 67) (kd := 0) (n := 3) (wp := 1016) (q := (1017, 0)) (as := [.long x1.toInt64, .long 0, .long 3]) (rs := []) (by decide +kernel) (by decide +kernel) (by decide +kernel) (by decide) rfl (Nat.le_of_ble_eq_true rfl) rfl hc nx
theorem b_M_gate_9 {d : Nat} {x1 : Int32} {x2 : Int32} {o3 : Option Value} {sx0 : Int32} {S : fm_S} {r : Option Value × am_W} (kt : sx0 = 0 → am_Ev d k_M_gate 20 [some (.ref 231), some (.int x1), some (.int x2), o3] [] (fm_mk S) r) (kf : ¬ sx0 = 0 → am_Ev d k_M_gate 12 [some (.ref 231), some (.int x1), some (.int x2), o3] [] (fm_mk S) r) : am_Ev d k_M_gate 9 [some (.ref 231), some (.int x1), some (.int x2), o3] [.int sx0] (fm_mk S) r := by
  exact fs_ifeq (off := 11) (tgt := 20) (by decide +kernel) (by decide) kt kf
theorem b_M_gate_12 {d : Nat} {x1 : Int32} {x2 : Int32} {o3 : Option Value} {v : Int32} {S1 : fm_S} {S : fm_S} {r : Option Value × am_W} (hc : am_Sp d k_M_isStreet [.ref 231, .int x2] (fm_mk S) (some (.int v)) (fm_mk S1)) (nx : am_Ev (d + 1) k_M_gate 17 [some (.ref 231), some (.int x1), some (.int x2), o3] [.int v] (fm_mk S1) r) : am_Ev (d + 1) k_M_gate 12 [some (.ref 231), some (.int x1), some (.int x2), o3] [] (fm_mk S) r := by
  refine fs_aloadn (j := 0) (by decide +kernel) rfl ?_
  refine fs_iloadn (j := 2) (by decide +kernel) rfl ?_
  exact fe_callV (t := 8) (idx := 84) (n := 1) (wp := 1035) (q := (1037, 33)) (as := [.int x2]) (rs := []) (by decide +kernel) (by decide +kernel) (by decide +kernel) (by decide +kernel) rfl (Nat.le_of_ble_eq_true rfl) rfl hc nx
theorem b_M_gate_17 {d : Nat} {x1 : Int32} {x2 : Int32} {o3 : Option Value} {sx0 : Int32} {S : fm_S} {r : Option Value × am_W} (kt : ¬ sx0 = 0 → am_Ev d k_M_gate 25 [some (.ref 231), some (.int x1), some (.int x2), o3] [] (fm_mk S) r) (kf : sx0 = 0 → am_Ev d k_M_gate 20 [some (.ref 231), some (.int x1), some (.int x2), o3] [] (fm_mk S) r) : am_Ev d k_M_gate 17 [some (.ref 231), some (.int x1), some (.int x2), o3] [.int sx0] (fm_mk S) r := by
  exact fs_ifne (off := 8) (tgt := 25) (by decide +kernel) (by decide) kt kf
theorem b_M_gate_20 {d : Nat} {x1 : Int32} {x2 : Int32} {o3 : Option Value} {v : Int32} {S1 : fm_S} {S : fm_S} {r : Option Value × am_W} (hc : am_Sp d k_M_bad [.ref 231] (fm_mk S) (some (.int v)) (fm_mk S1)) (nx : am_Ev (d + 1) k_M_gate 24 [some (.ref 231), some (.int x1), some (.int x2), o3] [.int v] (fm_mk S1) r) : am_Ev (d + 1) k_M_gate 20 [some (.ref 231), some (.int x1), some (.int x2), o3] [] (fm_mk S) r := by
  refine fs_aloadn (j := 0) (by decide +kernel) rfl ?_
  exact fe_callV (t := 8) (idx := 73) (n := 0) (wp := 1020) (q := (1022, 31)) (as := []) (rs := []) (by decide +kernel) (by decide +kernel) (by decide +kernel) (by decide +kernel) rfl (Nat.le_of_ble_eq_true rfl) rfl hc nx
theorem b_M_gate_24 {d : Nat} {x1 : Int32} {x2 : Int32} {o3 : Option Value} {sx0 : Int32} {S : fm_S}  : am_Ev d k_M_gate 24 [some (.ref 231), some (.int x1), some (.int x2), o3] [.int sx0] (fm_mk S) (some (.int sx0), fm_mk S) := by
  exact fe_retI (by decide +kernel) (by decide +kernel)
theorem b_M_gate_25 {d : Nat} {x1 : Int32} {x2 : Int32} {o3 : Option Value} {S : fm_S}  (hi0 : vp_in (117 + x1) 373) : am_Ev d k_M_gate 25 [some (.ref 231), some (.int x1), some (.int x2), o3] [] (fm_mk S) (some (.int (S.1 232 ((117 + x1).toNatClampNeg))), fm_mk (fm_wI S 232 ((117 + x1).toNatClampNeg) x2)) := by
  refine fs_aloadn (j := 0) (by decide +kernel) rfl ?_
  refine fe_getR (idx := 7) (t := 8) (f := 0) (fk := 2) (fin := 1) (wp := 945) (x := 232) (by decide +kernel) (by decide +kernel) (by decide +kernel) (by decide +kernel) (by decide +kernel) ?_
  refine fs_bipush (n := 117) (v := 117) (by decide +kernel) (by decide) ?_
  refine fs_iloadn (j := 1) (by decide +kernel) rfl ?_
  refine fs_iadd (by decide +kernel) ?_
  refine fx_iald (n := (117 + x1).toNatClampNeg) (len := 373) (by decide +kernel) (by decide +kernel) (by decide +kernel) hi0 rfl ?_
  refine fs_istoren (j := 3) (L' := [some (.ref 231), some (.int x1), some (.int x2), some (.int (S.1 232 ((117 + x1).toNatClampNeg)))]) (by decide +kernel) (Nat.le_of_ble_eq_true rfl) rfl ?_
  refine fs_aloadn (j := 0) (by decide +kernel) rfl ?_
  refine fe_getR (idx := 7) (t := 8) (f := 0) (fk := 2) (fin := 1) (wp := 945) (x := 232) (by decide +kernel) (by decide +kernel) (by decide +kernel) (by decide +kernel) (by decide +kernel) ?_
  refine fs_bipush (n := 117) (v := 117) (by decide +kernel) (by decide) ?_
  refine fs_iloadn (j := 1) (by decide +kernel) rfl ?_
  refine fs_iadd (by decide +kernel) ?_
  refine fs_iloadn (j := 2) (by decide +kernel) rfl ?_
  refine fx_iast (n := (117 + x1).toNatClampNeg) (len := 373) (by decide +kernel) (by decide +kernel) (by decide +kernel) hi0 rfl ?_
  refine fs_iloadn (j := 3) (by decide +kernel) rfl ?_
  exact fe_retI (by decide +kernel) (by decide +kernel)
-- KitchenSiegeModel.wind(II)I
theorem b_M_wind_0 {d : Nat} {x1 : Int32} {x2 : Int32} {o3 : Option Value} {v : Int32} {S1 : fm_S} {S : fm_S} {r : Option Value × am_W} (hc : am_Sp d k_M_in [.long x1.toInt64, .long 0, .long 3] (fm_mk S) (some (.int v)) (fm_mk S1)) (nx : am_Ev (d + 1) k_M_wind 9 [some (.ref 231), some (.int x1), some (.int x2), o3] [.int v] (fm_mk S1) r) : am_Ev (d + 1) k_M_wind 0 [some (.ref 231), some (.int x1), some (.int x2), o3] [] (fm_mk S) r := by
  refine fs_iloadn (j := 1) (by decide +kernel) rfl ?_
  refine fs_i2l (by decide +kernel) ?_
  refine fs_lconst (n := 0) (v := 0) (by decide +kernel) (by decide) ?_
  refine fs_ldc2 (idx := 95) (q := 1050) (v := 3) (by decide +kernel) (by decide +kernel) ?_
  exact fe_callS (idx := 67) (kd := 0) (n := 3) (wp := 1016) (q := (1017, 0)) (as := [.long x1.toInt64, .long 0, .long 3]) (rs := []) (by decide +kernel) (by decide +kernel) (by decide +kernel) (by decide) rfl (Nat.le_of_ble_eq_true rfl) rfl hc nx
theorem b_M_wind_9 {d : Nat} {x1 : Int32} {x2 : Int32} {o3 : Option Value} {sx0 : Int32} {S : fm_S} {r : Option Value × am_W} (kt : sx0 = 0 → am_Ev d k_M_wind 24 [some (.ref 231), some (.int x1), some (.int x2), o3] [] (fm_mk S) r) (kf : ¬ sx0 = 0 → am_Ev d k_M_wind 12 [some (.ref 231), some (.int x1), some (.int x2), o3] [] (fm_mk S) r) : am_Ev d k_M_wind 9 [some (.ref 231), some (.int x1), some (.int x2), o3] [.int sx0] (fm_mk S) r := by
  exact fs_ifeq (off := 15) (tgt := 24) (by decide +kernel) (by decide) kt kf
theorem b_M_wind_12 {d : Nat} {x1 : Int32} {x2 : Int32} {o3 : Option Value} {v : Int32} {S1 : fm_S} {S : fm_S} {r : Option Value × am_W} (hc : am_Sp d k_M_in [.long x2.toInt64, .long 0, .long 3] (fm_mk S) (some (.int v)) (fm_mk S1)) (nx : am_Ev (d + 1) k_M_wind 21 [some (.ref 231), some (.int x1), some (.int x2), o3] [.int v] (fm_mk S1) r) : am_Ev (d + 1) k_M_wind 12 [some (.ref 231), some (.int x1), some (.int x2), o3] [] (fm_mk S) r := by
  refine fs_iloadn (j := 2) (by decide +kernel) rfl ?_
  refine fs_i2l (by decide +kernel) ?_
  refine fs_lconst (n := 0) (v := 0) (by decide +kernel) (by decide) ?_
  refine fs_ldc2 (idx := 95) (q := 1050) (v := 3) (by decide +kernel) (by decide +kernel) ?_
  exact fe_callS (idx := 67) (kd := 0) (n := 3) (wp := 1016) (q := (1017, 0)) (as := [.long x2.toInt64, .long 0, .long 3]) (rs := []) (by decide +kernel) (by decide +kernel) (by decide +kernel) (by decide) rfl (Nat.le_of_ble_eq_true rfl) rfl hc nx
theorem b_M_wind_21 {d : Nat} {x1 : Int32} {x2 : Int32} {o3 : Option Value} {sx0 : Int32} {S : fm_S} {r : Option Value × am_W} (kt : ¬ sx0 = 0 → am_Ev d k_M_wind 29 [some (.ref 231), some (.int x1), some (.int x2), o3] [] (fm_mk S) r) (kf : sx0 = 0 → am_Ev d k_M_wind 24 [some (.ref 231), some (.int x1), some (.int x2), o3] [] (fm_mk S) r) : am_Ev d k_M_wind 21 [some (.ref 231), some (.int x1), some (.int x2), o3] [.int sx0] (fm_mk S) r := by
  exact fs_ifne (off := 8) (tgt := 29) (by decide +kernel) (by decide) kt kf
theorem b_M_wind_24 {d : Nat} {x1 : Int32} {x2 : Int32} {o3 : Option Value} {v : Int32} {S1 : fm_S} {S : fm_S} {r : Option Value × am_W} (hc : am_Sp d k_M_bad [.ref 231] (fm_mk S) (some (.int v)) (fm_mk S1)) (nx : am_Ev (d + 1) k_M_wind 28 [some (.ref 231), some (.int x1), some (.int x2), o3] [.int v] (fm_mk S1) r) : am_Ev (d + 1) k_M_wind 24 [some (.ref 231), some (.int x1), some (.int x2), o3] [] (fm_mk S) r := by
  refine fs_aloadn (j := 0) (by decide +kernel) rfl ?_
  exact fe_callV (t := 8) (idx := 73) (n := 0) (wp := 1020) (q := (1022, 31)) (as := []) (rs := []) (by decide +kernel) (by decide +kernel) (by decide +kernel) (by decide +kernel) rfl (Nat.le_of_ble_eq_true rfl) rfl hc nx
theorem b_M_wind_28 {d : Nat} {x1 : Int32} {x2 : Int32} {o3 : Option Value} {sx0 : Int32} {S : fm_S}  : am_Ev d k_M_wind 28 [some (.ref 231), some (.int x1), some (.int x2), o3] [.int sx0] (fm_mk S) (some (.int sx0), fm_mk S) := by
  exact fe_retI (by decide +kernel) (by decide +kernel)
theorem b_M_wind_29 {d : Nat} {x1 : Int32} {x2 : Int32} {o3 : Option Value} {S : fm_S}  (hi0 : vp_in (121 + x1) 373) : am_Ev d k_M_wind 29 [some (.ref 231), some (.int x1), some (.int x2), o3] [] (fm_mk S) (some (.int (S.1 232 ((121 + x1).toNatClampNeg))), fm_mk (fm_wI S 232 ((121 + x1).toNatClampNeg) x2)) := by
  refine fs_aloadn (j := 0) (by decide +kernel) rfl ?_
  refine fe_getR (idx := 7) (t := 8) (f := 0) (fk := 2) (fin := 1) (wp := 945) (x := 232) (by decide +kernel) (by decide +kernel) (by decide +kernel) (by decide +kernel) (by decide +kernel) ?_
  refine fs_bipush (n := 121) (v := 121) (by decide +kernel) (by decide) ?_
  refine fs_iloadn (j := 1) (by decide +kernel) rfl ?_
  refine fs_iadd (by decide +kernel) ?_
  refine fx_iald (n := (121 + x1).toNatClampNeg) (len := 373) (by decide +kernel) (by decide +kernel) (by decide +kernel) hi0 rfl ?_
  refine fs_istoren (j := 3) (L' := [some (.ref 231), some (.int x1), some (.int x2), some (.int (S.1 232 ((121 + x1).toNatClampNeg)))]) (by decide +kernel) (Nat.le_of_ble_eq_true rfl) rfl ?_
  refine fs_aloadn (j := 0) (by decide +kernel) rfl ?_
  refine fe_getR (idx := 7) (t := 8) (f := 0) (fk := 2) (fin := 1) (wp := 945) (x := 232) (by decide +kernel) (by decide +kernel) (by decide +kernel) (by decide +kernel) (by decide +kernel) ?_
  refine fs_bipush (n := 121) (v := 121) (by decide +kernel) (by decide) ?_
  refine fs_iloadn (j := 1) (by decide +kernel) rfl ?_
  refine fs_iadd (by decide +kernel) ?_
  refine fs_iloadn (j := 2) (by decide +kernel) rfl ?_
  refine fx_iast (n := (121 + x1).toNatClampNeg) (len := 373) (by decide +kernel) (by decide +kernel) (by decide +kernel) hi0 rfl ?_
  refine fs_iloadn (j := 3) (by decide +kernel) rfl ?_
  exact fe_retI (by decide +kernel) (by decide +kernel)
-- KitchenSiegeModel.dish(III)I
theorem b_M_dish_0 {d : Nat} {x1 : Int32} {x2 : Int32} {x3 : Int32} {v : Int32} {S1 : fm_S} {S : fm_S} {r : Option Value × am_W} (hc : am_Sp d k_M_in [.long x1.toInt64, .long 0, .long 5] (fm_mk S) (some (.int v)) (fm_mk S1)) (nx : am_Ev (d + 1) k_M_dish 9 [some (.ref 231), some (.int x1), some (.int x2), some (.int x3)] [.int v] (fm_mk S1) r) : am_Ev (d + 1) k_M_dish 0 [some (.ref 231), some (.int x1), some (.int x2), some (.int x3)] [] (fm_mk S) r := by
  refine fs_iloadn (j := 1) (by decide +kernel) rfl ?_
  refine fs_i2l (by decide +kernel) ?_
  refine fs_lconst (n := 0) (v := 0) (by decide +kernel) (by decide) ?_
  refine fs_ldc2 (idx := 65) (q := 1015) (v := 5) (by decide +kernel) (by decide +kernel) ?_
  exact fe_callS (idx := 67) (kd := 0) (n := 3) (wp := 1016) (q := (1017, 0)) (as := [.long x1.toInt64, .long 0, .long 5]) (rs := []) (by decide +kernel) (by decide +kernel) (by decide +kernel) (by decide) rfl (Nat.le_of_ble_eq_true rfl) rfl hc nx
theorem b_M_dish_9 {d : Nat} {x1 : Int32} {x2 : Int32} {x3 : Int32} {sx0 : Int32} {S : fm_S} {r : Option Value × am_W} (kt : sx0 = 0 → am_Ev d k_M_dish 36 [some (.ref 231), some (.int x1), some (.int x2), some (.int x3)] [] (fm_mk S) r) (kf : ¬ sx0 = 0 → am_Ev d k_M_dish 12 [some (.ref 231), some (.int x1), some (.int x2), some (.int x3)] [] (fm_mk S) r) : am_Ev d k_M_dish 9 [some (.ref 231), some (.int x1), some (.int x2), some (.int x3)] [.int sx0] (fm_mk S) r := by
  exact fs_ifeq (off := 27) (tgt := 36) (by decide +kernel) (by decide) kt kf
theorem b_M_dish_12 {d : Nat} {x1 : Int32} {x2 : Int32} {x3 : Int32} {v : Int32} {S1 : fm_S} {S : fm_S} {r : Option Value × am_W} (hc : am_Sp d k_M_in [.long x2.toInt64, .long 1, .long 30] (fm_mk S) (some (.int v)) (fm_mk S1)) (nx : am_Ev (d + 1) k_M_dish 21 [some (.ref 231), some (.int x1), some (.int x2), some (.int x3)] [.int v] (fm_mk S1) r) : am_Ev (d + 1) k_M_dish 12 [some (.ref 231), some (.int x1), some (.int x2), some (.int x3)] [] (fm_mk S) r := by
  refine fs_iloadn (j := 2) (by decide +kernel) rfl ?_
  refine fs_i2l (by decide +kernel) ?_
  refine fs_lconst (n := 1) (v := 1) (by decide +kernel) (by decide) ?_
  refine fs_ldc2 (idx := 97) (q := 1059) (v := 30) (by decide +kernel) (by decide +kernel) ?_
  exact fe_callS (idx := 67) (kd := 0) (n := 3) (wp := 1016) (q := (1017, 0)) (as := [.long x2.toInt64, .long 1, .long 30]) (rs := []) (by decide +kernel) (by decide +kernel) (by decide +kernel) (by decide) rfl (Nat.le_of_ble_eq_true rfl) rfl hc nx
theorem b_M_dish_21 {d : Nat} {x1 : Int32} {x2 : Int32} {x3 : Int32} {sx0 : Int32} {S : fm_S} {r : Option Value × am_W} (kt : sx0 = 0 → am_Ev d k_M_dish 36 [some (.ref 231), some (.int x1), some (.int x2), some (.int x3)] [] (fm_mk S) r) (kf : ¬ sx0 = 0 → am_Ev d k_M_dish 24 [some (.ref 231), some (.int x1), some (.int x2), some (.int x3)] [] (fm_mk S) r) : am_Ev d k_M_dish 21 [some (.ref 231), some (.int x1), some (.int x2), some (.int x3)] [.int sx0] (fm_mk S) r := by
  exact fs_ifeq (off := 15) (tgt := 36) (by decide +kernel) (by decide) kt kf
theorem b_M_dish_24 {d : Nat} {x1 : Int32} {x2 : Int32} {x3 : Int32} {v : Int32} {S1 : fm_S} {S : fm_S} {r : Option Value × am_W} (hc : am_Sp d k_M_in [.long x3.toInt64, .long 0, .long 9] (fm_mk S) (some (.int v)) (fm_mk S1)) (nx : am_Ev (d + 1) k_M_dish 33 [some (.ref 231), some (.int x1), some (.int x2), some (.int x3)] [.int v] (fm_mk S1) r) : am_Ev (d + 1) k_M_dish 24 [some (.ref 231), some (.int x1), some (.int x2), some (.int x3)] [] (fm_mk S) r := by
  refine fs_iloadn (j := 3) (by decide +kernel) rfl ?_
  refine fs_i2l (by decide +kernel) ?_
  refine fs_lconst (n := 0) (v := 0) (by decide +kernel) (by decide) ?_
  refine fs_ldc2 (idx := 71) (q := 1019) (v := 9) (by decide +kernel) (by decide +kernel) ?_
  exact fe_callS (idx := 67) (kd := 0) (n := 3) (wp := 1016) (q := (1017, 0)) (as := [.long x3.toInt64, .long 0, .long 9]) (rs := []) (by decide +kernel) (by decide +kernel) (by decide +kernel) (by decide) rfl (Nat.le_of_ble_eq_true rfl) rfl hc nx
theorem b_M_dish_33 {d : Nat} {x1 : Int32} {x2 : Int32} {x3 : Int32} {sx0 : Int32} {S : fm_S} {r : Option Value × am_W} (kt : ¬ sx0 = 0 → am_Ev d k_M_dish 41 [some (.ref 231), some (.int x1), some (.int x2), some (.int x3)] [] (fm_mk S) r) (kf : sx0 = 0 → am_Ev d k_M_dish 36 [some (.ref 231), some (.int x1), some (.int x2), some (.int x3)] [] (fm_mk S) r) : am_Ev d k_M_dish 33 [some (.ref 231), some (.int x1), some (.int x2), some (.int x3)] [.int sx0] (fm_mk S) r := by
  exact fs_ifne (off := 8) (tgt := 41) (by decide +kernel) (by decide) kt kf
theorem b_M_dish_36 {d : Nat} {x1 : Int32} {x2 : Int32} {x3 : Int32} {v : Int32} {S1 : fm_S} {S : fm_S} {r : Option Value × am_W} (hc : am_Sp d k_M_bad [.ref 231] (fm_mk S) (some (.int v)) (fm_mk S1)) (nx : am_Ev (d + 1) k_M_dish 40 [some (.ref 231), some (.int x1), some (.int x2), some (.int x3)] [.int v] (fm_mk S1) r) : am_Ev (d + 1) k_M_dish 36 [some (.ref 231), some (.int x1), some (.int x2), some (.int x3)] [] (fm_mk S) r := by
  refine fs_aloadn (j := 0) (by decide +kernel) rfl ?_
  exact fe_callV (t := 8) (idx := 73) (n := 0) (wp := 1020) (q := (1022, 31)) (as := []) (rs := []) (by decide +kernel) (by decide +kernel) (by decide +kernel) (by decide +kernel) rfl (Nat.le_of_ble_eq_true rfl) rfl hc nx
theorem b_M_dish_40 {d : Nat} {x1 : Int32} {x2 : Int32} {x3 : Int32} {sx0 : Int32} {S : fm_S}  : am_Ev d k_M_dish 40 [some (.ref 231), some (.int x1), some (.int x2), some (.int x3)] [.int sx0] (fm_mk S) (some (.int sx0), fm_mk S) := by
  exact fe_retI (by decide +kernel) (by decide +kernel)
theorem b_M_dish_41 {d : Nat} {x1 : Int32} {x2 : Int32} {x3 : Int32} {S : fm_S} {r : Option Value × am_W} (kt : ¬ (S.1 232 1) = 6 → am_Ev d k_M_dish 57 [some (.ref 231), some (.int x1), some (.int x2), some (.int x3)] [] (fm_mk S) r) (kf : (S.1 232 1) = 6 → am_Ev d k_M_dish 52 [some (.ref 231), some (.int x1), some (.int x2), some (.int x3)] [] (fm_mk S) r) : am_Ev d k_M_dish 41 [some (.ref 231), some (.int x1), some (.int x2), some (.int x3)] [] (fm_mk S) r := by
  refine fs_aloadn (j := 0) (by decide +kernel) rfl ?_
  refine fe_getR (idx := 7) (t := 8) (f := 0) (fk := 2) (fin := 1) (wp := 945) (x := 232) (by decide +kernel) (by decide +kernel) (by decide +kernel) (by decide +kernel) (by decide +kernel) ?_
  refine fs_iconst (n := 1) (v := 1) (by decide +kernel) (by decide) ?_
  refine fx_iald (n := 1) (len := 373) (by decide +kernel) (by decide +kernel) (by decide +kernel) (vp_c (by decide) (by decide)) (by decide) ?_
  refine fs_bipush (n := 6) (v := 6) (by decide +kernel) (by decide) ?_
  exact fs_icne (off := 8) (tgt := 57) (by decide +kernel) (by decide) kt kf
theorem b_M_dish_52 {d : Nat} {x1 : Int32} {x2 : Int32} {x3 : Int32} {v : Int32} {S1 : fm_S} {S : fm_S} {r : Option Value × am_W} (hc : am_Sp d k_M_full [.ref 231] (fm_mk S) (some (.int v)) (fm_mk S1)) (nx : am_Ev (d + 1) k_M_dish 56 [some (.ref 231), some (.int x1), some (.int x2), some (.int x3)] [.int v] (fm_mk S1) r) : am_Ev (d + 1) k_M_dish 52 [some (.ref 231), some (.int x1), some (.int x2), some (.int x3)] [] (fm_mk S) r := by
  refine fs_aloadn (j := 0) (by decide +kernel) rfl ?_
  exact fe_callV (t := 8) (idx := 77) (n := 0) (wp := 1024) (q := (1026, 32)) (as := []) (rs := []) (by decide +kernel) (by decide +kernel) (by decide +kernel) (by decide +kernel) rfl (Nat.le_of_ble_eq_true rfl) rfl hc nx
theorem b_M_dish_56 {d : Nat} {x1 : Int32} {x2 : Int32} {x3 : Int32} {sx0 : Int32} {S : fm_S}  : am_Ev d k_M_dish 56 [some (.ref 231), some (.int x1), some (.int x2), some (.int x3)] [.int sx0] (fm_mk S) (some (.int sx0), fm_mk S) := by
  exact fe_retI (by decide +kernel) (by decide +kernel)
theorem b_M_dish_57 {d : Nat} {x1 : Int32} {x2 : Int32} {x3 : Int32} {S1 : fm_S} {S : fm_S} {r : Option Value × am_W} (hc : am_Sp d k_M_addDish [.ref 232, .int x1, .int x2, .int x3] (fm_mk S) (none) (fm_mk S1)) (nx : am_Ev (d + 1) k_M_dish 67 [some (.ref 231), some (.int x1), some (.int x2), some (.int x3)] [] (fm_mk S1) r) : am_Ev (d + 1) k_M_dish 57 [some (.ref 231), some (.int x1), some (.int x2), some (.int x3)] [] (fm_mk S) r := by
  refine fs_aloadn (j := 0) (by decide +kernel) rfl ?_
  refine fe_getR (idx := 7) (t := 8) (f := 0) (fk := 2) (fin := 1) (wp := 945) (x := 232) (by decide +kernel) (by decide +kernel) (by decide +kernel) (by decide +kernel) (by decide +kernel) ?_
  refine fs_iloadn (j := 1) (by decide +kernel) rfl ?_
  refine fs_iloadn (j := 2) (by decide +kernel) rfl ?_
  refine fs_iloadn (j := 3) (by decide +kernel) rfl ?_
  exact fe_callS (idx := 99) (kd := 0) (n := 4) (wp := 1060) (q := (1061, 0)) (as := [.ref 232, .int x1, .int x2, .int x3]) (rs := []) (by decide +kernel) (by decide +kernel) (by decide +kernel) (by decide) rfl (Nat.le_of_ble_eq_true rfl) rfl hc nx
theorem b_M_dish_67 {d : Nat} {x1 : Int32} {x2 : Int32} {x3 : Int32} {S : fm_S}  : am_Ev d k_M_dish 67 [some (.ref 231), some (.int x1), some (.int x2), some (.int x3)] [] (fm_mk S) (some (.int ((S.1 232 1) - 1)), fm_mk S) := by
  refine fs_aloadn (j := 0) (by decide +kernel) rfl ?_
  refine fe_getR (idx := 7) (t := 8) (f := 0) (fk := 2) (fin := 1) (wp := 945) (x := 232) (by decide +kernel) (by decide +kernel) (by decide +kernel) (by decide +kernel) (by decide +kernel) ?_
  refine fs_iconst (n := 1) (v := 1) (by decide +kernel) (by decide) ?_
  refine fx_iald (n := 1) (len := 373) (by decide +kernel) (by decide +kernel) (by decide +kernel) (vp_c (by decide) (by decide)) (by decide) ?_
  refine fs_iconst (n := 1) (v := 1) (by decide +kernel) (by decide) ?_
  refine fs_isub (by decide +kernel) ?_
  exact fe_retI (by decide +kernel) (by decide +kernel)
-- KitchenSiegeModel.addDish([IIII)V
theorem b_M_addDish_0 {d : Nat} {a0 : Nat} {x1 : Int32} {x2 : Int32} {x3 : Int32} {o4 : Option Value} {S : fm_S}  (h_a0 : fm_tg a0 = 100) (hi1 : vp_in 1 (fm_ln a0)) (hi2 : vp_in (125 + (S.1 a0 ((1 : Int32).toNatClampNeg))) (fm_ln a0)) (hi3 : vp_in (131 + (S.1 a0 ((1 : Int32).toNatClampNeg))) (fm_ln a0)) (hi4 : vp_in (137 + (S.1 a0 ((1 : Int32).toNatClampNeg))) (fm_ln a0)) : am_Ev d k_M_addDish 0 [some (.ref a0), some (.int x1), some (.int x2), some (.int x3), o4] [] (fm_mk S) (none, fm_mk (fm_wI (fm_wI (fm_wI (fm_wI S a0 ((125 + (S.1 a0 ((1 : Int32).toNatClampNeg))).toNatClampNeg) x1) a0 ((131 + (S.1 a0 ((1 : Int32).toNatClampNeg))).toNatClampNeg) x2) a0 ((137 + (S.1 a0 ((1 : Int32).toNatClampNeg))).toNatClampNeg) x3) a0 ((1 : Int32).toNatClampNeg) (((fm_wI (fm_wI (fm_wI S a0 ((125 + (S.1 a0 ((1 : Int32).toNatClampNeg))).toNatClampNeg) x1) a0 ((131 + (S.1 a0 ((1 : Int32).toNatClampNeg))).toNatClampNeg) x2) a0 ((137 + (S.1 a0 ((1 : Int32).toNatClampNeg))).toNatClampNeg) x3).1 a0 ((1 : Int32).toNatClampNeg)) + 1))) := by
  refine fs_aloadn (j := 0) (by decide +kernel) rfl ?_
  refine fs_iconst (n := 1) (v := 1) (by decide +kernel) (by decide) ?_
  refine fx_iald (n := (1 : Int32).toNatClampNeg) (len := fm_ln a0) (by decide +kernel) h_a0 rfl hi1 rfl ?_
  refine fs_istore (j := 4) (L' := [some (.ref a0), some (.int x1), some (.int x2), some (.int x3), some (.int (S.1 a0 ((1 : Int32).toNatClampNeg)))]) (by decide +kernel) (Nat.le_of_ble_eq_true rfl) rfl ?_
  refine fs_aloadn (j := 0) (by decide +kernel) rfl ?_
  refine fs_bipush (n := 125) (v := 125) (by decide +kernel) (by decide) ?_
  refine fs_iload (j := 4) (by decide +kernel) rfl ?_
  refine fs_iadd (by decide +kernel) ?_
  refine fs_iloadn (j := 1) (by decide +kernel) rfl ?_
  refine fx_iast (n := (125 + (S.1 a0 ((1 : Int32).toNatClampNeg))).toNatClampNeg) (len := fm_ln a0) (by decide +kernel) h_a0 rfl hi2 rfl ?_
  refine fs_aloadn (j := 0) (by decide +kernel) rfl ?_
  refine fs_sipush (n := 131) (v := 131) (by decide +kernel) (by decide) ?_
  refine fs_iload (j := 4) (by decide +kernel) rfl ?_
  refine fs_iadd (by decide +kernel) ?_
  refine fs_iloadn (j := 2) (by decide +kernel) rfl ?_
  refine fx_iast (n := (131 + (S.1 a0 ((1 : Int32).toNatClampNeg))).toNatClampNeg) (len := fm_ln a0) (by decide +kernel) h_a0 rfl hi3 rfl ?_
  refine fs_aloadn (j := 0) (by decide +kernel) rfl ?_
  refine fs_sipush (n := 137) (v := 137) (by decide +kernel) (by decide) ?_
  refine fs_iload (j := 4) (by decide +kernel) rfl ?_
  refine fs_iadd (by decide +kernel) ?_
  refine fs_iloadn (j := 3) (by decide +kernel) rfl ?_
  refine fx_iast (n := (137 + (S.1 a0 ((1 : Int32).toNatClampNeg))).toNatClampNeg) (len := fm_ln a0) (by decide +kernel) h_a0 rfl hi4 rfl ?_
  refine fs_aloadn (j := 0) (by decide +kernel) rfl ?_
  refine fs_iconst (n := 1) (v := 1) (by decide +kernel) (by decide) ?_
  refine fs_dup2 (by decide +kernel) ⟨rfl, rfl⟩ ?_
  refine fx_iald (n := (1 : Int32).toNatClampNeg) (len := fm_ln a0) (by decide +kernel) h_a0 rfl hi1 rfl ?_
  refine fs_iconst (n := 1) (v := 1) (by decide +kernel) (by decide) ?_
  refine fs_iadd (by decide +kernel) ?_
  refine fx_iast (n := (1 : Int32).toNatClampNeg) (len := fm_ln a0) (by decide +kernel) h_a0 rfl hi1 rfl ?_
  exact fe_retV (by decide +kernel) (by decide +kernel)
-- KitchenSiegeModel.type(I)I
theorem b_M_type_0 {d : Nat} {x1 : Int32} {v : Int32} {S1 : fm_S} {S : fm_S} {r : Option Value × am_W} (hc : am_Sp d k_M_in [.long x1.toInt64, .long 0, .long 127] (fm_mk S) (some (.int v)) (fm_mk S1)) (nx : am_Ev (d + 1) k_M_type 9 [some (.ref 231), some (.int x1)] [.int v] (fm_mk S1) r) : am_Ev (d + 1) k_M_type 0 [some (.ref 231), some (.int x1)] [] (fm_mk S) r := by
  refine fs_iloadn (j := 1) (by decide +kernel) rfl ?_
  refine fs_i2l (by decide +kernel) ?_
  refine fs_lconst (n := 0) (v := 0) (by decide +kernel) (by decide) ?_
  refine fs_ldc2 (idx := 102) (q := 1067) (v := 127) (by decide +kernel) (by decide +kernel) ?_
  exact fe_callS (idx := 67) (kd := 0) (n := 3) (wp := 1016) (q := (1017, 0)) (as := [.long x1.toInt64, .long 0, .long 127]) (rs := []) (by decide +kernel) (by decide +kernel) (by decide +kernel) (by decide) rfl (Nat.le_of_ble_eq_true rfl) rfl hc nx
theorem b_M_type_9 {d : Nat} {x1 : Int32} {sx0 : Int32} {S : fm_S} {r : Option Value × am_W} (kt : ¬ sx0 = 0 → am_Ev d k_M_type 17 [some (.ref 231), some (.int x1)] [] (fm_mk S) r) (kf : sx0 = 0 → am_Ev d k_M_type 12 [some (.ref 231), some (.int x1)] [] (fm_mk S) r) : am_Ev d k_M_type 9 [some (.ref 231), some (.int x1)] [.int sx0] (fm_mk S) r := by
  exact fs_ifne (off := 8) (tgt := 17) (by decide +kernel) (by decide) kt kf
theorem b_M_type_12 {d : Nat} {x1 : Int32} {v : Int32} {S1 : fm_S} {S : fm_S} {r : Option Value × am_W} (hc : am_Sp d k_M_bad [.ref 231] (fm_mk S) (some (.int v)) (fm_mk S1)) (nx : am_Ev (d + 1) k_M_type 16 [some (.ref 231), some (.int x1)] [.int v] (fm_mk S1) r) : am_Ev (d + 1) k_M_type 12 [some (.ref 231), some (.int x1)] [] (fm_mk S) r := by
  refine fs_aloadn (j := 0) (by decide +kernel) rfl ?_
  exact fe_callV (t := 8) (idx := 73) (n := 0) (wp := 1020) (q := (1022, 31)) (as := []) (rs := []) (by decide +kernel) (by decide +kernel) (by decide +kernel) (by decide +kernel) rfl (Nat.le_of_ble_eq_true rfl) rfl hc nx
theorem b_M_type_16 {d : Nat} {x1 : Int32} {sx0 : Int32} {S : fm_S}  : am_Ev d k_M_type 16 [some (.ref 231), some (.int x1)] [.int sx0] (fm_mk S) (some (.int sx0), fm_mk S) := by
  exact fe_retI (by decide +kernel) (by decide +kernel)
theorem b_M_type_17 {d : Nat} {x1 : Int32} {S : fm_S} {r : Option Value × am_W} (kt : ¬ (S.1 231 5) = 150 → am_Ev d k_M_type 32 [some (.ref 231), some (.int x1)] [] (fm_mk S) r) (kf : (S.1 231 5) = 150 → am_Ev d k_M_type 27 [some (.ref 231), some (.int x1)] [] (fm_mk S) r) : am_Ev d k_M_type 17 [some (.ref 231), some (.int x1)] [] (fm_mk S) r := by
  refine fs_aloadn (j := 0) (by decide +kernel) rfl ?_
  refine fe_getI (idx := 104) (t := 8) (f := 5) (fk := 0) (fin := 0) (wp := 950) (by decide +kernel) (by decide +kernel) (by decide +kernel) (by decide +kernel) ?_
  refine fs_sipush (n := 150) (v := 150) (by decide +kernel) (by decide) ?_
  exact fs_icne (off := 8) (tgt := 32) (by decide +kernel) (by decide) kt kf
theorem b_M_type_27 {d : Nat} {x1 : Int32} {v : Int32} {S1 : fm_S} {S : fm_S} {r : Option Value × am_W} (hc : am_Sp d k_M_full [.ref 231] (fm_mk S) (some (.int v)) (fm_mk S1)) (nx : am_Ev (d + 1) k_M_type 31 [some (.ref 231), some (.int x1)] [.int v] (fm_mk S1) r) : am_Ev (d + 1) k_M_type 27 [some (.ref 231), some (.int x1)] [] (fm_mk S) r := by
  refine fs_aloadn (j := 0) (by decide +kernel) rfl ?_
  exact fe_callV (t := 8) (idx := 77) (n := 0) (wp := 1024) (q := (1026, 32)) (as := []) (rs := []) (by decide +kernel) (by decide +kernel) (by decide +kernel) (by decide +kernel) rfl (Nat.le_of_ble_eq_true rfl) rfl hc nx
theorem b_M_type_31 {d : Nat} {x1 : Int32} {sx0 : Int32} {S : fm_S}  : am_Ev d k_M_type 31 [some (.ref 231), some (.int x1)] [.int sx0] (fm_mk S) (some (.int sx0), fm_mk S) := by
  exact fe_retI (by decide +kernel) (by decide +kernel)
theorem b_M_type_32 {d : Nat} {x1 : Int32} {S : fm_S}  (hi0 : vp_in (S.1 231 5) 150) : am_Ev d k_M_type 32 [some (.ref 231), some (.int x1)] [] (fm_mk S) (some (.int ((fm_wI (fm_wI S 236 ((S.1 231 5).toNatClampNeg) x1) 231 5 (((fm_wI S 236 ((S.1 231 5).toNatClampNeg) x1).1 231 5) + 1)).1 231 5)), fm_mk (fm_wI (fm_wI S 236 ((S.1 231 5).toNatClampNeg) x1) 231 5 (((fm_wI S 236 ((S.1 231 5).toNatClampNeg) x1).1 231 5) + 1))) := by
  refine fs_aloadn (j := 0) (by decide +kernel) rfl ?_
  refine fe_getR (idx := 22) (t := 8) (f := 4) (fk := 2) (fin := 1) (wp := 949) (x := 236) (by decide +kernel) (by decide +kernel) (by decide +kernel) (by decide +kernel) (by decide +kernel) ?_
  refine fs_aloadn (j := 0) (by decide +kernel) rfl ?_
  refine fe_getI (idx := 104) (t := 8) (f := 5) (fk := 0) (fin := 0) (wp := 950) (by decide +kernel) (by decide +kernel) (by decide +kernel) (by decide +kernel) ?_
  refine fs_iloadn (j := 1) (by decide +kernel) rfl ?_
  refine fx_iast (n := (S.1 231 5).toNatClampNeg) (len := 150) (by decide +kernel) (by decide +kernel) (by decide +kernel) hi0 rfl ?_
  refine fs_aloadn (j := 0) (by decide +kernel) rfl ?_
  refine fs_dup (by decide +kernel) rfl ?_
  refine fe_getI (idx := 104) (t := 8) (f := 5) (fk := 0) (fin := 0) (wp := 950) (by decide +kernel) (by decide +kernel) (by decide +kernel) (by decide +kernel) ?_
  refine fs_iconst (n := 1) (v := 1) (by decide +kernel) (by decide) ?_
  refine fs_iadd (by decide +kernel) ?_
  refine fe_putI (idx := 104) (t := 8) (f := 5) (wp := 950) (by decide +kernel) (by decide +kernel) (by decide +kernel) (by decide +kernel) ?_
  refine fs_aloadn (j := 0) (by decide +kernel) rfl ?_
  refine fe_getI (idx := 104) (t := 8) (f := 5) (fk := 0) (fin := 0) (wp := 950) (by decide +kernel) (by decide +kernel) (by decide +kernel) (by decide +kernel) ?_
  exact fe_retI (by decide +kernel) (by decide +kernel)
-- KitchenSiegeModel.clear()I
theorem b_M_clear_0 {d : Nat} {o1 : Option Value} {S : fm_S}  : am_Ev d k_M_clear 0 [some (.ref 231), o1] [] (fm_mk S) (some (.int (S.1 231 5)), fm_mk (fm_wI S 231 5 0)) := by
  refine fs_aloadn (j := 0) (by decide +kernel) rfl ?_
  refine fe_getI (idx := 104) (t := 8) (f := 5) (fk := 0) (fin := 0) (wp := 950) (by decide +kernel) (by decide +kernel) (by decide +kernel) (by decide +kernel) ?_
  refine fs_istoren (j := 1) (L' := [some (.ref 231), some (.int (S.1 231 5))]) (by decide +kernel) (Nat.le_of_ble_eq_true rfl) rfl ?_
  refine fs_aloadn (j := 0) (by decide +kernel) rfl ?_
  refine fs_iconst (n := 0) (v := 0) (by decide +kernel) (by decide) ?_
  refine fe_putI (idx := 104) (t := 8) (f := 5) (wp := 950) (by decide +kernel) (by decide +kernel) (by decide +kernel) (by decide +kernel) ?_
  refine fs_iloadn (j := 1) (by decide +kernel) rfl ?_
  exact fe_retI (by decide +kernel) (by decide +kernel)
-- KitchenSiegeModel.read()I
theorem b_M_read_0 {d : Nat} {o1 : Option Value} {o2 : Option Value} {o3 : Option Value} {o4 : Option Value} {S1 : fm_S} {S : fm_S} {r : Option Value × am_W} (hc : am_Sp d k_M_first [.ref 233] (fm_mk S) (none) (fm_mk S1)) (nx : am_Ev (d + 1) k_M_read 7 [some (.ref 231), o1, o2, o3, o4] [] (fm_mk S1) r) : am_Ev (d + 1) k_M_read 0 [some (.ref 231), o1, o2, o3, o4] [] (fm_mk S) r := by
  refine fs_aloadn (j := 0) (by decide +kernel) rfl ?_
  refine fe_getR (idx := 13) (t := 8) (f := 1) (fk := 2) (fin := 1) (wp := 946) (x := 233) (by decide +kernel) (by decide +kernel) (by decide +kernel) (by decide +kernel) (by decide +kernel) ?_
  exact fe_callS (idx := 51) (kd := 0) (n := 1) (wp := 942) (q := (943, 0)) (as := [.ref 233]) (rs := []) (by decide +kernel) (by decide +kernel) (by decide +kernel) (by decide) rfl (Nat.le_of_ble_eq_true rfl) rfl hc nx
theorem b_M_read_7 {d : Nat} {o1 : Option Value} {o2 : Option Value} {o3 : Option Value} {o4 : Option Value} {S : fm_S} {r : Option Value × am_W} (nx : am_Ev d k_M_read 16 [some (.ref 231), some (.int 0), some (.int 1), o3, o4] [] (fm_mk (fm_wI S 231 11 0)) r) : am_Ev d k_M_read 7 [some (.ref 231), o1, o2, o3, o4] [] (fm_mk S) r := by
  refine fs_aloadn (j := 0) (by decide +kernel) rfl ?_
  refine fs_iconst (n := 0) (v := 0) (by decide +kernel) (by decide) ?_
  refine fe_putI (idx := 107) (t := 8) (f := 11) (wp := 956) (by decide +kernel) (by decide +kernel) (by decide +kernel) (by decide +kernel) ?_
  refine fs_iconst (n := 0) (v := 0) (by decide +kernel) (by decide) ?_
  refine fs_istoren (j := 1) (L' := [some (.ref 231), some (.int 0), o2, o3, o4]) (by decide +kernel) (Nat.le_of_ble_eq_true rfl) rfl ?_
  refine fs_iconst (n := 1) (v := 1) (by decide +kernel) (by decide) ?_
  refine fs_istoren (j := 2) (L' := [some (.ref 231), some (.int 0), some (.int 1), o3, o4]) (by decide +kernel) (Nat.le_of_ble_eq_true rfl) rfl ?_
  exact nx
theorem b_M_read_16 {d : Nat} {x1 : Int32} {x2 : Int32} {o3 : Option Value} {o4 : Option Value} {S : fm_S} {r : Option Value × am_W} (kt : x2 = 0 → am_Ev d k_M_read 137 [some (.ref 231), some (.int x1), some (.int x2), o3, o4] [] (fm_mk S) r) (kf : ¬ x2 = 0 → am_Ev d k_M_read 20 [some (.ref 231), some (.int x1), some (.int x2), o3, o4] [] (fm_mk S) r) : am_Ev d k_M_read 16 [some (.ref 231), some (.int x1), some (.int x2), o3, o4] [] (fm_mk S) r := by
  refine fs_iloadn (j := 2) (by decide +kernel) rfl ?_
  exact fs_ifeq (off := 120) (tgt := 137) (by decide +kernel) (by decide) kt kf
theorem b_M_read_20 {d : Nat} {x1 : Int32} {x2 : Int32} {o3 : Option Value} {o4 : Option Value} {v : Int32} {S1 : fm_S} {S : fm_S} {r : Option Value × am_W} (hc : am_Sp d k_M_word [.ref 231] (fm_mk S) (some (.int v)) (fm_mk S1)) (nx : am_Ev (d + 1) k_M_read 24 [some (.ref 231), some (.int x1), some (.int x2), o3, o4] [.int v] (fm_mk S1) r) : am_Ev (d + 1) k_M_read 20 [some (.ref 231), some (.int x1), some (.int x2), o3, o4] [] (fm_mk S) r := by
  refine fs_aloadn (j := 0) (by decide +kernel) rfl ?_
  exact fe_callV (t := 8) (idx := 162) (n := 0) (wp := 1076) (q := (1078, 35)) (as := []) (rs := []) (by decide +kernel) (by decide +kernel) (by decide +kernel) (by decide +kernel) rfl (Nat.le_of_ble_eq_true rfl) rfl hc nx
theorem b_M_read_24 {d : Nat} {x1 : Int32} {x2 : Int32} {o3 : Option Value} {o4 : Option Value} {sx0 : Int32} {S : fm_S} {r : Option Value × am_W} (kt : sx0 < 0 → am_Ev d k_M_read 86 [some (.ref 231), some (.int x1), some (.int x2), some (.int sx0), o4] [] (fm_mk S) r) (kf : ¬ sx0 < 0 → am_Ev d k_M_read 29 [some (.ref 231), some (.int x1), some (.int x2), some (.int sx0), o4] [] (fm_mk S) r) : am_Ev d k_M_read 24 [some (.ref 231), some (.int x1), some (.int x2), o3, o4] [.int sx0] (fm_mk S) r := by
  refine fs_istoren (j := 3) (L' := [some (.ref 231), some (.int x1), some (.int x2), some (.int sx0), o4]) (by decide +kernel) (Nat.le_of_ble_eq_true rfl) rfl ?_
  refine fs_iloadn (j := 3) (by decide +kernel) rfl ?_
  exact fs_iflt (off := 60) (tgt := 86) (by decide +kernel) (by decide) kt kf
theorem b_M_read_29 {d : Nat} {x1 : Int32} {x2 : Int32} {x3 : Int32} {o4 : Option Value} {S : fm_S} {r : Option Value × am_W} (kt : ¬ x3 = 0 → am_Ev d k_M_read 37 [some (.ref 231), some (.int x1), some (.int x2), some (.int x3), o4] [] (fm_mk S) r) (kf : x3 = 0 → am_Ev d k_M_read 33 [some (.ref 231), some (.int x1), some (.int x2), some (.int x3), o4] [] (fm_mk S) r) : am_Ev d k_M_read 29 [some (.ref 231), some (.int x1), some (.int x2), some (.int x3), o4] [] (fm_mk S) r := by
  refine fs_iloadn (j := 3) (by decide +kernel) rfl ?_
  exact fs_ifne (off := 7) (tgt := 37) (by decide +kernel) (by decide) kt kf
theorem b_M_read_33 {d : Nat} {x1 : Int32} {x2 : Int32} {x3 : Int32} {o4 : Option Value} {S : fm_S} {r : Option Value × am_W} (nx : am_Ev d k_M_read 38 [some (.ref 231), some (.int x1), some (.int x2), some (.int x3), o4] [.int 1] (fm_mk S) r) : am_Ev d k_M_read 33 [some (.ref 231), some (.int x1), some (.int x2), some (.int x3), o4] [] (fm_mk S) r := by
  refine fs_iconst (n := 1) (v := 1) (by decide +kernel) (by decide) ?_
  refine fs_goto (off := 4) (tgt := 38) (by decide +kernel) (by decide) ?_
  exact nx
theorem b_M_read_37 {d : Nat} {x1 : Int32} {x2 : Int32} {x3 : Int32} {o4 : Option Value} {S : fm_S} {r : Option Value × am_W} (nx : am_Ev d k_M_read 38 [some (.ref 231), some (.int x1), some (.int x2), some (.int x3), o4] [.int 0] (fm_mk S) r) : am_Ev d k_M_read 37 [some (.ref 231), some (.int x1), some (.int x2), some (.int x3), o4] [] (fm_mk S) r := by
  refine fs_iconst (n := 0) (v := 0) (by decide +kernel) (by decide) ?_
  exact nx
theorem b_M_read_38 {d : Nat} {x1 : Int32} {x2 : Int32} {x3 : Int32} {o4 : Option Value} {sx0 : Int32} {S : fm_S} {r : Option Value × am_W} (kt : ¬ x1 = 0 → am_Ev d k_M_read 46 [some (.ref 231), some (.int x1), some (.int x2), some (.int x3), o4] [.int sx0] (fm_mk S) r) (kf : x1 = 0 → am_Ev d k_M_read 42 [some (.ref 231), some (.int x1), some (.int x2), some (.int x3), o4] [.int sx0] (fm_mk S) r) : am_Ev d k_M_read 38 [some (.ref 231), some (.int x1), some (.int x2), some (.int x3), o4] [.int sx0] (fm_mk S) r := by
  refine fs_iloadn (j := 1) (by decide +kernel) rfl ?_
  exact fs_ifne (off := 7) (tgt := 46) (by decide +kernel) (by decide) kt kf
theorem b_M_read_42 {d : Nat} {x1 : Int32} {x2 : Int32} {x3 : Int32} {o4 : Option Value} {sx0 : Int32} {S : fm_S} {r : Option Value × am_W} (nx : am_Ev d k_M_read 47 [some (.ref 231), some (.int x1), some (.int x2), some (.int x3), o4] [.int 1, .int sx0] (fm_mk S) r) : am_Ev d k_M_read 42 [some (.ref 231), some (.int x1), some (.int x2), some (.int x3), o4] [.int sx0] (fm_mk S) r := by
  refine fs_iconst (n := 1) (v := 1) (by decide +kernel) (by decide) ?_
  refine fs_goto (off := 4) (tgt := 47) (by decide +kernel) (by decide) ?_
  exact nx
theorem b_M_read_46 {d : Nat} {x1 : Int32} {x2 : Int32} {x3 : Int32} {o4 : Option Value} {sx0 : Int32} {S : fm_S} {r : Option Value × am_W} (nx : am_Ev d k_M_read 47 [some (.ref 231), some (.int x1), some (.int x2), some (.int x3), o4] [.int 0, .int sx0] (fm_mk S) r) : am_Ev d k_M_read 46 [some (.ref 231), some (.int x1), some (.int x2), some (.int x3), o4] [.int sx0] (fm_mk S) r := by
  refine fs_iconst (n := 0) (v := 0) (by decide +kernel) (by decide) ?_
  exact nx
theorem b_M_read_47 {d : Nat} {x1 : Int32} {x2 : Int32} {x3 : Int32} {o4 : Option Value} {sx0 : Int32} {sx1 : Int32} {S : fm_S} {r : Option Value × am_W} (kt : ¬ sx0 = sx1 → am_Ev d k_M_read 86 [some (.ref 231), some (.int x1), some (.int x2), some (.int x3), o4] [] (fm_mk S) r) (kf : sx0 = sx1 → am_Ev d k_M_read 50 [some (.ref 231), some (.int x1), some (.int x2), some (.int x3), o4] [] (fm_mk S) r) : am_Ev d k_M_read 47 [some (.ref 231), some (.int x1), some (.int x2), some (.int x3), o4] [.int sx1, .int sx0] (fm_mk S) r := by
  exact fs_icne (off := 39) (tgt := 86) (by decide +kernel) (by decide) kt kf
theorem b_M_read_50 {d : Nat} {x1 : Int32} {x2 : Int32} {x3 : Int32} {o4 : Option Value} {S : fm_S} {r : Option Value × am_W} (kt : ¬ x3 = 1 → am_Ev d k_M_read 66 [some (.ref 231), some (.int x1), some (.int x2), some (.int x3), o4] [] (fm_mk S) r) (kf : x3 = 1 → am_Ev d k_M_read 55 [some (.ref 231), some (.int x1), some (.int x2), some (.int x3), o4] [] (fm_mk S) r) : am_Ev d k_M_read 50 [some (.ref 231), some (.int x1), some (.int x2), some (.int x3), o4] [] (fm_mk S) r := by
  refine fs_iloadn (j := 3) (by decide +kernel) rfl ?_
  refine fs_iconst (n := 1) (v := 1) (by decide +kernel) (by decide) ?_
  exact fs_icne (off := 14) (tgt := 66) (by decide +kernel) (by decide) kt kf
theorem b_M_read_55 {d : Nat} {x1 : Int32} {x2 : Int32} {x3 : Int32} {o4 : Option Value} {S : fm_S} {r : Option Value × am_W} (kt : 8 ≤ (S.1 233 0) → am_Ev d k_M_read 86 [some (.ref 231), some (.int x1), some (.int x2), some (.int x3), o4] [] (fm_mk S) r) (kf : ¬ 8 ≤ (S.1 233 0) → am_Ev d k_M_read 66 [some (.ref 231), some (.int x1), some (.int x2), some (.int x3), o4] [] (fm_mk S) r) : am_Ev d k_M_read 55 [some (.ref 231), some (.int x1), some (.int x2), some (.int x3), o4] [] (fm_mk S) r := by
  refine fs_aloadn (j := 0) (by decide +kernel) rfl ?_
  refine fe_getR (idx := 13) (t := 8) (f := 1) (fk := 2) (fin := 1) (wp := 946) (x := 233) (by decide +kernel) (by decide +kernel) (by decide +kernel) (by decide +kernel) (by decide +kernel) ?_
  refine fs_iconst (n := 0) (v := 0) (by decide +kernel) (by decide) ?_
  refine fx_iald (n := 0) (len := 373) (by decide +kernel) (by decide +kernel) (by decide +kernel) (vp_c (by decide) (by decide)) (by decide) ?_
  refine fs_bipush (n := 8) (v := 8) (by decide +kernel) (by decide) ?_
  exact fs_icge (off := 23) (tgt := 86) (by decide +kernel) (by decide) kt kf
theorem b_M_read_66 {d : Nat} {x1 : Int32} {x2 : Int32} {x3 : Int32} {o4 : Option Value} {S : fm_S} {r : Option Value × am_W} (kt : ¬ x3 = 5 → am_Ev d k_M_read 82 [some (.ref 231), some (.int x1), some (.int x2), some (.int x3), o4] [] (fm_mk S) r) (kf : x3 = 5 → am_Ev d k_M_read 71 [some (.ref 231), some (.int x1), some (.int x2), some (.int x3), o4] [] (fm_mk S) r) : am_Ev d k_M_read 66 [some (.ref 231), some (.int x1), some (.int x2), some (.int x3), o4] [] (fm_mk S) r := by
  refine fs_iloadn (j := 3) (by decide +kernel) rfl ?_
  refine fs_iconst (n := 5) (v := 5) (by decide +kernel) (by decide) ?_
  exact fs_icne (off := 14) (tgt := 82) (by decide +kernel) (by decide) kt kf
theorem b_M_read_71 {d : Nat} {x1 : Int32} {x2 : Int32} {x3 : Int32} {o4 : Option Value} {S : fm_S} {r : Option Value × am_W} (kt : 6 ≤ (S.1 233 1) → am_Ev d k_M_read 86 [some (.ref 231), some (.int x1), some (.int x2), some (.int x3), o4] [] (fm_mk S) r) (kf : ¬ 6 ≤ (S.1 233 1) → am_Ev d k_M_read 82 [some (.ref 231), some (.int x1), some (.int x2), some (.int x3), o4] [] (fm_mk S) r) : am_Ev d k_M_read 71 [some (.ref 231), some (.int x1), some (.int x2), some (.int x3), o4] [] (fm_mk S) r := by
  refine fs_aloadn (j := 0) (by decide +kernel) rfl ?_
  refine fe_getR (idx := 13) (t := 8) (f := 1) (fk := 2) (fin := 1) (wp := 946) (x := 233) (by decide +kernel) (by decide +kernel) (by decide +kernel) (by decide +kernel) (by decide +kernel) ?_
  refine fs_iconst (n := 1) (v := 1) (by decide +kernel) (by decide) ?_
  refine fx_iald (n := 1) (len := 373) (by decide +kernel) (by decide +kernel) (by decide +kernel) (vp_c (by decide) (by decide)) (by decide) ?_
  refine fs_bipush (n := 6) (v := 6) (by decide +kernel) (by decide) ?_
  exact fs_icge (off := 7) (tgt := 86) (by decide +kernel) (by decide) kt kf
theorem b_M_read_82 {d : Nat} {x1 : Int32} {x2 : Int32} {x3 : Int32} {o4 : Option Value} {S : fm_S} {r : Option Value × am_W} (nx : am_Ev d k_M_read 87 [some (.ref 231), some (.int x1), some (.int x2), some (.int x3), o4] [.int 1] (fm_mk S) r) : am_Ev d k_M_read 82 [some (.ref 231), some (.int x1), some (.int x2), some (.int x3), o4] [] (fm_mk S) r := by
  refine fs_iconst (n := 1) (v := 1) (by decide +kernel) (by decide) ?_
  refine fs_goto (off := 4) (tgt := 87) (by decide +kernel) (by decide) ?_
  exact nx
theorem b_M_read_86 {d : Nat} {x1 : Int32} {x2 : Int32} {x3 : Int32} {o4 : Option Value} {S : fm_S} {r : Option Value × am_W} (nx : am_Ev d k_M_read 87 [some (.ref 231), some (.int x1), some (.int x2), some (.int x3), o4] [.int 0] (fm_mk S) r) : am_Ev d k_M_read 86 [some (.ref 231), some (.int x1), some (.int x2), some (.int x3), o4] [] (fm_mk S) r := by
  refine fs_iconst (n := 0) (v := 0) (by decide +kernel) (by decide) ?_
  exact nx
theorem b_M_read_87 {d : Nat} {x1 : Int32} {x2 : Int32} {x3 : Int32} {o4 : Option Value} {sx0 : Int32} {S : fm_S} {r : Option Value × am_W} (kt : sx0 = 0 → am_Ev d k_M_read 102 [some (.ref 231), some (.int x1), some (.int x2), some (.int x3), some (.int sx0)] [] (fm_mk S) r) (kf : ¬ sx0 = 0 → am_Ev d k_M_read 94 [some (.ref 231), some (.int x1), some (.int x2), some (.int x3), some (.int sx0)] [] (fm_mk S) r) : am_Ev d k_M_read 87 [some (.ref 231), some (.int x1), some (.int x2), some (.int x3), o4] [.int sx0] (fm_mk S) r := by
  refine fs_istore (j := 4) (L' := [some (.ref 231), some (.int x1), some (.int x2), some (.int x3), some (.int sx0)]) (by decide +kernel) (Nat.le_of_ble_eq_true rfl) rfl ?_
  refine fs_iload (j := 4) (by decide +kernel) rfl ?_
  exact fs_ifeq (off := 11) (tgt := 102) (by decide +kernel) (by decide) kt kf
theorem b_M_read_94 {d : Nat} {x1 : Int32} {x2 : Int32} {x3 : Int32} {x4 : Int32} {v : Int32} {S1 : fm_S} {S : fm_S} {r : Option Value × am_W} (hc : am_Sp d k_M_item [.ref 231, .int x3] (fm_mk S) (some (.int v)) (fm_mk S1)) (nx : am_Ev (d + 1) k_M_read 99 [some (.ref 231), some (.int x1), some (.int x2), some (.int x3), some (.int x4)] [.int v] (fm_mk S1) r) : am_Ev (d + 1) k_M_read 94 [some (.ref 231), some (.int x1), some (.int x2), some (.int x3), some (.int x4)] [] (fm_mk S) r := by
  refine fs_aloadn (j := 0) (by decide +kernel) rfl ?_
  refine fs_iloadn (j := 3) (by decide +kernel) rfl ?_
  exact fe_callV (t := 8) (idx := 165) (n := 1) (wp := 1104) (q := (1106, 39)) (as := [.int x3]) (rs := []) (by decide +kernel) (by decide +kernel) (by decide +kernel) (by decide +kernel) rfl (Nat.le_of_ble_eq_true rfl) rfl hc nx
theorem b_M_read_99 {d : Nat} {x1 : Int32} {x2 : Int32} {x3 : Int32} {x4 : Int32} {sx0 : Int32} {S : fm_S} {r : Option Value × am_W} (kt : ¬ sx0 = 0 → am_Ev d k_M_read 110 [some (.ref 231), some (.int x1), some (.int x2), some (.int x3), some (.int x4)] [] (fm_mk S) r) (kf : sx0 = 0 → am_Ev d k_M_read 102 [some (.ref 231), some (.int x1), some (.int x2), some (.int x3), some (.int x4)] [] (fm_mk S) r) : am_Ev d k_M_read 99 [some (.ref 231), some (.int x1), some (.int x2), some (.int x3), some (.int x4)] [.int sx0] (fm_mk S) r := by
  exact fs_ifne (off := 11) (tgt := 110) (by decide +kernel) (by decide) kt kf
theorem b_M_read_102 {d : Nat} {x1 : Int32} {x2 : Int32} {x3 : Int32} {x4 : Int32} {S : fm_S}  : am_Ev d k_M_read 102 [some (.ref 231), some (.int x1), some (.int x2), some (.int x3), some (.int x4)] [] (fm_mk S) (some (.int ((-10) - (S.1 231 12))), fm_mk S) := by
  refine fs_bipush (n := -10) (v := (-10)) (by decide +kernel) (by decide) ?_
  refine fs_aloadn (j := 0) (by decide +kernel) rfl ?_
  refine fe_getI (idx := 114) (t := 8) (f := 12) (fk := 0) (fin := 0) (wp := 957) (by decide +kernel) (by decide +kernel) (by decide +kernel) (by decide +kernel) ?_
  refine fs_isub (by decide +kernel) ?_
  exact fe_retI (by decide +kernel) (by decide +kernel)
theorem b_M_read_110 {d : Nat} {x1 : Int32} {x2 : Int32} {x3 : Int32} {x4 : Int32} {S1 : fm_S} {S : fm_S} {r : Option Value × am_W} (hc : am_Sp d k_M_skip [.ref 231] (fm_mk S) (none) (fm_mk S1)) (nx : am_Ev (d + 1) k_M_read 117 [some (.ref 231), some (.int (x1 + 1)), some (.int x2), some (.int x3), some (.int x4)] [] (fm_mk S1) r) : am_Ev (d + 1) k_M_read 110 [some (.ref 231), some (.int x1), some (.int x2), some (.int x3), some (.int x4)] [] (fm_mk S) r := by
  refine fs_iinc (j := 1) (n := 1) (v := 1) (L' := [some (.ref 231), some (.int (x1 + 1)), some (.int x2), some (.int x3), some (.int x4)]) (by decide +kernel) rfl (Nat.le_of_ble_eq_true rfl) (by decide) rfl ?_
  refine fs_aloadn (j := 0) (by decide +kernel) rfl ?_
  exact fe_callV (t := 8) (idx := 117) (n := 0) (wp := 1080) (q := (1082, 36)) (as := []) (rs := []) (by decide +kernel) (by decide +kernel) (by decide +kernel) (by decide +kernel) rfl (Nat.le_of_ble_eq_true rfl) rfl hc nx
theorem b_M_read_117 {d : Nat} {x1 : Int32} {x2 : Int32} {x3 : Int32} {x4 : Int32} {S : fm_S} {r : Option Value × am_W} (kt : (S.1 231 5) ≤ (S.1 231 11) → am_Ev d k_M_read 132 [some (.ref 231), some (.int x1), some (.int x2), some (.int x3), some (.int x4)] [] (fm_mk S) r) (kf : ¬ (S.1 231 5) ≤ (S.1 231 11) → am_Ev d k_M_read 128 [some (.ref 231), some (.int x1), some (.int x2), some (.int x3), some (.int x4)] [] (fm_mk S) r) : am_Ev d k_M_read 117 [some (.ref 231), some (.int x1), some (.int x2), some (.int x3), some (.int x4)] [] (fm_mk S) r := by
  refine fs_aloadn (j := 0) (by decide +kernel) rfl ?_
  refine fe_getI (idx := 107) (t := 8) (f := 11) (fk := 0) (fin := 0) (wp := 956) (by decide +kernel) (by decide +kernel) (by decide +kernel) (by decide +kernel) ?_
  refine fs_aloadn (j := 0) (by decide +kernel) rfl ?_
  refine fe_getI (idx := 104) (t := 8) (f := 5) (fk := 0) (fin := 0) (wp := 950) (by decide +kernel) (by decide +kernel) (by decide +kernel) (by decide +kernel) ?_
  exact fs_icge (off := 7) (tgt := 132) (by decide +kernel) (by decide) kt kf
theorem b_M_read_128 {d : Nat} {x1 : Int32} {x2 : Int32} {x3 : Int32} {x4 : Int32} {S : fm_S} {r : Option Value × am_W} (nx : am_Ev d k_M_read 133 [some (.ref 231), some (.int x1), some (.int x2), some (.int x3), some (.int x4)] [.int 1] (fm_mk S) r) : am_Ev d k_M_read 128 [some (.ref 231), some (.int x1), some (.int x2), some (.int x3), some (.int x4)] [] (fm_mk S) r := by
  refine fs_iconst (n := 1) (v := 1) (by decide +kernel) (by decide) ?_
  refine fs_goto (off := 4) (tgt := 133) (by decide +kernel) (by decide) ?_
  exact nx
theorem b_M_read_132 {d : Nat} {x1 : Int32} {x2 : Int32} {x3 : Int32} {x4 : Int32} {S : fm_S} {r : Option Value × am_W} (nx : am_Ev d k_M_read 133 [some (.ref 231), some (.int x1), some (.int x2), some (.int x3), some (.int x4)] [.int 0] (fm_mk S) r) : am_Ev d k_M_read 132 [some (.ref 231), some (.int x1), some (.int x2), some (.int x3), some (.int x4)] [] (fm_mk S) r := by
  refine fs_iconst (n := 0) (v := 0) (by decide +kernel) (by decide) ?_
  exact nx
theorem b_M_read_133 {d : Nat} {x1 : Int32} {x2 : Int32} {x3 : Int32} {x4 : Int32} {sx0 : Int32} {S : fm_S} {r : Option Value × am_W} (nx : am_Ev d k_M_read 16 [some (.ref 231), some (.int x1), some (.int sx0), some (.int x3), some (.int x4)] [] (fm_mk S) r) : am_Ev d k_M_read 133 [some (.ref 231), some (.int x1), some (.int x2), some (.int x3), some (.int x4)] [.int sx0] (fm_mk S) r := by
  refine fs_istoren (j := 2) (L' := [some (.ref 231), some (.int x1), some (.int sx0), some (.int x3), some (.int x4)]) (by decide +kernel) (Nat.le_of_ble_eq_true rfl) rfl ?_
  refine fs_goto (off := -118) (tgt := 16) (by decide +kernel) (by decide) ?_
  exact nx
theorem b_M_read_137 {d : Nat} {x1 : Int32} {x2 : Int32} {o3 : Option Value} {o4 : Option Value} {S : fm_S} {r : Option Value × am_W} (nx : am_Ev d k_M_read 139 [some (.ref 231), some (.int x1), some (.int x2), some (.int 0), o4] [] (fm_mk S) r) : am_Ev d k_M_read 137 [some (.ref 231), some (.int x1), some (.int x2), o3, o4] [] (fm_mk S) r := by
  refine fs_iconst (n := 0) (v := 0) (by decide +kernel) (by decide) ?_
  refine fs_istoren (j := 3) (L' := [some (.ref 231), some (.int x1), some (.int x2), some (.int 0), o4]) (by decide +kernel) (Nat.le_of_ble_eq_true rfl) rfl ?_
  exact nx
theorem b_M_read_139 {d : Nat} {x1 : Int32} {x2 : Int32} {x3 : Int32} {o4 : Option Value} {S : fm_S} {r : Option Value × am_W} (kt : 373 ≤ x3 → am_Ev d k_M_read 164 [some (.ref 231), some (.int x1), some (.int x2), some (.int x3), o4] [] (fm_mk S) r) (kf : ¬ 373 ≤ x3 → am_Ev d k_M_read 146 [some (.ref 231), some (.int x1), some (.int x2), some (.int x3), o4] [] (fm_mk S) r) : am_Ev d k_M_read 139 [some (.ref 231), some (.int x1), some (.int x2), some (.int x3), o4] [] (fm_mk S) r := by
  refine fs_iloadn (j := 3) (by decide +kernel) rfl ?_
  refine fs_sipush (n := 373) (v := 373) (by decide +kernel) (by decide) ?_
  exact fs_icge (off := 21) (tgt := 164) (by decide +kernel) (by decide) kt kf
theorem b_M_read_146 {d : Nat} {x1 : Int32} {x2 : Int32} {x3 : Int32} {o4 : Option Value} {S : fm_S} {r : Option Value × am_W} (hi0 : vp_in x3 373) (nx : am_Ev d k_M_read 139 [some (.ref 231), some (.int x1), some (.int x2), some (.int (x3 + 1)), o4] [] (fm_mk (fm_wI S 232 x3.toNatClampNeg (S.1 233 x3.toNatClampNeg))) r) : am_Ev d k_M_read 146 [some (.ref 231), some (.int x1), some (.int x2), some (.int x3), o4] [] (fm_mk S) r := by
  refine fs_aloadn (j := 0) (by decide +kernel) rfl ?_
  refine fe_getR (idx := 7) (t := 8) (f := 0) (fk := 2) (fin := 1) (wp := 945) (x := 232) (by decide +kernel) (by decide +kernel) (by decide +kernel) (by decide +kernel) (by decide +kernel) ?_
  refine fs_iloadn (j := 3) (by decide +kernel) rfl ?_
  refine fs_aloadn (j := 0) (by decide +kernel) rfl ?_
  refine fe_getR (idx := 13) (t := 8) (f := 1) (fk := 2) (fin := 1) (wp := 946) (x := 233) (by decide +kernel) (by decide +kernel) (by decide +kernel) (by decide +kernel) (by decide +kernel) ?_
  refine fs_iloadn (j := 3) (by decide +kernel) rfl ?_
  refine fx_iald (n := x3.toNatClampNeg) (len := 373) (by decide +kernel) (by decide +kernel) (by decide +kernel) hi0 rfl ?_
  refine fx_iast (n := x3.toNatClampNeg) (len := 373) (by decide +kernel) (by decide +kernel) (by decide +kernel) hi0 rfl ?_
  refine fs_iinc (j := 3) (n := 1) (v := 1) (L' := [some (.ref 231), some (.int x1), some (.int x2), some (.int (x3 + 1)), o4]) (by decide +kernel) rfl (Nat.le_of_ble_eq_true rfl) (by decide) rfl ?_
  refine fs_goto (off := -22) (tgt := 139) (by decide +kernel) (by decide) ?_
  exact nx
theorem b_M_read_164 {d : Nat} {x1 : Int32} {x2 : Int32} {x3 : Int32} {o4 : Option Value} {S : fm_S}  : am_Ev d k_M_read 164 [some (.ref 231), some (.int x1), some (.int x2), some (.int x3), o4] [] (fm_mk S) (some (.int x1), fm_mk S) := by
  refine fs_iloadn (j := 1) (by decide +kernel) rfl ?_
  exact fe_retI (by decide +kernel) (by decide +kernel)
-- KitchenSiegeModel.word()I
theorem b_M_word_0 {d : Nat} {o1 : Option Value} {o2 : Option Value} {o3 : Option Value} {o4 : Option Value} {o5 : Option Value} {o6 : Option Value} {S1 : fm_S} {S : fm_S} {r : Option Value × am_W} (hc : am_Sp d k_M_skip [.ref 231] (fm_mk S) (none) (fm_mk S1)) (nx : am_Ev (d + 1) k_M_word 4 [some (.ref 231), o1, o2, o3, o4, o5, o6] [] (fm_mk S1) r) : am_Ev (d + 1) k_M_word 0 [some (.ref 231), o1, o2, o3, o4, o5, o6] [] (fm_mk S) r := by
  refine fs_aloadn (j := 0) (by decide +kernel) rfl ?_
  exact fe_callV (t := 8) (idx := 117) (n := 0) (wp := 1080) (q := (1082, 36)) (as := []) (rs := []) (by decide +kernel) (by decide +kernel) (by decide +kernel) (by decide +kernel) rfl (Nat.le_of_ble_eq_true rfl) rfl hc nx
theorem b_M_word_4 {d : Nat} {o1 : Option Value} {o2 : Option Value} {o3 : Option Value} {o4 : Option Value} {o5 : Option Value} {o6 : Option Value} {S : fm_S} {r : Option Value × am_W} (nx : am_Ev d k_M_word 9 [some (.ref 231), some (.int (S.1 231 11)), o2, o3, o4, o5, o6] [] (fm_mk S) r) : am_Ev d k_M_word 4 [some (.ref 231), o1, o2, o3, o4, o5, o6] [] (fm_mk S) r := by
  refine fs_aloadn (j := 0) (by decide +kernel) rfl ?_
  refine fe_getI (idx := 107) (t := 8) (f := 11) (fk := 0) (fin := 0) (wp := 956) (by decide +kernel) (by decide +kernel) (by decide +kernel) (by decide +kernel) ?_
  refine fs_istoren (j := 1) (L' := [some (.ref 231), some (.int (S.1 231 11)), o2, o3, o4, o5, o6]) (by decide +kernel) (Nat.le_of_ble_eq_true rfl) rfl ?_
  exact nx
theorem b_M_word_9 {d : Nat} {x1 : Int32} {o2 : Option Value} {o3 : Option Value} {o4 : Option Value} {o5 : Option Value} {o6 : Option Value} {v : Int32} {S1 : fm_S} {S : fm_S} {r : Option Value × am_W} (hc : am_Sp d k_M_byteAt [.ref 231, .int (S.1 231 11)] (fm_mk S) (some (.int v)) (fm_mk S1)) (nx : am_Ev (d + 1) k_M_word 17 [some (.ref 231), some (.int x1), o2, o3, o4, o5, o6] [.int v] (fm_mk S1) r) : am_Ev (d + 1) k_M_word 9 [some (.ref 231), some (.int x1), o2, o3, o4, o5, o6] [] (fm_mk S) r := by
  refine fs_aloadn (j := 0) (by decide +kernel) rfl ?_
  refine fs_aloadn (j := 0) (by decide +kernel) rfl ?_
  refine fe_getI (idx := 107) (t := 8) (f := 11) (fk := 0) (fin := 0) (wp := 956) (by decide +kernel) (by decide +kernel) (by decide +kernel) (by decide +kernel) ?_
  exact fe_callV (t := 8) (idx := 110) (n := 1) (wp := 1084) (q := (1086, 37)) (as := [.int (S.1 231 11)]) (rs := []) (by decide +kernel) (by decide +kernel) (by decide +kernel) (by decide +kernel) rfl (Nat.le_of_ble_eq_true rfl) rfl hc nx
theorem b_M_word_17 {d : Nat} {x1 : Int32} {o2 : Option Value} {o3 : Option Value} {o4 : Option Value} {o5 : Option Value} {o6 : Option Value} {sx0 : Int32} {v : Int32} {S1 : fm_S} {S : fm_S} {r : Option Value × am_W} (hc : am_Sp d k_M_in [.long sx0.toInt64, .long 97, .long 122] (fm_mk S) (some (.int v)) (fm_mk S1)) (nx : am_Ev (d + 1) k_M_word 27 [some (.ref 231), some (.int x1), o2, o3, o4, o5, o6] [.int v] (fm_mk S1) r) : am_Ev (d + 1) k_M_word 17 [some (.ref 231), some (.int x1), o2, o3, o4, o5, o6] [.int sx0] (fm_mk S) r := by
  refine fs_i2l (by decide +kernel) ?_
  refine fs_ldc2 (idx := 143) (q := 1088) (v := 97) (by decide +kernel) (by decide +kernel) ?_
  refine fs_ldc2 (idx := 145) (q := 1089) (v := 122) (by decide +kernel) (by decide +kernel) ?_
  exact fe_callS (idx := 67) (kd := 0) (n := 3) (wp := 1016) (q := (1017, 0)) (as := [.long sx0.toInt64, .long 97, .long 122]) (rs := []) (by decide +kernel) (by decide +kernel) (by decide +kernel) (by decide) rfl (Nat.le_of_ble_eq_true rfl) rfl hc nx
theorem b_M_word_27 {d : Nat} {x1 : Int32} {o2 : Option Value} {o3 : Option Value} {o4 : Option Value} {o5 : Option Value} {o6 : Option Value} {sx0 : Int32} {S : fm_S} {r : Option Value × am_W} (kt : sx0 = 0 → am_Ev d k_M_word 43 [some (.ref 231), some (.int x1), o2, o3, o4, o5, o6] [] (fm_mk S) r) (kf : ¬ sx0 = 0 → am_Ev d k_M_word 30 [some (.ref 231), some (.int x1), o2, o3, o4, o5, o6] [] (fm_mk S) r) : am_Ev d k_M_word 27 [some (.ref 231), some (.int x1), o2, o3, o4, o5, o6] [.int sx0] (fm_mk S) r := by
  exact fs_ifeq (off := 16) (tgt := 43) (by decide +kernel) (by decide) kt kf
theorem b_M_word_30 {d : Nat} {x1 : Int32} {o2 : Option Value} {o3 : Option Value} {o4 : Option Value} {o5 : Option Value} {o6 : Option Value} {S : fm_S} {r : Option Value × am_W} (nx : am_Ev d k_M_word 9 [some (.ref 231), some (.int x1), o2, o3, o4, o5, o6] [] (fm_mk (fm_wI S 231 11 ((S.1 231 11) + 1))) r) : am_Ev d k_M_word 30 [some (.ref 231), some (.int x1), o2, o3, o4, o5, o6] [] (fm_mk S) r := by
  refine fs_aloadn (j := 0) (by decide +kernel) rfl ?_
  refine fs_dup (by decide +kernel) rfl ?_
  refine fe_getI (idx := 107) (t := 8) (f := 11) (fk := 0) (fin := 0) (wp := 956) (by decide +kernel) (by decide +kernel) (by decide +kernel) (by decide +kernel) ?_
  refine fs_iconst (n := 1) (v := 1) (by decide +kernel) (by decide) ?_
  refine fs_iadd (by decide +kernel) ?_
  refine fe_putI (idx := 107) (t := 8) (f := 11) (wp := 956) (by decide +kernel) (by decide +kernel) (by decide +kernel) (by decide +kernel) ?_
  refine fs_goto (off := -31) (tgt := 9) (by decide +kernel) (by decide) ?_
  exact nx
theorem b_M_word_43 {d : Nat} {x1 : Int32} {o2 : Option Value} {o3 : Option Value} {o4 : Option Value} {o5 : Option Value} {o6 : Option Value} {S : fm_S} {r : Option Value × am_W} (nx : am_Ev d k_M_word 55 [some (.ref 231), some (.int x1), some (.int ((S.1 231 11) - x1)), some (.int (-1)), some (.int 0), o5, o6] [] (fm_mk S) r) : am_Ev d k_M_word 43 [some (.ref 231), some (.int x1), o2, o3, o4, o5, o6] [] (fm_mk S) r := by
  refine fs_aloadn (j := 0) (by decide +kernel) rfl ?_
  refine fe_getI (idx := 107) (t := 8) (f := 11) (fk := 0) (fin := 0) (wp := 956) (by decide +kernel) (by decide +kernel) (by decide +kernel) (by decide +kernel) ?_
  refine fs_iloadn (j := 1) (by decide +kernel) rfl ?_
  refine fs_isub (by decide +kernel) ?_
  refine fs_istoren (j := 2) (L' := [some (.ref 231), some (.int x1), some (.int ((S.1 231 11) - x1)), o3, o4, o5, o6]) (by decide +kernel) (Nat.le_of_ble_eq_true rfl) rfl ?_
  refine fs_iconst (n := -1) (v := (-1)) (by decide +kernel) (by decide) ?_
  refine fs_istoren (j := 3) (L' := [some (.ref 231), some (.int x1), some (.int ((S.1 231 11) - x1)), some (.int (-1)), o4, o5, o6]) (by decide +kernel) (Nat.le_of_ble_eq_true rfl) rfl ?_
  refine fs_iconst (n := 0) (v := 0) (by decide +kernel) (by decide) ?_
  refine fs_istore (j := 4) (L' := [some (.ref 231), some (.int x1), some (.int ((S.1 231 11) - x1)), some (.int (-1)), some (.int 0), o5, o6]) (by decide +kernel) (Nat.le_of_ble_eq_true rfl) rfl ?_
  exact nx
theorem b_M_word_55 {d : Nat} {x1 : Int32} {x2 : Int32} {x3 : Int32} {x4 : Int32} {o5 : Option Value} {o6 : Option Value} {S : fm_S} {r : Option Value × am_W} (kt : 6 ≤ x4 → am_Ev d k_M_word 149 [some (.ref 231), some (.int x1), some (.int x2), some (.int x3), some (.int x4), o5, o6] [] (fm_mk S) r) (kf : ¬ 6 ≤ x4 → am_Ev d k_M_word 62 [some (.ref 231), some (.int x1), some (.int x2), some (.int x3), some (.int x4), o5, o6] [] (fm_mk S) r) : am_Ev d k_M_word 55 [some (.ref 231), some (.int x1), some (.int x2), some (.int x3), some (.int x4), o5, o6] [] (fm_mk S) r := by
  refine fs_iload (j := 4) (by decide +kernel) rfl ?_
  refine fs_bipush (n := 6) (v := 6) (by decide +kernel) (by decide) ?_
  exact fs_icge (off := 90) (tgt := 149) (by decide +kernel) (by decide) kt kf
theorem b_M_word_62 {d : Nat} {x1 : Int32} {x2 : Int32} {x3 : Int32} {x4 : Int32} {o5 : Option Value} {o6 : Option Value} {S : fm_S} {r : Option Value × am_W} (kt : ¬ x4 = 1 → am_Ev d k_M_word 74 [some (.ref 231), some (.int x1), some (.int x2), some (.int x3), some (.int x4), o5, o6] [.int x2] (fm_mk S) r) (kf : x4 = 1 → am_Ev d k_M_word 69 [some (.ref 231), some (.int x1), some (.int x2), some (.int x3), some (.int x4), o5, o6] [.int x2] (fm_mk S) r) : am_Ev d k_M_word 62 [some (.ref 231), some (.int x1), some (.int x2), some (.int x3), some (.int x4), o5, o6] [] (fm_mk S) r := by
  refine fs_iloadn (j := 2) (by decide +kernel) rfl ?_
  refine fs_iload (j := 4) (by decide +kernel) rfl ?_
  refine fs_iconst (n := 1) (v := 1) (by decide +kernel) (by decide) ?_
  exact fs_icne (off := 8) (tgt := 74) (by decide +kernel) (by decide) kt kf
theorem b_M_word_69 {d : Nat} {x1 : Int32} {x2 : Int32} {x3 : Int32} {x4 : Int32} {o5 : Option Value} {o6 : Option Value} {sx0 : Int32} {S : fm_S} {r : Option Value × am_W} (nx : am_Ev d k_M_word 75 [some (.ref 231), some (.int x1), some (.int x2), some (.int x3), some (.int x4), o5, o6] [.int 6, .int sx0] (fm_mk S) r) : am_Ev d k_M_word 69 [some (.ref 231), some (.int x1), some (.int x2), some (.int x3), some (.int x4), o5, o6] [.int sx0] (fm_mk S) r := by
  refine fs_bipush (n := 6) (v := 6) (by decide +kernel) (by decide) ?_
  refine fs_goto (off := 4) (tgt := 75) (by decide +kernel) (by decide) ?_
  exact nx
theorem b_M_word_74 {d : Nat} {x1 : Int32} {x2 : Int32} {x3 : Int32} {x4 : Int32} {o5 : Option Value} {o6 : Option Value} {sx0 : Int32} {S : fm_S} {r : Option Value × am_W} (nx : am_Ev d k_M_word 75 [some (.ref 231), some (.int x1), some (.int x2), some (.int x3), some (.int x4), o5, o6] [.int 4, .int sx0] (fm_mk S) r) : am_Ev d k_M_word 74 [some (.ref 231), some (.int x1), some (.int x2), some (.int x3), some (.int x4), o5, o6] [.int sx0] (fm_mk S) r := by
  refine fs_iconst (n := 4) (v := 4) (by decide +kernel) (by decide) ?_
  exact nx
theorem b_M_word_75 {d : Nat} {x1 : Int32} {x2 : Int32} {x3 : Int32} {x4 : Int32} {o5 : Option Value} {o6 : Option Value} {sx0 : Int32} {sx1 : Int32} {S : fm_S} {r : Option Value × am_W} (kt : ¬ sx0 = sx1 → am_Ev d k_M_word 82 [some (.ref 231), some (.int x1), some (.int x2), some (.int x3), some (.int x4), o5, o6] [] (fm_mk S) r) (kf : sx0 = sx1 → am_Ev d k_M_word 78 [some (.ref 231), some (.int x1), some (.int x2), some (.int x3), some (.int x4), o5, o6] [] (fm_mk S) r) : am_Ev d k_M_word 75 [some (.ref 231), some (.int x1), some (.int x2), some (.int x3), some (.int x4), o5, o6] [.int sx1, .int sx0] (fm_mk S) r := by
  exact fs_icne (off := 7) (tgt := 82) (by decide +kernel) (by decide) kt kf
theorem b_M_word_78 {d : Nat} {x1 : Int32} {x2 : Int32} {x3 : Int32} {x4 : Int32} {o5 : Option Value} {o6 : Option Value} {S : fm_S} {r : Option Value × am_W} (nx : am_Ev d k_M_word 83 [some (.ref 231), some (.int x1), some (.int x2), some (.int x3), some (.int x4), o5, o6] [.int 1] (fm_mk S) r) : am_Ev d k_M_word 78 [some (.ref 231), some (.int x1), some (.int x2), some (.int x3), some (.int x4), o5, o6] [] (fm_mk S) r := by
  refine fs_iconst (n := 1) (v := 1) (by decide +kernel) (by decide) ?_
  refine fs_goto (off := 4) (tgt := 83) (by decide +kernel) (by decide) ?_
  exact nx
theorem b_M_word_82 {d : Nat} {x1 : Int32} {x2 : Int32} {x3 : Int32} {x4 : Int32} {o5 : Option Value} {o6 : Option Value} {S : fm_S} {r : Option Value × am_W} (nx : am_Ev d k_M_word 83 [some (.ref 231), some (.int x1), some (.int x2), some (.int x3), some (.int x4), o5, o6] [.int 0] (fm_mk S) r) : am_Ev d k_M_word 82 [some (.ref 231), some (.int x1), some (.int x2), some (.int x3), some (.int x4), o5, o6] [] (fm_mk S) r := by
  refine fs_iconst (n := 0) (v := 0) (by decide +kernel) (by decide) ?_
  exact nx
theorem b_M_word_83 {d : Nat} {x1 : Int32} {x2 : Int32} {x3 : Int32} {x4 : Int32} {o5 : Option Value} {o6 : Option Value} {sx0 : Int32} {S : fm_S} {r : Option Value × am_W} (nx : am_Ev d k_M_word 88 [some (.ref 231), some (.int x1), some (.int x2), some (.int x3), some (.int x4), some (.int sx0), some (.int 0)] [] (fm_mk S) r) : am_Ev d k_M_word 83 [some (.ref 231), some (.int x1), some (.int x2), some (.int x3), some (.int x4), o5, o6] [.int sx0] (fm_mk S) r := by
  refine fs_istore (j := 5) (L' := [some (.ref 231), some (.int x1), some (.int x2), some (.int x3), some (.int x4), some (.int sx0), o6]) (by decide +kernel) (Nat.le_of_ble_eq_true rfl) rfl ?_
  refine fs_iconst (n := 0) (v := 0) (by decide +kernel) (by decide) ?_
  refine fs_istore (j := 6) (L' := [some (.ref 231), some (.int x1), some (.int x2), some (.int x3), some (.int x4), some (.int sx0), some (.int 0)]) (by decide +kernel) (Nat.le_of_ble_eq_true rfl) rfl ?_
  exact nx
theorem b_M_word_88 {d : Nat} {x1 : Int32} {x2 : Int32} {x3 : Int32} {x4 : Int32} {x5 : Int32} {x6 : Int32} {S : fm_S} {r : Option Value × am_W} (kt : x2 ≤ x6 → am_Ev d k_M_word 131 [some (.ref 231), some (.int x1), some (.int x2), some (.int x3), some (.int x4), some (.int x5), some (.int x6)] [] (fm_mk S) r) (kf : ¬ x2 ≤ x6 → am_Ev d k_M_word 94 [some (.ref 231), some (.int x1), some (.int x2), some (.int x3), some (.int x4), some (.int x5), some (.int x6)] [] (fm_mk S) r) : am_Ev d k_M_word 88 [some (.ref 231), some (.int x1), some (.int x2), some (.int x3), some (.int x4), some (.int x5), some (.int x6)] [] (fm_mk S) r := by
  refine fs_iload (j := 6) (by decide +kernel) rfl ?_
  refine fs_iloadn (j := 2) (by decide +kernel) rfl ?_
  exact fs_icge (off := 40) (tgt := 131) (by decide +kernel) (by decide) kt kf
theorem b_M_word_94 {d : Nat} {x1 : Int32} {x2 : Int32} {x3 : Int32} {x4 : Int32} {x5 : Int32} {x6 : Int32} {S : fm_S} {r : Option Value × am_W} (kt : x5 = 0 → am_Ev d k_M_word 131 [some (.ref 231), some (.int x1), some (.int x2), some (.int x3), some (.int x4), some (.int x5), some (.int x6)] [] (fm_mk S) r) (kf : ¬ x5 = 0 → am_Ev d k_M_word 99 [some (.ref 231), some (.int x1), some (.int x2), some (.int x3), some (.int x4), some (.int x5), some (.int x6)] [] (fm_mk S) r) : am_Ev d k_M_word 94 [some (.ref 231), some (.int x1), some (.int x2), some (.int x3), some (.int x4), some (.int x5), some (.int x6)] [] (fm_mk S) r := by
  refine fs_iload (j := 5) (by decide +kernel) rfl ?_
  exact fs_ifeq (off := 35) (tgt := 131) (by decide +kernel) (by decide) kt kf
theorem b_M_word_99 {d : Nat} {x1 : Int32} {x2 : Int32} {x3 : Int32} {x4 : Int32} {x5 : Int32} {x6 : Int32} {v : Int32} {S1 : fm_S} {S : fm_S} {r : Option Value × am_W} (hi0 : vp_in (x1 + x6) 150) (hc : am_Sp d k_M_letterOf [.int x4, .int x6] (fm_mk S) (some (.int v)) (fm_mk S1)) (nx : am_Ev (d + 1) k_M_word 115 [some (.ref 231), some (.int x1), some (.int x2), some (.int x3), some (.int x4), some (.int x5), some (.int x6)] [.int v, .int (S.1 236 ((x1 + x6).toNatClampNeg))] (fm_mk S1) r) : am_Ev (d + 1) k_M_word 99 [some (.ref 231), some (.int x1), some (.int x2), some (.int x3), some (.int x4), some (.int x5), some (.int x6)] [] (fm_mk S) r := by
  refine fs_aloadn (j := 0) (by decide +kernel) rfl ?_
  refine fe_getR (idx := 22) (t := 8) (f := 4) (fk := 2) (fin := 1) (wp := 949) (x := 236) (by decide +kernel) (by decide +kernel) (by decide +kernel) (by decide +kernel) (by decide +kernel) ?_
  refine fs_iloadn (j := 1) (by decide +kernel) rfl ?_
  refine fs_iload (j := 6) (by decide +kernel) rfl ?_
  refine fs_iadd (by decide +kernel) ?_
  refine fx_iald (n := (x1 + x6).toNatClampNeg) (len := 150) (by decide +kernel) (by decide +kernel) (by decide +kernel) hi0 rfl ?_
  refine fs_iload (j := 4) (by decide +kernel) rfl ?_
  refine fs_iload (j := 6) (by decide +kernel) rfl ?_
  exact fe_callS (idx := 147) (kd := 0) (n := 2) (wp := 1090) (q := (1091, 0)) (as := [.int x4, .int x6]) (rs := [.int (S.1 236 ((x1 + x6).toNatClampNeg))]) (by decide +kernel) (by decide +kernel) (by decide +kernel) (by decide) rfl (Nat.le_of_ble_eq_true rfl) rfl hc nx
theorem b_M_word_115 {d : Nat} {x1 : Int32} {x2 : Int32} {x3 : Int32} {x4 : Int32} {x5 : Int32} {x6 : Int32} {sx0 : Int32} {sx1 : Int32} {S : fm_S} {r : Option Value × am_W} (kt : ¬ sx0 = sx1 → am_Ev d k_M_word 122 [some (.ref 231), some (.int x1), some (.int x2), some (.int x3), some (.int x4), some (.int x5), some (.int x6)] [] (fm_mk S) r) (kf : sx0 = sx1 → am_Ev d k_M_word 118 [some (.ref 231), some (.int x1), some (.int x2), some (.int x3), some (.int x4), some (.int x5), some (.int x6)] [] (fm_mk S) r) : am_Ev d k_M_word 115 [some (.ref 231), some (.int x1), some (.int x2), some (.int x3), some (.int x4), some (.int x5), some (.int x6)] [.int sx1, .int sx0] (fm_mk S) r := by
  exact fs_icne (off := 7) (tgt := 122) (by decide +kernel) (by decide) kt kf
theorem b_M_word_118 {d : Nat} {x1 : Int32} {x2 : Int32} {x3 : Int32} {x4 : Int32} {x5 : Int32} {x6 : Int32} {S : fm_S} {r : Option Value × am_W} (nx : am_Ev d k_M_word 123 [some (.ref 231), some (.int x1), some (.int x2), some (.int x3), some (.int x4), some (.int x5), some (.int x6)] [.int 1] (fm_mk S) r) : am_Ev d k_M_word 118 [some (.ref 231), some (.int x1), some (.int x2), some (.int x3), some (.int x4), some (.int x5), some (.int x6)] [] (fm_mk S) r := by
  refine fs_iconst (n := 1) (v := 1) (by decide +kernel) (by decide) ?_
  refine fs_goto (off := 4) (tgt := 123) (by decide +kernel) (by decide) ?_
  exact nx
theorem b_M_word_122 {d : Nat} {x1 : Int32} {x2 : Int32} {x3 : Int32} {x4 : Int32} {x5 : Int32} {x6 : Int32} {S : fm_S} {r : Option Value × am_W} (nx : am_Ev d k_M_word 123 [some (.ref 231), some (.int x1), some (.int x2), some (.int x3), some (.int x4), some (.int x5), some (.int x6)] [.int 0] (fm_mk S) r) : am_Ev d k_M_word 122 [some (.ref 231), some (.int x1), some (.int x2), some (.int x3), some (.int x4), some (.int x5), some (.int x6)] [] (fm_mk S) r := by
  refine fs_iconst (n := 0) (v := 0) (by decide +kernel) (by decide) ?_
  exact nx
theorem b_M_word_123 {d : Nat} {x1 : Int32} {x2 : Int32} {x3 : Int32} {x4 : Int32} {x5 : Int32} {x6 : Int32} {sx0 : Int32} {S : fm_S} {r : Option Value × am_W} (nx : am_Ev d k_M_word 88 [some (.ref 231), some (.int x1), some (.int x2), some (.int x3), some (.int x4), some (.int sx0), some (.int (x6 + 1))] [] (fm_mk S) r) : am_Ev d k_M_word 123 [some (.ref 231), some (.int x1), some (.int x2), some (.int x3), some (.int x4), some (.int x5), some (.int x6)] [.int sx0] (fm_mk S) r := by
  refine fs_istore (j := 5) (L' := [some (.ref 231), some (.int x1), some (.int x2), some (.int x3), some (.int x4), some (.int sx0), some (.int x6)]) (by decide +kernel) (Nat.le_of_ble_eq_true rfl) rfl ?_
  refine fs_iinc (j := 6) (n := 1) (v := 1) (L' := [some (.ref 231), some (.int x1), some (.int x2), some (.int x3), some (.int x4), some (.int sx0), some (.int (x6 + 1))]) (by decide +kernel) rfl (Nat.le_of_ble_eq_true rfl) (by decide) rfl ?_
  refine fs_goto (off := -40) (tgt := 88) (by decide +kernel) (by decide) ?_
  exact nx
theorem b_M_word_131 {d : Nat} {x1 : Int32} {x2 : Int32} {x3 : Int32} {x4 : Int32} {x5 : Int32} {x6 : Int32} {S : fm_S} {r : Option Value × am_W} (kt : x5 = 0 → am_Ev d k_M_word 141 [some (.ref 231), some (.int x1), some (.int x2), some (.int x3), some (.int x4), some (.int x5), some (.int x6)] [] (fm_mk S) r) (kf : ¬ x5 = 0 → am_Ev d k_M_word 136 [some (.ref 231), some (.int x1), some (.int x2), some (.int x3), some (.int x4), some (.int x5), some (.int x6)] [] (fm_mk S) r) : am_Ev d k_M_word 131 [some (.ref 231), some (.int x1), some (.int x2), some (.int x3), some (.int x4), some (.int x5), some (.int x6)] [] (fm_mk S) r := by
  refine fs_iload (j := 5) (by decide +kernel) rfl ?_
  exact fs_ifeq (off := 8) (tgt := 141) (by decide +kernel) (by decide) kt kf
theorem b_M_word_136 {d : Nat} {x1 : Int32} {x2 : Int32} {x3 : Int32} {x4 : Int32} {x5 : Int32} {x6 : Int32} {S : fm_S} {r : Option Value × am_W} (nx : am_Ev d k_M_word 142 [some (.ref 231), some (.int x1), some (.int x2), some (.int x3), some (.int x4), some (.int x5), some (.int x6)] [.int x4] (fm_mk S) r) : am_Ev d k_M_word 136 [some (.ref 231), some (.int x1), some (.int x2), some (.int x3), some (.int x4), some (.int x5), some (.int x6)] [] (fm_mk S) r := by
  refine fs_iload (j := 4) (by decide +kernel) rfl ?_
  refine fs_goto (off := 4) (tgt := 142) (by decide +kernel) (by decide) ?_
  exact nx
theorem b_M_word_141 {d : Nat} {x1 : Int32} {x2 : Int32} {x3 : Int32} {x4 : Int32} {x5 : Int32} {x6 : Int32} {S : fm_S} {r : Option Value × am_W} (nx : am_Ev d k_M_word 142 [some (.ref 231), some (.int x1), some (.int x2), some (.int x3), some (.int x4), some (.int x5), some (.int x6)] [.int x3] (fm_mk S) r) : am_Ev d k_M_word 141 [some (.ref 231), some (.int x1), some (.int x2), some (.int x3), some (.int x4), some (.int x5), some (.int x6)] [] (fm_mk S) r := by
  refine fs_iloadn (j := 3) (by decide +kernel) rfl ?_
  exact nx
theorem b_M_word_142 {d : Nat} {x1 : Int32} {x2 : Int32} {x3 : Int32} {x4 : Int32} {x5 : Int32} {x6 : Int32} {sx0 : Int32} {S : fm_S} {r : Option Value × am_W} (nx : am_Ev d k_M_word 55 [some (.ref 231), some (.int x1), some (.int x2), some (.int sx0), some (.int (x4 + 1)), some (.int x5), some (.int x6)] [] (fm_mk S) r) : am_Ev d k_M_word 142 [some (.ref 231), some (.int x1), some (.int x2), some (.int x3), some (.int x4), some (.int x5), some (.int x6)] [.int sx0] (fm_mk S) r := by
  refine fs_istoren (j := 3) (L' := [some (.ref 231), some (.int x1), some (.int x2), some (.int sx0), some (.int x4), some (.int x5), some (.int x6)]) (by decide +kernel) (Nat.le_of_ble_eq_true rfl) rfl ?_
  refine fs_iinc (j := 4) (n := 1) (v := 1) (L' := [some (.ref 231), some (.int x1), some (.int x2), some (.int sx0), some (.int (x4 + 1)), some (.int x5), some (.int x6)]) (by decide +kernel) rfl (Nat.le_of_ble_eq_true rfl) (by decide) rfl ?_
  refine fs_goto (off := -91) (tgt := 55) (by decide +kernel) (by decide) ?_
  exact nx
theorem b_M_word_149 {d : Nat} {x1 : Int32} {x2 : Int32} {x3 : Int32} {x4 : Int32} {o5 : Option Value} {o6 : Option Value} {v : Int32} {S1 : fm_S} {S : fm_S} {r : Option Value × am_W} (hc : am_Sp d k_M_fails [.ref 231, .int x1] (fm_mk S) (some (.int v)) (fm_mk S1)) (nx : am_Ev (d + 1) k_M_word 154 [some (.ref 231), some (.int x1), some (.int x2), some (.int x3), some (.int x4), o5, o6] [.int v] (fm_mk S1) r) : am_Ev (d + 1) k_M_word 149 [some (.ref 231), some (.int x1), some (.int x2), some (.int x3), some (.int x4), o5, o6] [] (fm_mk S) r := by
  refine fs_aloadn (j := 0) (by decide +kernel) rfl ?_
  refine fs_iloadn (j := 1) (by decide +kernel) rfl ?_
  exact fe_callV (t := 8) (idx := 126) (n := 1) (wp := 1100) (q := (1102, 38)) (as := [.int x1]) (rs := []) (by decide +kernel) (by decide +kernel) (by decide +kernel) (by decide +kernel) rfl (Nat.le_of_ble_eq_true rfl) rfl hc nx
theorem b_M_word_154 {d : Nat} {x1 : Int32} {x2 : Int32} {x3 : Int32} {x4 : Int32} {o5 : Option Value} {o6 : Option Value} {sx0 : Int32} {S : fm_S}  : am_Ev d k_M_word 154 [some (.ref 231), some (.int x1), some (.int x2), some (.int x3), some (.int x4), o5, o6] [.int sx0] (fm_mk S) (some (.int x3), fm_mk S) := by
  refine fs_pop (by decide +kernel) rfl ?_
  refine fs_iloadn (j := 3) (by decide +kernel) rfl ?_
  exact fe_retI (by decide +kernel) (by decide +kernel)
-- KitchenSiegeModel.skip()V
theorem b_M_skip_0 {d : Nat} {v : Int32} {S1 : fm_S} {S : fm_S} {r : Option Value × am_W} (hc : am_Sp d k_M_byteAt [.ref 231, .int (S.1 231 11)] (fm_mk S) (some (.int v)) (fm_mk S1)) (nx : am_Ev (d + 1) k_M_skip 8 [some (.ref 231)] [.int v] (fm_mk S1) r) : am_Ev (d + 1) k_M_skip 0 [some (.ref 231)] [] (fm_mk S) r := by
  refine fs_aloadn (j := 0) (by decide +kernel) rfl ?_
  refine fs_aloadn (j := 0) (by decide +kernel) rfl ?_
  refine fe_getI (idx := 107) (t := 8) (f := 11) (fk := 0) (fin := 0) (wp := 956) (by decide +kernel) (by decide +kernel) (by decide +kernel) (by decide +kernel) ?_
  exact fe_callV (t := 8) (idx := 110) (n := 1) (wp := 1084) (q := (1086, 37)) (as := [.int (S.1 231 11)]) (rs := []) (by decide +kernel) (by decide +kernel) (by decide +kernel) (by decide +kernel) rfl (Nat.le_of_ble_eq_true rfl) rfl hc nx
theorem b_M_skip_8 {d : Nat} {sx0 : Int32} {S : fm_S} {r : Option Value × am_W} (kt : ¬ sx0 = 32 → am_Ev d k_M_skip 26 [some (.ref 231)] [] (fm_mk S) r) (kf : sx0 = 32 → am_Ev d k_M_skip 13 [some (.ref 231)] [] (fm_mk S) r) : am_Ev d k_M_skip 8 [some (.ref 231)] [.int sx0] (fm_mk S) r := by
  refine fs_bipush (n := 32) (v := 32) (by decide +kernel) (by decide) ?_
  exact fs_icne (off := 16) (tgt := 26) (by decide +kernel) (by decide) kt kf
theorem b_M_skip_13 {d : Nat} {S : fm_S} {r : Option Value × am_W} (nx : am_Ev d k_M_skip 0 [some (.ref 231)] [] (fm_mk (fm_wI S 231 11 ((S.1 231 11) + 1))) r) : am_Ev d k_M_skip 13 [some (.ref 231)] [] (fm_mk S) r := by
  refine fs_aloadn (j := 0) (by decide +kernel) rfl ?_
  refine fs_dup (by decide +kernel) rfl ?_
  refine fe_getI (idx := 107) (t := 8) (f := 11) (fk := 0) (fin := 0) (wp := 956) (by decide +kernel) (by decide +kernel) (by decide +kernel) (by decide +kernel) ?_
  refine fs_iconst (n := 1) (v := 1) (by decide +kernel) (by decide) ?_
  refine fs_iadd (by decide +kernel) ?_
  refine fe_putI (idx := 107) (t := 8) (f := 11) (wp := 956) (by decide +kernel) (by decide +kernel) (by decide +kernel) (by decide +kernel) ?_
  refine fs_goto (off := -23) (tgt := 0) (by decide +kernel) (by decide) ?_
  exact nx
theorem b_M_skip_26 {d : Nat} {S : fm_S}  : am_Ev d k_M_skip 26 [some (.ref 231)] [] (fm_mk S) (none, fm_mk S) := by
  exact fe_retV (by decide +kernel) (by decide +kernel)
-- KitchenSiegeModel.byteAt(I)I
theorem b_M_byteAt_0 {d : Nat} {x1 : Int32} {S : fm_S} {r : Option Value × am_W} (kt : (S.1 231 5) ≤ x1 → am_Ev d k_M_byteAt 17 [some (.ref 231), some (.int x1)] [] (fm_mk S) r) (kf : ¬ (S.1 231 5) ≤ x1 → am_Ev d k_M_byteAt 8 [some (.ref 231), some (.int x1)] [] (fm_mk S) r) : am_Ev d k_M_byteAt 0 [some (.ref 231), some (.int x1)] [] (fm_mk S) r := by
  refine fs_iloadn (j := 1) (by decide +kernel) rfl ?_
  refine fs_aloadn (j := 0) (by decide +kernel) rfl ?_
  refine fe_getI (idx := 104) (t := 8) (f := 5) (fk := 0) (fin := 0) (wp := 950) (by decide +kernel) (by decide +kernel) (by decide +kernel) (by decide +kernel) ?_
  exact fs_icge (off := 12) (tgt := 17) (by decide +kernel) (by decide) kt kf
theorem b_M_byteAt_8 {d : Nat} {x1 : Int32} {S : fm_S} {r : Option Value × am_W} (hi0 : vp_in x1 150) (nx : am_Ev d k_M_byteAt 18 [some (.ref 231), some (.int x1)] [.int (S.1 236 x1.toNatClampNeg)] (fm_mk S) r) : am_Ev d k_M_byteAt 8 [some (.ref 231), some (.int x1)] [] (fm_mk S) r := by
  refine fs_aloadn (j := 0) (by decide +kernel) rfl ?_
  refine fe_getR (idx := 22) (t := 8) (f := 4) (fk := 2) (fin := 1) (wp := 949) (x := 236) (by decide +kernel) (by decide +kernel) (by decide +kernel) (by decide +kernel) (by decide +kernel) ?_
  refine fs_iloadn (j := 1) (by decide +kernel) rfl ?_
  refine fx_iald (n := x1.toNatClampNeg) (len := 150) (by decide +kernel) (by decide +kernel) (by decide +kernel) hi0 rfl ?_
  refine fs_goto (off := 4) (tgt := 18) (by decide +kernel) (by decide) ?_
  exact nx
theorem b_M_byteAt_17 {d : Nat} {x1 : Int32} {S : fm_S} {r : Option Value × am_W} (nx : am_Ev d k_M_byteAt 18 [some (.ref 231), some (.int x1)] [.int (-1)] (fm_mk S) r) : am_Ev d k_M_byteAt 17 [some (.ref 231), some (.int x1)] [] (fm_mk S) r := by
  refine fs_iconst (n := -1) (v := (-1)) (by decide +kernel) (by decide) ?_
  exact nx
theorem b_M_byteAt_18 {d : Nat} {x1 : Int32} {sx0 : Int32} {S : fm_S}  : am_Ev d k_M_byteAt 18 [some (.ref 231), some (.int x1)] [.int sx0] (fm_mk S) (some (.int sx0), fm_mk S) := by
  exact fe_retI (by decide +kernel) (by decide +kernel)
-- KitchenSiegeModel.letterOf(II)I
theorem b_M_letterOf_0 {d : Nat} {x0 : Int32} {x1 : Int32} {o2 : Option Value} {o3 : Option Value} {o4 : Option Value} {o5 : Option Value} {o6 : Option Value} {o7 : Option Value} {S : fm_S} {r : Option Value × am_W} (kt : ¬ x0 = 0 → am_Ev d k_M_letterOf 10 [some (.int x0), some (.int x1), o2, o3, o4, o5, o6, o7] [] (fm_mk S) r) (kf : x0 = 0 → am_Ev d k_M_letterOf 4 [some (.int x0), some (.int x1), o2, o3, o4, o5, o6, o7] [] (fm_mk S) r) : am_Ev d k_M_letterOf 0 [some (.int x0), some (.int x1), o2, o3, o4, o5, o6, o7] [] (fm_mk S) r := by
  refine fs_iloadn (j := 0) (by decide +kernel) rfl ?_
  exact fs_ifne (off := 9) (tgt := 10) (by decide +kernel) (by decide) kt kf
theorem b_M_letterOf_4 {d : Nat} {x0 : Int32} {x1 : Int32} {o2 : Option Value} {o3 : Option Value} {o4 : Option Value} {o5 : Option Value} {o6 : Option Value} {o7 : Option Value} {S : fm_S} {r : Option Value × am_W} (nx : am_Ev d k_M_letterOf 57 [some (.int x0), some (.int x1), o2, o3, o4, o5, o6, o7] [.long 20152314] (fm_mk S) r) : am_Ev d k_M_letterOf 4 [some (.int x0), some (.int x1), o2, o3, o4, o5, o6, o7] [] (fm_mk S) r := by
  refine fs_ldc2 (idx := 129) (q := 1093) (v := 20152314) (by decide +kernel) (by decide +kernel) ?_
  refine fs_goto (off := 50) (tgt := 57) (by decide +kernel) (by decide) ?_
  exact nx
theorem b_M_letterOf_10 {d : Nat} {x0 : Int32} {x1 : Int32} {o2 : Option Value} {o3 : Option Value} {o4 : Option Value} {o5 : Option Value} {o6 : Option Value} {o7 : Option Value} {S : fm_S} {r : Option Value × am_W} (kt : ¬ x0 = 1 → am_Ev d k_M_letterOf 21 [some (.int x0), some (.int x1), o2, o3, o4, o5, o6, o7] [] (fm_mk S) r) (kf : x0 = 1 → am_Ev d k_M_letterOf 15 [some (.int x0), some (.int x1), o2, o3, o4, o5, o6, o7] [] (fm_mk S) r) : am_Ev d k_M_letterOf 10 [some (.int x0), some (.int x1), o2, o3, o4, o5, o6, o7] [] (fm_mk S) r := by
  refine fs_iloadn (j := 0) (by decide +kernel) rfl ?_
  refine fs_iconst (n := 1) (v := 1) (by decide +kernel) (by decide) ?_
  exact fs_icne (off := 9) (tgt := 21) (by decide +kernel) (by decide) kt kf
theorem b_M_letterOf_15 {d : Nat} {x0 : Int32} {x1 : Int32} {o2 : Option Value} {o3 : Option Value} {o4 : Option Value} {o5 : Option Value} {o6 : Option Value} {o7 : Option Value} {S : fm_S} {r : Option Value × am_W} (nx : am_Ev d k_M_letterOf 57 [some (.int x0), some (.int x1), o2, o3, o4, o5, o6, o7] [.long 192018050520] (fm_mk S) r) : am_Ev d k_M_letterOf 15 [some (.int x0), some (.int x1), o2, o3, o4, o5, o6, o7] [] (fm_mk S) r := by
  refine fs_ldc2 (idx := 131) (q := 1094) (v := 192018050520) (by decide +kernel) (by decide +kernel) ?_
  refine fs_goto (off := 39) (tgt := 57) (by decide +kernel) (by decide) ?_
  exact nx
theorem b_M_letterOf_21 {d : Nat} {x0 : Int32} {x1 : Int32} {o2 : Option Value} {o3 : Option Value} {o4 : Option Value} {o5 : Option Value} {o6 : Option Value} {o7 : Option Value} {S : fm_S} {r : Option Value × am_W} (kt : ¬ x0 = 2 → am_Ev d k_M_letterOf 32 [some (.int x0), some (.int x1), o2, o3, o4, o5, o6, o7] [] (fm_mk S) r) (kf : x0 = 2 → am_Ev d k_M_letterOf 26 [some (.int x0), some (.int x1), o2, o3, o4, o5, o6, o7] [] (fm_mk S) r) : am_Ev d k_M_letterOf 21 [some (.int x0), some (.int x1), o2, o3, o4, o5, o6, o7] [] (fm_mk S) r := by
  refine fs_iloadn (j := 0) (by decide +kernel) rfl ?_
  refine fs_iconst (n := 2) (v := 2) (by decide +kernel) (by decide) ?_
  exact fs_icne (off := 9) (tgt := 32) (by decide +kernel) (by decide) kt kf
theorem b_M_letterOf_26 {d : Nat} {x0 : Int32} {x1 : Int32} {o2 : Option Value} {o3 : Option Value} {o4 : Option Value} {o5 : Option Value} {o6 : Option Value} {o7 : Option Value} {S : fm_S} {r : Option Value × am_W} (nx : am_Ev d k_M_letterOf 57 [some (.int x0), some (.int x1), o2, o3, o4, o5, o6, o7] [.long 12011405] (fm_mk S) r) : am_Ev d k_M_letterOf 26 [some (.int x0), some (.int x1), o2, o3, o4, o5, o6, o7] [] (fm_mk S) r := by
  refine fs_ldc2 (idx := 133) (q := 1095) (v := 12011405) (by decide +kernel) (by decide +kernel) ?_
  refine fs_goto (off := 28) (tgt := 57) (by decide +kernel) (by decide) ?_
  exact nx
theorem b_M_letterOf_32 {d : Nat} {x0 : Int32} {x1 : Int32} {o2 : Option Value} {o3 : Option Value} {o4 : Option Value} {o5 : Option Value} {o6 : Option Value} {o7 : Option Value} {S : fm_S} {r : Option Value × am_W} (kt : ¬ x0 = 3 → am_Ev d k_M_letterOf 43 [some (.int x0), some (.int x1), o2, o3, o4, o5, o6, o7] [] (fm_mk S) r) (kf : x0 = 3 → am_Ev d k_M_letterOf 37 [some (.int x0), some (.int x1), o2, o3, o4, o5, o6, o7] [] (fm_mk S) r) : am_Ev d k_M_letterOf 32 [some (.int x0), some (.int x1), o2, o3, o4, o5, o6, o7] [] (fm_mk S) r := by
  refine fs_iloadn (j := 0) (by decide +kernel) rfl ?_
  refine fs_iconst (n := 3) (v := 3) (by decide +kernel) (by decide) ?_
  exact fs_icne (off := 9) (tgt := 43) (by decide +kernel) (by decide) kt kf
theorem b_M_letterOf_37 {d : Nat} {x0 : Int32} {x1 : Int32} {o2 : Option Value} {o3 : Option Value} {o4 : Option Value} {o5 : Option Value} {o6 : Option Value} {o7 : Option Value} {S : fm_S} {r : Option Value × am_W} (nx : am_Ev d k_M_letterOf 57 [some (.int x0), some (.int x1), o2, o3, o4, o5, o6, o7] [.long 7012005] (fm_mk S) r) : am_Ev d k_M_letterOf 37 [some (.int x0), some (.int x1), o2, o3, o4, o5, o6, o7] [] (fm_mk S) r := by
  refine fs_ldc2 (idx := 135) (q := 1096) (v := 7012005) (by decide +kernel) (by decide +kernel) ?_
  refine fs_goto (off := 17) (tgt := 57) (by decide +kernel) (by decide) ?_
  exact nx
theorem b_M_letterOf_43 {d : Nat} {x0 : Int32} {x1 : Int32} {o2 : Option Value} {o3 : Option Value} {o4 : Option Value} {o5 : Option Value} {o6 : Option Value} {o7 : Option Value} {S : fm_S} {r : Option Value × am_W} (kt : ¬ x0 = 4 → am_Ev d k_M_letterOf 54 [some (.int x0), some (.int x1), o2, o3, o4, o5, o6, o7] [] (fm_mk S) r) (kf : x0 = 4 → am_Ev d k_M_letterOf 48 [some (.int x0), some (.int x1), o2, o3, o4, o5, o6, o7] [] (fm_mk S) r) : am_Ev d k_M_letterOf 43 [some (.int x0), some (.int x1), o2, o3, o4, o5, o6, o7] [] (fm_mk S) r := by
  refine fs_iloadn (j := 0) (by decide +kernel) rfl ?_
  refine fs_iconst (n := 4) (v := 4) (by decide +kernel) (by decide) ?_
  exact fs_icne (off := 9) (tgt := 54) (by decide +kernel) (by decide) kt kf
theorem b_M_letterOf_48 {d : Nat} {x0 : Int32} {x1 : Int32} {o2 : Option Value} {o3 : Option Value} {o4 : Option Value} {o5 : Option Value} {o6 : Option Value} {o7 : Option Value} {S : fm_S} {r : Option Value × am_W} (nx : am_Ev d k_M_letterOf 57 [some (.int x0), some (.int x1), o2, o3, o4, o5, o6, o7] [.long 23091404] (fm_mk S) r) : am_Ev d k_M_letterOf 48 [some (.int x0), some (.int x1), o2, o3, o4, o5, o6, o7] [] (fm_mk S) r := by
  refine fs_ldc2 (idx := 137) (q := 1097) (v := 23091404) (by decide +kernel) (by decide +kernel) ?_
  refine fs_goto (off := 6) (tgt := 57) (by decide +kernel) (by decide) ?_
  exact nx
theorem b_M_letterOf_54 {d : Nat} {x0 : Int32} {x1 : Int32} {o2 : Option Value} {o3 : Option Value} {o4 : Option Value} {o5 : Option Value} {o6 : Option Value} {o7 : Option Value} {S : fm_S} {r : Option Value × am_W} (nx : am_Ev d k_M_letterOf 57 [some (.int x0), some (.int x1), o2, o3, o4, o5, o6, o7] [.long 4091908] (fm_mk S) r) : am_Ev d k_M_letterOf 54 [some (.int x0), some (.int x1), o2, o3, o4, o5, o6, o7] [] (fm_mk S) r := by
  refine fs_ldc2 (idx := 139) (q := 1098) (v := 4091908) (by decide +kernel) (by decide +kernel) ?_
  exact nx
theorem b_M_letterOf_57 {d : Nat} {x0 : Int32} {x1 : Int32} {o2 : Option Value} {o3 : Option Value} {o4 : Option Value} {o5 : Option Value} {o6 : Option Value} {o7 : Option Value} {sy0 : Int64} {S : fm_S} {r : Option Value × am_W} (kt : ¬ x0 = 1 → am_Ev d k_M_letterOf 68 [some (.int x0), some (.int x1), some (.long sy0), none, o4, o5, o6, o7] [] (fm_mk S) r) (kf : x0 = 1 → am_Ev d k_M_letterOf 63 [some (.int x0), some (.int x1), some (.long sy0), none, o4, o5, o6, o7] [] (fm_mk S) r) : am_Ev d k_M_letterOf 57 [some (.int x0), some (.int x1), o2, o3, o4, o5, o6, o7] [.long sy0] (fm_mk S) r := by
  refine fs_lstoren (j := 2) (L' := [some (.int x0), some (.int x1), some (.long sy0), none, o4, o5, o6, o7]) (by decide +kernel) (Nat.le_of_ble_eq_true rfl) rfl ?_
  refine fs_iloadn (j := 0) (by decide +kernel) rfl ?_
  refine fs_iconst (n := 1) (v := 1) (by decide +kernel) (by decide) ?_
  exact fs_icne (off := 8) (tgt := 68) (by decide +kernel) (by decide) kt kf
theorem b_M_letterOf_63 {d : Nat} {x0 : Int32} {x1 : Int32} {y2 : Int64} {o4 : Option Value} {o5 : Option Value} {o6 : Option Value} {o7 : Option Value} {S : fm_S} {r : Option Value × am_W} (nx : am_Ev d k_M_letterOf 69 [some (.int x0), some (.int x1), some (.long y2), none, o4, o5, o6, o7] [.int 6] (fm_mk S) r) : am_Ev d k_M_letterOf 63 [some (.int x0), some (.int x1), some (.long y2), none, o4, o5, o6, o7] [] (fm_mk S) r := by
  refine fs_bipush (n := 6) (v := 6) (by decide +kernel) (by decide) ?_
  refine fs_goto (off := 4) (tgt := 69) (by decide +kernel) (by decide) ?_
  exact nx
theorem b_M_letterOf_68 {d : Nat} {x0 : Int32} {x1 : Int32} {y2 : Int64} {o4 : Option Value} {o5 : Option Value} {o6 : Option Value} {o7 : Option Value} {S : fm_S} {r : Option Value × am_W} (nx : am_Ev d k_M_letterOf 69 [some (.int x0), some (.int x1), some (.long y2), none, o4, o5, o6, o7] [.int 4] (fm_mk S) r) : am_Ev d k_M_letterOf 68 [some (.int x0), some (.int x1), some (.long y2), none, o4, o5, o6, o7] [] (fm_mk S) r := by
  refine fs_iconst (n := 4) (v := 4) (by decide +kernel) (by decide) ?_
  exact nx
theorem b_M_letterOf_69 {d : Nat} {x0 : Int32} {x1 : Int32} {y2 : Int64} {o4 : Option Value} {o5 : Option Value} {o6 : Option Value} {o7 : Option Value} {sx0 : Int32} {S : fm_S} {r : Option Value × am_W} (nx : am_Ev d k_M_letterOf 80 [some (.int x0), some (.int x1), some (.long y2), none, some (.int sx0), some (.long y2), none, some (.int (sx0 - 1))] [] (fm_mk S) r) : am_Ev d k_M_letterOf 69 [some (.int x0), some (.int x1), some (.long y2), none, o4, o5, o6, o7] [.int sx0] (fm_mk S) r := by
  refine fs_istore (j := 4) (L' := [some (.int x0), some (.int x1), some (.long y2), none, some (.int sx0), o5, o6, o7]) (by decide +kernel) (Nat.le_of_ble_eq_true rfl) rfl ?_
  refine fs_lloadn (j := 2) (by decide +kernel) rfl ?_
  refine fs_lstore (j := 5) (L' := [some (.int x0), some (.int x1), some (.long y2), none, some (.int sx0), some (.long y2), none, o7]) (by decide +kernel) (Nat.le_of_ble_eq_true rfl) rfl ?_
  refine fs_iload (j := 4) (by decide +kernel) rfl ?_
  refine fs_iconst (n := 1) (v := 1) (by decide +kernel) (by decide) ?_
  refine fs_isub (by decide +kernel) ?_
  refine fs_istore (j := 7) (L' := [some (.int x0), some (.int x1), some (.long y2), none, some (.int sx0), some (.long y2), none, some (.int (sx0 - 1))]) (by decide +kernel) (Nat.le_of_ble_eq_true rfl) rfl ?_
  exact nx
theorem b_M_letterOf_80 {d : Nat} {x0 : Int32} {x1 : Int32} {y2 : Int64} {x4 : Int32} {y5 : Int64} {x7 : Int32} {S : fm_S} {r : Option Value × am_W} (kt : x7 ≤ x1 → am_Ev d k_M_letterOf 100 [some (.int x0), some (.int x1), some (.long y2), none, some (.int x4), some (.long y5), none, some (.int x7)] [] (fm_mk S) r) (kf : ¬ x7 ≤ x1 → am_Ev d k_M_letterOf 86 [some (.int x0), some (.int x1), some (.long y2), none, some (.int x4), some (.long y5), none, some (.int x7)] [] (fm_mk S) r) : am_Ev d k_M_letterOf 80 [some (.int x0), some (.int x1), some (.long y2), none, some (.int x4), some (.long y5), none, some (.int x7)] [] (fm_mk S) r := by
  refine fs_iload (j := 7) (by decide +kernel) rfl ?_
  refine fs_iloadn (j := 1) (by decide +kernel) rfl ?_
  exact fs_icle (off := 17) (tgt := 100) (by decide +kernel) (by decide) kt kf
theorem b_M_letterOf_86 {d : Nat} {x0 : Int32} {x1 : Int32} {y2 : Int64} {x4 : Int32} {y5 : Int64} {x7 : Int32} {S : fm_S} {r : Option Value × am_W} (nx : am_Ev d k_M_letterOf 80 [some (.int x0), some (.int x1), some (.long y2), none, some (.int x4), some (.long (y5 / 100)), none, some (.int (x7 + (-1)))] [] (fm_mk S) r) : am_Ev d k_M_letterOf 86 [some (.int x0), some (.int x1), some (.long y2), none, some (.int x4), some (.long y5), none, some (.int x7)] [] (fm_mk S) r := by
  refine fs_lload (j := 5) (by decide +kernel) rfl ?_
  refine fs_ldc2 (idx := 141) (q := 1099) (v := 100) (by decide +kernel) (by decide +kernel) ?_
  refine fe_ldiv (by decide +kernel) (by decide) ?_
  refine fs_lstore (j := 5) (L' := [some (.int x0), some (.int x1), some (.long y2), none, some (.int x4), some (.long (y5 / 100)), none, some (.int x7)]) (by decide +kernel) (Nat.le_of_ble_eq_true rfl) rfl ?_
  refine fs_iinc (j := 7) (n := -1) (v := (-1)) (L' := [some (.int x0), some (.int x1), some (.long y2), none, some (.int x4), some (.long (y5 / 100)), none, some (.int (x7 + (-1)))]) (by decide +kernel) rfl (Nat.le_of_ble_eq_true rfl) (by decide) rfl ?_
  refine fs_goto (off := -17) (tgt := 80) (by decide +kernel) (by decide) ?_
  exact nx
theorem b_M_letterOf_100 {d : Nat} {x0 : Int32} {x1 : Int32} {y2 : Int64} {x4 : Int32} {y5 : Int64} {x7 : Int32} {S : fm_S} {r : Option Value × am_W} (kt : x4 ≤ x1 → am_Ev d k_M_letterOf 119 [some (.int x0), some (.int x1), some (.long y2), none, some (.int x4), some (.long y5), none, some (.int x7)] [] (fm_mk S) r) (kf : ¬ x4 ≤ x1 → am_Ev d k_M_letterOf 106 [some (.int x0), some (.int x1), some (.long y2), none, some (.int x4), some (.long y5), none, some (.int x7)] [] (fm_mk S) r) : am_Ev d k_M_letterOf 100 [some (.int x0), some (.int x1), some (.long y2), none, some (.int x4), some (.long y5), none, some (.int x7)] [] (fm_mk S) r := by
  refine fs_iloadn (j := 1) (by decide +kernel) rfl ?_
  refine fs_iload (j := 4) (by decide +kernel) rfl ?_
  exact fs_icge (off := 16) (tgt := 119) (by decide +kernel) (by decide) kt kf
theorem b_M_letterOf_106 {d : Nat} {x0 : Int32} {x1 : Int32} {y2 : Int64} {x4 : Int32} {y5 : Int64} {x7 : Int32} {S : fm_S} {r : Option Value × am_W} (nx : am_Ev d k_M_letterOf 120 [some (.int x0), some (.int x1), some (.long y2), none, some (.int x4), some (.long y5), none, some (.int x7)] [.int (((y5 - y5 / 100 * 100).toInt32) + 96)] (fm_mk S) r) : am_Ev d k_M_letterOf 106 [some (.int x0), some (.int x1), some (.long y2), none, some (.int x4), some (.long y5), none, some (.int x7)] [] (fm_mk S) r := by
  refine fs_lload (j := 5) (by decide +kernel) rfl ?_
  refine fs_ldc2 (idx := 141) (q := 1099) (v := 100) (by decide +kernel) (by decide +kernel) ?_
  refine fe_lrem (by decide +kernel) (by decide) ?_
  refine fs_l2i (by decide +kernel) ?_
  refine fs_bipush (n := 96) (v := 96) (by decide +kernel) (by decide) ?_
  refine fs_iadd (by decide +kernel) ?_
  refine fs_goto (off := 4) (tgt := 120) (by decide +kernel) (by decide) ?_
  exact nx
theorem b_M_letterOf_119 {d : Nat} {x0 : Int32} {x1 : Int32} {y2 : Int64} {x4 : Int32} {y5 : Int64} {x7 : Int32} {S : fm_S} {r : Option Value × am_W} (nx : am_Ev d k_M_letterOf 120 [some (.int x0), some (.int x1), some (.long y2), none, some (.int x4), some (.long y5), none, some (.int x7)] [.int 0] (fm_mk S) r) : am_Ev d k_M_letterOf 119 [some (.int x0), some (.int x1), some (.long y2), none, some (.int x4), some (.long y5), none, some (.int x7)] [] (fm_mk S) r := by
  refine fs_iconst (n := 0) (v := 0) (by decide +kernel) (by decide) ?_
  exact nx
theorem b_M_letterOf_120 {d : Nat} {x0 : Int32} {x1 : Int32} {y2 : Int64} {x4 : Int32} {y5 : Int64} {x7 : Int32} {sx0 : Int32} {S : fm_S}  : am_Ev d k_M_letterOf 120 [some (.int x0), some (.int x1), some (.long y2), none, some (.int x4), some (.long y5), none, some (.int x7)] [.int sx0] (fm_mk S) (some (.int sx0), fm_mk S) := by
  exact fe_retI (by decide +kernel) (by decide +kernel)
-- KitchenSiegeModel.fails(I)Z
theorem b_M_fails_0 {d : Nat} {x1 : Int32} {S : fm_S} {r : Option Value × am_W} (kt : (S.1 231 5) ≤ x1 → am_Ev d k_M_fails 13 [some (.ref 231), some (.int x1)] [.ref 231] (fm_mk S) r) (kf : ¬ (S.1 231 5) ≤ x1 → am_Ev d k_M_fails 9 [some (.ref 231), some (.int x1)] [.ref 231] (fm_mk S) r) : am_Ev d k_M_fails 0 [some (.ref 231), some (.int x1)] [] (fm_mk S) r := by
  refine fs_aloadn (j := 0) (by decide +kernel) rfl ?_
  refine fs_iloadn (j := 1) (by decide +kernel) rfl ?_
  refine fs_aloadn (j := 0) (by decide +kernel) rfl ?_
  refine fe_getI (idx := 104) (t := 8) (f := 5) (fk := 0) (fin := 0) (wp := 950) (by decide +kernel) (by decide +kernel) (by decide +kernel) (by decide +kernel) ?_
  exact fs_icge (off := 7) (tgt := 13) (by decide +kernel) (by decide) kt kf
theorem b_M_fails_9 {d : Nat} {x1 : Int32} {S : fm_S} {r : Option Value × am_W} (nx : am_Ev d k_M_fails 17 [some (.ref 231), some (.int x1)] [.int x1, .ref 231] (fm_mk S) r) : am_Ev d k_M_fails 9 [some (.ref 231), some (.int x1)] [.ref 231] (fm_mk S) r := by
  refine fs_iloadn (j := 1) (by decide +kernel) rfl ?_
  refine fs_goto (off := 7) (tgt := 17) (by decide +kernel) (by decide) ?_
  exact nx
theorem b_M_fails_13 {d : Nat} {x1 : Int32} {S : fm_S} {r : Option Value × am_W} (nx : am_Ev d k_M_fails 17 [some (.ref 231), some (.int x1)] [.int (S.1 231 5), .ref 231] (fm_mk S) r) : am_Ev d k_M_fails 13 [some (.ref 231), some (.int x1)] [.ref 231] (fm_mk S) r := by
  refine fs_aloadn (j := 0) (by decide +kernel) rfl ?_
  refine fe_getI (idx := 104) (t := 8) (f := 5) (fk := 0) (fin := 0) (wp := 950) (by decide +kernel) (by decide +kernel) (by decide +kernel) (by decide +kernel) ?_
  exact nx
theorem b_M_fails_17 {d : Nat} {x1 : Int32} {sx1 : Int32} {S : fm_S}  : am_Ev d k_M_fails 17 [some (.ref 231), some (.int x1)] [.int sx1, .ref 231] (fm_mk S) (some (.int 0), fm_mk (fm_wI S 231 12 sx1)) := by
  refine fe_putI (idx := 114) (t := 8) (f := 12) (wp := 957) (by decide +kernel) (by decide +kernel) (by decide +kernel) (by decide +kernel) ?_
  refine fs_iconst (n := 0) (v := 0) (by decide +kernel) (by decide) ?_
  exact fe_retZ (by decide +kernel) (by decide +kernel) (by decide)
-- KitchenSiegeModel.item(I)Z
theorem b_M_item_0 {d : Nat} {x1 : Int32} {S : fm_S} {r : Option Value × am_W} (k0 : x1 = 0 → am_Ev d k_M_item 36 [some (.ref 231), some (.int x1)] [] (fm_mk S) r) (k1 : x1 = 1 → am_Ev d k_M_item 41 [some (.ref 231), some (.int x1)] [] (fm_mk S) r) (k2 : x1 = 2 → am_Ev d k_M_item 108 [some (.ref 231), some (.int x1)] [] (fm_mk S) r) (k3 : x1 = 3 → am_Ev d k_M_item 113 [some (.ref 231), some (.int x1)] [] (fm_mk S) r) (k4 : x1 = 4 → am_Ev d k_M_item 171 [some (.ref 231), some (.int x1)] [] (fm_mk S) r) (kd : ¬ x1 = 0 → ¬ x1 = 1 → ¬ x1 = 2 → ¬ x1 = 3 → ¬ x1 = 4 → am_Ev d k_M_item 222 [some (.ref 231), some (.int x1)] [] (fm_mk S) r) : am_Ev d k_M_item 0 [some (.ref 231), some (.int x1)] [] (fm_mk S) r := by
  refine fs_iloadn (j := 1) (by decide +kernel) rfl ?_
  by_cases c0 : x1 = 0
  · exact fs_sw (i := .tableswitch 221 0 4 #[35, 40, 107, 112, 170]) (z := 35) (by decide +kernel) rfl (by rw [c0]; rfl) (k0 c0)
  by_cases c1 : x1 = 1
  · exact fs_sw (i := .tableswitch 221 0 4 #[35, 40, 107, 112, 170]) (z := 35) (by decide +kernel) rfl (by rw [c1]; rfl) (k1 c1)
  by_cases c2 : x1 = 2
  · exact fs_sw (i := .tableswitch 221 0 4 #[35, 40, 107, 112, 170]) (z := 35) (by decide +kernel) rfl (by rw [c2]; rfl) (k2 c2)
  by_cases c3 : x1 = 3
  · exact fs_sw (i := .tableswitch 221 0 4 #[35, 40, 107, 112, 170]) (z := 35) (by decide +kernel) rfl (by rw [c3]; rfl) (k3 c3)
  by_cases c4 : x1 = 4
  · exact fs_sw (i := .tableswitch 221 0 4 #[35, 40, 107, 112, 170]) (z := 35) (by decide +kernel) rfl (by rw [c4]; rfl) (k4 c4)
  have e0 : ¬ (x1).toInt = 0 := fun q => c0 (Int32.toInt_inj.mp (q.trans (by decide)))
  have e1 : ¬ (x1).toInt = 1 := fun q => c1 (Int32.toInt_inj.mp (q.trans (by decide)))
  have e2 : ¬ (x1).toInt = 2 := fun q => c2 (Int32.toInt_inj.mp (q.trans (by decide)))
  have e3 : ¬ (x1).toInt = 3 := fun q => c3 (Int32.toInt_inj.mp (q.trans (by decide)))
  have e4 : ¬ (x1).toInt = 4 := fun q => c4 (Int32.toInt_inj.mp (q.trans (by decide)))
  exact fs_tout (dflt := 221) (lo := 0) (hi := 4) (offs := #[35, 40, 107, 112, 170]) (z := 35) (by decide +kernel) (by omega) (by decide) (kd c0 c1 c2 c3 c4)
theorem b_M_item_36 {d : Nat} {x1 : Int32} {v : Int32} {S1 : fm_S} {S : fm_S} {r : Option Value × am_W} (hc : am_Sp d k_M_ends [.ref 231] (fm_mk S) (some (.int v)) (fm_mk S1)) (nx : am_Ev (d + 1) k_M_item 40 [some (.ref 231), some (.int x1)] [.int v] (fm_mk S1) r) : am_Ev (d + 1) k_M_item 36 [some (.ref 231), some (.int x1)] [] (fm_mk S) r := by
  refine fs_aloadn (j := 0) (by decide +kernel) rfl ?_
  exact fe_callV (t := 8) (idx := 155) (n := 0) (wp := 1108) (q := (1110, 40)) (as := []) (rs := []) (by decide +kernel) (by decide +kernel) (by decide +kernel) (by decide +kernel) rfl (Nat.le_of_ble_eq_true rfl) rfl hc nx
theorem b_M_item_40 {d : Nat} {x1 : Int32} {sx0 : Int32} {S : fm_S}  (hz : sx0 = 0 ∨ sx0 = 1) : am_Ev d k_M_item 40 [some (.ref 231), some (.int x1)] [.int sx0] (fm_mk S) (some (.int sx0), fm_mk S) := by
  exact fe_retZ (by decide +kernel) (by decide +kernel) hz
theorem b_M_item_41 {d : Nat} {x1 : Int32} {v : Int32} {S1 : fm_S} {S : fm_S} {r : Option Value × am_W} (hc : am_Sp d k_M_number [.ref 231, .int 0, .int 0, .int 5] (fm_mk S) (some (.int v)) (fm_mk S1)) (nx : am_Ev (d + 1) k_M_item 48 [some (.ref 231), some (.int x1)] [.int v] (fm_mk S1) r) : am_Ev (d + 1) k_M_item 41 [some (.ref 231), some (.int x1)] [] (fm_mk S) r := by
  refine fs_aloadn (j := 0) (by decide +kernel) rfl ?_
  refine fs_iconst (n := 0) (v := 0) (by decide +kernel) (by decide) ?_
  refine fs_iconst (n := 0) (v := 0) (by decide +kernel) (by decide) ?_
  refine fs_iconst (n := 5) (v := 5) (by decide +kernel) (by decide) ?_
  exact fe_callV (t := 8) (idx := 151) (n := 3) (wp := 1112) (q := (1114, 41)) (as := [.int 0, .int 0, .int 5]) (rs := []) (by decide +kernel) (by decide +kernel) (by decide +kernel) (by decide +kernel) rfl (Nat.le_of_ble_eq_true rfl) rfl hc nx
theorem b_M_item_48 {d : Nat} {x1 : Int32} {sx0 : Int32} {S : fm_S} {r : Option Value × am_W} (kt : sx0 = 0 → am_Ev d k_M_item 79 [some (.ref 231), some (.int x1)] [] (fm_mk S) r) (kf : ¬ sx0 = 0 → am_Ev d k_M_item 51 [some (.ref 231), some (.int x1)] [] (fm_mk S) r) : am_Ev d k_M_item 48 [some (.ref 231), some (.int x1)] [.int sx0] (fm_mk S) r := by
  exact fs_ifeq (off := 31) (tgt := 79) (by decide +kernel) (by decide) kt kf
theorem b_M_item_51 {d : Nat} {x1 : Int32} {v : Int32} {S1 : fm_S} {S : fm_S} {r : Option Value × am_W} (hc : am_Sp d k_M_number [.ref 231, .int 1, .int 0, .int 9] (fm_mk S) (some (.int v)) (fm_mk S1)) (nx : am_Ev (d + 1) k_M_item 59 [some (.ref 231), some (.int x1)] [.int v] (fm_mk S1) r) : am_Ev (d + 1) k_M_item 51 [some (.ref 231), some (.int x1)] [] (fm_mk S) r := by
  refine fs_aloadn (j := 0) (by decide +kernel) rfl ?_
  refine fs_iconst (n := 1) (v := 1) (by decide +kernel) (by decide) ?_
  refine fs_iconst (n := 0) (v := 0) (by decide +kernel) (by decide) ?_
  refine fs_bipush (n := 9) (v := 9) (by decide +kernel) (by decide) ?_
  exact fe_callV (t := 8) (idx := 151) (n := 3) (wp := 1112) (q := (1114, 41)) (as := [.int 1, .int 0, .int 9]) (rs := []) (by decide +kernel) (by decide +kernel) (by decide +kernel) (by decide +kernel) rfl (Nat.le_of_ble_eq_true rfl) rfl hc nx
theorem b_M_item_59 {d : Nat} {x1 : Int32} {sx0 : Int32} {S : fm_S} {r : Option Value × am_W} (kt : sx0 = 0 → am_Ev d k_M_item 79 [some (.ref 231), some (.int x1)] [] (fm_mk S) r) (kf : ¬ sx0 = 0 → am_Ev d k_M_item 62 [some (.ref 231), some (.int x1)] [] (fm_mk S) r) : am_Ev d k_M_item 59 [some (.ref 231), some (.int x1)] [.int sx0] (fm_mk S) r := by
  exact fs_ifeq (off := 20) (tgt := 79) (by decide +kernel) (by decide) kt kf
theorem b_M_item_62 {d : Nat} {x1 : Int32} {v : Int32} {S1 : fm_S} {S : fm_S} {r : Option Value × am_W} (hc : am_Sp d k_M_number [.ref 231, .int 2, .int 0, .int 5] (fm_mk S) (some (.int v)) (fm_mk S1)) (nx : am_Ev (d + 1) k_M_item 69 [some (.ref 231), some (.int x1)] [.int v] (fm_mk S1) r) : am_Ev (d + 1) k_M_item 62 [some (.ref 231), some (.int x1)] [] (fm_mk S) r := by
  refine fs_aloadn (j := 0) (by decide +kernel) rfl ?_
  refine fs_iconst (n := 2) (v := 2) (by decide +kernel) (by decide) ?_
  refine fs_iconst (n := 0) (v := 0) (by decide +kernel) (by decide) ?_
  refine fs_iconst (n := 5) (v := 5) (by decide +kernel) (by decide) ?_
  exact fe_callV (t := 8) (idx := 151) (n := 3) (wp := 1112) (q := (1114, 41)) (as := [.int 2, .int 0, .int 5]) (rs := []) (by decide +kernel) (by decide +kernel) (by decide +kernel) (by decide +kernel) rfl (Nat.le_of_ble_eq_true rfl) rfl hc nx
theorem b_M_item_69 {d : Nat} {x1 : Int32} {sx0 : Int32} {S : fm_S} {r : Option Value × am_W} (kt : sx0 = 0 → am_Ev d k_M_item 79 [some (.ref 231), some (.int x1)] [] (fm_mk S) r) (kf : ¬ sx0 = 0 → am_Ev d k_M_item 72 [some (.ref 231), some (.int x1)] [] (fm_mk S) r) : am_Ev d k_M_item 69 [some (.ref 231), some (.int x1)] [.int sx0] (fm_mk S) r := by
  exact fs_ifeq (off := 10) (tgt := 79) (by decide +kernel) (by decide) kt kf
theorem b_M_item_72 {d : Nat} {x1 : Int32} {v : Int32} {S1 : fm_S} {S : fm_S} {r : Option Value × am_W} (hc : am_Sp d k_M_ends [.ref 231] (fm_mk S) (some (.int v)) (fm_mk S1)) (nx : am_Ev (d + 1) k_M_item 76 [some (.ref 231), some (.int x1)] [.int v] (fm_mk S1) r) : am_Ev (d + 1) k_M_item 72 [some (.ref 231), some (.int x1)] [] (fm_mk S) r := by
  refine fs_aloadn (j := 0) (by decide +kernel) rfl ?_
  exact fe_callV (t := 8) (idx := 155) (n := 0) (wp := 1108) (q := (1110, 40)) (as := []) (rs := []) (by decide +kernel) (by decide +kernel) (by decide +kernel) (by decide +kernel) rfl (Nat.le_of_ble_eq_true rfl) rfl hc nx
theorem b_M_item_76 {d : Nat} {x1 : Int32} {sx0 : Int32} {S : fm_S} {r : Option Value × am_W} (kt : ¬ sx0 = 0 → am_Ev d k_M_item 81 [some (.ref 231), some (.int x1)] [] (fm_mk S) r) (kf : sx0 = 0 → am_Ev d k_M_item 79 [some (.ref 231), some (.int x1)] [] (fm_mk S) r) : am_Ev d k_M_item 76 [some (.ref 231), some (.int x1)] [.int sx0] (fm_mk S) r := by
  exact fs_ifne (off := 5) (tgt := 81) (by decide +kernel) (by decide) kt kf
theorem b_M_item_79 {d : Nat} {x1 : Int32} {S : fm_S}  : am_Ev d k_M_item 79 [some (.ref 231), some (.int x1)] [] (fm_mk S) (some (.int 0), fm_mk S) := by
  refine fs_iconst (n := 0) (v := 0) (by decide +kernel) (by decide) ?_
  exact fe_retZ (by decide +kernel) (by decide +kernel) (by decide)
theorem b_M_item_81 {d : Nat} {x1 : Int32} {S1 : fm_S} {S : fm_S} {r : Option Value × am_W} (hc : am_Sp d k_M_addStreet [.ref 233, .int (S.1 237 0), .int (S.1 237 1), .int (S.1 237 2)] (fm_mk S) (none) (fm_mk S1)) (nx : am_Ev (d + 1) k_M_item 106 [some (.ref 231), some (.int x1)] [] (fm_mk S1) r) : am_Ev (d + 1) k_M_item 81 [some (.ref 231), some (.int x1)] [] (fm_mk S) r := by
  refine fs_aloadn (j := 0) (by decide +kernel) rfl ?_
  refine fe_getR (idx := 13) (t := 8) (f := 1) (fk := 2) (fin := 1) (wp := 946) (x := 233) (by decide +kernel) (by decide +kernel) (by decide +kernel) (by decide +kernel) (by decide +kernel) ?_
  refine fs_aloadn (j := 0) (by decide +kernel) rfl ?_
  refine fe_getR (idx := 25) (t := 8) (f := 13) (fk := 2) (fin := 1) (wp := 958) (x := 237) (by decide +kernel) (by decide +kernel) (by decide +kernel) (by decide +kernel) (by decide +kernel) ?_
  refine fs_iconst (n := 0) (v := 0) (by decide +kernel) (by decide) ?_
  refine fx_iald (n := 0) (len := 3) (by decide +kernel) (by decide +kernel) (by decide +kernel) (vp_c (by decide) (by decide)) (by decide) ?_
  refine fs_aloadn (j := 0) (by decide +kernel) rfl ?_
  refine fe_getR (idx := 25) (t := 8) (f := 13) (fk := 2) (fin := 1) (wp := 958) (x := 237) (by decide +kernel) (by decide +kernel) (by decide +kernel) (by decide +kernel) (by decide +kernel) ?_
  refine fs_iconst (n := 1) (v := 1) (by decide +kernel) (by decide) ?_
  refine fx_iald (n := 1) (len := 3) (by decide +kernel) (by decide +kernel) (by decide +kernel) (vp_c (by decide) (by decide)) (by decide) ?_
  refine fs_aloadn (j := 0) (by decide +kernel) rfl ?_
  refine fe_getR (idx := 25) (t := 8) (f := 13) (fk := 2) (fin := 1) (wp := 958) (x := 237) (by decide +kernel) (by decide +kernel) (by decide +kernel) (by decide +kernel) (by decide +kernel) ?_
  refine fs_iconst (n := 2) (v := 2) (by decide +kernel) (by decide) ?_
  refine fx_iald (n := 2) (len := 3) (by decide +kernel) (by decide +kernel) (by decide +kernel) (vp_c (by decide) (by decide)) (by decide) ?_
  exact fe_callS (idx := 80) (kd := 0) (n := 4) (wp := 1028) (q := (1029, 0)) (as := [.ref 233, .int (S.1 237 0), .int (S.1 237 1), .int (S.1 237 2)]) (rs := []) (by decide +kernel) (by decide +kernel) (by decide +kernel) (by decide) rfl (Nat.le_of_ble_eq_true rfl) rfl hc nx
theorem b_M_item_106 {d : Nat} {x1 : Int32} {S : fm_S}  : am_Ev d k_M_item 106 [some (.ref 231), some (.int x1)] [] (fm_mk S) (some (.int 1), fm_mk S) := by
  refine fs_iconst (n := 1) (v := 1) (by decide +kernel) (by decide) ?_
  exact fe_retZ (by decide +kernel) (by decide +kernel) (by decide)
theorem b_M_item_108 {d : Nat} {x1 : Int32} {v : Int32} {S1 : fm_S} {S : fm_S} {r : Option Value × am_W} (hc : am_Sp d k_M_laneItem [.ref 231] (fm_mk S) (some (.int v)) (fm_mk S1)) (nx : am_Ev (d + 1) k_M_item 112 [some (.ref 231), some (.int x1)] [.int v] (fm_mk S1) r) : am_Ev (d + 1) k_M_item 108 [some (.ref 231), some (.int x1)] [] (fm_mk S) r := by
  refine fs_aloadn (j := 0) (by decide +kernel) rfl ?_
  exact fe_callV (t := 8) (idx := 159) (n := 0) (wp := 1119) (q := (1121, 42)) (as := []) (rs := []) (by decide +kernel) (by decide +kernel) (by decide +kernel) (by decide +kernel) rfl (Nat.le_of_ble_eq_true rfl) rfl hc nx
theorem b_M_item_112 {d : Nat} {x1 : Int32} {sx0 : Int32} {S : fm_S}  (hz : sx0 = 0 ∨ sx0 = 1) : am_Ev d k_M_item 112 [some (.ref 231), some (.int x1)] [.int sx0] (fm_mk S) (some (.int sx0), fm_mk S) := by
  exact fe_retZ (by decide +kernel) (by decide +kernel) hz
theorem b_M_item_113 {d : Nat} {x1 : Int32} {v : Int32} {S1 : fm_S} {S : fm_S} {r : Option Value × am_W} (hc : am_Sp d k_M_number [.ref 231, .int 0, .int 0, .int 3] (fm_mk S) (some (.int v)) (fm_mk S1)) (nx : am_Ev (d + 1) k_M_item 120 [some (.ref 231), some (.int x1)] [.int v] (fm_mk S1) r) : am_Ev (d + 1) k_M_item 113 [some (.ref 231), some (.int x1)] [] (fm_mk S) r := by
  refine fs_aloadn (j := 0) (by decide +kernel) rfl ?_
  refine fs_iconst (n := 0) (v := 0) (by decide +kernel) (by decide) ?_
  refine fs_iconst (n := 0) (v := 0) (by decide +kernel) (by decide) ?_
  refine fs_iconst (n := 3) (v := 3) (by decide +kernel) (by decide) ?_
  exact fe_callV (t := 8) (idx := 151) (n := 3) (wp := 1112) (q := (1114, 41)) (as := [.int 0, .int 0, .int 3]) (rs := []) (by decide +kernel) (by decide +kernel) (by decide +kernel) (by decide +kernel) rfl (Nat.le_of_ble_eq_true rfl) rfl hc nx
theorem b_M_item_120 {d : Nat} {x1 : Int32} {sx0 : Int32} {S : fm_S} {r : Option Value × am_W} (kt : sx0 = 0 → am_Ev d k_M_item 147 [some (.ref 231), some (.int x1)] [] (fm_mk S) r) (kf : ¬ sx0 = 0 → am_Ev d k_M_item 123 [some (.ref 231), some (.int x1)] [] (fm_mk S) r) : am_Ev d k_M_item 120 [some (.ref 231), some (.int x1)] [.int sx0] (fm_mk S) r := by
  exact fs_ifeq (off := 27) (tgt := 147) (by decide +kernel) (by decide) kt kf
theorem b_M_item_123 {d : Nat} {x1 : Int32} {v : Int32} {S1 : fm_S} {S : fm_S} {r : Option Value × am_W} (hc : am_Sp d k_M_number [.ref 231, .int 1, .int 0, .int ((S.1 233 0) - 1)] (fm_mk S) (some (.int v)) (fm_mk S1)) (nx : am_Ev (d + 1) k_M_item 137 [some (.ref 231), some (.int x1)] [.int v] (fm_mk S1) r) : am_Ev (d + 1) k_M_item 123 [some (.ref 231), some (.int x1)] [] (fm_mk S) r := by
  refine fs_aloadn (j := 0) (by decide +kernel) rfl ?_
  refine fs_iconst (n := 1) (v := 1) (by decide +kernel) (by decide) ?_
  refine fs_iconst (n := 0) (v := 0) (by decide +kernel) (by decide) ?_
  refine fs_aloadn (j := 0) (by decide +kernel) rfl ?_
  refine fe_getR (idx := 13) (t := 8) (f := 1) (fk := 2) (fin := 1) (wp := 946) (x := 233) (by decide +kernel) (by decide +kernel) (by decide +kernel) (by decide +kernel) (by decide +kernel) ?_
  refine fs_iconst (n := 0) (v := 0) (by decide +kernel) (by decide) ?_
  refine fx_iald (n := 0) (len := 373) (by decide +kernel) (by decide +kernel) (by decide +kernel) (vp_c (by decide) (by decide)) (by decide) ?_
  refine fs_iconst (n := 1) (v := 1) (by decide +kernel) (by decide) ?_
  refine fs_isub (by decide +kernel) ?_
  exact fe_callV (t := 8) (idx := 151) (n := 3) (wp := 1112) (q := (1114, 41)) (as := [.int 1, .int 0, .int ((S.1 233 0) - 1)]) (rs := []) (by decide +kernel) (by decide +kernel) (by decide +kernel) (by decide +kernel) rfl (Nat.le_of_ble_eq_true rfl) rfl hc nx
theorem b_M_item_137 {d : Nat} {x1 : Int32} {sx0 : Int32} {S : fm_S} {r : Option Value × am_W} (kt : sx0 = 0 → am_Ev d k_M_item 147 [some (.ref 231), some (.int x1)] [] (fm_mk S) r) (kf : ¬ sx0 = 0 → am_Ev d k_M_item 140 [some (.ref 231), some (.int x1)] [] (fm_mk S) r) : am_Ev d k_M_item 137 [some (.ref 231), some (.int x1)] [.int sx0] (fm_mk S) r := by
  exact fs_ifeq (off := 10) (tgt := 147) (by decide +kernel) (by decide) kt kf
theorem b_M_item_140 {d : Nat} {x1 : Int32} {v : Int32} {S1 : fm_S} {S : fm_S} {r : Option Value × am_W} (hc : am_Sp d k_M_ends [.ref 231] (fm_mk S) (some (.int v)) (fm_mk S1)) (nx : am_Ev (d + 1) k_M_item 144 [some (.ref 231), some (.int x1)] [.int v] (fm_mk S1) r) : am_Ev (d + 1) k_M_item 140 [some (.ref 231), some (.int x1)] [] (fm_mk S) r := by
  refine fs_aloadn (j := 0) (by decide +kernel) rfl ?_
  exact fe_callV (t := 8) (idx := 155) (n := 0) (wp := 1108) (q := (1110, 40)) (as := []) (rs := []) (by decide +kernel) (by decide +kernel) (by decide +kernel) (by decide +kernel) rfl (Nat.le_of_ble_eq_true rfl) rfl hc nx
theorem b_M_item_144 {d : Nat} {x1 : Int32} {sx0 : Int32} {S : fm_S} {r : Option Value × am_W} (kt : ¬ sx0 = 0 → am_Ev d k_M_item 149 [some (.ref 231), some (.int x1)] [] (fm_mk S) r) (kf : sx0 = 0 → am_Ev d k_M_item 147 [some (.ref 231), some (.int x1)] [] (fm_mk S) r) : am_Ev d k_M_item 144 [some (.ref 231), some (.int x1)] [.int sx0] (fm_mk S) r := by
  exact fs_ifne (off := 5) (tgt := 149) (by decide +kernel) (by decide) kt kf
theorem b_M_item_147 {d : Nat} {x1 : Int32} {S : fm_S}  : am_Ev d k_M_item 147 [some (.ref 231), some (.int x1)] [] (fm_mk S) (some (.int 0), fm_mk S) := by
  refine fs_iconst (n := 0) (v := 0) (by decide +kernel) (by decide) ?_
  exact fe_retZ (by decide +kernel) (by decide +kernel) (by decide)
theorem b_M_item_149 {d : Nat} {x1 : Int32} {S : fm_S}  (hi0 : vp_in (117 + (S.1 237 0)) 373) : am_Ev d k_M_item 149 [some (.ref 231), some (.int x1)] [] (fm_mk S) (some (.int 1), fm_mk (fm_wI S 233 ((117 + (S.1 237 0)).toNatClampNeg) (S.1 237 1))) := by
  refine fs_aloadn (j := 0) (by decide +kernel) rfl ?_
  refine fe_getR (idx := 13) (t := 8) (f := 1) (fk := 2) (fin := 1) (wp := 946) (x := 233) (by decide +kernel) (by decide +kernel) (by decide +kernel) (by decide +kernel) (by decide +kernel) ?_
  refine fs_bipush (n := 117) (v := 117) (by decide +kernel) (by decide) ?_
  refine fs_aloadn (j := 0) (by decide +kernel) rfl ?_
  refine fe_getR (idx := 25) (t := 8) (f := 13) (fk := 2) (fin := 1) (wp := 958) (x := 237) (by decide +kernel) (by decide +kernel) (by decide +kernel) (by decide +kernel) (by decide +kernel) ?_
  refine fs_iconst (n := 0) (v := 0) (by decide +kernel) (by decide) ?_
  refine fx_iald (n := 0) (len := 3) (by decide +kernel) (by decide +kernel) (by decide +kernel) (vp_c (by decide) (by decide)) (by decide) ?_
  refine fs_iadd (by decide +kernel) ?_
  refine fs_aloadn (j := 0) (by decide +kernel) rfl ?_
  refine fe_getR (idx := 25) (t := 8) (f := 13) (fk := 2) (fin := 1) (wp := 958) (x := 237) (by decide +kernel) (by decide +kernel) (by decide +kernel) (by decide +kernel) (by decide +kernel) ?_
  refine fs_iconst (n := 1) (v := 1) (by decide +kernel) (by decide) ?_
  refine fx_iald (n := 1) (len := 3) (by decide +kernel) (by decide +kernel) (by decide +kernel) (vp_c (by decide) (by decide)) (by decide) ?_
  refine fx_iast (n := (117 + (S.1 237 0)).toNatClampNeg) (len := 373) (by decide +kernel) (by decide +kernel) (by decide +kernel) hi0 rfl ?_
  refine fs_iconst (n := 1) (v := 1) (by decide +kernel) (by decide) ?_
  exact fe_retZ (by decide +kernel) (by decide +kernel) (by decide)
theorem b_M_item_171 {d : Nat} {x1 : Int32} {v : Int32} {S1 : fm_S} {S : fm_S} {r : Option Value × am_W} (hc : am_Sp d k_M_number [.ref 231, .int 0, .int 0, .int 3] (fm_mk S) (some (.int v)) (fm_mk S1)) (nx : am_Ev (d + 1) k_M_item 178 [some (.ref 231), some (.int x1)] [.int v] (fm_mk S1) r) : am_Ev (d + 1) k_M_item 171 [some (.ref 231), some (.int x1)] [] (fm_mk S) r := by
  refine fs_aloadn (j := 0) (by decide +kernel) rfl ?_
  refine fs_iconst (n := 0) (v := 0) (by decide +kernel) (by decide) ?_
  refine fs_iconst (n := 0) (v := 0) (by decide +kernel) (by decide) ?_
  refine fs_iconst (n := 3) (v := 3) (by decide +kernel) (by decide) ?_
  exact fe_callV (t := 8) (idx := 151) (n := 3) (wp := 1112) (q := (1114, 41)) (as := [.int 0, .int 0, .int 3]) (rs := []) (by decide +kernel) (by decide +kernel) (by decide +kernel) (by decide +kernel) rfl (Nat.le_of_ble_eq_true rfl) rfl hc nx
theorem b_M_item_178 {d : Nat} {x1 : Int32} {sx0 : Int32} {S : fm_S} {r : Option Value × am_W} (kt : sx0 = 0 → am_Ev d k_M_item 198 [some (.ref 231), some (.int x1)] [] (fm_mk S) r) (kf : ¬ sx0 = 0 → am_Ev d k_M_item 181 [some (.ref 231), some (.int x1)] [] (fm_mk S) r) : am_Ev d k_M_item 178 [some (.ref 231), some (.int x1)] [.int sx0] (fm_mk S) r := by
  exact fs_ifeq (off := 20) (tgt := 198) (by decide +kernel) (by decide) kt kf
theorem b_M_item_181 {d : Nat} {x1 : Int32} {v : Int32} {S1 : fm_S} {S : fm_S} {r : Option Value × am_W} (hc : am_Sp d k_M_number [.ref 231, .int 1, .int 0, .int 3] (fm_mk S) (some (.int v)) (fm_mk S1)) (nx : am_Ev (d + 1) k_M_item 188 [some (.ref 231), some (.int x1)] [.int v] (fm_mk S1) r) : am_Ev (d + 1) k_M_item 181 [some (.ref 231), some (.int x1)] [] (fm_mk S) r := by
  refine fs_aloadn (j := 0) (by decide +kernel) rfl ?_
  refine fs_iconst (n := 1) (v := 1) (by decide +kernel) (by decide) ?_
  refine fs_iconst (n := 0) (v := 0) (by decide +kernel) (by decide) ?_
  refine fs_iconst (n := 3) (v := 3) (by decide +kernel) (by decide) ?_
  exact fe_callV (t := 8) (idx := 151) (n := 3) (wp := 1112) (q := (1114, 41)) (as := [.int 1, .int 0, .int 3]) (rs := []) (by decide +kernel) (by decide +kernel) (by decide +kernel) (by decide +kernel) rfl (Nat.le_of_ble_eq_true rfl) rfl hc nx
theorem b_M_item_188 {d : Nat} {x1 : Int32} {sx0 : Int32} {S : fm_S} {r : Option Value × am_W} (kt : sx0 = 0 → am_Ev d k_M_item 198 [some (.ref 231), some (.int x1)] [] (fm_mk S) r) (kf : ¬ sx0 = 0 → am_Ev d k_M_item 191 [some (.ref 231), some (.int x1)] [] (fm_mk S) r) : am_Ev d k_M_item 188 [some (.ref 231), some (.int x1)] [.int sx0] (fm_mk S) r := by
  exact fs_ifeq (off := 10) (tgt := 198) (by decide +kernel) (by decide) kt kf
theorem b_M_item_191 {d : Nat} {x1 : Int32} {v : Int32} {S1 : fm_S} {S : fm_S} {r : Option Value × am_W} (hc : am_Sp d k_M_ends [.ref 231] (fm_mk S) (some (.int v)) (fm_mk S1)) (nx : am_Ev (d + 1) k_M_item 195 [some (.ref 231), some (.int x1)] [.int v] (fm_mk S1) r) : am_Ev (d + 1) k_M_item 191 [some (.ref 231), some (.int x1)] [] (fm_mk S) r := by
  refine fs_aloadn (j := 0) (by decide +kernel) rfl ?_
  exact fe_callV (t := 8) (idx := 155) (n := 0) (wp := 1108) (q := (1110, 40)) (as := []) (rs := []) (by decide +kernel) (by decide +kernel) (by decide +kernel) (by decide +kernel) rfl (Nat.le_of_ble_eq_true rfl) rfl hc nx
theorem b_M_item_195 {d : Nat} {x1 : Int32} {sx0 : Int32} {S : fm_S} {r : Option Value × am_W} (kt : ¬ sx0 = 0 → am_Ev d k_M_item 200 [some (.ref 231), some (.int x1)] [] (fm_mk S) r) (kf : sx0 = 0 → am_Ev d k_M_item 198 [some (.ref 231), some (.int x1)] [] (fm_mk S) r) : am_Ev d k_M_item 195 [some (.ref 231), some (.int x1)] [.int sx0] (fm_mk S) r := by
  exact fs_ifne (off := 5) (tgt := 200) (by decide +kernel) (by decide) kt kf
theorem b_M_item_198 {d : Nat} {x1 : Int32} {S : fm_S}  : am_Ev d k_M_item 198 [some (.ref 231), some (.int x1)] [] (fm_mk S) (some (.int 0), fm_mk S) := by
  refine fs_iconst (n := 0) (v := 0) (by decide +kernel) (by decide) ?_
  exact fe_retZ (by decide +kernel) (by decide +kernel) (by decide)
theorem b_M_item_200 {d : Nat} {x1 : Int32} {S : fm_S}  (hi0 : vp_in (121 + (S.1 237 0)) 373) : am_Ev d k_M_item 200 [some (.ref 231), some (.int x1)] [] (fm_mk S) (some (.int 1), fm_mk (fm_wI S 233 ((121 + (S.1 237 0)).toNatClampNeg) (S.1 237 1))) := by
  refine fs_aloadn (j := 0) (by decide +kernel) rfl ?_
  refine fe_getR (idx := 13) (t := 8) (f := 1) (fk := 2) (fin := 1) (wp := 946) (x := 233) (by decide +kernel) (by decide +kernel) (by decide +kernel) (by decide +kernel) (by decide +kernel) ?_
  refine fs_bipush (n := 121) (v := 121) (by decide +kernel) (by decide) ?_
  refine fs_aloadn (j := 0) (by decide +kernel) rfl ?_
  refine fe_getR (idx := 25) (t := 8) (f := 13) (fk := 2) (fin := 1) (wp := 958) (x := 237) (by decide +kernel) (by decide +kernel) (by decide +kernel) (by decide +kernel) (by decide +kernel) ?_
  refine fs_iconst (n := 0) (v := 0) (by decide +kernel) (by decide) ?_
  refine fx_iald (n := 0) (len := 3) (by decide +kernel) (by decide +kernel) (by decide +kernel) (vp_c (by decide) (by decide)) (by decide) ?_
  refine fs_iadd (by decide +kernel) ?_
  refine fs_aloadn (j := 0) (by decide +kernel) rfl ?_
  refine fe_getR (idx := 25) (t := 8) (f := 13) (fk := 2) (fin := 1) (wp := 958) (x := 237) (by decide +kernel) (by decide +kernel) (by decide +kernel) (by decide +kernel) (by decide +kernel) ?_
  refine fs_iconst (n := 1) (v := 1) (by decide +kernel) (by decide) ?_
  refine fx_iald (n := 1) (len := 3) (by decide +kernel) (by decide +kernel) (by decide +kernel) (vp_c (by decide) (by decide)) (by decide) ?_
  refine fx_iast (n := (121 + (S.1 237 0)).toNatClampNeg) (len := 373) (by decide +kernel) (by decide +kernel) (by decide +kernel) hi0 rfl ?_
  refine fs_iconst (n := 1) (v := 1) (by decide +kernel) (by decide) ?_
  exact fe_retZ (by decide +kernel) (by decide +kernel) (by decide)
theorem b_M_item_222 {d : Nat} {x1 : Int32} {v : Int32} {S1 : fm_S} {S : fm_S} {r : Option Value × am_W} (hc : am_Sp d k_M_number [.ref 231, .int 0, .int 0, .int 5] (fm_mk S) (some (.int v)) (fm_mk S1)) (nx : am_Ev (d + 1) k_M_item 229 [some (.ref 231), some (.int x1)] [.int v] (fm_mk S1) r) : am_Ev (d + 1) k_M_item 222 [some (.ref 231), some (.int x1)] [] (fm_mk S) r := by
  refine fs_aloadn (j := 0) (by decide +kernel) rfl ?_
  refine fs_iconst (n := 0) (v := 0) (by decide +kernel) (by decide) ?_
  refine fs_iconst (n := 0) (v := 0) (by decide +kernel) (by decide) ?_
  refine fs_iconst (n := 5) (v := 5) (by decide +kernel) (by decide) ?_
  exact fe_callV (t := 8) (idx := 151) (n := 3) (wp := 1112) (q := (1114, 41)) (as := [.int 0, .int 0, .int 5]) (rs := []) (by decide +kernel) (by decide +kernel) (by decide +kernel) (by decide +kernel) rfl (Nat.le_of_ble_eq_true rfl) rfl hc nx
theorem b_M_item_229 {d : Nat} {x1 : Int32} {sx0 : Int32} {S : fm_S} {r : Option Value × am_W} (kt : sx0 = 0 → am_Ev d k_M_item 261 [some (.ref 231), some (.int x1)] [] (fm_mk S) r) (kf : ¬ sx0 = 0 → am_Ev d k_M_item 232 [some (.ref 231), some (.int x1)] [] (fm_mk S) r) : am_Ev d k_M_item 229 [some (.ref 231), some (.int x1)] [.int sx0] (fm_mk S) r := by
  exact fs_ifeq (off := 32) (tgt := 261) (by decide +kernel) (by decide) kt kf
theorem b_M_item_232 {d : Nat} {x1 : Int32} {v : Int32} {S1 : fm_S} {S : fm_S} {r : Option Value × am_W} (hc : am_Sp d k_M_number [.ref 231, .int 1, .int 1, .int 30] (fm_mk S) (some (.int v)) (fm_mk S1)) (nx : am_Ev (d + 1) k_M_item 240 [some (.ref 231), some (.int x1)] [.int v] (fm_mk S1) r) : am_Ev (d + 1) k_M_item 232 [some (.ref 231), some (.int x1)] [] (fm_mk S) r := by
  refine fs_aloadn (j := 0) (by decide +kernel) rfl ?_
  refine fs_iconst (n := 1) (v := 1) (by decide +kernel) (by decide) ?_
  refine fs_iconst (n := 1) (v := 1) (by decide +kernel) (by decide) ?_
  refine fs_bipush (n := 30) (v := 30) (by decide +kernel) (by decide) ?_
  exact fe_callV (t := 8) (idx := 151) (n := 3) (wp := 1112) (q := (1114, 41)) (as := [.int 1, .int 1, .int 30]) (rs := []) (by decide +kernel) (by decide +kernel) (by decide +kernel) (by decide +kernel) rfl (Nat.le_of_ble_eq_true rfl) rfl hc nx
theorem b_M_item_240 {d : Nat} {x1 : Int32} {sx0 : Int32} {S : fm_S} {r : Option Value × am_W} (kt : sx0 = 0 → am_Ev d k_M_item 261 [some (.ref 231), some (.int x1)] [] (fm_mk S) r) (kf : ¬ sx0 = 0 → am_Ev d k_M_item 243 [some (.ref 231), some (.int x1)] [] (fm_mk S) r) : am_Ev d k_M_item 240 [some (.ref 231), some (.int x1)] [.int sx0] (fm_mk S) r := by
  exact fs_ifeq (off := 21) (tgt := 261) (by decide +kernel) (by decide) kt kf
theorem b_M_item_243 {d : Nat} {x1 : Int32} {v : Int32} {S1 : fm_S} {S : fm_S} {r : Option Value × am_W} (hc : am_Sp d k_M_number [.ref 231, .int 2, .int 0, .int 9] (fm_mk S) (some (.int v)) (fm_mk S1)) (nx : am_Ev (d + 1) k_M_item 251 [some (.ref 231), some (.int x1)] [.int v] (fm_mk S1) r) : am_Ev (d + 1) k_M_item 243 [some (.ref 231), some (.int x1)] [] (fm_mk S) r := by
  refine fs_aloadn (j := 0) (by decide +kernel) rfl ?_
  refine fs_iconst (n := 2) (v := 2) (by decide +kernel) (by decide) ?_
  refine fs_iconst (n := 0) (v := 0) (by decide +kernel) (by decide) ?_
  refine fs_bipush (n := 9) (v := 9) (by decide +kernel) (by decide) ?_
  exact fe_callV (t := 8) (idx := 151) (n := 3) (wp := 1112) (q := (1114, 41)) (as := [.int 2, .int 0, .int 9]) (rs := []) (by decide +kernel) (by decide +kernel) (by decide +kernel) (by decide +kernel) rfl (Nat.le_of_ble_eq_true rfl) rfl hc nx
theorem b_M_item_251 {d : Nat} {x1 : Int32} {sx0 : Int32} {S : fm_S} {r : Option Value × am_W} (kt : sx0 = 0 → am_Ev d k_M_item 261 [some (.ref 231), some (.int x1)] [] (fm_mk S) r) (kf : ¬ sx0 = 0 → am_Ev d k_M_item 254 [some (.ref 231), some (.int x1)] [] (fm_mk S) r) : am_Ev d k_M_item 251 [some (.ref 231), some (.int x1)] [.int sx0] (fm_mk S) r := by
  exact fs_ifeq (off := 10) (tgt := 261) (by decide +kernel) (by decide) kt kf
theorem b_M_item_254 {d : Nat} {x1 : Int32} {v : Int32} {S1 : fm_S} {S : fm_S} {r : Option Value × am_W} (hc : am_Sp d k_M_ends [.ref 231] (fm_mk S) (some (.int v)) (fm_mk S1)) (nx : am_Ev (d + 1) k_M_item 258 [some (.ref 231), some (.int x1)] [.int v] (fm_mk S1) r) : am_Ev (d + 1) k_M_item 254 [some (.ref 231), some (.int x1)] [] (fm_mk S) r := by
  refine fs_aloadn (j := 0) (by decide +kernel) rfl ?_
  exact fe_callV (t := 8) (idx := 155) (n := 0) (wp := 1108) (q := (1110, 40)) (as := []) (rs := []) (by decide +kernel) (by decide +kernel) (by decide +kernel) (by decide +kernel) rfl (Nat.le_of_ble_eq_true rfl) rfl hc nx
theorem b_M_item_258 {d : Nat} {x1 : Int32} {sx0 : Int32} {S : fm_S} {r : Option Value × am_W} (kt : ¬ sx0 = 0 → am_Ev d k_M_item 263 [some (.ref 231), some (.int x1)] [] (fm_mk S) r) (kf : sx0 = 0 → am_Ev d k_M_item 261 [some (.ref 231), some (.int x1)] [] (fm_mk S) r) : am_Ev d k_M_item 258 [some (.ref 231), some (.int x1)] [.int sx0] (fm_mk S) r := by
  exact fs_ifne (off := 5) (tgt := 263) (by decide +kernel) (by decide) kt kf
theorem b_M_item_261 {d : Nat} {x1 : Int32} {S : fm_S}  : am_Ev d k_M_item 261 [some (.ref 231), some (.int x1)] [] (fm_mk S) (some (.int 0), fm_mk S) := by
  refine fs_iconst (n := 0) (v := 0) (by decide +kernel) (by decide) ?_
  exact fe_retZ (by decide +kernel) (by decide +kernel) (by decide)
theorem b_M_item_263 {d : Nat} {x1 : Int32} {S1 : fm_S} {S : fm_S} {r : Option Value × am_W} (hc : am_Sp d k_M_addDish [.ref 233, .int (S.1 237 0), .int (S.1 237 1), .int (S.1 237 2)] (fm_mk S) (none) (fm_mk S1)) (nx : am_Ev (d + 1) k_M_item 288 [some (.ref 231), some (.int x1)] [] (fm_mk S1) r) : am_Ev (d + 1) k_M_item 263 [some (.ref 231), some (.int x1)] [] (fm_mk S) r := by
  refine fs_aloadn (j := 0) (by decide +kernel) rfl ?_
  refine fe_getR (idx := 13) (t := 8) (f := 1) (fk := 2) (fin := 1) (wp := 946) (x := 233) (by decide +kernel) (by decide +kernel) (by decide +kernel) (by decide +kernel) (by decide +kernel) ?_
  refine fs_aloadn (j := 0) (by decide +kernel) rfl ?_
  refine fe_getR (idx := 25) (t := 8) (f := 13) (fk := 2) (fin := 1) (wp := 958) (x := 237) (by decide +kernel) (by decide +kernel) (by decide +kernel) (by decide +kernel) (by decide +kernel) ?_
  refine fs_iconst (n := 0) (v := 0) (by decide +kernel) (by decide) ?_
  refine fx_iald (n := 0) (len := 3) (by decide +kernel) (by decide +kernel) (by decide +kernel) (vp_c (by decide) (by decide)) (by decide) ?_
  refine fs_aloadn (j := 0) (by decide +kernel) rfl ?_
  refine fe_getR (idx := 25) (t := 8) (f := 13) (fk := 2) (fin := 1) (wp := 958) (x := 237) (by decide +kernel) (by decide +kernel) (by decide +kernel) (by decide +kernel) (by decide +kernel) ?_
  refine fs_iconst (n := 1) (v := 1) (by decide +kernel) (by decide) ?_
  refine fx_iald (n := 1) (len := 3) (by decide +kernel) (by decide +kernel) (by decide +kernel) (vp_c (by decide) (by decide)) (by decide) ?_
  refine fs_aloadn (j := 0) (by decide +kernel) rfl ?_
  refine fe_getR (idx := 25) (t := 8) (f := 13) (fk := 2) (fin := 1) (wp := 958) (x := 237) (by decide +kernel) (by decide +kernel) (by decide +kernel) (by decide +kernel) (by decide +kernel) ?_
  refine fs_iconst (n := 2) (v := 2) (by decide +kernel) (by decide) ?_
  refine fx_iald (n := 2) (len := 3) (by decide +kernel) (by decide +kernel) (by decide +kernel) (vp_c (by decide) (by decide)) (by decide) ?_
  exact fe_callS (idx := 99) (kd := 0) (n := 4) (wp := 1060) (q := (1061, 0)) (as := [.ref 233, .int (S.1 237 0), .int (S.1 237 1), .int (S.1 237 2)]) (rs := []) (by decide +kernel) (by decide +kernel) (by decide +kernel) (by decide) rfl (Nat.le_of_ble_eq_true rfl) rfl hc nx
theorem b_M_item_288 {d : Nat} {x1 : Int32} {S : fm_S}  : am_Ev d k_M_item 288 [some (.ref 231), some (.int x1)] [] (fm_mk S) (some (.int 1), fm_mk S) := by
  refine fs_iconst (n := 1) (v := 1) (by decide +kernel) (by decide) ?_
  exact fe_retZ (by decide +kernel) (by decide +kernel) (by decide)
-- KitchenSiegeModel.ends()Z
theorem b_M_ends_0 {d : Nat} {S1 : fm_S} {S : fm_S} {r : Option Value × am_W} (hc : am_Sp d k_M_skip [.ref 231] (fm_mk S) (none) (fm_mk S1)) (nx : am_Ev (d + 1) k_M_ends 4 [some (.ref 231)] [] (fm_mk S1) r) : am_Ev (d + 1) k_M_ends 0 [some (.ref 231)] [] (fm_mk S) r := by
  refine fs_aloadn (j := 0) (by decide +kernel) rfl ?_
  exact fe_callV (t := 8) (idx := 117) (n := 0) (wp := 1080) (q := (1082, 36)) (as := []) (rs := []) (by decide +kernel) (by decide +kernel) (by decide +kernel) (by decide +kernel) rfl (Nat.le_of_ble_eq_true rfl) rfl hc nx
theorem b_M_ends_4 {d : Nat} {v : Int32} {S1 : fm_S} {S : fm_S} {r : Option Value × am_W} (hc : am_Sp d k_M_byteAt [.ref 231, .int (S.1 231 11)] (fm_mk S) (some (.int v)) (fm_mk S1)) (nx : am_Ev (d + 1) k_M_ends 12 [some (.ref 231)] [.int v] (fm_mk S1) r) : am_Ev (d + 1) k_M_ends 4 [some (.ref 231)] [] (fm_mk S) r := by
  refine fs_aloadn (j := 0) (by decide +kernel) rfl ?_
  refine fs_aloadn (j := 0) (by decide +kernel) rfl ?_
  refine fe_getI (idx := 107) (t := 8) (f := 11) (fk := 0) (fin := 0) (wp := 956) (by decide +kernel) (by decide +kernel) (by decide +kernel) (by decide +kernel) ?_
  exact fe_callV (t := 8) (idx := 110) (n := 1) (wp := 1084) (q := (1086, 37)) (as := [.int (S.1 231 11)]) (rs := []) (by decide +kernel) (by decide +kernel) (by decide +kernel) (by decide +kernel) rfl (Nat.le_of_ble_eq_true rfl) rfl hc nx
theorem b_M_ends_12 {d : Nat} {sx0 : Int32} {S : fm_S} {r : Option Value × am_W} (kt : sx0 = 59 → am_Ev d k_M_ends 26 [some (.ref 231)] [] (fm_mk S) r) (kf : ¬ sx0 = 59 → am_Ev d k_M_ends 17 [some (.ref 231)] [] (fm_mk S) r) : am_Ev d k_M_ends 12 [some (.ref 231)] [.int sx0] (fm_mk S) r := by
  refine fs_bipush (n := 59) (v := 59) (by decide +kernel) (by decide) ?_
  exact fs_iceq (off := 12) (tgt := 26) (by decide +kernel) (by decide) kt kf
theorem b_M_ends_17 {d : Nat} {v : Int32} {S1 : fm_S} {S : fm_S} {r : Option Value × am_W} (hc : am_Sp d k_M_fails [.ref 231, .int (S.1 231 11)] (fm_mk S) (some (.int v)) (fm_mk S1)) (nx : am_Ev (d + 1) k_M_ends 25 [some (.ref 231)] [.int v] (fm_mk S1) r) : am_Ev (d + 1) k_M_ends 17 [some (.ref 231)] [] (fm_mk S) r := by
  refine fs_aloadn (j := 0) (by decide +kernel) rfl ?_
  refine fs_aloadn (j := 0) (by decide +kernel) rfl ?_
  refine fe_getI (idx := 107) (t := 8) (f := 11) (fk := 0) (fin := 0) (wp := 956) (by decide +kernel) (by decide +kernel) (by decide +kernel) (by decide +kernel) ?_
  exact fe_callV (t := 8) (idx := 126) (n := 1) (wp := 1100) (q := (1102, 38)) (as := [.int (S.1 231 11)]) (rs := []) (by decide +kernel) (by decide +kernel) (by decide +kernel) (by decide +kernel) rfl (Nat.le_of_ble_eq_true rfl) rfl hc nx
theorem b_M_ends_25 {d : Nat} {sx0 : Int32} {S : fm_S}  (hz : sx0 = 0 ∨ sx0 = 1) : am_Ev d k_M_ends 25 [some (.ref 231)] [.int sx0] (fm_mk S) (some (.int sx0), fm_mk S) := by
  exact fe_retZ (by decide +kernel) (by decide +kernel) hz
theorem b_M_ends_26 {d : Nat} {S : fm_S}  : am_Ev d k_M_ends 26 [some (.ref 231)] [] (fm_mk S) (some (.int 1), fm_mk (fm_wI S 231 11 ((S.1 231 11) + 1))) := by
  refine fs_aloadn (j := 0) (by decide +kernel) rfl ?_
  refine fs_dup (by decide +kernel) rfl ?_
  refine fe_getI (idx := 107) (t := 8) (f := 11) (fk := 0) (fin := 0) (wp := 956) (by decide +kernel) (by decide +kernel) (by decide +kernel) (by decide +kernel) ?_
  refine fs_iconst (n := 1) (v := 1) (by decide +kernel) (by decide) ?_
  refine fs_iadd (by decide +kernel) ?_
  refine fe_putI (idx := 107) (t := 8) (f := 11) (wp := 956) (by decide +kernel) (by decide +kernel) (by decide +kernel) (by decide +kernel) ?_
  refine fs_iconst (n := 1) (v := 1) (by decide +kernel) (by decide) ?_
  exact fe_retZ (by decide +kernel) (by decide +kernel) (by decide)
-- KitchenSiegeModel.number(III)Z
theorem b_M_number_0 {d : Nat} {x1 : Int32} {x2 : Int32} {x3 : Int32} {o4 : Option Value} {o5 : Option Value} {o6 : Option Value} {S1 : fm_S} {S : fm_S} {r : Option Value × am_W} (hc : am_Sp d k_M_skip [.ref 231] (fm_mk S) (none) (fm_mk S1)) (nx : am_Ev (d + 1) k_M_number 4 [some (.ref 231), some (.int x1), some (.int x2), some (.int x3), o4, o5, o6] [] (fm_mk S1) r) : am_Ev (d + 1) k_M_number 0 [some (.ref 231), some (.int x1), some (.int x2), some (.int x3), o4, o5, o6] [] (fm_mk S) r := by
  refine fs_aloadn (j := 0) (by decide +kernel) rfl ?_
  exact fe_callV (t := 8) (idx := 117) (n := 0) (wp := 1080) (q := (1082, 36)) (as := []) (rs := []) (by decide +kernel) (by decide +kernel) (by decide +kernel) (by decide +kernel) rfl (Nat.le_of_ble_eq_true rfl) rfl hc nx
theorem b_M_number_4 {d : Nat} {x1 : Int32} {x2 : Int32} {x3 : Int32} {o4 : Option Value} {o5 : Option Value} {o6 : Option Value} {S : fm_S} {r : Option Value × am_W} (nx : am_Ev d k_M_number 16 [some (.ref 231), some (.int x1), some (.int x2), some (.int x3), some (.int (S.1 231 11)), some (.int 0), some (.int 0)] [] (fm_mk S) r) : am_Ev d k_M_number 4 [some (.ref 231), some (.int x1), some (.int x2), some (.int x3), o4, o5, o6] [] (fm_mk S) r := by
  refine fs_aloadn (j := 0) (by decide +kernel) rfl ?_
  refine fe_getI (idx := 107) (t := 8) (f := 11) (fk := 0) (fin := 0) (wp := 956) (by decide +kernel) (by decide +kernel) (by decide +kernel) (by decide +kernel) ?_
  refine fs_istore (j := 4) (L' := [some (.ref 231), some (.int x1), some (.int x2), some (.int x3), some (.int (S.1 231 11)), o5, o6]) (by decide +kernel) (Nat.le_of_ble_eq_true rfl) rfl ?_
  refine fs_iconst (n := 0) (v := 0) (by decide +kernel) (by decide) ?_
  refine fs_istore (j := 5) (L' := [some (.ref 231), some (.int x1), some (.int x2), some (.int x3), some (.int (S.1 231 11)), some (.int 0), o6]) (by decide +kernel) (Nat.le_of_ble_eq_true rfl) rfl ?_
  refine fs_iconst (n := 0) (v := 0) (by decide +kernel) (by decide) ?_
  refine fs_istore (j := 6) (L' := [some (.ref 231), some (.int x1), some (.int x2), some (.int x3), some (.int (S.1 231 11)), some (.int 0), some (.int 0)]) (by decide +kernel) (Nat.le_of_ble_eq_true rfl) rfl ?_
  exact nx
theorem b_M_number_16 {d : Nat} {x1 : Int32} {x2 : Int32} {x3 : Int32} {x4 : Int32} {x5 : Int32} {x6 : Int32} {v : Int32} {S1 : fm_S} {S : fm_S} {r : Option Value × am_W} (hc : am_Sp d k_M_byteAt [.ref 231, .int (S.1 231 11)] (fm_mk S) (some (.int v)) (fm_mk S1)) (nx : am_Ev (d + 1) k_M_number 24 [some (.ref 231), some (.int x1), some (.int x2), some (.int x3), some (.int x4), some (.int x5), some (.int x6)] [.int v] (fm_mk S1) r) : am_Ev (d + 1) k_M_number 16 [some (.ref 231), some (.int x1), some (.int x2), some (.int x3), some (.int x4), some (.int x5), some (.int x6)] [] (fm_mk S) r := by
  refine fs_aloadn (j := 0) (by decide +kernel) rfl ?_
  refine fs_aloadn (j := 0) (by decide +kernel) rfl ?_
  refine fe_getI (idx := 107) (t := 8) (f := 11) (fk := 0) (fin := 0) (wp := 956) (by decide +kernel) (by decide +kernel) (by decide +kernel) (by decide +kernel) ?_
  exact fe_callV (t := 8) (idx := 110) (n := 1) (wp := 1084) (q := (1086, 37)) (as := [.int (S.1 231 11)]) (rs := []) (by decide +kernel) (by decide +kernel) (by decide +kernel) (by decide +kernel) rfl (Nat.le_of_ble_eq_true rfl) rfl hc nx
theorem b_M_number_24 {d : Nat} {x1 : Int32} {x2 : Int32} {x3 : Int32} {x4 : Int32} {x5 : Int32} {x6 : Int32} {sx0 : Int32} {v : Int32} {S1 : fm_S} {S : fm_S} {r : Option Value × am_W} (hc : am_Sp d k_M_in [.long sx0.toInt64, .long 48, .long 57] (fm_mk S) (some (.int v)) (fm_mk S1)) (nx : am_Ev (d + 1) k_M_number 34 [some (.ref 231), some (.int x1), some (.int x2), some (.int x3), some (.int x4), some (.int x5), some (.int x6)] [.int v] (fm_mk S1) r) : am_Ev (d + 1) k_M_number 24 [some (.ref 231), some (.int x1), some (.int x2), some (.int x3), some (.int x4), some (.int x5), some (.int x6)] [.int sx0] (fm_mk S) r := by
  refine fs_i2l (by decide +kernel) ?_
  refine fs_ldc2 (idx := 120) (q := 1116) (v := 48) (by decide +kernel) (by decide +kernel) ?_
  refine fs_ldc2 (idx := 122) (q := 1117) (v := 57) (by decide +kernel) (by decide +kernel) ?_
  exact fe_callS (idx := 67) (kd := 0) (n := 3) (wp := 1016) (q := (1017, 0)) (as := [.long sx0.toInt64, .long 48, .long 57]) (rs := []) (by decide +kernel) (by decide +kernel) (by decide +kernel) (by decide) rfl (Nat.le_of_ble_eq_true rfl) rfl hc nx
theorem b_M_number_34 {d : Nat} {x1 : Int32} {x2 : Int32} {x3 : Int32} {x4 : Int32} {x5 : Int32} {x6 : Int32} {sx0 : Int32} {S : fm_S} {r : Option Value × am_W} (kt : sx0 = 0 → am_Ev d k_M_number 83 [some (.ref 231), some (.int x1), some (.int x2), some (.int x3), some (.int x4), some (.int x5), some (.int x6)] [] (fm_mk S) r) (kf : ¬ sx0 = 0 → am_Ev d k_M_number 37 [some (.ref 231), some (.int x1), some (.int x2), some (.int x3), some (.int x4), some (.int x5), some (.int x6)] [] (fm_mk S) r) : am_Ev d k_M_number 34 [some (.ref 231), some (.int x1), some (.int x2), some (.int x3), some (.int x4), some (.int x5), some (.int x6)] [.int sx0] (fm_mk S) r := by
  exact fs_ifeq (off := 49) (tgt := 83) (by decide +kernel) (by decide) kt kf
theorem b_M_number_37 {d : Nat} {x1 : Int32} {x2 : Int32} {x3 : Int32} {x4 : Int32} {x5 : Int32} {x6 : Int32} {S : fm_S} {r : Option Value × am_W} (kt : 3 ≤ x6 → am_Ev d k_M_number 63 [some (.ref 231), some (.int x1), some (.int x2), some (.int x3), some (.int x4), some (.int x5), some (.int x6)] [] (fm_mk S) r) (kf : ¬ 3 ≤ x6 → am_Ev d k_M_number 43 [some (.ref 231), some (.int x1), some (.int x2), some (.int x3), some (.int x4), some (.int x5), some (.int x6)] [] (fm_mk S) r) : am_Ev d k_M_number 37 [some (.ref 231), some (.int x1), some (.int x2), some (.int x3), some (.int x4), some (.int x5), some (.int x6)] [] (fm_mk S) r := by
  refine fs_iload (j := 6) (by decide +kernel) rfl ?_
  refine fs_iconst (n := 3) (v := 3) (by decide +kernel) (by decide) ?_
  exact fs_icge (off := 23) (tgt := 63) (by decide +kernel) (by decide) kt kf
theorem b_M_number_43 {d : Nat} {x1 : Int32} {x2 : Int32} {x3 : Int32} {x4 : Int32} {x5 : Int32} {x6 : Int32} {v : Int32} {S1 : fm_S} {S : fm_S} {r : Option Value × am_W} (hc : am_Sp d k_M_byteAt [.ref 231, .int (S.1 231 11)] (fm_mk S) (some (.int v)) (fm_mk S1)) (nx : am_Ev (d + 1) k_M_number 56 [some (.ref 231), some (.int x1), some (.int x2), some (.int x3), some (.int x4), some (.int x5), some (.int x6)] [.int v, .int (10 * x5)] (fm_mk S1) r) : am_Ev (d + 1) k_M_number 43 [some (.ref 231), some (.int x1), some (.int x2), some (.int x3), some (.int x4), some (.int x5), some (.int x6)] [] (fm_mk S) r := by
  refine fs_bipush (n := 10) (v := 10) (by decide +kernel) (by decide) ?_
  refine fs_iload (j := 5) (by decide +kernel) rfl ?_
  refine fs_imul (by decide +kernel) ?_
  refine fs_aloadn (j := 0) (by decide +kernel) rfl ?_
  refine fs_aloadn (j := 0) (by decide +kernel) rfl ?_
  refine fe_getI (idx := 107) (t := 8) (f := 11) (fk := 0) (fin := 0) (wp := 956) (by decide +kernel) (by decide +kernel) (by decide +kernel) (by decide +kernel) ?_
  exact fe_callV (t := 8) (idx := 110) (n := 1) (wp := 1084) (q := (1086, 37)) (as := [.int (S.1 231 11)]) (rs := [.int (10 * x5)]) (by decide +kernel) (by decide +kernel) (by decide +kernel) (by decide +kernel) rfl (Nat.le_of_ble_eq_true rfl) rfl hc nx
theorem b_M_number_56 {d : Nat} {x1 : Int32} {x2 : Int32} {x3 : Int32} {x4 : Int32} {x5 : Int32} {x6 : Int32} {sx0 : Int32} {sx1 : Int32} {S : fm_S} {r : Option Value × am_W} (nx : am_Ev d k_M_number 65 [some (.ref 231), some (.int x1), some (.int x2), some (.int x3), some (.int x4), some (.int x5), some (.int x6)] [.int ((sx0 + sx1) - 48)] (fm_mk S) r) : am_Ev d k_M_number 56 [some (.ref 231), some (.int x1), some (.int x2), some (.int x3), some (.int x4), some (.int x5), some (.int x6)] [.int sx1, .int sx0] (fm_mk S) r := by
  refine fs_iadd (by decide +kernel) ?_
  refine fs_bipush (n := 48) (v := 48) (by decide +kernel) (by decide) ?_
  refine fs_isub (by decide +kernel) ?_
  refine fs_goto (off := 5) (tgt := 65) (by decide +kernel) (by decide) ?_
  exact nx
theorem b_M_number_63 {d : Nat} {x1 : Int32} {x2 : Int32} {x3 : Int32} {x4 : Int32} {x5 : Int32} {x6 : Int32} {S : fm_S} {r : Option Value × am_W} (nx : am_Ev d k_M_number 65 [some (.ref 231), some (.int x1), some (.int x2), some (.int x3), some (.int x4), some (.int x5), some (.int x6)] [.int x5] (fm_mk S) r) : am_Ev d k_M_number 63 [some (.ref 231), some (.int x1), some (.int x2), some (.int x3), some (.int x4), some (.int x5), some (.int x6)] [] (fm_mk S) r := by
  refine fs_iload (j := 5) (by decide +kernel) rfl ?_
  exact nx
theorem b_M_number_65 {d : Nat} {x1 : Int32} {x2 : Int32} {x3 : Int32} {x4 : Int32} {x5 : Int32} {x6 : Int32} {sx0 : Int32} {S : fm_S} {r : Option Value × am_W} (nx : am_Ev d k_M_number 16 [some (.ref 231), some (.int x1), some (.int x2), some (.int x3), some (.int x4), some (.int sx0), some (.int (x6 + 1))] [] (fm_mk (fm_wI S 231 11 ((S.1 231 11) + 1))) r) : am_Ev d k_M_number 65 [some (.ref 231), some (.int x1), some (.int x2), some (.int x3), some (.int x4), some (.int x5), some (.int x6)] [.int sx0] (fm_mk S) r := by
  refine fs_istore (j := 5) (L' := [some (.ref 231), some (.int x1), some (.int x2), some (.int x3), some (.int x4), some (.int sx0), some (.int x6)]) (by decide +kernel) (Nat.le_of_ble_eq_true rfl) rfl ?_
  refine fs_iinc (j := 6) (n := 1) (v := 1) (L' := [some (.ref 231), some (.int x1), some (.int x2), some (.int x3), some (.int x4), some (.int sx0), some (.int (x6 + 1))]) (by decide +kernel) rfl (Nat.le_of_ble_eq_true rfl) (by decide) rfl ?_
  refine fs_aloadn (j := 0) (by decide +kernel) rfl ?_
  refine fs_dup (by decide +kernel) rfl ?_
  refine fe_getI (idx := 107) (t := 8) (f := 11) (fk := 0) (fin := 0) (wp := 956) (by decide +kernel) (by decide +kernel) (by decide +kernel) (by decide +kernel) ?_
  refine fs_iconst (n := 1) (v := 1) (by decide +kernel) (by decide) ?_
  refine fs_iadd (by decide +kernel) ?_
  refine fe_putI (idx := 107) (t := 8) (f := 11) (wp := 956) (by decide +kernel) (by decide +kernel) (by decide +kernel) (by decide +kernel) ?_
  refine fs_goto (off := -64) (tgt := 16) (by decide +kernel) (by decide) ?_
  exact nx
theorem b_M_number_83 {d : Nat} {x1 : Int32} {x2 : Int32} {x3 : Int32} {x4 : Int32} {x5 : Int32} {x6 : Int32} {v : Int32} {S1 : fm_S} {S : fm_S} {r : Option Value × am_W} (hc : am_Sp d k_M_in [.long x6.toInt64, .long 1, .long 2] (fm_mk S) (some (.int v)) (fm_mk S1)) (nx : am_Ev (d + 1) k_M_number 93 [some (.ref 231), some (.int x1), some (.int x2), some (.int x3), some (.int x4), some (.int x5), some (.int x6)] [.int v] (fm_mk S1) r) : am_Ev (d + 1) k_M_number 83 [some (.ref 231), some (.int x1), some (.int x2), some (.int x3), some (.int x4), some (.int x5), some (.int x6)] [] (fm_mk S) r := by
  refine fs_iload (j := 6) (by decide +kernel) rfl ?_
  refine fs_i2l (by decide +kernel) ?_
  refine fs_lconst (n := 1) (v := 1) (by decide +kernel) (by decide) ?_
  refine fs_ldc2 (idx := 124) (q := 1118) (v := 2) (by decide +kernel) (by decide +kernel) ?_
  exact fe_callS (idx := 67) (kd := 0) (n := 3) (wp := 1016) (q := (1017, 0)) (as := [.long x6.toInt64, .long 1, .long 2]) (rs := []) (by decide +kernel) (by decide +kernel) (by decide +kernel) (by decide) rfl (Nat.le_of_ble_eq_true rfl) rfl hc nx
theorem b_M_number_93 {d : Nat} {x1 : Int32} {x2 : Int32} {x3 : Int32} {x4 : Int32} {x5 : Int32} {x6 : Int32} {sx0 : Int32} {S : fm_S} {r : Option Value × am_W} (kt : sx0 = 0 → am_Ev d k_M_number 109 [some (.ref 231), some (.int x1), some (.int x2), some (.int x3), some (.int x4), some (.int x5), some (.int x6)] [] (fm_mk S) r) (kf : ¬ sx0 = 0 → am_Ev d k_M_number 96 [some (.ref 231), some (.int x1), some (.int x2), some (.int x3), some (.int x4), some (.int x5), some (.int x6)] [] (fm_mk S) r) : am_Ev d k_M_number 93 [some (.ref 231), some (.int x1), some (.int x2), some (.int x3), some (.int x4), some (.int x5), some (.int x6)] [.int sx0] (fm_mk S) r := by
  exact fs_ifeq (off := 16) (tgt := 109) (by decide +kernel) (by decide) kt kf
theorem b_M_number_96 {d : Nat} {x1 : Int32} {x2 : Int32} {x3 : Int32} {x4 : Int32} {x5 : Int32} {x6 : Int32} {v : Int32} {S1 : fm_S} {S : fm_S} {r : Option Value × am_W} (hc : am_Sp d k_M_in [.long x5.toInt64, .long x2.toInt64, .long x3.toInt64] (fm_mk S) (some (.int v)) (fm_mk S1)) (nx : am_Ev (d + 1) k_M_number 106 [some (.ref 231), some (.int x1), some (.int x2), some (.int x3), some (.int x4), some (.int x5), some (.int x6)] [.int v] (fm_mk S1) r) : am_Ev (d + 1) k_M_number 96 [some (.ref 231), some (.int x1), some (.int x2), some (.int x3), some (.int x4), some (.int x5), some (.int x6)] [] (fm_mk S) r := by
  refine fs_iload (j := 5) (by decide +kernel) rfl ?_
  refine fs_i2l (by decide +kernel) ?_
  refine fs_iloadn (j := 2) (by decide +kernel) rfl ?_
  refine fs_i2l (by decide +kernel) ?_
  refine fs_iloadn (j := 3) (by decide +kernel) rfl ?_
  refine fs_i2l (by decide +kernel) ?_
  exact fe_callS (idx := 67) (kd := 0) (n := 3) (wp := 1016) (q := (1017, 0)) (as := [.long x5.toInt64, .long x2.toInt64, .long x3.toInt64]) (rs := []) (by decide +kernel) (by decide +kernel) (by decide +kernel) (by decide) rfl (Nat.le_of_ble_eq_true rfl) rfl hc nx
theorem b_M_number_106 {d : Nat} {x1 : Int32} {x2 : Int32} {x3 : Int32} {x4 : Int32} {x5 : Int32} {x6 : Int32} {sx0 : Int32} {S : fm_S} {r : Option Value × am_W} (kt : ¬ sx0 = 0 → am_Ev d k_M_number 116 [some (.ref 231), some (.int x1), some (.int x2), some (.int x3), some (.int x4), some (.int x5), some (.int x6)] [] (fm_mk S) r) (kf : sx0 = 0 → am_Ev d k_M_number 109 [some (.ref 231), some (.int x1), some (.int x2), some (.int x3), some (.int x4), some (.int x5), some (.int x6)] [] (fm_mk S) r) : am_Ev d k_M_number 106 [some (.ref 231), some (.int x1), some (.int x2), some (.int x3), some (.int x4), some (.int x5), some (.int x6)] [.int sx0] (fm_mk S) r := by
  exact fs_ifne (off := 10) (tgt := 116) (by decide +kernel) (by decide) kt kf
theorem b_M_number_109 {d : Nat} {x1 : Int32} {x2 : Int32} {x3 : Int32} {x4 : Int32} {x5 : Int32} {x6 : Int32} {v : Int32} {S1 : fm_S} {S : fm_S} {r : Option Value × am_W} (hc : am_Sp d k_M_fails [.ref 231, .int x4] (fm_mk S) (some (.int v)) (fm_mk S1)) (nx : am_Ev (d + 1) k_M_number 115 [some (.ref 231), some (.int x1), some (.int x2), some (.int x3), some (.int x4), some (.int x5), some (.int x6)] [.int v] (fm_mk S1) r) : am_Ev (d + 1) k_M_number 109 [some (.ref 231), some (.int x1), some (.int x2), some (.int x3), some (.int x4), some (.int x5), some (.int x6)] [] (fm_mk S) r := by
  refine fs_aloadn (j := 0) (by decide +kernel) rfl ?_
  refine fs_iload (j := 4) (by decide +kernel) rfl ?_
  exact fe_callV (t := 8) (idx := 126) (n := 1) (wp := 1100) (q := (1102, 38)) (as := [.int x4]) (rs := []) (by decide +kernel) (by decide +kernel) (by decide +kernel) (by decide +kernel) rfl (Nat.le_of_ble_eq_true rfl) rfl hc nx
theorem b_M_number_115 {d : Nat} {x1 : Int32} {x2 : Int32} {x3 : Int32} {x4 : Int32} {x5 : Int32} {x6 : Int32} {sx0 : Int32} {S : fm_S}  (hz : sx0 = 0 ∨ sx0 = 1) : am_Ev d k_M_number 115 [some (.ref 231), some (.int x1), some (.int x2), some (.int x3), some (.int x4), some (.int x5), some (.int x6)] [.int sx0] (fm_mk S) (some (.int sx0), fm_mk S) := by
  exact fe_retZ (by decide +kernel) (by decide +kernel) hz
theorem b_M_number_116 {d : Nat} {x1 : Int32} {x2 : Int32} {x3 : Int32} {x4 : Int32} {x5 : Int32} {x6 : Int32} {S : fm_S}  (hi0 : vp_in x1 3) : am_Ev d k_M_number 116 [some (.ref 231), some (.int x1), some (.int x2), some (.int x3), some (.int x4), some (.int x5), some (.int x6)] [] (fm_mk S) (some (.int 1), fm_mk (fm_wI S 237 x1.toNatClampNeg x5)) := by
  refine fs_aloadn (j := 0) (by decide +kernel) rfl ?_
  refine fe_getR (idx := 25) (t := 8) (f := 13) (fk := 2) (fin := 1) (wp := 958) (x := 237) (by decide +kernel) (by decide +kernel) (by decide +kernel) (by decide +kernel) (by decide +kernel) ?_
  refine fs_iloadn (j := 1) (by decide +kernel) rfl ?_
  refine fs_iload (j := 5) (by decide +kernel) rfl ?_
  refine fx_iast (n := x1.toNatClampNeg) (len := 3) (by decide +kernel) (by decide +kernel) (by decide +kernel) hi0 rfl ?_
  refine fs_iconst (n := 1) (v := 1) (by decide +kernel) (by decide) ?_
  exact fe_retZ (by decide +kernel) (by decide +kernel) (by decide)
-- KitchenSiegeModel.laneItem()Z
theorem b_M_laneItem_0 {d : Nat} {o1 : Option Value} {v : Int32} {S1 : fm_S} {S : fm_S} {r : Option Value × am_W} (hc : am_Sp d k_M_number [.ref 231, .int 0, .int 0, .int ((S.1 233 0) - 1)] (fm_mk S) (some (.int v)) (fm_mk S1)) (nx : am_Ev (d + 1) k_M_laneItem 14 [some (.ref 231), o1] [.int v] (fm_mk S1) r) : am_Ev (d + 1) k_M_laneItem 0 [some (.ref 231), o1] [] (fm_mk S) r := by
  refine fs_aloadn (j := 0) (by decide +kernel) rfl ?_
  refine fs_iconst (n := 0) (v := 0) (by decide +kernel) (by decide) ?_
  refine fs_iconst (n := 0) (v := 0) (by decide +kernel) (by decide) ?_
  refine fs_aloadn (j := 0) (by decide +kernel) rfl ?_
  refine fe_getR (idx := 13) (t := 8) (f := 1) (fk := 2) (fin := 1) (wp := 946) (x := 233) (by decide +kernel) (by decide +kernel) (by decide +kernel) (by decide +kernel) (by decide +kernel) ?_
  refine fs_iconst (n := 0) (v := 0) (by decide +kernel) (by decide) ?_
  refine fx_iald (n := 0) (len := 373) (by decide +kernel) (by decide +kernel) (by decide +kernel) (vp_c (by decide) (by decide)) (by decide) ?_
  refine fs_iconst (n := 1) (v := 1) (by decide +kernel) (by decide) ?_
  refine fs_isub (by decide +kernel) ?_
  exact fe_callV (t := 8) (idx := 151) (n := 3) (wp := 1112) (q := (1114, 41)) (as := [.int 0, .int 0, .int ((S.1 233 0) - 1)]) (rs := []) (by decide +kernel) (by decide +kernel) (by decide +kernel) (by decide +kernel) rfl (Nat.le_of_ble_eq_true rfl) rfl hc nx
theorem b_M_laneItem_14 {d : Nat} {o1 : Option Value} {sx0 : Int32} {S : fm_S} {r : Option Value × am_W} (kt : ¬ sx0 = 0 → am_Ev d k_M_laneItem 19 [some (.ref 231), o1] [] (fm_mk S) r) (kf : sx0 = 0 → am_Ev d k_M_laneItem 17 [some (.ref 231), o1] [] (fm_mk S) r) : am_Ev d k_M_laneItem 14 [some (.ref 231), o1] [.int sx0] (fm_mk S) r := by
  exact fs_ifne (off := 5) (tgt := 19) (by decide +kernel) (by decide) kt kf
theorem b_M_laneItem_17 {d : Nat} {o1 : Option Value} {S : fm_S}  : am_Ev d k_M_laneItem 17 [some (.ref 231), o1] [] (fm_mk S) (some (.int 0), fm_mk S) := by
  refine fs_iconst (n := 0) (v := 0) (by decide +kernel) (by decide) ?_
  exact fe_retZ (by decide +kernel) (by decide +kernel) (by decide)
theorem b_M_laneItem_19 {d : Nat} {o1 : Option Value} {S1 : fm_S} {S : fm_S} {r : Option Value × am_W} (hc : am_Sp d k_M_skip [.ref 231] (fm_mk S) (none) (fm_mk S1)) (nx : am_Ev (d + 1) k_M_laneItem 23 [some (.ref 231), o1] [] (fm_mk S1) r) : am_Ev (d + 1) k_M_laneItem 19 [some (.ref 231), o1] [] (fm_mk S) r := by
  refine fs_aloadn (j := 0) (by decide +kernel) rfl ?_
  exact fe_callV (t := 8) (idx := 117) (n := 0) (wp := 1080) (q := (1082, 36)) (as := []) (rs := []) (by decide +kernel) (by decide +kernel) (by decide +kernel) (by decide +kernel) rfl (Nat.le_of_ble_eq_true rfl) rfl hc nx
theorem b_M_laneItem_23 {d : Nat} {o1 : Option Value} {v : Int32} {S1 : fm_S} {S : fm_S} {r : Option Value × am_W} (hc : am_Sp d k_M_number [.ref 231, .int 1, .int 0, .int ((S.1 233 0) - 1)] (fm_mk S) (some (.int v)) (fm_mk S1)) (nx : am_Ev (d + 1) k_M_laneItem 42 [some (.ref 231), some (.int (S.1 231 11))] [.int v] (fm_mk S1) r) : am_Ev (d + 1) k_M_laneItem 23 [some (.ref 231), o1] [] (fm_mk S) r := by
  refine fs_aloadn (j := 0) (by decide +kernel) rfl ?_
  refine fe_getI (idx := 107) (t := 8) (f := 11) (fk := 0) (fin := 0) (wp := 956) (by decide +kernel) (by decide +kernel) (by decide +kernel) (by decide +kernel) ?_
  refine fs_istoren (j := 1) (L' := [some (.ref 231), some (.int (S.1 231 11))]) (by decide +kernel) (Nat.le_of_ble_eq_true rfl) rfl ?_
  refine fs_aloadn (j := 0) (by decide +kernel) rfl ?_
  refine fs_iconst (n := 1) (v := 1) (by decide +kernel) (by decide) ?_
  refine fs_iconst (n := 0) (v := 0) (by decide +kernel) (by decide) ?_
  refine fs_aloadn (j := 0) (by decide +kernel) rfl ?_
  refine fe_getR (idx := 13) (t := 8) (f := 1) (fk := 2) (fin := 1) (wp := 946) (x := 233) (by decide +kernel) (by decide +kernel) (by decide +kernel) (by decide +kernel) (by decide +kernel) ?_
  refine fs_iconst (n := 0) (v := 0) (by decide +kernel) (by decide) ?_
  refine fx_iald (n := 0) (len := 373) (by decide +kernel) (by decide +kernel) (by decide +kernel) (vp_c (by decide) (by decide)) (by decide) ?_
  refine fs_iconst (n := 1) (v := 1) (by decide +kernel) (by decide) ?_
  refine fs_isub (by decide +kernel) ?_
  exact fe_callV (t := 8) (idx := 151) (n := 3) (wp := 1112) (q := (1114, 41)) (as := [.int 1, .int 0, .int ((S.1 233 0) - 1)]) (rs := []) (by decide +kernel) (by decide +kernel) (by decide +kernel) (by decide +kernel) rfl (Nat.le_of_ble_eq_true rfl) rfl hc nx
theorem b_M_laneItem_42 {d : Nat} {x1 : Int32} {sx0 : Int32} {S : fm_S} {r : Option Value × am_W} (kt : ¬ sx0 = 0 → am_Ev d k_M_laneItem 47 [some (.ref 231), some (.int x1)] [] (fm_mk S) r) (kf : sx0 = 0 → am_Ev d k_M_laneItem 45 [some (.ref 231), some (.int x1)] [] (fm_mk S) r) : am_Ev d k_M_laneItem 42 [some (.ref 231), some (.int x1)] [.int sx0] (fm_mk S) r := by
  exact fs_ifne (off := 5) (tgt := 47) (by decide +kernel) (by decide) kt kf
theorem b_M_laneItem_45 {d : Nat} {x1 : Int32} {S : fm_S}  : am_Ev d k_M_laneItem 45 [some (.ref 231), some (.int x1)] [] (fm_mk S) (some (.int 0), fm_mk S) := by
  refine fs_iconst (n := 0) (v := 0) (by decide +kernel) (by decide) ?_
  exact fe_retZ (by decide +kernel) (by decide +kernel) (by decide)
theorem b_M_laneItem_47 {d : Nat} {x1 : Int32} {S : fm_S} {r : Option Value × am_W} (kt : ¬ (S.1 237 0) = (S.1 237 1) → am_Ev d k_M_laneItem 68 [some (.ref 231), some (.int x1)] [] (fm_mk S) r) (kf : (S.1 237 0) = (S.1 237 1) → am_Ev d k_M_laneItem 62 [some (.ref 231), some (.int x1)] [] (fm_mk S) r) : am_Ev d k_M_laneItem 47 [some (.ref 231), some (.int x1)] [] (fm_mk S) r := by
  refine fs_aloadn (j := 0) (by decide +kernel) rfl ?_
  refine fe_getR (idx := 25) (t := 8) (f := 13) (fk := 2) (fin := 1) (wp := 958) (x := 237) (by decide +kernel) (by decide +kernel) (by decide +kernel) (by decide +kernel) (by decide +kernel) ?_
  refine fs_iconst (n := 0) (v := 0) (by decide +kernel) (by decide) ?_
  refine fx_iald (n := 0) (len := 3) (by decide +kernel) (by decide +kernel) (by decide +kernel) (vp_c (by decide) (by decide)) (by decide) ?_
  refine fs_aloadn (j := 0) (by decide +kernel) rfl ?_
  refine fe_getR (idx := 25) (t := 8) (f := 13) (fk := 2) (fin := 1) (wp := 958) (x := 237) (by decide +kernel) (by decide +kernel) (by decide +kernel) (by decide +kernel) (by decide +kernel) ?_
  refine fs_iconst (n := 1) (v := 1) (by decide +kernel) (by decide) ?_
  refine fx_iald (n := 1) (len := 3) (by decide +kernel) (by decide +kernel) (by decide +kernel) (vp_c (by decide) (by decide)) (by decide) ?_
  exact fs_icne (off := 9) (tgt := 68) (by decide +kernel) (by decide) kt kf
theorem b_M_laneItem_62 {d : Nat} {x1 : Int32} {v : Int32} {S1 : fm_S} {S : fm_S} {r : Option Value × am_W} (hc : am_Sp d k_M_fails [.ref 231, .int x1] (fm_mk S) (some (.int v)) (fm_mk S1)) (nx : am_Ev (d + 1) k_M_laneItem 67 [some (.ref 231), some (.int x1)] [.int v] (fm_mk S1) r) : am_Ev (d + 1) k_M_laneItem 62 [some (.ref 231), some (.int x1)] [] (fm_mk S) r := by
  refine fs_aloadn (j := 0) (by decide +kernel) rfl ?_
  refine fs_iloadn (j := 1) (by decide +kernel) rfl ?_
  exact fe_callV (t := 8) (idx := 126) (n := 1) (wp := 1100) (q := (1102, 38)) (as := [.int x1]) (rs := []) (by decide +kernel) (by decide +kernel) (by decide +kernel) (by decide +kernel) rfl (Nat.le_of_ble_eq_true rfl) rfl hc nx
theorem b_M_laneItem_67 {d : Nat} {x1 : Int32} {sx0 : Int32} {S : fm_S}  (hz : sx0 = 0 ∨ sx0 = 1) : am_Ev d k_M_laneItem 67 [some (.ref 231), some (.int x1)] [.int sx0] (fm_mk S) (some (.int sx0), fm_mk S) := by
  exact fe_retZ (by decide +kernel) (by decide +kernel) hz
theorem b_M_laneItem_68 {d : Nat} {x1 : Int32} {v : Int32} {S1 : fm_S} {S : fm_S} {r : Option Value × am_W} (hc : am_Sp d k_M_ends [.ref 231] (fm_mk S) (some (.int v)) (fm_mk S1)) (nx : am_Ev (d + 1) k_M_laneItem 72 [some (.ref 231), some (.int x1)] [.int v] (fm_mk S1) r) : am_Ev (d + 1) k_M_laneItem 68 [some (.ref 231), some (.int x1)] [] (fm_mk S) r := by
  refine fs_aloadn (j := 0) (by decide +kernel) rfl ?_
  exact fe_callV (t := 8) (idx := 155) (n := 0) (wp := 1108) (q := (1110, 40)) (as := []) (rs := []) (by decide +kernel) (by decide +kernel) (by decide +kernel) (by decide +kernel) rfl (Nat.le_of_ble_eq_true rfl) rfl hc nx
theorem b_M_laneItem_72 {d : Nat} {x1 : Int32} {sx0 : Int32} {S : fm_S} {r : Option Value × am_W} (kt : ¬ sx0 = 0 → am_Ev d k_M_laneItem 77 [some (.ref 231), some (.int x1)] [] (fm_mk S) r) (kf : sx0 = 0 → am_Ev d k_M_laneItem 75 [some (.ref 231), some (.int x1)] [] (fm_mk S) r) : am_Ev d k_M_laneItem 72 [some (.ref 231), some (.int x1)] [.int sx0] (fm_mk S) r := by
  exact fs_ifne (off := 5) (tgt := 77) (by decide +kernel) (by decide) kt kf
theorem b_M_laneItem_75 {d : Nat} {x1 : Int32} {S : fm_S}  : am_Ev d k_M_laneItem 75 [some (.ref 231), some (.int x1)] [] (fm_mk S) (some (.int 0), fm_mk S) := by
  refine fs_iconst (n := 0) (v := 0) (by decide +kernel) (by decide) ?_
  exact fe_retZ (by decide +kernel) (by decide +kernel) (by decide)
theorem b_M_laneItem_77 {d : Nat} {x1 : Int32} {S1 : fm_S} {S : fm_S} {r : Option Value × am_W} (hc : am_Sp d k_M_addLane [.ref 233, .int (S.1 237 0), .int (S.1 237 1)] (fm_mk S) (none) (fm_mk S1)) (nx : am_Ev (d + 1) k_M_laneItem 96 [some (.ref 231), some (.int x1)] [] (fm_mk S1) r) : am_Ev (d + 1) k_M_laneItem 77 [some (.ref 231), some (.int x1)] [] (fm_mk S) r := by
  refine fs_aloadn (j := 0) (by decide +kernel) rfl ?_
  refine fe_getR (idx := 13) (t := 8) (f := 1) (fk := 2) (fin := 1) (wp := 946) (x := 233) (by decide +kernel) (by decide +kernel) (by decide +kernel) (by decide +kernel) (by decide +kernel) ?_
  refine fs_aloadn (j := 0) (by decide +kernel) rfl ?_
  refine fe_getR (idx := 25) (t := 8) (f := 13) (fk := 2) (fin := 1) (wp := 958) (x := 237) (by decide +kernel) (by decide +kernel) (by decide +kernel) (by decide +kernel) (by decide +kernel) ?_
  refine fs_iconst (n := 0) (v := 0) (by decide +kernel) (by decide) ?_
  refine fx_iald (n := 0) (len := 3) (by decide +kernel) (by decide +kernel) (by decide +kernel) (vp_c (by decide) (by decide)) (by decide) ?_
  refine fs_aloadn (j := 0) (by decide +kernel) rfl ?_
  refine fe_getR (idx := 25) (t := 8) (f := 13) (fk := 2) (fin := 1) (wp := 958) (x := 237) (by decide +kernel) (by decide +kernel) (by decide +kernel) (by decide +kernel) (by decide +kernel) ?_
  refine fs_iconst (n := 1) (v := 1) (by decide +kernel) (by decide) ?_
  refine fx_iald (n := 1) (len := 3) (by decide +kernel) (by decide +kernel) (by decide +kernel) (vp_c (by decide) (by decide)) (by decide) ?_
  exact fe_callS (idx := 91) (kd := 0) (n := 3) (wp := 1043) (q := (1044, 0)) (as := [.ref 233, .int (S.1 237 0), .int (S.1 237 1)]) (rs := []) (by decide +kernel) (by decide +kernel) (by decide +kernel) (by decide) rfl (Nat.le_of_ble_eq_true rfl) rfl hc nx
theorem b_M_laneItem_96 {d : Nat} {x1 : Int32} {S : fm_S}  : am_Ev d k_M_laneItem 96 [some (.ref 231), some (.int x1)] [] (fm_mk S) (some (.int 1), fm_mk S) := by
  refine fs_iconst (n := 1) (v := 1) (by decide +kernel) (by decide) ?_
  exact fe_retZ (by decide +kernel) (by decide +kernel) (by decide)
-- KitchenSiegeModel.day(I)I
theorem b_M_day_0 {d : Nat} {x1 : Int32} {o2 : Option Value} {S : fm_S} {r : Option Value × am_W} (kt : x1 = (-1) → am_Ev d k_M_day 18 [some (.ref 231), some (.int x1), o2] [] (fm_mk S) r) (kf : ¬ x1 = (-1) → am_Ev d k_M_day 5 [some (.ref 231), some (.int x1), o2] [] (fm_mk S) r) : am_Ev d k_M_day 0 [some (.ref 231), some (.int x1), o2] [] (fm_mk S) r := by
  refine fs_iloadn (j := 1) (by decide +kernel) rfl ?_
  refine fs_iconst (n := -1) (v := (-1)) (by decide +kernel) (by decide) ?_
  exact fs_iceq (off := 16) (tgt := 18) (by decide +kernel) (by decide) kt kf
theorem b_M_day_5 {d : Nat} {x1 : Int32} {o2 : Option Value} {v : Int32} {S1 : fm_S} {S : fm_S} {r : Option Value × am_W} (hc : am_Sp d k_M_isDish [.ref 231, .int x1] (fm_mk S) (some (.int v)) (fm_mk S1)) (nx : am_Ev (d + 1) k_M_day 10 [some (.ref 231), some (.int x1), o2] [.int v] (fm_mk S1) r) : am_Ev (d + 1) k_M_day 5 [some (.ref 231), some (.int x1), o2] [] (fm_mk S) r := by
  refine fs_aloadn (j := 0) (by decide +kernel) rfl ?_
  refine fs_iloadn (j := 1) (by decide +kernel) rfl ?_
  exact fe_callV (t := 8) (idx := 172) (n := 1) (wp := 1127) (q := (1129, 43)) (as := [.int x1]) (rs := []) (by decide +kernel) (by decide +kernel) (by decide +kernel) (by decide +kernel) rfl (Nat.le_of_ble_eq_true rfl) rfl hc nx
theorem b_M_day_10 {d : Nat} {x1 : Int32} {o2 : Option Value} {sx0 : Int32} {S : fm_S} {r : Option Value × am_W} (kt : ¬ sx0 = 0 → am_Ev d k_M_day 18 [some (.ref 231), some (.int x1), o2] [] (fm_mk S) r) (kf : sx0 = 0 → am_Ev d k_M_day 13 [some (.ref 231), some (.int x1), o2] [] (fm_mk S) r) : am_Ev d k_M_day 10 [some (.ref 231), some (.int x1), o2] [.int sx0] (fm_mk S) r := by
  exact fs_ifne (off := 8) (tgt := 18) (by decide +kernel) (by decide) kt kf
theorem b_M_day_13 {d : Nat} {x1 : Int32} {o2 : Option Value} {v : Int32} {S1 : fm_S} {S : fm_S} {r : Option Value × am_W} (hc : am_Sp d k_M_bad [.ref 231] (fm_mk S) (some (.int v)) (fm_mk S1)) (nx : am_Ev (d + 1) k_M_day 17 [some (.ref 231), some (.int x1), o2] [.int v] (fm_mk S1) r) : am_Ev (d + 1) k_M_day 13 [some (.ref 231), some (.int x1), o2] [] (fm_mk S) r := by
  refine fs_aloadn (j := 0) (by decide +kernel) rfl ?_
  exact fe_callV (t := 8) (idx := 73) (n := 0) (wp := 1020) (q := (1022, 31)) (as := []) (rs := []) (by decide +kernel) (by decide +kernel) (by decide +kernel) (by decide +kernel) rfl (Nat.le_of_ble_eq_true rfl) rfl hc nx
theorem b_M_day_17 {d : Nat} {x1 : Int32} {o2 : Option Value} {sx0 : Int32} {S : fm_S}  : am_Ev d k_M_day 17 [some (.ref 231), some (.int x1), o2] [.int sx0] (fm_mk S) (some (.int sx0), fm_mk S) := by
  exact fe_retI (by decide +kernel) (by decide +kernel)
theorem b_M_day_18 {d : Nat} {x1 : Int32} {o2 : Option Value} {S : fm_S} {r : Option Value × am_W} (kt : ¬ (S.1 232 3) = 8 → am_Ev d k_M_day 74 [some (.ref 231), some (.int x1), o2] [] (fm_mk S) r) (kf : (S.1 232 3) = 8 → am_Ev d k_M_day 29 [some (.ref 231), some (.int x1), o2] [] (fm_mk S) r) : am_Ev d k_M_day 18 [some (.ref 231), some (.int x1), o2] [] (fm_mk S) r := by
  refine fs_aloadn (j := 0) (by decide +kernel) rfl ?_
  refine fe_getR (idx := 7) (t := 8) (f := 0) (fk := 2) (fin := 1) (wp := 945) (x := 232) (by decide +kernel) (by decide +kernel) (by decide +kernel) (by decide +kernel) (by decide +kernel) ?_
  refine fs_iconst (n := 3) (v := 3) (by decide +kernel) (by decide) ?_
  refine fx_iald (n := 3) (len := 373) (by decide +kernel) (by decide +kernel) (by decide +kernel) (vp_c (by decide) (by decide)) (by decide) ?_
  refine fs_bipush (n := 8) (v := 8) (by decide +kernel) (by decide) ?_
  exact fs_icne (off := 48) (tgt := 74) (by decide +kernel) (by decide) kt kf
theorem b_M_day_29 {d : Nat} {x1 : Int32} {o2 : Option Value} {S : fm_S} {r : Option Value × am_W} (nx : am_Ev d k_M_day 31 [some (.ref 231), some (.int x1), some (.int 0)] [] (fm_mk S) r) : am_Ev d k_M_day 29 [some (.ref 231), some (.int x1), o2] [] (fm_mk S) r := by
  refine fs_iconst (n := 0) (v := 0) (by decide +kernel) (by decide) ?_
  refine fs_istoren (j := 2) (L' := [some (.ref 231), some (.int x1), some (.int 0)]) (by decide +kernel) (Nat.le_of_ble_eq_true rfl) rfl ?_
  exact nx
theorem b_M_day_31 {d : Nat} {x1 : Int32} {x2 : Int32} {S : fm_S} {r : Option Value × am_W} (kt : 175 ≤ x2 → am_Ev d k_M_day 64 [some (.ref 231), some (.int x1), some (.int x2)] [] (fm_mk S) r) (kf : ¬ 175 ≤ x2 → am_Ev d k_M_day 38 [some (.ref 231), some (.int x1), some (.int x2)] [] (fm_mk S) r) : am_Ev d k_M_day 31 [some (.ref 231), some (.int x1), some (.int x2)] [] (fm_mk S) r := by
  refine fs_iloadn (j := 2) (by decide +kernel) rfl ?_
  refine fs_sipush (n := 175) (v := 175) (by decide +kernel) (by decide) ?_
  exact fs_icge (off := 29) (tgt := 64) (by decide +kernel) (by decide) kt kf
theorem b_M_day_38 {d : Nat} {x1 : Int32} {x2 : Int32} {S : fm_S} {r : Option Value × am_W} (hi0 : vp_in (198 + x2) 373) (hi1 : vp_in (173 + x2) 373) (nx : am_Ev d k_M_day 31 [some (.ref 231), some (.int x1), some (.int (x2 + 1))] [] (fm_mk (fm_wI S 232 ((173 + x2).toNatClampNeg) (S.1 232 ((198 + x2).toNatClampNeg)))) r) : am_Ev d k_M_day 38 [some (.ref 231), some (.int x1), some (.int x2)] [] (fm_mk S) r := by
  refine fs_aloadn (j := 0) (by decide +kernel) rfl ?_
  refine fe_getR (idx := 7) (t := 8) (f := 0) (fk := 2) (fin := 1) (wp := 945) (x := 232) (by decide +kernel) (by decide +kernel) (by decide +kernel) (by decide +kernel) (by decide +kernel) ?_
  refine fs_sipush (n := 173) (v := 173) (by decide +kernel) (by decide) ?_
  refine fs_iloadn (j := 2) (by decide +kernel) rfl ?_
  refine fs_iadd (by decide +kernel) ?_
  refine fs_aloadn (j := 0) (by decide +kernel) rfl ?_
  refine fe_getR (idx := 7) (t := 8) (f := 0) (fk := 2) (fin := 1) (wp := 945) (x := 232) (by decide +kernel) (by decide +kernel) (by decide +kernel) (by decide +kernel) (by decide +kernel) ?_
  refine fs_sipush (n := 198) (v := 198) (by decide +kernel) (by decide) ?_
  refine fs_iloadn (j := 2) (by decide +kernel) rfl ?_
  refine fs_iadd (by decide +kernel) ?_
  refine fx_iald (n := (198 + x2).toNatClampNeg) (len := 373) (by decide +kernel) (by decide +kernel) (by decide +kernel) hi0 rfl ?_
  refine fx_iast (n := (173 + x2).toNatClampNeg) (len := 373) (by decide +kernel) (by decide +kernel) (by decide +kernel) hi1 rfl ?_
  refine fs_iinc (j := 2) (n := 1) (v := 1) (L' := [some (.ref 231), some (.int x1), some (.int (x2 + 1))]) (by decide +kernel) rfl (Nat.le_of_ble_eq_true rfl) (by decide) rfl ?_
  refine fs_goto (off := -30) (tgt := 31) (by decide +kernel) (by decide) ?_
  exact nx
theorem b_M_day_64 {d : Nat} {x1 : Int32} {x2 : Int32} {S : fm_S} {r : Option Value × am_W} (nx : am_Ev d k_M_day 74 [some (.ref 231), some (.int x1), some (.int x2)] [] (fm_mk (fm_wI S 232 3 ((S.1 232 3) - 1))) r) : am_Ev d k_M_day 64 [some (.ref 231), some (.int x1), some (.int x2)] [] (fm_mk S) r := by
  refine fs_aloadn (j := 0) (by decide +kernel) rfl ?_
  refine fe_getR (idx := 7) (t := 8) (f := 0) (fk := 2) (fin := 1) (wp := 945) (x := 232) (by decide +kernel) (by decide +kernel) (by decide +kernel) (by decide +kernel) (by decide +kernel) ?_
  refine fs_iconst (n := 3) (v := 3) (by decide +kernel) (by decide) ?_
  refine fs_dup2 (by decide +kernel) ⟨rfl, rfl⟩ ?_
  refine fx_iald (n := 3) (len := 373) (by decide +kernel) (by decide +kernel) (by decide +kernel) (vp_c (by decide) (by decide)) (by decide) ?_
  refine fs_iconst (n := 1) (v := 1) (by decide +kernel) (by decide) ?_
  refine fs_isub (by decide +kernel) ?_
  refine fx_iast (n := 3) (len := 373) (by decide +kernel) (by decide +kernel) (by decide +kernel) (vp_c (by decide) (by decide)) (by decide) ?_
  exact nx
theorem b_M_day_74 {d : Nat} {x1 : Int32} {o2 : Option Value} {S1 : fm_S} {S : fm_S} {r : Option Value × am_W} (hc : am_Sp d k_M_past [.ref 232, .ref 232, .int (173 + (25 * (S.1 232 3))), .int 0] (fm_mk S) (none) (fm_mk S1)) (nx : am_Ev (d + 1) k_M_day 99 [some (.ref 231), some (.int x1), o2] [] (fm_mk S1) r) : am_Ev (d + 1) k_M_day 74 [some (.ref 231), some (.int x1), o2] [] (fm_mk S) r := by
  refine fs_aloadn (j := 0) (by decide +kernel) rfl ?_
  refine fe_getR (idx := 7) (t := 8) (f := 0) (fk := 2) (fin := 1) (wp := 945) (x := 232) (by decide +kernel) (by decide +kernel) (by decide +kernel) (by decide +kernel) (by decide +kernel) ?_
  refine fs_aloadn (j := 0) (by decide +kernel) rfl ?_
  refine fe_getR (idx := 7) (t := 8) (f := 0) (fk := 2) (fin := 1) (wp := 945) (x := 232) (by decide +kernel) (by decide +kernel) (by decide +kernel) (by decide +kernel) (by decide +kernel) ?_
  refine fs_sipush (n := 173) (v := 173) (by decide +kernel) (by decide) ?_
  refine fs_bipush (n := 25) (v := 25) (by decide +kernel) (by decide) ?_
  refine fs_aloadn (j := 0) (by decide +kernel) rfl ?_
  refine fe_getR (idx := 7) (t := 8) (f := 0) (fk := 2) (fin := 1) (wp := 945) (x := 232) (by decide +kernel) (by decide +kernel) (by decide +kernel) (by decide +kernel) (by decide +kernel) ?_
  refine fs_iconst (n := 3) (v := 3) (by decide +kernel) (by decide) ?_
  refine fx_iald (n := 3) (len := 373) (by decide +kernel) (by decide +kernel) (by decide +kernel) (vp_c (by decide) (by decide)) (by decide) ?_
  refine fs_imul (by decide +kernel) ?_
  refine fs_iadd (by decide +kernel) ?_
  refine fs_iconst (n := 0) (v := 0) (by decide +kernel) (by decide) ?_
  exact fe_callS (idx := 194) (kd := 0) (n := 4) (wp := 1131) (q := (1132, 0)) (as := [.ref 232, .ref 232, .int (173 + (25 * (S.1 232 3))), .int 0]) (rs := []) (by decide +kernel) (by decide +kernel) (by decide +kernel) (by decide) rfl (Nat.le_of_ble_eq_true rfl) rfl hc nx
theorem b_M_day_99 {d : Nat} {x1 : Int32} {o2 : Option Value} {v : Int32} {S1 : fm_S} {S : fm_S} {r : Option Value × am_W} (hc : am_Sp d k_M_goDay [.ref 231, .int x1] (fm_mk (fm_wI S 232 3 ((S.1 232 3) + 1))) (some (.int v)) (fm_mk S1)) (nx : am_Ev (d + 1) k_M_day 114 [some (.ref 231), some (.int x1), o2] [.int v] (fm_mk S1) r) : am_Ev (d + 1) k_M_day 99 [some (.ref 231), some (.int x1), o2] [] (fm_mk S) r := by
  refine fs_aloadn (j := 0) (by decide +kernel) rfl ?_
  refine fe_getR (idx := 7) (t := 8) (f := 0) (fk := 2) (fin := 1) (wp := 945) (x := 232) (by decide +kernel) (by decide +kernel) (by decide +kernel) (by decide +kernel) (by decide +kernel) ?_
  refine fs_iconst (n := 3) (v := 3) (by decide +kernel) (by decide) ?_
  refine fs_dup2 (by decide +kernel) ⟨rfl, rfl⟩ ?_
  refine fx_iald (n := 3) (len := 373) (by decide +kernel) (by decide +kernel) (by decide +kernel) (vp_c (by decide) (by decide)) (by decide) ?_
  refine fs_iconst (n := 1) (v := 1) (by decide +kernel) (by decide) ?_
  refine fs_iadd (by decide +kernel) ?_
  refine fx_iast (n := 3) (len := 373) (by decide +kernel) (by decide +kernel) (by decide +kernel) (vp_c (by decide) (by decide)) (by decide) ?_
  refine fs_aloadn (j := 0) (by decide +kernel) rfl ?_
  refine fs_iloadn (j := 1) (by decide +kernel) rfl ?_
  exact fe_callV (t := 8) (idx := 198) (n := 1) (wp := 1134) (q := (1136, 44)) (as := [.int x1]) (rs := []) (by decide +kernel) (by decide +kernel) (by decide +kernel) (by decide +kernel) rfl (Nat.le_of_ble_eq_true rfl) rfl hc nx
theorem b_M_day_114 {d : Nat} {x1 : Int32} {o2 : Option Value} {sx0 : Int32} {S : fm_S}  : am_Ev d k_M_day 114 [some (.ref 231), some (.int x1), o2] [.int sx0] (fm_mk S) (some (.int sx0), fm_mk S) := by
  exact fe_retI (by decide +kernel) (by decide +kernel)
-- KitchenSiegeModel.isDish(I)Z
theorem b_M_isDish_0 {d : Nat} {x1 : Int32} {v : Int32} {S1 : fm_S} {S : fm_S} {r : Option Value × am_W} (hc : am_Sp d k_M_in [.long x1.toInt64, .long 0, .long (((S.1 232 1) - 1).toInt64)] (fm_mk S) (some (.int v)) (fm_mk S1)) (nx : am_Ev (d + 1) k_M_isDish 15 [some (.ref 231), some (.int x1)] [.int v] (fm_mk S1) r) : am_Ev (d + 1) k_M_isDish 0 [some (.ref 231), some (.int x1)] [] (fm_mk S) r := by
  refine fs_iloadn (j := 1) (by decide +kernel) rfl ?_
  refine fs_i2l (by decide +kernel) ?_
  refine fs_lconst (n := 0) (v := 0) (by decide +kernel) (by decide) ?_
  refine fs_aloadn (j := 0) (by decide +kernel) rfl ?_
  refine fe_getR (idx := 7) (t := 8) (f := 0) (fk := 2) (fin := 1) (wp := 945) (x := 232) (by decide +kernel) (by decide +kernel) (by decide +kernel) (by decide +kernel) (by decide +kernel) ?_
  refine fs_iconst (n := 1) (v := 1) (by decide +kernel) (by decide) ?_
  refine fx_iald (n := 1) (len := 373) (by decide +kernel) (by decide +kernel) (by decide +kernel) (vp_c (by decide) (by decide)) (by decide) ?_
  refine fs_iconst (n := 1) (v := 1) (by decide +kernel) (by decide) ?_
  refine fs_isub (by decide +kernel) ?_
  refine fs_i2l (by decide +kernel) ?_
  exact fe_callS (idx := 67) (kd := 0) (n := 3) (wp := 1016) (q := (1017, 0)) (as := [.long x1.toInt64, .long 0, .long (((S.1 232 1) - 1).toInt64)]) (rs := []) (by decide +kernel) (by decide +kernel) (by decide +kernel) (by decide) rfl (Nat.le_of_ble_eq_true rfl) rfl hc nx
theorem b_M_isDish_15 {d : Nat} {x1 : Int32} {sx0 : Int32} {S : fm_S}  (hz : sx0 = 0 ∨ sx0 = 1) : am_Ev d k_M_isDish 15 [some (.ref 231), some (.int x1)] [.int sx0] (fm_mk S) (some (.int sx0), fm_mk S) := by
  exact fe_retZ (by decide +kernel) (by decide +kernel) hz
-- KitchenSiegeModel.past([I[IIZ)V
theorem b_M_past_0 {d : Nat} {a0 : Nat} {a1 : Nat} {x2 : Int32} {x3 : Int32} {o4 : Option Value} {o5 : Option Value} {S : fm_S} {r : Option Value × am_W} (nx : am_Ev d k_M_past 3 [some (.ref a0), some (.ref a1), some (.int x2), some (.int x3), some (.int 0), o5] [] (fm_mk S) r) : am_Ev d k_M_past 0 [some (.ref a0), some (.ref a1), some (.int x2), some (.int x3), o4, o5] [] (fm_mk S) r := by
  refine fs_iconst (n := 0) (v := 0) (by decide +kernel) (by decide) ?_
  refine fs_istore (j := 4) (L' := [some (.ref a0), some (.ref a1), some (.int x2), some (.int x3), some (.int 0), o5]) (by decide +kernel) (Nat.le_of_ble_eq_true rfl) rfl ?_
  exact nx
theorem b_M_past_3 {d : Nat} {a0 : Nat} {a1 : Nat} {x2 : Int32} {x3 : Int32} {x4 : Int32} {o5 : Option Value} {S : fm_S} {r : Option Value × am_W} (kt : 25 ≤ x4 → am_Ev d k_M_past 59 [some (.ref a0), some (.ref a1), some (.int x2), some (.int x3), some (.int x4), o5] [] (fm_mk S) r) (kf : ¬ 25 ≤ x4 → am_Ev d k_M_past 10 [some (.ref a0), some (.ref a1), some (.int x2), some (.int x3), some (.int x4), o5] [] (fm_mk S) r) : am_Ev d k_M_past 3 [some (.ref a0), some (.ref a1), some (.int x2), some (.int x3), some (.int x4), o5] [] (fm_mk S) r := by
  refine fs_iload (j := 4) (by decide +kernel) rfl ?_
  refine fs_bipush (n := 25) (v := 25) (by decide +kernel) (by decide) ?_
  exact fs_icge (off := 52) (tgt := 59) (by decide +kernel) (by decide) kt kf
theorem b_M_past_10 {d : Nat} {a0 : Nat} {a1 : Nat} {x2 : Int32} {x3 : Int32} {x4 : Int32} {o5 : Option Value} {S : fm_S} {r : Option Value × am_W} (kt : ¬ x4 = 0 → am_Ev d k_M_past 19 [some (.ref a0), some (.ref a1), some (.int x2), some (.int x3), some (.int x4), o5] [] (fm_mk S) r) (kf : x4 = 0 → am_Ev d k_M_past 15 [some (.ref a0), some (.ref a1), some (.int x2), some (.int x3), some (.int x4), o5] [] (fm_mk S) r) : am_Ev d k_M_past 10 [some (.ref a0), some (.ref a1), some (.int x2), some (.int x3), some (.int x4), o5] [] (fm_mk S) r := by
  refine fs_iload (j := 4) (by decide +kernel) rfl ?_
  exact fs_ifne (off := 7) (tgt := 19) (by decide +kernel) (by decide) kt kf
theorem b_M_past_15 {d : Nat} {a0 : Nat} {a1 : Nat} {x2 : Int32} {x3 : Int32} {x4 : Int32} {o5 : Option Value} {S : fm_S} {r : Option Value × am_W} (nx : am_Ev d k_M_past 24 [some (.ref a0), some (.ref a1), some (.int x2), some (.int x3), some (.int x4), o5] [.int 4] (fm_mk S) r) : am_Ev d k_M_past 15 [some (.ref a0), some (.ref a1), some (.int x2), some (.int x3), some (.int x4), o5] [] (fm_mk S) r := by
  refine fs_iconst (n := 4) (v := 4) (by decide +kernel) (by decide) ?_
  refine fs_goto (off := 8) (tgt := 24) (by decide +kernel) (by decide) ?_
  exact nx
theorem b_M_past_19 {d : Nat} {a0 : Nat} {a1 : Nat} {x2 : Int32} {x3 : Int32} {x4 : Int32} {o5 : Option Value} {S : fm_S} {r : Option Value × am_W} (nx : am_Ev d k_M_past 24 [some (.ref a0), some (.ref a1), some (.int x2), some (.int x3), some (.int x4), o5] [.int (28 + x4)] (fm_mk S) r) : am_Ev d k_M_past 19 [some (.ref a0), some (.ref a1), some (.int x2), some (.int x3), some (.int x4), o5] [] (fm_mk S) r := by
  refine fs_bipush (n := 28) (v := 28) (by decide +kernel) (by decide) ?_
  refine fs_iload (j := 4) (by decide +kernel) rfl ?_
  refine fs_iadd (by decide +kernel) ?_
  exact nx
theorem b_M_past_24 {d : Nat} {a0 : Nat} {a1 : Nat} {x2 : Int32} {x3 : Int32} {x4 : Int32} {o5 : Option Value} {sx0 : Int32} {S : fm_S} {r : Option Value × am_W} (kt : x3 = 0 → am_Ev d k_M_past 43 [some (.ref a0), some (.ref a1), some (.int x2), some (.int x3), some (.int x4), some (.int sx0)] [] (fm_mk S) r) (kf : ¬ x3 = 0 → am_Ev d k_M_past 30 [some (.ref a0), some (.ref a1), some (.int x2), some (.int x3), some (.int x4), some (.int sx0)] [] (fm_mk S) r) : am_Ev d k_M_past 24 [some (.ref a0), some (.ref a1), some (.int x2), some (.int x3), some (.int x4), o5] [.int sx0] (fm_mk S) r := by
  refine fs_istore (j := 5) (L' := [some (.ref a0), some (.ref a1), some (.int x2), some (.int x3), some (.int x4), some (.int sx0)]) (by decide +kernel) (Nat.le_of_ble_eq_true rfl) rfl ?_
  refine fs_iloadn (j := 3) (by decide +kernel) rfl ?_
  exact fs_ifeq (off := 16) (tgt := 43) (by decide +kernel) (by decide) kt kf
theorem b_M_past_30 {d : Nat} {a0 : Nat} {a1 : Nat} {x2 : Int32} {x3 : Int32} {x4 : Int32} {x5 : Int32} {S : fm_S} {r : Option Value × am_W} (h_a0 : fm_tg a0 = 100) (hi1 : vp_in (x2 + x4) (fm_ln a0)) (h_a1 : fm_tg a1 = 100) (hi3 : vp_in x5 (fm_ln a1)) (nx : am_Ev d k_M_past 53 [some (.ref a0), some (.ref a1), some (.int x2), some (.int x3), some (.int x4), some (.int x5)] [] (fm_mk (fm_wI S a1 x5.toNatClampNeg (S.1 a0 ((x2 + x4).toNatClampNeg)))) r) : am_Ev d k_M_past 30 [some (.ref a0), some (.ref a1), some (.int x2), some (.int x3), some (.int x4), some (.int x5)] [] (fm_mk S) r := by
  refine fs_aloadn (j := 1) (by decide +kernel) rfl ?_
  refine fs_iload (j := 5) (by decide +kernel) rfl ?_
  refine fs_aloadn (j := 0) (by decide +kernel) rfl ?_
  refine fs_iloadn (j := 2) (by decide +kernel) rfl ?_
  refine fs_iload (j := 4) (by decide +kernel) rfl ?_
  refine fs_iadd (by decide +kernel) ?_
  refine fx_iald (n := (x2 + x4).toNatClampNeg) (len := fm_ln a0) (by decide +kernel) h_a0 rfl hi1 rfl ?_
  refine fx_iast (n := x5.toNatClampNeg) (len := fm_ln a1) (by decide +kernel) h_a1 rfl hi3 rfl ?_
  refine fs_goto (off := 13) (tgt := 53) (by decide +kernel) (by decide) ?_
  exact nx
theorem b_M_past_43 {d : Nat} {a0 : Nat} {a1 : Nat} {x2 : Int32} {x3 : Int32} {x4 : Int32} {x5 : Int32} {S : fm_S} {r : Option Value × am_W} (h_a0 : fm_tg a0 = 100) (hi1 : vp_in x5 (fm_ln a0)) (h_a1 : fm_tg a1 = 100) (hi3 : vp_in (x2 + x4) (fm_ln a1)) (nx : am_Ev d k_M_past 53 [some (.ref a0), some (.ref a1), some (.int x2), some (.int x3), some (.int x4), some (.int x5)] [] (fm_mk (fm_wI S a1 ((x2 + x4).toNatClampNeg) (S.1 a0 x5.toNatClampNeg))) r) : am_Ev d k_M_past 43 [some (.ref a0), some (.ref a1), some (.int x2), some (.int x3), some (.int x4), some (.int x5)] [] (fm_mk S) r := by
  refine fs_aloadn (j := 1) (by decide +kernel) rfl ?_
  refine fs_iloadn (j := 2) (by decide +kernel) rfl ?_
  refine fs_iload (j := 4) (by decide +kernel) rfl ?_
  refine fs_iadd (by decide +kernel) ?_
  refine fs_aloadn (j := 0) (by decide +kernel) rfl ?_
  refine fs_iload (j := 5) (by decide +kernel) rfl ?_
  refine fx_iald (n := x5.toNatClampNeg) (len := fm_ln a0) (by decide +kernel) h_a0 rfl hi1 rfl ?_
  refine fx_iast (n := (x2 + x4).toNatClampNeg) (len := fm_ln a1) (by decide +kernel) h_a1 rfl hi3 rfl ?_
  exact nx
theorem b_M_past_53 {d : Nat} {a0 : Nat} {a1 : Nat} {x2 : Int32} {x3 : Int32} {x4 : Int32} {x5 : Int32} {S : fm_S} {r : Option Value × am_W} (nx : am_Ev d k_M_past 3 [some (.ref a0), some (.ref a1), some (.int x2), some (.int x3), some (.int (x4 + 1)), some (.int x5)] [] (fm_mk S) r) : am_Ev d k_M_past 53 [some (.ref a0), some (.ref a1), some (.int x2), some (.int x3), some (.int x4), some (.int x5)] [] (fm_mk S) r := by
  refine fs_iinc (j := 4) (n := 1) (v := 1) (L' := [some (.ref a0), some (.ref a1), some (.int x2), some (.int x3), some (.int (x4 + 1)), some (.int x5)]) (by decide +kernel) rfl (Nat.le_of_ble_eq_true rfl) (by decide) rfl ?_
  refine fs_goto (off := -53) (tgt := 3) (by decide +kernel) (by decide) ?_
  exact nx
theorem b_M_past_59 {d : Nat} {a0 : Nat} {a1 : Nat} {x2 : Int32} {x3 : Int32} {x4 : Int32} {o5 : Option Value} {S : fm_S}  : am_Ev d k_M_past 59 [some (.ref a0), some (.ref a1), some (.int x2), some (.int x3), some (.int x4), o5] [] (fm_mk S) (none, fm_mk S) := by
  exact fe_retV (by decide +kernel) (by decide +kernel)
-- KitchenSiegeModel.goDay(I)I
theorem b_M_goDay_0 {d : Nat} {x1 : Int32} {o2 : Option Value} {o3 : Option Value} {o4 : Option Value} {o5 : Option Value} {v : Int32} {S1 : fm_S} {S : fm_S} {r : Option Value × am_W} (hc : am_Sp d k_M_opening [.ref 231, .int x1, .int (-1), .int 0] (fm_mk S) (some (.int v)) (fm_mk S1)) (nx : am_Ev (d + 1) k_M_goDay 7 [some (.ref 231), some (.int x1), o2, o3, o4, o5] [.int v] (fm_mk S1) r) : am_Ev (d + 1) k_M_goDay 0 [some (.ref 231), some (.int x1), o2, o3, o4, o5] [] (fm_mk S) r := by
  refine fs_aloadn (j := 0) (by decide +kernel) rfl ?_
  refine fs_iloadn (j := 1) (by decide +kernel) rfl ?_
  refine fs_iconst (n := -1) (v := (-1)) (by decide +kernel) (by decide) ?_
  refine fs_iconst (n := 0) (v := 0) (by decide +kernel) (by decide) ?_
  exact fe_callV (t := 8) (idx := 186) (n := 3) (wp := 1138) (q := (1140, 45)) (as := [.int x1, .int (-1), .int 0]) (rs := []) (by decide +kernel) (by decide +kernel) (by decide +kernel) (by decide +kernel) rfl (Nat.le_of_ble_eq_true rfl) rfl hc nx
theorem b_M_goDay_7 {d : Nat} {x1 : Int32} {o2 : Option Value} {o3 : Option Value} {o4 : Option Value} {o5 : Option Value} {sx0 : Int32} {S : fm_S} {r : Option Value × am_W} (nx : am_Ev d k_M_goDay 10 [some (.ref 231), some (.int x1), some (.int sx0), some (.int 0), o4, o5] [] (fm_mk S) r) : am_Ev d k_M_goDay 7 [some (.ref 231), some (.int x1), o2, o3, o4, o5] [.int sx0] (fm_mk S) r := by
  refine fs_istoren (j := 2) (L' := [some (.ref 231), some (.int x1), some (.int sx0), o3, o4, o5]) (by decide +kernel) (Nat.le_of_ble_eq_true rfl) rfl ?_
  refine fs_iconst (n := 0) (v := 0) (by decide +kernel) (by decide) ?_
  refine fs_istoren (j := 3) (L' := [some (.ref 231), some (.int x1), some (.int sx0), some (.int 0), o4, o5]) (by decide +kernel) (Nat.le_of_ble_eq_true rfl) rfl ?_
  exact nx
theorem b_M_goDay_10 {d : Nat} {x1 : Int32} {x2 : Int32} {x3 : Int32} {o4 : Option Value} {o5 : Option Value} {S : fm_S} {r : Option Value × am_W} (kt : (S.1 232 0) ≤ x3 → am_Ev d k_M_goDay 163 [some (.ref 231), some (.int x1), some (.int x2), some (.int x3), o4, o5] [] (fm_mk S) r) (kf : ¬ (S.1 232 0) ≤ x3 → am_Ev d k_M_goDay 20 [some (.ref 231), some (.int x1), some (.int x2), some (.int x3), o4, o5] [] (fm_mk S) r) : am_Ev d k_M_goDay 10 [some (.ref 231), some (.int x1), some (.int x2), some (.int x3), o4, o5] [] (fm_mk S) r := by
  refine fs_iloadn (j := 3) (by decide +kernel) rfl ?_
  refine fs_aloadn (j := 0) (by decide +kernel) rfl ?_
  refine fe_getR (idx := 7) (t := 8) (f := 0) (fk := 2) (fin := 1) (wp := 945) (x := 232) (by decide +kernel) (by decide +kernel) (by decide +kernel) (by decide +kernel) (by decide +kernel) ?_
  refine fs_iconst (n := 0) (v := 0) (by decide +kernel) (by decide) ?_
  refine fx_iald (n := 0) (len := 373) (by decide +kernel) (by decide +kernel) (by decide +kernel) (vp_c (by decide) (by decide)) (by decide) ?_
  exact fs_icge (off := 146) (tgt := 163) (by decide +kernel) (by decide) kt kf
theorem b_M_goDay_20 {d : Nat} {x1 : Int32} {x2 : Int32} {x3 : Int32} {o4 : Option Value} {o5 : Option Value} {v : Int32} {S1 : fm_S} {S : fm_S} {r : Option Value × am_W} (hc : am_Sp d k_M_has [.int x2, .int x3] (fm_mk S) (some (.int v)) (fm_mk S1)) (nx : am_Ev (d + 1) k_M_goDay 33 [some (.ref 231), some (.int x1), some (.int x2), some (.int x3), o4, o5] [.int v, .int (29 + x3), .ref 232] (fm_mk S1) r) : am_Ev (d + 1) k_M_goDay 20 [some (.ref 231), some (.int x1), some (.int x2), some (.int x3), o4, o5] [] (fm_mk S) r := by
  refine fs_aloadn (j := 0) (by decide +kernel) rfl ?_
  refine fe_getR (idx := 7) (t := 8) (f := 0) (fk := 2) (fin := 1) (wp := 945) (x := 232) (by decide +kernel) (by decide +kernel) (by decide +kernel) (by decide +kernel) (by decide +kernel) ?_
  refine fs_bipush (n := 29) (v := 29) (by decide +kernel) (by decide) ?_
  refine fs_iloadn (j := 3) (by decide +kernel) rfl ?_
  refine fs_iadd (by decide +kernel) ?_
  refine fs_iloadn (j := 2) (by decide +kernel) rfl ?_
  refine fs_iloadn (j := 3) (by decide +kernel) rfl ?_
  exact fe_callS (idx := 190) (kd := 0) (n := 2) (wp := 1157) (q := (1158, 0)) (as := [.int x2, .int x3]) (rs := [.int (29 + x3), .ref 232]) (by decide +kernel) (by decide +kernel) (by decide +kernel) (by decide) rfl (Nat.le_of_ble_eq_true rfl) rfl hc nx
theorem b_M_goDay_33 {d : Nat} {x1 : Int32} {x2 : Int32} {x3 : Int32} {o4 : Option Value} {o5 : Option Value} {sx1 : Int32} {sx2 : Int32} {S : fm_S} {r : Option Value × am_W} (kt : sx2 = 0 → am_Ev d k_M_goDay 45 [some (.ref 231), some (.int x1), some (.int x2), some (.int x3), o4, o5] [.int sx1, .ref 232] (fm_mk S) r) (kf : ¬ sx2 = 0 → am_Ev d k_M_goDay 36 [some (.ref 231), some (.int x1), some (.int x2), some (.int x3), o4, o5] [.int sx1, .ref 232] (fm_mk S) r) : am_Ev d k_M_goDay 33 [some (.ref 231), some (.int x1), some (.int x2), some (.int x3), o4, o5] [.int sx2, .int sx1, .ref 232] (fm_mk S) r := by
  exact fs_ifeq (off := 12) (tgt := 45) (by decide +kernel) (by decide) kt kf
theorem b_M_goDay_36 {d : Nat} {x1 : Int32} {x2 : Int32} {x3 : Int32} {o4 : Option Value} {o5 : Option Value} {sx1 : Int32} {S : fm_S} {r : Option Value × am_W} (nx : am_Ev d k_M_goDay 54 [some (.ref 231), some (.int x1), some (.int x2), some (.int x3), o4, o5] [.int (S.1 232 4), .int sx1, .ref 232] (fm_mk S) r) : am_Ev d k_M_goDay 36 [some (.ref 231), some (.int x1), some (.int x2), some (.int x3), o4, o5] [.int sx1, .ref 232] (fm_mk S) r := by
  refine fs_aloadn (j := 0) (by decide +kernel) rfl ?_
  refine fe_getR (idx := 7) (t := 8) (f := 0) (fk := 2) (fin := 1) (wp := 945) (x := 232) (by decide +kernel) (by decide +kernel) (by decide +kernel) (by decide +kernel) (by decide +kernel) ?_
  refine fs_iconst (n := 4) (v := 4) (by decide +kernel) (by decide) ?_
  refine fx_iald (n := 4) (len := 373) (by decide +kernel) (by decide +kernel) (by decide +kernel) (vp_c (by decide) (by decide)) (by decide) ?_
  refine fs_goto (off := 12) (tgt := 54) (by decide +kernel) (by decide) ?_
  exact nx
theorem b_M_goDay_45 {d : Nat} {x1 : Int32} {x2 : Int32} {x3 : Int32} {o4 : Option Value} {o5 : Option Value} {sx1 : Int32} {S : fm_S} {r : Option Value × am_W} (hi0 : vp_in (29 + x3) 373) (nx : am_Ev d k_M_goDay 54 [some (.ref 231), some (.int x1), some (.int x2), some (.int x3), o4, o5] [.int (S.1 232 ((29 + x3).toNatClampNeg)), .int sx1, .ref 232] (fm_mk S) r) : am_Ev d k_M_goDay 45 [some (.ref 231), some (.int x1), some (.int x2), some (.int x3), o4, o5] [.int sx1, .ref 232] (fm_mk S) r := by
  refine fs_aloadn (j := 0) (by decide +kernel) rfl ?_
  refine fe_getR (idx := 7) (t := 8) (f := 0) (fk := 2) (fin := 1) (wp := 945) (x := 232) (by decide +kernel) (by decide +kernel) (by decide +kernel) (by decide +kernel) (by decide +kernel) ?_
  refine fs_bipush (n := 29) (v := 29) (by decide +kernel) (by decide) ?_
  refine fs_iloadn (j := 3) (by decide +kernel) rfl ?_
  refine fs_iadd (by decide +kernel) ?_
  refine fx_iald (n := (29 + x3).toNatClampNeg) (len := 373) (by decide +kernel) (by decide +kernel) (by decide +kernel) hi0 rfl ?_
  exact nx
theorem b_M_goDay_54 {d : Nat} {x1 : Int32} {x2 : Int32} {x3 : Int32} {o4 : Option Value} {o5 : Option Value} {sx1 : Int32} {sx2 : Int32} {v : Int32} {S1 : fm_S} {S : fm_S} {r : Option Value × am_W} (hi0 : vp_in sx1 373) (hc : am_Sp d k_M_isDish [.ref 231, .int x1] (fm_mk (fm_wI S 232 sx1.toNatClampNeg sx2)) (some (.int v)) (fm_mk S1)) (nx : am_Ev (d + 1) k_M_goDay 60 [some (.ref 231), some (.int x1), some (.int x2), some (.int x3), o4, o5] [.int v] (fm_mk S1) r) : am_Ev (d + 1) k_M_goDay 54 [some (.ref 231), some (.int x1), some (.int x2), some (.int x3), o4, o5] [.int sx2, .int sx1, .ref 232] (fm_mk S) r := by
  refine fx_iast (n := sx1.toNatClampNeg) (len := 373) (by decide +kernel) (by decide +kernel) (by decide +kernel) hi0 rfl ?_
  refine fs_aloadn (j := 0) (by decide +kernel) rfl ?_
  refine fs_iloadn (j := 1) (by decide +kernel) rfl ?_
  exact fe_callV (t := 8) (idx := 172) (n := 1) (wp := 1127) (q := (1129, 43)) (as := [.int x1]) (rs := []) (by decide +kernel) (by decide +kernel) (by decide +kernel) (by decide +kernel) rfl (Nat.le_of_ble_eq_true rfl) rfl hc nx
theorem b_M_goDay_60 {d : Nat} {x1 : Int32} {x2 : Int32} {x3 : Int32} {o4 : Option Value} {o5 : Option Value} {sx0 : Int32} {S : fm_S} {r : Option Value × am_W} (kt : sx0 = 0 → am_Ev d k_M_goDay 76 [some (.ref 231), some (.int x1), some (.int x2), some (.int x3), o4, o5] [] (fm_mk S) r) (kf : ¬ sx0 = 0 → am_Ev d k_M_goDay 63 [some (.ref 231), some (.int x1), some (.int x2), some (.int x3), o4, o5] [] (fm_mk S) r) : am_Ev d k_M_goDay 60 [some (.ref 231), some (.int x1), some (.int x2), some (.int x3), o4, o5] [.int sx0] (fm_mk S) r := by
  exact fs_ifeq (off := 16) (tgt := 76) (by decide +kernel) (by decide) kt kf
theorem b_M_goDay_63 {d : Nat} {x1 : Int32} {x2 : Int32} {x3 : Int32} {o4 : Option Value} {o5 : Option Value} {S : fm_S} {r : Option Value × am_W} (hi0 : vp_in x3 8) (kt : (S.1 238 x3.toNatClampNeg) ≤ 0 → am_Ev d k_M_goDay 76 [some (.ref 231), some (.int x1), some (.int x2), some (.int x3), o4, o5] [] (fm_mk S) r) (kf : ¬ (S.1 238 x3.toNatClampNeg) ≤ 0 → am_Ev d k_M_goDay 72 [some (.ref 231), some (.int x1), some (.int x2), some (.int x3), o4, o5] [] (fm_mk S) r) : am_Ev d k_M_goDay 63 [some (.ref 231), some (.int x1), some (.int x2), some (.int x3), o4, o5] [] (fm_mk S) r := by
  refine fs_aloadn (j := 0) (by decide +kernel) rfl ?_
  refine fe_getR (idx := 28) (t := 8) (f := 14) (fk := 2) (fin := 1) (wp := 959) (x := 238) (by decide +kernel) (by decide +kernel) (by decide +kernel) (by decide +kernel) (by decide +kernel) ?_
  refine fs_iloadn (j := 3) (by decide +kernel) rfl ?_
  refine fx_iald (n := x3.toNatClampNeg) (len := 8) (by decide +kernel) (by decide +kernel) (by decide +kernel) hi0 rfl ?_
  exact fs_ifle (off := 7) (tgt := 76) (by decide +kernel) (by decide) kt kf
theorem b_M_goDay_72 {d : Nat} {x1 : Int32} {x2 : Int32} {x3 : Int32} {o4 : Option Value} {o5 : Option Value} {S : fm_S} {r : Option Value × am_W} (nx : am_Ev d k_M_goDay 77 [some (.ref 231), some (.int x1), some (.int x2), some (.int x3), o4, o5] [.int 1] (fm_mk S) r) : am_Ev d k_M_goDay 72 [some (.ref 231), some (.int x1), some (.int x2), some (.int x3), o4, o5] [] (fm_mk S) r := by
  refine fs_iconst (n := 1) (v := 1) (by decide +kernel) (by decide) ?_
  refine fs_goto (off := 4) (tgt := 77) (by decide +kernel) (by decide) ?_
  exact nx
theorem b_M_goDay_76 {d : Nat} {x1 : Int32} {x2 : Int32} {x3 : Int32} {o4 : Option Value} {o5 : Option Value} {S : fm_S} {r : Option Value × am_W} (nx : am_Ev d k_M_goDay 77 [some (.ref 231), some (.int x1), some (.int x2), some (.int x3), o4, o5] [.int 0] (fm_mk S) r) : am_Ev d k_M_goDay 76 [some (.ref 231), some (.int x1), some (.int x2), some (.int x3), o4, o5] [] (fm_mk S) r := by
  refine fs_iconst (n := 0) (v := 0) (by decide +kernel) (by decide) ?_
  exact nx
theorem b_M_goDay_77 {d : Nat} {x1 : Int32} {x2 : Int32} {x3 : Int32} {o4 : Option Value} {o5 : Option Value} {sx0 : Int32} {S : fm_S} {r : Option Value × am_W} (kt : sx0 = 0 → am_Ev d k_M_goDay 96 [some (.ref 231), some (.int x1), some (.int x2), some (.int x3), some (.int sx0), o5] [] (fm_mk S) r) (kf : ¬ sx0 = 0 → am_Ev d k_M_goDay 84 [some (.ref 231), some (.int x1), some (.int x2), some (.int x3), some (.int sx0), o5] [] (fm_mk S) r) : am_Ev d k_M_goDay 77 [some (.ref 231), some (.int x1), some (.int x2), some (.int x3), o4, o5] [.int sx0] (fm_mk S) r := by
  refine fs_istore (j := 4) (L' := [some (.ref 231), some (.int x1), some (.int x2), some (.int x3), some (.int sx0), o5]) (by decide +kernel) (Nat.le_of_ble_eq_true rfl) rfl ?_
  refine fs_iload (j := 4) (by decide +kernel) rfl ?_
  exact fs_ifeq (off := 15) (tgt := 96) (by decide +kernel) (by decide) kt kf
theorem b_M_goDay_84 {d : Nat} {x1 : Int32} {x2 : Int32} {x3 : Int32} {x4 : Int32} {o5 : Option Value} {S : fm_S} {r : Option Value × am_W} (hi0 : vp_in (125 + x1) 373) (nx : am_Ev d k_M_goDay 97 [some (.ref 231), some (.int x1), some (.int x2), some (.int x3), some (.int x4), o5] [.int (S.1 232 ((125 + x1).toNatClampNeg))] (fm_mk S) r) : am_Ev d k_M_goDay 84 [some (.ref 231), some (.int x1), some (.int x2), some (.int x3), some (.int x4), o5] [] (fm_mk S) r := by
  refine fs_aloadn (j := 0) (by decide +kernel) rfl ?_
  refine fe_getR (idx := 7) (t := 8) (f := 0) (fk := 2) (fin := 1) (wp := 945) (x := 232) (by decide +kernel) (by decide +kernel) (by decide +kernel) (by decide +kernel) (by decide +kernel) ?_
  refine fs_bipush (n := 125) (v := 125) (by decide +kernel) (by decide) ?_
  refine fs_iloadn (j := 1) (by decide +kernel) rfl ?_
  refine fs_iadd (by decide +kernel) ?_
  refine fx_iald (n := (125 + x1).toNatClampNeg) (len := 373) (by decide +kernel) (by decide +kernel) (by decide +kernel) hi0 rfl ?_
  refine fs_goto (off := 4) (tgt := 97) (by decide +kernel) (by decide) ?_
  exact nx
theorem b_M_goDay_96 {d : Nat} {x1 : Int32} {x2 : Int32} {x3 : Int32} {x4 : Int32} {o5 : Option Value} {S : fm_S} {r : Option Value × am_W} (nx : am_Ev d k_M_goDay 97 [some (.ref 231), some (.int x1), some (.int x2), some (.int x3), some (.int x4), o5] [.int (-1)] (fm_mk S) r) : am_Ev d k_M_goDay 96 [some (.ref 231), some (.int x1), some (.int x2), some (.int x3), some (.int x4), o5] [] (fm_mk S) r := by
  refine fs_iconst (n := -1) (v := (-1)) (by decide +kernel) (by decide) ?_
  exact nx
theorem b_M_goDay_97 {d : Nat} {x1 : Int32} {x2 : Int32} {x3 : Int32} {x4 : Int32} {o5 : Option Value} {sx0 : Int32} {S : fm_S} {r : Option Value × am_W} (kt : ¬ x4 = 0 → am_Ev d k_M_goDay 116 [some (.ref 231), some (.int x1), some (.int x2), some (.int x3), some (.int x4), some (.int sx0)] [.int (45 + x3), .ref 232] (fm_mk S) r) (kf : x4 = 0 → am_Ev d k_M_goDay 112 [some (.ref 231), some (.int x1), some (.int x2), some (.int x3), some (.int x4), some (.int sx0)] [.int (45 + x3), .ref 232] (fm_mk S) r) : am_Ev d k_M_goDay 97 [some (.ref 231), some (.int x1), some (.int x2), some (.int x3), some (.int x4), o5] [.int sx0] (fm_mk S) r := by
  refine fs_istore (j := 5) (L' := [some (.ref 231), some (.int x1), some (.int x2), some (.int x3), some (.int x4), some (.int sx0)]) (by decide +kernel) (Nat.le_of_ble_eq_true rfl) rfl ?_
  refine fs_aloadn (j := 0) (by decide +kernel) rfl ?_
  refine fe_getR (idx := 7) (t := 8) (f := 0) (fk := 2) (fin := 1) (wp := 945) (x := 232) (by decide +kernel) (by decide +kernel) (by decide +kernel) (by decide +kernel) (by decide +kernel) ?_
  refine fs_bipush (n := 45) (v := 45) (by decide +kernel) (by decide) ?_
  refine fs_iloadn (j := 3) (by decide +kernel) rfl ?_
  refine fs_iadd (by decide +kernel) ?_
  refine fs_iload (j := 4) (by decide +kernel) rfl ?_
  exact fs_ifne (off := 7) (tgt := 116) (by decide +kernel) (by decide) kt kf
theorem b_M_goDay_112 {d : Nat} {x1 : Int32} {x2 : Int32} {x3 : Int32} {x4 : Int32} {x5 : Int32} {sx1 : Int32} {S : fm_S} {r : Option Value × am_W} (nx : am_Ev d k_M_goDay 145 [some (.ref 231), some (.int x1), some (.int x2), some (.int x3), some (.int x4), some (.int x5)] [.int 0, .int sx1, .ref 232] (fm_mk S) r) : am_Ev d k_M_goDay 112 [some (.ref 231), some (.int x1), some (.int x2), some (.int x3), some (.int x4), some (.int x5)] [.int sx1, .ref 232] (fm_mk S) r := by
  refine fs_iconst (n := 0) (v := 0) (by decide +kernel) (by decide) ?_
  refine fs_goto (off := 32) (tgt := 145) (by decide +kernel) (by decide) ?_
  exact nx
theorem b_M_goDay_116 {d : Nat} {x1 : Int32} {x2 : Int32} {x3 : Int32} {x4 : Int32} {x5 : Int32} {sx1 : Int32} {S : fm_S} {r : Option Value × am_W} (hi0 : vp_in (37 + x3) 373) (kt : ¬ (S.1 232 ((37 + x3).toNatClampNeg)) = x5 → am_Ev d k_M_goDay 144 [some (.ref 231), some (.int x1), some (.int x2), some (.int x3), some (.int x4), some (.int x5)] [.int sx1, .ref 232] (fm_mk S) r) (kf : (S.1 232 ((37 + x3).toNatClampNeg)) = x5 → am_Ev d k_M_goDay 130 [some (.ref 231), some (.int x1), some (.int x2), some (.int x3), some (.int x4), some (.int x5)] [.int sx1, .ref 232] (fm_mk S) r) : am_Ev d k_M_goDay 116 [some (.ref 231), some (.int x1), some (.int x2), some (.int x3), some (.int x4), some (.int x5)] [.int sx1, .ref 232] (fm_mk S) r := by
  refine fs_aloadn (j := 0) (by decide +kernel) rfl ?_
  refine fe_getR (idx := 7) (t := 8) (f := 0) (fk := 2) (fin := 1) (wp := 945) (x := 232) (by decide +kernel) (by decide +kernel) (by decide +kernel) (by decide +kernel) (by decide +kernel) ?_
  refine fs_bipush (n := 37) (v := 37) (by decide +kernel) (by decide) ?_
  refine fs_iloadn (j := 3) (by decide +kernel) rfl ?_
  refine fs_iadd (by decide +kernel) ?_
  refine fx_iald (n := (37 + x3).toNatClampNeg) (len := 373) (by decide +kernel) (by decide +kernel) (by decide +kernel) hi0 rfl ?_
  refine fs_iload (j := 5) (by decide +kernel) rfl ?_
  exact fs_icne (off := 17) (tgt := 144) (by decide +kernel) (by decide) kt kf
theorem b_M_goDay_130 {d : Nat} {x1 : Int32} {x2 : Int32} {x3 : Int32} {x4 : Int32} {x5 : Int32} {sx1 : Int32} {S : fm_S} {r : Option Value × am_W} (hi0 : vp_in (45 + x3) 373) (nx : am_Ev d k_M_goDay 145 [some (.ref 231), some (.int x1), some (.int x2), some (.int x3), some (.int x4), some (.int x5)] [.int ((S.1 232 ((45 + x3).toNatClampNeg)) + 1), .int sx1, .ref 232] (fm_mk S) r) : am_Ev d k_M_goDay 130 [some (.ref 231), some (.int x1), some (.int x2), some (.int x3), some (.int x4), some (.int x5)] [.int sx1, .ref 232] (fm_mk S) r := by
  refine fs_aloadn (j := 0) (by decide +kernel) rfl ?_
  refine fe_getR (idx := 7) (t := 8) (f := 0) (fk := 2) (fin := 1) (wp := 945) (x := 232) (by decide +kernel) (by decide +kernel) (by decide +kernel) (by decide +kernel) (by decide +kernel) ?_
  refine fs_bipush (n := 45) (v := 45) (by decide +kernel) (by decide) ?_
  refine fs_iloadn (j := 3) (by decide +kernel) rfl ?_
  refine fs_iadd (by decide +kernel) ?_
  refine fx_iald (n := (45 + x3).toNatClampNeg) (len := 373) (by decide +kernel) (by decide +kernel) (by decide +kernel) hi0 rfl ?_
  refine fs_iconst (n := 1) (v := 1) (by decide +kernel) (by decide) ?_
  refine fs_iadd (by decide +kernel) ?_
  refine fs_goto (off := 4) (tgt := 145) (by decide +kernel) (by decide) ?_
  exact nx
theorem b_M_goDay_144 {d : Nat} {x1 : Int32} {x2 : Int32} {x3 : Int32} {x4 : Int32} {x5 : Int32} {sx1 : Int32} {S : fm_S} {r : Option Value × am_W} (nx : am_Ev d k_M_goDay 145 [some (.ref 231), some (.int x1), some (.int x2), some (.int x3), some (.int x4), some (.int x5)] [.int 1, .int sx1, .ref 232] (fm_mk S) r) : am_Ev d k_M_goDay 144 [some (.ref 231), some (.int x1), some (.int x2), some (.int x3), some (.int x4), some (.int x5)] [.int sx1, .ref 232] (fm_mk S) r := by
  refine fs_iconst (n := 1) (v := 1) (by decide +kernel) (by decide) ?_
  exact nx
theorem b_M_goDay_145 {d : Nat} {x1 : Int32} {x2 : Int32} {x3 : Int32} {x4 : Int32} {x5 : Int32} {sx1 : Int32} {sx2 : Int32} {S : fm_S} {r : Option Value × am_W} (hi0 : vp_in sx1 373) (hi1 : vp_in (37 + x3) 373) (nx : am_Ev d k_M_goDay 10 [some (.ref 231), some (.int x1), some (.int x2), some (.int (x3 + 1)), some (.int x4), some (.int x5)] [] (fm_mk (fm_wI (fm_wI S 232 sx1.toNatClampNeg sx2) 232 ((37 + x3).toNatClampNeg) x5)) r) : am_Ev d k_M_goDay 145 [some (.ref 231), some (.int x1), some (.int x2), some (.int x3), some (.int x4), some (.int x5)] [.int sx2, .int sx1, .ref 232] (fm_mk S) r := by
  refine fx_iast (n := sx1.toNatClampNeg) (len := 373) (by decide +kernel) (by decide +kernel) (by decide +kernel) hi0 rfl ?_
  refine fs_aloadn (j := 0) (by decide +kernel) rfl ?_
  refine fe_getR (idx := 7) (t := 8) (f := 0) (fk := 2) (fin := 1) (wp := 945) (x := 232) (by decide +kernel) (by decide +kernel) (by decide +kernel) (by decide +kernel) (by decide +kernel) ?_
  refine fs_bipush (n := 37) (v := 37) (by decide +kernel) (by decide) ?_
  refine fs_iloadn (j := 3) (by decide +kernel) rfl ?_
  refine fs_iadd (by decide +kernel) ?_
  refine fs_iload (j := 5) (by decide +kernel) rfl ?_
  refine fx_iast (n := (37 + x3).toNatClampNeg) (len := 373) (by decide +kernel) (by decide +kernel) (by decide +kernel) hi1 rfl ?_
  refine fs_iinc (j := 3) (n := 1) (v := 1) (L' := [some (.ref 231), some (.int x1), some (.int x2), some (.int (x3 + 1)), some (.int x4), some (.int x5)]) (by decide +kernel) rfl (Nat.le_of_ble_eq_true rfl) (by decide) rfl ?_
  refine fs_goto (off := -150) (tgt := 10) (by decide +kernel) (by decide) ?_
  exact nx
theorem b_M_goDay_163 {d : Nat} {x1 : Int32} {x2 : Int32} {x3 : Int32} {o4 : Option Value} {o5 : Option Value} {S : fm_S}  : am_Ev d k_M_goDay 163 [some (.ref 231), some (.int x1), some (.int x2), some (.int x3), o4, o5] [] (fm_mk S) (some (.int x2), fm_mk (fm_wI S 232 4 ((S.1 232 4) + 1))) := by
  refine fs_aloadn (j := 0) (by decide +kernel) rfl ?_
  refine fe_getR (idx := 7) (t := 8) (f := 0) (fk := 2) (fin := 1) (wp := 945) (x := 232) (by decide +kernel) (by decide +kernel) (by decide +kernel) (by decide +kernel) (by decide +kernel) ?_
  refine fs_iconst (n := 4) (v := 4) (by decide +kernel) (by decide) ?_
  refine fs_dup2 (by decide +kernel) ⟨rfl, rfl⟩ ?_
  refine fx_iald (n := 4) (len := 373) (by decide +kernel) (by decide +kernel) (by decide +kernel) (vp_c (by decide) (by decide)) (by decide) ?_
  refine fs_iconst (n := 1) (v := 1) (by decide +kernel) (by decide) ?_
  refine fs_iadd (by decide +kernel) ?_
  refine fx_iast (n := 4) (len := 373) (by decide +kernel) (by decide +kernel) (by decide +kernel) (vp_c (by decide) (by decide)) (by decide) ?_
  refine fs_iloadn (j := 2) (by decide +kernel) rfl ?_
  exact fe_retI (by decide +kernel) (by decide +kernel)
-- KitchenSiegeModel.opening(III)I
theorem b_M_opening_0 {d : Nat} {x1 : Int32} {x2 : Int32} {x3 : Int32} {o4 : Option Value} {o5 : Option Value} {o6 : Option Value} {v : Int32} {S1 : fm_S} {S : fm_S} {r : Option Value × am_W} (hc : am_Sp d k_M_isDish [.ref 231, .int x1] (fm_mk S) (some (.int v)) (fm_mk S1)) (nx : am_Ev (d + 1) k_M_opening 8 [some (.ref 231), some (.int x1), some (.int x2), some (.int x3), some (.int 0), o5, o6] [.int v] (fm_mk S1) r) : am_Ev (d + 1) k_M_opening 0 [some (.ref 231), some (.int x1), some (.int x2), some (.int x3), o4, o5, o6] [] (fm_mk S) r := by
  refine fs_iconst (n := 0) (v := 0) (by decide +kernel) (by decide) ?_
  refine fs_istore (j := 4) (L' := [some (.ref 231), some (.int x1), some (.int x2), some (.int x3), some (.int 0), o5, o6]) (by decide +kernel) (Nat.le_of_ble_eq_true rfl) rfl ?_
  refine fs_aloadn (j := 0) (by decide +kernel) rfl ?_
  refine fs_iloadn (j := 1) (by decide +kernel) rfl ?_
  exact fe_callV (t := 8) (idx := 172) (n := 1) (wp := 1127) (q := (1129, 43)) (as := [.int x1]) (rs := []) (by decide +kernel) (by decide +kernel) (by decide +kernel) (by decide +kernel) rfl (Nat.le_of_ble_eq_true rfl) rfl hc nx
theorem b_M_opening_8 {d : Nat} {x1 : Int32} {x2 : Int32} {x3 : Int32} {x4 : Int32} {o5 : Option Value} {o6 : Option Value} {sx0 : Int32} {S : fm_S} {r : Option Value × am_W} (kt : sx0 = 0 → am_Ev d k_M_opening 129 [some (.ref 231), some (.int x1), some (.int x2), some (.int x3), some (.int x4), o5, o6] [] (fm_mk S) r) (kf : ¬ sx0 = 0 → am_Ev d k_M_opening 11 [some (.ref 231), some (.int x1), some (.int x2), some (.int x3), some (.int x4), o5, o6] [] (fm_mk S) r) : am_Ev d k_M_opening 8 [some (.ref 231), some (.int x1), some (.int x2), some (.int x3), some (.int x4), o5, o6] [.int sx0] (fm_mk S) r := by
  exact fs_ifeq (off := 121) (tgt := 129) (by decide +kernel) (by decide) kt kf
theorem b_M_opening_11 {d : Nat} {x1 : Int32} {x2 : Int32} {x3 : Int32} {x4 : Int32} {o5 : Option Value} {o6 : Option Value} {v : Int32} {S1 : fm_S} {S : fm_S} {r : Option Value × am_W} (hi0 : vp_in (131 + x1) 373) (hc : am_Sp d k_M_windOf [.ref 231, .int (S.1 232 4)] (fm_mk S) (some (.int v)) (fm_mk S1)) (nx : am_Ev (d + 1) k_M_opening 32 [some (.ref 231), some (.int x1), some (.int x2), some (.int x3), some (.int x4), o5, o6] [.int v, .int (S.1 232 ((131 + x1).toNatClampNeg)), .ref 231] (fm_mk S1) r) : am_Ev (d + 1) k_M_opening 11 [some (.ref 231), some (.int x1), some (.int x2), some (.int x3), some (.int x4), o5, o6] [] (fm_mk S) r := by
  refine fs_aloadn (j := 0) (by decide +kernel) rfl ?_
  refine fs_aloadn (j := 0) (by decide +kernel) rfl ?_
  refine fe_getR (idx := 7) (t := 8) (f := 0) (fk := 2) (fin := 1) (wp := 945) (x := 232) (by decide +kernel) (by decide +kernel) (by decide +kernel) (by decide +kernel) (by decide +kernel) ?_
  refine fs_sipush (n := 131) (v := 131) (by decide +kernel) (by decide) ?_
  refine fs_iloadn (j := 1) (by decide +kernel) rfl ?_
  refine fs_iadd (by decide +kernel) ?_
  refine fx_iald (n := (131 + x1).toNatClampNeg) (len := 373) (by decide +kernel) (by decide +kernel) (by decide +kernel) hi0 rfl ?_
  refine fs_aloadn (j := 0) (by decide +kernel) rfl ?_
  refine fs_aloadn (j := 0) (by decide +kernel) rfl ?_
  refine fe_getR (idx := 7) (t := 8) (f := 0) (fk := 2) (fin := 1) (wp := 945) (x := 232) (by decide +kernel) (by decide +kernel) (by decide +kernel) (by decide +kernel) (by decide +kernel) ?_
  refine fs_iconst (n := 4) (v := 4) (by decide +kernel) (by decide) ?_
  refine fx_iald (n := 4) (len := 373) (by decide +kernel) (by decide +kernel) (by decide +kernel) (vp_c (by decide) (by decide)) (by decide) ?_
  exact fe_callV (t := 8) (idx := 175) (n := 1) (wp := 1142) (q := (1144, 46)) (as := [.int (S.1 232 4)]) (rs := [.int (S.1 232 ((131 + x1).toNatClampNeg)), .ref 231]) (by decide +kernel) (by decide +kernel) (by decide +kernel) (by decide +kernel) rfl (Nat.le_of_ble_eq_true rfl) rfl hc nx
theorem b_M_opening_32 {d : Nat} {x1 : Int32} {x2 : Int32} {x3 : Int32} {x4 : Int32} {o5 : Option Value} {o6 : Option Value} {sx1 : Int32} {sx2 : Int32} {S1 : fm_S} {S : fm_S} {r : Option Value × am_W} (hc : am_Sp d k_M_spread [.ref 231, .int sx1, .int sx2, .int x2, .int x3] (fm_mk S) (none) (fm_mk S1)) (nx : am_Ev (d + 1) k_M_opening 37 [some (.ref 231), some (.int x1), some (.int x2), some (.int x3), some (.int x4), o5, o6] [] (fm_mk S1) r) : am_Ev (d + 1) k_M_opening 32 [some (.ref 231), some (.int x1), some (.int x2), some (.int x3), some (.int x4), o5, o6] [.int sx2, .int sx1, .ref 231] (fm_mk S) r := by
  refine fs_iloadn (j := 2) (by decide +kernel) rfl ?_
  refine fs_iloadn (j := 3) (by decide +kernel) rfl ?_
  exact fe_callV (t := 8) (idx := 178) (n := 4) (wp := 1146) (q := (1148, 47)) (as := [.int sx1, .int sx2, .int x2, .int x3]) (rs := []) (by decide +kernel) (by decide +kernel) (by decide +kernel) (by decide +kernel) rfl (Nat.le_of_ble_eq_true rfl) rfl hc nx
theorem b_M_opening_37 {d : Nat} {x1 : Int32} {x2 : Int32} {x3 : Int32} {x4 : Int32} {o5 : Option Value} {o6 : Option Value} {S : fm_S} {r : Option Value × am_W} (nx : am_Ev d k_M_opening 40 [some (.ref 231), some (.int x1), some (.int x2), some (.int x3), some (.int x4), some (.int 0), o6] [] (fm_mk S) r) : am_Ev d k_M_opening 37 [some (.ref 231), some (.int x1), some (.int x2), some (.int x3), some (.int x4), o5, o6] [] (fm_mk S) r := by
  refine fs_iconst (n := 0) (v := 0) (by decide +kernel) (by decide) ?_
  refine fs_istore (j := 5) (L' := [some (.ref 231), some (.int x1), some (.int x2), some (.int x3), some (.int x4), some (.int 0), o6]) (by decide +kernel) (Nat.le_of_ble_eq_true rfl) rfl ?_
  exact nx
theorem b_M_opening_40 {d : Nat} {x1 : Int32} {x2 : Int32} {x3 : Int32} {x4 : Int32} {x5 : Int32} {o6 : Option Value} {S : fm_S} {r : Option Value × am_W} (kt : (S.1 232 0) ≤ x5 → am_Ev d k_M_opening 129 [some (.ref 231), some (.int x1), some (.int x2), some (.int x3), some (.int x4), some (.int x5), o6] [] (fm_mk S) r) (kf : ¬ (S.1 232 0) ≤ x5 → am_Ev d k_M_opening 51 [some (.ref 231), some (.int x1), some (.int x2), some (.int x3), some (.int x4), some (.int x5), o6] [] (fm_mk S) r) : am_Ev d k_M_opening 40 [some (.ref 231), some (.int x1), some (.int x2), some (.int x3), some (.int x4), some (.int x5), o6] [] (fm_mk S) r := by
  refine fs_iload (j := 5) (by decide +kernel) rfl ?_
  refine fs_aloadn (j := 0) (by decide +kernel) rfl ?_
  refine fe_getR (idx := 7) (t := 8) (f := 0) (fk := 2) (fin := 1) (wp := 945) (x := 232) (by decide +kernel) (by decide +kernel) (by decide +kernel) (by decide +kernel) (by decide +kernel) ?_
  refine fs_iconst (n := 0) (v := 0) (by decide +kernel) (by decide) ?_
  refine fx_iald (n := 0) (len := 373) (by decide +kernel) (by decide +kernel) (by decide +kernel) (vp_c (by decide) (by decide)) (by decide) ?_
  exact fs_icge (off := 81) (tgt := 129) (by decide +kernel) (by decide) kt kf
theorem b_M_opening_51 {d : Nat} {x1 : Int32} {x2 : Int32} {x3 : Int32} {x4 : Int32} {x5 : Int32} {o6 : Option Value} {S : fm_S} {r : Option Value × am_W} (hi0 : vp_in (29 + x5) 373) (kt : ¬ (S.1 232 ((29 + x5).toNatClampNeg)) = (-1) → am_Ev d k_M_opening 102 [some (.ref 231), some (.int x1), some (.int x2), some (.int x3), some (.int x4), some (.int x5), o6] [] (fm_mk S) r) (kf : (S.1 232 ((29 + x5).toNatClampNeg)) = (-1) → am_Ev d k_M_opening 65 [some (.ref 231), some (.int x1), some (.int x2), some (.int x3), some (.int x4), some (.int x5), o6] [] (fm_mk S) r) : am_Ev d k_M_opening 51 [some (.ref 231), some (.int x1), some (.int x2), some (.int x3), some (.int x4), some (.int x5), o6] [] (fm_mk S) r := by
  refine fs_aloadn (j := 0) (by decide +kernel) rfl ?_
  refine fe_getR (idx := 7) (t := 8) (f := 0) (fk := 2) (fin := 1) (wp := 945) (x := 232) (by decide +kernel) (by decide +kernel) (by decide +kernel) (by decide +kernel) (by decide +kernel) ?_
  refine fs_bipush (n := 29) (v := 29) (by decide +kernel) (by decide) ?_
  refine fs_iload (j := 5) (by decide +kernel) rfl ?_
  refine fs_iadd (by decide +kernel) ?_
  refine fx_iald (n := (29 + x5).toNatClampNeg) (len := 373) (by decide +kernel) (by decide +kernel) (by decide +kernel) hi0 rfl ?_
  refine fs_iconst (n := -1) (v := (-1)) (by decide +kernel) (by decide) ?_
  exact fs_icne (off := 40) (tgt := 102) (by decide +kernel) (by decide) kt kf
theorem b_M_opening_65 {d : Nat} {x1 : Int32} {x2 : Int32} {x3 : Int32} {x4 : Int32} {x5 : Int32} {o6 : Option Value} {v : Int32} {S1 : fm_S} {S : fm_S} {r : Option Value × am_W} (hi0 : vp_in (125 + x1) 373) (hi1 : vp_in x5 8) (hc : am_Sp d k_M_movedIn [.ref 231, .int x5, .int (S.1 232 ((125 + x1).toNatClampNeg)), .int (S.1 238 x5.toNatClampNeg), .int (S.1 232 4)] (fm_mk S) (some (.int v)) (fm_mk S1)) (nx : am_Ev (d + 1) k_M_opening 93 [some (.ref 231), some (.int x1), some (.int x2), some (.int x3), some (.int x4), some (.int x5), o6] [.int v] (fm_mk S1) r) : am_Ev (d + 1) k_M_opening 65 [some (.ref 231), some (.int x1), some (.int x2), some (.int x3), some (.int x4), some (.int x5), o6] [] (fm_mk S) r := by
  refine fs_aloadn (j := 0) (by decide +kernel) rfl ?_
  refine fs_iload (j := 5) (by decide +kernel) rfl ?_
  refine fs_aloadn (j := 0) (by decide +kernel) rfl ?_
  refine fe_getR (idx := 7) (t := 8) (f := 0) (fk := 2) (fin := 1) (wp := 945) (x := 232) (by decide +kernel) (by decide +kernel) (by decide +kernel) (by decide +kernel) (by decide +kernel) ?_
  refine fs_bipush (n := 125) (v := 125) (by decide +kernel) (by decide) ?_
  refine fs_iloadn (j := 1) (by decide +kernel) rfl ?_
  refine fs_iadd (by decide +kernel) ?_
  refine fx_iald (n := (125 + x1).toNatClampNeg) (len := 373) (by decide +kernel) (by decide +kernel) (by decide +kernel) hi0 rfl ?_
  refine fs_aloadn (j := 0) (by decide +kernel) rfl ?_
  refine fe_getR (idx := 28) (t := 8) (f := 14) (fk := 2) (fin := 1) (wp := 959) (x := 238) (by decide +kernel) (by decide +kernel) (by decide +kernel) (by decide +kernel) (by decide +kernel) ?_
  refine fs_iload (j := 5) (by decide +kernel) rfl ?_
  refine fx_iald (n := x5.toNatClampNeg) (len := 8) (by decide +kernel) (by decide +kernel) (by decide +kernel) hi1 rfl ?_
  refine fs_aloadn (j := 0) (by decide +kernel) rfl ?_
  refine fe_getR (idx := 7) (t := 8) (f := 0) (fk := 2) (fin := 1) (wp := 945) (x := 232) (by decide +kernel) (by decide +kernel) (by decide +kernel) (by decide +kernel) (by decide +kernel) ?_
  refine fs_iconst (n := 4) (v := 4) (by decide +kernel) (by decide) ?_
  refine fx_iald (n := 4) (len := 373) (by decide +kernel) (by decide +kernel) (by decide +kernel) (vp_c (by decide) (by decide)) (by decide) ?_
  exact fe_callV (t := 8) (idx := 182) (n := 4) (wp := 1150) (q := (1152, 48)) (as := [.int x5, .int (S.1 232 ((125 + x1).toNatClampNeg)), .int (S.1 238 x5.toNatClampNeg), .int (S.1 232 4)]) (rs := []) (by decide +kernel) (by decide +kernel) (by decide +kernel) (by decide +kernel) rfl (Nat.le_of_ble_eq_true rfl) rfl hc nx
theorem b_M_opening_93 {d : Nat} {x1 : Int32} {x2 : Int32} {x3 : Int32} {x4 : Int32} {x5 : Int32} {o6 : Option Value} {sx0 : Int32} {S : fm_S} {r : Option Value × am_W} (kt : sx0 < 10 → am_Ev d k_M_opening 102 [some (.ref 231), some (.int x1), some (.int x2), some (.int x3), some (.int x4), some (.int x5), o6] [] (fm_mk S) r) (kf : ¬ sx0 < 10 → am_Ev d k_M_opening 98 [some (.ref 231), some (.int x1), some (.int x2), some (.int x3), some (.int x4), some (.int x5), o6] [] (fm_mk S) r) : am_Ev d k_M_opening 93 [some (.ref 231), some (.int x1), some (.int x2), some (.int x3), some (.int x4), some (.int x5), o6] [.int sx0] (fm_mk S) r := by
  refine fs_bipush (n := 10) (v := 10) (by decide +kernel) (by decide) ?_
  exact fs_iclt (off := 7) (tgt := 102) (by decide +kernel) (by decide) kt kf
theorem b_M_opening_98 {d : Nat} {x1 : Int32} {x2 : Int32} {x3 : Int32} {x4 : Int32} {x5 : Int32} {o6 : Option Value} {S : fm_S} {r : Option Value × am_W} (nx : am_Ev d k_M_opening 103 [some (.ref 231), some (.int x1), some (.int x2), some (.int x3), some (.int x4), some (.int x5), o6] [.int 1] (fm_mk S) r) : am_Ev d k_M_opening 98 [some (.ref 231), some (.int x1), some (.int x2), some (.int x3), some (.int x4), some (.int x5), o6] [] (fm_mk S) r := by
  refine fs_iconst (n := 1) (v := 1) (by decide +kernel) (by decide) ?_
  refine fs_goto (off := 4) (tgt := 103) (by decide +kernel) (by decide) ?_
  exact nx
theorem b_M_opening_102 {d : Nat} {x1 : Int32} {x2 : Int32} {x3 : Int32} {x4 : Int32} {x5 : Int32} {o6 : Option Value} {S : fm_S} {r : Option Value × am_W} (nx : am_Ev d k_M_opening 103 [some (.ref 231), some (.int x1), some (.int x2), some (.int x3), some (.int x4), some (.int x5), o6] [.int 0] (fm_mk S) r) : am_Ev d k_M_opening 102 [some (.ref 231), some (.int x1), some (.int x2), some (.int x3), some (.int x4), some (.int x5), o6] [] (fm_mk S) r := by
  refine fs_iconst (n := 0) (v := 0) (by decide +kernel) (by decide) ?_
  exact nx
theorem b_M_opening_103 {d : Nat} {x1 : Int32} {x2 : Int32} {x3 : Int32} {x4 : Int32} {x5 : Int32} {o6 : Option Value} {sx0 : Int32} {S : fm_S} {r : Option Value × am_W} (kt : sx0 = 0 → am_Ev d k_M_opening 119 [some (.ref 231), some (.int x1), some (.int x2), some (.int x3), some (.int x4), some (.int x5), some (.int sx0)] [.int x4] (fm_mk S) r) (kf : ¬ sx0 = 0 → am_Ev d k_M_opening 112 [some (.ref 231), some (.int x1), some (.int x2), some (.int x3), some (.int x4), some (.int x5), some (.int sx0)] [.int x4] (fm_mk S) r) : am_Ev d k_M_opening 103 [some (.ref 231), some (.int x1), some (.int x2), some (.int x3), some (.int x4), some (.int x5), o6] [.int sx0] (fm_mk S) r := by
  refine fs_istore (j := 6) (L' := [some (.ref 231), some (.int x1), some (.int x2), some (.int x3), some (.int x4), some (.int x5), some (.int sx0)]) (by decide +kernel) (Nat.le_of_ble_eq_true rfl) rfl ?_
  refine fs_iload (j := 4) (by decide +kernel) rfl ?_
  refine fs_iload (j := 6) (by decide +kernel) rfl ?_
  exact fs_ifeq (off := 10) (tgt := 119) (by decide +kernel) (by decide) kt kf
theorem b_M_opening_112 {d : Nat} {x1 : Int32} {x2 : Int32} {x3 : Int32} {x4 : Int32} {x5 : Int32} {x6 : Int32} {sx0 : Int32} {S : fm_S} {r : Option Value × am_W} (nx : am_Ev d k_M_opening 120 [some (.ref 231), some (.int x1), some (.int x2), some (.int x3), some (.int x4), some (.int x5), some (.int x6)] [.int (1 <<< (x5 &&& 31)), .int sx0] (fm_mk S) r) : am_Ev d k_M_opening 112 [some (.ref 231), some (.int x1), some (.int x2), some (.int x3), some (.int x4), some (.int x5), some (.int x6)] [.int sx0] (fm_mk S) r := by
  refine fs_iconst (n := 1) (v := 1) (by decide +kernel) (by decide) ?_
  refine fs_iload (j := 5) (by decide +kernel) rfl ?_
  refine fs_ishl (by decide +kernel) ?_
  refine fs_goto (off := 4) (tgt := 120) (by decide +kernel) (by decide) ?_
  exact nx
theorem b_M_opening_119 {d : Nat} {x1 : Int32} {x2 : Int32} {x3 : Int32} {x4 : Int32} {x5 : Int32} {x6 : Int32} {sx0 : Int32} {S : fm_S} {r : Option Value × am_W} (nx : am_Ev d k_M_opening 120 [some (.ref 231), some (.int x1), some (.int x2), some (.int x3), some (.int x4), some (.int x5), some (.int x6)] [.int 0, .int sx0] (fm_mk S) r) : am_Ev d k_M_opening 119 [some (.ref 231), some (.int x1), some (.int x2), some (.int x3), some (.int x4), some (.int x5), some (.int x6)] [.int sx0] (fm_mk S) r := by
  refine fs_iconst (n := 0) (v := 0) (by decide +kernel) (by decide) ?_
  exact nx
theorem b_M_opening_120 {d : Nat} {x1 : Int32} {x2 : Int32} {x3 : Int32} {x4 : Int32} {x5 : Int32} {x6 : Int32} {sx0 : Int32} {sx1 : Int32} {S : fm_S} {r : Option Value × am_W} (nx : am_Ev d k_M_opening 40 [some (.ref 231), some (.int x1), some (.int x2), some (.int x3), some (.int (sx0 ||| sx1)), some (.int (x5 + 1)), some (.int x6)] [] (fm_mk S) r) : am_Ev d k_M_opening 120 [some (.ref 231), some (.int x1), some (.int x2), some (.int x3), some (.int x4), some (.int x5), some (.int x6)] [.int sx1, .int sx0] (fm_mk S) r := by
  refine fs_ior (by decide +kernel) ?_
  refine fs_istore (j := 4) (L' := [some (.ref 231), some (.int x1), some (.int x2), some (.int x3), some (.int (sx0 ||| sx1)), some (.int x5), some (.int x6)]) (by decide +kernel) (Nat.le_of_ble_eq_true rfl) rfl ?_
  refine fs_iinc (j := 5) (n := 1) (v := 1) (L' := [some (.ref 231), some (.int x1), some (.int x2), some (.int x3), some (.int (sx0 ||| sx1)), some (.int (x5 + 1)), some (.int x6)]) (by decide +kernel) rfl (Nat.le_of_ble_eq_true rfl) (by decide) rfl ?_
  refine fs_goto (off := -86) (tgt := 40) (by decide +kernel) (by decide) ?_
  exact nx
theorem b_M_opening_129 {d : Nat} {x1 : Int32} {x2 : Int32} {x3 : Int32} {x4 : Int32} {o5 : Option Value} {o6 : Option Value} {S : fm_S}  : am_Ev d k_M_opening 129 [some (.ref 231), some (.int x1), some (.int x2), some (.int x3), some (.int x4), o5, o6] [] (fm_mk S) (some (.int x4), fm_mk S) := by
  refine fs_iload (j := 4) (by decide +kernel) rfl ?_
  exact fe_retI (by decide +kernel) (by decide +kernel)
-- KitchenSiegeModel.windOf(I)I
theorem b_M_windOf_0 {d : Nat} {x1 : Int32} {S : fm_S}  (hi0 : vp_in (121 + (x1 - x1 / 4 * 4)) 373) : am_Ev d k_M_windOf 0 [some (.ref 231), some (.int x1)] [] (fm_mk S) (some (.int (S.1 232 ((121 + (x1 - x1 / 4 * 4)).toNatClampNeg))), fm_mk S) := by
  refine fs_aloadn (j := 0) (by decide +kernel) rfl ?_
  refine fe_getR (idx := 7) (t := 8) (f := 0) (fk := 2) (fin := 1) (wp := 945) (x := 232) (by decide +kernel) (by decide +kernel) (by decide +kernel) (by decide +kernel) (by decide +kernel) ?_
  refine fs_bipush (n := 121) (v := 121) (by decide +kernel) (by decide) ?_
  refine fs_iloadn (j := 1) (by decide +kernel) rfl ?_
  refine fs_iconst (n := 4) (v := 4) (by decide +kernel) (by decide) ?_
  refine fe_irem (by decide +kernel) (by decide) ?_
  refine fs_iadd (by decide +kernel) ?_
  refine fx_iald (n := (121 + (x1 - x1 / 4 * 4)).toNatClampNeg) (len := 373) (by decide +kernel) (by decide +kernel) (by decide +kernel) hi0 rfl ?_
  exact fe_retI (by decide +kernel) (by decide +kernel)
-- KitchenSiegeModel.spread(IIII)V
theorem b_M_spread_0 {d : Nat} {x1 : Int32} {x2 : Int32} {x3 : Int32} {x4 : Int32} {o5 : Option Value} {o6 : Option Value} {o7 : Option Value} {o8 : Option Value} {o9 : Option Value} {o10 : Option Value} {S : fm_S} {r : Option Value × am_W} (nx : am_Ev d k_M_spread 3 [some (.ref 231), some (.int x1), some (.int x2), some (.int x3), some (.int x4), some (.int 0), o6, o7, o8, o9, o10] [] (fm_mk S) r) : am_Ev d k_M_spread 0 [some (.ref 231), some (.int x1), some (.int x2), some (.int x3), some (.int x4), o5, o6, o7, o8, o9, o10] [] (fm_mk S) r := by
  refine fs_iconst (n := 0) (v := 0) (by decide +kernel) (by decide) ?_
  refine fs_istore (j := 5) (L' := [some (.ref 231), some (.int x1), some (.int x2), some (.int x3), some (.int x4), some (.int 0), o6, o7, o8, o9, o10]) (by decide +kernel) (Nat.le_of_ble_eq_true rfl) rfl ?_
  exact nx
theorem b_M_spread_3 {d : Nat} {x1 : Int32} {x2 : Int32} {x3 : Int32} {x4 : Int32} {x5 : Int32} {o6 : Option Value} {o7 : Option Value} {o8 : Option Value} {o9 : Option Value} {o10 : Option Value} {S : fm_S} {r : Option Value × am_W} (kt : 8 ≤ x5 → am_Ev d k_M_spread 24 [some (.ref 231), some (.int x1), some (.int x2), some (.int x3), some (.int x4), some (.int x5), o6, o7, o8, o9, o10] [] (fm_mk S) r) (kf : ¬ 8 ≤ x5 → am_Ev d k_M_spread 10 [some (.ref 231), some (.int x1), some (.int x2), some (.int x3), some (.int x4), some (.int x5), o6, o7, o8, o9, o10] [] (fm_mk S) r) : am_Ev d k_M_spread 3 [some (.ref 231), some (.int x1), some (.int x2), some (.int x3), some (.int x4), some (.int x5), o6, o7, o8, o9, o10] [] (fm_mk S) r := by
  refine fs_iload (j := 5) (by decide +kernel) rfl ?_
  refine fs_bipush (n := 8) (v := 8) (by decide +kernel) (by decide) ?_
  exact fs_icge (off := 17) (tgt := 24) (by decide +kernel) (by decide) kt kf
theorem b_M_spread_10 {d : Nat} {x1 : Int32} {x2 : Int32} {x3 : Int32} {x4 : Int32} {x5 : Int32} {o6 : Option Value} {o7 : Option Value} {o8 : Option Value} {o9 : Option Value} {o10 : Option Value} {S : fm_S} {r : Option Value × am_W} (hi0 : vp_in x5 8) (nx : am_Ev d k_M_spread 3 [some (.ref 231), some (.int x1), some (.int x2), some (.int x3), some (.int x4), some (.int (x5 + 1)), o6, o7, o8, o9, o10] [] (fm_mk (fm_wI S 238 x5.toNatClampNeg 0)) r) : am_Ev d k_M_spread 10 [some (.ref 231), some (.int x1), some (.int x2), some (.int x3), some (.int x4), some (.int x5), o6, o7, o8, o9, o10] [] (fm_mk S) r := by
  refine fs_aloadn (j := 0) (by decide +kernel) rfl ?_
  refine fe_getR (idx := 28) (t := 8) (f := 14) (fk := 2) (fin := 1) (wp := 959) (x := 238) (by decide +kernel) (by decide +kernel) (by decide +kernel) (by decide +kernel) (by decide +kernel) ?_
  refine fs_iload (j := 5) (by decide +kernel) rfl ?_
  refine fs_iconst (n := 0) (v := 0) (by decide +kernel) (by decide) ?_
  refine fx_iast (n := x5.toNatClampNeg) (len := 8) (by decide +kernel) (by decide +kernel) (by decide +kernel) hi0 rfl ?_
  refine fs_iinc (j := 5) (n := 1) (v := 1) (L' := [some (.ref 231), some (.int x1), some (.int x2), some (.int x3), some (.int x4), some (.int (x5 + 1)), o6, o7, o8, o9, o10]) (by decide +kernel) rfl (Nat.le_of_ble_eq_true rfl) (by decide) rfl ?_
  refine fs_goto (off := -18) (tgt := 3) (by decide +kernel) (by decide) ?_
  exact nx
theorem b_M_spread_24 {d : Nat} {x1 : Int32} {x2 : Int32} {x3 : Int32} {x4 : Int32} {x5 : Int32} {o6 : Option Value} {o7 : Option Value} {o8 : Option Value} {o9 : Option Value} {o10 : Option Value} {v : Int32} {S1 : fm_S} {S : fm_S} {r : Option Value × am_W} (hi0 : vp_in (117 + x2) 373) (hc : am_Sp d k_M_isStreet [.ref 231, .int (S.1 232 ((117 + x2).toNatClampNeg))] (fm_mk S) (some (.int v)) (fm_mk S1)) (nx : am_Ev (d + 1) k_M_spread 41 [some (.ref 231), some (.int x1), some (.int x2), some (.int x3), some (.int x4), some (.int (S.1 232 ((117 + x2).toNatClampNeg))), o6, o7, o8, o9, o10] [.int v] (fm_mk S1) r) : am_Ev (d + 1) k_M_spread 24 [some (.ref 231), some (.int x1), some (.int x2), some (.int x3), some (.int x4), some (.int x5), o6, o7, o8, o9, o10] [] (fm_mk S) r := by
  refine fs_aloadn (j := 0) (by decide +kernel) rfl ?_
  refine fe_getR (idx := 7) (t := 8) (f := 0) (fk := 2) (fin := 1) (wp := 945) (x := 232) (by decide +kernel) (by decide +kernel) (by decide +kernel) (by decide +kernel) (by decide +kernel) ?_
  refine fs_bipush (n := 117) (v := 117) (by decide +kernel) (by decide) ?_
  refine fs_iloadn (j := 2) (by decide +kernel) rfl ?_
  refine fs_iadd (by decide +kernel) ?_
  refine fx_iald (n := (117 + x2).toNatClampNeg) (len := 373) (by decide +kernel) (by decide +kernel) (by decide +kernel) hi0 rfl ?_
  refine fs_istore (j := 5) (L' := [some (.ref 231), some (.int x1), some (.int x2), some (.int x3), some (.int x4), some (.int (S.1 232 ((117 + x2).toNatClampNeg))), o6, o7, o8, o9, o10]) (by decide +kernel) (Nat.le_of_ble_eq_true rfl) rfl ?_
  refine fs_aloadn (j := 0) (by decide +kernel) rfl ?_
  refine fs_iload (j := 5) (by decide +kernel) rfl ?_
  exact fe_callV (t := 8) (idx := 84) (n := 1) (wp := 1035) (q := (1037, 33)) (as := [.int (S.1 232 ((117 + x2).toNatClampNeg))]) (rs := []) (by decide +kernel) (by decide +kernel) (by decide +kernel) (by decide +kernel) rfl (Nat.le_of_ble_eq_true rfl) rfl hc nx
theorem b_M_spread_41 {d : Nat} {x1 : Int32} {x2 : Int32} {x3 : Int32} {x4 : Int32} {x5 : Int32} {o6 : Option Value} {o7 : Option Value} {o8 : Option Value} {o9 : Option Value} {o10 : Option Value} {sx0 : Int32} {S : fm_S} {r : Option Value × am_W} (kt : ¬ sx0 = 0 → am_Ev d k_M_spread 45 [some (.ref 231), some (.int x1), some (.int x2), some (.int x3), some (.int x4), some (.int x5), o6, o7, o8, o9, o10] [] (fm_mk S) r) (kf : sx0 = 0 → am_Ev d k_M_spread 44 [some (.ref 231), some (.int x1), some (.int x2), some (.int x3), some (.int x4), some (.int x5), o6, o7, o8, o9, o10] [] (fm_mk S) r) : am_Ev d k_M_spread 41 [some (.ref 231), some (.int x1), some (.int x2), some (.int x3), some (.int x4), some (.int x5), o6, o7, o8, o9, o10] [.int sx0] (fm_mk S) r := by
  exact fs_ifne (off := 4) (tgt := 45) (by decide +kernel) (by decide) kt kf
theorem b_M_spread_44 {d : Nat} {x1 : Int32} {x2 : Int32} {x3 : Int32} {x4 : Int32} {x5 : Int32} {o6 : Option Value} {o7 : Option Value} {o8 : Option Value} {o9 : Option Value} {o10 : Option Value} {S : fm_S}  : am_Ev d k_M_spread 44 [some (.ref 231), some (.int x1), some (.int x2), some (.int x3), some (.int x4), some (.int x5), o6, o7, o8, o9, o10] [] (fm_mk S) (none, fm_mk S) := by
  exact fe_retV (by decide +kernel) (by decide +kernel)
theorem b_M_spread_45 {d : Nat} {x1 : Int32} {x2 : Int32} {x3 : Int32} {x4 : Int32} {x5 : Int32} {o6 : Option Value} {o7 : Option Value} {o8 : Option Value} {o9 : Option Value} {o10 : Option Value} {S : fm_S} {r : Option Value × am_W} (hi0 : vp_in (13 + x5) 373) (kt : ¬ x5 = x3 → am_Ev d k_M_spread 68 [some (.ref 231), some (.int x1), some (.int x2), some (.int x3), some (.int x4), some (.int x5), o6, o7, o8, o9, o10] [.int (x1 - (S.1 232 ((13 + x5).toNatClampNeg)))] (fm_mk S) r) (kf : x5 = x3 → am_Ev d k_M_spread 63 [some (.ref 231), some (.int x1), some (.int x2), some (.int x3), some (.int x4), some (.int x5), o6, o7, o8, o9, o10] [.int (x1 - (S.1 232 ((13 + x5).toNatClampNeg)))] (fm_mk S) r) : am_Ev d k_M_spread 45 [some (.ref 231), some (.int x1), some (.int x2), some (.int x3), some (.int x4), some (.int x5), o6, o7, o8, o9, o10] [] (fm_mk S) r := by
  refine fs_iloadn (j := 1) (by decide +kernel) rfl ?_
  refine fs_aloadn (j := 0) (by decide +kernel) rfl ?_
  refine fe_getR (idx := 7) (t := 8) (f := 0) (fk := 2) (fin := 1) (wp := 945) (x := 232) (by decide +kernel) (by decide +kernel) (by decide +kernel) (by decide +kernel) (by decide +kernel) ?_
  refine fs_bipush (n := 13) (v := 13) (by decide +kernel) (by decide) ?_
  refine fs_iload (j := 5) (by decide +kernel) rfl ?_
  refine fs_iadd (by decide +kernel) ?_
  refine fx_iald (n := (13 + x5).toNatClampNeg) (len := 373) (by decide +kernel) (by decide +kernel) (by decide +kernel) hi0 rfl ?_
  refine fs_isub (by decide +kernel) ?_
  refine fs_iload (j := 5) (by decide +kernel) rfl ?_
  refine fs_iloadn (j := 3) (by decide +kernel) rfl ?_
  exact fs_icne (off := 8) (tgt := 68) (by decide +kernel) (by decide) kt kf
theorem b_M_spread_63 {d : Nat} {x1 : Int32} {x2 : Int32} {x3 : Int32} {x4 : Int32} {x5 : Int32} {o6 : Option Value} {o7 : Option Value} {o8 : Option Value} {o9 : Option Value} {o10 : Option Value} {sx0 : Int32} {S : fm_S} {r : Option Value × am_W} (nx : am_Ev d k_M_spread 69 [some (.ref 231), some (.int x1), some (.int x2), some (.int x3), some (.int x4), some (.int x5), o6, o7, o8, o9, o10] [.int x4, .int sx0] (fm_mk S) r) : am_Ev d k_M_spread 63 [some (.ref 231), some (.int x1), some (.int x2), some (.int x3), some (.int x4), some (.int x5), o6, o7, o8, o9, o10] [.int sx0] (fm_mk S) r := by
  refine fs_iload (j := 4) (by decide +kernel) rfl ?_
  refine fs_goto (off := 4) (tgt := 69) (by decide +kernel) (by decide) ?_
  exact nx
theorem b_M_spread_68 {d : Nat} {x1 : Int32} {x2 : Int32} {x3 : Int32} {x4 : Int32} {x5 : Int32} {o6 : Option Value} {o7 : Option Value} {o8 : Option Value} {o9 : Option Value} {o10 : Option Value} {sx0 : Int32} {S : fm_S} {r : Option Value × am_W} (nx : am_Ev d k_M_spread 69 [some (.ref 231), some (.int x1), some (.int x2), some (.int x3), some (.int x4), some (.int x5), o6, o7, o8, o9, o10] [.int 0, .int sx0] (fm_mk S) r) : am_Ev d k_M_spread 68 [some (.ref 231), some (.int x1), some (.int x2), some (.int x3), some (.int x4), some (.int x5), o6, o7, o8, o9, o10] [.int sx0] (fm_mk S) r := by
  refine fs_iconst (n := 0) (v := 0) (by decide +kernel) (by decide) ?_
  exact nx
theorem b_M_spread_69 {d : Nat} {x1 : Int32} {x2 : Int32} {x3 : Int32} {x4 : Int32} {x5 : Int32} {o6 : Option Value} {o7 : Option Value} {o8 : Option Value} {o9 : Option Value} {o10 : Option Value} {sx0 : Int32} {sx1 : Int32} {S : fm_S} {r : Option Value × am_W} (kt : (sx0 - sx1) ≤ 0 → am_Ev d k_M_spread 88 [some (.ref 231), some (.int x1), some (.int x2), some (.int x3), some (.int x4), some (.int x5), some (.int (sx0 - sx1)), o7, o8, o9, o10] [.int x5, .ref 238] (fm_mk S) r) (kf : ¬ (sx0 - sx1) ≤ 0 → am_Ev d k_M_spread 83 [some (.ref 231), some (.int x1), some (.int x2), some (.int x3), some (.int x4), some (.int x5), some (.int (sx0 - sx1)), o7, o8, o9, o10] [.int x5, .ref 238] (fm_mk S) r) : am_Ev d k_M_spread 69 [some (.ref 231), some (.int x1), some (.int x2), some (.int x3), some (.int x4), some (.int x5), o6, o7, o8, o9, o10] [.int sx1, .int sx0] (fm_mk S) r := by
  refine fs_isub (by decide +kernel) ?_
  refine fs_istore (j := 6) (L' := [some (.ref 231), some (.int x1), some (.int x2), some (.int x3), some (.int x4), some (.int x5), some (.int (sx0 - sx1)), o7, o8, o9, o10]) (by decide +kernel) (Nat.le_of_ble_eq_true rfl) rfl ?_
  refine fs_aloadn (j := 0) (by decide +kernel) rfl ?_
  refine fe_getR (idx := 28) (t := 8) (f := 14) (fk := 2) (fin := 1) (wp := 959) (x := 238) (by decide +kernel) (by decide +kernel) (by decide +kernel) (by decide +kernel) (by decide +kernel) ?_
  refine fs_iload (j := 5) (by decide +kernel) rfl ?_
  refine fs_iload (j := 6) (by decide +kernel) rfl ?_
  exact fs_ifle (off := 8) (tgt := 88) (by decide +kernel) (by decide) kt kf
theorem b_M_spread_83 {d : Nat} {x1 : Int32} {x2 : Int32} {x3 : Int32} {x4 : Int32} {x5 : Int32} {x6 : Int32} {o7 : Option Value} {o8 : Option Value} {o9 : Option Value} {o10 : Option Value} {sx1 : Int32} {S : fm_S} {r : Option Value × am_W} (nx : am_Ev d k_M_spread 89 [some (.ref 231), some (.int x1), some (.int x2), some (.int x3), some (.int x4), some (.int x5), some (.int x6), o7, o8, o9, o10] [.int x6, .int sx1, .ref 238] (fm_mk S) r) : am_Ev d k_M_spread 83 [some (.ref 231), some (.int x1), some (.int x2), some (.int x3), some (.int x4), some (.int x5), some (.int x6), o7, o8, o9, o10] [.int sx1, .ref 238] (fm_mk S) r := by
  refine fs_iload (j := 6) (by decide +kernel) rfl ?_
  refine fs_goto (off := 4) (tgt := 89) (by decide +kernel) (by decide) ?_
  exact nx
theorem b_M_spread_88 {d : Nat} {x1 : Int32} {x2 : Int32} {x3 : Int32} {x4 : Int32} {x5 : Int32} {x6 : Int32} {o7 : Option Value} {o8 : Option Value} {o9 : Option Value} {o10 : Option Value} {sx1 : Int32} {S : fm_S} {r : Option Value × am_W} (nx : am_Ev d k_M_spread 89 [some (.ref 231), some (.int x1), some (.int x2), some (.int x3), some (.int x4), some (.int x5), some (.int x6), o7, o8, o9, o10] [.int 0, .int sx1, .ref 238] (fm_mk S) r) : am_Ev d k_M_spread 88 [some (.ref 231), some (.int x1), some (.int x2), some (.int x3), some (.int x4), some (.int x5), some (.int x6), o7, o8, o9, o10] [.int sx1, .ref 238] (fm_mk S) r := by
  refine fs_iconst (n := 0) (v := 0) (by decide +kernel) (by decide) ?_
  exact nx
theorem b_M_spread_89 {d : Nat} {x1 : Int32} {x2 : Int32} {x3 : Int32} {x4 : Int32} {x5 : Int32} {x6 : Int32} {o7 : Option Value} {o8 : Option Value} {o9 : Option Value} {o10 : Option Value} {sx1 : Int32} {sx2 : Int32} {S : fm_S} {r : Option Value × am_W} (hi0 : vp_in sx1 8) (nx : am_Ev d k_M_spread 93 [some (.ref 231), some (.int x1), some (.int x2), some (.int x3), some (.int x4), some (.int x5), some (.int x6), some (.int 1), o8, o9, o10] [] (fm_mk (fm_wI S 238 sx1.toNatClampNeg sx2)) r) : am_Ev d k_M_spread 89 [some (.ref 231), some (.int x1), some (.int x2), some (.int x3), some (.int x4), some (.int x5), some (.int x6), o7, o8, o9, o10] [.int sx2, .int sx1, .ref 238] (fm_mk S) r := by
  refine fx_iast (n := sx1.toNatClampNeg) (len := 8) (by decide +kernel) (by decide +kernel) (by decide +kernel) hi0 rfl ?_
  refine fs_iconst (n := 1) (v := 1) (by decide +kernel) (by decide) ?_
  refine fs_istore (j := 7) (L' := [some (.ref 231), some (.int x1), some (.int x2), some (.int x3), some (.int x4), some (.int x5), some (.int x6), some (.int 1), o8, o9, o10]) (by decide +kernel) (Nat.le_of_ble_eq_true rfl) rfl ?_
  exact nx
theorem b_M_spread_93 {d : Nat} {x1 : Int32} {x2 : Int32} {x3 : Int32} {x4 : Int32} {x5 : Int32} {x6 : Int32} {x7 : Int32} {o8 : Option Value} {o9 : Option Value} {o10 : Option Value} {S : fm_S} {r : Option Value × am_W} (kt : x7 = 0 → am_Ev d k_M_spread 238 [some (.ref 231), some (.int x1), some (.int x2), some (.int x3), some (.int x4), some (.int x5), some (.int x6), some (.int x7), o8, o9, o10] [] (fm_mk S) r) (kf : ¬ x7 = 0 → am_Ev d k_M_spread 98 [some (.ref 231), some (.int x1), some (.int x2), some (.int x3), some (.int x4), some (.int x5), some (.int x6), some (.int x7), o8, o9, o10] [] (fm_mk S) r) : am_Ev d k_M_spread 93 [some (.ref 231), some (.int x1), some (.int x2), some (.int x3), some (.int x4), some (.int x5), some (.int x6), some (.int x7), o8, o9, o10] [] (fm_mk S) r := by
  refine fs_iload (j := 7) (by decide +kernel) rfl ?_
  exact fs_ifeq (off := 143) (tgt := 238) (by decide +kernel) (by decide) kt kf
theorem b_M_spread_98 {d : Nat} {x1 : Int32} {x2 : Int32} {x3 : Int32} {x4 : Int32} {x5 : Int32} {x6 : Int32} {x7 : Int32} {o8 : Option Value} {o9 : Option Value} {o10 : Option Value} {S : fm_S} {r : Option Value × am_W} (nx : am_Ev d k_M_spread 104 [some (.ref 231), some (.int x1), some (.int x2), some (.int x3), some (.int x4), some (.int x5), some (.int x6), some (.int 0), some (.int 0), o9, o10] [] (fm_mk S) r) : am_Ev d k_M_spread 98 [some (.ref 231), some (.int x1), some (.int x2), some (.int x3), some (.int x4), some (.int x5), some (.int x6), some (.int x7), o8, o9, o10] [] (fm_mk S) r := by
  refine fs_iconst (n := 0) (v := 0) (by decide +kernel) (by decide) ?_
  refine fs_istore (j := 7) (L' := [some (.ref 231), some (.int x1), some (.int x2), some (.int x3), some (.int x4), some (.int x5), some (.int x6), some (.int 0), o8, o9, o10]) (by decide +kernel) (Nat.le_of_ble_eq_true rfl) rfl ?_
  refine fs_iconst (n := 0) (v := 0) (by decide +kernel) (by decide) ?_
  refine fs_istore (j := 8) (L' := [some (.ref 231), some (.int x1), some (.int x2), some (.int x3), some (.int x4), some (.int x5), some (.int x6), some (.int 0), some (.int 0), o9, o10]) (by decide +kernel) (Nat.le_of_ble_eq_true rfl) rfl ?_
  exact nx
theorem b_M_spread_104 {d : Nat} {x1 : Int32} {x2 : Int32} {x3 : Int32} {x4 : Int32} {x5 : Int32} {x6 : Int32} {x7 : Int32} {x8 : Int32} {o9 : Option Value} {o10 : Option Value} {S : fm_S} {r : Option Value × am_W} (kt : 64 ≤ x8 → am_Ev d k_M_spread 235 [some (.ref 231), some (.int x1), some (.int x2), some (.int x3), some (.int x4), some (.int x5), some (.int x6), some (.int x7), some (.int x8), o9, o10] [] (fm_mk S) r) (kf : ¬ 64 ≤ x8 → am_Ev d k_M_spread 111 [some (.ref 231), some (.int x1), some (.int x2), some (.int x3), some (.int x4), some (.int x5), some (.int x6), some (.int x7), some (.int x8), o9, o10] [] (fm_mk S) r) : am_Ev d k_M_spread 104 [some (.ref 231), some (.int x1), some (.int x2), some (.int x3), some (.int x4), some (.int x5), some (.int x6), some (.int x7), some (.int x8), o9, o10] [] (fm_mk S) r := by
  refine fs_iload (j := 8) (by decide +kernel) rfl ?_
  refine fs_bipush (n := 64) (v := 64) (by decide +kernel) (by decide) ?_
  exact fs_icge (off := 127) (tgt := 235) (by decide +kernel) (by decide) kt kf
theorem b_M_spread_111 {d : Nat} {x1 : Int32} {x2 : Int32} {x3 : Int32} {x4 : Int32} {x5 : Int32} {x6 : Int32} {x7 : Int32} {x8 : Int32} {o9 : Option Value} {o10 : Option Value} {S : fm_S} {r : Option Value × am_W} (hi0 : vp_in (53 + x8) 373) (kt : ¬ (S.1 232 ((53 + x8).toNatClampNeg)) = 1 → am_Ev d k_M_spread 171 [some (.ref 231), some (.int x1), some (.int x2), some (.int x3), some (.int x4), some (.int x5), some (.int x6), some (.int x7), some (.int x8), some (.int (x8 - x8 / 8 * 8)), o10] [] (fm_mk S) r) (kf : (S.1 232 ((53 + x8).toNatClampNeg)) = 1 → am_Ev d k_M_spread 132 [some (.ref 231), some (.int x1), some (.int x2), some (.int x3), some (.int x4), some (.int x5), some (.int x6), some (.int x7), some (.int x8), some (.int (x8 - x8 / 8 * 8)), o10] [] (fm_mk S) r) : am_Ev d k_M_spread 111 [some (.ref 231), some (.int x1), some (.int x2), some (.int x3), some (.int x4), some (.int x5), some (.int x6), some (.int x7), some (.int x8), o9, o10] [] (fm_mk S) r := by
  refine fs_iload (j := 8) (by decide +kernel) rfl ?_
  refine fs_bipush (n := 8) (v := 8) (by decide +kernel) (by decide) ?_
  refine fe_irem (by decide +kernel) (by decide) ?_
  refine fs_istore (j := 9) (L' := [some (.ref 231), some (.int x1), some (.int x2), some (.int x3), some (.int x4), some (.int x5), some (.int x6), some (.int x7), some (.int x8), some (.int (x8 - x8 / 8 * 8)), o10]) (by decide +kernel) (Nat.le_of_ble_eq_true rfl) rfl ?_
  refine fs_aloadn (j := 0) (by decide +kernel) rfl ?_
  refine fe_getR (idx := 7) (t := 8) (f := 0) (fk := 2) (fin := 1) (wp := 945) (x := 232) (by decide +kernel) (by decide +kernel) (by decide +kernel) (by decide +kernel) (by decide +kernel) ?_
  refine fs_bipush (n := 53) (v := 53) (by decide +kernel) (by decide) ?_
  refine fs_iload (j := 8) (by decide +kernel) rfl ?_
  refine fs_iadd (by decide +kernel) ?_
  refine fx_iald (n := (53 + x8).toNatClampNeg) (len := 373) (by decide +kernel) (by decide +kernel) (by decide +kernel) hi0 rfl ?_
  refine fs_iconst (n := 1) (v := 1) (by decide +kernel) (by decide) ?_
  exact fs_icne (off := 42) (tgt := 171) (by decide +kernel) (by decide) kt kf
theorem b_M_spread_132 {d : Nat} {x1 : Int32} {x2 : Int32} {x3 : Int32} {x4 : Int32} {x5 : Int32} {x6 : Int32} {x7 : Int32} {x8 : Int32} {x9 : Int32} {o10 : Option Value} {S : fm_S} {r : Option Value × am_W} (hi0 : vp_in (x8 / 8) 8) (hi1 : vp_in (13 + x9) 373) (kt : ¬ x9 = x3 → am_Ev d k_M_spread 166 [some (.ref 231), some (.int x1), some (.int x2), some (.int x3), some (.int x4), some (.int x5), some (.int x6), some (.int x7), some (.int x8), some (.int x9), o10] [.int (((S.1 238 ((x8 / 8).toNatClampNeg)) - 2) - (S.1 232 ((13 + x9).toNatClampNeg)))] (fm_mk S) r) (kf : x9 = x3 → am_Ev d k_M_spread 161 [some (.ref 231), some (.int x1), some (.int x2), some (.int x3), some (.int x4), some (.int x5), some (.int x6), some (.int x7), some (.int x8), some (.int x9), o10] [.int (((S.1 238 ((x8 / 8).toNatClampNeg)) - 2) - (S.1 232 ((13 + x9).toNatClampNeg)))] (fm_mk S) r) : am_Ev d k_M_spread 132 [some (.ref 231), some (.int x1), some (.int x2), some (.int x3), some (.int x4), some (.int x5), some (.int x6), some (.int x7), some (.int x8), some (.int x9), o10] [] (fm_mk S) r := by
  refine fs_aloadn (j := 0) (by decide +kernel) rfl ?_
  refine fe_getR (idx := 28) (t := 8) (f := 14) (fk := 2) (fin := 1) (wp := 959) (x := 238) (by decide +kernel) (by decide +kernel) (by decide +kernel) (by decide +kernel) (by decide +kernel) ?_
  refine fs_iload (j := 8) (by decide +kernel) rfl ?_
  refine fs_bipush (n := 8) (v := 8) (by decide +kernel) (by decide) ?_
  refine fe_idiv (by decide +kernel) (by decide) ?_
  refine fx_iald (n := (x8 / 8).toNatClampNeg) (len := 8) (by decide +kernel) (by decide +kernel) (by decide +kernel) hi0 rfl ?_
  refine fs_iconst (n := 2) (v := 2) (by decide +kernel) (by decide) ?_
  refine fs_isub (by decide +kernel) ?_
  refine fs_aloadn (j := 0) (by decide +kernel) rfl ?_
  refine fe_getR (idx := 7) (t := 8) (f := 0) (fk := 2) (fin := 1) (wp := 945) (x := 232) (by decide +kernel) (by decide +kernel) (by decide +kernel) (by decide +kernel) (by decide +kernel) ?_
  refine fs_bipush (n := 13) (v := 13) (by decide +kernel) (by decide) ?_
  refine fs_iload (j := 9) (by decide +kernel) rfl ?_
  refine fs_iadd (by decide +kernel) ?_
  refine fx_iald (n := (13 + x9).toNatClampNeg) (len := 373) (by decide +kernel) (by decide +kernel) (by decide +kernel) hi1 rfl ?_
  refine fs_isub (by decide +kernel) ?_
  refine fs_iload (j := 9) (by decide +kernel) rfl ?_
  refine fs_iloadn (j := 3) (by decide +kernel) rfl ?_
  exact fs_icne (off := 8) (tgt := 166) (by decide +kernel) (by decide) kt kf
theorem b_M_spread_161 {d : Nat} {x1 : Int32} {x2 : Int32} {x3 : Int32} {x4 : Int32} {x5 : Int32} {x6 : Int32} {x7 : Int32} {x8 : Int32} {x9 : Int32} {o10 : Option Value} {sx0 : Int32} {S : fm_S} {r : Option Value × am_W} (nx : am_Ev d k_M_spread 167 [some (.ref 231), some (.int x1), some (.int x2), some (.int x3), some (.int x4), some (.int x5), some (.int x6), some (.int x7), some (.int x8), some (.int x9), o10] [.int x4, .int sx0] (fm_mk S) r) : am_Ev d k_M_spread 161 [some (.ref 231), some (.int x1), some (.int x2), some (.int x3), some (.int x4), some (.int x5), some (.int x6), some (.int x7), some (.int x8), some (.int x9), o10] [.int sx0] (fm_mk S) r := by
  refine fs_iload (j := 4) (by decide +kernel) rfl ?_
  refine fs_goto (off := 4) (tgt := 167) (by decide +kernel) (by decide) ?_
  exact nx
theorem b_M_spread_166 {d : Nat} {x1 : Int32} {x2 : Int32} {x3 : Int32} {x4 : Int32} {x5 : Int32} {x6 : Int32} {x7 : Int32} {x8 : Int32} {x9 : Int32} {o10 : Option Value} {sx0 : Int32} {S : fm_S} {r : Option Value × am_W} (nx : am_Ev d k_M_spread 167 [some (.ref 231), some (.int x1), some (.int x2), some (.int x3), some (.int x4), some (.int x5), some (.int x6), some (.int x7), some (.int x8), some (.int x9), o10] [.int 0, .int sx0] (fm_mk S) r) : am_Ev d k_M_spread 166 [some (.ref 231), some (.int x1), some (.int x2), some (.int x3), some (.int x4), some (.int x5), some (.int x6), some (.int x7), some (.int x8), some (.int x9), o10] [.int sx0] (fm_mk S) r := by
  refine fs_iconst (n := 0) (v := 0) (by decide +kernel) (by decide) ?_
  exact nx
theorem b_M_spread_167 {d : Nat} {x1 : Int32} {x2 : Int32} {x3 : Int32} {x4 : Int32} {x5 : Int32} {x6 : Int32} {x7 : Int32} {x8 : Int32} {x9 : Int32} {o10 : Option Value} {sx0 : Int32} {sx1 : Int32} {S : fm_S} {r : Option Value × am_W} (nx : am_Ev d k_M_spread 172 [some (.ref 231), some (.int x1), some (.int x2), some (.int x3), some (.int x4), some (.int x5), some (.int x6), some (.int x7), some (.int x8), some (.int x9), o10] [.int (sx0 - sx1)] (fm_mk S) r) : am_Ev d k_M_spread 167 [some (.ref 231), some (.int x1), some (.int x2), some (.int x3), some (.int x4), some (.int x5), some (.int x6), some (.int x7), some (.int x8), some (.int x9), o10] [.int sx1, .int sx0] (fm_mk S) r := by
  refine fs_isub (by decide +kernel) ?_
  refine fs_goto (off := 4) (tgt := 172) (by decide +kernel) (by decide) ?_
  exact nx
theorem b_M_spread_171 {d : Nat} {x1 : Int32} {x2 : Int32} {x3 : Int32} {x4 : Int32} {x5 : Int32} {x6 : Int32} {x7 : Int32} {x8 : Int32} {x9 : Int32} {o10 : Option Value} {S : fm_S} {r : Option Value × am_W} (nx : am_Ev d k_M_spread 172 [some (.ref 231), some (.int x1), some (.int x2), some (.int x3), some (.int x4), some (.int x5), some (.int x6), some (.int x7), some (.int x8), some (.int x9), o10] [.int 0] (fm_mk S) r) : am_Ev d k_M_spread 171 [some (.ref 231), some (.int x1), some (.int x2), some (.int x3), some (.int x4), some (.int x5), some (.int x6), some (.int x7), some (.int x8), some (.int x9), o10] [] (fm_mk S) r := by
  refine fs_iconst (n := 0) (v := 0) (by decide +kernel) (by decide) ?_
  exact nx
theorem b_M_spread_172 {d : Nat} {x1 : Int32} {x2 : Int32} {x3 : Int32} {x4 : Int32} {x5 : Int32} {x6 : Int32} {x7 : Int32} {x8 : Int32} {x9 : Int32} {o10 : Option Value} {sx0 : Int32} {S : fm_S} {r : Option Value × am_W} (kt : ¬ x7 = 0 → am_Ev d k_M_spread 191 [some (.ref 231), some (.int x1), some (.int x2), some (.int x3), some (.int x4), some (.int x5), some (.int x6), some (.int x7), some (.int x8), some (.int x9), some (.int sx0)] [] (fm_mk S) r) (kf : x7 = 0 → am_Ev d k_M_spread 179 [some (.ref 231), some (.int x1), some (.int x2), some (.int x3), some (.int x4), some (.int x5), some (.int x6), some (.int x7), some (.int x8), some (.int x9), some (.int sx0)] [] (fm_mk S) r) : am_Ev d k_M_spread 172 [some (.ref 231), some (.int x1), some (.int x2), some (.int x3), some (.int x4), some (.int x5), some (.int x6), some (.int x7), some (.int x8), some (.int x9), o10] [.int sx0] (fm_mk S) r := by
  refine fs_istore (j := 10) (L' := [some (.ref 231), some (.int x1), some (.int x2), some (.int x3), some (.int x4), some (.int x5), some (.int x6), some (.int x7), some (.int x8), some (.int x9), some (.int sx0)]) (by decide +kernel) (Nat.le_of_ble_eq_true rfl) rfl ?_
  refine fs_iload (j := 7) (by decide +kernel) rfl ?_
  exact fs_ifne (off := 15) (tgt := 191) (by decide +kernel) (by decide) kt kf
theorem b_M_spread_179 {d : Nat} {x1 : Int32} {x2 : Int32} {x3 : Int32} {x4 : Int32} {x5 : Int32} {x6 : Int32} {x7 : Int32} {x8 : Int32} {x9 : Int32} {x10 : Int32} {S : fm_S} {r : Option Value × am_W} (hi0 : vp_in x9 8) (kt : x10 ≤ (S.1 238 x9.toNatClampNeg) → am_Ev d k_M_spread 195 [some (.ref 231), some (.int x1), some (.int x2), some (.int x3), some (.int x4), some (.int x5), some (.int x6), some (.int x7), some (.int x8), some (.int x9), some (.int x10)] [] (fm_mk S) r) (kf : ¬ x10 ≤ (S.1 238 x9.toNatClampNeg) → am_Ev d k_M_spread 191 [some (.ref 231), some (.int x1), some (.int x2), some (.int x3), some (.int x4), some (.int x5), some (.int x6), some (.int x7), some (.int x8), some (.int x9), some (.int x10)] [] (fm_mk S) r) : am_Ev d k_M_spread 179 [some (.ref 231), some (.int x1), some (.int x2), some (.int x3), some (.int x4), some (.int x5), some (.int x6), some (.int x7), some (.int x8), some (.int x9), some (.int x10)] [] (fm_mk S) r := by
  refine fs_iload (j := 10) (by decide +kernel) rfl ?_
  refine fs_aloadn (j := 0) (by decide +kernel) rfl ?_
  refine fe_getR (idx := 28) (t := 8) (f := 14) (fk := 2) (fin := 1) (wp := 959) (x := 238) (by decide +kernel) (by decide +kernel) (by decide +kernel) (by decide +kernel) (by decide +kernel) ?_
  refine fs_iload (j := 9) (by decide +kernel) rfl ?_
  refine fx_iald (n := x9.toNatClampNeg) (len := 8) (by decide +kernel) (by decide +kernel) (by decide +kernel) hi0 rfl ?_
  exact fs_icle (off := 7) (tgt := 195) (by decide +kernel) (by decide) kt kf
theorem b_M_spread_191 {d : Nat} {x1 : Int32} {x2 : Int32} {x3 : Int32} {x4 : Int32} {x5 : Int32} {x6 : Int32} {x7 : Int32} {x8 : Int32} {x9 : Int32} {x10 : Int32} {S : fm_S} {r : Option Value × am_W} (nx : am_Ev d k_M_spread 196 [some (.ref 231), some (.int x1), some (.int x2), some (.int x3), some (.int x4), some (.int x5), some (.int x6), some (.int x7), some (.int x8), some (.int x9), some (.int x10)] [.int 1] (fm_mk S) r) : am_Ev d k_M_spread 191 [some (.ref 231), some (.int x1), some (.int x2), some (.int x3), some (.int x4), some (.int x5), some (.int x6), some (.int x7), some (.int x8), some (.int x9), some (.int x10)] [] (fm_mk S) r := by
  refine fs_iconst (n := 1) (v := 1) (by decide +kernel) (by decide) ?_
  refine fs_goto (off := 4) (tgt := 196) (by decide +kernel) (by decide) ?_
  exact nx
theorem b_M_spread_195 {d : Nat} {x1 : Int32} {x2 : Int32} {x3 : Int32} {x4 : Int32} {x5 : Int32} {x6 : Int32} {x7 : Int32} {x8 : Int32} {x9 : Int32} {x10 : Int32} {S : fm_S} {r : Option Value × am_W} (nx : am_Ev d k_M_spread 196 [some (.ref 231), some (.int x1), some (.int x2), some (.int x3), some (.int x4), some (.int x5), some (.int x6), some (.int x7), some (.int x8), some (.int x9), some (.int x10)] [.int 0] (fm_mk S) r) : am_Ev d k_M_spread 195 [some (.ref 231), some (.int x1), some (.int x2), some (.int x3), some (.int x4), some (.int x5), some (.int x6), some (.int x7), some (.int x8), some (.int x9), some (.int x10)] [] (fm_mk S) r := by
  refine fs_iconst (n := 0) (v := 0) (by decide +kernel) (by decide) ?_
  exact nx
theorem b_M_spread_196 {d : Nat} {x1 : Int32} {x2 : Int32} {x3 : Int32} {x4 : Int32} {x5 : Int32} {x6 : Int32} {x7 : Int32} {x8 : Int32} {x9 : Int32} {x10 : Int32} {sx0 : Int32} {S : fm_S} {r : Option Value × am_W} (hi0 : vp_in x9 8) (kt : x10 ≤ (S.1 238 x9.toNatClampNeg) → am_Ev d k_M_spread 221 [some (.ref 231), some (.int x1), some (.int x2), some (.int x3), some (.int x4), some (.int x5), some (.int x6), some (.int sx0), some (.int x8), some (.int x9), some (.int x10)] [.int x9, .ref 238] (fm_mk S) r) (kf : ¬ x10 ≤ (S.1 238 x9.toNatClampNeg) → am_Ev d k_M_spread 216 [some (.ref 231), some (.int x1), some (.int x2), some (.int x3), some (.int x4), some (.int x5), some (.int x6), some (.int sx0), some (.int x8), some (.int x9), some (.int x10)] [.int x9, .ref 238] (fm_mk S) r) : am_Ev d k_M_spread 196 [some (.ref 231), some (.int x1), some (.int x2), some (.int x3), some (.int x4), some (.int x5), some (.int x6), some (.int x7), some (.int x8), some (.int x9), some (.int x10)] [.int sx0] (fm_mk S) r := by
  refine fs_istore (j := 7) (L' := [some (.ref 231), some (.int x1), some (.int x2), some (.int x3), some (.int x4), some (.int x5), some (.int x6), some (.int sx0), some (.int x8), some (.int x9), some (.int x10)]) (by decide +kernel) (Nat.le_of_ble_eq_true rfl) rfl ?_
  refine fs_aloadn (j := 0) (by decide +kernel) rfl ?_
  refine fe_getR (idx := 28) (t := 8) (f := 14) (fk := 2) (fin := 1) (wp := 959) (x := 238) (by decide +kernel) (by decide +kernel) (by decide +kernel) (by decide +kernel) (by decide +kernel) ?_
  refine fs_iload (j := 9) (by decide +kernel) rfl ?_
  refine fs_iload (j := 10) (by decide +kernel) rfl ?_
  refine fs_aloadn (j := 0) (by decide +kernel) rfl ?_
  refine fe_getR (idx := 28) (t := 8) (f := 14) (fk := 2) (fin := 1) (wp := 959) (x := 238) (by decide +kernel) (by decide +kernel) (by decide +kernel) (by decide +kernel) (by decide +kernel) ?_
  refine fs_iload (j := 9) (by decide +kernel) rfl ?_
  refine fx_iald (n := x9.toNatClampNeg) (len := 8) (by decide +kernel) (by decide +kernel) (by decide +kernel) hi0 rfl ?_
  exact fs_icle (off := 8) (tgt := 221) (by decide +kernel) (by decide) kt kf
theorem b_M_spread_216 {d : Nat} {x1 : Int32} {x2 : Int32} {x3 : Int32} {x4 : Int32} {x5 : Int32} {x6 : Int32} {x7 : Int32} {x8 : Int32} {x9 : Int32} {x10 : Int32} {sx1 : Int32} {S : fm_S} {r : Option Value × am_W} (nx : am_Ev d k_M_spread 228 [some (.ref 231), some (.int x1), some (.int x2), some (.int x3), some (.int x4), some (.int x5), some (.int x6), some (.int x7), some (.int x8), some (.int x9), some (.int x10)] [.int x10, .int sx1, .ref 238] (fm_mk S) r) : am_Ev d k_M_spread 216 [some (.ref 231), some (.int x1), some (.int x2), some (.int x3), some (.int x4), some (.int x5), some (.int x6), some (.int x7), some (.int x8), some (.int x9), some (.int x10)] [.int sx1, .ref 238] (fm_mk S) r := by
  refine fs_iload (j := 10) (by decide +kernel) rfl ?_
  refine fs_goto (off := 10) (tgt := 228) (by decide +kernel) (by decide) ?_
  exact nx
theorem b_M_spread_221 {d : Nat} {x1 : Int32} {x2 : Int32} {x3 : Int32} {x4 : Int32} {x5 : Int32} {x6 : Int32} {x7 : Int32} {x8 : Int32} {x9 : Int32} {x10 : Int32} {sx1 : Int32} {S : fm_S} {r : Option Value × am_W} (hi0 : vp_in x9 8) (nx : am_Ev d k_M_spread 228 [some (.ref 231), some (.int x1), some (.int x2), some (.int x3), some (.int x4), some (.int x5), some (.int x6), some (.int x7), some (.int x8), some (.int x9), some (.int x10)] [.int (S.1 238 x9.toNatClampNeg), .int sx1, .ref 238] (fm_mk S) r) : am_Ev d k_M_spread 221 [some (.ref 231), some (.int x1), some (.int x2), some (.int x3), some (.int x4), some (.int x5), some (.int x6), some (.int x7), some (.int x8), some (.int x9), some (.int x10)] [.int sx1, .ref 238] (fm_mk S) r := by
  refine fs_aloadn (j := 0) (by decide +kernel) rfl ?_
  refine fe_getR (idx := 28) (t := 8) (f := 14) (fk := 2) (fin := 1) (wp := 959) (x := 238) (by decide +kernel) (by decide +kernel) (by decide +kernel) (by decide +kernel) (by decide +kernel) ?_
  refine fs_iload (j := 9) (by decide +kernel) rfl ?_
  refine fx_iald (n := x9.toNatClampNeg) (len := 8) (by decide +kernel) (by decide +kernel) (by decide +kernel) hi0 rfl ?_
  exact nx
theorem b_M_spread_228 {d : Nat} {x1 : Int32} {x2 : Int32} {x3 : Int32} {x4 : Int32} {x5 : Int32} {x6 : Int32} {x7 : Int32} {x8 : Int32} {x9 : Int32} {x10 : Int32} {sx1 : Int32} {sx2 : Int32} {S : fm_S} {r : Option Value × am_W} (hi0 : vp_in sx1 8) (nx : am_Ev d k_M_spread 104 [some (.ref 231), some (.int x1), some (.int x2), some (.int x3), some (.int x4), some (.int x5), some (.int x6), some (.int x7), some (.int (x8 + 1)), some (.int x9), some (.int x10)] [] (fm_mk (fm_wI S 238 sx1.toNatClampNeg sx2)) r) : am_Ev d k_M_spread 228 [some (.ref 231), some (.int x1), some (.int x2), some (.int x3), some (.int x4), some (.int x5), some (.int x6), some (.int x7), some (.int x8), some (.int x9), some (.int x10)] [.int sx2, .int sx1, .ref 238] (fm_mk S) r := by
  refine fx_iast (n := sx1.toNatClampNeg) (len := 8) (by decide +kernel) (by decide +kernel) (by decide +kernel) hi0 rfl ?_
  refine fs_iinc (j := 8) (n := 1) (v := 1) (L' := [some (.ref 231), some (.int x1), some (.int x2), some (.int x3), some (.int x4), some (.int x5), some (.int x6), some (.int x7), some (.int (x8 + 1)), some (.int x9), some (.int x10)]) (by decide +kernel) rfl (Nat.le_of_ble_eq_true rfl) (by decide) rfl ?_
  refine fs_goto (off := -128) (tgt := 104) (by decide +kernel) (by decide) ?_
  exact nx
theorem b_M_spread_235 {d : Nat} {x1 : Int32} {x2 : Int32} {x3 : Int32} {x4 : Int32} {x5 : Int32} {x6 : Int32} {x7 : Int32} {x8 : Int32} {o9 : Option Value} {o10 : Option Value} {S : fm_S} {r : Option Value × am_W} (nx : am_Ev d k_M_spread 93 [some (.ref 231), some (.int x1), some (.int x2), some (.int x3), some (.int x4), some (.int x5), some (.int x6), some (.int x7), some (.int x8), o9, o10] [] (fm_mk S) r) : am_Ev d k_M_spread 235 [some (.ref 231), some (.int x1), some (.int x2), some (.int x3), some (.int x4), some (.int x5), some (.int x6), some (.int x7), some (.int x8), o9, o10] [] (fm_mk S) r := by
  refine fs_goto (off := -142) (tgt := 93) (by decide +kernel) (by decide) ?_
  exact nx
theorem b_M_spread_238 {d : Nat} {x1 : Int32} {x2 : Int32} {x3 : Int32} {x4 : Int32} {x5 : Int32} {x6 : Int32} {x7 : Int32} {o8 : Option Value} {o9 : Option Value} {o10 : Option Value} {S : fm_S}  : am_Ev d k_M_spread 238 [some (.ref 231), some (.int x1), some (.int x2), some (.int x3), some (.int x4), some (.int x5), some (.int x6), some (.int x7), o8, o9, o10] [] (fm_mk S) (none, fm_mk S) := by
  exact fe_retV (by decide +kernel) (by decide +kernel)
-- KitchenSiegeModel.movedIn(IIII)I
theorem b_M_movedIn_0 {d : Nat} {x1 : Int32} {x2 : Int32} {x3 : Int32} {x4 : Int32} {o5 : Option Value} {S : fm_S} {r : Option Value × am_W} (hi0 : vp_in (37 + x1) 373) (kt : ¬ (S.1 232 ((37 + x1).toNatClampNeg)) = x2 → am_Ev d k_M_movedIn 25 [some (.ref 231), some (.int x1), some (.int x2), some (.int x3), some (.int x4), o5] [] (fm_mk S) r) (kf : (S.1 232 ((37 + x1).toNatClampNeg)) = x2 → am_Ev d k_M_movedIn 13 [some (.ref 231), some (.int x1), some (.int x2), some (.int x3), some (.int x4), o5] [] (fm_mk S) r) : am_Ev d k_M_movedIn 0 [some (.ref 231), some (.int x1), some (.int x2), some (.int x3), some (.int x4), o5] [] (fm_mk S) r := by
  refine fs_aloadn (j := 0) (by decide +kernel) rfl ?_
  refine fe_getR (idx := 7) (t := 8) (f := 0) (fk := 2) (fin := 1) (wp := 945) (x := 232) (by decide +kernel) (by decide +kernel) (by decide +kernel) (by decide +kernel) (by decide +kernel) ?_
  refine fs_bipush (n := 37) (v := 37) (by decide +kernel) (by decide) ?_
  refine fs_iloadn (j := 1) (by decide +kernel) rfl ?_
  refine fs_iadd (by decide +kernel) ?_
  refine fx_iald (n := (37 + x1).toNatClampNeg) (len := 373) (by decide +kernel) (by decide +kernel) (by decide +kernel) hi0 rfl ?_
  refine fs_iloadn (j := 2) (by decide +kernel) rfl ?_
  exact fs_icne (off := 15) (tgt := 25) (by decide +kernel) (by decide) kt kf
theorem b_M_movedIn_13 {d : Nat} {x1 : Int32} {x2 : Int32} {x3 : Int32} {x4 : Int32} {o5 : Option Value} {S : fm_S} {r : Option Value × am_W} (hi0 : vp_in (45 + x1) 373) (nx : am_Ev d k_M_movedIn 26 [some (.ref 231), some (.int x1), some (.int x2), some (.int x3), some (.int x4), o5] [.int (S.1 232 ((45 + x1).toNatClampNeg))] (fm_mk S) r) : am_Ev d k_M_movedIn 13 [some (.ref 231), some (.int x1), some (.int x2), some (.int x3), some (.int x4), o5] [] (fm_mk S) r := by
  refine fs_aloadn (j := 0) (by decide +kernel) rfl ?_
  refine fe_getR (idx := 7) (t := 8) (f := 0) (fk := 2) (fin := 1) (wp := 945) (x := 232) (by decide +kernel) (by decide +kernel) (by decide +kernel) (by decide +kernel) (by decide +kernel) ?_
  refine fs_bipush (n := 45) (v := 45) (by decide +kernel) (by decide) ?_
  refine fs_iloadn (j := 1) (by decide +kernel) rfl ?_
  refine fs_iadd (by decide +kernel) ?_
  refine fx_iald (n := (45 + x1).toNatClampNeg) (len := 373) (by decide +kernel) (by decide +kernel) (by decide +kernel) hi0 rfl ?_
  refine fs_goto (off := 4) (tgt := 26) (by decide +kernel) (by decide) ?_
  exact nx
theorem b_M_movedIn_25 {d : Nat} {x1 : Int32} {x2 : Int32} {x3 : Int32} {x4 : Int32} {o5 : Option Value} {S : fm_S} {r : Option Value × am_W} (nx : am_Ev d k_M_movedIn 26 [some (.ref 231), some (.int x1), some (.int x2), some (.int x3), some (.int x4), o5] [.int 0] (fm_mk S) r) : am_Ev d k_M_movedIn 25 [some (.ref 231), some (.int x1), some (.int x2), some (.int x3), some (.int x4), o5] [] (fm_mk S) r := by
  refine fs_iconst (n := 0) (v := 0) (by decide +kernel) (by decide) ?_
  exact nx
theorem b_M_movedIn_26 {d : Nat} {x1 : Int32} {x2 : Int32} {x3 : Int32} {x4 : Int32} {o5 : Option Value} {sx0 : Int32} {v : Int32} {S1 : fm_S} {S : fm_S} {r : Option Value × am_W} (hi0 : vp_in (5 + x1) 373) (hi1 : vp_in (21 + x1) 373) (hc : am_Sp d k_M_movedBy [.int (S.1 232 ((5 + x1).toNatClampNeg)), .int (S.1 232 ((21 + x1).toNatClampNeg)), .int x2, .int x3, .int x4, .int sx0] (fm_mk S) (some (.int v)) (fm_mk S1)) (nx : am_Ev (d + 1) k_M_movedIn 54 [some (.ref 231), some (.int x1), some (.int x2), some (.int x3), some (.int x4), some (.int sx0)] [.int v] (fm_mk S1) r) : am_Ev (d + 1) k_M_movedIn 26 [some (.ref 231), some (.int x1), some (.int x2), some (.int x3), some (.int x4), o5] [.int sx0] (fm_mk S) r := by
  refine fs_istore (j := 5) (L' := [some (.ref 231), some (.int x1), some (.int x2), some (.int x3), some (.int x4), some (.int sx0)]) (by decide +kernel) (Nat.le_of_ble_eq_true rfl) rfl ?_
  refine fs_aloadn (j := 0) (by decide +kernel) rfl ?_
  refine fe_getR (idx := 7) (t := 8) (f := 0) (fk := 2) (fin := 1) (wp := 945) (x := 232) (by decide +kernel) (by decide +kernel) (by decide +kernel) (by decide +kernel) (by decide +kernel) ?_
  refine fs_iconst (n := 5) (v := 5) (by decide +kernel) (by decide) ?_
  refine fs_iloadn (j := 1) (by decide +kernel) rfl ?_
  refine fs_iadd (by decide +kernel) ?_
  refine fx_iald (n := (5 + x1).toNatClampNeg) (len := 373) (by decide +kernel) (by decide +kernel) (by decide +kernel) hi0 rfl ?_
  refine fs_aloadn (j := 0) (by decide +kernel) rfl ?_
  refine fe_getR (idx := 7) (t := 8) (f := 0) (fk := 2) (fin := 1) (wp := 945) (x := 232) (by decide +kernel) (by decide +kernel) (by decide +kernel) (by decide +kernel) (by decide +kernel) ?_
  refine fs_bipush (n := 21) (v := 21) (by decide +kernel) (by decide) ?_
  refine fs_iloadn (j := 1) (by decide +kernel) rfl ?_
  refine fs_iadd (by decide +kernel) ?_
  refine fx_iald (n := (21 + x1).toNatClampNeg) (len := 373) (by decide +kernel) (by decide +kernel) (by decide +kernel) hi1 rfl ?_
  refine fs_iloadn (j := 2) (by decide +kernel) rfl ?_
  refine fs_iloadn (j := 3) (by decide +kernel) rfl ?_
  refine fs_iload (j := 4) (by decide +kernel) rfl ?_
  refine fs_iload (j := 5) (by decide +kernel) rfl ?_
  exact fe_callS (idx := 168) (kd := 0) (n := 6) (wp := 1154) (q := (1155, 0)) (as := [.int (S.1 232 ((5 + x1).toNatClampNeg)), .int (S.1 232 ((21 + x1).toNatClampNeg)), .int x2, .int x3, .int x4, .int sx0]) (rs := []) (by decide +kernel) (by decide +kernel) (by decide +kernel) (by decide) rfl (Nat.le_of_ble_eq_true rfl) rfl hc nx
theorem b_M_movedIn_54 {d : Nat} {x1 : Int32} {x2 : Int32} {x3 : Int32} {x4 : Int32} {x5 : Int32} {sx0 : Int32} {S : fm_S}  : am_Ev d k_M_movedIn 54 [some (.ref 231), some (.int x1), some (.int x2), some (.int x3), some (.int x4), some (.int x5)] [.int sx0] (fm_mk S) (some (.int sx0), fm_mk S) := by
  exact fe_retI (by decide +kernel) (by decide +kernel)
-- KitchenSiegeModel.movedBy(IIIIII)I
theorem b_M_movedBy_0 {d : Nat} {x0 : Int32} {x1 : Int32} {x2 : Int32} {x3 : Int32} {x4 : Int32} {x5 : Int32} {o6 : Option Value} {o7 : Option Value} {o8 : Option Value} {S : fm_S} {r : Option Value × am_W} (kt : ¬ x2 = x1 → am_Ev d k_M_movedBy 11 [some (.int x0), some (.int x1), some (.int x2), some (.int x3), some (.int x4), some (.int x5), o6, o7, o8] [] (fm_mk S) r) (kf : x2 = x1 → am_Ev d k_M_movedBy 5 [some (.int x0), some (.int x1), some (.int x2), some (.int x3), some (.int x4), some (.int x5), o6, o7, o8] [] (fm_mk S) r) : am_Ev d k_M_movedBy 0 [some (.int x0), some (.int x1), some (.int x2), some (.int x3), some (.int x4), some (.int x5), o6, o7, o8] [] (fm_mk S) r := by
  refine fs_iloadn (j := 2) (by decide +kernel) rfl ?_
  refine fs_iloadn (j := 1) (by decide +kernel) rfl ?_
  exact fs_icne (off := 9) (tgt := 11) (by decide +kernel) (by decide) kt kf
theorem b_M_movedBy_5 {d : Nat} {x0 : Int32} {x1 : Int32} {x2 : Int32} {x3 : Int32} {x4 : Int32} {x5 : Int32} {o6 : Option Value} {o7 : Option Value} {o8 : Option Value} {S : fm_S} {r : Option Value × am_W} (nx : am_Ev d k_M_movedBy 12 [some (.int x0), some (.int x1), some (.int x2), some (.int x3), some (.int x4), some (.int x5), o6, o7, o8] [.int (2 * x3)] (fm_mk S) r) : am_Ev d k_M_movedBy 5 [some (.int x0), some (.int x1), some (.int x2), some (.int x3), some (.int x4), some (.int x5), o6, o7, o8] [] (fm_mk S) r := by
  refine fs_iconst (n := 2) (v := 2) (by decide +kernel) (by decide) ?_
  refine fs_iloadn (j := 3) (by decide +kernel) rfl ?_
  refine fs_imul (by decide +kernel) ?_
  refine fs_goto (off := 4) (tgt := 12) (by decide +kernel) (by decide) ?_
  exact nx
theorem b_M_movedBy_11 {d : Nat} {x0 : Int32} {x1 : Int32} {x2 : Int32} {x3 : Int32} {x4 : Int32} {x5 : Int32} {o6 : Option Value} {o7 : Option Value} {o8 : Option Value} {S : fm_S} {r : Option Value × am_W} (nx : am_Ev d k_M_movedBy 12 [some (.int x0), some (.int x1), some (.int x2), some (.int x3), some (.int x4), some (.int x5), o6, o7, o8] [.int x3] (fm_mk S) r) : am_Ev d k_M_movedBy 11 [some (.int x0), some (.int x1), some (.int x2), some (.int x3), some (.int x4), some (.int x5), o6, o7, o8] [] (fm_mk S) r := by
  refine fs_iloadn (j := 3) (by decide +kernel) rfl ?_
  exact nx
theorem b_M_movedBy_12 {d : Nat} {x0 : Int32} {x1 : Int32} {x2 : Int32} {x3 : Int32} {x4 : Int32} {x5 : Int32} {o6 : Option Value} {o7 : Option Value} {o8 : Option Value} {sx0 : Int32} {S : fm_S} {r : Option Value × am_W} (kt : ¬ x2 = 0 → am_Ev d k_M_movedBy 22 [some (.int x0), some (.int x1), some (.int x2), some (.int x3), some (.int x4), some (.int x5), some (.int sx0), o7, o8] [] (fm_mk S) r) (kf : x2 = 0 → am_Ev d k_M_movedBy 18 [some (.int x0), some (.int x1), some (.int x2), some (.int x3), some (.int x4), some (.int x5), some (.int sx0), o7, o8] [] (fm_mk S) r) : am_Ev d k_M_movedBy 12 [some (.int x0), some (.int x1), some (.int x2), some (.int x3), some (.int x4), some (.int x5), o6, o7, o8] [.int sx0] (fm_mk S) r := by
  refine fs_istore (j := 6) (L' := [some (.int x0), some (.int x1), some (.int x2), some (.int x3), some (.int x4), some (.int x5), some (.int sx0), o7, o8]) (by decide +kernel) (Nat.le_of_ble_eq_true rfl) rfl ?_
  refine fs_iloadn (j := 2) (by decide +kernel) rfl ?_
  exact fs_ifne (off := 7) (tgt := 22) (by decide +kernel) (by decide) kt kf
theorem b_M_movedBy_18 {d : Nat} {x0 : Int32} {x1 : Int32} {x2 : Int32} {x3 : Int32} {x4 : Int32} {x5 : Int32} {x6 : Int32} {o7 : Option Value} {o8 : Option Value} {S : fm_S} {r : Option Value × am_W} (nx : am_Ev d k_M_movedBy 24 [some (.int x0), some (.int x1), some (.int x2), some (.int x3), some (.int x4), some (.int x5), some (.int x6), o7, o8] [.int 0] (fm_mk S) r) : am_Ev d k_M_movedBy 18 [some (.int x0), some (.int x1), some (.int x2), some (.int x3), some (.int x4), some (.int x5), some (.int x6), o7, o8] [] (fm_mk S) r := by
  refine fs_iconst (n := 0) (v := 0) (by decide +kernel) (by decide) ?_
  refine fs_goto (off := 5) (tgt := 24) (by decide +kernel) (by decide) ?_
  exact nx
theorem b_M_movedBy_22 {d : Nat} {x0 : Int32} {x1 : Int32} {x2 : Int32} {x3 : Int32} {x4 : Int32} {x5 : Int32} {x6 : Int32} {o7 : Option Value} {o8 : Option Value} {S : fm_S} {r : Option Value × am_W} (nx : am_Ev d k_M_movedBy 24 [some (.int x0), some (.int x1), some (.int x2), some (.int x3), some (.int x4), some (.int x5), some (.int x6), o7, o8] [.int x6] (fm_mk S) r) : am_Ev d k_M_movedBy 22 [some (.int x0), some (.int x1), some (.int x2), some (.int x3), some (.int x4), some (.int x5), some (.int x6), o7, o8] [] (fm_mk S) r := by
  refine fs_iload (j := 6) (by decide +kernel) rfl ?_
  exact nx
theorem b_M_movedBy_24 {d : Nat} {x0 : Int32} {x1 : Int32} {x2 : Int32} {x3 : Int32} {x4 : Int32} {x5 : Int32} {x6 : Int32} {o7 : Option Value} {o8 : Option Value} {sx0 : Int32} {S : fm_S} {r : Option Value × am_W} (k0 : x0 = 0 → am_Ev d k_M_movedBy 68 [some (.int x0), some (.int x1), some (.int x2), some (.int x3), some (.int x4), some (.int x5), some (.int x6), some (.int sx0), some (.int (x6 / 2))] [] (fm_mk S) r) (k1 : x0 = 1 → am_Ev d k_M_movedBy 71 [some (.int x0), some (.int x1), some (.int x2), some (.int x3), some (.int x4), some (.int x5), some (.int x6), some (.int sx0), some (.int (x6 / 2))] [] (fm_mk S) r) (k2 : x0 = 2 → am_Ev d k_M_movedBy 74 [some (.int x0), some (.int x1), some (.int x2), some (.int x3), some (.int x4), some (.int x5), some (.int x6), some (.int sx0), some (.int (x6 / 2))] [] (fm_mk S) r) (k3 : x0 = 3 → am_Ev d k_M_movedBy 77 [some (.int x0), some (.int x1), some (.int x2), some (.int x3), some (.int x4), some (.int x5), some (.int x6), some (.int sx0), some (.int (x6 / 2))] [] (fm_mk S) r) (k4 : x0 = 4 → am_Ev d k_M_movedBy 93 [some (.int x0), some (.int x1), some (.int x2), some (.int x3), some (.int x4), some (.int x5), some (.int x6), some (.int sx0), some (.int (x6 / 2))] [] (fm_mk S) r) (kd : ¬ x0 = 0 → ¬ x0 = 1 → ¬ x0 = 2 → ¬ x0 = 3 → ¬ x0 = 4 → am_Ev d k_M_movedBy 108 [some (.int x0), some (.int x1), some (.int x2), some (.int x3), some (.int x4), some (.int x5), some (.int x6), some (.int sx0), some (.int (x6 / 2))] [] (fm_mk S) r) : am_Ev d k_M_movedBy 24 [some (.int x0), some (.int x1), some (.int x2), some (.int x3), some (.int x4), some (.int x5), some (.int x6), o7, o8] [.int sx0] (fm_mk S) r := by
  refine fs_istore (j := 7) (L' := [some (.int x0), some (.int x1), some (.int x2), some (.int x3), some (.int x4), some (.int x5), some (.int x6), some (.int sx0), o8]) (by decide +kernel) (Nat.le_of_ble_eq_true rfl) rfl ?_
  refine fs_iload (j := 6) (by decide +kernel) rfl ?_
  refine fs_iconst (n := 2) (v := 2) (by decide +kernel) (by decide) ?_
  refine fe_idiv (by decide +kernel) (by decide) ?_
  refine fs_istore (j := 8) (L' := [some (.int x0), some (.int x1), some (.int x2), some (.int x3), some (.int x4), some (.int x5), some (.int x6), some (.int sx0), some (.int (x6 / 2))]) (by decide +kernel) (Nat.le_of_ble_eq_true rfl) rfl ?_
  refine fs_iloadn (j := 0) (by decide +kernel) rfl ?_
  by_cases c0 : x0 = 0
  · exact fs_sw (i := .tableswitch 75 0 4 #[35, 38, 41, 44, 60]) (z := 35) (by decide +kernel) rfl (by rw [c0]; rfl) (k0 c0)
  by_cases c1 : x0 = 1
  · exact fs_sw (i := .tableswitch 75 0 4 #[35, 38, 41, 44, 60]) (z := 35) (by decide +kernel) rfl (by rw [c1]; rfl) (k1 c1)
  by_cases c2 : x0 = 2
  · exact fs_sw (i := .tableswitch 75 0 4 #[35, 38, 41, 44, 60]) (z := 35) (by decide +kernel) rfl (by rw [c2]; rfl) (k2 c2)
  by_cases c3 : x0 = 3
  · exact fs_sw (i := .tableswitch 75 0 4 #[35, 38, 41, 44, 60]) (z := 35) (by decide +kernel) rfl (by rw [c3]; rfl) (k3 c3)
  by_cases c4 : x0 = 4
  · exact fs_sw (i := .tableswitch 75 0 4 #[35, 38, 41, 44, 60]) (z := 35) (by decide +kernel) rfl (by rw [c4]; rfl) (k4 c4)
  have e0 : ¬ (x0).toInt = 0 := fun q => c0 (Int32.toInt_inj.mp (q.trans (by decide)))
  have e1 : ¬ (x0).toInt = 1 := fun q => c1 (Int32.toInt_inj.mp (q.trans (by decide)))
  have e2 : ¬ (x0).toInt = 2 := fun q => c2 (Int32.toInt_inj.mp (q.trans (by decide)))
  have e3 : ¬ (x0).toInt = 3 := fun q => c3 (Int32.toInt_inj.mp (q.trans (by decide)))
  have e4 : ¬ (x0).toInt = 4 := fun q => c4 (Int32.toInt_inj.mp (q.trans (by decide)))
  exact fs_tout (dflt := 75) (lo := 0) (hi := 4) (offs := #[35, 38, 41, 44, 60]) (z := 35) (by decide +kernel) (by omega) (by decide) (kd c0 c1 c2 c3 c4)
theorem b_M_movedBy_68 {d : Nat} {x0 : Int32} {x1 : Int32} {x2 : Int32} {x3 : Int32} {x4 : Int32} {x5 : Int32} {x6 : Int32} {x7 : Int32} {x8 : Int32} {S : fm_S}  : am_Ev d k_M_movedBy 68 [some (.int x0), some (.int x1), some (.int x2), some (.int x3), some (.int x4), some (.int x5), some (.int x6), some (.int x7), some (.int x8)] [] (fm_mk S) (some (.int x6), fm_mk S) := by
  refine fs_iload (j := 6) (by decide +kernel) rfl ?_
  exact fe_retI (by decide +kernel) (by decide +kernel)
theorem b_M_movedBy_71 {d : Nat} {x0 : Int32} {x1 : Int32} {x2 : Int32} {x3 : Int32} {x4 : Int32} {x5 : Int32} {x6 : Int32} {x7 : Int32} {x8 : Int32} {S : fm_S}  : am_Ev d k_M_movedBy 71 [some (.int x0), some (.int x1), some (.int x2), some (.int x3), some (.int x4), some (.int x5), some (.int x6), some (.int x7), some (.int x8)] [] (fm_mk S) (some (.int x8), fm_mk S) := by
  refine fs_iload (j := 8) (by decide +kernel) rfl ?_
  exact fe_retI (by decide +kernel) (by decide +kernel)
theorem b_M_movedBy_74 {d : Nat} {x0 : Int32} {x1 : Int32} {x2 : Int32} {x3 : Int32} {x4 : Int32} {x5 : Int32} {x6 : Int32} {x7 : Int32} {x8 : Int32} {S : fm_S}  : am_Ev d k_M_movedBy 74 [some (.int x0), some (.int x1), some (.int x2), some (.int x3), some (.int x4), some (.int x5), some (.int x6), some (.int x7), some (.int x8)] [] (fm_mk S) (some (.int x7), fm_mk S) := by
  refine fs_iload (j := 7) (by decide +kernel) rfl ?_
  exact fe_retI (by decide +kernel) (by decide +kernel)
theorem b_M_movedBy_77 {d : Nat} {x0 : Int32} {x1 : Int32} {x2 : Int32} {x3 : Int32} {x4 : Int32} {x5 : Int32} {x6 : Int32} {x7 : Int32} {x8 : Int32} {S : fm_S} {r : Option Value × am_W} (kt : ¬ (x4 - x4 / 7 * 7) = 5 → am_Ev d k_M_movedBy 90 [some (.int x0), some (.int x1), some (.int x2), some (.int x3), some (.int x4), some (.int x5), some (.int x6), some (.int x7), some (.int x8)] [] (fm_mk S) r) (kf : (x4 - x4 / 7 * 7) = 5 → am_Ev d k_M_movedBy 86 [some (.int x0), some (.int x1), some (.int x2), some (.int x3), some (.int x4), some (.int x5), some (.int x6), some (.int x7), some (.int x8)] [] (fm_mk S) r) : am_Ev d k_M_movedBy 77 [some (.int x0), some (.int x1), some (.int x2), some (.int x3), some (.int x4), some (.int x5), some (.int x6), some (.int x7), some (.int x8)] [] (fm_mk S) r := by
  refine fs_iload (j := 4) (by decide +kernel) rfl ?_
  refine fs_bipush (n := 7) (v := 7) (by decide +kernel) (by decide) ?_
  refine fe_irem (by decide +kernel) (by decide) ?_
  refine fs_iconst (n := 5) (v := 5) (by decide +kernel) (by decide) ?_
  exact fs_icne (off := 7) (tgt := 90) (by decide +kernel) (by decide) kt kf
theorem b_M_movedBy_86 {d : Nat} {x0 : Int32} {x1 : Int32} {x2 : Int32} {x3 : Int32} {x4 : Int32} {x5 : Int32} {x6 : Int32} {x7 : Int32} {x8 : Int32} {S : fm_S} {r : Option Value × am_W} (nx : am_Ev d k_M_movedBy 92 [some (.int x0), some (.int x1), some (.int x2), some (.int x3), some (.int x4), some (.int x5), some (.int x6), some (.int x7), some (.int x8)] [.int 0] (fm_mk S) r) : am_Ev d k_M_movedBy 86 [some (.int x0), some (.int x1), some (.int x2), some (.int x3), some (.int x4), some (.int x5), some (.int x6), some (.int x7), some (.int x8)] [] (fm_mk S) r := by
  refine fs_iconst (n := 0) (v := 0) (by decide +kernel) (by decide) ?_
  refine fs_goto (off := 5) (tgt := 92) (by decide +kernel) (by decide) ?_
  exact nx
theorem b_M_movedBy_90 {d : Nat} {x0 : Int32} {x1 : Int32} {x2 : Int32} {x3 : Int32} {x4 : Int32} {x5 : Int32} {x6 : Int32} {x7 : Int32} {x8 : Int32} {S : fm_S} {r : Option Value × am_W} (nx : am_Ev d k_M_movedBy 92 [some (.int x0), some (.int x1), some (.int x2), some (.int x3), some (.int x4), some (.int x5), some (.int x6), some (.int x7), some (.int x8)] [.int x6] (fm_mk S) r) : am_Ev d k_M_movedBy 90 [some (.int x0), some (.int x1), some (.int x2), some (.int x3), some (.int x4), some (.int x5), some (.int x6), some (.int x7), some (.int x8)] [] (fm_mk S) r := by
  refine fs_iload (j := 6) (by decide +kernel) rfl ?_
  exact nx
theorem b_M_movedBy_92 {d : Nat} {x0 : Int32} {x1 : Int32} {x2 : Int32} {x3 : Int32} {x4 : Int32} {x5 : Int32} {x6 : Int32} {x7 : Int32} {x8 : Int32} {sx0 : Int32} {S : fm_S}  : am_Ev d k_M_movedBy 92 [some (.int x0), some (.int x1), some (.int x2), some (.int x3), some (.int x4), some (.int x5), some (.int x6), some (.int x7), some (.int x8)] [.int sx0] (fm_mk S) (some (.int sx0), fm_mk S) := by
  exact fe_retI (by decide +kernel) (by decide +kernel)
theorem b_M_movedBy_93 {d : Nat} {x0 : Int32} {x1 : Int32} {x2 : Int32} {x3 : Int32} {x4 : Int32} {x5 : Int32} {x6 : Int32} {x7 : Int32} {x8 : Int32} {S : fm_S} {r : Option Value × am_W} (kt : x7 ≤ 3 → am_Ev d k_M_movedBy 106 [some (.int x0), some (.int x1), some (.int x2), some (.int x3), some (.int x4), some (.int x5), some (.int x6), some (.int x7), some (.int x8)] [] (fm_mk S) r) (kf : ¬ x7 ≤ 3 → am_Ev d k_M_movedBy 99 [some (.int x0), some (.int x1), some (.int x2), some (.int x3), some (.int x4), some (.int x5), some (.int x6), some (.int x7), some (.int x8)] [] (fm_mk S) r) : am_Ev d k_M_movedBy 93 [some (.int x0), some (.int x1), some (.int x2), some (.int x3), some (.int x4), some (.int x5), some (.int x6), some (.int x7), some (.int x8)] [] (fm_mk S) r := by
  refine fs_iload (j := 7) (by decide +kernel) rfl ?_
  refine fs_iconst (n := 3) (v := 3) (by decide +kernel) (by decide) ?_
  exact fs_icle (off := 10) (tgt := 106) (by decide +kernel) (by decide) kt kf
theorem b_M_movedBy_99 {d : Nat} {x0 : Int32} {x1 : Int32} {x2 : Int32} {x3 : Int32} {x4 : Int32} {x5 : Int32} {x6 : Int32} {x7 : Int32} {x8 : Int32} {S : fm_S} {r : Option Value × am_W} (nx : am_Ev d k_M_movedBy 107 [some (.int x0), some (.int x1), some (.int x2), some (.int x3), some (.int x4), some (.int x5), some (.int x6), some (.int x7), some (.int x8)] [.int (x7 - 3)] (fm_mk S) r) : am_Ev d k_M_movedBy 99 [some (.int x0), some (.int x1), some (.int x2), some (.int x3), some (.int x4), some (.int x5), some (.int x6), some (.int x7), some (.int x8)] [] (fm_mk S) r := by
  refine fs_iload (j := 7) (by decide +kernel) rfl ?_
  refine fs_iconst (n := 3) (v := 3) (by decide +kernel) (by decide) ?_
  refine fs_isub (by decide +kernel) ?_
  refine fs_goto (off := 4) (tgt := 107) (by decide +kernel) (by decide) ?_
  exact nx
theorem b_M_movedBy_106 {d : Nat} {x0 : Int32} {x1 : Int32} {x2 : Int32} {x3 : Int32} {x4 : Int32} {x5 : Int32} {x6 : Int32} {x7 : Int32} {x8 : Int32} {S : fm_S} {r : Option Value × am_W} (nx : am_Ev d k_M_movedBy 107 [some (.int x0), some (.int x1), some (.int x2), some (.int x3), some (.int x4), some (.int x5), some (.int x6), some (.int x7), some (.int x8)] [.int 0] (fm_mk S) r) : am_Ev d k_M_movedBy 106 [some (.int x0), some (.int x1), some (.int x2), some (.int x3), some (.int x4), some (.int x5), some (.int x6), some (.int x7), some (.int x8)] [] (fm_mk S) r := by
  refine fs_iconst (n := 0) (v := 0) (by decide +kernel) (by decide) ?_
  exact nx
theorem b_M_movedBy_107 {d : Nat} {x0 : Int32} {x1 : Int32} {x2 : Int32} {x3 : Int32} {x4 : Int32} {x5 : Int32} {x6 : Int32} {x7 : Int32} {x8 : Int32} {sx0 : Int32} {S : fm_S}  : am_Ev d k_M_movedBy 107 [some (.int x0), some (.int x1), some (.int x2), some (.int x3), some (.int x4), some (.int x5), some (.int x6), some (.int x7), some (.int x8)] [.int sx0] (fm_mk S) (some (.int sx0), fm_mk S) := by
  exact fe_retI (by decide +kernel) (by decide +kernel)
theorem b_M_movedBy_108 {d : Nat} {x0 : Int32} {x1 : Int32} {x2 : Int32} {x3 : Int32} {x4 : Int32} {x5 : Int32} {x6 : Int32} {x7 : Int32} {x8 : Int32} {S : fm_S} {r : Option Value × am_W} (kt : x8 ≤ 0 → am_Ev d k_M_movedBy 123 [some (.int x0), some (.int x1), some (.int x2), some (.int x3), some (.int x4), some (.int x5), some (.int x6), some (.int x7), some (.int x8)] [] (fm_mk S) r) (kf : ¬ x8 ≤ 0 → am_Ev d k_M_movedBy 113 [some (.int x0), some (.int x1), some (.int x2), some (.int x3), some (.int x4), some (.int x5), some (.int x6), some (.int x7), some (.int x8)] [] (fm_mk S) r) : am_Ev d k_M_movedBy 108 [some (.int x0), some (.int x1), some (.int x2), some (.int x3), some (.int x4), some (.int x5), some (.int x6), some (.int x7), some (.int x8)] [] (fm_mk S) r := by
  refine fs_iload (j := 8) (by decide +kernel) rfl ?_
  exact fs_ifle (off := 13) (tgt := 123) (by decide +kernel) (by decide) kt kf
theorem b_M_movedBy_113 {d : Nat} {x0 : Int32} {x1 : Int32} {x2 : Int32} {x3 : Int32} {x4 : Int32} {x5 : Int32} {x6 : Int32} {x7 : Int32} {x8 : Int32} {S : fm_S} {r : Option Value × am_W} (nx : am_Ev d k_M_movedBy 124 [some (.int x0), some (.int x1), some (.int x2), some (.int x3), some (.int x4), some (.int x5), some (.int x6), some (.int x7), some (.int x8)] [.int (x8 + (2 * x5))] (fm_mk S) r) : am_Ev d k_M_movedBy 113 [some (.int x0), some (.int x1), some (.int x2), some (.int x3), some (.int x4), some (.int x5), some (.int x6), some (.int x7), some (.int x8)] [] (fm_mk S) r := by
  refine fs_iload (j := 8) (by decide +kernel) rfl ?_
  refine fs_iconst (n := 2) (v := 2) (by decide +kernel) (by decide) ?_
  refine fs_iload (j := 5) (by decide +kernel) rfl ?_
  refine fs_imul (by decide +kernel) ?_
  refine fs_iadd (by decide +kernel) ?_
  refine fs_goto (off := 4) (tgt := 124) (by decide +kernel) (by decide) ?_
  exact nx
theorem b_M_movedBy_123 {d : Nat} {x0 : Int32} {x1 : Int32} {x2 : Int32} {x3 : Int32} {x4 : Int32} {x5 : Int32} {x6 : Int32} {x7 : Int32} {x8 : Int32} {S : fm_S} {r : Option Value × am_W} (nx : am_Ev d k_M_movedBy 124 [some (.int x0), some (.int x1), some (.int x2), some (.int x3), some (.int x4), some (.int x5), some (.int x6), some (.int x7), some (.int x8)] [.int 0] (fm_mk S) r) : am_Ev d k_M_movedBy 123 [some (.int x0), some (.int x1), some (.int x2), some (.int x3), some (.int x4), some (.int x5), some (.int x6), some (.int x7), some (.int x8)] [] (fm_mk S) r := by
  refine fs_iconst (n := 0) (v := 0) (by decide +kernel) (by decide) ?_
  exact nx
theorem b_M_movedBy_124 {d : Nat} {x0 : Int32} {x1 : Int32} {x2 : Int32} {x3 : Int32} {x4 : Int32} {x5 : Int32} {x6 : Int32} {x7 : Int32} {x8 : Int32} {sx0 : Int32} {S : fm_S}  : am_Ev d k_M_movedBy 124 [some (.int x0), some (.int x1), some (.int x2), some (.int x3), some (.int x4), some (.int x5), some (.int x6), some (.int x7), some (.int x8)] [.int sx0] (fm_mk S) (some (.int sx0), fm_mk S) := by
  exact fe_retI (by decide +kernel) (by decide +kernel)
-- KitchenSiegeModel.has(II)Z
theorem b_M_has_0 {d : Nat} {x0 : Int32} {x1 : Int32} {S : fm_S} {r : Option Value × am_W} (kt : ¬ ((x0 >>> (x1 &&& 31)) &&& 1) = 1 → am_Ev d k_M_has 13 [some (.int x0), some (.int x1)] [] (fm_mk S) r) (kf : ((x0 >>> (x1 &&& 31)) &&& 1) = 1 → am_Ev d k_M_has 9 [some (.int x0), some (.int x1)] [] (fm_mk S) r) : am_Ev d k_M_has 0 [some (.int x0), some (.int x1)] [] (fm_mk S) r := by
  refine fs_iloadn (j := 0) (by decide +kernel) rfl ?_
  refine fs_iloadn (j := 1) (by decide +kernel) rfl ?_
  refine fs_ishr (by decide +kernel) ?_
  refine fs_iconst (n := 1) (v := 1) (by decide +kernel) (by decide) ?_
  refine fs_iand (by decide +kernel) ?_
  refine fs_iconst (n := 1) (v := 1) (by decide +kernel) (by decide) ?_
  exact fs_icne (off := 7) (tgt := 13) (by decide +kernel) (by decide) kt kf
theorem b_M_has_9 {d : Nat} {x0 : Int32} {x1 : Int32} {S : fm_S} {r : Option Value × am_W} (nx : am_Ev d k_M_has 14 [some (.int x0), some (.int x1)] [.int 1] (fm_mk S) r) : am_Ev d k_M_has 9 [some (.int x0), some (.int x1)] [] (fm_mk S) r := by
  refine fs_iconst (n := 1) (v := 1) (by decide +kernel) (by decide) ?_
  refine fs_goto (off := 4) (tgt := 14) (by decide +kernel) (by decide) ?_
  exact nx
theorem b_M_has_13 {d : Nat} {x0 : Int32} {x1 : Int32} {S : fm_S} {r : Option Value × am_W} (nx : am_Ev d k_M_has 14 [some (.int x0), some (.int x1)] [.int 0] (fm_mk S) r) : am_Ev d k_M_has 13 [some (.int x0), some (.int x1)] [] (fm_mk S) r := by
  refine fs_iconst (n := 0) (v := 0) (by decide +kernel) (by decide) ?_
  exact nx
theorem b_M_has_14 {d : Nat} {x0 : Int32} {x1 : Int32} {sx0 : Int32} {S : fm_S}  (hz : sx0 = 0 ∨ sx0 = 1) : am_Ev d k_M_has 14 [some (.int x0), some (.int x1)] [.int sx0] (fm_mk S) (some (.int sx0), fm_mk S) := by
  exact fe_retZ (by decide +kernel) (by decide +kernel) hz
-- KitchenSiegeModel.undo()I
theorem b_M_undo_0 {d : Nat} {S : fm_S} {r : Option Value × am_W} (kt : ¬ (S.1 232 3) = 0 → am_Ev d k_M_undo 14 [some (.ref 231)] [] (fm_mk S) r) (kf : (S.1 232 3) = 0 → am_Ev d k_M_undo 9 [some (.ref 231)] [] (fm_mk S) r) : am_Ev d k_M_undo 0 [some (.ref 231)] [] (fm_mk S) r := by
  refine fs_aloadn (j := 0) (by decide +kernel) rfl ?_
  refine fe_getR (idx := 7) (t := 8) (f := 0) (fk := 2) (fin := 1) (wp := 945) (x := 232) (by decide +kernel) (by decide +kernel) (by decide +kernel) (by decide +kernel) (by decide +kernel) ?_
  refine fs_iconst (n := 3) (v := 3) (by decide +kernel) (by decide) ?_
  refine fx_iald (n := 3) (len := 373) (by decide +kernel) (by decide +kernel) (by decide +kernel) (vp_c (by decide) (by decide)) (by decide) ?_
  exact fs_ifne (off := 8) (tgt := 14) (by decide +kernel) (by decide) kt kf
theorem b_M_undo_9 {d : Nat} {v : Int32} {S1 : fm_S} {S : fm_S} {r : Option Value × am_W} (hc : am_Sp d k_M_no [.ref 231] (fm_mk S) (some (.int v)) (fm_mk S1)) (nx : am_Ev (d + 1) k_M_undo 13 [some (.ref 231)] [.int v] (fm_mk S1) r) : am_Ev (d + 1) k_M_undo 9 [some (.ref 231)] [] (fm_mk S) r := by
  refine fs_aloadn (j := 0) (by decide +kernel) rfl ?_
  exact fe_callV (t := 8) (idx := 88) (n := 0) (wp := 1039) (q := (1041, 34)) (as := []) (rs := []) (by decide +kernel) (by decide +kernel) (by decide +kernel) (by decide +kernel) rfl (Nat.le_of_ble_eq_true rfl) rfl hc nx
theorem b_M_undo_13 {d : Nat} {sx0 : Int32} {S : fm_S}  : am_Ev d k_M_undo 13 [some (.ref 231)] [.int sx0] (fm_mk S) (some (.int sx0), fm_mk S) := by
  exact fe_retI (by decide +kernel) (by decide +kernel)
theorem b_M_undo_14 {d : Nat} {S1 : fm_S} {S : fm_S} {r : Option Value × am_W} (hc : am_Sp d k_M_past [.ref 232, .ref 232, .int (173 + (25 * ((fm_wI S 232 3 ((S.1 232 3) - 1)).1 232 3))), .int 1] (fm_mk (fm_wI S 232 3 ((S.1 232 3) - 1))) (none) (fm_mk S1)) (nx : am_Ev (d + 1) k_M_undo 49 [some (.ref 231)] [] (fm_mk S1) r) : am_Ev (d + 1) k_M_undo 14 [some (.ref 231)] [] (fm_mk S) r := by
  refine fs_aloadn (j := 0) (by decide +kernel) rfl ?_
  refine fe_getR (idx := 7) (t := 8) (f := 0) (fk := 2) (fin := 1) (wp := 945) (x := 232) (by decide +kernel) (by decide +kernel) (by decide +kernel) (by decide +kernel) (by decide +kernel) ?_
  refine fs_iconst (n := 3) (v := 3) (by decide +kernel) (by decide) ?_
  refine fs_dup2 (by decide +kernel) ⟨rfl, rfl⟩ ?_
  refine fx_iald (n := 3) (len := 373) (by decide +kernel) (by decide +kernel) (by decide +kernel) (vp_c (by decide) (by decide)) (by decide) ?_
  refine fs_iconst (n := 1) (v := 1) (by decide +kernel) (by decide) ?_
  refine fs_isub (by decide +kernel) ?_
  refine fx_iast (n := 3) (len := 373) (by decide +kernel) (by decide +kernel) (by decide +kernel) (vp_c (by decide) (by decide)) (by decide) ?_
  refine fs_aloadn (j := 0) (by decide +kernel) rfl ?_
  refine fe_getR (idx := 7) (t := 8) (f := 0) (fk := 2) (fin := 1) (wp := 945) (x := 232) (by decide +kernel) (by decide +kernel) (by decide +kernel) (by decide +kernel) (by decide +kernel) ?_
  refine fs_aloadn (j := 0) (by decide +kernel) rfl ?_
  refine fe_getR (idx := 7) (t := 8) (f := 0) (fk := 2) (fin := 1) (wp := 945) (x := 232) (by decide +kernel) (by decide +kernel) (by decide +kernel) (by decide +kernel) (by decide +kernel) ?_
  refine fs_sipush (n := 173) (v := 173) (by decide +kernel) (by decide) ?_
  refine fs_bipush (n := 25) (v := 25) (by decide +kernel) (by decide) ?_
  refine fs_aloadn (j := 0) (by decide +kernel) rfl ?_
  refine fe_getR (idx := 7) (t := 8) (f := 0) (fk := 2) (fin := 1) (wp := 945) (x := 232) (by decide +kernel) (by decide +kernel) (by decide +kernel) (by decide +kernel) (by decide +kernel) ?_
  refine fs_iconst (n := 3) (v := 3) (by decide +kernel) (by decide) ?_
  refine fx_iald (n := 3) (len := 373) (by decide +kernel) (by decide +kernel) (by decide +kernel) (vp_c (by decide) (by decide)) (by decide) ?_
  refine fs_imul (by decide +kernel) ?_
  refine fs_iadd (by decide +kernel) ?_
  refine fs_iconst (n := 1) (v := 1) (by decide +kernel) (by decide) ?_
  exact fe_callS (idx := 194) (kd := 0) (n := 4) (wp := 1131) (q := (1132, 0)) (as := [.ref 232, .ref 232, .int (173 + (25 * ((fm_wI S 232 3 ((S.1 232 3) - 1)).1 232 3))), .int 1]) (rs := []) (by decide +kernel) (by decide +kernel) (by decide +kernel) (by decide) rfl (Nat.le_of_ble_eq_true rfl) rfl hc nx
theorem b_M_undo_49 {d : Nat} {S : fm_S}  : am_Ev d k_M_undo 49 [some (.ref 231)] [] (fm_mk S) (some (.int (S.1 232 4)), fm_mk S) := by
  refine fs_aloadn (j := 0) (by decide +kernel) rfl ?_
  refine fe_getR (idx := 7) (t := 8) (f := 0) (fk := 2) (fin := 1) (wp := 945) (x := 232) (by decide +kernel) (by decide +kernel) (by decide +kernel) (by decide +kernel) (by decide +kernel) ?_
  refine fs_iconst (n := 4) (v := 4) (by decide +kernel) (by decide) ?_
  refine fx_iald (n := 4) (len := 373) (by decide +kernel) (by decide +kernel) (by decide +kernel) (vp_c (by decide) (by decide)) (by decide) ?_
  exact fe_retI (by decide +kernel) (by decide +kernel)
-- KitchenSiegeModel.of(II)I
theorem b_M_of_0 {d : Nat} {x1 : Int32} {x2 : Int32} {v : Int32} {S1 : fm_S} {S : fm_S} {r : Option Value × am_W} (hc : am_Sp d k_M_isStreet [.ref 231, .int x1] (fm_mk S) (some (.int v)) (fm_mk S1)) (nx : am_Ev (d + 1) k_M_of 5 [some (.ref 231), some (.int x1), some (.int x2)] [.int v] (fm_mk S1) r) : am_Ev (d + 1) k_M_of 0 [some (.ref 231), some (.int x1), some (.int x2)] [] (fm_mk S) r := by
  refine fs_aloadn (j := 0) (by decide +kernel) rfl ?_
  refine fs_iloadn (j := 1) (by decide +kernel) rfl ?_
  exact fe_callV (t := 8) (idx := 84) (n := 1) (wp := 1035) (q := (1037, 33)) (as := [.int x1]) (rs := []) (by decide +kernel) (by decide +kernel) (by decide +kernel) (by decide +kernel) rfl (Nat.le_of_ble_eq_true rfl) rfl hc nx
theorem b_M_of_5 {d : Nat} {x1 : Int32} {x2 : Int32} {sx0 : Int32} {S : fm_S} {r : Option Value × am_W} (kt : sx0 = 0 → am_Ev d k_M_of 20 [some (.ref 231), some (.int x1), some (.int x2)] [] (fm_mk S) r) (kf : ¬ sx0 = 0 → am_Ev d k_M_of 8 [some (.ref 231), some (.int x1), some (.int x2)] [] (fm_mk S) r) : am_Ev d k_M_of 5 [some (.ref 231), some (.int x1), some (.int x2)] [.int sx0] (fm_mk S) r := by
  exact fs_ifeq (off := 15) (tgt := 20) (by decide +kernel) (by decide) kt kf
theorem b_M_of_8 {d : Nat} {x1 : Int32} {x2 : Int32} {v : Int32} {S1 : fm_S} {S : fm_S} {r : Option Value × am_W} (hc : am_Sp d k_M_in [.long x2.toInt64, .long 0, .long 5] (fm_mk S) (some (.int v)) (fm_mk S1)) (nx : am_Ev (d + 1) k_M_of 17 [some (.ref 231), some (.int x1), some (.int x2)] [.int v] (fm_mk S1) r) : am_Ev (d + 1) k_M_of 8 [some (.ref 231), some (.int x1), some (.int x2)] [] (fm_mk S) r := by
  refine fs_iloadn (j := 2) (by decide +kernel) rfl ?_
  refine fs_i2l (by decide +kernel) ?_
  refine fs_lconst (n := 0) (v := 0) (by decide +kernel) (by decide) ?_
  refine fs_ldc2 (idx := 65) (q := 1015) (v := 5) (by decide +kernel) (by decide +kernel) ?_
  exact fe_callS (idx := 67) (kd := 0) (n := 3) (wp := 1016) (q := (1017, 0)) (as := [.long x2.toInt64, .long 0, .long 5]) (rs := []) (by decide +kernel) (by decide +kernel) (by decide +kernel) (by decide) rfl (Nat.le_of_ble_eq_true rfl) rfl hc nx
theorem b_M_of_17 {d : Nat} {x1 : Int32} {x2 : Int32} {sx0 : Int32} {S : fm_S} {r : Option Value × am_W} (kt : ¬ sx0 = 0 → am_Ev d k_M_of 25 [some (.ref 231), some (.int x1), some (.int x2)] [] (fm_mk S) r) (kf : sx0 = 0 → am_Ev d k_M_of 20 [some (.ref 231), some (.int x1), some (.int x2)] [] (fm_mk S) r) : am_Ev d k_M_of 17 [some (.ref 231), some (.int x1), some (.int x2)] [.int sx0] (fm_mk S) r := by
  exact fs_ifne (off := 8) (tgt := 25) (by decide +kernel) (by decide) kt kf
theorem b_M_of_20 {d : Nat} {x1 : Int32} {x2 : Int32} {v : Int32} {S1 : fm_S} {S : fm_S} {r : Option Value × am_W} (hc : am_Sp d k_M_bad10 [.ref 231] (fm_mk S) (some (.int v)) (fm_mk S1)) (nx : am_Ev (d + 1) k_M_of 24 [some (.ref 231), some (.int x1), some (.int x2)] [.int v] (fm_mk S1) r) : am_Ev (d + 1) k_M_of 20 [some (.ref 231), some (.int x1), some (.int x2)] [] (fm_mk S) r := by
  refine fs_aloadn (j := 0) (by decide +kernel) rfl ?_
  exact fe_callV (t := 8) (idx := 201) (n := 0) (wp := 1168) (q := (1170, 49)) (as := []) (rs := []) (by decide +kernel) (by decide +kernel) (by decide +kernel) (by decide +kernel) rfl (Nat.le_of_ble_eq_true rfl) rfl hc nx
theorem b_M_of_24 {d : Nat} {x1 : Int32} {x2 : Int32} {sx0 : Int32} {S : fm_S}  : am_Ev d k_M_of 24 [some (.ref 231), some (.int x1), some (.int x2)] [.int sx0] (fm_mk S) (some (.int sx0), fm_mk S) := by
  exact fe_retI (by decide +kernel) (by decide +kernel)
theorem b_M_of_25 {d : Nat} {x1 : Int32} {x2 : Int32} {S : fm_S}  (hi0 : vp_in ((5 + (8 * x2)) + x1) 373) : am_Ev d k_M_of 25 [some (.ref 231), some (.int x1), some (.int x2)] [] (fm_mk S) (some (.int (S.1 232 (((5 + (8 * x2)) + x1).toNatClampNeg))), fm_mk S) := by
  refine fs_aloadn (j := 0) (by decide +kernel) rfl ?_
  refine fe_getR (idx := 7) (t := 8) (f := 0) (fk := 2) (fin := 1) (wp := 945) (x := 232) (by decide +kernel) (by decide +kernel) (by decide +kernel) (by decide +kernel) (by decide +kernel) ?_
  refine fs_iconst (n := 5) (v := 5) (by decide +kernel) (by decide) ?_
  refine fs_bipush (n := 8) (v := 8) (by decide +kernel) (by decide) ?_
  refine fs_iloadn (j := 2) (by decide +kernel) rfl ?_
  refine fs_imul (by decide +kernel) ?_
  refine fs_iadd (by decide +kernel) ?_
  refine fs_iloadn (j := 1) (by decide +kernel) rfl ?_
  refine fs_iadd (by decide +kernel) ?_
  refine fx_iald (n := ((5 + (8 * x2)) + x1).toNatClampNeg) (len := 373) (by decide +kernel) (by decide +kernel) (by decide +kernel) hi0 rfl ?_
  exact fe_retI (by decide +kernel) (by decide +kernel)
-- KitchenSiegeModel.bad10()I
theorem b_M_bad10_0 {d : Nat} {S : fm_S}  : am_Ev d k_M_bad10 0 [some (.ref 231)] [] (fm_mk S) (some (.int (-10)), fm_mk (fm_wI S 231 8 ((S.1 231 8) + 1))) := by
  refine fs_aloadn (j := 0) (by decide +kernel) rfl ?_
  refine fs_dup (by decide +kernel) rfl ?_
  refine fe_getI (idx := 55) (t := 8) (f := 8) (fk := 0) (fin := 0) (wp := 953) (by decide +kernel) (by decide +kernel) (by decide +kernel) (by decide +kernel) ?_
  refine fs_iconst (n := 1) (v := 1) (by decide +kernel) (by decide) ?_
  refine fs_iadd (by decide +kernel) ?_
  refine fe_putI (idx := 55) (t := 8) (f := 8) (wp := 953) (by decide +kernel) (by decide +kernel) (by decide +kernel) (by decide +kernel) ?_
  refine fs_bipush (n := -10) (v := (-10)) (by decide +kernel) (by decide) ?_
  exact fe_retI (by decide +kernel) (by decide +kernel)
-- KitchenSiegeModel.smells(III)I
theorem b_M_smells_0 {d : Nat} {x1 : Int32} {x2 : Int32} {x3 : Int32} {v : Int32} {S1 : fm_S} {S : fm_S} {r : Option Value × am_W} (hc : am_Sp d k_M_isDish [.ref 231, .int x1] (fm_mk S) (some (.int v)) (fm_mk S1)) (nx : am_Ev (d + 1) k_M_smells 5 [some (.ref 231), some (.int x1), some (.int x2), some (.int x3)] [.int v] (fm_mk S1) r) : am_Ev (d + 1) k_M_smells 0 [some (.ref 231), some (.int x1), some (.int x2), some (.int x3)] [] (fm_mk S) r := by
  refine fs_aloadn (j := 0) (by decide +kernel) rfl ?_
  refine fs_iloadn (j := 1) (by decide +kernel) rfl ?_
  exact fe_callV (t := 8) (idx := 172) (n := 1) (wp := 1127) (q := (1129, 43)) (as := [.int x1]) (rs := []) (by decide +kernel) (by decide +kernel) (by decide +kernel) (by decide +kernel) rfl (Nat.le_of_ble_eq_true rfl) rfl hc nx
theorem b_M_smells_5 {d : Nat} {x1 : Int32} {x2 : Int32} {x3 : Int32} {sx0 : Int32} {S : fm_S} {r : Option Value × am_W} (kt : sx0 = 0 → am_Ev d k_M_smells 28 [some (.ref 231), some (.int x1), some (.int x2), some (.int x3)] [] (fm_mk S) r) (kf : ¬ sx0 = 0 → am_Ev d k_M_smells 8 [some (.ref 231), some (.int x1), some (.int x2), some (.int x3)] [] (fm_mk S) r) : am_Ev d k_M_smells 5 [some (.ref 231), some (.int x1), some (.int x2), some (.int x3)] [.int sx0] (fm_mk S) r := by
  exact fs_ifeq (off := 23) (tgt := 28) (by decide +kernel) (by decide) kt kf
theorem b_M_smells_8 {d : Nat} {x1 : Int32} {x2 : Int32} {x3 : Int32} {v : Int32} {S1 : fm_S} {S : fm_S} {r : Option Value × am_W} (hc : am_Sp d k_M_in [.long x2.toInt64, .long 0, .long 3] (fm_mk S) (some (.int v)) (fm_mk S1)) (nx : am_Ev (d + 1) k_M_smells 17 [some (.ref 231), some (.int x1), some (.int x2), some (.int x3)] [.int v] (fm_mk S1) r) : am_Ev (d + 1) k_M_smells 8 [some (.ref 231), some (.int x1), some (.int x2), some (.int x3)] [] (fm_mk S) r := by
  refine fs_iloadn (j := 2) (by decide +kernel) rfl ?_
  refine fs_i2l (by decide +kernel) ?_
  refine fs_lconst (n := 0) (v := 0) (by decide +kernel) (by decide) ?_
  refine fs_ldc2 (idx := 95) (q := 1050) (v := 3) (by decide +kernel) (by decide +kernel) ?_
  exact fe_callS (idx := 67) (kd := 0) (n := 3) (wp := 1016) (q := (1017, 0)) (as := [.long x2.toInt64, .long 0, .long 3]) (rs := []) (by decide +kernel) (by decide +kernel) (by decide +kernel) (by decide) rfl (Nat.le_of_ble_eq_true rfl) rfl hc nx
theorem b_M_smells_17 {d : Nat} {x1 : Int32} {x2 : Int32} {x3 : Int32} {sx0 : Int32} {S : fm_S} {r : Option Value × am_W} (kt : sx0 = 0 → am_Ev d k_M_smells 28 [some (.ref 231), some (.int x1), some (.int x2), some (.int x3)] [] (fm_mk S) r) (kf : ¬ sx0 = 0 → am_Ev d k_M_smells 20 [some (.ref 231), some (.int x1), some (.int x2), some (.int x3)] [] (fm_mk S) r) : am_Ev d k_M_smells 17 [some (.ref 231), some (.int x1), some (.int x2), some (.int x3)] [.int sx0] (fm_mk S) r := by
  exact fs_ifeq (off := 11) (tgt := 28) (by decide +kernel) (by decide) kt kf
theorem b_M_smells_20 {d : Nat} {x1 : Int32} {x2 : Int32} {x3 : Int32} {v : Int32} {S1 : fm_S} {S : fm_S} {r : Option Value × am_W} (hc : am_Sp d k_M_isStreet [.ref 231, .int x3] (fm_mk S) (some (.int v)) (fm_mk S1)) (nx : am_Ev (d + 1) k_M_smells 25 [some (.ref 231), some (.int x1), some (.int x2), some (.int x3)] [.int v] (fm_mk S1) r) : am_Ev (d + 1) k_M_smells 20 [some (.ref 231), some (.int x1), some (.int x2), some (.int x3)] [] (fm_mk S) r := by
  refine fs_aloadn (j := 0) (by decide +kernel) rfl ?_
  refine fs_iloadn (j := 3) (by decide +kernel) rfl ?_
  exact fe_callV (t := 8) (idx := 84) (n := 1) (wp := 1035) (q := (1037, 33)) (as := [.int x3]) (rs := []) (by decide +kernel) (by decide +kernel) (by decide +kernel) (by decide +kernel) rfl (Nat.le_of_ble_eq_true rfl) rfl hc nx
theorem b_M_smells_25 {d : Nat} {x1 : Int32} {x2 : Int32} {x3 : Int32} {sx0 : Int32} {S : fm_S} {r : Option Value × am_W} (kt : ¬ sx0 = 0 → am_Ev d k_M_smells 33 [some (.ref 231), some (.int x1), some (.int x2), some (.int x3)] [] (fm_mk S) r) (kf : sx0 = 0 → am_Ev d k_M_smells 28 [some (.ref 231), some (.int x1), some (.int x2), some (.int x3)] [] (fm_mk S) r) : am_Ev d k_M_smells 25 [some (.ref 231), some (.int x1), some (.int x2), some (.int x3)] [.int sx0] (fm_mk S) r := by
  exact fs_ifne (off := 8) (tgt := 33) (by decide +kernel) (by decide) kt kf
theorem b_M_smells_28 {d : Nat} {x1 : Int32} {x2 : Int32} {x3 : Int32} {v : Int32} {S1 : fm_S} {S : fm_S} {r : Option Value × am_W} (hc : am_Sp d k_M_bad [.ref 231] (fm_mk S) (some (.int v)) (fm_mk S1)) (nx : am_Ev (d + 1) k_M_smells 32 [some (.ref 231), some (.int x1), some (.int x2), some (.int x3)] [.int v] (fm_mk S1) r) : am_Ev (d + 1) k_M_smells 28 [some (.ref 231), some (.int x1), some (.int x2), some (.int x3)] [] (fm_mk S) r := by
  refine fs_aloadn (j := 0) (by decide +kernel) rfl ?_
  exact fe_callV (t := 8) (idx := 73) (n := 0) (wp := 1020) (q := (1022, 31)) (as := []) (rs := []) (by decide +kernel) (by decide +kernel) (by decide +kernel) (by decide +kernel) rfl (Nat.le_of_ble_eq_true rfl) rfl hc nx
theorem b_M_smells_32 {d : Nat} {x1 : Int32} {x2 : Int32} {x3 : Int32} {sx0 : Int32} {S : fm_S}  : am_Ev d k_M_smells 32 [some (.ref 231), some (.int x1), some (.int x2), some (.int x3)] [.int sx0] (fm_mk S) (some (.int sx0), fm_mk S) := by
  exact fe_retI (by decide +kernel) (by decide +kernel)
theorem b_M_smells_33 {d : Nat} {x1 : Int32} {x2 : Int32} {x3 : Int32} {S1 : fm_S} {S : fm_S} {r : Option Value × am_W} (hi0 : vp_in (131 + x1) 373) (hc : am_Sp d k_M_spread [.ref 231, .int (S.1 232 ((131 + x1).toNatClampNeg)), .int x2, .int (-1), .int 0] (fm_mk S) (none) (fm_mk S1)) (nx : am_Ev (d + 1) k_M_smells 50 [some (.ref 231), some (.int x1), some (.int x2), some (.int x3)] [] (fm_mk S1) r) : am_Ev (d + 1) k_M_smells 33 [some (.ref 231), some (.int x1), some (.int x2), some (.int x3)] [] (fm_mk S) r := by
  refine fs_aloadn (j := 0) (by decide +kernel) rfl ?_
  refine fs_aloadn (j := 0) (by decide +kernel) rfl ?_
  refine fe_getR (idx := 7) (t := 8) (f := 0) (fk := 2) (fin := 1) (wp := 945) (x := 232) (by decide +kernel) (by decide +kernel) (by decide +kernel) (by decide +kernel) (by decide +kernel) ?_
  refine fs_sipush (n := 131) (v := 131) (by decide +kernel) (by decide) ?_
  refine fs_iloadn (j := 1) (by decide +kernel) rfl ?_
  refine fs_iadd (by decide +kernel) ?_
  refine fx_iald (n := (131 + x1).toNatClampNeg) (len := 373) (by decide +kernel) (by decide +kernel) (by decide +kernel) hi0 rfl ?_
  refine fs_iloadn (j := 2) (by decide +kernel) rfl ?_
  refine fs_iconst (n := -1) (v := (-1)) (by decide +kernel) (by decide) ?_
  refine fs_iconst (n := 0) (v := 0) (by decide +kernel) (by decide) ?_
  exact fe_callV (t := 8) (idx := 178) (n := 4) (wp := 1146) (q := (1148, 47)) (as := [.int (S.1 232 ((131 + x1).toNatClampNeg)), .int x2, .int (-1), .int 0]) (rs := []) (by decide +kernel) (by decide +kernel) (by decide +kernel) (by decide +kernel) rfl (Nat.le_of_ble_eq_true rfl) rfl hc nx
theorem b_M_smells_50 {d : Nat} {x1 : Int32} {x2 : Int32} {x3 : Int32} {S : fm_S}  (hi0 : vp_in x3 8) : am_Ev d k_M_smells 50 [some (.ref 231), some (.int x1), some (.int x2), some (.int x3)] [] (fm_mk S) (some (.int (S.1 238 x3.toNatClampNeg)), fm_mk S) := by
  refine fs_aloadn (j := 0) (by decide +kernel) rfl ?_
  refine fe_getR (idx := 28) (t := 8) (f := 14) (fk := 2) (fin := 1) (wp := 959) (x := 238) (by decide +kernel) (by decide +kernel) (by decide +kernel) (by decide +kernel) (by decide +kernel) ?_
  refine fs_iloadn (j := 3) (by decide +kernel) rfl ?_
  refine fx_iald (n := x3.toNatClampNeg) (len := 8) (by decide +kernel) (by decide +kernel) (by decide +kernel) hi0 rfl ?_
  exact fe_retI (by decide +kernel) (by decide +kernel)
-- KitchenSiegeModel.moved(II)I
theorem b_M_moved_0 {d : Nat} {x1 : Int32} {x2 : Int32} {v : Int32} {S1 : fm_S} {S : fm_S} {r : Option Value × am_W} (hc : am_Sp d k_M_isDish [.ref 231, .int x1] (fm_mk S) (some (.int v)) (fm_mk S1)) (nx : am_Ev (d + 1) k_M_moved 5 [some (.ref 231), some (.int x1), some (.int x2)] [.int v] (fm_mk S1) r) : am_Ev (d + 1) k_M_moved 0 [some (.ref 231), some (.int x1), some (.int x2)] [] (fm_mk S) r := by
  refine fs_aloadn (j := 0) (by decide +kernel) rfl ?_
  refine fs_iloadn (j := 1) (by decide +kernel) rfl ?_
  exact fe_callV (t := 8) (idx := 172) (n := 1) (wp := 1127) (q := (1129, 43)) (as := [.int x1]) (rs := []) (by decide +kernel) (by decide +kernel) (by decide +kernel) (by decide +kernel) rfl (Nat.le_of_ble_eq_true rfl) rfl hc nx
theorem b_M_moved_5 {d : Nat} {x1 : Int32} {x2 : Int32} {sx0 : Int32} {S : fm_S} {r : Option Value × am_W} (kt : sx0 = 0 → am_Ev d k_M_moved 16 [some (.ref 231), some (.int x1), some (.int x2)] [] (fm_mk S) r) (kf : ¬ sx0 = 0 → am_Ev d k_M_moved 8 [some (.ref 231), some (.int x1), some (.int x2)] [] (fm_mk S) r) : am_Ev d k_M_moved 5 [some (.ref 231), some (.int x1), some (.int x2)] [.int sx0] (fm_mk S) r := by
  exact fs_ifeq (off := 11) (tgt := 16) (by decide +kernel) (by decide) kt kf
theorem b_M_moved_8 {d : Nat} {x1 : Int32} {x2 : Int32} {v : Int32} {S1 : fm_S} {S : fm_S} {r : Option Value × am_W} (hc : am_Sp d k_M_isStreet [.ref 231, .int x2] (fm_mk S) (some (.int v)) (fm_mk S1)) (nx : am_Ev (d + 1) k_M_moved 13 [some (.ref 231), some (.int x1), some (.int x2)] [.int v] (fm_mk S1) r) : am_Ev (d + 1) k_M_moved 8 [some (.ref 231), some (.int x1), some (.int x2)] [] (fm_mk S) r := by
  refine fs_aloadn (j := 0) (by decide +kernel) rfl ?_
  refine fs_iloadn (j := 2) (by decide +kernel) rfl ?_
  exact fe_callV (t := 8) (idx := 84) (n := 1) (wp := 1035) (q := (1037, 33)) (as := [.int x2]) (rs := []) (by decide +kernel) (by decide +kernel) (by decide +kernel) (by decide +kernel) rfl (Nat.le_of_ble_eq_true rfl) rfl hc nx
theorem b_M_moved_13 {d : Nat} {x1 : Int32} {x2 : Int32} {sx0 : Int32} {S : fm_S} {r : Option Value × am_W} (kt : ¬ sx0 = 0 → am_Ev d k_M_moved 21 [some (.ref 231), some (.int x1), some (.int x2)] [] (fm_mk S) r) (kf : sx0 = 0 → am_Ev d k_M_moved 16 [some (.ref 231), some (.int x1), some (.int x2)] [] (fm_mk S) r) : am_Ev d k_M_moved 13 [some (.ref 231), some (.int x1), some (.int x2)] [.int sx0] (fm_mk S) r := by
  exact fs_ifne (off := 8) (tgt := 21) (by decide +kernel) (by decide) kt kf
theorem b_M_moved_16 {d : Nat} {x1 : Int32} {x2 : Int32} {v : Int32} {S1 : fm_S} {S : fm_S} {r : Option Value × am_W} (hc : am_Sp d k_M_bad [.ref 231] (fm_mk S) (some (.int v)) (fm_mk S1)) (nx : am_Ev (d + 1) k_M_moved 20 [some (.ref 231), some (.int x1), some (.int x2)] [.int v] (fm_mk S1) r) : am_Ev (d + 1) k_M_moved 16 [some (.ref 231), some (.int x1), some (.int x2)] [] (fm_mk S) r := by
  refine fs_aloadn (j := 0) (by decide +kernel) rfl ?_
  exact fe_callV (t := 8) (idx := 73) (n := 0) (wp := 1020) (q := (1022, 31)) (as := []) (rs := []) (by decide +kernel) (by decide +kernel) (by decide +kernel) (by decide +kernel) rfl (Nat.le_of_ble_eq_true rfl) rfl hc nx
theorem b_M_moved_20 {d : Nat} {x1 : Int32} {x2 : Int32} {sx0 : Int32} {S : fm_S}  : am_Ev d k_M_moved 20 [some (.ref 231), some (.int x1), some (.int x2)] [.int sx0] (fm_mk S) (some (.int sx0), fm_mk S) := by
  exact fe_retI (by decide +kernel) (by decide +kernel)
theorem b_M_moved_21 {d : Nat} {x1 : Int32} {x2 : Int32} {v : Int32} {S1 : fm_S} {S : fm_S} {r : Option Value × am_W} (hi0 : vp_in (131 + x1) 373) (hc : am_Sp d k_M_windOf [.ref 231, .int (S.1 232 4)] (fm_mk S) (some (.int v)) (fm_mk S1)) (nx : am_Ev (d + 1) k_M_moved 42 [some (.ref 231), some (.int x1), some (.int x2)] [.int v, .int (S.1 232 ((131 + x1).toNatClampNeg)), .ref 231] (fm_mk S1) r) : am_Ev (d + 1) k_M_moved 21 [some (.ref 231), some (.int x1), some (.int x2)] [] (fm_mk S) r := by
  refine fs_aloadn (j := 0) (by decide +kernel) rfl ?_
  refine fs_aloadn (j := 0) (by decide +kernel) rfl ?_
  refine fe_getR (idx := 7) (t := 8) (f := 0) (fk := 2) (fin := 1) (wp := 945) (x := 232) (by decide +kernel) (by decide +kernel) (by decide +kernel) (by decide +kernel) (by decide +kernel) ?_
  refine fs_sipush (n := 131) (v := 131) (by decide +kernel) (by decide) ?_
  refine fs_iloadn (j := 1) (by decide +kernel) rfl ?_
  refine fs_iadd (by decide +kernel) ?_
  refine fx_iald (n := (131 + x1).toNatClampNeg) (len := 373) (by decide +kernel) (by decide +kernel) (by decide +kernel) hi0 rfl ?_
  refine fs_aloadn (j := 0) (by decide +kernel) rfl ?_
  refine fs_aloadn (j := 0) (by decide +kernel) rfl ?_
  refine fe_getR (idx := 7) (t := 8) (f := 0) (fk := 2) (fin := 1) (wp := 945) (x := 232) (by decide +kernel) (by decide +kernel) (by decide +kernel) (by decide +kernel) (by decide +kernel) ?_
  refine fs_iconst (n := 4) (v := 4) (by decide +kernel) (by decide) ?_
  refine fx_iald (n := 4) (len := 373) (by decide +kernel) (by decide +kernel) (by decide +kernel) (vp_c (by decide) (by decide)) (by decide) ?_
  exact fe_callV (t := 8) (idx := 175) (n := 1) (wp := 1142) (q := (1144, 46)) (as := [.int (S.1 232 4)]) (rs := [.int (S.1 232 ((131 + x1).toNatClampNeg)), .ref 231]) (by decide +kernel) (by decide +kernel) (by decide +kernel) (by decide +kernel) rfl (Nat.le_of_ble_eq_true rfl) rfl hc nx
theorem b_M_moved_42 {d : Nat} {x1 : Int32} {x2 : Int32} {sx1 : Int32} {sx2 : Int32} {S1 : fm_S} {S : fm_S} {r : Option Value × am_W} (hc : am_Sp d k_M_spread [.ref 231, .int sx1, .int sx2, .int (-1), .int 0] (fm_mk S) (none) (fm_mk S1)) (nx : am_Ev (d + 1) k_M_moved 47 [some (.ref 231), some (.int x1), some (.int x2)] [] (fm_mk S1) r) : am_Ev (d + 1) k_M_moved 42 [some (.ref 231), some (.int x1), some (.int x2)] [.int sx2, .int sx1, .ref 231] (fm_mk S) r := by
  refine fs_iconst (n := -1) (v := (-1)) (by decide +kernel) (by decide) ?_
  refine fs_iconst (n := 0) (v := 0) (by decide +kernel) (by decide) ?_
  exact fe_callV (t := 8) (idx := 178) (n := 4) (wp := 1146) (q := (1148, 47)) (as := [.int sx1, .int sx2, .int (-1), .int 0]) (rs := []) (by decide +kernel) (by decide +kernel) (by decide +kernel) (by decide +kernel) rfl (Nat.le_of_ble_eq_true rfl) rfl hc nx
theorem b_M_moved_47 {d : Nat} {x1 : Int32} {x2 : Int32} {v : Int32} {S1 : fm_S} {S : fm_S} {r : Option Value × am_W} (hi0 : vp_in (125 + x1) 373) (hi1 : vp_in x2 8) (hc : am_Sp d k_M_movedIn [.ref 231, .int x2, .int (S.1 232 ((125 + x1).toNatClampNeg)), .int (S.1 238 x2.toNatClampNeg), .int (S.1 232 4)] (fm_mk S) (some (.int v)) (fm_mk S1)) (nx : am_Ev (d + 1) k_M_moved 73 [some (.ref 231), some (.int x1), some (.int x2)] [.int v] (fm_mk S1) r) : am_Ev (d + 1) k_M_moved 47 [some (.ref 231), some (.int x1), some (.int x2)] [] (fm_mk S) r := by
  refine fs_aloadn (j := 0) (by decide +kernel) rfl ?_
  refine fs_iloadn (j := 2) (by decide +kernel) rfl ?_
  refine fs_aloadn (j := 0) (by decide +kernel) rfl ?_
  refine fe_getR (idx := 7) (t := 8) (f := 0) (fk := 2) (fin := 1) (wp := 945) (x := 232) (by decide +kernel) (by decide +kernel) (by decide +kernel) (by decide +kernel) (by decide +kernel) ?_
  refine fs_bipush (n := 125) (v := 125) (by decide +kernel) (by decide) ?_
  refine fs_iloadn (j := 1) (by decide +kernel) rfl ?_
  refine fs_iadd (by decide +kernel) ?_
  refine fx_iald (n := (125 + x1).toNatClampNeg) (len := 373) (by decide +kernel) (by decide +kernel) (by decide +kernel) hi0 rfl ?_
  refine fs_aloadn (j := 0) (by decide +kernel) rfl ?_
  refine fe_getR (idx := 28) (t := 8) (f := 14) (fk := 2) (fin := 1) (wp := 959) (x := 238) (by decide +kernel) (by decide +kernel) (by decide +kernel) (by decide +kernel) (by decide +kernel) ?_
  refine fs_iloadn (j := 2) (by decide +kernel) rfl ?_
  refine fx_iald (n := x2.toNatClampNeg) (len := 8) (by decide +kernel) (by decide +kernel) (by decide +kernel) hi1 rfl ?_
  refine fs_aloadn (j := 0) (by decide +kernel) rfl ?_
  refine fe_getR (idx := 7) (t := 8) (f := 0) (fk := 2) (fin := 1) (wp := 945) (x := 232) (by decide +kernel) (by decide +kernel) (by decide +kernel) (by decide +kernel) (by decide +kernel) ?_
  refine fs_iconst (n := 4) (v := 4) (by decide +kernel) (by decide) ?_
  refine fx_iald (n := 4) (len := 373) (by decide +kernel) (by decide +kernel) (by decide +kernel) (vp_c (by decide) (by decide)) (by decide) ?_
  exact fe_callV (t := 8) (idx := 182) (n := 4) (wp := 1150) (q := (1152, 48)) (as := [.int x2, .int (S.1 232 ((125 + x1).toNatClampNeg)), .int (S.1 238 x2.toNatClampNeg), .int (S.1 232 4)]) (rs := []) (by decide +kernel) (by decide +kernel) (by decide +kernel) (by decide +kernel) rfl (Nat.le_of_ble_eq_true rfl) rfl hc nx
theorem b_M_moved_73 {d : Nat} {x1 : Int32} {x2 : Int32} {sx0 : Int32} {S : fm_S}  : am_Ev d k_M_moved 73 [some (.ref 231), some (.int x1), some (.int x2)] [.int sx0] (fm_mk S) (some (.int sx0), fm_mk S) := by
  exact fe_retI (by decide +kernel) (by decide +kernel)
-- KitchenSiegeModel.falls(II)I
theorem b_M_falls_0 {d : Nat} {x1 : Int32} {x2 : Int32} {o3 : Option Value} {v : Int32} {S1 : fm_S} {S : fm_S} {r : Option Value × am_W} (hc : am_Sp d k_M_isDish [.ref 231, .int x1] (fm_mk S) (some (.int v)) (fm_mk S1)) (nx : am_Ev (d + 1) k_M_falls 5 [some (.ref 231), some (.int x1), some (.int x2), o3] [.int v] (fm_mk S1) r) : am_Ev (d + 1) k_M_falls 0 [some (.ref 231), some (.int x1), some (.int x2), o3] [] (fm_mk S) r := by
  refine fs_aloadn (j := 0) (by decide +kernel) rfl ?_
  refine fs_iloadn (j := 1) (by decide +kernel) rfl ?_
  exact fe_callV (t := 8) (idx := 172) (n := 1) (wp := 1127) (q := (1129, 43)) (as := [.int x1]) (rs := []) (by decide +kernel) (by decide +kernel) (by decide +kernel) (by decide +kernel) rfl (Nat.le_of_ble_eq_true rfl) rfl hc nx
theorem b_M_falls_5 {d : Nat} {x1 : Int32} {x2 : Int32} {o3 : Option Value} {sx0 : Int32} {S : fm_S} {r : Option Value × am_W} (kt : sx0 = 0 → am_Ev d k_M_falls 16 [some (.ref 231), some (.int x1), some (.int x2), o3] [] (fm_mk S) r) (kf : ¬ sx0 = 0 → am_Ev d k_M_falls 8 [some (.ref 231), some (.int x1), some (.int x2), o3] [] (fm_mk S) r) : am_Ev d k_M_falls 5 [some (.ref 231), some (.int x1), some (.int x2), o3] [.int sx0] (fm_mk S) r := by
  exact fs_ifeq (off := 11) (tgt := 16) (by decide +kernel) (by decide) kt kf
theorem b_M_falls_8 {d : Nat} {x1 : Int32} {x2 : Int32} {o3 : Option Value} {v : Int32} {S1 : fm_S} {S : fm_S} {r : Option Value × am_W} (hc : am_Sp d k_M_isStreet [.ref 231, .int x2] (fm_mk S) (some (.int v)) (fm_mk S1)) (nx : am_Ev (d + 1) k_M_falls 13 [some (.ref 231), some (.int x1), some (.int x2), o3] [.int v] (fm_mk S1) r) : am_Ev (d + 1) k_M_falls 8 [some (.ref 231), some (.int x1), some (.int x2), o3] [] (fm_mk S) r := by
  refine fs_aloadn (j := 0) (by decide +kernel) rfl ?_
  refine fs_iloadn (j := 2) (by decide +kernel) rfl ?_
  exact fe_callV (t := 8) (idx := 84) (n := 1) (wp := 1035) (q := (1037, 33)) (as := [.int x2]) (rs := []) (by decide +kernel) (by decide +kernel) (by decide +kernel) (by decide +kernel) rfl (Nat.le_of_ble_eq_true rfl) rfl hc nx
theorem b_M_falls_13 {d : Nat} {x1 : Int32} {x2 : Int32} {o3 : Option Value} {sx0 : Int32} {S : fm_S} {r : Option Value × am_W} (kt : ¬ sx0 = 0 → am_Ev d k_M_falls 21 [some (.ref 231), some (.int x1), some (.int x2), o3] [] (fm_mk S) r) (kf : sx0 = 0 → am_Ev d k_M_falls 16 [some (.ref 231), some (.int x1), some (.int x2), o3] [] (fm_mk S) r) : am_Ev d k_M_falls 13 [some (.ref 231), some (.int x1), some (.int x2), o3] [.int sx0] (fm_mk S) r := by
  exact fs_ifne (off := 8) (tgt := 21) (by decide +kernel) (by decide) kt kf
theorem b_M_falls_16 {d : Nat} {x1 : Int32} {x2 : Int32} {o3 : Option Value} {v : Int32} {S1 : fm_S} {S : fm_S} {r : Option Value × am_W} (hc : am_Sp d k_M_bad [.ref 231] (fm_mk S) (some (.int v)) (fm_mk S1)) (nx : am_Ev (d + 1) k_M_falls 20 [some (.ref 231), some (.int x1), some (.int x2), o3] [.int v] (fm_mk S1) r) : am_Ev (d + 1) k_M_falls 16 [some (.ref 231), some (.int x1), some (.int x2), o3] [] (fm_mk S) r := by
  refine fs_aloadn (j := 0) (by decide +kernel) rfl ?_
  exact fe_callV (t := 8) (idx := 73) (n := 0) (wp := 1020) (q := (1022, 31)) (as := []) (rs := []) (by decide +kernel) (by decide +kernel) (by decide +kernel) (by decide +kernel) rfl (Nat.le_of_ble_eq_true rfl) rfl hc nx
theorem b_M_falls_20 {d : Nat} {x1 : Int32} {x2 : Int32} {o3 : Option Value} {sx0 : Int32} {S : fm_S}  : am_Ev d k_M_falls 20 [some (.ref 231), some (.int x1), some (.int x2), o3] [.int sx0] (fm_mk S) (some (.int sx0), fm_mk S) := by
  exact fe_retI (by decide +kernel) (by decide +kernel)
theorem b_M_falls_21 {d : Nat} {x1 : Int32} {x2 : Int32} {o3 : Option Value} {S1 : fm_S} {S : fm_S} {r : Option Value × am_W} (hc : am_Sp d k_M_past [.ref 232, .ref 239, .int 0, .int 0] (fm_mk S) (none) (fm_mk S1)) (nx : am_Ev (d + 1) k_M_falls 34 [some (.ref 231), some (.int x1), some (.int x2), o3] [] (fm_mk S1) r) : am_Ev (d + 1) k_M_falls 21 [some (.ref 231), some (.int x1), some (.int x2), o3] [] (fm_mk S) r := by
  refine fs_aloadn (j := 0) (by decide +kernel) rfl ?_
  refine fe_getR (idx := 7) (t := 8) (f := 0) (fk := 2) (fin := 1) (wp := 945) (x := 232) (by decide +kernel) (by decide +kernel) (by decide +kernel) (by decide +kernel) (by decide +kernel) ?_
  refine fs_aloadn (j := 0) (by decide +kernel) rfl ?_
  refine fe_getR (idx := 31) (t := 8) (f := 15) (fk := 2) (fin := 1) (wp := 960) (x := 239) (by decide +kernel) (by decide +kernel) (by decide +kernel) (by decide +kernel) (by decide +kernel) ?_
  refine fs_iconst (n := 0) (v := 0) (by decide +kernel) (by decide) ?_
  refine fs_iconst (n := 0) (v := 0) (by decide +kernel) (by decide) ?_
  exact fe_callS (idx := 194) (kd := 0) (n := 4) (wp := 1131) (q := (1132, 0)) (as := [.ref 232, .ref 239, .int 0, .int 0]) (rs := []) (by decide +kernel) (by decide +kernel) (by decide +kernel) (by decide) rfl (Nat.le_of_ble_eq_true rfl) rfl hc nx
theorem b_M_falls_34 {d : Nat} {x1 : Int32} {x2 : Int32} {o3 : Option Value} {S : fm_S} {r : Option Value × am_W} (nx : am_Ev d k_M_falls 36 [some (.ref 231), some (.int x1), some (.int x2), some (.int 0)] [] (fm_mk S) r) : am_Ev d k_M_falls 34 [some (.ref 231), some (.int x1), some (.int x2), o3] [] (fm_mk S) r := by
  refine fs_iconst (n := 0) (v := 0) (by decide +kernel) (by decide) ?_
  refine fs_istoren (j := 3) (L' := [some (.ref 231), some (.int x1), some (.int x2), some (.int 0)]) (by decide +kernel) (Nat.le_of_ble_eq_true rfl) rfl ?_
  exact nx
theorem b_M_falls_36 {d : Nat} {x1 : Int32} {x2 : Int32} {x3 : Int32} {S : fm_S} {r : Option Value × am_W} (kt : 31 ≤ x3 → am_Ev d k_M_falls 67 [some (.ref 231), some (.int x1), some (.int x2), some (.int x3)] [] (fm_mk S) r) (kf : ¬ 31 ≤ x3 → am_Ev d k_M_falls 42 [some (.ref 231), some (.int x1), some (.int x2), some (.int x3)] [] (fm_mk S) r) : am_Ev d k_M_falls 36 [some (.ref 231), some (.int x1), some (.int x2), some (.int x3)] [] (fm_mk S) r := by
  refine fs_iloadn (j := 3) (by decide +kernel) rfl ?_
  refine fs_bipush (n := 31) (v := 31) (by decide +kernel) (by decide) ?_
  exact fs_icge (off := 28) (tgt := 67) (by decide +kernel) (by decide) kt kf
theorem b_M_falls_42 {d : Nat} {x1 : Int32} {x2 : Int32} {x3 : Int32} {S : fm_S} {r : Option Value × am_W} (hi0 : vp_in (29 + x2) 373) (kt : ¬ (S.1 232 ((29 + x2).toNatClampNeg)) = (-1) → am_Ev d k_M_falls 67 [some (.ref 231), some (.int x1), some (.int x2), some (.int x3)] [] (fm_mk S) r) (kf : (S.1 232 ((29 + x2).toNatClampNeg)) = (-1) → am_Ev d k_M_falls 55 [some (.ref 231), some (.int x1), some (.int x2), some (.int x3)] [] (fm_mk S) r) : am_Ev d k_M_falls 42 [some (.ref 231), some (.int x1), some (.int x2), some (.int x3)] [] (fm_mk S) r := by
  refine fs_aloadn (j := 0) (by decide +kernel) rfl ?_
  refine fe_getR (idx := 7) (t := 8) (f := 0) (fk := 2) (fin := 1) (wp := 945) (x := 232) (by decide +kernel) (by decide +kernel) (by decide +kernel) (by decide +kernel) (by decide +kernel) ?_
  refine fs_bipush (n := 29) (v := 29) (by decide +kernel) (by decide) ?_
  refine fs_iloadn (j := 2) (by decide +kernel) rfl ?_
  refine fs_iadd (by decide +kernel) ?_
  refine fx_iald (n := (29 + x2).toNatClampNeg) (len := 373) (by decide +kernel) (by decide +kernel) (by decide +kernel) hi0 rfl ?_
  refine fs_iconst (n := -1) (v := (-1)) (by decide +kernel) (by decide) ?_
  exact fs_icne (off := 15) (tgt := 67) (by decide +kernel) (by decide) kt kf
theorem b_M_falls_55 {d : Nat} {x1 : Int32} {x2 : Int32} {x3 : Int32} {v : Int32} {S1 : fm_S} {S : fm_S} {r : Option Value × am_W} (hc : am_Sp d k_M_goDay [.ref 231, .int x1] (fm_mk S) (some (.int v)) (fm_mk S1)) (nx : am_Ev (d + 1) k_M_falls 60 [some (.ref 231), some (.int x1), some (.int x2), some (.int x3)] [.int v] (fm_mk S1) r) : am_Ev (d + 1) k_M_falls 55 [some (.ref 231), some (.int x1), some (.int x2), some (.int x3)] [] (fm_mk S) r := by
  refine fs_aloadn (j := 0) (by decide +kernel) rfl ?_
  refine fs_iloadn (j := 1) (by decide +kernel) rfl ?_
  exact fe_callV (t := 8) (idx := 198) (n := 1) (wp := 1134) (q := (1136, 44)) (as := [.int x1]) (rs := []) (by decide +kernel) (by decide +kernel) (by decide +kernel) (by decide +kernel) rfl (Nat.le_of_ble_eq_true rfl) rfl hc nx
theorem b_M_falls_60 {d : Nat} {x1 : Int32} {x2 : Int32} {x3 : Int32} {sx0 : Int32} {S : fm_S} {r : Option Value × am_W} (nx : am_Ev d k_M_falls 36 [some (.ref 231), some (.int x1), some (.int x2), some (.int (x3 + 1))] [] (fm_mk S) r) : am_Ev d k_M_falls 60 [some (.ref 231), some (.int x1), some (.int x2), some (.int x3)] [.int sx0] (fm_mk S) r := by
  refine fs_pop (by decide +kernel) rfl ?_
  refine fs_iinc (j := 3) (n := 1) (v := 1) (L' := [some (.ref 231), some (.int x1), some (.int x2), some (.int (x3 + 1))]) (by decide +kernel) rfl (Nat.le_of_ble_eq_true rfl) (by decide) rfl ?_
  refine fs_goto (off := -28) (tgt := 36) (by decide +kernel) (by decide) ?_
  exact nx
theorem b_M_falls_67 {d : Nat} {x1 : Int32} {x2 : Int32} {x3 : Int32} {S1 : fm_S} {S : fm_S} {r : Option Value × am_W} (hc : am_Sp d k_M_past [.ref 239, .ref 232, .int 0, .int 1] (fm_mk S) (none) (fm_mk S1)) (nx : am_Ev (d + 1) k_M_falls 80 [some (.ref 231), some (.int x1), some (.int x2), some (.int x3)] [] (fm_mk S1) r) : am_Ev (d + 1) k_M_falls 67 [some (.ref 231), some (.int x1), some (.int x2), some (.int x3)] [] (fm_mk S) r := by
  refine fs_aloadn (j := 0) (by decide +kernel) rfl ?_
  refine fe_getR (idx := 31) (t := 8) (f := 15) (fk := 2) (fin := 1) (wp := 960) (x := 239) (by decide +kernel) (by decide +kernel) (by decide +kernel) (by decide +kernel) (by decide +kernel) ?_
  refine fs_aloadn (j := 0) (by decide +kernel) rfl ?_
  refine fe_getR (idx := 7) (t := 8) (f := 0) (fk := 2) (fin := 1) (wp := 945) (x := 232) (by decide +kernel) (by decide +kernel) (by decide +kernel) (by decide +kernel) (by decide +kernel) ?_
  refine fs_iconst (n := 0) (v := 0) (by decide +kernel) (by decide) ?_
  refine fs_iconst (n := 1) (v := 1) (by decide +kernel) (by decide) ?_
  exact fe_callS (idx := 194) (kd := 0) (n := 4) (wp := 1131) (q := (1132, 0)) (as := [.ref 239, .ref 232, .int 0, .int 1]) (rs := []) (by decide +kernel) (by decide +kernel) (by decide +kernel) (by decide) rfl (Nat.le_of_ble_eq_true rfl) rfl hc nx
theorem b_M_falls_80 {d : Nat} {x1 : Int32} {x2 : Int32} {x3 : Int32} {S : fm_S} {r : Option Value × am_W} (kt : 31 ≤ x3 → am_Ev d k_M_falls 90 [some (.ref 231), some (.int x1), some (.int x2), some (.int x3)] [] (fm_mk S) r) (kf : ¬ 31 ≤ x3 → am_Ev d k_M_falls 86 [some (.ref 231), some (.int x1), some (.int x2), some (.int x3)] [] (fm_mk S) r) : am_Ev d k_M_falls 80 [some (.ref 231), some (.int x1), some (.int x2), some (.int x3)] [] (fm_mk S) r := by
  refine fs_iloadn (j := 3) (by decide +kernel) rfl ?_
  refine fs_bipush (n := 31) (v := 31) (by decide +kernel) (by decide) ?_
  exact fs_icge (off := 7) (tgt := 90) (by decide +kernel) (by decide) kt kf
theorem b_M_falls_86 {d : Nat} {x1 : Int32} {x2 : Int32} {x3 : Int32} {S : fm_S} {r : Option Value × am_W} (nx : am_Ev d k_M_falls 91 [some (.ref 231), some (.int x1), some (.int x2), some (.int x3)] [.int x3] (fm_mk S) r) : am_Ev d k_M_falls 86 [some (.ref 231), some (.int x1), some (.int x2), some (.int x3)] [] (fm_mk S) r := by
  refine fs_iloadn (j := 3) (by decide +kernel) rfl ?_
  refine fs_goto (off := 4) (tgt := 91) (by decide +kernel) (by decide) ?_
  exact nx
theorem b_M_falls_90 {d : Nat} {x1 : Int32} {x2 : Int32} {x3 : Int32} {S : fm_S} {r : Option Value × am_W} (nx : am_Ev d k_M_falls 91 [some (.ref 231), some (.int x1), some (.int x2), some (.int x3)] [.int (-1)] (fm_mk S) r) : am_Ev d k_M_falls 90 [some (.ref 231), some (.int x1), some (.int x2), some (.int x3)] [] (fm_mk S) r := by
  refine fs_iconst (n := -1) (v := (-1)) (by decide +kernel) (by decide) ?_
  exact nx
theorem b_M_falls_91 {d : Nat} {x1 : Int32} {x2 : Int32} {x3 : Int32} {sx0 : Int32} {S : fm_S}  : am_Ev d k_M_falls 91 [some (.ref 231), some (.int x1), some (.int x2), some (.int x3)] [.int sx0] (fm_mk S) (some (.int sx0), fm_mk S) := by
  exact fe_retI (by decide +kernel) (by decide +kernel)
-- KitchenSiegeModel.order(II)I
theorem b_M_order_0 {d : Nat} {x1 : Int32} {x2 : Int32} {o3 : Option Value} {o4 : Option Value} {o5 : Option Value} {o6 : Option Value} {o7 : Option Value} {o8 : Option Value} {v : Int32} {S1 : fm_S} {S : fm_S} {r : Option Value × am_W} (hc : am_Sp d k_M_isStreet [.ref 231, .int x1] (fm_mk S) (some (.int v)) (fm_mk S1)) (nx : am_Ev (d + 1) k_M_order 5 [some (.ref 231), some (.int x1), some (.int x2), o3, o4, o5, o6, o7, o8] [.int v] (fm_mk S1) r) : am_Ev (d + 1) k_M_order 0 [some (.ref 231), some (.int x1), some (.int x2), o3, o4, o5, o6, o7, o8] [] (fm_mk S) r := by
  refine fs_aloadn (j := 0) (by decide +kernel) rfl ?_
  refine fs_iloadn (j := 1) (by decide +kernel) rfl ?_
  exact fe_callV (t := 8) (idx := 84) (n := 1) (wp := 1035) (q := (1037, 33)) (as := [.int x1]) (rs := []) (by decide +kernel) (by decide +kernel) (by decide +kernel) (by decide +kernel) rfl (Nat.le_of_ble_eq_true rfl) rfl hc nx
theorem b_M_order_5 {d : Nat} {x1 : Int32} {x2 : Int32} {o3 : Option Value} {o4 : Option Value} {o5 : Option Value} {o6 : Option Value} {o7 : Option Value} {o8 : Option Value} {sx0 : Int32} {S : fm_S} {r : Option Value × am_W} (kt : sx0 = 0 → am_Ev d k_M_order 14 [some (.ref 231), some (.int x1), some (.int x2), o3, o4, o5, o6, o7, o8] [] (fm_mk S) r) (kf : ¬ sx0 = 0 → am_Ev d k_M_order 8 [some (.ref 231), some (.int x1), some (.int x2), o3, o4, o5, o6, o7, o8] [] (fm_mk S) r) : am_Ev d k_M_order 5 [some (.ref 231), some (.int x1), some (.int x2), o3, o4, o5, o6, o7, o8] [.int sx0] (fm_mk S) r := by
  exact fs_ifeq (off := 9) (tgt := 14) (by decide +kernel) (by decide) kt kf
theorem b_M_order_8 {d : Nat} {x1 : Int32} {x2 : Int32} {o3 : Option Value} {o4 : Option Value} {o5 : Option Value} {o6 : Option Value} {o7 : Option Value} {o8 : Option Value} {S : fm_S} {r : Option Value × am_W} (kt : (-2) ≤ x2 → am_Ev d k_M_order 19 [some (.ref 231), some (.int x1), some (.int x2), o3, o4, o5, o6, o7, o8] [] (fm_mk S) r) (kf : ¬ (-2) ≤ x2 → am_Ev d k_M_order 14 [some (.ref 231), some (.int x1), some (.int x2), o3, o4, o5, o6, o7, o8] [] (fm_mk S) r) : am_Ev d k_M_order 8 [some (.ref 231), some (.int x1), some (.int x2), o3, o4, o5, o6, o7, o8] [] (fm_mk S) r := by
  refine fs_iloadn (j := 2) (by decide +kernel) rfl ?_
  refine fs_bipush (n := -2) (v := (-2)) (by decide +kernel) (by decide) ?_
  exact fs_icge (off := 8) (tgt := 19) (by decide +kernel) (by decide) kt kf
theorem b_M_order_14 {d : Nat} {x1 : Int32} {x2 : Int32} {o3 : Option Value} {o4 : Option Value} {o5 : Option Value} {o6 : Option Value} {o7 : Option Value} {o8 : Option Value} {v : Int32} {S1 : fm_S} {S : fm_S} {r : Option Value × am_W} (hc : am_Sp d k_M_bad10 [.ref 231] (fm_mk S) (some (.int v)) (fm_mk S1)) (nx : am_Ev (d + 1) k_M_order 18 [some (.ref 231), some (.int x1), some (.int x2), o3, o4, o5, o6, o7, o8] [.int v] (fm_mk S1) r) : am_Ev (d + 1) k_M_order 14 [some (.ref 231), some (.int x1), some (.int x2), o3, o4, o5, o6, o7, o8] [] (fm_mk S) r := by
  refine fs_aloadn (j := 0) (by decide +kernel) rfl ?_
  exact fe_callV (t := 8) (idx := 201) (n := 0) (wp := 1168) (q := (1170, 49)) (as := []) (rs := []) (by decide +kernel) (by decide +kernel) (by decide +kernel) (by decide +kernel) rfl (Nat.le_of_ble_eq_true rfl) rfl hc nx
theorem b_M_order_18 {d : Nat} {x1 : Int32} {x2 : Int32} {o3 : Option Value} {o4 : Option Value} {o5 : Option Value} {o6 : Option Value} {o7 : Option Value} {o8 : Option Value} {sx0 : Int32} {S : fm_S}  : am_Ev d k_M_order 18 [some (.ref 231), some (.int x1), some (.int x2), o3, o4, o5, o6, o7, o8] [.int sx0] (fm_mk S) (some (.int sx0), fm_mk S) := by
  exact fe_retI (by decide +kernel) (by decide +kernel)
theorem b_M_order_19 {d : Nat} {x1 : Int32} {x2 : Int32} {o3 : Option Value} {o4 : Option Value} {o5 : Option Value} {o6 : Option Value} {o7 : Option Value} {o8 : Option Value} {S : fm_S} {r : Option Value × am_W} (hi0 : vp_in (29 + x1) 373) (kt : (S.1 232 ((29 + x1).toNatClampNeg)) = (-1) → am_Ev d k_M_order 43 [some (.ref 231), some (.int x1), some (.int x2), o3, o4, o5, o6, o7, o8] [] (fm_mk S) r) (kf : ¬ (S.1 232 ((29 + x1).toNatClampNeg)) = (-1) → am_Ev d k_M_order 32 [some (.ref 231), some (.int x1), some (.int x2), o3, o4, o5, o6, o7, o8] [] (fm_mk S) r) : am_Ev d k_M_order 19 [some (.ref 231), some (.int x1), some (.int x2), o3, o4, o5, o6, o7, o8] [] (fm_mk S) r := by
  refine fs_aloadn (j := 0) (by decide +kernel) rfl ?_
  refine fe_getR (idx := 7) (t := 8) (f := 0) (fk := 2) (fin := 1) (wp := 945) (x := 232) (by decide +kernel) (by decide +kernel) (by decide +kernel) (by decide +kernel) (by decide +kernel) ?_
  refine fs_bipush (n := 29) (v := 29) (by decide +kernel) (by decide) ?_
  refine fs_iloadn (j := 1) (by decide +kernel) rfl ?_
  refine fs_iadd (by decide +kernel) ?_
  refine fx_iald (n := (29 + x1).toNatClampNeg) (len := 373) (by decide +kernel) (by decide +kernel) (by decide +kernel) hi0 rfl ?_
  refine fs_iconst (n := -1) (v := (-1)) (by decide +kernel) (by decide) ?_
  exact fs_iceq (off := 14) (tgt := 43) (by decide +kernel) (by decide) kt kf
theorem b_M_order_32 {d : Nat} {x1 : Int32} {x2 : Int32} {o3 : Option Value} {o4 : Option Value} {o5 : Option Value} {o6 : Option Value} {o7 : Option Value} {o8 : Option Value} {S : fm_S} {r : Option Value × am_W} (kt : 0 ≤ x2 → am_Ev d k_M_order 40 [some (.ref 231), some (.int x1), some (.int x2), o3, o4, o5, o6, o7, o8] [] (fm_mk S) r) (kf : ¬ 0 ≤ x2 → am_Ev d k_M_order 36 [some (.ref 231), some (.int x1), some (.int x2), o3, o4, o5, o6, o7, o8] [] (fm_mk S) r) : am_Ev d k_M_order 32 [some (.ref 231), some (.int x1), some (.int x2), o3, o4, o5, o6, o7, o8] [] (fm_mk S) r := by
  refine fs_iloadn (j := 2) (by decide +kernel) rfl ?_
  exact fs_ifge (off := 7) (tgt := 40) (by decide +kernel) (by decide) kt kf
theorem b_M_order_36 {d : Nat} {x1 : Int32} {x2 : Int32} {o3 : Option Value} {o4 : Option Value} {o5 : Option Value} {o6 : Option Value} {o7 : Option Value} {o8 : Option Value} {S : fm_S} {r : Option Value × am_W} (nx : am_Ev d k_M_order 42 [some (.ref 231), some (.int x1), some (.int x2), o3, o4, o5, o6, o7, o8] [.int 0] (fm_mk S) r) : am_Ev d k_M_order 36 [some (.ref 231), some (.int x1), some (.int x2), o3, o4, o5, o6, o7, o8] [] (fm_mk S) r := by
  refine fs_iconst (n := 0) (v := 0) (by decide +kernel) (by decide) ?_
  refine fs_goto (off := 5) (tgt := 42) (by decide +kernel) (by decide) ?_
  exact nx
theorem b_M_order_40 {d : Nat} {x1 : Int32} {x2 : Int32} {o3 : Option Value} {o4 : Option Value} {o5 : Option Value} {o6 : Option Value} {o7 : Option Value} {o8 : Option Value} {S : fm_S} {r : Option Value × am_W} (nx : am_Ev d k_M_order 42 [some (.ref 231), some (.int x1), some (.int x2), o3, o4, o5, o6, o7, o8] [.int (-5)] (fm_mk S) r) : am_Ev d k_M_order 40 [some (.ref 231), some (.int x1), some (.int x2), o3, o4, o5, o6, o7, o8] [] (fm_mk S) r := by
  refine fs_bipush (n := -5) (v := (-5)) (by decide +kernel) (by decide) ?_
  exact nx
theorem b_M_order_42 {d : Nat} {x1 : Int32} {x2 : Int32} {o3 : Option Value} {o4 : Option Value} {o5 : Option Value} {o6 : Option Value} {o7 : Option Value} {o8 : Option Value} {sx0 : Int32} {S : fm_S}  : am_Ev d k_M_order 42 [some (.ref 231), some (.int x1), some (.int x2), o3, o4, o5, o6, o7, o8] [.int sx0] (fm_mk S) (some (.int sx0), fm_mk S) := by
  exact fe_retI (by decide +kernel) (by decide +kernel)
theorem b_M_order_43 {d : Nat} {x1 : Int32} {x2 : Int32} {o3 : Option Value} {o4 : Option Value} {o5 : Option Value} {o6 : Option Value} {o7 : Option Value} {o8 : Option Value} {S : fm_S} {r : Option Value × am_W} (nx : am_Ev d k_M_order 48 [some (.ref 231), some (.int x1), some (.int x2), some (.int 1), some (.int 1), o5, o6, o7, o8] [] (fm_mk S) r) : am_Ev d k_M_order 43 [some (.ref 231), some (.int x1), some (.int x2), o3, o4, o5, o6, o7, o8] [] (fm_mk S) r := by
  refine fs_iconst (n := 1) (v := 1) (by decide +kernel) (by decide) ?_
  refine fs_istoren (j := 3) (L' := [some (.ref 231), some (.int x1), some (.int x2), some (.int 1), o4, o5, o6, o7, o8]) (by decide +kernel) (Nat.le_of_ble_eq_true rfl) rfl ?_
  refine fs_iconst (n := 1) (v := 1) (by decide +kernel) (by decide) ?_
  refine fs_istore (j := 4) (L' := [some (.ref 231), some (.int x1), some (.int x2), some (.int 1), some (.int 1), o5, o6, o7, o8]) (by decide +kernel) (Nat.le_of_ble_eq_true rfl) rfl ?_
  exact nx
theorem b_M_order_48 {d : Nat} {x1 : Int32} {x2 : Int32} {x3 : Int32} {x4 : Int32} {o5 : Option Value} {o6 : Option Value} {o7 : Option Value} {o8 : Option Value} {S : fm_S} {r : Option Value × am_W} (kt : 5 ≤ x4 → am_Ev d k_M_order 196 [some (.ref 231), some (.int x1), some (.int x2), some (.int x3), some (.int x4), o5, o6, o7, o8] [] (fm_mk S) r) (kf : ¬ 5 ≤ x4 → am_Ev d k_M_order 54 [some (.ref 231), some (.int x1), some (.int x2), some (.int x3), some (.int x4), o5, o6, o7, o8] [] (fm_mk S) r) : am_Ev d k_M_order 48 [some (.ref 231), some (.int x1), some (.int x2), some (.int x3), some (.int x4), o5, o6, o7, o8] [] (fm_mk S) r := by
  refine fs_iload (j := 4) (by decide +kernel) rfl ?_
  refine fs_iconst (n := 5) (v := 5) (by decide +kernel) (by decide) ?_
  exact fs_icge (off := 145) (tgt := 196) (by decide +kernel) (by decide) kt kf
theorem b_M_order_54 {d : Nat} {x1 : Int32} {x2 : Int32} {x3 : Int32} {x4 : Int32} {o5 : Option Value} {o6 : Option Value} {o7 : Option Value} {o8 : Option Value} {S : fm_S} {r : Option Value × am_W} (nx : am_Ev d k_M_order 69 [some (.ref 231), some (.int x1), some (.int x2), some (.int (x3 * (S.1 232 1))), some (.int x4), some (.int (-1)), some (.int 0), o7, o8] [] (fm_mk S) r) : am_Ev d k_M_order 54 [some (.ref 231), some (.int x1), some (.int x2), some (.int x3), some (.int x4), o5, o6, o7, o8] [] (fm_mk S) r := by
  refine fs_iloadn (j := 3) (by decide +kernel) rfl ?_
  refine fs_aloadn (j := 0) (by decide +kernel) rfl ?_
  refine fe_getR (idx := 7) (t := 8) (f := 0) (fk := 2) (fin := 1) (wp := 945) (x := 232) (by decide +kernel) (by decide +kernel) (by decide +kernel) (by decide +kernel) (by decide +kernel) ?_
  refine fs_iconst (n := 1) (v := 1) (by decide +kernel) (by decide) ?_
  refine fx_iald (n := 1) (len := 373) (by decide +kernel) (by decide +kernel) (by decide +kernel) (vp_c (by decide) (by decide)) (by decide) ?_
  refine fs_imul (by decide +kernel) ?_
  refine fs_istoren (j := 3) (L' := [some (.ref 231), some (.int x1), some (.int x2), some (.int (x3 * (S.1 232 1))), some (.int x4), o5, o6, o7, o8]) (by decide +kernel) (Nat.le_of_ble_eq_true rfl) rfl ?_
  refine fs_iconst (n := -1) (v := (-1)) (by decide +kernel) (by decide) ?_
  refine fs_istore (j := 5) (L' := [some (.ref 231), some (.int x1), some (.int x2), some (.int (x3 * (S.1 232 1))), some (.int x4), some (.int (-1)), o6, o7, o8]) (by decide +kernel) (Nat.le_of_ble_eq_true rfl) rfl ?_
  refine fs_iconst (n := 0) (v := 0) (by decide +kernel) (by decide) ?_
  refine fs_istore (j := 6) (L' := [some (.ref 231), some (.int x1), some (.int x2), some (.int (x3 * (S.1 232 1))), some (.int x4), some (.int (-1)), some (.int 0), o7, o8]) (by decide +kernel) (Nat.le_of_ble_eq_true rfl) rfl ?_
  exact nx
theorem b_M_order_69 {d : Nat} {x1 : Int32} {x2 : Int32} {x3 : Int32} {x4 : Int32} {x5 : Int32} {x6 : Int32} {o7 : Option Value} {o8 : Option Value} {S : fm_S} {r : Option Value × am_W} (kt : x3 ≤ x6 → am_Ev d k_M_order 146 [some (.ref 231), some (.int x1), some (.int x2), some (.int x3), some (.int x4), some (.int x5), some (.int x6), o7, o8] [] (fm_mk S) r) (kf : ¬ x3 ≤ x6 → am_Ev d k_M_order 75 [some (.ref 231), some (.int x1), some (.int x2), some (.int x3), some (.int x4), some (.int x5), some (.int x6), o7, o8] [] (fm_mk S) r) : am_Ev d k_M_order 69 [some (.ref 231), some (.int x1), some (.int x2), some (.int x3), some (.int x4), some (.int x5), some (.int x6), o7, o8] [] (fm_mk S) r := by
  refine fs_iload (j := 6) (by decide +kernel) rfl ?_
  refine fs_iloadn (j := 3) (by decide +kernel) rfl ?_
  exact fs_icge (off := 74) (tgt := 146) (by decide +kernel) (by decide) kt kf
theorem b_M_order_75 {d : Nat} {x1 : Int32} {x2 : Int32} {x3 : Int32} {x4 : Int32} {x5 : Int32} {x6 : Int32} {o7 : Option Value} {o8 : Option Value} {v : Int32} {S1 : fm_S} {S : fm_S} {r : Option Value × am_W} (hc : am_Sp d k_M_butterOf [.ref 231, .int x6, .int x4, .int x1] (fm_mk S) (some (.int v)) (fm_mk S1)) (nx : am_Ev (d + 1) k_M_order 84 [some (.ref 231), some (.int x1), some (.int x2), some (.int x3), some (.int x4), some (.int x5), some (.int x6), o7, o8] [.int v] (fm_mk S1) r) : am_Ev (d + 1) k_M_order 75 [some (.ref 231), some (.int x1), some (.int x2), some (.int x3), some (.int x4), some (.int x5), some (.int x6), o7, o8] [] (fm_mk S) r := by
  refine fs_aloadn (j := 0) (by decide +kernel) rfl ?_
  refine fs_iload (j := 6) (by decide +kernel) rfl ?_
  refine fs_iload (j := 4) (by decide +kernel) rfl ?_
  refine fs_iloadn (j := 1) (by decide +kernel) rfl ?_
  exact fe_callV (t := 8) (idx := 210) (n := 3) (wp := 1188) (q := (1190, 50)) (as := [.int x6, .int x4, .int x1]) (rs := []) (by decide +kernel) (by decide +kernel) (by decide +kernel) (by decide +kernel) rfl (Nat.le_of_ble_eq_true rfl) rfl hc nx
theorem b_M_order_84 {d : Nat} {x1 : Int32} {x2 : Int32} {x3 : Int32} {x4 : Int32} {x5 : Int32} {x6 : Int32} {o7 : Option Value} {o8 : Option Value} {sx0 : Int32} {S : fm_S} {r : Option Value × am_W} (kt : sx0 < 0 → am_Ev d k_M_order 140 [some (.ref 231), some (.int x1), some (.int x2), some (.int x3), some (.int x4), some (.int x5), some (.int x6), some (.int sx0), o8] [] (fm_mk S) r) (kf : ¬ sx0 < 0 → am_Ev d k_M_order 91 [some (.ref 231), some (.int x1), some (.int x2), some (.int x3), some (.int x4), some (.int x5), some (.int x6), some (.int sx0), o8] [] (fm_mk S) r) : am_Ev d k_M_order 84 [some (.ref 231), some (.int x1), some (.int x2), some (.int x3), some (.int x4), some (.int x5), some (.int x6), o7, o8] [.int sx0] (fm_mk S) r := by
  refine fs_istore (j := 7) (L' := [some (.ref 231), some (.int x1), some (.int x2), some (.int x3), some (.int x4), some (.int x5), some (.int x6), some (.int sx0), o8]) (by decide +kernel) (Nat.le_of_ble_eq_true rfl) rfl ?_
  refine fs_iload (j := 7) (by decide +kernel) rfl ?_
  exact fs_iflt (off := 52) (tgt := 140) (by decide +kernel) (by decide) kt kf
theorem b_M_order_91 {d : Nat} {x1 : Int32} {x2 : Int32} {x3 : Int32} {x4 : Int32} {x5 : Int32} {x6 : Int32} {x7 : Int32} {o8 : Option Value} {S : fm_S} {r : Option Value × am_W} (kt : x5 < 0 → am_Ev d k_M_order 103 [some (.ref 231), some (.int x1), some (.int x2), some (.int x3), some (.int x4), some (.int x5), some (.int x6), some (.int x7), o8] [] (fm_mk S) r) (kf : ¬ x5 < 0 → am_Ev d k_M_order 96 [some (.ref 231), some (.int x1), some (.int x2), some (.int x3), some (.int x4), some (.int x5), some (.int x6), some (.int x7), o8] [] (fm_mk S) r) : am_Ev d k_M_order 91 [some (.ref 231), some (.int x1), some (.int x2), some (.int x3), some (.int x4), some (.int x5), some (.int x6), some (.int x7), o8] [] (fm_mk S) r := by
  refine fs_iload (j := 5) (by decide +kernel) rfl ?_
  exact fs_iflt (off := 10) (tgt := 103) (by decide +kernel) (by decide) kt kf
theorem b_M_order_96 {d : Nat} {x1 : Int32} {x2 : Int32} {x3 : Int32} {x4 : Int32} {x5 : Int32} {x6 : Int32} {x7 : Int32} {o8 : Option Value} {S : fm_S} {r : Option Value × am_W} (kt : x5 ≤ x7 → am_Ev d k_M_order 140 [some (.ref 231), some (.int x1), some (.int x2), some (.int x3), some (.int x4), some (.int x5), some (.int x6), some (.int x7), o8] [] (fm_mk S) r) (kf : ¬ x5 ≤ x7 → am_Ev d k_M_order 103 [some (.ref 231), some (.int x1), some (.int x2), some (.int x3), some (.int x4), some (.int x5), some (.int x6), some (.int x7), o8] [] (fm_mk S) r) : am_Ev d k_M_order 96 [some (.ref 231), some (.int x1), some (.int x2), some (.int x3), some (.int x4), some (.int x5), some (.int x6), some (.int x7), o8] [] (fm_mk S) r := by
  refine fs_iload (j := 7) (by decide +kernel) rfl ?_
  refine fs_iload (j := 5) (by decide +kernel) rfl ?_
  exact fs_icge (off := 40) (tgt := 140) (by decide +kernel) (by decide) kt kf
theorem b_M_order_103 {d : Nat} {x1 : Int32} {x2 : Int32} {x3 : Int32} {x4 : Int32} {x5 : Int32} {x6 : Int32} {x7 : Int32} {o8 : Option Value} {S : fm_S} {r : Option Value × am_W} (nx : am_Ev d k_M_order 110 [some (.ref 231), some (.int x1), some (.int x2), some (.int x3), some (.int x4), some (.int x7), some (.int x6), some (.int x7), some (.int 0)] [] (fm_mk S) r) : am_Ev d k_M_order 103 [some (.ref 231), some (.int x1), some (.int x2), some (.int x3), some (.int x4), some (.int x5), some (.int x6), some (.int x7), o8] [] (fm_mk S) r := by
  refine fs_iload (j := 7) (by decide +kernel) rfl ?_
  refine fs_istore (j := 5) (L' := [some (.ref 231), some (.int x1), some (.int x2), some (.int x3), some (.int x4), some (.int x7), some (.int x6), some (.int x7), o8]) (by decide +kernel) (Nat.le_of_ble_eq_true rfl) rfl ?_
  refine fs_iconst (n := 0) (v := 0) (by decide +kernel) (by decide) ?_
  refine fs_istore (j := 8) (L' := [some (.ref 231), some (.int x1), some (.int x2), some (.int x3), some (.int x4), some (.int x7), some (.int x6), some (.int x7), some (.int 0)]) (by decide +kernel) (Nat.le_of_ble_eq_true rfl) rfl ?_
  exact nx
theorem b_M_order_110 {d : Nat} {x1 : Int32} {x2 : Int32} {x3 : Int32} {x4 : Int32} {x5 : Int32} {x6 : Int32} {x7 : Int32} {x8 : Int32} {S : fm_S} {r : Option Value × am_W} (kt : x4 ≤ x8 → am_Ev d k_M_order 140 [some (.ref 231), some (.int x1), some (.int x2), some (.int x3), some (.int x4), some (.int x5), some (.int x6), some (.int x7), some (.int x8)] [] (fm_mk S) r) (kf : ¬ x4 ≤ x8 → am_Ev d k_M_order 117 [some (.ref 231), some (.int x1), some (.int x2), some (.int x3), some (.int x4), some (.int x5), some (.int x6), some (.int x7), some (.int x8)] [] (fm_mk S) r) : am_Ev d k_M_order 110 [some (.ref 231), some (.int x1), some (.int x2), some (.int x3), some (.int x4), some (.int x5), some (.int x6), some (.int x7), some (.int x8)] [] (fm_mk S) r := by
  refine fs_iload (j := 8) (by decide +kernel) rfl ?_
  refine fs_iload (j := 4) (by decide +kernel) rfl ?_
  exact fs_icge (off := 26) (tgt := 140) (by decide +kernel) (by decide) kt kf
theorem b_M_order_117 {d : Nat} {x1 : Int32} {x2 : Int32} {x3 : Int32} {x4 : Int32} {x5 : Int32} {x6 : Int32} {x7 : Int32} {x8 : Int32} {v : Int32} {S1 : fm_S} {S : fm_S} {r : Option Value × am_W} (hc : am_Sp d k_M_dishIn [.ref 231, .int x6, .int x4, .int x8] (fm_mk S) (some (.int v)) (fm_mk S1)) (nx : am_Ev (d + 1) k_M_order 133 [some (.ref 231), some (.int x1), some (.int x2), some (.int x3), some (.int x4), some (.int x5), some (.int x6), some (.int x7), some (.int x8)] [.int v, .int x8, .ref 240] (fm_mk S1) r) : am_Ev (d + 1) k_M_order 117 [some (.ref 231), some (.int x1), some (.int x2), some (.int x3), some (.int x4), some (.int x5), some (.int x6), some (.int x7), some (.int x8)] [] (fm_mk S) r := by
  refine fs_aloadn (j := 0) (by decide +kernel) rfl ?_
  refine fe_getR (idx := 34) (t := 8) (f := 16) (fk := 2) (fin := 1) (wp := 961) (x := 240) (by decide +kernel) (by decide +kernel) (by decide +kernel) (by decide +kernel) (by decide +kernel) ?_
  refine fs_iload (j := 8) (by decide +kernel) rfl ?_
  refine fs_aloadn (j := 0) (by decide +kernel) rfl ?_
  refine fs_iload (j := 6) (by decide +kernel) rfl ?_
  refine fs_iload (j := 4) (by decide +kernel) rfl ?_
  refine fs_iload (j := 8) (by decide +kernel) rfl ?_
  exact fe_callV (t := 8) (idx := 204) (n := 3) (wp := 1192) (q := (1194, 51)) (as := [.int x6, .int x4, .int x8]) (rs := [.int x8, .ref 240]) (by decide +kernel) (by decide +kernel) (by decide +kernel) (by decide +kernel) rfl (Nat.le_of_ble_eq_true rfl) rfl hc nx
theorem b_M_order_133 {d : Nat} {x1 : Int32} {x2 : Int32} {x3 : Int32} {x4 : Int32} {x5 : Int32} {x6 : Int32} {x7 : Int32} {x8 : Int32} {sx1 : Int32} {sx2 : Int32} {S : fm_S} {r : Option Value × am_W} (hi0 : vp_in sx1 4) (nx : am_Ev d k_M_order 110 [some (.ref 231), some (.int x1), some (.int x2), some (.int x3), some (.int x4), some (.int x5), some (.int x6), some (.int x7), some (.int (x8 + 1))] [] (fm_mk (fm_wI S 240 sx1.toNatClampNeg sx2)) r) : am_Ev d k_M_order 133 [some (.ref 231), some (.int x1), some (.int x2), some (.int x3), some (.int x4), some (.int x5), some (.int x6), some (.int x7), some (.int x8)] [.int sx2, .int sx1, .ref 240] (fm_mk S) r := by
  refine fx_iast (n := sx1.toNatClampNeg) (len := 4) (by decide +kernel) (by decide +kernel) (by decide +kernel) hi0 rfl ?_
  refine fs_iinc (j := 8) (n := 1) (v := 1) (L' := [some (.ref 231), some (.int x1), some (.int x2), some (.int x3), some (.int x4), some (.int x5), some (.int x6), some (.int x7), some (.int (x8 + 1))]) (by decide +kernel) rfl (Nat.le_of_ble_eq_true rfl) (by decide) rfl ?_
  refine fs_goto (off := -27) (tgt := 110) (by decide +kernel) (by decide) ?_
  exact nx
theorem b_M_order_140 {d : Nat} {x1 : Int32} {x2 : Int32} {x3 : Int32} {x4 : Int32} {x5 : Int32} {x6 : Int32} {x7 : Int32} {o8 : Option Value} {S : fm_S} {r : Option Value × am_W} (nx : am_Ev d k_M_order 69 [some (.ref 231), some (.int x1), some (.int x2), some (.int x3), some (.int x4), some (.int x5), some (.int (x6 + 1)), some (.int x7), o8] [] (fm_mk S) r) : am_Ev d k_M_order 140 [some (.ref 231), some (.int x1), some (.int x2), some (.int x3), some (.int x4), some (.int x5), some (.int x6), some (.int x7), o8] [] (fm_mk S) r := by
  refine fs_iinc (j := 6) (n := 1) (v := 1) (L' := [some (.ref 231), some (.int x1), some (.int x2), some (.int x3), some (.int x4), some (.int x5), some (.int (x6 + 1)), some (.int x7), o8]) (by decide +kernel) rfl (Nat.le_of_ble_eq_true rfl) (by decide) rfl ?_
  refine fs_goto (off := -74) (tgt := 69) (by decide +kernel) (by decide) ?_
  exact nx
theorem b_M_order_146 {d : Nat} {x1 : Int32} {x2 : Int32} {x3 : Int32} {x4 : Int32} {x5 : Int32} {x6 : Int32} {o7 : Option Value} {o8 : Option Value} {S : fm_S} {r : Option Value × am_W} (kt : x5 < 0 → am_Ev d k_M_order 190 [some (.ref 231), some (.int x1), some (.int x2), some (.int x3), some (.int x4), some (.int x5), some (.int x6), o7, o8] [] (fm_mk S) r) (kf : ¬ x5 < 0 → am_Ev d k_M_order 151 [some (.ref 231), some (.int x1), some (.int x2), some (.int x3), some (.int x4), some (.int x5), some (.int x6), o7, o8] [] (fm_mk S) r) : am_Ev d k_M_order 146 [some (.ref 231), some (.int x1), some (.int x2), some (.int x3), some (.int x4), some (.int x5), some (.int x6), o7, o8] [] (fm_mk S) r := by
  refine fs_iload (j := 5) (by decide +kernel) rfl ?_
  exact fs_iflt (off := 42) (tgt := 190) (by decide +kernel) (by decide) kt kf
theorem b_M_order_151 {d : Nat} {x1 : Int32} {x2 : Int32} {x3 : Int32} {x4 : Int32} {x5 : Int32} {x6 : Int32} {o7 : Option Value} {o8 : Option Value} {S : fm_S} {r : Option Value × am_W} (kt : ¬ x2 = (-1) → am_Ev d k_M_order 161 [some (.ref 231), some (.int x1), some (.int x2), some (.int x3), some (.int x4), some (.int x5), some (.int x6), o7, o8] [] (fm_mk S) r) (kf : x2 = (-1) → am_Ev d k_M_order 156 [some (.ref 231), some (.int x1), some (.int x2), some (.int x3), some (.int x4), some (.int x5), some (.int x6), o7, o8] [] (fm_mk S) r) : am_Ev d k_M_order 151 [some (.ref 231), some (.int x1), some (.int x2), some (.int x3), some (.int x4), some (.int x5), some (.int x6), o7, o8] [] (fm_mk S) r := by
  refine fs_iloadn (j := 2) (by decide +kernel) rfl ?_
  refine fs_iconst (n := -1) (v := (-1)) (by decide +kernel) (by decide) ?_
  exact fs_icne (off := 8) (tgt := 161) (by decide +kernel) (by decide) kt kf
theorem b_M_order_156 {d : Nat} {x1 : Int32} {x2 : Int32} {x3 : Int32} {x4 : Int32} {x5 : Int32} {x6 : Int32} {o7 : Option Value} {o8 : Option Value} {S : fm_S} {r : Option Value × am_W} (nx : am_Ev d k_M_order 189 [some (.ref 231), some (.int x1), some (.int x2), some (.int x3), some (.int x4), some (.int x5), some (.int x6), o7, o8] [.int x4] (fm_mk S) r) : am_Ev d k_M_order 156 [some (.ref 231), some (.int x1), some (.int x2), some (.int x3), some (.int x4), some (.int x5), some (.int x6), o7, o8] [] (fm_mk S) r := by
  refine fs_iload (j := 4) (by decide +kernel) rfl ?_
  refine fs_goto (off := 31) (tgt := 189) (by decide +kernel) (by decide) ?_
  exact nx
theorem b_M_order_161 {d : Nat} {x1 : Int32} {x2 : Int32} {x3 : Int32} {x4 : Int32} {x5 : Int32} {x6 : Int32} {o7 : Option Value} {o8 : Option Value} {S : fm_S} {r : Option Value × am_W} (kt : ¬ x2 = (-2) → am_Ev d k_M_order 172 [some (.ref 231), some (.int x1), some (.int x2), some (.int x3), some (.int x4), some (.int x5), some (.int x6), o7, o8] [] (fm_mk S) r) (kf : x2 = (-2) → am_Ev d k_M_order 167 [some (.ref 231), some (.int x1), some (.int x2), some (.int x3), some (.int x4), some (.int x5), some (.int x6), o7, o8] [] (fm_mk S) r) : am_Ev d k_M_order 161 [some (.ref 231), some (.int x1), some (.int x2), some (.int x3), some (.int x4), some (.int x5), some (.int x6), o7, o8] [] (fm_mk S) r := by
  refine fs_iloadn (j := 2) (by decide +kernel) rfl ?_
  refine fs_bipush (n := -2) (v := (-2)) (by decide +kernel) (by decide) ?_
  exact fs_icne (off := 8) (tgt := 172) (by decide +kernel) (by decide) kt kf
theorem b_M_order_167 {d : Nat} {x1 : Int32} {x2 : Int32} {x3 : Int32} {x4 : Int32} {x5 : Int32} {x6 : Int32} {o7 : Option Value} {o8 : Option Value} {S : fm_S} {r : Option Value × am_W} (nx : am_Ev d k_M_order 189 [some (.ref 231), some (.int x1), some (.int x2), some (.int x3), some (.int x4), some (.int x5), some (.int x6), o7, o8] [.int x5] (fm_mk S) r) : am_Ev d k_M_order 167 [some (.ref 231), some (.int x1), some (.int x2), some (.int x3), some (.int x4), some (.int x5), some (.int x6), o7, o8] [] (fm_mk S) r := by
  refine fs_iload (j := 5) (by decide +kernel) rfl ?_
  refine fs_goto (off := 20) (tgt := 189) (by decide +kernel) (by decide) ?_
  exact nx
theorem b_M_order_172 {d : Nat} {x1 : Int32} {x2 : Int32} {x3 : Int32} {x4 : Int32} {x5 : Int32} {x6 : Int32} {o7 : Option Value} {o8 : Option Value} {S : fm_S} {r : Option Value × am_W} (kt : x4 ≤ x2 → am_Ev d k_M_order 187 [some (.ref 231), some (.int x1), some (.int x2), some (.int x3), some (.int x4), some (.int x5), some (.int x6), o7, o8] [] (fm_mk S) r) (kf : ¬ x4 ≤ x2 → am_Ev d k_M_order 178 [some (.ref 231), some (.int x1), some (.int x2), some (.int x3), some (.int x4), some (.int x5), some (.int x6), o7, o8] [] (fm_mk S) r) : am_Ev d k_M_order 172 [some (.ref 231), some (.int x1), some (.int x2), some (.int x3), some (.int x4), some (.int x5), some (.int x6), o7, o8] [] (fm_mk S) r := by
  refine fs_iloadn (j := 2) (by decide +kernel) rfl ?_
  refine fs_iload (j := 4) (by decide +kernel) rfl ?_
  exact fs_icge (off := 12) (tgt := 187) (by decide +kernel) (by decide) kt kf
theorem b_M_order_178 {d : Nat} {x1 : Int32} {x2 : Int32} {x3 : Int32} {x4 : Int32} {x5 : Int32} {x6 : Int32} {o7 : Option Value} {o8 : Option Value} {S : fm_S} {r : Option Value × am_W} (hi0 : vp_in x2 4) (nx : am_Ev d k_M_order 189 [some (.ref 231), some (.int x1), some (.int x2), some (.int x3), some (.int x4), some (.int x5), some (.int x6), o7, o8] [.int (S.1 240 x2.toNatClampNeg)] (fm_mk S) r) : am_Ev d k_M_order 178 [some (.ref 231), some (.int x1), some (.int x2), some (.int x3), some (.int x4), some (.int x5), some (.int x6), o7, o8] [] (fm_mk S) r := by
  refine fs_aloadn (j := 0) (by decide +kernel) rfl ?_
  refine fe_getR (idx := 34) (t := 8) (f := 16) (fk := 2) (fin := 1) (wp := 961) (x := 240) (by decide +kernel) (by decide +kernel) (by decide +kernel) (by decide +kernel) (by decide +kernel) ?_
  refine fs_iloadn (j := 2) (by decide +kernel) rfl ?_
  refine fx_iald (n := x2.toNatClampNeg) (len := 4) (by decide +kernel) (by decide +kernel) (by decide +kernel) hi0 rfl ?_
  refine fs_goto (off := 5) (tgt := 189) (by decide +kernel) (by decide) ?_
  exact nx
theorem b_M_order_187 {d : Nat} {x1 : Int32} {x2 : Int32} {x3 : Int32} {x4 : Int32} {x5 : Int32} {x6 : Int32} {o7 : Option Value} {o8 : Option Value} {S : fm_S} {r : Option Value × am_W} (nx : am_Ev d k_M_order 189 [some (.ref 231), some (.int x1), some (.int x2), some (.int x3), some (.int x4), some (.int x5), some (.int x6), o7, o8] [.int (-5)] (fm_mk S) r) : am_Ev d k_M_order 187 [some (.ref 231), some (.int x1), some (.int x2), some (.int x3), some (.int x4), some (.int x5), some (.int x6), o7, o8] [] (fm_mk S) r := by
  refine fs_bipush (n := -5) (v := (-5)) (by decide +kernel) (by decide) ?_
  exact nx
theorem b_M_order_189 {d : Nat} {x1 : Int32} {x2 : Int32} {x3 : Int32} {x4 : Int32} {x5 : Int32} {x6 : Int32} {o7 : Option Value} {o8 : Option Value} {sx0 : Int32} {S : fm_S}  : am_Ev d k_M_order 189 [some (.ref 231), some (.int x1), some (.int x2), some (.int x3), some (.int x4), some (.int x5), some (.int x6), o7, o8] [.int sx0] (fm_mk S) (some (.int sx0), fm_mk S) := by
  exact fe_retI (by decide +kernel) (by decide +kernel)
theorem b_M_order_190 {d : Nat} {x1 : Int32} {x2 : Int32} {x3 : Int32} {x4 : Int32} {x5 : Int32} {x6 : Int32} {o7 : Option Value} {o8 : Option Value} {S : fm_S} {r : Option Value × am_W} (nx : am_Ev d k_M_order 48 [some (.ref 231), some (.int x1), some (.int x2), some (.int x3), some (.int (x4 + 1)), some (.int x5), some (.int x6), o7, o8] [] (fm_mk S) r) : am_Ev d k_M_order 190 [some (.ref 231), some (.int x1), some (.int x2), some (.int x3), some (.int x4), some (.int x5), some (.int x6), o7, o8] [] (fm_mk S) r := by
  refine fs_iinc (j := 4) (n := 1) (v := 1) (L' := [some (.ref 231), some (.int x1), some (.int x2), some (.int x3), some (.int (x4 + 1)), some (.int x5), some (.int x6), o7, o8]) (by decide +kernel) rfl (Nat.le_of_ble_eq_true rfl) (by decide) rfl ?_
  refine fs_goto (off := -145) (tgt := 48) (by decide +kernel) (by decide) ?_
  exact nx
theorem b_M_order_196 {d : Nat} {x1 : Int32} {x2 : Int32} {x3 : Int32} {x4 : Int32} {o5 : Option Value} {o6 : Option Value} {o7 : Option Value} {o8 : Option Value} {S : fm_S}  : am_Ev d k_M_order 196 [some (.ref 231), some (.int x1), some (.int x2), some (.int x3), some (.int x4), o5, o6, o7, o8] [] (fm_mk S) (some (.int (-1)), fm_mk S) := by
  refine fs_iconst (n := -1) (v := (-1)) (by decide +kernel) (by decide) ?_
  exact fe_retI (by decide +kernel) (by decide +kernel)
-- KitchenSiegeModel.butterOf(III)I
theorem b_M_butterOf_0 {d : Nat} {x1 : Int32} {x2 : Int32} {x3 : Int32} {o4 : Option Value} {o5 : Option Value} {o6 : Option Value} {o7 : Option Value} {S : fm_S} {r : Option Value × am_W} (nx : am_Ev d k_M_butterOf 9 [some (.ref 231), some (.int x1), some (.int x2), some (.int x3), some (.int 0), some (.int 0), some (.int 0), o7] [] (fm_mk S) r) : am_Ev d k_M_butterOf 0 [some (.ref 231), some (.int x1), some (.int x2), some (.int x3), o4, o5, o6, o7] [] (fm_mk S) r := by
  refine fs_iconst (n := 0) (v := 0) (by decide +kernel) (by decide) ?_
  refine fs_istore (j := 4) (L' := [some (.ref 231), some (.int x1), some (.int x2), some (.int x3), some (.int 0), o5, o6, o7]) (by decide +kernel) (Nat.le_of_ble_eq_true rfl) rfl ?_
  refine fs_iconst (n := 0) (v := 0) (by decide +kernel) (by decide) ?_
  refine fs_istore (j := 5) (L' := [some (.ref 231), some (.int x1), some (.int x2), some (.int x3), some (.int 0), some (.int 0), o6, o7]) (by decide +kernel) (Nat.le_of_ble_eq_true rfl) rfl ?_
  refine fs_iconst (n := 0) (v := 0) (by decide +kernel) (by decide) ?_
  refine fs_istore (j := 6) (L' := [some (.ref 231), some (.int x1), some (.int x2), some (.int x3), some (.int 0), some (.int 0), some (.int 0), o7]) (by decide +kernel) (Nat.le_of_ble_eq_true rfl) rfl ?_
  exact nx
theorem b_M_butterOf_9 {d : Nat} {x1 : Int32} {x2 : Int32} {x3 : Int32} {x4 : Int32} {x5 : Int32} {x6 : Int32} {o7 : Option Value} {S : fm_S} {r : Option Value × am_W} (kt : x2 ≤ x6 → am_Ev d k_M_butterOf 56 [some (.ref 231), some (.int x1), some (.int x2), some (.int x3), some (.int x4), some (.int x5), some (.int x6), o7] [] (fm_mk S) r) (kf : ¬ x2 ≤ x6 → am_Ev d k_M_butterOf 15 [some (.ref 231), some (.int x1), some (.int x2), some (.int x3), some (.int x4), some (.int x5), some (.int x6), o7] [] (fm_mk S) r) : am_Ev d k_M_butterOf 9 [some (.ref 231), some (.int x1), some (.int x2), some (.int x3), some (.int x4), some (.int x5), some (.int x6), o7] [] (fm_mk S) r := by
  refine fs_iload (j := 6) (by decide +kernel) rfl ?_
  refine fs_iloadn (j := 2) (by decide +kernel) rfl ?_
  exact fs_icge (off := 44) (tgt := 56) (by decide +kernel) (by decide) kt kf
theorem b_M_butterOf_15 {d : Nat} {x1 : Int32} {x2 : Int32} {x3 : Int32} {x4 : Int32} {x5 : Int32} {x6 : Int32} {o7 : Option Value} {v : Int32} {S1 : fm_S} {S : fm_S} {r : Option Value × am_W} (hc : am_Sp d k_M_dishIn [.ref 231, .int x1, .int x2, .int x6] (fm_mk S) (some (.int v)) (fm_mk S1)) (nx : am_Ev (d + 1) k_M_butterOf 23 [some (.ref 231), some (.int x1), some (.int x2), some (.int x3), some (.int x4), some (.int x5), some (.int x6), o7] [.int v] (fm_mk S1) r) : am_Ev (d + 1) k_M_butterOf 15 [some (.ref 231), some (.int x1), some (.int x2), some (.int x3), some (.int x4), some (.int x5), some (.int x6), o7] [] (fm_mk S) r := by
  refine fs_aloadn (j := 0) (by decide +kernel) rfl ?_
  refine fs_iloadn (j := 1) (by decide +kernel) rfl ?_
  refine fs_iloadn (j := 2) (by decide +kernel) rfl ?_
  refine fs_iload (j := 6) (by decide +kernel) rfl ?_
  exact fe_callV (t := 8) (idx := 204) (n := 3) (wp := 1192) (q := (1194, 51)) (as := [.int x1, .int x2, .int x6]) (rs := []) (by decide +kernel) (by decide +kernel) (by decide +kernel) (by decide +kernel) rfl (Nat.le_of_ble_eq_true rfl) rfl hc nx
theorem b_M_butterOf_23 {d : Nat} {x1 : Int32} {x2 : Int32} {x3 : Int32} {x4 : Int32} {x5 : Int32} {x6 : Int32} {o7 : Option Value} {sx0 : Int32} {S : fm_S} {r : Option Value × am_W} (hi0 : vp_in (137 + sx0) 373) (nx : am_Ev d k_M_butterOf 9 [some (.ref 231), some (.int x1), some (.int x2), some (.int x3), some (.int (x4 ||| (1 <<< (sx0 &&& 31)))), some (.int (x5 + (S.1 232 ((137 + sx0).toNatClampNeg)))), some (.int (x6 + 1)), some (.int sx0)] [] (fm_mk S) r) : am_Ev d k_M_butterOf 23 [some (.ref 231), some (.int x1), some (.int x2), some (.int x3), some (.int x4), some (.int x5), some (.int x6), o7] [.int sx0] (fm_mk S) r := by
  refine fs_istore (j := 7) (L' := [some (.ref 231), some (.int x1), some (.int x2), some (.int x3), some (.int x4), some (.int x5), some (.int x6), some (.int sx0)]) (by decide +kernel) (Nat.le_of_ble_eq_true rfl) rfl ?_
  refine fs_iload (j := 4) (by decide +kernel) rfl ?_
  refine fs_iconst (n := 1) (v := 1) (by decide +kernel) (by decide) ?_
  refine fs_iload (j := 7) (by decide +kernel) rfl ?_
  refine fs_ishl (by decide +kernel) ?_
  refine fs_ior (by decide +kernel) ?_
  refine fs_istore (j := 4) (L' := [some (.ref 231), some (.int x1), some (.int x2), some (.int x3), some (.int (x4 ||| (1 <<< (sx0 &&& 31)))), some (.int x5), some (.int x6), some (.int sx0)]) (by decide +kernel) (Nat.le_of_ble_eq_true rfl) rfl ?_
  refine fs_iload (j := 5) (by decide +kernel) rfl ?_
  refine fs_aloadn (j := 0) (by decide +kernel) rfl ?_
  refine fe_getR (idx := 7) (t := 8) (f := 0) (fk := 2) (fin := 1) (wp := 945) (x := 232) (by decide +kernel) (by decide +kernel) (by decide +kernel) (by decide +kernel) (by decide +kernel) ?_
  refine fs_sipush (n := 137) (v := 137) (by decide +kernel) (by decide) ?_
  refine fs_iload (j := 7) (by decide +kernel) rfl ?_
  refine fs_iadd (by decide +kernel) ?_
  refine fx_iald (n := (137 + sx0).toNatClampNeg) (len := 373) (by decide +kernel) (by decide +kernel) (by decide +kernel) hi0 rfl ?_
  refine fs_iadd (by decide +kernel) ?_
  refine fs_istore (j := 5) (L' := [some (.ref 231), some (.int x1), some (.int x2), some (.int x3), some (.int (x4 ||| (1 <<< (sx0 &&& 31)))), some (.int (x5 + (S.1 232 ((137 + sx0).toNatClampNeg)))), some (.int x6), some (.int sx0)]) (by decide +kernel) (Nat.le_of_ble_eq_true rfl) rfl ?_
  refine fs_iinc (j := 6) (n := 1) (v := 1) (L' := [some (.ref 231), some (.int x1), some (.int x2), some (.int x3), some (.int (x4 ||| (1 <<< (sx0 &&& 31)))), some (.int (x5 + (S.1 232 ((137 + sx0).toNatClampNeg)))), some (.int (x6 + 1)), some (.int sx0)]) (by decide +kernel) rfl (Nat.le_of_ble_eq_true rfl) (by decide) rfl ?_
  refine fs_goto (off := -44) (tgt := 9) (by decide +kernel) (by decide) ?_
  exact nx
theorem b_M_butterOf_56 {d : Nat} {x1 : Int32} {x2 : Int32} {x3 : Int32} {x4 : Int32} {x5 : Int32} {x6 : Int32} {o7 : Option Value} {v : Int32} {S1 : fm_S} {S : fm_S} {r : Option Value × am_W} (hc : am_Sp d k_M_bits [.int x4] (fm_mk S) (some (.int v)) (fm_mk S1)) (nx : am_Ev (d + 1) k_M_butterOf 61 [some (.ref 231), some (.int x1), some (.int x2), some (.int x3), some (.int x4), some (.int x5), some (.int x6), o7] [.int v] (fm_mk S1) r) : am_Ev (d + 1) k_M_butterOf 56 [some (.ref 231), some (.int x1), some (.int x2), some (.int x3), some (.int x4), some (.int x5), some (.int x6), o7] [] (fm_mk S) r := by
  refine fs_iload (j := 4) (by decide +kernel) rfl ?_
  exact fe_callS (idx := 207) (kd := 0) (n := 1) (wp := 1196) (q := (1197, 0)) (as := [.int x4]) (rs := []) (by decide +kernel) (by decide +kernel) (by decide +kernel) (by decide) rfl (Nat.le_of_ble_eq_true rfl) rfl hc nx
theorem b_M_butterOf_61 {d : Nat} {x1 : Int32} {x2 : Int32} {x3 : Int32} {x4 : Int32} {x5 : Int32} {x6 : Int32} {o7 : Option Value} {sx0 : Int32} {S : fm_S} {r : Option Value × am_W} (kt : x2 ≤ sx0 → am_Ev d k_M_butterOf 67 [some (.ref 231), some (.int x1), some (.int x2), some (.int x3), some (.int x4), some (.int x5), some (.int x6), o7] [] (fm_mk S) r) (kf : ¬ x2 ≤ sx0 → am_Ev d k_M_butterOf 65 [some (.ref 231), some (.int x1), some (.int x2), some (.int x3), some (.int x4), some (.int x5), some (.int x6), o7] [] (fm_mk S) r) : am_Ev d k_M_butterOf 61 [some (.ref 231), some (.int x1), some (.int x2), some (.int x3), some (.int x4), some (.int x5), some (.int x6), o7] [.int sx0] (fm_mk S) r := by
  refine fs_iloadn (j := 2) (by decide +kernel) rfl ?_
  exact fs_icge (off := 5) (tgt := 67) (by decide +kernel) (by decide) kt kf
theorem b_M_butterOf_65 {d : Nat} {x1 : Int32} {x2 : Int32} {x3 : Int32} {x4 : Int32} {x5 : Int32} {x6 : Int32} {o7 : Option Value} {S : fm_S}  : am_Ev d k_M_butterOf 65 [some (.ref 231), some (.int x1), some (.int x2), some (.int x3), some (.int x4), some (.int x5), some (.int x6), o7] [] (fm_mk S) (some (.int (-1)), fm_mk S) := by
  refine fs_iconst (n := -1) (v := (-1)) (by decide +kernel) (by decide) ?_
  exact fe_retI (by decide +kernel) (by decide +kernel)
theorem b_M_butterOf_67 {d : Nat} {x1 : Int32} {x2 : Int32} {x3 : Int32} {x4 : Int32} {x5 : Int32} {x6 : Int32} {o7 : Option Value} {S1 : fm_S} {S : fm_S} {r : Option Value × am_W} (hc : am_Sp d k_M_past [.ref 232, .ref 239, .int 0, .int 0] (fm_mk S) (none) (fm_mk S1)) (nx : am_Ev (d + 1) k_M_butterOf 80 [some (.ref 231), some (.int x1), some (.int x2), some (.int x3), some (.int x4), some (.int x5), some (.int x6), o7] [] (fm_mk S1) r) : am_Ev (d + 1) k_M_butterOf 67 [some (.ref 231), some (.int x1), some (.int x2), some (.int x3), some (.int x4), some (.int x5), some (.int x6), o7] [] (fm_mk S) r := by
  refine fs_aloadn (j := 0) (by decide +kernel) rfl ?_
  refine fe_getR (idx := 7) (t := 8) (f := 0) (fk := 2) (fin := 1) (wp := 945) (x := 232) (by decide +kernel) (by decide +kernel) (by decide +kernel) (by decide +kernel) (by decide +kernel) ?_
  refine fs_aloadn (j := 0) (by decide +kernel) rfl ?_
  refine fe_getR (idx := 31) (t := 8) (f := 15) (fk := 2) (fin := 1) (wp := 960) (x := 239) (by decide +kernel) (by decide +kernel) (by decide +kernel) (by decide +kernel) (by decide +kernel) ?_
  refine fs_iconst (n := 0) (v := 0) (by decide +kernel) (by decide) ?_
  refine fs_iconst (n := 0) (v := 0) (by decide +kernel) (by decide) ?_
  exact fe_callS (idx := 194) (kd := 0) (n := 4) (wp := 1131) (q := (1132, 0)) (as := [.ref 232, .ref 239, .int 0, .int 0]) (rs := []) (by decide +kernel) (by decide +kernel) (by decide +kernel) (by decide) rfl (Nat.le_of_ble_eq_true rfl) rfl hc nx
theorem b_M_butterOf_80 {d : Nat} {x1 : Int32} {x2 : Int32} {x3 : Int32} {x4 : Int32} {x5 : Int32} {x6 : Int32} {o7 : Option Value} {S : fm_S} {r : Option Value × am_W} (nx : am_Ev d k_M_butterOf 83 [some (.ref 231), some (.int x1), some (.int x2), some (.int x3), some (.int x4), some (.int x5), some (.int 0), o7] [] (fm_mk S) r) : am_Ev d k_M_butterOf 80 [some (.ref 231), some (.int x1), some (.int x2), some (.int x3), some (.int x4), some (.int x5), some (.int x6), o7] [] (fm_mk S) r := by
  refine fs_iconst (n := 0) (v := 0) (by decide +kernel) (by decide) ?_
  refine fs_istore (j := 6) (L' := [some (.ref 231), some (.int x1), some (.int x2), some (.int x3), some (.int x4), some (.int x5), some (.int 0), o7]) (by decide +kernel) (Nat.le_of_ble_eq_true rfl) rfl ?_
  exact nx
theorem b_M_butterOf_83 {d : Nat} {x1 : Int32} {x2 : Int32} {x3 : Int32} {x4 : Int32} {x5 : Int32} {x6 : Int32} {o7 : Option Value} {S : fm_S} {r : Option Value × am_W} (kt : x2 ≤ x6 → am_Ev d k_M_butterOf 108 [some (.ref 231), some (.int x1), some (.int x2), some (.int x3), some (.int x4), some (.int x5), some (.int x6), o7] [] (fm_mk S) r) (kf : ¬ x2 ≤ x6 → am_Ev d k_M_butterOf 89 [some (.ref 231), some (.int x1), some (.int x2), some (.int x3), some (.int x4), some (.int x5), some (.int x6), o7] [] (fm_mk S) r) : am_Ev d k_M_butterOf 83 [some (.ref 231), some (.int x1), some (.int x2), some (.int x3), some (.int x4), some (.int x5), some (.int x6), o7] [] (fm_mk S) r := by
  refine fs_iload (j := 6) (by decide +kernel) rfl ?_
  refine fs_iloadn (j := 2) (by decide +kernel) rfl ?_
  exact fs_icge (off := 22) (tgt := 108) (by decide +kernel) (by decide) kt kf
theorem b_M_butterOf_89 {d : Nat} {x1 : Int32} {x2 : Int32} {x3 : Int32} {x4 : Int32} {x5 : Int32} {x6 : Int32} {o7 : Option Value} {v : Int32} {S1 : fm_S} {S : fm_S} {r : Option Value × am_W} (hc : am_Sp d k_M_dishIn [.ref 231, .int x1, .int x2, .int x6] (fm_mk S) (some (.int v)) (fm_mk S1)) (nx : am_Ev (d + 1) k_M_butterOf 98 [some (.ref 231), some (.int x1), some (.int x2), some (.int x3), some (.int x4), some (.int x5), some (.int x6), o7] [.int v, .ref 231] (fm_mk S1) r) : am_Ev (d + 1) k_M_butterOf 89 [some (.ref 231), some (.int x1), some (.int x2), some (.int x3), some (.int x4), some (.int x5), some (.int x6), o7] [] (fm_mk S) r := by
  refine fs_aloadn (j := 0) (by decide +kernel) rfl ?_
  refine fs_aloadn (j := 0) (by decide +kernel) rfl ?_
  refine fs_iloadn (j := 1) (by decide +kernel) rfl ?_
  refine fs_iloadn (j := 2) (by decide +kernel) rfl ?_
  refine fs_iload (j := 6) (by decide +kernel) rfl ?_
  exact fe_callV (t := 8) (idx := 204) (n := 3) (wp := 1192) (q := (1194, 51)) (as := [.int x1, .int x2, .int x6]) (rs := [.ref 231]) (by decide +kernel) (by decide +kernel) (by decide +kernel) (by decide +kernel) rfl (Nat.le_of_ble_eq_true rfl) rfl hc nx
theorem b_M_butterOf_98 {d : Nat} {x1 : Int32} {x2 : Int32} {x3 : Int32} {x4 : Int32} {x5 : Int32} {x6 : Int32} {o7 : Option Value} {sx1 : Int32} {v : Int32} {S1 : fm_S} {S : fm_S} {r : Option Value × am_W} (hc : am_Sp d k_M_goDay [.ref 231, .int sx1] (fm_mk S) (some (.int v)) (fm_mk S1)) (nx : am_Ev (d + 1) k_M_butterOf 101 [some (.ref 231), some (.int x1), some (.int x2), some (.int x3), some (.int x4), some (.int x5), some (.int x6), o7] [.int v] (fm_mk S1) r) : am_Ev (d + 1) k_M_butterOf 98 [some (.ref 231), some (.int x1), some (.int x2), some (.int x3), some (.int x4), some (.int x5), some (.int x6), o7] [.int sx1, .ref 231] (fm_mk S) r := by
  exact fe_callV (t := 8) (idx := 198) (n := 1) (wp := 1134) (q := (1136, 44)) (as := [.int sx1]) (rs := []) (by decide +kernel) (by decide +kernel) (by decide +kernel) (by decide +kernel) rfl (Nat.le_of_ble_eq_true rfl) rfl hc nx
theorem b_M_butterOf_101 {d : Nat} {x1 : Int32} {x2 : Int32} {x3 : Int32} {x4 : Int32} {x5 : Int32} {x6 : Int32} {o7 : Option Value} {sx0 : Int32} {S : fm_S} {r : Option Value × am_W} (nx : am_Ev d k_M_butterOf 83 [some (.ref 231), some (.int x1), some (.int x2), some (.int x3), some (.int x4), some (.int x5), some (.int (x6 + 1)), o7] [] (fm_mk S) r) : am_Ev d k_M_butterOf 101 [some (.ref 231), some (.int x1), some (.int x2), some (.int x3), some (.int x4), some (.int x5), some (.int x6), o7] [.int sx0] (fm_mk S) r := by
  refine fs_pop (by decide +kernel) rfl ?_
  refine fs_iinc (j := 6) (n := 1) (v := 1) (L' := [some (.ref 231), some (.int x1), some (.int x2), some (.int x3), some (.int x4), some (.int x5), some (.int (x6 + 1)), o7]) (by decide +kernel) rfl (Nat.le_of_ble_eq_true rfl) (by decide) rfl ?_
  refine fs_goto (off := -22) (tgt := 83) (by decide +kernel) (by decide) ?_
  exact nx
theorem b_M_butterOf_108 {d : Nat} {x1 : Int32} {x2 : Int32} {x3 : Int32} {x4 : Int32} {x5 : Int32} {x6 : Int32} {o7 : Option Value} {S : fm_S} {r : Option Value × am_W} (hi0 : vp_in (29 + x3) 373) (kt : (S.1 232 ((29 + x3).toNatClampNeg)) = (-1) → am_Ev d k_M_butterOf 125 [some (.ref 231), some (.int x1), some (.int x2), some (.int x3), some (.int x4), some (.int x5), some (.int x6), o7] [] (fm_mk S) r) (kf : ¬ (S.1 232 ((29 + x3).toNatClampNeg)) = (-1) → am_Ev d k_M_butterOf 121 [some (.ref 231), some (.int x1), some (.int x2), some (.int x3), some (.int x4), some (.int x5), some (.int x6), o7] [] (fm_mk S) r) : am_Ev d k_M_butterOf 108 [some (.ref 231), some (.int x1), some (.int x2), some (.int x3), some (.int x4), some (.int x5), some (.int x6), o7] [] (fm_mk S) r := by
  refine fs_aloadn (j := 0) (by decide +kernel) rfl ?_
  refine fe_getR (idx := 7) (t := 8) (f := 0) (fk := 2) (fin := 1) (wp := 945) (x := 232) (by decide +kernel) (by decide +kernel) (by decide +kernel) (by decide +kernel) (by decide +kernel) ?_
  refine fs_bipush (n := 29) (v := 29) (by decide +kernel) (by decide) ?_
  refine fs_iloadn (j := 3) (by decide +kernel) rfl ?_
  refine fs_iadd (by decide +kernel) ?_
  refine fx_iald (n := (29 + x3).toNatClampNeg) (len := 373) (by decide +kernel) (by decide +kernel) (by decide +kernel) hi0 rfl ?_
  refine fs_iconst (n := -1) (v := (-1)) (by decide +kernel) (by decide) ?_
  exact fs_iceq (off := 7) (tgt := 125) (by decide +kernel) (by decide) kt kf
theorem b_M_butterOf_121 {d : Nat} {x1 : Int32} {x2 : Int32} {x3 : Int32} {x4 : Int32} {x5 : Int32} {x6 : Int32} {o7 : Option Value} {S : fm_S} {r : Option Value × am_W} (nx : am_Ev d k_M_butterOf 126 [some (.ref 231), some (.int x1), some (.int x2), some (.int x3), some (.int x4), some (.int x5), some (.int x6), o7] [.int 1] (fm_mk S) r) : am_Ev d k_M_butterOf 121 [some (.ref 231), some (.int x1), some (.int x2), some (.int x3), some (.int x4), some (.int x5), some (.int x6), o7] [] (fm_mk S) r := by
  refine fs_iconst (n := 1) (v := 1) (by decide +kernel) (by decide) ?_
  refine fs_goto (off := 4) (tgt := 126) (by decide +kernel) (by decide) ?_
  exact nx
theorem b_M_butterOf_125 {d : Nat} {x1 : Int32} {x2 : Int32} {x3 : Int32} {x4 : Int32} {x5 : Int32} {x6 : Int32} {o7 : Option Value} {S : fm_S} {r : Option Value × am_W} (nx : am_Ev d k_M_butterOf 126 [some (.ref 231), some (.int x1), some (.int x2), some (.int x3), some (.int x4), some (.int x5), some (.int x6), o7] [.int 0] (fm_mk S) r) : am_Ev d k_M_butterOf 125 [some (.ref 231), some (.int x1), some (.int x2), some (.int x3), some (.int x4), some (.int x5), some (.int x6), o7] [] (fm_mk S) r := by
  refine fs_iconst (n := 0) (v := 0) (by decide +kernel) (by decide) ?_
  exact nx
theorem b_M_butterOf_126 {d : Nat} {x1 : Int32} {x2 : Int32} {x3 : Int32} {x4 : Int32} {x5 : Int32} {x6 : Int32} {o7 : Option Value} {sx0 : Int32} {S1 : fm_S} {S : fm_S} {r : Option Value × am_W} (hc : am_Sp d k_M_past [.ref 239, .ref 232, .int 0, .int 1] (fm_mk S) (none) (fm_mk S1)) (nx : am_Ev (d + 1) k_M_butterOf 141 [some (.ref 231), some (.int x1), some (.int x2), some (.int x3), some (.int x4), some (.int x5), some (.int sx0), o7] [] (fm_mk S1) r) : am_Ev (d + 1) k_M_butterOf 126 [some (.ref 231), some (.int x1), some (.int x2), some (.int x3), some (.int x4), some (.int x5), some (.int x6), o7] [.int sx0] (fm_mk S) r := by
  refine fs_istore (j := 6) (L' := [some (.ref 231), some (.int x1), some (.int x2), some (.int x3), some (.int x4), some (.int x5), some (.int sx0), o7]) (by decide +kernel) (Nat.le_of_ble_eq_true rfl) rfl ?_
  refine fs_aloadn (j := 0) (by decide +kernel) rfl ?_
  refine fe_getR (idx := 31) (t := 8) (f := 15) (fk := 2) (fin := 1) (wp := 960) (x := 239) (by decide +kernel) (by decide +kernel) (by decide +kernel) (by decide +kernel) (by decide +kernel) ?_
  refine fs_aloadn (j := 0) (by decide +kernel) rfl ?_
  refine fe_getR (idx := 7) (t := 8) (f := 0) (fk := 2) (fin := 1) (wp := 945) (x := 232) (by decide +kernel) (by decide +kernel) (by decide +kernel) (by decide +kernel) (by decide +kernel) ?_
  refine fs_iconst (n := 0) (v := 0) (by decide +kernel) (by decide) ?_
  refine fs_iconst (n := 1) (v := 1) (by decide +kernel) (by decide) ?_
  exact fe_callS (idx := 194) (kd := 0) (n := 4) (wp := 1131) (q := (1132, 0)) (as := [.ref 239, .ref 232, .int 0, .int 1]) (rs := []) (by decide +kernel) (by decide +kernel) (by decide +kernel) (by decide) rfl (Nat.le_of_ble_eq_true rfl) rfl hc nx
theorem b_M_butterOf_141 {d : Nat} {x1 : Int32} {x2 : Int32} {x3 : Int32} {x4 : Int32} {x5 : Int32} {x6 : Int32} {o7 : Option Value} {S : fm_S} {r : Option Value × am_W} (kt : x6 = 0 → am_Ev d k_M_butterOf 151 [some (.ref 231), some (.int x1), some (.int x2), some (.int x3), some (.int x4), some (.int x5), some (.int x6), o7] [] (fm_mk S) r) (kf : ¬ x6 = 0 → am_Ev d k_M_butterOf 146 [some (.ref 231), some (.int x1), some (.int x2), some (.int x3), some (.int x4), some (.int x5), some (.int x6), o7] [] (fm_mk S) r) : am_Ev d k_M_butterOf 141 [some (.ref 231), some (.int x1), some (.int x2), some (.int x3), some (.int x4), some (.int x5), some (.int x6), o7] [] (fm_mk S) r := by
  refine fs_iload (j := 6) (by decide +kernel) rfl ?_
  exact fs_ifeq (off := 8) (tgt := 151) (by decide +kernel) (by decide) kt kf
theorem b_M_butterOf_146 {d : Nat} {x1 : Int32} {x2 : Int32} {x3 : Int32} {x4 : Int32} {x5 : Int32} {x6 : Int32} {o7 : Option Value} {S : fm_S} {r : Option Value × am_W} (nx : am_Ev d k_M_butterOf 152 [some (.ref 231), some (.int x1), some (.int x2), some (.int x3), some (.int x4), some (.int x5), some (.int x6), o7] [.int x5] (fm_mk S) r) : am_Ev d k_M_butterOf 146 [some (.ref 231), some (.int x1), some (.int x2), some (.int x3), some (.int x4), some (.int x5), some (.int x6), o7] [] (fm_mk S) r := by
  refine fs_iload (j := 5) (by decide +kernel) rfl ?_
  refine fs_goto (off := 4) (tgt := 152) (by decide +kernel) (by decide) ?_
  exact nx
theorem b_M_butterOf_151 {d : Nat} {x1 : Int32} {x2 : Int32} {x3 : Int32} {x4 : Int32} {x5 : Int32} {x6 : Int32} {o7 : Option Value} {S : fm_S} {r : Option Value × am_W} (nx : am_Ev d k_M_butterOf 152 [some (.ref 231), some (.int x1), some (.int x2), some (.int x3), some (.int x4), some (.int x5), some (.int x6), o7] [.int (-1)] (fm_mk S) r) : am_Ev d k_M_butterOf 151 [some (.ref 231), some (.int x1), some (.int x2), some (.int x3), some (.int x4), some (.int x5), some (.int x6), o7] [] (fm_mk S) r := by
  refine fs_iconst (n := -1) (v := (-1)) (by decide +kernel) (by decide) ?_
  exact nx
theorem b_M_butterOf_152 {d : Nat} {x1 : Int32} {x2 : Int32} {x3 : Int32} {x4 : Int32} {x5 : Int32} {x6 : Int32} {o7 : Option Value} {sx0 : Int32} {S : fm_S}  : am_Ev d k_M_butterOf 152 [some (.ref 231), some (.int x1), some (.int x2), some (.int x3), some (.int x4), some (.int x5), some (.int x6), o7] [.int sx0] (fm_mk S) (some (.int sx0), fm_mk S) := by
  exact fe_retI (by decide +kernel) (by decide +kernel)
-- KitchenSiegeModel.dishIn(III)I
theorem b_M_dishIn_0 {d : Nat} {x1 : Int32} {x2 : Int32} {x3 : Int32} {o4 : Option Value} {o5 : Option Value} {S : fm_S} {r : Option Value × am_W} (nx : am_Ev d k_M_dishIn 8 [some (.ref 231), some (.int x1), some (.int x2), some (.int x3), some (.int x1), some (.int (x2 - 1))] [] (fm_mk S) r) : am_Ev d k_M_dishIn 0 [some (.ref 231), some (.int x1), some (.int x2), some (.int x3), o4, o5] [] (fm_mk S) r := by
  refine fs_iloadn (j := 1) (by decide +kernel) rfl ?_
  refine fs_istore (j := 4) (L' := [some (.ref 231), some (.int x1), some (.int x2), some (.int x3), some (.int x1), o5]) (by decide +kernel) (Nat.le_of_ble_eq_true rfl) rfl ?_
  refine fs_iloadn (j := 2) (by decide +kernel) rfl ?_
  refine fs_iconst (n := 1) (v := 1) (by decide +kernel) (by decide) ?_
  refine fs_isub (by decide +kernel) ?_
  refine fs_istore (j := 5) (L' := [some (.ref 231), some (.int x1), some (.int x2), some (.int x3), some (.int x1), some (.int (x2 - 1))]) (by decide +kernel) (Nat.le_of_ble_eq_true rfl) rfl ?_
  exact nx
theorem b_M_dishIn_8 {d : Nat} {x1 : Int32} {x2 : Int32} {x3 : Int32} {x4 : Int32} {x5 : Int32} {S : fm_S} {r : Option Value × am_W} (kt : x5 ≤ x3 → am_Ev d k_M_dishIn 31 [some (.ref 231), some (.int x1), some (.int x2), some (.int x3), some (.int x4), some (.int x5)] [] (fm_mk S) r) (kf : ¬ x5 ≤ x3 → am_Ev d k_M_dishIn 14 [some (.ref 231), some (.int x1), some (.int x2), some (.int x3), some (.int x4), some (.int x5)] [] (fm_mk S) r) : am_Ev d k_M_dishIn 8 [some (.ref 231), some (.int x1), some (.int x2), some (.int x3), some (.int x4), some (.int x5)] [] (fm_mk S) r := by
  refine fs_iload (j := 5) (by decide +kernel) rfl ?_
  refine fs_iloadn (j := 3) (by decide +kernel) rfl ?_
  exact fs_icle (off := 20) (tgt := 31) (by decide +kernel) (by decide) kt kf
theorem b_M_dishIn_14 {d : Nat} {x1 : Int32} {x2 : Int32} {x3 : Int32} {x4 : Int32} {x5 : Int32} {S : fm_S} {r : Option Value × am_W} (hd0 : ¬ (S.1 232 1) = 0) (nx : am_Ev d k_M_dishIn 8 [some (.ref 231), some (.int x1), some (.int x2), some (.int x3), some (.int (x4 / (S.1 232 1))), some (.int (x5 + (-1)))] [] (fm_mk S) r) : am_Ev d k_M_dishIn 14 [some (.ref 231), some (.int x1), some (.int x2), some (.int x3), some (.int x4), some (.int x5)] [] (fm_mk S) r := by
  refine fs_iload (j := 4) (by decide +kernel) rfl ?_
  refine fs_aloadn (j := 0) (by decide +kernel) rfl ?_
  refine fe_getR (idx := 7) (t := 8) (f := 0) (fk := 2) (fin := 1) (wp := 945) (x := 232) (by decide +kernel) (by decide +kernel) (by decide +kernel) (by decide +kernel) (by decide +kernel) ?_
  refine fs_iconst (n := 1) (v := 1) (by decide +kernel) (by decide) ?_
  refine fx_iald (n := 1) (len := 373) (by decide +kernel) (by decide +kernel) (by decide +kernel) (vp_c (by decide) (by decide)) (by decide) ?_
  refine fe_idiv (by decide +kernel) hd0 ?_
  refine fs_istore (j := 4) (L' := [some (.ref 231), some (.int x1), some (.int x2), some (.int x3), some (.int (x4 / (S.1 232 1))), some (.int x5)]) (by decide +kernel) (Nat.le_of_ble_eq_true rfl) rfl ?_
  refine fs_iinc (j := 5) (n := -1) (v := (-1)) (L' := [some (.ref 231), some (.int x1), some (.int x2), some (.int x3), some (.int (x4 / (S.1 232 1))), some (.int (x5 + (-1)))]) (by decide +kernel) rfl (Nat.le_of_ble_eq_true rfl) (by decide) rfl ?_
  refine fs_goto (off := -20) (tgt := 8) (by decide +kernel) (by decide) ?_
  exact nx
theorem b_M_dishIn_31 {d : Nat} {x1 : Int32} {x2 : Int32} {x3 : Int32} {x4 : Int32} {x5 : Int32} {S : fm_S}  (hd0 : ¬ (S.1 232 1) = 0) : am_Ev d k_M_dishIn 31 [some (.ref 231), some (.int x1), some (.int x2), some (.int x3), some (.int x4), some (.int x5)] [] (fm_mk S) (some (.int (x4 - x4 / (S.1 232 1) * (S.1 232 1))), fm_mk S) := by
  refine fs_iload (j := 4) (by decide +kernel) rfl ?_
  refine fs_aloadn (j := 0) (by decide +kernel) rfl ?_
  refine fe_getR (idx := 7) (t := 8) (f := 0) (fk := 2) (fin := 1) (wp := 945) (x := 232) (by decide +kernel) (by decide +kernel) (by decide +kernel) (by decide +kernel) (by decide +kernel) ?_
  refine fs_iconst (n := 1) (v := 1) (by decide +kernel) (by decide) ?_
  refine fx_iald (n := 1) (len := 373) (by decide +kernel) (by decide +kernel) (by decide +kernel) (vp_c (by decide) (by decide)) (by decide) ?_
  refine fe_irem (by decide +kernel) hd0 ?_
  exact fe_retI (by decide +kernel) (by decide +kernel)
-- KitchenSiegeModel.bits(I)I
theorem b_M_bits_0 {d : Nat} {x0 : Int32} {o1 : Option Value} {o2 : Option Value} {S : fm_S} {r : Option Value × am_W} (nx : am_Ev d k_M_bits 4 [some (.int x0), some (.int 0), some (.int 0)] [] (fm_mk S) r) : am_Ev d k_M_bits 0 [some (.int x0), o1, o2] [] (fm_mk S) r := by
  refine fs_iconst (n := 0) (v := 0) (by decide +kernel) (by decide) ?_
  refine fs_istoren (j := 1) (L' := [some (.int x0), some (.int 0), o2]) (by decide +kernel) (Nat.le_of_ble_eq_true rfl) rfl ?_
  refine fs_iconst (n := 0) (v := 0) (by decide +kernel) (by decide) ?_
  refine fs_istoren (j := 2) (L' := [some (.int x0), some (.int 0), some (.int 0)]) (by decide +kernel) (Nat.le_of_ble_eq_true rfl) rfl ?_
  exact nx
theorem b_M_bits_4 {d : Nat} {x0 : Int32} {x1 : Int32} {x2 : Int32} {S : fm_S} {r : Option Value × am_W} (kt : 8 ≤ x2 → am_Ev d k_M_bits 24 [some (.int x0), some (.int x1), some (.int x2)] [] (fm_mk S) r) (kf : ¬ 8 ≤ x2 → am_Ev d k_M_bits 10 [some (.int x0), some (.int x1), some (.int x2)] [] (fm_mk S) r) : am_Ev d k_M_bits 4 [some (.int x0), some (.int x1), some (.int x2)] [] (fm_mk S) r := by
  refine fs_iloadn (j := 2) (by decide +kernel) rfl ?_
  refine fs_bipush (n := 8) (v := 8) (by decide +kernel) (by decide) ?_
  exact fs_icge (off := 17) (tgt := 24) (by decide +kernel) (by decide) kt kf
theorem b_M_bits_10 {d : Nat} {x0 : Int32} {x1 : Int32} {x2 : Int32} {S : fm_S} {r : Option Value × am_W} (nx : am_Ev d k_M_bits 4 [some (.int x0), some (.int (x1 + ((x0 >>> (x2 &&& 31)) &&& 1))), some (.int (x2 + 1))] [] (fm_mk S) r) : am_Ev d k_M_bits 10 [some (.int x0), some (.int x1), some (.int x2)] [] (fm_mk S) r := by
  refine fs_iloadn (j := 1) (by decide +kernel) rfl ?_
  refine fs_iloadn (j := 0) (by decide +kernel) rfl ?_
  refine fs_iloadn (j := 2) (by decide +kernel) rfl ?_
  refine fs_ishr (by decide +kernel) ?_
  refine fs_iconst (n := 1) (v := 1) (by decide +kernel) (by decide) ?_
  refine fs_iand (by decide +kernel) ?_
  refine fs_iadd (by decide +kernel) ?_
  refine fs_istoren (j := 1) (L' := [some (.int x0), some (.int (x1 + ((x0 >>> (x2 &&& 31)) &&& 1))), some (.int x2)]) (by decide +kernel) (Nat.le_of_ble_eq_true rfl) rfl ?_
  refine fs_iinc (j := 2) (n := 1) (v := 1) (L' := [some (.int x0), some (.int (x1 + ((x0 >>> (x2 &&& 31)) &&& 1))), some (.int (x2 + 1))]) (by decide +kernel) rfl (Nat.le_of_ble_eq_true rfl) (by decide) rfl ?_
  refine fs_goto (off := -17) (tgt := 4) (by decide +kernel) (by decide) ?_
  exact nx
theorem b_M_bits_24 {d : Nat} {x0 : Int32} {x1 : Int32} {x2 : Int32} {S : fm_S}  : am_Ev d k_M_bits 24 [some (.int x0), some (.int x1), some (.int x2)] [] (fm_mk S) (some (.int x1), fm_mk S) := by
  refine fs_iloadn (j := 1) (by decide +kernel) rfl ?_
  exact fe_retI (by decide +kernel) (by decide +kernel)
-- KitchenSiegeModel.never()I
theorem b_M_never_0 {d : Nat} {o1 : Option Value} {o2 : Option Value} {o3 : Option Value} {o4 : Option Value} {S : fm_S} {r : Option Value × am_W} (nx : am_Ev d k_M_never 4 [some (.ref 231), some (.int 0), some (.int 0), o3, o4] [] (fm_mk S) r) : am_Ev d k_M_never 0 [some (.ref 231), o1, o2, o3, o4] [] (fm_mk S) r := by
  refine fs_iconst (n := 0) (v := 0) (by decide +kernel) (by decide) ?_
  refine fs_istoren (j := 1) (L' := [some (.ref 231), some (.int 0), o2, o3, o4]) (by decide +kernel) (Nat.le_of_ble_eq_true rfl) rfl ?_
  refine fs_iconst (n := 0) (v := 0) (by decide +kernel) (by decide) ?_
  refine fs_istoren (j := 2) (L' := [some (.ref 231), some (.int 0), some (.int 0), o3, o4]) (by decide +kernel) (Nat.le_of_ble_eq_true rfl) rfl ?_
  exact nx
theorem b_M_never_4 {d : Nat} {x1 : Int32} {x2 : Int32} {o3 : Option Value} {o4 : Option Value} {S : fm_S} {r : Option Value × am_W} (kt : (S.1 232 0) ≤ x2 → am_Ev d k_M_never 95 [some (.ref 231), some (.int x1), some (.int x2), o3, o4] [] (fm_mk S) r) (kf : ¬ (S.1 232 0) ≤ x2 → am_Ev d k_M_never 14 [some (.ref 231), some (.int x1), some (.int x2), o3, o4] [] (fm_mk S) r) : am_Ev d k_M_never 4 [some (.ref 231), some (.int x1), some (.int x2), o3, o4] [] (fm_mk S) r := by
  refine fs_iloadn (j := 2) (by decide +kernel) rfl ?_
  refine fs_aloadn (j := 0) (by decide +kernel) rfl ?_
  refine fe_getR (idx := 7) (t := 8) (f := 0) (fk := 2) (fin := 1) (wp := 945) (x := 232) (by decide +kernel) (by decide +kernel) (by decide +kernel) (by decide +kernel) (by decide +kernel) ?_
  refine fs_iconst (n := 0) (v := 0) (by decide +kernel) (by decide) ?_
  refine fx_iald (n := 0) (len := 373) (by decide +kernel) (by decide +kernel) (by decide +kernel) (vp_c (by decide) (by decide)) (by decide) ?_
  exact fs_icge (off := 84) (tgt := 95) (by decide +kernel) (by decide) kt kf
theorem b_M_never_14 {d : Nat} {x1 : Int32} {x2 : Int32} {o3 : Option Value} {o4 : Option Value} {S : fm_S} {r : Option Value × am_W} (hi0 : vp_in (29 + x2) 373) (kt : ¬ (S.1 232 ((29 + x2).toNatClampNeg)) = (-1) → am_Ev d k_M_never 31 [some (.ref 231), some (.int x1), some (.int x2), o3, o4] [] (fm_mk S) r) (kf : (S.1 232 ((29 + x2).toNatClampNeg)) = (-1) → am_Ev d k_M_never 27 [some (.ref 231), some (.int x1), some (.int x2), o3, o4] [] (fm_mk S) r) : am_Ev d k_M_never 14 [some (.ref 231), some (.int x1), some (.int x2), o3, o4] [] (fm_mk S) r := by
  refine fs_aloadn (j := 0) (by decide +kernel) rfl ?_
  refine fe_getR (idx := 7) (t := 8) (f := 0) (fk := 2) (fin := 1) (wp := 945) (x := 232) (by decide +kernel) (by decide +kernel) (by decide +kernel) (by decide +kernel) (by decide +kernel) ?_
  refine fs_bipush (n := 29) (v := 29) (by decide +kernel) (by decide) ?_
  refine fs_iloadn (j := 2) (by decide +kernel) rfl ?_
  refine fs_iadd (by decide +kernel) ?_
  refine fx_iald (n := (29 + x2).toNatClampNeg) (len := 373) (by decide +kernel) (by decide +kernel) (by decide +kernel) hi0 rfl ?_
  refine fs_iconst (n := -1) (v := (-1)) (by decide +kernel) (by decide) ?_
  exact fs_icne (off := 7) (tgt := 31) (by decide +kernel) (by decide) kt kf
theorem b_M_never_27 {d : Nat} {x1 : Int32} {x2 : Int32} {o3 : Option Value} {o4 : Option Value} {S : fm_S} {r : Option Value × am_W} (nx : am_Ev d k_M_never 32 [some (.ref 231), some (.int x1), some (.int x2), o3, o4] [.int 1] (fm_mk S) r) : am_Ev d k_M_never 27 [some (.ref 231), some (.int x1), some (.int x2), o3, o4] [] (fm_mk S) r := by
  refine fs_iconst (n := 1) (v := 1) (by decide +kernel) (by decide) ?_
  refine fs_goto (off := 4) (tgt := 32) (by decide +kernel) (by decide) ?_
  exact nx
theorem b_M_never_31 {d : Nat} {x1 : Int32} {x2 : Int32} {o3 : Option Value} {o4 : Option Value} {S : fm_S} {r : Option Value × am_W} (nx : am_Ev d k_M_never 32 [some (.ref 231), some (.int x1), some (.int x2), o3, o4] [.int 0] (fm_mk S) r) : am_Ev d k_M_never 31 [some (.ref 231), some (.int x1), some (.int x2), o3, o4] [] (fm_mk S) r := by
  refine fs_iconst (n := 0) (v := 0) (by decide +kernel) (by decide) ?_
  exact nx
theorem b_M_never_32 {d : Nat} {x1 : Int32} {x2 : Int32} {o3 : Option Value} {o4 : Option Value} {sx0 : Int32} {S : fm_S} {r : Option Value × am_W} (nx : am_Ev d k_M_never 36 [some (.ref 231), some (.int x1), some (.int x2), some (.int sx0), some (.int 0)] [] (fm_mk S) r) : am_Ev d k_M_never 32 [some (.ref 231), some (.int x1), some (.int x2), o3, o4] [.int sx0] (fm_mk S) r := by
  refine fs_istoren (j := 3) (L' := [some (.ref 231), some (.int x1), some (.int x2), some (.int sx0), o4]) (by decide +kernel) (Nat.le_of_ble_eq_true rfl) rfl ?_
  refine fs_iconst (n := 0) (v := 0) (by decide +kernel) (by decide) ?_
  refine fs_istore (j := 4) (L' := [some (.ref 231), some (.int x1), some (.int x2), some (.int sx0), some (.int 0)]) (by decide +kernel) (Nat.le_of_ble_eq_true rfl) rfl ?_
  exact nx
theorem b_M_never_36 {d : Nat} {x1 : Int32} {x2 : Int32} {x3 : Int32} {x4 : Int32} {S : fm_S} {r : Option Value × am_W} (kt : (S.1 232 1) ≤ x4 → am_Ev d k_M_never 75 [some (.ref 231), some (.int x1), some (.int x2), some (.int x3), some (.int x4)] [] (fm_mk S) r) (kf : ¬ (S.1 232 1) ≤ x4 → am_Ev d k_M_never 47 [some (.ref 231), some (.int x1), some (.int x2), some (.int x3), some (.int x4)] [] (fm_mk S) r) : am_Ev d k_M_never 36 [some (.ref 231), some (.int x1), some (.int x2), some (.int x3), some (.int x4)] [] (fm_mk S) r := by
  refine fs_iload (j := 4) (by decide +kernel) rfl ?_
  refine fs_aloadn (j := 0) (by decide +kernel) rfl ?_
  refine fe_getR (idx := 7) (t := 8) (f := 0) (fk := 2) (fin := 1) (wp := 945) (x := 232) (by decide +kernel) (by decide +kernel) (by decide +kernel) (by decide +kernel) (by decide +kernel) ?_
  refine fs_iconst (n := 1) (v := 1) (by decide +kernel) (by decide) ?_
  refine fx_iald (n := 1) (len := 373) (by decide +kernel) (by decide +kernel) (by decide +kernel) (vp_c (by decide) (by decide)) (by decide) ?_
  exact fs_icge (off := 31) (tgt := 75) (by decide +kernel) (by decide) kt kf
theorem b_M_never_47 {d : Nat} {x1 : Int32} {x2 : Int32} {x3 : Int32} {x4 : Int32} {S : fm_S} {r : Option Value × am_W} (kt : x3 = 0 → am_Ev d k_M_never 67 [some (.ref 231), some (.int x1), some (.int x2), some (.int x3), some (.int x4)] [] (fm_mk S) r) (kf : ¬ x3 = 0 → am_Ev d k_M_never 51 [some (.ref 231), some (.int x1), some (.int x2), some (.int x3), some (.int x4)] [] (fm_mk S) r) : am_Ev d k_M_never 47 [some (.ref 231), some (.int x1), some (.int x2), some (.int x3), some (.int x4)] [] (fm_mk S) r := by
  refine fs_iloadn (j := 3) (by decide +kernel) rfl ?_
  exact fs_ifeq (off := 19) (tgt := 67) (by decide +kernel) (by decide) kt kf
theorem b_M_never_51 {d : Nat} {x1 : Int32} {x2 : Int32} {x3 : Int32} {x4 : Int32} {v : Int32} {S1 : fm_S} {S : fm_S} {r : Option Value × am_W} (hc : am_Sp d k_M_opensIn [.ref 231, .int x4, .int x2, .int 28] (fm_mk S) (some (.int v)) (fm_mk S1)) (nx : am_Ev (d + 1) k_M_never 60 [some (.ref 231), some (.int x1), some (.int x2), some (.int x3), some (.int x4)] [.int v] (fm_mk S1) r) : am_Ev (d + 1) k_M_never 51 [some (.ref 231), some (.int x1), some (.int x2), some (.int x3), some (.int x4)] [] (fm_mk S) r := by
  refine fs_aloadn (j := 0) (by decide +kernel) rfl ?_
  refine fs_iload (j := 4) (by decide +kernel) rfl ?_
  refine fs_iloadn (j := 2) (by decide +kernel) rfl ?_
  refine fs_bipush (n := 28) (v := 28) (by decide +kernel) (by decide) ?_
  exact fe_callV (t := 8) (idx := 216) (n := 3) (wp := 1203) (q := (1205, 52)) (as := [.int x4, .int x2, .int 28]) (rs := []) (by decide +kernel) (by decide +kernel) (by decide +kernel) (by decide +kernel) rfl (Nat.le_of_ble_eq_true rfl) rfl hc nx
theorem b_M_never_60 {d : Nat} {x1 : Int32} {x2 : Int32} {x3 : Int32} {x4 : Int32} {sx0 : Int32} {S : fm_S} {r : Option Value × am_W} (kt : ¬ sx0 = 0 → am_Ev d k_M_never 67 [some (.ref 231), some (.int x1), some (.int x2), some (.int x3), some (.int x4)] [] (fm_mk S) r) (kf : sx0 = 0 → am_Ev d k_M_never 63 [some (.ref 231), some (.int x1), some (.int x2), some (.int x3), some (.int x4)] [] (fm_mk S) r) : am_Ev d k_M_never 60 [some (.ref 231), some (.int x1), some (.int x2), some (.int x3), some (.int x4)] [.int sx0] (fm_mk S) r := by
  exact fs_ifne (off := 7) (tgt := 67) (by decide +kernel) (by decide) kt kf
theorem b_M_never_63 {d : Nat} {x1 : Int32} {x2 : Int32} {x3 : Int32} {x4 : Int32} {S : fm_S} {r : Option Value × am_W} (nx : am_Ev d k_M_never 68 [some (.ref 231), some (.int x1), some (.int x2), some (.int x3), some (.int x4)] [.int 1] (fm_mk S) r) : am_Ev d k_M_never 63 [some (.ref 231), some (.int x1), some (.int x2), some (.int x3), some (.int x4)] [] (fm_mk S) r := by
  refine fs_iconst (n := 1) (v := 1) (by decide +kernel) (by decide) ?_
  refine fs_goto (off := 4) (tgt := 68) (by decide +kernel) (by decide) ?_
  exact nx
theorem b_M_never_67 {d : Nat} {x1 : Int32} {x2 : Int32} {x3 : Int32} {x4 : Int32} {S : fm_S} {r : Option Value × am_W} (nx : am_Ev d k_M_never 68 [some (.ref 231), some (.int x1), some (.int x2), some (.int x3), some (.int x4)] [.int 0] (fm_mk S) r) : am_Ev d k_M_never 67 [some (.ref 231), some (.int x1), some (.int x2), some (.int x3), some (.int x4)] [] (fm_mk S) r := by
  refine fs_iconst (n := 0) (v := 0) (by decide +kernel) (by decide) ?_
  exact nx
theorem b_M_never_68 {d : Nat} {x1 : Int32} {x2 : Int32} {x3 : Int32} {x4 : Int32} {sx0 : Int32} {S : fm_S} {r : Option Value × am_W} (nx : am_Ev d k_M_never 36 [some (.ref 231), some (.int x1), some (.int x2), some (.int sx0), some (.int (x4 + 1))] [] (fm_mk S) r) : am_Ev d k_M_never 68 [some (.ref 231), some (.int x1), some (.int x2), some (.int x3), some (.int x4)] [.int sx0] (fm_mk S) r := by
  refine fs_istoren (j := 3) (L' := [some (.ref 231), some (.int x1), some (.int x2), some (.int sx0), some (.int x4)]) (by decide +kernel) (Nat.le_of_ble_eq_true rfl) rfl ?_
  refine fs_iinc (j := 4) (n := 1) (v := 1) (L' := [some (.ref 231), some (.int x1), some (.int x2), some (.int sx0), some (.int (x4 + 1))]) (by decide +kernel) rfl (Nat.le_of_ble_eq_true rfl) (by decide) rfl ?_
  refine fs_goto (off := -36) (tgt := 36) (by decide +kernel) (by decide) ?_
  exact nx
theorem b_M_never_75 {d : Nat} {x1 : Int32} {x2 : Int32} {x3 : Int32} {x4 : Int32} {S : fm_S} {r : Option Value × am_W} (kt : x3 = 0 → am_Ev d k_M_never 86 [some (.ref 231), some (.int x1), some (.int x2), some (.int x3), some (.int x4)] [.int x1] (fm_mk S) r) (kf : ¬ x3 = 0 → am_Ev d k_M_never 80 [some (.ref 231), some (.int x1), some (.int x2), some (.int x3), some (.int x4)] [.int x1] (fm_mk S) r) : am_Ev d k_M_never 75 [some (.ref 231), some (.int x1), some (.int x2), some (.int x3), some (.int x4)] [] (fm_mk S) r := by
  refine fs_iloadn (j := 1) (by decide +kernel) rfl ?_
  refine fs_iloadn (j := 3) (by decide +kernel) rfl ?_
  exact fs_ifeq (off := 9) (tgt := 86) (by decide +kernel) (by decide) kt kf
theorem b_M_never_80 {d : Nat} {x1 : Int32} {x2 : Int32} {x3 : Int32} {x4 : Int32} {sx0 : Int32} {S : fm_S} {r : Option Value × am_W} (nx : am_Ev d k_M_never 87 [some (.ref 231), some (.int x1), some (.int x2), some (.int x3), some (.int x4)] [.int (1 <<< (x2 &&& 31)), .int sx0] (fm_mk S) r) : am_Ev d k_M_never 80 [some (.ref 231), some (.int x1), some (.int x2), some (.int x3), some (.int x4)] [.int sx0] (fm_mk S) r := by
  refine fs_iconst (n := 1) (v := 1) (by decide +kernel) (by decide) ?_
  refine fs_iloadn (j := 2) (by decide +kernel) rfl ?_
  refine fs_ishl (by decide +kernel) ?_
  refine fs_goto (off := 4) (tgt := 87) (by decide +kernel) (by decide) ?_
  exact nx
theorem b_M_never_86 {d : Nat} {x1 : Int32} {x2 : Int32} {x3 : Int32} {x4 : Int32} {sx0 : Int32} {S : fm_S} {r : Option Value × am_W} (nx : am_Ev d k_M_never 87 [some (.ref 231), some (.int x1), some (.int x2), some (.int x3), some (.int x4)] [.int 0, .int sx0] (fm_mk S) r) : am_Ev d k_M_never 86 [some (.ref 231), some (.int x1), some (.int x2), some (.int x3), some (.int x4)] [.int sx0] (fm_mk S) r := by
  refine fs_iconst (n := 0) (v := 0) (by decide +kernel) (by decide) ?_
  exact nx
theorem b_M_never_87 {d : Nat} {x1 : Int32} {x2 : Int32} {x3 : Int32} {x4 : Int32} {sx0 : Int32} {sx1 : Int32} {S : fm_S} {r : Option Value × am_W} (nx : am_Ev d k_M_never 4 [some (.ref 231), some (.int (sx0 ||| sx1)), some (.int (x2 + 1)), some (.int x3), some (.int x4)] [] (fm_mk S) r) : am_Ev d k_M_never 87 [some (.ref 231), some (.int x1), some (.int x2), some (.int x3), some (.int x4)] [.int sx1, .int sx0] (fm_mk S) r := by
  refine fs_ior (by decide +kernel) ?_
  refine fs_istoren (j := 1) (L' := [some (.ref 231), some (.int (sx0 ||| sx1)), some (.int x2), some (.int x3), some (.int x4)]) (by decide +kernel) (Nat.le_of_ble_eq_true rfl) rfl ?_
  refine fs_iinc (j := 2) (n := 1) (v := 1) (L' := [some (.ref 231), some (.int (sx0 ||| sx1)), some (.int (x2 + 1)), some (.int x3), some (.int x4)]) (by decide +kernel) rfl (Nat.le_of_ble_eq_true rfl) (by decide) rfl ?_
  refine fs_goto (off := -88) (tgt := 4) (by decide +kernel) (by decide) ?_
  exact nx
theorem b_M_never_95 {d : Nat} {x1 : Int32} {x2 : Int32} {o3 : Option Value} {o4 : Option Value} {S : fm_S}  : am_Ev d k_M_never 95 [some (.ref 231), some (.int x1), some (.int x2), o3, o4] [] (fm_mk S) (some (.int x1), fm_mk S) := by
  refine fs_iloadn (j := 1) (by decide +kernel) rfl ?_
  exact fe_retI (by decide +kernel) (by decide +kernel)
-- KitchenSiegeModel.opensIn(III)Z
theorem b_M_opensIn_0 {d : Nat} {x1 : Int32} {x2 : Int32} {x3 : Int32} {o4 : Option Value} {o5 : Option Value} {S : fm_S} {r : Option Value × am_W} (nx : am_Ev d k_M_opensIn 6 [some (.ref 231), some (.int x1), some (.int x2), some (.int x3), some (.int 0), some (.int 0)] [] (fm_mk S) r) : am_Ev d k_M_opensIn 0 [some (.ref 231), some (.int x1), some (.int x2), some (.int x3), o4, o5] [] (fm_mk S) r := by
  refine fs_iconst (n := 0) (v := 0) (by decide +kernel) (by decide) ?_
  refine fs_istore (j := 4) (L' := [some (.ref 231), some (.int x1), some (.int x2), some (.int x3), some (.int 0), o5]) (by decide +kernel) (Nat.le_of_ble_eq_true rfl) rfl ?_
  refine fs_iconst (n := 0) (v := 0) (by decide +kernel) (by decide) ?_
  refine fs_istore (j := 5) (L' := [some (.ref 231), some (.int x1), some (.int x2), some (.int x3), some (.int 0), some (.int 0)]) (by decide +kernel) (Nat.le_of_ble_eq_true rfl) rfl ?_
  exact nx
theorem b_M_opensIn_6 {d : Nat} {x1 : Int32} {x2 : Int32} {x3 : Int32} {x4 : Int32} {x5 : Int32} {S : fm_S} {r : Option Value × am_W} (kt : x3 ≤ x5 → am_Ev d k_M_opensIn 48 [some (.ref 231), some (.int x1), some (.int x2), some (.int x3), some (.int x4), some (.int x5)] [] (fm_mk S) r) (kf : ¬ x3 ≤ x5 → am_Ev d k_M_opensIn 12 [some (.ref 231), some (.int x1), some (.int x2), some (.int x3), some (.int x4), some (.int x5)] [] (fm_mk S) r) : am_Ev d k_M_opensIn 6 [some (.ref 231), some (.int x1), some (.int x2), some (.int x3), some (.int x4), some (.int x5)] [] (fm_mk S) r := by
  refine fs_iload (j := 5) (by decide +kernel) rfl ?_
  refine fs_iloadn (j := 3) (by decide +kernel) rfl ?_
  exact fs_icge (off := 39) (tgt := 48) (by decide +kernel) (by decide) kt kf
theorem b_M_opensIn_12 {d : Nat} {x1 : Int32} {x2 : Int32} {x3 : Int32} {x4 : Int32} {x5 : Int32} {S : fm_S} {r : Option Value × am_W} (kt : ¬ x4 = 0 → am_Ev d k_M_opensIn 35 [some (.ref 231), some (.int x1), some (.int x2), some (.int x3), some (.int x4), some (.int x5)] [] (fm_mk S) r) (kf : x4 = 0 → am_Ev d k_M_opensIn 17 [some (.ref 231), some (.int x1), some (.int x2), some (.int x3), some (.int x4), some (.int x5)] [] (fm_mk S) r) : am_Ev d k_M_opensIn 12 [some (.ref 231), some (.int x1), some (.int x2), some (.int x3), some (.int x4), some (.int x5)] [] (fm_mk S) r := by
  refine fs_iload (j := 4) (by decide +kernel) rfl ?_
  exact fs_ifne (off := 21) (tgt := 35) (by decide +kernel) (by decide) kt kf
theorem b_M_opensIn_17 {d : Nat} {x1 : Int32} {x2 : Int32} {x3 : Int32} {x4 : Int32} {x5 : Int32} {v : Int32} {S1 : fm_S} {S : fm_S} {r : Option Value × am_W} (hc : am_Sp d k_M_opensOn [.ref 231, .int x1, .int x2, .int ((S.1 232 4) + x5)] (fm_mk S) (some (.int v)) (fm_mk S1)) (nx : am_Ev (d + 1) k_M_opensIn 32 [some (.ref 231), some (.int x1), some (.int x2), some (.int x3), some (.int x4), some (.int x5)] [.int v] (fm_mk S1) r) : am_Ev (d + 1) k_M_opensIn 17 [some (.ref 231), some (.int x1), some (.int x2), some (.int x3), some (.int x4), some (.int x5)] [] (fm_mk S) r := by
  refine fs_aloadn (j := 0) (by decide +kernel) rfl ?_
  refine fs_iloadn (j := 1) (by decide +kernel) rfl ?_
  refine fs_iloadn (j := 2) (by decide +kernel) rfl ?_
  refine fs_aloadn (j := 0) (by decide +kernel) rfl ?_
  refine fe_getR (idx := 7) (t := 8) (f := 0) (fk := 2) (fin := 1) (wp := 945) (x := 232) (by decide +kernel) (by decide +kernel) (by decide +kernel) (by decide +kernel) (by decide +kernel) ?_
  refine fs_iconst (n := 4) (v := 4) (by decide +kernel) (by decide) ?_
  refine fx_iald (n := 4) (len := 373) (by decide +kernel) (by decide +kernel) (by decide +kernel) (vp_c (by decide) (by decide)) (by decide) ?_
  refine fs_iload (j := 5) (by decide +kernel) rfl ?_
  refine fs_iadd (by decide +kernel) ?_
  exact fe_callV (t := 8) (idx := 213) (n := 3) (wp := 1207) (q := (1209, 53)) (as := [.int x1, .int x2, .int ((S.1 232 4) + x5)]) (rs := []) (by decide +kernel) (by decide +kernel) (by decide +kernel) (by decide +kernel) rfl (Nat.le_of_ble_eq_true rfl) rfl hc nx
theorem b_M_opensIn_32 {d : Nat} {x1 : Int32} {x2 : Int32} {x3 : Int32} {x4 : Int32} {x5 : Int32} {sx0 : Int32} {S : fm_S} {r : Option Value × am_W} (kt : sx0 = 0 → am_Ev d k_M_opensIn 39 [some (.ref 231), some (.int x1), some (.int x2), some (.int x3), some (.int x4), some (.int x5)] [] (fm_mk S) r) (kf : ¬ sx0 = 0 → am_Ev d k_M_opensIn 35 [some (.ref 231), some (.int x1), some (.int x2), some (.int x3), some (.int x4), some (.int x5)] [] (fm_mk S) r) : am_Ev d k_M_opensIn 32 [some (.ref 231), some (.int x1), some (.int x2), some (.int x3), some (.int x4), some (.int x5)] [.int sx0] (fm_mk S) r := by
  exact fs_ifeq (off := 7) (tgt := 39) (by decide +kernel) (by decide) kt kf
theorem b_M_opensIn_35 {d : Nat} {x1 : Int32} {x2 : Int32} {x3 : Int32} {x4 : Int32} {x5 : Int32} {S : fm_S} {r : Option Value × am_W} (nx : am_Ev d k_M_opensIn 40 [some (.ref 231), some (.int x1), some (.int x2), some (.int x3), some (.int x4), some (.int x5)] [.int 1] (fm_mk S) r) : am_Ev d k_M_opensIn 35 [some (.ref 231), some (.int x1), some (.int x2), some (.int x3), some (.int x4), some (.int x5)] [] (fm_mk S) r := by
  refine fs_iconst (n := 1) (v := 1) (by decide +kernel) (by decide) ?_
  refine fs_goto (off := 4) (tgt := 40) (by decide +kernel) (by decide) ?_
  exact nx
theorem b_M_opensIn_39 {d : Nat} {x1 : Int32} {x2 : Int32} {x3 : Int32} {x4 : Int32} {x5 : Int32} {S : fm_S} {r : Option Value × am_W} (nx : am_Ev d k_M_opensIn 40 [some (.ref 231), some (.int x1), some (.int x2), some (.int x3), some (.int x4), some (.int x5)] [.int 0] (fm_mk S) r) : am_Ev d k_M_opensIn 39 [some (.ref 231), some (.int x1), some (.int x2), some (.int x3), some (.int x4), some (.int x5)] [] (fm_mk S) r := by
  refine fs_iconst (n := 0) (v := 0) (by decide +kernel) (by decide) ?_
  exact nx
theorem b_M_opensIn_40 {d : Nat} {x1 : Int32} {x2 : Int32} {x3 : Int32} {x4 : Int32} {x5 : Int32} {sx0 : Int32} {S : fm_S} {r : Option Value × am_W} (nx : am_Ev d k_M_opensIn 6 [some (.ref 231), some (.int x1), some (.int x2), some (.int x3), some (.int sx0), some (.int (x5 + 1))] [] (fm_mk S) r) : am_Ev d k_M_opensIn 40 [some (.ref 231), some (.int x1), some (.int x2), some (.int x3), some (.int x4), some (.int x5)] [.int sx0] (fm_mk S) r := by
  refine fs_istore (j := 4) (L' := [some (.ref 231), some (.int x1), some (.int x2), some (.int x3), some (.int sx0), some (.int x5)]) (by decide +kernel) (Nat.le_of_ble_eq_true rfl) rfl ?_
  refine fs_iinc (j := 5) (n := 1) (v := 1) (L' := [some (.ref 231), some (.int x1), some (.int x2), some (.int x3), some (.int sx0), some (.int (x5 + 1))]) (by decide +kernel) rfl (Nat.le_of_ble_eq_true rfl) (by decide) rfl ?_
  refine fs_goto (off := -39) (tgt := 6) (by decide +kernel) (by decide) ?_
  exact nx
theorem b_M_opensIn_48 {d : Nat} {x1 : Int32} {x2 : Int32} {x3 : Int32} {x4 : Int32} {x5 : Int32} {S : fm_S}  (hz : x4 = 0 ∨ x4 = 1) : am_Ev d k_M_opensIn 48 [some (.ref 231), some (.int x1), some (.int x2), some (.int x3), some (.int x4), some (.int x5)] [] (fm_mk S) (some (.int x4), fm_mk S) := by
  refine fs_iload (j := 4) (by decide +kernel) rfl ?_
  exact fe_retZ (by decide +kernel) (by decide +kernel) hz
-- KitchenSiegeModel.opensOn(III)Z
theorem b_M_opensOn_0 {d : Nat} {x1 : Int32} {x2 : Int32} {x3 : Int32} {v : Int32} {S1 : fm_S} {S : fm_S} {r : Option Value × am_W} (hi0 : vp_in (131 + x1) 373) (hc : am_Sp d k_M_windOf [.ref 231, .int x3] (fm_mk S) (some (.int v)) (fm_mk S1)) (nx : am_Ev (d + 1) k_M_opensOn 16 [some (.ref 231), some (.int x1), some (.int x2), some (.int x3)] [.int v, .int (S.1 232 ((131 + x1).toNatClampNeg)), .ref 231] (fm_mk S1) r) : am_Ev (d + 1) k_M_opensOn 0 [some (.ref 231), some (.int x1), some (.int x2), some (.int x3)] [] (fm_mk S) r := by
  refine fs_aloadn (j := 0) (by decide +kernel) rfl ?_
  refine fs_aloadn (j := 0) (by decide +kernel) rfl ?_
  refine fe_getR (idx := 7) (t := 8) (f := 0) (fk := 2) (fin := 1) (wp := 945) (x := 232) (by decide +kernel) (by decide +kernel) (by decide +kernel) (by decide +kernel) (by decide +kernel) ?_
  refine fs_sipush (n := 131) (v := 131) (by decide +kernel) (by decide) ?_
  refine fs_iloadn (j := 1) (by decide +kernel) rfl ?_
  refine fs_iadd (by decide +kernel) ?_
  refine fx_iald (n := (131 + x1).toNatClampNeg) (len := 373) (by decide +kernel) (by decide +kernel) (by decide +kernel) hi0 rfl ?_
  refine fs_aloadn (j := 0) (by decide +kernel) rfl ?_
  refine fs_iloadn (j := 3) (by decide +kernel) rfl ?_
  exact fe_callV (t := 8) (idx := 175) (n := 1) (wp := 1142) (q := (1144, 46)) (as := [.int x3]) (rs := [.int (S.1 232 ((131 + x1).toNatClampNeg)), .ref 231]) (by decide +kernel) (by decide +kernel) (by decide +kernel) (by decide +kernel) rfl (Nat.le_of_ble_eq_true rfl) rfl hc nx
theorem b_M_opensOn_16 {d : Nat} {x1 : Int32} {x2 : Int32} {x3 : Int32} {sx1 : Int32} {sx2 : Int32} {S1 : fm_S} {S : fm_S} {r : Option Value × am_W} (hc : am_Sp d k_M_spread [.ref 231, .int sx1, .int sx2, .int (-1), .int 0] (fm_mk S) (none) (fm_mk S1)) (nx : am_Ev (d + 1) k_M_opensOn 21 [some (.ref 231), some (.int x1), some (.int x2), some (.int x3)] [] (fm_mk S1) r) : am_Ev (d + 1) k_M_opensOn 16 [some (.ref 231), some (.int x1), some (.int x2), some (.int x3)] [.int sx2, .int sx1, .ref 231] (fm_mk S) r := by
  refine fs_iconst (n := -1) (v := (-1)) (by decide +kernel) (by decide) ?_
  refine fs_iconst (n := 0) (v := 0) (by decide +kernel) (by decide) ?_
  exact fe_callV (t := 8) (idx := 178) (n := 4) (wp := 1146) (q := (1148, 47)) (as := [.int sx1, .int sx2, .int (-1), .int 0]) (rs := []) (by decide +kernel) (by decide +kernel) (by decide +kernel) (by decide +kernel) rfl (Nat.le_of_ble_eq_true rfl) rfl hc nx
theorem b_M_opensOn_21 {d : Nat} {x1 : Int32} {x2 : Int32} {x3 : Int32} {v : Int32} {S1 : fm_S} {S : fm_S} {r : Option Value × am_W} (hi0 : vp_in (5 + x2) 373) (hi1 : vp_in (21 + x2) 373) (hi2 : vp_in (125 + x1) 373) (hi3 : vp_in x2 8) (hc : am_Sp d k_M_movedBy [.int (S.1 232 ((5 + x2).toNatClampNeg)), .int (S.1 232 ((21 + x2).toNatClampNeg)), .int (S.1 232 ((125 + x1).toNatClampNeg)), .int (S.1 238 x2.toNatClampNeg), .int x3, .int 0] (fm_mk S) (some (.int v)) (fm_mk S1)) (nx : am_Ev (d + 1) k_M_opensOn 58 [some (.ref 231), some (.int x1), some (.int x2), some (.int x3)] [.int v] (fm_mk S1) r) : am_Ev (d + 1) k_M_opensOn 21 [some (.ref 231), some (.int x1), some (.int x2), some (.int x3)] [] (fm_mk S) r := by
  refine fs_aloadn (j := 0) (by decide +kernel) rfl ?_
  refine fe_getR (idx := 7) (t := 8) (f := 0) (fk := 2) (fin := 1) (wp := 945) (x := 232) (by decide +kernel) (by decide +kernel) (by decide +kernel) (by decide +kernel) (by decide +kernel) ?_
  refine fs_iconst (n := 5) (v := 5) (by decide +kernel) (by decide) ?_
  refine fs_iloadn (j := 2) (by decide +kernel) rfl ?_
  refine fs_iadd (by decide +kernel) ?_
  refine fx_iald (n := (5 + x2).toNatClampNeg) (len := 373) (by decide +kernel) (by decide +kernel) (by decide +kernel) hi0 rfl ?_
  refine fs_aloadn (j := 0) (by decide +kernel) rfl ?_
  refine fe_getR (idx := 7) (t := 8) (f := 0) (fk := 2) (fin := 1) (wp := 945) (x := 232) (by decide +kernel) (by decide +kernel) (by decide +kernel) (by decide +kernel) (by decide +kernel) ?_
  refine fs_bipush (n := 21) (v := 21) (by decide +kernel) (by decide) ?_
  refine fs_iloadn (j := 2) (by decide +kernel) rfl ?_
  refine fs_iadd (by decide +kernel) ?_
  refine fx_iald (n := (21 + x2).toNatClampNeg) (len := 373) (by decide +kernel) (by decide +kernel) (by decide +kernel) hi1 rfl ?_
  refine fs_aloadn (j := 0) (by decide +kernel) rfl ?_
  refine fe_getR (idx := 7) (t := 8) (f := 0) (fk := 2) (fin := 1) (wp := 945) (x := 232) (by decide +kernel) (by decide +kernel) (by decide +kernel) (by decide +kernel) (by decide +kernel) ?_
  refine fs_bipush (n := 125) (v := 125) (by decide +kernel) (by decide) ?_
  refine fs_iloadn (j := 1) (by decide +kernel) rfl ?_
  refine fs_iadd (by decide +kernel) ?_
  refine fx_iald (n := (125 + x1).toNatClampNeg) (len := 373) (by decide +kernel) (by decide +kernel) (by decide +kernel) hi2 rfl ?_
  refine fs_aloadn (j := 0) (by decide +kernel) rfl ?_
  refine fe_getR (idx := 28) (t := 8) (f := 14) (fk := 2) (fin := 1) (wp := 959) (x := 238) (by decide +kernel) (by decide +kernel) (by decide +kernel) (by decide +kernel) (by decide +kernel) ?_
  refine fs_iloadn (j := 2) (by decide +kernel) rfl ?_
  refine fx_iald (n := x2.toNatClampNeg) (len := 8) (by decide +kernel) (by decide +kernel) (by decide +kernel) hi3 rfl ?_
  refine fs_iloadn (j := 3) (by decide +kernel) rfl ?_
  refine fs_iconst (n := 0) (v := 0) (by decide +kernel) (by decide) ?_
  exact fe_callS (idx := 168) (kd := 0) (n := 6) (wp := 1154) (q := (1155, 0)) (as := [.int (S.1 232 ((5 + x2).toNatClampNeg)), .int (S.1 232 ((21 + x2).toNatClampNeg)), .int (S.1 232 ((125 + x1).toNatClampNeg)), .int (S.1 238 x2.toNatClampNeg), .int x3, .int 0]) (rs := []) (by decide +kernel) (by decide +kernel) (by decide +kernel) (by decide) rfl (Nat.le_of_ble_eq_true rfl) rfl hc nx
theorem b_M_opensOn_58 {d : Nat} {x1 : Int32} {x2 : Int32} {x3 : Int32} {sx0 : Int32} {S : fm_S} {r : Option Value × am_W} (kt : sx0 < 10 → am_Ev d k_M_opensOn 67 [some (.ref 231), some (.int x1), some (.int x2), some (.int x3)] [] (fm_mk S) r) (kf : ¬ sx0 < 10 → am_Ev d k_M_opensOn 63 [some (.ref 231), some (.int x1), some (.int x2), some (.int x3)] [] (fm_mk S) r) : am_Ev d k_M_opensOn 58 [some (.ref 231), some (.int x1), some (.int x2), some (.int x3)] [.int sx0] (fm_mk S) r := by
  refine fs_bipush (n := 10) (v := 10) (by decide +kernel) (by decide) ?_
  exact fs_iclt (off := 7) (tgt := 67) (by decide +kernel) (by decide) kt kf
theorem b_M_opensOn_63 {d : Nat} {x1 : Int32} {x2 : Int32} {x3 : Int32} {S : fm_S} {r : Option Value × am_W} (nx : am_Ev d k_M_opensOn 68 [some (.ref 231), some (.int x1), some (.int x2), some (.int x3)] [.int 1] (fm_mk S) r) : am_Ev d k_M_opensOn 63 [some (.ref 231), some (.int x1), some (.int x2), some (.int x3)] [] (fm_mk S) r := by
  refine fs_iconst (n := 1) (v := 1) (by decide +kernel) (by decide) ?_
  refine fs_goto (off := 4) (tgt := 68) (by decide +kernel) (by decide) ?_
  exact nx
theorem b_M_opensOn_67 {d : Nat} {x1 : Int32} {x2 : Int32} {x3 : Int32} {S : fm_S} {r : Option Value × am_W} (nx : am_Ev d k_M_opensOn 68 [some (.ref 231), some (.int x1), some (.int x2), some (.int x3)] [.int 0] (fm_mk S) r) : am_Ev d k_M_opensOn 67 [some (.ref 231), some (.int x1), some (.int x2), some (.int x3)] [] (fm_mk S) r := by
  refine fs_iconst (n := 0) (v := 0) (by decide +kernel) (by decide) ?_
  exact nx
theorem b_M_opensOn_68 {d : Nat} {x1 : Int32} {x2 : Int32} {x3 : Int32} {sx0 : Int32} {S : fm_S}  (hz : sx0 = 0 ∨ sx0 = 1) : am_Ev d k_M_opensOn 68 [some (.ref 231), some (.int x1), some (.int x2), some (.int x3)] [.int sx0] (fm_mk S) (some (.int sx0), fm_mk S) := by
  exact fe_retZ (by decide +kernel) (by decide +kernel) hz
-- KitchenSiegeModel.least()I
theorem b_M_least_0 {d : Nat} {o1 : Option Value} {o2 : Option Value} {o3 : Option Value} {o4 : Option Value} {o5 : Option Value} {o6 : Option Value} {o7 : Option Value} {S : fm_S} {r : Option Value × am_W} (nx : am_Ev d k_M_least 4 [some (.ref 231), some (.int 0), some (.int 0), o3, o4, o5, o6, o7] [] (fm_mk S) r) : am_Ev d k_M_least 0 [some (.ref 231), o1, o2, o3, o4, o5, o6, o7] [] (fm_mk S) r := by
  refine fs_iconst (n := 0) (v := 0) (by decide +kernel) (by decide) ?_
  refine fs_istoren (j := 1) (L' := [some (.ref 231), some (.int 0), o2, o3, o4, o5, o6, o7]) (by decide +kernel) (Nat.le_of_ble_eq_true rfl) rfl ?_
  refine fs_iconst (n := 0) (v := 0) (by decide +kernel) (by decide) ?_
  refine fs_istoren (j := 2) (L' := [some (.ref 231), some (.int 0), some (.int 0), o3, o4, o5, o6, o7]) (by decide +kernel) (Nat.le_of_ble_eq_true rfl) rfl ?_
  exact nx
theorem b_M_least_4 {d : Nat} {x1 : Int32} {x2 : Int32} {o3 : Option Value} {o4 : Option Value} {o5 : Option Value} {o6 : Option Value} {o7 : Option Value} {S : fm_S} {r : Option Value × am_W} (kt : (S.1 232 0) ≤ x2 → am_Ev d k_M_least 43 [some (.ref 231), some (.int x1), some (.int x2), o3, o4, o5, o6, o7] [] (fm_mk S) r) (kf : ¬ (S.1 232 0) ≤ x2 → am_Ev d k_M_least 14 [some (.ref 231), some (.int x1), some (.int x2), o3, o4, o5, o6, o7] [] (fm_mk S) r) : am_Ev d k_M_least 4 [some (.ref 231), some (.int x1), some (.int x2), o3, o4, o5, o6, o7] [] (fm_mk S) r := by
  refine fs_iloadn (j := 2) (by decide +kernel) rfl ?_
  refine fs_aloadn (j := 0) (by decide +kernel) rfl ?_
  refine fe_getR (idx := 7) (t := 8) (f := 0) (fk := 2) (fin := 1) (wp := 945) (x := 232) (by decide +kernel) (by decide +kernel) (by decide +kernel) (by decide +kernel) (by decide +kernel) ?_
  refine fs_iconst (n := 0) (v := 0) (by decide +kernel) (by decide) ?_
  refine fx_iald (n := 0) (len := 373) (by decide +kernel) (by decide +kernel) (by decide +kernel) (vp_c (by decide) (by decide)) (by decide) ?_
  exact fs_icge (off := 32) (tgt := 43) (by decide +kernel) (by decide) kt kf
theorem b_M_least_14 {d : Nat} {x1 : Int32} {x2 : Int32} {o3 : Option Value} {o4 : Option Value} {o5 : Option Value} {o6 : Option Value} {o7 : Option Value} {S : fm_S} {r : Option Value × am_W} (hi0 : vp_in (29 + x2) 373) (kt : ¬ (S.1 232 ((29 + x2).toNatClampNeg)) = (-1) → am_Ev d k_M_least 34 [some (.ref 231), some (.int x1), some (.int x2), o3, o4, o5, o6, o7] [.int x1] (fm_mk S) r) (kf : (S.1 232 ((29 + x2).toNatClampNeg)) = (-1) → am_Ev d k_M_least 28 [some (.ref 231), some (.int x1), some (.int x2), o3, o4, o5, o6, o7] [.int x1] (fm_mk S) r) : am_Ev d k_M_least 14 [some (.ref 231), some (.int x1), some (.int x2), o3, o4, o5, o6, o7] [] (fm_mk S) r := by
  refine fs_iloadn (j := 1) (by decide +kernel) rfl ?_
  refine fs_aloadn (j := 0) (by decide +kernel) rfl ?_
  refine fe_getR (idx := 7) (t := 8) (f := 0) (fk := 2) (fin := 1) (wp := 945) (x := 232) (by decide +kernel) (by decide +kernel) (by decide +kernel) (by decide +kernel) (by decide +kernel) ?_
  refine fs_bipush (n := 29) (v := 29) (by decide +kernel) (by decide) ?_
  refine fs_iloadn (j := 2) (by decide +kernel) rfl ?_
  refine fs_iadd (by decide +kernel) ?_
  refine fx_iald (n := (29 + x2).toNatClampNeg) (len := 373) (by decide +kernel) (by decide +kernel) (by decide +kernel) hi0 rfl ?_
  refine fs_iconst (n := -1) (v := (-1)) (by decide +kernel) (by decide) ?_
  exact fs_icne (off := 9) (tgt := 34) (by decide +kernel) (by decide) kt kf
theorem b_M_least_28 {d : Nat} {x1 : Int32} {x2 : Int32} {o3 : Option Value} {o4 : Option Value} {o5 : Option Value} {o6 : Option Value} {o7 : Option Value} {sx0 : Int32} {S : fm_S} {r : Option Value × am_W} (nx : am_Ev d k_M_least 35 [some (.ref 231), some (.int x1), some (.int x2), o3, o4, o5, o6, o7] [.int (1 <<< (x2 &&& 31)), .int sx0] (fm_mk S) r) : am_Ev d k_M_least 28 [some (.ref 231), some (.int x1), some (.int x2), o3, o4, o5, o6, o7] [.int sx0] (fm_mk S) r := by
  refine fs_iconst (n := 1) (v := 1) (by decide +kernel) (by decide) ?_
  refine fs_iloadn (j := 2) (by decide +kernel) rfl ?_
  refine fs_ishl (by decide +kernel) ?_
  refine fs_goto (off := 4) (tgt := 35) (by decide +kernel) (by decide) ?_
  exact nx
theorem b_M_least_34 {d : Nat} {x1 : Int32} {x2 : Int32} {o3 : Option Value} {o4 : Option Value} {o5 : Option Value} {o6 : Option Value} {o7 : Option Value} {sx0 : Int32} {S : fm_S} {r : Option Value × am_W} (nx : am_Ev d k_M_least 35 [some (.ref 231), some (.int x1), some (.int x2), o3, o4, o5, o6, o7] [.int 0, .int sx0] (fm_mk S) r) : am_Ev d k_M_least 34 [some (.ref 231), some (.int x1), some (.int x2), o3, o4, o5, o6, o7] [.int sx0] (fm_mk S) r := by
  refine fs_iconst (n := 0) (v := 0) (by decide +kernel) (by decide) ?_
  exact nx
theorem b_M_least_35 {d : Nat} {x1 : Int32} {x2 : Int32} {o3 : Option Value} {o4 : Option Value} {o5 : Option Value} {o6 : Option Value} {o7 : Option Value} {sx0 : Int32} {sx1 : Int32} {S : fm_S} {r : Option Value × am_W} (nx : am_Ev d k_M_least 4 [some (.ref 231), some (.int (sx0 ||| sx1)), some (.int (x2 + 1)), o3, o4, o5, o6, o7] [] (fm_mk S) r) : am_Ev d k_M_least 35 [some (.ref 231), some (.int x1), some (.int x2), o3, o4, o5, o6, o7] [.int sx1, .int sx0] (fm_mk S) r := by
  refine fs_ior (by decide +kernel) ?_
  refine fs_istoren (j := 1) (L' := [some (.ref 231), some (.int (sx0 ||| sx1)), some (.int x2), o3, o4, o5, o6, o7]) (by decide +kernel) (Nat.le_of_ble_eq_true rfl) rfl ?_
  refine fs_iinc (j := 2) (n := 1) (v := 1) (L' := [some (.ref 231), some (.int (sx0 ||| sx1)), some (.int (x2 + 1)), o3, o4, o5, o6, o7]) (by decide +kernel) rfl (Nat.le_of_ble_eq_true rfl) (by decide) rfl ?_
  refine fs_goto (off := -36) (tgt := 4) (by decide +kernel) (by decide) ?_
  exact nx
theorem b_M_least_43 {d : Nat} {x1 : Int32} {x2 : Int32} {o3 : Option Value} {o4 : Option Value} {o5 : Option Value} {o6 : Option Value} {o7 : Option Value} {S : fm_S} {r : Option Value × am_W} (nx : am_Ev d k_M_least 45 [some (.ref 231), some (.int x1), some (.int 0), o3, o4, o5, o6, o7] [] (fm_mk S) r) : am_Ev d k_M_least 43 [some (.ref 231), some (.int x1), some (.int x2), o3, o4, o5, o6, o7] [] (fm_mk S) r := by
  refine fs_iconst (n := 0) (v := 0) (by decide +kernel) (by decide) ?_
  refine fs_istoren (j := 2) (L' := [some (.ref 231), some (.int x1), some (.int 0), o3, o4, o5, o6, o7]) (by decide +kernel) (Nat.le_of_ble_eq_true rfl) rfl ?_
  exact nx
theorem b_M_least_45 {d : Nat} {x1 : Int32} {x2 : Int32} {o3 : Option Value} {o4 : Option Value} {o5 : Option Value} {o6 : Option Value} {o7 : Option Value} {S : fm_S} {r : Option Value × am_W} (kt : (S.1 232 1) ≤ x2 → am_Ev d k_M_least 112 [some (.ref 231), some (.int x1), some (.int x2), o3, o4, o5, o6, o7] [] (fm_mk S) r) (kf : ¬ (S.1 232 1) ≤ x2 → am_Ev d k_M_least 55 [some (.ref 231), some (.int x1), some (.int x2), o3, o4, o5, o6, o7] [] (fm_mk S) r) : am_Ev d k_M_least 45 [some (.ref 231), some (.int x1), some (.int x2), o3, o4, o5, o6, o7] [] (fm_mk S) r := by
  refine fs_iloadn (j := 2) (by decide +kernel) rfl ?_
  refine fs_aloadn (j := 0) (by decide +kernel) rfl ?_
  refine fe_getR (idx := 7) (t := 8) (f := 0) (fk := 2) (fin := 1) (wp := 945) (x := 232) (by decide +kernel) (by decide +kernel) (by decide +kernel) (by decide +kernel) (by decide +kernel) ?_
  refine fs_iconst (n := 1) (v := 1) (by decide +kernel) (by decide) ?_
  refine fx_iald (n := 1) (len := 373) (by decide +kernel) (by decide +kernel) (by decide +kernel) (vp_c (by decide) (by decide)) (by decide) ?_
  exact fs_icge (off := 60) (tgt := 112) (by decide +kernel) (by decide) kt kf
theorem b_M_least_55 {d : Nat} {x1 : Int32} {x2 : Int32} {o3 : Option Value} {o4 : Option Value} {o5 : Option Value} {o6 : Option Value} {o7 : Option Value} {S : fm_S} {r : Option Value × am_W} (hi0 : vp_in x2 6) (nx : am_Ev d k_M_least 64 [some (.ref 231), some (.int x1), some (.int x2), some (.int 0), o4, o5, o6, o7] [] (fm_mk (fm_wI S 241 x2.toNatClampNeg 0)) r) : am_Ev d k_M_least 55 [some (.ref 231), some (.int x1), some (.int x2), o3, o4, o5, o6, o7] [] (fm_mk S) r := by
  refine fs_aloadn (j := 0) (by decide +kernel) rfl ?_
  refine fe_getR (idx := 37) (t := 8) (f := 17) (fk := 2) (fin := 1) (wp := 962) (x := 241) (by decide +kernel) (by decide +kernel) (by decide +kernel) (by decide +kernel) (by decide +kernel) ?_
  refine fs_iloadn (j := 2) (by decide +kernel) rfl ?_
  refine fs_iconst (n := 0) (v := 0) (by decide +kernel) (by decide) ?_
  refine fx_iast (n := x2.toNatClampNeg) (len := 6) (by decide +kernel) (by decide +kernel) (by decide +kernel) hi0 rfl ?_
  refine fs_iconst (n := 0) (v := 0) (by decide +kernel) (by decide) ?_
  refine fs_istoren (j := 3) (L' := [some (.ref 231), some (.int x1), some (.int x2), some (.int 0), o4, o5, o6, o7]) (by decide +kernel) (Nat.le_of_ble_eq_true rfl) rfl ?_
  exact nx
theorem b_M_least_64 {d : Nat} {x1 : Int32} {x2 : Int32} {x3 : Int32} {o4 : Option Value} {o5 : Option Value} {o6 : Option Value} {o7 : Option Value} {S : fm_S} {r : Option Value × am_W} (kt : (S.1 232 0) ≤ x3 → am_Ev d k_M_least 106 [some (.ref 231), some (.int x1), some (.int x2), some (.int x3), o4, o5, o6, o7] [] (fm_mk S) r) (kf : ¬ (S.1 232 0) ≤ x3 → am_Ev d k_M_least 74 [some (.ref 231), some (.int x1), some (.int x2), some (.int x3), o4, o5, o6, o7] [] (fm_mk S) r) : am_Ev d k_M_least 64 [some (.ref 231), some (.int x1), some (.int x2), some (.int x3), o4, o5, o6, o7] [] (fm_mk S) r := by
  refine fs_iloadn (j := 3) (by decide +kernel) rfl ?_
  refine fs_aloadn (j := 0) (by decide +kernel) rfl ?_
  refine fe_getR (idx := 7) (t := 8) (f := 0) (fk := 2) (fin := 1) (wp := 945) (x := 232) (by decide +kernel) (by decide +kernel) (by decide +kernel) (by decide +kernel) (by decide +kernel) ?_
  refine fs_iconst (n := 0) (v := 0) (by decide +kernel) (by decide) ?_
  refine fx_iald (n := 0) (len := 373) (by decide +kernel) (by decide +kernel) (by decide +kernel) (vp_c (by decide) (by decide)) (by decide) ?_
  exact fs_icge (off := 35) (tgt := 106) (by decide +kernel) (by decide) kt kf
theorem b_M_least_74 {d : Nat} {x1 : Int32} {x2 : Int32} {x3 : Int32} {o4 : Option Value} {o5 : Option Value} {o6 : Option Value} {o7 : Option Value} {v : Int32} {S1 : fm_S} {S : fm_S} {r : Option Value × am_W} (hi0 : vp_in x2 6) (hc : am_Sp d k_M_opensIn [.ref 231, .int x2, .int x3, .int 4] (fm_mk S) (some (.int v)) (fm_mk S1)) (nx : am_Ev (d + 1) k_M_least 88 [some (.ref 231), some (.int x1), some (.int x2), some (.int x3), o4, o5, o6, o7] [.int v, .int (S.1 241 x2.toNatClampNeg), .int x2, .ref 241] (fm_mk S1) r) : am_Ev (d + 1) k_M_least 74 [some (.ref 231), some (.int x1), some (.int x2), some (.int x3), o4, o5, o6, o7] [] (fm_mk S) r := by
  refine fs_aloadn (j := 0) (by decide +kernel) rfl ?_
  refine fe_getR (idx := 37) (t := 8) (f := 17) (fk := 2) (fin := 1) (wp := 962) (x := 241) (by decide +kernel) (by decide +kernel) (by decide +kernel) (by decide +kernel) (by decide +kernel) ?_
  refine fs_iloadn (j := 2) (by decide +kernel) rfl ?_
  refine fs_dup2 (by decide +kernel) ⟨rfl, rfl⟩ ?_
  refine fx_iald (n := x2.toNatClampNeg) (len := 6) (by decide +kernel) (by decide +kernel) (by decide +kernel) hi0 rfl ?_
  refine fs_aloadn (j := 0) (by decide +kernel) rfl ?_
  refine fs_iloadn (j := 2) (by decide +kernel) rfl ?_
  refine fs_iloadn (j := 3) (by decide +kernel) rfl ?_
  refine fs_iconst (n := 4) (v := 4) (by decide +kernel) (by decide) ?_
  exact fe_callV (t := 8) (idx := 216) (n := 3) (wp := 1203) (q := (1205, 52)) (as := [.int x2, .int x3, .int 4]) (rs := [.int (S.1 241 x2.toNatClampNeg), .int x2, .ref 241]) (by decide +kernel) (by decide +kernel) (by decide +kernel) (by decide +kernel) rfl (Nat.le_of_ble_eq_true rfl) rfl hc nx
theorem b_M_least_88 {d : Nat} {x1 : Int32} {x2 : Int32} {x3 : Int32} {o4 : Option Value} {o5 : Option Value} {o6 : Option Value} {o7 : Option Value} {sx1 : Int32} {sx2 : Int32} {sx3 : Int32} {S : fm_S} {r : Option Value × am_W} (kt : sx3 = 0 → am_Ev d k_M_least 97 [some (.ref 231), some (.int x1), some (.int x2), some (.int x3), o4, o5, o6, o7] [.int sx2, .int sx1, .ref 241] (fm_mk S) r) (kf : ¬ sx3 = 0 → am_Ev d k_M_least 91 [some (.ref 231), some (.int x1), some (.int x2), some (.int x3), o4, o5, o6, o7] [.int sx2, .int sx1, .ref 241] (fm_mk S) r) : am_Ev d k_M_least 88 [some (.ref 231), some (.int x1), some (.int x2), some (.int x3), o4, o5, o6, o7] [.int sx3, .int sx2, .int sx1, .ref 241] (fm_mk S) r := by
  exact fs_ifeq (off := 9) (tgt := 97) (by decide +kernel) (by decide) kt kf
theorem b_M_least_91 {d : Nat} {x1 : Int32} {x2 : Int32} {x3 : Int32} {o4 : Option Value} {o5 : Option Value} {o6 : Option Value} {o7 : Option Value} {sx1 : Int32} {sx2 : Int32} {S : fm_S} {r : Option Value × am_W} (nx : am_Ev d k_M_least 98 [some (.ref 231), some (.int x1), some (.int x2), some (.int x3), o4, o5, o6, o7] [.int (1 <<< (x3 &&& 31)), .int sx2, .int sx1, .ref 241] (fm_mk S) r) : am_Ev d k_M_least 91 [some (.ref 231), some (.int x1), some (.int x2), some (.int x3), o4, o5, o6, o7] [.int sx2, .int sx1, .ref 241] (fm_mk S) r := by
  refine fs_iconst (n := 1) (v := 1) (by decide +kernel) (by decide) ?_
  refine fs_iloadn (j := 3) (by decide +kernel) rfl ?_
  refine fs_ishl (by decide +kernel) ?_
  refine fs_goto (off := 4) (tgt := 98) (by decide +kernel) (by decide) ?_
  exact nx
theorem b_M_least_97 {d : Nat} {x1 : Int32} {x2 : Int32} {x3 : Int32} {o4 : Option Value} {o5 : Option Value} {o6 : Option Value} {o7 : Option Value} {sx1 : Int32} {sx2 : Int32} {S : fm_S} {r : Option Value × am_W} (nx : am_Ev d k_M_least 98 [some (.ref 231), some (.int x1), some (.int x2), some (.int x3), o4, o5, o6, o7] [.int 0, .int sx2, .int sx1, .ref 241] (fm_mk S) r) : am_Ev d k_M_least 97 [some (.ref 231), some (.int x1), some (.int x2), some (.int x3), o4, o5, o6, o7] [.int sx2, .int sx1, .ref 241] (fm_mk S) r := by
  refine fs_iconst (n := 0) (v := 0) (by decide +kernel) (by decide) ?_
  exact nx
theorem b_M_least_98 {d : Nat} {x1 : Int32} {x2 : Int32} {x3 : Int32} {o4 : Option Value} {o5 : Option Value} {o6 : Option Value} {o7 : Option Value} {sx1 : Int32} {sx2 : Int32} {sx3 : Int32} {S : fm_S} {r : Option Value × am_W} (hi0 : vp_in sx1 6) (nx : am_Ev d k_M_least 64 [some (.ref 231), some (.int x1), some (.int x2), some (.int (x3 + 1)), o4, o5, o6, o7] [] (fm_mk (fm_wI S 241 sx1.toNatClampNeg (sx2 ||| sx3))) r) : am_Ev d k_M_least 98 [some (.ref 231), some (.int x1), some (.int x2), some (.int x3), o4, o5, o6, o7] [.int sx3, .int sx2, .int sx1, .ref 241] (fm_mk S) r := by
  refine fs_ior (by decide +kernel) ?_
  refine fx_iast (n := sx1.toNatClampNeg) (len := 6) (by decide +kernel) (by decide +kernel) (by decide +kernel) hi0 rfl ?_
  refine fs_iinc (j := 3) (n := 1) (v := 1) (L' := [some (.ref 231), some (.int x1), some (.int x2), some (.int (x3 + 1)), o4, o5, o6, o7]) (by decide +kernel) rfl (Nat.le_of_ble_eq_true rfl) (by decide) rfl ?_
  refine fs_goto (off := -39) (tgt := 64) (by decide +kernel) (by decide) ?_
  exact nx
theorem b_M_least_106 {d : Nat} {x1 : Int32} {x2 : Int32} {x3 : Int32} {o4 : Option Value} {o5 : Option Value} {o6 : Option Value} {o7 : Option Value} {S : fm_S} {r : Option Value × am_W} (nx : am_Ev d k_M_least 45 [some (.ref 231), some (.int x1), some (.int (x2 + 1)), some (.int x3), o4, o5, o6, o7] [] (fm_mk S) r) : am_Ev d k_M_least 106 [some (.ref 231), some (.int x1), some (.int x2), some (.int x3), o4, o5, o6, o7] [] (fm_mk S) r := by
  refine fs_iinc (j := 2) (n := 1) (v := 1) (L' := [some (.ref 231), some (.int x1), some (.int (x2 + 1)), some (.int x3), o4, o5, o6, o7]) (by decide +kernel) rfl (Nat.le_of_ble_eq_true rfl) (by decide) rfl ?_
  refine fs_goto (off := -64) (tgt := 45) (by decide +kernel) (by decide) ?_
  exact nx
theorem b_M_least_112 {d : Nat} {x1 : Int32} {x2 : Int32} {o3 : Option Value} {o4 : Option Value} {o5 : Option Value} {o6 : Option Value} {o7 : Option Value} {S : fm_S} {r : Option Value × am_W} (nx : am_Ev d k_M_least 119 [some (.ref 231), some (.int x1), some (.int (-1)), some (.int 0), some (.int 0), o5, o6, o7] [] (fm_mk S) r) : am_Ev d k_M_least 112 [some (.ref 231), some (.int x1), some (.int x2), o3, o4, o5, o6, o7] [] (fm_mk S) r := by
  refine fs_iconst (n := -1) (v := (-1)) (by decide +kernel) (by decide) ?_
  refine fs_istoren (j := 2) (L' := [some (.ref 231), some (.int x1), some (.int (-1)), o3, o4, o5, o6, o7]) (by decide +kernel) (Nat.le_of_ble_eq_true rfl) rfl ?_
  refine fs_iconst (n := 0) (v := 0) (by decide +kernel) (by decide) ?_
  refine fs_istoren (j := 3) (L' := [some (.ref 231), some (.int x1), some (.int (-1)), some (.int 0), o4, o5, o6, o7]) (by decide +kernel) (Nat.le_of_ble_eq_true rfl) rfl ?_
  refine fs_iconst (n := 0) (v := 0) (by decide +kernel) (by decide) ?_
  refine fs_istore (j := 4) (L' := [some (.ref 231), some (.int x1), some (.int (-1)), some (.int 0), some (.int 0), o5, o6, o7]) (by decide +kernel) (Nat.le_of_ble_eq_true rfl) rfl ?_
  exact nx
theorem b_M_least_119 {d : Nat} {x1 : Int32} {x2 : Int32} {x3 : Int32} {x4 : Int32} {o5 : Option Value} {o6 : Option Value} {o7 : Option Value} {S : fm_S} {r : Option Value × am_W} (kt : (1 <<< ((S.1 232 1) &&& 31)) ≤ x4 → am_Ev d k_M_least 275 [some (.ref 231), some (.int x1), some (.int x2), some (.int x3), some (.int x4), o5, o6, o7] [] (fm_mk S) r) (kf : ¬ (1 <<< ((S.1 232 1) &&& 31)) ≤ x4 → am_Ev d k_M_least 132 [some (.ref 231), some (.int x1), some (.int x2), some (.int x3), some (.int x4), o5, o6, o7] [] (fm_mk S) r) : am_Ev d k_M_least 119 [some (.ref 231), some (.int x1), some (.int x2), some (.int x3), some (.int x4), o5, o6, o7] [] (fm_mk S) r := by
  refine fs_iload (j := 4) (by decide +kernel) rfl ?_
  refine fs_iconst (n := 1) (v := 1) (by decide +kernel) (by decide) ?_
  refine fs_aloadn (j := 0) (by decide +kernel) rfl ?_
  refine fe_getR (idx := 7) (t := 8) (f := 0) (fk := 2) (fin := 1) (wp := 945) (x := 232) (by decide +kernel) (by decide +kernel) (by decide +kernel) (by decide +kernel) (by decide +kernel) ?_
  refine fs_iconst (n := 1) (v := 1) (by decide +kernel) (by decide) ?_
  refine fx_iald (n := 1) (len := 373) (by decide +kernel) (by decide +kernel) (by decide +kernel) (vp_c (by decide) (by decide)) (by decide) ?_
  refine fs_ishl (by decide +kernel) ?_
  exact fs_icge (off := 146) (tgt := 275) (by decide +kernel) (by decide) kt kf
theorem b_M_least_132 {d : Nat} {x1 : Int32} {x2 : Int32} {x3 : Int32} {x4 : Int32} {o5 : Option Value} {o6 : Option Value} {o7 : Option Value} {S : fm_S} {r : Option Value × am_W} (nx : am_Ev d k_M_least 141 [some (.ref 231), some (.int x1), some (.int x2), some (.int x3), some (.int x4), some (.int 0), some (.int 0), some (.int 0)] [] (fm_mk S) r) : am_Ev d k_M_least 132 [some (.ref 231), some (.int x1), some (.int x2), some (.int x3), some (.int x4), o5, o6, o7] [] (fm_mk S) r := by
  refine fs_iconst (n := 0) (v := 0) (by decide +kernel) (by decide) ?_
  refine fs_istore (j := 5) (L' := [some (.ref 231), some (.int x1), some (.int x2), some (.int x3), some (.int x4), some (.int 0), o6, o7]) (by decide +kernel) (Nat.le_of_ble_eq_true rfl) rfl ?_
  refine fs_iconst (n := 0) (v := 0) (by decide +kernel) (by decide) ?_
  refine fs_istore (j := 6) (L' := [some (.ref 231), some (.int x1), some (.int x2), some (.int x3), some (.int x4), some (.int 0), some (.int 0), o7]) (by decide +kernel) (Nat.le_of_ble_eq_true rfl) rfl ?_
  refine fs_iconst (n := 0) (v := 0) (by decide +kernel) (by decide) ?_
  refine fs_istore (j := 7) (L' := [some (.ref 231), some (.int x1), some (.int x2), some (.int x3), some (.int x4), some (.int 0), some (.int 0), some (.int 0)]) (by decide +kernel) (Nat.le_of_ble_eq_true rfl) rfl ?_
  exact nx
theorem b_M_least_141 {d : Nat} {x1 : Int32} {x2 : Int32} {x3 : Int32} {x4 : Int32} {x5 : Int32} {x6 : Int32} {x7 : Int32} {S : fm_S} {r : Option Value × am_W} (kt : (S.1 232 1) ≤ x7 → am_Ev d k_M_least 214 [some (.ref 231), some (.int x1), some (.int x2), some (.int x3), some (.int x4), some (.int x5), some (.int x6), some (.int x7)] [] (fm_mk S) r) (kf : ¬ (S.1 232 1) ≤ x7 → am_Ev d k_M_least 152 [some (.ref 231), some (.int x1), some (.int x2), some (.int x3), some (.int x4), some (.int x5), some (.int x6), some (.int x7)] [] (fm_mk S) r) : am_Ev d k_M_least 141 [some (.ref 231), some (.int x1), some (.int x2), some (.int x3), some (.int x4), some (.int x5), some (.int x6), some (.int x7)] [] (fm_mk S) r := by
  refine fs_iload (j := 7) (by decide +kernel) rfl ?_
  refine fs_aloadn (j := 0) (by decide +kernel) rfl ?_
  refine fe_getR (idx := 7) (t := 8) (f := 0) (fk := 2) (fin := 1) (wp := 945) (x := 232) (by decide +kernel) (by decide +kernel) (by decide +kernel) (by decide +kernel) (by decide +kernel) ?_
  refine fs_iconst (n := 1) (v := 1) (by decide +kernel) (by decide) ?_
  refine fx_iald (n := 1) (len := 373) (by decide +kernel) (by decide +kernel) (by decide +kernel) (vp_c (by decide) (by decide)) (by decide) ?_
  exact fs_icge (off := 65) (tgt := 214) (by decide +kernel) (by decide) kt kf
theorem b_M_least_152 {d : Nat} {x1 : Int32} {x2 : Int32} {x3 : Int32} {x4 : Int32} {x5 : Int32} {x6 : Int32} {x7 : Int32} {v : Int32} {S1 : fm_S} {S : fm_S} {r : Option Value × am_W} (hc : am_Sp d k_M_has [.int x4, .int x7] (fm_mk S) (some (.int v)) (fm_mk S1)) (nx : am_Ev (d + 1) k_M_least 161 [some (.ref 231), some (.int x1), some (.int x2), some (.int x3), some (.int x4), some (.int x5), some (.int x6), some (.int x7)] [.int v, .int x5] (fm_mk S1) r) : am_Ev (d + 1) k_M_least 152 [some (.ref 231), some (.int x1), some (.int x2), some (.int x3), some (.int x4), some (.int x5), some (.int x6), some (.int x7)] [] (fm_mk S) r := by
  refine fs_iload (j := 5) (by decide +kernel) rfl ?_
  refine fs_iload (j := 4) (by decide +kernel) rfl ?_
  refine fs_iload (j := 7) (by decide +kernel) rfl ?_
  exact fe_callS (idx := 190) (kd := 0) (n := 2) (wp := 1157) (q := (1158, 0)) (as := [.int x4, .int x7]) (rs := [.int x5]) (by decide +kernel) (by decide +kernel) (by decide +kernel) (by decide) rfl (Nat.le_of_ble_eq_true rfl) rfl hc nx
theorem b_M_least_161 {d : Nat} {x1 : Int32} {x2 : Int32} {x3 : Int32} {x4 : Int32} {x5 : Int32} {x6 : Int32} {x7 : Int32} {sx0 : Int32} {sx1 : Int32} {S : fm_S} {r : Option Value × am_W} (kt : sx1 = 0 → am_Ev d k_M_least 178 [some (.ref 231), some (.int x1), some (.int x2), some (.int x3), some (.int x4), some (.int x5), some (.int x6), some (.int x7)] [.int sx0] (fm_mk S) r) (kf : ¬ sx1 = 0 → am_Ev d k_M_least 164 [some (.ref 231), some (.int x1), some (.int x2), some (.int x3), some (.int x4), some (.int x5), some (.int x6), some (.int x7)] [.int sx0] (fm_mk S) r) : am_Ev d k_M_least 161 [some (.ref 231), some (.int x1), some (.int x2), some (.int x3), some (.int x4), some (.int x5), some (.int x6), some (.int x7)] [.int sx1, .int sx0] (fm_mk S) r := by
  exact fs_ifeq (off := 17) (tgt := 178) (by decide +kernel) (by decide) kt kf
theorem b_M_least_164 {d : Nat} {x1 : Int32} {x2 : Int32} {x3 : Int32} {x4 : Int32} {x5 : Int32} {x6 : Int32} {x7 : Int32} {sx0 : Int32} {S : fm_S} {r : Option Value × am_W} (hi0 : vp_in (137 + x7) 373) (nx : am_Ev d k_M_least 179 [some (.ref 231), some (.int x1), some (.int x2), some (.int x3), some (.int x4), some (.int x5), some (.int x6), some (.int x7)] [.int (S.1 232 ((137 + x7).toNatClampNeg)), .int sx0] (fm_mk S) r) : am_Ev d k_M_least 164 [some (.ref 231), some (.int x1), some (.int x2), some (.int x3), some (.int x4), some (.int x5), some (.int x6), some (.int x7)] [.int sx0] (fm_mk S) r := by
  refine fs_aloadn (j := 0) (by decide +kernel) rfl ?_
  refine fe_getR (idx := 7) (t := 8) (f := 0) (fk := 2) (fin := 1) (wp := 945) (x := 232) (by decide +kernel) (by decide +kernel) (by decide +kernel) (by decide +kernel) (by decide +kernel) ?_
  refine fs_sipush (n := 137) (v := 137) (by decide +kernel) (by decide) ?_
  refine fs_iload (j := 7) (by decide +kernel) rfl ?_
  refine fs_iadd (by decide +kernel) ?_
  refine fx_iald (n := (137 + x7).toNatClampNeg) (len := 373) (by decide +kernel) (by decide +kernel) (by decide +kernel) hi0 rfl ?_
  refine fs_goto (off := 4) (tgt := 179) (by decide +kernel) (by decide) ?_
  exact nx
theorem b_M_least_178 {d : Nat} {x1 : Int32} {x2 : Int32} {x3 : Int32} {x4 : Int32} {x5 : Int32} {x6 : Int32} {x7 : Int32} {sx0 : Int32} {S : fm_S} {r : Option Value × am_W} (nx : am_Ev d k_M_least 179 [some (.ref 231), some (.int x1), some (.int x2), some (.int x3), some (.int x4), some (.int x5), some (.int x6), some (.int x7)] [.int 0, .int sx0] (fm_mk S) r) : am_Ev d k_M_least 178 [some (.ref 231), some (.int x1), some (.int x2), some (.int x3), some (.int x4), some (.int x5), some (.int x6), some (.int x7)] [.int sx0] (fm_mk S) r := by
  refine fs_iconst (n := 0) (v := 0) (by decide +kernel) (by decide) ?_
  exact nx
theorem b_M_least_179 {d : Nat} {x1 : Int32} {x2 : Int32} {x3 : Int32} {x4 : Int32} {x5 : Int32} {x6 : Int32} {x7 : Int32} {sx0 : Int32} {sx1 : Int32} {v : Int32} {S1 : fm_S} {S : fm_S} {r : Option Value × am_W} (hc : am_Sp d k_M_has [.int x4, .int x7] (fm_mk S) (some (.int v)) (fm_mk S1)) (nx : am_Ev (d + 1) k_M_least 191 [some (.ref 231), some (.int x1), some (.int x2), some (.int x3), some (.int x4), some (.int (sx0 + sx1)), some (.int x6), some (.int x7)] [.int v, .int x6] (fm_mk S1) r) : am_Ev (d + 1) k_M_least 179 [some (.ref 231), some (.int x1), some (.int x2), some (.int x3), some (.int x4), some (.int x5), some (.int x6), some (.int x7)] [.int sx1, .int sx0] (fm_mk S) r := by
  refine fs_iadd (by decide +kernel) ?_
  refine fs_istore (j := 5) (L' := [some (.ref 231), some (.int x1), some (.int x2), some (.int x3), some (.int x4), some (.int (sx0 + sx1)), some (.int x6), some (.int x7)]) (by decide +kernel) (Nat.le_of_ble_eq_true rfl) rfl ?_
  refine fs_iload (j := 6) (by decide +kernel) rfl ?_
  refine fs_iload (j := 4) (by decide +kernel) rfl ?_
  refine fs_iload (j := 7) (by decide +kernel) rfl ?_
  exact fe_callS (idx := 190) (kd := 0) (n := 2) (wp := 1157) (q := (1158, 0)) (as := [.int x4, .int x7]) (rs := [.int x6]) (by decide +kernel) (by decide +kernel) (by decide +kernel) (by decide) rfl (Nat.le_of_ble_eq_true rfl) rfl hc nx
theorem b_M_least_191 {d : Nat} {x1 : Int32} {x2 : Int32} {x3 : Int32} {x4 : Int32} {x5 : Int32} {x6 : Int32} {x7 : Int32} {sx0 : Int32} {sx1 : Int32} {S : fm_S} {r : Option Value × am_W} (kt : sx1 = 0 → am_Ev d k_M_least 204 [some (.ref 231), some (.int x1), some (.int x2), some (.int x3), some (.int x4), some (.int x5), some (.int x6), some (.int x7)] [.int sx0] (fm_mk S) r) (kf : ¬ sx1 = 0 → am_Ev d k_M_least 194 [some (.ref 231), some (.int x1), some (.int x2), some (.int x3), some (.int x4), some (.int x5), some (.int x6), some (.int x7)] [.int sx0] (fm_mk S) r) : am_Ev d k_M_least 191 [some (.ref 231), some (.int x1), some (.int x2), some (.int x3), some (.int x4), some (.int x5), some (.int x6), some (.int x7)] [.int sx1, .int sx0] (fm_mk S) r := by
  exact fs_ifeq (off := 13) (tgt := 204) (by decide +kernel) (by decide) kt kf
theorem b_M_least_194 {d : Nat} {x1 : Int32} {x2 : Int32} {x3 : Int32} {x4 : Int32} {x5 : Int32} {x6 : Int32} {x7 : Int32} {sx0 : Int32} {S : fm_S} {r : Option Value × am_W} (hi0 : vp_in x7 6) (nx : am_Ev d k_M_least 205 [some (.ref 231), some (.int x1), some (.int x2), some (.int x3), some (.int x4), some (.int x5), some (.int x6), some (.int x7)] [.int (S.1 241 x7.toNatClampNeg), .int sx0] (fm_mk S) r) : am_Ev d k_M_least 194 [some (.ref 231), some (.int x1), some (.int x2), some (.int x3), some (.int x4), some (.int x5), some (.int x6), some (.int x7)] [.int sx0] (fm_mk S) r := by
  refine fs_aloadn (j := 0) (by decide +kernel) rfl ?_
  refine fe_getR (idx := 37) (t := 8) (f := 17) (fk := 2) (fin := 1) (wp := 962) (x := 241) (by decide +kernel) (by decide +kernel) (by decide +kernel) (by decide +kernel) (by decide +kernel) ?_
  refine fs_iload (j := 7) (by decide +kernel) rfl ?_
  refine fx_iald (n := x7.toNatClampNeg) (len := 6) (by decide +kernel) (by decide +kernel) (by decide +kernel) hi0 rfl ?_
  refine fs_goto (off := 4) (tgt := 205) (by decide +kernel) (by decide) ?_
  exact nx
theorem b_M_least_204 {d : Nat} {x1 : Int32} {x2 : Int32} {x3 : Int32} {x4 : Int32} {x5 : Int32} {x6 : Int32} {x7 : Int32} {sx0 : Int32} {S : fm_S} {r : Option Value × am_W} (nx : am_Ev d k_M_least 205 [some (.ref 231), some (.int x1), some (.int x2), some (.int x3), some (.int x4), some (.int x5), some (.int x6), some (.int x7)] [.int 0, .int sx0] (fm_mk S) r) : am_Ev d k_M_least 204 [some (.ref 231), some (.int x1), some (.int x2), some (.int x3), some (.int x4), some (.int x5), some (.int x6), some (.int x7)] [.int sx0] (fm_mk S) r := by
  refine fs_iconst (n := 0) (v := 0) (by decide +kernel) (by decide) ?_
  exact nx
theorem b_M_least_205 {d : Nat} {x1 : Int32} {x2 : Int32} {x3 : Int32} {x4 : Int32} {x5 : Int32} {x6 : Int32} {x7 : Int32} {sx0 : Int32} {sx1 : Int32} {S : fm_S} {r : Option Value × am_W} (nx : am_Ev d k_M_least 141 [some (.ref 231), some (.int x1), some (.int x2), some (.int x3), some (.int x4), some (.int x5), some (.int (sx0 ||| sx1)), some (.int (x7 + 1))] [] (fm_mk S) r) : am_Ev d k_M_least 205 [some (.ref 231), some (.int x1), some (.int x2), some (.int x3), some (.int x4), some (.int x5), some (.int x6), some (.int x7)] [.int sx1, .int sx0] (fm_mk S) r := by
  refine fs_ior (by decide +kernel) ?_
  refine fs_istore (j := 6) (L' := [some (.ref 231), some (.int x1), some (.int x2), some (.int x3), some (.int x4), some (.int x5), some (.int (sx0 ||| sx1)), some (.int x7)]) (by decide +kernel) (Nat.le_of_ble_eq_true rfl) rfl ?_
  refine fs_iinc (j := 7) (n := 1) (v := 1) (L' := [some (.ref 231), some (.int x1), some (.int x2), some (.int x3), some (.int x4), some (.int x5), some (.int (sx0 ||| sx1)), some (.int (x7 + 1))]) (by decide +kernel) rfl (Nat.le_of_ble_eq_true rfl) (by decide) rfl ?_
  refine fs_goto (off := -70) (tgt := 141) (by decide +kernel) (by decide) ?_
  exact nx
theorem b_M_least_214 {d : Nat} {x1 : Int32} {x2 : Int32} {x3 : Int32} {x4 : Int32} {x5 : Int32} {x6 : Int32} {x7 : Int32} {S : fm_S} {r : Option Value × am_W} (kt : x2 < 0 → am_Ev d k_M_least 242 [some (.ref 231), some (.int x1), some (.int x2), some (.int x3), some (.int x4), some (.int x5), some (.int x6), some (.int x7)] [] (fm_mk S) r) (kf : ¬ x2 < 0 → am_Ev d k_M_least 218 [some (.ref 231), some (.int x1), some (.int x2), some (.int x3), some (.int x4), some (.int x5), some (.int x6), some (.int x7)] [] (fm_mk S) r) : am_Ev d k_M_least 214 [some (.ref 231), some (.int x1), some (.int x2), some (.int x3), some (.int x4), some (.int x5), some (.int x6), some (.int x7)] [] (fm_mk S) r := by
  refine fs_iloadn (j := 2) (by decide +kernel) rfl ?_
  exact fs_iflt (off := 27) (tgt := 242) (by decide +kernel) (by decide) kt kf
theorem b_M_least_218 {d : Nat} {x1 : Int32} {x2 : Int32} {x3 : Int32} {x4 : Int32} {x5 : Int32} {x6 : Int32} {x7 : Int32} {S : fm_S} {r : Option Value × am_W} (kt : x5 < x3 → am_Ev d k_M_least 242 [some (.ref 231), some (.int x1), some (.int x2), some (.int x3), some (.int x4), some (.int x5), some (.int x6), some (.int x7)] [] (fm_mk S) r) (kf : ¬ x5 < x3 → am_Ev d k_M_least 224 [some (.ref 231), some (.int x1), some (.int x2), some (.int x3), some (.int x4), some (.int x5), some (.int x6), some (.int x7)] [] (fm_mk S) r) : am_Ev d k_M_least 218 [some (.ref 231), some (.int x1), some (.int x2), some (.int x3), some (.int x4), some (.int x5), some (.int x6), some (.int x7)] [] (fm_mk S) r := by
  refine fs_iload (j := 5) (by decide +kernel) rfl ?_
  refine fs_iloadn (j := 3) (by decide +kernel) rfl ?_
  exact fs_iclt (off := 21) (tgt := 242) (by decide +kernel) (by decide) kt kf
theorem b_M_least_224 {d : Nat} {x1 : Int32} {x2 : Int32} {x3 : Int32} {x4 : Int32} {x5 : Int32} {x6 : Int32} {x7 : Int32} {S : fm_S} {r : Option Value × am_W} (kt : ¬ x5 = x3 → am_Ev d k_M_least 246 [some (.ref 231), some (.int x1), some (.int x2), some (.int x3), some (.int x4), some (.int x5), some (.int x6), some (.int x7)] [] (fm_mk S) r) (kf : x5 = x3 → am_Ev d k_M_least 230 [some (.ref 231), some (.int x1), some (.int x2), some (.int x3), some (.int x4), some (.int x5), some (.int x6), some (.int x7)] [] (fm_mk S) r) : am_Ev d k_M_least 224 [some (.ref 231), some (.int x1), some (.int x2), some (.int x3), some (.int x4), some (.int x5), some (.int x6), some (.int x7)] [] (fm_mk S) r := by
  refine fs_iload (j := 5) (by decide +kernel) rfl ?_
  refine fs_iloadn (j := 3) (by decide +kernel) rfl ?_
  exact fs_icne (off := 19) (tgt := 246) (by decide +kernel) (by decide) kt kf
theorem b_M_least_230 {d : Nat} {x1 : Int32} {x2 : Int32} {x3 : Int32} {x4 : Int32} {x5 : Int32} {x6 : Int32} {x7 : Int32} {v : Int32} {S1 : fm_S} {S : fm_S} {r : Option Value × am_W} (hc : am_Sp d k_M_bits [.int x4] (fm_mk S) (some (.int v)) (fm_mk S1)) (nx : am_Ev (d + 1) k_M_least 235 [some (.ref 231), some (.int x1), some (.int x2), some (.int x3), some (.int x4), some (.int x5), some (.int x6), some (.int x7)] [.int v] (fm_mk S1) r) : am_Ev (d + 1) k_M_least 230 [some (.ref 231), some (.int x1), some (.int x2), some (.int x3), some (.int x4), some (.int x5), some (.int x6), some (.int x7)] [] (fm_mk S) r := by
  refine fs_iload (j := 4) (by decide +kernel) rfl ?_
  exact fe_callS (idx := 207) (kd := 0) (n := 1) (wp := 1196) (q := (1197, 0)) (as := [.int x4]) (rs := []) (by decide +kernel) (by decide +kernel) (by decide +kernel) (by decide) rfl (Nat.le_of_ble_eq_true rfl) rfl hc nx
theorem b_M_least_235 {d : Nat} {x1 : Int32} {x2 : Int32} {x3 : Int32} {x4 : Int32} {x5 : Int32} {x6 : Int32} {x7 : Int32} {sx0 : Int32} {v : Int32} {S1 : fm_S} {S : fm_S} {r : Option Value × am_W} (hc : am_Sp d k_M_bits [.int x2] (fm_mk S) (some (.int v)) (fm_mk S1)) (nx : am_Ev (d + 1) k_M_least 239 [some (.ref 231), some (.int x1), some (.int x2), some (.int x3), some (.int x4), some (.int x5), some (.int x6), some (.int x7)] [.int v, .int sx0] (fm_mk S1) r) : am_Ev (d + 1) k_M_least 235 [some (.ref 231), some (.int x1), some (.int x2), some (.int x3), some (.int x4), some (.int x5), some (.int x6), some (.int x7)] [.int sx0] (fm_mk S) r := by
  refine fs_iloadn (j := 2) (by decide +kernel) rfl ?_
  exact fe_callS (idx := 207) (kd := 0) (n := 1) (wp := 1196) (q := (1197, 0)) (as := [.int x2]) (rs := [.int sx0]) (by decide +kernel) (by decide +kernel) (by decide +kernel) (by decide) rfl (Nat.le_of_ble_eq_true rfl) rfl hc nx
theorem b_M_least_239 {d : Nat} {x1 : Int32} {x2 : Int32} {x3 : Int32} {x4 : Int32} {x5 : Int32} {x6 : Int32} {x7 : Int32} {sx0 : Int32} {sx1 : Int32} {S : fm_S} {r : Option Value × am_W} (kt : sx1 ≤ sx0 → am_Ev d k_M_least 246 [some (.ref 231), some (.int x1), some (.int x2), some (.int x3), some (.int x4), some (.int x5), some (.int x6), some (.int x7)] [] (fm_mk S) r) (kf : ¬ sx1 ≤ sx0 → am_Ev d k_M_least 242 [some (.ref 231), some (.int x1), some (.int x2), some (.int x3), some (.int x4), some (.int x5), some (.int x6), some (.int x7)] [] (fm_mk S) r) : am_Ev d k_M_least 239 [some (.ref 231), some (.int x1), some (.int x2), some (.int x3), some (.int x4), some (.int x5), some (.int x6), some (.int x7)] [.int sx1, .int sx0] (fm_mk S) r := by
  exact fs_icge (off := 7) (tgt := 246) (by decide +kernel) (by decide) kt kf
theorem b_M_least_242 {d : Nat} {x1 : Int32} {x2 : Int32} {x3 : Int32} {x4 : Int32} {x5 : Int32} {x6 : Int32} {x7 : Int32} {S : fm_S} {r : Option Value × am_W} (nx : am_Ev d k_M_least 247 [some (.ref 231), some (.int x1), some (.int x2), some (.int x3), some (.int x4), some (.int x5), some (.int x6), some (.int x7)] [.int 1] (fm_mk S) r) : am_Ev d k_M_least 242 [some (.ref 231), some (.int x1), some (.int x2), some (.int x3), some (.int x4), some (.int x5), some (.int x6), some (.int x7)] [] (fm_mk S) r := by
  refine fs_iconst (n := 1) (v := 1) (by decide +kernel) (by decide) ?_
  refine fs_goto (off := 4) (tgt := 247) (by decide +kernel) (by decide) ?_
  exact nx
theorem b_M_least_246 {d : Nat} {x1 : Int32} {x2 : Int32} {x3 : Int32} {x4 : Int32} {x5 : Int32} {x6 : Int32} {x7 : Int32} {S : fm_S} {r : Option Value × am_W} (nx : am_Ev d k_M_least 247 [some (.ref 231), some (.int x1), some (.int x2), some (.int x3), some (.int x4), some (.int x5), some (.int x6), some (.int x7)] [.int 0] (fm_mk S) r) : am_Ev d k_M_least 246 [some (.ref 231), some (.int x1), some (.int x2), some (.int x3), some (.int x4), some (.int x5), some (.int x6), some (.int x7)] [] (fm_mk S) r := by
  refine fs_iconst (n := 0) (v := 0) (by decide +kernel) (by decide) ?_
  exact nx
theorem b_M_least_247 {d : Nat} {x1 : Int32} {x2 : Int32} {x3 : Int32} {x4 : Int32} {x5 : Int32} {x6 : Int32} {x7 : Int32} {sx0 : Int32} {S : fm_S} {r : Option Value × am_W} (kt : ¬ (x1 &&& (x6 ^^^ (-1))) = 0 → am_Ev d k_M_least 269 [some (.ref 231), some (.int x1), some (.int x2), some (.int x3), some (.int x4), some (.int x5), some (.int x6), some (.int sx0)] [] (fm_mk S) r) (kf : (x1 &&& (x6 ^^^ (-1))) = 0 → am_Ev d k_M_least 258 [some (.ref 231), some (.int x1), some (.int x2), some (.int x3), some (.int x4), some (.int x5), some (.int x6), some (.int sx0)] [] (fm_mk S) r) : am_Ev d k_M_least 247 [some (.ref 231), some (.int x1), some (.int x2), some (.int x3), some (.int x4), some (.int x5), some (.int x6), some (.int x7)] [.int sx0] (fm_mk S) r := by
  refine fs_istore (j := 7) (L' := [some (.ref 231), some (.int x1), some (.int x2), some (.int x3), some (.int x4), some (.int x5), some (.int x6), some (.int sx0)]) (by decide +kernel) (Nat.le_of_ble_eq_true rfl) rfl ?_
  refine fs_iloadn (j := 1) (by decide +kernel) rfl ?_
  refine fs_iload (j := 6) (by decide +kernel) rfl ?_
  refine fs_iconst (n := -1) (v := (-1)) (by decide +kernel) (by decide) ?_
  refine fs_ixor (by decide +kernel) ?_
  refine fs_iand (by decide +kernel) ?_
  exact fs_ifne (off := 14) (tgt := 269) (by decide +kernel) (by decide) kt kf
theorem b_M_least_258 {d : Nat} {x1 : Int32} {x2 : Int32} {x3 : Int32} {x4 : Int32} {x5 : Int32} {x6 : Int32} {x7 : Int32} {S : fm_S} {r : Option Value × am_W} (kt : x7 = 0 → am_Ev d k_M_least 269 [some (.ref 231), some (.int x1), some (.int x2), some (.int x3), some (.int x4), some (.int x5), some (.int x6), some (.int x7)] [] (fm_mk S) r) (kf : ¬ x7 = 0 → am_Ev d k_M_least 263 [some (.ref 231), some (.int x1), some (.int x2), some (.int x3), some (.int x4), some (.int x5), some (.int x6), some (.int x7)] [] (fm_mk S) r) : am_Ev d k_M_least 258 [some (.ref 231), some (.int x1), some (.int x2), some (.int x3), some (.int x4), some (.int x5), some (.int x6), some (.int x7)] [] (fm_mk S) r := by
  refine fs_iload (j := 7) (by decide +kernel) rfl ?_
  exact fs_ifeq (off := 9) (tgt := 269) (by decide +kernel) (by decide) kt kf
theorem b_M_least_263 {d : Nat} {x1 : Int32} {x2 : Int32} {x3 : Int32} {x4 : Int32} {x5 : Int32} {x6 : Int32} {x7 : Int32} {S : fm_S} {r : Option Value × am_W} (nx : am_Ev d k_M_least 269 [some (.ref 231), some (.int x1), some (.int x4), some (.int x5), some (.int x4), some (.int x5), some (.int x6), some (.int x7)] [] (fm_mk S) r) : am_Ev d k_M_least 263 [some (.ref 231), some (.int x1), some (.int x2), some (.int x3), some (.int x4), some (.int x5), some (.int x6), some (.int x7)] [] (fm_mk S) r := by
  refine fs_iload (j := 4) (by decide +kernel) rfl ?_
  refine fs_istoren (j := 2) (L' := [some (.ref 231), some (.int x1), some (.int x4), some (.int x3), some (.int x4), some (.int x5), some (.int x6), some (.int x7)]) (by decide +kernel) (Nat.le_of_ble_eq_true rfl) rfl ?_
  refine fs_iload (j := 5) (by decide +kernel) rfl ?_
  refine fs_istoren (j := 3) (L' := [some (.ref 231), some (.int x1), some (.int x4), some (.int x5), some (.int x4), some (.int x5), some (.int x6), some (.int x7)]) (by decide +kernel) (Nat.le_of_ble_eq_true rfl) rfl ?_
  exact nx
theorem b_M_least_269 {d : Nat} {x1 : Int32} {x2 : Int32} {x3 : Int32} {x4 : Int32} {x5 : Int32} {x6 : Int32} {x7 : Int32} {S : fm_S} {r : Option Value × am_W} (nx : am_Ev d k_M_least 119 [some (.ref 231), some (.int x1), some (.int x2), some (.int x3), some (.int (x4 + 1)), some (.int x5), some (.int x6), some (.int x7)] [] (fm_mk S) r) : am_Ev d k_M_least 269 [some (.ref 231), some (.int x1), some (.int x2), some (.int x3), some (.int x4), some (.int x5), some (.int x6), some (.int x7)] [] (fm_mk S) r := by
  refine fs_iinc (j := 4) (n := 1) (v := 1) (L' := [some (.ref 231), some (.int x1), some (.int x2), some (.int x3), some (.int (x4 + 1)), some (.int x5), some (.int x6), some (.int x7)]) (by decide +kernel) rfl (Nat.le_of_ble_eq_true rfl) (by decide) rfl ?_
  refine fs_goto (off := -153) (tgt := 119) (by decide +kernel) (by decide) ?_
  exact nx
theorem b_M_least_275 {d : Nat} {x1 : Int32} {x2 : Int32} {x3 : Int32} {x4 : Int32} {o5 : Option Value} {o6 : Option Value} {o7 : Option Value} {S : fm_S}  : am_Ev d k_M_least 275 [some (.ref 231), some (.int x1), some (.int x2), some (.int x3), some (.int x4), o5, o6, o7] [] (fm_mk S) (some (.int x2), fm_mk S) := by
  refine fs_iloadn (j := 2) (by decide +kernel) rfl ?_
  exact fe_retI (by decide +kernel) (by decide +kernel)
-- KitchenSiegeModel.answer(III)I
theorem b_M_answer_0 {d : Nat} {x1 : Int32} {x2 : Int32} {x3 : Int32} {o4 : Option Value} {o5 : Option Value} {o6 : Option Value} {o7 : Option Value} {v : Int32} {S1 : fm_S} {S : fm_S} {r : Option Value × am_W} (hc : am_Sp d k_M_isDish [.ref 231, .int x1] (fm_mk S) (some (.int v)) (fm_mk S1)) (nx : am_Ev (d + 1) k_M_answer 5 [some (.ref 231), some (.int x1), some (.int x2), some (.int x3), o4, o5, o6, o7] [.int v] (fm_mk S1) r) : am_Ev (d + 1) k_M_answer 0 [some (.ref 231), some (.int x1), some (.int x2), some (.int x3), o4, o5, o6, o7] [] (fm_mk S) r := by
  refine fs_aloadn (j := 0) (by decide +kernel) rfl ?_
  refine fs_iloadn (j := 1) (by decide +kernel) rfl ?_
  exact fe_callV (t := 8) (idx := 172) (n := 1) (wp := 1127) (q := (1129, 43)) (as := [.int x1]) (rs := []) (by decide +kernel) (by decide +kernel) (by decide +kernel) (by decide +kernel) rfl (Nat.le_of_ble_eq_true rfl) rfl hc nx
theorem b_M_answer_5 {d : Nat} {x1 : Int32} {x2 : Int32} {x3 : Int32} {o4 : Option Value} {o5 : Option Value} {o6 : Option Value} {o7 : Option Value} {sx0 : Int32} {S : fm_S} {r : Option Value × am_W} (kt : sx0 = 0 → am_Ev d k_M_answer 30 [some (.ref 231), some (.int x1), some (.int x2), some (.int x3), o4, o5, o6, o7] [] (fm_mk S) r) (kf : ¬ sx0 = 0 → am_Ev d k_M_answer 8 [some (.ref 231), some (.int x1), some (.int x2), some (.int x3), o4, o5, o6, o7] [] (fm_mk S) r) : am_Ev d k_M_answer 5 [some (.ref 231), some (.int x1), some (.int x2), some (.int x3), o4, o5, o6, o7] [.int sx0] (fm_mk S) r := by
  exact fs_ifeq (off := 25) (tgt := 30) (by decide +kernel) (by decide) kt kf
theorem b_M_answer_8 {d : Nat} {x1 : Int32} {x2 : Int32} {x3 : Int32} {o4 : Option Value} {o5 : Option Value} {o6 : Option Value} {o7 : Option Value} {v : Int32} {S1 : fm_S} {S : fm_S} {r : Option Value × am_W} (hc : am_Sp d k_M_in [.long x2.toInt64, .long 0, .long 9] (fm_mk S) (some (.int v)) (fm_mk S1)) (nx : am_Ev (d + 1) k_M_answer 17 [some (.ref 231), some (.int x1), some (.int x2), some (.int x3), o4, o5, o6, o7] [.int v] (fm_mk S1) r) : am_Ev (d + 1) k_M_answer 8 [some (.ref 231), some (.int x1), some (.int x2), some (.int x3), o4, o5, o6, o7] [] (fm_mk S) r := by
  refine fs_iloadn (j := 2) (by decide +kernel) rfl ?_
  refine fs_i2l (by decide +kernel) ?_
  refine fs_lconst (n := 0) (v := 0) (by decide +kernel) (by decide) ?_
  refine fs_ldc2 (idx := 71) (q := 1019) (v := 9) (by decide +kernel) (by decide +kernel) ?_
  exact fe_callS (idx := 67) (kd := 0) (n := 3) (wp := 1016) (q := (1017, 0)) (as := [.long x2.toInt64, .long 0, .long 9]) (rs := []) (by decide +kernel) (by decide +kernel) (by decide +kernel) (by decide) rfl (Nat.le_of_ble_eq_true rfl) rfl hc nx
theorem b_M_answer_17 {d : Nat} {x1 : Int32} {x2 : Int32} {x3 : Int32} {o4 : Option Value} {o5 : Option Value} {o6 : Option Value} {o7 : Option Value} {sx0 : Int32} {S : fm_S} {r : Option Value × am_W} (kt : sx0 = 0 → am_Ev d k_M_answer 30 [some (.ref 231), some (.int x1), some (.int x2), some (.int x3), o4, o5, o6, o7] [] (fm_mk S) r) (kf : ¬ sx0 = 0 → am_Ev d k_M_answer 20 [some (.ref 231), some (.int x1), some (.int x2), some (.int x3), o4, o5, o6, o7] [] (fm_mk S) r) : am_Ev d k_M_answer 17 [some (.ref 231), some (.int x1), some (.int x2), some (.int x3), o4, o5, o6, o7] [.int sx0] (fm_mk S) r := by
  exact fs_ifeq (off := 13) (tgt := 30) (by decide +kernel) (by decide) kt kf
theorem b_M_answer_20 {d : Nat} {x1 : Int32} {x2 : Int32} {x3 : Int32} {o4 : Option Value} {o5 : Option Value} {o6 : Option Value} {o7 : Option Value} {v : Int32} {S1 : fm_S} {S : fm_S} {r : Option Value × am_W} (hc : am_Sp d k_M_in [.long x3.toInt64, .long 0, .long 1] (fm_mk S) (some (.int v)) (fm_mk S1)) (nx : am_Ev (d + 1) k_M_answer 27 [some (.ref 231), some (.int x1), some (.int x2), some (.int x3), o4, o5, o6, o7] [.int v] (fm_mk S1) r) : am_Ev (d + 1) k_M_answer 20 [some (.ref 231), some (.int x1), some (.int x2), some (.int x3), o4, o5, o6, o7] [] (fm_mk S) r := by
  refine fs_iloadn (j := 3) (by decide +kernel) rfl ?_
  refine fs_i2l (by decide +kernel) ?_
  refine fs_lconst (n := 0) (v := 0) (by decide +kernel) (by decide) ?_
  refine fs_lconst (n := 1) (v := 1) (by decide +kernel) (by decide) ?_
  exact fe_callS (idx := 67) (kd := 0) (n := 3) (wp := 1016) (q := (1017, 0)) (as := [.long x3.toInt64, .long 0, .long 1]) (rs := []) (by decide +kernel) (by decide +kernel) (by decide +kernel) (by decide) rfl (Nat.le_of_ble_eq_true rfl) rfl hc nx
theorem b_M_answer_27 {d : Nat} {x1 : Int32} {x2 : Int32} {x3 : Int32} {o4 : Option Value} {o5 : Option Value} {o6 : Option Value} {o7 : Option Value} {sx0 : Int32} {S : fm_S} {r : Option Value × am_W} (kt : ¬ sx0 = 0 → am_Ev d k_M_answer 35 [some (.ref 231), some (.int x1), some (.int x2), some (.int x3), o4, o5, o6, o7] [] (fm_mk S) r) (kf : sx0 = 0 → am_Ev d k_M_answer 30 [some (.ref 231), some (.int x1), some (.int x2), some (.int x3), o4, o5, o6, o7] [] (fm_mk S) r) : am_Ev d k_M_answer 27 [some (.ref 231), some (.int x1), some (.int x2), some (.int x3), o4, o5, o6, o7] [.int sx0] (fm_mk S) r := by
  exact fs_ifne (off := 8) (tgt := 35) (by decide +kernel) (by decide) kt kf
theorem b_M_answer_30 {d : Nat} {x1 : Int32} {x2 : Int32} {x3 : Int32} {o4 : Option Value} {o5 : Option Value} {o6 : Option Value} {o7 : Option Value} {v : Int32} {S1 : fm_S} {S : fm_S} {r : Option Value × am_W} (hc : am_Sp d k_M_bad [.ref 231] (fm_mk S) (some (.int v)) (fm_mk S1)) (nx : am_Ev (d + 1) k_M_answer 34 [some (.ref 231), some (.int x1), some (.int x2), some (.int x3), o4, o5, o6, o7] [.int v] (fm_mk S1) r) : am_Ev (d + 1) k_M_answer 30 [some (.ref 231), some (.int x1), some (.int x2), some (.int x3), o4, o5, o6, o7] [] (fm_mk S) r := by
  refine fs_aloadn (j := 0) (by decide +kernel) rfl ?_
  exact fe_callV (t := 8) (idx := 73) (n := 0) (wp := 1020) (q := (1022, 31)) (as := []) (rs := []) (by decide +kernel) (by decide +kernel) (by decide +kernel) (by decide +kernel) rfl (Nat.le_of_ble_eq_true rfl) rfl hc nx
theorem b_M_answer_34 {d : Nat} {x1 : Int32} {x2 : Int32} {x3 : Int32} {o4 : Option Value} {o5 : Option Value} {o6 : Option Value} {o7 : Option Value} {sx0 : Int32} {S : fm_S}  : am_Ev d k_M_answer 34 [some (.ref 231), some (.int x1), some (.int x2), some (.int x3), o4, o5, o6, o7] [.int sx0] (fm_mk S) (some (.int sx0), fm_mk S) := by
  exact fe_retI (by decide +kernel) (by decide +kernel)
theorem b_M_answer_35 {d : Nat} {x1 : Int32} {x2 : Int32} {x3 : Int32} {o4 : Option Value} {o5 : Option Value} {o6 : Option Value} {o7 : Option Value} {S : fm_S} {r : Option Value × am_W} (nx : am_Ev d k_M_answer 45 [some (.ref 231), some (.int x1), some (.int x2), some (.int x3), some (.int (-1)), some (.int 9), some (.int 0), o7] [] (fm_mk S) r) : am_Ev d k_M_answer 35 [some (.ref 231), some (.int x1), some (.int x2), some (.int x3), o4, o5, o6, o7] [] (fm_mk S) r := by
  refine fs_iconst (n := -1) (v := (-1)) (by decide +kernel) (by decide) ?_
  refine fs_istore (j := 4) (L' := [some (.ref 231), some (.int x1), some (.int x2), some (.int x3), some (.int (-1)), o5, o6, o7]) (by decide +kernel) (Nat.le_of_ble_eq_true rfl) rfl ?_
  refine fs_bipush (n := 9) (v := 9) (by decide +kernel) (by decide) ?_
  refine fs_istore (j := 5) (L' := [some (.ref 231), some (.int x1), some (.int x2), some (.int x3), some (.int (-1)), some (.int 9), o6, o7]) (by decide +kernel) (Nat.le_of_ble_eq_true rfl) rfl ?_
  refine fs_iconst (n := 0) (v := 0) (by decide +kernel) (by decide) ?_
  refine fs_istore (j := 6) (L' := [some (.ref 231), some (.int x1), some (.int x2), some (.int x3), some (.int (-1)), some (.int 9), some (.int 0), o7]) (by decide +kernel) (Nat.le_of_ble_eq_true rfl) rfl ?_
  exact nx
theorem b_M_answer_45 {d : Nat} {x1 : Int32} {x2 : Int32} {x3 : Int32} {x4 : Int32} {x5 : Int32} {x6 : Int32} {o7 : Option Value} {S : fm_S} {r : Option Value × am_W} (kt : (S.1 232 0) ≤ x6 → am_Ev d k_M_answer 104 [some (.ref 231), some (.int x1), some (.int x2), some (.int x3), some (.int x4), some (.int x5), some (.int x6), o7] [] (fm_mk S) r) (kf : ¬ (S.1 232 0) ≤ x6 → am_Ev d k_M_answer 56 [some (.ref 231), some (.int x1), some (.int x2), some (.int x3), some (.int x4), some (.int x5), some (.int x6), o7] [] (fm_mk S) r) : am_Ev d k_M_answer 45 [some (.ref 231), some (.int x1), some (.int x2), some (.int x3), some (.int x4), some (.int x5), some (.int x6), o7] [] (fm_mk S) r := by
  refine fs_iload (j := 6) (by decide +kernel) rfl ?_
  refine fs_aloadn (j := 0) (by decide +kernel) rfl ?_
  refine fe_getR (idx := 7) (t := 8) (f := 0) (fk := 2) (fin := 1) (wp := 945) (x := 232) (by decide +kernel) (by decide +kernel) (by decide +kernel) (by decide +kernel) (by decide +kernel) ?_
  refine fs_iconst (n := 0) (v := 0) (by decide +kernel) (by decide) ?_
  refine fx_iald (n := 0) (len := 373) (by decide +kernel) (by decide +kernel) (by decide +kernel) (vp_c (by decide) (by decide)) (by decide) ?_
  exact fs_icge (off := 51) (tgt := 104) (by decide +kernel) (by decide) kt kf
theorem b_M_answer_56 {d : Nat} {x1 : Int32} {x2 : Int32} {x3 : Int32} {x4 : Int32} {x5 : Int32} {x6 : Int32} {o7 : Option Value} {v : Int32} {S1 : fm_S} {S : fm_S} {r : Option Value × am_W} (hc : am_Sp d k_M_opening [.ref 231, .int x1, .int x6, .int x2] (fm_mk S) (some (.int v)) (fm_mk S1)) (nx : am_Ev (d + 1) k_M_answer 64 [some (.ref 231), some (.int x1), some (.int x2), some (.int x3), some (.int x4), some (.int x5), some (.int x6), o7] [.int v] (fm_mk S1) r) : am_Ev (d + 1) k_M_answer 56 [some (.ref 231), some (.int x1), some (.int x2), some (.int x3), some (.int x4), some (.int x5), some (.int x6), o7] [] (fm_mk S) r := by
  refine fs_aloadn (j := 0) (by decide +kernel) rfl ?_
  refine fs_iloadn (j := 1) (by decide +kernel) rfl ?_
  refine fs_iload (j := 6) (by decide +kernel) rfl ?_
  refine fs_iloadn (j := 2) (by decide +kernel) rfl ?_
  exact fe_callV (t := 8) (idx := 186) (n := 3) (wp := 1138) (q := (1140, 45)) (as := [.int x1, .int x6, .int x2]) (rs := []) (by decide +kernel) (by decide +kernel) (by decide +kernel) (by decide +kernel) rfl (Nat.le_of_ble_eq_true rfl) rfl hc nx
theorem b_M_answer_64 {d : Nat} {x1 : Int32} {x2 : Int32} {x3 : Int32} {x4 : Int32} {x5 : Int32} {x6 : Int32} {o7 : Option Value} {sx0 : Int32} {v : Int32} {S1 : fm_S} {S : fm_S} {r : Option Value × am_W} (hc : am_Sp d k_M_bits [.int sx0] (fm_mk S) (some (.int v)) (fm_mk S1)) (nx : am_Ev (d + 1) k_M_answer 67 [some (.ref 231), some (.int x1), some (.int x2), some (.int x3), some (.int x4), some (.int x5), some (.int x6), o7] [.int v] (fm_mk S1) r) : am_Ev (d + 1) k_M_answer 64 [some (.ref 231), some (.int x1), some (.int x2), some (.int x3), some (.int x4), some (.int x5), some (.int x6), o7] [.int sx0] (fm_mk S) r := by
  exact fe_callS (idx := 207) (kd := 0) (n := 1) (wp := 1196) (q := (1197, 0)) (as := [.int sx0]) (rs := []) (by decide +kernel) (by decide +kernel) (by decide +kernel) (by decide) rfl (Nat.le_of_ble_eq_true rfl) rfl hc nx
theorem b_M_answer_67 {d : Nat} {x1 : Int32} {x2 : Int32} {x3 : Int32} {x4 : Int32} {x5 : Int32} {x6 : Int32} {o7 : Option Value} {sx0 : Int32} {S : fm_S} {r : Option Value × am_W} (hi0 : vp_in (29 + x6) 373) (kt : ¬ (S.1 232 ((29 + x6).toNatClampNeg)) = (-1) → am_Ev d k_M_answer 98 [some (.ref 231), some (.int x1), some (.int x2), some (.int x3), some (.int x4), some (.int x5), some (.int x6), some (.int sx0)] [] (fm_mk S) r) (kf : (S.1 232 ((29 + x6).toNatClampNeg)) = (-1) → am_Ev d k_M_answer 83 [some (.ref 231), some (.int x1), some (.int x2), some (.int x3), some (.int x4), some (.int x5), some (.int x6), some (.int sx0)] [] (fm_mk S) r) : am_Ev d k_M_answer 67 [some (.ref 231), some (.int x1), some (.int x2), some (.int x3), some (.int x4), some (.int x5), some (.int x6), o7] [.int sx0] (fm_mk S) r := by
  refine fs_istore (j := 7) (L' := [some (.ref 231), some (.int x1), some (.int x2), some (.int x3), some (.int x4), some (.int x5), some (.int x6), some (.int sx0)]) (by decide +kernel) (Nat.le_of_ble_eq_true rfl) rfl ?_
  refine fs_aloadn (j := 0) (by decide +kernel) rfl ?_
  refine fe_getR (idx := 7) (t := 8) (f := 0) (fk := 2) (fin := 1) (wp := 945) (x := 232) (by decide +kernel) (by decide +kernel) (by decide +kernel) (by decide +kernel) (by decide +kernel) ?_
  refine fs_bipush (n := 29) (v := 29) (by decide +kernel) (by decide) ?_
  refine fs_iload (j := 6) (by decide +kernel) rfl ?_
  refine fs_iadd (by decide +kernel) ?_
  refine fx_iald (n := (29 + x6).toNatClampNeg) (len := 373) (by decide +kernel) (by decide +kernel) (by decide +kernel) hi0 rfl ?_
  refine fs_iconst (n := -1) (v := (-1)) (by decide +kernel) (by decide) ?_
  exact fs_icne (off := 18) (tgt := 98) (by decide +kernel) (by decide) kt kf
theorem b_M_answer_83 {d : Nat} {x1 : Int32} {x2 : Int32} {x3 : Int32} {x4 : Int32} {x5 : Int32} {x6 : Int32} {x7 : Int32} {S : fm_S} {r : Option Value × am_W} (kt : x5 ≤ x7 → am_Ev d k_M_answer 98 [some (.ref 231), some (.int x1), some (.int x2), some (.int x3), some (.int x4), some (.int x5), some (.int x6), some (.int x7)] [] (fm_mk S) r) (kf : ¬ x5 ≤ x7 → am_Ev d k_M_answer 90 [some (.ref 231), some (.int x1), some (.int x2), some (.int x3), some (.int x4), some (.int x5), some (.int x6), some (.int x7)] [] (fm_mk S) r) : am_Ev d k_M_answer 83 [some (.ref 231), some (.int x1), some (.int x2), some (.int x3), some (.int x4), some (.int x5), some (.int x6), some (.int x7)] [] (fm_mk S) r := by
  refine fs_iload (j := 7) (by decide +kernel) rfl ?_
  refine fs_iload (j := 5) (by decide +kernel) rfl ?_
  exact fs_icge (off := 11) (tgt := 98) (by decide +kernel) (by decide) kt kf
theorem b_M_answer_90 {d : Nat} {x1 : Int32} {x2 : Int32} {x3 : Int32} {x4 : Int32} {x5 : Int32} {x6 : Int32} {x7 : Int32} {S : fm_S} {r : Option Value × am_W} (nx : am_Ev d k_M_answer 98 [some (.ref 231), some (.int x1), some (.int x2), some (.int x3), some (.int x6), some (.int x7), some (.int x6), some (.int x7)] [] (fm_mk S) r) : am_Ev d k_M_answer 90 [some (.ref 231), some (.int x1), some (.int x2), some (.int x3), some (.int x4), some (.int x5), some (.int x6), some (.int x7)] [] (fm_mk S) r := by
  refine fs_iload (j := 6) (by decide +kernel) rfl ?_
  refine fs_istore (j := 4) (L' := [some (.ref 231), some (.int x1), some (.int x2), some (.int x3), some (.int x6), some (.int x5), some (.int x6), some (.int x7)]) (by decide +kernel) (Nat.le_of_ble_eq_true rfl) rfl ?_
  refine fs_iload (j := 7) (by decide +kernel) rfl ?_
  refine fs_istore (j := 5) (L' := [some (.ref 231), some (.int x1), some (.int x2), some (.int x3), some (.int x6), some (.int x7), some (.int x6), some (.int x7)]) (by decide +kernel) (Nat.le_of_ble_eq_true rfl) rfl ?_
  exact nx
theorem b_M_answer_98 {d : Nat} {x1 : Int32} {x2 : Int32} {x3 : Int32} {x4 : Int32} {x5 : Int32} {x6 : Int32} {x7 : Int32} {S : fm_S} {r : Option Value × am_W} (nx : am_Ev d k_M_answer 45 [some (.ref 231), some (.int x1), some (.int x2), some (.int x3), some (.int x4), some (.int x5), some (.int (x6 + 1)), some (.int x7)] [] (fm_mk S) r) : am_Ev d k_M_answer 98 [some (.ref 231), some (.int x1), some (.int x2), some (.int x3), some (.int x4), some (.int x5), some (.int x6), some (.int x7)] [] (fm_mk S) r := by
  refine fs_iinc (j := 6) (n := 1) (v := 1) (L' := [some (.ref 231), some (.int x1), some (.int x2), some (.int x3), some (.int x4), some (.int x5), some (.int (x6 + 1)), some (.int x7)]) (by decide +kernel) rfl (Nat.le_of_ble_eq_true rfl) (by decide) rfl ?_
  refine fs_goto (off := -56) (tgt := 45) (by decide +kernel) (by decide) ?_
  exact nx
theorem b_M_answer_104 {d : Nat} {x1 : Int32} {x2 : Int32} {x3 : Int32} {x4 : Int32} {x5 : Int32} {x6 : Int32} {o7 : Option Value} {S : fm_S} {r : Option Value × am_W} (kt : x4 < 0 → am_Ev d k_M_answer 113 [some (.ref 231), some (.int x1), some (.int x2), some (.int x3), some (.int x4), some (.int x5), some (.int x6), o7] [] (fm_mk S) r) (kf : ¬ x4 < 0 → am_Ev d k_M_answer 109 [some (.ref 231), some (.int x1), some (.int x2), some (.int x3), some (.int x4), some (.int x5), some (.int x6), o7] [] (fm_mk S) r) : am_Ev d k_M_answer 104 [some (.ref 231), some (.int x1), some (.int x2), some (.int x3), some (.int x4), some (.int x5), some (.int x6), o7] [] (fm_mk S) r := by
  refine fs_iload (j := 4) (by decide +kernel) rfl ?_
  exact fs_iflt (off := 7) (tgt := 113) (by decide +kernel) (by decide) kt kf
theorem b_M_answer_109 {d : Nat} {x1 : Int32} {x2 : Int32} {x3 : Int32} {x4 : Int32} {x5 : Int32} {x6 : Int32} {o7 : Option Value} {S : fm_S} {r : Option Value × am_W} (kt : ¬ x3 = 0 → am_Ev d k_M_answer 118 [some (.ref 231), some (.int x1), some (.int x2), some (.int x3), some (.int x4), some (.int x5), some (.int x6), o7] [] (fm_mk S) r) (kf : x3 = 0 → am_Ev d k_M_answer 113 [some (.ref 231), some (.int x1), some (.int x2), some (.int x3), some (.int x4), some (.int x5), some (.int x6), o7] [] (fm_mk S) r) : am_Ev d k_M_answer 109 [some (.ref 231), some (.int x1), some (.int x2), some (.int x3), some (.int x4), some (.int x5), some (.int x6), o7] [] (fm_mk S) r := by
  refine fs_iloadn (j := 3) (by decide +kernel) rfl ?_
  exact fs_ifne (off := 8) (tgt := 118) (by decide +kernel) (by decide) kt kf
theorem b_M_answer_113 {d : Nat} {x1 : Int32} {x2 : Int32} {x3 : Int32} {x4 : Int32} {x5 : Int32} {x6 : Int32} {o7 : Option Value} {S : fm_S} {r : Option Value × am_W} (nx : am_Ev d k_M_answer 120 [some (.ref 231), some (.int x1), some (.int x2), some (.int x3), some (.int x4), some (.int x5), some (.int x6), o7] [.int x4] (fm_mk S) r) : am_Ev d k_M_answer 113 [some (.ref 231), some (.int x1), some (.int x2), some (.int x3), some (.int x4), some (.int x5), some (.int x6), o7] [] (fm_mk S) r := by
  refine fs_iload (j := 4) (by decide +kernel) rfl ?_
  refine fs_goto (off := 5) (tgt := 120) (by decide +kernel) (by decide) ?_
  exact nx
theorem b_M_answer_118 {d : Nat} {x1 : Int32} {x2 : Int32} {x3 : Int32} {x4 : Int32} {x5 : Int32} {x6 : Int32} {o7 : Option Value} {S : fm_S} {r : Option Value × am_W} (nx : am_Ev d k_M_answer 120 [some (.ref 231), some (.int x1), some (.int x2), some (.int x3), some (.int x4), some (.int x5), some (.int x6), o7] [.int x5] (fm_mk S) r) : am_Ev d k_M_answer 118 [some (.ref 231), some (.int x1), some (.int x2), some (.int x3), some (.int x4), some (.int x5), some (.int x6), o7] [] (fm_mk S) r := by
  refine fs_iload (j := 5) (by decide +kernel) rfl ?_
  exact nx
theorem b_M_answer_120 {d : Nat} {x1 : Int32} {x2 : Int32} {x3 : Int32} {x4 : Int32} {x5 : Int32} {x6 : Int32} {o7 : Option Value} {sx0 : Int32} {S : fm_S}  : am_Ev d k_M_answer 120 [some (.ref 231), some (.int x1), some (.int x2), some (.int x3), some (.int x4), some (.int x5), some (.int x6), o7] [.int sx0] (fm_mk S) (some (.int sx0), fm_mk S) := by
  exact fe_retI (by decide +kernel) (by decide +kernel)
-- KitchenSiegeModel.game(I)I
theorem b_M_game_0 {d : Nat} {x1 : Int32} {o2 : Option Value} {o3 : Option Value} {o4 : Option Value} {o5 : Option Value} {o6 : Option Value} {v : Int32} {S1 : fm_S} {S : fm_S} {r : Option Value × am_W} (hc : am_Sp d k_M_in [.long x1.toInt64, .long 0, .long 9] (fm_mk S) (some (.int v)) (fm_mk S1)) (nx : am_Ev (d + 1) k_M_game 9 [some (.ref 231), some (.int x1), o2, o3, o4, o5, o6] [.int v] (fm_mk S1) r) : am_Ev (d + 1) k_M_game 0 [some (.ref 231), some (.int x1), o2, o3, o4, o5, o6] [] (fm_mk S) r := by
  refine fs_iloadn (j := 1) (by decide +kernel) rfl ?_
  refine fs_i2l (by decide +kernel) ?_
  refine fs_lconst (n := 0) (v := 0) (by decide +kernel) (by decide) ?_
  refine fs_ldc2 (idx := 71) (q := 1019) (v := 9) (by decide +kernel) (by decide +kernel) ?_
  exact fe_callS (idx := 67) (kd := 0) (n := 3) (wp := 1016) (q := (1017, 0)) (as := [.long x1.toInt64, .long 0, .long 9]) (rs := []) (by decide +kernel) (by decide +kernel) (by decide +kernel) (by decide) rfl (Nat.le_of_ble_eq_true rfl) rfl hc nx
theorem b_M_game_9 {d : Nat} {x1 : Int32} {o2 : Option Value} {o3 : Option Value} {o4 : Option Value} {o5 : Option Value} {o6 : Option Value} {sx0 : Int32} {S : fm_S} {r : Option Value × am_W} (kt : ¬ sx0 = 0 → am_Ev d k_M_game 17 [some (.ref 231), some (.int x1), o2, o3, o4, o5, o6] [] (fm_mk S) r) (kf : sx0 = 0 → am_Ev d k_M_game 12 [some (.ref 231), some (.int x1), o2, o3, o4, o5, o6] [] (fm_mk S) r) : am_Ev d k_M_game 9 [some (.ref 231), some (.int x1), o2, o3, o4, o5, o6] [.int sx0] (fm_mk S) r := by
  exact fs_ifne (off := 8) (tgt := 17) (by decide +kernel) (by decide) kt kf
theorem b_M_game_12 {d : Nat} {x1 : Int32} {o2 : Option Value} {o3 : Option Value} {o4 : Option Value} {o5 : Option Value} {o6 : Option Value} {v : Int32} {S1 : fm_S} {S : fm_S} {r : Option Value × am_W} (hc : am_Sp d k_M_bad [.ref 231] (fm_mk S) (some (.int v)) (fm_mk S1)) (nx : am_Ev (d + 1) k_M_game 16 [some (.ref 231), some (.int x1), o2, o3, o4, o5, o6] [.int v] (fm_mk S1) r) : am_Ev (d + 1) k_M_game 12 [some (.ref 231), some (.int x1), o2, o3, o4, o5, o6] [] (fm_mk S) r := by
  refine fs_aloadn (j := 0) (by decide +kernel) rfl ?_
  exact fe_callV (t := 8) (idx := 73) (n := 0) (wp := 1020) (q := (1022, 31)) (as := []) (rs := []) (by decide +kernel) (by decide +kernel) (by decide +kernel) (by decide +kernel) rfl (Nat.le_of_ble_eq_true rfl) rfl hc nx
theorem b_M_game_16 {d : Nat} {x1 : Int32} {o2 : Option Value} {o3 : Option Value} {o4 : Option Value} {o5 : Option Value} {o6 : Option Value} {sx0 : Int32} {S : fm_S}  : am_Ev d k_M_game 16 [some (.ref 231), some (.int x1), o2, o3, o4, o5, o6] [.int sx0] (fm_mk S) (some (.int sx0), fm_mk S) := by
  exact fe_retI (by decide +kernel) (by decide +kernel)
theorem b_M_game_17 {d : Nat} {x1 : Int32} {o2 : Option Value} {o3 : Option Value} {o4 : Option Value} {o5 : Option Value} {o6 : Option Value} {S : fm_S} {r : Option Value × am_W} (nx : am_Ev d k_M_game 19 [some (.ref 231), some (.int x1), some (.int 0), o3, o4, o5, o6] [] (fm_mk S) r) : am_Ev d k_M_game 17 [some (.ref 231), some (.int x1), o2, o3, o4, o5, o6] [] (fm_mk S) r := by
  refine fs_iconst (n := 0) (v := 0) (by decide +kernel) (by decide) ?_
  refine fs_istoren (j := 2) (L' := [some (.ref 231), some (.int x1), some (.int 0), o3, o4, o5, o6]) (by decide +kernel) (Nat.le_of_ble_eq_true rfl) rfl ?_
  exact nx
theorem b_M_game_19 {d : Nat} {x1 : Int32} {x2 : Int32} {o3 : Option Value} {o4 : Option Value} {o5 : Option Value} {o6 : Option Value} {S : fm_S} {r : Option Value × am_W} (kt : 63 ≤ x2 → am_Ev d k_M_game 87 [some (.ref 231), some (.int x1), some (.int x2), o3, o4, o5, o6] [] (fm_mk S) r) (kf : ¬ 63 ≤ x2 → am_Ev d k_M_game 25 [some (.ref 231), some (.int x1), some (.int x2), o3, o4, o5, o6] [] (fm_mk S) r) : am_Ev d k_M_game 19 [some (.ref 231), some (.int x1), some (.int x2), o3, o4, o5, o6] [] (fm_mk S) r := by
  refine fs_iloadn (j := 2) (by decide +kernel) rfl ?_
  refine fs_bipush (n := 63) (v := 63) (by decide +kernel) (by decide) ?_
  exact fs_icge (off := 65) (tgt := 87) (by decide +kernel) (by decide) kt kf
theorem b_M_game_25 {d : Nat} {x1 : Int32} {x2 : Int32} {o3 : Option Value} {o4 : Option Value} {o5 : Option Value} {o6 : Option Value} {S : fm_S} {r : Option Value × am_W} (kt : (S.1 232 1) ≤ (x2 / 9) → am_Ev d k_M_game 51 [some (.ref 231), some (.int x1), some (.int x2), o3, o4, o5, o6] [.ref 231, .int x2, .ref 242] (fm_mk S) r) (kf : ¬ (S.1 232 1) ≤ (x2 / 9) → am_Ev d k_M_game 44 [some (.ref 231), some (.int x1), some (.int x2), o3, o4, o5, o6] [.ref 231, .int x2, .ref 242] (fm_mk S) r) : am_Ev d k_M_game 25 [some (.ref 231), some (.int x1), some (.int x2), o3, o4, o5, o6] [] (fm_mk S) r := by
  refine fs_aloadn (j := 0) (by decide +kernel) rfl ?_
  refine fe_getR (idx := 40) (t := 8) (f := 18) (fk := 2) (fin := 1) (wp := 963) (x := 242) (by decide +kernel) (by decide +kernel) (by decide +kernel) (by decide +kernel) (by decide +kernel) ?_
  refine fs_iloadn (j := 2) (by decide +kernel) rfl ?_
  refine fs_aloadn (j := 0) (by decide +kernel) rfl ?_
  refine fs_iloadn (j := 2) (by decide +kernel) rfl ?_
  refine fs_bipush (n := 9) (v := 9) (by decide +kernel) (by decide) ?_
  refine fe_idiv (by decide +kernel) (by decide) ?_
  refine fs_aloadn (j := 0) (by decide +kernel) rfl ?_
  refine fe_getR (idx := 7) (t := 8) (f := 0) (fk := 2) (fin := 1) (wp := 945) (x := 232) (by decide +kernel) (by decide +kernel) (by decide +kernel) (by decide +kernel) (by decide +kernel) ?_
  refine fs_iconst (n := 1) (v := 1) (by decide +kernel) (by decide) ?_
  refine fx_iald (n := 1) (len := 373) (by decide +kernel) (by decide +kernel) (by decide +kernel) (vp_c (by decide) (by decide)) (by decide) ?_
  exact fs_icge (off := 10) (tgt := 51) (by decide +kernel) (by decide) kt kf
theorem b_M_game_44 {d : Nat} {x1 : Int32} {x2 : Int32} {o3 : Option Value} {o4 : Option Value} {o5 : Option Value} {o6 : Option Value} {sx1 : Int32} {S : fm_S} {r : Option Value × am_W} (nx : am_Ev d k_M_game 52 [some (.ref 231), some (.int x1), some (.int x2), o3, o4, o5, o6] [.int (x2 / 9), .ref 231, .int sx1, .ref 242] (fm_mk S) r) : am_Ev d k_M_game 44 [some (.ref 231), some (.int x1), some (.int x2), o3, o4, o5, o6] [.ref 231, .int sx1, .ref 242] (fm_mk S) r := by
  refine fs_iloadn (j := 2) (by decide +kernel) rfl ?_
  refine fs_bipush (n := 9) (v := 9) (by decide +kernel) (by decide) ?_
  refine fe_idiv (by decide +kernel) (by decide) ?_
  refine fs_goto (off := 4) (tgt := 52) (by decide +kernel) (by decide) ?_
  exact nx
theorem b_M_game_51 {d : Nat} {x1 : Int32} {x2 : Int32} {o3 : Option Value} {o4 : Option Value} {o5 : Option Value} {o6 : Option Value} {sx1 : Int32} {S : fm_S} {r : Option Value × am_W} (nx : am_Ev d k_M_game 52 [some (.ref 231), some (.int x1), some (.int x2), o3, o4, o5, o6] [.int (-1), .ref 231, .int sx1, .ref 242] (fm_mk S) r) : am_Ev d k_M_game 51 [some (.ref 231), some (.int x1), some (.int x2), o3, o4, o5, o6] [.ref 231, .int sx1, .ref 242] (fm_mk S) r := by
  refine fs_iconst (n := -1) (v := (-1)) (by decide +kernel) (by decide) ?_
  exact nx
theorem b_M_game_52 {d : Nat} {x1 : Int32} {x2 : Int32} {o3 : Option Value} {o4 : Option Value} {o5 : Option Value} {o6 : Option Value} {sx1 : Int32} {sx3 : Int32} {S : fm_S} {r : Option Value × am_W} (kt : (S.1 232 0) ≤ (x2 - x2 / 9 * 9) → am_Ev d k_M_game 72 [some (.ref 231), some (.int x1), some (.int x2), o3, o4, o5, o6] [.int sx3, .ref 231, .int sx1, .ref 242] (fm_mk S) r) (kf : ¬ (S.1 232 0) ≤ (x2 - x2 / 9 * 9) → am_Ev d k_M_game 65 [some (.ref 231), some (.int x1), some (.int x2), o3, o4, o5, o6] [.int sx3, .ref 231, .int sx1, .ref 242] (fm_mk S) r) : am_Ev d k_M_game 52 [some (.ref 231), some (.int x1), some (.int x2), o3, o4, o5, o6] [.int sx3, .ref 231, .int sx1, .ref 242] (fm_mk S) r := by
  refine fs_iloadn (j := 2) (by decide +kernel) rfl ?_
  refine fs_bipush (n := 9) (v := 9) (by decide +kernel) (by decide) ?_
  refine fe_irem (by decide +kernel) (by decide) ?_
  refine fs_aloadn (j := 0) (by decide +kernel) rfl ?_
  refine fe_getR (idx := 7) (t := 8) (f := 0) (fk := 2) (fin := 1) (wp := 945) (x := 232) (by decide +kernel) (by decide +kernel) (by decide +kernel) (by decide +kernel) (by decide +kernel) ?_
  refine fs_iconst (n := 0) (v := 0) (by decide +kernel) (by decide) ?_
  refine fx_iald (n := 0) (len := 373) (by decide +kernel) (by decide +kernel) (by decide +kernel) (vp_c (by decide) (by decide)) (by decide) ?_
  exact fs_icge (off := 10) (tgt := 72) (by decide +kernel) (by decide) kt kf
theorem b_M_game_65 {d : Nat} {x1 : Int32} {x2 : Int32} {o3 : Option Value} {o4 : Option Value} {o5 : Option Value} {o6 : Option Value} {sx1 : Int32} {sx3 : Int32} {S : fm_S} {r : Option Value × am_W} (nx : am_Ev d k_M_game 73 [some (.ref 231), some (.int x1), some (.int x2), o3, o4, o5, o6] [.int (x2 - x2 / 9 * 9), .int sx3, .ref 231, .int sx1, .ref 242] (fm_mk S) r) : am_Ev d k_M_game 65 [some (.ref 231), some (.int x1), some (.int x2), o3, o4, o5, o6] [.int sx3, .ref 231, .int sx1, .ref 242] (fm_mk S) r := by
  refine fs_iloadn (j := 2) (by decide +kernel) rfl ?_
  refine fs_bipush (n := 9) (v := 9) (by decide +kernel) (by decide) ?_
  refine fe_irem (by decide +kernel) (by decide) ?_
  refine fs_goto (off := 4) (tgt := 73) (by decide +kernel) (by decide) ?_
  exact nx
theorem b_M_game_72 {d : Nat} {x1 : Int32} {x2 : Int32} {o3 : Option Value} {o4 : Option Value} {o5 : Option Value} {o6 : Option Value} {sx1 : Int32} {sx3 : Int32} {S : fm_S} {r : Option Value × am_W} (nx : am_Ev d k_M_game 73 [some (.ref 231), some (.int x1), some (.int x2), o3, o4, o5, o6] [.int (-1), .int sx3, .ref 231, .int sx1, .ref 242] (fm_mk S) r) : am_Ev d k_M_game 72 [some (.ref 231), some (.int x1), some (.int x2), o3, o4, o5, o6] [.int sx3, .ref 231, .int sx1, .ref 242] (fm_mk S) r := by
  refine fs_iconst (n := -1) (v := (-1)) (by decide +kernel) (by decide) ?_
  exact nx
theorem b_M_game_73 {d : Nat} {x1 : Int32} {x2 : Int32} {o3 : Option Value} {o4 : Option Value} {o5 : Option Value} {o6 : Option Value} {sx1 : Int32} {sx3 : Int32} {sx4 : Int32} {v : Int32} {S1 : fm_S} {S : fm_S} {r : Option Value × am_W} (hc : am_Sp d k_M_opening [.ref 231, .int sx3, .int sx4, .int x1] (fm_mk S) (some (.int v)) (fm_mk S1)) (nx : am_Ev (d + 1) k_M_game 77 [some (.ref 231), some (.int x1), some (.int x2), o3, o4, o5, o6] [.int v, .int sx1, .ref 242] (fm_mk S1) r) : am_Ev (d + 1) k_M_game 73 [some (.ref 231), some (.int x1), some (.int x2), o3, o4, o5, o6] [.int sx4, .int sx3, .ref 231, .int sx1, .ref 242] (fm_mk S) r := by
  refine fs_iloadn (j := 1) (by decide +kernel) rfl ?_
  exact fe_callV (t := 8) (idx := 186) (n := 3) (wp := 1138) (q := (1140, 45)) (as := [.int sx3, .int sx4, .int x1]) (rs := [.int sx1, .ref 242]) (by decide +kernel) (by decide +kernel) (by decide +kernel) (by decide +kernel) rfl (Nat.le_of_ble_eq_true rfl) rfl hc nx
theorem b_M_game_77 {d : Nat} {x1 : Int32} {x2 : Int32} {o3 : Option Value} {o4 : Option Value} {o5 : Option Value} {o6 : Option Value} {sx1 : Int32} {sx2 : Int32} {v : Int32} {S1 : fm_S} {S : fm_S} {r : Option Value × am_W} (hc : am_Sp d k_M_bits [.int sx2] (fm_mk S) (some (.int v)) (fm_mk S1)) (nx : am_Ev (d + 1) k_M_game 80 [some (.ref 231), some (.int x1), some (.int x2), o3, o4, o5, o6] [.int v, .int sx1, .ref 242] (fm_mk S1) r) : am_Ev (d + 1) k_M_game 77 [some (.ref 231), some (.int x1), some (.int x2), o3, o4, o5, o6] [.int sx2, .int sx1, .ref 242] (fm_mk S) r := by
  exact fe_callS (idx := 207) (kd := 0) (n := 1) (wp := 1196) (q := (1197, 0)) (as := [.int sx2]) (rs := [.int sx1, .ref 242]) (by decide +kernel) (by decide +kernel) (by decide +kernel) (by decide) rfl (Nat.le_of_ble_eq_true rfl) rfl hc nx
theorem b_M_game_80 {d : Nat} {x1 : Int32} {x2 : Int32} {o3 : Option Value} {o4 : Option Value} {o5 : Option Value} {o6 : Option Value} {sx1 : Int32} {sx2 : Int32} {S : fm_S} {r : Option Value × am_W} (hi0 : vp_in sx1 63) (nx : am_Ev d k_M_game 19 [some (.ref 231), some (.int x1), some (.int (x2 + 1)), o3, o4, o5, o6] [] (fm_mk (fm_wI S 242 sx1.toNatClampNeg sx2)) r) : am_Ev d k_M_game 80 [some (.ref 231), some (.int x1), some (.int x2), o3, o4, o5, o6] [.int sx2, .int sx1, .ref 242] (fm_mk S) r := by
  refine fx_iast (n := sx1.toNatClampNeg) (len := 63) (by decide +kernel) (by decide +kernel) (by decide +kernel) hi0 rfl ?_
  refine fs_iinc (j := 2) (n := 1) (v := 1) (L' := [some (.ref 231), some (.int x1), some (.int (x2 + 1)), o3, o4, o5, o6]) (by decide +kernel) rfl (Nat.le_of_ble_eq_true rfl) (by decide) rfl ?_
  refine fs_goto (off := -65) (tgt := 19) (by decide +kernel) (by decide) ?_
  exact nx
theorem b_M_game_87 {d : Nat} {x1 : Int32} {x2 : Int32} {o3 : Option Value} {o4 : Option Value} {o5 : Option Value} {o6 : Option Value} {S : fm_S} {r : Option Value × am_W} (nx : am_Ev d k_M_game 91 [some (.ref 231), some (.int x1), some (.int 0), some (.int 0), o4, o5, o6] [] (fm_mk S) r) : am_Ev d k_M_game 87 [some (.ref 231), some (.int x1), some (.int x2), o3, o4, o5, o6] [] (fm_mk S) r := by
  refine fs_iconst (n := 0) (v := 0) (by decide +kernel) (by decide) ?_
  refine fs_istoren (j := 2) (L' := [some (.ref 231), some (.int x1), some (.int 0), o3, o4, o5, o6]) (by decide +kernel) (Nat.le_of_ble_eq_true rfl) rfl ?_
  refine fs_iconst (n := 0) (v := 0) (by decide +kernel) (by decide) ?_
  refine fs_istoren (j := 3) (L' := [some (.ref 231), some (.int x1), some (.int 0), some (.int 0), o4, o5, o6]) (by decide +kernel) (Nat.le_of_ble_eq_true rfl) rfl ?_
  exact nx
theorem b_M_game_91 {d : Nat} {x1 : Int32} {x2 : Int32} {x3 : Int32} {o4 : Option Value} {o5 : Option Value} {o6 : Option Value} {S : fm_S} {r : Option Value × am_W} (kt : (S.1 232 1) < x3 → am_Ev d k_M_game 262 [some (.ref 231), some (.int x1), some (.int x2), some (.int x3), o4, o5, o6] [] (fm_mk S) r) (kf : ¬ (S.1 232 1) < x3 → am_Ev d k_M_game 101 [some (.ref 231), some (.int x1), some (.int x2), some (.int x3), o4, o5, o6] [] (fm_mk S) r) : am_Ev d k_M_game 91 [some (.ref 231), some (.int x1), some (.int x2), some (.int x3), o4, o5, o6] [] (fm_mk S) r := by
  refine fs_iloadn (j := 3) (by decide +kernel) rfl ?_
  refine fs_aloadn (j := 0) (by decide +kernel) rfl ?_
  refine fe_getR (idx := 7) (t := 8) (f := 0) (fk := 2) (fin := 1) (wp := 945) (x := 232) (by decide +kernel) (by decide +kernel) (by decide +kernel) (by decide +kernel) (by decide +kernel) ?_
  refine fs_iconst (n := 1) (v := 1) (by decide +kernel) (by decide) ?_
  refine fx_iald (n := 1) (len := 373) (by decide +kernel) (by decide +kernel) (by decide +kernel) (vp_c (by decide) (by decide)) (by decide) ?_
  exact fs_icgt (off := 164) (tgt := 262) (by decide +kernel) (by decide) kt kf
theorem b_M_game_101 {d : Nat} {x1 : Int32} {x2 : Int32} {x3 : Int32} {o4 : Option Value} {o5 : Option Value} {o6 : Option Value} {S : fm_S} {r : Option Value × am_W} (nx : am_Ev d k_M_game 104 [some (.ref 231), some (.int x1), some (.int x2), some (.int x3), some (.int 0), o5, o6] [] (fm_mk S) r) : am_Ev d k_M_game 101 [some (.ref 231), some (.int x1), some (.int x2), some (.int x3), o4, o5, o6] [] (fm_mk S) r := by
  refine fs_iconst (n := 0) (v := 0) (by decide +kernel) (by decide) ?_
  refine fs_istore (j := 4) (L' := [some (.ref 231), some (.int x1), some (.int x2), some (.int x3), some (.int 0), o5, o6]) (by decide +kernel) (Nat.le_of_ble_eq_true rfl) rfl ?_
  exact nx
theorem b_M_game_104 {d : Nat} {x1 : Int32} {x2 : Int32} {x3 : Int32} {x4 : Int32} {o5 : Option Value} {o6 : Option Value} {S : fm_S} {r : Option Value × am_W} (kt : (S.1 232 0) < x4 → am_Ev d k_M_game 256 [some (.ref 231), some (.int x1), some (.int x2), some (.int x3), some (.int x4), o5, o6] [] (fm_mk S) r) (kf : ¬ (S.1 232 0) < x4 → am_Ev d k_M_game 115 [some (.ref 231), some (.int x1), some (.int x2), some (.int x3), some (.int x4), o5, o6] [] (fm_mk S) r) : am_Ev d k_M_game 104 [some (.ref 231), some (.int x1), some (.int x2), some (.int x3), some (.int x4), o5, o6] [] (fm_mk S) r := by
  refine fs_iload (j := 4) (by decide +kernel) rfl ?_
  refine fs_aloadn (j := 0) (by decide +kernel) rfl ?_
  refine fe_getR (idx := 7) (t := 8) (f := 0) (fk := 2) (fin := 1) (wp := 945) (x := 232) (by decide +kernel) (by decide +kernel) (by decide +kernel) (by decide +kernel) (by decide +kernel) ?_
  refine fs_iconst (n := 0) (v := 0) (by decide +kernel) (by decide) ?_
  refine fx_iald (n := 0) (len := 373) (by decide +kernel) (by decide +kernel) (by decide +kernel) (vp_c (by decide) (by decide)) (by decide) ?_
  exact fs_icgt (off := 144) (tgt := 256) (by decide +kernel) (by decide) kt kf
theorem b_M_game_115 {d : Nat} {x1 : Int32} {x2 : Int32} {x3 : Int32} {x4 : Int32} {o5 : Option Value} {o6 : Option Value} {S : fm_S} {r : Option Value × am_W} (nx : am_Ev d k_M_game 121 [some (.ref 231), some (.int x1), some (.int x2), some (.int x3), some (.int x4), some (.int 1), some (.int 0)] [] (fm_mk S) r) : am_Ev d k_M_game 115 [some (.ref 231), some (.int x1), some (.int x2), some (.int x3), some (.int x4), o5, o6] [] (fm_mk S) r := by
  refine fs_iconst (n := 1) (v := 1) (by decide +kernel) (by decide) ?_
  refine fs_istore (j := 5) (L' := [some (.ref 231), some (.int x1), some (.int x2), some (.int x3), some (.int x4), some (.int 1), o6]) (by decide +kernel) (Nat.le_of_ble_eq_true rfl) rfl ?_
  refine fs_iconst (n := 0) (v := 0) (by decide +kernel) (by decide) ?_
  refine fs_istore (j := 6) (L' := [some (.ref 231), some (.int x1), some (.int x2), some (.int x3), some (.int x4), some (.int 1), some (.int 0)]) (by decide +kernel) (Nat.le_of_ble_eq_true rfl) rfl ?_
  exact nx
theorem b_M_game_121 {d : Nat} {x1 : Int32} {x2 : Int32} {x3 : Int32} {x4 : Int32} {x5 : Int32} {x6 : Int32} {S : fm_S} {r : Option Value × am_W} (kt : (S.1 232 1) < x6 → am_Ev d k_M_game 178 [some (.ref 231), some (.int x1), some (.int x2), some (.int x3), some (.int x4), some (.int x5), some (.int x6)] [] (fm_mk S) r) (kf : ¬ (S.1 232 1) < x6 → am_Ev d k_M_game 132 [some (.ref 231), some (.int x1), some (.int x2), some (.int x3), some (.int x4), some (.int x5), some (.int x6)] [] (fm_mk S) r) : am_Ev d k_M_game 121 [some (.ref 231), some (.int x1), some (.int x2), some (.int x3), some (.int x4), some (.int x5), some (.int x6)] [] (fm_mk S) r := by
  refine fs_iload (j := 6) (by decide +kernel) rfl ?_
  refine fs_aloadn (j := 0) (by decide +kernel) rfl ?_
  refine fe_getR (idx := 7) (t := 8) (f := 0) (fk := 2) (fin := 1) (wp := 945) (x := 232) (by decide +kernel) (by decide +kernel) (by decide +kernel) (by decide +kernel) (by decide +kernel) ?_
  refine fs_iconst (n := 1) (v := 1) (by decide +kernel) (by decide) ?_
  refine fx_iald (n := 1) (len := 373) (by decide +kernel) (by decide +kernel) (by decide +kernel) (vp_c (by decide) (by decide)) (by decide) ?_
  exact fs_icgt (off := 49) (tgt := 178) (by decide +kernel) (by decide) kt kf
theorem b_M_game_132 {d : Nat} {x1 : Int32} {x2 : Int32} {x3 : Int32} {x4 : Int32} {x5 : Int32} {x6 : Int32} {S : fm_S} {r : Option Value × am_W} (kt : x5 = 0 → am_Ev d k_M_game 169 [some (.ref 231), some (.int x1), some (.int x2), some (.int x3), some (.int x4), some (.int x5), some (.int x6)] [] (fm_mk S) r) (kf : ¬ x5 = 0 → am_Ev d k_M_game 137 [some (.ref 231), some (.int x1), some (.int x2), some (.int x3), some (.int x4), some (.int x5), some (.int x6)] [] (fm_mk S) r) : am_Ev d k_M_game 132 [some (.ref 231), some (.int x1), some (.int x2), some (.int x3), some (.int x4), some (.int x5), some (.int x6)] [] (fm_mk S) r := by
  refine fs_iload (j := 5) (by decide +kernel) rfl ?_
  exact fs_ifeq (off := 35) (tgt := 169) (by decide +kernel) (by decide) kt kf
theorem b_M_game_137 {d : Nat} {x1 : Int32} {x2 : Int32} {x3 : Int32} {x4 : Int32} {x5 : Int32} {x6 : Int32} {S : fm_S} {r : Option Value × am_W} (hi0 : vp_in ((9 * x6) + x4) 63) (hi1 : vp_in ((9 * x3) + x4) 63) (kt : (S.1 242 (((9 * x3) + x4).toNatClampNeg)) < (S.1 242 (((9 * x6) + x4).toNatClampNeg)) → am_Ev d k_M_game 169 [some (.ref 231), some (.int x1), some (.int x2), some (.int x3), some (.int x4), some (.int x5), some (.int x6)] [] (fm_mk S) r) (kf : ¬ (S.1 242 (((9 * x3) + x4).toNatClampNeg)) < (S.1 242 (((9 * x6) + x4).toNatClampNeg)) → am_Ev d k_M_game 165 [some (.ref 231), some (.int x1), some (.int x2), some (.int x3), some (.int x4), some (.int x5), some (.int x6)] [] (fm_mk S) r) : am_Ev d k_M_game 137 [some (.ref 231), some (.int x1), some (.int x2), some (.int x3), some (.int x4), some (.int x5), some (.int x6)] [] (fm_mk S) r := by
  refine fs_aloadn (j := 0) (by decide +kernel) rfl ?_
  refine fe_getR (idx := 40) (t := 8) (f := 18) (fk := 2) (fin := 1) (wp := 963) (x := 242) (by decide +kernel) (by decide +kernel) (by decide +kernel) (by decide +kernel) (by decide +kernel) ?_
  refine fs_bipush (n := 9) (v := 9) (by decide +kernel) (by decide) ?_
  refine fs_iload (j := 6) (by decide +kernel) rfl ?_
  refine fs_imul (by decide +kernel) ?_
  refine fs_iload (j := 4) (by decide +kernel) rfl ?_
  refine fs_iadd (by decide +kernel) ?_
  refine fx_iald (n := ((9 * x6) + x4).toNatClampNeg) (len := 63) (by decide +kernel) (by decide +kernel) (by decide +kernel) hi0 rfl ?_
  refine fs_aloadn (j := 0) (by decide +kernel) rfl ?_
  refine fe_getR (idx := 40) (t := 8) (f := 18) (fk := 2) (fin := 1) (wp := 963) (x := 242) (by decide +kernel) (by decide +kernel) (by decide +kernel) (by decide +kernel) (by decide +kernel) ?_
  refine fs_bipush (n := 9) (v := 9) (by decide +kernel) (by decide) ?_
  refine fs_iloadn (j := 3) (by decide +kernel) rfl ?_
  refine fs_imul (by decide +kernel) ?_
  refine fs_iload (j := 4) (by decide +kernel) rfl ?_
  refine fs_iadd (by decide +kernel) ?_
  refine fx_iald (n := ((9 * x3) + x4).toNatClampNeg) (len := 63) (by decide +kernel) (by decide +kernel) (by decide +kernel) hi1 rfl ?_
  exact fs_icgt (off := 7) (tgt := 169) (by decide +kernel) (by decide) kt kf
theorem b_M_game_165 {d : Nat} {x1 : Int32} {x2 : Int32} {x3 : Int32} {x4 : Int32} {x5 : Int32} {x6 : Int32} {S : fm_S} {r : Option Value × am_W} (nx : am_Ev d k_M_game 170 [some (.ref 231), some (.int x1), some (.int x2), some (.int x3), some (.int x4), some (.int x5), some (.int x6)] [.int 1] (fm_mk S) r) : am_Ev d k_M_game 165 [some (.ref 231), some (.int x1), some (.int x2), some (.int x3), some (.int x4), some (.int x5), some (.int x6)] [] (fm_mk S) r := by
  refine fs_iconst (n := 1) (v := 1) (by decide +kernel) (by decide) ?_
  refine fs_goto (off := 4) (tgt := 170) (by decide +kernel) (by decide) ?_
  exact nx
theorem b_M_game_169 {d : Nat} {x1 : Int32} {x2 : Int32} {x3 : Int32} {x4 : Int32} {x5 : Int32} {x6 : Int32} {S : fm_S} {r : Option Value × am_W} (nx : am_Ev d k_M_game 170 [some (.ref 231), some (.int x1), some (.int x2), some (.int x3), some (.int x4), some (.int x5), some (.int x6)] [.int 0] (fm_mk S) r) : am_Ev d k_M_game 169 [some (.ref 231), some (.int x1), some (.int x2), some (.int x3), some (.int x4), some (.int x5), some (.int x6)] [] (fm_mk S) r := by
  refine fs_iconst (n := 0) (v := 0) (by decide +kernel) (by decide) ?_
  exact nx
theorem b_M_game_170 {d : Nat} {x1 : Int32} {x2 : Int32} {x3 : Int32} {x4 : Int32} {x5 : Int32} {x6 : Int32} {sx0 : Int32} {S : fm_S} {r : Option Value × am_W} (nx : am_Ev d k_M_game 121 [some (.ref 231), some (.int x1), some (.int x2), some (.int x3), some (.int x4), some (.int sx0), some (.int (x6 + 1))] [] (fm_mk S) r) : am_Ev d k_M_game 170 [some (.ref 231), some (.int x1), some (.int x2), some (.int x3), some (.int x4), some (.int x5), some (.int x6)] [.int sx0] (fm_mk S) r := by
  refine fs_istore (j := 5) (L' := [some (.ref 231), some (.int x1), some (.int x2), some (.int x3), some (.int x4), some (.int sx0), some (.int x6)]) (by decide +kernel) (Nat.le_of_ble_eq_true rfl) rfl ?_
  refine fs_iinc (j := 6) (n := 1) (v := 1) (L' := [some (.ref 231), some (.int x1), some (.int x2), some (.int x3), some (.int x4), some (.int sx0), some (.int (x6 + 1))]) (by decide +kernel) rfl (Nat.le_of_ble_eq_true rfl) (by decide) rfl ?_
  refine fs_goto (off := -54) (tgt := 121) (by decide +kernel) (by decide) ?_
  exact nx
theorem b_M_game_178 {d : Nat} {x1 : Int32} {x2 : Int32} {x3 : Int32} {x4 : Int32} {x5 : Int32} {x6 : Int32} {S : fm_S} {r : Option Value × am_W} (nx : am_Ev d k_M_game 181 [some (.ref 231), some (.int x1), some (.int x2), some (.int x3), some (.int x4), some (.int x5), some (.int 0)] [] (fm_mk S) r) : am_Ev d k_M_game 178 [some (.ref 231), some (.int x1), some (.int x2), some (.int x3), some (.int x4), some (.int x5), some (.int x6)] [] (fm_mk S) r := by
  refine fs_iconst (n := 0) (v := 0) (by decide +kernel) (by decide) ?_
  refine fs_istore (j := 6) (L' := [some (.ref 231), some (.int x1), some (.int x2), some (.int x3), some (.int x4), some (.int x5), some (.int 0)]) (by decide +kernel) (Nat.le_of_ble_eq_true rfl) rfl ?_
  exact nx
theorem b_M_game_181 {d : Nat} {x1 : Int32} {x2 : Int32} {x3 : Int32} {x4 : Int32} {x5 : Int32} {x6 : Int32} {S : fm_S} {r : Option Value × am_W} (kt : (S.1 232 0) < x6 → am_Ev d k_M_game 237 [some (.ref 231), some (.int x1), some (.int x2), some (.int x3), some (.int x4), some (.int x5), some (.int x6)] [] (fm_mk S) r) (kf : ¬ (S.1 232 0) < x6 → am_Ev d k_M_game 192 [some (.ref 231), some (.int x1), some (.int x2), some (.int x3), some (.int x4), some (.int x5), some (.int x6)] [] (fm_mk S) r) : am_Ev d k_M_game 181 [some (.ref 231), some (.int x1), some (.int x2), some (.int x3), some (.int x4), some (.int x5), some (.int x6)] [] (fm_mk S) r := by
  refine fs_iload (j := 6) (by decide +kernel) rfl ?_
  refine fs_aloadn (j := 0) (by decide +kernel) rfl ?_
  refine fe_getR (idx := 7) (t := 8) (f := 0) (fk := 2) (fin := 1) (wp := 945) (x := 232) (by decide +kernel) (by decide +kernel) (by decide +kernel) (by decide +kernel) (by decide +kernel) ?_
  refine fs_iconst (n := 0) (v := 0) (by decide +kernel) (by decide) ?_
  refine fx_iald (n := 0) (len := 373) (by decide +kernel) (by decide +kernel) (by decide +kernel) (vp_c (by decide) (by decide)) (by decide) ?_
  exact fs_icgt (off := 48) (tgt := 237) (by decide +kernel) (by decide) kt kf
theorem b_M_game_192 {d : Nat} {x1 : Int32} {x2 : Int32} {x3 : Int32} {x4 : Int32} {x5 : Int32} {x6 : Int32} {S : fm_S} {r : Option Value × am_W} (kt : x5 = 0 → am_Ev d k_M_game 228 [some (.ref 231), some (.int x1), some (.int x2), some (.int x3), some (.int x4), some (.int x5), some (.int x6)] [] (fm_mk S) r) (kf : ¬ x5 = 0 → am_Ev d k_M_game 197 [some (.ref 231), some (.int x1), some (.int x2), some (.int x3), some (.int x4), some (.int x5), some (.int x6)] [] (fm_mk S) r) : am_Ev d k_M_game 192 [some (.ref 231), some (.int x1), some (.int x2), some (.int x3), some (.int x4), some (.int x5), some (.int x6)] [] (fm_mk S) r := by
  refine fs_iload (j := 5) (by decide +kernel) rfl ?_
  exact fs_ifeq (off := 34) (tgt := 228) (by decide +kernel) (by decide) kt kf
theorem b_M_game_197 {d : Nat} {x1 : Int32} {x2 : Int32} {x3 : Int32} {x4 : Int32} {x5 : Int32} {x6 : Int32} {S : fm_S} {r : Option Value × am_W} (hi0 : vp_in ((9 * x3) + x6) 63) (hi1 : vp_in ((9 * x3) + x4) 63) (kt : (S.1 242 (((9 * x3) + x6).toNatClampNeg)) < (S.1 242 (((9 * x3) + x4).toNatClampNeg)) → am_Ev d k_M_game 228 [some (.ref 231), some (.int x1), some (.int x2), some (.int x3), some (.int x4), some (.int x5), some (.int x6)] [] (fm_mk S) r) (kf : ¬ (S.1 242 (((9 * x3) + x6).toNatClampNeg)) < (S.1 242 (((9 * x3) + x4).toNatClampNeg)) → am_Ev d k_M_game 224 [some (.ref 231), some (.int x1), some (.int x2), some (.int x3), some (.int x4), some (.int x5), some (.int x6)] [] (fm_mk S) r) : am_Ev d k_M_game 197 [some (.ref 231), some (.int x1), some (.int x2), some (.int x3), some (.int x4), some (.int x5), some (.int x6)] [] (fm_mk S) r := by
  refine fs_aloadn (j := 0) (by decide +kernel) rfl ?_
  refine fe_getR (idx := 40) (t := 8) (f := 18) (fk := 2) (fin := 1) (wp := 963) (x := 242) (by decide +kernel) (by decide +kernel) (by decide +kernel) (by decide +kernel) (by decide +kernel) ?_
  refine fs_bipush (n := 9) (v := 9) (by decide +kernel) (by decide) ?_
  refine fs_iloadn (j := 3) (by decide +kernel) rfl ?_
  refine fs_imul (by decide +kernel) ?_
  refine fs_iload (j := 6) (by decide +kernel) rfl ?_
  refine fs_iadd (by decide +kernel) ?_
  refine fx_iald (n := ((9 * x3) + x6).toNatClampNeg) (len := 63) (by decide +kernel) (by decide +kernel) (by decide +kernel) hi0 rfl ?_
  refine fs_aloadn (j := 0) (by decide +kernel) rfl ?_
  refine fe_getR (idx := 40) (t := 8) (f := 18) (fk := 2) (fin := 1) (wp := 963) (x := 242) (by decide +kernel) (by decide +kernel) (by decide +kernel) (by decide +kernel) (by decide +kernel) ?_
  refine fs_bipush (n := 9) (v := 9) (by decide +kernel) (by decide) ?_
  refine fs_iloadn (j := 3) (by decide +kernel) rfl ?_
  refine fs_imul (by decide +kernel) ?_
  refine fs_iload (j := 4) (by decide +kernel) rfl ?_
  refine fs_iadd (by decide +kernel) ?_
  refine fx_iald (n := ((9 * x3) + x4).toNatClampNeg) (len := 63) (by decide +kernel) (by decide +kernel) (by decide +kernel) hi1 rfl ?_
  exact fs_iclt (off := 7) (tgt := 228) (by decide +kernel) (by decide) kt kf
theorem b_M_game_224 {d : Nat} {x1 : Int32} {x2 : Int32} {x3 : Int32} {x4 : Int32} {x5 : Int32} {x6 : Int32} {S : fm_S} {r : Option Value × am_W} (nx : am_Ev d k_M_game 229 [some (.ref 231), some (.int x1), some (.int x2), some (.int x3), some (.int x4), some (.int x5), some (.int x6)] [.int 1] (fm_mk S) r) : am_Ev d k_M_game 224 [some (.ref 231), some (.int x1), some (.int x2), some (.int x3), some (.int x4), some (.int x5), some (.int x6)] [] (fm_mk S) r := by
  refine fs_iconst (n := 1) (v := 1) (by decide +kernel) (by decide) ?_
  refine fs_goto (off := 4) (tgt := 229) (by decide +kernel) (by decide) ?_
  exact nx
theorem b_M_game_228 {d : Nat} {x1 : Int32} {x2 : Int32} {x3 : Int32} {x4 : Int32} {x5 : Int32} {x6 : Int32} {S : fm_S} {r : Option Value × am_W} (nx : am_Ev d k_M_game 229 [some (.ref 231), some (.int x1), some (.int x2), some (.int x3), some (.int x4), some (.int x5), some (.int x6)] [.int 0] (fm_mk S) r) : am_Ev d k_M_game 228 [some (.ref 231), some (.int x1), some (.int x2), some (.int x3), some (.int x4), some (.int x5), some (.int x6)] [] (fm_mk S) r := by
  refine fs_iconst (n := 0) (v := 0) (by decide +kernel) (by decide) ?_
  exact nx
theorem b_M_game_229 {d : Nat} {x1 : Int32} {x2 : Int32} {x3 : Int32} {x4 : Int32} {x5 : Int32} {x6 : Int32} {sx0 : Int32} {S : fm_S} {r : Option Value × am_W} (nx : am_Ev d k_M_game 181 [some (.ref 231), some (.int x1), some (.int x2), some (.int x3), some (.int x4), some (.int sx0), some (.int (x6 + 1))] [] (fm_mk S) r) : am_Ev d k_M_game 229 [some (.ref 231), some (.int x1), some (.int x2), some (.int x3), some (.int x4), some (.int x5), some (.int x6)] [.int sx0] (fm_mk S) r := by
  refine fs_istore (j := 5) (L' := [some (.ref 231), some (.int x1), some (.int x2), some (.int x3), some (.int x4), some (.int sx0), some (.int x6)]) (by decide +kernel) (Nat.le_of_ble_eq_true rfl) rfl ?_
  refine fs_iinc (j := 6) (n := 1) (v := 1) (L' := [some (.ref 231), some (.int x1), some (.int x2), some (.int x3), some (.int x4), some (.int sx0), some (.int (x6 + 1))]) (by decide +kernel) rfl (Nat.le_of_ble_eq_true rfl) (by decide) rfl ?_
  refine fs_goto (off := -53) (tgt := 181) (by decide +kernel) (by decide) ?_
  exact nx
theorem b_M_game_237 {d : Nat} {x1 : Int32} {x2 : Int32} {x3 : Int32} {x4 : Int32} {x5 : Int32} {x6 : Int32} {S : fm_S} {r : Option Value × am_W} (kt : x5 = 0 → am_Ev d k_M_game 247 [some (.ref 231), some (.int x1), some (.int x2), some (.int x3), some (.int x4), some (.int x5), some (.int x6)] [.int x2] (fm_mk S) r) (kf : ¬ x5 = 0 → am_Ev d k_M_game 243 [some (.ref 231), some (.int x1), some (.int x2), some (.int x3), some (.int x4), some (.int x5), some (.int x6)] [.int x2] (fm_mk S) r) : am_Ev d k_M_game 237 [some (.ref 231), some (.int x1), some (.int x2), some (.int x3), some (.int x4), some (.int x5), some (.int x6)] [] (fm_mk S) r := by
  refine fs_iloadn (j := 2) (by decide +kernel) rfl ?_
  refine fs_iload (j := 5) (by decide +kernel) rfl ?_
  exact fs_ifeq (off := 7) (tgt := 247) (by decide +kernel) (by decide) kt kf
theorem b_M_game_243 {d : Nat} {x1 : Int32} {x2 : Int32} {x3 : Int32} {x4 : Int32} {x5 : Int32} {x6 : Int32} {sx0 : Int32} {S : fm_S} {r : Option Value × am_W} (nx : am_Ev d k_M_game 248 [some (.ref 231), some (.int x1), some (.int x2), some (.int x3), some (.int x4), some (.int x5), some (.int x6)] [.int 1, .int sx0] (fm_mk S) r) : am_Ev d k_M_game 243 [some (.ref 231), some (.int x1), some (.int x2), some (.int x3), some (.int x4), some (.int x5), some (.int x6)] [.int sx0] (fm_mk S) r := by
  refine fs_iconst (n := 1) (v := 1) (by decide +kernel) (by decide) ?_
  refine fs_goto (off := 4) (tgt := 248) (by decide +kernel) (by decide) ?_
  exact nx
theorem b_M_game_247 {d : Nat} {x1 : Int32} {x2 : Int32} {x3 : Int32} {x4 : Int32} {x5 : Int32} {x6 : Int32} {sx0 : Int32} {S : fm_S} {r : Option Value × am_W} (nx : am_Ev d k_M_game 248 [some (.ref 231), some (.int x1), some (.int x2), some (.int x3), some (.int x4), some (.int x5), some (.int x6)] [.int 0, .int sx0] (fm_mk S) r) : am_Ev d k_M_game 247 [some (.ref 231), some (.int x1), some (.int x2), some (.int x3), some (.int x4), some (.int x5), some (.int x6)] [.int sx0] (fm_mk S) r := by
  refine fs_iconst (n := 0) (v := 0) (by decide +kernel) (by decide) ?_
  exact nx
theorem b_M_game_248 {d : Nat} {x1 : Int32} {x2 : Int32} {x3 : Int32} {x4 : Int32} {x5 : Int32} {x6 : Int32} {sx0 : Int32} {sx1 : Int32} {S : fm_S} {r : Option Value × am_W} (nx : am_Ev d k_M_game 104 [some (.ref 231), some (.int x1), some (.int (sx0 + sx1)), some (.int x3), some (.int (x4 + 1)), some (.int x5), some (.int x6)] [] (fm_mk S) r) : am_Ev d k_M_game 248 [some (.ref 231), some (.int x1), some (.int x2), some (.int x3), some (.int x4), some (.int x5), some (.int x6)] [.int sx1, .int sx0] (fm_mk S) r := by
  refine fs_iadd (by decide +kernel) ?_
  refine fs_istoren (j := 2) (L' := [some (.ref 231), some (.int x1), some (.int (sx0 + sx1)), some (.int x3), some (.int x4), some (.int x5), some (.int x6)]) (by decide +kernel) (Nat.le_of_ble_eq_true rfl) rfl ?_
  refine fs_iinc (j := 4) (n := 1) (v := 1) (L' := [some (.ref 231), some (.int x1), some (.int (sx0 + sx1)), some (.int x3), some (.int (x4 + 1)), some (.int x5), some (.int x6)]) (by decide +kernel) rfl (Nat.le_of_ble_eq_true rfl) (by decide) rfl ?_
  refine fs_goto (off := -149) (tgt := 104) (by decide +kernel) (by decide) ?_
  exact nx
theorem b_M_game_256 {d : Nat} {x1 : Int32} {x2 : Int32} {x3 : Int32} {x4 : Int32} {o5 : Option Value} {o6 : Option Value} {S : fm_S} {r : Option Value × am_W} (nx : am_Ev d k_M_game 91 [some (.ref 231), some (.int x1), some (.int x2), some (.int (x3 + 1)), some (.int x4), o5, o6] [] (fm_mk S) r) : am_Ev d k_M_game 256 [some (.ref 231), some (.int x1), some (.int x2), some (.int x3), some (.int x4), o5, o6] [] (fm_mk S) r := by
  refine fs_iinc (j := 3) (n := 1) (v := 1) (L' := [some (.ref 231), some (.int x1), some (.int x2), some (.int (x3 + 1)), some (.int x4), o5, o6]) (by decide +kernel) rfl (Nat.le_of_ble_eq_true rfl) (by decide) rfl ?_
  refine fs_goto (off := -168) (tgt := 91) (by decide +kernel) (by decide) ?_
  exact nx
theorem b_M_game_262 {d : Nat} {x1 : Int32} {x2 : Int32} {x3 : Int32} {o4 : Option Value} {o5 : Option Value} {o6 : Option Value} {S : fm_S}  : am_Ev d k_M_game 262 [some (.ref 231), some (.int x1), some (.int x2), some (.int x3), o4, o5, o6] [] (fm_mk S) (some (.int x2), fm_mk S) := by
  refine fs_iloadn (j := 2) (by decide +kernel) rfl ?_
  exact fe_retI (by decide +kernel) (by decide +kernel)
-- KitchenSiegeModel.note(IIIII)I
theorem b_M_note_0 {d : Nat} {x1 : Int32} {x2 : Int32} {x3 : Int32} {x4 : Int32} {x5 : Int32} {o6 : Option Value} {v : Int32} {S1 : fm_S} {S : fm_S} {r : Option Value × am_W} (hc : am_Sp d k_M_isStreet [.ref 231, .int x1] (fm_mk S) (some (.int v)) (fm_mk S1)) (nx : am_Ev (d + 1) k_M_note 5 [some (.ref 231), some (.int x1), some (.int x2), some (.int x3), some (.int x4), some (.int x5), o6] [.int v] (fm_mk S1) r) : am_Ev (d + 1) k_M_note 0 [some (.ref 231), some (.int x1), some (.int x2), some (.int x3), some (.int x4), some (.int x5), o6] [] (fm_mk S) r := by
  refine fs_aloadn (j := 0) (by decide +kernel) rfl ?_
  refine fs_iloadn (j := 1) (by decide +kernel) rfl ?_
  exact fe_callV (t := 8) (idx := 84) (n := 1) (wp := 1035) (q := (1037, 33)) (as := [.int x1]) (rs := []) (by decide +kernel) (by decide +kernel) (by decide +kernel) (by decide +kernel) rfl (Nat.le_of_ble_eq_true rfl) rfl hc nx
theorem b_M_note_5 {d : Nat} {x1 : Int32} {x2 : Int32} {x3 : Int32} {x4 : Int32} {x5 : Int32} {o6 : Option Value} {sx0 : Int32} {S : fm_S} {r : Option Value × am_W} (kt : sx0 = 0 → am_Ev d k_M_note 56 [some (.ref 231), some (.int x1), some (.int x2), some (.int x3), some (.int x4), some (.int x5), o6] [] (fm_mk S) r) (kf : ¬ sx0 = 0 → am_Ev d k_M_note 8 [some (.ref 231), some (.int x1), some (.int x2), some (.int x3), some (.int x4), some (.int x5), o6] [] (fm_mk S) r) : am_Ev d k_M_note 5 [some (.ref 231), some (.int x1), some (.int x2), some (.int x3), some (.int x4), some (.int x5), o6] [.int sx0] (fm_mk S) r := by
  exact fs_ifeq (off := 51) (tgt := 56) (by decide +kernel) (by decide) kt kf
theorem b_M_note_8 {d : Nat} {x1 : Int32} {x2 : Int32} {x3 : Int32} {x4 : Int32} {x5 : Int32} {o6 : Option Value} {v : Int32} {S1 : fm_S} {S : fm_S} {r : Option Value × am_W} (hc : am_Sp d k_M_in [.long x2.toInt64, .long 0, .long 5] (fm_mk S) (some (.int v)) (fm_mk S1)) (nx : am_Ev (d + 1) k_M_note 17 [some (.ref 231), some (.int x1), some (.int x2), some (.int x3), some (.int x4), some (.int x5), o6] [.int v] (fm_mk S1) r) : am_Ev (d + 1) k_M_note 8 [some (.ref 231), some (.int x1), some (.int x2), some (.int x3), some (.int x4), some (.int x5), o6] [] (fm_mk S) r := by
  refine fs_iloadn (j := 2) (by decide +kernel) rfl ?_
  refine fs_i2l (by decide +kernel) ?_
  refine fs_lconst (n := 0) (v := 0) (by decide +kernel) (by decide) ?_
  refine fs_ldc2 (idx := 65) (q := 1015) (v := 5) (by decide +kernel) (by decide +kernel) ?_
  exact fe_callS (idx := 67) (kd := 0) (n := 3) (wp := 1016) (q := (1017, 0)) (as := [.long x2.toInt64, .long 0, .long 5]) (rs := []) (by decide +kernel) (by decide +kernel) (by decide +kernel) (by decide) rfl (Nat.le_of_ble_eq_true rfl) rfl hc nx
theorem b_M_note_17 {d : Nat} {x1 : Int32} {x2 : Int32} {x3 : Int32} {x4 : Int32} {x5 : Int32} {o6 : Option Value} {sx0 : Int32} {S : fm_S} {r : Option Value × am_W} (kt : sx0 = 0 → am_Ev d k_M_note 56 [some (.ref 231), some (.int x1), some (.int x2), some (.int x3), some (.int x4), some (.int x5), o6] [] (fm_mk S) r) (kf : ¬ sx0 = 0 → am_Ev d k_M_note 20 [some (.ref 231), some (.int x1), some (.int x2), some (.int x3), some (.int x4), some (.int x5), o6] [] (fm_mk S) r) : am_Ev d k_M_note 17 [some (.ref 231), some (.int x1), some (.int x2), some (.int x3), some (.int x4), some (.int x5), o6] [.int sx0] (fm_mk S) r := by
  exact fs_ifeq (off := 39) (tgt := 56) (by decide +kernel) (by decide) kt kf
theorem b_M_note_20 {d : Nat} {x1 : Int32} {x2 : Int32} {x3 : Int32} {x4 : Int32} {x5 : Int32} {o6 : Option Value} {v : Int32} {S1 : fm_S} {S : fm_S} {r : Option Value × am_W} (hc : am_Sp d k_M_in [.long x3.toInt64, .long 1, .long 60] (fm_mk S) (some (.int v)) (fm_mk S1)) (nx : am_Ev (d + 1) k_M_note 29 [some (.ref 231), some (.int x1), some (.int x2), some (.int x3), some (.int x4), some (.int x5), o6] [.int v] (fm_mk S1) r) : am_Ev (d + 1) k_M_note 20 [some (.ref 231), some (.int x1), some (.int x2), some (.int x3), some (.int x4), some (.int x5), o6] [] (fm_mk S) r := by
  refine fs_iloadn (j := 3) (by decide +kernel) rfl ?_
  refine fs_i2l (by decide +kernel) ?_
  refine fs_lconst (n := 1) (v := 1) (by decide +kernel) (by decide) ?_
  refine fs_ldc2 (idx := 219) (q := 1227) (v := 60) (by decide +kernel) (by decide +kernel) ?_
  exact fe_callS (idx := 67) (kd := 0) (n := 3) (wp := 1016) (q := (1017, 0)) (as := [.long x3.toInt64, .long 1, .long 60]) (rs := []) (by decide +kernel) (by decide +kernel) (by decide +kernel) (by decide) rfl (Nat.le_of_ble_eq_true rfl) rfl hc nx
theorem b_M_note_29 {d : Nat} {x1 : Int32} {x2 : Int32} {x3 : Int32} {x4 : Int32} {x5 : Int32} {o6 : Option Value} {sx0 : Int32} {S : fm_S} {r : Option Value × am_W} (kt : sx0 = 0 → am_Ev d k_M_note 56 [some (.ref 231), some (.int x1), some (.int x2), some (.int x3), some (.int x4), some (.int x5), o6] [] (fm_mk S) r) (kf : ¬ sx0 = 0 → am_Ev d k_M_note 32 [some (.ref 231), some (.int x1), some (.int x2), some (.int x3), some (.int x4), some (.int x5), o6] [] (fm_mk S) r) : am_Ev d k_M_note 29 [some (.ref 231), some (.int x1), some (.int x2), some (.int x3), some (.int x4), some (.int x5), o6] [.int sx0] (fm_mk S) r := by
  exact fs_ifeq (off := 27) (tgt := 56) (by decide +kernel) (by decide) kt kf
theorem b_M_note_32 {d : Nat} {x1 : Int32} {x2 : Int32} {x3 : Int32} {x4 : Int32} {x5 : Int32} {o6 : Option Value} {v : Int32} {S1 : fm_S} {S : fm_S} {r : Option Value × am_W} (hc : am_Sp d k_M_in [.long x4.toInt64, .long 0, .long 99] (fm_mk S) (some (.int v)) (fm_mk S1)) (nx : am_Ev (d + 1) k_M_note 42 [some (.ref 231), some (.int x1), some (.int x2), some (.int x3), some (.int x4), some (.int x5), o6] [.int v] (fm_mk S1) r) : am_Ev (d + 1) k_M_note 32 [some (.ref 231), some (.int x1), some (.int x2), some (.int x3), some (.int x4), some (.int x5), o6] [] (fm_mk S) r := by
  refine fs_iload (j := 4) (by decide +kernel) rfl ?_
  refine fs_i2l (by decide +kernel) ?_
  refine fs_lconst (n := 0) (v := 0) (by decide +kernel) (by decide) ?_
  refine fs_ldc2 (idx := 221) (q := 1228) (v := 99) (by decide +kernel) (by decide +kernel) ?_
  exact fe_callS (idx := 67) (kd := 0) (n := 3) (wp := 1016) (q := (1017, 0)) (as := [.long x4.toInt64, .long 0, .long 99]) (rs := []) (by decide +kernel) (by decide +kernel) (by decide +kernel) (by decide) rfl (Nat.le_of_ble_eq_true rfl) rfl hc nx
theorem b_M_note_42 {d : Nat} {x1 : Int32} {x2 : Int32} {x3 : Int32} {x4 : Int32} {x5 : Int32} {o6 : Option Value} {sx0 : Int32} {S : fm_S} {r : Option Value × am_W} (kt : sx0 = 0 → am_Ev d k_M_note 56 [some (.ref 231), some (.int x1), some (.int x2), some (.int x3), some (.int x4), some (.int x5), o6] [] (fm_mk S) r) (kf : ¬ sx0 = 0 → am_Ev d k_M_note 45 [some (.ref 231), some (.int x1), some (.int x2), some (.int x3), some (.int x4), some (.int x5), o6] [] (fm_mk S) r) : am_Ev d k_M_note 42 [some (.ref 231), some (.int x1), some (.int x2), some (.int x3), some (.int x4), some (.int x5), o6] [.int sx0] (fm_mk S) r := by
  exact fs_ifeq (off := 14) (tgt := 56) (by decide +kernel) (by decide) kt kf
theorem b_M_note_45 {d : Nat} {x1 : Int32} {x2 : Int32} {x3 : Int32} {x4 : Int32} {x5 : Int32} {o6 : Option Value} {v : Int32} {S1 : fm_S} {S : fm_S} {r : Option Value × am_W} (hc : am_Sp d k_M_in [.long x5.toInt64, .long 0, .long 1] (fm_mk S) (some (.int v)) (fm_mk S1)) (nx : am_Ev (d + 1) k_M_note 53 [some (.ref 231), some (.int x1), some (.int x2), some (.int x3), some (.int x4), some (.int x5), o6] [.int v] (fm_mk S1) r) : am_Ev (d + 1) k_M_note 45 [some (.ref 231), some (.int x1), some (.int x2), some (.int x3), some (.int x4), some (.int x5), o6] [] (fm_mk S) r := by
  refine fs_iload (j := 5) (by decide +kernel) rfl ?_
  refine fs_i2l (by decide +kernel) ?_
  refine fs_lconst (n := 0) (v := 0) (by decide +kernel) (by decide) ?_
  refine fs_lconst (n := 1) (v := 1) (by decide +kernel) (by decide) ?_
  exact fe_callS (idx := 67) (kd := 0) (n := 3) (wp := 1016) (q := (1017, 0)) (as := [.long x5.toInt64, .long 0, .long 1]) (rs := []) (by decide +kernel) (by decide +kernel) (by decide +kernel) (by decide) rfl (Nat.le_of_ble_eq_true rfl) rfl hc nx
theorem b_M_note_53 {d : Nat} {x1 : Int32} {x2 : Int32} {x3 : Int32} {x4 : Int32} {x5 : Int32} {o6 : Option Value} {sx0 : Int32} {S : fm_S} {r : Option Value × am_W} (kt : ¬ sx0 = 0 → am_Ev d k_M_note 61 [some (.ref 231), some (.int x1), some (.int x2), some (.int x3), some (.int x4), some (.int x5), o6] [] (fm_mk S) r) (kf : sx0 = 0 → am_Ev d k_M_note 56 [some (.ref 231), some (.int x1), some (.int x2), some (.int x3), some (.int x4), some (.int x5), o6] [] (fm_mk S) r) : am_Ev d k_M_note 53 [some (.ref 231), some (.int x1), some (.int x2), some (.int x3), some (.int x4), some (.int x5), o6] [.int sx0] (fm_mk S) r := by
  exact fs_ifne (off := 8) (tgt := 61) (by decide +kernel) (by decide) kt kf
theorem b_M_note_56 {d : Nat} {x1 : Int32} {x2 : Int32} {x3 : Int32} {x4 : Int32} {x5 : Int32} {o6 : Option Value} {v : Int32} {S1 : fm_S} {S : fm_S} {r : Option Value × am_W} (hc : am_Sp d k_M_bad [.ref 231] (fm_mk S) (some (.int v)) (fm_mk S1)) (nx : am_Ev (d + 1) k_M_note 60 [some (.ref 231), some (.int x1), some (.int x2), some (.int x3), some (.int x4), some (.int x5), o6] [.int v] (fm_mk S1) r) : am_Ev (d + 1) k_M_note 56 [some (.ref 231), some (.int x1), some (.int x2), some (.int x3), some (.int x4), some (.int x5), o6] [] (fm_mk S) r := by
  refine fs_aloadn (j := 0) (by decide +kernel) rfl ?_
  exact fe_callV (t := 8) (idx := 73) (n := 0) (wp := 1020) (q := (1022, 31)) (as := []) (rs := []) (by decide +kernel) (by decide +kernel) (by decide +kernel) (by decide +kernel) rfl (Nat.le_of_ble_eq_true rfl) rfl hc nx
theorem b_M_note_60 {d : Nat} {x1 : Int32} {x2 : Int32} {x3 : Int32} {x4 : Int32} {x5 : Int32} {o6 : Option Value} {sx0 : Int32} {S : fm_S}  : am_Ev d k_M_note 60 [some (.ref 231), some (.int x1), some (.int x2), some (.int x3), some (.int x4), some (.int x5), o6] [.int sx0] (fm_mk S) (some (.int sx0), fm_mk S) := by
  exact fe_retI (by decide +kernel) (by decide +kernel)
theorem b_M_note_61 {d : Nat} {x1 : Int32} {x2 : Int32} {x3 : Int32} {x4 : Int32} {x5 : Int32} {o6 : Option Value} {S : fm_S} {r : Option Value × am_W} (kt : ¬ (S.1 232 2) = 6 → am_Ev d k_M_note 77 [some (.ref 231), some (.int x1), some (.int x2), some (.int x3), some (.int x4), some (.int x5), o6] [] (fm_mk S) r) (kf : (S.1 232 2) = 6 → am_Ev d k_M_note 72 [some (.ref 231), some (.int x1), some (.int x2), some (.int x3), some (.int x4), some (.int x5), o6] [] (fm_mk S) r) : am_Ev d k_M_note 61 [some (.ref 231), some (.int x1), some (.int x2), some (.int x3), some (.int x4), some (.int x5), o6] [] (fm_mk S) r := by
  refine fs_aloadn (j := 0) (by decide +kernel) rfl ?_
  refine fe_getR (idx := 7) (t := 8) (f := 0) (fk := 2) (fin := 1) (wp := 945) (x := 232) (by decide +kernel) (by decide +kernel) (by decide +kernel) (by decide +kernel) (by decide +kernel) ?_
  refine fs_iconst (n := 2) (v := 2) (by decide +kernel) (by decide) ?_
  refine fx_iald (n := 2) (len := 373) (by decide +kernel) (by decide +kernel) (by decide +kernel) (vp_c (by decide) (by decide)) (by decide) ?_
  refine fs_bipush (n := 6) (v := 6) (by decide +kernel) (by decide) ?_
  exact fs_icne (off := 8) (tgt := 77) (by decide +kernel) (by decide) kt kf
theorem b_M_note_72 {d : Nat} {x1 : Int32} {x2 : Int32} {x3 : Int32} {x4 : Int32} {x5 : Int32} {o6 : Option Value} {v : Int32} {S1 : fm_S} {S : fm_S} {r : Option Value × am_W} (hc : am_Sp d k_M_full [.ref 231] (fm_mk S) (some (.int v)) (fm_mk S1)) (nx : am_Ev (d + 1) k_M_note 76 [some (.ref 231), some (.int x1), some (.int x2), some (.int x3), some (.int x4), some (.int x5), o6] [.int v] (fm_mk S1) r) : am_Ev (d + 1) k_M_note 72 [some (.ref 231), some (.int x1), some (.int x2), some (.int x3), some (.int x4), some (.int x5), o6] [] (fm_mk S) r := by
  refine fs_aloadn (j := 0) (by decide +kernel) rfl ?_
  exact fe_callV (t := 8) (idx := 77) (n := 0) (wp := 1024) (q := (1026, 32)) (as := []) (rs := []) (by decide +kernel) (by decide +kernel) (by decide +kernel) (by decide +kernel) rfl (Nat.le_of_ble_eq_true rfl) rfl hc nx
theorem b_M_note_76 {d : Nat} {x1 : Int32} {x2 : Int32} {x3 : Int32} {x4 : Int32} {x5 : Int32} {o6 : Option Value} {sx0 : Int32} {S : fm_S}  : am_Ev d k_M_note 76 [some (.ref 231), some (.int x1), some (.int x2), some (.int x3), some (.int x4), some (.int x5), o6] [.int sx0] (fm_mk S) (some (.int sx0), fm_mk S) := by
  exact fe_retI (by decide +kernel) (by decide +kernel)
theorem b_M_note_77 {d : Nat} {x1 : Int32} {x2 : Int32} {x3 : Int32} {x4 : Int32} {x5 : Int32} {o6 : Option Value} {S : fm_S}  (hi0 : vp_in (143 + (S.1 232 2)) 373) (hi1 : vp_in ((143 + (S.1 232 2)) + 6) 373) (hi2 : vp_in ((143 + (S.1 232 2)) + 12) 373) (hi3 : vp_in ((143 + (S.1 232 2)) + 18) 373) (hi4 : vp_in ((143 + (S.1 232 2)) + 24) 373) : am_Ev d k_M_note 77 [some (.ref 231), some (.int x1), some (.int x2), some (.int x3), some (.int x4), some (.int x5), o6] [] (fm_mk S) (some (.int ((fm_wI (fm_wI (fm_wI (fm_wI (fm_wI (fm_wI S 232 ((143 + (S.1 232 2)).toNatClampNeg) x1) 232 (((143 + (S.1 232 2)) + 6).toNatClampNeg) x2) 232 (((143 + (S.1 232 2)) + 12).toNatClampNeg) x3) 232 (((143 + (S.1 232 2)) + 18).toNatClampNeg) x4) 232 (((143 + (S.1 232 2)) + 24).toNatClampNeg) x5) 232 2 (((fm_wI (fm_wI (fm_wI (fm_wI (fm_wI S 232 ((143 + (S.1 232 2)).toNatClampNeg) x1) 232 (((143 + (S.1 232 2)) + 6).toNatClampNeg) x2) 232 (((143 + (S.1 232 2)) + 12).toNatClampNeg) x3) 232 (((143 + (S.1 232 2)) + 18).toNatClampNeg) x4) 232 (((143 + (S.1 232 2)) + 24).toNatClampNeg) x5).1 232 2) + 1)).1 232 2)), fm_mk (fm_wI (fm_wI (fm_wI (fm_wI (fm_wI (fm_wI S 232 ((143 + (S.1 232 2)).toNatClampNeg) x1) 232 (((143 + (S.1 232 2)) + 6).toNatClampNeg) x2) 232 (((143 + (S.1 232 2)) + 12).toNatClampNeg) x3) 232 (((143 + (S.1 232 2)) + 18).toNatClampNeg) x4) 232 (((143 + (S.1 232 2)) + 24).toNatClampNeg) x5) 232 2 (((fm_wI (fm_wI (fm_wI (fm_wI (fm_wI S 232 ((143 + (S.1 232 2)).toNatClampNeg) x1) 232 (((143 + (S.1 232 2)) + 6).toNatClampNeg) x2) 232 (((143 + (S.1 232 2)) + 12).toNatClampNeg) x3) 232 (((143 + (S.1 232 2)) + 18).toNatClampNeg) x4) 232 (((143 + (S.1 232 2)) + 24).toNatClampNeg) x5).1 232 2) + 1))) := by
  refine fs_sipush (n := 143) (v := 143) (by decide +kernel) (by decide) ?_
  refine fs_aloadn (j := 0) (by decide +kernel) rfl ?_
  refine fe_getR (idx := 7) (t := 8) (f := 0) (fk := 2) (fin := 1) (wp := 945) (x := 232) (by decide +kernel) (by decide +kernel) (by decide +kernel) (by decide +kernel) (by decide +kernel) ?_
  refine fs_iconst (n := 2) (v := 2) (by decide +kernel) (by decide) ?_
  refine fx_iald (n := 2) (len := 373) (by decide +kernel) (by decide +kernel) (by decide +kernel) (vp_c (by decide) (by decide)) (by decide) ?_
  refine fs_iadd (by decide +kernel) ?_
  refine fs_istore (j := 6) (L' := [some (.ref 231), some (.int x1), some (.int x2), some (.int x3), some (.int x4), some (.int x5), some (.int (143 + (S.1 232 2)))]) (by decide +kernel) (Nat.le_of_ble_eq_true rfl) rfl ?_
  refine fs_aloadn (j := 0) (by decide +kernel) rfl ?_
  refine fe_getR (idx := 7) (t := 8) (f := 0) (fk := 2) (fin := 1) (wp := 945) (x := 232) (by decide +kernel) (by decide +kernel) (by decide +kernel) (by decide +kernel) (by decide +kernel) ?_
  refine fs_iload (j := 6) (by decide +kernel) rfl ?_
  refine fs_iloadn (j := 1) (by decide +kernel) rfl ?_
  refine fx_iast (n := (143 + (S.1 232 2)).toNatClampNeg) (len := 373) (by decide +kernel) (by decide +kernel) (by decide +kernel) hi0 rfl ?_
  refine fs_aloadn (j := 0) (by decide +kernel) rfl ?_
  refine fe_getR (idx := 7) (t := 8) (f := 0) (fk := 2) (fin := 1) (wp := 945) (x := 232) (by decide +kernel) (by decide +kernel) (by decide +kernel) (by decide +kernel) (by decide +kernel) ?_
  refine fs_iload (j := 6) (by decide +kernel) rfl ?_
  refine fs_bipush (n := 6) (v := 6) (by decide +kernel) (by decide) ?_
  refine fs_iadd (by decide +kernel) ?_
  refine fs_iloadn (j := 2) (by decide +kernel) rfl ?_
  refine fx_iast (n := ((143 + (S.1 232 2)) + 6).toNatClampNeg) (len := 373) (by decide +kernel) (by decide +kernel) (by decide +kernel) hi1 rfl ?_
  refine fs_aloadn (j := 0) (by decide +kernel) rfl ?_
  refine fe_getR (idx := 7) (t := 8) (f := 0) (fk := 2) (fin := 1) (wp := 945) (x := 232) (by decide +kernel) (by decide +kernel) (by decide +kernel) (by decide +kernel) (by decide +kernel) ?_
  refine fs_iload (j := 6) (by decide +kernel) rfl ?_
  refine fs_bipush (n := 12) (v := 12) (by decide +kernel) (by decide) ?_
  refine fs_iadd (by decide +kernel) ?_
  refine fs_iloadn (j := 3) (by decide +kernel) rfl ?_
  refine fx_iast (n := ((143 + (S.1 232 2)) + 12).toNatClampNeg) (len := 373) (by decide +kernel) (by decide +kernel) (by decide +kernel) hi2 rfl ?_
  refine fs_aloadn (j := 0) (by decide +kernel) rfl ?_
  refine fe_getR (idx := 7) (t := 8) (f := 0) (fk := 2) (fin := 1) (wp := 945) (x := 232) (by decide +kernel) (by decide +kernel) (by decide +kernel) (by decide +kernel) (by decide +kernel) ?_
  refine fs_iload (j := 6) (by decide +kernel) rfl ?_
  refine fs_bipush (n := 18) (v := 18) (by decide +kernel) (by decide) ?_
  refine fs_iadd (by decide +kernel) ?_
  refine fs_iload (j := 4) (by decide +kernel) rfl ?_
  refine fx_iast (n := ((143 + (S.1 232 2)) + 18).toNatClampNeg) (len := 373) (by decide +kernel) (by decide +kernel) (by decide +kernel) hi3 rfl ?_
  refine fs_aloadn (j := 0) (by decide +kernel) rfl ?_
  refine fe_getR (idx := 7) (t := 8) (f := 0) (fk := 2) (fin := 1) (wp := 945) (x := 232) (by decide +kernel) (by decide +kernel) (by decide +kernel) (by decide +kernel) (by decide +kernel) ?_
  refine fs_iload (j := 6) (by decide +kernel) rfl ?_
  refine fs_bipush (n := 24) (v := 24) (by decide +kernel) (by decide) ?_
  refine fs_iadd (by decide +kernel) ?_
  refine fs_iload (j := 5) (by decide +kernel) rfl ?_
  refine fx_iast (n := ((143 + (S.1 232 2)) + 24).toNatClampNeg) (len := 373) (by decide +kernel) (by decide +kernel) (by decide +kernel) hi4 rfl ?_
  refine fs_aloadn (j := 0) (by decide +kernel) rfl ?_
  refine fe_getR (idx := 7) (t := 8) (f := 0) (fk := 2) (fin := 1) (wp := 945) (x := 232) (by decide +kernel) (by decide +kernel) (by decide +kernel) (by decide +kernel) (by decide +kernel) ?_
  refine fs_iconst (n := 2) (v := 2) (by decide +kernel) (by decide) ?_
  refine fs_dup2 (by decide +kernel) ⟨rfl, rfl⟩ ?_
  refine fx_iald (n := 2) (len := 373) (by decide +kernel) (by decide +kernel) (by decide +kernel) (vp_c (by decide) (by decide)) (by decide) ?_
  refine fs_iconst (n := 1) (v := 1) (by decide +kernel) (by decide) ?_
  refine fs_iadd (by decide +kernel) ?_
  refine fx_iast (n := 2) (len := 373) (by decide +kernel) (by decide +kernel) (by decide +kernel) (vp_c (by decide) (by decide)) (by decide) ?_
  refine fs_aloadn (j := 0) (by decide +kernel) rfl ?_
  refine fe_getR (idx := 7) (t := 8) (f := 0) (fk := 2) (fin := 1) (wp := 945) (x := 232) (by decide +kernel) (by decide +kernel) (by decide +kernel) (by decide +kernel) (by decide +kernel) ?_
  refine fs_iconst (n := 2) (v := 2) (by decide +kernel) (by decide) ?_
  refine fx_iald (n := 2) (len := 373) (by decide +kernel) (by decide +kernel) (by decide +kernel) (vp_c (by decide) (by decide)) (by decide) ?_
  exact fe_retI (by decide +kernel) (by decide +kernel)
-- KitchenSiegeModel.forget()I
theorem b_M_forget_0 {d : Nat} {o1 : Option Value} {S : fm_S}  : am_Ev d k_M_forget 0 [some (.ref 231), o1] [] (fm_mk S) (some (.int (S.1 232 2)), fm_mk (fm_wI S 232 2 0)) := by
  refine fs_aloadn (j := 0) (by decide +kernel) rfl ?_
  refine fe_getR (idx := 7) (t := 8) (f := 0) (fk := 2) (fin := 1) (wp := 945) (x := 232) (by decide +kernel) (by decide +kernel) (by decide +kernel) (by decide +kernel) (by decide +kernel) ?_
  refine fs_iconst (n := 2) (v := 2) (by decide +kernel) (by decide) ?_
  refine fx_iald (n := 2) (len := 373) (by decide +kernel) (by decide +kernel) (by decide +kernel) (vp_c (by decide) (by decide)) (by decide) ?_
  refine fs_istoren (j := 1) (L' := [some (.ref 231), some (.int (S.1 232 2))]) (by decide +kernel) (Nat.le_of_ble_eq_true rfl) rfl ?_
  refine fs_aloadn (j := 0) (by decide +kernel) rfl ?_
  refine fe_getR (idx := 7) (t := 8) (f := 0) (fk := 2) (fin := 1) (wp := 945) (x := 232) (by decide +kernel) (by decide +kernel) (by decide +kernel) (by decide +kernel) (by decide +kernel) ?_
  refine fs_iconst (n := 2) (v := 2) (by decide +kernel) (by decide) ?_
  refine fs_iconst (n := 0) (v := 0) (by decide +kernel) (by decide) ?_
  refine fx_iast (n := 2) (len := 373) (by decide +kernel) (by decide +kernel) (by decide +kernel) (vp_c (by decide) (by decide)) (by decide) ?_
  refine fs_iloadn (j := 1) (by decide +kernel) rfl ?_
  exact fe_retI (by decide +kernel) (by decide +kernel)
-- KitchenSiegeModel.craved(I)I
theorem b_M_craved_0 {d : Nat} {x1 : Int32} {v : Int32} {S1 : fm_S} {S : fm_S} {r : Option Value × am_W} (hc : am_Sp d k_M_isStreet [.ref 231, .int x1] (fm_mk S) (some (.int v)) (fm_mk S1)) (nx : am_Ev (d + 1) k_M_craved 5 [some (.ref 231), some (.int x1)] [.int v] (fm_mk S1) r) : am_Ev (d + 1) k_M_craved 0 [some (.ref 231), some (.int x1)] [] (fm_mk S) r := by
  refine fs_aloadn (j := 0) (by decide +kernel) rfl ?_
  refine fs_iloadn (j := 1) (by decide +kernel) rfl ?_
  exact fe_callV (t := 8) (idx := 84) (n := 1) (wp := 1035) (q := (1037, 33)) (as := [.int x1]) (rs := []) (by decide +kernel) (by decide +kernel) (by decide +kernel) (by decide +kernel) rfl (Nat.le_of_ble_eq_true rfl) rfl hc nx
theorem b_M_craved_5 {d : Nat} {x1 : Int32} {sx0 : Int32} {S : fm_S} {r : Option Value × am_W} (kt : sx0 = 0 → am_Ev d k_M_craved 24 [some (.ref 231), some (.int x1)] [] (fm_mk S) r) (kf : ¬ sx0 = 0 → am_Ev d k_M_craved 8 [some (.ref 231), some (.int x1)] [] (fm_mk S) r) : am_Ev d k_M_craved 5 [some (.ref 231), some (.int x1)] [.int sx0] (fm_mk S) r := by
  exact fs_ifeq (off := 19) (tgt := 24) (by decide +kernel) (by decide) kt kf
theorem b_M_craved_8 {d : Nat} {x1 : Int32} {v : Int32} {S1 : fm_S} {S : fm_S} {r : Option Value × am_W} (hi0 : vp_in (5 + x1) 373) (hc : am_Sp d k_M_cravings [.ref 231, .int x1, .int (S.1 232 ((5 + x1).toNatClampNeg))] (fm_mk S) (some (.int v)) (fm_mk S1)) (nx : am_Ev (d + 1) k_M_craved 21 [some (.ref 231), some (.int x1)] [.int v] (fm_mk S1) r) : am_Ev (d + 1) k_M_craved 8 [some (.ref 231), some (.int x1)] [] (fm_mk S) r := by
  refine fs_aloadn (j := 0) (by decide +kernel) rfl ?_
  refine fs_iloadn (j := 1) (by decide +kernel) rfl ?_
  refine fs_aloadn (j := 0) (by decide +kernel) rfl ?_
  refine fe_getR (idx := 7) (t := 8) (f := 0) (fk := 2) (fin := 1) (wp := 945) (x := 232) (by decide +kernel) (by decide +kernel) (by decide +kernel) (by decide +kernel) (by decide +kernel) ?_
  refine fs_iconst (n := 5) (v := 5) (by decide +kernel) (by decide) ?_
  refine fs_iloadn (j := 1) (by decide +kernel) rfl ?_
  refine fs_iadd (by decide +kernel) ?_
  refine fx_iald (n := (5 + x1).toNatClampNeg) (len := 373) (by decide +kernel) (by decide +kernel) (by decide +kernel) hi0 rfl ?_
  exact fe_callV (t := 8) (idx := 223) (n := 2) (wp := 1237) (q := (1239, 54)) (as := [.int x1, .int (S.1 232 ((5 + x1).toNatClampNeg))]) (rs := []) (by decide +kernel) (by decide +kernel) (by decide +kernel) (by decide +kernel) rfl (Nat.le_of_ble_eq_true rfl) rfl hc nx
theorem b_M_craved_21 {d : Nat} {x1 : Int32} {sx0 : Int32} {S : fm_S} {r : Option Value × am_W} (nx : am_Ev d k_M_craved 28 [some (.ref 231), some (.int x1)] [.int sx0] (fm_mk S) r) : am_Ev d k_M_craved 21 [some (.ref 231), some (.int x1)] [.int sx0] (fm_mk S) r := by
  refine fs_goto (off := 7) (tgt := 28) (by decide +kernel) (by decide) ?_
  exact nx
theorem b_M_craved_24 {d : Nat} {x1 : Int32} {v : Int32} {S1 : fm_S} {S : fm_S} {r : Option Value × am_W} (hc : am_Sp d k_M_bad [.ref 231] (fm_mk S) (some (.int v)) (fm_mk S1)) (nx : am_Ev (d + 1) k_M_craved 28 [some (.ref 231), some (.int x1)] [.int v] (fm_mk S1) r) : am_Ev (d + 1) k_M_craved 24 [some (.ref 231), some (.int x1)] [] (fm_mk S) r := by
  refine fs_aloadn (j := 0) (by decide +kernel) rfl ?_
  exact fe_callV (t := 8) (idx := 73) (n := 0) (wp := 1020) (q := (1022, 31)) (as := []) (rs := []) (by decide +kernel) (by decide +kernel) (by decide +kernel) (by decide +kernel) rfl (Nat.le_of_ble_eq_true rfl) rfl hc nx
theorem b_M_craved_28 {d : Nat} {x1 : Int32} {sx0 : Int32} {S : fm_S}  : am_Ev d k_M_craved 28 [some (.ref 231), some (.int x1)] [.int sx0] (fm_mk S) (some (.int sx0), fm_mk S) := by
  exact fe_retI (by decide +kernel) (by decide +kernel)
-- KitchenSiegeModel.cravings(II)I
theorem b_M_cravings_0 {d : Nat} {x1 : Int32} {x2 : Int32} {o3 : Option Value} {o4 : Option Value} {o5 : Option Value} {o6 : Option Value} {o7 : Option Value} {S : fm_S} {r : Option Value × am_W} (nx : am_Ev d k_M_cravings 5 [some (.ref 231), some (.int x1), some (.int x2), some (.int 0), some (.int 0), o5, o6, o7] [] (fm_mk S) r) : am_Ev d k_M_cravings 0 [some (.ref 231), some (.int x1), some (.int x2), o3, o4, o5, o6, o7] [] (fm_mk S) r := by
  refine fs_iconst (n := 0) (v := 0) (by decide +kernel) (by decide) ?_
  refine fs_istoren (j := 3) (L' := [some (.ref 231), some (.int x1), some (.int x2), some (.int 0), o4, o5, o6, o7]) (by decide +kernel) (Nat.le_of_ble_eq_true rfl) rfl ?_
  refine fs_iconst (n := 0) (v := 0) (by decide +kernel) (by decide) ?_
  refine fs_istore (j := 4) (L' := [some (.ref 231), some (.int x1), some (.int x2), some (.int 0), some (.int 0), o5, o6, o7]) (by decide +kernel) (Nat.le_of_ble_eq_true rfl) rfl ?_
  exact nx
theorem b_M_cravings_5 {d : Nat} {x1 : Int32} {x2 : Int32} {x3 : Int32} {x4 : Int32} {o5 : Option Value} {o6 : Option Value} {o7 : Option Value} {S : fm_S} {r : Option Value × am_W} (kt : 6 ≤ x4 → am_Ev d k_M_cravings 159 [some (.ref 231), some (.int x1), some (.int x2), some (.int x3), some (.int x4), o5, o6, o7] [] (fm_mk S) r) (kf : ¬ 6 ≤ x4 → am_Ev d k_M_cravings 12 [some (.ref 231), some (.int x1), some (.int x2), some (.int x3), some (.int x4), o5, o6, o7] [] (fm_mk S) r) : am_Ev d k_M_cravings 5 [some (.ref 231), some (.int x1), some (.int x2), some (.int x3), some (.int x4), o5, o6, o7] [] (fm_mk S) r := by
  refine fs_iload (j := 4) (by decide +kernel) rfl ?_
  refine fs_bipush (n := 6) (v := 6) (by decide +kernel) (by decide) ?_
  exact fs_icge (off := 150) (tgt := 159) (by decide +kernel) (by decide) kt kf
theorem b_M_cravings_12 {d : Nat} {x1 : Int32} {x2 : Int32} {x3 : Int32} {x4 : Int32} {o5 : Option Value} {o6 : Option Value} {o7 : Option Value} {S : fm_S} {r : Option Value × am_W} (nx : am_Ev d k_M_cravings 20 [some (.ref 231), some (.int x1), some (.int x2), some (.int x3), some (.int x4), some (.int 1), some (.int 143), o7] [] (fm_mk S) r) : am_Ev d k_M_cravings 12 [some (.ref 231), some (.int x1), some (.int x2), some (.int x3), some (.int x4), o5, o6, o7] [] (fm_mk S) r := by
  refine fs_iconst (n := 1) (v := 1) (by decide +kernel) (by decide) ?_
  refine fs_istore (j := 5) (L' := [some (.ref 231), some (.int x1), some (.int x2), some (.int x3), some (.int x4), some (.int 1), o6, o7]) (by decide +kernel) (Nat.le_of_ble_eq_true rfl) rfl ?_
  refine fs_sipush (n := 143) (v := 143) (by decide +kernel) (by decide) ?_
  refine fs_istore (j := 6) (L' := [some (.ref 231), some (.int x1), some (.int x2), some (.int x3), some (.int x4), some (.int 1), some (.int 143), o7]) (by decide +kernel) (Nat.le_of_ble_eq_true rfl) rfl ?_
  exact nx
theorem b_M_cravings_20 {d : Nat} {x1 : Int32} {x2 : Int32} {x3 : Int32} {x4 : Int32} {x5 : Int32} {x6 : Int32} {o7 : Option Value} {S : fm_S} {r : Option Value × am_W} (kt : (143 + (S.1 232 2)) ≤ x6 → am_Ev d k_M_cravings 137 [some (.ref 231), some (.int x1), some (.int x2), some (.int x3), some (.int x4), some (.int x5), some (.int x6), o7] [] (fm_mk S) r) (kf : ¬ (143 + (S.1 232 2)) ≤ x6 → am_Ev d k_M_cravings 35 [some (.ref 231), some (.int x1), some (.int x2), some (.int x3), some (.int x4), some (.int x5), some (.int x6), o7] [] (fm_mk S) r) : am_Ev d k_M_cravings 20 [some (.ref 231), some (.int x1), some (.int x2), some (.int x3), some (.int x4), some (.int x5), some (.int x6), o7] [] (fm_mk S) r := by
  refine fs_iload (j := 6) (by decide +kernel) rfl ?_
  refine fs_sipush (n := 143) (v := 143) (by decide +kernel) (by decide) ?_
  refine fs_aloadn (j := 0) (by decide +kernel) rfl ?_
  refine fe_getR (idx := 7) (t := 8) (f := 0) (fk := 2) (fin := 1) (wp := 945) (x := 232) (by decide +kernel) (by decide +kernel) (by decide +kernel) (by decide +kernel) (by decide +kernel) ?_
  refine fs_iconst (n := 2) (v := 2) (by decide +kernel) (by decide) ?_
  refine fx_iald (n := 2) (len := 373) (by decide +kernel) (by decide +kernel) (by decide +kernel) (vp_c (by decide) (by decide)) (by decide) ?_
  refine fs_iadd (by decide +kernel) ?_
  exact fs_icge (off := 105) (tgt := 137) (by decide +kernel) (by decide) kt kf
theorem b_M_cravings_35 {d : Nat} {x1 : Int32} {x2 : Int32} {x3 : Int32} {x4 : Int32} {x5 : Int32} {x6 : Int32} {o7 : Option Value} {v : Int32} {S1 : fm_S} {S : fm_S} {r : Option Value × am_W} (hi0 : vp_in (x6 + 6) 373) (hi1 : vp_in (x6 + 12) 373) (hi2 : vp_in (x6 + 18) 373) (hc : am_Sp d k_M_movedBy [.int x2, .int x4, .int (S.1 232 ((x6 + 6).toNatClampNeg)), .int (S.1 232 ((x6 + 12).toNatClampNeg)), .int (S.1 232 ((x6 + 18).toNatClampNeg)), .int 0] (fm_mk S) (some (.int v)) (fm_mk S1)) (nx : am_Ev (d + 1) k_M_cravings 72 [some (.ref 231), some (.int x1), some (.int x2), some (.int x3), some (.int x4), some (.int x5), some (.int x6), o7] [.int v] (fm_mk S1) r) : am_Ev (d + 1) k_M_cravings 35 [some (.ref 231), some (.int x1), some (.int x2), some (.int x3), some (.int x4), some (.int x5), some (.int x6), o7] [] (fm_mk S) r := by
  refine fs_iloadn (j := 2) (by decide +kernel) rfl ?_
  refine fs_iload (j := 4) (by decide +kernel) rfl ?_
  refine fs_aloadn (j := 0) (by decide +kernel) rfl ?_
  refine fe_getR (idx := 7) (t := 8) (f := 0) (fk := 2) (fin := 1) (wp := 945) (x := 232) (by decide +kernel) (by decide +kernel) (by decide +kernel) (by decide +kernel) (by decide +kernel) ?_
  refine fs_iload (j := 6) (by decide +kernel) rfl ?_
  refine fs_bipush (n := 6) (v := 6) (by decide +kernel) (by decide) ?_
  refine fs_iadd (by decide +kernel) ?_
  refine fx_iald (n := (x6 + 6).toNatClampNeg) (len := 373) (by decide +kernel) (by decide +kernel) (by decide +kernel) hi0 rfl ?_
  refine fs_aloadn (j := 0) (by decide +kernel) rfl ?_
  refine fe_getR (idx := 7) (t := 8) (f := 0) (fk := 2) (fin := 1) (wp := 945) (x := 232) (by decide +kernel) (by decide +kernel) (by decide +kernel) (by decide +kernel) (by decide +kernel) ?_
  refine fs_iload (j := 6) (by decide +kernel) rfl ?_
  refine fs_bipush (n := 12) (v := 12) (by decide +kernel) (by decide) ?_
  refine fs_iadd (by decide +kernel) ?_
  refine fx_iald (n := (x6 + 12).toNatClampNeg) (len := 373) (by decide +kernel) (by decide +kernel) (by decide +kernel) hi1 rfl ?_
  refine fs_aloadn (j := 0) (by decide +kernel) rfl ?_
  refine fe_getR (idx := 7) (t := 8) (f := 0) (fk := 2) (fin := 1) (wp := 945) (x := 232) (by decide +kernel) (by decide +kernel) (by decide +kernel) (by decide +kernel) (by decide +kernel) ?_
  refine fs_iload (j := 6) (by decide +kernel) rfl ?_
  refine fs_bipush (n := 18) (v := 18) (by decide +kernel) (by decide) ?_
  refine fs_iadd (by decide +kernel) ?_
  refine fx_iald (n := (x6 + 18).toNatClampNeg) (len := 373) (by decide +kernel) (by decide +kernel) (by decide +kernel) hi2 rfl ?_
  refine fs_iconst (n := 0) (v := 0) (by decide +kernel) (by decide) ?_
  exact fe_callS (idx := 168) (kd := 0) (n := 6) (wp := 1154) (q := (1155, 0)) (as := [.int x2, .int x4, .int (S.1 232 ((x6 + 6).toNatClampNeg)), .int (S.1 232 ((x6 + 12).toNatClampNeg)), .int (S.1 232 ((x6 + 18).toNatClampNeg)), .int 0]) (rs := []) (by decide +kernel) (by decide +kernel) (by decide +kernel) (by decide) rfl (Nat.le_of_ble_eq_true rfl) rfl hc nx
theorem b_M_cravings_72 {d : Nat} {x1 : Int32} {x2 : Int32} {x3 : Int32} {x4 : Int32} {x5 : Int32} {x6 : Int32} {o7 : Option Value} {sx0 : Int32} {S : fm_S} {r : Option Value × am_W} (kt : sx0 < 10 → am_Ev d k_M_cravings 81 [some (.ref 231), some (.int x1), some (.int x2), some (.int x3), some (.int x4), some (.int x5), some (.int x6), o7] [] (fm_mk S) r) (kf : ¬ sx0 < 10 → am_Ev d k_M_cravings 77 [some (.ref 231), some (.int x1), some (.int x2), some (.int x3), some (.int x4), some (.int x5), some (.int x6), o7] [] (fm_mk S) r) : am_Ev d k_M_cravings 72 [some (.ref 231), some (.int x1), some (.int x2), some (.int x3), some (.int x4), some (.int x5), some (.int x6), o7] [.int sx0] (fm_mk S) r := by
  refine fs_bipush (n := 10) (v := 10) (by decide +kernel) (by decide) ?_
  exact fs_iclt (off := 7) (tgt := 81) (by decide +kernel) (by decide) kt kf
theorem b_M_cravings_77 {d : Nat} {x1 : Int32} {x2 : Int32} {x3 : Int32} {x4 : Int32} {x5 : Int32} {x6 : Int32} {o7 : Option Value} {S : fm_S} {r : Option Value × am_W} (nx : am_Ev d k_M_cravings 82 [some (.ref 231), some (.int x1), some (.int x2), some (.int x3), some (.int x4), some (.int x5), some (.int x6), o7] [.int 1] (fm_mk S) r) : am_Ev d k_M_cravings 77 [some (.ref 231), some (.int x1), some (.int x2), some (.int x3), some (.int x4), some (.int x5), some (.int x6), o7] [] (fm_mk S) r := by
  refine fs_iconst (n := 1) (v := 1) (by decide +kernel) (by decide) ?_
  refine fs_goto (off := 4) (tgt := 82) (by decide +kernel) (by decide) ?_
  exact nx
theorem b_M_cravings_81 {d : Nat} {x1 : Int32} {x2 : Int32} {x3 : Int32} {x4 : Int32} {x5 : Int32} {x6 : Int32} {o7 : Option Value} {S : fm_S} {r : Option Value × am_W} (nx : am_Ev d k_M_cravings 82 [some (.ref 231), some (.int x1), some (.int x2), some (.int x3), some (.int x4), some (.int x5), some (.int x6), o7] [.int 0] (fm_mk S) r) : am_Ev d k_M_cravings 81 [some (.ref 231), some (.int x1), some (.int x2), some (.int x3), some (.int x4), some (.int x5), some (.int x6), o7] [] (fm_mk S) r := by
  refine fs_iconst (n := 0) (v := 0) (by decide +kernel) (by decide) ?_
  exact nx
theorem b_M_cravings_82 {d : Nat} {x1 : Int32} {x2 : Int32} {x3 : Int32} {x4 : Int32} {x5 : Int32} {x6 : Int32} {o7 : Option Value} {sx0 : Int32} {S : fm_S} {r : Option Value × am_W} (kt : x5 = 0 → am_Ev d k_M_cravings 128 [some (.ref 231), some (.int x1), some (.int x2), some (.int x3), some (.int x4), some (.int x5), some (.int x6), some (.int sx0)] [] (fm_mk S) r) (kf : ¬ x5 = 0 → am_Ev d k_M_cravings 89 [some (.ref 231), some (.int x1), some (.int x2), some (.int x3), some (.int x4), some (.int x5), some (.int x6), some (.int sx0)] [] (fm_mk S) r) : am_Ev d k_M_cravings 82 [some (.ref 231), some (.int x1), some (.int x2), some (.int x3), some (.int x4), some (.int x5), some (.int x6), o7] [.int sx0] (fm_mk S) r := by
  refine fs_istore (j := 7) (L' := [some (.ref 231), some (.int x1), some (.int x2), some (.int x3), some (.int x4), some (.int x5), some (.int x6), some (.int sx0)]) (by decide +kernel) (Nat.le_of_ble_eq_true rfl) rfl ?_
  refine fs_iload (j := 5) (by decide +kernel) rfl ?_
  exact fs_ifeq (off := 42) (tgt := 128) (by decide +kernel) (by decide) kt kf
theorem b_M_cravings_89 {d : Nat} {x1 : Int32} {x2 : Int32} {x3 : Int32} {x4 : Int32} {x5 : Int32} {x6 : Int32} {x7 : Int32} {S : fm_S} {r : Option Value × am_W} (hi0 : vp_in x6 373) (kt : ¬ (S.1 232 x6.toNatClampNeg) = x1 → am_Ev d k_M_cravings 124 [some (.ref 231), some (.int x1), some (.int x2), some (.int x3), some (.int x4), some (.int x5), some (.int x6), some (.int x7)] [] (fm_mk S) r) (kf : (S.1 232 x6.toNatClampNeg) = x1 → am_Ev d k_M_cravings 100 [some (.ref 231), some (.int x1), some (.int x2), some (.int x3), some (.int x4), some (.int x5), some (.int x6), some (.int x7)] [] (fm_mk S) r) : am_Ev d k_M_cravings 89 [some (.ref 231), some (.int x1), some (.int x2), some (.int x3), some (.int x4), some (.int x5), some (.int x6), some (.int x7)] [] (fm_mk S) r := by
  refine fs_aloadn (j := 0) (by decide +kernel) rfl ?_
  refine fe_getR (idx := 7) (t := 8) (f := 0) (fk := 2) (fin := 1) (wp := 945) (x := 232) (by decide +kernel) (by decide +kernel) (by decide +kernel) (by decide +kernel) (by decide +kernel) ?_
  refine fs_iload (j := 6) (by decide +kernel) rfl ?_
  refine fx_iald (n := x6.toNatClampNeg) (len := 373) (by decide +kernel) (by decide +kernel) (by decide +kernel) hi0 rfl ?_
  refine fs_iloadn (j := 1) (by decide +kernel) rfl ?_
  exact fs_icne (off := 27) (tgt := 124) (by decide +kernel) (by decide) kt kf
theorem b_M_cravings_100 {d : Nat} {x1 : Int32} {x2 : Int32} {x3 : Int32} {x4 : Int32} {x5 : Int32} {x6 : Int32} {x7 : Int32} {S : fm_S} {r : Option Value × am_W} (hi0 : vp_in (x6 + 24) 373) (kt : ¬ (S.1 232 ((x6 + 24).toNatClampNeg)) = 1 → am_Ev d k_M_cravings 120 [some (.ref 231), some (.int x1), some (.int x2), some (.int x3), some (.int x4), some (.int x5), some (.int x6), some (.int x7)] [.int x7] (fm_mk S) r) (kf : (S.1 232 ((x6 + 24).toNatClampNeg)) = 1 → am_Ev d k_M_cravings 116 [some (.ref 231), some (.int x1), some (.int x2), some (.int x3), some (.int x4), some (.int x5), some (.int x6), some (.int x7)] [.int x7] (fm_mk S) r) : am_Ev d k_M_cravings 100 [some (.ref 231), some (.int x1), some (.int x2), some (.int x3), some (.int x4), some (.int x5), some (.int x6), some (.int x7)] [] (fm_mk S) r := by
  refine fs_iload (j := 7) (by decide +kernel) rfl ?_
  refine fs_aloadn (j := 0) (by decide +kernel) rfl ?_
  refine fe_getR (idx := 7) (t := 8) (f := 0) (fk := 2) (fin := 1) (wp := 945) (x := 232) (by decide +kernel) (by decide +kernel) (by decide +kernel) (by decide +kernel) (by decide +kernel) ?_
  refine fs_iload (j := 6) (by decide +kernel) rfl ?_
  refine fs_bipush (n := 24) (v := 24) (by decide +kernel) (by decide) ?_
  refine fs_iadd (by decide +kernel) ?_
  refine fx_iald (n := (x6 + 24).toNatClampNeg) (len := 373) (by decide +kernel) (by decide +kernel) (by decide +kernel) hi0 rfl ?_
  refine fs_iconst (n := 1) (v := 1) (by decide +kernel) (by decide) ?_
  exact fs_icne (off := 7) (tgt := 120) (by decide +kernel) (by decide) kt kf
theorem b_M_cravings_116 {d : Nat} {x1 : Int32} {x2 : Int32} {x3 : Int32} {x4 : Int32} {x5 : Int32} {x6 : Int32} {x7 : Int32} {sx0 : Int32} {S : fm_S} {r : Option Value × am_W} (nx : am_Ev d k_M_cravings 121 [some (.ref 231), some (.int x1), some (.int x2), some (.int x3), some (.int x4), some (.int x5), some (.int x6), some (.int x7)] [.int 1, .int sx0] (fm_mk S) r) : am_Ev d k_M_cravings 116 [some (.ref 231), some (.int x1), some (.int x2), some (.int x3), some (.int x4), some (.int x5), some (.int x6), some (.int x7)] [.int sx0] (fm_mk S) r := by
  refine fs_iconst (n := 1) (v := 1) (by decide +kernel) (by decide) ?_
  refine fs_goto (off := 4) (tgt := 121) (by decide +kernel) (by decide) ?_
  exact nx
theorem b_M_cravings_120 {d : Nat} {x1 : Int32} {x2 : Int32} {x3 : Int32} {x4 : Int32} {x5 : Int32} {x6 : Int32} {x7 : Int32} {sx0 : Int32} {S : fm_S} {r : Option Value × am_W} (nx : am_Ev d k_M_cravings 121 [some (.ref 231), some (.int x1), some (.int x2), some (.int x3), some (.int x4), some (.int x5), some (.int x6), some (.int x7)] [.int 0, .int sx0] (fm_mk S) r) : am_Ev d k_M_cravings 120 [some (.ref 231), some (.int x1), some (.int x2), some (.int x3), some (.int x4), some (.int x5), some (.int x6), some (.int x7)] [.int sx0] (fm_mk S) r := by
  refine fs_iconst (n := 0) (v := 0) (by decide +kernel) (by decide) ?_
  exact nx
theorem b_M_cravings_121 {d : Nat} {x1 : Int32} {x2 : Int32} {x3 : Int32} {x4 : Int32} {x5 : Int32} {x6 : Int32} {x7 : Int32} {sx0 : Int32} {sx1 : Int32} {S : fm_S} {r : Option Value × am_W} (kt : ¬ sx0 = sx1 → am_Ev d k_M_cravings 128 [some (.ref 231), some (.int x1), some (.int x2), some (.int x3), some (.int x4), some (.int x5), some (.int x6), some (.int x7)] [] (fm_mk S) r) (kf : sx0 = sx1 → am_Ev d k_M_cravings 124 [some (.ref 231), some (.int x1), some (.int x2), some (.int x3), some (.int x4), some (.int x5), some (.int x6), some (.int x7)] [] (fm_mk S) r) : am_Ev d k_M_cravings 121 [some (.ref 231), some (.int x1), some (.int x2), some (.int x3), some (.int x4), some (.int x5), some (.int x6), some (.int x7)] [.int sx1, .int sx0] (fm_mk S) r := by
  exact fs_icne (off := 7) (tgt := 128) (by decide +kernel) (by decide) kt kf
theorem b_M_cravings_124 {d : Nat} {x1 : Int32} {x2 : Int32} {x3 : Int32} {x4 : Int32} {x5 : Int32} {x6 : Int32} {x7 : Int32} {S : fm_S} {r : Option Value × am_W} (nx : am_Ev d k_M_cravings 129 [some (.ref 231), some (.int x1), some (.int x2), some (.int x3), some (.int x4), some (.int x5), some (.int x6), some (.int x7)] [.int 1] (fm_mk S) r) : am_Ev d k_M_cravings 124 [some (.ref 231), some (.int x1), some (.int x2), some (.int x3), some (.int x4), some (.int x5), some (.int x6), some (.int x7)] [] (fm_mk S) r := by
  refine fs_iconst (n := 1) (v := 1) (by decide +kernel) (by decide) ?_
  refine fs_goto (off := 4) (tgt := 129) (by decide +kernel) (by decide) ?_
  exact nx
theorem b_M_cravings_128 {d : Nat} {x1 : Int32} {x2 : Int32} {x3 : Int32} {x4 : Int32} {x5 : Int32} {x6 : Int32} {x7 : Int32} {S : fm_S} {r : Option Value × am_W} (nx : am_Ev d k_M_cravings 129 [some (.ref 231), some (.int x1), some (.int x2), some (.int x3), some (.int x4), some (.int x5), some (.int x6), some (.int x7)] [.int 0] (fm_mk S) r) : am_Ev d k_M_cravings 128 [some (.ref 231), some (.int x1), some (.int x2), some (.int x3), some (.int x4), some (.int x5), some (.int x6), some (.int x7)] [] (fm_mk S) r := by
  refine fs_iconst (n := 0) (v := 0) (by decide +kernel) (by decide) ?_
  exact nx
theorem b_M_cravings_129 {d : Nat} {x1 : Int32} {x2 : Int32} {x3 : Int32} {x4 : Int32} {x5 : Int32} {x6 : Int32} {x7 : Int32} {sx0 : Int32} {S : fm_S} {r : Option Value × am_W} (nx : am_Ev d k_M_cravings 20 [some (.ref 231), some (.int x1), some (.int x2), some (.int x3), some (.int x4), some (.int sx0), some (.int (x6 + 1)), some (.int x7)] [] (fm_mk S) r) : am_Ev d k_M_cravings 129 [some (.ref 231), some (.int x1), some (.int x2), some (.int x3), some (.int x4), some (.int x5), some (.int x6), some (.int x7)] [.int sx0] (fm_mk S) r := by
  refine fs_istore (j := 5) (L' := [some (.ref 231), some (.int x1), some (.int x2), some (.int x3), some (.int x4), some (.int sx0), some (.int x6), some (.int x7)]) (by decide +kernel) (Nat.le_of_ble_eq_true rfl) rfl ?_
  refine fs_iinc (j := 6) (n := 1) (v := 1) (L' := [some (.ref 231), some (.int x1), some (.int x2), some (.int x3), some (.int x4), some (.int sx0), some (.int (x6 + 1)), some (.int x7)]) (by decide +kernel) rfl (Nat.le_of_ble_eq_true rfl) (by decide) rfl ?_
  refine fs_goto (off := -114) (tgt := 20) (by decide +kernel) (by decide) ?_
  exact nx
theorem b_M_cravings_137 {d : Nat} {x1 : Int32} {x2 : Int32} {x3 : Int32} {x4 : Int32} {x5 : Int32} {x6 : Int32} {o7 : Option Value} {S : fm_S} {r : Option Value × am_W} (kt : x5 = 0 → am_Ev d k_M_cravings 150 [some (.ref 231), some (.int x1), some (.int x2), some (.int x3), some (.int x4), some (.int x5), some (.int x6), o7] [.int x3] (fm_mk S) r) (kf : ¬ x5 = 0 → am_Ev d k_M_cravings 143 [some (.ref 231), some (.int x1), some (.int x2), some (.int x3), some (.int x4), some (.int x5), some (.int x6), o7] [.int x3] (fm_mk S) r) : am_Ev d k_M_cravings 137 [some (.ref 231), some (.int x1), some (.int x2), some (.int x3), some (.int x4), some (.int x5), some (.int x6), o7] [] (fm_mk S) r := by
  refine fs_iloadn (j := 3) (by decide +kernel) rfl ?_
  refine fs_iload (j := 5) (by decide +kernel) rfl ?_
  exact fs_ifeq (off := 10) (tgt := 150) (by decide +kernel) (by decide) kt kf
theorem b_M_cravings_143 {d : Nat} {x1 : Int32} {x2 : Int32} {x3 : Int32} {x4 : Int32} {x5 : Int32} {x6 : Int32} {o7 : Option Value} {sx0 : Int32} {S : fm_S} {r : Option Value × am_W} (nx : am_Ev d k_M_cravings 151 [some (.ref 231), some (.int x1), some (.int x2), some (.int x3), some (.int x4), some (.int x5), some (.int x6), o7] [.int (1 <<< (x4 &&& 31)), .int sx0] (fm_mk S) r) : am_Ev d k_M_cravings 143 [some (.ref 231), some (.int x1), some (.int x2), some (.int x3), some (.int x4), some (.int x5), some (.int x6), o7] [.int sx0] (fm_mk S) r := by
  refine fs_iconst (n := 1) (v := 1) (by decide +kernel) (by decide) ?_
  refine fs_iload (j := 4) (by decide +kernel) rfl ?_
  refine fs_ishl (by decide +kernel) ?_
  refine fs_goto (off := 4) (tgt := 151) (by decide +kernel) (by decide) ?_
  exact nx
theorem b_M_cravings_150 {d : Nat} {x1 : Int32} {x2 : Int32} {x3 : Int32} {x4 : Int32} {x5 : Int32} {x6 : Int32} {o7 : Option Value} {sx0 : Int32} {S : fm_S} {r : Option Value × am_W} (nx : am_Ev d k_M_cravings 151 [some (.ref 231), some (.int x1), some (.int x2), some (.int x3), some (.int x4), some (.int x5), some (.int x6), o7] [.int 0, .int sx0] (fm_mk S) r) : am_Ev d k_M_cravings 150 [some (.ref 231), some (.int x1), some (.int x2), some (.int x3), some (.int x4), some (.int x5), some (.int x6), o7] [.int sx0] (fm_mk S) r := by
  refine fs_iconst (n := 0) (v := 0) (by decide +kernel) (by decide) ?_
  exact nx
theorem b_M_cravings_151 {d : Nat} {x1 : Int32} {x2 : Int32} {x3 : Int32} {x4 : Int32} {x5 : Int32} {x6 : Int32} {o7 : Option Value} {sx0 : Int32} {sx1 : Int32} {S : fm_S} {r : Option Value × am_W} (nx : am_Ev d k_M_cravings 5 [some (.ref 231), some (.int x1), some (.int x2), some (.int (sx0 ||| sx1)), some (.int (x4 + 1)), some (.int x5), some (.int x6), o7] [] (fm_mk S) r) : am_Ev d k_M_cravings 151 [some (.ref 231), some (.int x1), some (.int x2), some (.int x3), some (.int x4), some (.int x5), some (.int x6), o7] [.int sx1, .int sx0] (fm_mk S) r := by
  refine fs_ior (by decide +kernel) ?_
  refine fs_istoren (j := 3) (L' := [some (.ref 231), some (.int x1), some (.int x2), some (.int (sx0 ||| sx1)), some (.int x4), some (.int x5), some (.int x6), o7]) (by decide +kernel) (Nat.le_of_ble_eq_true rfl) rfl ?_
  refine fs_iinc (j := 4) (n := 1) (v := 1) (L' := [some (.ref 231), some (.int x1), some (.int x2), some (.int (sx0 ||| sx1)), some (.int (x4 + 1)), some (.int x5), some (.int x6), o7]) (by decide +kernel) rfl (Nat.le_of_ble_eq_true rfl) (by decide) rfl ?_
  refine fs_goto (off := -151) (tgt := 5) (by decide +kernel) (by decide) ?_
  exact nx
theorem b_M_cravings_159 {d : Nat} {x1 : Int32} {x2 : Int32} {x3 : Int32} {x4 : Int32} {o5 : Option Value} {o6 : Option Value} {o7 : Option Value} {S : fm_S}  : am_Ev d k_M_cravings 159 [some (.ref 231), some (.int x1), some (.int x2), some (.int x3), some (.int x4), o5, o6, o7] [] (fm_mk S) (some (.int x3), fm_mk S) := by
  refine fs_iloadn (j := 3) (by decide +kernel) rfl ?_
  exact fe_retI (by decide +kernel) (by decide +kernel)
-- KitchenSiegeModel.is(I)I
theorem b_M_is_0 {d : Nat} {x1 : Int32} {o2 : Option Value} {o3 : Option Value} {v : Int32} {S1 : fm_S} {S : fm_S} {r : Option Value × am_W} (hc : am_Sp d k_M_isStreet [.ref 231, .int x1] (fm_mk S) (some (.int v)) (fm_mk S1)) (nx : am_Ev (d + 1) k_M_is 5 [some (.ref 231), some (.int x1), o2, o3] [.int v] (fm_mk S1) r) : am_Ev (d + 1) k_M_is 0 [some (.ref 231), some (.int x1), o2, o3] [] (fm_mk S) r := by
  refine fs_aloadn (j := 0) (by decide +kernel) rfl ?_
  refine fs_iloadn (j := 1) (by decide +kernel) rfl ?_
  exact fe_callV (t := 8) (idx := 84) (n := 1) (wp := 1035) (q := (1037, 33)) (as := [.int x1]) (rs := []) (by decide +kernel) (by decide +kernel) (by decide +kernel) (by decide +kernel) rfl (Nat.le_of_ble_eq_true rfl) rfl hc nx
theorem b_M_is_5 {d : Nat} {x1 : Int32} {o2 : Option Value} {o3 : Option Value} {sx0 : Int32} {S : fm_S} {r : Option Value × am_W} (kt : ¬ sx0 = 0 → am_Ev d k_M_is 13 [some (.ref 231), some (.int x1), o2, o3] [] (fm_mk S) r) (kf : sx0 = 0 → am_Ev d k_M_is 8 [some (.ref 231), some (.int x1), o2, o3] [] (fm_mk S) r) : am_Ev d k_M_is 5 [some (.ref 231), some (.int x1), o2, o3] [.int sx0] (fm_mk S) r := by
  exact fs_ifne (off := 8) (tgt := 13) (by decide +kernel) (by decide) kt kf
theorem b_M_is_8 {d : Nat} {x1 : Int32} {o2 : Option Value} {o3 : Option Value} {v : Int32} {S1 : fm_S} {S : fm_S} {r : Option Value × am_W} (hc : am_Sp d k_M_bad [.ref 231] (fm_mk S) (some (.int v)) (fm_mk S1)) (nx : am_Ev (d + 1) k_M_is 12 [some (.ref 231), some (.int x1), o2, o3] [.int v] (fm_mk S1) r) : am_Ev (d + 1) k_M_is 8 [some (.ref 231), some (.int x1), o2, o3] [] (fm_mk S) r := by
  refine fs_aloadn (j := 0) (by decide +kernel) rfl ?_
  exact fe_callV (t := 8) (idx := 73) (n := 0) (wp := 1020) (q := (1022, 31)) (as := []) (rs := []) (by decide +kernel) (by decide +kernel) (by decide +kernel) (by decide +kernel) rfl (Nat.le_of_ble_eq_true rfl) rfl hc nx
theorem b_M_is_12 {d : Nat} {x1 : Int32} {o2 : Option Value} {o3 : Option Value} {sx0 : Int32} {S : fm_S}  : am_Ev d k_M_is 12 [some (.ref 231), some (.int x1), o2, o3] [.int sx0] (fm_mk S) (some (.int sx0), fm_mk S) := by
  exact fe_retI (by decide +kernel) (by decide +kernel)
theorem b_M_is_13 {d : Nat} {x1 : Int32} {o2 : Option Value} {o3 : Option Value} {S : fm_S} {r : Option Value × am_W} (nx : am_Ev d k_M_is 17 [some (.ref 231), some (.int x1), some (.int 0), some (.int 0)] [] (fm_mk S) r) : am_Ev d k_M_is 13 [some (.ref 231), some (.int x1), o2, o3] [] (fm_mk S) r := by
  refine fs_iconst (n := 0) (v := 0) (by decide +kernel) (by decide) ?_
  refine fs_istoren (j := 2) (L' := [some (.ref 231), some (.int x1), some (.int 0), o3]) (by decide +kernel) (Nat.le_of_ble_eq_true rfl) rfl ?_
  refine fs_iconst (n := 0) (v := 0) (by decide +kernel) (by decide) ?_
  refine fs_istoren (j := 3) (L' := [some (.ref 231), some (.int x1), some (.int 0), some (.int 0)]) (by decide +kernel) (Nat.le_of_ble_eq_true rfl) rfl ?_
  exact nx
theorem b_M_is_17 {d : Nat} {x1 : Int32} {x2 : Int32} {x3 : Int32} {S : fm_S} {r : Option Value × am_W} (kt : 6 ≤ x3 → am_Ev d k_M_is 48 [some (.ref 231), some (.int x1), some (.int x2), some (.int x3)] [] (fm_mk S) r) (kf : ¬ 6 ≤ x3 → am_Ev d k_M_is 23 [some (.ref 231), some (.int x1), some (.int x2), some (.int x3)] [] (fm_mk S) r) : am_Ev d k_M_is 17 [some (.ref 231), some (.int x1), some (.int x2), some (.int x3)] [] (fm_mk S) r := by
  refine fs_iloadn (j := 3) (by decide +kernel) rfl ?_
  refine fs_bipush (n := 6) (v := 6) (by decide +kernel) (by decide) ?_
  exact fs_icge (off := 28) (tgt := 48) (by decide +kernel) (by decide) kt kf
theorem b_M_is_23 {d : Nat} {x1 : Int32} {x2 : Int32} {x3 : Int32} {v : Int32} {S1 : fm_S} {S : fm_S} {r : Option Value × am_W} (hc : am_Sp d k_M_cravings [.ref 231, .int x1, .int x3] (fm_mk S) (some (.int v)) (fm_mk S1)) (nx : am_Ev (d + 1) k_M_is 30 [some (.ref 231), some (.int x1), some (.int x2), some (.int x3)] [.int v, .int x2] (fm_mk S1) r) : am_Ev (d + 1) k_M_is 23 [some (.ref 231), some (.int x1), some (.int x2), some (.int x3)] [] (fm_mk S) r := by
  refine fs_iloadn (j := 2) (by decide +kernel) rfl ?_
  refine fs_aloadn (j := 0) (by decide +kernel) rfl ?_
  refine fs_iloadn (j := 1) (by decide +kernel) rfl ?_
  refine fs_iloadn (j := 3) (by decide +kernel) rfl ?_
  exact fe_callV (t := 8) (idx := 223) (n := 2) (wp := 1237) (q := (1239, 54)) (as := [.int x1, .int x3]) (rs := [.int x2]) (by decide +kernel) (by decide +kernel) (by decide +kernel) (by decide +kernel) rfl (Nat.le_of_ble_eq_true rfl) rfl hc nx
theorem b_M_is_30 {d : Nat} {x1 : Int32} {x2 : Int32} {x3 : Int32} {sx0 : Int32} {sx1 : Int32} {S : fm_S} {r : Option Value × am_W} (kt : sx1 = 0 → am_Ev d k_M_is 39 [some (.ref 231), some (.int x1), some (.int x2), some (.int x3)] [.int sx0] (fm_mk S) r) (kf : ¬ sx1 = 0 → am_Ev d k_M_is 33 [some (.ref 231), some (.int x1), some (.int x2), some (.int x3)] [.int sx0] (fm_mk S) r) : am_Ev d k_M_is 30 [some (.ref 231), some (.int x1), some (.int x2), some (.int x3)] [.int sx1, .int sx0] (fm_mk S) r := by
  exact fs_ifeq (off := 9) (tgt := 39) (by decide +kernel) (by decide) kt kf
theorem b_M_is_33 {d : Nat} {x1 : Int32} {x2 : Int32} {x3 : Int32} {sx0 : Int32} {S : fm_S} {r : Option Value × am_W} (nx : am_Ev d k_M_is 40 [some (.ref 231), some (.int x1), some (.int x2), some (.int x3)] [.int (1 <<< (x3 &&& 31)), .int sx0] (fm_mk S) r) : am_Ev d k_M_is 33 [some (.ref 231), some (.int x1), some (.int x2), some (.int x3)] [.int sx0] (fm_mk S) r := by
  refine fs_iconst (n := 1) (v := 1) (by decide +kernel) (by decide) ?_
  refine fs_iloadn (j := 3) (by decide +kernel) rfl ?_
  refine fs_ishl (by decide +kernel) ?_
  refine fs_goto (off := 4) (tgt := 40) (by decide +kernel) (by decide) ?_
  exact nx
theorem b_M_is_39 {d : Nat} {x1 : Int32} {x2 : Int32} {x3 : Int32} {sx0 : Int32} {S : fm_S} {r : Option Value × am_W} (nx : am_Ev d k_M_is 40 [some (.ref 231), some (.int x1), some (.int x2), some (.int x3)] [.int 0, .int sx0] (fm_mk S) r) : am_Ev d k_M_is 39 [some (.ref 231), some (.int x1), some (.int x2), some (.int x3)] [.int sx0] (fm_mk S) r := by
  refine fs_iconst (n := 0) (v := 0) (by decide +kernel) (by decide) ?_
  exact nx
theorem b_M_is_40 {d : Nat} {x1 : Int32} {x2 : Int32} {x3 : Int32} {sx0 : Int32} {sx1 : Int32} {S : fm_S} {r : Option Value × am_W} (nx : am_Ev d k_M_is 17 [some (.ref 231), some (.int x1), some (.int (sx0 ||| sx1)), some (.int (x3 + 1))] [] (fm_mk S) r) : am_Ev d k_M_is 40 [some (.ref 231), some (.int x1), some (.int x2), some (.int x3)] [.int sx1, .int sx0] (fm_mk S) r := by
  refine fs_ior (by decide +kernel) ?_
  refine fs_istoren (j := 2) (L' := [some (.ref 231), some (.int x1), some (.int (sx0 ||| sx1)), some (.int x3)]) (by decide +kernel) (Nat.le_of_ble_eq_true rfl) rfl ?_
  refine fs_iinc (j := 3) (n := 1) (v := 1) (L' := [some (.ref 231), some (.int x1), some (.int (sx0 ||| sx1)), some (.int (x3 + 1))]) (by decide +kernel) rfl (Nat.le_of_ble_eq_true rfl) (by decide) rfl ?_
  refine fs_goto (off := -28) (tgt := 17) (by decide +kernel) (by decide) ?_
  exact nx
theorem b_M_is_48 {d : Nat} {x1 : Int32} {x2 : Int32} {x3 : Int32} {S : fm_S}  : am_Ev d k_M_is 48 [some (.ref 231), some (.int x1), some (.int x2), some (.int x3)] [] (fm_mk S) (some (.int x2), fm_mk S) := by
  refine fs_iloadn (j := 2) (by decide +kernel) rfl ?_
  exact fe_retI (by decide +kernel) (by decide +kernel)
-- KitchenSiegeModel.tryNext(III)I
theorem b_M_tryNext_0 {d : Nat} {x1 : Int32} {x2 : Int32} {x3 : Int32} {o4 : Option Value} {o5 : Option Value} {o6 : Option Value} {o7 : Option Value} {o8 : Option Value} {o9 : Option Value} {o10 : Option Value} {v : Int32} {S1 : fm_S} {S : fm_S} {r : Option Value × am_W} (hc : am_Sp d k_M_isStreet [.ref 231, .int x1] (fm_mk S) (some (.int v)) (fm_mk S1)) (nx : am_Ev (d + 1) k_M_tryNext 5 [some (.ref 231), some (.int x1), some (.int x2), some (.int x3), o4, o5, o6, o7, o8, o9, o10] [.int v] (fm_mk S1) r) : am_Ev (d + 1) k_M_tryNext 0 [some (.ref 231), some (.int x1), some (.int x2), some (.int x3), o4, o5, o6, o7, o8, o9, o10] [] (fm_mk S) r := by
  refine fs_aloadn (j := 0) (by decide +kernel) rfl ?_
  refine fs_iloadn (j := 1) (by decide +kernel) rfl ?_
  exact fe_callV (t := 8) (idx := 84) (n := 1) (wp := 1035) (q := (1037, 33)) (as := [.int x1]) (rs := []) (by decide +kernel) (by decide +kernel) (by decide +kernel) (by decide +kernel) rfl (Nat.le_of_ble_eq_true rfl) rfl hc nx
theorem b_M_tryNext_5 {d : Nat} {x1 : Int32} {x2 : Int32} {x3 : Int32} {o4 : Option Value} {o5 : Option Value} {o6 : Option Value} {o7 : Option Value} {o8 : Option Value} {o9 : Option Value} {o10 : Option Value} {sx0 : Int32} {S : fm_S} {r : Option Value × am_W} (kt : sx0 = 0 → am_Ev d k_M_tryNext 32 [some (.ref 231), some (.int x1), some (.int x2), some (.int x3), o4, o5, o6, o7, o8, o9, o10] [] (fm_mk S) r) (kf : ¬ sx0 = 0 → am_Ev d k_M_tryNext 8 [some (.ref 231), some (.int x1), some (.int x2), some (.int x3), o4, o5, o6, o7, o8, o9, o10] [] (fm_mk S) r) : am_Ev d k_M_tryNext 5 [some (.ref 231), some (.int x1), some (.int x2), some (.int x3), o4, o5, o6, o7, o8, o9, o10] [.int sx0] (fm_mk S) r := by
  exact fs_ifeq (off := 27) (tgt := 32) (by decide +kernel) (by decide) kt kf
theorem b_M_tryNext_8 {d : Nat} {x1 : Int32} {x2 : Int32} {x3 : Int32} {o4 : Option Value} {o5 : Option Value} {o6 : Option Value} {o7 : Option Value} {o8 : Option Value} {o9 : Option Value} {o10 : Option Value} {v : Int32} {S1 : fm_S} {S : fm_S} {r : Option Value × am_W} (hc : am_Sp d k_M_in [.long x2.toInt64, .long 1, .long 60] (fm_mk S) (some (.int v)) (fm_mk S1)) (nx : am_Ev (d + 1) k_M_tryNext 17 [some (.ref 231), some (.int x1), some (.int x2), some (.int x3), o4, o5, o6, o7, o8, o9, o10] [.int v] (fm_mk S1) r) : am_Ev (d + 1) k_M_tryNext 8 [some (.ref 231), some (.int x1), some (.int x2), some (.int x3), o4, o5, o6, o7, o8, o9, o10] [] (fm_mk S) r := by
  refine fs_iloadn (j := 2) (by decide +kernel) rfl ?_
  refine fs_i2l (by decide +kernel) ?_
  refine fs_lconst (n := 1) (v := 1) (by decide +kernel) (by decide) ?_
  refine fs_ldc2 (idx := 219) (q := 1227) (v := 60) (by decide +kernel) (by decide +kernel) ?_
  exact fe_callS (idx := 67) (kd := 0) (n := 3) (wp := 1016) (q := (1017, 0)) (as := [.long x2.toInt64, .long 1, .long 60]) (rs := []) (by decide +kernel) (by decide +kernel) (by decide +kernel) (by decide) rfl (Nat.le_of_ble_eq_true rfl) rfl hc nx
theorem b_M_tryNext_17 {d : Nat} {x1 : Int32} {x2 : Int32} {x3 : Int32} {o4 : Option Value} {o5 : Option Value} {o6 : Option Value} {o7 : Option Value} {o8 : Option Value} {o9 : Option Value} {o10 : Option Value} {sx0 : Int32} {S : fm_S} {r : Option Value × am_W} (kt : sx0 = 0 → am_Ev d k_M_tryNext 32 [some (.ref 231), some (.int x1), some (.int x2), some (.int x3), o4, o5, o6, o7, o8, o9, o10] [] (fm_mk S) r) (kf : ¬ sx0 = 0 → am_Ev d k_M_tryNext 20 [some (.ref 231), some (.int x1), some (.int x2), some (.int x3), o4, o5, o6, o7, o8, o9, o10] [] (fm_mk S) r) : am_Ev d k_M_tryNext 17 [some (.ref 231), some (.int x1), some (.int x2), some (.int x3), o4, o5, o6, o7, o8, o9, o10] [.int sx0] (fm_mk S) r := by
  exact fs_ifeq (off := 15) (tgt := 32) (by decide +kernel) (by decide) kt kf
theorem b_M_tryNext_20 {d : Nat} {x1 : Int32} {x2 : Int32} {x3 : Int32} {o4 : Option Value} {o5 : Option Value} {o6 : Option Value} {o7 : Option Value} {o8 : Option Value} {o9 : Option Value} {o10 : Option Value} {v : Int32} {S1 : fm_S} {S : fm_S} {r : Option Value × am_W} (hc : am_Sp d k_M_in [.long x3.toInt64, .long 0, .long 99] (fm_mk S) (some (.int v)) (fm_mk S1)) (nx : am_Ev (d + 1) k_M_tryNext 29 [some (.ref 231), some (.int x1), some (.int x2), some (.int x3), o4, o5, o6, o7, o8, o9, o10] [.int v] (fm_mk S1) r) : am_Ev (d + 1) k_M_tryNext 20 [some (.ref 231), some (.int x1), some (.int x2), some (.int x3), o4, o5, o6, o7, o8, o9, o10] [] (fm_mk S) r := by
  refine fs_iloadn (j := 3) (by decide +kernel) rfl ?_
  refine fs_i2l (by decide +kernel) ?_
  refine fs_lconst (n := 0) (v := 0) (by decide +kernel) (by decide) ?_
  refine fs_ldc2 (idx := 221) (q := 1228) (v := 99) (by decide +kernel) (by decide +kernel) ?_
  exact fe_callS (idx := 67) (kd := 0) (n := 3) (wp := 1016) (q := (1017, 0)) (as := [.long x3.toInt64, .long 0, .long 99]) (rs := []) (by decide +kernel) (by decide +kernel) (by decide +kernel) (by decide) rfl (Nat.le_of_ble_eq_true rfl) rfl hc nx
theorem b_M_tryNext_29 {d : Nat} {x1 : Int32} {x2 : Int32} {x3 : Int32} {o4 : Option Value} {o5 : Option Value} {o6 : Option Value} {o7 : Option Value} {o8 : Option Value} {o9 : Option Value} {o10 : Option Value} {sx0 : Int32} {S : fm_S} {r : Option Value × am_W} (kt : ¬ sx0 = 0 → am_Ev d k_M_tryNext 37 [some (.ref 231), some (.int x1), some (.int x2), some (.int x3), o4, o5, o6, o7, o8, o9, o10] [] (fm_mk S) r) (kf : sx0 = 0 → am_Ev d k_M_tryNext 32 [some (.ref 231), some (.int x1), some (.int x2), some (.int x3), o4, o5, o6, o7, o8, o9, o10] [] (fm_mk S) r) : am_Ev d k_M_tryNext 29 [some (.ref 231), some (.int x1), some (.int x2), some (.int x3), o4, o5, o6, o7, o8, o9, o10] [.int sx0] (fm_mk S) r := by
  exact fs_ifne (off := 8) (tgt := 37) (by decide +kernel) (by decide) kt kf
theorem b_M_tryNext_32 {d : Nat} {x1 : Int32} {x2 : Int32} {x3 : Int32} {o4 : Option Value} {o5 : Option Value} {o6 : Option Value} {o7 : Option Value} {o8 : Option Value} {o9 : Option Value} {o10 : Option Value} {v : Int32} {S1 : fm_S} {S : fm_S} {r : Option Value × am_W} (hc : am_Sp d k_M_bad [.ref 231] (fm_mk S) (some (.int v)) (fm_mk S1)) (nx : am_Ev (d + 1) k_M_tryNext 36 [some (.ref 231), some (.int x1), some (.int x2), some (.int x3), o4, o5, o6, o7, o8, o9, o10] [.int v] (fm_mk S1) r) : am_Ev (d + 1) k_M_tryNext 32 [some (.ref 231), some (.int x1), some (.int x2), some (.int x3), o4, o5, o6, o7, o8, o9, o10] [] (fm_mk S) r := by
  refine fs_aloadn (j := 0) (by decide +kernel) rfl ?_
  exact fe_callV (t := 8) (idx := 73) (n := 0) (wp := 1020) (q := (1022, 31)) (as := []) (rs := []) (by decide +kernel) (by decide +kernel) (by decide +kernel) (by decide +kernel) rfl (Nat.le_of_ble_eq_true rfl) rfl hc nx
theorem b_M_tryNext_36 {d : Nat} {x1 : Int32} {x2 : Int32} {x3 : Int32} {o4 : Option Value} {o5 : Option Value} {o6 : Option Value} {o7 : Option Value} {o8 : Option Value} {o9 : Option Value} {o10 : Option Value} {sx0 : Int32} {S : fm_S}  : am_Ev d k_M_tryNext 36 [some (.ref 231), some (.int x1), some (.int x2), some (.int x3), o4, o5, o6, o7, o8, o9, o10] [.int sx0] (fm_mk S) (some (.int sx0), fm_mk S) := by
  exact fe_retI (by decide +kernel) (by decide +kernel)
theorem b_M_tryNext_37 {d : Nat} {x1 : Int32} {x2 : Int32} {x3 : Int32} {o4 : Option Value} {o5 : Option Value} {o6 : Option Value} {o7 : Option Value} {o8 : Option Value} {o9 : Option Value} {o10 : Option Value} {v : Int32} {S1 : fm_S} {S : fm_S} {r : Option Value × am_W} (hi0 : vp_in (5 + x1) 373) (hc : am_Sp d k_M_cravings [.ref 231, .int x1, .int (S.1 232 ((5 + x1).toNatClampNeg))] (fm_mk S) (some (.int v)) (fm_mk S1)) (nx : am_Ev (d + 1) k_M_tryNext 50 [some (.ref 231), some (.int x1), some (.int x2), some (.int x3), o4, o5, o6, o7, o8, o9, o10] [.int v] (fm_mk S1) r) : am_Ev (d + 1) k_M_tryNext 37 [some (.ref 231), some (.int x1), some (.int x2), some (.int x3), o4, o5, o6, o7, o8, o9, o10] [] (fm_mk S) r := by
  refine fs_aloadn (j := 0) (by decide +kernel) rfl ?_
  refine fs_iloadn (j := 1) (by decide +kernel) rfl ?_
  refine fs_aloadn (j := 0) (by decide +kernel) rfl ?_
  refine fe_getR (idx := 7) (t := 8) (f := 0) (fk := 2) (fin := 1) (wp := 945) (x := 232) (by decide +kernel) (by decide +kernel) (by decide +kernel) (by decide +kernel) (by decide +kernel) ?_
  refine fs_iconst (n := 5) (v := 5) (by decide +kernel) (by decide) ?_
  refine fs_iloadn (j := 1) (by decide +kernel) rfl ?_
  refine fs_iadd (by decide +kernel) ?_
  refine fx_iald (n := (5 + x1).toNatClampNeg) (len := 373) (by decide +kernel) (by decide +kernel) (by decide +kernel) hi0 rfl ?_
  exact fe_callV (t := 8) (idx := 223) (n := 2) (wp := 1237) (q := (1239, 54)) (as := [.int x1, .int (S.1 232 ((5 + x1).toNatClampNeg))]) (rs := []) (by decide +kernel) (by decide +kernel) (by decide +kernel) (by decide +kernel) rfl (Nat.le_of_ble_eq_true rfl) rfl hc nx
theorem b_M_tryNext_50 {d : Nat} {x1 : Int32} {x2 : Int32} {x3 : Int32} {o4 : Option Value} {o5 : Option Value} {o6 : Option Value} {o7 : Option Value} {o8 : Option Value} {o9 : Option Value} {o10 : Option Value} {sx0 : Int32} {S : fm_S} {r : Option Value × am_W} (nx : am_Ev d k_M_tryNext 62 [some (.ref 231), some (.int x1), some (.int x2), some (.int x3), some (.int sx0), some (.int (-1)), some (.int 9), some (.int 0), o8, o9, o10] [] (fm_mk S) r) : am_Ev d k_M_tryNext 50 [some (.ref 231), some (.int x1), some (.int x2), some (.int x3), o4, o5, o6, o7, o8, o9, o10] [.int sx0] (fm_mk S) r := by
  refine fs_istore (j := 4) (L' := [some (.ref 231), some (.int x1), some (.int x2), some (.int x3), some (.int sx0), o5, o6, o7, o8, o9, o10]) (by decide +kernel) (Nat.le_of_ble_eq_true rfl) rfl ?_
  refine fs_iconst (n := -1) (v := (-1)) (by decide +kernel) (by decide) ?_
  refine fs_istore (j := 5) (L' := [some (.ref 231), some (.int x1), some (.int x2), some (.int x3), some (.int sx0), some (.int (-1)), o6, o7, o8, o9, o10]) (by decide +kernel) (Nat.le_of_ble_eq_true rfl) rfl ?_
  refine fs_bipush (n := 9) (v := 9) (by decide +kernel) (by decide) ?_
  refine fs_istore (j := 6) (L' := [some (.ref 231), some (.int x1), some (.int x2), some (.int x3), some (.int sx0), some (.int (-1)), some (.int 9), o7, o8, o9, o10]) (by decide +kernel) (Nat.le_of_ble_eq_true rfl) rfl ?_
  refine fs_iconst (n := 0) (v := 0) (by decide +kernel) (by decide) ?_
  refine fs_istore (j := 7) (L' := [some (.ref 231), some (.int x1), some (.int x2), some (.int x3), some (.int sx0), some (.int (-1)), some (.int 9), some (.int 0), o8, o9, o10]) (by decide +kernel) (Nat.le_of_ble_eq_true rfl) rfl ?_
  exact nx
theorem b_M_tryNext_62 {d : Nat} {x1 : Int32} {x2 : Int32} {x3 : Int32} {x4 : Int32} {x5 : Int32} {x6 : Int32} {x7 : Int32} {o8 : Option Value} {o9 : Option Value} {o10 : Option Value} {S : fm_S} {r : Option Value × am_W} (kt : 6 ≤ x7 → am_Ev d k_M_tryNext 200 [some (.ref 231), some (.int x1), some (.int x2), some (.int x3), some (.int x4), some (.int x5), some (.int x6), some (.int x7), o8, o9, o10] [] (fm_mk S) r) (kf : ¬ 6 ≤ x7 → am_Ev d k_M_tryNext 69 [some (.ref 231), some (.int x1), some (.int x2), some (.int x3), some (.int x4), some (.int x5), some (.int x6), some (.int x7), o8, o9, o10] [] (fm_mk S) r) : am_Ev d k_M_tryNext 62 [some (.ref 231), some (.int x1), some (.int x2), some (.int x3), some (.int x4), some (.int x5), some (.int x6), some (.int x7), o8, o9, o10] [] (fm_mk S) r := by
  refine fs_iload (j := 7) (by decide +kernel) rfl ?_
  refine fs_bipush (n := 6) (v := 6) (by decide +kernel) (by decide) ?_
  exact fs_icge (off := 134) (tgt := 200) (by decide +kernel) (by decide) kt kf
theorem b_M_tryNext_69 {d : Nat} {x1 : Int32} {x2 : Int32} {x3 : Int32} {x4 : Int32} {x5 : Int32} {x6 : Int32} {x7 : Int32} {o8 : Option Value} {o9 : Option Value} {o10 : Option Value} {S : fm_S} {r : Option Value × am_W} (kt : x4 = 0 → am_Ev d k_M_tryNext 200 [some (.ref 231), some (.int x1), some (.int x2), some (.int x3), some (.int x4), some (.int x5), some (.int x6), some (.int x7), o8, o9, o10] [] (fm_mk S) r) (kf : ¬ x4 = 0 → am_Ev d k_M_tryNext 74 [some (.ref 231), some (.int x1), some (.int x2), some (.int x3), some (.int x4), some (.int x5), some (.int x6), some (.int x7), o8, o9, o10] [] (fm_mk S) r) : am_Ev d k_M_tryNext 69 [some (.ref 231), some (.int x1), some (.int x2), some (.int x3), some (.int x4), some (.int x5), some (.int x6), some (.int x7), o8, o9, o10] [] (fm_mk S) r := by
  refine fs_iload (j := 4) (by decide +kernel) rfl ?_
  exact fs_ifeq (off := 129) (tgt := 200) (by decide +kernel) (by decide) kt kf
theorem b_M_tryNext_74 {d : Nat} {x1 : Int32} {x2 : Int32} {x3 : Int32} {x4 : Int32} {x5 : Int32} {x6 : Int32} {x7 : Int32} {o8 : Option Value} {o9 : Option Value} {o10 : Option Value} {S : fm_S} {r : Option Value × am_W} (nx : am_Ev d k_M_tryNext 80 [some (.ref 231), some (.int x1), some (.int x2), some (.int x3), some (.int x4), some (.int x5), some (.int x6), some (.int x7), some (.int 0), some (.int 0), o10] [] (fm_mk S) r) : am_Ev d k_M_tryNext 74 [some (.ref 231), some (.int x1), some (.int x2), some (.int x3), some (.int x4), some (.int x5), some (.int x6), some (.int x7), o8, o9, o10] [] (fm_mk S) r := by
  refine fs_iconst (n := 0) (v := 0) (by decide +kernel) (by decide) ?_
  refine fs_istore (j := 8) (L' := [some (.ref 231), some (.int x1), some (.int x2), some (.int x3), some (.int x4), some (.int x5), some (.int x6), some (.int x7), some (.int 0), o9, o10]) (by decide +kernel) (Nat.le_of_ble_eq_true rfl) rfl ?_
  refine fs_iconst (n := 0) (v := 0) (by decide +kernel) (by decide) ?_
  refine fs_istore (j := 9) (L' := [some (.ref 231), some (.int x1), some (.int x2), some (.int x3), some (.int x4), some (.int x5), some (.int x6), some (.int x7), some (.int 0), some (.int 0), o10]) (by decide +kernel) (Nat.le_of_ble_eq_true rfl) rfl ?_
  exact nx
theorem b_M_tryNext_80 {d : Nat} {x1 : Int32} {x2 : Int32} {x3 : Int32} {x4 : Int32} {x5 : Int32} {x6 : Int32} {x7 : Int32} {x8 : Int32} {x9 : Int32} {o10 : Option Value} {S : fm_S} {r : Option Value × am_W} (kt : 6 ≤ x9 → am_Ev d k_M_tryNext 136 [some (.ref 231), some (.int x1), some (.int x2), some (.int x3), some (.int x4), some (.int x5), some (.int x6), some (.int x7), some (.int x8), some (.int x9), o10] [] (fm_mk S) r) (kf : ¬ 6 ≤ x9 → am_Ev d k_M_tryNext 87 [some (.ref 231), some (.int x1), some (.int x2), some (.int x3), some (.int x4), some (.int x5), some (.int x6), some (.int x7), some (.int x8), some (.int x9), o10] [] (fm_mk S) r) : am_Ev d k_M_tryNext 80 [some (.ref 231), some (.int x1), some (.int x2), some (.int x3), some (.int x4), some (.int x5), some (.int x6), some (.int x7), some (.int x8), some (.int x9), o10] [] (fm_mk S) r := by
  refine fs_iload (j := 9) (by decide +kernel) rfl ?_
  refine fs_bipush (n := 6) (v := 6) (by decide +kernel) (by decide) ?_
  exact fs_icge (off := 52) (tgt := 136) (by decide +kernel) (by decide) kt kf
theorem b_M_tryNext_87 {d : Nat} {x1 : Int32} {x2 : Int32} {x3 : Int32} {x4 : Int32} {x5 : Int32} {x6 : Int32} {x7 : Int32} {x8 : Int32} {x9 : Int32} {o10 : Option Value} {v : Int32} {S1 : fm_S} {S : fm_S} {r : Option Value × am_W} (hc : am_Sp d k_M_has [.int x4, .int x9] (fm_mk S) (some (.int v)) (fm_mk S1)) (nx : am_Ev (d + 1) k_M_tryNext 96 [some (.ref 231), some (.int x1), some (.int x2), some (.int x3), some (.int x4), some (.int x5), some (.int x6), some (.int x7), some (.int x8), some (.int x9), o10] [.int v, .int x8] (fm_mk S1) r) : am_Ev (d + 1) k_M_tryNext 87 [some (.ref 231), some (.int x1), some (.int x2), some (.int x3), some (.int x4), some (.int x5), some (.int x6), some (.int x7), some (.int x8), some (.int x9), o10] [] (fm_mk S) r := by
  refine fs_iload (j := 8) (by decide +kernel) rfl ?_
  refine fs_iload (j := 4) (by decide +kernel) rfl ?_
  refine fs_iload (j := 9) (by decide +kernel) rfl ?_
  exact fe_callS (idx := 190) (kd := 0) (n := 2) (wp := 1157) (q := (1158, 0)) (as := [.int x4, .int x9]) (rs := [.int x8]) (by decide +kernel) (by decide +kernel) (by decide +kernel) (by decide) rfl (Nat.le_of_ble_eq_true rfl) rfl hc nx
theorem b_M_tryNext_96 {d : Nat} {x1 : Int32} {x2 : Int32} {x3 : Int32} {x4 : Int32} {x5 : Int32} {x6 : Int32} {x7 : Int32} {x8 : Int32} {x9 : Int32} {o10 : Option Value} {sx0 : Int32} {sx1 : Int32} {S : fm_S} {r : Option Value × am_W} (kt : sx1 = 0 → am_Ev d k_M_tryNext 126 [some (.ref 231), some (.int x1), some (.int x2), some (.int x3), some (.int x4), some (.int x5), some (.int x6), some (.int x7), some (.int x8), some (.int x9), o10] [.int sx0] (fm_mk S) r) (kf : ¬ sx1 = 0 → am_Ev d k_M_tryNext 99 [some (.ref 231), some (.int x1), some (.int x2), some (.int x3), some (.int x4), some (.int x5), some (.int x6), some (.int x7), some (.int x8), some (.int x9), o10] [.int sx0] (fm_mk S) r) : am_Ev d k_M_tryNext 96 [some (.ref 231), some (.int x1), some (.int x2), some (.int x3), some (.int x4), some (.int x5), some (.int x6), some (.int x7), some (.int x8), some (.int x9), o10] [.int sx1, .int sx0] (fm_mk S) r := by
  exact fs_ifeq (off := 30) (tgt := 126) (by decide +kernel) (by decide) kt kf
theorem b_M_tryNext_99 {d : Nat} {x1 : Int32} {x2 : Int32} {x3 : Int32} {x4 : Int32} {x5 : Int32} {x6 : Int32} {x7 : Int32} {x8 : Int32} {x9 : Int32} {o10 : Option Value} {sx0 : Int32} {v : Int32} {S1 : fm_S} {S : fm_S} {r : Option Value × am_W} (hi0 : vp_in (5 + x1) 373) (hc : am_Sp d k_M_movedBy [.int (S.1 232 ((5 + x1).toNatClampNeg)), .int x9, .int x7, .int x2, .int x3, .int 0] (fm_mk S) (some (.int v)) (fm_mk S1)) (nx : am_Ev (d + 1) k_M_tryNext 117 [some (.ref 231), some (.int x1), some (.int x2), some (.int x3), some (.int x4), some (.int x5), some (.int x6), some (.int x7), some (.int x8), some (.int x9), o10] [.int v, .int sx0] (fm_mk S1) r) : am_Ev (d + 1) k_M_tryNext 99 [some (.ref 231), some (.int x1), some (.int x2), some (.int x3), some (.int x4), some (.int x5), some (.int x6), some (.int x7), some (.int x8), some (.int x9), o10] [.int sx0] (fm_mk S) r := by
  refine fs_aloadn (j := 0) (by decide +kernel) rfl ?_
  refine fe_getR (idx := 7) (t := 8) (f := 0) (fk := 2) (fin := 1) (wp := 945) (x := 232) (by decide +kernel) (by decide +kernel) (by decide +kernel) (by decide +kernel) (by decide +kernel) ?_
  refine fs_iconst (n := 5) (v := 5) (by decide +kernel) (by decide) ?_
  refine fs_iloadn (j := 1) (by decide +kernel) rfl ?_
  refine fs_iadd (by decide +kernel) ?_
  refine fx_iald (n := (5 + x1).toNatClampNeg) (len := 373) (by decide +kernel) (by decide +kernel) (by decide +kernel) hi0 rfl ?_
  refine fs_iload (j := 9) (by decide +kernel) rfl ?_
  refine fs_iload (j := 7) (by decide +kernel) rfl ?_
  refine fs_iloadn (j := 2) (by decide +kernel) rfl ?_
  refine fs_iloadn (j := 3) (by decide +kernel) rfl ?_
  refine fs_iconst (n := 0) (v := 0) (by decide +kernel) (by decide) ?_
  exact fe_callS (idx := 168) (kd := 0) (n := 6) (wp := 1154) (q := (1155, 0)) (as := [.int (S.1 232 ((5 + x1).toNatClampNeg)), .int x9, .int x7, .int x2, .int x3, .int 0]) (rs := [.int sx0]) (by decide +kernel) (by decide +kernel) (by decide +kernel) (by decide) rfl (Nat.le_of_ble_eq_true rfl) rfl hc nx
theorem b_M_tryNext_117 {d : Nat} {x1 : Int32} {x2 : Int32} {x3 : Int32} {x4 : Int32} {x5 : Int32} {x6 : Int32} {x7 : Int32} {x8 : Int32} {x9 : Int32} {o10 : Option Value} {sx0 : Int32} {sx1 : Int32} {S : fm_S} {r : Option Value × am_W} (kt : sx1 < 10 → am_Ev d k_M_tryNext 126 [some (.ref 231), some (.int x1), some (.int x2), some (.int x3), some (.int x4), some (.int x5), some (.int x6), some (.int x7), some (.int x8), some (.int x9), o10] [.int sx0] (fm_mk S) r) (kf : ¬ sx1 < 10 → am_Ev d k_M_tryNext 122 [some (.ref 231), some (.int x1), some (.int x2), some (.int x3), some (.int x4), some (.int x5), some (.int x6), some (.int x7), some (.int x8), some (.int x9), o10] [.int sx0] (fm_mk S) r) : am_Ev d k_M_tryNext 117 [some (.ref 231), some (.int x1), some (.int x2), some (.int x3), some (.int x4), some (.int x5), some (.int x6), some (.int x7), some (.int x8), some (.int x9), o10] [.int sx1, .int sx0] (fm_mk S) r := by
  refine fs_bipush (n := 10) (v := 10) (by decide +kernel) (by decide) ?_
  exact fs_iclt (off := 7) (tgt := 126) (by decide +kernel) (by decide) kt kf
theorem b_M_tryNext_122 {d : Nat} {x1 : Int32} {x2 : Int32} {x3 : Int32} {x4 : Int32} {x5 : Int32} {x6 : Int32} {x7 : Int32} {x8 : Int32} {x9 : Int32} {o10 : Option Value} {sx0 : Int32} {S : fm_S} {r : Option Value × am_W} (nx : am_Ev d k_M_tryNext 127 [some (.ref 231), some (.int x1), some (.int x2), some (.int x3), some (.int x4), some (.int x5), some (.int x6), some (.int x7), some (.int x8), some (.int x9), o10] [.int 1, .int sx0] (fm_mk S) r) : am_Ev d k_M_tryNext 122 [some (.ref 231), some (.int x1), some (.int x2), some (.int x3), some (.int x4), some (.int x5), some (.int x6), some (.int x7), some (.int x8), some (.int x9), o10] [.int sx0] (fm_mk S) r := by
  refine fs_iconst (n := 1) (v := 1) (by decide +kernel) (by decide) ?_
  refine fs_goto (off := 4) (tgt := 127) (by decide +kernel) (by decide) ?_
  exact nx
theorem b_M_tryNext_126 {d : Nat} {x1 : Int32} {x2 : Int32} {x3 : Int32} {x4 : Int32} {x5 : Int32} {x6 : Int32} {x7 : Int32} {x8 : Int32} {x9 : Int32} {o10 : Option Value} {sx0 : Int32} {S : fm_S} {r : Option Value × am_W} (nx : am_Ev d k_M_tryNext 127 [some (.ref 231), some (.int x1), some (.int x2), some (.int x3), some (.int x4), some (.int x5), some (.int x6), some (.int x7), some (.int x8), some (.int x9), o10] [.int 0, .int sx0] (fm_mk S) r) : am_Ev d k_M_tryNext 126 [some (.ref 231), some (.int x1), some (.int x2), some (.int x3), some (.int x4), some (.int x5), some (.int x6), some (.int x7), some (.int x8), some (.int x9), o10] [.int sx0] (fm_mk S) r := by
  refine fs_iconst (n := 0) (v := 0) (by decide +kernel) (by decide) ?_
  exact nx
theorem b_M_tryNext_127 {d : Nat} {x1 : Int32} {x2 : Int32} {x3 : Int32} {x4 : Int32} {x5 : Int32} {x6 : Int32} {x7 : Int32} {x8 : Int32} {x9 : Int32} {o10 : Option Value} {sx0 : Int32} {sx1 : Int32} {S : fm_S} {r : Option Value × am_W} (nx : am_Ev d k_M_tryNext 80 [some (.ref 231), some (.int x1), some (.int x2), some (.int x3), some (.int x4), some (.int x5), some (.int x6), some (.int x7), some (.int (sx0 + sx1)), some (.int (x9 + 1)), o10] [] (fm_mk S) r) : am_Ev d k_M_tryNext 127 [some (.ref 231), some (.int x1), some (.int x2), some (.int x3), some (.int x4), some (.int x5), some (.int x6), some (.int x7), some (.int x8), some (.int x9), o10] [.int sx1, .int sx0] (fm_mk S) r := by
  refine fs_iadd (by decide +kernel) ?_
  refine fs_istore (j := 8) (L' := [some (.ref 231), some (.int x1), some (.int x2), some (.int x3), some (.int x4), some (.int x5), some (.int x6), some (.int x7), some (.int (sx0 + sx1)), some (.int x9), o10]) (by decide +kernel) (Nat.le_of_ble_eq_true rfl) rfl ?_
  refine fs_iinc (j := 9) (n := 1) (v := 1) (L' := [some (.ref 231), some (.int x1), some (.int x2), some (.int x3), some (.int x4), some (.int x5), some (.int x6), some (.int x7), some (.int (sx0 + sx1)), some (.int (x9 + 1)), o10]) (by decide +kernel) rfl (Nat.le_of_ble_eq_true rfl) (by decide) rfl ?_
  refine fs_goto (off := -53) (tgt := 80) (by decide +kernel) (by decide) ?_
  exact nx
theorem b_M_tryNext_136 {d : Nat} {x1 : Int32} {x2 : Int32} {x3 : Int32} {x4 : Int32} {x5 : Int32} {x6 : Int32} {x7 : Int32} {x8 : Int32} {x9 : Int32} {o10 : Option Value} {v : Int32} {S1 : fm_S} {S : fm_S} {r : Option Value × am_W} (hc : am_Sp d k_M_bits [.int x4] (fm_mk S) (some (.int v)) (fm_mk S1)) (nx : am_Ev (d + 1) k_M_tryNext 141 [some (.ref 231), some (.int x1), some (.int x2), some (.int x3), some (.int x4), some (.int x5), some (.int x6), some (.int x7), some (.int x8), some (.int x9), o10] [.int v] (fm_mk S1) r) : am_Ev (d + 1) k_M_tryNext 136 [some (.ref 231), some (.int x1), some (.int x2), some (.int x3), some (.int x4), some (.int x5), some (.int x6), some (.int x7), some (.int x8), some (.int x9), o10] [] (fm_mk S) r := by
  refine fs_iload (j := 4) (by decide +kernel) rfl ?_
  exact fe_callS (idx := 207) (kd := 0) (n := 1) (wp := 1196) (q := (1197, 0)) (as := [.int x4]) (rs := []) (by decide +kernel) (by decide +kernel) (by decide +kernel) (by decide) rfl (Nat.le_of_ble_eq_true rfl) rfl hc nx
theorem b_M_tryNext_141 {d : Nat} {x1 : Int32} {x2 : Int32} {x3 : Int32} {x4 : Int32} {x5 : Int32} {x6 : Int32} {x7 : Int32} {x8 : Int32} {x9 : Int32} {o10 : Option Value} {sx0 : Int32} {S : fm_S} {r : Option Value × am_W} (kt : x8 ≤ (sx0 - x8) → am_Ev d k_M_tryNext 158 [some (.ref 231), some (.int x1), some (.int x2), some (.int x3), some (.int x4), some (.int x5), some (.int x6), some (.int x7), some (.int x8), some (.int (sx0 - x8)), o10] [] (fm_mk S) r) (kf : ¬ x8 ≤ (sx0 - x8) → am_Ev d k_M_tryNext 153 [some (.ref 231), some (.int x1), some (.int x2), some (.int x3), some (.int x4), some (.int x5), some (.int x6), some (.int x7), some (.int x8), some (.int (sx0 - x8)), o10] [] (fm_mk S) r) : am_Ev d k_M_tryNext 141 [some (.ref 231), some (.int x1), some (.int x2), some (.int x3), some (.int x4), some (.int x5), some (.int x6), some (.int x7), some (.int x8), some (.int x9), o10] [.int sx0] (fm_mk S) r := by
  refine fs_iload (j := 8) (by decide +kernel) rfl ?_
  refine fs_isub (by decide +kernel) ?_
  refine fs_istore (j := 9) (L' := [some (.ref 231), some (.int x1), some (.int x2), some (.int x3), some (.int x4), some (.int x5), some (.int x6), some (.int x7), some (.int x8), some (.int (sx0 - x8)), o10]) (by decide +kernel) (Nat.le_of_ble_eq_true rfl) rfl ?_
  refine fs_iload (j := 8) (by decide +kernel) rfl ?_
  refine fs_iload (j := 9) (by decide +kernel) rfl ?_
  exact fs_icle (off := 8) (tgt := 158) (by decide +kernel) (by decide) kt kf
theorem b_M_tryNext_153 {d : Nat} {x1 : Int32} {x2 : Int32} {x3 : Int32} {x4 : Int32} {x5 : Int32} {x6 : Int32} {x7 : Int32} {x8 : Int32} {x9 : Int32} {o10 : Option Value} {S : fm_S} {r : Option Value × am_W} (nx : am_Ev d k_M_tryNext 160 [some (.ref 231), some (.int x1), some (.int x2), some (.int x3), some (.int x4), some (.int x5), some (.int x6), some (.int x7), some (.int x8), some (.int x9), o10] [.int x8] (fm_mk S) r) : am_Ev d k_M_tryNext 153 [some (.ref 231), some (.int x1), some (.int x2), some (.int x3), some (.int x4), some (.int x5), some (.int x6), some (.int x7), some (.int x8), some (.int x9), o10] [] (fm_mk S) r := by
  refine fs_iload (j := 8) (by decide +kernel) rfl ?_
  refine fs_goto (off := 5) (tgt := 160) (by decide +kernel) (by decide) ?_
  exact nx
theorem b_M_tryNext_158 {d : Nat} {x1 : Int32} {x2 : Int32} {x3 : Int32} {x4 : Int32} {x5 : Int32} {x6 : Int32} {x7 : Int32} {x8 : Int32} {x9 : Int32} {o10 : Option Value} {S : fm_S} {r : Option Value × am_W} (nx : am_Ev d k_M_tryNext 160 [some (.ref 231), some (.int x1), some (.int x2), some (.int x3), some (.int x4), some (.int x5), some (.int x6), some (.int x7), some (.int x8), some (.int x9), o10] [.int x9] (fm_mk S) r) : am_Ev d k_M_tryNext 158 [some (.ref 231), some (.int x1), some (.int x2), some (.int x3), some (.int x4), some (.int x5), some (.int x6), some (.int x7), some (.int x8), some (.int x9), o10] [] (fm_mk S) r := by
  refine fs_iload (j := 9) (by decide +kernel) rfl ?_
  exact nx
theorem b_M_tryNext_160 {d : Nat} {x1 : Int32} {x2 : Int32} {x3 : Int32} {x4 : Int32} {x5 : Int32} {x6 : Int32} {x7 : Int32} {x8 : Int32} {x9 : Int32} {o10 : Option Value} {sx0 : Int32} {S : fm_S} {r : Option Value × am_W} (kt : x6 ≤ sx0 → am_Ev d k_M_tryNext 174 [some (.ref 231), some (.int x1), some (.int x2), some (.int x3), some (.int x4), some (.int x5), some (.int x6), some (.int x7), some (.int x8), some (.int x9), some (.int sx0)] [] (fm_mk S) r) (kf : ¬ x6 ≤ sx0 → am_Ev d k_M_tryNext 169 [some (.ref 231), some (.int x1), some (.int x2), some (.int x3), some (.int x4), some (.int x5), some (.int x6), some (.int x7), some (.int x8), some (.int x9), some (.int sx0)] [] (fm_mk S) r) : am_Ev d k_M_tryNext 160 [some (.ref 231), some (.int x1), some (.int x2), some (.int x3), some (.int x4), some (.int x5), some (.int x6), some (.int x7), some (.int x8), some (.int x9), o10] [.int sx0] (fm_mk S) r := by
  refine fs_istore (j := 10) (L' := [some (.ref 231), some (.int x1), some (.int x2), some (.int x3), some (.int x4), some (.int x5), some (.int x6), some (.int x7), some (.int x8), some (.int x9), some (.int sx0)]) (by decide +kernel) (Nat.le_of_ble_eq_true rfl) rfl ?_
  refine fs_iload (j := 10) (by decide +kernel) rfl ?_
  refine fs_iload (j := 6) (by decide +kernel) rfl ?_
  exact fs_icge (off := 8) (tgt := 174) (by decide +kernel) (by decide) kt kf
theorem b_M_tryNext_169 {d : Nat} {x1 : Int32} {x2 : Int32} {x3 : Int32} {x4 : Int32} {x5 : Int32} {x6 : Int32} {x7 : Int32} {x8 : Int32} {x9 : Int32} {x10 : Int32} {S : fm_S} {r : Option Value × am_W} (nx : am_Ev d k_M_tryNext 176 [some (.ref 231), some (.int x1), some (.int x2), some (.int x3), some (.int x4), some (.int x5), some (.int x6), some (.int x7), some (.int x8), some (.int x9), some (.int x10)] [.int x7] (fm_mk S) r) : am_Ev d k_M_tryNext 169 [some (.ref 231), some (.int x1), some (.int x2), some (.int x3), some (.int x4), some (.int x5), some (.int x6), some (.int x7), some (.int x8), some (.int x9), some (.int x10)] [] (fm_mk S) r := by
  refine fs_iload (j := 7) (by decide +kernel) rfl ?_
  refine fs_goto (off := 5) (tgt := 176) (by decide +kernel) (by decide) ?_
  exact nx
theorem b_M_tryNext_174 {d : Nat} {x1 : Int32} {x2 : Int32} {x3 : Int32} {x4 : Int32} {x5 : Int32} {x6 : Int32} {x7 : Int32} {x8 : Int32} {x9 : Int32} {x10 : Int32} {S : fm_S} {r : Option Value × am_W} (nx : am_Ev d k_M_tryNext 176 [some (.ref 231), some (.int x1), some (.int x2), some (.int x3), some (.int x4), some (.int x5), some (.int x6), some (.int x7), some (.int x8), some (.int x9), some (.int x10)] [.int x5] (fm_mk S) r) : am_Ev d k_M_tryNext 174 [some (.ref 231), some (.int x1), some (.int x2), some (.int x3), some (.int x4), some (.int x5), some (.int x6), some (.int x7), some (.int x8), some (.int x9), some (.int x10)] [] (fm_mk S) r := by
  refine fs_iload (j := 5) (by decide +kernel) rfl ?_
  exact nx
theorem b_M_tryNext_176 {d : Nat} {x1 : Int32} {x2 : Int32} {x3 : Int32} {x4 : Int32} {x5 : Int32} {x6 : Int32} {x7 : Int32} {x8 : Int32} {x9 : Int32} {x10 : Int32} {sx0 : Int32} {S : fm_S} {r : Option Value × am_W} (kt : x6 ≤ x10 → am_Ev d k_M_tryNext 190 [some (.ref 231), some (.int x1), some (.int x2), some (.int x3), some (.int x4), some (.int sx0), some (.int x6), some (.int x7), some (.int x8), some (.int x9), some (.int x10)] [] (fm_mk S) r) (kf : ¬ x6 ≤ x10 → am_Ev d k_M_tryNext 185 [some (.ref 231), some (.int x1), some (.int x2), some (.int x3), some (.int x4), some (.int sx0), some (.int x6), some (.int x7), some (.int x8), some (.int x9), some (.int x10)] [] (fm_mk S) r) : am_Ev d k_M_tryNext 176 [some (.ref 231), some (.int x1), some (.int x2), some (.int x3), some (.int x4), some (.int x5), some (.int x6), some (.int x7), some (.int x8), some (.int x9), some (.int x10)] [.int sx0] (fm_mk S) r := by
  refine fs_istore (j := 5) (L' := [some (.ref 231), some (.int x1), some (.int x2), some (.int x3), some (.int x4), some (.int sx0), some (.int x6), some (.int x7), some (.int x8), some (.int x9), some (.int x10)]) (by decide +kernel) (Nat.le_of_ble_eq_true rfl) rfl ?_
  refine fs_iload (j := 10) (by decide +kernel) rfl ?_
  refine fs_iload (j := 6) (by decide +kernel) rfl ?_
  exact fs_icge (off := 8) (tgt := 190) (by decide +kernel) (by decide) kt kf
theorem b_M_tryNext_185 {d : Nat} {x1 : Int32} {x2 : Int32} {x3 : Int32} {x4 : Int32} {x5 : Int32} {x6 : Int32} {x7 : Int32} {x8 : Int32} {x9 : Int32} {x10 : Int32} {S : fm_S} {r : Option Value × am_W} (nx : am_Ev d k_M_tryNext 192 [some (.ref 231), some (.int x1), some (.int x2), some (.int x3), some (.int x4), some (.int x5), some (.int x6), some (.int x7), some (.int x8), some (.int x9), some (.int x10)] [.int x10] (fm_mk S) r) : am_Ev d k_M_tryNext 185 [some (.ref 231), some (.int x1), some (.int x2), some (.int x3), some (.int x4), some (.int x5), some (.int x6), some (.int x7), some (.int x8), some (.int x9), some (.int x10)] [] (fm_mk S) r := by
  refine fs_iload (j := 10) (by decide +kernel) rfl ?_
  refine fs_goto (off := 5) (tgt := 192) (by decide +kernel) (by decide) ?_
  exact nx
theorem b_M_tryNext_190 {d : Nat} {x1 : Int32} {x2 : Int32} {x3 : Int32} {x4 : Int32} {x5 : Int32} {x6 : Int32} {x7 : Int32} {x8 : Int32} {x9 : Int32} {x10 : Int32} {S : fm_S} {r : Option Value × am_W} (nx : am_Ev d k_M_tryNext 192 [some (.ref 231), some (.int x1), some (.int x2), some (.int x3), some (.int x4), some (.int x5), some (.int x6), some (.int x7), some (.int x8), some (.int x9), some (.int x10)] [.int x6] (fm_mk S) r) : am_Ev d k_M_tryNext 190 [some (.ref 231), some (.int x1), some (.int x2), some (.int x3), some (.int x4), some (.int x5), some (.int x6), some (.int x7), some (.int x8), some (.int x9), some (.int x10)] [] (fm_mk S) r := by
  refine fs_iload (j := 6) (by decide +kernel) rfl ?_
  exact nx
theorem b_M_tryNext_192 {d : Nat} {x1 : Int32} {x2 : Int32} {x3 : Int32} {x4 : Int32} {x5 : Int32} {x6 : Int32} {x7 : Int32} {x8 : Int32} {x9 : Int32} {x10 : Int32} {sx0 : Int32} {S : fm_S} {r : Option Value × am_W} (nx : am_Ev d k_M_tryNext 62 [some (.ref 231), some (.int x1), some (.int x2), some (.int x3), some (.int x4), some (.int x5), some (.int sx0), some (.int (x7 + 1)), some (.int x8), some (.int x9), some (.int x10)] [] (fm_mk S) r) : am_Ev d k_M_tryNext 192 [some (.ref 231), some (.int x1), some (.int x2), some (.int x3), some (.int x4), some (.int x5), some (.int x6), some (.int x7), some (.int x8), some (.int x9), some (.int x10)] [.int sx0] (fm_mk S) r := by
  refine fs_istore (j := 6) (L' := [some (.ref 231), some (.int x1), some (.int x2), some (.int x3), some (.int x4), some (.int x5), some (.int sx0), some (.int x7), some (.int x8), some (.int x9), some (.int x10)]) (by decide +kernel) (Nat.le_of_ble_eq_true rfl) rfl ?_
  refine fs_iinc (j := 7) (n := 1) (v := 1) (L' := [some (.ref 231), some (.int x1), some (.int x2), some (.int x3), some (.int x4), some (.int x5), some (.int sx0), some (.int (x7 + 1)), some (.int x8), some (.int x9), some (.int x10)]) (by decide +kernel) rfl (Nat.le_of_ble_eq_true rfl) (by decide) rfl ?_
  refine fs_goto (off := -135) (tgt := 62) (by decide +kernel) (by decide) ?_
  exact nx
theorem b_M_tryNext_200 {d : Nat} {x1 : Int32} {x2 : Int32} {x3 : Int32} {x4 : Int32} {x5 : Int32} {x6 : Int32} {x7 : Int32} {o8 : Option Value} {o9 : Option Value} {o10 : Option Value} {S : fm_S}  : am_Ev d k_M_tryNext 200 [some (.ref 231), some (.int x1), some (.int x2), some (.int x3), some (.int x4), some (.int x5), some (.int x6), some (.int x7), o8, o9, o10] [] (fm_mk S) (some (.int x5), fm_mk S) := by
  refine fs_iload (j := 5) (by decide +kernel) rfl ?_
  exact fe_retI (by decide +kernel) (by decide +kernel)
-- KitchenSiegeModel.rain(III)I
theorem b_M_rain_0 {d : Nat} {x1 : Int32} {x2 : Int32} {x3 : Int32} {o4 : Option Value} {o5 : Option Value} {o6 : Option Value} {o7 : Option Value} {o8 : Option Value} {o9 : Option Value} {o10 : Option Value} {v : Int32} {S1 : fm_S} {S : fm_S} {r : Option Value × am_W} (hc : am_Sp d k_M_isDish [.ref 231, .int x1] (fm_mk S) (some (.int v)) (fm_mk S1)) (nx : am_Ev (d + 1) k_M_rain 5 [some (.ref 231), some (.int x1), some (.int x2), some (.int x3), o4, o5, o6, o7, o8, o9, o10] [.int v] (fm_mk S1) r) : am_Ev (d + 1) k_M_rain 0 [some (.ref 231), some (.int x1), some (.int x2), some (.int x3), o4, o5, o6, o7, o8, o9, o10] [] (fm_mk S) r := by
  refine fs_aloadn (j := 0) (by decide +kernel) rfl ?_
  refine fs_iloadn (j := 1) (by decide +kernel) rfl ?_
  exact fe_callV (t := 8) (idx := 172) (n := 1) (wp := 1127) (q := (1129, 43)) (as := [.int x1]) (rs := []) (by decide +kernel) (by decide +kernel) (by decide +kernel) (by decide +kernel) rfl (Nat.le_of_ble_eq_true rfl) rfl hc nx
theorem b_M_rain_5 {d : Nat} {x1 : Int32} {x2 : Int32} {x3 : Int32} {o4 : Option Value} {o5 : Option Value} {o6 : Option Value} {o7 : Option Value} {o8 : Option Value} {o9 : Option Value} {o10 : Option Value} {sx0 : Int32} {S : fm_S} {r : Option Value × am_W} (kt : sx0 = 0 → am_Ev d k_M_rain 32 [some (.ref 231), some (.int x1), some (.int x2), some (.int x3), o4, o5, o6, o7, o8, o9, o10] [] (fm_mk S) r) (kf : ¬ sx0 = 0 → am_Ev d k_M_rain 8 [some (.ref 231), some (.int x1), some (.int x2), some (.int x3), o4, o5, o6, o7, o8, o9, o10] [] (fm_mk S) r) : am_Ev d k_M_rain 5 [some (.ref 231), some (.int x1), some (.int x2), some (.int x3), o4, o5, o6, o7, o8, o9, o10] [.int sx0] (fm_mk S) r := by
  exact fs_ifeq (off := 27) (tgt := 32) (by decide +kernel) (by decide) kt kf
theorem b_M_rain_8 {d : Nat} {x1 : Int32} {x2 : Int32} {x3 : Int32} {o4 : Option Value} {o5 : Option Value} {o6 : Option Value} {o7 : Option Value} {o8 : Option Value} {o9 : Option Value} {o10 : Option Value} {v : Int32} {S1 : fm_S} {S : fm_S} {r : Option Value × am_W} (hc : am_Sp d k_M_in [.long x2.toInt64, .long 0, .long 10] (fm_mk S) (some (.int v)) (fm_mk S1)) (nx : am_Ev (d + 1) k_M_rain 17 [some (.ref 231), some (.int x1), some (.int x2), some (.int x3), o4, o5, o6, o7, o8, o9, o10] [.int v] (fm_mk S1) r) : am_Ev (d + 1) k_M_rain 8 [some (.ref 231), some (.int x1), some (.int x2), some (.int x3), o4, o5, o6, o7, o8, o9, o10] [] (fm_mk S) r := by
  refine fs_iloadn (j := 2) (by decide +kernel) rfl ?_
  refine fs_i2l (by decide +kernel) ?_
  refine fs_lconst (n := 0) (v := 0) (by decide +kernel) (by decide) ?_
  refine fs_ldc2 (idx := 226) (q := 1253) (v := 10) (by decide +kernel) (by decide +kernel) ?_
  exact fe_callS (idx := 67) (kd := 0) (n := 3) (wp := 1016) (q := (1017, 0)) (as := [.long x2.toInt64, .long 0, .long 10]) (rs := []) (by decide +kernel) (by decide +kernel) (by decide +kernel) (by decide) rfl (Nat.le_of_ble_eq_true rfl) rfl hc nx
theorem b_M_rain_17 {d : Nat} {x1 : Int32} {x2 : Int32} {x3 : Int32} {o4 : Option Value} {o5 : Option Value} {o6 : Option Value} {o7 : Option Value} {o8 : Option Value} {o9 : Option Value} {o10 : Option Value} {sx0 : Int32} {S : fm_S} {r : Option Value × am_W} (kt : sx0 = 0 → am_Ev d k_M_rain 32 [some (.ref 231), some (.int x1), some (.int x2), some (.int x3), o4, o5, o6, o7, o8, o9, o10] [] (fm_mk S) r) (kf : ¬ sx0 = 0 → am_Ev d k_M_rain 20 [some (.ref 231), some (.int x1), some (.int x2), some (.int x3), o4, o5, o6, o7, o8, o9, o10] [] (fm_mk S) r) : am_Ev d k_M_rain 17 [some (.ref 231), some (.int x1), some (.int x2), some (.int x3), o4, o5, o6, o7, o8, o9, o10] [.int sx0] (fm_mk S) r := by
  exact fs_ifeq (off := 15) (tgt := 32) (by decide +kernel) (by decide) kt kf
theorem b_M_rain_20 {d : Nat} {x1 : Int32} {x2 : Int32} {x3 : Int32} {o4 : Option Value} {o5 : Option Value} {o6 : Option Value} {o7 : Option Value} {o8 : Option Value} {o9 : Option Value} {o10 : Option Value} {v : Int32} {S1 : fm_S} {S : fm_S} {r : Option Value × am_W} (hc : am_Sp d k_M_in [.long x3.toInt64, .long 0, .long 8] (fm_mk S) (some (.int v)) (fm_mk S1)) (nx : am_Ev (d + 1) k_M_rain 29 [some (.ref 231), some (.int x1), some (.int x2), some (.int x3), o4, o5, o6, o7, o8, o9, o10] [.int v] (fm_mk S1) r) : am_Ev (d + 1) k_M_rain 20 [some (.ref 231), some (.int x1), some (.int x2), some (.int x3), o4, o5, o6, o7, o8, o9, o10] [] (fm_mk S) r := by
  refine fs_iloadn (j := 3) (by decide +kernel) rfl ?_
  refine fs_i2l (by decide +kernel) ?_
  refine fs_lconst (n := 0) (v := 0) (by decide +kernel) (by decide) ?_
  refine fs_ldc2 (idx := 228) (q := 1254) (v := 8) (by decide +kernel) (by decide +kernel) ?_
  exact fe_callS (idx := 67) (kd := 0) (n := 3) (wp := 1016) (q := (1017, 0)) (as := [.long x3.toInt64, .long 0, .long 8]) (rs := []) (by decide +kernel) (by decide +kernel) (by decide +kernel) (by decide) rfl (Nat.le_of_ble_eq_true rfl) rfl hc nx
theorem b_M_rain_29 {d : Nat} {x1 : Int32} {x2 : Int32} {x3 : Int32} {o4 : Option Value} {o5 : Option Value} {o6 : Option Value} {o7 : Option Value} {o8 : Option Value} {o9 : Option Value} {o10 : Option Value} {sx0 : Int32} {S : fm_S} {r : Option Value × am_W} (kt : ¬ sx0 = 0 → am_Ev d k_M_rain 37 [some (.ref 231), some (.int x1), some (.int x2), some (.int x3), o4, o5, o6, o7, o8, o9, o10] [] (fm_mk S) r) (kf : sx0 = 0 → am_Ev d k_M_rain 32 [some (.ref 231), some (.int x1), some (.int x2), some (.int x3), o4, o5, o6, o7, o8, o9, o10] [] (fm_mk S) r) : am_Ev d k_M_rain 29 [some (.ref 231), some (.int x1), some (.int x2), some (.int x3), o4, o5, o6, o7, o8, o9, o10] [.int sx0] (fm_mk S) r := by
  exact fs_ifne (off := 8) (tgt := 37) (by decide +kernel) (by decide) kt kf
theorem b_M_rain_32 {d : Nat} {x1 : Int32} {x2 : Int32} {x3 : Int32} {o4 : Option Value} {o5 : Option Value} {o6 : Option Value} {o7 : Option Value} {o8 : Option Value} {o9 : Option Value} {o10 : Option Value} {v : Int32} {S1 : fm_S} {S : fm_S} {r : Option Value × am_W} (hc : am_Sp d k_M_bad [.ref 231] (fm_mk S) (some (.int v)) (fm_mk S1)) (nx : am_Ev (d + 1) k_M_rain 36 [some (.ref 231), some (.int x1), some (.int x2), some (.int x3), o4, o5, o6, o7, o8, o9, o10] [.int v] (fm_mk S1) r) : am_Ev (d + 1) k_M_rain 32 [some (.ref 231), some (.int x1), some (.int x2), some (.int x3), o4, o5, o6, o7, o8, o9, o10] [] (fm_mk S) r := by
  refine fs_aloadn (j := 0) (by decide +kernel) rfl ?_
  exact fe_callV (t := 8) (idx := 73) (n := 0) (wp := 1020) (q := (1022, 31)) (as := []) (rs := []) (by decide +kernel) (by decide +kernel) (by decide +kernel) (by decide +kernel) rfl (Nat.le_of_ble_eq_true rfl) rfl hc nx
theorem b_M_rain_36 {d : Nat} {x1 : Int32} {x2 : Int32} {x3 : Int32} {o4 : Option Value} {o5 : Option Value} {o6 : Option Value} {o7 : Option Value} {o8 : Option Value} {o9 : Option Value} {o10 : Option Value} {sx0 : Int32} {S : fm_S}  : am_Ev d k_M_rain 36 [some (.ref 231), some (.int x1), some (.int x2), some (.int x3), o4, o5, o6, o7, o8, o9, o10] [.int sx0] (fm_mk S) (some (.int sx0), fm_mk S) := by
  exact fe_retI (by decide +kernel) (by decide +kernel)
theorem b_M_rain_37 {d : Nat} {x1 : Int32} {x2 : Int32} {x3 : Int32} {o4 : Option Value} {o5 : Option Value} {o6 : Option Value} {o7 : Option Value} {o8 : Option Value} {o9 : Option Value} {o10 : Option Value} {v : Int32} {S1 : fm_S} {S : fm_S} {r : Option Value × am_W} (hc : am_Sp d k_M_opening [.ref 231, .int x1, .int (-1), .int 0] (fm_mk S) (some (.int v)) (fm_mk S1)) (nx : am_Ev (d + 1) k_M_rain 44 [some (.ref 231), some (.int x1), some (.int x2), some (.int x3), o4, o5, o6, o7, o8, o9, o10] [.int v] (fm_mk S1) r) : am_Ev (d + 1) k_M_rain 37 [some (.ref 231), some (.int x1), some (.int x2), some (.int x3), o4, o5, o6, o7, o8, o9, o10] [] (fm_mk S) r := by
  refine fs_aloadn (j := 0) (by decide +kernel) rfl ?_
  refine fs_iloadn (j := 1) (by decide +kernel) rfl ?_
  refine fs_iconst (n := -1) (v := (-1)) (by decide +kernel) (by decide) ?_
  refine fs_iconst (n := 0) (v := 0) (by decide +kernel) (by decide) ?_
  exact fe_callV (t := 8) (idx := 186) (n := 3) (wp := 1138) (q := (1140, 45)) (as := [.int x1, .int (-1), .int 0]) (rs := []) (by decide +kernel) (by decide +kernel) (by decide +kernel) (by decide +kernel) rfl (Nat.le_of_ble_eq_true rfl) rfl hc nx
theorem b_M_rain_44 {d : Nat} {x1 : Int32} {x2 : Int32} {x3 : Int32} {o4 : Option Value} {o5 : Option Value} {o6 : Option Value} {o7 : Option Value} {o8 : Option Value} {o9 : Option Value} {o10 : Option Value} {sx0 : Int32} {v : Int32} {S1 : fm_S} {S : fm_S} {r : Option Value × am_W} (hc : am_Sp d k_M_bits [.int sx0] (fm_mk S) (some (.int v)) (fm_mk S1)) (nx : am_Ev (d + 1) k_M_rain 47 [some (.ref 231), some (.int x1), some (.int x2), some (.int x3), o4, o5, o6, o7, o8, o9, o10] [.int v] (fm_mk S1) r) : am_Ev (d + 1) k_M_rain 44 [some (.ref 231), some (.int x1), some (.int x2), some (.int x3), o4, o5, o6, o7, o8, o9, o10] [.int sx0] (fm_mk S) r := by
  exact fe_callS (idx := 207) (kd := 0) (n := 1) (wp := 1196) (q := (1197, 0)) (as := [.int sx0]) (rs := []) (by decide +kernel) (by decide +kernel) (by decide +kernel) (by decide) rfl (Nat.le_of_ble_eq_true rfl) rfl hc nx
theorem b_M_rain_47 {d : Nat} {x1 : Int32} {x2 : Int32} {x3 : Int32} {o4 : Option Value} {o5 : Option Value} {o6 : Option Value} {o7 : Option Value} {o8 : Option Value} {o9 : Option Value} {o10 : Option Value} {sx0 : Int32} {S : fm_S} {r : Option Value × am_W} (nx : am_Ev d k_M_rain 62 [some (.ref 231), some (.int x1), some (.int x2), some (.int x3), some (.int sx0), some (.long 1), none, some (.int 0), o8, o9, o10] [] (fm_mk (fm_wL S 243 0 1)) r) : am_Ev d k_M_rain 47 [some (.ref 231), some (.int x1), some (.int x2), some (.int x3), o4, o5, o6, o7, o8, o9, o10] [.int sx0] (fm_mk S) r := by
  refine fs_istore (j := 4) (L' := [some (.ref 231), some (.int x1), some (.int x2), some (.int x3), some (.int sx0), o5, o6, o7, o8, o9, o10]) (by decide +kernel) (Nat.le_of_ble_eq_true rfl) rfl ?_
  refine fs_aloadn (j := 0) (by decide +kernel) rfl ?_
  refine fe_getR (idx := 43) (t := 8) (f := 19) (fk := 2) (fin := 1) (wp := 964) (x := 243) (by decide +kernel) (by decide +kernel) (by decide +kernel) (by decide +kernel) (by decide +kernel) ?_
  refine fs_iconst (n := 0) (v := 0) (by decide +kernel) (by decide) ?_
  refine fs_lconst (n := 1) (v := 1) (by decide +kernel) (by decide) ?_
  refine fx_last (n := 0) (len := 9) (by decide +kernel) (by decide +kernel) (by decide +kernel) (vp_c (by decide) (by decide)) (by decide) ?_
  refine fs_lconst (n := 1) (v := 1) (by decide +kernel) (by decide) ?_
  refine fs_lstore (j := 5) (L' := [some (.ref 231), some (.int x1), some (.int x2), some (.int x3), some (.int sx0), some (.long 1), none, o7, o8, o9, o10]) (by decide +kernel) (Nat.le_of_ble_eq_true rfl) rfl ?_
  refine fs_iconst (n := 0) (v := 0) (by decide +kernel) (by decide) ?_
  refine fs_istore (j := 7) (L' := [some (.ref 231), some (.int x1), some (.int x2), some (.int x3), some (.int sx0), some (.long 1), none, some (.int 0), o8, o9, o10]) (by decide +kernel) (Nat.le_of_ble_eq_true rfl) rfl ?_
  exact nx
theorem b_M_rain_62 {d : Nat} {x1 : Int32} {x2 : Int32} {x3 : Int32} {x4 : Int32} {y5 : Int64} {x7 : Int32} {o8 : Option Value} {o9 : Option Value} {o10 : Option Value} {S : fm_S} {r : Option Value × am_W} (kt : x4 ≤ x7 → am_Ev d k_M_rain 154 [some (.ref 231), some (.int x1), some (.int x2), some (.int x3), some (.int x4), some (.long y5), none, some (.int x7), o8, o9, o10] [] (fm_mk S) r) (kf : ¬ x4 ≤ x7 → am_Ev d k_M_rain 69 [some (.ref 231), some (.int x1), some (.int x2), some (.int x3), some (.int x4), some (.long y5), none, some (.int x7), o8, o9, o10] [] (fm_mk S) r) : am_Ev d k_M_rain 62 [some (.ref 231), some (.int x1), some (.int x2), some (.int x3), some (.int x4), some (.long y5), none, some (.int x7), o8, o9, o10] [] (fm_mk S) r := by
  refine fs_iload (j := 7) (by decide +kernel) rfl ?_
  refine fs_iload (j := 4) (by decide +kernel) rfl ?_
  exact fs_icge (off := 88) (tgt := 154) (by decide +kernel) (by decide) kt kf
theorem b_M_rain_69 {d : Nat} {x1 : Int32} {x2 : Int32} {x3 : Int32} {x4 : Int32} {y5 : Int64} {x7 : Int32} {o8 : Option Value} {o9 : Option Value} {o10 : Option Value} {S : fm_S} {r : Option Value × am_W} (hi0 : vp_in (x7 + 1) 9) (nx : am_Ev d k_M_rain 85 [some (.ref 231), some (.int x1), some (.int x2), some (.int x3), some (.int x4), some (.long y5), none, some (.int x7), some (.int (x7 + 1)), o9, o10] [] (fm_mk (fm_wL S 243 ((x7 + 1).toNatClampNeg) 0)) r) : am_Ev d k_M_rain 69 [some (.ref 231), some (.int x1), some (.int x2), some (.int x3), some (.int x4), some (.long y5), none, some (.int x7), o8, o9, o10] [] (fm_mk S) r := by
  refine fs_aloadn (j := 0) (by decide +kernel) rfl ?_
  refine fe_getR (idx := 43) (t := 8) (f := 19) (fk := 2) (fin := 1) (wp := 964) (x := 243) (by decide +kernel) (by decide +kernel) (by decide +kernel) (by decide +kernel) (by decide +kernel) ?_
  refine fs_iload (j := 7) (by decide +kernel) rfl ?_
  refine fs_iconst (n := 1) (v := 1) (by decide +kernel) (by decide) ?_
  refine fs_iadd (by decide +kernel) ?_
  refine fs_lconst (n := 0) (v := 0) (by decide +kernel) (by decide) ?_
  refine fx_last (n := (x7 + 1).toNatClampNeg) (len := 9) (by decide +kernel) (by decide +kernel) (by decide +kernel) hi0 rfl ?_
  refine fs_iload (j := 7) (by decide +kernel) rfl ?_
  refine fs_iconst (n := 1) (v := 1) (by decide +kernel) (by decide) ?_
  refine fs_iadd (by decide +kernel) ?_
  refine fs_istore (j := 8) (L' := [some (.ref 231), some (.int x1), some (.int x2), some (.int x3), some (.int x4), some (.long y5), none, some (.int x7), some (.int (x7 + 1)), o9, o10]) (by decide +kernel) (Nat.le_of_ble_eq_true rfl) rfl ?_
  exact nx
theorem b_M_rain_85 {d : Nat} {x1 : Int32} {x2 : Int32} {x3 : Int32} {x4 : Int32} {y5 : Int64} {x7 : Int32} {x8 : Int32} {o9 : Option Value} {o10 : Option Value} {S : fm_S} {r : Option Value × am_W} (kt : x8 ≤ 0 → am_Ev d k_M_rain 129 [some (.ref 231), some (.int x1), some (.int x2), some (.int x3), some (.int x4), some (.long y5), none, some (.int x7), some (.int x8), o9, o10] [] (fm_mk S) r) (kf : ¬ x8 ≤ 0 → am_Ev d k_M_rain 90 [some (.ref 231), some (.int x1), some (.int x2), some (.int x3), some (.int x4), some (.long y5), none, some (.int x7), some (.int x8), o9, o10] [] (fm_mk S) r) : am_Ev d k_M_rain 85 [some (.ref 231), some (.int x1), some (.int x2), some (.int x3), some (.int x4), some (.long y5), none, some (.int x7), some (.int x8), o9, o10] [] (fm_mk S) r := by
  refine fs_iload (j := 8) (by decide +kernel) rfl ?_
  exact fs_ifle (off := 42) (tgt := 129) (by decide +kernel) (by decide) kt kf
theorem b_M_rain_90 {d : Nat} {x1 : Int32} {x2 : Int32} {x3 : Int32} {x4 : Int32} {y5 : Int64} {x7 : Int32} {x8 : Int32} {o9 : Option Value} {o10 : Option Value} {S : fm_S} {r : Option Value × am_W} (hi0 : vp_in x8 9) (hi1 : vp_in (x8 - 1) 9) (nx : am_Ev d k_M_rain 85 [some (.ref 231), some (.int x1), some (.int x2), some (.int x3), some (.int x4), some (.long y5), none, some (.int x7), some (.int (x8 + (-1))), o9, o10] [] (fm_mk (fm_wL S 243 x8.toNatClampNeg (((S.2.1 243 x8.toNatClampNeg) * x2.toInt64) + ((S.2.1 243 ((x8 - 1).toNatClampNeg)) * ((10 - x2).toInt64))))) r) : am_Ev d k_M_rain 90 [some (.ref 231), some (.int x1), some (.int x2), some (.int x3), some (.int x4), some (.long y5), none, some (.int x7), some (.int x8), o9, o10] [] (fm_mk S) r := by
  refine fs_aloadn (j := 0) (by decide +kernel) rfl ?_
  refine fe_getR (idx := 43) (t := 8) (f := 19) (fk := 2) (fin := 1) (wp := 964) (x := 243) (by decide +kernel) (by decide +kernel) (by decide +kernel) (by decide +kernel) (by decide +kernel) ?_
  refine fs_iload (j := 8) (by decide +kernel) rfl ?_
  refine fs_aloadn (j := 0) (by decide +kernel) rfl ?_
  refine fe_getR (idx := 43) (t := 8) (f := 19) (fk := 2) (fin := 1) (wp := 964) (x := 243) (by decide +kernel) (by decide +kernel) (by decide +kernel) (by decide +kernel) (by decide +kernel) ?_
  refine fs_iload (j := 8) (by decide +kernel) rfl ?_
  refine fx_lald (n := x8.toNatClampNeg) (len := 9) (by decide +kernel) (by decide +kernel) (by decide +kernel) hi0 rfl ?_
  refine fs_iloadn (j := 2) (by decide +kernel) rfl ?_
  refine fs_i2l (by decide +kernel) ?_
  refine fs_lmul (by decide +kernel) ?_
  refine fs_aloadn (j := 0) (by decide +kernel) rfl ?_
  refine fe_getR (idx := 43) (t := 8) (f := 19) (fk := 2) (fin := 1) (wp := 964) (x := 243) (by decide +kernel) (by decide +kernel) (by decide +kernel) (by decide +kernel) (by decide +kernel) ?_
  refine fs_iload (j := 8) (by decide +kernel) rfl ?_
  refine fs_iconst (n := 1) (v := 1) (by decide +kernel) (by decide) ?_
  refine fs_isub (by decide +kernel) ?_
  refine fx_lald (n := (x8 - 1).toNatClampNeg) (len := 9) (by decide +kernel) (by decide +kernel) (by decide +kernel) hi1 rfl ?_
  refine fs_bipush (n := 10) (v := 10) (by decide +kernel) (by decide) ?_
  refine fs_iloadn (j := 2) (by decide +kernel) rfl ?_
  refine fs_isub (by decide +kernel) ?_
  refine fs_i2l (by decide +kernel) ?_
  refine fs_lmul (by decide +kernel) ?_
  refine fs_ladd (by decide +kernel) ?_
  refine fx_last (n := x8.toNatClampNeg) (len := 9) (by decide +kernel) (by decide +kernel) (by decide +kernel) hi0 rfl ?_
  refine fs_iinc (j := 8) (n := -1) (v := (-1)) (L' := [some (.ref 231), some (.int x1), some (.int x2), some (.int x3), some (.int x4), some (.long y5), none, some (.int x7), some (.int (x8 + (-1))), o9, o10]) (by decide +kernel) rfl (Nat.le_of_ble_eq_true rfl) (by decide) rfl ?_
  refine fs_goto (off := -41) (tgt := 85) (by decide +kernel) (by decide) ?_
  exact nx
theorem b_M_rain_129 {d : Nat} {x1 : Int32} {x2 : Int32} {x3 : Int32} {x4 : Int32} {y5 : Int64} {x7 : Int32} {x8 : Int32} {o9 : Option Value} {o10 : Option Value} {S : fm_S} {r : Option Value × am_W} (nx : am_Ev d k_M_rain 62 [some (.ref 231), some (.int x1), some (.int x2), some (.int x3), some (.int x4), some (.long (y5 * 10)), none, some (.int (x7 + 1)), some (.int x8), o9, o10] [] (fm_mk (fm_wL S 243 0 ((S.2.1 243 0) * x2.toInt64))) r) : am_Ev d k_M_rain 129 [some (.ref 231), some (.int x1), some (.int x2), some (.int x3), some (.int x4), some (.long y5), none, some (.int x7), some (.int x8), o9, o10] [] (fm_mk S) r := by
  refine fs_aloadn (j := 0) (by decide +kernel) rfl ?_
  refine fe_getR (idx := 43) (t := 8) (f := 19) (fk := 2) (fin := 1) (wp := 964) (x := 243) (by decide +kernel) (by decide +kernel) (by decide +kernel) (by decide +kernel) (by decide +kernel) ?_
  refine fs_iconst (n := 0) (v := 0) (by decide +kernel) (by decide) ?_
  refine fs_dup2 (by decide +kernel) ⟨rfl, rfl⟩ ?_
  refine fx_lald (n := 0) (len := 9) (by decide +kernel) (by decide +kernel) (by decide +kernel) (vp_c (by decide) (by decide)) (by decide) ?_
  refine fs_iloadn (j := 2) (by decide +kernel) rfl ?_
  refine fs_i2l (by decide +kernel) ?_
  refine fs_lmul (by decide +kernel) ?_
  refine fx_last (n := 0) (len := 9) (by decide +kernel) (by decide +kernel) (by decide +kernel) (vp_c (by decide) (by decide)) (by decide) ?_
  refine fs_lload (j := 5) (by decide +kernel) rfl ?_
  refine fs_ldc2 (idx := 226) (q := 1253) (v := 10) (by decide +kernel) (by decide +kernel) ?_
  refine fs_lmul (by decide +kernel) ?_
  refine fs_lstore (j := 5) (L' := [some (.ref 231), some (.int x1), some (.int x2), some (.int x3), some (.int x4), some (.long (y5 * 10)), none, some (.int x7), some (.int x8), o9, o10]) (by decide +kernel) (Nat.le_of_ble_eq_true rfl) rfl ?_
  refine fs_iinc (j := 7) (n := 1) (v := 1) (L' := [some (.ref 231), some (.int x1), some (.int x2), some (.int x3), some (.int x4), some (.long (y5 * 10)), none, some (.int (x7 + 1)), some (.int x8), o9, o10]) (by decide +kernel) rfl (Nat.le_of_ble_eq_true rfl) (by decide) rfl ?_
  refine fs_goto (off := -89) (tgt := 62) (by decide +kernel) (by decide) ?_
  exact nx
theorem b_M_rain_154 {d : Nat} {x1 : Int32} {x2 : Int32} {x3 : Int32} {x4 : Int32} {y5 : Int64} {x7 : Int32} {o8 : Option Value} {o9 : Option Value} {o10 : Option Value} {S : fm_S} {r : Option Value × am_W} (nx : am_Ev d k_M_rain 160 [some (.ref 231), some (.int x1), some (.int x2), some (.int x3), some (.int x4), some (.long y5), none, some (.long 0), none, some (.int x3), o10] [] (fm_mk S) r) : am_Ev d k_M_rain 154 [some (.ref 231), some (.int x1), some (.int x2), some (.int x3), some (.int x4), some (.long y5), none, some (.int x7), o8, o9, o10] [] (fm_mk S) r := by
  refine fs_lconst (n := 0) (v := 0) (by decide +kernel) (by decide) ?_
  refine fs_lstore (j := 7) (L' := [some (.ref 231), some (.int x1), some (.int x2), some (.int x3), some (.int x4), some (.long y5), none, some (.long 0), none, o9, o10]) (by decide +kernel) (Nat.le_of_ble_eq_true rfl) rfl ?_
  refine fs_iloadn (j := 3) (by decide +kernel) rfl ?_
  refine fs_istore (j := 9) (L' := [some (.ref 231), some (.int x1), some (.int x2), some (.int x3), some (.int x4), some (.long y5), none, some (.long 0), none, some (.int x3), o10]) (by decide +kernel) (Nat.le_of_ble_eq_true rfl) rfl ?_
  exact nx
theorem b_M_rain_160 {d : Nat} {x1 : Int32} {x2 : Int32} {x3 : Int32} {x4 : Int32} {y5 : Int64} {y7 : Int64} {x9 : Int32} {o10 : Option Value} {S : fm_S} {r : Option Value × am_W} (kt : x4 < x9 → am_Ev d k_M_rain 185 [some (.ref 231), some (.int x1), some (.int x2), some (.int x3), some (.int x4), some (.long y5), none, some (.long y7), none, some (.int x9), o10] [] (fm_mk S) r) (kf : ¬ x4 < x9 → am_Ev d k_M_rain 167 [some (.ref 231), some (.int x1), some (.int x2), some (.int x3), some (.int x4), some (.long y5), none, some (.long y7), none, some (.int x9), o10] [] (fm_mk S) r) : am_Ev d k_M_rain 160 [some (.ref 231), some (.int x1), some (.int x2), some (.int x3), some (.int x4), some (.long y5), none, some (.long y7), none, some (.int x9), o10] [] (fm_mk S) r := by
  refine fs_iload (j := 9) (by decide +kernel) rfl ?_
  refine fs_iload (j := 4) (by decide +kernel) rfl ?_
  exact fs_icgt (off := 21) (tgt := 185) (by decide +kernel) (by decide) kt kf
theorem b_M_rain_167 {d : Nat} {x1 : Int32} {x2 : Int32} {x3 : Int32} {x4 : Int32} {y5 : Int64} {y7 : Int64} {x9 : Int32} {o10 : Option Value} {S : fm_S} {r : Option Value × am_W} (hi0 : vp_in x9 9) (nx : am_Ev d k_M_rain 160 [some (.ref 231), some (.int x1), some (.int x2), some (.int x3), some (.int x4), some (.long y5), none, some (.long (y7 + (S.2.1 243 x9.toNatClampNeg))), none, some (.int (x9 + 1)), o10] [] (fm_mk S) r) : am_Ev d k_M_rain 167 [some (.ref 231), some (.int x1), some (.int x2), some (.int x3), some (.int x4), some (.long y5), none, some (.long y7), none, some (.int x9), o10] [] (fm_mk S) r := by
  refine fs_lload (j := 7) (by decide +kernel) rfl ?_
  refine fs_aloadn (j := 0) (by decide +kernel) rfl ?_
  refine fe_getR (idx := 43) (t := 8) (f := 19) (fk := 2) (fin := 1) (wp := 964) (x := 243) (by decide +kernel) (by decide +kernel) (by decide +kernel) (by decide +kernel) (by decide +kernel) ?_
  refine fs_iload (j := 9) (by decide +kernel) rfl ?_
  refine fx_lald (n := x9.toNatClampNeg) (len := 9) (by decide +kernel) (by decide +kernel) (by decide +kernel) hi0 rfl ?_
  refine fs_ladd (by decide +kernel) ?_
  refine fs_lstore (j := 7) (L' := [some (.ref 231), some (.int x1), some (.int x2), some (.int x3), some (.int x4), some (.long y5), none, some (.long (y7 + (S.2.1 243 x9.toNatClampNeg))), none, some (.int x9), o10]) (by decide +kernel) (Nat.le_of_ble_eq_true rfl) rfl ?_
  refine fs_iinc (j := 9) (n := 1) (v := 1) (L' := [some (.ref 231), some (.int x1), some (.int x2), some (.int x3), some (.int x4), some (.long y5), none, some (.long (y7 + (S.2.1 243 x9.toNatClampNeg))), none, some (.int (x9 + 1)), o10]) (by decide +kernel) rfl (Nat.le_of_ble_eq_true rfl) (by decide) rfl ?_
  refine fs_goto (off := -22) (tgt := 160) (by decide +kernel) (by decide) ?_
  exact nx
theorem b_M_rain_185 {d : Nat} {x1 : Int32} {x2 : Int32} {x3 : Int32} {x4 : Int32} {y5 : Int64} {y7 : Int64} {x9 : Int32} {o10 : Option Value} {S : fm_S} {r : Option Value × am_W} (nx : am_Ev d k_M_rain 197 [some (.ref 231), some (.int x1), some (.int x2), some (.int x3), some (.int x4), some (.long y5), none, some (.long y7), none, some (.int x9), o10] [] (fm_mk (fm_wL (fm_wL S 231 6 y7) 231 7 y5)) r) : am_Ev d k_M_rain 185 [some (.ref 231), some (.int x1), some (.int x2), some (.int x3), some (.int x4), some (.long y5), none, some (.long y7), none, some (.int x9), o10] [] (fm_mk S) r := by
  refine fs_aloadn (j := 0) (by decide +kernel) rfl ?_
  refine fs_lload (j := 7) (by decide +kernel) rfl ?_
  refine fe_putL (idx := 230) (t := 8) (f := 6) (wp := 951) (by decide +kernel) (by decide +kernel) (by decide +kernel) (by decide +kernel) ?_
  refine fs_aloadn (j := 0) (by decide +kernel) rfl ?_
  refine fs_lload (j := 5) (by decide +kernel) rfl ?_
  refine fe_putL (idx := 47) (t := 8) (f := 7) (wp := 952) (by decide +kernel) (by decide +kernel) (by decide +kernel) (by decide +kernel) ?_
  exact nx
theorem b_M_rain_197 {d : Nat} {x1 : Int32} {x2 : Int32} {x3 : Int32} {x4 : Int32} {y5 : Int64} {y7 : Int64} {o9 : Option Value} {o10 : Option Value} {S : fm_S} {r : Option Value × am_W} (kt : (lg_cmp y5 0) = 0 → am_Ev d k_M_rain 222 [some (.ref 231), some (.int x1), some (.int x2), some (.int x3), some (.int x4), some (.long y5), none, some (.long y7), none, o9, o10] [] (fm_mk S) r) (kf : ¬ (lg_cmp y5 0) = 0 → am_Ev d k_M_rain 204 [some (.ref 231), some (.int x1), some (.int x2), some (.int x3), some (.int x4), some (.long y5), none, some (.long y7), none, o9, o10] [] (fm_mk S) r) : am_Ev d k_M_rain 197 [some (.ref 231), some (.int x1), some (.int x2), some (.int x3), some (.int x4), some (.long y5), none, some (.long y7), none, o9, o10] [] (fm_mk S) r := by
  refine fs_lload (j := 5) (by decide +kernel) rfl ?_
  refine fs_lconst (n := 0) (v := 0) (by decide +kernel) (by decide) ?_
  refine fs_lcmp (by decide +kernel) ?_
  exact fs_ifeq (off := 21) (tgt := 222) (by decide +kernel) (by decide) kt kf
theorem b_M_rain_204 {d : Nat} {x1 : Int32} {x2 : Int32} {x3 : Int32} {x4 : Int32} {y5 : Int64} {y7 : Int64} {o9 : Option Value} {o10 : Option Value} {S : fm_S} {r : Option Value × am_W} (hd0 : ¬ y5 = 0) (nx : am_Ev d k_M_rain 197 [some (.ref 231), some (.int x1), some (.int x2), some (.int x3), some (.int x4), some (.long (y7 - y7 / y5 * y5)), none, some (.long y5), none, some (.long (y7 - y7 / y5 * y5)), none] [] (fm_mk S) r) : am_Ev d k_M_rain 204 [some (.ref 231), some (.int x1), some (.int x2), some (.int x3), some (.int x4), some (.long y5), none, some (.long y7), none, o9, o10] [] (fm_mk S) r := by
  refine fs_lload (j := 7) (by decide +kernel) rfl ?_
  refine fs_lload (j := 5) (by decide +kernel) rfl ?_
  refine fe_lrem (by decide +kernel) hd0 ?_
  refine fs_lstore (j := 9) (L' := [some (.ref 231), some (.int x1), some (.int x2), some (.int x3), some (.int x4), some (.long y5), none, some (.long y7), none, some (.long (y7 - y7 / y5 * y5)), none]) (by decide +kernel) (Nat.le_of_ble_eq_true rfl) rfl ?_
  refine fs_lload (j := 5) (by decide +kernel) rfl ?_
  refine fs_lstore (j := 7) (L' := [some (.ref 231), some (.int x1), some (.int x2), some (.int x3), some (.int x4), some (.long y5), none, some (.long y5), none, some (.long (y7 - y7 / y5 * y5)), none]) (by decide +kernel) (Nat.le_of_ble_eq_true rfl) rfl ?_
  refine fs_lload (j := 9) (by decide +kernel) rfl ?_
  refine fs_lstore (j := 5) (L' := [some (.ref 231), some (.int x1), some (.int x2), some (.int x3), some (.int x4), some (.long (y7 - y7 / y5 * y5)), none, some (.long y5), none, some (.long (y7 - y7 / y5 * y5)), none]) (by decide +kernel) (Nat.le_of_ble_eq_true rfl) rfl ?_
  refine fs_goto (off := -22) (tgt := 197) (by decide +kernel) (by decide) ?_
  exact nx
theorem b_M_rain_222 {d : Nat} {x1 : Int32} {x2 : Int32} {x3 : Int32} {x4 : Int32} {y5 : Int64} {y7 : Int64} {o9 : Option Value} {o10 : Option Value} {S : fm_S}  (hd0 : ¬ y7 = 0) : am_Ev d k_M_rain 222 [some (.ref 231), some (.int x1), some (.int x2), some (.int x3), some (.int x4), some (.long y5), none, some (.long y7), none, o9, o10] [] (fm_mk S) (some (.int 1), fm_mk (fm_wL (fm_wL S 231 6 ((S.2.1 231 6) / y7)) 231 7 (((fm_wL S 231 6 ((S.2.1 231 6) / y7)).2.1 231 7) / y7))) := by
  refine fs_aloadn (j := 0) (by decide +kernel) rfl ?_
  refine fs_dup (by decide +kernel) rfl ?_
  refine fe_getL (idx := 230) (t := 8) (f := 6) (fk := 1) (fin := 0) (wp := 951) (by decide +kernel) (by decide +kernel) (by decide +kernel) (by decide +kernel) ?_
  refine fs_lload (j := 7) (by decide +kernel) rfl ?_
  refine fe_ldiv (by decide +kernel) hd0 ?_
  refine fe_putL (idx := 230) (t := 8) (f := 6) (wp := 951) (by decide +kernel) (by decide +kernel) (by decide +kernel) (by decide +kernel) ?_
  refine fs_aloadn (j := 0) (by decide +kernel) rfl ?_
  refine fs_dup (by decide +kernel) rfl ?_
  refine fe_getL (idx := 47) (t := 8) (f := 7) (fk := 1) (fin := 0) (wp := 952) (by decide +kernel) (by decide +kernel) (by decide +kernel) (by decide +kernel) ?_
  refine fs_lload (j := 7) (by decide +kernel) rfl ?_
  refine fe_ldiv (by decide +kernel) hd0 ?_
  refine fe_putL (idx := 47) (t := 8) (f := 7) (wp := 952) (by decide +kernel) (by decide +kernel) (by decide +kernel) (by decide +kernel) ?_
  refine fs_iconst (n := 1) (v := 1) (by decide +kernel) (by decide) ?_
  exact fe_retI (by decide +kernel) (by decide +kernel)
-- KitchenSiegeModel.sieges(II)I
theorem b_M_sieges_0 {d : Nat} {x1 : Int32} {x2 : Int32} {o3 : Option Value} {o4 : Option Value} {o5 : Option Value} {v : Int32} {S1 : fm_S} {S : fm_S} {r : Option Value × am_W} (hc : am_Sp d k_M_in [.long x1.toInt64, .long 0, .long 999999] (fm_mk S) (some (.int v)) (fm_mk S1)) (nx : am_Ev (d + 1) k_M_sieges 9 [some (.ref 231), some (.int x1), some (.int x2), o3, o4, o5] [.int v] (fm_mk S1) r) : am_Ev (d + 1) k_M_sieges 0 [some (.ref 231), some (.int x1), some (.int x2), o3, o4, o5] [] (fm_mk S) r := by
  refine fs_iloadn (j := 1) (by decide +kernel) rfl ?_
  refine fs_i2l (by decide +kernel) ?_
  refine fs_lconst (n := 0) (v := 0) (by decide +kernel) (by decide) ?_
  refine fs_ldc2 (idx := 233) (q := 1259) (v := 999999) (by decide +kernel) (by decide +kernel) ?_
  exact fe_callS (idx := 67) (kd := 0) (n := 3) (wp := 1016) (q := (1017, 0)) (as := [.long x1.toInt64, .long 0, .long 999999]) (rs := []) (by decide +kernel) (by decide +kernel) (by decide +kernel) (by decide) rfl (Nat.le_of_ble_eq_true rfl) rfl hc nx
theorem b_M_sieges_9 {d : Nat} {x1 : Int32} {x2 : Int32} {o3 : Option Value} {o4 : Option Value} {o5 : Option Value} {sx0 : Int32} {S : fm_S} {r : Option Value × am_W} (kt : sx0 = 0 → am_Ev d k_M_sieges 24 [some (.ref 231), some (.int x1), some (.int x2), o3, o4, o5] [] (fm_mk S) r) (kf : ¬ sx0 = 0 → am_Ev d k_M_sieges 12 [some (.ref 231), some (.int x1), some (.int x2), o3, o4, o5] [] (fm_mk S) r) : am_Ev d k_M_sieges 9 [some (.ref 231), some (.int x1), some (.int x2), o3, o4, o5] [.int sx0] (fm_mk S) r := by
  exact fs_ifeq (off := 15) (tgt := 24) (by decide +kernel) (by decide) kt kf
theorem b_M_sieges_12 {d : Nat} {x1 : Int32} {x2 : Int32} {o3 : Option Value} {o4 : Option Value} {o5 : Option Value} {v : Int32} {S1 : fm_S} {S : fm_S} {r : Option Value × am_W} (hc : am_Sp d k_M_in [.long x2.toInt64, .long 0, .long 60] (fm_mk S) (some (.int v)) (fm_mk S1)) (nx : am_Ev (d + 1) k_M_sieges 21 [some (.ref 231), some (.int x1), some (.int x2), o3, o4, o5] [.int v] (fm_mk S1) r) : am_Ev (d + 1) k_M_sieges 12 [some (.ref 231), some (.int x1), some (.int x2), o3, o4, o5] [] (fm_mk S) r := by
  refine fs_iloadn (j := 2) (by decide +kernel) rfl ?_
  refine fs_i2l (by decide +kernel) ?_
  refine fs_lconst (n := 0) (v := 0) (by decide +kernel) (by decide) ?_
  refine fs_ldc2 (idx := 219) (q := 1227) (v := 60) (by decide +kernel) (by decide +kernel) ?_
  exact fe_callS (idx := 67) (kd := 0) (n := 3) (wp := 1016) (q := (1017, 0)) (as := [.long x2.toInt64, .long 0, .long 60]) (rs := []) (by decide +kernel) (by decide +kernel) (by decide +kernel) (by decide) rfl (Nat.le_of_ble_eq_true rfl) rfl hc nx
theorem b_M_sieges_21 {d : Nat} {x1 : Int32} {x2 : Int32} {o3 : Option Value} {o4 : Option Value} {o5 : Option Value} {sx0 : Int32} {S : fm_S} {r : Option Value × am_W} (kt : ¬ sx0 = 0 → am_Ev d k_M_sieges 29 [some (.ref 231), some (.int x1), some (.int x2), o3, o4, o5] [] (fm_mk S) r) (kf : sx0 = 0 → am_Ev d k_M_sieges 24 [some (.ref 231), some (.int x1), some (.int x2), o3, o4, o5] [] (fm_mk S) r) : am_Ev d k_M_sieges 21 [some (.ref 231), some (.int x1), some (.int x2), o3, o4, o5] [.int sx0] (fm_mk S) r := by
  exact fs_ifne (off := 8) (tgt := 29) (by decide +kernel) (by decide) kt kf
theorem b_M_sieges_24 {d : Nat} {x1 : Int32} {x2 : Int32} {o3 : Option Value} {o4 : Option Value} {o5 : Option Value} {v : Int32} {S1 : fm_S} {S : fm_S} {r : Option Value × am_W} (hc : am_Sp d k_M_bad [.ref 231] (fm_mk S) (some (.int v)) (fm_mk S1)) (nx : am_Ev (d + 1) k_M_sieges 28 [some (.ref 231), some (.int x1), some (.int x2), o3, o4, o5] [.int v] (fm_mk S1) r) : am_Ev (d + 1) k_M_sieges 24 [some (.ref 231), some (.int x1), some (.int x2), o3, o4, o5] [] (fm_mk S) r := by
  refine fs_aloadn (j := 0) (by decide +kernel) rfl ?_
  exact fe_callV (t := 8) (idx := 73) (n := 0) (wp := 1020) (q := (1022, 31)) (as := []) (rs := []) (by decide +kernel) (by decide +kernel) (by decide +kernel) (by decide +kernel) rfl (Nat.le_of_ble_eq_true rfl) rfl hc nx
theorem b_M_sieges_28 {d : Nat} {x1 : Int32} {x2 : Int32} {o3 : Option Value} {o4 : Option Value} {o5 : Option Value} {sx0 : Int32} {S : fm_S}  : am_Ev d k_M_sieges 28 [some (.ref 231), some (.int x1), some (.int x2), o3, o4, o5] [.int sx0] (fm_mk S) (some (.int sx0), fm_mk S) := by
  exact fe_retI (by decide +kernel) (by decide +kernel)
theorem b_M_sieges_29 {d : Nat} {x1 : Int32} {x2 : Int32} {o3 : Option Value} {o4 : Option Value} {o5 : Option Value} {S1 : fm_S} {S : fm_S} {r : Option Value × am_W} (hc : am_Sp d k_M_past [.ref 232, .ref 239, .int 0, .int 0] (fm_mk S) (none) (fm_mk S1)) (nx : am_Ev (d + 1) k_M_sieges 42 [some (.ref 231), some (.int x1), some (.int x2), o3, o4, o5] [] (fm_mk S1) r) : am_Ev (d + 1) k_M_sieges 29 [some (.ref 231), some (.int x1), some (.int x2), o3, o4, o5] [] (fm_mk S) r := by
  refine fs_aloadn (j := 0) (by decide +kernel) rfl ?_
  refine fe_getR (idx := 7) (t := 8) (f := 0) (fk := 2) (fin := 1) (wp := 945) (x := 232) (by decide +kernel) (by decide +kernel) (by decide +kernel) (by decide +kernel) (by decide +kernel) ?_
  refine fs_aloadn (j := 0) (by decide +kernel) rfl ?_
  refine fe_getR (idx := 31) (t := 8) (f := 15) (fk := 2) (fin := 1) (wp := 960) (x := 239) (by decide +kernel) (by decide +kernel) (by decide +kernel) (by decide +kernel) (by decide +kernel) ?_
  refine fs_iconst (n := 0) (v := 0) (by decide +kernel) (by decide) ?_
  refine fs_iconst (n := 0) (v := 0) (by decide +kernel) (by decide) ?_
  exact fe_callS (idx := 194) (kd := 0) (n := 4) (wp := 1131) (q := (1132, 0)) (as := [.ref 232, .ref 239, .int 0, .int 0]) (rs := []) (by decide +kernel) (by decide +kernel) (by decide +kernel) (by decide) rfl (Nat.le_of_ble_eq_true rfl) rfl hc nx
theorem b_M_sieges_42 {d : Nat} {x1 : Int32} {x2 : Int32} {o3 : Option Value} {o4 : Option Value} {o5 : Option Value} {S : fm_S} {r : Option Value × am_W} (nx : am_Ev d k_M_sieges 48 [some (.ref 231), some (.int x1), some (.int x2), some (.long x1.toInt64), none, some (.int 0)] [] (fm_mk S) r) : am_Ev d k_M_sieges 42 [some (.ref 231), some (.int x1), some (.int x2), o3, o4, o5] [] (fm_mk S) r := by
  refine fs_iloadn (j := 1) (by decide +kernel) rfl ?_
  refine fs_i2l (by decide +kernel) ?_
  refine fs_lstoren (j := 3) (L' := [some (.ref 231), some (.int x1), some (.int x2), some (.long x1.toInt64), none, o5]) (by decide +kernel) (Nat.le_of_ble_eq_true rfl) rfl ?_
  refine fs_iconst (n := 0) (v := 0) (by decide +kernel) (by decide) ?_
  refine fs_istore (j := 5) (L' := [some (.ref 231), some (.int x1), some (.int x2), some (.long x1.toInt64), none, some (.int 0)]) (by decide +kernel) (Nat.le_of_ble_eq_true rfl) rfl ?_
  exact nx
theorem b_M_sieges_48 {d : Nat} {x1 : Int32} {x2 : Int32} {y3 : Int64} {x5 : Int32} {S : fm_S} {r : Option Value × am_W} (kt : x2 ≤ x5 → am_Ev d k_M_sieges 89 [some (.ref 231), some (.int x1), some (.int x2), some (.long y3), none, some (.int x5)] [] (fm_mk S) r) (kf : ¬ x2 ≤ x5 → am_Ev d k_M_sieges 54 [some (.ref 231), some (.int x1), some (.int x2), some (.long y3), none, some (.int x5)] [] (fm_mk S) r) : am_Ev d k_M_sieges 48 [some (.ref 231), some (.int x1), some (.int x2), some (.long y3), none, some (.int x5)] [] (fm_mk S) r := by
  refine fs_iload (j := 5) (by decide +kernel) rfl ?_
  refine fs_iloadn (j := 2) (by decide +kernel) rfl ?_
  exact fs_icge (off := 38) (tgt := 89) (by decide +kernel) (by decide) kt kf
theorem b_M_sieges_54 {d : Nat} {x1 : Int32} {x2 : Int32} {y3 : Int64} {x5 : Int32} {v : Int32} {S1 : fm_S} {S : fm_S} {r : Option Value × am_W} (hc : am_Sp d k_M_goDay [.ref 231, .int ((((((y3 * 1103515245) + 12345) - ((y3 * 1103515245) + 12345) / 2147483648 * 2147483648) / 65536) - ((((y3 * 1103515245) + 12345) - ((y3 * 1103515245) + 12345) / 2147483648 * 2147483648) / 65536) / 7 * 7).toInt32)] (fm_mk S) (some (.int v)) (fm_mk S1)) (nx : am_Ev (d + 1) k_M_sieges 82 [some (.ref 231), some (.int x1), some (.int x2), some (.long (((y3 * 1103515245) + 12345) - ((y3 * 1103515245) + 12345) / 2147483648 * 2147483648)), none, some (.int x5)] [.int v] (fm_mk S1) r) : am_Ev (d + 1) k_M_sieges 54 [some (.ref 231), some (.int x1), some (.int x2), some (.long y3), none, some (.int x5)] [] (fm_mk S) r := by
  refine fs_lloadn (j := 3) (by decide +kernel) rfl ?_
  refine fs_ldc2 (idx := 235) (q := 1260) (v := 1103515245) (by decide +kernel) (by decide +kernel) ?_
  refine fs_lmul (by decide +kernel) ?_
  refine fs_ldc2 (idx := 237) (q := 1261) (v := 12345) (by decide +kernel) (by decide +kernel) ?_
  refine fs_ladd (by decide +kernel) ?_
  refine fs_ldc2 (idx := 239) (q := 1262) (v := 2147483648) (by decide +kernel) (by decide +kernel) ?_
  refine fe_lrem (by decide +kernel) (by decide) ?_
  refine fs_lstoren (j := 3) (L' := [some (.ref 231), some (.int x1), some (.int x2), some (.long (((y3 * 1103515245) + 12345) - ((y3 * 1103515245) + 12345) / 2147483648 * 2147483648)), none, some (.int x5)]) (by decide +kernel) (Nat.le_of_ble_eq_true rfl) rfl ?_
  refine fs_aloadn (j := 0) (by decide +kernel) rfl ?_
  refine fs_lloadn (j := 3) (by decide +kernel) rfl ?_
  refine fs_ldc2 (idx := 241) (q := 1263) (v := 65536) (by decide +kernel) (by decide +kernel) ?_
  refine fe_ldiv (by decide +kernel) (by decide) ?_
  refine fs_ldc2 (idx := 243) (q := 1264) (v := 7) (by decide +kernel) (by decide +kernel) ?_
  refine fe_lrem (by decide +kernel) (by decide) ?_
  refine fs_l2i (by decide +kernel) ?_
  exact fe_callV (t := 8) (idx := 198) (n := 1) (wp := 1134) (q := (1136, 44)) (as := [.int ((((((y3 * 1103515245) + 12345) - ((y3 * 1103515245) + 12345) / 2147483648 * 2147483648) / 65536) - ((((y3 * 1103515245) + 12345) - ((y3 * 1103515245) + 12345) / 2147483648 * 2147483648) / 65536) / 7 * 7).toInt32)]) (rs := []) (by decide +kernel) (by decide +kernel) (by decide +kernel) (by decide +kernel) rfl (Nat.le_of_ble_eq_true rfl) rfl hc nx
theorem b_M_sieges_82 {d : Nat} {x1 : Int32} {x2 : Int32} {y3 : Int64} {x5 : Int32} {sx0 : Int32} {S : fm_S} {r : Option Value × am_W} (nx : am_Ev d k_M_sieges 48 [some (.ref 231), some (.int x1), some (.int x2), some (.long y3), none, some (.int (x5 + 1))] [] (fm_mk S) r) : am_Ev d k_M_sieges 82 [some (.ref 231), some (.int x1), some (.int x2), some (.long y3), none, some (.int x5)] [.int sx0] (fm_mk S) r := by
  refine fs_pop (by decide +kernel) rfl ?_
  refine fs_iinc (j := 5) (n := 1) (v := 1) (L' := [some (.ref 231), some (.int x1), some (.int x2), some (.long y3), none, some (.int (x5 + 1))]) (by decide +kernel) rfl (Nat.le_of_ble_eq_true rfl) (by decide) rfl ?_
  refine fs_goto (off := -38) (tgt := 48) (by decide +kernel) (by decide) ?_
  exact nx
theorem b_M_sieges_89 {d : Nat} {x1 : Int32} {x2 : Int32} {y3 : Int64} {x5 : Int32} {v : Int32} {S1 : fm_S} {S : fm_S} {r : Option Value × am_W} (hc : am_Sp d k_M_openMany [.ref 231] (fm_mk S) (some (.int v)) (fm_mk S1)) (nx : am_Ev (d + 1) k_M_sieges 93 [some (.ref 231), some (.int x1), some (.int x2), some (.long y3), none, some (.int x5)] [.int v] (fm_mk S1) r) : am_Ev (d + 1) k_M_sieges 89 [some (.ref 231), some (.int x1), some (.int x2), some (.long y3), none, some (.int x5)] [] (fm_mk S) r := by
  refine fs_aloadn (j := 0) (by decide +kernel) rfl ?_
  exact fe_callV (t := 8) (idx := 245) (n := 0) (wp := 1265) (q := (1267, 55)) (as := []) (rs := []) (by decide +kernel) (by decide +kernel) (by decide +kernel) (by decide +kernel) rfl (Nat.le_of_ble_eq_true rfl) rfl hc nx
theorem b_M_sieges_93 {d : Nat} {x1 : Int32} {x2 : Int32} {y3 : Int64} {x5 : Int32} {sx0 : Int32} {S1 : fm_S} {S : fm_S} {r : Option Value × am_W} (hc : am_Sp d k_M_past [.ref 239, .ref 232, .int 0, .int 1] (fm_mk S) (none) (fm_mk S1)) (nx : am_Ev (d + 1) k_M_sieges 108 [some (.ref 231), some (.int x1), some (.int x2), some (.long y3), none, some (.int sx0)] [] (fm_mk S1) r) : am_Ev (d + 1) k_M_sieges 93 [some (.ref 231), some (.int x1), some (.int x2), some (.long y3), none, some (.int x5)] [.int sx0] (fm_mk S) r := by
  refine fs_istore (j := 5) (L' := [some (.ref 231), some (.int x1), some (.int x2), some (.long y3), none, some (.int sx0)]) (by decide +kernel) (Nat.le_of_ble_eq_true rfl) rfl ?_
  refine fs_aloadn (j := 0) (by decide +kernel) rfl ?_
  refine fe_getR (idx := 31) (t := 8) (f := 15) (fk := 2) (fin := 1) (wp := 960) (x := 239) (by decide +kernel) (by decide +kernel) (by decide +kernel) (by decide +kernel) (by decide +kernel) ?_
  refine fs_aloadn (j := 0) (by decide +kernel) rfl ?_
  refine fe_getR (idx := 7) (t := 8) (f := 0) (fk := 2) (fin := 1) (wp := 945) (x := 232) (by decide +kernel) (by decide +kernel) (by decide +kernel) (by decide +kernel) (by decide +kernel) ?_
  refine fs_iconst (n := 0) (v := 0) (by decide +kernel) (by decide) ?_
  refine fs_iconst (n := 1) (v := 1) (by decide +kernel) (by decide) ?_
  exact fe_callS (idx := 194) (kd := 0) (n := 4) (wp := 1131) (q := (1132, 0)) (as := [.ref 239, .ref 232, .int 0, .int 1]) (rs := []) (by decide +kernel) (by decide +kernel) (by decide +kernel) (by decide) rfl (Nat.le_of_ble_eq_true rfl) rfl hc nx
theorem b_M_sieges_108 {d : Nat} {x1 : Int32} {x2 : Int32} {y3 : Int64} {x5 : Int32} {S : fm_S}  : am_Ev d k_M_sieges 108 [some (.ref 231), some (.int x1), some (.int x2), some (.long y3), none, some (.int x5)] [] (fm_mk S) (some (.int x5), fm_mk S) := by
  refine fs_iload (j := 5) (by decide +kernel) rfl ?_
  exact fe_retI (by decide +kernel) (by decide +kernel)
-- KitchenSiegeModel.openMany()I
theorem b_M_openMany_0 {d : Nat} {o1 : Option Value} {o2 : Option Value} {S : fm_S} {r : Option Value × am_W} (nx : am_Ev d k_M_openMany 4 [some (.ref 231), some (.int 0), some (.int 0)] [] (fm_mk S) r) : am_Ev d k_M_openMany 0 [some (.ref 231), o1, o2] [] (fm_mk S) r := by
  refine fs_iconst (n := 0) (v := 0) (by decide +kernel) (by decide) ?_
  refine fs_istoren (j := 1) (L' := [some (.ref 231), some (.int 0), o2]) (by decide +kernel) (Nat.le_of_ble_eq_true rfl) rfl ?_
  refine fs_iconst (n := 0) (v := 0) (by decide +kernel) (by decide) ?_
  refine fs_istoren (j := 2) (L' := [some (.ref 231), some (.int 0), some (.int 0)]) (by decide +kernel) (Nat.le_of_ble_eq_true rfl) rfl ?_
  exact nx
theorem b_M_openMany_4 {d : Nat} {x1 : Int32} {x2 : Int32} {S : fm_S} {r : Option Value × am_W} (kt : (S.1 232 0) ≤ x2 → am_Ev d k_M_openMany 41 [some (.ref 231), some (.int x1), some (.int x2)] [] (fm_mk S) r) (kf : ¬ (S.1 232 0) ≤ x2 → am_Ev d k_M_openMany 14 [some (.ref 231), some (.int x1), some (.int x2)] [] (fm_mk S) r) : am_Ev d k_M_openMany 4 [some (.ref 231), some (.int x1), some (.int x2)] [] (fm_mk S) r := by
  refine fs_iloadn (j := 2) (by decide +kernel) rfl ?_
  refine fs_aloadn (j := 0) (by decide +kernel) rfl ?_
  refine fe_getR (idx := 7) (t := 8) (f := 0) (fk := 2) (fin := 1) (wp := 945) (x := 232) (by decide +kernel) (by decide +kernel) (by decide +kernel) (by decide +kernel) (by decide +kernel) ?_
  refine fs_iconst (n := 0) (v := 0) (by decide +kernel) (by decide) ?_
  refine fx_iald (n := 0) (len := 373) (by decide +kernel) (by decide +kernel) (by decide +kernel) (vp_c (by decide) (by decide)) (by decide) ?_
  exact fs_icge (off := 30) (tgt := 41) (by decide +kernel) (by decide) kt kf
theorem b_M_openMany_14 {d : Nat} {x1 : Int32} {x2 : Int32} {S : fm_S} {r : Option Value × am_W} (hi0 : vp_in (29 + x2) 373) (kt : (S.1 232 ((29 + x2).toNatClampNeg)) = (-1) → am_Ev d k_M_openMany 32 [some (.ref 231), some (.int x1), some (.int x2)] [.int x1] (fm_mk S) r) (kf : ¬ (S.1 232 ((29 + x2).toNatClampNeg)) = (-1) → am_Ev d k_M_openMany 28 [some (.ref 231), some (.int x1), some (.int x2)] [.int x1] (fm_mk S) r) : am_Ev d k_M_openMany 14 [some (.ref 231), some (.int x1), some (.int x2)] [] (fm_mk S) r := by
  refine fs_iloadn (j := 1) (by decide +kernel) rfl ?_
  refine fs_aloadn (j := 0) (by decide +kernel) rfl ?_
  refine fe_getR (idx := 7) (t := 8) (f := 0) (fk := 2) (fin := 1) (wp := 945) (x := 232) (by decide +kernel) (by decide +kernel) (by decide +kernel) (by decide +kernel) (by decide +kernel) ?_
  refine fs_bipush (n := 29) (v := 29) (by decide +kernel) (by decide) ?_
  refine fs_iloadn (j := 2) (by decide +kernel) rfl ?_
  refine fs_iadd (by decide +kernel) ?_
  refine fx_iald (n := (29 + x2).toNatClampNeg) (len := 373) (by decide +kernel) (by decide +kernel) (by decide +kernel) hi0 rfl ?_
  refine fs_iconst (n := -1) (v := (-1)) (by decide +kernel) (by decide) ?_
  exact fs_iceq (off := 7) (tgt := 32) (by decide +kernel) (by decide) kt kf
theorem b_M_openMany_28 {d : Nat} {x1 : Int32} {x2 : Int32} {sx0 : Int32} {S : fm_S} {r : Option Value × am_W} (nx : am_Ev d k_M_openMany 33 [some (.ref 231), some (.int x1), some (.int x2)] [.int 1, .int sx0] (fm_mk S) r) : am_Ev d k_M_openMany 28 [some (.ref 231), some (.int x1), some (.int x2)] [.int sx0] (fm_mk S) r := by
  refine fs_iconst (n := 1) (v := 1) (by decide +kernel) (by decide) ?_
  refine fs_goto (off := 4) (tgt := 33) (by decide +kernel) (by decide) ?_
  exact nx
theorem b_M_openMany_32 {d : Nat} {x1 : Int32} {x2 : Int32} {sx0 : Int32} {S : fm_S} {r : Option Value × am_W} (nx : am_Ev d k_M_openMany 33 [some (.ref 231), some (.int x1), some (.int x2)] [.int 0, .int sx0] (fm_mk S) r) : am_Ev d k_M_openMany 32 [some (.ref 231), some (.int x1), some (.int x2)] [.int sx0] (fm_mk S) r := by
  refine fs_iconst (n := 0) (v := 0) (by decide +kernel) (by decide) ?_
  exact nx
theorem b_M_openMany_33 {d : Nat} {x1 : Int32} {x2 : Int32} {sx0 : Int32} {sx1 : Int32} {S : fm_S} {r : Option Value × am_W} (nx : am_Ev d k_M_openMany 4 [some (.ref 231), some (.int (sx0 + sx1)), some (.int (x2 + 1))] [] (fm_mk S) r) : am_Ev d k_M_openMany 33 [some (.ref 231), some (.int x1), some (.int x2)] [.int sx1, .int sx0] (fm_mk S) r := by
  refine fs_iadd (by decide +kernel) ?_
  refine fs_istoren (j := 1) (L' := [some (.ref 231), some (.int (sx0 + sx1)), some (.int x2)]) (by decide +kernel) (Nat.le_of_ble_eq_true rfl) rfl ?_
  refine fs_iinc (j := 2) (n := 1) (v := 1) (L' := [some (.ref 231), some (.int (sx0 + sx1)), some (.int (x2 + 1))]) (by decide +kernel) rfl (Nat.le_of_ble_eq_true rfl) (by decide) rfl ?_
  refine fs_goto (off := -34) (tgt := 4) (by decide +kernel) (by decide) ?_
  exact nx
theorem b_M_openMany_41 {d : Nat} {x1 : Int32} {x2 : Int32} {S : fm_S}  : am_Ev d k_M_openMany 41 [some (.ref 231), some (.int x1), some (.int x2)] [] (fm_mk S) (some (.int x1), fm_mk S) := by
  refine fs_iloadn (j := 1) (by decide +kernel) rfl ?_
  exact fe_retI (by decide +kernel) (by decide +kernel)
-- KitchenSiegeModel.part(I)J
theorem b_M_part_0 {d : Nat} {x1 : Int32} {v : Int32} {S1 : fm_S} {S : fm_S} {r : Option Value × am_W} (hc : am_Sp d k_M_in [.long x1.toInt64, .long 0, .long 1] (fm_mk S) (some (.int v)) (fm_mk S1)) (nx : am_Ev (d + 1) k_M_part 7 [some (.ref 231), some (.int x1)] [.int v] (fm_mk S1) r) : am_Ev (d + 1) k_M_part 0 [some (.ref 231), some (.int x1)] [] (fm_mk S) r := by
  refine fs_iloadn (j := 1) (by decide +kernel) rfl ?_
  refine fs_i2l (by decide +kernel) ?_
  refine fs_lconst (n := 0) (v := 0) (by decide +kernel) (by decide) ?_
  refine fs_lconst (n := 1) (v := 1) (by decide +kernel) (by decide) ?_
  exact fe_callS (idx := 67) (kd := 0) (n := 3) (wp := 1016) (q := (1017, 0)) (as := [.long x1.toInt64, .long 0, .long 1]) (rs := []) (by decide +kernel) (by decide +kernel) (by decide +kernel) (by decide) rfl (Nat.le_of_ble_eq_true rfl) rfl hc nx
theorem b_M_part_7 {d : Nat} {x1 : Int32} {sx0 : Int32} {S : fm_S} {r : Option Value × am_W} (kt : ¬ sx0 = 0 → am_Ev d k_M_part 18 [some (.ref 231), some (.int x1)] [] (fm_mk S) r) (kf : sx0 = 0 → am_Ev d k_M_part 10 [some (.ref 231), some (.int x1)] [] (fm_mk S) r) : am_Ev d k_M_part 7 [some (.ref 231), some (.int x1)] [.int sx0] (fm_mk S) r := by
  exact fs_ifne (off := 11) (tgt := 18) (by decide +kernel) (by decide) kt kf
theorem b_M_part_10 {d : Nat} {x1 : Int32} {v : Int32} {S1 : fm_S} {S : fm_S} {r : Option Value × am_W} (hc : am_Sp d k_M_bad [.ref 231] (fm_mk S) (some (.int v)) (fm_mk S1)) (nx : am_Ev (d + 1) k_M_part 14 [some (.ref 231), some (.int x1)] [.int v] (fm_mk S1) r) : am_Ev (d + 1) k_M_part 10 [some (.ref 231), some (.int x1)] [] (fm_mk S) r := by
  refine fs_aloadn (j := 0) (by decide +kernel) rfl ?_
  exact fe_callV (t := 8) (idx := 73) (n := 0) (wp := 1020) (q := (1022, 31)) (as := []) (rs := []) (by decide +kernel) (by decide +kernel) (by decide +kernel) (by decide +kernel) rfl (Nat.le_of_ble_eq_true rfl) rfl hc nx
theorem b_M_part_14 {d : Nat} {x1 : Int32} {sx0 : Int32} {S : fm_S} {r : Option Value × am_W} (nx : am_Ev d k_M_part 33 [some (.ref 231), some (.int x1)] [.long sx0.toInt64] (fm_mk S) r) : am_Ev d k_M_part 14 [some (.ref 231), some (.int x1)] [.int sx0] (fm_mk S) r := by
  refine fs_i2l (by decide +kernel) ?_
  refine fs_goto (off := 18) (tgt := 33) (by decide +kernel) (by decide) ?_
  exact nx
theorem b_M_part_18 {d : Nat} {x1 : Int32} {S : fm_S} {r : Option Value × am_W} (kt : ¬ x1 = 0 → am_Ev d k_M_part 29 [some (.ref 231), some (.int x1)] [] (fm_mk S) r) (kf : x1 = 0 → am_Ev d k_M_part 22 [some (.ref 231), some (.int x1)] [] (fm_mk S) r) : am_Ev d k_M_part 18 [some (.ref 231), some (.int x1)] [] (fm_mk S) r := by
  refine fs_iloadn (j := 1) (by decide +kernel) rfl ?_
  exact fs_ifne (off := 10) (tgt := 29) (by decide +kernel) (by decide) kt kf
theorem b_M_part_22 {d : Nat} {x1 : Int32} {S : fm_S} {r : Option Value × am_W} (nx : am_Ev d k_M_part 33 [some (.ref 231), some (.int x1)] [.long (S.2.1 231 6)] (fm_mk S) r) : am_Ev d k_M_part 22 [some (.ref 231), some (.int x1)] [] (fm_mk S) r := by
  refine fs_aloadn (j := 0) (by decide +kernel) rfl ?_
  refine fe_getL (idx := 230) (t := 8) (f := 6) (fk := 1) (fin := 0) (wp := 951) (by decide +kernel) (by decide +kernel) (by decide +kernel) (by decide +kernel) ?_
  refine fs_goto (off := 7) (tgt := 33) (by decide +kernel) (by decide) ?_
  exact nx
theorem b_M_part_29 {d : Nat} {x1 : Int32} {S : fm_S} {r : Option Value × am_W} (nx : am_Ev d k_M_part 33 [some (.ref 231), some (.int x1)] [.long (S.2.1 231 7)] (fm_mk S) r) : am_Ev d k_M_part 29 [some (.ref 231), some (.int x1)] [] (fm_mk S) r := by
  refine fs_aloadn (j := 0) (by decide +kernel) rfl ?_
  refine fe_getL (idx := 47) (t := 8) (f := 7) (fk := 1) (fin := 0) (wp := 952) (by decide +kernel) (by decide +kernel) (by decide +kernel) (by decide +kernel) ?_
  exact nx
theorem b_M_part_33 {d : Nat} {x1 : Int32} {sy0 : Int64} {S : fm_S}  : am_Ev d k_M_part 33 [some (.ref 231), some (.int x1)] [.long sy0] (fm_mk S) (some (.long sy0), fm_mk S) := by
  exact fe_retL (by decide +kernel) (by decide +kernel)
-- KitchenSiegeModel.image(I)I
theorem b_M_image_0 {d : Nat} {x1 : Int32} {o2 : Option Value} {v : Int32} {S1 : fm_S} {S : fm_S} {r : Option Value × am_W} (hc : am_Sp d k_M_in [.long x1.toInt64, .long 0, .long 1] (fm_mk S) (some (.int v)) (fm_mk S1)) (nx : am_Ev (d + 1) k_M_image 7 [some (.ref 231), some (.int x1), o2] [.int v] (fm_mk S1) r) : am_Ev (d + 1) k_M_image 0 [some (.ref 231), some (.int x1), o2] [] (fm_mk S) r := by
  refine fs_iloadn (j := 1) (by decide +kernel) rfl ?_
  refine fs_i2l (by decide +kernel) ?_
  refine fs_lconst (n := 0) (v := 0) (by decide +kernel) (by decide) ?_
  refine fs_lconst (n := 1) (v := 1) (by decide +kernel) (by decide) ?_
  exact fe_callS (idx := 67) (kd := 0) (n := 3) (wp := 1016) (q := (1017, 0)) (as := [.long x1.toInt64, .long 0, .long 1]) (rs := []) (by decide +kernel) (by decide +kernel) (by decide +kernel) (by decide) rfl (Nat.le_of_ble_eq_true rfl) rfl hc nx
theorem b_M_image_7 {d : Nat} {x1 : Int32} {o2 : Option Value} {sx0 : Int32} {S : fm_S} {r : Option Value × am_W} (kt : ¬ sx0 = 0 → am_Ev d k_M_image 15 [some (.ref 231), some (.int x1), o2] [] (fm_mk S) r) (kf : sx0 = 0 → am_Ev d k_M_image 10 [some (.ref 231), some (.int x1), o2] [] (fm_mk S) r) : am_Ev d k_M_image 7 [some (.ref 231), some (.int x1), o2] [.int sx0] (fm_mk S) r := by
  exact fs_ifne (off := 8) (tgt := 15) (by decide +kernel) (by decide) kt kf
theorem b_M_image_10 {d : Nat} {x1 : Int32} {o2 : Option Value} {v : Int32} {S1 : fm_S} {S : fm_S} {r : Option Value × am_W} (hc : am_Sp d k_M_bad [.ref 231] (fm_mk S) (some (.int v)) (fm_mk S1)) (nx : am_Ev (d + 1) k_M_image 14 [some (.ref 231), some (.int x1), o2] [.int v] (fm_mk S1) r) : am_Ev (d + 1) k_M_image 10 [some (.ref 231), some (.int x1), o2] [] (fm_mk S) r := by
  refine fs_aloadn (j := 0) (by decide +kernel) rfl ?_
  exact fe_callV (t := 8) (idx := 73) (n := 0) (wp := 1020) (q := (1022, 31)) (as := []) (rs := []) (by decide +kernel) (by decide +kernel) (by decide +kernel) (by decide +kernel) rfl (Nat.le_of_ble_eq_true rfl) rfl hc nx
theorem b_M_image_14 {d : Nat} {x1 : Int32} {o2 : Option Value} {sx0 : Int32} {S : fm_S}  : am_Ev d k_M_image 14 [some (.ref 231), some (.int x1), o2] [.int sx0] (fm_mk S) (some (.int sx0), fm_mk S) := by
  exact fe_retI (by decide +kernel) (by decide +kernel)
theorem b_M_image_15 {d : Nat} {x1 : Int32} {o2 : Option Value} {S : fm_S} {r : Option Value × am_W} (nx : am_Ev d k_M_image 17 [some (.ref 231), some (.int x1), some (.int 0)] [] (fm_mk S) r) : am_Ev d k_M_image 15 [some (.ref 231), some (.int x1), o2] [] (fm_mk S) r := by
  refine fs_iconst (n := 0) (v := 0) (by decide +kernel) (by decide) ?_
  refine fs_istoren (j := 2) (L' := [some (.ref 231), some (.int x1), some (.int 0)]) (by decide +kernel) (Nat.le_of_ble_eq_true rfl) rfl ?_
  exact nx
theorem b_M_image_17 {d : Nat} {x1 : Int32} {x2 : Int32} {S : fm_S} {r : Option Value × am_W} (kt : 373 ≤ x2 → am_Ev d k_M_image 48 [some (.ref 231), some (.int x1), some (.int x2)] [] (fm_mk S) r) (kf : ¬ 373 ≤ x2 → am_Ev d k_M_image 24 [some (.ref 231), some (.int x1), some (.int x2)] [] (fm_mk S) r) : am_Ev d k_M_image 17 [some (.ref 231), some (.int x1), some (.int x2)] [] (fm_mk S) r := by
  refine fs_iloadn (j := 2) (by decide +kernel) rfl ?_
  refine fs_sipush (n := 373) (v := 373) (by decide +kernel) (by decide) ?_
  exact fs_icge (off := 27) (tgt := 48) (by decide +kernel) (by decide) kt kf
theorem b_M_image_24 {d : Nat} {x1 : Int32} {x2 : Int32} {S : fm_S} {r : Option Value × am_W} (hi0 : vp_in x2 373) (hi1 : vp_in ((373 * x1) + x2) 746) (nx : am_Ev d k_M_image 17 [some (.ref 231), some (.int x1), some (.int (x2 + 1))] [] (fm_mk (fm_wI S 234 (((373 * x1) + x2).toNatClampNeg) (S.1 232 x2.toNatClampNeg))) r) : am_Ev d k_M_image 24 [some (.ref 231), some (.int x1), some (.int x2)] [] (fm_mk S) r := by
  refine fs_aloadn (j := 0) (by decide +kernel) rfl ?_
  refine fe_getR (idx := 16) (t := 8) (f := 2) (fk := 2) (fin := 1) (wp := 947) (x := 234) (by decide +kernel) (by decide +kernel) (by decide +kernel) (by decide +kernel) (by decide +kernel) ?_
  refine fs_sipush (n := 373) (v := 373) (by decide +kernel) (by decide) ?_
  refine fs_iloadn (j := 1) (by decide +kernel) rfl ?_
  refine fs_imul (by decide +kernel) ?_
  refine fs_iloadn (j := 2) (by decide +kernel) rfl ?_
  refine fs_iadd (by decide +kernel) ?_
  refine fs_aloadn (j := 0) (by decide +kernel) rfl ?_
  refine fe_getR (idx := 7) (t := 8) (f := 0) (fk := 2) (fin := 1) (wp := 945) (x := 232) (by decide +kernel) (by decide +kernel) (by decide +kernel) (by decide +kernel) (by decide +kernel) ?_
  refine fs_iloadn (j := 2) (by decide +kernel) rfl ?_
  refine fx_iald (n := x2.toNatClampNeg) (len := 373) (by decide +kernel) (by decide +kernel) (by decide +kernel) hi0 rfl ?_
  refine fx_iast (n := ((373 * x1) + x2).toNatClampNeg) (len := 746) (by decide +kernel) (by decide +kernel) (by decide +kernel) hi1 rfl ?_
  refine fs_iinc (j := 2) (n := 1) (v := 1) (L' := [some (.ref 231), some (.int x1), some (.int (x2 + 1))]) (by decide +kernel) rfl (Nat.le_of_ble_eq_true rfl) (by decide) rfl ?_
  refine fs_goto (off := -28) (tgt := 17) (by decide +kernel) (by decide) ?_
  exact nx
theorem b_M_image_48 {d : Nat} {x1 : Int32} {x2 : Int32} {S : fm_S}  (hi0 : vp_in x1 2) : am_Ev d k_M_image 48 [some (.ref 231), some (.int x1), some (.int x2)] [] (fm_mk S) (some (.int 1), fm_mk (fm_wI S 235 x1.toNatClampNeg 1)) := by
  refine fs_aloadn (j := 0) (by decide +kernel) rfl ?_
  refine fe_getR (idx := 19) (t := 8) (f := 3) (fk := 2) (fin := 1) (wp := 948) (x := 235) (by decide +kernel) (by decide +kernel) (by decide +kernel) (by decide +kernel) (by decide +kernel) ?_
  refine fs_iloadn (j := 1) (by decide +kernel) rfl ?_
  refine fs_iconst (n := 1) (v := 1) (by decide +kernel) (by decide) ?_
  refine fx_iast (n := x1.toNatClampNeg) (len := 2) (by decide +kernel) (by decide +kernel) (by decide +kernel) hi0 rfl ?_
  refine fs_iconst (n := 1) (v := 1) (by decide +kernel) (by decide) ?_
  exact fe_retI (by decide +kernel) (by decide +kernel)
-- KitchenSiegeModel.from(I)I
theorem b_M_from_0 {d : Nat} {x1 : Int32} {o2 : Option Value} {v : Int32} {S1 : fm_S} {S : fm_S} {r : Option Value × am_W} (hc : am_Sp d k_M_in [.long x1.toInt64, .long 0, .long 1] (fm_mk S) (some (.int v)) (fm_mk S1)) (nx : am_Ev (d + 1) k_M_from 7 [some (.ref 231), some (.int x1), o2] [.int v] (fm_mk S1) r) : am_Ev (d + 1) k_M_from 0 [some (.ref 231), some (.int x1), o2] [] (fm_mk S) r := by
  refine fs_iloadn (j := 1) (by decide +kernel) rfl ?_
  refine fs_i2l (by decide +kernel) ?_
  refine fs_lconst (n := 0) (v := 0) (by decide +kernel) (by decide) ?_
  refine fs_lconst (n := 1) (v := 1) (by decide +kernel) (by decide) ?_
  exact fe_callS (idx := 67) (kd := 0) (n := 3) (wp := 1016) (q := (1017, 0)) (as := [.long x1.toInt64, .long 0, .long 1]) (rs := []) (by decide +kernel) (by decide +kernel) (by decide +kernel) (by decide) rfl (Nat.le_of_ble_eq_true rfl) rfl hc nx
theorem b_M_from_7 {d : Nat} {x1 : Int32} {o2 : Option Value} {sx0 : Int32} {S : fm_S} {r : Option Value × am_W} (kt : ¬ sx0 = 0 → am_Ev d k_M_from 15 [some (.ref 231), some (.int x1), o2] [] (fm_mk S) r) (kf : sx0 = 0 → am_Ev d k_M_from 10 [some (.ref 231), some (.int x1), o2] [] (fm_mk S) r) : am_Ev d k_M_from 7 [some (.ref 231), some (.int x1), o2] [.int sx0] (fm_mk S) r := by
  exact fs_ifne (off := 8) (tgt := 15) (by decide +kernel) (by decide) kt kf
theorem b_M_from_10 {d : Nat} {x1 : Int32} {o2 : Option Value} {v : Int32} {S1 : fm_S} {S : fm_S} {r : Option Value × am_W} (hc : am_Sp d k_M_bad [.ref 231] (fm_mk S) (some (.int v)) (fm_mk S1)) (nx : am_Ev (d + 1) k_M_from 14 [some (.ref 231), some (.int x1), o2] [.int v] (fm_mk S1) r) : am_Ev (d + 1) k_M_from 10 [some (.ref 231), some (.int x1), o2] [] (fm_mk S) r := by
  refine fs_aloadn (j := 0) (by decide +kernel) rfl ?_
  exact fe_callV (t := 8) (idx := 73) (n := 0) (wp := 1020) (q := (1022, 31)) (as := []) (rs := []) (by decide +kernel) (by decide +kernel) (by decide +kernel) (by decide +kernel) rfl (Nat.le_of_ble_eq_true rfl) rfl hc nx
theorem b_M_from_14 {d : Nat} {x1 : Int32} {o2 : Option Value} {sx0 : Int32} {S : fm_S}  : am_Ev d k_M_from 14 [some (.ref 231), some (.int x1), o2] [.int sx0] (fm_mk S) (some (.int sx0), fm_mk S) := by
  exact fe_retI (by decide +kernel) (by decide +kernel)
theorem b_M_from_15 {d : Nat} {x1 : Int32} {o2 : Option Value} {S : fm_S} {r : Option Value × am_W} (hi0 : vp_in x1 2) (kt : ¬ (S.1 235 x1.toNatClampNeg) = 0 → am_Ev d k_M_from 29 [some (.ref 231), some (.int x1), o2] [] (fm_mk S) r) (kf : (S.1 235 x1.toNatClampNeg) = 0 → am_Ev d k_M_from 24 [some (.ref 231), some (.int x1), o2] [] (fm_mk S) r) : am_Ev d k_M_from 15 [some (.ref 231), some (.int x1), o2] [] (fm_mk S) r := by
  refine fs_aloadn (j := 0) (by decide +kernel) rfl ?_
  refine fe_getR (idx := 19) (t := 8) (f := 3) (fk := 2) (fin := 1) (wp := 948) (x := 235) (by decide +kernel) (by decide +kernel) (by decide +kernel) (by decide +kernel) (by decide +kernel) ?_
  refine fs_iloadn (j := 1) (by decide +kernel) rfl ?_
  refine fx_iald (n := x1.toNatClampNeg) (len := 2) (by decide +kernel) (by decide +kernel) (by decide +kernel) hi0 rfl ?_
  exact fs_ifne (off := 8) (tgt := 29) (by decide +kernel) (by decide) kt kf
theorem b_M_from_24 {d : Nat} {x1 : Int32} {o2 : Option Value} {v : Int32} {S1 : fm_S} {S : fm_S} {r : Option Value × am_W} (hc : am_Sp d k_M_no [.ref 231] (fm_mk S) (some (.int v)) (fm_mk S1)) (nx : am_Ev (d + 1) k_M_from 28 [some (.ref 231), some (.int x1), o2] [.int v] (fm_mk S1) r) : am_Ev (d + 1) k_M_from 24 [some (.ref 231), some (.int x1), o2] [] (fm_mk S) r := by
  refine fs_aloadn (j := 0) (by decide +kernel) rfl ?_
  exact fe_callV (t := 8) (idx := 88) (n := 0) (wp := 1039) (q := (1041, 34)) (as := []) (rs := []) (by decide +kernel) (by decide +kernel) (by decide +kernel) (by decide +kernel) rfl (Nat.le_of_ble_eq_true rfl) rfl hc nx
theorem b_M_from_28 {d : Nat} {x1 : Int32} {o2 : Option Value} {sx0 : Int32} {S : fm_S}  : am_Ev d k_M_from 28 [some (.ref 231), some (.int x1), o2] [.int sx0] (fm_mk S) (some (.int sx0), fm_mk S) := by
  exact fe_retI (by decide +kernel) (by decide +kernel)
theorem b_M_from_29 {d : Nat} {x1 : Int32} {o2 : Option Value} {S : fm_S} {r : Option Value × am_W} (nx : am_Ev d k_M_from 31 [some (.ref 231), some (.int x1), some (.int 0)] [] (fm_mk S) r) : am_Ev d k_M_from 29 [some (.ref 231), some (.int x1), o2] [] (fm_mk S) r := by
  refine fs_iconst (n := 0) (v := 0) (by decide +kernel) (by decide) ?_
  refine fs_istoren (j := 2) (L' := [some (.ref 231), some (.int x1), some (.int 0)]) (by decide +kernel) (Nat.le_of_ble_eq_true rfl) rfl ?_
  exact nx
theorem b_M_from_31 {d : Nat} {x1 : Int32} {x2 : Int32} {S : fm_S} {r : Option Value × am_W} (kt : 373 ≤ x2 → am_Ev d k_M_from 62 [some (.ref 231), some (.int x1), some (.int x2)] [] (fm_mk S) r) (kf : ¬ 373 ≤ x2 → am_Ev d k_M_from 38 [some (.ref 231), some (.int x1), some (.int x2)] [] (fm_mk S) r) : am_Ev d k_M_from 31 [some (.ref 231), some (.int x1), some (.int x2)] [] (fm_mk S) r := by
  refine fs_iloadn (j := 2) (by decide +kernel) rfl ?_
  refine fs_sipush (n := 373) (v := 373) (by decide +kernel) (by decide) ?_
  exact fs_icge (off := 27) (tgt := 62) (by decide +kernel) (by decide) kt kf
theorem b_M_from_38 {d : Nat} {x1 : Int32} {x2 : Int32} {S : fm_S} {r : Option Value × am_W} (hi0 : vp_in ((373 * x1) + x2) 746) (hi1 : vp_in x2 373) (nx : am_Ev d k_M_from 31 [some (.ref 231), some (.int x1), some (.int (x2 + 1))] [] (fm_mk (fm_wI S 232 x2.toNatClampNeg (S.1 234 (((373 * x1) + x2).toNatClampNeg)))) r) : am_Ev d k_M_from 38 [some (.ref 231), some (.int x1), some (.int x2)] [] (fm_mk S) r := by
  refine fs_aloadn (j := 0) (by decide +kernel) rfl ?_
  refine fe_getR (idx := 7) (t := 8) (f := 0) (fk := 2) (fin := 1) (wp := 945) (x := 232) (by decide +kernel) (by decide +kernel) (by decide +kernel) (by decide +kernel) (by decide +kernel) ?_
  refine fs_iloadn (j := 2) (by decide +kernel) rfl ?_
  refine fs_aloadn (j := 0) (by decide +kernel) rfl ?_
  refine fe_getR (idx := 16) (t := 8) (f := 2) (fk := 2) (fin := 1) (wp := 947) (x := 234) (by decide +kernel) (by decide +kernel) (by decide +kernel) (by decide +kernel) (by decide +kernel) ?_
  refine fs_sipush (n := 373) (v := 373) (by decide +kernel) (by decide) ?_
  refine fs_iloadn (j := 1) (by decide +kernel) rfl ?_
  refine fs_imul (by decide +kernel) ?_
  refine fs_iloadn (j := 2) (by decide +kernel) rfl ?_
  refine fs_iadd (by decide +kernel) ?_
  refine fx_iald (n := ((373 * x1) + x2).toNatClampNeg) (len := 746) (by decide +kernel) (by decide +kernel) (by decide +kernel) hi0 rfl ?_
  refine fx_iast (n := x2.toNatClampNeg) (len := 373) (by decide +kernel) (by decide +kernel) (by decide +kernel) hi1 rfl ?_
  refine fs_iinc (j := 2) (n := 1) (v := 1) (L' := [some (.ref 231), some (.int x1), some (.int (x2 + 1))]) (by decide +kernel) rfl (Nat.le_of_ble_eq_true rfl) (by decide) rfl ?_
  refine fs_goto (off := -28) (tgt := 31) (by decide +kernel) (by decide) ?_
  exact nx
theorem b_M_from_62 {d : Nat} {x1 : Int32} {x2 : Int32} {S : fm_S}  : am_Ev d k_M_from 62 [some (.ref 231), some (.int x1), some (.int x2)] [] (fm_mk S) (some (.int 1), fm_mk S) := by
  refine fs_iconst (n := 1) (v := 1) (by decide +kernel) (by decide) ?_
  exact fe_retI (by decide +kernel) (by decide +kernel)
-- KitchenSiegeModel.status(I)I
theorem b_M_status_0 {d : Nat} {x1 : Int32} {v : Int32} {S1 : fm_S} {S : fm_S} {r : Option Value × am_W} (hc : am_Sp d k_M_in [.long x1.toInt64, .long 0, .long 2] (fm_mk S) (some (.int v)) (fm_mk S1)) (nx : am_Ev (d + 1) k_M_status 9 [some (.ref 231), some (.int x1)] [.int v] (fm_mk S1) r) : am_Ev (d + 1) k_M_status 0 [some (.ref 231), some (.int x1)] [] (fm_mk S) r := by
  refine fs_iloadn (j := 1) (by decide +kernel) rfl ?_
  refine fs_i2l (by decide +kernel) ?_
  refine fs_lconst (n := 0) (v := 0) (by decide +kernel) (by decide) ?_
  refine fs_ldc2 (idx := 124) (q := 1118) (v := 2) (by decide +kernel) (by decide +kernel) ?_
  exact fe_callS (idx := 67) (kd := 0) (n := 3) (wp := 1016) (q := (1017, 0)) (as := [.long x1.toInt64, .long 0, .long 2]) (rs := []) (by decide +kernel) (by decide +kernel) (by decide +kernel) (by decide) rfl (Nat.le_of_ble_eq_true rfl) rfl hc nx
theorem b_M_status_9 {d : Nat} {x1 : Int32} {sx0 : Int32} {S : fm_S} {r : Option Value × am_W} (kt : ¬ sx0 = 0 → am_Ev d k_M_status 24 [some (.ref 231), some (.int x1)] [] (fm_mk S) r) (kf : sx0 = 0 → am_Ev d k_M_status 12 [some (.ref 231), some (.int x1)] [] (fm_mk S) r) : am_Ev d k_M_status 9 [some (.ref 231), some (.int x1)] [.int sx0] (fm_mk S) r := by
  exact fs_ifne (off := 15) (tgt := 24) (by decide +kernel) (by decide) kt kf
theorem b_M_status_12 {d : Nat} {x1 : Int32} {S : fm_S}  : am_Ev d k_M_status 12 [some (.ref 231), some (.int x1)] [] (fm_mk S) (some (.int (-1)), fm_mk (fm_wI S 231 8 ((S.1 231 8) + 1))) := by
  refine fs_aloadn (j := 0) (by decide +kernel) rfl ?_
  refine fs_dup (by decide +kernel) rfl ?_
  refine fe_getI (idx := 55) (t := 8) (f := 8) (fk := 0) (fin := 0) (wp := 953) (by decide +kernel) (by decide +kernel) (by decide +kernel) (by decide +kernel) ?_
  refine fs_iconst (n := 1) (v := 1) (by decide +kernel) (by decide) ?_
  refine fs_iadd (by decide +kernel) ?_
  refine fe_putI (idx := 55) (t := 8) (f := 8) (wp := 953) (by decide +kernel) (by decide +kernel) (by decide +kernel) (by decide +kernel) ?_
  refine fs_iconst (n := -1) (v := (-1)) (by decide +kernel) (by decide) ?_
  exact fe_retI (by decide +kernel) (by decide +kernel)
theorem b_M_status_24 {d : Nat} {x1 : Int32} {S : fm_S} {r : Option Value × am_W} (kt : ¬ x1 = 0 → am_Ev d k_M_status 35 [some (.ref 231), some (.int x1)] [] (fm_mk S) r) (kf : x1 = 0 → am_Ev d k_M_status 28 [some (.ref 231), some (.int x1)] [] (fm_mk S) r) : am_Ev d k_M_status 24 [some (.ref 231), some (.int x1)] [] (fm_mk S) r := by
  refine fs_iloadn (j := 1) (by decide +kernel) rfl ?_
  exact fs_ifne (off := 10) (tgt := 35) (by decide +kernel) (by decide) kt kf
theorem b_M_status_28 {d : Nat} {x1 : Int32} {S : fm_S} {r : Option Value × am_W} (nx : am_Ev d k_M_status 51 [some (.ref 231), some (.int x1)] [.int (S.1 231 8)] (fm_mk S) r) : am_Ev d k_M_status 28 [some (.ref 231), some (.int x1)] [] (fm_mk S) r := by
  refine fs_aloadn (j := 0) (by decide +kernel) rfl ?_
  refine fe_getI (idx := 55) (t := 8) (f := 8) (fk := 0) (fin := 0) (wp := 953) (by decide +kernel) (by decide +kernel) (by decide +kernel) (by decide +kernel) ?_
  refine fs_goto (off := 19) (tgt := 51) (by decide +kernel) (by decide) ?_
  exact nx
theorem b_M_status_35 {d : Nat} {x1 : Int32} {S : fm_S} {r : Option Value × am_W} (kt : ¬ x1 = 1 → am_Ev d k_M_status 47 [some (.ref 231), some (.int x1)] [] (fm_mk S) r) (kf : x1 = 1 → am_Ev d k_M_status 40 [some (.ref 231), some (.int x1)] [] (fm_mk S) r) : am_Ev d k_M_status 35 [some (.ref 231), some (.int x1)] [] (fm_mk S) r := by
  refine fs_iloadn (j := 1) (by decide +kernel) rfl ?_
  refine fs_iconst (n := 1) (v := 1) (by decide +kernel) (by decide) ?_
  exact fs_icne (off := 10) (tgt := 47) (by decide +kernel) (by decide) kt kf
theorem b_M_status_40 {d : Nat} {x1 : Int32} {S : fm_S} {r : Option Value × am_W} (nx : am_Ev d k_M_status 51 [some (.ref 231), some (.int x1)] [.int (S.1 231 9)] (fm_mk S) r) : am_Ev d k_M_status 40 [some (.ref 231), some (.int x1)] [] (fm_mk S) r := by
  refine fs_aloadn (j := 0) (by decide +kernel) rfl ?_
  refine fe_getI (idx := 59) (t := 8) (f := 9) (fk := 0) (fin := 0) (wp := 954) (by decide +kernel) (by decide +kernel) (by decide +kernel) (by decide +kernel) ?_
  refine fs_goto (off := 7) (tgt := 51) (by decide +kernel) (by decide) ?_
  exact nx
theorem b_M_status_47 {d : Nat} {x1 : Int32} {S : fm_S} {r : Option Value × am_W} (nx : am_Ev d k_M_status 51 [some (.ref 231), some (.int x1)] [.int (S.1 231 10)] (fm_mk S) r) : am_Ev d k_M_status 47 [some (.ref 231), some (.int x1)] [] (fm_mk S) r := by
  refine fs_aloadn (j := 0) (by decide +kernel) rfl ?_
  refine fe_getI (idx := 62) (t := 8) (f := 10) (fk := 0) (fin := 0) (wp := 955) (by decide +kernel) (by decide +kernel) (by decide +kernel) (by decide +kernel) ?_
  exact nx
theorem b_M_status_51 {d : Nat} {x1 : Int32} {sx0 : Int32} {S : fm_S}  : am_Ev d k_M_status 51 [some (.ref 231), some (.int x1)] [.int sx0] (fm_mk S) (some (.int sx0), fm_mk S) := by
  exact fe_retI (by decide +kernel) (by decide +kernel)
-- KitchenSiegeModel.count(I)I
theorem b_M_count_0 {d : Nat} {x1 : Int32} {v : Int32} {S1 : fm_S} {S : fm_S} {r : Option Value × am_W} (hc : am_Sp d k_M_in [.long x1.toInt64, .long 0, .long 6] (fm_mk S) (some (.int v)) (fm_mk S1)) (nx : am_Ev (d + 1) k_M_count 9 [some (.ref 231), some (.int x1)] [.int v] (fm_mk S1) r) : am_Ev (d + 1) k_M_count 0 [some (.ref 231), some (.int x1)] [] (fm_mk S) r := by
  refine fs_iloadn (j := 1) (by decide +kernel) rfl ?_
  refine fs_i2l (by decide +kernel) ?_
  refine fs_lconst (n := 0) (v := 0) (by decide +kernel) (by decide) ?_
  refine fs_ldc2 (idx := 248) (q := 1289) (v := 6) (by decide +kernel) (by decide +kernel) ?_
  exact fe_callS (idx := 67) (kd := 0) (n := 3) (wp := 1016) (q := (1017, 0)) (as := [.long x1.toInt64, .long 0, .long 6]) (rs := []) (by decide +kernel) (by decide +kernel) (by decide +kernel) (by decide) rfl (Nat.le_of_ble_eq_true rfl) rfl hc nx
theorem b_M_count_9 {d : Nat} {x1 : Int32} {sx0 : Int32} {S : fm_S} {r : Option Value × am_W} (kt : sx0 = 0 → am_Ev d k_M_count 20 [some (.ref 231), some (.int x1)] [] (fm_mk S) r) (kf : ¬ sx0 = 0 → am_Ev d k_M_count 12 [some (.ref 231), some (.int x1)] [] (fm_mk S) r) : am_Ev d k_M_count 9 [some (.ref 231), some (.int x1)] [.int sx0] (fm_mk S) r := by
  exact fs_ifeq (off := 11) (tgt := 20) (by decide +kernel) (by decide) kt kf
theorem b_M_count_12 {d : Nat} {x1 : Int32} {v : Int32} {S1 : fm_S} {S : fm_S} {r : Option Value × am_W} (hc : am_Sp d k_M_countOf [.ref 231, .int x1] (fm_mk S) (some (.int v)) (fm_mk S1)) (nx : am_Ev (d + 1) k_M_count 17 [some (.ref 231), some (.int x1)] [.int v] (fm_mk S1) r) : am_Ev (d + 1) k_M_count 12 [some (.ref 231), some (.int x1)] [] (fm_mk S) r := by
  refine fs_aloadn (j := 0) (by decide +kernel) rfl ?_
  refine fs_iloadn (j := 1) (by decide +kernel) rfl ?_
  exact fe_callV (t := 8) (idx := 250) (n := 1) (wp := 1290) (q := (1292, 56)) (as := [.int x1]) (rs := []) (by decide +kernel) (by decide +kernel) (by decide +kernel) (by decide +kernel) rfl (Nat.le_of_ble_eq_true rfl) rfl hc nx
theorem b_M_count_17 {d : Nat} {x1 : Int32} {sx0 : Int32} {S : fm_S} {r : Option Value × am_W} (nx : am_Ev d k_M_count 24 [some (.ref 231), some (.int x1)] [.int sx0] (fm_mk S) r) : am_Ev d k_M_count 17 [some (.ref 231), some (.int x1)] [.int sx0] (fm_mk S) r := by
  refine fs_goto (off := 7) (tgt := 24) (by decide +kernel) (by decide) ?_
  exact nx
theorem b_M_count_20 {d : Nat} {x1 : Int32} {v : Int32} {S1 : fm_S} {S : fm_S} {r : Option Value × am_W} (hc : am_Sp d k_M_bad [.ref 231] (fm_mk S) (some (.int v)) (fm_mk S1)) (nx : am_Ev (d + 1) k_M_count 24 [some (.ref 231), some (.int x1)] [.int v] (fm_mk S1) r) : am_Ev (d + 1) k_M_count 20 [some (.ref 231), some (.int x1)] [] (fm_mk S) r := by
  refine fs_aloadn (j := 0) (by decide +kernel) rfl ?_
  exact fe_callV (t := 8) (idx := 73) (n := 0) (wp := 1020) (q := (1022, 31)) (as := []) (rs := []) (by decide +kernel) (by decide +kernel) (by decide +kernel) (by decide +kernel) rfl (Nat.le_of_ble_eq_true rfl) rfl hc nx
theorem b_M_count_24 {d : Nat} {x1 : Int32} {sx0 : Int32} {S : fm_S}  : am_Ev d k_M_count 24 [some (.ref 231), some (.int x1)] [.int sx0] (fm_mk S) (some (.int sx0), fm_mk S) := by
  exact fe_retI (by decide +kernel) (by decide +kernel)
-- KitchenSiegeModel.countOf(I)I
theorem b_M_countOf_0 {d : Nat} {x1 : Int32} {S : fm_S} {r : Option Value × am_W} (k0 : x1 = 0 → am_Ev d k_M_countOf 40 [some (.ref 231), some (.int x1)] [] (fm_mk S) r) (k1 : x1 = 1 → am_Ev d k_M_countOf 47 [some (.ref 231), some (.int x1)] [] (fm_mk S) r) (k2 : x1 = 2 → am_Ev d k_M_countOf 54 [some (.ref 231), some (.int x1)] [] (fm_mk S) r) (k3 : x1 = 3 → am_Ev d k_M_countOf 61 [some (.ref 231), some (.int x1)] [] (fm_mk S) r) (k4 : x1 = 4 → am_Ev d k_M_countOf 66 [some (.ref 231), some (.int x1)] [] (fm_mk S) r) (k5 : x1 = 5 → am_Ev d k_M_countOf 73 [some (.ref 231), some (.int x1)] [] (fm_mk S) r) (kd : ¬ x1 = 0 → ¬ x1 = 1 → ¬ x1 = 2 → ¬ x1 = 3 → ¬ x1 = 4 → ¬ x1 = 5 → am_Ev d k_M_countOf 80 [some (.ref 231), some (.int x1)] [] (fm_mk S) r) : am_Ev d k_M_countOf 0 [some (.ref 231), some (.int x1)] [] (fm_mk S) r := by
  refine fs_iloadn (j := 1) (by decide +kernel) rfl ?_
  by_cases c0 : x1 = 0
  · exact fs_sw (i := .tableswitch 79 0 5 #[39, 46, 53, 60, 65, 72]) (z := 39) (by decide +kernel) rfl (by rw [c0]; rfl) (k0 c0)
  by_cases c1 : x1 = 1
  · exact fs_sw (i := .tableswitch 79 0 5 #[39, 46, 53, 60, 65, 72]) (z := 39) (by decide +kernel) rfl (by rw [c1]; rfl) (k1 c1)
  by_cases c2 : x1 = 2
  · exact fs_sw (i := .tableswitch 79 0 5 #[39, 46, 53, 60, 65, 72]) (z := 39) (by decide +kernel) rfl (by rw [c2]; rfl) (k2 c2)
  by_cases c3 : x1 = 3
  · exact fs_sw (i := .tableswitch 79 0 5 #[39, 46, 53, 60, 65, 72]) (z := 39) (by decide +kernel) rfl (by rw [c3]; rfl) (k3 c3)
  by_cases c4 : x1 = 4
  · exact fs_sw (i := .tableswitch 79 0 5 #[39, 46, 53, 60, 65, 72]) (z := 39) (by decide +kernel) rfl (by rw [c4]; rfl) (k4 c4)
  by_cases c5 : x1 = 5
  · exact fs_sw (i := .tableswitch 79 0 5 #[39, 46, 53, 60, 65, 72]) (z := 39) (by decide +kernel) rfl (by rw [c5]; rfl) (k5 c5)
  have e0 : ¬ (x1).toInt = 0 := fun q => c0 (Int32.toInt_inj.mp (q.trans (by decide)))
  have e1 : ¬ (x1).toInt = 1 := fun q => c1 (Int32.toInt_inj.mp (q.trans (by decide)))
  have e2 : ¬ (x1).toInt = 2 := fun q => c2 (Int32.toInt_inj.mp (q.trans (by decide)))
  have e3 : ¬ (x1).toInt = 3 := fun q => c3 (Int32.toInt_inj.mp (q.trans (by decide)))
  have e4 : ¬ (x1).toInt = 4 := fun q => c4 (Int32.toInt_inj.mp (q.trans (by decide)))
  have e5 : ¬ (x1).toInt = 5 := fun q => c5 (Int32.toInt_inj.mp (q.trans (by decide)))
  exact fs_tout (dflt := 79) (lo := 0) (hi := 5) (offs := #[39, 46, 53, 60, 65, 72]) (z := 39) (by decide +kernel) (by omega) (by decide) (kd c0 c1 c2 c3 c4 c5)
theorem b_M_countOf_40 {d : Nat} {x1 : Int32} {S : fm_S}  : am_Ev d k_M_countOf 40 [some (.ref 231), some (.int x1)] [] (fm_mk S) (some (.int (S.1 232 0)), fm_mk S) := by
  refine fs_aloadn (j := 0) (by decide +kernel) rfl ?_
  refine fe_getR (idx := 7) (t := 8) (f := 0) (fk := 2) (fin := 1) (wp := 945) (x := 232) (by decide +kernel) (by decide +kernel) (by decide +kernel) (by decide +kernel) (by decide +kernel) ?_
  refine fs_iconst (n := 0) (v := 0) (by decide +kernel) (by decide) ?_
  refine fx_iald (n := 0) (len := 373) (by decide +kernel) (by decide +kernel) (by decide +kernel) (vp_c (by decide) (by decide)) (by decide) ?_
  exact fe_retI (by decide +kernel) (by decide +kernel)
theorem b_M_countOf_47 {d : Nat} {x1 : Int32} {S : fm_S}  : am_Ev d k_M_countOf 47 [some (.ref 231), some (.int x1)] [] (fm_mk S) (some (.int (S.1 232 1)), fm_mk S) := by
  refine fs_aloadn (j := 0) (by decide +kernel) rfl ?_
  refine fe_getR (idx := 7) (t := 8) (f := 0) (fk := 2) (fin := 1) (wp := 945) (x := 232) (by decide +kernel) (by decide +kernel) (by decide +kernel) (by decide +kernel) (by decide +kernel) ?_
  refine fs_iconst (n := 1) (v := 1) (by decide +kernel) (by decide) ?_
  refine fx_iald (n := 1) (len := 373) (by decide +kernel) (by decide +kernel) (by decide +kernel) (vp_c (by decide) (by decide)) (by decide) ?_
  exact fe_retI (by decide +kernel) (by decide +kernel)
theorem b_M_countOf_54 {d : Nat} {x1 : Int32} {S : fm_S}  : am_Ev d k_M_countOf 54 [some (.ref 231), some (.int x1)] [] (fm_mk S) (some (.int (S.1 232 4)), fm_mk S) := by
  refine fs_aloadn (j := 0) (by decide +kernel) rfl ?_
  refine fe_getR (idx := 7) (t := 8) (f := 0) (fk := 2) (fin := 1) (wp := 945) (x := 232) (by decide +kernel) (by decide +kernel) (by decide +kernel) (by decide +kernel) (by decide +kernel) ?_
  refine fs_iconst (n := 4) (v := 4) (by decide +kernel) (by decide) ?_
  refine fx_iald (n := 4) (len := 373) (by decide +kernel) (by decide +kernel) (by decide +kernel) (vp_c (by decide) (by decide)) (by decide) ?_
  exact fe_retI (by decide +kernel) (by decide +kernel)
theorem b_M_countOf_61 {d : Nat} {x1 : Int32} {v : Int32} {S1 : fm_S} {S : fm_S} {r : Option Value × am_W} (hc : am_Sp d k_M_openMany [.ref 231] (fm_mk S) (some (.int v)) (fm_mk S1)) (nx : am_Ev (d + 1) k_M_countOf 65 [some (.ref 231), some (.int x1)] [.int v] (fm_mk S1) r) : am_Ev (d + 1) k_M_countOf 61 [some (.ref 231), some (.int x1)] [] (fm_mk S) r := by
  refine fs_aloadn (j := 0) (by decide +kernel) rfl ?_
  exact fe_callV (t := 8) (idx := 245) (n := 0) (wp := 1265) (q := (1267, 55)) (as := []) (rs := []) (by decide +kernel) (by decide +kernel) (by decide +kernel) (by decide +kernel) rfl (Nat.le_of_ble_eq_true rfl) rfl hc nx
theorem b_M_countOf_65 {d : Nat} {x1 : Int32} {sx0 : Int32} {S : fm_S}  : am_Ev d k_M_countOf 65 [some (.ref 231), some (.int x1)] [.int sx0] (fm_mk S) (some (.int sx0), fm_mk S) := by
  exact fe_retI (by decide +kernel) (by decide +kernel)
theorem b_M_countOf_66 {d : Nat} {x1 : Int32} {S : fm_S}  : am_Ev d k_M_countOf 66 [some (.ref 231), some (.int x1)] [] (fm_mk S) (some (.int (S.1 232 2)), fm_mk S) := by
  refine fs_aloadn (j := 0) (by decide +kernel) rfl ?_
  refine fe_getR (idx := 7) (t := 8) (f := 0) (fk := 2) (fin := 1) (wp := 945) (x := 232) (by decide +kernel) (by decide +kernel) (by decide +kernel) (by decide +kernel) (by decide +kernel) ?_
  refine fs_iconst (n := 2) (v := 2) (by decide +kernel) (by decide) ?_
  refine fx_iald (n := 2) (len := 373) (by decide +kernel) (by decide +kernel) (by decide +kernel) (vp_c (by decide) (by decide)) (by decide) ?_
  exact fe_retI (by decide +kernel) (by decide +kernel)
theorem b_M_countOf_73 {d : Nat} {x1 : Int32} {S : fm_S}  : am_Ev d k_M_countOf 73 [some (.ref 231), some (.int x1)] [] (fm_mk S) (some (.int (S.1 232 3)), fm_mk S) := by
  refine fs_aloadn (j := 0) (by decide +kernel) rfl ?_
  refine fe_getR (idx := 7) (t := 8) (f := 0) (fk := 2) (fin := 1) (wp := 945) (x := 232) (by decide +kernel) (by decide +kernel) (by decide +kernel) (by decide +kernel) (by decide +kernel) ?_
  refine fs_iconst (n := 3) (v := 3) (by decide +kernel) (by decide) ?_
  refine fx_iald (n := 3) (len := 373) (by decide +kernel) (by decide +kernel) (by decide +kernel) (vp_c (by decide) (by decide)) (by decide) ?_
  exact fe_retI (by decide +kernel) (by decide +kernel)
theorem b_M_countOf_80 {d : Nat} {x1 : Int32} {S : fm_S}  : am_Ev d k_M_countOf 80 [some (.ref 231), some (.int x1)] [] (fm_mk S) (some (.int (S.1 231 5)), fm_mk S) := by
  refine fs_aloadn (j := 0) (by decide +kernel) rfl ?_
  refine fe_getI (idx := 104) (t := 8) (f := 5) (fk := 0) (fin := 0) (wp := 950) (by decide +kernel) (by decide +kernel) (by decide +kernel) (by decide +kernel) ?_
  exact fe_retI (by decide +kernel) (by decide +kernel)
-- KitchenSiegeModel.digest()J
theorem b_M_digest_0 {d : Nat} {o1 : Option Value} {o2 : Option Value} {o3 : Option Value} {S : fm_S} {r : Option Value × am_W} (nx : am_Ev d k_M_digest 6 [some (.ref 231), some (.long 1069), none, some (.int 0)] [] (fm_mk S) r) : am_Ev d k_M_digest 0 [some (.ref 231), o1, o2, o3] [] (fm_mk S) r := by
  refine fs_ldc2 (idx := 253) (q := 1298) (v := 1069) (by decide +kernel) (by decide +kernel) ?_
  refine fs_lstoren (j := 1) (L' := [some (.ref 231), some (.long 1069), none, o3]) (by decide +kernel) (Nat.le_of_ble_eq_true rfl) rfl ?_
  refine fs_iconst (n := 0) (v := 0) (by decide +kernel) (by decide) ?_
  refine fs_istoren (j := 3) (L' := [some (.ref 231), some (.long 1069), none, some (.int 0)]) (by decide +kernel) (Nat.le_of_ble_eq_true rfl) rfl ?_
  exact nx
theorem b_M_digest_6 {d : Nat} {y1 : Int64} {x3 : Int32} {S : fm_S} {r : Option Value × am_W} (kt : 7 ≤ x3 → am_Ev d k_M_digest 31 [some (.ref 231), some (.long y1), none, some (.int x3)] [] (fm_mk S) r) (kf : ¬ 7 ≤ x3 → am_Ev d k_M_digest 12 [some (.ref 231), some (.long y1), none, some (.int x3)] [] (fm_mk S) r) : am_Ev d k_M_digest 6 [some (.ref 231), some (.long y1), none, some (.int x3)] [] (fm_mk S) r := by
  refine fs_iloadn (j := 3) (by decide +kernel) rfl ?_
  refine fs_bipush (n := 7) (v := 7) (by decide +kernel) (by decide) ?_
  exact fs_icge (off := 22) (tgt := 31) (by decide +kernel) (by decide) kt kf
theorem b_M_digest_12 {d : Nat} {y1 : Int64} {x3 : Int32} {v : Int32} {S1 : fm_S} {S : fm_S} {r : Option Value × am_W} (hc : am_Sp d k_M_countOf [.ref 231, .int x3] (fm_mk S) (some (.int v)) (fm_mk S1)) (nx : am_Ev (d + 1) k_M_digest 22 [some (.ref 231), some (.long y1), none, some (.int x3)] [.int v, .long (31 * y1)] (fm_mk S1) r) : am_Ev (d + 1) k_M_digest 12 [some (.ref 231), some (.long y1), none, some (.int x3)] [] (fm_mk S) r := by
  refine fs_ldc2 (idx := 255) (q := 1299) (v := 31) (by decide +kernel) (by decide +kernel) ?_
  refine fs_lloadn (j := 1) (by decide +kernel) rfl ?_
  refine fs_lmul (by decide +kernel) ?_
  refine fs_aloadn (j := 0) (by decide +kernel) rfl ?_
  refine fs_iloadn (j := 3) (by decide +kernel) rfl ?_
  exact fe_callV (t := 8) (idx := 250) (n := 1) (wp := 1290) (q := (1292, 56)) (as := [.int x3]) (rs := [.long (31 * y1)]) (by decide +kernel) (by decide +kernel) (by decide +kernel) (by decide +kernel) rfl (Nat.le_of_ble_eq_true rfl) rfl hc nx
theorem b_M_digest_22 {d : Nat} {y1 : Int64} {x3 : Int32} {sy0 : Int64} {sx1 : Int32} {S : fm_S} {r : Option Value × am_W} (nx : am_Ev d k_M_digest 6 [some (.ref 231), some (.long (sy0 + sx1.toInt64)), none, some (.int (x3 + 1))] [] (fm_mk S) r) : am_Ev d k_M_digest 22 [some (.ref 231), some (.long y1), none, some (.int x3)] [.int sx1, .long sy0] (fm_mk S) r := by
  refine fs_i2l (by decide +kernel) ?_
  refine fs_ladd (by decide +kernel) ?_
  refine fs_lstoren (j := 1) (L' := [some (.ref 231), some (.long (sy0 + sx1.toInt64)), none, some (.int x3)]) (by decide +kernel) (Nat.le_of_ble_eq_true rfl) rfl ?_
  refine fs_iinc (j := 3) (n := 1) (v := 1) (L' := [some (.ref 231), some (.long (sy0 + sx1.toInt64)), none, some (.int (x3 + 1))]) (by decide +kernel) rfl (Nat.le_of_ble_eq_true rfl) (by decide) rfl ?_
  refine fs_goto (off := -22) (tgt := 6) (by decide +kernel) (by decide) ?_
  exact nx
theorem b_M_digest_31 {d : Nat} {y1 : Int64} {x3 : Int32} {S : fm_S} {r : Option Value × am_W} (nx : am_Ev d k_M_digest 33 [some (.ref 231), some (.long y1), none, some (.int 0)] [] (fm_mk S) r) : am_Ev d k_M_digest 31 [some (.ref 231), some (.long y1), none, some (.int x3)] [] (fm_mk S) r := by
  refine fs_iconst (n := 0) (v := 0) (by decide +kernel) (by decide) ?_
  refine fs_istoren (j := 3) (L' := [some (.ref 231), some (.long y1), none, some (.int 0)]) (by decide +kernel) (Nat.le_of_ble_eq_true rfl) rfl ?_
  exact nx
theorem b_M_digest_33 {d : Nat} {y1 : Int64} {x3 : Int32} {S : fm_S} {r : Option Value × am_W} (kt : (6 * (S.1 232 0)) ≤ x3 → am_Ev d k_M_digest 79 [some (.ref 231), some (.long y1), none, some (.int x3)] [] (fm_mk S) r) (kf : ¬ (6 * (S.1 232 0)) ≤ x3 → am_Ev d k_M_digest 46 [some (.ref 231), some (.long y1), none, some (.int x3)] [] (fm_mk S) r) : am_Ev d k_M_digest 33 [some (.ref 231), some (.long y1), none, some (.int x3)] [] (fm_mk S) r := by
  refine fs_iloadn (j := 3) (by decide +kernel) rfl ?_
  refine fs_bipush (n := 6) (v := 6) (by decide +kernel) (by decide) ?_
  refine fs_aloadn (j := 0) (by decide +kernel) rfl ?_
  refine fe_getR (idx := 7) (t := 8) (f := 0) (fk := 2) (fin := 1) (wp := 945) (x := 232) (by decide +kernel) (by decide +kernel) (by decide +kernel) (by decide +kernel) (by decide +kernel) ?_
  refine fs_iconst (n := 0) (v := 0) (by decide +kernel) (by decide) ?_
  refine fx_iald (n := 0) (len := 373) (by decide +kernel) (by decide +kernel) (by decide +kernel) (vp_c (by decide) (by decide)) (by decide) ?_
  refine fs_imul (by decide +kernel) ?_
  exact fs_icge (off := 36) (tgt := 79) (by decide +kernel) (by decide) kt kf
theorem b_M_digest_46 {d : Nat} {y1 : Int64} {x3 : Int32} {S : fm_S} {r : Option Value × am_W} (hi0 : vp_in ((5 + (8 * (x3 - x3 / 6 * 6))) + (x3 / 6)) 373) (nx : am_Ev d k_M_digest 33 [some (.ref 231), some (.long ((31 * y1) + ((S.1 232 (((5 + (8 * (x3 - x3 / 6 * 6))) + (x3 / 6)).toNatClampNeg)).toInt64))), none, some (.int (x3 + 1))] [] (fm_mk S) r) : am_Ev d k_M_digest 46 [some (.ref 231), some (.long y1), none, some (.int x3)] [] (fm_mk S) r := by
  refine fs_ldc2 (idx := 255) (q := 1299) (v := 31) (by decide +kernel) (by decide +kernel) ?_
  refine fs_lloadn (j := 1) (by decide +kernel) rfl ?_
  refine fs_lmul (by decide +kernel) ?_
  refine fs_aloadn (j := 0) (by decide +kernel) rfl ?_
  refine fe_getR (idx := 7) (t := 8) (f := 0) (fk := 2) (fin := 1) (wp := 945) (x := 232) (by decide +kernel) (by decide +kernel) (by decide +kernel) (by decide +kernel) (by decide +kernel) ?_
  refine fs_iconst (n := 5) (v := 5) (by decide +kernel) (by decide) ?_
  refine fs_bipush (n := 8) (v := 8) (by decide +kernel) (by decide) ?_
  refine fs_iloadn (j := 3) (by decide +kernel) rfl ?_
  refine fs_bipush (n := 6) (v := 6) (by decide +kernel) (by decide) ?_
  refine fe_irem (by decide +kernel) (by decide) ?_
  refine fs_imul (by decide +kernel) ?_
  refine fs_iadd (by decide +kernel) ?_
  refine fs_iloadn (j := 3) (by decide +kernel) rfl ?_
  refine fs_bipush (n := 6) (v := 6) (by decide +kernel) (by decide) ?_
  refine fe_idiv (by decide +kernel) (by decide) ?_
  refine fs_iadd (by decide +kernel) ?_
  refine fx_iald (n := ((5 + (8 * (x3 - x3 / 6 * 6))) + (x3 / 6)).toNatClampNeg) (len := 373) (by decide +kernel) (by decide +kernel) (by decide +kernel) hi0 rfl ?_
  refine fs_i2l (by decide +kernel) ?_
  refine fs_ladd (by decide +kernel) ?_
  refine fs_lstoren (j := 1) (L' := [some (.ref 231), some (.long ((31 * y1) + ((S.1 232 (((5 + (8 * (x3 - x3 / 6 * 6))) + (x3 / 6)).toNatClampNeg)).toInt64))), none, some (.int x3)]) (by decide +kernel) (Nat.le_of_ble_eq_true rfl) rfl ?_
  refine fs_iinc (j := 3) (n := 1) (v := 1) (L' := [some (.ref 231), some (.long ((31 * y1) + ((S.1 232 (((5 + (8 * (x3 - x3 / 6 * 6))) + (x3 / 6)).toNatClampNeg)).toInt64))), none, some (.int (x3 + 1))]) (by decide +kernel) rfl (Nat.le_of_ble_eq_true rfl) (by decide) rfl ?_
  refine fs_goto (off := -43) (tgt := 33) (by decide +kernel) (by decide) ?_
  exact nx
theorem b_M_digest_79 {d : Nat} {y1 : Int64} {x3 : Int32} {S : fm_S} {r : Option Value × am_W} (nx : am_Ev d k_M_digest 81 [some (.ref 231), some (.long y1), none, some (.int 0)] [] (fm_mk S) r) : am_Ev d k_M_digest 79 [some (.ref 231), some (.long y1), none, some (.int x3)] [] (fm_mk S) r := by
  refine fs_iconst (n := 0) (v := 0) (by decide +kernel) (by decide) ?_
  refine fs_istoren (j := 3) (L' := [some (.ref 231), some (.long y1), none, some (.int 0)]) (by decide +kernel) (Nat.le_of_ble_eq_true rfl) rfl ?_
  exact nx
theorem b_M_digest_81 {d : Nat} {y1 : Int64} {x3 : Int32} {S : fm_S} {r : Option Value × am_W} (kt : 64 ≤ x3 → am_Ev d k_M_digest 125 [some (.ref 231), some (.long y1), none, some (.int x3)] [] (fm_mk S) r) (kf : ¬ 64 ≤ x3 → am_Ev d k_M_digest 87 [some (.ref 231), some (.long y1), none, some (.int x3)] [] (fm_mk S) r) : am_Ev d k_M_digest 81 [some (.ref 231), some (.long y1), none, some (.int x3)] [] (fm_mk S) r := by
  refine fs_iloadn (j := 3) (by decide +kernel) rfl ?_
  refine fs_bipush (n := 64) (v := 64) (by decide +kernel) (by decide) ?_
  exact fs_icge (off := 41) (tgt := 125) (by decide +kernel) (by decide) kt kf
theorem b_M_digest_87 {d : Nat} {y1 : Int64} {x3 : Int32} {S : fm_S} {r : Option Value × am_W} (kt : (x3 - x3 / 8 * 8) ≤ (x3 / 8) → am_Ev d k_M_digest 117 [some (.ref 231), some (.long y1), none, some (.int x3)] [] (fm_mk S) r) (kf : ¬ (x3 - x3 / 8 * 8) ≤ (x3 / 8) → am_Ev d k_M_digest 98 [some (.ref 231), some (.long y1), none, some (.int x3)] [] (fm_mk S) r) : am_Ev d k_M_digest 87 [some (.ref 231), some (.long y1), none, some (.int x3)] [] (fm_mk S) r := by
  refine fs_iloadn (j := 3) (by decide +kernel) rfl ?_
  refine fs_bipush (n := 8) (v := 8) (by decide +kernel) (by decide) ?_
  refine fe_idiv (by decide +kernel) (by decide) ?_
  refine fs_iloadn (j := 3) (by decide +kernel) rfl ?_
  refine fs_bipush (n := 8) (v := 8) (by decide +kernel) (by decide) ?_
  refine fe_irem (by decide +kernel) (by decide) ?_
  exact fs_icge (off := 22) (tgt := 117) (by decide +kernel) (by decide) kt kf
theorem b_M_digest_98 {d : Nat} {y1 : Int64} {x3 : Int32} {S : fm_S} {r : Option Value × am_W} (hi0 : vp_in (53 + x3) 373) (nx : am_Ev d k_M_digest 118 [some (.ref 231), some (.long y1), none, some (.int x3)] [.long ((31 * y1) + ((S.1 232 ((53 + x3).toNatClampNeg)).toInt64))] (fm_mk S) r) : am_Ev d k_M_digest 98 [some (.ref 231), some (.long y1), none, some (.int x3)] [] (fm_mk S) r := by
  refine fs_ldc2 (idx := 255) (q := 1299) (v := 31) (by decide +kernel) (by decide +kernel) ?_
  refine fs_lloadn (j := 1) (by decide +kernel) rfl ?_
  refine fs_lmul (by decide +kernel) ?_
  refine fs_aloadn (j := 0) (by decide +kernel) rfl ?_
  refine fe_getR (idx := 7) (t := 8) (f := 0) (fk := 2) (fin := 1) (wp := 945) (x := 232) (by decide +kernel) (by decide +kernel) (by decide +kernel) (by decide +kernel) (by decide +kernel) ?_
  refine fs_bipush (n := 53) (v := 53) (by decide +kernel) (by decide) ?_
  refine fs_iloadn (j := 3) (by decide +kernel) rfl ?_
  refine fs_iadd (by decide +kernel) ?_
  refine fx_iald (n := (53 + x3).toNatClampNeg) (len := 373) (by decide +kernel) (by decide +kernel) (by decide +kernel) hi0 rfl ?_
  refine fs_i2l (by decide +kernel) ?_
  refine fs_ladd (by decide +kernel) ?_
  refine fs_goto (off := 4) (tgt := 118) (by decide +kernel) (by decide) ?_
  exact nx
theorem b_M_digest_117 {d : Nat} {y1 : Int64} {x3 : Int32} {S : fm_S} {r : Option Value × am_W} (nx : am_Ev d k_M_digest 118 [some (.ref 231), some (.long y1), none, some (.int x3)] [.long y1] (fm_mk S) r) : am_Ev d k_M_digest 117 [some (.ref 231), some (.long y1), none, some (.int x3)] [] (fm_mk S) r := by
  refine fs_lloadn (j := 1) (by decide +kernel) rfl ?_
  exact nx
theorem b_M_digest_118 {d : Nat} {y1 : Int64} {x3 : Int32} {sy0 : Int64} {S : fm_S} {r : Option Value × am_W} (nx : am_Ev d k_M_digest 81 [some (.ref 231), some (.long sy0), none, some (.int (x3 + 1))] [] (fm_mk S) r) : am_Ev d k_M_digest 118 [some (.ref 231), some (.long y1), none, some (.int x3)] [.long sy0] (fm_mk S) r := by
  refine fs_lstoren (j := 1) (L' := [some (.ref 231), some (.long sy0), none, some (.int x3)]) (by decide +kernel) (Nat.le_of_ble_eq_true rfl) rfl ?_
  refine fs_iinc (j := 3) (n := 1) (v := 1) (L' := [some (.ref 231), some (.long sy0), none, some (.int (x3 + 1))]) (by decide +kernel) rfl (Nat.le_of_ble_eq_true rfl) (by decide) rfl ?_
  refine fs_goto (off := -41) (tgt := 81) (by decide +kernel) (by decide) ?_
  exact nx
theorem b_M_digest_125 {d : Nat} {y1 : Int64} {x3 : Int32} {S : fm_S} {r : Option Value × am_W} (nx : am_Ev d k_M_digest 127 [some (.ref 231), some (.long y1), none, some (.int 0)] [] (fm_mk S) r) : am_Ev d k_M_digest 125 [some (.ref 231), some (.long y1), none, some (.int x3)] [] (fm_mk S) r := by
  refine fs_iconst (n := 0) (v := 0) (by decide +kernel) (by decide) ?_
  refine fs_istoren (j := 3) (L' := [some (.ref 231), some (.long y1), none, some (.int 0)]) (by decide +kernel) (Nat.le_of_ble_eq_true rfl) rfl ?_
  exact nx
theorem b_M_digest_127 {d : Nat} {y1 : Int64} {x3 : Int32} {S : fm_S} {r : Option Value × am_W} (kt : 8 ≤ x3 → am_Ev d k_M_digest 156 [some (.ref 231), some (.long y1), none, some (.int x3)] [] (fm_mk S) r) (kf : ¬ 8 ≤ x3 → am_Ev d k_M_digest 133 [some (.ref 231), some (.long y1), none, some (.int x3)] [] (fm_mk S) r) : am_Ev d k_M_digest 127 [some (.ref 231), some (.long y1), none, some (.int x3)] [] (fm_mk S) r := by
  refine fs_iloadn (j := 3) (by decide +kernel) rfl ?_
  refine fs_bipush (n := 8) (v := 8) (by decide +kernel) (by decide) ?_
  exact fs_icge (off := 26) (tgt := 156) (by decide +kernel) (by decide) kt kf
theorem b_M_digest_133 {d : Nat} {y1 : Int64} {x3 : Int32} {S : fm_S} {r : Option Value × am_W} (hi0 : vp_in (117 + x3) 373) (nx : am_Ev d k_M_digest 127 [some (.ref 231), some (.long ((31 * y1) + ((S.1 232 ((117 + x3).toNatClampNeg)).toInt64))), none, some (.int (x3 + 1))] [] (fm_mk S) r) : am_Ev d k_M_digest 133 [some (.ref 231), some (.long y1), none, some (.int x3)] [] (fm_mk S) r := by
  refine fs_ldc2 (idx := 255) (q := 1299) (v := 31) (by decide +kernel) (by decide +kernel) ?_
  refine fs_lloadn (j := 1) (by decide +kernel) rfl ?_
  refine fs_lmul (by decide +kernel) ?_
  refine fs_aloadn (j := 0) (by decide +kernel) rfl ?_
  refine fe_getR (idx := 7) (t := 8) (f := 0) (fk := 2) (fin := 1) (wp := 945) (x := 232) (by decide +kernel) (by decide +kernel) (by decide +kernel) (by decide +kernel) (by decide +kernel) ?_
  refine fs_bipush (n := 117) (v := 117) (by decide +kernel) (by decide) ?_
  refine fs_iloadn (j := 3) (by decide +kernel) rfl ?_
  refine fs_iadd (by decide +kernel) ?_
  refine fx_iald (n := (117 + x3).toNatClampNeg) (len := 373) (by decide +kernel) (by decide +kernel) (by decide +kernel) hi0 rfl ?_
  refine fs_i2l (by decide +kernel) ?_
  refine fs_ladd (by decide +kernel) ?_
  refine fs_lstoren (j := 1) (L' := [some (.ref 231), some (.long ((31 * y1) + ((S.1 232 ((117 + x3).toNatClampNeg)).toInt64))), none, some (.int x3)]) (by decide +kernel) (Nat.le_of_ble_eq_true rfl) rfl ?_
  refine fs_iinc (j := 3) (n := 1) (v := 1) (L' := [some (.ref 231), some (.long ((31 * y1) + ((S.1 232 ((117 + x3).toNatClampNeg)).toInt64))), none, some (.int (x3 + 1))]) (by decide +kernel) rfl (Nat.le_of_ble_eq_true rfl) (by decide) rfl ?_
  refine fs_goto (off := -26) (tgt := 127) (by decide +kernel) (by decide) ?_
  exact nx
theorem b_M_digest_156 {d : Nat} {y1 : Int64} {x3 : Int32} {S : fm_S} {r : Option Value × am_W} (nx : am_Ev d k_M_digest 158 [some (.ref 231), some (.long y1), none, some (.int 0)] [] (fm_mk S) r) : am_Ev d k_M_digest 156 [some (.ref 231), some (.long y1), none, some (.int x3)] [] (fm_mk S) r := by
  refine fs_iconst (n := 0) (v := 0) (by decide +kernel) (by decide) ?_
  refine fs_istoren (j := 3) (L' := [some (.ref 231), some (.long y1), none, some (.int 0)]) (by decide +kernel) (Nat.le_of_ble_eq_true rfl) rfl ?_
  exact nx
theorem b_M_digest_158 {d : Nat} {y1 : Int64} {x3 : Int32} {S : fm_S} {r : Option Value × am_W} (kt : (3 * (S.1 232 1)) ≤ x3 → am_Ev d k_M_digest 202 [some (.ref 231), some (.long y1), none, some (.int x3)] [] (fm_mk S) r) (kf : ¬ (3 * (S.1 232 1)) ≤ x3 → am_Ev d k_M_digest 170 [some (.ref 231), some (.long y1), none, some (.int x3)] [] (fm_mk S) r) : am_Ev d k_M_digest 158 [some (.ref 231), some (.long y1), none, some (.int x3)] [] (fm_mk S) r := by
  refine fs_iloadn (j := 3) (by decide +kernel) rfl ?_
  refine fs_iconst (n := 3) (v := 3) (by decide +kernel) (by decide) ?_
  refine fs_aloadn (j := 0) (by decide +kernel) rfl ?_
  refine fe_getR (idx := 7) (t := 8) (f := 0) (fk := 2) (fin := 1) (wp := 945) (x := 232) (by decide +kernel) (by decide +kernel) (by decide +kernel) (by decide +kernel) (by decide +kernel) ?_
  refine fs_iconst (n := 1) (v := 1) (by decide +kernel) (by decide) ?_
  refine fx_iald (n := 1) (len := 373) (by decide +kernel) (by decide +kernel) (by decide +kernel) (vp_c (by decide) (by decide)) (by decide) ?_
  refine fs_imul (by decide +kernel) ?_
  exact fs_icge (off := 35) (tgt := 202) (by decide +kernel) (by decide) kt kf
theorem b_M_digest_170 {d : Nat} {y1 : Int64} {x3 : Int32} {S : fm_S} {r : Option Value × am_W} (hi0 : vp_in ((125 + (6 * (x3 - x3 / 3 * 3))) + (x3 / 3)) 373) (nx : am_Ev d k_M_digest 158 [some (.ref 231), some (.long ((31 * y1) + ((S.1 232 (((125 + (6 * (x3 - x3 / 3 * 3))) + (x3 / 3)).toNatClampNeg)).toInt64))), none, some (.int (x3 + 1))] [] (fm_mk S) r) : am_Ev d k_M_digest 170 [some (.ref 231), some (.long y1), none, some (.int x3)] [] (fm_mk S) r := by
  refine fs_ldc2 (idx := 255) (q := 1299) (v := 31) (by decide +kernel) (by decide +kernel) ?_
  refine fs_lloadn (j := 1) (by decide +kernel) rfl ?_
  refine fs_lmul (by decide +kernel) ?_
  refine fs_aloadn (j := 0) (by decide +kernel) rfl ?_
  refine fe_getR (idx := 7) (t := 8) (f := 0) (fk := 2) (fin := 1) (wp := 945) (x := 232) (by decide +kernel) (by decide +kernel) (by decide +kernel) (by decide +kernel) (by decide +kernel) ?_
  refine fs_bipush (n := 125) (v := 125) (by decide +kernel) (by decide) ?_
  refine fs_bipush (n := 6) (v := 6) (by decide +kernel) (by decide) ?_
  refine fs_iloadn (j := 3) (by decide +kernel) rfl ?_
  refine fs_iconst (n := 3) (v := 3) (by decide +kernel) (by decide) ?_
  refine fe_irem (by decide +kernel) (by decide) ?_
  refine fs_imul (by decide +kernel) ?_
  refine fs_iadd (by decide +kernel) ?_
  refine fs_iloadn (j := 3) (by decide +kernel) rfl ?_
  refine fs_iconst (n := 3) (v := 3) (by decide +kernel) (by decide) ?_
  refine fe_idiv (by decide +kernel) (by decide) ?_
  refine fs_iadd (by decide +kernel) ?_
  refine fx_iald (n := ((125 + (6 * (x3 - x3 / 3 * 3))) + (x3 / 3)).toNatClampNeg) (len := 373) (by decide +kernel) (by decide +kernel) (by decide +kernel) hi0 rfl ?_
  refine fs_i2l (by decide +kernel) ?_
  refine fs_ladd (by decide +kernel) ?_
  refine fs_lstoren (j := 1) (L' := [some (.ref 231), some (.long ((31 * y1) + ((S.1 232 (((125 + (6 * (x3 - x3 / 3 * 3))) + (x3 / 3)).toNatClampNeg)).toInt64))), none, some (.int x3)]) (by decide +kernel) (Nat.le_of_ble_eq_true rfl) rfl ?_
  refine fs_iinc (j := 3) (n := 1) (v := 1) (L' := [some (.ref 231), some (.long ((31 * y1) + ((S.1 232 (((125 + (6 * (x3 - x3 / 3 * 3))) + (x3 / 3)).toNatClampNeg)).toInt64))), none, some (.int (x3 + 1))]) (by decide +kernel) rfl (Nat.le_of_ble_eq_true rfl) (by decide) rfl ?_
  refine fs_goto (off := -41) (tgt := 158) (by decide +kernel) (by decide) ?_
  exact nx
theorem b_M_digest_202 {d : Nat} {y1 : Int64} {x3 : Int32} {S : fm_S} {r : Option Value × am_W} (nx : am_Ev d k_M_digest 204 [some (.ref 231), some (.long y1), none, some (.int 0)] [] (fm_mk S) r) : am_Ev d k_M_digest 202 [some (.ref 231), some (.long y1), none, some (.int x3)] [] (fm_mk S) r := by
  refine fs_iconst (n := 0) (v := 0) (by decide +kernel) (by decide) ?_
  refine fs_istoren (j := 3) (L' := [some (.ref 231), some (.long y1), none, some (.int 0)]) (by decide +kernel) (Nat.le_of_ble_eq_true rfl) rfl ?_
  exact nx
theorem b_M_digest_204 {d : Nat} {y1 : Int64} {x3 : Int32} {S : fm_S} {r : Option Value × am_W} (kt : (5 * (S.1 232 2)) ≤ x3 → am_Ev d k_M_digest 249 [some (.ref 231), some (.long y1), none, some (.int x3)] [] (fm_mk S) r) (kf : ¬ (5 * (S.1 232 2)) ≤ x3 → am_Ev d k_M_digest 216 [some (.ref 231), some (.long y1), none, some (.int x3)] [] (fm_mk S) r) : am_Ev d k_M_digest 204 [some (.ref 231), some (.long y1), none, some (.int x3)] [] (fm_mk S) r := by
  refine fs_iloadn (j := 3) (by decide +kernel) rfl ?_
  refine fs_iconst (n := 5) (v := 5) (by decide +kernel) (by decide) ?_
  refine fs_aloadn (j := 0) (by decide +kernel) rfl ?_
  refine fe_getR (idx := 7) (t := 8) (f := 0) (fk := 2) (fin := 1) (wp := 945) (x := 232) (by decide +kernel) (by decide +kernel) (by decide +kernel) (by decide +kernel) (by decide +kernel) ?_
  refine fs_iconst (n := 2) (v := 2) (by decide +kernel) (by decide) ?_
  refine fx_iald (n := 2) (len := 373) (by decide +kernel) (by decide +kernel) (by decide +kernel) (vp_c (by decide) (by decide)) (by decide) ?_
  refine fs_imul (by decide +kernel) ?_
  exact fs_icge (off := 36) (tgt := 249) (by decide +kernel) (by decide) kt kf
theorem b_M_digest_216 {d : Nat} {y1 : Int64} {x3 : Int32} {S : fm_S} {r : Option Value × am_W} (hi0 : vp_in ((143 + (6 * (x3 - x3 / 5 * 5))) + (x3 / 5)) 373) (nx : am_Ev d k_M_digest 204 [some (.ref 231), some (.long ((31 * y1) + ((S.1 232 (((143 + (6 * (x3 - x3 / 5 * 5))) + (x3 / 5)).toNatClampNeg)).toInt64))), none, some (.int (x3 + 1))] [] (fm_mk S) r) : am_Ev d k_M_digest 216 [some (.ref 231), some (.long y1), none, some (.int x3)] [] (fm_mk S) r := by
  refine fs_ldc2 (idx := 255) (q := 1299) (v := 31) (by decide +kernel) (by decide +kernel) ?_
  refine fs_lloadn (j := 1) (by decide +kernel) rfl ?_
  refine fs_lmul (by decide +kernel) ?_
  refine fs_aloadn (j := 0) (by decide +kernel) rfl ?_
  refine fe_getR (idx := 7) (t := 8) (f := 0) (fk := 2) (fin := 1) (wp := 945) (x := 232) (by decide +kernel) (by decide +kernel) (by decide +kernel) (by decide +kernel) (by decide +kernel) ?_
  refine fs_sipush (n := 143) (v := 143) (by decide +kernel) (by decide) ?_
  refine fs_bipush (n := 6) (v := 6) (by decide +kernel) (by decide) ?_
  refine fs_iloadn (j := 3) (by decide +kernel) rfl ?_
  refine fs_iconst (n := 5) (v := 5) (by decide +kernel) (by decide) ?_
  refine fe_irem (by decide +kernel) (by decide) ?_
  refine fs_imul (by decide +kernel) ?_
  refine fs_iadd (by decide +kernel) ?_
  refine fs_iloadn (j := 3) (by decide +kernel) rfl ?_
  refine fs_iconst (n := 5) (v := 5) (by decide +kernel) (by decide) ?_
  refine fe_idiv (by decide +kernel) (by decide) ?_
  refine fs_iadd (by decide +kernel) ?_
  refine fx_iald (n := ((143 + (6 * (x3 - x3 / 5 * 5))) + (x3 / 5)).toNatClampNeg) (len := 373) (by decide +kernel) (by decide +kernel) (by decide +kernel) hi0 rfl ?_
  refine fs_i2l (by decide +kernel) ?_
  refine fs_ladd (by decide +kernel) ?_
  refine fs_lstoren (j := 1) (L' := [some (.ref 231), some (.long ((31 * y1) + ((S.1 232 (((143 + (6 * (x3 - x3 / 5 * 5))) + (x3 / 5)).toNatClampNeg)).toInt64))), none, some (.int x3)]) (by decide +kernel) (Nat.le_of_ble_eq_true rfl) rfl ?_
  refine fs_iinc (j := 3) (n := 1) (v := 1) (L' := [some (.ref 231), some (.long ((31 * y1) + ((S.1 232 (((143 + (6 * (x3 - x3 / 5 * 5))) + (x3 / 5)).toNatClampNeg)).toInt64))), none, some (.int (x3 + 1))]) (by decide +kernel) rfl (Nat.le_of_ble_eq_true rfl) (by decide) rfl ?_
  refine fs_goto (off := -42) (tgt := 204) (by decide +kernel) (by decide) ?_
  exact nx
theorem b_M_digest_249 {d : Nat} {y1 : Int64} {x3 : Int32} {S : fm_S}  : am_Ev d k_M_digest 249 [some (.ref 231), some (.long y1), none, some (.int x3)] [] (fm_mk S) (some (.long ((31 * ((31 * y1) + (S.2.1 231 6))) + (S.2.1 231 7))), fm_mk S) := by
  refine fs_ldc2 (idx := 255) (q := 1299) (v := 31) (by decide +kernel) (by decide +kernel) ?_
  refine fs_ldc2 (idx := 255) (q := 1299) (v := 31) (by decide +kernel) (by decide +kernel) ?_
  refine fs_lloadn (j := 1) (by decide +kernel) rfl ?_
  refine fs_lmul (by decide +kernel) ?_
  refine fs_aloadn (j := 0) (by decide +kernel) rfl ?_
  refine fe_getL (idx := 230) (t := 8) (f := 6) (fk := 1) (fin := 0) (wp := 951) (by decide +kernel) (by decide +kernel) (by decide +kernel) (by decide +kernel) ?_
  refine fs_ladd (by decide +kernel) ?_
  refine fs_lmul (by decide +kernel) ?_
  refine fs_aloadn (j := 0) (by decide +kernel) rfl ?_
  refine fe_getL (idx := 47) (t := 8) (f := 7) (fk := 1) (fin := 0) (wp := 952) (by decide +kernel) (by decide +kernel) (by decide +kernel) (by decide +kernel) ?_
  refine fs_ladd (by decide +kernel) ?_
  exact fe_retL (by decide +kernel) (by decide +kernel)
