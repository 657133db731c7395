/-! basic blocks: printed by wip/whole/gen13.py -/
-- KitchenSiege$Cook.pass(LKitchenSiege$Days;I)I
theorem b_Cook_pass_0 {d : Nat} {a1 : Nat} {x2 : Int32} {o3 : Option Value} {o4 : Option Value} {o5 : Option Value} {S : fm_S} {r : Option Value × am_W} (kt : ¬ x2 = (-1) → am_Ev d k_Cook_pass 15 [some (.ref 54), some (.ref a1), some (.int x2), o3, o4, o5] [] (fm_mk S) r) (kf : x2 = (-1) → am_Ev d k_Cook_pass 5 [some (.ref 54), some (.ref a1), some (.int x2), o3, o4, o5] [] (fm_mk S) r) : am_Ev d k_Cook_pass 0 [some (.ref 54), some (.ref a1), some (.int x2), o3, o4, o5] [] (fm_mk S) r := by
  refine fs_iloadn (j := 2) (by decide +kernel) rfl ?_
  refine fs_iconst (n := -1) (v := (-1)) (by decide +kernel) (by decide) ?_
  exact fs_icne (off := 13) (tgt := 15) (by decide +kernel) (by decide) kt kf
theorem b_Cook_pass_5 {d : Nat} {a1 : Nat} {x2 : Int32} {o3 : Option Value} {o4 : Option Value} {o5 : Option Value} {S1 : fm_S} {S : fm_S} {r : Option Value × am_W} (hc : am_Sp d k_Air_empty [.ref 56] (fm_mk S) (none) (fm_mk S1)) (nx : am_Ev (d + 1) k_Cook_pass 12 [some (.ref 54), some (.ref a1), some (.int x2), o3, o4, o5] [] (fm_mk S1) r) : am_Ev (d + 1) k_Cook_pass 5 [some (.ref 54), some (.ref a1), some (.int x2), o3, o4, o5] [] (fm_mk S) r := by
  refine fs_aloadn (j := 0) (by decide +kernel) rfl ?_
  refine fe_getR (idx := 18) (t := 1) (f := 3) (fk := 2) (fin := 1) (wp := 252) (x := 56) (by decide +kernel) (by decide +kernel) (by decide +kernel) (by decide +kernel) (by decide +kernel) ?_
  exact fe_callV (t := 0) (idx := 45) (n := 0) (wp := 594) (q := (595, 596)) (as := []) (rs := []) (by decide +kernel) (by decide +kernel) (by decide +kernel) (by decide +kernel) rfl (Nat.le_of_ble_eq_true rfl) rfl hc nx
theorem b_Cook_pass_12 {d : Nat} {a1 : Nat} {x2 : Int32} {o3 : Option Value} {o4 : Option Value} {o5 : Option Value} {S : fm_S} {r : Option Value × am_W} (nx : am_Ev d k_Cook_pass 38 [some (.ref 54), some (.ref a1), some (.int x2), o3, o4, o5] [] (fm_mk S) r) : am_Ev d k_Cook_pass 12 [some (.ref 54), some (.ref a1), some (.int x2), o3, o4, o5] [] (fm_mk S) r := by
  refine fs_goto (off := 26) (tgt := 38) (by decide +kernel) (by decide) ?_
  exact nx
theorem b_Cook_pass_15 {d : Nat} {a1 : Nat} {x2 : Int32} {o3 : Option Value} {o4 : Option Value} {o5 : Option Value} {v : Int32} {S1 : fm_S} {S : fm_S} {r : Option Value × am_W} (h_a1 : fm_tg a1 = 2) (hc : am_Sp d k_Town_windOn [.ref 1, .int (S.1 a1 0)] (fm_mk S) (some (.int v)) (fm_mk S1)) (nx : am_Ev (d + 1) k_Cook_pass 35 [some (.ref 54), some (.ref a1), some (.int x2), o3, o4, o5] [.int v, .int x2, .ref 1, .ref 56] (fm_mk S1) r) : am_Ev (d + 1) k_Cook_pass 15 [some (.ref 54), some (.ref a1), some (.int x2), o3, o4, o5] [] (fm_mk S) r := by
  have D_a1 := fm_days h_a1
  refine fs_aloadn (j := 0) (by decide +kernel) rfl ?_
  refine fe_getR (idx := 18) (t := 1) (f := 3) (fk := 2) (fin := 1) (wp := 252) (x := 56) (by decide +kernel) (by decide +kernel) (by decide +kernel) (by decide +kernel) (by decide +kernel) ?_
  refine fs_aloadn (j := 0) (by decide +kernel) rfl ?_
  refine fe_getR (idx := 41) (t := 1) (f := 2) (fk := 2) (fin := 1) (wp := 251) (x := 1) (by decide +kernel) (by decide +kernel) (by decide +kernel) (by decide +kernel) (by decide +kernel) ?_
  refine fs_iloadn (j := 2) (by decide +kernel) rfl ?_
  refine fs_aloadn (j := 0) (by decide +kernel) rfl ?_
  refine fe_getR (idx := 41) (t := 1) (f := 2) (fk := 2) (fin := 1) (wp := 251) (x := 1) (by decide +kernel) (by decide +kernel) (by decide +kernel) (by decide +kernel) (by decide +kernel) ?_
  refine fs_aloadn (j := 1) (by decide +kernel) rfl ?_
  refine fe_getI (idx := 48) (t := 2) (f := 0) (fk := 0) (fin := 0) (wp := 124) (by decide +kernel) (by decide +kernel) h_a1 (by decide +kernel) ?_
  exact fe_callV (t := 6) (idx := 52) (n := 1) (wp := 598) (q := (599, 600)) (as := [.int (S.1 a1 0)]) (rs := [.int x2, .ref 1, .ref 56]) (by decide +kernel) (by decide +kernel) (by decide +kernel) (by decide +kernel) rfl (Nat.le_of_ble_eq_true rfl) rfl hc nx
theorem b_Cook_pass_35 {d : Nat} {a1 : Nat} {x2 : Int32} {o3 : Option Value} {o4 : Option Value} {o5 : Option Value} {sx2 : Int32} {sx3 : Int32} {S1 : fm_S} {S : fm_S} {r : Option Value × am_W} (hc : am_Sp d k_Air_fill [.ref 56, .ref 1, .int sx2, .int sx3] (fm_mk S) (none) (fm_mk S1)) (nx : am_Ev (d + 1) k_Cook_pass 38 [some (.ref 54), some (.ref a1), some (.int x2), o3, o4, o5] [] (fm_mk S1) r) : am_Ev (d + 1) k_Cook_pass 35 [some (.ref 54), some (.ref a1), some (.int x2), o3, o4, o5] [.int sx3, .int sx2, .ref 1, .ref 56] (fm_mk S) r := by
  exact fe_callV (t := 0) (idx := 58) (n := 3) (wp := 605) (q := (606, 607)) (as := [.ref 1, .int sx2, .int sx3]) (rs := []) (by decide +kernel) (by decide +kernel) (by decide +kernel) (by decide +kernel) rfl (Nat.le_of_ble_eq_true rfl) rfl hc nx
theorem b_Cook_pass_38 {d : Nat} {a1 : Nat} {x2 : Int32} {o3 : Option Value} {o4 : Option Value} {o5 : Option Value} {S : fm_S} {r : Option Value × am_W} (kt : ¬ x2 = (-1) → am_Ev d k_Cook_pass 47 [some (.ref 54), some (.ref a1), some (.int x2), o3, o4, o5] [] (fm_mk S) r) (kf : x2 = (-1) → am_Ev d k_Cook_pass 43 [some (.ref 54), some (.ref a1), some (.int x2), o3, o4, o5] [] (fm_mk S) r) : am_Ev d k_Cook_pass 38 [some (.ref 54), some (.ref a1), some (.int x2), o3, o4, o5] [] (fm_mk S) r := by
  refine fs_iloadn (j := 2) (by decide +kernel) rfl ?_
  refine fs_iconst (n := -1) (v := (-1)) (by decide +kernel) (by decide) ?_
  exact fs_icne (off := 7) (tgt := 47) (by decide +kernel) (by decide) kt kf
theorem b_Cook_pass_43 {d : Nat} {a1 : Nat} {x2 : Int32} {o3 : Option Value} {o4 : Option Value} {o5 : Option Value} {S : fm_S} {r : Option Value × am_W} (nx : am_Ev d k_Cook_pass 56 [some (.ref 54), some (.ref a1), some (.int x2), o3, o4, o5] [.int (-1)] (fm_mk S) r) : am_Ev d k_Cook_pass 43 [some (.ref 54), some (.ref a1), some (.int x2), o3, o4, o5] [] (fm_mk S) r := by
  refine fs_iconst (n := -1) (v := (-1)) (by decide +kernel) (by decide) ?_
  refine fs_goto (off := 12) (tgt := 56) (by decide +kernel) (by decide) ?_
  exact nx
theorem b_Cook_pass_47 {d : Nat} {a1 : Nat} {x2 : Int32} {o3 : Option Value} {o4 : Option Value} {o5 : Option Value} {S : fm_S} {r : Option Value × am_W} (hi0 : vp_in x2 6) (nx : am_Ev d k_Cook_pass 56 [some (.ref 54), some (.ref a1), some (.int x2), o3, o4, o5] [.int (S.1 8 x2.toNatClampNeg)] (fm_mk S) r) : am_Ev d k_Cook_pass 47 [some (.ref 54), some (.ref a1), some (.int x2), o3, o4, o5] [] (fm_mk S) r := by
  refine fs_aloadn (j := 0) (by decide +kernel) rfl ?_
  refine fe_getR (idx := 41) (t := 1) (f := 2) (fk := 2) (fin := 1) (wp := 251) (x := 1) (by decide +kernel) (by decide +kernel) (by decide +kernel) (by decide +kernel) (by decide +kernel) ?_
  refine fe_getR (idx := 62) (t := 6) (f := 8) (fk := 2) (fin := 1) (wp := 181) (x := 8) (by decide +kernel) (by decide +kernel) (by decide +kernel) (by decide +kernel) (by decide +kernel) ?_
  refine fs_iloadn (j := 2) (by decide +kernel) rfl ?_
  refine fx_iald (n := x2.toNatClampNeg) (len := 6) (by decide +kernel) (by decide +kernel) (by decide +kernel) hi0 rfl ?_
  exact nx
theorem b_Cook_pass_56 {d : Nat} {a1 : Nat} {x2 : Int32} {o3 : Option Value} {o4 : Option Value} {o5 : Option Value} {sx0 : Int32} {S : fm_S} {r : Option Value × am_W} (kt : ¬ x2 = (-1) → am_Ev d k_Cook_pass 66 [some (.ref 54), some (.ref a1), some (.int x2), some (.int sx0), o4, o5] [] (fm_mk S) r) (kf : x2 = (-1) → am_Ev d k_Cook_pass 62 [some (.ref 54), some (.ref a1), some (.int x2), some (.int sx0), o4, o5] [] (fm_mk S) r) : am_Ev d k_Cook_pass 56 [some (.ref 54), some (.ref a1), some (.int x2), o3, o4, o5] [.int sx0] (fm_mk S) r := by
  refine fs_istoren (j := 3) (L' := [some (.ref 54), some (.ref a1), some (.int x2), some (.int sx0), o4, o5]) (by decide +kernel) (Nat.le_of_ble_eq_true rfl) rfl ?_
  refine fs_iloadn (j := 2) (by decide +kernel) rfl ?_
  refine fs_iconst (n := -1) (v := (-1)) (by decide +kernel) (by decide) ?_
  exact fs_icne (off := 7) (tgt := 66) (by decide +kernel) (by decide) kt kf
theorem b_Cook_pass_62 {d : Nat} {a1 : Nat} {x2 : Int32} {x3 : Int32} {o4 : Option Value} {o5 : Option Value} {S : fm_S} {r : Option Value × am_W} (nx : am_Ev d k_Cook_pass 72 [some (.ref 54), some (.ref a1), some (.int x2), some (.int x3), o4, o5] [.int 0] (fm_mk S) r) : am_Ev d k_Cook_pass 62 [some (.ref 54), some (.ref a1), some (.int x2), some (.int x3), o4, o5] [] (fm_mk S) r := by
  refine fs_iconst (n := 0) (v := 0) (by decide +kernel) (by decide) ?_
  refine fs_goto (off := 9) (tgt := 72) (by decide +kernel) (by decide) ?_
  exact nx
theorem b_Cook_pass_66 {d : Nat} {a1 : Nat} {x2 : Int32} {x3 : Int32} {o4 : Option Value} {o5 : Option Value} {v : Int32} {S1 : fm_S} {S : fm_S} {r : Option Value × am_W} (hc : am_Sp d k_Cook_openingBits [.ref 54, .ref a1, .int x2] (fm_mk S) (some (.int v)) (fm_mk S1)) (nx : am_Ev (d + 1) k_Cook_pass 72 [some (.ref 54), some (.ref a1), some (.int x2), some (.int x3), o4, o5] [.int v] (fm_mk S1) r) : am_Ev (d + 1) k_Cook_pass 66 [some (.ref 54), some (.ref a1), some (.int x2), some (.int x3), o4, o5] [] (fm_mk S) r := by
  refine fs_aloadn (j := 0) (by decide +kernel) rfl ?_
  refine fs_aloadn (j := 1) (by decide +kernel) rfl ?_
  refine fs_iloadn (j := 2) (by decide +kernel) rfl ?_
  exact fe_callV (t := 1) (idx := 65) (n := 2) (wp := 626) (q := (628, 18)) (as := [.ref a1, .int x2]) (rs := []) (by decide +kernel) (by decide +kernel) (by decide +kernel) (by decide +kernel) rfl (Nat.le_of_ble_eq_true rfl) rfl hc nx
theorem b_Cook_pass_72 {d : Nat} {a1 : Nat} {x2 : Int32} {x3 : Int32} {o4 : Option Value} {o5 : Option Value} {sx0 : Int32} {S : fm_S} {r : Option Value × am_W} (nx : am_Ev d k_Cook_pass 77 [some (.ref 54), some (.ref a1), some (.int x2), some (.int x3), some (.int sx0), some (.int 0)] [] (fm_mk S) r) : am_Ev d k_Cook_pass 72 [some (.ref 54), some (.ref a1), some (.int x2), some (.int x3), o4, o5] [.int sx0] (fm_mk S) r := by
  refine fs_istore (j := 4) (L' := [some (.ref 54), some (.ref a1), some (.int x2), some (.int x3), some (.int sx0), o5]) (by decide +kernel) (Nat.le_of_ble_eq_true rfl) rfl ?_
  refine fs_iconst (n := 0) (v := 0) (by decide +kernel) (by decide) ?_
  refine fs_istore (j := 5) (L' := [some (.ref 54), some (.ref a1), some (.int x2), some (.int x3), some (.int sx0), some (.int 0)]) (by decide +kernel) (Nat.le_of_ble_eq_true rfl) rfl ?_
  exact nx
theorem b_Cook_pass_77 {d : Nat} {a1 : Nat} {x2 : Int32} {x3 : Int32} {x4 : Int32} {x5 : Int32} {S : fm_S} {r : Option Value × am_W} (kt : (S.1 1 0) ≤ x5 → am_Ev d k_Cook_pass 133 [some (.ref 54), some (.ref a1), some (.int x2), some (.int x3), some (.int x4), some (.int x5)] [] (fm_mk S) r) (kf : ¬ (S.1 1 0) ≤ x5 → am_Ev d k_Cook_pass 89 [some (.ref 54), some (.ref a1), some (.int x2), some (.int x3), some (.int x4), some (.int x5)] [] (fm_mk S) r) : am_Ev d k_Cook_pass 77 [some (.ref 54), some (.ref a1), some (.int x2), some (.int x3), some (.int x4), some (.int x5)] [] (fm_mk S) r := by
  refine fs_iload (j := 5) (by decide +kernel) rfl ?_
  refine fs_aloadn (j := 0) (by decide +kernel) rfl ?_
  refine fe_getR (idx := 41) (t := 1) (f := 2) (fk := 2) (fin := 1) (wp := 251) (x := 1) (by decide +kernel) (by decide +kernel) (by decide +kernel) (by decide +kernel) (by decide +kernel) ?_
  refine fe_getI (idx := 69) (t := 6) (f := 0) (fk := 0) (fin := 0) (wp := 158) (by decide +kernel) (by decide +kernel) (by decide +kernel) (by decide +kernel) ?_
  exact fs_icge (off := 47) (tgt := 133) (by decide +kernel) (by decide) kt kf
theorem b_Cook_pass_89 {d : Nat} {a1 : Nat} {x2 : Int32} {x3 : Int32} {x4 : Int32} {x5 : Int32} {v : Int32} {S1 : fm_S} {S : fm_S} {r : Option Value × am_W} (hc : am_Sp d k_X_has [.int x4, .int x5] (fm_mk S) (some (.int v)) (fm_mk S1)) (nx : am_Ev (d + 1) k_Cook_pass 96 [some (.ref 54), some (.ref a1), some (.int x2), some (.int x3), some (.int x4), some (.int x5)] [.int v] (fm_mk S1) r) : am_Ev (d + 1) k_Cook_pass 89 [some (.ref 54), some (.ref a1), some (.int x2), some (.int x3), some (.int x4), some (.int x5)] [] (fm_mk S) r := by
  refine fs_iload (j := 4) (by decide +kernel) rfl ?_
  refine fs_iload (j := 5) (by decide +kernel) rfl ?_
  exact fe_callS (idx := 72) (kd := 4) (n := 2) (wp := 649) (q := (398, 0)) (as := [.int x4, .int x5]) (rs := []) (by decide +kernel) (by decide +kernel) (by decide +kernel) (by decide) rfl (Nat.le_of_ble_eq_true rfl) rfl hc nx
theorem b_Cook_pass_96 {d : Nat} {a1 : Nat} {x2 : Int32} {x3 : Int32} {x4 : Int32} {x5 : Int32} {sx0 : Int32} {S : fm_S} {r : Option Value × am_W} (kt : sx0 = 0 → am_Ev d k_Cook_pass 110 [some (.ref 54), some (.ref a1), some (.int x2), some (.int x3), some (.int x4), some (.int x5)] [] (fm_mk S) r) (kf : ¬ sx0 = 0 → am_Ev d k_Cook_pass 99 [some (.ref 54), some (.ref a1), some (.int x2), some (.int x3), some (.int x4), some (.int x5)] [] (fm_mk S) r) : am_Ev d k_Cook_pass 96 [some (.ref 54), some (.ref a1), some (.int x2), some (.int x3), some (.int x4), some (.int x5)] [.int sx0] (fm_mk S) r := by
  exact fs_ifeq (off := 14) (tgt := 110) (by decide +kernel) (by decide) kt kf
theorem b_Cook_pass_99 {d : Nat} {a1 : Nat} {x2 : Int32} {x3 : Int32} {x4 : Int32} {x5 : Int32} {S : fm_S} {r : Option Value × am_W} (h_a1 : fm_tg a1 = 2) (hi1 : vp_in x5 8) (nx : am_Ev d k_Cook_pass 110 [some (.ref 54), some (.ref a1), some (.int x2), some (.int x3), some (.int x4), some (.int x5)] [] (fm_mk (fm_wI S (a1 + 1) x5.toNatClampNeg (S.1 a1 0))) r) : am_Ev d k_Cook_pass 99 [some (.ref 54), some (.ref a1), some (.int x2), some (.int x3), some (.int x4), some (.int x5)] [] (fm_mk S) r := by
  have D_a1 := fm_days h_a1
  refine fs_aloadn (j := 1) (by decide +kernel) rfl ?_
  refine fe_getR (idx := 76) (t := 2) (f := 1) (fk := 2) (fin := 1) (wp := 127) (x := a1 + 1) (by decide +kernel) (by decide +kernel) h_a1 (by decide +kernel) (fm_objrf h_a1 (by decide) (by decide +kernel) (by decide +kernel)) ?_
  refine fs_iload (j := 5) (by decide +kernel) rfl ?_
  refine fs_aloadn (j := 1) (by decide +kernel) rfl ?_
  refine fe_getI (idx := 48) (t := 2) (f := 0) (fk := 0) (fin := 0) (wp := 124) (by decide +kernel) (by decide +kernel) h_a1 (by decide +kernel) ?_
  refine fx_iast (n := x5.toNatClampNeg) (len := 8) (by decide +kernel) D_a1.1 D_a1.2.1 hi1 rfl ?_
  exact nx
theorem b_Cook_pass_110 {d : Nat} {a1 : Nat} {x2 : Int32} {x3 : Int32} {x4 : Int32} {x5 : Int32} {S1 : fm_S} {S : fm_S} {r : Option Value × am_W} (hi0 : vp_in x5 8) (h_a1 : fm_tg a1 = 2) (hc : am_Sp d k_Days_smellAfter [.ref a1, .int x5, .int x3, .int (S.1 57 x5.toNatClampNeg)] (fm_mk S) (none) (fm_mk S1)) (nx : am_Ev (d + 1) k_Cook_pass 127 [some (.ref 54), some (.ref a1), some (.int x2), some (.int x3), some (.int x4), some (.int x5)] [] (fm_mk S1) r) : am_Ev (d + 1) k_Cook_pass 110 [some (.ref 54), some (.ref a1), some (.int x2), some (.int x3), some (.int x4), some (.int x5)] [] (fm_mk S) r := by
  have D_a1 := fm_days h_a1
  refine fs_aloadn (j := 1) (by decide +kernel) rfl ?_
  refine fs_iload (j := 5) (by decide +kernel) rfl ?_
  refine fs_iloadn (j := 3) (by decide +kernel) rfl ?_
  refine fs_aloadn (j := 0) (by decide +kernel) rfl ?_
  refine fe_getR (idx := 18) (t := 1) (f := 3) (fk := 2) (fin := 1) (wp := 252) (x := 56) (by decide +kernel) (by decide +kernel) (by decide +kernel) (by decide +kernel) (by decide +kernel) ?_
  refine fe_getR (idx := 79) (t := 0) (f := 0) (fk := 2) (fin := 1) (wp := 238) (x := 57) (by decide +kernel) (by decide +kernel) (by decide +kernel) (by decide +kernel) (by decide +kernel) ?_
  refine fs_iload (j := 5) (by decide +kernel) rfl ?_
  refine fx_iald (n := x5.toNatClampNeg) (len := 8) (by decide +kernel) (by decide +kernel) (by decide +kernel) hi0 rfl ?_
  exact fe_callV (t := 2) (idx := 82) (n := 3) (wp := 650) (q := (651, 652)) (as := [.int x5, .int x3, .int (S.1 57 x5.toNatClampNeg)]) (rs := []) (by decide +kernel) (by decide +kernel) h_a1 (by decide +kernel) rfl (Nat.le_of_ble_eq_true rfl) rfl hc nx
theorem b_Cook_pass_127 {d : Nat} {a1 : Nat} {x2 : Int32} {x3 : Int32} {x4 : Int32} {x5 : Int32} {S : fm_S} {r : Option Value × am_W} (nx : am_Ev d k_Cook_pass 77 [some (.ref 54), some (.ref a1), some (.int x2), some (.int x3), some (.int x4), some (.int (x5 + 1))] [] (fm_mk S) r) : am_Ev d k_Cook_pass 127 [some (.ref 54), some (.ref a1), some (.int x2), some (.int x3), some (.int x4), some (.int x5)] [] (fm_mk S) r := by
  refine fs_iinc (j := 5) (n := 1) (v := 1) (L' := [some (.ref 54), some (.ref a1), some (.int x2), some (.int x3), some (.int x4), some (.int (x5 + 1))]) (by decide +kernel) rfl (Nat.le_of_ble_eq_true rfl) (by decide) rfl ?_
  refine fs_goto (off := -53) (tgt := 77) (by decide +kernel) (by decide) ?_
  exact nx
theorem b_Cook_pass_133 {d : Nat} {a1 : Nat} {x2 : Int32} {x3 : Int32} {x4 : Int32} {x5 : Int32} {S : fm_S}  (h_a1 : fm_tg a1 = 2) : am_Ev d k_Cook_pass 133 [some (.ref 54), some (.ref a1), some (.int x2), some (.int x3), some (.int x4), some (.int x5)] [] (fm_mk S) (some (.int x4), fm_mk (fm_wI S a1 0 ((S.1 a1 0) + 1))) := by
  have D_a1 := fm_days h_a1
  refine fs_aloadn (j := 1) (by decide +kernel) rfl ?_
  refine fs_dup (by decide +kernel) rfl ?_
  refine fe_getI (idx := 48) (t := 2) (f := 0) (fk := 0) (fin := 0) (wp := 124) (by decide +kernel) (by decide +kernel) h_a1 (by decide +kernel) ?_
  refine fs_iconst (n := 1) (v := 1) (by decide +kernel) (by decide) ?_
  refine fs_iadd (by decide +kernel) ?_
  refine fe_putI (idx := 48) (t := 2) (f := 0) (wp := 124) (by decide +kernel) (by decide +kernel) h_a1 (by decide +kernel) ?_
  refine fs_iload (j := 4) (by decide +kernel) rfl ?_
  exact fe_retI (by decide +kernel) (by decide +kernel)
-- KitchenSiege$Cook.openingBits(LKitchenSiege$Days;I)I
theorem b_Cook_openingBits_0 {d : Nat} {a1 : Nat} {x2 : Int32} {o3 : Option Value} {o4 : Option Value} {S : fm_S} {r : Option Value × am_W} (nx : am_Ev d k_Cook_openingBits 5 [some (.ref 54), some (.ref a1), some (.int x2), some (.int 0), some (.int 0)] [] (fm_mk S) r) : am_Ev d k_Cook_openingBits 0 [some (.ref 54), some (.ref a1), some (.int x2), o3, o4] [] (fm_mk S) r := by
  refine fs_iconst (n := 0) (v := 0) (by decide +kernel) (by decide) ?_
  refine fs_istoren (j := 3) (L' := [some (.ref 54), some (.ref a1), some (.int x2), some (.int 0), o4]) (by decide +kernel) (Nat.le_of_ble_eq_true rfl) rfl ?_
  refine fs_iconst (n := 0) (v := 0) (by decide +kernel) (by decide) ?_
  refine fs_istore (j := 4) (L' := [some (.ref 54), some (.ref a1), some (.int x2), some (.int 0), some (.int 0)]) (by decide +kernel) (Nat.le_of_ble_eq_true rfl) rfl ?_
  exact nx
theorem b_Cook_openingBits_5 {d : Nat} {a1 : Nat} {x2 : Int32} {x3 : Int32} {x4 : Int32} {S : fm_S} {r : Option Value × am_W} (kt : (S.1 1 0) ≤ x4 → am_Ev d k_Cook_openingBits 52 [some (.ref 54), some (.ref a1), some (.int x2), some (.int x3), some (.int x4)] [] (fm_mk S) r) (kf : ¬ (S.1 1 0) ≤ x4 → am_Ev d k_Cook_openingBits 17 [some (.ref 54), some (.ref a1), some (.int x2), some (.int x3), some (.int x4)] [] (fm_mk S) r) : am_Ev d k_Cook_openingBits 5 [some (.ref 54), some (.ref a1), some (.int x2), some (.int x3), some (.int x4)] [] (fm_mk S) r := by
  refine fs_iload (j := 4) (by decide +kernel) rfl ?_
  refine fs_aloadn (j := 0) (by decide +kernel) rfl ?_
  refine fe_getR (idx := 41) (t := 1) (f := 2) (fk := 2) (fin := 1) (wp := 251) (x := 1) (by decide +kernel) (by decide +kernel) (by decide +kernel) (by decide +kernel) (by decide +kernel) ?_
  refine fe_getI (idx := 69) (t := 6) (f := 0) (fk := 0) (fin := 0) (wp := 158) (by decide +kernel) (by decide +kernel) (by decide +kernel) (by decide +kernel) ?_
  exact fs_icge (off := 38) (tgt := 52) (by decide +kernel) (by decide) kt kf
theorem b_Cook_openingBits_17 {d : Nat} {a1 : Nat} {x2 : Int32} {x3 : Int32} {x4 : Int32} {v : Int32} {S1 : fm_S} {S : fm_S} {r : Option Value × am_W} (h_a1 : fm_tg a1 = 2) (hc : am_Sp d k_Days_isShut [.ref a1, .int x4] (fm_mk S) (some (.int v)) (fm_mk S1)) (nx : am_Ev (d + 1) k_Cook_openingBits 23 [some (.ref 54), some (.ref a1), some (.int x2), some (.int x3), some (.int x4)] [.int v] (fm_mk S1) r) : am_Ev (d + 1) k_Cook_openingBits 17 [some (.ref 54), some (.ref a1), some (.int x2), some (.int x3), some (.int x4)] [] (fm_mk S) r := by
  have D_a1 := fm_days h_a1
  refine fs_aloadn (j := 1) (by decide +kernel) rfl ?_
  refine fs_iload (j := 4) (by decide +kernel) rfl ?_
  exact fe_callV (t := 2) (idx := 86) (n := 1) (wp := 630) (q := (631, 632)) (as := [.int x4]) (rs := []) (by decide +kernel) (by decide +kernel) h_a1 (by decide +kernel) rfl (Nat.le_of_ble_eq_true rfl) rfl hc nx
theorem b_Cook_openingBits_23 {d : Nat} {a1 : Nat} {x2 : Int32} {x3 : Int32} {x4 : Int32} {sx0 : Int32} {S : fm_S} {r : Option Value × am_W} (kt : sx0 = 0 → am_Ev d k_Cook_openingBits 46 [some (.ref 54), some (.ref a1), some (.int x2), some (.int x3), some (.int x4)] [] (fm_mk S) r) (kf : ¬ sx0 = 0 → am_Ev d k_Cook_openingBits 26 [some (.ref 54), some (.ref a1), some (.int x2), some (.int x3), some (.int x4)] [] (fm_mk S) r) : am_Ev d k_Cook_openingBits 23 [some (.ref 54), some (.ref a1), some (.int x2), some (.int x3), some (.int x4)] [.int sx0] (fm_mk S) r := by
  exact fs_ifeq (off := 23) (tgt := 46) (by decide +kernel) (by decide) kt kf
theorem b_Cook_openingBits_26 {d : Nat} {a1 : Nat} {x2 : Int32} {x3 : Int32} {x4 : Int32} {v : Int32} {S1 : fm_S} {S : fm_S} {r : Option Value × am_W} (hc : am_Sp d k_Cook_pullFromAir [.ref 54, .ref a1, .int x2, .int x4] (fm_mk S) (some (.int v)) (fm_mk S1)) (nx : am_Ev (d + 1) k_Cook_openingBits 34 [some (.ref 54), some (.ref a1), some (.int x2), some (.int x3), some (.int x4)] [.int v] (fm_mk S1) r) : am_Ev (d + 1) k_Cook_openingBits 26 [some (.ref 54), some (.ref a1), some (.int x2), some (.int x3), some (.int x4)] [] (fm_mk S) r := by
  refine fs_aloadn (j := 0) (by decide +kernel) rfl ?_
  refine fs_aloadn (j := 1) (by decide +kernel) rfl ?_
  refine fs_iloadn (j := 2) (by decide +kernel) rfl ?_
  refine fs_iload (j := 4) (by decide +kernel) rfl ?_
  exact fe_callV (t := 1) (idx := 90) (n := 3) (wp := 634) (q := (636, 19)) (as := [.ref a1, .int x2, .int x4]) (rs := []) (by decide +kernel) (by decide +kernel) (by decide +kernel) (by decide +kernel) rfl (Nat.le_of_ble_eq_true rfl) rfl hc nx
theorem b_Cook_openingBits_34 {d : Nat} {a1 : Nat} {x2 : Int32} {x3 : Int32} {x4 : Int32} {sx0 : Int32} {S : fm_S} {r : Option Value × am_W} (kt : sx0 < 10 → am_Ev d k_Cook_openingBits 46 [some (.ref 54), some (.ref a1), some (.int x2), some (.int x3), some (.int x4)] [] (fm_mk S) r) (kf : ¬ sx0 < 10 → am_Ev d k_Cook_openingBits 39 [some (.ref 54), some (.ref a1), some (.int x2), some (.int x3), some (.int x4)] [] (fm_mk S) r) : am_Ev d k_Cook_openingBits 34 [some (.ref 54), some (.ref a1), some (.int x2), some (.int x3), some (.int x4)] [.int sx0] (fm_mk S) r := by
  refine fs_bipush (n := 10) (v := 10) (by decide +kernel) (by decide) ?_
  exact fs_iclt (off := 10) (tgt := 46) (by decide +kernel) (by decide) kt kf
theorem b_Cook_openingBits_39 {d : Nat} {a1 : Nat} {x2 : Int32} {x3 : Int32} {x4 : Int32} {S : fm_S} {r : Option Value × am_W} (nx : am_Ev d k_Cook_openingBits 46 [some (.ref 54), some (.ref a1), some (.int x2), some (.int (x3 ||| (1 <<< (x4 &&& 31)))), some (.int x4)] [] (fm_mk S) r) : am_Ev d k_Cook_openingBits 39 [some (.ref 54), some (.ref a1), some (.int x2), some (.int x3), some (.int x4)] [] (fm_mk S) r := by
  refine fs_iloadn (j := 3) (by decide +kernel) rfl ?_
  refine fs_iconst (n := 1) (v := 1) (by decide +kernel) (by decide) ?_
  refine fs_iload (j := 4) (by decide +kernel) rfl ?_
  refine fs_ishl (by decide +kernel) ?_
  refine fs_ior (by decide +kernel) ?_
  refine fs_istoren (j := 3) (L' := [some (.ref 54), some (.ref a1), some (.int x2), some (.int (x3 ||| (1 <<< (x4 &&& 31)))), some (.int x4)]) (by decide +kernel) (Nat.le_of_ble_eq_true rfl) rfl ?_
  exact nx
theorem b_Cook_openingBits_46 {d : Nat} {a1 : Nat} {x2 : Int32} {x3 : Int32} {x4 : Int32} {S : fm_S} {r : Option Value × am_W} (nx : am_Ev d k_Cook_openingBits 5 [some (.ref 54), some (.ref a1), some (.int x2), some (.int x3), some (.int (x4 + 1))] [] (fm_mk S) r) : am_Ev d k_Cook_openingBits 46 [some (.ref 54), some (.ref a1), some (.int x2), some (.int x3), some (.int x4)] [] (fm_mk S) r := by
  refine fs_iinc (j := 4) (n := 1) (v := 1) (L' := [some (.ref 54), some (.ref a1), some (.int x2), some (.int x3), some (.int (x4 + 1))]) (by decide +kernel) rfl (Nat.le_of_ble_eq_true rfl) (by decide) rfl ?_
  refine fs_goto (off := -44) (tgt := 5) (by decide +kernel) (by decide) ?_
  exact nx
theorem b_Cook_openingBits_52 {d : Nat} {a1 : Nat} {x2 : Int32} {x3 : Int32} {x4 : Int32} {S : fm_S}  : am_Ev d k_Cook_openingBits 52 [some (.ref 54), some (.ref a1), some (.int x2), some (.int x3), some (.int x4)] [] (fm_mk S) (some (.int x3), fm_mk S) := by
  refine fs_iloadn (j := 3) (by decide +kernel) rfl ?_
  exact fe_retI (by decide +kernel) (by decide +kernel)
-- KitchenSiege$Cook.pullFromAir(LKitchenSiege$Days;II)I
theorem b_Cook_pullFromAir_0 {d : Nat} {a1 : Nat} {x2 : Int32} {x3 : Int32} {o4 : Option Value} {v : Int32} {S1 : fm_S} {S : fm_S} {r : Option Value × am_W} (hi0 : vp_in x2 6) (h_a1 : fm_tg a1 = 2) (hc : am_Sp d k_Days_ahead [.ref a1, .int x3, .int (S.1 8 x2.toNatClampNeg)] (fm_mk S) (some (.int v)) (fm_mk S1)) (nx : am_Ev (d + 1) k_Cook_pullFromAir 14 [some (.ref 54), some (.ref a1), some (.int x2), some (.int x3), o4] [.int v] (fm_mk S1) r) : am_Ev (d + 1) k_Cook_pullFromAir 0 [some (.ref 54), some (.ref a1), some (.int x2), some (.int x3), o4] [] (fm_mk S) r := by
  have D_a1 := fm_days h_a1
  refine fs_aloadn (j := 1) (by decide +kernel) rfl ?_
  refine fs_iloadn (j := 3) (by decide +kernel) rfl ?_
  refine fs_aloadn (j := 0) (by decide +kernel) rfl ?_
  refine fe_getR (idx := 41) (t := 1) (f := 2) (fk := 2) (fin := 1) (wp := 251) (x := 1) (by decide +kernel) (by decide +kernel) (by decide +kernel) (by decide +kernel) (by decide +kernel) ?_
  refine fe_getR (idx := 62) (t := 6) (f := 8) (fk := 2) (fin := 1) (wp := 181) (x := 8) (by decide +kernel) (by decide +kernel) (by decide +kernel) (by decide +kernel) (by decide +kernel) ?_
  refine fs_iloadn (j := 2) (by decide +kernel) rfl ?_
  refine fx_iald (n := x2.toNatClampNeg) (len := 6) (by decide +kernel) (by decide +kernel) (by decide +kernel) hi0 rfl ?_
  exact fe_callV (t := 2) (idx := 94) (n := 2) (wp := 638) (q := (639, 640)) (as := [.int x3, .int (S.1 8 x2.toNatClampNeg)]) (rs := []) (by decide +kernel) (by decide +kernel) h_a1 (by decide +kernel) rfl (Nat.le_of_ble_eq_true rfl) rfl hc nx
theorem b_Cook_pullFromAir_14 {d : Nat} {a1 : Nat} {x2 : Int32} {x3 : Int32} {o4 : Option Value} {sx0 : Int32} {v : Int32} {S1 : fm_S} {S : fm_S} {r : Option Value × am_W} (hi0 : vp_in x3 8) (h_a1 : fm_tg a1 = 2) (hc : am_Sp d k_Town_pull [.ref 1, .int x3, .int x2, .int (S.1 57 x3.toNatClampNeg), .int (S.1 a1 0), .int sx0] (fm_mk S) (some (.int v)) (fm_mk S1)) (nx : am_Ev (d + 1) k_Cook_pullFromAir 40 [some (.ref 54), some (.ref a1), some (.int x2), some (.int x3), some (.int sx0)] [.int v] (fm_mk S1) r) : am_Ev (d + 1) k_Cook_pullFromAir 14 [some (.ref 54), some (.ref a1), some (.int x2), some (.int x3), o4] [.int sx0] (fm_mk S) r := by
  have D_a1 := fm_days h_a1
  refine fs_istore (j := 4) (L' := [some (.ref 54), some (.ref a1), some (.int x2), some (.int x3), some (.int sx0)]) (by decide +kernel) (Nat.le_of_ble_eq_true rfl) rfl ?_
  refine fs_aloadn (j := 0) (by decide +kernel) rfl ?_
  refine fe_getR (idx := 41) (t := 1) (f := 2) (fk := 2) (fin := 1) (wp := 251) (x := 1) (by decide +kernel) (by decide +kernel) (by decide +kernel) (by decide +kernel) (by decide +kernel) ?_
  refine fs_iloadn (j := 3) (by decide +kernel) rfl ?_
  refine fs_iloadn (j := 2) (by decide +kernel) rfl ?_
  refine fs_aloadn (j := 0) (by decide +kernel) rfl ?_
  refine fe_getR (idx := 18) (t := 1) (f := 3) (fk := 2) (fin := 1) (wp := 252) (x := 56) (by decide +kernel) (by decide +kernel) (by decide +kernel) (by decide +kernel) (by decide +kernel) ?_
  refine fe_getR (idx := 79) (t := 0) (f := 0) (fk := 2) (fin := 1) (wp := 238) (x := 57) (by decide +kernel) (by decide +kernel) (by decide +kernel) (by decide +kernel) (by decide +kernel) ?_
  refine fs_iloadn (j := 3) (by decide +kernel) rfl ?_
  refine fx_iald (n := x3.toNatClampNeg) (len := 8) (by decide +kernel) (by decide +kernel) (by decide +kernel) hi0 rfl ?_
  refine fs_aloadn (j := 1) (by decide +kernel) rfl ?_
  refine fe_getI (idx := 48) (t := 2) (f := 0) (fk := 0) (fin := 0) (wp := 124) (by decide +kernel) (by decide +kernel) h_a1 (by decide +kernel) ?_
  refine fs_iload (j := 4) (by decide +kernel) rfl ?_
  exact fe_callV (t := 6) (idx := 97) (n := 5) (wp := 642) (q := (643, 644)) (as := [.int x3, .int x2, .int (S.1 57 x3.toNatClampNeg), .int (S.1 a1 0), .int sx0]) (rs := []) (by decide +kernel) (by decide +kernel) (by decide +kernel) (by decide +kernel) rfl (Nat.le_of_ble_eq_true rfl) rfl hc nx
theorem b_Cook_pullFromAir_40 {d : Nat} {a1 : Nat} {x2 : Int32} {x3 : Int32} {x4 : Int32} {sx0 : Int32} {S : fm_S}  : am_Ev d k_Cook_pullFromAir 40 [some (.ref 54), some (.ref a1), some (.int x2), some (.int x3), some (.int x4)] [.int sx0] (fm_mk S) (some (.int sx0), fm_mk S) := by
  exact fe_retI (by decide +kernel) (by decide +kernel)
-- KitchenSiege$Cook.strength(III)I
theorem b_Cook_strength_0 {d : Nat} {x1 : Int32} {x2 : Int32} {x3 : Int32} {S1 : fm_S} {S : fm_S} {r : Option Value × am_W} (hc : am_Sp d k_Air_fill [.ref 56, .ref 1, .int x1, .int x2] (fm_mk S) (none) (fm_mk S1)) (nx : am_Ev (d + 1) k_Cook_strength 13 [some (.ref 54), some (.int x1), some (.int x2), some (.int x3)] [] (fm_mk S1) r) : am_Ev (d + 1) k_Cook_strength 0 [some (.ref 54), some (.int x1), some (.int x2), some (.int x3)] [] (fm_mk S) r := by
  refine fs_aloadn (j := 0) (by decide +kernel) rfl ?_
  refine fe_getR (idx := 18) (t := 1) (f := 3) (fk := 2) (fin := 1) (wp := 252) (x := 56) (by decide +kernel) (by decide +kernel) (by decide +kernel) (by decide +kernel) (by decide +kernel) ?_
  refine fs_aloadn (j := 0) (by decide +kernel) rfl ?_
  refine fe_getR (idx := 41) (t := 1) (f := 2) (fk := 2) (fin := 1) (wp := 251) (x := 1) (by decide +kernel) (by decide +kernel) (by decide +kernel) (by decide +kernel) (by decide +kernel) ?_
  refine fs_iloadn (j := 1) (by decide +kernel) rfl ?_
  refine fs_iloadn (j := 2) (by decide +kernel) rfl ?_
  exact fe_callV (t := 0) (idx := 58) (n := 3) (wp := 605) (q := (606, 607)) (as := [.ref 1, .int x1, .int x2]) (rs := []) (by decide +kernel) (by decide +kernel) (by decide +kernel) (by decide +kernel) rfl (Nat.le_of_ble_eq_true rfl) rfl hc nx
theorem b_Cook_strength_13 {d : Nat} {x1 : Int32} {x2 : Int32} {x3 : Int32} {S : fm_S}  (hi0 : vp_in x3 8) : am_Ev d k_Cook_strength 13 [some (.ref 54), some (.int x1), some (.int x2), some (.int x3)] [] (fm_mk S) (some (.int (S.1 57 x3.toNatClampNeg)), fm_mk S) := by
  refine fs_aloadn (j := 0) (by decide +kernel) rfl ?_
  refine fe_getR (idx := 18) (t := 1) (f := 3) (fk := 2) (fin := 1) (wp := 252) (x := 56) (by decide +kernel) (by decide +kernel) (by decide +kernel) (by decide +kernel) (by decide +kernel) ?_
  refine fe_getR (idx := 79) (t := 0) (f := 0) (fk := 2) (fin := 1) (wp := 238) (x := 57) (by decide +kernel) (by decide +kernel) (by decide +kernel) (by decide +kernel) (by decide +kernel) ?_
  refine fs_iloadn (j := 3) (by decide +kernel) rfl ?_
  refine fx_iald (n := x3.toNatClampNeg) (len := 8) (by decide +kernel) (by decide +kernel) (by decide +kernel) hi0 rfl ?_
  exact fe_retI (by decide +kernel) (by decide +kernel)
-- KitchenSiege$Cook.pullNow(II)I
theorem b_Cook_pullNow_0 {d : Nat} {x1 : Int32} {x2 : Int32} {v : Int32} {S1 : fm_S} {S : fm_S} {r : Option Value × am_W} (hc : am_Sp d k_Town_windOn [.ref 1, .int (S.1 17 0)] (fm_mk S) (some (.int v)) (fm_mk S1)) (nx : am_Ev (d + 1) k_Cook_pullNow 26 [some (.ref 54), some (.int x1), some (.int x2)] [.int v, .int x1, .ref 1, .ref 56] (fm_mk S1) r) : am_Ev (d + 1) k_Cook_pullNow 0 [some (.ref 54), some (.int x1), some (.int x2)] [] (fm_mk S) r := by
  refine fs_aloadn (j := 0) (by decide +kernel) rfl ?_
  refine fe_getR (idx := 18) (t := 1) (f := 3) (fk := 2) (fin := 1) (wp := 252) (x := 56) (by decide +kernel) (by decide +kernel) (by decide +kernel) (by decide +kernel) (by decide +kernel) ?_
  refine fs_aloadn (j := 0) (by decide +kernel) rfl ?_
  refine fe_getR (idx := 41) (t := 1) (f := 2) (fk := 2) (fin := 1) (wp := 251) (x := 1) (by decide +kernel) (by decide +kernel) (by decide +kernel) (by decide +kernel) (by decide +kernel) ?_
  refine fs_iloadn (j := 1) (by decide +kernel) rfl ?_
  refine fs_aloadn (j := 0) (by decide +kernel) rfl ?_
  refine fe_getR (idx := 41) (t := 1) (f := 2) (fk := 2) (fin := 1) (wp := 251) (x := 1) (by decide +kernel) (by decide +kernel) (by decide +kernel) (by decide +kernel) (by decide +kernel) ?_
  refine fs_aloadn (j := 0) (by decide +kernel) rfl ?_
  refine fe_getR (idx := 41) (t := 1) (f := 2) (fk := 2) (fin := 1) (wp := 251) (x := 1) (by decide +kernel) (by decide +kernel) (by decide +kernel) (by decide +kernel) (by decide +kernel) ?_
  refine fe_getR (idx := 101) (t := 6) (f := 12) (fk := 2) (fin := 1) (wp := 189) (x := 17) (by decide +kernel) (by decide +kernel) (by decide +kernel) (by decide +kernel) (by decide +kernel) ?_
  refine fe_getI (idx := 48) (t := 2) (f := 0) (fk := 0) (fin := 0) (wp := 124) (by decide +kernel) (by decide +kernel) (by decide +kernel) (by decide +kernel) ?_
  exact fe_callV (t := 6) (idx := 52) (n := 1) (wp := 598) (q := (599, 600)) (as := [.int (S.1 17 0)]) (rs := [.int x1, .ref 1, .ref 56]) (by decide +kernel) (by decide +kernel) (by decide +kernel) (by decide +kernel) rfl (Nat.le_of_ble_eq_true rfl) rfl hc nx
theorem b_Cook_pullNow_26 {d : Nat} {x1 : Int32} {x2 : Int32} {sx2 : Int32} {sx3 : Int32} {S1 : fm_S} {S : fm_S} {r : Option Value × am_W} (hc : am_Sp d k_Air_fill [.ref 56, .ref 1, .int sx2, .int sx3] (fm_mk S) (none) (fm_mk S1)) (nx : am_Ev (d + 1) k_Cook_pullNow 29 [some (.ref 54), some (.int x1), some (.int x2)] [] (fm_mk S1) r) : am_Ev (d + 1) k_Cook_pullNow 26 [some (.ref 54), some (.int x1), some (.int x2)] [.int sx3, .int sx2, .ref 1, .ref 56] (fm_mk S) r := by
  exact fe_callV (t := 0) (idx := 58) (n := 3) (wp := 605) (q := (606, 607)) (as := [.ref 1, .int sx2, .int sx3]) (rs := []) (by decide +kernel) (by decide +kernel) (by decide +kernel) (by decide +kernel) rfl (Nat.le_of_ble_eq_true rfl) rfl hc nx
theorem b_Cook_pullNow_29 {d : Nat} {x1 : Int32} {x2 : Int32} {v : Int32} {S1 : fm_S} {S : fm_S} {r : Option Value × am_W} (hc : am_Sp d k_Cook_pullFromAir [.ref 54, .ref 17, .int x1, .int x2] (fm_mk S) (some (.int v)) (fm_mk S1)) (nx : am_Ev (d + 1) k_Cook_pullNow 42 [some (.ref 54), some (.int x1), some (.int x2)] [.int v] (fm_mk S1) r) : am_Ev (d + 1) k_Cook_pullNow 29 [some (.ref 54), some (.int x1), some (.int x2)] [] (fm_mk S) r := by
  refine fs_aloadn (j := 0) (by decide +kernel) rfl ?_
  refine fs_aloadn (j := 0) (by decide +kernel) rfl ?_
  refine fe_getR (idx := 41) (t := 1) (f := 2) (fk := 2) (fin := 1) (wp := 251) (x := 1) (by decide +kernel) (by decide +kernel) (by decide +kernel) (by decide +kernel) (by decide +kernel) ?_
  refine fe_getR (idx := 101) (t := 6) (f := 12) (fk := 2) (fin := 1) (wp := 189) (x := 17) (by decide +kernel) (by decide +kernel) (by decide +kernel) (by decide +kernel) (by decide +kernel) ?_
  refine fs_iloadn (j := 1) (by decide +kernel) rfl ?_
  refine fs_iloadn (j := 2) (by decide +kernel) rfl ?_
  exact fe_callV (t := 1) (idx := 90) (n := 3) (wp := 634) (q := (636, 19)) (as := [.ref 17, .int x1, .int x2]) (rs := []) (by decide +kernel) (by decide +kernel) (by decide +kernel) (by decide +kernel) rfl (Nat.le_of_ble_eq_true rfl) rfl hc nx
theorem b_Cook_pullNow_42 {d : Nat} {x1 : Int32} {x2 : Int32} {sx0 : Int32} {S : fm_S}  : am_Ev d k_Cook_pullNow 42 [some (.ref 54), some (.int x1), some (.int x2)] [.int sx0] (fm_mk S) (some (.int sx0), fm_mk S) := by
  exact fe_retI (by decide +kernel) (by decide +kernel)
-- KitchenSiege$Cook.daysToFall(II)I
theorem b_Cook_daysToFall_0 {d : Nat} {x1 : Int32} {x2 : Int32} {o3 : Option Value} {o4 : Option Value} {o5 : Option Value} {v : Int32} {S1 : fm_S} {S : fm_S} {r : Option Value × am_W} (hc : am_Sp d k_Days_isShut [.ref 17, .int x2] (fm_mk S) (some (.int v)) (fm_mk S1)) (nx : am_Ev (d + 1) k_Cook_daysToFall 11 [some (.ref 54), some (.int x1), some (.int x2), o3, o4, o5] [.int v] (fm_mk S1) r) : am_Ev (d + 1) k_Cook_daysToFall 0 [some (.ref 54), some (.int x1), some (.int x2), o3, o4, o5] [] (fm_mk S) r := by
  refine fs_aloadn (j := 0) (by decide +kernel) rfl ?_
  refine fe_getR (idx := 41) (t := 1) (f := 2) (fk := 2) (fin := 1) (wp := 251) (x := 1) (by decide +kernel) (by decide +kernel) (by decide +kernel) (by decide +kernel) (by decide +kernel) ?_
  refine fe_getR (idx := 101) (t := 6) (f := 12) (fk := 2) (fin := 1) (wp := 189) (x := 17) (by decide +kernel) (by decide +kernel) (by decide +kernel) (by decide +kernel) (by decide +kernel) ?_
  refine fs_iloadn (j := 2) (by decide +kernel) rfl ?_
  exact fe_callV (t := 2) (idx := 86) (n := 1) (wp := 630) (q := (631, 632)) (as := [.int x2]) (rs := []) (by decide +kernel) (by decide +kernel) (by decide +kernel) (by decide +kernel) rfl (Nat.le_of_ble_eq_true rfl) rfl hc nx
theorem b_Cook_daysToFall_11 {d : Nat} {x1 : Int32} {x2 : Int32} {o3 : Option Value} {o4 : Option Value} {o5 : Option Value} {sx0 : Int32} {S : fm_S} {r : Option Value × am_W} (kt : ¬ sx0 = 0 → am_Ev d k_Cook_daysToFall 16 [some (.ref 54), some (.int x1), some (.int x2), o3, o4, o5] [] (fm_mk S) r) (kf : sx0 = 0 → am_Ev d k_Cook_daysToFall 14 [some (.ref 54), some (.int x1), some (.int x2), o3, o4, o5] [] (fm_mk S) r) : am_Ev d k_Cook_daysToFall 11 [some (.ref 54), some (.int x1), some (.int x2), o3, o4, o5] [.int sx0] (fm_mk S) r := by
  exact fs_ifne (off := 5) (tgt := 16) (by decide +kernel) (by decide) kt kf
theorem b_Cook_daysToFall_14 {d : Nat} {x1 : Int32} {x2 : Int32} {o3 : Option Value} {o4 : Option Value} {o5 : Option Value} {S : fm_S}  : am_Ev d k_Cook_daysToFall 14 [some (.ref 54), some (.int x1), some (.int x2), o3, o4, o5] [] (fm_mk S) (some (.int 0), fm_mk S) := by
  refine fs_iconst (n := 0) (v := 0) (by decide +kernel) (by decide) ?_
  exact fe_retI (by decide +kernel) (by decide +kernel)
theorem b_Cook_daysToFall_16 {d : Nat} {x1 : Int32} {x2 : Int32} {o3 : Option Value} {o4 : Option Value} {o5 : Option Value} {S1 : fm_S} {S : fm_S} {r : Option Value × am_W} (hc : am_Sp d k_Cook_measure [.ref 54, .int x1, .int x2] (fm_mk S) (none) (fm_mk S1)) (nx : am_Ev (d + 1) k_Cook_daysToFall 22 [some (.ref 54), some (.int x1), some (.int x2), o3, o4, o5] [] (fm_mk S1) r) : am_Ev (d + 1) k_Cook_daysToFall 16 [some (.ref 54), some (.int x1), some (.int x2), o3, o4, o5] [] (fm_mk S) r := by
  refine fs_aloadn (j := 0) (by decide +kernel) rfl ?_
  refine fs_iloadn (j := 1) (by decide +kernel) rfl ?_
  refine fs_iloadn (j := 2) (by decide +kernel) rfl ?_
  exact fe_callV (t := 1) (idx := 104) (n := 2) (wp := 695) (q := (697, 21)) (as := [.int x1, .int x2]) (rs := []) (by decide +kernel) (by decide +kernel) (by decide +kernel) (by decide +kernel) rfl (Nat.le_of_ble_eq_true rfl) rfl hc nx
theorem b_Cook_daysToFall_22 {d : Nat} {x1 : Int32} {x2 : Int32} {o3 : Option Value} {o4 : Option Value} {o5 : Option Value} {v : Int32} {S1 : fm_S} {S : fm_S} {r : Option Value × am_W} (hi0 : vp_in x1 6) (hc : am_Sp d k_Days_ahead [.ref 17, .int x2, .int (S.1 8 x1.toNatClampNeg)] (fm_mk S) (some (.int v)) (fm_mk S1)) (nx : am_Ev (d + 1) k_Cook_daysToFall 42 [some (.ref 54), some (.int x1), some (.int x2), o3, o4, o5] [.int v] (fm_mk S1) r) : am_Ev (d + 1) k_Cook_daysToFall 22 [some (.ref 54), some (.int x1), some (.int x2), o3, o4, o5] [] (fm_mk S) r := by
  refine fs_aloadn (j := 0) (by decide +kernel) rfl ?_
  refine fe_getR (idx := 41) (t := 1) (f := 2) (fk := 2) (fin := 1) (wp := 251) (x := 1) (by decide +kernel) (by decide +kernel) (by decide +kernel) (by decide +kernel) (by decide +kernel) ?_
  refine fe_getR (idx := 101) (t := 6) (f := 12) (fk := 2) (fin := 1) (wp := 189) (x := 17) (by decide +kernel) (by decide +kernel) (by decide +kernel) (by decide +kernel) (by decide +kernel) ?_
  refine fs_iloadn (j := 2) (by decide +kernel) rfl ?_
  refine fs_aloadn (j := 0) (by decide +kernel) rfl ?_
  refine fe_getR (idx := 41) (t := 1) (f := 2) (fk := 2) (fin := 1) (wp := 251) (x := 1) (by decide +kernel) (by decide +kernel) (by decide +kernel) (by decide +kernel) (by decide +kernel) ?_
  refine fe_getR (idx := 62) (t := 6) (f := 8) (fk := 2) (fin := 1) (wp := 181) (x := 8) (by decide +kernel) (by decide +kernel) (by decide +kernel) (by decide +kernel) (by decide +kernel) ?_
  refine fs_iloadn (j := 1) (by decide +kernel) rfl ?_
  refine fx_iald (n := x1.toNatClampNeg) (len := 6) (by decide +kernel) (by decide +kernel) (by decide +kernel) hi0 rfl ?_
  exact fe_callV (t := 2) (idx := 94) (n := 2) (wp := 638) (q := (639, 640)) (as := [.int x2, .int (S.1 8 x1.toNatClampNeg)]) (rs := []) (by decide +kernel) (by decide +kernel) (by decide +kernel) (by decide +kernel) rfl (Nat.le_of_ble_eq_true rfl) rfl hc nx
theorem b_Cook_daysToFall_42 {d : Nat} {x1 : Int32} {x2 : Int32} {o3 : Option Value} {o4 : Option Value} {o5 : Option Value} {sx0 : Int32} {S : fm_S} {r : Option Value × am_W} (nx : am_Ev d k_Cook_daysToFall 46 [some (.ref 54), some (.int x1), some (.int x2), some (.int sx0), some (.int 0), o5] [] (fm_mk S) r) : am_Ev d k_Cook_daysToFall 42 [some (.ref 54), some (.int x1), some (.int x2), o3, o4, o5] [.int sx0] (fm_mk S) r := by
  refine fs_istoren (j := 3) (L' := [some (.ref 54), some (.int x1), some (.int x2), some (.int sx0), o4, o5]) (by decide +kernel) (Nat.le_of_ble_eq_true rfl) rfl ?_
  refine fs_iconst (n := 0) (v := 0) (by decide +kernel) (by decide) ?_
  refine fs_istore (j := 4) (L' := [some (.ref 54), some (.int x1), some (.int x2), some (.int sx0), some (.int 0), o5]) (by decide +kernel) (Nat.le_of_ble_eq_true rfl) rfl ?_
  exact nx
theorem b_Cook_daysToFall_46 {d : Nat} {x1 : Int32} {x2 : Int32} {x3 : Int32} {x4 : Int32} {o5 : Option Value} {S : fm_S} {r : Option Value × am_W} (kt : 30 ≤ x4 → am_Ev d k_Cook_daysToFall 122 [some (.ref 54), some (.int x1), some (.int x2), some (.int x3), some (.int x4), o5] [] (fm_mk S) r) (kf : ¬ 30 ≤ x4 → am_Ev d k_Cook_daysToFall 53 [some (.ref 54), some (.int x1), some (.int x2), some (.int x3), some (.int x4), o5] [] (fm_mk S) r) : am_Ev d k_Cook_daysToFall 46 [some (.ref 54), some (.int x1), some (.int x2), some (.int x3), some (.int x4), o5] [] (fm_mk S) r := by
  refine fs_iload (j := 4) (by decide +kernel) rfl ?_
  refine fs_bipush (n := 30) (v := 30) (by decide +kernel) (by decide) ?_
  exact fs_icge (off := 72) (tgt := 122) (by decide +kernel) (by decide) kt kf
theorem b_Cook_daysToFall_53 {d : Nat} {x1 : Int32} {x2 : Int32} {x3 : Int32} {x4 : Int32} {o5 : Option Value} {v : Int32} {S1 : fm_S} {S : fm_S} {r : Option Value × am_W} (hi0 : vp_in ((x1 * 4) + (x4 - x4 / 4 * 4)) 24) (hc : am_Sp d k_Town_pull [.ref 1, .int x2, .int x1, .int (S.1 64 (((x1 * 4) + (x4 - x4 / 4 * 4)).toNatClampNeg)), .int ((S.1 17 0) + x4), .int x3] (fm_mk S) (some (.int v)) (fm_mk S1)) (nx : am_Ev (d + 1) k_Cook_daysToFall 93 [some (.ref 54), some (.int x1), some (.int x2), some (.int x3), some (.int x4), some (.int (S.1 64 (((x1 * 4) + (x4 - x4 / 4 * 4)).toNatClampNeg)))] [.int v] (fm_mk S1) r) : am_Ev (d + 1) k_Cook_daysToFall 53 [some (.ref 54), some (.int x1), some (.int x2), some (.int x3), some (.int x4), o5] [] (fm_mk S) r := by
  refine fs_aloadn (j := 0) (by decide +kernel) rfl ?_
  refine fe_getR (idx := 32) (t := 1) (f := 6) (fk := 2) (fin := 1) (wp := 255) (x := 64) (by decide +kernel) (by decide +kernel) (by decide +kernel) (by decide +kernel) (by decide +kernel) ?_
  refine fs_iloadn (j := 1) (by decide +kernel) rfl ?_
  refine fs_iconst (n := 4) (v := 4) (by decide +kernel) (by decide) ?_
  refine fs_imul (by decide +kernel) ?_
  refine fs_iload (j := 4) (by decide +kernel) rfl ?_
  refine fs_iconst (n := 4) (v := 4) (by decide +kernel) (by decide) ?_
  refine fe_irem (by decide +kernel) (by decide) ?_
  refine fs_iadd (by decide +kernel) ?_
  refine fx_iald (n := ((x1 * 4) + (x4 - x4 / 4 * 4)).toNatClampNeg) (len := 24) (by decide +kernel) (by decide +kernel) (by decide +kernel) hi0 rfl ?_
  refine fs_istore (j := 5) (L' := [some (.ref 54), some (.int x1), some (.int x2), some (.int x3), some (.int x4), some (.int (S.1 64 (((x1 * 4) + (x4 - x4 / 4 * 4)).toNatClampNeg)))]) (by decide +kernel) (Nat.le_of_ble_eq_true rfl) rfl ?_
  refine fs_aloadn (j := 0) (by decide +kernel) rfl ?_
  refine fe_getR (idx := 41) (t := 1) (f := 2) (fk := 2) (fin := 1) (wp := 251) (x := 1) (by decide +kernel) (by decide +kernel) (by decide +kernel) (by decide +kernel) (by decide +kernel) ?_
  refine fs_iloadn (j := 2) (by decide +kernel) rfl ?_
  refine fs_iloadn (j := 1) (by decide +kernel) rfl ?_
  refine fs_iload (j := 5) (by decide +kernel) rfl ?_
  refine fs_aloadn (j := 0) (by decide +kernel) rfl ?_
  refine fe_getR (idx := 41) (t := 1) (f := 2) (fk := 2) (fin := 1) (wp := 251) (x := 1) (by decide +kernel) (by decide +kernel) (by decide +kernel) (by decide +kernel) (by decide +kernel) ?_
  refine fe_getR (idx := 101) (t := 6) (f := 12) (fk := 2) (fin := 1) (wp := 189) (x := 17) (by decide +kernel) (by decide +kernel) (by decide +kernel) (by decide +kernel) (by decide +kernel) ?_
  refine fe_getI (idx := 48) (t := 2) (f := 0) (fk := 0) (fin := 0) (wp := 124) (by decide +kernel) (by decide +kernel) (by decide +kernel) (by decide +kernel) ?_
  refine fs_iload (j := 4) (by decide +kernel) rfl ?_
  refine fs_iadd (by decide +kernel) ?_
  refine fs_iloadn (j := 3) (by decide +kernel) rfl ?_
  exact fe_callV (t := 6) (idx := 97) (n := 5) (wp := 642) (q := (643, 644)) (as := [.int x2, .int x1, .int (S.1 64 (((x1 * 4) + (x4 - x4 / 4 * 4)).toNatClampNeg)), .int ((S.1 17 0) + x4), .int x3]) (rs := []) (by decide +kernel) (by decide +kernel) (by decide +kernel) (by decide +kernel) rfl (Nat.le_of_ble_eq_true rfl) rfl hc nx
theorem b_Cook_daysToFall_93 {d : Nat} {x1 : Int32} {x2 : Int32} {x3 : Int32} {x4 : Int32} {x5 : Int32} {sx0 : Int32} {S : fm_S} {r : Option Value × am_W} (kt : sx0 < 10 → am_Ev d k_Cook_daysToFall 103 [some (.ref 54), some (.int x1), some (.int x2), some (.int x3), some (.int x4), some (.int x5)] [] (fm_mk S) r) (kf : ¬ sx0 < 10 → am_Ev d k_Cook_daysToFall 98 [some (.ref 54), some (.int x1), some (.int x2), some (.int x3), some (.int x4), some (.int x5)] [] (fm_mk S) r) : am_Ev d k_Cook_daysToFall 93 [some (.ref 54), some (.int x1), some (.int x2), some (.int x3), some (.int x4), some (.int x5)] [.int sx0] (fm_mk S) r := by
  refine fs_bipush (n := 10) (v := 10) (by decide +kernel) (by decide) ?_
  exact fs_iclt (off := 8) (tgt := 103) (by decide +kernel) (by decide) kt kf
theorem b_Cook_daysToFall_98 {d : Nat} {x1 : Int32} {x2 : Int32} {x3 : Int32} {x4 : Int32} {x5 : Int32} {S : fm_S}  : am_Ev d k_Cook_daysToFall 98 [some (.ref 54), some (.int x1), some (.int x2), some (.int x3), some (.int x4), some (.int x5)] [] (fm_mk S) (some (.int (x4 + 1)), fm_mk S) := by
  refine fs_iload (j := 4) (by decide +kernel) rfl ?_
  refine fs_iconst (n := 1) (v := 1) (by decide +kernel) (by decide) ?_
  refine fs_iadd (by decide +kernel) ?_
  exact fe_retI (by decide +kernel) (by decide +kernel)
theorem b_Cook_daysToFall_103 {d : Nat} {x1 : Int32} {x2 : Int32} {x3 : Int32} {x4 : Int32} {x5 : Int32} {S : fm_S} {r : Option Value × am_W} (kt : x5 ≤ 0 → am_Ev d k_Cook_daysToFall 114 [some (.ref 54), some (.int x1), some (.int x2), some (.int x3), some (.int x4), some (.int x5)] [] (fm_mk S) r) (kf : ¬ x5 ≤ 0 → am_Ev d k_Cook_daysToFall 108 [some (.ref 54), some (.int x1), some (.int x2), some (.int x3), some (.int x4), some (.int x5)] [] (fm_mk S) r) : am_Ev d k_Cook_daysToFall 103 [some (.ref 54), some (.int x1), some (.int x2), some (.int x3), some (.int x4), some (.int x5)] [] (fm_mk S) r := by
  refine fs_iload (j := 5) (by decide +kernel) rfl ?_
  exact fs_ifle (off := 9) (tgt := 114) (by decide +kernel) (by decide) kt kf
theorem b_Cook_daysToFall_108 {d : Nat} {x1 : Int32} {x2 : Int32} {x3 : Int32} {x4 : Int32} {x5 : Int32} {S : fm_S} {r : Option Value × am_W} (nx : am_Ev d k_Cook_daysToFall 115 [some (.ref 54), some (.int x1), some (.int x2), some (.int x3), some (.int x4), some (.int x5)] [.int (x3 + 1)] (fm_mk S) r) : am_Ev d k_Cook_daysToFall 108 [some (.ref 54), some (.int x1), some (.int x2), some (.int x3), some (.int x4), some (.int x5)] [] (fm_mk S) r := by
  refine fs_iloadn (j := 3) (by decide +kernel) rfl ?_
  refine fs_iconst (n := 1) (v := 1) (by decide +kernel) (by decide) ?_
  refine fs_iadd (by decide +kernel) ?_
  refine fs_goto (off := 4) (tgt := 115) (by decide +kernel) (by decide) ?_
  exact nx
theorem b_Cook_daysToFall_114 {d : Nat} {x1 : Int32} {x2 : Int32} {x3 : Int32} {x4 : Int32} {x5 : Int32} {S : fm_S} {r : Option Value × am_W} (nx : am_Ev d k_Cook_daysToFall 115 [some (.ref 54), some (.int x1), some (.int x2), some (.int x3), some (.int x4), some (.int x5)] [.int 0] (fm_mk S) r) : am_Ev d k_Cook_daysToFall 114 [some (.ref 54), some (.int x1), some (.int x2), some (.int x3), some (.int x4), some (.int x5)] [] (fm_mk S) r := by
  refine fs_iconst (n := 0) (v := 0) (by decide +kernel) (by decide) ?_
  exact nx
theorem b_Cook_daysToFall_115 {d : Nat} {x1 : Int32} {x2 : Int32} {x3 : Int32} {x4 : Int32} {x5 : Int32} {sx0 : Int32} {S : fm_S} {r : Option Value × am_W} (nx : am_Ev d k_Cook_daysToFall 46 [some (.ref 54), some (.int x1), some (.int x2), some (.int sx0), some (.int (x4 + 1)), some (.int x5)] [] (fm_mk S) r) : am_Ev d k_Cook_daysToFall 115 [some (.ref 54), some (.int x1), some (.int x2), some (.int x3), some (.int x4), some (.int x5)] [.int sx0] (fm_mk S) r := by
  refine fs_istoren (j := 3) (L' := [some (.ref 54), some (.int x1), some (.int x2), some (.int sx0), some (.int x4), some (.int x5)]) (by decide +kernel) (Nat.le_of_ble_eq_true rfl) rfl ?_
  refine fs_iinc (j := 4) (n := 1) (v := 1) (L' := [some (.ref 54), some (.int x1), some (.int x2), some (.int sx0), some (.int (x4 + 1)), some (.int x5)]) (by decide +kernel) rfl (Nat.le_of_ble_eq_true rfl) (by decide) rfl ?_
  refine fs_goto (off := -73) (tgt := 46) (by decide +kernel) (by decide) ?_
  exact nx
theorem b_Cook_daysToFall_122 {d : Nat} {x1 : Int32} {x2 : Int32} {x3 : Int32} {x4 : Int32} {o5 : Option Value} {S : fm_S}  : am_Ev d k_Cook_daysToFall 122 [some (.ref 54), some (.int x1), some (.int x2), some (.int x3), some (.int x4), o5] [] (fm_mk S) (some (.int (-1)), fm_mk S) := by
  refine fs_iconst (n := -1) (v := (-1)) (by decide +kernel) (by decide) ?_
  exact fe_retI (by decide +kernel) (by decide +kernel)
-- KitchenSiege$Cook.measure(II)V
theorem b_Cook_measure_0 {d : Nat} {x1 : Int32} {x2 : Int32} {o3 : Option Value} {S : fm_S} {r : Option Value × am_W} (nx : am_Ev d k_Cook_measure 2 [some (.ref 54), some (.int x1), some (.int x2), some (.int 0)] [] (fm_mk S) r) : am_Ev d k_Cook_measure 0 [some (.ref 54), some (.int x1), some (.int x2), o3] [] (fm_mk S) r := by
  refine fs_iconst (n := 0) (v := 0) (by decide +kernel) (by decide) ?_
  refine fs_istoren (j := 3) (L' := [some (.ref 54), some (.int x1), some (.int x2), some (.int 0)]) (by decide +kernel) (Nat.le_of_ble_eq_true rfl) rfl ?_
  exact nx
theorem b_Cook_measure_2 {d : Nat} {x1 : Int32} {x2 : Int32} {x3 : Int32} {S : fm_S} {r : Option Value × am_W} (kt : 4 ≤ x3 → am_Ev d k_Cook_measure 63 [some (.ref 54), some (.int x1), some (.int x2), some (.int x3)] [] (fm_mk S) r) (kf : ¬ 4 ≤ x3 → am_Ev d k_Cook_measure 7 [some (.ref 54), some (.int x1), some (.int x2), some (.int x3)] [] (fm_mk S) r) : am_Ev d k_Cook_measure 2 [some (.ref 54), some (.int x1), some (.int x2), some (.int x3)] [] (fm_mk S) r := by
  refine fs_iloadn (j := 3) (by decide +kernel) rfl ?_
  refine fs_iconst (n := 4) (v := 4) (by decide +kernel) (by decide) ?_
  exact fs_icge (off := 59) (tgt := 63) (by decide +kernel) (by decide) kt kf
theorem b_Cook_measure_7 {d : Nat} {x1 : Int32} {x2 : Int32} {x3 : Int32} {v : Int32} {S1 : fm_S} {S : fm_S} {r : Option Value × am_W} (hc : am_Sp d k_Town_windOn [.ref 1, .int ((S.1 17 0) + x3)] (fm_mk S) (some (.int v)) (fm_mk S1)) (nx : am_Ev (d + 1) k_Cook_measure 35 [some (.ref 54), some (.int x1), some (.int x2), some (.int x3)] [.int v, .int x1, .ref 1, .ref 56] (fm_mk S1) r) : am_Ev (d + 1) k_Cook_measure 7 [some (.ref 54), some (.int x1), some (.int x2), some (.int x3)] [] (fm_mk S) r := by
  refine fs_aloadn (j := 0) (by decide +kernel) rfl ?_
  refine fe_getR (idx := 18) (t := 1) (f := 3) (fk := 2) (fin := 1) (wp := 252) (x := 56) (by decide +kernel) (by decide +kernel) (by decide +kernel) (by decide +kernel) (by decide +kernel) ?_
  refine fs_aloadn (j := 0) (by decide +kernel) rfl ?_
  refine fe_getR (idx := 41) (t := 1) (f := 2) (fk := 2) (fin := 1) (wp := 251) (x := 1) (by decide +kernel) (by decide +kernel) (by decide +kernel) (by decide +kernel) (by decide +kernel) ?_
  refine fs_iloadn (j := 1) (by decide +kernel) rfl ?_
  refine fs_aloadn (j := 0) (by decide +kernel) rfl ?_
  refine fe_getR (idx := 41) (t := 1) (f := 2) (fk := 2) (fin := 1) (wp := 251) (x := 1) (by decide +kernel) (by decide +kernel) (by decide +kernel) (by decide +kernel) (by decide +kernel) ?_
  refine fs_aloadn (j := 0) (by decide +kernel) rfl ?_
  refine fe_getR (idx := 41) (t := 1) (f := 2) (fk := 2) (fin := 1) (wp := 251) (x := 1) (by decide +kernel) (by decide +kernel) (by decide +kernel) (by decide +kernel) (by decide +kernel) ?_
  refine fe_getR (idx := 101) (t := 6) (f := 12) (fk := 2) (fin := 1) (wp := 189) (x := 17) (by decide +kernel) (by decide +kernel) (by decide +kernel) (by decide +kernel) (by decide +kernel) ?_
  refine fe_getI (idx := 48) (t := 2) (f := 0) (fk := 0) (fin := 0) (wp := 124) (by decide +kernel) (by decide +kernel) (by decide +kernel) (by decide +kernel) ?_
  refine fs_iloadn (j := 3) (by decide +kernel) rfl ?_
  refine fs_iadd (by decide +kernel) ?_
  exact fe_callV (t := 6) (idx := 52) (n := 1) (wp := 598) (q := (599, 600)) (as := [.int ((S.1 17 0) + x3)]) (rs := [.int x1, .ref 1, .ref 56]) (by decide +kernel) (by decide +kernel) (by decide +kernel) (by decide +kernel) rfl (Nat.le_of_ble_eq_true rfl) rfl hc nx
theorem b_Cook_measure_35 {d : Nat} {x1 : Int32} {x2 : Int32} {x3 : Int32} {sx2 : Int32} {sx3 : Int32} {S1 : fm_S} {S : fm_S} {r : Option Value × am_W} (hc : am_Sp d k_Air_fill [.ref 56, .ref 1, .int sx2, .int sx3] (fm_mk S) (none) (fm_mk S1)) (nx : am_Ev (d + 1) k_Cook_measure 38 [some (.ref 54), some (.int x1), some (.int x2), some (.int x3)] [] (fm_mk S1) r) : am_Ev (d + 1) k_Cook_measure 35 [some (.ref 54), some (.int x1), some (.int x2), some (.int x3)] [.int sx3, .int sx2, .ref 1, .ref 56] (fm_mk S) r := by
  exact fe_callV (t := 0) (idx := 58) (n := 3) (wp := 605) (q := (606, 607)) (as := [.ref 1, .int sx2, .int sx3]) (rs := []) (by decide +kernel) (by decide +kernel) (by decide +kernel) (by decide +kernel) rfl (Nat.le_of_ble_eq_true rfl) rfl hc nx
theorem b_Cook_measure_38 {d : Nat} {x1 : Int32} {x2 : Int32} {x3 : Int32} {S : fm_S} {r : Option Value × am_W} (hi0 : vp_in x2 8) (hi1 : vp_in ((x1 * 4) + x3) 24) (nx : am_Ev d k_Cook_measure 2 [some (.ref 54), some (.int x1), some (.int x2), some (.int (x3 + 1))] [] (fm_mk (fm_wI S 64 (((x1 * 4) + x3).toNatClampNeg) (S.1 57 x2.toNatClampNeg))) r) : am_Ev d k_Cook_measure 38 [some (.ref 54), some (.int x1), some (.int x2), some (.int x3)] [] (fm_mk S) r := by
  refine fs_aloadn (j := 0) (by decide +kernel) rfl ?_
  refine fe_getR (idx := 32) (t := 1) (f := 6) (fk := 2) (fin := 1) (wp := 255) (x := 64) (by decide +kernel) (by decide +kernel) (by decide +kernel) (by decide +kernel) (by decide +kernel) ?_
  refine fs_iloadn (j := 1) (by decide +kernel) rfl ?_
  refine fs_iconst (n := 4) (v := 4) (by decide +kernel) (by decide) ?_
  refine fs_imul (by decide +kernel) ?_
  refine fs_iloadn (j := 3) (by decide +kernel) rfl ?_
  refine fs_iadd (by decide +kernel) ?_
  refine fs_aloadn (j := 0) (by decide +kernel) rfl ?_
  refine fe_getR (idx := 18) (t := 1) (f := 3) (fk := 2) (fin := 1) (wp := 252) (x := 56) (by decide +kernel) (by decide +kernel) (by decide +kernel) (by decide +kernel) (by decide +kernel) ?_
  refine fe_getR (idx := 79) (t := 0) (f := 0) (fk := 2) (fin := 1) (wp := 238) (x := 57) (by decide +kernel) (by decide +kernel) (by decide +kernel) (by decide +kernel) (by decide +kernel) ?_
  refine fs_iloadn (j := 2) (by decide +kernel) rfl ?_
  refine fx_iald (n := x2.toNatClampNeg) (len := 8) (by decide +kernel) (by decide +kernel) (by decide +kernel) hi0 rfl ?_
  refine fx_iast (n := ((x1 * 4) + x3).toNatClampNeg) (len := 24) (by decide +kernel) (by decide +kernel) (by decide +kernel) hi1 rfl ?_
  refine fs_iinc (j := 3) (n := 1) (v := 1) (L' := [some (.ref 54), some (.int x1), some (.int x2), some (.int (x3 + 1))]) (by decide +kernel) rfl (Nat.le_of_ble_eq_true rfl) (by decide) rfl ?_
  refine fs_goto (off := -58) (tgt := 2) (by decide +kernel) (by decide) ?_
  exact nx
theorem b_Cook_measure_63 {d : Nat} {x1 : Int32} {x2 : Int32} {x3 : Int32} {S : fm_S}  : am_Ev d k_Cook_measure 63 [some (.ref 54), some (.int x1), some (.int x2), some (.int x3)] [] (fm_mk S) (none, fm_mk S) := by
  exact fe_retV (by decide +kernel) (by decide +kernel)
-- KitchenSiege$Cook.findRow(I)I
theorem b_Cook_findRow_0 {d : Nat} {x1 : Int32} {o2 : Option Value} {o3 : Option Value} {v : Int32} {S1 : fm_S} {S : fm_S} {r : Option Value × am_W} (hc : am_Sp d k_Days_isShut [.ref 17, .int x1] (fm_mk (fm_wI S 54 1 0)) (some (.int v)) (fm_mk S1)) (nx : am_Ev (d + 1) k_Cook_findRow 16 [some (.ref 54), some (.int x1), o2, o3] [.int v] (fm_mk S1) r) : am_Ev (d + 1) k_Cook_findRow 0 [some (.ref 54), some (.int x1), o2, o3] [] (fm_mk S) r := by
  refine fs_aloadn (j := 0) (by decide +kernel) rfl ?_
  refine fs_iconst (n := 0) (v := 0) (by decide +kernel) (by decide) ?_
  refine fe_putI (idx := 108) (t := 1) (f := 1) (wp := 249) (by decide +kernel) (by decide +kernel) (by decide +kernel) (by decide +kernel) ?_
  refine fs_aloadn (j := 0) (by decide +kernel) rfl ?_
  refine fe_getR (idx := 41) (t := 1) (f := 2) (fk := 2) (fin := 1) (wp := 251) (x := 1) (by decide +kernel) (by decide +kernel) (by decide +kernel) (by decide +kernel) (by decide +kernel) ?_
  refine fe_getR (idx := 101) (t := 6) (f := 12) (fk := 2) (fin := 1) (wp := 189) (x := 17) (by decide +kernel) (by decide +kernel) (by decide +kernel) (by decide +kernel) (by decide +kernel) ?_
  refine fs_iloadn (j := 1) (by decide +kernel) rfl ?_
  exact fe_callV (t := 2) (idx := 86) (n := 1) (wp := 630) (q := (631, 632)) (as := [.int x1]) (rs := []) (by decide +kernel) (by decide +kernel) (by decide +kernel) (by decide +kernel) rfl (Nat.le_of_ble_eq_true rfl) rfl hc nx
theorem b_Cook_findRow_16 {d : Nat} {x1 : Int32} {o2 : Option Value} {o3 : Option Value} {sx0 : Int32} {S : fm_S} {r : Option Value × am_W} (kt : ¬ sx0 = 0 → am_Ev d k_Cook_findRow 21 [some (.ref 54), some (.int x1), o2, o3] [] (fm_mk S) r) (kf : sx0 = 0 → am_Ev d k_Cook_findRow 19 [some (.ref 54), some (.int x1), o2, o3] [] (fm_mk S) r) : am_Ev d k_Cook_findRow 16 [some (.ref 54), some (.int x1), o2, o3] [.int sx0] (fm_mk S) r := by
  exact fs_ifne (off := 5) (tgt := 21) (by decide +kernel) (by decide) kt kf
theorem b_Cook_findRow_19 {d : Nat} {x1 : Int32} {o2 : Option Value} {o3 : Option Value} {S : fm_S}  : am_Ev d k_Cook_findRow 19 [some (.ref 54), some (.int x1), o2, o3] [] (fm_mk S) (some (.int 0), fm_mk S) := by
  refine fs_iconst (n := 0) (v := 0) (by decide +kernel) (by decide) ?_
  exact fe_retI (by decide +kernel) (by decide +kernel)
theorem b_Cook_findRow_21 {d : Nat} {x1 : Int32} {o2 : Option Value} {o3 : Option Value} {S : fm_S} {r : Option Value × am_W} (nx : am_Ev d k_Cook_findRow 23 [some (.ref 54), some (.int x1), some (.int 0), o3] [] (fm_mk S) r) : am_Ev d k_Cook_findRow 21 [some (.ref 54), some (.int x1), o2, o3] [] (fm_mk S) r := by
  refine fs_iconst (n := 0) (v := 0) (by decide +kernel) (by decide) ?_
  refine fs_istoren (j := 2) (L' := [some (.ref 54), some (.int x1), some (.int 0), o3]) (by decide +kernel) (Nat.le_of_ble_eq_true rfl) rfl ?_
  exact nx
theorem b_Cook_findRow_23 {d : Nat} {x1 : Int32} {x2 : Int32} {o3 : Option Value} {S : fm_S} {r : Option Value × am_W} (kt : (S.1 1 7) ≤ x2 → am_Ev d k_Cook_findRow 46 [some (.ref 54), some (.int x1), some (.int x2), o3] [] (fm_mk S) r) (kf : ¬ (S.1 1 7) ≤ x2 → am_Ev d k_Cook_findRow 34 [some (.ref 54), some (.int x1), some (.int x2), o3] [] (fm_mk S) r) : am_Ev d k_Cook_findRow 23 [some (.ref 54), some (.int x1), some (.int x2), o3] [] (fm_mk S) r := by
  refine fs_iloadn (j := 2) (by decide +kernel) rfl ?_
  refine fs_aloadn (j := 0) (by decide +kernel) rfl ?_
  refine fe_getR (idx := 41) (t := 1) (f := 2) (fk := 2) (fin := 1) (wp := 251) (x := 1) (by decide +kernel) (by decide +kernel) (by decide +kernel) (by decide +kernel) (by decide +kernel) ?_
  refine fe_getI (idx := 111) (t := 6) (f := 7) (fk := 0) (fin := 0) (wp := 178) (by decide +kernel) (by decide +kernel) (by decide +kernel) (by decide +kernel) ?_
  exact fs_icge (off := 15) (tgt := 46) (by decide +kernel) (by decide) kt kf
theorem b_Cook_findRow_34 {d : Nat} {x1 : Int32} {x2 : Int32} {o3 : Option Value} {S1 : fm_S} {S : fm_S} {r : Option Value × am_W} (hc : am_Sp d k_Cook_measure [.ref 54, .int x2, .int x1] (fm_mk S) (none) (fm_mk S1)) (nx : am_Ev (d + 1) k_Cook_findRow 40 [some (.ref 54), some (.int x1), some (.int x2), o3] [] (fm_mk S1) r) : am_Ev (d + 1) k_Cook_findRow 34 [some (.ref 54), some (.int x1), some (.int x2), o3] [] (fm_mk S) r := by
  refine fs_aloadn (j := 0) (by decide +kernel) rfl ?_
  refine fs_iloadn (j := 2) (by decide +kernel) rfl ?_
  refine fs_iloadn (j := 1) (by decide +kernel) rfl ?_
  exact fe_callV (t := 1) (idx := 104) (n := 2) (wp := 695) (q := (697, 21)) (as := [.int x2, .int x1]) (rs := []) (by decide +kernel) (by decide +kernel) (by decide +kernel) (by decide +kernel) rfl (Nat.le_of_ble_eq_true rfl) rfl hc nx
theorem b_Cook_findRow_40 {d : Nat} {x1 : Int32} {x2 : Int32} {o3 : Option Value} {S : fm_S} {r : Option Value × am_W} (nx : am_Ev d k_Cook_findRow 23 [some (.ref 54), some (.int x1), some (.int (x2 + 1)), o3] [] (fm_mk S) r) : am_Ev d k_Cook_findRow 40 [some (.ref 54), some (.int x1), some (.int x2), o3] [] (fm_mk S) r := by
  refine fs_iinc (j := 2) (n := 1) (v := 1) (L' := [some (.ref 54), some (.int x1), some (.int (x2 + 1)), o3]) (by decide +kernel) rfl (Nat.le_of_ble_eq_true rfl) (by decide) rfl ?_
  refine fs_goto (off := -20) (tgt := 23) (by decide +kernel) (by decide) ?_
  exact nx
theorem b_Cook_findRow_46 {d : Nat} {x1 : Int32} {x2 : Int32} {o3 : Option Value} {S : fm_S} {r : Option Value × am_W} (nx : am_Ev d k_Cook_findRow 50 [some (.ref 54), some (.int x1), some (.int 1), some (.int 1)] [] (fm_mk S) r) : am_Ev d k_Cook_findRow 46 [some (.ref 54), some (.int x1), some (.int x2), o3] [] (fm_mk S) r := by
  refine fs_iconst (n := 1) (v := 1) (by decide +kernel) (by decide) ?_
  refine fs_istoren (j := 2) (L' := [some (.ref 54), some (.int x1), some (.int 1), o3]) (by decide +kernel) (Nat.le_of_ble_eq_true rfl) rfl ?_
  refine fs_iconst (n := 1) (v := 1) (by decide +kernel) (by decide) ?_
  refine fs_istoren (j := 3) (L' := [some (.ref 54), some (.int x1), some (.int 1), some (.int 1)]) (by decide +kernel) (Nat.le_of_ble_eq_true rfl) rfl ?_
  exact nx
theorem b_Cook_findRow_50 {d : Nat} {x1 : Int32} {x2 : Int32} {x3 : Int32} {S : fm_S} {r : Option Value × am_W} (kt : 4 < x3 → am_Ev d k_Cook_findRow 83 [some (.ref 54), some (.int x1), some (.int x2), some (.int x3)] [] (fm_mk S) r) (kf : ¬ 4 < x3 → am_Ev d k_Cook_findRow 55 [some (.ref 54), some (.int x1), some (.int x2), some (.int x3)] [] (fm_mk S) r) : am_Ev d k_Cook_findRow 50 [some (.ref 54), some (.int x1), some (.int x2), some (.int x3)] [] (fm_mk S) r := by
  refine fs_iloadn (j := 3) (by decide +kernel) rfl ?_
  refine fs_iconst (n := 4) (v := 4) (by decide +kernel) (by decide) ?_
  exact fs_icgt (off := 31) (tgt := 83) (by decide +kernel) (by decide) kt kf
theorem b_Cook_findRow_55 {d : Nat} {x1 : Int32} {x2 : Int32} {x3 : Int32} {v : Int32} {S1 : fm_S} {S : fm_S} {r : Option Value × am_W} (hc : am_Sp d k_Cook_findRowOf [.ref 54, .int x3, .int (x2 * (S.1 1 7)), .int x1] (fm_mk S) (some (.int v)) (fm_mk S1)) (nx : am_Ev (d + 1) k_Cook_findRow 72 [some (.ref 54), some (.int x1), some (.int (x2 * (S.1 1 7))), some (.int x3)] [.int v] (fm_mk S1) r) : am_Ev (d + 1) k_Cook_findRow 55 [some (.ref 54), some (.int x1), some (.int x2), some (.int x3)] [] (fm_mk S) r := by
  refine fs_iloadn (j := 2) (by decide +kernel) rfl ?_
  refine fs_aloadn (j := 0) (by decide +kernel) rfl ?_
  refine fe_getR (idx := 41) (t := 1) (f := 2) (fk := 2) (fin := 1) (wp := 251) (x := 1) (by decide +kernel) (by decide +kernel) (by decide +kernel) (by decide +kernel) (by decide +kernel) ?_
  refine fe_getI (idx := 111) (t := 6) (f := 7) (fk := 0) (fin := 0) (wp := 178) (by decide +kernel) (by decide +kernel) (by decide +kernel) (by decide +kernel) ?_
  refine fs_imul (by decide +kernel) ?_
  refine fs_istoren (j := 2) (L' := [some (.ref 54), some (.int x1), some (.int (x2 * (S.1 1 7))), some (.int x3)]) (by decide +kernel) (Nat.le_of_ble_eq_true rfl) rfl ?_
  refine fs_aloadn (j := 0) (by decide +kernel) rfl ?_
  refine fs_iloadn (j := 3) (by decide +kernel) rfl ?_
  refine fs_iloadn (j := 2) (by decide +kernel) rfl ?_
  refine fs_iloadn (j := 1) (by decide +kernel) rfl ?_
  exact fe_callV (t := 1) (idx := 114) (n := 3) (wp := 707) (q := (709, 22)) (as := [.int x3, .int (x2 * (S.1 1 7)), .int x1]) (rs := []) (by decide +kernel) (by decide +kernel) (by decide +kernel) (by decide +kernel) rfl (Nat.le_of_ble_eq_true rfl) rfl hc nx
theorem b_Cook_findRow_72 {d : Nat} {x1 : Int32} {x2 : Int32} {x3 : Int32} {sx0 : Int32} {S : fm_S} {r : Option Value × am_W} (kt : sx0 = 0 → am_Ev d k_Cook_findRow 77 [some (.ref 54), some (.int x1), some (.int x2), some (.int x3)] [] (fm_mk S) r) (kf : ¬ sx0 = 0 → am_Ev d k_Cook_findRow 75 [some (.ref 54), some (.int x1), some (.int x2), some (.int x3)] [] (fm_mk S) r) : am_Ev d k_Cook_findRow 72 [some (.ref 54), some (.int x1), some (.int x2), some (.int x3)] [.int sx0] (fm_mk S) r := by
  exact fs_ifeq (off := 5) (tgt := 77) (by decide +kernel) (by decide) kt kf
theorem b_Cook_findRow_75 {d : Nat} {x1 : Int32} {x2 : Int32} {x3 : Int32} {S : fm_S}  : am_Ev d k_Cook_findRow 75 [some (.ref 54), some (.int x1), some (.int x2), some (.int x3)] [] (fm_mk S) (some (.int x3), fm_mk S) := by
  refine fs_iloadn (j := 3) (by decide +kernel) rfl ?_
  exact fe_retI (by decide +kernel) (by decide +kernel)
theorem b_Cook_findRow_77 {d : Nat} {x1 : Int32} {x2 : Int32} {x3 : Int32} {S : fm_S} {r : Option Value × am_W} (nx : am_Ev d k_Cook_findRow 50 [some (.ref 54), some (.int x1), some (.int x2), some (.int (x3 + 1))] [] (fm_mk S) r) : am_Ev d k_Cook_findRow 77 [some (.ref 54), some (.int x1), some (.int x2), some (.int x3)] [] (fm_mk S) r := by
  refine fs_iinc (j := 3) (n := 1) (v := 1) (L' := [some (.ref 54), some (.int x1), some (.int x2), some (.int (x3 + 1))]) (by decide +kernel) rfl (Nat.le_of_ble_eq_true rfl) (by decide) rfl ?_
  refine fs_goto (off := -30) (tgt := 50) (by decide +kernel) (by decide) ?_
  exact nx
theorem b_Cook_findRow_83 {d : Nat} {x1 : Int32} {x2 : Int32} {x3 : Int32} {S : fm_S}  : am_Ev d k_Cook_findRow 83 [some (.ref 54), some (.int x1), some (.int x2), some (.int x3)] [] (fm_mk S) (some (.int (-1)), fm_mk S) := by
  refine fs_iconst (n := -1) (v := (-1)) (by decide +kernel) (by decide) ?_
  exact fe_retI (by decide +kernel) (by decide +kernel)
-- KitchenSiege$Cook.findRowOf(III)Z
theorem b_Cook_findRowOf_0 {d : Nat} {x1 : Int32} {x2 : Int32} {x3 : Int32} {o4 : Option Value} {o5 : Option Value} {o6 : Option Value} {o7 : Option Value} {S : fm_S} {r : Option Value × am_W} (nx : am_Ev d k_Cook_findRowOf 6 [some (.ref 54), some (.int x1), some (.int x2), some (.int x3), some (.int 0), some (.int 0), o6, o7] [] (fm_mk S) r) : am_Ev d k_Cook_findRowOf 0 [some (.ref 54), some (.int x1), some (.int x2), some (.int x3), o4, o5, o6, o7] [] (fm_mk S) r := by
  refine fs_iconst (n := 0) (v := 0) (by decide +kernel) (by decide) ?_
  refine fs_istore (j := 4) (L' := [some (.ref 54), some (.int x1), some (.int x2), some (.int x3), some (.int 0), o5, o6, o7]) (by decide +kernel) (Nat.le_of_ble_eq_true rfl) rfl ?_
  refine fs_iconst (n := 0) (v := 0) (by decide +kernel) (by decide) ?_
  refine fs_istore (j := 5) (L' := [some (.ref 54), some (.int x1), some (.int x2), some (.int x3), some (.int 0), some (.int 0), o6, o7]) (by decide +kernel) (Nat.le_of_ble_eq_true rfl) rfl ?_
  exact nx
theorem b_Cook_findRowOf_6 {d : Nat} {x1 : Int32} {x2 : Int32} {x3 : Int32} {x4 : Int32} {x5 : Int32} {o6 : Option Value} {o7 : Option Value} {S : fm_S} {r : Option Value × am_W} (kt : x2 ≤ x5 → am_Ev d k_Cook_findRowOf 115 [some (.ref 54), some (.int x1), some (.int x2), some (.int x3), some (.int x4), some (.int x5), o6, o7] [] (fm_mk S) r) (kf : ¬ x2 ≤ x5 → am_Ev d k_Cook_findRowOf 12 [some (.ref 54), some (.int x1), some (.int x2), some (.int x3), some (.int x4), some (.int x5), o6, o7] [] (fm_mk S) r) : am_Ev d k_Cook_findRowOf 6 [some (.ref 54), some (.int x1), some (.int x2), some (.int x3), some (.int x4), some (.int x5), o6, o7] [] (fm_mk S) r := by
  refine fs_iload (j := 5) (by decide +kernel) rfl ?_
  refine fs_iloadn (j := 2) (by decide +kernel) rfl ?_
  exact fs_icge (off := 106) (tgt := 115) (by decide +kernel) (by decide) kt kf
theorem b_Cook_findRowOf_12 {d : Nat} {x1 : Int32} {x2 : Int32} {x3 : Int32} {x4 : Int32} {x5 : Int32} {o6 : Option Value} {o7 : Option Value} {v : Int32} {S1 : fm_S} {S : fm_S} {r : Option Value × am_W} (hc : am_Sp d k_Cook_lay [.ref 54, .int x5, .int x1] (fm_mk S) (some (.int v)) (fm_mk S1)) (nx : am_Ev (d + 1) k_Cook_findRowOf 19 [some (.ref 54), some (.int x1), some (.int x2), some (.int x3), some (.int x4), some (.int x5), o6, o7] [.int v] (fm_mk S1) r) : am_Ev (d + 1) k_Cook_findRowOf 12 [some (.ref 54), some (.int x1), some (.int x2), some (.int x3), some (.int x4), some (.int x5), o6, o7] [] (fm_mk S) r := by
  refine fs_aloadn (j := 0) (by decide +kernel) rfl ?_
  refine fs_iload (j := 5) (by decide +kernel) rfl ?_
  refine fs_iloadn (j := 1) (by decide +kernel) rfl ?_
  exact fe_callV (t := 1) (idx := 118) (n := 2) (wp := 711) (q := (713, 23)) (as := [.int x5, .int x1]) (rs := []) (by decide +kernel) (by decide +kernel) (by decide +kernel) (by decide +kernel) rfl (Nat.le_of_ble_eq_true rfl) rfl hc nx
theorem b_Cook_findRowOf_19 {d : Nat} {x1 : Int32} {x2 : Int32} {x3 : Int32} {x4 : Int32} {x5 : Int32} {o6 : Option Value} {o7 : Option Value} {sx0 : Int32} {S : fm_S} {r : Option Value × am_W} (kt : sx0 = 0 → am_Ev d k_Cook_findRowOf 109 [some (.ref 54), some (.int x1), some (.int x2), some (.int x3), some (.int x4), some (.int x5), o6, o7] [] (fm_mk S) r) (kf : ¬ sx0 = 0 → am_Ev d k_Cook_findRowOf 22 [some (.ref 54), some (.int x1), some (.int x2), some (.int x3), some (.int x4), some (.int x5), o6, o7] [] (fm_mk S) r) : am_Ev d k_Cook_findRowOf 19 [some (.ref 54), some (.int x1), some (.int x2), some (.int x3), some (.int x4), some (.int x5), o6, o7] [.int sx0] (fm_mk S) r := by
  exact fs_ifeq (off := 90) (tgt := 109) (by decide +kernel) (by decide) kt kf
theorem b_Cook_findRowOf_22 {d : Nat} {x1 : Int32} {x2 : Int32} {x3 : Int32} {x4 : Int32} {x5 : Int32} {o6 : Option Value} {o7 : Option Value} {v : Int32} {S1 : fm_S} {S : fm_S} {r : Option Value × am_W} (hc : am_Sp d k_Cook_opensLast [.ref 54, .int x3, .int x1] (fm_mk S) (some (.int v)) (fm_mk S1)) (nx : am_Ev (d + 1) k_Cook_findRowOf 28 [some (.ref 54), some (.int x1), some (.int x2), some (.int x3), some (.int x4), some (.int x5), o6, o7] [.int v] (fm_mk S1) r) : am_Ev (d + 1) k_Cook_findRowOf 22 [some (.ref 54), some (.int x1), some (.int x2), some (.int x3), some (.int x4), some (.int x5), o6, o7] [] (fm_mk S) r := by
  refine fs_aloadn (j := 0) (by decide +kernel) rfl ?_
  refine fs_iloadn (j := 3) (by decide +kernel) rfl ?_
  refine fs_iloadn (j := 1) (by decide +kernel) rfl ?_
  exact fe_callV (t := 1) (idx := 121) (n := 2) (wp := 715) (q := (717, 24)) (as := [.int x3, .int x1]) (rs := []) (by decide +kernel) (by decide +kernel) (by decide +kernel) (by decide +kernel) rfl (Nat.le_of_ble_eq_true rfl) rfl hc nx
theorem b_Cook_findRowOf_28 {d : Nat} {x1 : Int32} {x2 : Int32} {x3 : Int32} {x4 : Int32} {x5 : Int32} {o6 : Option Value} {o7 : Option Value} {sx0 : Int32} {S : fm_S} {r : Option Value × am_W} (kt : ¬ sx0 = 0 → am_Ev d k_Cook_findRowOf 34 [some (.ref 54), some (.int x1), some (.int x2), some (.int x3), some (.int x4), some (.int x5), o6, o7] [] (fm_mk S) r) (kf : sx0 = 0 → am_Ev d k_Cook_findRowOf 31 [some (.ref 54), some (.int x1), some (.int x2), some (.int x3), some (.int x4), some (.int x5), o6, o7] [] (fm_mk S) r) : am_Ev d k_Cook_findRowOf 28 [some (.ref 54), some (.int x1), some (.int x2), some (.int x3), some (.int x4), some (.int x5), o6, o7] [.int sx0] (fm_mk S) r := by
  exact fs_ifne (off := 6) (tgt := 34) (by decide +kernel) (by decide) kt kf
theorem b_Cook_findRowOf_31 {d : Nat} {x1 : Int32} {x2 : Int32} {x3 : Int32} {x4 : Int32} {x5 : Int32} {o6 : Option Value} {o7 : Option Value} {S : fm_S} {r : Option Value × am_W} (nx : am_Ev d k_Cook_findRowOf 109 [some (.ref 54), some (.int x1), some (.int x2), some (.int x3), some (.int x4), some (.int x5), o6, o7] [] (fm_mk S) r) : am_Ev d k_Cook_findRowOf 31 [some (.ref 54), some (.int x1), some (.int x2), some (.int x3), some (.int x4), some (.int x5), o6, o7] [] (fm_mk S) r := by
  refine fs_goto (off := 78) (tgt := 109) (by decide +kernel) (by decide) ?_
  exact nx
theorem b_Cook_findRowOf_34 {d : Nat} {x1 : Int32} {x2 : Int32} {x3 : Int32} {x4 : Int32} {x5 : Int32} {o6 : Option Value} {o7 : Option Value} {S : fm_S} {r : Option Value × am_W} (nx : am_Ev d k_Cook_findRowOf 40 [some (.ref 54), some (.int x1), some (.int x2), some (.int x3), some (.int x4), some (.int x5), some (.int 0), some (.int 0)] [] (fm_mk S) r) : am_Ev d k_Cook_findRowOf 34 [some (.ref 54), some (.int x1), some (.int x2), some (.int x3), some (.int x4), some (.int x5), o6, o7] [] (fm_mk S) r := by
  refine fs_iconst (n := 0) (v := 0) (by decide +kernel) (by decide) ?_
  refine fs_istore (j := 6) (L' := [some (.ref 54), some (.int x1), some (.int x2), some (.int x3), some (.int x4), some (.int x5), some (.int 0), o7]) (by decide +kernel) (Nat.le_of_ble_eq_true rfl) rfl ?_
  refine fs_iconst (n := 0) (v := 0) (by decide +kernel) (by decide) ?_
  refine fs_istore (j := 7) (L' := [some (.ref 54), some (.int x1), some (.int x2), some (.int x3), some (.int x4), some (.int x5), some (.int 0), some (.int 0)]) (by decide +kernel) (Nat.le_of_ble_eq_true rfl) rfl ?_
  exact nx
theorem b_Cook_findRowOf_40 {d : Nat} {x1 : Int32} {x2 : Int32} {x3 : Int32} {x4 : Int32} {x5 : Int32} {x6 : Int32} {x7 : Int32} {S : fm_S} {r : Option Value × am_W} (kt : x1 ≤ x7 → am_Ev d k_Cook_findRowOf 72 [some (.ref 54), some (.int x1), some (.int x2), some (.int x3), some (.int x4), some (.int x5), some (.int x6), some (.int x7)] [] (fm_mk S) r) (kf : ¬ x1 ≤ x7 → am_Ev d k_Cook_findRowOf 46 [some (.ref 54), some (.int x1), some (.int x2), some (.int x3), some (.int x4), some (.int x5), some (.int x6), some (.int x7)] [] (fm_mk S) r) : am_Ev d k_Cook_findRowOf 40 [some (.ref 54), some (.int x1), some (.int x2), some (.int x3), some (.int x4), some (.int x5), some (.int x6), some (.int x7)] [] (fm_mk S) r := by
  refine fs_iload (j := 7) (by decide +kernel) rfl ?_
  refine fs_iloadn (j := 1) (by decide +kernel) rfl ?_
  exact fs_icge (off := 29) (tgt := 72) (by decide +kernel) (by decide) kt kf
theorem b_Cook_findRowOf_46 {d : Nat} {x1 : Int32} {x2 : Int32} {x3 : Int32} {x4 : Int32} {x5 : Int32} {x6 : Int32} {x7 : Int32} {S : fm_S} {r : Option Value × am_W} (hi0 : vp_in x7 4) (hi1 : vp_in (S.1 63 x7.toNatClampNeg) 6) (nx : am_Ev d k_Cook_findRowOf 40 [some (.ref 54), some (.int x1), some (.int x2), some (.int x3), some (.int x4), some (.int x5), some (.int (x6 + (S.1 10 ((S.1 63 x7.toNatClampNeg).toNatClampNeg)))), some (.int (x7 + 1))] [] (fm_mk S) r) : am_Ev d k_Cook_findRowOf 46 [some (.ref 54), some (.int x1), some (.int x2), some (.int x3), some (.int x4), some (.int x5), some (.int x6), some (.int x7)] [] (fm_mk S) r := by
  refine fs_iload (j := 6) (by decide +kernel) rfl ?_
  refine fs_aloadn (j := 0) (by decide +kernel) rfl ?_
  refine fe_getR (idx := 41) (t := 1) (f := 2) (fk := 2) (fin := 1) (wp := 251) (x := 1) (by decide +kernel) (by decide +kernel) (by decide +kernel) (by decide +kernel) (by decide +kernel) ?_
  refine fe_getR (idx := 124) (t := 6) (f := 10) (fk := 2) (fin := 1) (wp := 185) (x := 10) (by decide +kernel) (by decide +kernel) (by decide +kernel) (by decide +kernel) (by decide +kernel) ?_
  refine fs_aloadn (j := 0) (by decide +kernel) rfl ?_
  refine fe_getR (idx := 29) (t := 1) (f := 5) (fk := 2) (fin := 1) (wp := 254) (x := 63) (by decide +kernel) (by decide +kernel) (by decide +kernel) (by decide +kernel) (by decide +kernel) ?_
  refine fs_iload (j := 7) (by decide +kernel) rfl ?_
  refine fx_iald (n := x7.toNatClampNeg) (len := 4) (by decide +kernel) (by decide +kernel) (by decide +kernel) hi0 rfl ?_
  refine fx_iald (n := (S.1 63 x7.toNatClampNeg).toNatClampNeg) (len := 6) (by decide +kernel) (by decide +kernel) (by decide +kernel) hi1 rfl ?_
  refine fs_iadd (by decide +kernel) ?_
  refine fs_istore (j := 6) (L' := [some (.ref 54), some (.int x1), some (.int x2), some (.int x3), some (.int x4), some (.int x5), some (.int (x6 + (S.1 10 ((S.1 63 x7.toNatClampNeg).toNatClampNeg)))), some (.int x7)]) (by decide +kernel) (Nat.le_of_ble_eq_true rfl) rfl ?_
  refine fs_iinc (j := 7) (n := 1) (v := 1) (L' := [some (.ref 54), some (.int x1), some (.int x2), some (.int x3), some (.int x4), some (.int x5), some (.int (x6 + (S.1 10 ((S.1 63 x7.toNatClampNeg).toNatClampNeg)))), some (.int (x7 + 1))]) (by decide +kernel) rfl (Nat.le_of_ble_eq_true rfl) (by decide) rfl ?_
  refine fs_goto (off := -29) (tgt := 40) (by decide +kernel) (by decide) ?_
  exact nx
theorem b_Cook_findRowOf_72 {d : Nat} {x1 : Int32} {x2 : Int32} {x3 : Int32} {x4 : Int32} {x5 : Int32} {x6 : Int32} {x7 : Int32} {S : fm_S} {r : Option Value × am_W} (kt : x4 = 0 → am_Ev d k_Cook_findRowOf 86 [some (.ref 54), some (.int x1), some (.int x2), some (.int x3), some (.int x4), some (.int x5), some (.int x6), some (.int x7)] [] (fm_mk S) r) (kf : ¬ x4 = 0 → am_Ev d k_Cook_findRowOf 77 [some (.ref 54), some (.int x1), some (.int x2), some (.int x3), some (.int x4), some (.int x5), some (.int x6), some (.int x7)] [] (fm_mk S) r) : am_Ev d k_Cook_findRowOf 72 [some (.ref 54), some (.int x1), some (.int x2), some (.int x3), some (.int x4), some (.int x5), some (.int x6), some (.int x7)] [] (fm_mk S) r := by
  refine fs_iload (j := 4) (by decide +kernel) rfl ?_
  exact fs_ifeq (off := 12) (tgt := 86) (by decide +kernel) (by decide) kt kf
theorem b_Cook_findRowOf_77 {d : Nat} {x1 : Int32} {x2 : Int32} {x3 : Int32} {x4 : Int32} {x5 : Int32} {x6 : Int32} {x7 : Int32} {S : fm_S} {r : Option Value × am_W} (kt : (S.1 54 1) ≤ x6 → am_Ev d k_Cook_findRowOf 109 [some (.ref 54), some (.int x1), some (.int x2), some (.int x3), some (.int x4), some (.int x5), some (.int x6), some (.int x7)] [] (fm_mk S) r) (kf : ¬ (S.1 54 1) ≤ x6 → am_Ev d k_Cook_findRowOf 86 [some (.ref 54), some (.int x1), some (.int x2), some (.int x3), some (.int x4), some (.int x5), some (.int x6), some (.int x7)] [] (fm_mk S) r) : am_Ev d k_Cook_findRowOf 77 [some (.ref 54), some (.int x1), some (.int x2), some (.int x3), some (.int x4), some (.int x5), some (.int x6), some (.int x7)] [] (fm_mk S) r := by
  refine fs_iload (j := 6) (by decide +kernel) rfl ?_
  refine fs_aloadn (j := 0) (by decide +kernel) rfl ?_
  refine fe_getI (idx := 108) (t := 1) (f := 1) (fk := 0) (fin := 0) (wp := 249) (by decide +kernel) (by decide +kernel) (by decide +kernel) (by decide +kernel) ?_
  exact fs_icge (off := 26) (tgt := 109) (by decide +kernel) (by decide) kt kf
theorem b_Cook_findRowOf_86 {d : Nat} {x1 : Int32} {x2 : Int32} {x3 : Int32} {x4 : Int32} {x5 : Int32} {x6 : Int32} {x7 : Int32} {S : fm_S} {r : Option Value × am_W} (nx : am_Ev (d + 1) k_Cook_findRowOf 109 [some (.ref 54), some (.int x1), some (.int x2), some (.int x3), some (.int 1), some (.int x5), some (.int x6), some (.int x7)] [] (fm_mk (fm_cp (fm_wI S 54 1 x6) 63 0 55 0 4)) r) : am_Ev (d + 1) k_Cook_findRowOf 86 [some (.ref 54), some (.int x1), some (.int x2), some (.int x3), some (.int x4), some (.int x5), some (.int x6), some (.int x7)] [] (fm_mk S) r := by
  refine fs_iconst (n := 1) (v := 1) (by decide +kernel) (by decide) ?_
  refine fs_istore (j := 4) (L' := [some (.ref 54), some (.int x1), some (.int x2), some (.int x3), some (.int 1), some (.int x5), some (.int x6), some (.int x7)]) (by decide +kernel) (Nat.le_of_ble_eq_true rfl) rfl ?_
  refine fs_aloadn (j := 0) (by decide +kernel) rfl ?_
  refine fs_iload (j := 6) (by decide +kernel) rfl ?_
  refine fe_putI (idx := 108) (t := 1) (f := 1) (wp := 249) (by decide +kernel) (by decide +kernel) (by decide +kernel) (by decide +kernel) ?_
  refine fs_aloadn (j := 0) (by decide +kernel) rfl ?_
  refine fe_getR (idx := 29) (t := 1) (f := 5) (fk := 2) (fin := 1) (wp := 254) (x := 63) (by decide +kernel) (by decide +kernel) (by decide +kernel) (by decide +kernel) (by decide +kernel) ?_
  refine fs_iconst (n := 0) (v := 0) (by decide +kernel) (by decide) ?_
  refine fs_aloadn (j := 0) (by decide +kernel) rfl ?_
  refine fe_getR (idx := 9) (t := 1) (f := 0) (fk := 2) (fin := 1) (wp := 247) (x := 55) (by decide +kernel) (by decide +kernel) (by decide +kernel) (by decide +kernel) (by decide +kernel) ?_
  refine fs_iconst (n := 0) (v := 0) (by decide +kernel) (by decide) ?_
  refine fs_iconst (n := 4) (v := 4) (by decide +kernel) (by decide) ?_
  refine fx_copy (idx := 127) (q := 719) (l0 := 4) (l1 := 4) (s0 := 0) (d0 := 0) (n0 := 4) (by decide +kernel) (by decide +kernel) (by decide +kernel) (by decide +kernel) (by decide +kernel) (by decide +kernel) (by decide) (by decide) (by decide) (by decide) (Nat.le_of_ble_eq_true rfl) ?_
  exact nx
theorem b_Cook_findRowOf_109 {d : Nat} {x1 : Int32} {x2 : Int32} {x3 : Int32} {x4 : Int32} {x5 : Int32} {o6 : Option Value} {o7 : Option Value} {S : fm_S} {r : Option Value × am_W} (nx : am_Ev d k_Cook_findRowOf 6 [some (.ref 54), some (.int x1), some (.int x2), some (.int x3), some (.int x4), some (.int (x5 + 1)), o6, o7] [] (fm_mk S) r) : am_Ev d k_Cook_findRowOf 109 [some (.ref 54), some (.int x1), some (.int x2), some (.int x3), some (.int x4), some (.int x5), o6, o7] [] (fm_mk S) r := by
  refine fs_iinc (j := 5) (n := 1) (v := 1) (L' := [some (.ref 54), some (.int x1), some (.int x2), some (.int x3), some (.int x4), some (.int (x5 + 1)), o6, o7]) (by decide +kernel) rfl (Nat.le_of_ble_eq_true rfl) (by decide) rfl ?_
  refine fs_goto (off := -106) (tgt := 6) (by decide +kernel) (by decide) ?_
  exact nx
theorem b_Cook_findRowOf_115 {d : Nat} {x1 : Int32} {x2 : Int32} {x3 : Int32} {x4 : Int32} {x5 : Int32} {o6 : Option Value} {o7 : Option Value} {S : fm_S}  (hz : x4 = 0 ∨ x4 = 1) : am_Ev d k_Cook_findRowOf 115 [some (.ref 54), some (.int x1), some (.int x2), some (.int x3), some (.int x4), some (.int x5), o6, o7] [] (fm_mk S) (some (.int x4), fm_mk S) := by
  refine fs_iload (j := 4) (by decide +kernel) rfl ?_
  exact fe_retZ (by decide +kernel) (by decide +kernel) hz
-- KitchenSiege$Cook.lay(II)Z
theorem b_Cook_lay_0 {d : Nat} {x1 : Int32} {x2 : Int32} {o3 : Option Value} {o4 : Option Value} {o5 : Option Value} {o6 : Option Value} {S : fm_S} {r : Option Value × am_W} (nx : am_Ev d k_Cook_lay 10 [some (.ref 54), some (.int x1), some (.int x2), some (.int x1), some (.int 0), some (.int (x2 - 1)), o6] [] (fm_mk S) r) : am_Ev d k_Cook_lay 0 [some (.ref 54), some (.int x1), some (.int x2), o3, o4, o5, o6] [] (fm_mk S) r := by
  refine fs_iloadn (j := 1) (by decide +kernel) rfl ?_
  refine fs_istoren (j := 3) (L' := [some (.ref 54), some (.int x1), some (.int x2), some (.int x1), o4, o5, o6]) (by decide +kernel) (Nat.le_of_ble_eq_true rfl) rfl ?_
  refine fs_iconst (n := 0) (v := 0) (by decide +kernel) (by decide) ?_
  refine fs_istore (j := 4) (L' := [some (.ref 54), some (.int x1), some (.int x2), some (.int x1), some (.int 0), o5, o6]) (by decide +kernel) (Nat.le_of_ble_eq_true rfl) rfl ?_
  refine fs_iloadn (j := 2) (by decide +kernel) rfl ?_
  refine fs_iconst (n := 1) (v := 1) (by decide +kernel) (by decide) ?_
  refine fs_isub (by decide +kernel) ?_
  refine fs_istore (j := 5) (L' := [some (.ref 54), some (.int x1), some (.int x2), some (.int x1), some (.int 0), some (.int (x2 - 1)), o6]) (by decide +kernel) (Nat.le_of_ble_eq_true rfl) rfl ?_
  exact nx
theorem b_Cook_lay_10 {d : Nat} {x1 : Int32} {x2 : Int32} {x3 : Int32} {x4 : Int32} {x5 : Int32} {o6 : Option Value} {S : fm_S} {r : Option Value × am_W} (kt : x5 < 0 → am_Ev d k_Cook_lay 82 [some (.ref 54), some (.int x1), some (.int x2), some (.int x3), some (.int x4), some (.int x5), o6] [] (fm_mk S) r) (kf : ¬ x5 < 0 → am_Ev d k_Cook_lay 15 [some (.ref 54), some (.int x1), some (.int x2), some (.int x3), some (.int x4), some (.int x5), o6] [] (fm_mk S) r) : am_Ev d k_Cook_lay 10 [some (.ref 54), some (.int x1), some (.int x2), some (.int x3), some (.int x4), some (.int x5), o6] [] (fm_mk S) r := by
  refine fs_iload (j := 5) (by decide +kernel) rfl ?_
  exact fs_iflt (off := 70) (tgt := 82) (by decide +kernel) (by decide) kt kf
theorem b_Cook_lay_15 {d : Nat} {x1 : Int32} {x2 : Int32} {x3 : Int32} {x4 : Int32} {x5 : Int32} {o6 : Option Value} {S : fm_S} {r : Option Value × am_W} (kt : (S.1 1 7) ≤ 0 → am_Ev d k_Cook_lay 82 [some (.ref 54), some (.int x1), some (.int x2), some (.int x3), some (.int x4), some (.int x5), o6] [] (fm_mk S) r) (kf : ¬ (S.1 1 7) ≤ 0 → am_Ev d k_Cook_lay 25 [some (.ref 54), some (.int x1), some (.int x2), some (.int x3), some (.int x4), some (.int x5), o6] [] (fm_mk S) r) : am_Ev d k_Cook_lay 15 [some (.ref 54), some (.int x1), some (.int x2), some (.int x3), some (.int x4), some (.int x5), o6] [] (fm_mk S) r := by
  refine fs_aloadn (j := 0) (by decide +kernel) rfl ?_
  refine fe_getR (idx := 41) (t := 1) (f := 2) (fk := 2) (fin := 1) (wp := 251) (x := 1) (by decide +kernel) (by decide +kernel) (by decide +kernel) (by decide +kernel) (by decide +kernel) ?_
  refine fe_getI (idx := 111) (t := 6) (f := 7) (fk := 0) (fin := 0) (wp := 178) (by decide +kernel) (by decide +kernel) (by decide +kernel) (by decide +kernel) ?_
  exact fs_ifle (off := 60) (tgt := 82) (by decide +kernel) (by decide) kt kf
theorem b_Cook_lay_25 {d : Nat} {x1 : Int32} {x2 : Int32} {x3 : Int32} {x4 : Int32} {x5 : Int32} {o6 : Option Value} {v : Int32} {S1 : fm_S} {S : fm_S} {r : Option Value × am_W} (hd0 : ¬ (S.1 1 7) = 0) (hc : am_Sp d k_X_has [.int x4, .int (x3 - x3 / (S.1 1 7) * (S.1 1 7))] (fm_mk S) (some (.int v)) (fm_mk S1)) (nx : am_Ev (d + 1) k_Cook_lay 53 [some (.ref 54), some (.int x1), some (.int x2), some (.int (x3 / (S.1 1 7))), some (.int x4), some (.int x5), some (.int (x3 - x3 / (S.1 1 7) * (S.1 1 7)))] [.int v] (fm_mk S1) r) : am_Ev (d + 1) k_Cook_lay 25 [some (.ref 54), some (.int x1), some (.int x2), some (.int x3), some (.int x4), some (.int x5), o6] [] (fm_mk S) r := by
  refine fs_iloadn (j := 3) (by decide +kernel) rfl ?_
  refine fs_aloadn (j := 0) (by decide +kernel) rfl ?_
  refine fe_getR (idx := 41) (t := 1) (f := 2) (fk := 2) (fin := 1) (wp := 251) (x := 1) (by decide +kernel) (by decide +kernel) (by decide +kernel) (by decide +kernel) (by decide +kernel) ?_
  refine fe_getI (idx := 111) (t := 6) (f := 7) (fk := 0) (fin := 0) (wp := 178) (by decide +kernel) (by decide +kernel) (by decide +kernel) (by decide +kernel) ?_
  refine fe_irem (by decide +kernel) hd0 ?_
  refine fs_istore (j := 6) (L' := [some (.ref 54), some (.int x1), some (.int x2), some (.int x3), some (.int x4), some (.int x5), some (.int (x3 - x3 / (S.1 1 7) * (S.1 1 7)))]) (by decide +kernel) (Nat.le_of_ble_eq_true rfl) rfl ?_
  refine fs_iloadn (j := 3) (by decide +kernel) rfl ?_
  refine fs_aloadn (j := 0) (by decide +kernel) rfl ?_
  refine fe_getR (idx := 41) (t := 1) (f := 2) (fk := 2) (fin := 1) (wp := 251) (x := 1) (by decide +kernel) (by decide +kernel) (by decide +kernel) (by decide +kernel) (by decide +kernel) ?_
  refine fe_getI (idx := 111) (t := 6) (f := 7) (fk := 0) (fin := 0) (wp := 178) (by decide +kernel) (by decide +kernel) (by decide +kernel) (by decide +kernel) ?_
  refine fe_idiv (by decide +kernel) hd0 ?_
  refine fs_istoren (j := 3) (L' := [some (.ref 54), some (.int x1), some (.int x2), some (.int (x3 / (S.1 1 7))), some (.int x4), some (.int x5), some (.int (x3 - x3 / (S.1 1 7) * (S.1 1 7)))]) (by decide +kernel) (Nat.le_of_ble_eq_true rfl) rfl ?_
  refine fs_iload (j := 4) (by decide +kernel) rfl ?_
  refine fs_iload (j := 6) (by decide +kernel) rfl ?_
  exact fe_callS (idx := 72) (kd := 4) (n := 2) (wp := 649) (q := (398, 0)) (as := [.int x4, .int (x3 - x3 / (S.1 1 7) * (S.1 1 7))]) (rs := []) (by decide +kernel) (by decide +kernel) (by decide +kernel) (by decide) rfl (Nat.le_of_ble_eq_true rfl) rfl hc nx
theorem b_Cook_lay_53 {d : Nat} {x1 : Int32} {x2 : Int32} {x3 : Int32} {x4 : Int32} {x5 : Int32} {x6 : Int32} {sx0 : Int32} {S : fm_S} {r : Option Value × am_W} (kt : sx0 = 0 → am_Ev d k_Cook_lay 58 [some (.ref 54), some (.int x1), some (.int x2), some (.int x3), some (.int x4), some (.int x5), some (.int x6)] [] (fm_mk S) r) (kf : ¬ sx0 = 0 → am_Ev d k_Cook_lay 56 [some (.ref 54), some (.int x1), some (.int x2), some (.int x3), some (.int x4), some (.int x5), some (.int x6)] [] (fm_mk S) r) : am_Ev d k_Cook_lay 53 [some (.ref 54), some (.int x1), some (.int x2), some (.int x3), some (.int x4), some (.int x5), some (.int x6)] [.int sx0] (fm_mk S) r := by
  exact fs_ifeq (off := 5) (tgt := 58) (by decide +kernel) (by decide) kt kf
theorem b_Cook_lay_56 {d : Nat} {x1 : Int32} {x2 : Int32} {x3 : Int32} {x4 : Int32} {x5 : Int32} {x6 : Int32} {S : fm_S}  : am_Ev d k_Cook_lay 56 [some (.ref 54), some (.int x1), some (.int x2), some (.int x3), some (.int x4), some (.int x5), some (.int x6)] [] (fm_mk S) (some (.int 0), fm_mk S) := by
  refine fs_iconst (n := 0) (v := 0) (by decide +kernel) (by decide) ?_
  exact fe_retZ (by decide +kernel) (by decide +kernel) (by decide)
theorem b_Cook_lay_58 {d : Nat} {x1 : Int32} {x2 : Int32} {x3 : Int32} {x4 : Int32} {x5 : Int32} {x6 : Int32} {S : fm_S} {r : Option Value × am_W} (hi0 : vp_in x5 4) (nx : am_Ev d k_Cook_lay 10 [some (.ref 54), some (.int x1), some (.int x2), some (.int x3), some (.int (x4 ||| (1 <<< (x6 &&& 31)))), some (.int (x5 + (-1))), some (.int x6)] [] (fm_mk (fm_wI S 63 x5.toNatClampNeg x6)) r) : am_Ev d k_Cook_lay 58 [some (.ref 54), some (.int x1), some (.int x2), some (.int x3), some (.int x4), some (.int x5), some (.int x6)] [] (fm_mk S) r := by
  refine fs_iload (j := 4) (by decide +kernel) rfl ?_
  refine fs_iconst (n := 1) (v := 1) (by decide +kernel) (by decide) ?_
  refine fs_iload (j := 6) (by decide +kernel) rfl ?_
  refine fs_ishl (by decide +kernel) ?_
  refine fs_ior (by decide +kernel) ?_
  refine fs_istore (j := 4) (L' := [some (.ref 54), some (.int x1), some (.int x2), some (.int x3), some (.int (x4 ||| (1 <<< (x6 &&& 31)))), some (.int x5), some (.int x6)]) (by decide +kernel) (Nat.le_of_ble_eq_true rfl) rfl ?_
  refine fs_aloadn (j := 0) (by decide +kernel) rfl ?_
  refine fe_getR (idx := 29) (t := 1) (f := 5) (fk := 2) (fin := 1) (wp := 254) (x := 63) (by decide +kernel) (by decide +kernel) (by decide +kernel) (by decide +kernel) (by decide +kernel) ?_
  refine fs_iload (j := 5) (by decide +kernel) rfl ?_
  refine fs_iload (j := 6) (by decide +kernel) rfl ?_
  refine fx_iast (n := x5.toNatClampNeg) (len := 4) (by decide +kernel) (by decide +kernel) (by decide +kernel) hi0 rfl ?_
  refine fs_iinc (j := 5) (n := -1) (v := (-1)) (L' := [some (.ref 54), some (.int x1), some (.int x2), some (.int x3), some (.int (x4 ||| (1 <<< (x6 &&& 31)))), some (.int (x5 + (-1))), some (.int x6)]) (by decide +kernel) rfl (Nat.le_of_ble_eq_true rfl) (by decide) rfl ?_
  refine fs_goto (off := -69) (tgt := 10) (by decide +kernel) (by decide) ?_
  exact nx
theorem b_Cook_lay_82 {d : Nat} {x1 : Int32} {x2 : Int32} {x3 : Int32} {x4 : Int32} {x5 : Int32} {o6 : Option Value} {S : fm_S}  : am_Ev d k_Cook_lay 82 [some (.ref 54), some (.int x1), some (.int x2), some (.int x3), some (.int x4), some (.int x5), o6] [] (fm_mk S) (some (.int 1), fm_mk S) := by
  refine fs_iconst (n := 1) (v := 1) (by decide +kernel) (by decide) ?_
  exact fe_retZ (by decide +kernel) (by decide +kernel) (by decide)
-- KitchenSiege$Cook.opensLast(II)Z
theorem b_Cook_opensLast_0 {d : Nat} {x1 : Int32} {x2 : Int32} {o3 : Option Value} {o4 : Option Value} {o5 : Option Value} {o6 : Option Value} {o7 : Option Value} {o8 : Option Value} {o9 : Option Value} {o10 : Option Value} {S : fm_S} {r : Option Value × am_W} (hi0 : vp_in x1 8) (nx : am_Ev d k_Cook_opensLast 33 [some (.ref 54), some (.int x1), some (.int x2), some (.int (S.1 19 x1.toNatClampNeg)), some (.int (S.1 20 x1.toNatClampNeg)), some (.int 0), some (.int 0), o7, o8, o9, o10] [] (fm_mk S) r) : am_Ev d k_Cook_opensLast 0 [some (.ref 54), some (.int x1), some (.int x2), o3, o4, o5, o6, o7, o8, o9, o10] [] (fm_mk S) r := by
  refine fs_aloadn (j := 0) (by decide +kernel) rfl ?_
  refine fe_getR (idx := 41) (t := 1) (f := 2) (fk := 2) (fin := 1) (wp := 251) (x := 1) (by decide +kernel) (by decide +kernel) (by decide +kernel) (by decide +kernel) (by decide +kernel) ?_
  refine fe_getR (idx := 101) (t := 6) (f := 12) (fk := 2) (fin := 1) (wp := 189) (x := 17) (by decide +kernel) (by decide +kernel) (by decide +kernel) (by decide +kernel) (by decide +kernel) ?_
  refine fe_getR (idx := 133) (t := 2) (f := 2) (fk := 2) (fin := 1) (wp := 131) (x := 19) (by decide +kernel) (by decide +kernel) (by decide +kernel) (by decide +kernel) (by decide +kernel) ?_
  refine fs_iloadn (j := 1) (by decide +kernel) rfl ?_
  refine fx_iald (n := x1.toNatClampNeg) (len := 8) (by decide +kernel) (by decide +kernel) (by decide +kernel) hi0 rfl ?_
  refine fs_istoren (j := 3) (L' := [some (.ref 54), some (.int x1), some (.int x2), some (.int (S.1 19 x1.toNatClampNeg)), o4, o5, o6, o7, o8, o9, o10]) (by decide +kernel) (Nat.le_of_ble_eq_true rfl) rfl ?_
  refine fs_aloadn (j := 0) (by decide +kernel) rfl ?_
  refine fe_getR (idx := 41) (t := 1) (f := 2) (fk := 2) (fin := 1) (wp := 251) (x := 1) (by decide +kernel) (by decide +kernel) (by decide +kernel) (by decide +kernel) (by decide +kernel) ?_
  refine fe_getR (idx := 101) (t := 6) (f := 12) (fk := 2) (fin := 1) (wp := 189) (x := 17) (by decide +kernel) (by decide +kernel) (by decide +kernel) (by decide +kernel) (by decide +kernel) ?_
  refine fe_getR (idx := 136) (t := 2) (f := 3) (fk := 2) (fin := 1) (wp := 135) (x := 20) (by decide +kernel) (by decide +kernel) (by decide +kernel) (by decide +kernel) (by decide +kernel) ?_
  refine fs_iloadn (j := 1) (by decide +kernel) rfl ?_
  refine fx_iald (n := x1.toNatClampNeg) (len := 8) (by decide +kernel) (by decide +kernel) (by decide +kernel) hi0 rfl ?_
  refine fs_istore (j := 4) (L' := [some (.ref 54), some (.int x1), some (.int x2), some (.int (S.1 19 x1.toNatClampNeg)), some (.int (S.1 20 x1.toNatClampNeg)), o5, o6, o7, o8, o9, o10]) (by decide +kernel) (Nat.le_of_ble_eq_true rfl) rfl ?_
  refine fs_iconst (n := 0) (v := 0) (by decide +kernel) (by decide) ?_
  refine fs_istore (j := 5) (L' := [some (.ref 54), some (.int x1), some (.int x2), some (.int (S.1 19 x1.toNatClampNeg)), some (.int (S.1 20 x1.toNatClampNeg)), some (.int 0), o6, o7, o8, o9, o10]) (by decide +kernel) (Nat.le_of_ble_eq_true rfl) rfl ?_
  refine fs_iconst (n := 0) (v := 0) (by decide +kernel) (by decide) ?_
  refine fs_istore (j := 6) (L' := [some (.ref 54), some (.int x1), some (.int x2), some (.int (S.1 19 x1.toNatClampNeg)), some (.int (S.1 20 x1.toNatClampNeg)), some (.int 0), some (.int 0), o7, o8, o9, o10]) (by decide +kernel) (Nat.le_of_ble_eq_true rfl) rfl ?_
  exact nx
theorem b_Cook_opensLast_33 {d : Nat} {x1 : Int32} {x2 : Int32} {x3 : Int32} {x4 : Int32} {x5 : Int32} {x6 : Int32} {o7 : Option Value} {o8 : Option Value} {o9 : Option Value} {o10 : Option Value} {S : fm_S} {r : Option Value × am_W} (kt : x2 ≤ x6 → am_Ev d k_Cook_opensLast 150 [some (.ref 54), some (.int x1), some (.int x2), some (.int x3), some (.int x4), some (.int x5), some (.int x6), o7, o8, o9, o10] [] (fm_mk S) r) (kf : ¬ x2 ≤ x6 → am_Ev d k_Cook_opensLast 39 [some (.ref 54), some (.int x1), some (.int x2), some (.int x3), some (.int x4), some (.int x5), some (.int x6), o7, o8, o9, o10] [] (fm_mk S) r) : am_Ev d k_Cook_opensLast 33 [some (.ref 54), some (.int x1), some (.int x2), some (.int x3), some (.int x4), some (.int x5), some (.int x6), o7, o8, o9, o10] [] (fm_mk S) r := by
  refine fs_iload (j := 6) (by decide +kernel) rfl ?_
  refine fs_iloadn (j := 2) (by decide +kernel) rfl ?_
  exact fs_icge (off := 114) (tgt := 150) (by decide +kernel) (by decide) kt kf
theorem b_Cook_opensLast_39 {d : Nat} {x1 : Int32} {x2 : Int32} {x3 : Int32} {x4 : Int32} {x5 : Int32} {x6 : Int32} {o7 : Option Value} {o8 : Option Value} {o9 : Option Value} {o10 : Option Value} {S : fm_S} {r : Option Value × am_W} (hi0 : vp_in x6 4) (hi1 : vp_in (S.1 63 x6.toNatClampNeg) 6) (hi2 : vp_in (((S.1 63 x6.toNatClampNeg) * 4) + x6) 24) (kt : ¬ (S.1 8 ((S.1 63 x6.toNatClampNeg).toNatClampNeg)) = x3 → am_Ev d k_Cook_opensLast 85 [some (.ref 54), some (.int x1), some (.int x2), some (.int x3), some (.int x4), some (.int x5), some (.int x6), some (.int (S.1 63 x6.toNatClampNeg)), some (.int (S.1 8 ((S.1 63 x6.toNatClampNeg).toNatClampNeg))), some (.int (S.1 64 ((((S.1 63 x6.toNatClampNeg) * 4) + x6).toNatClampNeg))), o10] [] (fm_mk S) r) (kf : (S.1 8 ((S.1 63 x6.toNatClampNeg).toNatClampNeg)) = x3 → am_Ev d k_Cook_opensLast 80 [some (.ref 54), some (.int x1), some (.int x2), some (.int x3), some (.int x4), some (.int x5), some (.int x6), some (.int (S.1 63 x6.toNatClampNeg)), some (.int (S.1 8 ((S.1 63 x6.toNatClampNeg).toNatClampNeg))), some (.int (S.1 64 ((((S.1 63 x6.toNatClampNeg) * 4) + x6).toNatClampNeg))), o10] [] (fm_mk S) r) : am_Ev d k_Cook_opensLast 39 [some (.ref 54), some (.int x1), some (.int x2), some (.int x3), some (.int x4), some (.int x5), some (.int x6), o7, o8, o9, o10] [] (fm_mk S) r := by
  refine fs_aloadn (j := 0) (by decide +kernel) rfl ?_
  refine fe_getR (idx := 29) (t := 1) (f := 5) (fk := 2) (fin := 1) (wp := 254) (x := 63) (by decide +kernel) (by decide +kernel) (by decide +kernel) (by decide +kernel) (by decide +kernel) ?_
  refine fs_iload (j := 6) (by decide +kernel) rfl ?_
  refine fx_iald (n := x6.toNatClampNeg) (len := 4) (by decide +kernel) (by decide +kernel) (by decide +kernel) hi0 rfl ?_
  refine fs_istore (j := 7) (L' := [some (.ref 54), some (.int x1), some (.int x2), some (.int x3), some (.int x4), some (.int x5), some (.int x6), some (.int (S.1 63 x6.toNatClampNeg)), o8, o9, o10]) (by decide +kernel) (Nat.le_of_ble_eq_true rfl) rfl ?_
  refine fs_aloadn (j := 0) (by decide +kernel) rfl ?_
  refine fe_getR (idx := 41) (t := 1) (f := 2) (fk := 2) (fin := 1) (wp := 251) (x := 1) (by decide +kernel) (by decide +kernel) (by decide +kernel) (by decide +kernel) (by decide +kernel) ?_
  refine fe_getR (idx := 62) (t := 6) (f := 8) (fk := 2) (fin := 1) (wp := 181) (x := 8) (by decide +kernel) (by decide +kernel) (by decide +kernel) (by decide +kernel) (by decide +kernel) ?_
  refine fs_iload (j := 7) (by decide +kernel) rfl ?_
  refine fx_iald (n := (S.1 63 x6.toNatClampNeg).toNatClampNeg) (len := 6) (by decide +kernel) (by decide +kernel) (by decide +kernel) hi1 rfl ?_
  refine fs_istore (j := 8) (L' := [some (.ref 54), some (.int x1), some (.int x2), some (.int x3), some (.int x4), some (.int x5), some (.int x6), some (.int (S.1 63 x6.toNatClampNeg)), some (.int (S.1 8 ((S.1 63 x6.toNatClampNeg).toNatClampNeg))), o9, o10]) (by decide +kernel) (Nat.le_of_ble_eq_true rfl) rfl ?_
  refine fs_aloadn (j := 0) (by decide +kernel) rfl ?_
  refine fe_getR (idx := 32) (t := 1) (f := 6) (fk := 2) (fin := 1) (wp := 255) (x := 64) (by decide +kernel) (by decide +kernel) (by decide +kernel) (by decide +kernel) (by decide +kernel) ?_
  refine fs_iload (j := 7) (by decide +kernel) rfl ?_
  refine fs_iconst (n := 4) (v := 4) (by decide +kernel) (by decide) ?_
  refine fs_imul (by decide +kernel) ?_
  refine fs_iload (j := 6) (by decide +kernel) rfl ?_
  refine fs_iadd (by decide +kernel) ?_
  refine fx_iald (n := (((S.1 63 x6.toNatClampNeg) * 4) + x6).toNatClampNeg) (len := 24) (by decide +kernel) (by decide +kernel) (by decide +kernel) hi2 rfl ?_
  refine fs_istore (j := 9) (L' := [some (.ref 54), some (.int x1), some (.int x2), some (.int x3), some (.int x4), some (.int x5), some (.int x6), some (.int (S.1 63 x6.toNatClampNeg)), some (.int (S.1 8 ((S.1 63 x6.toNatClampNeg).toNatClampNeg))), some (.int (S.1 64 ((((S.1 63 x6.toNatClampNeg) * 4) + x6).toNatClampNeg))), o10]) (by decide +kernel) (Nat.le_of_ble_eq_true rfl) rfl ?_
  refine fs_iload (j := 8) (by decide +kernel) rfl ?_
  refine fs_iloadn (j := 3) (by decide +kernel) rfl ?_
  exact fs_icne (off := 8) (tgt := 85) (by decide +kernel) (by decide) kt kf
theorem b_Cook_opensLast_80 {d : Nat} {x1 : Int32} {x2 : Int32} {x3 : Int32} {x4 : Int32} {x5 : Int32} {x6 : Int32} {x7 : Int32} {x8 : Int32} {x9 : Int32} {o10 : Option Value} {S : fm_S} {r : Option Value × am_W} (nx : am_Ev d k_Cook_opensLast 86 [some (.ref 54), some (.int x1), some (.int x2), some (.int x3), some (.int x4), some (.int x5), some (.int x6), some (.int x7), some (.int x8), some (.int x9), o10] [.int x4] (fm_mk S) r) : am_Ev d k_Cook_opensLast 80 [some (.ref 54), some (.int x1), some (.int x2), some (.int x3), some (.int x4), some (.int x5), some (.int x6), some (.int x7), some (.int x8), some (.int x9), o10] [] (fm_mk S) r := by
  refine fs_iload (j := 4) (by decide +kernel) rfl ?_
  refine fs_goto (off := 4) (tgt := 86) (by decide +kernel) (by decide) ?_
  exact nx
theorem b_Cook_opensLast_85 {d : Nat} {x1 : Int32} {x2 : Int32} {x3 : Int32} {x4 : Int32} {x5 : Int32} {x6 : Int32} {x7 : Int32} {x8 : Int32} {x9 : Int32} {o10 : Option Value} {S : fm_S} {r : Option Value × am_W} (nx : am_Ev d k_Cook_opensLast 86 [some (.ref 54), some (.int x1), some (.int x2), some (.int x3), some (.int x4), some (.int x5), some (.int x6), some (.int x7), some (.int x8), some (.int x9), o10] [.int 0] (fm_mk S) r) : am_Ev d k_Cook_opensLast 85 [some (.ref 54), some (.int x1), some (.int x2), some (.int x3), some (.int x4), some (.int x5), some (.int x6), some (.int x7), some (.int x8), some (.int x9), o10] [] (fm_mk S) r := by
  refine fs_iconst (n := 0) (v := 0) (by decide +kernel) (by decide) ?_
  exact nx
theorem b_Cook_opensLast_86 {d : Nat} {x1 : Int32} {x2 : Int32} {x3 : Int32} {x4 : Int32} {x5 : Int32} {x6 : Int32} {x7 : Int32} {x8 : Int32} {x9 : Int32} {o10 : Option Value} {sx0 : Int32} {v : Int32} {S1 : fm_S} {S : fm_S} {r : Option Value × am_W} (hc : am_Sp d k_Town_pull [.ref 1, .int x1, .int x7, .int x9, .int ((S.1 17 0) + x6), .int sx0] (fm_mk S) (some (.int v)) (fm_mk S1)) (nx : am_Ev (d + 1) k_Cook_opensLast 115 [some (.ref 54), some (.int x1), some (.int x2), some (.int x3), some (.int x4), some (.int x5), some (.int x6), some (.int x7), some (.int x8), some (.int x9), some (.int sx0)] [.int v] (fm_mk S1) r) : am_Ev (d + 1) k_Cook_opensLast 86 [some (.ref 54), some (.int x1), some (.int x2), some (.int x3), some (.int x4), some (.int x5), some (.int x6), some (.int x7), some (.int x8), some (.int x9), o10] [.int sx0] (fm_mk S) r := by
  refine fs_istore (j := 10) (L' := [some (.ref 54), some (.int x1), some (.int x2), some (.int x3), some (.int x4), some (.int x5), some (.int x6), some (.int x7), some (.int x8), some (.int x9), some (.int sx0)]) (by decide +kernel) (Nat.le_of_ble_eq_true rfl) rfl ?_
  refine fs_aloadn (j := 0) (by decide +kernel) rfl ?_
  refine fe_getR (idx := 41) (t := 1) (f := 2) (fk := 2) (fin := 1) (wp := 251) (x := 1) (by decide +kernel) (by decide +kernel) (by decide +kernel) (by decide +kernel) (by decide +kernel) ?_
  refine fs_iloadn (j := 1) (by decide +kernel) rfl ?_
  refine fs_iload (j := 7) (by decide +kernel) rfl ?_
  refine fs_iload (j := 9) (by decide +kernel) rfl ?_
  refine fs_aloadn (j := 0) (by decide +kernel) rfl ?_
  refine fe_getR (idx := 41) (t := 1) (f := 2) (fk := 2) (fin := 1) (wp := 251) (x := 1) (by decide +kernel) (by decide +kernel) (by decide +kernel) (by decide +kernel) (by decide +kernel) ?_
  refine fe_getR (idx := 101) (t := 6) (f := 12) (fk := 2) (fin := 1) (wp := 189) (x := 17) (by decide +kernel) (by decide +kernel) (by decide +kernel) (by decide +kernel) (by decide +kernel) ?_
  refine fe_getI (idx := 48) (t := 2) (f := 0) (fk := 0) (fin := 0) (wp := 124) (by decide +kernel) (by decide +kernel) (by decide +kernel) (by decide +kernel) ?_
  refine fs_iload (j := 6) (by decide +kernel) rfl ?_
  refine fs_iadd (by decide +kernel) ?_
  refine fs_iload (j := 10) (by decide +kernel) rfl ?_
  exact fe_callV (t := 6) (idx := 97) (n := 5) (wp := 642) (q := (643, 644)) (as := [.int x1, .int x7, .int x9, .int ((S.1 17 0) + x6), .int sx0]) (rs := []) (by decide +kernel) (by decide +kernel) (by decide +kernel) (by decide +kernel) rfl (Nat.le_of_ble_eq_true rfl) rfl hc nx
theorem b_Cook_opensLast_115 {d : Nat} {x1 : Int32} {x2 : Int32} {x3 : Int32} {x4 : Int32} {x5 : Int32} {x6 : Int32} {x7 : Int32} {x8 : Int32} {x9 : Int32} {x10 : Int32} {sx0 : Int32} {S : fm_S} {r : Option Value × am_W} (kt : x9 ≤ 0 → am_Ev d k_Cook_opensLast 127 [some (.ref 54), some (.int x1), some (.int x2), some (.int x3), some (.int x4), some (.int sx0), some (.int x6), some (.int x7), some (.int x8), some (.int x9), some (.int x10)] [] (fm_mk S) r) (kf : ¬ x9 ≤ 0 → am_Ev d k_Cook_opensLast 122 [some (.ref 54), some (.int x1), some (.int x2), some (.int x3), some (.int x4), some (.int sx0), some (.int x6), some (.int x7), some (.int x8), some (.int x9), some (.int x10)] [] (fm_mk S) r) : am_Ev d k_Cook_opensLast 115 [some (.ref 54), some (.int x1), some (.int x2), some (.int x3), some (.int x4), some (.int x5), some (.int x6), some (.int x7), some (.int x8), some (.int x9), some (.int x10)] [.int sx0] (fm_mk S) r := by
  refine fs_istore (j := 5) (L' := [some (.ref 54), some (.int x1), some (.int x2), some (.int x3), some (.int x4), some (.int sx0), some (.int x6), some (.int x7), some (.int x8), some (.int x9), some (.int x10)]) (by decide +kernel) (Nat.le_of_ble_eq_true rfl) rfl ?_
  refine fs_iload (j := 9) (by decide +kernel) rfl ?_
  exact fs_ifle (off := 8) (tgt := 127) (by decide +kernel) (by decide) kt kf
theorem b_Cook_opensLast_122 {d : Nat} {x1 : Int32} {x2 : Int32} {x3 : Int32} {x4 : Int32} {x5 : Int32} {x6 : Int32} {x7 : Int32} {x8 : Int32} {x9 : Int32} {x10 : Int32} {S : fm_S} {r : Option Value × am_W} (nx : am_Ev d k_Cook_opensLast 128 [some (.ref 54), some (.int x1), some (.int x2), some (.int x3), some (.int x4), some (.int x5), some (.int x6), some (.int x7), some (.int x8), some (.int x9), some (.int x10)] [.int x8] (fm_mk S) r) : am_Ev d k_Cook_opensLast 122 [some (.ref 54), some (.int x1), some (.int x2), some (.int x3), some (.int x4), some (.int x5), some (.int x6), some (.int x7), some (.int x8), some (.int x9), some (.int x10)] [] (fm_mk S) r := by
  refine fs_iload (j := 8) (by decide +kernel) rfl ?_
  refine fs_goto (off := 4) (tgt := 128) (by decide +kernel) (by decide) ?_
  exact nx
theorem b_Cook_opensLast_127 {d : Nat} {x1 : Int32} {x2 : Int32} {x3 : Int32} {x4 : Int32} {x5 : Int32} {x6 : Int32} {x7 : Int32} {x8 : Int32} {x9 : Int32} {x10 : Int32} {S : fm_S} {r : Option Value × am_W} (nx : am_Ev d k_Cook_opensLast 128 [some (.ref 54), some (.int x1), some (.int x2), some (.int x3), some (.int x4), some (.int x5), some (.int x6), some (.int x7), some (.int x8), some (.int x9), some (.int x10)] [.int (-1)] (fm_mk S) r) : am_Ev d k_Cook_opensLast 127 [some (.ref 54), some (.int x1), some (.int x2), some (.int x3), some (.int x4), some (.int x5), some (.int x6), some (.int x7), some (.int x8), some (.int x9), some (.int x10)] [] (fm_mk S) r := by
  refine fs_iconst (n := -1) (v := (-1)) (by decide +kernel) (by decide) ?_
  exact nx
theorem b_Cook_opensLast_128 {d : Nat} {x1 : Int32} {x2 : Int32} {x3 : Int32} {x4 : Int32} {x5 : Int32} {x6 : Int32} {x7 : Int32} {x8 : Int32} {x9 : Int32} {x10 : Int32} {sx0 : Int32} {S : fm_S} {r : Option Value × am_W} (kt : x9 ≤ 0 → am_Ev d k_Cook_opensLast 141 [some (.ref 54), some (.int x1), some (.int x2), some (.int sx0), some (.int x4), some (.int x5), some (.int x6), some (.int x7), some (.int x8), some (.int x9), some (.int x10)] [] (fm_mk S) r) (kf : ¬ x9 ≤ 0 → am_Ev d k_Cook_opensLast 134 [some (.ref 54), some (.int x1), some (.int x2), some (.int sx0), some (.int x4), some (.int x5), some (.int x6), some (.int x7), some (.int x8), some (.int x9), some (.int x10)] [] (fm_mk S) r) : am_Ev d k_Cook_opensLast 128 [some (.ref 54), some (.int x1), some (.int x2), some (.int x3), some (.int x4), some (.int x5), some (.int x6), some (.int x7), some (.int x8), some (.int x9), some (.int x10)] [.int sx0] (fm_mk S) r := by
  refine fs_istoren (j := 3) (L' := [some (.ref 54), some (.int x1), some (.int x2), some (.int sx0), some (.int x4), some (.int x5), some (.int x6), some (.int x7), some (.int x8), some (.int x9), some (.int x10)]) (by decide +kernel) (Nat.le_of_ble_eq_true rfl) rfl ?_
  refine fs_iload (j := 9) (by decide +kernel) rfl ?_
  exact fs_ifle (off := 10) (tgt := 141) (by decide +kernel) (by decide) kt kf
theorem b_Cook_opensLast_134 {d : Nat} {x1 : Int32} {x2 : Int32} {x3 : Int32} {x4 : Int32} {x5 : Int32} {x6 : Int32} {x7 : Int32} {x8 : Int32} {x9 : Int32} {x10 : Int32} {S : fm_S} {r : Option Value × am_W} (nx : am_Ev d k_Cook_opensLast 142 [some (.ref 54), some (.int x1), some (.int x2), some (.int x3), some (.int x4), some (.int x5), some (.int x6), some (.int x7), some (.int x8), some (.int x9), some (.int x10)] [.int (x10 + 1)] (fm_mk S) r) : am_Ev d k_Cook_opensLast 134 [some (.ref 54), some (.int x1), some (.int x2), some (.int x3), some (.int x4), some (.int x5), some (.int x6), some (.int x7), some (.int x8), some (.int x9), some (.int x10)] [] (fm_mk S) r := by
  refine fs_iload (j := 10) (by decide +kernel) rfl ?_
  refine fs_iconst (n := 1) (v := 1) (by decide +kernel) (by decide) ?_
  refine fs_iadd (by decide +kernel) ?_
  refine fs_goto (off := 4) (tgt := 142) (by decide +kernel) (by decide) ?_
  exact nx
theorem b_Cook_opensLast_141 {d : Nat} {x1 : Int32} {x2 : Int32} {x3 : Int32} {x4 : Int32} {x5 : Int32} {x6 : Int32} {x7 : Int32} {x8 : Int32} {x9 : Int32} {x10 : Int32} {S : fm_S} {r : Option Value × am_W} (nx : am_Ev d k_Cook_opensLast 142 [some (.ref 54), some (.int x1), some (.int x2), some (.int x3), some (.int x4), some (.int x5), some (.int x6), some (.int x7), some (.int x8), some (.int x9), some (.int x10)] [.int 0] (fm_mk S) r) : am_Ev d k_Cook_opensLast 141 [some (.ref 54), some (.int x1), some (.int x2), some (.int x3), some (.int x4), some (.int x5), some (.int x6), some (.int x7), some (.int x8), some (.int x9), some (.int x10)] [] (fm_mk S) r := by
  refine fs_iconst (n := 0) (v := 0) (by decide +kernel) (by decide) ?_
  exact nx
theorem b_Cook_opensLast_142 {d : Nat} {x1 : Int32} {x2 : Int32} {x3 : Int32} {x4 : Int32} {x5 : Int32} {x6 : Int32} {x7 : Int32} {x8 : Int32} {x9 : Int32} {x10 : Int32} {sx0 : Int32} {S : fm_S} {r : Option Value × am_W} (nx : am_Ev d k_Cook_opensLast 33 [some (.ref 54), some (.int x1), some (.int x2), some (.int x3), some (.int sx0), some (.int x5), some (.int (x6 + 1)), some (.int x7), some (.int x8), some (.int x9), some (.int x10)] [] (fm_mk S) r) : am_Ev d k_Cook_opensLast 142 [some (.ref 54), some (.int x1), some (.int x2), some (.int x3), some (.int x4), some (.int x5), some (.int x6), some (.int x7), some (.int x8), some (.int x9), some (.int x10)] [.int sx0] (fm_mk S) r := by
  refine fs_istore (j := 4) (L' := [some (.ref 54), some (.int x1), some (.int x2), some (.int x3), some (.int sx0), some (.int x5), some (.int x6), some (.int x7), some (.int x8), some (.int x9), some (.int x10)]) (by decide +kernel) (Nat.le_of_ble_eq_true rfl) rfl ?_
  refine fs_iinc (j := 6) (n := 1) (v := 1) (L' := [some (.ref 54), some (.int x1), some (.int x2), some (.int x3), some (.int sx0), some (.int x5), some (.int (x6 + 1)), some (.int x7), some (.int x8), some (.int x9), some (.int x10)]) (by decide +kernel) rfl (Nat.le_of_ble_eq_true rfl) (by decide) rfl ?_
  refine fs_goto (off := -114) (tgt := 33) (by decide +kernel) (by decide) ?_
  exact nx
theorem b_Cook_opensLast_150 {d : Nat} {x1 : Int32} {x2 : Int32} {x3 : Int32} {x4 : Int32} {x5 : Int32} {x6 : Int32} {o7 : Option Value} {o8 : Option Value} {o9 : Option Value} {o10 : Option Value} {S : fm_S} {r : Option Value × am_W} (kt : x5 < 10 → am_Ev d k_Cook_opensLast 161 [some (.ref 54), some (.int x1), some (.int x2), some (.int x3), some (.int x4), some (.int x5), some (.int x6), o7, o8, o9, o10] [] (fm_mk S) r) (kf : ¬ x5 < 10 → am_Ev d k_Cook_opensLast 157 [some (.ref 54), some (.int x1), some (.int x2), some (.int x3), some (.int x4), some (.int x5), some (.int x6), o7, o8, o9, o10] [] (fm_mk S) r) : am_Ev d k_Cook_opensLast 150 [some (.ref 54), some (.int x1), some (.int x2), some (.int x3), some (.int x4), some (.int x5), some (.int x6), o7, o8, o9, o10] [] (fm_mk S) r := by
  refine fs_iload (j := 5) (by decide +kernel) rfl ?_
  refine fs_bipush (n := 10) (v := 10) (by decide +kernel) (by decide) ?_
  exact fs_iclt (off := 7) (tgt := 161) (by decide +kernel) (by decide) kt kf
theorem b_Cook_opensLast_157 {d : Nat} {x1 : Int32} {x2 : Int32} {x3 : Int32} {x4 : Int32} {x5 : Int32} {x6 : Int32} {o7 : Option Value} {o8 : Option Value} {o9 : Option Value} {o10 : Option Value} {S : fm_S} {r : Option Value × am_W} (nx : am_Ev d k_Cook_opensLast 162 [some (.ref 54), some (.int x1), some (.int x2), some (.int x3), some (.int x4), some (.int x5), some (.int x6), o7, o8, o9, o10] [.int 1] (fm_mk S) r) : am_Ev d k_Cook_opensLast 157 [some (.ref 54), some (.int x1), some (.int x2), some (.int x3), some (.int x4), some (.int x5), some (.int x6), o7, o8, o9, o10] [] (fm_mk S) r := by
  refine fs_iconst (n := 1) (v := 1) (by decide +kernel) (by decide) ?_
  refine fs_goto (off := 4) (tgt := 162) (by decide +kernel) (by decide) ?_
  exact nx
theorem b_Cook_opensLast_161 {d : Nat} {x1 : Int32} {x2 : Int32} {x3 : Int32} {x4 : Int32} {x5 : Int32} {x6 : Int32} {o7 : Option Value} {o8 : Option Value} {o9 : Option Value} {o10 : Option Value} {S : fm_S} {r : Option Value × am_W} (nx : am_Ev d k_Cook_opensLast 162 [some (.ref 54), some (.int x1), some (.int x2), some (.int x3), some (.int x4), some (.int x5), some (.int x6), o7, o8, o9, o10] [.int 0] (fm_mk S) r) : am_Ev d k_Cook_opensLast 161 [some (.ref 54), some (.int x1), some (.int x2), some (.int x3), some (.int x4), some (.int x5), some (.int x6), o7, o8, o9, o10] [] (fm_mk S) r := by
  refine fs_iconst (n := 0) (v := 0) (by decide +kernel) (by decide) ?_
  exact nx
theorem b_Cook_opensLast_162 {d : Nat} {x1 : Int32} {x2 : Int32} {x3 : Int32} {x4 : Int32} {x5 : Int32} {x6 : Int32} {o7 : Option Value} {o8 : Option Value} {o9 : Option Value} {o10 : Option Value} {sx0 : Int32} {S : fm_S}  (hz : sx0 = 0 ∨ sx0 = 1) : am_Ev d k_Cook_opensLast 162 [some (.ref 54), some (.int x1), some (.int x2), some (.int x3), some (.int x4), some (.int x5), some (.int x6), o7, o8, o9, o10] [.int sx0] (fm_mk S) (some (.int sx0), fm_mk S) := by
  exact fe_retZ (by decide +kernel) (by decide +kernel) hz
-- KitchenSiege$Cook.neverOpened()I
theorem b_Cook_neverOpened_0 {d : Nat} {o1 : Option Value} {o2 : Option Value} {v : Int32} {S1 : fm_S} {S : fm_S} {r : Option Value × am_W} (hc : am_Sp d k_Town_shutStreets [.ref 1] (fm_mk S) (some (.int v)) (fm_mk S1)) (nx : am_Ev (d + 1) k_Cook_neverOpened 7 [some (.ref 54), o1, o2] [.int v] (fm_mk S1) r) : am_Ev (d + 1) k_Cook_neverOpened 0 [some (.ref 54), o1, o2] [] (fm_mk S) r := by
  refine fs_aloadn (j := 0) (by decide +kernel) rfl ?_
  refine fe_getR (idx := 41) (t := 1) (f := 2) (fk := 2) (fin := 1) (wp := 251) (x := 1) (by decide +kernel) (by decide +kernel) (by decide +kernel) (by decide +kernel) (by decide +kernel) ?_
  exact fe_callV (t := 6) (idx := 139) (n := 0) (wp := 728) (q := (729, 730)) (as := []) (rs := []) (by decide +kernel) (by decide +kernel) (by decide +kernel) (by decide +kernel) rfl (Nat.le_of_ble_eq_true rfl) rfl hc nx
theorem b_Cook_neverOpened_7 {d : Nat} {o1 : Option Value} {o2 : Option Value} {sx0 : Int32} {S : fm_S} {r : Option Value × am_W} (nx : am_Ev d k_Cook_neverOpened 10 [some (.ref 54), some (.int sx0), some (.int 0)] [] (fm_mk S) r) : am_Ev d k_Cook_neverOpened 7 [some (.ref 54), o1, o2] [.int sx0] (fm_mk S) r := by
  refine fs_istoren (j := 1) (L' := [some (.ref 54), some (.int sx0), o2]) (by decide +kernel) (Nat.le_of_ble_eq_true rfl) rfl ?_
  refine fs_iconst (n := 0) (v := 0) (by decide +kernel) (by decide) ?_
  refine fs_istoren (j := 2) (L' := [some (.ref 54), some (.int sx0), some (.int 0)]) (by decide +kernel) (Nat.le_of_ble_eq_true rfl) rfl ?_
  exact nx
theorem b_Cook_neverOpened_10 {d : Nat} {x1 : Int32} {x2 : Int32} {S : fm_S} {r : Option Value × am_W} (kt : (S.1 1 7) ≤ x2 → am_Ev d k_Cook_neverOpened 39 [some (.ref 54), some (.int x1), some (.int x2)] [] (fm_mk S) r) (kf : ¬ (S.1 1 7) ≤ x2 → am_Ev d k_Cook_neverOpened 21 [some (.ref 54), some (.int x1), some (.int x2)] [] (fm_mk S) r) : am_Ev d k_Cook_neverOpened 10 [some (.ref 54), some (.int x1), some (.int x2)] [] (fm_mk S) r := by
  refine fs_iloadn (j := 2) (by decide +kernel) rfl ?_
  refine fs_aloadn (j := 0) (by decide +kernel) rfl ?_
  refine fe_getR (idx := 41) (t := 1) (f := 2) (fk := 2) (fin := 1) (wp := 251) (x := 1) (by decide +kernel) (by decide +kernel) (by decide +kernel) (by decide +kernel) (by decide +kernel) ?_
  refine fe_getI (idx := 111) (t := 6) (f := 7) (fk := 0) (fin := 0) (wp := 178) (by decide +kernel) (by decide +kernel) (by decide +kernel) (by decide +kernel) ?_
  exact fs_icge (off := 21) (tgt := 39) (by decide +kernel) (by decide) kt kf
theorem b_Cook_neverOpened_21 {d : Nat} {x1 : Int32} {x2 : Int32} {v : Int32} {S1 : fm_S} {S : fm_S} {r : Option Value × am_W} (hc : am_Sp d k_Cook_openedAlone [.ref 54, .int x2, .int 28] (fm_mk S) (some (.int v)) (fm_mk S1)) (nx : am_Ev (d + 1) k_Cook_neverOpened 29 [some (.ref 54), some (.int x1), some (.int x2)] [.int v, .int x1] (fm_mk S1) r) : am_Ev (d + 1) k_Cook_neverOpened 21 [some (.ref 54), some (.int x1), some (.int x2)] [] (fm_mk S) r := by
  refine fs_iloadn (j := 1) (by decide +kernel) rfl ?_
  refine fs_aloadn (j := 0) (by decide +kernel) rfl ?_
  refine fs_iloadn (j := 2) (by decide +kernel) rfl ?_
  refine fs_bipush (n := 28) (v := 28) (by decide +kernel) (by decide) ?_
  exact fe_callV (t := 1) (idx := 143) (n := 2) (wp := 733) (q := (735, 25)) (as := [.int x2, .int 28]) (rs := [.int x1]) (by decide +kernel) (by decide +kernel) (by decide +kernel) (by decide +kernel) rfl (Nat.le_of_ble_eq_true rfl) rfl hc nx
theorem b_Cook_neverOpened_29 {d : Nat} {x1 : Int32} {x2 : Int32} {sx0 : Int32} {sx1 : Int32} {S : fm_S} {r : Option Value × am_W} (nx : am_Ev d k_Cook_neverOpened 10 [some (.ref 54), some (.int (sx0 &&& (sx1 ^^^ (-1)))), some (.int (x2 + 1))] [] (fm_mk S) r) : am_Ev d k_Cook_neverOpened 29 [some (.ref 54), some (.int x1), some (.int x2)] [.int sx1, .int sx0] (fm_mk S) r := by
  refine fs_iconst (n := -1) (v := (-1)) (by decide +kernel) (by decide) ?_
  refine fs_ixor (by decide +kernel) ?_
  refine fs_iand (by decide +kernel) ?_
  refine fs_istoren (j := 1) (L' := [some (.ref 54), some (.int (sx0 &&& (sx1 ^^^ (-1)))), some (.int x2)]) (by decide +kernel) (Nat.le_of_ble_eq_true rfl) rfl ?_
  refine fs_iinc (j := 2) (n := 1) (v := 1) (L' := [some (.ref 54), some (.int (sx0 &&& (sx1 ^^^ (-1)))), some (.int (x2 + 1))]) (by decide +kernel) rfl (Nat.le_of_ble_eq_true rfl) (by decide) rfl ?_
  refine fs_goto (off := -26) (tgt := 10) (by decide +kernel) (by decide) ?_
  exact nx
theorem b_Cook_neverOpened_39 {d : Nat} {x1 : Int32} {x2 : Int32} {S : fm_S}  : am_Ev d k_Cook_neverOpened 39 [some (.ref 54), some (.int x1), some (.int x2)] [] (fm_mk S) (some (.int x1), fm_mk S) := by
  refine fs_iloadn (j := 1) (by decide +kernel) rfl ?_
  exact fe_retI (by decide +kernel) (by decide +kernel)
-- KitchenSiege$Cook.openedAlone(II)I
theorem b_Cook_openedAlone_0 {d : Nat} {x1 : Int32} {x2 : Int32} {o3 : Option Value} {o4 : Option Value} {o5 : Option Value} {S : fm_S} {r : Option Value × am_W} (nx : am_Ev d k_Cook_openedAlone 5 [some (.ref 54), some (.int x1), some (.int x2), some (.int 0), some (.int 0), o5] [] (fm_mk S) r) : am_Ev d k_Cook_openedAlone 0 [some (.ref 54), some (.int x1), some (.int x2), o3, o4, o5] [] (fm_mk S) r := by
  refine fs_iconst (n := 0) (v := 0) (by decide +kernel) (by decide) ?_
  refine fs_istoren (j := 3) (L' := [some (.ref 54), some (.int x1), some (.int x2), some (.int 0), o4, o5]) (by decide +kernel) (Nat.le_of_ble_eq_true rfl) rfl ?_
  refine fs_iconst (n := 0) (v := 0) (by decide +kernel) (by decide) ?_
  refine fs_istore (j := 4) (L' := [some (.ref 54), some (.int x1), some (.int x2), some (.int 0), some (.int 0), o5]) (by decide +kernel) (Nat.le_of_ble_eq_true rfl) rfl ?_
  exact nx
theorem b_Cook_openedAlone_5 {d : Nat} {x1 : Int32} {x2 : Int32} {x3 : Int32} {x4 : Int32} {o5 : Option Value} {S : fm_S} {r : Option Value × am_W} (kt : 4 ≤ x4 → am_Ev d k_Cook_openedAlone 86 [some (.ref 54), some (.int x1), some (.int x2), some (.int x3), some (.int x4), o5] [] (fm_mk S) r) (kf : ¬ 4 ≤ x4 → am_Ev d k_Cook_openedAlone 11 [some (.ref 54), some (.int x1), some (.int x2), some (.int x3), some (.int x4), o5] [] (fm_mk S) r) : am_Ev d k_Cook_openedAlone 5 [some (.ref 54), some (.int x1), some (.int x2), some (.int x3), some (.int x4), o5] [] (fm_mk S) r := by
  refine fs_iload (j := 4) (by decide +kernel) rfl ?_
  refine fs_iconst (n := 4) (v := 4) (by decide +kernel) (by decide) ?_
  exact fs_icge (off := 78) (tgt := 86) (by decide +kernel) (by decide) kt kf
theorem b_Cook_openedAlone_11 {d : Nat} {x1 : Int32} {x2 : Int32} {x3 : Int32} {x4 : Int32} {o5 : Option Value} {v : Int32} {S1 : fm_S} {S : fm_S} {r : Option Value × am_W} (hc : am_Sp d k_Town_windOn [.ref 1, .int ((S.1 17 0) + x4)] (fm_mk S) (some (.int v)) (fm_mk S1)) (nx : am_Ev (d + 1) k_Cook_openedAlone 40 [some (.ref 54), some (.int x1), some (.int x2), some (.int x3), some (.int x4), o5] [.int v, .int x1, .ref 1, .ref 56] (fm_mk S1) r) : am_Ev (d + 1) k_Cook_openedAlone 11 [some (.ref 54), some (.int x1), some (.int x2), some (.int x3), some (.int x4), o5] [] (fm_mk S) r := by
  refine fs_aloadn (j := 0) (by decide +kernel) rfl ?_
  refine fe_getR (idx := 18) (t := 1) (f := 3) (fk := 2) (fin := 1) (wp := 252) (x := 56) (by decide +kernel) (by decide +kernel) (by decide +kernel) (by decide +kernel) (by decide +kernel) ?_
  refine fs_aloadn (j := 0) (by decide +kernel) rfl ?_
  refine fe_getR (idx := 41) (t := 1) (f := 2) (fk := 2) (fin := 1) (wp := 251) (x := 1) (by decide +kernel) (by decide +kernel) (by decide +kernel) (by decide +kernel) (by decide +kernel) ?_
  refine fs_iloadn (j := 1) (by decide +kernel) rfl ?_
  refine fs_aloadn (j := 0) (by decide +kernel) rfl ?_
  refine fe_getR (idx := 41) (t := 1) (f := 2) (fk := 2) (fin := 1) (wp := 251) (x := 1) (by decide +kernel) (by decide +kernel) (by decide +kernel) (by decide +kernel) (by decide +kernel) ?_
  refine fs_aloadn (j := 0) (by decide +kernel) rfl ?_
  refine fe_getR (idx := 41) (t := 1) (f := 2) (fk := 2) (fin := 1) (wp := 251) (x := 1) (by decide +kernel) (by decide +kernel) (by decide +kernel) (by decide +kernel) (by decide +kernel) ?_
  refine fe_getR (idx := 101) (t := 6) (f := 12) (fk := 2) (fin := 1) (wp := 189) (x := 17) (by decide +kernel) (by decide +kernel) (by decide +kernel) (by decide +kernel) (by decide +kernel) ?_
  refine fe_getI (idx := 48) (t := 2) (f := 0) (fk := 0) (fin := 0) (wp := 124) (by decide +kernel) (by decide +kernel) (by decide +kernel) (by decide +kernel) ?_
  refine fs_iload (j := 4) (by decide +kernel) rfl ?_
  refine fs_iadd (by decide +kernel) ?_
  exact fe_callV (t := 6) (idx := 52) (n := 1) (wp := 598) (q := (599, 600)) (as := [.int ((S.1 17 0) + x4)]) (rs := [.int x1, .ref 1, .ref 56]) (by decide +kernel) (by decide +kernel) (by decide +kernel) (by decide +kernel) rfl (Nat.le_of_ble_eq_true rfl) rfl hc nx
theorem b_Cook_openedAlone_40 {d : Nat} {x1 : Int32} {x2 : Int32} {x3 : Int32} {x4 : Int32} {o5 : Option Value} {sx2 : Int32} {sx3 : Int32} {S1 : fm_S} {S : fm_S} {r : Option Value × am_W} (hc : am_Sp d k_Air_fill [.ref 56, .ref 1, .int sx2, .int sx3] (fm_mk S) (none) (fm_mk S1)) (nx : am_Ev (d + 1) k_Cook_openedAlone 43 [some (.ref 54), some (.int x1), some (.int x2), some (.int x3), some (.int x4), o5] [] (fm_mk S1) r) : am_Ev (d + 1) k_Cook_openedAlone 40 [some (.ref 54), some (.int x1), some (.int x2), some (.int x3), some (.int x4), o5] [.int sx3, .int sx2, .ref 1, .ref 56] (fm_mk S) r := by
  exact fe_callV (t := 0) (idx := 58) (n := 3) (wp := 605) (q := (606, 607)) (as := [.ref 1, .int sx2, .int sx3]) (rs := []) (by decide +kernel) (by decide +kernel) (by decide +kernel) (by decide +kernel) rfl (Nat.le_of_ble_eq_true rfl) rfl hc nx
theorem b_Cook_openedAlone_43 {d : Nat} {x1 : Int32} {x2 : Int32} {x3 : Int32} {x4 : Int32} {o5 : Option Value} {S : fm_S} {r : Option Value × am_W} (nx : am_Ev d k_Cook_openedAlone 47 [some (.ref 54), some (.int x1), some (.int x2), some (.int x3), some (.int x4), some (.int x4)] [] (fm_mk S) r) : am_Ev d k_Cook_openedAlone 43 [some (.ref 54), some (.int x1), some (.int x2), some (.int x3), some (.int x4), o5] [] (fm_mk S) r := by
  refine fs_iload (j := 4) (by decide +kernel) rfl ?_
  refine fs_istore (j := 5) (L' := [some (.ref 54), some (.int x1), some (.int x2), some (.int x3), some (.int x4), some (.int x4)]) (by decide +kernel) (Nat.le_of_ble_eq_true rfl) rfl ?_
  exact nx
theorem b_Cook_openedAlone_47 {d : Nat} {x1 : Int32} {x2 : Int32} {x3 : Int32} {x4 : Int32} {x5 : Int32} {S : fm_S} {r : Option Value × am_W} (kt : x2 ≤ x5 → am_Ev d k_Cook_openedAlone 80 [some (.ref 54), some (.int x1), some (.int x2), some (.int x3), some (.int x4), some (.int x5)] [] (fm_mk S) r) (kf : ¬ x2 ≤ x5 → am_Ev d k_Cook_openedAlone 53 [some (.ref 54), some (.int x1), some (.int x2), some (.int x3), some (.int x4), some (.int x5)] [] (fm_mk S) r) : am_Ev d k_Cook_openedAlone 47 [some (.ref 54), some (.int x1), some (.int x2), some (.int x3), some (.int x4), some (.int x5)] [] (fm_mk S) r := by
  refine fs_iload (j := 5) (by decide +kernel) rfl ?_
  refine fs_iloadn (j := 2) (by decide +kernel) rfl ?_
  exact fs_icge (off := 30) (tgt := 80) (by decide +kernel) (by decide) kt kf
theorem b_Cook_openedAlone_53 {d : Nat} {x1 : Int32} {x2 : Int32} {x3 : Int32} {x4 : Int32} {x5 : Int32} {v : Int32} {S1 : fm_S} {S : fm_S} {r : Option Value × am_W} (hc : am_Sp d k_Cook_openedAloneOn [.ref 54, .int x1, .int ((S.1 17 0) + x5)] (fm_mk S) (some (.int v)) (fm_mk S1)) (nx : am_Ev (d + 1) k_Cook_openedAlone 72 [some (.ref 54), some (.int x1), some (.int x2), some (.int x3), some (.int x4), some (.int x5)] [.int v, .int x3] (fm_mk S1) r) : am_Ev (d + 1) k_Cook_openedAlone 53 [some (.ref 54), some (.int x1), some (.int x2), some (.int x3), some (.int x4), some (.int x5)] [] (fm_mk S) r := by
  refine fs_iloadn (j := 3) (by decide +kernel) rfl ?_
  refine fs_aloadn (j := 0) (by decide +kernel) rfl ?_
  refine fs_iloadn (j := 1) (by decide +kernel) rfl ?_
  refine fs_aloadn (j := 0) (by decide +kernel) rfl ?_
  refine fe_getR (idx := 41) (t := 1) (f := 2) (fk := 2) (fin := 1) (wp := 251) (x := 1) (by decide +kernel) (by decide +kernel) (by decide +kernel) (by decide +kernel) (by decide +kernel) ?_
  refine fe_getR (idx := 101) (t := 6) (f := 12) (fk := 2) (fin := 1) (wp := 189) (x := 17) (by decide +kernel) (by decide +kernel) (by decide +kernel) (by decide +kernel) (by decide +kernel) ?_
  refine fe_getI (idx := 48) (t := 2) (f := 0) (fk := 0) (fin := 0) (wp := 124) (by decide +kernel) (by decide +kernel) (by decide +kernel) (by decide +kernel) ?_
  refine fs_iload (j := 5) (by decide +kernel) rfl ?_
  refine fs_iadd (by decide +kernel) ?_
  exact fe_callV (t := 1) (idx := 146) (n := 2) (wp := 737) (q := (739, 26)) (as := [.int x1, .int ((S.1 17 0) + x5)]) (rs := [.int x3]) (by decide +kernel) (by decide +kernel) (by decide +kernel) (by decide +kernel) rfl (Nat.le_of_ble_eq_true rfl) rfl hc nx
theorem b_Cook_openedAlone_72 {d : Nat} {x1 : Int32} {x2 : Int32} {x3 : Int32} {x4 : Int32} {x5 : Int32} {sx0 : Int32} {sx1 : Int32} {S : fm_S} {r : Option Value × am_W} (nx : am_Ev d k_Cook_openedAlone 47 [some (.ref 54), some (.int x1), some (.int x2), some (.int (sx0 ||| sx1)), some (.int x4), some (.int (x5 + 4))] [] (fm_mk S) r) : am_Ev d k_Cook_openedAlone 72 [some (.ref 54), some (.int x1), some (.int x2), some (.int x3), some (.int x4), some (.int x5)] [.int sx1, .int sx0] (fm_mk S) r := by
  refine fs_ior (by decide +kernel) ?_
  refine fs_istoren (j := 3) (L' := [some (.ref 54), some (.int x1), some (.int x2), some (.int (sx0 ||| sx1)), some (.int x4), some (.int x5)]) (by decide +kernel) (Nat.le_of_ble_eq_true rfl) rfl ?_
  refine fs_iinc (j := 5) (n := 4) (v := 4) (L' := [some (.ref 54), some (.int x1), some (.int x2), some (.int (sx0 ||| sx1)), some (.int x4), some (.int (x5 + 4))]) (by decide +kernel) rfl (Nat.le_of_ble_eq_true rfl) (by decide) rfl ?_
  refine fs_goto (off := -30) (tgt := 47) (by decide +kernel) (by decide) ?_
  exact nx
theorem b_Cook_openedAlone_80 {d : Nat} {x1 : Int32} {x2 : Int32} {x3 : Int32} {x4 : Int32} {x5 : Int32} {S : fm_S} {r : Option Value × am_W} (nx : am_Ev d k_Cook_openedAlone 5 [some (.ref 54), some (.int x1), some (.int x2), some (.int x3), some (.int (x4 + 1)), some (.int x5)] [] (fm_mk S) r) : am_Ev d k_Cook_openedAlone 80 [some (.ref 54), some (.int x1), some (.int x2), some (.int x3), some (.int x4), some (.int x5)] [] (fm_mk S) r := by
  refine fs_iinc (j := 4) (n := 1) (v := 1) (L' := [some (.ref 54), some (.int x1), some (.int x2), some (.int x3), some (.int (x4 + 1)), some (.int x5)]) (by decide +kernel) rfl (Nat.le_of_ble_eq_true rfl) (by decide) rfl ?_
  refine fs_goto (off := -78) (tgt := 5) (by decide +kernel) (by decide) ?_
  exact nx
theorem b_Cook_openedAlone_86 {d : Nat} {x1 : Int32} {x2 : Int32} {x3 : Int32} {x4 : Int32} {o5 : Option Value} {S : fm_S}  : am_Ev d k_Cook_openedAlone 86 [some (.ref 54), some (.int x1), some (.int x2), some (.int x3), some (.int x4), o5] [] (fm_mk S) (some (.int x3), fm_mk S) := by
  refine fs_iloadn (j := 3) (by decide +kernel) rfl ?_
  exact fe_retI (by decide +kernel) (by decide +kernel)
-- KitchenSiege$Cook.openedAloneOn(II)I
theorem b_Cook_openedAloneOn_0 {d : Nat} {x1 : Int32} {x2 : Int32} {o3 : Option Value} {o4 : Option Value} {S : fm_S} {r : Option Value × am_W} (nx : am_Ev d k_Cook_openedAloneOn 5 [some (.ref 54), some (.int x1), some (.int x2), some (.int 0), some (.int 0)] [] (fm_mk S) r) : am_Ev d k_Cook_openedAloneOn 0 [some (.ref 54), some (.int x1), some (.int x2), o3, o4] [] (fm_mk S) r := by
  refine fs_iconst (n := 0) (v := 0) (by decide +kernel) (by decide) ?_
  refine fs_istoren (j := 3) (L' := [some (.ref 54), some (.int x1), some (.int x2), some (.int 0), o4]) (by decide +kernel) (Nat.le_of_ble_eq_true rfl) rfl ?_
  refine fs_iconst (n := 0) (v := 0) (by decide +kernel) (by decide) ?_
  refine fs_istore (j := 4) (L' := [some (.ref 54), some (.int x1), some (.int x2), some (.int 0), some (.int 0)]) (by decide +kernel) (Nat.le_of_ble_eq_true rfl) rfl ?_
  exact nx
theorem b_Cook_openedAloneOn_5 {d : Nat} {x1 : Int32} {x2 : Int32} {x3 : Int32} {x4 : Int32} {S : fm_S} {r : Option Value × am_W} (kt : (S.1 1 0) ≤ x4 → am_Ev d k_Cook_openedAloneOn 57 [some (.ref 54), some (.int x1), some (.int x2), some (.int x3), some (.int x4)] [] (fm_mk S) r) (kf : ¬ (S.1 1 0) ≤ x4 → am_Ev d k_Cook_openedAloneOn 17 [some (.ref 54), some (.int x1), some (.int x2), some (.int x3), some (.int x4)] [] (fm_mk S) r) : am_Ev d k_Cook_openedAloneOn 5 [some (.ref 54), some (.int x1), some (.int x2), some (.int x3), some (.int x4)] [] (fm_mk S) r := by
  refine fs_iload (j := 4) (by decide +kernel) rfl ?_
  refine fs_aloadn (j := 0) (by decide +kernel) rfl ?_
  refine fe_getR (idx := 41) (t := 1) (f := 2) (fk := 2) (fin := 1) (wp := 251) (x := 1) (by decide +kernel) (by decide +kernel) (by decide +kernel) (by decide +kernel) (by decide +kernel) ?_
  refine fe_getI (idx := 69) (t := 6) (f := 0) (fk := 0) (fin := 0) (wp := 158) (by decide +kernel) (by decide +kernel) (by decide +kernel) (by decide +kernel) ?_
  exact fs_icge (off := 43) (tgt := 57) (by decide +kernel) (by decide) kt kf
theorem b_Cook_openedAloneOn_17 {d : Nat} {x1 : Int32} {x2 : Int32} {x3 : Int32} {x4 : Int32} {v : Int32} {S1 : fm_S} {S : fm_S} {r : Option Value × am_W} (hi0 : vp_in x4 8) (hc : am_Sp d k_Town_pull [.ref 1, .int x4, .int x1, .int (S.1 57 x4.toNatClampNeg), .int x2, .int 0] (fm_mk S) (some (.int v)) (fm_mk S1)) (nx : am_Ev (d + 1) k_Cook_openedAloneOn 39 [some (.ref 54), some (.int x1), some (.int x2), some (.int x3), some (.int x4)] [.int v] (fm_mk S1) r) : am_Ev (d + 1) k_Cook_openedAloneOn 17 [some (.ref 54), some (.int x1), some (.int x2), some (.int x3), some (.int x4)] [] (fm_mk S) r := by
  refine fs_aloadn (j := 0) (by decide +kernel) rfl ?_
  refine fe_getR (idx := 41) (t := 1) (f := 2) (fk := 2) (fin := 1) (wp := 251) (x := 1) (by decide +kernel) (by decide +kernel) (by decide +kernel) (by decide +kernel) (by decide +kernel) ?_
  refine fs_iload (j := 4) (by decide +kernel) rfl ?_
  refine fs_iloadn (j := 1) (by decide +kernel) rfl ?_
  refine fs_aloadn (j := 0) (by decide +kernel) rfl ?_
  refine fe_getR (idx := 18) (t := 1) (f := 3) (fk := 2) (fin := 1) (wp := 252) (x := 56) (by decide +kernel) (by decide +kernel) (by decide +kernel) (by decide +kernel) (by decide +kernel) ?_
  refine fe_getR (idx := 79) (t := 0) (f := 0) (fk := 2) (fin := 1) (wp := 238) (x := 57) (by decide +kernel) (by decide +kernel) (by decide +kernel) (by decide +kernel) (by decide +kernel) ?_
  refine fs_iload (j := 4) (by decide +kernel) rfl ?_
  refine fx_iald (n := x4.toNatClampNeg) (len := 8) (by decide +kernel) (by decide +kernel) (by decide +kernel) hi0 rfl ?_
  refine fs_iloadn (j := 2) (by decide +kernel) rfl ?_
  refine fs_iconst (n := 0) (v := 0) (by decide +kernel) (by decide) ?_
  exact fe_callV (t := 6) (idx := 97) (n := 5) (wp := 642) (q := (643, 644)) (as := [.int x4, .int x1, .int (S.1 57 x4.toNatClampNeg), .int x2, .int 0]) (rs := []) (by decide +kernel) (by decide +kernel) (by decide +kernel) (by decide +kernel) rfl (Nat.le_of_ble_eq_true rfl) rfl hc nx
theorem b_Cook_openedAloneOn_39 {d : Nat} {x1 : Int32} {x2 : Int32} {x3 : Int32} {x4 : Int32} {sx0 : Int32} {S : fm_S} {r : Option Value × am_W} (kt : sx0 < 10 → am_Ev d k_Cook_openedAloneOn 51 [some (.ref 54), some (.int x1), some (.int x2), some (.int x3), some (.int x4)] [] (fm_mk S) r) (kf : ¬ sx0 < 10 → am_Ev d k_Cook_openedAloneOn 44 [some (.ref 54), some (.int x1), some (.int x2), some (.int x3), some (.int x4)] [] (fm_mk S) r) : am_Ev d k_Cook_openedAloneOn 39 [some (.ref 54), some (.int x1), some (.int x2), some (.int x3), some (.int x4)] [.int sx0] (fm_mk S) r := by
  refine fs_bipush (n := 10) (v := 10) (by decide +kernel) (by decide) ?_
  exact fs_iclt (off := 10) (tgt := 51) (by decide +kernel) (by decide) kt kf
theorem b_Cook_openedAloneOn_44 {d : Nat} {x1 : Int32} {x2 : Int32} {x3 : Int32} {x4 : Int32} {S : fm_S} {r : Option Value × am_W} (nx : am_Ev d k_Cook_openedAloneOn 51 [some (.ref 54), some (.int x1), some (.int x2), some (.int (x3 ||| (1 <<< (x4 &&& 31)))), some (.int x4)] [] (fm_mk S) r) : am_Ev d k_Cook_openedAloneOn 44 [some (.ref 54), some (.int x1), some (.int x2), some (.int x3), some (.int x4)] [] (fm_mk S) r := by
  refine fs_iloadn (j := 3) (by decide +kernel) rfl ?_
  refine fs_iconst (n := 1) (v := 1) (by decide +kernel) (by decide) ?_
  refine fs_iload (j := 4) (by decide +kernel) rfl ?_
  refine fs_ishl (by decide +kernel) ?_
  refine fs_ior (by decide +kernel) ?_
  refine fs_istoren (j := 3) (L' := [some (.ref 54), some (.int x1), some (.int x2), some (.int (x3 ||| (1 <<< (x4 &&& 31)))), some (.int x4)]) (by decide +kernel) (Nat.le_of_ble_eq_true rfl) rfl ?_
  exact nx
theorem b_Cook_openedAloneOn_51 {d : Nat} {x1 : Int32} {x2 : Int32} {x3 : Int32} {x4 : Int32} {S : fm_S} {r : Option Value × am_W} (nx : am_Ev d k_Cook_openedAloneOn 5 [some (.ref 54), some (.int x1), some (.int x2), some (.int x3), some (.int (x4 + 1))] [] (fm_mk S) r) : am_Ev d k_Cook_openedAloneOn 51 [some (.ref 54), some (.int x1), some (.int x2), some (.int x3), some (.int x4)] [] (fm_mk S) r := by
  refine fs_iinc (j := 4) (n := 1) (v := 1) (L' := [some (.ref 54), some (.int x1), some (.int x2), some (.int x3), some (.int (x4 + 1))]) (by decide +kernel) rfl (Nat.le_of_ble_eq_true rfl) (by decide) rfl ?_
  refine fs_goto (off := -49) (tgt := 5) (by decide +kernel) (by decide) ?_
  exact nx
theorem b_Cook_openedAloneOn_57 {d : Nat} {x1 : Int32} {x2 : Int32} {x3 : Int32} {x4 : Int32} {S : fm_S}  : am_Ev d k_Cook_openedAloneOn 57 [some (.ref 54), some (.int x1), some (.int x2), some (.int x3), some (.int x4)] [] (fm_mk S) (some (.int x3), fm_mk S) := by
  refine fs_iloadn (j := 3) (by decide +kernel) rfl ?_
  exact fe_retI (by decide +kernel) (by decide +kernel)
-- KitchenSiege$Cook.leastSet()I
theorem b_Cook_leastSet_0 {d : Nat} {o1 : Option Value} {o2 : Option Value} {o3 : Option Value} {o4 : Option Value} {o5 : Option Value} {o6 : Option Value} {v : Int32} {S1 : fm_S} {S : fm_S} {r : Option Value × am_W} (hc : am_Sp d k_Town_shutStreets [.ref 1] (fm_mk S) (some (.int v)) (fm_mk S1)) (nx : am_Ev (d + 1) k_Cook_leastSet 7 [some (.ref 54), o1, o2, o3, o4, o5, o6] [.int v] (fm_mk S1) r) : am_Ev (d + 1) k_Cook_leastSet 0 [some (.ref 54), o1, o2, o3, o4, o5, o6] [] (fm_mk S) r := by
  refine fs_aloadn (j := 0) (by decide +kernel) rfl ?_
  refine fe_getR (idx := 41) (t := 1) (f := 2) (fk := 2) (fin := 1) (wp := 251) (x := 1) (by decide +kernel) (by decide +kernel) (by decide +kernel) (by decide +kernel) (by decide +kernel) ?_
  exact fe_callV (t := 6) (idx := 139) (n := 0) (wp := 728) (q := (729, 730)) (as := []) (rs := []) (by decide +kernel) (by decide +kernel) (by decide +kernel) (by decide +kernel) rfl (Nat.le_of_ble_eq_true rfl) rfl hc nx
theorem b_Cook_leastSet_7 {d : Nat} {o1 : Option Value} {o2 : Option Value} {o3 : Option Value} {o4 : Option Value} {o5 : Option Value} {o6 : Option Value} {sx0 : Int32} {S : fm_S} {r : Option Value × am_W} (nx : am_Ev d k_Cook_leastSet 10 [some (.ref 54), some (.int sx0), some (.int 0), o3, o4, o5, o6] [] (fm_mk S) r) : am_Ev d k_Cook_leastSet 7 [some (.ref 54), o1, o2, o3, o4, o5, o6] [.int sx0] (fm_mk S) r := by
  refine fs_istoren (j := 1) (L' := [some (.ref 54), some (.int sx0), o2, o3, o4, o5, o6]) (by decide +kernel) (Nat.le_of_ble_eq_true rfl) rfl ?_
  refine fs_iconst (n := 0) (v := 0) (by decide +kernel) (by decide) ?_
  refine fs_istoren (j := 2) (L' := [some (.ref 54), some (.int sx0), some (.int 0), o3, o4, o5, o6]) (by decide +kernel) (Nat.le_of_ble_eq_true rfl) rfl ?_
  exact nx
theorem b_Cook_leastSet_10 {d : Nat} {x1 : Int32} {x2 : Int32} {o3 : Option Value} {o4 : Option Value} {o5 : Option Value} {o6 : Option Value} {S : fm_S} {r : Option Value × am_W} (kt : (S.1 1 7) ≤ x2 → am_Ev d k_Cook_leastSet 39 [some (.ref 54), some (.int x1), some (.int x2), o3, o4, o5, o6] [] (fm_mk S) r) (kf : ¬ (S.1 1 7) ≤ x2 → am_Ev d k_Cook_leastSet 21 [some (.ref 54), some (.int x1), some (.int x2), o3, o4, o5, o6] [] (fm_mk S) r) : am_Ev d k_Cook_leastSet 10 [some (.ref 54), some (.int x1), some (.int x2), o3, o4, o5, o6] [] (fm_mk S) r := by
  refine fs_iloadn (j := 2) (by decide +kernel) rfl ?_
  refine fs_aloadn (j := 0) (by decide +kernel) rfl ?_
  refine fe_getR (idx := 41) (t := 1) (f := 2) (fk := 2) (fin := 1) (wp := 251) (x := 1) (by decide +kernel) (by decide +kernel) (by decide +kernel) (by decide +kernel) (by decide +kernel) ?_
  refine fe_getI (idx := 111) (t := 6) (f := 7) (fk := 0) (fin := 0) (wp := 178) (by decide +kernel) (by decide +kernel) (by decide +kernel) (by decide +kernel) ?_
  exact fs_icge (off := 21) (tgt := 39) (by decide +kernel) (by decide) kt kf
theorem b_Cook_leastSet_21 {d : Nat} {x1 : Int32} {x2 : Int32} {o3 : Option Value} {o4 : Option Value} {o5 : Option Value} {o6 : Option Value} {v : Int32} {S1 : fm_S} {S : fm_S} {r : Option Value × am_W} (hc : am_Sp d k_Cook_openedAlone [.ref 54, .int x2, .int 4] (fm_mk S) (some (.int v)) (fm_mk S1)) (nx : am_Ev (d + 1) k_Cook_leastSet 32 [some (.ref 54), some (.int x1), some (.int x2), o3, o4, o5, o6] [.int v, .int x2, .ref 65] (fm_mk S1) r) : am_Ev (d + 1) k_Cook_leastSet 21 [some (.ref 54), some (.int x1), some (.int x2), o3, o4, o5, o6] [] (fm_mk S) r := by
  refine fs_aloadn (j := 0) (by decide +kernel) rfl ?_
  refine fe_getR (idx := 35) (t := 1) (f := 7) (fk := 2) (fin := 1) (wp := 256) (x := 65) (by decide +kernel) (by decide +kernel) (by decide +kernel) (by decide +kernel) (by decide +kernel) ?_
  refine fs_iloadn (j := 2) (by decide +kernel) rfl ?_
  refine fs_aloadn (j := 0) (by decide +kernel) rfl ?_
  refine fs_iloadn (j := 2) (by decide +kernel) rfl ?_
  refine fs_iconst (n := 4) (v := 4) (by decide +kernel) (by decide) ?_
  exact fe_callV (t := 1) (idx := 143) (n := 2) (wp := 733) (q := (735, 25)) (as := [.int x2, .int 4]) (rs := [.int x2, .ref 65]) (by decide +kernel) (by decide +kernel) (by decide +kernel) (by decide +kernel) rfl (Nat.le_of_ble_eq_true rfl) rfl hc nx
theorem b_Cook_leastSet_32 {d : Nat} {x1 : Int32} {x2 : Int32} {o3 : Option Value} {o4 : Option Value} {o5 : Option Value} {o6 : Option Value} {sx1 : Int32} {sx2 : Int32} {S : fm_S} {r : Option Value × am_W} (hi0 : vp_in sx1 6) (nx : am_Ev d k_Cook_leastSet 10 [some (.ref 54), some (.int x1), some (.int (x2 + 1)), o3, o4, o5, o6] [] (fm_mk (fm_wI S 65 sx1.toNatClampNeg sx2)) r) : am_Ev d k_Cook_leastSet 32 [some (.ref 54), some (.int x1), some (.int x2), o3, o4, o5, o6] [.int sx2, .int sx1, .ref 65] (fm_mk S) r := by
  refine fx_iast (n := sx1.toNatClampNeg) (len := 6) (by decide +kernel) (by decide +kernel) (by decide +kernel) hi0 rfl ?_
  refine fs_iinc (j := 2) (n := 1) (v := 1) (L' := [some (.ref 54), some (.int x1), some (.int (x2 + 1)), o3, o4, o5, o6]) (by decide +kernel) rfl (Nat.le_of_ble_eq_true rfl) (by decide) rfl ?_
  refine fs_goto (off := -26) (tgt := 10) (by decide +kernel) (by decide) ?_
  exact nx
theorem b_Cook_leastSet_39 {d : Nat} {x1 : Int32} {x2 : Int32} {o3 : Option Value} {o4 : Option Value} {o5 : Option Value} {o6 : Option Value} {S : fm_S} {r : Option Value × am_W} (nx : am_Ev d k_Cook_leastSet 46 [some (.ref 54), some (.int x1), some (.int (-1)), some (.int 0), some (.int 0), o5, o6] [] (fm_mk S) r) : am_Ev d k_Cook_leastSet 39 [some (.ref 54), some (.int x1), some (.int x2), o3, o4, o5, o6] [] (fm_mk S) r := by
  refine fs_iconst (n := -1) (v := (-1)) (by decide +kernel) (by decide) ?_
  refine fs_istoren (j := 2) (L' := [some (.ref 54), some (.int x1), some (.int (-1)), o3, o4, o5, o6]) (by decide +kernel) (Nat.le_of_ble_eq_true rfl) rfl ?_
  refine fs_iconst (n := 0) (v := 0) (by decide +kernel) (by decide) ?_
  refine fs_istoren (j := 3) (L' := [some (.ref 54), some (.int x1), some (.int (-1)), some (.int 0), o4, o5, o6]) (by decide +kernel) (Nat.le_of_ble_eq_true rfl) rfl ?_
  refine fs_iconst (n := 0) (v := 0) (by decide +kernel) (by decide) ?_
  refine fs_istore (j := 4) (L' := [some (.ref 54), some (.int x1), some (.int (-1)), some (.int 0), some (.int 0), o5, o6]) (by decide +kernel) (Nat.le_of_ble_eq_true rfl) rfl ?_
  exact nx
theorem b_Cook_leastSet_46 {d : Nat} {x1 : Int32} {x2 : Int32} {x3 : Int32} {x4 : Int32} {o5 : Option Value} {o6 : Option Value} {S : fm_S} {r : Option Value × am_W} (kt : (1 <<< ((S.1 1 7) &&& 31)) ≤ x4 → am_Ev d k_Cook_leastSet 137 [some (.ref 54), some (.int x1), some (.int x2), some (.int x3), some (.int x4), o5, o6] [] (fm_mk S) r) (kf : ¬ (1 <<< ((S.1 1 7) &&& 31)) ≤ x4 → am_Ev d k_Cook_leastSet 60 [some (.ref 54), some (.int x1), some (.int x2), some (.int x3), some (.int x4), o5, o6] [] (fm_mk S) r) : am_Ev d k_Cook_leastSet 46 [some (.ref 54), some (.int x1), some (.int x2), some (.int x3), some (.int x4), o5, o6] [] (fm_mk S) r := by
  refine fs_iload (j := 4) (by decide +kernel) rfl ?_
  refine fs_iconst (n := 1) (v := 1) (by decide +kernel) (by decide) ?_
  refine fs_aloadn (j := 0) (by decide +kernel) rfl ?_
  refine fe_getR (idx := 41) (t := 1) (f := 2) (fk := 2) (fin := 1) (wp := 251) (x := 1) (by decide +kernel) (by decide +kernel) (by decide +kernel) (by decide +kernel) (by decide +kernel) ?_
  refine fe_getI (idx := 111) (t := 6) (f := 7) (fk := 0) (fin := 0) (wp := 178) (by decide +kernel) (by decide +kernel) (by decide +kernel) (by decide +kernel) ?_
  refine fs_ishl (by decide +kernel) ?_
  exact fs_icge (off := 80) (tgt := 137) (by decide +kernel) (by decide) kt kf
theorem b_Cook_leastSet_60 {d : Nat} {x1 : Int32} {x2 : Int32} {x3 : Int32} {x4 : Int32} {o5 : Option Value} {o6 : Option Value} {v : Int32} {S1 : fm_S} {S : fm_S} {r : Option Value × am_W} (hc : am_Sp d k_Cook_openedBy [.ref 54, .int x4] (fm_mk S) (some (.int v)) (fm_mk S1)) (nx : am_Ev (d + 1) k_Cook_leastSet 67 [some (.ref 54), some (.int x1), some (.int x2), some (.int x3), some (.int x4), o5, o6] [.int v, .int x1] (fm_mk S1) r) : am_Ev (d + 1) k_Cook_leastSet 60 [some (.ref 54), some (.int x1), some (.int x2), some (.int x3), some (.int x4), o5, o6] [] (fm_mk S) r := by
  refine fs_iloadn (j := 1) (by decide +kernel) rfl ?_
  refine fs_aloadn (j := 0) (by decide +kernel) rfl ?_
  refine fs_iload (j := 4) (by decide +kernel) rfl ?_
  exact fe_callV (t := 1) (idx := 149) (n := 1) (wp := 749) (q := (751, 27)) (as := [.int x4]) (rs := [.int x1]) (by decide +kernel) (by decide +kernel) (by decide +kernel) (by decide +kernel) rfl (Nat.le_of_ble_eq_true rfl) rfl hc nx
theorem b_Cook_leastSet_67 {d : Nat} {x1 : Int32} {x2 : Int32} {x3 : Int32} {x4 : Int32} {o5 : Option Value} {o6 : Option Value} {sx0 : Int32} {sx1 : Int32} {S : fm_S} {r : Option Value × am_W} (kt : (sx0 &&& (sx1 ^^^ (-1))) = 0 → am_Ev d k_Cook_leastSet 76 [some (.ref 54), some (.int x1), some (.int x2), some (.int x3), some (.int x4), o5, o6] [] (fm_mk S) r) (kf : ¬ (sx0 &&& (sx1 ^^^ (-1))) = 0 → am_Ev d k_Cook_leastSet 73 [some (.ref 54), some (.int x1), some (.int x2), some (.int x3), some (.int x4), o5, o6] [] (fm_mk S) r) : am_Ev d k_Cook_leastSet 67 [some (.ref 54), some (.int x1), some (.int x2), some (.int x3), some (.int x4), o5, o6] [.int sx1, .int sx0] (fm_mk S) r := by
  refine fs_iconst (n := -1) (v := (-1)) (by decide +kernel) (by decide) ?_
  refine fs_ixor (by decide +kernel) ?_
  refine fs_iand (by decide +kernel) ?_
  exact fs_ifeq (off := 6) (tgt := 76) (by decide +kernel) (by decide) kt kf
theorem b_Cook_leastSet_73 {d : Nat} {x1 : Int32} {x2 : Int32} {x3 : Int32} {x4 : Int32} {o5 : Option Value} {o6 : Option Value} {S : fm_S} {r : Option Value × am_W} (nx : am_Ev d k_Cook_leastSet 131 [some (.ref 54), some (.int x1), some (.int x2), some (.int x3), some (.int x4), o5, o6] [] (fm_mk S) r) : am_Ev d k_Cook_leastSet 73 [some (.ref 54), some (.int x1), some (.int x2), some (.int x3), some (.int x4), o5, o6] [] (fm_mk S) r := by
  refine fs_goto (off := 58) (tgt := 131) (by decide +kernel) (by decide) ?_
  exact nx
theorem b_Cook_leastSet_76 {d : Nat} {x1 : Int32} {x2 : Int32} {x3 : Int32} {x4 : Int32} {o5 : Option Value} {o6 : Option Value} {v : Int32} {S1 : fm_S} {S : fm_S} {r : Option Value × am_W} (hc : am_Sp d k_Cook_butterOf [.ref 54, .int x4] (fm_mk S) (some (.int v)) (fm_mk S1)) (nx : am_Ev (d + 1) k_Cook_leastSet 82 [some (.ref 54), some (.int x1), some (.int x2), some (.int x3), some (.int x4), o5, o6] [.int v] (fm_mk S1) r) : am_Ev (d + 1) k_Cook_leastSet 76 [some (.ref 54), some (.int x1), some (.int x2), some (.int x3), some (.int x4), o5, o6] [] (fm_mk S) r := by
  refine fs_aloadn (j := 0) (by decide +kernel) rfl ?_
  refine fs_iload (j := 4) (by decide +kernel) rfl ?_
  exact fe_callV (t := 1) (idx := 152) (n := 1) (wp := 753) (q := (755, 28)) (as := [.int x4]) (rs := []) (by decide +kernel) (by decide +kernel) (by decide +kernel) (by decide +kernel) rfl (Nat.le_of_ble_eq_true rfl) rfl hc nx
theorem b_Cook_leastSet_82 {d : Nat} {x1 : Int32} {x2 : Int32} {x3 : Int32} {x4 : Int32} {o5 : Option Value} {o6 : Option Value} {sx0 : Int32} {v : Int32} {S1 : fm_S} {S : fm_S} {r : Option Value × am_W} (hc : am_Sp d k_Int_bitCount [.int x4] (fm_mk S) (some (.int v)) (fm_mk S1)) (nx : am_Ev (d + 1) k_Cook_leastSet 89 [some (.ref 54), some (.int x1), some (.int x2), some (.int x3), some (.int x4), some (.int sx0), o6] [.int v] (fm_mk S1) r) : am_Ev (d + 1) k_Cook_leastSet 82 [some (.ref 54), some (.int x1), some (.int x2), some (.int x3), some (.int x4), o5, o6] [.int sx0] (fm_mk S) r := by
  refine fs_istore (j := 5) (L' := [some (.ref 54), some (.int x1), some (.int x2), some (.int x3), some (.int x4), some (.int sx0), o6]) (by decide +kernel) (Nat.le_of_ble_eq_true rfl) rfl ?_
  refine fs_iload (j := 4) (by decide +kernel) rfl ?_
  exact fe_callS (idx := 155) (kd := 0) (n := 1) (wp := 757) (q := (758, 0)) (as := [.int x4]) (rs := []) (by decide +kernel) (by decide +kernel) (by decide +kernel) (by decide) rfl (Nat.le_of_ble_eq_true rfl) rfl hc nx
theorem b_Cook_leastSet_89 {d : Nat} {x1 : Int32} {x2 : Int32} {x3 : Int32} {x4 : Int32} {x5 : Int32} {o6 : Option Value} {sx0 : Int32} {v : Int32} {S1 : fm_S} {S : fm_S} {r : Option Value × am_W} (hc : am_Sp d k_Int_bitCount [.int x2] (fm_mk S) (some (.int v)) (fm_mk S1)) (nx : am_Ev (d + 1) k_Cook_leastSet 93 [some (.ref 54), some (.int x1), some (.int x2), some (.int x3), some (.int x4), some (.int x5), o6] [.int v, .int sx0] (fm_mk S1) r) : am_Ev (d + 1) k_Cook_leastSet 89 [some (.ref 54), some (.int x1), some (.int x2), some (.int x3), some (.int x4), some (.int x5), o6] [.int sx0] (fm_mk S) r := by
  refine fs_iloadn (j := 2) (by decide +kernel) rfl ?_
  exact fe_callS (idx := 155) (kd := 0) (n := 1) (wp := 757) (q := (758, 0)) (as := [.int x2]) (rs := [.int sx0]) (by decide +kernel) (by decide +kernel) (by decide +kernel) (by decide) rfl (Nat.le_of_ble_eq_true rfl) rfl hc nx
theorem b_Cook_leastSet_93 {d : Nat} {x1 : Int32} {x2 : Int32} {x3 : Int32} {x4 : Int32} {x5 : Int32} {o6 : Option Value} {sx0 : Int32} {sx1 : Int32} {S : fm_S} {r : Option Value × am_W} (kt : sx1 ≤ sx0 → am_Ev d k_Cook_leastSet 100 [some (.ref 54), some (.int x1), some (.int x2), some (.int x3), some (.int x4), some (.int x5), o6] [] (fm_mk S) r) (kf : ¬ sx1 ≤ sx0 → am_Ev d k_Cook_leastSet 96 [some (.ref 54), some (.int x1), some (.int x2), some (.int x3), some (.int x4), some (.int x5), o6] [] (fm_mk S) r) : am_Ev d k_Cook_leastSet 93 [some (.ref 54), some (.int x1), some (.int x2), some (.int x3), some (.int x4), some (.int x5), o6] [.int sx1, .int sx0] (fm_mk S) r := by
  exact fs_icge (off := 7) (tgt := 100) (by decide +kernel) (by decide) kt kf
theorem b_Cook_leastSet_96 {d : Nat} {x1 : Int32} {x2 : Int32} {x3 : Int32} {x4 : Int32} {x5 : Int32} {o6 : Option Value} {S : fm_S} {r : Option Value × am_W} (nx : am_Ev d k_Cook_leastSet 101 [some (.ref 54), some (.int x1), some (.int x2), some (.int x3), some (.int x4), some (.int x5), o6] [.int 1] (fm_mk S) r) : am_Ev d k_Cook_leastSet 96 [some (.ref 54), some (.int x1), some (.int x2), some (.int x3), some (.int x4), some (.int x5), o6] [] (fm_mk S) r := by
  refine fs_iconst (n := 1) (v := 1) (by decide +kernel) (by decide) ?_
  refine fs_goto (off := 4) (tgt := 101) (by decide +kernel) (by decide) ?_
  exact nx
theorem b_Cook_leastSet_100 {d : Nat} {x1 : Int32} {x2 : Int32} {x3 : Int32} {x4 : Int32} {x5 : Int32} {o6 : Option Value} {S : fm_S} {r : Option Value × am_W} (nx : am_Ev d k_Cook_leastSet 101 [some (.ref 54), some (.int x1), some (.int x2), some (.int x3), some (.int x4), some (.int x5), o6] [.int 0] (fm_mk S) r) : am_Ev d k_Cook_leastSet 100 [some (.ref 54), some (.int x1), some (.int x2), some (.int x3), some (.int x4), some (.int x5), o6] [] (fm_mk S) r := by
  refine fs_iconst (n := 0) (v := 0) (by decide +kernel) (by decide) ?_
  exact nx
theorem b_Cook_leastSet_101 {d : Nat} {x1 : Int32} {x2 : Int32} {x3 : Int32} {x4 : Int32} {x5 : Int32} {o6 : Option Value} {sx0 : Int32} {S : fm_S} {r : Option Value × am_W} (kt : x2 = (-1) → am_Ev d k_Cook_leastSet 125 [some (.ref 54), some (.int x1), some (.int x2), some (.int x3), some (.int x4), some (.int x5), some (.int sx0)] [] (fm_mk S) r) (kf : ¬ x2 = (-1) → am_Ev d k_Cook_leastSet 108 [some (.ref 54), some (.int x1), some (.int x2), some (.int x3), some (.int x4), some (.int x5), some (.int sx0)] [] (fm_mk S) r) : am_Ev d k_Cook_leastSet 101 [some (.ref 54), some (.int x1), some (.int x2), some (.int x3), some (.int x4), some (.int x5), o6] [.int sx0] (fm_mk S) r := by
  refine fs_istore (j := 6) (L' := [some (.ref 54), some (.int x1), some (.int x2), some (.int x3), some (.int x4), some (.int x5), some (.int sx0)]) (by decide +kernel) (Nat.le_of_ble_eq_true rfl) rfl ?_
  refine fs_iloadn (j := 2) (by decide +kernel) rfl ?_
  refine fs_iconst (n := -1) (v := (-1)) (by decide +kernel) (by decide) ?_
  exact fs_iceq (off := 20) (tgt := 125) (by decide +kernel) (by decide) kt kf
theorem b_Cook_leastSet_108 {d : Nat} {x1 : Int32} {x2 : Int32} {x3 : Int32} {x4 : Int32} {x5 : Int32} {x6 : Int32} {S : fm_S} {r : Option Value × am_W} (kt : x5 < x3 → am_Ev d k_Cook_leastSet 125 [some (.ref 54), some (.int x1), some (.int x2), some (.int x3), some (.int x4), some (.int x5), some (.int x6)] [] (fm_mk S) r) (kf : ¬ x5 < x3 → am_Ev d k_Cook_leastSet 114 [some (.ref 54), some (.int x1), some (.int x2), some (.int x3), some (.int x4), some (.int x5), some (.int x6)] [] (fm_mk S) r) : am_Ev d k_Cook_leastSet 108 [some (.ref 54), some (.int x1), some (.int x2), some (.int x3), some (.int x4), some (.int x5), some (.int x6)] [] (fm_mk S) r := by
  refine fs_iload (j := 5) (by decide +kernel) rfl ?_
  refine fs_iloadn (j := 3) (by decide +kernel) rfl ?_
  exact fs_iclt (off := 14) (tgt := 125) (by decide +kernel) (by decide) kt kf
theorem b_Cook_leastSet_114 {d : Nat} {x1 : Int32} {x2 : Int32} {x3 : Int32} {x4 : Int32} {x5 : Int32} {x6 : Int32} {S : fm_S} {r : Option Value × am_W} (kt : ¬ x5 = x3 → am_Ev d k_Cook_leastSet 131 [some (.ref 54), some (.int x1), some (.int x2), some (.int x3), some (.int x4), some (.int x5), some (.int x6)] [] (fm_mk S) r) (kf : x5 = x3 → am_Ev d k_Cook_leastSet 120 [some (.ref 54), some (.int x1), some (.int x2), some (.int x3), some (.int x4), some (.int x5), some (.int x6)] [] (fm_mk S) r) : am_Ev d k_Cook_leastSet 114 [some (.ref 54), some (.int x1), some (.int x2), some (.int x3), some (.int x4), some (.int x5), some (.int x6)] [] (fm_mk S) r := by
  refine fs_iload (j := 5) (by decide +kernel) rfl ?_
  refine fs_iloadn (j := 3) (by decide +kernel) rfl ?_
  exact fs_icne (off := 14) (tgt := 131) (by decide +kernel) (by decide) kt kf
theorem b_Cook_leastSet_120 {d : Nat} {x1 : Int32} {x2 : Int32} {x3 : Int32} {x4 : Int32} {x5 : Int32} {x6 : Int32} {S : fm_S} {r : Option Value × am_W} (kt : x6 = 0 → am_Ev d k_Cook_leastSet 131 [some (.ref 54), some (.int x1), some (.int x2), some (.int x3), some (.int x4), some (.int x5), some (.int x6)] [] (fm_mk S) r) (kf : ¬ x6 = 0 → am_Ev d k_Cook_leastSet 125 [some (.ref 54), some (.int x1), some (.int x2), some (.int x3), some (.int x4), some (.int x5), some (.int x6)] [] (fm_mk S) r) : am_Ev d k_Cook_leastSet 120 [some (.ref 54), some (.int x1), some (.int x2), some (.int x3), some (.int x4), some (.int x5), some (.int x6)] [] (fm_mk S) r := by
  refine fs_iload (j := 6) (by decide +kernel) rfl ?_
  exact fs_ifeq (off := 9) (tgt := 131) (by decide +kernel) (by decide) kt kf
theorem b_Cook_leastSet_125 {d : Nat} {x1 : Int32} {x2 : Int32} {x3 : Int32} {x4 : Int32} {x5 : Int32} {x6 : Int32} {S : fm_S} {r : Option Value × am_W} (nx : am_Ev d k_Cook_leastSet 131 [some (.ref 54), some (.int x1), some (.int x4), some (.int x5), some (.int x4), some (.int x5), some (.int x6)] [] (fm_mk S) r) : am_Ev d k_Cook_leastSet 125 [some (.ref 54), some (.int x1), some (.int x2), some (.int x3), some (.int x4), some (.int x5), some (.int x6)] [] (fm_mk S) r := by
  refine fs_iload (j := 4) (by decide +kernel) rfl ?_
  refine fs_istoren (j := 2) (L' := [some (.ref 54), some (.int x1), some (.int x4), some (.int x3), some (.int x4), some (.int x5), some (.int x6)]) (by decide +kernel) (Nat.le_of_ble_eq_true rfl) rfl ?_
  refine fs_iload (j := 5) (by decide +kernel) rfl ?_
  refine fs_istoren (j := 3) (L' := [some (.ref 54), some (.int x1), some (.int x4), some (.int x5), some (.int x4), some (.int x5), some (.int x6)]) (by decide +kernel) (Nat.le_of_ble_eq_true rfl) rfl ?_
  exact nx
theorem b_Cook_leastSet_131 {d : Nat} {x1 : Int32} {x2 : Int32} {x3 : Int32} {x4 : Int32} {o5 : Option Value} {o6 : Option Value} {S : fm_S} {r : Option Value × am_W} (nx : am_Ev d k_Cook_leastSet 46 [some (.ref 54), some (.int x1), some (.int x2), some (.int x3), some (.int (x4 + 1)), o5, o6] [] (fm_mk S) r) : am_Ev d k_Cook_leastSet 131 [some (.ref 54), some (.int x1), some (.int x2), some (.int x3), some (.int x4), o5, o6] [] (fm_mk S) r := by
  refine fs_iinc (j := 4) (n := 1) (v := 1) (L' := [some (.ref 54), some (.int x1), some (.int x2), some (.int x3), some (.int (x4 + 1)), o5, o6]) (by decide +kernel) rfl (Nat.le_of_ble_eq_true rfl) (by decide) rfl ?_
  refine fs_goto (off := -88) (tgt := 46) (by decide +kernel) (by decide) ?_
  exact nx
theorem b_Cook_leastSet_137 {d : Nat} {x1 : Int32} {x2 : Int32} {x3 : Int32} {x4 : Int32} {o5 : Option Value} {o6 : Option Value} {S : fm_S}  : am_Ev d k_Cook_leastSet 137 [some (.ref 54), some (.int x1), some (.int x2), some (.int x3), some (.int x4), o5, o6] [] (fm_mk S) (some (.int x2), fm_mk S) := by
  refine fs_iloadn (j := 2) (by decide +kernel) rfl ?_
  exact fe_retI (by decide +kernel) (by decide +kernel)
-- KitchenSiege$Cook.openedBy(I)I
theorem b_Cook_openedBy_0 {d : Nat} {x1 : Int32} {o2 : Option Value} {o3 : Option Value} {S : fm_S} {r : Option Value × am_W} (nx : am_Ev d k_Cook_openedBy 4 [some (.ref 54), some (.int x1), some (.int 0), some (.int 0)] [] (fm_mk S) r) : am_Ev d k_Cook_openedBy 0 [some (.ref 54), some (.int x1), o2, o3] [] (fm_mk S) r := by
  refine fs_iconst (n := 0) (v := 0) (by decide +kernel) (by decide) ?_
  refine fs_istoren (j := 2) (L' := [some (.ref 54), some (.int x1), some (.int 0), o3]) (by decide +kernel) (Nat.le_of_ble_eq_true rfl) rfl ?_
  refine fs_iconst (n := 0) (v := 0) (by decide +kernel) (by decide) ?_
  refine fs_istoren (j := 3) (L' := [some (.ref 54), some (.int x1), some (.int 0), some (.int 0)]) (by decide +kernel) (Nat.le_of_ble_eq_true rfl) rfl ?_
  exact nx
theorem b_Cook_openedBy_4 {d : Nat} {x1 : Int32} {x2 : Int32} {x3 : Int32} {S : fm_S} {r : Option Value × am_W} (kt : (S.1 1 7) ≤ x3 → am_Ev d k_Cook_openedBy 38 [some (.ref 54), some (.int x1), some (.int x2), some (.int x3)] [] (fm_mk S) r) (kf : ¬ (S.1 1 7) ≤ x3 → am_Ev d k_Cook_openedBy 15 [some (.ref 54), some (.int x1), some (.int x2), some (.int x3)] [] (fm_mk S) r) : am_Ev d k_Cook_openedBy 4 [some (.ref 54), some (.int x1), some (.int x2), some (.int x3)] [] (fm_mk S) r := by
  refine fs_iloadn (j := 3) (by decide +kernel) rfl ?_
  refine fs_aloadn (j := 0) (by decide +kernel) rfl ?_
  refine fe_getR (idx := 41) (t := 1) (f := 2) (fk := 2) (fin := 1) (wp := 251) (x := 1) (by decide +kernel) (by decide +kernel) (by decide +kernel) (by decide +kernel) (by decide +kernel) ?_
  refine fe_getI (idx := 111) (t := 6) (f := 7) (fk := 0) (fin := 0) (wp := 178) (by decide +kernel) (by decide +kernel) (by decide +kernel) (by decide +kernel) ?_
  exact fs_icge (off := 26) (tgt := 38) (by decide +kernel) (by decide) kt kf
theorem b_Cook_openedBy_15 {d : Nat} {x1 : Int32} {x2 : Int32} {x3 : Int32} {v : Int32} {S1 : fm_S} {S : fm_S} {r : Option Value × am_W} (hc : am_Sp d k_X_has [.int x1, .int x3] (fm_mk S) (some (.int v)) (fm_mk S1)) (nx : am_Ev (d + 1) k_Cook_openedBy 20 [some (.ref 54), some (.int x1), some (.int x2), some (.int x3)] [.int v] (fm_mk S1) r) : am_Ev (d + 1) k_Cook_openedBy 15 [some (.ref 54), some (.int x1), some (.int x2), some (.int x3)] [] (fm_mk S) r := by
  refine fs_iloadn (j := 1) (by decide +kernel) rfl ?_
  refine fs_iloadn (j := 3) (by decide +kernel) rfl ?_
  exact fe_callS (idx := 72) (kd := 4) (n := 2) (wp := 649) (q := (398, 0)) (as := [.int x1, .int x3]) (rs := []) (by decide +kernel) (by decide +kernel) (by decide +kernel) (by decide) rfl (Nat.le_of_ble_eq_true rfl) rfl hc nx
theorem b_Cook_openedBy_20 {d : Nat} {x1 : Int32} {x2 : Int32} {x3 : Int32} {sx0 : Int32} {S : fm_S} {r : Option Value × am_W} (kt : sx0 = 0 → am_Ev d k_Cook_openedBy 32 [some (.ref 54), some (.int x1), some (.int x2), some (.int x3)] [] (fm_mk S) r) (kf : ¬ sx0 = 0 → am_Ev d k_Cook_openedBy 23 [some (.ref 54), some (.int x1), some (.int x2), some (.int x3)] [] (fm_mk S) r) : am_Ev d k_Cook_openedBy 20 [some (.ref 54), some (.int x1), some (.int x2), some (.int x3)] [.int sx0] (fm_mk S) r := by
  exact fs_ifeq (off := 12) (tgt := 32) (by decide +kernel) (by decide) kt kf
theorem b_Cook_openedBy_23 {d : Nat} {x1 : Int32} {x2 : Int32} {x3 : Int32} {S : fm_S} {r : Option Value × am_W} (hi0 : vp_in x3 6) (nx : am_Ev d k_Cook_openedBy 32 [some (.ref 54), some (.int x1), some (.int (x2 ||| (S.1 65 x3.toNatClampNeg))), some (.int x3)] [] (fm_mk S) r) : am_Ev d k_Cook_openedBy 23 [some (.ref 54), some (.int x1), some (.int x2), some (.int x3)] [] (fm_mk S) r := by
  refine fs_iloadn (j := 2) (by decide +kernel) rfl ?_
  refine fs_aloadn (j := 0) (by decide +kernel) rfl ?_
  refine fe_getR (idx := 35) (t := 1) (f := 7) (fk := 2) (fin := 1) (wp := 256) (x := 65) (by decide +kernel) (by decide +kernel) (by decide +kernel) (by decide +kernel) (by decide +kernel) ?_
  refine fs_iloadn (j := 3) (by decide +kernel) rfl ?_
  refine fx_iald (n := x3.toNatClampNeg) (len := 6) (by decide +kernel) (by decide +kernel) (by decide +kernel) hi0 rfl ?_
  refine fs_ior (by decide +kernel) ?_
  refine fs_istoren (j := 2) (L' := [some (.ref 54), some (.int x1), some (.int (x2 ||| (S.1 65 x3.toNatClampNeg))), some (.int x3)]) (by decide +kernel) (Nat.le_of_ble_eq_true rfl) rfl ?_
  exact nx
theorem b_Cook_openedBy_32 {d : Nat} {x1 : Int32} {x2 : Int32} {x3 : Int32} {S : fm_S} {r : Option Value × am_W} (nx : am_Ev d k_Cook_openedBy 4 [some (.ref 54), some (.int x1), some (.int x2), some (.int (x3 + 1))] [] (fm_mk S) r) : am_Ev d k_Cook_openedBy 32 [some (.ref 54), some (.int x1), some (.int x2), some (.int x3)] [] (fm_mk S) r := by
  refine fs_iinc (j := 3) (n := 1) (v := 1) (L' := [some (.ref 54), some (.int x1), some (.int x2), some (.int (x3 + 1))]) (by decide +kernel) rfl (Nat.le_of_ble_eq_true rfl) (by decide) rfl ?_
  refine fs_goto (off := -31) (tgt := 4) (by decide +kernel) (by decide) ?_
  exact nx
theorem b_Cook_openedBy_38 {d : Nat} {x1 : Int32} {x2 : Int32} {x3 : Int32} {S : fm_S}  : am_Ev d k_Cook_openedBy 38 [some (.ref 54), some (.int x1), some (.int x2), some (.int x3)] [] (fm_mk S) (some (.int x2), fm_mk S) := by
  refine fs_iloadn (j := 2) (by decide +kernel) rfl ?_
  exact fe_retI (by decide +kernel) (by decide +kernel)
-- KitchenSiege$Cook.butterOf(I)I
theorem b_Cook_butterOf_0 {d : Nat} {x1 : Int32} {o2 : Option Value} {o3 : Option Value} {S : fm_S} {r : Option Value × am_W} (nx : am_Ev d k_Cook_butterOf 4 [some (.ref 54), some (.int x1), some (.int 0), some (.int 0)] [] (fm_mk S) r) : am_Ev d k_Cook_butterOf 0 [some (.ref 54), some (.int x1), o2, o3] [] (fm_mk S) r := by
  refine fs_iconst (n := 0) (v := 0) (by decide +kernel) (by decide) ?_
  refine fs_istoren (j := 2) (L' := [some (.ref 54), some (.int x1), some (.int 0), o3]) (by decide +kernel) (Nat.le_of_ble_eq_true rfl) rfl ?_
  refine fs_iconst (n := 0) (v := 0) (by decide +kernel) (by decide) ?_
  refine fs_istoren (j := 3) (L' := [some (.ref 54), some (.int x1), some (.int 0), some (.int 0)]) (by decide +kernel) (Nat.le_of_ble_eq_true rfl) rfl ?_
  exact nx
theorem b_Cook_butterOf_4 {d : Nat} {x1 : Int32} {x2 : Int32} {x3 : Int32} {S : fm_S} {r : Option Value × am_W} (kt : (S.1 1 7) ≤ x3 → am_Ev d k_Cook_butterOf 41 [some (.ref 54), some (.int x1), some (.int x2), some (.int x3)] [] (fm_mk S) r) (kf : ¬ (S.1 1 7) ≤ x3 → am_Ev d k_Cook_butterOf 15 [some (.ref 54), some (.int x1), some (.int x2), some (.int x3)] [] (fm_mk S) r) : am_Ev d k_Cook_butterOf 4 [some (.ref 54), some (.int x1), some (.int x2), some (.int x3)] [] (fm_mk S) r := by
  refine fs_iloadn (j := 3) (by decide +kernel) rfl ?_
  refine fs_aloadn (j := 0) (by decide +kernel) rfl ?_
  refine fe_getR (idx := 41) (t := 1) (f := 2) (fk := 2) (fin := 1) (wp := 251) (x := 1) (by decide +kernel) (by decide +kernel) (by decide +kernel) (by decide +kernel) (by decide +kernel) ?_
  refine fe_getI (idx := 111) (t := 6) (f := 7) (fk := 0) (fin := 0) (wp := 178) (by decide +kernel) (by decide +kernel) (by decide +kernel) (by decide +kernel) ?_
  exact fs_icge (off := 29) (tgt := 41) (by decide +kernel) (by decide) kt kf
theorem b_Cook_butterOf_15 {d : Nat} {x1 : Int32} {x2 : Int32} {x3 : Int32} {v : Int32} {S1 : fm_S} {S : fm_S} {r : Option Value × am_W} (hc : am_Sp d k_X_has [.int x1, .int x3] (fm_mk S) (some (.int v)) (fm_mk S1)) (nx : am_Ev (d + 1) k_Cook_butterOf 20 [some (.ref 54), some (.int x1), some (.int x2), some (.int x3)] [.int v] (fm_mk S1) r) : am_Ev (d + 1) k_Cook_butterOf 15 [some (.ref 54), some (.int x1), some (.int x2), some (.int x3)] [] (fm_mk S) r := by
  refine fs_iloadn (j := 1) (by decide +kernel) rfl ?_
  refine fs_iloadn (j := 3) (by decide +kernel) rfl ?_
  exact fe_callS (idx := 72) (kd := 4) (n := 2) (wp := 649) (q := (398, 0)) (as := [.int x1, .int x3]) (rs := []) (by decide +kernel) (by decide +kernel) (by decide +kernel) (by decide) rfl (Nat.le_of_ble_eq_true rfl) rfl hc nx
theorem b_Cook_butterOf_20 {d : Nat} {x1 : Int32} {x2 : Int32} {x3 : Int32} {sx0 : Int32} {S : fm_S} {r : Option Value × am_W} (kt : sx0 = 0 → am_Ev d k_Cook_butterOf 35 [some (.ref 54), some (.int x1), some (.int x2), some (.int x3)] [] (fm_mk S) r) (kf : ¬ sx0 = 0 → am_Ev d k_Cook_butterOf 23 [some (.ref 54), some (.int x1), some (.int x2), some (.int x3)] [] (fm_mk S) r) : am_Ev d k_Cook_butterOf 20 [some (.ref 54), some (.int x1), some (.int x2), some (.int x3)] [.int sx0] (fm_mk S) r := by
  exact fs_ifeq (off := 15) (tgt := 35) (by decide +kernel) (by decide) kt kf
theorem b_Cook_butterOf_23 {d : Nat} {x1 : Int32} {x2 : Int32} {x3 : Int32} {S : fm_S} {r : Option Value × am_W} (hi0 : vp_in x3 6) (nx : am_Ev d k_Cook_butterOf 35 [some (.ref 54), some (.int x1), some (.int (x2 + (S.1 10 x3.toNatClampNeg))), some (.int x3)] [] (fm_mk S) r) : am_Ev d k_Cook_butterOf 23 [some (.ref 54), some (.int x1), some (.int x2), some (.int x3)] [] (fm_mk S) r := by
  refine fs_iloadn (j := 2) (by decide +kernel) rfl ?_
  refine fs_aloadn (j := 0) (by decide +kernel) rfl ?_
  refine fe_getR (idx := 41) (t := 1) (f := 2) (fk := 2) (fin := 1) (wp := 251) (x := 1) (by decide +kernel) (by decide +kernel) (by decide +kernel) (by decide +kernel) (by decide +kernel) ?_
  refine fe_getR (idx := 124) (t := 6) (f := 10) (fk := 2) (fin := 1) (wp := 185) (x := 10) (by decide +kernel) (by decide +kernel) (by decide +kernel) (by decide +kernel) (by decide +kernel) ?_
  refine fs_iloadn (j := 3) (by decide +kernel) rfl ?_
  refine fx_iald (n := x3.toNatClampNeg) (len := 6) (by decide +kernel) (by decide +kernel) (by decide +kernel) hi0 rfl ?_
  refine fs_iadd (by decide +kernel) ?_
  refine fs_istoren (j := 2) (L' := [some (.ref 54), some (.int x1), some (.int (x2 + (S.1 10 x3.toNatClampNeg))), some (.int x3)]) (by decide +kernel) (Nat.le_of_ble_eq_true rfl) rfl ?_
  exact nx
theorem b_Cook_butterOf_35 {d : Nat} {x1 : Int32} {x2 : Int32} {x3 : Int32} {S : fm_S} {r : Option Value × am_W} (nx : am_Ev d k_Cook_butterOf 4 [some (.ref 54), some (.int x1), some (.int x2), some (.int (x3 + 1))] [] (fm_mk S) r) : am_Ev d k_Cook_butterOf 35 [some (.ref 54), some (.int x1), some (.int x2), some (.int x3)] [] (fm_mk S) r := by
  refine fs_iinc (j := 3) (n := 1) (v := 1) (L' := [some (.ref 54), some (.int x1), some (.int x2), some (.int (x3 + 1))]) (by decide +kernel) rfl (Nat.le_of_ble_eq_true rfl) (by decide) rfl ?_
  refine fs_goto (off := -34) (tgt := 4) (by decide +kernel) (by decide) ?_
  exact nx
theorem b_Cook_butterOf_41 {d : Nat} {x1 : Int32} {x2 : Int32} {x3 : Int32} {S : fm_S}  : am_Ev d k_Cook_butterOf 41 [some (.ref 54), some (.int x1), some (.int x2), some (.int x3)] [] (fm_mk S) (some (.int x2), fm_mk S) := by
  refine fs_iloadn (j := 2) (by decide +kernel) rfl ?_
  exact fe_retI (by decide +kernel) (by decide +kernel)
-- KitchenSiege$Cook.bestSheets(II)I
theorem b_Cook_bestSheets_0 {d : Nat} {x1 : Int32} {x2 : Int32} {o3 : Option Value} {o4 : Option Value} {o5 : Option Value} {o6 : Option Value} {S : fm_S} {r : Option Value × am_W} (nx : am_Ev d k_Cook_bestSheets 9 [some (.ref 54), some (.int x1), some (.int x2), some (.int (-1)), some (.int 9), some (.int 0), o6] [] (fm_mk S) r) : am_Ev d k_Cook_bestSheets 0 [some (.ref 54), some (.int x1), some (.int x2), o3, o4, o5, o6] [] (fm_mk S) r := by
  refine fs_iconst (n := -1) (v := (-1)) (by decide +kernel) (by decide) ?_
  refine fs_istoren (j := 3) (L' := [some (.ref 54), some (.int x1), some (.int x2), some (.int (-1)), o4, o5, o6]) (by decide +kernel) (Nat.le_of_ble_eq_true rfl) rfl ?_
  refine fs_bipush (n := 9) (v := 9) (by decide +kernel) (by decide) ?_
  refine fs_istore (j := 4) (L' := [some (.ref 54), some (.int x1), some (.int x2), some (.int (-1)), some (.int 9), o5, o6]) (by decide +kernel) (Nat.le_of_ble_eq_true rfl) rfl ?_
  refine fs_iconst (n := 0) (v := 0) (by decide +kernel) (by decide) ?_
  refine fs_istore (j := 5) (L' := [some (.ref 54), some (.int x1), some (.int x2), some (.int (-1)), some (.int 9), some (.int 0), o6]) (by decide +kernel) (Nat.le_of_ble_eq_true rfl) rfl ?_
  exact nx
theorem b_Cook_bestSheets_9 {d : Nat} {x1 : Int32} {x2 : Int32} {x3 : Int32} {x4 : Int32} {x5 : Int32} {o6 : Option Value} {S : fm_S} {r : Option Value × am_W} (kt : (S.1 1 0) ≤ x5 → am_Ev d k_Cook_bestSheets 66 [some (.ref 54), some (.int x1), some (.int x2), some (.int x3), some (.int x4), some (.int x5), o6] [] (fm_mk S) r) (kf : ¬ (S.1 1 0) ≤ x5 → am_Ev d k_Cook_bestSheets 21 [some (.ref 54), some (.int x1), some (.int x2), some (.int x3), some (.int x4), some (.int x5), o6] [] (fm_mk S) r) : am_Ev d k_Cook_bestSheets 9 [some (.ref 54), some (.int x1), some (.int x2), some (.int x3), some (.int x4), some (.int x5), o6] [] (fm_mk S) r := by
  refine fs_iload (j := 5) (by decide +kernel) rfl ?_
  refine fs_aloadn (j := 0) (by decide +kernel) rfl ?_
  refine fe_getR (idx := 41) (t := 1) (f := 2) (fk := 2) (fin := 1) (wp := 251) (x := 1) (by decide +kernel) (by decide +kernel) (by decide +kernel) (by decide +kernel) (by decide +kernel) ?_
  refine fe_getI (idx := 69) (t := 6) (f := 0) (fk := 0) (fin := 0) (wp := 158) (by decide +kernel) (by decide +kernel) (by decide +kernel) (by decide +kernel) ?_
  exact fs_icge (off := 48) (tgt := 66) (by decide +kernel) (by decide) kt kf
theorem b_Cook_bestSheets_21 {d : Nat} {x1 : Int32} {x2 : Int32} {x3 : Int32} {x4 : Int32} {x5 : Int32} {o6 : Option Value} {v : Int32} {S1 : fm_S} {S : fm_S} {r : Option Value × am_W} (hc : am_Sp d k_Days_isShut [.ref 17, .int x5] (fm_mk S) (some (.int v)) (fm_mk S1)) (nx : am_Ev (d + 1) k_Cook_bestSheets 33 [some (.ref 54), some (.int x1), some (.int x2), some (.int x3), some (.int x4), some (.int x5), o6] [.int v] (fm_mk S1) r) : am_Ev (d + 1) k_Cook_bestSheets 21 [some (.ref 54), some (.int x1), some (.int x2), some (.int x3), some (.int x4), some (.int x5), o6] [] (fm_mk S) r := by
  refine fs_aloadn (j := 0) (by decide +kernel) rfl ?_
  refine fe_getR (idx := 41) (t := 1) (f := 2) (fk := 2) (fin := 1) (wp := 251) (x := 1) (by decide +kernel) (by decide +kernel) (by decide +kernel) (by decide +kernel) (by decide +kernel) ?_
  refine fe_getR (idx := 101) (t := 6) (f := 12) (fk := 2) (fin := 1) (wp := 189) (x := 17) (by decide +kernel) (by decide +kernel) (by decide +kernel) (by decide +kernel) (by decide +kernel) ?_
  refine fs_iload (j := 5) (by decide +kernel) rfl ?_
  exact fe_callV (t := 2) (idx := 86) (n := 1) (wp := 630) (q := (631, 632)) (as := [.int x5]) (rs := []) (by decide +kernel) (by decide +kernel) (by decide +kernel) (by decide +kernel) rfl (Nat.le_of_ble_eq_true rfl) rfl hc nx
theorem b_Cook_bestSheets_33 {d : Nat} {x1 : Int32} {x2 : Int32} {x3 : Int32} {x4 : Int32} {x5 : Int32} {o6 : Option Value} {sx0 : Int32} {S : fm_S} {r : Option Value × am_W} (kt : sx0 = 0 → am_Ev d k_Cook_bestSheets 60 [some (.ref 54), some (.int x1), some (.int x2), some (.int x3), some (.int x4), some (.int x5), o6] [] (fm_mk S) r) (kf : ¬ sx0 = 0 → am_Ev d k_Cook_bestSheets 36 [some (.ref 54), some (.int x1), some (.int x2), some (.int x3), some (.int x4), some (.int x5), o6] [] (fm_mk S) r) : am_Ev d k_Cook_bestSheets 33 [some (.ref 54), some (.int x1), some (.int x2), some (.int x3), some (.int x4), some (.int x5), o6] [.int sx0] (fm_mk S) r := by
  exact fs_ifeq (off := 27) (tgt := 60) (by decide +kernel) (by decide) kt kf
theorem b_Cook_bestSheets_36 {d : Nat} {x1 : Int32} {x2 : Int32} {x3 : Int32} {x4 : Int32} {x5 : Int32} {o6 : Option Value} {v : Int32} {S1 : fm_S} {S : fm_S} {r : Option Value × am_W} (hc : am_Sp d k_Cook_opening [.ref 54, .int x1, .int x5, .int x2] (fm_mk S) (some (.int v)) (fm_mk S1)) (nx : am_Ev (d + 1) k_Cook_bestSheets 44 [some (.ref 54), some (.int x1), some (.int x2), some (.int x3), some (.int x4), some (.int x5), o6] [.int v] (fm_mk S1) r) : am_Ev (d + 1) k_Cook_bestSheets 36 [some (.ref 54), some (.int x1), some (.int x2), some (.int x3), some (.int x4), some (.int x5), o6] [] (fm_mk S) r := by
  refine fs_aloadn (j := 0) (by decide +kernel) rfl ?_
  refine fs_iloadn (j := 1) (by decide +kernel) rfl ?_
  refine fs_iload (j := 5) (by decide +kernel) rfl ?_
  refine fs_iloadn (j := 2) (by decide +kernel) rfl ?_
  exact fe_callV (t := 1) (idx := 164) (n := 3) (wp := 771) (q := (772, 773)) (as := [.int x1, .int x5, .int x2]) (rs := []) (by decide +kernel) (by decide +kernel) (by decide +kernel) (by decide +kernel) rfl (Nat.le_of_ble_eq_true rfl) rfl hc nx
theorem b_Cook_bestSheets_44 {d : Nat} {x1 : Int32} {x2 : Int32} {x3 : Int32} {x4 : Int32} {x5 : Int32} {o6 : Option Value} {sx0 : Int32} {S : fm_S} {r : Option Value × am_W} (kt : x4 ≤ sx0 → am_Ev d k_Cook_bestSheets 60 [some (.ref 54), some (.int x1), some (.int x2), some (.int x3), some (.int x4), some (.int x5), some (.int sx0)] [] (fm_mk S) r) (kf : ¬ x4 ≤ sx0 → am_Ev d k_Cook_bestSheets 53 [some (.ref 54), some (.int x1), some (.int x2), some (.int x3), some (.int x4), some (.int x5), some (.int sx0)] [] (fm_mk S) r) : am_Ev d k_Cook_bestSheets 44 [some (.ref 54), some (.int x1), some (.int x2), some (.int x3), some (.int x4), some (.int x5), o6] [.int sx0] (fm_mk S) r := by
  refine fs_istore (j := 6) (L' := [some (.ref 54), some (.int x1), some (.int x2), some (.int x3), some (.int x4), some (.int x5), some (.int sx0)]) (by decide +kernel) (Nat.le_of_ble_eq_true rfl) rfl ?_
  refine fs_iload (j := 6) (by decide +kernel) rfl ?_
  refine fs_iload (j := 4) (by decide +kernel) rfl ?_
  exact fs_icge (off := 10) (tgt := 60) (by decide +kernel) (by decide) kt kf
theorem b_Cook_bestSheets_53 {d : Nat} {x1 : Int32} {x2 : Int32} {x3 : Int32} {x4 : Int32} {x5 : Int32} {x6 : Int32} {S : fm_S} {r : Option Value × am_W} (nx : am_Ev d k_Cook_bestSheets 60 [some (.ref 54), some (.int x1), some (.int x2), some (.int x5), some (.int x6), some (.int x5), some (.int x6)] [] (fm_mk S) r) : am_Ev d k_Cook_bestSheets 53 [some (.ref 54), some (.int x1), some (.int x2), some (.int x3), some (.int x4), some (.int x5), some (.int x6)] [] (fm_mk S) r := by
  refine fs_iload (j := 5) (by decide +kernel) rfl ?_
  refine fs_istoren (j := 3) (L' := [some (.ref 54), some (.int x1), some (.int x2), some (.int x5), some (.int x4), some (.int x5), some (.int x6)]) (by decide +kernel) (Nat.le_of_ble_eq_true rfl) rfl ?_
  refine fs_iload (j := 6) (by decide +kernel) rfl ?_
  refine fs_istore (j := 4) (L' := [some (.ref 54), some (.int x1), some (.int x2), some (.int x5), some (.int x6), some (.int x5), some (.int x6)]) (by decide +kernel) (Nat.le_of_ble_eq_true rfl) rfl ?_
  exact nx
theorem b_Cook_bestSheets_60 {d : Nat} {x1 : Int32} {x2 : Int32} {x3 : Int32} {x4 : Int32} {x5 : Int32} {o6 : Option Value} {S : fm_S} {r : Option Value × am_W} (nx : am_Ev d k_Cook_bestSheets 9 [some (.ref 54), some (.int x1), some (.int x2), some (.int x3), some (.int x4), some (.int (x5 + 1)), o6] [] (fm_mk S) r) : am_Ev d k_Cook_bestSheets 60 [some (.ref 54), some (.int x1), some (.int x2), some (.int x3), some (.int x4), some (.int x5), o6] [] (fm_mk S) r := by
  refine fs_iinc (j := 5) (n := 1) (v := 1) (L' := [some (.ref 54), some (.int x1), some (.int x2), some (.int x3), some (.int x4), some (.int (x5 + 1)), o6]) (by decide +kernel) rfl (Nat.le_of_ble_eq_true rfl) (by decide) rfl ?_
  refine fs_goto (off := -54) (tgt := 9) (by decide +kernel) (by decide) ?_
  exact nx
theorem b_Cook_bestSheets_66 {d : Nat} {x1 : Int32} {x2 : Int32} {x3 : Int32} {x4 : Int32} {x5 : Int32} {o6 : Option Value} {S : fm_S}  : am_Ev d k_Cook_bestSheets 66 [some (.ref 54), some (.int x1), some (.int x2), some (.int x3), some (.int x4), some (.int x5), o6] [] (fm_mk S) (some (.int x3), fm_mk S) := by
  refine fs_iloadn (j := 3) (by decide +kernel) rfl ?_
  exact fe_retI (by decide +kernel) (by decide +kernel)
-- KitchenSiege$Cook.opening(III)I
theorem b_Cook_opening_0 {d : Nat} {x1 : Int32} {x2 : Int32} {x3 : Int32} {S : fm_S} {r : Option Value × am_W} (kt : ¬ x1 = (-1) → am_Ev d k_Cook_opening 7 [some (.ref 54), some (.int x1), some (.int x2), some (.int x3)] [] (fm_mk S) r) (kf : x1 = (-1) → am_Ev d k_Cook_opening 5 [some (.ref 54), some (.int x1), some (.int x2), some (.int x3)] [] (fm_mk S) r) : am_Ev d k_Cook_opening 0 [some (.ref 54), some (.int x1), some (.int x2), some (.int x3)] [] (fm_mk S) r := by
  refine fs_iloadn (j := 1) (by decide +kernel) rfl ?_
  refine fs_iconst (n := -1) (v := (-1)) (by decide +kernel) (by decide) ?_
  exact fs_icne (off := 5) (tgt := 7) (by decide +kernel) (by decide) kt kf
theorem b_Cook_opening_5 {d : Nat} {x1 : Int32} {x2 : Int32} {x3 : Int32} {S : fm_S}  : am_Ev d k_Cook_opening 5 [some (.ref 54), some (.int x1), some (.int x2), some (.int x3)] [] (fm_mk S) (some (.int 0), fm_mk S) := by
  refine fs_iconst (n := 0) (v := 0) (by decide +kernel) (by decide) ?_
  exact fe_retI (by decide +kernel) (by decide +kernel)
theorem b_Cook_opening_7 {d : Nat} {x1 : Int32} {x2 : Int32} {x3 : Int32} {v : Int32} {S1 : fm_S} {S : fm_S} {r : Option Value × am_W} (hc : am_Sp d k_Town_windOn [.ref 1, .int (S.1 17 0)] (fm_mk S) (some (.int v)) (fm_mk S1)) (nx : am_Ev (d + 1) k_Cook_opening 33 [some (.ref 54), some (.int x1), some (.int x2), some (.int x3)] [.int v, .int x1, .ref 1, .ref 56] (fm_mk S1) r) : am_Ev (d + 1) k_Cook_opening 7 [some (.ref 54), some (.int x1), some (.int x2), some (.int x3)] [] (fm_mk S) r := by
  refine fs_aloadn (j := 0) (by decide +kernel) rfl ?_
  refine fe_getR (idx := 18) (t := 1) (f := 3) (fk := 2) (fin := 1) (wp := 252) (x := 56) (by decide +kernel) (by decide +kernel) (by decide +kernel) (by decide +kernel) (by decide +kernel) ?_
  refine fs_aloadn (j := 0) (by decide +kernel) rfl ?_
  refine fe_getR (idx := 41) (t := 1) (f := 2) (fk := 2) (fin := 1) (wp := 251) (x := 1) (by decide +kernel) (by decide +kernel) (by decide +kernel) (by decide +kernel) (by decide +kernel) ?_
  refine fs_iloadn (j := 1) (by decide +kernel) rfl ?_
  refine fs_aloadn (j := 0) (by decide +kernel) rfl ?_
  refine fe_getR (idx := 41) (t := 1) (f := 2) (fk := 2) (fin := 1) (wp := 251) (x := 1) (by decide +kernel) (by decide +kernel) (by decide +kernel) (by decide +kernel) (by decide +kernel) ?_
  refine fs_aloadn (j := 0) (by decide +kernel) rfl ?_
  refine fe_getR (idx := 41) (t := 1) (f := 2) (fk := 2) (fin := 1) (wp := 251) (x := 1) (by decide +kernel) (by decide +kernel) (by decide +kernel) (by decide +kernel) (by decide +kernel) ?_
  refine fe_getR (idx := 101) (t := 6) (f := 12) (fk := 2) (fin := 1) (wp := 189) (x := 17) (by decide +kernel) (by decide +kernel) (by decide +kernel) (by decide +kernel) (by decide +kernel) ?_
  refine fe_getI (idx := 48) (t := 2) (f := 0) (fk := 0) (fin := 0) (wp := 124) (by decide +kernel) (by decide +kernel) (by decide +kernel) (by decide +kernel) ?_
  exact fe_callV (t := 6) (idx := 52) (n := 1) (wp := 598) (q := (599, 600)) (as := [.int (S.1 17 0)]) (rs := [.int x1, .ref 1, .ref 56]) (by decide +kernel) (by decide +kernel) (by decide +kernel) (by decide +kernel) rfl (Nat.le_of_ble_eq_true rfl) rfl hc nx
theorem b_Cook_opening_33 {d : Nat} {x1 : Int32} {x2 : Int32} {x3 : Int32} {sx2 : Int32} {sx3 : Int32} {S1 : fm_S} {S : fm_S} {r : Option Value × am_W} (hc : am_Sp d k_Air_fillWithSheets [.ref 56, .ref 1, .int sx2, .int sx3, .int x2, .int x3] (fm_mk S) (none) (fm_mk S1)) (nx : am_Ev (d + 1) k_Cook_opening 38 [some (.ref 54), some (.int x1), some (.int x2), some (.int x3)] [] (fm_mk S1) r) : am_Ev (d + 1) k_Cook_opening 33 [some (.ref 54), some (.int x1), some (.int x2), some (.int x3)] [.int sx3, .int sx2, .ref 1, .ref 56] (fm_mk S) r := by
  refine fs_iloadn (j := 2) (by decide +kernel) rfl ?_
  refine fs_iloadn (j := 3) (by decide +kernel) rfl ?_
  exact fe_callV (t := 0) (idx := 160) (n := 5) (wp := 775) (q := (610, 611)) (as := [.ref 1, .int sx2, .int sx3, .int x2, .int x3]) (rs := []) (by decide +kernel) (by decide +kernel) (by decide +kernel) (by decide +kernel) rfl (Nat.le_of_ble_eq_true rfl) rfl hc nx
theorem b_Cook_opening_38 {d : Nat} {x1 : Int32} {x2 : Int32} {x3 : Int32} {v : Int32} {S1 : fm_S} {S : fm_S} {r : Option Value × am_W} (hc : am_Sp d k_Cook_openingBits [.ref 54, .ref 17, .int x1] (fm_mk S) (some (.int v)) (fm_mk S1)) (nx : am_Ev (d + 1) k_Cook_opening 50 [some (.ref 54), some (.int x1), some (.int x2), some (.int x3)] [.int v] (fm_mk S1) r) : am_Ev (d + 1) k_Cook_opening 38 [some (.ref 54), some (.int x1), some (.int x2), some (.int x3)] [] (fm_mk S) r := by
  refine fs_aloadn (j := 0) (by decide +kernel) rfl ?_
  refine fs_aloadn (j := 0) (by decide +kernel) rfl ?_
  refine fe_getR (idx := 41) (t := 1) (f := 2) (fk := 2) (fin := 1) (wp := 251) (x := 1) (by decide +kernel) (by decide +kernel) (by decide +kernel) (by decide +kernel) (by decide +kernel) ?_
  refine fe_getR (idx := 101) (t := 6) (f := 12) (fk := 2) (fin := 1) (wp := 189) (x := 17) (by decide +kernel) (by decide +kernel) (by decide +kernel) (by decide +kernel) (by decide +kernel) ?_
  refine fs_iloadn (j := 1) (by decide +kernel) rfl ?_
  exact fe_callV (t := 1) (idx := 65) (n := 2) (wp := 626) (q := (628, 18)) (as := [.ref 17, .int x1]) (rs := []) (by decide +kernel) (by decide +kernel) (by decide +kernel) (by decide +kernel) rfl (Nat.le_of_ble_eq_true rfl) rfl hc nx
theorem b_Cook_opening_50 {d : Nat} {x1 : Int32} {x2 : Int32} {x3 : Int32} {sx0 : Int32} {v : Int32} {S1 : fm_S} {S : fm_S} {r : Option Value × am_W} (hc : am_Sp d k_Int_bitCount [.int sx0] (fm_mk S) (some (.int v)) (fm_mk S1)) (nx : am_Ev (d + 1) k_Cook_opening 53 [some (.ref 54), some (.int x1), some (.int x2), some (.int x3)] [.int v] (fm_mk S1) r) : am_Ev (d + 1) k_Cook_opening 50 [some (.ref 54), some (.int x1), some (.int x2), some (.int x3)] [.int sx0] (fm_mk S) r := by
  exact fe_callS (idx := 155) (kd := 0) (n := 1) (wp := 757) (q := (758, 0)) (as := [.int sx0]) (rs := []) (by decide +kernel) (by decide +kernel) (by decide +kernel) (by decide) rfl (Nat.le_of_ble_eq_true rfl) rfl hc nx
theorem b_Cook_opening_53 {d : Nat} {x1 : Int32} {x2 : Int32} {x3 : Int32} {sx0 : Int32} {S : fm_S}  : am_Ev d k_Cook_opening 53 [some (.ref 54), some (.int x1), some (.int x2), some (.int x3)] [.int sx0] (fm_mk S) (some (.int sx0), fm_mk S) := by
  exact fe_retI (by decide +kernel) (by decide +kernel)
-- KitchenSiege$Cook.restingPairs(I)I
theorem b_Cook_restingPairs_0 {d : Nat} {x1 : Int32} {o2 : Option Value} {o3 : Option Value} {o4 : Option Value} {S : fm_S} {r : Option Value × am_W} (nx : am_Ev d k_Cook_restingPairs 2 [some (.ref 54), some (.int x1), some (.int (-1)), o3, o4] [] (fm_mk S) r) : am_Ev d k_Cook_restingPairs 0 [some (.ref 54), some (.int x1), o2, o3, o4] [] (fm_mk S) r := by
  refine fs_iconst (n := -1) (v := (-1)) (by decide +kernel) (by decide) ?_
  refine fs_istoren (j := 2) (L' := [some (.ref 54), some (.int x1), some (.int (-1)), o3, o4]) (by decide +kernel) (Nat.le_of_ble_eq_true rfl) rfl ?_
  exact nx
theorem b_Cook_restingPairs_2 {d : Nat} {x1 : Int32} {x2 : Int32} {o3 : Option Value} {o4 : Option Value} {S : fm_S} {r : Option Value × am_W} (kt : (S.1 1 7) ≤ x2 → am_Ev d k_Cook_restingPairs 55 [some (.ref 54), some (.int x1), some (.int x2), o3, o4] [] (fm_mk S) r) (kf : ¬ (S.1 1 7) ≤ x2 → am_Ev d k_Cook_restingPairs 13 [some (.ref 54), some (.int x1), some (.int x2), o3, o4] [] (fm_mk S) r) : am_Ev d k_Cook_restingPairs 2 [some (.ref 54), some (.int x1), some (.int x2), o3, o4] [] (fm_mk S) r := by
  refine fs_iloadn (j := 2) (by decide +kernel) rfl ?_
  refine fs_aloadn (j := 0) (by decide +kernel) rfl ?_
  refine fe_getR (idx := 41) (t := 1) (f := 2) (fk := 2) (fin := 1) (wp := 251) (x := 1) (by decide +kernel) (by decide +kernel) (by decide +kernel) (by decide +kernel) (by decide +kernel) ?_
  refine fe_getI (idx := 111) (t := 6) (f := 7) (fk := 0) (fin := 0) (wp := 178) (by decide +kernel) (by decide +kernel) (by decide +kernel) (by decide +kernel) ?_
  exact fs_icge (off := 45) (tgt := 55) (by decide +kernel) (by decide) kt kf
theorem b_Cook_restingPairs_13 {d : Nat} {x1 : Int32} {x2 : Int32} {o3 : Option Value} {o4 : Option Value} {S : fm_S} {r : Option Value × am_W} (nx : am_Ev d k_Cook_restingPairs 15 [some (.ref 54), some (.int x1), some (.int x2), some (.int (-1)), o4] [] (fm_mk S) r) : am_Ev d k_Cook_restingPairs 13 [some (.ref 54), some (.int x1), some (.int x2), o3, o4] [] (fm_mk S) r := by
  refine fs_iconst (n := -1) (v := (-1)) (by decide +kernel) (by decide) ?_
  refine fs_istoren (j := 3) (L' := [some (.ref 54), some (.int x1), some (.int x2), some (.int (-1)), o4]) (by decide +kernel) (Nat.le_of_ble_eq_true rfl) rfl ?_
  exact nx
theorem b_Cook_restingPairs_15 {d : Nat} {x1 : Int32} {x2 : Int32} {x3 : Int32} {o4 : Option Value} {S : fm_S} {r : Option Value × am_W} (kt : (S.1 1 0) ≤ x3 → am_Ev d k_Cook_restingPairs 49 [some (.ref 54), some (.int x1), some (.int x2), some (.int x3), o4] [] (fm_mk S) r) (kf : ¬ (S.1 1 0) ≤ x3 → am_Ev d k_Cook_restingPairs 26 [some (.ref 54), some (.int x1), some (.int x2), some (.int x3), o4] [] (fm_mk S) r) : am_Ev d k_Cook_restingPairs 15 [some (.ref 54), some (.int x1), some (.int x2), some (.int x3), o4] [] (fm_mk S) r := by
  refine fs_iloadn (j := 3) (by decide +kernel) rfl ?_
  refine fs_aloadn (j := 0) (by decide +kernel) rfl ?_
  refine fe_getR (idx := 41) (t := 1) (f := 2) (fk := 2) (fin := 1) (wp := 251) (x := 1) (by decide +kernel) (by decide +kernel) (by decide +kernel) (by decide +kernel) (by decide +kernel) ?_
  refine fe_getI (idx := 69) (t := 6) (f := 0) (fk := 0) (fin := 0) (wp := 158) (by decide +kernel) (by decide +kernel) (by decide +kernel) (by decide +kernel) ?_
  exact fs_icge (off := 26) (tgt := 49) (by decide +kernel) (by decide) kt kf
theorem b_Cook_restingPairs_26 {d : Nat} {x1 : Int32} {x2 : Int32} {x3 : Int32} {o4 : Option Value} {v : Int32} {S1 : fm_S} {S : fm_S} {r : Option Value × am_W} (hc : am_Sp d k_Cook_pair [.int x2, .int x3] (fm_mk S) (some (.int v)) (fm_mk S1)) (nx : am_Ev (d + 1) k_Cook_restingPairs 35 [some (.ref 54), some (.int x1), some (.int x2), some (.int x3), o4] [.int v, .ref 66] (fm_mk S1) r) : am_Ev (d + 1) k_Cook_restingPairs 26 [some (.ref 54), some (.int x1), some (.int x2), some (.int x3), o4] [] (fm_mk S) r := by
  refine fs_aloadn (j := 0) (by decide +kernel) rfl ?_
  refine fe_getR (idx := 38) (t := 1) (f := 8) (fk := 2) (fin := 1) (wp := 257) (x := 66) (by decide +kernel) (by decide +kernel) (by decide +kernel) (by decide +kernel) (by decide +kernel) ?_
  refine fs_iloadn (j := 2) (by decide +kernel) rfl ?_
  refine fs_iloadn (j := 3) (by decide +kernel) rfl ?_
  exact fe_callS (idx := 168) (kd := 0) (n := 2) (wp := 785) (q := (786, 0)) (as := [.int x2, .int x3]) (rs := [.ref 66]) (by decide +kernel) (by decide +kernel) (by decide +kernel) (by decide) rfl (Nat.le_of_ble_eq_true rfl) rfl hc nx
theorem b_Cook_restingPairs_35 {d : Nat} {x1 : Int32} {x2 : Int32} {x3 : Int32} {o4 : Option Value} {sx1 : Int32} {v : Int32} {S1 : fm_S} {S : fm_S} {r : Option Value × am_W} (hc : am_Sp d k_Cook_opening [.ref 54, .int x2, .int x3, .int x1] (fm_mk S) (some (.int v)) (fm_mk S1)) (nx : am_Ev (d + 1) k_Cook_restingPairs 42 [some (.ref 54), some (.int x1), some (.int x2), some (.int x3), o4] [.int v, .int sx1, .ref 66] (fm_mk S1) r) : am_Ev (d + 1) k_Cook_restingPairs 35 [some (.ref 54), some (.int x1), some (.int x2), some (.int x3), o4] [.int sx1, .ref 66] (fm_mk S) r := by
  refine fs_aloadn (j := 0) (by decide +kernel) rfl ?_
  refine fs_iloadn (j := 2) (by decide +kernel) rfl ?_
  refine fs_iloadn (j := 3) (by decide +kernel) rfl ?_
  refine fs_iloadn (j := 1) (by decide +kernel) rfl ?_
  exact fe_callV (t := 1) (idx := 164) (n := 3) (wp := 771) (q := (772, 773)) (as := [.int x2, .int x3, .int x1]) (rs := [.int sx1, .ref 66]) (by decide +kernel) (by decide +kernel) (by decide +kernel) (by decide +kernel) rfl (Nat.le_of_ble_eq_true rfl) rfl hc nx
theorem b_Cook_restingPairs_42 {d : Nat} {x1 : Int32} {x2 : Int32} {x3 : Int32} {o4 : Option Value} {sx1 : Int32} {sx2 : Int32} {S : fm_S} {r : Option Value × am_W} (hi0 : vp_in sx1 63) (nx : am_Ev d k_Cook_restingPairs 15 [some (.ref 54), some (.int x1), some (.int x2), some (.int (x3 + 1)), o4] [] (fm_mk (fm_wI S 66 sx1.toNatClampNeg sx2)) r) : am_Ev d k_Cook_restingPairs 42 [some (.ref 54), some (.int x1), some (.int x2), some (.int x3), o4] [.int sx2, .int sx1, .ref 66] (fm_mk S) r := by
  refine fx_iast (n := sx1.toNatClampNeg) (len := 63) (by decide +kernel) (by decide +kernel) (by decide +kernel) hi0 rfl ?_
  refine fs_iinc (j := 3) (n := 1) (v := 1) (L' := [some (.ref 54), some (.int x1), some (.int x2), some (.int (x3 + 1)), o4]) (by decide +kernel) rfl (Nat.le_of_ble_eq_true rfl) (by decide) rfl ?_
  refine fs_goto (off := -31) (tgt := 15) (by decide +kernel) (by decide) ?_
  exact nx
theorem b_Cook_restingPairs_49 {d : Nat} {x1 : Int32} {x2 : Int32} {x3 : Int32} {o4 : Option Value} {S : fm_S} {r : Option Value × am_W} (nx : am_Ev d k_Cook_restingPairs 2 [some (.ref 54), some (.int x1), some (.int (x2 + 1)), some (.int x3), o4] [] (fm_mk S) r) : am_Ev d k_Cook_restingPairs 49 [some (.ref 54), some (.int x1), some (.int x2), some (.int x3), o4] [] (fm_mk S) r := by
  refine fs_iinc (j := 2) (n := 1) (v := 1) (L' := [some (.ref 54), some (.int x1), some (.int (x2 + 1)), some (.int x3), o4]) (by decide +kernel) rfl (Nat.le_of_ble_eq_true rfl) (by decide) rfl ?_
  refine fs_goto (off := -50) (tgt := 2) (by decide +kernel) (by decide) ?_
  exact nx
theorem b_Cook_restingPairs_55 {d : Nat} {x1 : Int32} {x2 : Int32} {o3 : Option Value} {o4 : Option Value} {S : fm_S} {r : Option Value × am_W} (nx : am_Ev d k_Cook_restingPairs 59 [some (.ref 54), some (.int x1), some (.int 0), some (.int (-1)), o4] [] (fm_mk S) r) : am_Ev d k_Cook_restingPairs 55 [some (.ref 54), some (.int x1), some (.int x2), o3, o4] [] (fm_mk S) r := by
  refine fs_iconst (n := 0) (v := 0) (by decide +kernel) (by decide) ?_
  refine fs_istoren (j := 2) (L' := [some (.ref 54), some (.int x1), some (.int 0), o3, o4]) (by decide +kernel) (Nat.le_of_ble_eq_true rfl) rfl ?_
  refine fs_iconst (n := -1) (v := (-1)) (by decide +kernel) (by decide) ?_
  refine fs_istoren (j := 3) (L' := [some (.ref 54), some (.int x1), some (.int 0), some (.int (-1)), o4]) (by decide +kernel) (Nat.le_of_ble_eq_true rfl) rfl ?_
  exact nx
theorem b_Cook_restingPairs_59 {d : Nat} {x1 : Int32} {x2 : Int32} {x3 : Int32} {o4 : Option Value} {S : fm_S} {r : Option Value × am_W} (kt : (S.1 1 7) ≤ x3 → am_Ev d k_Cook_restingPairs 110 [some (.ref 54), some (.int x1), some (.int x2), some (.int x3), o4] [] (fm_mk S) r) (kf : ¬ (S.1 1 7) ≤ x3 → am_Ev d k_Cook_restingPairs 70 [some (.ref 54), some (.int x1), some (.int x2), some (.int x3), o4] [] (fm_mk S) r) : am_Ev d k_Cook_restingPairs 59 [some (.ref 54), some (.int x1), some (.int x2), some (.int x3), o4] [] (fm_mk S) r := by
  refine fs_iloadn (j := 3) (by decide +kernel) rfl ?_
  refine fs_aloadn (j := 0) (by decide +kernel) rfl ?_
  refine fe_getR (idx := 41) (t := 1) (f := 2) (fk := 2) (fin := 1) (wp := 251) (x := 1) (by decide +kernel) (by decide +kernel) (by decide +kernel) (by decide +kernel) (by decide +kernel) ?_
  refine fe_getI (idx := 111) (t := 6) (f := 7) (fk := 0) (fin := 0) (wp := 178) (by decide +kernel) (by decide +kernel) (by decide +kernel) (by decide +kernel) ?_
  exact fs_icge (off := 43) (tgt := 110) (by decide +kernel) (by decide) kt kf
theorem b_Cook_restingPairs_70 {d : Nat} {x1 : Int32} {x2 : Int32} {x3 : Int32} {o4 : Option Value} {S : fm_S} {r : Option Value × am_W} (nx : am_Ev d k_Cook_restingPairs 73 [some (.ref 54), some (.int x1), some (.int x2), some (.int x3), some (.int (-1))] [] (fm_mk S) r) : am_Ev d k_Cook_restingPairs 70 [some (.ref 54), some (.int x1), some (.int x2), some (.int x3), o4] [] (fm_mk S) r := by
  refine fs_iconst (n := -1) (v := (-1)) (by decide +kernel) (by decide) ?_
  refine fs_istore (j := 4) (L' := [some (.ref 54), some (.int x1), some (.int x2), some (.int x3), some (.int (-1))]) (by decide +kernel) (Nat.le_of_ble_eq_true rfl) rfl ?_
  exact nx
theorem b_Cook_restingPairs_73 {d : Nat} {x1 : Int32} {x2 : Int32} {x3 : Int32} {x4 : Int32} {S : fm_S} {r : Option Value × am_W} (kt : (S.1 1 0) ≤ x4 → am_Ev d k_Cook_restingPairs 104 [some (.ref 54), some (.int x1), some (.int x2), some (.int x3), some (.int x4)] [] (fm_mk S) r) (kf : ¬ (S.1 1 0) ≤ x4 → am_Ev d k_Cook_restingPairs 85 [some (.ref 54), some (.int x1), some (.int x2), some (.int x3), some (.int x4)] [] (fm_mk S) r) : am_Ev d k_Cook_restingPairs 73 [some (.ref 54), some (.int x1), some (.int x2), some (.int x3), some (.int x4)] [] (fm_mk S) r := by
  refine fs_iload (j := 4) (by decide +kernel) rfl ?_
  refine fs_aloadn (j := 0) (by decide +kernel) rfl ?_
  refine fe_getR (idx := 41) (t := 1) (f := 2) (fk := 2) (fin := 1) (wp := 251) (x := 1) (by decide +kernel) (by decide +kernel) (by decide +kernel) (by decide +kernel) (by decide +kernel) ?_
  refine fe_getI (idx := 69) (t := 6) (f := 0) (fk := 0) (fin := 0) (wp := 158) (by decide +kernel) (by decide +kernel) (by decide +kernel) (by decide +kernel) ?_
  exact fs_icge (off := 22) (tgt := 104) (by decide +kernel) (by decide) kt kf
theorem b_Cook_restingPairs_85 {d : Nat} {x1 : Int32} {x2 : Int32} {x3 : Int32} {x4 : Int32} {v : Int32} {S1 : fm_S} {S : fm_S} {r : Option Value × am_W} (hc : am_Sp d k_Cook_rests [.ref 54, .int x3, .int x4] (fm_mk S) (some (.int v)) (fm_mk S1)) (nx : am_Ev (d + 1) k_Cook_restingPairs 92 [some (.ref 54), some (.int x1), some (.int x2), some (.int x3), some (.int x4)] [.int v] (fm_mk S1) r) : am_Ev (d + 1) k_Cook_restingPairs 85 [some (.ref 54), some (.int x1), some (.int x2), some (.int x3), some (.int x4)] [] (fm_mk S) r := by
  refine fs_aloadn (j := 0) (by decide +kernel) rfl ?_
  refine fs_iloadn (j := 3) (by decide +kernel) rfl ?_
  refine fs_iload (j := 4) (by decide +kernel) rfl ?_
  exact fe_callV (t := 1) (idx := 171) (n := 2) (wp := 788) (q := (790, 29)) (as := [.int x3, .int x4]) (rs := []) (by decide +kernel) (by decide +kernel) (by decide +kernel) (by decide +kernel) rfl (Nat.le_of_ble_eq_true rfl) rfl hc nx
theorem b_Cook_restingPairs_92 {d : Nat} {x1 : Int32} {x2 : Int32} {x3 : Int32} {x4 : Int32} {sx0 : Int32} {S : fm_S} {r : Option Value × am_W} (kt : sx0 = 0 → am_Ev d k_Cook_restingPairs 98 [some (.ref 54), some (.int x1), some (.int x2), some (.int x3), some (.int x4)] [] (fm_mk S) r) (kf : ¬ sx0 = 0 → am_Ev d k_Cook_restingPairs 95 [some (.ref 54), some (.int x1), some (.int x2), some (.int x3), some (.int x4)] [] (fm_mk S) r) : am_Ev d k_Cook_restingPairs 92 [some (.ref 54), some (.int x1), some (.int x2), some (.int x3), some (.int x4)] [.int sx0] (fm_mk S) r := by
  exact fs_ifeq (off := 6) (tgt := 98) (by decide +kernel) (by decide) kt kf
theorem b_Cook_restingPairs_95 {d : Nat} {x1 : Int32} {x2 : Int32} {x3 : Int32} {x4 : Int32} {S : fm_S} {r : Option Value × am_W} (nx : am_Ev d k_Cook_restingPairs 98 [some (.ref 54), some (.int x1), some (.int (x2 + 1)), some (.int x3), some (.int x4)] [] (fm_mk S) r) : am_Ev d k_Cook_restingPairs 95 [some (.ref 54), some (.int x1), some (.int x2), some (.int x3), some (.int x4)] [] (fm_mk S) r := by
  refine fs_iinc (j := 2) (n := 1) (v := 1) (L' := [some (.ref 54), some (.int x1), some (.int (x2 + 1)), some (.int x3), some (.int x4)]) (by decide +kernel) rfl (Nat.le_of_ble_eq_true rfl) (by decide) rfl ?_
  exact nx
theorem b_Cook_restingPairs_98 {d : Nat} {x1 : Int32} {x2 : Int32} {x3 : Int32} {x4 : Int32} {S : fm_S} {r : Option Value × am_W} (nx : am_Ev d k_Cook_restingPairs 73 [some (.ref 54), some (.int x1), some (.int x2), some (.int x3), some (.int (x4 + 1))] [] (fm_mk S) r) : am_Ev d k_Cook_restingPairs 98 [some (.ref 54), some (.int x1), some (.int x2), some (.int x3), some (.int x4)] [] (fm_mk S) r := by
  refine fs_iinc (j := 4) (n := 1) (v := 1) (L' := [some (.ref 54), some (.int x1), some (.int x2), some (.int x3), some (.int (x4 + 1))]) (by decide +kernel) rfl (Nat.le_of_ble_eq_true rfl) (by decide) rfl ?_
  refine fs_goto (off := -28) (tgt := 73) (by decide +kernel) (by decide) ?_
  exact nx
theorem b_Cook_restingPairs_104 {d : Nat} {x1 : Int32} {x2 : Int32} {x3 : Int32} {x4 : Int32} {S : fm_S} {r : Option Value × am_W} (nx : am_Ev d k_Cook_restingPairs 59 [some (.ref 54), some (.int x1), some (.int x2), some (.int (x3 + 1)), some (.int x4)] [] (fm_mk S) r) : am_Ev d k_Cook_restingPairs 104 [some (.ref 54), some (.int x1), some (.int x2), some (.int x3), some (.int x4)] [] (fm_mk S) r := by
  refine fs_iinc (j := 3) (n := 1) (v := 1) (L' := [some (.ref 54), some (.int x1), some (.int x2), some (.int (x3 + 1)), some (.int x4)]) (by decide +kernel) rfl (Nat.le_of_ble_eq_true rfl) (by decide) rfl ?_
  refine fs_goto (off := -48) (tgt := 59) (by decide +kernel) (by decide) ?_
  exact nx
theorem b_Cook_restingPairs_110 {d : Nat} {x1 : Int32} {x2 : Int32} {x3 : Int32} {o4 : Option Value} {S : fm_S}  : am_Ev d k_Cook_restingPairs 110 [some (.ref 54), some (.int x1), some (.int x2), some (.int x3), o4] [] (fm_mk S) (some (.int x2), fm_mk S) := by
  refine fs_iloadn (j := 2) (by decide +kernel) rfl ?_
  exact fe_retI (by decide +kernel) (by decide +kernel)
-- KitchenSiege$Cook.pair(II)I
theorem b_Cook_pair_0 {d : Nat} {x0 : Int32} {x1 : Int32} {S : fm_S}  : am_Ev d k_Cook_pair 0 [some (.int x0), some (.int x1)] [] (fm_mk S) (some (.int ((((x0 + 1) * 9) + x1) + 1)), fm_mk S) := by
  refine fs_iloadn (j := 0) (by decide +kernel) rfl ?_
  refine fs_iconst (n := 1) (v := 1) (by decide +kernel) (by decide) ?_
  refine fs_iadd (by decide +kernel) ?_
  refine fs_bipush (n := 9) (v := 9) (by decide +kernel) (by decide) ?_
  refine fs_imul (by decide +kernel) ?_
  refine fs_iloadn (j := 1) (by decide +kernel) rfl ?_
  refine fs_iadd (by decide +kernel) ?_
  refine fs_iconst (n := 1) (v := 1) (by decide +kernel) (by decide) ?_
  refine fs_iadd (by decide +kernel) ?_
  exact fe_retI (by decide +kernel) (by decide +kernel)
-- KitchenSiege$Cook.rests(II)Z
theorem b_Cook_rests_0 {d : Nat} {x1 : Int32} {x2 : Int32} {o3 : Option Value} {o4 : Option Value} {v : Int32} {S1 : fm_S} {S : fm_S} {r : Option Value × am_W} (hc : am_Sp d k_Cook_pair [.int x1, .int x2] (fm_mk S) (some (.int v)) (fm_mk S1)) (nx : am_Ev (d + 1) k_Cook_rests 9 [some (.ref 54), some (.int x1), some (.int x2), o3, o4] [.int v, .ref 66] (fm_mk S1) r) : am_Ev (d + 1) k_Cook_rests 0 [some (.ref 54), some (.int x1), some (.int x2), o3, o4] [] (fm_mk S) r := by
  refine fs_aloadn (j := 0) (by decide +kernel) rfl ?_
  refine fe_getR (idx := 38) (t := 1) (f := 8) (fk := 2) (fin := 1) (wp := 257) (x := 66) (by decide +kernel) (by decide +kernel) (by decide +kernel) (by decide +kernel) (by decide +kernel) ?_
  refine fs_iloadn (j := 1) (by decide +kernel) rfl ?_
  refine fs_iloadn (j := 2) (by decide +kernel) rfl ?_
  exact fe_callS (idx := 168) (kd := 0) (n := 2) (wp := 785) (q := (786, 0)) (as := [.int x1, .int x2]) (rs := [.ref 66]) (by decide +kernel) (by decide +kernel) (by decide +kernel) (by decide) rfl (Nat.le_of_ble_eq_true rfl) rfl hc nx
theorem b_Cook_rests_9 {d : Nat} {x1 : Int32} {x2 : Int32} {o3 : Option Value} {o4 : Option Value} {sx1 : Int32} {S : fm_S} {r : Option Value × am_W} (hi0 : vp_in sx1 63) (nx : am_Ev d k_Cook_rests 14 [some (.ref 54), some (.int x1), some (.int x2), some (.int (S.1 66 sx1.toNatClampNeg)), some (.int (-1))] [] (fm_mk S) r) : am_Ev d k_Cook_rests 9 [some (.ref 54), some (.int x1), some (.int x2), o3, o4] [.int sx1, .ref 66] (fm_mk S) r := by
  refine fx_iald (n := sx1.toNatClampNeg) (len := 63) (by decide +kernel) (by decide +kernel) (by decide +kernel) hi0 rfl ?_
  refine fs_istoren (j := 3) (L' := [some (.ref 54), some (.int x1), some (.int x2), some (.int (S.1 66 sx1.toNatClampNeg)), o4]) (by decide +kernel) (Nat.le_of_ble_eq_true rfl) rfl ?_
  refine fs_iconst (n := -1) (v := (-1)) (by decide +kernel) (by decide) ?_
  refine fs_istore (j := 4) (L' := [some (.ref 54), some (.int x1), some (.int x2), some (.int (S.1 66 sx1.toNatClampNeg)), some (.int (-1))]) (by decide +kernel) (Nat.le_of_ble_eq_true rfl) rfl ?_
  exact nx
theorem b_Cook_rests_14 {d : Nat} {x1 : Int32} {x2 : Int32} {x3 : Int32} {x4 : Int32} {S : fm_S} {r : Option Value × am_W} (kt : (S.1 1 7) ≤ x4 → am_Ev d k_Cook_rests 49 [some (.ref 54), some (.int x1), some (.int x2), some (.int x3), some (.int x4)] [] (fm_mk S) r) (kf : ¬ (S.1 1 7) ≤ x4 → am_Ev d k_Cook_rests 26 [some (.ref 54), some (.int x1), some (.int x2), some (.int x3), some (.int x4)] [] (fm_mk S) r) : am_Ev d k_Cook_rests 14 [some (.ref 54), some (.int x1), some (.int x2), some (.int x3), some (.int x4)] [] (fm_mk S) r := by
  refine fs_iload (j := 4) (by decide +kernel) rfl ?_
  refine fs_aloadn (j := 0) (by decide +kernel) rfl ?_
  refine fe_getR (idx := 41) (t := 1) (f := 2) (fk := 2) (fin := 1) (wp := 251) (x := 1) (by decide +kernel) (by decide +kernel) (by decide +kernel) (by decide +kernel) (by decide +kernel) ?_
  refine fe_getI (idx := 111) (t := 6) (f := 7) (fk := 0) (fin := 0) (wp := 178) (by decide +kernel) (by decide +kernel) (by decide +kernel) (by decide +kernel) ?_
  exact fs_icge (off := 26) (tgt := 49) (by decide +kernel) (by decide) kt kf
theorem b_Cook_rests_26 {d : Nat} {x1 : Int32} {x2 : Int32} {x3 : Int32} {x4 : Int32} {v : Int32} {S1 : fm_S} {S : fm_S} {r : Option Value × am_W} (hc : am_Sp d k_Cook_pair [.int x4, .int x2] (fm_mk S) (some (.int v)) (fm_mk S1)) (nx : am_Ev (d + 1) k_Cook_rests 36 [some (.ref 54), some (.int x1), some (.int x2), some (.int x3), some (.int x4)] [.int v, .ref 66] (fm_mk S1) r) : am_Ev (d + 1) k_Cook_rests 26 [some (.ref 54), some (.int x1), some (.int x2), some (.int x3), some (.int x4)] [] (fm_mk S) r := by
  refine fs_aloadn (j := 0) (by decide +kernel) rfl ?_
  refine fe_getR (idx := 38) (t := 1) (f := 8) (fk := 2) (fin := 1) (wp := 257) (x := 66) (by decide +kernel) (by decide +kernel) (by decide +kernel) (by decide +kernel) (by decide +kernel) ?_
  refine fs_iload (j := 4) (by decide +kernel) rfl ?_
  refine fs_iloadn (j := 2) (by decide +kernel) rfl ?_
  exact fe_callS (idx := 168) (kd := 0) (n := 2) (wp := 785) (q := (786, 0)) (as := [.int x4, .int x2]) (rs := [.ref 66]) (by decide +kernel) (by decide +kernel) (by decide +kernel) (by decide) rfl (Nat.le_of_ble_eq_true rfl) rfl hc nx
theorem b_Cook_rests_36 {d : Nat} {x1 : Int32} {x2 : Int32} {x3 : Int32} {x4 : Int32} {sx1 : Int32} {S : fm_S} {r : Option Value × am_W} (hi0 : vp_in sx1 63) (kt : (S.1 66 sx1.toNatClampNeg) ≤ x3 → am_Ev d k_Cook_rests 43 [some (.ref 54), some (.int x1), some (.int x2), some (.int x3), some (.int x4)] [] (fm_mk S) r) (kf : ¬ (S.1 66 sx1.toNatClampNeg) ≤ x3 → am_Ev d k_Cook_rests 41 [some (.ref 54), some (.int x1), some (.int x2), some (.int x3), some (.int x4)] [] (fm_mk S) r) : am_Ev d k_Cook_rests 36 [some (.ref 54), some (.int x1), some (.int x2), some (.int x3), some (.int x4)] [.int sx1, .ref 66] (fm_mk S) r := by
  refine fx_iald (n := sx1.toNatClampNeg) (len := 63) (by decide +kernel) (by decide +kernel) (by decide +kernel) hi0 rfl ?_
  refine fs_iloadn (j := 3) (by decide +kernel) rfl ?_
  exact fs_icle (off := 5) (tgt := 43) (by decide +kernel) (by decide) kt kf
theorem b_Cook_rests_41 {d : Nat} {x1 : Int32} {x2 : Int32} {x3 : Int32} {x4 : Int32} {S : fm_S}  : am_Ev d k_Cook_rests 41 [some (.ref 54), some (.int x1), some (.int x2), some (.int x3), some (.int x4)] [] (fm_mk S) (some (.int 0), fm_mk S) := by
  refine fs_iconst (n := 0) (v := 0) (by decide +kernel) (by decide) ?_
  exact fe_retZ (by decide +kernel) (by decide +kernel) (by decide)
theorem b_Cook_rests_43 {d : Nat} {x1 : Int32} {x2 : Int32} {x3 : Int32} {x4 : Int32} {S : fm_S} {r : Option Value × am_W} (nx : am_Ev d k_Cook_rests 14 [some (.ref 54), some (.int x1), some (.int x2), some (.int x3), some (.int (x4 + 1))] [] (fm_mk S) r) : am_Ev d k_Cook_rests 43 [some (.ref 54), some (.int x1), some (.int x2), some (.int x3), some (.int x4)] [] (fm_mk S) r := by
  refine fs_iinc (j := 4) (n := 1) (v := 1) (L' := [some (.ref 54), some (.int x1), some (.int x2), some (.int x3), some (.int (x4 + 1))]) (by decide +kernel) rfl (Nat.le_of_ble_eq_true rfl) (by decide) rfl ?_
  refine fs_goto (off := -32) (tgt := 14) (by decide +kernel) (by decide) ?_
  exact nx
theorem b_Cook_rests_49 {d : Nat} {x1 : Int32} {x2 : Int32} {x3 : Int32} {x4 : Int32} {S : fm_S} {r : Option Value × am_W} (nx : am_Ev d k_Cook_rests 52 [some (.ref 54), some (.int x1), some (.int x2), some (.int x3), some (.int (-1))] [] (fm_mk S) r) : am_Ev d k_Cook_rests 49 [some (.ref 54), some (.int x1), some (.int x2), some (.int x3), some (.int x4)] [] (fm_mk S) r := by
  refine fs_iconst (n := -1) (v := (-1)) (by decide +kernel) (by decide) ?_
  refine fs_istore (j := 4) (L' := [some (.ref 54), some (.int x1), some (.int x2), some (.int x3), some (.int (-1))]) (by decide +kernel) (Nat.le_of_ble_eq_true rfl) rfl ?_
  exact nx
theorem b_Cook_rests_52 {d : Nat} {x1 : Int32} {x2 : Int32} {x3 : Int32} {x4 : Int32} {S : fm_S} {r : Option Value × am_W} (kt : (S.1 1 0) ≤ x4 → am_Ev d k_Cook_rests 87 [some (.ref 54), some (.int x1), some (.int x2), some (.int x3), some (.int x4)] [] (fm_mk S) r) (kf : ¬ (S.1 1 0) ≤ x4 → am_Ev d k_Cook_rests 64 [some (.ref 54), some (.int x1), some (.int x2), some (.int x3), some (.int x4)] [] (fm_mk S) r) : am_Ev d k_Cook_rests 52 [some (.ref 54), some (.int x1), some (.int x2), some (.int x3), some (.int x4)] [] (fm_mk S) r := by
  refine fs_iload (j := 4) (by decide +kernel) rfl ?_
  refine fs_aloadn (j := 0) (by decide +kernel) rfl ?_
  refine fe_getR (idx := 41) (t := 1) (f := 2) (fk := 2) (fin := 1) (wp := 251) (x := 1) (by decide +kernel) (by decide +kernel) (by decide +kernel) (by decide +kernel) (by decide +kernel) ?_
  refine fe_getI (idx := 69) (t := 6) (f := 0) (fk := 0) (fin := 0) (wp := 158) (by decide +kernel) (by decide +kernel) (by decide +kernel) (by decide +kernel) ?_
  exact fs_icge (off := 26) (tgt := 87) (by decide +kernel) (by decide) kt kf
theorem b_Cook_rests_64 {d : Nat} {x1 : Int32} {x2 : Int32} {x3 : Int32} {x4 : Int32} {v : Int32} {S1 : fm_S} {S : fm_S} {r : Option Value × am_W} (hc : am_Sp d k_Cook_pair [.int x1, .int x4] (fm_mk S) (some (.int v)) (fm_mk S1)) (nx : am_Ev (d + 1) k_Cook_rests 74 [some (.ref 54), some (.int x1), some (.int x2), some (.int x3), some (.int x4)] [.int v, .ref 66] (fm_mk S1) r) : am_Ev (d + 1) k_Cook_rests 64 [some (.ref 54), some (.int x1), some (.int x2), some (.int x3), some (.int x4)] [] (fm_mk S) r := by
  refine fs_aloadn (j := 0) (by decide +kernel) rfl ?_
  refine fe_getR (idx := 38) (t := 1) (f := 8) (fk := 2) (fin := 1) (wp := 257) (x := 66) (by decide +kernel) (by decide +kernel) (by decide +kernel) (by decide +kernel) (by decide +kernel) ?_
  refine fs_iloadn (j := 1) (by decide +kernel) rfl ?_
  refine fs_iload (j := 4) (by decide +kernel) rfl ?_
  exact fe_callS (idx := 168) (kd := 0) (n := 2) (wp := 785) (q := (786, 0)) (as := [.int x1, .int x4]) (rs := [.ref 66]) (by decide +kernel) (by decide +kernel) (by decide +kernel) (by decide) rfl (Nat.le_of_ble_eq_true rfl) rfl hc nx
theorem b_Cook_rests_74 {d : Nat} {x1 : Int32} {x2 : Int32} {x3 : Int32} {x4 : Int32} {sx1 : Int32} {S : fm_S} {r : Option Value × am_W} (hi0 : vp_in sx1 63) (kt : x3 ≤ (S.1 66 sx1.toNatClampNeg) → am_Ev d k_Cook_rests 81 [some (.ref 54), some (.int x1), some (.int x2), some (.int x3), some (.int x4)] [] (fm_mk S) r) (kf : ¬ x3 ≤ (S.1 66 sx1.toNatClampNeg) → am_Ev d k_Cook_rests 79 [some (.ref 54), some (.int x1), some (.int x2), some (.int x3), some (.int x4)] [] (fm_mk S) r) : am_Ev d k_Cook_rests 74 [some (.ref 54), some (.int x1), some (.int x2), some (.int x3), some (.int x4)] [.int sx1, .ref 66] (fm_mk S) r := by
  refine fx_iald (n := sx1.toNatClampNeg) (len := 63) (by decide +kernel) (by decide +kernel) (by decide +kernel) hi0 rfl ?_
  refine fs_iloadn (j := 3) (by decide +kernel) rfl ?_
  exact fs_icge (off := 5) (tgt := 81) (by decide +kernel) (by decide) kt kf
theorem b_Cook_rests_79 {d : Nat} {x1 : Int32} {x2 : Int32} {x3 : Int32} {x4 : Int32} {S : fm_S}  : am_Ev d k_Cook_rests 79 [some (.ref 54), some (.int x1), some (.int x2), some (.int x3), some (.int x4)] [] (fm_mk S) (some (.int 0), fm_mk S) := by
  refine fs_iconst (n := 0) (v := 0) (by decide +kernel) (by decide) ?_
  exact fe_retZ (by decide +kernel) (by decide +kernel) (by decide)
theorem b_Cook_rests_81 {d : Nat} {x1 : Int32} {x2 : Int32} {x3 : Int32} {x4 : Int32} {S : fm_S} {r : Option Value × am_W} (nx : am_Ev d k_Cook_rests 52 [some (.ref 54), some (.int x1), some (.int x2), some (.int x3), some (.int (x4 + 1))] [] (fm_mk S) r) : am_Ev d k_Cook_rests 81 [some (.ref 54), some (.int x1), some (.int x2), some (.int x3), some (.int x4)] [] (fm_mk S) r := by
  refine fs_iinc (j := 4) (n := 1) (v := 1) (L' := [some (.ref 54), some (.int x1), some (.int x2), some (.int x3), some (.int (x4 + 1))]) (by decide +kernel) rfl (Nat.le_of_ble_eq_true rfl) (by decide) rfl ?_
  refine fs_goto (off := -32) (tgt := 52) (by decide +kernel) (by decide) ?_
  exact nx
theorem b_Cook_rests_87 {d : Nat} {x1 : Int32} {x2 : Int32} {x3 : Int32} {x4 : Int32} {S : fm_S}  : am_Ev d k_Cook_rests 87 [some (.ref 54), some (.int x1), some (.int x2), some (.int x3), some (.int x4)] [] (fm_mk S) (some (.int 1), fm_mk S) := by
  refine fs_iconst (n := 1) (v := 1) (by decide +kernel) (by decide) ?_
  exact fe_retZ (by decide +kernel) (by decide +kernel) (by decide)
-- KitchenSiege$Cook.openAfter(II)I
theorem b_Cook_openAfter_0 {d : Nat} {x1 : Int32} {x2 : Int32} {o3 : Option Value} {o4 : Option Value} {o5 : Option Value} {o6 : Option Value} {S1 : fm_S} {S : fm_S} {r : Option Value × am_W} (hc : am_Sp d k_Days_copy [.ref 59, .ref 17] (fm_mk S) (none) (fm_mk S1)) (nx : am_Ev (d + 1) k_Cook_openAfter 14 [some (.ref 54), some (.int x1), some (.int x2), o3, o4, o5, o6] [] (fm_mk S1) r) : am_Ev (d + 1) k_Cook_openAfter 0 [some (.ref 54), some (.int x1), some (.int x2), o3, o4, o5, o6] [] (fm_mk S) r := by
  refine fs_aloadn (j := 0) (by decide +kernel) rfl ?_
  refine fe_getR (idx := 25) (t := 1) (f := 4) (fk := 2) (fin := 1) (wp := 253) (x := 59) (by decide +kernel) (by decide +kernel) (by decide +kernel) (by decide +kernel) (by decide +kernel) ?_
  refine fs_aloadn (j := 0) (by decide +kernel) rfl ?_
  refine fe_getR (idx := 41) (t := 1) (f := 2) (fk := 2) (fin := 1) (wp := 251) (x := 1) (by decide +kernel) (by decide +kernel) (by decide +kernel) (by decide +kernel) (by decide +kernel) ?_
  refine fe_getR (idx := 101) (t := 6) (f := 12) (fk := 2) (fin := 1) (wp := 189) (x := 17) (by decide +kernel) (by decide +kernel) (by decide +kernel) (by decide +kernel) (by decide +kernel) ?_
  exact fe_callV (t := 2) (idx := 174) (n := 1) (wp := 868) (q := (573, 574)) (as := [.ref 17]) (rs := []) (by decide +kernel) (by decide +kernel) (by decide +kernel) (by decide +kernel) rfl (Nat.le_of_ble_eq_true rfl) rfl hc nx
theorem b_Cook_openAfter_14 {d : Nat} {x1 : Int32} {x2 : Int32} {o3 : Option Value} {o4 : Option Value} {o5 : Option Value} {o6 : Option Value} {S : fm_S} {r : Option Value × am_W} (nx : am_Ev d k_Cook_openAfter 20 [some (.ref 54), some (.int x1), some (.int x2), some (.long x1.toInt64), none, some (.int 0), o6] [] (fm_mk S) r) : am_Ev d k_Cook_openAfter 14 [some (.ref 54), some (.int x1), some (.int x2), o3, o4, o5, o6] [] (fm_mk S) r := by
  refine fs_iloadn (j := 1) (by decide +kernel) rfl ?_
  refine fs_i2l (by decide +kernel) ?_
  refine fs_lstoren (j := 3) (L' := [some (.ref 54), some (.int x1), some (.int x2), some (.long x1.toInt64), none, o5, o6]) (by decide +kernel) (Nat.le_of_ble_eq_true rfl) rfl ?_
  refine fs_iconst (n := 0) (v := 0) (by decide +kernel) (by decide) ?_
  refine fs_istore (j := 5) (L' := [some (.ref 54), some (.int x1), some (.int x2), some (.long x1.toInt64), none, some (.int 0), o6]) (by decide +kernel) (Nat.le_of_ble_eq_true rfl) rfl ?_
  exact nx
theorem b_Cook_openAfter_20 {d : Nat} {x1 : Int32} {x2 : Int32} {y3 : Int64} {x5 : Int32} {o6 : Option Value} {S : fm_S} {r : Option Value × am_W} (kt : x2 ≤ x5 → am_Ev d k_Cook_openAfter 85 [some (.ref 54), some (.int x1), some (.int x2), some (.long y3), none, some (.int x5), o6] [] (fm_mk S) r) (kf : ¬ x2 ≤ x5 → am_Ev d k_Cook_openAfter 26 [some (.ref 54), some (.int x1), some (.int x2), some (.long y3), none, some (.int x5), o6] [] (fm_mk S) r) : am_Ev d k_Cook_openAfter 20 [some (.ref 54), some (.int x1), some (.int x2), some (.long y3), none, some (.int x5), o6] [] (fm_mk S) r := by
  refine fs_iload (j := 5) (by decide +kernel) rfl ?_
  refine fs_iloadn (j := 2) (by decide +kernel) rfl ?_
  exact fs_icge (off := 62) (tgt := 85) (by decide +kernel) (by decide) kt kf
theorem b_Cook_openAfter_26 {d : Nat} {x1 : Int32} {x2 : Int32} {y3 : Int64} {x5 : Int32} {o6 : Option Value} {S : fm_S} {r : Option Value × am_W} (kt : (S.1 1 7) ≤ ((((((y3 * 1103515245) + 12345) - ((y3 * 1103515245) + 12345) / 2147483648 * 2147483648) / 65536) - ((((y3 * 1103515245) + 12345) - ((y3 * 1103515245) + 12345) / 2147483648 * 2147483648) / 65536) / 7 * 7).toInt32) → am_Ev d k_Cook_openAfter 74 [some (.ref 54), some (.int x1), some (.int x2), some (.long (((y3 * 1103515245) + 12345) - ((y3 * 1103515245) + 12345) / 2147483648 * 2147483648)), none, some (.int x5), some (.int ((((((y3 * 1103515245) + 12345) - ((y3 * 1103515245) + 12345) / 2147483648 * 2147483648) / 65536) - ((((y3 * 1103515245) + 12345) - ((y3 * 1103515245) + 12345) / 2147483648 * 2147483648) / 65536) / 7 * 7).toInt32))] [.ref 59, .ref 54] (fm_mk S) r) (kf : ¬ (S.1 1 7) ≤ ((((((y3 * 1103515245) + 12345) - ((y3 * 1103515245) + 12345) / 2147483648 * 2147483648) / 65536) - ((((y3 * 1103515245) + 12345) - ((y3 * 1103515245) + 12345) / 2147483648 * 2147483648) / 65536) / 7 * 7).toInt32) → am_Ev d k_Cook_openAfter 69 [some (.ref 54), some (.int x1), some (.int x2), some (.long (((y3 * 1103515245) + 12345) - ((y3 * 1103515245) + 12345) / 2147483648 * 2147483648)), none, some (.int x5), some (.int ((((((y3 * 1103515245) + 12345) - ((y3 * 1103515245) + 12345) / 2147483648 * 2147483648) / 65536) - ((((y3 * 1103515245) + 12345) - ((y3 * 1103515245) + 12345) / 2147483648 * 2147483648) / 65536) / 7 * 7).toInt32))] [.ref 59, .ref 54] (fm_mk S) r) : am_Ev d k_Cook_openAfter 26 [some (.ref 54), some (.int x1), some (.int x2), some (.long y3), none, some (.int x5), o6] [] (fm_mk S) r := by
  refine fs_lloadn (j := 3) (by decide +kernel) rfl ?_
  refine fs_ldc2 (idx := 178) (q := 869) (v := 1103515245) (by decide +kernel) (by decide +kernel) ?_
  refine fs_lmul (by decide +kernel) ?_
  refine fs_ldc2 (idx := 180) (q := 870) (v := 12345) (by decide +kernel) (by decide +kernel) ?_
  refine fs_ladd (by decide +kernel) ?_
  refine fs_ldc2 (idx := 182) (q := 871) (v := 2147483648) (by decide +kernel) (by decide +kernel) ?_
  refine fe_lrem (by decide +kernel) (by decide) ?_
  refine fs_lstoren (j := 3) (L' := [some (.ref 54), some (.int x1), some (.int x2), some (.long (((y3 * 1103515245) + 12345) - ((y3 * 1103515245) + 12345) / 2147483648 * 2147483648)), none, some (.int x5), o6]) (by decide +kernel) (Nat.le_of_ble_eq_true rfl) rfl ?_
  refine fs_lloadn (j := 3) (by decide +kernel) rfl ?_
  refine fs_ldc2 (idx := 184) (q := 872) (v := 65536) (by decide +kernel) (by decide +kernel) ?_
  refine fe_ldiv (by decide +kernel) (by decide) ?_
  refine fs_ldc2 (idx := 186) (q := 873) (v := 7) (by decide +kernel) (by decide +kernel) ?_
  refine fe_lrem (by decide +kernel) (by decide) ?_
  refine fs_l2i (by decide +kernel) ?_
  refine fs_istore (j := 6) (L' := [some (.ref 54), some (.int x1), some (.int x2), some (.long (((y3 * 1103515245) + 12345) - ((y3 * 1103515245) + 12345) / 2147483648 * 2147483648)), none, some (.int x5), some (.int ((((((y3 * 1103515245) + 12345) - ((y3 * 1103515245) + 12345) / 2147483648 * 2147483648) / 65536) - ((((y3 * 1103515245) + 12345) - ((y3 * 1103515245) + 12345) / 2147483648 * 2147483648) / 65536) / 7 * 7).toInt32))]) (by decide +kernel) (Nat.le_of_ble_eq_true rfl) rfl ?_
  refine fs_aloadn (j := 0) (by decide +kernel) rfl ?_
  refine fs_aloadn (j := 0) (by decide +kernel) rfl ?_
  refine fe_getR (idx := 25) (t := 1) (f := 4) (fk := 2) (fin := 1) (wp := 253) (x := 59) (by decide +kernel) (by decide +kernel) (by decide +kernel) (by decide +kernel) (by decide +kernel) ?_
  refine fs_iload (j := 6) (by decide +kernel) rfl ?_
  refine fs_aloadn (j := 0) (by decide +kernel) rfl ?_
  refine fe_getR (idx := 41) (t := 1) (f := 2) (fk := 2) (fin := 1) (wp := 251) (x := 1) (by decide +kernel) (by decide +kernel) (by decide +kernel) (by decide +kernel) (by decide +kernel) ?_
  refine fe_getI (idx := 111) (t := 6) (f := 7) (fk := 0) (fin := 0) (wp := 178) (by decide +kernel) (by decide +kernel) (by decide +kernel) (by decide +kernel) ?_
  exact fs_icge (off := 8) (tgt := 74) (by decide +kernel) (by decide) kt kf
theorem b_Cook_openAfter_69 {d : Nat} {x1 : Int32} {x2 : Int32} {y3 : Int64} {x5 : Int32} {x6 : Int32} {S : fm_S} {r : Option Value × am_W} (nx : am_Ev d k_Cook_openAfter 75 [some (.ref 54), some (.int x1), some (.int x2), some (.long y3), none, some (.int x5), some (.int x6)] [.int x6, .ref 59, .ref 54] (fm_mk S) r) : am_Ev d k_Cook_openAfter 69 [some (.ref 54), some (.int x1), some (.int x2), some (.long y3), none, some (.int x5), some (.int x6)] [.ref 59, .ref 54] (fm_mk S) r := by
  refine fs_iload (j := 6) (by decide +kernel) rfl ?_
  refine fs_goto (off := 4) (tgt := 75) (by decide +kernel) (by decide) ?_
  exact nx
theorem b_Cook_openAfter_74 {d : Nat} {x1 : Int32} {x2 : Int32} {y3 : Int64} {x5 : Int32} {x6 : Int32} {S : fm_S} {r : Option Value × am_W} (nx : am_Ev d k_Cook_openAfter 75 [some (.ref 54), some (.int x1), some (.int x2), some (.long y3), none, some (.int x5), some (.int x6)] [.int (-1), .ref 59, .ref 54] (fm_mk S) r) : am_Ev d k_Cook_openAfter 74 [some (.ref 54), some (.int x1), some (.int x2), some (.long y3), none, some (.int x5), some (.int x6)] [.ref 59, .ref 54] (fm_mk S) r := by
  refine fs_iconst (n := -1) (v := (-1)) (by decide +kernel) (by decide) ?_
  exact nx
theorem b_Cook_openAfter_75 {d : Nat} {x1 : Int32} {x2 : Int32} {y3 : Int64} {x5 : Int32} {x6 : Int32} {sx2 : Int32} {v : Int32} {S1 : fm_S} {S : fm_S} {r : Option Value × am_W} (hc : am_Sp d k_Cook_pass [.ref 54, .ref 59, .int sx2] (fm_mk S) (some (.int v)) (fm_mk S1)) (nx : am_Ev (d + 1) k_Cook_openAfter 78 [some (.ref 54), some (.int x1), some (.int x2), some (.long y3), none, some (.int x5), some (.int x6)] [.int v] (fm_mk S1) r) : am_Ev (d + 1) k_Cook_openAfter 75 [some (.ref 54), some (.int x1), some (.int x2), some (.long y3), none, some (.int x5), some (.int x6)] [.int sx2, .ref 59, .ref 54] (fm_mk S) r := by
  exact fe_callV (t := 1) (idx := 188) (n := 2) (wp := 874) (q := (591, 592)) (as := [.ref 59, .int sx2]) (rs := []) (by decide +kernel) (by decide +kernel) (by decide +kernel) (by decide +kernel) rfl (Nat.le_of_ble_eq_true rfl) rfl hc nx
theorem b_Cook_openAfter_78 {d : Nat} {x1 : Int32} {x2 : Int32} {y3 : Int64} {x5 : Int32} {x6 : Int32} {sx0 : Int32} {S : fm_S} {r : Option Value × am_W} (nx : am_Ev d k_Cook_openAfter 20 [some (.ref 54), some (.int x1), some (.int x2), some (.long y3), none, some (.int (x5 + 1)), some (.int x6)] [] (fm_mk S) r) : am_Ev d k_Cook_openAfter 78 [some (.ref 54), some (.int x1), some (.int x2), some (.long y3), none, some (.int x5), some (.int x6)] [.int sx0] (fm_mk S) r := by
  refine fs_pop (by decide +kernel) rfl ?_
  refine fs_iinc (j := 5) (n := 1) (v := 1) (L' := [some (.ref 54), some (.int x1), some (.int x2), some (.long y3), none, some (.int (x5 + 1)), some (.int x6)]) (by decide +kernel) rfl (Nat.le_of_ble_eq_true rfl) (by decide) rfl ?_
  refine fs_goto (off := -62) (tgt := 20) (by decide +kernel) (by decide) ?_
  exact nx
theorem b_Cook_openAfter_85 {d : Nat} {x1 : Int32} {x2 : Int32} {y3 : Int64} {x5 : Int32} {o6 : Option Value} {v : Int32} {S1 : fm_S} {S : fm_S} {r : Option Value × am_W} (hc : am_Sp d k_Days_openOf [.ref 59, .int (S.1 1 0)] (fm_mk S) (some (.int v)) (fm_mk S1)) (nx : am_Ev (d + 1) k_Cook_openAfter 99 [some (.ref 54), some (.int x1), some (.int x2), some (.long y3), none, some (.int x5), o6] [.int v] (fm_mk S1) r) : am_Ev (d + 1) k_Cook_openAfter 85 [some (.ref 54), some (.int x1), some (.int x2), some (.long y3), none, some (.int x5), o6] [] (fm_mk S) r := by
  refine fs_aloadn (j := 0) (by decide +kernel) rfl ?_
  refine fe_getR (idx := 25) (t := 1) (f := 4) (fk := 2) (fin := 1) (wp := 253) (x := 59) (by decide +kernel) (by decide +kernel) (by decide +kernel) (by decide +kernel) (by decide +kernel) ?_
  refine fs_aloadn (j := 0) (by decide +kernel) rfl ?_
  refine fe_getR (idx := 41) (t := 1) (f := 2) (fk := 2) (fin := 1) (wp := 251) (x := 1) (by decide +kernel) (by decide +kernel) (by decide +kernel) (by decide +kernel) (by decide +kernel) ?_
  refine fe_getI (idx := 69) (t := 6) (f := 0) (fk := 0) (fin := 0) (wp := 158) (by decide +kernel) (by decide +kernel) (by decide +kernel) (by decide +kernel) ?_
  exact fe_callV (t := 2) (idx := 191) (n := 1) (wp := 875) (q := (876, 877)) (as := [.int (S.1 1 0)]) (rs := []) (by decide +kernel) (by decide +kernel) (by decide +kernel) (by decide +kernel) rfl (Nat.le_of_ble_eq_true rfl) rfl hc nx
theorem b_Cook_openAfter_99 {d : Nat} {x1 : Int32} {x2 : Int32} {y3 : Int64} {x5 : Int32} {o6 : Option Value} {sx0 : Int32} {S : fm_S}  : am_Ev d k_Cook_openAfter 99 [some (.ref 54), some (.int x1), some (.int x2), some (.long y3), none, some (.int x5), o6] [.int sx0] (fm_mk S) (some (.int sx0), fm_mk S) := by
  exact fe_retI (by decide +kernel) (by decide +kernel)
